/-! the whole object between two calls -/
def TB (n : Nat) : Nat := 20000 * (n + 1)
theorem TB_up {n : Nat} : TB n + 20000 = TB (n + 1) := by unfold TB; omega
theorem TB_lt {n : Nat} (hn : n ≤ 50000) : TB n < 1073741824 := by unfold TB; omega
theorem bl_HB {μ : Mm} {S : Nat} : bl S (HB μ S) μ = μ := bl_self
def Ho (μ : Mm) (o m : Nat) : Prop := o < 5 ∧ m ≤ 4 ∧ μ 213 1 = nI o ∧ μ 213 2 = nI m
def Tx (μ : Mm) : Prop := ∃ len, len ≤ 50 ∧ μ 745 1 = nI len
def M29 (n : Nat) (μ : Mm) (r : Nat → Int32) (ng np nx nl : Nat) : Prop := Rel (HB μ 1) r (TB n) ng np nx nl ∧ (∃ o m, Ho μ o m) ∧ Tx μ
def Top (n : Nat) (μ : Mm) (r : Nat → Int32) (ng np nx nl : Nat) : Prop := ∃ o m, Ho μ o (m + 1) ∧ Rel (HB μ (215 + 106 * ((o + m) % 5))) r (TB n) ng np nx nl
section STATE29
variable {μ : Mm} {r : Nat → Int32} {n T ng np nx nl o m : Nat}
theorem Rel.to {S S' T' : Nat} {μ' : Mm} (h : Rel (HB μ S) r T ng np nx nl) (e : ∀ q, q < 106 → μ' (S' + q) = μ (S + q)) (hT : T ≤ T') (hT' : T' < 1073741824) : Rel (HB μ' S') r T' ng np nx nl := (h.blk (τ := HB μ' S') e).mono hT hT'
theorem prep29 (hO : Ho μ o m) (hR : Rel (HB μ 1) r T ng np nx nl) : ∃ μ1 : Mm, (∀ q, q < 215 + 106 * ((o + m) % 5) ∨ 215 + 106 * ((o + m) % 5) + 106 ≤ q → μ1 q = μ q) ∧ Rel (HB μ1 (215 + 106 * ((o + m) % 5))) r T ng np nx nl ∧ ∀ (Φ : Unit → Mm → Prop), Φ () μ1 → w_X2_prepare 1 μ Φ := by
  obtain ⟨ho, hm, e1, e2⟩ := hO
  have hlt : (o + m) % 5 < 5 := Nat.mod_lt _ (by decide)
  obtain ⟨τ', h1, h2⟩ := sim_copy (S := 1) (S' := 215 + 106 * ((o + m) % 5)) (τ := HB μ (215 + 106 * ((o + m) % 5))) (μ := μ) hR (fun τ q hq => bl_out (by omega))
  refine ⟨bl (215 + 106 * ((o + m) % 5)) τ' μ, fun q hq => bl_out hq, h1.hb, fun Φ hΦ => ?_⟩
  have h3 := h2 Φ hΦ
  rw [bl_HB] at h3
  unfold w_X2_prepare w_X2_rowOf
  rw [e1, e2, d_fm (n := o + m) (d := 5) (k := 5) (nI_add o m) (by omega) rfl (by decide) (by decide)]
  simp only [vin hlt (show 5 < 2147483648 by decide), true_and, cl (show (o + m) % 5 < 2147483648 by omega)]
  exact h3
theorem keep29 (hO : Ho μ o m) (hR : Rel (HB μ (215 + 106 * ((o + m) % 5))) r (TB n) ng np nx nl) (hn : n ≤ 50000) : ∃ μ3 : Mm, (∀ q, q ≠ 213 → μ3 q = μ q) ∧ (∀ Φ : Unit → Mm → Prop, Φ () μ3 → w_X2_keep μ Φ) ∧ Top n μ3 r ng np nx nl := by
  obtain ⟨ho, hm, e1, e2⟩ := hO
  by_cases hm4 : m < 4
  · refine ⟨up2 μ 213 2 (nI (m + 1)), fun q hq => up2_k hq, fun Φ hΦ => ?_, o, m, ⟨ho, by omega, by rw [up2_n (Or.inr (by decide))]; exact e1, up2_s _ _ _ _⟩, hR.to (fun q hq => up2_k (by omega)) (Nat.le_refl _) (TB_lt hn)⟩
    unfold w_X2_keep
    have hng : ¬ (4 : Int32) ≤ nI m := nI_ge (a := m) (b := 4) (by omega) (by omega)
    rw [e2, if_neg hng, nI_1]
    rintro _ rfl
    exact hΦ
  · have hm' : m = 4 := by omega
    subst hm'
    refine ⟨up2 μ 213 1 (nI ((o + 1) % 5)), fun q hq => up2_k hq, fun Φ hΦ => ?_, (o + 1) % 5, 3, ⟨Nat.mod_lt _ (by decide), by decide, up2_s _ _ _ _, by rw [up2_n (Or.inr (by decide))]; exact e2⟩, ?_⟩
    · unfold w_X2_keep w_X2_rowOf
      rw [e2, if_pos (by decide), e1, d_fm (n := o + 1) (d := 5) (k := 5) (nI_1 o) (by omega) rfl (by decide) (by decide)]
      rintro _ rfl
      exact hΦ
    · rw [show ((o + 1) % 5 + 3) % 5 = (o + 4) % 5 by omega]
      exact hR.to (fun q hq => up2_k (by omega)) (Nat.le_refl _) (TB_lt hn)
/-- what a call does to the row -/
def Acts (wc : Nat → Mm → (Int32 → Mm → Prop) → Prop) (n : Nat) (r : Nat → Int32) (ng np nx nl : Nat) (Q : Int32 → (Nat → Int32) → Nat → Nat → Nat → Nat → Prop) : Prop := ∀ σ : Mm, Rel σ r (TB n) ng np nx nl → ∃ (σ' : Mm) (r' : Nat → Int32) (v : Int32) (ng' np' nx' nl' : Nat), Rel σ' r' (TB (n + 1)) ng' np' nx' nl' ∧ (∀ (S : Nat) (μ : Mm) (Φ : Int32 → Mm → Prop), Φ v (bl S σ' μ) → wc S (bl S σ μ) Φ) ∧ Q v r' ng' np' nx' nl'
theorem act29 {wc : Nat → Mm → (Int32 → Mm → Prop) → Prop} {Q : Int32 → (Nat → Int32) → Nat → Nat → Nat → Nat → Prop} {Ψ : Int32 → Mm → Prop} (hn : n < 40000) (hM : M29 n μ r ng np nx nl) (H : Acts wc n r ng np nx nl Q) (hΨ : ∀ (v : Int32) (r' : Nat → Int32) (ng' np' nx' nl' : Nat) (μ' : Mm), Q v r' ng' np' nx' nl' → M29 (n + 1) μ' r' ng' np' nx' nl' → (¬ v < 0 → Top (n + 1) μ' r ng np nx nl) → Ψ v μ') : w_X2_prepare 1 μ (fun _ u1 => wc 1 u1 (fun r4 u3 => w_X9_recorded r4 u3 (fun r6 u5 => Ψ r6 u5))) := by
  obtain ⟨hR, ⟨o, m, hO⟩, hX⟩ := hM
  obtain ⟨μ1, p1, p2, p3⟩ := prep29 hO hR
  refine p3 _ ?_
  have hlt : (o + m) % 5 < 5 := Nat.mod_lt _ (by decide)
  have hR1 : Rel (HB μ1 1) r (TB n) ng np nx nl := hR.blk (fun q hq => p1 (1 + q) (by omega))
  obtain ⟨σ', r', v, ng', np', nx', nl', hR', hc, hQ⟩ := H _ hR1
  have hc1 := hc 1 μ1
  rw [bl_HB] at hc1
  refine hc1 _ ?_
  have far : ∀ q, 107 ≤ q → bl 1 σ' μ1 q = μ1 q := fun q hq => bl_out (by omega)
  have hO1 : Ho (bl 1 σ' μ1) o m := ⟨hO.1, hO.2.1, by rw [far _ (by decide), p1 _ (by omega)]; exact hO.2.2.1, by rw [far _ (by decide), p1 _ (by omega)]; exact hO.2.2.2⟩
  have hX1 : Tx (bl 1 σ' μ1) := by
    obtain ⟨len, l1, l2⟩ := hX
    exact ⟨len, l1, by rw [far _ (by decide), p1 _ (by omega)]; exact l2⟩
  unfold w_X9_recorded
  by_cases hv : v < 0
  · rw [if_pos hv]
    exact hΨ v r' ng' np' nx' nl' _ hQ ⟨hR'.hb, ⟨o, m, hO1⟩, hX1⟩ (fun h => absurd hv h)
  · rw [if_neg hv]
    have hP : Rel (HB (bl 1 σ' μ1) (215 + 106 * ((o + m) % 5))) r (TB (n + 1)) ng np nx nl := p2.to (fun q hq => far _ (by omega)) (by have := TB_up (n := n); omega) (TB_lt (by omega))
    obtain ⟨μ3, k1, k2, k3⟩ := keep29 hO1 hP (by omega)
    refine k2 _ (hΨ v r' ng' np' nx' nl' _ hQ ⟨hR'.hb.to (fun q hq => k1 _ (by omega)) (Nat.le_refl _) (TB_lt (by omega)), ?_, ?_⟩ (fun _ => k3))
    · obtain ⟨o', m', h1, -⟩ := k3
      exact ⟨o', m' + 1, h1⟩
    · obtain ⟨len, l1, l2⟩ := hX1
      exact ⟨len, l1, by rw [k1 745 (by decide)]; exact l2⟩
theorem fail29 {Q : Int32 → (Nat → Int32) → Nat → Nat → Nat → Nat → Prop} {Ψ : Int32 → Mm → Prop} {a : Int32} (hn : n < 40000) (hM : M29 n μ r ng np nx nl) (H : Acts (fun S => w_X8_putOutOfOrder S a) n r ng np nx nl Q) (hΨ : ∀ (v : Int32) (r' : Nat → Int32) (ng' np' nx' nl' : Nat) (μ' : Mm), Q v r' ng' np' nx' nl' → M29 (n + 1) μ' r' ng' np' nx' nl' → ((0 ≤ v ∨ v = -5) → Top (n + 1) μ' r ng np nx nl) → Ψ v μ') : w_X9_fail a μ Ψ := by
  obtain ⟨hR, ⟨o, m, hO⟩, hX⟩ := hM
  obtain ⟨μ1, p1, p2, p3⟩ := prep29 hO hR
  unfold w_X9_fail
  refine p3 _ ?_
  have hlt : (o + m) % 5 < 5 := Nat.mod_lt _ (by decide)
  have hR1 : Rel (HB μ1 1) r (TB n) ng np nx nl := hR.blk (fun q hq => p1 (1 + q) (by omega))
  obtain ⟨σ', r', v, ng', np', nx', nl', hR', hc, hQ⟩ := H _ hR1
  have hc1 := hc 1 μ1
  rw [bl_HB] at hc1
  refine hc1 _ ?_
  have far : ∀ q, 107 ≤ q → bl 1 σ' μ1 q = μ1 q := fun q hq => bl_out (by omega)
  have hO1 : Ho (bl 1 σ' μ1) o m := ⟨hO.1, hO.2.1, by rw [far _ (by decide), p1 _ (by omega)]; exact hO.2.2.1, by rw [far _ (by decide), p1 _ (by omega)]; exact hO.2.2.2⟩
  have hX1 : Tx (bl 1 σ' μ1) := by
    obtain ⟨len, l1, l2⟩ := hX
    exact ⟨len, l1, by rw [far _ (by decide), p1 _ (by omega)]; exact l2⟩
  have hP : Rel (HB (bl 1 σ' μ1) (215 + 106 * ((o + m) % 5))) r (TB (n + 1)) ng np nx nl := p2.to (fun q hq => far _ (by omega)) (by have := TB_up (n := n); omega) (TB_lt (by omega))
  obtain ⟨μ3, k1, k2, k3⟩ := keep29 hO1 hP (by omega)
  have fin : w_X2_keep (bl 1 σ' μ1) (fun _ u8 => Ψ v u8) → (0 ≤ v ∨ v = -5) → True := fun _ _ => trivial
  have keep : (0 ≤ v ∨ v = -5) → w_X2_keep (bl 1 σ' μ1) (fun _ u8 => Ψ v u8) := fun hv => by
    refine k2 _ (hΨ v r' ng' np' nx' nl' _ hQ ⟨hR'.hb.to (fun q hq => k1 _ (by omega)) (Nat.le_refl _) (TB_lt (by omega)), ?_, ?_⟩ (fun _ => k3))
    · obtain ⟨o', m', h1, -⟩ := k3
      exact ⟨o', m' + 1, h1⟩
    · obtain ⟨len, l1, l2⟩ := hX1
      exact ⟨len, l1, by rw [k1 745 (by decide)]; exact l2⟩
  unfold w_X9_isError
  by_cases h0 : 0 ≤ v
  · rw [if_pos h0]
    show (if (0 : Int32) = 0 then _ else _)
    rw [if_pos rfl]
    exact keep (Or.inl h0)
  · rw [if_neg h0]
    by_cases h5 : v = -5
    · rw [if_pos h5]
      show (if (0 : Int32) = 0 then _ else _)
      rw [if_pos rfl]
      exact keep (Or.inr h5)
    · rw [if_neg h5]
      show (if (1 : Int32) = 0 then _ else _)
      rw [if_neg (by decide)]
      refine hΨ v r' ng' np' nx' nl' _ hQ ⟨hR'.hb, ⟨o, m, hO1⟩, hX1⟩ (fun h => ?_)
      rcases h with h | h
      · exact absurd h h0
      · exact absurd h h5
theorem undo29 {Ψ : Int32 → Mm → Prop} {r0 : Nat → Int32} {g0 p0 x0 l0 : Nat} (hn : n < 40000) (hM : M29 n μ r ng np nx nl) (hT : Top n μ r0 g0 p0 x0 l0) (hΨ : ∀ (k : Nat) (μ' : Mm), k ≤ 4 → M29 n μ' r0 g0 p0 x0 l0 → (∀ q, 745 ≤ q → μ' q = μ q) → Ψ (nI k) μ') : w_X9_undo μ Ψ := by
  obtain ⟨-, -, hX⟩ := hM
  obtain ⟨o, k, ⟨ho, hm, e1, e2⟩, hR⟩ := hT
  obtain ⟨μ1, f1⟩ : ∃ μ1 : Mm, μ1 = up2 μ 213 2 (nI k) := ⟨_, rfl⟩
  have fk : ∀ q, q ≠ 213 → μ1 q = μ q := fun q hq => by rw [f1, up2_k hq]
  have hlt : (o + k) % 5 < 5 := Nat.mod_lt _ (by decide)
  have hR1 : Rel (HB μ1 (215 + 106 * ((o + k) % 5))) r0 (TB n) g0 p0 x0 l0 := hR.to (fun q hq => fk _ (by omega)) (Nat.le_refl _) (TB_lt (by omega))
  obtain ⟨τ', t1, t2⟩ := sim_copy (S := 215 + 106 * ((o + k) % 5)) (S' := 1) (τ := HB μ1 1) (μ := μ1) hR1 (fun τ q hq => bl_out (by omega))
  have hz : ¬ nI (k + 1) = 0 := nI_ne0 (by omega) (by omega)
  have hng : ¬ nI k < 0 := nI_pos (by omega)
  unfold w_X9_undo
  rw [e2, if_neg hz]
  unfold w_X2_takeLatest w_X2_rowOf
  rw [e2, nI_pred, if_neg hng]
  rintro _ rfl
  rw [← f1, show μ1 213 1 = nI o by rw [f1, up2_n (Or.inr (by decide))]; exact e1, show μ1 213 2 = nI k by rw [f1, up2_s], d_fm (n := o + k) (d := 5) (k := 5) (nI_add o k) (by omega) rfl (by decide) (by decide)]
  simp only [vin hlt (show 5 < 2147483648 by decide), true_and, cl (show (o + k) % 5 < 2147483648 by omega)]
  have t3 := t2 (fun _ u5 => Ψ (u5 213 2) u5) ?_
  · rw [bl_HB] at t3
    exact t3
  · have far : ∀ q, 107 ≤ q → bl 1 τ' μ1 q = μ1 q := fun q hq => bl_out (by omega)
    rw [far _ (by decide), show μ1 213 2 = nI k by rw [f1, up2_s]]
    refine hΨ k _ (by omega) ⟨t1.hb, ⟨o, k, ho, by omega, ?_, ?_⟩, ?_⟩ (fun q hq => by rw [far _ (by omega), fk _ (by omega)])
    · rw [far _ (by decide), f1, up2_n (Or.inr (by decide))]; exact e1
    · rw [far _ (by decide), f1, up2_s]
    · obtain ⟨len, l1, l2⟩ := hX
      exact ⟨len, l1, by rw [far _ (by decide), fk _ (by decide)]; exact l2⟩
/-- the text alone changes -/
theorem M29.text {μ' : Mm} (hM : M29 n μ r ng np nx nl) (f : ∀ q, q < 745 → μ' q = μ q) (hX : Tx μ') (hn : n ≤ 50000) : M29 n μ' r ng np nx nl := by
  obtain ⟨hR, ⟨o, m, h1, h2, h3, h4⟩, -⟩ := hM
  exact ⟨hR.to (fun q hq => f _ (by omega)) (Nat.le_refl _) (TB_lt hn), ⟨o, m, h1, h2, by rw [f _ (by decide)]; exact h3, by rw [f _ (by decide)]; exact h4⟩, hX⟩
theorem Top.text {μ' : Mm} (hT : Top n μ r ng np nx nl) (f : ∀ q, q < 745 → μ' q = μ q) (hn : n ≤ 50000) : Top n μ' r ng np nx nl := by
  obtain ⟨o, m, ⟨h1, h2, h3, h4⟩, hR⟩ := hT
  have hlt : (o + m) % 5 < 5 := Nat.mod_lt _ (by decide)
  exact ⟨o, m, ⟨h1, h2, by rw [f _ (by decide)]; exact h3, by rw [f _ (by decide)]; exact h4⟩, hR.to (fun q hq => f _ (by omega)) (Nat.le_refl _) (TB_lt hn)⟩
theorem type29 {len : Nat} {a : Int32} {Φ : Int32 → Mm → Prop} (h : μ 745 1 = nI len) (hl : len < 50) : w_X9_type a μ Φ = Φ (nI (len + 1)) (up2 (up2 μ 746 len (vp_nar .char a)) 745 1 (nI (len + 1))) := by
  unfold w_X9_type w_X3_append
  have hlt : nI len < 50 := nI_lt (b := 50) (by omega) (by omega)
  have e : up2 μ 746 len (vp_nar .char a) 745 1 = nI len := by rw [up2_n (Or.inl (by decide))]; exact h
  rw [h, if_neg (nI_pos (by omega)), if_pos hlt, vin (show len < 50 by omega) (by decide), true_and, cl (by omega)]
  simp only [forall_eq, e, nI_1, up2_s]
theorem clear29 {Φ : Int32 → Mm → Prop} : w_X9_clearText μ Φ = Φ (μ 745 1) (up2 μ 745 1 0) := by
  unfold w_X9_clearText w_X3_erase
  simp only [forall_eq]
/-- what is foreseen -/
theorem foresee_29 {p : Nat} {Ψ : Int32 → Mm → Prop} (hn : n < 40000) (hM : M29 n μ r ng np nx 1) (hp : p < np) (hw : r (120 + 7 * p + 0) = 1 ∨ r (120 + 7 * p + 0) = 2 ∨ r (120 + 7 * p + 0) = 4) (hΨ : ∀ (v : Int32) (μ' : Mm), (v = -5 ∨ ∃ j, 1 ≤ j ∧ j ≤ 500 ∧ v = nI j ∧ Will np ng r p j) → M29 n μ' r ng np nx 1 → Ψ v μ') : w_X9_passesIn (nI p) μ Ψ := by
  obtain ⟨h, ⟨o, m, hO⟩, hX⟩ := hM
  obtain ⟨n1, n2, n3, n4⟩ := h.1.n
  have hp40 : p < 40 := by omega
  have e0 : HB μ 1 (50 + p) 2 = r (120 + 7 * p + 0) := h.1.2.2.1 p 2 hp (by decide)
  have ew : μ (1 + 50 + p) 2 = r (120 + 7 * p + 0) := by rw [Nat.add_assoc]; exact e0
  have hA : ∀ (Φ : Option Nat → Mm → Prop), w_X8_personAt 1 (nI p) μ Φ = Φ (some (1 + 50 + p)) μ := fun Φ => by
    have k := d_personAt_y (S := 1) (σ := HB μ 1) (μ := μ) (Φ := Φ) h.1.1.2.1.1 hp n2
    rw [bl_HB] at k
    exact k
  obtain ⟨τ', t1, t2⟩ := sim_copy (S := 1) (S' := 107) (τ := HB μ 107) (μ := μ) h (fun τ q hq => bl_out (by omega))
  obtain ⟨σ', v, q1, q2⟩ := foresee29 (p := p) 500 0 (by omega) (by have := TB_lt (n := n + 1) (by omega); have := TB_up (n := n); omega) t1 hp hw
  have hC : w_X8_copyFrom 107 1 μ (fun _ u7 => (w_X8_ticksUntilPassed 107 (nI p) u7 (fun r10 u9 => Ψ r10 u9))) := by
    have t3 := t2 (fun _ u7 => (w_X8_ticksUntilPassed 107 (nI p) u7 (fun r10 u9 => Ψ r10 u9))) ?_
    · rw [bl_HB] at t3
      exact t3
    · unfold w_X8_ticksUntilPassed
      rw [d_personAt_y t1.1.1.2.1.1 hp n2, opt_some]
      refine q1 107 μ _ (hΨ v _ ?_ ⟨h.to (fun q hq => bl_out (by omega)) (Nat.le_refl _) (TB_lt (by omega)), ⟨o, m, hO.1, hO.2.1, by rw [bl_out (by omega)]; exact hO.2.2.1, by rw [bl_out (by omega)]; exact hO.2.2.2⟩, ?_⟩)
      · rcases q2 with e | ⟨j, j1, j2, j3, j4⟩
        · exact Or.inl e
        · exact Or.inr ⟨j, j1, j2, by rw [j3]; congr 1; omega, j4⟩
      · obtain ⟨len, l1, l2⟩ := hX
        exact ⟨len, l1, by rw [bl_out (by omega)]; exact l2⟩
  unfold w_X9_passesIn w_X5_isWaiting
  rw [hA, opt_some, ew]
  rcases hw with q | q | q <;> rw [q]
  · rw [if_pos (by decide)]
    exact hC
  · rw [if_neg (by decide), if_neg (by decide)]
    show (if (0 : Int32) = 0 then _ else _)
    rw [if_pos rfl, ew, q, if_pos (by decide)]
    exact hC
  · rw [if_neg (by decide), if_pos (by decide)]
    exact hC
end STATE29
