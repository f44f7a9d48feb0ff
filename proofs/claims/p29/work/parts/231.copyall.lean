/-! a State copied: its gates, people, pools, passes -/
section COPYALL
variable {S S' : Nat} {σ τ μ : Mm} {r : Nat → Int32} {T ng np nx nl : Nat}
theorem d_gcopy {g n m : Nat} (hrd : ∀ (τ : Mm) (q : Nat), q < 106 → bl S' τ μ (S + q) = σ q) (hg : g < 8) (hl0 : σ (11 + 5 * g + 2 * 0) 1 = nI n) (hn : n ≤ 40) (hl1 : σ (11 + 5 * g + 2 * 1) 1 = nI m) (hm : m ≤ 40) (hB : isB (σ (10 + 5 * g) 9)) : ∃ τ', Cpy σ τ τ' ∧ (∀ j, 2 ≤ j → j < 15 → τ' (10 + 5 * g) j = σ (10 + 5 * g) j) ∧ (∀ e, e < 2 → τ' (11 + 5 * g + 2 * e) 1 = σ (11 + 5 * g + 2 * e) 1) ∧ (∀ e, e < 2 → ∀ k, σ (11 + 5 * g + 2 * e) 1 = nI k → k ≤ 40 → ∀ j, j < k → τ' (12 + 5 * g + 2 * e) j = σ (12 + 5 * g + 2 * e) j) ∧ ∀ (Φ : Unit → Mm → Prop), Φ () (bl S' τ' μ) → w_X1_copyFrom (S' + 10 + 5 * g) (S + 10 + 5 * g) (bl S' τ μ) Φ := by
  have hG : 10 + 5 * g < 106 := by omega
  obtain ⟨τ1, a1, a2, a3, a4⟩ := d_qcopy (τ := τ) (c := 11 + 5 * g + 2 * 0) hrd (by omega) hl0 hn
  obtain ⟨τ2, b1, b2, b3, b4⟩ := d_qcopy (τ := τ1) (c := 11 + 5 * g + 2 * 1) hrd (by omega) hl1 hm
  obtain ⟨τ3, h3⟩ : ∃ τ3 : Mm, τ3 = (up2 (up2 (up2 (up2 (up2 (up2 (up2 (up2 (up2 (up2 (up2 (up2 (up2 τ2 (10 + 5 * g) 2 (σ (10 + 5 * g) 2)) (10 + 5 * g) 3 (σ (10 + 5 * g) 3)) (10 + 5 * g) 4 (σ (10 + 5 * g) 4)) (10 + 5 * g) 5 (σ (10 + 5 * g) 5)) (10 + 5 * g) 6 (σ (10 + 5 * g) 6)) (10 + 5 * g) 7 (σ (10 + 5 * g) 7)) (10 + 5 * g) 8 (σ (10 + 5 * g) 8)) (10 + 5 * g) 9 (σ (10 + 5 * g) 9)) (10 + 5 * g) 10 (σ (10 + 5 * g) 10)) (10 + 5 * g) 11 (σ (10 + 5 * g) 11)) (10 + 5 * g) 12 (σ (10 + 5 * g) 12)) (10 + 5 * g) 13 (σ (10 + 5 * g) 13)) (10 + 5 * g) 14 (σ (10 + 5 * g) 14)) := ⟨_, rfl⟩
  have k3 : Cpy σ τ2 τ3 := by
    rw [h3]
    exact (((((((((((((Cpy.refl.val rfl).val rfl).val rfl).val rfl).val rfl).val rfl).val rfl).val rfl).val rfl).val rfl).val rfl).val rfl).val rfl)
  refine ⟨τ3, (a1.trans b1).trans k3, fun j j1 j2 => ?_, fun e he => ?_, fun e he k hk hk40 j hj => ?_, fun Φ hΦ => ?_⟩
  · rw [h3]
    rcases (show j = 2 ∨ j = 3 ∨ j = 4 ∨ j = 5 ∨ j = 6 ∨ j = 7 ∨ j = 8 ∨ j = 9 ∨ j = 10 ∨ j = 11 ∨ j = 12 ∨ j = 13 ∨ j = 14 by omega) with rfl | rfl | rfl | rfl | rfl | rfl | rfl | rfl | rfl | rfl | rfl | rfl | rfl
    · rw [up2_n (Or.inr (by decide)), up2_n (Or.inr (by decide)), up2_n (Or.inr (by decide)), up2_n (Or.inr (by decide)), up2_n (Or.inr (by decide)), up2_n (Or.inr (by decide)), up2_n (Or.inr (by decide)), up2_n (Or.inr (by decide)), up2_n (Or.inr (by decide)), up2_n (Or.inr (by decide)), up2_n (Or.inr (by decide)), up2_n (Or.inr (by decide)), up2_s]
    · rw [up2_n (Or.inr (by decide)), up2_n (Or.inr (by decide)), up2_n (Or.inr (by decide)), up2_n (Or.inr (by decide)), up2_n (Or.inr (by decide)), up2_n (Or.inr (by decide)), up2_n (Or.inr (by decide)), up2_n (Or.inr (by decide)), up2_n (Or.inr (by decide)), up2_n (Or.inr (by decide)), up2_n (Or.inr (by decide)), up2_s]
    · rw [up2_n (Or.inr (by decide)), up2_n (Or.inr (by decide)), up2_n (Or.inr (by decide)), up2_n (Or.inr (by decide)), up2_n (Or.inr (by decide)), up2_n (Or.inr (by decide)), up2_n (Or.inr (by decide)), up2_n (Or.inr (by decide)), up2_n (Or.inr (by decide)), up2_n (Or.inr (by decide)), up2_s]
    · rw [up2_n (Or.inr (by decide)), up2_n (Or.inr (by decide)), up2_n (Or.inr (by decide)), up2_n (Or.inr (by decide)), up2_n (Or.inr (by decide)), up2_n (Or.inr (by decide)), up2_n (Or.inr (by decide)), up2_n (Or.inr (by decide)), up2_n (Or.inr (by decide)), up2_s]
    · rw [up2_n (Or.inr (by decide)), up2_n (Or.inr (by decide)), up2_n (Or.inr (by decide)), up2_n (Or.inr (by decide)), up2_n (Or.inr (by decide)), up2_n (Or.inr (by decide)), up2_n (Or.inr (by decide)), up2_n (Or.inr (by decide)), up2_s]
    · rw [up2_n (Or.inr (by decide)), up2_n (Or.inr (by decide)), up2_n (Or.inr (by decide)), up2_n (Or.inr (by decide)), up2_n (Or.inr (by decide)), up2_n (Or.inr (by decide)), up2_n (Or.inr (by decide)), up2_s]
    · rw [up2_n (Or.inr (by decide)), up2_n (Or.inr (by decide)), up2_n (Or.inr (by decide)), up2_n (Or.inr (by decide)), up2_n (Or.inr (by decide)), up2_n (Or.inr (by decide)), up2_s]
    · rw [up2_n (Or.inr (by decide)), up2_n (Or.inr (by decide)), up2_n (Or.inr (by decide)), up2_n (Or.inr (by decide)), up2_n (Or.inr (by decide)), up2_s]
    · rw [up2_n (Or.inr (by decide)), up2_n (Or.inr (by decide)), up2_n (Or.inr (by decide)), up2_n (Or.inr (by decide)), up2_s]
    · rw [up2_n (Or.inr (by decide)), up2_n (Or.inr (by decide)), up2_n (Or.inr (by decide)), up2_s]
    · rw [up2_n (Or.inr (by decide)), up2_n (Or.inr (by decide)), up2_s]
    · rw [up2_n (Or.inr (by decide)), up2_s]
    · rw [up2_s]
  · rcases (show e = 0 ∨ e = 1 by omega) with rfl | rfl
    · exact (b1.trans k3).at a2
    · exact k3.at b2
  · rcases (show e = 0 ∨ e = 1 by omega) with rfl | rfl
    · have hkn : k = n := nI_inj (by omega) (by omega) (hk.symm.trans hl0)
      have q := (b1.trans k3).at (a3 j (by omega))
      rw [show 12 + 5 * g + 2 * 0 = 11 + 5 * g + 2 * 0 + 1 by omega]
      exact q
    · have hkn : k = m := nI_inj (by omega) (by omega) (hk.symm.trans hl1)
      have q := k3.at (b3 j (by omega))
      rw [show 12 + 5 * g + 2 * 1 = 11 + 5 * g + 2 * 1 + 1 by omega]
      exact q
  · unfold w_X1_copyFrom
    rw [show S' + 10 + 5 * g + 1 = S' + (11 + 5 * g + 2 * 0) by omega, show S + 10 + 5 * g + 1 = S + (11 + 5 * g + 2 * 0) by omega, show S' + 10 + 5 * g + 3 = S' + (11 + 5 * g + 2 * 1) by omega, show S + 10 + 5 * g + 3 = S + (11 + 5 * g + 2 * 1) by omega]
    refine a4 _ ?_
    refine b4 _ ?_
    rw [h3] at hΦ
    simp only [forall_eq, Nat.add_assoc, hrd _ (10 + 5 * g) hG, up2_bl hG]
    exact ⟨hB, hΦ⟩
theorem l_people (hrd : ∀ (τ : Mm) (q : Nat), q < 106 → bl S' τ μ (S + q) = σ q) (hn : np ≤ 40) (hs : σ 0 6 = nI np) (hB : ∀ p, p < np → isB (σ (50 + p) 1) ∧ isB (σ (50 + p) 6)) : ∀ (k i : Nat) (τ : Mm), i + k = np → τ 0 6 = nI np → ∃ τ', Cpy σ τ τ' ∧ (∀ p j, i ≤ p → p < np → j < 7 → τ' (50 + p) j = σ (50 + p) j) ∧ (∀ (Φ : Unit → Mm → Prop), (∃ n, w_X8_copyFrom_106 Φ n S' S 0 (bl S' (up2 τ' 0 7 (σ 0 7)) μ)) → ∃ n, w_X8_copyFrom_58 Φ n S' S (nI i) (bl S' τ μ))
  | 0, i, τ, hi, hc => by
    refine ⟨τ, Cpy.refl, fun p j h1 h2 _ => by omega, fun Φ hΦ => ⟨0 + 1, ?_⟩⟩
    have hrd0 : ∀ τ : Mm, bl S' τ μ S = σ 0 := fun τ => hrd τ 0 (by decide)
    unfold w_X8_copyFrom_58
    rw [bl_0, hc, if_pos (nI_le (by omega) (by omega))]
    rintro _ rfl
    rw [hrd0, up2_bl0]
    exact hΦ
  | k + 1, i, τ, hi, hc => by
    have hlim : ¬ (40 : Int32) ≤ nI i := nI_ge (a := i) (b := 40) (by omega) (by omega)
    obtain ⟨τ1, a1, a2, a3⟩ := d_fcopy5 (τ := τ) (p := i) hrd (by omega) (hB i (by omega)).1 (hB i (by omega)).2
    obtain ⟨τ', b1, b2, b3⟩ := l_people hrd hn hs hB k (i + 1) τ1 (by omega) (by rw [← hs]; exact a1.at (by rw [hs]; exact hc))
    refine ⟨τ', a1.trans b1, fun p j h1 h2 h3 => ?_, fun Φ hΦ => ?_⟩
    · by_cases e : p = i
      · rw [e]
        exact b1.at (a2 j h3)
      · exact b2 p j (by omega) h2 h3
    · obtain ⟨n, hn'⟩ := b3 Φ hΦ
      rw [nI_succ] at hn'
      refine ⟨n + 1, ?_⟩
      unfold w_X8_copyFrom_58
      rw [bl_0, hc, if_neg (nI_ge (by omega) (by omega)), if_neg hlim, vin (show i < 40 by omega) (by decide), true_and, true_and, cl (by omega)]
      exact a3 _ hn'
theorem l_pools (hrd : ∀ (τ : Mm) (q : Nat), q < 106 → bl S' τ μ (S + q) = σ q) (hn : nl ≤ 4) (hs : σ 0 7 = nI nl) : ∀ (k i : Nat) (τ : Mm), i + k = nl → τ 0 7 = nI nl → ∃ τ', Cpy σ τ τ' ∧ (∀ p j, i ≤ p → p < nl → j < 5 → τ' (90 + p) j = σ (90 + p) j) ∧ (∀ (Φ : Unit → Mm → Prop), (∃ n, w_X8_copyFrom_154 Φ n S' S 0 (bl S' (up2 τ' 0 8 (σ 0 8)) μ)) → ∃ n, w_X8_copyFrom_106 Φ n S' S (nI i) (bl S' τ μ))
  | 0, i, τ, hi, hc => by
    refine ⟨τ, Cpy.refl, fun p j h1 h2 _ => by omega, fun Φ hΦ => ⟨0 + 1, ?_⟩⟩
    have hrd0 : ∀ τ : Mm, bl S' τ μ S = σ 0 := fun τ => hrd τ 0 (by decide)
    unfold w_X8_copyFrom_106
    rw [bl_0, hc, if_pos (nI_le (by omega) (by omega))]
    rintro _ rfl
    rw [hrd0, up2_bl0]
    exact hΦ
  | k + 1, i, τ, hi, hc => by
    have hlim : ¬ (4 : Int32) ≤ nI i := nI_ge (a := i) (b := 4) (by omega) (by omega)
    obtain ⟨τ1, a1, a2, a3⟩ := d_fcopy6 (τ := τ) (p := i) hrd (by omega)
    obtain ⟨τ', b1, b2, b3⟩ := l_pools hrd hn hs k (i + 1) τ1 (by omega) (by rw [← hs]; exact a1.at (by rw [hs]; exact hc))
    refine ⟨τ', a1.trans b1, fun p j h1 h2 h3 => ?_, fun Φ hΦ => ?_⟩
    · by_cases e : p = i
      · rw [e]
        exact b1.at (a2 j h3)
      · exact b2 p j (by omega) h2 h3
    · obtain ⟨n, hn'⟩ := b3 Φ hΦ
      rw [nI_succ] at hn'
      refine ⟨n + 1, ?_⟩
      unfold w_X8_copyFrom_106
      rw [bl_0, hc, if_neg (nI_ge (by omega) (by omega)), if_neg hlim, vin (show i < 4 by omega) (by decide), true_and, true_and, cl (by omega)]
      exact a3 _ hn'
theorem l_passes (hrd : ∀ (τ : Mm) (q : Nat), q < 106 → bl S' τ μ (S + q) = σ q) (hn : nx ≤ 12) (hs : σ 0 8 = nI nx) (hB : ∀ p, p < nx → isB (σ (94 + p) 1)) : ∀ (k i : Nat) (τ : Mm), i + k = nx → τ 0 8 = nI nx → ∃ τ', Cpy σ τ τ' ∧ (∀ p j, i ≤ p → p < nx → j < 3 → τ' (94 + p) j = σ (94 + p) j) ∧ (∀ (Φ : Unit → Mm → Prop), w_X8_copyFrom_192 Φ S' S (bl S' τ' μ) → ∃ n, w_X8_copyFrom_154 Φ n S' S (nI i) (bl S' τ μ))
  | 0, i, τ, hi, hc => by
    refine ⟨τ, Cpy.refl, fun p j h1 h2 _ => by omega, fun Φ hΦ => ⟨0 + 1, ?_⟩⟩
    have hrd0 : ∀ τ : Mm, bl S' τ μ S = σ 0 := fun τ => hrd τ 0 (by decide)
    unfold w_X8_copyFrom_154
    rw [bl_0, hc, if_pos (nI_le (by omega) (by omega))]
    exact hΦ
  | k + 1, i, τ, hi, hc => by
    have hlim : ¬ (12 : Int32) ≤ nI i := nI_ge (a := i) (b := 12) (by omega) (by omega)
    obtain ⟨τ1, a1, a2, a3⟩ := d_fcopy4 (τ := τ) (p := i) hrd (by omega) (hB i (by omega))
    obtain ⟨τ', b1, b2, b3⟩ := l_passes hrd hn hs hB k (i + 1) τ1 (by omega) (by rw [← hs]; exact a1.at (by rw [hs]; exact hc))
    refine ⟨τ', a1.trans b1, fun p j h1 h2 h3 => ?_, fun Φ hΦ => ?_⟩
    · by_cases e : p = i
      · rw [e]
        exact b1.at (a2 j h3)
      · exact b2 p j (by omega) h2 h3
    · obtain ⟨n, hn'⟩ := b3 Φ hΦ
      rw [nI_succ] at hn'
      refine ⟨n + 1, ?_⟩
      unfold w_X8_copyFrom_154
      rw [bl_0, hc, if_neg (nI_ge (by omega) (by omega)), if_neg hlim, vin (show i < 12 by omega) (by decide), true_and, true_and, cl (by omega)]
      exact a3 _ hn'
theorem l_gates (hrd : ∀ (τ : Mm) (q : Nat), q < 106 → bl S' τ μ (S + q) = σ q) (hn : ng ≤ 8) (hs : σ 0 5 = nI ng) (hB : ∀ g, g < ng → isB (σ (10 + 5 * g) 9) ∧ ∀ e, e < 2 → ∃ n, n ≤ 40 ∧ σ (11 + 5 * g + 2 * e) 1 = nI n) : ∀ (k i : Nat) (τ : Mm), i + k = ng → τ 0 5 = nI ng → ∃ τ', Cpy σ τ τ' ∧ (∀ g j, i ≤ g → g < ng → 2 ≤ j → j < 15 → τ' (10 + 5 * g) j = σ (10 + 5 * g) j) ∧ (∀ g e, i ≤ g → g < ng → e < 2 → τ' (11 + 5 * g + 2 * e) 1 = σ (11 + 5 * g + 2 * e) 1) ∧ (∀ g e, i ≤ g → g < ng → e < 2 → ∀ k, σ (11 + 5 * g + 2 * e) 1 = nI k → k ≤ 40 → ∀ j, j < k → τ' (12 + 5 * g + 2 * e) j = σ (12 + 5 * g + 2 * e) j) ∧ (∀ (Φ : Unit → Mm → Prop), (∃ n, w_X8_copyFrom_58 Φ n S' S 0 (bl S' (up2 τ' 0 6 (σ 0 6)) μ)) → ∃ n, w_X8_copyFrom_10 Φ n S' S (nI i) (bl S' τ μ))
  | 0, i, τ, hi, hc => by
    refine ⟨τ, Cpy.refl, fun p j h1 h2 _ => by omega, fun p j h1 h2 _ => by omega, fun p j h1 h2 _ => by omega, fun Φ hΦ => ⟨0 + 1, ?_⟩⟩
    have hrd0 : ∀ τ : Mm, bl S' τ μ S = σ 0 := fun τ => hrd τ 0 (by decide)
    unfold w_X8_copyFrom_10
    rw [bl_0, hc, if_pos (nI_le (by omega) (by omega))]
    rintro _ rfl
    rw [hrd0, up2_bl0]
    exact hΦ
  | k + 1, i, τ, hi, hc => by
    have hlim : ¬ (8 : Int32) ≤ nI i := nI_ge (a := i) (b := 8) (by omega) (by omega)
    obtain ⟨hB9, hQ⟩ := hB i (by omega)
    obtain ⟨n0, hn0, hl0⟩ := hQ 0 (by decide)
    obtain ⟨n1, hn1, hl1⟩ := hQ 1 (by decide)
    obtain ⟨τ1, a1, a2, a3, a4, a5⟩ := d_gcopy (τ := τ) (g := i) hrd (by omega) hl0 hn0 hl1 hn1 hB9
    obtain ⟨τ', b1, b2, b3, b4, b5⟩ := l_gates hrd hn hs hB k (i + 1) τ1 (by omega) (by rw [← hs]; exact a1.at (by rw [hs]; exact hc))
    refine ⟨τ', a1.trans b1, fun g j h1 h2 h3 h4 => ?_, fun g e h1 h2 he => ?_, fun g e h1 h2 he m hm hm40 j hj => ?_, fun Φ hΦ => ?_⟩
    · by_cases e : g = i
      · rw [e]
        exact b1.at (a2 j h3 h4)
      · exact b2 g j (by omega) h2 h3 h4
    · by_cases e' : g = i
      · rw [e']
        exact b1.at (a3 e he)
      · exact b3 g e (by omega) h2 he
    · by_cases e' : g = i
      · rw [e'] at hm ⊢
        exact b1.at (a4 e he m hm hm40 j hj)
      · exact b4 g e (by omega) h2 he m hm hm40 j hj
    · obtain ⟨n, hn'⟩ := b5 Φ hΦ
      rw [nI_succ] at hn'
      refine ⟨n + 1, ?_⟩
      unfold w_X8_copyFrom_10
      rw [bl_0, hc, if_neg (nI_ge (by omega) (by omega)), if_neg hlim, vin (show i < 8 by omega) (by decide), true_and, true_and, cl (by omega)]
      exact a5 _ hn'
/-- what is read of a State, and nothing else, carries the relation -/
theorem Rel.cp (h : Rel σ r T ng np nx nl) (c0 : ∀ j, 5 ≤ j → j < 11 → τ 0 j = σ 0 j) (c54 : τ 5 4 = σ 5 4) (c55 : τ 5 5 = σ 5 5) (ce : ∀ q j, 6 ≤ q → q < 10 → j < 20 → τ q j = σ q j) (cg : ∀ g j, g < ng → 2 ≤ j → j < 15 → τ (10 + 5 * g) j = σ (10 + 5 * g) j) (cq : ∀ g e, g < ng → e < 2 → τ (11 + 5 * g + 2 * e) 1 = σ (11 + 5 * g + 2 * e) 1) (ca : ∀ g e, g < ng → e < 2 → ∀ k, σ (11 + 5 * g + 2 * e) 1 = nI k → k ≤ 40 → ∀ j, j < k → τ (12 + 5 * g + 2 * e) j = σ (12 + 5 * g + 2 * e) j) (cp : ∀ p j, p < np → j < 7 → τ (50 + p) j = σ (50 + p) j) (ck : ∀ k j, k < nl → j < 5 → τ (90 + k) j = σ (90 + k) j) (cx : ∀ x j, x < nx → j < 3 → τ (94 + x) j = σ (94 + x) j) : Rel τ r T ng np nx nl := by
  obtain ⟨hC, hVG, hVP, hVX, hRQ, hRN, hRU⟩ := h
  obtain ⟨a, b, c, d, e, k⟩ := hC
  refine ⟨⟨?_, fun g f hg hf => ?_, fun p f hp hf => ?_, fun x f hx hf => ?_, fun x f hx hf => ?_, ?_⟩, fun g hg => ?_, fun p hp => ?_, fun x hx => VX_keep (fun f hf => cx x f hx (by omega)) (hVX x hx), fun g e hg he => ?_, fun q hq hw => ?_, ?_⟩
  · unfold KC
    rw [c0 5 (by decide) (by decide), c0 6 (by decide) (by decide), c0 8 (by decide) (by decide), c0 7 (by decide) (by decide), c0 10 (by decide) (by decide), c0 9 (by decide) (by decide)]
    exact a
  · rw [cg g (f + 2) hg (by omega) (by omega)]; exact b g f hg hf
  · rw [cp p f hp (by omega)]; exact c p f hp hf
  · rw [cx x f hx (by omega)]; exact d x f hx hf
  · rw [ck x f hx (by omega)]; exact e x f hx hf
  · obtain ⟨n, l, h1, h2, h3, h4, h5, h6⟩ := k
    exact ⟨n, l, h1, h2, by rw [c55]; exact h3, by rw [c54]; exact h4, h5, fun k j hk hj => by
      rw [ce _ _ (by omega) (by omega) (Nat.mod_lt _ (by decide))]
      exact h6 k j hk hj⟩
  · obtain ⟨d, st, h1, h2, h3, h4, h5, h6⟩ := hVG g hg
    refine ⟨d, st, h1, by rw [cg g 2 hg (by decide) (by decide)]; exact h2, h3, by rw [cg g 6 hg (by decide) (by decide)]; exact h4, by rw [cg g 9 hg (by decide) (by decide)]; exact h5, ?_⟩
    rcases h6 with ⟨x, y⟩ | ⟨x, q, o, b1, b2, b3, b4, b5, b6, b7⟩
    · exact Or.inl ⟨x, by rw [cg g 8 hg (by decide) (by decide)]; exact y⟩
    · exact Or.inr ⟨x, q, o, b1, b2, by rw [cg g 8 hg (by decide) (by decide)]; exact b3, by rw [cg g 10 hg (by decide) (by decide)]; exact b4, by rw [cp q 2 b1 (by decide)]; exact b5, by rw [cp q 3 b1 (by decide)]; exact b6, by rw [cp q 6 b1 (by decide)]; exact b7⟩
  · unfold VP
    rw [cp p 2 hp (by decide), cp p 1 hp (by decide), cp p 6 hp (by decide), cp p 0 hp (by decide), cp p 5 hp (by decide)]
    exact hVP p hp
  · obtain ⟨n, a, b1, b2, b3, b4, b5⟩ := hRQ g e hg he
    refine ⟨n, a, b1, by rw [cq g e hg he]; exact b2, fun i hi => ?_, b4, fun q hqn => ?_⟩
    · have h2 := (b3 i hi).2.1
      rw [ca g e hg he n b2 b1 i hi, cp _ 3 h2 (by decide), cp _ 2 h2 (by decide)]
      exact b3 i hi
    · rw [cp q 3 hqn (by decide), cp q 2 hqn (by decide)]
      exact b5 q hqn
  · rw [cp q 2 hq (by decide)] at hw
    exact hRN q hq hw
  · obtain ⟨u1, u2, u3⟩ := hRU
    have hus : ∀ q x, q < np → usB τ q x = usB σ q x := fun q x hq => by
      unfold usB
      rw [cp q 0 hq (by decide), inB_keep (cp q 2 hq (by decide))]
    have hx0 : ∀ x, x < nx → τ (94 + x) 0 = σ (94 + x) 0 := fun x hx => cx x 0 hx (by decide)
    have hpl : ∀ q k, q < np → plB τ q k = plB σ q k := fun q k hq => by
      unfold plB
      rw [cp q 0 hq (by decide), inB_keep (cp q 2 hq (by decide))]
      obtain ⟨w, x1, x2, x3, x4, -⟩ := hVP q hq
      rcases x4 with x4 | ⟨x, hx, x4⟩
      · rw [x4]; rfl
      · rw [x4, nI_clamp (by have := a.2.2.1.2.2; omega), hx0 x hx]
    refine ⟨fun x hx => ?_, fun k hk => ?_, fun k hk => ?_⟩
    · rw [cx x 2 hx (by decide)]
      rcases u1 x hx with ⟨a, b⟩ | ⟨p, a, b, c, d⟩
      · exact Or.inl ⟨a, fun p hp => by rw [hus p x hp]; exact b p hp⟩
      · exact Or.inr ⟨p, a, b, by rw [hus p x a]; exact c, fun q hq hu => d q hq (by rw [← hus q x hq]; exact hu)⟩
    · rw [ck k 2 hk (by decide), u2 k hk]
      congr 1
      exact cnt_congr (fun i hi => (hpl i k hi).symm)
    · rw [ck k 3 hk (by decide), u3 k hk]
      congr 1
      exact cnt_congr (fun i hi => by rw [hx0 i hi])
/-- a State copied into another -/
theorem sim_copy (h : Rel σ r T ng np nx nl) (hrd : ∀ (τ : Mm) (q : Nat), q < 106 → bl S' τ μ (S + q) = σ q) : ∃ τ', Rel τ' r T ng np nx nl ∧ ∀ (Φ : Unit → Mm → Prop), Φ () (bl S' τ' μ) → w_X8_copyFrom S' S (bl S' τ μ) Φ := by
  have h0 := h
  obtain ⟨hC, hVG, hVP, hVX, hRQ, hRN, hRU⟩ := h0
  obtain ⟨n1, n2, n3, n4⟩ := hC.n
  have hrd0 : ∀ τ : Mm, bl S' τ μ S = σ 0 := fun τ => hrd τ 0 (by decide)
  obtain ⟨τ0, e0⟩ : ∃ τ0 : Mm, τ0 = up2 τ 0 5 (σ 0 5) := ⟨_, rfl⟩
  obtain ⟨τ1, a1, a2, a3, a4, a5⟩ := l_gates hrd n1 hC.1.1.1 (fun g hg => by
    obtain ⟨d, st, g1, g2, g3, g4, g5, -⟩ := hVG g hg
    exact ⟨g5, fun e he => by
      obtain ⟨n, a, q1, q2, -⟩ := hRQ g e hg he
      exact ⟨n, q1, q2⟩⟩) ng 0 τ0 (by omega) (by rw [e0, up2_s]; exact hC.1.1.1)
  obtain ⟨τ2, e2⟩ : ∃ τ2 : Mm, τ2 = up2 τ1 0 6 (σ 0 6) := ⟨_, rfl⟩
  obtain ⟨τ3, b1, b2, b3⟩ := l_people hrd n2 hC.1.2.1.1 (fun p hp => by
    obtain ⟨w, x1, x2, x3, -⟩ := hVP p hp
    exact x3) np 0 τ2 (by omega) (by rw [e2, up2_s]; exact hC.1.2.1.1)
  obtain ⟨τ4, e4⟩ : ∃ τ4 : Mm, τ4 = up2 τ3 0 7 (σ 0 7) := ⟨_, rfl⟩
  obtain ⟨τ5, c1, c2, c3⟩ := l_pools hrd n4 hC.1.2.2.2.1.1 nl 0 τ4 (by omega) (by rw [e4, up2_s]; exact hC.1.2.2.2.1.1)
  obtain ⟨τ6, e6⟩ : ∃ τ6 : Mm, τ6 = up2 τ5 0 8 (σ 0 8) := ⟨_, rfl⟩
  obtain ⟨τ7, d1, d2, d3⟩ := l_passes hrd n3 hC.1.2.2.1.1 (fun x hx => by
    obtain ⟨k, k1, k2, k3⟩ := hVX x hx
    exact k3) nx 0 τ6 (by omega) (by rw [e6, up2_s]; exact hC.1.2.2.1.1)
  obtain ⟨τ8, f1, f2, f3, f4, f5⟩ := d_ecopy (τ := τ7) hrd
  obtain ⟨τ9, e9⟩ : ∃ τ9 : Mm, τ9 = up2 (up2 τ8 0 9 (σ 0 9)) 0 10 (σ 0 10) := ⟨_, rfl⟩
  have k2 : Cpy σ τ1 τ2 := by rw [e2]; exact Cpy.one _ _
  have k4 : Cpy σ τ3 τ4 := by rw [e4]; exact Cpy.one _ _
  have k6 : Cpy σ τ5 τ6 := by rw [e6]; exact Cpy.one _ _
  have k9 : Cpy σ τ8 τ9 := by rw [e9]; exact (Cpy.refl.val rfl).val rfl
  have p8 : Cpy σ τ7 τ9 := f1.trans k9
  have p6 : Cpy σ τ6 τ9 := d1.trans p8
  have p5 : Cpy σ τ5 τ9 := k6.trans p6
  have p4 : Cpy σ τ4 τ9 := c1.trans p5
  have p3 : Cpy σ τ3 τ9 := k4.trans p4
  have p2 : Cpy σ τ2 τ9 := b1.trans p3
  have p1 : Cpy σ τ1 τ9 := k2.trans p2
  refine ⟨τ9, h.cp (fun j j1 j2 => ?_) (k9.at f2) (k9.at f3) (fun q j q1 q2 q3 => k9.at (f4 q j q1 q2 q3)) (fun g j hg j1 j2 => p1.at (a2 g j (by omega) hg j1 j2)) (fun g e hg he => p1.at (a3 g e (by omega) hg he)) (fun g e hg he k hk hk2 j hj => p1.at (a4 g e (by omega) hg he k hk hk2 j hj)) (fun p j hp hj => p3.at (b2 p j (by omega) hp hj)) (fun k j hk hj => p5.at (c2 k j (by omega) hk hj)) (fun x j hx hj => p8.at (d2 x j (by omega) hx hj)), fun Φ hΦ => ?_⟩
  · rcases (show j = 5 ∨ j = 6 ∨ j = 7 ∨ j = 8 ∨ j = 9 ∨ j = 10 by omega) with rfl | rfl | rfl | rfl | rfl | rfl
    · exact (a1.trans p1).at (by rw [e0, up2_s])
    · exact p2.at (by rw [e2, up2_s])
    · exact p4.at (by rw [e4, up2_s])
    · exact p6.at (by rw [e6, up2_s])
    · rw [e9, up2_n (Or.inr (by decide)), up2_s]
    · rw [e9, up2_s]
  · unfold w_X8_copyFrom
    rintro _ rfl
    rw [hrd0, up2_bl0, ← e0]
    refine a5 Φ ?_
    rw [← e2]
    refine b3 Φ ?_
    rw [← e4]
    refine c3 Φ ?_
    rw [← e6]
    refine d3 Φ ?_
    unfold w_X8_copyFrom_192
    refine f5 _ ?_
    simp only [forall_eq, hrd0, up2_bl0]
    rw [← e9]
    exact hΦ
end COPYALL
