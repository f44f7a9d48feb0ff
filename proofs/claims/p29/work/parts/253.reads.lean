/-! what the class tells, as the row has it -/
section READS
variable {μ : Mm} {r : Nat → Int32} {T ng np nx nl g p x : Nat} {Φ : Int32 → Mm → Prop}
theorem h_gate (h : Rel (HB μ 1) r T ng np nx nl) (hg : g < ng) {Φ : Option Nat → Mm → Prop} : w_X8_gateAt 1 (nI g) μ Φ = Φ (some (1 + 10 + 5 * g)) μ := by
  have k := d_gateAt_y (S := 1) (σ := HB μ 1) (μ := μ) (Φ := Φ) h.1.1.1.1 hg h.1.n.1
  rw [bl_HB] at k
  exact k
theorem h_gate_n (h : Rel (HB μ 1) r T ng np nx nl) {a : Int32} (ha : a < 0 ∨ nI ng ≤ a) {Φ : Option Nat → Mm → Prop} : w_X8_gateAt 1 a μ Φ = Φ none μ := by
  have k := d_gateAt_n (S := 1) (σ := HB μ 1) (μ := μ) (Φ := Φ) h.1.1.1.1 ha
  rw [bl_HB] at k
  exact k
theorem h_person (h : Rel (HB μ 1) r T ng np nx nl) (hp : p < np) {Φ : Option Nat → Mm → Prop} : w_X8_personAt 1 (nI p) μ Φ = Φ (some (1 + 50 + p)) μ := by
  have k := d_personAt_y (S := 1) (σ := HB μ 1) (μ := μ) (Φ := Φ) h.1.1.2.1.1 hp h.1.n.2.1
  rw [bl_HB] at k
  exact k
theorem h_person_n (h : Rel (HB μ 1) r T ng np nx nl) {a : Int32} (ha : a < 0 ∨ nI np ≤ a) {Φ : Option Nat → Mm → Prop} : w_X8_personAt 1 a μ Φ = Φ none μ := by
  have k := d_personAt_n (S := 1) (σ := HB μ 1) (μ := μ) (Φ := Φ) h.1.1.2.1.1 ha
  rw [bl_HB] at k
  exact k
theorem h_pass (h : Rel (HB μ 1) r T ng np nx nl) (hx : x < nx) {Φ : Option Nat → Mm → Prop} : w_X8_passAt 1 (nI x) μ Φ = Φ (some (1 + 94 + x)) μ := by
  have k := d_passAt_y (S := 1) (σ := HB μ 1) (μ := μ) (Φ := Φ) h.1.1.2.2.1.1 hx h.1.n.2.2.1
  rw [bl_HB] at k
  exact k
theorem h_pass_n (h : Rel (HB μ 1) r T ng np nx nl) {a : Int32} (ha : a < 0 ∨ nI nx ≤ a) {Φ : Option Nat → Mm → Prop} : w_X8_passAt 1 a μ Φ = Φ none μ := by
  have k := d_passAt_n (S := 1) (σ := HB μ 1) (μ := μ) (Φ := Φ) h.1.1.2.2.1.1 ha
  rw [bl_HB] at k
  exact k
theorem h_pool (h : Rel (HB μ 1) r T ng np nx nl) (hx : x < nl) {Φ : Option Nat → Mm → Prop} : w_X8_poolAt 1 (nI x) μ Φ = Φ (some (1 + 90 + x)) μ := by
  have k := d_poolAt_y (S := 1) (σ := HB μ 1) (μ := μ) (Φ := Φ) h.1.1.2.2.2.1.1 hx h.1.n.2.2.2
  rw [bl_HB] at k
  exact k
theorem h_pool_n (h : Rel (HB μ 1) r T ng np nx nl) {a : Int32} (ha : a < 0 ∨ nI nl ≤ a) {Φ : Option Nat → Mm → Prop} : w_X8_poolAt 1 a μ Φ = Φ none μ := by
  have k := d_poolAt_n (S := 1) (σ := HB μ 1) (μ := μ) (Φ := Φ) h.1.1.2.2.2.1.1 ha
  rw [bl_HB] at k
  exact k
theorem h_g (h : Rel (HB μ 1) r T ng np nx nl) (hg : g < ng) {f : Nat} (hf : f < 13) : μ (1 + 10 + 5 * g) (f + 2) = r (8 + 14 * g + gm f) := by
  rw [Nat.add_assoc]
  exact h.1.2.1 g f hg hf
theorem h_p (h : Rel (HB μ 1) r T ng np nx nl) (hp : p < np) {f : Nat} (hf : f < 6) : μ (1 + 50 + p) f = r (120 + 7 * p + pm f) := by
  rw [Nat.add_assoc]
  exact h.1.2.2.1 p f hp hf
theorem rg_0 (h : Rel (HB μ 1) r T ng np nx nl) (hg : g < ng) : w_X9_gate (nI g) 0 μ Φ = Φ (r (8 + 14 * g + 0)) μ := by
  unfold w_X9_gate
  rw [h_gate h hg, opt_some, if_pos rfl, show μ (1 + 10 + 5 * g) 2 = r (8 + 14 * g + 0) from h_g h hg (f := 0) (by decide)]
theorem rg_1 (h : Rel (HB μ 1) r T ng np nx nl) (hg : g < ng) : w_X9_gate (nI g) 1 μ Φ = Φ (r (8 + 14 * g + 4)) μ := by
  unfold w_X9_gate
  rw [h_gate h hg, opt_some, if_neg (by decide), if_pos rfl, show μ (1 + 10 + 5 * g) 6 = r (8 + 14 * g + 4) from h_g h hg (f := 4) (by decide)]
theorem rg_2 (h : Rel (HB μ 1) r T ng np nx nl) (hg : g < ng) : w_X9_gate (nI g) 2 μ Φ = Φ (r (8 + 14 * g + 5)) μ := by
  unfold w_X9_gate
  rw [h_gate h hg, opt_some, if_neg (by decide), if_neg (by decide), if_pos rfl, show μ (1 + 10 + 5 * g) 7 = r (8 + 14 * g + 5) from h_g h hg (f := 5) (by decide)]
theorem rg_3 (h : Rel (HB μ 1) r T ng np nx nl) (hg : g < ng) : w_X9_gate (nI g) 3 μ Φ = Φ (r (8 + 14 * g + 6)) μ := by
  unfold w_X9_gate
  rw [h_gate h hg, opt_some, if_neg (by decide), if_neg (by decide), if_neg (by decide), if_pos rfl, show μ (1 + 10 + 5 * g) 8 = r (8 + 14 * g + 6) from h_g h hg (f := 6) (by decide)]
theorem rg_6 (h : Rel (HB μ 1) r T ng np nx nl) (hg : g < ng) : w_X9_gate (nI g) 6 μ Φ = Φ (r (8 + 14 * g + 10)) μ := by
  unfold w_X9_gate
  rw [h_gate h hg, opt_some, if_neg (by decide), if_neg (by decide), if_neg (by decide), if_neg (by decide), if_neg (by decide), if_neg (by decide), if_pos rfl, show μ (1 + 10 + 5 * g) 11 = r (8 + 14 * g + 10) from h_g h hg (f := 9) (by decide)]
theorem rg_7 (h : Rel (HB μ 1) r T ng np nx nl) (hg : g < ng) : w_X9_gate (nI g) 7 μ Φ = Φ (r (8 + 14 * g + 11)) μ := by
  unfold w_X9_gate
  rw [h_gate h hg, opt_some, if_neg (by decide), if_neg (by decide), if_neg (by decide), if_neg (by decide), if_neg (by decide), if_neg (by decide), if_neg (by decide), if_pos rfl, show μ (1 + 10 + 5 * g) 12 = r (8 + 14 * g + 11) from h_g h hg (f := 10) (by decide)]
theorem rg_8 (h : Rel (HB μ 1) r T ng np nx nl) (hg : g < ng) : w_X9_gate (nI g) 8 μ Φ = Φ (r (8 + 14 * g + 12)) μ := by
  unfold w_X9_gate
  rw [h_gate h hg, opt_some, if_neg (by decide), if_neg (by decide), if_neg (by decide), if_neg (by decide), if_neg (by decide), if_neg (by decide), if_neg (by decide), if_neg (by decide), if_pos rfl, show μ (1 + 10 + 5 * g) 13 = r (8 + 14 * g + 12) from h_g h hg (f := 11) (by decide)]
theorem rg_9 (h : Rel (HB μ 1) r T ng np nx nl) (hg : g < ng) : w_X9_gate (nI g) 9 μ Φ = Φ (r (8 + 14 * g + 13)) μ := by
  unfold w_X9_gate
  rw [h_gate h hg, opt_some, if_neg (by decide), if_neg (by decide), if_neg (by decide), if_neg (by decide), if_neg (by decide), if_neg (by decide), if_neg (by decide), if_neg (by decide), if_neg (by decide), if_pos rfl, show μ (1 + 10 + 5 * g) 14 = r (8 + 14 * g + 13) from h_g h hg (f := 12) (by decide)]
theorem rg_10 (h : Rel (HB μ 1) r T ng np nx nl) (hg : g < ng) : w_X9_gate (nI g) 10 μ Φ = Φ (r (8 + 14 * g + 9)) μ := by
  have e : μ (1 + 10 + 5 * g) 9 = r (8 + 14 * g + 9) := h_g h hg (f := 7) (by decide)
  obtain ⟨d, st, -, -, -, -, hB, -⟩ := h.2.1 g hg
  have e2 : HB μ 1 (10 + 5 * g) 9 = r (8 + 14 * g + 9) := h.1.2.1 g 7 hg (by decide)
  unfold w_X9_gate
  rw [h_gate h hg, opt_some, if_neg (by decide), if_neg (by decide), if_neg (by decide), if_neg (by decide), if_neg (by decide), if_neg (by decide), if_neg (by decide), if_neg (by decide), if_neg (by decide), if_neg (by decide), if_pos rfl, e]
  rw [e2] at hB
  rcases hB with q | q
  · rw [q, if_pos rfl]
  · rw [q, if_neg (by decide)]
theorem rg_11 (h : Rel (HB μ 1) r T ng np nx nl) (hg : g < ng) : w_X9_gate (nI g) 11 μ Φ = Φ (-2) μ := by
  unfold w_X9_gate
  rw [h_gate h hg, opt_some, if_neg (by decide), if_neg (by decide), if_neg (by decide), if_neg (by decide), if_neg (by decide), if_neg (by decide), if_neg (by decide), if_neg (by decide), if_neg (by decide), if_neg (by decide), if_neg (by decide)]
theorem rg_n (h : Rel (HB μ 1) r T ng np nx nl) {a b : Int32} (ha : a < 0 ∨ nI ng ≤ a) : w_X9_gate a b μ Φ = Φ (-1) μ := by
  unfold w_X9_gate
  rw [h_gate_n h ha, opt_none]
/-- the queue e of gate g: n people, a tells who -/
def atA (r : Nat → Int32) (np g : Nat) (ea pl : Int32) : Int32 := fnd (fun p => qB r (nI g) ea p && decide (nI (cnt (aB r (nI g) ea p) np) = pl)) np 0
def QV (r : Nat → Int32) (np g e n : Nat) (a : Nat → Nat) : Prop := n ≤ 40 ∧ (∀ i, i < n → a i < np ∧ r (120 + 7 * a i + 3) = nI g ∧ r (120 + 7 * a i + 0) = nI (1 + 3 * e)) ∧ cnt (qB r (nI g) (nI e)) np = n ∧ (n = 0 → nxA r np g (nI e) = -5) ∧ (0 < n → nxA r np g (nI e) = nI (a 0)) ∧ (∀ k, k < n → atA r np g (nI e) (nI k) = nI (a k))
theorem q_view (h : Rel (HB μ 1) r T ng np nx nl) (hg : g < ng) {e : Nat} (he : e < 2) : ∃ n a, QV r np g e n a ∧ μ (1 + (11 + 5 * g + 2 * e)) 1 = nI n ∧ ∀ i, i < n → μ (1 + (12 + 5 * g + 2 * e)) i = nI (a i) := by
  obtain ⟨n, a, b1, b2, b3, b4, b5, b6, b7, b8⟩ := q_facts (g := g) (e := e) (ea := nI e) h.1 he rfl (h.2.2.2.2.1 g e hg he)
  refine ⟨n, a, ⟨b1, fun i hi => ?_, b6, fun h0 => ?_, fun h0 => b7 0 0 rfl h0, fun k hk => b7 k _ rfl hk⟩, b2, fun i hi => (b3 i hi).1⟩
  · obtain ⟨d1, d2, d3, d4⟩ := b3 i hi
    exact ⟨d2, (h.1.2.2.1 (a i) 3 d2 (by decide)).symm.trans d3, (h.1.2.2.1 (a i) 2 d2 (by decide)).symm.trans d4⟩
  · subst h0
    exact b8 0 (by decide)
theorem rg_4 (h : Rel (HB μ 1) r T ng np nx nl) (hg : g < ng) : w_X9_gate (nI g) 4 μ Φ = Φ (nI (cnt (qB r (nI g) (nI 0)) np)) μ := by
  obtain ⟨n, a, ⟨-, -, q, -⟩, e, -⟩ := q_view h hg (e := 0) (by decide)
  unfold w_X9_gate
  rw [h_gate h hg, opt_some, if_neg (by decide), if_neg (by decide), if_neg (by decide), if_neg (by decide), if_pos rfl, show 1 + 10 + 5 * g + 1 = 1 + (11 + 5 * g + 2 * 0) by omega, e, q]
theorem rg_5 (h : Rel (HB μ 1) r T ng np nx nl) (hg : g < ng) : w_X9_gate (nI g) 5 μ Φ = Φ (nI (cnt (qB r (nI g) (nI 1)) np)) μ := by
  obtain ⟨n, a, ⟨-, -, q, -⟩, e, -⟩ := q_view h hg (e := 1) (by decide)
  unfold w_X9_gate
  rw [h_gate h hg, opt_some, if_neg (by decide), if_neg (by decide), if_neg (by decide), if_neg (by decide), if_neg (by decide), if_pos rfl, show 1 + 10 + 5 * g + 3 = 1 + (11 + 5 * g + 2 * 1) by omega, e, q]
/-- what is queued -/
theorem rq_v (h : Rel (HB μ 1) r T ng np nx nl) (hg : g < ng) {e : Nat} (he : e < 2) : ∃ n a, QV r np g e n a ∧ (∀ (k : Nat) (Φ : Int32 → Mm → Prop), k < n → w_X9_queued (nI g) (nI e) (nI k) μ Φ = Φ (nI (a k)) μ) ∧ ∀ (Φ : Int32 → Mm → Prop), w_X9_queued (nI g) (nI e) (nI n) μ Φ = Φ (-5) μ := by
  obtain ⟨n, a, q, e1, e2⟩ := q_view h hg he
  have hn := q.1
  have b0 : ¬ nI e < 0 := nI_pos (by omega)
  have b1 : ¬ (1 : Int32) < nI e := nI_nlt (a := 1) (b := e) (by omega) (by omega)
  have bb : bl 1 (HB μ 1) μ = μ := bl_HB
  have hat : ∀ (k : Int32) (Φ : Int32 → Mm → Prop), 0 ≤ k → w_X9_queued (nI g) (nI e) k μ Φ = w_X7_personAtPlace (1 + (11 + 5 * g + 2 * e)) k (bl 1 (HB μ 1) μ) (fun r u => Φ r u) := fun k Φ hk => by
    unfold w_X9_queued
    rw [h_gate h hg, opt_some, if_neg b0, if_neg b1, if_pos hk, bb]
    rcases (show e = 0 ∨ e = 1 by omega) with rfl | rfl
    · rw [if_pos (by decide), show 1 + 10 + 5 * g + 1 = 1 + (11 + 5 * g + 2 * 0) by omega]
    · rw [if_neg (by decide), show 1 + 10 + 5 * g + 3 = 1 + (11 + 5 * g + 2 * 1) by omega]
  refine ⟨n, a, q, fun k Φ hk => ?_, fun Φ => ?_⟩
  · rw [hat _ _ (nI_pos' (by omega)), d_at_y (c := 11 + 5 * g + 2 * e) (k := k) (by have := h.1.n.1; omega) e1 hn rfl hk, bb]
    have e3 : HB μ 1 (11 + 5 * g + 2 * e + 1) k = nI (a k) := by
      rw [show 11 + 5 * g + 2 * e + 1 = 12 + 5 * g + 2 * e by omega]
      exact e2 k hk
    rw [e3]
  · rw [hat _ _ (nI_pos' (by omega)), d_at_n (c := 11 + 5 * g + 2 * e) (by have := h.1.n.1; omega) e1 (Or.inr (nI_le (Nat.le_refl _) (by omega))), bb]
theorem rq_0 (h : Rel (HB μ 1) r T ng np nx nl) (hg : g < ng) {e : Nat} (he : e < 2) : w_X9_queued (nI g) (nI e) 0 μ Φ = Φ (nxA r np g (nI e)) μ := by
  obtain ⟨n, a, q, q1, q2⟩ := rq_v h hg he
  by_cases h0 : n = 0
  · have e0 := q2 Φ
    rw [h0] at e0
    rw [q.2.2.2.1 h0]
    exact e0
  · rw [q.2.2.2.2.1 (by omega)]
    exact q1 0 Φ (by omega)
theorem rq_k (h : Rel (HB μ 1) r T ng np nx nl) (hg : g < ng) {e k : Nat} (he : e < 2) (hk : k < cnt (qB r (nI g) (nI e)) np) : w_X9_queued (nI g) (nI e) (nI k) μ Φ = Φ (atA r np g (nI e) (nI k)) μ := by
  obtain ⟨n, a, q, q1, q2⟩ := rq_v h hg he
  rw [q.2.2.1] at hk
  rw [q.2.2.2.2.2 k hk]
  exact q1 k Φ hk
theorem rq_m1 (h : Rel (HB μ 1) r T ng np nx nl) (hg : g < ng) {e : Nat} (he : e < 2) : w_X9_queued (nI g) (nI e) (-1) μ Φ = Φ (-2) μ := by
  have b0 : ¬ nI e < 0 := nI_pos (by omega)
  have b1 : ¬ (1 : Int32) < nI e := nI_nlt (a := 1) (b := e) (by omega) (by omega)
  unfold w_X9_queued
  rw [h_gate h hg, opt_some, if_neg b0, if_neg b1, if_neg (by decide)]
theorem rq_2 (h : Rel (HB μ 1) r T ng np nx nl) (hg : g < ng) {k : Int32} : w_X9_queued (nI g) 2 k μ Φ = Φ (-2) μ := by
  unfold w_X9_queued
  rw [h_gate h hg, opt_some, if_neg (by decide), if_pos (by decide)]
theorem rq_n (h : Rel (HB μ 1) r T ng np nx nl) {a b k : Int32} (ha : a < 0 ∨ nI ng ≤ a) : w_X9_queued a b k μ Φ = Φ (-1) μ := by
  unfold w_X9_queued
  rw [h_gate_n h ha, opt_none]
theorem rp_0 (h : Rel (HB μ 1) r T ng np nx nl) (hp : p < np) : w_X9_person (nI p) 0 μ Φ = Φ (r (120 + 7 * p + 0)) μ := by
  unfold w_X9_person
  rw [h_person h hp, opt_some, if_pos rfl, show μ (1 + 50 + p) 2 = r (120 + 7 * p + 0) from h_p h hp (f := 2) (by decide)]
theorem rp_1 (h : Rel (HB μ 1) r T ng np nx nl) (hp : p < np) : w_X9_person (nI p) 1 μ Φ = Φ (r (120 + 7 * p + 1)) μ := by
  unfold w_X9_person
  rw [h_person h hp, opt_some, if_neg (by decide), if_pos rfl, show μ (1 + 50 + p) 0 = r (120 + 7 * p + 1) from h_p h hp (f := 0) (by decide)]
theorem rp_3 (h : Rel (HB μ 1) r T ng np nx nl) (hp : p < np) : w_X9_person (nI p) 3 μ Φ = Φ (r (120 + 7 * p + 3)) μ := by
  unfold w_X9_person
  rw [h_person h hp, opt_some, if_neg (by decide), if_neg (by decide), if_neg (by decide), if_pos rfl, show μ (1 + 50 + p) 3 = r (120 + 7 * p + 3) from h_p h hp (f := 3) (by decide)]
theorem rp_4 (h : Rel (HB μ 1) r T ng np nx nl) (hp : p < np) : w_X9_person (nI p) 4 μ Φ = Φ (r (120 + 7 * p + 4)) μ := by
  unfold w_X9_person
  rw [h_person h hp, opt_some, if_neg (by decide), if_neg (by decide), if_neg (by decide), if_neg (by decide), if_pos rfl, show μ (1 + 50 + p) 4 = r (120 + 7 * p + 4) from h_p h hp (f := 4) (by decide)]
theorem rp_2 (h : Rel (HB μ 1) r T ng np nx nl) (hp : p < np) : w_X9_person (nI p) 2 μ Φ = Φ (r (120 + 7 * p + 2)) μ := by
  have e : μ (1 + 50 + p) 1 = r (120 + 7 * p + 2) := h_p h hp (f := 1) (by decide)
  obtain ⟨w, -, -, hB, -⟩ := h.2.2.1 p hp
  have e2 : HB μ 1 (50 + p) 1 = r (120 + 7 * p + 2) := h.1.2.2.1 p 1 hp (by decide)
  have hB := hB.1
  unfold w_X9_person
  rw [h_person h hp, opt_some, if_neg (by decide), if_neg (by decide), if_pos rfl, e]
  rw [e2] at hB
  rcases hB with q | q
  · rw [q, if_pos rfl]
  · rw [q, if_neg (by decide)]
/-- the ticks waited -/
def waitR (r : Nat → Int32) (p : Nat) : Int32 := if r (120 + 7 * p + 0) = 1 then r 0 - r (120 + 7 * p + 5) else if r (120 + 7 * p + 0) = 4 then r 0 - r (120 + 7 * p + 5) else 0
theorem rp_5 (h : Rel (HB μ 1) r T ng np nx nl) (hp : p < np) : w_X9_person (nI p) 5 μ Φ = Φ (waitR r p) μ := by
  have e : μ (1 + 50 + p) 2 = r (120 + 7 * p + 0) := h_p h hp (f := 2) (by decide)
  have e5 : μ (1 + 50 + p) 5 = r (120 + 7 * p + 5) := h_p h hp (f := 5) (by decide)
  have et : μ 1 9 = r 0 := h.1.time.symm
  unfold w_X9_person w_X5_isWaiting waitR
  rw [h_person h hp, opt_some, if_neg (by decide), if_neg (by decide), if_neg (by decide), if_neg (by decide), if_neg (by decide), if_pos rfl, e]
  by_cases w1 : r (120 + 7 * p + 0) = 1
  · rw [if_pos w1, if_pos w1]
    show (if (1 : Int32) = 0 then _ else _) = _
    rw [if_neg (by decide), et, e5]
  · rw [if_neg w1, if_neg w1]
    by_cases w4 : r (120 + 7 * p + 0) = 4
    · rw [if_pos w4, if_pos w4]
      show (if (1 : Int32) = 0 then _ else _) = _
      rw [if_neg (by decide), et, e5]
    · rw [if_neg w4, if_neg w4]
      show (if (0 : Int32) = 0 then _ else _) = _
      rw [if_pos rfl]
theorem rp_6 (h : Rel (HB μ 1) r T ng np nx nl) (hp : p < np) : w_X9_person (nI p) 6 μ Φ = Φ (-2) μ := by
  unfold w_X9_person
  rw [h_person h hp, opt_some, if_neg (by decide), if_neg (by decide), if_neg (by decide), if_neg (by decide), if_neg (by decide), if_neg (by decide)]
theorem rp_n (h : Rel (HB μ 1) r T ng np nx nl) {a b : Int32} (ha : a < 0 ∨ nI np ≤ a) : w_X9_person a b μ Φ = Φ (-1) μ := by
  unfold w_X9_person
  rw [h_person_n h ha, opt_none]
theorem h_l0 (h : Rel (HB μ 1) r T ng np nx 1) : μ 91 0 = r 424 ∧ μ 91 1 = r 425 ∧ μ 91 4 = r 426 ∧ μ 91 2 = nI (cnt (oB r 0) np) ∧ μ 91 3 = nI nx := by
  refine ⟨h.1.2.2.2.2.1 0 0 (by decide) (by decide), h.1.2.2.2.2.1 0 1 (by decide) (by decide), h.1.2.2.2.2.1 0 4 (by decide) (by decide), (inside_is h.1 h.2.2.1 h.2.2.2.2.2.2 (k := 0) (by decide)).symm, ?_⟩
  have e := h.2.2.2.2.2.2.2.2 0 (by decide)
  refine e.trans ?_
  congr 1
  have : ∀ n, n ≤ nx → cnt (fun x => decide (HB μ 1 (94 + x) 0 = nI 0)) n = n := fun n => by
    induction n with
    | zero => intro _; rfl
    | succ n ih =>
      intro hn
      obtain ⟨k, k1, k2, -⟩ := h.2.2.2.1 n (by omega)
      have k0 : k = 0 := by omega
      unfold cnt
      rw [ih (by omega), if_pos (decide_eq_true (by rw [k2, k0]))]
  exact this nx (Nat.le_refl _)
theorem h_pool0 (h : Rel (HB μ 1) r T ng np nx 1) {Φ : Option Nat → Mm → Prop} : w_X8_poolAt 1 0 μ Φ = Φ (some 91) μ := h_pool h (x := 0) (by decide)
theorem rl_0 (h : Rel (HB μ 1) r T ng np nx 1) : w_X9_pool 0 0 μ Φ = Φ (r 424) μ := by
  unfold w_X9_pool
  rw [h_pool0 h, opt_some, if_pos rfl, (h_l0 h).1]
theorem rl_1 (h : Rel (HB μ 1) r T ng np nx 1) : w_X9_pool 0 1 μ Φ = Φ (r 425) μ := by
  unfold w_X9_pool
  rw [h_pool0 h, opt_some, if_neg (by decide), if_pos rfl, (h_l0 h).2.1]
theorem rl_2 (h : Rel (HB μ 1) r T ng np nx 1) : w_X9_pool 0 2 μ Φ = Φ (nI (cnt (oB r 0) np)) μ := by
  unfold w_X9_pool
  rw [h_pool0 h, opt_some, if_neg (by decide), if_neg (by decide), if_pos rfl, (h_l0 h).2.2.2.1]
theorem rl_3 (h : Rel (HB μ 1) r T ng np nx 1) : w_X9_pool 0 3 μ Φ = Φ (nI nx) μ := by
  unfold w_X9_pool
  rw [h_pool0 h, opt_some, if_neg (by decide), if_neg (by decide), if_neg (by decide), if_pos rfl, (h_l0 h).2.2.2.2]
theorem rl_4 (h : Rel (HB μ 1) r T ng np nx 1) : w_X9_pool 0 4 μ Φ = Φ (r 426) μ := by
  unfold w_X9_pool
  rw [h_pool0 h, opt_some, if_neg (by decide), if_neg (by decide), if_neg (by decide), if_neg (by decide), if_pos rfl, (h_l0 h).2.2.1]
theorem rl_5 (h : Rel (HB μ 1) r T ng np nx 1) : w_X9_pool 0 5 μ Φ = Φ (-2) μ := by
  unfold w_X9_pool
  rw [h_pool0 h, opt_some, if_neg (by decide), if_neg (by decide), if_neg (by decide), if_neg (by decide), if_neg (by decide)]
theorem rl_n (h : Rel (HB μ 1) r T ng np nx nl) {a b : Int32} (ha : a < 0 ∨ nI nl ≤ a) : w_X9_pool a b μ Φ = Φ (-1) μ := by
  unfold w_X9_pool
  rw [h_pool_n h ha, opt_none]
theorem h_x (h : Rel (HB μ 1) r T ng np nx 1) (hx : x < nx) : μ (1 + 94 + x) 0 = 0 ∧ r (400 + 2 * x) = 0 ∧ μ (1 + 94 + x) 1 = r (400 + 2 * x + 1) ∧ isB (r (400 + 2 * x + 1)) ∧ μ (1 + 94 + x) 2 = fnd (uB r (nI x)) np 0 := by
  rw [Nat.add_assoc]
  obtain ⟨k, k1, k2, k3⟩ := h.2.2.2.1 x hx
  have k0 : k = 0 := by omega
  rw [k0] at k2
  have e0 : HB μ 1 (94 + x) 0 = r (400 + 2 * x) := h.1.2.2.2.1 x 0 hx (by decide)
  have e1 : HB μ 1 (94 + x) 1 = r (400 + 2 * x + 1) := h.1.2.2.2.1 x 1 hx (by decide)
  refine ⟨k2, e0.symm.trans k2, e1, by rw [← e1]; exact k3, (user_is h.1 h.2.2.1 h.2.2.2.2.2.2 hx).symm⟩
theorem rx_0 (h : Rel (HB μ 1) r T ng np nx 1) (hx : x < nx) : w_X9_passOf (nI x) 0 μ Φ = Φ 0 μ := by
  unfold w_X9_passOf
  rw [h_pass h hx, opt_some, if_pos rfl, (h_x h hx).1]
theorem rx_1 (h : Rel (HB μ 1) r T ng np nx 1) (hx : x < nx) : w_X9_passOf (nI x) 1 μ Φ = Φ (r (400 + 2 * x + 1)) μ := by
  obtain ⟨-, -, e, hB, -⟩ := h_x h hx
  unfold w_X9_passOf
  rw [h_pass h hx, opt_some, if_neg (by decide), if_pos rfl, e]
  rcases hB with q | q
  · rw [q, if_pos rfl]
  · rw [q, if_neg (by decide)]
theorem rx_2 (h : Rel (HB μ 1) r T ng np nx 1) (hx : x < nx) : w_X9_passOf (nI x) 2 μ Φ = Φ (fnd (uB r (nI x)) np 0) μ := by
  unfold w_X9_passOf
  rw [h_pass h hx, opt_some, if_neg (by decide), if_neg (by decide), if_pos rfl, (h_x h hx).2.2.2.2]
theorem rx_n (h : Rel (HB μ 1) r T ng np nx nl) {a b : Int32} (ha : a < 0 ∨ nI nx ≤ a) : w_X9_passOf a b μ Φ = Φ (-1) μ := by
  unfold w_X9_passOf
  rw [h_pass_n h ha, opt_none]
theorem fm_back {i k : Nat} (hi : i < 20) (hk : k < 20) {u : Mm} : w_J9_floorMod_7cf53 (nI i - 1 - nI k) 20 u Φ = Φ (nI ((i + 19 - k) % 20)) u := by
  have key : w_J9_floorMod_7cf53 (nI i - 1 - nI k) 20 u Φ = Φ (if 0 ≤ ((nI i - 1 - nI k) ^^^ 20) then (nI i - 1 - nI k) - (nI i - 1 - nI k) / 20 * 20 else (if (nI i - 1 - nI k) - (nI i - 1 - nI k) / 20 * 20 = 0 then (nI i - 1 - nI k) - (nI i - 1 - nI k) / 20 * 20 else (nI i - 1 - nI k) - (nI i - 1 - nI k) / 20 * 20 + 20)) u := by
    unfold w_J9_floorMod_7cf53
    rw [eq_true (show ¬ (20 : Int32) = 0 by decide), true_and]
    split
    · rfl
    · split <;> rfl
  rw [key]
  congr 1
  exact (by decide +kernel : ∀ i, i < 20 → ∀ k, k < 20 → (if 0 ≤ ((nI i - 1 - nI k) ^^^ 20) then (nI i - 1 - nI k) - (nI i - 1 - nI k) / 20 * 20 else (if (nI i - 1 - nI k) - (nI i - 1 - nI k) / 20 * 20 = 0 then (nI i - 1 - nI k) - (nI i - 1 - nI k) / 20 * 20 else (nI i - 1 - nI k) - (nI i - 1 - nI k) / 20 * 20 + 20)) = nI ((i + 19 - k) % 20)) i hi k hk
/-- an event that there is -/
theorem re_y (h : Rel (HB μ 1) r T ng np nx nl) {k e l : Nat} (hl : r 5 = nI l) (hk : k < l) (hl2 : l ≤ 20) (he : e < 4) : w_X9_event (nI k) (nI e) μ Φ = Φ (r (436 + 4 * k + e)) μ := by
  obtain ⟨i, l', h1, h2, h3, h4, h5, h6⟩ := h.1.2.2.2.2.2
  have hll : l' = l := nI_inj (by omega) (by omega) (h5.symm.trans hl)
  subst hll
  have q5 : μ (1 + 5) 5 = nI i := h3
  have q4 : μ (1 + 5) 4 = nI l' := h4
  have hm : (i + 19 - k) % 20 < 20 := Nat.mod_lt _ (by decide)
  have hv : ∀ j, j < 4 → μ (1 + (6 + j)) ((i + 19 - k) % 20) = r (436 + 4 * k + j) := fun j hj => h6 k j hk hj
  have v0 : μ (1 + 5 + 1) ((i + 19 - k) % 20) = r (436 + 4 * k + 0) := hv 0 (by decide)
  have v1 : μ (1 + 5 + 2) ((i + 19 - k) % 20) = r (436 + 4 * k + 1) := hv 1 (by decide)
  have v2 : μ (1 + 5 + 3) ((i + 19 - k) % 20) = r (436 + 4 * k + 2) := hv 2 (by decide)
  have v3 : μ (1 + 5 + 4) ((i + 19 - k) % 20) = r (436 + 4 * k + 3) := hv 3 (by decide)
  unfold w_X9_event w_X0_property
  rw [if_neg (nI_pos (by omega)), if_neg (nI_pos (by omega)), if_pos (show nI e ≤ 3 from nI_le (b := 3) (by omega) (by omega)), if_neg (nI_pos (by omega)), q4, if_pos (nI_lt hk (by omega)), q5, fm_back h1 (by omega)]
  simp only [vin hm (show 20 < 2147483648 by decide), true_and, cl (show (i + 19 - k) % 20 < 2147483648 by omega), v0, v1, v2, v3]
  rcases (show e = 0 ∨ e = 1 ∨ e = 2 ∨ e = 3 by omega) with rfl | rfl | rfl | rfl
  · rw [if_pos (by decide)]
  · rw [if_neg (by decide), if_pos (by decide)]
  · rw [if_neg (by decide), if_neg (by decide), if_pos (by decide)]
  · rw [if_neg (by decide), if_neg (by decide), if_neg (by decide)]
theorem re_20 (h : Rel (HB μ 1) r T ng np nx nl) : w_X9_event 20 0 μ Φ = Φ (-5) μ := by
  obtain ⟨i, l, h1, h2, h3, h4, h5, h6⟩ := h.1.2.2.2.2.2
  have q4 : μ (1 + 5) 4 = nI l := h4
  unfold w_X9_event w_X0_property
  rw [if_neg (by decide), if_neg (by decide), if_pos (by decide), if_neg (by decide), q4, if_neg (show ¬ (20 : Int32) < nI l from nI_nlt (a := 20) (b := l) (by omega) (by omega))]
theorem re_m1 : w_X9_event (-1) 0 μ Φ = Φ (-2) μ := by
  unfold w_X9_event
  rw [if_pos (by decide)]
theorem re_04 : w_X9_event 0 4 μ Φ = Φ (-2) μ := by
  unfold w_X9_event
  rw [if_neg (by decide), if_neg (by decide), if_neg (by decide)]
/-- numbers about the whole -/
def whoR (r : Nat → Int32) (np w : Nat) : Nat := cnt (fun p => decide (r (120 + 7 * p + 0) = nI w)) np
end READS
