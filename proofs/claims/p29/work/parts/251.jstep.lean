/-! a step keeps what always holds -/
section JSTEP
variable {B : Nat} {r r' : Nat → Int32} {ng np g p v : Nat}
theorem F_ref_o {i : Nat} {v : Int32} (h : (i ≠ 5 ∧ (i < 436 ∨ 516 ≤ i)) ∧ i ≠ 120 + 7 * p + 0 ∧ i ≠ 120 + 7 * p + 3 ∧ i ≠ 120 + 7 * p + 4 ∧ i ≠ 8 + 14 * g + 12) : F_ref g p v r i = r i := by
  unfold F_ref
  rw [rTell_o (by omega) (by omega), pk_un (by omega), pk_un (by omega), pk_un (by omega), pk_un (by omega)]
theorem F_ref_0 {v : Int32} (hg : g < 8) (hp : p < 40) : F_ref g p v r (120 + 7 * p + 0) = 0 := by
  unfold F_ref
  rw [rTell_o (by omega) (by omega), pk_un (by omega), pk_un (by omega), pk_un (by omega), pk_us]
theorem F_ref_1 {v : Int32} (hg : g < 8) (hp : p < 40) : F_ref g p v r (120 + 7 * p + 3) = -5 := by
  unfold F_ref
  rw [rTell_o (by omega) (by omega), pk_un (by omega), pk_un (by omega), pk_us]
theorem F_ref_2 {v : Int32} (hg : g < 8) (hp : p < 40) : F_ref g p v r (120 + 7 * p + 4) = v := by
  unfold F_ref
  rw [rTell_o (by omega) (by omega), pk_un (by omega), pk_us]
theorem F_ref_3 {v : Int32} (hg : g < 8) (hp : p < 40) : F_ref g p v r (8 + 14 * g + 12) = r (8 + 14 * g + 12) + 1 := by
  unfold F_ref
  rw [rTell_o (by omega) (by omega), pk_us]
theorem F_pay_o {i : Nat}  (h : (i ≠ 5 ∧ (i < 436 ∨ 516 ≤ i)) ∧ i ≠ 424 ∧ i ≠ 426) : F_pay g p r i = r i := by
  unfold F_pay
  rw [rTell_o (by omega) (by omega), pk_un (by omega), pk_un (by omega)]
theorem F_pay_0  (hg : g < 8) (hp : p < 40) : F_pay g p r (424) = r 424 - r 6 := by
  unfold F_pay
  rw [rTell_o (by omega) (by omega), pk_un (by omega), pk_us]
theorem F_pay_1  (hg : g < 8) (hp : p < 40) : F_pay g p r (426) = r 426 + r 6 := by
  unfold F_pay
  rw [rTell_o (by omega) (by omega), pk_us]
theorem F_go_o {i : Nat} {b : Int32} (h : i ≠ 120 + 7 * p + 0 ∧ i ≠ 8 + 14 * g + 6 ∧ i ≠ 8 + 14 * g + 7 ∧ i ≠ 8 + 14 * g + 8 ∧ i ≠ 8 + 14 * g + 4 ∧ i ≠ 8 + 14 * g + 5) : F_go g p b r i = r i := by
  unfold F_go
  rw [pk_un (by omega), pk_un (by omega), pk_un (by omega), pk_un (by omega), pk_un (by omega), pk_un (by omega)]
theorem F_go_0 {b : Int32} (hg : g < 8) (hp : p < 40) : F_go g p b r (120 + 7 * p + 0) = 2 := by
  unfold F_go
  rw [pk_un (by omega), pk_un (by omega), pk_un (by omega), pk_un (by omega), pk_un (by omega), pk_us]
theorem F_go_1 {b : Int32} (hg : g < 8) (hp : p < 40) : F_go g p b r (8 + 14 * g + 6) = nI p := by
  unfold F_go
  rw [pk_un (by omega), pk_un (by omega), pk_un (by omega), pk_un (by omega), pk_us]
theorem F_go_2 {b : Int32} (hg : g < 8) (hp : p < 40) : F_go g p b r (8 + 14 * g + 7) = b := by
  unfold F_go
  rw [pk_un (by omega), pk_un (by omega), pk_un (by omega), pk_us]
theorem F_go_3 {b : Int32} (hg : g < 8) (hp : p < 40) : F_go g p b r (8 + 14 * g + 8) = 0 := by
  unfold F_go
  rw [pk_un (by omega), pk_un (by omega), pk_us]
theorem F_go_4 {b : Int32} (hg : g < 8) (hp : p < 40) : F_go g p b r (8 + 14 * g + 4) = 1 := by
  unfold F_go
  rw [pk_un (by omega), pk_us]
theorem F_go_5 {b : Int32} (hg : g < 8) (hp : p < 40) : F_go g p b r (8 + 14 * g + 5) = r (8 + 14 * g + 1) := by
  unfold F_go
  rw [pk_us]
theorem F_turn_o {i : Nat} {a b : Int32} (h : i ≠ 8 + 14 * g + 4 ∧ i ≠ 8 + 14 * g + 5) : F_turn g a b r i = r i := by
  unfold F_turn
  rw [pk_un (by omega), pk_un (by omega)]
theorem F_turn_0 {a b : Int32} (hg : g < 8) (hp : p < 40) : F_turn g a b r (8 + 14 * g + 4) = a := by
  unfold F_turn
  rw [pk_un (by omega), pk_us]
theorem F_turn_1 {a b : Int32} (hg : g < 8) (hp : p < 40) : F_turn g a b r (8 + 14 * g + 5) = b := by
  unfold F_turn
  rw [pk_us]
theorem F_pin_o {i : Nat} {o : Nat} (h : (i ≠ 5 ∧ (i < 436 ∨ 516 ≤ i)) ∧ i ≠ 8 + 14 * g + 9 ∧ i ≠ 8 + 14 * g + 13 ∧ i ≠ 8 + 14 * g + 8) : F_pin g p o r i = r i := by
  unfold F_pin
  rw [rTell_o (by omega) (by omega), pk_un (by omega), pk_un (by omega), pk_un (by omega)]
theorem F_pin_0 {o : Nat} (hg : g < 8) (hp : p < 40) : F_pin g p o r (8 + 14 * g + 9) = 0 := by
  unfold F_pin
  rw [rTell_o (by omega) (by omega), pk_un (by omega), pk_un (by omega), pk_us]
theorem F_pin_1 {o : Nat} (hg : g < 8) (hp : p < 40) : F_pin g p o r (8 + 14 * g + 13) = r (8 + 14 * g + 13) + 1 := by
  unfold F_pin
  rw [rTell_o (by omega) (by omega), pk_un (by omega), pk_us]
theorem F_pin_2 {o : Nat} (hg : g < 8) (hp : p < 40) : F_pin g p o r (8 + 14 * g + 8) = nI (o + 1) := by
  unfold F_pin
  rw [rTell_o (by omega) (by omega), pk_us]
theorem F_brk_o {i : Nat}  (h : (i ≠ 5 ∧ (i < 436 ∨ 516 ≤ i)) ∧ i ≠ 8 + 14 * g + 4 ∧ i ≠ 8 + 14 * g + 5 ∧ i ≠ 8 + 14 * g + 9) : F_brk g r i = r i := by
  unfold F_brk
  rw [rTell_o (by omega) (by omega), pk_un (by omega), pk_un (by omega), pk_un (by omega)]
theorem F_brk_0  (hg : g < 8) (hp : p < 40) : F_brk g r (8 + 14 * g + 4) = 5 := by
  unfold F_brk
  rw [rTell_o (by omega) (by omega), pk_un (by omega), pk_un (by omega), pk_us]
theorem F_brk_1  (hg : g < 8) (hp : p < 40) : F_brk g r (8 + 14 * g + 5) = 0 := by
  unfold F_brk
  rw [rTell_o (by omega) (by omega), pk_un (by omega), pk_us]
theorem F_brk_2  (hg : g < 8) (hp : p < 40) : F_brk g r (8 + 14 * g + 9) = 0 := by
  unfold F_brk
  rw [rTell_o (by omega) (by omega), pk_us]
theorem F_left_o {i : Nat}  (h : i ≠ 8 + 14 * g + 5) : F_left g r i = r i := by
  unfold F_left
  rw [pk_un (by omega)]
theorem F_left_0  (hg : g < 8) (hp : p < 40) : F_left g r (8 + 14 * g + 5) = r (8 + 14 * g + 5) - 1 := by
  unfold F_left
  rw [pk_us]
theorem F_let1_o {i : Nat} (h : (i ≠ 5 ∧ (i < 436 ∨ 516 ≤ i)) ∧ i ≠ 120 + 7 * p + 0 ∧ i ≠ 120 + 7 * p + 3 ∧ i ≠ 8 + 14 * g + 10 ∧ i ≠ 8 + 14 * g + 6) : F_let g p 1 r i = r i := by
  rw [F_let_1, rTell_o (by omega) (by omega), pk_un (by omega), pk_un (by omega), pk_un (by omega), pk_un (by omega)]
theorem F_let1_0 (hg : g < 8) (hp : p < 40) : F_let g p 1 r (120 + 7 * p + 0) = 3 := by
  rw [F_let_1, rTell_o (by omega) (by omega), pk_un (by omega), pk_un (by omega), pk_un (by omega), pk_us]
theorem F_let1_1 (hg : g < 8) (hp : p < 40) : F_let g p 1 r (120 + 7 * p + 3) = -5 := by
  rw [F_let_1, rTell_o (by omega) (by omega), pk_un (by omega), pk_un (by omega), pk_us]
theorem F_let1_2 (hg : g < 8) (hp : p < 40) : F_let g p 1 r (8 + 14 * g + 10) = r (8 + 14 * g + 10) + 1 := by
  rw [F_let_1, rTell_o (by omega) (by omega), pk_un (by omega), pk_us]
theorem F_let1_3 (hg : g < 8) (hp : p < 40) : F_let g p 1 r (8 + 14 * g + 6) = -5 := by
  rw [F_let_1, rTell_o (by omega) (by omega), pk_us]
theorem F_let0_o {i : Nat} (h : (i ≠ 5 ∧ (i < 436 ∨ 516 ≤ i)) ∧ i ≠ 120 + 7 * p + 0 ∧ i ≠ 120 + 7 * p + 3 ∧ i ≠ 8 + 14 * g + 11 ∧ i ≠ 8 + 14 * g + 6) : F_let g p 0 r i = r i := by
  rw [F_let_0, rTell_o (by omega) (by omega), pk_un (by omega), pk_un (by omega), pk_un (by omega), pk_un (by omega)]
theorem F_let0_0 (hg : g < 8) (hp : p < 40) : F_let g p 0 r (120 + 7 * p + 0) = 5 := by
  rw [F_let_0, rTell_o (by omega) (by omega), pk_un (by omega), pk_un (by omega), pk_un (by omega), pk_us]
theorem F_let0_1 (hg : g < 8) (hp : p < 40) : F_let g p 0 r (120 + 7 * p + 3) = -5 := by
  rw [F_let_0, rTell_o (by omega) (by omega), pk_un (by omega), pk_un (by omega), pk_us]
theorem F_let0_2 (hg : g < 8) (hp : p < 40) : F_let g p 0 r (8 + 14 * g + 11) = r (8 + 14 * g + 11) + 1 := by
  rw [F_let_0, rTell_o (by omega) (by omega), pk_un (by omega), pk_us]
theorem F_let0_3 (hg : g < 8) (hp : p < 40) : F_let g p 0 r (8 + 14 * g + 6) = -5 := by
  rw [F_let_0, rTell_o (by omega) (by omega), pk_us]
theorem F_let_o {i : Nat} {b : Int32} (hb : b = 1 ∨ b = 0) (h : (i ≠ 5 ∧ (i < 436 ∨ 516 ≤ i)) ∧ i ≠ 120 + 7 * p + 0 ∧ i ≠ 120 + 7 * p + 3 ∧ i ≠ 8 + 14 * g + 10 ∧ i ≠ 8 + 14 * g + 11 ∧ i ≠ 8 + 14 * g + 6) : F_let g p b r i = r i := by
  rcases hb with rfl | rfl
  · exact F_let1_o (by omega)
  · exact F_let0_o (by omega)
theorem F_let_w {b : Int32} (hb : b = 1 ∨ b = 0) (hg : g < 8) (hp : p < 40) : (F_let g p b r (120 + 7 * p + 0) = nI 3 ∨ F_let g p b r (120 + 7 * p + 0) = nI 5) ∧ F_let g p b r (120 + 7 * p + 3) = -5 ∧ F_let g p b r (8 + 14 * g + 6) = -5 := by
  rcases hb with rfl | rfl
  · exact ⟨Or.inl (F_let1_0 hg hp), F_let1_1 hg hp, F_let1_3 hg hp⟩
  · exact ⟨Or.inr (F_let0_0 hg hp), F_let0_1 hg hp, F_let0_3 hg hp⟩
theorem wOf {w : Nat} (h : PersonOk r ng p) (hw : w ≤ 5) (e : r (120 + 7 * p + 0) = nI w) : (w = 0 → ∃ y, 1 ≤ y ∧ y ≤ 5 ∧ r (120 + 7 * p + 4) = nI y) ∧ (w ≠ 0 → r (120 + 7 * p + 4) = 0) ∧ ((w = 0 ∨ w = 3 ∨ w = 5) → r (120 + 7 * p + 3) = -5) ∧ (w = 2 → ∃ g, g < ng ∧ r (120 + 7 * p + 3) = nI g ∧ r (8 + 14 * g + 6) = nI p) ∧ ((w = 2 ∨ w = 3 ∨ w = 4) → ∃ x, x < 12 ∧ r (120 + 7 * p + 1) = nI x ∧ r (400 + 2 * x) = 0) := by
  obtain ⟨w', h1, h2, h3⟩ := h
  have : w' = w := nI_inj (by omega) (by omega) (h2.symm.trans e)
  subst this
  exact h3
theorem stOf {st : Nat} (h : GateOk r g) (hs : st ≤ 5) (e : r (8 + 14 * g + 4) = nI st) : ∃ lf op ho cl, r (8 + 14 * g + 5) = nI lf ∧ (r (8 + 14 * g + 1) = nI op ∧ 1 ≤ op ∧ op ≤ 10) ∧ (r (8 + 14 * g + 2) = nI ho ∧ 1 ≤ ho ∧ ho ≤ 20) ∧ (r (8 + 14 * g + 3) = nI cl ∧ 1 ≤ cl ∧ cl ≤ 10) ∧ ((st = 0 ∨ st = 5) → lf = 0 ∧ r (8 + 14 * g + 6) = -5) ∧ ((st ≠ 0 ∧ st ≠ 5) → 1 ≤ lf ∧ lf ≤ 22) ∧ (st = 3 → lf ≤ cl) ∧ (st = 5 → r (8 + 14 * g + 9) = 0) := by
  obtain ⟨st', lf, op, ho, cl, h1, h2, h3⟩ := h
  have : st' = st := nI_inj (by omega) (by omega) (h2.symm.trans e)
  subst this
  exact ⟨lf, op, ho, cl, h3⟩
theorem J_ref {y : Nat} (hJ : J B r ng np) (h8 : ng ≤ 8) (h40 : np ≤ 40) (hg : g < ng) (hs : r (8 + 14 * g + 4) = 0) (hF : FirstG r np g p 0) (y1 : 1 ≤ y) (y5 : y ≤ 5) : J B (F_ref g p (nI y) r) ng np := by
  obtain ⟨hp, -, a3, -, w1⟩ := hF
  have w1 : r (120 + 7 * p + 0) = nI 1 := w1
  obtain ⟨lf, op, ho, cl, g5, g1, g2, g3, g6, -, -, -⟩ := stOf (st := 0) (hJ.2.1 g hg) (by decide) hs
  have z0 : F_ref g p (nI y) r (120 + 7 * p + 0) = nI 0 := F_ref_0 (by omega) (by omega)
  refine J_upd hJ h8 h40 hg hp (fun i h1 h2 h3 h4 h5 h6 => F_ref_o (by omega)) ⟨0, by decide, z0, fun _ => ⟨y, y1, y5, F_ref_2 (by omega) (by omega)⟩, fun h => absurd rfl h, fun _ => F_ref_1 (by omega) (by omega), fun h => by omega, fun h => by omega⟩ ((hJ.2.1 g hg).keep (fun f f1 f2 => F_ref_o (by omega))) (Or.inl (g6 (Or.inl rfl)).2) (Or.inr ⟨F_ref_3 (by omega) (by omega), w0B_ne (by decide) (by decide) w1, ?_⟩) ?_ (Or.inr (Or.inl ?_))
  · unfold w0B
    rw [z0]
    rfl
  · rw [F_ref_o (by omega)]
    obtain ⟨c, lim, l1, l2, -⟩ := hJ.2.2.2.1
    exact ⟨c, l1, l2⟩
  · rw [iB_of (by decide) z0]
    rfl
theorem J_gok {s : Nat → Int32} {b : Int32} (hJ : GateOk r g) (hg : g < 8) (hp : p < 40) (e : ∀ f, f ≤ 9 → s (8 + 14 * g + f) = r (8 + 14 * g + f)) : GateOk (F_go g p b s) g := by
  obtain ⟨st, lf, op, ho, cl, s5, e4, e5, ⟨e1, o1, o2⟩, ⟨e2, q1, q2⟩, ⟨e3, c1, c2⟩, -⟩ := hJ
  refine ⟨1, op, op, ho, cl, by decide, F_go_4 hg hp, ?_, ⟨?_, o1, o2⟩, ⟨?_, q1, q2⟩, ⟨?_, c1, c2⟩, fun h => by omega, fun _ => ⟨o1, by omega⟩, fun h => by omega, fun h => by omega⟩
  · rw [F_go_5 hg hp, e 1 (by decide)]; exact e1
  · rw [F_go_o (by omega), e 1 (by decide)]; exact e1
  · rw [F_go_o (by omega), e 2 (by decide)]; exact e2
  · rw [F_go_o (by omega), e 3 (by decide)]; exact e3
theorem J_in {x : Nat} (hJ : J B r ng np) (h8 : ng ≤ 8) (h40 : np ≤ 40) (hg : g < ng) (hs : r (8 + 14 * g + 4) = 0) (hF : FirstG r np g p 0) (hw : whyR r np p = 0) (hx : x < 12 ∧ r (120 + 7 * p + 1) = nI x ∧ r (400 + 2 * x) = 0) : J B (F_go g p 1 (F_pay g p r)) ng np := by
  obtain ⟨hp, -, a3, -, w1⟩ := hF
  have w1 : r (120 + 7 * p + 0) = nI 1 := w1
  obtain ⟨lf, op, ho, cl, g5, g1, g2, g3, g6, -, -, -⟩ := stOf (st := 0) (hJ.2.1 g hg) (by decide) hs
  have fr : ∀ i, (i = 6 ∨ 8 ≤ i) → i < 436 → i ≠ 120 + 7 * p + 0 → ¬ (8 + 14 * g ≤ i ∧ i < 22 + 14 * g) → i ≠ 424 → i ≠ 426 → F_go g p 1 (F_pay g p r) i = r i := fun i h1 h2 h3 h4 h5 h6 => by
    rw [F_go_o (by omega), F_pay_o (by omega)]
  have z0 : F_go g p 1 (F_pay g p r) (120 + 7 * p + 0) = nI 2 := F_go_0 (by omega) (by omega)
  have hp1 := wOf (w := 1) (hJ.1 p hp) (by decide) w1
  -- what may go in has credit, and room
  have hwy : nI (cnt (iB r) np) < r 425 ∧ r 6 ≤ r 424 := by
    unfold whyR at hw
    rw [hx.2.1, if_pos (nI_pos' (by omega))] at hw
    by_cases q1 : r (400 + 2 * (nI x).toNatClampNeg + 1) = 1
    · rw [if_pos q1] at hw; exact absurd hw (by decide)
    · rw [if_neg q1] at hw
      by_cases q2 : fnd (uB r (nI x)) np 0 < 0
      · rw [if_pos q2] at hw
        by_cases q3 : nI (cnt (oB r 0) np) < r 425
        · rw [if_pos q3] at hw
          by_cases q4 : r 6 ≤ r 424
          · rw [oB_iB hJ] at q3
            exact ⟨q3, q4⟩
          · rw [if_neg q4] at hw; exact absurd hw (by decide)
        · rw [if_neg q3] at hw; exact absurd hw (by decide)
      · rw [if_neg q2] at hw; exact absurd hw (by decide)
  refine J_upd hJ h8 h40 hg hp (fun i h1 h2 h3 h4 h5 h6 => fr i h1 h2 (by omega) h4 h5 h6) ⟨2, by decide, z0, fun h => by omega, fun _ => by rw [fr _ (by omega) (by omega) (by omega) (by omega) (by omega) (by omega)]; exact hp1.2.1 (by decide), fun h => by omega, fun _ => ⟨g, hg, by rw [fr _ (by omega) (by omega) (by omega) (by omega) (by omega) (by omega)]; exact a3, F_go_1 (by omega) (by omega)⟩, fun _ => ⟨x, hx.1, by rw [fr _ (by omega) (by omega) (by omega) (by omega) (by omega) (by omega)]; exact hx.2.1, by rw [fr _ (by omega) (by omega) (by omega) (by omega) (by omega) (by omega)]; exact hx.2.2⟩⟩ (J_gok (hJ.2.1 g hg) (by omega) (by omega) (fun f hf => F_pay_o (by omega))) (Or.inl (g6 (Or.inl rfl)).2) (Or.inl ⟨?_, ?_⟩) ?_ (Or.inr (Or.inr ⟨?_, hwy.1⟩))
  · rw [F_go_o (by omega), F_pay_o (by omega)]
  · rw [w0B_ne (by decide) (by decide) z0, w0B_ne (by decide) (by decide) w1]
  · obtain ⟨c, lim, l1, l2, -⟩ := hJ.2.2.2.1
    obtain ⟨f, f1, f2⟩ := hJ.2.2.2.2
    rw [F_go_o (by omega), F_pay_0 (g := g) (p := p) (by omega) (by omega)]
    have h2 := hwy.2
    rw [l2, f2] at h2 ⊢
    have hle : f ≤ c := (nI_leI (by omega) (by omega)).mp h2
    exact ⟨c - f, by omega, pk_sub hle⟩
  · rw [iB_of (by decide) w1]
    rfl
theorem J_out (hJ : J B r ng np) (h8 : ng ≤ 8) (h40 : np ≤ 40) (hg : g < ng) (hs : r (8 + 14 * g + 4) = 0) (hF : FirstG r np g p 1) : J B (F_go g p 0 r) ng np := by
  obtain ⟨hp, -, a3, -, w4⟩ := hF
  have w4 : r (120 + 7 * p + 0) = nI 4 := w4
  obtain ⟨lf, op, ho, cl, g5, g1, g2, g3, g6, -, -, -⟩ := stOf (st := 0) (hJ.2.1 g hg) (by decide) hs
  have z0 : F_go g p 0 r (120 + 7 * p + 0) = nI 2 := F_go_0 (by omega) (by omega)
  have hp1 := wOf (w := 4) (hJ.1 p hp) (by decide) w4
  refine J_upd hJ h8 h40 hg hp (fun i h1 h2 h3 h4 h5 h6 => F_go_o (by omega)) ⟨2, by decide, z0, fun h => by omega, fun _ => by rw [F_go_o (by omega)]; exact hp1.2.1 (by decide), fun h => by omega, fun _ => ⟨g, hg, by rw [F_go_o (by omega)]; exact a3, F_go_1 (by omega) (by omega)⟩, fun _ => ?_⟩ (J_gok (hJ.2.1 g hg) (by omega) (by omega) (fun f hf => rfl)) (Or.inl (g6 (Or.inl rfl)).2) (Or.inl ⟨F_go_o (by omega), ?_⟩) ?_ (Or.inl ?_)
  · obtain ⟨x, x1, x2, x3⟩ := hp1.2.2.2.2 (by decide)
    exact ⟨x, x1, by rw [F_go_o (by omega)]; exact x2, by rw [F_go_o (by omega)]; exact x3⟩
  · rw [w0B_ne (by decide) (by decide) z0, w0B_ne (by decide) (by decide) w4]
  · obtain ⟨c, lim, l1, l2, -⟩ := hJ.2.2.2.1
    exact ⟨c, l1, by rw [F_go_o (by omega)]; exact l2⟩
  · rw [iB_of (by decide) z0, iB_of (by decide) w4]
    rfl
/-- a gate alone changes -/
theorem J_gate (hJ : J B r ng np) (h8 : ng ≤ 8) (h40 : np ≤ 40) (hg : g < ng) (fr : ∀ i, i ≠ 5 → i < 436 → ¬ (8 + 14 * g ≤ i ∧ i < 22 + 14 * g) → r' i = r i) (hG : GateOk r' g) (h6 : r' (8 + 14 * g + 6) = r (8 + 14 * g + 6)) (h12 : r' (8 + 14 * g + 12) = r (8 + 14 * g + 12)) : J B r' ng np := by
  obtain ⟨j1, j2, j3, ⟨c, lim, l1, l2, l3, l4, l5, l6⟩, f, f1, f2⟩ := hJ
  have e : ∀ q, q < np → ∀ f, f < 7 → r' (120 + 7 * q + f) = r (120 + 7 * q + f) := fun q hq f hf => fr _ (by omega) (by omega) (by omega)
  refine ⟨fun p hp => (j1 p hp).keep (e p hp 0 (by decide)) (e p hp 1 (by decide)) (e p hp 3 (by decide)) (e p hp 4 (by decide)) (fun x hx => fr _ (by omega) (by omega) (by omega)) (fun _ g' hg' _ q6 => ?_), fun g' hg' => ?_, ?_, ⟨c, lim, l1, by rw [fr _ (by omega) (by omega) (by omega)]; exact l2, l3, l4, by rw [fr _ (by omega) (by omega) (by omega)]; exact l5, ?_⟩, f, f1, by rw [fr _ (by omega) (by omega) (by omega)]; exact f2⟩
  · by_cases hgg : g' = g
    · rw [hgg] at q6 ⊢
      exact h6.trans q6
    · rw [fr _ (by omega) (by omega) (by omega)]; exact q6
  · by_cases hgg : g' = g
    · rw [hgg]; exact hG
    · exact (j2 g' hg').keep (fun f f1 f2 => fr _ (by omega) (by omega) (by omega))
  · rw [sumR_same (r := r) (fun g' hg' => by
      by_cases hgg : g' = g
      · rw [hgg]; exact h12
      · exact fr _ (by omega) (by omega) (by omega)), j3]
    congr 1
    exact cnt_congr (fun q hq => by unfold w0B; rw [e q hq 0 (by decide)])
  · rw [cnt_congr (fun q hq => iB_keep (e q hq 0 (by decide)))]
    exact l6
/-- somebody passes -/
theorem J_let {s : Nat → Int32} {b : Int32} (hJ : J B r ng np) (h8 : ng ≤ 8) (h40 : np ≤ 40) (hg : g < ng) (hp : p < np) (hb : b = 1 ∨ b = 0) (w2 : r (120 + 7 * p + 0) = 2) (h6 : r (8 + 14 * g + 6) = nI p) (e : ∀ i, i ≠ 5 → i < 436 → ¬ (8 + 14 * g ≤ i ∧ i < 22 + 14 * g) → s i = r i) (e12 : s (8 + 14 * g + 12) = r (8 + 14 * g + 12)) (e1 : s (8 + 14 * g + 1) = r (8 + 14 * g + 1)) (e2 : s (8 + 14 * g + 2) = r (8 + 14 * g + 2)) (e3 : s (8 + 14 * g + 3) = r (8 + 14 * g + 3)) (e5 : s (8 + 14 * g + 5) = 0) (e4 : s (8 + 14 * g + 4) = 0 ∨ (s (8 + 14 * g + 4) = 5 ∧ s (8 + 14 * g + 9) = 0)) : J B (F_let g p b s) ng np := by
  have w2 : r (120 + 7 * p + 0) = nI 2 := w2
  obtain ⟨l0, l3, l6⟩ := F_let_w (r := s) (g := g) (p := p) hb (by omega) (by omega)
  have hp1 := wOf (w := 2) (hJ.1 p hp) (by decide) w2
  have ew : ∃ w, (w = 3 ∨ w = 5) ∧ F_let g p b s (120 + 7 * p + 0) = nI w := by
    rcases l0 with q | q
    · exact ⟨3, Or.inl rfl, q⟩
    · exact ⟨5, Or.inr rfl, q⟩
  obtain ⟨w, hw, ew⟩ := ew
  obtain ⟨st, lf, op, ho, cl, -, -, -, ⟨k1, o1, o2⟩, ⟨k2, q1, q2⟩, ⟨k3, c1, c2⟩, -⟩ := hJ.2.1 g hg
  have fo : ∀ i, i ≠ 5 → i < 436 → i ≠ 120 + 7 * p + 0 → i ≠ 120 + 7 * p + 3 → i ≠ 8 + 14 * g + 10 → i ≠ 8 + 14 * g + 11 → i ≠ 8 + 14 * g + 6 → F_let g p b s i = s i := fun i a1 a2 a3 a4 a5 a6 a7 => F_let_o hb (by omega)
  refine J_upd hJ h8 h40 hg hp (fun i h1 h2 h3 h4 h5 h6 => by rw [fo i (by omega) (by omega) (by omega) (by omega) (by omega) (by omega) (by omega)]; exact e i (by omega) h2 h4) ⟨w, by omega, ew, fun h => by omega, fun _ => ?_, fun _ => l3, fun h => by omega, fun _ => ?_⟩ ?_ (Or.inr h6) (Or.inl ⟨?_, ?_⟩) ?_ ?_
  · rw [fo _ (by omega) (by omega) (by omega) (by omega) (by omega) (by omega) (by omega), e _ (by omega) (by omega) (by omega)]
    exact hp1.2.1 (by decide)
  · obtain ⟨x, x1, x2, x3⟩ := hp1.2.2.2.2 (by decide)
    exact ⟨x, x1, by rw [fo _ (by omega) (by omega) (by omega) (by omega) (by omega) (by omega) (by omega), e _ (by omega) (by omega) (by omega)]; exact x2, by rw [fo _ (by omega) (by omega) (by omega) (by omega) (by omega) (by omega) (by omega), e _ (by omega) (by omega) (by omega)]; exact x3⟩
  · have f1 : F_let g p b s (8 + 14 * g + 1) = nI op := by rw [fo _ (by omega) (by omega) (by omega) (by omega) (by omega) (by omega) (by omega), e1]; exact k1
    have f2 : F_let g p b s (8 + 14 * g + 2) = nI ho := by rw [fo _ (by omega) (by omega) (by omega) (by omega) (by omega) (by omega) (by omega), e2]; exact k2
    have f3 : F_let g p b s (8 + 14 * g + 3) = nI cl := by rw [fo _ (by omega) (by omega) (by omega) (by omega) (by omega) (by omega) (by omega), e3]; exact k3
    have f5 : F_let g p b s (8 + 14 * g + 5) = nI 0 := by rw [fo _ (by omega) (by omega) (by omega) (by omega) (by omega) (by omega) (by omega)]; exact e5
    have f4 : F_let g p b s (8 + 14 * g + 4) = s (8 + 14 * g + 4) := fo _ (by omega) (by omega) (by omega) (by omega) (by omega) (by omega) (by omega)
    have f9 : F_let g p b s (8 + 14 * g + 9) = s (8 + 14 * g + 9) := fo _ (by omega) (by omega) (by omega) (by omega) (by omega) (by omega) (by omega)
    rcases e4 with e4 | ⟨e4, e9⟩
    · exact ⟨0, 0, op, ho, cl, by decide, f4.trans e4, f5, ⟨f1, o1, o2⟩, ⟨f2, q1, q2⟩, ⟨f3, c1, c2⟩, fun _ => ⟨rfl, l6⟩, fun h => absurd rfl h.1, fun h => by omega, fun h => by omega⟩
    · exact ⟨5, 0, op, ho, cl, by decide, f4.trans e4, f5, ⟨f1, o1, o2⟩, ⟨f2, q1, q2⟩, ⟨f3, c1, c2⟩, fun _ => ⟨rfl, l6⟩, fun h => absurd rfl h.2, fun h => by omega, fun _ => f9.trans e9⟩
  · rw [fo _ (by omega) (by omega) (by omega) (by omega) (by omega) (by omega) (by omega)]; exact e12
  · rw [w0B_ne (by omega) (by omega) ew, w0B_ne (by decide) (by decide) w2]
  · obtain ⟨c, lim, l1, l2, -⟩ := hJ.2.2.2.1
    exact ⟨c, l1, by rw [fo _ (by omega) (by omega) (by omega) (by omega) (by omega) (by omega) (by omega), e _ (by omega) (by omega) (by omega)]; exact l2⟩
  · rcases hw with rfl | rfl
    · refine Or.inl ?_
      rw [iB_of (by decide) ew, iB_of (by decide) w2]
      rfl
    · refine Or.inr (Or.inl ?_)
      rw [iB_of (by decide) ew]
      rfl
set_option maxHeartbeats 2000000 in
theorem J_step (hJ : J B r ng np) (h8 : ng ≤ 8) (h40 : np ≤ 40) (hg : g < ng) (h : StepR r np g r' v) : J B r' ng np := by
  have hg8 : g < 8 := by omega
  rcases h with ⟨-, rfl, -⟩ | ⟨-, -, rfl, -⟩ | ⟨p, y, hs, hF, y1, y5, -, rfl, -⟩ | ⟨p, x, hs, hF, hw, hx, rfl, -⟩ | ⟨p, hs, hF, rfl, -⟩ | ⟨p, st, o, b, hI, hl, -, rfl, -⟩ | ⟨p, st, o, b, hI, hl, -, rfl, -⟩ | ⟨p, o, b, hI, hl, rfl, -⟩ | ⟨p, o, b, hI, h9, ho, rfl, -⟩ | ⟨p, b, hI, h9, rfl, -⟩ | ⟨p, o, b, hI, h9, hl, rfl, -⟩
  · exact hJ
  · exact hJ
  · exact J_ref hJ h8 h40 hg hs hF y1 y5
  · exact J_in hJ h8 h40 hg hs hF hw hx
  · exact J_out hJ h8 h40 hg hs hF
  · obtain ⟨hp, s1, s4, e4, e6, w2, a3, -⟩ := hI
    have hp40 : p < 40 := by omega
    obtain ⟨lf, op, ho, cl, e5, k1, k2, k3, -, g7, g8, g9⟩ := stOf (hJ.2.1 g hg) (by omega) e4
    have b7 := g7 (by omega)
    have hlf : lf ≠ 1 := fun q => hl (by rw [e5, q]; rfl)
    refine J_gate hJ h8 h40 hg (fun i h1 h2 h3 => F_left_o (by omega)) ⟨st, lf - 1, op, ho, cl, by omega, by rw [F_left_o (by omega)]; exact e4, by rw [F_left_0 hg8 hp40, e5, nI_sub1 (by omega)], by rw [F_left_o (by omega)]; exact k1, by rw [F_left_o (by omega)]; exact k2, by rw [F_left_o (by omega)]; exact k3, fun h => by omega, fun _ => by omega, fun h => by have := g8 h; omega, fun h => by omega⟩ (F_left_o (by omega)) (F_left_o (by omega))
  · obtain ⟨hp, s1, s4, e4, e6, w2, a3, -, -, -, -, hsl, -⟩ := hI
    have hp40 : p < 40 := by omega
    obtain ⟨lf, op, ho, cl, e5, k1, ⟨k2, q1, q2⟩, k3, -, g7, g8, g9⟩ := stOf (hJ.2.1 g hg) (by omega) e4
    obtain ⟨m, m2, em⟩ := nI_dbl (n := ho) hsl
    have eb : r (8 + 14 * g + 2) + 2 * r (120 + 7 * p + 2) = nI (ho + m) := by rw [k2]; exact em
    refine J_gate hJ h8 h40 hg (fun i h1 h2 h3 => by rw [F_turn_o (by omega), F_left_o (by omega)]) ⟨2, ho + m, op, ho, cl, by decide, by rw [F_turn_0 hg8 hp40]; rfl, by rw [F_turn_1 hg8 hp40]; exact eb, by rw [F_turn_o (by omega), F_left_o (by omega)]; exact k1, by rw [F_turn_o (by omega), F_left_o (by omega)]; exact ⟨k2, q1, q2⟩, by rw [F_turn_o (by omega), F_left_o (by omega)]; exact k3, fun h => by omega, fun _ => by omega, fun h => by omega, fun h => by omega⟩ (by rw [F_turn_o (by omega), F_left_o (by omega)]) (by rw [F_turn_o (by omega), F_left_o (by omega)])
  · obtain ⟨hp, s1, s4, e4, e6, w2, a3, -⟩ := hI
    have hp40 : p < 40 := by omega
    obtain ⟨lf, op, ho, cl, e5, k1, k2, ⟨k3, c1, c2⟩, -, g7, g8, g9⟩ := stOf (hJ.2.1 g hg) (by omega) e4
    refine J_gate hJ h8 h40 hg (fun i h1 h2 h3 => by rw [F_turn_o (by omega), F_left_o (by omega)]) ⟨3, cl, op, ho, cl, by decide, by rw [F_turn_0 hg8 hp40]; rfl, by rw [F_turn_1 hg8 hp40]; exact k3, by rw [F_turn_o (by omega), F_left_o (by omega)]; exact k1, by rw [F_turn_o (by omega), F_left_o (by omega)]; exact k2, by rw [F_turn_o (by omega), F_left_o (by omega)]; exact ⟨k3, c1, c2⟩, fun h => by omega, fun _ => by omega, fun _ => Nat.le_refl _, fun h => by omega⟩ (by rw [F_turn_o (by omega), F_left_o (by omega)]) (by rw [F_turn_o (by omega), F_left_o (by omega)])
  · obtain ⟨hp, s1, s4, e4, e6, w2, a3, -⟩ := hI
    have hp40 : p < 40 := by omega
    obtain ⟨lf, op, ho', cl, e5, k1, k2, ⟨k3, c1, c2⟩, -, g7, g8, g9⟩ := stOf (hJ.2.1 g hg) (by omega) e4
    have b7 := g7 (by omega)
    have b8 := g8 rfl
    have eb : r (8 + 14 * g + 3) - (r (8 + 14 * g + 5) - 1) = nI (cl - (lf - 1)) := by rw [k3, e5, nI_sub1 (by omega)]; exact pk_sub (by omega)
    have fr : ∀ i, i ≠ 5 → i < 436 → i ≠ 8 + 14 * g + 4 → i ≠ 8 + 14 * g + 5 → i ≠ 8 + 14 * g + 9 → i ≠ 8 + 14 * g + 13 → i ≠ 8 + 14 * g + 8 → F_turn g 4 (r (8 + 14 * g + 3) - (r (8 + 14 * g + 5) - 1)) (F_pin g p o (F_left g r)) i = r i := fun i a1 a2 a3 a4 a5 a6 a7 => by rw [F_turn_o (by omega), F_pin_o (by omega), F_left_o (by omega)]
    refine J_gate hJ h8 h40 hg (fun i h1 h2 h3 => fr i h1 h2 (by omega) (by omega) (by omega) (by omega) (by omega)) ⟨4, cl - (lf - 1), op, ho', cl, by decide, by rw [F_turn_0 hg8 hp40]; rfl, by rw [F_turn_1 hg8 hp40]; exact eb, by rw [fr _ (by omega) (by omega) (by omega) (by omega) (by omega) (by omega) (by omega)]; exact k1, by rw [fr _ (by omega) (by omega) (by omega) (by omega) (by omega) (by omega) (by omega)]; exact k2, by rw [fr _ (by omega) (by omega) (by omega) (by omega) (by omega) (by omega) (by omega)]; exact ⟨k3, c1, c2⟩, fun h => by omega, fun _ => by omega, fun h => by omega, fun h => by omega⟩ (fr _ (by omega) (by omega) (by omega) (by omega) (by omega) (by omega) (by omega)) (fr _ (by omega) (by omega) (by omega) (by omega) (by omega) (by omega) (by omega))
  · obtain ⟨hp, s1, s4, e4, e6, w2, a3, -, -, -, hb, -⟩ := hI
    have hp40 : p < 40 := by omega
    have fr : ∀ i, i ≠ 5 → i < 436 → i ≠ 8 + 14 * g + 4 → i ≠ 8 + 14 * g + 5 → i ≠ 8 + 14 * g + 9 → i ≠ 8 + 14 * g + 13 → i ≠ 8 + 14 * g + 8 → F_brk g (F_pin g p 2 (F_left g r)) i = r i := fun i a1 a2 a3 a4 a5 a6 a7 => by rw [F_brk_o (by omega), F_pin_o (by omega), F_left_o (by omega)]
    exact J_let hJ h8 h40 hg hp hb w2 e6 (fun i h1 h2 h3 => fr i h1 h2 (by omega) (by omega) (by omega) (by omega) (by omega)) (fr _ (by omega) (by omega) (by omega) (by omega) (by omega) (by omega) (by omega)) (fr _ (by omega) (by omega) (by omega) (by omega) (by omega) (by omega) (by omega)) (fr _ (by omega) (by omega) (by omega) (by omega) (by omega) (by omega) (by omega)) (fr _ (by omega) (by omega) (by omega) (by omega) (by omega) (by omega) (by omega)) (F_brk_1 hg8 hp40) (Or.inr ⟨F_brk_0 hg8 hp40, F_brk_2 hg8 hp40⟩)
  · obtain ⟨hp, s1, s4, e4, e6, w2, a3, -, -, -, hb, -⟩ := hI
    have hp40 : p < 40 := by omega
    have fr : ∀ i, i ≠ 8 + 14 * g + 4 → i ≠ 8 + 14 * g + 5 → F_turn g 0 0 (F_left g r) i = r i := fun i a1 a2 => by rw [F_turn_o (by omega), F_left_o (by omega)]
    exact J_let hJ h8 h40 hg hp hb w2 e6 (fun i h1 h2 h3 => fr i (by omega) (by omega)) (fr _ (by omega) (by omega)) (fr _ (by omega) (by omega)) (fr _ (by omega) (by omega)) (fr _ (by omega) (by omega)) (F_turn_1 hg8 hp40) (Or.inl (F_turn_0 hg8 hp40))
theorem J_steps (h8 : ng ≤ 8) (h40 : np ≤ 40) : ∀ (k i : Nat) {r r' : Nat → Int32} {v : Nat}, i + k ≤ ng → J B r ng np → Steps np k i r r' v → J B r' ng np
  | 0, i, r, r', v, _, hJ, h => by rw [h.1]; exact hJ
  | k + 1, i, r, r', v, hi, hJ, ⟨r1, v1, v2, h1, h2, _⟩ => J_steps h8 h40 k (i + 1) (by omega) (J_step hJ h8 h40 (by omega) h1) h2
theorem J_o (hJ : J B r ng np) (h8 : ng ≤ 8) (h40 : np ≤ 40) (e : ∀ i, (i = 6 ∨ 8 ≤ i) → i < 436 → r' i = r i) : J B r' ng np := by
  obtain ⟨j1, j2, j3, ⟨c, lim, l1, l2, l3, l4, l5, l6⟩, f, f1, f2⟩ := hJ
  refine ⟨fun p hp => (j1 p hp).keep (e _ (by omega) (by omega)) (e _ (by omega) (by omega)) (e _ (by omega) (by omega)) (e _ (by omega) (by omega)) (fun x hx => e _ (by omega) (by omega)) (fun _ g hg _ h6 => by rw [e _ (by omega) (by omega)]; exact h6), fun g hg => (j2 g hg).keep (fun f f1 f2 => e _ (by omega) (by omega)), ?_, ⟨c, lim, l1, by rw [e _ (by omega) (by omega)]; exact l2, l3, l4, by rw [e _ (by omega) (by omega)]; exact l5, ?_⟩, f, f1, by rw [e _ (by omega) (by omega)]; exact f2⟩
  · rw [sumR_same (fun g hg => e _ (by omega) (by omega)), j3]
    congr 1
    exact cnt_congr (fun q hq => by unfold w0B; rw [e _ (by omega) (by omega)])
  · rw [cnt_congr (fun q hq => iB_keep (e _ (by omega) (by omega)))]
    exact l6
theorem J_tick (hJ : J B r ng np) (h8 : ng ≤ 8) (h40 : np ≤ 40) (h : TickR np ng r r' v) : J B r' ng np := by
  obtain ⟨r1, h1, rfl⟩ := h
  exact J_o (J_steps h8 h40 ng 0 (by omega) hJ h1) h8 h40 (fun i h1 h2 => pk_un (by omega))
theorem J_ticks (h8 : ng ≤ 8) (h40 : np ≤ 40) : ∀ (k : Nat) {r r' : Nat → Int32} {v : Nat}, J B r ng np → Ticks np ng k r r' v → J B r' ng np
  | 0, r, r', v, hJ, h => by rw [h.1]; exact hJ
  | k + 1, r, r', v, hJ, ⟨r1, v1, v2, h1, _, h2, _⟩ => J_ticks h8 h40 k (J_tick hJ h8 h40 h1) h2
end JSTEP
