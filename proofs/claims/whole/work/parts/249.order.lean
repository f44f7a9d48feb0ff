/-! an order, on both sides -/
section ORDERAT
variable {L : Nat → Int32} {l p ng : Nat} {ρ : Mm}
def kl (k : Nat) : Int32 := if k = 0 then 105 else if k = 1 then 111 else if k = 2 then 116 else 120
def OrdC (L : Nat → Int32) (l ng p : Nat) (b : Bool) (q k : Nat) (g v s : Int32) : Prop := ∀ (u : Mm) (Φ : Int32 → Mm → Prop), CS L l u p → (∀ u' : Mm, (∀ x, x ≠ 745 → u' x = u x) → CS L l u' q → (b = true → u' 745 3 = kl k ∧ (k ≠ 2 → u' 745 4 = g) ∧ (k ≠ 3 → u' 745 5 = v) ∧ (k = 0 → u' 745 6 = s)) → Φ (cond b 1 0) u') → w_X3_readOrder (nI ng) u Φ
def OrdR (L : Nat → Int32) (l ng p : Nat) (b : Bool) (q k : Nat) (g v s : Int32) : Prop := ∀ (ρ : Mm) (Φ : Unit → Mm → Prop) (o : Nat), o < 50 → GS L l ρ p → ρ 0 8 = nI o → ρ 1 1 = nI ng → (∀ ρ' : Mm, (∀ x, x ≠ 0 → x ≠ 5 → ρ' x = ρ x) → (∀ j, j < 6 → ρ' 0 j = ρ 0 j) → ρ' 0 6 = nI q → ρ' 0 7 = cond b 1 0 → ρ' 0 8 = nI (o + 1) → (∀ i, i < 4 * o → ρ' 5 i = ρ 5 i) → (b = true → ρ' 5 (4 * o) = nI k ∧ ρ' 5 (4 * o + 1) = (if k = 2 then v else g) ∧ (k < 2 → ρ' 5 (4 * o + 2) = v) ∧ (k = 0 → ρ' 5 (4 * o + 3) = s)) → Φ () ρ') → w_X10_readOrder ρ Φ
def OrdAt (L : Nat → Int32) (l ng p : Nat) (b : Bool) (q k : Nat) (g v s : Int32) : Prop := (b = true → p + 2 ≤ q ∧ q ≤ l ∧ p < l ∧ k ≤ 3 ∧ isB s) ∧ OrdC L l ng p b q k g v s ∧ OrdR L l ng p b q k g v s
theorem f_fin {m : Mm} {o : Nat} {Φ : Unit → Mm → Prop} (hc : m 0 8 = nI o) (H : Φ () (up2 m 0 8 (nI (o + 1)))) : ∀ u : Mm, u = up2 m 0 8 (m 0 8 + (1 : Int32)) → Φ () u := by
  rintro _ rfl
  rw [hc, nI_1]
  exact H
theorem slow_0 {o : Nat} {v : Int32} {Φ : Unit → Mm → Prop} (ho : o < 50) (bad : ρ 0 7 = 0) (s8 : ρ 0 8 = nI o) (H : Φ () (up2 (up2 (up2 ρ 5 (4 * o + 2) v) 5 (4 * o + 3) 0) 0 8 (nI (o + 1)))) : w_X10_readOrder_89 Φ (nI (4 * o)) v (nI (4 * o + 2)) ρ := by
  have x0 : (4 : Int32) * nI o = nI (4 * o) := by rw [show (4 : Int32) = nI 4 from rfl, pk_mul]
  have x1 : nI (4 * o) + (1 : Int32) = nI (4 * o + 1) := nI_add _ 1
  have x2 : nI (4 * o) + (2 : Int32) = nI (4 * o + 2) := nI_add _ 2
  have x3 : nI (4 * o) + (3 : Int32) = nI (4 * o + 3) := nI_add _ 3
  have k0 : (nI (4 * o)).toNatClampNeg = 4 * o := cl (by omega)
  have k1 : (nI (4 * o + 1)).toNatClampNeg = 4 * o + 1 := cl (by omega)
  have k2 : (nI (4 * o + 2)).toNatClampNeg = 4 * o + 2 := cl (by omega)
  have k3 : (nI (4 * o + 3)).toNatClampNeg = 4 * o + 3 := cl (by omega)
  unfold w_X10_readOrder_89
  rw [x3, k2, k3]
  refine ⟨vp_in_nI (by omega) (by omega), ?_⟩
  rintro _ rfl
  refine f_skips_0 (by rw [up2_n (by omega)]; exact bad) ?_
  show (if (0 : Int32) = 0 then _ else _)
  rw [if_pos rfl]
  refine ⟨vp_in_nI (by omega) (by omega), ?_⟩
  rintro _ rfl
  exact f_fin (by repeat (first | exact s8 | rw [up2_n (by omega)])) H
/-- who is slow, on both sides -/
theorem slow_at (hp : p < 90) : ∃ q s, isB s ∧ p ≤ q ∧ q < 100 ∧ (p ≤ l → q ≤ l) ∧ (∀ (u : Mm) (Φ : Int32 → Mm → Prop), CS L l u p → (∀ u' : Mm, CS L l u' q → (∀ x j, ¬ (x = 745 ∧ j = 2) → u' x j = u x j) → Φ s u') → w_X3_skip 115 u Φ) ∧ (∀ (ρ : Mm) (Φ : Unit → Mm → Prop) (o : Nat) (v : Int32), o < 50 → GS L l ρ p → ρ 0 8 = nI o → (∀ ρ' : Mm, (∀ x, x ≠ 0 → x ≠ 5 → ρ' x = ρ x) → (∀ j, j < 6 → ρ' 0 j = ρ 0 j) → ρ' 0 6 = nI q → ρ' 0 7 = 1 → ρ' 0 8 = nI (o + 1) → (∀ i, i ≠ 4 * o + 2 → i ≠ 4 * o + 3 → ρ' 5 i = ρ 5 i) → ρ' 5 (4 * o + 2) = v → ρ' 5 (4 * o + 3) = s → Φ () ρ') → w_X10_readOrder_89 Φ (nI (4 * o)) v (nI (4 * o + 2)) ρ) := by
  by_cases e : lh L l p = 115
  · have hpl : p < l := lh_lt e (by decide)
    refine ⟨p + 1, 1, Or.inr rfl, by omega, by omega, fun _ => by omega, fun u Φ t H => c_skip_y t e (H _ (t.go (by omega)) (fun x j h => up2_n (by omega))), fun ρ Φ o v ho t s8 H => ?_⟩
    have x0 : (4 : Int32) * nI o = nI (4 * o) := by rw [show (4 : Int32) = nI 4 from rfl, pk_mul]
    have x1 : nI (4 * o) + (1 : Int32) = nI (4 * o + 1) := nI_add _ 1
    have x2 : nI (4 * o) + (2 : Int32) = nI (4 * o + 2) := nI_add _ 2
    have x3 : nI (4 * o) + (3 : Int32) = nI (4 * o + 3) := nI_add _ 3
    have k0 : (nI (4 * o)).toNatClampNeg = 4 * o := cl (by omega)
    have k1 : (nI (4 * o + 1)).toNatClampNeg = 4 * o + 1 := cl (by omega)
    have k2 : (nI (4 * o + 2)).toNatClampNeg = 4 * o + 2 := cl (by omega)
    have k3 : (nI (4 * o + 3)).toNatClampNeg = 4 * o + 3 := cl (by omega)
    unfold w_X10_readOrder_89
    rw [x3, k2, k3]
    refine ⟨vp_in_nI (by omega) (by omega), ?_⟩
    rintro _ rfl
    refine f_skips_y t.row (by decide) e ?_
    show (if (1 : Int32) = 0 then _ else _)
    rw [if_neg (by decide)]
    refine ⟨vp_in_nI (by omega) (by omega), ?_⟩
    rintro _ rfl
    exact f_fin (by repeat (first | exact s8 | rw [up2_n (by omega)])) (H _ (fun x h0 h5 => by repeat (first | rfl | rw [up2_k h0] | rw [up2_k h5])) (fun j hj => by repeat (first | rfl | rw [up2_n (by omega)])) (by repeat (first | exact up2_s _ _ _ _ | rw [up2_n (by omega)])) (by repeat (first | exact t.2.2.2.2.2 | rw [up2_n (by omega)])) (by repeat (first | exact up2_s _ _ _ _ | rw [up2_n (by omega)])) (fun i hi hi2 => by repeat (first | rfl | rw [up2_n (by omega)])) (by repeat (first | exact up2_s _ _ _ _ | rw [up2_n (by omega)])) (by repeat (first | exact up2_s _ _ _ _ | rw [up2_n (by omega)])))
  · refine ⟨p, 0, Or.inl rfl, Nat.le_refl _, by omega, fun h => h, fun u Φ t H => c_skip_n t e (H _ t (fun x j h => rfl)), fun ρ Φ o v ho t s8 H => ?_⟩
    have x0 : (4 : Int32) * nI o = nI (4 * o) := by rw [show (4 : Int32) = nI 4 from rfl, pk_mul]
    have x1 : nI (4 * o) + (1 : Int32) = nI (4 * o + 1) := nI_add _ 1
    have x2 : nI (4 * o) + (2 : Int32) = nI (4 * o + 2) := nI_add _ 2
    have x3 : nI (4 * o) + (3 : Int32) = nI (4 * o + 3) := nI_add _ 3
    have k0 : (nI (4 * o)).toNatClampNeg = 4 * o := cl (by omega)
    have k1 : (nI (4 * o + 1)).toNatClampNeg = 4 * o + 1 := cl (by omega)
    have k2 : (nI (4 * o + 2)).toNatClampNeg = 4 * o + 2 := cl (by omega)
    have k3 : (nI (4 * o + 3)).toNatClampNeg = 4 * o + 3 := cl (by omega)
    unfold w_X10_readOrder_89
    rw [x3, k2, k3]
    refine ⟨vp_in_nI (by omega) (by omega), ?_⟩
    rintro _ rfl
    refine f_skips_n t.row (by decide) e ?_
    show (if (0 : Int32) = 0 then _ else _)
    rw [if_pos rfl]
    refine ⟨vp_in_nI (by omega) (by omega), ?_⟩
    rintro _ rfl
    exact f_fin (by repeat (first | exact s8 | rw [up2_n (by omega)])) (H _ (fun x h0 h5 => by repeat (first | rfl | rw [up2_k h0] | rw [up2_k h5])) (fun j hj => by repeat (first | rfl | rw [up2_n (by omega)])) (by repeat (first | exact t.2.1 | rw [up2_n (by omega)])) (by repeat (first | exact t.2.2.2.2.2 | rw [up2_n (by omega)])) (by repeat (first | exact up2_s _ _ _ _ | rw [up2_n (by omega)])) (fun i hi hi2 => by repeat (first | rfl | rw [up2_n (by omega)])) (by repeat (first | exact up2_s _ _ _ _ | rw [up2_n (by omega)])) (by repeat (first | exact up2_s _ _ _ _ | rw [up2_n (by omega)])))
/-- with which pass, and how fast, on both sides -/
theorem pace_at (hp : p < 80) : (∃ q v s, isB s ∧ p ≤ q ∧ (p ≤ l → q ≤ l) ∧ (∀ (u : Mm) (Φ : Int32 → Mm → Prop), CS L l u p → (∀ u' : Mm, CS L l u' q → (∀ x j, ¬ (x = 745 ∧ (j = 2 ∨ j = 5 ∨ j = 6)) → u' x j = u x j) → u' 745 5 = v → u' 745 6 = s → Φ 1 u') → w_X3_readPassAndPace u Φ) ∧ (∀ (ρ : Mm) (Φ : Unit → Mm → Prop) (o : Nat), o < 50 → GS L l ρ p → ρ 0 8 = nI o → (∀ ρ' : Mm, (∀ x, x ≠ 0 → x ≠ 5 → ρ' x = ρ x) → (∀ j, j < 6 → ρ' 0 j = ρ 0 j) → ρ' 0 6 = nI q → ρ' 0 7 = 1 → ρ' 0 8 = nI (o + 1) → (∀ i, i ≠ 4 * o + 2 → i ≠ 4 * o + 3 → ρ' 5 i = ρ 5 i) → ρ' 5 (4 * o + 2) = v → ρ' 5 (4 * o + 3) = s → Φ () ρ') → w_X10_skips 112 ρ (fun r43 u42 => if r43 = 0 then w_X10_readOrder_89 Φ (nI (4 * o)) (-1) (nI (4 * o + 2)) u42 else w_X10_number 0 u42 (fun r54 u53 => w_X10_readOrder_89 Φ (nI (4 * o)) r54 (nI (4 * o + 2)) u53)))) ∨ (∃ q, (∀ (u : Mm) (Φ : Int32 → Mm → Prop), CS L l u p → (∀ u' : Mm, CS L l u' q → (∀ x j, ¬ (x = 745 ∧ (j = 2 ∨ j = 5 ∨ j = 6)) → u' x j = u x j) → Φ 0 u') → w_X3_readPassAndPace u Φ) ∧ (∀ (ρ : Mm) (Φ : Unit → Mm → Prop) (o : Nat), o < 50 → GS L l ρ p → ρ 0 8 = nI o → (∀ ρ' : Mm, (∀ x, x ≠ 0 → x ≠ 5 → ρ' x = ρ x) → (∀ j, j < 6 → ρ' 0 j = ρ 0 j) → ρ' 0 6 = nI q → ρ' 0 7 = 0 → ρ' 0 8 = nI (o + 1) → (∀ i, i ≠ 4 * o + 2 → i ≠ 4 * o + 3 → ρ' 5 i = ρ 5 i) → Φ () ρ') → w_X10_skips 112 ρ (fun r43 u42 => if r43 = 0 then w_X10_readOrder_89 Φ (nI (4 * o)) (-1) (nI (4 * o + 2)) u42 else w_X10_number 0 u42 (fun r54 u53 => w_X10_readOrder_89 Φ (nI (4 * o)) r54 (nI (4 * o + 2)) u53)))) := by
  by_cases e : lh L l p = 112
  · have hpl : p < l := lh_lt e (by decide)
    rcases num_at (L := L) (l := l) (p := p + 1) (by omega) (a := 0) (Or.inl rfl) with ⟨v, q, n1, n2, n3, nC, nR⟩ | ⟨nC, nR⟩
    · by_cases hq90 : q < 90
      · obtain ⟨q2, s, hs, q1, q3, q4, sC, sR⟩ := slow_at (L := L) (l := l) (p := q) hq90
        refine Or.inl ⟨q2, nI v, s, hs, by omega, fun _ => q4 n3, fun u Φ t H => ?_, fun ρ Φ o ho t s8 H => ?_⟩
        · unfold w_X3_readPassAndPace
          rintro _ rfl
          refine c_skip_y (t.cell (by decide)) e ?_
          show (if (1 : Int32) = 0 then _ else _)
          rw [if_neg (by decide)]
          refine nC _ _ ((t.cell (by decide)).go (by omega)) (fun u1 a1 a2 a3 => ?_)
          show (if (1 : Int32) = 0 then _ else _)
          rw [if_neg (by decide)]
          refine sC u1 _ a1 (fun u2 b1 b2 => ⟨hs, ?_⟩)
          rintro _ rfl
          refine H _ (b1.cell (by decide)) (fun x j h => ?_) ?_ (up2_s _ _ _ _)
          · rw [up2_n (by omega), b2 x j (by omega), a2 x j (by omega), up2_n (by omega), up2_n (by omega)]
          · rw [up2_n (by omega), b2 745 5 (by omega)]
            exact a3
        · refine f_skips_y t (by decide) e ?_
          show (if (1 : Int32) = 0 then _ else _)
          rw [if_neg (by decide)]
          refine nR _ _ (t.go (by omega)) ?_
          refine sR _ Φ o _ ho ((t.go (by omega)).go (by omega)) (by repeat (first | exact s8 | rw [up2_n (by omega)])) (fun ρ' h1 h2 h3 h4 h5 h6 h7 h8 => H ρ' (fun x h0 h5 => ?_) (fun j hj => ?_) h3 h4 h5 (fun i i2 i3 => ?_) h7 h8)
          · rw [h1 x h0 h5]
            repeat (first | rfl | rw [up2_k h0])
          · rw [h2 j hj]
            repeat (first | rfl | rw [up2_n (by omega)])
          · rw [h6 i i2 i3]
            repeat (first | rfl | rw [up2_n (by omega)])
      · refine Or.inr ⟨q, fun u Φ t H => ?_, fun ρ Φ o ho t s8 H => ?_⟩
        · exact absurd (show l ≤ 50 from t.2.2.2.1) (by omega)
        · exact absurd (show l ≤ 50 from t.2.2.2.1) (by omega)
    · refine Or.inr ⟨p + 1, fun u Φ t H => ?_, fun ρ Φ o ho t s8 H => ?_⟩
      · unfold w_X3_readPassAndPace
        rintro _ rfl
        refine c_skip_y (t.cell (by decide)) e ?_
        show (if (1 : Int32) = 0 then _ else _)
        rw [if_neg (by decide)]
        refine nC _ _ ((t.cell (by decide)).go (by omega)) ?_
        show (if (0 : Int32) = 0 then _ else _)
        rw [if_pos rfl]
        refine H _ ((t.cell (by decide)).go (by omega)) (fun x j h => ?_)
        rw [up2_n (by omega), up2_n (by omega)]
      · refine f_skips_y t (by decide) e ?_
        show (if (1 : Int32) = 0 then _ else _)
        rw [if_neg (by decide)]
        refine nR _ _ (t.go (by omega)) ?_
        exact slow_0 ho (up2_s _ _ _ _) (by repeat (first | exact s8 | rw [up2_n (by omega)])) (H _ (fun x h0 h5 => by repeat (first | rfl | rw [up2_k h0] | rw [up2_k h5])) (fun j hj => by repeat (first | rfl | rw [up2_n (by omega)])) (by repeat (first | exact up2_s _ _ _ _ | rw [up2_n (by omega)])) (by repeat (first | exact up2_s _ _ _ _ | rw [up2_n (by omega)])) (by repeat (first | exact up2_s _ _ _ _ | rw [up2_n (by omega)])) (fun i hi hi2 => by repeat (first | rfl | rw [up2_n (by omega)])))
  · obtain ⟨q, s, hs, q1, q3, q4, sC, sR⟩ := slow_at (L := L) (l := l) (p := p) (by omega)
    refine Or.inl ⟨q, -1, s, hs, q1, q4, fun u Φ t H => ?_, fun ρ Φ o ho t s8 H => ?_⟩
    · unfold w_X3_readPassAndPace
      rintro _ rfl
      refine c_skip_n (t.cell (by decide)) e ?_
      show (if (0 : Int32) = 0 then _ else _)
      rw [if_pos rfl]
      refine sC _ _ (t.cell (by decide)) (fun u2 b1 b2 => ⟨hs, ?_⟩)
      rintro _ rfl
      refine H _ (b1.cell (by decide)) (fun x j h => ?_) ?_ (up2_s _ _ _ _)
      · rw [up2_n (by omega), b2 x j (by omega), up2_n (by omega)]
      · rw [up2_n (by omega), b2 745 5 (by omega), up2_s]
    · refine f_skips_n t (by decide) e ?_
      show (if (0 : Int32) = 0 then _ else _)
      rw [if_pos rfl]
      exact sR _ Φ o _ ho t s8 H
theorem ord_none (hp : p < 60) (ei : lh L l p ≠ 105) (eo : lh L l p ≠ 111) (et : lh L l p ≠ 116) (ex : lh L l p ≠ 120) : OrdAt L l ng p false p 0 0 0 0 := by
  refine ⟨fun h => absurd h (by decide), ?_, ?_⟩
  · intro u Φ t H
    unfold w_X3_readOrder
    rw [c_here t]
    rintro _ rfl
    rw [up2_s, if_neg ei, if_neg eo, if_neg et, if_neg ex]
    exact H _ (fun x hx => by repeat (first | rfl | rw [up2_k hx])) (t.cell (by decide)) (fun h => absurd h (by decide))
  · intro ρ Φ o ho t s8 r11 H
    have x0 : (4 : Int32) * nI o = nI (4 * o) := by rw [show (4 : Int32) = nI 4 from rfl, pk_mul]
    have x1 : nI (4 * o) + (1 : Int32) = nI (4 * o + 1) := nI_add _ 1
    have x2 : nI (4 * o) + (2 : Int32) = nI (4 * o + 2) := nI_add _ 2
    have x3 : nI (4 * o) + (3 : Int32) = nI (4 * o + 3) := nI_add _ 3
    have k0 : (nI (4 * o)).toNatClampNeg = 4 * o := cl (by omega)
    have k1 : (nI (4 * o + 1)).toNatClampNeg = 4 * o + 1 := cl (by omega)
    have k2 : (nI (4 * o + 2)).toNatClampNeg = 4 * o + 2 := cl (by omega)
    have k3 : (nI (4 * o + 3)).toNatClampNeg = 4 * o + 3 := cl (by omega)
    have m2 : GS L l (up2 (up2 ρ 5 (4 * o + 2) (-1)) 5 (4 * o + 3) 0) p := t.row.row
    unfold w_X10_readOrder
    rw [s8, x0, x1, x2, x3, show (1 : Int32).toNatClampNeg = 1 from rfl, r11, k0, k1, k2, k3]
    refine ⟨vp_in_nI (by omega) (by omega), ?_⟩
    rintro _ rfl
    refine ⟨vp_in_nI (by omega) (by omega), ?_⟩
    rintro _ rfl
    refine f_skips_n m2 (by decide) ei ?_
    show (if (0 : Int32) = 0 then _ else _)
    rw [if_pos rfl]
    refine f_skips_n m2 (by decide) eo ?_
    show (if (0 : Int32) = 0 then _ else _)
    rw [if_pos rfl]
    refine f_skips_n m2 (by decide) et ?_
    show (if (0 : Int32) = 0 then _ else _)
    rw [if_pos rfl]
    refine f_skips_n m2 (by decide) ex ?_
    show (if (0 : Int32) = 0 then _ else _)
    rw [if_pos rfl]
    rintro _ rfl
    exact f_fin (by repeat (first | exact s8 | rw [up2_n (by omega)])) (H _ (fun x h0 h5 => by repeat (first | rfl | rw [up2_k h0] | rw [up2_k h5])) (fun j hj => by repeat (first | rfl | rw [up2_n (by omega)])) (by repeat (first | exact t.2.1 | rw [up2_n (by omega)])) (by repeat (first | exact up2_s _ _ _ _ | rw [up2_n (by omega)])) (by repeat (first | exact up2_s _ _ _ _ | rw [up2_n (by omega)])) (fun i hi => by repeat (first | rfl | rw [up2_n (by omega)])) (fun h => absurd h (by decide)))
theorem ord_x (hng : ng ≤ 8) (hp : p < 60) (e : lh L l p = 120) : ∃ b q k g v s, OrdAt L l ng p b q k g v s := by
  have hp0 : p < l := lh_lt e (by decide)
  rcases gate_at (L := L) (l := l) (p := p + 1) hng with ⟨d, hd, hpl, gC, gR⟩ | ⟨gC, gR⟩
  · refine ⟨true, p + 1 + 1, 3, nI d, 0, 0, fun _ => ⟨by omega, by omega, hp0, by omega, Or.inl rfl⟩, ?_, ?_⟩
    · intro u Φ t H
      have t1 : CS L l (up2 u 745 3 120) p := t.cell (by decide)
      have t2 : CS L l (up2 (up2 u 745 3 120) 745 2 (nI (p + 1))) (p + 1) := t1.go (by omega)
      have kd : up2 (up2 u 745 3 120) 745 2 (nI (p + 1)) 745 3 = 120 := by
        rw [up2_n (by omega), up2_s]
      unfold w_X3_readOrder
      rw [c_here t, e]
      rintro _ rfl
      rw [up2_s, if_neg (by decide), if_neg (by decide), if_neg (by decide), if_pos rfl]
      unfold w_X3_readOrder_46
      rintro _ rfl
      rw [t1.2.1, nI_1, kd]
      have t3 : ∀ kk : Int32, CS L l (up2 (up2 (up2 (up2 u 745 3 kk) 745 2 (nI (p + 1))) 745 4 (nI d)) 745 2 (nI (p + 1 + 1))) (p + 1 + 1) := fun kk => (((t.cell (by decide)).go (by omega)).cell (by decide)).go (by omega)
      have kd3 : ∀ kk : Int32, up2 (up2 (up2 (up2 u 745 3 kk) 745 2 (nI (p + 1))) 745 4 (nI d)) 745 2 (nI (p + 1 + 1)) 745 3 = kk := fun kk => by
        rw [up2_n (by omega), up2_n (by omega), up2_n (by omega), up2_s]
      rw [if_neg (by decide)]
      refine gC _ _ t2 ?_
      show (if (1 : Int32) = 0 then _ else _)
      rw [if_neg (by decide)]
      rw [kd3 120]
      rw [if_neg (by decide), if_pos rfl]
      exact H _ (fun x hx => by repeat (first | rfl | rw [up2_k hx])) (t3 _) (fun _ => ⟨kd3 _, fun _ => (by repeat (first | exact up2_s _ _ _ _ | rw [up2_n (by omega)])), fun h => absurd rfl h, fun h => absurd h (by decide)⟩)
    · intro ρ Φ o ho t s8 r11 H
      have x0 : (4 : Int32) * nI o = nI (4 * o) := by rw [show (4 : Int32) = nI 4 from rfl, pk_mul]
      have x1 : nI (4 * o) + (1 : Int32) = nI (4 * o + 1) := nI_add _ 1
      have x2 : nI (4 * o) + (2 : Int32) = nI (4 * o + 2) := nI_add _ 2
      have x3 : nI (4 * o) + (3 : Int32) = nI (4 * o + 3) := nI_add _ 3
      have k0 : (nI (4 * o)).toNatClampNeg = 4 * o := cl (by omega)
      have k1 : (nI (4 * o + 1)).toNatClampNeg = 4 * o + 1 := cl (by omega)
      have k2 : (nI (4 * o + 2)).toNatClampNeg = 4 * o + 2 := cl (by omega)
      have k3 : (nI (4 * o + 3)).toNatClampNeg = 4 * o + 3 := cl (by omega)
      have m2 : GS L l (up2 (up2 ρ 5 (4 * o + 2) (-1)) 5 (4 * o + 3) 0) p := t.row.row
      unfold w_X10_readOrder
      rw [s8, x0, x1, x2, x3, show (1 : Int32).toNatClampNeg = 1 from rfl, r11, k0, k1, k2, k3]
      refine ⟨vp_in_nI (by omega) (by omega), ?_⟩
      rintro _ rfl
      refine ⟨vp_in_nI (by omega) (by omega), ?_⟩
      rintro _ rfl
      refine f_skips_n m2 (by decide) (by rw [e]; decide) ?_
      show (if (0 : Int32) = 0 then _ else _)
      rw [if_pos rfl]
      refine f_skips_n m2 (by decide) (by rw [e]; decide) ?_
      show (if (0 : Int32) = 0 then _ else _)
      rw [if_pos rfl]
      refine f_skips_n m2 (by decide) (by rw [e]; decide) ?_
      show (if (0 : Int32) = 0 then _ else _)
      rw [if_pos rfl]
      refine f_skips_y m2 (by decide) e ?_
      show (if (1 : Int32) = 0 then _ else _)
      rw [if_neg (by decide)]
      refine ⟨vp_in_nI (by omega) (by omega), ?_⟩
      rintro _ rfl
      have m3 : ∀ kk : Int32, GS L l (up2 (up2 (up2 (up2 ρ 5 (4 * o + 2) (-1)) 5 (4 * o + 3) 0) 0 6 (nI (p + 1))) 5 (4 * o) kk) (p + 1) := fun kk => (m2.go (by omega)).row
      refine gR _ _ (m3 _) ?_
      refine ⟨vp_in_nI (by omega) (by omega), ?_⟩
      rintro _ rfl
      exact f_fin (by repeat (first | exact s8 | rw [up2_n (by omega)])) (H _ (fun x h0 h5 => by repeat (first | rfl | rw [up2_k h0] | rw [up2_k h5])) (fun j hj => by repeat (first | rfl | rw [up2_n (by omega)])) (by repeat (first | exact up2_s _ _ _ _ | rw [up2_n (by omega)])) (by repeat (first | exact t.2.2.2.2.2 | rw [up2_n (by omega)])) (by repeat (first | exact up2_s _ _ _ _ | rw [up2_n (by omega)])) (fun i hi => by repeat (first | rfl | rw [up2_n (by omega)])) (fun _ => ⟨(by repeat (first | exact up2_s _ _ _ _ | rw [up2_n (by omega)])), (by repeat (first | exact up2_s _ _ _ _ | rw [up2_n (by omega)])), fun h => absurd h (by decide), fun h => absurd h (by decide)⟩))
  · refine ⟨false, p + 1, 0, 0, 0, 0, fun h => absurd h (by decide), ?_, ?_⟩
    · intro u Φ t H
      have t1 : CS L l (up2 u 745 3 120) p := t.cell (by decide)
      have t2 : CS L l (up2 (up2 u 745 3 120) 745 2 (nI (p + 1))) (p + 1) := t1.go (by omega)
      have kd : up2 (up2 u 745 3 120) 745 2 (nI (p + 1)) 745 3 = 120 := by
        rw [up2_n (by omega), up2_s]
      unfold w_X3_readOrder
      rw [c_here t, e]
      rintro _ rfl
      rw [up2_s, if_neg (by decide), if_neg (by decide), if_neg (by decide), if_pos rfl]
      unfold w_X3_readOrder_46
      rintro _ rfl
      rw [t1.2.1, nI_1, kd]
      rw [if_neg (by decide)]
      refine gC _ _ t2 (fun y => ?_)
      show (if (0 : Int32) = 0 then _ else _)
      rw [if_pos rfl]
      exact H _ (fun x hx => by repeat (first | rfl | rw [up2_k hx])) (t2.cell (by decide)) (fun h => absurd h (by decide))
    · intro ρ Φ o ho t s8 r11 H
      have x0 : (4 : Int32) * nI o = nI (4 * o) := by rw [show (4 : Int32) = nI 4 from rfl, pk_mul]
      have x1 : nI (4 * o) + (1 : Int32) = nI (4 * o + 1) := nI_add _ 1
      have x2 : nI (4 * o) + (2 : Int32) = nI (4 * o + 2) := nI_add _ 2
      have x3 : nI (4 * o) + (3 : Int32) = nI (4 * o + 3) := nI_add _ 3
      have k0 : (nI (4 * o)).toNatClampNeg = 4 * o := cl (by omega)
      have k1 : (nI (4 * o + 1)).toNatClampNeg = 4 * o + 1 := cl (by omega)
      have k2 : (nI (4 * o + 2)).toNatClampNeg = 4 * o + 2 := cl (by omega)
      have k3 : (nI (4 * o + 3)).toNatClampNeg = 4 * o + 3 := cl (by omega)
      have m2 : GS L l (up2 (up2 ρ 5 (4 * o + 2) (-1)) 5 (4 * o + 3) 0) p := t.row.row
      unfold w_X10_readOrder
      rw [s8, x0, x1, x2, x3, show (1 : Int32).toNatClampNeg = 1 from rfl, r11, k0, k1, k2, k3]
      refine ⟨vp_in_nI (by omega) (by omega), ?_⟩
      rintro _ rfl
      refine ⟨vp_in_nI (by omega) (by omega), ?_⟩
      rintro _ rfl
      refine f_skips_n m2 (by decide) (by rw [e]; decide) ?_
      show (if (0 : Int32) = 0 then _ else _)
      rw [if_pos rfl]
      refine f_skips_n m2 (by decide) (by rw [e]; decide) ?_
      show (if (0 : Int32) = 0 then _ else _)
      rw [if_pos rfl]
      refine f_skips_n m2 (by decide) (by rw [e]; decide) ?_
      show (if (0 : Int32) = 0 then _ else _)
      rw [if_pos rfl]
      refine f_skips_y m2 (by decide) e ?_
      show (if (1 : Int32) = 0 then _ else _)
      rw [if_neg (by decide)]
      refine ⟨vp_in_nI (by omega) (by omega), ?_⟩
      rintro _ rfl
      have m3 : ∀ kk : Int32, GS L l (up2 (up2 (up2 (up2 ρ 5 (4 * o + 2) (-1)) 5 (4 * o + 3) 0) 0 6 (nI (p + 1))) 5 (4 * o) kk) (p + 1) := fun kk => (m2.go (by omega)).row
      refine gR _ _ (m3 _) ?_
      refine ⟨vp_in_nI (by omega) (by omega), ?_⟩
      rintro _ rfl
      exact f_fin (by repeat (first | exact s8 | rw [up2_n (by omega)])) (H _ (fun x h0 h5 => by repeat (first | rfl | rw [up2_k h0] | rw [up2_k h5])) (fun j hj => by repeat (first | rfl | rw [up2_n (by omega)])) (by repeat (first | exact up2_s _ _ _ _ | rw [up2_n (by omega)])) (by repeat (first | exact up2_s _ _ _ _ | rw [up2_n (by omega)])) (by repeat (first | exact up2_s _ _ _ _ | rw [up2_n (by omega)])) (fun i hi => by repeat (first | rfl | rw [up2_n (by omega)])) (fun h => absurd h (by decide)))
theorem ord_t (hng : ng ≤ 8) (hp : p < 60) (e : lh L l p = 116) : ∃ b q k g v s, OrdAt L l ng p b q k g v s := by
  have hp0 : p < l := lh_lt e (by decide)
  rcases num_at (L := L) (l := l) (p := p + 1) (by omega) (a := 1) (Or.inr rfl) with ⟨v, q, n1, n2, n3, nC, nR⟩ | ⟨nC, nR⟩
  · refine ⟨true, q, 2, 0, nI v, 0, fun _ => ⟨by omega, n3, hp0, by omega, Or.inl rfl⟩, ?_, ?_⟩
    · intro u Φ t H
      have t1 : CS L l (up2 u 745 3 116) p := t.cell (by decide)
      have t2 : CS L l (up2 (up2 u 745 3 116) 745 2 (nI (p + 1))) (p + 1) := t1.go (by omega)
      have kd : up2 (up2 u 745 3 116) 745 2 (nI (p + 1)) 745 3 = 116 := by
        rw [up2_n (by omega), up2_s]
      unfold w_X3_readOrder
      rw [c_here t, e]
      rintro _ rfl
      rw [up2_s, if_neg (by decide), if_neg (by decide), if_pos rfl]
      unfold w_X3_readOrder_46
      rintro _ rfl
      rw [t1.2.1, nI_1, kd]
      rw [if_pos rfl]
      refine nC _ _ t2 (fun u' c1 c2 c3 => ⟨Or.inr rfl, H u' (fun x hx => ?_) c1 (fun _ => ⟨?_, fun h => absurd rfl h, fun _ => c3, fun h => absurd h (by decide)⟩)⟩)
      · funext j
        rw [c2 x j (by omega), up2_n (by omega), up2_n (by omega)]
      · rw [c2 745 3 (by omega)]
        exact kd
    · intro ρ Φ o ho t s8 r11 H
      have x0 : (4 : Int32) * nI o = nI (4 * o) := by rw [show (4 : Int32) = nI 4 from rfl, pk_mul]
      have x1 : nI (4 * o) + (1 : Int32) = nI (4 * o + 1) := nI_add _ 1
      have x2 : nI (4 * o) + (2 : Int32) = nI (4 * o + 2) := nI_add _ 2
      have x3 : nI (4 * o) + (3 : Int32) = nI (4 * o + 3) := nI_add _ 3
      have k0 : (nI (4 * o)).toNatClampNeg = 4 * o := cl (by omega)
      have k1 : (nI (4 * o + 1)).toNatClampNeg = 4 * o + 1 := cl (by omega)
      have k2 : (nI (4 * o + 2)).toNatClampNeg = 4 * o + 2 := cl (by omega)
      have k3 : (nI (4 * o + 3)).toNatClampNeg = 4 * o + 3 := cl (by omega)
      have m2 : GS L l (up2 (up2 ρ 5 (4 * o + 2) (-1)) 5 (4 * o + 3) 0) p := t.row.row
      unfold w_X10_readOrder
      rw [s8, x0, x1, x2, x3, show (1 : Int32).toNatClampNeg = 1 from rfl, r11, k0, k1, k2, k3]
      refine ⟨vp_in_nI (by omega) (by omega), ?_⟩
      rintro _ rfl
      refine ⟨vp_in_nI (by omega) (by omega), ?_⟩
      rintro _ rfl
      refine f_skips_n m2 (by decide) (by rw [e]; decide) ?_
      show (if (0 : Int32) = 0 then _ else _)
      rw [if_pos rfl]
      refine f_skips_n m2 (by decide) (by rw [e]; decide) ?_
      show (if (0 : Int32) = 0 then _ else _)
      rw [if_pos rfl]
      refine f_skips_y m2 (by decide) e ?_
      show (if (1 : Int32) = 0 then _ else _)
      rw [if_neg (by decide)]
      refine ⟨vp_in_nI (by omega) (by omega), ?_⟩
      rintro _ rfl
      have m3 : ∀ kk : Int32, GS L l (up2 (up2 (up2 (up2 ρ 5 (4 * o + 2) (-1)) 5 (4 * o + 3) 0) 0 6 (nI (p + 1))) 5 (4 * o) kk) (p + 1) := fun kk => (m2.go (by omega)).row
      refine nR _ _ (m3 _) ?_
      refine ⟨vp_in_nI (by omega) (by omega), ?_⟩
      rintro _ rfl
      exact f_fin (by repeat (first | exact s8 | rw [up2_n (by omega)])) (H _ (fun x h0 h5 => by repeat (first | rfl | rw [up2_k h0] | rw [up2_k h5])) (fun j hj => by repeat (first | rfl | rw [up2_n (by omega)])) (by repeat (first | exact up2_s _ _ _ _ | rw [up2_n (by omega)])) (by repeat (first | exact t.2.2.2.2.2 | rw [up2_n (by omega)])) (by repeat (first | exact up2_s _ _ _ _ | rw [up2_n (by omega)])) (fun i hi => by repeat (first | rfl | rw [up2_n (by omega)])) (fun _ => ⟨(by repeat (first | exact up2_s _ _ _ _ | rw [up2_n (by omega)])), (by repeat (first | exact up2_s _ _ _ _ | rw [up2_n (by omega)])), fun h => absurd h (by decide), fun h => absurd h (by decide)⟩))
  · refine ⟨false, p + 1, 0, 0, 0, 0, fun h => absurd h (by decide), ?_, ?_⟩
    · intro u Φ t H
      have t1 : CS L l (up2 u 745 3 116) p := t.cell (by decide)
      have t2 : CS L l (up2 (up2 u 745 3 116) 745 2 (nI (p + 1))) (p + 1) := t1.go (by omega)
      have kd : up2 (up2 u 745 3 116) 745 2 (nI (p + 1)) 745 3 = 116 := by
        rw [up2_n (by omega), up2_s]
      unfold w_X3_readOrder
      rw [c_here t, e]
      rintro _ rfl
      rw [up2_s, if_neg (by decide), if_neg (by decide), if_pos rfl]
      unfold w_X3_readOrder_46
      rintro _ rfl
      rw [t1.2.1, nI_1, kd]
      rw [if_pos rfl]
      exact nC _ _ t2 ⟨Or.inl rfl, H _ (fun x hx => by repeat (first | rfl | rw [up2_k hx])) t2 (fun h => absurd h (by decide))⟩
    · intro ρ Φ o ho t s8 r11 H
      have x0 : (4 : Int32) * nI o = nI (4 * o) := by rw [show (4 : Int32) = nI 4 from rfl, pk_mul]
      have x1 : nI (4 * o) + (1 : Int32) = nI (4 * o + 1) := nI_add _ 1
      have x2 : nI (4 * o) + (2 : Int32) = nI (4 * o + 2) := nI_add _ 2
      have x3 : nI (4 * o) + (3 : Int32) = nI (4 * o + 3) := nI_add _ 3
      have k0 : (nI (4 * o)).toNatClampNeg = 4 * o := cl (by omega)
      have k1 : (nI (4 * o + 1)).toNatClampNeg = 4 * o + 1 := cl (by omega)
      have k2 : (nI (4 * o + 2)).toNatClampNeg = 4 * o + 2 := cl (by omega)
      have k3 : (nI (4 * o + 3)).toNatClampNeg = 4 * o + 3 := cl (by omega)
      have m2 : GS L l (up2 (up2 ρ 5 (4 * o + 2) (-1)) 5 (4 * o + 3) 0) p := t.row.row
      unfold w_X10_readOrder
      rw [s8, x0, x1, x2, x3, show (1 : Int32).toNatClampNeg = 1 from rfl, r11, k0, k1, k2, k3]
      refine ⟨vp_in_nI (by omega) (by omega), ?_⟩
      rintro _ rfl
      refine ⟨vp_in_nI (by omega) (by omega), ?_⟩
      rintro _ rfl
      refine f_skips_n m2 (by decide) (by rw [e]; decide) ?_
      show (if (0 : Int32) = 0 then _ else _)
      rw [if_pos rfl]
      refine f_skips_n m2 (by decide) (by rw [e]; decide) ?_
      show (if (0 : Int32) = 0 then _ else _)
      rw [if_pos rfl]
      refine f_skips_y m2 (by decide) e ?_
      show (if (1 : Int32) = 0 then _ else _)
      rw [if_neg (by decide)]
      refine ⟨vp_in_nI (by omega) (by omega), ?_⟩
      rintro _ rfl
      have m3 : ∀ kk : Int32, GS L l (up2 (up2 (up2 (up2 ρ 5 (4 * o + 2) (-1)) 5 (4 * o + 3) 0) 0 6 (nI (p + 1))) 5 (4 * o) kk) (p + 1) := fun kk => (m2.go (by omega)).row
      refine nR _ _ (m3 _) ?_
      refine ⟨vp_in_nI (by omega) (by omega), ?_⟩
      rintro _ rfl
      exact f_fin (by repeat (first | exact s8 | rw [up2_n (by omega)])) (H _ (fun x h0 h5 => by repeat (first | rfl | rw [up2_k h0] | rw [up2_k h5])) (fun j hj => by repeat (first | rfl | rw [up2_n (by omega)])) (by repeat (first | exact up2_s _ _ _ _ | rw [up2_n (by omega)])) (by repeat (first | exact up2_s _ _ _ _ | rw [up2_n (by omega)])) (by repeat (first | exact up2_s _ _ _ _ | rw [up2_n (by omega)])) (fun i hi => by repeat (first | rfl | rw [up2_n (by omega)])) (fun h => absurd h (by decide)))
theorem ord_o (hng : ng ≤ 8) (hp : p < 60) (e : lh L l p = 111) : ∃ b q k g v s, OrdAt L l ng p b q k g v s := by
  have hp0 : p < l := lh_lt e (by decide)
  rcases gate_at (L := L) (l := l) (p := p + 1) hng with ⟨d, hd, hpl, gC, gR⟩ | ⟨gC, gR⟩
  · by_cases en : lh L l (p + 1 + 1) = 110
    · rcases num_at (L := L) (l := l) (p := p + 1 + 1 + 1) (by omega) (a := 0) (Or.inl rfl) with ⟨v, q, n1, n2, n3, nC, nR⟩ | ⟨nC, nR⟩
      · refine ⟨true, q, 1, nI d, nI v, 0, fun _ => ⟨by omega, n3, hp0, by omega, Or.inl rfl⟩, ?_, ?_⟩
        · intro u Φ t H
          have t1 : CS L l (up2 u 745 3 111) p := t.cell (by decide)
          have t2 : CS L l (up2 (up2 u 745 3 111) 745 2 (nI (p + 1))) (p + 1) := t1.go (by omega)
          have kd : up2 (up2 u 745 3 111) 745 2 (nI (p + 1)) 745 3 = 111 := by
            rw [up2_n (by omega), up2_s]
          unfold w_X3_readOrder
          rw [c_here t, e]
          rintro _ rfl
          rw [up2_s, if_neg (by decide), if_pos rfl]
          unfold w_X3_readOrder_46
          rintro _ rfl
          rw [t1.2.1, nI_1, kd]
          have t3 : ∀ kk : Int32, CS L l (up2 (up2 (up2 (up2 u 745 3 kk) 745 2 (nI (p + 1))) 745 4 (nI d)) 745 2 (nI (p + 1 + 1))) (p + 1 + 1) := fun kk => (((t.cell (by decide)).go (by omega)).cell (by decide)).go (by omega)
          have kd3 : ∀ kk : Int32, up2 (up2 (up2 (up2 u 745 3 kk) 745 2 (nI (p + 1))) 745 4 (nI d)) 745 2 (nI (p + 1 + 1)) 745 3 = kk := fun kk => by
            rw [up2_n (by omega), up2_n (by omega), up2_n (by omega), up2_s]
          rw [if_neg (by decide)]
          refine gC _ _ t2 ?_
          show (if (1 : Int32) = 0 then _ else _)
          rw [if_neg (by decide)]
          rw [kd3 111]
          rw [if_neg (by decide), if_neg (by decide)]
          refine c_skip_y (t3 _) en ?_
          show (if (1 : Int32) = 0 then _ else _)
          rw [if_neg (by decide)]
          refine nC _ _ ((t3 _).go (by omega)) (fun u' c1 c2 c3 => ?_)
          show (if (1 : Int32) = 0 then _ else _)
          rw [if_neg (by decide)]
          refine H u' (fun x hx => ?_) c1 (fun _ => ⟨?_, fun _ => ?_, fun _ => c3, fun h => absurd h (by decide)⟩)
          · funext j
            rw [c2 x j (by omega)]
            repeat (first | rfl | rw [up2_n (by omega)])
          · rw [c2 745 3 (by omega), up2_n (by omega)]
            exact kd3 _
          · rw [c2 745 4 (by omega)]
            repeat (first | exact up2_s _ _ _ _ | rw [up2_n (by omega)])
        · intro ρ Φ o ho t s8 r11 H
          have x0 : (4 : Int32) * nI o = nI (4 * o) := by rw [show (4 : Int32) = nI 4 from rfl, pk_mul]
          have x1 : nI (4 * o) + (1 : Int32) = nI (4 * o + 1) := nI_add _ 1
          have x2 : nI (4 * o) + (2 : Int32) = nI (4 * o + 2) := nI_add _ 2
          have x3 : nI (4 * o) + (3 : Int32) = nI (4 * o + 3) := nI_add _ 3
          have k0 : (nI (4 * o)).toNatClampNeg = 4 * o := cl (by omega)
          have k1 : (nI (4 * o + 1)).toNatClampNeg = 4 * o + 1 := cl (by omega)
          have k2 : (nI (4 * o + 2)).toNatClampNeg = 4 * o + 2 := cl (by omega)
          have k3 : (nI (4 * o + 3)).toNatClampNeg = 4 * o + 3 := cl (by omega)
          have m2 : GS L l (up2 (up2 ρ 5 (4 * o + 2) (-1)) 5 (4 * o + 3) 0) p := t.row.row
          unfold w_X10_readOrder
          rw [s8, x0, x1, x2, x3, show (1 : Int32).toNatClampNeg = 1 from rfl, r11, k0, k1, k2, k3]
          refine ⟨vp_in_nI (by omega) (by omega), ?_⟩
          rintro _ rfl
          refine ⟨vp_in_nI (by omega) (by omega), ?_⟩
          rintro _ rfl
          refine f_skips_n m2 (by decide) (by rw [e]; decide) ?_
          show (if (0 : Int32) = 0 then _ else _)
          rw [if_pos rfl]
          refine f_skips_y m2 (by decide) e ?_
          show (if (1 : Int32) = 0 then _ else _)
          rw [if_neg (by decide)]
          refine ⟨vp_in_nI (by omega) (by omega), ?_⟩
          rintro _ rfl
          have m3 : ∀ kk : Int32, GS L l (up2 (up2 (up2 (up2 ρ 5 (4 * o + 2) (-1)) 5 (4 * o + 3) 0) 0 6 (nI (p + 1))) 5 (4 * o) kk) (p + 1) := fun kk => (m2.go (by omega)).row
          have m4 : ∀ kk : Int32, GS L l (up2 (up2 (up2 (up2 (up2 (up2 ρ 5 (4 * o + 2) (-1)) 5 (4 * o + 3) 0) 0 6 (nI (p + 1))) 5 (4 * o) kk) 0 6 (nI (p + 1 + 1))) 5 (4 * o + 1) (nI d)) (p + 1 + 1) := fun kk => ((m3 kk).go (by omega)).row
          refine gR _ _ (m3 _) ?_
          refine ⟨vp_in_nI (by omega) (by omega), ?_⟩
          rintro _ rfl
          refine f_skips_y (m4 _) (by decide) en ?_
          refine ⟨Or.inr rfl, ?_⟩
          rintro _ rfl
          rw [up2_same ((m4 1).go (q := p + 1 + 1 + 1) (by omega)).2.2.2.2.2]
          refine nR _ _ ((m4 _).go (by omega)) ?_
          refine ⟨vp_in_nI (by omega) (by omega), ?_⟩
          rintro _ rfl
          exact f_fin (by repeat (first | exact s8 | rw [up2_n (by omega)])) (H _ (fun x h0 h5 => by repeat (first | rfl | rw [up2_k h0] | rw [up2_k h5])) (fun j hj => by repeat (first | rfl | rw [up2_n (by omega)])) (by repeat (first | exact up2_s _ _ _ _ | rw [up2_n (by omega)])) (by repeat (first | exact t.2.2.2.2.2 | rw [up2_n (by omega)])) (by repeat (first | exact up2_s _ _ _ _ | rw [up2_n (by omega)])) (fun i hi => by repeat (first | rfl | rw [up2_n (by omega)])) (fun _ => ⟨(by repeat (first | exact up2_s _ _ _ _ | rw [up2_n (by omega)])), (by repeat (first | exact up2_s _ _ _ _ | rw [up2_n (by omega)])), fun _ => (by repeat (first | exact up2_s _ _ _ _ | rw [up2_n (by omega)])), fun h => absurd h (by decide)⟩))
      · refine ⟨false, p + 1 + 1 + 1, 0, 0, 0, 0, fun h => absurd h (by decide), ?_, ?_⟩
        · intro u Φ t H
          have t1 : CS L l (up2 u 745 3 111) p := t.cell (by decide)
          have t2 : CS L l (up2 (up2 u 745 3 111) 745 2 (nI (p + 1))) (p + 1) := t1.go (by omega)
          have kd : up2 (up2 u 745 3 111) 745 2 (nI (p + 1)) 745 3 = 111 := by
            rw [up2_n (by omega), up2_s]
          unfold w_X3_readOrder
          rw [c_here t, e]
          rintro _ rfl
          rw [up2_s, if_neg (by decide), if_pos rfl]
          unfold w_X3_readOrder_46
          rintro _ rfl
          rw [t1.2.1, nI_1, kd]
          have t3 : ∀ kk : Int32, CS L l (up2 (up2 (up2 (up2 u 745 3 kk) 745 2 (nI (p + 1))) 745 4 (nI d)) 745 2 (nI (p + 1 + 1))) (p + 1 + 1) := fun kk => (((t.cell (by decide)).go (by omega)).cell (by decide)).go (by omega)
          have kd3 : ∀ kk : Int32, up2 (up2 (up2 (up2 u 745 3 kk) 745 2 (nI (p + 1))) 745 4 (nI d)) 745 2 (nI (p + 1 + 1)) 745 3 = kk := fun kk => by
            rw [up2_n (by omega), up2_n (by omega), up2_n (by omega), up2_s]
          rw [if_neg (by decide)]
          refine gC _ _ t2 ?_
          show (if (1 : Int32) = 0 then _ else _)
          rw [if_neg (by decide)]
          rw [kd3 111]
          rw [if_neg (by decide), if_neg (by decide)]
          refine c_skip_y (t3 _) en ?_
          show (if (1 : Int32) = 0 then _ else _)
          rw [if_neg (by decide)]
          refine nC _ _ ((t3 _).go (by omega)) ?_
          show (if (0 : Int32) = 0 then _ else _)
          rw [if_pos rfl]
          exact H _ (fun x hx => by repeat (first | rfl | rw [up2_k hx])) ((t3 _).go (by omega)) (fun h => absurd h (by decide))
        · intro ρ Φ o ho t s8 r11 H
          have x0 : (4 : Int32) * nI o = nI (4 * o) := by rw [show (4 : Int32) = nI 4 from rfl, pk_mul]
          have x1 : nI (4 * o) + (1 : Int32) = nI (4 * o + 1) := nI_add _ 1
          have x2 : nI (4 * o) + (2 : Int32) = nI (4 * o + 2) := nI_add _ 2
          have x3 : nI (4 * o) + (3 : Int32) = nI (4 * o + 3) := nI_add _ 3
          have k0 : (nI (4 * o)).toNatClampNeg = 4 * o := cl (by omega)
          have k1 : (nI (4 * o + 1)).toNatClampNeg = 4 * o + 1 := cl (by omega)
          have k2 : (nI (4 * o + 2)).toNatClampNeg = 4 * o + 2 := cl (by omega)
          have k3 : (nI (4 * o + 3)).toNatClampNeg = 4 * o + 3 := cl (by omega)
          have m2 : GS L l (up2 (up2 ρ 5 (4 * o + 2) (-1)) 5 (4 * o + 3) 0) p := t.row.row
          unfold w_X10_readOrder
          rw [s8, x0, x1, x2, x3, show (1 : Int32).toNatClampNeg = 1 from rfl, r11, k0, k1, k2, k3]
          refine ⟨vp_in_nI (by omega) (by omega), ?_⟩
          rintro _ rfl
          refine ⟨vp_in_nI (by omega) (by omega), ?_⟩
          rintro _ rfl
          refine f_skips_n m2 (by decide) (by rw [e]; decide) ?_
          show (if (0 : Int32) = 0 then _ else _)
          rw [if_pos rfl]
          refine f_skips_y m2 (by decide) e ?_
          show (if (1 : Int32) = 0 then _ else _)
          rw [if_neg (by decide)]
          refine ⟨vp_in_nI (by omega) (by omega), ?_⟩
          rintro _ rfl
          have m3 : ∀ kk : Int32, GS L l (up2 (up2 (up2 (up2 ρ 5 (4 * o + 2) (-1)) 5 (4 * o + 3) 0) 0 6 (nI (p + 1))) 5 (4 * o) kk) (p + 1) := fun kk => (m2.go (by omega)).row
          have m4 : ∀ kk : Int32, GS L l (up2 (up2 (up2 (up2 (up2 (up2 ρ 5 (4 * o + 2) (-1)) 5 (4 * o + 3) 0) 0 6 (nI (p + 1))) 5 (4 * o) kk) 0 6 (nI (p + 1 + 1))) 5 (4 * o + 1) (nI d)) (p + 1 + 1) := fun kk => ((m3 kk).go (by omega)).row
          refine gR _ _ (m3 _) ?_
          refine ⟨vp_in_nI (by omega) (by omega), ?_⟩
          rintro _ rfl
          refine f_skips_y (m4 _) (by decide) en ?_
          refine ⟨Or.inr rfl, ?_⟩
          rintro _ rfl
          rw [up2_same ((m4 1).go (q := p + 1 + 1 + 1) (by omega)).2.2.2.2.2]
          refine nR _ _ ((m4 _).go (by omega)) ?_
          refine ⟨vp_in_nI (by omega) (by omega), ?_⟩
          rintro _ rfl
          exact f_fin (by repeat (first | exact s8 | rw [up2_n (by omega)])) (H _ (fun x h0 h5 => by repeat (first | rfl | rw [up2_k h0] | rw [up2_k h5])) (fun j hj => by repeat (first | rfl | rw [up2_n (by omega)])) (by repeat (first | exact up2_s _ _ _ _ | rw [up2_n (by omega)])) (by repeat (first | exact up2_s _ _ _ _ | rw [up2_n (by omega)])) (by repeat (first | exact up2_s _ _ _ _ | rw [up2_n (by omega)])) (fun i hi => by repeat (first | rfl | rw [up2_n (by omega)])) (fun h => absurd h (by decide)))
    · refine ⟨false, p + 1 + 1, 0, 0, 0, 0, fun h => absurd h (by decide), ?_, ?_⟩
      · intro u Φ t H
        have t1 : CS L l (up2 u 745 3 111) p := t.cell (by decide)
        have t2 : CS L l (up2 (up2 u 745 3 111) 745 2 (nI (p + 1))) (p + 1) := t1.go (by omega)
        have kd : up2 (up2 u 745 3 111) 745 2 (nI (p + 1)) 745 3 = 111 := by
          rw [up2_n (by omega), up2_s]
        unfold w_X3_readOrder
        rw [c_here t, e]
        rintro _ rfl
        rw [up2_s, if_neg (by decide), if_pos rfl]
        unfold w_X3_readOrder_46
        rintro _ rfl
        rw [t1.2.1, nI_1, kd]
        have t3 : ∀ kk : Int32, CS L l (up2 (up2 (up2 (up2 u 745 3 kk) 745 2 (nI (p + 1))) 745 4 (nI d)) 745 2 (nI (p + 1 + 1))) (p + 1 + 1) := fun kk => (((t.cell (by decide)).go (by omega)).cell (by decide)).go (by omega)
        have kd3 : ∀ kk : Int32, up2 (up2 (up2 (up2 u 745 3 kk) 745 2 (nI (p + 1))) 745 4 (nI d)) 745 2 (nI (p + 1 + 1)) 745 3 = kk := fun kk => by
          rw [up2_n (by omega), up2_n (by omega), up2_n (by omega), up2_s]
        rw [if_neg (by decide)]
        refine gC _ _ t2 ?_
        show (if (1 : Int32) = 0 then _ else _)
        rw [if_neg (by decide)]
        rw [kd3 111]
        rw [if_neg (by decide), if_neg (by decide)]
        refine c_skip_n (t3 _) en ?_
        show (if (0 : Int32) = 0 then _ else _)
        rw [if_pos rfl]
        exact H _ (fun x hx => by repeat (first | rfl | rw [up2_k hx])) (t3 _) (fun h => absurd h (by decide))
      · intro ρ Φ o ho t s8 r11 H
        have x0 : (4 : Int32) * nI o = nI (4 * o) := by rw [show (4 : Int32) = nI 4 from rfl, pk_mul]
        have x1 : nI (4 * o) + (1 : Int32) = nI (4 * o + 1) := nI_add _ 1
        have x2 : nI (4 * o) + (2 : Int32) = nI (4 * o + 2) := nI_add _ 2
        have x3 : nI (4 * o) + (3 : Int32) = nI (4 * o + 3) := nI_add _ 3
        have k0 : (nI (4 * o)).toNatClampNeg = 4 * o := cl (by omega)
        have k1 : (nI (4 * o + 1)).toNatClampNeg = 4 * o + 1 := cl (by omega)
        have k2 : (nI (4 * o + 2)).toNatClampNeg = 4 * o + 2 := cl (by omega)
        have k3 : (nI (4 * o + 3)).toNatClampNeg = 4 * o + 3 := cl (by omega)
        have m2 : GS L l (up2 (up2 ρ 5 (4 * o + 2) (-1)) 5 (4 * o + 3) 0) p := t.row.row
        unfold w_X10_readOrder
        rw [s8, x0, x1, x2, x3, show (1 : Int32).toNatClampNeg = 1 from rfl, r11, k0, k1, k2, k3]
        refine ⟨vp_in_nI (by omega) (by omega), ?_⟩
        rintro _ rfl
        refine ⟨vp_in_nI (by omega) (by omega), ?_⟩
        rintro _ rfl
        refine f_skips_n m2 (by decide) (by rw [e]; decide) ?_
        show (if (0 : Int32) = 0 then _ else _)
        rw [if_pos rfl]
        refine f_skips_y m2 (by decide) e ?_
        show (if (1 : Int32) = 0 then _ else _)
        rw [if_neg (by decide)]
        refine ⟨vp_in_nI (by omega) (by omega), ?_⟩
        rintro _ rfl
        have m3 : ∀ kk : Int32, GS L l (up2 (up2 (up2 (up2 ρ 5 (4 * o + 2) (-1)) 5 (4 * o + 3) 0) 0 6 (nI (p + 1))) 5 (4 * o) kk) (p + 1) := fun kk => (m2.go (by omega)).row
        have m4 : ∀ kk : Int32, GS L l (up2 (up2 (up2 (up2 (up2 (up2 ρ 5 (4 * o + 2) (-1)) 5 (4 * o + 3) 0) 0 6 (nI (p + 1))) 5 (4 * o) kk) 0 6 (nI (p + 1 + 1))) 5 (4 * o + 1) (nI d)) (p + 1 + 1) := fun kk => ((m3 kk).go (by omega)).row
        refine gR _ _ (m3 _) ?_
        refine ⟨vp_in_nI (by omega) (by omega), ?_⟩
        rintro _ rfl
        refine f_skips_n (m4 _) (by decide) en ?_
        refine ⟨Or.inl rfl, ?_⟩
        rintro _ rfl
        refine f_num_0 (up2_s _ _ _ _) ?_
        refine ⟨vp_in_nI (by omega) (by omega), ?_⟩
        rintro _ rfl
        exact f_fin (by repeat (first | exact s8 | rw [up2_n (by omega)])) (H _ (fun x h0 h5 => by repeat (first | rfl | rw [up2_k h0] | rw [up2_k h5])) (fun j hj => by repeat (first | rfl | rw [up2_n (by omega)])) (by repeat (first | exact up2_s _ _ _ _ | rw [up2_n (by omega)])) (by repeat (first | exact up2_s _ _ _ _ | rw [up2_n (by omega)])) (by repeat (first | exact up2_s _ _ _ _ | rw [up2_n (by omega)])) (fun i hi => by repeat (first | rfl | rw [up2_n (by omega)])) (fun h => absurd h (by decide)))
  · refine ⟨false, p + 1, 0, 0, 0, 0, fun h => absurd h (by decide), ?_, ?_⟩
    · intro u Φ t H
      have t1 : CS L l (up2 u 745 3 111) p := t.cell (by decide)
      have t2 : CS L l (up2 (up2 u 745 3 111) 745 2 (nI (p + 1))) (p + 1) := t1.go (by omega)
      have kd : up2 (up2 u 745 3 111) 745 2 (nI (p + 1)) 745 3 = 111 := by
        rw [up2_n (by omega), up2_s]
      unfold w_X3_readOrder
      rw [c_here t, e]
      rintro _ rfl
      rw [up2_s, if_neg (by decide), if_pos rfl]
      unfold w_X3_readOrder_46
      rintro _ rfl
      rw [t1.2.1, nI_1, kd]
      rw [if_neg (by decide)]
      refine gC _ _ t2 (fun y => ?_)
      show (if (0 : Int32) = 0 then _ else _)
      rw [if_pos rfl]
      exact H _ (fun x hx => by repeat (first | rfl | rw [up2_k hx])) (t2.cell (by decide)) (fun h => absurd h (by decide))
    · intro ρ Φ o ho t s8 r11 H
      have x0 : (4 : Int32) * nI o = nI (4 * o) := by rw [show (4 : Int32) = nI 4 from rfl, pk_mul]
      have x1 : nI (4 * o) + (1 : Int32) = nI (4 * o + 1) := nI_add _ 1
      have x2 : nI (4 * o) + (2 : Int32) = nI (4 * o + 2) := nI_add _ 2
      have x3 : nI (4 * o) + (3 : Int32) = nI (4 * o + 3) := nI_add _ 3
      have k0 : (nI (4 * o)).toNatClampNeg = 4 * o := cl (by omega)
      have k1 : (nI (4 * o + 1)).toNatClampNeg = 4 * o + 1 := cl (by omega)
      have k2 : (nI (4 * o + 2)).toNatClampNeg = 4 * o + 2 := cl (by omega)
      have k3 : (nI (4 * o + 3)).toNatClampNeg = 4 * o + 3 := cl (by omega)
      have m2 : GS L l (up2 (up2 ρ 5 (4 * o + 2) (-1)) 5 (4 * o + 3) 0) p := t.row.row
      unfold w_X10_readOrder
      rw [s8, x0, x1, x2, x3, show (1 : Int32).toNatClampNeg = 1 from rfl, r11, k0, k1, k2, k3]
      refine ⟨vp_in_nI (by omega) (by omega), ?_⟩
      rintro _ rfl
      refine ⟨vp_in_nI (by omega) (by omega), ?_⟩
      rintro _ rfl
      refine f_skips_n m2 (by decide) (by rw [e]; decide) ?_
      show (if (0 : Int32) = 0 then _ else _)
      rw [if_pos rfl]
      refine f_skips_y m2 (by decide) e ?_
      show (if (1 : Int32) = 0 then _ else _)
      rw [if_neg (by decide)]
      refine ⟨vp_in_nI (by omega) (by omega), ?_⟩
      rintro _ rfl
      have m3 : ∀ kk : Int32, GS L l (up2 (up2 (up2 (up2 ρ 5 (4 * o + 2) (-1)) 5 (4 * o + 3) 0) 0 6 (nI (p + 1))) 5 (4 * o) kk) (p + 1) := fun kk => (m2.go (by omega)).row
      refine gR _ _ (m3 _) ?_
      refine ⟨vp_in_nI (by omega) (by omega), ?_⟩
      rintro _ rfl
      refine f_skips_0 (by repeat (first | exact up2_s _ _ _ _ | rw [up2_n (by omega)])) ?_
      refine ⟨Or.inl rfl, ?_⟩
      rintro _ rfl
      refine f_num_0 (up2_s _ _ _ _) ?_
      refine ⟨vp_in_nI (by omega) (by omega), ?_⟩
      rintro _ rfl
      exact f_fin (by repeat (first | exact s8 | rw [up2_n (by omega)])) (H _ (fun x h0 h5 => by repeat (first | rfl | rw [up2_k h0] | rw [up2_k h5])) (fun j hj => by repeat (first | rfl | rw [up2_n (by omega)])) (by repeat (first | exact up2_s _ _ _ _ | rw [up2_n (by omega)])) (by repeat (first | exact up2_s _ _ _ _ | rw [up2_n (by omega)])) (by repeat (first | exact up2_s _ _ _ _ | rw [up2_n (by omega)])) (fun i hi => by repeat (first | rfl | rw [up2_n (by omega)])) (fun h => absurd h (by decide)))
theorem ord_i (hng : ng ≤ 8) (hp : p < 60) (e : lh L l p = 105) : ∃ b q k g v s, OrdAt L l ng p b q k g v s := by
  have hp0 : p < l := lh_lt e (by decide)
  rcases gate_at (L := L) (l := l) (p := p + 1) hng with ⟨d, hd, hpl, gC, gR⟩ | ⟨gC, gR⟩
  · rcases pace_at (L := L) (l := l) (p := p + 1 + 1) (by omega) with ⟨q, v, s, hs, q1, q2, pC, pR⟩ | ⟨q, pC, pR⟩
    · refine ⟨true, q, 0, nI d, v, s, fun _ => ⟨by omega, q2 (by omega), hp0, by omega, hs⟩, ?_, ?_⟩
      · intro u Φ t H
        have t1 : CS L l (up2 u 745 3 105) p := t.cell (by decide)
        have t2 : CS L l (up2 (up2 u 745 3 105) 745 2 (nI (p + 1))) (p + 1) := t1.go (by omega)
        have kd : up2 (up2 u 745 3 105) 745 2 (nI (p + 1)) 745 3 = 105 := by
          rw [up2_n (by omega), up2_s]
        unfold w_X3_readOrder
        rw [c_here t, e]
        rintro _ rfl
        rw [up2_s, if_pos rfl]
        unfold w_X3_readOrder_46
        rintro _ rfl
        rw [t1.2.1, nI_1, kd]
        have t3 : ∀ kk : Int32, CS L l (up2 (up2 (up2 (up2 u 745 3 kk) 745 2 (nI (p + 1))) 745 4 (nI d)) 745 2 (nI (p + 1 + 1))) (p + 1 + 1) := fun kk => (((t.cell (by decide)).go (by omega)).cell (by decide)).go (by omega)
        have kd3 : ∀ kk : Int32, up2 (up2 (up2 (up2 u 745 3 kk) 745 2 (nI (p + 1))) 745 4 (nI d)) 745 2 (nI (p + 1 + 1)) 745 3 = kk := fun kk => by
          rw [up2_n (by omega), up2_n (by omega), up2_n (by omega), up2_s]
        rw [if_neg (by decide)]
        refine gC _ _ t2 ?_
        show (if (1 : Int32) = 0 then _ else _)
        rw [if_neg (by decide)]
        rw [kd3 105]
        rw [if_pos rfl]
        refine pC _ _ (t3 _) (fun u' c1 c2 c3 c4 => ⟨Or.inr rfl, H u' (fun x hx => ?_) c1 (fun _ => ⟨?_, fun _ => ?_, fun _ => c3, fun _ => c4⟩)⟩)
        · funext j
          rw [c2 x j (by omega)]
          repeat (first | rfl | rw [up2_n (by omega)])
        · rw [c2 745 3 (by omega)]
          exact kd3 _
        · rw [c2 745 4 (by omega)]
          repeat (first | exact up2_s _ _ _ _ | rw [up2_n (by omega)])
      · intro ρ Φ o ho t s8 r11 H
        have x0 : (4 : Int32) * nI o = nI (4 * o) := by rw [show (4 : Int32) = nI 4 from rfl, pk_mul]
        have x1 : nI (4 * o) + (1 : Int32) = nI (4 * o + 1) := nI_add _ 1
        have x2 : nI (4 * o) + (2 : Int32) = nI (4 * o + 2) := nI_add _ 2
        have x3 : nI (4 * o) + (3 : Int32) = nI (4 * o + 3) := nI_add _ 3
        have k0 : (nI (4 * o)).toNatClampNeg = 4 * o := cl (by omega)
        have k1 : (nI (4 * o + 1)).toNatClampNeg = 4 * o + 1 := cl (by omega)
        have k2 : (nI (4 * o + 2)).toNatClampNeg = 4 * o + 2 := cl (by omega)
        have k3 : (nI (4 * o + 3)).toNatClampNeg = 4 * o + 3 := cl (by omega)
        have m2 : GS L l (up2 (up2 ρ 5 (4 * o + 2) (-1)) 5 (4 * o + 3) 0) p := t.row.row
        unfold w_X10_readOrder
        rw [s8, x0, x1, x2, x3, show (1 : Int32).toNatClampNeg = 1 from rfl, r11, k0, k1, k2, k3]
        refine ⟨vp_in_nI (by omega) (by omega), ?_⟩
        rintro _ rfl
        refine ⟨vp_in_nI (by omega) (by omega), ?_⟩
        rintro _ rfl
        refine f_skips_y m2 (by decide) e ?_
        show (if (1 : Int32) = 0 then _ else _)
        rw [if_neg (by decide)]
        refine ⟨vp_in_nI (by omega) (by omega), ?_⟩
        rintro _ rfl
        have m3 : ∀ kk : Int32, GS L l (up2 (up2 (up2 (up2 ρ 5 (4 * o + 2) (-1)) 5 (4 * o + 3) 0) 0 6 (nI (p + 1))) 5 (4 * o) kk) (p + 1) := fun kk => (m2.go (by omega)).row
        have m4 : ∀ kk : Int32, GS L l (up2 (up2 (up2 (up2 (up2 (up2 ρ 5 (4 * o + 2) (-1)) 5 (4 * o + 3) 0) 0 6 (nI (p + 1))) 5 (4 * o) kk) 0 6 (nI (p + 1 + 1))) 5 (4 * o + 1) (nI d)) (p + 1 + 1) := fun kk => ((m3 kk).go (by omega)).row
        refine gR _ _ (m3 _) ?_
        refine ⟨vp_in_nI (by omega) (by omega), ?_⟩
        rintro _ rfl
        refine pR _ Φ o ho (m4 _) (by repeat (first | exact s8 | rw [up2_n (by omega)])) (fun ρ' h1 h2 h3 h4 h5 h6 h7 h8 => H ρ' (fun x h0 h5 => ?_) (fun j hj => ?_) h3 h4 h5 (fun i hi => ?_) (fun _ => ⟨?_, ?_, fun _ => h7, fun _ => h8⟩))
        · rw [h1 x h0 h5]
          repeat (first | rfl | rw [up2_k h0] | rw [up2_k h5])
        · rw [h2 j hj]
          repeat (first | rfl | rw [up2_n (by omega)])
        · rw [h6 i (by omega) (by omega)]
          repeat (first | rfl | rw [up2_n (by omega)])
        · rw [h6 (4 * o) (by omega) (by omega)]
          repeat (first | exact up2_s _ _ _ _ | rw [up2_n (by omega)])
        · rw [h6 (4 * o + 1) (by omega) (by omega)]
          exact up2_s _ _ _ _
    · refine ⟨false, q, 0, 0, 0, 0, fun h => absurd h (by decide), ?_, ?_⟩
      · intro u Φ t H
        have t1 : CS L l (up2 u 745 3 105) p := t.cell (by decide)
        have t2 : CS L l (up2 (up2 u 745 3 105) 745 2 (nI (p + 1))) (p + 1) := t1.go (by omega)
        have kd : up2 (up2 u 745 3 105) 745 2 (nI (p + 1)) 745 3 = 105 := by
          rw [up2_n (by omega), up2_s]
        unfold w_X3_readOrder
        rw [c_here t, e]
        rintro _ rfl
        rw [up2_s, if_pos rfl]
        unfold w_X3_readOrder_46
        rintro _ rfl
        rw [t1.2.1, nI_1, kd]
        have t3 : ∀ kk : Int32, CS L l (up2 (up2 (up2 (up2 u 745 3 kk) 745 2 (nI (p + 1))) 745 4 (nI d)) 745 2 (nI (p + 1 + 1))) (p + 1 + 1) := fun kk => (((t.cell (by decide)).go (by omega)).cell (by decide)).go (by omega)
        have kd3 : ∀ kk : Int32, up2 (up2 (up2 (up2 u 745 3 kk) 745 2 (nI (p + 1))) 745 4 (nI d)) 745 2 (nI (p + 1 + 1)) 745 3 = kk := fun kk => by
          rw [up2_n (by omega), up2_n (by omega), up2_n (by omega), up2_s]
        rw [if_neg (by decide)]
        refine gC _ _ t2 ?_
        show (if (1 : Int32) = 0 then _ else _)
        rw [if_neg (by decide)]
        rw [kd3 105]
        rw [if_pos rfl]
        refine pC _ _ (t3 _) (fun u' c1 c2 => ⟨Or.inl rfl, H u' (fun x hx => ?_) c1 (fun h => absurd h (by decide))⟩)
        funext j
        rw [c2 x j (by omega)]
        repeat (first | rfl | rw [up2_n (by omega)])
      · intro ρ Φ o ho t s8 r11 H
        have x0 : (4 : Int32) * nI o = nI (4 * o) := by rw [show (4 : Int32) = nI 4 from rfl, pk_mul]
        have x1 : nI (4 * o) + (1 : Int32) = nI (4 * o + 1) := nI_add _ 1
        have x2 : nI (4 * o) + (2 : Int32) = nI (4 * o + 2) := nI_add _ 2
        have x3 : nI (4 * o) + (3 : Int32) = nI (4 * o + 3) := nI_add _ 3
        have k0 : (nI (4 * o)).toNatClampNeg = 4 * o := cl (by omega)
        have k1 : (nI (4 * o + 1)).toNatClampNeg = 4 * o + 1 := cl (by omega)
        have k2 : (nI (4 * o + 2)).toNatClampNeg = 4 * o + 2 := cl (by omega)
        have k3 : (nI (4 * o + 3)).toNatClampNeg = 4 * o + 3 := cl (by omega)
        have m2 : GS L l (up2 (up2 ρ 5 (4 * o + 2) (-1)) 5 (4 * o + 3) 0) p := t.row.row
        unfold w_X10_readOrder
        rw [s8, x0, x1, x2, x3, show (1 : Int32).toNatClampNeg = 1 from rfl, r11, k0, k1, k2, k3]
        refine ⟨vp_in_nI (by omega) (by omega), ?_⟩
        rintro _ rfl
        refine ⟨vp_in_nI (by omega) (by omega), ?_⟩
        rintro _ rfl
        refine f_skips_y m2 (by decide) e ?_
        show (if (1 : Int32) = 0 then _ else _)
        rw [if_neg (by decide)]
        refine ⟨vp_in_nI (by omega) (by omega), ?_⟩
        rintro _ rfl
        have m3 : ∀ kk : Int32, GS L l (up2 (up2 (up2 (up2 ρ 5 (4 * o + 2) (-1)) 5 (4 * o + 3) 0) 0 6 (nI (p + 1))) 5 (4 * o) kk) (p + 1) := fun kk => (m2.go (by omega)).row
        have m4 : ∀ kk : Int32, GS L l (up2 (up2 (up2 (up2 (up2 (up2 ρ 5 (4 * o + 2) (-1)) 5 (4 * o + 3) 0) 0 6 (nI (p + 1))) 5 (4 * o) kk) 0 6 (nI (p + 1 + 1))) 5 (4 * o + 1) (nI d)) (p + 1 + 1) := fun kk => ((m3 kk).go (by omega)).row
        refine gR _ _ (m3 _) ?_
        refine ⟨vp_in_nI (by omega) (by omega), ?_⟩
        rintro _ rfl
        refine pR _ Φ o ho (m4 _) (by repeat (first | exact s8 | rw [up2_n (by omega)])) (fun ρ' h1 h2 h3 h4 h5 h6 => H ρ' (fun x h0 h5 => ?_) (fun j hj => ?_) h3 h4 h5 (fun i hi => ?_) (fun h => absurd h (by decide)))
        · rw [h1 x h0 h5]
          repeat (first | rfl | rw [up2_k h0] | rw [up2_k h5])
        · rw [h2 j hj]
          repeat (first | rfl | rw [up2_n (by omega)])
        · rw [h6 i (by omega) (by omega)]
          repeat (first | rfl | rw [up2_n (by omega)])
  · refine ⟨false, p + 1, 0, 0, 0, 0, fun h => absurd h (by decide), ?_, ?_⟩
    · intro u Φ t H
      have t1 : CS L l (up2 u 745 3 105) p := t.cell (by decide)
      have t2 : CS L l (up2 (up2 u 745 3 105) 745 2 (nI (p + 1))) (p + 1) := t1.go (by omega)
      have kd : up2 (up2 u 745 3 105) 745 2 (nI (p + 1)) 745 3 = 105 := by
        rw [up2_n (by omega), up2_s]
      unfold w_X3_readOrder
      rw [c_here t, e]
      rintro _ rfl
      rw [up2_s, if_pos rfl]
      unfold w_X3_readOrder_46
      rintro _ rfl
      rw [t1.2.1, nI_1, kd]
      rw [if_neg (by decide)]
      refine gC _ _ t2 (fun y => ?_)
      show (if (0 : Int32) = 0 then _ else _)
      rw [if_pos rfl]
      exact H _ (fun x hx => by repeat (first | rfl | rw [up2_k hx])) (t2.cell (by decide)) (fun h => absurd h (by decide))
    · intro ρ Φ o ho t s8 r11 H
      have x0 : (4 : Int32) * nI o = nI (4 * o) := by rw [show (4 : Int32) = nI 4 from rfl, pk_mul]
      have x1 : nI (4 * o) + (1 : Int32) = nI (4 * o + 1) := nI_add _ 1
      have x2 : nI (4 * o) + (2 : Int32) = nI (4 * o + 2) := nI_add _ 2
      have x3 : nI (4 * o) + (3 : Int32) = nI (4 * o + 3) := nI_add _ 3
      have k0 : (nI (4 * o)).toNatClampNeg = 4 * o := cl (by omega)
      have k1 : (nI (4 * o + 1)).toNatClampNeg = 4 * o + 1 := cl (by omega)
      have k2 : (nI (4 * o + 2)).toNatClampNeg = 4 * o + 2 := cl (by omega)
      have k3 : (nI (4 * o + 3)).toNatClampNeg = 4 * o + 3 := cl (by omega)
      have m2 : GS L l (up2 (up2 ρ 5 (4 * o + 2) (-1)) 5 (4 * o + 3) 0) p := t.row.row
      unfold w_X10_readOrder
      rw [s8, x0, x1, x2, x3, show (1 : Int32).toNatClampNeg = 1 from rfl, r11, k0, k1, k2, k3]
      refine ⟨vp_in_nI (by omega) (by omega), ?_⟩
      rintro _ rfl
      refine ⟨vp_in_nI (by omega) (by omega), ?_⟩
      rintro _ rfl
      refine f_skips_y m2 (by decide) e ?_
      show (if (1 : Int32) = 0 then _ else _)
      rw [if_neg (by decide)]
      refine ⟨vp_in_nI (by omega) (by omega), ?_⟩
      rintro _ rfl
      have m3 : ∀ kk : Int32, GS L l (up2 (up2 (up2 (up2 ρ 5 (4 * o + 2) (-1)) 5 (4 * o + 3) 0) 0 6 (nI (p + 1))) 5 (4 * o) kk) (p + 1) := fun kk => (m2.go (by omega)).row
      refine gR _ _ (m3 _) ?_
      refine ⟨vp_in_nI (by omega) (by omega), ?_⟩
      rintro _ rfl
      refine f_skips_0 (by repeat (first | exact up2_s _ _ _ _ | rw [up2_n (by omega)])) ?_
      show (if (0 : Int32) = 0 then _ else _)
      rw [if_pos rfl]
      exact slow_0 ho (by repeat (first | exact up2_s _ _ _ _ | rw [up2_n (by omega)])) (by repeat (first | exact s8 | rw [up2_n (by omega)])) (H _ (fun x h0 h5 => by repeat (first | rfl | rw [up2_k h0] | rw [up2_k h5])) (fun j hj => by repeat (first | rfl | rw [up2_n (by omega)])) (by repeat (first | exact up2_s _ _ _ _ | rw [up2_n (by omega)])) (by repeat (first | exact up2_s _ _ _ _ | rw [up2_n (by omega)])) (by repeat (first | exact up2_s _ _ _ _ | rw [up2_n (by omega)])) (fun i hi => by repeat (first | rfl | rw [up2_n (by omega)])) (fun h => absurd h (by decide)))
theorem order_at (hng : ng ≤ 8) (hp : p < 60) : ∃ b q k g v s, OrdAt L l ng p b q k g v s := by
  by_cases ei : lh L l p = 105
  · exact ord_i hng hp ei
  by_cases eo : lh L l p = 111
  · exact ord_o hng hp eo
  by_cases et : lh L l p = 116
  · exact ord_t hng hp et
  by_cases ex : lh L l p = 120
  · exact ord_x hng hp ex
  · exact ⟨_, _, _, _, _, _, ord_none hp ei eo et ex⟩
end ORDERAT
