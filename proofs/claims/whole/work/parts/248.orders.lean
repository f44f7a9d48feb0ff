/-! one order, letter by letter, on both sides -/
theorem up2_same {μ : Mm} {k j : Nat} {v : Int32} (h : μ k j = v) : up2 μ k j v = μ := by
  funext a b
  by_cases hq : a = k ∧ b = j
  · obtain ⟨rfl, rfl⟩ := hq
    rw [up2_s, h]
  · rw [up2_n (by omega)]
theorem up2_up2 {μ : Mm} {k j : Nat} {v w : Int32} : up2 (up2 μ k j v) k j w = up2 μ k j w := by
  funext a b
  by_cases hq : a = k ∧ b = j
  · obtain ⟨rfl, rfl⟩ := hq
    rw [up2_s, up2_s]
  · rw [up2_n (by omega), up2_n (by omega), up2_n (by omega)]
def lh (L : Nat → Int32) (l p : Nat) : Int32 := if p < l then L p else -1
theorem nI_48 (d : Nat) : nI (48 + d) - 48 = nI d := by
  rw [Nat.add_comm, ← nI_add, show nI 48 = (48 : Int32) from rfl, Int32.add_sub_cancel]
theorem dig_of {x : Int32} (h2 : ¬ x < 48) (h3 : ¬ 57 < x) : ∃ d, d < 10 ∧ x = nI (48 + d) := by
  obtain ⟨j, hj, e⟩ := nI_of2 (x := x) (M := 57) (n := 57) (by decide) (fun h => h2 (Int32.lt_trans h (by decide))) (Int32.not_lt.mp h3)
  rcases Nat.lt_or_ge j 48 with hh | hh
  · exact absurd (show x < 48 by rw [e]; exact nI_lt (b := 48) hh (by omega)) h2
  · refine ⟨j - 48, by omega, ?_⟩
    rw [e]
    congr 1
    omega
theorem dig (x : Int32) : (∃ d, d < 10 ∧ x = nI (48 + d)) ∨ ((x - 48 < 0 ∨ 9 < x - 48) ∧ (x < 48 ∨ 57 < x)) := by
  by_cases h1 : x - 48 < 0 ∨ 9 < x - 48
  · refine Or.inr ⟨h1, ?_⟩
    by_cases h2 : x < 48
    · exact Or.inl h2
    · by_cases h3 : 57 < x
      · exact Or.inr h3
      · obtain ⟨d, hd, e⟩ := dig_of h2 h3
        rw [e, nI_48] at h1
        rcases h1 with h1 | h1
        · exact absurd h1 (nI_pos (by omega))
        · exact absurd h1 (nI_nlt (a := 9) (b := d) (by omega) (by omega))
  · have ha : ¬ x - 48 < 0 := fun h => h1 (Or.inl h)
    have hb : ¬ 9 < x - 48 := fun h => h1 (Or.inr h)
    obtain ⟨k, hk, e⟩ := nI_of2 (x := x - 48) (M := 9) (n := 9) (by decide) ha (Int32.not_lt.mp hb)
    refine Or.inl ⟨k, by omega, ?_⟩
    have e2 : x = x - 48 + 48 := (Int32.sub_add_cancel x 48).symm
    rw [e] at e2
    exact e2.trans (by rw [show (48 : Int32) = nI 48 from rfl, nI_add, Nat.add_comm])
theorem i_ne {x y : Int32} (h : x ≠ y) : x < y ∨ y < x := by
  by_cases h1 : x < y
  · exact Or.inl h1
  · by_cases h2 : y < x
    · exact Or.inr h2
    · exact absurd (Int32.le_antisymm (Int32.not_lt.mp h2) (Int32.not_lt.mp h1)) h
section ORDER
variable {L : Nat → Int32} {l p ng : Nat} {u ρ : Mm} {Φ : Int32 → Mm → Prop}
theorem lh_y (h : p < l) : lh L l p = L p := if_pos h
theorem lh_n (h : l ≤ p) : lh L l p = -1 := if_neg (by omega)
theorem lh_lt {c : Int32} (h : lh L l p = c) (hc : (-1 : Int32) < c) : p < l := by
  rcases Nat.lt_or_ge p l with h1 | h1
  · exact h1
  · rw [← h, lh_n h1] at hc
    exact absurd hc (fun e => lt_ir e)
theorem n_m1 (d : Nat) (h : d < 1000) : (-1 : Int32) < nI (48 + d) := Int32.lt_of_lt_of_le (b := 0) (by decide) (nI_pos' (by omega))
def CS (L : Nat → Int32) (l : Nat) (u : Mm) (p : Nat) : Prop := u 745 1 = nI l ∧ u 745 2 = nI p ∧ (∀ i, i < l → u 746 i = L i) ∧ l ≤ 50 ∧ p < 100
theorem CS.cell {j : Nat} {v : Int32} (h : CS L l u p) (hj : 2 < j) : CS L l (up2 u 745 j v) p := ⟨by rw [up2_n (by omega)]; exact h.1, by rw [up2_n (by omega)]; exact h.2.1, fun i hi => by rw [up2_k (by decide)]; exact h.2.2.1 i hi, h.2.2.2⟩
theorem CS.go {q : Nat} (h : CS L l u p) (hq : q < 100) : CS L l (up2 u 745 2 (nI q)) q := ⟨by rw [up2_n (by omega)]; exact h.1, up2_s _ _ _ _, fun i hi => by rw [up2_k (by decide)]; exact h.2.2.1 i hi, h.2.2.2.1, hq⟩
theorem c_here (h : CS L l u p) : w_X3_letterHere u Φ = Φ (lh L l p) u := by
  obtain ⟨t1, t2, t3, hl, hp⟩ := h
  unfold w_X3_letterHere
  rw [t1, t2, if_neg (nI_pos (by omega))]
  rcases Nat.lt_or_ge p l with h | h
  · have h50 : ¬ (50 : Int32) ≤ nI p := nI_ge (a := p) (b := 50) (by omega) (by omega)
    rw [if_neg (nI_ge h (by omega)), if_neg h50, vin (show p < 50 by omega) (by decide), true_and, cl (show p < 2147483648 by omega), t3 p h, lh_y h]
  · rw [if_pos (nI_le h (by omega)), lh_n h]
theorem c_skip_y {c : Int32} (t : CS L l u p) (h : lh L l p = c) (H : Φ 1 (up2 u 745 2 (nI (p + 1)))) : w_X3_skip c u Φ := by
  unfold w_X3_skip
  rw [c_here t, if_pos h]
  rintro _ rfl
  rw [t.2.1, nI_1]
  exact H
theorem c_skip_n {c : Int32} (t : CS L l u p) (h : lh L l p ≠ c) (H : Φ 0 u) : w_X3_skip c u Φ := by
  unfold w_X3_skip
  rw [c_here t, if_neg h]
  exact H
theorem c_gate_y {d : Nat} (t : CS L l u p) (h : lh L l p = nI (48 + d)) (hd : d < ng) (hng : ng ≤ 8) (H : Φ 1 (up2 (up2 u 745 4 (nI d)) 745 2 (nI (p + 1)))) : w_X3_readGate (nI ng) u Φ := by
  have h9 : ¬ (9 : Int32) < nI d := nI_nlt (a := 9) (b := d) (by omega) (by omega)
  unfold w_X3_readGate
  rw [c_here t, h, nI_48]
  rintro _ rfl
  rw [up2_s, if_neg (nI_pos (by omega)), if_neg h9, if_pos (nI_lt hd (by omega))]
  rintro _ rfl
  rw [up2_n (by omega), t.2.1, nI_1]
  exact H
theorem c_gate_n (t : CS L l u p) (hng : ng ≤ 8) (h : ∀ d, d < ng → lh L l p ≠ nI (48 + d)) (H : ∀ x, Φ 0 (up2 u 745 4 x)) : w_X3_readGate (nI ng) u Φ := by
  unfold w_X3_readGate
  rw [c_here t]
  rintro _ rfl
  rw [up2_s]
  rcases dig (lh L l p) with ⟨d, hd, e⟩ | ⟨hn, -⟩
  · have hdn : ng ≤ d := Nat.le_of_not_lt (fun hh => h d hh e)
    have h9 : ¬ (9 : Int32) < nI d := nI_nlt (a := 9) (b := d) (by omega) (by omega)
    rw [e, nI_48, if_neg (nI_pos (by omega)), if_neg h9, if_neg (nI_nlt hdn (by omega))]
    exact H _
  · by_cases h0 : lh L l p - 48 < 0
    · rw [if_pos h0]
      exact H _
    · rw [if_neg h0, if_pos (hn.resolve_left h0)]
      exact H _
theorem c_num_n {a : Int32} (ha : a = 0 ∨ a = 1) (t : CS L l u p) (h : ∀ d, d < 10 → ¬ nI d < a → lh L l p ≠ nI (48 + d)) (H : Φ 0 u) : w_X3_readNumber a u Φ := by
  unfold w_X3_readNumber
  rw [c_here t]
  rcases dig (lh L l p) with ⟨d, hd, e⟩ | ⟨hn, -⟩
  · have hda : nI d < a := Decidable.byContradiction (fun hh => h d hd hh e)
    rw [e, nI_48, if_pos hda]
    exact H
  · by_cases h1 : lh L l p - 48 < a
    · rw [if_pos h1]
      exact H
    · have h2 : ¬ lh L l p - 48 ≤ 9 := by
        rcases hn with hn | hn
        · exfalso
          apply h1
          rcases ha with rfl | rfl
          · exact hn
          · exact Int32.lt_trans hn (by decide)
        · exact Int32.not_le.mpr hn
      rw [if_neg h1, if_neg h2]
      exact H
theorem c_num_1 {a : Int32} {d : Nat} (t : CS L l u p) (hp : p < 90) (e : lh L l p = nI (48 + d)) (hd : d < 10) (hda : ¬ nI d < a) (h2 : d = 0 ∨ ∀ e, e < 10 → lh L l (p + 1) ≠ nI (48 + e)) (H : Φ 1 (up2 (up2 u 745 2 (nI (p + 1))) 745 5 (nI d))) : w_X3_readNumber a u Φ := by
  have h9 : nI d ≤ 9 := nI_le (a := d) (b := 9) (by omega) (by omega)
  unfold w_X3_readNumber
  rw [c_here t, e, nI_48, if_neg hda, if_pos h9]
  rintro _ rfl _ rfl
  rw [t.2.1, nI_1, c_here ((t.go (q := p + 1) (by omega)).cell (j := 5) (v := nI d) (by decide))]
  by_cases h0 : nI d ≤ 0
  · rw [if_pos h0]
    exact H
  · rw [if_neg h0]
    rcases dig (lh L l (p + 1)) with ⟨e', he', ee⟩ | ⟨hn, -⟩
    · rcases h2 with h2 | h2
      · exact absurd (by rw [h2]; decide) h0
      · exact absurd ee (h2 e' he')
    · by_cases hx : lh L l (p + 1) - 48 < 0
      · rw [if_pos hx]
        exact H
      · rw [if_neg hx, if_pos (hn.resolve_left hx)]
        exact H
theorem c_num_2 {a : Int32} {d e : Nat} (t : CS L l u p) (hp : p < 90) (ed : lh L l p = nI (48 + d)) (hd : d < 10) (hd0 : 0 < d) (hda : ¬ nI d < a) (ee : lh L l (p + 1) = nI (48 + e)) (he : e < 10) (H : Φ 1 (up2 (up2 (up2 (up2 u 745 2 (nI (p + 1))) 745 5 (nI d)) 745 2 (nI (p + 1 + 1))) 745 5 (nI (10 * d + e)))) : w_X3_readNumber a u Φ := by
  have h9 : nI d ≤ 9 := nI_le (a := d) (b := 9) (by omega) (by omega)
  have h9' : ¬ (9 : Int32) < nI e := nI_nlt (a := 9) (b := e) (by omega) (by omega)
  have t2 := (t.go (q := p + 1) (by omega)).cell (j := 5) (v := nI d) (by decide)
  unfold w_X3_readNumber
  rw [c_here t, ed, nI_48, if_neg hda, if_pos h9]
  rintro _ rfl _ rfl
  rw [t.2.1, nI_1, c_here t2, if_neg (nI_nle hd0 (by omega)), ee, nI_48, if_neg (nI_pos (by omega)), if_neg h9']
  rintro _ rfl _ rfl
  rw [t2.2.1, nI_1, show (10 : Int32) * nI d = nI (10 * d) by rw [show (10 : Int32) = nI 10 from rfl, pk_mul], nI_add]
  exact H
/-- the reference, where it reads -/
def GS (L : Nat → Int32) (l : Nat) (ρ : Mm) (p : Nat) : Prop := ρ 0 4 = nI l ∧ ρ 0 6 = nI p ∧ ρ 4 = L ∧ l ≤ 50 ∧ p < 100 ∧ ρ 0 7 = 1
theorem GS.row {i : Nat} {v : Int32} (h : GS L l ρ p) : GS L l (up2 ρ 5 i v) p := by
  obtain ⟨a, b, c, d, e, f⟩ := h
  exact ⟨by rw [up2_n (by omega)]; exact a, by rw [up2_n (by omega)]; exact b, by rw [up2_k (by decide)]; exact c, d, e, by rw [up2_n (by omega)]; exact f⟩
theorem GS.go {q : Nat} (h : GS L l ρ p) (hq : q < 100) : GS L l (up2 ρ 0 6 (nI q)) q := by
  obtain ⟨a, b, c, d, e, f⟩ := h
  exact ⟨by rw [up2_n (by omega)]; exact a, up2_s _ _ _ _, by rw [up2_k (by decide)]; exact c, d, hq, by rw [up2_n (by omega)]; exact f⟩
theorem f_isAt {lo hi : Int32} (t : GS L l ρ p) (hlo : (-1 : Int32) < lo) : w_X10_isAt lo hi ρ Φ = Φ (if lh L l p < lo then 0 else if hi < lh L l p then 0 else 1) ρ := by
  obtain ⟨t1, t2, t3, hl, hp, good⟩ := t
  unfold w_X10_isAt
  rw [t1, t2]
  rcases Nat.lt_or_ge p l with h | h
  · rw [if_neg (nI_ge h (by omega)), vin (show p < 50 by omega) (by decide), true_and, true_and, cl (show p < 2147483648 by omega), t3, lh_y h]
    split
    · rfl
    · split <;> rfl
  · rw [if_pos (nI_le h (by omega)), lh_n h, if_pos hlo]
theorem f_isAt_y {lo hi : Int32} (t : GS L l ρ p) (hlo : (-1 : Int32) < lo) (h1 : ¬ lh L l p < lo) (h2 : ¬ hi < lh L l p) : w_X10_isAt lo hi ρ Φ = Φ 1 ρ := by
  rw [f_isAt t hlo, if_neg h1, if_neg h2]
theorem f_isAt_n {lo hi : Int32} (t : GS L l ρ p) (hlo : (-1 : Int32) < lo) (h : lh L l p < lo ∨ hi < lh L l p) : w_X10_isAt lo hi ρ Φ = Φ 0 ρ := by
  rw [f_isAt t hlo]
  by_cases h1 : lh L l p < lo
  · rw [if_pos h1]
  · rw [if_neg h1, if_pos (h.resolve_left h1)]
theorem f_skips_y {c : Int32} (t : GS L l ρ p) (hc : (-1 : Int32) < c) (h : lh L l p = c) (H : Φ 1 (up2 ρ 0 6 (nI (p + 1)))) : w_X10_skips c ρ Φ := by
  unfold w_X10_skips
  rw [t.2.2.2.2.2, if_neg (by decide), f_isAt_y t hc (by rw [h]; exact fun e => lt_ir e) (by rw [h]; exact fun e => lt_ir e), if_neg (by decide)]
  unfold w_X10_skips_21
  rw [if_neg (by decide)]
  rintro _ rfl
  rw [t.2.1, nI_1]
  exact ⟨Or.inr rfl, H⟩
theorem f_skips_n {c : Int32} (t : GS L l ρ p) (hc : (-1 : Int32) < c) (h : lh L l p ≠ c) (H : Φ 0 ρ) : w_X10_skips c ρ Φ := by
  unfold w_X10_skips
  rw [t.2.2.2.2.2, if_neg (by decide), f_isAt_n t hc (i_ne h), if_pos rfl]
  unfold w_X10_skips_20 w_X10_skips_21
  rw [if_pos rfl]
  rintro _ rfl
  rw [Int32.add_zero, up2_same rfl]
  exact ⟨Or.inl rfl, H⟩
theorem f_skips_0 {c : Int32} (bad : ρ 0 7 = 0) (H : Φ 0 ρ) : w_X10_skips c ρ Φ := by
  unfold w_X10_skips
  rw [bad, if_pos rfl]
  unfold w_X10_skips_20 w_X10_skips_21
  rw [if_pos rfl]
  rintro _ rfl
  rw [Int32.add_zero, up2_same rfl]
  exact ⟨Or.inl rfl, H⟩
theorem f_digit_y {a hi LO HI : Int32} (t : GS L l ρ p) (hLO : (((48 : Int32) + a).toUInt32 % 65536).toInt32 = LO) (hHI : (((48 : Int32) + hi).toUInt32 % 65536).toInt32 = HI) (hlo : (-1 : Int32) < LO) (h1 : ¬ lh L l p < LO) (h2 : ¬ HI < lh L l p) (hhi : 0 ≤ hi) (hpl : p < l) (H : Φ (lh L l p - 48) (up2 ρ 0 6 (nI (p + 1)))) : w_X10_digit a hi ρ Φ := by
  obtain ⟨-, t2, t3, hl, hp, good⟩ := id t
  unfold w_X10_digit
  rw [good, if_neg (by decide), hLO, hHI, f_isAt_y t hlo h1 h2, if_neg (by decide)]
  unfold w_X10_digit_30
  refine ⟨Or.inr rfl, ?_⟩
  rintro _ rfl
  rw [up2_same good, good, if_neg (by decide), if_pos hhi]
  rintro _ rfl
  rw [up2_s, t2, nI_1, nI_pred]
  refine ⟨vp_in_nI (by omega) (by omega), ?_⟩
  rw [cl (show p < 2147483648 by omega), up2_n (by omega), t3, ← lh_y (L := L) hpl]
  exact H
theorem f_digit_n {a hi LO HI : Int32} (t : GS L l ρ p) (hLO : (((48 : Int32) + a).toUInt32 % 65536).toInt32 = LO) (hHI : (((48 : Int32) + hi).toUInt32 % 65536).toInt32 = HI) (hlo : (-1 : Int32) < LO) (h : lh L l p < LO ∨ HI < lh L l p) (H : Φ 0 (up2 ρ 0 7 0)) : w_X10_digit a hi ρ Φ := by
  unfold w_X10_digit
  rw [t.2.2.2.2.2, if_neg (by decide), hLO, hHI, f_isAt_n t hlo h, if_pos rfl]
  unfold w_X10_digit_29 w_X10_digit_30
  refine ⟨Or.inl rfl, ?_⟩
  rintro _ rfl
  rw [up2_s, if_pos rfl]
  rintro _ rfl
  rw [up2_up2]
  exact H
theorem f_digit_0 {a hi : Int32} (bad : ρ 0 7 = 0) (H : Φ 0 ρ) : w_X10_digit a hi ρ Φ := by
  unfold w_X10_digit
  rw [bad, if_pos rfl]
  unfold w_X10_digit_29 w_X10_digit_30
  refine ⟨Or.inl rfl, ?_⟩
  rintro _ rfl
  rw [up2_same bad, bad, if_pos rfl]
  rintro _ rfl
  rw [up2_same bad]
  exact H
theorem w48 : (((48 : Int32) + 0).toUInt32 % 65536).toInt32 = 48 := by decide
theorem w49 : (((48 : Int32) + 1).toUInt32 % 65536).toInt32 = 49 := by decide
theorem w57 : (((48 : Int32) + 9).toUInt32 % 65536).toInt32 = 57 := by decide
theorem wN (h : ng ≤ 8) : (((48 : Int32) + (nI ng - 1)).toUInt32 % 65536).toInt32 = nI (47 + ng) := (by decide : ∀ n, n < 9 → (((48 : Int32) + (nI n - 1)).toUInt32 % 65536).toInt32 = nI (47 + n)) ng (by omega)
theorem f_num_n {a : Int32} (ha : a = 0 ∨ a = 1) (t : GS L l ρ p) (h : ∀ d, d < 10 → ¬ nI d < a → lh L l p ≠ nI (48 + d)) (H : Φ 0 (up2 ρ 0 7 0)) : w_X10_number a ρ Φ := by
  have K : ∀ LO : Int32, (((48 : Int32) + a).toUInt32 % 65536).toInt32 = LO → (-1 : Int32) < LO → (lh L l p < LO ∨ 57 < lh L l p) → w_X10_number a ρ Φ := fun LO k1 k2 k3 => by
    unfold w_X10_number
    refine f_digit_n t k1 w57 k2 k3 ?_
    show (if up2 ρ 0 7 0 0 7 = 0 then Φ 0 (up2 ρ 0 7 0) else _)
    rw [if_pos (up2_s _ _ _ _)]
    exact H
  rcases dig (lh L l p) with ⟨d, hd, e⟩ | ⟨-, hn⟩
  · have hda : nI d < a := Decidable.byContradiction (fun hh => h d hd hh e)
    rcases ha with rfl | rfl
    · exact absurd hda (nI_pos (by omega))
    · rcases Nat.eq_zero_or_pos d with hd0 | hd0
      · exact K 49 w49 (by decide) (Or.inl (by rw [e, hd0]; decide))
      · exact absurd hda (nI_nlt (a := d) (b := 1) (by omega) (by omega))
  · rcases ha with rfl | rfl
    · exact K 48 w48 (by decide) hn
    · refine K 49 w49 (by decide) ?_
      rcases hn with hn | hn
      · exact Or.inl (Int32.lt_trans hn (by decide))
      · exact Or.inr hn
theorem f_first {a : Int32} {d : Nat} (ha : a = 0 ∨ a = 1) (t : GS L l ρ p) (e : lh L l p = nI (48 + d)) (hd : d < 10) (hda : ¬ nI d < a) (H : Φ (nI d) (up2 ρ 0 6 (nI (p + 1)))) : w_X10_digit a 9 ρ Φ := by
  have h57 : ¬ (57 : Int32) < lh L l p := by
    rw [e]
    exact nI_nlt (a := 57) (b := 48 + d) (by omega) (by omega)
  have hpl : p < l := lh_lt e (n_m1 d (by omega))
  have H2 : Φ (lh L l p - 48) (up2 ρ 0 6 (nI (p + 1))) := by
    rw [e, nI_48]
    exact H
  rcases ha with rfl | rfl
  · refine f_digit_y t w48 w57 (by decide) ?_ h57 (by decide) hpl H2
    rw [e]
    exact nI_nlt (a := 48 + d) (b := 48) (by omega) (by omega)
  · refine f_digit_y t w49 w57 (by decide) ?_ h57 (by decide) hpl H2
    have hd0 : d ≠ 0 := fun z => hda (by rw [z]; decide)
    rw [e]
    exact nI_nlt (a := 48 + d) (b := 49) (by omega) (by omega)
theorem f_num_1 {a : Int32} {d : Nat} (ha : a = 0 ∨ a = 1) (t : GS L l ρ p) (hp : p < 90) (e : lh L l p = nI (48 + d)) (hd : d < 10) (hda : ¬ nI d < a) (h2 : d = 0 ∨ ∀ e, e < 10 → lh L l (p + 1) ≠ nI (48 + e)) (H : Φ (nI d) (up2 ρ 0 6 (nI (p + 1)))) : w_X10_number a ρ Φ := by
  have t2 := t.go (q := p + 1) (by omega)
  unfold w_X10_number
  refine f_first ha t e hd hda ?_
  show (if up2 ρ 0 6 (nI (p + 1)) 0 7 = 0 then _ else _)
  rw [t2.2.2.2.2.2, if_neg (by decide)]
  by_cases h0 : nI d ≤ 0
  · rw [if_pos h0]
    exact H
  · rw [if_neg h0]
    have hn : lh L l (p + 1) < 48 ∨ 57 < lh L l (p + 1) := by
      rcases dig (lh L l (p + 1)) with ⟨e', he', ee⟩ | ⟨-, hn⟩
      · rcases h2 with h2 | h2
        · exact absurd (by rw [h2]; decide) h0
        · exact absurd ee (h2 e' he')
      · exact hn
    rw [f_isAt_n t2 (by decide) hn, if_pos rfl]
    exact H
theorem f_num_2 {a : Int32} {d e : Nat} (ha : a = 0 ∨ a = 1) (t : GS L l ρ p) (hp : p < 90) (ed : lh L l p = nI (48 + d)) (hd : d < 10) (hd0 : 0 < d) (hda : ¬ nI d < a) (ee : lh L l (p + 1) = nI (48 + e)) (he : e < 10) (H : Φ (nI (10 * d + e)) (up2 ρ 0 6 (nI (p + 1 + 1)))) : w_X10_number a ρ Φ := by
  have t2 := t.go (q := p + 1) (by omega)
  have h48 : ¬ lh L l (p + 1) < 48 := by
    rw [ee]
    exact nI_nlt (a := 48 + e) (b := 48) (by omega) (by omega)
  have h57 : ¬ (57 : Int32) < lh L l (p + 1) := by
    rw [ee]
    exact nI_nlt (a := 57) (b := 48 + e) (by omega) (by omega)
  unfold w_X10_number
  refine f_first ha t ed hd hda ?_
  show (if up2 ρ 0 6 (nI (p + 1)) 0 7 = 0 then _ else _)
  rw [t2.2.2.2.2.2, if_neg (by decide), if_neg (nI_nle hd0 (by omega)), f_isAt_y t2 (by decide) h48 h57, if_neg (by decide)]
  refine f_first (Or.inl rfl) t2 ee he (nI_pos (by omega)) ?_
  rw [up2_up2, show (10 : Int32) * nI d = nI (10 * d) by rw [show (10 : Int32) = nI 10 from rfl, pk_mul], nI_add]
  exact H
theorem f_num_0 {a : Int32} (bad : ρ 0 7 = 0) (H : Φ 0 ρ) : w_X10_number a ρ Φ := by
  unfold w_X10_number
  refine f_digit_0 bad ?_
  show (if ρ 0 7 = 0 then Φ 0 ρ else _)
  rw [if_pos bad]
  exact H
end ORDER
section ORDERS
variable {L : Nat → Int32} {l p ng : Nat}
/-- a number, on both sides -/
theorem num_at (hp : p < 90) {a : Int32} (ha : a = 0 ∨ a = 1) : (∃ v q, v < 100 ∧ p < q ∧ q ≤ l ∧ (∀ (u : Mm) (Φ : Int32 → Mm → Prop), CS L l u p → (∀ u' : Mm, CS L l u' q → (∀ x j, ¬ (x = 745 ∧ (j = 2 ∨ j = 5)) → u' x j = u x j) → u' 745 5 = nI v → Φ 1 u') → w_X3_readNumber a u Φ) ∧ (∀ (ρ : Mm) (Φ : Int32 → Mm → Prop), GS L l ρ p → Φ (nI v) (up2 ρ 0 6 (nI q)) → w_X10_number a ρ Φ)) ∨ ((∀ (u : Mm) (Φ : Int32 → Mm → Prop), CS L l u p → Φ 0 u → w_X3_readNumber a u Φ) ∧ (∀ (ρ : Mm) (Φ : Int32 → Mm → Prop), GS L l ρ p → Φ 0 (up2 ρ 0 7 0) → w_X10_number a ρ Φ)) := by
  by_cases hex : ∃ d, d < 10 ∧ ¬ nI d < a ∧ lh L l p = nI (48 + d)
  · obtain ⟨d, hd, hda, e⟩ := hex
    have hpl : p < l := lh_lt e (n_m1 d (by omega))
    by_cases h2 : d = 0 ∨ ∀ e, e < 10 → lh L l (p + 1) ≠ nI (48 + e)
    · refine Or.inl ⟨d, p + 1, by omega, by omega, by omega, fun u Φ t H => ?_, fun ρ Φ t H => f_num_1 ha t hp e hd hda h2 H⟩
      refine c_num_1 t hp e hd hda h2 (H _ ((t.go (by omega)).cell (by decide)) (fun x j h => ?_) (up2_s _ _ _ _))
      rw [up2_n (by omega), up2_n (by omega)]
    · have hd0 : 0 < d := by
        rcases Nat.eq_zero_or_pos d with z | z
        · exact absurd (Or.inl z) h2
        · exact z
      have hex2 : ∃ e, e < 10 ∧ lh L l (p + 1) = nI (48 + e) := by
        rcases dig (lh L l (p + 1)) with h | ⟨-, hn⟩
        · exact h
        · exfalso
          refine h2 (Or.inr (fun e he q => ?_))
          rw [q] at hn
          rcases hn with hn | hn
          · exact absurd hn (nI_nlt (a := 48 + e) (b := 48) (by omega) (by omega))
          · exact absurd hn (nI_nlt (a := 57) (b := 48 + e) (by omega) (by omega))
      obtain ⟨e', he', ee⟩ := hex2
      have hpl2 : p + 1 < l := lh_lt ee (n_m1 e' (by omega))
      refine Or.inl ⟨10 * d + e', p + 1 + 1, by omega, by omega, by omega, fun u Φ t H => ?_, fun ρ Φ t H => f_num_2 ha t hp e hd hd0 hda ee he' H⟩
      refine c_num_2 t hp e hd hd0 hda ee he' (H _ ((((t.go (by omega)).cell (by decide)).go (by omega)).cell (by decide)) (fun x j h => ?_) (up2_s _ _ _ _))
      rw [up2_n (by omega), up2_n (by omega), up2_n (by omega), up2_n (by omega)]
  · have hno : ∀ d, d < 10 → ¬ nI d < a → lh L l p ≠ nI (48 + d) := fun d h1 h2 h3 => hex ⟨d, h1, h2, h3⟩
    exact Or.inr ⟨fun u Φ t H => c_num_n ha t hno H, fun ρ Φ t H => f_num_n ha t hno H⟩
/-- a gate's digit, on both sides -/
theorem gate_at (hng : ng ≤ 8) : (∃ d, d < ng ∧ p < l ∧ (∀ (u : Mm) (Φ : Int32 → Mm → Prop), CS L l u p → Φ 1 (up2 (up2 u 745 4 (nI d)) 745 2 (nI (p + 1))) → w_X3_readGate (nI ng) u Φ) ∧ (∀ (ρ : Mm) (Φ : Int32 → Mm → Prop), GS L l ρ p → Φ (nI d) (up2 ρ 0 6 (nI (p + 1))) → w_X10_digit 0 (nI ng - 1) ρ Φ)) ∨ ((∀ (u : Mm) (Φ : Int32 → Mm → Prop), CS L l u p → (∀ x, Φ 0 (up2 u 745 4 x)) → w_X3_readGate (nI ng) u Φ) ∧ (∀ (ρ : Mm) (Φ : Int32 → Mm → Prop), GS L l ρ p → Φ 0 (up2 ρ 0 7 0) → w_X10_digit 0 (nI ng - 1) ρ Φ)) := by
  by_cases hex : ∃ d, d < ng ∧ lh L l p = nI (48 + d)
  · obtain ⟨d, hd, e⟩ := hex
    have hpl : p < l := lh_lt e (n_m1 d (by omega))
    refine Or.inl ⟨d, hd, hpl, fun u Φ t H => c_gate_y t e hd hng H, fun ρ Φ t H => ?_⟩
    refine f_digit_y t w48 (wN hng) (by decide) ?_ ?_ ?_ hpl ?_
    · rw [e]
      exact nI_nlt (a := 48 + d) (b := 48) (by omega) (by omega)
    · rw [e]
      exact nI_nlt (a := 47 + ng) (b := 48 + d) (by omega) (by omega)
    · rw [nI_m1 (by omega)]
      exact nI_pos' (by omega)
    · rw [e, nI_48]
      exact H
  · have hno : ∀ d, d < ng → lh L l p ≠ nI (48 + d) := fun d h1 h2 => hex ⟨d, h1, h2⟩
    refine Or.inr ⟨fun u Φ t H => c_gate_n t hng hno H, fun ρ Φ t H => ?_⟩
    refine f_digit_n t w48 (wN hng) (by decide) ?_ H
    rcases dig (lh L l p) with ⟨d, hd, e⟩ | ⟨-, hn | hn⟩
    · have hdn : ng ≤ d := Nat.le_of_not_lt (fun hh => hno d hh e)
      rw [e]
      exact Or.inr (nI_lt (by omega) (by omega))
    · exact Or.inl hn
    · exact Or.inr (Int32.lt_of_le_of_lt (nI_le (a := 47 + ng) (b := 57) (by omega) (by omega)) hn)
end ORDERS
