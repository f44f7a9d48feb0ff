/-! one order, letter by letter, on both sides -/
theorem up2_same {μ : Mm} {k j : Nat} {v : Int32} (h : μ k j = v) : up2 μ k j v = μ := by
  funext a b
  by_cases hq : a = k ∧ b = j
  · obtain ⟨rfl, rfl⟩ := hq
    rw [up2_s, h]
  · rw [up2_n (by omega)]
theorem up2_up2 {μ : Mm} {k j : Nat} {v w : Int32} : up2 (up2 μ k j v) k j w = up2 μ k j w := by
  funext a b
  by_cases hq : a = k ∧ b = j
  · obtain ⟨rfl, rfl⟩ := hq
    rw [up2_s, up2_s]
  · rw [up2_n (by omega), up2_n (by omega), up2_n (by omega)]
def lh (L : Nat → Int32) (l p : Nat) : Int32 := if p < l then L p else -1
theorem nI_48 (d : Nat) : nI (48 + d) - 48 = nI d := by
  rw [Nat.add_comm, ← nI_add, show nI 48 = (48 : Int32) from rfl, Int32.add_sub_cancel]
theorem dig_of {x : Int32} (h2 : ¬ x < 48) (h3 : ¬ 57 < x) : ∃ d, d < 10 ∧ x = nI (48 + d) := by
  obtain ⟨j, hj, e⟩ := nI_of2 (x := x) (M := 57) (n := 57) (by decide) (fun h => h2 (Int32.lt_trans h (by decide))) (Int32.not_lt.mp h3)
  rcases Nat.lt_or_ge j 48 with hh | hh
  · exact absurd (show x < 48 by rw [e]; exact nI_lt (b := 48) hh (by omega)) h2
  · refine ⟨j - 48, by omega, ?_⟩
    rw [e]
    congr 1
    omega
theorem dig (x : Int32) : (∃ d, d < 10 ∧ x = nI (48 + d)) ∨ ((x - 48 < 0 ∨ 9 < x - 48) ∧ (x < 48 ∨ 57 < x)) := by
  by_cases h1 : x - 48 < 0 ∨ 9 < x - 48
  · refine Or.inr ⟨h1, ?_⟩
    by_cases h2 : x < 48
    · exact Or.inl h2
    · by_cases h3 : 57 < x
      · exact Or.inr h3
      · obtain ⟨d, hd, e⟩ := dig_of h2 h3
        rw [e, nI_48] at h1
        rcases h1 with h1 | h1
        · exact absurd h1 (nI_pos (by omega))
        · exact absurd h1 (nI_nlt (a := 9) (b := d) (by omega) (by omega))
  · have ha : ¬ x - 48 < 0 := fun h => h1 (Or.inl h)
    have hb : ¬ 9 < x - 48 := fun h => h1 (Or.inr h)
    obtain ⟨k, hk, e⟩ := nI_of2 (x := x - 48) (M := 9) (n := 9) (by decide) ha (Int32.not_lt.mp hb)
    refine Or.inl ⟨k, by omega, ?_⟩
    have e2 : x = x - 48 + 48 := (Int32.sub_add_cancel x 48).symm
    rw [e] at e2
    exact e2.trans (by rw [show (48 : Int32) = nI 48 from rfl, nI_add, Nat.add_comm])
theorem i_ne {x y : Int32} (h : x ≠ y) : x < y ∨ y < x := by
  by_cases h1 : x < y
  · exact Or.inl h1
  · by_cases h2 : y < x
    · exact Or.inr h2
    · exact absurd (Int32.le_antisymm (Int32.not_lt.mp h2) (Int32.not_lt.mp h1)) h
section ORDER
variable {L : Nat → Int32} {l p ng : Nat} {u ρ : Mm} {Φ : Int32 → Mm → Prop}
theorem lh_y (h : p < l) : lh L l p = L p := if_pos h
theorem lh_n (h : l ≤ p) : lh L l p = -1 := if_neg (by omega)
theorem lh_lt {c : Int32} (h : lh L l p = c) (hc : (-1 : Int32) < c) : p < l := by
  rcases Nat.lt_or_ge p l with h1 | h1
  · exact h1
  · rw [← h, lh_n h1] at hc
    exact absurd hc (fun e => lt_ir e)
theorem n_m1 (d : Nat) (h : d < 1000) : (-1 : Int32) < nI (48 + d) := Int32.lt_of_lt_of_le (b := 0) (by decide) (nI_pos' (by omega))
def CS (L : Nat → Int32) (l : Nat) (u : Mm) (p : Nat) : Prop := u 745 1 = nI l ∧ u 745 2 = nI p ∧ (∀ i, i < l → u 746 i = L i) ∧ l ≤ 50 ∧ p < 100
theorem CS.cell {j : Nat} {v : Int32} (h : CS L l u p) (hj : 2 < j) : CS L l (up2 u 745 j v) p := ⟨by rw [up2_n (by omega)]; exact h.1, by rw [up2_n (by omega)]; exact h.2.1, fun i hi => by rw [up2_k (by decide)]; exact h.2.2.1 i hi, h.2.2.2⟩
theorem CS.go {q : Nat} (h : CS L l u p) (hq : q < 100) : CS L l (up2 u 745 2 (nI q)) q := ⟨by rw [up2_n (by omega)]; exact h.1, up2_s _ _ _ _, fun i hi => by rw [up2_k (by decide)]; exact h.2.2.1 i hi, h.2.2.2.1, hq⟩
theorem c_here (h : CS L l u p) : w_X3_letterHere u Φ = Φ (lh L l p) u := by
  obtain ⟨t1, t2, t3, hl, hp⟩ := h
  unfold w_X3_letterHere
  rw [t1, t2, if_neg (nI_pos (by omega))]
  rcases Nat.lt_or_ge p l with h | h
  · have h50 : ¬ (50 : Int32) ≤ nI p := nI_ge (a := p) (b := 50) (by omega) (by omega)
    rw [if_neg (nI_ge h (by omega)), if_neg h50, vin (show p < 50 by omega) (by decide), true_and, cl (show p < 2147483648 by omega), t3 p h, lh_y h]
  · rw [if_pos (nI_le h (by omega)), lh_n h]
theorem c_skip_y {c : Int32} (t : CS L l u p) (h : lh L l p = c) (H : Φ 1 (up2 u 745 2 (nI (p + 1)))) : w_X3_skip c u Φ := by
  unfold w_X3_skip
  rw [c_here t, if_pos h]
  rintro _ rfl
  rw [t.2.1, nI_1]
  exact H
theorem c_skip_n {c : Int32} (t : CS L l u p) (h : lh L l p ≠ c) (H : Φ 0 u) : w_X3_skip c u Φ := by
  unfold w_X3_skip
  rw [c_here t, if_neg h]
  exact H
theorem c_gate_y {d : Nat} (t : CS L l u p) (h : lh L l p = nI (48 + d)) (hd : d < ng) (hng : ng ≤ 8) (H : Φ 1 (up2 (up2 u 745 4 (nI d)) 745 2 (nI (p + 1)))) : w_X3_readGate (nI ng) u Φ := by
  have h9 : ¬ (9 : Int32) < nI d := nI_nlt (a := 9) (b := d) (by omega) (by omega)
  unfold w_X3_readGate
  rw [c_here t, h, nI_48]
  rintro _ rfl
  rw [up2_s, if_neg (nI_pos (by omega)), if_neg h9, if_pos (nI_lt hd (by omega))]
  rintro _ rfl
  rw [up2_n (by omega), t.2.1, nI_1]
  exact H
theorem c_gate_n (t : CS L l u p) (hng : ng ≤ 8) (h : ∀ d, d < ng → lh L l p ≠ nI (48 + d)) (H : ∀ x, Φ 0 (up2 u 745 4 x)) : w_X3_readGate (nI ng) u Φ := by
  unfold w_X3_readGate
  rw [c_here t]
  rintro _ rfl
  rw [up2_s]
  rcases dig (lh L l p) with ⟨d, hd, e⟩ | ⟨hn, -⟩
  · have hdn : ng ≤ d := Nat.le_of_not_lt (fun hh => h d hh e)
    have h9 : ¬ (9 : Int32) < nI d := nI_nlt (a := 9) (b := d) (by omega) (by omega)
    rw [e, nI_48, if_neg (nI_pos (by omega)), if_neg h9, if_neg (nI_nlt hdn (by omega))]
    exact H _
  · by_cases h0 : lh L l p - 48 < 0
    · rw [if_pos h0]
      exact H _
    · rw [if_neg h0, if_pos (hn.resolve_left h0)]
      exact H _
theorem c_num_n {a : Int32} (ha : a = 0 ∨ a = 1) (t : CS L l u p) (h : ∀ d, d < 10 → ¬ nI d < a → lh L l p ≠ nI (48 + d)) (H : Φ 0 u) : w_X3_readNumber a u Φ := by
  unfold w_X3_readNumber
  rw [c_here t]
  rcases dig (lh L l p) with ⟨d, hd, e⟩ | ⟨hn, -⟩
  · have hda : nI d < a := Decidable.byContradiction (fun hh => h d hd hh e)
    rw [e, nI_48, if_pos hda]
    exact H
  · by_cases h1 : lh L l p - 48 < a
    · rw [if_pos h1]
      exact H
    · have h2 : ¬ lh L l p - 48 ≤ 9 := by
        rcases hn with hn | hn
        · exfalso
          apply h1
          rcases ha with rfl | rfl
          · exact hn
          · exact Int32.lt_trans hn (by decide)
        · exact Int32.not_le.mpr hn
      rw [if_neg h1, if_neg h2]
      exact H
theorem c_num_1 {a : Int32} {d : Nat} (t : CS L l u p) (hp : p < 90) (e : lh L l p = nI (48 + d)) (hd : d < 10) (hda : ¬ nI d < a) (h2 : d = 0 ∨ ∀ e, e < 10 → lh L l (p + 1) ≠ nI (48 + e)) (H : Φ 1 (up2 (up2 u 745 2 (nI (p + 1))) 745 5 (nI d))) : w_X3_readNumber a u Φ := by
  have h9 : nI d ≤ 9 := nI_le (a := d) (b := 9) (by omega) (by omega)
  unfold w_X3_readNumber
  rw [c_here t, e, nI_48, if_neg hda, if_pos h9]
  rintro _ rfl _ rfl
  rw [t.2.1, nI_1, c_here ((t.go (q := p + 1) (by omega)).cell (j := 5) (v := nI d) (by decide))]
  by_cases h0 : nI d ≤ 0
  · rw [if_pos h0]
    exact H
  · rw [if_neg h0]
    rcases dig (lh L l (p + 1)) with ⟨e', he', ee⟩ | ⟨hn, -⟩
    · rcases h2 with h2 | h2
      · exact absurd (by rw [h2]; decide) h0
      · exact absurd ee (h2 e' he')
    · by_cases hx : lh L l (p + 1) - 48 < 0
      · rw [if_pos hx]
        exact H
      · rw [if_neg hx, if_pos (hn.resolve_left hx)]
        exact H
theorem c_num_2 {a : Int32} {d e : Nat} (t : CS L l u p) (hp : p < 90) (ed : lh L l p = nI (48 + d)) (hd : d < 10) (hd0 : 0 < d) (hda : ¬ nI d < a) (ee : lh L l (p + 1) = nI (48 + e)) (he : e < 10) (H : Φ 1 (up2 (up2 (up2 (up2 u 745 2 (nI (p + 1))) 745 5 (nI d)) 745 2 (nI (p + 1 + 1))) 745 5 (nI (10 * d + e)))) : w_X3_readNumber a u Φ := by
  have h9 : nI d ≤ 9 := nI_le (a := d) (b := 9) (by omega) (by omega)
  have h9' : ¬ (9 : Int32) < nI e := nI_nlt (a := 9) (b := e) (by omega) (by omega)
  have t2 := (t.go (q := p + 1) (by omega)).cell (j := 5) (v := nI d) (by decide)
  unfold w_X3_readNumber
  rw [c_here t, ed, nI_48, if_neg hda, if_pos h9]
  rintro _ rfl _ rfl
  rw [t.2.1, nI_1, c_here t2, if_neg (nI_nle hd0 (by omega)), ee, nI_48, if_neg (nI_pos (by omega)), if_neg h9']
  rintro _ rfl _ rfl
  rw [t2.2.1, nI_1, show (10 : Int32) * nI d = nI (10 * d) by rw [show (10 : Int32) = nI 10 from rfl, pk_mul], nI_add]
  exact H
end ORDER
