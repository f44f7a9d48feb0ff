/-! the reference's row -/
def rw1 (ρ : Mm) (r : Nat → Int32) : Mm := upA ρ 1 r
theorem rw1_1 (ρ : Mm) (r : Nat → Int32) : rw1 ρ r 1 = r := by simp [rw1, upA]
theorem rw1_o {ρ : Mm} {r : Nat → Int32} {q : Nat} (h : q ≠ 1) : rw1 ρ r q = ρ q := by simp [rw1, upA, h]
theorem rw1_self (ρ : Mm) : rw1 ρ (ρ 1) = ρ := by
  funext q
  by_cases h : q = 1
  · subst h; simp [rw1, upA]
  · simp [rw1, upA, h]
theorem rw1_rw1 (ρ : Mm) (r t : Nat → Int32) : rw1 (rw1 ρ r) t = rw1 ρ t := by
  funext q
  by_cases h : q = 1
  · subst h; simp [rw1, upA]
  · simp [rw1, upA, h]
theorem up2_rw1 (ρ : Mm) (r : Nat → Int32) (i : Nat) (v : Int32) : up2 (rw1 ρ r) 1 i v = rw1 ρ (upd r i v) := by
  funext q
  by_cases h : q = 1
  · subst h; simp [rw1, upA, up2]
  · simp [rw1, upA, up2, h]
theorem vin {k N : Nat} (h : k < N) (hN : N < 2147483648) : vp_in (nI k) N = True := eq_true (vp_in_nI h (by omega))
theorem cl {k : Nat} (h : k < 2147483648) : (nI k).toNatClampNeg = k := nI_clamp (by omega)
theorem ixG (g f : Nat) : (8 : Int32) + (14 : Int32) * nI g + nI f = nI (8 + 14 * g + f) := by
  rw [show (8 : Int32) = nI 8 from rfl, show (14 : Int32) = nI 14 from rfl, pk_mul, nI_add, nI_add]
theorem ixP (p f : Nat) : (120 : Int32) + (7 : Int32) * nI p + nI f = nI (120 + 7 * p + f) := by
  rw [show (120 : Int32) = nI 120 from rfl, show (7 : Int32) = nI 7 from rfl, pk_mul, nI_add, nI_add]
theorem ixX (x : Nat) : (400 : Int32) + (2 : Int32) * nI x = nI (400 + 2 * x) := by
  rw [show (400 : Int32) = nI 400 from rfl, show (2 : Int32) = nI 2 from rfl, pk_mul, nI_add]
theorem ixX1 (x : Nat) : (400 : Int32) + (2 : Int32) * nI x + (1 : Int32) = nI (400 + 2 * x + 1) := by
  rw [ixX, show (1 : Int32) = nI 1 from rfl, nI_add]
theorem ixL (x : Nat) : (424 : Int32) + (3 : Int32) * nI x = nI (424 + 3 * x) := by
  rw [show (424 : Int32) = nI 424 from rfl, show (3 : Int32) = nI 3 from rfl, pk_mul, nI_add]
theorem ixLf (x f : Nat) : (424 : Int32) + (3 : Int32) * nI x + nI f = nI (424 + 3 * x + f) := by
  rw [ixL, nI_add]
section REF
variable {ρ : Mm} {r : Nat → Int32}
theorem gateOf_g {a1 a2 : Int32} {k : Nat} {Φ : Int32 → Mm → Prop} (h : (8 : Int32) + (14 : Int32) * a1 + a2 = nI k) (hk : k < 516) : w_X10_gateOf a1 a2 (rw1 ρ r) Φ = Φ (r k) (rw1 ρ r) := by
  unfold w_X10_gateOf
  rw [h, vin hk (by decide), cl (by omega), rw1_1, true_and]
theorem of_g {a1 a2 : Int32} {k : Nat} {Φ : Int32 → Mm → Prop} (h : (120 : Int32) + (7 : Int32) * a1 + a2 = nI k) (hk : k < 516) : w_X10_of a1 a2 (rw1 ρ r) Φ = Φ (r k) (rw1 ρ r) := by
  unfold w_X10_of
  rw [h, vin hk (by decide), cl (by omega), rw1_1, true_and]
theorem putGate_g {a1 a2 v : Int32} {k : Nat} {Φ : Unit → Mm → Prop} (h : (8 : Int32) + (14 : Int32) * a1 + a2 = nI k) (hk : k < 516) : w_X10_putGate a1 a2 v (rw1 ρ r) Φ = Φ () (rw1 ρ (upd r k v)) := by
  unfold w_X10_putGate
  rw [h, vin hk (by decide), cl (by omega), true_and, up2_rw1]
  simp
theorem put_g {a1 a2 v : Int32} {k : Nat} {Φ : Unit → Mm → Prop} (h : (120 : Int32) + (7 : Int32) * a1 + a2 = nI k) (hk : k < 516) : w_X10_put a1 a2 v (rw1 ρ r) Φ = Φ () (rw1 ρ (upd r k v)) := by
  unfold w_X10_put
  rw [h, vin hk (by decide), cl (by omega), true_and, up2_rw1]
  simp
theorem s_gateOf_0 {g : Nat} {Φ : Int32 → Mm → Prop} (hg : g < 8) : w_X10_gateOf (nI g) (0 : Int32) (rw1 ρ r) Φ = Φ (r (8 + 14 * g + 0)) (rw1 ρ r) := gateOf_g (ixG g 0) (by omega)
theorem s_putGate_0 {g : Nat} {v : Int32} {Φ : Unit → Mm → Prop} (hg : g < 8) : w_X10_putGate (nI g) (0 : Int32) v (rw1 ρ r) Φ = Φ () (rw1 ρ (upd r (8 + 14 * g + 0) v)) := putGate_g (ixG g 0) (by omega)
theorem s_gateOf_1 {g : Nat} {Φ : Int32 → Mm → Prop} (hg : g < 8) : w_X10_gateOf (nI g) (1 : Int32) (rw1 ρ r) Φ = Φ (r (8 + 14 * g + 1)) (rw1 ρ r) := gateOf_g (ixG g 1) (by omega)
theorem s_putGate_1 {g : Nat} {v : Int32} {Φ : Unit → Mm → Prop} (hg : g < 8) : w_X10_putGate (nI g) (1 : Int32) v (rw1 ρ r) Φ = Φ () (rw1 ρ (upd r (8 + 14 * g + 1) v)) := putGate_g (ixG g 1) (by omega)
theorem s_gateOf_2 {g : Nat} {Φ : Int32 → Mm → Prop} (hg : g < 8) : w_X10_gateOf (nI g) (2 : Int32) (rw1 ρ r) Φ = Φ (r (8 + 14 * g + 2)) (rw1 ρ r) := gateOf_g (ixG g 2) (by omega)
theorem s_putGate_2 {g : Nat} {v : Int32} {Φ : Unit → Mm → Prop} (hg : g < 8) : w_X10_putGate (nI g) (2 : Int32) v (rw1 ρ r) Φ = Φ () (rw1 ρ (upd r (8 + 14 * g + 2) v)) := putGate_g (ixG g 2) (by omega)
theorem s_gateOf_3 {g : Nat} {Φ : Int32 → Mm → Prop} (hg : g < 8) : w_X10_gateOf (nI g) (3 : Int32) (rw1 ρ r) Φ = Φ (r (8 + 14 * g + 3)) (rw1 ρ r) := gateOf_g (ixG g 3) (by omega)
theorem s_putGate_3 {g : Nat} {v : Int32} {Φ : Unit → Mm → Prop} (hg : g < 8) : w_X10_putGate (nI g) (3 : Int32) v (rw1 ρ r) Φ = Φ () (rw1 ρ (upd r (8 + 14 * g + 3) v)) := putGate_g (ixG g 3) (by omega)
theorem s_gateOf_4 {g : Nat} {Φ : Int32 → Mm → Prop} (hg : g < 8) : w_X10_gateOf (nI g) (4 : Int32) (rw1 ρ r) Φ = Φ (r (8 + 14 * g + 4)) (rw1 ρ r) := gateOf_g (ixG g 4) (by omega)
theorem s_putGate_4 {g : Nat} {v : Int32} {Φ : Unit → Mm → Prop} (hg : g < 8) : w_X10_putGate (nI g) (4 : Int32) v (rw1 ρ r) Φ = Φ () (rw1 ρ (upd r (8 + 14 * g + 4) v)) := putGate_g (ixG g 4) (by omega)
theorem s_gateOf_5 {g : Nat} {Φ : Int32 → Mm → Prop} (hg : g < 8) : w_X10_gateOf (nI g) (5 : Int32) (rw1 ρ r) Φ = Φ (r (8 + 14 * g + 5)) (rw1 ρ r) := gateOf_g (ixG g 5) (by omega)
theorem s_putGate_5 {g : Nat} {v : Int32} {Φ : Unit → Mm → Prop} (hg : g < 8) : w_X10_putGate (nI g) (5 : Int32) v (rw1 ρ r) Φ = Φ () (rw1 ρ (upd r (8 + 14 * g + 5) v)) := putGate_g (ixG g 5) (by omega)
theorem s_gateOf_6 {g : Nat} {Φ : Int32 → Mm → Prop} (hg : g < 8) : w_X10_gateOf (nI g) (6 : Int32) (rw1 ρ r) Φ = Φ (r (8 + 14 * g + 6)) (rw1 ρ r) := gateOf_g (ixG g 6) (by omega)
theorem s_putGate_6 {g : Nat} {v : Int32} {Φ : Unit → Mm → Prop} (hg : g < 8) : w_X10_putGate (nI g) (6 : Int32) v (rw1 ρ r) Φ = Φ () (rw1 ρ (upd r (8 + 14 * g + 6) v)) := putGate_g (ixG g 6) (by omega)
theorem s_gateOf_7 {g : Nat} {Φ : Int32 → Mm → Prop} (hg : g < 8) : w_X10_gateOf (nI g) (7 : Int32) (rw1 ρ r) Φ = Φ (r (8 + 14 * g + 7)) (rw1 ρ r) := gateOf_g (ixG g 7) (by omega)
theorem s_putGate_7 {g : Nat} {v : Int32} {Φ : Unit → Mm → Prop} (hg : g < 8) : w_X10_putGate (nI g) (7 : Int32) v (rw1 ρ r) Φ = Φ () (rw1 ρ (upd r (8 + 14 * g + 7) v)) := putGate_g (ixG g 7) (by omega)
theorem s_gateOf_8 {g : Nat} {Φ : Int32 → Mm → Prop} (hg : g < 8) : w_X10_gateOf (nI g) (8 : Int32) (rw1 ρ r) Φ = Φ (r (8 + 14 * g + 8)) (rw1 ρ r) := gateOf_g (ixG g 8) (by omega)
theorem s_putGate_8 {g : Nat} {v : Int32} {Φ : Unit → Mm → Prop} (hg : g < 8) : w_X10_putGate (nI g) (8 : Int32) v (rw1 ρ r) Φ = Φ () (rw1 ρ (upd r (8 + 14 * g + 8) v)) := putGate_g (ixG g 8) (by omega)
theorem s_gateOf_9 {g : Nat} {Φ : Int32 → Mm → Prop} (hg : g < 8) : w_X10_gateOf (nI g) (9 : Int32) (rw1 ρ r) Φ = Φ (r (8 + 14 * g + 9)) (rw1 ρ r) := gateOf_g (ixG g 9) (by omega)
theorem s_putGate_9 {g : Nat} {v : Int32} {Φ : Unit → Mm → Prop} (hg : g < 8) : w_X10_putGate (nI g) (9 : Int32) v (rw1 ρ r) Φ = Φ () (rw1 ρ (upd r (8 + 14 * g + 9) v)) := putGate_g (ixG g 9) (by omega)
theorem s_gateOf_10 {g : Nat} {Φ : Int32 → Mm → Prop} (hg : g < 8) : w_X10_gateOf (nI g) (10 : Int32) (rw1 ρ r) Φ = Φ (r (8 + 14 * g + 10)) (rw1 ρ r) := gateOf_g (ixG g 10) (by omega)
theorem s_putGate_10 {g : Nat} {v : Int32} {Φ : Unit → Mm → Prop} (hg : g < 8) : w_X10_putGate (nI g) (10 : Int32) v (rw1 ρ r) Φ = Φ () (rw1 ρ (upd r (8 + 14 * g + 10) v)) := putGate_g (ixG g 10) (by omega)
theorem s_gateOf_11 {g : Nat} {Φ : Int32 → Mm → Prop} (hg : g < 8) : w_X10_gateOf (nI g) (11 : Int32) (rw1 ρ r) Φ = Φ (r (8 + 14 * g + 11)) (rw1 ρ r) := gateOf_g (ixG g 11) (by omega)
theorem s_putGate_11 {g : Nat} {v : Int32} {Φ : Unit → Mm → Prop} (hg : g < 8) : w_X10_putGate (nI g) (11 : Int32) v (rw1 ρ r) Φ = Φ () (rw1 ρ (upd r (8 + 14 * g + 11) v)) := putGate_g (ixG g 11) (by omega)
theorem s_gateOf_12 {g : Nat} {Φ : Int32 → Mm → Prop} (hg : g < 8) : w_X10_gateOf (nI g) (12 : Int32) (rw1 ρ r) Φ = Φ (r (8 + 14 * g + 12)) (rw1 ρ r) := gateOf_g (ixG g 12) (by omega)
theorem s_putGate_12 {g : Nat} {v : Int32} {Φ : Unit → Mm → Prop} (hg : g < 8) : w_X10_putGate (nI g) (12 : Int32) v (rw1 ρ r) Φ = Φ () (rw1 ρ (upd r (8 + 14 * g + 12) v)) := putGate_g (ixG g 12) (by omega)
theorem s_gateOf_13 {g : Nat} {Φ : Int32 → Mm → Prop} (hg : g < 8) : w_X10_gateOf (nI g) (13 : Int32) (rw1 ρ r) Φ = Φ (r (8 + 14 * g + 13)) (rw1 ρ r) := gateOf_g (ixG g 13) (by omega)
theorem s_putGate_13 {g : Nat} {v : Int32} {Φ : Unit → Mm → Prop} (hg : g < 8) : w_X10_putGate (nI g) (13 : Int32) v (rw1 ρ r) Φ = Φ () (rw1 ρ (upd r (8 + 14 * g + 13) v)) := putGate_g (ixG g 13) (by omega)
theorem s_of_0 {p : Nat} {Φ : Int32 → Mm → Prop} (hp : p < 40) : w_X10_of (nI p) (0 : Int32) (rw1 ρ r) Φ = Φ (r (120 + 7 * p + 0)) (rw1 ρ r) := of_g (ixP p 0) (by omega)
theorem s_put_0 {p : Nat} {v : Int32} {Φ : Unit → Mm → Prop} (hp : p < 40) : w_X10_put (nI p) (0 : Int32) v (rw1 ρ r) Φ = Φ () (rw1 ρ (upd r (120 + 7 * p + 0) v)) := put_g (ixP p 0) (by omega)
theorem s_of_1 {p : Nat} {Φ : Int32 → Mm → Prop} (hp : p < 40) : w_X10_of (nI p) (1 : Int32) (rw1 ρ r) Φ = Φ (r (120 + 7 * p + 1)) (rw1 ρ r) := of_g (ixP p 1) (by omega)
theorem s_put_1 {p : Nat} {v : Int32} {Φ : Unit → Mm → Prop} (hp : p < 40) : w_X10_put (nI p) (1 : Int32) v (rw1 ρ r) Φ = Φ () (rw1 ρ (upd r (120 + 7 * p + 1) v)) := put_g (ixP p 1) (by omega)
theorem s_of_2 {p : Nat} {Φ : Int32 → Mm → Prop} (hp : p < 40) : w_X10_of (nI p) (2 : Int32) (rw1 ρ r) Φ = Φ (r (120 + 7 * p + 2)) (rw1 ρ r) := of_g (ixP p 2) (by omega)
theorem s_put_2 {p : Nat} {v : Int32} {Φ : Unit → Mm → Prop} (hp : p < 40) : w_X10_put (nI p) (2 : Int32) v (rw1 ρ r) Φ = Φ () (rw1 ρ (upd r (120 + 7 * p + 2) v)) := put_g (ixP p 2) (by omega)
theorem s_of_3 {p : Nat} {Φ : Int32 → Mm → Prop} (hp : p < 40) : w_X10_of (nI p) (3 : Int32) (rw1 ρ r) Φ = Φ (r (120 + 7 * p + 3)) (rw1 ρ r) := of_g (ixP p 3) (by omega)
theorem s_put_3 {p : Nat} {v : Int32} {Φ : Unit → Mm → Prop} (hp : p < 40) : w_X10_put (nI p) (3 : Int32) v (rw1 ρ r) Φ = Φ () (rw1 ρ (upd r (120 + 7 * p + 3) v)) := put_g (ixP p 3) (by omega)
theorem s_of_4 {p : Nat} {Φ : Int32 → Mm → Prop} (hp : p < 40) : w_X10_of (nI p) (4 : Int32) (rw1 ρ r) Φ = Φ (r (120 + 7 * p + 4)) (rw1 ρ r) := of_g (ixP p 4) (by omega)
theorem s_put_4 {p : Nat} {v : Int32} {Φ : Unit → Mm → Prop} (hp : p < 40) : w_X10_put (nI p) (4 : Int32) v (rw1 ρ r) Φ = Φ () (rw1 ρ (upd r (120 + 7 * p + 4) v)) := put_g (ixP p 4) (by omega)
theorem s_of_5 {p : Nat} {Φ : Int32 → Mm → Prop} (hp : p < 40) : w_X10_of (nI p) (5 : Int32) (rw1 ρ r) Φ = Φ (r (120 + 7 * p + 5)) (rw1 ρ r) := of_g (ixP p 5) (by omega)
theorem s_put_5 {p : Nat} {v : Int32} {Φ : Unit → Mm → Prop} (hp : p < 40) : w_X10_put (nI p) (5 : Int32) v (rw1 ρ r) Φ = Φ () (rw1 ρ (upd r (120 + 7 * p + 5) v)) := put_g (ixP p 5) (by omega)
theorem s_of_6 {p : Nat} {Φ : Int32 → Mm → Prop} (hp : p < 40) : w_X10_of (nI p) (6 : Int32) (rw1 ρ r) Φ = Φ (r (120 + 7 * p + 6)) (rw1 ρ r) := of_g (ixP p 6) (by omega)
theorem s_put_6 {p : Nat} {v : Int32} {Φ : Unit → Mm → Prop} (hp : p < 40) : w_X10_put (nI p) (6 : Int32) v (rw1 ρ r) Φ = Φ () (rw1 ρ (upd r (120 + 7 * p + 6) v)) := put_g (ixP p 6) (by omega)
theorem s_in {a b d : Int32} {u : Mm} {Φ : Int32 → Mm → Prop} : w_X10_in a b d u Φ = Φ (if a < b then 0 else if d < a then 0 else 1) u := by
  unfold w_X10_in
  split
  · rfl
  · split <;> rfl
theorem s_turn {g : Nat} {a b : Int32} {Φ : Unit → Mm → Prop} (hg : g < 8) : w_X10_turn (nI g) a b (rw1 ρ r) Φ = Φ () (rw1 ρ (upd (upd r (8 + 14 * g + 4) a) (8 + 14 * g + 5) b)) := by
  unfold w_X10_turn
  rw [s_putGate_4 hg, s_putGate_5 hg]
/-- a number that there is, or not -/
theorem nI_m1 {n : Nat} (h : 0 < n) : nI n - 1 = nI (n - 1) := by
  obtain ⟨m, rfl⟩ : ∃ m, n = m + 1 := ⟨n - 1, by omega⟩
  exact nI_pred m
theorem no_good {k n : Nat} (hk : k < n) (hn : n < 2147483648) : (if nI k < (0 : Int32) then (0 : Int32) else if nI n - 1 < nI k then 0 else 1) = 1 := by
  rw [if_neg (nI_pos (by omega)), nI_m1 (by omega), if_neg (nI_nlt (by omega) (by omega))]
theorem no_neg {a d : Int32} (h : a < 0) : (if a < (0 : Int32) then (0 : Int32) else if d < a then 0 else 1) = 0 := if_pos h
theorem no_big {a : Int32} {n : Nat} (h : nI n ≤ a) (hn : n < 2147483648) : (if a < (0 : Int32) then (0 : Int32) else if nI n - 1 < a then 0 else 1) = 0 := by
  by_cases h0 : a < 0
  · exact if_pos h0
  · rw [if_neg h0]
    obtain ⟨j, hj, rfl⟩ := nI_of h0
    have hnj : n ≤ j := (nI_leI (by omega) hj).mp h
    by_cases hz : n = 0
    · subst hz
      refine if_pos ?_
      have e : nI 0 - 1 = (-1 : Int32) := by decide
      rw [e]
      have : (-1 : Int32).toInt < (nI j).toInt := by rw [nI_toInt hj]; have : (-1 : Int32).toInt = -1 := by decide
                                                     omega
      exact Int32.lt_iff_toInt_lt.mpr this
    · rw [nI_m1 (by omega)]
      exact if_pos (nI_lt (by omega) hj)
theorem s_noGate_y {k n : Nat} {Φ : Int32 → Mm → Prop} (h : r 1 = nI n) (hk : k < n) (hn : n < 2147483648) : w_X10_noGate (nI k) (rw1 ρ r) Φ = Φ 0 (rw1 ρ r) := by
  unfold w_X10_noGate
  rw [s_in, rw1_1, show (1 : Int32).toNatClampNeg = 1 from rfl, h, no_good hk hn]
  rfl
theorem s_noGate_n {a : Int32} {n : Nat} {Φ : Int32 → Mm → Prop} (h : r 1 = nI n) (ha : a < 0 ∨ nI n ≤ a) (hn : n < 2147483648) : w_X10_noGate a (rw1 ρ r) Φ = Φ 1 (rw1 ρ r) := by
  unfold w_X10_noGate
  rw [s_in, rw1_1, show (1 : Int32).toNatClampNeg = 1 from rfl, h]
  rcases ha with ha | ha
  · rw [no_neg ha]; rfl
  · rw [no_big ha hn]; rfl
theorem s_noPerson_y {k n : Nat} {Φ : Int32 → Mm → Prop} (h : r 2 = nI n) (hk : k < n) (hn : n < 2147483648) : w_X10_noPerson (nI k) (rw1 ρ r) Φ = Φ 0 (rw1 ρ r) := by
  unfold w_X10_noPerson
  rw [s_in, rw1_1, show (2 : Int32).toNatClampNeg = 2 from rfl, h, no_good hk hn]
  rfl
theorem s_noPerson_n {a : Int32} {n : Nat} {Φ : Int32 → Mm → Prop} (h : r 2 = nI n) (ha : a < 0 ∨ nI n ≤ a) (hn : n < 2147483648) : w_X10_noPerson a (rw1 ρ r) Φ = Φ 1 (rw1 ρ r) := by
  unfold w_X10_noPerson
  rw [s_in, rw1_1, show (2 : Int32).toNatClampNeg = 2 from rfl, h]
  rcases ha with ha | ha
  · rw [no_neg ha]; rfl
  · rw [no_big ha hn]; rfl
theorem s_noPass_y {k n : Nat} {Φ : Int32 → Mm → Prop} (h : r 3 = nI n) (hk : k < n) (hn : n < 2147483648) : w_X10_noPass (nI k) (rw1 ρ r) Φ = Φ 0 (rw1 ρ r) := by
  unfold w_X10_noPass
  rw [s_in, rw1_1, show (3 : Int32).toNatClampNeg = 3 from rfl, h, no_good hk hn]
  rfl
theorem s_noPass_n {a : Int32} {n : Nat} {Φ : Int32 → Mm → Prop} (h : r 3 = nI n) (ha : a < 0 ∨ nI n ≤ a) (hn : n < 2147483648) : w_X10_noPass a (rw1 ρ r) Φ = Φ 1 (rw1 ρ r) := by
  unfold w_X10_noPass
  rw [s_in, rw1_1, show (3 : Int32).toNatClampNeg = 3 from rfl, h]
  rcases ha with ha | ha
  · rw [no_neg ha]; rfl
  · rw [no_big ha hn]; rfl
theorem s_noPool_y {k n : Nat} {Φ : Int32 → Mm → Prop} (h : r 4 = nI n) (hk : k < n) (hn : n < 2147483648) : w_X10_noPool (nI k) (rw1 ρ r) Φ = Φ 0 (rw1 ρ r) := by
  unfold w_X10_noPool
  rw [s_in, rw1_1, show (4 : Int32).toNatClampNeg = 4 from rfl, h, no_good hk hn]
  rfl
theorem s_noPool_n {a : Int32} {n : Nat} {Φ : Int32 → Mm → Prop} (h : r 4 = nI n) (ha : a < 0 ∨ nI n ≤ a) (hn : n < 2147483648) : w_X10_noPool a (rw1 ρ r) Φ = Φ 1 (rw1 ρ r) := by
  unfold w_X10_noPool
  rw [s_in, rw1_1, show (4 : Int32).toNatClampNeg = 4 from rfl, h]
  rcases ha with ha | ha
  · rw [no_neg ha]; rfl
  · rw [no_big ha hn]; rfl
/-! telling -/
def rTell (g p kd : Int32) (r : Nat → Int32) : Nat → Int32 := fun i => if i = 436 then r 0 else if i = 437 then g else if i = 438 then p else if i = 439 then kd else if 440 ≤ i ∧ i < 516 then r (i - 4) else if i = 5 then (if (20 : Int32) ≤ r 5 then r 5 + 0 else r 5 + 1) else r i
/-- the shift, as far as from place k on (k counted in the events' part) -/
def rSh (k : Nat) (r : Nat → Int32) : Nat → Int32 := fun i => if 436 + k ≤ i ∧ i < 516 then r (i - 4) else r i
theorem rSh_step (k : Nat) (hk : 4 ≤ k) (hk2 : k < 80) (r : Nat → Int32) : upd (rSh (k + 1) r) (436 + k) (rSh (k + 1) r (432 + k)) = rSh k r := by
  funext i
  unfold upd rSh
  by_cases h : i = 436 + k
  · subst h
    rw [if_pos rfl, if_neg (by omega), if_pos (by omega)]
    congr 1
    omega
  · rw [if_neg h]
    by_cases h2 : 436 + (k + 1) ≤ i ∧ i < 516
    · rw [if_pos h2, if_pos (by omega)]
    · rw [if_neg h2, if_neg (by omega)]
theorem rTell_fin (g p kd : Int32) (r : Nat → Int32) : upd (upd (upd (upd (upd (rSh 4 r) 436 (r 0)) 437 g) 438 p) 439 kd) 5 (if (20 : Int32) ≤ r 5 then r 5 + 0 else r 5 + 1) = rTell g p kd r := by
  funext i
  unfold upd rSh rTell
  by_cases h5 : i = 5
  · subst h5; simp
  · by_cases h0 : i = 436
    · subst h0; simp
    · by_cases h1 : i = 437
      · subst h1; simp
      · by_cases h2 : i = 438
        · subst h2; simp
        · by_cases h3 : i = 439
          · subst h3; simp
          · simp only [h5, h0, h1, h2, h3, if_false]
theorem tell_loop {g p kd : Int32} {Φ : Unit → Mm → Prop} : ∀ (j : Nat) (r0 : Nat → Int32), j ≤ 76 → (∃ n, w_X10_tell_4 Φ n g p kd (nI (j + 3)) (rw1 ρ (rSh (j + 4) r0))) = Φ () (rw1 ρ (rTell g p kd r0)) := by
  intro j
  induction j with
  | zero =>
    intro r0 _
    rw [ex_succ (fun h => h)]
    simp only [w_X10_tell_4, if_pos (show nI (0 + 3) < (4 : Int32) by decide), forall_eq, up2_rw1, rw1_1, exists_const]
    have e0 : rSh (0 + 4) r0 (0 : Int32).toNatClampNeg = r0 0 := by simp [rSh]
    rw [e0]
    have e5 : upd (upd (upd (upd (rSh (0 + 4) r0) (436 : Int32).toNatClampNeg (r0 0)) (437 : Int32).toNatClampNeg g) (438 : Int32).toNatClampNeg p) (439 : Int32).toNatClampNeg kd (5 : Int32).toNatClampNeg = r0 5 := by
      show upd (upd (upd (upd (rSh 4 r0) 436 (r0 0)) 437 g) 438 p) 439 kd 5 = r0 5
      simp [upd, rSh]
    rw [e5]
    have ef := rTell_fin g p kd r0
    by_cases h20 : (20 : Int32) ≤ r0 5
    · rw [if_pos h20]
      rw [if_pos h20] at ef
      rw [← ef]
      rfl
    · rw [if_neg h20]
      rw [if_neg h20] at ef
      rw [← ef]
      rfl
  | succ j ih =>
    intro r0 hj
    rw [ex_succ (fun h => h)]
    have hn : ¬ nI (j + 1 + 3) < (4 : Int32) := nI_nlt (b := 4) (by omega) (by omega)
    have e1 : (436 : Int32) + nI (j + 1 + 3) = nI (440 + j) := by
      rw [show (436 : Int32) = nI 436 from rfl, nI_add]; congr 1; omega
    have e2 : nI (440 + j) - (4 : Int32) = nI (436 + j) := by
      rw [show (4 : Int32) = nI 4 from rfl, pk_sub (by omega)]; congr 1; omega
    have e3 : nI (j + 1 + 3) + (-1) = nI (j + 3) := by
      rw [show j + 1 + 3 = (j + 3) + 1 by omega, pk_m1]
    simp only [w_X10_tell_4, if_neg hn, forall_eq, up2_rw1, rw1_1, e1, e2, e3, vin (show 440 + j < 516 by omega) (by decide), vin (show 436 + j < 516 by omega) (by decide), true_and, cl (show 440 + j < 2147483648 by omega), cl (show 436 + j < 2147483648 by omega)]
    have es := rSh_step (j + 4) (by omega) (by omega) r0
    rw [show 436 + (j + 4) = 440 + j by omega, show 432 + (j + 4) = 436 + j by omega, show j + 4 + 1 = j + 1 + 4 by omega] at es
    rw [es]
    exact ih r0 (by omega)
theorem rSh_80 (r : Nat → Int32) : rSh 80 r = r := by
  funext i
  unfold rSh
  rw [if_neg (by omega)]
theorem s_tell {g p kd : Int32} {Φ : Unit → Mm → Prop} : w_X10_tell g p kd (rw1 ρ r) Φ = Φ () (rw1 ρ (rTell g p kd r)) := by
  have h := tell_loop (ρ := ρ) (g := g) (p := p) (kd := kd) (Φ := Φ) 76 r (Nat.le_refl _)
  rw [show 76 + 4 = 80 from rfl, rSh_80] at h
  exact h
end REF
