/-! a gate's step, as the row tells it -/
def nx45 (r : Nat → Int32) (a b : Int32) : Int32 := if 0 ≤ a then (if 0 ≤ b then (if r 0 - r (120 + 7 * a.toNatClampNeg + 5) ≤ r 0 - r (120 + 7 * b.toNatClampNeg + 5) then b else a) else a) else b
def nxA (r : Nat → Int32) (np g : Nat) (ea : Int32) : Int32 := fnd (fun p => qB r (nI g) ea p && decide (nI (cnt (aB r (nI g) ea p) np) = 0)) np 0
def nxt (r : Nat → Int32) (np g : Nat) : Int32 := nx45 r (if r (8 + 14 * g + 0) = 2 then -5 else nxA r np g 0) (if r (8 + 14 * g + 0) = 1 then -5 else nxA r np g 1)
theorem fnd_or {P : Nat → Bool} : ∀ {n s : Nat}, fnd P n s = -5 ∨ ∃ p, s ≤ p ∧ p < s + n ∧ P p = true ∧ fnd P n s = nI p
  | 0, s => Or.inl rfl
  | n + 1, s => by
    unfold fnd
    by_cases hs : P s = true
    · rw [if_pos hs]
      exact Or.inr ⟨s, Nat.le_refl _, by omega, hs, rfl⟩
    · rw [if_neg hs]
      rcases @fnd_or P n (s + 1) with h | ⟨p, h1, h2, h3, h4⟩
      · exact Or.inl h
      · exact Or.inr ⟨p, by omega, by omega, h3, h4⟩
section FSTEP
variable {r : Nat → Int32} {np g p : Nat} {ρ : Mm}
theorem nxA_or (ea : Int32) : nxA r np g ea = -5 ∨ ∃ p, p < np ∧ nxA r np g ea = nI p := by
  rcases @fnd_or (fun p => qB r (nI g) ea p && decide (nI (cnt (aB r (nI g) ea p) np) = 0)) np 0 with h | ⟨p, _, h2, _, h4⟩
  · exact Or.inl h
  · exact Or.inr ⟨p, by omega, h4⟩
theorem s_nx45 {a b : Int32} {Φ : Int32 → Mm → Prop} (ha : a = -5 ∨ ∃ p, p < 40 ∧ a = nI p) (hb : b = -5 ∨ ∃ p, p < 40 ∧ b = nI p) : w_X10_nextFor_45 Φ a b (rw1 ρ r) = Φ (nx45 r a b) (rw1 ρ r) := by
  unfold w_X10_nextFor_45 nx45
  have z5 : ¬ (0 : Int32) ≤ -5 := by decide
  rcases ha with rfl | ⟨p, hp, rfl⟩
  · rw [if_neg z5, if_neg z5]
  · rw [if_pos (nI_pos' (by omega)), if_pos (nI_pos' (by omega))]
    rcases hb with rfl | ⟨q, hq, rfl⟩
    · rw [if_neg z5, if_neg z5]
    · rw [if_pos (nI_pos' (by omega)), if_pos (nI_pos' (by omega))]
      unfold w_X10_waited
      rw [s_of_5 hp]
      simp only [s_of_5 hq, rw1_1, cl (show p < 2147483648 by omega), cl (show q < 2147483648 by omega), show (0 : Int32).toNatClampNeg = 0 from rfl]
      split <;> rfl
theorem s_nextFor {Φ : Int32 → Mm → Prop} (h2 : r 2 = nI np) (hn : np ≤ 40) (hg : g < 8) : w_X10_nextFor (nI g) (rw1 ρ r) Φ = Φ (nxt r np g) (rw1 ρ r) := by
  have o5 : ∀ x : Int32, x = -5 → (x = -5 ∨ ∃ p, p < 40 ∧ x = nI p) := fun x h => Or.inl h
  have oA : ∀ ea, (nxA r np g ea = -5 ∨ ∃ p, p < 40 ∧ nxA r np g ea = nI p) := fun ea => by
    rcases nxA_or (r := r) (np := np) (g := g) ea with h | ⟨p, h1, h2⟩
    · exact Or.inl h
    · exact Or.inr ⟨p, by omega, h2⟩
  have k22 : ∀ (x : Int32), (x = -5 ∨ ∃ p, p < 40 ∧ x = nI p) → w_X10_nextFor_22 Φ (nI g) x (rw1 ρ r) = Φ (nx45 r x (if r (8 + 14 * g + 0) = 1 then -5 else nxA r np g 1)) (rw1 ρ r) := fun x hx => by
    unfold w_X10_nextFor_22
    rw [s_gateOf_0 hg]
    by_cases h1 : r (8 + 14 * g + 0) = 1
    · rw [if_pos h1, if_pos h1, s_nx45 hx (o5 _ rfl)]
    · rw [if_neg h1, if_neg h1, s_queuedAt h2 hn]
      exact s_nx45 hx (oA 1)
  unfold w_X10_nextFor nxt
  rw [s_gateOf_0 hg]
  by_cases h2' : r (8 + 14 * g + 0) = 2
  · rw [if_pos h2', if_pos h2', k22 _ (o5 _ rfl)]
  · rw [if_neg h2', if_neg h2', s_queuedAt h2 hn]
    exact k22 _ (oA 0)
/-- why somebody is refused, with one pool -/
def whyR (r : Nat → Int32) (np p : Nat) : Int32 := if 0 ≤ r (120 + 7 * p + 1) then (if r (400 + 2 * (r (120 + 7 * p + 1)).toNatClampNeg + 1) = 1 then 2 else if fnd (uB r (r (120 + 7 * p + 1))) np 0 < 0 then (if nI (cnt (oB r 0) np) < r 425 then (if r 6 ≤ r 424 then 0 else 5) else 4) else 3) else 1
theorem s_refusal {Φ : Int32 → Mm → Prop} (h2 : r 2 = nI np) (hn : np ≤ 40) (hp : p < 40) (hv : ∀ p, p < np → r (120 + 7 * p + 1) < 0 ∨ ∃ y, y < 12 ∧ r (120 + 7 * p + 1) = nI y) (hx : r (120 + 7 * p + 1) = -5 ∨ ∃ x, x < 12 ∧ r (120 + 7 * p + 1) = nI x ∧ r (400 + 2 * x) = 0) : w_X10_refusal (nI p) (rw1 ρ r) Φ = Φ (whyR r np p) (rw1 ρ r) := by
  unfold w_X10_refusal whyR
  rw [s_of_1 hp]
  rcases hx with hx | ⟨x, hx, e, e0⟩
  · rw [hx, if_neg (by decide), if_neg (by decide)]
  · rw [e, if_pos (nI_pos' (by omega)), if_pos (nI_pos' (by omega)), cl (show x < 2147483648 by omega), ixX, show nI (400 + 2 * x) + (1 : Int32) = nI (400 + 2 * x + 1) from nI_1 _, vin (show 400 + 2 * x + 1 < 516 by omega) (by decide), true_and, rw1_1, cl (show 400 + 2 * x + 1 < 2147483648 by omega)]
    have e424 : (424 : Int32) + 3 * 0 = nI 424 := by decide
    have e425 : nI 424 + (1 : Int32) = nI 425 := by decide
    simp only [s_userOf h2 hn, vin (show 400 + 2 * x < 516 by omega) (show 516 < 2147483648 by decide), true_and, rw1_1, cl (show 400 + 2 * x < 2147483648 by omega), e0, s_insideBy h2 hn hv, e424, e425, vin (show 424 < 516 by decide) (show 516 < 2147483648 by decide), vin (show 425 < 516 by decide) (show 516 < 2147483648 by decide), cl (show 424 < 2147483648 by decide), cl (show 425 < 2147483648 by decide), show (6 : Int32).toNatClampNeg = 6 from rfl]
    by_cases hb : r (400 + 2 * x + 1) = 1
    · rw [if_pos hb, if_pos hb]
    · rw [if_neg hb, if_neg hb]
      by_cases hu : fnd (uB r (nI x)) np 0 < 0
      · rw [if_pos hu, if_pos hu]
        by_cases hi : nI (cnt (oB r 0) np) < r 425
        · rw [if_pos hi, if_pos hi]
          by_cases hc : r 6 ≤ r 424
          · rw [if_pos hc, if_pos hc]
          · rw [if_neg hc, if_neg hc]
        · rw [if_neg hi, if_neg hi]
      · rw [if_neg hu, if_neg hu]
def F_ref (g p : Nat) (v : Int32) (r : Nat → Int32) : Nat → Int32 := rTell (nI g) (nI p) 1 (upd (upd (upd (upd r (120 + 7 * p + 0) 0) (120 + 7 * p + 3) (-5)) (120 + 7 * p + 4) v) (8 + 14 * g + 12) (r (8 + 14 * g + 12) + 1))
def F_pay (g p : Nat) (r : Nat → Int32) : Nat → Int32 := rTell (nI g) (nI p) 0 (upd (upd r 424 (r 424 - r 6)) 426 (r 426 + r 6))
def F_go (g p : Nat) (b : Int32) (r : Nat → Int32) : Nat → Int32 := upd (upd (upd (upd (upd (upd r (120 + 7 * p + 0) 2) (8 + 14 * g + 6) (nI p)) (8 + 14 * g + 7) b) (8 + 14 * g + 8) 0) (8 + 14 * g + 4) 1) (8 + 14 * g + 5) (r (8 + 14 * g + 1))
def F_turn (g : Nat) (a b : Int32) (r : Nat → Int32) : Nat → Int32 := upd (upd r (8 + 14 * g + 4) a) (8 + 14 * g + 5) b
def F_let (g p : Nat) (b : Int32) (r : Nat → Int32) : Nat → Int32 := if b = 1 then rTell (nI g) (nI p) 2 (upd (upd (upd (upd r (120 + 7 * p + 0) 3) (120 + 7 * p + 3) (-5)) (8 + 14 * g + 10) (r (8 + 14 * g + 10) + 1)) (8 + 14 * g + 6) (-5)) else rTell (nI g) (nI p) 3 (upd (upd (upd (upd r (120 + 7 * p + 0) 5) (120 + 7 * p + 3) (-5)) (8 + 14 * g + 11) (r (8 + 14 * g + 11) + 1)) (8 + 14 * g + 6) (-5))
def F_pin (g p o : Nat) (r : Nat → Int32) : Nat → Int32 := rTell (nI g) (nI p) 4 (upd (upd (upd r (8 + 14 * g + 9) 0) (8 + 14 * g + 13) (r (8 + 14 * g + 13) + 1)) (8 + 14 * g + 8) (nI (o + 1)))
def F_brk (g : Nat) (r : Nat → Int32) : Nat → Int32 := rTell (nI g) (-5) 5 (upd (upd (upd r (8 + 14 * g + 4) 5) (8 + 14 * g + 5) 0) (8 + 14 * g + 9) 0)
def F_left (g : Nat) (r : Nat → Int32) : Nat → Int32 := upd r (8 + 14 * g + 5) (r (8 + 14 * g + 5) - 1)
theorem F_let_1 : F_let g p 1 r = rTell (nI g) (nI p) 2 (upd (upd (upd (upd r (120 + 7 * p + 0) 3) (120 + 7 * p + 3) (-5)) (8 + 14 * g + 10) (r (8 + 14 * g + 10) + 1)) (8 + 14 * g + 6) (-5)) := if_pos rfl
theorem F_let_0 : F_let g p 0 r = rTell (nI g) (nI p) 3 (upd (upd (upd (upd r (120 + 7 * p + 0) 5) (120 + 7 * p + 3) (-5)) (8 + 14 * g + 11) (r (8 + 14 * g + 11) + 1)) (8 + 14 * g + 6) (-5)) := if_neg (by decide)
theorem s_let {b : Int32} {Φ : Unit → Mm → Prop} (hg : g < 8) (hp : p < 40) (h6 : r (8 + 14 * g + 6) = nI p) (h7 : r (8 + 14 * g + 7) = b) (hb : b = 1 ∨ b = 0) : w_X10_letThrough (nI g) (rw1 ρ r) Φ = Φ () (rw1 ρ (F_let g p b r)) := by
  unfold w_X10_letThrough
  rw [s_gateOf_6 hg, s_gateOf_7 hg, h6, h7]
  rcases hb with rfl | rfl
  · rw [if_pos rfl]
    unfold w_X10_letThrough_24
    rw [if_neg (by decide)]
    unfold w_X10_letThrough_37
    rw [s_put_0 hp, s_put_3 hp, if_neg (by decide)]
    unfold w_X10_letThrough_59
    rw [s_gateOf_10 hg, s_putGate_10 hg, s_putGate_6 hg, if_neg (by decide), s_tell, pk_un (show 8 + 14 * g + 10 ≠ 120 + 7 * p + 3 by omega), pk_un (show 8 + 14 * g + 10 ≠ 120 + 7 * p + 0 by omega), F_let_1]
  · rw [if_neg (by decide)]
    unfold w_X10_letThrough_24
    rw [if_pos rfl]
    unfold w_X10_letThrough_37
    rw [s_put_0 hp, s_put_3 hp, if_pos rfl]
    unfold w_X10_letThrough_59
    rw [s_gateOf_11 hg, s_putGate_11 hg, s_putGate_6 hg, if_pos rfl, s_tell, pk_un (show 8 + 14 * g + 11 ≠ 120 + 7 * p + 3 by omega), pk_un (show 8 + 14 * g + 11 ≠ 120 + 7 * p + 0 by omega), F_let_0]
theorem s_go {b : Int32} {Φ : Unit → Mm → Prop} (hg : g < 8) (hp : p < 40) (hb : b = 1 ∨ b = 0) : w_X10_takeNext_166 Φ (nI g) (nI p) b (rw1 ρ r) = Φ () (rw1 ρ (F_go g p b r)) := by
  unfold w_X10_takeNext_166
  rw [s_put_0 hp, s_putGate_6 hg]
  have c1 : upd (upd (upd (upd r (120 + 7 * p + 0) 2) (8 + 14 * g + 6) (nI p)) (8 + 14 * g + 7) b) (8 + 14 * g + 8) 0 (8 + 14 * g + 1) = r (8 + 14 * g + 1) := by
    rw [pk_un (by omega), pk_un (by omega), pk_un (by omega), pk_un (by omega)]
  rcases hb with rfl | rfl
  · rw [if_neg (by decide)]
    unfold w_X10_takeNext_194
    rw [s_putGate_7 hg, s_putGate_8 hg, s_gateOf_1 hg, s_turn hg, c1]
    rfl
  · rw [if_pos rfl]
    unfold w_X10_takeNext_194
    rw [s_putGate_7 hg, s_putGate_8 hg, s_gateOf_1 hg, s_turn hg, c1]
    rfl
theorem s_pay {x : Nat} {Φ : Unit → Mm → Prop} (hp : p < 40) (hx : x < 12) (e1 : r (120 + 7 * p + 1) = nI x) (e0 : r (400 + 2 * x) = 0) : w_X10_takeNext_40 Φ (nI g) (nI p) 1 0 (rw1 ρ r) = w_X10_takeNext_166 Φ (nI g) (nI p) 1 (rw1 ρ (F_pay g p r)) := by
  unfold w_X10_takeNext_40
  have e424 : (424 : Int32) + 3 * 0 = nI 424 := by decide
  have e426 : nI 424 + (2 : Int32) = nI 426 := by decide
  rw [if_pos (by decide), if_neg (by decide), s_of_1 hp, e1, ixX, vin (show 400 + 2 * x < 516 by omega) (by decide), true_and, rw1_1, cl (show 400 + 2 * x < 2147483648 by omega), e0]
  simp only [e424, e426, vin (show 424 < 516 by decide) (show 516 < 2147483648 by decide), vin (show 426 < 516 by decide) (show 516 < 2147483648 by decide), cl (show 424 < 2147483648 by decide), cl (show 426 < 2147483648 by decide), true_and, forall_eq, up2_rw1, rw1_1, show (6 : Int32).toNatClampNeg = 6 from rfl, cl (show 400 + 2 * x < 2147483648 by omega), pk_un (show 400 + 2 * x ≠ 424 by omega), e0, pk_un (show (426 : Nat) ≠ 424 by decide), pk_un (show (6 : Nat) ≠ 424 by decide), s_tell]
  rfl
theorem s_ref {y : Nat} {Φ : Unit → Mm → Prop} (hg : g < 8) (hp : p < 40) (h0 : 0 < y) (hy : y < 100) : w_X10_takeNext_40 Φ (nI g) (nI p) 1 (nI y) (rw1 ρ r) = Φ () (rw1 ρ (F_ref g p (nI y) r)) := by
  unfold w_X10_takeNext_40
  rw [if_neg (nI_nle h0 (by omega)), s_put_0 hp, s_put_3 hp, s_put_4 hp, s_gateOf_12 hg, s_putGate_12 hg, s_tell, pk_un (by omega), pk_un (by omega), pk_un (by omega)]
  rfl
theorem s_pin {o : Nat} {Φ : Unit → Mm → Prop} (hg : g < 8) (h6 : r (8 + 14 * g + 6) = nI p) (h8 : r (8 + 14 * g + 8) = nI o) (ho : o ≤ 2) : w_X10_pinched (nI g) (rw1 ρ r) Φ = (if o = 2 then w_X10_goOut (nI g) (rw1 ρ (F_pin g p o r)) (fun _ u24 => Φ () u24) else Φ () (rw1 ρ (F_turn g 4 (r (8 + 14 * g + 3) - r (8 + 14 * g + 5)) (F_pin g p o r)))) := by
  unfold w_X10_pinched
  rw [s_putGate_9 hg, s_gateOf_13 hg, s_putGate_13 hg, s_gateOf_8 hg, s_putGate_8 hg, s_gateOf_6 hg, s_tell]
  have c13 : upd r (8 + 14 * g + 9) 0 (8 + 14 * g + 13) = r (8 + 14 * g + 13) := by rw [pk_un (by omega)]
  have c8 : upd (upd r (8 + 14 * g + 9) 0) (8 + 14 * g + 13) (r (8 + 14 * g + 13) + 1) (8 + 14 * g + 8) = nI o := by rw [pk_un (by omega), pk_un (by omega)]; exact h8
  rw [c13, c8, nI_1]
  have c6 : upd (upd (upd r (8 + 14 * g + 9) 0) (8 + 14 * g + 13) (r (8 + 14 * g + 13) + 1)) (8 + 14 * g + 8) (nI (o + 1)) (8 + 14 * g + 6) = nI p := by rw [pk_un (by omega), pk_un (by omega), pk_un (by omega)]; exact h6
  rw [c6, s_gateOf_8 hg]
  have x8 : rTell (nI g) (nI p) 4 (upd (upd (upd r (8 + 14 * g + 9) 0) (8 + 14 * g + 13) (r (8 + 14 * g + 13) + 1)) (8 + 14 * g + 8) (nI (o + 1))) (8 + 14 * g + 8) = nI (o + 1) := by rw [rTell_o (by omega) (by omega), pk_us]
  rw [x8]
  by_cases ho2 : o = 2
  · subst ho2
    rw [if_pos (by decide), if_pos rfl]
    rfl
  · have ne3 : nI (o + 1) ≠ 3 := fun e => by have := nI_inj (a := o + 1) (b := 3) (by omega) (by omega) e; omega
    rw [if_neg ne3, if_neg ho2, s_gateOf_3 hg, s_gateOf_5 hg, s_turn hg]
    have y3 : rTell (nI g) (nI p) 4 (upd (upd (upd r (8 + 14 * g + 9) 0) (8 + 14 * g + 13) (r (8 + 14 * g + 13) + 1)) (8 + 14 * g + 8) (nI (o + 1))) (8 + 14 * g + 3) = r (8 + 14 * g + 3) := by rw [rTell_o (by omega) (by omega), pk_un (by omega), pk_un (by omega), pk_un (by omega)]
    have y5 : rTell (nI g) (nI p) 4 (upd (upd (upd r (8 + 14 * g + 9) 0) (8 + 14 * g + 13) (r (8 + 14 * g + 13) + 1)) (8 + 14 * g + 8) (nI (o + 1))) (8 + 14 * g + 5) = r (8 + 14 * g + 5) := by rw [rTell_o (by omega) (by omega), pk_un (by omega), pk_un (by omega), pk_un (by omega)]
    rw [y3, y5]
    rfl
theorem s_brk {b : Int32} {Φ : Unit → Mm → Prop} (hg : g < 8) (hp : p < 40) (h6 : r (8 + 14 * g + 6) = nI p) (h7 : r (8 + 14 * g + 7) = b) (hb : b = 1 ∨ b = 0) : w_X10_goOut (nI g) (rw1 ρ r) Φ = Φ () (rw1 ρ (F_let g p b (F_brk g r))) := by
  unfold w_X10_goOut
  rw [s_putGate_4 hg, s_putGate_5 hg, s_putGate_9 hg, s_tell, s_gateOf_6 hg]
  have x6 : F_brk g r (8 + 14 * g + 6) = nI p := by unfold F_brk; rw [rTell_o (by omega) (by omega), pk_un (by omega), pk_un (by omega), pk_un (by omega)]; exact h6
  have x7 : F_brk g r (8 + 14 * g + 7) = b := by unfold F_brk; rw [rTell_o (by omega) (by omega), pk_un (by omega), pk_un (by omega), pk_un (by omega)]; exact h7
  show (if F_brk g r (8 + 14 * g + 6) < 0 then _ else w_X10_letThrough (nI g) (rw1 ρ (F_brk g r)) (fun _ u12 => Φ () u12)) = _
  rw [x6, if_neg (nI_pos (by omega)), s_let hg hp x6 x7 hb]
theorem s_brk0 {Φ : Unit → Mm → Prop} (hg : g < 8) (h6 : r (8 + 14 * g + 6) = -5) : w_X10_goOut (nI g) (rw1 ρ r) Φ = Φ () (rw1 ρ (F_brk g r)) := by
  unfold w_X10_goOut
  rw [s_putGate_4 hg, s_putGate_5 hg, s_putGate_9 hg, s_tell, s_gateOf_6 hg]
  have x6 : F_brk g r (8 + 14 * g + 6) = -5 := by unfold F_brk; rw [rTell_o (by omega) (by omega), pk_un (by omega), pk_un (by omega), pk_un (by omega)]; exact h6
  show (if F_brk g r (8 + 14 * g + 6) < 0 then Φ () (rw1 ρ (F_brk g r)) else _) = _
  rw [x6, if_pos (by decide)]
/-- who is in gate g, in the row -/
def InG (r : Nat → Int32) (np g p : Nat) (st o : Nat) (b : Int32) : Prop := p < np ∧ 1 ≤ st ∧ st ≤ 4 ∧ r (8 + 14 * g + 4) = nI st ∧ r (8 + 14 * g + 6) = nI p ∧ r (120 + 7 * p + 0) = 2 ∧ r (120 + 7 * p + 3) = nI g ∧ o ≤ 2 ∧ r (8 + 14 * g + 8) = nI o ∧ r (8 + 14 * g + 7) = b ∧ (b = 1 ∨ b = 0) ∧ isB (r (120 + 7 * p + 2)) ∧ isB (r (8 + 14 * g + 9))
/-- who waits first at gate g, in the row -/
def FirstG (r : Nat → Int32) (np g p e : Nat) : Prop := p < np ∧ nxt r np g = nI p ∧ r (120 + 7 * p + 3) = nI g ∧ e < 2 ∧ r (120 + 7 * p + 0) = nI (1 + 3 * e)
/-- what one step does: the nine cases, with how many people passed -/
def StepR (r : Nat → Int32) (np g : Nat) (r' : Nat → Int32) (v : Nat) : Prop :=
  (r (8 + 14 * g + 4) = 5 ∧ r' = r ∧ v = 0) ∨
  (r (8 + 14 * g + 4) = 0 ∧ nxt r np g = -5 ∧ r' = r ∧ v = 0) ∨
  (∃ p y, r (8 + 14 * g + 4) = 0 ∧ FirstG r np g p 0 ∧ 1 ≤ y ∧ y ≤ 5 ∧ whyR r np p = nI y ∧ r' = F_ref g p (nI y) r ∧ v = 0) ∨
  (∃ p x, r (8 + 14 * g + 4) = 0 ∧ FirstG r np g p 0 ∧ whyR r np p = 0 ∧ (x < 12 ∧ r (120 + 7 * p + 1) = nI x ∧ r (400 + 2 * x) = 0) ∧ r' = F_go g p 1 (F_pay g p r) ∧ v = 0) ∨
  (∃ p, r (8 + 14 * g + 4) = 0 ∧ FirstG r np g p 1 ∧ r' = F_go g p 0 r ∧ v = 0) ∨
  (∃ p st o b, InG r np g p st o b ∧ r (8 + 14 * g + 5) - 1 ≠ 0 ∧ (st ≠ 3 ∨ r (8 + 14 * g + 9) = 0) ∧ r' = F_left g r ∧ v = 0) ∨
  (∃ p st o b, InG r np g p st o b ∧ r (8 + 14 * g + 5) - 1 = 0 ∧ (st = 1 ∨ st = 4) ∧ r' = F_turn g 2 (r (8 + 14 * g + 2) + 2 * r (120 + 7 * p + 2)) (F_left g r) ∧ v = 0) ∨
  (∃ p o b, InG r np g p 2 o b ∧ r (8 + 14 * g + 5) - 1 = 0 ∧ r' = F_turn g 3 (r (8 + 14 * g + 3)) (F_left g r) ∧ v = 0) ∨
  (∃ p o b, InG r np g p 3 o b ∧ r (8 + 14 * g + 9) = 1 ∧ o < 2 ∧ r' = F_turn g 4 (r (8 + 14 * g + 3) - (r (8 + 14 * g + 5) - 1)) (F_pin g p o (F_left g r)) ∧ v = 0) ∨
  (∃ p b, InG r np g p 3 2 b ∧ r (8 + 14 * g + 9) = 1 ∧ r' = F_let g p b (F_brk g (F_pin g p 2 (F_left g r))) ∧ v = 1) ∨
  (∃ p o b, InG r np g p 3 o b ∧ r (8 + 14 * g + 9) = 0 ∧ r (8 + 14 * g + 5) - 1 = 0 ∧ r' = F_let g p b (F_turn g 0 0 (F_left g r)) ∧ v = 1)
end FSTEP
