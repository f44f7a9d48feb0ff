/-! one step of a gate -/
section STEP
variable {σ : Mm} {r : Nat → Int32} {T ng np nx nl g p : Nat}
theorem rTell_upd {g' p' k : Int32} {i : Nat} {v : Int32} (hi : 8 ≤ i) (hi2 : i < 400) : rTell g' p' k (upd r i v) = upd (rTell g' p' k r) i v := by
  funext j
  by_cases hj : j = i
  · subst hj
    rw [pk_us, rTell_o (by omega) (by omega), pk_us]
  · rw [pk_un hj]
    unfold rTell
    rw [pk_un hj, pk_un (show 0 ≠ i by omega), pk_un (show 5 ≠ i by omega)]
    by_cases h2 : 440 ≤ j ∧ j < 516
    · rw [if_pos h2, if_pos h2, pk_un (show j - 4 ≠ i by omega)]
    · rw [if_neg h2, if_neg h2]
/-- the reference lets through and then closes: as if it had closed first -/
theorem let_turn {ρ : Mm} {Φ : Unit → Mm → Prop} (hg : g < 8) (hp : p < 40) (h6 : r (8 + 14 * g + 6) = nI p) (h7 : r (8 + 14 * g + 7) = 1 ∨ r (8 + 14 * g + 7) = 0) : w_X10_letThrough (nI g) (rw1 ρ r) (fun _ u => w_X10_turn (nI g) 0 0 u (fun _ u2 => Φ () u2)) = w_X10_letThrough (nI g) (rw1 ρ (upd (upd r (8 + 14 * g + 4) 0) (8 + 14 * g + 5) 0)) Φ := by
  have e6 : upd (upd r (8 + 14 * g + 4) 0) (8 + 14 * g + 5) 0 (8 + 14 * g + 6) = nI p := by rw [pk_un (by omega), pk_un (by omega)]; exact h6
  have e7 : upd (upd r (8 + 14 * g + 4) 0) (8 + 14 * g + 5) 0 (8 + 14 * g + 7) = r (8 + 14 * g + 7) := by rw [pk_un (by omega), pk_un (by omega)]
  have key : ∀ (w0 k : Int32) (ct : Nat), (ct = 10 ∨ ct = 11) → upd (upd (rTell (nI g) (nI p) k (upd (upd (upd (upd r (120 + 7 * p + 0) w0) (120 + 7 * p + 3) (-5)) (8 + 14 * g + ct) (r (8 + 14 * g + ct) + 1)) (8 + 14 * g + 6) (-5))) (8 + 14 * g + 4) 0) (8 + 14 * g + 5) 0 = rTell (nI g) (nI p) k (upd (upd (upd (upd (upd (upd r (8 + 14 * g + 4) 0) (8 + 14 * g + 5) 0) (120 + 7 * p + 0) w0) (120 + 7 * p + 3) (-5)) (8 + 14 * g + ct) (r (8 + 14 * g + ct) + 1)) (8 + 14 * g + 6) (-5)) := by
    intro w0 k ct hct
    rw [← rTell_upd (by omega) (by omega), ← rTell_upd (by omega) (by omega)]
    congr 1
    rw [upd_comm (i := 8 + 14 * g + 6) (j := 8 + 14 * g + 4) (by omega), upd_comm (i := 8 + 14 * g + ct) (j := 8 + 14 * g + 4) (by omega), upd_comm (i := 120 + 7 * p + 3) (j := 8 + 14 * g + 4) (by omega), upd_comm (i := 120 + 7 * p + 0) (j := 8 + 14 * g + 4) (by omega)]
    rw [upd_comm (i := 8 + 14 * g + 6) (j := 8 + 14 * g + 5) (by omega), upd_comm (i := 8 + 14 * g + ct) (j := 8 + 14 * g + 5) (by omega), upd_comm (i := 120 + 7 * p + 3) (j := 8 + 14 * g + 5) (by omega), upd_comm (i := 120 + 7 * p + 0) (j := 8 + 14 * g + 5) (by omega)]
  unfold w_X10_letThrough
  rw [s_gateOf_6 hg, s_gateOf_7 hg, s_gateOf_6 hg, s_gateOf_7 hg, e6, e7, h6]
  rcases h7 with h7 | h7
  · rw [h7, if_pos rfl, if_pos rfl]
    unfold w_X10_letThrough_24
    rw [if_neg (by decide), if_neg (by decide)]
    unfold w_X10_letThrough_37
    rw [s_put_0 hp, s_put_0 hp, s_put_3 hp, s_put_3 hp, if_neg (by decide), if_neg (by decide)]
    unfold w_X10_letThrough_59
    rw [s_gateOf_10 hg, s_gateOf_10 hg, s_putGate_10 hg, s_putGate_10 hg, s_putGate_6 hg, s_putGate_6 hg, if_neg (by decide), if_neg (by decide), s_tell, s_tell]
    simp only [s_turn hg]
    rw [pk_un (show 8 + 14 * g + 10 ≠ 120 + 7 * p + 3 by omega), pk_un (show 8 + 14 * g + 10 ≠ 120 + 7 * p + 0 by omega), pk_un (show 8 + 14 * g + 10 ≠ 120 + 7 * p + 3 by omega), pk_un (show 8 + 14 * g + 10 ≠ 120 + 7 * p + 0 by omega), pk_un (show 8 + 14 * g + 10 ≠ 8 + 14 * g + 5 by omega), pk_un (show 8 + 14 * g + 10 ≠ 8 + 14 * g + 4 by omega), key 3 2 10 (Or.inl rfl)]
  · rw [h7, if_neg (by decide), if_neg (by decide)]
    unfold w_X10_letThrough_24
    rw [if_pos rfl, if_pos rfl]
    unfold w_X10_letThrough_37
    rw [s_put_0 hp, s_put_0 hp, s_put_3 hp, s_put_3 hp, if_pos rfl, if_pos rfl]
    unfold w_X10_letThrough_59
    rw [s_gateOf_11 hg, s_gateOf_11 hg, s_putGate_11 hg, s_putGate_11 hg, s_putGate_6 hg, s_putGate_6 hg, if_pos rfl, if_pos rfl, s_tell, s_tell]
    simp only [s_turn hg]
    rw [pk_un (show 8 + 14 * g + 11 ≠ 120 + 7 * p + 3 by omega), pk_un (show 8 + 14 * g + 11 ≠ 120 + 7 * p + 0 by omega), pk_un (show 8 + 14 * g + 11 ≠ 120 + 7 * p + 3 by omega), pk_un (show 8 + 14 * g + 11 ≠ 120 + 7 * p + 0 by omega), pk_un (show 8 + 14 * g + 11 ≠ 8 + 14 * g + 5 by omega), pk_un (show 8 + 14 * g + 11 ≠ 8 + 14 * g + 4 by omega), key 5 3 11 (Or.inr rfl)]
/-- what a step gives: v people passed -/
def Stepped (σ : Mm) (r : Nat → Int32) (T ng np nx nl g : Nat) (σ' : Mm) (r' : Nat → Int32) (v : Int32) : Prop := Rel σ' r' T ng np nx nl ∧ (∀ (S : Nat) (μ : Mm) (Φ : Int32 → Mm → Prop), Φ v (bl S σ' μ) → w_X8_stepGate S (nI g) (S + 10 + 5 * g) (bl S σ μ) Φ) ∧ (∀ (ρ : Mm) (Φ : Unit → Mm → Prop), Φ () (rw1 ρ r') → w_X10_step (nI g) (rw1 ρ r) Φ) ∧ r' (8 + 14 * g + 10) + r' (8 + 14 * g + 11) = r (8 + 14 * g + 10) + r (8 + 14 * g + 11) + v ∧ (∀ g', g' < 8 → g' ≠ g → r' (8 + 14 * g' + 10) = r (8 + 14 * g' + 10) ∧ r' (8 + 14 * g' + 11) = r (8 + 14 * g' + 11))
end STEP
