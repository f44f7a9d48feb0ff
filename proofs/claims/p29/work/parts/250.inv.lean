/-! what always holds of the row -/
def PersonOk (r : Nat → Int32) (ng p : Nat) : Prop := ∃ w, w ≤ 5 ∧ r (120 + 7 * p + 0) = nI w ∧ (w = 0 → ∃ y, 1 ≤ y ∧ y ≤ 5 ∧ r (120 + 7 * p + 4) = nI y) ∧ (w ≠ 0 → r (120 + 7 * p + 4) = 0) ∧ ((w = 0 ∨ w = 3 ∨ w = 5) → r (120 + 7 * p + 3) = -5) ∧ (w = 2 → ∃ g, g < ng ∧ r (120 + 7 * p + 3) = nI g ∧ r (8 + 14 * g + 6) = nI p) ∧ ((w = 2 ∨ w = 3 ∨ w = 4) → ∃ x, x < 12 ∧ r (120 + 7 * p + 1) = nI x ∧ r (400 + 2 * x) = 0)
def GateOk (r : Nat → Int32) (g : Nat) : Prop := ∃ st lf op ho cl, st ≤ 5 ∧ r (8 + 14 * g + 4) = nI st ∧ r (8 + 14 * g + 5) = nI lf ∧ (r (8 + 14 * g + 1) = nI op ∧ 1 ≤ op ∧ op ≤ 10) ∧ (r (8 + 14 * g + 2) = nI ho ∧ 1 ≤ ho ∧ ho ≤ 20) ∧ (r (8 + 14 * g + 3) = nI cl ∧ 1 ≤ cl ∧ cl ≤ 10) ∧ ((st = 0 ∨ st = 5) → lf = 0 ∧ r (8 + 14 * g + 6) = -5) ∧ ((st ≠ 0 ∧ st ≠ 5) → 1 ≤ lf ∧ lf ≤ 22) ∧ (st = 3 → lf ≤ cl) ∧ (st = 5 → r (8 + 14 * g + 9) = 0)
def sumR (r : Nat → Int32) : Nat → Int32
  | 0 => 0
  | n + 1 => sumR r n + r (8 + 14 * n + 12)
def w0B (r : Nat → Int32) (p : Nat) : Bool := decide (r (120 + 7 * p + 0) = 0)
def PoolOk (B : Nat) (r : Nat → Int32) (np : Nat) : Prop := ∃ c lim, (c ≤ 1000000 ∧ c ≤ B) ∧ r 424 = nI c ∧ 1 ≤ lim ∧ lim ≤ 40 ∧ r 425 = nI lim ∧ cnt (iB r) np ≤ lim
def FareOk (r : Nat → Int32) : Prop := ∃ f, f ≤ 1000 ∧ r 6 = nI f
def J (B : Nat) (r : Nat → Int32) (ng np : Nat) : Prop := (∀ p, p < np → PersonOk r ng p) ∧ (∀ g, g < ng → GateOk r g) ∧ sumR r ng = nI (cnt (w0B r) np) ∧ PoolOk B r np ∧ FareOk r
theorem sumR_same {r r' : Nat → Int32} : ∀ {n : Nat}, (∀ g, g < n → r' (8 + 14 * g + 12) = r (8 + 14 * g + 12)) → sumR r' n = sumR r n
  | 0, _ => rfl
  | n + 1, h => by
    unfold sumR
    rw [sumR_same (fun g hg => h g (by omega)), h n (by omega)]
theorem sumR_step {r r' : Nat → Int32} {v : Int32} {g : Nat} : ∀ {n : Nat}, g < n → r' (8 + 14 * g + 12) = r (8 + 14 * g + 12) + v → (∀ g', g' < n → g' ≠ g → r' (8 + 14 * g' + 12) = r (8 + 14 * g' + 12)) → sumR r' n = sumR r n + v
  | 0, hg, _, _ => absurd hg (Nat.not_lt_zero _)
  | n + 1, hg, h1, h2 => by
    unfold sumR
    by_cases e : g = n
    · subst e
      rw [sumR_same (fun g' hg' => h2 g' (by omega) (by omega)), h1]
      exact (Int32.add_assoc _ _ _).symm
    · rw [sumR_step (by omega) h1 (fun g' hg' hne => h2 g' (by omega) hne), h2 n (by omega) (fun q => e q.symm), Int32.add_assoc, Int32.add_comm v, ← Int32.add_assoc]
section INV
variable {B : Nat} {r r' : Nat → Int32} {ng np g p v : Nat}
theorem PersonOk.keep (h : PersonOk r ng p) (e0 : r' (120 + 7 * p + 0) = r (120 + 7 * p + 0)) (e1 : r' (120 + 7 * p + 1) = r (120 + 7 * p + 1)) (e3 : r' (120 + 7 * p + 3) = r (120 + 7 * p + 3)) (e4 : r' (120 + 7 * p + 4) = r (120 + 7 * p + 4)) (ex : ∀ x, x < 12 → r' (400 + 2 * x) = r (400 + 2 * x)) (eg : r (120 + 7 * p + 0) = 2 → ∀ g, g < ng → r (120 + 7 * p + 3) = nI g → r (8 + 14 * g + 6) = nI p → r' (8 + 14 * g + 6) = nI p) : PersonOk r' ng p := by
  obtain ⟨w, h1, h2, h3, h4, h5, h6, h7⟩ := h
  refine ⟨w, h1, e0.trans h2, fun a => ?_, fun a => e4.trans (h4 a), fun a => e3.trans (h5 a), fun a => ?_, fun a => ?_⟩
  · obtain ⟨y, y1, y2, y3⟩ := h3 a
    exact ⟨y, y1, y2, e4.trans y3⟩
  · obtain ⟨g, g1, g2, g3⟩ := h6 a
    exact ⟨g, g1, e3.trans g2, eg (by rw [h2, a]; rfl) g g1 g2 g3⟩
  · obtain ⟨x, x1, x2, x3⟩ := h7 a
    exact ⟨x, x1, e1.trans x2, (ex x x1).trans x3⟩
theorem GateOk.keep (h : GateOk r g) (e : ∀ f, 1 ≤ f → f ≤ 9 → r' (8 + 14 * g + f) = r (8 + 14 * g + f)) : GateOk r' g := by
  unfold GateOk
  rw [e 4 (by decide) (by decide), e 5 (by decide) (by decide), e 1 (by decide) (by decide), e 2 (by decide) (by decide), e 3 (by decide) (by decide), e 6 (by decide) (by decide), e 9 (by decide) (by decide)]
  exact h
theorem cnt_p0 {P Q : Nat → Bool} {n p : Nat} (h : ∀ i, i < n → i ≠ p → Q i = P i) (hp : Q p = P p) : cnt Q n = cnt P n := cnt_congr (fun i hi => by
  by_cases e : i = p
  · rw [e]; exact hp
  · exact h i hi e)
theorem cnt_le1 {P Q : Nat → Bool} {n p : Nat} (hp : p < n) (h : ∀ i, i < n → i ≠ p → Q i = P i) (hq : Q p = false) : cnt Q n ≤ cnt P n := by
  cases hb : P p with
  | false => exact Nat.le_of_eq (cnt_p0 h (hq.trans hb.symm))
  | true =>
    have := cnt_add (P := Q) (Q := P) hp (fun i hi hne => (h i hi hne).symm) hq hb
    omega
theorem iB_keep {q : Nat} (e : r' (120 + 7 * q + 0) = r (120 + 7 * q + 0)) : iB r' q = iB r q := by unfold iB; rw [e]
theorem iB_of {q w : Nat} (hw : w ≤ 5) (e : r (120 + 7 * q + 0) = nI w) : iB r q = decide (w = 2 ∨ w = 3 ∨ w = 4) := by
  unfold iB
  rw [e]
  rcases (show w = 0 ∨ w = 1 ∨ w = 2 ∨ w = 3 ∨ w = 4 ∨ w = 5 by omega) with rfl | rfl | rfl | rfl | rfl | rfl <;> decide
/-- one person and one gate change -/
theorem J_upd (hJ : J B r ng np) (h8 : ng ≤ 8) (h40 : np ≤ 40) (hg : g < ng) (hp : p < np) (fr : ∀ i, (i = 6 ∨ 8 ≤ i) → i < 436 → ¬ (120 + 7 * p ≤ i ∧ i < 127 + 7 * p) → ¬ (8 + 14 * g ≤ i ∧ i < 22 + 14 * g) → i ≠ 424 → i ≠ 426 → r' i = r i) (hP : PersonOk r' ng p) (hG : GateOk r' g) (hwho : r (8 + 14 * g + 6) = -5 ∨ r (8 + 14 * g + 6) = nI p) (hs : (r' (8 + 14 * g + 12) = r (8 + 14 * g + 12) ∧ w0B r' p = w0B r p) ∨ (r' (8 + 14 * g + 12) = r (8 + 14 * g + 12) + 1 ∧ w0B r p = false ∧ w0B r' p = true)) (hc : ∃ c, (c ≤ 1000000 ∧ c ≤ B) ∧ r' 424 = nI c) (hi : iB r' p = iB r p ∨ iB r' p = false ∨ (iB r p = false ∧ nI (cnt (iB r) np) < r 425)) : J B r' ng np := by
  obtain ⟨j1, j2, j3, ⟨c, lim, l1, l2, l3, l4, l5, l6⟩, j5⟩ := hJ
  have o0 : ∀ q, q < np → q ≠ p → ∀ f, f < 7 → r' (120 + 7 * q + f) = r (120 + 7 * q + f) := fun q hq hne f hf => fr _ (by omega) (by omega) (by omega) (by omega) (by omega) (by omega)
  refine ⟨fun q hq => ?_, fun g' hg' => ?_, ?_, ?_, ?_⟩
  · by_cases hqp : q = p
    · rw [hqp]; exact hP
    · refine (j1 q hq).keep (o0 q hq hqp 0 (by decide)) (o0 q hq hqp 1 (by decide)) (o0 q hq hqp 3 (by decide)) (o0 q hq hqp 4 (by decide)) (fun x hx => fr _ (by omega) (by omega) (by omega) (by omega) (by omega) (by omega)) (fun _ g' hg' _ h6 => ?_)
      by_cases hgg : g' = g
      · rw [hgg] at h6
        rcases hwho with e | e
        · exact absurd (h6.symm.trans e) (nI_n5 (by omega))
        · exact absurd (nI_inj (by omega) (by omega) (h6.symm.trans e)) hqp
      · rw [fr _ (by omega) (by omega) (by omega) (by omega) (by omega) (by omega)]; exact h6
  · by_cases hgg : g' = g
    · rw [hgg]; exact hG
    · exact (j2 g' hg').keep (fun f f1 f2 => fr _ (by omega) (by omega) (by omega) (by omega) (by omega) (by omega))
  · have k0 : ∀ q, q < np → q ≠ p → w0B r' q = w0B r q := fun q hq hne => by unfold w0B; rw [o0 q hq hne 0 (by decide)]
    have kg : ∀ g', g' < ng → g' ≠ g → r' (8 + 14 * g' + 12) = r (8 + 14 * g' + 12) := fun g' hg' hne => fr _ (by omega) (by omega) (by omega) (by omega) (by omega) (by omega)
    rcases hs with ⟨e, ew⟩ | ⟨e, ew, ew'⟩
    · rw [cnt_p0 k0 ew, ← j3]
      exact sumR_same (fun g' hg' => by
        by_cases hgg : g' = g
        · rw [hgg]; exact e
        · exact kg g' hg' hgg)
    · rw [cnt_add hp k0 ew ew', sumR_step hg e kg, j3, nI_1]
  · obtain ⟨c', c1, c2⟩ := hc
    refine ⟨c', lim, c1, c2, l3, l4, by rw [fr 425 (by omega) (by omega) (by omega) (by omega) (by omega) (by omega)]; exact l5, ?_⟩
    have ki : ∀ q, q < np → q ≠ p → iB r' q = iB r q := fun q hq hne => iB_keep (o0 q hq hne 0 (by decide))
    rcases hi with e | e | ⟨e, lt⟩
    · rw [cnt_p0 ki e]; exact l6
    · exact Nat.le_trans (cnt_le1 hp ki e) l6
    · rw [l5] at lt
      have hlt : cnt (iB r) np < lim := by
        rcases Nat.lt_or_ge (cnt (iB r) np) lim with z | z
        · exact z
        · have := cnt_le (P := iB r) (n := np)
          exact absurd lt (nI_nlt z (by omega))
      cases hb : iB r' p with
      | false => rw [cnt_p0 ki (hb.trans e.symm)]; exact l6
      | true => rw [cnt_add hp ki e hb]; omega
  · obtain ⟨f, f1, f2⟩ := j5
    exact ⟨f, f1, by rw [fr 6 (by omega) (by omega) (by omega) (by omega) (by omega) (by omega)]; exact f2⟩
theorem w0B_ne {w : Nat} (hw : w ≤ 5) (h0 : w ≠ 0) (e : r (120 + 7 * p + 0) = nI w) : w0B r p = false := by
  unfold w0B
  rw [e]
  exact decide_eq_false (nI_ne0 (by omega) (by omega))
theorem oB_iB (hJ : J B r ng np) : cnt (oB r 0) np = cnt (iB r) np := by
  refine cnt_congr (fun q hq => ?_)
  obtain ⟨w, h1, h2, -, -, -, -, h7⟩ := hJ.1 q hq
  unfold oB
  cases hb : iB r q with
  | false => simp
  | true =>
    rw [iB_of h1 h2] at hb
    obtain ⟨x, x1, x2, x3⟩ := h7 (of_decide_eq_true hb)
    rw [x2, cl (show x < 2147483648 by omega), x3, decide_eq_true (nI_pos (by omega))]
    rfl
theorem nI_two : nI 2 = 2 := rfl
theorem nI_sub1 {n : Nat} (h : 1 ≤ n) : nI n - 1 = nI (n - 1) := by
  obtain ⟨m, rfl⟩ : ∃ m, n = m + 1 := ⟨n - 1, by omega⟩
  exact nI_pred m
theorem nI_dbl {x : Int32} (h : isB x) {n : Nat} : ∃ m, m ≤ 2 ∧ nI n + 2 * x = nI (n + m) := by
  rcases h with rfl | rfl
  · exact ⟨0, by omega, by rw [show (2 : Int32) * 0 = nI 0 from rfl, nI_add]⟩
  · exact ⟨2, by omega, by rw [show (2 : Int32) * 1 = nI 2 from rfl, nI_add]⟩
end INV
