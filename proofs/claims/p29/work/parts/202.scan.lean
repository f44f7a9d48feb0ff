/-! what the reference finds by looking through its people -/
def qB (r : Nat → Int32) (ga ea : Int32) (p : Nat) : Bool := decide (r (120 + 7 * p + 3) = ga) && decide (r (120 + 7 * p + 0) = if ea = 0 then 1 else 4)
def aB (r : Nat → Int32) (ga ea : Int32) (p q : Nat) : Bool := qB r ga ea q && decide (¬ r (120 + 7 * p + 6) ≤ r (120 + 7 * q + 6))
def iB (r : Nat → Int32) (p : Nat) : Bool := decide (¬ r (120 + 7 * p + 0) < 2) && decide (¬ 4 < r (120 + 7 * p + 0))
def uB (r : Nat → Int32) (x : Int32) (p : Nat) : Bool := decide (r (120 + 7 * p + 1) = x) && iB r p
def oB (r : Nat → Int32) (x : Int32) (p : Nat) : Bool := decide (¬ r (120 + 7 * p + 1) < 0) && (decide (r (400 + 2 * (r (120 + 7 * p + 1)).toNatClampNeg) = x) && iB r p)
theorem cnt_s (P : Nat → Bool) (i : Nat) : nI (cnt P (i + 1)) = if P i = true then nI (cnt P i) + 1 else nI (cnt P i) + 0 := by
  show nI (cnt P i + (if P i = true then 1 else 0)) = _
  by_cases h : P i = true
  · rw [if_pos h, if_pos h, nI_1]
  · rw [if_neg h, if_neg h, Nat.add_zero]
    exact (Int32.add_zero _).symm
section SCAN
variable {ρ : Mm} {r : Nat → Int32} {np : Nat}
theorem s_isQueued {p : Nat} {ga ea : Int32} {Φ : Int32 → Mm → Prop} (hp : p < 40) : w_X10_isQueued (nI p) ga ea (rw1 ρ r) Φ = Φ (if qB r ga ea p = true then 1 else 0) (rw1 ρ r) := by
  unfold w_X10_isQueued
  rw [s_of_3 hp]
  unfold qB
  by_cases h3 : r (120 + 7 * p + 3) = ga
  · rw [if_pos h3, s_of_0 hp]
    by_cases he : ea = 0
    · rw [if_pos he, if_pos he]
      by_cases h1 : r (120 + 7 * p + 0) = 1
      · rw [if_pos h1, decide_eq_true h3, decide_eq_true h1]; rfl
      · rw [if_neg h1, decide_eq_true h3, decide_eq_false h1]; rfl
    · rw [if_neg he, if_neg he]
      by_cases h1 : r (120 + 7 * p + 0) = 4
      · rw [if_pos h1, decide_eq_true h3, decide_eq_true h1]; rfl
      · rw [if_neg h1, decide_eq_true h3, decide_eq_false h1]; rfl
  · rw [if_neg h3]; simp [h3]
theorem b01 (b : Bool) : ((if b = true then (1 : Int32) else 0) = 0) = (b = false) := by cases b <;> simp
theorem qlen_loop {ga ea : Int32} {Φ : Int32 → Mm → Prop} (h2 : r 2 = nI np) (hn : np ≤ 40) : ∀ (k i : Nat), i + k = np → (∃ n, w_X10_queueLength_5 Φ n ga ea (nI (cnt (qB r ga ea) i)) (nI i) (rw1 ρ r)) = Φ (nI (cnt (qB r ga ea) np)) (rw1 ρ r) := by
  intro k
  induction k with
  | zero =>
    intro i hi
    rw [ex_succ (fun h => h)]
    have hin : i = np := by omega
    subst hin
    simp only [w_X10_queueLength_5, rw1_1, show (2 : Int32).toNatClampNeg = 2 from rfl, h2, if_pos (nI_le (Nat.le_refl i) (show i < 2 ^ 31 by omega)), exists_const]
  | succ k ih =>
    intro i hi
    rw [ex_succ (fun h => h)]
    simp only [w_X10_queueLength_5, rw1_1, show (2 : Int32).toNatClampNeg = 2 from rfl, h2, if_neg (nI_ge (show i < np by omega) (show np < 2 ^ 31 by omega)), s_isQueued (show i < 40 by omega), b01]
    have e := ih (i + 1) (by omega)
    rw [cnt_s, nI_succ] at e
    cases hb : qB r ga ea i with
    | true =>
      rw [hb] at e
      simp only [if_pos, reduceCtorEq, if_false, if_true] at e ⊢
      exact e
    | false =>
      rw [hb] at e
      simp only [reduceCtorEq, if_false, if_true] at e ⊢
      exact e
theorem s_queueLength {ga ea : Int32} {Φ : Int32 → Mm → Prop} (h2 : r 2 = nI np) (hn : np ≤ 40) : w_X10_queueLength ga ea (rw1 ρ r) Φ = Φ (nI (cnt (qB r ga ea) np)) (rw1 ρ r) := qlen_loop h2 hn np 0 (by omega)
theorem ahead_loop {ga ea pl : Int32} {p : Nat} {X : Int32 → Int32 → Int32 → Int32 → Mm → Prop} {Φ : Int32 → Mm → Prop} (h2 : r 2 = nI np) (hn : np ≤ 40) (hp : p < np) : ∀ (k i : Nat), i + k = np → (∃ n, w_X10_queuedAt_20 X Φ n ga ea pl (nI p) (nI (cnt (aB r ga ea p) i)) (nI i) (rw1 ρ r)) = (if qB r ga ea p = true ∧ nI (cnt (aB r ga ea p) np) = pl then Φ (nI p) (rw1 ρ r) else X ga ea pl (nI p + 1) (rw1 ρ r)) := by
  intro k
  induction k with
  | zero =>
    intro i hi
    rw [ex_succ (fun h => h)]
    have hin : i = np := by omega
    subst hin
    simp only [w_X10_queuedAt_20, rw1_1, show (2 : Int32).toNatClampNeg = 2 from rfl, h2, if_pos (nI_le (Nat.le_refl i) (show i < 2 ^ 31 by omega)), s_isQueued (show p < 40 by omega), b01, exists_const]
    cases hb : qB r ga ea p with
    | true => simp
    | false => simp
  | succ k ih =>
    intro i hi
    rw [ex_succ (fun h => h)]
    simp only [w_X10_queuedAt_20, rw1_1, show (2 : Int32).toNatClampNeg = 2 from rfl, h2, if_neg (nI_ge (show i < np by omega) (show np < 2 ^ 31 by omega)), s_isQueued (show i < 40 by omega), b01, s_of_6 (show i < 40 by omega), s_of_6 (show p < 40 by omega)]
    have e := ih (i + 1) (by omega)
    rw [cnt_s, nI_succ] at e
    cases hb : qB r ga ea i with
    | true =>
      have ha : aB r ga ea p i = decide (¬ r (120 + 7 * p + 6) ≤ r (120 + 7 * i + 6)) := by unfold aB; rw [hb]; simp
      rw [ha] at e
      by_cases hc : r (120 + 7 * p + 6) ≤ r (120 + 7 * i + 6)
      · simp only [hc, not_true_eq_false, decide_false, reduceCtorEq, if_false, if_true] at e ⊢
        exact e
      · simp only [hc, not_false_eq_true, decide_true, reduceCtorEq, if_false, if_true] at e ⊢
        exact e
    | false =>
      have ha : aB r ga ea p i = false := by unfold aB; rw [hb]; simp
      rw [ha] at e
      simp only [reduceCtorEq, if_false, if_true] at e ⊢
      exact e
theorem at_loop {ga ea pl : Int32} {Φ : Int32 → Mm → Prop} (h2 : r 2 = nI np) (hn : np ≤ 40) : ∀ (k p : Nat), p + k = np → (∃ n, w_X10_queuedAt_3 Φ n ga ea pl (nI p) (rw1 ρ r)) = Φ (fnd (fun p => qB r ga ea p && decide (nI (cnt (aB r ga ea p) np) = pl)) k p) (rw1 ρ r) := by
  intro k
  induction k with
  | zero =>
    intro i hi
    rw [ex_succ (fun h => h)]
    have hin : i = np := by omega
    subst hin
    simp only [w_X10_queuedAt_3, rw1_1, show (2 : Int32).toNatClampNeg = 2 from rfl, h2, if_pos (nI_le (Nat.le_refl i) (show i < 2 ^ 31 by omega)), exists_const]
    rfl
  | succ k ih =>
    intro i hi
    rw [ex_succ (fun h => h)]
    have ea0 : ∀ (X : Int32 → Int32 → Int32 → Int32 → Mm → Prop), (∃ n20, w_X10_queuedAt_20 X Φ n20 ga ea pl (nI i) 0 0 (rw1 ρ r)) = _ := fun X => ahead_loop (X := X) (pl := pl) (ga := ga) (ea := ea) (Φ := Φ) h2 hn (show i < np by omega) np 0 (by omega)
    simp only [w_X10_queuedAt_3, rw1_1, show (2 : Int32).toNatClampNeg = 2 from rfl, h2, if_neg (nI_ge (show i < np by omega) (show np < 2 ^ 31 by omega)), ea0]
    by_cases hc : qB r ga ea i = true ∧ nI (cnt (aB r ga ea i) np) = pl
    · simp only [if_pos hc, exists_const]
      unfold fnd
      rw [if_pos (by simp [hc.1, hc.2])]
    · simp only [if_neg hc]
      have e := ih (i + 1) (by omega)
      rw [nI_succ] at e
      rw [e]
      conv => rhs; unfold fnd
      rw [if_neg (by simpa using hc)]
theorem s_queuedAt {ga ea pl : Int32} {Φ : Int32 → Mm → Prop} (h2 : r 2 = nI np) (hn : np ≤ 40) : w_X10_queuedAt ga ea pl (rw1 ρ r) Φ = Φ (fnd (fun p => qB r ga ea p && decide (nI (cnt (aB r ga ea p) np) = pl)) np 0) (rw1 ρ r) := at_loop h2 hn np 0 (by omega)
theorem in_b {v : Int32} : ((if v < 2 then (0 : Int32) else if 4 < v then 0 else 1) = 0) = ((decide (¬ v < 2) && decide (¬ 4 < v)) = false) := by
  by_cases h1 : v < 2
  · simp [h1]
  · by_cases h2 : 4 < v
    · simp [h1, h2]
    · simp [h1, h2]
theorem user_loop {x : Int32} {Φ : Int32 → Mm → Prop} (h2 : r 2 = nI np) (hn : np ≤ 40) : ∀ (k p : Nat), p + k = np → (∃ n, w_X10_userOf_2 Φ n x (nI p) (rw1 ρ r)) = Φ (fnd (uB r x) k p) (rw1 ρ r) := by
  intro k
  induction k with
  | zero =>
    intro i hi
    rw [ex_succ (fun h => h)]
    have hin : i = np := by omega
    subst hin
    simp only [w_X10_userOf_2, rw1_1, show (2 : Int32).toNatClampNeg = 2 from rfl, h2, if_pos (nI_le (Nat.le_refl i) (show i < 2 ^ 31 by omega)), exists_const]
    rfl
  | succ k ih =>
    intro i hi
    rw [ex_succ (fun h => h)]
    have e := ih (i + 1) (by omega)
    rw [nI_succ] at e
    simp only [w_X10_userOf_2, rw1_1, show (2 : Int32).toNatClampNeg = 2 from rfl, h2, if_neg (nI_ge (show i < np by omega) (show np < 2 ^ 31 by omega)), s_of_1 (show i < 40 by omega), s_of_0 (show i < 40 by omega), s_in, in_b]
    conv => rhs; unfold fnd
    by_cases h1 : r (120 + 7 * i + 1) = x
    · simp only [if_pos h1]
      have hu : uB r x i = (decide (¬ r (120 + 7 * i + 0) < 2) && decide (¬ 4 < r (120 + 7 * i + 0))) := by
        unfold uB iB
        rw [decide_eq_true h1]
        rfl
      rw [hu]
      cases hb : (decide (¬ r (120 + 7 * i + 0) < 2) && decide (¬ 4 < r (120 + 7 * i + 0))) with
      | true => simp
      | false =>
        simp only [reduceCtorEq, if_false, if_true]
        exact e
    · simp only [if_neg h1]
      have hu : uB r x i = false := by
        unfold uB
        rw [decide_eq_false h1]
        rfl
      rw [hu]
      simp only [reduceCtorEq, if_false]
      exact e
theorem s_userOf {x : Int32} {Φ : Int32 → Mm → Prop} (h2 : r 2 = nI np) (hn : np ≤ 40) : w_X10_userOf x (rw1 ρ r) Φ = Φ (fnd (uB r x) np 0) (rw1 ρ r) := user_loop h2 hn np 0 (by omega)
theorem s_isOfPool {x : Int32} {p : Nat} {Φ : Int32 → Mm → Prop} (hp : p < 40) (hv : r (120 + 7 * p + 1) < 0 ∨ ∃ y, y < 12 ∧ r (120 + 7 * p + 1) = nI y) : w_X10_isOfPool (nI p) x (rw1 ρ r) Φ = Φ (if oB r x p = true then 1 else 0) (rw1 ρ r) := by
  unfold w_X10_isOfPool
  rw [s_of_1 hp]
  unfold oB
  rcases hv with hv | ⟨y, hy, hv⟩
  · rw [if_pos hv]; simp [hv]
  · rw [hv, if_neg (nI_pos (by omega)), ixX, vin (show 400 + 2 * y < 516 by omega) (by decide), true_and, cl (show 400 + 2 * y < 2147483648 by omega), cl (show y < 2147483648 by omega), rw1_1]
    have hny : ¬ nI y < 0 := nI_pos (by omega)
    by_cases h1 : r (400 + 2 * y) = x
    · rw [if_pos h1, s_of_0 hp, s_in]
      unfold iB
      simp only [in_b]
      cases hb : (decide (¬ r (120 + 7 * p + 0) < 2) && decide (¬ 4 < r (120 + 7 * p + 0))) with
      | true => simp [h1, hny]
      | false => simp [h1, hny]
    · rw [if_neg h1]; simp [h1]
theorem inside_loop {x : Int32} {Φ : Int32 → Mm → Prop} (h2 : r 2 = nI np) (hn : np ≤ 40) (hv : ∀ p, p < np → r (120 + 7 * p + 1) < 0 ∨ ∃ y, y < 12 ∧ r (120 + 7 * p + 1) = nI y) : ∀ (k i : Nat), i + k = np → (∃ n, w_X10_insideBy_4 Φ n x (nI (cnt (oB r x) i)) (nI i) (rw1 ρ r)) = Φ (nI (cnt (oB r x) np)) (rw1 ρ r) := by
  intro k
  induction k with
  | zero =>
    intro i hi
    rw [ex_succ (fun h => h)]
    have hin : i = np := by omega
    subst hin
    simp only [w_X10_insideBy_4, rw1_1, show (2 : Int32).toNatClampNeg = 2 from rfl, h2, if_pos (nI_le (Nat.le_refl i) (show i < 2 ^ 31 by omega)), exists_const]
  | succ k ih =>
    intro i hi
    rw [ex_succ (fun h => h)]
    simp only [w_X10_insideBy_4, rw1_1, show (2 : Int32).toNatClampNeg = 2 from rfl, h2, if_neg (nI_ge (show i < np by omega) (show np < 2 ^ 31 by omega)), s_isOfPool (show i < 40 by omega) (hv i (by omega)), b01]
    have e := ih (i + 1) (by omega)
    rw [cnt_s, nI_succ] at e
    cases hb : oB r x i with
    | true =>
      rw [hb] at e
      simp only [reduceCtorEq, if_false, if_true] at e ⊢
      exact e
    | false =>
      rw [hb] at e
      simp only [reduceCtorEq, if_false, if_true] at e ⊢
      exact e
theorem s_insideBy {x : Int32} {Φ : Int32 → Mm → Prop} (h2 : r 2 = nI np) (hn : np ≤ 40) (hv : ∀ p, p < np → r (120 + 7 * p + 1) < 0 ∨ ∃ y, y < 12 ∧ r (120 + 7 * p + 1) = nI y) : w_X10_insideBy x (rw1 ρ r) Φ = Φ (nI (cnt (oB r x) np)) (rw1 ρ r) := inside_loop h2 hn hv np 0 (by omega)
end SCAN
