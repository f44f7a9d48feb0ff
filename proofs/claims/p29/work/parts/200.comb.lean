/-! counting and finding -/
theorem ex_succ {p : Nat → Prop} (h0 : ¬ p 0) : (∃ n, p n) = ∃ n, p (n + 1) := propext ⟨fun ⟨n, h⟩ => by
  cases n with
  | zero => exact absurd h h0
  | succ n => exact ⟨n, h⟩, fun ⟨n, h⟩ => ⟨n + 1, h⟩⟩
def cnt (P : Nat → Bool) : Nat → Nat
  | 0 => 0
  | n + 1 => cnt P n + (if P n = true then 1 else 0)
theorem cnt_congr {P Q : Nat → Bool} : ∀ {n : Nat}, (∀ i, i < n → P i = Q i) → cnt P n = cnt Q n
  | 0, _ => rfl
  | n + 1, h => by
    unfold cnt
    rw [cnt_congr (fun i hi => h i (by omega)), h n (by omega)]
theorem cnt_le {P : Nat → Bool} : ∀ {n : Nat}, cnt P n ≤ n
  | 0 => Nat.le_refl _
  | n + 1 => by
    unfold cnt
    have := @cnt_le P n
    split <;> omega
theorem cnt_zero {P : Nat → Bool} : ∀ {n : Nat}, (∀ i, i < n → P i = false) → cnt P n = 0
  | 0, _ => rfl
  | n + 1, h => by
    unfold cnt
    rw [cnt_zero (fun i hi => h i (by omega)), h n (by omega)]
    rfl
theorem cnt_add {P Q : Nat → Bool} {p : Nat} : ∀ {n : Nat}, p < n → (∀ i, i < n → i ≠ p → Q i = P i) → P p = false → Q p = true → cnt Q n = cnt P n + 1
  | 0, hp, _, _, _ => absurd hp (Nat.not_lt_zero _)
  | n + 1, hp, h, h0, h1 => by
    unfold cnt
    by_cases hn : p = n
    · subst hn
      rw [cnt_congr (P := Q) (Q := P) (fun i hi => h i (by omega) (by omega)), h0, h1]
      simp
    · rw [cnt_add (by omega) (fun i hi hne => h i (by omega) hne) h0 h1, h n (by omega) (fun e => hn e.symm)]
      omega
theorem cnt_enum {n : Nat} (a : Nat → Nat) : ∀ (k : Nat) (P : Nat → Bool), (∀ i, i < k → a i < n ∧ P (a i) = true) → (∀ i, i < k → ∀ j, j < k → a i = a j → i = j) → (∀ p, p < n → P p = true → ∃ i, i < k ∧ a i = p) → cnt P n = k
  | 0, P, _, _, h3 => cnt_zero (fun i hi => by
      cases hP : P i with
      | false => rfl
      | true => obtain ⟨j, hj, _⟩ := h3 i hi hP; exact absurd hj (Nat.not_lt_zero _))
  | k + 1, P, h1, h2, h3 => by
    have hk := h1 k (by omega)
    have e := cnt_add (P := fun p => P p && !(p == a k)) (Q := P) (p := a k) hk.1 (fun i hi hne => by simp [hne]) (by simp) hk.2
    rw [e, cnt_enum a k _ (fun i hi => ⟨(h1 i (by omega)).1, by
      have hne : a i ≠ a k := fun q => by have := h2 i (by omega) k (by omega) q; omega
      simp [(h1 i (by omega)).2, hne]⟩) (fun i hi j hj q => h2 i (by omega) j (by omega) q) (fun p hp hP => by
      simp only [Bool.and_eq_true, Bool.not_eq_true', beq_eq_false_iff_ne] at hP
      obtain ⟨i, hi, e⟩ := h3 p hp hP.1
      refine ⟨i, ?_, e⟩
      have : i ≠ k := fun q => hP.2 (by rw [← e, q])
      omega)]
def fnd (P : Nat → Bool) : Nat → Nat → Int32
  | 0, _ => -5
  | n + 1, s => if P s = true then nI s else fnd P n (s + 1)
theorem fnd_congr {P Q : Nat → Bool} : ∀ {n s : Nat}, (∀ i, s ≤ i → i < s + n → P i = Q i) → fnd P n s = fnd Q n s
  | 0, _, _ => rfl
  | n + 1, s, h => by
    unfold fnd
    rw [h s (by omega) (by omega), fnd_congr (fun i h1 h2 => h i (by omega) (by omega))]
theorem fnd_none {P : Nat → Bool} : ∀ {n s : Nat}, (∀ i, s ≤ i → i < s + n → P i = false) → fnd P n s = -5
  | 0, _, _ => rfl
  | n + 1, s, h => by
    unfold fnd
    rw [h s (by omega) (by omega), fnd_none (fun i h1 h2 => h i (by omega) (by omega))]
    rfl
theorem fnd_one {P : Nat → Bool} {p : Nat} : ∀ {n s : Nat}, s ≤ p → p < s + n → P p = true → (∀ i, s ≤ i → i < s + n → P i = true → i = p) → fnd P n s = nI p
  | 0, s, h1, h2, _, _ => absurd h2 (by omega)
  | n + 1, s, h1, h2, h3, h4 => by
    unfold fnd
    by_cases hs : P s = true
    · rw [if_pos hs, h4 s (by omega) (by omega) hs]
    · rw [if_neg hs]
      have hne : s ≠ p := fun e => hs (by rw [e]; exact h3)
      exact fnd_one (by omega) (by omega) h3 (fun i a b => h4 i (by omega) (by omega))
