/-! numbers about the whole -/
def sumRef (r : Nat → Int32) : Nat → Int32
  | 0 => 0
  | n + 1 => sumRef r n + r (8 + 14 * n + 12)
def sumFare (r : Nat → Int32) : Nat → Int32
  | 0 => 0
  | n + 1 => sumFare r n + r (424 + 3 * n + 2)
/-- the busiest so far, and its people -/
def bsy (L : Nat → Int32) : Nat → Int32 × Int32
  | 0 => (-5, -1)
  | n + 1 => if L n ≤ (bsy L n).2 then bsy L n else (nI n, L n)
theorem bsy_s (L : Nat → Int32) (n : Nat) : bsy L (n + 1) = if L n ≤ (bsy L n).2 then bsy L n else (nI n, L n) := rfl
theorem cnt_or {P Q R : Nat → Bool} : ∀ {n : Nat}, (∀ i, i < n → R i = (P i || Q i) ∧ ¬ (P i = true ∧ Q i = true)) → cnt R n = cnt P n + cnt Q n
  | 0, _ => rfl
  | n + 1, h => by
    unfold cnt
    rw [cnt_or (fun i hi => h i (by omega)), (h n (by omega)).1]
    have h2 := (h n (by omega)).2
    have key : (if (P n || Q n) = true then (1 : Nat) else 0) = (if P n = true then (1 : Nat) else 0) + (if Q n = true then (1 : Nat) else 0) := by
      cases hP : P n <;> cases hQ : Q n <;> first | rfl | exact absurd ⟨hP, hQ⟩ h2
    rw [key]
    exact Nat.add_add_add_comm _ _ _ _
section COUNT
variable {σ : Mm} {r : Nat → Int32} {T ng np nx nl : Nat} {μ ρ : Mm} {S : Nat}
theorem who_loop {v : Int32} {Φ : Int32 → Mm → Prop} (h6 : σ 0 6 = nI np) (hn : np ≤ 40) (H : Φ (nI (cnt (fun p => decide (σ (50 + p) 2 = v)) np)) (bl S σ μ)) : ∀ (k i : Nat), i + k = np → ∃ n, w_X8_peopleWhoAre_4 Φ n S v (nI (cnt (fun p => decide (σ (50 + p) 2 = v)) i)) (nI i) (bl S σ μ)
  | 0, i, hi => by
    have e : i = np := by omega
    subst e
    refine ⟨0 + 1, ?_⟩
    unfold w_X8_peopleWhoAre_4
    rw [bl_0, h6, if_pos (nI_le (Nat.le_refl i) (by omega))]
    exact H
  | k + 1, i, hi => by
    obtain ⟨n, hn'⟩ := who_loop h6 hn H k (i + 1) (by omega)
    rw [cnt_s, nI_succ] at hn'
    refine ⟨n + 1, ?_⟩
    have h40 : ¬ (40 : Int32) ≤ nI i := nI_ge (a := i) (b := 40) (by omega) (by omega)
    unfold w_X8_peopleWhoAre_4
    rw [bl_0, h6, if_neg (nI_ge (by omega) (by omega)), if_neg h40, vin (show i < 40 by omega) (by decide), true_and, cl (show i < 2147483648 by omega), bl_P (show i < 40 by omega)]
    by_cases hc : σ (50 + i) 2 = v
    · rw [if_pos (decide_eq_true hc)] at hn'
      rw [if_pos hc]
      exact hn'
    · rw [if_neg (by simp [hc]), Int32.add_zero] at hn'
      rw [if_neg hc]
      exact hn'
theorem c_who {v : Int32} {Φ : Int32 → Mm → Prop} (h6 : σ 0 6 = nI np) (hn : np ≤ 40) (H : Φ (nI (cnt (fun p => decide (σ (50 + p) 2 = v)) np)) (bl S σ μ)) : w_X8_peopleWhoAre S v (bl S σ μ) Φ := who_loop h6 hn H np 0 (by omega)
theorem refus_loop {Φ : Int32 → Mm → Prop} (h5 : σ 0 5 = nI ng) (hn : ng ≤ 8) (hG : ∀ g, g < ng → σ (10 + 5 * g) 13 = r (8 + 14 * g + 12)) (H : Φ (sumRef r ng) (bl S σ μ)) : ∀ (k i : Nat), i + k = ng → ∃ n, w_X8_allRefusals_4 Φ n S (sumRef r i) (nI i) (bl S σ μ)
  | 0, i, hi => by
    have e : i = ng := by omega
    subst e
    refine ⟨0 + 1, ?_⟩
    unfold w_X8_allRefusals_4
    rw [bl_0, h5, if_pos (nI_le (Nat.le_refl i) (by omega))]
    exact H
  | k + 1, i, hi => by
    obtain ⟨n, hn'⟩ := refus_loop h5 hn hG H k (i + 1) (by omega)
    rw [nI_succ] at hn'
    refine ⟨n + 1, ?_⟩
    have h8 : ¬ (8 : Int32) ≤ nI i := nI_ge (a := i) (b := 8) (by omega) (by omega)
    unfold w_X8_allRefusals_4
    rw [bl_0, h5, if_neg (nI_ge (by omega) (by omega)), if_neg h8, vin (show i < 8 by omega) (by decide), true_and, cl (show i < 2147483648 by omega), bl_G (show i < 8 by omega), hG i (by omega)]
    exact hn'
theorem fares_loop {Φ : Int32 → Mm → Prop} (h7 : σ 0 7 = nI nl) (hn : nl ≤ 4) (hG : ∀ x, x < nl → σ (90 + x) 4 = r (424 + 3 * x + 2)) (H : Φ (sumFare r nl) (bl S σ μ)) : ∀ (k i : Nat), i + k = nl → ∃ n, w_X8_allFares_4 Φ n S (sumFare r i) (nI i) (bl S σ μ)
  | 0, i, hi => by
    have e : i = nl := by omega
    subst e
    refine ⟨0 + 1, ?_⟩
    unfold w_X8_allFares_4
    rw [bl_0, h7, if_pos (nI_le (Nat.le_refl i) (by omega))]
    exact H
  | k + 1, i, hi => by
    obtain ⟨n, hn'⟩ := fares_loop h7 hn hG H k (i + 1) (by omega)
    rw [nI_succ] at hn'
    refine ⟨n + 1, ?_⟩
    have h4 : ¬ (4 : Int32) ≤ nI i := nI_ge (a := i) (b := 4) (by omega) (by omega)
    have hb : 90 + i < 106 := by omega
    unfold w_X8_allFares_4
    rw [bl_0, h7, if_neg (nI_ge (by omega) (by omega)), if_neg h4, vin (show i < 4 by omega) (by decide), true_and, cl (show i < 2147483648 by omega), Nat.add_assoc S 90 i, bl_at hb, hG i (by omega)]
    exact hn'
end COUNT
