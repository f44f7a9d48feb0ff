/-! numbers about the whole -/
def sumRef (r : Nat → Int32) : Nat → Int32
  | 0 => 0
  | n + 1 => sumRef r n + r (8 + 14 * n + 12)
def sumFare (r : Nat → Int32) : Nat → Int32
  | 0 => 0
  | n + 1 => sumFare r n + r (424 + 3 * n + 2)
/-- the busiest so far, and its people -/
def bsy (L : Nat → Int32) : Nat → Int32 × Int32
  | 0 => (-5, -1)
  | n + 1 => if L n ≤ (bsy L n).2 then bsy L n else (nI n, L n)
theorem bsy_s (L : Nat → Int32) (n : Nat) : bsy L (n + 1) = if L n ≤ (bsy L n).2 then bsy L n else (nI n, L n) := rfl
theorem cnt_or {P Q R : Nat → Bool} : ∀ {n : Nat}, (∀ i, i < n → R i = (P i || Q i) ∧ ¬ (P i = true ∧ Q i = true)) → cnt R n = cnt P n + cnt Q n
  | 0, _ => rfl
  | n + 1, h => by
    unfold cnt
    rw [cnt_or (fun i hi => h i (by omega)), (h n (by omega)).1]
    have h2 := (h n (by omega)).2
    have key : (if (P n || Q n) = true then (1 : Nat) else 0) = (if P n = true then (1 : Nat) else 0) + (if Q n = true then (1 : Nat) else 0) := by
      cases hP : P n <;> cases hQ : Q n <;> first | rfl | exact absurd ⟨hP, hQ⟩ h2
    rw [key]
    exact Nat.add_add_add_comm _ _ _ _
section COUNT
variable {σ : Mm} {r : Nat → Int32} {T ng np nx nl : Nat} {μ ρ : Mm} {S : Nat}
theorem who_loop {v : Int32} {Φ : Int32 → Mm → Prop} (h6 : σ 0 6 = nI np) (hn : np ≤ 40) (H : Φ (nI (cnt (fun p => decide (σ (50 + p) 2 = v)) np)) (bl S σ μ)) : ∀ (k i : Nat), i + k = np → ∃ n, w_X8_peopleWhoAre_4 Φ n S v (nI (cnt (fun p => decide (σ (50 + p) 2 = v)) i)) (nI i) (bl S σ μ)
  | 0, i, hi => by
    have e : i = np := by omega
    subst e
    refine ⟨0 + 1, ?_⟩
    unfold w_X8_peopleWhoAre_4
    rw [bl_0, h6, if_pos (nI_le (Nat.le_refl i) (by omega))]
    exact H
  | k + 1, i, hi => by
    obtain ⟨n, hn'⟩ := who_loop h6 hn H k (i + 1) (by omega)
    rw [cnt_s, nI_succ] at hn'
    refine ⟨n + 1, ?_⟩
    have h40 : ¬ (40 : Int32) ≤ nI i := nI_ge (a := i) (b := 40) (by omega) (by omega)
    unfold w_X8_peopleWhoAre_4
    rw [bl_0, h6, if_neg (nI_ge (by omega) (by omega)), if_neg h40, vin (show i < 40 by omega) (by decide), true_and, cl (show i < 2147483648 by omega), bl_P (show i < 40 by omega)]
    by_cases hc : σ (50 + i) 2 = v
    · rw [if_pos (decide_eq_true hc)] at hn'
      rw [if_pos hc]
      exact hn'
    · rw [if_neg (by simp [hc]), Int32.add_zero] at hn'
      rw [if_neg hc]
      exact hn'
theorem c_who {v : Int32} {Φ : Int32 → Mm → Prop} (h6 : σ 0 6 = nI np) (hn : np ≤ 40) (H : Φ (nI (cnt (fun p => decide (σ (50 + p) 2 = v)) np)) (bl S σ μ)) : w_X8_peopleWhoAre S v (bl S σ μ) Φ := who_loop h6 hn H np 0 (by omega)
theorem refus_loop {Φ : Int32 → Mm → Prop} (h5 : σ 0 5 = nI ng) (hn : ng ≤ 8) (hG : ∀ g, g < ng → σ (10 + 5 * g) 13 = r (8 + 14 * g + 12)) (H : Φ (sumRef r ng) (bl S σ μ)) : ∀ (k i : Nat), i + k = ng → ∃ n, w_X8_allRefusals_4 Φ n S (sumRef r i) (nI i) (bl S σ μ)
  | 0, i, hi => by
    have e : i = ng := by omega
    subst e
    refine ⟨0 + 1, ?_⟩
    unfold w_X8_allRefusals_4
    rw [bl_0, h5, if_pos (nI_le (Nat.le_refl i) (by omega))]
    exact H
  | k + 1, i, hi => by
    obtain ⟨n, hn'⟩ := refus_loop h5 hn hG H k (i + 1) (by omega)
    rw [nI_succ] at hn'
    refine ⟨n + 1, ?_⟩
    have h8 : ¬ (8 : Int32) ≤ nI i := nI_ge (a := i) (b := 8) (by omega) (by omega)
    unfold w_X8_allRefusals_4
    rw [bl_0, h5, if_neg (nI_ge (by omega) (by omega)), if_neg h8, vin (show i < 8 by omega) (by decide), true_and, cl (show i < 2147483648 by omega), bl_G (show i < 8 by omega), hG i (by omega)]
    exact hn'
theorem fares_loop {Φ : Int32 → Mm → Prop} (h7 : σ 0 7 = nI nl) (hn : nl ≤ 4) (hG : ∀ x, x < nl → σ (90 + x) 4 = r (424 + 3 * x + 2)) (H : Φ (sumFare r nl) (bl S σ μ)) : ∀ (k i : Nat), i + k = nl → ∃ n, w_X8_allFares_4 Φ n S (sumFare r i) (nI i) (bl S σ μ)
  | 0, i, hi => by
    have e : i = nl := by omega
    subst e
    refine ⟨0 + 1, ?_⟩
    unfold w_X8_allFares_4
    rw [bl_0, h7, if_pos (nI_le (Nat.le_refl i) (by omega))]
    exact H
  | k + 1, i, hi => by
    obtain ⟨n, hn'⟩ := fares_loop h7 hn hG H k (i + 1) (by omega)
    rw [nI_succ] at hn'
    refine ⟨n + 1, ?_⟩
    have h4 : ¬ (4 : Int32) ≤ nI i := nI_ge (a := i) (b := 4) (by omega) (by omega)
    have hb : 90 + i < 106 := by omega
    unfold w_X8_allFares_4
    rw [bl_0, h7, if_neg (nI_ge (by omega) (by omega)), if_neg h4, vin (show i < 4 by omega) (by decide), true_and, cl (show i < 2147483648 by omega), Nat.add_assoc S 90 i, bl_at hb, hG i (by omega)]
    exact hn'
theorem c_together {k : Nat} {u : Mm} {Φ : Int32 → Mm → Prop} : w_X1_queuesTogether k u Φ = Φ (u (k + 1) 1 + u (k + 3) 1) u := rfl
theorem busy_loop {L : Nat → Int32} {Φ : Int32 → Mm → Prop} (h5 : σ 0 5 = nI ng) (hn : ng ≤ 8) (hG : ∀ g, g < ng → σ (11 + 5 * g + 2 * 0) 1 + σ (11 + 5 * g + 2 * 1) 1 = L g) (H : Φ (bsy L ng).1 (bl S σ μ)) : ∀ (k i : Nat), i + k = ng → ∃ n, w_X8_busiestGate_7 Φ n S (bsy L i).1 (bsy L i).2 (nI i) (bl S σ μ)
  | 0, i, hi => by
    have e : i = ng := by omega
    subst e
    refine ⟨0 + 1, ?_⟩
    unfold w_X8_busiestGate_7
    rw [bl_0, h5, if_pos (nI_le (Nat.le_refl i) (by omega))]
    exact H
  | k + 1, i, hi => by
    obtain ⟨n, hn'⟩ := busy_loop h5 hn hG H k (i + 1) (by omega)
    rw [nI_succ, bsy_s] at hn'
    refine ⟨n + 1, ?_⟩
    have h8 : ¬ (8 : Int32) ≤ nI i := nI_ge (a := i) (b := 8) (by omega) (by omega)
    have hs0 : 11 + 5 * i + 2 * 0 < 106 := by omega
    have hs1 : 11 + 5 * i + 2 * 1 < 106 := by omega
    unfold w_X8_busiestGate_7
    rw [bl_0, h5, if_neg (nI_ge (by omega) (by omega)), if_neg h8, vin (show i < 8 by omega) (by decide), true_and, cl (show i < 2147483648 by omega), c_together, c_together, true_and, show S + 10 + 5 * i + 1 = S + (11 + 5 * i + 2 * 0) by omega, show S + 10 + 5 * i + 3 = S + (11 + 5 * i + 2 * 1) by omega, bl_at hs0, bl_at hs1, hG i (by omega)]
    by_cases hc : L i ≤ (bsy L i).2
    · rw [if_pos hc] at hn'
      rw [if_pos hc]
      exact hn'
    · rw [if_neg hc] at hn'
      rw [if_neg hc]
      exact hn'
theorem at_loop2 {a b : Int32} {Φ : Int32 → Mm → Prop} (h2 : r 2 = nI np) (hn : np ≤ 40) (H : Φ (nI (cnt (fun p => decide (¬ r (120 + 7 * p + 0) < a) && decide (¬ b < r (120 + 7 * p + 0))) np)) (rw1 ρ r)) : ∀ (k i : Nat), i + k = np → ∃ n, w_X10_peopleAt_5 Φ n a b (nI (cnt (fun p => decide (¬ r (120 + 7 * p + 0) < a) && decide (¬ b < r (120 + 7 * p + 0))) i)) (nI i) (rw1 ρ r)
  | 0, i, hi => by
    have e : i = np := by omega
    subst e
    refine ⟨0 + 1, ?_⟩
    unfold w_X10_peopleAt_5
    rw [rw1_1, show (2 : Int32).toNatClampNeg = 2 from rfl, h2, if_pos (nI_le (Nat.le_refl i) (by omega))]
    exact H
  | k + 1, i, hi => by
    obtain ⟨n, hn'⟩ := at_loop2 h2 hn H k (i + 1) (by omega)
    rw [cnt_s, nI_succ] at hn'
    refine ⟨n + 1, ?_⟩
    unfold w_X10_peopleAt_5
    rw [rw1_1, show (2 : Int32).toNatClampNeg = 2 from rfl, h2, if_neg (nI_ge (by omega) (by omega)), s_of_0 (show i < 40 by omega), s_in]
    by_cases h1 : r (120 + 7 * i + 0) < a
    · rw [if_neg (fun e => by rw [Bool.and_eq_true, decide_eq_true_eq, decide_eq_true_eq] at e; exact e.1 h1)] at hn'
      rw [if_pos h1, if_pos rfl]
      exact hn'
    · by_cases h3 : b < r (120 + 7 * i + 0)
      · rw [if_neg (fun e => by rw [Bool.and_eq_true, decide_eq_true_eq, decide_eq_true_eq] at e; exact e.2 h3)] at hn'
        rw [if_neg h1, if_pos h3, if_pos rfl]
        exact hn'
      · rw [if_pos (by rw [decide_eq_true h1, decide_eq_true h3]; rfl)] at hn'
        rw [if_neg h1, if_neg h3, if_neg (by decide)]
        exact hn'
theorem s_at {a b : Int32} {Φ : Int32 → Mm → Prop} (h2 : r 2 = nI np) (hn : np ≤ 40) (H : Φ (nI (cnt (fun p => decide (¬ r (120 + 7 * p + 0) < a) && decide (¬ b < r (120 + 7 * p + 0))) np)) (rw1 ρ r)) : w_X10_peopleAt a b (rw1 ρ r) Φ := at_loop2 h2 hn H np 0 (by omega)
theorem long_loop {L : Nat → Int32} {Φ : Int32 → Mm → Prop} (h1 : r 1 = nI ng) (hn : ng ≤ 8) (h2 : r 2 = nI np) (n2 : np ≤ 40) (hG : ∀ g, g < ng → nI (cnt (qB r (nI g) 0) np) + nI (cnt (qB r (nI g) 1) np) = L g) (H : Φ (bsy L ng).1 (rw1 ρ r)) : ∀ (k i : Nat), i + k = ng → ∃ n, w_X10_longest_7 Φ n (bsy L i).1 (bsy L i).2 (nI i) (rw1 ρ r)
  | 0, i, hi => by
    have e : i = ng := by omega
    subst e
    refine ⟨0 + 1, ?_⟩
    unfold w_X10_longest_7
    rw [rw1_1, show (1 : Int32).toNatClampNeg = 1 from rfl, h1, if_pos (nI_le (Nat.le_refl i) (by omega))]
    exact H
  | k + 1, i, hi => by
    obtain ⟨n, hn'⟩ := long_loop h1 hn h2 n2 hG H k (i + 1) (by omega)
    rw [nI_succ, bsy_s] at hn'
    refine ⟨n + 1, ?_⟩
    unfold w_X10_longest_7
    rw [rw1_1, show (1 : Int32).toNatClampNeg = 1 from rfl, h1, if_neg (nI_ge (by omega) (by omega)), s_queueLength h2 n2, s_queueLength h2 n2, hG i (by omega)]
    by_cases hc : L i ≤ (bsy L i).2
    · rw [if_pos hc] at hn'
      rw [if_pos hc, if_pos hc]
      exact hn'
    · rw [if_neg hc] at hn'
      rw [if_neg hc, if_neg hc]
      exact hn'
theorem fare_loop2 {a b : Int32} {Φ : Int32 → Mm → Prop} (h4 : r 4 = nI nl) (hn : nl ≤ 4) (H : w_X10_count_35 Φ (0 + 1) a b (sumFare r nl) (nI nl) (rw1 ρ r)) : ∀ (k i : Nat), i + k = nl → ∃ n, w_X10_count_35 Φ n a b (sumFare r i) (nI i) (rw1 ρ r)
  | 0, i, hi => by
    have e : i = nl := by omega
    subst e
    exact ⟨0 + 1, H⟩
  | k + 1, i, hi => by
    obtain ⟨n, hn'⟩ := fare_loop2 h4 hn H k (i + 1) (by omega)
    rw [nI_succ] at hn'
    refine ⟨n + 1, ?_⟩
    have hx : (424 : Int32) + (3 : Int32) * nI i + (2 : Int32) = nI (424 + 3 * i + 2) := ixLf i 2
    unfold w_X10_count_35
    rw [rw1_1, show (4 : Int32).toNatClampNeg = 4 from rfl, h4, if_neg (nI_ge (by omega) (by omega)), hx, vin (show 424 + 3 * i + 2 < 516 by omega) (by decide), true_and, cl (show 424 + 3 * i + 2 < 2147483648 by omega)]
    exact hn'
theorem ref_loop2 {a : Int32} {Φ : Int32 → Mm → Prop} (h1 : r 1 = nI ng) (hn : ng ≤ 8) (H : ∃ n, w_X10_count_35 Φ n a (sumRef r ng) 0 0 (rw1 ρ r)) : ∀ (k i : Nat), i + k = ng → ∃ n, w_X10_count_4 Φ n a (sumRef r i) (nI i) (rw1 ρ r)
  | 0, i, hi => by
    have e : i = ng := by omega
    subst e
    refine ⟨0 + 1, ?_⟩
    unfold w_X10_count_4
    rw [rw1_1, show (1 : Int32).toNatClampNeg = 1 from rfl, h1, if_pos (nI_le (Nat.le_refl i) (by omega))]
    exact H
  | k + 1, i, hi => by
    obtain ⟨n, hn'⟩ := ref_loop2 h1 hn H k (i + 1) (by omega)
    rw [nI_succ] at hn'
    refine ⟨n + 1, ?_⟩
    unfold w_X10_count_4
    rw [rw1_1, show (1 : Int32).toNatClampNeg = 1 from rfl, h1, if_neg (nI_ge (by omega) (by omega)), s_gateOf_12 (show i < 8 by omega)]
    exact hn'
theorem s_count {a : Int32} {Φ : Int32 → Mm → Prop} (h1 : r 1 = nI ng) (n1 : ng ≤ 8) (h4 : r 4 = nI nl) (n4 : nl ≤ 4) (H : w_X10_count_35 Φ (0 + 1) a (sumRef r ng) (sumFare r nl) (nI nl) (rw1 ρ r)) : w_X10_count a (rw1 ρ r) Φ := ref_loop2 h1 n1 (fare_loop2 h4 n4 H nl 0 (by omega)) ng 0 (by omega)
theorem do_count (a : Int32) (z11 : ¬ a = 11) (z12 : ¬ a = 12) : DoQ (w_X9_count a) (w_X10_count a) := by
  intro σ r T ng np nx nl h
  obtain ⟨n1, n2, n3, n4⟩ := h.1.n
  have h1 : r 1 = nI ng := h.1.1.1.2.1
  have h2 : r 2 = nI np := h.1.1.2.1.2.1
  have h4 : r 4 = nI nl := h.1.1.2.2.2.1.2.1
  have c5 : σ 0 5 = nI ng := h.1.1.1.1
  have c6 : σ 0 6 = nI np := h.1.1.2.1.1
  have c7 : σ 0 7 = nI nl := h.1.1.2.2.2.1.1
  have le4 : nI nl ≤ nI nl := nI_le (Nat.le_refl nl) (by omega)
  have hw : ∀ p, p < np → ∃ w, w ≤ 5 ∧ r (120 + 7 * p + 0) = nI w ∧ σ (50 + p) 2 = nI w := fun p hp => by
    obtain ⟨w, x1, x2, -⟩ := h.2.2.1 p hp
    exact ⟨w, x1, (h.1.2.2.1 p 2 hp (by decide)).symm.trans x2, x2⟩
  have key : ∀ v : Int32, (v = 1 ∨ v = 2 ∨ v = 5) → nI (cnt (fun p => decide (¬ r (120 + 7 * p + 0) < v) && decide (¬ v < r (120 + 7 * p + 0))) np) = nI (cnt (fun p => decide (σ (50 + p) 2 = v)) np) := fun v hv => by
    congr 1
    refine cnt_congr (fun p hp => ?_)
    obtain ⟨w, x1, x2, x3⟩ := hw p hp
    rw [x2, x3]
    rcases hv with rfl | rfl | rfl <;> rcases (show w = 0 ∨ w = 1 ∨ w = 2 ∨ w = 3 ∨ w = 4 ∨ w = 5 by omega) with rfl | rfl | rfl | rfl | rfl | rfl <;> decide
  have key34 : nI (cnt (fun p => decide (¬ r (120 + 7 * p + 0) < 3) && decide (¬ 4 < r (120 + 7 * p + 0))) np) = nI (cnt (fun p => decide (σ (50 + p) 2 = 3)) np) + nI (cnt (fun p => decide (σ (50 + p) 2 = 4)) np) := by
    rw [nI_add]
    congr 1
    refine cnt_or (fun p hp => ?_)
    obtain ⟨w, x1, x2, x3⟩ := hw p hp
    rw [x2, x3]
    rcases (show w = 0 ∨ w = 1 ∨ w = 2 ∨ w = 3 ∨ w = 4 ∨ w = 5 by omega) with rfl | rfl | rfl | rfl | rfl | rfl <;> decide
  by_cases z0 : a = 0
  · subst z0
    refine ⟨σ 0 9, fun μ Φ hΦ => ?_, fun ρ Φ hΦ => s_count h1 n1 h4 n4 ?_⟩
    · unfold w_X9_count
      rw [if_pos rfl]
      rw [bl_0]
      exact hΦ
    · unfold w_X10_count_35
      rw [rw1_1, show (4 : Int32).toNatClampNeg = 4 from rfl, h4, if_pos le4, if_pos rfl]
      rw [show (0 : Int32).toNatClampNeg = 0 from rfl, h.1.time]
      exact hΦ
  by_cases z1 : a = 1
  · subst z1
    refine ⟨nI ng, fun μ Φ hΦ => ?_, fun ρ Φ hΦ => s_count h1 n1 h4 n4 ?_⟩
    · unfold w_X9_count
      rw [if_neg (by decide), if_pos rfl]
      rw [bl_0, c5]
      exact hΦ
    · unfold w_X10_count_35
      rw [rw1_1, show (4 : Int32).toNatClampNeg = 4 from rfl, h4, if_pos le4, if_neg (by decide), if_pos rfl]
      rw [show (1 : Int32).toNatClampNeg = 1 from rfl, h1]
      exact hΦ
  by_cases z2 : a = 2
  · subst z2
    refine ⟨nI np, fun μ Φ hΦ => ?_, fun ρ Φ hΦ => s_count h1 n1 h4 n4 ?_⟩
    · unfold w_X9_count
      rw [if_neg (by decide), if_neg (by decide), if_pos rfl]
      rw [bl_0, c6]
      exact hΦ
    · unfold w_X10_count_35
      rw [rw1_1, show (4 : Int32).toNatClampNeg = 4 from rfl, h4, if_pos le4, if_neg (by decide), if_neg (by decide), if_pos rfl]
      rw [show (2 : Int32).toNatClampNeg = 2 from rfl, h2]
      exact hΦ
  by_cases z3 : a = 3
  · subst z3
    refine ⟨nI (cnt (fun p => decide (σ (50 + p) 2 = 3)) np) + nI (cnt (fun p => decide (σ (50 + p) 2 = 4)) np), fun μ Φ hΦ => ?_, fun ρ Φ hΦ => s_count h1 n1 h4 n4 ?_⟩
    · unfold w_X9_count
      rw [if_neg (by decide), if_neg (by decide), if_neg (by decide), if_pos rfl]
      exact c_who c6 n2 (c_who c6 n2 hΦ)
    · unfold w_X10_count_35
      rw [rw1_1, show (4 : Int32).toNatClampNeg = 4 from rfl, h4, if_pos le4, if_neg (by decide), if_neg (by decide), if_neg (by decide), if_pos rfl]
      exact s_at h2 n2 (by rw [key34]; exact hΦ)
  by_cases z4 : a = 4
  · subst z4
    refine ⟨nI (cnt (fun p => decide (σ (50 + p) 2 = 1)) np), fun μ Φ hΦ => ?_, fun ρ Φ hΦ => s_count h1 n1 h4 n4 ?_⟩
    · unfold w_X9_count
      rw [if_neg (by decide), if_neg (by decide), if_neg (by decide), if_neg (by decide), if_pos rfl]
      exact c_who c6 n2 hΦ
    · unfold w_X10_count_35
      rw [rw1_1, show (4 : Int32).toNatClampNeg = 4 from rfl, h4, if_pos le4, if_neg (by decide), if_neg (by decide), if_neg (by decide), if_neg (by decide), if_pos rfl]
      exact s_at h2 n2 (by rw [key 1 (by decide)]; exact hΦ)
  by_cases z5 : a = 5
  · subst z5
    refine ⟨nI (cnt (fun p => decide (σ (50 + p) 2 = 2)) np), fun μ Φ hΦ => ?_, fun ρ Φ hΦ => s_count h1 n1 h4 n4 ?_⟩
    · unfold w_X9_count
      rw [if_neg (by decide), if_neg (by decide), if_neg (by decide), if_neg (by decide), if_neg (by decide), if_pos rfl]
      exact c_who c6 n2 hΦ
    · unfold w_X10_count_35
      rw [rw1_1, show (4 : Int32).toNatClampNeg = 4 from rfl, h4, if_pos le4, if_neg (by decide), if_neg (by decide), if_neg (by decide), if_neg (by decide), if_neg (by decide), if_pos rfl]
      exact s_at h2 n2 (by rw [key 2 (by decide)]; exact hΦ)
  by_cases z6 : a = 6
  · subst z6
    refine ⟨nI (cnt (fun p => decide (σ (50 + p) 2 = 5)) np), fun μ Φ hΦ => ?_, fun ρ Φ hΦ => s_count h1 n1 h4 n4 ?_⟩
    · unfold w_X9_count
      rw [if_neg (by decide), if_neg (by decide), if_neg (by decide), if_neg (by decide), if_neg (by decide), if_neg (by decide), if_pos rfl]
      exact c_who c6 n2 hΦ
    · unfold w_X10_count_35
      rw [rw1_1, show (4 : Int32).toNatClampNeg = 4 from rfl, h4, if_pos le4, if_neg (by decide), if_neg (by decide), if_neg (by decide), if_neg (by decide), if_neg (by decide), if_neg (by decide), if_pos rfl]
      exact s_at h2 n2 (by rw [key 5 (by decide)]; exact hΦ)
  by_cases z7 : a = 7
  · subst z7
    refine ⟨sumRef r ng, fun μ Φ hΦ => ?_, fun ρ Φ hΦ => s_count h1 n1 h4 n4 ?_⟩
    · unfold w_X9_count
      rw [if_neg (by decide), if_neg (by decide), if_neg (by decide), if_neg (by decide), if_neg (by decide), if_neg (by decide), if_neg (by decide), if_pos rfl]
      exact refus_loop c5 n1 (fun g hg => h.1.2.1 g 11 hg (by decide)) hΦ ng 0 (by omega)
    · unfold w_X10_count_35
      rw [rw1_1, show (4 : Int32).toNatClampNeg = 4 from rfl, h4, if_pos le4, if_neg (by decide), if_neg (by decide), if_neg (by decide), if_neg (by decide), if_neg (by decide), if_neg (by decide), if_neg (by decide), if_pos rfl]
      exact hΦ
  by_cases z8 : a = 8
  · subst z8
    refine ⟨sumFare r nl, fun μ Φ hΦ => ?_, fun ρ Φ hΦ => s_count h1 n1 h4 n4 ?_⟩
    · unfold w_X9_count
      rw [if_neg (by decide), if_neg (by decide), if_neg (by decide), if_neg (by decide), if_neg (by decide), if_neg (by decide), if_neg (by decide), if_neg (by decide), if_pos rfl]
      exact fares_loop c7 n4 (fun x hx => h.1.2.2.2.2.1 x 4 hx (Or.inr rfl)) hΦ nl 0 (by omega)
    · unfold w_X10_count_35
      rw [rw1_1, show (4 : Int32).toNatClampNeg = 4 from rfl, h4, if_pos le4, if_neg (by decide), if_neg (by decide), if_neg (by decide), if_neg (by decide), if_neg (by decide), if_neg (by decide), if_neg (by decide), if_neg (by decide), if_pos rfl]
      exact hΦ
  by_cases z9 : a = 9
  · subst z9
    refine ⟨σ 0 10, fun μ Φ hΦ => ?_, fun ρ Φ hΦ => s_count h1 n1 h4 n4 ?_⟩
    · unfold w_X9_count
      rw [if_neg (by decide), if_neg (by decide), if_neg (by decide), if_neg (by decide), if_neg (by decide), if_neg (by decide), if_neg (by decide), if_neg (by decide), if_neg (by decide), if_pos rfl]
      rw [bl_0]
      exact hΦ
    · unfold w_X10_count_35
      rw [rw1_1, show (4 : Int32).toNatClampNeg = 4 from rfl, h4, if_pos le4, if_neg (by decide), if_neg (by decide), if_neg (by decide), if_neg (by decide), if_neg (by decide), if_neg (by decide), if_neg (by decide), if_neg (by decide), if_neg (by decide), if_pos rfl]
      rw [show (6 : Int32).toNatClampNeg = 6 from rfl, ← h.1.1.2.2.2.2.1]
      exact hΦ
  by_cases z10 : a = 10
  · subst z10
    refine ⟨(bsy (fun g => σ (11 + 5 * g + 2 * 0) 1 + σ (11 + 5 * g + 2 * 1) 1) ng).1, fun μ Φ hΦ => ?_, fun ρ Φ hΦ => s_count h1 n1 h4 n4 ?_⟩
    · unfold w_X9_count
      rw [if_neg (by decide), if_neg (by decide), if_neg (by decide), if_neg (by decide), if_neg (by decide), if_neg (by decide), if_neg (by decide), if_neg (by decide), if_neg (by decide), if_neg (by decide), if_pos rfl]
      exact busy_loop c5 n1 (fun g hg => rfl) hΦ ng 0 (by omega)
    · unfold w_X10_count_35
      rw [rw1_1, show (4 : Int32).toNatClampNeg = 4 from rfl, h4, if_pos le4, if_neg (by decide), if_neg (by decide), if_neg (by decide), if_neg (by decide), if_neg (by decide), if_neg (by decide), if_neg (by decide), if_neg (by decide), if_neg (by decide), if_neg (by decide), if_pos rfl]
      refine long_loop h1 n1 h2 n2 (fun g hg => ?_) hΦ ng 0 (by omega)
      obtain ⟨m0, a0, b1, b2, b3, b4, b5, b6, -⟩ := q_facts (g := g) (e := 0) (ea := 0) h.1 (by decide) (by decide) (h.2.2.2.2.1 g 0 hg (by decide))
      obtain ⟨m1, a1, d1, d2, d3, d4, d5, d6, -⟩ := q_facts (g := g) (e := 1) (ea := 1) h.1 (by decide) (by decide) (h.2.2.2.2.1 g 1 hg (by decide))
      show _ = σ (11 + 5 * g + 2 * 0) 1 + σ (11 + 5 * g + 2 * 1) 1
      rw [b6, d6, b2, d2]
  · refine ⟨-2, fun μ Φ hΦ => ?_, fun ρ Φ hΦ => s_count h1 n1 h4 n4 ?_⟩
    · unfold w_X9_count
      rw [if_neg z0, if_neg z1, if_neg z2, if_neg z3, if_neg z4, if_neg z5, if_neg z6, if_neg z7, if_neg z8, if_neg z9, if_neg z10, if_neg z11, if_neg z12]
      exact hΦ
    · unfold w_X10_count_35
      rw [rw1_1, show (4 : Int32).toNatClampNeg = 4 from rfl, h4, if_pos le4, if_neg z0, if_neg z1, if_neg z2, if_neg z3, if_neg z4, if_neg z5, if_neg z6, if_neg z7, if_neg z8, if_neg z9, if_neg z10, if_neg z11, if_neg z12]
      exact hΦ
theorem op_count : Op_count Sim := fun n μ ρ hn hS a => by
  by_cases z11 : a = 11
  · subst z11
    have hS1 := sim_next1 hn hS
    obtain ⟨⟨ng, np, nx, nl, hR⟩, ⟨o, m, ho, hm, e1, e2, e3, -⟩, -⟩ := hS
    obtain ⟨n1, n2, n3, n4⟩ := hR.1.n
    have h4 : ρ 1 4 = nI nl := hR.1.1.2.2.2.1.2.1
    unfold w_X9_count
    rw [if_neg (by decide), if_neg (by decide), if_neg (by decide), if_neg (by decide), if_neg (by decide), if_neg (by decide), if_neg (by decide), if_neg (by decide), if_neg (by decide), if_neg (by decide), if_neg (by decide), if_pos rfl, e2]
    have K := s_count (ρ := ρ) (a := 11) (Φ := fun t ρ1 => nI m = t ∧ Sim (n + 1) μ ρ1) hR.1.1.1.2.1 n1 h4 n4
    rw [rw1_self] at K
    refine K ?_
    unfold w_X10_count_35
    rw [show (4 : Int32).toNatClampNeg = 4 from rfl, h4, if_pos (nI_le (Nat.le_refl nl) (by omega)), if_neg (by decide), if_neg (by decide), if_neg (by decide), if_neg (by decide), if_neg (by decide), if_neg (by decide), if_neg (by decide), if_neg (by decide), if_neg (by decide), if_neg (by decide), if_neg (by decide), if_pos rfl, e3]
    exact ⟨rfl, hS1⟩
  · by_cases z12 : a = 12
    · subst z12
      have hS1 := sim_next1 hn hS
      obtain ⟨⟨ng, np, nx, nl, hR⟩, -, ⟨len, hlen, e1, e2, -⟩⟩ := hS
      obtain ⟨n1, n2, n3, n4⟩ := hR.1.n
      have h4 : ρ 1 4 = nI nl := hR.1.1.2.2.2.1.2.1
      unfold w_X9_count
      rw [if_neg (by decide), if_neg (by decide), if_neg (by decide), if_neg (by decide), if_neg (by decide), if_neg (by decide), if_neg (by decide), if_neg (by decide), if_neg (by decide), if_neg (by decide), if_neg (by decide), if_neg (by decide), if_pos rfl, e1]
      have K := s_count (ρ := ρ) (a := 12) (Φ := fun t ρ1 => nI len = t ∧ Sim (n + 1) μ ρ1) hR.1.1.1.2.1 n1 h4 n4
      rw [rw1_self] at K
      refine K ?_
      unfold w_X10_count_35
      rw [show (4 : Int32).toNatClampNeg = 4 from rfl, h4, if_pos (nI_le (Nat.le_refl nl) (by omega)), if_neg (by decide), if_neg (by decide), if_neg (by decide), if_neg (by decide), if_neg (by decide), if_neg (by decide), if_neg (by decide), if_neg (by decide), if_neg (by decide), if_neg (by decide), if_neg (by decide), if_neg (by decide), if_pos rfl, e2]
      exact ⟨rfl, hS1⟩
    · exact op_ask (do_count a z11 z12) hn hS
end COUNT
