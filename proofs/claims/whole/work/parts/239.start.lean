/-! the beginning; a pool asked; a pass blocked -/
section START
variable {σ : Mm} {r : Nat → Int32} {T ng np nx nl g p : Nat} {μ ρ : Mm} {n : Nat}
theorem rel_0 : Rel (HB mu0 1) (mu0M 1) (TB 0) 0 0 0 0 := by
  refine ⟨⟨?_, fun g f h => absurd h (Nat.not_lt_zero _), fun g f h => absurd h (Nat.not_lt_zero _), fun g f h => absurd h (Nat.not_lt_zero _), fun g f h => absurd h (Nat.not_lt_zero _), ?_⟩, fun g h => absurd h (Nat.not_lt_zero _), fun g h => absurd h (Nat.not_lt_zero _), fun g h => absurd h (Nat.not_lt_zero _), fun g e h => absurd h (Nat.not_lt_zero _), fun g h => absurd h (Nat.not_lt_zero _), ⟨fun g h => absurd h (Nat.not_lt_zero _), fun g h => absurd h (Nat.not_lt_zero _), fun g h => absurd h (Nat.not_lt_zero _)⟩⟩
  · exact ⟨⟨by decide, by decide, by decide⟩, ⟨by decide, by decide, by decide⟩, ⟨by decide, by decide, by decide⟩, ⟨by decide, by decide, by decide⟩, by decide, ⟨0, by decide, by decide, by decide⟩, ⟨0, by decide, by decide⟩, by decide⟩
  · exact ⟨0, 0, by decide, by decide, by decide, by decide, by decide, fun k j h => absurd h (Nat.not_lt_zero _)⟩
theorem sim_0 : Sim 0 mu0 mu0M := by
  refine ⟨⟨0, 0, 0, 0, rel_0⟩, ⟨0, 0, by decide, by decide, by decide, by decide, by decide, fun j h => absurd h (Nat.not_lt_zero _)⟩, ⟨0, by decide, by decide, by decide, fun i h => absurd h (Nat.not_lt_zero _)⟩⟩
/-- counting the passes of a pool -/
theorem pool_loop {a b : Int32} {Φ : Int32 → Mm → Prop} (h3 : r 3 = nI nx) (hn : nx ≤ 12) (H : w_X10_pool_15 Φ (0 + 1) a b (nI (cnt (fun x => decide (r (400 + 2 * x) = a)) nx)) (nI nx) (rw1 ρ r)) : ∀ (k i : Nat), i + k = nx → ∃ n, w_X10_pool_15 Φ n a b (nI (cnt (fun x => decide (r (400 + 2 * x) = a)) i)) (nI i) (rw1 ρ r)
  | 0, i, hi => by
    have e : i = nx := by omega
    subst e
    exact ⟨0 + 1, H⟩
  | k + 1, i, hi => by
    obtain ⟨n, hn'⟩ := pool_loop h3 hn H k (i + 1) (by omega)
    rw [cnt_s, nI_succ] at hn'
    refine ⟨n + 1, ?_⟩
    unfold w_X10_pool_15
    rw [rw1_1, show (3 : Int32).toNatClampNeg = 3 from rfl, h3, if_neg (nI_ge (by omega) (by omega)), ixX, vin (show 400 + 2 * i < 516 by omega) (by decide), true_and, cl (show 400 + 2 * i < 2147483648 by omega)]
    by_cases hc : r (400 + 2 * i) = a
    · rw [if_pos (decide_eq_true hc)] at hn'
      rw [if_pos hc]
      exact hn'
    · rw [if_neg (by simp [hc])] at hn'
      rw [if_neg hc]
      exact hn'
theorem do_pool (a b : Int32) : DoQ (w_X9_pool a b) (w_X10_pool a b) := by
  intro σ r T ng np nx nl h
  obtain ⟨n1, n2, n3, n4⟩ := h.1.n
  rcases arg_n a (show nl < 1073741824 by omega) with ⟨k, hk, rfl⟩ | ha
  · have hN : ∀ (ρ : Mm) (Φ : Int32 → Mm → Prop), w_X10_noPool (nI k) (rw1 ρ r) Φ = Φ 0 (rw1 ρ r) := fun ρ Φ => s_noPool_y h.1.1.2.2.2.1.2.1 hk (by omega)
    have hA : ∀ (μ : Mm) (Φ : Option Nat → Mm → Prop), w_X8_poolAt 1 (nI k) (bl 1 σ μ) Φ = Φ (some (1 + 90 + k)) (bl 1 σ μ) := fun μ Φ => d_poolAt_y h.1.1.2.2.2.1.1 hk n4
    have bk : ∀ μ, bl 1 σ μ (1 + 90 + k) = σ (90 + k) := fun μ => by rw [Nat.add_assoc]; exact bl_at (by omega)
    have e0 : r (424 + 3 * k) = σ (90 + k) 0 := (h.1.2.2.2.2.1 k 0 hk (Or.inl (by decide))).symm
    have e1 : r (424 + 3 * k + 1) = σ (90 + k) 1 := (h.1.2.2.2.2.1 k 1 hk (Or.inl (by decide))).symm
    have e4 : r (424 + 3 * k + 2) = σ (90 + k) 4 := (h.1.2.2.2.2.1 k 4 hk (Or.inr rfl)).symm
    have e2 := inside_is h.1 h.2.2.1 h.2.2.2.2.2.2 hk
    have e3 : nI (cnt (fun x => decide (r (400 + 2 * x) = nI k)) nx) = σ (90 + k) 3 := by
      rw [h.2.2.2.2.2.2.2.2 k hk]
      congr 1
      exact cnt_congr (fun i hi => by rw [show r (400 + 2 * i) = σ (94 + i) 0 from (h.1.2.2.2.1 i 0 hi (by decide)).symm])
    have h3 : r 3 = nI nx := h.1.1.2.2.1.2.1
    have fin : ∀ (ρ : Mm) (Φ : Int32 → Mm → Prop), (if b = 0 then Φ (σ (90 + k) 0) (rw1 ρ r) else if b = 1 then Φ (σ (90 + k) 1) (rw1 ρ r) else if b = 2 then Φ (σ (90 + k) 2) (rw1 ρ r) else if b = 3 then Φ (σ (90 + k) 3) (rw1 ρ r) else if b = 4 then Φ (σ (90 + k) 4) (rw1 ρ r) else Φ (-2) (rw1 ρ r)) → w_X10_pool (nI k) b (rw1 ρ r) Φ := by
      intro ρ Φ hΦ
      unfold w_X10_pool
      rw [hN, if_pos rfl]
      refine pool_loop h3 n3 ?_ nx 0 (by omega)
      unfold w_X10_pool_15
      rw [rw1_1, show (3 : Int32).toNatClampNeg = 3 from rfl, h3, if_pos (nI_le (Nat.le_refl nx) (by omega)), e3, ixL]
      by_cases z0 : b = 0
      · rw [if_pos z0] at hΦ ⊢
        rw [z0, show nI (424 + 3 * k) + (0 : Int32) = nI (424 + 3 * k) from nI_add _ 0, vin (show 424 + 3 * k < 516 by omega) (by decide), true_and, cl (show 424 + 3 * k < 2147483648 by omega), e0]
        exact hΦ
      rw [if_neg z0] at hΦ ⊢
      by_cases z1 : b = 1
      · rw [if_pos z1] at hΦ ⊢
        rw [z1, show nI (424 + 3 * k) + (1 : Int32) = nI (424 + 3 * k + 1) from nI_1 _, vin (show 424 + 3 * k + 1 < 516 by omega) (by decide), true_and, cl (show 424 + 3 * k + 1 < 2147483648 by omega), e1]
        exact hΦ
      rw [if_neg z1] at hΦ ⊢
      by_cases z2 : b = 2
      · rw [if_pos z2] at hΦ ⊢
        rw [s_insideBy h.1.1.2.1.2.1 n2 (pass_ok h.1 h.2.2.1), e2]
        exact hΦ
      rw [if_neg z2] at hΦ ⊢
      by_cases z3 : b = 3
      · rw [if_pos z3] at hΦ ⊢
        exact hΦ
      rw [if_neg z3] at hΦ ⊢
      by_cases z4 : b = 4
      · rw [if_pos z4] at hΦ ⊢
        rw [show nI (424 + 3 * k) + (2 : Int32) = nI (424 + 3 * k + 2) from nI_add _ 2, vin (show 424 + 3 * k + 2 < 516 by omega) (by decide), true_and, cl (show 424 + 3 * k + 2 < 2147483648 by omega), e4]
        exact hΦ
      rw [if_neg z4] at hΦ ⊢
      exact hΦ
    obtain ⟨v, hv⟩ : ∃ v : Int32, v = (if b = 0 then σ (90 + k) 0 else if b = 1 then σ (90 + k) 1 else if b = 2 then σ (90 + k) 2 else if b = 3 then σ (90 + k) 3 else if b = 4 then σ (90 + k) 4 else -2) := ⟨_, rfl⟩
    have pick : ∀ (u : Mm) (Φ : Int32 → Mm → Prop), Φ v u → (if b = 0 then Φ (σ (90 + k) 0) u else if b = 1 then Φ (σ (90 + k) 1) u else if b = 2 then Φ (σ (90 + k) 2) u else if b = 3 then Φ (σ (90 + k) 3) u else if b = 4 then Φ (σ (90 + k) 4) u else Φ (-2) u) := by
      intro u Φ hΦ
      rw [hv] at hΦ
      by_cases z0 : b = 0
      · rw [if_pos z0] at hΦ ⊢; exact hΦ
      rw [if_neg z0] at hΦ ⊢
      by_cases z1 : b = 1
      · rw [if_pos z1] at hΦ ⊢; exact hΦ
      rw [if_neg z1] at hΦ ⊢
      by_cases z2 : b = 2
      · rw [if_pos z2] at hΦ ⊢; exact hΦ
      rw [if_neg z2] at hΦ ⊢
      by_cases z3 : b = 3
      · rw [if_pos z3] at hΦ ⊢; exact hΦ
      rw [if_neg z3] at hΦ ⊢
      by_cases z4 : b = 4
      · rw [if_pos z4] at hΦ ⊢; exact hΦ
      rw [if_neg z4] at hΦ ⊢
      exact hΦ
    refine ⟨v, fun μ Φ hΦ => ?_, fun ρ Φ hΦ => fin ρ Φ (pick _ _ hΦ)⟩
    unfold w_X9_pool
    rw [hA, opt_some, bk]
    exact pick _ _ hΦ
  · refine ⟨-1, fun μ Φ hΦ => ?_, fun ρ Φ hΦ => ?_⟩
    · unfold w_X9_pool
      rw [d_poolAt_n h.1.1.2.2.2.1.1 ha, opt_none]
      exact hΦ
    · unfold w_X10_pool
      rw [s_noPool_n h.1.1.2.2.2.1.2.1 ha (by omega), if_neg (by decide)]
      exact hΦ
theorem op_pool : Op_pool Sim := fun n μ ρ hn hS a b => op_ask (do_pool a b) hn hS
end START
