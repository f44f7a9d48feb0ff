/-! a number out of a cell; why somebody is refused -/
section LOW29
variable {r : Nat → Int32} {ng np nx nl g p T : Nat} {μ : Mm}
theorem low29 (a : Int32) {N : Int32} (n : Nat) (hN : N = nI n) (h0 : 0 < n) (hn : n < 2147483648) : ∃ k, k < n ∧ ∀ (u : Mm) (Φ : Int32 → Mm → Prop), w_L_low a N u Φ = Φ (nI k) u := by
  obtain ⟨j, hj, e⟩ := pk_andE a (m := 2147483647) 31 (by decide)
  refine ⟨j % n, Nat.mod_lt _ h0, fun u Φ => ?_⟩
  unfold w_L_low
  rw [hN, e, pk_rem (by omega) h0 (by omega), eq_true (nI_ne0 h0 (by omega)), true_and]
theorem l_refusal {Φ : Int32 → Mm → Prop} (h : Rel (HB μ 1) r T ng np nx 1) (hp : p < np) : w_L_refusal (nI p) μ Φ = Φ (whyR r np p) μ := by
  unfold w_L_refusal whyR
  rw [rp_1 h hp]
  rcases rel_pass h hp with e | ⟨x, hx, e, e0⟩
  · rw [e, if_neg (by decide), if_neg (by decide)]
  · have n3 := h.1.n.2.2.1
    rw [e, if_pos (nI_pos' (by omega)), if_pos (nI_pos' (by omega)), rx_0 h hx, rx_1 h hx, cl (show x < 2147483648 by omega)]
    by_cases hb : r (400 + 2 * x + 1) = 1
    · rw [if_pos hb, if_pos hb]
    · rw [if_neg hb, if_neg hb, rx_2 h hx]
      by_cases hu : fnd (uB r (nI x)) np 0 < 0
      · rw [if_pos hu, if_pos hu, rl_2 h, rl_1 h]
        by_cases hi : nI (cnt (oB r 0) np) < r 425
        · rw [if_pos hi, if_pos hi, rl_0 h, rc_9 h]
          by_cases hc : r 6 ≤ r 424
          · rw [if_pos hc, if_pos hc]
          · rw [if_neg hc, if_neg hc]
        · rw [if_neg hi, if_neg hi]
      · rw [if_neg hu, if_neg hu]
end LOW29
