/-! why somebody is refused -/
section REASON
variable {σ : Mm} {r : Nat → Int32} {T ng np nx nl p : Nat}
/-- may go in by pass x of pool k -/
def MayGo (σ : Mm) (nx nl p x k : Nat) : Prop := x < nx ∧ k < nl ∧ σ (50 + p) 0 = nI x ∧ σ (94 + x) 0 = nI k ∧ σ (94 + x) 2 = -5
theorem sim_reason (hC : Core σ r T ng np nx nl) (hVP : ∀ p, p < np → VP σ T nx p) (hVX : ∀ x, x < nx → VX σ nl x) (hU : KU σ np nx nl) (hp : p < np) : ∃ v, v ≤ 5 ∧ (∀ (S : Nat) (μ : Mm) (Φ : Int32 → Mm → Prop), w_X8_reasonToRefuse S (S + 50 + p) (bl S σ μ) Φ = Φ (nI v) (bl S σ μ)) ∧ (∀ (ρ : Mm) (Φ : Int32 → Mm → Prop), w_X10_refusal (nI p) (rw1 ρ r) Φ = Φ (nI v) (rw1 ρ r)) ∧ (v = 0 → ∃ x k, MayGo σ nx nl p x k) := by
  obtain ⟨n1, n2, n3, n4⟩ := hC.n
  have hp40 : p < 40 := by omega
  have er : r (120 + 7 * p + 1) = σ (50 + p) 0 := (hC.2.2.1 p 0 hp (by decide)).symm
  have h2 : r 2 = nI np := hC.1.2.1.2.1
  have bp : ∀ S μ, bl S σ μ (S + 50 + p) = σ (50 + p) := fun S μ => by rw [Nat.add_assoc]; exact bl_at (by omega)
  obtain ⟨w, -, -, -, hpass, -⟩ := hVP p hp
  rcases hpass with hpass | ⟨x, hx, hpass⟩
  · refine ⟨1, by decide, fun S μ Φ => ?_, fun ρ Φ => ?_, fun h => by omega⟩
    · unfold w_X8_reasonToRefuse
      rw [bp, hpass, d_passAt_n hC.1.2.2.1.1 (Or.inl (by decide)), opt_none]
      rfl
    · unfold w_X10_refusal
      rw [s_of_1 hp40, er, hpass, if_neg (by decide)]
      rfl
  · obtain ⟨k, hk, ek, hb⟩ := hVX x hx
    have e0 : r (400 + 2 * x) = nI k := by rw [← ek]; exact (hC.2.2.2.1 x 0 hx (by decide)).symm
    have e1 : r (400 + 2 * x + 1) = σ (94 + x) 1 := (hC.2.2.2.1 x 1 hx (by decide)).symm
    have l0 : r (424 + 3 * k) = σ (90 + k) 0 := (hC.2.2.2.2.1 k 0 hk (by decide)).symm
    have l1 : r (424 + 3 * k + 1) = σ (90 + k) 1 := (hC.2.2.2.2.1 k 1 hk (by decide)).symm
    have hf : r 6 = σ 0 10 := hC.1.2.2.2.2.1.symm
    have hus := user_is hC hVP hU hx
    have hins := inside_is hC hVP hU hk
    have bx : ∀ S μ, bl S σ μ (S + 94 + x) = σ (94 + x) := fun S μ => by rw [Nat.add_assoc]; exact bl_at (by omega)
    have bk : ∀ S μ, bl S σ μ (S + 90 + k) = σ (90 + k) := fun S μ => by rw [Nat.add_assoc]; exact bl_at (by omega)
    have CC : ∀ (S : Nat) (μ : Mm) (Φ : Int32 → Mm → Prop), w_X8_reasonToRefuse S (S + 50 + p) (bl S σ μ) Φ = (if σ (94 + x) 1 = 0 then (if σ (94 + x) 2 = (-5 : Int32) then (if σ (90 + k) 2 < σ (90 + k) 1 then (if σ 0 10 ≤ σ (90 + k) 0 then Φ 0 (bl S σ μ) else Φ 5 (bl S σ μ)) else Φ 4 (bl S σ μ)) else Φ 3 (bl S σ μ)) else Φ 2 (bl S σ μ)) := by
      intro S μ Φ
      unfold w_X8_reasonToRefuse
      rw [bp, hpass, d_passAt_y hC.1.2.2.1.1 hx n3, opt_some, bx, ek, d_poolAt_y hC.1.2.2.2.1.1 hk n4, opt_some]
      unfold w_X8_reasonToRefuse_25c
      rw [bx, bk, bl_0]
    have RR : ∀ (ρ : Mm) (Φ : Int32 → Mm → Prop), w_X10_refusal (nI p) (rw1 ρ r) Φ = (if σ (94 + x) 1 = 1 then Φ 2 (rw1 ρ r) else (if σ (94 + x) 2 < 0 then (if σ (90 + k) 2 < σ (90 + k) 1 then (if σ 0 10 ≤ σ (90 + k) 0 then Φ 0 (rw1 ρ r) else Φ 5 (rw1 ρ r)) else Φ 4 (rw1 ρ r)) else Φ 3 (rw1 ρ r))) := by
      intro ρ Φ
      unfold w_X10_refusal
      rw [s_of_1 hp40, er, hpass, if_pos (nI_pos' (by omega)), ixX, show nI (400 + 2 * x) + (1 : Int32) = nI (400 + 2 * x + 1) from nI_1 _, vin (show 400 + 2 * x + 1 < 516 by omega) (by decide), true_and, rw1_1, cl (show 400 + 2 * x + 1 < 2147483648 by omega), e1]
      simp only [s_userOf h2 n2, hus, vin (show 400 + 2 * x < 516 by omega) (show 516 < 2147483648 by decide), true_and, rw1_1, cl (show 400 + 2 * x < 2147483648 by omega), e0, s_insideBy h2 n2 (pass_ok hC hVP), hins, ixL, show nI (424 + 3 * k) + (1 : Int32) = nI (424 + 3 * k + 1) from nI_1 _, vin (show 424 + 3 * k < 516 by omega) (show 516 < 2147483648 by decide), vin (show 424 + 3 * k + 1 < 516 by omega) (show 516 < 2147483648 by decide), cl (show 424 + 3 * k < 2147483648 by omega), cl (show 424 + 3 * k + 1 < 2147483648 by omega), l0, l1, show (6 : Int32).toNatClampNeg = 6 from rfl, hf]
    rcases hb with hb | hb
    · have hb1 : ¬ σ (94 + x) 1 = 1 := by rw [hb]; decide
      by_cases hu : σ (94 + x) 2 = -5
      · have hu0 : σ (94 + x) 2 < 0 := by rw [hu]; decide
        by_cases hi : σ (90 + k) 2 < σ (90 + k) 1
        · by_cases hc : σ 0 10 ≤ σ (90 + k) 0
          · exact ⟨0, by decide, fun S μ Φ => by rw [CC, if_pos hb, if_pos hu, if_pos hi, if_pos hc]; rfl, fun ρ Φ => by rw [RR, if_neg hb1, if_pos hu0, if_pos hi, if_pos hc]; rfl, fun _ => ⟨x, k, hx, hk, hpass, ek, hu⟩⟩
          · exact ⟨5, by decide, fun S μ Φ => by rw [CC, if_pos hb, if_pos hu, if_pos hi, if_neg hc]; rfl, fun ρ Φ => by rw [RR, if_neg hb1, if_pos hu0, if_pos hi, if_neg hc]; rfl, fun h => by omega⟩
        · exact ⟨4, by decide, fun S μ Φ => by rw [CC, if_pos hb, if_pos hu, if_neg hi]; rfl, fun ρ Φ => by rw [RR, if_neg hb1, if_pos hu0, if_neg hi]; rfl, fun h => by omega⟩
      · have hu0 : ¬ σ (94 + x) 2 < 0 := by
          rcases hU.1 x hx with ⟨a, -⟩ | ⟨q, hq, a, -⟩
          · exact absurd a hu
          · rw [a]; exact nI_pos (by omega)
        exact ⟨3, by decide, fun S μ Φ => by rw [CC, if_pos hb, if_neg hu]; rfl, fun ρ Φ => by rw [RR, if_neg hb1, if_neg hu0]; rfl, fun h => by omega⟩
    · have hb0 : ¬ σ (94 + x) 1 = 0 := by rw [hb]; decide
      exact ⟨2, by decide, fun S μ Φ => by rw [CC, if_neg hb0]; rfl, fun ρ Φ => by rw [RR, if_pos hb]; rfl, fun h => by omega⟩
end REASON
