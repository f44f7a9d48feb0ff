/-! a State copied into another -/
/-- each cell stays, or becomes the other's -/
def Cpy (σ τ τ' : Mm) : Prop := ∀ q j, τ' q j = τ q j ∨ τ' q j = σ q j
theorem Cpy.refl {σ τ : Mm} : Cpy σ τ τ := fun _ _ => Or.inl rfl
theorem Cpy.trans {σ τ τ' τ'' : Mm} (h : Cpy σ τ τ') (h2 : Cpy σ τ' τ'') : Cpy σ τ τ'' := fun q j => by
  rcases h2 q j with e | e
  · rw [e]; exact h q j
  · exact Or.inr e
theorem Cpy.at {σ τ τ' : Mm} (h : Cpy σ τ τ') {q j : Nat} (e : τ q j = σ q j) : τ' q j = σ q j := by
  rcases h q j with e2 | e2
  · rw [e2, e]
  · exact e2
theorem Cpy.one {σ τ : Mm} (q j : Nat) : Cpy σ τ (up2 τ q j (σ q j)) := fun a b => by
  by_cases h : a = q ∧ b = j
  · obtain ⟨rfl, rfl⟩ := h
    exact Or.inr (up2_s _ _ _ _)
  · exact Or.inl (up2_n (by omega))
theorem Cpy.val {σ τ τ' : Mm} {q j : Nat} {v : Int32} (h : Cpy σ τ τ') (hv : v = σ q j) : Cpy σ τ (up2 τ' q j v) := by
  rw [hv]
  exact h.trans (Cpy.one q j)
theorem Cpy.arr {σ τ τ' : Mm} {q n : Nat} (h : Cpy σ τ τ') : Cpy σ τ (upA τ' q (va_cpy (σ q) (τ' q) 0 0 n)) := h.trans (fun a b => by
  unfold upA
  by_cases e : a = q
  · rw [if_pos e, e]
    unfold va_cpy
    by_cases h2 : 0 ≤ b ∧ b < 0 + n
    · rw [if_pos h2, show 0 + (b - 0) = b by omega]
      exact Or.inr rfl
    · rw [if_neg h2]
      exact Or.inl rfl
  · rw [if_neg e]
    exact Or.inl rfl)
theorem arr_at {τ σ : Mm} {q n j : Nat} (hj : j < n) : upA τ q (va_cpy (σ q) (τ q) 0 0 n) q j = σ q j := by
  unfold upA
  rw [if_pos rfl]
  unfold va_cpy
  rw [if_pos (by omega), show 0 + (j - 0) = j by omega]
section COPY
variable {S S' : Nat} {σ τ μ : Mm}
theorem t00 : (0 : Int32).toNatClampNeg = 0 := rfl
theorem t20 : (20 : Int32).toNatClampNeg = 20 := rfl
theorem n00 : (¬ (0 : Int32) < 0) = True := eq_true (by decide)
theorem n20 : (¬ (20 : Int32) < 0) = True := eq_true (by decide)
theorem l20 : (0 + 20 ≤ 20) = True := eq_true (by decide)
theorem d_qcopy {c n : Nat} (hrd : ∀ (τ : Mm) (q : Nat), q < 106 → bl S' τ μ (S + q) = σ q) (hc : c + 1 < 106) (hl : σ c 1 = nI n) (hn : n ≤ 40) : ∃ τ', Cpy σ τ τ' ∧ τ' c 1 = σ c 1 ∧ (∀ j, j < n → τ' (c + 1) j = σ (c + 1) j) ∧ ∀ (Φ : Unit → Mm → Prop), Φ () (bl S' τ' μ) → w_X7_copyFrom (S' + c) (S + c) (bl S' τ μ) Φ := by
  have h40 : ¬ (40 : Int32) < nI n := nI_nlt (a := 40) (b := n) (by omega) (by omega)
  have hc0 : c < 106 := by omega
  obtain ⟨τ1, h1⟩ : ∃ τ1 : Mm, τ1 = up2 τ c 1 (nI n) := ⟨_, rfl⟩
  obtain ⟨τ2, h2⟩ : ∃ τ2 : Mm, τ2 = upA τ1 (c + 1) (va_cpy (σ (c + 1)) (τ1 (c + 1)) 0 0 n) := ⟨_, rfl⟩
  have v1 : τ1 c 1 = nI n := by rw [h1, up2_s]
  have k1 : Cpy σ τ τ1 := by rw [h1]; exact Cpy.refl.val hl.symm
  refine ⟨τ2, by rw [h2]; exact k1.arr, ?_, fun j hj => ?_, fun Φ hΦ => ?_⟩
  · rw [h2]
    unfold upA
    rw [if_neg (by omega), v1, hl]
  · rw [h2]
    exact arr_at hj
  · unfold w_X7_copyFrom
    rw [hrd τ c hc0, hl, if_neg h40, up2_bl hc0, ← h1]
    rintro _ rfl
    rw [bl_at hc0, v1, Nat.add_assoc, Nat.add_assoc, hrd τ1 (c + 1) hc, bl_at hc, upA_bl hc, t00, cl (by omega), ← h2]
    refine ⟨by decide, by decide, nI_pos (by omega), by omega, by omega, ?_⟩
    rintro _ rfl
    exact hΦ
theorem d_fcopy4 {p : Nat} (hrd : ∀ (τ : Mm) (q : Nat), q < 106 → bl S' τ μ (S + q) = σ q) (hp : 94 + p < 106) (hB : isB (σ (94 + p) 1)) : ∃ τ', Cpy σ τ τ' ∧ (∀ j, j < 3 → τ' (94 + p) j = σ (94 + p) j) ∧ ∀ (Φ : Unit → Mm → Prop), Φ () (bl S' τ' μ) → w_X4_copyFrom (S' + 94 + p) (S + 94 + p) (bl S' τ μ) Φ := by
  refine ⟨up2 (up2 (up2 τ (94 + p) 0 (σ (94 + p) 0)) (94 + p) 1 (σ (94 + p) 1)) (94 + p) 2 (σ (94 + p) 2), ((Cpy.refl.val rfl).val rfl).val rfl, fun j hj => ?_, fun Φ hΦ => ?_⟩
  · rcases (show j = 0 ∨ j = 1 ∨ j = 2 by omega) with rfl | rfl | rfl
    · rw [up2_n (Or.inr (by decide)), up2_n (Or.inr (by decide)), up2_s]
    · rw [up2_n (Or.inr (by decide)), up2_s]
    · rw [up2_s]
  · unfold w_X4_copyFrom
    simp only [forall_eq, Nat.add_assoc, hrd _ (94 + p) hp, up2_bl hp]
    exact ⟨hB, hΦ⟩
theorem d_fcopy6 {p : Nat} (hrd : ∀ (τ : Mm) (q : Nat), q < 106 → bl S' τ μ (S + q) = σ q) (hp : 90 + p < 106) : ∃ τ', Cpy σ τ τ' ∧ (∀ j, j < 5 → τ' (90 + p) j = σ (90 + p) j) ∧ ∀ (Φ : Unit → Mm → Prop), Φ () (bl S' τ' μ) → w_X6_copyFrom (S' + 90 + p) (S + 90 + p) (bl S' τ μ) Φ := by
  refine ⟨up2 (up2 (up2 (up2 (up2 τ (90 + p) 0 (σ (90 + p) 0)) (90 + p) 1 (σ (90 + p) 1)) (90 + p) 2 (σ (90 + p) 2)) (90 + p) 3 (σ (90 + p) 3)) (90 + p) 4 (σ (90 + p) 4), ((((Cpy.refl.val rfl).val rfl).val rfl).val rfl).val rfl, fun j hj => ?_, fun Φ hΦ => ?_⟩
  · rcases (show j = 0 ∨ j = 1 ∨ j = 2 ∨ j = 3 ∨ j = 4 by omega) with rfl | rfl | rfl | rfl | rfl
    · rw [up2_n (Or.inr (by decide)), up2_n (Or.inr (by decide)), up2_n (Or.inr (by decide)), up2_n (Or.inr (by decide)), up2_s]
    · rw [up2_n (Or.inr (by decide)), up2_n (Or.inr (by decide)), up2_n (Or.inr (by decide)), up2_s]
    · rw [up2_n (Or.inr (by decide)), up2_n (Or.inr (by decide)), up2_s]
    · rw [up2_n (Or.inr (by decide)), up2_s]
    · rw [up2_s]
  · unfold w_X6_copyFrom
    simp only [forall_eq, Nat.add_assoc, hrd _ (90 + p) hp, up2_bl hp]
    exact hΦ
theorem d_fcopy5 {p : Nat} (hrd : ∀ (τ : Mm) (q : Nat), q < 106 → bl S' τ μ (S + q) = σ q) (hp : 50 + p < 106) (hB : isB (σ (50 + p) 1)) (hB6 : isB (σ (50 + p) 6)) : ∃ τ', Cpy σ τ τ' ∧ (∀ j, j < 7 → τ' (50 + p) j = σ (50 + p) j) ∧ ∀ (Φ : Unit → Mm → Prop), Φ () (bl S' τ' μ) → w_X5_copyFrom (S' + 50 + p) (S + 50 + p) (bl S' τ μ) Φ := by
  refine ⟨up2 (up2 (up2 (up2 (up2 (up2 (up2 τ (50 + p) 0 (σ (50 + p) 0)) (50 + p) 1 (σ (50 + p) 1)) (50 + p) 2 (σ (50 + p) 2)) (50 + p) 3 (σ (50 + p) 3)) (50 + p) 4 (σ (50 + p) 4)) (50 + p) 5 (σ (50 + p) 5)) (50 + p) 6 (σ (50 + p) 6), ((((((Cpy.refl.val rfl).val rfl).val rfl).val rfl).val rfl).val rfl).val rfl, fun j hj => ?_, fun Φ hΦ => ?_⟩
  · rcases (show j = 0 ∨ j = 1 ∨ j = 2 ∨ j = 3 ∨ j = 4 ∨ j = 5 ∨ j = 6 by omega) with rfl | rfl | rfl | rfl | rfl | rfl | rfl
    · rw [up2_n (Or.inr (by decide)), up2_n (Or.inr (by decide)), up2_n (Or.inr (by decide)), up2_n (Or.inr (by decide)), up2_n (Or.inr (by decide)), up2_n (Or.inr (by decide)), up2_s]
    · rw [up2_n (Or.inr (by decide)), up2_n (Or.inr (by decide)), up2_n (Or.inr (by decide)), up2_n (Or.inr (by decide)), up2_n (Or.inr (by decide)), up2_s]
    · rw [up2_n (Or.inr (by decide)), up2_n (Or.inr (by decide)), up2_n (Or.inr (by decide)), up2_n (Or.inr (by decide)), up2_s]
    · rw [up2_n (Or.inr (by decide)), up2_n (Or.inr (by decide)), up2_n (Or.inr (by decide)), up2_s]
    · rw [up2_n (Or.inr (by decide)), up2_n (Or.inr (by decide)), up2_s]
    · rw [up2_n (Or.inr (by decide)), up2_s]
    · rw [up2_s]
  · unfold w_X5_copyFrom
    simp only [forall_eq, Nat.add_assoc, hrd _ (50 + p) hp, up2_bl hp]
    exact ⟨hB, hB6, hΦ⟩
theorem d_ecopy (hrd : ∀ (τ : Mm) (q : Nat), q < 106 → bl S' τ μ (S + q) = σ q) : ∃ τ', Cpy σ τ τ' ∧ τ' 5 4 = σ 5 4 ∧ τ' 5 5 = σ 5 5 ∧ (∀ q j, 6 ≤ q → q < 10 → j < 20 → τ' q j = σ q j) ∧ ∀ (Φ : Unit → Mm → Prop), Φ () (bl S' τ' μ) → w_X0_copyFrom (S' + 5) (S + 5) (bl S' τ μ) Φ := by
  obtain ⟨τ1, h1⟩ : ∃ τ1 : Mm, τ1 = upA τ 6 (va_cpy (σ 6) (τ 6) 0 0 20) := ⟨_, rfl⟩
  obtain ⟨τ2, h2⟩ : ∃ τ2 : Mm, τ2 = upA τ1 7 (va_cpy (σ 7) (τ1 7) 0 0 20) := ⟨_, rfl⟩
  obtain ⟨τ3, h3⟩ : ∃ τ3 : Mm, τ3 = upA τ2 8 (va_cpy (σ 8) (τ2 8) 0 0 20) := ⟨_, rfl⟩
  obtain ⟨τ4, h4⟩ : ∃ τ4 : Mm, τ4 = upA τ3 9 (va_cpy (σ 9) (τ3 9) 0 0 20) := ⟨_, rfl⟩
  obtain ⟨τ5, h5⟩ : ∃ τ5 : Mm, τ5 = up2 τ4 5 4 (σ 5 4) := ⟨_, rfl⟩
  obtain ⟨τ6, h6⟩ : ∃ τ6 : Mm, τ6 = up2 τ5 5 5 (σ 5 5) := ⟨_, rfl⟩
  have k1 : Cpy σ τ τ1 := by rw [h1]; exact Cpy.refl.arr
  have k2 : Cpy σ τ1 τ2 := by rw [h2]; exact Cpy.refl.arr
  have k3 : Cpy σ τ2 τ3 := by rw [h3]; exact Cpy.refl.arr
  have k4 : Cpy σ τ3 τ4 := by rw [h4]; exact Cpy.refl.arr
  have k5 : Cpy σ τ4 τ5 := by rw [h5]; exact Cpy.one _ _
  have k6 : Cpy σ τ5 τ6 := by rw [h6]; exact Cpy.one _ _
  refine ⟨τ6, ((((k1.trans k2).trans k3).trans k4).trans k5).trans k6, ?_, ?_, fun q j a b hj => ?_, fun Φ hΦ => ?_⟩
  · exact k6.at (by rw [h5, up2_s])
  · rw [h6, up2_s]
  · rcases (show q = 6 ∨ q = 7 ∨ q = 8 ∨ q = 9 by omega) with rfl | rfl | rfl | rfl
    · exact ((((k2.trans k3).trans k4).trans k5).trans k6).at (by rw [h1]; exact arr_at hj)
    · exact (((k3.trans k4).trans k5).trans k6).at (by rw [h2]; exact arr_at hj)
    · exact ((k4.trans k5).trans k6).at (by rw [h3]; exact arr_at hj)
    · exact (k5.trans k6).at (by rw [h4]; exact arr_at hj)
  · unfold w_X0_copyFrom
    simp only [forall_eq, Nat.add_assoc, Nat.reduceAdd, n00, n20, t00, t20, l20, true_and, hrd _ 6 (by decide), hrd _ 7 (by decide), hrd _ 8 (by decide), hrd _ 9 (by decide), hrd _ 5 (by decide), bl_at (show 6 < 106 by decide), bl_at (show 7 < 106 by decide), bl_at (show 8 < 106 by decide), bl_at (show 9 < 106 by decide), upA_bl (show 6 < 106 by decide), upA_bl (show 7 < 106 by decide), upA_bl (show 8 < 106 by decide), upA_bl (show 9 < 106 by decide), up2_bl (show 5 < 106 by decide)]
    rw [← h1, ← h2, ← h3, ← h4, ← h5, ← h6]
    exact hΦ
end COPY
