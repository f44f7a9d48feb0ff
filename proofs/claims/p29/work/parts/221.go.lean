section GO
variable {σ : Mm} {r : Nat → Int32} {T ng np nx nl g p : Nat}
/-- the gate's counters of who passed -/
def SameCnt (r r' : Nat → Int32) : Prop := ∀ g, g < 8 → r' (8 + 14 * g + 10) = r (8 + 14 * g + 10) ∧ r' (8 + 14 * g + 11) = r (8 + 14 * g + 11)
theorem sim_go {b : Int32} (hC : Core σ r T ng np nx nl) (hVG : ∀ g', g' < ng → g' ≠ g → VG σ r np g') (hVP : ∀ q, q < np → q ≠ p → VP σ T nx q) (hVX : ∀ x, x < nx → VX σ nl x) (hQ : KQp σ r ng np p) (hN : ∀ q, q < np → q ≠ p → (σ (50 + q) 2 = nI 1 ∨ σ (50 + q) 2 = nI 4) → NumOk r q) (hg : g < ng) (hp : p < np) (hdir : ∃ d, d ≤ 2 ∧ σ (10 + 5 * g) 2 = nI d) (htold : isB (σ (10 + 5 * g) 9)) (e3 : σ (50 + p) 3 = nI g) (hx : ∃ x, x < nx ∧ σ (50 + p) 0 = nI x) (hsl : isB (σ (50 + p) 1)) (h6 : (b = 1 ∧ σ (50 + p) 6 = 0) ∨ (b = 0 ∧ σ (50 + p) 6 = 1)) (hne2 : ∀ g', g' < ng → g' ≠ g → ∀ q, σ (10 + 5 * g') 8 = nI q → σ (50 + q) 3 = nI g' → q < np → q ≠ p)
    (hU : ∀ σ' : Mm, (∀ q j, q ≠ 10 + 5 * g → ¬ (q = 50 + p ∧ j = 2) → σ' q j = σ q j) → σ' (50 + p) 2 = nI 2 → KU σ' np nx nl) :
    ∃ σ' r', Rel σ' r' T ng np nx nl ∧ (∀ (S : Nat) (μ : Mm) (Φ : Unit → Mm → Prop), w_X8_takeNext_115 Φ (S + 10 + 5 * g) (nI p) (S + 50 + p) (bl S σ μ) = Φ () (bl S σ' μ)) ∧ (∀ (ρ : Mm) (Φ : Unit → Mm → Prop), w_X10_takeNext_166 Φ (nI g) (nI p) b (rw1 ρ r) = Φ () (rw1 ρ r')) ∧ SameCnt r r' := by
  obtain ⟨n1, n2, n3, n4⟩ := hC.n
  have hg8 : g < 8 := by omega
  have hp40 : p < 40 := by omega
  have er1 : σ (10 + 5 * g) 3 = r (8 + 14 * g + 1) := hC.2.1 g 1 hg (by decide)
  obtain ⟨σ', hS⟩ : ∃ σ' : Mm, σ' = (up2 (up2 (up2 (up2 (up2 σ (50 + p) 2 (2)) (10 + 5 * g) 8 (nI p)) (10 + 5 * g) 10 (0)) (10 + 5 * g) 6 (1)) (10 + 5 * g) 7 (σ (10 + 5 * g) 3)) := ⟨_, rfl⟩
  obtain ⟨r', hR⟩ : ∃ r' : Nat → Int32, r' = (upd (upd (upd (upd (upd (upd r (120 + 7 * p + 0) (2)) (8 + 14 * g + 6) (nI p)) (8 + 14 * g + 7) (b)) (8 + 14 * g + 8) (0)) (8 + 14 * g + 4) (1)) (8 + 14 * g + 5) (r (8 + 14 * g + 1))) := ⟨_, rfl⟩
  have o : ∀ q j, (¬ (q = 50 + p ∧ j = 2) ∧ ¬ (q = 10 + 5 * g ∧ j = 8) ∧ ¬ (q = 10 + 5 * g ∧ j = 10) ∧ ¬ (q = 10 + 5 * g ∧ j = 6) ∧ ¬ (q = 10 + 5 * g ∧ j = 7)) → σ' q j = σ q j := by
    intro q j hqj
    rw [hS, up2_n (by omega), up2_n (by omega), up2_n (by omega), up2_n (by omega), up2_n (by omega)]
  have ro : ∀ i, (i ≠ 120 + 7 * p + 0 ∧ i ≠ 8 + 14 * g + 6 ∧ i ≠ 8 + 14 * g + 7 ∧ i ≠ 8 + 14 * g + 8 ∧ i ≠ 8 + 14 * g + 4 ∧ i ≠ 8 + 14 * g + 5) → r' i = r i := by
    intro i hi
    rw [hR, pk_un (by omega), pk_un (by omega), pk_un (by omega), pk_un (by omega), pk_un (by omega), pk_un (by omega)]
  have v0 : σ' (50 + p) 2 = 2 := by
    rw [hS, up2_n (by omega), up2_n (by omega), up2_n (by omega), up2_n (by omega), up2_s]
  have v1 : σ' (10 + 5 * g) 8 = nI p := by
    rw [hS, up2_n (by omega), up2_n (by omega), up2_n (by omega), up2_s]
  have v2 : σ' (10 + 5 * g) 10 = 0 := by
    rw [hS, up2_n (by omega), up2_n (by omega), up2_s]
  have v3 : σ' (10 + 5 * g) 6 = 1 := by
    rw [hS, up2_n (by omega), up2_s]
  have v4 : σ' (10 + 5 * g) 7 = σ (10 + 5 * g) 3 := by
    rw [hS, up2_s]
  have w0 : r' (120 + 7 * p + 0) = 2 := by
    rw [hR, pk_un (by omega), pk_un (by omega), pk_un (by omega), pk_un (by omega), pk_un (by omega), pk_us]
  have w1 : r' (8 + 14 * g + 6) = nI p := by
    rw [hR, pk_un (by omega), pk_un (by omega), pk_un (by omega), pk_un (by omega), pk_us]
  have w2 : r' (8 + 14 * g + 7) = b := by
    rw [hR, pk_un (by omega), pk_un (by omega), pk_un (by omega), pk_us]
  have w3 : r' (8 + 14 * g + 8) = 0 := by
    rw [hR, pk_un (by omega), pk_un (by omega), pk_us]
  have w4 : r' (8 + 14 * g + 4) = 1 := by
    rw [hR, pk_un (by omega), pk_us]
  have w5 : r' (8 + 14 * g + 5) = r (8 + 14 * g + 1) := by
    rw [hR, pk_us]
  refine ⟨σ', r', ⟨?_, ?_, ?_, ?_, ?_, ?_, ?_⟩, fun S μ Φ => ?_, fun ρ Φ => ?_, fun g' hg' => ⟨ro _ (by omega), ro _ (by omega)⟩⟩
  · have kk := (((((hC.person (v := 2) hp40 (f := 2) (by decide)).gate (v := nI p) hg8 (f := 6) (by decide)).ref (i := 8 + 14 * g + 7) (v := b) (Or.inl ⟨g, hg8, rfl⟩)).gate (v := 0) hg8 (f := 8) (by decide)).gate (v := 1) hg8 (f := 4) (by decide)).gate (v := σ (10 + 5 * g) 3) hg8 (f := 5) (by decide)
    rw [hS, hR]
    rw [er1] at kk ⊢
    exact kk
  · intro g' hg'
    by_cases hgg : g' = g
    · subst hgg
      obtain ⟨d, hd, hd2⟩ := hdir
      refine ⟨d, 1, hd, by rw [o _ _ (by omega)]; exact hd2, by decide, v3, by rw [o _ _ (by omega)]; exact htold, Or.inr ⟨by decide, p, 0, hp, by decide, v1, v2, v0, by rw [o _ _ (by omega)]; exact e3, ?_⟩⟩
      rw [w2, o _ _ (by omega)]
      exact h6
    · exact VG_keep (fun f => o _ _ (by omega)) (fun q hq h8 h3 => by
        have := hne2 g' hg' hgg q h8 h3 hq
        exact ⟨o _ _ (by omega), o _ _ (by omega), o _ _ (by omega)⟩) (ro _ (by omega)) (hVG g' hg' hgg)
  · intro q hq
    by_cases hqp : q = p
    · subst hqp
      refine ⟨2, by decide, v0, ⟨by rw [o _ _ (by omega)]; exact hsl, by
        rw [o _ _ (by omega)]
        rcases h6 with ⟨-, q6⟩ | ⟨-, q6⟩
        · exact Or.inl q6
        · exact Or.inr q6⟩, by rw [o _ _ (by omega)]; exact Or.inr hx, fun h => by omega, fun h => by omega, fun h => by omega, fun _ => by rw [o _ _ (by omega)]; exact hx⟩
    · exact VP_keep (fun f => o _ _ (by omega)) (hVP q hq hqp)
  · intro x hx'
    exact VX_keep (fun f _ => o _ _ (by omega)) (hVX x hx')
  · refine KQp_done (p := p) (KQp_keep n1 (fun q h1 h2 h3 j => ?_) (fun q hq hne => ⟨o _ _ (by omega), o _ _ (by omega)⟩) (fun q hq hne => ro _ (by omega)) hQ) (fun e he => ?_)
    · have := h3 g
      exact o _ _ (by omega)
    · rw [v0]; exact fun e' => by have := nI_inj (a := 2) (by omega) (by omega) e'; omega
  · intro q hq hw
    by_cases hqp : q = p
    · subst hqp
      rw [v0] at hw
      rcases hw with hw | hw
      · exact absurd hw (by decide)
      · exact absurd hw (by decide)
    · rw [o _ _ (by omega)] at hw
      exact NumOk_keep (ro _ (by omega)) (ro 7 (by omega)) (ro _ (by omega)) (ro 1 (by omega)) (hN q hq hqp hw)
  · exact hU σ' (fun q j h1 h2 => o _ _ (by omega)) v0
  · have q1 : 10 + 5 * g < 106 := by omega
    have q2 : 50 + p < 106 := by omega
    unfold w_X8_takeNext_115
    simp only [forall_eq, Nat.add_assoc, up2_bl q1, up2_bl q2, bl_at q1]
    have c3 : up2 (up2 (up2 σ (50 + p) 2 2) (10 + 5 * g) 8 (nI p)) (10 + 5 * g) 10 0 (10 + 5 * g) 3 = σ (10 + 5 * g) 3 := by
      rw [up2_n (by omega), up2_n (by omega), up2_n (by omega)]
    rw [c3, ← Nat.add_assoc, d_turnTo hg8, hS]
  · unfold w_X10_takeNext_166
    rw [s_put_0 hp40, s_putGate_6 hg8]
    have c1 : upd (upd (upd (upd r (120 + 7 * p + 0) 2) (8 + 14 * g + 6) (nI p)) (8 + 14 * g + 7) b) (8 + 14 * g + 8) 0 (8 + 14 * g + 1) = r (8 + 14 * g + 1) := by
      rw [pk_un (by omega), pk_un (by omega), pk_un (by omega), pk_un (by omega)]
    rcases h6 with ⟨rfl, -⟩ | ⟨rfl, -⟩
    · rw [if_neg (by decide)]
      unfold w_X10_takeNext_194
      rw [s_putGate_7 hg8, s_putGate_8 hg8, s_gateOf_1 hg8, s_turn hg8, c1, hR]
    · rw [if_pos rfl]
      unfold w_X10_takeNext_194
      rw [s_putGate_7 hg8, s_putGate_8 hg8, s_gateOf_1 hg8, s_turn hg8, c1, hR]
end GO
