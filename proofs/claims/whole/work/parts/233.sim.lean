/-! both sides, related: what a call keeps -/
section SIMDEF
variable {μ ρ : Mm} {n o m : Nat}
def TB (n : Nat) : Nat := 20000 * (n + 1)
def Now (μ : Mm) (S : Nat) (r : Nat → Int32) (T : Nat) : Prop := ∃ ng np nx nl, Rel (HB μ S) r T ng np nx nl
def Hist (μ ρ : Mm) (T o m : Nat) : Prop := o < 5 ∧ m ≤ 4 ∧ μ 213 1 = nI o ∧ μ 213 2 = nI m ∧ ρ 0 3 = nI m ∧ ∀ j, j < m → Now μ (215 + 106 * ((o + j) % 5)) (fun i => ρ 3 (516 * j + i)) T
def Text (μ ρ : Mm) : Prop := ∃ len, len ≤ 50 ∧ μ 745 1 = nI len ∧ ρ 0 4 = nI len ∧ ∀ i, i < len → μ 746 i = ρ 4 i
def Sim (n : Nat) (μ ρ : Mm) : Prop := Now μ 1 (ρ 1) (TB n) ∧ (∃ o m, Hist μ ρ (TB n) o m) ∧ Text μ ρ
theorem Now.to {μ μ' : Mm} {S T T' : Nat} {r r' : Nat → Int32} (h : Now μ S r T) (e : ∀ q, q < 106 → μ' (S + q) = μ (S + q)) (er : ∀ i, i < 516 → r' i = r i) (hT : T ≤ T') (hT' : T' < 1073741824) : Now μ' S r' T' := by
  obtain ⟨ng, np, nx, nl, h⟩ := h
  exact ⟨ng, np, nx, nl, ((h.blk (τ := HB μ' S) e).row er).mono hT hT'⟩
theorem TB_le : TB n ≤ TB (n + 1) := by unfold TB; omega
theorem TB_up : TB n + 20000 = TB (n + 1) := by unfold TB; omega
theorem TB_lt (hn : n ≤ 600) : TB n < 1073741824 := by unfold TB; omega
theorem Text.to {μ μ' ρ ρ' : Mm} (h : Text μ ρ) (e1 : μ' 745 1 = μ 745 1) (e2 : μ' 746 = μ 746) (e3 : ρ' 0 4 = ρ 0 4) (e4 : ρ' 4 = ρ 4) : Text μ' ρ' := by
  unfold Text
  rw [e1, e2, e3, e4]
  exact h
theorem bl_HB {μ : Mm} {S : Nat} : bl S (HB μ S) μ = μ := bl_self
/-- the class prepares to keep its state -/
theorem c_prepare {T : Nat} (hH : Hist μ ρ T o m) (hN : Now μ 1 (ρ 1) T) : ∃ μ1 : Mm, (∀ q, q < 215 + 106 * ((o + m) % 5) ∨ 215 + 106 * ((o + m) % 5) + 106 ≤ q → μ1 q = μ q) ∧ Now μ1 (215 + 106 * ((o + m) % 5)) (ρ 1) T ∧ ∀ (Φ : Unit → Mm → Prop), Φ () μ1 → w_X2_prepare 1 μ Φ := by
  obtain ⟨ho, hm, e1, e2, -⟩ := hH
  obtain ⟨ng, np, nx, nl, hR⟩ := hN
  have hlt : (o + m) % 5 < 5 := Nat.mod_lt _ (by decide)
  obtain ⟨τ', h1, h2⟩ := sim_copy (S := 1) (S' := 215 + 106 * ((o + m) % 5)) (τ := HB μ (215 + 106 * ((o + m) % 5))) (μ := μ) hR (fun τ q hq => bl_out (by omega))
  refine ⟨bl (215 + 106 * ((o + m) % 5)) τ' μ, fun q hq => bl_out hq, ⟨ng, np, nx, nl, h1.hb⟩, fun Φ hΦ => ?_⟩
  have h3 := h2 Φ hΦ
  rw [bl_HB] at h3
  unfold w_X2_prepare w_X2_rowOf
  rw [e1, e2, d_fm (n := o + m) (d := 5) (k := 5) (nI_add o m) (by omega) rfl (by decide) (by decide)]
  simp only [vin hlt (show 5 < 2147483648 by decide), true_and, cl (show (o + m) % 5 < 2147483648 by omega)]
  exact h3
theorem sim_same {μ2 ρ2 : Mm} (hn : n < 512) (hH : Hist μ ρ (TB n) o m) (hT : Text μ ρ) (f : ∀ q, 213 ≤ q → q < 215 + 106 * ((o + m) % 5) ∨ 215 + 106 * ((o + m) % 5) + 106 ≤ q → μ2 q = μ q) (fr : ∀ q, q ≠ 1 → q ≠ 2 → ρ2 q = ρ q) (hN : Now μ2 1 (ρ2 1) (TB (n + 1))) : Sim (n + 1) μ2 ρ2 := by
  obtain ⟨ho, hm, e1, e2, e3, e4⟩ := hH
  have hlt : (o + m) % 5 < 5 := Nat.mod_lt _ (by decide)
  refine ⟨hN, ⟨o, m, ho, hm, by rw [f 213 (by decide) (by omega)]; exact e1, by rw [f 213 (by decide) (by omega)]; exact e2, by rw [fr 0 (by decide) (by decide)]; exact e3, fun j hj => ?_⟩, hT.to (by rw [f 745 (by decide) (by omega)]) (f 746 (by decide) (by omega)) (by rw [fr 0 (by decide) (by decide)]) (fr 4 (by decide) (by decide))⟩
  exact (e4 j hj).to (fun q hq => f _ (by omega) (by omega)) (fun i _ => by rw [fr 3 (by decide) (by decide)]) TB_le (TB_lt (by omega))
theorem sim_keep {μ2 ρ2 : Mm} (hn : n < 512) (hH : Hist μ ρ (TB n) o m) (hT : Text μ ρ) (f : ∀ q, 213 ≤ q → q < 215 + 106 * ((o + m) % 5) ∨ 215 + 106 * ((o + m) % 5) + 106 ≤ q → μ2 q = μ q) (fr : ∀ q, q ≠ 1 → q ≠ 2 → ρ2 q = ρ q) (hN : Now μ2 1 (ρ2 1) (TB (n + 1))) (hP : Now μ2 (215 + 106 * ((o + m) % 5)) (ρ2 2) (TB n)) : ∃ μ3 ρ3, Sim (n + 1) μ3 ρ3 ∧ (∀ (Φ : Unit → Mm → Prop), Φ () μ3 → w_X2_keep μ2 Φ) ∧ (∀ (v : Int32) (Φ : Int32 → Mm → Prop), Φ v ρ3 → w_X10_recorded v ρ2 Φ) := by
  obtain ⟨ho, hm, e1, e2, e3, e4⟩ := hH
  have hlt : (o + m) % 5 < 5 := Nat.mod_lt _ (by decide)
  have f1 : μ2 213 1 = nI o := by rw [f 213 (by decide) (by omega)]; exact e1
  have f2 : μ2 213 2 = nI m := by rw [f 213 (by decide) (by omega)]; exact e2
  have f3 : ρ2 0 3 = nI m := by rw [fr 0 (by decide) (by decide)]; exact e3
  obtain ⟨ρ3, m0, d, hc, g1, g2, g3, g4, g5, g6⟩ := s_recorded hm ρ2 f3
  rcases hc with ⟨h4, rfl, rfl⟩ | ⟨rfl, rfl, rfl⟩
  · refine ⟨up2 μ2 213 2 (nI (m0 + 1)), ρ3, ⟨?_, ⟨o, m0 + 1, ho, by omega, ?_, up2_s _ _ _ _, g3, fun j hj => ?_⟩, ?_⟩, fun Φ hΦ => ?_, g6⟩
    · exact hN.to (fun q hq => up2_k (by omega)) (fun i _ => by rw [g1 1 (by decide) (by decide)]) (Nat.le_refl _) (TB_lt (by omega))
    · rw [up2_n (Or.inr (by decide))]; exact f1
    · by_cases hjm : j = m0
      · subst hjm
        exact hP.to (fun q hq => up2_k (by omega)) (fun i hi => g5 i hi) TB_le (TB_lt (by omega))
      · exact (e4 j (by omega)).to (fun q hq => by rw [up2_k (by omega)]; exact f _ (by omega) (by omega)) (fun i hi => by rw [g4 j i (by omega) hi, fr 3 (by decide) (by decide)]; rfl) TB_le (TB_lt (by omega))
    · exact hT.to (by rw [up2_k (by decide), f 745 (by decide) (by omega)]) (by rw [up2_k (by decide), f 746 (by decide) (by omega)]) (by rw [g2 4 (by decide), fr 0 (by decide) (by decide)]) (by rw [g1 4 (by decide) (by decide), fr 4 (by decide) (by decide)])
    · unfold w_X2_keep
      have hng : ¬ (4 : Int32) ≤ nI m0 := nI_ge (a := m0) (b := 4) (by omega) (by omega)
      rw [f2, if_neg hng, nI_1]
      rintro _ rfl
      exact hΦ
  · refine ⟨up2 μ2 213 1 (nI ((o + 1) % 5)), ρ3, ⟨?_, ⟨(o + 1) % 5, 4, Nat.mod_lt _ (by decide), by decide, up2_s _ _ _ _, ?_, g3, fun j hj => ?_⟩, ?_⟩, fun Φ hΦ => ?_, g6⟩
    · exact hN.to (fun q hq => up2_k (by omega)) (fun i _ => by rw [g1 1 (by decide) (by decide)]) (Nat.le_refl _) (TB_lt (by omega))
    · rw [up2_n (Or.inr (by decide))]; exact f2
    · by_cases hjm : j = 3
      · subst hjm
        rw [show ((o + 1) % 5 + 3) % 5 = (o + 4) % 5 by omega]
        exact hP.to (fun q hq => up2_k (by omega)) (fun i hi => g5 i hi) TB_le (TB_lt (by omega))
      · rw [show ((o + 1) % 5 + j) % 5 = (o + (j + 1)) % 5 by omega]
        exact (e4 (j + 1) (by omega)).to (fun q hq => by rw [up2_k (by omega)]; exact f _ (by omega) (by omega)) (fun i hi => by rw [g4 j i (by omega) hi, fr 3 (by decide) (by decide)]) TB_le (TB_lt (by omega))
    · exact hT.to (by rw [up2_k (by decide), f 745 (by decide) (by omega)]) (by rw [up2_k (by decide), f 746 (by decide) (by omega)]) (by rw [g2 4 (by decide), fr 0 (by decide) (by decide)]) (by rw [g1 4 (by decide) (by decide), fr 4 (by decide) (by decide)])
    · unfold w_X2_keep w_X2_rowOf
      rw [f2, if_pos (by decide), f1, d_fm (n := o + 1) (d := 5) (k := 5) (nI_1 o) (by omega) rfl (by decide) (by decide)]
      rintro _ rfl
      exact hΦ
/-- what a call does to the row, on both sides -/
def DoOp (wc : Nat → Mm → (Int32 → Mm → Prop) → Prop) (wr : Mm → (Int32 → Mm → Prop) → Prop) : Prop := ∀ (σ : Mm) (r : Nat → Int32) (T ng np nx nl : Nat), T + 20000 < 1073741824 → Rel σ r T ng np nx nl → ∃ (σ' : Mm) (r' : Nat → Int32) (v : Int32) (ng' np' nx' nl' : Nat), Rel σ' r' (T + 20000) ng' np' nx' nl' ∧ (∀ (S : Nat) (μ : Mm) (Φ : Int32 → Mm → Prop), Φ v (bl S σ' μ) → wc S (bl S σ μ) Φ) ∧ ((v < 0 ∧ ∀ (ρ : Mm) (Φ : Int32 → Mm → Prop), Φ v (rw1 ρ r') → wr (rw1 ρ r) Φ) ∨ (∀ (ρ ρ1 : Mm) (Φ : Int32 → Mm → Prop), (∀ Ψ : Unit → Mm → Prop, Ψ () (rw1 ρ1 r) → w_X10_begin (rw1 ρ r) Ψ) → w_X10_done v (rw1 ρ1 r') Φ → wr (rw1 ρ r) Φ))
theorem op_wrap {wc : Nat → Mm → (Int32 → Mm → Prop) → Prop} {wr : Mm → (Int32 → Mm → Prop) → Prop} (H : DoOp wc wr) (hn : n < 512) (hS : Sim n μ ρ) : w_X2_prepare 1 μ (fun _ u1 => wc 1 u1 (fun r4 u3 => w_X9_recorded r4 u3 (fun r6 u5 => wr ρ (fun t ρ1 => r6 = t ∧ Sim (n + 1) u5 ρ1)))) := by
  obtain ⟨hN, ⟨o, m, hH⟩, hT⟩ := hS
  obtain ⟨μ1, p1, p2, p3⟩ := c_prepare hH hN
  refine p3 _ ?_
  obtain ⟨ng, np, nx, nl, hR⟩ := hN
  have hlt : (o + m) % 5 < 5 := Nat.mod_lt _ (by decide)
  have hR1 : Rel (HB μ1 1) (ρ 1) (TB n) ng np nx nl := hR.blk (fun q hq => p1 (1 + q) (by omega))
  obtain ⟨σ', r', v, ng', np', nx', nl', hR', hc, hr⟩ := H _ _ _ _ _ _ _ (by rw [TB_up]; exact TB_lt (by omega)) hR1
  rw [TB_up] at hR'
  have hc1 := hc 1 μ1
  rw [bl_HB] at hc1
  refine hc1 _ ?_
  have fC : ∀ q, 213 ≤ q → q < 215 + 106 * ((o + m) % 5) ∨ 215 + 106 * ((o + m) % 5) + 106 ≤ q → bl 1 σ' μ1 q = μ q := fun q h1 h2 => by rw [bl_out (by omega)]; exact p1 q h2
  by_cases hv : v < 0
  · have h0 : ¬ (0 : Int32) ≤ v := Int32.not_le.mpr hv
    unfold w_X9_recorded
    rw [if_pos hv]
    rcases hr with ⟨-, hr⟩ | hr
    · have hr1 := hr ρ (fun t ρ1 => v = t ∧ Sim (n + 1) (bl 1 σ' μ1) ρ1)
      rw [rw1_self] at hr1
      exact hr1 ⟨rfl, sim_same hn hH hT fC (fun q h1 _ => rw1_o h1) (by rw [rw1_1]; exact ⟨ng', np', nx', nl', hR'.hb⟩)⟩
    · obtain ⟨ρ', b1, b2, b3⟩ := s_begin ρ
      have e : rw1 ρ' (ρ 1) = ρ' := by rw [← b1 1 (by decide)]; exact rw1_self ρ'
      have hr1 := hr ρ ρ' (fun t ρ1 => v = t ∧ Sim (n + 1) (bl 1 σ' μ1) ρ1)
      rw [rw1_self, e] at hr1
      refine hr1 b3 ?_
      unfold w_X10_done
      rw [if_neg h0]
      exact ⟨rfl, sim_same hn hH hT fC (fun q h1 h2 => by rw [rw1_o h1]; exact b1 q h2) (by rw [rw1_1]; exact ⟨ng', np', nx', nl', hR'.hb⟩)⟩
  · have h0 : (0 : Int32) ≤ v := Int32.not_lt.mp hv
    rcases hr with ⟨h, -⟩ | hr
    · exact absurd h hv
    · obtain ⟨ρ', b1, b2, b3⟩ := s_begin ρ
      have e : rw1 ρ' (ρ 1) = ρ' := by rw [← b1 1 (by decide)]; exact rw1_self ρ'
      obtain ⟨μ3, ρ3, k1, k2, k3⟩ := sim_keep (ρ2 := rw1 ρ' r') hn hH hT fC (fun q h1 h2 => by rw [rw1_o h1]; exact b1 q h2) (by rw [rw1_1]; exact ⟨ng', np', nx', nl', hR'.hb⟩) (p2.to (fun q hq => bl_out (by omega)) (fun i hi => by rw [rw1_o (by decide)]; exact b2 i hi) (Nat.le_refl _) (TB_lt (by omega)))
      unfold w_X9_recorded
      rw [if_neg hv]
      refine k2 _ ?_
      have hr1 := hr ρ ρ' (fun t ρ1 => v = t ∧ Sim (n + 1) μ3 ρ1)
      rw [rw1_self, e] at hr1
      refine hr1 b3 ?_
      unfold w_X10_done
      rw [if_pos h0]
      exact k3 _ _ ⟨rfl, k1⟩
end SIMDEF
