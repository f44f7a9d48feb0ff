/-! out of order and in order again -/
section FAIL
variable {σ : Mm} {r : Nat → Int32} {T ng np nx nl g : Nat} {μ ρ : Mm} {n : Nat}
theorem do_fail (a : Int32) (h : Rel σ r T ng np nx nl) : ∃ (σ' : Mm) (r' : Nat → Int32) (v : Int32), Rel σ' r' T ng np nx nl ∧ (∀ (S : Nat) (μ : Mm) (Φ : Int32 → Mm → Prop), Φ v (bl S σ' μ) → w_X8_putOutOfOrder S a (bl S σ μ) Φ) ∧ ((v < 0 ∧ v ≠ -5 ∧ ∀ (ρ : Mm) (Φ : Int32 → Mm → Prop), Φ v (rw1 ρ r') → w_X10_fail a (rw1 ρ r) Φ) ∨ ((0 ≤ v ∨ v = -5) ∧ ∀ (ρ ρ1 : Mm) (Φ : Int32 → Mm → Prop), (∀ Ψ : Unit → Mm → Prop, Ψ () (rw1 ρ1 r) → w_X10_begin (rw1 ρ r) Ψ) → w_X10_recorded v (rw1 ρ1 r') Φ → w_X10_fail a (rw1 ρ r) Φ)) := by
  obtain ⟨n1, n2, n3, n4⟩ := h.1.n
  rcases arg_n a (show ng < 1073741824 by omega) with ⟨g, hg, rfl⟩ | ha
  · have hg8 : g < 8 := by omega
    obtain ⟨d, st, g1, g2, g3, g4, g5, g6⟩ := h.2.1 g hg
    have es4 : r (8 + 14 * g + 4) = nI st := by rw [← g4]; exact (h.1.2.1 g 4 hg (by decide)).symm
    have es6 : r (8 + 14 * g + 6) = σ (10 + 5 * g) 8 := (h.1.2.1 g 6 hg (by decide)).symm
    have hN : ∀ (ρ : Mm) (Φ : Int32 → Mm → Prop), w_X10_noGate (nI g) (rw1 ρ r) Φ = Φ 0 (rw1 ρ r) := fun ρ Φ => s_noGate_y h.1.1.1.2.1 hg (by omega)
    by_cases h5 : nI st = 5
    · refine ⟨σ, r, -4, h, fun S μ Φ hΦ => ?_, Or.inl ⟨by decide, by decide, fun ρ Φ hd => ?_⟩⟩
      · unfold w_X8_putOutOfOrder
        rw [d_gateAt_y h.1.1.1.1 hg n1, opt_some, bl_G hg8, g4, if_pos h5]
        exact hΦ
      · unfold w_X10_fail
        rw [hN, if_pos rfl, s_gateOf_4 hg8, es4, if_pos h5]
        exact hd
    · obtain ⟨σ1, r1, b1, b2, b3, b4, b5, b6, b7, b8⟩ := sim_break (h.x g) hg
      have w2 : σ1 (10 + 5 * g) 2 = nI d := by rw [b6 2 (by decide) (by decide) (by decide)]; exact g2
      have y6 : r1 (8 + 14 * g + 6) = σ (10 + 5 * g) 8 := by rw [b8 _ (by omega) (by omega) (by omega) (by omega) (by omega)]; exact es6
      have w8 : σ1 (10 + 5 * g) 8 = σ (10 + 5 * g) 8 := b6 8 (by decide) (by decide) (by decide)
      rcases g6 with ⟨hst, g8⟩ | ⟨hst, p, o, hp, ho, e8, e10, e2, e3, e67⟩
      · refine ⟨σ1, r1, σ (10 + 5 * g) 8, b1.all ⟨d, 5, g1, w2, by decide, by rw [b4]; rfl, by rw [b5]; exact Or.inl rfl, Or.inl ⟨Or.inr rfl, by rw [w8]; exact g8⟩⟩, fun S μ Φ hΦ => ?_, Or.inr ⟨Or.inr g8, fun ρ ρ1 Φ hb hd => ?_⟩⟩
        · unfold w_X8_putOutOfOrder
          rw [d_gateAt_y h.1.1.1.1 hg n1, opt_some, bl_G hg8, g4, if_neg h5, b2, let_none hg8 b1.1.1.2.1.1 (by rw [w8]; exact g8)]
          exact hΦ
        · unfold w_X10_fail
          rw [hN, if_pos rfl, s_gateOf_4 hg8, es4, if_neg h5]
          refine hb _ ?_
          show w_X10_gateOf (nI g) 6 (rw1 ρ1 r) _
          rw [s_gateOf_6 hg8, b3, s_gateOf_6 hg8, y6, g8, if_pos (by decide), es6, g8]
          rw [g8] at hd
          exact hd
      · obtain ⟨σ2, r2, q1, q2, q3, q4, q5, q6, q7⟩ := sim_let b1 hg (p := p) ⟨hp, by rw [w8]; exact e8, by rw [b7 p hp]; exact e2, by rw [b7 p hp]; exact e3, by rw [b7 p hp, b8 (8 + 14 * g + 7) (by omega) (by omega) (by omega) (by omega) (by omega)]; exact e67⟩
        refine ⟨σ2, r2, σ (10 + 5 * g) 8, q1.all ⟨d, 5, g1, by rw [q5 2 (by decide) (by decide) (by decide)]; exact w2, by decide, by rw [q5 6 (by decide) (by decide) (by decide), b4]; rfl, by rw [q5 9 (by decide) (by decide) (by decide), b5]; exact Or.inl rfl, Or.inl ⟨Or.inr rfl, q4⟩⟩, fun S μ Φ hΦ => ?_, Or.inr ⟨Or.inl (by rw [e8]; exact nI_pos' (by omega)), fun ρ ρ1 Φ hb hd => ?_⟩⟩
        · unfold w_X8_putOutOfOrder
          rw [d_gateAt_y h.1.1.1.1 hg n1, opt_some, bl_G hg8, g4, if_neg h5, b2]
          exact q2 S μ _ hΦ
        · unfold w_X10_fail
          rw [hN, if_pos rfl, s_gateOf_4 hg8, es4, if_neg h5]
          refine hb _ ?_
          show w_X10_gateOf (nI g) 6 (rw1 ρ1 r) _
          rw [s_gateOf_6 hg8, b3, s_gateOf_6 hg8, y6, e8, if_neg (nI_pos (by omega)), es6, e8]
          rw [e8] at hd
          exact q3 ρ1 _ hd
  · refine ⟨σ, r, -1, h, fun S μ Φ hΦ => ?_, Or.inl ⟨by decide, by decide, fun ρ Φ hd => ?_⟩⟩
    · unfold w_X8_putOutOfOrder
      rw [d_gateAt_n h.1.1.1.1 ha, opt_none]
      exact hΦ
    · unfold w_X10_fail
      rw [s_noGate_n h.1.1.1.2.1 ha (by omega), if_neg (by decide)]
      exact hd
theorem op_fail : Op_fail Sim := by
  intro n μ ρ hn hS a
  obtain ⟨hN, ⟨o, m, hH⟩, hT⟩ := hS
  obtain ⟨μ1, p1, p2, p3⟩ := c_prepare hH hN
  unfold w_X9_fail
  refine p3 _ ?_
  obtain ⟨ng, np, nx, nl, hR⟩ := hN
  have hlt : (o + m) % 5 < 5 := Nat.mod_lt _ (by decide)
  have hR1 : Rel (HB μ1 1) (ρ 1) (TB (n + 1)) ng np nx nl := (hR.blk (fun q hq => p1 (1 + q) (by omega))).mono TB_le (TB_lt (by omega))
  obtain ⟨σ', r', v, hR', hc, hr⟩ := do_fail a hR1
  have hc1 := hc 1 μ1
  rw [bl_HB] at hc1
  refine hc1 _ ?_
  have fC : ∀ q, 213 ≤ q → q < 215 + 106 * ((o + m) % 5) ∨ 215 + 106 * ((o + m) % 5) + 106 ≤ q → bl 1 σ' μ1 q = μ q := fun q h1 h2 => by rw [bl_out (by omega)]; exact p1 q h2
  rcases hr with ⟨hv, hv5, hr⟩ | ⟨hv, hr⟩
  · have hE : ∀ (u : Mm) (Φ : Int32 → Mm → Prop), w_X9_isError v u Φ = Φ 1 u := by
      intro u Φ
      unfold w_X9_isError
      rw [if_neg (Int32.not_le.mpr hv), if_neg hv5]
    rw [hE, if_neg (by decide)]
    have hr1 := hr ρ (fun t ρ1 => v = t ∧ Sim (n + 1) (bl 1 σ' μ1) ρ1)
    rw [rw1_self] at hr1
    exact hr1 ⟨rfl, sim_same hn hH hT fC (fun q h1 _ => rw1_o h1) (by rw [rw1_1]; exact ⟨ng, np, nx, nl, hR'.hb⟩)⟩
  · have hE : ∀ (u : Mm) (Φ : Int32 → Mm → Prop), w_X9_isError v u Φ = Φ 0 u := by
      intro u Φ
      unfold w_X9_isError
      rcases hv with hv | hv
      · rw [if_pos hv]
      · rw [hv, if_neg (by decide), if_pos rfl]
    rw [hE, if_pos rfl]
    obtain ⟨ρ', b1, b2, b3⟩ := s_begin ρ
    have e : rw1 ρ' (ρ 1) = ρ' := by rw [← b1 1 (by decide)]; exact rw1_self ρ'
    obtain ⟨μ3, ρ3, k1, k2, k3⟩ := sim_keep (ρ2 := rw1 ρ' r') hn hH hT fC (fun q h1 h2 => by rw [rw1_o h1]; exact b1 q h2) (by rw [rw1_1]; exact ⟨ng, np, nx, nl, hR'.hb⟩) (p2.to (fun q hq => bl_out (by omega)) (fun i hi => by rw [rw1_o (by decide)]; exact b2 i hi) (Nat.le_refl _) (TB_lt (by omega)))
    refine k2 _ ?_
    have hr1 := hr ρ ρ' (fun t ρ1 => v = t ∧ Sim (n + 1) μ3 ρ1)
    rw [rw1_self, e] at hr1
    exact hr1 b3 (k3 _ _ ⟨rfl, k1⟩)
theorem do_repair (a : Int32) : DoOp (fun S => w_X8_putInOrder S a) (w_X10_repair a) := by
  intro σ r T ng np nx nl hT h0
  have h := h0.mono (show T ≤ T + 20000 by omega) hT
  obtain ⟨n1, n2, n3, n4⟩ := h.1.n
  rcases arg_n a (show ng < 1073741824 by omega) with ⟨g, hg, rfl⟩ | ha
  · have hg8 : g < 8 := by omega
    obtain ⟨d, st, g1, g2, g3, g4, g5, g6⟩ := h.2.1 g hg
    have es4 : r (8 + 14 * g + 4) = nI st := by rw [← g4]; exact (h.1.2.1 g 4 hg (by decide)).symm
    have hN : ∀ (ρ : Mm) (Φ : Int32 → Mm → Prop), w_X10_noGate (nI g) (rw1 ρ r) Φ = Φ 0 (rw1 ρ r) := fun ρ Φ => s_noGate_y h.1.1.1.2.1 hg (by omega)
    by_cases h5 : st = 5
    · subst h5
      have g8 : σ (10 + 5 * g) 8 = -5 := by
        rcases g6 with ⟨-, g8⟩ | ⟨hst, -⟩
        · exact g8
        · omega
      obtain ⟨σ1, hσ1⟩ : ∃ σ1 : Mm, σ1 = up2 (up2 (up2 σ (10 + 5 * g) 6 0) (10 + 5 * g) 7 0) (10 + 5 * g) 9 0 := ⟨_, rfl⟩
      obtain ⟨r1, hr1⟩ : ∃ r1 : Nat → Int32, r1 = upd (upd (upd r (8 + 14 * g + 4) 0) (8 + 14 * g + 5) 0) (8 + 14 * g + 9) 0 := ⟨_, rfl⟩
      have h1 : RelX σ1 r1 (T + 20000) ng np nx nl g := by rw [hσ1, hr1]; exact ((h.x g).turn (a := 0) (b := 0) hg).gate (v := 0) hg (f := 7) (by decide)
      have ht : r1 0 = σ 0 9 := by rw [hr1, pk_un (by omega), pk_un (by omega), pk_un (by omega)]; exact h.1.time
      have o1 : ∀ q j, ¬ (q = 10 + 5 * g ∧ (j = 6 ∨ j = 7 ∨ j = 9)) → σ1 q j = σ q j := fun q j hq => by rw [hσ1, up2_n (by omega), up2_n (by omega), up2_n (by omega)]
      obtain ⟨σ2, hσ2⟩ : ∃ σ2 : Mm, σ2 = cAdd (σ 0 9) (nI g) (-5) 6 σ1 := ⟨_, rfl⟩
      obtain ⟨r2, hr2⟩ : ∃ r2 : Nat → Int32, r2 = rTell (nI g) (-5) 6 r1 := ⟨_, rfl⟩
      have h2 : RelX σ2 r2 (T + 20000) ng np nx nl g := by rw [hσ2, hr2]; exact h1.add ht
      have o2 : ∀ j, σ2 (10 + 5 * g) j = σ1 (10 + 5 * g) j := fun j => by rw [hσ2, cAdd_o (by omega)]
      have hR : Rel σ2 r2 (T + 20000) ng np nx nl := h2.all ⟨d, 0, g1, by rw [o2, o1 _ _ (by omega)]; exact g2, by decide, by rw [o2, hσ1, up2_n (Or.inr (by decide)), up2_n (Or.inr (by decide)), up2_s]; rfl, by rw [o2, hσ1, up2_s]; exact Or.inl rfl, Or.inl ⟨Or.inl rfl, by rw [o2, o1 _ _ (by omega)]; exact g8⟩⟩
      obtain ⟨m0, a0, b1, b2, b3, b4, b5, b6, -⟩ := q_facts (g := g) (e := 0) (ea := 0) hR.1 (by decide) (by decide) (hR.2.2.2.2.1 g 0 hg (by decide))
      obtain ⟨m1, a1, c1, c2, c3, c4, c5, c6, -⟩ := q_facts (g := g) (e := 1) (ea := 1) hR.1 (by decide) (by decide) (hR.2.2.2.2.1 g 1 hg (by decide))
      refine ⟨σ2, r2, nI m0 + nI m1, ng, np, nx, nl, hR, fun S μ Φ hΦ => ?_, Or.inr (fun ρ ρ1 Φ hb hd => ?_)⟩
      · show w_X8_putInOrder S (nI g) (bl S σ μ) Φ
        unfold w_X8_putInOrder
        rw [d_gateAt_y h.1.1.1.1 hg n1, opt_some, bl_G hg8, g4, if_pos (by decide), d_turnTo hg8]
        rintro _ rfl
        rw [up2_G hg8, ← hσ1, bl_0, o1 _ _ (by omega), d_add h1.1.ev, ← hσ2]
        unfold w_X1_queuesTogether
        rw [show S + 10 + 5 * g + 1 = S + (11 + 5 * g + 2 * 0) by omega, show S + 10 + 5 * g + 3 = S + (11 + 5 * g + 2 * 1) by omega, bl_at (show 11 + 5 * g + 2 * 0 < 106 by omega), bl_at (show 11 + 5 * g + 2 * 1 < 106 by omega), b2, c2]
        exact hΦ
      · unfold w_X10_repair
        rw [hN, if_pos rfl, s_gateOf_4 hg8, es4, if_pos (by decide)]
        refine hb _ ?_
        show w_X10_turn (nI g) 0 0 (rw1 ρ1 r) _
        rw [s_turn hg8, s_putGate_9 hg8, ← hr1, s_tell, ← hr2, s_queueLength hR.1.1.2.1.2.1 n2, s_queueLength hR.1.1.2.1.2.1 n2, b6, c6]
        exact hd
    · have h5' : ¬ nI st = 5 := fun e => h5 (nI_inj (a := st) (b := 5) (by omega) (by omega) e)
      refine ⟨σ, r, -4, ng, np, nx, nl, h, fun S μ Φ hΦ => ?_, Or.inl ⟨by decide, fun ρ Φ hd => ?_⟩⟩
      · show w_X8_putInOrder S (nI g) (bl S σ μ) Φ
        unfold w_X8_putInOrder
        rw [d_gateAt_y h.1.1.1.1 hg n1, opt_some, bl_G hg8, g4, if_neg h5']
        exact hΦ
      · unfold w_X10_repair
        rw [hN, if_pos rfl, s_gateOf_4 hg8, es4, if_neg h5']
        exact hd
  · refine ⟨σ, r, -1, ng, np, nx, nl, h, fun S μ Φ hΦ => ?_, Or.inl ⟨by decide, fun ρ Φ hd => ?_⟩⟩
    · show w_X8_putInOrder S a (bl S σ μ) Φ
      unfold w_X8_putInOrder
      rw [d_gateAt_n h.1.1.1.1 ha, opt_none]
      exact hΦ
    · unfold w_X10_repair
      rw [s_noGate_n h.1.1.1.2.1 ha (by omega), if_neg (by decide)]
      exact hd
theorem op_repair : Op_repair Sim := fun n μ ρ hn hS a => op_wrap (do_repair a) hn hS
end FAIL
