/-! what is asked, and the text -/
section ASK
variable {σ : Mm} {r : Nat → Int32} {T ng np nx nl g : Nat} {μ ρ : Mm} {n : Nat}
theorem sim_next1 (hn : n < 512) (hS : Sim n μ ρ) : Sim (n + 1) μ ρ := by
  obtain ⟨hN, ⟨o, m, hH⟩, hT⟩ := hS
  exact sim_same hn hH hT (fun q _ _ => rfl) (fun q _ _ => rfl) (hN.to (fun q hq => rfl) (fun i hi => rfl) TB_le (TB_lt (by omega)))
theorem op_none : Op_none Sim := fun n μ ρ hn hS => sim_next1 hn hS
def DoQ (wc : Mm → (Int32 → Mm → Prop) → Prop) (wr : Mm → (Int32 → Mm → Prop) → Prop) : Prop := ∀ (σ : Mm) (r : Nat → Int32) (T ng np nx nl : Nat), Rel σ r T ng np nx nl → ∃ v : Int32, (∀ (μ : Mm) (Φ : Int32 → Mm → Prop), Φ v (bl 1 σ μ) → wc (bl 1 σ μ) Φ) ∧ (∀ (ρ : Mm) (Φ : Int32 → Mm → Prop), Φ v (rw1 ρ r) → wr (rw1 ρ r) Φ)
theorem op_ask {wc : Mm → (Int32 → Mm → Prop) → Prop} {wr : Mm → (Int32 → Mm → Prop) → Prop} (H : DoQ wc wr) (hn : n < 512) (hS : Sim n μ ρ) : wc μ (fun r6 u5 => wr ρ (fun t ρ1 => r6 = t ∧ Sim (n + 1) u5 ρ1)) := by
  have hS1 := sim_next1 hn hS
  obtain ⟨⟨ng, np, nx, nl, hR⟩, -, -⟩ := hS
  obtain ⟨v, hc, hr⟩ := H _ _ _ _ _ _ _ hR
  have hc1 := hc μ
  rw [bl_HB] at hc1
  refine hc1 _ ?_
  have hr1 := hr ρ
  rw [rw1_self] at hr1
  exact hr1 _ ⟨rfl, hS1⟩
theorem do_gate (a b : Int32) : DoQ (w_X9_gate a b) (w_X10_gate a b) := by
  intro σ r T ng np nx nl h
  obtain ⟨n1, n2, n3, n4⟩ := h.1.n
  rcases arg_n a (show ng < 1073741824 by omega) with ⟨g, hg, rfl⟩ | ha
  · have hg8 : g < 8 := by omega
    have hG : ∀ f, f < 13 → r (8 + 14 * g + gm f) = σ (10 + 5 * g) (f + 2) := fun f hf => (h.1.2.1 g f hg hf).symm
    obtain ⟨m0, a0, b1, b2, b3, b4, b5, b6, -⟩ := q_facts (g := g) (e := 0) (ea := (4 : Int32) - 4) h.1 (by decide) (by decide) (h.2.2.2.2.1 g 0 hg (by decide))
    obtain ⟨m1, a1, c1, c2, c3, c4, c5, c6, -⟩ := q_facts (g := g) (e := 1) (ea := (5 : Int32) - 4) h.1 (by decide) (by decide) (h.2.2.2.2.1 g 1 hg (by decide))
    obtain ⟨d, st, g1, g2, g3, g4, g5, -⟩ := h.2.1 g hg
    have B : ∀ (μ : Mm) (Φ : Int32 → Mm → Prop), w_X8_gateAt 1 (nI g) (bl 1 σ μ) (fun r2 u1 => opt r2 (Φ (-1) u1) (fun r2 => (if b = 0 then (Φ ((u1 r2 2)) u1) else (if b = 1 then (Φ ((u1 r2 6)) u1) else (if b = 2 then (Φ ((u1 r2 7)) u1) else (if b = 3 then (Φ ((u1 r2 8)) u1) else (if b = 4 then (Φ ((u1 ((r2 + 1)) 1)) u1) else (if b = 5 then (Φ ((u1 ((r2 + 3)) 1)) u1) else (if b = 6 then (Φ ((u1 r2 11)) u1) else (if b = 7 then (Φ ((u1 r2 12)) u1) else (if b = 8 then (Φ ((u1 r2 13)) u1) else (if b = 9 then (Φ ((u1 r2 14)) u1) else (if b = 10 then (if (u1 r2 9) = 0 then (Φ ((0 : Int32)) u1) else (Φ ((1 : Int32)) u1)) else (Φ ((-2 : Int32)) u1)))))))))))))) = (if b = 0 then Φ (σ (10 + 5 * g) 2) (bl 1 σ μ) else (if b = 1 then Φ (σ (10 + 5 * g) 6) (bl 1 σ μ) else (if b = 2 then Φ (σ (10 + 5 * g) 7) (bl 1 σ μ) else (if b = 3 then Φ (σ (10 + 5 * g) 8) (bl 1 σ μ) else (if b = 4 then Φ (nI m0) (bl 1 σ μ) else (if b = 5 then Φ (nI m1) (bl 1 σ μ) else (if b = 6 then Φ (σ (10 + 5 * g) 11) (bl 1 σ μ) else (if b = 7 then Φ (σ (10 + 5 * g) 12) (bl 1 σ μ) else (if b = 8 then Φ (σ (10 + 5 * g) 13) (bl 1 σ μ) else (if b = 9 then Φ (σ (10 + 5 * g) 14) (bl 1 σ μ) else (if b = 10 then (if σ (10 + 5 * g) 9 = 0 then Φ 0 (bl 1 σ μ) else Φ 1 (bl 1 σ μ)) else Φ (-2) (bl 1 σ μ)))))))))))) := by
      intro μ Φ
      rw [d_gateAt_y h.1.1.1.1 hg n1, opt_some, bl_G hg8, show 1 + 10 + 5 * g + 1 = 1 + (11 + 5 * g + 2 * 0) by omega, show 1 + 10 + 5 * g + 3 = 1 + (11 + 5 * g + 2 * 1) by omega, bl_at (show 11 + 5 * g + 2 * 0 < 106 by omega), bl_at (show 11 + 5 * g + 2 * 1 < 106 by omega), b2, c2]
    have hN : ∀ (ρ : Mm) (Φ : Int32 → Mm → Prop), w_X10_noGate (nI g) (rw1 ρ r) Φ = Φ 0 (rw1 ρ r) := fun ρ Φ => s_noGate_y h.1.1.1.2.1 hg (by omega)
    by_cases z0 : b = 0
    · subst z0
      refine ⟨σ (10 + 5 * g) 2, fun μ Φ hΦ => ?_, fun ρ Φ hΦ => ?_⟩
      · unfold w_X9_gate
        rw [B, if_pos rfl]
        exact hΦ
      · unfold w_X10_gate
        rw [hN, if_pos rfl, if_pos rfl, s_gateOf_0 hg8, show r (8 + 14 * g + 0) = σ (10 + 5 * g) 2 from hG 0 (by decide)]
        exact hΦ
    by_cases z1 : b = 1
    · subst z1
      refine ⟨σ (10 + 5 * g) 6, fun μ Φ hΦ => ?_, fun ρ Φ hΦ => ?_⟩
      · unfold w_X9_gate
        rw [B, if_neg (by decide), if_pos rfl]
        exact hΦ
      · unfold w_X10_gate
        rw [hN, if_pos rfl, if_neg (by decide), if_pos rfl, s_gateOf_4 hg8, show r (8 + 14 * g + 4) = σ (10 + 5 * g) 6 from hG 4 (by decide)]
        exact hΦ
    by_cases z2 : b = 2
    · subst z2
      refine ⟨σ (10 + 5 * g) 7, fun μ Φ hΦ => ?_, fun ρ Φ hΦ => ?_⟩
      · unfold w_X9_gate
        rw [B, if_neg (by decide), if_neg (by decide), if_pos rfl]
        exact hΦ
      · unfold w_X10_gate
        rw [hN, if_pos rfl, if_neg (by decide), if_neg (by decide), if_pos rfl, s_gateOf_5 hg8, show r (8 + 14 * g + 5) = σ (10 + 5 * g) 7 from hG 5 (by decide)]
        exact hΦ
    by_cases z3 : b = 3
    · subst z3
      refine ⟨σ (10 + 5 * g) 8, fun μ Φ hΦ => ?_, fun ρ Φ hΦ => ?_⟩
      · unfold w_X9_gate
        rw [B, if_neg (by decide), if_neg (by decide), if_neg (by decide), if_pos rfl]
        exact hΦ
      · unfold w_X10_gate
        rw [hN, if_pos rfl, if_neg (by decide), if_neg (by decide), if_neg (by decide), if_pos rfl, s_gateOf_6 hg8, show r (8 + 14 * g + 6) = σ (10 + 5 * g) 8 from hG 6 (by decide)]
        exact hΦ
    by_cases z4 : b = 4
    · subst z4
      refine ⟨nI m0, fun μ Φ hΦ => ?_, fun ρ Φ hΦ => ?_⟩
      · unfold w_X9_gate
        rw [B, if_neg (by decide), if_neg (by decide), if_neg (by decide), if_neg (by decide), if_pos rfl]
        exact hΦ
      · unfold w_X10_gate
        rw [hN, if_pos rfl, if_neg (by decide), if_neg (by decide), if_neg (by decide), if_neg (by decide), if_pos rfl, s_queueLength h.1.1.2.1.2.1 n2, b6]
        exact hΦ
    by_cases z5 : b = 5
    · subst z5
      refine ⟨nI m1, fun μ Φ hΦ => ?_, fun ρ Φ hΦ => ?_⟩
      · unfold w_X9_gate
        rw [B, if_neg (by decide), if_neg (by decide), if_neg (by decide), if_neg (by decide), if_neg (by decide), if_pos rfl]
        exact hΦ
      · unfold w_X10_gate
        rw [hN, if_pos rfl, if_neg (by decide), if_neg (by decide), if_neg (by decide), if_neg (by decide), if_neg (by decide), if_pos rfl, s_queueLength h.1.1.2.1.2.1 n2, c6]
        exact hΦ
    by_cases z6 : b = 6
    · subst z6
      refine ⟨σ (10 + 5 * g) 11, fun μ Φ hΦ => ?_, fun ρ Φ hΦ => ?_⟩
      · unfold w_X9_gate
        rw [B, if_neg (by decide), if_neg (by decide), if_neg (by decide), if_neg (by decide), if_neg (by decide), if_neg (by decide), if_pos rfl]
        exact hΦ
      · unfold w_X10_gate
        rw [hN, if_pos rfl, if_neg (by decide), if_neg (by decide), if_neg (by decide), if_neg (by decide), if_neg (by decide), if_neg (by decide), if_pos rfl, s_gateOf_10 hg8, show r (8 + 14 * g + 10) = σ (10 + 5 * g) 11 from hG 9 (by decide)]
        exact hΦ
    by_cases z7 : b = 7
    · subst z7
      refine ⟨σ (10 + 5 * g) 12, fun μ Φ hΦ => ?_, fun ρ Φ hΦ => ?_⟩
      · unfold w_X9_gate
        rw [B, if_neg (by decide), if_neg (by decide), if_neg (by decide), if_neg (by decide), if_neg (by decide), if_neg (by decide), if_neg (by decide), if_pos rfl]
        exact hΦ
      · unfold w_X10_gate
        rw [hN, if_pos rfl, if_neg (by decide), if_neg (by decide), if_neg (by decide), if_neg (by decide), if_neg (by decide), if_neg (by decide), if_neg (by decide), if_pos rfl, s_gateOf_11 hg8, show r (8 + 14 * g + 11) = σ (10 + 5 * g) 12 from hG 10 (by decide)]
        exact hΦ
    by_cases z8 : b = 8
    · subst z8
      refine ⟨σ (10 + 5 * g) 13, fun μ Φ hΦ => ?_, fun ρ Φ hΦ => ?_⟩
      · unfold w_X9_gate
        rw [B, if_neg (by decide), if_neg (by decide), if_neg (by decide), if_neg (by decide), if_neg (by decide), if_neg (by decide), if_neg (by decide), if_neg (by decide), if_pos rfl]
        exact hΦ
      · unfold w_X10_gate
        rw [hN, if_pos rfl, if_neg (by decide), if_neg (by decide), if_neg (by decide), if_neg (by decide), if_neg (by decide), if_neg (by decide), if_neg (by decide), if_neg (by decide), if_pos rfl, s_gateOf_12 hg8, show r (8 + 14 * g + 12) = σ (10 + 5 * g) 13 from hG 11 (by decide)]
        exact hΦ
    by_cases z9 : b = 9
    · subst z9
      refine ⟨σ (10 + 5 * g) 14, fun μ Φ hΦ => ?_, fun ρ Φ hΦ => ?_⟩
      · unfold w_X9_gate
        rw [B, if_neg (by decide), if_neg (by decide), if_neg (by decide), if_neg (by decide), if_neg (by decide), if_neg (by decide), if_neg (by decide), if_neg (by decide), if_neg (by decide), if_pos rfl]
        exact hΦ
      · unfold w_X10_gate
        rw [hN, if_pos rfl, if_neg (by decide), if_neg (by decide), if_neg (by decide), if_neg (by decide), if_neg (by decide), if_neg (by decide), if_neg (by decide), if_neg (by decide), if_neg (by decide), if_pos rfl, s_gateOf_13 hg8, show r (8 + 14 * g + 13) = σ (10 + 5 * g) 14 from hG 12 (by decide)]
        exact hΦ
    by_cases z10 : b = 10
    · subst z10
      refine ⟨σ (10 + 5 * g) 9, fun μ Φ hΦ => ?_, fun ρ Φ hΦ => ?_⟩
      · unfold w_X9_gate
        rw [B, if_neg (by decide), if_neg (by decide), if_neg (by decide), if_neg (by decide), if_neg (by decide), if_neg (by decide), if_neg (by decide), if_neg (by decide), if_neg (by decide), if_neg (by decide), if_pos rfl]
        rcases g5 with g5 | g5
        · rw [g5] at hΦ ⊢
          rw [if_pos rfl]
          exact hΦ
        · rw [g5] at hΦ ⊢
          rw [if_neg (by decide)]
          exact hΦ
      · unfold w_X10_gate
        rw [hN, if_pos rfl, if_neg (by decide), if_neg (by decide), if_neg (by decide), if_neg (by decide), if_neg (by decide), if_neg (by decide), if_neg (by decide), if_neg (by decide), if_neg (by decide), if_neg (by decide), if_pos rfl, s_gateOf_9 hg8, show r (8 + 14 * g + 9) = σ (10 + 5 * g) 9 from hG 7 (by decide)]
        exact hΦ
    · refine ⟨-2, fun μ Φ hΦ => ?_, fun ρ Φ hΦ => ?_⟩
      · unfold w_X9_gate
        rw [B, if_neg z0, if_neg z1, if_neg z2, if_neg z3, if_neg z4, if_neg z5, if_neg z6, if_neg z7, if_neg z8, if_neg z9, if_neg z10]
        exact hΦ
      · unfold w_X10_gate
        rw [hN, if_pos rfl, if_neg z0, if_neg z1, if_neg z2, if_neg z3, if_neg z4, if_neg z5, if_neg z6, if_neg z7, if_neg z8, if_neg z9, if_neg z10]
        exact hΦ
  · refine ⟨-1, fun μ Φ hΦ => ?_, fun ρ Φ hΦ => ?_⟩
    · unfold w_X9_gate
      rw [d_gateAt_n h.1.1.1.1 ha, opt_none]
      exact hΦ
    · unfold w_X10_gate
      rw [s_noGate_n h.1.1.1.2.1 ha (by omega), if_neg (by decide)]
      exact hΦ
theorem op_gate : Op_gate Sim := fun n μ ρ hn hS a b => op_ask (do_gate a b) hn hS
theorem do_queued (a b c : Int32) : DoQ (w_X9_queued a b c) (w_X10_queued a b c) := by
  intro σ r T ng np nx nl h
  obtain ⟨n1, n2, n3, n4⟩ := h.1.n
  rcases arg_n a (show ng < 1073741824 by omega) with ⟨g, hg, rfl⟩ | ha
  · have hg8 : g < 8 := by omega
    have hN : ∀ (ρ : Mm) (Φ : Int32 → Mm → Prop), w_X10_noGate (nI g) (rw1 ρ r) Φ = Φ 0 (rw1 ρ r) := fun ρ Φ => s_noGate_y h.1.1.1.2.1 hg (by omega)
    by_cases hb0 : b < 0
    · refine ⟨-2, fun μ Φ hΦ => ?_, fun ρ Φ hΦ => ?_⟩
      · unfold w_X9_queued
        rw [d_gateAt_y h.1.1.1.1 hg n1, opt_some, if_pos hb0]
        exact hΦ
      · unfold w_X10_queued
        rw [hN, if_pos rfl, s_in, if_pos hb0, if_pos rfl]
        exact hΦ
    · by_cases hb1 : 1 < b
      · refine ⟨-2, fun μ Φ hΦ => ?_, fun ρ Φ hΦ => ?_⟩
        · unfold w_X9_queued
          rw [d_gateAt_y h.1.1.1.1 hg n1, opt_some, if_neg hb0, if_pos hb1]
          exact hΦ
        · unfold w_X10_queued
          rw [hN, if_pos rfl, s_in, if_neg hb0, if_pos hb1, if_pos rfl]
          exact hΦ
      · by_cases hc : 0 ≤ c
        · have hc0 : ¬ c < 0 := Int32.not_lt.mpr hc
          obtain ⟨e, he, rfl⟩ := nI_of2 (x := b) (M := 1) (n := 1) (by decide) hb0 (Int32.not_lt.mp hb1)
          obtain ⟨m, am, b1, b2, b3, b4, b5, b6, b7, b8⟩ := q_facts (g := g) (e := e) (ea := nI e) h.1 (by omega) rfl (h.2.2.2.2.1 g e hg (by omega))
          have key : ∀ v : Int32, (∀ (μ : Mm) (Φ : Int32 → Mm → Prop), w_X7_personAtPlace (1 + (11 + 5 * g + 2 * e)) c (bl 1 σ μ) Φ = Φ v (bl 1 σ μ)) → (fnd (fun p => qB r (nI g) (nI e) p && decide (nI (cnt (aB r (nI g) (nI e) p) np) = c)) np 0 = v) → ∃ v : Int32, (∀ (μ : Mm) (Φ : Int32 → Mm → Prop), Φ v (bl 1 σ μ) → w_X9_queued (nI g) (nI e) c (bl 1 σ μ) Φ) ∧ (∀ (ρ : Mm) (Φ : Int32 → Mm → Prop), Φ v (rw1 ρ r) → w_X10_queued (nI g) (nI e) c (rw1 ρ r) Φ) := by
            intro v k1 k2
            refine ⟨v, fun μ Φ hΦ => ?_, fun ρ Φ hΦ => ?_⟩
            · unfold w_X9_queued
              rw [d_gateAt_y h.1.1.1.1 hg n1, opt_some, if_neg hb0, if_neg hb1, if_pos hc]
              rcases (show e = 0 ∨ e = 1 by omega) with rfl | rfl
              · rw [if_pos (by decide), show 1 + 10 + 5 * g + 1 = 1 + (11 + 5 * g + 2 * 0) by omega, k1]
                exact hΦ
              · rw [if_neg (by decide), show 1 + 10 + 5 * g + 3 = 1 + (11 + 5 * g + 2 * 1) by omega, k1]
                exact hΦ
            · unfold w_X10_queued
              rw [hN, if_pos rfl, s_in, if_neg hb0, if_neg hb1, if_neg (by decide), if_neg hc0, s_queuedAt h.1.1.2.1.2.1 n2, k2]
              exact hΦ
          rcases arg_n c (show m < 1073741824 by omega) with ⟨k, hk, rfl⟩ | hck
          · refine key (nI (am k)) (fun μ Φ => ?_) (b7 k _ rfl hk)
            rw [d_at_y (c := 11 + 5 * g + 2 * e) (k := k) (by omega) b2 b1 rfl hk, show 11 + 5 * g + 2 * e + 1 = 12 + 5 * g + 2 * e by omega, (b3 k hk).1]
          · refine key (-5) (fun μ Φ => ?_) (b8 _ (by rcases hck with q | q; exact absurd q hc0; exact q))
            rw [d_at_n (c := 11 + 5 * g + 2 * e) (by omega) b2 hck]
        · have hc0 : c < 0 := Int32.not_le.mp hc
          refine ⟨-2, fun μ Φ hΦ => ?_, fun ρ Φ hΦ => ?_⟩
          · unfold w_X9_queued
            rw [d_gateAt_y h.1.1.1.1 hg n1, opt_some, if_neg hb0, if_neg hb1, if_neg hc]
            exact hΦ
          · unfold w_X10_queued
            rw [hN, if_pos rfl, s_in, if_neg hb0, if_neg hb1, if_neg (by decide), if_pos hc0]
            exact hΦ
  · refine ⟨-1, fun μ Φ hΦ => ?_, fun ρ Φ hΦ => ?_⟩
    · unfold w_X9_queued
      rw [d_gateAt_n h.1.1.1.1 ha, opt_none]
      exact hΦ
    · unfold w_X10_queued
      rw [s_noGate_n h.1.1.1.2.1 ha (by omega), if_neg (by decide)]
      exact hΦ
theorem op_queued : Op_queued Sim := fun n μ ρ hn hS a b c => op_ask (do_queued a b c) hn hS
theorem c_waits {k : Nat} {u : Mm} {Φ : Int32 → Mm → Prop} : w_X5_isWaiting k u Φ = Φ (if u k 2 = 1 then 1 else if u k 2 = 4 then 1 else 0) u := by
  unfold w_X5_isWaiting
  split
  · rfl
  · split <;> rfl
theorem do_person (a b : Int32) : DoQ (w_X9_person a b) (w_X10_person a b) := by
  intro σ r T ng np nx nl h
  obtain ⟨n1, n2, n3, n4⟩ := h.1.n
  rcases arg_n a (show np < 1073741824 by omega) with ⟨p, hp, rfl⟩ | ha
  · have hp40 : p < 40 := by omega
    have hP : ∀ f, f < 6 → r (120 + 7 * p + pm f) = σ (50 + p) f := fun f hf => (h.1.2.2.1 p f hp hf).symm
    obtain ⟨w, x1, x2, x3, -⟩ := h.2.2.1 p hp
    have hN : ∀ (ρ : Mm) (Φ : Int32 → Mm → Prop), w_X10_noPerson (nI p) (rw1 ρ r) Φ = Φ 0 (rw1 ρ r) := fun ρ Φ => s_noPerson_y h.1.1.2.1.2.1 hp (by omega)
    have hA : ∀ (μ : Mm) (Φ : Option Nat → Mm → Prop), w_X8_personAt 1 (nI p) (bl 1 σ μ) Φ = Φ (some (1 + 50 + p)) (bl 1 σ μ) := fun μ Φ => d_personAt_y h.1.1.2.1.1 hp n2
    have e0 : r (120 + 7 * p + 0) = σ (50 + p) 2 := hP 2 (by decide)
    have et : r 0 = σ 0 9 := h.1.time
    by_cases z0 : b = 0
    · subst z0
      refine ⟨σ (50 + p) 2, fun μ Φ hΦ => ?_, fun ρ Φ hΦ => ?_⟩
      · unfold w_X9_person
        rw [hA, opt_some, bl_P hp40, if_pos rfl]
        exact hΦ
      · unfold w_X10_person
        rw [hN, if_pos rfl, s_of_0 hp40, if_pos rfl, e0]
        exact hΦ
    by_cases z1 : b = 1
    · subst z1
      refine ⟨σ (50 + p) 0, fun μ Φ hΦ => ?_, fun ρ Φ hΦ => ?_⟩
      · unfold w_X9_person
        rw [hA, opt_some, bl_P hp40, if_neg (by decide), if_pos rfl]
        exact hΦ
      · unfold w_X10_person
        rw [hN, if_pos rfl, s_of_0 hp40, if_neg (by decide), if_pos rfl, s_of_1 hp40, show r (120 + 7 * p + 1) = σ (50 + p) 0 from hP 0 (by decide)]
        exact hΦ
    by_cases z2 : b = 2
    · subst z2
      refine ⟨σ (50 + p) 1, fun μ Φ hΦ => ?_, fun ρ Φ hΦ => ?_⟩
      · unfold w_X9_person
        rw [hA, opt_some, bl_P hp40, if_neg (by decide), if_neg (by decide), if_pos rfl]
        rcases x3.1 with q | q
        · rw [q] at hΦ ⊢
          rw [if_pos rfl]
          exact hΦ
        · rw [q] at hΦ ⊢
          rw [if_neg (by decide)]
          exact hΦ
      · unfold w_X10_person
        rw [hN, if_pos rfl, s_of_0 hp40, if_neg (by decide), if_neg (by decide), if_pos rfl, s_of_2 hp40, show r (120 + 7 * p + 2) = σ (50 + p) 1 from hP 1 (by decide)]
        exact hΦ
    by_cases z3 : b = 3
    · subst z3
      refine ⟨σ (50 + p) 3, fun μ Φ hΦ => ?_, fun ρ Φ hΦ => ?_⟩
      · unfold w_X9_person
        rw [hA, opt_some, bl_P hp40, if_neg (by decide), if_neg (by decide), if_neg (by decide), if_pos rfl]
        exact hΦ
      · unfold w_X10_person
        rw [hN, if_pos rfl, s_of_0 hp40, if_neg (by decide), if_neg (by decide), if_neg (by decide), if_pos rfl, s_of_3 hp40, show r (120 + 7 * p + 3) = σ (50 + p) 3 from hP 3 (by decide)]
        exact hΦ
    by_cases z4 : b = 4
    · subst z4
      refine ⟨σ (50 + p) 4, fun μ Φ hΦ => ?_, fun ρ Φ hΦ => ?_⟩
      · unfold w_X9_person
        rw [hA, opt_some, bl_P hp40, if_neg (by decide), if_neg (by decide), if_neg (by decide), if_neg (by decide), if_pos rfl]
        exact hΦ
      · unfold w_X10_person
        rw [hN, if_pos rfl, s_of_0 hp40, if_neg (by decide), if_neg (by decide), if_neg (by decide), if_neg (by decide), if_pos rfl, s_of_4 hp40, show r (120 + 7 * p + 4) = σ (50 + p) 4 from hP 4 (by decide)]
        exact hΦ
    by_cases z5 : b = 5
    · subst z5
      have hw : ∀ (ρ : Mm) (Φ : Int32 → Mm → Prop), w_X10_waited (nI p) (rw1 ρ r) Φ = Φ (σ 0 9 - σ (50 + p) 5) (rw1 ρ r) := by
        intro ρ Φ
        unfold w_X10_waited
        rw [s_of_5 hp40, rw1_1, show (0 : Int32).toNatClampNeg = 0 from rfl, et, show r (120 + 7 * p + 5) = σ (50 + p) 5 from hP 5 (by decide)]
      by_cases w1 : σ (50 + p) 2 = 1
      · refine ⟨σ 0 9 - σ (50 + p) 5, fun μ Φ hΦ => ?_, fun ρ Φ hΦ => ?_⟩
        · unfold w_X9_person
          rw [hA, opt_some, if_neg (by decide), if_neg (by decide), if_neg (by decide), if_neg (by decide), if_neg (by decide), if_pos rfl, c_waits, bl_P hp40, if_pos w1, if_neg (by decide), bl_0]
          exact hΦ
        · unfold w_X10_person
          rw [hN, if_pos rfl, s_of_0 hp40, if_neg (by decide), if_neg (by decide), if_neg (by decide), if_neg (by decide), if_neg (by decide), if_pos rfl, e0, if_pos w1, hw]
          exact hΦ
      · by_cases w4 : σ (50 + p) 2 = 4
        · refine ⟨σ 0 9 - σ (50 + p) 5, fun μ Φ hΦ => ?_, fun ρ Φ hΦ => ?_⟩
          · unfold w_X9_person
            rw [hA, opt_some, if_neg (by decide), if_neg (by decide), if_neg (by decide), if_neg (by decide), if_neg (by decide), if_pos rfl, c_waits, bl_P hp40, if_neg w1, if_pos w4, if_neg (by decide), bl_0]
            exact hΦ
          · unfold w_X10_person
            rw [hN, if_pos rfl, s_of_0 hp40, if_neg (by decide), if_neg (by decide), if_neg (by decide), if_neg (by decide), if_neg (by decide), if_pos rfl, e0, if_neg w1, if_pos w4, hw]
            exact hΦ
        · refine ⟨0, fun μ Φ hΦ => ?_, fun ρ Φ hΦ => ?_⟩
          · unfold w_X9_person
            rw [hA, opt_some, if_neg (by decide), if_neg (by decide), if_neg (by decide), if_neg (by decide), if_neg (by decide), if_pos rfl, c_waits, bl_P hp40, if_neg w1, if_neg w4, if_pos rfl]
            exact hΦ
          · unfold w_X10_person
            rw [hN, if_pos rfl, s_of_0 hp40, if_neg (by decide), if_neg (by decide), if_neg (by decide), if_neg (by decide), if_neg (by decide), if_pos rfl, e0, if_neg w1, if_neg w4]
            exact hΦ
    · refine ⟨-2, fun μ Φ hΦ => ?_, fun ρ Φ hΦ => ?_⟩
      · unfold w_X9_person
        rw [hA, opt_some, if_neg z0, if_neg z1, if_neg z2, if_neg z3, if_neg z4, if_neg z5]
        exact hΦ
      · unfold w_X10_person
        rw [hN, if_pos rfl, s_of_0 hp40, if_neg z0, if_neg z1, if_neg z2, if_neg z3, if_neg z4, if_neg z5]
        exact hΦ
  · refine ⟨-1, fun μ Φ hΦ => ?_, fun ρ Φ hΦ => ?_⟩
    · unfold w_X9_person
      rw [d_personAt_n h.1.1.2.1.1 ha, opt_none]
      exact hΦ
    · unfold w_X10_person
      rw [s_noPerson_n h.1.1.2.1.2.1 ha (by omega), if_neg (by decide)]
      exact hΦ
theorem op_person : Op_person Sim := fun n μ ρ hn hS a b => op_ask (do_person a b) hn hS
end ASK
