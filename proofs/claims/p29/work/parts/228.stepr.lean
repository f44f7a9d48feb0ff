/-! every step is one of the cases -/
section STEPRR
variable {σ : Mm} {r r' : Nat → Int32} {T ng np nx nl g p v : Nat}
theorem nI0' : nI 0 = 0 := rfl
theorem rel_pass (h : Rel σ r T ng np nx 1) (hp : p < np) : r (120 + 7 * p + 1) = -5 ∨ ∃ x, x < nx ∧ r (120 + 7 * p + 1) = nI x ∧ r (400 + 2 * x) = 0 := by
  obtain ⟨hC, hVG, hVP, hVX, hRQ, hRN, hRU⟩ := h
  have e : σ (50 + p) 0 = r (120 + 7 * p + 1) := hC.2.2.1 p 0 hp (by decide)
  obtain ⟨w, -, -, -, x4, -⟩ := hVP p hp
  rw [e] at x4
  rcases x4 with x4 | ⟨x, hx, x4⟩
  · exact Or.inl x4
  · obtain ⟨k, hk, k1, -⟩ := hVX x hx
    have e0 : σ (94 + x) 0 = r (400 + 2 * x + 0) := hC.2.2.2.1 x 0 hx (by decide)
    refine Or.inr ⟨x, hx, x4, ?_⟩
    have hk0 : k = 0 := by omega
    rw [hk0, nI0'] at k1
    exact e0.symm.trans k1
theorem rel_pass12 (h : Rel σ r T ng np nx 1) (hp : p < np) : r (120 + 7 * p + 1) = -5 ∨ ∃ x, x < 12 ∧ r (120 + 7 * p + 1) = nI x ∧ r (400 + 2 * x) = 0 := by
  have := h.1.n
  rcases rel_pass h hp with e | ⟨x, h1, h2⟩
  · exact Or.inl e
  · exact Or.inr ⟨x, by omega, h2⟩
theorem rel_w (h : Rel σ r T ng np nx nl) (hp : p < np) : ∃ w, w ≤ 5 ∧ r (120 + 7 * p + 0) = nI w ∧ σ (50 + p) 2 = nI w := by
  obtain ⟨w, h1, h2, -⟩ := h.2.2.1 p hp
  have e : σ (50 + p) 2 = r (120 + 7 * p + 0) := h.1.2.2.1 p 2 hp (by decide)
  exact ⟨w, h1, e.symm.trans h2, h2⟩
/-- who is in a gate that is busy -/
theorem rel_in (h : Rel σ r T ng np nx nl) (hg : g < ng) : (∃ st, (st = 0 ∨ st = 5) ∧ r (8 + 14 * g + 4) = nI st ∧ r (8 + 14 * g + 6) = -5) ∨ ∃ p st o b, InG r np g p st o b := by
  obtain ⟨hC, hVG, hVP, hVX, hRQ, hRN, hRU⟩ := h
  obtain ⟨n1, n2, n3, n4⟩ := hC.n
  obtain ⟨d, st, g1, g2, g3, g4, g5, g6⟩ := hVG g hg
  have es4 : r (8 + 14 * g + 4) = nI st := by rw [← g4]; exact (hC.2.1 g 4 hg (by decide)).symm
  have e6 : σ (10 + 5 * g) 8 = r (8 + 14 * g + 6) := hC.2.1 g 6 hg (by decide)
  have e9 : σ (10 + 5 * g) 9 = r (8 + 14 * g + 9) := hC.2.1 g 7 hg (by decide)
  have e8 : σ (10 + 5 * g) 10 = r (8 + 14 * g + 8) := hC.2.1 g 8 hg (by decide)
  rcases g6 with ⟨hst, g8⟩ | ⟨hst, p, o, hp, ho, f8, f10, f2, f3, f67⟩
  · exact Or.inl ⟨st, hst, es4, e6.symm.trans g8⟩
  · obtain ⟨w, -, -, x3, -⟩ := hVP p hp
    have p2 : σ (50 + p) 2 = r (120 + 7 * p + 0) := hC.2.2.1 p 2 hp (by decide)
    have p3 : σ (50 + p) 3 = r (120 + 7 * p + 3) := hC.2.2.1 p 3 hp (by decide)
    have p1 : σ (50 + p) 1 = r (120 + 7 * p + 2) := hC.2.2.1 p 1 hp (by decide)
    refine Or.inr ⟨p, st, o, r (8 + 14 * g + 7), hp, hst.1, hst.2, es4, e6.symm.trans f8, p2.symm.trans f2, p3.symm.trans f3, ho, e8.symm.trans f10, rfl, ?_, by rw [← p1]; exact x3.1, by rw [← e9]; exact g5⟩
    rcases f67 with ⟨q, -⟩ | ⟨q, -⟩
    · exact Or.inl q
    · exact Or.inr q
set_option maxHeartbeats 4000000 in
theorem step_r (h : Rel σ r T ng np nx 1) (hg : g < ng) : ∃ r' v, StepR r np g r' v ∧ ∀ (ρ : Mm) (Φ : Unit → Mm → Prop), w_X10_step (nI g) (rw1 ρ r) Φ = Φ () (rw1 ρ r') := by
  obtain ⟨n1, n2, n3, n4⟩ := h.1.n
  have hg8 : g < 8 := by omega
  have h2 : r 2 = nI np := h.1.1.2.1.2.1
  rcases rel_in h hg with ⟨st, hst, es4, -⟩ | ⟨p, st, o, b, hin⟩
  · rcases hst with rfl | rfl
    · obtain ⟨e, he, -, hcase⟩ := sim_next h hg
      rcases hcase with ⟨-, hR⟩ | ⟨n, p, hn, hp, hl, ha, e3, e2, hR⟩
      · have hx : nxt r np g = -5 := ((s_nextFor (ρ := fun _ _ => 0) (Φ := fun v _ => v = -5) h2 n2 hg8).symm.trans (hR _ _)).mpr rfl
        refine ⟨r, 0, Or.inr (Or.inl ⟨es4, hx, rfl, rfl⟩), fun ρ Φ => ?_⟩
        unfold w_X10_step
        rw [s_gateOf_4 hg8, es4, if_neg (by decide), if_pos (by decide)]
        unfold w_X10_takeNext
        rw [hR, if_neg (by decide)]
      · have hx : nxt r np g = nI p := ((s_nextFor (ρ := fun _ _ => 0) (Φ := fun v _ => v = nI p) h2 n2 hg8).symm.trans (hR _ _)).mpr rfl
        have hp40 : p < 40 := by omega
        have p2 : σ (50 + p) 2 = r (120 + 7 * p + 0) := h.1.2.2.1 p 2 hp (by decide)
        have p3 : σ (50 + p) 3 = r (120 + 7 * p + 3) := h.1.2.2.1 p 3 hp (by decide)
        have er0 : r (120 + 7 * p + 0) = nI (1 + 3 * e) := p2.symm.trans e2
        have hF : FirstG r np g p e := ⟨hp, hx, p3.symm.trans e3, he, er0⟩
        rcases (show e = 0 ∨ e = 1 by omega) with rfl | rfl
        · have hv12 := pass_ok h.1 h.2.2.1
          have hx12 := rel_pass12 h hp
          obtain ⟨v, hv5, -, hrr, hm⟩ := sim_reason h.1 h.2.2.1 h.2.2.2.1 h.2.2.2.2.2.2 hp
          have hw : whyR r np p = nI v := ((s_refusal (ρ := fun _ _ => 0) (Φ := fun x _ => x = nI v) h2 n2 hp40 hv12 hx12).symm.trans (hrr _ _)).mpr rfl
          have head : ∀ (ρ : Mm) (Φ : Unit → Mm → Prop), w_X10_step (nI g) (rw1 ρ r) Φ = w_X10_takeNext_40 (fun _ u => Φ () u) (nI g) (nI p) 1 (nI v) (rw1 ρ r) := fun ρ Φ => by
            unfold w_X10_step
            rw [s_gateOf_4 hg8, es4, if_neg (by decide), if_pos (by decide)]
            unfold w_X10_takeNext
            rw [hR, if_pos (nI_pos' (by omega)), s_of_0 hp40, er0, if_pos (by decide)]
            unfold w_X10_takeNext_26
            rw [if_neg (by decide), hrr]
          by_cases hv : v = 0
          · subst hv
            obtain ⟨x, k, hmg⟩ := hm rfl
            have hxe : r (120 + 7 * p + 1) = nI x := by rw [← hmg.2.2.1]; exact (h.1.2.2.1 p 0 hp (by decide)).symm
            have hx0 : r (400 + 2 * x) = 0 := by
              rcases hx12 with q | ⟨y, hy, q, q0⟩
              · exact absurd (hxe.symm.trans q) (nI_n5 (by have := hmg.1; omega))
              · have : x = y := nI_inj (by have := hmg.1; omega) (by omega) (hxe.symm.trans q)
                rw [this]; exact q0
            refine ⟨_, 0, Or.inr (Or.inr (Or.inr (Or.inl ⟨p, x, es4, hF, hw, ⟨by have := hmg.1; omega, hxe, hx0⟩, rfl, rfl⟩))), fun ρ Φ => ?_⟩
            rw [head, nI0', s_pay hp40 (by have := hmg.1; omega) hxe hx0, s_go hg8 hp40 (Or.inl rfl)]
          · refine ⟨_, 0, Or.inr (Or.inr (Or.inl ⟨p, v, es4, hF, by omega, hv5, hw, rfl, rfl⟩)), fun ρ Φ => ?_⟩
            rw [head, s_ref hg8 hp40 (by omega) (by omega)]
        · refine ⟨_, 0, Or.inr (Or.inr (Or.inr (Or.inr (Or.inl ⟨p, es4, hF, rfl, rfl⟩)))), fun ρ Φ => ?_⟩
          unfold w_X10_step
          rw [s_gateOf_4 hg8, es4, if_neg (by decide), if_pos (by decide)]
          unfold w_X10_takeNext
          rw [hR, if_pos (nI_pos' (by omega)), s_of_0 hp40, er0, if_neg (by decide)]
          unfold w_X10_takeNext_26
          rw [if_pos rfl]
          unfold w_X10_takeNext_40
          rw [if_pos (by decide), if_pos rfl, s_go hg8 hp40 (Or.inr rfl)]
    · refine ⟨r, 0, Or.inl ⟨es4, rfl, rfl⟩, fun ρ Φ => ?_⟩
      unfold w_X10_step
      rw [s_gateOf_4 hg8, es4, if_pos (by decide)]
  · have hin0 := hin
    obtain ⟨hp, q1, q2, es4, e6, w2, a3, ho, e8, e7, hb, hsl, h9⟩ := hin
    have hp40 : p < 40 := by omega
    have n05 : nI st ≠ 5 := fun e => by have := nI_inj (a := st) (b := 5) (by omega) (by omega) e; omega
    have n00 : nI st ≠ 0 := nI_ne0 (by omega) (by omega)
    have o1 : ∀ i, i ≠ 8 + 14 * g + 5 → F_left g r i = r i := fun i hi => by unfold F_left; rw [pk_un hi]
    have oL : F_left g r (8 + 14 * g + 5) = r (8 + 14 * g + 5) - 1 := by unfold F_left; rw [pk_us]
    have RS : ∀ (ρ : Mm) (Φ : Unit → Mm → Prop), w_X10_step (nI g) (rw1 ρ r) Φ = w_X10_step_51 Φ (nI g) (nI st) (if r (8 + 14 * g + 5) - 1 = 0 then 1 else 0) (rw1 ρ (F_left g r)) := by
      intro ρ Φ
      unfold w_X10_step
      rw [s_gateOf_4 hg8, es4, if_neg n05, if_neg n00, s_gateOf_5 hg8, s_putGate_5 hg8, s_gateOf_5 hg8, pk_us]
      show (if r (8 + 14 * g + 5) - 1 = 0 then w_X10_step_51 Φ (nI g) (nI st) 1 (rw1 ρ (F_left g r)) else w_X10_step_51 Φ (nI g) (nI st) 0 (rw1 ρ (F_left g r))) = _
      by_cases hl : r (8 + 14 * g + 5) - 1 = 0
      · rw [if_pos hl, if_pos hl]
      · rw [if_neg hl, if_neg hl]
    have f9 : F_left g r (8 + 14 * g + 9) = r (8 + 14 * g + 9) := o1 _ (by omega)
    by_cases hst3 : st = 3
    · subst hst3
      rcases h9 with h9 | h9
      · by_cases hl : r (8 + 14 * g + 5) - 1 = 0
        · refine ⟨_, 1, Or.inr (Or.inr (Or.inr (Or.inr (Or.inr (Or.inr (Or.inr (Or.inr (Or.inr (Or.inr ⟨p, o, b, hin0, h9, hl, rfl, rfl⟩))))))))), fun ρ Φ => ?_⟩
          rw [RS, if_pos hl]
          unfold w_X10_step_51
          rw [if_pos (by decide), s_gateOf_9 hg8, f9, h9, if_neg (by decide)]
          unfold w_X10_step_76
          rw [if_neg (by decide), if_neg (by decide), if_neg (by decide)]
          unfold w_X10_step_98
          rw [if_neg (by decide), if_neg (by decide), if_neg (by decide), let_turn hg8 hp40 (by rw [o1 _ (by omega)]; exact e6) (by rw [o1 _ (by omega), e7]; exact hb)]
          exact s_let hg8 hp40 (by rw [pk_un (by omega), pk_un (by omega), o1 _ (by omega)]; exact e6) (by rw [pk_un (by omega), pk_un (by omega), o1 _ (by omega)]; exact e7) hb
        · refine ⟨_, 0, Or.inr (Or.inr (Or.inr (Or.inr (Or.inr (Or.inl ⟨p, 3, o, b, hin0, hl, Or.inr h9, rfl, rfl⟩))))), fun ρ Φ => ?_⟩
          rw [RS, if_neg hl]
          unfold w_X10_step_51
          rw [if_pos (by decide), s_gateOf_9 hg8, f9, h9, if_neg (by decide)]
          unfold w_X10_step_76
          rw [if_pos rfl]
          unfold w_X10_step_98
          rw [if_pos rfl, if_pos rfl]
      · have kS : ∀ (ρ : Mm) (Φ : Unit → Mm → Prop), w_X10_step (nI g) (rw1 ρ r) Φ = w_X10_pinched (nI g) (rw1 ρ (F_left g r)) (fun _ u39 => Φ () u39) := by
          intro ρ Φ
          rw [RS]
          unfold w_X10_step_51
          rw [if_pos (by decide), s_gateOf_9 hg8, f9, h9, if_pos rfl]
        have x6 : F_left g r (8 + 14 * g + 6) = nI p := by rw [o1 _ (by omega)]; exact e6
        have x8 : F_left g r (8 + 14 * g + 8) = nI o := by rw [o1 _ (by omega)]; exact e8
        by_cases ho2 : o = 2
        · subst ho2
          refine ⟨_, 1, Or.inr (Or.inr (Or.inr (Or.inr (Or.inr (Or.inr (Or.inr (Or.inr (Or.inr (Or.inl ⟨p, b, hin0, h9, rfl, rfl⟩))))))))), fun ρ Φ => ?_⟩
          rw [kS, s_pin hg8 x6 x8 (by decide), if_pos rfl, s_brk hg8 hp40 (p := p) (b := b) ?_ ?_ hb]
          · unfold F_pin
            rw [rTell_o (by omega) (by omega), pk_un (by omega), pk_un (by omega), pk_un (by omega)]; exact x6
          · unfold F_pin
            rw [rTell_o (by omega) (by omega), pk_un (by omega), pk_un (by omega), pk_un (by omega), o1 _ (by omega)]; exact e7
        · refine ⟨_, 0, Or.inr (Or.inr (Or.inr (Or.inr (Or.inr (Or.inr (Or.inr (Or.inr (Or.inl ⟨p, o, b, hin0, h9, by omega, rfl, rfl⟩)))))))), fun ρ Φ => ?_⟩
          rw [kS, s_pin hg8 x6 x8 ho, if_neg ho2, oL, o1 (8 + 14 * g + 3) (by omega)]
    · have n3' : nI st ≠ 3 := fun e => by have := nI_inj (a := st) (b := 3) (by omega) (by omega) e; omega
      by_cases hl : r (8 + 14 * g + 5) - 1 = 0
      · by_cases hst2 : st = 2
        · subst hst2
          refine ⟨_, 0, Or.inr (Or.inr (Or.inr (Or.inr (Or.inr (Or.inr (Or.inr (Or.inl ⟨p, o, b, hin0, hl, rfl, rfl⟩))))))), fun ρ Φ => ?_⟩
          rw [RS, if_pos hl]
          unfold w_X10_step_51
          rw [if_neg (by decide)]
          unfold w_X10_step_76
          rw [if_neg (by decide), if_neg (by decide), if_neg (by decide)]
          unfold w_X10_step_98
          rw [if_neg (by decide), if_pos (by decide), s_gateOf_3 hg8, s_turn hg8, o1 (8 + 14 * g + 3) (by omega)]
          rfl
        · have s14 : st = 1 ∨ st = 4 := by omega
          refine ⟨_, 0, Or.inr (Or.inr (Or.inr (Or.inr (Or.inr (Or.inr (Or.inl ⟨p, st, o, b, hin0, hl, s14, rfl, rfl⟩)))))), fun ρ Φ => ?_⟩
          have rop : ∀ (ρ : Mm) (Φ : Unit → Mm → Prop), w_X10_opened (nI g) (rw1 ρ (F_left g r)) Φ = Φ () (rw1 ρ (F_turn g 2 (r (8 + 14 * g + 2) + 2 * r (120 + 7 * p + 2)) (F_left g r))) := by
            intro ρ Φ
            unfold w_X10_opened
            rw [s_gateOf_2 hg8, s_gateOf_6 hg8, o1 (8 + 14 * g + 6) (by omega), e6, s_of_2 hp40, s_turn hg8, o1 (8 + 14 * g + 2) (by omega), o1 (120 + 7 * p + 2) (by omega)]
            rfl
          rw [RS, if_pos hl]
          unfold w_X10_step_51
          rw [if_neg n3']
          unfold w_X10_step_76
          rw [if_neg (by decide)]
          rcases s14 with e | e
          · rw [e, if_pos (show nI 1 = 1 from rfl), rop]
          · rw [e, if_neg (by decide), if_pos (show nI 4 = 4 from rfl), rop]
      · refine ⟨_, 0, Or.inr (Or.inr (Or.inr (Or.inr (Or.inr (Or.inl ⟨p, st, o, b, hin0, hl, Or.inl hst3, rfl, rfl⟩))))), fun ρ Φ => ?_⟩
        rw [RS, if_neg hl]
        unfold w_X10_step_51
        rw [if_neg n3']
        unfold w_X10_step_76
        rw [if_pos rfl]
        unfold w_X10_step_98
        rw [if_pos rfl, if_pos rfl]
theorem rw1_inj {ρ : Mm} {a b : Nat → Int32} (h : rw1 ρ a = rw1 ρ b) : a = b := by
  have := congrFun h 1
  rw [rw1_1, rw1_1] at this
  exact this
theorem let_cnt {s : Nat → Int32} {b : Int32} {p : Nat} (hp : p < np) (hn : np ≤ 40) (hg : g < 8) (hb : b = 1 ∨ b = 0) (q10 : s (8 + 14 * g + 10) = r (8 + 14 * g + 10)) (q11 : s (8 + 14 * g + 11) = r (8 + 14 * g + 11)) : F_let g p b s (8 + 14 * g + 10) + F_let g p b s (8 + 14 * g + 11) = r (8 + 14 * g + 10) + r (8 + 14 * g + 11) + nI 1 := by
  rcases hb with rfl | rfl
  · rw [F_let_1, rTell_o (by omega) (by omega), rTell_o (by omega) (by omega), pk_un (by omega), pk_us, pk_un (by omega), pk_un (by omega), pk_un (by omega), pk_un (by omega), q10, q11]
    show r (8 + 14 * g + 10) + 1 + r (8 + 14 * g + 11) = r (8 + 14 * g + 10) + r (8 + 14 * g + 11) + 1
    rw [Int32.add_assoc, Int32.add_assoc, Int32.add_comm 1]
  · rw [F_let_0, rTell_o (by omega) (by omega), rTell_o (by omega) (by omega), pk_un (by omega), pk_un (by omega), pk_un (by omega), pk_un (by omega), pk_un (by omega), pk_us, q10, q11]
    show r (8 + 14 * g + 10) + (r (8 + 14 * g + 11) + 1) = r (8 + 14 * g + 10) + r (8 + 14 * g + 11) + 1
    rw [Int32.add_assoc]
/-- the counters of who passed tell how many passed in a step -/
theorem StepR.cnt (h : StepR r np g r' v) (hn : np ≤ 40) (hg : g < 8) : r' (8 + 14 * g + 10) + r' (8 + 14 * g + 11) = r (8 + 14 * g + 10) + r (8 + 14 * g + 11) + nI v := by
  have z : ∀ x : Int32, x = x + nI 0 := fun x => (Int32.add_zero x).symm
  have o5 : ∀ q, q < 40 → (8 + 14 * g + 10 ≠ 120 + 7 * q + 0) := fun q _ => by omega
  rcases h with ⟨-, rfl, rfl⟩ | ⟨-, -, rfl, rfl⟩ | ⟨p, y, -, ⟨hp, -⟩, -, -, -, rfl, rfl⟩ | ⟨p, x, -, ⟨hp, -⟩, -, -, rfl, rfl⟩ | ⟨p, -, ⟨hp, -⟩, rfl, rfl⟩ | ⟨p, st, o, b, ⟨hp, -⟩, -, -, rfl, rfl⟩ | ⟨p, st, o, b, ⟨hp, -⟩, -, -, rfl, rfl⟩ | ⟨p, o, b, ⟨hp, -⟩, -, rfl, rfl⟩ | ⟨p, o, b, ⟨hp, -⟩, -, -, rfl, rfl⟩ | ⟨p, b, ⟨hp, -, -, -, -, -, -, -, -, -, hb, -⟩, -, rfl, rfl⟩ | ⟨p, o, b, ⟨hp, -, -, -, -, -, -, -, -, -, hb, -⟩, -, -, rfl, rfl⟩
  · exact z _
  · exact z _
  · unfold F_ref
    rw [rTell_o (by omega) (by omega), rTell_o (by omega) (by omega), pk_un (by omega), pk_un (by omega), pk_un (by omega), pk_un (by omega), pk_un (by omega), pk_un (by omega), pk_un (by omega), pk_un (by omega)]
    exact z _
  · unfold F_go F_pay
    rw [pk_un (by omega), pk_un (by omega), pk_un (by omega), pk_un (by omega), pk_un (by omega), pk_un (by omega), rTell_o (by omega) (by omega), pk_un (by omega), pk_un (by omega), pk_un (by omega), pk_un (by omega), pk_un (by omega), pk_un (by omega), pk_un (by omega), pk_un (by omega), rTell_o (by omega) (by omega), pk_un (by omega), pk_un (by omega)]
    exact z _
  · unfold F_go
    rw [pk_un (by omega), pk_un (by omega), pk_un (by omega), pk_un (by omega), pk_un (by omega), pk_un (by omega), pk_un (by omega), pk_un (by omega), pk_un (by omega), pk_un (by omega), pk_un (by omega), pk_un (by omega)]
    exact z _
  · unfold F_left
    rw [pk_un (by omega), pk_un (by omega)]
    exact z _
  · unfold F_turn F_left
    rw [pk_un (by omega), pk_un (by omega), pk_un (by omega), pk_un (by omega), pk_un (by omega), pk_un (by omega)]
    exact z _
  · unfold F_turn F_left
    rw [pk_un (by omega), pk_un (by omega), pk_un (by omega), pk_un (by omega), pk_un (by omega), pk_un (by omega)]
    exact z _
  · unfold F_turn F_pin F_left
    rw [pk_un (by omega), pk_un (by omega), rTell_o (by omega) (by omega), pk_un (by omega), pk_un (by omega), pk_un (by omega), pk_un (by omega), pk_un (by omega), pk_un (by omega), rTell_o (by omega) (by omega), pk_un (by omega), pk_un (by omega), pk_un (by omega), pk_un (by omega)]
    exact z _
  · have q10 : F_brk g (F_pin g p 2 (F_left g r)) (8 + 14 * g + 10) = r (8 + 14 * g + 10) := by
      unfold F_brk F_pin F_left
      rw [rTell_o (by omega) (by omega), pk_un (by omega), pk_un (by omega), pk_un (by omega), rTell_o (by omega) (by omega), pk_un (by omega), pk_un (by omega), pk_un (by omega), pk_un (by omega)]
    have q11 : F_brk g (F_pin g p 2 (F_left g r)) (8 + 14 * g + 11) = r (8 + 14 * g + 11) := by
      unfold F_brk F_pin F_left
      rw [rTell_o (by omega) (by omega), pk_un (by omega), pk_un (by omega), pk_un (by omega), rTell_o (by omega) (by omega), pk_un (by omega), pk_un (by omega), pk_un (by omega), pk_un (by omega)]
    exact let_cnt hp hn hg hb q10 q11
  · have q10 : F_turn g 0 0 (F_left g r) (8 + 14 * g + 10) = r (8 + 14 * g + 10) := by
      unfold F_turn F_left
      rw [pk_un (by omega), pk_un (by omega), pk_un (by omega)]
    have q11 : F_turn g 0 0 (F_left g r) (8 + 14 * g + 11) = r (8 + 14 * g + 11) := by
      unfold F_turn F_left
      rw [pk_un (by omega), pk_un (by omega), pk_un (by omega)]
    exact let_cnt hp hn hg hb q10 q11
end STEPRR
