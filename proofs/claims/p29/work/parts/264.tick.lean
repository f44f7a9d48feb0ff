/-! one tick of one gate -/
section TICK29
variable {r r' : Nat → Int32} {n ng np nx nl g p x T B : Nat} {μ σ : Mm} {Φ : Int32 → Mm → Prop}
theorem ltn {a b : Nat} (h : nI a = nI b) (ha : a < 2147483648) (hb : b < 2147483648) : a = b := nI_inj ha hb h
theorem l450 (h : Rel (HB μ 1) r T ng np nx 1) (hg : g < ng) (hp : p < np) (h4 : r (8 + 14 * g + 4) = 1) (h6 : r (8 + 14 * g + 6) = nI p) (h0 : r (120 + 7 * p + 0) = 2) {op : Nat} (h5 : r (8 + 14 * g + 5) = nI op) (o1 : 1 ≤ op) (o2 : op ≤ 10) (H : Φ 1 μ) : w_L_tick_450 Φ (nI g) (nI p) (r (8 + 14 * g + 4)) μ := by
  unfold w_L_tick_450 w_L_tick_455
  rw [if_pos h4, if_neg (by decide), rg_3 h hg, if_pos h6, rp_0 h hp, if_pos h0, rg_2 h hg, h5, if_neg (show ¬ nI op < 1 from nI_nlt (a := op) (b := 1) (by omega) (by omega)), rg_2 h hg, h5, if_neg (show ¬ (10 : Int32) < nI op from nI_nlt (a := 10) (b := op) (by omega) (by omega))]
  exact H
theorem l705 (h : Rel (HB μ 1) r T ng np nx 1) (hg : g < ng) (h4 : r (8 + 14 * g + 4) = 2) {ho m : Nat} {s : Int32} (hs : s = nI m) (m2 : m ≤ 4) (h5 : r (8 + 14 * g + 5) = nI (ho + m)) (o1 : 1 ≤ ho) (o2 : ho ≤ 20) (H : Φ 1 μ) : w_L_tick_705 Φ (nI g) 0 (r (8 + 14 * g + 4)) s μ := by
  unfold w_L_tick_705
  rw [if_pos h4, rg_2 h hg, h5, hs, if_neg (nI_ge (by omega) (by omega)), rg_2 h hg, h5, show (20 : Int32) + nI m = nI (20 + m) from nI_add 20 m, if_neg (nI_nlt (by omega) (by omega)), if_pos rfl]
  exact H
set_option maxHeartbeats 8000000 in
theorem law_tick (hn : n < 40000) (hM : M29 n μ r ng np nx 1) (hJ : J B r ng np) (hW : Wt r np) (hg : g < ng) (ha : ∀ j, j < ng → j ≠ g → r (8 + 14 * j + 4) = 5) (H : ∀ (r' : Nat → Int32) (μ' : Mm), M29 (n + 1) μ' r' ng np nx 1 → J B r' ng np → Wt r' np → (∀ j, j < ng → j ≠ g → r' (8 + 14 * j + 4) = 5) → Φ 1 μ') : w_L_tick (nI g) μ Φ := by
  have h := hM.1
  obtain ⟨n1, n2, n3, n4⟩ := h.1.n
  have hg8 : g < 8 := by omega
  obtain ⟨x7, x8, x9, z0, k1, k2⟩ := tick_pre (Φ := Φ) h hg
  refine k1 ?_
  unfold w_L_tick_183
  rw [rc_0 h, rg_10 h hg, rg_6 h hg, rg_7 h hg, rg_9 h hg, rg_8 h hg]
  unfold w_X9_pass
  refine act29 hn hM (a_ticks (k := 1) hn (by decide) (by decide)) ?_
  rintro v r' ng' np' nx' nl' μ' ⟨⟨w, ev, -, hT⟩, e1, e2, e3, e4⟩ hM' -
  rw [e1, e2, e3, e4] at hM'
  clear e1 e2 e3 e4
  have h' := hM'.1
  have et : r' 0 = r 0 + 1 := Ticks.time (k := 1) n2 n1 hT
  have hJ' := J_ticks n1 n2 1 hJ hT
  obtain ⟨t0, t1, t2, t3⟩ := hW
  have hW : Wt r np := ⟨t0, t1, t2, t3⟩
  have hW' : Wt r' np := by
    obtain ⟨-, -, -, -, -, ⟨t', q1, -, q3⟩, -, q4⟩ := h'.1.1
    refine hW.tick n2 n1 (v := w) ?_ ⟨t', by omega, q3⟩
    obtain ⟨ra, va, vb, a1, -, ⟨a2, a3⟩, a4⟩ := hT
    rw [a2, a4, a3]
    exact a1
  obtain ⟨ra, va, vb, ⟨r1, s1, s2⟩, -, ⟨s3, s4⟩, s5⟩ := hT
  rw [s4, Nat.add_zero] at s5
  rw [← s5] at s1
  have hS : StepR r np g r1 w := (steps_alone (g := g) n2 n1 ng 0 (by omega) (fun j _ hj hne => ha j hj hne) s1).2 (by omega) hg
  have oo : ∀ i, i ≠ 0 → r' i = r1 i := fun i hi => by rw [s3, s2, pk_un hi]
  clear s1 s2 s3 s4 s5 va vb
  have fin : Φ 1 μ' := H r' μ' hM' hJ' hW' (fun j hj hne => by
    rw [oo _ (by omega), (hS.fr n2 hg8).1 _ (by omega) (by omega) (by omega) (by omega) (by omega) (fun q hq => by omega)]
    exact ha j hj hne)
  have evr := rel_ev h
  have q4 := oo (8 + 14 * g + 4) (by omega)
  have q5 := oo (8 + 14 * g + 5) (by omega)
  have q6 := oo (8 + 14 * g + 6) (by omega)
  have q9 := oo (8 + 14 * g + 9) (by omega)
  have q10 := oo (8 + 14 * g + 10) (by omega)
  have q11 := oo (8 + 14 * g + 11) (by omega)
  have q12 := oo (8 + 14 * g + 12) (by omega)
  have q13 := oo (8 + 14 * g + 13) (by omega)
  obtain ⟨st, lf, op, ho, cl', s1, s2, s3, s4, s5, s6, s7, s8, s9, s10⟩ := hJ.2.1 g hg
  show w_X9_gate (nI g) 1 μ' _
  rw [rg_1 h' hg, rc_0 h', if_pos et, ev]
  have busy : ∀ {p' st' o b}, InG r np g p' st' o b → r (8 + 14 * g + 4) ≠ 5 ∧ r (8 + 14 * g + 4) ≠ 0 := fun {p' st' o b} hI => by
    obtain ⟨-, i1, i4, ie, -⟩ := hI
    rw [ie]
    exact ⟨fun e => by have := nI_inj (a := st') (b := 5) (by omega) (by omega) e; omega, fun e => by have := nI_inj (a := st') (b := 0) (by omega) (by omega) e; omega⟩
  have evt : ∀ {s : Nat → Int32} {t a b k : Int32}, Ev0 s t a b k → (∀ i, i = 5 ∨ (436 ≤ i ∧ i < 440) → r1 i = s i) → Ev0 r' t a b k := fun hE e => hE.keep (fun i hi => (oo i (by omega)).trans (e i hi))
  have ev5 : ∀ {s : Nat → Int32}, s 5 = r 5 → ∃ l, l ≤ 20 ∧ s 5 = nI l := fun e => by rw [e]; exact evr
  rcases hS with ⟨a1, e, ew⟩ | ⟨a1, a2, e, ew⟩ | ⟨p, y, a1, hF, y1, y5, hy, e, ew⟩ | ⟨p, x, a1, hF, hy, hx, e, ew⟩ | ⟨p, a1, hF, e, ew⟩ | ⟨p, st', o, b, hI, a1, a2, e, ew⟩ | ⟨p, st', o, b, hI, a1, a2, e, ew⟩ | ⟨p, o, b, hI, a1, e, ew⟩ | ⟨p, o, b, hI, a1, a2, e, ew⟩ | ⟨p, b, hI, a1, e, ew⟩ | ⟨p, o, b, hI, a1, a2, e, ew⟩
  · rw [if_pos a1, q4, e, if_pos a1, ew, if_pos (show nI 0 = 0 from rfl)]
    exact fin
  · have ex : x7 = -5 := by
      rcases k2 with ⟨-, q⟩ | ⟨p, hp, q, -⟩
      · exact q
      · exact absurd (q.symm.trans a2) (nI_n5 (by omega))
    rw [if_neg (by rw [a1]; decide), if_pos a1, ex, if_neg (by decide), q4, e, if_pos a1, ew, if_pos (show nI 0 = 0 from rfl)]
    exact fin
  · obtain ⟨hp, f2, f3, f4, f5⟩ := hF
    have kk : x7 = nI p ∧ x9 = nI y := by
      rcases k2 with ⟨q, -⟩ | ⟨p', hp', q, q2, q3⟩
      · exact absurd (f2.symm.trans q) (nI_n5 (by omega))
      · have : p' = p := nI_inj (by omega) (by omega) (q.symm.trans f2)
        rw [this] at q2 q3
        rcases q3 with ⟨-, -, q4, -⟩ | ⟨q4, -⟩
        · exact ⟨q2, q4.trans hy⟩
        · exact absurd (q4.symm.trans f5) (by decide)
    have hp40 : p < 40 := by omega
    have E := evt (ev_ref (v := nI y) hg8 hp40 evr) (fun i _ => by rw [e])
    rw [if_neg (by rw [a1]; decide), if_pos a1, kk.1, kk.2, if_pos (nI_pos' (by omega)), if_neg (nI_nle y1 (by omega)), if_pos (by rw [q4, e, F_ref_o (by omega)]; exact a1), rp_0 h' hp, if_pos (by rw [oo _ (by omega), e]; exact F_ref_0 hg8 hp40), rp_4 h' hp, if_pos (by rw [oo _ (by omega), e]; exact F_ref_2 hg8 hp40), rg_8 h' hg, if_pos (by rw [q12, e]; exact F_ref_3 hg8 hp40), E.r3 h', if_pos rfl, E.r2 h', if_pos rfl, E.r0 h', if_pos rfl]
    exact fin
  · obtain ⟨hp, f2, f3, f4, f5⟩ := hF
    have hp40 : p < 40 := by omega
    have kk : x7 = nI p ∧ x8 = 1 ∧ x9 = 0 ∧ z0 = r 424 := by
      rcases k2 with ⟨q, -⟩ | ⟨p', hp', q, q2, q3⟩
      · exact absurd (f2.symm.trans q) (nI_n5 (by omega))
      · have : p' = p := nI_inj (by omega) (by omega) (q.symm.trans f2)
        rw [this] at q2 q3
        rcases q3 with ⟨-, q4, q5, q6⟩ | ⟨q4, -⟩
        · exact ⟨q2, q4, q5.trans hy, q6 hy⟩
        · exact absurd (q4.symm.trans f5) (by decide)
    have E : Ev0 r' (r 0) (nI g) (nI p) 0 := evt (ev_pay (g := g) (p := p) evr) (fun i hi => by rw [e]; exact F_go_o (by omega))
    have p1 : r' (120 + 7 * p + 1) = nI x := by rw [oo _ (by omega), e, F_go_o (by omega), F_pay_o (by omega)]; exact hx.2.1
    have hxn : x < nx := by
      rcases rel_pass h' hp with q | ⟨x', hx', q, -⟩
      · exact absurd (p1.symm.trans q) (nI_n5 (by omega))
      · rw [nI_inj (by omega) (by omega) (p1.symm.trans q)]; exact hx'
    have c1 : r' 424 = r 424 - r' 6 := by rw [oo _ (by omega), oo 6 (by omega), e, F_go_o (by omega), F_go_o (by omega), F_pay_0 hg8 hp40, F_pay_o (by omega)]
    have w4 : r' (8 + 14 * g + 4) = 1 := by rw [q4, e]; exact F_go_4 hg8 hp40
    rw [if_neg (by rw [a1]; decide), if_pos a1, kk.1, kk.2.1, kk.2.2.1, kk.2.2.2, if_pos (nI_pos' (by omega)), if_pos (by decide), if_neg (by decide), rp_1 h' hp, p1, rx_0 h' hxn, rl_0 h', rc_9 h', if_pos c1, E.r3 h', if_pos rfl, E.r2 h', if_pos rfl]
    exact l450 h' hg hp w4 (by rw [q6, e]; exact F_go_1 hg8 hp40) (by rw [oo _ (by omega), e]; exact F_go_0 hg8 hp40) (by rw [q5, e, F_go_5 hg8 hp40, F_pay_o (by omega)]; exact s4.1) s4.2.1 s4.2.2 fin
  · obtain ⟨hp, f2, f3, f4, f5⟩ := hF
    have hp40 : p < 40 := by omega
    have kk : x7 = nI p ∧ x8 = 0 ∧ x9 = 0 := by
      rcases k2 with ⟨q, -⟩ | ⟨p', hp', q, q2, q3⟩
      · exact absurd (f2.symm.trans q) (nI_n5 (by omega))
      · have : p' = p := nI_inj (by omega) (by omega) (q.symm.trans f2)
        rw [this] at q2 q3
        rcases q3 with ⟨q4, -⟩ | ⟨-, q4, q5⟩
        · exact absurd (q4.symm.trans f5) (by decide)
        · exact ⟨q2, q4, q5⟩
    have w4 : r' (8 + 14 * g + 4) = 1 := by rw [q4, e]; exact F_go_4 hg8 hp40
    rw [if_neg (by rw [a1]; decide), if_pos a1, kk.1, kk.2.1, kk.2.2, if_pos (nI_pos' (by omega)), if_pos (by decide), if_pos rfl]
    exact l450 h' hg hp w4 (by rw [q6, e]; exact F_go_1 hg8 hp40) (by rw [oo _ (by omega), e]; exact F_go_0 hg8 hp40) (by rw [q5, e, F_go_5 hg8 hp40]; exact s4.1) s4.2.1 s4.2.2 fin
  · obtain ⟨b5, b0⟩ := busy hI
    obtain ⟨hp, i1, i4, ie, i6, i0, i3, -, -, -, -, iB2, iB9⟩ := hI
    have hst : st' = st := nI_inj (by omega) (by omega) (ie.symm.trans s2)
    obtain ⟨l1, l2⟩ := s8 ⟨by omega, by omega⟩
    have lf2 : 2 ≤ lf := by
      rcases Nat.lt_or_ge lf 2 with q | q
      · have : lf = 1 := by omega
        rw [s3, this] at a1
        exact absurd (show nI 1 - 1 = 0 from by decide) a1
      · exact q
    have K : ∀ c : Int32, w_L_tick_650 Φ (nI g) (r (8 + 14 * g + 4)) (r (8 + 14 * g + 5)) (r (8 + 14 * g + 6)) c (nI w) (r' (8 + 14 * g + 4)) (2 * r' (120 + 7 * p + 2)) μ' := fun c => by
      unfold w_L_tick_650
      rw [if_neg (show ¬ r (8 + 14 * g + 5) ≤ 1 by rw [s3]; exact nI_ge (a := 1) (b := lf) (by omega) (by omega)), if_pos (by rw [q4, e]; exact F_left_o (by omega)), rg_2 h' hg, if_pos (by rw [q5, e]; exact F_left_0 (p := p) hg8 (by omega)), ew, if_pos (show nI 0 = 0 from rfl), rg_3 h' hg, if_pos (by rw [q6, e]; exact F_left_o (by omega))]
      exact fin
    rw [if_neg b5, if_neg b0]
    have K2 := K (r (8 + 14 * g + 10) + r (8 + 14 * g + 11))
    rw [i6] at K2 ⊢
    rw [rp_2 h' hp]
    by_cases h3 : r (8 + 14 * g + 4) = 3
    · rw [if_pos h3]
      have h9 : r (8 + 14 * g + 9) = 0 := by
        rcases a2 with q | q
        · exact absurd (nI_inj (b := 3) (by omega) (by omega) (ie.symm.trans h3)) q
        · exact q
      rw [if_neg (by rw [h9]; decide)]
      exact K2
    · rw [if_neg h3]
      exact K2
  · obtain ⟨b5, b0⟩ := busy hI
    obtain ⟨hp, i1, i4, ie, i6, i0, i3, -, -, -, -, iB2, iB9⟩ := hI
    have hst : st' = st := nI_inj (by omega) (by omega) (ie.symm.trans s2)
    obtain ⟨l1, l2⟩ := s8 ⟨by omega, by omega⟩
    have lf1 : lf = 1 := by
      rw [s3, nI_sub1 l1] at a1
      have := nI_inj (a := lf - 1) (b := 0) (by omega) (by omega) a1
      omega
    obtain ⟨m, m2, em⟩ := nI_dbl iB2 (n := ho)
    obtain ⟨m', m2', em'⟩ := nI_dbl iB2 (n := 0)
    have mm : m' = m := by
      have e1 := em
      rw [show nI ho + 2 * r (120 + 7 * p + 2) = nI ho + (nI 0 + 2 * r (120 + 7 * p + 2)) by rw [show nI 0 = (0 : Int32) from rfl, Int32.zero_add], em', nI_add] at e1
      have := nI_inj (by omega) (by omega) e1
      omega
    have p2 : r' (120 + 7 * p + 2) = r (120 + 7 * p + 2) := by rw [oo _ (by omega), e, F_turn_o (by omega), F_left_o (by omega)]
    have es : 2 * r' (120 + 7 * p + 2) = nI m := by
      rw [p2, ← mm, show m' = 0 + m' by omega, ← em', show nI 0 = (0 : Int32) from rfl, Int32.zero_add]
    have w4 : r' (8 + 14 * g + 4) = 2 := by rw [q4, e]; exact F_turn_0 (p := p) hg8 (by omega)
    have w5 : r' (8 + 14 * g + 5) = nI (ho + m) := by rw [q5, e, F_turn_1 (p := p) hg8 (by omega), s5.1, em]
    have K7 := l705 (Φ := Φ) h' hg w4 es (by omega) w5 s5.2.1 s5.2.2 fin
    have hst14 : r (8 + 14 * g + 4) = 1 ∨ r (8 + 14 * g + 4) = 4 := by
      rcases a2 with q | q
      · exact Or.inl (by rw [ie, q]; rfl)
      · exact Or.inr (by rw [ie, q]; rfl)
    have K : ∀ c : Int32, w_L_tick_650 Φ (nI g) (r (8 + 14 * g + 4)) (r (8 + 14 * g + 5)) (r (8 + 14 * g + 6)) c (nI w) (r' (8 + 14 * g + 4)) (2 * r' (120 + 7 * p + 2)) μ' := fun c => by
      unfold w_L_tick_650
      rw [if_pos (by rw [s3, lf1]; decide), ew]
      rcases hst14 with q | q
      · rw [if_pos q]
        exact K7
      · rw [if_neg (by rw [q]; decide), if_pos q]
        exact K7
    rw [if_neg b5, if_neg b0]
    have K2 := K (r (8 + 14 * g + 10) + r (8 + 14 * g + 11))
    rw [i6] at K2 ⊢
    rw [rp_2 h' hp, if_neg (by
      rcases hst14 with q | q
      · rw [q]; decide
      · rw [q]; decide)]
    exact K2
  · obtain ⟨b5, b0⟩ := busy hI
    obtain ⟨hp, i1, i4, ie, i6, i0, i3, -, -, -, -, iB2, iB9⟩ := hI
    have hst : 2 = st := nI_inj (by omega) (by omega) (ie.symm.trans s2)
    obtain ⟨l1, l2⟩ := s8 ⟨by omega, by omega⟩
    have lf1 : lf = 1 := by
      rw [s3, nI_sub1 l1] at a1
      have := nI_inj (a := lf - 1) (b := 0) (by omega) (by omega) a1
      omega
    have ie2 : r (8 + 14 * g + 4) = 2 := ie
    have w4 : r' (8 + 14 * g + 4) = 3 := by rw [q4, e]; exact F_turn_0 (p := p) hg8 (by omega)
    have w5 : r' (8 + 14 * g + 5) = nI cl' := by rw [q5, e, F_turn_1 (p := p) hg8 (by omega)]; exact s6.1
    rw [if_neg b5, if_neg b0, i6, rp_2 h' hp, if_neg (by rw [ie2]; decide)]
    unfold w_L_tick_650
    rw [if_pos (by rw [s3, lf1]; decide), if_neg (by rw [ie2]; decide), if_neg (by rw [ie2]; decide), if_pos ie2, if_pos w4, rg_2 h' hg, w5, if_neg (show ¬ (10 : Int32) < nI cl' from nI_nlt (a := 10) (b := cl') (by omega) (by omega)), ew, if_pos (show nI 0 = 0 from rfl)]
    exact fin
  · obtain ⟨b5, b0⟩ := busy hI
    obtain ⟨hp, i1, i4, ie, i6, i0, i3, -, -, -, -, iB2, iB9⟩ := hI
    have hst : 3 = st := nI_inj (by omega) (by omega) (ie.symm.trans s2)
    obtain ⟨l1, l2⟩ := s8 ⟨by omega, by omega⟩
    have l3 := s9 hst.symm
    have hp40 : p < 40 := by omega
    have ie2 : r (8 + 14 * g + 4) = 3 := ie
    have w4 : r' (8 + 14 * g + 4) = 4 := by rw [q4, e]; exact F_turn_0 (p := p) hg8 (by omega)
    have w5 : r' (8 + 14 * g + 5) = nI (cl' - (lf - 1)) := by rw [q5, e, F_turn_1 (p := p) hg8 (by omega), s6.1, s3, nI_sub1 l1, pk_sub (by omega)]
    have w9 : r' (8 + 14 * g + 9) = 0 := by rw [q9, e, F_turn_o (by omega)]; exact F_pin_0 hg8 hp40
    have w13 : r' (8 + 14 * g + 13) = r (8 + 14 * g + 13) + 1 := by rw [q13, e, F_turn_o (by omega), F_pin_1 hg8 hp40, F_left_o (by omega)]
    have w6 : r' (8 + 14 * g + 6) = nI p := by rw [q6, e, F_turn_o (by omega), F_pin_o (by omega), F_left_o (by omega)]; exact i6
    have E : Ev0 r' (F_left g r 0) (nI g) (nI p) 4 := evt (ev_pin (p := p) (o := o) hg8 (ev5 (s := F_left g r) (F_left_o (by omega)))) (fun i hi => by rw [e]; exact F_turn_o (by omega))
    rw [if_neg b5, if_neg b0, i6, rp_2 h' hp, if_pos ie2, if_pos a1, if_neg (by rw [w4]; decide)]
    unfold w_L_tick_550
    rw [if_pos rfl]
    unfold w_L_tick_564
    rw [if_pos (by rw [ew]; rfl), rg_9 h' hg, if_pos w13, rg_10 h' hg, if_pos w9, if_pos rfl, if_pos w4, rg_3 h' hg, if_pos w6, rg_2 h' hg, w5, if_neg (show ¬ nI (cl' - (lf - 1)) < 1 from nI_nlt (a := cl' - (lf - 1)) (b := 1) (by omega) (by omega)), E.r3 h', if_pos rfl, E.r2 h', if_pos rfl]
    exact fin
  · obtain ⟨b5, b0⟩ := busy hI
    obtain ⟨hp, i1, i4, ie, i6, i0, i3, -, -, -, ib, iB2, iB9⟩ := hI
    have hp40 : p < 40 := by omega
    have ie2 : r (8 + 14 * g + 4) = 3 := ie
    have w4 : r' (8 + 14 * g + 4) = 5 := by rw [q4, e, F_let_o ib (by omega)]; exact F_brk_0 (p := p) hg8 hp40
    have w9 : r' (8 + 14 * g + 9) = 0 := by rw [q9, e, F_let_o ib (by omega)]; exact F_brk_2 (p := p) hg8 hp40
    have w13 : r' (8 + 14 * g + 13) = r (8 + 14 * g + 13) + 1 := by rw [q13, e, F_let_o ib (by omega), F_brk_o (by omega), F_pin_1 hg8 hp40, F_left_o (by omega)]
    rw [if_neg b5, if_neg b0, i6, rp_2 h' hp, if_pos ie2, if_pos a1, if_pos w4]
    unfold w_L_tick_550
    rw [if_neg (by decide)]
    unfold w_L_tick_564
    rw [if_pos (by rw [ew]; rfl), rg_9 h' hg, if_pos w13, rg_10 h' hg, if_pos w9, if_neg (by decide)]
    exact fin
  · obtain ⟨b5, b0⟩ := busy hI
    obtain ⟨hp, i1, i4, ie, i6, i0, i3, -, -, -, ib, iB2, iB9⟩ := hI
    have hst : 3 = st := nI_inj (by omega) (by omega) (ie.symm.trans s2)
    obtain ⟨l1, l2⟩ := s8 ⟨by omega, by omega⟩
    have lf1 : lf = 1 := by
      rw [s3, nI_sub1 l1] at a2
      have := nI_inj (a := lf - 1) (b := 0) (by omega) (by omega) a2
      omega
    have hp40 : p < 40 := by omega
    have ie2 : r (8 + 14 * g + 4) = 3 := ie
    have w4 : r' (8 + 14 * g + 4) = 0 := by rw [q4, e, F_let_o ib (by omega)]; exact F_turn_0 (p := p) hg8 hp40
    have w6 : r' (8 + 14 * g + 6) = -5 := by rw [q6, e]; exact (F_let_w ib hg8 hp40).2.2
    have wc : r' (8 + 14 * g + 10) + r' (8 + 14 * g + 11) = r (8 + 14 * g + 10) + r (8 + 14 * g + 11) + 1 := by
      rw [q10, q11, e]
      exact let_cnt (r := r) hp n2 hg8 ib (by rw [F_turn_o (by omega), F_left_o (by omega)]) (by rw [F_turn_o (by omega), F_left_o (by omega)])
    have s0 : F_turn g 0 0 (F_left g r) 5 = r 5 := by rw [F_turn_o (by omega), F_left_o (by omega)]
    have K : ∀ (k : Int32) (there : Int32), ((there = 3 ∧ k = 2) ∨ (there = 5 ∧ k = 3)) → r' (120 + 7 * p + 0) = there → Ev0 r' (F_turn g 0 0 (F_left g r) 0) (nI g) (nI p) k → w_L_tick_650 Φ (nI g) (r (8 + 14 * g + 4)) (r (8 + 14 * g + 5)) (nI p) (r (8 + 14 * g + 10) + r (8 + 14 * g + 11)) (nI w) (r' (8 + 14 * g + 4)) (2 * r' (120 + 7 * p + 2)) μ' := fun k there hk ht E => by
      unfold w_L_tick_650
      rw [if_pos (by rw [s3, lf1]; decide), if_neg (by rw [ie2]; decide), if_neg (by rw [ie2]; decide), if_neg (by rw [ie2]; decide), rp_0 h' hp, ht, if_pos w4, if_pos (by rw [ew]; rfl), rg_3 h' hg, if_pos w6]
      have K8 : w_L_tick_823 Φ (nI g) (nI p) (r (8 + 14 * g + 10) + r (8 + 14 * g + 11)) there μ' := by
        unfold w_L_tick_823
        rw [rg_6 h' hg, rg_7 h' hg, if_pos wc, E.r3 h']
        rcases hk with ⟨q, q2⟩ | ⟨q, q2⟩
        · rw [if_pos q]
          unfold w_L_tick_862
          rw [if_pos q2, E.r2 h', if_pos rfl, E.r1 h', if_pos rfl]
          exact fin
        · rw [if_neg (by rw [q]; decide)]
          unfold w_L_tick_862
          rw [if_pos q2, E.r2 h', if_pos rfl, E.r1 h', if_pos rfl]
          exact fin
      rcases hk with ⟨q, -⟩ | ⟨q, -⟩
      · rw [if_pos q]; exact K8
      · rw [if_neg (by rw [q]; decide), if_pos q]; exact K8
    rw [if_neg b5, if_neg b0, i6, rp_2 h' hp, if_pos ie2, if_neg (by rw [a1]; decide)]
    rcases ev_let (r := F_turn g 0 0 (F_left g r)) ib hg8 hp40 (ev5 s0) with ⟨-, E, E0⟩ | ⟨-, E, E0⟩
    · exact K 2 3 (Or.inl ⟨rfl, rfl⟩) (by rw [oo _ (by omega), e]; exact E0) (evt E (fun i _ => by rw [e]))
    · exact K 3 5 (Or.inr ⟨rfl, rfl⟩) (by rw [oo _ (by omega), e]; exact E0) (evt E (fun i _ => by rw [e]))
end TICK29
