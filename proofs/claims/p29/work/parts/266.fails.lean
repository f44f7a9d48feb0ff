/-! outages; people who are moved -/
section FAILS29
variable {r r' : Nat → Int32} {n ng np nx nl g g' p x T B v : Nat} {μ σ : Mm} {Φ : Int32 → Mm → Prop}
theorem same29 {wc : Nat → Mm → (Int32 → Mm → Prop) → Prop} {v : Int32} {Ψ : Int32 → Mm → Prop} (hn : n < 40000) (hM : M29 n μ r ng np nx nl) (H : Acts wc n r ng np nx nl (Bec v r ng np nx nl)) (hΨ : ∀ μ' : Mm, M29 (n + 1) μ' r ng np nx nl → Ψ v μ') : w_X2_prepare 1 μ (fun _ u1 => wc 1 u1 (fun r4 u3 => w_X9_recorded r4 u3 (fun r6 u5 => Ψ r6 u5))) := act29 hn hM H (by
  rintro v' r' ng' np' nx' nl' μ' ⟨e1, e2, e3, e4, e5, e6⟩ hM' -
  rw [e2, e3, e4, e5, e6] at hM'
  rw [e1]
  exact hΨ μ' hM')
theorem bec29 {wc : Nat → Mm → (Int32 → Mm → Prop) → Prop} {v : Int32} {r1 : Nat → Int32} {a b c d : Nat} {Ψ : Int32 → Mm → Prop} (hn : n < 40000) (hM : M29 n μ r ng np nx nl) (H : Acts wc n r ng np nx nl (Bec v r1 a b c d)) (hΨ : ∀ μ' : Mm, M29 (n + 1) μ' r1 a b c d → Ψ v μ') : w_X2_prepare 1 μ (fun _ u1 => wc 1 u1 (fun r4 u3 => w_X9_recorded r4 u3 (fun r6 u5 => Ψ r6 u5))) := act29 hn hM H (by
  rintro v' r' ng' np' nx' nl' μ' ⟨e1, e2, e3, e4, e5, e6⟩ hM' -
  rw [e2, e3, e4, e5, e6] at hM'
  rw [e1]
  exact hΨ μ' hM')
theorem failb29 {v : Int32} {r1 : Nat → Int32} {Ψ : Int32 → Mm → Prop} {a : Int32} (hn : n < 40000) (hM : M29 n μ r ng np nx nl) (H : Acts (fun S => w_X8_putOutOfOrder S a) n r ng np nx nl (Bec v r1 ng np nx nl)) (hΨ : ∀ μ' : Mm, M29 (n + 1) μ' r1 ng np nx nl → Ψ v μ') : w_X9_fail a μ Ψ := fail29 hn hM H (by
  rintro v' r' ng' np' nx' nl' μ' ⟨e1, e2, e3, e4, e5, e6⟩ hM' -
  rw [e2, e3, e4, e5, e6] at hM'
  rw [e1]
  exact hΨ μ' hM')
theorem who_keep {w : Nat} (e : ∀ q, q < np → r' (120 + 7 * q + 0) = r (120 + 7 * q + 0)) : whoR r' np w = whoR r np w := cnt_congr (fun q hq => by rw [e q hq])
theorem who_off {w : Nat} {v v' : Nat} (hp : p < np) (e : ∀ q, q < np → q ≠ p → r' (120 + 7 * q + 0) = r (120 + 7 * q + 0)) (e1 : r (120 + 7 * p + 0) = nI v) (e2 : r' (120 + 7 * p + 0) = nI v') (hv : v < 10) (hv' : v' < 10) (hw : w < 10) (h1 : v ≠ w) (h2 : v' ≠ w) : whoR r' np w = whoR r np w := cnt_p0 (p := p) (fun q hq hne => by rw [e q hq hne]) (by rw [e1, e2, decide_eq_false (fun q => h1 (nI_inj (by omega) (by omega) q)), decide_eq_false (fun q => h2 (nI_inj (by omega) (by omega) q))])
theorem who_on {w : Nat} {v : Nat} (hp : p < np) (e : ∀ q, q < np → q ≠ p → r' (120 + 7 * q + 0) = r (120 + 7 * q + 0)) (e1 : r (120 + 7 * p + 0) = nI v) (e2 : r' (120 + 7 * p + 0) = nI w) (hv : v < 10) (hw : w < 10) (h1 : v ≠ w) : whoR r' np w = whoR r np w + 1 := cnt_add hp (fun q hq hne => by rw [e q hq hne]) (by rw [e1]; exact decide_eq_false (fun q => h1 (nI_inj (by omega) (by omega) q))) (by rw [e2]; exact decide_eq_true rfl)
theorem qB_off {ga ea : Int32} (e0 : ∀ q, q < np → q ≠ p → r' (120 + 7 * q + 0) = r (120 + 7 * q + 0)) (e3 : ∀ q, q < np → q ≠ p → r' (120 + 7 * q + 3) = r (120 + 7 * q + 3)) (h1 : r (120 + 7 * p + 0) ≠ 1 ∧ r (120 + 7 * p + 0) ≠ 4) (h2 : r' (120 + 7 * p + 0) ≠ 1 ∧ r' (120 + 7 * p + 0) ≠ 4) : cnt (qB r' ga ea) np = cnt (qB r ga ea) np := cnt_congr (fun q hq => by
  by_cases e : q = p
  · have f : ∀ {s : Nat → Int32}, s (120 + 7 * p + 0) ≠ 1 ∧ s (120 + 7 * p + 0) ≠ 4 → qB s ga ea p = false := fun {s} hs => by
      unfold qB
      by_cases he : ea = 0
      · rw [if_pos he, decide_eq_false hs.1, Bool.and_false]
      · rw [if_neg he, decide_eq_false hs.2, Bool.and_false]
    rw [e, f h1, f h2]
  · unfold qB
    rw [e0 q hq e, e3 q hq e])
/-- the event ahead of the last one -/
theorem ev_1 {a b k : Int32} {s : Nat → Int32} {t' a' b' k' : Int32} (hE : Ev0 s t' a' b' k') (h : Rel (HB μ 1) r T ng np nx nl) (hr : ∀ i, (i = 5 ∨ (440 ≤ i ∧ i < 444)) → r i = rTell a b k s i) : w_X9_event 1 3 μ Φ = Φ k' μ ∧ w_X9_event 1 2 μ Φ = Φ b' μ := by
  obtain ⟨⟨l0, l1, l2, l3⟩, h1, h2, h3, h4⟩ := hE
  obtain ⟨l, ⟨m1, m2⟩, m3, m4⟩ := tell_5 (s := s) (a := a) (b := b) (k := k) ⟨l0, l2, l3⟩
  have m5 := m4 l0 l2 l3 l1
  have e5 : r 5 = nI l := (hr 5 (Or.inl rfl)).trans m3
  have sh : ∀ i, 440 ≤ i → i < 444 → r i = s (i - 4) := fun i i1 i2 => by
    rw [hr i (Or.inr ⟨i1, i2⟩)]
    unfold rTell
    rw [if_neg (by omega), if_neg (by omega), if_neg (by omega), if_neg (by omega), if_pos (by omega)]
  have q3 := re_y (Φ := Φ) h (k := 1) (e := 3) e5 m5 m2 (by decide)
  have q2 := re_y (Φ := Φ) h (k := 1) (e := 2) e5 m5 m2 (by decide)
  rw [sh _ (by decide) (by decide)] at q3 q2
  rw [← h4, ← h3]
  exact ⟨q3, q2⟩
theorem law_fails (hn : n + 4 < 40000) (hM : M29 n μ r ng np nx 1) (hJ : J B r ng np) (hW : Wt r np) (hg : g < ng) (H : ∀ (μ' : Mm) (r' : Nat → Int32), M29 (n + 3) μ' r' ng np nx 1 → J B r' ng np → Wt r' np → Φ 1 μ') : w_L_fails (nI g) μ Φ := by
  have h := hM.1
  obtain ⟨n1, n2, n3, n4⟩ := h.1.n
  have hg8 : g < 8 := by omega
  have evr := rel_ev h
  unfold w_L_fails
  rw [rg_1 h hg, rg_3 h hg, rg_4 h hg, rg_5 h hg]
  refine rc_6 h ?_
  refine rc_3 h ?_
  show (if _ then _ else _)
  by_cases h5 : r (8 + 14 * g + 4) = 5
  · rw [if_pos h5]
    refine failb29 (by omega) hM (a_fail_5 (by omega) hg h5) ?_
    intro μ1 hM1
    show (if _ then _ else _)
    rw [if_pos rfl]
    unfold w_X9_pinch
    refine same29 (by omega) hM1 (a_pinch_5 (by omega) hg h5) ?_
    intro μ2 hM2
    show (if _ then _ else _)
    rw [if_pos rfl]
    unfold w_X9_repair
    refine bec29 (by omega) hM2 (a_repair (by omega) hg h5) ?_
    intro μ3 hM3
    have E : Ev0 (repR g r) ((upd (upd (upd r (8 + 14 * g + 4) 0) (8 + 14 * g + 5) 0) (8 + 14 * g + 9) 0) 0) (nI g) (-5) 6 := by
      unfold repR
      refine ev_tell ?_
      rw [pk_un (by omega), pk_un (by omega), pk_un (by omega)]
      exact evr
    show (if _ then _ else _)
    rw [if_pos rfl, rg_1 hM3.1 hg, if_pos (repR_4 hg8).1, E.r3 hM3.1, if_pos rfl, E.r2 hM3.1, if_pos rfl]
    exact H μ3 _ hM3 (J_repair hJ n1 n2 hg h5) (hW.same (repR_o (by omega)) (fun q hq => ⟨repR_o (by omega), repR_o (by omega)⟩))
  · rw [if_neg h5]
    unfold w_X9_repair
    refine same29 (by omega) hM (a_repair_n (by omega) hg h5) ?_
    intro μ1 hM1
    show (if _ then _ else _)
    rw [if_pos rfl]
    rcases rel_in h hg with ⟨st, -, -, h6⟩ | ⟨p, st, o, b, hI⟩
    · refine failb29 (by omega) hM1 (a_fail_0 (by omega) hg h5 h6) ?_
      intro μ2 hM2
      have h2 := hM2.1
      have E := ev_brk (r := r) hg8 evr
      have k0 : ∀ ea, cnt (qB (F_brk g r) (nI g) ea) np = cnt (qB r (nI g) ea) np := fun ea => qB_keep (fun p hp => F_brk_o (by omega)) (fun p hp => F_brk_o (by omega))
      show (if _ then _ else _)
      rw [if_pos h6.symm, rg_1 h2 hg, if_pos (F_brk_0 (p := 0) hg8 (by decide)), rg_2 h2 hg, if_pos (F_brk_1 (p := 0) hg8 (by decide)), rg_4 h2 hg, rg_5 h2 hg, k0, k0, if_pos rfl, h6, if_neg (by decide)]
      unfold w_L_fails_181
      rw [E.r3 h2, if_pos rfl, if_neg (by decide)]
      unfold w_L_fails_199
      rw [E.r2 h2, if_pos rfl]
      unfold w_L_fails_213
      rw [if_neg (by decide), if_pos (by decide)]
      exact H μ2 _ (hM2.up (by omega) (by omega)) (J_brk0 hJ n1 n2 hg h6) (hW.same (F_brk_o (by omega)) (fun q hq => ⟨F_brk_o (by omega), F_brk_o (by omega)⟩))
    · refine failb29 (by omega) hM1 (a_fail_p (by omega) hg hI) ?_
      obtain ⟨hp, i1, i4, ie, i6, i0, i3, -, -, i7, ib, iB2, iB9⟩ := hI
      have hp40 : p < 40 := by omega
      intro μ2 hM2
      have h2 := hM2.1
      have E := ev_brk (r := r) hg8 evr
      have evb : ∃ l, l ≤ 20 ∧ F_brk g r 5 = nI l := by
        obtain ⟨⟨l, l1, l2, l3⟩, -⟩ := E
        exact ⟨l, l2, l3⟩
      have oq : ∀ q f, q < np → q ≠ p → f < 7 → F_let g p b (F_brk g r) (120 + 7 * q + f) = r (120 + 7 * q + f) := fun q f hq hne hf => by rw [F_let_o ib (by omega), F_brk_o (by omega)]
      have i0' : r (120 + 7 * p + 0) = nI 2 := i0
      have w31 : F_let g p b (F_brk g r) (120 + 7 * p + 0) ≠ 1 ∧ F_let g p b (F_brk g r) (120 + 7 * p + 0) ≠ 4 := by
        rcases (F_let_w (r := F_brk g r) ib hg8 hp40).1 with q | q <;> rw [q] <;> decide
      have k0 : ∀ ea, cnt (qB (F_let g p b (F_brk g r)) (nI g) ea) np = cnt (qB r (nI g) ea) np := fun ea => qB_off (p := p) (fun q hq hne => oq q 0 hq hne (by decide)) (fun q hq hne => oq q 3 hq hne (by decide)) (by rw [i0]; decide) w31
      have hJ2 := J_brkp hJ n1 n2 hg hp ib i0 i6
      have hW2 : Wt (F_let g p b (F_brk g r)) np := hW.keep (by rw [F_let_o ib (by omega), F_brk_o (by omega)]) (fun q hq hw => by
        by_cases e : q = p
        · rw [e] at hw
          rcases hw with hw | hw
          · exact absurd hw w31.1
          · exact absurd hw w31.2
        · rw [oq q 0 hq e (by decide)] at hw
          exact ⟨hw, oq q 5 hq e (by decide)⟩)
      have fin : Φ 1 μ2 := H μ2 _ (hM2.up (by omega) (by omega)) hJ2 hW2
      show (if _ then _ else _)
      rw [if_pos i6.symm, rg_1 h2 hg, if_pos (by rw [F_let_o ib (by omega)]; exact F_brk_0 (p := 0) hg8 (by decide)), rg_2 h2 hg, if_pos (by rw [F_let_o ib (by omega)]; exact F_brk_1 (p := 0) hg8 (by decide)), rg_4 h2 hg, rg_5 h2 hg, k0, k0, if_pos rfl, i6, if_pos (nI_pos' (by omega))]
      have K : ∀ (k : Int32) (v : Nat), ((v = 3 ∧ k = 2) ∨ (v = 5 ∧ k = 3)) → (∃ s : Nat → Int32, (∀ i, (i = 5 ∨ (436 ≤ i ∧ i < 440)) → s i = F_brk g r i) ∧ F_let g p b (F_brk g r) = rTell (nI g) (nI p) k s) → F_let g p b (F_brk g r) (120 + 7 * p + 0) = nI v → Ev0 (F_let g p b (F_brk g r)) (F_brk g r 0) (nI g) (nI p) k → w_L_fails_181 Φ (nI p) (nI (whoR r np 5) + (nI (whoR r np 3) + nI (whoR r np 4))) 1 μ2 := fun k v hv hs hw E2 => by
        obtain ⟨s, s1, s2⟩ := hs
        have Es : Ev0 s (r 0) (nI g) (-5) 5 := E.keep s1
        obtain ⟨v3, v2⟩ := ev_1 (Φ := fun r57 u56 => if r57 = 5 then (if 0 ≤ nI p then w_L_fails_199 Φ (nI p) (nI (whoR r np 5) + (nI (whoR r np 3) + nI (whoR r np 4))) 1 u56 else w_L_fails_199 Φ (nI p) (nI (whoR r np 5) + (nI (whoR r np 3) + nI (whoR r np 4))) 0 u56) else w_L_fails_212 Φ (nI p) (nI (whoR r np 5) + (nI (whoR r np 3) + nI (whoR r np 4))) u56) Es h2 (fun i _ => by rw [s2])
        obtain ⟨v3', v2'⟩ := ev_1 (Φ := fun r61 u60 => if r61 = -5 then w_L_fails_213 Φ (nI p) (nI (whoR r np 5) + (nI (whoR r np 3) + nI (whoR r np 4))) 1 u60 else w_L_fails_212 Φ (nI p) (nI (whoR r np 5) + (nI (whoR r np 3) + nI (whoR r np 4))) u60) Es h2 (fun i _ => by rw [s2])
        have wk : nI (whoR (F_let g p b (F_brk g r)) np 5) + (nI (whoR (F_let g p b (F_brk g r)) np 3) + nI (whoR (F_let g p b (F_brk g r)) np 4)) = nI (whoR r np 5) + (nI (whoR r np 3) + nI (whoR r np 4)) + 1 := by
          have e0 : ∀ q, q < np → q ≠ p → F_let g p b (F_brk g r) (120 + 7 * q + 0) = r (120 + 7 * q + 0) := fun q hq hne => oq q 0 hq hne (by decide)
          rw [nI_add, nI_add, nI_add, nI_add, nI_1]
          congr 1
          rcases hv with ⟨q, -⟩ | ⟨q, -⟩
          · rw [q] at hw
            rw [who_off (w := 5) hp e0 i0' hw (by decide) (by decide) (by decide) (by decide) (by decide), who_on (w := 3) hp e0 i0' hw (by decide) (by decide) (by decide), who_off (w := 4) hp e0 i0' hw (by decide) (by decide) (by decide) (by decide) (by decide)]
            omega
          · rw [q] at hw
            rw [who_on (w := 5) hp e0 i0' hw (by decide) (by decide) (by decide), who_off (w := 3) hp e0 i0' hw (by decide) (by decide) (by decide) (by decide) (by decide), who_off (w := 4) hp e0 i0' hw (by decide) (by decide) (by decide) (by decide) (by decide)]
            omega
        have K244 : w_L_fails_244 Φ (nI p) (nI (whoR r np 5) + (nI (whoR r np 3) + nI (whoR r np 4))) μ2 := by
          unfold w_L_fails_244
          rw [E2.r2 h2, if_pos rfl]
          refine rc_6 h2 ?_
          refine rc_3 h2 ?_
          show w_X9_person (nI p) 0 μ2 _
          rw [rp_0 h2 hp, hw]
          rcases hv with ⟨q, -⟩ | ⟨q, -⟩
          · rw [q, if_pos (show nI 3 = 3 from rfl), if_pos wk]
            exact fin
          · rw [q, if_neg (show ¬ nI 5 = 3 by decide), rp_0 h2 hp, hw, q, if_pos (show nI 5 = 5 from rfl), if_pos wk]
            exact fin
        unfold w_L_fails_181
        refine v3.mpr ?_
        show (if _ then _ else _)
        rw [if_pos rfl, if_pos (nI_pos' (by omega))]
        unfold w_L_fails_199
        refine v2'.mpr ?_
        show (if _ then _ else _)
        rw [if_pos rfl]
        unfold w_L_fails_213
        rw [if_neg (by decide), if_neg (nI_pos (by omega)), rp_0 h2 hp, hw]
        rcases hv with ⟨q, -⟩ | ⟨q, -⟩
        · rw [q, if_pos (show nI 3 = 3 from rfl)]
          exact K244
        · rw [q, if_neg (show ¬ nI 5 = 3 by decide), rp_0 h2 hp, hw, q, if_pos (show nI 5 = 5 from rfl)]
          exact K244
      rcases ev_let (r := F_brk g r) ib hg8 hp40 evb with ⟨eb, E2, w3⟩ | ⟨eb, E2, w3⟩
      · refine K 2 3 (Or.inl ⟨rfl, rfl⟩) ⟨_, ?_, by rw [eb]; exact F_let_1⟩ w3 E2
        intro i hi
        rw [pk_un (by omega), pk_un (by omega), pk_un (by omega), pk_un (by omega)]
      · refine K 3 5 (Or.inr ⟨rfl, rfl⟩) ⟨_, ?_, by rw [eb]; exact F_let_0⟩ w3 E2
        intro i hi
        rw [pk_un (by omega), pk_un (by omega), pk_un (by omega), pk_un (by omega)]
theorem law_diverts (hn : n + 4 < 40000) (hM : M29 n μ r ng np nx 1) (hJ : J B r ng np) (hW : Wt r np) (hg : g < ng) (hg' : g' < ng) (H : ∀ (μ' : Mm) (r' : Nat → Int32), M29 (n + 1) μ' r' ng np nx 1 → J B r' ng np → Wt r' np → Φ 1 μ') : w_L_diverts (nI g) (nI g') μ Φ := by
  have h := hM.1
  obtain ⟨n1, n2, n3, n4⟩ := h.1.n
  obtain ⟨n0, a0, v0, -, -⟩ := rq_v h hg (e := 0) (by decide)
  have K : ∀ z : Int32, (∀ a, a < np → nxA r np g (nI 0) = nI a → z = waitR r a) → w_L_diverts_54 Φ (nI g) (nI g') (nI (cnt (qB r (nI g) (nI 0)) np) + nI (cnt (qB r (nI g) (nI 1)) np)) (nI (cnt (qB r (nI g') (nI 0)) np) + nI (cnt (qB r (nI g') (nI 1)) np)) (nxA r np g (nI 0)) z μ := fun z hz => by
    unfold w_L_diverts_54
    rw [rg_4 h hg']
    unfold w_X9_divert
    by_cases hgg : g = g'
    · rw [← hgg]
      refine same29 (by omega) hM (a_divert_same (by omega) hg) ?_
      intro μ1 hM1
      show (if _ then _ else _)
      rw [if_pos rfl, if_pos rfl]
      exact H μ1 r hM1 hJ hW
    · have hnn : ¬ nI g = nI g' := fun e => hgg (nI_inj (by omega) (by omega) e)
      have c40 : ∀ ga ea, cnt (qB r ga ea) np ≤ 40 := fun ga ea => Nat.le_trans cnt_le n2
      by_cases h0 : cnt (qB r (nI g) (nI 0)) np + cnt (qB r (nI g) (nI 1)) np = 0
      · refine same29 (by omega) hM (a_divert_none (by omega) hg hg' hgg h0) ?_
        intro μ1 hM1
        show (if _ then _ else _)
        rw [if_neg hnn, nI_add, h0, if_pos (by decide), if_pos rfl]
        exact H μ1 r hM1 hJ hW
      · refine act29 (by omega) hM (a_divert (by omega) hg hg' hgg h0) ?_
        rintro v r1 a b c d μ1 ⟨e1, e2, e3, e4, e5, e6, e7, e8, e9⟩ hM1 -
        rw [e6, e7, e8, e9] at hM1
        have h1 := hM1.1
        have c0 := c40 (nI g) (nI 0)
        have c1 := c40 (nI g) (nI 1)
        have p0 : ∀ q, q < np → r1 (120 + 7 * q + 0) = r (120 + 7 * q + 0) := fun q hq => e5 _ (by omega) (fun q' hq' _ => by omega)
        have p5 : ∀ q, q < np → r1 (120 + 7 * q + 5) = r (120 + 7 * q + 5) := fun q hq => e5 _ (by omega) (fun q' hq' _ => by omega)
        have t0 : r1 0 = r 0 := e5 _ (by omega) (fun q' hq' _ => by omega)
        have fin : Φ 1 μ1 := H μ1 r1 hM1 (J_div hJ n1 n2 e5) (hW.same t0 (fun q hq => ⟨p0 q hq, p5 q hq⟩))
        show (if _ then _ else _)
        rw [if_neg hnn, nI_add, if_neg (show ¬ nI (cnt (qB r (nI g) (nI 0)) np + cnt (qB r (nI g) (nI 1)) np) = 0 from nI_ne0 (by omega) (by omega)), if_pos e1, rg_4 h1 hg, rg_5 h1 hg, e2 0 (by decide), e2 1 (by decide), if_pos (by decide), rg_4 h1 hg', rg_5 h1 hg', e3 0 (by decide), e3 1 (by decide), if_pos (by rw [nI_add, nI_add, nI_add]; congr 1; omega)]
        by_cases hf : n0 = 0
        · rw [v0.2.2.2.1 hf, if_pos (by decide)]
          exact fin
        · have q0 : 0 < cnt (qB r (nI g) (nI 0)) np := by rw [v0.2.2.1]; omega
          have eA := v0.2.2.2.2.1 (by omega)
          obtain ⟨d1, d2, d3⟩ := v0.2.1 0 (by omega)
          have e4' := e4 q0
          rw [eA, if_neg (nI_pos (by omega))]
          have rk := rq_k (Φ := fun r33 u32 => if r33 = nI (a0 0) then w_X9_person (nI (a0 0)) 5 u32 (fun r36 u35 => if r36 = z then Φ 1 u35 else Φ 0 u35) else Φ 0 u32) h1 hg' (e := 0) (k := cnt (qB r (nI g') (nI 0)) np) (by decide) (by rw [e3 0 (by decide)]; omega)
          refine rk.mpr ?_
          show (if _ then _ else _)
          rw [if_pos (e4'.trans eA), rp_5 h1 d1, if_pos (by
            rw [hz _ d1 eA]
            unfold waitR
            rw [p0 _ d1, p5 _ d1, t0])]
          exact fin
  unfold w_L_diverts
  rw [rg_4 h hg, rg_5 h hg, rg_4 h hg', rg_5 h hg']
  have q0 := rq_0 (Φ := fun r10 u9 => if 0 ≤ r10 then w_X9_person r10 5 u9 (fun r13 u12 => w_L_diverts_54 Φ (nI g) (nI g') (nI (cnt (qB r (nI g) (nI 0)) np) + nI (cnt (qB r (nI g) (nI 1)) np)) (nI (cnt (qB r (nI g') (nI 0)) np) + nI (cnt (qB r (nI g') (nI 1)) np)) r10 r13 u12) else w_L_diverts_54 Φ (nI g) (nI g') (nI (cnt (qB r (nI g) (nI 0)) np) + nI (cnt (qB r (nI g) (nI 1)) np)) (nI (cnt (qB r (nI g') (nI 0)) np) + nI (cnt (qB r (nI g') (nI 1)) np)) r10 0 u9) h hg (e := 0) (by decide)
  refine q0.mpr ?_
  show (if _ then _ else _)
  by_cases hf : n0 = 0
  · have e5 := v0.2.2.2.1 hf
    have K0 := K 0 (fun a ha e => absurd (e.symm.trans e5) (nI_n5 (by omega)))
    rw [if_neg (by rw [e5]; decide)]
    exact K0
  · have eA := v0.2.2.2.2.1 (by omega)
    obtain ⟨d1, -⟩ := v0.2.1 0 (by omega)
    have K0 := K (waitR r (a0 0)) (fun a ha e => by rw [nI_inj (by omega) (by omega) (e.symm.trans eA)])
    rw [if_pos (by rw [eA]; exact nI_pos' (by omega))]
    rw [eA] at K0 ⊢
    rw [rp_5 h d1]
    exact K0
end FAILS29
