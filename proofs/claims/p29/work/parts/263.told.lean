/-! what was told last; who comes next -/
section TOLD29
variable {r r' s : Nat → Int32} {n ng np nx nl g p x T B : Nat} {μ σ : Mm} {Φ : Int32 → Mm → Prop} {t a b k : Int32}
def Ev0 (r : Nat → Int32) (t a b k : Int32) : Prop := (∃ l, 0 < l ∧ l ≤ 20 ∧ r 5 = nI l) ∧ r 436 = t ∧ r 437 = a ∧ r 438 = b ∧ r 439 = k
theorem rel_ev (h : Rel σ r T ng np nx nl) : ∃ l, l ≤ 20 ∧ r 5 = nI l := by
  obtain ⟨i, l, h1, h2, h3, h4, h5, h6⟩ := h.1.2.2.2.2.2
  exact ⟨l, h2, h5⟩
theorem tell_5 (h : ∃ l, l ≤ 20 ∧ s 5 = nI l) : ∃ l, (0 < l ∧ l ≤ 20) ∧ rTell a b k s 5 = nI l ∧ (∀ l', l' ≤ 20 → s 5 = nI l' → 0 < l' → 1 < l) := by
  obtain ⟨l, l1, l2⟩ := h
  have e : rTell a b k s 5 = if (20 : Int32) ≤ s 5 then s 5 + 0 else s 5 + 1 := by
    unfold rTell
    rw [if_neg (by decide), if_neg (by decide), if_neg (by decide), if_neg (by decide), if_neg (by omega), if_pos rfl]
  rw [e, l2]
  by_cases h20 : l = 20
  · subst h20
    exact ⟨20, by decide, by decide, fun l' h1 h2 h3 => by decide⟩
  · rw [if_neg (show ¬ (20 : Int32) ≤ nI l from nI_ge (a := l) (b := 20) (by omega) (by omega))]
    refine ⟨l + 1, ⟨by omega, by omega⟩, nI_1 l, fun l' h1 h2 h3 => ?_⟩
    have := nI_inj (by omega) (by omega) h2
    omega
theorem ev_tell (h : ∃ l, l ≤ 20 ∧ s 5 = nI l) : Ev0 (rTell a b k s) (s 0) a b k := by
  obtain ⟨l, ⟨l1, l2⟩, l3, -⟩ := tell_5 (a := a) (b := b) (k := k) h
  refine ⟨⟨l, l1, l2, l3⟩, ?_, ?_, ?_, ?_⟩
  · unfold rTell; rw [if_pos rfl]
  · unfold rTell; rw [if_neg (by decide), if_pos rfl]
  · unfold rTell; rw [if_neg (by decide), if_neg (by decide), if_pos rfl]
  · unfold rTell; rw [if_neg (by decide), if_neg (by decide), if_neg (by decide), if_pos rfl]
theorem Ev0.keep (h : Ev0 r t a b k) (e : ∀ i, (i = 5 ∨ (436 ≤ i ∧ i < 440)) → r' i = r i) : Ev0 r' t a b k := by
  obtain ⟨⟨l, l1, l2, l3⟩, h1, h2, h3, h4⟩ := h
  exact ⟨⟨l, l1, l2, (e 5 (Or.inl rfl)).trans l3⟩, (e _ (by omega)).trans h1, (e _ (by omega)).trans h2, (e _ (by omega)).trans h3, (e _ (by omega)).trans h4⟩
theorem Ev0.r0 (hE : Ev0 r t a b k) (h : Rel (HB μ 1) r T ng np nx nl) : w_X9_event 0 0 μ Φ = Φ t μ := by
  obtain ⟨⟨l, l1, l2, l3⟩, h1, h2, h3, h4⟩ := hE
  have q := re_y (Φ := Φ) h (k := 0) (e := 0) l3 l1 l2 (by decide)
  rw [← h1]
  exact q
theorem Ev0.r1 (hE : Ev0 r t a b k) (h : Rel (HB μ 1) r T ng np nx nl) : w_X9_event 0 1 μ Φ = Φ a μ := by
  obtain ⟨⟨l, l1, l2, l3⟩, h1, h2, h3, h4⟩ := hE
  have q := re_y (Φ := Φ) h (k := 0) (e := 1) l3 l1 l2 (by decide)
  rw [← h2]
  exact q
theorem Ev0.r2 (hE : Ev0 r t a b k) (h : Rel (HB μ 1) r T ng np nx nl) : w_X9_event 0 2 μ Φ = Φ b μ := by
  obtain ⟨⟨l, l1, l2, l3⟩, h1, h2, h3, h4⟩ := hE
  have q := re_y (Φ := Φ) h (k := 0) (e := 2) l3 l1 l2 (by decide)
  rw [← h3]
  exact q
theorem Ev0.r3 (hE : Ev0 r t a b k) (h : Rel (HB μ 1) r T ng np nx nl) : w_X9_event 0 3 μ Φ = Φ k μ := by
  obtain ⟨⟨l, l1, l2, l3⟩, h1, h2, h3, h4⟩ := hE
  have q := re_y (Φ := Φ) h (k := 0) (e := 3) l3 l1 l2 (by decide)
  rw [← h4]
  exact q
theorem ev_ref {v : Int32} (hg : g < 8) (hp : p < 40) (h : ∃ l, l ≤ 20 ∧ r 5 = nI l) : Ev0 (F_ref g p v r) (r 0) (nI g) (nI p) 1 := by
  unfold F_ref
  have e0 : (upd (upd (upd (upd r (120 + 7 * p + 0) 0) (120 + 7 * p + 3) (-5)) (120 + 7 * p + 4) v) (8 + 14 * g + 12) (r (8 + 14 * g + 12) + 1)) 0 = r 0 := by
    rw [pk_un (by omega), pk_un (by omega), pk_un (by omega), pk_un (by omega)]
  rw [← e0]
  refine ev_tell ?_
  rw [pk_un (by omega), pk_un (by omega), pk_un (by omega), pk_un (by omega)]
  exact h
theorem ev_pay (h : ∃ l, l ≤ 20 ∧ r 5 = nI l) : Ev0 (F_pay g p r) (r 0) (nI g) (nI p) 0 := by
  unfold F_pay
  have e0 : (upd (upd r 424 (r 424 - r 6)) 426 (r 426 + r 6)) 0 = r 0 := by
    rw [pk_un (by omega), pk_un (by omega)]
  rw [← e0]
  refine ev_tell ?_
  rw [pk_un (by omega), pk_un (by omega)]
  exact h
theorem ev_let {b : Int32} (hb : b = 1 ∨ b = 0) (hg : g < 8) (hp : p < 40) (h : ∃ l, l ≤ 20 ∧ r 5 = nI l) : (b = 1 ∧ Ev0 (F_let g p b r) (r 0) (nI g) (nI p) 2 ∧ F_let g p b r (120 + 7 * p + 0) = 3) ∨ (b = 0 ∧ Ev0 (F_let g p b r) (r 0) (nI g) (nI p) 3 ∧ F_let g p b r (120 + 7 * p + 0) = 5) := by
  rcases hb with rfl | rfl
  · refine Or.inl ⟨rfl, ?_, F_let1_0 hg hp⟩
    rw [F_let_1]
    have e0 : (upd (upd (upd (upd r (120 + 7 * p + 0) 3) (120 + 7 * p + 3) (-5)) (8 + 14 * g + 10) (r (8 + 14 * g + 10) + 1)) (8 + 14 * g + 6) (-5)) 0 = r 0 := by
      rw [pk_un (by omega), pk_un (by omega), pk_un (by omega), pk_un (by omega)]
    rw [← e0]
    refine ev_tell ?_
    rw [pk_un (by omega), pk_un (by omega), pk_un (by omega), pk_un (by omega)]
    exact h
  · refine Or.inr ⟨rfl, ?_, F_let0_0 hg hp⟩
    rw [F_let_0]
    have e0 : (upd (upd (upd (upd r (120 + 7 * p + 0) 5) (120 + 7 * p + 3) (-5)) (8 + 14 * g + 11) (r (8 + 14 * g + 11) + 1)) (8 + 14 * g + 6) (-5)) 0 = r 0 := by
      rw [pk_un (by omega), pk_un (by omega), pk_un (by omega), pk_un (by omega)]
    rw [← e0]
    refine ev_tell ?_
    rw [pk_un (by omega), pk_un (by omega), pk_un (by omega), pk_un (by omega)]
    exact h
theorem ev_pin {o : Nat} (hg : g < 8) (h : ∃ l, l ≤ 20 ∧ r 5 = nI l) : Ev0 (F_pin g p o r) (r 0) (nI g) (nI p) 4 := by
  unfold F_pin
  have e0 : (upd (upd (upd r (8 + 14 * g + 9) 0) (8 + 14 * g + 13) (r (8 + 14 * g + 13) + 1)) (8 + 14 * g + 8) (nI (o + 1))) 0 = r 0 := by
    rw [pk_un (by omega), pk_un (by omega), pk_un (by omega)]
  rw [← e0]
  refine ev_tell ?_
  rw [pk_un (by omega), pk_un (by omega), pk_un (by omega)]
  exact h
theorem ev_brk (hg : g < 8) (h : ∃ l, l ≤ 20 ∧ r 5 = nI l) : Ev0 (F_brk g r) (r 0) (nI g) (-5) 5 := by
  unfold F_brk
  have e0 : (upd (upd (upd r (8 + 14 * g + 4) 5) (8 + 14 * g + 5) 0) (8 + 14 * g + 9) 0) 0 = r 0 := by
    rw [pk_un (by omega), pk_un (by omega), pk_un (by omega)]
  rw [← e0]
  refine ev_tell ?_
  rw [pk_un (by omega), pk_un (by omega), pk_un (by omega)]
  exact h
/-- who waits first at an end -/
theorem nx_e (h : Rel (HB μ 1) r T ng np nx nl) (hg : g < ng) {e : Nat} (he : e < 2) : nxA r np g (nI e) = -5 ∨ ∃ a, a < np ∧ nxA r np g (nI e) = nI a ∧ r (120 + 7 * a + 3) = nI g ∧ r (120 + 7 * a + 0) = nI (1 + 3 * e) := by
  obtain ⟨n, a, q, -⟩ := q_view h hg he
  by_cases h0 : n = 0
  · exact Or.inl (q.2.2.2.1 h0)
  · obtain ⟨d1, d2, d3⟩ := q.2.1 0 (by omega)
    exact Or.inr ⟨a 0, d1, q.2.2.2.2.1 (by omega), d2, d3⟩
theorem tick_pre (h : Rel (HB μ 1) r T ng np nx 1) (hg : g < ng) : ∃ x7 x8 x9 z0 : Int32, (w_L_tick_183 Φ (nI g) (r (8 + 14 * g + 4)) (r (8 + 14 * g + 5)) (r (8 + 14 * g + 6)) x7 x8 x9 z0 μ → w_L_tick (nI g) μ Φ) ∧ ((nxt r np g = -5 ∧ x7 = -5) ∨ ∃ p, p < np ∧ nxt r np g = nI p ∧ x7 = nI p ∧ ((r (120 + 7 * p + 0) = 1 ∧ x8 = 1 ∧ x9 = whyR r np p ∧ (whyR r np p = 0 → z0 = r 424)) ∨ (r (120 + 7 * p + 0) = 4 ∧ x8 = 0 ∧ x9 = 0))) := by
  have n2 := h.1.n.2.1
  obtain ⟨A, eA⟩ : ∃ A : Int32, A = if r (8 + 14 * g + 0) = 2 then -5 else nxA r np g 0 := ⟨_, rfl⟩
  obtain ⟨C, eC⟩ : ∃ C : Int32, C = if r (8 + 14 * g + 0) = 1 then -5 else nxA r np g 1 := ⟨_, rfl⟩
  have hA : A = -5 ∨ ∃ a, a < np ∧ A = nI a ∧ r (120 + 7 * a + 0) = 1 := by
    rw [eA]
    by_cases h2 : r (8 + 14 * g + 0) = 2
    · rw [if_pos h2]; exact Or.inl rfl
    · rw [if_neg h2]
      rcases nx_e h hg (e := 0) (by decide) with q | ⟨a, a1, a2, -, a4⟩
      · exact Or.inl q
      · exact Or.inr ⟨a, a1, a2, a4⟩
  have hC : C = -5 ∨ ∃ a, a < np ∧ C = nI a ∧ r (120 + 7 * a + 0) = 4 := by
    rw [eC]
    by_cases h2 : r (8 + 14 * g + 0) = 1
    · rw [if_pos h2]; exact Or.inl rfl
    · rw [if_neg h2]
      rcases nx_e h hg (e := 1) (by decide) with q | ⟨a, a1, a2, -, a4⟩
      · exact Or.inl q
      · exact Or.inr ⟨a, a1, a2, a4⟩
  have en : nxt r np g = nx45 r A C := by unfold nxt; rw [eA, eC]
  have z5 : ¬ (0 : Int32) ≤ -5 := by decide
  have S : ∀ N : Int32, N = nx45 r A C → w_L_tick_114 Φ (nI g) (r (8 + 14 * g + 4)) (r (8 + 14 * g + 5)) (r (8 + 14 * g + 6)) A N μ → w_L_tick (nI g) μ Φ := fun N eN H => by
    have S68 : w_L_tick_68 Φ (nI g) (r (8 + 14 * g + 4)) (r (8 + 14 * g + 5)) (r (8 + 14 * g + 6)) A C μ := by
      unfold w_L_tick_68
      rw [eN] at H
      unfold nx45 at H
      rcases hA with e | ⟨a, a1, e, a3⟩
      · rw [e] at H ⊢
        rw [if_neg z5] at H
        rw [if_neg z5]
        exact H
      · rw [e] at H ⊢
        rw [if_pos (nI_pos' (by omega))] at H
        rw [if_pos (nI_pos' (by omega))]
        rcases hC with e' | ⟨c, c1, e', c3⟩
        · rw [e'] at H ⊢
          rw [if_neg z5] at H
          rw [if_neg z5]
          exact H
        · have wa : waitR r a = r 0 - r (120 + 7 * a + 5) := by unfold waitR; rw [if_pos a3]
          have wc : waitR r c = r 0 - r (120 + 7 * c + 5) := by unfold waitR; rw [c3, if_neg (by decide), if_pos rfl]
          rw [e'] at H ⊢
          rw [if_pos (nI_pos' (by omega)), cl (show a < 2147483648 by omega), cl (show c < 2147483648 by omega)] at H
          rw [if_pos (nI_pos' (by omega)), rp_5 h a1, rp_5 h c1, wa, wc]
          by_cases hle : r 0 - r (120 + 7 * a + 5) ≤ r 0 - r (120 + 7 * c + 5)
          · rw [if_pos hle] at H ⊢
            exact H
          · rw [if_neg hle] at H ⊢
            exact H
    have S44 : w_L_tick_44 Φ (nI g) (r (8 + 14 * g + 4)) (r (8 + 14 * g + 5)) (r (8 + 14 * g + 6)) A μ := by
      unfold w_L_tick_44
      rw [rg_0 h hg]
      by_cases h1 : r (8 + 14 * g + 0) = 1
      · rw [if_pos h1]
        rw [if_pos h1] at eC
        rw [eC] at S68
        exact S68
      · rw [if_neg h1]
        rw [if_neg h1] at eC
        have q := rq_0 (Φ := fun r16 u15 => w_L_tick_68 Φ (nI g) (r (8 + 14 * g + 4)) (r (8 + 14 * g + 5)) (r (8 + 14 * g + 6)) A r16 u15) h hg (e := 1) (by decide)
        rw [eC] at S68
        exact q.mpr S68
    unfold w_L_tick
    rw [rg_1 h hg, rg_2 h hg, rg_3 h hg, rg_0 h hg]
    by_cases h2 : r (8 + 14 * g + 0) = 2
    · rw [if_pos h2]
      rw [if_pos h2] at eA
      rw [eA] at S44
      exact S44
    · rw [if_neg h2]
      rw [if_neg h2] at eA
      have q := rq_0 (Φ := fun r11 u10 => w_L_tick_44 Φ (nI g) (r (8 + 14 * g + 4)) (r (8 + 14 * g + 5)) (r (8 + 14 * g + 6)) r11 u10) h hg (e := 0) (by decide)
      rw [eA] at S44
      exact q.mpr S44
  have P0 : ∀ N : Int32, w_L_tick_183 Φ (nI g) (r (8 + 14 * g + 4)) (r (8 + 14 * g + 5)) (r (8 + 14 * g + 6)) N 0 0 0 μ → w_L_tick_132 Φ (nI g) (r (8 + 14 * g + 4)) (r (8 + 14 * g + 5)) (r (8 + 14 * g + 6)) N μ := fun N H => by
    unfold w_L_tick_132 w_L_tick_133
    rw [if_pos rfl]
    unfold w_L_tick_150
    rw [if_pos rfl]
    exact H
  have split : nxt r np g = -5 ∨ ∃ p, p < np ∧ nxt r np g = nI p ∧ ((r (120 + 7 * p + 0) = 1 ∧ A = nI p) ∨ (r (120 + 7 * p + 0) = 4 ∧ A ≠ nI p)) := by
    rw [en]
    have fromC : C = -5 ∨ ∃ p, p < np ∧ C = nI p ∧ ((r (120 + 7 * p + 0) = 1 ∧ A = nI p) ∨ (r (120 + 7 * p + 0) = 4 ∧ A ≠ nI p)) := by
      rcases hC with e' | ⟨c, c1, e', c3⟩
      · exact Or.inl e'
      · refine Or.inr ⟨c, c1, e', Or.inr ⟨c3, fun q => ?_⟩⟩
        rcases hA with e | ⟨a, a1, e, a3⟩
        · exact nI_n5 (by omega) (q.symm.trans e)
        · have : a = c := nI_inj (by omega) (by omega) (e.symm.trans q)
          rw [this, c3] at a3
          exact absurd a3 (by decide)
    unfold nx45
    rcases hA with e | ⟨a, a1, e, a3⟩
    · rw [if_neg (by rw [e]; exact z5)]
      exact fromC
    · rw [if_pos (by rw [e]; exact nI_pos' (by omega))]
      have fromA : ∃ p, p < np ∧ A = nI p ∧ ((r (120 + 7 * p + 0) = 1 ∧ A = nI p) ∨ (r (120 + 7 * p + 0) = 4 ∧ A ≠ nI p)) := ⟨a, a1, e, Or.inl ⟨a3, e⟩⟩
      split
      · split
        · exact fromC
        · exact Or.inr fromA
      · exact Or.inr fromA
  rcases split with e | ⟨p, hp, e, ⟨e1, e2⟩ | ⟨e1, e2⟩⟩
  · refine ⟨-5, 0, 0, 0, fun H => S _ (e.symm.trans en) ?_, Or.inl ⟨e, rfl⟩⟩
    unfold w_L_tick_114
    rw [if_pos (by decide)]
    exact P0 _ H
  · refine ⟨nI p, 1, whyR r np p, if whyR r np p = 0 then r 424 else 0, fun H => S _ (e.symm.trans en) ?_, Or.inr ⟨p, hp, e, rfl, Or.inl ⟨e1, rfl, rfl, fun q => if_pos q⟩⟩⟩
    unfold w_L_tick_114
    rw [if_neg (nI_pos (by omega)), if_pos e2.symm]
    unfold w_L_tick_133
    rw [if_neg (by decide), l_refusal h hp]
    unfold w_L_tick_150
    rw [if_neg (by decide)]
    by_cases hw : whyR r np p = 0
    · rw [if_pos hw] at H
      rw [if_pos hw, rp_1 h hp]
      rcases rel_pass h hp with q | ⟨x, hx, q, -⟩
      · exfalso
        unfold whyR at hw
        rw [q, if_neg (by decide)] at hw
        exact absurd hw (by decide)
      · rw [q, rx_0 h hx, rl_0 h]
        exact H
    · rw [if_neg hw] at H
      rw [if_neg hw]
      exact H
  · refine ⟨nI p, 0, 0, 0, fun H => S _ (e.symm.trans en) ?_, Or.inr ⟨p, hp, e, rfl, Or.inr ⟨e1, rfl, rfl⟩⟩⟩
    unfold w_L_tick_114
    rw [if_neg (nI_pos (by omega)), if_neg (fun q => e2 q.symm)]
    exact P0 _ H
end TOLD29
