section LET2
variable {σ : Mm} {r : Nat → Int32} {T ng np nx nl g p : Nat}
theorem sim_letOut (h : RelX σ r T ng np nx nl g) (hg : g < ng) (hp : p < np) (e1 : σ (10 + 5 * g) 8 = nI p) (e2 : σ (50 + p) 2 = nI 2) (e6 : σ (50 + p) 6 = 1) (e7 : r (8 + 14 * g + 7) = 0) (e3 : σ (50 + p) 3 = nI g) :
    ∃ σ' r', RelX σ' r' T ng np nx nl g ∧ CT (fun S => w_X8_letThrough S (nI g) (S + 10 + 5 * g)) σ 1 σ' ∧ RT (w_X10_letThrough (nI g)) r () r' ∧ σ' (10 + 5 * g) 8 = -5 ∧ (∀ f, f ≠ 8 → f ≠ 11 → f ≠ 12 → σ' (10 + 5 * g) f = σ (10 + 5 * g) f) ∧ r' (8 + 14 * g + 10) + r' (8 + 14 * g + 11) = r (8 + 14 * g + 10) + r (8 + 14 * g + 11) + 1 ∧ (∀ i, 8 ≤ i → i < 120 → i ≠ 8 + 14 * g + 10 → i ≠ 8 + 14 * g + 11 → i ≠ 8 + 14 * g + 6 → r' i = r i) := by
  obtain ⟨hC, hVG, hVP, hVX, hRQ, hRN, hRU⟩ := h
  obtain ⟨n1, n2, n3, n4⟩ := hC.n
  have hg8 : g < 8 := by omega
  have hp40 : p < 40 := by omega
  have er6 : r (8 + 14 * g + 6) = nI p := by rw [← e1]; exact (hC.2.1 g 6 hg (by decide)).symm
  have er11 : σ (10 + 5 * g) 12 = r (8 + 14 * g + 11) := hC.2.1 g 10 hg (by decide)
  obtain ⟨wp, a1, a2, a3, a4, a5, a6, a7, a8⟩ := hVP p hp
  have hw : wp = 2 := nI_inj (by omega) (by omega) (a2.symm.trans e2)
  subst hw
  obtain ⟨x, hx, ex⟩ := a8 (by omega)
  obtain ⟨k, hk, ek, hbx⟩ := hVX x hx
  obtain ⟨σ', hS⟩ : ∃ σ' : Mm, σ' = (cAdd (σ 0 9) (nI g) (nI p) (3) (up2 (up2 (up2 (up2 (up2 (up2 σ (10 + 5 * g) 8 (-5)) (50 + p) 3 (-5)) (10 + 5 * g) 12 (σ (10 + 5 * g) 12 + 1)) (50 + p) 2 (5)) (94 + x) 2 (-5)) (90 + k) 2 (σ (90 + k) 2 - 1))) := ⟨_, rfl⟩
  obtain ⟨r', hR⟩ : ∃ r' : Nat → Int32, r' = (rTell (nI g) (nI p) (3) (upd (upd (upd (upd r (120 + 7 * p + 0) (5)) (120 + 7 * p + 3) (-5)) (8 + 14 * g + 11) (r (8 + 14 * g + 11) + 1)) (8 + 14 * g + 6) (-5))) := ⟨_, rfl⟩
  have o : ∀ q j, ((q < 5 ∨ 9 < q) ∧ ¬ (q = 10 + 5 * g ∧ j = 8) ∧ ¬ (q = 50 + p ∧ j = 3) ∧ ¬ (q = 10 + 5 * g ∧ j = 12) ∧ ¬ (q = 50 + p ∧ j = 2) ∧ ¬ (q = 94 + x ∧ j = 2) ∧ ¬ (q = 90 + k ∧ j = 2)) → σ' q j = σ q j := by
    intro q j hqj
    rw [hS, cAdd_o (by omega), up2_n (by omega), up2_n (by omega), up2_n (by omega), up2_n (by omega), up2_n (by omega), up2_n (by omega)]
  have ro : ∀ i, (i ≠ 5 ∧ (i < 436 ∨ 516 ≤ i) ∧ i ≠ 120 + 7 * p + 0 ∧ i ≠ 120 + 7 * p + 3 ∧ i ≠ 8 + 14 * g + 11 ∧ i ≠ 8 + 14 * g + 6) → r' i = r i := by
    intro i hi
    rw [hR, rTell_o (by omega) (by omega), pk_un (by omega), pk_un (by omega), pk_un (by omega), pk_un (by omega)]
  have v0 : σ' (10 + 5 * g) 8 = -5 := by
    rw [hS, cAdd_o (by omega), up2_n (by omega), up2_n (by omega), up2_n (by omega), up2_n (by omega), up2_n (by omega), up2_s]
  have v1 : σ' (50 + p) 3 = -5 := by
    rw [hS, cAdd_o (by omega), up2_n (by omega), up2_n (by omega), up2_n (by omega), up2_n (by omega), up2_s]
  have v2 : σ' (10 + 5 * g) 12 = σ (10 + 5 * g) 12 + 1 := by
    rw [hS, cAdd_o (by omega), up2_n (by omega), up2_n (by omega), up2_n (by omega), up2_s]
  have v3 : σ' (50 + p) 2 = 5 := by
    rw [hS, cAdd_o (by omega), up2_n (by omega), up2_n (by omega), up2_s]
  have v4 : σ' (94 + x) 2 = -5 := by
    rw [hS, cAdd_o (by omega), up2_n (by omega), up2_s]
  have v5 : σ' (90 + k) 2 = σ (90 + k) 2 - 1 := by
    rw [hS, cAdd_o (by omega), up2_s]
  have w0 : r' (120 + 7 * p + 0) = 5 := by
    rw [hR, rTell_o (by omega) (by omega), pk_un (by omega), pk_un (by omega), pk_un (by omega), pk_us]
  have w1 : r' (120 + 7 * p + 3) = -5 := by
    rw [hR, rTell_o (by omega) (by omega), pk_un (by omega), pk_un (by omega), pk_us]
  have w2 : r' (8 + 14 * g + 11) = r (8 + 14 * g + 11) + 1 := by
    rw [hR, rTell_o (by omega) (by omega), pk_un (by omega), pk_us]
  have w3 : r' (8 + 14 * g + 6) = -5 := by
    rw [hR, rTell_o (by omega) (by omega), pk_us]
  have hus : ∀ q, q < np → q ≠ p → inB σ' q = inB σ q := fun q hq hne => inB_keep (o _ _ (by omega))
  have hp5 : inB σ' p = false := inB_5 (by rw [v3]; rfl)
  have hpa : ∀ q, σ' (50 + q) 0 = σ (50 + q) 0 := fun q => by
    by_cases hq : q < 40
    · exact o _ _ (by omega)
    · exact o _ _ (by omega)
  have hxs : ∀ y, σ' (94 + y) 0 = σ (94 + y) 0 := fun y => o _ _ (by omega)
  refine ⟨σ', r', ⟨?_, ?_, ?_, ?_, ?_, ?_, ?_⟩, ?_, ?_, v0.trans ?_, ?_, ?_, ?_⟩
  · have kk := ((((((hC.gate (v := -5) hg8 (f := 6) (by decide)).person (v := -5) hp40 (f := 3) (by decide)).gate (v := σ (10 + 5 * g) 12 + 1) hg8 (f := 10) (by decide)).person (v := 5) hp40 (f := 2) (by decide)).own (q := 94 + x) (j := 2) (v := -5) (by omega)).own (q := 90 + k) (j := 2) (v := σ (90 + k) 2 - 1) (by omega)).add (t := σ 0 9) (g := nI g) (p := nI p) (kd := 3) (by
      rw [pk_un (by omega), pk_un (by omega), pk_un (by omega), pk_un (by omega)]; exact hC.time)
    rw [hS, hR]
    rw [er11] at kk ⊢
    rw [← upd_rot4 (a := 8 + 14 * g + 6) (b := 120 + 7 * p + 3) (c := 8 + 14 * g + 11) (d := 120 + 7 * p + 0) (by omega) (by omega) (by omega) (by omega) (by omega)]
    exact kk
  · intro g' hg' hne
    refine VG_keep (fun f => o _ _ (by omega)) (fun q hq h8 h3 => ?_) (ro _ (by omega)) (hVG g' hg' hne)
    have hqp : q ≠ p := fun e => by
      subst e
      exact hne (nI_inj (by omega) (by omega) (h3.symm.trans e3))
    exact ⟨o _ _ (by omega), o _ _ (by omega), o _ _ (by omega)⟩
  · intro q hq
    by_cases hqp : q = p
    · subst hqp
      refine ⟨5, by decide, v3, ?_, ?_, fun h => by omega, fun h => by omega, fun h => by omega, fun h => by omega⟩
      · exact ⟨by rw [o _ _ (by omega)]; exact a3.1, by rw [o _ _ (by omega)]; exact a3.2⟩
      · rw [hpa]; exact a4
    · exact VP_keep (fun f => o _ _ (by omega)) (hVP q hq)
  · intro y hy
    exact VX_keep (fun f hf => o _ _ (by omega)) (hVX y hy)
  · refine KQ_keep (p := p) (fun q h1 h2 h3 => ?_) n1 (fun q hq hqp => ⟨o _ _ (by omega), o _ _ (by omega)⟩) (fun e he => ⟨?_, ?_⟩) (fun q hq => ro _ (by omega)) hRQ
    · have := h3 g
      funext f
      exact o _ _ (by omega)
    · rw [e2]; exact fun e' => by have := nI_inj (by omega) (by omega) e'; omega
    · rw [v3]; exact fun e' => by have := nI_inj (a := 5) (by omega) (by omega) e'; omega
  · exact KN_keep (p := p) (fun q hq hqp => o _ _ (by omega)) (by rw [v3]; decide) (fun q hq => ro _ (by omega)) (ro _ (by omega)) (fun q hq hqp => ro _ (by omega)) (ro _ (by omega)) hRN
  · obtain ⟨u1, u2, u3⟩ := hRU
    have husx : ∀ q y, q < np → q ≠ p → usB σ' q y = usB σ q y := fun q y hq hne => by unfold usB; rw [hpa, hus q hq hne]
    have husp : ∀ y, usB σ' p y = false := fun y => by unfold usB; rw [hp5]; simp
    have hplx : ∀ q y, q < np → q ≠ p → plB σ' q y = plB σ q y := fun q y hq hne => by unfold plB; rw [hpa, hus q hq hne, hxs]
    have hplp : ∀ y, plB σ' p y = false := fun y => by unfold plB; rw [hp5]; simp
    have hpx : usB σ p x = true := by unfold usB; rw [ex, inB_2 e2]; simp
    refine ⟨fun y hy => ?_, fun z hz => ?_, fun z hz => ?_⟩
    · by_cases hyx : y = x
      · subst hyx
        refine Or.inl ⟨v4, fun q hq => ?_⟩
        by_cases hqp : q = p
        · rw [hqp]; exact husp y
        · rw [husx q y hq hqp]
          rcases u1 y hx with ⟨b1, b2⟩ | ⟨p0, b1, b2, b3, b4⟩
          · exact b2 q hq
          · cases hc : usB σ q y with
            | false => rfl
            | true => exact absurd ((b4 q hq hc).trans (b4 p hp hpx).symm) hqp
      · rw [o (94 + y) 2 (by omega)]
        have hpy : usB σ p y = false := by
          unfold usB
          rw [ex, decide_eq_false (fun e => hyx (nI_inj (by omega) (by omega) e).symm)]
          rfl
        rcases u1 y hy with ⟨b1, b2⟩ | ⟨p0, b1, b2, b3, b4⟩
        · refine Or.inl ⟨b1, fun q hq => ?_⟩
          by_cases hqp : q = p
          · rw [hqp]; exact husp y
          · rw [husx q y hq hqp]; exact b2 q hq
        · have h0 : p0 ≠ p := fun e => by rw [e, hpy] at b3; cases b3
          refine Or.inr ⟨p0, b1, b2, by rw [husx p0 y b1 h0]; exact b3, fun q hq hu => ?_⟩
          by_cases hqp : q = p
          · rw [hqp, husp] at hu; cases hu
          · exact b4 q hq (by rw [← husx q y hq hqp]; exact hu)
    · have hplk : plB σ p k = true := by
        unfold plB
        rw [ex, inB_2 e2, nI_clamp (by omega), ek]
        simp [nI_pos (show x < 2 ^ 31 by omega)]
      by_cases hzk : z = k
      · subst hzk
        have hc := cnt_add (P := fun q => plB σ' q z) (Q := fun q => plB σ q z) hp (fun i hi hne => (hplx i z hi hne).symm) (hplp z) hplk
        rw [v5, u2 z hz, hc]
        exact nI_pred _
      · rw [o (90 + z) 2 (by omega), u2 z hz]
        congr 1
        refine cnt_congr (fun i hi => ?_)
        by_cases hip : i = p
        · rw [hip, hplp]
          unfold plB
          rw [ex, nI_clamp (by omega), ek, decide_eq_false (p := nI k = nI z) (fun e => hzk (nI_inj (by omega) (by omega) e).symm)]
          simp
        · exact (hplx i z hi hip).symm
    · rw [o (90 + z) 3 (by omega), u3 z hz]
      congr 1
      exact cnt_congr (fun i hi => by rw [hxs])
  · intro S μ Φ hΦ
    have q1 : 10 + 5 * g < 106 := by omega
    have q2 : 50 + p < 106 := by omega
    have q3 : 94 + x < 106 := by omega
    have q4 : 90 + k < 106 := by omega
    show w_X8_letThrough S (nI g) (S + 10 + 5 * g) (bl S σ μ) Φ
    unfold w_X8_letThrough
    rw [show bl S σ μ (S + 10 + 5 * g) = σ (10 + 5 * g) by rw [Nat.add_assoc]; exact bl_at q1, e1, d_personAt_y hC.1.2.1.1 hp n2]
    simp only [opt_some, forall_eq, Nat.add_assoc, up2_bl q1, up2_bl q2, bl_at q1, bl_at q2]
    have c6 : up2 (up2 σ (10 + 5 * g) 8 (-5)) (50 + p) 3 (-5) (50 + p) 6 = 1 := by
      rw [up2_n (by omega), up2_n (by omega)]; exact e6
    have c12 : up2 (up2 σ (10 + 5 * g) 8 (-5)) (50 + p) 3 (-5) (10 + 5 * g) 12 = σ (10 + 5 * g) 12 := by
      rw [up2_n (by omega), up2_n (by omega)]
    rw [if_neg (by rw [c6]; decide), c12]
    have c0 : up2 (up2 (up2 (up2 σ (10 + 5 * g) 8 (-5)) (50 + p) 3 (-5)) (10 + 5 * g) 12 (σ (10 + 5 * g) 12 + 1)) (50 + p) 2 5 (50 + p) 0 = nI x := by
      rw [up2_n (by omega), up2_n (by omega), up2_n (by omega), up2_n (by omega)]; exact ex
    rw [c0, d_passAt_y (n := nx) (by rw [up2_n (by omega), up2_n (by omega), up2_n (by omega), up2_n (by omega)]; exact hC.1.2.2.1.1) hx n3, opt_some]
    unfold w_X8_freePass
    simp only [opt_some, forall_eq, Nat.add_assoc, up2_bl q3, bl_at q3]
    have c1 : up2 (up2 (up2 (up2 (up2 σ (10 + 5 * g) 8 (-5)) (50 + p) 3 (-5)) (10 + 5 * g) 12 (σ (10 + 5 * g) 12 + 1)) (50 + p) 2 5) (94 + x) 2 (-5) (94 + x) 0 = nI k := by
      rw [up2_n (by omega), up2_n (by omega), up2_n (by omega), up2_n (by omega), up2_n (by omega)]; exact ek
    rw [c1, d_poolAt_y (n := nl) (by rw [up2_n (by omega), up2_n (by omega), up2_n (by omega), up2_n (by omega), up2_n (by omega)]; exact hC.1.2.2.2.1.1) hk n4, opt_some]
    simp only [forall_eq, Nat.add_assoc, up2_bl q4, bl_at q4, bl_0]
    have c2 : up2 (up2 (up2 (up2 (up2 σ (10 + 5 * g) 8 (-5)) (50 + p) 3 (-5)) (10 + 5 * g) 12 (σ (10 + 5 * g) 12 + 1)) (50 + p) 2 5) (94 + x) 2 (-5) (90 + k) 2 = σ (90 + k) 2 := by
      rw [up2_n (by omega), up2_n (by omega), up2_n (by omega), up2_n (by omega), up2_n (by omega)]
    have c9 : up2 (up2 (up2 (up2 (up2 (up2 σ (10 + 5 * g) 8 (-5)) (50 + p) 3 (-5)) (10 + 5 * g) 12 (σ (10 + 5 * g) 12 + 1)) (50 + p) 2 5) (94 + x) 2 (-5)) (90 + k) 2 (σ (90 + k) 2 - 1) 0 9 = σ 0 9 := by
      rw [up2_n (by omega), up2_n (by omega), up2_n (by omega), up2_n (by omega), up2_n (by omega), up2_n (by omega)]
    rw [c2, c9, d_add (EvOk_up (by omega) (EvOk_up (by omega) (EvOk_up (by omega) (EvOk_up (by omega) (EvOk_up (by omega) (EvOk_up (by omega) hC.ev))))))]
    rw [hS] at hΦ
    exact hΦ
  · intro ρ Φ hΦ
    unfold w_X10_letThrough
    rw [s_gateOf_6 hg8, s_gateOf_7 hg8, er6, e7, if_neg (by decide)]
    unfold w_X10_letThrough_24
    rw [if_pos rfl]
    unfold w_X10_letThrough_37
    rw [s_put_0 hp40, s_put_3 hp40, if_pos rfl]
    unfold w_X10_letThrough_59
    rw [s_gateOf_11 hg8, s_putGate_11 hg8, s_putGate_6 hg8, if_pos rfl, s_tell, pk_un (by omega), pk_un (by omega)]
    rw [hR] at hΦ
    exact hΦ
  · rfl
  · intro f h8 h11 h12
    exact o _ _ (by omega)
  · rw [w2, ro _ (by omega), ← Int32.add_assoc]
  · intro i h1 h2 h3 h4 h5
    exact ro _ (by omega)
end LET2
