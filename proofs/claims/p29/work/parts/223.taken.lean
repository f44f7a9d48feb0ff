section TAKEN
variable {σ : Mm} {r : Nat → Int32} {T ng np nx nl g p : Nat}
/-- who goes in by a pass uses it then -/
theorem KU_in {σ1 σa σ' : Mm} {x k : Nat} (n2 : np ≤ 40) (n3 : nx ≤ 12) (n4 : nl ≤ 4) (hU : KU σ1 np nx nl) (hp : p < np) (e2 : σ1 (50 + p) 2 = nI 1) (hm : MayGo σ1 nx nl p x k) (a1 : ∀ q j, q < 90 → (q < 5 ∨ 9 < q) → σa q j = σ1 q j) (a2 : ∀ y, σa (94 + y) 0 = σ1 (94 + y) 0 ∧ σa (94 + y) 1 = σ1 (94 + y) 1) (a3 : σa (94 + x) 2 = nI p) (a4 : ∀ y, y ≠ x → σa (94 + y) 2 = σ1 (94 + y) 2) (a5 : σa (90 + k) 2 = σ1 (90 + k) 2 + 1) (a6 : ∀ z, z < 4 → z ≠ k → σa (90 + z) 2 = σ1 (90 + z) 2) (a7 : ∀ z, z < 4 → σa (90 + z) 3 = σ1 (90 + z) 3) (b1 : ∀ q j, 50 ≤ q → ¬ (q = 50 + p ∧ j = 2) → σ' q j = σa q j) (b2 : σ' (50 + p) 2 = nI 2) : KU σ' np nx nl := by
  obtain ⟨hx, hk, ex, ek, eu⟩ := hm
  obtain ⟨u1, u2, u3⟩ := hU
  have hpa : ∀ q, q < np → σ' (50 + q) 0 = σ1 (50 + q) 0 := fun q hq => by rw [b1 _ _ (by omega) (by omega), a1 _ _ (by omega) (by omega)]
  have hin : ∀ q, q < np → q ≠ p → inB σ' q = inB σ1 q := fun q hq hne => inB_keep (by rw [b1 _ _ (by omega) (by omega), a1 _ _ (by omega) (by omega)])
  have hx0 : ∀ y, σ' (94 + y) 0 = σ1 (94 + y) 0 := fun y => by rw [b1 _ _ (by omega) (by omega)]; exact (a2 y).1
  have ip : inB σ' p = true := inB_2 b2
  have ip1 : inB σ1 p = false := inB_1 e2
  have hus : ∀ q y, q < np → q ≠ p → usB σ' q y = usB σ1 q y := fun q y hq hne => by unfold usB; rw [hpa q hq, hin q hq hne]
  have hpl : ∀ q y, q < np → q ≠ p → plB σ' q y = plB σ1 q y := fun q y hq hne => by unfold plB; rw [hpa q hq, hin q hq hne, hx0]
  have husx : usB σ' p x = true := by unfold usB; rw [hpa p hp, ex, ip]; simp
  refine ⟨fun y hy => ?_, fun z hz => ?_, fun z hz => ?_⟩
  · by_cases hyx : y = x
    · subst hyx
      refine Or.inr ⟨p, hp, by rw [b1 _ _ (by omega) (by omega)]; exact a3, husx, fun q hq hu => ?_⟩
      by_cases hqp : q = p
      · exact hqp
      · rw [hus q y hq hqp] at hu
        rcases u1 y hx with ⟨c1, c2⟩ | ⟨p0, c1, c2, c3, c4⟩
        · rw [c2 q hq] at hu; cases hu
        · rw [eu] at c2
          exact absurd c2.symm (nI_n5 (by omega))
    · rw [b1 _ _ (by omega) (by omega), a4 y hyx]
      have hpy : usB σ' p y = false := by
        unfold usB
        rw [hpa p hp, ex, decide_eq_false (fun e => hyx (nI_inj (by omega) (by omega) e).symm)]
        rfl
      rcases u1 y hy with ⟨c1, c2⟩ | ⟨p0, c1, c2, c3, c4⟩
      · refine Or.inl ⟨c1, fun q hq => ?_⟩
        by_cases hqp : q = p
        · rw [hqp]; exact hpy
        · rw [hus q y hq hqp]; exact c2 q hq
      · have h0 : p0 ≠ p := fun e => by
          rw [e] at c3
          unfold usB at c3
          rw [ip1] at c3
          simp at c3
        refine Or.inr ⟨p0, c1, c2, by rw [hus p0 y c1 h0]; exact c3, fun q hq hu => ?_⟩
        by_cases hqp : q = p
        · rw [hqp, hpy] at hu; cases hu
        · exact c4 q hq (by rw [← hus q y hq hqp]; exact hu)
  · have hp1 : ∀ y, plB σ1 p y = false := fun y => by unfold plB; rw [ip1]; simp
    by_cases hzk : z = k
    · subst hzk
      have hpk : plB σ' p z = true := by
        unfold plB
        rw [hpa p hp, ex, ip, nI_clamp (by omega), hx0, ek]
        simp [nI_pos (show x < 2 ^ 31 by omega)]
      have hc := cnt_add (P := fun q => plB σ1 q z) (Q := fun q => plB σ' q z) hp (fun i hi hne => hpl i z hi hne) (hp1 z) hpk
      rw [b1 _ _ (by omega) (by omega), a5, u2 z hz, hc, nI_1]
    · rw [b1 _ _ (by omega) (by omega), a6 z (by omega) hzk, u2 z hz]
      congr 1
      refine cnt_congr (fun i hi => ?_)
      by_cases hip : i = p
      · rw [hip, hp1]
        unfold plB
        rw [hpa p hp, ex, nI_clamp (by omega), hx0, ek, decide_eq_false (p := nI k = nI z) (fun e => hzk (nI_inj (by omega) (by omega) e).symm)]
        simp
      · exact (hpl i z hi hip).symm
  · rw [b1 _ _ (by omega) (by omega), a7 z (by omega), u3 z hz]
    congr 1
    exact cnt_congr (fun i hi => by rw [hx0])
theorem SameCnt.refl {r : Nat → Int32} : SameCnt r r := fun _ _ => ⟨rfl, rfl⟩
theorem SameCnt.trans {r s t : Nat → Int32} (h : SameCnt r s) (h2 : SameCnt s t) : SameCnt r t := fun g hg => ⟨(h2 g hg).1.trans (h g hg).1, (h2 g hg).2.trans (h g hg).2⟩
theorem sim_take (h : Rel σ r T ng np nx nl) (hg : g < ng) : ∃ σ' r', Rel σ' r' T ng np nx nl ∧ (∀ (S : Nat) (μ : Mm) (Φ : Unit → Mm → Prop), w_X8_takeNext S (nI g) (S + 10 + 5 * g) (bl S σ μ) Φ = Φ () (bl S σ' μ)) ∧ (∀ (ρ : Mm) (Φ : Unit → Mm → Prop), w_X10_takeNext (nI g) (rw1 ρ r) Φ = Φ () (rw1 ρ r')) ∧ SameCnt r r' := by
  have h0 := h
  obtain ⟨hC, hVG, hVP, hVX, hRQ, hRN, hRU⟩ := h0
  obtain ⟨n1, n2, n3, n4⟩ := hC.n
  have hg8 : g < 8 := by omega
  obtain ⟨e, he, hCn, hcase⟩ := sim_next h hg
  rcases hcase with ⟨hl0, hR⟩ | ⟨n, p, hn, hp, hl, ha, e3, e2, hR⟩
  · refine ⟨σ, r, h, fun S μ Φ => ?_, fun ρ Φ => ?_, SameCnt.refl⟩
    · unfold w_X8_takeNext
      rw [hCn, d_at_n (by omega) hl0 (Or.inr (by decide)), d_personAt_n hC.1.2.1.1 (Or.inl (by decide)), opt_none]
    · unfold w_X10_takeNext
      rw [hR, if_neg (by decide)]
  · obtain ⟨dC, dVG, dVP, dVX, dQ, dN, dU, dd⟩ := after_drop h hg he hn hp hl ha e3 e2
    obtain ⟨σ1, hσ1⟩ : ∃ σ1 : Mm, σ1 = cDrop (11 + 5 * g + 2 * e) n σ := ⟨_, rfl⟩
    rw [← hσ1] at dC dVG dVP dVX dQ dN dU dd
    have hp40 : p < 40 := by omega
    have ha' : σ (11 + 5 * g + 2 * e + 1) 0 = nI p := by rw [← ha]; congr 1; omega
    have e31 : σ1 (50 + p) 3 = nI g := by rw [dd _ _ (by omega)]; exact e3
    have e21 : σ1 (50 + p) 2 = nI (1 + 3 * e) := by rw [dd _ _ (by omega)]; exact e2
    have er0 : r (120 + 7 * p + 0) = nI (1 + 3 * e) := by rw [← e2]; exact (hC.2.2.1 p 2 hp (by decide)).symm
    obtain ⟨w, x1, x2, x3, x4, x5, x6, x7, x8⟩ := dVP p hp
    have hwe : w = 1 + 3 * e := nI_inj (by omega) (by omega) (x2.symm.trans e21)
    obtain ⟨d, st, g1, g2, g3, g4, g5, -⟩ := dVG g hg
    have bp : ∀ S μ, bl S σ1 μ (S + 50 + p) = σ1 (50 + p) := fun S μ => by rw [Nat.add_assoc]; exact bl_at (by omega)
    have hne2 : ∀ τ : Mm, τ (50 + p) 3 = nI g → ∀ g', g' < ng → g' ≠ g → ∀ q, τ (10 + 5 * g') 8 = nI q → τ (50 + q) 3 = nI g' → q < np → q ≠ p := fun τ ht g' hg' hne q h8 h3 hq e' => by
      subst e'
      exact hne (nI_inj (by omega) (by omega) (h3.symm.trans ht))
    have CP : ∀ (S : Nat) (μ : Mm) (Φ : Unit → Mm → Prop), w_X8_takeNext S (nI g) (S + 10 + 5 * g) (bl S σ μ) Φ = (if σ1 (50 + p) 6 = 0 then w_X8_reasonToRefuse S (S + 50 + p) (bl S σ1 μ) (fun r18 u17 => if r18 = 0 then w_X8_passAt S (u17 (S + 50 + p) 0) u17 (fun r21 u20 => opt r21 (w_X8_payFare S (nI p) none u20 (fun _ u23 => w_X0_add (S + 5) (u23 S 9) (nI g) (nI p) 0 u23 (fun _ u25 => w_X8_takeNext_115 Φ (S + 10 + 5 * g) (nI p) (S + 50 + p) u25))) (fun r21 => w_X8_payFare S (nI p) (some r21) u20 (fun _ u27 => w_X0_add (S + 5) (u27 S 9) (nI g) (nI p) 0 u27 (fun _ u29 => w_X8_takeNext_115 Φ (S + 10 + 5 * g) (nI p) (S + 50 + p) u29)))) else ∀ u31 : Mm, u31 = up2 u17 (S + 10 + 5 * g) 13 (u17 (S + 10 + 5 * g) 13 + 1) → w_X5_turnAway (S + 50 + p) r18 u31 (fun _ u32 => w_X0_add (S + 5) (u32 S 9) (nI g) (nI p) 1 u32 (fun _ u34 => Φ () u34))) else w_X8_takeNext_115 Φ (S + 10 + 5 * g) (nI p) (S + 50 + p) (bl S σ1 μ)) := by
      intro S μ Φ
      unfold w_X8_takeNext
      rw [hCn, d_at_y (a := 0) (k := 0) (by omega) hl hn rfl (by omega), ha', d_personAt_y hC.1.2.1.1 hp n2, opt_some, d_drop (by omega) hl hn, ← hσ1, bp]
    rcases (show e = 0 ∨ e = 1 by omega) with rfl | rfl
    · have h6 : σ1 (50 + p) 6 = 0 := x5 (by omega)
      obtain ⟨v, hv5, hcr, hrr, hm⟩ := sim_reason dC dVP dVX dU hp
      by_cases hv : v = 0
      · subst hv
        obtain ⟨x, k, hmg⟩ := hm rfl
        obtain ⟨σa, ra, aC, ac, ar, a1, a2, a3, a4, a5, a6, a7, a8⟩ := sim_pay dC hg hp hmg
        have e3a : σa (50 + p) 3 = nI g := by rw [a1 _ _ (by omega) (by omega)]; exact e31
        obtain ⟨σ', r', bR, bc, br, bs⟩ := sim_go (b := 1) (g := g) (p := p) aC (fun g' hg' hne => VG_keep (fun f => a1 _ _ (by omega) (by omega)) (fun q hq _ _ => ⟨a1 _ _ (by omega) (by omega), a1 _ _ (by omega) (by omega), a1 _ _ (by omega) (by omega)⟩) (a8 _ (by omega) (by omega)) (dVG g' hg')) (fun q hq _ => VP_keep (fun f => a1 _ _ (by omega) (by omega)) (dVP q hq)) (fun x hx => VX_keep (fun f hf => by
            rcases (show f = 0 ∨ f = 1 by omega) with rfl | rfl
            · exact (a2 x).1
            · exact (a2 x).2) (dVX x hx)) (KQp_keep n1 (fun q h1 h2 h3 j => a1 _ _ (by omega) (by omega)) (fun q hq hne => ⟨a1 _ _ (by omega) (by omega), a1 _ _ (by omega) (by omega)⟩) (fun q hq hne => a8 _ (by omega) (by omega)) dQ) (fun q hq hne hw => by
            rw [a1 _ _ (by omega) (by omega)] at hw
            exact NumOk_keep (a8 _ (by omega) (by omega)) (a8 7 (by omega) (by omega)) (a8 _ (by omega) (by omega)) (a8 1 (by omega) (by omega)) (dN q hq hne hw)) hg hp ⟨d, g1, by rw [a1 _ _ (by omega) (by omega)]; exact g2⟩ (by rw [a1 _ _ (by omega) (by omega)]; exact g5) e3a ⟨x, hmg.1, by rw [a1 _ _ (by omega) (by omega)]; exact hmg.2.2.1⟩ (by rw [a1 _ _ (by omega) (by omega)]; exact x3.1) (Or.inl ⟨rfl, by rw [a1 _ _ (by omega) (by omega)]; exact h6⟩) (hne2 σa e3a) (fun σ' b1 b2 => KU_in n2 n3 n4 dU hp e21 hmg a1 a2 a3 a4 a5 a6 a7 (fun q j h1 h2 => b1 q j (by omega) h2) b2)
        refine ⟨σ', r', bR, fun S μ Φ => ?_, fun ρ Φ => ?_, SameCnt.trans (fun g' hg' => ⟨a8 _ (by omega) (by omega), a8 _ (by omega) (by omega)⟩) bs⟩
        · rw [CP, if_pos h6, hcr, if_pos (by decide), bp, hmg.2.2.1, d_passAt_y dC.1.2.2.1.1 hmg.1 n3, opt_some, ac, bc]
        · unfold w_X10_takeNext
          rw [hR, if_pos (nI_pos' (by omega)), s_of_0 hp40, er0, if_pos (by decide)]
          unfold w_X10_takeNext_26
          rw [if_neg (by decide), hrr, nI_0, ar, br]
      · obtain ⟨σ', r', bR, bc, br, bs⟩ := sim_refuse (v := v) dC dVG dVP dVX dQ dN dU hg hp e31 e21
        refine ⟨σ', r', bR, fun S μ Φ => ?_, fun ρ Φ => ?_, bs⟩
        · rw [CP, if_pos h6, hcr, if_neg (nI_ne0 (by omega) (by omega)), bc]
        · unfold w_X10_takeNext
          rw [hR, if_pos (nI_pos' (by omega)), s_of_0 hp40, er0, if_pos (by decide)]
          unfold w_X10_takeNext_26
          rw [if_neg (by decide), hrr]
          unfold w_X10_takeNext_40
          rw [if_neg (nI_nle (by omega) (by omega)), br]
    · have h6 : σ1 (50 + p) 6 = 1 := x6 (by omega)
      obtain ⟨σ', r', bR, bc, br, bs⟩ := sim_go (b := 0) (g := g) (p := p) dC (fun g' hg' hne => dVG g' hg') (fun q hq _ => dVP q hq) dVX dQ dN hg hp ⟨d, g1, g2⟩ g5 e31 (x8 (by omega)) x3.1 (Or.inr ⟨rfl, h6⟩) (hne2 σ1 e31) (fun σ' b1 b2 => KU_keep (fun q hq => b1 _ _ (by omega) (by omega)) (fun q hq => by
          by_cases hqp : q = p
          · rw [hqp, inB_2 b2, inB_4 e21]
          · exact inB_keep (b1 _ _ (by omega) (by omega))) (fun x => by funext j; exact b1 _ _ (by omega) (by omega)) (fun k hk => ⟨b1 _ _ (by omega) (by omega), b1 _ _ (by omega) (by omega)⟩) dU)
      refine ⟨σ', r', bR, fun S μ Φ => ?_, fun ρ Φ => ?_, bs⟩
      · rw [CP, if_neg (by rw [h6]; decide), bc]
      · unfold w_X10_takeNext
        rw [hR, if_pos (nI_pos' (by omega)), s_of_0 hp40, er0, if_neg (by decide)]
        unfold w_X10_takeNext_26
        rw [if_pos rfl]
        unfold w_X10_takeNext_40
        rw [if_pos (by decide), if_pos rfl, br]
end TAKEN
