theorem VG_keep2 {σ σ' : Mm} {r r' : Nat → Int32} {np g : Nat} (hgate : ∀ f, (f = 2 ∨ f = 6 ∨ f = 8 ∨ f = 9 ∨ f = 10) → σ' (10 + 5 * g) f = σ (10 + 5 * g) f) (hp : ∀ q, q < np → σ (10 + 5 * g) 8 = nI q → σ (50 + q) 2 = nI 2 → σ (50 + q) 3 = nI g → σ' (50 + q) 2 = σ (50 + q) 2 ∧ σ' (50 + q) 3 = σ (50 + q) 3 ∧ σ' (50 + q) 6 = σ (50 + q) 6) (hr : r' (8 + 14 * g + 7) = r (8 + 14 * g + 7)) (h : VG σ r np g) : VG σ' r' np g := by
  obtain ⟨d, st, h1, h2, h3, h4, h5, h6⟩ := h
  refine ⟨d, st, h1, by rw [hgate _ (by decide)]; exact h2, h3, by rw [hgate _ (by decide)]; exact h4, by rw [hgate _ (by decide)]; exact h5, ?_⟩
  rcases h6 with ⟨a, b⟩ | ⟨a, q, o, b1, b2, b3, b4, b5, b6, b7⟩
  · exact Or.inl ⟨a, by rw [hgate _ (by decide)]; exact b⟩
  · obtain ⟨c1, c2, c3⟩ := hp q b1 b3 b5 b6
    exact Or.inr ⟨a, q, o, b1, b2, by rw [hgate _ (by decide)]; exact b3, by rw [hgate _ (by decide)]; exact b4, by rw [c1]; exact b5, by rw [c2]; exact b6, by rw [hr, c3]; exact b7⟩
section TAKE
variable {σ : Mm} {r : Nat → Int32} {T ng np nx nl g p n e : Nat}
/-- what holds once the first of a queue has left it -/
theorem after_drop (h : Rel σ r T ng np nx nl) (hg : g < ng) (he : e < 2) (hn : n + 1 ≤ 40) (hp : p < np) (h1 : σ (11 + 5 * g + 2 * e) 1 = nI (n + 1)) (h2 : σ (12 + 5 * g + 2 * e) 0 = nI p) (h3 : σ (50 + p) 3 = nI g) (h4 : σ (50 + p) 2 = nI (1 + 3 * e)) : Core (cDrop (11 + 5 * g + 2 * e) n σ) r T ng np nx nl ∧ (∀ g', g' < ng → VG (cDrop (11 + 5 * g + 2 * e) n σ) r np g') ∧ (∀ q, q < np → VP (cDrop (11 + 5 * g + 2 * e) n σ) T nx q) ∧ (∀ x, x < nx → VX (cDrop (11 + 5 * g + 2 * e) n σ) nl x) ∧ KQp (cDrop (11 + 5 * g + 2 * e) n σ) r ng np p ∧ (∀ q, q < np → q ≠ p → (cDrop (11 + 5 * g + 2 * e) n σ (50 + q) 2 = nI 1 ∨ cDrop (11 + 5 * g + 2 * e) n σ (50 + q) 2 = nI 4) → NumOk r q) ∧ KU (cDrop (11 + 5 * g + 2 * e) n σ) np nx nl ∧ (∀ q j, (q < 11 ∨ 50 ≤ q ∨ ∃ g', q = 10 + 5 * g') → cDrop (11 + 5 * g + 2 * e) n σ q j = σ q j) := by
  obtain ⟨hC, hVG, hVP, hVX, hRQ, hRN, hRU⟩ := h
  obtain ⟨n1, n2, n3, n4⟩ := hC.n
  have o : ∀ q j, (q < 11 ∨ 50 ≤ q ∨ ∃ g', q = 10 + 5 * g') → cDrop (11 + 5 * g + 2 * e) n σ q j = σ q j := fun q j hq => by
    rcases hq with hq | hq | ⟨g', hq⟩
    · exact cDrop_o (by omega) (by omega)
    · exact cDrop_o (by omega) (by omega)
    · exact cDrop_o (by omega) (by omega)
  refine ⟨hC.drop (by omega) he, fun g' hg' => VG_keep (fun f => o _ _ (Or.inr (Or.inr ⟨g', rfl⟩))) (fun q hq _ _ => ⟨o _ _ (by omega), o _ _ (by omega), o _ _ (by omega)⟩) rfl (hVG g' hg'), fun q hq => VP_keep (fun f => o _ _ (by omega)) (hVP q hq), fun x hx => VX_keep (fun f _ => o _ _ (by omega)) (hVX x hx), KQp_drop n1 hRQ hg he hn hp h1 h2 h3 h4 n2, fun q hq hne hw => ?_, ?_, o⟩
  · rw [o _ _ (by omega)] at hw
    exact hRN q hq hw
  · exact KU_keep (fun q hq => o _ _ (by omega)) (fun q hq => inB_keep (o _ _ (by omega))) (fun x => by funext j; exact o _ _ (by omega)) (fun k hk => ⟨o _ _ (by omega), o _ _ (by omega)⟩) hRU
/-- refused -/
theorem sim_refuse {v : Nat} (hC : Core σ r T ng np nx nl) (hVG : ∀ g', g' < ng → VG σ r np g') (hVP : ∀ q, q < np → VP σ T nx q) (hVX : ∀ x, x < nx → VX σ nl x) (hQ : KQp σ r ng np p) (hN : ∀ q, q < np → q ≠ p → (σ (50 + q) 2 = nI 1 ∨ σ (50 + q) 2 = nI 4) → NumOk r q) (hRU : KU σ np nx nl) (hg : g < ng) (hp : p < np) (e3 : σ (50 + p) 3 = nI g) (e2 : σ (50 + p) 2 = nI 1) :
    ∃ σ' r', Rel σ' r' T ng np nx nl ∧ (∀ (S : Nat) (μ : Mm) (Φ : Unit → Mm → Prop), (∀ u31 : Mm, u31 = up2 (bl S σ μ) (S + 10 + 5 * g) 13 (bl S σ μ (S + 10 + 5 * g) 13 + 1) → w_X5_turnAway (S + 50 + p) (nI v) u31 (fun _ u32 => w_X0_add (S + 5) (u32 S 9) (nI g) (nI p) 1 u32 (fun _ u34 => Φ () u34))) = Φ () (bl S σ' μ)) ∧ (∀ (ρ : Mm) (Φ : Unit → Mm → Prop), (w_X10_put (nI p) 0 0 (rw1 ρ r) (fun _ u29 => w_X10_put (nI p) 3 (-5) u29 (fun _ u31 => w_X10_put (nI p) 4 (nI v) u31 (fun _ u33 => w_X10_gateOf (nI g) 12 u33 (fun r36 u35 => w_X10_putGate (nI g) 12 (r36 + 1) u35 (fun _ u37 => w_X10_tell (nI g) (nI p) 1 u37 (fun _ u39 => Φ () u39))))))) = Φ () (rw1 ρ r')) ∧ SameCnt r r' := by
  obtain ⟨n1, n2, n3, n4⟩ := hC.n
  have hg8 : g < 8 := by omega
  have hp40 : p < 40 := by omega
  have er12 : σ (10 + 5 * g) 13 = r (8 + 14 * g + 12) := hC.2.1 g 11 hg (by decide)
  obtain ⟨σ', hS⟩ : ∃ σ' : Mm, σ' = (cAdd (σ 0 9) (nI g) (nI p) (1) (up2 (up2 (up2 (up2 σ (10 + 5 * g) 13 (σ (10 + 5 * g) 13 + 1)) (50 + p) 2 (0)) (50 + p) 3 (-5)) (50 + p) 4 (nI v))) := ⟨_, rfl⟩
  obtain ⟨r', hR⟩ : ∃ r' : Nat → Int32, r' = (rTell (nI g) (nI p) (1) (upd (upd (upd (upd r (120 + 7 * p + 0) (0)) (120 + 7 * p + 3) (-5)) (120 + 7 * p + 4) (nI v)) (8 + 14 * g + 12) (r (8 + 14 * g + 12) + 1))) := ⟨_, rfl⟩
  have o : ∀ q j, ((q < 5 ∨ 9 < q) ∧ ¬ (q = 10 + 5 * g ∧ j = 13) ∧ ¬ (q = 50 + p ∧ j = 2) ∧ ¬ (q = 50 + p ∧ j = 3) ∧ ¬ (q = 50 + p ∧ j = 4)) → σ' q j = σ q j := by
    intro q j hqj
    rw [hS, cAdd_o (by omega), up2_n (by omega), up2_n (by omega), up2_n (by omega), up2_n (by omega)]
  have ro : ∀ i, (i ≠ 5 ∧ (i < 436 ∨ 516 ≤ i) ∧ i ≠ 120 + 7 * p + 0 ∧ i ≠ 120 + 7 * p + 3 ∧ i ≠ 120 + 7 * p + 4 ∧ i ≠ 8 + 14 * g + 12) → r' i = r i := by
    intro i hi
    rw [hR, rTell_o (by omega) (by omega), pk_un (by omega), pk_un (by omega), pk_un (by omega), pk_un (by omega)]
  have v0 : σ' (10 + 5 * g) 13 = σ (10 + 5 * g) 13 + 1 := by
    rw [hS, cAdd_o (by omega), up2_n (by omega), up2_n (by omega), up2_n (by omega), up2_s]
  have v1 : σ' (50 + p) 2 = 0 := by
    rw [hS, cAdd_o (by omega), up2_n (by omega), up2_n (by omega), up2_s]
  have v2 : σ' (50 + p) 3 = -5 := by
    rw [hS, cAdd_o (by omega), up2_n (by omega), up2_s]
  have v3 : σ' (50 + p) 4 = nI v := by
    rw [hS, cAdd_o (by omega), up2_s]
  have w0 : r' (120 + 7 * p + 0) = 0 := by
    rw [hR, rTell_o (by omega) (by omega), pk_un (by omega), pk_un (by omega), pk_un (by omega), pk_us]
  have w1 : r' (120 + 7 * p + 3) = -5 := by
    rw [hR, rTell_o (by omega) (by omega), pk_un (by omega), pk_un (by omega), pk_us]
  have w2 : r' (120 + 7 * p + 4) = nI v := by
    rw [hR, rTell_o (by omega) (by omega), pk_un (by omega), pk_us]
  have w3 : r' (8 + 14 * g + 12) = r (8 + 14 * g + 12) + 1 := by
    rw [hR, rTell_o (by omega) (by omega), pk_us]
  refine ⟨σ', r', ⟨?_, ?_, ?_, ?_, ?_, ?_, ?_⟩, fun S μ Φ => ?_, fun ρ Φ => ?_, fun g' hg' => ⟨ro _ (by omega), ro _ (by omega)⟩⟩
  · have kk := ((((hC.gate (v := σ (10 + 5 * g) 13 + 1) hg8 (f := 11) (by decide)).person (v := 0) hp40 (f := 2) (by decide)).person (v := -5) hp40 (f := 3) (by decide)).person (v := nI v) hp40 (f := 4) (by decide)).add (t := σ 0 9) (g := nI g) (p := nI p) (kd := 1) (by
      rw [pk_un (by omega), pk_un (by omega), pk_un (by omega), pk_un (by omega)]; exact hC.time)
    rw [hS, hR]
    rw [er12] at kk ⊢
    rw [← upd_last4 (a := 8 + 14 * g + 12) (b := 120 + 7 * p + 0) (c := 120 + 7 * p + 3) (d := 120 + 7 * p + 4) (by omega) (by omega) (by omega)]
    exact kk
  · intro g' hg'
    refine VG_keep2 (fun f hf => o _ _ (by omega)) (fun q hq h8 h2 h3 => ?_) (ro _ (by omega)) (hVG g' hg')
    have hqp : q ≠ p := fun e' => by
      subst e'
      have := nI_inj (by omega) (by omega) (h2.symm.trans e2)
      omega
    exact ⟨o _ _ (by omega), o _ _ (by omega), o _ _ (by omega)⟩
  · intro q hq
    by_cases hqp : q = p
    · subst hqp
      obtain ⟨w, a1, a2, a3, a4, a5, a6, a7, a8⟩ := hVP q hq
      refine ⟨0, by decide, v1, ⟨by rw [o _ _ (by omega)]; exact a3.1, by rw [o _ _ (by omega)]; exact a3.2⟩, by rw [o _ _ (by omega)]; exact a4, fun h => by omega, fun h => by omega, fun h => by omega, fun h => by omega⟩
    · exact VP_keep (fun f => o _ _ (by omega)) (hVP q hq)
  · intro x hx
    exact VX_keep (fun f _ => o _ _ (by omega)) (hVX x hx)
  · refine KQp_done (p := p) (KQp_keep n1 (fun q h1 h2 h3 j => ?_) (fun q hq hne => ⟨o _ _ (by omega), o _ _ (by omega)⟩) (fun q hq hne => ro _ (by omega)) hQ) (fun e he => ?_)
    · have := h3 g
      exact o _ _ (by omega)
    · rw [v1]; exact fun e' => by have := nI_inj (a := 0) (by omega) (by omega) e'; omega
  · intro q hq hw
    by_cases hqp : q = p
    · subst hqp
      rw [v1] at hw
      rcases hw with hw | hw
      · exact absurd hw (by decide)
      · exact absurd hw (by decide)
    · rw [o _ _ (by omega)] at hw
      exact NumOk_keep (ro _ (by omega)) (ro 7 (by omega)) (ro _ (by omega)) (ro 1 (by omega)) (hN q hq hqp hw)
  · refine KU_keep (fun q hq => o _ _ (by omega)) (fun q hq => ?_) (fun x => by funext j; exact o _ _ (by omega)) (fun k hk => ⟨o _ _ (by omega), o _ _ (by omega)⟩) hRU
    by_cases hqp : q = p
    · subst hqp
      rw [inB_1 e2, inB_0 (by rw [v1]; rfl)]
    · exact inB_keep (o _ _ (by omega))
  · have q1 : 10 + 5 * g < 106 := by omega
    have q2 : 50 + p < 106 := by omega
    simp only [forall_eq, Nat.add_assoc, up2_bl q1, bl_at q1]
    unfold w_X5_turnAway
    simp only [forall_eq, up2_bl q2, bl_0]
    have c9 : up2 (up2 (up2 (up2 σ (10 + 5 * g) 13 (σ (10 + 5 * g) 13 + 1)) (50 + p) 2 0) (50 + p) 3 (-5)) (50 + p) 4 (nI v) 0 9 = σ 0 9 := by
      rw [up2_n (by omega), up2_n (by omega), up2_n (by omega), up2_n (by omega)]
    rw [c9, d_add (EvOk_up (by omega) (EvOk_up (by omega) (EvOk_up (by omega) (EvOk_up (by omega) hC.ev)))), hS]
  · rw [s_put_0 hp40, s_put_3 hp40, s_put_4 hp40, s_gateOf_12 hg8, s_putGate_12 hg8, s_tell, pk_un (by omega), pk_un (by omega), pk_un (by omega), hR]
/-- let in: the fare is paid -/
theorem sim_pay {x k : Nat} (hC : Core σ r T ng np nx nl) (hg : g < ng) (hp : p < np) (hm : MayGo σ nx nl p x k) :
    ∃ σ' r', Core σ' r' T ng np nx nl ∧ (∀ (S : Nat) (μ : Mm) (Φ : Unit → Mm → Prop), w_X8_payFare S (nI p) (some (S + 94 + x)) (bl S σ μ) (fun _ u27 => w_X0_add (S + 5) (u27 S 9) (nI g) (nI p) 0 u27 Φ) = Φ () (bl S σ' μ)) ∧ (∀ (ρ : Mm) (Φ : Unit → Mm → Prop), w_X10_takeNext_40 Φ (nI g) (nI p) 1 0 (rw1 ρ r) = w_X10_takeNext_166 Φ (nI g) (nI p) 1 (rw1 ρ r')) ∧ (∀ q j, q < 90 → (q < 5 ∨ 9 < q) → σ' q j = σ q j) ∧ (∀ y, σ' (94 + y) 0 = σ (94 + y) 0 ∧ σ' (94 + y) 1 = σ (94 + y) 1) ∧ σ' (94 + x) 2 = nI p ∧ (∀ y, y ≠ x → σ' (94 + y) 2 = σ (94 + y) 2) ∧ σ' (90 + k) 2 = σ (90 + k) 2 + 1 ∧ (∀ z, z < 4 → z ≠ k → σ' (90 + z) 2 = σ (90 + z) 2) ∧ (∀ z, z < 4 → σ' (90 + z) 3 = σ (90 + z) 3) ∧ (∀ i, i < 400 → i ≠ 5 → r' i = r i) := by
  obtain ⟨n1, n2, n3, n4⟩ := hC.n
  obtain ⟨hx, hk, ex, ek, eu⟩ := hm
  have hg8 : g < 8 := by omega
  have hp40 : p < 40 := by omega
  have e1 : r (120 + 7 * p + 1) = nI x := by rw [← ex]; exact (hC.2.2.1 p 0 hp (by decide)).symm
  have e0 : r (400 + 2 * x) = nI k := by rw [← ek]; exact (hC.2.2.2.1 x 0 hx (by decide)).symm
  have l0 : σ (90 + k) 0 = r (424 + 3 * k) := hC.2.2.2.2.1 k 0 hk (by decide)
  have l4 : σ (90 + k) 4 = r (424 + 3 * k + 2) := hC.2.2.2.2.1 k 4 hk (by decide)
  have hf : σ 0 10 = r 6 := hC.1.2.2.2.2.1
  obtain ⟨σ', hS⟩ : ∃ σ' : Mm, σ' = (cAdd (σ 0 9) (nI g) (nI p) (0) (up2 (up2 (up2 (up2 σ (94 + x) 2 (nI p)) (90 + k) 2 (σ (90 + k) 2 + 1)) (90 + k) 0 (σ (90 + k) 0 - σ 0 10)) (90 + k) 4 (σ (90 + k) 4 + σ 0 10))) := ⟨_, rfl⟩
  obtain ⟨r', hR⟩ : ∃ r' : Nat → Int32, r' = (rTell (nI g) (nI p) (0) (upd (upd r (424 + 3 * k) (r (424 + 3 * k) - r 6)) (424 + 3 * k + 2) (r (424 + 3 * k + 2) + r 6))) := ⟨_, rfl⟩
  have o : ∀ q j, ((q < 5 ∨ 9 < q) ∧ ¬ (q = 94 + x ∧ j = 2) ∧ ¬ (q = 90 + k ∧ j = 2) ∧ ¬ (q = 90 + k ∧ j = 0) ∧ ¬ (q = 90 + k ∧ j = 4)) → σ' q j = σ q j := by
    intro q j hqj
    rw [hS, cAdd_o (by omega), up2_n (by omega), up2_n (by omega), up2_n (by omega), up2_n (by omega)]
  have ro : ∀ i, (i ≠ 5 ∧ (i < 436 ∨ 516 ≤ i) ∧ i ≠ 424 + 3 * k ∧ i ≠ 424 + 3 * k + 2) → r' i = r i := by
    intro i hi
    rw [hR, rTell_o (by omega) (by omega), pk_un (by omega), pk_un (by omega)]
  have v0 : σ' (94 + x) 2 = nI p := by
    rw [hS, cAdd_o (by omega), up2_n (by omega), up2_n (by omega), up2_n (by omega), up2_s]
  have v1 : σ' (90 + k) 2 = σ (90 + k) 2 + 1 := by
    rw [hS, cAdd_o (by omega), up2_n (by omega), up2_n (by omega), up2_s]
  have v2 : σ' (90 + k) 0 = σ (90 + k) 0 - σ 0 10 := by
    rw [hS, cAdd_o (by omega), up2_n (by omega), up2_s]
  have v3 : σ' (90 + k) 4 = σ (90 + k) 4 + σ 0 10 := by
    rw [hS, cAdd_o (by omega), up2_s]
  have w0 : r' (424 + 3 * k) = r (424 + 3 * k) - r 6 := by
    rw [hR, rTell_o (by omega) (by omega), pk_un (by omega), pk_us]
  have w1 : r' (424 + 3 * k + 2) = r (424 + 3 * k + 2) + r 6 := by
    rw [hR, rTell_o (by omega) (by omega), pk_us]
  refine ⟨σ', r', ?_, fun S μ Φ => ?_, fun ρ Φ => ?_, fun q j h1 h2 => o _ _ (by omega), fun y => ⟨o _ _ (by omega), o _ _ (by omega)⟩, v0, fun y hy => o _ _ (by omega), v1, fun z hz hzk => o _ _ (by omega), fun z hz => o _ _ (by omega), fun i h1 h5 => ro _ (by omega)⟩
  · have kk := ((((hC.own (q := 94 + x) (j := 2) (v := nI p) (by omega)).own (q := 90 + k) (j := 2) (v := σ (90 + k) 2 + 1) (by omega)).pool (x := k) (f := 0) (v := σ (90 + k) 0 - σ 0 10) (by omega) (by decide)).pool (x := k) (f := 4) (v := σ (90 + k) 4 + σ 0 10) (by omega) (by decide)).add (t := σ 0 9) (g := nI g) (p := nI p) (kd := 0) (by
      have h0 : lm 0 = 0 := rfl
      have h4 : lm 4 = 2 := rfl
      rw [pk_un (by omega), pk_un (by omega)]; exact hC.time)
    rw [hS, hR]
    rw [l0, l4, hf] at kk ⊢
    exact kk
  · have q3 : 94 + x < 106 := by omega
    have q4 : 90 + k < 106 := by omega
    unfold w_X8_payFare
    rw [opt_some, show bl S σ μ (S + 94 + x) = σ (94 + x) by rw [Nat.add_assoc]; exact bl_at q3, ek, d_poolAt_y hC.1.2.2.2.1.1 hk n4, opt_some]
    unfold w_X8_payFare_16c
    simp only [forall_eq, Nat.add_assoc, up2_bl q3, up2_bl q4, bl_at q4, bl_0]
    have c2 : up2 σ (94 + x) 2 (nI p) (90 + k) 2 = σ (90 + k) 2 := by rw [up2_n (by omega)]
    have c0 : up2 (up2 σ (94 + x) 2 (nI p)) (90 + k) 2 (σ (90 + k) 2 + 1) (90 + k) 0 = σ (90 + k) 0 := by rw [up2_n (by omega), up2_n (by omega)]
    have cf : up2 (up2 σ (94 + x) 2 (nI p)) (90 + k) 2 (σ (90 + k) 2 + 1) 0 10 = σ 0 10 := by rw [up2_n (by omega), up2_n (by omega)]
    rw [c2, c0, cf]
    have c4 : up2 (up2 (up2 σ (94 + x) 2 (nI p)) (90 + k) 2 (σ (90 + k) 2 + 1)) (90 + k) 0 (σ (90 + k) 0 - σ 0 10) (90 + k) 4 = σ (90 + k) 4 := by rw [up2_n (by omega), up2_n (by omega), up2_n (by omega)]
    have cg : up2 (up2 (up2 σ (94 + x) 2 (nI p)) (90 + k) 2 (σ (90 + k) 2 + 1)) (90 + k) 0 (σ (90 + k) 0 - σ 0 10) 0 10 = σ 0 10 := by rw [up2_n (by omega), up2_n (by omega), up2_n (by omega)]
    rw [c4, cg]
    have c9 : up2 (up2 (up2 (up2 σ (94 + x) 2 (nI p)) (90 + k) 2 (σ (90 + k) 2 + 1)) (90 + k) 0 (σ (90 + k) 0 - σ 0 10)) (90 + k) 4 (σ (90 + k) 4 + σ 0 10) 0 9 = σ 0 9 := by
      rw [up2_n (by omega), up2_n (by omega), up2_n (by omega), up2_n (by omega)]
    rw [c9, d_add (EvOk_up (by omega) (EvOk_up (by omega) (EvOk_up (by omega) (EvOk_up (by omega) hC.ev)))), hS]
  · unfold w_X10_takeNext_40
    rw [if_pos (by decide), if_neg (by decide), s_of_1 hp40, e1, ixX, vin (show 400 + 2 * x < 516 by omega) (by decide), true_and, rw1_1, cl (show 400 + 2 * x < 2147483648 by omega), e0, ixL, vin (show 424 + 3 * k < 516 by omega) (by decide), true_and, true_and, cl (show 424 + 3 * k < 2147483648 by omega)]
    have ei : nI (424 + 3 * k) + (2 : Int32) = nI (424 + 3 * k + 2) := by rw [show (2 : Int32) = nI 2 from rfl, nI_add]
    simp only [forall_eq, ei, vin (show 424 + 3 * k + 2 < 516 by omega) (show 516 < 2147483648 by decide), true_and, up2_rw1, rw1_1, cl (show 424 + 3 * k + 2 < 2147483648 by omega), show (6 : Int32).toNatClampNeg = 6 from rfl]
    rw [pk_un (show 424 + 3 * k + 2 ≠ 424 + 3 * k by omega), pk_un (show 6 ≠ 424 + 3 * k by omega), s_tell, hR]
end TAKE
