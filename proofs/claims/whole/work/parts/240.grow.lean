/-! a pass blocked; a new pool -/
section GROW
variable {σ : Mm} {r : Nat → Int32} {T ng np nx nl g p : Nat} {μ ρ : Mm} {n : Nat}
theorem Rel.keepX {σ' : Mm} {r' : Nat → Int32} (h : Rel σ r T ng np nx nl) (hC : Core σ' r' T ng np nx nl) (hX : ∀ x, x < nx → VX σ' nl x) (o : ∀ q j, 10 ≤ q → q < 106 → (90 ≤ q → q < 94 → 2 ≤ j ∧ j ≤ 3) → (94 ≤ q → j ≠ 1) → σ' q j = σ q j) (ro : ∀ i, 7 ≤ i → i < 400 → r' i = r i) : Rel σ' r' T ng np nx nl := by
  obtain ⟨hC0, hVG, hVP, hVX, hRQ, hRN, hRU⟩ := h
  obtain ⟨n1, n2, n3, n4⟩ := hC0.n
  refine ⟨hC, fun g hg => VG_keep (fun f => o _ _ (by omega) (by omega) (by omega) (by omega)) (fun q hq _ _ => ⟨o _ _ (by omega) (by omega) (by omega) (by omega), o _ _ (by omega) (by omega) (by omega) (by omega), o _ _ (by omega) (by omega) (by omega) (by omega)⟩) (ro _ (by omega) (by omega)) (hVG g hg), fun q hq => VP_keep (fun f => o _ _ (by omega) (by omega) (by omega) (by omega)) (hVP q hq), hX, ?_, ?_, ?_⟩
  · exact KQ_same n1 (fun q j h1 h2 _ => o _ _ (by omega) (by omega) (by omega) (by omega)) (fun q hq => ⟨o _ _ (by omega) (by omega) (by omega) (by omega), o _ _ (by omega) (by omega) (by omega) (by omega)⟩) (fun q hq => ro _ (by omega) (by omega)) hRQ
  · intro q hq hw
    rw [o _ _ (by omega) (by omega) (by omega) (by omega)] at hw
    exact NumOk_keep (ro _ (by omega) (by omega)) (ro 7 (by omega) (by omega)) (ro _ (by omega) (by omega)) (hC.1.1.2.1.trans hC0.1.1.2.1.symm) (hRN q hq hw)
  · obtain ⟨u1, u2, u3⟩ := hRU
    have hus : ∀ q x, q < np → usB σ' q x = usB σ q x := fun q x hq => by
      unfold usB
      rw [o _ _ (by omega) (by omega) (by omega) (by omega), inB_keep (o _ _ (by omega) (by omega) (by omega) (by omega))]
    have hx0 : ∀ x, x < nx → σ' (94 + x) 0 = σ (94 + x) 0 := fun x hx => o _ _ (by omega) (by omega) (by omega) (by omega)
    have hpl : ∀ q k, q < np → plB σ' q k = plB σ q k := fun q k hq => by
      unfold plB
      rw [o _ 0 (by omega) (by omega) (by omega) (by omega), inB_keep (o _ _ (by omega) (by omega) (by omega) (by omega))]
      obtain ⟨w, x1, x2, x3, x4, -⟩ := hVP q hq
      rcases x4 with x4 | ⟨x, hx, x4⟩
      · rw [x4]; rfl
      · rw [x4, nI_clamp (by omega), hx0 x hx]
    refine ⟨fun x hx => ?_, fun k hk => ?_, fun k hk => ?_⟩
    · rw [o _ _ (by omega) (by omega) (by omega) (by omega)]
      rcases u1 x hx with ⟨a, b⟩ | ⟨p, a, b, c, d⟩
      · exact Or.inl ⟨a, fun p hp => by rw [hus p x hp]; exact b p hp⟩
      · exact Or.inr ⟨p, a, b, by rw [hus p x a]; exact c, fun q hq hu => d q hq (by rw [← hus q x hq]; exact hu)⟩
    · rw [o _ _ (by omega) (by omega) (by omega) (by omega), u2 k hk]
      congr 1
      exact cnt_congr (fun i hi => (hpl i k hi).symm)
    · rw [o _ _ (by omega) (by omega) (by omega) (by omega), u3 k hk]
      congr 1
      exact cnt_congr (fun i hi => by rw [hx0 i hi])
def bB (σ : Mm) (x : Nat) : Bool := decide (¬ σ (94 + x) 1 = 0)
theorem mark_loop {S : Nat} {Φ : Int32 → Mm → Prop} (h8 : σ 0 8 = nI nx) (hn : nx ≤ 12) (H : Φ (nI (cnt (bB σ) nx)) (bl S σ μ)) : ∀ (k i : Nat), i + k = nx → ∃ n, w_X8_markPass_34 Φ n S (nI (cnt (bB σ) i)) (nI i) (bl S σ μ)
  | 0, i, hi => by
    have e : i = nx := by omega
    subst e
    refine ⟨0 + 1, ?_⟩
    unfold w_X8_markPass_34
    rw [bl_0, h8, if_pos (nI_le (Nat.le_refl i) (by omega))]
    exact H
  | k + 1, i, hi => by
    obtain ⟨n, hn'⟩ := mark_loop h8 hn H k (i + 1) (by omega)
    rw [cnt_s, nI_succ] at hn'
    have hlim : ¬ (12 : Int32) ≤ nI i := nI_ge (a := i) (b := 12) (by omega) (by omega)
    refine ⟨n + 1, ?_⟩
    unfold w_X8_markPass_34
    rw [bl_0, h8, if_neg (nI_ge (by omega) (by omega)), if_neg hlim, vin (show i < 12 by omega) (by decide), true_and, cl (show i < 2147483648 by omega), Nat.add_assoc, bl_at (show 94 + i < 106 by omega)]
    by_cases hc : σ (94 + i) 1 = 0
    · rw [if_neg (by simp [bB, hc]), Int32.add_zero] at hn'
      rw [if_pos hc]
      exact hn'
    · rw [if_pos (by simp [bB, hc])] at hn'
      rw [if_neg hc]
      exact hn'
theorem block_loop {Φ : Int32 → Mm → Prop} (h3 : r 3 = nI nx) (hn : nx ≤ 12) (hB : ∀ x, x < nx → isB (σ (94 + x) 1) ∧ r (400 + 2 * x + 1) = σ (94 + x) 1) (H : w_X10_done (nI (cnt (bB σ) nx)) (rw1 ρ r) Φ) : ∀ (k i : Nat), i + k = nx → ∃ n, w_X10_block_66 Φ n (nI (cnt (bB σ) i)) (nI i) (rw1 ρ r)
  | 0, i, hi => by
    have e : i = nx := by omega
    subst e
    refine ⟨0 + 1, ?_⟩
    unfold w_X10_block_66
    rw [rw1_1, show (3 : Int32).toNatClampNeg = 3 from rfl, h3, if_pos (nI_le (Nat.le_refl i) (by omega))]
    exact H
  | k + 1, i, hi => by
    obtain ⟨n, hn'⟩ := block_loop h3 hn hB H k (i + 1) (by omega)
    rw [cnt_s, nI_succ] at hn'
    obtain ⟨b1, b2⟩ := hB i (by omega)
    refine ⟨n + 1, ?_⟩
    unfold w_X10_block_66
    rw [rw1_1, show (3 : Int32).toNatClampNeg = 3 from rfl, h3, if_neg (nI_ge (by omega) (by omega)), ixX, show nI (400 + 2 * i) + (1 : Int32) = nI (400 + 2 * i + 1) from nI_1 _, vin (show 400 + 2 * i + 1 < 516 by omega) (by decide), true_and, cl (show 400 + 2 * i + 1 < 2147483648 by omega), b2]
    rcases b1 with hc | hc
    · rw [if_neg (by simp [bB, hc])] at hn'
      rw [hc]
      exact hn'
    · rw [if_pos (by simp [bB, hc])] at hn'
      rw [hc]
      exact hn'
theorem do_block (a b : Int32) (hb : isB b) : DoOp (fun S => w_X8_markPass S a b) (w_X10_block a b) := by
  intro σ r T ng np nx nl hT h0
  have h := h0.mono (show T ≤ T + 20000 by omega) hT
  obtain ⟨n1, n2, n3, n4⟩ := h.1.n
  rcases arg_n a (show nx < 1073741824 by omega) with ⟨x, hx, rfl⟩ | ha
  · have hN : ∀ (ρ : Mm) (Φ : Int32 → Mm → Prop), w_X10_noPass (nI x) (rw1 ρ r) Φ = Φ 0 (rw1 ρ r) := fun ρ Φ => s_noPass_y h.1.1.2.2.1.2.1 hx (by omega)
    have hA : ∀ (S : Nat) (μ : Mm) (Φ : Option Nat → Mm → Prop), w_X8_passAt S (nI x) (bl S σ μ) Φ = Φ (some (S + 94 + x)) (bl S σ μ) := fun S μ Φ => d_passAt_y h.1.1.2.2.1.1 hx n3
    have bx : ∀ S μ, bl S σ μ (S + 94 + x) = σ (94 + x) := fun S μ => by rw [Nat.add_assoc]; exact bl_at (by omega)
    have e1 : r (400 + 2 * x + 1) = σ (94 + x) 1 := (h.1.2.2.2.1 x 1 hx (by decide)).symm
    have hR0 : ∀ (ρ : Mm) (Φ : Int32 → Mm → Prop), w_X10_block (nI x) b (rw1 ρ r) Φ = w_X10_block_19 Φ (nI x) b (rw1 ρ r) := by
      intro ρ Φ
      unfold w_X10_block
      rw [hN, if_pos rfl]
      rcases hb with hb | hb
      · rw [hb, if_pos rfl]
      · rw [hb, if_neg (by decide)]
    by_cases hc : σ (94 + x) 1 = b
    · refine ⟨σ, r, -5, ng, np, nx, nl, h, fun S μ Φ hΦ => ?_, Or.inl ⟨by decide, fun ρ Φ hd => ?_⟩⟩
      · show w_X8_markPass S (nI x) b (bl S σ μ) Φ
        unfold w_X8_markPass
        rw [hA, opt_some, bx, if_pos hc]
        exact hΦ
      · rw [hR0]
        unfold w_X10_block_19
        rw [ixX, show nI (400 + 2 * x) + (1 : Int32) = nI (400 + 2 * x + 1) from nI_1 _, vin (show 400 + 2 * x + 1 < 516 by omega) (by decide), true_and, rw1_1, cl (show 400 + 2 * x + 1 < 2147483648 by omega), e1, if_pos hc]
        exact hd
    · obtain ⟨σ', hσ'⟩ : ∃ σ' : Mm, σ' = up2 σ (94 + x) 1 b := ⟨_, rfl⟩
      obtain ⟨r', hr'⟩ : ∃ r' : Nat → Int32, r' = upd r (400 + 2 * x + 1) b := ⟨_, rfl⟩
      have hC : Core σ' r' (T + 20000) ng np nx nl := by rw [hσ', hr']; exact h.1.pass (x := x) (f := 1) (by omega) (by decide)
      have o : ∀ q j, ¬ (q = 94 + x ∧ j = 1) → σ' q j = σ q j := fun q j hq => by rw [hσ', up2_n (by omega)]
      have hX : ∀ y, y < nx → VX σ' nl y := fun y hy => by
        obtain ⟨k, k1, k2, k3⟩ := h.2.2.2.1 y hy
        refine ⟨k, k1, by rw [o _ _ (by omega)]; exact k2, ?_⟩
        by_cases e : y = x
        · rw [e, hσ', up2_s]; exact hb
        · rw [o _ _ (by omega)]; exact k3
      have hR : Rel σ' r' (T + 20000) ng np nx nl := h.keepX hC hX (fun q j h1 h2 h3 h4 => o _ _ (by omega)) (fun i h1 h2 => by rw [hr', pk_un (by omega)])
      refine ⟨σ', r', nI (cnt (bB σ') nx), ng, np, nx, nl, hR, fun S μ Φ hΦ => ?_, Or.inr (fun ρ ρ1 Φ hbg hd => ?_)⟩
      · show w_X8_markPass S (nI x) b (bl S σ μ) Φ
        unfold w_X8_markPass
        rw [hA, opt_some, bx, if_neg hc]
        refine ⟨hb, ?_⟩
        rintro _ rfl
        rw [Nat.add_assoc, up2_bl (show 94 + x < 106 by omega), ← hσ']
        exact mark_loop hC.1.2.2.1.1 n3 hΦ nx 0 (by omega)
      · rw [hR0]
        unfold w_X10_block_19
        rw [ixX, show nI (400 + 2 * x) + (1 : Int32) = nI (400 + 2 * x + 1) from nI_1 _, vin (show 400 + 2 * x + 1 < 516 by omega) (by decide), true_and, rw1_1, cl (show 400 + 2 * x + 1 < 2147483648 by omega), e1, if_neg hc]
        refine hbg _ ?_
        refine ⟨trivial, ?_⟩
        rintro _ rfl
        rw [up2_rw1, ← hr']
        exact block_loop hC.1.2.2.1.2.1 n3 (fun y hy => ⟨by
          obtain ⟨k, k1, k2, k3⟩ := hX y hy
          exact k3, (hC.2.2.2.1 y 1 hy (by decide)).symm⟩) hd nx 0 (by omega)
  · refine ⟨σ, r, -1, ng, np, nx, nl, h, fun S μ Φ hΦ => ?_, Or.inl ⟨by decide, fun ρ Φ hd => ?_⟩⟩
    · show w_X8_markPass S a b (bl S σ μ) Φ
      unfold w_X8_markPass
      rw [d_passAt_n h.1.1.2.2.1.1 ha, opt_none]
      exact hΦ
    · unfold w_X10_block
      rw [s_noPass_n h.1.1.2.2.1.2.1 ha (by omega), if_neg (by decide)]
      exact hd
theorem op_block : Op_block Sim := fun n μ ρ hn hS a b hb => op_wrap (do_block a b hb) hn hS
theorem Rel.newPool {a : Int32} (h : Rel σ r T ng np nx nl) (hl : nl < 4) : Rel (up2 (up2 (up2 (up2 (up2 (up2 σ (90 + nl) 0 (0)) (90 + nl) 1 (a)) (90 + nl) 2 (0)) (90 + nl) 3 (0)) (90 + nl) 4 (0)) (0) 7 (nI (nl + 1))) (upd (upd (upd (upd r (424 + 3 * nl) (0)) (424 + 3 * nl + 1) (a)) (424 + 3 * nl + 2) (0)) (4) (nI (nl + 1))) T ng np nx (nl + 1) := by
  obtain ⟨σ', hS⟩ : ∃ σ' : Mm, σ' = (up2 (up2 (up2 (up2 (up2 (up2 σ (90 + nl) 0 (0)) (90 + nl) 1 (a)) (90 + nl) 2 (0)) (90 + nl) 3 (0)) (90 + nl) 4 (0)) (0) 7 (nI (nl + 1))) := ⟨_, rfl⟩
  obtain ⟨r', hR⟩ : ∃ r' : Nat → Int32, r' = (upd (upd (upd (upd r (424 + 3 * nl) (0)) (424 + 3 * nl + 1) (a)) (424 + 3 * nl + 2) (0)) (4) (nI (nl + 1))) := ⟨_, rfl⟩
  have o : ∀ q j, (¬ (q = 90 + nl ∧ j = 0) ∧ ¬ (q = 90 + nl ∧ j = 1) ∧ ¬ (q = 90 + nl ∧ j = 2) ∧ ¬ (q = 90 + nl ∧ j = 3) ∧ ¬ (q = 90 + nl ∧ j = 4) ∧ ¬ (q = 0 ∧ j = 7)) → σ' q j = σ q j := by
    intro q j hqj
    rw [hS, up2_n (by omega), up2_n (by omega), up2_n (by omega), up2_n (by omega), up2_n (by omega), up2_n (by omega)]
  have ro : ∀ i, (i ≠ 424 + 3 * nl ∧ i ≠ 424 + 3 * nl + 1 ∧ i ≠ 424 + 3 * nl + 2 ∧ i ≠ 4) → r' i = r i := by
    intro i hi
    rw [hR, pk_un (by omega), pk_un (by omega), pk_un (by omega), pk_un (by omega)]
  have v0 : σ' (90 + nl) 0 = 0 := by
    rw [hS, up2_n (by omega), up2_n (by omega), up2_n (by omega), up2_n (by omega), up2_n (by omega), up2_s]
  have v1 : σ' (90 + nl) 1 = a := by
    rw [hS, up2_n (by omega), up2_n (by omega), up2_n (by omega), up2_n (by omega), up2_s]
  have v2 : σ' (90 + nl) 2 = 0 := by
    rw [hS, up2_n (by omega), up2_n (by omega), up2_n (by omega), up2_s]
  have v3 : σ' (90 + nl) 3 = 0 := by
    rw [hS, up2_n (by omega), up2_n (by omega), up2_s]
  have v4 : σ' (90 + nl) 4 = 0 := by
    rw [hS, up2_n (by omega), up2_s]
  have v5 : σ' (0) 7 = nI (nl + 1) := by
    rw [hS, up2_s]
  have w0 : r' (424 + 3 * nl) = 0 := by
    rw [hR, pk_un (by omega), pk_un (by omega), pk_un (by omega), pk_us]
  have w1 : r' (424 + 3 * nl + 1) = a := by
    rw [hR, pk_un (by omega), pk_un (by omega), pk_us]
  have w2 : r' (424 + 3 * nl + 2) = 0 := by
    rw [hR, pk_un (by omega), pk_us]
  have w3 : r' (4) = nI (nl + 1) := by
    rw [hR, pk_us]
  rw [← hS, ← hR]
  obtain ⟨hC, hVG, hVP, hVX, hRQ, hRN, hRU⟩ := h
  obtain ⟨n1, n2, n3, n4⟩ := hC.n
  obtain ⟨a, b, c, d, e, k⟩ := hC
  refine ⟨⟨?_, fun g f hg hf => ?_, fun p f hp hf => ?_, fun x f hx hf => ?_, fun x f hx hf => ?_, ?_⟩, fun g hg => VG_keep (fun f => o _ _ (by omega)) (fun q hq _ _ => ⟨o _ _ (by omega), o _ _ (by omega), o _ _ (by omega)⟩) (ro _ (by omega)) (hVG g hg), fun q hq => VP_keep (fun f => o _ _ (by omega)) (hVP q hq), fun x hx => ?_, ?_, ?_, ?_⟩
  · obtain ⟨a1, a2, a3, a4, a5, a6, a7, a8⟩ := a
    refine ⟨?_, ?_, ?_, ⟨v5, w3, by omega⟩, ?_, ?_, ?_, a8⟩
    · rw [o _ _ (by omega), ro _ (by omega)]; exact a1
    · rw [o _ _ (by omega), ro _ (by omega)]; exact a2
    · rw [o _ _ (by omega), ro _ (by omega)]; exact a3
    · rw [o _ _ (by omega), ro _ (by omega)]; exact a5
    · rw [o _ _ (by omega), ro _ (by omega)]; exact a6
    · rw [ro _ (by omega)]; exact a7
  · have := gm_lt hf
    rw [o _ _ (by omega), ro _ (by omega)]; exact b g f hg hf
  · have := pm_lt hf
    rw [o _ _ (by omega), ro _ (by omega)]; exact c p f hp hf
  · rw [o _ _ (by omega), ro _ (by omega)]; exact d x f hx hf
  · by_cases hx' : x = nl
    · subst hx'
      rcases (show f = 0 ∨ f = 1 ∨ f = 4 by omega) with rfl | rfl | rfl
      · rw [v0]; exact w0.symm
      · rw [v1]; exact w1.symm
      · rw [v4]; exact w2.symm
    · have := lm_lt hf
      rw [o _ _ (by omega), ro _ (by omega)]; exact e x f (by omega) hf
  · obtain ⟨n, l, h1, h2, h3, h4, h5, h6⟩ := k
    exact ⟨n, l, h1, h2, by rw [o _ _ (by omega)]; exact h3, by rw [o _ _ (by omega)]; exact h4, by rw [ro _ (by omega)]; exact h5, fun k j hk hj => by
      rw [o _ _ (by omega), ro _ (by omega)]
      exact h6 k j hk hj⟩
  · obtain ⟨k, k1, k2, k3⟩ := hVX x hx
    exact ⟨k, by omega, by rw [o _ _ (by omega)]; exact k2, by rw [o _ _ (by omega)]; exact k3⟩
  · exact KQ_same n1 (fun q j h1 h2 _ => o _ _ (by omega)) (fun q hq => ⟨o _ _ (by omega), o _ _ (by omega)⟩) (fun q hq => ro _ (by omega)) hRQ
  · intro q hq hw
    rw [o _ _ (by omega)] at hw
    exact NumOk_keep (ro _ (by omega)) (ro 7 (by omega)) (ro _ (by omega)) (ro 1 (by omega)) (hRN q hq hw)
  · obtain ⟨u1, u2, u3⟩ := hRU
    have hus : ∀ q x, q < np → usB σ' q x = usB σ q x := fun q x hq => by
      unfold usB
      rw [o _ _ (by omega), inB_keep (o _ _ (by omega))]
    have hx0 : ∀ x, σ' (94 + x) 0 = σ (94 + x) 0 := fun x => o _ _ (by omega)
    have hpl : ∀ q k, q < np → plB σ' q k = plB σ q k := fun q k hq => by
      unfold plB
      rw [o _ 0 (by omega), inB_keep (o _ _ (by omega)), hx0]
    refine ⟨fun x hx => ?_, fun k hk => ?_, fun k hk => ?_⟩
    · rw [o _ _ (by omega)]
      rcases u1 x hx with ⟨a, b⟩ | ⟨p, a, b, c, d⟩
      · exact Or.inl ⟨a, fun p hp => by rw [hus p x hp]; exact b p hp⟩
      · exact Or.inr ⟨p, a, b, by rw [hus p x a]; exact c, fun q hq hu => d q hq (by rw [← hus q x hq]; exact hu)⟩
    · by_cases hkn : k = nl
      · subst hkn
        rw [v2, cnt_zero (fun i hi => ?_)]
        · rfl
        · rw [hpl i k hi]
          unfold plB
          obtain ⟨w, x1, x2, x3, x4, -⟩ := hVP i hi
          rcases x4 with x4 | ⟨x, hx, x4⟩
          · rw [x4]; rfl
          · obtain ⟨k', k1, k2, k3⟩ := hVX x hx
            rw [x4, nI_clamp (by omega), k2, decide_eq_false (p := nI k' = nI k) (fun e => by have := nI_inj (by omega) (by omega) e; omega)]
            simp
      · rw [o _ _ (by omega), u2 k (by omega)]
        congr 1
        exact cnt_congr (fun i hi => (hpl i k hi).symm)
    · by_cases hkn : k = nl
      · subst hkn
        rw [v3, cnt_zero (fun i hi => ?_)]
        · rfl
        · obtain ⟨k', k1, k2, k3⟩ := hVX i hi
          rw [hx0, k2]
          exact decide_eq_false (fun e => by have := nI_inj (by omega) (by omega) e; omega)
      · rw [o _ _ (by omega), u3 k (by omega)]
        congr 1
        exact cnt_congr (fun i hi => by rw [hx0])
theorem do_addPool (a : Int32) : DoOp (fun S => w_X8_newPool S a) (w_X10_addPool a) := by
  intro σ r T ng np nx nl hT h0
  have h := h0.mono (show T ≤ T + 20000 by omega) hT
  obtain ⟨n1, n2, n3, n4⟩ := h.1.n
  have h7 : σ 0 7 = nI nl := h.1.1.2.2.2.1.1
  have r4 : r 4 = nI nl := h.1.1.2.2.2.1.2.1
  rcases btw a 1 40 with e | ⟨e, h1, h2⟩
  · refine ⟨σ, r, -2, ng, np, nx, nl, h, fun S μ Φ hΦ => ?_, Or.inl ⟨by decide, fun ρ Φ hd => ?_⟩⟩
    · show w_X8_newPool S a (bl S σ μ) Φ
      unfold w_X8_newPool
      rw [c_between, e, if_pos rfl]
      exact hΦ
    · unfold w_X10_addPool
      rw [s_in, e, if_pos rfl]
      exact hd
  · by_cases hl : nl = 4
    · subst hl
      refine ⟨σ, r, -3, ng, np, nx, 4, h, fun S μ Φ hΦ => ?_, Or.inl ⟨by decide, fun ρ Φ hd => ?_⟩⟩
      · show w_X8_newPool S a (bl S σ μ) Φ
        unfold w_X8_newPool
        rw [c_between, e, if_neg (by decide), bl_0, h7, if_neg (by decide)]
        exact hΦ
      · unfold w_X10_addPool
        rw [s_in, e, if_neg (by decide), rw1_1, show (4 : Int32).toNatClampNeg = 4 from rfl, r4, if_pos (by decide)]
        exact hd
    · have hlt : nI nl < 4 := nI_lt (b := 4) (by omega) (by omega)
      have hne : ¬ nI nl = 4 := fun e => hl (nI_inj (a := nl) (b := 4) (by omega) (by omega) e)
      have hp : 90 + nl < 106 := by omega
      refine ⟨_, _, nI nl, ng, np, nx, nl + 1, h.newPool (a := a) (by omega), fun S μ Φ hΦ => ?_, Or.inr (fun ρ ρ1 Φ hb hd => ?_)⟩
      · show w_X8_newPool S a (bl S σ μ) Φ
        unfold w_X8_newPool w_X6_setUp
        rw [c_between, e, if_neg (by decide), bl_0, h7, if_pos hlt, vin (show nl < 4 by omega) (by decide), true_and, cl (show nl < 2147483648 by omega)]
        simp only [forall_eq, Nat.add_assoc, up2_bl hp, up2_bl0, bl_0]
        have c7 : up2 (up2 (up2 (up2 (up2 σ (90 + nl) 0 0) (90 + nl) 1 a) (90 + nl) 2 0) (90 + nl) 3 0) (90 + nl) 4 0 0 7 = nI nl := by
          rw [up2_n (by omega), up2_n (by omega), up2_n (by omega), up2_n (by omega), up2_n (by omega)]
          exact h7
        rw [c7, nI_1, up2_s, nI_pred]
        exact hΦ
      · unfold w_X10_addPool
        rw [s_in, e, if_neg (by decide), rw1_1, show (4 : Int32).toNatClampNeg = 4 from rfl, r4, if_neg hne]
        refine hb _ ?_
        simp only [rw1_1, r4, ixL, show nI (424 + 3 * nl) + (1 : Int32) = nI (424 + 3 * nl + 1) from nI_1 _, show nI (424 + 3 * nl) + (2 : Int32) = nI (424 + 3 * nl + 2) from nI_add _ 2, vin (show 424 + 3 * nl < 516 by omega) (show 516 < 2147483648 by decide), vin (show 424 + 3 * nl + 1 < 516 by omega) (show 516 < 2147483648 by decide), vin (show 424 + 3 * nl + 2 < 516 by omega) (show 516 < 2147483648 by decide), true_and, cl (show 424 + 3 * nl < 2147483648 by omega), cl (show 424 + 3 * nl + 1 < 2147483648 by omega), cl (show 424 + 3 * nl + 2 < 2147483648 by omega), forall_eq, up2_rw1]
        have c4 : upd (upd (upd r (424 + 3 * nl) 0) (424 + 3 * nl + 1) a) (424 + 3 * nl + 2) 0 4 = nI nl := by
          rw [pk_un (by omega), pk_un (by omega), pk_un (by omega)]
          exact r4
        rw [c4, nI_1, pk_us, nI_pred]
        exact hd
theorem op_addPool : Op_addPool Sim := fun n μ ρ hn hS a => op_wrap (do_addPool a) hn hS
end GROW
