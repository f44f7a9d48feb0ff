/-! a new pass -/
section NEWPASS
variable {σ : Mm} {r : Nat → Int32} {T ng np nx nl g p : Nat} {μ ρ : Mm} {n : Nat}
theorem clamp_pass {σ : Mm} {T nx p : Nat} (h : VP σ T nx p) (hn : nx ≤ 12) : σ (50 + p) 0 < 0 ∨ (σ (50 + p) 0).toNatClampNeg < nx := by
  obtain ⟨w, x1, x2, x3, x4, -⟩ := h
  rcases x4 with x4 | ⟨x, hx, x4⟩
  · exact Or.inl (by rw [x4]; decide)
  · exact Or.inr (by rw [x4, nI_clamp (by omega)]; exact hx)
theorem Rel.newPass {m : Nat} (h : Rel σ r T ng np nx nl) (hl : nx < 12) (hm : m < nl) : Rel (up2 (up2 (up2 (up2 (up2 σ (94 + nx) 0 (nI m)) (94 + nx) 1 (0)) (94 + nx) 2 (-5)) (90 + m) 3 (σ (90 + m) 3 + 1)) (0) 8 (nI (nx + 1))) (upd (upd (upd r (400 + 2 * nx) (nI m)) (400 + 2 * nx + 1) (0)) (3) (nI (nx + 1))) T ng np (nx + 1) nl := by
  have n4' := h.1.n.2.2.2
  obtain ⟨σ', hS⟩ : ∃ σ' : Mm, σ' = (up2 (up2 (up2 (up2 (up2 σ (94 + nx) 0 (nI m)) (94 + nx) 1 (0)) (94 + nx) 2 (-5)) (90 + m) 3 (σ (90 + m) 3 + 1)) (0) 8 (nI (nx + 1))) := ⟨_, rfl⟩
  obtain ⟨r', hR⟩ : ∃ r' : Nat → Int32, r' = (upd (upd (upd r (400 + 2 * nx) (nI m)) (400 + 2 * nx + 1) (0)) (3) (nI (nx + 1))) := ⟨_, rfl⟩
  have o : ∀ q j, (¬ (q = 94 + nx ∧ j = 0) ∧ ¬ (q = 94 + nx ∧ j = 1) ∧ ¬ (q = 94 + nx ∧ j = 2) ∧ ¬ (q = 90 + m ∧ j = 3) ∧ ¬ (q = 0 ∧ j = 8)) → σ' q j = σ q j := by
    intro q j hqj
    rw [hS, up2_n (by omega), up2_n (by omega), up2_n (by omega), up2_n (by omega), up2_n (by omega)]
  have ro : ∀ i, (i ≠ 400 + 2 * nx ∧ i ≠ 400 + 2 * nx + 1 ∧ i ≠ 3) → r' i = r i := by
    intro i hi
    rw [hR, pk_un (by omega), pk_un (by omega), pk_un (by omega)]
  have v0 : σ' (94 + nx) 0 = nI m := by
    rw [hS, up2_n (by omega), up2_n (by omega), up2_n (by omega), up2_n (by omega), up2_s]
  have v1 : σ' (94 + nx) 1 = 0 := by
    rw [hS, up2_n (by omega), up2_n (by omega), up2_n (by omega), up2_s]
  have v2 : σ' (94 + nx) 2 = -5 := by
    rw [hS, up2_n (by omega), up2_n (by omega), up2_s]
  have v3 : σ' (90 + m) 3 = σ (90 + m) 3 + 1 := by
    rw [hS, up2_n (by omega), up2_s]
  have v4 : σ' (0) 8 = nI (nx + 1) := by
    rw [hS, up2_s]
  have w0 : r' (400 + 2 * nx) = nI m := by
    rw [hR, pk_un (by omega), pk_un (by omega), pk_us]
  have w1 : r' (400 + 2 * nx + 1) = 0 := by
    rw [hR, pk_un (by omega), pk_us]
  have w2 : r' (3) = nI (nx + 1) := by
    rw [hR, pk_us]
  rw [← hS, ← hR]
  obtain ⟨hC, hVG, hVP, hVX, hRQ, hRN, hRU⟩ := h
  obtain ⟨n1, n2, n3, n4⟩ := hC.n
  obtain ⟨a, b, c, d, e, k⟩ := hC
  refine ⟨⟨?_, fun g f hg hf => ?_, fun p f hp hf => ?_, fun x f hx hf => ?_, fun x f hx hf => ?_, ?_⟩, fun g hg => VG_keep (fun f => o _ _ (by omega)) (fun q hq _ _ => ⟨o _ _ (by omega), o _ _ (by omega), o _ _ (by omega)⟩) (ro _ (by omega)) (hVG g hg), fun q hq => ?_, fun x hx => ?_, ?_, ?_, ?_⟩
  · obtain ⟨a1, a2, a3, a4, a5, a6, a7, a8⟩ := a
    refine ⟨?_, ?_, ⟨v4, w2, by omega⟩, ?_, ?_, ?_, ?_, a8⟩
    · rw [o _ _ (by omega), ro _ (by omega)]; exact a1
    · rw [o _ _ (by omega), ro _ (by omega)]; exact a2
    · rw [o _ _ (by omega), ro _ (by omega)]; exact a4
    · rw [o _ _ (by omega), ro _ (by omega)]; exact a5
    · rw [o _ _ (by omega), ro _ (by omega)]; exact a6
    · rw [ro _ (by omega)]; exact a7
  · have := gm_lt hf
    rw [o _ _ (by omega), ro _ (by omega)]; exact b g f hg hf
  · have := pm_lt hf
    rw [o _ _ (by omega), ro _ (by omega)]; exact c p f hp hf
  · by_cases hx' : x = nx
    · subst hx'
      rcases (show f = 0 ∨ f = 1 by omega) with rfl | rfl
      · rw [v0]; exact w0.symm
      · rw [v1]; exact w1.symm
    · rw [o _ _ (by omega), ro _ (by omega)]; exact d x f (by omega) hf
  · have := lm_lt hf
    rw [o _ _ (by omega), ro _ (by omega)]; exact e x f hx hf
  · obtain ⟨n, l, h1, h2, h3, h4, h5, h6⟩ := k
    exact ⟨n, l, h1, h2, by rw [o _ _ (by omega)]; exact h3, by rw [o _ _ (by omega)]; exact h4, by rw [ro _ (by omega)]; exact h5, fun k j hk hj => by
      rw [o _ _ (by omega), ro _ (by omega)]
      exact h6 k j hk hj⟩
  · obtain ⟨w, x1, x2, x3, x4, x5, x6, x7, x8⟩ := VP_keep (σ' := σ') (fun f => o _ _ (by omega)) (hVP q hq)
    exact ⟨w, x1, x2, x3, by
      rcases x4 with x4 | ⟨x, hx, x4⟩
      · exact Or.inl x4
      · exact Or.inr ⟨x, by omega, x4⟩, x5, x6, x7, fun hw => by
      obtain ⟨x, hx, x9⟩ := x8 hw
      exact ⟨x, by omega, x9⟩⟩
  · by_cases hx' : x = nx
    · rw [hx']
      exact ⟨m, hm, v0, by rw [v1]; exact Or.inl rfl⟩
    · obtain ⟨k, k1, k2, k3⟩ := hVX x (by omega)
      exact ⟨k, k1, by rw [o _ _ (by omega)]; exact k2, by rw [o _ _ (by omega)]; exact k3⟩
  · exact KQ_same n1 (fun q j h1 h2 _ => o _ _ (by omega)) (fun q hq => ⟨o _ _ (by omega), o _ _ (by omega)⟩) (fun q hq => ro _ (by omega)) hRQ
  · intro q hq hw
    rw [o _ _ (by omega)] at hw
    exact NumOk_keep (ro _ (by omega)) (ro 7 (by omega)) (ro _ (by omega)) (ro 1 (by omega)) (hRN q hq hw)
  · obtain ⟨u1, u2, u3⟩ := hRU
    have hus : ∀ q x, q < np → usB σ' q x = usB σ q x := fun q x hq => by
      unfold usB
      rw [o _ _ (by omega), inB_keep (o _ _ (by omega))]
    have hx0 : ∀ x, x < nx → σ' (94 + x) 0 = σ (94 + x) 0 := fun x hx => o _ _ (by omega)
    have hpl : ∀ q k, q < np → plB σ' q k = plB σ q k := fun q k hq => by
      unfold plB
      rw [o _ 0 (by omega), inB_keep (o _ _ (by omega))]
      rcases clamp_pass (hVP q hq) n3 with hc | hc
      · rw [decide_eq_false (p := ¬ σ (50 + q) 0 < 0) (fun e => e hc)]
        rfl
      · rw [hx0 _ hc]
    have hold : ∀ k, cnt (fun x => decide (σ' (94 + x) 0 = nI k)) nx = cnt (fun x => decide (σ (94 + x) 0 = nI k)) nx := fun k => cnt_congr (fun i hi => by rw [hx0 i hi])
    refine ⟨fun x hx => ?_, fun k hk => ?_, fun k hk => ?_⟩
    · by_cases hx' : x = nx
      · rw [hx']
        refine Or.inl ⟨v2, fun q hq => ?_⟩
        rw [hus q nx hq]
        unfold usB
        have hne : ¬ σ (50 + q) 0 = nI nx := fun e => by
          rcases clamp_pass (hVP q hq) n3 with hc | hc
          · rw [e] at hc; exact nI_pos (by omega) hc
          · rw [e, nI_clamp (by omega)] at hc; omega
        rw [decide_eq_false hne]
        rfl
      · rw [o _ _ (by omega)]
        rcases u1 x (by omega) with ⟨a, b⟩ | ⟨p, a, b, c, d⟩
        · exact Or.inl ⟨a, fun p hp => by rw [hus p x hp]; exact b p hp⟩
        · exact Or.inr ⟨p, a, b, by rw [hus p x a]; exact c, fun q hq hu => d q hq (by rw [← hus q x hq]; exact hu)⟩
    · rw [o _ _ (by omega), u2 k hk]
      congr 1
      exact cnt_congr (fun i hi => (hpl i k hi).symm)
    · rw [cnt_s, hold]
      by_cases hkm : k = m
      · subst hkm
        rw [v3, if_pos (decide_eq_true v0), u3 k hk]
      · rw [o _ _ (by omega), u3 k hk, if_neg (by rw [v0]; simp only [decide_eq_true_eq]; exact fun e => hkm (nI_inj (by omega) (by omega) e).symm)]
        exact (Int32.add_zero _).symm
theorem do_addPass (a : Int32) : DoOp (fun S => w_X8_newPass S a) (w_X10_addPass a) := by
  intro σ r T ng np nx nl hT h0
  have h := h0.mono (show T ≤ T + 20000 by omega) hT
  obtain ⟨n1, n2, n3, n4⟩ := h.1.n
  have h8 : σ 0 8 = nI nx := h.1.1.2.2.1.1
  have r3 : r 3 = nI nx := h.1.1.2.2.1.2.1
  rcases arg_n a (show nl < 1073741824 by omega) with ⟨m, hm, rfl⟩ | ha
  · have hN : ∀ (ρ : Mm) (Φ : Int32 → Mm → Prop), w_X10_noPool (nI m) (rw1 ρ r) Φ = Φ 0 (rw1 ρ r) := fun ρ Φ => s_noPool_y h.1.1.2.2.2.1.2.1 hm (by omega)
    have hA : ∀ (S : Nat) (μ : Mm) (Φ : Option Nat → Mm → Prop), w_X8_poolAt S (nI m) (bl S σ μ) Φ = Φ (some (S + 90 + m)) (bl S σ μ) := fun S μ Φ => d_poolAt_y h.1.1.2.2.2.1.1 hm n4
    by_cases hl : nx = 12
    · subst hl
      refine ⟨σ, r, -3, ng, np, 12, nl, h, fun S μ Φ hΦ => ?_, Or.inl ⟨by decide, fun ρ Φ hd => ?_⟩⟩
      · show w_X8_newPass S (nI m) (bl S σ μ) Φ
        unfold w_X8_newPass
        rw [hA, opt_some, bl_0, h8, if_neg (by decide)]
        exact hΦ
      · unfold w_X10_addPass
        rw [hN, if_pos rfl, rw1_1, show (3 : Int32).toNatClampNeg = 3 from rfl, r3, if_pos (by decide)]
        exact hd
    · have hlt : nI nx < 12 := nI_lt (b := 12) (by omega) (by omega)
      have hne : ¬ nI nx = 12 := fun e => hl (nI_inj (a := nx) (b := 12) (by omega) (by omega) e)
      have hp : 94 + nx < 106 := by omega
      have hp2 : 90 + m < 106 := by omega
      refine ⟨_, _, nI nx, ng, np, nx + 1, nl, h.newPass (m := m) (by omega) hm, fun S μ Φ hΦ => ?_, Or.inr (fun ρ ρ1 Φ hb hd => ?_)⟩
      · show w_X8_newPass S (nI m) (bl S σ μ) Φ
        unfold w_X8_newPass w_X4_setUp
        rw [hA, opt_some, bl_0, h8, if_pos hlt, vin (show nx < 12 by omega) (by decide), true_and, cl (show nx < 2147483648 by omega)]
        simp only [forall_eq, Nat.add_assoc, up2_bl hp, up2_bl hp2, bl_at hp2, up2_bl0, bl_0]
        have c3 : up2 (up2 (up2 σ (94 + nx) 0 (nI m)) (94 + nx) 1 0) (94 + nx) 2 (-5) (90 + m) 3 = σ (90 + m) 3 := by
          rw [up2_n (by omega), up2_n (by omega), up2_n (by omega)]
        rw [c3]
        have c8 : up2 (up2 (up2 (up2 σ (94 + nx) 0 (nI m)) (94 + nx) 1 0) (94 + nx) 2 (-5)) (90 + m) 3 (σ (90 + m) 3 + 1) 0 8 = nI nx := by
          rw [up2_n (by omega), up2_n (by omega), up2_n (by omega), up2_n (by omega)]
          exact h8
        rw [c8, nI_1, up2_s, nI_pred]
        exact hΦ
      · unfold w_X10_addPass
        rw [hN, if_pos rfl, rw1_1, show (3 : Int32).toNatClampNeg = 3 from rfl, r3, if_neg hne]
        refine hb _ ?_
        have c3 : upd r (400 + 2 * nx) (nI m) 3 = nI nx := by
          rw [pk_un (by omega)]
          exact r3
        simp only [rw1_1, r3, ixX, vin (show 400 + 2 * nx < 516 by omega) (show 516 < 2147483648 by decide), true_and, cl (show 400 + 2 * nx < 2147483648 by omega), forall_eq, up2_rw1, c3, show nI (400 + 2 * nx) + (1 : Int32) = nI (400 + 2 * nx + 1) from nI_1 _, vin (show 400 + 2 * nx + 1 < 516 by omega) (show 516 < 2147483648 by decide), cl (show 400 + 2 * nx + 1 < 2147483648 by omega)]
        have c4 : upd (upd r (400 + 2 * nx) (nI m)) (400 + 2 * nx + 1) 0 3 = nI nx := by
          rw [pk_un (by omega), pk_un (by omega)]
          exact r3
        rw [c4, nI_1, pk_us, nI_pred]
        exact hd
  · refine ⟨σ, r, -1, ng, np, nx, nl, h, fun S μ Φ hΦ => ?_, Or.inl ⟨by decide, fun ρ Φ hd => ?_⟩⟩
    · show w_X8_newPass S a (bl S σ μ) Φ
      unfold w_X8_newPass
      rw [d_poolAt_n h.1.1.2.2.2.1.1 ha, opt_none]
      exact hΦ
    · unfold w_X10_addPass
      rw [s_noPool_n h.1.1.2.2.2.1.2.1 ha (by omega), if_neg (by decide)]
      exact hd
theorem op_addPass : Op_addPass Sim := fun n μ ρ hn hS a => op_wrap (do_addPass a) hn hS
end NEWPASS
