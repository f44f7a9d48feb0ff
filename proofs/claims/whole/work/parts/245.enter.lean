/-! who comes in -/
section ENTER
variable {σ : Mm} {r : Nat → Int32} {T ng np nx nl g p : Nat} {μ ρ : Mm} {n : Nat}
theorem KQp_new (h : KQ σ r ng np) : KQp σ r ng (np + 1) np := by
  intro g e hg he
  obtain ⟨n, a, b1, b2, b3, b4, b5⟩ := h g e hg he
  exact ⟨n, a, b1, b2, fun i hi => ⟨(b3 i hi).1, by have := (b3 i hi).2.1; omega, by have := (b3 i hi).2.1; omega, (b3 i hi).2.2.1, (b3 i hi).2.2.2⟩, b4, fun q hq hne => b5 q (by omega)⟩
set_option maxHeartbeats 4000000 in
theorem sim_enter {z s : Int32} (h : Rel σ r T ng np nx nl) (hT : T + 1 < 1073741824) (hl : np < 40) (hg : g < ng) (hz : z = -5 ∨ ∃ x, x < nx ∧ z = nI x) (hs : isB s) : ∃ k, k < 40 ∧ σ (11 + 5 * g + 2 * 0) 1 = nI k ∧ Rel (up2 (up2 (up2 (up2 (up2 (up2 (up2 (up2 (up2 (up2 σ (50 + np) 0 (z)) (50 + np) 1 (s)) (50 + np) 4 (0)) (50 + np) 3 (nI g)) (50 + np) 2 (1)) (50 + np) 5 (σ 0 9)) (50 + np) 6 (0)) (11 + 5 * g + 2 * 0 + 1) k (nI np)) (11 + 5 * g + 2 * 0) 1 (nI (k + 1))) (0) 6 (nI (np + 1))) (upd (upd (upd (upd (upd (upd (upd (upd (upd r (2) (nI (np + 1))) (120 + 7 * np + 1) (z)) (120 + 7 * np + 2) (s)) (120 + 7 * np + 4) (0)) (120 + 7 * np + 5) (r 0)) (120 + 7 * np + 0) (1)) (120 + 7 * np + 3) (nI g)) (120 + 7 * np + 6) (r 7)) (7) (r 7 + 1)) (T + 1) ng (np + 1) nx nl := by
  obtain ⟨n1, n2, n3, n4⟩ := h.1.n
  have hkp := KQp_new h.2.2.2.2.1
  obtain ⟨k, hk1, hk2⟩ := KQp_len (e := 0) hkp (Nat.lt_succ_self np) hg (by decide)
  refine ⟨k, by omega, hk1, ?_⟩
  obtain ⟨σ', hS⟩ : ∃ σ' : Mm, σ' = (up2 (up2 (up2 (up2 (up2 (up2 (up2 (up2 (up2 (up2 σ (50 + np) 0 (z)) (50 + np) 1 (s)) (50 + np) 4 (0)) (50 + np) 3 (nI g)) (50 + np) 2 (1)) (50 + np) 5 (σ 0 9)) (50 + np) 6 (0)) (11 + 5 * g + 2 * 0 + 1) k (nI np)) (11 + 5 * g + 2 * 0) 1 (nI (k + 1))) (0) 6 (nI (np + 1))) := ⟨_, rfl⟩
  obtain ⟨r', hR⟩ : ∃ r' : Nat → Int32, r' = (upd (upd (upd (upd (upd (upd (upd (upd (upd r (2) (nI (np + 1))) (120 + 7 * np + 1) (z)) (120 + 7 * np + 2) (s)) (120 + 7 * np + 4) (0)) (120 + 7 * np + 5) (r 0)) (120 + 7 * np + 0) (1)) (120 + 7 * np + 3) (nI g)) (120 + 7 * np + 6) (r 7)) (7) (r 7 + 1)) := ⟨_, rfl⟩
  have o : ∀ q j, (¬ (q = 50 + np ∧ j = 0) ∧ ¬ (q = 50 + np ∧ j = 1) ∧ ¬ (q = 50 + np ∧ j = 4) ∧ ¬ (q = 50 + np ∧ j = 3) ∧ ¬ (q = 50 + np ∧ j = 2) ∧ ¬ (q = 50 + np ∧ j = 5) ∧ ¬ (q = 50 + np ∧ j = 6) ∧ ¬ (q = 11 + 5 * g + 2 * 0 + 1 ∧ j = k) ∧ ¬ (q = 11 + 5 * g + 2 * 0 ∧ j = 1) ∧ ¬ (q = 0 ∧ j = 6)) → σ' q j = σ q j := by
    intro q j hqj
    rw [hS, up2_n (by omega), up2_n (by omega), up2_n (by omega), up2_n (by omega), up2_n (by omega), up2_n (by omega), up2_n (by omega), up2_n (by omega), up2_n (by omega), up2_n (by omega)]
  have ro : ∀ i, (i ≠ 2 ∧ i ≠ 120 + 7 * np + 1 ∧ i ≠ 120 + 7 * np + 2 ∧ i ≠ 120 + 7 * np + 4 ∧ i ≠ 120 + 7 * np + 5 ∧ i ≠ 120 + 7 * np + 0 ∧ i ≠ 120 + 7 * np + 3 ∧ i ≠ 120 + 7 * np + 6 ∧ i ≠ 7) → r' i = r i := by
    intro i hi
    rw [hR, pk_un (by omega), pk_un (by omega), pk_un (by omega), pk_un (by omega), pk_un (by omega), pk_un (by omega), pk_un (by omega), pk_un (by omega), pk_un (by omega)]
  have v0 : σ' (50 + np) 0 = z := by
    rw [hS, up2_n (by omega), up2_n (by omega), up2_n (by omega), up2_n (by omega), up2_n (by omega), up2_n (by omega), up2_n (by omega), up2_n (by omega), up2_n (by omega), up2_s]
  have v1 : σ' (50 + np) 1 = s := by
    rw [hS, up2_n (by omega), up2_n (by omega), up2_n (by omega), up2_n (by omega), up2_n (by omega), up2_n (by omega), up2_n (by omega), up2_n (by omega), up2_s]
  have v2 : σ' (50 + np) 4 = 0 := by
    rw [hS, up2_n (by omega), up2_n (by omega), up2_n (by omega), up2_n (by omega), up2_n (by omega), up2_n (by omega), up2_n (by omega), up2_s]
  have v3 : σ' (50 + np) 3 = nI g := by
    rw [hS, up2_n (by omega), up2_n (by omega), up2_n (by omega), up2_n (by omega), up2_n (by omega), up2_n (by omega), up2_s]
  have v4 : σ' (50 + np) 2 = 1 := by
    rw [hS, up2_n (by omega), up2_n (by omega), up2_n (by omega), up2_n (by omega), up2_n (by omega), up2_s]
  have v5 : σ' (50 + np) 5 = σ 0 9 := by
    rw [hS, up2_n (by omega), up2_n (by omega), up2_n (by omega), up2_n (by omega), up2_s]
  have v6 : σ' (50 + np) 6 = 0 := by
    rw [hS, up2_n (by omega), up2_n (by omega), up2_n (by omega), up2_s]
  have v7 : σ' (11 + 5 * g + 2 * 0 + 1) k = nI np := by
    rw [hS, up2_n (by omega), up2_n (by omega), up2_s]
  have v8 : σ' (11 + 5 * g + 2 * 0) 1 = nI (k + 1) := by
    rw [hS, up2_n (by omega), up2_s]
  have v9 : σ' (0) 6 = nI (np + 1) := by
    rw [hS, up2_s]
  have w0 : r' (2) = nI (np + 1) := by
    rw [hR, pk_un (by omega), pk_un (by omega), pk_un (by omega), pk_un (by omega), pk_un (by omega), pk_un (by omega), pk_un (by omega), pk_un (by omega), pk_us]
  have w1 : r' (120 + 7 * np + 1) = z := by
    rw [hR, pk_un (by omega), pk_un (by omega), pk_un (by omega), pk_un (by omega), pk_un (by omega), pk_un (by omega), pk_un (by omega), pk_us]
  have w2 : r' (120 + 7 * np + 2) = s := by
    rw [hR, pk_un (by omega), pk_un (by omega), pk_un (by omega), pk_un (by omega), pk_un (by omega), pk_un (by omega), pk_us]
  have w3 : r' (120 + 7 * np + 4) = 0 := by
    rw [hR, pk_un (by omega), pk_un (by omega), pk_un (by omega), pk_un (by omega), pk_un (by omega), pk_us]
  have w4 : r' (120 + 7 * np + 5) = r 0 := by
    rw [hR, pk_un (by omega), pk_un (by omega), pk_un (by omega), pk_un (by omega), pk_us]
  have w5 : r' (120 + 7 * np + 0) = 1 := by
    rw [hR, pk_un (by omega), pk_un (by omega), pk_un (by omega), pk_us]
  have w6 : r' (120 + 7 * np + 3) = nI g := by
    rw [hR, pk_un (by omega), pk_un (by omega), pk_us]
  have w7 : r' (120 + 7 * np + 6) = r 7 := by
    rw [hR, pk_un (by omega), pk_us]
  have w8 : r' (7) = r 7 + 1 := by
    rw [hR, pk_us]
  rw [← hS, ← hR]
  obtain ⟨hC, hVG, hVP, hVX, hRQ, hRN, hRU⟩ := h
  have htime := hC.time
  obtain ⟨a, b, c, d, e, kk⟩ := hC
  obtain ⟨a1, a2, a3, a4, a5, ⟨t, t1, t2, t3⟩, ⟨m, m1, m2⟩, a8⟩ := a
  have m7 : r 7 < r 7 + 1 := by rw [m2, nI_1]; exact nI_lt (by omega) (by omega)
  have hin : inB σ' np = false := inB_1 v4
  refine ⟨⟨?_, fun g' f hg' hf => ?_, fun q f hq hf => ?_, fun x f hx hf => ?_, fun x f hx hf => ?_, ?_⟩, fun g' hg' => ?_, fun q hq => ?_, fun x hx => VX_keep (fun f _ => o _ _ (by omega)) (hVX x hx), ?_, fun q hq hw => ?_, ?_⟩
  · refine ⟨?_, ⟨v9, w0, by omega⟩, ?_, ?_, ?_, ⟨t, by omega, ?_, ?_⟩, ⟨m + 1, by omega, ?_⟩, hT⟩
    · rw [o _ _ (by omega), ro _ (by omega)]; exact a1
    · rw [o _ _ (by omega), ro _ (by omega)]; exact a3
    · rw [o _ _ (by omega), ro _ (by omega)]; exact a4
    · rw [o _ _ (by omega), ro _ (by omega)]; exact a5
    · rw [o _ _ (by omega)]; exact t2
    · rw [ro _ (by omega)]; exact t3
    · rw [w8, m2, nI_1]
  · have := gm_lt hf
    rw [o _ _ (by omega), ro _ (by omega)]; exact b g' f hg' hf
  · by_cases hqp : q = np
    · rw [hqp]
      rcases (show f = 0 ∨ f = 1 ∨ f = 2 ∨ f = 3 ∨ f = 4 ∨ f = 5 by omega) with rfl | rfl | rfl | rfl | rfl | rfl
      · exact v0.trans w1.symm
      · exact v1.trans w2.symm
      · exact v4.trans w5.symm
      · exact v3.trans w6.symm
      · exact v2.trans w3.symm
      · exact v5.trans (htime.symm.trans w4.symm)
    · have := pm_lt hf
      rw [o _ _ (by omega), ro _ (by omega)]; exact c q f (by omega) hf
  · rw [o _ _ (by omega), ro _ (by omega)]; exact d x f hx hf
  · have := lm_lt hf
    rw [o _ _ (by omega), ro _ (by omega)]; exact e x f hx hf
  · obtain ⟨n, l, h1, h2, h3, h4, h5, h6⟩ := kk
    exact ⟨n, l, h1, h2, by rw [o _ _ (by omega)]; exact h3, by rw [o _ _ (by omega)]; exact h4, by rw [ro _ (by omega)]; exact h5, fun k j hk hj => by
      rw [o _ _ (by omega), ro _ (by omega)]
      exact h6 k j hk hj⟩
  · obtain ⟨d', st, h1, h2, h3, h4, h5, h6⟩ := hVG g' hg'
    refine ⟨d', st, h1, by rw [o _ _ (by omega)]; exact h2, h3, by rw [o _ _ (by omega)]; exact h4, by rw [o _ _ (by omega)]; exact h5, ?_⟩
    rcases h6 with ⟨x, y⟩ | ⟨x, q, o', b1, b2, b3, b4, b5, b6, b7⟩
    · exact Or.inl ⟨x, by rw [o _ _ (by omega)]; exact y⟩
    · exact Or.inr ⟨x, q, o', by omega, b2, by rw [o _ _ (by omega)]; exact b3, by rw [o _ _ (by omega)]; exact b4, by rw [o _ _ (by omega)]; exact b5, by rw [o _ _ (by omega)]; exact b6, by rw [ro _ (by omega), o _ _ (by omega)]; exact b7⟩
  · by_cases hqp : q = np
    · rw [hqp]
      exact ⟨1, by decide, v4, ⟨by rw [v1]; exact hs, by rw [v6]; exact Or.inl rfl⟩, by rw [v0]; exact hz, fun _ => v6, fun h => by omega, fun _ => ⟨t, by omega, v5.trans t2⟩, fun h => by omega⟩
    · exact VP_mono (by omega) (VP_keep (fun f => o _ _ (by omega)) (hVP q (by omega)))
  · refine KQ_add (n := k) (e := 0) n1 (by omega) hkp (Nat.lt_succ_self np) hg (by decide) hk1 (by omega) (fun q hq hne hw => ?_) (fun q j h1 h2 h3 h4 h5 => ?_) v8 ?_ (fun q hq hne => ⟨o _ _ (by omega), o _ _ (by omega)⟩) v3 v4 (fun q hq hne => ro _ (by omega))
    · rw [w7]
      exact (hRN q (by omega) (Or.inl hw)).1
    · have h6 := h3 g
      exact o _ _ (by omega)
    · rw [show 12 + 5 * g + 2 * 0 = 11 + 5 * g + 2 * 0 + 1 by omega]
      exact v7
  · by_cases hqp : q = np
    · rw [hqp]
      exact ⟨by rw [w7, w8]; exact m7, g, by omega, w6, by rw [ro 1 (by omega), a1.2.1]; exact nI_lt hg (by omega)⟩
    · rw [o _ _ (by omega)] at hw
      obtain ⟨y1, y2⟩ := hRN q (by omega) hw
      refine ⟨by rw [ro _ (by omega), w8]; exact lt_tr y1 m7, ?_⟩
      rw [ro _ (by omega), ro 1 (by omega)]
      exact y2
  · obtain ⟨u1, u2, u3⟩ := hRU
    have hus : ∀ q x, q < np → usB σ' q x = usB σ q x := fun q x hq => by
      unfold usB
      rw [o _ _ (by omega), inB_keep (o _ _ (by omega))]
    have hx94 : ∀ x, σ' (94 + x) = σ (94 + x) := fun x => by
      funext j
      exact o _ _ (by omega)
    have hpl : ∀ q k, q < np → plB σ' q k = plB σ q k := fun q k hq => by
      unfold plB
      rw [o _ 0 (by omega), inB_keep (o _ _ (by omega)), hx94]
    have hus0 : ∀ x, usB σ' np x = false := fun x => by
      unfold usB
      rw [hin, Bool.and_false]
    have hpl0 : ∀ k, plB σ' np k = false := fun k => by
      unfold plB
      rw [hin, Bool.and_false, Bool.and_false]
    refine ⟨fun x hx => ?_, fun k' hk' => ?_, fun k' hk' => ?_⟩
    · rw [hx94]
      rcases u1 x hx with ⟨a, b⟩ | ⟨p, a, b, c, d⟩
      · refine Or.inl ⟨a, fun q hq => ?_⟩
        by_cases hqp : q = np
        · rw [hqp]; exact hus0 x
        · rw [hus q x (by omega)]; exact b q (by omega)
      · refine Or.inr ⟨p, by omega, b, by rw [hus p x a]; exact c, fun q hq hu => ?_⟩
        by_cases hqp : q = np
        · rw [hqp, hus0 x] at hu
          exact absurd hu (by decide)
        · exact d q (by omega) (by rw [← hus q x (by omega)]; exact hu)
    · rw [o _ _ (by omega), cnt_s, hpl0 k', if_neg (by decide), Int32.add_zero, u2 k' hk']
      congr 1
      exact cnt_congr (fun i hi => (hpl i k' hi).symm)
    · rw [o _ _ (by omega), u3 k' hk']
      congr 1
      exact cnt_congr (fun i hi => by rw [hx94])
/-- both sides, behind what is tried first -/
theorem core_enter {b z s : Int32} (h : Rel σ r T ng np nx nl) (hT : T + 400 < 1073741824) (hl : np < 40) (hg : g < ng) (hz : z = -5 ∨ ∃ x, x < nx ∧ z = nI x) (hs : isB s) (hb : (b = -1 ∧ z = -5) ∨ (b ≠ -1 ∧ z = b)) : ∃ (σ' : Mm) (r' : Nat → Int32), Rel σ' r' (T + 400) ng (np + 1) nx nl ∧ (∀ (S : Nat) (μ : Mm) (Φ : Int32 → Mm → Prop), Φ (nI np) (bl S σ' μ) → w_X8_comeIn_27 Φ S (nI g) b s (S + 10 + 5 * g) (bl S σ μ)) ∧ (∀ (ρ : Mm) (Φ : Int32 → Mm → Prop), Φ (nI np) (rw1 ρ r') → w_X10_doEnter_23 Φ (nI g) b s (rw1 ρ r)) := by
  obtain ⟨n1, n2, n3, n4⟩ := h.1.n
  obtain ⟨k, hk, hlen, hR⟩ := sim_enter h (by omega) hl hg hz hs
  have hpb : 50 + np < 106 := by omega
  have hqb : 11 + 5 * g + 2 * 0 < 106 := by omega
  have h6 : σ 0 6 = nI np := h.1.1.2.1.1
  have h2 : r 2 = nI np := h.1.1.2.1.2.1
  have hlt : nI np < 40 := nI_lt (b := 40) hl (by omega)
  have hne : ¬ nI np = 40 := fun e => by
    have := nI_inj (a := np) (b := 40) (by omega) (by omega) e
    omega
  have hl' : (up2 (up2 (up2 (up2 (up2 (up2 (up2 σ (50 + np) 0 (z)) (50 + np) 1 (s)) (50 + np) 4 (0)) (50 + np) 3 (nI g)) (50 + np) 2 (1)) (50 + np) 5 (σ 0 9)) (50 + np) 6 (0)) (11 + 5 * g + 2 * 0) 1 = nI k := by
    rw [up2_n (by omega), up2_n (by omega), up2_n (by omega), up2_n (by omega), up2_n (by omega), up2_n (by omega), up2_n (by omega)]
    exact hlen
  have c6a : up2 (up2 (up2 σ (50 + np) 0 z) (50 + np) 1 s) (50 + np) 4 0 0 6 = nI np := by
    rw [up2_n (by omega), up2_n (by omega), up2_n (by omega)]
    exact h6
  have c9a : up2 (up2 (up2 σ (50 + np) 0 z) (50 + np) 1 s) (50 + np) 4 0 0 9 = σ 0 9 := by
    rw [up2_n (by omega), up2_n (by omega), up2_n (by omega)]
  have c6b : (up2 (up2 (up2 (up2 (up2 (up2 (up2 σ (50 + np) 0 (z)) (50 + np) 1 (s)) (50 + np) 4 (0)) (50 + np) 3 (nI g)) (50 + np) 2 (1)) (50 + np) 5 (σ 0 9)) (50 + np) 6 (0)) 0 6 = nI np := by
    rw [up2_n (by omega), up2_n (by omega), up2_n (by omega), up2_n (by omega), c6a]
  have c6c : (up2 (up2 (up2 (up2 (up2 (up2 (up2 (up2 (up2 σ (50 + np) 0 (z)) (50 + np) 1 (s)) (50 + np) 4 (0)) (50 + np) 3 (nI g)) (50 + np) 2 (1)) (50 + np) 5 (σ 0 9)) (50 + np) 6 (0)) (11 + 5 * g + 2 * 0 + 1) k (nI np)) (11 + 5 * g + 2 * 0) 1 (nI (k + 1))) 0 6 = nI np := by
    rw [up2_n (by omega), up2_n (by omega), c6b]
  obtain ⟨σ', hS⟩ : ∃ σ' : Mm, σ' = (up2 (up2 (up2 (up2 (up2 (up2 (up2 (up2 (up2 (up2 σ (50 + np) 0 (z)) (50 + np) 1 (s)) (50 + np) 4 (0)) (50 + np) 3 (nI g)) (50 + np) 2 (1)) (50 + np) 5 (σ 0 9)) (50 + np) 6 (0)) (11 + 5 * g + 2 * 0 + 1) k (nI np)) (11 + 5 * g + 2 * 0) 1 (nI (k + 1))) (0) 6 (nI (np + 1))) := ⟨_, rfl⟩
  obtain ⟨r', hr'⟩ : ∃ r' : Nat → Int32, r' = (upd (upd (upd (upd (upd (upd (upd (upd (upd r (2) (nI (np + 1))) (120 + 7 * np + 1) (z)) (120 + 7 * np + 2) (s)) (120 + 7 * np + 4) (0)) (120 + 7 * np + 5) (r 0)) (120 + 7 * np + 0) (1)) (120 + 7 * np + 3) (nI g)) (120 + 7 * np + 6) (r 7)) (7) (r 7 + 1)) := ⟨_, rfl⟩
  rw [← hS, ← hr'] at hR
  refine ⟨σ', r', hR.mono (by omega) hT, fun S μ Φ hΦ => ?_, fun ρ Φ hΦ => ?_⟩
  · have H : w_X8_comeIn_62 Φ S (nI g) s (S + 10 + 5 * g) z (S + (50 + np)) (bl S σ μ) := by
      unfold w_X8_comeIn_62 w_X5_setUp
      rintro _ rfl
      refine ⟨hs, ?_⟩
      rintro _ rfl _ rfl
      rw [up2_bl hpb, up2_bl hpb, up2_bl hpb]
      show vp_in (bl S _ μ S 6) 40 ∧ w_X5_waitAt (S + 50 + (bl S _ μ S 6).toNatClampNeg) (nI g) 1 (bl S _ μ S 9) _ _
      rw [bl_0, c6a, c9a, cl (show np < 2147483648 by omega), Nat.add_assoc S 50 np]
      refine ⟨vp_in_nI (by omega) (by omega), ?_⟩
      unfold w_X5_waitAt
      rintro _ rfl _ rfl _ rfl
      rw [if_neg (by decide)]
      rintro _ rfl
      rw [up2_bl hpb, up2_bl hpb, up2_bl hpb, up2_bl hpb]
      show w_X7_append (S + 10 + 5 * g + 1) (bl S _ μ S 6) _ _
      rw [bl_0, c6b, show S + 10 + 5 * g + 1 = S + (11 + 5 * g + 2 * 0) by omega, d_append (by omega) hl' hk]
      rintro _ rfl
      show Φ (up2 _ S 6 (bl S _ μ S 6 + 1) S 6 - 1) (up2 _ S 6 (bl S _ μ S 6 + 1))
      rw [up2_s, bl_0, c6c, nI_1, nI_pred, up2_bl0, ← hS]
      exact hΦ
    unfold w_X8_comeIn_27
    rw [bl_0, h6, if_pos hlt, cl (show np < 2147483648 by omega), Nat.add_assoc S 50 np]
    refine ⟨vp_in_nI (by omega) (by omega), ?_⟩
    rcases hb with ⟨e1, e2⟩ | ⟨e1, e2⟩
    · rw [if_pos e1]
      rw [e2] at H
      exact H
    · rw [if_neg e1]
      rw [e2] at H
      exact H
  · have H : w_X10_doEnter_70 Φ (nI g) s (nI np) z 1 (nI np) (rw1 ρ (upd r (2) (nI (np + 1)))) := by
      have H2 : w_X10_doEnter_86 Φ (nI g) (nI np) s 2 (nI np) (rw1 ρ (upd (upd r (2) (nI (np + 1))) (120 + 7 * np + 1) z)) := by
        unfold w_X10_doEnter_86
        rw [s_put_2 hl, s_put_4 hl, rw1_1, show (0 : Int32).toNatClampNeg = 0 from rfl, pk_un (by omega), pk_un (by omega), pk_un (by omega), pk_un (by omega), s_put_5 hl]
        unfold w_X10_queue
        rw [s_put_0 hl, s_put_3 hl, rw1_1, show (7 : Int32).toNatClampNeg = 7 from rfl, pk_un (by omega), pk_un (by omega), pk_un (by omega), pk_un (by omega), pk_un (by omega), pk_un (by omega), pk_un (by omega), s_put_6 hl]
        rintro _ rfl
        rw [rw1_1, up2_rw1, pk_un (show 7 ≠ 120 + 7 * np + 6 by omega), pk_un (show 7 ≠ 120 + 7 * np + 3 by omega), pk_un (show 7 ≠ 120 + 7 * np + 0 by omega), pk_un (show 7 ≠ 120 + 7 * np + 5 by omega), pk_un (show 7 ≠ 120 + 7 * np + 4 by omega), pk_un (show 7 ≠ 120 + 7 * np + 2 by omega), pk_un (show 7 ≠ 120 + 7 * np + 1 by omega), pk_un (show 7 ≠ 2 by decide), ← hr']
        exact hΦ
      unfold w_X10_doEnter_70
      rw [s_put_1 hl]
      rcases hs with hs | hs
      · rw [hs] at H2 ⊢
        rw [if_pos rfl]
        exact H2
      · rw [hs] at H2 ⊢
        rw [if_neg (by decide)]
        exact H2
    unfold w_X10_doEnter_23
    rw [rw1_1, show (2 : Int32).toNatClampNeg = 2 from rfl, h2, if_neg hne]
    rintro _ rfl
    rw [nI_1, up2_rw1]
    rcases hb with ⟨e1, e2⟩ | ⟨e1, e2⟩
    · rw [if_pos e1]
      rw [e2] at H
      exact H
    · rw [if_neg e1]
      rw [e2] at H
      exact H
theorem dc_enter (a b s : Int32) (hs : isB s) : DoC (fun S => w_X8_comeIn S a b s) (w_X10_doEnter a b s) := by
  intro σ r T ng np nx nl hT h
  obtain ⟨n1, n2, n3, n4⟩ := h.1.n
  have hm := h.mono (show T ≤ T + 400 by omega) hT
  have h6 : σ 0 6 = nI np := h.1.1.2.1.1
  have h2 : r 2 = nI np := h.1.1.2.1.2.1
  rcases arg_n a (show ng < 1073741824 by omega) with ⟨g, hg, rfl⟩ | ha
  · have hN : ∀ (ρ : Mm) (Φ : Int32 → Mm → Prop), w_X10_noGate (nI g) (rw1 ρ r) Φ = Φ 0 (rw1 ρ r) := fun ρ Φ => s_noGate_y h.1.1.1.2.1 hg (by omega)
    have hA : ∀ (S : Nat) (μ : Mm) (Φ : Option Nat → Mm → Prop), w_X8_gateAt S (nI g) (bl S σ μ) Φ = Φ (some (S + 10 + 5 * g)) (bl S σ μ) := fun S μ Φ => d_gateAt_y h.1.1.1.1 hg n1
    have K : ∀ z : Int32, (z = -5 ∨ ∃ x, x < nx ∧ z = nI x) → ((b = -1 ∧ z = -5) ∨ (b ≠ -1 ∧ z = b)) → ∃ (σ' : Mm) (r' : Nat → Int32) (v : Int32) (np' : Nat), Rel σ' r' (T + 400) ng np' nx nl ∧ (∀ (S : Nat) (μ : Mm) (Φ : Int32 → Mm → Prop), Φ v (bl S σ' μ) → w_X8_comeIn_27 Φ S (nI g) b s (S + 10 + 5 * g) (bl S σ μ)) ∧ (∀ (ρ : Mm) (Φ : Int32 → Mm → Prop), Φ v (rw1 ρ r') → w_X10_doEnter_23 Φ (nI g) b s (rw1 ρ r)) := by
      intro z hz hb
      by_cases hl : np = 40
      · refine ⟨σ, r, -3, np, hm, fun S μ Φ hΦ => ?_, fun ρ Φ hΦ => ?_⟩
        · unfold w_X8_comeIn_27
          rw [bl_0, h6, hl, if_neg (by decide)]
          exact hΦ
        · unfold w_X10_doEnter_23
          rw [rw1_1, show (2 : Int32).toNatClampNeg = 2 from rfl, h2, hl, if_pos (by decide)]
          exact hΦ
      · obtain ⟨σ', r', k1, k2, k3⟩ := core_enter h hT (by omega) hg hz hs hb
        exact ⟨σ', r', nI np, np + 1, k1, k2, k3⟩
    by_cases hb : b = -1
    · obtain ⟨σ', r', v, np', k1, k2, k3⟩ := K (-5) (Or.inl rfl) (Or.inl ⟨hb, rfl⟩)
      refine ⟨σ', r', v, np', k1, fun S μ Φ hΦ => ?_, fun ρ Φ hΦ => ?_⟩
      · show w_X8_comeIn S (nI g) b s (bl S σ μ) Φ
        unfold w_X8_comeIn
        rw [hA, opt_some, if_pos hb]
        exact k2 S μ Φ hΦ
      · unfold w_X10_doEnter
        rw [hN, if_pos rfl, if_pos hb]
        exact k3 ρ Φ hΦ
    · rcases arg_n b (show nx < 1073741824 by omega) with ⟨x, hx, hbx⟩ | hb2
      · obtain ⟨σ', r', v, np', k1, k2, k3⟩ := K b (Or.inr ⟨x, hx, hbx⟩) (Or.inr ⟨hb, rfl⟩)
        refine ⟨σ', r', v, np', k1, fun S μ Φ hΦ => ?_, fun ρ Φ hΦ => ?_⟩
        · show w_X8_comeIn S (nI g) b s (bl S σ μ) Φ
          unfold w_X8_comeIn
          have hP := d_passAt_y (S := S) (σ := σ) (μ := μ) (Φ := fun r17 u16 => opt r17 (Φ ((-1 : Int32)) u16) (fun r17 => (w_X8_comeIn_27 Φ S (nI g) b s (S + 10 + 5 * g) u16))) h.1.1.2.2.1.1 hx n3
          rw [← hbx] at hP
          rw [hA, opt_some, if_neg hb, hP, opt_some]
          exact k2 S μ Φ hΦ
        · unfold w_X10_doEnter
          have hP : ∀ (Ψ : Int32 → Mm → Prop), w_X10_noPass b (rw1 ρ r) Ψ = Ψ 0 (rw1 ρ r) := fun Ψ => by
            rw [hbx]
            exact s_noPass_y h.1.1.2.2.1.2.1 hx (by omega)
          rw [hN, if_pos rfl, if_neg hb, hP, if_pos rfl]
          exact k3 ρ Φ hΦ
      · refine ⟨σ, r, -1, np, hm, fun S μ Φ hΦ => ?_, fun ρ Φ hΦ => ?_⟩
        · show w_X8_comeIn S (nI g) b s (bl S σ μ) Φ
          unfold w_X8_comeIn
          rw [hA, opt_some, if_neg hb, d_passAt_n h.1.1.2.2.1.1 hb2, opt_none]
          exact hΦ
        · unfold w_X10_doEnter
          rw [hN, if_pos rfl, if_neg hb, s_noPass_n h.1.1.2.2.1.2.1 hb2 (by omega), if_neg (by decide)]
          exact hΦ
  · refine ⟨σ, r, -1, np, hm, fun S μ Φ hΦ => ?_, fun ρ Φ hΦ => ?_⟩
    · show w_X8_comeIn S a b s (bl S σ μ) Φ
      unfold w_X8_comeIn
      rw [d_gateAt_n h.1.1.1.1 ha, opt_none]
      exact hΦ
    · unfold w_X10_doEnter
      rw [s_noGate_n h.1.1.1.2.1 ha (by omega), if_neg (by decide)]
      exact hΦ
theorem do_enter (a b s : Int32) (hs : isB s) : DoOp (fun S => w_X8_comeIn S a b s) (w_X10_enter a b s) := (dc_enter a b s hs).op (fun ρ Φ h => by
  unfold w_X10_enter
  exact h)
theorem op_enter : Op_enter Sim := fun n μ ρ hn hS a b s hs => op_wrap (do_enter a b s hs) hn hS
end ENTER
