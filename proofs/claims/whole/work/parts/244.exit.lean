/-! who goes out -/
section EXIT
variable {σ : Mm} {r : Nat → Int32} {T ng np nx nl g p : Nat} {μ ρ : Mm} {n : Nat}
theorem KQp_of (h : KQ σ r ng np) (hp : ∀ e, e < 2 → σ (50 + p) 2 ≠ nI (1 + 3 * e)) : KQp σ r ng np p := by
  intro g e hg he
  obtain ⟨n, a, b1, b2, b3, b4, b5⟩ := h g e hg he
  exact ⟨n, a, b1, b2, fun i hi => ⟨(b3 i hi).1, (b3 i hi).2.1, fun q => hp e he (by rw [← q]; exact (b3 i hi).2.2.2), (b3 i hi).2.2.1, (b3 i hi).2.2.2⟩, b4, fun q hq _ => b5 q hq⟩
set_option maxHeartbeats 4000000 in
theorem sim_exit (h : Rel σ r T ng np nx nl) (hT : T + 1 < 1073741824) (hg : g < ng) (hp : p < np) (e2 : σ (50 + p) 2 = nI 3) : ∃ k, k < 40 ∧ σ (11 + 5 * g + 2 * 1) 1 = nI k ∧ Rel (up2 (up2 (up2 (up2 (up2 (up2 σ (50 + p) 3 (nI g)) (50 + p) 2 (4)) (50 + p) 5 (σ 0 9)) (50 + p) 6 (1)) (11 + 5 * g + 2 * 1 + 1) k (nI p)) (11 + 5 * g + 2 * 1) 1 (nI (k + 1))) (upd (upd (upd (upd (upd r (120 + 7 * p + 5) (r 0)) (120 + 7 * p + 0) (4)) (120 + 7 * p + 3) (nI g)) (120 + 7 * p + 6) (r 7)) (7) (r 7 + 1)) (T + 1) ng np nx nl := by
  obtain ⟨n1, n2, n3, n4⟩ := h.1.n
  have hkp := KQp_of (p := p) h.2.2.2.2.1 (fun e he q => by
    rw [e2] at q
    have := nI_inj (by omega) (by omega) q
    omega)
  obtain ⟨k, hk1, hk2⟩ := KQp_len (e := 1) hkp hp hg (by decide)
  refine ⟨k, by omega, hk1, ?_⟩
  obtain ⟨σ', hS⟩ : ∃ σ' : Mm, σ' = (up2 (up2 (up2 (up2 (up2 (up2 σ (50 + p) 3 (nI g)) (50 + p) 2 (4)) (50 + p) 5 (σ 0 9)) (50 + p) 6 (1)) (11 + 5 * g + 2 * 1 + 1) k (nI p)) (11 + 5 * g + 2 * 1) 1 (nI (k + 1))) := ⟨_, rfl⟩
  obtain ⟨r', hR⟩ : ∃ r' : Nat → Int32, r' = (upd (upd (upd (upd (upd r (120 + 7 * p + 5) (r 0)) (120 + 7 * p + 0) (4)) (120 + 7 * p + 3) (nI g)) (120 + 7 * p + 6) (r 7)) (7) (r 7 + 1)) := ⟨_, rfl⟩
  have o : ∀ q j, (¬ (q = 50 + p ∧ j = 3) ∧ ¬ (q = 50 + p ∧ j = 2) ∧ ¬ (q = 50 + p ∧ j = 5) ∧ ¬ (q = 50 + p ∧ j = 6) ∧ ¬ (q = 11 + 5 * g + 2 * 1 + 1 ∧ j = k) ∧ ¬ (q = 11 + 5 * g + 2 * 1 ∧ j = 1)) → σ' q j = σ q j := by
    intro q j hqj
    rw [hS, up2_n (by omega), up2_n (by omega), up2_n (by omega), up2_n (by omega), up2_n (by omega), up2_n (by omega)]
  have ro : ∀ i, (i ≠ 120 + 7 * p + 5 ∧ i ≠ 120 + 7 * p + 0 ∧ i ≠ 120 + 7 * p + 3 ∧ i ≠ 120 + 7 * p + 6 ∧ i ≠ 7) → r' i = r i := by
    intro i hi
    rw [hR, pk_un (by omega), pk_un (by omega), pk_un (by omega), pk_un (by omega), pk_un (by omega)]
  have v0 : σ' (50 + p) 3 = nI g := by
    rw [hS, up2_n (by omega), up2_n (by omega), up2_n (by omega), up2_n (by omega), up2_n (by omega), up2_s]
  have v1 : σ' (50 + p) 2 = 4 := by
    rw [hS, up2_n (by omega), up2_n (by omega), up2_n (by omega), up2_n (by omega), up2_s]
  have v2 : σ' (50 + p) 5 = σ 0 9 := by
    rw [hS, up2_n (by omega), up2_n (by omega), up2_n (by omega), up2_s]
  have v3 : σ' (50 + p) 6 = 1 := by
    rw [hS, up2_n (by omega), up2_n (by omega), up2_s]
  have v4 : σ' (11 + 5 * g + 2 * 1 + 1) k = nI p := by
    rw [hS, up2_n (by omega), up2_s]
  have v5 : σ' (11 + 5 * g + 2 * 1) 1 = nI (k + 1) := by
    rw [hS, up2_s]
  have w0 : r' (120 + 7 * p + 5) = r 0 := by
    rw [hR, pk_un (by omega), pk_un (by omega), pk_un (by omega), pk_un (by omega), pk_us]
  have w1 : r' (120 + 7 * p + 0) = 4 := by
    rw [hR, pk_un (by omega), pk_un (by omega), pk_un (by omega), pk_us]
  have w2 : r' (120 + 7 * p + 3) = nI g := by
    rw [hR, pk_un (by omega), pk_un (by omega), pk_us]
  have w3 : r' (120 + 7 * p + 6) = r 7 := by
    rw [hR, pk_un (by omega), pk_us]
  have w4 : r' (7) = r 7 + 1 := by
    rw [hR, pk_us]
  rw [← hS, ← hR]
  obtain ⟨hC, hVG, hVP, hVX, hRQ, hRN, hRU⟩ := h
  have htime := hC.time
  obtain ⟨a, b, c, d, e, kk⟩ := hC
  obtain ⟨a1, a2, a3, a4, a5, ⟨t, t1, t2, t3⟩, ⟨m, m1, m2⟩, a8⟩ := a
  have m7 : r 7 < r 7 + 1 := by rw [m2, nI_1]; exact nI_lt (by omega) (by omega)
  refine ⟨⟨?_, fun g' f hg' hf => ?_, fun q f hq hf => ?_, fun x f hx hf => ?_, fun x f hx hf => ?_, ?_⟩, fun g' hg' => ?_, fun q hq => ?_, fun x hx => VX_keep (fun f _ => o _ _ (by omega)) (hVX x hx), ?_, fun q hq hw => ?_, ?_⟩
  · refine ⟨?_, ?_, ?_, ?_, ?_, ⟨t, by omega, ?_, ?_⟩, ⟨m + 1, by omega, ?_⟩, hT⟩
    · rw [o _ _ (by omega), ro _ (by omega)]; exact a1
    · rw [o _ _ (by omega), ro _ (by omega)]; exact a2
    · rw [o _ _ (by omega), ro _ (by omega)]; exact a3
    · rw [o _ _ (by omega), ro _ (by omega)]; exact a4
    · rw [o _ _ (by omega), ro _ (by omega)]; exact a5
    · rw [o _ _ (by omega)]; exact t2
    · rw [ro _ (by omega)]; exact t3
    · rw [w4, m2, nI_1]
  · have := gm_lt hf
    rw [o _ _ (by omega), ro _ (by omega)]; exact b g' f hg' hf
  · by_cases hqp : q = p
    · rw [hqp]
      rcases (show f = 0 ∨ f = 1 ∨ f = 2 ∨ f = 3 ∨ f = 4 ∨ f = 5 by omega) with rfl | rfl | rfl | rfl | rfl | rfl
      · exact (o _ _ (by omega)).trans ((c p 0 hp (by decide)).trans (ro (120 + 7 * p + 1) (by omega)).symm)
      · exact (o _ _ (by omega)).trans ((c p 1 hp (by decide)).trans (ro (120 + 7 * p + 2) (by omega)).symm)
      · exact v1.trans w1.symm
      · exact v0.trans w2.symm
      · exact (o _ _ (by omega)).trans ((c p 4 hp (by decide)).trans (ro (120 + 7 * p + 4) (by omega)).symm)
      · exact v2.trans (htime.symm.trans w0.symm)
    · have := pm_lt hf
      rw [o _ _ (by omega), ro _ (by omega)]; exact c q f hq hf
  · rw [o _ _ (by omega), ro _ (by omega)]; exact d x f hx hf
  · have := lm_lt hf
    rw [o _ _ (by omega), ro _ (by omega)]; exact e x f hx hf
  · obtain ⟨n, l, h1, h2, h3, h4, h5, h6⟩ := kk
    exact ⟨n, l, h1, h2, by rw [o _ _ (by omega)]; exact h3, by rw [o _ _ (by omega)]; exact h4, by rw [ro _ (by omega)]; exact h5, fun k j hk hj => by
      rw [o _ _ (by omega), ro _ (by omega)]
      exact h6 k j hk hj⟩
  · obtain ⟨d', st, h1, h2, h3, h4, h5, h6⟩ := hVG g' hg'
    refine ⟨d', st, h1, by rw [o _ _ (by omega)]; exact h2, h3, by rw [o _ _ (by omega)]; exact h4, by rw [o _ _ (by omega)]; exact h5, ?_⟩
    rcases h6 with ⟨x, y⟩ | ⟨x, q, o', b1, b2, b3, b4, b5, b6, b7⟩
    · exact Or.inl ⟨x, by rw [o _ _ (by omega)]; exact y⟩
    · have hqp : q ≠ p := fun e' => by
        rw [e', e2] at b5
        exact absurd b5 (by decide)
      exact Or.inr ⟨x, q, o', b1, b2, by rw [o _ _ (by omega)]; exact b3, by rw [o _ _ (by omega)]; exact b4, by rw [o _ _ (by omega)]; exact b5, by rw [o _ _ (by omega)]; exact b6, by rw [ro _ (by omega), o _ _ (by omega)]; exact b7⟩
  · by_cases hqp : q = p
    · rw [hqp]
      obtain ⟨w, x1, x2, x3, x4, x5, x6, x7, x8⟩ := hVP p hp
      have hw : w = 3 := nI_inj (by omega) (by omega) (x2.symm.trans e2)
      exact ⟨4, by decide, v1, ⟨by rw [o _ _ (by omega)]; exact x3.1, by rw [v3]; exact Or.inr rfl⟩, by rw [o _ _ (by omega)]; exact x4, fun h => by omega, fun _ => v3, fun _ => ⟨t, by omega, v2.trans t2⟩, fun _ => by rw [o _ _ (by omega)]; exact x8 (by omega)⟩
    · exact VP_mono (by omega) (VP_keep (fun f => o _ _ (by omega)) (hVP q hq))
  · refine KQ_add (n := k) (e := 1) n1 n2 hkp hp hg (by decide) hk1 (by omega) (fun q hq hne hw => ?_) (fun q j h1 h2 h3 h4 h5 => ?_) v5 ?_ (fun q hq hne => ⟨o _ _ (by omega), o _ _ (by omega)⟩) v0 v1 (fun q hq hne => ro _ (by omega))
    · rw [w3]
      exact (hRN q hq (Or.inr hw)).1
    · have h6 := h3 g
      exact o _ _ (by omega)
    · rw [show 12 + 5 * g + 2 * 1 = 11 + 5 * g + 2 * 1 + 1 by omega]
      exact v4
  · by_cases hqp : q = p
    · rw [hqp]
      exact ⟨by rw [w3, w4]; exact m7, g, by omega, w2, by rw [ro 1 (by omega), a1.2.1]; exact nI_lt hg (by omega)⟩
    · rw [o _ _ (by omega)] at hw
      obtain ⟨y1, y2⟩ := hRN q hq hw
      refine ⟨by rw [ro _ (by omega), w4]; exact lt_tr y1 m7, ?_⟩
      rw [ro _ (by omega), ro 1 (by omega)]
      exact y2
  · exact KU_keep (fun q hq => o _ _ (by omega)) (fun q hq => by
      by_cases hqp : q = p
      · rw [hqp, inB_4 v1, inB_3 e2]
      · exact inB_keep (o _ _ (by omega))) (fun x => by
      funext j
      exact o _ _ (by omega)) (fun k hk => ⟨o _ _ (by omega), o _ _ (by omega)⟩) hRU
/-- what an order does to the row, on both sides -/
def DoC (wc : Nat → Mm → (Int32 → Mm → Prop) → Prop) (wr : Mm → (Int32 → Mm → Prop) → Prop) : Prop := ∀ (σ : Mm) (r : Nat → Int32) (T ng np nx nl : Nat), T + 400 < 1073741824 → Rel σ r T ng np nx nl → ∃ (σ' : Mm) (r' : Nat → Int32) (v : Int32) (np' : Nat), Rel σ' r' (T + 400) ng np' nx nl ∧ (∀ (S : Nat) (μ : Mm) (Φ : Int32 → Mm → Prop), Φ v (bl S σ' μ) → wc S (bl S σ μ) Φ) ∧ (∀ (ρ : Mm) (Φ : Int32 → Mm → Prop), Φ v (rw1 ρ r') → wr (rw1 ρ r) Φ)
theorem DoC.op {wc : Nat → Mm → (Int32 → Mm → Prop) → Prop} {wr w : Mm → (Int32 → Mm → Prop) → Prop} (H : DoC wc wr) (hw : ∀ (ρ : Mm) (Φ : Int32 → Mm → Prop), w_X10_begin ρ (fun _ u1 => wr u1 (fun r4 u3 => w_X10_done r4 u3 (fun r6 u5 => Φ r6 u5))) → w ρ Φ) : DoOp wc w := by
  intro σ r T ng np nx nl hT h
  obtain ⟨σ', r', v, np', h1, h2, h3⟩ := H σ r T ng np nx nl (by omega) h
  refine ⟨σ', r', v, ng, np', nx, nl, h1.mono (by omega) hT, h2, Or.inr (fun ρ ρ1 Φ hb hd => ?_)⟩
  refine hw _ _ (hb _ ?_)
  exact h3 ρ1 _ hd
theorem dc_exit (a b : Int32) : DoC (fun S => w_X8_goOut S a b) (w_X10_doExit a b) := by
  intro σ r T ng np nx nl hT h
  obtain ⟨n1, n2, n3, n4⟩ := h.1.n
  have hm := h.mono (show T ≤ T + 400 by omega) hT
  have h2 : r 2 = nI np := h.1.1.2.1.2.1
  rcases arg_n a (show ng < 1073741824 by omega) with ⟨g, hg, rfl⟩ | ha
  · rcases arg_n b (show np < 1073741824 by omega) with ⟨p, hp, rfl⟩ | hb
    · have hp40 : p < 40 := by omega
      have hpb : 50 + p < 106 := by omega
      have hqb : 11 + 5 * g + 2 * 1 < 106 := by omega
      have e0 : r (120 + 7 * p + 0) = σ (50 + p) 2 := (h.1.2.2.1 p 2 hp (by decide)).symm
      have A : ∀ (S : Nat) (μ : Mm) (Φ : Int32 → Mm → Prop), w_X8_goOut S (nI g) (nI p) (bl S σ μ) Φ = (if σ (50 + p) 2 = (3 : Int32) then w_X5_waitAt (S + (50 + p)) (nI g) 4 (σ 0 9) (bl S σ μ) (fun _ u11 => w_X7_append (S + (11 + 5 * g + 2 * 1)) (nI p) u11 (fun _ u13 => Φ (u13 (S + (11 + 5 * g + 2 * 1)) 1) u13)) else Φ (-4) (bl S σ μ)) := by
        intro S μ Φ
        unfold w_X8_goOut
        rw [d_gateAt_y h.1.1.1.1 hg n1, opt_some, d_personAt_y h.1.1.2.1.1 hp n2, opt_some, bl_P hp40, bl_0, show S + 10 + 5 * g + 3 = S + (11 + 5 * g + 2 * 1) by omega, Nat.add_assoc S 50 p]
      by_cases e2 : σ (50 + p) 2 = (3 : Int32)
      · obtain ⟨k, hk, hl, hR⟩ := sim_exit h (by omega) hg hp (e2.trans (by decide))
        have hl' : (up2 (up2 (up2 (up2 σ (50 + p) 3 (nI g)) (50 + p) 2 (4)) (50 + p) 5 (σ 0 9)) (50 + p) 6 (1)) (11 + 5 * g + 2 * 1) 1 = nI k := by
          rw [up2_n (by omega), up2_n (by omega), up2_n (by omega), up2_n (by omega)]
          exact hl
        obtain ⟨σ', hS⟩ : ∃ σ' : Mm, σ' = (up2 (up2 (up2 (up2 (up2 (up2 σ (50 + p) 3 (nI g)) (50 + p) 2 (4)) (50 + p) 5 (σ 0 9)) (50 + p) 6 (1)) (11 + 5 * g + 2 * 1 + 1) k (nI p)) (11 + 5 * g + 2 * 1) 1 (nI (k + 1))) := ⟨_, rfl⟩
        obtain ⟨r', hr'⟩ : ∃ r' : Nat → Int32, r' = (upd (upd (upd (upd (upd r (120 + 7 * p + 5) (r 0)) (120 + 7 * p + 0) (4)) (120 + 7 * p + 3) (nI g)) (120 + 7 * p + 6) (r 7)) (7) (r 7 + 1)) := ⟨_, rfl⟩
        rw [← hS, ← hr'] at hR
        refine ⟨σ', r', nI (k + 1), np, hR.mono (by omega) hT, fun S μ Φ hΦ => ?_, fun ρ Φ hΦ => ?_⟩
        · show w_X8_goOut S (nI g) (nI p) (bl S σ μ) Φ
          rw [A, if_pos e2]
          unfold w_X5_waitAt
          rintro _ rfl _ rfl _ rfl
          rw [if_pos rfl]
          rintro _ rfl
          rw [up2_bl hpb, up2_bl hpb, up2_bl hpb, up2_bl hpb]
          show w_X7_append (S + (11 + 5 * g + 2 * 1)) (nI p) _ _
          rw [d_append (by omega) hl' hk]
          show Φ (bl S _ μ (S + (11 + 5 * g + 2 * 1)) 1) _
          rw [bl_at hqb, up2_s, ← hS]
          exact hΦ
        · unfold w_X10_doExit
          rw [s_noGate_y h.1.1.1.2.1 hg (by omega), if_pos rfl, s_noPerson_y h2 hp (by omega), if_pos rfl, s_of_0 hp40, e0, if_pos e2, rw1_1, show (0 : Int32).toNatClampNeg = 0 from rfl, s_put_5 hp40]
          unfold w_X10_queue
          rw [s_put_0 hp40, s_put_3 hp40, rw1_1, show (7 : Int32).toNatClampNeg = 7 from rfl, pk_un (by omega), pk_un (by omega), pk_un (by omega), s_put_6 hp40]
          rintro _ rfl
          rw [rw1_1, up2_rw1, pk_un (show 7 ≠ 120 + 7 * p + 6 by omega), pk_un (show 7 ≠ 120 + 7 * p + 3 by omega), pk_un (show 7 ≠ 120 + 7 * p + 0 by omega), pk_un (show 7 ≠ 120 + 7 * p + 5 by omega), ← hr']
          show w_X10_queueLength (nI g) 1 (rw1 ρ r') _
          obtain ⟨m, am, b1, b2, b3, b4, b5, b6, -⟩ := q_facts (g := g) (e := 1) (ea := 1) hR.1 (by decide) (by decide) (hR.2.2.2.2.1 g 1 hg (by decide))
          have hmk : m = k + 1 := nI_inj (by omega) (by omega) (by rw [← b2, hS, up2_s])
          rw [s_queueLength hR.1.1.2.1.2.1 n2, b6, hmk]
          exact hΦ
      · refine ⟨σ, r, -4, np, hm, fun S μ Φ hΦ => ?_, fun ρ Φ hΦ => ?_⟩
        · show w_X8_goOut S (nI g) (nI p) (bl S σ μ) Φ
          rw [A, if_neg e2]
          exact hΦ
        · unfold w_X10_doExit
          rw [s_noGate_y h.1.1.1.2.1 hg (by omega), if_pos rfl, s_noPerson_y h2 hp (by omega), if_pos rfl, s_of_0 hp40, e0, if_neg e2]
          exact hΦ
    · refine ⟨σ, r, -1, np, hm, fun S μ Φ hΦ => ?_, fun ρ Φ hΦ => ?_⟩
      · show w_X8_goOut S (nI g) b (bl S σ μ) Φ
        unfold w_X8_goOut
        rw [d_gateAt_y h.1.1.1.1 hg n1, opt_some, d_personAt_n h.1.1.2.1.1 hb, opt_none]
        exact hΦ
      · unfold w_X10_doExit
        rw [s_noGate_y h.1.1.1.2.1 hg (by omega), if_pos rfl, s_noPerson_n h2 hb (by omega), if_neg (by decide)]
        exact hΦ
  · refine ⟨σ, r, -1, np, hm, fun S μ Φ hΦ => ?_, fun ρ Φ hΦ => ?_⟩
    · show w_X8_goOut S a b (bl S σ μ) Φ
      unfold w_X8_goOut
      rw [d_gateAt_n h.1.1.1.1 ha, opt_none]
      rcases arg_n b (show np < 1073741824 by omega) with ⟨p, hp, rfl⟩ | hb
      · rw [d_personAt_y h.1.1.2.1.1 hp n2, opt_some]
        exact hΦ
      · rw [d_personAt_n h.1.1.2.1.1 hb, opt_none]
        exact hΦ
    · unfold w_X10_doExit
      rw [s_noGate_n h.1.1.1.2.1 ha (by omega), if_neg (by decide)]
      exact hΦ
theorem do_exit (a b : Int32) : DoOp (fun S => w_X8_goOut S a b) (w_X10_exit a b) := (dc_exit a b).op (fun ρ Φ h => by
  unfold w_X10_exit
  exact h)
theorem op_exit : Op_exit Sim := fun n μ ρ hn hS a b => op_wrap (do_exit a b) hn hS
end EXIT
