/-! calls that touch one number -/
section OPS1
variable {σ : Mm} {r : Nat → Int32} {T ng np nx nl g : Nat}
theorem c_between {lo a hi : Int32} {u : Mm} {Φ : Int32 → Mm → Prop} : w_X9_isBetween lo a hi u Φ = Φ (if a < lo then 0 else if hi < a then 0 else 1) u := by
  unfold w_X9_isBetween
  split
  · rfl
  · split <;> rfl
theorem btw (a lo hi : Int32) : ((if a < lo then (0 : Int32) else if hi < a then 0 else 1) = 0) ∨ ((if a < lo then (0 : Int32) else if hi < a then 0 else 1) = 1 ∧ ¬ a < lo ∧ ¬ hi < a) := by
  by_cases h1 : a < lo
  · exact Or.inl (if_pos h1)
  · by_cases h2 : hi < a
    · exact Or.inl (by rw [if_neg h1, if_pos h2])
    · exact Or.inr ⟨by rw [if_neg h1, if_neg h2], h1, h2⟩
theorem arg_n (a : Int32) {n : Nat} (hn : n < 1073741824) : (∃ k, k < n ∧ a = nI k) ∨ (a < 0 ∨ nI n ≤ a) := by
  by_cases h0 : a < 0
  · exact Or.inr (Or.inl h0)
  · obtain ⟨j, hj, e⟩ := nI_of h0
    by_cases hjn : j < n
    · exact Or.inl ⟨j, hjn, e⟩
    · exact Or.inr (Or.inr (by rw [e]; exact nI_le (by omega) (by omega)))
theorem do_pass (a : Int32) : DoOp (fun S => w_X8_letTicksGo S a) (w_X10_pass a) := by
  intro σ r T ng np nx nl hT h
  rcases btw a 1 200 with e | ⟨e, h1, h2⟩
  · refine ⟨σ, r, -2, ng, np, nx, nl, h.mono (by omega) hT, fun S μ Φ hΦ => ?_, Or.inr (fun ρ ρ1 Φ hb hd => ?_)⟩
    · show w_X8_letTicksGo S a (bl S σ μ) Φ
      unfold w_X8_letTicksGo
      rw [c_between, e, if_pos rfl]
      exact hΦ
    · unfold w_X10_pass
      refine hb _ ?_
      show w_X10_doPass a (rw1 ρ1 r) _
      unfold w_X10_doPass
      rw [s_in, e, if_pos rfl]
      exact hd
  · obtain ⟨k, hk, rfl⟩ := nI_of2 (x := a) (M := 200) (n := 200) (by decide) (fun h => h1 (Int32.lt_trans h (by decide))) (Int32.not_lt.mp h2)
    obtain ⟨σ', r', v, t1, t2, t3, t4⟩ := ticks_loop (a := k) (by omega) k 0 (by omega) (by omega) h
    refine ⟨σ', r', v, ng, np, nx, nl, t1.mono (by omega) hT, fun S μ Φ hΦ => ?_, Or.inr (fun ρ ρ1 Φ hb hd => ?_)⟩
    · show w_X8_letTicksGo S (nI k) (bl S σ μ) Φ
      unfold w_X8_letTicksGo
      rw [c_between, e, if_neg (by decide)]
      exact t2 S μ Φ 0 (by rw [Int32.zero_add]; exact hΦ)
    · unfold w_X10_pass
      refine hb _ ?_
      show w_X10_doPass (nI k) (rw1 ρ1 r) _
      unfold w_X10_doPass
      rw [s_in, e, if_neg (by decide), s_passed h.1.1.1.2.1 h.1.n.1]
      refine t3 ρ1 _ _ ?_
      show w_X10_done (tot r' ng - tot r ng) (rw1 ρ1 r') _
      rw [t4, Int32.add_comm, Int32.add_sub_cancel]
      exact hd
theorem op_pass : Op_pass Sim := fun n μ ρ hn hS a => op_wrap (do_pass a) hn hS
theorem VG_told {v : Int32} (h : VG σ r np g) (hB : isB v) : VG (up2 σ (10 + 5 * g) 9 v) (upd r (8 + 14 * g + 9) v) np g := by
  obtain ⟨d, st, h1, h2, h3, h4, h5, h6⟩ := h
  have o : ∀ q j, ¬ (q = 10 + 5 * g ∧ j = 9) → up2 σ (10 + 5 * g) 9 v q j = σ q j := fun q j hq => up2_n (by omega)
  refine ⟨d, st, h1, by rw [o _ _ (by omega)]; exact h2, h3, by rw [o _ _ (by omega)]; exact h4, by rw [up2_s]; exact hB, ?_⟩
  rcases h6 with ⟨a, b⟩ | ⟨a, q, o', b1, b2, b3, b4, b5, b6, b7⟩
  · exact Or.inl ⟨a, by rw [o _ _ (by omega)]; exact b⟩
  · exact Or.inr ⟨a, q, o', b1, b2, by rw [o _ _ (by omega)]; exact b3, by rw [o _ _ (by omega)]; exact b4, by rw [o _ _ (by omega)]; exact b5, by rw [o _ _ (by omega)]; exact b6, by rw [pk_un (by omega), o _ _ (by omega)]; exact b7⟩
theorem VG_dir {k : Nat} (h : VG σ r np g) (hg : g < 8) (hk : k ≤ 2) : VG (up2 σ (10 + 5 * g) 2 (nI k)) (upd r (8 + 14 * g + 0) (nI k)) np g := by
  obtain ⟨d, st, h1, h2, h3, h4, h5, h6⟩ := h
  have o : ∀ q j, ¬ (q = 10 + 5 * g ∧ j = 2) → up2 σ (10 + 5 * g) 2 (nI k) q j = σ q j := fun q j hq => up2_n (by omega)
  refine ⟨k, st, hk, up2_s _ _ _ _, h3, by rw [o _ _ (by omega)]; exact h4, by rw [o _ _ (by omega)]; exact h5, ?_⟩
  rcases h6 with ⟨a, b⟩ | ⟨a, q, o', b1, b2, b3, b4, b5, b6, b7⟩
  · exact Or.inl ⟨a, by rw [o _ _ (by omega)]; exact b⟩
  · exact Or.inr ⟨a, q, o', b1, b2, by rw [o _ _ (by omega)]; exact b3, by rw [o _ _ (by omega)]; exact b4, by rw [o _ _ (by omega)]; exact b5, by rw [o _ _ (by omega)]; exact b6, by rw [pk_un (by omega), o _ _ (by omega)]; exact b7⟩
theorem do_pinch (a : Int32) : DoOp (fun S => w_X8_tellPinch S a) (w_X10_pinch a) := by
  intro σ r T ng np nx nl hT h
  obtain ⟨n1, n2, n3, n4⟩ := h.1.n
  have hm := h.mono (show T ≤ T + 20000 by omega) hT
  rcases arg_n a (show ng < 1073741824 by omega) with ⟨g, hg, rfl⟩ | ha
  · have hg8 : g < 8 := by omega
    have hV := h.2.1 g hg
    obtain ⟨d, st, g1, g2, g3, g4, g5, g6⟩ := hV
    have es4 : r (8 + 14 * g + 4) = nI st := by rw [← g4]; exact (h.1.2.1 g 4 hg (by decide)).symm
    have es9 : r (8 + 14 * g + 9) = σ (10 + 5 * g) 9 := (h.1.2.1 g 7 hg (by decide)).symm
    by_cases h5 : nI st = 5
    · refine ⟨σ, r, -4, ng, np, nx, nl, hm, fun S μ Φ hΦ => ?_, Or.inr (fun ρ ρ1 Φ hb hd => ?_)⟩
      · show w_X8_tellPinch S (nI g) (bl S σ μ) Φ
        unfold w_X8_tellPinch
        rw [d_gateAt_y h.1.1.1.1 hg n1, opt_some, bl_G hg8, g4, if_pos h5]
        exact hΦ
      · unfold w_X10_pinch
        refine hb _ ?_
        show w_X10_doPinch (nI g) (rw1 ρ1 r) _
        unfold w_X10_doPinch
        rw [s_noGate_y h.1.1.1.2.1 hg (by omega), if_pos rfl, s_gateOf_4 hg8, es4, if_pos h5]
        exact hd
    · rcases g5 with g5 | g5
      · have hR : Rel (up2 σ (10 + 5 * g) 9 1) (upd r (8 + 14 * g + 9) 1) (T + 20000) ng np nx nl := ((hm.x g).gate (v := 1) hg (f := 7) (by decide)).all (VG_told (hm.2.1 g hg) (Or.inr rfl))
        obtain ⟨v, hv⟩ : ∃ v : Int32, v = (if nI st = 3 then 1 else 0) := ⟨_, rfl⟩
        refine ⟨_, _, v, ng, np, nx, nl, hR, fun S μ Φ hΦ => ?_, Or.inr (fun ρ ρ1 Φ hb hd => ?_)⟩
        · show w_X8_tellPinch S (nI g) (bl S σ μ) Φ
          unfold w_X8_tellPinch
          rw [d_gateAt_y h.1.1.1.1 hg n1, opt_some, bl_G hg8, g4, if_neg h5, g5, if_pos rfl]
          rintro _ rfl
          rw [up2_G hg8, bl_G hg8, up2_n (Or.inr (by decide)), g4]
          by_cases h3 : nI st = 3
          · rw [if_pos h3]
            rw [hv, if_pos h3] at hΦ
            exact hΦ
          · rw [if_neg h3]
            rw [hv, if_neg h3] at hΦ
            exact hΦ
        · unfold w_X10_pinch
          refine hb _ ?_
          show w_X10_doPinch (nI g) (rw1 ρ1 r) _
          unfold w_X10_doPinch
          rw [s_noGate_y h.1.1.1.2.1 hg (by omega), if_pos rfl, s_gateOf_4 hg8, es4, if_neg h5, s_gateOf_9 hg8, es9, g5, if_neg (by decide), s_putGate_9 hg8, s_gateOf_4 hg8, pk_un (by omega), es4]
          by_cases h3 : nI st = 3
          · rw [if_pos h3]
            rw [hv, if_pos h3] at hd
            exact hd
          · rw [if_neg h3]
            rw [hv, if_neg h3] at hd
            exact hd
      · refine ⟨σ, r, -5, ng, np, nx, nl, hm, fun S μ Φ hΦ => ?_, Or.inr (fun ρ ρ1 Φ hb hd => ?_)⟩
        · show w_X8_tellPinch S (nI g) (bl S σ μ) Φ
          unfold w_X8_tellPinch
          rw [d_gateAt_y h.1.1.1.1 hg n1, opt_some, bl_G hg8, g4, if_neg h5, g5, if_neg (by decide)]
          exact hΦ
        · unfold w_X10_pinch
          refine hb _ ?_
          show w_X10_doPinch (nI g) (rw1 ρ1 r) _
          unfold w_X10_doPinch
          rw [s_noGate_y h.1.1.1.2.1 hg (by omega), if_pos rfl, s_gateOf_4 hg8, es4, if_neg h5, s_gateOf_9 hg8, es9, g5, if_pos rfl]
          exact hd
  · refine ⟨σ, r, -1, ng, np, nx, nl, hm, fun S μ Φ hΦ => ?_, Or.inr (fun ρ ρ1 Φ hb hd => ?_)⟩
    · show w_X8_tellPinch S a (bl S σ μ) Φ
      unfold w_X8_tellPinch
      rw [d_gateAt_n h.1.1.1.1 ha, opt_none]
      exact hΦ
    · unfold w_X10_pinch
      refine hb _ ?_
      show w_X10_doPinch a (rw1 ρ1 r) _
      unfold w_X10_doPinch
      rw [s_noGate_n h.1.1.1.2.1 ha (by omega), if_neg (by decide)]
      exact hd
theorem op_pinch : Op_pinch Sim := fun n μ ρ hn hS a => op_wrap (do_pinch a) hn hS
theorem do_setDirection (a b : Int32) : DoOp (fun S => w_X8_turnGate S a b) (w_X10_setDirection a b) := by
  intro σ r T ng np nx nl hT h
  obtain ⟨n1, n2, n3, n4⟩ := h.1.n
  have hm := h.mono (show T ≤ T + 20000 by omega) hT
  rcases arg_n a (show ng < 1073741824 by omega) with ⟨g, hg, rfl⟩ | ha
  · have hg8 : g < 8 := by omega
    have es0 : r (8 + 14 * g + 0) = σ (10 + 5 * g) 2 := (h.1.2.1 g 0 hg (by decide)).symm
    rcases btw b 0 2 with e | ⟨e, h1, h2⟩
    · refine ⟨σ, r, -2, ng, np, nx, nl, hm, fun S μ Φ hΦ => ?_, Or.inl ⟨by decide, fun ρ Φ hd => ?_⟩⟩
      · show w_X8_turnGate S (nI g) b (bl S σ μ) Φ
        unfold w_X8_turnGate
        rw [d_gateAt_y h.1.1.1.1 hg n1, opt_some, c_between, e, if_pos rfl]
        exact hΦ
      · unfold w_X10_setDirection
        rw [s_noGate_y h.1.1.1.2.1 hg (by omega), if_pos rfl, s_in, e, if_pos rfl]
        exact hd
    · obtain ⟨k, hk, rfl⟩ := nI_of2 (x := b) (M := 2) (n := 2) (by decide) h1 (Int32.not_lt.mp h2)
      have hR : Rel (up2 σ (10 + 5 * g) 2 (nI k)) (upd r (8 + 14 * g + 0) (nI k)) (T + 20000) ng np nx nl := ((hm.x g).gate (v := nI k) hg (f := 0) (by decide)).all (VG_dir (hm.2.1 g hg) hg8 hk)
      refine ⟨_, _, σ (10 + 5 * g) 2, ng, np, nx, nl, hR, fun S μ Φ hΦ => ?_, Or.inr (fun ρ ρ1 Φ hb hd => ?_)⟩
      · show w_X8_turnGate S (nI g) (nI k) (bl S σ μ) Φ
        unfold w_X8_turnGate
        rw [d_gateAt_y h.1.1.1.1 hg n1, opt_some, c_between, e, if_neg (by decide)]
        rintro _ rfl
        rw [up2_G hg8, bl_G hg8]
        exact hΦ
      · unfold w_X10_setDirection
        rw [s_noGate_y h.1.1.1.2.1 hg (by omega), if_pos rfl, s_in, e, if_neg (by decide)]
        refine hb _ ?_
        show w_X10_gateOf (nI g) 0 (rw1 ρ1 r) _
        rw [s_gateOf_0 hg8, es0, s_putGate_0 hg8]
        exact hd
  · refine ⟨σ, r, -1, ng, np, nx, nl, hm, fun S μ Φ hΦ => ?_, Or.inl ⟨by decide, fun ρ Φ hd => ?_⟩⟩
    · show w_X8_turnGate S a b (bl S σ μ) Φ
      unfold w_X8_turnGate
      rw [d_gateAt_n h.1.1.1.1 ha, opt_none]
      exact hΦ
    · unfold w_X10_setDirection
      rw [s_noGate_n h.1.1.1.2.1 ha (by omega), if_neg (by decide)]
      exact hd
theorem op_setDirection : Op_setDirection Sim := fun n μ ρ hn hS a b => op_wrap (do_setDirection a b) hn hS
theorem Core.fare {v : Int32} (h : Core σ r T ng np nx nl) : Core (up2 σ 0 10 v) (upd r 6 v) T ng np nx nl := by
  obtain ⟨n1, n2, n3, n4⟩ := h.n
  obtain ⟨a, b, c, d, e, k⟩ := h
  refine ⟨?_, KG_r (by omega) n1 (KG_c (fun g hg => by omega) b), KP_r (by omega) n2 (KP_c (by omega) n2 c), KX_r (by omega) n3 (KX_c (by omega) n3 d), KL_r (by omega) n4 (KL_c (by omega) n4 e), KE_r (by omega) (KE_c (by omega) k)⟩
  have o : ∀ j, j ≠ 10 → up2 σ 0 10 v 0 j = σ 0 j := fun j hj => up2_n (Or.inr hj)
  have ro : ∀ i, i ≠ 6 → upd r 6 v i = r i := fun i hi => pk_un hi
  unfold KC
  rw [o 5 (by decide), o 6 (by decide), o 8 (by decide), o 7 (by decide), o 9 (by decide), ro 1 (by decide), ro 2 (by decide), ro 3 (by decide), ro 4 (by decide), ro 0 (by decide), ro 7 (by decide), up2_s, pk_us]
  exact ⟨a.1, a.2.1, a.2.2.1, a.2.2.2.1, rfl, a.2.2.2.2.2⟩
theorem do_setFare (a : Int32) : DoOp (fun S => w_X8_changeFare S a) (w_X10_setFare a) := by
  intro σ r T ng np nx nl hT h
  have hm := h.mono (show T ≤ T + 20000 by omega) hT
  have es : r 6 = σ 0 10 := h.1.1.2.2.2.2.1.symm
  rcases btw a 0 1000 with e | ⟨e, h1, h2⟩
  · refine ⟨σ, r, -2, ng, np, nx, nl, hm, fun S μ Φ hΦ => ?_, Or.inl ⟨by decide, fun ρ Φ hd => ?_⟩⟩
    · show w_X8_changeFare S a (bl S σ μ) Φ
      unfold w_X8_changeFare
      rw [c_between, e, if_pos rfl]
      exact hΦ
    · unfold w_X10_setFare
      rw [s_in, e, if_pos rfl]
      exact hd
  · refine ⟨up2 σ 0 10 a, upd r 6 a, σ 0 10, ng, np, nx, nl, hm.keep hm.1.fare (Nat.le_refl _) (fun q j h1 _ _ => up2_n (Or.inl (by omega))) (fun i hi _ => pk_un (by omega)), fun S μ Φ hΦ => ?_, Or.inr (fun ρ ρ1 Φ hb hd => ?_)⟩
    · show w_X8_changeFare S a (bl S σ μ) Φ
      unfold w_X8_changeFare
      rw [c_between, e, if_neg (by decide)]
      rintro _ rfl
      rw [up2_bl0, bl_0]
      exact hΦ
    · unfold w_X10_setFare
      rw [s_in, e, if_neg (by decide)]
      refine hb _ ?_
      rintro _ rfl
      rw [show (6 : Int32).toNatClampNeg = 6 from rfl, up2_rw1, rw1_1, es]
      exact hd
theorem op_setFare : Op_setFare Sim := fun n μ ρ hn hS a => op_wrap (do_setFare a) hn hS
theorem do_credit (a b : Int32) : DoOp (fun S => w_X8_addCredit S a b) (w_X10_credit a b) := by
  intro σ r T ng np nx nl hT h
  obtain ⟨n1, n2, n3, n4⟩ := h.1.n
  have hm := h.mono (show T ≤ T + 20000 by omega) hT
  rcases arg_n a (show nl < 1073741824 by omega) with ⟨k, hk, rfl⟩ | ha
  · have es : r (424 + 3 * k) = σ (90 + k) 0 := (h.1.2.2.2.2.1 k 0 hk (Or.inl (by decide))).symm
    have bk : ∀ (S : Nat) (τ μ : Mm), bl S τ μ (S + 90 + k) = τ (90 + k) := fun S τ μ => by rw [Nat.add_assoc]; exact bl_at (by omega)
    have uk : ∀ (S j : Nat) (v : Int32) (τ μ : Mm), up2 (bl S τ μ) (S + 90 + k) j v = bl S (up2 τ (90 + k) j v) μ := fun S j v τ μ => by rw [Nat.add_assoc]; exact up2_bl (by omega)
    rcases btw b 1 100000 with e | ⟨e, h1, h2⟩
    · refine ⟨σ, r, -2, ng, np, nx, nl, hm, fun S μ Φ hΦ => ?_, Or.inl ⟨by decide, fun ρ Φ hd => ?_⟩⟩
      · show w_X8_addCredit S (nI k) b (bl S σ μ) Φ
        unfold w_X8_addCredit
        rw [d_poolAt_y h.1.1.2.2.2.1.1 hk n4, opt_some, c_between, e, if_pos rfl]
        exact hΦ
      · unfold w_X10_credit
        rw [s_noPool_y h.1.1.2.2.2.1.2.1 hk (by omega), if_pos rfl, s_in, e, if_pos rfl]
        exact hd
    · by_cases hc : σ (90 + k) 0 + b ≤ 1000000
      · have hR : Rel (up2 σ (90 + k) 0 (σ (90 + k) 0 + b)) (upd r (424 + 3 * k) (σ (90 + k) 0 + b)) (T + 20000) ng np nx nl := hm.keep (hm.1.pool (x := k) (f := 0) (by omega) (Or.inl (by decide))) (Nat.le_refl _) (fun q j h1 h2 h3 => up2_n (by omega)) (fun i hi h2 => pk_un (by omega))
        refine ⟨_, _, σ (90 + k) 0 + b, ng, np, nx, nl, hR, fun S μ Φ hΦ => ?_, Or.inr (fun ρ ρ1 Φ hb hd => ?_)⟩
        · show w_X8_addCredit S (nI k) b (bl S σ μ) Φ
          unfold w_X8_addCredit
          rw [d_poolAt_y h.1.1.2.2.2.1.1 hk n4, opt_some, c_between, e, if_neg (by decide), bk, if_pos hc]
          rintro _ rfl
          rw [uk, bk, up2_s]
          exact hΦ
        · unfold w_X10_credit
          rw [s_noPool_y h.1.1.2.2.2.1.2.1 hk (by omega), if_pos rfl, s_in, e, if_neg (by decide), ixL, vin (show 424 + 3 * k < 516 by omega) (by decide), true_and, cl (show 424 + 3 * k < 2147483648 by omega), rw1_1, es, if_pos hc]
          refine hb _ ?_
          refine ⟨trivial, trivial, ?_⟩
          rintro _ rfl
          refine ⟨trivial, ?_⟩
          rw [rw1_1, up2_rw1, rw1_1, pk_us, es]
          exact hd
      · refine ⟨σ, r, -4, ng, np, nx, nl, hm, fun S μ Φ hΦ => ?_, Or.inl ⟨by decide, fun ρ Φ hd => ?_⟩⟩
        · show w_X8_addCredit S (nI k) b (bl S σ μ) Φ
          unfold w_X8_addCredit
          rw [d_poolAt_y h.1.1.2.2.2.1.1 hk n4, opt_some, c_between, e, if_neg (by decide), bk, if_neg hc]
          exact hΦ
        · unfold w_X10_credit
          rw [s_noPool_y h.1.1.2.2.2.1.2.1 hk (by omega), if_pos rfl, s_in, e, if_neg (by decide), ixL, vin (show 424 + 3 * k < 516 by omega) (by decide), true_and, cl (show 424 + 3 * k < 2147483648 by omega), rw1_1, es, if_neg hc]
          exact hd
  · refine ⟨σ, r, -1, ng, np, nx, nl, hm, fun S μ Φ hΦ => ?_, Or.inl ⟨by decide, fun ρ Φ hd => ?_⟩⟩
    · show w_X8_addCredit S a b (bl S σ μ) Φ
      unfold w_X8_addCredit
      rw [d_poolAt_n h.1.1.2.2.2.1.1 ha, opt_none]
      exact hΦ
    · unfold w_X10_credit
      rw [s_noPool_n h.1.1.2.2.2.1.2.1 ha (by omega), if_neg (by decide)]
      exact hd
theorem op_credit : Op_credit Sim := fun n μ ρ hn hS a b => op_wrap (do_credit a b) hn hS
end OPS1
