/-! passes and events asked, the text, undo, repair, fail -/
section MORE
variable {σ : Mm} {r : Nat → Int32} {T ng np nx nl g : Nat} {μ ρ : Mm} {n : Nat}
theorem do_passOf (a b : Int32) : DoQ (w_X9_passOf a b) (w_X10_passOf a b) := by
  intro σ r T ng np nx nl h
  obtain ⟨n1, n2, n3, n4⟩ := h.1.n
  rcases arg_n a (show nx < 1073741824 by omega) with ⟨x, hx, rfl⟩ | ha
  · obtain ⟨k, x1, x2, x3⟩ := h.2.2.2.1 x hx
    have hN : ∀ (ρ : Mm) (Φ : Int32 → Mm → Prop), w_X10_noPass (nI x) (rw1 ρ r) Φ = Φ 0 (rw1 ρ r) := fun ρ Φ => s_noPass_y h.1.1.2.2.1.2.1 hx (by omega)
    have hA : ∀ (μ : Mm) (Φ : Option Nat → Mm → Prop), w_X8_passAt 1 (nI x) (bl 1 σ μ) Φ = Φ (some (1 + 94 + x)) (bl 1 σ μ) := fun μ Φ => d_passAt_y h.1.1.2.2.1.1 hx n3
    have bx : ∀ μ, bl 1 σ μ (1 + 94 + x) = σ (94 + x) := fun μ => by rw [Nat.add_assoc]; exact bl_at (by omega)
    have e0 : r (400 + 2 * x) = σ (94 + x) 0 := (h.1.2.2.2.1 x 0 hx (by decide)).symm
    have e1 : r (400 + 2 * x + 1) = σ (94 + x) 1 := (h.1.2.2.2.1 x 1 hx (by decide)).symm
    have hus := user_is h.1 h.2.2.1 h.2.2.2.2.2.2 hx
    by_cases z0 : b = 0
    · subst z0
      refine ⟨σ (94 + x) 0, fun μ Φ hΦ => ?_, fun ρ Φ hΦ => ?_⟩
      · unfold w_X9_passOf
        rw [hA, opt_some, bx, if_pos rfl]
        exact hΦ
      · unfold w_X10_passOf
        rw [hN, if_pos rfl, s_in, if_neg (by decide), ixX, show nI (400 + 2 * x) + (0 : Int32) = nI (400 + 2 * x) from nI_add _ 0, vin (show 400 + 2 * x < 516 by omega) (by decide), true_and, cl (show 400 + 2 * x < 2147483648 by omega), rw1_1, e0]
        exact hΦ
    by_cases z1 : b = 1
    · subst z1
      refine ⟨σ (94 + x) 1, fun μ Φ hΦ => ?_, fun ρ Φ hΦ => ?_⟩
      · unfold w_X9_passOf
        rw [hA, opt_some, bx, if_neg (by decide), if_pos rfl]
        rcases x3 with q | q
        · rw [q] at hΦ ⊢
          rw [if_pos rfl]
          exact hΦ
        · rw [q] at hΦ ⊢
          rw [if_neg (by decide)]
          exact hΦ
      · unfold w_X10_passOf
        rw [hN, if_pos rfl, s_in, if_neg (by decide), ixX, show nI (400 + 2 * x) + (1 : Int32) = nI (400 + 2 * x + 1) from nI_1 _, vin (show 400 + 2 * x + 1 < 516 by omega) (by decide), true_and, cl (show 400 + 2 * x + 1 < 2147483648 by omega), rw1_1, e1]
        exact hΦ
    by_cases z2 : b = 2
    · subst z2
      refine ⟨σ (94 + x) 2, fun μ Φ hΦ => ?_, fun ρ Φ hΦ => ?_⟩
      · unfold w_X9_passOf
        rw [hA, opt_some, bx, if_neg (by decide), if_neg (by decide), if_pos rfl]
        exact hΦ
      · unfold w_X10_passOf
        rw [hN, if_pos rfl, s_in, if_pos (by decide), if_pos rfl, s_userOf h.1.1.2.1.2.1 n2, hus]
        exact hΦ
    · refine ⟨-2, fun μ Φ hΦ => ?_, fun ρ Φ hΦ => ?_⟩
      · unfold w_X9_passOf
        rw [hA, opt_some, bx, if_neg z0, if_neg z1, if_neg z2]
        exact hΦ
      · unfold w_X10_passOf
        have hbt : (if b < 0 then (0 : Int32) else if 1 < b then 0 else 1) = 0 := by
          rcases btw b 0 1 with e | ⟨e, h1, h2⟩
          · exact e
          · obtain ⟨j, hj, rfl⟩ := nI_of2 (x := b) (M := 1) (n := 1) (by decide) h1 (Int32.not_lt.mp h2)
            rcases (show j = 0 ∨ j = 1 by omega) with rfl | rfl
            · exact absurd rfl z0
            · exact absurd rfl z1
        rw [hN, if_pos rfl, s_in, hbt, if_pos rfl, if_neg z2]
        exact hΦ
  · refine ⟨-1, fun μ Φ hΦ => ?_, fun ρ Φ hΦ => ?_⟩
    · unfold w_X9_passOf
      rw [d_passAt_n h.1.1.2.2.1.1 ha, opt_none]
      exact hΦ
    · unfold w_X10_passOf
      rw [s_noPass_n h.1.1.2.2.1.2.1 ha (by omega), if_neg (by decide)]
      exact hΦ
theorem op_passOf : Op_passOf Sim := fun n μ ρ hn hS a b => op_ask (do_passOf a b) hn hS
theorem fm_back {i k : Nat} (hi : i < 20) (hk : k < 20) {u : Mm} {Φ : Int32 → Mm → Prop} : w_J9_floorMod_7cf53 (nI i - 1 - nI k) 20 u Φ = Φ (nI ((i + 19 - k) % 20)) u := by
  have key : w_J9_floorMod_7cf53 (nI i - 1 - nI k) 20 u Φ = Φ (if 0 ≤ ((nI i - 1 - nI k) ^^^ 20) then (nI i - 1 - nI k) - (nI i - 1 - nI k) / 20 * 20 else (if (nI i - 1 - nI k) - (nI i - 1 - nI k) / 20 * 20 = 0 then (nI i - 1 - nI k) - (nI i - 1 - nI k) / 20 * 20 else (nI i - 1 - nI k) - (nI i - 1 - nI k) / 20 * 20 + 20)) u := by
    unfold w_J9_floorMod_7cf53
    rw [eq_true (show ¬ (20 : Int32) = 0 by decide), true_and]
    split
    · rfl
    · split <;> rfl
  rw [key]
  congr 1
  exact (by decide +kernel : ∀ i, i < 20 → ∀ k, k < 20 → (if 0 ≤ ((nI i - 1 - nI k) ^^^ 20) then (nI i - 1 - nI k) - (nI i - 1 - nI k) / 20 * 20 else (if (nI i - 1 - nI k) - (nI i - 1 - nI k) / 20 * 20 = 0 then (nI i - 1 - nI k) - (nI i - 1 - nI k) / 20 * 20 else (nI i - 1 - nI k) - (nI i - 1 - nI k) / 20 * 20 + 20)) = nI ((i + 19 - k) % 20)) i hi k hk
theorem do_event (a b : Int32) : DoQ (w_X9_event a b) (w_X10_event a b) := by
  intro σ r T ng np nx nl h
  by_cases ha : a < 0
  · refine ⟨-2, fun μ Φ hΦ => ?_, fun ρ Φ hΦ => ?_⟩
    · unfold w_X9_event
      rw [if_pos ha]
      exact hΦ
    · unfold w_X10_event
      rw [if_pos ha]
      exact hΦ
  by_cases hb : b < 0
  · refine ⟨-2, fun μ Φ hΦ => ?_, fun ρ Φ hΦ => ?_⟩
    · unfold w_X9_event
      rw [if_neg ha, if_pos hb]
      exact hΦ
    · unfold w_X10_event
      rw [if_neg ha, s_in, if_pos hb, if_pos rfl]
      exact hΦ
  by_cases hb3 : b ≤ 3
  · have hb3' : ¬ 3 < b := Int32.not_lt.mpr hb3
    obtain ⟨e, he, rfl⟩ := nI_of2 (x := b) (M := 3) (n := 3) (by decide) hb hb3
    obtain ⟨i, l, h1, h2, h3, h4, h5, h6⟩ := h.1.2.2.2.2.2
    have b5 : ∀ μ, bl 1 σ μ (1 + 5) = σ 5 := fun μ => bl_at (by decide)
    rcases arg_n a (show l < 1073741824 by omega) with ⟨k, hk, rfl⟩ | hak
    · have hm : (i + 19 - k) % 20 < 20 := Nat.mod_lt _ (by decide)
      refine ⟨σ (6 + e) ((i + 19 - k) % 20), fun μ Φ hΦ => ?_, fun ρ Φ hΦ => ?_⟩
      · unfold w_X9_event w_X0_property
        rw [if_neg ha, if_neg hb, if_pos hb3, if_neg ha, b5, h4, if_pos (nI_lt hk (by omega)), h3, fm_back h1 (by omega)]
        have q6 : bl 1 σ μ (1 + 5 + 1) = σ 6 := bl_at (S := 1) (q := 6) (by decide)
        have q7 : bl 1 σ μ (1 + 5 + 2) = σ 7 := bl_at (S := 1) (q := 7) (by decide)
        have q8 : bl 1 σ μ (1 + 5 + 3) = σ 8 := bl_at (S := 1) (q := 8) (by decide)
        have q9 : bl 1 σ μ (1 + 5 + 4) = σ 9 := bl_at (S := 1) (q := 9) (by decide)
        simp only [vin hm (show 20 < 2147483648 by decide), true_and, cl (show (i + 19 - k) % 20 < 2147483648 by omega), q6, q7, q8, q9]
        rcases (show e = 0 ∨ e = 1 ∨ e = 2 ∨ e = 3 by omega) with rfl | rfl | rfl | rfl
        · rw [if_pos (by decide)]; exact hΦ
        · rw [if_neg (by decide), if_pos (by decide)]; exact hΦ
        · rw [if_neg (by decide), if_neg (by decide), if_pos (by decide)]; exact hΦ
        · rw [if_neg (by decide), if_neg (by decide), if_neg (by decide)]; exact hΦ
      · unfold w_X10_event
        rw [if_neg ha, s_in, if_neg hb, if_neg hb3', if_neg (by decide), rw1_1, show (5 : Int32).toNatClampNeg = 5 from rfl, h5, if_neg (nI_ge hk (by omega)), show (436 : Int32) + 4 * nI k + nI e = nI (436 + 4 * k + e) by rw [show (436 : Int32) = nI 436 from rfl, show (4 : Int32) = nI 4 from rfl, pk_mul, nI_add, nI_add], vin (show 436 + 4 * k + e < 516 by omega) (by decide), true_and, cl (show 436 + 4 * k + e < 2147483648 by omega), ← h6 k e hk (by omega)]
        exact hΦ
    · have hak2 : nI l ≤ a := by rcases hak with q | q; exact absurd q ha; exact q
      refine ⟨-5, fun μ Φ hΦ => ?_, fun ρ Φ hΦ => ?_⟩
      · unfold w_X9_event w_X0_property
        rw [if_neg ha, if_neg hb, if_pos hb3, if_neg ha, b5, h4, if_neg (Int32.not_lt.mpr hak2)]
        exact hΦ
      · unfold w_X10_event
        rw [if_neg ha, s_in, if_neg hb, if_neg hb3', if_neg (by decide), rw1_1, show (5 : Int32).toNatClampNeg = 5 from rfl, h5, if_pos hak2]
        exact hΦ
  · refine ⟨-2, fun μ Φ hΦ => ?_, fun ρ Φ hΦ => ?_⟩
    · unfold w_X9_event
      rw [if_neg ha, if_neg hb, if_neg hb3]
      exact hΦ
    · unfold w_X10_event
      rw [if_neg ha, s_in, if_neg hb, if_pos (Int32.not_le.mp hb3), if_pos rfl]
      exact hΦ
theorem op_event : Op_event Sim := fun n μ ρ hn hS a b => op_ask (do_event a b) hn hS
/-- the text alone changes -/
theorem sim_text {μ' ρ' : Mm} (hn : n < 512) (hS : Sim n μ ρ) (f : ∀ q, q < 745 → μ' q = μ q) (fr : ∀ q, q ≠ 0 → q ≠ 4 → ρ' q = ρ q) (f3 : ρ' 0 3 = ρ 0 3) (hT : Text μ' ρ') : Sim (n + 1) μ' ρ' := by
  obtain ⟨hN, ⟨o, m, ho, hm, e1, e2, e3, e4⟩, -⟩ := hS
  exact ⟨hN.to (fun q hq => f _ (by omega)) (fun i _ => by rw [fr 1 (by decide) (by decide)]) TB_le (TB_lt (by omega)), ⟨o, m, ho, hm, by rw [f _ (by decide)]; exact e1, by rw [f _ (by decide)]; exact e2, by rw [f3]; exact e3, fun j hj => (e4 j hj).to (fun q hq => f _ (by omega)) (fun i _ => by rw [fr 3 (by decide) (by decide)]) TB_le (TB_lt (by omega))⟩, hT⟩
theorem op_type : Op_type Sim := by
  intro n μ ρ hn hS a
  obtain ⟨len, h1, h2, h3, h4⟩ := hS.2.2
  by_cases h50 : len = 50
  · subst h50
    unfold w_X9_type w_X3_append
    rw [h2, if_neg (by decide), if_neg (by decide)]
    show w_X10_type a ρ _
    unfold w_X10_type
    rw [h3, if_pos (by decide)]
    exact ⟨rfl, sim_next1 hn hS⟩
  · unfold w_X9_type w_X3_append
    have hne : ¬ nI len = 50 := fun e => h50 (nI_inj (a := len) (b := 50) (by omega) (by omega) e)
    have hlt : nI len < 50 := nI_lt (b := 50) (by omega) (by omega)
    rw [h2, if_neg (nI_pos (by omega)), if_pos hlt, vin (show len < 50 by omega) (by decide), true_and, cl (by omega)]
    rintro _ rfl _ rfl
    rw [up2_s]
    show w_X10_type a ρ _
    unfold w_X10_type
    rw [h3, if_neg hne, vin (show len < 50 by omega) (by decide), true_and, cl (by omega)]
    rintro _ rfl _ rfl
    rw [up2_s, up2_k (show (745 : Nat) ≠ 746 by decide), h2, up2_k (show (0 : Nat) ≠ 4 by decide), h3]
    refine ⟨rfl, sim_text hn hS (fun q hq => by rw [up2_k (by omega), up2_k (by omega)]) (fun q h0 h4' => by rw [up2_k h0, up2_k h4']) (by rw [up2_n (Or.inr (by decide)), up2_k (by decide)]) ⟨len + 1, by omega, by rw [up2_s, nI_1], by rw [up2_s, nI_1], fun i hi => ?_⟩⟩
    rw [up2_k (show (746 : Nat) ≠ 745 by decide), up2_k (show (4 : Nat) ≠ 0 by decide)]
    by_cases hil : i = len
    · rw [hil, up2_s, up2_s]
    · rw [up2_n (Or.inr hil), up2_n (Or.inr hil)]
      exact h4 i (by omega)
theorem op_clearText : Op_clearText Sim := by
  intro n μ ρ hn hS
  obtain ⟨len, h1, h2, h3, h4⟩ := hS.2.2
  unfold w_X9_clearText w_X3_erase
  rintro _ rfl
  show w_X10_clearText ρ _
  unfold w_X10_clearText
  rintro _ rfl
  rw [h2, h3]
  exact ⟨rfl, sim_text hn hS (fun q hq => up2_k (by omega)) (fun q h0 _ => up2_k h0) (up2_n (Or.inr (by decide))) ⟨0, by omega, up2_s _ _ _ _, up2_s _ _ _ _, fun i hi => by omega⟩⟩
theorem op_undo : Op_undo Sim := by
  intro n μ ρ hn hS
  have hS0 := hS
  obtain ⟨hN, ⟨o, m, ho, hm, e1, e2, e3, e4⟩, hT⟩ := hS0
  unfold w_X9_undo
  by_cases h0 : m = 0
  · subst h0
    rw [e2, if_pos (by decide)]
    show w_X10_undo ρ _
    unfold w_X10_undo
    rw [e3, if_pos (by decide)]
    exact ⟨rfl, sim_next1 hn hS⟩
  · obtain ⟨k, rfl⟩ : ∃ k, m = k + 1 := ⟨m - 1, by omega⟩
    obtain ⟨μ1, f1⟩ : ∃ μ1 : Mm, μ1 = up2 μ 213 2 (nI k) := ⟨_, rfl⟩
    have fk : ∀ q, q ≠ 213 → μ1 q = μ q := fun q hq => by rw [f1, up2_k hq]
    have hlt : (o + k) % 5 < 5 := Nat.mod_lt _ (by decide)
    obtain ⟨ng, np, nx, nl, hR⟩ := (e4 k (by omega)).to (μ' := μ1) (r' := fun i => ρ 3 (516 * k + i)) (fun q hq => fk _ (by omega)) (fun i _ => rfl) TB_le (TB_lt (show n + 1 ≤ 600 by omega))
    obtain ⟨τ', t1, t2⟩ := sim_copy (S := 215 + 106 * ((o + k) % 5)) (S' := 1) (τ := HB μ1 1) (μ := μ1) hR (fun τ q hq => bl_out (by omega))
    have hz : ¬ nI (k + 1) = 0 := nI_ne0 (by omega) (by omega)
    have hng : ¬ nI k < 0 := nI_pos (by omega)
    obtain ⟨ρ1, g1⟩ : ∃ ρ1 : Mm, ρ1 = up2 ρ 0 3 (nI k) := ⟨_, rfl⟩
    obtain ⟨ρ', a1, a2, a3, a4⟩ := undo_loop (m := k) (by omega) 516 0 ρ1 (by omega) (by rw [g1, up2_s])
    rw [e2, if_neg hz]
    unfold w_X2_takeLatest w_X2_rowOf
    rw [e2, nI_pred, if_neg hng]
    rintro _ rfl
    rw [← f1, show μ1 213 1 = nI o by rw [f1, up2_n (Or.inr (by decide))]; exact e1, show μ1 213 2 = nI k by rw [f1, up2_s], d_fm (n := o + k) (d := 5) (k := 5) (nI_add o k) (by omega) rfl (by decide) (by decide)]
    simp only [vin hlt (show 5 < 2147483648 by decide), true_and, cl (show (o + k) % 5 < 2147483648 by omega)]
    have t3 := t2 (fun _ u5 => w_X10_undo ρ (fun t ρ1 => u5 213 2 = t ∧ Sim (n + 1) u5 ρ1)) ?_
    · rw [bl_HB] at t3
      exact t3
    · rw [bl_out (by omega), show μ1 213 2 = nI k by rw [f1, up2_s]]
      unfold w_X10_undo
      rw [e3, if_neg hz, nI_pred]
      rintro _ rfl
      rw [← g1]
      refine a4 _ ⟨rfl, ⟨ng, np, nx, nl, (t1.hb).row (fun i hi => ?_)⟩, ⟨o, k, ho, by omega, ?_, ?_, ?_, fun j hj => ?_⟩, ?_⟩
      · rw [a2 i (by omega) hi, g1, up2_k (by decide)]
      · rw [bl_out (by omega), f1, up2_n (Or.inr (by decide))]; exact e1
      · rw [bl_out (by omega), f1, up2_s]
      · rw [a1 0 (by decide), g1, up2_s]
      · exact (e4 j (by omega)).to (fun q hq => by rw [bl_out (by omega)]; exact fk _ (by omega)) (fun i _ => by rw [a1 3 (by decide), g1, up2_k (by decide)]) TB_le (TB_lt (by omega))
      · exact hT.to (by rw [bl_out (by omega), fk _ (by decide)]) (by rw [bl_out (by omega), fk _ (by decide)]) (by rw [a1 0 (by decide), g1, up2_n (Or.inr (by decide))]) (by rw [a1 4 (by decide), g1, up2_k (by decide)])
end MORE
