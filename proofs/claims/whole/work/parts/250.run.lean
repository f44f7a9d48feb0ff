/-! orders carried out -/
section RUN
variable {σ : Mm} {r : Nat → Int32} {T ng np nx nl g p : Nat} {μ ρ : Mm} {n : Nat}
theorem dc_pinch (a : Int32) : DoC (fun S => w_X8_tellPinch S a) (w_X10_doPinch a) := by
  intro σ r T ng np nx nl hT h
  obtain ⟨n1, n2, n3, n4⟩ := h.1.n
  have hm := h.mono (show T ≤ T + 400 by omega) hT
  rcases arg_n a (show ng < 1073741824 by omega) with ⟨g, hg, rfl⟩ | ha
  · have hg8 : g < 8 := by omega
    have hV := h.2.1 g hg
    obtain ⟨d, st, g1, g2, g3, g4, g5, g6⟩ := hV
    have es4 : r (8 + 14 * g + 4) = nI st := by rw [← g4]; exact (h.1.2.1 g 4 hg (by decide)).symm
    have es9 : r (8 + 14 * g + 9) = σ (10 + 5 * g) 9 := (h.1.2.1 g 7 hg (by decide)).symm
    by_cases h5 : nI st = 5
    · refine ⟨σ, r, -4, np, hm, fun S μ Φ hΦ => ?_, fun ρ1 Φ hd => ?_⟩
      · show w_X8_tellPinch S (nI g) (bl S σ μ) Φ
        unfold w_X8_tellPinch
        rw [d_gateAt_y h.1.1.1.1 hg n1, opt_some, bl_G hg8, g4, if_pos h5]
        exact hΦ
      · show w_X10_doPinch (nI g) (rw1 ρ1 r) Φ
        unfold w_X10_doPinch
        rw [s_noGate_y h.1.1.1.2.1 hg (by omega), if_pos rfl, s_gateOf_4 hg8, es4, if_pos h5]
        exact hd
    · rcases g5 with g5 | g5
      · have hR : Rel (up2 σ (10 + 5 * g) 9 1) (upd r (8 + 14 * g + 9) 1) (T + 400) ng np nx nl := ((hm.x g).gate (v := 1) hg (f := 7) (by decide)).all (VG_told (hm.2.1 g hg) (Or.inr rfl))
        obtain ⟨v, hv⟩ : ∃ v : Int32, v = (if nI st = 3 then 1 else 0) := ⟨_, rfl⟩
        refine ⟨_, _, v, np, hR, fun S μ Φ hΦ => ?_, fun ρ1 Φ hd => ?_⟩
        · show w_X8_tellPinch S (nI g) (bl S σ μ) Φ
          unfold w_X8_tellPinch
          rw [d_gateAt_y h.1.1.1.1 hg n1, opt_some, bl_G hg8, g4, if_neg h5, g5, if_pos rfl]
          rintro _ rfl
          rw [up2_G hg8, bl_G hg8, up2_n (Or.inr (by decide)), g4]
          by_cases h3 : nI st = 3
          · rw [if_pos h3]
            rw [hv, if_pos h3] at hΦ
            exact hΦ
          · rw [if_neg h3]
            rw [hv, if_neg h3] at hΦ
            exact hΦ
        · show w_X10_doPinch (nI g) (rw1 ρ1 r) Φ
          unfold w_X10_doPinch
          rw [s_noGate_y h.1.1.1.2.1 hg (by omega), if_pos rfl, s_gateOf_4 hg8, es4, if_neg h5, s_gateOf_9 hg8, es9, g5, if_neg (by decide), s_putGate_9 hg8, s_gateOf_4 hg8, pk_un (by omega), es4]
          by_cases h3 : nI st = 3
          · rw [if_pos h3]
            rw [hv, if_pos h3] at hd
            exact hd
          · rw [if_neg h3]
            rw [hv, if_neg h3] at hd
            exact hd
      · refine ⟨σ, r, -5, np, hm, fun S μ Φ hΦ => ?_, fun ρ1 Φ hd => ?_⟩
        · show w_X8_tellPinch S (nI g) (bl S σ μ) Φ
          unfold w_X8_tellPinch
          rw [d_gateAt_y h.1.1.1.1 hg n1, opt_some, bl_G hg8, g4, if_neg h5, g5, if_neg (by decide)]
          exact hΦ
        · show w_X10_doPinch (nI g) (rw1 ρ1 r) Φ
          unfold w_X10_doPinch
          rw [s_noGate_y h.1.1.1.2.1 hg (by omega), if_pos rfl, s_gateOf_4 hg8, es4, if_neg h5, s_gateOf_9 hg8, es9, g5, if_pos rfl]
          exact hd
  · refine ⟨σ, r, -1, np, hm, fun S μ Φ hΦ => ?_, fun ρ1 Φ hd => ?_⟩
    · show w_X8_tellPinch S a (bl S σ μ) Φ
      unfold w_X8_tellPinch
      rw [d_gateAt_n h.1.1.1.1 ha, opt_none]
      exact hΦ
    · show w_X10_doPinch a (rw1 ρ1 r) Φ
      unfold w_X10_doPinch
      rw [s_noGate_n h.1.1.1.2.1 ha (by omega), if_neg (by decide)]
      exact hd
theorem dc_pass (a : Int32) : DoC (fun S => w_X8_letTicksGo S a) (w_X10_doPass a) := by
  intro σ r T ng np nx nl hT h
  rcases btw a 1 200 with e | ⟨e, h1, h2⟩
  · refine ⟨σ, r, -2, np, h.mono (by omega) hT, fun S μ Φ hΦ => ?_, fun ρ1 Φ hd => ?_⟩
    · show w_X8_letTicksGo S a (bl S σ μ) Φ
      unfold w_X8_letTicksGo
      rw [c_between, e, if_pos rfl]
      exact hΦ
    · show w_X10_doPass a (rw1 ρ1 r) Φ
      unfold w_X10_doPass
      rw [s_in, e, if_pos rfl]
      exact hd
  · obtain ⟨k, hk, rfl⟩ := nI_of2 (x := a) (M := 200) (n := 200) (by decide) (fun h => h1 (Int32.lt_trans h (by decide))) (Int32.not_lt.mp h2)
    obtain ⟨σ', r', v, t1, t2, t3, t4⟩ := ticks_loop (a := k) (by omega) k 0 (by omega) (by omega) h
    refine ⟨σ', r', v, np, t1.mono (by omega) hT, fun S μ Φ hΦ => ?_, fun ρ1 Φ hd => ?_⟩
    · show w_X8_letTicksGo S (nI k) (bl S σ μ) Φ
      unfold w_X8_letTicksGo
      rw [c_between, e, if_neg (by decide)]
      exact t2 S μ Φ 0 (by rw [Int32.zero_add]; exact hΦ)
    · show w_X10_doPass (nI k) (rw1 ρ1 r) Φ
      unfold w_X10_doPass
      rw [s_in, e, if_neg (by decide), s_passed h.1.1.1.2.1 h.1.n.1]
      refine t3 ρ1 _ _ ?_
      show Φ (tot r' ng - tot r ng) (rw1 ρ1 r')
      rw [t4, Int32.add_comm, Int32.add_sub_cancel]
      exact hd
theorem carry {k : Nat} {g v s : Int32} {u : Mm} (hk : k ≤ 3) (hs : isB s) (hT : T + 400 < 1073741824) (h : Rel (HB u 1) r T ng np nx nl) (c3 : u 745 3 = kl k) (c4 : k ≠ 2 → u 745 4 = g) (c5 : k ≠ 3 → u 745 5 = v) (c6 : k = 0 → u 745 6 = s) : ∃ (σ' : Mm) (r' : Nat → Int32) (w : Int32) (np' : Nat), Rel σ' r' (T + 400) ng np' nx nl ∧ (∀ Φ : Int32 → Mm → Prop, Φ w (bl 1 σ' u) → w_X9_carryOut u Φ) ∧ (∀ (ρ : Mm) (Φ : Int32 → Mm → Prop) (o : Nat), o < 50 → ρ 5 (4 * o) = nI k → ρ 5 (4 * o + 1) = (if k = 2 then v else g) → (k < 2 → ρ 5 (4 * o + 2) = v) → (k = 0 → ρ 5 (4 * o + 3) = s) → Φ w (rw1 ρ r') → w_X10_carryOut (nI (4 * o)) (rw1 ρ r) Φ) := by
  have IX : ∀ o, o < 50 → (nI (4 * o) + (1 : Int32) = nI (4 * o + 1) ∧ nI (4 * o) + (2 : Int32) = nI (4 * o + 2) ∧ nI (4 * o) + (3 : Int32) = nI (4 * o + 3)) ∧ (nI (4 * o)).toNatClampNeg = 4 * o ∧ (nI (4 * o + 1)).toNatClampNeg = 4 * o + 1 ∧ (nI (4 * o + 2)).toNatClampNeg = 4 * o + 2 ∧ (nI (4 * o + 3)).toNatClampNeg = 4 * o + 3 := fun o ho => ⟨⟨nI_add _ 1, nI_add _ 2, nI_add _ 3⟩, cl (by omega), cl (by omega), cl (by omega), cl (by omega)⟩
  have r5 : ∀ (ρ : Mm) (i : Nat), rw1 ρ r 5 i = ρ 5 i := fun ρ i => by rw [rw1_o (by decide)]
  rcases (show k = 0 ∨ k = 1 ∨ k = 2 ∨ k = 3 by omega) with rfl | rfl | rfl | rfl
  · obtain ⟨σ', r', w, np', h1, h2, h3⟩ := dc_enter g v s hs (HB u 1) r T ng np nx nl hT h
    refine ⟨σ', r', w, np', h1, fun Φ hΦ => ?_, fun ρ Φ o ho q0 q1 q2 q3 hΦ => ?_⟩
    · have k2 := h2 1 u Φ hΦ
      rw [bl_HB] at k2
      unfold w_X9_carryOut
      rw [c3, if_pos (show kl 0 = 105 from rfl), c4 (by decide), c5 (by decide), c6 rfl]
      exact k2
    · have k3 := h3 ρ Φ hΦ
      obtain ⟨⟨x1, x2, x3⟩, y0, y1, y2, y3⟩ := IX o ho
      have q1' : ρ 5 (4 * o + 1) = g := q1
      unfold w_X10_carryOut
      rw [x1, x2, x3, y0, y1, y2, y3, r5, r5, r5, r5, q0, q1', q2 (by decide), q3 rfl]
      refine ⟨vp_in_nI (by omega) (by omega), ?_⟩
      rw [if_pos (show nI 0 = 0 from rfl)]
      refine ⟨vp_in_nI (by omega) (by omega), vp_in_nI (by omega) (by omega), vp_in_nI (by omega) (by omega), ?_⟩
      by_cases hs1 : s = 1
      · rw [if_pos hs1]
        rw [hs1] at k3
        exact k3
      · rw [if_neg hs1]
        rw [hs.resolve_right hs1] at k3
        exact k3
  · obtain ⟨σ', r', w, np', h1, h2, h3⟩ := dc_exit g v (HB u 1) r T ng np nx nl hT h
    refine ⟨σ', r', w, np', h1, fun Φ hΦ => ?_, fun ρ Φ o ho q0 q1 q2 q3 hΦ => ?_⟩
    · have k2 := h2 1 u Φ hΦ
      rw [bl_HB] at k2
      unfold w_X9_carryOut
      rw [c3, if_neg (show ¬ kl 1 = 105 by decide), if_pos (show kl 1 = 111 from rfl), c4 (by decide), c5 (by decide)]
      exact k2
    · have k3 := h3 ρ Φ hΦ
      obtain ⟨⟨x1, x2, x3⟩, y0, y1, y2, y3⟩ := IX o ho
      have q1' : ρ 5 (4 * o + 1) = g := q1
      unfold w_X10_carryOut
      rw [x1, x2, x3, y0, y1, y2, y3, r5, r5, r5, r5, q0, q1', q2 (by decide)]
      refine ⟨vp_in_nI (by omega) (by omega), ?_⟩
      rw [if_neg (show ¬ nI 1 = 0 by decide), if_pos (show nI 1 = 1 from rfl)]
      exact ⟨vp_in_nI (by omega) (by omega), vp_in_nI (by omega) (by omega), k3⟩
  · obtain ⟨σ', r', w, np', h1, h2, h3⟩ := dc_pass v (HB u 1) r T ng np nx nl hT h
    refine ⟨σ', r', w, np', h1, fun Φ hΦ => ?_, fun ρ Φ o ho q0 q1 q2 q3 hΦ => ?_⟩
    · have k2 := h2 1 u Φ hΦ
      rw [bl_HB] at k2
      unfold w_X9_carryOut
      rw [c3, if_neg (show ¬ kl 2 = 105 by decide), if_neg (show ¬ kl 2 = 111 by decide), if_pos (show kl 2 = 116 from rfl), c5 (by decide)]
      exact k2
    · have k3 := h3 ρ Φ hΦ
      obtain ⟨⟨x1, x2, x3⟩, y0, y1, y2, y3⟩ := IX o ho
      have q1' : ρ 5 (4 * o + 1) = v := q1
      unfold w_X10_carryOut
      rw [x1, x2, x3, y0, y1, y2, y3, r5, r5, r5, r5, q0, q1']
      refine ⟨vp_in_nI (by omega) (by omega), ?_⟩
      rw [if_neg (show ¬ nI 2 = 0 by decide), if_neg (show ¬ nI 2 = 1 by decide), if_pos (show nI 2 = 2 from rfl)]
      exact ⟨vp_in_nI (by omega) (by omega), k3⟩
  · obtain ⟨σ', r', w, np', h1, h2, h3⟩ := dc_pinch g (HB u 1) r T ng np nx nl hT h
    refine ⟨σ', r', w, np', h1, fun Φ hΦ => ?_, fun ρ Φ o ho q0 q1 q2 q3 hΦ => ?_⟩
    · have k2 := h2 1 u Φ hΦ
      rw [bl_HB] at k2
      unfold w_X9_carryOut
      rw [c3, if_neg (show ¬ kl 3 = 105 by decide), if_neg (show ¬ kl 3 = 111 by decide), if_neg (show ¬ kl 3 = 116 by decide), c4 (by decide)]
      exact k2
    · have k3 := h3 ρ Φ hΦ
      obtain ⟨⟨x1, x2, x3⟩, y0, y1, y2, y3⟩ := IX o ho
      have q1' : ρ 5 (4 * o + 1) = g := q1
      unfold w_X10_carryOut
      rw [x1, x2, x3, y0, y1, y2, y3, r5, r5, r5, r5, q0, q1']
      refine ⟨vp_in_nI (by omega) (by omega), ?_⟩
      rw [if_neg (show ¬ nI 3 = 0 by decide), if_neg (show ¬ nI 3 = 1 by decide), if_neg (show ¬ nI 3 = 2 by decide)]
      exact ⟨vp_in_nI (by omega) (by omega), k3⟩
theorem c_err0 {w : Int32} {u : Mm} {Φ : Int32 → Mm → Prop} (h : 0 ≤ w ∨ w = -5) : w_X9_isError w u Φ = Φ 0 u := by
  unfold w_X9_isError
  by_cases h0 : 0 ≤ w
  · rw [if_pos h0]
  · rw [if_neg h0, if_pos (h.resolve_left h0)]
theorem c_err1 {w : Int32} {u : Mm} {Φ : Int32 → Mm → Prop} (h : ¬ (0 ≤ w ∨ w = -5)) : w_X9_isError w u Φ = Φ 1 u := by
  unfold w_X9_isError
  rw [if_neg (fun q => h (Or.inl q)), if_neg (fun q => h (Or.inr q))]
theorem s_err0 {w : Int32} {u : Mm} {Φ : Int32 → Mm → Prop} (h : 0 ≤ w ∨ w = -5) : w_X10_isError w u Φ = Φ 0 u := by
  unfold w_X10_isError
  by_cases h0 : 0 ≤ w
  · rw [if_pos h0]
  · rw [if_neg h0, if_pos (h.resolve_left h0)]
theorem s_err1 {w : Int32} {u : Mm} {Φ : Int32 → Mm → Prop} (h : ¬ (0 ≤ w ∨ w = -5)) : w_X10_isError w u Φ = Φ 1 u := by
  unfold w_X10_isError
  rw [if_neg (fun q => h (Or.inl q)), if_neg (fun q => h (Or.inr q))]
end RUN
/-- what was read at each place -/
abbrev Rd : Type := Nat → Bool × Nat × Nat × Int32 × Int32 × Int32
def RdOk (L : Nat → Int32) (l ng : Nat) (f : Rd) : Prop := ∀ p, p ≤ l → OrdAt L l ng p (f p).1 (f p).2.1 (f p).2.2.1 (f p).2.2.2.1 (f p).2.2.2.2.1 (f p).2.2.2.2.2
def ordP (f : Rd) : Nat → Nat
  | 0 => 0
  | n + 1 => (f (ordP f n)).2.1
theorem rd_all {L : Nat → Int32} {l ng : Nat} (hl : l ≤ 50) (hng : ng ≤ 8) : ∃ f : Rd, RdOk L l ng f := by
  have h : ∀ p, ∃ y : Bool × Nat × Nat × Int32 × Int32 × Int32, p ≤ l → OrdAt L l ng p y.1 y.2.1 y.2.2.1 y.2.2.2.1 y.2.2.2.2.1 y.2.2.2.2.2 := fun p => by
    by_cases hp : p ≤ l
    · obtain ⟨b, q, k, g, v, s, h⟩ := order_at (L := L) (l := l) (p := p) hng (by omega)
      exact ⟨(b, q, k, g, v, s), fun _ => h⟩
    · exact ⟨(false, 0, 0, 0, 0, 0), fun h => absurd h hp⟩
  exact ⟨fun p => Classical.choose (h p), fun p => Classical.choose_spec (h p)⟩
section SCEN
variable {L : Nat → Int32} {l ng : Nat} {f : Rd}
def OGood (l : Nat) (f : Rd) (m : Nat) : Prop := 1 ≤ m ∧ m ≤ 25 ∧ (∀ k, k < m → (f (ordP f k)).1 = true) ∧ (∀ k, k < m → ordP f k < l) ∧ ordP f m = l
def OFault (l : Nat) (f : Rd) (m : Nat) : Prop := m ≤ 25 ∧ (∀ k, k < m → (f (ordP f k)).1 = true) ∧ (∀ k, 1 ≤ k → k ≤ m → ordP f k < l) ∧ (f (ordP f m)).1 = false ∧ ∀ k, k ≤ m → ordP f k ≤ l
theorem scen_aux (F : RdOk L l ng f) (hl : l ≤ 50) : ∀ (j k : Nat), l ≤ ordP f k + j → 2 * k ≤ ordP f k → (∀ i, i < k → (f (ordP f i)).1 = true) → (∀ i, 1 ≤ i → i ≤ k → ordP f i < l) → (∀ i, i ≤ k → ordP f i ≤ l) → (∃ m, OGood l f m) ∨ (∃ m, OFault l f m) := by
  intro j
  induction j with
  | zero =>
    intro k h1 h2 h3 h4 h5
    cases hb : (f (ordP f k)).1 with
    | false => exact Or.inr ⟨k, by have := h5 k (Nat.le_refl k); omega, h3, h4, hb, h5⟩
    | true =>
      have B := (F (ordP f k) (h5 k (Nat.le_refl k))).1 hb
      have := B.2.2.1
      omega
  | succ j ih =>
    intro k h1 h2 h3 h4 h5
    have hk := h5 k (Nat.le_refl k)
    cases hb : (f (ordP f k)).1 with
    | false => exact Or.inr ⟨k, by omega, h3, h4, hb, h5⟩
    | true =>
      obtain ⟨B1, B2, B3, -⟩ := (F (ordP f k) hk).1 hb
      have e : ordP f (k + 1) = (f (ordP f k)).2.1 := rfl
      have g3 : ∀ i, i < k + 1 → (f (ordP f i)).1 = true := fun i hi => by
        by_cases hik : i = k
        · rw [hik]; exact hb
        · exact h3 i (by omega)
      by_cases hq : ordP f (k + 1) = l
      · refine Or.inl ⟨k + 1, by omega, by omega, g3, fun i hi => ?_, hq⟩
        by_cases hik : i = k
        · rw [hik]; exact B3
        · rcases Nat.eq_zero_or_pos i with z | z
          · rw [z]
            show 0 < l
            omega
          · exact h4 i z (by omega)
      · refine ih (k + 1) (by omega) (by omega) g3 (fun i i1 i2 => ?_) (fun i i2 => ?_)
        · by_cases hik : i = k + 1
          · rw [hik]; omega
          · exact h4 i i1 (by omega)
        · by_cases hik : i = k + 1
          · rw [hik]; omega
          · exact h5 i (by omega)
theorem scen (F : RdOk L l ng f) (hl : l ≤ 50) : (∃ m, OGood l f m) ∨ (∃ m, OFault l f m) := scen_aux F hl l 0 (by omega) (Nat.zero_le _) (fun i hi => absurd hi (Nat.not_lt_zero _)) (fun i i1 i2 => by omega) (fun i hi => by
  have : i = 0 := by omega
  rw [this]
  exact Nat.zero_le _)
theorem OGood.le {m : Nat} (h : OGood l f m) : ∀ k, k ≤ m → ordP f k ≤ l := fun k hk => by
  by_cases e : k = m
  · rw [e, h.2.2.2.2]
    exact Nat.le_refl _
  · have := h.2.2.2.1 k (by omega)
    omega
/-- the text is without fault -/
theorem find_good (F : RdOk L l ng f) {m : Nat} (h : OGood l f m) {Φ : Int32 → Mm → Prop} : ∀ (j k : Nat) (u : Mm), k + (j + 1) = m → CS L l u (ordP f k) → (∀ u' : Mm, (∀ x, x ≠ 745 → u' x = u x) → CS L l u' l → Φ (-1) u') → w_X3_findFault_6 Φ (j + 1) (nI ng) (nI k) u := by
  intro j
  induction j with
  | zero =>
    intro k u hk t H
    have hm := h.2.1
    have h50 : ¬ (50 : Int32) ≤ nI k := nI_ge (a := k) (b := 50) (by omega) (by omega)
    have hb := h.2.2.1 k (by omega)
    have e : ordP f (k + 1) = l := by rw [show k + 1 = m by omega]; exact h.2.2.2.2
    unfold w_X3_findFault_6
    rw [if_neg h50]
    refine (F (ordP f k) (h.le k (by omega))).2.1 u _ t (fun u' a1 a2 a3 => ?_)
    rw [hb]
    show (if (1 : Int32) = 0 then _ else _)
    have a2' : CS L l u' l := by
      have a4 : CS L l u' (ordP f (k + 1)) := a2
      rw [e] at a4
      exact a4
    rw [if_neg (by decide), a2'.1, a2'.2.1, if_neg (nI_nlt (Nat.le_refl l) (by have := t.2.2.2.1; omega))]
    exact H u' a1 a2'
  | succ j ih =>
    intro k u hk t H
    have hm := h.2.1
    have h50 : ¬ (50 : Int32) ≤ nI k := nI_ge (a := k) (b := 50) (by omega) (by omega)
    have hb := h.2.2.1 k (by omega)
    have hlt := h.2.2.2.1 (k + 1) (by omega)
    unfold w_X3_findFault_6
    rw [if_neg h50]
    refine (F (ordP f k) (h.le k (by omega))).2.1 u _ t (fun u' a1 a2 a3 => ?_)
    rw [hb]
    show (if (1 : Int32) = 0 then _ else _)
    have a2' : CS L l u' (ordP f (k + 1)) := a2
    rw [if_neg (by decide), a2'.1, a2'.2.1, if_pos (nI_lt hlt (by have := t.2.2.2.1; omega)), nI_1]
    exact ih (k + 1) u' (by omega) a2' (fun u2 b1 b2 => H u2 (fun x hx => (b1 x hx).trans (a1 x hx)) b2)
/-- the text has a fault -/
theorem find_bad (F : RdOk L l ng f) {m : Nat} (h : OFault l f m) {Φ : Int32 → Mm → Prop} : ∀ (j k : Nat) (u : Mm), k + j = m → CS L l u (ordP f k) → (∀ u' : Mm, (∀ x, x ≠ 745 → u' x = u x) → CS L l u' (ordP f (m + 1)) → Φ (nI (ordP f (m + 1))) u') → w_X3_findFault_6 Φ (j + 1) (nI ng) (nI k) u := by
  intro j
  induction j with
  | zero =>
    intro k u hk t H
    have hm := h.1
    have ek : k = m := by omega
    have h50 : ¬ (50 : Int32) ≤ nI k := nI_ge (a := k) (b := 50) (by omega) (by omega)
    have hb : (f (ordP f k)).1 = false := by rw [ek]; exact h.2.2.2.1
    unfold w_X3_findFault_6
    rw [if_neg h50]
    refine (F (ordP f k) (h.2.2.2.2 k (by omega))).2.1 u _ t (fun u' a1 a2 a3 => ?_)
    rw [hb]
    show (if (0 : Int32) = 0 then _ else _)
    have a2' : CS L l u' (ordP f (m + 1)) := by rw [← ek]; exact a2
    rw [if_pos rfl, a2'.2.1]
    exact H u' a1 a2'
  | succ j ih =>
    intro k u hk t H
    have hm := h.1
    have h50 : ¬ (50 : Int32) ≤ nI k := nI_ge (a := k) (b := 50) (by omega) (by omega)
    have hb := h.2.1 k (by omega)
    have hlt := h.2.2.1 (k + 1) (by omega) (by omega)
    unfold w_X3_findFault_6
    rw [if_neg h50]
    refine (F (ordP f k) (h.2.2.2.2 k (by omega))).2.1 u _ t (fun u' a1 a2 a3 => ?_)
    rw [hb]
    show (if (1 : Int32) = 0 then _ else _)
    have a2' : CS L l u' (ordP f (k + 1)) := a2
    rw [if_neg (by decide), a2'.1, a2'.2.1, if_pos (nI_lt hlt (by have := t.2.2.2.1; omega)), nI_1]
    exact ih (k + 1) u' (by omega) a2' (fun u2 b1 b2 => H u2 (fun x hx => (b1 x hx).trans (a1 x hx)) b2)
/-- the reference keeps what it read -/
def ORow (f : Rd) (ρ : Mm) (i p : Nat) : Prop := ρ 5 (4 * i) = nI (f p).2.2.1 ∧ ρ 5 (4 * i + 1) = (if (f p).2.2.1 = 2 then (f p).2.2.2.2.1 else (f p).2.2.2.1) ∧ ((f p).2.2.1 < 2 → ρ 5 (4 * i + 2) = (f p).2.2.2.2.1) ∧ ((f p).2.2.1 = 0 → ρ 5 (4 * i + 3) = (f p).2.2.2.2.2)
def FrR (ρ0 ρ : Mm) : Prop := (∀ x, x ≠ 0 → x ≠ 5 → ρ x = ρ0 x) ∧ ∀ j, j < 6 → ρ 0 j = ρ0 0 j
def PS (L : Nat → Int32) (l ng : Nat) (f : Rd) (ρ0 : Mm) (k : Nat) (ρ : Mm) : Prop := GS L l ρ (ordP f k) ∧ ρ 0 8 = nI k ∧ ρ 1 1 = nI ng ∧ FrR ρ0 ρ ∧ ∀ i, i < k → ORow f ρ i (ordP f i)
theorem PS.step {ρ0 ρ ρ' : Mm} {k : Nat} (h : PS L l ng f ρ0 k ρ) (hb : (f (ordP f k)).1 = true) (hq : ordP f (k + 1) < 100) (h1 : ∀ x, x ≠ 0 → x ≠ 5 → ρ' x = ρ x) (h2 : ∀ j, j < 6 → ρ' 0 j = ρ 0 j) (h3 : ρ' 0 6 = nI (ordP f (k + 1))) (h4 : ρ' 0 7 = 1) (h5 : ρ' 0 8 = nI (k + 1)) (h6 : ∀ i, i < 4 * k → ρ' 5 i = ρ 5 i) (h7 : ORow f ρ' k (ordP f k)) : PS L l ng f ρ0 (k + 1) ρ' := by
  obtain ⟨⟨a1, a2, a3, a4, a5, a6⟩, b, c, d, e⟩ := h
  refine ⟨⟨by rw [h2 4 (by decide)]; exact a1, h3, by rw [h1 4 (by decide) (by decide)]; exact a3, a4, hq, h4⟩, h5, by rw [h1 1 (by decide) (by decide)]; exact c, ⟨fun x x0 x5 => (h1 x x0 x5).trans (d.1 x x0 x5), fun j hj => (h2 j hj).trans (d.2 j hj)⟩, fun i hi => ?_⟩
  by_cases hik : i = k
  · rw [hik]
    exact h7
  · obtain ⟨e1, e2, e3, e4⟩ := e i (by omega)
    exact ⟨by rw [h6 _ (by omega)]; exact e1, by rw [h6 _ (by omega)]; exact e2, fun z => by rw [h6 _ (by omega)]; exact e3 z, fun z => by rw [h6 _ (by omega)]; exact e4 z⟩
theorem parse_good (F : RdOk L l ng f) {m : Nat} (h : OGood l f m) {Ψ : Int32 → Mm → Prop} {ρ0 : Mm} : ∀ (j k : Nat) (ρ : Mm) (X : Mm → Prop), k + (j + 1) = m → PS L l ng f ρ0 k ρ → (∀ ρ' : Mm, PS L l ng f ρ0 m ρ' → w_X10_run_44 Ψ ρ') → (∀ u, w_X10_run_19 Ψ (j + 1) u → X u) → w_X10_readOrder ρ (fun _ u => X u) := by
  intro j
  induction j with
  | zero =>
    intro k ρ X hk t H hX
    have hm := h.2.1
    have hb := h.2.2.1 k (by omega)
    have e : ordP f (k + 1) = l := by rw [show k + 1 = m by omega]; exact h.2.2.2.2
    have hl := t.1.2.2.2.1
    refine (F (ordP f k) (h.le k (by omega))).2.2 ρ _ k (by omega) t.1 t.2.1 t.2.2.1 (fun ρ' h1 h2 h3 h4 h5 h6 h7 => hX _ ?_)
    rw [hb] at h4 h7
    have t' := t.step (ρ' := ρ') hb (by omega) h1 h2 h3 h4 h5 h6 (h7 rfl)
    unfold w_X10_run_19
    rw [t'.1.2.2.2.2.2, if_neg (by decide), t'.1.1, t'.1.2.1, if_pos (nI_le (by omega) (by omega))]
    refine H _ ?_
    rw [show m = k + 1 by omega]
    exact t'
  | succ j ih =>
    intro k ρ X hk t H hX
    have hm := h.2.1
    have hb := h.2.2.1 k (by omega)
    have hlt := h.2.2.2.1 (k + 1) (by omega)
    have hl := t.1.2.2.2.1
    refine (F (ordP f k) (h.le k (by omega))).2.2 ρ _ k (by omega) t.1 t.2.1 t.2.2.1 (fun ρ' h1 h2 h3 h4 h5 h6 h7 => hX _ ?_)
    rw [hb] at h4 h7
    have t' := t.step (ρ' := ρ') hb (by omega) h1 h2 h3 h4 h5 h6 (h7 rfl)
    unfold w_X10_run_19
    rw [t'.1.2.2.2.2.2, if_neg (by decide), t'.1.1, t'.1.2.1, if_neg (nI_ge hlt (by omega))]
    exact ih (k + 1) ρ' _ (by omega) t' H (fun u hu => hu)
theorem parse_bad (F : RdOk L l ng f) {m : Nat} (h : OFault l f m) {Ψ : Int32 → Mm → Prop} {ρ0 : Mm} : ∀ (j k : Nat) (ρ : Mm) (X : Mm → Prop), k + j = m → PS L l ng f ρ0 k ρ → (∀ ρ' : Mm, FrR ρ0 ρ' → ρ' 0 7 = 0 → ρ' 0 6 = nI (ordP f (m + 1)) → w_X10_run_44 Ψ ρ') → (∀ u, w_X10_run_19 Ψ (j + 1) u → X u) → w_X10_readOrder ρ (fun _ u => X u) := by
  intro j
  induction j with
  | zero =>
    intro k ρ X hk t H hX
    have hm := h.1
    have ek : k = m := by omega
    have hb : (f (ordP f k)).1 = false := by rw [ek]; exact h.2.2.2.1
    refine (F (ordP f k) (h.2.2.2.2 k (by omega))).2.2 ρ _ k (by omega) t.1 t.2.1 t.2.2.1 (fun ρ' h1 h2 h3 h4 h5 h6 h7 => hX _ ?_)
    rw [hb] at h4
    have h4' : ρ' 0 7 = 0 := h4
    have d := t.2.2.2.1
    unfold w_X10_run_19
    rw [h4', if_pos rfl]
    refine H _ ⟨fun x x0 x5 => (h1 x x0 x5).trans (d.1 x x0 x5), fun j hj => (h2 j hj).trans (d.2 j hj)⟩ h4' ?_
    rw [← ek]
    exact h3
  | succ j ih =>
    intro k ρ X hk t H hX
    have hm := h.1
    have hb := h.2.1 k (by omega)
    have hlt := h.2.2.1 (k + 1) (by omega) (by omega)
    have hl := t.1.2.2.2.1
    refine (F (ordP f k) (h.2.2.2.2 k (by omega))).2.2 ρ _ k (by omega) t.1 t.2.1 t.2.2.1 (fun ρ' h1 h2 h3 h4 h5 h6 h7 => hX _ ?_)
    rw [hb] at h4 h7
    have t' := t.step (ρ' := ρ') hb (by omega) h1 h2 h3 h4 h5 h6 (h7 rfl)
    unfold w_X10_run_19
    rw [t'.1.2.2.2.2.2, if_neg (by decide), t'.1.1, t'.1.2.1, if_neg (nI_ge hlt (by omega))]
    exact ih (k + 1) ρ' _ (by omega) t' H (fun u hu => hu)
set_option maxRecDepth 20000 in
theorem run_loop {nx nl : Nat} (F : RdOk L l ng f) {m : Nat} (h : OGood l f m) : ∀ (j k : Nat) (u : Mm) (r : Nat → Int32) (T np : Nat) (Φ : Int32 → Mm → Prop), k + j = m → T + 400 * j < 1073741824 → Rel (HB u 1) r T ng np nx nl → CS L l u (ordP f k) → (∀ (u' : Mm) (r' : Nat → Int32) (c np' : Nat), Rel (HB u' 1) r' (T + 400 * j) ng np' nx nl → (∀ x, 107 ≤ x → x ≠ 745 → u' x = u x) → u' 745 1 = nI l → (∀ (ρ : Mm) (Ψ : Int32 → Mm → Prop), ρ 0 8 = nI m → (∀ i, i < m → ORow f ρ i (ordP f i)) → w_X10_recorded (nI c) (rw1 ρ r') (fun a b => Ψ a b) → ∃ n, w_X10_run_65 Ψ n (nI k) (rw1 ρ r)) → Φ (nI c) u') → w_X9_run_52 Φ (j + 1) (nI k) u := by
  intro j
  induction j with
  | zero =>
    intro k u r T np Φ hk hT hR t H
    have hm := h.2.1
    have ek : k = m := by omega
    have h50 : ¬ (50 : Int32) ≤ nI k := nI_ge (a := k) (b := 50) (by omega) (by omega)
    have c5 : u 1 5 = nI ng := hR.1.1.1.1
    have e : ordP f k = l := by rw [ek]; exact h.2.2.2.2
    have hb : (f (ordP f k)).1 = false := by
      cases hb : (f (ordP f k)).1 with
      | false => rfl
      | true =>
        have B := ((F (ordP f k) (h.le k (by omega))).1 hb).2.2.1
        omega
    unfold w_X9_run_52
    rw [if_neg h50, c5]
    refine (F (ordP f k) (h.le k (by omega))).2.1 u _ t (fun u' a1 a2 a3 => ?_)
    rw [hb]
    show (if (0 : Int32) = 0 then _ else _)
    rw [if_pos rfl]
    refine H u' r k np (hR.blk (fun q hq => a1 (1 + q) (by omega))) (fun x _ hx => a1 x hx) a2.1 (fun ρ Ψ p1 p2 p3 => ⟨0 + 1, ?_⟩)
    unfold w_X10_run_65
    rw [rw1_o (show 0 ≠ 1 by decide), p1, if_pos (nI_le (by omega) (by omega))]
    exact p3
  | succ j ih =>
    intro k u r T np Φ hk hT hR t H
    have hm := h.2.1
    have h50 : ¬ (50 : Int32) ≤ nI k := nI_ge (a := k) (b := 50) (by omega) (by omega)
    have c5 : u 1 5 = nI ng := hR.1.1.1.1
    have hb := h.2.2.1 k (by omega)
    have FF := F (ordP f k) (h.le k (by omega))
    have hT2 : T + 400 < 1073741824 := by omega
    have hT3 : T + 400 + 400 * j < 1073741824 := by omega
    have hle4 : T + 400 ≤ T + 400 * (j + 1) := by omega
    have hk1 : k + 1 + j = m := by omega
    have e400 : T + 400 * (j + 1) = T + 400 + 400 * j := by omega
    have hkm : k < m := by omega
    have hm31 : m < 2 ^ 31 := by omega
    have hk50 : k < 50 := by omega
    have far : ∀ q, q < 106 → 1 + q ≠ 745 := fun q hq => by omega
    have far2 : ∀ x, 107 ≤ x → (x < 1 ∨ 1 + 106 ≤ x) := fun x hx => by omega
    unfold w_X9_run_52
    rw [if_neg h50, c5]
    refine FF.2.1 u _ t (fun u1 a1 a2 a3 => ?_)
    rw [hb]
    show (if (1 : Int32) = 0 then _ else _)
    rw [if_neg (by decide)]
    obtain ⟨d1, d2, d3, d4⟩ := a3 hb
    have hR1 : Rel (HB u1 1) r T ng np nx nl := hR.blk (fun q hq => a1 (1 + q) (far q hq))
    obtain ⟨σ', r1, w, np1, g1, g2, g3⟩ := carry (FF.1 hb).2.2.2.1 (FF.1 hb).2.2.2.2 hT2 hR1 d1 d2 d3 d4
    refine g2 _ ?_
    show w_X9_isError w (bl 1 σ' u1) _
    have ix : (4 : Int32) * nI k = nI (4 * k) := by rw [show (4 : Int32) = nI 4 from rfl, pk_mul]
    by_cases herr : 0 ≤ w ∨ w = -5
    · rw [c_err0 herr]
      show (if (0 : Int32) = 0 then _ else _)
      rw [if_pos rfl, nI_1]
      have a2' : CS L l u1 (ordP f (k + 1)) := a2
      have t1 : CS L l (bl 1 σ' u1) (ordP f (k + 1)) := by
        obtain ⟨y1, y2, y3, y4⟩ := a2'
        exact ⟨by rw [bl_out (far2 745 (by decide))]; exact y1, by rw [bl_out (far2 745 (by decide))]; exact y2, fun i hi => by rw [bl_out (far2 746 (by decide))]; exact y3 i hi, y4⟩
      refine ih (k + 1) (bl 1 σ' u1) r1 (T + 400) np1 Φ hk1 hT3 g1.hb t1 (fun u' r' c np' q1 q2 q3 q4 => ?_)
      refine H u' r' c np' (by rw [e400]; exact q1) (fun x hx hx2 => (q2 x hx hx2).trans ((by rw [bl_out (far2 x hx)] : bl 1 σ' u1 x = u1 x).trans (a1 x hx2))) q3 (fun ρ Ψ p1 p2 p3 => ?_)
      obtain ⟨n, hn⟩ := q4 ρ Ψ p1 p2 p3
      refine ⟨n + 1, ?_⟩
      unfold w_X10_run_65
      rw [rw1_o (show 0 ≠ 1 by decide), p1, if_neg (nI_ge hkm hm31), ix]
      obtain ⟨z1, z2, z3, z4⟩ := p2 k hkm
      refine g3 ρ _ k hk50 z1 z2 z3 z4 ?_
      show w_X10_isError w (rw1 ρ r1) _
      rw [s_err0 herr]
      show (if (0 : Int32) = 0 then _ else _)
      rw [if_pos rfl, nI_1]
      exact hn
    · rw [c_err1 herr]
      show (if (1 : Int32) = 0 then _ else _)
      rw [if_neg (by decide)]
      refine H (bl 1 σ' u1) r1 k np1 (g1.hb.mono hle4 hT) (fun x hx hx2 => (by rw [bl_out (far2 x hx)] : bl 1 σ' u1 x = u1 x).trans (a1 x hx2)) (by rw [bl_out (far2 745 (by decide))]; exact a2.1) (fun ρ Ψ p1 p2 p3 => ⟨0 + 1, ?_⟩)
      unfold w_X10_run_65
      rw [rw1_o (show 0 ≠ 1 by decide), p1, if_neg (nI_ge hkm hm31), ix]
      obtain ⟨z1, z2, z3, z4⟩ := p2 k hkm
      refine g3 ρ _ k hk50 z1 z2 z3 z4 ?_
      show w_X10_isError w (rw1 ρ r1) _
      rw [s_err1 herr]
      show (if (1 : Int32) = 0 then _ else _)
      rw [if_neg (by decide)]
      exact p3
end SCEN
section RUN2
variable {μ ρ : Mm} {n o m : Nat}
theorem sim_mod {u ρ' : Mm} (hn : n < 512) (hS : Sim n μ ρ) (h1 : ∀ q, q ≠ 745 → u q = μ q) (h2 : u 745 1 = μ 745 1) (h3 : ∀ x, x ≠ 0 → x ≠ 5 → ρ' x = ρ x) (h4 : ρ' 0 3 = ρ 0 3) (h5 : ρ' 0 4 = ρ 0 4) : Sim n u ρ' := by
  obtain ⟨hN, ⟨o, m, ho, hm, e1, e2, e3, e4⟩, hT⟩ := hS
  refine ⟨hN.to (fun q hq => h1 _ (by omega)) (fun i _ => by rw [h3 1 (by decide) (by decide)]) (Nat.le_refl _) (TB_lt (by omega)), ⟨o, m, ho, hm, by rw [h1 213 (by decide)]; exact e1, by rw [h1 213 (by decide)]; exact e2, by rw [h4]; exact e3, fun j hj => ?_⟩, hT.to h2 (h1 746 (by decide)) h5 (h3 4 (by decide) (by decide))⟩
  have hlt : (o + j) % 5 < 5 := Nat.mod_lt _ (by decide)
  exact (e4 j hj).to (fun q hq => h1 _ (by omega)) (fun i _ => by rw [h3 3 (by decide) (by decide)]) (Nat.le_refl _) (TB_lt (by omega))
/-- kept before, told after -/
theorem sim_keep2 {μ2 : Mm} (hn : n < 512) (hH : Hist μ ρ (TB n) o m) (hT : Text μ ρ) (fr : ∀ q, 213 ≤ q → q < 215 + 106 * ((o + m) % 5) ∨ 215 + 106 * ((o + m) % 5) + 106 ≤ q → μ2 q = μ q) (hP : Now μ2 (215 + 106 * ((o + m) % 5)) (ρ 1) (TB n)) : ∃ μ3 : Mm, (∀ q, q ≠ 213 → μ3 q = μ2 q) ∧ (∀ Φ : Unit → Mm → Prop, Φ () μ3 → w_X2_keep μ2 Φ) ∧ ∀ (u ρ2 : Mm), (∀ q, 107 ≤ q → q ≠ 745 → u q = μ3 q) → u 745 1 = μ 745 1 → ρ2 0 3 = ρ 0 3 → ρ2 0 4 = ρ 0 4 → ρ2 3 = ρ 3 → ρ2 4 = ρ 4 → (∀ i, i < 516 → ρ2 2 i = ρ 1 i) → Now u 1 (ρ2 1) (TB (n + 1)) → ∃ ρ3 : Mm, Sim (n + 1) u ρ3 ∧ ∀ (v : Int32) (Φ : Int32 → Mm → Prop), Φ v ρ3 → w_X10_recorded v ρ2 Φ := by
  obtain ⟨ho, hm, e1, e2, e3, e4⟩ := hH
  have hlt : (o + m) % 5 < 5 := Nat.mod_lt _ (by decide)
  have f1 : μ2 213 1 = nI o := by rw [fr 213 (by decide) (by omega)]; exact e1
  have f2 : μ2 213 2 = nI m := by rw [fr 213 (by decide) (by omega)]; exact e2
  by_cases hm4 : m < 4
  · refine ⟨up2 μ2 213 2 (nI (m + 1)), fun q hq => up2_k hq, fun Φ hΦ => ?_, fun u ρ2 y1 y2 y3 y4 y5 y6 y7 y8 => ?_⟩
    · unfold w_X2_keep
      have hng : ¬ (4 : Int32) ≤ nI m := nI_ge (a := m) (b := 4) (by omega) (by omega)
      rw [f2, if_neg hng, nI_1]
      rintro _ rfl
      exact hΦ
    · have f3 : ρ2 0 3 = nI m := y3.trans e3
      obtain ⟨ρ3, m0, d, hc, g1, g2, g3, g4, g5, g6⟩ := s_recorded hm ρ2 f3
      obtain ⟨rfl, rfl⟩ : m0 = m ∧ d = 0 := by omega
      have u213 : u 213 = up2 μ2 213 2 (nI (m0 + 1)) 213 := y1 213 (by decide) (by decide)
      refine ⟨ρ3, ⟨?_, ⟨o, m0 + 1, ho, by omega, ?_, ?_, g3, fun j hj => ?_⟩, ?_⟩, g6⟩
      · exact y8.to (fun q hq => rfl) (fun i _ => by rw [g1 1 (by decide) (by decide)]) (Nat.le_refl _) (TB_lt (by omega))
      · rw [u213, up2_n (Or.inr (by decide))]; exact f1
      · rw [u213, up2_s]
      · have hlj : (o + j) % 5 < 5 := Nat.mod_lt _ (by decide)
        by_cases hjm : j = m0
        · subst hjm
          exact hP.to (fun q hq => by rw [y1 _ (by omega) (by omega), up2_k (by omega)]) (fun i hi => by rw [g5 i hi]; exact y7 i hi) TB_le (TB_lt (by omega))
        · exact (e4 j (by omega)).to (fun q hq => by rw [y1 _ (by omega) (by omega), up2_k (by omega)]; exact fr _ (by omega) (by omega)) (fun i hi => by rw [g4 j i (by omega) hi, y5]; rfl) TB_le (TB_lt (by omega))
      · exact hT.to y2 (by rw [y1 746 (by decide) (by decide), up2_k (by decide), fr 746 (by decide) (by omega)]) (by rw [g2 4 (by decide), y4]) (by rw [g1 4 (by decide) (by decide), y6])
  · have hm' : m = 4 := by omega
    subst hm'
    refine ⟨up2 μ2 213 1 (nI ((o + 1) % 5)), fun q hq => up2_k hq, fun Φ hΦ => ?_, fun u ρ2 y1 y2 y3 y4 y5 y6 y7 y8 => ?_⟩
    · unfold w_X2_keep w_X2_rowOf
      rw [f2, if_pos (by decide), f1, d_fm (n := o + 1) (d := 5) (k := 5) (nI_1 o) (by omega) rfl (by decide) (by decide)]
      rintro _ rfl
      exact hΦ
    · have f3 : ρ2 0 3 = nI 4 := y3.trans e3
      obtain ⟨ρ3, m0, d, hc, g1, g2, g3, g4, g5, g6⟩ := s_recorded hm ρ2 f3
      obtain ⟨rfl, rfl⟩ : m0 = 3 ∧ d = 1 := by omega
      have u213 : u 213 = up2 μ2 213 1 (nI ((o + 1) % 5)) 213 := y1 213 (by decide) (by decide)
      refine ⟨ρ3, ⟨?_, ⟨(o + 1) % 5, 4, Nat.mod_lt _ (by decide), by decide, ?_, ?_, g3, fun j hj => ?_⟩, ?_⟩, g6⟩
      · exact y8.to (fun q hq => rfl) (fun i _ => by rw [g1 1 (by decide) (by decide)]) (Nat.le_refl _) (TB_lt (by omega))
      · rw [u213, up2_s]
      · rw [u213, up2_n (Or.inr (by decide))]; exact f2
      · by_cases hjm : j = 3
        · subst hjm
          rw [show ((o + 1) % 5 + 3) % 5 = (o + 4) % 5 by omega]
          exact hP.to (fun q hq => by rw [y1 _ (by omega) (by omega), up2_k (by omega)]) (fun i hi => by rw [g5 i hi]; exact y7 i hi) TB_le (TB_lt (by omega))
        · rw [show ((o + 1) % 5 + j) % 5 = (o + (j + 1)) % 5 by omega]
          have hlj : (o + (j + 1)) % 5 < 5 := Nat.mod_lt _ (by decide)
          exact (e4 (j + 1) (by omega)).to (fun q hq => by rw [y1 _ (by omega) (by omega), up2_k (by omega)]; exact fr _ (by omega) (by omega)) (fun i hi => by rw [g4 j i (by omega) hi, y5]) TB_le (TB_lt (by omega))
      · exact hT.to y2 (by rw [y1 746 (by decide) (by decide), up2_k (by decide), fr 746 (by decide) (by omega)]) (by rw [g2 4 (by decide), y4]) (by rw [g1 4 (by decide) (by decide), y6])
theorem op_run : Op_run Sim := fun n μ ρ hn hS => by
  obtain ⟨⟨ng, np, nx, nl, hR⟩, -, ⟨l, hl, t1, t2, t3⟩⟩ := id hS
  obtain ⟨n1, n2, n3, n4⟩ := hR.1.n
  have c5 : μ 1 5 = nI ng := hR.1.1.1.1
  have r1 : ρ 1 1 = nI ng := hR.1.1.1.2.1
  obtain ⟨f, F⟩ := rd_all (L := ρ 4) (l := l) (ng := ng) hl n1
  obtain ⟨ρ0, hρ0⟩ : ∃ ρ0 : Mm, ρ0 = up2 (up2 (up2 ρ 0 6 0) 0 7 1) 0 8 0 := ⟨_, rfl⟩
  have fr0 : (∀ x, x ≠ 0 → ρ0 x = ρ x) ∧ ρ0 0 3 = ρ 0 3 ∧ ρ0 0 4 = ρ 0 4 := by
    rw [hρ0]
    exact ⟨fun x hx => by rw [up2_k hx, up2_k hx, up2_k hx], by rw [up2_n (by omega), up2_n (by omega), up2_n (by omega)], by rw [up2_n (by omega), up2_n (by omega), up2_n (by omega)]⟩
  have ps0 : PS (ρ 4) l ng f ρ0 0 ρ0 := by
    refine ⟨⟨fr0.2.2.trans t2, ?_, fr0.1 4 (by decide), hl, by show 0 < 100; decide, ?_⟩, ?_, by rw [fr0.1 1 (by decide)]; exact r1, ⟨fun x _ _ => rfl, fun j _ => rfl⟩, fun i hi => absurd hi (Nat.not_lt_zero _)⟩
    · rw [hρ0, up2_n (by omega), up2_n (by omega), up2_s]
      rfl
    · rw [hρ0, up2_n (by omega), up2_s]
    · rw [hρ0, up2_s]
      rfl
  have cs0 : CS (ρ 4) l (up2 μ 745 2 0) (ordP f 0) := ⟨by rw [up2_n (by omega)]; exact t1, up2_s _ _ _ _, fun i hi => by rw [up2_k (by decide)]; exact t3 i hi, hl, by show 0 < 100; decide⟩
  have A : ∀ (Ψ : Int32 → Mm → Prop), w_X10_readOrder ρ0 (fun _ u4 => ∃ n19, w_X10_run_19 Ψ n19 u4) → w_X10_run ρ Ψ := fun Ψ h => by
    unfold w_X10_run
    rintro _ rfl _ rfl _ rfl
    rw [← hρ0]
    exact h
  unfold w_X9_run w_X3_findFault w_X3_restart
  rw [c5]
  rintro _ rfl
  rcases scen F hl with ⟨m, hg⟩ | ⟨m, hf⟩
  · obtain ⟨m', rfl⟩ : ∃ m', m = m' + 1 := ⟨m - 1, by have := hg.1; omega⟩
    refine ⟨m' + 1, find_good F hg m' 0 _ (by omega) cs0 (fun u1 a1 a2 => ?_)⟩
    show (if (-1 : Int32) = -1 then _ else _)
    rw [if_pos rfl]
    have hS1 : Sim n u1 ρ := sim_mod hn hS (fun q hq => by rw [a1 q hq, up2_k hq]) (a2.1.trans t1.symm) (fun x _ _ => rfl) rfl rfl
    obtain ⟨hN1, ⟨o, m, hH1⟩, hT1⟩ := id hS1
    obtain ⟨μ1, p1, p2, p3⟩ := c_prepare hH1 hN1
    refine p3 _ ?_
    have hlt : (o + m) % 5 < 5 := Nat.mod_lt _ (by decide)
    obtain ⟨μ3, k1, k2, k3⟩ := sim_keep2 hn hH1 hT1 (fun q _ hq => p1 q hq) p2
    refine k2 _ ?_
    show ∀ u : Mm, u = up2 μ3 745 2 0 → ∃ n52, w_X9_run_52 _ n52 0 u
    rintro _ rfl
    have lo : ∀ q, q < 107 → up2 μ3 745 2 0 q = u1 q := fun q hq => by
      rw [up2_k (by omega), k1 q (by omega), p1 q (by omega)]
    have hR3 : Rel (HB (up2 μ3 745 2 0) 1) (ρ 1) (TB n) ng np nx nl := hR.blk (fun q hq => by
      show up2 μ3 745 2 0 (1 + q) = μ (1 + q)
      rw [lo _ (by omega), a1 _ (by omega), up2_k (by omega)])
    have cs3 : CS (ρ 4) l (up2 μ3 745 2 0) (ordP f 0) := by
      refine ⟨?_, up2_s _ _ _ _, fun i hi => ?_, hl, by show 0 < 100; decide⟩
      · rw [up2_n (by omega), k1 745 (by decide), p1 745 (by omega)]
        exact a2.1
      · rw [up2_k (by decide), k1 746 (by decide), p1 746 (by omega)]
        exact a2.2.2.1 i hi
    have hm25 := hg.2.1
    have hTT : TB n + 400 * (m' + 1) < 1073741824 := by
      have := TB_lt (n := n + 1) (by omega)
      have := TB_up (n := n)
      omega
    refine ⟨m' + 1 + 1, run_loop F hg (m' + 1) 0 _ (ρ 1) (TB n) np _ (by omega) hTT hR3 cs3 (fun u' r' c np' q1 q2 q3 q4 => ?_)⟩
    show w_X10_run ρ (fun t ρ1 => nI c = t ∧ Sim (n + 1) u' ρ1)
    refine A _ (parse_good F hg m' 0 ρ0 _ (by omega) ps0 (fun ρ' ps => ?_) (fun u hu => ⟨_, hu⟩))
    obtain ⟨⟨w1, w2, w3, w4, w5, w6⟩, w8, w9, ⟨v1, v2⟩, v3⟩ := ps
    unfold w_X10_run_44
    rw [w6, if_neg (by decide)]
    obtain ⟨ρ'', b1, b2, b3⟩ := s_begin ρ'
    refine b3 _ ?_
    have rr : ρ'' 1 = ρ 1 := by rw [b1 1 (by decide), v1 1 (by decide) (by decide), fr0.1 1 (by decide)]
    have e : rw1 ρ'' (ρ 1) = ρ'' := by rw [← rr]; exact rw1_self ρ''
    have e5 : ρ'' 5 = ρ' 5 := b1 5 (by decide)
    have e0 : ρ'' 0 = ρ' 0 := b1 0 (by decide)
    obtain ⟨ρ3, s1, s2⟩ := k3 u' (rw1 ρ'' r') (fun q h1 h2 => (q2 q h1 h2).trans (up2_k h2)) (q3.trans a2.1.symm) (by rw [rw1_o (by decide), e0, v2 3 (by decide)]; exact fr0.2.1) (by rw [rw1_o (by decide), e0, v2 4 (by decide)]; exact fr0.2.2) (by rw [rw1_o (by decide), b1 3 (by decide), v1 3 (by decide) (by decide)]; exact fr0.1 3 (by decide)) (by rw [rw1_o (by decide), b1 4 (by decide), v1 4 (by decide) (by decide)]; exact fr0.1 4 (by decide)) (fun i hi => by rw [rw1_o (by decide), b2 i hi, v1 1 (by decide) (by decide), fr0.1 1 (by decide)]) (by
      rw [rw1_1]
      exact ⟨ng, np', nx, nl, q1.mono (by have := TB_up (n := n); omega) (TB_lt (by omega))⟩)
    have K := q4 ρ'' (fun t ρ1 => nI c = t ∧ Sim (n + 1) u' ρ1) (by rw [e0]; exact w8) (fun i hi => by
      have z := v3 i hi
      unfold ORow at z ⊢
      rw [e5]
      exact z) (s2 _ _ ⟨rfl, s1⟩)
    rw [e] at K
    exact K
  · refine ⟨m + 1, find_bad F hf m 0 _ (by omega) cs0 (fun u1 a1 a2 => ?_)⟩
    have hne : ¬ nI (ordP f (m + 1)) = -1 := fun e => nI_pos (n := ordP f (m + 1)) (by have := a2.2.2.2.2; omega) (by rw [e]; decide)
    show (if nI (ordP f (m + 1)) = -1 then _ else _)
    rw [if_neg hne]
    show w_X10_run ρ (fun t ρ1 => (-100 : Int32) - nI (ordP f (m + 1)) = t ∧ Sim (n + 1) u1 ρ1)
    refine A _ (parse_bad F hf m 0 ρ0 _ (by omega) ps0 (fun ρ' v h7 h6 => ?_) (fun u hu => ⟨_, hu⟩))
    unfold w_X10_run_44
    rw [h7, if_pos rfl, h6]
    exact ⟨rfl, sim_next1 hn (sim_mod hn hS (fun q hq => by rw [a1 q hq, up2_k hq]) (a2.1.trans t1.symm) (fun x x0 x5 => (v.1 x x0 x5).trans (fr0.1 x x0)) ((v.2 3 (by decide)).trans fr0.2.1) ((v.2 4 (by decide)).trans fr0.2.2))⟩
end RUN2
