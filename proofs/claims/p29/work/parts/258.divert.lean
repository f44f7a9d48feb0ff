/-! people who are moved -/
section DIV29
variable {r r' : Nat → Int32} {n ng np nx nl g g' e p B : Nat}
theorem nxA_at {ea : Int32} : nxA r np g ea = atA r np g ea 0 := rfl
theorem move29 {n : Nat} (hg : g < ng) (hg' : g' < ng) (hne : g ≠ g') (he : e < 2) (hn : n ≤ 40) : ∀ (j i : Nat) (σ τ : Mm) (r : Nat → Int32) (T m : Nat), i + j = n → T + j < 1073741824 → Rel σ r T ng np nx nl → σ (11 + 5 * g + 2 * e) 1 = nI j → σ (11 + 5 * g' + 2 * e) 1 = nI m → m < 1000 → (∀ x, x < j → τ (12 + 5 * g + 2 * e) (i + x) = σ (12 + 5 * g + 2 * e) x) → (∀ q, q ≠ 11 + 5 * g + 2 * e → q ≠ 12 + 5 * g + 2 * e → τ q = σ q) → τ (11 + 5 * g + 2 * e) 1 = nI n → ∃ (τ' : Mm) (r' : Nat → Int32), Rel τ' r' (T + j) ng np nx nl ∧ (∀ q k, 11 ≤ q → q < 50 → q ≠ 11 + 5 * g + 2 * e → q ≠ 12 + 5 * g + 2 * e → q ≠ 11 + 5 * g' + 2 * e → q ≠ 12 + 5 * g' + 2 * e → τ' q k = σ q k) ∧ τ' (11 + 5 * g + 2 * e) 1 = 0 ∧ τ' (11 + 5 * g' + 2 * e) 1 = nI (m + j) ∧ (∀ x, x < m → τ' (12 + 5 * g' + 2 * e) x = σ (12 + 5 * g' + 2 * e) x) ∧ (∀ x, x < j → τ' (12 + 5 * g' + 2 * e) (m + x) = σ (12 + 5 * g + 2 * e) x) ∧ (∀ k, k ≠ 7 → (∀ p, p < np → r (120 + 7 * p + 0) = nI (1 + 3 * e) → k ≠ 120 + 7 * p + 3 ∧ k ≠ 120 + 7 * p + 6) → r' k = r k) ∧ (∀ (S : Nat) (μ : Mm) (Φ : Unit → Mm → Prop), Φ () (bl S τ' μ) → ∃ k, w_X8_moveQueue_3 Φ k S (S + (11 + 5 * g + 2 * e)) (S + (11 + 5 * g' + 2 * e)) (nI g') (nI i) (bl S τ μ))
  | 0, i, σ, τ, r, T, m, hi, hT, h, hl, hl', hm, hel, ho, htl => by
    obtain ⟨n1, n2, n3, n4⟩ := h.1.n
    have hcb : 11 + 5 * g + 2 * e < 106 := by omega
    have ho' : ∀ q, q ≠ 11 + 5 * g + 2 * e → q ≠ 12 + 5 * g + 2 * e → up2 τ (11 + 5 * g + 2 * e) 1 0 q = σ q := fun q h1 h2 => by
      rw [up2_k h1]
      exact ho q h1 h2
    refine ⟨up2 τ (11 + 5 * g + 2 * e) 1 0, r, h.far (fun q hq => ho' q ?_ ?_) (KQ_end h.2.2.2.2.1 n1 he hl (up2_s _ _ _ _) ho' (by omega)), fun q k h1 h2 h3 h4 h5 h6 => by rw [ho' q h3 h4], up2_s _ _ _ _, by rw [ho' _ (by omega) (by omega)]; exact hl', fun x hx => by rw [ho' _ (by omega) (by omega)], fun x hx => absurd hx (Nat.not_lt_zero _), fun k _ _ => rfl, fun S μ Φ hΦ => ⟨0 + 1, ?_⟩⟩
    · rcases hq with hq | hq | ⟨g'', hq⟩ <;> omega
    · rcases hq with hq | hq | ⟨g'', hq⟩ <;> omega
    · unfold w_X8_moveQueue_3
      rw [bl_at hcb, htl, if_pos (nI_le (by omega) (by omega))]
      rintro _ rfl
      rw [up2_bl hcb]
      exact hΦ
  | j + 1, i, σ, τ, r, T, m, hi, hT, h, hl, hlm, hm, hel, ho, htl => by
    obtain ⟨n1, n2, n3, n4⟩ := h.1.n
    obtain ⟨p, m', p1, p2, p3, p4, p5, p6, p7⟩ := move1 (ea := nI e) h (by omega) hg hg' hne he rfl hl (by omega)
    have em : m' = m := nI_inj (by omega) (by omega) (p4.symm.trans hlm)
    subst em
    have hp40 : p < 40 := by omega
    have hcb : 11 + 5 * g + 2 * e + 1 < 106 := by omega
    have hpb : 50 + p < 106 := by omega
    have h06 : τ 0 6 = nI np := by
      rw [ho 0 (by omega) (by omega)]
      exact h.1.1.2.1.1
    have hq0 : τ (12 + 5 * g + 2 * e) i = nI p := by
      have := hel 0 (by omega)
      rw [Nat.add_zero] at this
      rw [this]
      exact p3
    have hml : up2 τ (50 + p) 3 (nI g') (11 + 5 * g' + 2 * e) 1 = nI m' := by
      rw [up2_n (by omega), ho _ (by omega) (by omega)]
      exact p4
    obtain ⟨τ2, hτ⟩ : ∃ τ2 : Mm, τ2 = (up2 (up2 (up2 τ (50 + p) 3 (nI g')) (11 + 5 * g' + 2 * e + 1) m' (nI p)) (11 + 5 * g' + 2 * e) 1 (nI (m' + 1))) := ⟨_, rfl⟩
    obtain ⟨σ2, hσ⟩ : ∃ σ2 : Mm, σ2 = (up2 (up2 (up2 (cDrop (11 + 5 * g + 2 * e) j σ) (50 + p) 3 (nI g')) (11 + 5 * g' + 2 * e + 1) m' (nI p)) (11 + 5 * g' + 2 * e) 1 (nI (m' + 1))) := ⟨_, rfl⟩
    obtain ⟨r2, hr⟩ : ∃ r2 : Nat → Int32, r2 = (upd (upd (upd (upd r (120 + 7 * p + 0) (nI (1 + 3 * e))) (120 + 7 * p + 3) (nI g')) (120 + 7 * p + 6) (r 7)) (7) (r 7 + 1)) := ⟨_, rfl⟩
    rw [← hσ, ← hr] at p7
    have hle : ∀ q k, (q = 11 + 5 * g + 2 * e ∨ q = 12 + 5 * g + 2 * e) → τ2 q k = τ q k := fun q k hq => by
      rw [hτ, up2_n (by omega), up2_n (by omega), up2_n (by omega)]
    have hls : ∀ q k, (q = 11 + 5 * g + 2 * e ∨ q = 12 + 5 * g + 2 * e) → σ2 q k = cDrop (11 + 5 * g + 2 * e) j σ q k := fun q k hq => by
      rw [hσ, up2_n (by omega), up2_n (by omega), up2_n (by omega)]
    have s0 : σ2 (11 + 5 * g' + 2 * e) 1 = nI (m' + 1) := by rw [hσ, up2_s]
    have s1 : ∀ x, σ2 (12 + 5 * g' + 2 * e) x = if x = m' then nI p else σ (12 + 5 * g' + 2 * e) x := fun x => by
      rw [hσ, up2_n (by omega), show 11 + 5 * g' + 2 * e + 1 = 12 + 5 * g' + 2 * e by omega]
      by_cases hx : x = m'
      · rw [hx, up2_s, if_pos rfl]
      · rw [up2_n (Or.inr hx), up2_n (by omega), if_neg hx]
        exact cDrop_o (by omega) (by omega)
    have s2 : ∀ x, x < j → σ2 (12 + 5 * g + 2 * e) x = σ (12 + 5 * g + 2 * e) (x + 1) := fun x hx => by
      rw [hls _ _ (Or.inr rfl), show 12 + 5 * g + 2 * e = 11 + 5 * g + 2 * e + 1 by omega, cDrop_e hx]
    have rp : ∀ q, r2 (120 + 7 * q + 0) = r (120 + 7 * q + 0) := fun q => by
      rw [hr, pk_un (by omega), pk_un (by omega), pk_un (by omega)]
      by_cases hqp : q = p
      · rw [hqp, pk_us]; exact p6.symm
      · rw [pk_un (by omega)]
    obtain ⟨τ', r', q1, q2, q3, q4, q5, q6, q7, q8⟩ := move29 hg hg' hne he hn j (i + 1) σ2 τ2 r2 (T + 1) (m' + 1) (by omega) (by omega) p7 (by rw [hls _ _ (Or.inl rfl)]; exact cDrop_l) s0 (by omega) (fun x hx => by
      rw [hle _ _ (Or.inr rfl), hls _ _ (Or.inr rfl), show i + 1 + x = i + (x + 1) by omega, hel (x + 1) (by omega), show 12 + 5 * g + 2 * e = 11 + 5 * g + 2 * e + 1 by omega, cDrop_e hx]) (fun q h1 h2 => by
      rw [hτ, hσ]
      refine up2_cong (up2_cong (up2_cong ?_))
      rw [ho q h1 h2]
      funext x
      exact (cDrop_o (by omega) (Or.inl h1)).symm) (by rw [hle _ _ (Or.inl rfl)]; exact htl)
    refine ⟨τ', r', by rw [show T + (j + 1) = T + 1 + j by omega]; exact q1, fun q k h1 h2 h3 h4 h5 h6 => ?_, q3, by rw [q4]; congr 1; omega, fun x hx => ?_, fun x hx => ?_, fun k k7 hk => ?_, fun S μ Φ hΦ => ?_⟩
    · rw [q2 q k h1 h2 h3 h4 h5 h6, hσ, up2_n (by omega), up2_n (by omega), up2_n (by omega)]
      exact cDrop_o (by omega) (by omega)
    · rw [q5 x (by omega), s1, if_neg (by omega)]
    · rcases (show x = 0 ∨ ∃ y, x = y + 1 by
        cases x with
        | zero => exact Or.inl rfl
        | succ y => exact Or.inr ⟨y, rfl⟩) with e0 | ⟨y, e0⟩
      · rw [e0, Nat.add_zero, q5 m' (by omega), s1, if_pos rfl]
        exact p3.symm
      · rw [e0, show m' + (y + 1) = m' + 1 + y by omega, q6 y (by omega), s2 y (by omega)]
    · have hk2 := hk p p1 p6
      rw [q7 k k7 (fun q hq hw => hk q hq (by rw [← rp q]; exact hw)), hr, pk_un k7, pk_un hk2.2, pk_un hk2.1]
      by_cases hk0 : k = 120 + 7 * p + 0
      · rw [hk0, pk_us]; exact p6.symm
      · rw [pk_un hk0]
    · obtain ⟨k, hk⟩ := q8 S μ Φ hΦ
      refine ⟨k + 1, ?_⟩
      unfold w_X8_moveQueue_3
      rw [bl_at (show 11 + 5 * g + 2 * e < 106 by omega), htl, if_neg (nI_ge (by omega) (by omega)), d_at_y (c := 11 + 5 * g + 2 * e) (k := i) hcb htl hn rfl (by omega), show 11 + 5 * g + 2 * e + 1 = 12 + 5 * g + 2 * e by omega, hq0, d_personAt_y h06 p1 n2, opt_some]
      rintro _ rfl
      rw [Nat.add_assoc S 50 p, up2_bl hpb, d_append (by omega) hml p2, ← hτ, nI_1]
      exact hk
/-- what moving does -/
def DivQ (g g' : Nat) (r : Nat → Int32) (ng np nx nl : Nat) : Int32 → (Nat → Int32) → Nat → Nat → Nat → Nat → Prop := fun v r1 a b c d => v = nI (cnt (qB r (nI g) (nI 0)) np + cnt (qB r (nI g) (nI 1)) np) ∧ (∀ e, e < 2 → cnt (qB r1 (nI g) (nI e)) np = 0) ∧ (∀ e, e < 2 → cnt (qB r1 (nI g') (nI e)) np = cnt (qB r (nI g') (nI e)) np + cnt (qB r (nI g) (nI e)) np) ∧ (0 < cnt (qB r (nI g) (nI 0)) np → atA r1 np g' (nI 0) (nI (cnt (qB r (nI g') (nI 0)) np)) = nxA r np g (nI 0)) ∧ (∀ k, k ≠ 7 → (∀ p, p < np → (r (120 + 7 * p + 0) = 1 ∨ r (120 + 7 * p + 0) = 4) → k ≠ 120 + 7 * p + 3 ∧ k ≠ 120 + 7 * p + 6) → r1 k = r k) ∧ a = ng ∧ b = np ∧ c = nx ∧ d = nl
theorem a_divert (hn : n < 40000) (hg : g < ng) (hg' : g' < ng) (hgg : g ≠ g') (hz : cnt (qB r (nI g) (nI 0)) np + cnt (qB r (nI g) (nI 1)) np ≠ 0) : Acts (fun S => w_X8_moveQueues S (nI g) (nI g')) n r ng np nx nl (DivQ g g' r ng np nx nl) := by
  intro σ h
  obtain ⟨n1, n2, n3, n4⟩ := h.1.n
  have hT := TB29 hn
  have hnn : ¬ nI g = nI g' := fun e => hgg (nI_inj (by omega) (by omega) e)
  obtain ⟨m0, a0, b1, b2, b3, b4, b5, b6, b7, b8⟩ := q_facts (g := g) (e := 0) (ea := nI 0) h.1 (by decide) rfl (h.2.2.2.2.1 g 0 hg (by decide))
  obtain ⟨m1, a1, c1, c2, c3, c4, c5, c6, c7, c8⟩ := q_facts (g := g) (e := 1) (ea := nI 1) h.1 (by decide) rfl (h.2.2.2.2.1 g 1 hg (by decide))
  obtain ⟨k0, x0, d1, d2, d3, d4, d5, d6, d7, d8⟩ := q_facts (g := g') (e := 0) (ea := nI 0) h.1 (by decide) rfl (h.2.2.2.2.1 g' 0 hg' (by decide))
  obtain ⟨k1, x1, e1, e2, e3, e4, e5, e6, e7, e8⟩ := q_facts (g := g') (e := 1) (ea := nI 1) h.1 (by decide) rfl (h.2.2.2.2.1 g' 1 hg' (by decide))
  have hs0 : 11 + 5 * g + 2 * 0 < 106 := by omega
  have hs1 : 11 + 5 * g + 2 * 1 < 106 := by omega
  rw [b6, c6] at hz
  have hnz : ¬ nI (m0 + m1) = 0 := fun e => hz (nI_inj (a := m0 + m1) (b := 0) (by omega) (by omega) e)
  obtain ⟨τ1, r1, u1, u2, u3, u4, u5, u6, u7, u8⟩ := move29 (e := 0) (n := m0) hg hg' hgg (by decide) b1 m0 0 σ σ r (TB n) k0 (by omega) (by omega) h b2 d2 (by omega) (fun x _ => by rw [Nat.zero_add]) (fun q _ _ => rfl) b2
  have hl1 : τ1 (11 + 5 * g + 2 * 1) 1 = nI m1 := by
    rw [u2 _ _ (by omega) (by omega) (by omega) (by omega) (by omega) (by omega)]
    exact c2
  have hl2 : τ1 (11 + 5 * g' + 2 * 1) 1 = nI k1 := by
    rw [u2 _ _ (by omega) (by omega) (by omega) (by omega) (by omega) (by omega)]
    exact e2
  obtain ⟨τ2, r2, v1, v2, v3, v4, v5, v6, v7, v8⟩ := move29 (e := 1) (n := m1) hg hg' hgg (by decide) c1 m1 0 τ1 τ1 r1 (TB n + m0) k1 (by omega) (by omega) u1 hl1 hl2 (by omega) (fun x _ => by rw [Nat.zero_add]) (fun q _ _ => rfl) hl1
  have y0 : τ2 (11 + 5 * g + 2 * 0) 1 = 0 := by
    rw [v2 _ _ (by omega) (by omega) (by omega) (by omega) (by omega) (by omega)]
    exact u3
  have y1 : τ2 (11 + 5 * g' + 2 * 0) 1 = nI (k0 + m0) := by
    rw [v2 _ _ (by omega) (by omega) (by omega) (by omega) (by omega) (by omega)]
    exact u4
  obtain ⟨p0, z0, f1, f2, f3, f4, f5, f6, f7, f8⟩ := q_facts (g := g) (e := 0) (ea := nI 0) v1.1 (by decide) rfl (v1.2.2.2.2.1 g 0 hg (by decide))
  obtain ⟨p1, z1, g1, g2, g3, g4, g5, g6, g7, g8⟩ := q_facts (g := g) (e := 1) (ea := nI 1) v1.1 (by decide) rfl (v1.2.2.2.2.1 g 1 hg (by decide))
  obtain ⟨p2, z2, i1, i2, i3, i4, i5, i6, i7, i8⟩ := q_facts (g := g') (e := 0) (ea := nI 0) v1.1 (by decide) rfl (v1.2.2.2.2.1 g' 0 hg' (by decide))
  obtain ⟨p3, z3, j1, j2, j3, j4, j5, j6, j7, j8⟩ := q_facts (g := g') (e := 1) (ea := nI 1) v1.1 (by decide) rfl (v1.2.2.2.2.1 g' 1 hg' (by decide))
  have o0 : p0 = 0 := nI_inj (by omega) (by omega) (f2.symm.trans y0)
  have o1 : p1 = 0 := nI_inj (by omega) (by omega) (g2.symm.trans v3)
  have o2 : p2 = k0 + m0 := nI_inj (by omega) (by omega) (i2.symm.trans y1)
  have o3 : p3 = k1 + m1 := nI_inj (by omega) (by omega) (j2.symm.trans v4)
  refine ⟨τ2, r2, nI (m0 + m1), ng, np, nx, nl, up29 hn (by omega) v1, fun S μ Φ hΦ => ?_, by rw [b6, c6], fun e he => ?_, fun e he => ?_, fun h0 => ?_, fun k k7 hk => ?_, rfl, rfl, rfl, rfl⟩
  · show w_X8_moveQueues S (nI g) (nI g') (bl S σ μ) Φ
    unfold w_X8_moveQueues w_X1_queuesTogether
    rw [d_gateAt_y h.1.1.1.1 hg n1, opt_some, d_gateAt_y h.1.1.1.1 hg' n1, opt_some, if_neg hnn, show S + 10 + 5 * g + 1 = S + (11 + 5 * g + 2 * 0) by omega, show S + 10 + 5 * g' + 1 = S + (11 + 5 * g' + 2 * 0) by omega, show S + 10 + 5 * g + 3 = S + (11 + 5 * g + 2 * 1) by omega, show S + 10 + 5 * g' + 3 = S + (11 + 5 * g' + 2 * 1) by omega, bl_at hs0, bl_at hs1, b2, c2, nI_add]
    show (if nI (m0 + m1) = 0 then _ else _)
    rw [if_neg hnz]
    exact u8 S μ _ (v8 S μ _ hΦ)
  · rcases (show e = 0 ∨ e = 1 by omega) with rfl | rfl
    · rw [f6, o0]
    · rw [g6, o1]
  · rcases (show e = 0 ∨ e = 1 by omega) with rfl | rfl
    · rw [i6, d6, b6, o2]
    · rw [j6, e6, c6, o3]
  · rw [b6] at h0
    have t1 : atA r2 np g' (nI 0) (nI (cnt (qB r (nI g') (nI 0)) np)) = nI (z2 k0) := by
      rw [d6]
      exact i7 k0 _ rfl (by omega)
    have t2 : nxA r np g (nI 0) = nI (a0 0) := b7 0 0 rfl h0
    have t3 : τ2 (12 + 5 * g' + 2 * 0) k0 = nI (a0 0) := by
      rw [v2 _ _ (by omega) (by omega) (by omega) (by omega) (by omega) (by omega)]
      exact (u6 0 h0).trans (b3 0 h0).1
    rw [t1, t2, ← t3]
    exact (i3 k0 (by omega)).1.symm
  · have q1 : r1 k = r k := u7 k k7 (fun p hp hw => hk p hp (Or.inl hw))
    have e0 : ∀ p, p < np → r1 (120 + 7 * p + 0) = r (120 + 7 * p + 0) := fun p hp => u7 _ (by omega) (fun q hq hw => by omega)
    rw [v7 k k7 (fun p hp hw => hk p hp (Or.inr (by rw [← e0 p hp]; exact hw))), q1]
theorem a_divert_same (hn : n < 40000) (hg : g < ng) : Acts (fun S => w_X8_moveQueues S (nI g) (nI g)) n r ng np nx nl (Bec (-2) r ng np nx nl) := Acts.same hn (fun σ h S μ Φ hΦ => by
  obtain ⟨n1, n2, n3, n4⟩ := h.1.n
  show w_X8_moveQueues S (nI g) (nI g) (bl S σ μ) Φ
  unfold w_X8_moveQueues
  rw [d_gateAt_y h.1.1.1.1 hg n1, opt_some, d_gateAt_y h.1.1.1.1 hg n1, opt_some, if_pos rfl]
  exact hΦ)
theorem a_divert_none (hn : n < 40000) (hg : g < ng) (hg' : g' < ng) (hgg : g ≠ g') (hz : cnt (qB r (nI g) (nI 0)) np + cnt (qB r (nI g) (nI 1)) np = 0) : Acts (fun S => w_X8_moveQueues S (nI g) (nI g')) n r ng np nx nl (Bec (-5) r ng np nx nl) := Acts.same hn (fun σ h S μ Φ hΦ => by
  obtain ⟨n1, n2, n3, n4⟩ := h.1.n
  have hnn : ¬ nI g = nI g' := fun e => hgg (nI_inj (by omega) (by omega) e)
  obtain ⟨m0, a0, b1, b2, b3, b4, b5, b6, -⟩ := q_facts (g := g) (e := 0) (ea := nI 0) h.1 (by decide) rfl (h.2.2.2.2.1 g 0 hg (by decide))
  obtain ⟨m1, a1, c1, c2, c3, c4, c5, c6, -⟩ := q_facts (g := g) (e := 1) (ea := nI 1) h.1 (by decide) rfl (h.2.2.2.2.1 g 1 hg (by decide))
  have hs0 : 11 + 5 * g + 2 * 0 < 106 := by omega
  have hs1 : 11 + 5 * g + 2 * 1 < 106 := by omega
  rw [b6, c6] at hz
  show w_X8_moveQueues S (nI g) (nI g') (bl S σ μ) Φ
  unfold w_X8_moveQueues w_X1_queuesTogether
  rw [d_gateAt_y h.1.1.1.1 hg n1, opt_some, d_gateAt_y h.1.1.1.1 hg' n1, opt_some, if_neg hnn, show S + 10 + 5 * g + 1 = S + (11 + 5 * g + 2 * 0) by omega, show S + 10 + 5 * g + 3 = S + (11 + 5 * g + 2 * 1) by omega, bl_at hs0, bl_at hs1, b2, c2, nI_add, hz]
  show (if nI 0 = 0 then _ else _)
  rw [if_pos (by decide)]
  exact hΦ)
theorem J_div (hJ : J B r ng np) (h8 : ng ≤ 8) (h40 : np ≤ 40) (fr : ∀ k, k ≠ 7 → (∀ p, p < np → (r (120 + 7 * p + 0) = 1 ∨ r (120 + 7 * p + 0) = 4) → k ≠ 120 + 7 * p + 3 ∧ k ≠ 120 + 7 * p + 6) → r' k = r k) : J B r' ng np := J_same hJ (fun p hp => fr _ (by omega) (fun q hq _ => by omega)) (fun p hp => fr _ (by omega) (fun q hq _ => by omega)) (fun p hp w1 w4 => fr _ (by omega) (fun q hq hw => by
  by_cases e : q = p
  · rw [e] at hw
    rcases hw with hw | hw
    · exact absurd hw w1
    · exact absurd hw w4
  · omega)) (fun p hp => fr _ (by omega) (fun q hq _ => by omega)) (fun g f hg _ _ => fr _ (by omega) (fun q hq _ => by omega)) (fun x hx e => by rw [fr _ (by omega) (fun q hq _ => by omega)]; exact e) (fr _ (by omega) (fun q hq _ => by omega)) (Or.inl (fr _ (by omega) (fun q hq _ => by omega))) (Or.inl (fr _ (by omega) (fun q hq _ => by omega)))
end DIV29
