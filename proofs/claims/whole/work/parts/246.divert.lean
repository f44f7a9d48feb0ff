/-! queues move to another gate -/
section DIVERT
variable {σ τ : Mm} {r : Nat → Int32} {T ng np nx nl g g' p e m : Nat} {μ ρ : Mm}
theorem VP_keep3 {σ' : Mm} (h' : ∀ f, f ≠ 3 → σ' (50 + p) f = σ (50 + p) f) (h : VP σ T nx p) : VP σ' T nx p := by
  unfold VP
  rw [h' 2 (by decide), h' 1 (by decide), h' 6 (by decide), h' 0 (by decide), h' 5 (by decide)]
  exact h
theorem up2_cong {a b q : Nat} {v : Int32} (h : τ q = σ q) : up2 τ a b v q = up2 σ a b v q := by
  funext j
  by_cases hq : q = a ∧ j = b
  · obtain ⟨rfl, rfl⟩ := hq
    rw [up2_s, up2_s]
  · rw [up2_n (by omega), up2_n (by omega), h]
/-- all but the queues stays -/
theorem Rel.far (h : Rel σ r T ng np nx nl) (o : ∀ q, (q < 10 ∨ 50 ≤ q ∨ ∃ g', q = 10 + 5 * g') → τ q = σ q) (hQ : KQ τ r ng np) : Rel τ r T ng np nx nl := by
  obtain ⟨hC, hVG, hVP, hVX, hRQ, hRN, hRU⟩ := h
  obtain ⟨a, b, c, d, e, kk⟩ := hC
  refine ⟨⟨?_, fun g' f hg' hf => ?_, fun q f hq hf => ?_, fun x f hx hf => ?_, fun x f hx hf => ?_, ?_⟩, fun g' hg' => ?_, fun q hq => VP_keep (fun f => by rw [o _ (by omega)]) (hVP q hq), fun x hx => VX_keep (fun f _ => by rw [o _ (by omega)]) (hVX x hx), hQ, fun q hq hw => ?_, ?_⟩
  · unfold KC
    rw [o 0 (by omega)]
    exact a
  · rw [o _ (Or.inr (Or.inr ⟨g', rfl⟩))]; exact b g' f hg' hf
  · rw [o _ (by omega)]; exact c q f hq hf
  · rw [o _ (by omega)]; exact d x f hx hf
  · rw [o _ (by omega)]; exact e x f hx hf
  · obtain ⟨n, l, h1, h2, h3, h4, h5, h6⟩ := kk
    exact ⟨n, l, h1, h2, by rw [o _ (by omega)]; exact h3, by rw [o _ (by omega)]; exact h4, h5, fun k j hk hj => by
      rw [o _ (by omega)]
      exact h6 k j hk hj⟩
  · exact VG_keep (fun f => by rw [o _ (Or.inr (Or.inr ⟨g', rfl⟩))]) (fun q hq _ _ => by rw [o _ (by omega)]; exact ⟨rfl, rfl, rfl⟩) rfl (hVG g' hg')
  · rw [o _ (by omega)] at hw
    exact hRN q hq hw
  · exact KU_keep (fun q hq => by rw [o _ (by omega)]) (fun q hq => inB_keep (by rw [o _ (by omega)])) (fun x => o _ (by omega)) (fun k hk => by rw [o _ (by omega)]; exact ⟨rfl, rfl⟩) hRU
/-- an empty queue holds no cells -/
theorem KQ_end (h : KQ σ r ng np) (hng : ng ≤ 8) (he : e < 2) (h0 : σ (11 + 5 * g + 2 * e) 1 = nI 0) (t0 : τ (11 + 5 * g + 2 * e) 1 = nI 0) (o : ∀ q, q ≠ 11 + 5 * g + 2 * e → q ≠ 12 + 5 * g + 2 * e → τ q = σ q) (hg : g < 8) : KQ τ r ng np := by
  intro g0 e0 hg0 he0
  obtain ⟨n, a, b1, b2, b3, b4, b5⟩ := h g0 e0 hg0 he0
  have op : ∀ q, τ (50 + q) = σ (50 + q) := fun q => o _ (by omega) (by omega)
  by_cases hge : g0 = g ∧ e0 = e
  · obtain ⟨rfl, rfl⟩ := hge
    have hn : n = 0 := nI_inj (by omega) (by omega) (b2.symm.trans h0)
    subst hn
    exact ⟨0, a, b1, t0, fun i hi => absurd hi (Nat.not_lt_zero _), b4, fun q hq e3 e2 => by
      rw [op] at e3 e2
      exact b5 q hq e3 e2⟩
  · refine ⟨n, a, b1, by rw [o _ (by omega) (by omega)]; exact b2, fun i hi => ?_, b4, fun q hq e3 e2 => ?_⟩
    · rw [o _ (by omega) (by omega), op]
      exact b3 i hi
    · rw [op] at e3 e2
      exact b5 q hq e3 e2
set_option maxHeartbeats 4000000 in
theorem move0 (hC : Core σ r T ng np nx nl) (hVG : ∀ g', g' < ng → VG σ r np g') (hVP : ∀ q, q < np → VP σ T nx q) (hVX : ∀ x, x < nx → VX σ nl x) (hQ : KQp σ r ng np p) (hN : ∀ q, q < np → q ≠ p → (σ (50 + q) 2 = nI 1 ∨ σ (50 + q) 2 = nI 4) → NumOk r q) (hRU : KU σ np nx nl) (hp : p < np) (hg : g < ng) (he : e < 2) (e2 : σ (50 + p) 2 = nI (1 + 3 * e)) (hl : σ (11 + 5 * g + 2 * e) 1 = nI m) (hm : m < 40) (hT : T + 1 < 1073741824) : Rel (up2 (up2 (up2 σ (50 + p) 3 (nI g)) (11 + 5 * g + 2 * e + 1) m (nI p)) (11 + 5 * g + 2 * e) 1 (nI (m + 1))) (upd (upd (upd (upd r (120 + 7 * p + 0) (nI (1 + 3 * e))) (120 + 7 * p + 3) (nI g)) (120 + 7 * p + 6) (r 7)) (7) (r 7 + 1)) (T + 1) ng np nx nl := by
  obtain ⟨n1, n2, n3, n4⟩ := hC.n
  obtain ⟨σ', hS⟩ : ∃ σ' : Mm, σ' = (up2 (up2 (up2 σ (50 + p) 3 (nI g)) (11 + 5 * g + 2 * e + 1) m (nI p)) (11 + 5 * g + 2 * e) 1 (nI (m + 1))) := ⟨_, rfl⟩
  obtain ⟨r', hR⟩ : ∃ r' : Nat → Int32, r' = (upd (upd (upd (upd r (120 + 7 * p + 0) (nI (1 + 3 * e))) (120 + 7 * p + 3) (nI g)) (120 + 7 * p + 6) (r 7)) (7) (r 7 + 1)) := ⟨_, rfl⟩
  have o : ∀ q j, (¬ (q = 50 + p ∧ j = 3) ∧ ¬ (q = 11 + 5 * g + 2 * e + 1 ∧ j = m) ∧ ¬ (q = 11 + 5 * g + 2 * e ∧ j = 1)) → σ' q j = σ q j := by
    intro q j hqj
    rw [hS, up2_n (by omega), up2_n (by omega), up2_n (by omega)]
  have ro : ∀ i, (i ≠ 120 + 7 * p + 0 ∧ i ≠ 120 + 7 * p + 3 ∧ i ≠ 120 + 7 * p + 6 ∧ i ≠ 7) → r' i = r i := by
    intro i hi
    rw [hR, pk_un (by omega), pk_un (by omega), pk_un (by omega), pk_un (by omega)]
  have v0 : σ' (50 + p) 3 = nI g := by
    rw [hS, up2_n (by omega), up2_n (by omega), up2_s]
  have v1 : σ' (11 + 5 * g + 2 * e + 1) m = nI p := by
    rw [hS, up2_n (by omega), up2_s]
  have v2 : σ' (11 + 5 * g + 2 * e) 1 = nI (m + 1) := by
    rw [hS, up2_s]
  have w0 : r' (120 + 7 * p + 0) = nI (1 + 3 * e) := by
    rw [hR, pk_un (by omega), pk_un (by omega), pk_un (by omega), pk_us]
  have w1 : r' (120 + 7 * p + 3) = nI g := by
    rw [hR, pk_un (by omega), pk_un (by omega), pk_us]
  have w2 : r' (120 + 7 * p + 6) = r 7 := by
    rw [hR, pk_un (by omega), pk_us]
  have w3 : r' (7) = r 7 + 1 := by
    rw [hR, pk_us]
  rw [← hS, ← hR]
  obtain ⟨a, b, c, d, e', kk⟩ := hC
  obtain ⟨a1, a2, a3, a4, a5, ⟨t, t1, t2, t3⟩, ⟨k, m1, m2⟩, a8⟩ := a
  have m7 : r 7 < r 7 + 1 := by rw [m2, nI_1]; exact nI_lt (by omega) (by omega)
  refine ⟨⟨?_, fun g' f hg' hf => ?_, fun q f hq hf => ?_, fun x f hx hf => ?_, fun x f hx hf => ?_, ?_⟩, fun g' hg' => ?_, fun q hq => VP_mono (by omega) (VP_keep3 (fun f hf => o _ _ (by omega)) (hVP q hq)), fun x hx => VX_keep (fun f _ => o _ _ (by omega)) (hVX x hx), ?_, fun q hq hw => ?_, ?_⟩
  · refine ⟨?_, ?_, ?_, ?_, ?_, ⟨t, by omega, ?_, ?_⟩, ⟨k + 1, by omega, ?_⟩, hT⟩
    · rw [o _ _ (by omega), ro _ (by omega)]; exact a1
    · rw [o _ _ (by omega), ro _ (by omega)]; exact a2
    · rw [o _ _ (by omega), ro _ (by omega)]; exact a3
    · rw [o _ _ (by omega), ro _ (by omega)]; exact a4
    · rw [o _ _ (by omega), ro _ (by omega)]; exact a5
    · rw [o _ _ (by omega)]; exact t2
    · rw [ro _ (by omega)]; exact t3
    · rw [w3, m2, nI_1]
  · have := gm_lt hf
    rw [o _ _ (by omega), ro _ (by omega)]; exact b g' f hg' hf
  · by_cases hqp : q = p
    · rw [hqp]
      rcases (show f = 0 ∨ f = 1 ∨ f = 2 ∨ f = 3 ∨ f = 4 ∨ f = 5 by omega) with rfl | rfl | rfl | rfl | rfl | rfl
      · exact (o _ _ (by omega)).trans ((c p 0 hp (by decide)).trans (ro (120 + 7 * p + 1) (by omega)).symm)
      · exact (o _ _ (by omega)).trans ((c p 1 hp (by decide)).trans (ro (120 + 7 * p + 2) (by omega)).symm)
      · rw [o _ _ (by omega)]
        exact e2.trans w0.symm
      · exact v0.trans w1.symm
      · exact (o _ _ (by omega)).trans ((c p 4 hp (by decide)).trans (ro (120 + 7 * p + 4) (by omega)).symm)
      · exact (o _ _ (by omega)).trans ((c p 5 hp (by decide)).trans (ro (120 + 7 * p + 5) (by omega)).symm)
    · have := pm_lt hf
      rw [o _ _ (by omega), ro _ (by omega)]; exact c q f hq hf
  · rw [o _ _ (by omega), ro _ (by omega)]; exact d x f hx hf
  · have := lm_lt hf
    rw [o _ _ (by omega), ro _ (by omega)]; exact e' x f hx hf
  · obtain ⟨n, l, h1, h2, h3, h4, h5, h6⟩ := kk
    exact ⟨n, l, h1, h2, by rw [o _ _ (by omega)]; exact h3, by rw [o _ _ (by omega)]; exact h4, by rw [ro _ (by omega)]; exact h5, fun k j hk hj => by
      rw [o _ _ (by omega), ro _ (by omega)]
      exact h6 k j hk hj⟩
  · refine VG_keep2 (fun f _ => o _ _ (by omega)) (fun q hq _ h2 _ => ?_) (ro _ (by omega)) (hVG g' hg')
    have hqp : q ≠ p := fun e' => by
      rw [e', e2] at h2
      have := nI_inj (by omega) (by omega) h2
      omega
    exact ⟨o _ _ (by omega), o _ _ (by omega), o _ _ (by omega)⟩
  · refine KQ_add (n := m) (e := e) n1 n2 hQ hp hg he hl (by omega) (fun q hq hne hw => ?_) (fun q j h1 h2 h3 h4 h5 => ?_) v2 ?_ (fun q hq hne => ⟨o _ _ (by omega), o _ _ (by omega)⟩) v0 (by rw [o _ _ (by omega)]; exact e2) (fun q hq hne => ro _ (by omega))
    · rw [w2]
      refine (hN q hq hne ?_).1
      rcases (show e = 0 ∨ e = 1 by omega) with rfl | rfl
      · exact Or.inl hw
      · exact Or.inr hw
    · have h6 := h3 g
      exact o _ _ (by omega)
    · rw [show 12 + 5 * g + 2 * e = 11 + 5 * g + 2 * e + 1 by omega]
      exact v1
  · by_cases hqp : q = p
    · rw [hqp]
      exact ⟨by rw [w2, w3]; exact m7, g, by omega, w1, by rw [ro 1 (by omega), a1.2.1]; exact nI_lt hg (by omega)⟩
    · rw [o _ _ (by omega)] at hw
      obtain ⟨y1, y2⟩ := hN q hq hqp hw
      refine ⟨by rw [ro _ (by omega), w3]; exact lt_tr y1 m7, ?_⟩
      rw [ro _ (by omega), ro 1 (by omega)]
      exact y2
  · exact KU_keep (fun q hq => o _ _ (by omega)) (fun q hq => inB_keep (o _ _ (by omega))) (fun x => by
      funext j
      exact o _ _ (by omega)) (fun k hk => ⟨o _ _ (by omega), o _ _ (by omega)⟩) hRU
theorem move1 {j : Nat} {ea : Int32} (h : Rel σ r T ng np nx nl) (hT : T + 1 < 1073741824) (hg : g < ng) (hg' : g' < ng) (hne : g ≠ g') (he : e < 2) (hea : ea = nI e) (hl : σ (11 + 5 * g + 2 * e) 1 = nI (j + 1)) (hj : j + 1 ≤ 40) : ∃ p m, p < np ∧ m < 40 ∧ σ (12 + 5 * g + 2 * e) 0 = nI p ∧ σ (11 + 5 * g' + 2 * e) 1 = nI m ∧ fnd (fun p => qB r (nI g) ea p && decide (nI (cnt (aB r (nI g) ea p) np) = 0)) np 0 = nI p ∧ r (120 + 7 * p + 0) = nI (1 + 3 * e) ∧ Rel (up2 (up2 (up2 (cDrop (11 + 5 * g + 2 * e) j σ) (50 + p) 3 (nI g')) (11 + 5 * g' + 2 * e + 1) m (nI p)) (11 + 5 * g' + 2 * e) 1 (nI (m + 1))) (upd (upd (upd (upd r (120 + 7 * p + 0) (nI (1 + 3 * e))) (120 + 7 * p + 3) (nI g')) (120 + 7 * p + 6) (r 7)) (7) (r 7 + 1)) (T + 1) ng np nx nl := by
  obtain ⟨n1, n2, n3, n4⟩ := h.1.n
  obtain ⟨n, a, b1, b2, b3, b4, b5, b6, b7, b8⟩ := q_facts (g := g) (e := e) (ea := ea) h.1 he hea (h.2.2.2.2.1 g e hg he)
  have hn : n = j + 1 := nI_inj (by omega) (by omega) (b2.symm.trans hl)
  subst hn
  obtain ⟨d1, d2, d3, d4⟩ := b3 0 (by omega)
  obtain ⟨k1, k2, k3, k4, k5, k6, k7, k8⟩ := after_drop h hg he hj d2 hl d1 d3 d4
  obtain ⟨m, m1, m2⟩ := KQp_len (e := e) k5 d2 hg' he
  have hm : σ (11 + 5 * g' + 2 * e) 1 = nI m := by
    rw [cDrop_o (by omega) (by omega)] at m1
    exact m1
  exact ⟨a 0, m, d2, by omega, d1, hm, b7 0 0 rfl (by omega), (h.1.2.2.1 (a 0) 2 d2 (by decide)).symm.trans d4, move0 k1 k2 k3 k4 k5 k6 k7 d2 hg' he (by rw [cDrop_o (by omega) (by omega)]; exact d4) m1 (by omega) hT⟩
theorem move_loop {n : Nat} {ea : Int32} (hg : g < ng) (hg' : g' < ng) (hne : g ≠ g') (he : e < 2) (hea : ea = nI e) (hn : n ≤ 40) : ∀ (j i : Nat) (σ τ : Mm) (r : Nat → Int32) (T : Nat), i + j = n → T + j < 1073741824 → Rel σ r T ng np nx nl → σ (11 + 5 * g + 2 * e) 1 = nI j → (∀ x, x < j → τ (12 + 5 * g + 2 * e) (i + x) = σ (12 + 5 * g + 2 * e) x) → (∀ q, q ≠ 11 + 5 * g + 2 * e → q ≠ 12 + 5 * g + 2 * e → τ q = σ q) → τ (11 + 5 * g + 2 * e) 1 = nI n → ∃ (τ' : Mm) (r' : Nat → Int32), Rel τ' r' (T + j) ng np nx nl ∧ (∀ e', e' < 2 → e' ≠ e → τ' (11 + 5 * g + 2 * e') 1 = σ (11 + 5 * g + 2 * e') 1) ∧ (∀ (S : Nat) (μ : Mm) (Φ : Unit → Mm → Prop), Φ () (bl S τ' μ) → ∃ k, w_X8_moveQueue_3 Φ k S (S + (11 + 5 * g + 2 * e)) (S + (11 + 5 * g' + 2 * e)) (nI g') (nI i) (bl S τ μ)) ∧ (∀ (ρ : Mm) (X : Int32 → Int32 → Int32 → Int32 → Mm → Prop) (Φ : Int32 → Mm → Prop) (c : Int32), X (nI g) (nI g') (c + nI j) (ea + 1) (rw1 ρ r') → ∃ k, w_X10_divert_51 X Φ k (nI g) (nI g') c ea (fnd (fun p => qB r (nI g) ea p && decide (nI (cnt (aB r (nI g) ea p) np) = 0)) np 0) (rw1 ρ r))
  | 0, i, σ, τ, r, T, hi, hT, h, hl, hel, ho, htl => by
    obtain ⟨n1, n2, n3, n4⟩ := h.1.n
    obtain ⟨n', a, b1, b2, b3, b4, b5, b6, b7, b8⟩ := q_facts (g := g) (e := e) (ea := ea) h.1 he hea (h.2.2.2.2.1 g e hg he)
    have hn' : n' = 0 := nI_inj (by omega) (by omega) (b2.symm.trans hl)
    subst hn'
    have hcb : 11 + 5 * g + 2 * e < 106 := by omega
    have ho' : ∀ q, q ≠ 11 + 5 * g + 2 * e → q ≠ 12 + 5 * g + 2 * e → up2 τ (11 + 5 * g + 2 * e) 1 0 q = σ q := fun q h1 h2 => by
      rw [up2_k h1]
      exact ho q h1 h2
    refine ⟨up2 τ (11 + 5 * g + 2 * e) 1 0, r, h.far (fun q hq => ho' q ?_ ?_) (KQ_end h.2.2.2.2.1 n1 he hl (up2_s _ _ _ _) ho' (by omega)), fun e' he' hne' => ?_, fun S μ Φ hΦ => ⟨0 + 1, ?_⟩, fun ρ X Φ c hX => ⟨0 + 1, ?_⟩⟩
    · rcases hq with hq | hq | ⟨g'', hq⟩ <;> omega
    · rcases hq with hq | hq | ⟨g'', hq⟩ <;> omega
    · rw [ho' _ (by omega) (by omega)]
    · unfold w_X8_moveQueue_3
      rw [bl_at hcb, htl, if_pos (nI_le (by omega) (by omega))]
      rintro _ rfl
      rw [up2_bl hcb]
      exact hΦ
    · unfold w_X10_divert_51
      rw [b8 0 (by decide), if_pos (by decide)]
      rw [show c + nI 0 = c from Int32.add_zero c] at hX
      exact hX
  | j + 1, i, σ, τ, r, T, hi, hT, h, hl, hel, ho, htl => by
    obtain ⟨n1, n2, n3, n4⟩ := h.1.n
    obtain ⟨p, m, p1, p2, p3, p4, p5, p6, p7⟩ := move1 h (by omega) hg hg' hne he hea hl (by omega)
    have hp40 : p < 40 := by omega
    have hcb : 11 + 5 * g + 2 * e + 1 < 106 := by omega
    have hpb : 50 + p < 106 := by omega
    have h06 : τ 0 6 = nI np := by
      rw [ho 0 (by omega) (by omega)]
      exact h.1.1.2.1.1
    have hq0 : τ (12 + 5 * g + 2 * e) i = nI p := by
      have := hel 0 (by omega)
      rw [Nat.add_zero] at this
      rw [this]
      exact p3
    have hml : up2 τ (50 + p) 3 (nI g') (11 + 5 * g' + 2 * e) 1 = nI m := by
      rw [up2_n (by omega), ho _ (by omega) (by omega)]
      exact p4
    obtain ⟨τ2, hτ⟩ : ∃ τ2 : Mm, τ2 = (up2 (up2 (up2 τ (50 + p) 3 (nI g')) (11 + 5 * g' + 2 * e + 1) m (nI p)) (11 + 5 * g' + 2 * e) 1 (nI (m + 1))) := ⟨_, rfl⟩
    obtain ⟨σ2, hσ⟩ : ∃ σ2 : Mm, σ2 = (up2 (up2 (up2 (cDrop (11 + 5 * g + 2 * e) j σ) (50 + p) 3 (nI g')) (11 + 5 * g' + 2 * e + 1) m (nI p)) (11 + 5 * g' + 2 * e) 1 (nI (m + 1))) := ⟨_, rfl⟩
    obtain ⟨r2, hr⟩ : ∃ r2 : Nat → Int32, r2 = (upd (upd (upd (upd r (120 + 7 * p + 0) (nI (1 + 3 * e))) (120 + 7 * p + 3) (nI g')) (120 + 7 * p + 6) (r 7)) (7) (r 7 + 1)) := ⟨_, rfl⟩
    rw [← hσ, ← hr] at p7
    have hle : ∀ q k, (q = 11 + 5 * g + 2 * e ∨ q = 12 + 5 * g + 2 * e) → τ2 q k = τ q k := fun q k hq => by
      rw [hτ, up2_n (by omega), up2_n (by omega), up2_n (by omega)]
    have hls : ∀ q k, (q = 11 + 5 * g + 2 * e ∨ q = 12 + 5 * g + 2 * e) → σ2 q k = cDrop (11 + 5 * g + 2 * e) j σ q k := fun q k hq => by
      rw [hσ, up2_n (by omega), up2_n (by omega), up2_n (by omega)]
    obtain ⟨τ', r', q1, q2, q3, q4⟩ := move_loop hg hg' hne he hea hn j (i + 1) σ2 τ2 r2 (T + 1) (by omega) (by omega) p7 (by rw [hls _ _ (Or.inl rfl)]; exact cDrop_l) (fun x hx => by
      rw [hle _ _ (Or.inr rfl), hls _ _ (Or.inr rfl), show i + 1 + x = i + (x + 1) by omega, hel (x + 1) (by omega), show 12 + 5 * g + 2 * e = 11 + 5 * g + 2 * e + 1 by omega, cDrop_e hx]) (fun q h1 h2 => by
      rw [hτ, hσ]
      refine up2_cong (up2_cong (up2_cong ?_))
      rw [ho q h1 h2]
      funext x
      exact (cDrop_o (by omega) (Or.inl h1)).symm) (by rw [hle _ _ (Or.inl rfl)]; exact htl)
    refine ⟨τ', r', by rw [show T + (j + 1) = T + 1 + j by omega]; exact q1, fun e' he' hne' => ?_, fun S μ Φ hΦ => ?_, fun ρ X Φ c hX => ?_⟩
    · rw [q2 e' he' hne', hσ, up2_n (by omega), up2_n (by omega), up2_n (by omega)]
      exact cDrop_o (by omega) (by omega)
    · obtain ⟨k, hk⟩ := q3 S μ Φ hΦ
      refine ⟨k + 1, ?_⟩
      unfold w_X8_moveQueue_3
      rw [bl_at (show 11 + 5 * g + 2 * e < 106 by omega), htl, if_neg (nI_ge (by omega) (by omega)), d_at_y (c := 11 + 5 * g + 2 * e) (k := i) hcb htl hn rfl (by omega), show 11 + 5 * g + 2 * e + 1 = 12 + 5 * g + 2 * e by omega, hq0, d_personAt_y h06 p1 n2, opt_some]
      rintro _ rfl
      rw [Nat.add_assoc S 50 p, up2_bl hpb, d_append (by omega) hml p2, ← hτ, nI_1]
      exact hk
    · obtain ⟨k, hk⟩ := q4 ρ X Φ (c + 1) (by
        rw [show c + 1 + nI j = c + nI (j + 1) by rw [Int32.add_assoc, Int32.add_comm 1, nI_1]]
        exact hX)
      refine ⟨k + 1, ?_⟩
      unfold w_X10_divert_51
      rw [p5, if_neg (nI_pos (by omega)), s_of_0 hp40, p6]
      unfold w_X10_queue
      rw [s_put_0 hp40, s_put_3 hp40, rw1_1, show (7 : Int32).toNatClampNeg = 7 from rfl, pk_un (by omega), pk_un (by omega), s_put_6 hp40]
      rintro _ rfl
      rw [rw1_1, up2_rw1, pk_un (show 7 ≠ 120 + 7 * p + 6 by omega), pk_un (show 7 ≠ 120 + 7 * p + 3 by omega), pk_un (show 7 ≠ 120 + 7 * p + 0 by omega), ← hr]
      show w_X10_queuedAt (nI g) ea 0 (rw1 ρ r2) _
      rw [s_queuedAt p7.1.1.2.1.2.1 n2]
      exact hk
theorem do_divert (a b : Int32) : DoOp (fun S => w_X8_moveQueues S a b) (w_X10_divert a b) := by
  intro σ r T ng np nx nl hT h
  obtain ⟨n1, n2, n3, n4⟩ := h.1.n
  have hm := h.mono (show T ≤ T + 20000 by omega) hT
  have h2 : r 2 = nI np := h.1.1.2.1.2.1
  rcases arg_n a (show ng < 1073741824 by omega) with ⟨g, hg, rfl⟩ | ha
  · rcases arg_n b (show ng < 1073741824 by omega) with ⟨g', hg', rfl⟩ | hb
    · by_cases hgg : g = g'
      · subst hgg
        refine ⟨σ, r, -2, ng, np, nx, nl, hm, fun S μ Φ hΦ => ?_, Or.inl ⟨by decide, fun ρ Φ hΦ => ?_⟩⟩
        · show w_X8_moveQueues S (nI g) (nI g) (bl S σ μ) Φ
          unfold w_X8_moveQueues
          rw [d_gateAt_y h.1.1.1.1 hg n1, opt_some, d_gateAt_y h.1.1.1.1 hg n1, opt_some, if_pos rfl]
          exact hΦ
        · unfold w_X10_divert
          rw [s_noGate_y h.1.1.1.2.1 hg (by omega), if_pos rfl, s_noGate_y h.1.1.1.2.1 hg (by omega), if_pos rfl, if_pos rfl]
          exact hΦ
      · have hnn : ¬ nI g = nI g' := fun e => hgg (nI_inj (by omega) (by omega) e)
        obtain ⟨m0, a0, b1, b2, b3, b4, b5, b6, b7, b8⟩ := q_facts (g := g) (e := 0) (ea := 0) h.1 (by decide) (by decide) (h.2.2.2.2.1 g 0 hg (by decide))
        obtain ⟨m1, a1, c1, c2, c3, c4, c5, c6, c7, c8⟩ := q_facts (g := g) (e := 1) (ea := (0 : Int32) + 1) h.1 (by decide) (by decide) (h.2.2.2.2.1 g 1 hg (by decide))
        have hs0 : 11 + 5 * g + 2 * 0 < 106 := by omega
        have hs1 : 11 + 5 * g + 2 * 1 < 106 := by omega
        have A : ∀ (S : Nat) (μ : Mm) (Φ : Int32 → Mm → Prop), w_X8_moveQueues S (nI g) (nI g') (bl S σ μ) Φ = (if nI (m0 + m1) = 0 then Φ (-5) (bl S σ μ) else w_X8_moveQueue S (S + (11 + 5 * g + 2 * 0)) (S + (11 + 5 * g' + 2 * 0)) (nI g') (bl S σ μ) (fun _ u14 => w_X8_moveQueue S (S + (11 + 5 * g + 2 * 1)) (S + (11 + 5 * g' + 2 * 1)) (nI g') u14 (fun _ u16 => Φ (nI (m0 + m1)) u16))) := by
          intro S μ Φ
          unfold w_X8_moveQueues w_X1_queuesTogether
          rw [d_gateAt_y h.1.1.1.1 hg n1, opt_some, d_gateAt_y h.1.1.1.1 hg' n1, opt_some, if_neg hnn, show S + 10 + 5 * g + 1 = S + (11 + 5 * g + 2 * 0) by omega, show S + 10 + 5 * g' + 1 = S + (11 + 5 * g' + 2 * 0) by omega, show S + 10 + 5 * g + 3 = S + (11 + 5 * g + 2 * 1) by omega, show S + 10 + 5 * g' + 3 = S + (11 + 5 * g' + 2 * 1) by omega, bl_at hs0, bl_at hs1, b2, c2, nI_add]
        have B : ∀ (ρ : Mm) (Φ : Int32 → Mm → Prop), w_X10_divert (nI g) (nI g') (rw1 ρ r) Φ = w_X10_begin (rw1 ρ r) (fun _ u8 => (∃ n35 : Nat, w_X10_divert_35 Φ n35 (nI g) (nI g') ((0 : Int32)) ((0 : Int32)) u8)) := by
          intro ρ Φ
          unfold w_X10_divert
          rw [s_noGate_y h.1.1.1.2.1 hg (by omega), if_pos rfl, s_noGate_y h.1.1.1.2.1 hg' (by omega), if_pos rfl, if_neg hnn]
        by_cases hz : m0 + m1 = 0
        · obtain ⟨rfl, rfl⟩ : m0 = 0 ∧ m1 = 0 := by omega
          refine ⟨σ, r, -5, ng, np, nx, nl, hm, fun S μ Φ hΦ => ?_, Or.inr (fun ρ ρ1 Φ hb hd => ?_)⟩
          · show w_X8_moveQueues S (nI g) (nI g') (bl S σ μ) Φ
            rw [A, if_pos (by decide)]
            exact hΦ
          · rw [B]
            refine hb _ ⟨0 + 1 + 1 + 1, ?_⟩
            unfold w_X10_divert_35
            rw [if_neg (by decide), s_queuedAt h2 n2]
            refine ⟨0 + 1, ?_⟩
            unfold w_X10_divert_51
            rw [b8 0 (by decide), if_pos (by decide)]
            show w_X10_divert_35 Φ (0 + 1 + 1) (nI g) (nI g') 0 (0 + 1) (rw1 ρ1 r)
            unfold w_X10_divert_35
            rw [if_neg (by decide), s_queuedAt h2 n2]
            refine ⟨0 + 1, ?_⟩
            unfold w_X10_divert_51
            rw [c8 0 (by decide), if_pos (by decide)]
            show w_X10_divert_35 Φ (0 + 1) (nI g) (nI g') 0 (0 + 1 + 1) (rw1 ρ1 r)
            unfold w_X10_divert_35
            rw [if_pos (by decide), if_pos rfl]
            exact hd
        · have hnz : ¬ nI (m0 + m1) = 0 := fun e => hz (nI_inj (a := m0 + m1) (b := 0) (by omega) (by omega) e)
          obtain ⟨τ1, r1, u1, u2, u3, u4⟩ := move_loop (e := 0) (ea := 0) (n := m0) hg hg' hgg (by decide) (by decide) b1 m0 0 σ σ r T (by omega) (by omega) h b2 (fun x _ => by rw [Nat.zero_add]) (fun q _ _ => rfl) b2
          have hl1 : τ1 (11 + 5 * g + 2 * 1) 1 = nI m1 := by
            rw [u2 1 (by decide) (by decide)]
            exact c2
          obtain ⟨τ2, r2, v1, v2, v3, v4⟩ := move_loop (e := 1) (ea := (0 : Int32) + 1) (n := m1) hg hg' hgg (by decide) (by decide) c1 m1 0 τ1 τ1 r1 (T + m0) (by omega) (by omega) u1 hl1 (fun x _ => by rw [Nat.zero_add]) (fun q _ _ => rfl) hl1
          refine ⟨τ2, r2, nI (m0 + m1), ng, np, nx, nl, v1.mono (by omega) hT, fun S μ Φ hΦ => ?_, Or.inr (fun ρ ρ1 Φ hb hd => ?_)⟩
          · show w_X8_moveQueues S (nI g) (nI g') (bl S σ μ) Φ
            rw [A, if_neg hnz]
            exact u3 S μ _ (v3 S μ _ hΦ)
          · rw [B]
            refine hb _ ⟨0 + 1 + 1 + 1, ?_⟩
            unfold w_X10_divert_35
            rw [if_neg (by decide), s_queuedAt h2 n2]
            refine u4 ρ1 _ Φ 0 ?_
            show w_X10_divert_35 Φ (0 + 1 + 1) (nI g) (nI g') (0 + nI m0) (0 + 1) (rw1 ρ1 r1)
            unfold w_X10_divert_35
            rw [if_neg (by decide), s_queuedAt u1.1.1.2.1.2.1 n2]
            refine v4 ρ1 _ Φ (0 + nI m0) ?_
            show w_X10_divert_35 Φ (0 + 1) (nI g) (nI g') (0 + nI m0 + nI m1) (0 + 1 + 1) (rw1 ρ1 r2)
            unfold w_X10_divert_35
            rw [if_pos (by decide), Int32.zero_add, nI_add, if_neg hnz]
            exact hd
    · refine ⟨σ, r, -1, ng, np, nx, nl, hm, fun S μ Φ hΦ => ?_, Or.inl ⟨by decide, fun ρ Φ hΦ => ?_⟩⟩
      · show w_X8_moveQueues S (nI g) b (bl S σ μ) Φ
        unfold w_X8_moveQueues
        rw [d_gateAt_y h.1.1.1.1 hg n1, opt_some, d_gateAt_n h.1.1.1.1 hb, opt_none]
        exact hΦ
      · unfold w_X10_divert
        rw [s_noGate_y h.1.1.1.2.1 hg (by omega), if_pos rfl, s_noGate_n h.1.1.1.2.1 hb (by omega), if_neg (by decide)]
        exact hΦ
  · refine ⟨σ, r, -1, ng, np, nx, nl, hm, fun S μ Φ hΦ => ?_, Or.inl ⟨by decide, fun ρ Φ hΦ => ?_⟩⟩
    · show w_X8_moveQueues S a b (bl S σ μ) Φ
      unfold w_X8_moveQueues
      rw [d_gateAt_n h.1.1.1.1 ha, opt_none]
      rcases arg_n b (show ng < 1073741824 by omega) with ⟨g', hg', rfl⟩ | hb
      · rw [d_gateAt_y h.1.1.1.1 hg' n1, opt_some]
        exact hΦ
      · rw [d_gateAt_n h.1.1.1.1 hb, opt_none]
        exact hΦ
    · unfold w_X10_divert
      rw [s_noGate_n h.1.1.1.2.1 ha (by omega), if_neg (by decide)]
      exact hΦ
theorem op_divert : Op_divert Sim := fun n μ ρ hn hS a b => op_wrap (do_divert a b) hn hS
end DIVERT
