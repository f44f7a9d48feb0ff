/-! what is told ahead is so -/
section AHEAD29
variable {r r' : Nat → Int32} {n ng np nx nl g p x T B v : Nat} {μ σ : Mm} {Φ : Int32 → Mm → Prop}
theorem M29.up {n' : Nat} (h : M29 n μ r ng np nx nl) (hn : n ≤ n') (h5 : n' ≤ 50000) : M29 n' μ r ng np nx nl := by
  obtain ⟨a, b, c⟩ := h
  refine ⟨a.mono ?_ (TB_lt h5), b, c⟩
  unfold TB
  omega
theorem StepR.v0 (h : StepR r np g r' 0) (hn : np ≤ 40) (hg : g < 8) : ∀ q, q < np → (r' (120 + 7 * q + 0) = 3 ∨ r' (120 + 7 * q + 0) = 5) → (r (120 + 7 * q + 0) = 3 ∨ r (120 + 7 * q + 0) = 5) := by
  have one : ∀ {p : Nat} {v : Int32}, p < np → r' (120 + 7 * p + 0) = v → v ≠ 3 → v ≠ 5 → (∀ q, q < np → q ≠ p → r' (120 + 7 * q + 0) = r (120 + 7 * q + 0)) → ∀ q, q < np → (r' (120 + 7 * q + 0) = 3 ∨ r' (120 + 7 * q + 0) = 5) → (r (120 + 7 * q + 0) = 3 ∨ r (120 + 7 * q + 0) = 5) := fun {p v} hp e n1 n4 ho q hq hw => by
    by_cases hqp : q = p
    · rw [hqp, e] at hw
      rcases hw with hw | hw
      · exact absurd hw n1
      · exact absurd hw n4
    · rw [ho q hq hqp] at hw; exact hw
  have all : (∀ q, q < np → r' (120 + 7 * q + 0) = r (120 + 7 * q + 0)) → ∀ q, q < np → (r' (120 + 7 * q + 0) = 3 ∨ r' (120 + 7 * q + 0) = 5) → (r (120 + 7 * q + 0) = 3 ∨ r (120 + 7 * q + 0) = 5) := fun ho q hq hw => by rw [ho q hq] at hw; exact hw
  rcases h with ⟨-, e, -⟩ | ⟨-, -, e, -⟩ | ⟨p, y, -, hF, -, -, -, e, -⟩ | ⟨p, x, -, hF, -, -, e, -⟩ | ⟨p, -, hF, e, -⟩ | ⟨p, st, o, b, hI, -, -, e, -⟩ | ⟨p, st, o, b, hI, -, -, e, -⟩ | ⟨p, o, b, hI, -, e, -⟩ | ⟨p, o, b, hI, -, -, e, -⟩ | ⟨p, b, hI, -, e, ev⟩ | ⟨p, o, b, hI, -, -, e, ev⟩
  · exact all (fun q _ => by rw [e])
  · exact all (fun q _ => by rw [e])
  · have hp := hF.1
    exact one (v := 0) hp (by rw [e]; exact F_ref_0 hg (by omega)) (by decide) (by decide) (fun q hqn hq => by rw [e]; exact F_ref_o (by omega))
  · have hp := hF.1
    exact one (v := 2) hp (by rw [e]; exact F_go_0 hg (by omega)) (by decide) (by decide) (fun q hqn hq => by rw [e, F_go_o (by omega), F_pay_o (by omega)])
  · have hp := hF.1
    exact one (v := 2) hp (by rw [e]; exact F_go_0 hg (by omega)) (by decide) (by decide) (fun q hqn hq => by rw [e, F_go_o (by omega)])
  · exact all (fun q _ => by rw [e, F_left_o (by omega)])
  · exact all (fun q _ => by rw [e, F_turn_o (by omega), F_left_o (by omega)])
  · exact all (fun q _ => by rw [e, F_turn_o (by omega), F_left_o (by omega)])
  · exact all (fun q _ => by rw [e, F_turn_o (by omega), F_pin_o (by omega), F_left_o (by omega)])
  · exact absurd ev (by decide)
  · exact absurd ev (by decide)
theorem Steps.v0 (hn : np ≤ 40) : ∀ (k i : Nat) {r r' : Nat → Int32}, i + k ≤ 8 → Steps np k i r r' 0 → ∀ q, q < np → (r' (120 + 7 * q + 0) = 3 ∨ r' (120 + 7 * q + 0) = 5) → (r (120 + 7 * q + 0) = 3 ∨ r (120 + 7 * q + 0) = 5)
  | 0, i, r, r', _, h, q, hq, hw => by rw [h.1] at hw; exact hw
  | k + 1, i, r, r', hi, h, q, hq, hw => by
    obtain ⟨r1, v1, v2, a, b, ev⟩ := h
    have e1 : v1 = 0 := by omega
    have e2 : v2 = 0 := by omega
    rw [e1] at a
    rw [e2] at b
    exact a.v0 hn (by omega) q hq (Steps.v0 hn k (i + 1) (by omega) b q hq hw)
theorem Ticks.v0 (hn : np ≤ 40) (h8 : ng ≤ 8) : ∀ (k : Nat) {r r' : Nat → Int32}, Ticks np ng k r r' 0 → ∀ q, q < np → (r' (120 + 7 * q + 0) = 3 ∨ r' (120 + 7 * q + 0) = 5) → (r (120 + 7 * q + 0) = 3 ∨ r (120 + 7 * q + 0) = 5)
  | 0, r, r', h, q, hq, hw => by rw [h.1] at hw; exact hw
  | k + 1, r, r', h, q, hq, hw => by
    obtain ⟨r1, v1, v2, ⟨r2, a, a2⟩, -, b, ev⟩ := h
    have e1 : v1 = 0 := by omega
    have e2 : v2 = 0 := by omega
    rw [e1] at a
    rw [e2] at b
    have k1 := Ticks.v0 hn h8 k b q hq hw
    rw [a2, pk_un (by omega)] at k1
    exact Steps.v0 hn ng 0 (by omega) a q hq k1
theorem foresee_no (h : Rel (HB μ 1) r T ng np nx nl) (hp : p < np) (h1 : r (120 + 7 * p + 0) ≠ 1) (h2 : r (120 + 7 * p + 0) ≠ 2) (h4 : r (120 + 7 * p + 0) ≠ 4) : w_X9_passesIn (nI p) μ Φ = Φ (-4) μ := by
  have e : μ (1 + 50 + p) 2 = r (120 + 7 * p + 0) := h_p h hp (f := 2) (by decide)
  unfold w_X9_passesIn w_X5_isWaiting
  rw [h_person h hp, opt_some, e, if_neg h1, if_neg h4]
  show (if (0 : Int32) = 0 then _ else _) = _
  rw [if_pos rfl, e, if_neg h2]
theorem law_ahead (hn : n + 4 < 40000) (hM : M29 n μ r ng np nx 1) (hp : p < np) (H : ∀ μ' : Mm, M29 (n + 2) μ' r ng np nx 1 → Φ 1 μ') : w_L_ahead (nI p) μ Φ := by
  have h := hM.1
  obtain ⟨n1, n2, n3, n4⟩ := h.1.n
  obtain ⟨w, w5, ew, -⟩ := rel_w h hp
  have fin0 : Φ 1 μ := H μ (hM.up (by omega) (by omega))
  unfold w_L_ahead
  rw [rp_0 h hp]
  by_cases hw : w = 1 ∨ w = 2 ∨ w = 4
  · have hw' : r (120 + 7 * p + 0) = 1 ∨ r (120 + 7 * p + 0) = 2 ∨ r (120 + 7 * p + 0) = 4 := by
      rw [ew]
      rcases hw with q | q | q <;> rw [q]
      · exact Or.inl rfl
      · exact Or.inr (Or.inl rfl)
      · exact Or.inr (Or.inr rfl)
    have m0 : ¬ r (120 + 7 * p + 0) = 0 := by rcases hw' with q | q | q <;> rw [q] <;> decide
    have m3 : ¬ r (120 + 7 * p + 0) = 3 := by rcases hw' with q | q | q <;> rw [q] <;> decide
    have m5 : ¬ r (120 + 7 * p + 0) = 5 := by rcases hw' with q | q | q <;> rw [q] <;> decide
    refine foresee_29 (by omega) hM hp hw' ?_
    intro v μ1 hv hM1
    show (if _ then _ else _)
    rw [if_neg m0, if_neg m3, if_neg m5]
    have fin1 : Φ 1 μ1 := H μ1 (hM1.up (by omega) (by omega))
    rcases hv with e | ⟨j, j1, j2, ev, hWill⟩
    · rw [e, if_pos rfl, if_pos rfl]
      exact fin1
    · have nn5 : ¬ v = -5 := by rw [ev]; exact nI_n5 (by omega)
      rw [if_neg nn5]
      by_cases h200 : j ≤ 200
      · rw [if_pos (show v ≤ 200 by rw [ev]; exact nI_le (b := 200) h200 (by decide))]
        have K : ∀ (m : Nat) (μ2 : Mm), m + 1 ≤ n + 2 → M29 m μ2 r ng np nx 1 → w_L_ahead_125 Φ (nI p) (r (120 + 7 * p + 0)) v μ2 := fun m μ2 hm hM2 => by
          rw [ev]
          unfold w_L_ahead_125 w_X9_pass
          refine act29 (by omega) hM2 (a_ticks (k := j) (by omega) j1 h200) ?_
          rintro v2 r2 ng' np' nx' nl' μ3 ⟨⟨w2, ev2, hw2, hT⟩, e1, e2, e3, e4⟩ hM3 hTop
          rw [e1, e2, e3, e4] at hM3
          have hT0 := hTop (by rw [ev2]; exact nI_pos (by omega))
          obtain ⟨r3, v3, t1, t2, -⟩ := hWill
          have e23 : r2 = r3 := Ticks.one hT t1
          rw [← e23] at t2
          have w2p : 0 < w2 := by
            rcases Nat.eq_zero_or_pos w2 with q | q
            · rw [q] at hT
              rcases Ticks.v0 n2 n1 j hT p hp t2 with q | q
              · exact absurd q m3
              · exact absurd q m5
            · exact q
          have K161 : w_L_ahead_161 Φ (nI p) (r (120 + 7 * p + 0)) μ3 := by
            unfold w_L_ahead_161
            refine undo29 (by omega) hM3 hT0 ?_
            intro k μ4 hk hM4 _
            show (if _ then _ else _)
            rw [if_neg (nI_pos (by omega)), rp_0 hM4.1 hp, if_pos rfl]
            exact H μ4 (hM4.up hm (by omega))
          show (if _ then _ else _)
          rw [if_neg (nI_nle (by omega) (by omega)), ev2, if_neg (nI_nle w2p (by omega)), rp_0 hM3.1 hp]
          by_cases r3' : r2 (120 + 7 * p + 0) = 3
          · rw [if_pos r3']
            exact K161
          · rw [if_neg r3', rp_0 hM3.1 hp]
            rcases t2 with q | q
            · exact absurd q r3'
            · rw [if_pos q]
              exact K161
        by_cases hj1 : j = 1
        · rw [if_pos (show v ≤ 1 by rw [ev, hj1]; decide)]
          exact K n μ1 (by omega) hM1
        · rw [if_neg (show ¬ v ≤ 1 by rw [ev]; exact nI_ge (a := 1) (b := j) (by omega) (by omega))]
          have evj : v - 1 = nI (j - 1) := by rw [ev]; exact nI_sub1 j1
          rw [evj]
          unfold w_X9_pass
          refine act29 (by omega) hM1 (a_ticks (k := j - 1) (by omega) (by omega) (by omega)) ?_
          rintro v2 r2 ng' np' nx' nl' μ3 ⟨⟨w2, ev2, hw2, hT⟩, e1, e2, e3, e4⟩ hM3 hTop
          rw [e1, e2, e3, e4] at hM3
          have v2n : ¬ v2 < 0 := by rw [ev2]; exact nI_pos (by omega)
          have hT0 := hTop v2n
          have hj := hWill
          obtain ⟨-, -, -, -, t3⟩ := hj
          have K116 : w_L_ahead_116 Φ (nI p) (r (120 + 7 * p + 0)) v μ3 := by
            unfold w_L_ahead_116
            refine undo29 (by omega) hM3 hT0 ?_
            intro k μ4 hk hM4 _
            show (if _ then _ else _)
            rw [if_pos (nI_pos' (by omega))]
            exact K (n + 1) μ4 (by omega) hM4
          show (if _ then _ else _)
          rw [if_neg v2n, rp_0 hM3.1 hp]
          rcases t3 (j - 1) r2 w2 (by omega) hT with q | q | q
          · rw [if_pos q]
            exact K116
          · rw [if_neg (by rw [q]; decide), rp_0 hM3.1 hp, if_pos q]
            exact K116
          · rw [if_neg (by rw [q]; decide), rp_0 hM3.1 hp, if_neg (by rw [q]; decide), rp_0 hM3.1 hp, if_pos q]
            exact K116
      · rw [if_neg (show ¬ v ≤ 200 by rw [ev]; exact nI_ge (a := 200) (b := j) (by omega) (by omega)), if_neg nn5, if_neg (show ¬ (500 : Int32) < v by rw [ev]; exact nI_nlt (a := 500) (b := j) (by omega) (by omega))]
        exact fin1
  · have m1 : r (120 + 7 * p + 0) ≠ 1 := fun e => hw (Or.inl (nI_inj (b := 1) (by omega) (by omega) (ew.symm.trans e)))
    have m2 : r (120 + 7 * p + 0) ≠ 2 := fun e => hw (Or.inr (Or.inl (nI_inj (b := 2) (by omega) (by omega) (ew.symm.trans e))))
    have m4 : r (120 + 7 * p + 0) ≠ 4 := fun e => hw (Or.inr (Or.inr (nI_inj (b := 4) (by omega) (by omega) (ew.symm.trans e))))
    rw [foresee_no h hp m1 m2 m4, ew]
    rcases (show w = 0 ∨ w = 3 ∨ w = 5 by omega) with q | q | q
    · rw [q, if_pos (by decide), if_pos rfl]
      exact fin0
    · rw [q, if_neg (by decide), if_pos (by decide), if_pos rfl]
      exact fin0
    · rw [q, if_neg (by decide), if_neg (by decide), if_pos (by decide), if_pos rfl]
      exact fin0
end AHEAD29
