/-! the law of the orders -/
section ORDERS29
variable {r r' : Nat → Int32} {n ng np nx nl g p x T B v k : Nat} {μ σ u : Mm} {Φ : Int32 → Mm → Prop} {t : List Nat} {s : Int32}
theorem a_enter_n {b : Int32} (hn : n < 40000) (hg : g < ng) (hb1 : ¬ b = -1) (hb : nI nx ≤ b) : Acts (fun S => w_X8_comeIn S (nI g) b s) n r ng np nx nl (Bec (-1) r ng np nx nl) := Acts.same hn (fun σ h S μ Φ hΦ => by
  obtain ⟨n1, n2, n3, n4⟩ := h.1.n
  show w_X8_comeIn S (nI g) b s (bl S σ μ) Φ
  unfold w_X8_comeIn
  rw [d_gateAt_y h.1.1.1.1 hg n1, opt_some, if_neg hb1, d_passAt_n h.1.1.2.2.1.1 (Or.inr hb), opt_none]
  exact hΦ)
theorem t_105 : vp_nar .char (105 : Int32) = nI 105 := by decide
theorem t_112 : vp_nar .char (112 : Int32) = nI 112 := by decide
theorem t_115 : vp_nar .char (115 : Int32) = nI 115 := by decide
theorem t_116 : vp_nar .char (116 : Int32) = nI 116 := by decide
theorem t_120 : vp_nar .char (120 : Int32) = nI 120 := by decide
theorem minus_101 : ∀ L, L < 60 → (-100 : Int32) - nI (L + 1) = -101 - nI L := by decide
/-- the text so far: the person's order without its digits of ticks -/
theorem dgs_le (v : Nat) : (dgs v).length ≤ 2 := by rw [dgs_len]; split <;> omega
/-- behind the text: an order for a gate that isn't there; the undo -/
theorem l_286 {sl : List Nat} {r0 : Nat → Int32} {np0 : Nat} (hn : n + 4 < 40000) (hM : M29 n μ r' ng np nx 1) (hT : Top n μ r0 ng np0 nx 1) (hg : g < ng) (hv : v < 100) (hk : 1 ≤ k) (hk2 : k < 100) (hs : (s = 1 ∧ sl = [115]) ∨ (s = 0 ∧ sl = [])) (e : t = [105, 48 + g, 112] ++ dgs v ++ (sl ++ 116 :: dgs k)) (hX : TX μ t) (H : ∀ μ' : Mm, M29 n μ' r0 ng np0 nx 1 → Φ 1 μ') : w_L_orders_286 Φ (nI np0) (r0 0) (nI t.length) μ := by
  have n1 := hM.1.1.n.1
  have d1 := dgs_le v
  have d2 := dgs_le k
  have ls : sl.length ≤ 1 := by
    rcases hs with ⟨-, q⟩ | ⟨-, q⟩ <;> rw [q] <;> decide
  have el : t.length = 4 + (dgs v).length + sl.length + (dgs k).length := by
    rw [e]; simp only [List.length_append, List.length_cons, List.length_nil]; omega
  unfold w_L_orders_286
  refine type_t hM (by omega) hX (by omega) t_120 (fun μ1 h1 x1 f1 => ?_)
  show w_X9_count 1 μ1 _
  rw [rc_1 h1.1]
  have el1 : (t ++ [120]).length = t.length + 1 := by rw [List.length_append]; rfl
  refine type_t h1 (by omega) x1 (by omega) (digit_c ng (by omega)) (fun μ2 h2 x2 f2 => ?_)
  have e5 : t ++ [120] ++ [48 + ng] = [105, 48 + g, 112] ++ dgs v ++ (sl ++ 116 :: (dgs k ++ [120, 48 + ng])) := by rw [e]; simp only [List.append_assoc, List.cons_append, List.nil_append]
  have el2 : (t ++ [120] ++ [48 + ng]).length = t.length + 2 := by rw [List.length_append, el1]; rfl
  refine run_bad (q := t.length + 1) (by omega) h2 x2 (by omega) (by omega) (fun u Ψ hC hH => ?_) (fun μ3 h3 x3 f3 => ?_)
  · refine find_x n1 hg hv hk hk2 hs e5 (by omega) u Ψ hC ?_
    rw [← e]
    exact hH
  · show (if _ then _ else _)
    rw [if_pos (minus_101 _ (by omega))]
    unfold w_L_orders_324
    rw [if_neg (by decide)]
    have hT3 : Top n μ3 r0 ng np0 nx 1 := hT.text (fun q hq => by rw [f3 q hq, f2 q hq, f1 q hq]) (by omega)
    refine undo29 (by omega) h3 hT3 ?_
    intro c μ4 hc h4 _
    show (if _ then _ else _)
    rw [if_neg (nI_pos (by omega)), rc_2 h4.1, if_pos rfl, rc_0 h4.1, if_pos rfl]
    exact H μ4 h4
/-- orders as a text -/
theorem law_orders (hn : n + 6 < 40000) (hM : M29 n μ r ng np nx 1) (hg : g < ng) (hv : v < 100) (hk : 1 ≤ k) (hk2 : k ≤ 40) (hs : isB s) (H : ∀ μ' : Mm, M29 (n + 1) μ' r ng np nx 1 → Φ 1 μ') : w_L_orders (nI g) (nI v) (nI k) s μ Φ := by
  obtain ⟨n1, n2, n3, n4⟩ := hM.1.1.n
  have d1 := dgs_le v
  have d2 := dgs_le k
  obtain ⟨sl, hs2⟩ : ∃ sl : List Nat, (s = 1 ∧ sl = [115]) ∨ (s = 0 ∧ sl = []) := by
    rcases hs with q | q
    · exact ⟨[], Or.inr ⟨q, rfl⟩⟩
    · exact ⟨[115], Or.inl ⟨q, rfl⟩⟩
  have ls : sl.length ≤ 1 := by
    rcases hs2 with ⟨-, q⟩ | ⟨-, q⟩ <;> rw [q] <;> decide
  have K143 : ∀ (m : Mm), M29 n m r ng np nx 1 → TX m ([105, 48 + g, 112] ++ dgs v ++ (sl ++ [116])) → w_L_orders_143 Φ (nI v) (nI k) s (nI np) (r 0) 1 m := fun m hm xm => by
    unfold w_L_orders_143
    have el0 : ([105, 48 + g, 112] ++ dgs v ++ (sl ++ [116])).length ≤ 7 := by simp only [List.length_append, List.length_cons, List.length_nil]; omega
    refine digits_t hm (by omega) xm (by omega) (by omega) (fun μ1 h1 x1 f1 => ?_)
    obtain ⟨t, et⟩ : ∃ t : List Nat, t = [105, 48 + g, 112] ++ dgs v ++ (sl ++ 116 :: dgs k) := ⟨_, rfl⟩
    have et' : [105, 48 + g, 112] ++ dgs v ++ (sl ++ [116]) ++ dgs k = t := by rw [et]; simp only [List.append_assoc, List.cons_append, List.nil_append]
    rw [et'] at x1 ⊢
    have el : t.length ≤ 9 := by rw [et]; simp only [List.length_append, List.length_cons, List.length_nil]; omega
    have Fok := fun (u : Mm) (Ψ : Int32 → Mm → Prop) => find_ok (t := t) (u := u) (Ψ := Ψ) n1 hg hv hk (by omega) hs2 et (by omega)
    have no : ∀ w : Int32, ¬ 0 ≤ w → ¬ w = -5 → Acts (fun S => w_X8_comeIn S (nI g) (nI v) s) n r ng np nx 1 (Bec w r ng np nx 1) → w_L_orders_180 Φ (nI v) (nI k) s (nI np) (r 0) 1 (nI t.length) μ1 := fun w w1 w2 hA => by
      unfold w_L_orders_180 w_L_orders_185
      rw [if_neg (by decide)]
      refine run_good (t := t) (Q := fun c r1 np1 => c = 0 ∧ r1 = r ∧ np1 = np) (by omega) h1 x1 (by omega) Fok (fun u Ψ hR hC hH => loop_no (by omega) n1 hg hv hs2 et (by omega) hA w1 w2 hR hC (fun u' g1 g2 g3 => hH u' 0 r np ⟨rfl, rfl, rfl⟩ g1 g2 g3)) ?_
      rintro μ2 c r1 np1 ⟨q1, q2, q3⟩ h2 x2 hT
      rw [q2, q3] at h2
      rw [q1]
      show (if nI 0 = 0 then _ else _)
      rw [if_pos (show nI 0 = 0 from rfl), rc_0 h2.1, if_neg (by decide)]
      unfold w_L_orders_219
      rw [if_pos (Int32.add_zero _).symm, rc_2 h2.1, if_neg (by decide)]
      unfold w_L_orders_241
      rw [if_pos (Int32.add_zero _).symm, if_neg (by decide)]
      exact l_286 (by omega) h2 hT hg hv hk (by omega) hs2 et x2 H
    by_cases hx : v < nx
    · rw [rx_0 h1.1 hx, if_neg (by decide)]
      unfold w_L_orders_166
      rw [if_neg (by decide)]
      by_cases h40 : np = 40
      · rw [if_pos (by rw [h40]; rfl)]
        exact no (-3) (by decide) (by decide) (a_enter_full (by omega) h40 hg (Or.inr ⟨v, hx, rfl⟩))
      · rw [if_neg (show ¬ nI np = 40 from fun q => h40 (nI_inj (b := 40) (by omega) (by omega) q))]
        unfold w_L_orders_185
        rw [if_neg (by decide)]
        refine run_good (t := t) (Q := fun c r1 np1 => c = 2 ∧ np1 = np + 1 ∧ ∃ w, Ticks (np + 1) ng k (enterR g np (nI v) s r) r1 w) (by omega) h1 x1 (by omega) Fok (fun u Ψ hR hC hH => loop_it (by omega) n1 hg hx (by omega) hk hk2 hs2 et (by omega) hR hC (fun u' r1 w g1 g2 g3 g4 => hH u' 2 r1 (np + 1) ⟨rfl, rfl, w, g2⟩ g1 g3 g4)) ?_
        rintro μ2 c r1 np1 ⟨q1, q2, w, q3⟩ h2 x2 hT
        rw [q2] at h2
        rw [q1]
        have n2' : np + 1 ≤ 40 := by omega
        have et0 : r1 0 = r 0 + nI k := by
          rw [Ticks.time n2' n1 q3, enterR_o (by omega) (by omega) (by omega)]
        have e1 : r1 (120 + 7 * np + 1) = nI v := by
          rw [ticks_keep n2' n1 k q3 _ (by omega) (by omega) (fun q hq => by omega)]
          exact enterR_1
        have e2 : r1 (120 + 7 * np + 2) = s := by
          rw [ticks_keep n2' n1 k q3 _ (by omega) (by omega) (fun q hq => by omega)]
          exact enterR_2
        have K286 := l_286 (Φ := Φ) (by omega) h2 hT hg hv hk (by omega) hs2 et x2 H
        show (if nI 2 = 2 then _ else _)
        rw [if_pos (show nI 2 = 2 from rfl), rc_0 h2.1, if_pos rfl]
        unfold w_L_orders_219
        rw [if_pos et0, rc_2 h2.1, if_pos rfl]
        unfold w_L_orders_241
        rw [if_pos (nI_1 np).symm, if_pos rfl, rp_1 h2.1 (by omega), if_pos e1, rp_2 h2.1 (by omega), e2]
        rcases hs with q | q
        · rw [q]
          rw [if_pos rfl]
          unfold w_L_orders_281
          rw [if_pos rfl]
          exact K286
        · rw [q]
          rw [if_neg (by decide)]
          unfold w_L_orders_281
          rw [if_pos rfl]
          exact K286
    · rw [rx_n h1.1 (Or.inr (nI_le (by omega) (by omega))), if_pos (by decide)]
      unfold w_L_orders_166
      rw [if_pos rfl]
      exact no (-1) (by decide) (by decide) (a_enter_n (by omega) hg (nI_nm1 (by omega)) (nI_le (by omega) (by omega)))
  have K113 : ∀ (m : Mm), M29 n m r ng np nx 1 → TX m ([105, 48 + g, 112] ++ dgs v ++ sl) → w_L_orders_113 Φ (nI v) (nI k) s (nI np) (r 0) 1 m := fun m hm xm => by
    unfold w_L_orders_113
    have el0 : ([105, 48 + g, 112] ++ dgs v ++ sl).length ≤ 6 := by simp only [List.length_append, List.length_cons, List.length_nil]; omega
    refine type_t hm (by omega) xm (by omega) t_116 (fun μ1 h1 x1 f1 => ?_)
    have et : [105, 48 + g, 112] ++ dgs v ++ sl ++ [116] = [105, 48 + g, 112] ++ dgs v ++ (sl ++ [116]) := by simp only [List.append_assoc]
    have el1 : ([105, 48 + g, 112] ++ dgs v ++ (sl ++ [116])).length = ([105, 48 + g, 112] ++ dgs v ++ sl).length + 1 := by rw [← et, List.length_append]; rfl
    rw [et] at x1
    show (if (1 : Int32) = 0 then _ else _)
    rw [if_neg (by decide)]
    refine run_bad (t := [105, 48 + g, 112] ++ dgs v ++ (sl ++ [116])) (q := ([105, 48 + g, 112] ++ dgs v ++ (sl ++ [116])).length) (by omega) h1 x1 (by omega) (by omega) (fun u Ψ hC hH => find_t n1 hg hv hs2 rfl (by omega) u Ψ hC hH) (fun μ2 h2 x2 f2 => ?_)
    show (if _ then _ else _)
    rw [if_pos (by rw [el1])]
    exact K143 μ2 h2 x2
  have K93 : ∀ (m : Mm), M29 n m r ng np nx 1 → TX m [105, 48 + g, 112] → w_L_orders_93 Φ (nI v) (nI k) s (nI np) (r 0) 1 m := fun m hm xm => by
    unfold w_L_orders_93
    refine digits_t hm (by omega) xm (by show 3 < 30; decide) hv (fun μ1 h1 x1 f1 => ?_)
    rcases hs2 with ⟨q1, q2⟩ | ⟨q1, q2⟩
    · have K := K113
      rw [q1, q2] at K
      show (if s = 0 then _ else _)
      rw [q1, if_neg (by decide)]
      have el0 : ([105, 48 + g, 112] ++ dgs v).length ≤ 5 := by simp only [List.length_append, List.length_cons, List.length_nil]; omega
      refine type_t h1 (by omega) x1 (by omega) t_115 (fun μ2 h2 x2 f2 => ?_)
      exact K μ2 h2 x2
    · have K := K113
      rw [q1, q2] at K
      show (if s = 0 then _ else _)
      rw [q1, if_pos rfl]
      refine K μ1 h1 ?_
      rw [List.append_nil]
      exact x1
  have K51 : ∀ (m : Mm), M29 n m r ng np nx 1 → TX m [105] → w_L_orders_51 Φ (nI g) (nI v) (nI k) s (nI np) (r 0) 1 m := fun m hm xm => by
    unfold w_L_orders_51
    refine type_t hm (by omega) xm (by decide) (digit_c g (by omega)) (fun μ1 h1 x1 f1 => ?_)
    refine type_t h1 (by omega) x1 (by show 2 < 40; decide) t_112 (fun μ2 h2 x2 f2 => ?_)
    show (if (1 : Int32) = 0 then _ else _)
    rw [if_neg (by decide)]
    refine run_bad (t := [105, 48 + g, 112]) (q := 3) (by omega) h2 x2 (by show 3 ≤ 50; decide) (by decide) (fun u Ψ hC hH => find_3 n1 hg u Ψ hC hH) (fun μ3 h3 x3 f3 => ?_)
    show (if (-100 : Int32) - nI 3 = -100 - nI 3 then _ else _)
    rw [if_pos rfl]
    exact K93 μ3 h3 x3
  unfold w_L_orders
  rw [rc_2 hM.1, rc_0 hM.1, clear29]
  have f0 : ∀ q, q < 745 → up2 μ 745 1 0 q = μ q := fun q hq => up2_k (by omega)
  have x0 : TX (up2 μ 745 1 0) [] := ⟨up2_s _ _ _ _, fun i hi => absurd hi (Nat.not_lt_zero _)⟩
  have h0 := hM.text f0 ⟨0, by decide, up2_s _ _ _ _⟩ (by omega)
  refine run_bad (t := []) (q := 0) (by omega) h0 x0 (by decide) (by decide) (fun u Ψ hC hH => find_0 n1 u Ψ hC hH) (fun μ1 h1 x1 f1 => ?_)
  show (if _ then _ else _)
  rw [if_pos (by decide)]
  refine type_t h1 (by omega) x1 (by decide) t_105 (fun μ2 h2 x2 f2 => ?_)
  refine run_bad (t := [105]) (q := 1) (by omega) h2 x2 (by decide) (by decide) (fun u Ψ hC hH => find_1 n1 u Ψ hC hH) (fun μ3 h3 x3 f3 => ?_)
  show (if _ then _ else _)
  rw [if_pos (by decide)]
  exact K51 μ3 h3 x3
end ORDERS29
