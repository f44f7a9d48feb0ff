/-! the other sorts, and the law -/
section LAW2
variable {L : Nat} {xs : Nat → Int32} {r r' : Nat → Int32} {n ng np nx nl g p x T B v k e a : Nat} {μ σ u : Mm} {X : Int32 → Mm → Prop} {Φ : Int32 → Mm → Prop} {x2 x3 x4 z0 : Int32}
/-- alone or not: ticks go by -/
theorem s_tick {x10 : Int32} (hx10 : x10 = 1) (hn : n < 30000) (hM : M29 n μ r ng np nx 1) (hJ : J B r ng np) (hW : Wt r np) (hg : a < ng) (H : ∀ (μ' : Mm) (r' : Nat → Int32) (n' : Nat), n' ≤ n + 10 → M29 n' μ' r' ng np nx 1 → J B r' ng np → Wt r' np → w_L_law_997 L xs X Φ x2 1 μ') : ∃ n761 : Nat, w_L_law_761 L xs X Φ n761 x2 x4 (nI ng) (nI a) x10 1 0 μ := by
  obtain ⟨n1, n2, n3, n4⟩ := hM.1.1.n
  rw [hx10]
  obtain ⟨k1, l1, f1⟩ := low29 x4 (N := 9) 9 rfl (by decide) (by decide)
  refine l_761 (T := TB n) hM.1 (fun ha => ?_) ?_ (by omega) ng 0 1 (by omega) (Or.inr ⟨rfl, fun q hq _ => absurd hq (Nat.not_lt_zero _)⟩)
  · rw [f1, show (1 : Int32) + nI k1 = nI (1 + k1) from nI_add 1 k1]
    exact ⟨_, l_818 (n := n) (m := 1 + k1) (B := B) (by omega) hg (fun n' μ' r' q1 q2 q3 q4 => H μ' r' n' (by omega) q2 q3 q4) (by omega) (1 + k1) 0 n μ r (by omega) (by omega) hM hJ hW ha⟩
  · rw [f1, show (1 : Int32) + nI k1 = nI (1 + k1) from nI_add 1 k1]
    refine ⟨0 + 1, ?_⟩
    unfold w_L_law_818
    rw [if_neg (show ¬ nI (1 + k1) ≤ 0 from nI_nle (by omega) (by omega)), if_pos rfl]
    unfold w_L_law_857
    rw [if_neg (by decide), if_pos rfl]
    unfold w_X9_pass
    refine act29 (by omega) hM (a_ticks (k := 1 + k1) (by omega) (by omega) (by omega)) ?_
    rintro v2 r2 ng' np' nx' nl' μ1 ⟨⟨w2, ev2, hw2, hT⟩, e1, e2, e3, e4⟩ h1 -
    rw [e1, e2, e3, e4] at h1
    obtain ⟨t, t1, t2, t3⟩ := hW
    have hW : Wt r np := ⟨t, t1, t2, t3⟩
    have hb : t + (1 + k1) < 1073741824 := by
      obtain ⟨-, -, -, -, -, ⟨t', q1, -, q3⟩, -, q4⟩ := hM.1.1.1
      have : t = t' := nI_inj (by omega) (by omega) (t2.symm.trans q3)
      have := TB29 (n := n) (by omega)
      omega
    show (if _ then _ else _)
    rw [if_neg (by rw [ev2]; exact nI_pos (by omega))]
    exact H μ1 r2 (n + 1) (by omega) h1 (J_ticks n1 n2 _ hJ hT) (Wt.ticks n2 n1 _ hb t2 hW hT)
theorem s_670 {s : Nat} {x9 : Int32} (hs : 8 ≤ s ∧ s ≤ 16) (hs8 : s = 8 → np = 0) (hn : n < 30000) (hM : M29 n μ r ng np nx 1) (hJ : J B r ng np) (hW : Wt r np) (hg : a < ng) (hz : 0 < np → ∃ w, w < np ∧ x9 = nI w) (H : ∀ (μ' : Mm) (r' : Nat → Int32) (n' : Nat), n' ≤ n + 10 → M29 n' μ' r' ng np nx 1 → J B r' ng np → Wt r' np → w_L_law_997 L xs X Φ x2 1 μ') : w_L_law_670 L xs X Φ x2 x4 (nI s) (nI ng) (nI np) (nI a) x9 1 μ := by
  obtain ⟨n1, n2, n3, n4⟩ := hM.1.1.n
  have ne : ∀ j, j < 100 → s ≠ j → ¬ nI s = nI j := fun j hj hne q => hne (nI_inj (by omega) (by omega) q)
  have fin0 : w_L_law_997 L xs X Φ x2 1 μ := H μ r n (by omega) hM hJ hW
  have K909 : w_L_law_909 L xs X Φ x2 x4 (nI s) (nI ng) (nI a) 1 μ := by
    unfold w_L_law_909
    by_cases h14 : s = 14
    · rw [h14, if_pos (show nI 14 = 14 from rfl)]
      refine law_fails (by omega) hM hJ hW hg (fun μ1 r1 h1 j1 w1 => ?_)
      exact H μ1 r1 (n + 3) (by omega) h1 j1 w1
    · rw [if_neg (show ¬ nI s = 14 from ne 14 (by decide) h14)]
      by_cases h15 : s = 15
      · obtain ⟨k1, l1, f1⟩ := low29 x4 (N := nI ng) ng rfl (by omega) (by omega)
        rw [h15, if_pos (show nI 15 = 15 from rfl), f1]
        refine law_diverts (by omega) hM hJ hW hg l1 (fun μ1 r1 h1 j1 w1 => ?_)
        exact H μ1 r1 (n + 1) (by omega) h1 j1 w1
      · rw [if_neg (show ¬ nI s = 15 from ne 15 (by decide) h15)]
        by_cases h16 : s = 16
        · obtain ⟨k1, l1, f1⟩ := low29 x4 (N := 14) 14 rfl (by decide) (by decide)
          obtain ⟨k2, l2, f2⟩ := low29 (x4 >>> ((4 : Int32) &&& 31)) (N := 40) 40 rfl (by decide) (by decide)
          rw [h16, if_pos (show nI 16 = 16 from rfl), f1, f2, show (1 : Int32) + nI k2 = nI (1 + k2) from nI_add 1 k2]
          have O : ∀ s : Int32, isB s → w_L_law_992 L xs X Φ x2 s (nI (1 + k2)) (nI k1) (nI a) μ := fun s hs => by
            unfold w_L_law_992
            refine law_orders (by omega) hM hg (by omega) (by omega) (by omega) hs (fun μ1 h1 => ?_)
            exact H μ1 r (n + 1) (by omega) h1 hJ hW
          by_cases h2 : (x4 &&& (2 : Int32)) = 0
          · rw [if_pos h2]
            exact O 1 (Or.inr rfl)
          · rw [if_neg h2]
            exact O 0 (Or.inl rfl)
        · rw [if_neg (show ¬ nI s = 16 from ne 16 (by decide) h16)]
          exact fin0
  unfold w_L_law_670
  by_cases h9 : s = 9
  · have P : ∀ v : Int32, (∀ μ1 : Mm, ∀ r1 : Nat → Int32, M29 (n + 1) μ1 r1 ng np nx 1 → J B r1 ng np → Wt r1 np → w_L_law_735 L xs X Φ x2 v v μ1) := fun v μ1 r1 h1 j1 w1 => by
      unfold w_L_law_735
      rw [if_pos rfl]
      exact H μ1 r1 (n + 1) (by omega) h1 j1 w1
    rw [h9, if_pos (show nI 9 = 9 from rfl), rg_1 hM.1 hg, rg_10 hM.1 hg]
    unfold w_X9_pinch
    by_cases h5 : r (8 + 14 * a + 4) = 5
    · refine same29 (by omega) hM (a_pinch_5 (by omega) hg h5) ?_
      intro μ1 h1
      show (if _ then _ else _)
      rw [if_pos h5]
      exact P (-4) μ1 r h1 hJ hW
    · obtain ⟨d, st, -, -, -, -, g5, -⟩ := hM.1.2.1 a hg
      have e9 : HB μ 1 (10 + 5 * a) 9 = r (8 + 14 * a + 9) := hM.1.1.2.1 a 7 hg (by decide)
      rw [e9] at g5
      rcases g5 with g5 | g5
      · refine bec29 (by omega) hM (a_pinch (by omega) hg h5 g5) ?_
        intro μ1 h1
        have j1 := J_pinch hJ n1 n2 hg h5
        have w1 : Wt (upd r (8 + 14 * a + 9) 1) np := hW.same (pk_un (by omega)) (fun q hq => ⟨pk_un (by omega), pk_un (by omega)⟩)
        show (if _ then _ else _)
        rw [if_neg h5, if_neg (by rw [g5]; decide)]
        by_cases h3 : r (8 + 14 * a + 4) = 3
        · rw [if_pos h3, if_pos h3]
          exact P 1 μ1 _ h1 j1 w1
        · rw [if_neg h3, if_neg h3]
          exact P 0 μ1 _ h1 j1 w1
      · refine same29 (by omega) hM (a_pinch_1 (by omega) hg h5 g5) ?_
        intro μ1 h1
        show (if _ then _ else _)
        rw [if_neg h5, if_pos g5]
        exact P (-5) μ1 r h1 hJ hW
  · rw [if_neg (show ¬ nI s = 9 from ne 9 (by decide) h9)]
    by_cases h13 : 13 ≤ s
    · rw [if_pos (show (13 : Int32) ≤ nI s from nI_le (a := 13) h13 (by omega))]
      by_cases e13 : s = 13
      · rw [e13] at K909 ⊢
        rw [if_pos (show nI 13 = 13 from rfl)]
        by_cases hp : np = 0
        · rw [if_pos (show nI np ≤ 0 by rw [hp]; decide)]
          exact K909
        · rw [if_neg (nI_nle (by omega) (by omega))]
          obtain ⟨w, w1, w2⟩ := hz (by omega)
          rw [w2]
          refine law_ahead (by omega) hM w1 (fun μ1 h1 => ?_)
          exact H μ1 r (n + 2) (by omega) h1 hJ hW
      · rw [if_neg (show ¬ nI s = 13 from ne 13 (by decide) e13)]
        exact K909
    · rw [if_neg (show ¬ (13 : Int32) ≤ nI s from nI_ge (a := s) (b := 13) (by omega) (by omega))]
      exact s_tick rfl hn hM hJ hW hg H
theorem s_8 {s : Nat} (hs : 8 ≤ s ∧ s ≤ 16) (hn : n < 30000) (hM : M29 n μ r ng np nx 1) (hJ : J B r ng np) (hW : Wt r np) (hg : a < ng) (hz : 0 < np → ∃ w, w < np ∧ z0 = nI w) (H : ∀ (μ' : Mm) (r' : Nat → Int32) (n' : Nat), n' ≤ n + 10 → M29 n' μ' r' ng np nx 1 → J B r' ng np → Wt r' np → w_L_law_997 L xs X Φ x2 1 μ') : w_L_law_147 L xs X Φ x2 x3 x4 (nI s) (nI ng) (nI np) (nI a) z0 μ := by
  obtain ⟨n1, n2, n3, n4⟩ := hM.1.1.n
  have m : ∀ j, j < 8 → ¬ nI s = nI j := fun j hj q => by
    have := nI_inj (by omega) (by omega) q
    omega
  unfold w_L_law_147
  rw [if_neg (show ¬ nI s = 0 from m 0 (by decide)), if_neg (show ¬ nI s = 1 from m 1 (by decide)), if_neg (show ¬ nI s = 2 from m 2 (by decide)), if_neg (show ¬ nI s = 3 from m 3 (by decide)), if_neg (show ¬ nI s = 4 from m 4 (by decide)), if_pos (show (8 : Int32) ≤ nI s from nI_le (a := 8) hs.1 (by omega))]
  by_cases h8 : s = 8
  · by_cases hp : np = 0
    · have K := s_670 (L := L) (xs := xs) (X := X) (Φ := Φ) (x2 := x2) (x4 := x4) (x9 := z0) hs (fun _ => hp) hn hM hJ hW hg hz H
      rw [if_pos (show nI s = 8 by rw [h8]; rfl), if_pos (show nI np ≤ 0 by rw [hp]; decide)]
      exact K
    · obtain ⟨w, w1, w2⟩ := hz (by omega)
      rw [if_pos (show nI s = 8 by rw [h8]; rfl), if_neg (nI_nle (by omega) (by omega)), rg_5 hM.1 hg, w2, rp_0 hM.1 w1]
      by_cases h3 : r (120 + 7 * w + 0) = 3
      · rw [if_pos h3]
        unfold w_L_law_633 w_X9_exit
        refine bec29 (by omega) hM (a_exit (by omega) hg w1 h3) ?_
        intro μ1 h1
        show (if _ then _ else _)
        rw [if_neg (by decide)]
        unfold w_L_law_657
        rw [if_pos (nI_1 _).symm]
        refine H μ1 _ (n + 1) (by omega) h1 (J_exit hJ n1 n2 w1 h3) ?_
        obtain ⟨t, t1, t2, t3⟩ := hW
        refine ⟨t, t1, by rw [exitR_o (by omega) (by omega)]; exact t2, fun q hq hw => ?_⟩
        by_cases e : q = w
        · refine ⟨t, Nat.le_refl _, ?_⟩
          rw [e, ← t2]
          unfold exitR
          rw [pk_un (by omega), pk_un (by omega), pk_un (by omega), pk_un (by omega), pk_us]
        · rw [exitR_o (by omega) (by omega)] at hw ⊢
          exact t3 q hq hw
      · rw [if_neg h3]
        unfold w_L_law_633 w_X9_exit
        refine same29 (by omega) hM (a_exit_n (by omega) hg w1 h3) ?_
        intro μ1 h1
        show (if _ then _ else _)
        rw [if_pos rfl]
        unfold w_L_law_657
        rw [if_pos rfl]
        exact H μ1 r (n + 1) (by omega) h1 hJ hW
  · rw [if_neg (show ¬ nI s = 8 from fun q => h8 (nI_inj (b := 8) (by omega) (by omega) q))]
    exact s_670 hs (fun q => absurd q h8) hn hM hJ hW hg hz H
/-- one event -/
theorem law_step (he : e < 40) (hn : n < 20000) (hI : Inv e n μ) {f : Nat} (H : ∀ (n' : Nat) (μ' : Mm), n' ≤ n + 20 → Inv (e + 1) n' μ' → w_L_law_70 L xs Φ f (nI (e + 1)) μ') : w_L_law_70 L xs Φ (f + 1) (nI e) μ := by
  obtain ⟨r, ng, np, nx, hM, hJ, hW, ⟨g1, g2⟩, y1, y2⟩ := hI
  obtain ⟨n1, n2, n3, n4⟩ := hM.1.1.n
  obtain ⟨s, l1, f1⟩ := low29 (cellv L xs ((1 : Int32) + (2 : Int32) * nI e)) (N := 17) 17 rfl (by decide) (by decide)
  obtain ⟨a, l2, f2⟩ := low29 ((cellv L xs ((1 : Int32) + (2 : Int32) * nI e)) >>> ((5 : Int32) &&& 31)) (N := nI ng) ng rfl (by omega) (by omega)
  have e2 : (2 : Int32) * nI e = nI (2 * e) := by rw [show (2 : Int32) = nI 2 from rfl, pk_mul]
  have p1 : ¬ ((1 : Int32) + (2 : Int32) * nI e) < 0 := by rw [e2, show (1 : Int32) + nI (2 * e) = nI (1 + 2 * e) from nI_add 1 _]; exact nI_pos (by omega)
  have p2 : ¬ ((2 : Int32) + (2 : Int32) * nI e) < 0 := by rw [e2, show (2 : Int32) + nI (2 * e) = nI (2 + 2 * e) from nI_add 2 _]; exact nI_pos (by omega)
  have F : ∀ (n' : Nat) (μ' : Mm), n' ≤ n + 20 → Inv (e + 1) n' μ' → w_L_law_997 L xs (fun y0 u => w_L_law_70 L xs Φ f y0 u) Φ (nI e) 1 μ' := fun n' μ' h1 h2 => l_997 h2 (by
    show w_L_law_70 L xs Φ f (nI e + 1) μ'
    rw [nI_1]
    exact H n' μ' h1 h2)
  have K : ∀ z0 : Int32, (0 < np → ∃ w, w < np ∧ z0 = nI w) → ∀ h : Int32, w_L_law_147 L xs (fun y0 u => w_L_law_70 L xs Φ f y0 u) Φ (nI e) ((cellv L xs ((1 : Int32) + (2 : Int32) * nI e)) >>> ((5 : Int32) &&& 31)) h (nI s) (nI ng) (nI np) (nI a) z0 μ := fun z0 hz h => by
    rcases (show s = 0 ∨ s = 1 ∨ s = 2 ∨ s = 3 ∨ s = 4 ∨ (5 ≤ s ∧ s ≤ 7) ∨ (8 ≤ s ∧ s ≤ 16) by omega) with q | q | q | q | q | q | q
    · rw [q]
      exact s_0 (by omega) hM hJ hW g1 g2 (fun μ' r' ng' h1 h2 h3 h4 h5 => F (n + 1) μ' (by omega) (mk h1 h2 (by omega) h3 h4 h5 y1 y2))
    · rw [q]
      exact s_1 (by omega) hM hJ hW l2 (fun μ' r' h1 h2 h3 => F (n + 1) μ' (by omega) (mk h1 h2 (by omega) h3 g1 g2 y1 y2))
    · rw [q]
      exact s_2 (by omega) hM hJ (by omega) hW (fun μ' r' h1 h2 h3 => F (n + 1) μ' (by omega) (mk h1 h2 (by omega) h3 g1 g2 y1 y2))
    · rw [q]
      exact s_3 (by omega) hM hJ hW (fun μ' r' h1 h2 h3 => F (n + 1) μ' (by omega) (mk h1 h2 (by omega) h3 g1 g2 y1 y2))
    · rw [q]
      exact s_4 (by omega) hM hJ hW y1 y2 (fun μ' r' n' nx' h0 h1 h2 h3 h4 h5 => F n' μ' (by omega) (mk h1 h2 (by omega) h3 g1 g2 h4 h5))
    · exact s_5 q (by omega) hM hJ hW l2 (fun μ' r' np' h1 h2 h3 => F (n + 1) μ' (by omega) (mk h1 h2 (by omega) h3 g1 g2 y1 y2))
    · exact s_8 q (by omega) hM hJ hW l2 hz (fun μ' r' n' h0 h1 h2 h3 => F n' μ' (by omega) (mk h1 h2 (by omega) h3 g1 g2 y1 y2))
  unfold w_L_law_70
  rw [if_neg (show ¬ (40 : Int32) ≤ nI e from nI_ge (a := e) (b := 40) he (by decide))]
  refine ⟨p1, p2, ?_⟩
  rw [f1, rc_1 hM.1, rc_2 hM.1, f2]
  by_cases hp : np = 0
  · rw [if_pos (show nI np = 0 by rw [hp]; rfl)]
    exact K 0 (fun q => by omega) _
  · rw [if_neg (nI_ne0 (by omega) (by omega))]
    obtain ⟨w, l3, f3⟩ := low29 (cellv L xs ((2 : Int32) + (2 : Int32) * nI e)) (N := nI np) np rfl (by omega) (by omega)
    rw [f3]
    exact K (nI w) (fun _ => ⟨w, l3, rfl⟩) _
theorem law_loop (H : ∀ μ' : Mm, Φ 1 μ') : ∀ (j e n : Nat) (μ : Mm), e + j = 40 → n ≤ 10 + 20 * e → Inv e n μ → w_L_law_70 L xs Φ (j + 1) (nI e) μ
  | 0, e, n, μ, he, hn, hI => by
    obtain ⟨r, ng, np, nx, hM, hJ, hW, ⟨g1, g2⟩, y1, y2⟩ := hI
    unfold w_L_law_70
    rw [if_pos (show (40 : Int32) ≤ nI e from nI_le (a := 40) (by omega) (by omega))]
    exact law_errors (by omega) hM (by omega) H
  | j + 1, e, n, μ, he, hn, hI => law_step (by omega) (by omega) hI (fun n' μ' h1 h2 => law_loop H j (e + 1) n' μ' (by omega) (by omega) h2)
theorem m29_0 : M29 0 mu0 row0 0 0 0 0 := ⟨rel_0, ⟨0, 0, by decide, by decide, by decide, by decide⟩, ⟨0, by decide, by decide⟩⟩
/-- the law -/
theorem law_all (H : ∀ μ' : Mm, Φ 1 μ') : w_L_law L xs mu0 Φ := by
  obtain ⟨k1, l1, f1⟩ := low29 (cellv L xs 0) (N := 4) 4 rfl (by decide) (by decide)
  unfold w_L_law
  refine ⟨by decide, ?_⟩
  rw [f1, show (2 : Int32) + nI k1 = nI (2 + k1) from nI_add 2 k1]
  unfold w_X9_addPool
  refine bec29 (by decide) m29_0 (a_pool0 (m := 2 + k1) (by decide) (by omega) (by omega)) ?_
  intro μ1 h1
  obtain ⟨r1, e1⟩ : ∃ r1 : Nat → Int32, r1 = upd (upd (upd (upd row0 (424 + 3 * 0) 0) (424 + 3 * 0 + 1) (nI (2 + k1))) (424 + 3 * 0 + 2) 0) 4 (nI (0 + 1)) := ⟨_, rfl⟩
  rw [← e1] at h1
  have j1 : J 60 r1 0 0 := by
    refine ⟨fun p hp => absurd hp (Nat.not_lt_zero _), fun g hg => absurd hg (Nat.not_lt_zero _), rfl, ⟨0, 2 + k1, by decide, ?_, by omega, by omega, ?_, Nat.zero_le _⟩, ⟨10, by decide, ?_⟩⟩
    · rw [e1, pk_un (by decide), pk_un (by decide), pk_un (by decide), pk_us]; rfl
    · rw [e1, pk_un (by decide), pk_un (by decide), pk_us]
    · rw [e1, pk_un (by decide), pk_un (by decide), pk_un (by decide), pk_un (by decide)]; rfl
  have w1 : Wt r1 0 := ⟨0, by decide, by rw [e1, pk_un (by decide), pk_un (by decide), pk_un (by decide), pk_un (by decide)]; rfl, fun p hp => absurd hp (Nat.not_lt_zero _)⟩
  have c1 : r1 424 = nI 0 := by rw [e1, pk_un (by decide), pk_un (by decide), pk_un (by decide), pk_us]; rfl
  show (if (0 : Int32) = 0 then _ else _)
  rw [if_pos rfl]
  unfold w_X9_addPass
  refine bec29 (by decide) h1 (a_npass (by decide) (by decide)) ?_
  intro μ2 h2
  have j2 := J_pass j1 (by decide) (by decide) (show 0 < 12 by decide)
  show (if nI 0 = 0 then _ else _)
  rw [if_pos (show nI 0 = 0 from rfl)]
  try unfold w_X9_addPass
  refine bec29 (by decide) h2 (a_npass (by decide) (by decide)) ?_
  intro μ3 h3
  have j3 := J_pass j2 (by decide) (by decide) (show 0 + 1 < 12 by decide)
  show (if nI (0 + 1) = 1 then _ else _)
  rw [if_pos (show nI (0 + 1) = 1 from rfl)]
  unfold w_X9_credit
  refine bec29 (by decide) h3 (a_credit (c := 0) (m := 60) (by decide) (by decide) (by decide) (by
    rw [pk_un (by decide), pk_un (by decide), pk_un (by decide), pk_un (by decide), pk_un (by decide), pk_un (by decide)]
    exact c1) (by decide)) ?_
  intro μ4 h4
  have j4 := J_credit (c := 0 + 60) j3 (by decide) (by decide) (Nat.le_refl 60) (by decide) (by decide)
  show (if nI (0 + 60) = 60 then _ else _)
  rw [if_pos (show nI (0 + 60) = 60 from rfl)]
  unfold w_X9_addGate
  refine bec29 (by decide) h4 (a_ngate (k := 0) (by decide) (by decide) (by decide) rfl ⟨by decide, by decide⟩ ⟨by decide, by decide⟩ ⟨by decide, by decide⟩) ?_
  intro μ5 h5
  show (if nI 0 = 0 then _ else _)
  rw [if_pos (show nI 0 = 0 from rfl)]
  refine ⟨40 + 1, by decide, ?_⟩
  refine law_loop H 40 0 5 μ5 (by decide) (by decide) ⟨_, 1, 0, 2, h5, J_gateR (op := 2) (ho := 3) (cl := 4) j4 (by decide) (by decide) ⟨rfl, by decide, by decide⟩ ⟨rfl, by decide, by decide⟩ ⟨rfl, by decide, by decide⟩, ?_, by decide, by decide⟩
  obtain ⟨t, t1, t2, t3⟩ := w1
  refine ⟨t, t1, ?_, fun p hp => absurd hp (Nat.not_lt_zero _)⟩
  rw [gateR_o (by decide) (by decide), pk_un (by decide), pk_un (by decide), pk_un (by decide), pk_un (by decide), pk_un (by decide), pk_un (by decide), pk_un (by decide)]
  exact t2
end LAW2
