/-! the law, event by event -/
section LAW29
variable {L : Nat} {xs : Nat → Int32} {r r' : Nat → Int32} {n ng np nx nl g p x T B v k e a : Nat} {μ σ u : Mm} {X : Int32 → Mm → Prop} {Φ : Int32 → Mm → Prop} {x3 x4 : Int32}
/-- what holds between two events -/
def Inv (e n : Nat) (μ : Mm) : Prop := ∃ r ng np nx, M29 n μ r ng np nx 1 ∧ J (60 + 50 * e) r ng np ∧ Wt r np ∧ (1 ≤ ng ∧ ng ≤ 4) ∧ (2 ≤ nx ∧ nx ≤ 3)
theorem mk (hM : M29 n μ r ng np nx 1) (hJ : J B r ng np) (hB : B ≤ 60 + 50 * e) (hW : Wt r np) (g1 : 1 ≤ ng) (g2 : ng ≤ 4) (x1 : 2 ≤ nx) (x2 : nx ≤ 3) : Inv e n μ := ⟨r, ng, np, nx, hM, hJ.up hB, hW, ⟨g1, g2⟩, x1, x2⟩
theorem l_997 {x2 : Int32} (hI : Inv e n μ) (H : X (x2 + 1) μ) : w_L_law_997 L xs X Φ x2 1 μ := by
  obtain ⟨r, ng, np, nx, hM, hJ, hW, -, -⟩ := hI
  unfold w_L_law_997
  rw [if_neg (by decide)]
  refine law_people hM.1 hJ hW ?_
  show (if (1 : Int32) = 0 then _ else _)
  rw [if_neg (by decide)]
  refine law_pools hM.1 hJ ?_
  show (if (1 : Int32) = 0 then _ else _)
  rw [if_neg (by decide)]
  exact H
/-- ticks of one gate, one by one -/
theorem l_818 {x2 : Int32} {m : Nat} (hm : m < 100) (hg : a < ng) (H : ∀ (n' : Nat) (μ' : Mm) (r' : Nat → Int32), n' ≤ n + m → M29 n' μ' r' ng np nx 1 → J B r' ng np → Wt r' np → w_L_law_997 L xs X Φ x2 1 μ') (hn : n + m < 40000) : ∀ (j i n' : Nat) (μ : Mm) (r : Nat → Int32), i + j = m → n' = n + i → M29 n' μ r ng np nx 1 → J B r ng np → Wt r np → (∀ q, q < ng → q ≠ a → r (8 + 14 * q + 4) = 5) → w_L_law_818 L xs X Φ (j + 1) x2 (nI a) 1 1 (nI m) (nI i) μ
  | 0, i, n', μ, r, hi, hn', hM, hJ, hW, ha => by
    have e : i = m := by omega
    rw [e]
    unfold w_L_law_818
    rw [if_pos (nI_le (Nat.le_refl _) (by omega))]
    unfold w_L_law_857
    rw [if_neg (by decide), if_neg (by decide)]
    exact H n' μ r (by omega) hM hJ hW
  | j + 1, i, n', μ, r, hi, hn', hM, hJ, hW, ha => by
    unfold w_L_law_818
    rw [if_neg (nI_ge (by omega) (by omega)), if_neg (by decide), if_neg (by decide)]
    refine law_tick (by omega) hM hJ hW hg ha (fun r1 μ1 h1 j1 w1 a1 => ?_)
    show (if (1 : Int32) = 0 then _ else _)
    rw [if_neg (by decide), nI_1]
    exact l_818 hm hg H hn j (i + 1) (n' + 1) μ1 r1 (by omega) (by omega) h1 j1 w1 a1
theorem l_761 {x2 : Int32} (h : Rel (HB μ 1) r T ng np nx 1) (H1 : (∀ q, q < ng → q ≠ a → r (8 + 14 * q + 4) = 5) → w_L_low x4 9 μ (fun r70 u69 => ∃ n818 : Nat, w_L_law_818 L xs X Φ n818 x2 (nI a) 1 1 (1 + r70) 0 u69)) (H0 : w_L_low x4 9 μ (fun r70 u69 => ∃ n818 : Nat, w_L_law_818 L xs X Φ n818 x2 (nI a) 1 0 (1 + r70) 0 u69)) (ha : a < 8) : ∀ (k i : Nat) (al : Int32), i + k = ng → (al = 0 ∨ (al = 1 ∧ ∀ q, q < i → q ≠ a → r (8 + 14 * q + 4) = 5)) → ∃ f, w_L_law_761 L xs X Φ f x2 x4 (nI ng) (nI a) 1 al (nI i) μ
  | 0, i, al, hi, hal => by
    have e : i = ng := by omega
    have n1 := h.1.n.1
    refine ⟨0 + 1, ?_⟩
    unfold w_L_law_761
    rw [e, if_pos (nI_le (Nat.le_refl _) (by omega))]
    rcases hal with q | ⟨q, q2⟩
    · rw [q]; exact H0
    · rw [q]; exact H1 (by rw [e] at q2; exact q2)
  | k + 1, i, al, hi, hal => by
    have n1 := h.1.n.1
    have n0 : ¬ nI ng ≤ nI i := nI_ge (by omega) (by omega)
    rcases hal with q | ⟨q, q2⟩
    · obtain ⟨f, hf⟩ := l_761 h H1 H0 ha k (i + 1) 0 (by omega) (Or.inl rfl)
      refine ⟨f + 1, ?_⟩
      unfold w_L_law_761
      rw [if_neg n0, if_pos q, nI_1]
      exact hf
    · by_cases hia : i = a
      · obtain ⟨f, hf⟩ := l_761 h H1 H0 ha k (i + 1) 1 (by omega) (Or.inr ⟨rfl, fun j hj hne => q2 j (by omega) hne⟩)
        refine ⟨f + 1, ?_⟩
        unfold w_L_law_761
        rw [if_neg n0, if_neg (by rw [q]; decide), if_pos (by rw [hia]), nI_1]
        exact hf
      · have hne : ¬ nI i = nI a := fun w => hia (nI_inj (by omega) (by omega) w)
        by_cases h5 : r (8 + 14 * i + 4) = 5
        · obtain ⟨f, hf⟩ := l_761 h H1 H0 ha k (i + 1) 1 (by omega) (Or.inr ⟨rfl, fun j hj hne => by
            by_cases e : j = i
            · rw [e]; exact h5
            · exact q2 j (by omega) hne⟩)
          refine ⟨f + 1, ?_⟩
          unfold w_L_law_761
          rw [if_neg n0, if_neg (by rw [q]; decide), if_neg hne, rg_1 h (by omega), if_pos h5, nI_1]
          exact hf
        · obtain ⟨f, hf⟩ := l_761 h H1 H0 ha k (i + 1) 0 (by omega) (Or.inl rfl)
          refine ⟨f + 1, ?_⟩
          unfold w_L_law_761
          rw [if_neg n0, if_neg (by rw [q]; decide), if_neg hne, rg_1 h (by omega), if_neg h5, nI_1]
          exact hf

section SORTS
variable {x2 z0 : Int32}
theorem s_0 (hn : n < 30000) (hM : M29 n μ r ng np nx 1) (hJ : J B r ng np) (hW : Wt r np) (g1 : 1 ≤ ng) (g2 : ng ≤ 4) (H : ∀ (μ' : Mm) (r' : Nat → Int32) (ng' : Nat), M29 (n + 1) μ' r' ng' np nx 1 → J B r' ng' np → Wt r' np → 1 ≤ ng' → ng' ≤ 4 → w_L_law_997 L xs X Φ x2 1 μ') {x7 x8 : Int32} : w_L_law_147 L xs X Φ x2 x3 x4 0 (nI ng) x7 x8 z0 μ := by
  obtain ⟨n1, n2, n3, n4⟩ := hM.1.1.n
  unfold w_L_law_147
  rw [if_pos rfl]
  by_cases h3 : 3 < ng
  · rw [if_pos (show (3 : Int32) < nI ng from nI_lt (a := 3) h3 (by omega))]
    exact H μ r ng (hM.up (by omega) (by omega)) hJ hW g1 g2
  · rw [if_neg (show ¬ (3 : Int32) < nI ng from nI_nlt (a := 3) (b := ng) (by omega) (by omega))]
    obtain ⟨k1, l1, f1⟩ := low29 x3 (N := 3) 3 rfl (by decide) (by decide)
    obtain ⟨k2, l2, f2⟩ := low29 x4 (N := 4) 4 rfl (by decide) (by decide)
    obtain ⟨k3, l3, f3⟩ := low29 (x4 >>> ((3 : Int32) &&& 31)) (N := 6) 6 rfl (by decide) (by decide)
    obtain ⟨k4, l4, f4⟩ := low29 (x4 >>> ((6 : Int32) &&& 31)) (N := 5) 5 rfl (by decide) (by decide)
    rw [f1, f2, f3, f4, show (1 : Int32) + nI k2 = nI (1 + k2) from nI_add 1 k2, show (1 : Int32) + nI k3 = nI (1 + k3) from nI_add 1 k3, show (1 : Int32) + nI k4 = nI (1 + k4) from nI_add 1 k4]
    unfold w_X9_addGate
    refine bec29 (by omega) hM (a_ngate (k := k1) (by omega) (by omega) (by omega) rfl (nIb (lo := 1) (hi := 10) (by omega) (by omega) (by decide)) (nIb (lo := 1) (hi := 20) (by omega) (by omega) (by decide)) (nIb (lo := 1) (hi := 10) (by omega) (by omega) (by decide))) ?_
    intro μ1 h1
    show (if _ then _ else _)
    rw [if_pos rfl]
    exact H μ1 _ _ h1 (J_gateR hJ (by omega) n2 ⟨rfl, by omega, by omega⟩ ⟨rfl, by omega, by omega⟩ ⟨rfl, by omega, by omega⟩) (hW.same (gateR_o (by omega) (by omega)) (fun q hq => ⟨gateR_o (by omega) (by omega), gateR_o (by omega) (by omega)⟩)) (by omega) (by omega)
theorem s_1 (hn : n < 30000) (hM : M29 n μ r ng np nx 1) (hJ : J B r ng np) (hW : Wt r np) (hg : a < ng) (H : ∀ (μ' : Mm) (r' : Nat → Int32), M29 (n + 1) μ' r' ng np nx 1 → J B r' ng np → Wt r' np → w_L_law_997 L xs X Φ x2 1 μ') {x6 x7 : Int32} : w_L_law_147 L xs X Φ x2 x3 x4 1 x6 x7 (nI a) z0 μ := by
  obtain ⟨n1, n2, n3, n4⟩ := hM.1.1.n
  obtain ⟨k1, l1, f1⟩ := low29 x4 (N := 3) 3 rfl (by decide) (by decide)
  unfold w_L_law_147
  rw [if_neg (by decide), if_pos rfl, rg_0 hM.1 hg, f1]
  unfold w_X9_setDirection
  refine bec29 (by omega) hM (a_dir (k := k1) (by omega) hg (by omega)) ?_
  intro μ1 h1
  show (if _ then _ else _)
  rw [if_pos rfl, rg_0 h1.1 hg, f1, if_pos pk_us]
  exact H μ1 _ h1 (J_dir hJ n1 n2 hg) (hW.same (pk_un (by omega)) (fun q hq => ⟨pk_un (by omega), pk_un (by omega)⟩))
theorem s_2 (hn : n < 30000) (hM : M29 n μ r ng np nx 1) (hJ : J (60 + 50 * e) r ng np) (he : e < 1000) (hW : Wt r np) (H : ∀ (μ' : Mm) (r' : Nat → Int32), M29 (n + 1) μ' r' ng np nx 1 → J (60 + 50 * (e + 1)) r' ng np → Wt r' np → w_L_law_997 L xs X Φ x2 1 μ') {x6 x7 x8 : Int32} : w_L_law_147 L xs X Φ x2 x3 x4 2 x6 x7 x8 z0 μ := by
  obtain ⟨n1, n2, n3, n4⟩ := hM.1.1.n
  obtain ⟨k1, l1, f1⟩ := low29 x4 (N := 50) 50 rfl (by decide) (by decide)
  obtain ⟨c, lim, ⟨c1, c2⟩, c3, -⟩ := hJ.2.2.2.1
  unfold w_L_law_147
  rw [if_neg (by decide), if_neg (by decide), if_pos rfl, rl_0 hM.1, f1, show (1 : Int32) + nI k1 = nI (1 + k1) from nI_add 1 k1]
  unfold w_X9_credit
  refine bec29 (by omega) hM (a_credit (c := c) (m := 1 + k1) (by omega) (by omega) (by omega) c3 (by omega)) ?_
  intro μ1 h1
  show w_L_low x4 50 μ1 _
  rw [f1, if_pos (by rw [c3, nI_1, nI_add]; congr 1; omega)]
  exact H μ1 _ h1 (J_credit hJ n1 n2 (by omega) (by omega) (by omega)) (hW.same (pk_un (by omega)) (fun q hq => ⟨pk_un (by omega), pk_un (by omega)⟩))
theorem s_3 (hn : n < 30000) (hM : M29 n μ r ng np nx 1) (hJ : J B r ng np) (hW : Wt r np) (H : ∀ (μ' : Mm) (r' : Nat → Int32), M29 (n + 1) μ' r' ng np nx 1 → J B r' ng np → Wt r' np → w_L_law_997 L xs X Φ x2 1 μ') {x6 x7 x8 : Int32} : w_L_law_147 L xs X Φ x2 x3 x4 3 x6 x7 x8 z0 μ := by
  obtain ⟨n1, n2, n3, n4⟩ := hM.1.1.n
  obtain ⟨k1, l1, f1⟩ := low29 x3 (N := 3) 3 rfl (by decide) (by decide)
  have f450 : ∀ (μ' : Mm) (r' : Nat → Int32), M29 (n + 1) μ' r' ng np nx 1 → J B r' ng np → Wt r' np → w_L_law_450 L xs X Φ x2 1 μ' := fun μ' r' a1 a2 a3 => H μ' r' a1 a2 a3
  have K : ∀ b : Int32, isB b → w_X9_passOf (nI k1) 1 μ (fun r133 u132 => w_L_law_363 L xs X Φ x2 (nI k1) r133 b u132) := fun b hb => by
    by_cases hx : k1 < nx
    · have hB := (h_x hM.1 hx).2.2.2.1
      rw [rx_1 hM.1 hx]
      have e0 : 0 ≤ r (400 + 2 * k1 + 1) := by rcases hB with q | q <;> rw [q] <;> decide
      unfold w_L_law_363 w_X9_block
      by_cases hw : r (400 + 2 * k1 + 1) = b
      · refine same29 (by omega) hM (a_block_same (by omega) hx hw) ?_
        intro μ1 h1
        have F := f450 μ1 r h1 hJ hW
        show (if _ then _ else _)
        rw [if_pos e0]
        rcases hB with q | q
        · rw [if_neg (by rw [q]; decide)]
          unfold w_L_law_405
          rw [if_pos (by rw [← hw, q]), if_pos rfl]
          exact F
        · rw [if_pos q]
          unfold w_L_law_405
          rw [if_pos (by rw [← hw, q]), if_pos rfl]
          exact F
      · refine act29 (by omega) hM (a_block (by omega) hx hb hw) ?_
        rintro v1 r1 a1 a2 a3 a4 μ1 ⟨e1, e2, e3, e4, e5⟩ h1 -
        rw [e1, e2, e3, e4, e5] at h1
        have F := f450 μ1 _ h1 (J_block hJ n1 n2 (by omega)) (hW.same (pk_un (by omega)) (fun q hq => ⟨pk_un (by omega), pk_un (by omega)⟩))
        have P : w_X9_passOf (nI k1) 1 μ1 (fun r141 u140 => if b = 0 then w_L_law_442 L xs X Φ x2 0 r141 u140 else w_L_law_442 L xs X Φ x2 1 r141 u140) := by
          rw [rx_1 h1.1 hx, pk_us]
          rcases hb with q | q
          · rw [q, if_pos rfl]
            unfold w_L_law_442
            rw [if_pos rfl]
            exact F
          · rw [q, if_neg (by decide)]
            unfold w_L_law_442
            rw [if_pos rfl]
            exact F
        show (if _ then _ else _)
        rw [if_pos e0]
        rcases hB with q | q
        · rw [if_neg (by rw [q]; decide)]
          unfold w_L_law_405
          rw [if_neg (fun w => hw (q.trans w))]
          exact P
        · rw [if_pos q]
          unfold w_L_law_405
          rw [if_neg (fun w => hw (q.trans w))]
          exact P
    · have hnx : nI k1 < 0 ∨ nI nx ≤ nI k1 := Or.inr (nI_le (by omega) (by omega))
      rw [rx_n hM.1 hnx]
      unfold w_L_law_363 w_X9_block
      refine same29 (by omega) hM (a_block_n (by omega) hnx) ?_
      intro μ1 h1
      show (if _ then _ else _)
      rw [if_neg (by decide), if_pos rfl]
      exact f450 μ1 r h1 hJ hW
  unfold w_L_law_147
  rw [if_neg (by decide), if_neg (by decide), if_neg (by decide), if_pos rfl, f1]
  by_cases h1 : (x4 &&& (1 : Int32)) = 1
  · have := K 1 (Or.inr rfl)
    simp only [if_pos h1]
    exact this
  · have := K 0 (Or.inl rfl)
    simp only [if_neg h1]
    exact this
theorem s_4 (hn : n < 30000) (hM : M29 n μ r ng np nx 1) (hJ : J B r ng np) (hW : Wt r np) (hx1 : 2 ≤ nx) (hx2 : nx ≤ 3) (H : ∀ (μ' : Mm) (r' : Nat → Int32) (n' nx' : Nat), n' ≤ n + 2 → M29 n' μ' r' ng np nx' 1 → J B r' ng np → Wt r' np → 2 ≤ nx' → nx' ≤ 3 → w_L_law_997 L xs X Φ x2 1 μ') {x6 x7 x8 : Int32} : w_L_law_147 L xs X Φ x2 x3 x4 4 x6 x7 x8 z0 μ := by
  obtain ⟨n1, n2, n3, n4⟩ := hM.1.1.n
  obtain ⟨k1, l1, f1⟩ := low29 x4 (N := 30) 30 rfl (by decide) (by decide)
  unfold w_L_law_147
  rw [if_neg (by decide), if_neg (by decide), if_neg (by decide), if_neg (by decide), if_pos rfl, rc_9 hM.1, f1]
  unfold w_X9_setFare
  refine bec29 (by omega) hM (a_fare (k := k1) (by omega) (by omega)) ?_
  intro μ1 h1
  have j1 := J_fare hJ n1 n2 (show k1 ≤ 1000 by omega)
  have w1 : Wt (upd r 6 (nI k1)) np := hW.same (pk_un (by omega)) (fun q hq => ⟨pk_un (by omega), pk_un (by omega)⟩)
  show (if _ then _ else _)
  rw [if_pos rfl]
  by_cases h3 : nx = 3
  · have q := rx_0 (Φ := fun r125 u124 => if 0 ≤ r125 then w_L_law_503 L xs X Φ x2 u124 else w_X9_addPass 0 u124 (fun r128 u127 => if r128 = 2 then w_L_law_503 L xs X Φ x2 u127 else w_L_law_507 L xs X Φ x2 u127)) h1.1 (x := 2) (by omega)
    refine q.mpr ?_
    show (if _ then _ else _)
    rw [if_pos (by decide)]
    exact H μ1 _ (n + 1) nx (by omega) h1 j1 w1 hx1 hx2
  · have h2 : nx = 2 := by omega
    rw [rx_n (a := 2) h1.1 (Or.inr (by rw [h2]; decide)), if_neg (by decide)]
    unfold w_X9_addPass
    refine bec29 (by omega) h1 (a_npass (by omega) (by omega)) ?_
    intro μ2 h2'
    show (if _ then _ else _)
    rw [if_pos (by rw [h2]; rfl)]
    exact H μ2 _ (n + 2) (nx + 1) (by omega) h2' (J_pass j1 n1 n2 (by omega)) (w1.same (by rw [pk_un (by omega), pk_un (by omega), pk_un (by omega)]) (fun q hq => ⟨by rw [pk_un (by omega), pk_un (by omega), pk_un (by omega)], by rw [pk_un (by omega), pk_un (by omega), pk_un (by omega)]⟩)) (by omega) (by omega)
theorem s_5 {s : Nat} (hs : 5 ≤ s ∧ s ≤ 7) (hn : n < 30000) (hM : M29 n μ r ng np nx 1) (hJ : J B r ng np) (hW : Wt r np) (hg : a < ng) (H : ∀ (μ' : Mm) (r' : Nat → Int32) (np' : Nat), M29 (n + 1) μ' r' ng np' nx 1 → J B r' ng np' → Wt r' np' → w_L_law_997 L xs X Φ x2 1 μ') {x6 : Int32} : w_L_law_147 L xs X Φ x2 x3 x4 (nI s) x6 (nI np) (nI a) z0 μ := by
  obtain ⟨n1, n2, n3, n4⟩ := hM.1.1.n
  obtain ⟨k1, l1, f1⟩ := low29 x4 (N := 4) 4 rfl (by decide) (by decide)
  have E : ∀ (b z s : Int32), isB s → ((b = -1 ∧ z = -5) ∨ ∃ x, x < nx ∧ b = nI x ∧ z = nI x) → w_L_law_566 L xs X Φ x2 (nI np) s b (nI a) μ := fun b z s hs hb => by
    unfold w_L_law_566 w_X9_enter
    by_cases h40 : np = 40
    · refine same29 (by omega) hM (a_enter_full (by omega) h40 hg (by
        rcases hb with ⟨q, -⟩ | ⟨x, q1, q2, -⟩
        · exact Or.inl q
        · exact Or.inr ⟨x, q1, q2⟩)) ?_
      intro μ1 h1
      show (if _ then _ else _)
      rw [if_pos (by rw [h40]; rfl)]
      unfold w_L_law_583
      rw [if_pos rfl]
      exact H μ1 r np h1 hJ hW
    · refine bec29 (by omega) hM (a_enter (z := z) (by omega) (by omega) hg hs hb) ?_
      intro μ1 h1
      show (if _ then _ else _)
      rw [if_neg (show ¬ nI np = 40 from fun q => h40 (nI_inj (b := 40) (by omega) (by omega) q))]
      unfold w_L_law_583
      rw [if_pos rfl]
      refine H μ1 _ (np + 1) h1 (J_enter hJ n1 (by omega)) ?_
      obtain ⟨t, t1, t2, t3⟩ := hW
      refine ⟨t, t1, by rw [enterR_o (by omega) (by omega) (by omega)]; exact t2, fun q hq hw => ?_⟩
      by_cases e : q = np
      · refine ⟨t, Nat.le_refl _, ?_⟩
        rw [e, ← t2]
        unfold enterR
        rw [pk_un (by omega), pk_un (by omega), pk_un (by omega), pk_un (by omega), pk_us]
      · rw [enterR_o (by omega) (by omega) (by omega)] at hw ⊢
        exact t3 q (by omega) hw
  have E2 : ∀ (b z : Int32), ((b = -1 ∧ z = -5) ∨ ∃ x, x < nx ∧ b = nI x ∧ z = nI x) → w_L_law_546 L xs X Φ x2 x4 (nI np) (nI a) b μ := fun b z hb => by
    unfold w_L_law_546
    by_cases h8 : (x4 &&& (8 : Int32)) = 0
    · rw [if_pos h8]
      exact E b z 1 (Or.inr rfl) hb
    · rw [if_neg h8]
      exact E b z 0 (Or.inl rfl) hb
  have E3 := E2 (-1) (-5) (Or.inl ⟨rfl, rfl⟩)
  unfold w_L_law_147
  have m : ∀ j, j < 5 → ¬ nI s = nI j := fun j hj q => by
    have := nI_inj (by omega) (by omega) q
    omega
  rw [if_neg (show ¬ nI s = 0 from m 0 (by decide)), if_neg (show ¬ nI s = 1 from m 1 (by decide)), if_neg (show ¬ nI s = 2 from m 2 (by decide)), if_neg (show ¬ nI s = 3 from m 3 (by decide)), if_neg (show ¬ nI s = 4 from m 4 (by decide)), if_neg (show ¬ (8 : Int32) ≤ nI s from nI_ge (a := s) (b := 8) (by omega) (by omega)), f1]
  by_cases h0 : k1 = 0
  · rw [h0, rx_n hM.1 (Or.inl (show nI 0 - 1 < 0 by decide)), if_neg (by decide)]
    exact E3
  · rw [nI_sub1 (by omega)]
    by_cases hx : k1 - 1 < nx
    · rw [rx_0 hM.1 hx, if_pos (by decide)]
      exact E2 _ _ (Or.inr ⟨k1 - 1, hx, rfl, rfl⟩)
    · rw [rx_n hM.1 (Or.inr (nI_le (by omega) (by omega))), if_neg (by decide)]
      exact E3
end SORTS
end LAW29
