/-! a text is carried out -/
section RUN29
variable {r r' : Nat → Int32} {n ng np nx nl g p x T B v k : Nat} {μ σ u : Mm} {Φ : Int32 → Mm → Prop} {t : List Nat}
theorem steps_keep (hn : np ≤ 40) : ∀ (k i : Nat) {r r' : Nat → Int32} {v : Nat}, i + k ≤ 8 → Steps np k i r r' v → ∀ j, 120 ≤ j → j < 400 → (∀ q, q < np → j ≠ 120 + 7 * q + 0 ∧ j ≠ 120 + 7 * q + 3 ∧ j ≠ 120 + 7 * q + 4) → r' j = r j
  | 0, i, r, r', v, _, h, j, _, _, _ => by rw [h.1]
  | k + 1, i, r, r', v, hi, h, j, j1, j2, hj => by
    obtain ⟨r1, v1, v2, a, b, -⟩ := h
    rw [steps_keep hn k (i + 1) (by omega) b j j1 j2 hj]
    exact (a.fr hn (by omega)).1 j (by omega) (by omega) (by omega) (by omega) (by omega) hj
theorem ticks_keep (hn : np ≤ 40) (h8 : ng ≤ 8) : ∀ (k : Nat) {r r' : Nat → Int32} {v : Nat}, Ticks np ng k r r' v → ∀ j, 120 ≤ j → j < 400 → (∀ q, q < np → j ≠ 120 + 7 * q + 0 ∧ j ≠ 120 + 7 * q + 3 ∧ j ≠ 120 + 7 * q + 4) → r' j = r j
  | 0, r, r', v, h, j, _, _, _ => by rw [h.1]
  | k + 1, r, r', v, h, j, j1, j2, hj => by
    obtain ⟨r1, v1, v2, ⟨r2, a, a2⟩, -, b, -⟩ := h
    rw [ticks_keep hn h8 k b j j1 j2 hj, a2, pk_un (by omega)]
    exact steps_keep hn ng 0 (by omega) a j j1 j2 hj
theorem run_bad {q : Nat} (hn : n < 40000) (hM : M29 n μ r ng np nx nl) (hX : TX μ t) (hl : t.length ≤ 50) (hq : q < 60) (F : ∀ (u : Mm) (Ψ : Int32 → Mm → Prop), CS (Lt t) t.length u 0 → (∀ u' : Mm, (∀ x, x ≠ 745 → u' x = u x) → CS (Lt t) t.length u' q → Ψ (nI q) u') → w_X3_findFault_6 Ψ (0 + 1 + 1 + 1) (nI ng) 0 u) (H : ∀ μ' : Mm, M29 n μ' r ng np nx nl → TX μ' t → (∀ q, q < 745 → μ' q = μ q) → Φ (-100 - nI q) μ') : w_X9_run μ Φ := by
  have c5 : μ 1 5 = nI ng := hM.1.1.1.1.1
  unfold w_X9_run w_X3_findFault w_X3_restart
  rw [c5]
  rintro _ rfl
  refine ⟨0 + 1 + 1 + 1, F _ _ ⟨by rw [up2_n (by omega)]; exact hX.1, up2_s _ _ _ _, fun i hi => by rw [up2_k (by decide)]; exact hX.2 i hi, hl, by decide⟩ ?_⟩
  intro u' a1 a2
  have f : ∀ q, q < 745 → u' q = μ q := fun q hq => by rw [a1 q (by omega), up2_k (by omega)]
  show (if _ then _ else _)
  rw [if_neg (nI_nm1 (by omega))]
  exact H u' (hM.text f ⟨t.length, hl, a2.1⟩ (by omega)) a2.tx f
theorem find_0 (hng : ng ≤ 8) (u : Mm) (Ψ : Int32 → Mm → Prop) (h : CS (Lt []) 0 u 0) (H : ∀ u' : Mm, (∀ x, x ≠ 745 → u' x = u x) → CS (Lt []) 0 u' 0 → Ψ (nI 0) u') : w_X3_findFault_6 Ψ (0 + 1 + 1 + 1) (nI ng) 0 u := by
  unfold w_X3_findFault_6
  rw [if_neg (by decide)]
  refine ord_no (t := []) (p := 0) h (Nat.le_refl _) ?_
  intro u' a1 a2
  show (if (0 : Int32) = 0 then _ else _)
  rw [if_pos rfl, a2.2.1]
  exact H u' a1 a2
theorem find_1 (hng : ng ≤ 8) (u : Mm) (Ψ : Int32 → Mm → Prop) (h : CS (Lt [105]) 1 u 0) (H : ∀ u' : Mm, (∀ x, x ≠ 745 → u' x = u x) → CS (Lt [105]) 1 u' 1 → Ψ (nI 1) u') : w_X3_findFault_6 Ψ (0 + 1 + 1 + 1) (nI ng) 0 u := by
  unfold w_X3_findFault_6
  rw [if_neg (by decide)]
  refine ord_i1 (t := [105]) hng rfl h ?_
  intro u' a1 a2
  show (if (0 : Int32) = 0 then _ else _)
  rw [if_pos rfl, a2.2.1]
  exact H u' a1 a2
theorem find_3 (hng : ng ≤ 8) (hg : g < ng) (u : Mm) (Ψ : Int32 → Mm → Prop) (h : CS (Lt [105, 48 + g, 112]) 3 u 0) (H : ∀ u' : Mm, (∀ x, x ≠ 745 → u' x = u x) → CS (Lt [105, 48 + g, 112]) 3 u' 3 → Ψ (nI 3) u') : w_X3_findFault_6 Ψ (0 + 1 + 1 + 1) (nI ng) 0 u := by
  unfold w_X3_findFault_6
  rw [if_neg (by decide)]
  refine ord_i3 (t := [105, 48 + g, 112]) hng hg rfl h ?_
  intro u' a1 a2
  show (if (0 : Int32) = 0 then _ else _)
  rw [if_pos rfl, a2.2.1]
  exact H u' a1 a2
section FIND
variable {s : Int32} {sl post : List Nat}
theorem find_i (hng : ng ≤ 8) (hg : g < ng) (hv : v < 100) (hs : (s = 1 ∧ sl = [115]) ∨ (s = 0 ∧ sl = [])) (e : t = [105, 48 + g, 112] ++ dgs v ++ (sl ++ 116 :: post)) (hl : t.length ≤ 50) {u : Mm} {Ψ : Int32 → Mm → Prop} (h : CS (Lt t) t.length u 0) (H : ∀ u' : Mm, (∀ x, x ≠ 745 → u' x = u x) → CS (Lt t) t.length u' ([105, 48 + g, 112] ++ dgs v ++ sl).length → w_X3_findFault_6 Ψ (0 + 1 + 1) (nI ng) (nI 1) u') : w_X3_findFault_6 Ψ (0 + 1 + 1 + 1) (nI ng) 0 u := by
  have eP : ([105, 48 + g, 112] ++ dgs v ++ sl).length = 3 + (dgs v).length + sl.length := by simp only [List.length_append, List.length_cons, List.length_nil]; try omega
  have el : t.length = 3 + (dgs v).length + sl.length + (post.length + 1) := by rw [e]; simp only [List.length_append, List.length_cons, List.length_nil]; omega
  rw [eP] at H
  unfold w_X3_findFault_6
  rw [if_neg (by decide)]
  refine ord_i hng hg hv hs e hl h ?_
  intro u' a1 a2 _ _ _ _
  show (if (1 : Int32) = 0 then _ else _)
  rw [if_neg (by decide), a2.2.1, a2.1, if_pos (nI_lt (by omega) (by omega))]
  exact H u' a1 a2
theorem find_t (hng : ng ≤ 8) (hg : g < ng) (hv : v < 100) (hs : (s = 1 ∧ sl = [115]) ∨ (s = 0 ∧ sl = [])) (e : t = [105, 48 + g, 112] ++ dgs v ++ (sl ++ 116 :: [])) (hl : t.length ≤ 50) (u : Mm) (Ψ : Int32 → Mm → Prop) (h : CS (Lt t) t.length u 0) (H : ∀ u' : Mm, (∀ x, x ≠ 745 → u' x = u x) → CS (Lt t) t.length u' t.length → Ψ (nI t.length) u') : w_X3_findFault_6 Ψ (0 + 1 + 1 + 1) (nI ng) 0 u := by
  refine find_i hng hg hv hs e hl h ?_
  intro u' a1 a2
  unfold w_X3_findFault_6
  rw [if_neg (by decide)]
  refine ord_t_bad (pre := [105, 48 + g, 112] ++ dgs v ++ sl) (by rw [e]; simp only [List.append_assoc, List.cons_append, List.nil_append, List.append_nil]) hl a2 ?_
  intro u2 b1 b2
  show (if (0 : Int32) = 0 then _ else _)
  rw [if_pos rfl, b2.2.1]
  exact H u2 (fun x hx => (b1 x hx).trans (a1 x hx)) b2
theorem find_x (hng : ng ≤ 8) (hg : g < ng) (hv : v < 100) (hk : 1 ≤ k) (hk2 : k < 100) (hs : (s = 1 ∧ sl = [115]) ∨ (s = 0 ∧ sl = [])) (e : t = [105, 48 + g, 112] ++ dgs v ++ (sl ++ 116 :: (dgs k ++ [120, 48 + ng]))) (hl : t.length ≤ 50) (u : Mm) (Ψ : Int32 → Mm → Prop) (h : CS (Lt t) t.length u 0) (H : ∀ u' : Mm, (∀ x, x ≠ 745 → u' x = u x) → CS (Lt t) t.length u' (([105, 48 + g, 112] ++ dgs v ++ (sl ++ 116 :: dgs k)).length + 1) → Ψ (nI (([105, 48 + g, 112] ++ dgs v ++ (sl ++ 116 :: dgs k)).length + 1)) u') : w_X3_findFault_6 Ψ (0 + 1 + 1 + 1) (nI ng) 0 u := by
  have e1 : t = ([105, 48 + g, 112] ++ dgs v ++ sl) ++ 116 :: (dgs k ++ [120, 48 + ng]) := by rw [e]; simp only [List.append_assoc, List.cons_append, List.nil_append, List.append_nil]
  have e2 : t = ([105, 48 + g, 112] ++ dgs v ++ (sl ++ 116 :: dgs k)) ++ [120, 48 + ng] := by rw [e]; simp only [List.append_assoc, List.cons_append, List.nil_append, List.append_nil]
  have eP : ([105, 48 + g, 112] ++ dgs v ++ sl).length + 1 + (dgs k).length = ([105, 48 + g, 112] ++ dgs v ++ (sl ++ 116 :: dgs k)).length := by
    simp only [List.length_append, List.length_cons, List.length_nil]; omega
  have el : t.length = ([105, 48 + g, 112] ++ dgs v ++ (sl ++ 116 :: dgs k)).length + 2 := by rw [e2]; simp only [List.length_append, List.length_cons, List.length_nil]
  refine find_i hng hg hv hs e hl h ?_
  intro u' a1 a2
  unfold w_X3_findFault_6
  rw [if_neg (by decide)]
  refine ord_t (pre := [105, 48 + g, 112] ++ dgs v ++ sl) (post := [120, 48 + ng]) e1 hl hk hk2 (Or.inr ⟨120, [48 + ng], rfl, by decide, by decide⟩) a2 ?_
  intro u2 b1 b2 _ _
  rw [eP] at b2
  show (if (1 : Int32) = 0 then _ else _)
  rw [if_neg (by decide), b2.2.1, b2.1, if_pos (nI_lt (by omega) (by omega))]
  unfold w_X3_findFault_6
  rw [if_neg (by decide)]
  refine ord_x (pre := [105, 48 + g, 112] ++ dgs v ++ (sl ++ 116 :: dgs k)) hng e2 hl b2 ?_
  intro u3 c1 c2
  show (if (0 : Int32) = 0 then _ else _)
  rw [if_pos rfl, c2.2.1]
  exact H u3 (fun x hx => (c1 x hx).trans ((b1 x hx).trans (a1 x hx))) c2
theorem find_ok (hng : ng ≤ 8) (hg : g < ng) (hv : v < 100) (hk : 1 ≤ k) (hk2 : k < 100) (hs : (s = 1 ∧ sl = [115]) ∨ (s = 0 ∧ sl = [])) (e : t = [105, 48 + g, 112] ++ dgs v ++ (sl ++ 116 :: dgs k)) (hl : t.length ≤ 50) (u : Mm) (Ψ : Int32 → Mm → Prop) (h : CS (Lt t) t.length u 0) (H : ∀ u' : Mm, (∀ x, x ≠ 745 → u' x = u x) → TX u' t → Ψ (-1) u') : w_X3_findFault_6 Ψ (0 + 1 + 1 + 1) (nI ng) 0 u := by
  have e1 : t = ([105, 48 + g, 112] ++ dgs v ++ sl) ++ 116 :: (dgs k ++ []) := by rw [e]; simp only [List.append_assoc, List.cons_append, List.nil_append, List.append_nil]
  have eP : ([105, 48 + g, 112] ++ dgs v ++ sl).length + 1 + (dgs k).length = t.length := by
    rw [e]; simp only [List.length_append, List.length_cons, List.length_nil]; omega
  refine find_i hng hg hv hs e hl h ?_
  intro u' a1 a2
  unfold w_X3_findFault_6
  rw [if_neg (by decide)]
  refine ord_t (pre := [105, 48 + g, 112] ++ dgs v ++ sl) (post := []) e1 hl hk hk2 (Or.inl rfl) a2 ?_
  intro u2 b1 b2 _ _
  rw [eP] at b2
  show (if (1 : Int32) = 0 then _ else _)
  rw [if_neg (by decide), b2.2.1, b2.1, if_neg (nI_nlt (Nat.le_refl _) (by omega))]
  exact H u2 (fun x hx => (b1 x hx).trans (a1 x hx)) b2.tx
theorem err_0 {w : Int32} {u : Mm} (h : 0 ≤ w) : w_X9_isError w u Φ = Φ 0 u := by
  unfold w_X9_isError
  rw [if_pos h]
theorem err_1 {w : Int32} {u : Mm} (h : ¬ 0 ≤ w) (h5 : ¬ w = -5) : w_X9_isError w u Φ = Φ 1 u := by
  unfold w_X9_isError
  rw [if_neg h, if_neg h5]
/-- nobody comes -/
theorem loop_no {w : Int32} (hn : n < 40000) (hng : ng ≤ 8) (hg : g < ng) (hv : v < 100) (hs : (s = 1 ∧ sl = [115]) ∨ (s = 0 ∧ sl = [])) (e : t = [105, 48 + g, 112] ++ dgs v ++ (sl ++ 116 :: dgs k)) (hl : t.length ≤ 50) (hA : Acts (fun S => w_X8_comeIn S (nI g) (nI v) s) n r ng np nx 1 (Bec w r ng np nx 1)) (hw : ¬ 0 ≤ w) (hw5 : ¬ w = -5) (h : Rel (HB u 1) r (TB n) ng np nx 1) (hC : CS (Lt t) t.length u 0) (H : ∀ u' : Mm, Rel (HB u' 1) r (TB (n + 1)) ng np nx 1 → (∀ x, 107 ≤ x → x ≠ 745 → u' x = u x) → TX u' t → Φ 0 u') : w_X9_run_52 Φ (0 + 1 + 1 + 1) 0 u := by
  have c5 : u 1 5 = nI ng := h.1.1.1.1
  unfold w_X9_run_52
  rw [if_neg (by decide), c5]
  refine ord_i hng hg hv hs e hl hC ?_
  intro u1 a1 a2 a3 a4 a5 a6
  show (if (1 : Int32) = 0 then _ else _)
  rw [if_neg (by decide)]
  unfold w_X9_carryOut
  rw [a3, if_pos rfl, a4, a5, a6]
  have h1 : Rel (HB u1 1) r (TB n) ng np nx 1 := h.blk (fun q hq => a1 (1 + q) (by omega))
  obtain ⟨σ', r', w', ng', np', nx', nl', b1, b2, e1, e2, e3, e4, e5, e6⟩ := hA _ h1
  rw [e2, e3, e4, e5, e6] at b1
  have b3 := b2 1 u1
  rw [bl_HB, e1] at b3
  refine b3 _ ?_
  show w_X9_isError w _ _
  rw [err_1 hw hw5]
  show (if (1 : Int32) = 0 then _ else _)
  rw [if_neg (by decide)]
  exact H _ b1.hb (fun x hx hx2 => by rw [bl_out (by omega)]; exact a1 x hx2) ⟨by rw [bl_out (by decide)]; exact a2.1, fun i hi => by rw [bl_out (by decide)]; exact a2.2.2.1 i hi⟩
/-- a person comes, and ticks go by -/
theorem loop_it (hn : n < 40000) (hng : ng ≤ 8) (hg : g < ng) (hv : v < nx) (hnp : np < 40) (hk : 1 ≤ k) (hk2 : k ≤ 40) (hs : (s = 1 ∧ sl = [115]) ∨ (s = 0 ∧ sl = [])) (e : t = [105, 48 + g, 112] ++ dgs v ++ (sl ++ 116 :: dgs k)) (hl : t.length ≤ 50) (h : Rel (HB u 1) r (TB n) ng np nx 1) (hC : CS (Lt t) t.length u 0) (H : ∀ (u' : Mm) (r' : Nat → Int32) (w : Nat), Rel (HB u' 1) r' (TB (n + 1)) ng (np + 1) nx 1 → Ticks (np + 1) ng k (enterR g np (nI v) s r) r' w → (∀ x, 107 ≤ x → x ≠ 745 → u' x = u x) → TX u' t → Φ (nI 2) u') : w_X9_run_52 Φ (0 + 1 + 1 + 1) 0 u := by
  have c5 : u 1 5 = nI ng := h.1.1.1.1
  have n3 := h.1.n.2.2.1
  have hT := TB29 hn
  have e1 : t = ([105, 48 + g, 112] ++ dgs v ++ sl) ++ 116 :: (dgs k ++ []) := by rw [e]; simp only [List.append_assoc, List.cons_append, List.nil_append, List.append_nil]
  have eP : ([105, 48 + g, 112] ++ dgs v ++ sl).length + 1 + (dgs k).length = t.length := by
    rw [e]; simp only [List.length_append, List.length_cons, List.length_nil]; omega
  have eQ : 3 + (dgs v).length + sl.length = ([105, 48 + g, 112] ++ dgs v ++ sl).length := by simp only [List.length_append, List.length_cons, List.length_nil]; try omega
  have hsB : isB s := by
    rcases hs with ⟨q, -⟩ | ⟨q, -⟩
    · exact Or.inr q
    · exact Or.inl q
  unfold w_X9_run_52
  rw [if_neg (by decide), c5]
  refine ord_i hng hg (by omega) hs e hl hC ?_
  intro u1 a1 a2 a3 a4 a5 a6
  rw [eQ] at a2
  show (if (1 : Int32) = 0 then _ else _)
  rw [if_neg (by decide)]
  unfold w_X9_carryOut
  rw [a3, if_pos rfl, a4, a5, a6]
  have h1 : Rel (HB u1 1) r (TB n) ng np nx 1 := h.blk (fun q hq => a1 (1 + q) (by omega))
  obtain ⟨σ', b1, b2⟩ := e_enter (b := nI v) (z := nI v) h1 (by omega) hnp hg hsB (Or.inr ⟨v, hv, rfl, rfl⟩)
  have b3 := b2 1 u1
  rw [bl_HB] at b3
  refine b3 _ ?_
  show w_X9_isError (nI np) _ _
  rw [err_0 (nI_pos' (by omega))]
  show (if (0 : Int32) = 0 then _ else _)
  rw [if_pos rfl]
  obtain ⟨u2, e2⟩ : ∃ u2 : Mm, u2 = bl 1 σ' u1 := ⟨_, rfl⟩
  have f2 : ∀ x, 107 ≤ x → u2 x = u1 x := fun x hx => by rw [e2]; exact bl_out (by omega)
  have h2 : Rel (HB u2 1) (enterR g np (nI v) s r) (TB n + 1) ng (np + 1) nx 1 := by rw [e2]; exact b1.hb
  have c2 : CS (Lt t) t.length u2 ([105, 48 + g, 112] ++ dgs v ++ sl).length := ⟨by rw [f2 _ (by decide)]; exact a2.1, by rw [f2 _ (by decide)]; exact a2.2.1, fun i hi => by rw [f2 _ (by decide)]; exact a2.2.2.1 i hi, a2.2.2.2⟩
  rw [← e2]
  have c52 : u2 1 5 = nI ng := h2.1.1.1.1
  unfold w_X9_run_52
  rw [if_neg (by decide), c52]
  refine ord_t (pre := [105, 48 + g, 112] ++ dgs v ++ sl) (post := []) e1 hl hk (by omega) (Or.inl rfl) c2 ?_
  intro u3 d1 d2 d3 d4
  rw [eP] at d2
  show (if (1 : Int32) = 0 then _ else _)
  rw [if_neg (by decide)]
  unfold w_X9_carryOut
  rw [d3, if_neg (by decide), if_neg (by decide), if_pos rfl, d4]
  have h3 : Rel (HB u3 1) (enterR g np (nI v) s r) (TB n + 1) ng (np + 1) nx 1 := h2.blk (fun q hq => d1 (1 + q) (by omega))
  obtain ⟨σ2, r2, w, g1, g2, g3, g4⟩ := pass29 h3 hk (by omega) (by omega)
  have g5 := g4 1 u3
  rw [bl_HB] at g5
  refine g5 _ ?_
  show w_X9_isError (nI w) _ _
  rw [err_0 (nI_pos' (by omega))]
  show (if (0 : Int32) = 0 then _ else _)
  rw [if_pos rfl]
  obtain ⟨u4, e4⟩ : ∃ u4 : Mm, u4 = bl 1 σ2 u3 := ⟨_, rfl⟩
  have f4 : ∀ x, 107 ≤ x → u4 x = u3 x := fun x hx => by rw [e4]; exact bl_out (by omega)
  have h4 : Rel (HB u4 1) r2 (TB n + 1 + k) ng (np + 1) nx 1 := by rw [e4]; exact g1.hb
  have c4 : CS (Lt t) t.length u4 t.length := ⟨by rw [f4 _ (by decide)]; exact d2.1, by rw [f4 _ (by decide)]; exact d2.2.1, fun i hi => by rw [f4 _ (by decide)]; exact d2.2.2.1 i hi, d2.2.2.2⟩
  rw [← e4]
  have c54 : u4 1 5 = nI ng := h4.1.1.1.1
  unfold w_X9_run_52
  rw [if_neg (by decide), c54]
  refine ord_no c4 (Nat.le_refl _) ?_
  intro u5 k1 k2
  show (if (0 : Int32) = 0 then _ else _)
  rw [if_pos rfl]
  exact H u5 r2 w ((h4.blk (fun q hq => k1 (1 + q) (by omega))).mono (by have := TB_up (n := n); omega) (TB_lt (by omega))) g2 (fun x hx hx2 => by rw [k1 x hx2, f4 x hx, d1 x hx2, f2 x hx, a1 x hx2]) k2.tx
end FIND
/-- the text is carried out -/
theorem run_good (hn : n < 40000) (hM : M29 n μ r ng np nx 1) (hX : TX μ t) (hl : t.length ≤ 50) {Q : Nat → (Nat → Int32) → Nat → Prop} (F : ∀ (u : Mm) (Ψ : Int32 → Mm → Prop), CS (Lt t) t.length u 0 → (∀ u' : Mm, (∀ x, x ≠ 745 → u' x = u x) → TX u' t → Ψ (-1) u') → w_X3_findFault_6 Ψ (0 + 1 + 1 + 1) (nI ng) 0 u) (Lp : ∀ (u : Mm) (Ψ : Int32 → Mm → Prop), Rel (HB u 1) r (TB n) ng np nx 1 → CS (Lt t) t.length u 0 → (∀ (u' : Mm) (c : Nat) (r' : Nat → Int32) (np' : Nat), Q c r' np' → Rel (HB u' 1) r' (TB (n + 1)) ng np' nx 1 → (∀ x, 107 ≤ x → x ≠ 745 → u' x = u x) → TX u' t → Ψ (nI c) u') → w_X9_run_52 Ψ (0 + 1 + 1 + 1) 0 u) (H : ∀ (μ' : Mm) (c : Nat) (r' : Nat → Int32) (np' : Nat), Q c r' np' → M29 (n + 1) μ' r' ng np' nx 1 → TX μ' t → Top (n + 1) μ' r ng np nx 1 → Φ (nI c) μ') : w_X9_run μ Φ := by
  have c5 : μ 1 5 = nI ng := hM.1.1.1.1.1
  unfold w_X9_run w_X3_findFault
  rw [c5]
  unfold w_X3_restart
  rintro _ rfl
  refine ⟨0 + 1 + 1 + 1, F _ _ ⟨by rw [up2_n (by omega)]; exact hX.1, up2_s _ _ _ _, fun i hi => by rw [up2_k (by decide)]; exact hX.2 i hi, hl, by decide⟩ ?_⟩
  intro u1 a1 a2
  have f1 : ∀ q, q < 745 → u1 q = μ q := fun q hq => by rw [a1 q (by omega), up2_k (by omega)]
  have hM1 := hM.text f1 ⟨t.length, hl, a2.1⟩ (by omega)
  show (if (-1 : Int32) = -1 then _ else _)
  rw [if_pos rfl]
  obtain ⟨hR, ⟨o, m, hO⟩, -⟩ := hM1
  obtain ⟨μ1, p1, p2, p3⟩ := prep29 hO hR
  refine p3 _ ?_
  have hlt : (o + m) % 5 < 5 := Nat.mod_lt _ (by decide)
  have hO1 : Ho μ1 o m := ⟨hO.1, hO.2.1, by rw [p1 _ (by omega)]; exact hO.2.2.1, by rw [p1 _ (by omega)]; exact hO.2.2.2⟩
  have hR1 : Rel (HB μ1 1) r (TB n) ng np nx 1 := hR.blk (fun q hq => p1 (1 + q) (by omega))
  have hP : Rel (HB μ1 (215 + 106 * ((o + m) % 5))) r (TB (n + 1)) ng np nx 1 := p2.mono (by have := TB_up (n := n); omega) (TB_lt (by omega))
  obtain ⟨μ3, k1, k2, k3⟩ := keep29 hO1 hP (by omega)
  refine k2 _ ?_
  rintro _ rfl
  have tx : ∀ q, 745 ≤ q → μ3 q = u1 q := fun q hq => by rw [k1 q (by omega), p1 q (by omega)]
  refine ⟨0 + 1 + 1 + 1, Lp _ _ (hR1.blk (fun q hq => by show up2 μ3 745 2 0 (1 + q) = μ1 (1 + q); rw [up2_k (by omega), k1 _ (by omega)])) ⟨by rw [up2_n (by omega), tx _ (by decide)]; exact a2.1, up2_s _ _ _ _, fun i hi => by rw [up2_k (by decide), tx _ (by decide)]; exact a2.2 i hi, hl, by decide⟩ ?_⟩
  intro u' c r' np' hQ hR' fr hX'
  have fr2 : ∀ x, 107 ≤ x → x < 745 → u' x = μ3 x := fun x h1 h2 => by rw [fr x h1 (by omega), up2_k (by omega)]
  obtain ⟨o', m', ⟨q1, q2, q3, q4⟩, q5⟩ := k3
  have hlt' : (o' + m') % 5 < 5 := Nat.mod_lt _ (by decide)
  have hO' : Ho u' o' (m' + 1) := ⟨q1, q2, by rw [fr2 _ (by decide) (by decide)]; exact q3, by rw [fr2 _ (by decide) (by decide)]; exact q4⟩
  exact H u' c r' np' hQ ⟨hR', ⟨o', m' + 1, hO'⟩, ⟨t.length, hl, hX'.1⟩⟩ hX' ⟨o', m', hO', q5.to (fun q hq => fr2 _ (by omega) (by omega)) (Nat.le_refl _) (TB_lt (by omega))⟩
end RUN29
