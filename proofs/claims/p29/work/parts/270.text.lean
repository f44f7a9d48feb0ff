/-! orders as a text -/
section TEXT29
variable {r r' : Nat → Int32} {n ng np nx nl g p x T B v k : Nat} {μ σ u : Mm} {Φ : Int32 → Mm → Prop} {t : List Nat}
/-- the letters of a text -/
def Lt (t : List Nat) (i : Nat) : Int32 := nI (t.getD i 0)
def TX (μ : Mm) (t : List Nat) : Prop := μ 745 1 = nI t.length ∧ ∀ i, i < t.length → μ 746 i = Lt t i
def dgs (v : Nat) : List Nat := if v ≤ 9 then [48 + v] else [48 + v / 10, 48 + v % 10]
theorem getD_mid {pre post : List Nat} {c : Nat} : (pre ++ c :: post).getD pre.length 0 = c := by
  induction pre with
  | nil => rfl
  | cons a pre ih => exact ih
theorem getD_left {pre post : List Nat} : ∀ {i : Nat}, i < pre.length → (pre ++ post).getD i 0 = pre.getD i 0 := by
  induction pre with
  | nil => intro i h; exact absurd h (Nat.not_lt_zero _)
  | cons a pre ih =>
    intro i h
    cases i with
    | zero => rfl
    | succ i => exact ih (Nat.lt_of_succ_lt_succ h)
theorem lh_mid {pre post : List Nat} {c : Nat} (e : t = pre ++ c :: post) : lh (Lt t) t.length pre.length = nI c := by
  rw [e, lh_y (by rw [List.length_append, List.length_cons]; omega)]
  unfold Lt
  rw [getD_mid]
theorem lh_end (h : t.length ≤ p) : lh (Lt t) t.length p = -1 := lh_n h
theorem TX.cs (h : TX μ t) (h2 : μ 745 2 = nI p) (hl : t.length ≤ 50) (hp : p < 100) : CS (Lt t) t.length μ p := ⟨h.1, h2, h.2, hl, hp⟩
theorem CS.tx (h : CS (Lt t) t.length μ p) : TX μ t := ⟨h.1, h.2.2.1⟩
theorem dgs_len (v : Nat) : (dgs v).length = if v ≤ 9 then 1 else 2 := by
  unfold dgs
  split <;> rfl
/-- one letter more -/
theorem type_t {a : Int32} {c : Nat} (hM : M29 n μ r ng np nx nl) (hn : n < 40000) (hX : TX μ t) (ht : t.length < 40) (hc : vp_nar .char a = nI c) (H : ∀ μ' : Mm, M29 n μ' r ng np nx nl → TX μ' (t ++ [c]) → (∀ q, q < 745 → μ' q = μ q) → Φ (nI (t.length + 1)) μ') : w_X9_type a μ Φ := by
  rw [type29 hX.1 (by omega)]
  have f : ∀ q, q < 745 → up2 (up2 μ 746 t.length (vp_nar .char a)) 745 1 (nI (t.length + 1)) q = μ q := fun q hq => by rw [up2_k (by omega), up2_k (by omega)]
  have el : (t ++ [c]).length = t.length + 1 := by rw [List.length_append]; rfl
  have tx : TX (up2 (up2 μ 746 t.length (vp_nar .char a)) 745 1 (nI (t.length + 1))) (t ++ [c]) := by
    refine ⟨by rw [up2_s, el], fun i hi => ?_⟩
    rw [el] at hi
    rw [up2_n (by omega)]
    by_cases e : i = t.length
    · rw [e, up2_s, hc]
      unfold Lt
      rw [getD_mid]
    · rw [up2_n (by omega), hX.2 i (by omega)]
      unfold Lt
      rw [getD_left (by omega)]
  exact H _ (hM.text f ⟨t.length + 1, by omega, by rw [tx.1, el]⟩ (by omega)) tx f
theorem digit_c : ∀ d, d < 10 → vp_nar .char (((48 : Int32) + nI d).toUInt32 % 65536).toInt32 = nI (48 + d) := by decide
theorem digits_t (hM : M29 n μ r ng np nx nl) (hn : n < 40000) (hX : TX μ t) (ht : t.length < 30) (hv : v < 100) (H : ∀ μ' : Mm, M29 n μ' r ng np nx nl → TX μ' (t ++ dgs v) → (∀ q, q < 745 → μ' q = μ q) → Φ (nI (t ++ dgs v).length) μ') : w_L_digits (nI v) μ Φ := by
  have e10 : nI v - nI v / (10 : Int32) * (10 : Int32) = nI (v % 10) := pk_rem (a := v) (d := 10) (by omega) (by decide) (by decide)
  have e1 : nI v / (10 : Int32) = nI (v / 10) := pk_div (a := v) (d := 10) (by omega) (by decide) (by decide)
  unfold w_L_digits
  rw [e10, e1]
  by_cases h9 : v ≤ 9
  · have ed : dgs v = [48 + v % 10] := by unfold dgs; rw [if_pos h9, Nat.mod_eq_of_lt (by omega)]
    rw [if_pos (show nI v ≤ 9 from nI_le (b := 9) h9 (by decide))]
    refine ⟨by decide, ?_⟩
    refine type_t (c := 48 + v % 10) hM hn hX (by omega) (digit_c _ (Nat.mod_lt _ (by decide))) (fun μ' h1 h2 h3 => ?_)
    have k := H μ' h1 (by rw [ed]; exact h2) h3
    rw [ed, List.length_append] at k
    exact k
  · have ed : dgs v = [48 + v / 10, 48 + v % 10] := by unfold dgs; rw [if_neg h9]
    rw [if_neg (show ¬ nI v ≤ 9 from nI_ge (a := 9) (b := v) (by omega) (by omega))]
    refine ⟨by decide, ?_⟩
    refine type_t (c := 48 + v / 10) hM hn hX (by omega) (digit_c _ (by omega)) (fun μ' h1 h2 h3 => ?_)
    refine ⟨by decide, ?_⟩
    have el : (t ++ [48 + v / 10]).length = t.length + 1 := by rw [List.length_append]; rfl
    refine type_t (c := 48 + v % 10) h1 hn h2 (by omega) (digit_c _ (Nat.mod_lt _ (by decide))) (fun μ'' g1 g2 g3 => ?_)
    have e2 : t ++ [48 + v / 10] ++ [48 + v % 10] = t ++ dgs v := by rw [ed, List.append_assoc]; rfl
    have k := H μ'' g1 (by rw [← e2]; exact g2) (fun q hq => (g3 q hq).trans (h3 q hq))
    rw [← e2, List.length_append] at k
    exact k
/-- a number that is read -/
theorem num_t {pre post : List Nat} {a : Int32} {P : Nat} (e : t = pre ++ dgs v ++ post) (eP : P = pre.length) (hl : t.length ≤ 50) (hv : v < 100) (ha : a = 0 ∨ (a = 1 ∧ 1 ≤ v)) (hpost : post = [] ∨ ∃ c post', post = c :: post' ∧ 58 ≤ c ∧ c < 1000) (h : CS (Lt t) t.length u P) (H : ∀ u' : Mm, (∀ x, x ≠ 745 → u' x = u x) → CS (Lt t) t.length u' (P + (dgs v).length) → u' 745 3 = u 745 3 → u' 745 4 = u 745 4 → u' 745 5 = nI v → Φ 1 u') : w_X3_readNumber a u Φ := by
  have hP : P < 90 := by
    rw [e, List.length_append, List.length_append] at hl
    omega
  have hd0 : ∀ d, (a = 0 ∨ (a = 1 ∧ 1 ≤ d)) → d < 100 → ¬ nI d < a := fun d hd hd1 => by
    rcases hd with q | ⟨q, q2⟩
    · rw [q]; exact nI_pos (by omega)
    · rw [q]; exact nI_nlt (a := d) (b := 1) q2 (by omega)
  by_cases h9 : v ≤ 9
  · have ed : dgs v = [48 + v] := by unfold dgs; rw [if_pos h9]
    have e1 : lh (Lt t) t.length P = nI (48 + v) := by
      rw [eP]
      exact lh_mid (post := post) (by rw [e, ed, List.append_assoc]; rfl)
    have e2 : ∀ d, d < 10 → lh (Lt t) t.length (P + 1) ≠ nI (48 + d) := fun d hd => by
      rcases hpost with q | ⟨c, post', q, q1, q2⟩
      · rw [lh_end (by rw [e, q, ed, List.length_append, List.length_append, eP]; exact Nat.le_refl _)]
        exact fun w => nI_pos (n := 48 + d) (by omega) (by rw [← w]; decide)
      · have := lh_mid (t := t) (pre := pre ++ [48 + v]) (post := post') (c := c) (by rw [e, ed, q])
        rw [List.length_append] at this
        rw [eP]
        show lh (Lt t) t.length (pre.length + [48 + v].length) ≠ _
        rw [this]
        exact fun w => by have := nI_inj (by omega) (by omega) w; omega
    refine c_num_1 (d := v) h hP e1 (by omega) (hd0 v ha hv) (Or.inr e2) ?_
    refine H _ (fun x hx => by rw [up2_k hx, up2_k hx]) ?_ (by rw [up2_n (by omega), up2_n (by omega)]) (by rw [up2_n (by omega), up2_n (by omega)]) (up2_s _ _ _ _)
    rw [ed]
    exact (h.go (by omega)).cell (by decide)
  · have ed : dgs v = [48 + v / 10, 48 + v % 10] := by unfold dgs; rw [if_neg h9]
    have e1 : lh (Lt t) t.length P = nI (48 + v / 10) := by
      rw [eP]
      exact lh_mid (post := (48 + v % 10) :: post) (by rw [e, ed, List.append_assoc]; rfl)
    have e2 : lh (Lt t) t.length (P + 1) = nI (48 + v % 10) := by
      have := lh_mid (t := t) (pre := pre ++ [48 + v / 10]) (post := post) (c := 48 + v % 10) (by rw [e, ed, List.append_assoc, List.append_assoc]; rfl)
      rw [List.length_append] at this
      rw [eP]
      exact this
    have hvv : 10 * (v / 10) + v % 10 = v := Nat.div_add_mod v 10
    refine c_num_2 (d := v / 10) (e := v % 10) h hP e1 (by omega) (by omega) (hd0 _ (by rcases ha with q | ⟨q, -⟩; exact Or.inl q; exact Or.inr ⟨q, by omega⟩) (by omega)) e2 (Nat.mod_lt _ (by decide)) ?_
    rw [hvv]
    refine H _ (fun x hx => by rw [up2_k hx, up2_k hx, up2_k hx, up2_k hx]) ?_ (by rw [up2_n (by omega), up2_n (by omega), up2_n (by omega), up2_n (by omega)]) (by rw [up2_n (by omega), up2_n (by omega), up2_n (by omega), up2_n (by omega)]) (up2_s _ _ _ _)
    rw [ed]
    exact ((((h.go (q := P + 1) (by omega)).cell (by decide)).go (q := P + 1 + 1) (by omega)).cell (by decide))
/-- the letter of an order -/
theorem ord_head {c : Int32} {X : Int32 → Mm → Prop} (hc : c = 105 ∨ c = 116 ∨ c = 120) (h : CS (Lt t) t.length u p) (hp : p < 90) (e : lh (Lt t) t.length p = c) (H : ∀ u5 : Mm, (∀ x, x ≠ 745 → u5 x = u x) → CS (Lt t) t.length u5 (p + 1) → u5 745 3 = c → (if u5 745 3 = (116 : Int32) then (w_X3_readNumber ((1 : Int32)) u5 (fun r21 u20 => (isB r21 ∧ X r21 u20))) else (w_X3_readGate (nI ng) u5 (fun r8 u7 => (if r8 = 0 then (X (0 : Int32) u7) else (if (u7 745 3) = (105 : Int32) then (w_X3_readPassAndPace u7 (fun r19 u18 => (isB r19 ∧ X r19 u18))) else (if (u7 745 3) = (120 : Int32) then (X (1 : Int32) u7) else (w_X3_skip ((110 : Int32)) u7 (fun r13 u12 => (if r13 = 0 then (X (0 : Int32) u12) else (w_X3_readNumber ((0 : Int32)) u12 (fun r16 u15 => (if r16 = 0 then (X (0 : Int32) u15) else (X (1 : Int32) u15)))))))))))))) : w_X3_readOrder (nI ng) u X := by
  have h3 : CS (Lt t) t.length (up2 u 745 3 c) p := h.cell (by decide)
  have K : w_X3_readOrder_46 X (nI ng) (up2 u 745 3 c) := by
    unfold w_X3_readOrder_46
    rintro _ rfl
    rw [h3.2.1, nI_1]
    exact H _ (fun x hx => by rw [up2_k hx, up2_k hx]) (h3.go (by omega)) (by rw [up2_n (by omega), up2_s])
  unfold w_X3_readOrder
  rw [c_here h, e]
  rintro _ rfl
  rw [up2_s]
  rcases hc with q | q | q
  · rw [q] at K ⊢
    rw [if_pos rfl]
    exact K
  · rw [q] at K ⊢
    rw [if_neg (by decide), if_neg (by decide), if_pos rfl]
    exact K
  · rw [q] at K ⊢
    rw [if_neg (by decide), if_neg (by decide), if_neg (by decide), if_pos rfl]
    exact K
theorem ord_no {X : Int32 → Mm → Prop} (h : CS (Lt t) t.length u p) (hp : t.length ≤ p) (H : ∀ u' : Mm, (∀ x, x ≠ 745 → u' x = u x) → CS (Lt t) t.length u' p → X 0 u') : w_X3_readOrder (nI ng) u X := by
  unfold w_X3_readOrder
  rw [c_here h, lh_end hp]
  rintro _ rfl
  rw [up2_s, if_neg (by decide), if_neg (by decide), if_neg (by decide), if_neg (by decide)]
  exact H _ (fun x hx => up2_k hx) (h.cell (by decide))
theorem ord_t {X : Int32 → Mm → Prop} {pre post : List Nat} (e : t = pre ++ 116 :: (dgs k ++ post)) (hl : t.length ≤ 50) (hk : 1 ≤ k) (hk2 : k < 100) (hpost : post = [] ∨ ∃ c post', post = c :: post' ∧ 58 ≤ c ∧ c < 1000) (h : CS (Lt t) t.length u pre.length) (H : ∀ u' : Mm, (∀ x, x ≠ 745 → u' x = u x) → CS (Lt t) t.length u' (pre.length + 1 + (dgs k).length) → u' 745 3 = 116 → u' 745 5 = nI k → X 1 u') : w_X3_readOrder (nI ng) u X := by
  have hpl : pre.length < 50 := by
    rw [e, List.length_append, List.length_cons] at hl
    omega
  refine ord_head (c := 116) (Or.inr (Or.inl rfl)) h (by omega) (lh_mid e) ?_
  intro u5 a1 a2 a3
  rw [a3, if_pos rfl]
  refine num_t (pre := pre ++ [116]) (post := post) (v := k) (by rw [e, List.append_assoc, List.append_assoc]; rfl) (by rw [List.length_append]; rfl) hl hk2 (Or.inr ⟨rfl, hk⟩) hpost a2 ?_
  intro u' b1 b2 b3 b4 b5
  exact ⟨Or.inr rfl, H u' (fun x hx => (b1 x hx).trans (a1 x hx)) b2 (b3.trans a3) b5⟩
theorem ord_t_bad {X : Int32 → Mm → Prop} {pre : List Nat} (e : t = pre ++ [116]) (hl : t.length ≤ 50) (h : CS (Lt t) t.length u pre.length) (H : ∀ u' : Mm, (∀ x, x ≠ 745 → u' x = u x) → CS (Lt t) t.length u' t.length → X 0 u') : w_X3_readOrder (nI ng) u X := by
  have el : t.length = pre.length + 1 := by rw [e, List.length_append]; rfl
  refine ord_head (c := 116) (Or.inr (Or.inl rfl)) h (by omega) (lh_mid e) ?_
  intro u5 a1 a2 a3
  rw [a3, if_pos rfl]
  refine c_num_n (Or.inr rfl) a2 (fun d hd _ => by
    rw [lh_end (by omega)]
    exact fun w => nI_pos (n := 48 + d) (by omega) (by rw [← w]; decide)) ?_
  rw [← el] at a2
  exact ⟨Or.inl rfl, H u5 a1 a2⟩
/-- the beginning of a person's order -/
theorem ord_i {X : Int32 → Mm → Prop} {post : List Nat} {s : Int32} {sl : List Nat} (hng : ng ≤ 8) (hg : g < ng) (hv : v < 100) (hs : (s = 1 ∧ sl = [115]) ∨ (s = 0 ∧ sl = [])) (e : t = [105, 48 + g, 112] ++ dgs v ++ (sl ++ 116 :: post)) (hl : t.length ≤ 50) (h : CS (Lt t) t.length u 0) (H : ∀ u' : Mm, (∀ x, x ≠ 745 → u' x = u x) → CS (Lt t) t.length u' (3 + (dgs v).length + sl.length) → u' 745 3 = 105 → u' 745 4 = nI g → u' 745 5 = nI v → u' 745 6 = s → X 1 u') : w_X3_readOrder (nI ng) u X := by
  have dl := dgs_len v
  have dl2 : (dgs v).length ≤ 2 := by rw [dl]; split <;> omega
  refine ord_head (c := 105) (Or.inl rfl) h (by omega) (lh_mid (t := t) (pre := []) (post := [48 + g, 112] ++ dgs v ++ (sl ++ 116 :: post)) e) ?_
  intro u5 a1 a2 a3
  rw [a3, if_neg (by decide)]
  have eg : lh (Lt t) t.length 1 = nI (48 + g) := lh_mid (t := t) (pre := [105]) (post := [112] ++ dgs v ++ (sl ++ 116 :: post)) (by rw [e]; rfl)
  have ep : lh (Lt t) t.length 2 = nI 112 := lh_mid (t := t) (pre := [105, 48 + g]) (post := dgs v ++ (sl ++ 116 :: post)) e
  refine c_gate_y a2 eg hg hng ?_
  show (if (1 : Int32) = 0 then _ else _)
  rw [if_neg (by decide)]
  have c2 : CS (Lt t) t.length (up2 (up2 u5 745 4 (nI g)) 745 2 (nI (0 + 1 + 1))) 2 := (a2.cell (by decide)).go (by decide)
  have c3 : up2 (up2 u5 745 4 (nI g)) 745 2 (nI (0 + 1 + 1)) 745 3 = 105 := by rw [up2_n (by omega), up2_n (by omega)]; exact a3
  have c4 : up2 (up2 u5 745 4 (nI g)) 745 2 (nI (0 + 1 + 1)) 745 4 = nI g := by rw [up2_n (by omega), up2_s]
  have cf : ∀ x, x ≠ 745 → up2 (up2 u5 745 4 (nI g)) 745 2 (nI (0 + 1 + 1)) x = u x := fun x hx => by rw [up2_k hx, up2_k hx]; exact a1 x hx
  obtain ⟨u7, e7⟩ : ∃ u7 : Mm, u7 = up2 (up2 u5 745 4 (nI g)) 745 2 (nI (0 + 1 + 1)) := ⟨_, rfl⟩
  rw [← e7] at c2 c3 c4 cf ⊢
  rw [c3, if_pos rfl]
  unfold w_X3_readPassAndPace
  rintro _ rfl
  have d2 : CS (Lt t) t.length (up2 u7 745 5 (-1)) 2 := c2.cell (by decide)
  refine c_skip_y d2 ep ?_
  show (if (1 : Int32) = 0 then _ else _)
  rw [if_neg (by decide)]
  have d3 : CS (Lt t) t.length (up2 (up2 u7 745 5 (-1)) 745 2 (nI (2 + 1))) 3 := d2.go (by decide)
  refine num_t (P := 3) (pre := [105, 48 + g, 112]) (post := sl ++ 116 :: post) (v := v) e rfl hl hv (Or.inl rfl) ?_ d3 ?_
  · rcases hs with ⟨-, q⟩ | ⟨-, q⟩
    · exact Or.inr ⟨115, 116 :: post, by rw [q]; rfl, by decide, by decide⟩
    · exact Or.inr ⟨116, post, by rw [q]; rfl, by decide, by decide⟩
  · intro u' b1 b2 b3 b4 b5
    show (if (1 : Int32) = 0 then _ else _)
    rw [if_neg (by decide)]
    have f3 : u' 745 3 = 105 := by rw [b3, up2_n (by omega), up2_n (by omega)]; exact c3
    have f4 : u' 745 4 = nI g := by rw [b4, up2_n (by omega), up2_n (by omega)]; exact c4
    have ff : ∀ x, x ≠ 745 → u' x = u x := fun x hx => by rw [b1 x hx, up2_k hx, up2_k hx]; exact cf x hx
    rcases hs with ⟨q1, q⟩ | ⟨q1, q⟩
    · have es : lh (Lt t) t.length (3 + (dgs v).length) = nI 115 := by
        have := lh_mid (t := t) (pre := [105, 48 + g, 112] ++ dgs v) (post := 116 :: post) (c := 115) (by rw [e, q]; rfl)
        rw [List.length_append] at this
        exact this
      refine c_skip_y b2 es ?_
      refine ⟨Or.inr rfl, ?_⟩
      rintro _ rfl
      refine ⟨Or.inr rfl, H _ (fun x hx => by rw [up2_k hx, up2_k hx]; exact ff x hx) ?_ (by rw [up2_n (by omega), up2_n (by omega)]; exact f3) (by rw [up2_n (by omega), up2_n (by omega)]; exact f4) (by rw [up2_n (by omega), up2_n (by omega)]; exact b5) (by rw [up2_s, q1])⟩
      rw [q]
      exact (b2.go (by omega)).cell (by decide)
    · have es : lh (Lt t) t.length (3 + (dgs v).length) = nI 116 := by
        have := lh_mid (t := t) (pre := [105, 48 + g, 112] ++ dgs v) (post := post) (c := 116) (by rw [e, q]; rfl)
        rw [List.length_append] at this
        exact this
      refine c_skip_n b2 (by rw [es]; decide) ?_
      refine ⟨Or.inl rfl, ?_⟩
      rintro _ rfl
      refine ⟨Or.inr rfl, H _ (fun x hx => by rw [up2_k hx]; exact ff x hx) ?_ (by rw [up2_n (by omega)]; exact f3) (by rw [up2_n (by omega)]; exact f4) (by rw [up2_n (by omega)]; exact b5) (by rw [up2_s, q1])⟩
      rw [q]
      exact b2.cell (by decide)
theorem ord_i1 {X : Int32 → Mm → Prop} (hng : ng ≤ 8) (e : t = [105]) (h : CS (Lt t) t.length u 0) (H : ∀ u' : Mm, (∀ x, x ≠ 745 → u' x = u x) → CS (Lt t) t.length u' 1 → X 0 u') : w_X3_readOrder (nI ng) u X := by
  refine ord_head (c := 105) (Or.inl rfl) h (by omega) (lh_mid (t := t) (pre := []) (post := []) e) ?_
  intro u5 a1 a2 a3
  rw [a3, if_neg (by decide)]
  refine c_gate_n a2 hng (fun d hd => by
    rw [lh_end (by rw [e]; exact Nat.le_refl _)]
    exact fun w => nI_pos (n := 48 + d) (by omega) (by rw [← w]; decide)) (fun x => ?_)
  show (if (0 : Int32) = 0 then _ else _)
  rw [if_pos rfl]
  exact H _ (fun y hy => by rw [up2_k hy]; exact a1 y hy) (a2.cell (by decide))
theorem ord_i3 {X : Int32 → Mm → Prop} (hng : ng ≤ 8) (hg : g < ng) (e : t = [105, 48 + g, 112]) (h : CS (Lt t) t.length u 0) (H : ∀ u' : Mm, (∀ x, x ≠ 745 → u' x = u x) → CS (Lt t) t.length u' 3 → X 0 u') : w_X3_readOrder (nI ng) u X := by
  refine ord_head (c := 105) (Or.inl rfl) h (by omega) (lh_mid (t := t) (pre := []) (post := [48 + g, 112]) e) ?_
  intro u5 a1 a2 a3
  rw [a3, if_neg (by decide)]
  refine c_gate_y a2 (lh_mid (t := t) (pre := [105]) (post := [112]) e) hg hng ?_
  show (if (1 : Int32) = 0 then _ else _)
  rw [if_neg (by decide)]
  have c2 : CS (Lt t) t.length (up2 (up2 u5 745 4 (nI g)) 745 2 (nI (0 + 1 + 1))) 2 := (a2.cell (by decide)).go (by decide)
  have c3 : up2 (up2 u5 745 4 (nI g)) 745 2 (nI (0 + 1 + 1)) 745 3 = 105 := by rw [up2_n (by omega), up2_n (by omega)]; exact a3
  have cf : ∀ x, x ≠ 745 → up2 (up2 u5 745 4 (nI g)) 745 2 (nI (0 + 1 + 1)) x = u x := fun x hx => by rw [up2_k hx, up2_k hx]; exact a1 x hx
  obtain ⟨u7, e7⟩ : ∃ u7 : Mm, u7 = up2 (up2 u5 745 4 (nI g)) 745 2 (nI (0 + 1 + 1)) := ⟨_, rfl⟩
  rw [← e7] at c2 c3 cf ⊢
  rw [c3, if_pos rfl]
  unfold w_X3_readPassAndPace
  rintro _ rfl
  have d2 : CS (Lt t) t.length (up2 u7 745 5 (-1)) 2 := c2.cell (by decide)
  refine c_skip_y d2 (lh_mid (t := t) (pre := [105, 48 + g]) (post := []) e) ?_
  show (if (1 : Int32) = 0 then _ else _)
  rw [if_neg (by decide)]
  have d3 : CS (Lt t) t.length (up2 (up2 u7 745 5 (-1)) 745 2 (nI (2 + 1))) 3 := d2.go (by decide)
  refine c_num_n (Or.inl rfl) d3 (fun d hd _ => by
    rw [lh_end (by rw [e]; exact Nat.le_refl _)]
    exact fun w => nI_pos (n := 48 + d) (by omega) (by rw [← w]; decide)) ?_
  show (if (0 : Int32) = 0 then _ else _)
  rw [if_pos rfl]
  exact ⟨Or.inl rfl, H _ (fun y hy => by rw [up2_k hy, up2_k hy]; exact cf y hy) d3⟩
theorem ord_x {X : Int32 → Mm → Prop} {pre : List Nat} (hng : ng ≤ 8) (e : t = pre ++ [120, 48 + ng]) (hl : t.length ≤ 50) (h : CS (Lt t) t.length u pre.length) (H : ∀ u' : Mm, (∀ x, x ≠ 745 → u' x = u x) → CS (Lt t) t.length u' (pre.length + 1) → X 0 u') : w_X3_readOrder (nI ng) u X := by
  have el : t.length = pre.length + 2 := by rw [e, List.length_append]; rfl
  refine ord_head (c := 120) (Or.inr (Or.inr rfl)) h (by omega) (lh_mid (t := t) (pre := pre) (post := [48 + ng]) e) ?_
  intro u5 a1 a2 a3
  rw [a3, if_neg (by decide)]
  have eg : lh (Lt t) t.length (pre.length + 1) = nI (48 + ng) := by
    have := lh_mid (t := t) (pre := pre ++ [120]) (post := []) (c := 48 + ng) (by rw [e, List.append_assoc]; rfl)
    rw [List.length_append] at this
    exact this
  refine c_gate_n a2 hng (fun d hd => by
    rw [eg]
    exact fun w => by have := nI_inj (by omega) (by omega) w; omega) (fun x => ?_)
  show (if (0 : Int32) = 0 then _ else _)
  rw [if_pos rfl]
  exact H _ (fun y hy => by rw [up2_k hy]; exact a1 y hy) (a2.cell (by decide))
end TEXT29
