/-! a new gate -/
section NEWGATE
variable {σ : Mm} {r : Nat → Int32} {T ng np nx nl g p : Nat} {μ ρ : Mm} {n : Nat}
theorem Rel.newGate {σ' : Mm} {r' : Nat → Int32} {k : Nat} (h : Rel σ r T ng np nx nl) (hl : ng < 8) (o : ∀ q j, q ≠ 10 + 5 * ng → q ≠ 11 + 5 * ng → q ≠ 13 + 5 * ng → ¬ (q = 0 ∧ j = 5) → σ' q j = σ q j) (c5 : σ' 0 5 = nI (ng + 1)) (l0 : σ' (11 + 5 * ng) 1 = 0) (l1 : σ' (13 + 5 * ng) 1 = 0) (ro : ∀ i, (i < 8 + 14 * ng ∨ 8 + 14 * ng + 14 ≤ i) → i ≠ 1 → r' i = r i) (w1 : r' 1 = nI (ng + 1)) (hgf : ∀ f, f < 13 → σ' (10 + 5 * ng) (f + 2) = r' (8 + 14 * ng + gm f)) (hk : k ≤ 2) (d2 : σ' (10 + 5 * ng) 2 = nI k) (d6 : σ' (10 + 5 * ng) 6 = 0) (d8 : σ' (10 + 5 * ng) 8 = -5) (d9 : σ' (10 + 5 * ng) 9 = 0) : Rel σ' r' T (ng + 1) np nx nl := by
  obtain ⟨hC, hVG, hVP, hVX, hRQ, hRN, hRU⟩ := h
  obtain ⟨n1, n2, n3, n4⟩ := hC.n
  have hgp : ∀ q, q < np → r (120 + 7 * q + 3) = σ (50 + q) 3 := fun q hq => (hC.2.2.1 q 3 hq (by decide)).symm
  have r1 : r 1 = nI ng := hC.1.1.2.1
  obtain ⟨a, b, c, d, e, kk⟩ := hC
  have op : ∀ q j, 50 ≤ q → σ' q j = σ q j := fun q j hq => o _ _ (by omega) (by omega) (by omega) (by omega)
  refine ⟨⟨?_, fun g f hg hf => ?_, fun p f hp hf => ?_, fun x f hx hf => ?_, fun x f hx hf => ?_, ?_⟩, fun g hg => ?_, fun q hq => VP_keep (fun f => op _ _ (by omega)) (hVP q hq), fun x hx => VX_keep (fun f _ => op _ _ (by omega)) (hVX x hx), fun g e' hg he => ?_, ?_, ?_⟩
  · obtain ⟨a1, a2, a3, a4, a5, a6, a7, a8⟩ := a
    have o0 : ∀ j, j ≠ 5 → σ' 0 j = σ 0 j := fun j hj => o _ _ (by omega) (by omega) (by omega) (by omega)
    have ro0 : ∀ i, i < 8 → i ≠ 1 → r' i = r i := fun i hi h1 => ro i (by omega) h1
    refine ⟨⟨c5, w1, by omega⟩, ?_, ?_, ?_, ?_, ?_, ?_, a8⟩
    · rw [o0 _ (by decide), ro0 _ (by decide) (by decide)]; exact a2
    · rw [o0 _ (by decide), ro0 _ (by decide) (by decide)]; exact a3
    · rw [o0 _ (by decide), ro0 _ (by decide) (by decide)]; exact a4
    · rw [o0 _ (by decide), ro0 _ (by decide) (by decide)]; exact a5
    · rw [o0 _ (by decide), ro0 _ (by decide) (by decide)]; exact a6
    · rw [ro0 _ (by decide) (by decide)]; exact a7
  · by_cases hgn : g = ng
    · rw [hgn]; exact hgf f hf
    · have := gm_lt hf
      rw [o _ _ (by omega) (by omega) (by omega) (by omega), ro _ (by omega) (by omega)]; exact b g f (by omega) hf
  · have := pm_lt hf
    rw [op _ _ (by omega), ro _ (by omega) (by omega)]; exact c p f hp hf
  · rw [op _ _ (by omega), ro _ (by omega) (by omega)]; exact d x f hx hf
  · have := lm_lt hf
    rw [op _ _ (by omega), ro _ (by omega) (by omega)]; exact e x f hx hf
  · obtain ⟨n, l, h1, h2, h3, h4, h5, h6⟩ := kk
    exact ⟨n, l, h1, h2, by rw [o _ _ (by omega) (by omega) (by omega) (by omega)]; exact h3, by rw [o _ _ (by omega) (by omega) (by omega) (by omega)]; exact h4, by rw [ro _ (by omega) (by omega)]; exact h5, fun k j hk hj => by
      rw [o _ _ (by omega) (by omega) (by omega) (by omega), ro _ (by omega) (by omega)]
      exact h6 k j hk hj⟩
  · by_cases hgn : g = ng
    · rw [hgn]
      exact ⟨k, 0, hk, d2, by decide, d6, by rw [d9]; exact Or.inl rfl, Or.inl ⟨Or.inl rfl, d8⟩⟩
    · exact VG_keep (fun f => o _ _ (by omega) (by omega) (by omega) (by omega)) (fun q hq _ _ => ⟨op _ _ (by omega), op _ _ (by omega), op _ _ (by omega)⟩) (ro _ (by omega) (by omega)) (hVG g (by omega))
  · by_cases hgn : g = ng
    · subst hgn
      refine ⟨0, fun _ => 0, by omega, ?_, fun i hi => absurd hi (Nat.not_lt_zero _), fun i j _ hj => absurd hj (Nat.not_lt_zero _), fun q hq e3 e2 => ?_⟩
      · rcases (show e' = 0 ∨ e' = 1 by omega) with rfl | rfl
        · rw [show 11 + 5 * g + 2 * 0 = 11 + 5 * g by omega]; exact l0
        · rw [show 11 + 5 * g + 2 * 1 = 13 + 5 * g by omega]; exact l1
      · exfalso
        rw [op _ _ (by omega)] at e3 e2
        obtain ⟨-, g', g1, g2, g3⟩ := hRN q hq (by
          rcases (show e' = 0 ∨ e' = 1 by omega) with rfl | rfl
          · exact Or.inl e2
          · exact Or.inr e2)
        rw [hgp q hq, e3] at g2
        rw [← g2, r1] at g3
        exact lt_ir g3
    · obtain ⟨n, a, b1, b2, b3, b4, b5⟩ := hRQ g e' (by omega) he
      refine ⟨n, a, b1, by rw [o _ _ (by omega) (by omega) (by omega) (by omega)]; exact b2, fun i hi => ?_, fun i j hij hj => ?_, fun q hq => ?_⟩
      · rw [o _ _ (by omega) (by omega) (by omega) (by omega), op _ _ (by omega), op _ _ (by omega)]; exact b3 i hi
      · have := (b3 i (by omega)).2.1
        have := (b3 j hj).2.1
        rw [ro _ (by omega) (by omega), ro _ (by omega) (by omega)]; exact b4 i j hij hj
      · rw [op _ _ (by omega), op _ _ (by omega)]; exact b5 q hq
  · intro q hq hw
    rw [op _ _ (by omega)] at hw
    obtain ⟨h1, g', g1, g2, g3⟩ := hRN q hq hw
    refine ⟨by rw [ro _ (by omega) (by omega), ro 7 (by omega) (by omega)]; exact h1, g', g1, by rw [ro _ (by omega) (by omega)]; exact g2, ?_⟩
    rw [w1]
    rw [r1] at g3
    exact (nI_ltI (by omega) (by omega)).mpr (by have := (nI_ltI (show g' < 2 ^ 31 by omega) (show ng < 2 ^ 31 by omega)).mp g3; omega)
  · exact KU_keep (fun q hq => op _ _ (by omega)) (fun q hq => inB_keep (op _ _ (by omega))) (fun x => by
      funext j
      exact op _ _ (by omega)) (fun k hk => ⟨op _ _ (by omega), op _ _ (by omega)⟩) hRU
/-- the reference clears the gate's row -/
theorem zero_loop {g : Nat} {a b c d : Int32} {Φ : Int32 → Mm → Prop} (hg : g < 8) (H : ∀ r1 : Nat → Int32, (∀ i, (i < 8 + 14 * g ∨ 8 + 14 * g + 14 ≤ i) → r1 i = r i) → (∀ f, f < 14 → r1 (8 + 14 * g + f) = 0) → w_X10_addGate_72 Φ (0 + 1) a b c d (nI g) (nI 14) (rw1 ρ r1)) : ∀ (k i : Nat) (r1 : Nat → Int32), i + k = 14 → (∀ i, (i < 8 + 14 * g ∨ 8 + 14 * g + 14 ≤ i) → r1 i = r i) → (∀ f, f < i → r1 (8 + 14 * g + f) = 0) → ∃ n, w_X10_addGate_72 Φ n a b c d (nI g) (nI i) (rw1 ρ r1)
  | 0, i, r1, hi, h1, h2 => by
    have e : i = 14 := by omega
    subst e
    exact ⟨0 + 1, H r1 h1 h2⟩
  | k + 1, i, r1, hi, h1, h2 => by
    have e : ¬ (14 : Int32) ≤ nI i := nI_ge (a := i) (b := 14) (by omega) (by omega)
    obtain ⟨n, hn⟩ := zero_loop hg H k (i + 1) (upd r1 (8 + 14 * g + i) 0) (by omega) (fun j hj => by rw [pk_un (by omega)]; exact h1 j hj) (fun f hf => by
      by_cases hfi : f = i
      · rw [hfi, pk_us]
      · rw [pk_un (by omega)]; exact h2 f (by omega))
    rw [nI_succ] at hn
    refine ⟨n + 1, ?_⟩
    unfold w_X10_addGate_72
    rw [if_neg e, putGate_g (ixG g i) (by omega)]
    exact hn
set_option maxHeartbeats 4000000 in
theorem do_addGate (a b c d : Int32) : DoOp (fun S => w_X8_newGate S a b c d) (w_X10_addGate a b c d) := by
  intro σ r T ng np nx nl hT h0
  have h := h0.mono (show T ≤ T + 20000 by omega) hT
  obtain ⟨n1, n2, n3, n4⟩ := h.1.n
  have h5 : σ 0 5 = nI ng := h.1.1.1.1
  have r1 : r 1 = nI ng := h.1.1.1.2.1
  rcases btw a 0 2 with ea | ⟨ea, fa, ga⟩
  · refine ⟨σ, r, -2, ng, np, nx, nl, h, fun S μ Φ hΦ => ?_, Or.inl ⟨by decide, fun ρ Φ hd => ?_⟩⟩
    · show w_X8_newGate S a b c d (bl S σ μ) Φ
      unfold w_X8_newGate
      rw [c_between, ea, if_pos rfl]
      exact hΦ
    · unfold w_X10_addGate
      rw [s_in, ea, if_pos rfl]
      exact hd
  rcases btw b 1 10 with eb | ⟨eb, fb, gb⟩
  · refine ⟨σ, r, -2, ng, np, nx, nl, h, fun S μ Φ hΦ => ?_, Or.inl ⟨by decide, fun ρ Φ hd => ?_⟩⟩
    · show w_X8_newGate S a b c d (bl S σ μ) Φ
      unfold w_X8_newGate
      rw [c_between, ea, if_neg (by decide), c_between, eb, if_pos rfl]
      exact hΦ
    · unfold w_X10_addGate
      rw [s_in, ea, if_neg (by decide), s_in, eb, if_pos rfl]
      exact hd
  rcases btw c 1 20 with ec | ⟨ec, fc, gc⟩
  · refine ⟨σ, r, -2, ng, np, nx, nl, h, fun S μ Φ hΦ => ?_, Or.inl ⟨by decide, fun ρ Φ hd => ?_⟩⟩
    · show w_X8_newGate S a b c d (bl S σ μ) Φ
      unfold w_X8_newGate
      rw [c_between, ea, if_neg (by decide), c_between, eb, if_neg (by decide), c_between, ec, if_pos rfl]
      exact hΦ
    · unfold w_X10_addGate
      rw [s_in, ea, if_neg (by decide), s_in, eb, if_neg (by decide), s_in, ec, if_pos rfl]
      exact hd
  rcases btw d 1 10 with ed | ⟨ed, fd, gd⟩
  · refine ⟨σ, r, -2, ng, np, nx, nl, h, fun S μ Φ hΦ => ?_, Or.inl ⟨by decide, fun ρ Φ hd => ?_⟩⟩
    · show w_X8_newGate S a b c d (bl S σ μ) Φ
      unfold w_X8_newGate
      rw [c_between, ea, if_neg (by decide), c_between, eb, if_neg (by decide), c_between, ec, if_neg (by decide), c_between, ed, if_pos rfl]
      exact hΦ
    · unfold w_X10_addGate
      rw [s_in, ea, if_neg (by decide), s_in, eb, if_neg (by decide), s_in, ec, if_neg (by decide), s_in, ed, if_pos rfl]
      exact hd
  by_cases hl : ng = 8
  · subst hl
    refine ⟨σ, r, -3, 8, np, nx, nl, h, fun S μ Φ hΦ => ?_, Or.inl ⟨by decide, fun ρ Φ hd => ?_⟩⟩
    · show w_X8_newGate S a b c d (bl S σ μ) Φ
      unfold w_X8_newGate
      rw [c_between, ea, if_neg (by decide), c_between, eb, if_neg (by decide), c_between, ec, if_neg (by decide), c_between, ed, if_neg (by decide), bl_0, h5, if_neg (by decide)]
      exact hΦ
    · unfold w_X10_addGate
      rw [s_in, ea, if_neg (by decide), s_in, eb, if_neg (by decide), s_in, ec, if_neg (by decide), s_in, ed, if_neg (by decide), rw1_1, show (1 : Int32).toNatClampNeg = 1 from rfl, r1, if_pos (by decide)]
      exact hd
  have hlt : nI ng < 8 := nI_lt (b := 8) (by omega) (by omega)
  have hne : ¬ nI ng = 8 := fun e => hl (nI_inj (a := ng) (b := 8) (by omega) (by omega) e)
  have hg8 : ng < 8 := by omega
  obtain ⟨k, hk, ek⟩ := nI_of2 (x := a) (M := 2) (n := 2) (by decide) fa (Int32.not_lt.mp ga)
  obtain ⟨σ', hS⟩ : ∃ σ' : Mm, σ' = (up2 (up2 (up2 (up2 (up2 (up2 (up2 (up2 (up2 (up2 (up2 (up2 (up2 (up2 (up2 (up2 σ (11 + 5 * ng) 1 (0)) (13 + 5 * ng) 1 (0)) (10 + 5 * ng) 2 (a)) (10 + 5 * ng) 3 (b)) (10 + 5 * ng) 4 (c)) (10 + 5 * ng) 5 (d)) (10 + 5 * ng) 6 (0)) (10 + 5 * ng) 7 (0)) (10 + 5 * ng) 8 (-5)) (10 + 5 * ng) 9 (0)) (10 + 5 * ng) 10 (0)) (10 + 5 * ng) 11 (0)) (10 + 5 * ng) 12 (0)) (10 + 5 * ng) 13 (0)) (10 + 5 * ng) 14 (0)) (0) 5 (nI (ng + 1))) := ⟨_, rfl⟩
  have o : ∀ q j, q ≠ 10 + 5 * ng → q ≠ 11 + 5 * ng → q ≠ 13 + 5 * ng → ¬ (q = 0 ∧ j = 5) → σ' q j = σ q j := by
    intro q j h1 h2 h3 h4
    rw [hS, up2_n (by omega), up2_n (Or.inl h1), up2_n (Or.inl h1), up2_n (Or.inl h1), up2_n (Or.inl h1), up2_n (Or.inl h1), up2_n (Or.inl h1), up2_n (Or.inl h1), up2_n (Or.inl h1), up2_n (Or.inl h1), up2_n (Or.inl h1), up2_n (Or.inl h1), up2_n (Or.inl h1), up2_n (Or.inl h1), up2_n (Or.inl h3), up2_n (Or.inl h2)]
  have v0 : σ' (11 + 5 * ng) 1 = 0 := by
    rw [hS, up2_n (by omega), up2_n (by omega), up2_n (by omega), up2_n (by omega), up2_n (by omega), up2_n (by omega), up2_n (by omega), up2_n (by omega), up2_n (by omega), up2_n (by omega), up2_n (by omega), up2_n (by omega), up2_n (by omega), up2_n (by omega), up2_n (by omega), up2_s]
  have v1 : σ' (13 + 5 * ng) 1 = 0 := by
    rw [hS, up2_n (by omega), up2_n (by omega), up2_n (by omega), up2_n (by omega), up2_n (by omega), up2_n (by omega), up2_n (by omega), up2_n (by omega), up2_n (by omega), up2_n (by omega), up2_n (by omega), up2_n (by omega), up2_n (by omega), up2_n (by omega), up2_s]
  have v2 : σ' (10 + 5 * ng) 2 = a := by
    rw [hS, up2_n (by omega), up2_n (by omega), up2_n (by omega), up2_n (by omega), up2_n (by omega), up2_n (by omega), up2_n (by omega), up2_n (by omega), up2_n (by omega), up2_n (by omega), up2_n (by omega), up2_n (by omega), up2_n (by omega), up2_s]
  have v3 : σ' (10 + 5 * ng) 3 = b := by
    rw [hS, up2_n (by omega), up2_n (by omega), up2_n (by omega), up2_n (by omega), up2_n (by omega), up2_n (by omega), up2_n (by omega), up2_n (by omega), up2_n (by omega), up2_n (by omega), up2_n (by omega), up2_n (by omega), up2_s]
  have v4 : σ' (10 + 5 * ng) 4 = c := by
    rw [hS, up2_n (by omega), up2_n (by omega), up2_n (by omega), up2_n (by omega), up2_n (by omega), up2_n (by omega), up2_n (by omega), up2_n (by omega), up2_n (by omega), up2_n (by omega), up2_n (by omega), up2_s]
  have v5 : σ' (10 + 5 * ng) 5 = d := by
    rw [hS, up2_n (by omega), up2_n (by omega), up2_n (by omega), up2_n (by omega), up2_n (by omega), up2_n (by omega), up2_n (by omega), up2_n (by omega), up2_n (by omega), up2_n (by omega), up2_s]
  have v6 : σ' (10 + 5 * ng) 6 = 0 := by
    rw [hS, up2_n (by omega), up2_n (by omega), up2_n (by omega), up2_n (by omega), up2_n (by omega), up2_n (by omega), up2_n (by omega), up2_n (by omega), up2_n (by omega), up2_s]
  have v7 : σ' (10 + 5 * ng) 7 = 0 := by
    rw [hS, up2_n (by omega), up2_n (by omega), up2_n (by omega), up2_n (by omega), up2_n (by omega), up2_n (by omega), up2_n (by omega), up2_n (by omega), up2_s]
  have v8 : σ' (10 + 5 * ng) 8 = -5 := by
    rw [hS, up2_n (by omega), up2_n (by omega), up2_n (by omega), up2_n (by omega), up2_n (by omega), up2_n (by omega), up2_n (by omega), up2_s]
  have v9 : σ' (10 + 5 * ng) 9 = 0 := by
    rw [hS, up2_n (by omega), up2_n (by omega), up2_n (by omega), up2_n (by omega), up2_n (by omega), up2_n (by omega), up2_s]
  have v10 : σ' (10 + 5 * ng) 10 = 0 := by
    rw [hS, up2_n (by omega), up2_n (by omega), up2_n (by omega), up2_n (by omega), up2_n (by omega), up2_s]
  have v11 : σ' (10 + 5 * ng) 11 = 0 := by
    rw [hS, up2_n (by omega), up2_n (by omega), up2_n (by omega), up2_n (by omega), up2_s]
  have v12 : σ' (10 + 5 * ng) 12 = 0 := by
    rw [hS, up2_n (by omega), up2_n (by omega), up2_n (by omega), up2_s]
  have v13 : σ' (10 + 5 * ng) 13 = 0 := by
    rw [hS, up2_n (by omega), up2_n (by omega), up2_s]
  have v14 : σ' (10 + 5 * ng) 14 = 0 := by
    rw [hS, up2_n (by omega), up2_s]
  have v15 : σ' (0) 5 = nI (ng + 1) := by
    rw [hS, up2_s]
  obtain ⟨r', hR'⟩ : ∃ r' : Nat → Int32, r' = fun i => if i = 8 + 14 * ng then a else if i = 8 + 14 * ng + 1 then b else if i = 8 + 14 * ng + 2 then c else if i = 8 + 14 * ng + 3 then d else if i = 8 + 14 * ng + 6 then -5 else if 8 + 14 * ng ≤ i ∧ i < 8 + 14 * ng + 14 then 0 else if i = 1 then nI (ng + 1) else r i := ⟨_, rfl⟩
  have hz : ∀ f, f < 14 → 3 < f → f ≠ 6 → r' (8 + 14 * ng + f) = 0 := fun f f1 f2 f3 => by
    rw [hR']
    show (if _ then _ else _) = (0 : Int32)
    rw [if_neg (by omega), if_neg (by omega), if_neg (by omega), if_neg (by omega), if_neg (by omega), if_pos (by omega)]
  have q0 : r' (8 + 14 * ng + 0) = a := by
    rw [hR']
    show (if _ then _ else _) = a
    rw [if_pos (by omega)]
  have q1 : r' (8 + 14 * ng + 1) = b := by
    rw [hR']
    show (if _ then _ else _) = b
    rw [if_neg (by omega), if_pos rfl]
  have q2 : r' (8 + 14 * ng + 2) = c := by
    rw [hR']
    show (if _ then _ else _) = c
    rw [if_neg (by omega), if_neg (by omega), if_pos rfl]
  have q3 : r' (8 + 14 * ng + 3) = d := by
    rw [hR']
    show (if _ then _ else _) = d
    rw [if_neg (by omega), if_neg (by omega), if_neg (by omega), if_pos rfl]
  have q6 : r' (8 + 14 * ng + 6) = -5 := by
    rw [hR']
    show (if _ then _ else _) = (-5 : Int32)
    rw [if_neg (by omega), if_neg (by omega), if_neg (by omega), if_neg (by omega), if_pos rfl]
  have ro : ∀ i, (i < 8 + 14 * ng ∨ 8 + 14 * ng + 14 ≤ i) → i ≠ 1 → r' i = r i := fun i h1 h2 => by
    rw [hR']
    show (if _ then _ else _) = r i
    rw [if_neg (by omega), if_neg (by omega), if_neg (by omega), if_neg (by omega), if_neg (by omega), if_neg (by omega), if_neg h2]
  have w1 : r' 1 = nI (ng + 1) := by
    rw [hR']
    show (if _ then _ else _) = nI (ng + 1)
    rw [if_neg (by omega), if_neg (by omega), if_neg (by omega), if_neg (by omega), if_neg (by omega), if_neg (by omega), if_pos rfl]
  have hgf : ∀ f, f < 13 → σ' (10 + 5 * ng) (f + 2) = r' (8 + 14 * ng + gm f) := fun f hf => by
    rcases (show f = 0 ∨ f = 1 ∨ f = 2 ∨ f = 3 ∨ f = 4 ∨ f = 5 ∨ f = 6 ∨ f = 7 ∨ f = 8 ∨ f = 9 ∨ f = 10 ∨ f = 11 ∨ f = 12 by omega) with rfl | rfl | rfl | rfl | rfl | rfl | rfl | rfl | rfl | rfl | rfl | rfl | rfl
    · exact v2.trans q0.symm
    · exact v3.trans q1.symm
    · exact v4.trans q2.symm
    · exact v5.trans q3.symm
    · exact v6.trans (hz 4 (by decide) (by decide) (by decide)).symm
    · exact v7.trans (hz 5 (by decide) (by decide) (by decide)).symm
    · exact v8.trans q6.symm
    · exact v9.trans (hz 9 (by decide) (by decide) (by decide)).symm
    · exact v10.trans (hz 8 (by decide) (by decide) (by decide)).symm
    · exact v11.trans (hz 10 (by decide) (by decide) (by decide)).symm
    · exact v12.trans (hz 11 (by decide) (by decide) (by decide)).symm
    · exact v13.trans (hz 12 (by decide) (by decide) (by decide)).symm
    · exact v14.trans (hz 13 (by decide) (by decide) (by decide)).symm
  have hR : Rel σ' r' (T + 20000) (ng + 1) np nx nl := h.newGate (k := k) hg8 o v15 v0 v1 ro w1 hgf hk (by rw [v2]; exact ek) v6 v8 v9
  refine ⟨σ', r', nI ng, ng + 1, np, nx, nl, hR, fun S μ Φ hΦ => ?_, Or.inr (fun ρ ρ1 Φ hb hd => ?_)⟩
  · show w_X8_newGate S a b c d (bl S σ μ) Φ
    unfold w_X8_newGate w_X1_setUp
    rw [c_between, ea, if_neg (by decide), c_between, eb, if_neg (by decide), c_between, ec, if_neg (by decide), c_between, ed, if_neg (by decide), bl_0, h5, if_pos hlt, vin (show ng < 8 by omega) (by decide), true_and, cl (show ng < 2147483648 by omega), show S + 10 + 5 * ng + 1 = S + (11 + 5 * ng) by omega, show S + 10 + 5 * ng + 3 = S + (13 + 5 * ng) by omega]
    simp only [forall_eq, up2_bl (show 11 + 5 * ng < 106 by omega), up2_bl (show 13 + 5 * ng < 106 by omega), up2_G hg8, up2_bl0, bl_0]
    have c5 : (up2 (up2 (up2 (up2 (up2 (up2 (up2 (up2 (up2 (up2 (up2 (up2 (up2 (up2 (up2 σ (11 + 5 * ng) 1 (0)) (13 + 5 * ng) 1 (0)) (10 + 5 * ng) 2 (a)) (10 + 5 * ng) 3 (b)) (10 + 5 * ng) 4 (c)) (10 + 5 * ng) 5 (d)) (10 + 5 * ng) 6 (0)) (10 + 5 * ng) 7 (0)) (10 + 5 * ng) 8 (-5)) (10 + 5 * ng) 9 (0)) (10 + 5 * ng) 10 (0)) (10 + 5 * ng) 11 (0)) (10 + 5 * ng) 12 (0)) (10 + 5 * ng) 13 (0)) (10 + 5 * ng) 14 (0)) 0 5 = nI ng := by
      rw [up2_n (by omega), up2_n (by omega), up2_n (by omega), up2_n (by omega), up2_n (by omega), up2_n (by omega), up2_n (by omega), up2_n (by omega), up2_n (by omega), up2_n (by omega), up2_n (by omega), up2_n (by omega), up2_n (by omega), up2_n (by omega), up2_n (by omega)]
      exact h5
    rw [c5, nI_1, up2_s, nI_pred, ← hS]
    exact hΦ
  · unfold w_X10_addGate
    rw [s_in, ea, if_neg (by decide), s_in, eb, if_neg (by decide), s_in, ec, if_neg (by decide), s_in, ed, if_neg (by decide), rw1_1, show (1 : Int32).toNatClampNeg = 1 from rfl, r1, if_neg hne]
    refine hb _ ?_
    show ∃ n72, w_X10_addGate_72 Φ n72 a b c d (rw1 ρ1 r 1 1) 0 (rw1 ρ1 r)
    rw [rw1_1, r1]
    refine zero_loop hg8 (fun rz z1 z2 => ?_) 14 0 r (by omega) (fun _ _ => rfl) (fun f hf => absurd hf (Nat.not_lt_zero _))
    unfold w_X10_addGate_72
    rw [if_pos (by decide), s_putGate_0 hg8, s_putGate_1 hg8, s_putGate_2 hg8, s_putGate_3 hg8, s_putGate_6 hg8]
    rintro _ rfl
    rw [show (1 : Int32).toNatClampNeg = 1 from rfl, rw1_1, up2_rw1, pk_un (by omega), pk_un (by omega), pk_un (by omega), pk_un (by omega), pk_un (by omega), z1 1 (by omega), r1, nI_1]
    have er : upd (upd (upd (upd (upd (upd rz (8 + 14 * ng + 0) a) (8 + 14 * ng + 1) b) (8 + 14 * ng + 2) c) (8 + 14 * ng + 3) d) (8 + 14 * ng + 6) (-5)) 1 (nI (ng + 1)) = r' := by
      funext i
      by_cases i1 : i = 1
      · rw [i1, pk_us, w1]
      rw [pk_un i1]
      by_cases i6 : i = 8 + 14 * ng + 6
      · rw [i6, pk_us, q6]
      rw [pk_un i6]
      by_cases i3 : i = 8 + 14 * ng + 3
      · rw [i3, pk_us, q3]
      rw [pk_un i3]
      by_cases i2 : i = 8 + 14 * ng + 2
      · rw [i2, pk_us, q2]
      rw [pk_un i2]
      by_cases ib : i = 8 + 14 * ng + 1
      · rw [ib, pk_us, q1]
      rw [pk_un ib]
      by_cases i0 : i = 8 + 14 * ng + 0
      · rw [i0, pk_us, q0]
      rw [pk_un i0]
      by_cases hin : 8 + 14 * ng ≤ i ∧ i < 8 + 14 * ng + 14
      · obtain ⟨f, rfl⟩ : ∃ f, i = 8 + 14 * ng + f := ⟨i - (8 + 14 * ng), by omega⟩
        rw [z2 f (by omega), hz f (by omega) (by omega) (by omega)]
      · rw [z1 i (by omega), ro i (by omega) i1]
    rw [er]
    exact hd
theorem op_addGate : Op_addGate Sim := fun n μ ρ hn hS a b c d => op_wrap (do_addGate a b c d) hn hS
end NEWGATE
