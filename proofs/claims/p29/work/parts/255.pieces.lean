/-! pieces of what calls do to the row -/
section P234ops
variable {σ : Mm} {r : Nat → Int32} {T ng np nx nl g : Nat}
theorem c_between {lo a hi : Int32} {u : Mm} {Φ : Int32 → Mm → Prop} : w_X9_isBetween lo a hi u Φ = Φ (if a < lo then 0 else if hi < a then 0 else 1) u := by
  unfold w_X9_isBetween
  split
  · rfl
  · split <;> rfl
theorem btw (a lo hi : Int32) : ((if a < lo then (0 : Int32) else if hi < a then 0 else 1) = 0) ∨ ((if a < lo then (0 : Int32) else if hi < a then 0 else 1) = 1 ∧ ¬ a < lo ∧ ¬ hi < a) := by
  by_cases h1 : a < lo
  · exact Or.inl (if_pos h1)
  · by_cases h2 : hi < a
    · exact Or.inl (by rw [if_neg h1, if_pos h2])
    · exact Or.inr ⟨by rw [if_neg h1, if_neg h2], h1, h2⟩
theorem arg_n (a : Int32) {n : Nat} (hn : n < 1073741824) : (∃ k, k < n ∧ a = nI k) ∨ (a < 0 ∨ nI n ≤ a) := by
  by_cases h0 : a < 0
  · exact Or.inr (Or.inl h0)
  · obtain ⟨j, hj, e⟩ := nI_of h0
    by_cases hjn : j < n
    · exact Or.inl ⟨j, hjn, e⟩
    · exact Or.inr (Or.inr (by rw [e]; exact nI_le (by omega) (by omega)))
theorem VG_told {v : Int32} (h : VG σ r np g) (hB : isB v) : VG (up2 σ (10 + 5 * g) 9 v) (upd r (8 + 14 * g + 9) v) np g := by
  obtain ⟨d, st, h1, h2, h3, h4, h5, h6⟩ := h
  have o : ∀ q j, ¬ (q = 10 + 5 * g ∧ j = 9) → up2 σ (10 + 5 * g) 9 v q j = σ q j := fun q j hq => up2_n (by omega)
  refine ⟨d, st, h1, by rw [o _ _ (by omega)]; exact h2, h3, by rw [o _ _ (by omega)]; exact h4, by rw [up2_s]; exact hB, ?_⟩
  rcases h6 with ⟨a, b⟩ | ⟨a, q, o', b1, b2, b3, b4, b5, b6, b7⟩
  · exact Or.inl ⟨a, by rw [o _ _ (by omega)]; exact b⟩
  · exact Or.inr ⟨a, q, o', b1, b2, by rw [o _ _ (by omega)]; exact b3, by rw [o _ _ (by omega)]; exact b4, by rw [o _ _ (by omega)]; exact b5, by rw [o _ _ (by omega)]; exact b6, by rw [pk_un (by omega), o _ _ (by omega)]; exact b7⟩
theorem VG_dir {k : Nat} (h : VG σ r np g) (hg : g < 8) (hk : k ≤ 2) : VG (up2 σ (10 + 5 * g) 2 (nI k)) (upd r (8 + 14 * g + 0) (nI k)) np g := by
  obtain ⟨d, st, h1, h2, h3, h4, h5, h6⟩ := h
  have o : ∀ q j, ¬ (q = 10 + 5 * g ∧ j = 2) → up2 σ (10 + 5 * g) 2 (nI k) q j = σ q j := fun q j hq => up2_n (by omega)
  refine ⟨k, st, hk, up2_s _ _ _ _, h3, by rw [o _ _ (by omega)]; exact h4, by rw [o _ _ (by omega)]; exact h5, ?_⟩
  rcases h6 with ⟨a, b⟩ | ⟨a, q, o', b1, b2, b3, b4, b5, b6, b7⟩
  · exact Or.inl ⟨a, by rw [o _ _ (by omega)]; exact b⟩
  · exact Or.inr ⟨a, q, o', b1, b2, by rw [o _ _ (by omega)]; exact b3, by rw [o _ _ (by omega)]; exact b4, by rw [o _ _ (by omega)]; exact b5, by rw [o _ _ (by omega)]; exact b6, by rw [pk_un (by omega), o _ _ (by omega)]; exact b7⟩
theorem Core.fare {v : Int32} (h : Core σ r T ng np nx nl) : Core (up2 σ 0 10 v) (upd r 6 v) T ng np nx nl := by
  obtain ⟨n1, n2, n3, n4⟩ := h.n
  obtain ⟨a, b, c, d, e, k⟩ := h
  refine ⟨?_, KG_r (by omega) n1 (KG_c (fun g hg => by omega) b), KP_r (by omega) n2 (KP_c (by omega) n2 c), KX_r (by omega) n3 (KX_c (by omega) n3 d), KL_r (by omega) n4 (KL_c (by omega) n4 e), KE_r (by omega) (KE_c (by omega) k)⟩
  have o : ∀ j, j ≠ 10 → up2 σ 0 10 v 0 j = σ 0 j := fun j hj => up2_n (Or.inr hj)
  have ro : ∀ i, i ≠ 6 → upd r 6 v i = r i := fun i hi => pk_un hi
  unfold KC
  rw [o 5 (by decide), o 6 (by decide), o 8 (by decide), o 7 (by decide), o 9 (by decide), ro 1 (by decide), ro 2 (by decide), ro 3 (by decide), ro 4 (by decide), ro 0 (by decide), ro 7 (by decide), up2_s, pk_us]
  exact ⟨a.1, a.2.1, a.2.2.1, a.2.2.2.1, rfl, a.2.2.2.2.2⟩
end P234ops
section P240grow
variable {σ : Mm} {r : Nat → Int32} {T ng np nx nl g p : Nat} {μ ρ : Mm} {n : Nat}
theorem Rel.keepX {σ' : Mm} {r' : Nat → Int32} (h : Rel σ r T ng np nx nl) (hC : Core σ' r' T ng np nx nl) (hX : ∀ x, x < nx → VX σ' nl x) (o : ∀ q j, 10 ≤ q → q < 106 → (90 ≤ q → q < 94 → 2 ≤ j ∧ j ≤ 3) → (94 ≤ q → j ≠ 1) → σ' q j = σ q j) (ro : ∀ i, 7 ≤ i → i < 400 → r' i = r i) : Rel σ' r' T ng np nx nl := by
  obtain ⟨hC0, hVG, hVP, hVX, hRQ, hRN, hRU⟩ := h
  obtain ⟨n1, n2, n3, n4⟩ := hC0.n
  refine ⟨hC, fun g hg => VG_keep (fun f => o _ _ (by omega) (by omega) (by omega) (by omega)) (fun q hq _ _ => ⟨o _ _ (by omega) (by omega) (by omega) (by omega), o _ _ (by omega) (by omega) (by omega) (by omega), o _ _ (by omega) (by omega) (by omega) (by omega)⟩) (ro _ (by omega) (by omega)) (hVG g hg), fun q hq => VP_keep (fun f => o _ _ (by omega) (by omega) (by omega) (by omega)) (hVP q hq), hX, ?_, ?_, ?_⟩
  · exact KQ_same n1 (fun q j h1 h2 _ => o _ _ (by omega) (by omega) (by omega) (by omega)) (fun q hq => ⟨o _ _ (by omega) (by omega) (by omega) (by omega), o _ _ (by omega) (by omega) (by omega) (by omega)⟩) (fun q hq => ro _ (by omega) (by omega)) hRQ
  · intro q hq hw
    rw [o _ _ (by omega) (by omega) (by omega) (by omega)] at hw
    exact NumOk_keep (ro _ (by omega) (by omega)) (ro 7 (by omega) (by omega)) (ro _ (by omega) (by omega)) (hC.1.1.2.1.trans hC0.1.1.2.1.symm) (hRN q hq hw)
  · obtain ⟨u1, u2, u3⟩ := hRU
    have hus : ∀ q x, q < np → usB σ' q x = usB σ q x := fun q x hq => by
      unfold usB
      rw [o _ _ (by omega) (by omega) (by omega) (by omega), inB_keep (o _ _ (by omega) (by omega) (by omega) (by omega))]
    have hx0 : ∀ x, x < nx → σ' (94 + x) 0 = σ (94 + x) 0 := fun x hx => o _ _ (by omega) (by omega) (by omega) (by omega)
    have hpl : ∀ q k, q < np → plB σ' q k = plB σ q k := fun q k hq => by
      unfold plB
      rw [o _ 0 (by omega) (by omega) (by omega) (by omega), inB_keep (o _ _ (by omega) (by omega) (by omega) (by omega))]
      obtain ⟨w, x1, x2, x3, x4, -⟩ := hVP q hq
      rcases x4 with x4 | ⟨x, hx, x4⟩
      · rw [x4]; rfl
      · rw [x4, nI_clamp (by omega), hx0 x hx]
    refine ⟨fun x hx => ?_, fun k hk => ?_, fun k hk => ?_⟩
    · rw [o _ _ (by omega) (by omega) (by omega) (by omega)]
      rcases u1 x hx with ⟨a, b⟩ | ⟨p, a, b, c, d⟩
      · exact Or.inl ⟨a, fun p hp => by rw [hus p x hp]; exact b p hp⟩
      · exact Or.inr ⟨p, a, b, by rw [hus p x a]; exact c, fun q hq hu => d q hq (by rw [← hus q x hq]; exact hu)⟩
    · rw [o _ _ (by omega) (by omega) (by omega) (by omega), u2 k hk]
      congr 1
      exact cnt_congr (fun i hi => (hpl i k hi).symm)
    · rw [o _ _ (by omega) (by omega) (by omega) (by omega), u3 k hk]
      congr 1
      exact cnt_congr (fun i hi => by rw [hx0 i hi])
def bB (σ : Mm) (x : Nat) : Bool := decide (¬ σ (94 + x) 1 = 0)
theorem mark_loop {S : Nat} {Φ : Int32 → Mm → Prop} (h8 : σ 0 8 = nI nx) (hn : nx ≤ 12) (H : Φ (nI (cnt (bB σ) nx)) (bl S σ μ)) : ∀ (k i : Nat), i + k = nx → ∃ n, w_X8_markPass_34 Φ n S (nI (cnt (bB σ) i)) (nI i) (bl S σ μ)
  | 0, i, hi => by
    have e : i = nx := by omega
    subst e
    refine ⟨0 + 1, ?_⟩
    unfold w_X8_markPass_34
    rw [bl_0, h8, if_pos (nI_le (Nat.le_refl i) (by omega))]
    exact H
  | k + 1, i, hi => by
    obtain ⟨n, hn'⟩ := mark_loop h8 hn H k (i + 1) (by omega)
    rw [cnt_s, nI_succ] at hn'
    have hlim : ¬ (12 : Int32) ≤ nI i := nI_ge (a := i) (b := 12) (by omega) (by omega)
    refine ⟨n + 1, ?_⟩
    unfold w_X8_markPass_34
    rw [bl_0, h8, if_neg (nI_ge (by omega) (by omega)), if_neg hlim, vin (show i < 12 by omega) (by decide), true_and, cl (show i < 2147483648 by omega), Nat.add_assoc, bl_at (show 94 + i < 106 by omega)]
    by_cases hc : σ (94 + i) 1 = 0
    · rw [if_neg (by simp [bB, hc]), Int32.add_zero] at hn'
      rw [if_pos hc]
      exact hn'
    · rw [if_pos (by simp [bB, hc])] at hn'
      rw [if_neg hc]
      exact hn'
theorem Rel.newPool {a : Int32} (h : Rel σ r T ng np nx nl) (hl : nl < 4) : Rel (up2 (up2 (up2 (up2 (up2 (up2 σ (90 + nl) 0 (0)) (90 + nl) 1 (a)) (90 + nl) 2 (0)) (90 + nl) 3 (0)) (90 + nl) 4 (0)) (0) 7 (nI (nl + 1))) (upd (upd (upd (upd r (424 + 3 * nl) (0)) (424 + 3 * nl + 1) (a)) (424 + 3 * nl + 2) (0)) (4) (nI (nl + 1))) T ng np nx (nl + 1) := by
  obtain ⟨σ', hS⟩ : ∃ σ' : Mm, σ' = (up2 (up2 (up2 (up2 (up2 (up2 σ (90 + nl) 0 (0)) (90 + nl) 1 (a)) (90 + nl) 2 (0)) (90 + nl) 3 (0)) (90 + nl) 4 (0)) (0) 7 (nI (nl + 1))) := ⟨_, rfl⟩
  obtain ⟨r', hR⟩ : ∃ r' : Nat → Int32, r' = (upd (upd (upd (upd r (424 + 3 * nl) (0)) (424 + 3 * nl + 1) (a)) (424 + 3 * nl + 2) (0)) (4) (nI (nl + 1))) := ⟨_, rfl⟩
  have o : ∀ q j, (¬ (q = 90 + nl ∧ j = 0) ∧ ¬ (q = 90 + nl ∧ j = 1) ∧ ¬ (q = 90 + nl ∧ j = 2) ∧ ¬ (q = 90 + nl ∧ j = 3) ∧ ¬ (q = 90 + nl ∧ j = 4) ∧ ¬ (q = 0 ∧ j = 7)) → σ' q j = σ q j := by
    intro q j hqj
    rw [hS, up2_n (by omega), up2_n (by omega), up2_n (by omega), up2_n (by omega), up2_n (by omega), up2_n (by omega)]
  have ro : ∀ i, (i ≠ 424 + 3 * nl ∧ i ≠ 424 + 3 * nl + 1 ∧ i ≠ 424 + 3 * nl + 2 ∧ i ≠ 4) → r' i = r i := by
    intro i hi
    rw [hR, pk_un (by omega), pk_un (by omega), pk_un (by omega), pk_un (by omega)]
  have v0 : σ' (90 + nl) 0 = 0 := by
    rw [hS, up2_n (by omega), up2_n (by omega), up2_n (by omega), up2_n (by omega), up2_n (by omega), up2_s]
  have v1 : σ' (90 + nl) 1 = a := by
    rw [hS, up2_n (by omega), up2_n (by omega), up2_n (by omega), up2_n (by omega), up2_s]
  have v2 : σ' (90 + nl) 2 = 0 := by
    rw [hS, up2_n (by omega), up2_n (by omega), up2_n (by omega), up2_s]
  have v3 : σ' (90 + nl) 3 = 0 := by
    rw [hS, up2_n (by omega), up2_n (by omega), up2_s]
  have v4 : σ' (90 + nl) 4 = 0 := by
    rw [hS, up2_n (by omega), up2_s]
  have v5 : σ' (0) 7 = nI (nl + 1) := by
    rw [hS, up2_s]
  have w0 : r' (424 + 3 * nl) = 0 := by
    rw [hR, pk_un (by omega), pk_un (by omega), pk_un (by omega), pk_us]
  have w1 : r' (424 + 3 * nl + 1) = a := by
    rw [hR, pk_un (by omega), pk_un (by omega), pk_us]
  have w2 : r' (424 + 3 * nl + 2) = 0 := by
    rw [hR, pk_un (by omega), pk_us]
  have w3 : r' (4) = nI (nl + 1) := by
    rw [hR, pk_us]
  rw [← hS, ← hR]
  obtain ⟨hC, hVG, hVP, hVX, hRQ, hRN, hRU⟩ := h
  obtain ⟨n1, n2, n3, n4⟩ := hC.n
  obtain ⟨a, b, c, d, e, k⟩ := hC
  refine ⟨⟨?_, fun g f hg hf => ?_, fun p f hp hf => ?_, fun x f hx hf => ?_, fun x f hx hf => ?_, ?_⟩, fun g hg => VG_keep (fun f => o _ _ (by omega)) (fun q hq _ _ => ⟨o _ _ (by omega), o _ _ (by omega), o _ _ (by omega)⟩) (ro _ (by omega)) (hVG g hg), fun q hq => VP_keep (fun f => o _ _ (by omega)) (hVP q hq), fun x hx => ?_, ?_, ?_, ?_⟩
  · obtain ⟨a1, a2, a3, a4, a5, a6, a7, a8⟩ := a
    refine ⟨?_, ?_, ?_, ⟨v5, w3, by omega⟩, ?_, ?_, ?_, a8⟩
    · rw [o _ _ (by omega), ro _ (by omega)]; exact a1
    · rw [o _ _ (by omega), ro _ (by omega)]; exact a2
    · rw [o _ _ (by omega), ro _ (by omega)]; exact a3
    · rw [o _ _ (by omega), ro _ (by omega)]; exact a5
    · rw [o _ _ (by omega), ro _ (by omega)]; exact a6
    · rw [ro _ (by omega)]; exact a7
  · have := gm_lt hf
    rw [o _ _ (by omega), ro _ (by omega)]; exact b g f hg hf
  · have := pm_lt hf
    rw [o _ _ (by omega), ro _ (by omega)]; exact c p f hp hf
  · rw [o _ _ (by omega), ro _ (by omega)]; exact d x f hx hf
  · by_cases hx' : x = nl
    · subst hx'
      rcases (show f = 0 ∨ f = 1 ∨ f = 4 by omega) with rfl | rfl | rfl
      · rw [v0]; exact w0.symm
      · rw [v1]; exact w1.symm
      · rw [v4]; exact w2.symm
    · have := lm_lt hf
      rw [o _ _ (by omega), ro _ (by omega)]; exact e x f (by omega) hf
  · obtain ⟨n, l, h1, h2, h3, h4, h5, h6⟩ := k
    exact ⟨n, l, h1, h2, by rw [o _ _ (by omega)]; exact h3, by rw [o _ _ (by omega)]; exact h4, by rw [ro _ (by omega)]; exact h5, fun k j hk hj => by
      rw [o _ _ (by omega), ro _ (by omega)]
      exact h6 k j hk hj⟩
  · obtain ⟨k, k1, k2, k3⟩ := hVX x hx
    exact ⟨k, by omega, by rw [o _ _ (by omega)]; exact k2, by rw [o _ _ (by omega)]; exact k3⟩
  · exact KQ_same n1 (fun q j h1 h2 _ => o _ _ (by omega)) (fun q hq => ⟨o _ _ (by omega), o _ _ (by omega)⟩) (fun q hq => ro _ (by omega)) hRQ
  · intro q hq hw
    rw [o _ _ (by omega)] at hw
    exact NumOk_keep (ro _ (by omega)) (ro 7 (by omega)) (ro _ (by omega)) (ro 1 (by omega)) (hRN q hq hw)
  · obtain ⟨u1, u2, u3⟩ := hRU
    have hus : ∀ q x, q < np → usB σ' q x = usB σ q x := fun q x hq => by
      unfold usB
      rw [o _ _ (by omega), inB_keep (o _ _ (by omega))]
    have hx0 : ∀ x, σ' (94 + x) 0 = σ (94 + x) 0 := fun x => o _ _ (by omega)
    have hpl : ∀ q k, q < np → plB σ' q k = plB σ q k := fun q k hq => by
      unfold plB
      rw [o _ 0 (by omega), inB_keep (o _ _ (by omega)), hx0]
    refine ⟨fun x hx => ?_, fun k hk => ?_, fun k hk => ?_⟩
    · rw [o _ _ (by omega)]
      rcases u1 x hx with ⟨a, b⟩ | ⟨p, a, b, c, d⟩
      · exact Or.inl ⟨a, fun p hp => by rw [hus p x hp]; exact b p hp⟩
      · exact Or.inr ⟨p, a, b, by rw [hus p x a]; exact c, fun q hq hu => d q hq (by rw [← hus q x hq]; exact hu)⟩
    · by_cases hkn : k = nl
      · subst hkn
        rw [v2, cnt_zero (fun i hi => ?_)]
        · rfl
        · rw [hpl i k hi]
          unfold plB
          obtain ⟨w, x1, x2, x3, x4, -⟩ := hVP i hi
          rcases x4 with x4 | ⟨x, hx, x4⟩
          · rw [x4]; rfl
          · obtain ⟨k', k1, k2, k3⟩ := hVX x hx
            rw [x4, nI_clamp (by omega), k2, decide_eq_false (p := nI k' = nI k) (fun e => by have := nI_inj (by omega) (by omega) e; omega)]
            simp
      · rw [o _ _ (by omega), u2 k (by omega)]
        congr 1
        exact cnt_congr (fun i hi => (hpl i k hi).symm)
    · by_cases hkn : k = nl
      · subst hkn
        rw [v3, cnt_zero (fun i hi => ?_)]
        · rfl
        · obtain ⟨k', k1, k2, k3⟩ := hVX i hi
          rw [hx0, k2]
          exact decide_eq_false (fun e => by have := nI_inj (by omega) (by omega) e; omega)
      · rw [o _ _ (by omega), u3 k (by omega)]
        congr 1
        exact cnt_congr (fun i hi => by rw [hx0])
end P240grow
section P241newpass
variable {σ : Mm} {r : Nat → Int32} {T ng np nx nl g p : Nat} {μ ρ : Mm} {n : Nat}
theorem clamp_pass {σ : Mm} {T nx p : Nat} (h : VP σ T nx p) (hn : nx ≤ 12) : σ (50 + p) 0 < 0 ∨ (σ (50 + p) 0).toNatClampNeg < nx := by
  obtain ⟨w, x1, x2, x3, x4, -⟩ := h
  rcases x4 with x4 | ⟨x, hx, x4⟩
  · exact Or.inl (by rw [x4]; decide)
  · exact Or.inr (by rw [x4, nI_clamp (by omega)]; exact hx)
theorem Rel.newPass {m : Nat} (h : Rel σ r T ng np nx nl) (hl : nx < 12) (hm : m < nl) : Rel (up2 (up2 (up2 (up2 (up2 σ (94 + nx) 0 (nI m)) (94 + nx) 1 (0)) (94 + nx) 2 (-5)) (90 + m) 3 (σ (90 + m) 3 + 1)) (0) 8 (nI (nx + 1))) (upd (upd (upd r (400 + 2 * nx) (nI m)) (400 + 2 * nx + 1) (0)) (3) (nI (nx + 1))) T ng np (nx + 1) nl := by
  have n4' := h.1.n.2.2.2
  obtain ⟨σ', hS⟩ : ∃ σ' : Mm, σ' = (up2 (up2 (up2 (up2 (up2 σ (94 + nx) 0 (nI m)) (94 + nx) 1 (0)) (94 + nx) 2 (-5)) (90 + m) 3 (σ (90 + m) 3 + 1)) (0) 8 (nI (nx + 1))) := ⟨_, rfl⟩
  obtain ⟨r', hR⟩ : ∃ r' : Nat → Int32, r' = (upd (upd (upd r (400 + 2 * nx) (nI m)) (400 + 2 * nx + 1) (0)) (3) (nI (nx + 1))) := ⟨_, rfl⟩
  have o : ∀ q j, (¬ (q = 94 + nx ∧ j = 0) ∧ ¬ (q = 94 + nx ∧ j = 1) ∧ ¬ (q = 94 + nx ∧ j = 2) ∧ ¬ (q = 90 + m ∧ j = 3) ∧ ¬ (q = 0 ∧ j = 8)) → σ' q j = σ q j := by
    intro q j hqj
    rw [hS, up2_n (by omega), up2_n (by omega), up2_n (by omega), up2_n (by omega), up2_n (by omega)]
  have ro : ∀ i, (i ≠ 400 + 2 * nx ∧ i ≠ 400 + 2 * nx + 1 ∧ i ≠ 3) → r' i = r i := by
    intro i hi
    rw [hR, pk_un (by omega), pk_un (by omega), pk_un (by omega)]
  have v0 : σ' (94 + nx) 0 = nI m := by
    rw [hS, up2_n (by omega), up2_n (by omega), up2_n (by omega), up2_n (by omega), up2_s]
  have v1 : σ' (94 + nx) 1 = 0 := by
    rw [hS, up2_n (by omega), up2_n (by omega), up2_n (by omega), up2_s]
  have v2 : σ' (94 + nx) 2 = -5 := by
    rw [hS, up2_n (by omega), up2_n (by omega), up2_s]
  have v3 : σ' (90 + m) 3 = σ (90 + m) 3 + 1 := by
    rw [hS, up2_n (by omega), up2_s]
  have v4 : σ' (0) 8 = nI (nx + 1) := by
    rw [hS, up2_s]
  have w0 : r' (400 + 2 * nx) = nI m := by
    rw [hR, pk_un (by omega), pk_un (by omega), pk_us]
  have w1 : r' (400 + 2 * nx + 1) = 0 := by
    rw [hR, pk_un (by omega), pk_us]
  have w2 : r' (3) = nI (nx + 1) := by
    rw [hR, pk_us]
  rw [← hS, ← hR]
  obtain ⟨hC, hVG, hVP, hVX, hRQ, hRN, hRU⟩ := h
  obtain ⟨n1, n2, n3, n4⟩ := hC.n
  obtain ⟨a, b, c, d, e, k⟩ := hC
  refine ⟨⟨?_, fun g f hg hf => ?_, fun p f hp hf => ?_, fun x f hx hf => ?_, fun x f hx hf => ?_, ?_⟩, fun g hg => VG_keep (fun f => o _ _ (by omega)) (fun q hq _ _ => ⟨o _ _ (by omega), o _ _ (by omega), o _ _ (by omega)⟩) (ro _ (by omega)) (hVG g hg), fun q hq => ?_, fun x hx => ?_, ?_, ?_, ?_⟩
  · obtain ⟨a1, a2, a3, a4, a5, a6, a7, a8⟩ := a
    refine ⟨?_, ?_, ⟨v4, w2, by omega⟩, ?_, ?_, ?_, ?_, a8⟩
    · rw [o _ _ (by omega), ro _ (by omega)]; exact a1
    · rw [o _ _ (by omega), ro _ (by omega)]; exact a2
    · rw [o _ _ (by omega), ro _ (by omega)]; exact a4
    · rw [o _ _ (by omega), ro _ (by omega)]; exact a5
    · rw [o _ _ (by omega), ro _ (by omega)]; exact a6
    · rw [ro _ (by omega)]; exact a7
  · have := gm_lt hf
    rw [o _ _ (by omega), ro _ (by omega)]; exact b g f hg hf
  · have := pm_lt hf
    rw [o _ _ (by omega), ro _ (by omega)]; exact c p f hp hf
  · by_cases hx' : x = nx
    · subst hx'
      rcases (show f = 0 ∨ f = 1 by omega) with rfl | rfl
      · rw [v0]; exact w0.symm
      · rw [v1]; exact w1.symm
    · rw [o _ _ (by omega), ro _ (by omega)]; exact d x f (by omega) hf
  · have := lm_lt hf
    rw [o _ _ (by omega), ro _ (by omega)]; exact e x f hx hf
  · obtain ⟨n, l, h1, h2, h3, h4, h5, h6⟩ := k
    exact ⟨n, l, h1, h2, by rw [o _ _ (by omega)]; exact h3, by rw [o _ _ (by omega)]; exact h4, by rw [ro _ (by omega)]; exact h5, fun k j hk hj => by
      rw [o _ _ (by omega), ro _ (by omega)]
      exact h6 k j hk hj⟩
  · obtain ⟨w, x1, x2, x3, x4, x5, x6, x7, x8⟩ := VP_keep (σ' := σ') (fun f => o _ _ (by omega)) (hVP q hq)
    exact ⟨w, x1, x2, x3, by
      rcases x4 with x4 | ⟨x, hx, x4⟩
      · exact Or.inl x4
      · exact Or.inr ⟨x, by omega, x4⟩, x5, x6, x7, fun hw => by
      obtain ⟨x, hx, x9⟩ := x8 hw
      exact ⟨x, by omega, x9⟩⟩
  · by_cases hx' : x = nx
    · rw [hx']
      exact ⟨m, hm, v0, by rw [v1]; exact Or.inl rfl⟩
    · obtain ⟨k, k1, k2, k3⟩ := hVX x (by omega)
      exact ⟨k, k1, by rw [o _ _ (by omega)]; exact k2, by rw [o _ _ (by omega)]; exact k3⟩
  · exact KQ_same n1 (fun q j h1 h2 _ => o _ _ (by omega)) (fun q hq => ⟨o _ _ (by omega), o _ _ (by omega)⟩) (fun q hq => ro _ (by omega)) hRQ
  · intro q hq hw
    rw [o _ _ (by omega)] at hw
    exact NumOk_keep (ro _ (by omega)) (ro 7 (by omega)) (ro _ (by omega)) (ro 1 (by omega)) (hRN q hq hw)
  · obtain ⟨u1, u2, u3⟩ := hRU
    have hus : ∀ q x, q < np → usB σ' q x = usB σ q x := fun q x hq => by
      unfold usB
      rw [o _ _ (by omega), inB_keep (o _ _ (by omega))]
    have hx0 : ∀ x, x < nx → σ' (94 + x) 0 = σ (94 + x) 0 := fun x hx => o _ _ (by omega)
    have hpl : ∀ q k, q < np → plB σ' q k = plB σ q k := fun q k hq => by
      unfold plB
      rw [o _ 0 (by omega), inB_keep (o _ _ (by omega))]
      rcases clamp_pass (hVP q hq) n3 with hc | hc
      · rw [decide_eq_false (p := ¬ σ (50 + q) 0 < 0) (fun e => e hc)]
        rfl
      · rw [hx0 _ hc]
    have hold : ∀ k, cnt (fun x => decide (σ' (94 + x) 0 = nI k)) nx = cnt (fun x => decide (σ (94 + x) 0 = nI k)) nx := fun k => cnt_congr (fun i hi => by rw [hx0 i hi])
    refine ⟨fun x hx => ?_, fun k hk => ?_, fun k hk => ?_⟩
    · by_cases hx' : x = nx
      · rw [hx']
        refine Or.inl ⟨v2, fun q hq => ?_⟩
        rw [hus q nx hq]
        unfold usB
        have hne : ¬ σ (50 + q) 0 = nI nx := fun e => by
          rcases clamp_pass (hVP q hq) n3 with hc | hc
          · rw [e] at hc; exact nI_pos (by omega) hc
          · rw [e, nI_clamp (by omega)] at hc; omega
        rw [decide_eq_false hne]
        rfl
      · rw [o _ _ (by omega)]
        rcases u1 x (by omega) with ⟨a, b⟩ | ⟨p, a, b, c, d⟩
        · exact Or.inl ⟨a, fun p hp => by rw [hus p x hp]; exact b p hp⟩
        · exact Or.inr ⟨p, a, b, by rw [hus p x a]; exact c, fun q hq hu => d q hq (by rw [← hus q x hq]; exact hu)⟩
    · rw [o _ _ (by omega), u2 k hk]
      congr 1
      exact cnt_congr (fun i hi => (hpl i k hi).symm)
    · rw [cnt_s, hold]
      by_cases hkm : k = m
      · subst hkm
        rw [v3, if_pos (decide_eq_true v0), u3 k hk]
      · rw [o _ _ (by omega), u3 k hk, if_neg (by rw [v0]; simp only [decide_eq_true_eq]; exact fun e => hkm (nI_inj (by omega) (by omega) e).symm)]
        exact (Int32.add_zero _).symm
end P241newpass
section P242newgate
variable {σ : Mm} {r : Nat → Int32} {T ng np nx nl g p : Nat} {μ ρ : Mm} {n : Nat}
theorem Rel.newGate {σ' : Mm} {r' : Nat → Int32} {k : Nat} (h : Rel σ r T ng np nx nl) (hl : ng < 8) (o : ∀ q j, q ≠ 10 + 5 * ng → q ≠ 11 + 5 * ng → q ≠ 13 + 5 * ng → ¬ (q = 0 ∧ j = 5) → σ' q j = σ q j) (c5 : σ' 0 5 = nI (ng + 1)) (l0 : σ' (11 + 5 * ng) 1 = 0) (l1 : σ' (13 + 5 * ng) 1 = 0) (ro : ∀ i, (i < 8 + 14 * ng ∨ 8 + 14 * ng + 14 ≤ i) → i ≠ 1 → r' i = r i) (w1 : r' 1 = nI (ng + 1)) (hgf : ∀ f, f < 13 → σ' (10 + 5 * ng) (f + 2) = r' (8 + 14 * ng + gm f)) (hk : k ≤ 2) (d2 : σ' (10 + 5 * ng) 2 = nI k) (d6 : σ' (10 + 5 * ng) 6 = 0) (d8 : σ' (10 + 5 * ng) 8 = -5) (d9 : σ' (10 + 5 * ng) 9 = 0) : Rel σ' r' T (ng + 1) np nx nl := by
  obtain ⟨hC, hVG, hVP, hVX, hRQ, hRN, hRU⟩ := h
  obtain ⟨n1, n2, n3, n4⟩ := hC.n
  have hgp : ∀ q, q < np → r (120 + 7 * q + 3) = σ (50 + q) 3 := fun q hq => (hC.2.2.1 q 3 hq (by decide)).symm
  have r1 : r 1 = nI ng := hC.1.1.2.1
  obtain ⟨a, b, c, d, e, kk⟩ := hC
  have op : ∀ q j, 50 ≤ q → σ' q j = σ q j := fun q j hq => o _ _ (by omega) (by omega) (by omega) (by omega)
  refine ⟨⟨?_, fun g f hg hf => ?_, fun p f hp hf => ?_, fun x f hx hf => ?_, fun x f hx hf => ?_, ?_⟩, fun g hg => ?_, fun q hq => VP_keep (fun f => op _ _ (by omega)) (hVP q hq), fun x hx => VX_keep (fun f _ => op _ _ (by omega)) (hVX x hx), fun g e' hg he => ?_, ?_, ?_⟩
  · obtain ⟨a1, a2, a3, a4, a5, a6, a7, a8⟩ := a
    have o0 : ∀ j, j ≠ 5 → σ' 0 j = σ 0 j := fun j hj => o _ _ (by omega) (by omega) (by omega) (by omega)
    have ro0 : ∀ i, i < 8 → i ≠ 1 → r' i = r i := fun i hi h1 => ro i (by omega) h1
    refine ⟨⟨c5, w1, by omega⟩, ?_, ?_, ?_, ?_, ?_, ?_, a8⟩
    · rw [o0 _ (by decide), ro0 _ (by decide) (by decide)]; exact a2
    · rw [o0 _ (by decide), ro0 _ (by decide) (by decide)]; exact a3
    · rw [o0 _ (by decide), ro0 _ (by decide) (by decide)]; exact a4
    · rw [o0 _ (by decide), ro0 _ (by decide) (by decide)]; exact a5
    · rw [o0 _ (by decide), ro0 _ (by decide) (by decide)]; exact a6
    · rw [ro0 _ (by decide) (by decide)]; exact a7
  · by_cases hgn : g = ng
    · rw [hgn]; exact hgf f hf
    · have := gm_lt hf
      rw [o _ _ (by omega) (by omega) (by omega) (by omega), ro _ (by omega) (by omega)]; exact b g f (by omega) hf
  · have := pm_lt hf
    rw [op _ _ (by omega), ro _ (by omega) (by omega)]; exact c p f hp hf
  · rw [op _ _ (by omega), ro _ (by omega) (by omega)]; exact d x f hx hf
  · have := lm_lt hf
    rw [op _ _ (by omega), ro _ (by omega) (by omega)]; exact e x f hx hf
  · obtain ⟨n, l, h1, h2, h3, h4, h5, h6⟩ := kk
    exact ⟨n, l, h1, h2, by rw [o _ _ (by omega) (by omega) (by omega) (by omega)]; exact h3, by rw [o _ _ (by omega) (by omega) (by omega) (by omega)]; exact h4, by rw [ro _ (by omega) (by omega)]; exact h5, fun k j hk hj => by
      rw [o _ _ (by omega) (by omega) (by omega) (by omega), ro _ (by omega) (by omega)]
      exact h6 k j hk hj⟩
  · by_cases hgn : g = ng
    · rw [hgn]
      exact ⟨k, 0, hk, d2, by decide, d6, by rw [d9]; exact Or.inl rfl, Or.inl ⟨Or.inl rfl, d8⟩⟩
    · exact VG_keep (fun f => o _ _ (by omega) (by omega) (by omega) (by omega)) (fun q hq _ _ => ⟨op _ _ (by omega), op _ _ (by omega), op _ _ (by omega)⟩) (ro _ (by omega) (by omega)) (hVG g (by omega))
  · by_cases hgn : g = ng
    · subst hgn
      refine ⟨0, fun _ => 0, by omega, ?_, fun i hi => absurd hi (Nat.not_lt_zero _), fun i j _ hj => absurd hj (Nat.not_lt_zero _), fun q hq e3 e2 => ?_⟩
      · rcases (show e' = 0 ∨ e' = 1 by omega) with rfl | rfl
        · rw [show 11 + 5 * g + 2 * 0 = 11 + 5 * g by omega]; exact l0
        · rw [show 11 + 5 * g + 2 * 1 = 13 + 5 * g by omega]; exact l1
      · exfalso
        rw [op _ _ (by omega)] at e3 e2
        obtain ⟨-, g', g1, g2, g3⟩ := hRN q hq (by
          rcases (show e' = 0 ∨ e' = 1 by omega) with rfl | rfl
          · exact Or.inl e2
          · exact Or.inr e2)
        rw [hgp q hq, e3] at g2
        rw [← g2, r1] at g3
        exact lt_ir g3
    · obtain ⟨n, a, b1, b2, b3, b4, b5⟩ := hRQ g e' (by omega) he
      refine ⟨n, a, b1, by rw [o _ _ (by omega) (by omega) (by omega) (by omega)]; exact b2, fun i hi => ?_, fun i j hij hj => ?_, fun q hq => ?_⟩
      · rw [o _ _ (by omega) (by omega) (by omega) (by omega), op _ _ (by omega), op _ _ (by omega)]; exact b3 i hi
      · have := (b3 i (by omega)).2.1
        have := (b3 j hj).2.1
        rw [ro _ (by omega) (by omega), ro _ (by omega) (by omega)]; exact b4 i j hij hj
      · rw [op _ _ (by omega), op _ _ (by omega)]; exact b5 q hq
  · intro q hq hw
    rw [op _ _ (by omega)] at hw
    obtain ⟨h1, g', g1, g2, g3⟩ := hRN q hq hw
    refine ⟨by rw [ro _ (by omega) (by omega), ro 7 (by omega) (by omega)]; exact h1, g', g1, by rw [ro _ (by omega) (by omega)]; exact g2, ?_⟩
    rw [w1]
    rw [r1] at g3
    exact (nI_ltI (by omega) (by omega)).mpr (by have := (nI_ltI (show g' < 2 ^ 31 by omega) (show ng < 2 ^ 31 by omega)).mp g3; omega)
  · exact KU_keep (fun q hq => op _ _ (by omega)) (fun q hq => inB_keep (op _ _ (by omega))) (fun x => by
      funext j
      exact op _ _ (by omega)) (fun k hk => ⟨op _ _ (by omega), op _ _ (by omega)⟩) hRU
end P242newgate
section P243append
variable {S : Nat} {σ μ : Mm} {r : Nat → Int32} {ng np g e p : Nat}
theorem d_append {c n : Nat} {a : Int32} {Φ : Unit → Mm → Prop} (hc : c + 1 < 106) (hl : σ c 1 = nI n) (hn : n < 40) : w_X7_append (S + c) a (bl S σ μ) Φ = Φ () (bl S (up2 (up2 σ (c + 1) n a) c 1 (nI (n + 1))) μ) := by
  unfold w_X7_append
  have h40 : ¬ (40 : Int32) ≤ nI n := nI_ge (a := n) (b := 40) (by omega) (by omega)
  have hc0 : c < 106 := by omega
  rw [bl_at hc0, hl, if_neg (nI_pos (by omega)), if_neg h40, vin hn (by decide), true_and, cl (by omega)]
  simp only [forall_eq, Nat.add_assoc, up2_bl hc, up2_bl hc0, bl_at hc0]
  rw [up2_n (Or.inl (by omega)), hl, nI_1]
theorem KQp_len (h : KQp σ r ng np p) (hp : p < np) (hg : g < ng) (he : e < 2) : ∃ n, σ (11 + 5 * g + 2 * e) 1 = nI n ∧ n + 1 ≤ np := by
  obtain ⟨n, a, h1, h2, h3, h4, h5⟩ := h g e hg he
  refine ⟨n, h2, ?_⟩
  have hc := cnt_enum (n := np) a n (fun q => decide (q ≠ p) && (decide (σ (50 + q) 3 = nI g) && decide (σ (50 + q) 2 = nI (1 + 3 * e)))) (fun i hi => ⟨(h3 i hi).2.1, by simp [(h3 i hi).2.2.1, (h3 i hi).2.2.2.1, (h3 i hi).2.2.2.2]⟩) (fun i hi j hj ea => by
    rcases Nat.lt_trichotomy i j with q | q | q
    · have := h4 i j q hj
      rw [ea] at this
      exact absurd this (fun z => lt_ir z)
    · exact q
    · have := h4 j i q hi
      rw [ea] at this
      exact absurd this (fun z => lt_ir z)) (fun q hq hP => by
    simp only [Bool.and_eq_true, decide_eq_true_eq] at hP
    exact h5 q hq hP.1 hP.2.1 hP.2.2)
  have hadd := cnt_add (P := fun q => decide (q ≠ p) && (decide (σ (50 + q) 3 = nI g) && decide (σ (50 + q) 2 = nI (1 + 3 * e)))) (Q := fun q => decide (q = p) || (decide (q ≠ p) && (decide (σ (50 + q) 3 = nI g) && decide (σ (50 + q) 2 = nI (1 + 3 * e))))) hp (fun i hi hne => by simp [hne]) (by simp) (by simp)
  rw [hc] at hadd
  have := cnt_le (P := fun q => decide (q = p) || (decide (q ≠ p) && (decide (σ (50 + q) 3 = nI g) && decide (σ (50 + q) 2 = nI (1 + 3 * e))))) (n := np)
  omega
theorem KQ_add {σ' : Mm} {r' : Nat → Int32} {n : Nat} (hng : ng ≤ 8) (hnp : np ≤ 40) (h : KQp σ r ng np p) (hp : p < np) (hg : g < ng) (he : e < 2) (hl : σ (11 + 5 * g + 2 * e) 1 = nI n) (hn : n + 1 ≤ 40) (hfr : ∀ q, q < np → q ≠ p → σ (50 + q) 2 = nI (1 + 3 * e) → r (120 + 7 * q + 6) < r' (120 + 7 * p + 6)) (oq : ∀ q j, 11 ≤ q → q < 50 → (∀ g', 10 + 5 * g' ≠ q) → ¬ (q = 11 + 5 * g + 2 * e ∧ j = 1) → ¬ (q = 12 + 5 * g + 2 * e ∧ j = n) → σ' q j = σ q j) (c1 : σ' (11 + 5 * g + 2 * e) 1 = nI (n + 1)) (c2 : σ' (12 + 5 * g + 2 * e) n = nI p) (op : ∀ q, q < np → q ≠ p → σ' (50 + q) 2 = σ (50 + q) 2 ∧ σ' (50 + q) 3 = σ (50 + q) 3) (p3 : σ' (50 + p) 3 = nI g) (p2 : σ' (50 + p) 2 = nI (1 + 3 * e)) (hr : ∀ q, q < np → q ≠ p → r' (120 + 7 * q + 6) = r (120 + 7 * q + 6)) : KQ σ' r' ng np := by
  intro g' e' hg' he'
  obtain ⟨m, a, b1, b2, b3, b4, b5⟩ := h g' e' hg' he'
  by_cases hge : g' = g ∧ e' = e
  · obtain ⟨rfl, rfl⟩ := hge
    have hm : m = n := nI_inj (by omega) (by omega) (b2.symm.trans hl)
    subst hm
    have al : ∀ i, i < m → (fun i => if i < m then a i else p) i = a i := fun i hi => if_pos hi
    have ap : (fun i => if i < m then a i else p) m = p := if_neg (Nat.lt_irrefl _)
    refine ⟨m + 1, fun i => if i < m then a i else p, hn, c1, fun i hi => ?_, fun i j hij hj => ?_, fun q hq e3 e2 => ?_⟩
    · by_cases him : i = m
      · subst him
        rw [ap]
        exact ⟨c2, hp, p3, p2⟩
      · have hlt : i < m := by omega
        obtain ⟨d1, d2, d3, d4, d5⟩ := b3 i hlt
        rw [al i hlt, oq _ _ (by omega) (by omega) (fun g'' => by omega) (by omega) (by omega), (op _ d2 d3).1, (op _ d2 d3).2]
        exact ⟨d1, d2, d4, d5⟩
    · have hi : i < m := by omega
      obtain ⟨d1, d2, d3, d4, d5⟩ := b3 i hi
      rw [al i hi]
      by_cases hjm : j = m
      · subst hjm
        rw [ap, hr _ d2 d3]
        exact hfr _ d2 d3 d5
      · have hj' : j < m := by omega
        obtain ⟨f1, f2, f3, f4, f5⟩ := b3 j hj'
        rw [al j hj', hr _ d2 d3, hr _ f2 f3]
        exact b4 i j hij hj'
    · by_cases hqp : q = p
      · exact ⟨m, by omega, by rw [ap, hqp]⟩
      · rw [(op q hq hqp).2] at e3
        rw [(op q hq hqp).1] at e2
        obtain ⟨i, hi, hia⟩ := b5 q hq hqp e3 e2
        exact ⟨i, by omega, by rw [al i hi]; exact hia⟩
  · refine ⟨m, a, b1, by rw [oq _ _ (by omega) (by omega) (fun g'' => by omega) (by omega) (by omega)]; exact b2, fun i hi => ?_, fun i j hij hj => ?_, fun q hq e3 e2 => ?_⟩
    · obtain ⟨d1, d2, d3, d4, d5⟩ := b3 i hi
      rw [oq _ _ (by omega) (by omega) (fun g'' => by omega) (by omega) (by omega), (op _ d2 d3).1, (op _ d2 d3).2]
      exact ⟨d1, d2, d4, d5⟩
    · obtain ⟨-, d2, d3, -⟩ := b3 i (by omega)
      obtain ⟨-, f2, f3, -⟩ := b3 j hj
      rw [hr _ d2 d3, hr _ f2 f3]
      exact b4 i j hij hj
    · by_cases hqp : q = p
      · exfalso
        rw [hqp] at e3 e2
        rw [p3] at e3
        rw [p2] at e2
        have k1 := nI_inj (by omega) (by omega) e3
        have k2 := nI_inj (by omega) (by omega) e2
        omega
      · rw [(op q hq hqp).2] at e3
        rw [(op q hq hqp).1] at e2
        exact b5 q hq hqp e3 e2
end P243append
section P244exit
variable {σ : Mm} {r : Nat → Int32} {T ng np nx nl g p : Nat} {μ ρ : Mm} {n : Nat}
theorem KQp_of (h : KQ σ r ng np) (hp : ∀ e, e < 2 → σ (50 + p) 2 ≠ nI (1 + 3 * e)) : KQp σ r ng np p := by
  intro g e hg he
  obtain ⟨n, a, b1, b2, b3, b4, b5⟩ := h g e hg he
  exact ⟨n, a, b1, b2, fun i hi => ⟨(b3 i hi).1, (b3 i hi).2.1, fun q => hp e he (by rw [← q]; exact (b3 i hi).2.2.2), (b3 i hi).2.2.1, (b3 i hi).2.2.2⟩, b4, fun q hq _ => b5 q hq⟩
set_option maxHeartbeats 4000000 in
theorem sim_exit (h : Rel σ r T ng np nx nl) (hT : T + 1 < 1073741824) (hg : g < ng) (hp : p < np) (e2 : σ (50 + p) 2 = nI 3) : ∃ k, k < 40 ∧ σ (11 + 5 * g + 2 * 1) 1 = nI k ∧ Rel (up2 (up2 (up2 (up2 (up2 (up2 σ (50 + p) 3 (nI g)) (50 + p) 2 (4)) (50 + p) 5 (σ 0 9)) (50 + p) 6 (1)) (11 + 5 * g + 2 * 1 + 1) k (nI p)) (11 + 5 * g + 2 * 1) 1 (nI (k + 1))) (upd (upd (upd (upd (upd r (120 + 7 * p + 5) (r 0)) (120 + 7 * p + 0) (4)) (120 + 7 * p + 3) (nI g)) (120 + 7 * p + 6) (r 7)) (7) (r 7 + 1)) (T + 1) ng np nx nl := by
  obtain ⟨n1, n2, n3, n4⟩ := h.1.n
  have hkp := KQp_of (p := p) h.2.2.2.2.1 (fun e he q => by
    rw [e2] at q
    have := nI_inj (by omega) (by omega) q
    omega)
  obtain ⟨k, hk1, hk2⟩ := KQp_len (e := 1) hkp hp hg (by decide)
  refine ⟨k, by omega, hk1, ?_⟩
  obtain ⟨σ', hS⟩ : ∃ σ' : Mm, σ' = (up2 (up2 (up2 (up2 (up2 (up2 σ (50 + p) 3 (nI g)) (50 + p) 2 (4)) (50 + p) 5 (σ 0 9)) (50 + p) 6 (1)) (11 + 5 * g + 2 * 1 + 1) k (nI p)) (11 + 5 * g + 2 * 1) 1 (nI (k + 1))) := ⟨_, rfl⟩
  obtain ⟨r', hR⟩ : ∃ r' : Nat → Int32, r' = (upd (upd (upd (upd (upd r (120 + 7 * p + 5) (r 0)) (120 + 7 * p + 0) (4)) (120 + 7 * p + 3) (nI g)) (120 + 7 * p + 6) (r 7)) (7) (r 7 + 1)) := ⟨_, rfl⟩
  have o : ∀ q j, (¬ (q = 50 + p ∧ j = 3) ∧ ¬ (q = 50 + p ∧ j = 2) ∧ ¬ (q = 50 + p ∧ j = 5) ∧ ¬ (q = 50 + p ∧ j = 6) ∧ ¬ (q = 11 + 5 * g + 2 * 1 + 1 ∧ j = k) ∧ ¬ (q = 11 + 5 * g + 2 * 1 ∧ j = 1)) → σ' q j = σ q j := by
    intro q j hqj
    rw [hS, up2_n (by omega), up2_n (by omega), up2_n (by omega), up2_n (by omega), up2_n (by omega), up2_n (by omega)]
  have ro : ∀ i, (i ≠ 120 + 7 * p + 5 ∧ i ≠ 120 + 7 * p + 0 ∧ i ≠ 120 + 7 * p + 3 ∧ i ≠ 120 + 7 * p + 6 ∧ i ≠ 7) → r' i = r i := by
    intro i hi
    rw [hR, pk_un (by omega), pk_un (by omega), pk_un (by omega), pk_un (by omega), pk_un (by omega)]
  have v0 : σ' (50 + p) 3 = nI g := by
    rw [hS, up2_n (by omega), up2_n (by omega), up2_n (by omega), up2_n (by omega), up2_n (by omega), up2_s]
  have v1 : σ' (50 + p) 2 = 4 := by
    rw [hS, up2_n (by omega), up2_n (by omega), up2_n (by omega), up2_n (by omega), up2_s]
  have v2 : σ' (50 + p) 5 = σ 0 9 := by
    rw [hS, up2_n (by omega), up2_n (by omega), up2_n (by omega), up2_s]
  have v3 : σ' (50 + p) 6 = 1 := by
    rw [hS, up2_n (by omega), up2_n (by omega), up2_s]
  have v4 : σ' (11 + 5 * g + 2 * 1 + 1) k = nI p := by
    rw [hS, up2_n (by omega), up2_s]
  have v5 : σ' (11 + 5 * g + 2 * 1) 1 = nI (k + 1) := by
    rw [hS, up2_s]
  have w0 : r' (120 + 7 * p + 5) = r 0 := by
    rw [hR, pk_un (by omega), pk_un (by omega), pk_un (by omega), pk_un (by omega), pk_us]
  have w1 : r' (120 + 7 * p + 0) = 4 := by
    rw [hR, pk_un (by omega), pk_un (by omega), pk_un (by omega), pk_us]
  have w2 : r' (120 + 7 * p + 3) = nI g := by
    rw [hR, pk_un (by omega), pk_un (by omega), pk_us]
  have w3 : r' (120 + 7 * p + 6) = r 7 := by
    rw [hR, pk_un (by omega), pk_us]
  have w4 : r' (7) = r 7 + 1 := by
    rw [hR, pk_us]
  rw [← hS, ← hR]
  obtain ⟨hC, hVG, hVP, hVX, hRQ, hRN, hRU⟩ := h
  have htime := hC.time
  obtain ⟨a, b, c, d, e, kk⟩ := hC
  obtain ⟨a1, a2, a3, a4, a5, ⟨t, t1, t2, t3⟩, ⟨m, m1, m2⟩, a8⟩ := a
  have m7 : r 7 < r 7 + 1 := by rw [m2, nI_1]; exact nI_lt (by omega) (by omega)
  refine ⟨⟨?_, fun g' f hg' hf => ?_, fun q f hq hf => ?_, fun x f hx hf => ?_, fun x f hx hf => ?_, ?_⟩, fun g' hg' => ?_, fun q hq => ?_, fun x hx => VX_keep (fun f _ => o _ _ (by omega)) (hVX x hx), ?_, fun q hq hw => ?_, ?_⟩
  · refine ⟨?_, ?_, ?_, ?_, ?_, ⟨t, by omega, ?_, ?_⟩, ⟨m + 1, by omega, ?_⟩, hT⟩
    · rw [o _ _ (by omega), ro _ (by omega)]; exact a1
    · rw [o _ _ (by omega), ro _ (by omega)]; exact a2
    · rw [o _ _ (by omega), ro _ (by omega)]; exact a3
    · rw [o _ _ (by omega), ro _ (by omega)]; exact a4
    · rw [o _ _ (by omega), ro _ (by omega)]; exact a5
    · rw [o _ _ (by omega)]; exact t2
    · rw [ro _ (by omega)]; exact t3
    · rw [w4, m2, nI_1]
  · have := gm_lt hf
    rw [o _ _ (by omega), ro _ (by omega)]; exact b g' f hg' hf
  · by_cases hqp : q = p
    · rw [hqp]
      rcases (show f = 0 ∨ f = 1 ∨ f = 2 ∨ f = 3 ∨ f = 4 ∨ f = 5 by omega) with rfl | rfl | rfl | rfl | rfl | rfl
      · exact (o _ _ (by omega)).trans ((c p 0 hp (by decide)).trans (ro (120 + 7 * p + 1) (by omega)).symm)
      · exact (o _ _ (by omega)).trans ((c p 1 hp (by decide)).trans (ro (120 + 7 * p + 2) (by omega)).symm)
      · exact v1.trans w1.symm
      · exact v0.trans w2.symm
      · exact (o _ _ (by omega)).trans ((c p 4 hp (by decide)).trans (ro (120 + 7 * p + 4) (by omega)).symm)
      · exact v2.trans (htime.symm.trans w0.symm)
    · have := pm_lt hf
      rw [o _ _ (by omega), ro _ (by omega)]; exact c q f hq hf
  · rw [o _ _ (by omega), ro _ (by omega)]; exact d x f hx hf
  · have := lm_lt hf
    rw [o _ _ (by omega), ro _ (by omega)]; exact e x f hx hf
  · obtain ⟨n, l, h1, h2, h3, h4, h5, h6⟩ := kk
    exact ⟨n, l, h1, h2, by rw [o _ _ (by omega)]; exact h3, by rw [o _ _ (by omega)]; exact h4, by rw [ro _ (by omega)]; exact h5, fun k j hk hj => by
      rw [o _ _ (by omega), ro _ (by omega)]
      exact h6 k j hk hj⟩
  · obtain ⟨d', st, h1, h2, h3, h4, h5, h6⟩ := hVG g' hg'
    refine ⟨d', st, h1, by rw [o _ _ (by omega)]; exact h2, h3, by rw [o _ _ (by omega)]; exact h4, by rw [o _ _ (by omega)]; exact h5, ?_⟩
    rcases h6 with ⟨x, y⟩ | ⟨x, q, o', b1, b2, b3, b4, b5, b6, b7⟩
    · exact Or.inl ⟨x, by rw [o _ _ (by omega)]; exact y⟩
    · have hqp : q ≠ p := fun e' => by
        rw [e', e2] at b5
        exact absurd b5 (by decide)
      exact Or.inr ⟨x, q, o', b1, b2, by rw [o _ _ (by omega)]; exact b3, by rw [o _ _ (by omega)]; exact b4, by rw [o _ _ (by omega)]; exact b5, by rw [o _ _ (by omega)]; exact b6, by rw [ro _ (by omega), o _ _ (by omega)]; exact b7⟩
  · by_cases hqp : q = p
    · rw [hqp]
      obtain ⟨w, x1, x2, x3, x4, x5, x6, x7, x8⟩ := hVP p hp
      have hw : w = 3 := nI_inj (by omega) (by omega) (x2.symm.trans e2)
      exact ⟨4, by decide, v1, ⟨by rw [o _ _ (by omega)]; exact x3.1, by rw [v3]; exact Or.inr rfl⟩, by rw [o _ _ (by omega)]; exact x4, fun h => by omega, fun _ => v3, fun _ => ⟨t, by omega, v2.trans t2⟩, fun _ => by rw [o _ _ (by omega)]; exact x8 (by omega)⟩
    · exact VP_mono (by omega) (VP_keep (fun f => o _ _ (by omega)) (hVP q hq))
  · refine KQ_add (n := k) (e := 1) n1 n2 hkp hp hg (by decide) hk1 (by omega) (fun q hq hne hw => ?_) (fun q j h1 h2 h3 h4 h5 => ?_) v5 ?_ (fun q hq hne => ⟨o _ _ (by omega), o _ _ (by omega)⟩) v0 v1 (fun q hq hne => ro _ (by omega))
    · rw [w3]
      exact (hRN q hq (Or.inr hw)).1
    · have h6 := h3 g
      exact o _ _ (by omega)
    · rw [show 12 + 5 * g + 2 * 1 = 11 + 5 * g + 2 * 1 + 1 by omega]
      exact v4
  · by_cases hqp : q = p
    · rw [hqp]
      exact ⟨by rw [w3, w4]; exact m7, g, by omega, w2, by rw [ro 1 (by omega), a1.2.1]; exact nI_lt hg (by omega)⟩
    · rw [o _ _ (by omega)] at hw
      obtain ⟨y1, y2⟩ := hRN q hq hw
      refine ⟨by rw [ro _ (by omega), w4]; exact lt_tr y1 m7, ?_⟩
      rw [ro _ (by omega), ro 1 (by omega)]
      exact y2
  · exact KU_keep (fun q hq => o _ _ (by omega)) (fun q hq => by
      by_cases hqp : q = p
      · rw [hqp, inB_4 v1, inB_3 e2]
      · exact inB_keep (o _ _ (by omega))) (fun x => by
      funext j
      exact o _ _ (by omega)) (fun k hk => ⟨o _ _ (by omega), o _ _ (by omega)⟩) hRU
end P244exit
section P245enter
variable {σ : Mm} {r : Nat → Int32} {T ng np nx nl g p : Nat} {μ ρ : Mm} {n : Nat}
theorem KQp_new (h : KQ σ r ng np) : KQp σ r ng (np + 1) np := by
  intro g e hg he
  obtain ⟨n, a, b1, b2, b3, b4, b5⟩ := h g e hg he
  exact ⟨n, a, b1, b2, fun i hi => ⟨(b3 i hi).1, by have := (b3 i hi).2.1; omega, by have := (b3 i hi).2.1; omega, (b3 i hi).2.2.1, (b3 i hi).2.2.2⟩, b4, fun q hq hne => b5 q (by omega)⟩
set_option maxHeartbeats 4000000 in
theorem sim_enter {z s : Int32} (h : Rel σ r T ng np nx nl) (hT : T + 1 < 1073741824) (hl : np < 40) (hg : g < ng) (hz : z = -5 ∨ ∃ x, x < nx ∧ z = nI x) (hs : isB s) : ∃ k, k < 40 ∧ σ (11 + 5 * g + 2 * 0) 1 = nI k ∧ Rel (up2 (up2 (up2 (up2 (up2 (up2 (up2 (up2 (up2 (up2 σ (50 + np) 0 (z)) (50 + np) 1 (s)) (50 + np) 4 (0)) (50 + np) 3 (nI g)) (50 + np) 2 (1)) (50 + np) 5 (σ 0 9)) (50 + np) 6 (0)) (11 + 5 * g + 2 * 0 + 1) k (nI np)) (11 + 5 * g + 2 * 0) 1 (nI (k + 1))) (0) 6 (nI (np + 1))) (upd (upd (upd (upd (upd (upd (upd (upd (upd r (2) (nI (np + 1))) (120 + 7 * np + 1) (z)) (120 + 7 * np + 2) (s)) (120 + 7 * np + 4) (0)) (120 + 7 * np + 5) (r 0)) (120 + 7 * np + 0) (1)) (120 + 7 * np + 3) (nI g)) (120 + 7 * np + 6) (r 7)) (7) (r 7 + 1)) (T + 1) ng (np + 1) nx nl := by
  obtain ⟨n1, n2, n3, n4⟩ := h.1.n
  have hkp := KQp_new h.2.2.2.2.1
  obtain ⟨k, hk1, hk2⟩ := KQp_len (e := 0) hkp (Nat.lt_succ_self np) hg (by decide)
  refine ⟨k, by omega, hk1, ?_⟩
  obtain ⟨σ', hS⟩ : ∃ σ' : Mm, σ' = (up2 (up2 (up2 (up2 (up2 (up2 (up2 (up2 (up2 (up2 σ (50 + np) 0 (z)) (50 + np) 1 (s)) (50 + np) 4 (0)) (50 + np) 3 (nI g)) (50 + np) 2 (1)) (50 + np) 5 (σ 0 9)) (50 + np) 6 (0)) (11 + 5 * g + 2 * 0 + 1) k (nI np)) (11 + 5 * g + 2 * 0) 1 (nI (k + 1))) (0) 6 (nI (np + 1))) := ⟨_, rfl⟩
  obtain ⟨r', hR⟩ : ∃ r' : Nat → Int32, r' = (upd (upd (upd (upd (upd (upd (upd (upd (upd r (2) (nI (np + 1))) (120 + 7 * np + 1) (z)) (120 + 7 * np + 2) (s)) (120 + 7 * np + 4) (0)) (120 + 7 * np + 5) (r 0)) (120 + 7 * np + 0) (1)) (120 + 7 * np + 3) (nI g)) (120 + 7 * np + 6) (r 7)) (7) (r 7 + 1)) := ⟨_, rfl⟩
  have o : ∀ q j, (¬ (q = 50 + np ∧ j = 0) ∧ ¬ (q = 50 + np ∧ j = 1) ∧ ¬ (q = 50 + np ∧ j = 4) ∧ ¬ (q = 50 + np ∧ j = 3) ∧ ¬ (q = 50 + np ∧ j = 2) ∧ ¬ (q = 50 + np ∧ j = 5) ∧ ¬ (q = 50 + np ∧ j = 6) ∧ ¬ (q = 11 + 5 * g + 2 * 0 + 1 ∧ j = k) ∧ ¬ (q = 11 + 5 * g + 2 * 0 ∧ j = 1) ∧ ¬ (q = 0 ∧ j = 6)) → σ' q j = σ q j := by
    intro q j hqj
    rw [hS, up2_n (by omega), up2_n (by omega), up2_n (by omega), up2_n (by omega), up2_n (by omega), up2_n (by omega), up2_n (by omega), up2_n (by omega), up2_n (by omega), up2_n (by omega)]
  have ro : ∀ i, (i ≠ 2 ∧ i ≠ 120 + 7 * np + 1 ∧ i ≠ 120 + 7 * np + 2 ∧ i ≠ 120 + 7 * np + 4 ∧ i ≠ 120 + 7 * np + 5 ∧ i ≠ 120 + 7 * np + 0 ∧ i ≠ 120 + 7 * np + 3 ∧ i ≠ 120 + 7 * np + 6 ∧ i ≠ 7) → r' i = r i := by
    intro i hi
    rw [hR, pk_un (by omega), pk_un (by omega), pk_un (by omega), pk_un (by omega), pk_un (by omega), pk_un (by omega), pk_un (by omega), pk_un (by omega), pk_un (by omega)]
  have v0 : σ' (50 + np) 0 = z := by
    rw [hS, up2_n (by omega), up2_n (by omega), up2_n (by omega), up2_n (by omega), up2_n (by omega), up2_n (by omega), up2_n (by omega), up2_n (by omega), up2_n (by omega), up2_s]
  have v1 : σ' (50 + np) 1 = s := by
    rw [hS, up2_n (by omega), up2_n (by omega), up2_n (by omega), up2_n (by omega), up2_n (by omega), up2_n (by omega), up2_n (by omega), up2_n (by omega), up2_s]
  have v2 : σ' (50 + np) 4 = 0 := by
    rw [hS, up2_n (by omega), up2_n (by omega), up2_n (by omega), up2_n (by omega), up2_n (by omega), up2_n (by omega), up2_n (by omega), up2_s]
  have v3 : σ' (50 + np) 3 = nI g := by
    rw [hS, up2_n (by omega), up2_n (by omega), up2_n (by omega), up2_n (by omega), up2_n (by omega), up2_n (by omega), up2_s]
  have v4 : σ' (50 + np) 2 = 1 := by
    rw [hS, up2_n (by omega), up2_n (by omega), up2_n (by omega), up2_n (by omega), up2_n (by omega), up2_s]
  have v5 : σ' (50 + np) 5 = σ 0 9 := by
    rw [hS, up2_n (by omega), up2_n (by omega), up2_n (by omega), up2_n (by omega), up2_s]
  have v6 : σ' (50 + np) 6 = 0 := by
    rw [hS, up2_n (by omega), up2_n (by omega), up2_n (by omega), up2_s]
  have v7 : σ' (11 + 5 * g + 2 * 0 + 1) k = nI np := by
    rw [hS, up2_n (by omega), up2_n (by omega), up2_s]
  have v8 : σ' (11 + 5 * g + 2 * 0) 1 = nI (k + 1) := by
    rw [hS, up2_n (by omega), up2_s]
  have v9 : σ' (0) 6 = nI (np + 1) := by
    rw [hS, up2_s]
  have w0 : r' (2) = nI (np + 1) := by
    rw [hR, pk_un (by omega), pk_un (by omega), pk_un (by omega), pk_un (by omega), pk_un (by omega), pk_un (by omega), pk_un (by omega), pk_un (by omega), pk_us]
  have w1 : r' (120 + 7 * np + 1) = z := by
    rw [hR, pk_un (by omega), pk_un (by omega), pk_un (by omega), pk_un (by omega), pk_un (by omega), pk_un (by omega), pk_un (by omega), pk_us]
  have w2 : r' (120 + 7 * np + 2) = s := by
    rw [hR, pk_un (by omega), pk_un (by omega), pk_un (by omega), pk_un (by omega), pk_un (by omega), pk_un (by omega), pk_us]
  have w3 : r' (120 + 7 * np + 4) = 0 := by
    rw [hR, pk_un (by omega), pk_un (by omega), pk_un (by omega), pk_un (by omega), pk_un (by omega), pk_us]
  have w4 : r' (120 + 7 * np + 5) = r 0 := by
    rw [hR, pk_un (by omega), pk_un (by omega), pk_un (by omega), pk_un (by omega), pk_us]
  have w5 : r' (120 + 7 * np + 0) = 1 := by
    rw [hR, pk_un (by omega), pk_un (by omega), pk_un (by omega), pk_us]
  have w6 : r' (120 + 7 * np + 3) = nI g := by
    rw [hR, pk_un (by omega), pk_un (by omega), pk_us]
  have w7 : r' (120 + 7 * np + 6) = r 7 := by
    rw [hR, pk_un (by omega), pk_us]
  have w8 : r' (7) = r 7 + 1 := by
    rw [hR, pk_us]
  rw [← hS, ← hR]
  obtain ⟨hC, hVG, hVP, hVX, hRQ, hRN, hRU⟩ := h
  have htime := hC.time
  obtain ⟨a, b, c, d, e, kk⟩ := hC
  obtain ⟨a1, a2, a3, a4, a5, ⟨t, t1, t2, t3⟩, ⟨m, m1, m2⟩, a8⟩ := a
  have m7 : r 7 < r 7 + 1 := by rw [m2, nI_1]; exact nI_lt (by omega) (by omega)
  have hin : inB σ' np = false := inB_1 v4
  refine ⟨⟨?_, fun g' f hg' hf => ?_, fun q f hq hf => ?_, fun x f hx hf => ?_, fun x f hx hf => ?_, ?_⟩, fun g' hg' => ?_, fun q hq => ?_, fun x hx => VX_keep (fun f _ => o _ _ (by omega)) (hVX x hx), ?_, fun q hq hw => ?_, ?_⟩
  · refine ⟨?_, ⟨v9, w0, by omega⟩, ?_, ?_, ?_, ⟨t, by omega, ?_, ?_⟩, ⟨m + 1, by omega, ?_⟩, hT⟩
    · rw [o _ _ (by omega), ro _ (by omega)]; exact a1
    · rw [o _ _ (by omega), ro _ (by omega)]; exact a3
    · rw [o _ _ (by omega), ro _ (by omega)]; exact a4
    · rw [o _ _ (by omega), ro _ (by omega)]; exact a5
    · rw [o _ _ (by omega)]; exact t2
    · rw [ro _ (by omega)]; exact t3
    · rw [w8, m2, nI_1]
  · have := gm_lt hf
    rw [o _ _ (by omega), ro _ (by omega)]; exact b g' f hg' hf
  · by_cases hqp : q = np
    · rw [hqp]
      rcases (show f = 0 ∨ f = 1 ∨ f = 2 ∨ f = 3 ∨ f = 4 ∨ f = 5 by omega) with rfl | rfl | rfl | rfl | rfl | rfl
      · exact v0.trans w1.symm
      · exact v1.trans w2.symm
      · exact v4.trans w5.symm
      · exact v3.trans w6.symm
      · exact v2.trans w3.symm
      · exact v5.trans (htime.symm.trans w4.symm)
    · have := pm_lt hf
      rw [o _ _ (by omega), ro _ (by omega)]; exact c q f (by omega) hf
  · rw [o _ _ (by omega), ro _ (by omega)]; exact d x f hx hf
  · have := lm_lt hf
    rw [o _ _ (by omega), ro _ (by omega)]; exact e x f hx hf
  · obtain ⟨n, l, h1, h2, h3, h4, h5, h6⟩ := kk
    exact ⟨n, l, h1, h2, by rw [o _ _ (by omega)]; exact h3, by rw [o _ _ (by omega)]; exact h4, by rw [ro _ (by omega)]; exact h5, fun k j hk hj => by
      rw [o _ _ (by omega), ro _ (by omega)]
      exact h6 k j hk hj⟩
  · obtain ⟨d', st, h1, h2, h3, h4, h5, h6⟩ := hVG g' hg'
    refine ⟨d', st, h1, by rw [o _ _ (by omega)]; exact h2, h3, by rw [o _ _ (by omega)]; exact h4, by rw [o _ _ (by omega)]; exact h5, ?_⟩
    rcases h6 with ⟨x, y⟩ | ⟨x, q, o', b1, b2, b3, b4, b5, b6, b7⟩
    · exact Or.inl ⟨x, by rw [o _ _ (by omega)]; exact y⟩
    · exact Or.inr ⟨x, q, o', by omega, b2, by rw [o _ _ (by omega)]; exact b3, by rw [o _ _ (by omega)]; exact b4, by rw [o _ _ (by omega)]; exact b5, by rw [o _ _ (by omega)]; exact b6, by rw [ro _ (by omega), o _ _ (by omega)]; exact b7⟩
  · by_cases hqp : q = np
    · rw [hqp]
      exact ⟨1, by decide, v4, ⟨by rw [v1]; exact hs, by rw [v6]; exact Or.inl rfl⟩, by rw [v0]; exact hz, fun _ => v6, fun h => by omega, fun _ => ⟨t, by omega, v5.trans t2⟩, fun h => by omega⟩
    · exact VP_mono (by omega) (VP_keep (fun f => o _ _ (by omega)) (hVP q (by omega)))
  · refine KQ_add (n := k) (e := 0) n1 (by omega) hkp (Nat.lt_succ_self np) hg (by decide) hk1 (by omega) (fun q hq hne hw => ?_) (fun q j h1 h2 h3 h4 h5 => ?_) v8 ?_ (fun q hq hne => ⟨o _ _ (by omega), o _ _ (by omega)⟩) v3 v4 (fun q hq hne => ro _ (by omega))
    · rw [w7]
      exact (hRN q (by omega) (Or.inl hw)).1
    · have h6 := h3 g
      exact o _ _ (by omega)
    · rw [show 12 + 5 * g + 2 * 0 = 11 + 5 * g + 2 * 0 + 1 by omega]
      exact v7
  · by_cases hqp : q = np
    · rw [hqp]
      exact ⟨by rw [w7, w8]; exact m7, g, by omega, w6, by rw [ro 1 (by omega), a1.2.1]; exact nI_lt hg (by omega)⟩
    · rw [o _ _ (by omega)] at hw
      obtain ⟨y1, y2⟩ := hRN q (by omega) hw
      refine ⟨by rw [ro _ (by omega), w8]; exact lt_tr y1 m7, ?_⟩
      rw [ro _ (by omega), ro 1 (by omega)]
      exact y2
  · obtain ⟨u1, u2, u3⟩ := hRU
    have hus : ∀ q x, q < np → usB σ' q x = usB σ q x := fun q x hq => by
      unfold usB
      rw [o _ _ (by omega), inB_keep (o _ _ (by omega))]
    have hx94 : ∀ x, σ' (94 + x) = σ (94 + x) := fun x => by
      funext j
      exact o _ _ (by omega)
    have hpl : ∀ q k, q < np → plB σ' q k = plB σ q k := fun q k hq => by
      unfold plB
      rw [o _ 0 (by omega), inB_keep (o _ _ (by omega)), hx94]
    have hus0 : ∀ x, usB σ' np x = false := fun x => by
      unfold usB
      rw [hin, Bool.and_false]
    have hpl0 : ∀ k, plB σ' np k = false := fun k => by
      unfold plB
      rw [hin, Bool.and_false, Bool.and_false]
    refine ⟨fun x hx => ?_, fun k' hk' => ?_, fun k' hk' => ?_⟩
    · rw [hx94]
      rcases u1 x hx with ⟨a, b⟩ | ⟨p, a, b, c, d⟩
      · refine Or.inl ⟨a, fun q hq => ?_⟩
        by_cases hqp : q = np
        · rw [hqp]; exact hus0 x
        · rw [hus q x (by omega)]; exact b q (by omega)
      · refine Or.inr ⟨p, by omega, b, by rw [hus p x a]; exact c, fun q hq hu => ?_⟩
        by_cases hqp : q = np
        · rw [hqp, hus0 x] at hu
          exact absurd hu (by decide)
        · exact d q (by omega) (by rw [← hus q x (by omega)]; exact hu)
    · rw [o _ _ (by omega), cnt_s, hpl0 k', if_neg (by decide), Int32.add_zero, u2 k' hk']
      congr 1
      exact cnt_congr (fun i hi => (hpl i k' hi).symm)
    · rw [o _ _ (by omega), u3 k' hk']
      congr 1
      exact cnt_congr (fun i hi => by rw [hx94])
end P245enter
section P246divert
variable {σ τ : Mm} {r : Nat → Int32} {T ng np nx nl g g' p e m : Nat} {μ ρ : Mm}
theorem VP_keep3 {σ' : Mm} (h' : ∀ f, f ≠ 3 → σ' (50 + p) f = σ (50 + p) f) (h : VP σ T nx p) : VP σ' T nx p := by
  unfold VP
  rw [h' 2 (by decide), h' 1 (by decide), h' 6 (by decide), h' 0 (by decide), h' 5 (by decide)]
  exact h
theorem up2_cong {a b q : Nat} {v : Int32} (h : τ q = σ q) : up2 τ a b v q = up2 σ a b v q := by
  funext j
  by_cases hq : q = a ∧ j = b
  · obtain ⟨rfl, rfl⟩ := hq
    rw [up2_s, up2_s]
  · rw [up2_n (by omega), up2_n (by omega), h]
theorem Rel.far (h : Rel σ r T ng np nx nl) (o : ∀ q, (q < 10 ∨ 50 ≤ q ∨ ∃ g', q = 10 + 5 * g') → τ q = σ q) (hQ : KQ τ r ng np) : Rel τ r T ng np nx nl := by
  obtain ⟨hC, hVG, hVP, hVX, hRQ, hRN, hRU⟩ := h
  obtain ⟨a, b, c, d, e, kk⟩ := hC
  refine ⟨⟨?_, fun g' f hg' hf => ?_, fun q f hq hf => ?_, fun x f hx hf => ?_, fun x f hx hf => ?_, ?_⟩, fun g' hg' => ?_, fun q hq => VP_keep (fun f => by rw [o _ (by omega)]) (hVP q hq), fun x hx => VX_keep (fun f _ => by rw [o _ (by omega)]) (hVX x hx), hQ, fun q hq hw => ?_, ?_⟩
  · unfold KC
    rw [o 0 (by omega)]
    exact a
  · rw [o _ (Or.inr (Or.inr ⟨g', rfl⟩))]; exact b g' f hg' hf
  · rw [o _ (by omega)]; exact c q f hq hf
  · rw [o _ (by omega)]; exact d x f hx hf
  · rw [o _ (by omega)]; exact e x f hx hf
  · obtain ⟨n, l, h1, h2, h3, h4, h5, h6⟩ := kk
    exact ⟨n, l, h1, h2, by rw [o _ (by omega)]; exact h3, by rw [o _ (by omega)]; exact h4, h5, fun k j hk hj => by
      rw [o _ (by omega)]
      exact h6 k j hk hj⟩
  · exact VG_keep (fun f => by rw [o _ (Or.inr (Or.inr ⟨g', rfl⟩))]) (fun q hq _ _ => by rw [o _ (by omega)]; exact ⟨rfl, rfl, rfl⟩) rfl (hVG g' hg')
  · rw [o _ (by omega)] at hw
    exact hRN q hq hw
  · exact KU_keep (fun q hq => by rw [o _ (by omega)]) (fun q hq => inB_keep (by rw [o _ (by omega)])) (fun x => o _ (by omega)) (fun k hk => by rw [o _ (by omega)]; exact ⟨rfl, rfl⟩) hRU
theorem KQ_end (h : KQ σ r ng np) (hng : ng ≤ 8) (he : e < 2) (h0 : σ (11 + 5 * g + 2 * e) 1 = nI 0) (t0 : τ (11 + 5 * g + 2 * e) 1 = nI 0) (o : ∀ q, q ≠ 11 + 5 * g + 2 * e → q ≠ 12 + 5 * g + 2 * e → τ q = σ q) (hg : g < 8) : KQ τ r ng np := by
  intro g0 e0 hg0 he0
  obtain ⟨n, a, b1, b2, b3, b4, b5⟩ := h g0 e0 hg0 he0
  have op : ∀ q, τ (50 + q) = σ (50 + q) := fun q => o _ (by omega) (by omega)
  by_cases hge : g0 = g ∧ e0 = e
  · obtain ⟨rfl, rfl⟩ := hge
    have hn : n = 0 := nI_inj (by omega) (by omega) (b2.symm.trans h0)
    subst hn
    exact ⟨0, a, b1, t0, fun i hi => absurd hi (Nat.not_lt_zero _), b4, fun q hq e3 e2 => by
      rw [op] at e3 e2
      exact b5 q hq e3 e2⟩
  · refine ⟨n, a, b1, by rw [o _ (by omega) (by omega)]; exact b2, fun i hi => ?_, b4, fun q hq e3 e2 => ?_⟩
    · rw [o _ (by omega) (by omega), op]
      exact b3 i hi
    · rw [op] at e3 e2
      exact b5 q hq e3 e2
set_option maxHeartbeats 4000000 in
theorem move0 (hC : Core σ r T ng np nx nl) (hVG : ∀ g', g' < ng → VG σ r np g') (hVP : ∀ q, q < np → VP σ T nx q) (hVX : ∀ x, x < nx → VX σ nl x) (hQ : KQp σ r ng np p) (hN : ∀ q, q < np → q ≠ p → (σ (50 + q) 2 = nI 1 ∨ σ (50 + q) 2 = nI 4) → NumOk r q) (hRU : KU σ np nx nl) (hp : p < np) (hg : g < ng) (he : e < 2) (e2 : σ (50 + p) 2 = nI (1 + 3 * e)) (hl : σ (11 + 5 * g + 2 * e) 1 = nI m) (hm : m < 40) (hT : T + 1 < 1073741824) : Rel (up2 (up2 (up2 σ (50 + p) 3 (nI g)) (11 + 5 * g + 2 * e + 1) m (nI p)) (11 + 5 * g + 2 * e) 1 (nI (m + 1))) (upd (upd (upd (upd r (120 + 7 * p + 0) (nI (1 + 3 * e))) (120 + 7 * p + 3) (nI g)) (120 + 7 * p + 6) (r 7)) (7) (r 7 + 1)) (T + 1) ng np nx nl := by
  obtain ⟨n1, n2, n3, n4⟩ := hC.n
  obtain ⟨σ', hS⟩ : ∃ σ' : Mm, σ' = (up2 (up2 (up2 σ (50 + p) 3 (nI g)) (11 + 5 * g + 2 * e + 1) m (nI p)) (11 + 5 * g + 2 * e) 1 (nI (m + 1))) := ⟨_, rfl⟩
  obtain ⟨r', hR⟩ : ∃ r' : Nat → Int32, r' = (upd (upd (upd (upd r (120 + 7 * p + 0) (nI (1 + 3 * e))) (120 + 7 * p + 3) (nI g)) (120 + 7 * p + 6) (r 7)) (7) (r 7 + 1)) := ⟨_, rfl⟩
  have o : ∀ q j, (¬ (q = 50 + p ∧ j = 3) ∧ ¬ (q = 11 + 5 * g + 2 * e + 1 ∧ j = m) ∧ ¬ (q = 11 + 5 * g + 2 * e ∧ j = 1)) → σ' q j = σ q j := by
    intro q j hqj
    rw [hS, up2_n (by omega), up2_n (by omega), up2_n (by omega)]
  have ro : ∀ i, (i ≠ 120 + 7 * p + 0 ∧ i ≠ 120 + 7 * p + 3 ∧ i ≠ 120 + 7 * p + 6 ∧ i ≠ 7) → r' i = r i := by
    intro i hi
    rw [hR, pk_un (by omega), pk_un (by omega), pk_un (by omega), pk_un (by omega)]
  have v0 : σ' (50 + p) 3 = nI g := by
    rw [hS, up2_n (by omega), up2_n (by omega), up2_s]
  have v1 : σ' (11 + 5 * g + 2 * e + 1) m = nI p := by
    rw [hS, up2_n (by omega), up2_s]
  have v2 : σ' (11 + 5 * g + 2 * e) 1 = nI (m + 1) := by
    rw [hS, up2_s]
  have w0 : r' (120 + 7 * p + 0) = nI (1 + 3 * e) := by
    rw [hR, pk_un (by omega), pk_un (by omega), pk_un (by omega), pk_us]
  have w1 : r' (120 + 7 * p + 3) = nI g := by
    rw [hR, pk_un (by omega), pk_un (by omega), pk_us]
  have w2 : r' (120 + 7 * p + 6) = r 7 := by
    rw [hR, pk_un (by omega), pk_us]
  have w3 : r' (7) = r 7 + 1 := by
    rw [hR, pk_us]
  rw [← hS, ← hR]
  obtain ⟨a, b, c, d, e', kk⟩ := hC
  obtain ⟨a1, a2, a3, a4, a5, ⟨t, t1, t2, t3⟩, ⟨k, m1, m2⟩, a8⟩ := a
  have m7 : r 7 < r 7 + 1 := by rw [m2, nI_1]; exact nI_lt (by omega) (by omega)
  refine ⟨⟨?_, fun g' f hg' hf => ?_, fun q f hq hf => ?_, fun x f hx hf => ?_, fun x f hx hf => ?_, ?_⟩, fun g' hg' => ?_, fun q hq => VP_mono (by omega) (VP_keep3 (fun f hf => o _ _ (by omega)) (hVP q hq)), fun x hx => VX_keep (fun f _ => o _ _ (by omega)) (hVX x hx), ?_, fun q hq hw => ?_, ?_⟩
  · refine ⟨?_, ?_, ?_, ?_, ?_, ⟨t, by omega, ?_, ?_⟩, ⟨k + 1, by omega, ?_⟩, hT⟩
    · rw [o _ _ (by omega), ro _ (by omega)]; exact a1
    · rw [o _ _ (by omega), ro _ (by omega)]; exact a2
    · rw [o _ _ (by omega), ro _ (by omega)]; exact a3
    · rw [o _ _ (by omega), ro _ (by omega)]; exact a4
    · rw [o _ _ (by omega), ro _ (by omega)]; exact a5
    · rw [o _ _ (by omega)]; exact t2
    · rw [ro _ (by omega)]; exact t3
    · rw [w3, m2, nI_1]
  · have := gm_lt hf
    rw [o _ _ (by omega), ro _ (by omega)]; exact b g' f hg' hf
  · by_cases hqp : q = p
    · rw [hqp]
      rcases (show f = 0 ∨ f = 1 ∨ f = 2 ∨ f = 3 ∨ f = 4 ∨ f = 5 by omega) with rfl | rfl | rfl | rfl | rfl | rfl
      · exact (o _ _ (by omega)).trans ((c p 0 hp (by decide)).trans (ro (120 + 7 * p + 1) (by omega)).symm)
      · exact (o _ _ (by omega)).trans ((c p 1 hp (by decide)).trans (ro (120 + 7 * p + 2) (by omega)).symm)
      · rw [o _ _ (by omega)]
        exact e2.trans w0.symm
      · exact v0.trans w1.symm
      · exact (o _ _ (by omega)).trans ((c p 4 hp (by decide)).trans (ro (120 + 7 * p + 4) (by omega)).symm)
      · exact (o _ _ (by omega)).trans ((c p 5 hp (by decide)).trans (ro (120 + 7 * p + 5) (by omega)).symm)
    · have := pm_lt hf
      rw [o _ _ (by omega), ro _ (by omega)]; exact c q f hq hf
  · rw [o _ _ (by omega), ro _ (by omega)]; exact d x f hx hf
  · have := lm_lt hf
    rw [o _ _ (by omega), ro _ (by omega)]; exact e' x f hx hf
  · obtain ⟨n, l, h1, h2, h3, h4, h5, h6⟩ := kk
    exact ⟨n, l, h1, h2, by rw [o _ _ (by omega)]; exact h3, by rw [o _ _ (by omega)]; exact h4, by rw [ro _ (by omega)]; exact h5, fun k j hk hj => by
      rw [o _ _ (by omega), ro _ (by omega)]
      exact h6 k j hk hj⟩
  · refine VG_keep2 (fun f _ => o _ _ (by omega)) (fun q hq _ h2 _ => ?_) (ro _ (by omega)) (hVG g' hg')
    have hqp : q ≠ p := fun e' => by
      rw [e', e2] at h2
      have := nI_inj (by omega) (by omega) h2
      omega
    exact ⟨o _ _ (by omega), o _ _ (by omega), o _ _ (by omega)⟩
  · refine KQ_add (n := m) (e := e) n1 n2 hQ hp hg he hl (by omega) (fun q hq hne hw => ?_) (fun q j h1 h2 h3 h4 h5 => ?_) v2 ?_ (fun q hq hne => ⟨o _ _ (by omega), o _ _ (by omega)⟩) v0 (by rw [o _ _ (by omega)]; exact e2) (fun q hq hne => ro _ (by omega))
    · rw [w2]
      refine (hN q hq hne ?_).1
      rcases (show e = 0 ∨ e = 1 by omega) with rfl | rfl
      · exact Or.inl hw
      · exact Or.inr hw
    · have h6 := h3 g
      exact o _ _ (by omega)
    · rw [show 12 + 5 * g + 2 * e = 11 + 5 * g + 2 * e + 1 by omega]
      exact v1
  · by_cases hqp : q = p
    · rw [hqp]
      exact ⟨by rw [w2, w3]; exact m7, g, by omega, w1, by rw [ro 1 (by omega), a1.2.1]; exact nI_lt hg (by omega)⟩
    · rw [o _ _ (by omega)] at hw
      obtain ⟨y1, y2⟩ := hN q hq hqp hw
      refine ⟨by rw [ro _ (by omega), w3]; exact lt_tr y1 m7, ?_⟩
      rw [ro _ (by omega), ro 1 (by omega)]
      exact y2
  · exact KU_keep (fun q hq => o _ _ (by omega)) (fun q hq => inB_keep (o _ _ (by omega))) (fun x => by
      funext j
      exact o _ _ (by omega)) (fun k hk => ⟨o _ _ (by omega), o _ _ (by omega)⟩) hRU
theorem move1 {j : Nat} {ea : Int32} (h : Rel σ r T ng np nx nl) (hT : T + 1 < 1073741824) (hg : g < ng) (hg' : g' < ng) (hne : g ≠ g') (he : e < 2) (hea : ea = nI e) (hl : σ (11 + 5 * g + 2 * e) 1 = nI (j + 1)) (hj : j + 1 ≤ 40) : ∃ p m, p < np ∧ m < 40 ∧ σ (12 + 5 * g + 2 * e) 0 = nI p ∧ σ (11 + 5 * g' + 2 * e) 1 = nI m ∧ fnd (fun p => qB r (nI g) ea p && decide (nI (cnt (aB r (nI g) ea p) np) = 0)) np 0 = nI p ∧ r (120 + 7 * p + 0) = nI (1 + 3 * e) ∧ Rel (up2 (up2 (up2 (cDrop (11 + 5 * g + 2 * e) j σ) (50 + p) 3 (nI g')) (11 + 5 * g' + 2 * e + 1) m (nI p)) (11 + 5 * g' + 2 * e) 1 (nI (m + 1))) (upd (upd (upd (upd r (120 + 7 * p + 0) (nI (1 + 3 * e))) (120 + 7 * p + 3) (nI g')) (120 + 7 * p + 6) (r 7)) (7) (r 7 + 1)) (T + 1) ng np nx nl := by
  obtain ⟨n1, n2, n3, n4⟩ := h.1.n
  obtain ⟨n, a, b1, b2, b3, b4, b5, b6, b7, b8⟩ := q_facts (g := g) (e := e) (ea := ea) h.1 he hea (h.2.2.2.2.1 g e hg he)
  have hn : n = j + 1 := nI_inj (by omega) (by omega) (b2.symm.trans hl)
  subst hn
  obtain ⟨d1, d2, d3, d4⟩ := b3 0 (by omega)
  obtain ⟨k1, k2, k3, k4, k5, k6, k7, k8⟩ := after_drop h hg he hj d2 hl d1 d3 d4
  obtain ⟨m, m1, m2⟩ := KQp_len (e := e) k5 d2 hg' he
  have hm : σ (11 + 5 * g' + 2 * e) 1 = nI m := by
    rw [cDrop_o (by omega) (by omega)] at m1
    exact m1
  exact ⟨a 0, m, d2, by omega, d1, hm, b7 0 0 rfl (by omega), (h.1.2.2.1 (a 0) 2 d2 (by decide)).symm.trans d4, move0 k1 k2 k3 k4 k5 k6 k7 d2 hg' he (by rw [cDrop_o (by omega) (by omega)]; exact d4) m1 (by omega) hT⟩
end P246divert
section P239start
variable {σ : Mm} {r : Nat → Int32} {T ng np nx nl g p : Nat} {μ ρ : Mm} {n : Nat}
def row0 : Nat → Int32 := fun j => if j = 6 then 10 else 0
theorem rel_0 : Rel (HB mu0 1) row0 (TB 0) 0 0 0 0 := by
  refine ⟨⟨?_, fun g f h => absurd h (Nat.not_lt_zero _), fun g f h => absurd h (Nat.not_lt_zero _), fun g f h => absurd h (Nat.not_lt_zero _), fun g f h => absurd h (Nat.not_lt_zero _), ?_⟩, fun g h => absurd h (Nat.not_lt_zero _), fun g h => absurd h (Nat.not_lt_zero _), fun g h => absurd h (Nat.not_lt_zero _), fun g e h => absurd h (Nat.not_lt_zero _), fun g h => absurd h (Nat.not_lt_zero _), ⟨fun g h => absurd h (Nat.not_lt_zero _), fun g h => absurd h (Nat.not_lt_zero _), fun g h => absurd h (Nat.not_lt_zero _)⟩⟩
  · exact ⟨⟨by decide, by decide, by decide⟩, ⟨by decide, by decide, by decide⟩, ⟨by decide, by decide, by decide⟩, ⟨by decide, by decide, by decide⟩, by decide, ⟨0, by decide, by decide, by decide⟩, ⟨0, by decide, by decide⟩, by decide⟩
  · exact ⟨0, 0, by decide, by decide, by decide, by decide, by decide, fun k j h => absurd h (Nat.not_lt_zero _)⟩
end P239start
