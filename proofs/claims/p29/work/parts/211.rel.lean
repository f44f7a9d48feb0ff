/-! the pointwise part of the relation -/
def gm (f : Nat) : Nat := if f < 7 then f else if f = 7 then 9 else if f = 8 then 8 else f + 1
def pm (f : Nat) : Nat := if f = 0 then 1 else if f = 1 then 2 else if f = 2 then 0 else f
def lm (f : Nat) : Nat := if f = 4 then 2 else f
theorem gm_lt {f : Nat} (h : f < 13) : gm f < 14 ∧ gm f ≠ 7 := by unfold gm; split; omega; split; omega; split <;> omega
theorem gm_ne {f k : Nat} (hf : f < 13) (hk : k < 13) (h : f ≠ k) : gm f ≠ gm k := (by decide : ∀ f, f < 13 → ∀ k, k < 13 → f ≠ k → gm f ≠ gm k) f hf k hk h
theorem pm_lt {f : Nat} (h : f < 6) : pm f < 6 := by unfold pm; split; omega; split; omega; split <;> omega
theorem pm_ne {f k : Nat} (hf : f < 6) (hk : k < 6) (h : f ≠ k) : pm f ≠ pm k := (by decide : ∀ f, f < 6 → ∀ k, k < 6 → f ≠ k → pm f ≠ pm k) f hf k hk h
def KC (σ : Mm) (r : Nat → Int32) (T ng np nx nl : Nat) : Prop := (σ 0 5 = nI ng ∧ r 1 = nI ng ∧ ng ≤ 8) ∧ (σ 0 6 = nI np ∧ r 2 = nI np ∧ np ≤ 40) ∧ (σ 0 8 = nI nx ∧ r 3 = nI nx ∧ nx ≤ 12) ∧ (σ 0 7 = nI nl ∧ r 4 = nI nl ∧ nl ≤ 4) ∧ σ 0 10 = r 6 ∧ (∃ t, t ≤ T ∧ σ 0 9 = nI t ∧ r 0 = nI t) ∧ (∃ m, m ≤ T ∧ r 7 = nI m) ∧ T < 1073741824
def KG (σ : Mm) (r : Nat → Int32) (ng : Nat) : Prop := ∀ g f, g < ng → f < 13 → σ (10 + 5 * g) (f + 2) = r (8 + 14 * g + gm f)
def KP (σ : Mm) (r : Nat → Int32) (np : Nat) : Prop := ∀ p f, p < np → f < 6 → σ (50 + p) f = r (120 + 7 * p + pm f)
def KX (σ : Mm) (r : Nat → Int32) (nx : Nat) : Prop := ∀ x f, x < nx → f < 2 → σ (94 + x) f = r (400 + 2 * x + f)
def KL (σ : Mm) (r : Nat → Int32) (nl : Nat) : Prop := ∀ x f, x < nl → (f < 2 ∨ f = 4) → σ (90 + x) f = r (424 + 3 * x + lm f)
def KE (σ : Mm) (r : Nat → Int32) : Prop := ∃ n l, n < 20 ∧ l ≤ 20 ∧ σ 5 5 = nI n ∧ σ 5 4 = nI l ∧ r 5 = nI l ∧ ∀ k j, k < l → j < 4 → σ (6 + j) ((n + 19 - k) % 20) = r (436 + 4 * k + j)
def Core (σ : Mm) (r : Nat → Int32) (T ng np nx nl : Nat) : Prop := KC σ r T ng np nx nl ∧ KG σ r ng ∧ KP σ r np ∧ KX σ r nx ∧ KL σ r nl ∧ KE σ r
/-- the events behind one more -/
def cAdd (t g p kd : Int32) (σ : Mm) : Mm := up2 (up2 (up2 (up2 (up2 (up2 σ 6 (σ 5 5).toNatClampNeg t) 7 (σ 5 5).toNatClampNeg g) 8 (σ 5 5).toNatClampNeg p) 9 (σ 5 5).toNatClampNeg kd) 5 5 (nI (((σ 5 5).toNatClampNeg + 1) % 20))) 5 4 (nI (min ((σ 5 4).toNatClampNeg + 1) 20))
def EvOk (σ : Mm) : Prop := ∃ n l, n < 20 ∧ l ≤ 20 ∧ σ 5 5 = nI n ∧ σ 5 4 = nI l
theorem cAdd_o {t g p kd : Int32} {σ : Mm} {q : Nat} (h : q < 5 ∨ 9 < q) : cAdd t g p kd σ q = σ q := by
  funext j
  unfold cAdd
  rw [up2_n (by omega), up2_n (by omega), up2_n (by omega), up2_n (by omega), up2_n (by omega), up2_n (by omega)]
theorem rTell_o {g p kd : Int32} {r : Nat → Int32} {i : Nat} (h5 : i ≠ 5) (h : i < 436 ∨ 516 ≤ i) : rTell g p kd r i = r i := by
  unfold rTell
  rw [if_neg (by omega), if_neg (by omega), if_neg (by omega), if_neg (by omega), if_neg (by omega), if_neg h5]
theorem EvOk_up {σ : Mm} {q j : Nat} {v : Int32} (hq : q ≠ 5) (h : EvOk σ) : EvOk (up2 σ q j v) := by
  obtain ⟨n, l, h1, h2, h3, h4⟩ := h
  exact ⟨n, l, h1, h2, by rw [up2_n (Or.inl (Ne.symm hq))]; exact h3, by rw [up2_n (Or.inl (Ne.symm hq))]; exact h4⟩
section CORE
variable {σ : Mm} {r : Nat → Int32} {T ng np nx nl : Nat}
theorem Core.ev (h : Core σ r T ng np nx nl) : EvOk σ := by
  obtain ⟨n, l, h1, h2, h3, h4, -⟩ := h.2.2.2.2.2
  exact ⟨n, l, h1, h2, h3, h4⟩
theorem KE_add {t : Int32} {g p kd : Int32} (h : KE σ r) (ht : r 0 = t) : KE (cAdd t g p kd σ) (rTell g p kd r) := by
  obtain ⟨n, l, h1, h2, h3, h4, h5, h6⟩ := h
  have en : (σ 5 5).toNatClampNeg = n := by rw [h3]; exact nI_clamp (by omega)
  have el : (σ 5 4).toNatClampNeg = l := by rw [h4]; exact nI_clamp (by omega)
  refine ⟨(n + 1) % 20, min (l + 1) 20, Nat.mod_lt _ (by decide), Nat.min_le_right _ _, ?_, ?_, ?_, fun k j hk hj => ?_⟩
  · unfold cAdd; rw [en, up2_n (Or.inr (by decide)), up2_s]
  · unfold cAdd; rw [el, up2_s]
  · unfold rTell
    rw [if_neg (by decide), if_neg (by decide), if_neg (by decide), if_neg (by decide), if_neg (by omega), if_pos rfl, h5]
    by_cases hl : l = 20
    · subst hl
      decide
    · have hng : ¬ (20 : Int32) ≤ nI l := nI_ge (b := 20) (by omega) (by omega)
      rw [if_neg hng, show min (l + 1) 20 = l + 1 by omega]
      exact nI_1 l
  · have hq : (((n + 1) % 20 + 19 - k) % 20 = n ∧ k = 0) ∨ (((n + 1) % 20 + 19 - k) % 20 ≠ n ∧ 0 < k ∧ ((n + 1) % 20 + 19 - k) % 20 = (n + 19 - (k - 1)) % 20) := by omega
    have hcell : ∀ i, cAdd t g p kd σ (6 + j) i = if i = n then (if j = 0 then t else if j = 1 then g else if j = 2 then p else kd) else σ (6 + j) i := by
      intro i
      unfold cAdd
      rw [en, up2_n (Or.inl (by omega)), up2_n (Or.inl (by omega))]
      rcases (show j = 0 ∨ j = 1 ∨ j = 2 ∨ j = 3 by omega) with rfl | rfl | rfl | rfl <;> simp [up2, upd]
    rw [hcell]
    rcases hq with ⟨e, rfl⟩ | ⟨e, hk0, e2⟩
    · rw [if_pos e]
      unfold rTell
      rcases (show j = 0 ∨ j = 1 ∨ j = 2 ∨ j = 3 by omega) with rfl | rfl | rfl | rfl <;> simp [ht]
    · rw [if_neg e, e2, h6 (k - 1) j (by omega) hj]
      unfold rTell
      rw [if_neg (by omega), if_neg (by omega), if_neg (by omega), if_neg (by omega), if_pos (by omega)]
      congr 1
      omega

theorem KC_c {q j : Nat} {v : Int32} (hq : q ≠ 0) (h : KC σ r T ng np nx nl) : KC (up2 σ q j v) r T ng np nx nl := by
  have e : ∀ k, up2 σ q j v 0 k = σ 0 k := fun k => up2_n (Or.inl (Ne.symm hq))
  unfold KC
  rw [e, e, e, e, e, e]
  exact h
theorem KC_r {i : Nat} {v : Int32} (hi : 8 ≤ i ∨ i = 5) (h : KC σ r T ng np nx nl) : KC σ (upd r i v) T ng np nx nl := by
  unfold KC
  rw [pk_un (show 1 ≠ i by omega), pk_un (show 2 ≠ i by omega), pk_un (show 3 ≠ i by omega), pk_un (show 4 ≠ i by omega), pk_un (show 6 ≠ i by omega), pk_un (show 0 ≠ i by omega), pk_un (show 7 ≠ i by omega)]
  exact h
theorem KG_c {q j : Nat} {v : Int32} (hq : ∀ g, g < ng → 10 + 5 * g ≠ q) (h : KG σ r ng) : KG (up2 σ q j v) r ng := fun g f hg hf => by
  rw [up2_n (Or.inl (hq g hg))]; exact h g f hg hf
theorem KG_r {i : Nat} {v : Int32} (hi : i < 8 ∨ 120 ≤ i ∨ ∃ g, i = 8 + 14 * g + 7) (hn : ng ≤ 8) (h : KG σ r ng) : KG σ (upd r i v) ng := fun g f hg hf => by
  have := gm_lt hf
  rw [pk_un (by rcases hi with hi | hi | ⟨g', hi⟩ <;> omega)]; exact h g f hg hf
theorem KP_c {q j : Nat} {v : Int32} (hq : (q < 50 ∨ 90 ≤ q) ∨ 6 ≤ j) (hn : np ≤ 40) (h : KP σ r np) : KP (up2 σ q j v) r np := fun p f hp hf => by
  rw [up2_n (by omega)]; exact h p f hp hf
theorem KP_r {i : Nat} {v : Int32} (hi : i < 120 ∨ 400 ≤ i ∨ ∃ p, i = 120 + 7 * p + 6) (hn : np ≤ 40) (h : KP σ r np) : KP σ (upd r i v) np := fun p f hp hf => by
  have := pm_lt hf
  rw [pk_un (by rcases hi with hi | hi | ⟨g', hi⟩ <;> omega)]; exact h p f hp hf
theorem KX_c {q j : Nat} {v : Int32} (hq : (q < 94 ∨ 106 ≤ q) ∨ 2 ≤ j) (hn : nx ≤ 12) (h : KX σ r nx) : KX (up2 σ q j v) r nx := fun p f hp hf => by
  rw [up2_n (by omega)]; exact h p f hp hf
theorem KX_r {i : Nat} {v : Int32} (hi : i < 400 ∨ 424 ≤ i) (hn : nx ≤ 12) (h : KX σ r nx) : KX σ (upd r i v) nx := fun p f hp hf => by
  rw [pk_un (by omega)]; exact h p f hp hf
theorem KL_c {q j : Nat} {v : Int32} (hq : (q < 90 ∨ 94 ≤ q) ∨ j = 2 ∨ j = 3) (hn : nl ≤ 4) (h : KL σ r nl) : KL (up2 σ q j v) r nl := fun p f hp hf => by
  rw [up2_n (by omega)]; exact h p f hp hf
theorem lm_lt {f : Nat} (h : f < 2 ∨ f = 4) : lm f < 3 := by unfold lm; split <;> omega
theorem KL_r {i : Nat} {v : Int32} (hi : i < 424 ∨ 436 ≤ i) (hn : nl ≤ 4) (h : KL σ r nl) : KL σ (upd r i v) nl := fun p f hp hf => by
  have := lm_lt hf
  rw [pk_un (by omega)]; exact h p f hp hf
theorem KE_c {q j : Nat} {v : Int32} (hq : q < 5 ∨ 10 ≤ q) (h : KE σ r) : KE (up2 σ q j v) r := by
  obtain ⟨n, l, h1, h2, h3, h4, h5, h6⟩ := h
  exact ⟨n, l, h1, h2, by rw [up2_n (Or.inl (by omega))]; exact h3, by rw [up2_n (Or.inl (by omega))]; exact h4, h5, fun k j hk hj => by rw [up2_n (Or.inl (by omega))]; exact h6 k j hk hj⟩
theorem KE_r {i : Nat} {v : Int32} (hi : i ≠ 5 ∧ (i < 436 ∨ 516 ≤ i)) (h : KE σ r) : KE σ (upd r i v) := by
  obtain ⟨n, l, h1, h2, h3, h4, h5, h6⟩ := h
  exact ⟨n, l, h1, h2, h3, h4, by rw [pk_un (Ne.symm hi.1)]; exact h5, fun k j hk hj => by rw [pk_un (by omega)]; exact h6 k j hk hj⟩
/-- a gate's number, on both sides -/
theorem Core.gate {g f : Nat} {v : Int32} (h : Core σ r T ng np nx nl) (hg : g < 8) (hf : f < 13) : Core (up2 σ (10 + 5 * g) (f + 2) v) (upd r (8 + 14 * g + gm f) v) T ng np nx nl := by
  obtain ⟨a, b, c, d, e, k⟩ := h
  have hl := gm_lt hf
  refine ⟨KC_r (by omega) (KC_c (by omega) a), fun g' f' hg' hf' => ?_, KP_r (by omega) a.2.1.2.2 (KP_c (by omega) a.2.1.2.2 c), KX_r (by omega) a.2.2.1.2.2 (KX_c (by omega) a.2.2.1.2.2 d), KL_r (by omega) a.2.2.2.1.2.2 (KL_c (by omega) a.2.2.2.1.2.2 e), KE_r (by omega) (KE_c (by omega) k)⟩
  have hl' := gm_lt hf'
  have hn := a.1.2.2
  by_cases hgg : g' = g
  · subst hgg
    by_cases hff : f' = f
    · subst hff
      rw [up2_s, pk_us]
    · have := gm_ne hf' hf hff
      rw [up2_n (by omega), pk_un (by omega)]
      exact b g' f' hg' hf'
  · rw [up2_n (by omega), pk_un (by omega)]
    exact b g' f' hg' hf'
theorem Core.person {p f : Nat} {v : Int32} (h : Core σ r T ng np nx nl) (hp : p < 40) (hf : f < 6) : Core (up2 σ (50 + p) f v) (upd r (120 + 7 * p + pm f) v) T ng np nx nl := by
  obtain ⟨a, b, c, d, e, k⟩ := h
  have hl := pm_lt hf
  refine ⟨KC_r (by omega) (KC_c (by omega) a), KG_r (by omega) a.1.2.2 (KG_c (fun g hg => by have := a.1.2.2; omega) b), fun p' f' hp' hf' => ?_, KX_r (by omega) a.2.2.1.2.2 (KX_c (by omega) a.2.2.1.2.2 d), KL_r (by omega) a.2.2.2.1.2.2 (KL_c (by omega) a.2.2.2.1.2.2 e), KE_r (by omega) (KE_c (by omega) k)⟩
  have hl' := pm_lt hf'
  have hn := a.2.1.2.2
  by_cases hgg : p' = p
  · subst hgg
    by_cases hff : f' = f
    · subst hff
      rw [up2_s, pk_us]
    · have := pm_ne hf' hf hff
      rw [up2_n (by omega), pk_un (by omega)]
      exact c p' f' hp' hf'
  · rw [up2_n (by omega), pk_un (by omega)]
    exact c p' f' hp' hf'
theorem Core.pass {x f : Nat} {v : Int32} (h : Core σ r T ng np nx nl) (hx : x < 12) (hf : f < 2) : Core (up2 σ (94 + x) f v) (upd r (400 + 2 * x + f) v) T ng np nx nl := by
  obtain ⟨a, b, c, d, e, k⟩ := h
  refine ⟨KC_r (by omega) (KC_c (by omega) a), KG_r (by omega) a.1.2.2 (KG_c (fun g hg => by have := a.1.2.2; omega) b), KP_r (by omega) a.2.1.2.2 (KP_c (by omega) a.2.1.2.2 c), fun p' f' hp' hf' => ?_, KL_r (by omega) a.2.2.2.1.2.2 (KL_c (by omega) a.2.2.2.1.2.2 e), KE_r (by omega) (KE_c (by omega) k)⟩
  by_cases hgg : p' = x ∧ f' = f
  · obtain ⟨rfl, rfl⟩ := hgg
    rw [up2_s, pk_us]
  · rw [up2_n (by omega), pk_un (by omega)]
    exact d p' f' hp' hf'
theorem Core.pool {x f : Nat} {v : Int32} (h : Core σ r T ng np nx nl) (hx : x < 4) (hf : f < 2 ∨ f = 4) : Core (up2 σ (90 + x) f v) (upd r (424 + 3 * x + lm f) v) T ng np nx nl := by
  obtain ⟨a, b, c, d, e, k⟩ := h
  have hl := lm_lt hf
  refine ⟨KC_r (by omega) (KC_c (by omega) a), KG_r (by omega) a.1.2.2 (KG_c (fun g hg => by have := a.1.2.2; omega) b), KP_r (by omega) a.2.1.2.2 (KP_c (by omega) a.2.1.2.2 c), KX_r (by omega) a.2.2.1.2.2 (KX_c (by omega) a.2.2.1.2.2 d), fun p' f' hp' hf' => ?_, KE_r (by omega) (KE_c (by omega) k)⟩
  have hl' := lm_lt hf'
  by_cases hgg : p' = x
  · subst hgg
    by_cases hff : f' = f
    · subst hff
      rw [up2_s, pk_us]
    · have : lm f' ≠ lm f := by unfold lm; split <;> split <;> omega
      rw [up2_n (by omega), pk_un (by omega)]
      exact e p' f' hp' hf'
  · rw [up2_n (by omega), pk_un (by omega)]
    exact e p' f' hp' hf'
/-- what the class alone holds: queues, wantsOut, inside and passes of a pool, a pass's user -/
theorem Core.own {q j : Nat} {v : Int32} (h : Core σ r T ng np nx nl) (hq : (10 ≤ q ∧ q < 50 ∧ ∀ g, 10 + 5 * g ≠ q) ∨ (50 ≤ q ∧ q < 90 ∧ 6 ≤ j) ∨ (90 ≤ q ∧ q < 94 ∧ (j = 2 ∨ j = 3)) ∨ (94 ≤ q ∧ q < 106 ∧ 2 ≤ j)) : Core (up2 σ q j v) r T ng np nx nl := by
  obtain ⟨a, b, c, d, e, k⟩ := h
  refine ⟨KC_c (by omega) a, KG_c (fun g hg => by have := a.1.2.2; rcases hq with ⟨_, _, hq⟩ | hq; exact hq g; omega) b, KP_c (by omega) a.2.1.2.2 c, KX_c (by omega) a.2.2.1.2.2 d, KL_c (by omega) a.2.2.2.1.2.2 e, KE_c (by omega) k⟩
/-- what the reference alone holds: IS_IN, NUMBER -/
theorem Core.ref {i : Nat} {v : Int32} (h : Core σ r T ng np nx nl) (hi : (∃ g, g < 8 ∧ i = 8 + 14 * g + 7) ∨ (∃ p, p < 40 ∧ i = 120 + 7 * p + 6)) : Core σ (upd r i v) T ng np nx nl := by
  obtain ⟨a, b, c, d, e, k⟩ := h
  rcases hi with ⟨g, hg, hi⟩ | ⟨p, hp, hi⟩
  · exact ⟨KC_r (by omega) a, KG_r (Or.inr (Or.inr ⟨g, hi⟩)) a.1.2.2 b, KP_r (by omega) a.2.1.2.2 c, KX_r (by omega) a.2.2.1.2.2 d, KL_r (by omega) a.2.2.2.1.2.2 e, KE_r (by omega) k⟩
  · exact ⟨KC_r (by omega) a, KG_r (by omega) a.1.2.2 b, KP_r (Or.inr (Or.inr ⟨p, hi⟩)) a.2.1.2.2 c, KX_r (by omega) a.2.2.1.2.2 d, KL_r (by omega) a.2.2.2.1.2.2 e, KE_r (by omega) k⟩
/-- an event, on both sides -/
theorem Core.add {t g p kd : Int32} (h : Core σ r T ng np nx nl) (ht : r 0 = t) : Core (cAdd t g p kd σ) (rTell g p kd r) T ng np nx nl := by
  obtain ⟨a, b, c, d, e, k⟩ := h
  refine ⟨?_, fun g' f' hg' hf' => ?_, fun p' f' hp' hf' => ?_, fun p' f' hp' hf' => ?_, fun p' f' hp' hf' => ?_, KE_add k ht⟩
  · unfold KC
    rw [cAdd_o (by omega), rTell_o (by omega) (by omega), rTell_o (by omega) (by omega), rTell_o (by omega) (by omega), rTell_o (by omega) (by omega), rTell_o (by omega) (by omega), rTell_o (by omega) (by omega), rTell_o (by omega) (by omega)]
    exact a
  · have := gm_lt hf'
    have := a.1.2.2
    rw [cAdd_o (by omega), rTell_o (by omega) (by omega)]
    exact b g' f' hg' hf'
  · have := pm_lt hf'
    have := a.2.1.2.2
    rw [cAdd_o (by omega), rTell_o (by omega) (by omega)]
    exact c p' f' hp' hf'
  · have := a.2.2.1.2.2
    rw [cAdd_o (by omega), rTell_o (by omega) (by omega)]
    exact d p' f' hp' hf'
  · have := a.2.2.2.1.2.2
    have := lm_lt hf'
    rw [cAdd_o (by omega), rTell_o (by omega) (by omega)]
    exact e p' f' hp' hf'
theorem upd_comm {f : Nat → Int32} {i j : Nat} {v w : Int32} (h : i ≠ j) : upd (upd f i v) j w = upd (upd f j w) i v := by
  funext k
  unfold upd
  by_cases h1 : k = j
  · subst h1
    rw [if_pos rfl, if_neg (Ne.symm h), if_pos rfl]
  · rw [if_neg h1, if_neg h1]
end CORE
