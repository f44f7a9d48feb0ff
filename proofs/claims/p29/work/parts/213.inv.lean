/-! what else holds of a State's block and the row: the gates, the people, the queues, who uses what -/
def VG (σ : Mm) (r : Nat → Int32) (np g : Nat) : Prop := ∃ d st, d ≤ 2 ∧ σ (10 + 5 * g) 2 = nI d ∧ st ≤ 5 ∧ σ (10 + 5 * g) 6 = nI st ∧ isB (σ (10 + 5 * g) 9) ∧ (((st = 0 ∨ st = 5) ∧ σ (10 + 5 * g) 8 = -5) ∨ ((1 ≤ st ∧ st ≤ 4) ∧ ∃ p o, p < np ∧ o ≤ 2 ∧ σ (10 + 5 * g) 8 = nI p ∧ σ (10 + 5 * g) 10 = nI o ∧ σ (50 + p) 2 = nI 2 ∧ σ (50 + p) 3 = nI g ∧ ((r (8 + 14 * g + 7) = 1 ∧ σ (50 + p) 6 = 0) ∨ (r (8 + 14 * g + 7) = 0 ∧ σ (50 + p) 6 = 1))))
def VP (σ : Mm) (T nx p : Nat) : Prop := ∃ w, w ≤ 5 ∧ σ (50 + p) 2 = nI w ∧ (isB (σ (50 + p) 1) ∧ isB (σ (50 + p) 6)) ∧ (σ (50 + p) 0 = -5 ∨ ∃ x, x < nx ∧ σ (50 + p) 0 = nI x) ∧ (w = 1 → σ (50 + p) 6 = 0) ∧ (w = 4 → σ (50 + p) 6 = 1) ∧ ((w = 1 ∨ w = 4) → ∃ s, s ≤ T ∧ σ (50 + p) 5 = nI s) ∧ ((w = 2 ∨ w = 3 ∨ w = 4) → ∃ x, x < nx ∧ σ (50 + p) 0 = nI x)
def VX (σ : Mm) (nl x : Nat) : Prop := ∃ k, k < nl ∧ σ (94 + x) 0 = nI k ∧ isB (σ (94 + x) 1)
def QOk (σ : Mm) (r : Nat → Int32) (np g e : Nat) : Prop := ∃ (n : Nat) (a : Nat → Nat), n ≤ 40 ∧ σ (11 + 5 * g + 2 * e) 1 = nI n ∧ (∀ i, i < n → σ (12 + 5 * g + 2 * e) i = nI (a i) ∧ a i < np ∧ σ (50 + a i) 3 = nI g ∧ σ (50 + a i) 2 = nI (1 + 3 * e)) ∧ (∀ i j, i < j → j < n → r (120 + 7 * a i + 6) < r (120 + 7 * a j + 6)) ∧ (∀ p, p < np → σ (50 + p) 3 = nI g → σ (50 + p) 2 = nI (1 + 3 * e) → ∃ i, i < n ∧ a i = p)
def KQ (σ : Mm) (r : Nat → Int32) (ng np : Nat) : Prop := ∀ g e, g < ng → e < 2 → QOk σ r np g e
/-- a number given, at a gate that there is -/
def NumOk (r : Nat → Int32) (p : Nat) : Prop := r (120 + 7 * p + 6) < r 7 ∧ ∃ g, g < 8 ∧ r (120 + 7 * p + 3) = nI g ∧ nI g < r 1
theorem NumOk_keep {r r' : Nat → Int32} {p : Nat} (e6 : r' (120 + 7 * p + 6) = r (120 + 7 * p + 6)) (e7 : r' 7 = r 7) (e3 : r' (120 + 7 * p + 3) = r (120 + 7 * p + 3)) (e1 : r' 1 = r 1) (h : NumOk r p) : NumOk r' p := by
  unfold NumOk
  rw [e6, e7, e3, e1]
  exact h
def KN (σ : Mm) (r : Nat → Int32) (np : Nat) : Prop := ∀ p, p < np → (σ (50 + p) 2 = nI 1 ∨ σ (50 + p) 2 = nI 4) → NumOk r p
/-- who is inside by a pass, or in a gate -/
def inB (σ : Mm) (p : Nat) : Bool := decide (σ (50 + p) 2 = nI 2 ∨ σ (50 + p) 2 = nI 3 ∨ σ (50 + p) 2 = nI 4)
def usB (σ : Mm) (p x : Nat) : Bool := decide (σ (50 + p) 0 = nI x) && inB σ p
def plB (σ : Mm) (p k : Nat) : Bool := decide (¬ σ (50 + p) 0 < 0) && (decide (σ (94 + (σ (50 + p) 0).toNatClampNeg) 0 = nI k) && inB σ p)
def KU (σ : Mm) (np nx nl : Nat) : Prop := (∀ x, x < nx → (σ (94 + x) 2 = -5 ∧ ∀ p, p < np → usB σ p x = false) ∨ (∃ p, p < np ∧ σ (94 + x) 2 = nI p ∧ usB σ p x = true ∧ ∀ q, q < np → usB σ q x = true → q = p)) ∧ (∀ k, k < nl → σ (90 + k) 2 = nI (cnt (fun p => plB σ p k) np)) ∧ (∀ k, k < nl → σ (90 + k) 3 = nI (cnt (fun x => decide (σ (94 + x) 0 = nI k)) nx))
/-- all, but for gate G -/
def RelX (σ : Mm) (r : Nat → Int32) (T ng np nx nl : Nat) (G : Nat) : Prop := Core σ r T ng np nx nl ∧ (∀ g, g < ng → g ≠ G → VG σ r np g) ∧ (∀ p, p < np → VP σ T nx p) ∧ (∀ x, x < nx → VX σ nl x) ∧ KQ σ r ng np ∧ KN σ r np ∧ KU σ np nx nl
def Rel (σ : Mm) (r : Nat → Int32) (T ng np nx nl : Nat) : Prop := Core σ r T ng np nx nl ∧ (∀ g, g < ng → VG σ r np g) ∧ (∀ p, p < np → VP σ T nx p) ∧ (∀ x, x < nx → VX σ nl x) ∧ KQ σ r ng np ∧ KN σ r np ∧ KU σ np nx nl
theorem Rel.x {σ : Mm} {r : Nat → Int32} {T ng np nx nl : Nat} (h : Rel σ r T ng np nx nl) (G : Nat) : RelX σ r T ng np nx nl G := ⟨h.1, fun g hg _ => h.2.1 g hg, h.2.2⟩
theorem RelX.all {σ : Mm} {r : Nat → Int32} {T ng np nx nl G : Nat} (h : RelX σ r T ng np nx nl G) (hG : VG σ r np G) : Rel σ r T ng np nx nl := ⟨h.1, fun g hg => by
  by_cases e : g = G
  · rw [e]; exact hG
  · exact h.2.1 g hg e, h.2.2⟩
theorem nI_inj {a b : Nat} (ha : a < 2147483648) (hb : b < 2147483648) (h : nI a = nI b) : a = b := (nI_eq (by omega) (by omega)).mp h
/-- the queues stay, if one person changes who stands in none -/
theorem KQ_keep {σ σ' : Mm} {r r' : Nat → Int32} {ng np p : Nat} (hq : ∀ q, 11 ≤ q → q < 50 → (∀ g, 10 + 5 * g ≠ q) → σ' q = σ q) (hn : ng ≤ 8) (hp : ∀ q, q < np → q ≠ p → σ' (50 + q) 2 = σ (50 + q) 2 ∧ σ' (50 + q) 3 = σ (50 + q) 3) (h1 : ∀ e, e < 2 → σ (50 + p) 2 ≠ nI (1 + 3 * e) ∧ σ' (50 + p) 2 ≠ nI (1 + 3 * e)) (hr : ∀ q, q < np → r' (120 + 7 * q + 6) = r (120 + 7 * q + 6)) (h : KQ σ r ng np) : KQ σ' r' ng np := by
  intro g e hg he
  obtain ⟨n, a, hn40, hlen, hel, hord, hall⟩ := h g e hg he
  have hne : ∀ i, i < n → a i ≠ p := fun i hi q => (h1 e he).1 (by rw [← q]; exact (hel i hi).2.2.2)
  refine ⟨n, a, hn40, ?_, fun i hi => ?_, fun i j hij hj => ?_, fun q hqp e3 e2 => ?_⟩
  · rw [hq _ (by omega) (by omega) (fun g' => by omega)]; exact hlen
  · obtain ⟨b1, b2, b3, b4⟩ := hel i hi
    have := hp (a i) b2 (hne i hi)
    rw [hq _ (by omega) (by omega) (fun g' => by omega), this.1, this.2]
    exact ⟨b1, b2, b3, b4⟩
  · rw [hr _ (hel i (by omega)).2.1, hr _ (hel j hj).2.1]; exact hord i j hij hj
  · by_cases hqe : q = p
    · subst hqe; exact absurd e2 (h1 e he).2
    · have := hp q hqp hqe
      exact hall q hqp (by rw [← this.2]; exact e3) (by rw [← this.1]; exact e2)
theorem KN_keep {σ σ' : Mm} {r r' : Nat → Int32} {np p : Nat} (hp : ∀ q, q < np → q ≠ p → σ' (50 + q) 2 = σ (50 + q) 2) (h1 : σ' (50 + p) 2 ≠ nI 1 ∧ σ' (50 + p) 2 ≠ nI 4) (hr : ∀ q, q < np → r' (120 + 7 * q + 6) = r (120 + 7 * q + 6)) (h7 : r' 7 = r 7) (hr3 : ∀ q, q < np → q ≠ p → r' (120 + 7 * q + 3) = r (120 + 7 * q + 3)) (h1' : r' 1 = r 1) (h : KN σ r np) : KN σ' r' np := by
  intro q hq hw
  by_cases hqe : q = p
  · subst hqe; rcases hw with hw | hw; exact absurd hw h1.1; exact absurd hw h1.2
  · rw [hp q hq hqe] at hw
    exact NumOk_keep (hr q hq) h7 (hr3 q hq hqe) h1' (h q hq hw)
theorem KU_keep {σ σ' : Mm} {np nx nl : Nat} (hpass : ∀ q, q < np → σ' (50 + q) 0 = σ (50 + q) 0) (hin : ∀ q, q < np → inB σ' q = inB σ q) (hx : ∀ x, σ' (94 + x) = σ (94 + x)) (hl : ∀ k, k < nl → σ' (90 + k) 2 = σ (90 + k) 2 ∧ σ' (90 + k) 3 = σ (90 + k) 3) (h : KU σ np nx nl) : KU σ' np nx nl := by
  have hus : ∀ q x, q < np → usB σ' q x = usB σ q x := fun q x hq => by unfold usB; rw [hpass q hq, hin q hq]
  have hpl : ∀ q k, q < np → plB σ' q k = plB σ q k := fun q k hq => by unfold plB; rw [hpass q hq, hin q hq, hx]
  refine ⟨fun x hxn => ?_, fun k hk => ?_, fun k hk => ?_⟩
  · rw [hx]
    rcases h.1 x hxn with ⟨a, b⟩ | ⟨p, a, b, c, d⟩
    · exact Or.inl ⟨a, fun p hp => by rw [hus p x hp]; exact b p hp⟩
    · exact Or.inr ⟨p, a, b, by rw [hus p x a]; exact c, fun q hq hu => d q hq (by rw [← hus q x hq]; exact hu)⟩
  · rw [(hl k hk).1, h.2.1 k hk]
    congr 1
    exact cnt_congr (fun i hi => (hpl i k hi).symm)
  · rw [(hl k hk).2, h.2.2 k hk]
    congr 1
    exact cnt_congr (fun i hi => by rw [hx])
theorem VG_keep {σ σ' : Mm} {r r' : Nat → Int32} {np g : Nat} (hgate : ∀ f, σ' (10 + 5 * g) f = σ (10 + 5 * g) f) (hp : ∀ q, q < np → σ (10 + 5 * g) 8 = nI q → σ (50 + q) 3 = nI g → σ' (50 + q) 2 = σ (50 + q) 2 ∧ σ' (50 + q) 3 = σ (50 + q) 3 ∧ σ' (50 + q) 6 = σ (50 + q) 6) (hr : r' (8 + 14 * g + 7) = r (8 + 14 * g + 7)) (h : VG σ r np g) : VG σ' r' np g := by
  obtain ⟨d, st, h1, h2, h3, h4, h5, h6⟩ := h
  refine ⟨d, st, h1, by rw [hgate]; exact h2, h3, by rw [hgate]; exact h4, by rw [hgate]; exact h5, ?_⟩
  rcases h6 with ⟨a, b⟩ | ⟨a, q, o, b1, b2, b3, b4, b5, b6, b7⟩
  · exact Or.inl ⟨a, by rw [hgate]; exact b⟩
  · obtain ⟨c1, c2, c3⟩ := hp q b1 b3 b6
    exact Or.inr ⟨a, q, o, b1, b2, by rw [hgate]; exact b3, by rw [hgate]; exact b4, by rw [c1]; exact b5, by rw [c2]; exact b6, by rw [hr, c3]; exact b7⟩
theorem VP_keep {σ σ' : Mm} {T nx p : Nat} (h' : ∀ f, σ' (50 + p) f = σ (50 + p) f) (h : VP σ T nx p) : VP σ' T nx p := by
  unfold VP
  rw [h', h', h', h', h']
  exact h
theorem VX_keep {σ σ' : Mm} {nl x : Nat} (h' : ∀ f, f < 2 → σ' (94 + x) f = σ (94 + x) f) (h : VX σ nl x) : VX σ' nl x := by
  unfold VX
  rw [h' 0 (by decide), h' 1 (by decide)]
  exact h
theorem inB_2 {σ : Mm} {p : Nat} (h : σ (50 + p) 2 = nI 2) : inB σ p = true := by unfold inB; rw [h]; decide
theorem inB_3 {σ : Mm} {p : Nat} (h : σ (50 + p) 2 = nI 3) : inB σ p = true := by unfold inB; rw [h]; decide
theorem inB_4 {σ : Mm} {p : Nat} (h : σ (50 + p) 2 = nI 4) : inB σ p = true := by unfold inB; rw [h]; decide
theorem inB_0 {σ : Mm} {p : Nat} (h : σ (50 + p) 2 = nI 0) : inB σ p = false := by unfold inB; rw [h]; decide
theorem inB_1 {σ : Mm} {p : Nat} (h : σ (50 + p) 2 = nI 1) : inB σ p = false := by unfold inB; rw [h]; decide
theorem inB_5 {σ : Mm} {p : Nat} (h : σ (50 + p) 2 = nI 5) : inB σ p = false := by unfold inB; rw [h]; decide
theorem inB_keep {σ σ' : Mm} {p : Nat} (h : σ' (50 + p) 2 = σ (50 + p) 2) : inB σ' p = inB σ p := by unfold inB; rw [h]
theorem nI_n5 {n : Nat} (h : n < 2147483648) : nI n ≠ -5 := fun e => by
  have := nI_pos (n := n) (by omega)
  rw [e] at this
  exact this (by decide)
