/-! a closed gate takes the next person -/
theorem upA_o {σ : Mm} {k q : Nat} {f : Nat → Int32} (h : q ≠ k) : upA σ k f q = σ q := by unfold upA; rw [if_neg h]
theorem upd_last4 {f : Nat → Int32} {a b c d : Nat} {x y z w : Int32} (hab : a ≠ b) (hac : a ≠ c) (had : a ≠ d) : upd (upd (upd (upd f a x) b y) c z) d w = upd (upd (upd (upd f b y) c z) d w) a x := by
  rw [upd_comm (i := a) (j := b) hab, upd_comm (i := a) (j := c) hac, upd_comm (i := a) (j := d) had]
/-- the queues, but for person p -/
def KQp (σ : Mm) (r : Nat → Int32) (ng np p : Nat) : Prop := ∀ g e, g < ng → e < 2 → ∃ (n : Nat) (a : Nat → Nat), n ≤ 40 ∧ σ (11 + 5 * g + 2 * e) 1 = nI n ∧ (∀ i, i < n → σ (12 + 5 * g + 2 * e) i = nI (a i) ∧ a i < np ∧ a i ≠ p ∧ σ (50 + a i) 3 = nI g ∧ σ (50 + a i) 2 = nI (1 + 3 * e)) ∧ (∀ i j, i < j → j < n → r (120 + 7 * a i + 6) < r (120 + 7 * a j + 6)) ∧ (∀ q, q < np → q ≠ p → σ (50 + q) 3 = nI g → σ (50 + q) 2 = nI (1 + 3 * e) → ∃ i, i < n ∧ a i = q)
theorem KQp_done {σ : Mm} {r : Nat → Int32} {ng np p : Nat} (h : KQp σ r ng np p) (hp : ∀ e, e < 2 → σ (50 + p) 2 ≠ nI (1 + 3 * e)) : KQ σ r ng np := by
  intro g e hg he
  obtain ⟨n, a, h1, h2, h3, h4, h5⟩ := h g e hg he
  refine ⟨n, a, h1, h2, fun i hi => ⟨(h3 i hi).1, (h3 i hi).2.1, (h3 i hi).2.2.2⟩, h4, fun q hq e3 e2 => ?_⟩
  exact h5 q hq (fun e' => by subst e'; exact hp e he e2) e3 e2
theorem KQp_keep {σ σ' : Mm} {r r' : Nat → Int32} {ng np p : Nat} (hn : ng ≤ 8) (hq : ∀ q, 11 ≤ q → q < 50 → (∀ g, 10 + 5 * g ≠ q) → ∀ j, σ' q j = σ q j) (hp : ∀ q, q < np → q ≠ p → σ' (50 + q) 2 = σ (50 + q) 2 ∧ σ' (50 + q) 3 = σ (50 + q) 3) (hr : ∀ q, q < np → q ≠ p → r' (120 + 7 * q + 6) = r (120 + 7 * q + 6)) (h : KQp σ r ng np p) : KQp σ' r' ng np p := by
  intro g e hg he
  obtain ⟨n, a, h1, h2, h3, h4, h5⟩ := h g e hg he
  refine ⟨n, a, h1, by rw [hq _ (by omega) (by omega) (fun g' => by omega)]; exact h2, fun i hi => ?_, fun i j hij hj => ?_, fun q hqn hne => ?_⟩
  · obtain ⟨b1, b2, b3, b4⟩ := h3 i hi
    have := hp _ b2 b3
    rw [hq _ (by omega) (by omega) (fun g' => by omega), this.1, this.2]
    exact ⟨b1, b2, b3, b4⟩
  · obtain ⟨-, b2, b3, -⟩ := h3 i (by omega)
    obtain ⟨-, c2, c3, -⟩ := h3 j hj
    rw [hr _ b2 b3, hr _ c2 c3]
    exact h4 i j hij hj
  · have := hp q hqn hne
    rw [this.1, this.2]
    exact h5 q hqn hne
theorem KQp_drop {σ : Mm} {r : Nat → Int32} {ng np g e n p : Nat} (hn8 : ng ≤ 8) (h : KQ σ r ng np) (hg : g < ng) (he : e < 2) (hn : n + 1 ≤ 40) (hp : p < np) (h1 : σ (11 + 5 * g + 2 * e) 1 = nI (n + 1)) (h2 : σ (12 + 5 * g + 2 * e) 0 = nI p) (h3 : σ (50 + p) 3 = nI g) (h4 : σ (50 + p) 2 = nI (1 + 3 * e)) (hnp : np ≤ 40) : KQp (cDrop (11 + 5 * g + 2 * e) n σ) r ng np p := by
  have op : ∀ q j, q < np → cDrop (11 + 5 * g + 2 * e) n σ (50 + q) j = σ (50 + q) j := fun q j hq => cDrop_o (by omega) (by omega)
  intro g' e' hg' he'
  obtain ⟨m, a, b1, b2, b3, b4, b5⟩ := h g' e' hg' he'
  by_cases hge : g' = g ∧ e' = e
  · obtain ⟨rfl, rfl⟩ := hge
    have hm : m = n + 1 := nI_inj (by omega) (by omega) (b2.symm.trans h1)
    subst hm
    have ha0 : a 0 = p := nI_inj (by have := (b3 0 (by omega)).2.1; omega) (by omega) ((b3 0 (by omega)).1.symm.trans h2)
    have hne : ∀ i, i < n → a (i + 1) ≠ p := fun i hi q => by
      have := b4 0 (i + 1) (by omega) (by omega)
      rw [ha0, q] at this
      exact lt_ir this
    refine ⟨n, fun i => a (i + 1), by omega, cDrop_l, fun i hi => ?_, fun i j hij hj => b4 (i + 1) (j + 1) (by omega) (by omega), fun q hq hqp e3 e2 => ?_⟩
    · obtain ⟨d1, d2, d3, d4⟩ := b3 (i + 1) (by omega)
      refine ⟨?_, d2, hne i hi, by rw [op _ _ d2]; exact d3, by rw [op _ _ d2]; exact d4⟩
      rw [show 12 + 5 * g' + 2 * e' = 11 + 5 * g' + 2 * e' + 1 by omega, cDrop_e hi, ← d1]
      congr 1
      omega
    · rw [op _ _ hq] at e3 e2
      obtain ⟨i, hi, hia⟩ := b5 q hq e3 e2
      cases i with
      | zero => exact absurd (hia.symm.trans ha0) hqp
      | succ i => exact ⟨i, by omega, hia⟩
  · refine ⟨m, a, b1, by rw [cDrop_o (by omega) (by omega)]; exact b2, fun i hi => ?_, b4, fun q hq hqp e3 e2 => ?_⟩
    · obtain ⟨d1, d2, d3, d4⟩ := b3 i hi
      refine ⟨by rw [cDrop_o (by omega) (by omega)]; exact d1, d2, fun q => ?_, by rw [op _ _ d2]; exact d3, by rw [op _ _ d2]; exact d4⟩
      rw [q, h3] at d3
      rw [q, h4] at d4
      have k1 := nI_inj (by omega) (by omega) d3
      have k2 := nI_inj (by omega) (by omega) d4
      omega
    · rw [op _ _ hq] at e3 e2
      exact b5 q hq e3 e2
theorem Core.arr {σ : Mm} {r : Nat → Int32} {T ng np nx nl q : Nat} {f : Nat → Int32} (h : Core σ r T ng np nx nl) (hq : 10 ≤ q ∧ q < 50 ∧ ∀ g, 10 + 5 * g ≠ q) : Core (upA σ q f) r T ng np nx nl := by
  obtain ⟨a, b, c, d, e, k⟩ := h
  refine ⟨?_, fun g f hg hf => ?_, fun p f hp hf => ?_, fun x f hx hf => ?_, fun x f hx hf => ?_, ?_⟩
  · unfold KC
    rw [upA_o (by omega)]
    exact a
  · rw [upA_o (hq.2.2 g)]; exact b g f hg hf
  · rw [upA_o (by omega)]; exact c p f hp hf
  · rw [upA_o (by omega)]; exact d x f hx hf
  · rw [upA_o (by omega)]; exact e x f hx hf
  · obtain ⟨n, l, h1, h2, h3, h4, h5, h6⟩ := k
    exact ⟨n, l, h1, h2, by rw [upA_o (by omega)]; exact h3, by rw [upA_o (by omega)]; exact h4, h5, fun k j hk hj => by rw [upA_o (by omega)]; exact h6 k j hk hj⟩
/-- after the first of a queue has left it -/
theorem Core.drop {σ : Mm} {r : Nat → Int32} {T ng np nx nl g e n : Nat} (h : Core σ r T ng np nx nl) (hg : g < 8) (he : e < 2) : Core (cDrop (11 + 5 * g + 2 * e) n σ) r T ng np nx nl :=
  (h.own (q := 11 + 5 * g + 2 * e) (j := 1) (v := nI n) (Or.inl ⟨by omega, by omega, fun g' => by omega⟩)).arr (q := 11 + 5 * g + 2 * e + 1) ⟨by omega, by omega, fun g' => by omega⟩
