/-! who joins a queue -/
section APPEND
variable {S : Nat} {σ μ : Mm} {r : Nat → Int32} {ng np g e p : Nat}
theorem d_append {c n : Nat} {a : Int32} {Φ : Unit → Mm → Prop} (hc : c + 1 < 106) (hl : σ c 1 = nI n) (hn : n < 40) : w_X7_append (S + c) a (bl S σ μ) Φ = Φ () (bl S (up2 (up2 σ (c + 1) n a) c 1 (nI (n + 1))) μ) := by
  unfold w_X7_append
  have h40 : ¬ (40 : Int32) ≤ nI n := nI_ge (a := n) (b := 40) (by omega) (by omega)
  have hc0 : c < 106 := by omega
  rw [bl_at hc0, hl, if_neg (nI_pos (by omega)), if_neg h40, vin hn (by decide), true_and, cl (by omega)]
  simp only [forall_eq, Nat.add_assoc, up2_bl hc, up2_bl hc0, bl_at hc0]
  rw [up2_n (Or.inl (by omega)), hl, nI_1]
theorem KQp_len (h : KQp σ r ng np p) (hp : p < np) (hg : g < ng) (he : e < 2) : ∃ n, σ (11 + 5 * g + 2 * e) 1 = nI n ∧ n + 1 ≤ np := by
  obtain ⟨n, a, h1, h2, h3, h4, h5⟩ := h g e hg he
  refine ⟨n, h2, ?_⟩
  have hc := cnt_enum (n := np) a n (fun q => decide (q ≠ p) && (decide (σ (50 + q) 3 = nI g) && decide (σ (50 + q) 2 = nI (1 + 3 * e)))) (fun i hi => ⟨(h3 i hi).2.1, by simp [(h3 i hi).2.2.1, (h3 i hi).2.2.2.1, (h3 i hi).2.2.2.2]⟩) (fun i hi j hj ea => by
    rcases Nat.lt_trichotomy i j with q | q | q
    · have := h4 i j q hj
      rw [ea] at this
      exact absurd this (fun z => lt_ir z)
    · exact q
    · have := h4 j i q hi
      rw [ea] at this
      exact absurd this (fun z => lt_ir z)) (fun q hq hP => by
    simp only [Bool.and_eq_true, decide_eq_true_eq] at hP
    exact h5 q hq hP.1 hP.2.1 hP.2.2)
  have hadd := cnt_add (P := fun q => decide (q ≠ p) && (decide (σ (50 + q) 3 = nI g) && decide (σ (50 + q) 2 = nI (1 + 3 * e)))) (Q := fun q => decide (q = p) || (decide (q ≠ p) && (decide (σ (50 + q) 3 = nI g) && decide (σ (50 + q) 2 = nI (1 + 3 * e))))) hp (fun i hi hne => by simp [hne]) (by simp) (by simp)
  rw [hc] at hadd
  have := cnt_le (P := fun q => decide (q = p) || (decide (q ≠ p) && (decide (σ (50 + q) 3 = nI g) && decide (σ (50 + q) 2 = nI (1 + 3 * e))))) (n := np)
  omega
/-- one more, behind all -/
theorem KQ_add {σ' : Mm} {r' : Nat → Int32} {n : Nat} (hng : ng ≤ 8) (hnp : np ≤ 40) (h : KQp σ r ng np p) (hp : p < np) (hg : g < ng) (he : e < 2) (hl : σ (11 + 5 * g + 2 * e) 1 = nI n) (hn : n + 1 ≤ 40) (hfr : ∀ q, q < np → q ≠ p → σ (50 + q) 2 = nI (1 + 3 * e) → r (120 + 7 * q + 6) < r' (120 + 7 * p + 6)) (oq : ∀ q j, 11 ≤ q → q < 50 → (∀ g', 10 + 5 * g' ≠ q) → ¬ (q = 11 + 5 * g + 2 * e ∧ j = 1) → ¬ (q = 12 + 5 * g + 2 * e ∧ j = n) → σ' q j = σ q j) (c1 : σ' (11 + 5 * g + 2 * e) 1 = nI (n + 1)) (c2 : σ' (12 + 5 * g + 2 * e) n = nI p) (op : ∀ q, q < np → q ≠ p → σ' (50 + q) 2 = σ (50 + q) 2 ∧ σ' (50 + q) 3 = σ (50 + q) 3) (p3 : σ' (50 + p) 3 = nI g) (p2 : σ' (50 + p) 2 = nI (1 + 3 * e)) (hr : ∀ q, q < np → q ≠ p → r' (120 + 7 * q + 6) = r (120 + 7 * q + 6)) : KQ σ' r' ng np := by
  intro g' e' hg' he'
  obtain ⟨m, a, b1, b2, b3, b4, b5⟩ := h g' e' hg' he'
  by_cases hge : g' = g ∧ e' = e
  · obtain ⟨rfl, rfl⟩ := hge
    have hm : m = n := nI_inj (by omega) (by omega) (b2.symm.trans hl)
    subst hm
    have al : ∀ i, i < m → (fun i => if i < m then a i else p) i = a i := fun i hi => if_pos hi
    have ap : (fun i => if i < m then a i else p) m = p := if_neg (Nat.lt_irrefl _)
    refine ⟨m + 1, fun i => if i < m then a i else p, hn, c1, fun i hi => ?_, fun i j hij hj => ?_, fun q hq e3 e2 => ?_⟩
    · by_cases him : i = m
      · subst him
        rw [ap]
        exact ⟨c2, hp, p3, p2⟩
      · have hlt : i < m := by omega
        obtain ⟨d1, d2, d3, d4, d5⟩ := b3 i hlt
        rw [al i hlt, oq _ _ (by omega) (by omega) (fun g'' => by omega) (by omega) (by omega), (op _ d2 d3).1, (op _ d2 d3).2]
        exact ⟨d1, d2, d4, d5⟩
    · have hi : i < m := by omega
      obtain ⟨d1, d2, d3, d4, d5⟩ := b3 i hi
      rw [al i hi]
      by_cases hjm : j = m
      · subst hjm
        rw [ap, hr _ d2 d3]
        exact hfr _ d2 d3 d5
      · have hj' : j < m := by omega
        obtain ⟨f1, f2, f3, f4, f5⟩ := b3 j hj'
        rw [al j hj', hr _ d2 d3, hr _ f2 f3]
        exact b4 i j hij hj'
    · by_cases hqp : q = p
      · exact ⟨m, by omega, by rw [ap, hqp]⟩
      · rw [(op q hq hqp).2] at e3
        rw [(op q hq hqp).1] at e2
        obtain ⟨i, hi, hia⟩ := b5 q hq hqp e3 e2
        exact ⟨i, by omega, by rw [al i hi]; exact hia⟩
  · refine ⟨m, a, b1, by rw [oq _ _ (by omega) (by omega) (fun g'' => by omega) (by omega) (by omega)]; exact b2, fun i hi => ?_, fun i j hij hj => ?_, fun q hq e3 e2 => ?_⟩
    · obtain ⟨d1, d2, d3, d4, d5⟩ := b3 i hi
      rw [oq _ _ (by omega) (by omega) (fun g'' => by omega) (by omega) (by omega), (op _ d2 d3).1, (op _ d2 d3).2]
      exact ⟨d1, d2, d4, d5⟩
    · obtain ⟨-, d2, d3, -⟩ := b3 i (by omega)
      obtain ⟨-, f2, f3, -⟩ := b3 j hj
      rw [hr _ d2 d3, hr _ f2 f3]
      exact b4 i j hij hj
    · by_cases hqp : q = p
      · exfalso
        rw [hqp] at e3 e2
        rw [p3] at e3
        rw [p2] at e2
        have k1 := nI_inj (by omega) (by omega) e3
        have k2 := nI_inj (by omega) (by omega) e2
        omega
      · rw [(op q hq hqp).2] at e3
        rw [(op q hq hqp).1] at e2
        exact b5 q hq hqp e3 e2
end APPEND
