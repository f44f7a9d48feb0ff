/-! who waits, waits since then -/
section WT
variable {r r' : Nat → Int32} {ng np nx nl g p v T : Nat} {σ μ : Mm}
def Wt (r : Nat → Int32) (np : Nat) : Prop := ∃ t, t < 1073741824 ∧ r 0 = nI t ∧ ∀ p, p < np → (r (120 + 7 * p + 0) = 1 ∨ r (120 + 7 * p + 0) = 4) → ∃ s, s ≤ t ∧ r (120 + 7 * p + 5) = nI s
theorem Wt.keep (h : Wt r np) (e0 : r' 0 = r 0) (ep : ∀ p, p < np → (r' (120 + 7 * p + 0) = 1 ∨ r' (120 + 7 * p + 0) = 4) → (r (120 + 7 * p + 0) = 1 ∨ r (120 + 7 * p + 0) = 4) ∧ r' (120 + 7 * p + 5) = r (120 + 7 * p + 5)) : Wt r' np := by
  obtain ⟨t, t1, t2, t3⟩ := h
  refine ⟨t, t1, e0.trans t2, fun p hp hw => ?_⟩
  obtain ⟨a, b⟩ := ep p hp hw
  obtain ⟨s, s1, s2⟩ := t3 p hp a
  exact ⟨s, s1, b.trans s2⟩
theorem Wt.same (h : Wt r np) (e0 : r' 0 = r 0) (ep : ∀ p, p < np → r' (120 + 7 * p + 0) = r (120 + 7 * p + 0) ∧ r' (120 + 7 * p + 5) = r (120 + 7 * p + 5)) : Wt r' np := h.keep e0 (fun p hp hw => by
  obtain ⟨a, b⟩ := ep p hp
  rw [a] at hw
  exact ⟨hw, b⟩)
theorem waitR_pos (h : Wt r np) (hp : p < np) : ¬ waitR r p < 0 := by
  obtain ⟨t, t1, t2, t3⟩ := h
  unfold waitR
  by_cases w1 : r (120 + 7 * p + 0) = 1
  · obtain ⟨s, s1, s2⟩ := t3 p hp (Or.inl w1)
    rw [if_pos w1, t2, s2, pk_sub s1]
    exact nI_pos (by omega)
  · rw [if_neg w1]
    by_cases w4 : r (120 + 7 * p + 0) = 4
    · obtain ⟨s, s1, s2⟩ := t3 p hp (Or.inr w4)
      rw [if_pos w4, t2, s2, pk_sub s1]
      exact nI_pos (by omega)
    · rw [if_neg w4]
      decide
theorem waitR_0 (w1 : r (120 + 7 * p + 0) ≠ 1) (w4 : r (120 + 7 * p + 0) ≠ 4) : waitR r p = 0 := by
  unfold waitR
  rw [if_neg w1, if_neg w4]
/-- what a step leaves -/
theorem StepR.fr (h : StepR r np g r' v) (hn : np ≤ 40) (hg : g < 8) : (∀ i, i ≠ 5 → i < 436 → i ≠ 424 → i ≠ 426 → ¬ (8 + 14 * g ≤ i ∧ i < 22 + 14 * g) → (∀ q, q < np → i ≠ 120 + 7 * q + 0 ∧ i ≠ 120 + 7 * q + 3 ∧ i ≠ 120 + 7 * q + 4) → r' i = r i) ∧ (∀ q, q < np → r' (120 + 7 * q + 0) = r (120 + 7 * q + 0) ∨ (r' (120 + 7 * q + 0) ≠ 1 ∧ r' (120 + 7 * q + 0) ≠ 4)) := by
  have one : ∀ {p : Nat} {v : Int32}, p < np → r' (120 + 7 * p + 0) = v → v ≠ 1 → v ≠ 4 → (∀ q, q < np → q ≠ p → r' (120 + 7 * q + 0) = r (120 + 7 * q + 0)) → ∀ q, q < np → r' (120 + 7 * q + 0) = r (120 + 7 * q + 0) ∨ (r' (120 + 7 * q + 0) ≠ 1 ∧ r' (120 + 7 * q + 0) ≠ 4) := fun {p v} hp e n1 n4 ho q hq => by
    by_cases hqp : q = p
    · rw [hqp, e]; exact Or.inr ⟨n1, n4⟩
    · exact Or.inl (ho q hq hqp)
  have n31 : nI 3 ≠ 1 ∧ nI 3 ≠ 4 := by decide
  have n51 : nI 5 ≠ 1 ∧ nI 5 ≠ 4 := by decide
  rcases h with ⟨-, e, -⟩ | ⟨-, -, e, -⟩ | ⟨p, y, -, hF, -, -, -, e, -⟩ | ⟨p, x, -, hF, -, -, e, -⟩ | ⟨p, -, hF, e, -⟩ | ⟨p, st, o, b, hI, -, -, e, -⟩ | ⟨p, st, o, b, hI, -, -, e, -⟩ | ⟨p, o, b, hI, -, e, -⟩ | ⟨p, o, b, hI, -, -, e, -⟩ | ⟨p, b, hI, -, e, -⟩ | ⟨p, o, b, hI, -, -, e, -⟩
  · subst e; exact ⟨fun i _ _ _ _ _ _ => rfl, fun q _ => Or.inl rfl⟩
  · subst e; exact ⟨fun i _ _ _ _ _ _ => rfl, fun q _ => Or.inl rfl⟩
  · have hp := hF.1
    subst e
    refine ⟨fun i h5 h436 h1 h2 h3 hq => F_ref_o (by have := hq p hp; omega), one hp (F_ref_0 hg (by omega)) (by decide) (by decide) (fun q hqn hq => F_ref_o (by omega))⟩
  · have hp := hF.1
    subst e
    refine ⟨fun i h5 h436 h1 h2 h3 hq => by rw [F_go_o (by have := hq p hp; omega), F_pay_o (by omega)], one hp (F_go_0 hg (by omega)) (by decide) (by decide) (fun q hqn hq => by rw [F_go_o (by omega), F_pay_o (by omega)])⟩
  · have hp := hF.1
    subst e
    refine ⟨fun i h5 h436 h1 h2 h3 hq => F_go_o (by have := hq p hp; omega), one hp (F_go_0 hg (by omega)) (by decide) (by decide) (fun q hqn hq => F_go_o (by omega))⟩
  · subst e
    exact ⟨fun i h5 h436 h1 h2 h3 hq => F_left_o (by omega), fun q _ => Or.inl (F_left_o (by omega))⟩
  · subst e
    exact ⟨fun i h5 h436 h1 h2 h3 hq => by rw [F_turn_o (by omega), F_left_o (by omega)], fun q _ => Or.inl (by rw [F_turn_o (by omega), F_left_o (by omega)])⟩
  · subst e
    exact ⟨fun i h5 h436 h1 h2 h3 hq => by rw [F_turn_o (by omega), F_left_o (by omega)], fun q _ => Or.inl (by rw [F_turn_o (by omega), F_left_o (by omega)])⟩
  · subst e
    exact ⟨fun i h5 h436 h1 h2 h3 hq => by rw [F_turn_o (by omega), F_pin_o (by omega), F_left_o (by omega)], fun q _ => Or.inl (by rw [F_turn_o (by omega), F_pin_o (by omega), F_left_o (by omega)])⟩
  · obtain ⟨hp, -, -, -, -, -, -, -, -, -, hb, -⟩ := hI
    subst e
    refine ⟨fun i h5 h436 h1 h2 h3 hq => by rw [F_let_o hb (by have := hq p hp; omega), F_brk_o (by omega), F_pin_o (by omega), F_left_o (by omega)], ?_⟩
    have ho : ∀ q, q < np → q ≠ p → F_let g p b (F_brk g (F_pin g p 2 (F_left g r))) (120 + 7 * q + 0) = r (120 + 7 * q + 0) := fun q hqn hq => by rw [F_let_o hb (by omega), F_brk_o (by omega), F_pin_o (by omega), F_left_o (by omega)]
    rcases (F_let_w (r := F_brk g (F_pin g p 2 (F_left g r))) hb hg (show p < 40 by omega)).1 with q | q
    · exact one hp q n31.1 n31.2 ho
    · exact one hp q n51.1 n51.2 ho
  · obtain ⟨hp, -, -, -, -, -, -, -, -, -, hb, -⟩ := hI
    subst e
    refine ⟨fun i h5 h436 h1 h2 h3 hq => by rw [F_let_o hb (by have := hq p hp; omega), F_turn_o (by omega), F_left_o (by omega)], ?_⟩
    have ho : ∀ q, q < np → q ≠ p → F_let g p b (F_turn g 0 0 (F_left g r)) (120 + 7 * q + 0) = r (120 + 7 * q + 0) := fun q hqn hq => by rw [F_let_o hb (by omega), F_turn_o (by omega), F_left_o (by omega)]
    rcases (F_let_w (r := F_turn g 0 0 (F_left g r)) hb hg (show p < 40 by omega)).1 with q | q
    · exact one hp q n31.1 n31.2 ho
    · exact one hp q n51.1 n51.2 ho
theorem Wt.step (h : Wt r np) (hS : StepR r np g r' v) (hn : np ≤ 40) (hg : g < 8) : Wt r' np := by
  obtain ⟨f1, f2⟩ := hS.fr hn hg
  refine h.keep (f1 _ (by omega) (by omega) (by omega) (by omega) (by omega) (fun q hq => by omega)) (fun p hp hw => ?_)
  have e5 : r' (120 + 7 * p + 5) = r (120 + 7 * p + 5) := f1 _ (by omega) (by omega) (by omega) (by omega) (by omega) (fun q hq => by omega)
  rcases f2 p hp with e | ⟨a, b⟩
  · rw [e] at hw; exact ⟨hw, e5⟩
  · rcases hw with hw | hw
    · exact absurd hw a
    · exact absurd hw b
theorem Wt.steps (hn : np ≤ 40) : ∀ (k i : Nat) {r r' : Nat → Int32} {v : Nat}, i + k ≤ 8 → Wt r np → Steps np k i r r' v → Wt r' np
  | 0, i, r, r', v, _, h, hS => by rw [hS.1]; exact h
  | k + 1, i, r, r', v, hi, h, hS => by
    obtain ⟨r1, v1, v2, a, b, -⟩ := hS
    exact Wt.steps hn k (i + 1) (by omega) (h.step a hn (by omega)) b
theorem Wt.tick (h : Wt r np) (hn : np ≤ 40) (h8 : ng ≤ 8) (hT : TickR np ng r r' v) (hb : ∃ t, t < 1073741824 ∧ r' 0 = nI t) : Wt r' np := by
  obtain ⟨r1, s1, e⟩ := hT
  obtain ⟨t, t1, t2, t3⟩ := Wt.steps hn ng 0 (by omega) h s1
  obtain ⟨t', b1, b2⟩ := hb
  have e0 : r' 0 = nI (t + 1) := by rw [e, pk_us, t2, nI_1]
  have : t' = t + 1 := nI_inj (by omega) (by omega) (b2.symm.trans e0)
  refine ⟨t + 1, by omega, e0, fun p hp hw => ?_⟩
  rw [e, pk_un (by omega)] at hw
  obtain ⟨s, s1, s2⟩ := t3 p hp hw
  exact ⟨s, by omega, by rw [e, pk_un (by omega)]; exact s2⟩
theorem Ticks.time {k : Nat} : ∀ {r r' : Nat → Int32} {v : Nat}, np ≤ 40 → ng ≤ 8 → Ticks np ng k r r' v → r' 0 = r 0 + nI k := by
  induction k with
  | zero => intro r r' v hn h8 h; rw [h.1]; exact (Int32.add_zero _).symm
  | succ k ih =>
    intro r r' v hn h8 h
    obtain ⟨r1, v1, v2, a, -, b, -⟩ := h
    obtain ⟨r2, s1, e⟩ := a
    have e2 : ∀ (k i : Nat) {r r' : Nat → Int32} {v : Nat}, i + k ≤ 8 → Steps np k i r r' v → r' 0 = r 0 := fun k => by
      induction k with
      | zero => intro i r r' v _ h; rw [h.1]
      | succ k ih =>
        intro i r r' v hi h
        obtain ⟨r1, v1, v2, a, b, -⟩ := h
        rw [ih (i + 1) (by omega) b]
        exact (a.fr hn (by omega)).1 _ (by omega) (by omega) (by omega) (by omega) (by omega) (fun q hq => by omega)
    rw [ih hn h8 b, e, pk_us, e2 ng 0 (by omega) s1, Int32.add_assoc, Int32.add_comm 1, nI_1]
theorem Wt.ticks (hn : np ≤ 40) (h8 : ng ≤ 8) : ∀ (k : Nat) {r r' : Nat → Int32} {v t : Nat}, t + k < 1073741824 → r 0 = nI t → Wt r np → Ticks np ng k r r' v → Wt r' np
  | 0, r, r', v, t, _, _, h, hT => by rw [hT.1]; exact h
  | k + 1, r, r', v, t, ht, e0, h, hT => by
    obtain ⟨r1, v1, v2, a, a2, b, -⟩ := hT
    have q : r1 0 = r 0 + nI 1 := Ticks.time (k := 1) hn h8 ⟨r1, v1, 0, a, a2, ⟨rfl, rfl⟩, rfl⟩
    rw [e0, nI_add] at q
    exact Wt.ticks hn h8 k (by omega) q (h.tick hn h8 a ⟨t + 1, by omega, q⟩) b
theorem StepR.out (h : StepR r np g r' v) (h5 : r (8 + 14 * g + 4) = 5) : r' = r ∧ v = 0 := by
  have n0 : ¬ r (8 + 14 * g + 4) = 0 := by rw [h5]; decide
  have nI' : ∀ {p st o b}, ¬ InG r np g p st o b := fun {p st o b} hI => by
    obtain ⟨-, h1, h4, e, -⟩ := hI
    have := nI_inj (a := st) (b := 5) (by omega) (by omega) (e.symm.trans h5)
    omega
  rcases h with ⟨-, e, e2⟩ | ⟨q, -⟩ | ⟨p, y, q, -⟩ | ⟨p, x, q, -⟩ | ⟨p, q, -⟩ | ⟨p, st, o, b, hI, -⟩ | ⟨p, st, o, b, hI, -⟩ | ⟨p, o, b, hI, -⟩ | ⟨p, o, b, hI, -⟩ | ⟨p, b, hI, -⟩ | ⟨p, o, b, hI, -⟩
  · exact ⟨e, e2⟩
  · exact absurd q n0
  · exact absurd q n0
  · exact absurd q n0
  · exact absurd q n0
  all_goals exact absurd hI nI'
/-- one gate alone -/
theorem steps_alone (hn : np ≤ 40) (h8 : ng ≤ 8) : ∀ (k i : Nat) {r r' : Nat → Int32} {v : Nat}, i + k = ng → (∀ j, i ≤ j → j < ng → j ≠ g → r (8 + 14 * j + 4) = 5) → Steps np k i r r' v → (g < i → r' = r ∧ v = 0) ∧ (i ≤ g → g < ng → StepR r np g r' v)
  | 0, i, r, r', v, hi, ha, h => ⟨fun _ => h, fun h1 h2 => by omega⟩
  | k + 1, i, r, r', v, hi, ha, h => by
    obtain ⟨r1, v1, v2, a, b, ev⟩ := h
    by_cases hgi : i = g
    · rw [hgi] at a
      refine ⟨fun h => by omega, fun _ hgn => ?_⟩
      obtain ⟨e1, e2⟩ := (steps_alone hn h8 k (i + 1) (by omega) (fun j h1 h2 h3 => by
        rw [(a.fr hn (by omega)).1 _ (by omega) (by omega) (by omega) (by omega) (by omega) (fun q hq => by omega)]
        exact ha j (by omega) h2 h3) b).1 (by omega)
      rw [e1, ev, e2]
      exact a
    · obtain ⟨e1, e2⟩ := a.out (ha i (Nat.le_refl _) (by omega) hgi)
      subst e1
      subst e2
      rw [Nat.zero_add] at ev
      subst ev
      obtain ⟨c1, c2⟩ := steps_alone hn h8 k (i + 1) (by omega) (fun j h1 h2 h3 => ha j (by omega) h2 h3) b
      exact ⟨fun h => c1 (by omega), fun h1 h2 => c2 (by omega) h2⟩
end WT
