/-! what is foreseen -/
section FORESEE
variable {σ : Mm} {r : Nat → Int32} {T ng np nx nl g p : Nat} {μ ρ : Mm} {n : Nat}
theorem one_tick (h : Rel σ r T ng np nx nl) (hT : T + 1 < 1073741824) : ∃ σ' r' v, Rel σ' r' (T + 1) ng np nx nl ∧ (∀ (S : Nat) (μ : Mm) (Φ : Int32 → Mm → Prop), Φ v (bl S σ' μ) → w_X8_letTicksGo S 1 (bl S σ μ) Φ) ∧ (∀ (ρ : Mm) (Φ : Unit → Mm → Prop), Φ () (rw1 ρ r') → w_X10_tick (rw1 ρ r) Φ) := by
  obtain ⟨σ', r', v, h1, h2, h3, -⟩ := sim_tick h hT
  refine ⟨σ', r', v, h1, fun S μ Φ hΦ => ?_, h3⟩
  unfold w_X8_letTicksGo
  rw [c_between, if_neg (by decide)]
  refine ⟨0 + 1 + 1, ?_⟩
  unfold w_X8_letTicksGo_18
  rw [if_neg (by decide)]
  refine h2 S μ _ Φ 1 0 0 ?_
  show w_X8_letTicksGo_18 Φ (0 + 1) S 1 (0 + v) (0 + 1) (bl S σ' μ)
  unfold w_X8_letTicksGo_18
  rw [if_pos (by decide), Int32.zero_add]
  exact hΦ
/-- what the reference answers in the end -/
theorem s_end {w t : Int32} (hp : p < 40) (hw : r (120 + 7 * p + 0) = w) {Φ : Int32 → Mm → Prop} (H : ∀ ρ' : Mm, (∀ q, q ≠ 1 → ρ' q = ρ q) → (∀ a, a < 516 → ρ' 1 a = ρ 2 a) → Φ (if w = 3 then t else if w = 5 then t else -5) ρ') : w_X10_passesIn_88 Φ (nI p) t (rw1 ρ r) := by
  obtain ⟨ρ', h1, h2, h3⟩ := s_back (rw1 ρ r)
  have H1 := H ρ' (fun q hq => by rw [h1 q hq, rw1_o hq]) (fun a ha => by rw [h2 a ha, rw1_o (by decide)])
  unfold w_X10_passesIn_88
  rw [s_of_0 hp, hw]
  refine h3 _ ?_
  by_cases w3 : w = 3
  · rw [if_pos w3] at H1
    show (if w = 3 then _ else _)
    rw [if_pos w3]
    exact H1
  · rw [if_neg w3] at H1
    show (if w = 3 then _ else _)
    rw [if_neg w3]
    by_cases w5 : w = 5
    · rw [if_pos w5] at H1 ⊢
      exact H1
    · rw [if_neg w5] at H1 ⊢
      exact H1
theorem foresee_loop : ∀ (k t : Nat) {σ : Mm} {r : Nat → Int32} {T : Nat}, t + k = 500 → T + k < 1073741824 → Rel σ r T ng np nx nl → p < np → (σ (50 + p) 2 = 1 ∨ σ (50 + p) 2 = 2 ∨ σ (50 + p) 2 = 4) → ∃ (σ' : Mm) (v : Int32), (∀ (S : Nat) (μ : Mm) (Φ : Int32 → Mm → Prop), Φ v (bl S σ' μ) → ∃ n, w_X8_ticksUntilPassed_8b Φ n S (S + 50 + p) (nI (t + 1)) (bl S σ μ)) ∧ (∀ (ρ : Mm) (Φ : Int32 → Mm → Prop), (∀ ρ' : Mm, (∀ q, q ≠ 1 → ρ' q = ρ q) → (∀ a, a < 516 → ρ' 1 a = ρ 2 a) → Φ v ρ') → ∃ n, w_X10_passesIn_41 Φ n (nI p) (nI t) (rw1 ρ r))
  | 0, t, σ, r, T, ht, hT, h, hp, hw => by
    have n2 := h.1.n.2.1
    have e0 : r (120 + 7 * p + 0) = σ (50 + p) 2 := (h.1.2.2.1 p 2 hp (by decide)).symm
    refine ⟨σ, -5, fun S μ Φ hΦ => ⟨0 + 1, ?_⟩, fun ρ Φ hΦ => ⟨0 + 1, ?_⟩⟩
    · unfold w_X8_ticksUntilPassed_8b
      have e : (500 : Int32) < nI (t + 1) := nI_lt (a := 500) (b := t + 1) (by omega) (by omega)
      rw [if_pos e]
      exact hΦ
    · unfold w_X10_passesIn_41
      have e : (500 : Int32) ≤ nI t := nI_le (a := 500) (b := t) (by omega) (by omega)
      rw [if_pos e]
      refine s_end (by omega) e0 ?_
      have hv : (if σ (50 + p) 2 = 3 then nI t else if σ (50 + p) 2 = 5 then nI t else (-5 : Int32)) = -5 := by
        rcases hw with hw | hw | hw <;> rw [hw, if_neg (by decide), if_neg (by decide)]
      rw [hv]
      exact hΦ
  | k + 1, t, σ, r, T, ht, hT, h, hp, hw => by
    have n2 := h.1.n.2.1
    have e0 : r (120 + 7 * p + 0) = σ (50 + p) 2 := (h.1.2.2.1 p 2 hp (by decide)).symm
    have hp40 : p < 40 := by omega
    have c5 : ¬ (500 : Int32) < nI (t + 1) := nI_nlt (a := 500) (b := t + 1) (by omega) (by omega)
    have r5 : ¬ (500 : Int32) ≤ nI t := nI_ge (a := t) (b := 500) (by omega) (by omega)
    obtain ⟨σ1, r1, v1, h1, h2, h3⟩ := one_tick h (by omega)
    have f0 : r1 (120 + 7 * p + 0) = σ1 (50 + p) 2 := (h1.1.2.2.1 p 2 hp (by decide)).symm
    -- the reference ticks once
    have RS : ∀ (ρ : Mm) (Φ : Int32 → Mm → Prop), (∃ n, w_X10_passesIn_41 Φ n (nI p) (nI (t + 1)) (rw1 ρ r1)) → ∃ n, w_X10_passesIn_41 Φ n (nI p) (nI t) (rw1 ρ r) := by
      intro ρ Φ hn
      obtain ⟨n, hn⟩ := hn
      rw [nI_succ] at hn
      refine ⟨n + 1, ?_⟩
      unfold w_X10_passesIn_41
      rw [if_neg r5, s_of_0 hp40, e0]
      rcases hw with hw | hw | hw
      · rw [hw, if_pos rfl]
        exact h3 ρ _ hn
      · rw [hw, if_neg (by decide), s_of_0 hp40, e0, hw, if_pos rfl]
        exact h3 ρ _ hn
      · rw [hw, if_neg (by decide), s_of_0 hp40, e0, hw, if_neg (by decide), s_of_0 hp40, e0, hw, if_pos rfl]
        exact h3 ρ _ hn
    -- the class ticks once
    have CS : ∀ (S : Nat) (μ : Mm) (Φ : Int32 → Mm → Prop), (∃ n, (if σ1 (50 + p) 2 = 3 then Φ (nI (t + 1)) (bl S σ1 μ) else if σ1 (50 + p) 2 = 5 then Φ (nI (t + 1)) (bl S σ1 μ) else if σ1 (50 + p) 2 = 0 then Φ (-5) (bl S σ1 μ) else w_X8_ticksUntilPassed_8b Φ n S (S + 50 + p) (nI (t + 1 + 1)) (bl S σ1 μ))) → ∃ n, w_X8_ticksUntilPassed_8b Φ n S (S + 50 + p) (nI (t + 1)) (bl S σ μ) := by
      intro S μ Φ hn
      obtain ⟨n, hn⟩ := hn
      refine ⟨n + 1, ?_⟩
      unfold w_X8_ticksUntilPassed_8b
      rw [if_neg c5]
      refine h2 S μ _ ?_
      show (if _ = (3 : Int32) then _ else _)
      rw [bl_P hp40, ← nI_succ]
      exact hn
    obtain ⟨w, x1, x2, -⟩ := h1.2.2.1 p hp
    by_cases hin : w = 1 ∨ w = 2 ∨ w = 4
    · have hw1 : σ1 (50 + p) 2 = 1 ∨ σ1 (50 + p) 2 = 2 ∨ σ1 (50 + p) 2 = 4 := by
        rw [x2]
        rcases hin with e | e | e <;> rw [e]
        · exact Or.inl rfl
        · exact Or.inr (Or.inl rfl)
        · exact Or.inr (Or.inr rfl)
      obtain ⟨σ', v, q1, q2⟩ := foresee_loop k (t + 1) (by omega) (by omega) h1 hp hw1
      refine ⟨σ', v, fun S μ Φ hΦ => ?_, fun ρ Φ hΦ => RS ρ Φ (q2 ρ Φ hΦ)⟩
      obtain ⟨n, hn⟩ := q1 S μ Φ hΦ
      refine CS S μ Φ ⟨n, ?_⟩
      rcases hw1 with e | e | e <;> rw [e, if_neg (by decide), if_neg (by decide), if_neg (by decide)] <;> exact hn
    · -- it ends
      obtain ⟨v, hv⟩ : ∃ v : Int32, v = (if nI w = 3 then nI (t + 1) else if nI w = 5 then nI (t + 1) else -5) := ⟨_, rfl⟩
      refine ⟨σ1, v, fun S μ Φ hΦ => CS S μ Φ ⟨0, ?_⟩, fun ρ Φ hΦ => RS ρ Φ ⟨0 + 1, ?_⟩⟩
      · rw [x2]
        rcases (show w = 0 ∨ w = 3 ∨ w = 5 by omega) with e | e | e <;> subst e
        · rw [if_neg (by decide), if_neg (by decide)] at hv
          rw [if_neg (by decide), if_neg (by decide), if_pos (by decide)]
          rw [hv] at hΦ
          exact hΦ
        · rw [if_pos (by decide)] at hv
          rw [if_pos (by decide)]
          rw [hv] at hΦ
          exact hΦ
        · rw [if_neg (by decide), if_pos (by decide)] at hv
          rw [if_neg (by decide), if_pos (by decide)]
          rw [hv] at hΦ
          exact hΦ
      · have key : w_X10_passesIn_88 Φ (nI p) (nI (t + 1)) (rw1 ρ r1) := by
          refine s_end hp40 (f0.trans x2) ?_
          rw [← hv]
          exact hΦ
        unfold w_X10_passesIn_41
        by_cases e5 : (500 : Int32) ≤ nI (t + 1)
        · rw [if_pos e5]
          exact key
        · have m1 : ¬ nI w = 1 := fun e => by have := nI_inj (a := w) (b := 1) (by omega) (by omega) e; omega
          have m2 : ¬ nI w = 2 := fun e => by have := nI_inj (a := w) (b := 2) (by omega) (by omega) e; omega
          have m4 : ¬ nI w = 4 := fun e => by have := nI_inj (a := w) (b := 4) (by omega) (by omega) e; omega
          rw [if_neg e5, s_of_0 hp40, f0, x2, if_neg m1, s_of_0 hp40, f0, x2, if_neg m2, s_of_0 hp40, f0, x2, if_neg m4]
          exact key
theorem op_passesIn : Op_passesIn Sim := by
  intro n μ ρ hn hS a
  have hS1 := sim_next1 hn hS
  obtain ⟨hN, ⟨o, m, hH⟩, hT⟩ := hS
  have hN' := hN
  obtain ⟨ng, np, nx, nl, h⟩ := hN'
  obtain ⟨n1, n2, n3, n4⟩ := h.1.n
  have e : bl 1 (HB μ 1) μ = μ := bl_HB
  have B : ∀ q, q < 106 → μ (1 + q) = HB μ 1 q := fun q _ => rfl
  unfold w_X9_passesIn
  rcases arg_n a (show np < 1073741824 by omega) with ⟨p, hp, rfl⟩ | ha
  · have hp40 : p < 40 := by omega
    obtain ⟨w, x1, x2, -⟩ := h.2.2.1 p hp
    have e0 : ρ 1 (120 + 7 * p + 0) = nI w := by rw [← x2]; exact (h.1.2.2.1 p 2 hp (by decide)).symm
    have hA : ∀ (Φ : Option Nat → Mm → Prop), w_X8_personAt 1 (nI p) μ Φ = Φ (some (1 + 50 + p)) μ := fun Φ => by
      have k := d_personAt_y (S := 1) (σ := HB μ 1) (μ := μ) (Φ := Φ) h.1.1.2.1.1 hp n2
      rw [bl_HB] at k
      exact k
    rw [hA, opt_some, c_waits]
    have ew : μ (1 + 50 + p) 2 = nI w := by rw [Nat.add_assoc]; exact x2
    rw [ew]
    have hN0 : ∀ (Φ : Int32 → Mm → Prop), w_X10_noPerson (nI p) ρ Φ = Φ 0 ρ := fun Φ => by
      have k := s_noPerson_y (ρ := ρ) (r := ρ 1) (Φ := Φ) h.1.1.2.1.2.1 hp (by omega)
      rw [rw1_self] at k
      exact k
    have hO : ∀ (Φ : Int32 → Mm → Prop), w_X10_of (nI p) 0 ρ Φ = Φ (nI w) ρ := fun Φ => by
      have k := s_of_0 (ρ := ρ) (r := ρ 1) (Φ := Φ) hp40
      rw [rw1_self, e0] at k
      exact k
    by_cases hin : w = 1 ∨ w = 2 ∨ w = 4
    · -- foreseen on a copy
      obtain ⟨τ', t1, t2⟩ := sim_copy (S := 1) (S' := 107) (τ := HB μ 107) (μ := μ) h (fun τ q hq => bl_out (by omega))
      have hRm : Rel τ' (ρ 1) (TB n) ng np nx nl := t1
      obtain ⟨wt, -, y2, -⟩ := t1.2.2.1 p hp
      have ewt : τ' (50 + p) 2 = nI w := by rw [← e0]; exact t1.1.2.2.1 p 2 hp (by decide)
      have hw1 : τ' (50 + p) 2 = 1 ∨ τ' (50 + p) 2 = 2 ∨ τ' (50 + p) 2 = 4 := by
        rw [ewt]
        rcases hin with q | q | q <;> rw [q]
        · exact Or.inl rfl
        · exact Or.inr (Or.inl rfl)
        · exact Or.inr (Or.inr rfl)
      obtain ⟨σ', v, q1, q2⟩ := foresee_loop (p := p) 500 0 (by omega) (by have := TB_lt (n := n) (by omega); unfold TB at *; omega) t1 hp hw1
      have hend : w_X10_passesIn (nI p) ρ (fun t ρ1 => v = t ∧ Sim (n + 1) (bl 107 σ' μ) ρ1) := by
        obtain ⟨ρ2, b1, b2, b3⟩ := s_begin ρ
        have er : rw1 ρ2 (ρ 1) = ρ2 := by rw [← b1 1 (by decide)]; exact rw1_self ρ2
        have fin : ∃ n41, w_X10_passesIn_41 (fun t ρ1 => v = t ∧ Sim (n + 1) (bl 107 σ' μ) ρ1) n41 (nI p) 0 ρ2 := by
          have q3 := q2 ρ2 (fun t ρ1 => v = t ∧ Sim (n + 1) (bl 107 σ' μ) ρ1) (fun ρ' f1 f2 => ⟨rfl, sim_same hn hH hT (fun q hq _ => bl_out (by omega)) (fun q h1 h2 => by rw [f1 q h1, b1 q h2]) (hN.to (fun q hq => bl_out (by omega)) (fun i hi => by rw [f2 i hi, b2 i hi]) TB_le (TB_lt (by omega)))⟩)
          rw [er] at q3
          exact q3
        unfold w_X10_passesIn
        rw [hN0, if_pos rfl, hO]
        rcases hin with q | q | q <;> subst q
        · rw [if_pos (by decide)]
          exact b3 _ fin
        · rw [if_neg (by decide), if_pos (by decide)]
          exact b3 _ fin
        · rw [if_neg (by decide), if_neg (by decide), if_pos (by decide)]
          exact b3 _ fin
      have hC : w_X8_copyFrom 107 1 μ (fun _ u7 => (w_X8_ticksUntilPassed 107 (nI p) u7 (fun r10 u9 => w_X10_passesIn (nI p) ρ (fun t ρ1 => r10 = t ∧ Sim (n + 1) u9 ρ1)))) := by
        have t3 := t2 (fun _ u7 => (w_X8_ticksUntilPassed 107 (nI p) u7 (fun r10 u9 => w_X10_passesIn (nI p) ρ (fun t ρ1 => r10 = t ∧ Sim (n + 1) u9 ρ1)))) ?_
        · rw [bl_HB] at t3
          exact t3
        · unfold w_X8_ticksUntilPassed
          rw [d_personAt_y t1.1.1.2.1.1 hp n2, opt_some]
          exact q1 107 μ _ hend
      rcases hin with q | q | q <;> subst q
      · rw [if_neg (by decide)]
        exact hC
      · rw [if_pos (by decide), if_pos (by decide)]
        exact hC
      · rw [if_neg (by decide)]
        exact hC
    · have m1 : ¬ nI w = 1 := fun e => by have := nI_inj (a := w) (b := 1) (by omega) (by omega) e; omega
      have m2 : ¬ nI w = 2 := fun e => by have := nI_inj (a := w) (b := 2) (by omega) (by omega) e; omega
      have m4 : ¬ nI w = 4 := fun e => by have := nI_inj (a := w) (b := 4) (by omega) (by omega) e; omega
      rw [if_neg m1, if_neg m4, if_pos rfl, if_neg m2]
      show w_X10_passesIn (nI p) ρ _
      unfold w_X10_passesIn
      rw [hN0, if_pos rfl, hO, if_neg m1, if_neg m2, if_neg m4]
      exact ⟨rfl, hS1⟩
  · have hA : ∀ (Φ : Option Nat → Mm → Prop), w_X8_personAt 1 a μ Φ = Φ none μ := fun Φ => by
      have k := d_personAt_n (S := 1) (σ := HB μ 1) (μ := μ) (Φ := Φ) h.1.1.2.1.1 ha
      rw [bl_HB] at k
      exact k
    rw [hA, opt_none]
    have hN0 : ∀ (Φ : Int32 → Mm → Prop), w_X10_noPerson a ρ Φ = Φ 1 ρ := fun Φ => by
      have k := s_noPerson_n (ρ := ρ) (r := ρ 1) (Φ := Φ) h.1.1.2.1.2.1 ha (by omega)
      rw [rw1_self] at k
      exact k
    show w_X10_passesIn a ρ _
    unfold w_X10_passesIn
    rw [hN0, if_neg (by decide)]
    exact ⟨rfl, hS1⟩
end FORESEE
