/-! steps, ticks, what is foreseen -/
def Steps (np : Nat) : Nat → Nat → (Nat → Int32) → (Nat → Int32) → Nat → Prop
  | 0, _, r, r', v => r' = r ∧ v = 0
  | k + 1, i, r, r', v => ∃ r1 v1 v2, StepR r np i r1 v1 ∧ Steps np k (i + 1) r1 r' v2 ∧ v = v1 + v2
def TickR (np ng : Nat) (r r' : Nat → Int32) (v : Nat) : Prop := ∃ r1, Steps np ng 0 r r1 v ∧ r' = upd r1 0 (r1 0 + 1)
def TkEq (r r' : Nat → Int32) : Prop := ∀ (ρ : Mm) (Φ : Unit → Mm → Prop), w_X10_tick (rw1 ρ r) Φ = Φ () (rw1 ρ r')
def Ticks (np ng : Nat) : Nat → (Nat → Int32) → (Nat → Int32) → Nat → Prop
  | 0, r, r', v => r' = r ∧ v = 0
  | k + 1, r, r', v => ∃ r1 v1 v2, TickR np ng r r1 v1 ∧ TkEq r r1 ∧ Ticks np ng k r1 r' v2 ∧ v = v1 + v2
theorem TkEq.one {r a b : Nat → Int32} (h : TkEq r a) (h2 : TkEq r b) : a = b := by
  have e := (h (fun _ _ => 0) (fun _ u => u = rw1 (fun _ _ => 0) a)).symm.trans (h2 (fun _ _ => 0) (fun _ u => u = rw1 (fun _ _ => 0) a))
  exact (rw1_inj (e.mp rfl)).symm
theorem Ticks.one {np ng : Nat} : ∀ {k : Nat} {r a b : Nat → Int32} {v w : Nat}, Ticks np ng k r a v → Ticks np ng k r b w → a = b
  | 0, r, a, b, v, w, h, h2 => h.1.trans h2.1.symm
  | k + 1, r, a, b, v, w, ⟨r1, v1, v2, _, h2, h3, _⟩, ⟨s1, w1, w2, _, g2, g3, _⟩ => by
    have e := h2.one g2
    subst e
    exact Ticks.one h3 g3
section TICKS
variable {σ : Mm} {r : Nat → Int32} {T ng np nx g p : Nat}
theorem StepR.le {r' : Nat → Int32} {v : Nat} (h : StepR r np g r' v) : v ≤ 1 := by
  rcases h with ⟨-, -, rfl⟩ | ⟨-, -, -, rfl⟩ | ⟨p, y, -, -, -, -, -, -, rfl⟩ | ⟨p, x, -, -, -, -, -, rfl⟩ | ⟨p, -, -, -, rfl⟩ | ⟨p, st, o, b, -, -, -, -, rfl⟩ | ⟨p, st, o, b, -, -, -, -, rfl⟩ | ⟨p, o, b, -, -, -, rfl⟩ | ⟨p, o, b, -, -, -, -, rfl⟩ | ⟨p, b, -, -, -, rfl⟩ | ⟨p, o, b, -, -, -, -, rfl⟩ <;> decide
theorem sim_step29 (h : Rel σ r T ng np nx 1) (hg : g < ng) : ∃ σ' r' v, Rel σ' r' T ng np nx 1 ∧ StepR r np g r' v ∧ (∀ (S : Nat) (μ : Mm) (Φ : Int32 → Mm → Prop), Φ (nI v) (bl S σ' μ) → w_X8_stepGate S (nI g) (S + 10 + 5 * g) (bl S σ μ) Φ) ∧ (∀ (ρ : Mm) (Φ : Unit → Mm → Prop), w_X10_step (nI g) (rw1 ρ r) Φ = Φ () (rw1 ρ r')) := by
  obtain ⟨n1, n2, n3, n4⟩ := h.1.n
  obtain ⟨σ', r1, v1, s1, s2, s3, s4, s5⟩ := sim_step h hg
  obtain ⟨r', v, t1, t2⟩ := step_r h hg
  have e := s3 (fun _ _ => 0) (fun _ u => u = rw1 (fun _ _ => 0) r1) rfl
  rw [t2] at e
  have e := rw1_inj e
  subst e
  have c := t1.cnt n2 (by omega)
  rw [s4] at c
  have hv : v1 = nI v := by
    have k1 : v1 = r (8 + 14 * g + 10) + r (8 + 14 * g + 11) + v1 - (r (8 + 14 * g + 10) + r (8 + 14 * g + 11)) := by rw [Int32.add_comm _ v1, Int32.add_sub_cancel]
    have k2 : nI v = r (8 + 14 * g + 10) + r (8 + 14 * g + 11) + nI v - (r (8 + 14 * g + 10) + r (8 + 14 * g + 11)) := by rw [Int32.add_comm _ (nI v), Int32.add_sub_cancel]
    rw [k1, c, ← k2]
  subst hv
  exact ⟨σ', r', v, s1, t1, s2, t2⟩
theorem gates_loop29 : ∀ (k i : Nat) {σ : Mm} {r : Nat → Int32}, i + k = ng → Rel σ r T ng np nx 1 → ∃ σ' r' v, Rel σ' r' T ng np nx 1 ∧ Steps np k i r r' v ∧ v ≤ k ∧ (∀ (S : Nat) (μ : Mm) (X : Nat → Int32 → Int32 → Int32 → Mm → Prop) (Φ : Int32 → Mm → Prop) (x1 c x3 : Int32), X S x1 (c + nI v) (x3 + 1) (bl S (up2 σ' 0 9 (σ' 0 9 + 1)) μ) → ∃ n, w_X8_letTicksGo_26 X Φ n S x1 c x3 (nI i) (bl S σ μ)) ∧ (∀ (ρ : Mm) (Φ : Unit → Mm → Prop), (∃ n, w_X10_tick_2 Φ n (nI i) (rw1 ρ r)) = Φ () (rw1 ρ (upd r' 0 (r' 0 + 1))))
  | 0, i, σ, r, hi, h => by
    have hng := h.1.n.1
    refine ⟨σ, r, 0, h, ⟨rfl, rfl⟩, Nat.le_refl _, fun S μ X Φ x1 c x3 hX => ⟨0 + 1, ?_⟩, fun ρ Φ => ?_⟩
    · unfold w_X8_letTicksGo_26
      rw [bl_0, h.1.1.1.1, if_pos (nI_le (by omega) (by omega))]
      rintro _ rfl
      rw [up2_bl0]
      rw [show c + nI 0 = c from Int32.add_zero c] at hX
      exact hX
    · rw [ex_succ (fun h => h)]
      simp only [w_X10_tick_2, rw1_1, show (1 : Int32).toNatClampNeg = 1 from rfl, show (0 : Int32).toNatClampNeg = 0 from rfl, h.1.1.1.2.1, if_pos (nI_le (show ng ≤ i by omega) (show i < 2 ^ 31 by omega)), forall_eq, up2_rw1, exists_const]
  | k + 1, i, σ, r, hi, h => by
    have hg : i < ng := by omega
    have hng := h.1.n.1
    obtain ⟨σ1, r1, v, s1, sR, s2, s3⟩ := sim_step29 h hg
    obtain ⟨σ', r', w, t1, tR, tl, t2, t3⟩ := gates_loop29 k (i + 1) (by omega) s1
    have h8 : ¬ (8 : Int32) ≤ nI i := nI_ge (a := i) (b := 8) (by omega) (by omega)
    have hv := sR.le
    refine ⟨σ', r', v + w, t1, ⟨r1, v, w, sR, tR, rfl⟩, by omega, fun S μ X Φ x1 c x3 hX => ?_, fun ρ Φ => ?_⟩
    · obtain ⟨n, hn⟩ := t2 S μ X Φ x1 (c + nI v) x3 (by rw [Int32.add_assoc, nI_add]; exact hX)
      rw [nI_succ] at hn
      refine ⟨n + 1, ?_⟩
      unfold w_X8_letTicksGo_26
      rw [bl_0, h.1.1.1.1, if_neg (nI_ge hg (by omega)), if_neg h8, vin (show i < 8 by omega) (by decide), true_and, cl (by omega)]
      exact s2 S μ _ hn
    · rw [ex_succ (fun h => h)]
      have e := t3 ρ Φ
      rw [nI_succ] at e
      simp only [w_X10_tick_2, rw1_1, show (1 : Int32).toNatClampNeg = 1 from rfl, h.1.1.1.2.1, if_neg (nI_ge hg (show ng < 2 ^ 31 by omega)), s3]
      exact e
theorem sim_tick29 (h : Rel σ r T ng np nx 1) (hT : T + 1 < 1073741824) : ∃ σ' r' v, Rel σ' r' (T + 1) ng np nx 1 ∧ TickR np ng r r' v ∧ TkEq r r' ∧ v ≤ ng ∧ (∀ (S : Nat) (μ : Mm) (X : Nat → Int32 → Int32 → Int32 → Mm → Prop) (Φ : Int32 → Mm → Prop) (x1 c x3 : Int32), X S x1 (c + nI v) (x3 + 1) (bl S σ' μ) → ∃ n, w_X8_letTicksGo_26 X Φ n S x1 c x3 0 (bl S σ μ)) := by
  obtain ⟨σ', r', v, h1, h2, h3, h4, h5⟩ := gates_loop29 ng 0 (by omega) h
  exact ⟨_, _, v, h1.tick hT, ⟨r', h2, rfl⟩, fun ρ Φ => h5 ρ Φ, h3, fun S μ X Φ x1 c x3 hX => h4 S μ X Φ x1 c x3 hX⟩
theorem ticks_loop29 {a : Nat} (ha : a < 1073741824) : ∀ (k i : Nat) {σ : Mm} {r : Nat → Int32} {T : Nat}, i + k = a → T + k < 1073741824 → Rel σ r T ng np nx 1 → ∃ σ' r' v, Rel σ' r' (T + k) ng np nx 1 ∧ Ticks np ng k r r' v ∧ v ≤ k * 8 ∧ (∀ (S : Nat) (μ : Mm) (Φ : Int32 → Mm → Prop) (c : Int32), Φ (c + nI v) (bl S σ' μ) → ∃ n, w_X8_letTicksGo_18 Φ n S (nI a) c (nI i) (bl S σ μ))
  | 0, i, σ, r, T, hi, hT, h => by
    refine ⟨σ, r, 0, h, ⟨rfl, rfl⟩, by omega, fun S μ Φ c hΦ => ⟨0 + 1, ?_⟩⟩
    unfold w_X8_letTicksGo_18
    rw [if_pos (nI_le (by omega) (by omega))]
    rw [show c + nI 0 = c from Int32.add_zero c] at hΦ
    exact hΦ
  | k + 1, i, σ, r, T, hi, hT, h => by
    have hng := h.1.n.1
    obtain ⟨σ1, r1, v, s1, sR, sE, sl, s2⟩ := sim_tick29 h (by omega)
    obtain ⟨σ', r', w, t1, tR, tl, t2⟩ := ticks_loop29 ha k (i + 1) (by omega) (by omega) s1
    refine ⟨σ', r', v + w, by rw [show T + (k + 1) = T + 1 + k by omega]; exact t1, ⟨r1, v, w, sR, sE, tR, rfl⟩, by omega, fun S μ Φ c hΦ => ?_⟩
    obtain ⟨n, hn⟩ := t2 S μ Φ (c + nI v) (by rw [Int32.add_assoc, nI_add]; exact hΦ)
    rw [nI_succ] at hn
    refine ⟨n + 1, ?_⟩
    unfold w_X8_letTicksGo_18
    rw [if_neg (nI_ge (by omega) (by omega))]
    exact s2 S μ _ Φ _ _ _ hn
theorem c_between29 {lo a hi : Int32} {u : Mm} {Φ : Int32 → Mm → Prop} : w_X9_isBetween lo a hi u Φ = Φ (if a < lo then 0 else if hi < a then 0 else 1) u := by
  unfold w_X9_isBetween
  split
  · rfl
  · split <;> rfl
theorem btw29 {a lo hi : Int32} (h1 : ¬ a < lo) (h2 : ¬ hi < a) : (if a < lo then (0 : Int32) else if hi < a then 0 else 1) = 1 := by rw [if_neg h1, if_neg h2]
theorem pass29 {k : Nat} (h : Rel σ r T ng np nx 1) (hk : 1 ≤ k) (hk2 : k ≤ 200) (hT : T + 200 < 1073741824) : ∃ σ' r' v, Rel σ' r' (T + k) ng np nx 1 ∧ Ticks np ng k r r' v ∧ v ≤ k * 8 ∧ ∀ (S : Nat) (μ : Mm) (Φ : Int32 → Mm → Prop), Φ (nI v) (bl S σ' μ) → w_X8_letTicksGo S (nI k) (bl S σ μ) Φ := by
  obtain ⟨σ', r', v, t1, t2, t3, t4⟩ := ticks_loop29 (a := k) (by omega) k 0 (by omega) (by omega) h
  refine ⟨σ', r', v, t1, t2, t3, fun S μ Φ hΦ => ?_⟩
  unfold w_X8_letTicksGo
  rw [c_between29, btw29 (show ¬ nI k < 1 from nI_nlt (a := k) (b := 1) (by omega) (by omega)) (show ¬ (200 : Int32) < nI k from nI_nlt (a := 200) (b := k) (by omega) (by omega)), if_neg (by decide)]
  exact t4 S μ Φ 0 (by rw [Int32.zero_add]; exact hΦ)
/-- who will have passed, and when -/
def Will (np ng : Nat) (r : Nat → Int32) (p j : Nat) : Prop := ∃ r' v, Ticks np ng j r r' v ∧ (r' (120 + 7 * p + 0) = 3 ∨ r' (120 + 7 * p + 0) = 5) ∧ ∀ i r'' w, i < j → Ticks np ng i r r'' w → (r'' (120 + 7 * p + 0) = 1 ∨ r'' (120 + 7 * p + 0) = 2 ∨ r'' (120 + 7 * p + 0) = 4)
theorem foresee29 : ∀ (k t : Nat) {σ : Mm} {r : Nat → Int32} {T : Nat}, t + k = 500 → T + k < 1073741824 → Rel σ r T ng np nx 1 → p < np → (r (120 + 7 * p + 0) = 1 ∨ r (120 + 7 * p + 0) = 2 ∨ r (120 + 7 * p + 0) = 4) → ∃ (σ' : Mm) (v : Int32), (∀ (S : Nat) (μ : Mm) (Φ : Int32 → Mm → Prop), Φ v (bl S σ' μ) → ∃ n, w_X8_ticksUntilPassed_8b Φ n S (S + 50 + p) (nI (t + 1)) (bl S σ μ)) ∧ (v = -5 ∨ ∃ j, 1 ≤ j ∧ j ≤ k ∧ v = nI (t + j) ∧ Will np ng r p j)
  | 0, t, σ, r, T, ht, hT, h, hp, hw => by
    refine ⟨σ, -5, fun S μ Φ hΦ => ⟨0 + 1, ?_⟩, Or.inl rfl⟩
    unfold w_X8_ticksUntilPassed_8b
    have e : (500 : Int32) < nI (t + 1) := nI_lt (a := 500) (b := t + 1) (by omega) (by omega)
    rw [if_pos e]
    exact hΦ
  | k + 1, t, σ, r, T, ht, hT, h, hp, hw => by
    have n2 := h.1.n.2.1
    have hp40 : p < 40 := by omega
    have c5 : ¬ (500 : Int32) < nI (t + 1) := nI_nlt (a := 500) (b := t + 1) (by omega) (by omega)
    obtain ⟨σ1, r1, v1, h1, hR, hE, hl, h2⟩ := sim_tick29 h (by omega)
    have f0 : r1 (120 + 7 * p + 0) = σ1 (50 + p) 2 := (h1.1.2.2.1 p 2 hp (by decide)).symm
    have hT1 : Ticks np ng 1 r r1 v1 := ⟨r1, v1, 0, hR, hE, ⟨rfl, rfl⟩, rfl⟩
    have h3 : ∀ (S : Nat) (μ : Mm) (Φ : Int32 → Mm → Prop), Φ (nI v1) (bl S σ1 μ) → w_X8_letTicksGo S 1 (bl S σ μ) Φ := fun S μ Φ hΦ => by
      unfold w_X8_letTicksGo
      rw [c_between29, if_neg (by decide)]
      refine ⟨0 + 1 + 1, ?_⟩
      unfold w_X8_letTicksGo_18
      rw [if_neg (by decide)]
      refine h2 S μ _ Φ 1 0 0 ?_
      show w_X8_letTicksGo_18 Φ (0 + 1) S 1 (0 + nI v1) (0 + 1) (bl S σ1 μ)
      unfold w_X8_letTicksGo_18
      rw [if_pos (by decide), Int32.zero_add]
      exact hΦ
    have CS : ∀ (S : Nat) (μ : Mm) (Φ : Int32 → Mm → Prop), (∃ n, (if σ1 (50 + p) 2 = 3 then Φ (nI (t + 1)) (bl S σ1 μ) else if σ1 (50 + p) 2 = 5 then Φ (nI (t + 1)) (bl S σ1 μ) else if σ1 (50 + p) 2 = 0 then Φ (-5) (bl S σ1 μ) else w_X8_ticksUntilPassed_8b Φ n S (S + 50 + p) (nI (t + 1 + 1)) (bl S σ1 μ))) → ∃ n, w_X8_ticksUntilPassed_8b Φ n S (S + 50 + p) (nI (t + 1)) (bl S σ μ) := by
      intro S μ Φ hn
      obtain ⟨n, hn⟩ := hn
      refine ⟨n + 1, ?_⟩
      unfold w_X8_ticksUntilPassed_8b
      rw [if_neg c5]
      refine h3 S μ _ ?_
      show (if _ = (3 : Int32) then _ else _)
      rw [bl_P hp40, ← nI_succ]
      exact hn
    obtain ⟨w, x1, xr, x2⟩ := rel_w h1 hp
    by_cases hin : w = 1 ∨ w = 2 ∨ w = 4
    · have hw1 : r1 (120 + 7 * p + 0) = 1 ∨ r1 (120 + 7 * p + 0) = 2 ∨ r1 (120 + 7 * p + 0) = 4 := by
        rw [xr]
        rcases hin with e | e | e <;> rw [e]
        · exact Or.inl rfl
        · exact Or.inr (Or.inl rfl)
        · exact Or.inr (Or.inr rfl)
      obtain ⟨σ', v, q1, q2⟩ := foresee29 k (t + 1) (by omega) (by omega) h1 hp hw1
      refine ⟨σ', v, fun S μ Φ hΦ => ?_, ?_⟩
      · obtain ⟨n, hn⟩ := q1 S μ Φ hΦ
        refine CS S μ Φ ⟨n, ?_⟩
        rw [← f0]
        rcases hw1 with e | e | e <;> rw [e, if_neg (by decide), if_neg (by decide), if_neg (by decide)] <;> exact hn
      · rcases q2 with e | ⟨j, j1, j2, e, r', u, y1, y2, y3⟩
        · exact Or.inl e
        · refine Or.inr ⟨j + 1, by omega, by omega, by rw [e]; congr 1; omega, r', v1 + u, ⟨r1, v1, u, hR, hE, y1, rfl⟩, y2, fun i r'' w' hi hi2 => ?_⟩
          cases i with
          | zero => rw [hi2.1]; exact hw
          | succ i =>
            obtain ⟨s1, a1, a2, b1, b2, b3, b4⟩ := hi2
            have es := hE.one b2
            subst es
            exact y3 i r'' a2 (by omega) b3
    · have hz : ∀ r'' w', Ticks np ng 0 r r'' w' → (r'' (120 + 7 * p + 0) = 1 ∨ r'' (120 + 7 * p + 0) = 2 ∨ r'' (120 + 7 * p + 0) = 4) := fun r'' w' h0 => by rw [h0.1]; exact hw
      rcases (show w = 0 ∨ w = 3 ∨ w = 5 by omega) with e | e | e
      · refine ⟨σ1, -5, fun S μ Φ hΦ => CS S μ Φ ⟨0, ?_⟩, Or.inl rfl⟩
        rw [x2, e, if_neg (by decide), if_neg (by decide), if_pos (by decide)]
        exact hΦ
      · refine ⟨σ1, nI (t + 1), fun S μ Φ hΦ => CS S μ Φ ⟨0, ?_⟩, Or.inr ⟨1, by omega, by omega, rfl, r1, v1, hT1, Or.inl (by rw [xr, e]; rfl), fun i r'' w' hi hi2 => ?_⟩⟩
        · rw [x2, e, if_pos (by decide)]
          exact hΦ
        · have : i = 0 := by omega
          subst this
          exact hz r'' w' hi2
      · refine ⟨σ1, nI (t + 1), fun S μ Φ hΦ => CS S μ Φ ⟨0, ?_⟩, Or.inr ⟨1, by omega, by omega, rfl, r1, v1, hT1, Or.inr (by rw [xr, e]; rfl), fun i r'' w' hi hi2 => ?_⟩⟩
        · rw [x2, e, if_neg (by decide), if_pos (by decide)]
          exact hΦ
        · have : i = 0 := by omega
          subst this
          exact hz r'' w' hi2
end TICKS
