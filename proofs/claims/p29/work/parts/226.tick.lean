/-! ticks -/
def tot (r : Nat → Int32) : Nat → Int32
  | 0 => 0
  | n + 1 => tot r n + (r (8 + 14 * n + 10) + r (8 + 14 * n + 11))
theorem tot_same {r r' : Nat → Int32} : ∀ {n : Nat}, (∀ g, g < n → r' (8 + 14 * g + 10) = r (8 + 14 * g + 10) ∧ r' (8 + 14 * g + 11) = r (8 + 14 * g + 11)) → tot r' n = tot r n
  | 0, _ => rfl
  | n + 1, h => by
    unfold tot
    rw [tot_same (fun g hg => h g (by omega)), (h n (by omega)).1, (h n (by omega)).2]
theorem tot_step {r r' : Nat → Int32} {v : Int32} {g : Nat} : ∀ {n : Nat}, g < n → r' (8 + 14 * g + 10) + r' (8 + 14 * g + 11) = r (8 + 14 * g + 10) + r (8 + 14 * g + 11) + v → (∀ g', g' < n → g' ≠ g → r' (8 + 14 * g' + 10) = r (8 + 14 * g' + 10) ∧ r' (8 + 14 * g' + 11) = r (8 + 14 * g' + 11)) → tot r' n = tot r n + v
  | 0, hg, _, _ => absurd hg (Nat.not_lt_zero _)
  | n + 1, hg, h1, h2 => by
    unfold tot
    by_cases e : g = n
    · subst e
      rw [tot_same (fun g' hg' => h2 g' (by omega) (by omega)), h1]
      exact (Int32.add_assoc _ _ _).symm
    · rw [tot_step (by omega) h1 (fun g' hg' hne => h2 g' (by omega) hne), (h2 n (by omega) (by omega)).1, (h2 n (by omega) (by omega)).2, Int32.add_assoc, Int32.add_comm v, ← Int32.add_assoc]
section TICK
variable {σ : Mm} {r : Nat → Int32} {T ng np nx nl g p : Nat}
theorem KQ_same {σ σ' : Mm} {r r' : Nat → Int32} {ng np : Nat} (n1 : ng ≤ 8) (hq : ∀ q j, 11 ≤ q → q < 50 → (∀ g, 10 + 5 * g ≠ q) → σ' q j = σ q j) (hp : ∀ q, q < np → σ' (50 + q) 2 = σ (50 + q) 2 ∧ σ' (50 + q) 3 = σ (50 + q) 3) (hr : ∀ q, q < np → r' (120 + 7 * q + 6) = r (120 + 7 * q + 6)) (h : KQ σ r ng np) : KQ σ' r' ng np := by
  intro g e hg he
  obtain ⟨n, a, b1, b2, b3, b4, b5⟩ := h g e hg he
  refine ⟨n, a, b1, by rw [hq _ _ (by omega) (by omega) (fun g' => by omega)]; exact b2, fun i hi => ?_, fun i j hij hj => ?_, fun q hqn => ?_⟩
  · have h2 := (b3 i hi).2.1
    rw [hq _ _ (by omega) (by omega) (fun g' => by omega), (hp _ h2).1, (hp _ h2).2]
    exact b3 i hi
  · rw [hr _ (b3 i (by omega)).2.1, hr _ (b3 j hj).2.1]
    exact b4 i j hij hj
  · rw [(hp q hqn).1, (hp q hqn).2]
    exact b5 q hqn
theorem VP_mono {T' : Nat} (hT : T ≤ T') (h : VP σ T nx p) : VP σ T' nx p := by
  obtain ⟨w, x1, x2, x3, x4, x5, x6, x7, x8⟩ := h
  exact ⟨w, x1, x2, x3, x4, x5, x6, fun hw => by
    obtain ⟨s, h1, h2⟩ := x7 hw
    exact ⟨s, by omega, h2⟩, x8⟩
/-- what touches no gate, person, queue and pass keeps all that is said of them -/
theorem Rel.keep {σ' : Mm} {r' : Nat → Int32} {T' : Nat} (h : Rel σ r T ng np nx nl) (hC : Core σ' r' T' ng np nx nl) (hT : T ≤ T') (o : ∀ q j, 10 ≤ q → q < 106 → (90 ≤ q → q < 94 → 2 ≤ j ∧ j ≤ 3) → σ' q j = σ q j) (ro : ∀ i, 7 ≤ i → i < 400 → r' i = r i) : Rel σ' r' T' ng np nx nl := by
  obtain ⟨hC0, hVG, hVP, hVX, hRQ, hRN, hRU⟩ := h
  obtain ⟨n1, n2, n3, n4⟩ := hC0.n
  refine ⟨hC, fun g hg => VG_keep (fun f => o _ _ (by omega) (by omega) (by omega)) (fun q hq _ _ => ⟨o _ _ (by omega) (by omega) (by omega), o _ _ (by omega) (by omega) (by omega), o _ _ (by omega) (by omega) (by omega)⟩) (ro _ (by omega) (by omega)) (hVG g hg), fun q hq => VP_mono hT (VP_keep (fun f => o _ _ (by omega) (by omega) (by omega)) (hVP q hq)), fun x hx => VX_keep (fun f _ => o _ _ (by omega) (by omega) (by omega)) (hVX x hx), ?_, ?_, ?_⟩
  · exact KQ_same n1 (fun q j h1 h2 _ => o _ _ (by omega) (by omega) (by omega)) (fun q hq => ⟨o _ _ (by omega) (by omega) (by omega), o _ _ (by omega) (by omega) (by omega)⟩) (fun q hq => ro _ (by omega) (by omega)) hRQ
  · intro q hq hw
    rw [o _ _ (by omega) (by omega) (by omega)] at hw
    exact NumOk_keep (ro _ (by omega) (by omega)) (ro 7 (by omega) (by omega)) (ro _ (by omega) (by omega)) (hC.1.1.2.1.trans hC0.1.1.2.1.symm) (hRN q hq hw)
  · obtain ⟨u1, u2, u3⟩ := hRU
    have hus : ∀ q x, q < np → usB σ' q x = usB σ q x := fun q x hq => by
      unfold usB
      rw [o _ _ (by omega) (by omega) (by omega), inB_keep (o _ _ (by omega) (by omega) (by omega))]
    have hx0 : ∀ x, x < nx → σ' (94 + x) 0 = σ (94 + x) 0 := fun x hx => o _ _ (by omega) (by omega) (by omega)
    have hpl : ∀ q k, q < np → plB σ' q k = plB σ q k := fun q k hq => by
      unfold plB
      rw [o _ 0 (by omega) (by omega) (by omega), inB_keep (o _ _ (by omega) (by omega) (by omega))]
      obtain ⟨w, x1, x2, x3, x4, -⟩ := hVP q hq
      rcases x4 with x4 | ⟨x, hx, x4⟩
      · rw [x4]; rfl
      · rw [x4, nI_clamp (by omega), hx0 x hx]
    refine ⟨fun x hx => ?_, fun k hk => ?_, fun k hk => ?_⟩
    · rw [o _ _ (by omega) (by omega) (by omega)]
      rcases u1 x hx with ⟨a, b⟩ | ⟨p, a, b, c, d⟩
      · exact Or.inl ⟨a, fun p hp => by rw [hus p x hp]; exact b p hp⟩
      · exact Or.inr ⟨p, a, b, by rw [hus p x a]; exact c, fun q hq hu => d q hq (by rw [← hus q x hq]; exact hu)⟩
    · rw [o _ _ (by omega) (by omega) (by omega), u2 k hk]
      congr 1
      exact cnt_congr (fun i hi => (hpl i k hi).symm)
    · rw [o _ _ (by omega) (by omega) (by omega), u3 k hk]
      congr 1
      exact cnt_congr (fun i hi => by rw [hx0 i hi])
theorem Rel.tick (h : Rel σ r T ng np nx nl) (hT : T + 1 < 1073741824) : Rel (up2 σ 0 9 (σ 0 9 + 1)) (upd r 0 (r 0 + 1)) (T + 1) ng np nx nl := by
  refine h.keep ?_ (by omega) (fun q j h1 _ _ => up2_n (Or.inl (by omega))) (fun i h1 _ => pk_un (by omega))
  have hC := h.1
  obtain ⟨n1, n2, n3, n4⟩ := hC.n
  obtain ⟨a, b, c, d, e, k⟩ := hC
  refine ⟨?_, KG_r (by omega) n1 (KG_c (fun g hg => by omega) b), KP_r (by omega) n2 (KP_c (by omega) n2 c), KX_r (by omega) n3 (KX_c (by omega) n3 d), KL_r (by omega) n4 (KL_c (by omega) n4 e), KE_r (by omega) (KE_c (by omega) k)⟩
  obtain ⟨a1, a2, a3, a4, a5, ⟨t, t1, t2, t3⟩, ⟨m, m1, m2⟩, a8⟩ := a
  have o : ∀ j, j ≠ 9 → up2 σ 0 9 (σ 0 9 + 1) 0 j = σ 0 j := fun j hj => up2_n (Or.inr hj)
  have ro : ∀ i, i ≠ 0 → upd r 0 (r 0 + 1) i = r i := fun i hi => pk_un hi
  refine ⟨?_, ?_, ?_, ?_, ?_, ⟨t + 1, by omega, ?_, ?_⟩, ⟨m, by omega, ?_⟩, hT⟩
  · rw [o _ (by decide), ro _ (by decide)]; exact a1
  · rw [o _ (by decide), ro _ (by decide)]; exact a2
  · rw [o _ (by decide), ro _ (by decide)]; exact a3
  · rw [o _ (by decide), ro _ (by decide)]; exact a4
  · rw [o _ (by decide), ro _ (by decide)]; exact a5
  · rw [up2_s, t2, nI_1]
  · rw [pk_us, t3, nI_1]
  · rw [ro _ (by decide)]; exact m2
theorem gates_loop : ∀ (k i : Nat) {σ : Mm} {r : Nat → Int32}, i + k = ng → Rel σ r T ng np nx nl → ∃ σ' r' v, Rel σ' r' T ng np nx nl ∧ (∀ (S : Nat) (μ : Mm) (X : Nat → Int32 → Int32 → Int32 → Mm → Prop) (Φ : Int32 → Mm → Prop) (x1 c x3 : Int32), X S x1 (c + v) (x3 + 1) (bl S (up2 σ' 0 9 (σ' 0 9 + 1)) μ) → ∃ n, w_X8_letTicksGo_26 X Φ n S x1 c x3 (nI i) (bl S σ μ)) ∧ (∀ (ρ : Mm) (Φ : Unit → Mm → Prop), Φ () (rw1 ρ (upd r' 0 (r' 0 + 1))) → ∃ n, w_X10_tick_2 Φ n (nI i) (rw1 ρ r)) ∧ tot r' ng = tot r ng + v
  | 0, i, σ, r, hi, h => by
    have hng := h.1.n.1
    refine ⟨σ, r, 0, h, fun S μ X Φ x1 c x3 hX => ⟨0 + 1, ?_⟩, fun ρ Φ hΦ => ⟨0 + 1, ?_⟩, (Int32.add_zero _).symm⟩
    · unfold w_X8_letTicksGo_26
      rw [bl_0, h.1.1.1.1, if_pos (nI_le (by omega) (by omega))]
      rintro _ rfl
      rw [up2_bl0]
      rw [Int32.add_zero] at hX
      exact hX
    · unfold w_X10_tick_2
      rw [rw1_1, show (1 : Int32).toNatClampNeg = 1 from rfl, h.1.1.1.2.1, if_pos (nI_le (by omega) (by omega))]
      rintro _ rfl
      rw [show (0 : Int32).toNatClampNeg = 0 from rfl, up2_rw1]
      exact hΦ
  | k + 1, i, σ, r, hi, h => by
    have hg : i < ng := by omega
    have hng := h.1.n.1
    obtain ⟨σ1, r1, v, ⟨s1, s2, s3, s4, s5⟩⟩ := sim_step h hg
    obtain ⟨σ', r', w, t1, t2, t3, t4⟩ := gates_loop k (i + 1) (by omega) s1
    have h8 : ¬ (8 : Int32) ≤ nI i := nI_ge (a := i) (b := 8) (by omega) (by omega)
    refine ⟨σ', r', v + w, t1, fun S μ X Φ x1 c x3 hX => ?_, fun ρ Φ hΦ => ?_, ?_⟩
    · obtain ⟨n, hn⟩ := t2 S μ X Φ x1 (c + v) x3 (by rw [Int32.add_assoc]; exact hX)
      rw [nI_succ] at hn
      refine ⟨n + 1, ?_⟩
      unfold w_X8_letTicksGo_26
      rw [bl_0, h.1.1.1.1, if_neg (nI_ge hg (by omega)), if_neg h8, vin (show i < 8 by omega) (by decide), true_and, cl (by omega)]
      exact s2 S μ _ hn
    · obtain ⟨n, hn⟩ := t3 ρ Φ hΦ
      rw [nI_succ] at hn
      refine ⟨n + 1, ?_⟩
      unfold w_X10_tick_2
      rw [rw1_1, show (1 : Int32).toNatClampNeg = 1 from rfl, h.1.1.1.2.1, if_neg (nI_ge hg (by omega))]
      exact s3 ρ _ hn
    · rw [t4, tot_step hg s4 (fun g' hg' hne => s5 g' (by omega) hne), Int32.add_assoc]
/-- one tick -/
theorem sim_tick (h : Rel σ r T ng np nx nl) (hT : T + 1 < 1073741824) : ∃ σ' r' v, Rel σ' r' (T + 1) ng np nx nl ∧ (∀ (S : Nat) (μ : Mm) (X : Nat → Int32 → Int32 → Int32 → Mm → Prop) (Φ : Int32 → Mm → Prop) (x1 c x3 : Int32), X S x1 (c + v) (x3 + 1) (bl S σ' μ) → ∃ n, w_X8_letTicksGo_26 X Φ n S x1 c x3 0 (bl S σ μ)) ∧ (∀ (ρ : Mm) (Φ : Unit → Mm → Prop), Φ () (rw1 ρ r') → w_X10_tick (rw1 ρ r) Φ) ∧ tot r' ng = tot r ng + v := by
  obtain ⟨σ', r', v, h1, h2, h3, h4⟩ := gates_loop ng 0 (by omega) h
  refine ⟨_, _, v, h1.tick hT, fun S μ X Φ x1 c x3 hX => h2 S μ X Φ x1 c x3 hX, fun ρ Φ hΦ => h3 ρ Φ hΦ, ?_⟩
  rw [← h4]
  exact tot_same (fun g hg => ⟨pk_un (by omega), pk_un (by omega)⟩)
theorem s_passed {ρ : Mm} {Φ : Int32 → Mm → Prop} (h1 : r 1 = nI ng) (hn : ng ≤ 8) : w_X10_passed (rw1 ρ r) Φ = Φ (tot r ng) (rw1 ρ r) := by
  have key : ∀ (k i : Nat), i + k = ng → (∃ n, w_X10_passed_4 Φ n (tot r i) (nI i) (rw1 ρ r)) = Φ (tot r ng) (rw1 ρ r) := by
    intro k
    induction k with
    | zero =>
      intro i hi
      rw [ex_succ (fun h => h)]
      have hin : i = ng := by omega
      subst hin
      simp only [w_X10_passed_4, rw1_1, show (1 : Int32).toNatClampNeg = 1 from rfl, h1, if_pos (nI_le (Nat.le_refl i) (show i < 2 ^ 31 by omega)), exists_const]
    | succ k ih =>
      intro i hi
      rw [ex_succ (fun h => h)]
      simp only [w_X10_passed_4, rw1_1, show (1 : Int32).toNatClampNeg = 1 from rfl, h1, if_neg (nI_ge (show i < ng by omega) (show ng < 2 ^ 31 by omega)), s_gateOf_10 (show i < 8 by omega), s_gateOf_11 (show i < 8 by omega)]
      have e := ih (i + 1) (by omega)
      rw [nI_succ] at e
      exact e
  exact key ng 0 (by omega)
theorem ticks_loop {a : Nat} (ha : a < 1073741824) : ∀ (k i : Nat) {σ : Mm} {r : Nat → Int32} {T : Nat}, i + k = a → T + k < 1073741824 → Rel σ r T ng np nx nl → ∃ σ' r' v, Rel σ' r' (T + k) ng np nx nl ∧ (∀ (S : Nat) (μ : Mm) (Φ : Int32 → Mm → Prop) (c : Int32), Φ (c + v) (bl S σ' μ) → ∃ n, w_X8_letTicksGo_18 Φ n S (nI a) c (nI i) (bl S σ μ)) ∧ (∀ (ρ : Mm) (Φ : Int32 → Mm → Prop) (b : Int32), Φ (tot r' ng - b) (rw1 ρ r') → ∃ n, w_X10_doPass_21 Φ n (nI a) b (nI i) (rw1 ρ r)) ∧ tot r' ng = tot r ng + v
  | 0, i, σ, r, T, hi, hT, h => by
    refine ⟨σ, r, 0, h, fun S μ Φ c hΦ => ⟨0 + 1, ?_⟩, fun ρ Φ b hΦ => ⟨0 + 1, ?_⟩, (Int32.add_zero _).symm⟩
    · unfold w_X8_letTicksGo_18
      rw [if_pos (nI_le (by omega) (by omega))]
      rw [Int32.add_zero] at hΦ
      exact hΦ
    · unfold w_X10_doPass_21
      rw [if_pos (nI_le (by omega) (by omega)), s_passed h.1.1.1.2.1 h.1.n.1]
      exact hΦ
  | k + 1, i, σ, r, T, hi, hT, h => by
    obtain ⟨σ1, r1, v, s1, s2, s3, s4⟩ := sim_tick h (by omega)
    obtain ⟨σ', r', w, t1, t2, t3, t4⟩ := ticks_loop ha k (i + 1) (by omega) (by omega) s1
    refine ⟨σ', r', v + w, by rw [show T + (k + 1) = T + 1 + k by omega]; exact t1, fun S μ Φ c hΦ => ?_, fun ρ Φ b hΦ => ?_, ?_⟩
    · obtain ⟨n, hn⟩ := t2 S μ Φ (c + v) (by rw [Int32.add_assoc]; exact hΦ)
      rw [nI_succ] at hn
      refine ⟨n + 1, ?_⟩
      unfold w_X8_letTicksGo_18
      rw [if_neg (nI_ge (by omega) (by omega))]
      exact s2 S μ _ Φ _ _ _ hn
    · obtain ⟨n, hn⟩ := t3 ρ Φ b hΦ
      rw [nI_succ] at hn
      refine ⟨n + 1, ?_⟩
      unfold w_X10_doPass_21
      rw [if_neg (nI_ge (by omega) (by omega))]
      exact s3 ρ _ hn
    · rw [t4, s4, Int32.add_assoc]
end TICK
