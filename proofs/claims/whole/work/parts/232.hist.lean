/-! the history: both sides keep the last four states -/
section HIST
variable {σ τ : Mm} {r r' : Nat → Int32} {T ng np nx nl : Nat}
def HB (μ : Mm) (S : Nat) : Mm := fun q => μ (S + q)
theorem Rel.blk (h : Rel σ r T ng np nx nl) (e : ∀ q, q < 106 → τ q = σ q) : Rel τ r T ng np nx nl := by
  obtain ⟨n1, n2, n3, n4⟩ := h.1.n
  exact h.cp (fun j _ _ => by rw [e 0 (by decide)]) (by rw [e 5 (by decide)]) (by rw [e 5 (by decide)]) (fun q j _ _ _ => by rw [e q (by omega)]) (fun g j _ _ _ => by rw [e _ (by omega)]) (fun g e' _ _ => by rw [e _ (by omega)]) (fun g e' _ _ k _ _ j _ => by rw [e _ (by omega)]) (fun p j _ _ => by rw [e _ (by omega)]) (fun k j _ _ => by rw [e _ (by omega)]) (fun x j _ _ => by rw [e _ (by omega)])
theorem Rel.hb {S : Nat} {μ : Mm} (h : Rel σ r T ng np nx nl) : Rel (HB (bl S σ μ) S) r T ng np nx nl := h.blk (fun q hq => bl_at hq)
theorem Rel.row (h : Rel σ r T ng np nx nl) (e : ∀ i, i < 516 → r' i = r i) : Rel σ r' T ng np nx nl := by
  obtain ⟨hC, hVG, hVP, hVX, hRQ, hRN, hRU⟩ := h
  obtain ⟨n1, n2, n3, n4⟩ := hC.n
  obtain ⟨a, b, c, d, e', k⟩ := hC
  refine ⟨⟨?_, fun g f hg hf => ?_, fun p f hp hf => ?_, fun x f hx hf => ?_, fun x f hx hf => ?_, ?_⟩, fun g hg => VG_keep (fun f => rfl) (fun q hq _ _ => ⟨rfl, rfl, rfl⟩) (e _ (by omega)) (hVG g hg), hVP, hVX, KQ_same n1 (fun q j _ _ _ => rfl) (fun q hq => ⟨rfl, rfl⟩) (fun q hq => e _ (by omega)) hRQ, fun q hq hw => ?_, hRU⟩
  · unfold KC
    rw [e 1 (by decide), e 2 (by decide), e 3 (by decide), e 4 (by decide), e 6 (by decide), e 0 (by decide), e 7 (by decide)]
    exact a
  · have := gm_lt hf
    rw [e _ (by omega)]; exact b g f hg hf
  · have := pm_lt hf
    rw [e _ (by omega)]; exact c p f hp hf
  · rw [e _ (by omega)]; exact d x f hx hf
  · have := lm_lt hf
    rw [e _ (by omega)]; exact e' x f hx hf
  · obtain ⟨n, l, h1, h2, h3, h4, h5, h6⟩ := k
    exact ⟨n, l, h1, h2, h3, h4, by rw [e 5 (by decide)]; exact h5, fun k j hk hj => by
      rw [e _ (by omega)]
      exact h6 k j hk hj⟩
  · exact NumOk_keep (e _ (by omega)) (e 7 (by decide)) (e _ (by omega)) (e 1 (by decide)) (hRN q hq hw)
theorem Rel.mono {T' : Nat} (h : Rel σ r T ng np nx nl) (hT : T ≤ T') (hT' : T' < 1073741824) : Rel σ r T' ng np nx nl := by
  refine h.keep ?_ hT (fun _ _ _ _ _ => rfl) (fun _ _ _ => rfl)
  obtain ⟨a, b, c, d, e, k⟩ := h.1
  obtain ⟨a1, a2, a3, a4, a5, ⟨t, t1, t2⟩, ⟨m, m1, m2⟩, a8⟩ := a
  exact ⟨⟨a1, a2, a3, a4, a5, ⟨t, by omega, t2⟩, ⟨m, by omega, m2⟩, hT'⟩, b, c, d, e, k⟩
theorem up2_k {μ : Mm} {k j q : Nat} {v : Int32} (h : q ≠ k) : up2 μ k j v q = μ q := by
  unfold up2
  rw [if_neg h]
theorem ix516 (m i : Nat) : (516 : Int32) * nI m + nI i = nI (516 * m + i) := by
  rw [show (516 : Int32) = nI 516 from rfl, pk_mul, nI_add]
theorem ix516' (m : Nat) : (516 : Int32) * nI m = nI (516 * m) := by
  rw [show (516 : Int32) = nI 516 from rfl, pk_mul]
theorem begin_loop : ∀ (k i : Nat) (ρ : Mm), i + k = 516 → ∃ ρ' : Mm, (∀ q, q ≠ 2 → ρ' q = ρ q) ∧ (∀ a, i ≤ a → a < 516 → ρ' 2 a = ρ 1 a) ∧ (∀ a, a < i → ρ' 2 a = ρ 2 a) ∧ ∀ (Φ : Unit → Mm → Prop), Φ () ρ' → ∃ n, w_X10_begin_2 Φ n (nI i) ρ
  | 0, i, ρ, hi => by
    refine ⟨ρ, fun _ _ => rfl, fun a h1 h2 => by omega, fun _ _ => rfl, fun Φ hΦ => ⟨0 + 1, ?_⟩⟩
    have e : (516 : Int32) ≤ nI i := nI_le (a := 516) (b := i) (by omega) (by omega)
    unfold w_X10_begin_2
    rw [if_pos e]
    exact hΦ
  | k + 1, i, ρ, hi => by
    have e : ¬ (516 : Int32) ≤ nI i := nI_ge (a := i) (b := 516) (by omega) (by omega)
    obtain ⟨ρ', h1, h2, h3, h4⟩ := begin_loop k (i + 1) (up2 ρ 2 i (ρ 1 i)) (by omega)
    refine ⟨ρ', fun q hq => by rw [h1 q hq, up2_k hq], fun a a1 a2 => ?_, fun a ha => ?_, fun Φ hΦ => ?_⟩
    · by_cases ha : a = i
      · rw [ha, h3 i (by omega), up2_s]
      · rw [h2 a (by omega) a2, up2_n (Or.inl (by decide))]
    · rw [h3 a (by omega), up2_n (Or.inr (by omega))]
    · obtain ⟨n, hn⟩ := h4 Φ hΦ
      rw [nI_succ] at hn
      refine ⟨n + 1, ?_⟩
      unfold w_X10_begin_2
      rw [if_neg e, vin (show i < 516 by omega) (by decide), true_and, true_and, cl (by omega)]
      rintro _ rfl
      exact hn
theorem back_loop : ∀ (k i : Nat) (ρ : Mm), i + k = 516 → ∃ ρ' : Mm, (∀ q, q ≠ 1 → ρ' q = ρ q) ∧ (∀ a, i ≤ a → a < 516 → ρ' 1 a = ρ 2 a) ∧ (∀ a, a < i → ρ' 1 a = ρ 1 a) ∧ ∀ (Φ : Unit → Mm → Prop), Φ () ρ' → ∃ n, w_X10_goBack_2 Φ n (nI i) ρ
  | 0, i, ρ, hi => by
    refine ⟨ρ, fun _ _ => rfl, fun a h1 h2 => by omega, fun _ _ => rfl, fun Φ hΦ => ⟨0 + 1, ?_⟩⟩
    have e : (516 : Int32) ≤ nI i := nI_le (a := 516) (b := i) (by omega) (by omega)
    unfold w_X10_goBack_2
    rw [if_pos e]
    exact hΦ
  | k + 1, i, ρ, hi => by
    have e : ¬ (516 : Int32) ≤ nI i := nI_ge (a := i) (b := 516) (by omega) (by omega)
    obtain ⟨ρ', h1, h2, h3, h4⟩ := back_loop k (i + 1) (up2 ρ 1 i (ρ 2 i)) (by omega)
    refine ⟨ρ', fun q hq => by rw [h1 q hq, up2_k hq], fun a a1 a2 => ?_, fun a ha => ?_, fun Φ hΦ => ?_⟩
    · by_cases ha : a = i
      · rw [ha, h3 i (by omega), up2_s]
      · rw [h2 a (by omega) a2, up2_n (Or.inl (by decide))]
    · rw [h3 a (by omega), up2_n (Or.inr (by omega))]
    · obtain ⟨n, hn⟩ := h4 Φ hΦ
      rw [nI_succ] at hn
      refine ⟨n + 1, ?_⟩
      unfold w_X10_goBack_2
      rw [if_neg e, vin (show i < 516 by omega) (by decide), true_and, true_and, cl (by omega)]
      rintro _ rfl
      exact hn
theorem s_begin (ρ : Mm) : ∃ ρ' : Mm, (∀ q, q ≠ 2 → ρ' q = ρ q) ∧ (∀ a, a < 516 → ρ' 2 a = ρ 1 a) ∧ ∀ (Φ : Unit → Mm → Prop), Φ () ρ' → w_X10_begin ρ Φ := by
  obtain ⟨ρ', h1, h2, h3, h4⟩ := begin_loop 516 0 ρ (by omega)
  exact ⟨ρ', h1, fun a ha => h2 a (by omega) ha, fun Φ hΦ => h4 Φ hΦ⟩
theorem s_back (ρ : Mm) : ∃ ρ' : Mm, (∀ q, q ≠ 1 → ρ' q = ρ q) ∧ (∀ a, a < 516 → ρ' 1 a = ρ 2 a) ∧ ∀ (Φ : Unit → Mm → Prop), Φ () ρ' → w_X10_goBack ρ Φ := by
  obtain ⟨ρ', h1, h2, h3, h4⟩ := back_loop 516 0 ρ (by omega)
  exact ⟨ρ', h1, fun a ha => h2 a (by omega) ha, fun Φ hΦ => h4 Φ hΦ⟩
theorem undo_loop {m : Nat} (hm : m < 4) : ∀ (k i : Nat) (ρ : Mm), i + k = 516 → ρ 0 3 = nI m → ∃ ρ' : Mm, (∀ q, q ≠ 1 → ρ' q = ρ q) ∧ (∀ a, i ≤ a → a < 516 → ρ' 1 a = ρ 3 (516 * m + a)) ∧ (∀ a, a < i → ρ' 1 a = ρ 1 a) ∧ ∀ (Φ : Int32 → Mm → Prop), Φ (nI m) ρ' → ∃ n, w_X10_undo_22 Φ n (nI i) ρ
  | 0, i, ρ, hi, hk => by
    refine ⟨ρ, fun _ _ => rfl, fun a h1 h2 => by omega, fun _ _ => rfl, fun Φ hΦ => ⟨0 + 1, ?_⟩⟩
    have e : (516 : Int32) ≤ nI i := nI_le (a := 516) (b := i) (by omega) (by omega)
    unfold w_X10_undo_22
    rw [if_pos e, hk]
    exact hΦ
  | k + 1, i, ρ, hi, hk => by
    have e : ¬ (516 : Int32) ≤ nI i := nI_ge (a := i) (b := 516) (by omega) (by omega)
    obtain ⟨ρ', h1, h2, h3, h4⟩ := undo_loop hm k (i + 1) (up2 ρ 1 i (ρ 3 (516 * m + i))) (by omega) (by rw [up2_k (by decide)]; exact hk)
    refine ⟨ρ', fun q hq => by rw [h1 q hq, up2_k hq], fun a a1 a2 => ?_, fun a ha => ?_, fun Φ hΦ => ?_⟩
    · by_cases ha : a = i
      · rw [ha, h3 i (by omega), up2_s]
      · rw [h2 a (by omega) a2, up2_n (Or.inl (by decide))]
    · rw [h3 a (by omega), up2_n (Or.inr (by omega))]
    · obtain ⟨n, hn⟩ := h4 Φ hΦ
      rw [nI_succ] at hn
      refine ⟨n + 1, ?_⟩
      unfold w_X10_undo_22
      rw [if_neg e, hk, ix516, vin (show 516 * m + i < 2064 by omega) (by decide), vin (show i < 516 by omega) (by decide), true_and, true_and, cl (show i < 2147483648 by omega), cl (show 516 * m + i < 2147483648 by omega)]
      rintro _ rfl
      exact hn
theorem save_loop {m : Nat} (hm : m < 4) : ∀ (k i : Nat) (ρ : Mm), i + k = 516 → ρ 0 3 = nI m → ∃ ρ' : Mm, (∀ q, q ≠ 3 → ρ' q = ρ q) ∧ (∀ a, i ≤ a → a < 516 → ρ' 3 (516 * m + a) = ρ 2 a) ∧ (∀ b, b < 516 * m + i → ρ' 3 b = ρ 3 b) ∧ ∀ (v : Int32) (Φ : Int32 → Mm → Prop), Φ v (up2 ρ' 0 3 (nI (m + 1))) → ∃ n, w_X10_recorded_56 Φ n v (nI i) ρ
  | 0, i, ρ, hi, hk => by
    refine ⟨ρ, fun _ _ => rfl, fun a h1 h2 => by omega, fun _ _ => rfl, fun v Φ hΦ => ⟨0 + 1, ?_⟩⟩
    have e : (516 : Int32) ≤ nI i := nI_le (a := 516) (b := i) (by omega) (by omega)
    unfold w_X10_recorded_56
    rw [if_pos e, hk, nI_1]
    rintro _ rfl
    exact hΦ
  | k + 1, i, ρ, hi, hk => by
    have e : ¬ (516 : Int32) ≤ nI i := nI_ge (a := i) (b := 516) (by omega) (by omega)
    obtain ⟨ρ', h1, h2, h3, h4⟩ := save_loop hm k (i + 1) (up2 ρ 3 (516 * m + i) (ρ 2 i)) (by omega) (by rw [up2_k (by decide)]; exact hk)
    refine ⟨ρ', fun q hq => by rw [h1 q hq, up2_k hq], fun a a1 a2 => ?_, fun b hb => ?_, fun v Φ hΦ => ?_⟩
    · by_cases ha : a = i
      · rw [ha, h3 _ (by omega), up2_s]
      · rw [h2 a (by omega) a2, up2_n (Or.inl (by decide))]
    · rw [h3 b (by omega), up2_n (Or.inr (by omega))]
    · obtain ⟨n, hn⟩ := h4 v Φ hΦ
      rw [nI_succ] at hn
      refine ⟨n + 1, ?_⟩
      unfold w_X10_recorded_56
      rw [if_neg e, hk, ix516, vin (show 516 * m + i < 2064 by omega) (by decide), vin (show i < 516 by omega) (by decide), true_and, true_and, cl (show 516 * m + i < 2147483648 by omega), cl (show i < 2147483648 by omega)]
      rintro _ rfl
      exact hn
theorem shift_loop : ∀ (k i : Nat) (ρ : Mm), i + k = 1548 → ρ 0 3 = nI 3 → ∃ ρ' : Mm, (∀ q, q ≠ 3 → ρ' q = ρ q) ∧ (∀ a, i ≤ a → a < 1548 → ρ' 3 a = ρ 3 (a + 516)) ∧ (∀ b, b < i → ρ' 3 b = ρ 3 b) ∧ ∀ (v : Int32) (Φ : Int32 → Mm → Prop), (∃ n, w_X10_recorded_56 Φ n v 0 ρ') → ∃ n, w_X10_recorded_20 Φ n v (nI i) ρ
  | 0, i, ρ, hi, hk => by
    refine ⟨ρ, fun _ _ => rfl, fun a h1 h2 => by omega, fun _ _ => rfl, fun v Φ hΦ => ⟨0 + 1, ?_⟩⟩
    unfold w_X10_recorded_20
    rw [hk, ix516', if_pos (nI_le (by omega) (by omega))]
    exact hΦ
  | k + 1, i, ρ, hi, hk => by
    obtain ⟨ρ', h1, h2, h3, h4⟩ := shift_loop k (i + 1) (up2 ρ 3 i (ρ 3 (i + 516))) (by omega) (by rw [up2_k (by decide)]; exact hk)
    refine ⟨ρ', fun q hq => by rw [h1 q hq, up2_k hq], fun a a1 a2 => ?_, fun b hb => ?_, fun v Φ hΦ => ?_⟩
    · by_cases ha : a = i
      · rw [ha, h3 _ (by omega), up2_s]
      · rw [h2 a (by omega) a2, up2_n (Or.inr (by omega))]
    · rw [h3 b (by omega), up2_n (Or.inr (by omega))]
    · obtain ⟨n, hn⟩ := h4 v Φ hΦ
      rw [nI_succ] at hn
      refine ⟨n + 1, ?_⟩
      unfold w_X10_recorded_20
      rw [hk, ix516', if_neg (nI_ge (by omega) (by omega)), show nI i + (516 : Int32) = nI (i + 516) from nI_add i 516, vin (show i + 516 < 2064 by omega) (by decide), vin (show i < 2064 by omega) (by decide), true_and, true_and, cl (show i < 2147483648 by omega), cl (show i + 516 < 2147483648 by omega)]
      rintro _ rfl
      exact hn
/-- one more state kept by the reference, the oldest gone if there were four -/
theorem s_recorded {m : Nat} (hm : m ≤ 4) (ρ : Mm) (hk : ρ 0 3 = nI m) : ∃ (ρ' : Mm) (m0 d : Nat), ((m < 4 ∧ m0 = m ∧ d = 0) ∨ (m = 4 ∧ m0 = 3 ∧ d = 1)) ∧ (∀ q, q ≠ 3 → q ≠ 0 → ρ' q = ρ q) ∧ (∀ j, j ≠ 3 → ρ' 0 j = ρ 0 j) ∧ ρ' 0 3 = nI (m0 + 1) ∧ (∀ j a, j < m0 → a < 516 → ρ' 3 (516 * j + a) = ρ 3 (516 * (j + d) + a)) ∧ (∀ a, a < 516 → ρ' 3 (516 * m0 + a) = ρ 2 a) ∧ ∀ (v : Int32) (Φ : Int32 → Mm → Prop), Φ v ρ' → w_X10_recorded v ρ Φ := by
  by_cases h4 : m = 4
  · subst h4
    obtain ⟨ρ1, e1⟩ : ∃ ρ1 : Mm, ρ1 = up2 ρ 0 3 (nI 3) := ⟨_, rfl⟩
    obtain ⟨ρ2, a1, a2, a3, a4⟩ := shift_loop 1548 0 ρ1 (by omega) (by rw [e1, up2_s])
    obtain ⟨ρ3, b1, b2, b3, b4⟩ := save_loop (m := 3) (by decide) 516 0 ρ2 (by omega) (by rw [a1 0 (by decide), e1, up2_s])
    refine ⟨up2 ρ3 0 3 (nI 4), 3, 1, Or.inr ⟨rfl, rfl, rfl⟩, fun q h1 h2 => ?_, fun j hj => ?_, up2_s _ _ _ _, fun j a hj ha => ?_, fun a ha => ?_, fun v Φ hΦ => ?_⟩
    · rw [up2_k h2, b1 q h1, a1 q h1, e1, up2_k h2]
    · rw [up2_n (Or.inr hj), b1 0 (by decide), a1 0 (by decide), e1, up2_n (Or.inr hj)]
    · rw [up2_k (by decide), b3 _ (by omega), a2 _ (by omega) (by omega), e1, up2_k (by decide)]
      congr 1
      omega
    · rw [up2_k (by decide), b2 a (by omega) ha, a1 2 (by decide), e1, up2_k (by decide)]
    · unfold w_X10_recorded
      rw [hk, if_pos (by decide)]
      rintro _ rfl
      rw [show nI 4 - (1 : Int32) = nI 3 from rfl, ← e1]
      exact a4 v Φ (b4 v Φ hΦ)
  · obtain ⟨ρ3, b1, b2, b3, b4⟩ := save_loop (m := m) (by omega) 516 0 ρ (by omega) hk
    refine ⟨up2 ρ3 0 3 (nI (m + 1)), m, 0, Or.inl ⟨by omega, rfl, rfl⟩, fun q h1 h2 => ?_, fun j hj => ?_, up2_s _ _ _ _, fun j a hj ha => ?_, fun a ha => ?_, fun v Φ hΦ => ?_⟩
    · rw [up2_k h2, b1 q h1]
    · rw [up2_n (Or.inr hj), b1 0 (by decide)]
    · rw [up2_k (by decide), b3 _ (by omega)]
      rfl
    · rw [up2_k (by decide), b2 a (by omega) ha]
    · unfold w_X10_recorded
      have h4' : ¬ nI m = 4 := fun e => by have := nI_inj (a := m) (b := 4) (by omega) (by omega) e; omega
      rw [hk, if_neg h4']
      exact b4 v Φ hΦ
end HIST
