/-! pools and passes agree -/
section POOLS29
variable {r : Nat → Int32} {ng np nx nl g p x T B : Nat} {μ σ : Mm} {Φ : Int32 → Mm → Prop}
def nB (r : Nat → Int32) (p : Nat) : Bool := decide (¬ r (120 + 7 * p + 1) < 0) && (decide (¬ r (120 + 7 * p + 0) ≤ 1) && decide (¬ 5 ≤ r (120 + 7 * p + 0)))
theorem iB_w : ∀ w, w ≤ 5 → (decide (¬ nI w < 2) && decide (¬ 4 < nI w)) = (decide (¬ nI w ≤ 1) && decide (¬ 5 ≤ nI w)) := by decide
theorem iB_n (h : Rel σ r T ng np nx nl) (hp : p < np) : iB r p = (decide (¬ r (120 + 7 * p + 0) ≤ 1) && decide (¬ 5 ≤ r (120 + 7 * p + 0))) := by
  obtain ⟨w, w5, ew, -⟩ := rel_w h hp
  unfold iB
  rw [ew]
  exact iB_w w w5
theorem nB_o (h : Rel σ r T ng np nx 1) : cnt (nB r) np = cnt (oB r 0) np := cnt_congr (fun p hp => by
  have n3 := h.1.n.2.2.1
  unfold nB oB
  rw [iB_n h hp]
  rcases rel_pass h hp with e | ⟨x, hx, e, e0⟩
  · rw [e]; rfl
  · rw [e, cl (show x < 2147483648 by omega), e0, decide_eq_true (p := (0 : Int32) = 0) rfl, Bool.true_and])
theorem user_spec (h : Rel σ r T ng np nx nl) (hx : x < nx) (hp : p < np) : (fnd (uB r (nI x)) np 0 = nI p) ↔ uB r (nI x) p = true := by
  have n2 := h.1.n.2.1
  rw [user_is h.1 h.2.2.1 h.2.2.2.2.2.2 hx, u_is h.1 hp (h.2.2.1 p hp) x]
  rcases h.2.2.2.2.2.2.1 x hx with ⟨h1, h2⟩ | ⟨p0, h1, h2, h3, h4⟩
  · rw [h1, h2 p hp]
    exact ⟨fun e => absurd e.symm (nI_n5 (by omega)), fun e => absurd e (by decide)⟩
  · rw [h2]
    refine ⟨fun e => ?_, fun e => ?_⟩
    · rw [← nI_inj (by omega) (by omega) e]; exact h3
    · rw [h4 p hp e]
theorem law_p194 {a b : Int32} {X : Int32 → Int32 → Int32 → Mm → Prop} (h : Rel (HB μ 1) r T ng np nx 1) (hx : x < nx) (H : X a b (nI x + 1) μ) : ∀ (k i : Nat), i + k = np → ∃ n, w_L_pools_194 X Φ n a b (nI x) (fnd (uB r (nI x)) np 0) (nI i) μ
  | 0, i, hi => by
    have e : i = np := by omega
    rw [e]
    have n2 := h.1.n.2.1
    refine ⟨0 + 1, ?_⟩
    unfold w_L_pools_194
    rw [rc_2 h, if_pos (nI_le (Nat.le_refl _) (by omega))]
    exact H
  | k + 1, i, hi => by
    obtain ⟨n, hn⟩ := law_p194 h hx H k (i + 1) (by omega)
    have hp : i < np := by omega
    have n2 := h.1.n.2.1
    have us := user_spec h hx hp
    have hn' : w_L_pools_194 X Φ n a b (nI x) (fnd (uB r (nI x)) np 0) (nI i + 1) μ := by rw [nI_1]; exact hn
    have K0 : uB r (nI x) i = false → w_L_pools_240 X (fun y0 y1 y2 y3 y4 u => w_L_pools_194 X Φ n y0 y1 y2 y3 y4 u) Φ a b (nI x) (fnd (uB r (nI x)) np 0) (nI i) μ := fun hb => by
      unfold w_L_pools_240 w_L_pools_241
      rw [if_neg (show ¬ fnd (uB r (nI x)) np 0 = nI i from fun e => by rw [us.mp e] at hb; exact absurd hb (by decide)), if_pos rfl]
      exact hn'
    have K1 : uB r (nI x) i = true → w_L_pools_241 X (fun y0 y1 y2 y3 y4 u => w_L_pools_194 X Φ n y0 y1 y2 y3 y4 u) Φ a b (nI x) (fnd (uB r (nI x)) np 0) (nI i) 1 μ := fun hb => by
      unfold w_L_pools_241
      rw [if_pos (us.mpr hb), if_pos rfl]
      exact hn'
    have eu : uB r (nI x) i = (decide (r (120 + 7 * i + 1) = nI x) && (decide (¬ r (120 + 7 * i + 0) ≤ 1) && decide (¬ 5 ≤ r (120 + 7 * i + 0)))) := by
      unfold uB
      rw [iB_n h hp]
    refine ⟨n + 1, ?_⟩
    unfold w_L_pools_194
    rw [rc_2 h, if_neg (nI_ge hp (by omega)), rp_0 h hp, rp_1 h hp]
    by_cases h1 : r (120 + 7 * i + 1) = nI x
    · rw [if_pos h1]
      by_cases h2 : r (120 + 7 * i + 0) ≤ 1
      · rw [if_pos h2]
        exact K0 (by rw [eu, decide_eq_false (p := ¬ r (120 + 7 * i + 0) ≤ 1) (fun q => q h2), Bool.false_and, Bool.and_false])
      · rw [if_neg h2]
        by_cases h3 : 5 ≤ r (120 + 7 * i + 0)
        · rw [if_pos h3]
          exact K0 (by rw [eu, decide_eq_false (p := ¬ 5 ≤ r (120 + 7 * i + 0)) (fun q => q h3), Bool.and_false, Bool.and_false])
        · rw [if_neg h3]
          exact K1 (by rw [eu, decide_eq_true h1, decide_eq_true h2, decide_eq_true h3]; rfl)
    · rw [if_neg h1]
      exact K0 (by rw [eu, decide_eq_false h1, Bool.false_and])
theorem law_p174 (h : Rel (HB μ 1) r T ng np nx 1) (H : Φ 1 μ) : ∀ (k i : Nat), i + k = nx → ∃ n, w_L_pools_174 Φ n (0 + r 426) (nI nx) (nI i) μ
  | 0, i, hi => by
    have e : i = nx := by omega
    rw [e]
    have n3 := h.1.n.2.2.1
    refine ⟨0 + 1, ?_⟩
    unfold w_L_pools_174
    rw [rx_n h (Or.inr (nI_le (Nat.le_refl _) (by omega))), if_pos (by decide)]
    refine rc_8 h ?_
    show (if _ then _ else _)
    rw [if_pos rfl, if_pos rfl, rx_n h (Or.inr (nI_le (Nat.le_refl _) (by omega))), if_pos rfl]
    exact H
  | k + 1, i, hi => by
    obtain ⟨n, hn⟩ := law_p174 h H k (i + 1) (by omega)
    have hx : i < nx := by omega
    refine ⟨n + 1, ?_⟩
    unfold w_L_pools_174
    rw [rx_0 h hx, if_neg (by decide), rx_2 h hx]
    exact law_p194 h hx (by rw [nI_1]; exact hn) np 0 (by omega)
theorem law_p32 {X : Int32 → Int32 → Int32 → Mm → Prop} (h : Rel (HB μ 1) r T ng np nx 1) (hJ : J B r ng np) (H : X (0 + r 426) (0 + nI nx) (0 + 1) μ) : ∀ (k i : Nat), i + k = np → ∃ n, w_L_pools_32 X Φ n 0 0 0 (nI (cnt (nB r) i)) (nI i) μ
  | 0, i, hi => by
    have e : i = np := by omega
    rw [e]
    have n2 := h.1.n.2.1
    have hoi := oB_iB hJ
    obtain ⟨-, -, -, ⟨c, lim, ⟨l0, l1⟩, l2, l3, l4, l5, l6⟩, -⟩ := hJ
    refine ⟨0 + 1, ?_⟩
    unfold w_L_pools_32
    rw [rc_2 h, if_pos (nI_le (Nat.le_refl _) (by omega)), rl_4 h, rl_3 h, rl_2 h, if_pos (by rw [nB_o h]), rl_1 h, l5, if_neg (nI_nlt (by rw [nB_o h, hoi]; exact l6) (by omega)), rl_0 h, l2, if_neg (nI_pos (by omega)), rl_5 h, if_pos rfl]
    exact H
  | k + 1, i, hi => by
    obtain ⟨n, hn⟩ := law_p32 h hJ H k (i + 1) (by omega)
    have hp : i < np := by omega
    have n2 := h.1.n.2.1
    have n3 := h.1.n.2.2.1
    rw [cnt_s] at hn
    have K0 : nB r i = false → w_L_pools_32 X Φ n 0 0 0 (nI (cnt (nB r) i) + 0) (nI i + 1) μ := fun hb => by
      rw [hb, if_neg (by decide)] at hn
      rw [nI_1]
      exact hn
    have K1 : nB r i = true → w_L_pools_32 X Φ n 0 0 0 (nI (cnt (nB r) i) + 1) (nI i + 1) μ := fun hb => by
      rw [hb, if_pos rfl] at hn
      rw [nI_1 i]
      exact hn
    refine ⟨n + 1, ?_⟩
    unfold w_L_pools_32
    rw [rc_2 h, if_neg (nI_ge hp (by omega)), rp_1 h hp, rp_0 h hp]
    have en : nB r i = (decide (¬ r (120 + 7 * i + 1) < 0) && (decide (¬ r (120 + 7 * i + 0) ≤ 1) && decide (¬ 5 ≤ r (120 + 7 * i + 0)))) := rfl
    rcases rel_pass h hp with e | ⟨x, hx, e, e0⟩
    · rw [e, if_pos (by decide)]
      exact K0 (by rw [en, e]; rfl)
    · have ep : ¬ r (120 + 7 * i + 1) < 0 := by rw [e]; exact nI_pos (by omega)
      rw [e, if_neg (nI_pos (by omega)), rx_0 h hx, if_pos rfl]
      by_cases h2 : r (120 + 7 * i + 0) ≤ 1
      · rw [if_pos h2]
        exact K0 (by rw [en, decide_eq_false (p := ¬ r (120 + 7 * i + 0) ≤ 1) (fun q => q h2), Bool.false_and, Bool.and_false])
      · rw [if_neg h2]
        by_cases h3 : 5 ≤ r (120 + 7 * i + 0)
        · rw [if_pos h3]
          exact K0 (by rw [en, decide_eq_false (p := ¬ 5 ≤ r (120 + 7 * i + 0)) (fun q => q h3), Bool.and_false, Bool.and_false])
        · rw [if_neg h3]
          exact K1 (by rw [en, decide_eq_true ep, decide_eq_true h2, decide_eq_true h3]; rfl)
/-- pools and passes agree -/
theorem law_pools (h : Rel (HB μ 1) r T ng np nx 1) (hJ : J B r ng np) (H : Φ 1 μ) : w_L_pools μ Φ := by
  have n3 := h.1.n.2.2.1
  obtain ⟨-, -, -, -, -, ⟨t, t1, -, t3⟩, -, t4⟩ := h.1.1
  have e4 : r 0 + 4 = nI (t + 4) := by rw [t3]; exact nI_add t 4
  unfold w_L_pools
  refine ⟨0 + 1 + 1, ?_⟩
  unfold w_L_pools_6
  rw [rc_0 h, e4, if_neg (show ¬ nI (t + 4) ≤ 0 from nI_nle (by omega) (by omega)), rl_0 h]
  obtain ⟨c, lim, ⟨l0, l1⟩, l2, -⟩ := hJ.2.2.2.1
  rw [l2, if_neg (nI_pos (by omega))]
  refine law_p32 h hJ ?_ np 0 (by omega)
  show w_L_pools_6 Φ (0 + 1) (0 + r 426) (0 + nI nx) (0 + 1) μ
  unfold w_L_pools_6
  rw [rc_0 h, e4, show (0 : Int32) + 1 = nI 1 from by decide, if_neg (nI_ge (a := 1) (b := t + 4) (by omega) (by omega)), rl_n h (Or.inr (nI_le (Nat.le_refl _) (by decide))), if_pos (by decide), show 0 + nI nx = nI nx from Int32.zero_add _]
  exact law_p174 h H nx 0 (by omega)
end POOLS29
