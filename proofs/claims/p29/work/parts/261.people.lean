/-! people are where they are told -/
section GSUM
def gsum (f : Nat → Nat) : Nat → Nat
  | 0 => 0
  | n + 1 => gsum f n + f n
theorem gsum_congr {f f' : Nat → Nat} : ∀ {n : Nat}, (∀ i, i < n → f i = f' i) → gsum f n = gsum f' n
  | 0, _ => rfl
  | n + 1, h => by
    unfold gsum
    rw [gsum_congr (fun i hi => h i (by omega)), h n (by omega)]
theorem gsum_add {f f' : Nat → Nat} : ∀ (n : Nat), gsum (fun i => f i + f' i) n = gsum f n + gsum f' n
  | 0 => rfl
  | n + 1 => by
    unfold gsum
    rw [gsum_add n]
    omega
theorem gsum_0 {f : Nat → Nat} : ∀ {n : Nat}, (∀ i, i < n → f i = 0) → gsum f n = 0
  | 0, _ => rfl
  | n + 1, h => by
    unfold gsum
    rw [gsum_0 (fun i hi => h i (by omega)), h n (by omega)]
theorem gsum_one {f : Nat → Nat} {g : Nat} : ∀ {n : Nat}, g < n → f g = 1 → (∀ i, i < n → i ≠ g → f i = 0) → gsum f n = 1
  | 0, h, _, _ => absurd h (Nat.not_lt_zero _)
  | n + 1, h, h1, h2 => by
    unfold gsum
    by_cases e : g = n
    · rw [gsum_0 (fun i hi => h2 i (by omega) (by omega)), ← e, h1]
    · rw [gsum_one (by omega) h1 (fun i hi hne => h2 i (by omega) hne), h2 n (by omega) (fun q => e q.symm)]
theorem gsum_cnt {Q : Nat → Nat → Bool} {P : Nat → Bool} {ng : Nat} : ∀ (np : Nat), (∀ p, p < np → (P p = false ∧ ∀ g, g < ng → Q g p = false) ∨ (P p = true ∧ ∃ g, g < ng ∧ Q g p = true ∧ ∀ g', g' < ng → g' ≠ g → Q g' p = false)) → gsum (fun g => cnt (Q g) np) ng = cnt P np
  | 0, _ => gsum_0 (fun _ _ => rfl)
  | np + 1, h => by
    show gsum (fun g => cnt (Q g) np + (if Q g np = true then 1 else 0)) ng = cnt P np + (if P np = true then 1 else 0)
    rw [gsum_add, gsum_cnt np (fun p hp => h p (by omega))]
    congr 1
    rcases h np (by omega) with ⟨a, b⟩ | ⟨a, g, b, c, d⟩
    · rw [a, if_neg (by decide)]
      exact gsum_0 (fun i hi => by rw [b i hi, if_neg (by decide)])
    · rw [a, if_pos rfl]
      exact gsum_one b (by rw [c, if_pos rfl]) (fun i hi hne => by rw [d i hi hne, if_neg (by decide)])
theorem cnt_gsum {P : Nat → Bool} : ∀ (n : Nat), cnt P n = gsum (fun g => if P g = true then 1 else 0) n
  | 0 => rfl
  | n + 1 => by
    show cnt P n + _ = gsum _ n + _
    rw [cnt_gsum n]
theorem cnt_one {P : Nat → Bool} {n p : Nat} (hp : p < n) (h1 : P p = true) (h : ∀ i, i < n → i ≠ p → P i = false) : cnt P n = 1 := by
  rw [cnt_add (P := fun _ => false) (Q := P) hp (fun i hi hne => h i hi hne) rfl h1, cnt_zero (fun _ _ => rfl)]
end GSUM
section PEOPLE29
variable {r : Nat → Int32} {ng np nx nl g p T B : Nat} {μ σ : Mm}
theorem wait_gate (h : Rel σ r T ng np nx nl) (hp : p < np) (hw : r (120 + 7 * p + 0) = nI 1 ∨ r (120 + 7 * p + 0) = nI 4) : ∃ g, g < ng ∧ r (120 + 7 * p + 3) = nI g := by
  have e : σ (50 + p) 2 = r (120 + 7 * p + 0) := h.1.2.2.1 p 2 hp (by decide)
  rw [← e] at hw
  obtain ⟨-, g, g1, g2, g3⟩ := h.2.2.2.2.2.1 p hp hw
  refine ⟨g, ?_, g2⟩
  rcases Nat.lt_or_ge g ng with q | q
  · exact q
  · rw [h.1.1.1.2.1] at g3
    exact absurd g3 (nI_nlt q (by omega))
theorem q_total (h : Rel σ r T ng np nx nl) {e : Nat} (he : e < 2) : gsum (fun g => cnt (qB r (nI g) (nI e)) np) ng = whoR r np (1 + 3 * e) := by
  have n1 := h.1.n.1
  have e4 : (if nI e = 0 then (1 : Int32) else 4) = nI (1 + 3 * e) := by
    rcases (show e = 0 ∨ e = 1 by omega) with rfl | rfl <;> decide
  refine gsum_cnt np (fun p hp => ?_)
  unfold qB
  rw [e4]
  by_cases hw : r (120 + 7 * p + 0) = nI (1 + 3 * e)
  · obtain ⟨g, g1, g2⟩ := wait_gate h hp (by
      rcases (show e = 0 ∨ e = 1 by omega) with rfl | rfl
      · exact Or.inl hw
      · exact Or.inr hw)
    refine Or.inr ⟨decide_eq_true hw, g, g1, by rw [decide_eq_true g2, decide_eq_true hw]; rfl, fun g' hg' hne => ?_⟩
    rw [decide_eq_false (fun q => hne (nI_inj (by omega) (by omega) (q.symm.trans g2)))]
    rfl
  · refine Or.inl ⟨decide_eq_false hw, fun g hg => ?_⟩
    rw [decide_eq_false hw, Bool.and_false]
theorem g_total (h : Rel σ r T ng np nx nl) (hJ : J B r ng np) : cnt (fun g => decide (¬ r (8 + 14 * g + 6) < 0)) ng = whoR r np 2 := by
  obtain ⟨n1, n2, n3, n4⟩ := h.1.n
  unfold whoR
  rw [cnt_gsum, ← gsum_cnt (Q := fun g p => decide (r (120 + 7 * p + 3) = nI g) && decide (r (120 + 7 * p + 0) = nI 2)) (P := fun p => decide (r (120 + 7 * p + 0) = nI 2)) (ng := ng) np (fun p hp => ?_)]
  · refine gsum_congr (fun g hg => ?_)
    have uq : ∀ q, q < np → r (120 + 7 * q + 3) = nI g → r (120 + 7 * q + 0) = nI 2 → r (8 + 14 * g + 6) = nI q := fun q hq e3 e2 => by
      obtain ⟨-, -, -, k, -⟩ := wOf (hJ.1 q hq) (by decide) e2
      obtain ⟨g', g1, g2, g3⟩ := k rfl
      have : g' = g := nI_inj (by omega) (by omega) (g2.symm.trans e3)
      rw [← this]
      exact g3
    rcases rel_in h hg with ⟨st, -, -, e6⟩ | ⟨p, st, o, b, hI⟩
    · rw [e6, if_neg (by decide)]
      refine (cnt_zero (fun q hq => ?_)).symm
      by_cases e3 : r (120 + 7 * q + 3) = nI g
      · by_cases e2 : r (120 + 7 * q + 0) = nI 2
        · exact absurd ((uq q hq e3 e2).symm.trans e6) (nI_n5 (by omega))
        · rw [decide_eq_false e2, Bool.and_false]
      · rw [decide_eq_false e3, Bool.false_and]
    · obtain ⟨hp, -, -, -, e6, e2, e3, -⟩ := hI
      rw [e6, if_pos (decide_eq_true (nI_pos (by omega)))]
      refine (cnt_one hp (by rw [decide_eq_true e3, decide_eq_true (show r (120 + 7 * p + 0) = nI 2 from e2)]; rfl) (fun q hq hne => ?_)).symm
      by_cases e3' : r (120 + 7 * q + 3) = nI g
      · by_cases e2' : r (120 + 7 * q + 0) = nI 2
        · exact absurd (nI_inj (by omega) (by omega) ((uq q hq e3' e2').symm.trans e6)) hne
        · rw [decide_eq_false e2', Bool.and_false]
      · rw [decide_eq_false e3', Bool.false_and]
  · by_cases hw : r (120 + 7 * p + 0) = nI 2
    · obtain ⟨-, -, -, k, -⟩ := wOf (hJ.1 p hp) (by decide) hw
      obtain ⟨g, g1, g2, g3⟩ := k rfl
      refine Or.inr ⟨decide_eq_true hw, g, g1, by rw [decide_eq_true g2, decide_eq_true hw]; rfl, fun g' hg' hne => ?_⟩
      rw [decide_eq_false (fun q => hne (nI_inj (by omega) (by omega) (q.symm.trans g2)))]
      rfl
    · refine Or.inl ⟨decide_eq_false hw, fun g hg => ?_⟩
      rw [decide_eq_false hw, Bool.and_false]
section P15
variable {X : Int32 → Int32 → Int32 → Int32 → (Nat → Int32) → Mm → Prop} {Φ : Int32 → Mm → Prop} {a b c : Int32} {f : Nat → Int32}
theorem l_p159 (h : Rel (HB μ 1) r T ng np nx nl) (hp : p < np) (hw : ¬ waitR r p < 0) (H : X a b c (nI p + 1) f μ) : w_L_people_159 X Φ a b c (nI p) f μ := by
  unfold w_L_people_159
  rw [rp_5 h hp, if_neg hw, rp_6 h hp, if_pos rfl]
  exact H
theorem l_p109 {w : Nat} (h : Rel (HB μ 1) r T ng np nx nl) (hJ : J B r ng np) (hW : Wt r np) (hp : p < np) (hw5 : w ≤ 5) (ew : r (120 + 7 * p + 0) = nI w) (H : X a b c (nI p + 1) f μ) : w_L_people_109 X Φ a b c (nI p) (nI w) f μ := by
  have k := l_p159 (Φ := Φ) h hp (waitR_pos hW hp) H
  obtain ⟨q0, q1, q3, q2, q5⟩ := wOf (hJ.1 p hp) hw5 ew
  have n1 : w ≠ 1 → nI w ≠ 1 := fun hw e => hw (nI_inj (b := 1) (by omega) (by omega) e)
  have n4 : w ≠ 4 → nI w ≠ 4 := fun hw e => hw (nI_inj (b := 4) (by omega) (by omega) e)
  unfold w_L_people_109
  by_cases h0 : w = 0
  · obtain ⟨y, y1, y2, y3⟩ := q0 h0
    subst h0
    rw [if_pos (show nI 0 = 0 from rfl)]
    unfold w_L_people_119
    rw [rp_4 h hp, y3, if_neg (nI_nle y1 (by omega))]
    unfold w_L_people_134
    rw [if_pos rfl, if_neg (n1 (by decide)), if_neg (n4 (by decide)), rp_5 h hp, waitR_0 (by rw [ew]; exact n1 (by decide)) (by rw [ew]; exact n4 (by decide)), if_pos rfl]
    exact k
  · rw [if_neg (nI_ne0 (by omega) (by omega))]
    unfold w_L_people_119
    rw [rp_4 h hp, q1 h0, if_pos (by decide)]
    unfold w_L_people_134
    rw [if_pos rfl]
    by_cases w1 : w = 1
    · rw [w1, if_pos (show nI 1 = 1 from rfl)]
      exact k
    · by_cases w4 : w = 4
      · rw [w4, if_neg (show ¬ nI 4 = 1 by decide), if_pos (show nI 4 = 4 from rfl)]
        exact k
      · rw [if_neg (n1 w1), if_neg (n4 w4), rp_5 h hp, waitR_0 (by rw [ew]; exact n1 w1) (by rw [ew]; exact n4 w4), if_pos rfl]
        exact k
theorem l_p15 (h : Rel (HB μ 1) r T ng np nx nl) (hJ : J B r ng np) (hW : Wt r np) (H193 : ∀ f : Nat → Int32, (∀ w, w ≤ 5 → f w = nI (whoR r np w)) → ∃ n, w_L_people_193 Φ n 0 0 0 0 f μ) : ∀ (k i : Nat) (f : Nat → Int32), i + k = np → (∀ w, w ≤ 5 → f w = nI (whoR r i w)) → ∃ n, w_L_people_15 Φ n 0 0 0 (nI i) f μ
  | 0, i, f, hi, hf => by
    have e : i = np := by omega
    rw [e] at hf ⊢
    have n2 := h.1.n.2.1
    refine ⟨0 + 1, ?_⟩
    unfold w_L_people_15
    rw [rc_2 h, if_pos (nI_le (Nat.le_refl _) (by omega))]
    exact H193 f hf
  | k + 1, i, f, hi, hf => by
    have hp : i < np := by omega
    have n1 := h.1.n.1
    have n2 := h.1.n.2.1
    obtain ⟨w, w5, ew, -⟩ := rel_w h hp
    obtain ⟨q0, q1, q3, q2, q5⟩ := wOf (hJ.1 i hp) w5 ew
    obtain ⟨f', ef⟩ : ∃ f' : Nat → Int32, f' = upd f w (f w + 1) := ⟨_, rfl⟩
    obtain ⟨n, hn⟩ := l_p15 h hJ hW H193 k (i + 1) f' (by omega) (fun w' hw' => by
      unfold whoR
      rw [cnt_s]
      by_cases e : w' = w
      · rw [e, ef, pk_us, hf w w5, if_pos (decide_eq_true ew)]
        rfl
      · rw [ef, pk_un e, hf w' hw', if_neg (by
          rw [decide_eq_true_eq, ew]
          exact fun q => e (nI_inj (by omega) (by omega) q.symm)), Int32.add_zero]
        rfl)
    have k109 := l_p109 (X := fun y0 y1 y2 y3 y4 u => w_L_people_15 Φ n y0 y1 y2 y3 y4 u) (Φ := Φ) (a := 0) (b := 0) (c := 0) (f := f') h hJ hW hp w5 ew (by
      show w_L_people_15 Φ n 0 0 0 (nI i + 1) f' μ
      rw [nI_1]
      exact hn)
    refine ⟨n + 1, ?_⟩
    unfold w_L_people_15
    rw [rc_2 h, if_neg (nI_ge hp (by omega)), rp_0 h hp, rp_3 h hp, ew]
    refine ⟨vp_in_nI (by omega) (by omega), vp_in_nI (by omega) (by omega), ?_⟩
    rw [cl (show w < 2147483648 by omega), ← ef]
    intro f88 e88
    rw [e88]
    have out : (w = 0 ∨ w = 3 ∨ w = 5) → w_L_people_74 (fun y0 y1 y2 y3 y4 u => w_L_people_15 Φ n y0 y1 y2 y3 y4 u) Φ 0 0 0 (nI i) (nI w) (r (120 + 7 * i + 3)) f' 0 μ := fun hw => by
      unfold w_L_people_74
      rw [q3 hw, if_pos (by decide)]
      unfold w_L_people_88
      rw [if_pos rfl, if_neg (show ¬ nI w = 2 from fun e => by have := nI_inj (a := w) (b := 2) (by omega) (by omega) e; omega)]
      exact k109
    have ins : (w = 1 ∨ w = 4) → w_L_people_69 (fun y0 y1 y2 y3 y4 u => w_L_people_15 Φ n y0 y1 y2 y3 y4 u) Φ 0 0 0 (nI i) (nI w) (r (120 + 7 * i + 3)) f' μ := fun hw => by
      obtain ⟨g, g1, g2⟩ := wait_gate h hp (by
        rcases hw with hw | hw
        · exact Or.inl (by rw [ew, hw])
        · exact Or.inr (by rw [ew, hw]))
      unfold w_L_people_69 w_L_people_74
      rw [g2, if_neg (nI_pos (by omega))]
      unfold w_L_people_88
      rw [if_pos rfl, if_neg (show ¬ nI w = 2 from fun e => by have := nI_inj (a := w) (b := 2) (by omega) (by omega) e; omega)]
      exact k109
    rcases (show w = 0 ∨ w = 1 ∨ w = 2 ∨ w = 3 ∨ w = 4 ∨ w = 5 by omega) with e | e | e | e | e | e
    · have o := out (Or.inl e)
      rw [e] at o ⊢
      rw [if_neg (by decide), if_neg (by decide), if_neg (by decide)]
      exact o
    · have o := ins (Or.inl e)
      rw [e] at o ⊢
      rw [if_pos (by decide)]
      exact o
    · obtain ⟨g, g1, g2, g3⟩ := q2 e
      rw [e] at k109 ⊢
      rw [if_neg (by decide), if_pos (by decide)]
      unfold w_L_people_69 w_L_people_74
      rw [g2, if_neg (nI_pos (by omega))]
      unfold w_L_people_88
      rw [if_pos rfl, if_pos (by decide), rg_3 h g1, g3, if_pos rfl]
      exact k109
    · have o := out (Or.inr (Or.inl e))
      rw [e] at o ⊢
      rw [if_neg (by decide), if_neg (by decide), if_neg (by decide)]
      exact o
    · have o := ins (Or.inr e)
      rw [e] at o ⊢
      rw [if_neg (by decide), if_neg (by decide), if_pos (by decide)]
      exact o
    · have o := out (Or.inr (Or.inr e))
      rw [e] at o ⊢
      rw [if_neg (by decide), if_neg (by decide), if_neg (by decide)]
      exact o
end P15
section P193
variable {X : Int32 → Int32 → Int32 → Int32 → (Nat → Int32) → Mm → Prop} {Y : Int32 → Int32 → Int32 → Int32 → Int32 → (Nat → Int32) → Mm → Prop} {Φ : Int32 → Mm → Prop} {a b c : Int32} {f : Nat → Int32}
theorem l_p263 {n e : Nat} {q : Nat → Nat} (h : Rel (HB μ 1) r T ng np nx nl) (hg : g < ng) (he : e < 2) (hq : QV r np g e n q) (hr : ∀ (k : Nat) (Φ : Int32 → Mm → Prop), k < n → w_X9_queued (nI g) (nI e) (nI k) μ Φ = Φ (nI (q k)) μ) (hr2 : ∀ (Φ : Int32 → Mm → Prop), w_X9_queued (nI g) (nI e) (nI n) μ Φ = Φ (-5) μ) (H : Y a b c (nI g) (nI e + 1) f μ) : ∀ (k i : Nat), i + k = n → ∃ m, w_L_people_263 X Y Φ m a b c (nI g) (nI e) (nI n) (nI i) f μ
  | 0, i, hi => by
    have e1 : i = n := by omega
    rw [e1]
    have hn := hq.1
    refine ⟨0 + 1, ?_⟩
    unfold w_L_people_263
    rw [if_pos (nI_le (Nat.le_refl _) (by omega)), hr2, if_pos rfl, rq_m1 h hg he, if_pos rfl, rq_2 h hg, if_pos rfl]
    exact H
  | k + 1, i, hi => by
    obtain ⟨m, hm⟩ := l_p263 h hg he hq hr hr2 H k (i + 1) (by omega)
    have hn := hq.1
    obtain ⟨d1, d2, d3⟩ := hq.2.1 i (by omega)
    have n2 := h.1.n.2.1
    refine ⟨m + 1, ?_⟩
    unfold w_L_people_263
    rw [if_neg (nI_ge (by omega) (by omega)), hr i _ (by omega), if_neg (nI_pos (by omega)), rp_3 h d1, d2, if_pos rfl, rp_0 h d1, d3, nI_1]
    rcases (show e = 0 ∨ e = 1 by omega) with rfl | rfl
    · rw [if_pos (by decide), if_pos (by decide)]
      exact hm
    · rw [if_neg (by decide), if_pos (by decide)]
      exact hm
theorem l_p237_2 {m : Nat} (h : Rel (HB μ 1) r T ng np nx nl) (hJ : J B r ng np) (hg : g < ng) (H : X a b c (nI g + 1) f μ) : w_L_people_237 X Φ (m + 1) a b c (nI g) 2 f μ := by
  obtain ⟨st, lf, op, ho, cl', s1, s2, s3, s4, s5, s6, s7, s8, s9, s10⟩ := hJ.2.1 g hg
  have n2 := h.1.n.2.1
  have k441 : ∀ v : Int32, w_L_people_441 X Φ a b c (nI g) (nI st) f v v μ := fun v => by
    unfold w_L_people_441
    rw [if_pos rfl]
    by_cases h5 : st = 5
    · rw [h5, if_pos (by decide), rg_10 h hg, s10 h5, if_pos rfl, rg_11 h hg, if_pos rfl]
      exact H
    · rw [if_neg (show ¬ nI st = 5 from fun e => h5 (nI_inj (b := 5) (by omega) (by omega) e)), rg_11 h hg, if_pos rfl]
      exact H
  unfold w_L_people_237
  rw [if_pos (by decide), rg_1 h hg, s2]
  by_cases hb : st = 0 ∨ st = 5
  · obtain ⟨l0, l6⟩ := s7 hb
    have K : w_L_people_401 X Φ a b c (nI g) (nI st) f μ := by
      unfold w_L_people_401 w_L_people_402
      rw [rg_3 h hg, l6, if_pos (by decide)]
      unfold w_L_people_421
      rw [if_pos rfl, rg_2 h hg, s3, l0, if_pos (by decide)]
      exact k441 0
    by_cases h0 : st = 0
    · rw [h0] at K ⊢
      rw [if_pos (by decide)]
      exact K
    · have h5 : st = 5 := by omega
      rw [h5] at K ⊢
      rw [if_neg (by decide), if_pos (by decide)]
      exact K
  · obtain ⟨l1, l2⟩ := s8 ⟨fun e => hb (Or.inl e), fun e => hb (Or.inr e)⟩
    rw [if_neg (nI_nle (by omega) (by omega)), if_neg (show ¬ (5 : Int32) ≤ nI st from nI_ge (a := st) (b := 5) (by omega) (by omega))]
    rcases rel_in h hg with ⟨st', hst, e4, -⟩ | ⟨p, st', o, b', hI⟩
    · have : st' = st := nI_inj (by omega) (by omega) (e4.symm.trans s2)
      omega
    · obtain ⟨hp, -, -, -, e6, -⟩ := hI
      unfold w_L_people_402
      rw [rg_3 h hg, e6, if_neg (nI_pos (by omega))]
      unfold w_L_people_421
      rw [if_pos rfl, rg_2 h hg, s3, if_neg (nI_nle (by omega) (by omega))]
      exact k441 1
theorem l_p237 (h : Rel (HB μ 1) r T ng np nx nl) (hJ : J B r ng np) (hg : g < ng) (H : X a (b + nI (cnt (qB r (nI g) (nI 0)) np) + nI (cnt (qB r (nI g) (nI 1)) np)) c (nI g + 1) f μ) : ∃ m, w_L_people_237 X Φ m a b c (nI g) 0 f μ := by
  obtain ⟨n0, q0, v0, v1, v2⟩ := rq_v h hg (e := 0) (by decide)
  obtain ⟨n1, q1, u0, u1, u2⟩ := rq_v h hg (e := 1) (by decide)
  have K2 := l_p237_2 (Φ := Φ) (m := 0) h hJ hg H
  have K1 : w_L_people_237 X Φ (0 + 1 + 1) a (b + nI (cnt (qB r (nI g) (nI 0)) np)) c (nI g) 1 f μ := by
    unfold w_L_people_237
    rw [if_neg (by decide), show (4 : Int32) + 1 = 5 from by decide, rg_5 h hg]
    show ∃ n263, w_L_people_263 X _ Φ n263 a _ c (nI g) (nI 1) (nI (cnt (qB r (nI g) (nI 1)) np)) (nI 0) f μ
    rw [u0.2.2.1]
    rw [u0.2.2.1] at K2
    exact l_p263 h hg (by decide) u0 u1 u2 K2 n1 0 (by omega)
  refine ⟨0 + 1 + 1 + 1, ?_⟩
  unfold w_L_people_237
  rw [if_neg (by decide), show (4 : Int32) + 0 = 4 from by decide, rg_4 h hg]
  show ∃ n263, w_L_people_263 X _ Φ n263 a _ c (nI g) (nI 0) (nI (cnt (qB r (nI g) (nI 0)) np)) (nI 0) f μ
  rw [v0.2.2.1]
  rw [v0.2.2.1] at K1
  exact l_p263 h hg (by decide) v0 v1 v2 K1 n0 0 (by omega)
def Qs (r : Nat → Int32) (np : Nat) : Nat → Nat := gsum (fun g => cnt (qB r (nI g) (nI 0)) np + cnt (qB r (nI g) (nI 1)) np)
def Gs (r : Nat → Int32) : Nat → Nat := cnt (fun g => decide (¬ r (8 + 14 * g + 6) < 0))
theorem l_p193 (h : Rel (HB μ 1) r T ng np nx nl) (hJ : J B r ng np) (hf : ∀ w, w ≤ 5 → f w = nI (whoR r np w)) (H : Φ 1 μ) : ∀ (k i : Nat), i + k = ng → ∃ n, w_L_people_193 Φ n (sumR r i) (nI (Qs r np i)) (nI (Gs r i)) (nI i) f μ
  | 0, i, hi => by
    have e : i = ng := by omega
    rw [e]
    obtain ⟨n1, n2, n3, n4⟩ := h.1.n
    refine ⟨0 + 1, ?_⟩
    unfold w_L_people_193
    rw [rc_1 h, if_pos (nI_le (Nat.le_refl _) (by omega)), show (3 : Int32).toNatClampNeg = 3 from rfl, show (4 : Int32).toNatClampNeg = 4 from rfl, show (1 : Int32).toNatClampNeg = 1 from rfl, show (2 : Int32).toNatClampNeg = 2 from rfl, show (5 : Int32).toNatClampNeg = 5 from rfl, show (0 : Int32).toNatClampNeg = 0 from rfl, hf 0 (by decide), hf 1 (by decide), hf 2 (by decide), hf 3 (by decide), hf 4 (by decide), hf 5 (by decide)]
    refine rc_3 h ?_
    show (if _ then _ else _)
    rw [if_pos rfl]
    refine rc_4 h ?_
    show (if _ then _ else _)
    rw [if_pos rfl]
    refine rc_5 h ?_
    show (if _ then _ else _)
    rw [if_pos rfl]
    refine rc_6 h ?_
    show (if _ then _ else _)
    rw [if_pos rfl]
    refine rc_7 h ?_
    show (if _ then _ else _)
    have t1 : sumR r ng = nI (whoR r np 0) := hJ.2.2.1
    have t2 : nI (Qs r np ng) = nI (whoR r np 1) + nI (whoR r np 4) := by
      unfold Qs
      rw [gsum_add, q_total h (e := 0) (by decide), q_total h (e := 1) (by decide), nI_add]
    have t3 : nI (Gs r ng) = nI (whoR r np 2) := by
      unfold Gs
      rw [g_total h hJ]
    rw [if_pos rfl, if_pos t1, if_pos t2, if_pos t3, rc_2 h, rp_n h (Or.inr (nI_le (Nat.le_refl _) (by omega))), if_pos rfl, rc_13, if_pos rfl]
    exact H
  | k + 1, i, hi => by
    obtain ⟨n, hn⟩ := l_p193 h hJ hf H k (i + 1) (by omega)
    have hg : i < ng := by omega
    have n1 := h.1.n.1
    have hs : sumR r (i + 1) = sumR r i + r (8 + 14 * i + 12) := rfl
    have hq : nI (Qs r np (i + 1)) = nI (Qs r np i) + nI (cnt (qB r (nI i) (nI 0)) np) + nI (cnt (qB r (nI i) (nI 1)) np) := by
      show nI (Qs r np i + (cnt (qB r (nI i) (nI 0)) np + cnt (qB r (nI i) (nI 1)) np)) = _
      rw [nI_add, nI_add, Nat.add_assoc]
    have hgs : nI (Gs r (i + 1)) = if decide (¬ r (8 + 14 * i + 6) < 0) = true then nI (Gs r i) + 1 else nI (Gs r i) + 0 := cnt_s _ _
    rw [hs, hq, hgs, show nI (i + 1) = nI i + 1 from (nI_1 i).symm] at hn
    refine ⟨n + 1, ?_⟩
    unfold w_L_people_193
    rw [rc_1 h, if_neg (nI_ge hg (by omega)), rg_8 h hg, rg_3 h hg]
    by_cases h6 : r (8 + 14 * i + 6) < 0
    · rw [if_pos h6]
      rw [if_neg (by rw [decide_eq_true_eq]; exact fun q => q h6)] at hn
      exact l_p237 h hJ hg hn
    · rw [if_neg h6]
      rw [if_pos (decide_eq_true h6)] at hn
      exact l_p237 h hJ hg hn
end P193
/-- people are where they are told -/
theorem law_people {Φ : Int32 → Mm → Prop} (h : Rel (HB μ 1) r T ng np nx nl) (hJ : J B r ng np) (hW : Wt r np) (H : Φ 1 μ) : w_L_people (fun _ => 0) μ Φ := by
  unfold w_L_people
  exact l_p15 h hJ hW (fun f hf => l_p193 h hJ hf H ng 0 (by omega)) np 0 (fun _ => 0) (by omega) (fun w _ => rfl)
end PEOPLE29
