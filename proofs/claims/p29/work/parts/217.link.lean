/-! what the reference finds is what the class holds -/
theorem lt_nle {x y : Int32} (h : x < y) : ¬ y ≤ x := by
  rw [Int32.le_iff_toInt_le]; rw [Int32.lt_iff_toInt_lt] at h; omega
theorem nle_lt {x y : Int32} (h : ¬ y ≤ x) : x < y := by
  rw [Int32.le_iff_toInt_le] at h; rw [Int32.lt_iff_toInt_lt]; omega
theorem lt_tr {x y z : Int32} (h : x < y) (h2 : y < z) : x < z := by
  rw [Int32.lt_iff_toInt_lt] at *; omega
theorem lt_ir {x : Int32} (h : x < x) : False := by rw [Int32.lt_iff_toInt_lt] at h; omega
section LINK
variable {σ : Mm} {r : Nat → Int32} {T ng np nx nl g e : Nat}
theorem q_is (hC : Core σ r T ng np nx nl) {q : Nat} (hq : q < np) {ea : Int32} (he : e < 2) (hea : ea = nI e) : (qB r (nI g) ea q = true) = (σ (50 + q) 3 = nI g ∧ σ (50 + q) 2 = nI (1 + 3 * e)) := by
  have h3 : σ (50 + q) 3 = r (120 + 7 * q + 3) := hC.2.2.1 q 3 hq (by decide)
  have h2 : σ (50 + q) 2 = r (120 + 7 * q + 0) := hC.2.2.1 q 2 hq (by decide)
  have hw : (if ea = 0 then (1 : Int32) else 4) = nI (1 + 3 * e) := by
    subst hea
    rcases (show e = 0 ∨ e = 1 by omega) with rfl | rfl <;> decide
  unfold qB
  rw [h3, h2, hw]
  simp
theorem q_facts (hC : Core σ r T ng np nx nl) (he : e < 2) {ea : Int32} (hea : ea = nI e) (h : QOk σ r np g e) : ∃ (n : Nat) (a : Nat → Nat), n ≤ 40 ∧ σ (11 + 5 * g + 2 * e) 1 = nI n ∧ (∀ i, i < n → σ (12 + 5 * g + 2 * e) i = nI (a i) ∧ a i < np ∧ σ (50 + a i) 3 = nI g ∧ σ (50 + a i) 2 = nI (1 + 3 * e)) ∧ (∀ i j, i < j → j < n → r (120 + 7 * a i + 6) < r (120 + 7 * a j + 6)) ∧ (∀ p, p < np → σ (50 + p) 3 = nI g → σ (50 + p) 2 = nI (1 + 3 * e) → ∃ i, i < n ∧ a i = p) ∧ cnt (qB r (nI g) ea) np = n ∧ (∀ (k : Nat) (pl : Int32), pl = nI k → k < n → fnd (fun p => qB r (nI g) ea p && decide (nI (cnt (aB r (nI g) ea p) np) = pl)) np 0 = nI (a k)) ∧ (∀ pl : Int32, nI n ≤ pl → fnd (fun p => qB r (nI g) ea p && decide (nI (cnt (aB r (nI g) ea p) np) = pl)) np 0 = -5) := by
  obtain ⟨n, a, hn, hlen, hel, hord, hall⟩ := h
  have hnp := hC.n.2.1
  have hinj : ∀ i, i < n → ∀ j, j < n → a i = a j → i = j := fun i hi j hj e' => by
    rcases Nat.lt_trichotomy i j with h | h | h
    · have := hord i j h hj; rw [e'] at this; exact (lt_ir this).elim
    · exact h
    · have := hord j i h hi; rw [e'] at this; exact (lt_ir this).elim
  have hq : ∀ i, i < n → qB r (nI g) ea (a i) = true := fun i hi => by
    rw [q_is hC (hel i hi).2.1 he hea]; exact (hel i hi).2.2
  have hc : ∀ i, i < n → cnt (aB r (nI g) ea (a i)) np = i := fun i hi => by
    refine cnt_enum a i _ (fun j hj => ⟨(hel j (by omega)).2.1, ?_⟩) (fun j hj k hk e' => hinj j (by omega) k (by omega) e') (fun q hqn hP => ?_)
    · unfold aB
      rw [hq j (by omega), decide_eq_true (lt_nle (hord j i hj hi))]
      rfl
    · unfold aB at hP
      simp only [Bool.and_eq_true, decide_eq_true_eq] at hP
      have h1 := hP.1
      rw [q_is hC hqn he hea] at h1
      obtain ⟨j, hj, hja⟩ := hall q hqn h1.1 h1.2
      refine ⟨j, ?_, hja⟩
      rcases Nat.lt_or_ge j i with h | h
      · exact h
      · exfalso
        have hlt := nle_lt hP.2
        rw [← hja] at hlt
        rcases Nat.lt_or_eq_of_le h with h2 | h2
        · exact lt_ir (lt_tr hlt (hord i j h2 hj))
        · rw [h2] at hlt; exact lt_ir hlt
  refine ⟨n, a, hn, hlen, hel, hord, hall, ?_, fun k pl hpl hk => ?_, fun pl hpl => ?_⟩
  · exact cnt_enum a n _ (fun i hi => ⟨(hel i hi).2.1, hq i hi⟩) hinj (fun q hqn hP => by
      rw [q_is hC hqn he hea] at hP
      exact hall q hqn hP.1 hP.2)
  · refine fnd_one (p := a k) (Nat.zero_le _) (by have := (hel k hk).2.1; omega) (by rw [hq k hk, hc k hk, hpl]; simp) (fun i h1 h2 hP => ?_)
    simp only [Bool.and_eq_true, decide_eq_true_eq] at hP
    have h3 := hP.1
    rw [q_is hC (show i < np by omega) he hea] at h3
    obtain ⟨j, hj, hja⟩ := hall i (by omega) h3.1 h3.2
    have h4 := hP.2
    rw [← hja, hc j hj, hpl] at h4
    rw [← hja, nI_inj (by omega) (by omega) h4]
  · refine fnd_none (fun i h1 h2 => ?_)
    cases hb : qB r (nI g) ea i with
    | false => rfl
    | true =>
      rw [q_is hC (show i < np by omega) he hea] at hb
      obtain ⟨j, hj, hja⟩ := hall i (by omega) hb.1 hb.2
      rw [← hja, hc j hj, decide_eq_false (fun e' => ?_)]
      · rfl
      · rw [← e'] at hpl
        exact nI_ge hj (by omega) hpl
theorem i_is (hC : Core σ r T ng np nx nl) {p : Nat} (hp : p < np) (hv : VP σ T nx p) : iB r p = inB σ p := by
  obtain ⟨w, h1, h2, -⟩ := hv
  have h3 : σ (50 + p) 2 = r (120 + 7 * p + 0) := hC.2.2.1 p 2 hp (by decide)
  unfold iB inB
  rw [← h3, h2]
  rcases (show w = 0 ∨ w = 1 ∨ w = 2 ∨ w = 3 ∨ w = 4 ∨ w = 5 by omega) with rfl | rfl | rfl | rfl | rfl | rfl <;> decide
theorem u_is (hC : Core σ r T ng np nx nl) {p : Nat} (hp : p < np) (hv : VP σ T nx p) (x : Nat) : uB r (nI x) p = usB σ p x := by
  have h3 : σ (50 + p) 0 = r (120 + 7 * p + 1) := hC.2.2.1 p 0 hp (by decide)
  unfold uB usB
  rw [i_is hC hp hv, h3]
theorem user_is (hC : Core σ r T ng np nx nl) (hVP : ∀ p, p < np → VP σ T nx p) (hU : KU σ np nx nl) {x : Nat} (hx : x < nx) : fnd (uB r (nI x)) np 0 = σ (94 + x) 2 := by
  rcases hU.1 x hx with ⟨h1, h2⟩ | ⟨p, h1, h2, h3, h4⟩
  · rw [h1]
    exact fnd_none (fun i _ hi => by rw [u_is hC (by omega) (hVP i (by omega))]; exact h2 i (by omega))
  · rw [h2]
    refine fnd_one (Nat.zero_le _) (by omega) (by rw [u_is hC h1 (hVP p h1)]; exact h3) (fun i _ hi hP => ?_)
    rw [u_is hC (by omega) (hVP i (by omega))] at hP
    exact h4 i (by omega) hP
theorem pass_ok (hC : Core σ r T ng np nx nl) (hVP : ∀ p, p < np → VP σ T nx p) : ∀ p, p < np → r (120 + 7 * p + 1) < 0 ∨ ∃ y, y < 12 ∧ r (120 + 7 * p + 1) = nI y := fun p hp => by
  have h3 : σ (50 + p) 0 = r (120 + 7 * p + 1) := hC.2.2.1 p 0 hp (by decide)
  have := hC.n
  obtain ⟨w, -, -, -, h4, -⟩ := hVP p hp
  rw [h3] at h4
  rcases h4 with h4 | ⟨x, hx, h4⟩
  · exact Or.inl (by rw [h4]; decide)
  · exact Or.inr ⟨x, by omega, h4⟩
theorem o_is (hC : Core σ r T ng np nx nl) {p : Nat} (hp : p < np) (hv : VP σ T nx p) (k : Nat) : oB r (nI k) p = plB σ p k := by
  have h3 : σ (50 + p) 0 = r (120 + 7 * p + 1) := hC.2.2.1 p 0 hp (by decide)
  have hi := i_is hC hp hv
  obtain ⟨w, -, -, -, h4, -⟩ := hv
  unfold oB plB
  rw [hi, ← h3]
  rcases h4 with h4 | ⟨x, hx, h4⟩
  · rw [h4]; rfl
  · have hn := hC.n
    have hx0 : σ (94 + x) 0 = r (400 + 2 * x + 0) := hC.2.2.2.1 x 0 hx (by decide)
    rw [h4, nI_clamp (show x < 2 ^ 31 by omega), hx0, Nat.add_zero]
theorem inside_is (hC : Core σ r T ng np nx nl) (hVP : ∀ p, p < np → VP σ T nx p) (hU : KU σ np nx nl) {k : Nat} (hk : k < nl) : nI (cnt (oB r (nI k)) np) = σ (90 + k) 2 := by
  rw [hU.2.1 k hk]
  congr 1
  exact cnt_congr (fun i hi => o_is hC hi (hVP i hi) k)
end LINK
