/-! a State's block: its cells, counted from its own -/
def bl (S : Nat) (σ μ : Mm) : Mm := fun k => if S ≤ k ∧ k < S + 106 then σ (k - S) else μ k
theorem bl_at {S q : Nat} {σ μ : Mm} (h : q < 106) : bl S σ μ (S + q) = σ q := by
  unfold bl
  rw [if_pos (by omega), show S + q - S = q by omega]
theorem bl_0 {S : Nat} {σ μ : Mm} : bl S σ μ S = σ 0 := bl_at (q := 0) (by omega)
theorem bl_out {S k : Nat} {σ μ : Mm} (h : k < S ∨ S + 106 ≤ k) : bl S σ μ k = μ k := by
  unfold bl
  rw [if_neg (by omega)]
theorem bl_bl {S : Nat} {σ τ μ : Mm} : bl S σ (bl S τ μ) = bl S σ μ := by
  funext k
  unfold bl
  by_cases h : S ≤ k ∧ k < S + 106
  · rw [if_pos h, if_pos h]
  · rw [if_neg h, if_neg h, if_neg h]
theorem bl_self {S : Nat} {μ : Mm} : bl S (fun q => μ (S + q)) μ = μ := by
  funext k
  unfold bl
  by_cases h : S ≤ k ∧ k < S + 106
  · rw [if_pos h]
    show μ (S + (k - S)) = μ k
    rw [show S + (k - S) = k by omega]
  · rw [if_neg h]
theorem up2_bl {S q j : Nat} {v : Int32} {σ μ : Mm} (h : q < 106) : up2 (bl S σ μ) (S + q) j v = bl S (up2 σ q j v) μ := by
  funext k
  by_cases hk : k = S + q
  · subst hk
    rw [bl_at h]
    simp [up2, bl_at h]
  · unfold up2
    rw [if_neg hk]
    unfold bl
    by_cases h2 : S ≤ k ∧ k < S + 106
    · rw [if_pos h2, if_pos h2]
      exact (if_neg (show ¬ k - S = q by omega)).symm
    · rw [if_neg h2, if_neg h2]
theorem up2_bl0 {S j : Nat} {v : Int32} {σ μ : Mm} : up2 (bl S σ μ) S j v = bl S (up2 σ 0 j v) μ := up2_bl (q := 0) (by omega)
theorem upA_bl {S q : Nat} {f : Nat → Int32} {σ μ : Mm} (h : q < 106) : upA (bl S σ μ) (S + q) f = bl S (upA σ q f) μ := by
  funext k
  by_cases hk : k = S + q
  · subst hk
    rw [bl_at h]
    simp [upA]
  · unfold upA
    rw [if_neg hk]
    unfold bl
    by_cases h2 : S ≤ k ∧ k < S + 106
    · rw [if_pos h2, if_pos h2]
      exact (if_neg (show ¬ k - S = q by omega)).symm
    · rw [if_neg h2, if_neg h2]
theorem tn_neg {a : Int32} {n : Nat} (h : a < 0 ∨ nI n ≤ a) (hn : n < 2147483648) : a < 0 ∨ (¬ a < 0 ∧ nI n ≤ a) := by
  by_cases h0 : a < 0
  · exact Or.inl h0
  · exact Or.inr ⟨h0, by rcases h with h | h; exact absurd h h0; exact h⟩
section BLK
variable {S : Nat} {σ μ : Mm}
theorem d_fm {v : Int32} {u : Mm} {n : Nat} {Φ : Int32 → Mm → Prop} (hv : v = nI n) (hn : n < 1073741824) {k : Nat} {d : Int32} (hd : d = nI k) (hk : 0 < k) (hk2 : k < 1073741824) : w_J9_floorMod_7cf53 v d u Φ = Φ (nI (n % k)) u := by
  subst hv
  subst hd
  unfold w_J9_floorMod_7cf53
  have h0 : ¬ nI k = 0 := nI_ne0 hk (by omega)
  have hr : nI n - nI n / nI k * nI k = nI (n % k) := pk_rem (by omega) hk (by omega)
  have hx : (0 : Int32) ≤ nI n ^^^ nI k := by
    have e : nI n ^^^ nI k = nI (n ^^^ k) := by
      apply Int32.toBitVec_inj.mp
      show (nI n).toBitVec ^^^ (nI k).toBitVec = (nI (n ^^^ k)).toBitVec
      apply BitVec.eq_of_toNat_eq
      rw [BitVec.toNat_xor, pk_tn (by omega), pk_tn (by omega), pk_tn (show n ^^^ k < 2 ^ 32 from Nat.lt_trans (Nat.xor_lt_two_pow (n := 31) (by omega) (by omega)) (by decide))]
    rw [e]
    exact nI_pos' (Nat.xor_lt_two_pow (n := 31) (by omega) (by omega))
  rw [if_pos hx, hr]
  simp [h0]

theorem d_gateAt_y {g n : Nat} {Φ : Option Nat → Mm → Prop} (hc : σ 0 5 = nI n) (hg : g < n) (hn : n ≤ 8) : w_X8_gateAt S (nI g) (bl S σ μ) Φ = Φ (some (S + 10 + 5 * g)) (bl S σ μ) := by
  unfold w_X8_gateAt
  have hng : ¬ (8 : Int32) ≤ nI g := nI_ge (a := g) (b := 8) (by omega) (by omega)
  rw [bl_0, hc, if_neg (nI_pos (by omega)), if_neg (nI_ge hg (by omega)), if_neg hng, vin (show g < 8 by omega) (by decide), cl (by omega), true_and]
theorem d_gateAt_n {a : Int32} {n : Nat} {Φ : Option Nat → Mm → Prop} (hc : σ 0 5 = nI n) (ha : a < 0 ∨ nI n ≤ a) : w_X8_gateAt S a (bl S σ μ) Φ = Φ none (bl S σ μ) := by
  unfold w_X8_gateAt
  rw [bl_0, hc]
  by_cases h0 : a < 0
  · rw [if_pos h0]
  · rw [if_neg h0, if_pos (by rcases ha with h | h; exact absurd h h0; exact h)]
theorem d_personAt_y {g n : Nat} {Φ : Option Nat → Mm → Prop} (hc : σ 0 6 = nI n) (hg : g < n) (hn : n ≤ 40) : w_X8_personAt S (nI g) (bl S σ μ) Φ = Φ (some (S + 50 + g)) (bl S σ μ) := by
  unfold w_X8_personAt
  have hng : ¬ (40 : Int32) ≤ nI g := nI_ge (a := g) (b := 40) (by omega) (by omega)
  rw [bl_0, hc, if_neg (nI_pos (by omega)), if_neg (nI_ge hg (by omega)), if_neg hng, vin (show g < 40 by omega) (by decide), cl (by omega), true_and]
theorem d_personAt_n {a : Int32} {n : Nat} {Φ : Option Nat → Mm → Prop} (hc : σ 0 6 = nI n) (ha : a < 0 ∨ nI n ≤ a) : w_X8_personAt S a (bl S σ μ) Φ = Φ none (bl S σ μ) := by
  unfold w_X8_personAt
  rw [bl_0, hc]
  by_cases h0 : a < 0
  · rw [if_pos h0]
  · rw [if_neg h0, if_pos (by rcases ha with h | h; exact absurd h h0; exact h)]
theorem d_poolAt_y {g n : Nat} {Φ : Option Nat → Mm → Prop} (hc : σ 0 7 = nI n) (hg : g < n) (hn : n ≤ 4) : w_X8_poolAt S (nI g) (bl S σ μ) Φ = Φ (some (S + 90 + g)) (bl S σ μ) := by
  unfold w_X8_poolAt
  have hng : ¬ (4 : Int32) ≤ nI g := nI_ge (a := g) (b := 4) (by omega) (by omega)
  rw [bl_0, hc, if_neg (nI_pos (by omega)), if_neg (nI_ge hg (by omega)), if_neg hng, vin (show g < 4 by omega) (by decide), cl (by omega), true_and]
theorem d_poolAt_n {a : Int32} {n : Nat} {Φ : Option Nat → Mm → Prop} (hc : σ 0 7 = nI n) (ha : a < 0 ∨ nI n ≤ a) : w_X8_poolAt S a (bl S σ μ) Φ = Φ none (bl S σ μ) := by
  unfold w_X8_poolAt
  rw [bl_0, hc]
  by_cases h0 : a < 0
  · rw [if_pos h0]
  · rw [if_neg h0, if_pos (by rcases ha with h | h; exact absurd h h0; exact h)]
theorem d_passAt_y {g n : Nat} {Φ : Option Nat → Mm → Prop} (hc : σ 0 8 = nI n) (hg : g < n) (hn : n ≤ 12) : w_X8_passAt S (nI g) (bl S σ μ) Φ = Φ (some (S + 94 + g)) (bl S σ μ) := by
  unfold w_X8_passAt
  have hng : ¬ (12 : Int32) ≤ nI g := nI_ge (a := g) (b := 12) (by omega) (by omega)
  rw [bl_0, hc, if_neg (nI_pos (by omega)), if_neg (nI_ge hg (by omega)), if_neg hng, vin (show g < 12 by omega) (by decide), cl (by omega), true_and]
theorem d_passAt_n {a : Int32} {n : Nat} {Φ : Option Nat → Mm → Prop} (hc : σ 0 8 = nI n) (ha : a < 0 ∨ nI n ≤ a) : w_X8_passAt S a (bl S σ μ) Φ = Φ none (bl S σ μ) := by
  unfold w_X8_passAt
  rw [bl_0, hc]
  by_cases h0 : a < 0
  · rw [if_pos h0]
  · rw [if_neg h0, if_pos (by rcases ha with h | h; exact absurd h h0; exact h)]
theorem d_turnTo {g : Nat} {a b : Int32} {Φ : Unit → Mm → Prop} (hg : g < 8) : w_X1_turnTo (S + 10 + 5 * g) a b (bl S σ μ) Φ = Φ () (bl S (up2 (up2 σ (10 + 5 * g) 6 a) (10 + 5 * g) 7 b) μ) := by
  unfold w_X1_turnTo
  simp only [forall_eq, Nat.add_assoc, up2_bl (show 10 + 5 * g < 106 by omega)]
theorem d_holds {g : Nat} {Φ : Int32 → Mm → Prop} (hg : g < 8) : w_X1_holdsPerson (S + 10 + 5 * g) (bl S σ μ) Φ = Φ (if σ (10 + 5 * g) 6 = 0 then 0 else if σ (10 + 5 * g) 6 = 5 then 0 else 1) (bl S σ μ) := by
  unfold w_X1_holdsPerson
  simp only [Nat.add_assoc, bl_at (show 10 + 5 * g < 106 by omega)]
  split
  · rfl
  · split <;> rfl
theorem d_add {t g p kd : Int32} {Φ : Unit → Mm → Prop} (h : EvOk σ) : w_X0_add (S + 5) t g p kd (bl S σ μ) Φ = Φ () (bl S (cAdd t g p kd σ) μ) := by
  obtain ⟨n, k, hn, hk, e5, e4⟩ := h
  have en : (nI n).toNatClampNeg = n := nI_clamp (by omega)
  have ek : (nI k).toNatClampNeg = k := nI_clamp (by omega)
  unfold w_X0_add
  rw [bl_at (show 5 < 106 by decide), d_fm (d := 20) (k := 20) e5 (by omega) rfl (by decide) (by decide), Nat.mod_eq_of_lt hn]
  simp only [forall_eq, vin hn (show 20 < 2147483648 by decide), true_and, cl (show n < 2147483648 by omega), Nat.add_assoc]
  rw [d_fm (n := n + 1) (d := 20) (k := 20) (nI_1 n) (by omega) rfl (by decide) (by decide)]
  simp only [Nat.reduceAdd, up2_bl (show 6 < 106 by decide), up2_bl (show 7 < 106 by decide), up2_bl (show 8 < 106 by decide), up2_bl (show 9 < 106 by decide), up2_bl (show 5 < 106 by decide), bl_at (show 5 < 106 by decide)]
  unfold cAdd
  rw [e5, e4, en, ek]
  have e4' : up2 (up2 (up2 (up2 (up2 σ 6 n t) 7 n g) 8 n p) 9 n kd) 5 5 (nI ((n + 1) % 20)) 5 4 = nI k := by
    rw [up2_n (Or.inr (by decide)), up2_n (Or.inl (by decide)), up2_n (Or.inl (by decide)), up2_n (Or.inl (by decide)), up2_n (Or.inl (by decide))]
    exact e4
  rw [e4']
  have em : (if (20 : Int32) < nI k + 1 then (20 : Int32) else nI k + 1) = nI (min (k + 1) 20) := by
    rw [nI_1]
    by_cases hk20 : k = 20
    · subst hk20; decide
    · have hng : ¬ (20 : Int32) < nI (k + 1) := nI_nlt (b := k + 1) (a := 20) (by omega) (by omega)
      rw [if_neg hng, show min (k + 1) 20 = k + 1 by omega]
  rw [em]
end BLK
