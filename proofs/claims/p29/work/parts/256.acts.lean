/-! what calls do to the row -/
section ACTS
variable {σ : Mm} {r r' : Nat → Int32} {n ng np nx nl g h' p x B : Nat}
def Bec (v : Int32) (r' : Nat → Int32) (ng np nx nl : Nat) : Int32 → (Nat → Int32) → Nat → Nat → Nat → Nat → Prop := fun v1 r1 a b c d => v1 = v ∧ r1 = r' ∧ a = ng ∧ b = np ∧ c = nx ∧ d = nl
theorem up29 {T : Nat} (hn : n < 40000) (hT : T ≤ TB n + 20000) (h : Rel σ r T ng np nx nl) : Rel σ r (TB (n + 1)) ng np nx nl := h.mono (by have := TB_up (n := n); omega) (TB_lt (by omega))
theorem TB29 (hn : n < 40000) : TB n + 20000 < 1073741824 := by
  have := TB_lt (n := n + 1) (by omega)
  have := TB_up (n := n)
  omega
theorem Acts.same {wc : Nat → Mm → (Int32 → Mm → Prop) → Prop} {v : Int32} (hn : n < 40000) (H : ∀ σ : Mm, Rel σ r (TB n) ng np nx nl → ∀ (S : Nat) (μ : Mm) (Φ : Int32 → Mm → Prop), Φ v (bl S σ μ) → wc S (bl S σ μ) Φ) : Acts wc n r ng np nx nl (Bec v r ng np nx nl) := fun σ h => ⟨σ, r, v, ng, np, nx, nl, up29 hn (by omega) h, H σ h, rfl, rfl, rfl, rfl, rfl, rfl⟩
theorem bt_y {lo a hi : Int32} {u : Mm} {Φ : Int32 → Mm → Prop} (h1 : ¬ a < lo) (h2 : ¬ hi < a) : w_X9_isBetween lo a hi u Φ = Φ 1 u := by rw [c_between29, btw29 h1 h2]
theorem bt_n {lo a hi : Int32} {u : Mm} {Φ : Int32 → Mm → Prop} (h : a < lo ∨ hi < a) : w_X9_isBetween lo a hi u Φ = Φ 0 u := by
  rw [c_between29]
  rcases h with h | h
  · rw [if_pos h]
  · rw [if_pos h]
    split <;> rfl
theorem nIb {m lo hi : Nat} (h1 : lo ≤ m) (h2 : m ≤ hi) (h3 : hi < 2147483648) : ¬ nI m < nI lo ∧ ¬ nI hi < nI m := ⟨nI_nlt h1 (by omega), nI_nlt h2 (by omega)⟩
theorem a_pool0 {m : Nat} (hn : n < 40000) (h1 : 1 ≤ m) (h2 : m ≤ 40) : Acts (fun S => w_X8_newPool S (nI m)) n r ng np nx 0 (Bec 0 (upd (upd (upd (upd r (424 + 3 * 0) 0) (424 + 3 * 0 + 1) (nI m)) (424 + 3 * 0 + 2) 0) 4 (nI (0 + 1))) ng np nx 1) := by
  intro σ h
  have h7 : σ 0 7 = nI 0 := h.1.1.2.2.2.1.1
  have hlt : nI 0 < 4 := by decide
  obtain ⟨b1, b2⟩ : ¬ nI m < 1 ∧ ¬ (40 : Int32) < nI m := nIb (m := m) (lo := 1) (hi := 40) h1 h2 (by decide)
  have hp : 90 + 0 < 106 := by decide
  refine ⟨_, _, 0, ng, np, nx, 0 + 1, up29 hn (by omega) (h.newPool (a := nI m) (by decide)), fun S μ Φ hΦ => ?_, rfl, rfl, rfl, rfl, rfl, rfl⟩
  show w_X8_newPool S (nI m) (bl S σ μ) Φ
  unfold w_X8_newPool w_X6_setUp
  rw [bt_y b1 b2, if_neg (by decide), bl_0, h7, if_pos hlt, vin (show 0 < 4 by omega) (by decide), true_and, cl (show 0 < 2147483648 by omega)]
  simp only [forall_eq, Nat.add_assoc, up2_bl hp, up2_bl0, bl_0]
  have c7 : up2 (up2 (up2 (up2 (up2 σ (90 + 0) 0 0) (90 + 0) 1 (nI m)) (90 + 0) 2 0) (90 + 0) 3 0) (90 + 0) 4 0 0 7 = nI 0 := by
    rw [up2_n (by omega), up2_n (by omega), up2_n (by omega), up2_n (by omega), up2_n (by omega)]
    exact h7
  rw [c7, nI_1, up2_s, nI_pred]
  exact hΦ
theorem a_credit {c m : Nat} (hn : n < 40000) (h1 : 1 ≤ m) (h2 : m ≤ 100000) (hc : r 424 = nI c) (hcm : c + m ≤ 1000000) : Acts (fun S => w_X8_addCredit S 0 (nI m)) n r ng np nx 1 (Bec (nI (c + m)) (upd r 424 (nI (c + m))) ng np nx 1) := by
  intro σ h
  have es : σ (90 + 0) 0 = nI c := (h.1.2.2.2.2.1 0 0 (by decide) (Or.inl (by decide))).trans hc
  have bk : ∀ (S : Nat) (τ μ : Mm), bl S τ μ (S + 90 + 0) = τ (90 + 0) := fun S τ μ => by rw [Nat.add_assoc]; exact bl_at (by omega)
  have uk : ∀ (S j : Nat) (v : Int32) (τ μ : Mm), up2 (bl S τ μ) (S + 90 + 0) j v = bl S (up2 τ (90 + 0) j v) μ := fun S j v τ μ => by rw [Nat.add_assoc]; exact up2_bl (by omega)
  obtain ⟨b1, b2⟩ : ¬ nI m < 1 ∧ ¬ (100000 : Int32) < nI m := nIb (m := m) (lo := 1) (hi := 100000) h1 h2 (by decide)
  have hle : nI c + nI m ≤ 1000000 := by rw [nI_add]; exact nI_le (b := 1000000) hcm (by decide)
  have hR : Rel (up2 σ (90 + 0) 0 (nI (c + m))) (upd r 424 (nI (c + m))) (TB n) ng np nx 1 := h.keep (h.1.pool (x := 0) (f := 0) (by omega) (Or.inl (by decide))) (Nat.le_refl _) (fun q j h1 h2 h3 => up2_n (by omega)) (fun i hi h2 => pk_un (by omega))
  refine ⟨_, _, nI (c + m), ng, np, nx, 1, up29 hn (by omega) hR, fun S μ Φ hΦ => ?_, rfl, rfl, rfl, rfl, rfl, rfl⟩
  show w_X8_addCredit S (nI 0) (nI m) (bl S σ μ) Φ
  unfold w_X8_addCredit
  rw [d_poolAt_y h.1.1.2.2.2.1.1 (by decide) (by decide), opt_some, bt_y b1 b2, if_neg (by decide), bk, es, if_pos hle]
  rintro _ rfl
  rw [uk, bk, nI_add, up2_s]
  exact hΦ
theorem a_npass (hn : n < 40000) (hx : nx < 12) : Acts (fun S => w_X8_newPass S 0) n r ng np nx 1 (Bec (nI nx) (upd (upd (upd r (400 + 2 * nx) (nI 0)) (400 + 2 * nx + 1) 0) 3 (nI (nx + 1))) ng np (nx + 1) 1) := by
  intro σ h
  have h8 : σ 0 8 = nI nx := h.1.1.2.2.1.1
  have hlt : nI nx < 12 := nI_lt (b := 12) (by omega) (by omega)
  have hp : 94 + nx < 106 := by omega
  have hp2 : 90 + 0 < 106 := by omega
  refine ⟨_, _, nI nx, ng, np, nx + 1, 1, up29 hn (by omega) (h.newPass (m := 0) (by omega) (by decide)), fun S μ Φ hΦ => ?_, rfl, rfl, rfl, rfl, rfl, rfl⟩
  show w_X8_newPass S (nI 0) (bl S σ μ) Φ
  unfold w_X8_newPass w_X4_setUp
  rw [d_poolAt_y h.1.1.2.2.2.1.1 (by decide) (by decide), opt_some, bl_0, h8, if_pos hlt, vin (show nx < 12 by omega) (by decide), true_and, cl (show nx < 2147483648 by omega)]
  simp only [forall_eq, Nat.add_assoc, up2_bl hp, up2_bl hp2, bl_at hp2, up2_bl0, bl_0]
  have c3 : up2 (up2 (up2 σ (94 + nx) 0 (nI 0)) (94 + nx) 1 0) (94 + nx) 2 (-5) (90 + 0) 3 = σ (90 + 0) 3 := by
    rw [up2_n (by omega), up2_n (by omega), up2_n (by omega)]
  rw [c3]
  have c8 : up2 (up2 (up2 (up2 σ (94 + nx) 0 (nI 0)) (94 + nx) 1 0) (94 + nx) 2 (-5)) (90 + 0) 3 (σ (90 + 0) 3 + 1) 0 8 = nI nx := by
    rw [up2_n (by omega), up2_n (by omega), up2_n (by omega), up2_n (by omega)]
    exact h8
  rw [c8, nI_1, up2_s, nI_pred]
  exact hΦ
/-- a pass that is marked -/
def MarkQ (x : Nat) (b : Int32) (r : Nat → Int32) (ng np nx : Nat) : Int32 → (Nat → Int32) → Nat → Nat → Nat → Nat → Prop := fun _ r1 a b' c d => r1 = upd r (400 + 2 * x + 1) b ∧ a = ng ∧ b' = np ∧ c = nx ∧ d = 1
theorem a_block {b : Int32} (hn : n < 40000) (hx : x < nx) (hb : isB b) (hne : r (400 + 2 * x + 1) ≠ b) : Acts (fun S => w_X8_markPass S (nI x) b) n r ng np nx 1 (MarkQ x b r ng np nx) := by
  intro σ h
  obtain ⟨n1, n2, n3, n4⟩ := h.1.n
  have hA : ∀ (S : Nat) (μ : Mm) (Φ : Option Nat → Mm → Prop), w_X8_passAt S (nI x) (bl S σ μ) Φ = Φ (some (S + 94 + x)) (bl S σ μ) := fun S μ Φ => d_passAt_y h.1.1.2.2.1.1 hx n3
  have bx : ∀ S μ, bl S σ μ (S + 94 + x) = σ (94 + x) := fun S μ => by rw [Nat.add_assoc]; exact bl_at (by omega)
  have e1 : r (400 + 2 * x + 1) = σ (94 + x) 1 := (h.1.2.2.2.1 x 1 hx (by decide)).symm
  have hc : ¬ σ (94 + x) 1 = b := fun e => hne (e1.trans e)
  obtain ⟨σ', hσ'⟩ : ∃ σ' : Mm, σ' = up2 σ (94 + x) 1 b := ⟨_, rfl⟩
  have hC : Core σ' (upd r (400 + 2 * x + 1) b) (TB n) ng np nx 1 := by rw [hσ']; exact h.1.pass (x := x) (f := 1) (by omega) (by decide)
  have o : ∀ q j, ¬ (q = 94 + x ∧ j = 1) → σ' q j = σ q j := fun q j hq => by rw [hσ', up2_n (by omega)]
  have hX : ∀ y, y < nx → VX σ' 1 y := fun y hy => by
    obtain ⟨k, k1, k2, k3⟩ := h.2.2.2.1 y hy
    refine ⟨k, k1, by rw [o _ _ (by omega)]; exact k2, ?_⟩
    by_cases e : y = x
    · rw [e, hσ', up2_s]; exact hb
    · rw [o _ _ (by omega)]; exact k3
  have hR : Rel σ' (upd r (400 + 2 * x + 1) b) (TB n) ng np nx 1 := h.keepX hC hX (fun q j h1 h2 h3 h4 => o _ _ (by omega)) (fun i h1 h2 => by rw [pk_un (by omega)])
  refine ⟨σ', _, nI (cnt (bB σ') nx), ng, np, nx, 1, up29 hn (by omega) hR, fun S μ Φ hΦ => ?_, rfl, rfl, rfl, rfl, rfl⟩
  show w_X8_markPass S (nI x) b (bl S σ μ) Φ
  unfold w_X8_markPass
  rw [hA, opt_some, bx, if_neg hc]
  refine ⟨hb, ?_⟩
  rintro _ rfl
  rw [Nat.add_assoc, up2_bl (show 94 + x < 106 by omega), ← hσ']
  exact mark_loop hC.1.2.2.1.1 n3 hΦ nx 0 (by omega)
theorem a_block_same {b : Int32} (hn : n < 40000) (hx : x < nx) (he : r (400 + 2 * x + 1) = b) : Acts (fun S => w_X8_markPass S (nI x) b) n r ng np nx 1 (Bec (-5) r ng np nx 1) := Acts.same hn (fun σ h S μ Φ hΦ => by
  obtain ⟨n1, n2, n3, n4⟩ := h.1.n
  have bx : bl S σ μ (S + 94 + x) = σ (94 + x) := by rw [Nat.add_assoc]; exact bl_at (by omega)
  have e1 : σ (94 + x) 1 = b := (h.1.2.2.2.1 x 1 hx (by decide)).trans he
  show w_X8_markPass S (nI x) b (bl S σ μ) Φ
  unfold w_X8_markPass
  rw [d_passAt_y h.1.1.2.2.1.1 hx n3, opt_some, bx, if_pos e1]
  exact hΦ)
theorem a_block_n {a b : Int32} (hn : n < 40000) (ha : a < 0 ∨ nI nx ≤ a) : Acts (fun S => w_X8_markPass S a b) n r ng np nx nl (Bec (-1) r ng np nx nl) := Acts.same hn (fun σ h S μ Φ hΦ => by
  show w_X8_markPass S a b (bl S σ μ) Φ
  unfold w_X8_markPass
  rw [d_passAt_n h.1.1.2.2.1.1 ha, opt_none]
  exact hΦ)
theorem a_fare {k : Nat} (hn : n < 40000) (hk : k ≤ 1000) : Acts (fun S => w_X8_changeFare S (nI k)) n r ng np nx nl (Bec (r 6) (upd r 6 (nI k)) ng np nx nl) := by
  intro σ h
  obtain ⟨b1, b2⟩ : ¬ nI k < 0 ∧ ¬ (1000 : Int32) < nI k := nIb (m := k) (lo := 0) (hi := 1000) (by omega) hk (by decide)
  refine ⟨up2 σ 0 10 (nI k), upd r 6 (nI k), r 6, ng, np, nx, nl, up29 hn (by omega) (h.keep h.1.fare (Nat.le_refl _) (fun q j h1 _ _ => up2_n (Or.inl (by omega))) (fun i hi _ => pk_un (by omega))), fun S μ Φ hΦ => ?_, rfl, rfl, rfl, rfl, rfl, rfl⟩
  show w_X8_changeFare S (nI k) (bl S σ μ) Φ
  unfold w_X8_changeFare
  rw [bt_y b1 b2, if_neg (by decide)]
  rintro _ rfl
  rw [up2_bl0, bl_0, h.1.1.2.2.2.2.1]
  exact hΦ
theorem a_dir {k : Nat} (hn : n < 40000) (hg : g < ng) (hk : k ≤ 2) : Acts (fun S => w_X8_turnGate S (nI g) (nI k)) n r ng np nx nl (Bec (r (8 + 14 * g + 0)) (upd r (8 + 14 * g + 0) (nI k)) ng np nx nl) := by
  intro σ h
  obtain ⟨n1, n2, n3, n4⟩ := h.1.n
  have hg8 : g < 8 := by omega
  obtain ⟨b1, b2⟩ : ¬ nI k < 0 ∧ ¬ (2 : Int32) < nI k := nIb (m := k) (lo := 0) (hi := 2) (by omega) hk (by decide)
  have es0 : σ (10 + 5 * g) 2 = r (8 + 14 * g + 0) := h.1.2.1 g 0 hg (by decide)
  have hR : Rel (up2 σ (10 + 5 * g) 2 (nI k)) (upd r (8 + 14 * g + 0) (nI k)) (TB n) ng np nx nl := ((h.x g).gate (v := nI k) hg (f := 0) (by decide)).all (VG_dir (h.2.1 g hg) hg8 hk)
  refine ⟨_, _, r (8 + 14 * g + 0), ng, np, nx, nl, up29 hn (by omega) hR, fun S μ Φ hΦ => ?_, rfl, rfl, rfl, rfl, rfl, rfl⟩
  show w_X8_turnGate S (nI g) (nI k) (bl S σ μ) Φ
  unfold w_X8_turnGate
  rw [d_gateAt_y h.1.1.1.1 hg n1, opt_some, bt_y b1 b2, if_neg (by decide)]
  rintro _ rfl
  rw [up2_G hg8, bl_G hg8, es0]
  exact hΦ
/-- the row with one more gate -/
def gateR (ng : Nat) (a b c d : Int32) (r : Nat → Int32) : Nat → Int32 := fun i => if i = 8 + 14 * ng then a else if i = 8 + 14 * ng + 1 then b else if i = 8 + 14 * ng + 2 then c else if i = 8 + 14 * ng + 3 then d else if i = 8 + 14 * ng + 6 then -5 else if 8 + 14 * ng ≤ i ∧ i < 8 + 14 * ng + 14 then 0 else if i = 1 then nI (ng + 1) else r i
section GATER
variable {a b c d : Int32}
theorem gateR_z {f : Nat} (f1 : f < 14) (f2 : 3 < f) (f3 : f ≠ 6) : gateR ng a b c d r (8 + 14 * ng + f) = 0 := by
  unfold gateR
  rw [if_neg (by omega), if_neg (by omega), if_neg (by omega), if_neg (by omega), if_neg (by omega), if_pos (by omega)]
theorem gateR_0 : gateR ng a b c d r (8 + 14 * ng + 0) = a := by
  unfold gateR
  rw [if_pos (by omega)]
theorem gateR_1 : gateR ng a b c d r (8 + 14 * ng + 1) = b := by
  unfold gateR
  rw [if_neg (by omega), if_pos rfl]
theorem gateR_2 : gateR ng a b c d r (8 + 14 * ng + 2) = c := by
  unfold gateR
  rw [if_neg (by omega), if_neg (by omega), if_pos rfl]
theorem gateR_3 : gateR ng a b c d r (8 + 14 * ng + 3) = d := by
  unfold gateR
  rw [if_neg (by omega), if_neg (by omega), if_neg (by omega), if_pos rfl]
theorem gateR_6 : gateR ng a b c d r (8 + 14 * ng + 6) = -5 := by
  unfold gateR
  rw [if_neg (by omega), if_neg (by omega), if_neg (by omega), if_neg (by omega), if_pos rfl]
theorem gateR_o {i : Nat} (h1 : i < 8 + 14 * ng ∨ 8 + 14 * ng + 14 ≤ i) (h2 : i ≠ 1) : gateR ng a b c d r i = r i := by
  unfold gateR
  rw [if_neg (by omega), if_neg (by omega), if_neg (by omega), if_neg (by omega), if_neg (by omega), if_neg (by omega), if_neg h2]
theorem gateR_n : gateR ng a b c d r 1 = nI (ng + 1) := by
  unfold gateR
  rw [if_neg (by omega), if_neg (by omega), if_neg (by omega), if_neg (by omega), if_neg (by omega), if_neg (by omega), if_pos rfl]
theorem a_ngate {k : Nat} (hn : n < 40000) (hl : ng < 8) (hk : k ≤ 2) (ek : a = nI k) (h1 : ¬ b < 1 ∧ ¬ 10 < b) (h2 : ¬ c < 1 ∧ ¬ 20 < c) (h3 : ¬ d < 1 ∧ ¬ 10 < d) : Acts (fun S => w_X8_newGate S a b c d) n r ng np nx nl (Bec (nI ng) (gateR ng a b c d r) (ng + 1) np nx nl) := by
  intro σ h
  obtain ⟨n1, n2, n3, n4⟩ := h.1.n
  have h5 : σ 0 5 = nI ng := h.1.1.1.1
  have r1 : r 1 = nI ng := h.1.1.1.2.1
  have hlt : nI ng < 8 := nI_lt (b := 8) (by omega) (by omega)
  have hg8 : ng < 8 := by omega
  have h0 : ¬ a < 0 ∧ ¬ 2 < a := by rw [ek]; exact nIb (m := k) (lo := 0) (hi := 2) (by omega) hk (by decide)
  obtain ⟨σ', hS⟩ : ∃ σ' : Mm, σ' = (up2 (up2 (up2 (up2 (up2 (up2 (up2 (up2 (up2 (up2 (up2 (up2 (up2 (up2 (up2 (up2 σ (11 + 5 * ng) 1 (0)) (13 + 5 * ng) 1 (0)) (10 + 5 * ng) 2 (a)) (10 + 5 * ng) 3 (b)) (10 + 5 * ng) 4 (c)) (10 + 5 * ng) 5 (d)) (10 + 5 * ng) 6 (0)) (10 + 5 * ng) 7 (0)) (10 + 5 * ng) 8 (-5)) (10 + 5 * ng) 9 (0)) (10 + 5 * ng) 10 (0)) (10 + 5 * ng) 11 (0)) (10 + 5 * ng) 12 (0)) (10 + 5 * ng) 13 (0)) (10 + 5 * ng) 14 (0)) (0) 5 (nI (ng + 1))) := ⟨_, rfl⟩
  have o : ∀ q j, q ≠ 10 + 5 * ng → q ≠ 11 + 5 * ng → q ≠ 13 + 5 * ng → ¬ (q = 0 ∧ j = 5) → σ' q j = σ q j := by
    intro q j h1 h2 h3 h4
    rw [hS, up2_n (by omega), up2_n (Or.inl h1), up2_n (Or.inl h1), up2_n (Or.inl h1), up2_n (Or.inl h1), up2_n (Or.inl h1), up2_n (Or.inl h1), up2_n (Or.inl h1), up2_n (Or.inl h1), up2_n (Or.inl h1), up2_n (Or.inl h1), up2_n (Or.inl h1), up2_n (Or.inl h1), up2_n (Or.inl h1), up2_n (Or.inl h3), up2_n (Or.inl h2)]
  have v0 : σ' (11 + 5 * ng) 1 = 0 := by
    rw [hS, up2_n (by omega), up2_n (by omega), up2_n (by omega), up2_n (by omega), up2_n (by omega), up2_n (by omega), up2_n (by omega), up2_n (by omega), up2_n (by omega), up2_n (by omega), up2_n (by omega), up2_n (by omega), up2_n (by omega), up2_n (by omega), up2_n (by omega), up2_s]
  have v1 : σ' (13 + 5 * ng) 1 = 0 := by
    rw [hS, up2_n (by omega), up2_n (by omega), up2_n (by omega), up2_n (by omega), up2_n (by omega), up2_n (by omega), up2_n (by omega), up2_n (by omega), up2_n (by omega), up2_n (by omega), up2_n (by omega), up2_n (by omega), up2_n (by omega), up2_n (by omega), up2_s]
  have v2 : σ' (10 + 5 * ng) 2 = a := by
    rw [hS, up2_n (by omega), up2_n (by omega), up2_n (by omega), up2_n (by omega), up2_n (by omega), up2_n (by omega), up2_n (by omega), up2_n (by omega), up2_n (by omega), up2_n (by omega), up2_n (by omega), up2_n (by omega), up2_n (by omega), up2_s]
  have v3 : σ' (10 + 5 * ng) 3 = b := by
    rw [hS, up2_n (by omega), up2_n (by omega), up2_n (by omega), up2_n (by omega), up2_n (by omega), up2_n (by omega), up2_n (by omega), up2_n (by omega), up2_n (by omega), up2_n (by omega), up2_n (by omega), up2_n (by omega), up2_s]
  have v4 : σ' (10 + 5 * ng) 4 = c := by
    rw [hS, up2_n (by omega), up2_n (by omega), up2_n (by omega), up2_n (by omega), up2_n (by omega), up2_n (by omega), up2_n (by omega), up2_n (by omega), up2_n (by omega), up2_n (by omega), up2_n (by omega), up2_s]
  have v5 : σ' (10 + 5 * ng) 5 = d := by
    rw [hS, up2_n (by omega), up2_n (by omega), up2_n (by omega), up2_n (by omega), up2_n (by omega), up2_n (by omega), up2_n (by omega), up2_n (by omega), up2_n (by omega), up2_n (by omega), up2_s]
  have v6 : σ' (10 + 5 * ng) 6 = 0 := by
    rw [hS, up2_n (by omega), up2_n (by omega), up2_n (by omega), up2_n (by omega), up2_n (by omega), up2_n (by omega), up2_n (by omega), up2_n (by omega), up2_n (by omega), up2_s]
  have v7 : σ' (10 + 5 * ng) 7 = 0 := by
    rw [hS, up2_n (by omega), up2_n (by omega), up2_n (by omega), up2_n (by omega), up2_n (by omega), up2_n (by omega), up2_n (by omega), up2_n (by omega), up2_s]
  have v8 : σ' (10 + 5 * ng) 8 = -5 := by
    rw [hS, up2_n (by omega), up2_n (by omega), up2_n (by omega), up2_n (by omega), up2_n (by omega), up2_n (by omega), up2_n (by omega), up2_s]
  have v9 : σ' (10 + 5 * ng) 9 = 0 := by
    rw [hS, up2_n (by omega), up2_n (by omega), up2_n (by omega), up2_n (by omega), up2_n (by omega), up2_n (by omega), up2_s]
  have v10 : σ' (10 + 5 * ng) 10 = 0 := by
    rw [hS, up2_n (by omega), up2_n (by omega), up2_n (by omega), up2_n (by omega), up2_n (by omega), up2_s]
  have v11 : σ' (10 + 5 * ng) 11 = 0 := by
    rw [hS, up2_n (by omega), up2_n (by omega), up2_n (by omega), up2_n (by omega), up2_s]
  have v12 : σ' (10 + 5 * ng) 12 = 0 := by
    rw [hS, up2_n (by omega), up2_n (by omega), up2_n (by omega), up2_s]
  have v13 : σ' (10 + 5 * ng) 13 = 0 := by
    rw [hS, up2_n (by omega), up2_n (by omega), up2_s]
  have v14 : σ' (10 + 5 * ng) 14 = 0 := by
    rw [hS, up2_n (by omega), up2_s]
  have v15 : σ' (0) 5 = nI (ng + 1) := by
    rw [hS, up2_s]
  have hgf : ∀ f, f < 13 → σ' (10 + 5 * ng) (f + 2) = gateR ng a b c d r (8 + 14 * ng + gm f) := fun f hf => by
    rcases (show f = 0 ∨ f = 1 ∨ f = 2 ∨ f = 3 ∨ f = 4 ∨ f = 5 ∨ f = 6 ∨ f = 7 ∨ f = 8 ∨ f = 9 ∨ f = 10 ∨ f = 11 ∨ f = 12 by omega) with rfl | rfl | rfl | rfl | rfl | rfl | rfl | rfl | rfl | rfl | rfl | rfl | rfl
    · exact v2.trans gateR_0.symm
    · exact v3.trans gateR_1.symm
    · exact v4.trans gateR_2.symm
    · exact v5.trans gateR_3.symm
    · exact v6.trans (gateR_z (f := 4) (by decide) (by decide) (by decide)).symm
    · exact v7.trans (gateR_z (f := 5) (by decide) (by decide) (by decide)).symm
    · exact v8.trans gateR_6.symm
    · exact v9.trans (gateR_z (f := 9) (by decide) (by decide) (by decide)).symm
    · exact v10.trans (gateR_z (f := 8) (by decide) (by decide) (by decide)).symm
    · exact v11.trans (gateR_z (f := 10) (by decide) (by decide) (by decide)).symm
    · exact v12.trans (gateR_z (f := 11) (by decide) (by decide) (by decide)).symm
    · exact v13.trans (gateR_z (f := 12) (by decide) (by decide) (by decide)).symm
    · exact v14.trans (gateR_z (f := 13) (by decide) (by decide) (by decide)).symm
  have hR : Rel σ' (gateR ng a b c d r) (TB n) (ng + 1) np nx nl := h.newGate (k := k) hg8 o v15 v0 v1 (fun i h1 h2 => gateR_o h1 h2) gateR_n hgf hk (by rw [v2]; exact ek) v6 v8 v9
  refine ⟨σ', _, nI ng, ng + 1, np, nx, nl, up29 hn (by omega) hR, fun S μ Φ hΦ => ?_, rfl, rfl, rfl, rfl, rfl, rfl⟩
  show w_X8_newGate S a b c d (bl S σ μ) Φ
  unfold w_X8_newGate w_X1_setUp
  rw [bt_y h0.1 h0.2, if_neg (by decide), bt_y h1.1 h1.2, if_neg (by decide), bt_y h2.1 h2.2, if_neg (by decide), bt_y h3.1 h3.2, if_neg (by decide), bl_0, h5, if_pos hlt, vin (show ng < 8 by omega) (by decide), true_and, cl (show ng < 2147483648 by omega), show S + 10 + 5 * ng + 1 = S + (11 + 5 * ng) by omega, show S + 10 + 5 * ng + 3 = S + (13 + 5 * ng) by omega]
  simp only [forall_eq, up2_bl (show 11 + 5 * ng < 106 by omega), up2_bl (show 13 + 5 * ng < 106 by omega), up2_G hg8, up2_bl0, bl_0]
  have c5 : (up2 (up2 (up2 (up2 (up2 (up2 (up2 (up2 (up2 (up2 (up2 (up2 (up2 (up2 (up2 σ (11 + 5 * ng) 1 (0)) (13 + 5 * ng) 1 (0)) (10 + 5 * ng) 2 (a)) (10 + 5 * ng) 3 (b)) (10 + 5 * ng) 4 (c)) (10 + 5 * ng) 5 (d)) (10 + 5 * ng) 6 (0)) (10 + 5 * ng) 7 (0)) (10 + 5 * ng) 8 (-5)) (10 + 5 * ng) 9 (0)) (10 + 5 * ng) 10 (0)) (10 + 5 * ng) 11 (0)) (10 + 5 * ng) 12 (0)) (10 + 5 * ng) 13 (0)) (10 + 5 * ng) 14 (0)) 0 5 = nI ng := by
    rw [up2_n (by omega), up2_n (by omega), up2_n (by omega), up2_n (by omega), up2_n (by omega), up2_n (by omega), up2_n (by omega), up2_n (by omega), up2_n (by omega), up2_n (by omega), up2_n (by omega), up2_n (by omega), up2_n (by omega), up2_n (by omega), up2_n (by omega)]
    exact h5
  rw [c5, nI_1, up2_s, nI_pred, ← hS]
  exact hΦ
end GATER
/-- the row with one more person -/
def enterR (g np : Nat) (z s : Int32) (r : Nat → Int32) : Nat → Int32 := (upd (upd (upd (upd (upd (upd (upd (upd (upd r (2) (nI (np + 1))) (120 + 7 * np + 1) (z)) (120 + 7 * np + 2) (s)) (120 + 7 * np + 4) (0)) (120 + 7 * np + 5) (r 0)) (120 + 7 * np + 0) (1)) (120 + 7 * np + 3) (nI g)) (120 + 7 * np + 6) (r 7)) (7) (r 7 + 1))
theorem nI_nm1 {k : Nat} (h : k < 2147483648) : ¬ nI k = -1 := fun e => by
  have := nI_pos (n := k) (by omega)
  rw [e] at this
  exact this (by decide)
theorem e_enter {b z s : Int32} {T : Nat} (h : Rel σ r T ng np nx nl) (hT : T + 1 < 1073741824) (hl : np < 40) (hg : g < ng) (hs : isB s) (hb : (b = -1 ∧ z = -5) ∨ ∃ x, x < nx ∧ b = nI x ∧ z = nI x) : ∃ σ' : Mm, Rel σ' (enterR g np z s r) (T + 1) ng (np + 1) nx nl ∧ (∀ (S : Nat) (μ : Mm) (Φ : Int32 → Mm → Prop), Φ (nI np) (bl S σ' μ) → w_X8_comeIn S (nI g) b s (bl S σ μ) Φ) := by
  obtain ⟨n1, n2, n3, n4⟩ := h.1.n
  have hz : z = -5 ∨ ∃ x, x < nx ∧ z = nI x := by
    rcases hb with ⟨-, e⟩ | ⟨x, hx, -, e⟩
    · exact Or.inl e
    · exact Or.inr ⟨x, hx, e⟩
  obtain ⟨k, hk, hlen, hR⟩ := sim_enter h (by omega) hl hg hz hs
  have hpb : 50 + np < 106 := by omega
  have hqb : 11 + 5 * g + 2 * 0 < 106 := by omega
  have h6 : σ 0 6 = nI np := h.1.1.2.1.1
  have hlt : nI np < 40 := nI_lt (b := 40) hl (by omega)
  have hl' : (up2 (up2 (up2 (up2 (up2 (up2 (up2 σ (50 + np) 0 (z)) (50 + np) 1 (s)) (50 + np) 4 (0)) (50 + np) 3 (nI g)) (50 + np) 2 (1)) (50 + np) 5 (σ 0 9)) (50 + np) 6 (0)) (11 + 5 * g + 2 * 0) 1 = nI k := by
    rw [up2_n (by omega), up2_n (by omega), up2_n (by omega), up2_n (by omega), up2_n (by omega), up2_n (by omega), up2_n (by omega)]
    exact hlen
  have c6a : up2 (up2 (up2 σ (50 + np) 0 z) (50 + np) 1 s) (50 + np) 4 0 0 6 = nI np := by
    rw [up2_n (by omega), up2_n (by omega), up2_n (by omega)]
    exact h6
  have c9a : up2 (up2 (up2 σ (50 + np) 0 z) (50 + np) 1 s) (50 + np) 4 0 0 9 = σ 0 9 := by
    rw [up2_n (by omega), up2_n (by omega), up2_n (by omega)]
  have c6b : (up2 (up2 (up2 (up2 (up2 (up2 (up2 σ (50 + np) 0 (z)) (50 + np) 1 (s)) (50 + np) 4 (0)) (50 + np) 3 (nI g)) (50 + np) 2 (1)) (50 + np) 5 (σ 0 9)) (50 + np) 6 (0)) 0 6 = nI np := by
    rw [up2_n (by omega), up2_n (by omega), up2_n (by omega), up2_n (by omega), c6a]
  have c6c : (up2 (up2 (up2 (up2 (up2 (up2 (up2 (up2 (up2 σ (50 + np) 0 (z)) (50 + np) 1 (s)) (50 + np) 4 (0)) (50 + np) 3 (nI g)) (50 + np) 2 (1)) (50 + np) 5 (σ 0 9)) (50 + np) 6 (0)) (11 + 5 * g + 2 * 0 + 1) k (nI np)) (11 + 5 * g + 2 * 0) 1 (nI (k + 1))) 0 6 = nI np := by
    rw [up2_n (by omega), up2_n (by omega), c6b]
  obtain ⟨σ', hS⟩ : ∃ σ' : Mm, σ' = (up2 (up2 (up2 (up2 (up2 (up2 (up2 (up2 (up2 (up2 σ (50 + np) 0 (z)) (50 + np) 1 (s)) (50 + np) 4 (0)) (50 + np) 3 (nI g)) (50 + np) 2 (1)) (50 + np) 5 (σ 0 9)) (50 + np) 6 (0)) (11 + 5 * g + 2 * 0 + 1) k (nI np)) (11 + 5 * g + 2 * 0) 1 (nI (k + 1))) (0) 6 (nI (np + 1))) := ⟨_, rfl⟩
  rw [← hS] at hR
  refine ⟨σ', hR, fun S μ Φ hΦ => ?_⟩
  have H : w_X8_comeIn_62 Φ S (nI g) s (S + 10 + 5 * g) z (S + (50 + np)) (bl S σ μ) := by
    unfold w_X8_comeIn_62 w_X5_setUp
    rintro _ rfl
    refine ⟨hs, ?_⟩
    rintro _ rfl _ rfl
    rw [up2_bl hpb, up2_bl hpb, up2_bl hpb]
    show vp_in (bl S _ μ S 6) 40 ∧ w_X5_waitAt (S + 50 + (bl S _ μ S 6).toNatClampNeg) (nI g) 1 (bl S _ μ S 9) _ _
    rw [bl_0, c6a, c9a, cl (show np < 2147483648 by omega), Nat.add_assoc S 50 np]
    refine ⟨vp_in_nI (by omega) (by omega), ?_⟩
    unfold w_X5_waitAt
    rintro _ rfl _ rfl _ rfl
    rw [if_neg (by decide)]
    rintro _ rfl
    rw [up2_bl hpb, up2_bl hpb, up2_bl hpb, up2_bl hpb]
    show w_X7_append (S + 10 + 5 * g + 1) (bl S _ μ S 6) _ _
    rw [bl_0, c6b, show S + 10 + 5 * g + 1 = S + (11 + 5 * g + 2 * 0) by omega, d_append (by omega) hl' hk]
    rintro _ rfl
    show Φ (up2 _ S 6 (bl S _ μ S 6 + 1) S 6 - 1) (up2 _ S 6 (bl S _ μ S 6 + 1))
    rw [up2_s, bl_0, c6c, nI_1, nI_pred, up2_bl0, ← hS]
    exact hΦ
  have H2 : w_X8_comeIn_27 Φ S (nI g) b s (S + 10 + 5 * g) (bl S σ μ) := by
    unfold w_X8_comeIn_27
    rw [bl_0, h6, if_pos hlt, cl (show np < 2147483648 by omega), Nat.add_assoc S 50 np]
    refine ⟨vp_in_nI (by omega) (by omega), ?_⟩
    rcases hb with ⟨e1, e2⟩ | ⟨x, hx, e1, e2⟩
    · rw [if_pos e1]
      rw [e2] at H
      exact H
    · rw [if_neg (by rw [e1]; exact nI_nm1 (by omega))]
      rw [e2, ← e1] at H
      exact H
  unfold w_X8_comeIn
  rw [d_gateAt_y h.1.1.1.1 hg n1, opt_some]
  rcases hb with ⟨e1, e2⟩ | ⟨x, hx, e1, e2⟩
  · rw [if_pos e1]
    exact H2
  · rw [if_neg (by rw [e1]; exact nI_nm1 (by omega))]
    have hP := d_passAt_y (S := S) (σ := σ) (μ := μ) (Φ := fun r17 u16 => opt r17 (Φ ((-1 : Int32)) u16) (fun r17 => (w_X8_comeIn_27 Φ S (nI g) b s (S + 10 + 5 * g) u16))) h.1.1.2.2.1.1 hx n3
    rw [← e1] at hP
    rw [hP, opt_some]
    exact H2
theorem enterR_o {i : Nat} {z s : Int32} (h2 : i ≠ 2) (h7 : i ≠ 7) (h : i < 120 + 7 * np ∨ 127 + 7 * np ≤ i) : enterR g np z s r i = r i := by
  unfold enterR
  rw [pk_un h7, pk_un (by omega), pk_un (by omega), pk_un (by omega), pk_un (by omega), pk_un (by omega), pk_un (by omega), pk_un (by omega), pk_un h2]
theorem enterR_1 {z s : Int32} : enterR g np z s r (120 + 7 * np + 1) = z := by
  unfold enterR
  rw [pk_un (by omega), pk_un (by omega), pk_un (by omega), pk_un (by omega), pk_un (by omega), pk_un (by omega), pk_un (by omega), pk_us]
theorem enterR_2 {z s : Int32} : enterR g np z s r (120 + 7 * np + 2) = s := by
  unfold enterR
  rw [pk_un (by omega), pk_un (by omega), pk_un (by omega), pk_un (by omega), pk_un (by omega), pk_un (by omega), pk_us]
theorem enterR_4 {z s : Int32} : enterR g np z s r (120 + 7 * np + 4) = 0 := by
  unfold enterR
  rw [pk_un (by omega), pk_un (by omega), pk_un (by omega), pk_un (by omega), pk_un (by omega), pk_us]
theorem enterR_0 {z s : Int32} : enterR g np z s r (120 + 7 * np + 0) = 1 := by
  unfold enterR
  rw [pk_un (by omega), pk_un (by omega), pk_un (by omega), pk_us]
theorem a_enter {b z s : Int32} (hn : n < 40000) (hl : np < 40) (hg : g < ng) (hs : isB s) (hb : (b = -1 ∧ z = -5) ∨ ∃ x, x < nx ∧ b = nI x ∧ z = nI x) : Acts (fun S => w_X8_comeIn S (nI g) b s) n r ng np nx nl (Bec (nI np) (enterR g np z s r) ng (np + 1) nx nl) := by
  intro σ h
  obtain ⟨σ', k1, k2⟩ := e_enter (b := b) h (by have := TB29 hn; omega) hl hg hs hb
  exact ⟨σ', _, nI np, ng, np + 1, nx, nl, up29 hn (by omega) k1, k2, rfl, rfl, rfl, rfl, rfl, rfl⟩
theorem a_enter_full {b s : Int32} (hn : n < 40000) (hl : np = 40) (hg : g < ng) (hb : b = -1 ∨ ∃ x, x < nx ∧ b = nI x) : Acts (fun S => w_X8_comeIn S (nI g) b s) n r ng np nx nl (Bec (-3) r ng np nx nl) := Acts.same hn (fun σ h S μ Φ hΦ => by
  obtain ⟨n1, n2, n3, n4⟩ := h.1.n
  have h6 : σ 0 6 = nI np := h.1.1.2.1.1
  have H2 : w_X8_comeIn_27 Φ S (nI g) b s (S + 10 + 5 * g) (bl S σ μ) := by
    unfold w_X8_comeIn_27
    rw [bl_0, h6, hl, if_neg (by decide)]
    exact hΦ
  show w_X8_comeIn S (nI g) b s (bl S σ μ) Φ
  unfold w_X8_comeIn
  rw [d_gateAt_y h.1.1.1.1 hg n1, opt_some]
  rcases hb with e | ⟨x, hx, e⟩
  · rw [if_pos e]
    exact H2
  · have hP := d_passAt_y (S := S) (σ := σ) (μ := μ) (Φ := fun r17 u16 => opt r17 (Φ ((-1 : Int32)) u16) (fun r17 => (w_X8_comeIn_27 Φ S (nI g) b s (S + 10 + 5 * g) u16))) h.1.1.2.2.1.1 hx n3
    rw [← e] at hP
    rw [if_neg (by rw [e]; exact nI_nm1 (by omega)), hP, opt_some]
    exact H2)
/-- the row with somebody who wants out -/
def exitR (g p : Nat) (r : Nat → Int32) : Nat → Int32 := (upd (upd (upd (upd (upd r (120 + 7 * p + 5) (r 0)) (120 + 7 * p + 0) (4)) (120 + 7 * p + 3) (nI g)) (120 + 7 * p + 6) (r 7)) (7) (r 7 + 1))
theorem a_exit (hn : n < 40000) (hg : g < ng) (hp : p < np) (e3 : r (120 + 7 * p + 0) = 3) : Acts (fun S => w_X8_goOut S (nI g) (nI p)) n r ng np nx nl (Bec (nI (cnt (qB r (nI g) (nI 1)) np + 1)) (exitR g p r) ng np nx nl) := by
  intro σ h
  obtain ⟨n1, n2, n3, n4⟩ := h.1.n
  have hp40 : p < 40 := by omega
  have hpb : 50 + p < 106 := by omega
  have hqb : 11 + 5 * g + 2 * 1 < 106 := by omega
  have e2 : σ (50 + p) 2 = (3 : Int32) := (h.1.2.2.1 p 2 hp (by decide)).trans e3
  obtain ⟨k, hk, hl, hR⟩ := sim_exit h (by have := TB29 hn; omega) hg hp (e2.trans (by decide))
  obtain ⟨m, am, b1, b2, b3, b4, b5, b6, -⟩ := q_facts (g := g) (e := 1) (ea := nI 1) h.1 (by decide) rfl (h.2.2.2.2.1 g 1 hg (by decide))
  have hmk : m = k := nI_inj (by omega) (by omega) (b2.symm.trans hl)
  have hl' : (up2 (up2 (up2 (up2 σ (50 + p) 3 (nI g)) (50 + p) 2 (4)) (50 + p) 5 (σ 0 9)) (50 + p) 6 (1)) (11 + 5 * g + 2 * 1) 1 = nI k := by
    rw [up2_n (by omega), up2_n (by omega), up2_n (by omega), up2_n (by omega)]
    exact hl
  obtain ⟨σ', hS⟩ : ∃ σ' : Mm, σ' = (up2 (up2 (up2 (up2 (up2 (up2 σ (50 + p) 3 (nI g)) (50 + p) 2 (4)) (50 + p) 5 (σ 0 9)) (50 + p) 6 (1)) (11 + 5 * g + 2 * 1 + 1) k (nI p)) (11 + 5 * g + 2 * 1) 1 (nI (k + 1))) := ⟨_, rfl⟩
  rw [← hS] at hR
  refine ⟨σ', _, nI (k + 1), ng, np, nx, nl, up29 hn (by omega) hR, fun S μ Φ hΦ => ?_, by rw [b6, hmk], rfl, rfl, rfl, rfl, rfl⟩
  show w_X8_goOut S (nI g) (nI p) (bl S σ μ) Φ
  unfold w_X8_goOut
  rw [d_gateAt_y h.1.1.1.1 hg n1, opt_some, d_personAt_y h.1.1.2.1.1 hp n2, opt_some, bl_P hp40, bl_0, show S + 10 + 5 * g + 3 = S + (11 + 5 * g + 2 * 1) by omega, Nat.add_assoc S 50 p, if_pos e2]
  unfold w_X5_waitAt
  rintro _ rfl _ rfl _ rfl
  rw [if_pos rfl]
  rintro _ rfl
  rw [up2_bl hpb, up2_bl hpb, up2_bl hpb, up2_bl hpb]
  show w_X7_append (S + (11 + 5 * g + 2 * 1)) (nI p) _ _
  rw [d_append (by omega) hl' hk]
  show Φ (bl S _ μ (S + (11 + 5 * g + 2 * 1)) 1) _
  rw [bl_at hqb, up2_s, ← hS]
  exact hΦ
theorem a_exit_n (hn : n < 40000) (hg : g < ng) (hp : p < np) (e3 : r (120 + 7 * p + 0) ≠ 3) : Acts (fun S => w_X8_goOut S (nI g) (nI p)) n r ng np nx nl (Bec (-4) r ng np nx nl) := Acts.same hn (fun σ h S μ Φ hΦ => by
  obtain ⟨n1, n2, n3, n4⟩ := h.1.n
  have e2 : ¬ σ (50 + p) 2 = (3 : Int32) := fun e => e3 ((h.1.2.2.1 p 2 hp (by decide)).symm.trans e)
  show w_X8_goOut S (nI g) (nI p) (bl S σ μ) Φ
  unfold w_X8_goOut
  rw [d_gateAt_y h.1.1.1.1 hg n1, opt_some, d_personAt_y h.1.1.2.1.1 hp n2, opt_some, bl_P (show p < 40 by omega), if_neg e2]
  exact hΦ)
theorem a_pinch (hn : n < 40000) (hg : g < ng) (h5 : r (8 + 14 * g + 4) ≠ 5) (h9 : r (8 + 14 * g + 9) = 0) : Acts (fun S => w_X8_tellPinch S (nI g)) n r ng np nx nl (Bec (if r (8 + 14 * g + 4) = 3 then 1 else 0) (upd r (8 + 14 * g + 9) 1) ng np nx nl) := by
  intro σ h
  obtain ⟨n1, n2, n3, n4⟩ := h.1.n
  have hg8 : g < 8 := by omega
  have g4 : σ (10 + 5 * g) 6 = r (8 + 14 * g + 4) := h.1.2.1 g 4 hg (by decide)
  have g9 : σ (10 + 5 * g) 9 = 0 := (h.1.2.1 g 7 hg (by decide)).trans h9
  have hR : Rel (up2 σ (10 + 5 * g) 9 1) (upd r (8 + 14 * g + 9) 1) (TB n) ng np nx nl := ((h.x g).gate (v := 1) hg (f := 7) (by decide)).all (VG_told (h.2.1 g hg) (Or.inr rfl))
  refine ⟨_, _, _, ng, np, nx, nl, up29 hn (by omega) hR, fun S μ Φ hΦ => ?_, rfl, rfl, rfl, rfl, rfl, rfl⟩
  show w_X8_tellPinch S (nI g) (bl S σ μ) Φ
  unfold w_X8_tellPinch
  rw [d_gateAt_y h.1.1.1.1 hg n1, opt_some, bl_G hg8, g4, if_neg h5, g9, if_pos rfl]
  rintro _ rfl
  rw [up2_G hg8, bl_G hg8, up2_n (Or.inr (by decide)), g4]
  by_cases h3 : r (8 + 14 * g + 4) = 3
  · rw [if_pos h3]
    rw [if_pos h3] at hΦ
    exact hΦ
  · rw [if_neg h3]
    rw [if_neg h3] at hΦ
    exact hΦ
theorem a_pinch_5 (hn : n < 40000) (hg : g < ng) (h5 : r (8 + 14 * g + 4) = 5) : Acts (fun S => w_X8_tellPinch S (nI g)) n r ng np nx nl (Bec (-4) r ng np nx nl) := Acts.same hn (fun σ h S μ Φ hΦ => by
  obtain ⟨n1, n2, n3, n4⟩ := h.1.n
  have g4 : σ (10 + 5 * g) 6 = 5 := (h.1.2.1 g 4 hg (by decide)).trans h5
  show w_X8_tellPinch S (nI g) (bl S σ μ) Φ
  unfold w_X8_tellPinch
  rw [d_gateAt_y h.1.1.1.1 hg n1, opt_some, bl_G (show g < 8 by omega), g4, if_pos rfl]
  exact hΦ)
theorem a_pinch_1 (hn : n < 40000) (hg : g < ng) (h5 : r (8 + 14 * g + 4) ≠ 5) (h9 : r (8 + 14 * g + 9) = 1) : Acts (fun S => w_X8_tellPinch S (nI g)) n r ng np nx nl (Bec (-5) r ng np nx nl) := Acts.same hn (fun σ h S μ Φ hΦ => by
  obtain ⟨n1, n2, n3, n4⟩ := h.1.n
  have g4 : σ (10 + 5 * g) 6 = r (8 + 14 * g + 4) := h.1.2.1 g 4 hg (by decide)
  have g9 : σ (10 + 5 * g) 9 = 1 := (h.1.2.1 g 7 hg (by decide)).trans h9
  show w_X8_tellPinch S (nI g) (bl S σ μ) Φ
  unfold w_X8_tellPinch
  rw [d_gateAt_y h.1.1.1.1 hg n1, opt_some, bl_G (show g < 8 by omega), g4, if_neg h5, g9, if_neg (by decide)]
  exact hΦ)
/-- ticks go by -/
def TickQ (k : Nat) (r : Nat → Int32) (ng np nx : Nat) : Int32 → (Nat → Int32) → Nat → Nat → Nat → Nat → Prop := fun v r1 a b c d => (∃ w, v = nI w ∧ w ≤ k * 8 ∧ Ticks np ng k r r1 w) ∧ a = ng ∧ b = np ∧ c = nx ∧ d = 1
theorem a_ticks {k : Nat} (hn : n < 40000) (h1 : 1 ≤ k) (h2 : k ≤ 200) : Acts (fun S => w_X8_letTicksGo S (nI k)) n r ng np nx 1 (TickQ k r ng np nx) := by
  intro σ h
  obtain ⟨σ', r', v, t1, t2, t3, t4⟩ := pass29 h h1 h2 (by have := TB29 hn; omega)
  exact ⟨σ', r', nI v, ng, np, nx, 1, up29 hn (by omega) t1, t4, ⟨v, rfl, t3, t2⟩, rfl, rfl, rfl, rfl⟩
theorem a_fail_5 (hn : n < 40000) (hg : g < ng) (h5 : r (8 + 14 * g + 4) = 5) : Acts (fun S => w_X8_putOutOfOrder S (nI g)) n r ng np nx nl (Bec (-4) r ng np nx nl) := Acts.same hn (fun σ h S μ Φ hΦ => by
  obtain ⟨n1, n2, n3, n4⟩ := h.1.n
  have g4 : σ (10 + 5 * g) 6 = 5 := (h.1.2.1 g 4 hg (by decide)).trans h5
  show w_X8_putOutOfOrder S (nI g) (bl S σ μ) Φ
  unfold w_X8_putOutOfOrder
  rw [d_gateAt_y h.1.1.1.1 hg n1, opt_some, bl_G (show g < 8 by omega), g4, if_pos rfl]
  exact hΦ)
theorem a_fail_0 (hn : n < 40000) (hg : g < ng) (h5 : r (8 + 14 * g + 4) ≠ 5) (h6 : r (8 + 14 * g + 6) = -5) : Acts (fun S => w_X8_putOutOfOrder S (nI g)) n r ng np nx nl (Bec (-5) (F_brk g r) ng np nx nl) := by
  intro σ h
  obtain ⟨n1, n2, n3, n4⟩ := h.1.n
  have hg8 : g < 8 := by omega
  obtain ⟨d, st, g1, g2, g3, g4, g5, g6⟩ := h.2.1 g hg
  have es4 : r (8 + 14 * g + 4) = nI st := by rw [← g4]; exact (h.1.2.1 g 4 hg (by decide)).symm
  have es6 : σ (10 + 5 * g) 8 = -5 := (h.1.2.1 g 6 hg (by decide)).trans h6
  rw [es4] at h5
  obtain ⟨σ1, r1, b1, b2, b3, b4, b5, b6, b7, b8⟩ := sim_break (h.x g) hg
  have w2 : σ1 (10 + 5 * g) 2 = nI d := by rw [b6 2 (by decide) (by decide) (by decide)]; exact g2
  have w8 : σ1 (10 + 5 * g) 8 = -5 := (b6 8 (by decide) (by decide) (by decide)).trans es6
  have y6 : r1 (8 + 14 * g + 6) = -5 := by rw [b8 _ (by omega) (by omega) (by omega) (by omega) (by omega)]; exact h6
  have er : F_brk g r = r1 := by
    have k := b3 (fun _ _ => 0) (fun _ u => u = rw1 (fun _ _ => 0) r1)
    rw [s_brk0 hg8 h6, s_gateOf_6 hg8, y6, if_pos (by decide)] at k
    exact rw1_inj (k.mpr rfl)
  have hR : Rel σ1 r1 (TB n) ng np nx nl := b1.all ⟨d, 5, g1, w2, by decide, by rw [b4]; rfl, by rw [b5]; exact Or.inl rfl, Or.inl ⟨Or.inr rfl, w8⟩⟩
  refine ⟨σ1, r1, -5, ng, np, nx, nl, up29 hn (by omega) hR, fun S μ Φ hΦ => ?_, rfl, er.symm, rfl, rfl, rfl, rfl⟩
  show w_X8_putOutOfOrder S (nI g) (bl S σ μ) Φ
  unfold w_X8_putOutOfOrder
  rw [d_gateAt_y h.1.1.1.1 hg n1, opt_some, bl_G hg8, g4, if_neg h5, es6, b2, let_none hg8 b1.1.1.2.1.1 w8]
  exact hΦ
theorem a_fail_p {st o : Nat} {b : Int32} (hn : n < 40000) (hg : g < ng) (hI : InG r np g p st o b) : Acts (fun S => w_X8_putOutOfOrder S (nI g)) n r ng np nx nl (Bec (nI p) (F_let g p b (F_brk g r)) ng np nx nl) := by
  intro σ h
  obtain ⟨n1, n2, n3, n4⟩ := h.1.n
  have hg8 : g < 8 := by omega
  obtain ⟨i1, i2, i3, i4, i5, i6, i7, i8, i9, i10, i11, i12, i13⟩ := hI
  obtain ⟨d, st', g1, g2, g3, g4, g5, g6⟩ := h.2.1 g hg
  have es4 : r (8 + 14 * g + 4) = nI st' := by rw [← g4]; exact (h.1.2.1 g 4 hg (by decide)).symm
  have es6 : σ (10 + 5 * g) 8 = nI p := (h.1.2.1 g 6 hg (by decide)).trans i5
  have est : st' = st := nI_inj (by omega) (by omega) (es4.symm.trans i4)
  have h5 : ¬ nI st' = 5 := fun e => by
    have := nI_inj (a := st') (b := 5) (by omega) (by omega) e
    omega
  have g8 : ∃ q o', q < np ∧ σ (10 + 5 * g) 8 = nI q ∧ σ (50 + q) 2 = nI 2 ∧ σ (50 + q) 3 = nI g ∧ ((r (8 + 14 * g + 7) = 1 ∧ σ (50 + q) 6 = 0) ∨ (r (8 + 14 * g + 7) = 0 ∧ σ (50 + q) 6 = 1)) ∧ o' = 0 := by
    rcases g6 with ⟨-, g8⟩ | ⟨-, q, o', q1, q2, q3, q4, q5, q6, q7⟩
    · exact absurd (es6.symm.trans g8) (nI_n5 (by omega))
    · exact ⟨q, 0, q1, q3, q5, q6, q7, rfl⟩
  obtain ⟨q, -, q1, q3, q5, q6, q7, -⟩ := g8
  have hqp : q = p := nI_inj (by omega) (by omega) (q3.symm.trans es6)
  subst hqp
  obtain ⟨σ1, r1, b1, b2, b3, b4, b5, b6, b7, b8⟩ := sim_break (h.x g) hg
  have w2 : σ1 (10 + 5 * g) 2 = nI d := by rw [b6 2 (by decide) (by decide) (by decide)]; exact g2
  have w8 : σ1 (10 + 5 * g) 8 = nI q := (b6 8 (by decide) (by decide) (by decide)).trans es6
  have y6 : r1 (8 + 14 * g + 6) = nI q := by rw [b8 _ (by omega) (by omega) (by omega) (by omega) (by omega)]; exact i5
  obtain ⟨σ2, r2, c1, c2, c3, c4, c5, c6, c7⟩ := sim_let b1 hg (p := q) ⟨q1, w8, by rw [b7 q q1]; exact q5, by rw [b7 q q1]; exact q6, by rw [b7 q q1, b8 (8 + 14 * g + 7) (by omega) (by omega) (by omega) (by omega) (by omega)]; exact q7⟩
  have er : F_let g q b (F_brk g r) = r2 := by
    have k := b3 (fun _ _ => 0) (fun _ u => u = rw1 (fun _ _ => 0) r2)
    rw [s_brk hg8 (by omega) i5 i10 i11, s_gateOf_6 hg8, y6, if_neg (nI_pos (by omega))] at k
    exact rw1_inj (k.mpr (c3 _ _ rfl))
  have hR : Rel σ2 r2 (TB n) ng np nx nl := c1.all ⟨d, 5, g1, by rw [c5 2 (by decide) (by decide) (by decide)]; exact w2, by decide, by rw [c5 6 (by decide) (by decide) (by decide), b4]; rfl, by rw [c5 9 (by decide) (by decide) (by decide), b5]; exact Or.inl rfl, Or.inl ⟨Or.inr rfl, c4⟩⟩
  refine ⟨σ2, r2, nI q, ng, np, nx, nl, up29 hn (by omega) hR, fun S μ Φ hΦ => ?_, rfl, er.symm, rfl, rfl, rfl, rfl⟩
  show w_X8_putOutOfOrder S (nI g) (bl S σ μ) Φ
  unfold w_X8_putOutOfOrder
  rw [d_gateAt_y h.1.1.1.1 hg n1, opt_some, bl_G hg8, g4, if_neg h5, es6, b2]
  exact c2 S μ _ hΦ
/-- in order again -/
def repR (g : Nat) (r : Nat → Int32) : Nat → Int32 := rTell (nI g) (-5) 6 (upd (upd (upd r (8 + 14 * g + 4) 0) (8 + 14 * g + 5) 0) (8 + 14 * g + 9) 0)
theorem repR_o {i : Nat} (h : (i ≠ 5 ∧ (i < 436 ∨ 516 ≤ i)) ∧ i ≠ 8 + 14 * g + 4 ∧ i ≠ 8 + 14 * g + 5 ∧ i ≠ 8 + 14 * g + 9) : repR g r i = r i := by
  unfold repR
  rw [rTell_o h.1.1 h.1.2, pk_un h.2.2.2, pk_un h.2.2.1, pk_un h.2.1]
theorem repR_4 (hg : g < 8) : repR g r (8 + 14 * g + 4) = 0 ∧ repR g r (8 + 14 * g + 5) = 0 ∧ repR g r (8 + 14 * g + 9) = 0 := by
  unfold repR
  rw [rTell_o (by omega) (by omega), rTell_o (by omega) (by omega), rTell_o (by omega) (by omega), pk_un (by omega), pk_un (by omega), pk_us, pk_un (by omega), pk_us, pk_us]
  exact ⟨rfl, rfl, rfl⟩
theorem a_repair_n (hn : n < 40000) (hg : g < ng) (h5 : r (8 + 14 * g + 4) ≠ 5) : Acts (fun S => w_X8_putInOrder S (nI g)) n r ng np nx nl (Bec (-4) r ng np nx nl) := Acts.same hn (fun σ h S μ Φ hΦ => by
  obtain ⟨n1, n2, n3, n4⟩ := h.1.n
  have g4 : ¬ σ (10 + 5 * g) 6 = 5 := fun e => h5 ((h.1.2.1 g 4 hg (by decide)).symm.trans e)
  show w_X8_putInOrder S (nI g) (bl S σ μ) Φ
  unfold w_X8_putInOrder
  rw [d_gateAt_y h.1.1.1.1 hg n1, opt_some, bl_G (show g < 8 by omega), if_neg g4]
  exact hΦ)
theorem qB_keep {ga ea : Int32} (h0 : ∀ p, p < np → r' (120 + 7 * p + 0) = r (120 + 7 * p + 0)) (h3 : ∀ p, p < np → r' (120 + 7 * p + 3) = r (120 + 7 * p + 3)) : cnt (qB r' ga ea) np = cnt (qB r ga ea) np := cnt_congr (fun p hp => by unfold qB; rw [h0 p hp, h3 p hp])
theorem a_repair (hn : n < 40000) (hg : g < ng) (h5 : r (8 + 14 * g + 4) = 5) : Acts (fun S => w_X8_putInOrder S (nI g)) n r ng np nx nl (Bec (nI (cnt (qB r (nI g) (nI 0)) np) + nI (cnt (qB r (nI g) (nI 1)) np)) (repR g r) ng np nx nl) := by
  intro σ h
  obtain ⟨n1, n2, n3, n4⟩ := h.1.n
  have hg8 : g < 8 := by omega
  obtain ⟨d, st, g1, g2, g3, g4, g5, g6⟩ := h.2.1 g hg
  have es4 : r (8 + 14 * g + 4) = nI st := by rw [← g4]; exact (h.1.2.1 g 4 hg (by decide)).symm
  have hst : st = 5 := nI_inj (b := 5) (by omega) (by omega) (es4.symm.trans h5)
  subst hst
  have g8 : σ (10 + 5 * g) 8 = -5 := by
    rcases g6 with ⟨-, g8⟩ | ⟨hst, -⟩
    · exact g8
    · omega
  obtain ⟨σ1, hσ1⟩ : ∃ σ1 : Mm, σ1 = up2 (up2 (up2 σ (10 + 5 * g) 6 0) (10 + 5 * g) 7 0) (10 + 5 * g) 9 0 := ⟨_, rfl⟩
  obtain ⟨r1, hr1⟩ : ∃ r1 : Nat → Int32, r1 = upd (upd (upd r (8 + 14 * g + 4) 0) (8 + 14 * g + 5) 0) (8 + 14 * g + 9) 0 := ⟨_, rfl⟩
  have h1 : RelX σ1 r1 (TB n) ng np nx nl g := by rw [hσ1, hr1]; exact ((h.x g).turn (a := 0) (b := 0) hg).gate (v := 0) hg (f := 7) (by decide)
  have ht : r1 0 = σ 0 9 := by rw [hr1, pk_un (by omega), pk_un (by omega), pk_un (by omega)]; exact h.1.time
  have o1 : ∀ q j, ¬ (q = 10 + 5 * g ∧ (j = 6 ∨ j = 7 ∨ j = 9)) → σ1 q j = σ q j := fun q j hq => by rw [hσ1, up2_n (by omega), up2_n (by omega), up2_n (by omega)]
  obtain ⟨σ2, hσ2⟩ : ∃ σ2 : Mm, σ2 = cAdd (σ 0 9) (nI g) (-5) 6 σ1 := ⟨_, rfl⟩
  have h2 : RelX σ2 (repR g r) (TB n) ng np nx nl g := by rw [hσ2]; unfold repR; rw [← hr1]; exact h1.add ht
  have o2 : ∀ j, σ2 (10 + 5 * g) j = σ1 (10 + 5 * g) j := fun j => by rw [hσ2, cAdd_o (by omega)]
  have hR : Rel σ2 (repR g r) (TB n) ng np nx nl := h2.all ⟨d, 0, g1, by rw [o2, o1 _ _ (by omega)]; exact g2, by decide, by rw [o2, hσ1, up2_n (Or.inr (by decide)), up2_n (Or.inr (by decide)), up2_s]; rfl, by rw [o2, hσ1, up2_s]; exact Or.inl rfl, Or.inl ⟨Or.inl rfl, by rw [o2, o1 _ _ (by omega)]; exact g8⟩⟩
  obtain ⟨m0, a0, b1, b2, b3, b4, b5, b6, -⟩ := q_facts (g := g) (e := 0) (ea := nI 0) hR.1 (by decide) (by decide) (hR.2.2.2.2.1 g 0 hg (by decide))
  obtain ⟨m1, a1, c1, c2, c3, c4, c5, c6, -⟩ := q_facts (g := g) (e := 1) (ea := nI 1) hR.1 (by decide) (by decide) (hR.2.2.2.2.1 g 1 hg (by decide))
  have k0 : ∀ ea, cnt (qB (repR g r) (nI g) ea) np = cnt (qB r (nI g) ea) np := fun ea => qB_keep (fun p hp => repR_o (by omega)) (fun p hp => repR_o (by omega))
  rw [k0] at b6 c6
  refine ⟨σ2, _, nI m0 + nI m1, ng, np, nx, nl, up29 hn (by omega) hR, fun S μ Φ hΦ => ?_, by rw [b6, c6], rfl, rfl, rfl, rfl, rfl⟩
  show w_X8_putInOrder S (nI g) (bl S σ μ) Φ
  unfold w_X8_putInOrder
  rw [d_gateAt_y h.1.1.1.1 hg n1, opt_some, bl_G hg8, g4, if_pos (by decide), d_turnTo hg8]
  rintro _ rfl
  rw [up2_G hg8, ← hσ1, bl_0, o1 _ _ (by omega), d_add h1.1.ev, ← hσ2]
  unfold w_X1_queuesTogether
  rw [show S + 10 + 5 * g + 1 = S + (11 + 5 * g + 2 * 0) by omega, show S + 10 + 5 * g + 3 = S + (11 + 5 * g + 2 * 1) by omega, bl_at (show 11 + 5 * g + 2 * 0 < 106 by omega), bl_at (show 11 + 5 * g + 2 * 1 < 106 by omega), b2, c2]
  exact hΦ
end ACTS
