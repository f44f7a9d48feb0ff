/-! a gate's step, on both sides -/
section STEPPED
variable {σ : Mm} {r : Nat → Int32} {T ng np nx nl g p : Nat}
theorem bl_G {S : Nat} {μ : Mm} (hg : g < 8) : bl S σ μ (S + 10 + 5 * g) = σ (10 + 5 * g) := by
  rw [Nat.add_assoc]
  exact bl_at (by omega)
theorem up2_G {S j : Nat} {v : Int32} {μ : Mm} (hg : g < 8) : up2 (bl S σ μ) (S + 10 + 5 * g) j v = bl S (up2 σ (10 + 5 * g) j v) μ := by
  rw [Nat.add_assoc]
  exact up2_bl (by omega)
theorem bl_P {S : Nat} {μ : Mm} (hp : p < 40) : bl S σ μ (S + 50 + p) = σ (50 + p) := by
  rw [Nat.add_assoc]
  exact bl_at (by omega)
theorem RelX.turn {a b : Int32} (h : RelX σ r T ng np nx nl g) (hg : g < ng) : RelX (up2 (up2 σ (10 + 5 * g) 6 a) (10 + 5 * g) 7 b) (upd (upd r (8 + 14 * g + 4) a) (8 + 14 * g + 5) b) T ng np nx nl g := (h.gate hg (f := 4) (by decide)).gate hg (f := 5) (by decide)
theorem RelX.left {b : Int32} (h : RelX σ r T ng np nx nl g) (hg : g < ng) : RelX (up2 σ (10 + 5 * g) 7 b) (upd r (8 + 14 * g + 5) b) T ng np nx nl g := h.gate hg (f := 5) (by decide)
theorem RelX.pinch {a b : Int32} (h : RelX σ r T ng np nx nl g) (hg : g < ng) : RelX (cAdd (σ 0 9) (nI g) (nI p) 4 (up2 (up2 (up2 σ (10 + 5 * g) 9 0) (10 + 5 * g) 14 a) (10 + 5 * g) 10 b)) (rTell (nI g) (nI p) 4 (upd (upd (upd r (8 + 14 * g + 9) 0) (8 + 14 * g + 13) a) (8 + 14 * g + 8) b)) T ng np nx nl g := by
  have k := ((h.gate hg (v := 0) (f := 7) (by decide)).gate hg (v := a) (f := 12) (by decide)).gate hg (v := b) (f := 8) (by decide)
  exact RelX.add k (by
    show upd (upd (upd r (8 + 14 * g + 9) 0) (8 + 14 * g + 13) a) (8 + 14 * g + 8) b 0 = σ 0 9
    rw [pk_un (by omega), pk_un (by omega), pk_un (by omega)]
    exact h.1.time)
/-- the person stays in the gate -/
theorem VG_held {d st o : Nat} (hd : d ≤ 2) (e2 : σ (10 + 5 * g) 2 = nI d) (hst : 1 ≤ st ∧ st ≤ 4) (e6 : σ (10 + 5 * g) 6 = nI st) (e9 : isB (σ (10 + 5 * g) 9)) (hp : p < np) (ho : o ≤ 2) (e8 : σ (10 + 5 * g) 8 = nI p) (e10 : σ (10 + 5 * g) 10 = nI o) (p2 : σ (50 + p) 2 = nI 2) (p3 : σ (50 + p) 3 = nI g) (p6 : (r (8 + 14 * g + 7) = 1 ∧ σ (50 + p) 6 = 0) ∨ (r (8 + 14 * g + 7) = 0 ∧ σ (50 + p) 6 = 1)) : VG σ r np g := ⟨d, st, hd, e2, by omega, e6, e9, Or.inr ⟨hst, p, o, hp, ho, e8, e10, p2, p3, p6⟩⟩
/-- the ticks more of who is slow -/
theorem d_extra {S n : Nat} {μ : Mm} {Φ : Int32 → Mm → Prop} (hn : σ 0 6 = nI n) (hp : p < n) (h40 : n ≤ 40) (hB : isB (σ (50 + p) 1)) : w_X8_extraTicks S (nI p) (bl S σ μ) Φ = Φ (2 * σ (50 + p) 1) (bl S σ μ) := by
  unfold w_X8_extraTicks
  rw [d_personAt_y hn hp h40, opt_some, bl_P (by omega)]
  rcases hB with h | h
  · rw [h, if_pos rfl]
    rfl
  · rw [h, if_neg (by decide)]
    rfl
theorem sim_step (h : Rel σ r T ng np nx nl) (hg : g < ng) : ∃ σ' r' v, Stepped σ r T ng np nx nl g σ' r' v := by
  have h0 := h
  obtain ⟨hC, hVG, hVP, hVX, hRQ, hRN, hRU⟩ := h0
  obtain ⟨n1, n2, n3, n4⟩ := hC.n
  have hg8 : g < 8 := by omega
  obtain ⟨d, st, g1, g2, g3, g4, g5, g6⟩ := hVG g hg
  have es4 : r (8 + 14 * g + 4) = nI st := by rw [← g4]; exact (hC.2.1 g 4 hg (by decide)).symm
  have es5 : r (8 + 14 * g + 5) = σ (10 + 5 * g) 7 := (hC.2.1 g 5 hg (by decide)).symm
  rcases g6 with ⟨hst, g8⟩ | ⟨hst, p, o, hp, ho, e8, e10, e2, e3, e67⟩
  · rcases hst with rfl | rfl
    · obtain ⟨σ', r', bR, bc, br, bs⟩ := sim_take h hg
      refine ⟨σ', r', 0, bR, fun S μ Φ hΦ => ?_, fun ρ Φ hΦ => ?_, ?_, fun g' hg' _ => bs g' hg'⟩
      · unfold w_X8_stepGate
        rw [bl_G hg8, g4, if_pos (by decide), bc]
        exact hΦ
      · unfold w_X10_step
        rw [s_gateOf_4 hg8, es4, if_neg (by decide), if_pos (by decide), br]
        exact hΦ
      · rw [(bs g hg8).1, (bs g hg8).2, Int32.add_zero]
    · refine ⟨σ, r, 0, h, fun S μ Φ hΦ => ?_, fun ρ Φ hΦ => ?_, by rw [Int32.add_zero], fun g' hg' _ => ⟨rfl, rfl⟩⟩
      · unfold w_X8_stepGate
        rw [bl_G hg8, g4, if_neg (by decide), if_pos (by decide)]
        exact hΦ
      · unfold w_X10_step
        rw [s_gateOf_4 hg8, es4, if_pos (by decide)]
        exact hΦ
  · obtain ⟨L, hL⟩ : ∃ L, L = σ (10 + 5 * g) 7 - 1 := ⟨_, rfl⟩
    obtain ⟨σ1, hσ1⟩ : ∃ σ1 : Mm, σ1 = up2 σ (10 + 5 * g) 7 L := ⟨_, rfl⟩
    obtain ⟨r1, hr1⟩ : ∃ r1 : Nat → Int32, r1 = upd r (8 + 14 * g + 5) L := ⟨_, rfl⟩
    have h1 : RelX σ1 r1 T ng np nx nl g := by rw [hσ1, hr1]; exact (h.x g).left hg
    have o1 : ∀ q j, ¬ (q = 10 + 5 * g ∧ j = 7) → σ1 q j = σ q j := fun q j hq => by rw [hσ1, up2_n (by omega)]
    have ro1 : ∀ i, i ≠ 8 + 14 * g + 5 → r1 i = r i := fun i hi => by rw [hr1, pk_un hi]
    have oL : σ1 (10 + 5 * g) 7 = L := by rw [hσ1, up2_s]
    have rL : r1 (8 + 14 * g + 5) = L := by rw [hr1, pk_us]
    have hr6 : r1 (8 + 14 * g + 6) = nI p := by rw [ro1 _ (by omega), ← e8]; exact (hC.2.1 g 6 hg (by decide)).symm
    have hr2 : r1 (8 + 14 * g + 2) = σ1 (10 + 5 * g) 4 := (h1.1.2.1 g 2 hg (by decide)).symm
    have hr3 : r1 (8 + 14 * g + 3) = σ1 (10 + 5 * g) 5 := (h1.1.2.1 g 3 hg (by decide)).symm
    have hr9 : r1 (8 + 14 * g + 9) = σ1 (10 + 5 * g) 9 := (h1.1.2.1 g 7 hg (by decide)).symm
    have hr8 : r1 (8 + 14 * g + 8) = σ1 (10 + 5 * g) 10 := (h1.1.2.1 g 8 hg (by decide)).symm
    have hr13 : r1 (8 + 14 * g + 13) = σ1 (10 + 5 * g) 14 := (h1.1.2.1 g 12 hg (by decide)).symm
    have hrp : r1 (120 + 7 * p + 2) = σ1 (50 + p) 1 := (h1.1.2.2.1 p 1 hp (by decide)).symm
    have k2 : σ1 (10 + 5 * g) 2 = nI d := by rw [o1 _ _ (by omega)]; exact g2
    have k6 : σ1 (10 + 5 * g) 6 = nI st := by rw [o1 _ _ (by omega)]; exact g4
    have k8 : σ1 (10 + 5 * g) 8 = nI p := by rw [o1 _ _ (by omega)]; exact e8
    have k9 : isB (σ1 (10 + 5 * g) 9) := by rw [o1 _ _ (by omega)]; exact g5
    have k10 : σ1 (10 + 5 * g) 10 = nI o := by rw [o1 _ _ (by omega)]; exact e10
    have kp1 : isB (σ1 (50 + p) 1) := by
      obtain ⟨w, x1, x2, x3, -⟩ := h1.2.2.1 p hp
      exact x3.1
    have kp2 : σ1 (50 + p) 2 = nI 2 := by rw [o1 _ _ (by omega)]; exact e2
    have kp3 : σ1 (50 + p) 3 = nI g := by rw [o1 _ _ (by omega)]; exact e3
    have k67 : (r1 (8 + 14 * g + 7) = 1 ∧ σ1 (50 + p) 6 = 0) ∨ (r1 (8 + 14 * g + 7) = 0 ∧ σ1 (50 + p) 6 = 1) := by rw [ro1 _ (by omega), o1 _ _ (by omega)]; exact e67
    have f7 : r1 (8 + 14 * g + 7) = 1 ∨ r1 (8 + 14 * g + 7) = 0 := by
      rcases k67 with ⟨q, -⟩ | ⟨q, -⟩
      · exact Or.inl q
      · exact Or.inr q
    have n05 : nI st ≠ 5 := fun e => by have := nI_inj (a := st) (b := 5) (by omega) (by omega) e; omega
    have n00 : nI st ≠ 0 := nI_ne0 (by omega) (by omega)
    have CS : ∀ (S : Nat) (μ : Mm) (Φ : Int32 → Mm → Prop), w_X8_stepGate S (nI g) (S + 10 + 5 * g) (bl S σ μ) Φ = (if nI st = 3 then w_X8_stepClosing S (nI g) (S + 10 + 5 * g) (bl S σ1 μ) (fun _ u13 => w_X1_holdsPerson (S + 10 + 5 * g) u13 (fun r16 u15 => if r16 = 0 then w_X8_letThrough S (nI g) (S + 10 + 5 * g) u15 (fun r19 u18 => Φ r19 u18) else Φ 0 u15)) else if L = 0 then (if nI st = 2 then w_X1_turnTo (S + 10 + 5 * g) 3 (σ1 (10 + 5 * g) 5) (bl S σ1 μ) (fun _ u11 => Φ 0 u11) else w_X8_extraTicks S (nI p) (bl S σ1 μ) (fun r8 u7 => w_X1_turnTo (S + 10 + 5 * g) 2 (σ1 (10 + 5 * g) 4 + r8) u7 (fun _ u9 => Φ 0 u9))) else Φ 0 (bl S σ1 μ)) := by
      intro S μ Φ
      unfold w_X8_stepGate
      rw [bl_G hg8, g4, if_neg n00, if_neg n05, up2_G hg8, ← hL, ← hσ1]
      simp only [forall_eq, bl_G hg8, k6, oL, k8]
    have RS : ∀ (ρ : Mm) (Φ : Unit → Mm → Prop), w_X10_step (nI g) (rw1 ρ r) Φ = w_X10_step_51 Φ (nI g) (nI st) (if L = 0 then 1 else 0) (rw1 ρ r1) := by
      intro ρ Φ
      unfold w_X10_step
      rw [s_gateOf_4 hg8, es4, if_neg n05, if_neg n00, s_gateOf_5 hg8, s_putGate_5 hg8, s_gateOf_5 hg8, es5, ← hL, ← hr1, rL]
      by_cases hl : L = 0
      · rw [if_pos hl, if_pos hl]
      · rw [if_neg hl, if_neg hl]
    have cn : ∀ r' : Nat → Int32, (∀ i, 8 ≤ i → i < 120 → i ≠ 8 + 14 * g + 4 → i ≠ 8 + 14 * g + 5 → i ≠ 8 + 14 * g + 8 → i ≠ 8 + 14 * g + 9 → i ≠ 8 + 14 * g + 13 → r' i = r1 i) → r' (8 + 14 * g + 10) + r' (8 + 14 * g + 11) = r (8 + 14 * g + 10) + r (8 + 14 * g + 11) + 0 ∧ ∀ g', g' < 8 → g' ≠ g → r' (8 + 14 * g' + 10) = r (8 + 14 * g' + 10) ∧ r' (8 + 14 * g' + 11) = r (8 + 14 * g' + 11) := by
      intro r' hr'
      refine ⟨?_, fun g' hg' hne => ⟨?_, ?_⟩⟩
      · rw [hr' _ (by omega) (by omega) (by omega) (by omega) (by omega) (by omega) (by omega), hr' _ (by omega) (by omega) (by omega) (by omega) (by omega) (by omega) (by omega), ro1 _ (by omega), ro1 _ (by omega), Int32.add_zero]
      · rw [hr' _ (by omega) (by omega) (by omega) (by omega) (by omega) (by omega) (by omega), ro1 _ (by omega)]
      · rw [hr' _ (by omega) (by omega) (by omega) (by omega) (by omega) (by omega) (by omega), ro1 _ (by omega)]
    by_cases hst3 : st = 3
    · subst hst3
      by_cases hpin : σ1 (10 + 5 * g) 9 = 0
      · by_cases hl : L = 0
        · -- closed: the person is through
          have h2 := h1.turn (a := 0) (b := 0) hg
          obtain ⟨σ2, hσ2⟩ : ∃ σ2 : Mm, σ2 = up2 (up2 σ1 (10 + 5 * g) 6 0) (10 + 5 * g) 7 0 := ⟨_, rfl⟩
          obtain ⟨r2, hr2'⟩ : ∃ r2 : Nat → Int32, r2 = upd (upd r1 (8 + 14 * g + 4) 0) (8 + 14 * g + 5) 0 := ⟨_, rfl⟩
          rw [← hσ2, ← hr2'] at h2
          have o2 : ∀ q j, ¬ (q = 10 + 5 * g ∧ j = 6) → ¬ (q = 10 + 5 * g ∧ j = 7) → σ2 q j = σ1 q j := fun q j a b => by rw [hσ2, up2_n (by omega), up2_n (by omega)]
          have ro2 : ∀ i, i ≠ 8 + 14 * g + 4 → i ≠ 8 + 14 * g + 5 → r2 i = r1 i := fun i a b => by rw [hr2', pk_un b, pk_un a]
          have v6 : σ2 (10 + 5 * g) 6 = 0 := by rw [hσ2, up2_n (Or.inr (by decide)), up2_s]
          obtain ⟨σ3, r3, q1, q2, q3, q4, q5, q6, q7⟩ := sim_let h2 hg (p := p) ⟨hp, by rw [o2 _ _ (by omega) (by omega)]; exact k8, by rw [o2 _ _ (by omega) (by omega)]; exact kp2, by rw [o2 _ _ (by omega) (by omega)]; exact kp3, by rw [o2 _ _ (by omega) (by omega), ro2 _ (by omega) (by omega)]; exact k67⟩
          refine ⟨σ3, r3, 1, q1.all ⟨d, 0, g1, ?_, by decide, ?_, ?_, Or.inl ⟨Or.inl rfl, q4⟩⟩, fun S μ Φ hΦ => ?_, fun ρ Φ hΦ => ?_, ?_, fun g' hg' hne => ⟨?_, ?_⟩⟩
          · rw [q5 2 (by decide) (by decide) (by decide), o2 _ _ (by omega) (by omega)]; exact k2
          · rw [q5 6 (by decide) (by decide) (by decide), v6]; rfl
          · rw [q5 9 (by decide) (by decide) (by decide), o2 _ _ (by omega) (by omega)]; exact k9
          · rw [CS, if_pos (by decide)]
            unfold w_X8_stepClosing
            rw [bl_G hg8, hpin, if_pos rfl, oL, if_pos hl, d_turnTo hg8, ← hσ2]
            simp only [d_holds hg8, v6, if_true]
            exact q2 S μ Φ hΦ
          · rw [RS, if_pos hl]
            unfold w_X10_step_51
            rw [if_pos (by decide), s_gateOf_9 hg8, hr9, hpin, if_neg (by decide)]
            unfold w_X10_step_76
            rw [if_neg (by decide), if_neg (by decide), if_neg (by decide)]
            unfold w_X10_step_98
            rw [if_neg (by decide), if_neg (by decide), if_neg (by decide), let_turn hg8 (by omega) hr6 f7, ← hr2']
            exact q3 ρ Φ hΦ
          · rw [q6, ro2 _ (by omega) (by omega), ro2 _ (by omega) (by omega), ro1 _ (by omega), ro1 _ (by omega)]
          · rw [q7 _ (by omega) (by omega) (by omega) (by omega) (by omega), ro2 _ (by omega) (by omega), ro1 _ (by omega)]
          · rw [q7 _ (by omega) (by omega) (by omega) (by omega) (by omega), ro2 _ (by omega) (by omega), ro1 _ (by omega)]
        · -- goes on closing
          refine ⟨σ1, r1, 0, h1.all (VG_held g1 k2 hst k6 k9 hp ho k8 k10 kp2 kp3 k67), fun S μ Φ hΦ => ?_, fun ρ Φ hΦ => ?_, cn r1 (fun i _ _ _ _ _ _ _ => rfl)⟩
          · rw [CS, if_pos (by decide)]
            unfold w_X8_stepClosing
            rw [bl_G hg8, hpin, if_pos rfl, oL, if_neg hl]
            simp only [d_holds hg8, k6]
            rw [if_neg (by decide)]
            exact hΦ
          · rw [RS, if_neg hl]
            unfold w_X10_step_51
            rw [if_pos (by decide), s_gateOf_9 hg8, hr9, hpin, if_neg (by decide)]
            unfold w_X10_step_76
            rw [if_pos rfl]
            unfold w_X10_step_98
            rw [if_pos rfl, if_pos rfl]
            exact hΦ
      · -- pinched
        have hpin1 : σ1 (10 + 5 * g) 9 = 1 := by
          rcases k9 with q | q
          · exact absurd q hpin
          · exact q
        obtain ⟨A, hA⟩ : ∃ A, A = σ1 (10 + 5 * g) 14 + 1 := ⟨_, rfl⟩
        have h2 := h1.pinch (p := p) (a := A) (b := nI (o + 1)) hg
        obtain ⟨σ2, hσ2⟩ : ∃ σ2 : Mm, σ2 = cAdd (σ1 0 9) (nI g) (nI p) 4 (up2 (up2 (up2 σ1 (10 + 5 * g) 9 0) (10 + 5 * g) 14 A) (10 + 5 * g) 10 (nI (o + 1))) := ⟨_, rfl⟩
        obtain ⟨r2, hr2'⟩ : ∃ r2 : Nat → Int32, r2 = rTell (nI g) (nI p) 4 (upd (upd (upd r1 (8 + 14 * g + 9) 0) (8 + 14 * g + 13) A) (8 + 14 * g + 8) (nI (o + 1))) := ⟨_, rfl⟩
        rw [← hσ2, ← hr2'] at h2
        have o2 : ∀ q j, (q < 5 ∨ 9 < q) → ¬ (q = 10 + 5 * g ∧ (j = 9 ∨ j = 14 ∨ j = 10)) → σ2 q j = σ1 q j := fun q j a b => by rw [hσ2, cAdd_o a, up2_n (by omega), up2_n (by omega), up2_n (by omega)]
        have ro2 : ∀ i, 8 ≤ i → i < 436 → i ≠ 8 + 14 * g + 9 → i ≠ 8 + 14 * g + 13 → i ≠ 8 + 14 * g + 8 → r2 i = r1 i := fun i a a' b c d => by rw [hr2', rTell_o (by omega) (by omega), pk_un d, pk_un c, pk_un b]
        have v9 : σ2 (10 + 5 * g) 9 = 0 := by rw [hσ2, cAdd_o (by omega), up2_n (Or.inr (by decide)), up2_n (Or.inr (by decide)), up2_s]
        have v10 : σ2 (10 + 5 * g) 10 = nI (o + 1) := by rw [hσ2, cAdd_o (by omega), up2_s]
        have x8 : r2 (8 + 14 * g + 8) = nI (o + 1) := by rw [hr2', rTell_o (by omega) (by omega), pk_us]
        have kC : ∀ (S : Nat) (μ : Mm) (Φ : Unit → Mm → Prop), w_X8_stepClosing S (nI g) (S + 10 + 5 * g) (bl S σ1 μ) Φ = (if nI (o + 1) < 3 then w_X1_turnTo (S + 10 + 5 * g) 4 (σ1 (10 + 5 * g) 5 - L) (bl S σ2 μ) (fun _ u11 => Φ () u11) else w_X8_breakDown S (nI g) (S + 10 + 5 * g) (bl S σ2 μ) (fun _ u13 => Φ () u13)) := by
          intro S μ Φ
          unfold w_X8_stepClosing
          rw [bl_G hg8, hpin1, if_neg (by decide)]
          simp only [forall_eq, up2_G hg8, bl_G hg8, bl_0]
          have c14 : up2 σ1 (10 + 5 * g) 9 0 (10 + 5 * g) 14 = σ1 (10 + 5 * g) 14 := up2_n (Or.inr (by decide))
          rw [c14, ← hA]
          have c10 : up2 (up2 σ1 (10 + 5 * g) 9 0) (10 + 5 * g) 14 A (10 + 5 * g) 10 = nI o := by rw [up2_n (Or.inr (by decide)), up2_n (Or.inr (by decide))]; exact k10
          rw [c10, nI_1]
          have c9 : up2 (up2 (up2 σ1 (10 + 5 * g) 9 0) (10 + 5 * g) 14 A) (10 + 5 * g) 10 (nI (o + 1)) 0 9 = σ1 0 9 := by rw [up2_n (by omega), up2_n (by omega), up2_n (by omega)]
          have c8 : up2 (up2 (up2 σ1 (10 + 5 * g) 9 0) (10 + 5 * g) 14 A) (10 + 5 * g) 10 (nI (o + 1)) (10 + 5 * g) 8 = nI p := by rw [up2_n (Or.inr (by decide)), up2_n (Or.inr (by decide)), up2_n (Or.inr (by decide))]; exact k8
          rw [c9, c8, d_add (EvOk_up (by omega) (EvOk_up (by omega) (EvOk_up (by omega) h1.1.ev))), ← hσ2, bl_G hg8, v10, o2 _ 5 (by omega) (by omega), o2 _ 7 (by omega) (by omega), oL]
        have kR : ∀ (ρ : Mm) (Φ : Unit → Mm → Prop), w_X10_pinched (nI g) (rw1 ρ r1) Φ = (if nI (o + 1) = 3 then w_X10_goOut (nI g) (rw1 ρ r2) (fun _ u24 => Φ () u24) else w_X10_turn (nI g) 4 (σ1 (10 + 5 * g) 5 - L) (rw1 ρ r2) (fun _ u22 => Φ () u22)) := by
          intro ρ Φ
          unfold w_X10_pinched
          rw [s_putGate_9 hg8, s_gateOf_13 hg8, s_putGate_13 hg8, s_gateOf_8 hg8, s_putGate_8 hg8, s_gateOf_6 hg8, s_tell]
          have c13 : upd r1 (8 + 14 * g + 9) 0 (8 + 14 * g + 13) = σ1 (10 + 5 * g) 14 := by rw [pk_un (by omega)]; exact hr13
          rw [c13, ← hA]
          have c8 : upd (upd r1 (8 + 14 * g + 9) 0) (8 + 14 * g + 13) A (8 + 14 * g + 8) = nI o := by rw [pk_un (by omega), pk_un (by omega), hr8]; exact k10
          rw [c8, nI_1]
          have c6 : upd (upd (upd r1 (8 + 14 * g + 9) 0) (8 + 14 * g + 13) A) (8 + 14 * g + 8) (nI (o + 1)) (8 + 14 * g + 6) = nI p := by rw [pk_un (by omega), pk_un (by omega), pk_un (by omega)]; exact hr6
          rw [c6, ← hr2', s_gateOf_8 hg8, x8]
          by_cases ho3 : nI (o + 1) = 3
          · rw [if_pos ho3, if_pos ho3]
          · rw [if_neg ho3, if_neg ho3, s_gateOf_3 hg8, s_gateOf_5 hg8, ro2 (8 + 14 * g + 3) (by omega) (by omega) (by omega) (by omega) (by omega), ro2 (8 + 14 * g + 5) (by omega) (by omega) (by omega) (by omega) (by omega), hr3, rL]
        have kS : ∀ (ρ : Mm) (Φ : Unit → Mm → Prop), w_X10_step (nI g) (rw1 ρ r) Φ = w_X10_pinched (nI g) (rw1 ρ r1) (fun _ u39 => Φ () u39) := by
          intro ρ Φ
          rw [RS]
          unfold w_X10_step_51
          rw [if_pos (by decide), s_gateOf_9 hg8, hr9, hpin1, if_pos rfl]
        by_cases ho2 : o = 2
        · -- the third: out of order
          subst ho2
          obtain ⟨σ3, r3, b1, b2, b3, b4, b5, b6, b7, b8⟩ := sim_break h2 hg
          have w8 : σ3 (10 + 5 * g) 8 = nI p := by rw [b6 8 (by decide) (by decide) (by decide), o2 _ _ (by omega) (by omega)]; exact k8
          have w2 : σ3 (10 + 5 * g) 2 = nI d := by rw [b6 2 (by decide) (by decide) (by decide), o2 _ _ (by omega) (by omega)]; exact k2
          have y7 : r3 (8 + 14 * g + 7) = r1 (8 + 14 * g + 7) := by rw [b8 _ (by omega) (by omega) (by omega) (by omega) (by omega), ro2 _ (by omega) (by omega) (by omega) (by omega) (by omega)]
          have y6 : r3 (8 + 14 * g + 6) = nI p := by rw [b8 _ (by omega) (by omega) (by omega) (by omega) (by omega), ro2 _ (by omega) (by omega) (by omega) (by omega) (by omega)]; exact hr6
          obtain ⟨σ4, r4, q1, q2, q3, q4, q5, q6, q7⟩ := sim_let b1 hg (p := p) ⟨hp, w8, by rw [b7 p hp, o2 _ _ (by omega) (by omega)]; exact kp2, by rw [b7 p hp, o2 _ _ (by omega) (by omega)]; exact kp3, by rw [y7, b7 p hp, o2 _ _ (by omega) (by omega)]; exact k67⟩
          refine ⟨σ4, r4, 1, q1.all ⟨d, 5, g1, ?_, by decide, ?_, ?_, Or.inl ⟨Or.inr rfl, q4⟩⟩, fun S μ Φ hΦ => ?_, fun ρ Φ hΦ => ?_, ?_, fun g' hg' hne => ⟨?_, ?_⟩⟩
          · rw [q5 2 (by decide) (by decide) (by decide)]; exact w2
          · rw [q5 6 (by decide) (by decide) (by decide), b4]; rfl
          · rw [q5 9 (by decide) (by decide) (by decide), b5]; exact Or.inl rfl
          · rw [CS, if_pos (by decide), kC, if_neg (by decide), b2, d_holds hg8, b4, if_pos (by decide)]
            exact q2 S μ Φ hΦ
          · rw [kS, kR, if_pos (by decide), b3, s_gateOf_6 hg8, y6, if_neg (nI_pos (by omega))]
            exact q3 ρ Φ hΦ
          · rw [q6, b8 _ (by omega) (by omega) (by omega) (by omega) (by omega), b8 _ (by omega) (by omega) (by omega) (by omega) (by omega), ro2 _ (by omega) (by omega) (by omega) (by omega) (by omega), ro2 _ (by omega) (by omega) (by omega) (by omega) (by omega), ro1 _ (by omega), ro1 _ (by omega)]
          · rw [q7 _ (by omega) (by omega) (by omega) (by omega) (by omega), b8 _ (by omega) (by omega) (by omega) (by omega) (by omega), ro2 _ (by omega) (by omega) (by omega) (by omega) (by omega), ro1 _ (by omega)]
          · rw [q7 _ (by omega) (by omega) (by omega) (by omega) (by omega), b8 _ (by omega) (by omega) (by omega) (by omega) (by omega), ro2 _ (by omega) (by omega) (by omega) (by omega) (by omega), ro1 _ (by omega)]
        · -- goes back
          have h3 := h2.turn (a := 4) (b := σ1 (10 + 5 * g) 5 - L) hg
          have ne3 : nI (o + 1) ≠ 3 := fun e => by have := nI_inj (a := o + 1) (b := 3) (by omega) (by omega) e; omega
          have lt3 : nI (o + 1) < 3 := nI_lt (b := 3) (by omega) (by omega)
          obtain ⟨σ3, hσ3⟩ : ∃ σ3 : Mm, σ3 = up2 (up2 σ2 (10 + 5 * g) 6 4) (10 + 5 * g) 7 (σ1 (10 + 5 * g) 5 - L) := ⟨_, rfl⟩
          obtain ⟨r3, hr3'⟩ : ∃ r3 : Nat → Int32, r3 = upd (upd r2 (8 + 14 * g + 4) 4) (8 + 14 * g + 5) (σ1 (10 + 5 * g) 5 - L) := ⟨_, rfl⟩
          rw [← hσ3, ← hr3'] at h3
          have o3 : ∀ q j, ¬ (q = 10 + 5 * g ∧ j = 6) → ¬ (q = 10 + 5 * g ∧ j = 7) → σ3 q j = σ2 q j := fun q j a b => by rw [hσ3, up2_n (by omega), up2_n (by omega)]
          have ro3 : ∀ i, i ≠ 8 + 14 * g + 4 → i ≠ 8 + 14 * g + 5 → r3 i = r2 i := fun i a b => by rw [hr3', pk_un b, pk_un a]
          refine ⟨σ3, r3, 0, h3.all (VG_held (p := p) (st := 4) (o := o + 1) g1 ?_ (by decide) ?_ ?_ hp (by omega) ?_ ?_ ?_ ?_ ?_), fun S μ Φ hΦ => ?_, fun ρ Φ hΦ => ?_, cn r3 (fun i c1 c2 c3 c4 c5 c6 c7 => ?_)⟩
          · rw [o3 _ _ (by omega) (by omega), o2 _ _ (by omega) (by omega)]; exact k2
          · rw [hσ3, up2_n (Or.inr (by decide)), up2_s]; rfl
          · rw [o3 _ _ (by omega) (by omega), v9]; exact Or.inl rfl
          · rw [o3 _ _ (by omega) (by omega), o2 _ _ (by omega) (by omega)]; exact k8
          · rw [o3 _ _ (by omega) (by omega)]; exact v10
          · rw [o3 _ _ (by omega) (by omega), o2 _ _ (by omega) (by omega)]; exact kp2
          · rw [o3 _ _ (by omega) (by omega), o2 _ _ (by omega) (by omega)]; exact kp3
          · rw [o3 _ _ (by omega) (by omega), o2 _ _ (by omega) (by omega), ro3 _ (by omega) (by omega), ro2 _ (by omega) (by omega) (by omega) (by omega) (by omega)]; exact k67
          · rw [CS, if_pos (by decide), kC, if_pos lt3, d_turnTo hg8, ← hσ3, d_holds hg8]
            have v6 : σ3 (10 + 5 * g) 6 = 4 := by rw [hσ3, up2_n (Or.inr (by decide)), up2_s]
            rw [v6, if_neg (by decide)]
            exact hΦ
          · rw [kS, kR, if_neg ne3, s_turn hg8, ← hr3']
            exact hΦ
          · rw [ro3 _ c3 c4, ro2 _ (by omega) (by omega) c6 c7 c5]
    · have n3' : nI st ≠ 3 := fun e => by have := nI_inj (a := st) (b := 3) (by omega) (by omega) e; omega
      by_cases hl : L = 0
      · by_cases hst2 : st = 2
        · -- begins to close
          subst hst2
          have h2 := h1.turn (a := 3) (b := σ1 (10 + 5 * g) 5) hg
          obtain ⟨σ2, hσ2⟩ : ∃ σ2 : Mm, σ2 = up2 (up2 σ1 (10 + 5 * g) 6 3) (10 + 5 * g) 7 (σ1 (10 + 5 * g) 5) := ⟨_, rfl⟩
          obtain ⟨r2, hr2'⟩ : ∃ r2 : Nat → Int32, r2 = upd (upd r1 (8 + 14 * g + 4) 3) (8 + 14 * g + 5) (σ1 (10 + 5 * g) 5) := ⟨_, rfl⟩
          rw [← hσ2, ← hr2'] at h2
          have o2 : ∀ q j, ¬ (q = 10 + 5 * g ∧ j = 6) → ¬ (q = 10 + 5 * g ∧ j = 7) → σ2 q j = σ1 q j := fun q j a b => by rw [hσ2, up2_n (by omega), up2_n (by omega)]
          have ro2 : ∀ i, i ≠ 8 + 14 * g + 4 → i ≠ 8 + 14 * g + 5 → r2 i = r1 i := fun i a b => by rw [hr2', pk_un b, pk_un a]
          refine ⟨σ2, r2, 0, h2.all (VG_held (p := p) (st := 3) (o := o) g1 ?_ (by decide) ?_ ?_ hp ho ?_ ?_ ?_ ?_ ?_), fun S μ Φ hΦ => ?_, fun ρ Φ hΦ => ?_, cn r2 (fun i c1 c2 c3 c4 c5 c6 c7 => ro2 _ c3 c4)⟩
          · rw [o2 _ _ (by omega) (by omega)]; exact k2
          · rw [hσ2, up2_n (Or.inr (by decide)), up2_s]; rfl
          · rw [o2 _ _ (by omega) (by omega)]; exact k9
          · rw [o2 _ _ (by omega) (by omega)]; exact k8
          · rw [o2 _ _ (by omega) (by omega)]; exact k10
          · rw [o2 _ _ (by omega) (by omega)]; exact kp2
          · rw [o2 _ _ (by omega) (by omega)]; exact kp3
          · rw [o2 _ _ (by omega) (by omega), ro2 _ (by omega) (by omega)]; exact k67
          · rw [CS, if_neg (by decide), if_pos hl, if_pos (by decide), d_turnTo hg8, ← hσ2]
            exact hΦ
          · rw [RS, if_pos hl]
            unfold w_X10_step_51
            rw [if_neg (by decide)]
            unfold w_X10_step_76
            rw [if_neg (by decide), if_neg (by decide), if_neg (by decide)]
            unfold w_X10_step_98
            rw [if_neg (by decide), if_pos (by decide), s_gateOf_3 hg8, hr3, s_turn hg8, ← hr2']
            exact hΦ
        · -- open
          have n2' : nI st ≠ 2 := fun e => by have := nI_inj (a := st) (b := 2) (by omega) (by omega) e; omega
          have s14 : nI st = 1 ∨ nI st = 4 := by
            rcases (show st = 1 ∨ st = 4 by omega) with e | e
            · rw [e]; exact Or.inl rfl
            · rw [e]; exact Or.inr rfl
          obtain ⟨B, hB⟩ : ∃ B, B = σ1 (10 + 5 * g) 4 + 2 * σ1 (50 + p) 1 := ⟨_, rfl⟩
          have h2 := h1.turn (a := 2) (b := B) hg
          obtain ⟨σ2, hσ2⟩ : ∃ σ2 : Mm, σ2 = up2 (up2 σ1 (10 + 5 * g) 6 2) (10 + 5 * g) 7 B := ⟨_, rfl⟩
          obtain ⟨r2, hr2'⟩ : ∃ r2 : Nat → Int32, r2 = upd (upd r1 (8 + 14 * g + 4) 2) (8 + 14 * g + 5) B := ⟨_, rfl⟩
          rw [← hσ2, ← hr2'] at h2
          have o2 : ∀ q j, ¬ (q = 10 + 5 * g ∧ j = 6) → ¬ (q = 10 + 5 * g ∧ j = 7) → σ2 q j = σ1 q j := fun q j a b => by rw [hσ2, up2_n (by omega), up2_n (by omega)]
          have ro2 : ∀ i, i ≠ 8 + 14 * g + 4 → i ≠ 8 + 14 * g + 5 → r2 i = r1 i := fun i a b => by rw [hr2', pk_un b, pk_un a]
          have rop : ∀ (ρ : Mm) (Φ : Unit → Mm → Prop), w_X10_opened (nI g) (rw1 ρ r1) Φ = Φ () (rw1 ρ r2) := by
            intro ρ Φ
            unfold w_X10_opened
            rw [s_gateOf_2 hg8, s_gateOf_6 hg8, hr6, s_of_2 (by omega), hrp, hr2, ← hB, s_turn hg8, ← hr2']
          refine ⟨σ2, r2, 0, h2.all (VG_held (p := p) (st := 2) (o := o) g1 ?_ (by decide) ?_ ?_ hp ho ?_ ?_ ?_ ?_ ?_), fun S μ Φ hΦ => ?_, fun ρ Φ hΦ => ?_, cn r2 (fun i c1 c2 c3 c4 c5 c6 c7 => ro2 _ c3 c4)⟩
          · rw [o2 _ _ (by omega) (by omega)]; exact k2
          · rw [hσ2, up2_n (Or.inr (by decide)), up2_s]; rfl
          · rw [o2 _ _ (by omega) (by omega)]; exact k9
          · rw [o2 _ _ (by omega) (by omega)]; exact k8
          · rw [o2 _ _ (by omega) (by omega)]; exact k10
          · rw [o2 _ _ (by omega) (by omega)]; exact kp2
          · rw [o2 _ _ (by omega) (by omega)]; exact kp3
          · rw [o2 _ _ (by omega) (by omega), ro2 _ (by omega) (by omega)]; exact k67
          · rw [CS, if_neg n3', if_pos hl, if_neg n2', d_extra h1.1.1.2.1.1 hp n2 kp1, ← hB, d_turnTo hg8, ← hσ2]
            exact hΦ
          · rw [RS, if_pos hl]
            unfold w_X10_step_51
            rw [if_neg n3']
            unfold w_X10_step_76
            rw [if_neg (by decide)]
            rcases s14 with e | e
            · rw [e, if_pos rfl, rop]
              exact hΦ
            · rw [e, if_neg (by decide), if_pos rfl, rop]
              exact hΦ
      · -- nothing yet
        refine ⟨σ1, r1, 0, h1.all (VG_held g1 k2 hst k6 k9 hp ho k8 k10 kp2 kp3 k67), fun S μ Φ hΦ => ?_, fun ρ Φ hΦ => ?_, cn r1 (fun i _ _ _ _ _ _ _ => rfl)⟩
        · rw [CS, if_neg n3', if_neg hl]
          exact hΦ
        · rw [RS, if_neg hl]
          unfold w_X10_step_51
          rw [if_neg n3']
          unfold w_X10_step_76
          rw [if_pos rfl]
          unfold w_X10_step_98
          rw [if_pos rfl, if_pos rfl]
          exact hΦ
end STEPPED
