/-! the class's queues, and whom a closed gate takes -/
section QUEUE
variable {S : Nat} {σ μ : Mm}
theorem d_at_y {c k n : Nat} {a : Int32} {Φ : Int32 → Mm → Prop} (hc : c + 1 < 106) (hl : σ c 1 = nI n) (hn : n ≤ 40) (ha : a = nI k) (hk : k < n) : w_X7_personAtPlace (S + c) a (bl S σ μ) Φ = Φ (σ (c + 1) k) (bl S σ μ) := by
  subst ha
  unfold w_X7_personAtPlace
  have h40 : ¬ (40 : Int32) ≤ nI k := nI_ge (a := k) (b := 40) (by omega) (by omega)
  rw [bl_at (show c < 106 by omega), hl, if_neg (nI_pos (by omega)), if_neg (nI_ge hk (by omega)), if_neg h40, vin (show k < 40 by omega) (by decide), cl (by omega), true_and, Nat.add_assoc, bl_at hc]
theorem d_at_n {c n : Nat} {a : Int32} {Φ : Int32 → Mm → Prop} (hc : c + 1 < 106) (hl : σ c 1 = nI n) (ha : a < 0 ∨ nI n ≤ a) : w_X7_personAtPlace (S + c) a (bl S σ μ) Φ = Φ (-5) (bl S σ μ) := by
  unfold w_X7_personAtPlace
  rw [bl_at (show c < 106 by omega), hl]
  by_cases h0 : a < 0
  · rw [if_pos h0]
  · rw [if_neg h0, if_pos (by rcases ha with h | h; exact absurd h h0; exact h)]
/-- the first one goes -/
def cDrop (c n : Nat) (σ : Mm) : Mm := upA (up2 σ c 1 (nI n)) (c + 1) (fun j => if j < n then σ (c + 1) (j + 1) else σ (c + 1) j)
theorem cDrop_o {c n q j : Nat} (h1 : q ≠ c + 1) (h2 : q ≠ c ∨ j ≠ 1) : cDrop c n σ q j = σ q j := by
  unfold cDrop upA
  rw [if_neg h1, up2_n h2]
theorem cDrop_l {c n : Nat} : cDrop c n σ c 1 = nI n := by
  unfold cDrop upA
  rw [if_neg (by omega), up2_s]
theorem cDrop_e {c n j : Nat} (h : j < n) : cDrop c n σ (c + 1) j = σ (c + 1) (j + 1) := by
  unfold cDrop upA
  rw [if_pos rfl, if_pos h]
theorem d_drop {c n : Nat} {Φ : Unit → Mm → Prop} (hc : c + 1 < 106) (hl : σ c 1 = nI (n + 1)) (hn : n + 1 ≤ 40) : w_X7_dropFirst (S + c) (bl S σ μ) Φ = Φ () (bl S (cDrop c n σ) μ) := by
  unfold w_X7_dropFirst
  have h0 : ¬ nI (n + 1) ≤ 0 := nI_nle (by omega) (by omega)
  have h40 : ¬ (40 : Int32) < nI (n + 1) := nI_nlt (a := 40) (b := n + 1) (by omega) (by omega)
  have hc0 : c < 106 := by omega
  rw [bl_at hc0, hl, if_neg h0, if_neg h40]
  simp only [forall_eq, Nat.add_assoc, up2_bl hc0, bl_at hc0, bl_at hc]
  have e1 : up2 σ c 1 (nI (n + 1) - 1) c 1 = nI n := by rw [up2_s]; exact nI_pred n
  rw [e1, cl (show n < 2147483648 by omega), upA_bl hc]
  have e2 : up2 σ c 1 (nI (n + 1) - 1) (c + 1) = σ (c + 1) := by
    funext j
    exact up2_n (by omega)
  have e3 : upA (up2 σ c 1 (nI (n + 1) - 1)) (c + 1) (va_cpy (up2 σ c 1 (nI (n + 1) - 1) (c + 1)) (up2 σ c 1 (nI (n + 1) - 1) (c + 1)) (1 : Int32).toNatClampNeg (0 : Int32).toNatClampNeg n) = cDrop c n σ := by
    rw [e2, show nI (n + 1) - 1 = nI n from nI_pred n]
    unfold cDrop
    congr 1
    funext j
    show va_cpy (σ (c + 1)) (σ (c + 1)) 1 0 n j = _
    unfold va_cpy
    by_cases hj : j < n
    · rw [if_pos (by omega), if_pos hj]; congr 1; omega
    · rw [if_neg (by omega), if_neg hj]
  rw [e3]
  have t1 : (1 : Int32).toNatClampNeg = 1 := rfl
  have t0 : (0 : Int32).toNatClampNeg = 0 := rfl
  rw [t1, t0]
  refine propext ⟨fun h => h.2.2.2.2.2, fun h => ⟨by decide, by decide, nI_pos (by omega), by omega, by omega, h⟩⟩
end QUEUE
section NEXT
variable {σ : Mm} {r : Nat → Int32} {T ng np nx nl g : Nat}
/-- whom a closed gate takes: the first of queue e, or nobody -/
theorem sim_next (h : Rel σ r T ng np nx nl) (hg : g < ng) : ∃ e, e < 2 ∧ (∀ (S : Nat) (μ : Mm) (Φ : Nat → Mm → Prop), w_X8_nextQueue S (S + 10 + 5 * g) (bl S σ μ) Φ = Φ (S + (11 + 5 * g + 2 * e)) (bl S σ μ)) ∧ ((σ (11 + 5 * g + 2 * e) 1 = nI 0 ∧ ∀ (ρ : Mm) (Φ : Int32 → Mm → Prop), w_X10_nextFor (nI g) (rw1 ρ r) Φ = Φ (-5) (rw1 ρ r)) ∨ (∃ n p, n + 1 ≤ 40 ∧ p < np ∧ σ (11 + 5 * g + 2 * e) 1 = nI (n + 1) ∧ σ (12 + 5 * g + 2 * e) 0 = nI p ∧ σ (50 + p) 3 = nI g ∧ σ (50 + p) 2 = nI (1 + 3 * e) ∧ ∀ (ρ : Mm) (Φ : Int32 → Mm → Prop), w_X10_nextFor (nI g) (rw1 ρ r) Φ = Φ (nI p) (rw1 ρ r))) := by
  obtain ⟨hC, hVG, hVP, hVX, hRQ, hRN, hRU⟩ := h
  obtain ⟨n1, n2, n3, n4⟩ := hC.n
  have hg8 : g < 8 := by omega
  have h2 : r 2 = nI np := hC.1.2.1.2.1
  obtain ⟨d, st, hd, hd2, -⟩ := hVG g hg
  have er0 : r (8 + 14 * g + 0) = nI d := by rw [← hd2]; exact (hC.2.1 g 0 hg (by decide)).symm
  obtain ⟨m0, a0, b1, b2, b3, b4, b5, b6, b7, b8⟩ := q_facts (g := g) (e := 0) (ea := 0) hC (by decide) rfl (hRQ g 0 hg (by decide))
  obtain ⟨m1, a1, c1, c2, c3, c4, c5, c6, c7, c8⟩ := q_facts (g := g) (e := 1) (ea := 1) hC (by decide) rfl (hRQ g 1 hg (by decide))
  have bg : ∀ S μ, bl S σ μ (S + 10 + 5 * g) = σ (10 + 5 * g) := fun S μ => by rw [Nat.add_assoc]; exact bl_at (by omega)
  have k1 : ∀ S, S + 10 + 5 * g + 1 = S + (11 + 5 * g + 2 * 0) := fun S => by omega
  have k3 : ∀ S, S + 10 + 5 * g + 3 = S + (11 + 5 * g + 2 * 1) := fun S => by omega
  have z5 : ¬ (0 : Int32) ≤ -5 := by decide
  rcases (show d = 1 ∨ d = 2 ∨ d = 0 by omega) with rfl | rfl | rfl
  · refine ⟨0, by decide, fun S μ Φ => ?_, ?_⟩
    · unfold w_X8_nextQueue
      rw [bg, hd2, if_pos (by decide), k1]
    · by_cases hz : m0 = 0
      · subst hz
        refine Or.inl ⟨b2, fun ρ Φ => ?_⟩
        unfold w_X10_nextFor
        rw [s_gateOf_0 hg8, er0, if_neg (by decide), s_queuedAt h2 n2, b8 0 (by decide)]
        unfold w_X10_nextFor_22
        rw [s_gateOf_0 hg8, er0, if_pos (by decide)]
        unfold w_X10_nextFor_45
        rw [if_neg z5]
      · obtain ⟨n, rfl⟩ : ∃ n, m0 = n + 1 := ⟨m0 - 1, by omega⟩
        obtain ⟨e1, e2, e3, e4⟩ := b3 0 (by omega)
        refine Or.inr ⟨n, a0 0, b1, e2, b2, e1, e3, e4, fun ρ Φ => ?_⟩
        unfold w_X10_nextFor
        rw [s_gateOf_0 hg8, er0, if_neg (by decide), s_queuedAt h2 n2, b7 0 0 rfl (by omega)]
        unfold w_X10_nextFor_22
        rw [s_gateOf_0 hg8, er0, if_pos (by decide)]
        unfold w_X10_nextFor_45
        rw [if_pos (nI_pos' (by omega)), if_neg z5]
  · refine ⟨1, by decide, fun S μ Φ => ?_, ?_⟩
    · unfold w_X8_nextQueue
      rw [bg, hd2, if_neg (by decide), if_pos (by decide), k3]
    · by_cases hz : m1 = 0
      · subst hz
        refine Or.inl ⟨c2, fun ρ Φ => ?_⟩
        unfold w_X10_nextFor
        rw [s_gateOf_0 hg8, er0, if_pos (by decide)]
        unfold w_X10_nextFor_22
        rw [s_gateOf_0 hg8, er0, if_neg (by decide), s_queuedAt h2 n2, c8 0 (by decide)]
        unfold w_X10_nextFor_45
        rw [if_neg z5]
      · obtain ⟨n, rfl⟩ : ∃ n, m1 = n + 1 := ⟨m1 - 1, by omega⟩
        obtain ⟨e1, e2, e3, e4⟩ := c3 0 (by omega)
        refine Or.inr ⟨n, a1 0, c1, e2, c2, e1, e3, e4, fun ρ Φ => ?_⟩
        unfold w_X10_nextFor
        rw [s_gateOf_0 hg8, er0, if_pos (by decide)]
        unfold w_X10_nextFor_22
        rw [s_gateOf_0 hg8, er0, if_neg (by decide), s_queuedAt h2 n2, c7 0 0 rfl (by omega)]
        unfold w_X10_nextFor_45
        rw [if_neg z5]
  · have RR : ∀ (ρ : Mm) (Φ : Int32 → Mm → Prop), w_X10_nextFor (nI g) (rw1 ρ r) Φ = w_X10_nextFor_45 Φ (fnd (fun p => qB r (nI g) 0 p && decide (nI (cnt (aB r (nI g) 0 p) np) = 0)) np 0) (fnd (fun p => qB r (nI g) 1 p && decide (nI (cnt (aB r (nI g) 1 p) np) = 0)) np 0) (rw1 ρ r) := by
      intro ρ Φ
      unfold w_X10_nextFor
      rw [s_gateOf_0 hg8, er0, if_neg (by decide), s_queuedAt h2 n2]
      unfold w_X10_nextFor_22
      rw [s_gateOf_0 hg8, er0, if_neg (by decide), s_queuedAt h2 n2]
    have CC : ∀ (S : Nat) (μ : Mm) (Φ : Nat → Mm → Prop), w_X8_nextQueue S (S + 10 + 5 * g) (bl S σ μ) Φ = w_X7_personAtPlace (S + (11 + 5 * g + 2 * 0)) 0 (bl S σ μ) (fun r4 u3 => w_X8_personAt S r4 u3 (fun r6 u5 => opt r6 (w_X7_personAtPlace (S + (11 + 5 * g + 2 * 1)) 0 u5 (fun r9 u8 => w_X8_personAt S r9 u8 (fun r11 u10 => opt r11 (Φ (S + (11 + 5 * g + 2 * 1)) u10) (fun r11 => Φ (S + (11 + 5 * g + 2 * 1)) u10)))) (fun r6 => w_X7_personAtPlace (S + (11 + 5 * g + 2 * 1)) 0 u5 (fun r14 u13 => w_X8_personAt S r14 u13 (fun r16 u15 => opt r16 (Φ (S + (11 + 5 * g + 2 * 0)) u15) (fun r16 => if u15 r16 5 ≤ u15 r6 5 then Φ (S + (11 + 5 * g + 2 * 1)) u15 else Φ (S + (11 + 5 * g + 2 * 0)) u15)))))) := by
      intro S μ Φ
      unfold w_X8_nextQueue
      rw [bg, hd2, if_neg (by decide), if_neg (by decide), k1, k3]
    have hx0 : 11 + 5 * g + 2 * 0 + 1 < 106 := by omega
    have hx1 : 11 + 5 * g + 2 * 1 + 1 < 106 := by omega
    by_cases hz0 : m0 = 0
    · subst hz0
      by_cases hz1 : m1 = 0
      · subst hz1
        refine ⟨1, by decide, fun S μ Φ => ?_, Or.inl ⟨c2, fun ρ Φ => ?_⟩⟩
        · rw [CC, d_at_n (c := 11 + 5 * g + 2 * 0) (a := 0) (n := 0) hx0 b2 (Or.inr (by decide)), d_personAt_n hC.1.2.1.1 (Or.inl (by decide)), opt_none, d_at_n (c := 11 + 5 * g + 2 * 1) (a := 0) (n := 0) hx1 c2 (Or.inr (by decide)), d_personAt_n hC.1.2.1.1 (Or.inl (by decide)), opt_none]
        · rw [RR, b8 0 (by decide), c8 0 (by decide)]
          unfold w_X10_nextFor_45
          rw [if_neg z5]
      · obtain ⟨n, rfl⟩ : ∃ n, m1 = n + 1 := ⟨m1 - 1, by omega⟩
        obtain ⟨e1, e2, e3, e4⟩ := c3 0 (by omega)
        refine ⟨1, by decide, fun S μ Φ => ?_, Or.inr ⟨n, a1 0, c1, e2, c2, e1, e3, e4, fun ρ Φ => ?_⟩⟩
        · rw [CC, d_at_n (c := 11 + 5 * g + 2 * 0) (a := 0) (n := 0) hx0 b2 (Or.inr (by decide)), d_personAt_n hC.1.2.1.1 (Or.inl (by decide)), opt_none, d_at_y (c := 11 + 5 * g + 2 * 1) (a := 0) (k := 0) hx1 c2 c1 rfl (by omega), show σ (11 + 5 * g + 2 * 1 + 1) 0 = nI (a1 0) by rw [← e1]; congr 1; omega, d_personAt_y hC.1.2.1.1 e2 n2, opt_some]
        · rw [RR, b8 0 (by decide), c7 0 0 rfl (by omega)]
          unfold w_X10_nextFor_45
          rw [if_neg z5]
    · obtain ⟨n, rfl⟩ : ∃ n, m0 = n + 1 := ⟨m0 - 1, by omega⟩
      obtain ⟨e1, e2, e3, e4⟩ := b3 0 (by omega)
      have hA0 : ∀ (S : Nat) (μ : Mm) (Φ : Int32 → Mm → Prop), w_X7_personAtPlace (S + (11 + 5 * g + 2 * 0)) 0 (bl S σ μ) Φ = Φ (nI (a0 0)) (bl S σ μ) := fun S μ Φ => by
        rw [d_at_y (c := 11 + 5 * g + 2 * 0) (a := 0) (k := 0) hx0 b2 b1 rfl (by omega), show σ (11 + 5 * g + 2 * 0 + 1) 0 = nI (a0 0) by rw [← e1]; congr 1; omega]
      by_cases hz1 : m1 = 0
      · subst hz1
        refine ⟨0, by decide, fun S μ Φ => ?_, Or.inr ⟨n, a0 0, b1, e2, b2, e1, e3, e4, fun ρ Φ => ?_⟩⟩
        · rw [CC, hA0, d_personAt_y hC.1.2.1.1 e2 n2, opt_some, d_at_n (c := 11 + 5 * g + 2 * 1) (a := 0) (n := 0) hx1 c2 (Or.inr (by decide)), d_personAt_n hC.1.2.1.1 (Or.inl (by decide)), opt_none]
        · rw [RR, b7 0 0 rfl (by omega), c8 0 (by decide)]
          unfold w_X10_nextFor_45
          rw [if_pos (nI_pos' (by omega)), if_neg z5]
      · obtain ⟨n', rfl⟩ : ∃ n, m1 = n + 1 := ⟨m1 - 1, by omega⟩
        obtain ⟨f1, f2, f3, f4⟩ := c3 0 (by omega)
        obtain ⟨w0, x1, x2, -, -, -, -, x7, -⟩ := hVP (a0 0) e2
        obtain ⟨w1, y1, y2, -, -, -, -, y7, -⟩ := hVP (a1 0) f2
        have hw0 : w0 = 1 := nI_inj (by omega) (by omega) (x2.symm.trans e4)
        have hw1 : w1 = 4 := nI_inj (by omega) (by omega) (y2.symm.trans f4)
        obtain ⟨s0, hs0, es0⟩ := x7 (Or.inl hw0)
        obtain ⟨s1, hs1, es1⟩ := y7 (Or.inr hw1)
        obtain ⟨t, ht, -, et⟩ := hC.1.2.2.2.2.2.1
        have hT := hC.1.2.2.2.2.2.2.2
        have er5 : r (120 + 7 * a0 0 + 5) = nI s0 := by rw [← es0]; exact (hC.2.2.1 (a0 0) 5 e2 (by decide)).symm
        have er6 : r (120 + 7 * a1 0 + 5) = nI s1 := by rw [← es1]; exact (hC.2.2.1 (a1 0) 5 f2 (by decide)).symm
        have hiff : (nI t - nI s0 ≤ nI t - nI s1) ↔ (nI s1 ≤ nI s0) := by
          rw [Int32.le_iff_toInt_le, pk_sub_toInt (by omega) (by omega), pk_sub_toInt (by omega) (by omega), nI_leI (by omega) (by omega)]
          omega
        have hCC : ∀ (S : Nat) (μ : Mm) (Φ : Nat → Mm → Prop), w_X8_nextQueue S (S + 10 + 5 * g) (bl S σ μ) Φ = if nI s1 ≤ nI s0 then Φ (S + (11 + 5 * g + 2 * 1)) (bl S σ μ) else Φ (S + (11 + 5 * g + 2 * 0)) (bl S σ μ) := by
          intro S μ Φ
          rw [CC, hA0, d_personAt_y hC.1.2.1.1 e2 n2, opt_some, d_at_y (c := 11 + 5 * g + 2 * 1) (a := 0) (k := 0) hx1 c2 c1 rfl (by omega), show σ (11 + 5 * g + 2 * 1 + 1) 0 = nI (a1 0) by rw [← f1]; congr 1; omega, d_personAt_y hC.1.2.1.1 f2 n2, opt_some, Nat.add_assoc, Nat.add_assoc, bl_at (show 50 + a0 0 < 106 by omega), bl_at (show 50 + a1 0 < 106 by omega), es0, es1]
        have hRR : ∀ (ρ : Mm) (Φ : Int32 → Mm → Prop), w_X10_nextFor (nI g) (rw1 ρ r) Φ = if nI s1 ≤ nI s0 then Φ (nI (a1 0)) (rw1 ρ r) else Φ (nI (a0 0)) (rw1 ρ r) := by
          intro ρ Φ
          rw [RR, b7 0 0 rfl (by omega), c7 0 0 rfl (by omega)]
          unfold w_X10_nextFor_45
          rw [if_pos (nI_pos' (by omega)), if_pos (nI_pos' (by omega))]
          unfold w_X10_waited
          rw [s_of_5 (show a0 0 < 40 by omega), er5, rw1_1, show (0 : Int32).toNatClampNeg = 0 from rfl, et]
          simp only [s_of_5 (show a1 0 < 40 by omega), er6, rw1_1, et, hiff]
        by_cases hs : nI s1 ≤ nI s0
        · refine ⟨1, by decide, fun S μ Φ => by rw [hCC, if_pos hs], Or.inr ⟨n', a1 0, c1, f2, c2, f1, f3, f4, fun ρ Φ => by rw [hRR, if_pos hs]⟩⟩
        · refine ⟨0, by decide, fun S μ Φ => by rw [hCC, if_neg hs], Or.inr ⟨n, a0 0, b1, e2, b2, e1, e3, e4, fun ρ Φ => by rw [hRR, if_neg hs]⟩⟩
end NEXT
