/-! who passes a gate -/
def CT {α : Type} (w : Nat → Mm → (α → Mm → Prop) → Prop) (σ : Mm) (a : α) (σ' : Mm) : Prop := ∀ (S : Nat) (μ : Mm) (Φ : α → Mm → Prop), Φ a (bl S σ' μ) → w S (bl S σ μ) Φ
def RT {β : Type} (w : Mm → (β → Mm → Prop) → Prop) (r : Nat → Int32) (b : β) (r' : Nat → Int32) : Prop := ∀ (ρ : Mm) (Φ : β → Mm → Prop), Φ b (rw1 ρ r') → w (rw1 ρ r) Φ
theorem opt_none (a : Prop) (b : Nat → Prop) : opt none a b = a := rfl
theorem opt_some (k : Nat) (a : Prop) (b : Nat → Prop) : opt (some k) a b = b k := rfl
theorem upd_rot4 {f : Nat → Int32} {a b c d : Nat} {x y z w : Int32} (hab : a ≠ b) (hac : a ≠ c) (had : a ≠ d) (hbd : b ≠ d) (hcd : c ≠ d) : upd (upd (upd (upd f a x) b y) c z) d w = upd (upd (upd (upd f d w) b y) c z) a x := by
  rw [upd_comm (i := c) (j := d) hcd, upd_comm (i := b) (j := d) hbd, upd_comm (i := a) (j := d) had, upd_comm (i := a) (j := b) hab, upd_comm (i := a) (j := c) hac]
section LET
variable {σ : Mm} {r : Nat → Int32} {T ng np nx nl g p : Nat}
theorem Core.n (h : Core σ r T ng np nx nl) : ng ≤ 8 ∧ np ≤ 40 ∧ nx ≤ 12 ∧ nl ≤ 4 := ⟨h.1.1.2.2, h.1.2.1.2.2, h.1.2.2.1.2.2, h.1.2.2.2.1.2.2⟩
theorem Core.time (h : Core σ r T ng np nx nl) : r 0 = σ 0 9 := by
  obtain ⟨t, -, h1, h2⟩ := h.1.2.2.2.2.2.1
  rw [h1, h2]
theorem sim_letIn (h : RelX σ r T ng np nx nl g) (hg : g < ng) (hp : p < np) (e1 : σ (10 + 5 * g) 8 = nI p) (e2 : σ (50 + p) 2 = nI 2) (e6 : σ (50 + p) 6 = 0) (e7 : r (8 + 14 * g + 7) = 1) (e3 : σ (50 + p) 3 = nI g) :
    ∃ σ' r', RelX σ' r' T ng np nx nl g ∧ CT (fun S => w_X8_letThrough S (nI g) (S + 10 + 5 * g)) σ 1 σ' ∧ RT (w_X10_letThrough (nI g)) r () r' ∧ σ' (10 + 5 * g) 8 = -5 ∧ (∀ f, f ≠ 8 → f ≠ 11 → f ≠ 12 → σ' (10 + 5 * g) f = σ (10 + 5 * g) f) ∧ r' (8 + 14 * g + 10) + r' (8 + 14 * g + 11) = r (8 + 14 * g + 10) + r (8 + 14 * g + 11) + 1 ∧ (∀ i, 8 ≤ i → i < 120 → i ≠ 8 + 14 * g + 10 → i ≠ 8 + 14 * g + 11 → i ≠ 8 + 14 * g + 6 → r' i = r i) := by
  obtain ⟨hC, hVG, hVP, hVX, hRQ, hRN, hRU⟩ := h
  obtain ⟨n1, n2, n3, n4⟩ := hC.n
  have hg8 : g < 8 := by omega
  have hp40 : p < 40 := by omega
  have er6 : r (8 + 14 * g + 6) = nI p := by rw [← e1]; exact (hC.2.1 g 6 hg (by decide)).symm
  have er10 : σ (10 + 5 * g) 11 = r (8 + 14 * g + 10) := hC.2.1 g 9 hg (by decide)
  refine ⟨cAdd (σ 0 9) (nI g) (nI p) 2 (up2 (up2 (up2 (up2 σ (10 + 5 * g) 8 (-5)) (50 + p) 3 (-5)) (10 + 5 * g) 11 (σ (10 + 5 * g) 11 + 1)) (50 + p) 2 3),
    rTell (nI g) (nI p) 2 (upd (upd (upd (upd r (120 + 7 * p + 0) 3) (120 + 7 * p + 3) (-5)) (8 + 14 * g + 10) (r (8 + 14 * g + 10) + 1)) (8 + 14 * g + 6) (-5)), ⟨?_, ?_, ?_, ?_, ?_, ?_, ?_⟩, ?_, ?_, ?_, ?_, ?_, ?_⟩
  · have k := ((((hC.gate (v := -5) hg8 (f := 6) (by decide)).person (v := -5) hp40 (f := 3) (by decide)).gate (v := σ (10 + 5 * g) 11 + 1) hg8 (f := 9) (by decide)).person (v := 3) hp40 (f := 2) (by decide)).add (t := σ 0 9) (g := nI g) (p := nI p) (kd := 2) (by
      rw [pk_un (by omega), pk_un (by omega), pk_un (by omega), pk_un (by omega)]; exact hC.time)
    rw [er10] at k ⊢
    rw [← upd_rot4 (a := 8 + 14 * g + 6) (b := 120 + 7 * p + 3) (c := 8 + 14 * g + 10) (d := 120 + 7 * p + 0) (by omega) (by omega) (by omega) (by omega) (by omega)]
    exact k
  · intro g' hg' hne
    refine VG_keep (fun f => ?_) (fun q hq h8 h3 => ?_) ?_ (hVG g' hg' hne)
    · rw [cAdd_o (by omega), up2_n (by omega), up2_n (by omega), up2_n (by omega), up2_n (by omega)]
    · have hqp : q ≠ p := fun e => by
        subst e
        exact hne (nI_inj (by omega) (by omega) (h3.symm.trans e3))
      rw [cAdd_o (by omega), up2_n (by omega), up2_n (by omega), up2_n (by omega), up2_n (by omega), up2_n (by omega), up2_n (by omega), up2_n (by omega), up2_n (by omega), up2_n (by omega), up2_n (by omega), up2_n (by omega), up2_n (by omega)]
      exact ⟨rfl, rfl, rfl⟩
    · rw [rTell_o (by omega) (by omega), pk_un (by omega), pk_un (by omega), pk_un (by omega), pk_un (by omega)]
  · intro q hq
    by_cases hqp : q = p
    · subst hqp
      obtain ⟨w, a1, a2, a3, a4, a5, a6, a7, a8⟩ := hVP q hq
      have hw : w = 2 := nI_inj (by omega) (by omega) (a2.symm.trans e2)
      subst hw
      refine ⟨3, by decide, ?_, ?_, ?_, fun h => by omega, fun h => by omega, fun h => by omega, fun _ => ?_⟩
      · rw [cAdd_o (by omega), up2_s]; rfl
      · exact ⟨by rw [cAdd_o (by omega), up2_n (by omega), up2_n (by omega), up2_n (by omega), up2_n (by omega)]; exact a3.1, by rw [cAdd_o (by omega), up2_n (by omega), up2_n (by omega), up2_n (by omega), up2_n (by omega)]; exact a3.2⟩
      · rw [cAdd_o (by omega), up2_n (by omega), up2_n (by omega), up2_n (by omega), up2_n (by omega)]; exact a4
      · rw [cAdd_o (by omega), up2_n (by omega), up2_n (by omega), up2_n (by omega), up2_n (by omega)]; exact a8 (by omega)
    · refine VP_keep (fun f => ?_) (hVP q hq)
      rw [cAdd_o (by omega), up2_n (by omega), up2_n (by omega), up2_n (by omega), up2_n (by omega)]
  · intro x hx
    refine VX_keep (fun f _ => ?_) (hVX x hx)
    rw [cAdd_o (by omega), up2_n (by omega), up2_n (by omega), up2_n (by omega), up2_n (by omega)]
  · refine KQ_keep (p := p) (fun q h1 h2 h3 => ?_) n1 (fun q hq hqp => ?_) (fun e he => ⟨?_, ?_⟩) (fun q hq => ?_) hRQ
    · have := h3 g
      rw [cAdd_o (by omega)]
      funext f
      rw [up2_n (by omega), up2_n (by omega), up2_n (by omega), up2_n (by omega)]
    · rw [cAdd_o (by omega), up2_n (by omega), up2_n (by omega), up2_n (by omega), up2_n (by omega), up2_n (by omega), up2_n (by omega), up2_n (by omega), up2_n (by omega)]
      exact ⟨rfl, rfl⟩
    · rw [e2]; exact fun e' => by have := nI_inj (by omega) (by omega) e'; omega
    · rw [cAdd_o (by omega), up2_s]; exact fun e' => by have := nI_inj (a := 3) (by omega) (by omega) e'; omega
    · rw [rTell_o (by omega) (by omega), pk_un (by omega), pk_un (by omega), pk_un (by omega), pk_un (by omega)]
  · refine KN_keep (p := p) (fun q hq hqp => ?_) ?_ (fun q hq => ?_) ?_ (fun q hq hqp => ?_) ?_ hRN
    · rw [cAdd_o (by omega), up2_n (by omega), up2_n (by omega), up2_n (by omega), up2_n (by omega)]
    · rw [cAdd_o (by omega), up2_s]; decide
    · rw [rTell_o (by omega) (by omega), pk_un (by omega), pk_un (by omega), pk_un (by omega), pk_un (by omega)]
    · rw [rTell_o (by omega) (by omega), pk_un (by omega), pk_un (by omega), pk_un (by omega), pk_un (by omega)]
    · rw [rTell_o (by omega) (by omega), pk_un (by omega), pk_un (by omega), pk_un (by omega), pk_un (by omega)]
    · rw [rTell_o (by omega) (by omega), pk_un (by omega), pk_un (by omega), pk_un (by omega), pk_un (by omega)]
  · refine KU_keep (fun q hq => ?_) (fun q hq => ?_) (fun x => ?_) (fun k hk => ?_) hRU
    · rw [cAdd_o (by omega), up2_n (by omega), up2_n (by omega), up2_n (by omega), up2_n (by omega)]
    · by_cases hqp : q = p
      · subst hqp
        rw [inB_2 e2, inB_3 (by rw [cAdd_o (by omega), up2_s]; rfl)]
      · refine inB_keep ?_
        rw [cAdd_o (by omega), up2_n (by omega), up2_n (by omega), up2_n (by omega), up2_n (by omega)]
    · rw [cAdd_o (by omega)]
      funext f
      rw [up2_n (by omega), up2_n (by omega), up2_n (by omega), up2_n (by omega)]
    · rw [cAdd_o (by omega), up2_n (by omega), up2_n (by omega), up2_n (by omega), up2_n (by omega), up2_n (by omega), up2_n (by omega), up2_n (by omega), up2_n (by omega)]
      exact ⟨rfl, rfl⟩
  · intro S μ Φ hΦ
    have q1 : 10 + 5 * g < 106 := by omega
    have q2 : 50 + p < 106 := by omega
    show w_X8_letThrough S (nI g) (S + 10 + 5 * g) (bl S σ μ) Φ
    unfold w_X8_letThrough
    rw [show bl S σ μ (S + 10 + 5 * g) = σ (10 + 5 * g) by rw [Nat.add_assoc]; exact bl_at q1, e1, d_personAt_y hC.1.2.1.1 hp n2]
    simp only [opt_some, forall_eq, Nat.add_assoc, up2_bl q1, up2_bl q2, bl_at q1, bl_at q2]
    have c6 : up2 (up2 σ (10 + 5 * g) 8 (-5)) (50 + p) 3 (-5) (50 + p) 6 = 0 := by
      rw [up2_n (by omega), up2_n (by omega)]; exact e6
    have c11 : up2 (up2 σ (10 + 5 * g) 8 (-5)) (50 + p) 3 (-5) (10 + 5 * g) 11 = σ (10 + 5 * g) 11 := by
      rw [up2_n (by omega), up2_n (by omega)]
    rw [if_pos c6, c11, bl_0]
    have c9 : up2 (up2 (up2 (up2 σ (10 + 5 * g) 8 (-5)) (50 + p) 3 (-5)) (10 + 5 * g) 11 (σ (10 + 5 * g) 11 + 1)) (50 + p) 2 3 0 9 = σ 0 9 := by
      rw [up2_n (by omega), up2_n (by omega), up2_n (by omega), up2_n (by omega)]
    rw [c9, d_add (EvOk_up (by omega) (EvOk_up (by omega) (EvOk_up (by omega) (EvOk_up (by omega) hC.ev))))]
    exact hΦ
  · intro ρ Φ hΦ
    unfold w_X10_letThrough
    rw [s_gateOf_6 hg8, s_gateOf_7 hg8, er6, e7, if_pos rfl]
    unfold w_X10_letThrough_24
    rw [if_neg (by decide)]
    unfold w_X10_letThrough_37
    rw [s_put_0 hp40, s_put_3 hp40, if_neg (by decide)]
    unfold w_X10_letThrough_59
    rw [s_gateOf_10 hg8, s_putGate_10 hg8, s_putGate_6 hg8, if_neg (by decide), s_tell, pk_un (by omega), pk_un (by omega)]
    exact hΦ
  · rw [cAdd_o (by omega), up2_n (by omega), up2_n (by omega), up2_n (by omega), up2_s]
  · intro f h8 h11 h12
    rw [cAdd_o (by omega), up2_n (by omega), up2_n (by omega), up2_n (by omega), up2_n (by omega)]
  · rw [rTell_o (by omega) (by omega), rTell_o (by omega) (by omega), pk_un (by omega), pk_us, pk_un (by omega), pk_un (by omega), pk_un (by omega), pk_un (by omega)]
    rw [Int32.add_assoc, Int32.add_comm 1, ← Int32.add_assoc]
  · intro i h1 h2 h3 h4 h5
    rw [rTell_o (by omega) (by omega), pk_un (by omega), pk_un (by omega), pk_un (by omega), pk_un (by omega)]
end LET
