/-! a gate by itself: its numbers, events, going out of order -/
section GATE
variable {σ : Mm} {r : Nat → Int32} {T ng np nx nl g p : Nat}
theorem RelX.gate {f : Nat} {v : Int32} (h : RelX σ r T ng np nx nl g) (hg : g < ng) (hf : f < 13) : RelX (up2 σ (10 + 5 * g) (f + 2) v) (upd r (8 + 14 * g + gm f) v) T ng np nx nl g := by
  obtain ⟨hC, hVG, hVP, hVX, hRQ, hRN, hRU⟩ := h
  obtain ⟨n1, n2, n3, n4⟩ := hC.n
  have hl := gm_lt hf
  have o : ∀ q j, q ≠ 10 + 5 * g → up2 σ (10 + 5 * g) (f + 2) v q j = σ q j := fun q j hq => up2_n (Or.inl hq)
  refine ⟨hC.gate (by omega) hf, fun g' hg' hne => ?_, fun q hq => VP_keep (fun f => o _ _ (by omega)) (hVP q hq), fun x hx => VX_keep (fun f _ => o _ _ (by omega)) (hVX x hx), ?_, ?_, ?_⟩
  · exact VG_keep (fun f => o _ _ (by omega)) (fun q hq _ _ => ⟨o _ _ (by omega), o _ _ (by omega), o _ _ (by omega)⟩) (pk_un (by omega)) (hVG g' hg' hne)
  · intro g' e hg' he
    obtain ⟨n, a, b1, b2, b3, b4, b5⟩ := hRQ g' e hg' he
    refine ⟨n, a, b1, by rw [o _ _ (by omega)]; exact b2, fun i hi => ?_, fun i j hij hj => ?_, fun q hq => ?_⟩
    · have := (b3 i hi).2.1
      rw [o _ _ (by omega), o _ _ (by omega), o _ _ (by omega)]; exact b3 i hi
    · have := (b3 i (by omega)).2.1
      have := (b3 j hj).2.1
      rw [pk_un (by omega), pk_un (by omega)]; exact b4 i j hij hj
    · rw [o _ _ (by omega), o _ _ (by omega)]; exact b5 q hq
  · intro q hq hw
    rw [o _ _ (by omega)] at hw
    exact NumOk_keep (pk_un (by omega)) (pk_un (by omega)) (pk_un (by omega)) (pk_un (by omega)) (hRN q hq hw)
  · exact KU_keep (fun q hq => o _ _ (by omega)) (fun q hq => inB_keep (o _ _ (by omega))) (fun x => by
      funext j; exact o _ _ (by omega)) (fun k hk => ⟨o _ _ (by omega), o _ _ (by omega)⟩) hRU
theorem RelX.isin {v : Int32} (h : RelX σ r T ng np nx nl g) (hg : g < ng) : RelX σ (upd r (8 + 14 * g + 7) v) T ng np nx nl g := by
  obtain ⟨hC, hVG, hVP, hVX, hRQ, hRN, hRU⟩ := h
  obtain ⟨n1, n2, n3, n4⟩ := hC.n
  refine ⟨hC.ref (Or.inl ⟨g, by omega, rfl⟩), fun g' hg' hne => VG_keep (fun f => rfl) (fun q hq _ _ => ⟨rfl, rfl, rfl⟩) (pk_un (by omega)) (hVG g' hg' hne), hVP, hVX, ?_, ?_, hRU⟩
  · intro g' e hg' he
    obtain ⟨n, a, b1, b2, b3, b4, b5⟩ := hRQ g' e hg' he
    refine ⟨n, a, b1, b2, b3, fun i j hij hj => ?_, b5⟩
    rw [pk_un (by omega), pk_un (by omega)]; exact b4 i j hij hj
  · intro q hq hw
    exact NumOk_keep (pk_un (by omega)) (pk_un (by omega)) (pk_un (by omega)) (pk_un (by omega)) (hRN q hq hw)
theorem RelX.add {t a b k : Int32} (h : RelX σ r T ng np nx nl g) (ht : r 0 = t) : RelX (cAdd t a b k σ) (rTell a b k r) T ng np nx nl g := by
  obtain ⟨hC, hVG, hVP, hVX, hRQ, hRN, hRU⟩ := h
  obtain ⟨n1, n2, n3, n4⟩ := hC.n
  have o : ∀ q j, (q < 5 ∨ 9 < q) → cAdd t a b k σ q j = σ q j := fun q j hq => by rw [cAdd_o hq]
  refine ⟨hC.add ht, fun g' hg' hne => ?_, fun q hq => VP_keep (fun f => o _ _ (by omega)) (hVP q hq), fun x hx => VX_keep (fun f _ => o _ _ (by omega)) (hVX x hx), ?_, ?_, ?_⟩
  · exact VG_keep (fun f => o _ _ (by omega)) (fun q hq _ _ => ⟨o _ _ (by omega), o _ _ (by omega), o _ _ (by omega)⟩) (rTell_o (by omega) (by omega)) (hVG g' hg' hne)
  · intro g' e hg' he
    obtain ⟨n, a, b1, b2, b3, b4, b5⟩ := hRQ g' e hg' he
    refine ⟨n, a, b1, by rw [o _ _ (by omega)]; exact b2, fun i hi => ?_, fun i j hij hj => ?_, fun q hq => ?_⟩
    · rw [o _ _ (by omega), o _ _ (by omega), o _ _ (by omega)]; exact b3 i hi
    · have := (b3 i (by omega)).2.1
      have := (b3 j hj).2.1
      rw [rTell_o (by omega) (by omega), rTell_o (by omega) (by omega)]; exact b4 i j hij hj
    · rw [o _ _ (by omega), o _ _ (by omega)]; exact b5 q hq
  · intro q hq hw
    rw [o _ _ (by omega)] at hw
    exact NumOk_keep (rTell_o (by omega) (by omega)) (rTell_o (by omega) (by omega)) (rTell_o (by omega) (by omega)) (rTell_o (by omega) (by omega)) (hRN q hq hw)
  · exact KU_keep (fun q hq => o _ _ (by omega)) (fun q hq => inB_keep (o _ _ (by omega))) (fun x => by
      funext j; exact o _ _ (by omega)) (fun k hk => ⟨o _ _ (by omega), o _ _ (by omega)⟩) hRU
/-- who is in gate g, on both sides -/
def Holds (σ : Mm) (r : Nat → Int32) (np g p : Nat) : Prop := p < np ∧ σ (10 + 5 * g) 8 = nI p ∧ σ (50 + p) 2 = nI 2 ∧ σ (50 + p) 3 = nI g ∧ ((r (8 + 14 * g + 7) = 1 ∧ σ (50 + p) 6 = 0) ∨ (r (8 + 14 * g + 7) = 0 ∧ σ (50 + p) 6 = 1))
/-- what a person's passing gives -/
def Passed (σ : Mm) (r : Nat → Int32) (T ng np nx nl g : Nat) (σ' : Mm) (r' : Nat → Int32) : Prop := RelX σ' r' T ng np nx nl g ∧ CT (fun S => w_X8_letThrough S (nI g) (S + 10 + 5 * g)) σ 1 σ' ∧ RT (w_X10_letThrough (nI g)) r () r' ∧ σ' (10 + 5 * g) 8 = -5 ∧ (∀ f, f ≠ 8 → f ≠ 11 → f ≠ 12 → σ' (10 + 5 * g) f = σ (10 + 5 * g) f) ∧ r' (8 + 14 * g + 10) + r' (8 + 14 * g + 11) = r (8 + 14 * g + 10) + r (8 + 14 * g + 11) + 1 ∧ (∀ i, 8 ≤ i → i < 120 → i ≠ 8 + 14 * g + 10 → i ≠ 8 + 14 * g + 11 → i ≠ 8 + 14 * g + 6 → r' i = r i)
theorem sim_let (h : RelX σ r T ng np nx nl g) (hg : g < ng) (hh : Holds σ r np g p) : ∃ σ' r', Passed σ r T ng np nx nl g σ' r' := by
  obtain ⟨hp, e1, e2, e3, e4⟩ := hh
  rcases e4 with ⟨e7, e6⟩ | ⟨e7, e6⟩
  · exact sim_letIn h hg hp e1 e2 e6 e7 e3
  · exact sim_letOut h hg hp e1 e2 e6 e7 e3
/-- nobody is in the gate: the class lets nobody through -/
theorem let_none {S : Nat} {μ : Mm} {Φ : Int32 → Mm → Prop} {n : Nat} (hg : g < 8) (hn : σ 0 6 = nI n) (h : σ (10 + 5 * g) 8 = -5) : w_X8_letThrough S (nI g) (S + 10 + 5 * g) (bl S σ μ) Φ = Φ 0 (bl S σ μ) := by
  unfold w_X8_letThrough
  rw [show bl S σ μ (S + 10 + 5 * g) = σ (10 + 5 * g) by rw [Nat.add_assoc]; exact bl_at (by omega), h, d_personAt_n hn (Or.inl (by decide)), opt_none]
/-- out of order, but for the person in it -/
theorem sim_break (h : RelX σ r T ng np nx nl g) (hg : g < ng) : ∃ σ' r', RelX σ' r' T ng np nx nl g ∧ (∀ (S : Nat) (μ : Mm) (Φ : Unit → Mm → Prop), w_X8_breakDown S (nI g) (S + 10 + 5 * g) (bl S σ μ) Φ = Φ () (bl S σ' μ)) ∧ (∀ (ρ : Mm) (Φ : Unit → Mm → Prop), w_X10_goOut (nI g) (rw1 ρ r) Φ = w_X10_gateOf (nI g) 6 (rw1 ρ r') (fun r10 u9 => if r10 < 0 then Φ () u9 else w_X10_letThrough (nI g) u9 (fun _ u12 => Φ () u12))) ∧ σ' (10 + 5 * g) 6 = 5 ∧ σ' (10 + 5 * g) 9 = 0 ∧ (∀ f, f ≠ 6 → f ≠ 7 → f ≠ 9 → σ' (10 + 5 * g) f = σ (10 + 5 * g) f) ∧ (∀ q, q < np → ∀ f, σ' (50 + q) f = σ (50 + q) f) ∧ (∀ i, 8 ≤ i → i < 120 → i ≠ 8 + 14 * g + 4 → i ≠ 8 + 14 * g + 5 → i ≠ 8 + 14 * g + 9 → r' i = r i) := by
  obtain ⟨n1, n2, n3, n4⟩ := h.1.n
  have hg8 : g < 8 := by omega
  have hk := (((h.gate (v := 5) hg (f := 4) (by decide)).gate (v := 0) hg (f := 5) (by decide)).gate (v := 0) hg (f := 7) (by decide)).add (t := σ 0 9) (a := nI g) (b := -5) (k := 5) (by
    rw [pk_un (by have := gm_lt (f := 7) (by decide); omega), pk_un (by have := gm_lt (f := 5) (by decide); omega), pk_un (by have := gm_lt (f := 4) (by decide); omega)]; exact h.1.time)
  refine ⟨_, _, hk, fun S μ Φ => ?_, fun ρ Φ => ?_, ?_, ?_, ?_, ?_, ?_⟩
  · unfold w_X8_breakDown
    have q1 : 10 + 5 * g < 106 := by omega
    rw [d_turnTo hg8]
    simp only [forall_eq, Nat.add_assoc, up2_bl q1, bl_0]
    have c9 : up2 (up2 (up2 σ (10 + 5 * g) 6 5) (10 + 5 * g) 7 0) (10 + 5 * g) 9 0 0 9 = σ 0 9 := by
      rw [up2_n (by omega), up2_n (by omega), up2_n (by omega)]
    rw [c9, d_add (EvOk_up (by omega) (EvOk_up (by omega) (EvOk_up (by omega) h.1.ev)))]
  · unfold w_X10_goOut
    rw [s_putGate_4 hg8, s_putGate_5 hg8, s_putGate_9 hg8, s_tell]
    rfl
  · rw [cAdd_o (by omega), up2_n (by omega), up2_n (by omega), up2_s]
  · rw [cAdd_o (by omega), up2_s]
  · intro f h1 h2 h3
    rw [cAdd_o (by omega), up2_n (by omega), up2_n (by omega), up2_n (by omega)]
  · intro q hq f
    rw [cAdd_o (by omega), up2_n (by omega), up2_n (by omega), up2_n (by omega)]
  · intro i h1 h2 h3 h4 h5
    have e7 : gm 7 = 9 := rfl
    have e5 : gm 5 = 5 := rfl
    have e4 : gm 4 = 4 := rfl
    rw [rTell_o (by omega) (by omega), pk_un (by omega), pk_un (by omega), pk_un (by omega)]
end GATE
