/-! what always holds, after each call -/
section JACTS
variable {r r' : Nat → Int32} {ng np nx nl g p x B B' : Nat}
theorem J_base (hJ : J B r ng np) (e0 : ∀ p, p < np → r' (120 + 7 * p + 0) = r (120 + 7 * p + 0)) (e1 : ∀ p, p < np → r' (120 + 7 * p + 1) = r (120 + 7 * p + 1)) (e3 : ∀ p, p < np → r (120 + 7 * p + 0) ≠ 1 → r (120 + 7 * p + 0) ≠ 4 → r' (120 + 7 * p + 3) = r (120 + 7 * p + 3)) (e4 : ∀ p, p < np → r' (120 + 7 * p + 4) = r (120 + 7 * p + 4)) (eg : ∀ g f, g < ng → 1 ≤ f → f ≤ 12 → r' (8 + 14 * g + f) = r (8 + 14 * g + f)) (ex : ∀ x, x < 12 → r (400 + 2 * x) = 0 → r' (400 + 2 * x) = 0) : (∀ p, p < np → PersonOk r' ng p) ∧ (∀ g, g < ng → GateOk r' g) ∧ sumR r' ng = nI (cnt (w0B r') np) ∧ cnt (iB r') np = cnt (iB r) np := by
  obtain ⟨j1, j2, j3, -⟩ := hJ
  refine ⟨fun p hp => ?_, fun g hg => (j2 g hg).keep (fun f f1 f2 => eg g f hg f1 (by omega)), ?_, cnt_congr (fun q hq => iB_keep (e0 q hq))⟩
  · obtain ⟨w, h1, h2, h3, h4, h5, h6, h7⟩ := j1 p hp
    have k3 : w ≠ 1 → w ≠ 4 → r' (120 + 7 * p + 3) = r (120 + 7 * p + 3) := fun a b => e3 p hp (fun e => a (nI_inj (b := 1) (by omega) (by omega) (h2.symm.trans e))) (fun e => b (nI_inj (b := 4) (by omega) (by omega) (h2.symm.trans e)))
    refine ⟨w, h1, (e0 p hp).trans h2, fun a => ?_, fun a => (e4 p hp).trans (h4 a), fun a => (k3 (by omega) (by omega)).trans (h5 a), fun a => ?_, fun a => ?_⟩
    · obtain ⟨y, y1, y2, y3⟩ := h3 a
      exact ⟨y, y1, y2, (e4 p hp).trans y3⟩
    · obtain ⟨g, g1, g2, g3⟩ := h6 a
      exact ⟨g, g1, (k3 (by omega) (by omega)).trans g2, (eg g 6 g1 (by decide) (by decide)).trans g3⟩
    · obtain ⟨x, x1, x2, x3⟩ := h7 a
      exact ⟨x, x1, (e1 p hp).trans x2, ex x x1 x3⟩
  · rw [sumR_same (fun g hg => eg g 12 hg (by decide) (by decide)), j3]
    congr 1
    exact cnt_congr (fun q hq => by unfold w0B; rw [e0 q hq])
theorem J.up (hJ : J B r ng np) (hB : B ≤ B') : J B' r ng np := by
  obtain ⟨j1, j2, j3, ⟨c, lim, ⟨l0, l1⟩, l2, l3, l4, l5, l6⟩, j5⟩ := hJ
  exact ⟨j1, j2, j3, ⟨c, lim, ⟨l0, by omega⟩, l2, l3, l4, l5, l6⟩, j5⟩
/-- nothing that matters changes, but perhaps the credit and the fare -/
theorem J_same (hJ : J B r ng np) (e0 : ∀ p, p < np → r' (120 + 7 * p + 0) = r (120 + 7 * p + 0)) (e1 : ∀ p, p < np → r' (120 + 7 * p + 1) = r (120 + 7 * p + 1)) (e3 : ∀ p, p < np → r (120 + 7 * p + 0) ≠ 1 → r (120 + 7 * p + 0) ≠ 4 → r' (120 + 7 * p + 3) = r (120 + 7 * p + 3)) (e4 : ∀ p, p < np → r' (120 + 7 * p + 4) = r (120 + 7 * p + 4)) (eg : ∀ g f, g < ng → 1 ≤ f → f ≤ 12 → r' (8 + 14 * g + f) = r (8 + 14 * g + f)) (ex : ∀ x, x < 12 → r (400 + 2 * x) = 0 → r' (400 + 2 * x) = 0) (e5 : r' 425 = r 425) (ec : r' 424 = r 424 ∨ ∃ c, (c ≤ 1000000 ∧ c ≤ B) ∧ r' 424 = nI c) (ef : r' 6 = r 6 ∨ ∃ f, f ≤ 1000 ∧ r' 6 = nI f) : J B r' ng np := by
  obtain ⟨k1, k2, k3, k4⟩ := J_base hJ e0 e1 e3 e4 eg ex
  obtain ⟨-, -, -, ⟨c, lim, l1, l2, l3, l4, l5, l6⟩, ⟨f, f1, f2⟩⟩ := hJ
  refine ⟨k1, k2, k3, ?_, ?_⟩
  · rcases ec with e | ⟨c', c1, c2⟩
    · exact ⟨c, lim, l1, e.trans l2, l3, l4, e5.trans l5, by rw [k4]; exact l6⟩
    · exact ⟨c', lim, c1, c2, l3, l4, e5.trans l5, by rw [k4]; exact l6⟩
  · rcases ef with e | ⟨f', g1, g2⟩
    · exact ⟨f, f1, e.trans f2⟩
    · exact ⟨f', g1, g2⟩
theorem J_credit {c : Nat} (hJ : J B r ng np) (h8 : ng ≤ 8) (h40 : np ≤ 40) (hB : B ≤ B') (h1 : c ≤ 1000000) (h2 : c ≤ B') : J B' (upd r 424 (nI c)) ng np := J_same (hJ.up hB) (fun p hp => pk_un (by omega)) (fun p hp => pk_un (by omega)) (fun p hp _ _ => pk_un (by omega)) (fun p hp => pk_un (by omega)) (fun g f hg _ _ => pk_un (by omega)) (fun x hx e => by rw [pk_un (by omega)]; exact e) (pk_un (by omega)) (Or.inr ⟨c, ⟨h1, h2⟩, pk_us⟩) (Or.inl (pk_un (by omega)))
theorem J_fare {k : Nat} (hJ : J B r ng np) (h8 : ng ≤ 8) (h40 : np ≤ 40) (hk : k ≤ 1000) : J B (upd r 6 (nI k)) ng np := J_same hJ (fun p hp => pk_un (by omega)) (fun p hp => pk_un (by omega)) (fun p hp _ _ => pk_un (by omega)) (fun p hp => pk_un (by omega)) (fun g f hg _ _ => pk_un (by omega)) (fun x hx e => by rw [pk_un (by omega)]; exact e) (pk_un (by omega)) (Or.inl (pk_un (by omega))) (Or.inr ⟨k, hk, pk_us⟩)
theorem J_dir {v : Int32} (hJ : J B r ng np) (h8 : ng ≤ 8) (h40 : np ≤ 40) (hg : g < ng) : J B (upd r (8 + 14 * g + 0) v) ng np := J_same hJ (fun p hp => pk_un (by omega)) (fun p hp => pk_un (by omega)) (fun p hp _ _ => pk_un (by omega)) (fun p hp => pk_un (by omega)) (fun g' f hg' _ _ => pk_un (by omega)) (fun x hx e => by rw [pk_un (by omega)]; exact e) (pk_un (by omega)) (Or.inl (pk_un (by omega))) (Or.inl (pk_un (by omega)))
theorem J_block {b : Int32} (hJ : J B r ng np) (h8 : ng ≤ 8) (h40 : np ≤ 40) (hx : x < 12) : J B (upd r (400 + 2 * x + 1) b) ng np := J_same hJ (fun p hp => pk_un (by omega)) (fun p hp => pk_un (by omega)) (fun p hp _ _ => pk_un (by omega)) (fun p hp => pk_un (by omega)) (fun g' f hg' _ _ => pk_un (by omega)) (fun y hy e => by rw [pk_un (by omega)]; exact e) (pk_un (by omega)) (Or.inl (pk_un (by omega))) (Or.inl (pk_un (by omega)))
theorem J_pass (hJ : J B r ng np) (h8 : ng ≤ 8) (h40 : np ≤ 40) (hx : nx < 12) : J B (upd (upd (upd r (400 + 2 * nx) (nI 0)) (400 + 2 * nx + 1) 0) 3 (nI (nx + 1))) ng np := by
  have o : ∀ i, i ≠ 3 → i ≠ 400 + 2 * nx → i ≠ 400 + 2 * nx + 1 → (upd (upd (upd r (400 + 2 * nx) (nI 0)) (400 + 2 * nx + 1) 0) 3 (nI (nx + 1))) i = r i := fun i h1 h2 h3 => by rw [pk_un h1, pk_un h3, pk_un h2]
  refine J_same hJ (fun p hp => o _ (by omega) (by omega) (by omega)) (fun p hp => o _ (by omega) (by omega) (by omega)) (fun p hp _ _ => o _ (by omega) (by omega) (by omega)) (fun p hp => o _ (by omega) (by omega) (by omega)) (fun g' f hg' _ _ => o _ (by omega) (by omega) (by omega)) (fun y hy e => ?_) (o _ (by omega) (by omega) (by omega)) (Or.inl (o _ (by omega) (by omega) (by omega))) (Or.inl (o _ (by omega) (by omega) (by omega)))
  by_cases hyx : y = nx
  · rw [hyx, pk_un (by omega), pk_un (by omega), pk_us]
    rfl
  · rw [o _ (by omega) (by omega) (by omega)]
    exact e
theorem PersonOk.more {ng' : Nat} (h : PersonOk r ng p) (hn : ng ≤ ng') : PersonOk r ng' p := by
  obtain ⟨w, h1, h2, h3, h4, h5, h6, h7⟩ := h
  refine ⟨w, h1, h2, h3, h4, h5, fun a => ?_, h7⟩
  obtain ⟨g, g1, g2⟩ := h6 a
  exact ⟨g, by omega, g2⟩
theorem J_gateR {a b c d : Int32} {op ho cl : Nat} (hJ : J B r ng np) (h8 : ng < 8) (h40 : np ≤ 40) (eb : b = nI op ∧ 1 ≤ op ∧ op ≤ 10) (ec : c = nI ho ∧ 1 ≤ ho ∧ ho ≤ 20) (ed : d = nI cl ∧ 1 ≤ cl ∧ cl ≤ 10) : J B (gateR ng a b c d r) (ng + 1) np := by
  obtain ⟨k1, k2, k3, k4⟩ := J_base (r' := gateR ng a b c d r) hJ (fun p hp => gateR_o (by omega) (by omega)) (fun p hp => gateR_o (by omega) (by omega)) (fun p hp _ _ => gateR_o (by omega) (by omega)) (fun p hp => gateR_o (by omega) (by omega)) (fun g f hg f1 f2 => gateR_o (by omega) (by omega)) (fun x hx e => by rw [gateR_o (by omega) (by omega)]; exact e)
  obtain ⟨-, -, -, ⟨c', lim, l1, l2, l3, l4, l5, l6⟩, ⟨f, f1, f2⟩⟩ := hJ
  refine ⟨fun p hp => (k1 p hp).more (by omega), fun g hg => ?_, ?_, ⟨c', lim, l1, by rw [gateR_o (by omega) (by omega)]; exact l2, l3, l4, by rw [gateR_o (by omega) (by omega)]; exact l5, by rw [k4]; exact l6⟩, ⟨f, f1, by rw [gateR_o (by omega) (by omega)]; exact f2⟩⟩
  · by_cases hgn : g = ng
    · rw [hgn]
      refine ⟨0, 0, op, ho, cl, by decide, gateR_z (by decide) (by decide) (by decide), gateR_z (by decide) (by decide) (by decide), ⟨gateR_1.trans eb.1, eb.2⟩, ⟨gateR_2.trans ec.1, ec.2⟩, ⟨gateR_3.trans ed.1, ed.2⟩, fun _ => ⟨rfl, gateR_6⟩, fun h => absurd rfl h.1, fun h => absurd h (by decide), fun h => absurd h (by decide)⟩
    · exact k2 g (by omega)
  · unfold sumR
    rw [k3, gateR_z (by decide) (by decide) (by decide), Int32.add_zero]
theorem J_enter {z s : Int32} (hJ : J B r ng np) (h8 : ng ≤ 8) (h40 : np < 40) : J B (enterR g np z s r) ng (np + 1) := by
  obtain ⟨k1, k2, k3, k4⟩ := J_base (r' := enterR g np z s r) hJ (fun p hp => enterR_o (by omega) (by omega) (by omega)) (fun p hp => enterR_o (by omega) (by omega) (by omega)) (fun p hp _ _ => enterR_o (by omega) (by omega) (by omega)) (fun p hp => enterR_o (by omega) (by omega) (by omega)) (fun g f hg f1 f2 => enterR_o (by omega) (by omega) (by omega)) (fun x hx e => by rw [enterR_o (by omega) (by omega) (by omega)]; exact e)
  obtain ⟨-, -, -, ⟨c', lim, l1, l2, l3, l4, l5, l6⟩, ⟨f, f1, f2⟩⟩ := hJ
  have w0 : enterR g np z s r (120 + 7 * np + 0) = nI 1 := enterR_0
  have c0 : cnt (w0B (enterR g np z s r)) (np + 1) = cnt (w0B (enterR g np z s r)) np := by
    show _ + (if w0B (enterR g np z s r) np = true then 1 else 0) = _
    rw [w0B_ne (by decide) (by decide) w0, if_neg (by decide), Nat.add_zero]
  have c1 : cnt (iB (enterR g np z s r)) (np + 1) = cnt (iB (enterR g np z s r)) np := by
    show _ + (if iB (enterR g np z s r) np = true then 1 else 0) = _
    rw [iB_of (by decide) w0, if_neg (by decide), Nat.add_zero]
  refine ⟨fun p hp => ?_, k2, by rw [k3, c0], ⟨c', lim, l1, by rw [enterR_o (by omega) (by omega) (by omega)]; exact l2, l3, l4, by rw [enterR_o (by omega) (by omega) (by omega)]; exact l5, by rw [c1, k4]; exact l6⟩, ⟨f, f1, by rw [enterR_o (by omega) (by omega) (by omega)]; exact f2⟩⟩
  by_cases hpn : p = np
  · rw [hpn]
    exact ⟨1, by decide, w0, fun h => absurd h (by decide), fun _ => enterR_4, fun h => absurd h (by decide), fun h => absurd h (by decide), fun h => absurd h (by decide)⟩
  · exact k1 p (by omega)
theorem exitR_o {i : Nat} (h7 : i ≠ 7) (h : ¬ (i = 120 + 7 * p + 0 ∨ i = 120 + 7 * p + 3 ∨ i = 120 + 7 * p + 5 ∨ i = 120 + 7 * p + 6)) : exitR g p r i = r i := by
  unfold exitR
  rw [pk_un h7, pk_un (by omega), pk_un (by omega), pk_un (by omega), pk_un (by omega)]
theorem exitR_0 : exitR g p r (120 + 7 * p + 0) = 4 := by
  unfold exitR
  rw [pk_un (by omega), pk_un (by omega), pk_un (by omega), pk_us]
theorem J_exit (hJ : J B r ng np) (h8 : ng ≤ 8) (h40 : np ≤ 40) (hp : p < np) (e3 : r (120 + 7 * p + 0) = nI 3) : J B (exitR g p r) ng np := by
  have w0 : exitR g p r (120 + 7 * p + 0) = nI 4 := exitR_0
  obtain ⟨j1, j2, j3, ⟨c', lim, l1, l2, l3, l4, l5, l6⟩, ⟨f, f1, f2⟩⟩ := hJ
  have oq : ∀ q f, q ≠ p → f < 7 → exitR g p r (120 + 7 * q + f) = r (120 + 7 * q + f) := fun q f hq hf => exitR_o (by omega) (by omega)
  have kw : ∀ q, q < np → w0B (exitR g p r) q = w0B r q := fun q hq => by
    by_cases e : q = p
    · rw [e, w0B_ne (by decide) (by decide) w0, w0B_ne (by decide) (by decide) e3]
    · unfold w0B
      rw [oq q 0 e (by decide)]
  have ki : ∀ q, q < np → iB (exitR g p r) q = iB r q := fun q hq => by
    by_cases e : q = p
    · rw [e, iB_of (by decide) w0, iB_of (by decide) e3]
      rfl
    · exact iB_keep (oq q 0 e (by decide))
  refine ⟨fun q hq => ?_, fun g' hg' => (j2 g' hg').keep (fun f f1 f2 => exitR_o (by omega) (by omega)), ?_, ⟨c', lim, l1, by rw [exitR_o (by omega) (by omega)]; exact l2, l3, l4, by rw [exitR_o (by omega) (by omega)]; exact l5, by rw [cnt_congr ki]; exact l6⟩, ⟨f, f1, by rw [exitR_o (by omega) (by omega)]; exact f2⟩⟩
  · by_cases e : q = p
    · rw [e]
      obtain ⟨-, q2, -, -, q5⟩ := wOf (j1 p hp) (by decide) e3
      obtain ⟨x, x1, x2, x3⟩ := q5 (by decide)
      exact ⟨4, by decide, w0, fun h => absurd h (by decide), fun _ => by rw [exitR_o (by omega) (by omega)]; exact q2 (by decide), fun h => absurd h (by decide), fun h => absurd h (by decide), fun _ => ⟨x, x1, by rw [exitR_o (by omega) (by omega)]; exact x2, by rw [exitR_o (by omega) (by omega)]; exact x3⟩⟩
    · exact (j1 q hq).keep (oq q 0 e (by decide)) (oq q 1 e (by decide)) (oq q 3 e (by decide)) (oq q 4 e (by decide)) (fun x hx => exitR_o (by omega) (by omega)) (fun _ g' hg' _ h6 => by rw [exitR_o (by omega) (by omega)]; exact h6)
  · rw [sumR_same (fun g' hg' => exitR_o (by omega) (by omega)), j3]
    congr 1
    exact cnt_congr (fun q hq => (kw q hq).symm)
theorem J_pinch (hJ : J B r ng np) (h8 : ng ≤ 8) (h40 : np ≤ 40) (hg : g < ng) (h5 : r (8 + 14 * g + 4) ≠ 5) : J B (upd r (8 + 14 * g + 9) 1) ng np := by
  refine J_gate hJ h8 h40 hg (fun i hi h436 hne => pk_un (by omega)) ?_ (pk_un (by omega)) (pk_un (by omega))
  obtain ⟨st, lf, op, ho, cl, s1, s2, s3, s4, s5, s6, s7, s8, s9, s10⟩ := hJ.2.1 g hg
  exact ⟨st, lf, op, ho, cl, s1, (pk_un (by omega)).trans s2, (pk_un (by omega)).trans s3, ⟨(pk_un (by omega)).trans s4.1, s4.2⟩, ⟨(pk_un (by omega)).trans s5.1, s5.2⟩, ⟨(pk_un (by omega)).trans s6.1, s6.2⟩, fun h => ⟨(s7 h).1, (pk_un (by omega)).trans (s7 h).2⟩, s8, s9, fun h => absurd (s2.trans (by rw [h]; rfl)) h5⟩
theorem J_brk0 (hJ : J B r ng np) (h8 : ng ≤ 8) (h40 : np ≤ 40) (hg : g < ng) (h6 : r (8 + 14 * g + 6) = -5) : J B (F_brk g r) ng np := by
  refine J_gate hJ h8 h40 hg (fun i hi h436 hne => F_brk_o (by omega)) ?_ (F_brk_o (by omega)) (F_brk_o (by omega))
  obtain ⟨st, lf, op, ho, cl, s1, s2, s3, s4, s5, s6, s7, s8, s9, s10⟩ := hJ.2.1 g hg
  exact ⟨5, 0, op, ho, cl, by decide, F_brk_0 (p := 0) (by omega) (by decide), F_brk_1 (p := 0) (by omega) (by decide), ⟨(F_brk_o (by omega)).trans s4.1, s4.2⟩, ⟨(F_brk_o (by omega)).trans s5.1, s5.2⟩, ⟨(F_brk_o (by omega)).trans s6.1, s6.2⟩, fun h => ⟨rfl, (F_brk_o (by omega)).trans h6⟩, fun h => absurd rfl h.2, fun h => absurd h (by decide), fun h => F_brk_2 (p := 0) (by omega) (by decide)⟩
theorem J_brkp {b : Int32} (hJ : J B r ng np) (h8 : ng ≤ 8) (h40 : np ≤ 40) (hg : g < ng) (hp : p < np) (hb : b = 1 ∨ b = 0) (w2 : r (120 + 7 * p + 0) = 2) (h6 : r (8 + 14 * g + 6) = nI p) : J B (F_let g p b (F_brk g r)) ng np := J_let hJ h8 h40 hg hp hb w2 h6 (fun i hi h436 hne => F_brk_o (by omega)) (F_brk_o (by omega)) (F_brk_o (by omega)) (F_brk_o (by omega)) (F_brk_o (by omega)) (F_brk_1 (p := p) (by omega) (by omega)) (Or.inr ⟨F_brk_0 (p := p) (by omega) (by omega), F_brk_2 (p := p) (by omega) (by omega)⟩)
theorem J_repair (hJ : J B r ng np) (h8 : ng ≤ 8) (h40 : np ≤ 40) (hg : g < ng) (h5 : r (8 + 14 * g + 4) = nI 5) : J B (repR g r) ng np := by
  refine J_gate hJ h8 h40 hg (fun i hi h436 hne => repR_o (by omega)) ?_ (repR_o (by omega)) (repR_o (by omega))
  obtain ⟨lf, op, ho, cl, s3, s4, s5, s6, s7, s8, s9, s10⟩ := stOf (hJ.2.1 g hg) (by decide) h5
  obtain ⟨q1, q2, q3⟩ := repR_4 (r := r) (show g < 8 by omega)
  exact ⟨0, 0, op, ho, cl, by decide, q1, q2, ⟨(repR_o (by omega)).trans s4.1, s4.2⟩, ⟨(repR_o (by omega)).trans s5.1, s5.2⟩, ⟨(repR_o (by omega)).trans s6.1, s6.2⟩, fun h => ⟨rfl, (repR_o (by omega)).trans (s7 (Or.inr rfl)).2⟩, fun h => absurd rfl h.1, fun h => absurd h (by decide), fun h => absurd h (by decide)⟩
end JACTS
