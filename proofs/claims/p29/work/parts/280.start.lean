set_option maxHeartbeats 4000000 in
set_option maxRecDepth 100000 in
theorem whole_start {p : Program} {e : Env} {s : State} {m : MethodId} {below : List Frame} {meth : Method} {c : Code} (l : Launch) (hflags : l.flags = flags0) {b L : Nat} {xs : Nat → Int32} (hL : L ≤ 260) (C0 : lw_At p s m meth c b L xs) : W p l e room_1 s m #[Value.ref b] below meth c s.heap [] 0 0 (lw_Z below #[Value.ref b] s) (entryFrame m ([Value.ref b] : List Value).toArray 15) := by
  obtain ⟨hx, hb, hr, hml, hown, hts, hX, hbl, hlocks, hgv⟩ := id C0
  have htl : ∀ w ∈ wsL_law, w.before #[Value.ref b] s = true := fun w h => hts w (wsL_law_in w h)
  obtain ⟨c0, i0, k0⟩ := u_known (C := RX0) (T := TX0) (N := 6) (n := 6) hts inX0 (htl (.instantiable RX0 6) (List.mem_of_getElem? (i := 35) (by decide +kernel)))
  obtain ⟨c1, i1, k1⟩ := u_known (C := RX1) (T := TX1) (N := 15) (n := 15) hts inX1 (htl (.instantiable RX1 15) (List.mem_of_getElem? (i := 39) (by decide +kernel)))
  obtain ⟨c2, i2, k2⟩ := u_known (C := RX2) (T := TX2) (N := 3) (n := 3) hts inX2 (htl (.instantiable RX2 3) (List.mem_of_getElem? (i := 15) (by decide +kernel)))
  obtain ⟨c3, i3, k3⟩ := u_known (C := RX3) (T := TX3) (N := 7) (n := 7) hts inX3 (htl (.instantiable RX3 7) (List.mem_of_getElem? (i := 19) (by decide +kernel)))
  obtain ⟨c4, i4, k4⟩ := u_known (C := RX4) (T := TX4) (N := 3) (n := 3) hts inX4 (htl (.instantiable RX4 3) (List.mem_of_getElem? (i := 45) (by decide +kernel)))
  obtain ⟨c5, i5, k5⟩ := u_known (C := RX5) (T := TX5) (N := 7) (n := 7) hts inX5 (htl (.instantiable RX5 7) (List.mem_of_getElem? (i := 41) (by decide +kernel)))
  obtain ⟨c6, i6, k6⟩ := u_known (C := RX6) (T := TX6) (N := 5) (n := 5) hts inX6 (htl (.instantiable RX6 5) (List.mem_of_getElem? (i := 43) (by decide +kernel)))
  obtain ⟨c7, i7, k7⟩ := u_known (C := RX7) (T := TX7) (N := 2) (n := 2) hts inX7 (htl (.instantiable RX7 2) (List.mem_of_getElem? (i := 59) (by decide +kernel)))
  obtain ⟨c8, i8, k8⟩ := u_known (C := RX8) (T := TX8) (N := 11) (n := 11) hts inX8 (htl (.instantiable RX8 11) (List.mem_of_getElem? (i := 10) (by decide +kernel)))
  obtain ⟨c9, i9, k9⟩ := u_known (C := RX9) (T := TX9) (N := 4) (n := 4) hts inX9 (htl (.instantiable RX9 4) (List.mem_of_getElem? (i := 1) (by decide +kernel)))
  obtain ⟨D, hKc⟩ : ∃ D : va_G, ∀ (k : Nat) (q : vw_C), vwCl[k]? = some q → u_Kn s q.1 q.2.1 q.2.2 (D.1 k) (D.2 k) := by
    refine ⟨(fun k => match k with | 0 => c0 | 1 => c1 | 2 => c2 | 3 => c3 | 4 => c4 | 5 => c5 | 6 => c6 | 7 => c7 | 8 => c8 | _ => c9, fun k => match k with | 0 => i0 | 1 => i1 | 2 => i2 | 3 => i3 | 4 => i4 | 5 => i5 | 6 => i6 | 7 => i7 | 8 => i8 | _ => i9), ?_⟩
    intro k q hq
    match k, hq with
    | 0, hq => cases hq; exact k0
    | 1, hq => cases hq; exact k1
    | 2, hq => cases hq; exact k2
    | 3, hq => cases hq; exact k3
    | 4, hq => cases hq; exact k4
    | 5, hq => cases hq; exact k5
    | 6, hq => cases hq; exact k6
    | 7, hq => cases hq; exact k7
    | 8, hq => cases hq; exact k8
    | 9, hq => cases hq; exact k9
    | k + 10, hq => simp [vwCl] at hq
  obtain ⟨d0, q0, y0, f0, g0, j0⟩ := Cond.arrayClass_spec (htl (.arrayClass .int) (List.mem_of_getElem? (i := 50) (by decide +kernel)))
  obtain ⟨d1, q1, y1, f1, g1, j1⟩ := Cond.arrayClass_spec (htl (.arrayClass .char) (List.mem_of_getElem? (i := 88) (by decide +kernel)))
  have ho0 := hts (.arrayOver (.object "TurnstileBank$Gate")) (List.mem_of_getElem? (i := 30) (by decide +kernel))
  obtain ⟨y2, d2, q2, m2, x2, g2, j2, f2⟩ := Cond.arrayOver_spec ho0
  have ho1 := hts (.arrayOver (.object "TurnstileBank$Person")) (List.mem_of_getElem? (i := 32) (by decide +kernel))
  obtain ⟨y3, d3, q3, m3, x3, g3, j3, f3⟩ := Cond.arrayOver_spec ho1
  have ho2 := hts (.arrayOver (.object "TurnstileBank$Pool")) (List.mem_of_getElem? (i := 34) (by decide +kernel))
  obtain ⟨y4, d4, q4, m4, x4, g4, j4, f4⟩ := Cond.arrayOver_spec ho2
  have ho3 := hts (.arrayOver (.object "TurnstileBank$Pass")) (List.mem_of_getElem? (i := 36) (by decide +kernel))
  obtain ⟨y5, d5, q5, m5, x5, g5, j5, f5⟩ := Cond.arrayOver_spec ho3
  have ho4 := hts (.arrayOver (.object "TurnstileBank$State")) (List.mem_of_getElem? (i := 293) (by decide +kernel))
  obtain ⟨y6, d6, q6, m6, x6, g6, j6, f6⟩ := Cond.arrayOver_spec ho4
  obtain ⟨cA, hcA⟩ : ∃ cA : Nat → ClassId, cA = fun k => match k with | 0 => d0 | 1 => d1 | 2 => d2 | 3 => d3 | 4 => d4 | 5 => d5 | _ => d6 := ⟨_, rfl⟩
  have hK : va_K D vwCl (tysL cA) s := by
    refine ⟨hKc, fun k q hq => ?_⟩
    subst hcA
    match k, hq with
    | 0, hq => cases hq; exact ⟨fun N z => ⟨(fun k h => by cases h), q0, g0, y0, j0⟩, f0⟩
    | 1, hq => cases hq; exact ⟨fun N z => ⟨(fun k h => by cases h), q1, g1, y1, j1⟩, f1⟩
    | 2, hq => cases hq; exact ⟨fun N z => ⟨(fun k h => by cases h), q2, g2, y2, j2⟩, q2, y2, g2, j2, m2, f2⟩
    | 3, hq => cases hq; exact ⟨fun N z => ⟨(fun k h => by cases h), q3, g3, y3, j3⟩, q3, y3, g3, j3, m3, f3⟩
    | 4, hq => cases hq; exact ⟨fun N z => ⟨(fun k h => by cases h), q4, g4, y4, j4⟩, q4, y4, g4, j4, m4, f4⟩
    | 5, hq => cases hq; exact ⟨fun N z => ⟨(fun k h => by cases h), q5, g5, y5, j5⟩, q5, y5, g5, j5, m5, f5⟩
    | 6, hq => cases hq; exact ⟨fun N z => ⟨(fun k h => by cases h), q6, g6, y6, j6⟩, q6, y6, g6, j6, m6, f6⟩
    | k + 7, hq => simp [tysL] at hq
  have hN : NwA s := by
    intro k q hq
    match k, hq with
    | 0, hq => cases hq; exact va_Nw.of rfl (hts _ (List.mem_of_getElem? (i := 407) (by decide +kernel)))
    | 1, hq => cases hq; exact va_Nw.of rfl (hts _ (List.mem_of_getElem? (i := 39) (by decide +kernel)))
    | 2, hq => cases hq; exact va_Nw.of rfl (hts _ (List.mem_of_getElem? (i := 64) (by decide +kernel)))
    | 3, hq => cases hq; exact va_Nw.of rfl (hts _ (List.mem_of_getElem? (i := 70) (by decide +kernel)))
    | 4, hq => cases hq; exact va_Nw.of rfl (hts _ (List.mem_of_getElem? (i := 157) (by decide +kernel)))
    | 5, hq => cases hq; exact va_Nw.of rfl (hts _ (List.mem_of_getElem? (i := 196) (by decide +kernel)))
    | 6, hq => cases hq; exact va_Nw.of rfl (hts _ (List.mem_of_getElem? (i := 227) (by decide +kernel)))
    | 7, hq => cases hq; exact va_Nw.of rfl (hts _ (List.mem_of_getElem? (i := 308) (by decide +kernel)))
    | k + 8, hq => simp [nws] at hq
  have hAO : AOs s := by
    intro k q hq
    match k, hq with
    | 0, hq => cases hq; exact va_AO.of ho0
    | 1, hq => cases hq; exact va_AO.of ho1
    | 2, hq => cases hq; exact va_AO.of ho2
    | 3, hq => cases hq; exact va_AO.of ho3
    | 4, hq => cases hq; exact va_AO.of ho4
    | k + 5, hq => simp [aos] at hq
  have C : Cx p m meth c s #[Value.ref b] cL_law 15 wsL_law RL ret D (tysL cA) := ⟨⟨hx, hb, hml, hown, htl⟩, hr, hlocks, hK, hN⟩
  have hl := lv_entry ([.ref b]) (n := 15) (Nat.le_of_ble_eq_true rfl)
  rw [lg_entry_eq]
  generalize (lg_sl ([.ref b]) ++ List.replicate (15 - (lg_sl ([.ref b])).length) Slot.unset).toArray = ls at hl ⊢
  have hl : lv_has ls 15 [(0, .ref b)] := hl
  have P : HpM 0 s.heap.size D (fun _ => .inr (4, [])) s s.heap [] := ⟨fun k q hq => by simp [wl] at hq, rfl, va_S.rf⟩
  refine m_new C P (X := RX9) (T := TX9) (nn := 4) (ci := 9) inlX9 tyX9 tyX9_ok (List.mem_of_getElem? (i := 0) (by decide +kernel)) (List.mem_of_getElem? (i := 1) (by decide +kernel)) (List.mem_of_getElem? (i := 2) (by decide +kernel)) rfl (fs := [.null, .null, .null, .null]) dv_9 (Nat.le_of_ble_eq_true rfl) (Nat.le_of_ble_eq_true rfl) dL_law_0 (fun H P => ?_)
  refine lv_dup hx hb dL_law_3 rfl ?_
  refine m_call (va_runI (As := []) (rest := [.ref (s.heap.size + 0)]) C.1 (c_X9_init l D cA s.heap.size 0 _ kd_at_0 upE_s) (cwI 0 C.1.2.2.2.2 gL_law_X9_init rfl rfl rfl (htl (.initialized RX9) (List.mem_of_getElem? (i := 2) (by decide +kernel))) (htl (.methodLink RL 107 yX9_init) (List.mem_of_getElem? (i := 3) (by decide +kernel))) (htl (.instanceMethod yX9_init) (List.mem_of_getElem? (i := 4) (by decide +kernel))) rfl (by decide +kernel) ⟨Nat.le_of_ble_eq_true rfl, Nat.le_of_ble_eq_true rfl⟩) (m_pre C hAO P [.ref (s.heap.size + 0)]) rfl rfl hl.1 rfl (lv_room (Nat.le_of_ble_eq_true rfl)) dL_law_4 ⟨Nat.le_of_ble_eq_true rfl, Nat.le_of_ble_eq_true rfl⟩) P (fun H locs P => ?_)
  refine lv_astore_n (lv' := [(1, .ref (s.heap.size + 0)), (0, .ref b)]) hx hb dL_law_7 rfl hl (by decide) rfl (fun ls hl => ?_)
  have PW : HpW s.heap.size D cA mu0 s H locs := by
    refine ⟨fun k q hq => ?_, P.2.2⟩
    obtain ⟨hk, rfl⟩ := wl_inv hq
    have h := P.1 k _ (wl_get (by omega))
    rw [gl_hi (by omega)] at h
    exact h
  exact t_L_law_0 (D := D) (cA := cA) C hX hbl hL rfl mu0 _ _ ⟨Nat.le_of_ble_eq_true rfl, Nat.le_of_ble_eq_true rfl⟩ H locs ls PW hl (law_all (fun μ1 => rfl))
