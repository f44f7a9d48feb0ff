theorem lw_end {L i : Nat} (hL : L ≤ 2560) (hi : i ≤ 513) (h : ¬ (Int32.ofNat L - 5 < nI (5 * i))) : 5 * i + 5 ≤ L := by
  have e : (nI L - nI 5).toInt = (L : Int) - (5 : Nat) := pk_sub_toInt (by omega) (by omega)
  have e2 : (nI (5 * i)).toInt = ((5 * i : Nat) : Int) := nI_toInt (by omega)
  have h2 : ¬ ((nI L - nI 5).toInt < (nI (5 * i)).toInt) := fun q => h (Int32.lt_iff_toInt_lt.mpr q)
  rw [e, e2] at h2
  omega
set_option maxHeartbeats 4000000 in
set_option maxRecDepth 100000 in
theorem lw_loop {p : Program} {l : Launch} {e : Env} {s : State} {m : MethodId} {below : List Frame} {meth : Method} {c : Code} {D : va_G} {cA : Nat → ClassId} {b L : Nat} {xs : Nat → Int32} {S : Nat → Mm → Mm → Prop} {o : Nat} (C : Cx p m meth c s #[Value.ref b] cL_law 4 wsL_law RL ret D (tysL cA)) (hX : va_X b L xs s s.heap) (hbl : b < s.heap.size) (hbA : ¬ (fun q : Nat => o ≤ q) b) (hL : L ≤ 2560) (ops : Ops S) (hend : ∀ (H : Heap) (locs : List Loc) (ls : Array Slot), va_S (fun q => o ≤ q) s.heap H locs → W p l e room_1 s m #[Value.ref b] below meth c H locs 753 12448 (lw_Z below #[Value.ref b] s) (F0 m 930 ls [])) : ∀ (r i : Nat), i ≤ 513 → i + r = 513 → ∀ (μ ρ : Mm) (H : Heap) (locs : List Loc) (ls : Array Slot), S i μ ρ → HpL o D cA μ ρ s H locs → lv_has ls 4 [(0, .ref b), (1, .ref (o + 0)), (2, .ref (o + 747 + 0)), (3, .int (nI (5 * i)))] → W p l e room_1 s m #[Value.ref b] below meth c H locs 753 12448 (lw_Z below #[Value.ref b] s) (F0 m 18 ls []) := by
  intro r
  induction r with
  | zero =>
    intro i hi hir μ ρ H locs ls hS P hl
    have hx := C.1.1
    have hb := C.1.2.1
    refine lv_iload_n hx hb dL_law_18 rfl (lv_at hl 3 rfl) ?_
    refine lv_aload_n hx hb dL_law_19 rfl (lv_at hl 0 rfl) ?_
    refine va_slen (A := fun q => o ≤ q) hx hb hX hbl hbA P.2.2 dL_law_20 ?_
    refine lv_iconst (v := 5) hx hb dL_law_21 (by decide) ?_
    refine lv_isub hx hb dL_law_22 ?_
    refine lv_icmp_gt (tgt := 930) hx hb dL_law_23 (by decide) (fun c0 => ?_) (fun c0 => ?_)
    · exact hend H locs ls P.2.2
    · have h5 := lw_end hL hi c0
      omega
  | succ r ih =>
    intro i hi hir μ ρ H locs ls hS P hl
    have hx := C.1.1
    have hb := C.1.2.1
    refine lv_iload_n hx hb dL_law_18 rfl (lv_at hl 3 rfl) ?_
    refine lv_aload_n hx hb dL_law_19 rfl (lv_at hl 0 rfl) ?_
    refine va_slen (A := fun q => o ≤ q) hx hb hX hbl hbA P.2.2 dL_law_20 ?_
    refine lv_iconst (v := 5) hx hb dL_law_21 (by decide) ?_
    refine lv_isub hx hb dL_law_22 ?_
    refine lv_icmp_gt (tgt := 930) hx hb dL_law_23 (by decide) (fun c0 => ?_) (fun c0 => ?_)
    · exact hend H locs ls P.2.2
    · have h5 := lw_end hL hi c0
      have hn : i < 512 := by omega
      have hv : vp_in (nI (5 * i)) L := vp_in_nI (by omega) (by omega)
      have hkk : ∀ (μ ρ : Mm) (H : Heap) (locs : List Loc) (ls : Array Slot), S (i + 1) μ ρ → HpL o D cA μ ρ s H locs → lv_has ls 4 [(0, .ref b), (1, .ref (o + 0)), (2, .ref (o + 747 + 0)), (3, .int (nI (5 * i)))] → W p l e room_1 s m #[Value.ref b] below meth c H locs 753 12448 (lw_Z below #[Value.ref b] s) (F0 m 924 ls []) := by
        intro μ ρ H locs ls hS P hl
        refine lv_iinc (v := nI (5 * (i + 1))) (lv' := [(3, .int (nI (5 * (i + 1)))), (0, .ref b), (1, .ref (o + 0)), (2, .ref (o + 747 + 0))]) hx hb dL_law_924 hl (k := 3) rfl (by rw [show Int32.ofInt 5 = nI 5 from rfl, nI_add]; congr 1) (by decide) rfl (fun ls hl => ?_)
        refine lv_goto (tgt := 18) hx hb dL_law_927 (by decide) ?_
        exact ih (i + 1) (by omega) (by omega) μ ρ H locs ls hS P (lv_sub hl [1, 2, 3, 0] rfl)
      refine lv_aload_n hx hb dL_law_26 rfl (lv_at hl 0 rfl) ?_
      refine lv_iload_n hx hb dL_law_27 rfl (lv_at hl 3 rfl) ?_
      refine va_sld (A := fun q => o ≤ q) hx hb hX hbl hbA P.2.2 hv dL_law_28 ?_
      refine lv_bipush (v := 31) hx hb dL_law_29 (by decide) ?_
      refine lv_iand hx hb dL_law_31 ?_
      generalize xs (nI (5 * i)).toNatClampNeg &&& 31 = v
      by_cases c1 : v = 0
      · rw [c1]
        refine lv_tableIn (off := 120) (tgt := 152) hx hb dL_law_32 (by decide) (by decide) (by decide) (by decide) ?_
        exact lw_case_addGate C hX hbl hbA ops.1 hn h5 hL hS hkk H locs ls P hl
      by_cases c2 : v = 1
      · rw [c2]
        refine lv_tableIn (off := 173) (tgt := 205) hx hb dL_law_32 (by decide) (by decide) (by decide) (by decide) ?_
        exact lw_case_setDirection C hX hbl hbA ops.2.1 hn h5 hL hS hkk H locs ls P hl
      by_cases c3 : v = 2
      · rw [c3]
        refine lv_tableIn (off := 206) (tgt := 238) hx hb dL_law_32 (by decide) (by decide) (by decide) (by decide) ?_
        exact lw_case_addPool C hX hbl hbA ops.2.2.1 hn h5 hL hS hkk H locs ls P hl
      by_cases c4 : v = 3
      · rw [c4]
        refine lv_tableIn (off := 229) (tgt := 261) hx hb dL_law_32 (by decide) (by decide) (by decide) (by decide) ?_
        exact lw_case_credit C hX hbl hbA ops.2.2.2.1 hn h5 hL hS hkk H locs ls P hl
      by_cases c5 : v = 4
      · rw [c5]
        refine lv_tableIn (off := 262) (tgt := 294) hx hb dL_law_32 (by decide) (by decide) (by decide) (by decide) ?_
        exact lw_case_addPass C hX hbl hbA ops.2.2.2.2.1 hn h5 hL hS hkk H locs ls P hl
      by_cases c6 : v = 5
      · rw [c6]
        refine lv_tableIn (off := 285) (tgt := 317) hx hb dL_law_32 (by decide) (by decide) (by decide) (by decide) ?_
        exact lw_case_block C hX hbl hbA ops.2.2.2.2.2.1 hn h5 hL hS hkk H locs ls P hl
      by_cases c7 : v = 6
      · rw [c7]
        refine lv_tableIn (off := 334) (tgt := 366) hx hb dL_law_32 (by decide) (by decide) (by decide) (by decide) ?_
        exact lw_case_setFare C hX hbl hbA ops.2.2.2.2.2.2.1 hn h5 hL hS hkk H locs ls P hl
      by_cases c8 : v = 7
      · rw [c8]
        refine lv_tableIn (off := 357) (tgt := 389) hx hb dL_law_32 (by decide) (by decide) (by decide) (by decide) ?_
        exact lw_case_enter C hX hbl hbA ops.2.2.2.2.2.2.2.1 hn h5 hL hS hkk H locs ls P hl
      by_cases c9 : v = 8
      · rw [c9]
        refine lv_tableIn (off := 416) (tgt := 448) hx hb dL_law_32 (by decide) (by decide) (by decide) (by decide) ?_
        exact lw_case_exit C hX hbl hbA ops.2.2.2.2.2.2.2.2.1 hn h5 hL hS hkk H locs ls P hl
      by_cases c10 : v = 9
      · rw [c10]
        refine lv_tableIn (off := 449) (tgt := 481) hx hb dL_law_32 (by decide) (by decide) (by decide) (by decide) ?_
        exact lw_case_divert C hX hbl hbA ops.2.2.2.2.2.2.2.2.2.1 hn h5 hL hS hkk H locs ls P hl
      by_cases c11 : v = 10
      · rw [c11]
        refine lv_tableIn (off := 482) (tgt := 514) hx hb dL_law_32 (by decide) (by decide) (by decide) (by decide) ?_
        exact lw_case_pinch C hX hbl hbA ops.2.2.2.2.2.2.2.2.2.2.1 hn h5 hL hS hkk H locs ls P hl
      by_cases c12 : v = 11
      · rw [c12]
        refine lv_tableIn (off := 505) (tgt := 537) hx hb dL_law_32 (by decide) (by decide) (by decide) (by decide) ?_
        exact lw_case_fail C hX hbl hbA ops.2.2.2.2.2.2.2.2.2.2.2.1 hn h5 hL hS hkk H locs ls P hl
      by_cases c13 : v = 12
      · rw [c13]
        refine lv_tableIn (off := 528) (tgt := 560) hx hb dL_law_32 (by decide) (by decide) (by decide) (by decide) ?_
        exact lw_case_repair C hX hbl hbA ops.2.2.2.2.2.2.2.2.2.2.2.2.1 hn h5 hL hS hkk H locs ls P hl
      by_cases c14 : v = 13
      · rw [c14]
        refine lv_tableIn (off := 551) (tgt := 583) hx hb dL_law_32 (by decide) (by decide) (by decide) (by decide) ?_
        exact lw_case_pass C hX hbl hbA ops.2.2.2.2.2.2.2.2.2.2.2.2.2.1 hn h5 hL hS hkk H locs ls P hl
      by_cases c15 : v = 14
      · rw [c15]
        refine lv_tableIn (off := 574) (tgt := 606) hx hb dL_law_32 (by decide) (by decide) (by decide) (by decide) ?_
        exact lw_case_type C hX hbl hbA ops.2.2.2.2.2.2.2.2.2.2.2.2.2.2.1 hn h5 hL hS hkk H locs ls P hl
      by_cases c16 : v = 15
      · rw [c16]
        refine lv_tableIn (off := 599) (tgt := 631) hx hb dL_law_32 (by decide) (by decide) (by decide) (by decide) ?_
        exact lw_case_clearText C hX hbl hbA ops.2.2.2.2.2.2.2.2.2.2.2.2.2.2.2.1 hn h5 hL hS hkk H locs ls P hl
      by_cases c17 : v = 16
      · rw [c17]
        refine lv_tableIn (off := 612) (tgt := 644) hx hb dL_law_32 (by decide) (by decide) (by decide) (by decide) ?_
        exact lw_case_run C hX hbl hbA ops.2.2.2.2.2.2.2.2.2.2.2.2.2.2.2.2.1 hn h5 hL hS hkk H locs ls P hl
      by_cases c18 : v = 17
      · rw [c18]
        refine lv_tableIn (off := 625) (tgt := 657) hx hb dL_law_32 (by decide) (by decide) (by decide) (by decide) ?_
        exact lw_case_undo C hX hbl hbA ops.2.2.2.2.2.2.2.2.2.2.2.2.2.2.2.2.2.1 hn h5 hL hS hkk H locs ls P hl
      by_cases c19 : v = 18
      · rw [c19]
        refine lv_tableIn (off := 638) (tgt := 670) hx hb dL_law_32 (by decide) (by decide) (by decide) (by decide) ?_
        exact lw_case_gate C hX hbl hbA ops.2.2.2.2.2.2.2.2.2.2.2.2.2.2.2.2.2.2.1 hn h5 hL hS hkk H locs ls P hl
      by_cases c20 : v = 19
      · rw [c20]
        refine lv_tableIn (off := 671) (tgt := 703) hx hb dL_law_32 (by decide) (by decide) (by decide) (by decide) ?_
        exact lw_case_queued C hX hbl hbA ops.2.2.2.2.2.2.2.2.2.2.2.2.2.2.2.2.2.2.2.1 hn h5 hL hS hkk H locs ls P hl
      by_cases c21 : v = 20
      · rw [c21]
        refine lv_tableIn (off := 714) (tgt := 746) hx hb dL_law_32 (by decide) (by decide) (by decide) (by decide) ?_
        exact lw_case_person C hX hbl hbA ops.2.2.2.2.2.2.2.2.2.2.2.2.2.2.2.2.2.2.2.2.1 hn h5 hL hS hkk H locs ls P hl
      by_cases c22 : v = 21
      · rw [c22]
        refine lv_tableIn (off := 747) (tgt := 779) hx hb dL_law_32 (by decide) (by decide) (by decide) (by decide) ?_
        exact lw_case_pool C hX hbl hbA ops.2.2.2.2.2.2.2.2.2.2.2.2.2.2.2.2.2.2.2.2.2.1 hn h5 hL hS hkk H locs ls P hl
      by_cases c23 : v = 22
      · rw [c23]
        refine lv_tableIn (off := 780) (tgt := 812) hx hb dL_law_32 (by decide) (by decide) (by decide) (by decide) ?_
        exact lw_case_passOf C hX hbl hbA ops.2.2.2.2.2.2.2.2.2.2.2.2.2.2.2.2.2.2.2.2.2.2.1 hn h5 hL hS hkk H locs ls P hl
      by_cases c24 : v = 23
      · rw [c24]
        refine lv_tableIn (off := 813) (tgt := 845) hx hb dL_law_32 (by decide) (by decide) (by decide) (by decide) ?_
        exact lw_case_event C hX hbl hbA ops.2.2.2.2.2.2.2.2.2.2.2.2.2.2.2.2.2.2.2.2.2.2.2.1 hn h5 hL hS hkk H locs ls P hl
      by_cases c25 : v = 24
      · rw [c25]
        refine lv_tableIn (off := 846) (tgt := 878) hx hb dL_law_32 (by decide) (by decide) (by decide) (by decide) ?_
        exact lw_case_passesIn C hX hbl hbA ops.2.2.2.2.2.2.2.2.2.2.2.2.2.2.2.2.2.2.2.2.2.2.2.2.1 hn h5 hL hS hkk H locs ls P hl
      by_cases c26 : v = 25
      · rw [c26]
        refine lv_tableIn (off := 869) (tgt := 901) hx hb dL_law_32 (by decide) (by decide) (by decide) (by decide) ?_
        exact lw_case_count C hX hbl hbA ops.2.2.2.2.2.2.2.2.2.2.2.2.2.2.2.2.2.2.2.2.2.2.2.2.2.1 hn h5 hL hS hkk H locs ls P hl
      refine lv_tableOut (tgt := 924) hx hb dL_law_32 (by have q0 : v.toInt ≠ 0 := fun e => c1 (Int32.toInt_inj.mp e); have q1 : v.toInt ≠ 1 := fun e => c2 (Int32.toInt_inj.mp e); have q2 : v.toInt ≠ 2 := fun e => c3 (Int32.toInt_inj.mp e); have q3 : v.toInt ≠ 3 := fun e => c4 (Int32.toInt_inj.mp e); have q4 : v.toInt ≠ 4 := fun e => c5 (Int32.toInt_inj.mp e); have q5 : v.toInt ≠ 5 := fun e => c6 (Int32.toInt_inj.mp e); have q6 : v.toInt ≠ 6 := fun e => c7 (Int32.toInt_inj.mp e); have q7 : v.toInt ≠ 7 := fun e => c8 (Int32.toInt_inj.mp e); have q8 : v.toInt ≠ 8 := fun e => c9 (Int32.toInt_inj.mp e); have q9 : v.toInt ≠ 9 := fun e => c10 (Int32.toInt_inj.mp e); have q10 : v.toInt ≠ 10 := fun e => c11 (Int32.toInt_inj.mp e); have q11 : v.toInt ≠ 11 := fun e => c12 (Int32.toInt_inj.mp e); have q12 : v.toInt ≠ 12 := fun e => c13 (Int32.toInt_inj.mp e); have q13 : v.toInt ≠ 13 := fun e => c14 (Int32.toInt_inj.mp e); have q14 : v.toInt ≠ 14 := fun e => c15 (Int32.toInt_inj.mp e); have q15 : v.toInt ≠ 15 := fun e => c16 (Int32.toInt_inj.mp e); have q16 : v.toInt ≠ 16 := fun e => c17 (Int32.toInt_inj.mp e); have q17 : v.toInt ≠ 17 := fun e => c18 (Int32.toInt_inj.mp e); have q18 : v.toInt ≠ 18 := fun e => c19 (Int32.toInt_inj.mp e); have q19 : v.toInt ≠ 19 := fun e => c20 (Int32.toInt_inj.mp e); have q20 : v.toInt ≠ 20 := fun e => c21 (Int32.toInt_inj.mp e); have q21 : v.toInt ≠ 21 := fun e => c22 (Int32.toInt_inj.mp e); have q22 : v.toInt ≠ 22 := fun e => c23 (Int32.toInt_inj.mp e); have q23 : v.toInt ≠ 23 := fun e => c24 (Int32.toInt_inj.mp e); have q24 : v.toInt ≠ 24 := fun e => c25 (Int32.toInt_inj.mp e); have q25 : v.toInt ≠ 25 := fun e => c26 (Int32.toInt_inj.mp e); omega) (by decide) ?_
      exact hkk μ ρ H locs ls (ops.2.2.2.2.2.2.2.2.2.2.2.2.2.2.2.2.2.2.2.2.2.2.2.2.2.2 i μ ρ hn hS) P hl
set_option maxHeartbeats 8000000 in
set_option maxRecDepth 100000 in
theorem whole_startS {S : Nat → Mm → Mm → Prop} (ops : Ops S) (h00 : S 0 mu0 mu0M) {p : Program} {e : Env} {s : State} {m : MethodId} {below : List Frame} {meth : Method} {c : Code} (l : Launch) {b L : Nat} {xs : Nat → Int32} (hL : L ≤ 2560) (C0 : lw_At p s m meth c b L xs) : W p l e room_1 s m #[Value.ref b] below meth c s.heap [] 0 0 (lw_Z below #[Value.ref b] s) (entryFrame m ([Value.ref b] : List Value).toArray 4) := by
  obtain ⟨hx, hb, hr, hml, hown, hts, hX, hbl, hlocks, hgv⟩ := id C0
  have htl : ∀ w ∈ wsL_law, w.before #[Value.ref b] s = true := fun w h => hts w (wsL_law_in w h)
  obtain ⟨c0, i0, k0⟩ := u_known (C := RX0) (T := TX0) (N := 6) (n := 6) hts inX0 (htl (.instantiable RX0 6) (List.mem_of_getElem? (i := 38) (by decide +kernel)))
  obtain ⟨c1, i1, k1⟩ := u_known (C := RX1) (T := TX1) (N := 15) (n := 15) hts inX1 (htl (.instantiable RX1 15) (List.mem_of_getElem? (i := 42) (by decide +kernel)))
  obtain ⟨c2, i2, k2⟩ := u_known (C := RX2) (T := TX2) (N := 3) (n := 3) hts inX2 (htl (.instantiable RX2 3) (List.mem_of_getElem? (i := 18) (by decide +kernel)))
  obtain ⟨c3, i3, k3⟩ := u_known (C := RX3) (T := TX3) (N := 7) (n := 7) hts inX3 (htl (.instantiable RX3 7) (List.mem_of_getElem? (i := 22) (by decide +kernel)))
  obtain ⟨c4, i4, k4⟩ := u_known (C := RX4) (T := TX4) (N := 3) (n := 3) hts inX4 (htl (.instantiable RX4 3) (List.mem_of_getElem? (i := 48) (by decide +kernel)))
  obtain ⟨c5, i5, k5⟩ := u_known (C := RX5) (T := TX5) (N := 7) (n := 7) hts inX5 (htl (.instantiable RX5 7) (List.mem_of_getElem? (i := 44) (by decide +kernel)))
  obtain ⟨c6, i6, k6⟩ := u_known (C := RX6) (T := TX6) (N := 5) (n := 5) hts inX6 (htl (.instantiable RX6 5) (List.mem_of_getElem? (i := 46) (by decide +kernel)))
  obtain ⟨c7, i7, k7⟩ := u_known (C := RX7) (T := TX7) (N := 2) (n := 2) hts inX7 (htl (.instantiable RX7 2) (List.mem_of_getElem? (i := 62) (by decide +kernel)))
  obtain ⟨c8, i8, k8⟩ := u_known (C := RX8) (T := TX8) (N := 11) (n := 11) hts inX8 (htl (.instantiable RX8 11) (List.mem_of_getElem? (i := 13) (by decide +kernel)))
  obtain ⟨c9, i9, k9⟩ := u_known (C := RX9) (T := TX9) (N := 4) (n := 4) hts inX9 (htl (.instantiable RX9 4) (List.mem_of_getElem? (i := 1) (by decide +kernel)))
  obtain ⟨c10, i10, k10⟩ := u_known (C := RX10) (T := TX10) (N := 10) (n := 10) hts inX10 (htl (.instantiable RX10 10) (List.mem_of_getElem? (i := 4) (by decide +kernel)))
  obtain ⟨D, hKc⟩ : ∃ D : va_G, ∀ (k : Nat) (q : vw_C), vwCl[k]? = some q → u_Kn s q.1 q.2.1 q.2.2 (D.1 k) (D.2 k) := by
    refine ⟨(fun k => match k with | 0 => c0 | 1 => c1 | 2 => c2 | 3 => c3 | 4 => c4 | 5 => c5 | 6 => c6 | 7 => c7 | 8 => c8 | 9 => c9 | _ => c10, fun k => match k with | 0 => i0 | 1 => i1 | 2 => i2 | 3 => i3 | 4 => i4 | 5 => i5 | 6 => i6 | 7 => i7 | 8 => i8 | 9 => i9 | _ => i10), ?_⟩
    intro k q hq
    match k, hq with
    | 0, hq => cases hq; exact k0
    | 1, hq => cases hq; exact k1
    | 2, hq => cases hq; exact k2
    | 3, hq => cases hq; exact k3
    | 4, hq => cases hq; exact k4
    | 5, hq => cases hq; exact k5
    | 6, hq => cases hq; exact k6
    | 7, hq => cases hq; exact k7
    | 8, hq => cases hq; exact k8
    | 9, hq => cases hq; exact k9
    | 10, hq => cases hq; exact k10
    | k + 11, hq => simp [vwCl] at hq
  obtain ⟨d0, q0, y0, f0, g0, j0⟩ := Cond.arrayClass_spec (htl (.arrayClass .int) (List.mem_of_getElem? (i := 53) (by decide +kernel)))
  obtain ⟨d1, q1, y1, f1, g1, j1⟩ := Cond.arrayClass_spec (htl (.arrayClass .char) (List.mem_of_getElem? (i := 91) (by decide +kernel)))
  have ho0 := hts (.arrayOver (.object "TurnstileBank$Gate")) (List.mem_of_getElem? (i := 75) (by decide +kernel))
  obtain ⟨y2, d2, q2, m2, x2, g2, j2, f2⟩ := Cond.arrayOver_spec ho0
  have ho1 := hts (.arrayOver (.object "TurnstileBank$Person")) (List.mem_of_getElem? (i := 77) (by decide +kernel))
  obtain ⟨y3, d3, q3, m3, x3, g3, j3, f3⟩ := Cond.arrayOver_spec ho1
  have ho2 := hts (.arrayOver (.object "TurnstileBank$Pool")) (List.mem_of_getElem? (i := 79) (by decide +kernel))
  obtain ⟨y4, d4, q4, m4, x4, g4, j4, f4⟩ := Cond.arrayOver_spec ho2
  have ho3 := hts (.arrayOver (.object "TurnstileBank$Pass")) (List.mem_of_getElem? (i := 81) (by decide +kernel))
  obtain ⟨y5, d5, q5, m5, x5, g5, j5, f5⟩ := Cond.arrayOver_spec ho3
  have ho4 := hts (.arrayOver (.object "TurnstileBank$State")) (List.mem_of_getElem? (i := 338) (by decide +kernel))
  obtain ⟨y6, d6, q6, m6, x6, g6, j6, f6⟩ := Cond.arrayOver_spec ho4
  obtain ⟨cA, hcA⟩ : ∃ cA : Nat → ClassId, cA = fun k => match k with | 0 => d0 | 1 => d1 | 2 => d2 | 3 => d3 | 4 => d4 | 5 => d5 | _ => d6 := ⟨_, rfl⟩
  have hK : va_K D vwCl (tysL cA) s := by
    refine ⟨hKc, fun k q hq => ?_⟩
    subst hcA
    match k, hq with
    | 0, hq => cases hq; exact ⟨fun N z => ⟨(fun k h => by cases h), q0, g0, y0, j0⟩, f0⟩
    | 1, hq => cases hq; exact ⟨fun N z => ⟨(fun k h => by cases h), q1, g1, y1, j1⟩, f1⟩
    | 2, hq => cases hq; exact ⟨fun N z => ⟨(fun k h => by cases h), q2, g2, y2, j2⟩, q2, y2, g2, j2, m2, f2⟩
    | 3, hq => cases hq; exact ⟨fun N z => ⟨(fun k h => by cases h), q3, g3, y3, j3⟩, q3, y3, g3, j3, m3, f3⟩
    | 4, hq => cases hq; exact ⟨fun N z => ⟨(fun k h => by cases h), q4, g4, y4, j4⟩, q4, y4, g4, j4, m4, f4⟩
    | 5, hq => cases hq; exact ⟨fun N z => ⟨(fun k h => by cases h), q5, g5, y5, j5⟩, q5, y5, g5, j5, m5, f5⟩
    | 6, hq => cases hq; exact ⟨fun N z => ⟨(fun k h => by cases h), q6, g6, y6, j6⟩, q6, y6, g6, j6, m6, f6⟩
    | k + 7, hq => simp [tysL] at hq
  have hN : NwA s := by
    intro k q hq
    match k, hq with
    | 0, hq => cases hq; exact va_Nw.of rfl (hts _ (List.mem_of_getElem? (i := 452) (by decide +kernel)))
    | 1, hq => cases hq; exact va_Nw.of rfl (hts _ (List.mem_of_getElem? (i := 84) (by decide +kernel)))
    | 2, hq => cases hq; exact va_Nw.of rfl (hts _ (List.mem_of_getElem? (i := 109) (by decide +kernel)))
    | 3, hq => cases hq; exact va_Nw.of rfl (hts _ (List.mem_of_getElem? (i := 115) (by decide +kernel)))
    | 4, hq => cases hq; exact va_Nw.of rfl (hts _ (List.mem_of_getElem? (i := 202) (by decide +kernel)))
    | 5, hq => cases hq; exact va_Nw.of rfl (hts _ (List.mem_of_getElem? (i := 241) (by decide +kernel)))
    | 6, hq => cases hq; exact va_Nw.of rfl (hts _ (List.mem_of_getElem? (i := 272) (by decide +kernel)))
    | 7, hq => cases hq; exact va_Nw.of rfl (hts _ (List.mem_of_getElem? (i := 353) (by decide +kernel)))
    | k + 8, hq => simp [nws] at hq
  have hAO : AOs s := by
    intro k q hq
    match k, hq with
    | 0, hq => cases hq; exact va_AO.of ho0
    | 1, hq => cases hq; exact va_AO.of ho1
    | 2, hq => cases hq; exact va_AO.of ho2
    | 3, hq => cases hq; exact va_AO.of ho3
    | 4, hq => cases hq; exact va_AO.of ho4
    | k + 5, hq => simp [aos] at hq
  have C : Cx p m meth c s #[Value.ref b] cL_law 4 wsL_law RL ret D (tysL cA) := ⟨⟨hx, hb, hml, hown, htl⟩, hr, hlocks, hK, hN⟩
  have hbA : ¬ (fun q : Nat => s.heap.size ≤ q) b := Nat.not_le.mpr hbl
  have hl := lv_entry ([.ref b]) (n := 4) (Nat.le_of_ble_eq_true rfl)
  rw [lg_entry_eq]
  generalize (lg_sl ([.ref b]) ++ List.replicate (4 - (lg_sl ([.ref b])).length) Slot.unset).toArray = ls at hl ⊢
  have hl : lv_has ls 4 [(0, .ref b)] := hl
  have P : HpM 0 s.heap.size D (fun _ => .inr (4, [])) s s.heap [] := ⟨fun k q hq => by simp [wl] at hq, rfl, va_S.rf⟩
  refine m_new C P (X := RX9) (T := TX9) (nn := 4) (ci := 9) inlX9 tyX9 tyX9_ok (List.mem_of_getElem? (i := 0) (by decide +kernel)) (List.mem_of_getElem? (i := 1) (by decide +kernel)) (List.mem_of_getElem? (i := 2) (by decide +kernel)) rfl (fs := [.null, .null, .null, .null]) dv_9 (Nat.le_of_ble_eq_true rfl) (Nat.le_of_ble_eq_true rfl) dL_law_0 (fun H P => ?_)
  refine lv_dup hx hb dL_law_3 rfl ?_
  refine m_call (va_runI (As := []) (rest := [.ref (s.heap.size + 0)]) C.1 (c_X9_init l D cA s.heap.size 0 _ kd_at_0 upE_s) (cwI 0 C.1.2.2.2.2 gL_law_X9_init rfl rfl rfl (htl (.initialized RX9) (List.mem_of_getElem? (i := 2) (by decide +kernel))) (htl (.methodLink RL 9 yX9_init) (List.mem_of_getElem? (i := 6) (by decide +kernel))) (htl (.instanceMethod yX9_init) (List.mem_of_getElem? (i := 7) (by decide +kernel))) rfl (by decide +kernel) ⟨Nat.le_of_ble_eq_true rfl, Nat.le_of_ble_eq_true rfl⟩) (m_pre C hAO P [.ref (s.heap.size + 0)]) rfl rfl hl.1 rfl (lv_room (Nat.le_of_ble_eq_true rfl)) dL_law_4 ⟨Nat.le_of_ble_eq_true rfl, Nat.le_of_ble_eq_true rfl⟩) P (fun H locs P => ?_)
  refine lv_astore_n (lv' := [(1, .ref (s.heap.size + 0)), (0, .ref b)]) hx hb dL_law_7 rfl hl (by decide) rfl (fun ls hl => ?_)
  refine m_new C P (X := RX10) (T := TX10) (nn := 10) (ci := 10) inlX10 tyX10 tyX10_ok (List.mem_of_getElem? (i := 3) (by decide +kernel)) (List.mem_of_getElem? (i := 4) (by decide +kernel)) (List.mem_of_getElem? (i := 5) (by decide +kernel)) rfl (fs := [.null, .null, .null, .int 0, .int 0, .null, .int 0, .int 0, .int 0, .null]) dv_10 (Nat.le_of_ble_eq_true rfl) (Nat.le_of_ble_eq_true rfl) dL_law_8 (fun H P => ?_)
  refine lv_dup hx hb dL_law_11 rfl ?_
  refine m_call (va_runI (As := []) (rest := [.ref (s.heap.size + 747)]) C.1 (c_X10_init l D cA s.heap.size 747 _ upE_s) (cwI 0 C.1.2.2.2.2 gL_law_X10_init rfl rfl rfl (htl (.initialized RX10) (List.mem_of_getElem? (i := 5) (by decide +kernel))) (htl (.methodLink RL 12 yX10_init) (List.mem_of_getElem? (i := 93) (by decide +kernel))) (htl (.instanceMethod yX10_init) (List.mem_of_getElem? (i := 94) (by decide +kernel))) rfl (by decide +kernel) ⟨Nat.le_of_ble_eq_true rfl, Nat.le_of_ble_eq_true rfl⟩) (m_pre C hAO P [.ref (s.heap.size + 747)]) rfl rfl hl.1 rfl (lv_room (Nat.le_of_ble_eq_true rfl)) dL_law_12 ⟨Nat.le_of_ble_eq_true rfl, Nat.le_of_ble_eq_true rfl⟩) P (fun H locs P => ?_)
  refine lv_astore_n (lv' := [(2, .ref (s.heap.size + 747 + 0)), (1, .ref (s.heap.size + 0)), (0, .ref b)]) hx hb dL_law_15 rfl hl (by decide) rfl (fun ls hl => ?_)
  refine lv_iconst (v := 0) hx hb dL_law_16 (by decide) ?_
  refine lv_istore_n (lv' := [(3, .int 0), (2, .ref (s.heap.size + 747 + 0)), (1, .ref (s.heap.size + 0)), (0, .ref b)]) hx hb dL_law_17 rfl hl (by decide) rfl (fun ls hl => ?_)
  have PL : HpL s.heap.size D cA mu0 mu0M s H locs := by
    refine ⟨fun k q hq => ?_, fun k q hq => ?_, P.2.2⟩
    · obtain ⟨hk, rfl⟩ := wl_inv hq
      have h := P.1 k _ (wl_get (by omega))
      rw [gl_lo (by omega), upE_n (by omega), gl_hi (by omega)] at h
      exact h
    · obtain ⟨hk, rfl⟩ := wl_inv hq
      have h := P.1 (747 + k) _ (wl_get (by omega))
      rw [gl_hi (by omega), show 747 + k - 747 = k by omega, ← Nat.add_assoc] at h
      exact h
  refine W.widen (k := 753) (n := 12448) (by decide) (by decide) ?_
  exact lw_loop C hX hbl hbA hL ops (fun H locs ls hS => by
    refine va_forget (fun q h => hS.2.2 q h) ?_
    refine W.widen (k := 600000) (n := 7302250) (by omega) (by omega) ?_
    refine lv_iconst (v := 1) hx hb dL_law_930 (by decide) ?_
    exact lw_ret hx hb hr hlocks dL_law_931) 513 0 (by omega) rfl mu0 mu0M H locs ls h00 PL (lv_sub hl [3, 2, 1, 0] rfl)
