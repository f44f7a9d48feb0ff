abbrev rm_X10_gate : Room := { frames := 3, cells := 0, slots := 0, locals := 69 }
def w_X10_gate (a1 : Int32) (a2 : Int32) (u0 : Mm) (Φ : Int32 → Mm → Prop) : Prop := (w_X10_noGate a1 u0 (fun r2 u1 => (if r2 = 0 then (if a2 = 0 then (w_X10_gateOf a1 ((0 : Int32)) u1 (fun r5 u4 => (Φ r5 u4))) else (if a2 = 1 then (w_X10_gateOf a1 ((4 : Int32)) u1 (fun r8 u7 => (Φ r8 u7))) else (if a2 = 2 then (w_X10_gateOf a1 ((5 : Int32)) u1 (fun r11 u10 => (Φ r11 u10))) else (if a2 = 3 then (w_X10_gateOf a1 ((6 : Int32)) u1 (fun r14 u13 => (Φ r14 u13))) else (if a2 = 4 then (w_X10_queueLength a1 ((a2 - (4 : Int32))) u1 (fun r17 u16 => (Φ r17 u16))) else (if a2 = 5 then (w_X10_queueLength a1 ((a2 - (4 : Int32))) u1 (fun r20 u19 => (Φ r20 u19))) else (if a2 = 6 then (w_X10_gateOf a1 ((10 : Int32)) u1 (fun r23 u22 => (Φ r23 u22))) else (if a2 = 7 then (w_X10_gateOf a1 ((11 : Int32)) u1 (fun r26 u25 => (Φ r26 u25))) else (if a2 = 8 then (w_X10_gateOf a1 ((12 : Int32)) u1 (fun r29 u28 => (Φ r29 u28))) else (if a2 = 9 then (w_X10_gateOf a1 ((13 : Int32)) u1 (fun r32 u31 => (Φ r32 u31))) else (if a2 = 10 then (w_X10_gateOf a1 ((9 : Int32)) u1 (fun r35 u34 => (Φ r35 u34))) else (Φ ((-2 : Int32)) u1)))))))))))) else (Φ ((-1 : Int32)) u1))))
set_option maxHeartbeats 4000000 in
set_option maxRecDepth 100000 in
theorem t_X10_gate_0 {p : Program} {l : Launch} {e : Env} {s : State} {m : MethodId} {args : Array Value} {below : List Frame} {meth : Method} {c : Code} {D : va_G} {cA : Nat → ClassId} {o : Nat}  {Φ : Int32 → Mm → Prop} (C : Cx p m meth c s args cX10_gate 3 wsX10_gate RX10 (some .int) D (tysL cA)) : ∀ (a1 : Int32) (a2 : Int32) (u0 : Mm), ∀ (H : Heap) (locs : List Loc) (ls : Array Slot), Hp 6 o D (EM cA o u0) s H locs → lv_has ls 3 [(0, .ref (o + 0)), (1, .int a1), (2, .int a2)] → w_X10_gate a1 a2 u0 Φ → W p l e rm_X10_gate s m args below meth c H locs 0 0 (MQ below (Qg vI Φ (fun μ => Wd 6 o D (tysL cA) (EM cA o μ)) (aA o 6)) args s 0 0 (aA o 6)) (F0 m 0 ls []) := by
  intro a1 a2 u0 H locs ls P hl h
  have hx := C.1.1
  have hb := C.1.2.1
  unfold w_X10_gate at h
  refine lv_aload_n hx hb dX10_gate_0 rfl (lv_at hl 0 rfl) ?_
  refine lv_iload_n hx hb dX10_gate_1 rfl (lv_at hl 1 rfl) ?_
  refine r_calli (F := EM cA o) (va_runV (As := [.int a1]) (rest := []) C.1 (c_X10_noGate l D cA o _ u0 _ h) (cwV 1 C.1.2.2.2.2 gX10_gate_X10_noGate rfl rfl rfl (by decide +kernel) ⟨Nat.le_of_ble_eq_true rfl, Nat.le_of_ble_eq_true rfl⟩) (r_preV C P [.int a1] (ci := 10) rfl (by decide) EKM_0) rfl rfl hl.1 rfl (lv_room (Nat.le_of_ble_eq_true rfl)) dX10_gate_2 ⟨Nat.le_of_ble_eq_true rfl, Nat.le_of_ble_eq_true rfl⟩) P.2 (fun r2 u1 H locs h P => ?_)
  refine lv_if_eq (tgt := 10) hx hb dX10_gate_5 (by decide) (fun c3 => ?_) (fun c3 => ?_)
  · have h := ite_t h c3
    refine lv_iload_n hx hb dX10_gate_10 rfl (lv_at hl 2 rfl) ?_
    by_cases c6 : a2 = 0
    · have h := ite_t h c6
      rw [c6]
      refine lv_tableIn (off := 57) (tgt := 68) hx hb dX10_gate_11 (by decide) (by decide) (by decide) (by decide) ?_
      refine lv_aload_n hx hb dX10_gate_68 rfl (lv_at hl 0 rfl) ?_
      refine lv_iload_n hx hb dX10_gate_69 rfl (lv_at hl 1 rfl) ?_
      refine lv_iconst (v := 0) hx hb dX10_gate_70 (by decide) ?_
      refine r_calli (F := EM cA o) (va_runV (As := [.int a1, .int (0 : Int32)]) (rest := []) C.1 (c_X10_gateOf l D cA o _ _ u1 _ h) (cwV 2 C.1.2.2.2.2 gX10_gate_X10_gateOf rfl rfl rfl (by decide +kernel) ⟨Nat.le_of_ble_eq_true rfl, Nat.le_of_ble_eq_true rfl⟩) (r_preV C P [.int a1, .int (0 : Int32)] (ci := 10) rfl (by decide) EKM_0) rfl rfl hl.1 rfl (lv_room (Nat.le_of_ble_eq_true rfl)) dX10_gate_71 ⟨Nat.le_of_ble_eq_true rfl, Nat.le_of_ble_eq_true rfl⟩) P.2 (fun r5 u4 H locs h P => ?_)
      exact r_ireti C P h dX10_gate_74
    have h := ite_f h c6
    by_cases c9 : a2 = 1
    · have h := ite_t h c9
      rw [c9]
      refine lv_tableIn (off := 64) (tgt := 75) hx hb dX10_gate_11 (by decide) (by decide) (by decide) (by decide) ?_
      refine lv_aload_n hx hb dX10_gate_75 rfl (lv_at hl 0 rfl) ?_
      refine lv_iload_n hx hb dX10_gate_76 rfl (lv_at hl 1 rfl) ?_
      refine lv_iconst (v := 4) hx hb dX10_gate_77 (by decide) ?_
      refine r_calli (F := EM cA o) (va_runV (As := [.int a1, .int (4 : Int32)]) (rest := []) C.1 (c_X10_gateOf l D cA o _ _ u1 _ h) (cwV 2 C.1.2.2.2.2 gX10_gate_X10_gateOf rfl rfl rfl (by decide +kernel) ⟨Nat.le_of_ble_eq_true rfl, Nat.le_of_ble_eq_true rfl⟩) (r_preV C P [.int a1, .int (4 : Int32)] (ci := 10) rfl (by decide) EKM_0) rfl rfl hl.1 rfl (lv_room (Nat.le_of_ble_eq_true rfl)) dX10_gate_78 ⟨Nat.le_of_ble_eq_true rfl, Nat.le_of_ble_eq_true rfl⟩) P.2 (fun r8 u7 H locs h P => ?_)
      exact r_ireti C P h dX10_gate_81
    have h := ite_f h c9
    by_cases c12 : a2 = 2
    · have h := ite_t h c12
      rw [c12]
      refine lv_tableIn (off := 71) (tgt := 82) hx hb dX10_gate_11 (by decide) (by decide) (by decide) (by decide) ?_
      refine lv_aload_n hx hb dX10_gate_82 rfl (lv_at hl 0 rfl) ?_
      refine lv_iload_n hx hb dX10_gate_83 rfl (lv_at hl 1 rfl) ?_
      refine lv_iconst (v := 5) hx hb dX10_gate_84 (by decide) ?_
      refine r_calli (F := EM cA o) (va_runV (As := [.int a1, .int (5 : Int32)]) (rest := []) C.1 (c_X10_gateOf l D cA o _ _ u1 _ h) (cwV 2 C.1.2.2.2.2 gX10_gate_X10_gateOf rfl rfl rfl (by decide +kernel) ⟨Nat.le_of_ble_eq_true rfl, Nat.le_of_ble_eq_true rfl⟩) (r_preV C P [.int a1, .int (5 : Int32)] (ci := 10) rfl (by decide) EKM_0) rfl rfl hl.1 rfl (lv_room (Nat.le_of_ble_eq_true rfl)) dX10_gate_85 ⟨Nat.le_of_ble_eq_true rfl, Nat.le_of_ble_eq_true rfl⟩) P.2 (fun r11 u10 H locs h P => ?_)
      exact r_ireti C P h dX10_gate_88
    have h := ite_f h c12
    by_cases c15 : a2 = 3
    · have h := ite_t h c15
      rw [c15]
      refine lv_tableIn (off := 78) (tgt := 89) hx hb dX10_gate_11 (by decide) (by decide) (by decide) (by decide) ?_
      refine lv_aload_n hx hb dX10_gate_89 rfl (lv_at hl 0 rfl) ?_
      refine lv_iload_n hx hb dX10_gate_90 rfl (lv_at hl 1 rfl) ?_
      refine lv_bipush (v := 6) hx hb dX10_gate_91 (by decide) ?_
      refine r_calli (F := EM cA o) (va_runV (As := [.int a1, .int (6 : Int32)]) (rest := []) C.1 (c_X10_gateOf l D cA o _ _ u1 _ h) (cwV 2 C.1.2.2.2.2 gX10_gate_X10_gateOf rfl rfl rfl (by decide +kernel) ⟨Nat.le_of_ble_eq_true rfl, Nat.le_of_ble_eq_true rfl⟩) (r_preV C P [.int a1, .int (6 : Int32)] (ci := 10) rfl (by decide) EKM_0) rfl rfl hl.1 rfl (lv_room (Nat.le_of_ble_eq_true rfl)) dX10_gate_93 ⟨Nat.le_of_ble_eq_true rfl, Nat.le_of_ble_eq_true rfl⟩) P.2 (fun r14 u13 H locs h P => ?_)
      exact r_ireti C P h dX10_gate_96
    have h := ite_f h c15
    by_cases c18 : a2 = 4
    · have h := ite_t h c18
      rw [c18]
      refine lv_tableIn (off := 86) (tgt := 97) hx hb dX10_gate_11 (by decide) (by decide) (by decide) (by decide) ?_
      refine lv_aload_n hx hb dX10_gate_97 rfl (lv_at hl 0 rfl) ?_
      refine lv_iload_n hx hb dX10_gate_98 rfl (lv_at hl 1 rfl) ?_
      refine lv_iload_n hx hb dX10_gate_99 rfl (lv_at hl 2 rfl) ?_
      refine lv_iconst (v := 4) hx hb dX10_gate_100 (by decide) ?_
      refine lv_isub hx hb dX10_gate_101 ?_
      refine r_calli (F := EM cA o) (va_runV (As := [.int a1, .int (a2 - (4 : Int32))]) (rest := []) C.1 (c_X10_queueLength l D cA o _ _ u1 _ h) (cwV 2 C.1.2.2.2.2 gX10_gate_X10_queueLength rfl rfl rfl (by decide +kernel) ⟨Nat.le_of_ble_eq_true rfl, Nat.le_of_ble_eq_true rfl⟩) (r_preV C P [.int a1, .int (a2 - (4 : Int32))] (ci := 10) rfl (by decide) EKM_0) rfl rfl hl.1 rfl (lv_room (Nat.le_of_ble_eq_true rfl)) dX10_gate_102 ⟨Nat.le_of_ble_eq_true rfl, Nat.le_of_ble_eq_true rfl⟩) P.2 (fun r17 u16 H locs h P => ?_)
      exact r_ireti C P h dX10_gate_105
    have h := ite_f h c18
    by_cases c21 : a2 = 5
    · have h := ite_t h c21
      rw [c21]
      refine lv_tableIn (off := 86) (tgt := 97) hx hb dX10_gate_11 (by decide) (by decide) (by decide) (by decide) ?_
      refine lv_aload_n hx hb dX10_gate_97 rfl (lv_at hl 0 rfl) ?_
      refine lv_iload_n hx hb dX10_gate_98 rfl (lv_at hl 1 rfl) ?_
      refine lv_iload_n hx hb dX10_gate_99 rfl (lv_at hl 2 rfl) ?_
      refine lv_iconst (v := 4) hx hb dX10_gate_100 (by decide) ?_
      refine lv_isub hx hb dX10_gate_101 ?_
      refine r_calli (F := EM cA o) (va_runV (As := [.int a1, .int (a2 - (4 : Int32))]) (rest := []) C.1 (c_X10_queueLength l D cA o _ _ u1 _ h) (cwV 2 C.1.2.2.2.2 gX10_gate_X10_queueLength rfl rfl rfl (by decide +kernel) ⟨Nat.le_of_ble_eq_true rfl, Nat.le_of_ble_eq_true rfl⟩) (r_preV C P [.int a1, .int (a2 - (4 : Int32))] (ci := 10) rfl (by decide) EKM_0) rfl rfl hl.1 rfl (lv_room (Nat.le_of_ble_eq_true rfl)) dX10_gate_102 ⟨Nat.le_of_ble_eq_true rfl, Nat.le_of_ble_eq_true rfl⟩) P.2 (fun r20 u19 H locs h P => ?_)
      exact r_ireti C P h dX10_gate_105
    have h := ite_f h c21
    by_cases c24 : a2 = 6
    · have h := ite_t h c24
      rw [c24]
      refine lv_tableIn (off := 95) (tgt := 106) hx hb dX10_gate_11 (by decide) (by decide) (by decide) (by decide) ?_
      refine lv_aload_n hx hb dX10_gate_106 rfl (lv_at hl 0 rfl) ?_
      refine lv_iload_n hx hb dX10_gate_107 rfl (lv_at hl 1 rfl) ?_
      refine lv_bipush (v := 10) hx hb dX10_gate_108 (by decide) ?_
      refine r_calli (F := EM cA o) (va_runV (As := [.int a1, .int (10 : Int32)]) (rest := []) C.1 (c_X10_gateOf l D cA o _ _ u1 _ h) (cwV 2 C.1.2.2.2.2 gX10_gate_X10_gateOf rfl rfl rfl (by decide +kernel) ⟨Nat.le_of_ble_eq_true rfl, Nat.le_of_ble_eq_true rfl⟩) (r_preV C P [.int a1, .int (10 : Int32)] (ci := 10) rfl (by decide) EKM_0) rfl rfl hl.1 rfl (lv_room (Nat.le_of_ble_eq_true rfl)) dX10_gate_110 ⟨Nat.le_of_ble_eq_true rfl, Nat.le_of_ble_eq_true rfl⟩) P.2 (fun r23 u22 H locs h P => ?_)
      exact r_ireti C P h dX10_gate_113
    have h := ite_f h c24
    by_cases c27 : a2 = 7
    · have h := ite_t h c27
      rw [c27]
      refine lv_tableIn (off := 103) (tgt := 114) hx hb dX10_gate_11 (by decide) (by decide) (by decide) (by decide) ?_
      refine lv_aload_n hx hb dX10_gate_114 rfl (lv_at hl 0 rfl) ?_
      refine lv_iload_n hx hb dX10_gate_115 rfl (lv_at hl 1 rfl) ?_
      refine lv_bipush (v := 11) hx hb dX10_gate_116 (by decide) ?_
      refine r_calli (F := EM cA o) (va_runV (As := [.int a1, .int (11 : Int32)]) (rest := []) C.1 (c_X10_gateOf l D cA o _ _ u1 _ h) (cwV 2 C.1.2.2.2.2 gX10_gate_X10_gateOf rfl rfl rfl (by decide +kernel) ⟨Nat.le_of_ble_eq_true rfl, Nat.le_of_ble_eq_true rfl⟩) (r_preV C P [.int a1, .int (11 : Int32)] (ci := 10) rfl (by decide) EKM_0) rfl rfl hl.1 rfl (lv_room (Nat.le_of_ble_eq_true rfl)) dX10_gate_118 ⟨Nat.le_of_ble_eq_true rfl, Nat.le_of_ble_eq_true rfl⟩) P.2 (fun r26 u25 H locs h P => ?_)
      exact r_ireti C P h dX10_gate_121
    have h := ite_f h c27
    by_cases c30 : a2 = 8
    · have h := ite_t h c30
      rw [c30]
      refine lv_tableIn (off := 111) (tgt := 122) hx hb dX10_gate_11 (by decide) (by decide) (by decide) (by decide) ?_
      refine lv_aload_n hx hb dX10_gate_122 rfl (lv_at hl 0 rfl) ?_
      refine lv_iload_n hx hb dX10_gate_123 rfl (lv_at hl 1 rfl) ?_
      refine lv_bipush (v := 12) hx hb dX10_gate_124 (by decide) ?_
      refine r_calli (F := EM cA o) (va_runV (As := [.int a1, .int (12 : Int32)]) (rest := []) C.1 (c_X10_gateOf l D cA o _ _ u1 _ h) (cwV 2 C.1.2.2.2.2 gX10_gate_X10_gateOf rfl rfl rfl (by decide +kernel) ⟨Nat.le_of_ble_eq_true rfl, Nat.le_of_ble_eq_true rfl⟩) (r_preV C P [.int a1, .int (12 : Int32)] (ci := 10) rfl (by decide) EKM_0) rfl rfl hl.1 rfl (lv_room (Nat.le_of_ble_eq_true rfl)) dX10_gate_126 ⟨Nat.le_of_ble_eq_true rfl, Nat.le_of_ble_eq_true rfl⟩) P.2 (fun r29 u28 H locs h P => ?_)
      exact r_ireti C P h dX10_gate_129
    have h := ite_f h c30
    by_cases c33 : a2 = 9
    · have h := ite_t h c33
      rw [c33]
      refine lv_tableIn (off := 119) (tgt := 130) hx hb dX10_gate_11 (by decide) (by decide) (by decide) (by decide) ?_
      refine lv_aload_n hx hb dX10_gate_130 rfl (lv_at hl 0 rfl) ?_
      refine lv_iload_n hx hb dX10_gate_131 rfl (lv_at hl 1 rfl) ?_
      refine lv_bipush (v := 13) hx hb dX10_gate_132 (by decide) ?_
      refine r_calli (F := EM cA o) (va_runV (As := [.int a1, .int (13 : Int32)]) (rest := []) C.1 (c_X10_gateOf l D cA o _ _ u1 _ h) (cwV 2 C.1.2.2.2.2 gX10_gate_X10_gateOf rfl rfl rfl (by decide +kernel) ⟨Nat.le_of_ble_eq_true rfl, Nat.le_of_ble_eq_true rfl⟩) (r_preV C P [.int a1, .int (13 : Int32)] (ci := 10) rfl (by decide) EKM_0) rfl rfl hl.1 rfl (lv_room (Nat.le_of_ble_eq_true rfl)) dX10_gate_134 ⟨Nat.le_of_ble_eq_true rfl, Nat.le_of_ble_eq_true rfl⟩) P.2 (fun r32 u31 H locs h P => ?_)
      exact r_ireti C P h dX10_gate_137
    have h := ite_f h c33
    by_cases c36 : a2 = 10
    · have h := ite_t h c36
      rw [c36]
      refine lv_tableIn (off := 127) (tgt := 138) hx hb dX10_gate_11 (by decide) (by decide) (by decide) (by decide) ?_
      refine lv_aload_n hx hb dX10_gate_138 rfl (lv_at hl 0 rfl) ?_
      refine lv_iload_n hx hb dX10_gate_139 rfl (lv_at hl 1 rfl) ?_
      refine lv_bipush (v := 9) hx hb dX10_gate_140 (by decide) ?_
      refine r_calli (F := EM cA o) (va_runV (As := [.int a1, .int (9 : Int32)]) (rest := []) C.1 (c_X10_gateOf l D cA o _ _ u1 _ h) (cwV 2 C.1.2.2.2.2 gX10_gate_X10_gateOf rfl rfl rfl (by decide +kernel) ⟨Nat.le_of_ble_eq_true rfl, Nat.le_of_ble_eq_true rfl⟩) (r_preV C P [.int a1, .int (9 : Int32)] (ci := 10) rfl (by decide) EKM_0) rfl rfl hl.1 rfl (lv_room (Nat.le_of_ble_eq_true rfl)) dX10_gate_142 ⟨Nat.le_of_ble_eq_true rfl, Nat.le_of_ble_eq_true rfl⟩) P.2 (fun r35 u34 H locs h P => ?_)
      exact r_ireti C P h dX10_gate_145
    have h := ite_f h c36
    refine lv_tableOut (tgt := 146) hx hb dX10_gate_11 (by have q0 : a2.toInt ≠ 0 := fun e => c6 (Int32.toInt_inj.mp e); have q1 : a2.toInt ≠ 1 := fun e => c9 (Int32.toInt_inj.mp e); have q2 : a2.toInt ≠ 2 := fun e => c12 (Int32.toInt_inj.mp e); have q3 : a2.toInt ≠ 3 := fun e => c15 (Int32.toInt_inj.mp e); have q4 : a2.toInt ≠ 4 := fun e => c18 (Int32.toInt_inj.mp e); have q5 : a2.toInt ≠ 5 := fun e => c21 (Int32.toInt_inj.mp e); have q6 : a2.toInt ≠ 6 := fun e => c24 (Int32.toInt_inj.mp e); have q7 : a2.toInt ≠ 7 := fun e => c27 (Int32.toInt_inj.mp e); have q8 : a2.toInt ≠ 8 := fun e => c30 (Int32.toInt_inj.mp e); have q9 : a2.toInt ≠ 9 := fun e => c33 (Int32.toInt_inj.mp e); have q10 : a2.toInt ≠ 10 := fun e => c36 (Int32.toInt_inj.mp e); omega) (by decide) ?_
    refine lv_bipush (v := -2) hx hb dX10_gate_146 (by decide) ?_
    exact r_ireti C P h dX10_gate_148
  · have h := ite_f h c3
    refine lv_iconst (v := -1) hx hb dX10_gate_8 (by decide) ?_
    exact r_ireti C P h dX10_gate_9
set_option maxHeartbeats 4000000 in
set_option maxRecDepth 100000 in
theorem c_X10_gate (l : Launch) (D : va_G) (cA : Nat → ClassId) (o : Nat) (a1 : Int32) (a2 : Int32)  (u0 : Mm) (Φ : Int32 → Mm → Prop) (h : w_X10_gate a1 a2 u0 Φ) : Met l yX10_gate wsX10_gate rm_X10_gate (va_Pc [.ref (o + 0), .int a1, .int a2] (Wd 6 o D (tysL cA) (EM cA o u0))) (Qg vI Φ (fun μ => Wd 6 o D (tysL cA) (EM cA o μ)) (aA o 6)) 0 0 (aA o 6) := by
  refine Met.ofW (cc := cX10_gate) (maxL := 3) (ret := (some .int)) (by decide) rfl ?_
  intro p e s m args below meth c s₁ B hml hv
  obtain ⟨rfl, hv⟩ := hv
  have hl := lv_entry ([.ref (o + 0), .int a1, .int a2]) (n := 3) (Nat.le_of_ble_eq_true rfl)
  rw [lg_entry_eq]
  exact t_X10_gate_0 ⟨⟨B.exec, B.bytes, hml, findClass_of_methodNamed B.named, atoms_spec (ws := wsX10_gate) B.pre⟩, B.returns, B.notSynchronized, hv.2⟩ a1 a2 u0 _ _ _ ⟨hv.1, va_S.rf⟩ hl h
abbrev rm_X10_queued : Room := { frames := 3, cells := 0, slots := 0, locals := 71 }
def w_X10_queued (a1 : Int32) (a2 : Int32) (a3 : Int32) (u0 : Mm) (Φ : Int32 → Mm → Prop) : Prop := (w_X10_noGate a1 u0 (fun r2 u1 => (if r2 = 0 then (w_X10_in a2 ((0 : Int32)) ((1 : Int32)) u1 (fun r5 u4 => (if r5 = 0 then (Φ ((-2 : Int32)) u4) else (if a3 < 0 then (Φ ((-2 : Int32)) u4) else (w_X10_queuedAt a1 a2 a3 u4 (fun r9 u8 => (Φ r9 u8))))))) else (Φ ((-1 : Int32)) u1))))
set_option maxHeartbeats 4000000 in
set_option maxRecDepth 100000 in
theorem t_X10_queued_0 {p : Program} {l : Launch} {e : Env} {s : State} {m : MethodId} {args : Array Value} {below : List Frame} {meth : Method} {c : Code} {D : va_G} {cA : Nat → ClassId} {o : Nat}  {Φ : Int32 → Mm → Prop} (C : Cx p m meth c s args cX10_queued 4 wsX10_queued RX10 (some .int) D (tysL cA)) : ∀ (a1 : Int32) (a2 : Int32) (a3 : Int32) (u0 : Mm), ∀ (H : Heap) (locs : List Loc) (ls : Array Slot), Hp 6 o D (EM cA o u0) s H locs → lv_has ls 4 [(0, .ref (o + 0)), (1, .int a1), (2, .int a2), (3, .int a3)] → w_X10_queued a1 a2 a3 u0 Φ → W p l e rm_X10_queued s m args below meth c H locs 0 0 (MQ below (Qg vI Φ (fun μ => Wd 6 o D (tysL cA) (EM cA o μ)) (aA o 6)) args s 0 0 (aA o 6)) (F0 m 0 ls []) := by
  intro a1 a2 a3 u0 H locs ls P hl h
  have hx := C.1.1
  have hb := C.1.2.1
  unfold w_X10_queued at h
  refine lv_aload_n hx hb dX10_queued_0 rfl (lv_at hl 0 rfl) ?_
  refine lv_iload_n hx hb dX10_queued_1 rfl (lv_at hl 1 rfl) ?_
  refine r_calli (F := EM cA o) (va_runV (As := [.int a1]) (rest := []) C.1 (c_X10_noGate l D cA o _ u0 _ h) (cwV 1 C.1.2.2.2.2 gX10_queued_X10_noGate rfl rfl rfl (by decide +kernel) ⟨Nat.le_of_ble_eq_true rfl, Nat.le_of_ble_eq_true rfl⟩) (r_preV C P [.int a1] (ci := 10) rfl (by decide) EKM_0) rfl rfl hl.1 rfl (lv_room (Nat.le_of_ble_eq_true rfl)) dX10_queued_2 ⟨Nat.le_of_ble_eq_true rfl, Nat.le_of_ble_eq_true rfl⟩) P.2 (fun r2 u1 H locs h P => ?_)
  refine lv_if_eq (tgt := 10) hx hb dX10_queued_5 (by decide) (fun c3 => ?_) (fun c3 => ?_)
  · have h := ite_t h c3
    refine lv_iload_n hx hb dX10_queued_10 rfl (lv_at hl 2 rfl) ?_
    refine lv_iconst (v := 0) hx hb dX10_queued_11 (by decide) ?_
    refine lv_iconst (v := 1) hx hb dX10_queued_12 (by decide) ?_
    refine r_calli (F := EM cA o) (va_runS (As := [.int a2, .int (0 : Int32), .int (1 : Int32)]) (rest := []) C.1 (c_X10_in l D cA o _ _ _ u1 _ h) (va_cwS 3 C.1.2.2.2.2 gX10_queued_X10_in rfl rfl rfl (by decide +kernel) ⟨Nat.le_of_ble_eq_true rfl, Nat.le_of_ble_eq_true rfl⟩) (r_pre C P [.int a2, .int (0 : Int32), .int (1 : Int32)]) rfl rfl hl.1 rfl (lv_room (Nat.le_of_ble_eq_true rfl)) dX10_queued_13 ⟨Nat.le_of_ble_eq_true rfl, Nat.le_of_ble_eq_true rfl⟩) P.2 (fun r5 u4 H locs h P => ?_)
    refine lv_if_eq (tgt := 33) hx hb dX10_queued_16 (by decide) (fun c6 => ?_) (fun c6 => ?_)
    · have h := ite_t h c6
      refine lv_bipush (v := -2) hx hb dX10_queued_33 (by decide) ?_
      exact r_ireti C P h dX10_queued_35
    · have h := ite_f h c6
      refine lv_iload_n hx hb dX10_queued_19 rfl (lv_at hl 3 rfl) ?_
      refine lv_if_lt (tgt := 33) hx hb dX10_queued_20 (by decide) (fun c7 => ?_) (fun c7 => ?_)
      · have h := ite_t h c7
        refine lv_bipush (v := -2) hx hb dX10_queued_33 (by decide) ?_
        exact r_ireti C P h dX10_queued_35
      · have h := ite_f h c7
        refine lv_aload_n hx hb dX10_queued_23 rfl (lv_at hl 0 rfl) ?_
        refine lv_iload_n hx hb dX10_queued_24 rfl (lv_at hl 1 rfl) ?_
        refine lv_iload_n hx hb dX10_queued_25 rfl (lv_at hl 2 rfl) ?_
        refine lv_iload_n hx hb dX10_queued_26 rfl (lv_at hl 3 rfl) ?_
        refine r_calli (F := EM cA o) (va_runV (As := [.int a1, .int a2, .int a3]) (rest := []) C.1 (c_X10_queuedAt l D cA o _ _ _ u4 _ h) (cwV 3 C.1.2.2.2.2 gX10_queued_X10_queuedAt rfl rfl rfl (by decide +kernel) ⟨Nat.le_of_ble_eq_true rfl, Nat.le_of_ble_eq_true rfl⟩) (r_preV C P [.int a1, .int a2, .int a3] (ci := 10) rfl (by decide) EKM_0) rfl rfl hl.1 rfl (lv_room (Nat.le_of_ble_eq_true rfl)) dX10_queued_27 ⟨Nat.le_of_ble_eq_true rfl, Nat.le_of_ble_eq_true rfl⟩) P.2 (fun r9 u8 H locs h P => ?_)
        refine lv_goto (tgt := 35) hx hb dX10_queued_30 (by decide) ?_
        exact r_ireti C P h dX10_queued_35
  · have h := ite_f h c3
    refine lv_iconst (v := -1) hx hb dX10_queued_8 (by decide) ?_
    exact r_ireti C P h dX10_queued_9
set_option maxHeartbeats 4000000 in
set_option maxRecDepth 100000 in
theorem c_X10_queued (l : Launch) (D : va_G) (cA : Nat → ClassId) (o : Nat) (a1 : Int32) (a2 : Int32) (a3 : Int32)  (u0 : Mm) (Φ : Int32 → Mm → Prop) (h : w_X10_queued a1 a2 a3 u0 Φ) : Met l yX10_queued wsX10_queued rm_X10_queued (va_Pc [.ref (o + 0), .int a1, .int a2, .int a3] (Wd 6 o D (tysL cA) (EM cA o u0))) (Qg vI Φ (fun μ => Wd 6 o D (tysL cA) (EM cA o μ)) (aA o 6)) 0 0 (aA o 6) := by
  refine Met.ofW (cc := cX10_queued) (maxL := 4) (ret := (some .int)) (by decide) rfl ?_
  intro p e s m args below meth c s₁ B hml hv
  obtain ⟨rfl, hv⟩ := hv
  have hl := lv_entry ([.ref (o + 0), .int a1, .int a2, .int a3]) (n := 4) (Nat.le_of_ble_eq_true rfl)
  rw [lg_entry_eq]
  exact t_X10_queued_0 ⟨⟨B.exec, B.bytes, hml, findClass_of_methodNamed B.named, atoms_spec (ws := wsX10_queued) B.pre⟩, B.returns, B.notSynchronized, hv.2⟩ a1 a2 a3 u0 _ _ _ ⟨hv.1, va_S.rf⟩ hl h
abbrev rm_X10_person : Room := { frames := 2, cells := 0, slots := 0, locals := 43 }
def w_X10_person (a1 : Int32) (a2 : Int32) (u0 : Mm) (Φ : Int32 → Mm → Prop) : Prop := (w_X10_noPerson a1 u0 (fun r2 u1 => (if r2 = 0 then (w_X10_of a1 ((0 : Int32)) u1 (fun r5 u4 => (if a2 = 0 then (Φ r5 u4) else (if a2 = 1 then (w_X10_of a1 ((1 : Int32)) u4 (fun r8 u7 => (Φ r8 u7))) else (if a2 = 2 then (w_X10_of a1 ((2 : Int32)) u4 (fun r11 u10 => (Φ r11 u10))) else (if a2 = 3 then (w_X10_of a1 ((3 : Int32)) u4 (fun r14 u13 => (Φ r14 u13))) else (if a2 = 4 then (w_X10_of a1 ((4 : Int32)) u4 (fun r17 u16 => (Φ r17 u16))) else (if a2 = 5 then (if r5 = (1 : Int32) then (w_X10_waited a1 u4 (fun r21 u20 => (Φ r21 u20))) else (if r5 = (4 : Int32) then (w_X10_waited a1 u4 (fun r24 u23 => (Φ r24 u23))) else (Φ ((0 : Int32)) u4))) else (Φ ((-2 : Int32)) u4))))))))) else (Φ ((-1 : Int32)) u1))))
set_option maxHeartbeats 4000000 in
set_option maxRecDepth 100000 in
theorem t_X10_person_0 {p : Program} {l : Launch} {e : Env} {s : State} {m : MethodId} {args : Array Value} {below : List Frame} {meth : Method} {c : Code} {D : va_G} {cA : Nat → ClassId} {o : Nat}  {Φ : Int32 → Mm → Prop} (C : Cx p m meth c s args cX10_person 4 wsX10_person RX10 (some .int) D (tysL cA)) : ∀ (a1 : Int32) (a2 : Int32) (u0 : Mm), ∀ (H : Heap) (locs : List Loc) (ls : Array Slot), Hp 6 o D (EM cA o u0) s H locs → lv_has ls 4 [(0, .ref (o + 0)), (1, .int a1), (2, .int a2)] → w_X10_person a1 a2 u0 Φ → W p l e rm_X10_person s m args below meth c H locs 0 0 (MQ below (Qg vI Φ (fun μ => Wd 6 o D (tysL cA) (EM cA o μ)) (aA o 6)) args s 0 0 (aA o 6)) (F0 m 0 ls []) := by
  intro a1 a2 u0 H locs ls P hl h
  have hx := C.1.1
  have hb := C.1.2.1
  unfold w_X10_person at h
  refine lv_aload_n hx hb dX10_person_0 rfl (lv_at hl 0 rfl) ?_
  refine lv_iload_n hx hb dX10_person_1 rfl (lv_at hl 1 rfl) ?_
  refine r_calli (F := EM cA o) (va_runV (As := [.int a1]) (rest := []) C.1 (c_X10_noPerson l D cA o _ u0 _ h) (cwV 1 C.1.2.2.2.2 gX10_person_X10_noPerson rfl rfl rfl (by decide +kernel) ⟨Nat.le_of_ble_eq_true rfl, Nat.le_of_ble_eq_true rfl⟩) (r_preV C P [.int a1] (ci := 10) rfl (by decide) EKM_0) rfl rfl hl.1 rfl (lv_room (Nat.le_of_ble_eq_true rfl)) dX10_person_2 ⟨Nat.le_of_ble_eq_true rfl, Nat.le_of_ble_eq_true rfl⟩) P.2 (fun r2 u1 H locs h P => ?_)
  refine lv_if_eq (tgt := 10) hx hb dX10_person_5 (by decide) (fun c3 => ?_) (fun c3 => ?_)
  · have h := ite_t h c3
    refine lv_aload_n hx hb dX10_person_10 rfl (lv_at hl 0 rfl) ?_
    refine lv_iload_n hx hb dX10_person_11 rfl (lv_at hl 1 rfl) ?_
    refine lv_iconst (v := 0) hx hb dX10_person_12 (by decide) ?_
    refine r_calli (F := EM cA o) (va_runV (As := [.int a1, .int (0 : Int32)]) (rest := []) C.1 (c_X10_of l D cA o _ _ u1 _ h) (cwV 2 C.1.2.2.2.2 gX10_person_X10_of rfl rfl rfl (by decide +kernel) ⟨Nat.le_of_ble_eq_true rfl, Nat.le_of_ble_eq_true rfl⟩) (r_preV C P [.int a1, .int (0 : Int32)] (ci := 10) rfl (by decide) EKM_0) rfl rfl hl.1 rfl (lv_room (Nat.le_of_ble_eq_true rfl)) dX10_person_13 ⟨Nat.le_of_ble_eq_true rfl, Nat.le_of_ble_eq_true rfl⟩) P.2 (fun r5 u4 H locs h P => ?_)
    refine lv_istore_n (lv' := [(3, .int r5), (0, .ref (o + 0)), (1, .int a1), (2, .int a2)]) hx hb dX10_person_16 rfl hl (by decide) rfl (fun ls hl => ?_)
    refine lv_iload_n hx hb dX10_person_17 rfl (lv_at hl 3 rfl) ?_
    by_cases c6 : a2 = 0
    · have h := ite_t h c6
      rw [c6]
      refine lv_tableIn (off := 38) (tgt := 56) hx hb dX10_person_18 (by decide) (by decide) (by decide) (by decide) ?_
      refine lv_iload_n hx hb dX10_person_56 rfl (lv_at hl 0 rfl) ?_
      exact r_ireti C P h dX10_person_57
    have h := ite_f h c6
    by_cases c9 : a2 = 1
    · have h := ite_t h c9
      rw [c9]
      refine lv_tableIn (off := 40) (tgt := 58) hx hb dX10_person_18 (by decide) (by decide) (by decide) (by decide) ?_
      refine lv_aload_n hx hb dX10_person_58 rfl (lv_at hl 1 rfl) ?_
      refine lv_iload_n hx hb dX10_person_59 rfl (lv_at hl 2 rfl) ?_
      refine lv_iconst (v := 1) hx hb dX10_person_60 (by decide) ?_
      refine r_calli (F := EM cA o) (va_runV (As := [.int a1, .int (1 : Int32)]) (rest := []) C.1 (c_X10_of l D cA o _ _ u4 _ h) (cwV 2 C.1.2.2.2.2 gX10_person_X10_of rfl rfl rfl (by decide +kernel) ⟨Nat.le_of_ble_eq_true rfl, Nat.le_of_ble_eq_true rfl⟩) (r_preV C P [.int a1, .int (1 : Int32)] (ci := 10) rfl (by decide) EKM_0) rfl rfl hl.1 rfl (lv_room (Nat.le_of_ble_eq_true rfl)) dX10_person_61 ⟨Nat.le_of_ble_eq_true rfl, Nat.le_of_ble_eq_true rfl⟩) P.2 (fun r8 u7 H locs h P => ?_)
      exact r_ireti C P h dX10_person_64
    have h := ite_f h c9
    by_cases c12 : a2 = 2
    · have h := ite_t h c12
      rw [c12]
      refine lv_tableIn (off := 47) (tgt := 65) hx hb dX10_person_18 (by decide) (by decide) (by decide) (by decide) ?_
      refine lv_aload_n hx hb dX10_person_65 rfl (lv_at hl 1 rfl) ?_
      refine lv_iload_n hx hb dX10_person_66 rfl (lv_at hl 2 rfl) ?_
      refine lv_iconst (v := 2) hx hb dX10_person_67 (by decide) ?_
      refine r_calli (F := EM cA o) (va_runV (As := [.int a1, .int (2 : Int32)]) (rest := []) C.1 (c_X10_of l D cA o _ _ u4 _ h) (cwV 2 C.1.2.2.2.2 gX10_person_X10_of rfl rfl rfl (by decide +kernel) ⟨Nat.le_of_ble_eq_true rfl, Nat.le_of_ble_eq_true rfl⟩) (r_preV C P [.int a1, .int (2 : Int32)] (ci := 10) rfl (by decide) EKM_0) rfl rfl hl.1 rfl (lv_room (Nat.le_of_ble_eq_true rfl)) dX10_person_68 ⟨Nat.le_of_ble_eq_true rfl, Nat.le_of_ble_eq_true rfl⟩) P.2 (fun r11 u10 H locs h P => ?_)
      exact r_ireti C P h dX10_person_71
    have h := ite_f h c12
    by_cases c15 : a2 = 3
    · have h := ite_t h c15
      rw [c15]
      refine lv_tableIn (off := 54) (tgt := 72) hx hb dX10_person_18 (by decide) (by decide) (by decide) (by decide) ?_
      refine lv_aload_n hx hb dX10_person_72 rfl (lv_at hl 1 rfl) ?_
      refine lv_iload_n hx hb dX10_person_73 rfl (lv_at hl 2 rfl) ?_
      refine lv_iconst (v := 3) hx hb dX10_person_74 (by decide) ?_
      refine r_calli (F := EM cA o) (va_runV (As := [.int a1, .int (3 : Int32)]) (rest := []) C.1 (c_X10_of l D cA o _ _ u4 _ h) (cwV 2 C.1.2.2.2.2 gX10_person_X10_of rfl rfl rfl (by decide +kernel) ⟨Nat.le_of_ble_eq_true rfl, Nat.le_of_ble_eq_true rfl⟩) (r_preV C P [.int a1, .int (3 : Int32)] (ci := 10) rfl (by decide) EKM_0) rfl rfl hl.1 rfl (lv_room (Nat.le_of_ble_eq_true rfl)) dX10_person_75 ⟨Nat.le_of_ble_eq_true rfl, Nat.le_of_ble_eq_true rfl⟩) P.2 (fun r14 u13 H locs h P => ?_)
      exact r_ireti C P h dX10_person_78
    have h := ite_f h c15
    by_cases c18 : a2 = 4
    · have h := ite_t h c18
      rw [c18]
      refine lv_tableIn (off := 61) (tgt := 79) hx hb dX10_person_18 (by decide) (by decide) (by decide) (by decide) ?_
      refine lv_aload_n hx hb dX10_person_79 rfl (lv_at hl 1 rfl) ?_
      refine lv_iload_n hx hb dX10_person_80 rfl (lv_at hl 2 rfl) ?_
      refine lv_iconst (v := 4) hx hb dX10_person_81 (by decide) ?_
      refine r_calli (F := EM cA o) (va_runV (As := [.int a1, .int (4 : Int32)]) (rest := []) C.1 (c_X10_of l D cA o _ _ u4 _ h) (cwV 2 C.1.2.2.2.2 gX10_person_X10_of rfl rfl rfl (by decide +kernel) ⟨Nat.le_of_ble_eq_true rfl, Nat.le_of_ble_eq_true rfl⟩) (r_preV C P [.int a1, .int (4 : Int32)] (ci := 10) rfl (by decide) EKM_0) rfl rfl hl.1 rfl (lv_room (Nat.le_of_ble_eq_true rfl)) dX10_person_82 ⟨Nat.le_of_ble_eq_true rfl, Nat.le_of_ble_eq_true rfl⟩) P.2 (fun r17 u16 H locs h P => ?_)
      exact r_ireti C P h dX10_person_85
    have h := ite_f h c18
    by_cases c25 : a2 = 5
    · have h := ite_t h c25
      rw [c25]
      refine lv_tableIn (off := 68) (tgt := 86) hx hb dX10_person_18 (by decide) (by decide) (by decide) (by decide) ?_
      refine lv_iload_n hx hb dX10_person_86 rfl (lv_at hl 0 rfl) ?_
      refine lv_iconst (v := 1) hx hb dX10_person_87 (by decide) ?_
      refine lv_icmp_eq (tgt := 96) hx hb dX10_person_88 (by decide) (fun c19 => ?_) (fun c19 => ?_)
      · have h := ite_t h c19
        refine lv_aload_n hx hb dX10_person_96 rfl (lv_at hl 1 rfl) ?_
        refine lv_iload_n hx hb dX10_person_97 rfl (lv_at hl 2 rfl) ?_
        refine r_calli (F := EM cA o) (va_runV (As := [.int a1]) (rest := []) C.1 (c_X10_waited l D cA o _ u4 _ h) (cwV 1 C.1.2.2.2.2 gX10_person_X10_waited rfl rfl rfl (by decide +kernel) ⟨Nat.le_of_ble_eq_true rfl, Nat.le_of_ble_eq_true rfl⟩) (r_preV C P [.int a1] (ci := 10) rfl (by decide) EKM_0) rfl rfl hl.1 rfl (lv_room (Nat.le_of_ble_eq_true rfl)) dX10_person_98 ⟨Nat.le_of_ble_eq_true rfl, Nat.le_of_ble_eq_true rfl⟩) P.2 (fun r21 u20 H locs h P => ?_)
        refine lv_goto (tgt := 105) hx hb dX10_person_101 (by decide) ?_
        exact r_ireti C P h dX10_person_105
      · have h := ite_f h c19
        refine lv_iload_n hx hb dX10_person_91 rfl (lv_at hl 0 rfl) ?_
        refine lv_iconst (v := 4) hx hb dX10_person_92 (by decide) ?_
        refine lv_icmp_ne (tgt := 104) hx hb dX10_person_93 (by decide) (fun c22 => ?_) (fun c22 => ?_)
        · have h := ite_f h c22
          refine lv_iconst (v := 0) hx hb dX10_person_104 (by decide) ?_
          exact r_ireti C P h dX10_person_105
        · have h := ite_t h c22
          refine lv_aload_n hx hb dX10_person_96 rfl (lv_at hl 1 rfl) ?_
          refine lv_iload_n hx hb dX10_person_97 rfl (lv_at hl 2 rfl) ?_
          refine r_calli (F := EM cA o) (va_runV (As := [.int a1]) (rest := []) C.1 (c_X10_waited l D cA o _ u4 _ h) (cwV 1 C.1.2.2.2.2 gX10_person_X10_waited rfl rfl rfl (by decide +kernel) ⟨Nat.le_of_ble_eq_true rfl, Nat.le_of_ble_eq_true rfl⟩) (r_preV C P [.int a1] (ci := 10) rfl (by decide) EKM_0) rfl rfl hl.1 rfl (lv_room (Nat.le_of_ble_eq_true rfl)) dX10_person_98 ⟨Nat.le_of_ble_eq_true rfl, Nat.le_of_ble_eq_true rfl⟩) P.2 (fun r24 u23 H locs h P => ?_)
          refine lv_goto (tgt := 105) hx hb dX10_person_101 (by decide) ?_
          exact r_ireti C P h dX10_person_105
    have h := ite_f h c25
    refine lv_tableOut (tgt := 106) hx hb dX10_person_18 (by have q0 : a2.toInt ≠ 0 := fun e => c6 (Int32.toInt_inj.mp e); have q1 : a2.toInt ≠ 1 := fun e => c9 (Int32.toInt_inj.mp e); have q2 : a2.toInt ≠ 2 := fun e => c12 (Int32.toInt_inj.mp e); have q3 : a2.toInt ≠ 3 := fun e => c15 (Int32.toInt_inj.mp e); have q4 : a2.toInt ≠ 4 := fun e => c18 (Int32.toInt_inj.mp e); have q5 : a2.toInt ≠ 5 := fun e => c25 (Int32.toInt_inj.mp e); omega) (by decide) ?_
    refine lv_bipush (v := -2) hx hb dX10_person_106 (by decide) ?_
    exact r_ireti C P h dX10_person_108
  · have h := ite_f h c3
    refine lv_iconst (v := -1) hx hb dX10_person_8 (by decide) ?_
    exact r_ireti C P h dX10_person_9
set_option maxHeartbeats 4000000 in
set_option maxRecDepth 100000 in
theorem c_X10_person (l : Launch) (D : va_G) (cA : Nat → ClassId) (o : Nat) (a1 : Int32) (a2 : Int32)  (u0 : Mm) (Φ : Int32 → Mm → Prop) (h : w_X10_person a1 a2 u0 Φ) : Met l yX10_person wsX10_person rm_X10_person (va_Pc [.ref (o + 0), .int a1, .int a2] (Wd 6 o D (tysL cA) (EM cA o u0))) (Qg vI Φ (fun μ => Wd 6 o D (tysL cA) (EM cA o μ)) (aA o 6)) 0 0 (aA o 6) := by
  refine Met.ofW (cc := cX10_person) (maxL := 4) (ret := (some .int)) (by decide) rfl ?_
  intro p e s m args below meth c s₁ B hml hv
  obtain ⟨rfl, hv⟩ := hv
  have hl := lv_entry ([.ref (o + 0), .int a1, .int a2]) (n := 4) (Nat.le_of_ble_eq_true rfl)
  rw [lg_entry_eq]
  exact t_X10_person_0 ⟨⟨B.exec, B.bytes, hml, findClass_of_methodNamed B.named, atoms_spec (ws := wsX10_person) B.pre⟩, B.returns, B.notSynchronized, hv.2⟩ a1 a2 u0 _ _ _ ⟨hv.1, va_S.rf⟩ hl h
abbrev rm_X10_pool : Room := { frames := 3, cells := 0, slots := 0, locals := 68 }
theorem wd_X10_pool_1 : Cond.fieldLink RX10 7 "TurnstileBankModel" "row" "[I" ∈ wsX10_pool := List.mem_of_getElem? (i := 1) (by decide +kernel)
theorem in_X10_pool_10 : ∀ w ∈ wsX100, w ∈ wsX10_pool := fun w h => List.mem_cons_of_mem _ (List.mem_append_right _ h)
def w_X10_pool_15  (Φ : Int32 → Mm → Prop) : Nat → Int32 → Int32 → Int32 → Int32 → Mm → Prop
  | 0, _, _, _, _, _ => False
  | n + 1, x1, x2, x3, x4, u0 => (if (u0 1 (3 : Int32).toNatClampNeg) ≤ x4 then (if x2 = 0 then (vp_in (((424 : Int32) + ((3 : Int32) * x1)) + x2) 516 ∧ (Φ ((u0 1 (((424 : Int32) + ((3 : Int32) * x1)) + x2).toNatClampNeg)) u0)) else (if x2 = 1 then (vp_in (((424 : Int32) + ((3 : Int32) * x1)) + x2) 516 ∧ (Φ ((u0 1 (((424 : Int32) + ((3 : Int32) * x1)) + x2).toNatClampNeg)) u0)) else (if x2 = 2 then (w_X10_insideBy x1 u0 (fun r8 u7 => (Φ r8 u7))) else (if x2 = 3 then (Φ x3 u0) else (if x2 = 4 then (vp_in (((424 : Int32) + ((3 : Int32) * x1)) + (2 : Int32)) 516 ∧ (Φ ((u0 1 (((424 : Int32) + ((3 : Int32) * x1)) + (2 : Int32)).toNatClampNeg)) u0)) else (Φ ((-2 : Int32)) u0)))))) else (vp_in ((400 : Int32) + ((2 : Int32) * x4)) 516 ∧ (if (u0 1 ((400 : Int32) + ((2 : Int32) * x4)).toNatClampNeg) = x1 then (w_X10_pool_15 Φ n x1 x2 ((x3 + (1 : Int32))) ((x4 + 1)) u0) else (w_X10_pool_15 Φ n x1 x2 ((x3 + (0 : Int32))) ((x4 + 1)) u0))))
set_option maxHeartbeats 4000000 in
set_option maxRecDepth 100000 in
theorem t_X10_pool_15 {p : Program} {l : Launch} {e : Env} {s : State} {m : MethodId} {args : Array Value} {below : List Frame} {meth : Method} {c : Code} {D : va_G} {cA : Nat → ClassId} {o : Nat}  {Φ : Int32 → Mm → Prop} (C : Cx p m meth c s args cX10_pool 5 wsX10_pool RX10 (some .int) D (tysL cA)) : ∀ n : Nat, ∀ (x1 : Int32) (x2 : Int32) (x3 : Int32) (x4 : Int32) (u0 : Mm), ∀ (H : Heap) (locs : List Loc) (ls : Array Slot), Hp 6 o D (EM cA o u0) s H locs → lv_has ls 5 [(0, .ref (o + 0)), (1, .int x1), (2, .int x2), (3, .int x3), (4, .int x4)] → w_X10_pool_15 Φ n x1 x2 x3 x4 u0 → W p l e rm_X10_pool s m args below meth c H locs 0 0 (MQ below (Qg vI Φ (fun μ => Wd 6 o D (tysL cA) (EM cA o μ)) (aA o 6)) args s 0 0 (aA o 6)) (F0 m 15 ls []) := by
  intro n
  induction n with
  | zero => intro x1 x2 x3 x4 u0 H locs ls P hl h; exact h.elim
  | succ n ih =>
    intro x1 x2 x3 x4 u0 H locs ls P hl h
    have hx := C.1.1
    have hb := C.1.2.1
    rw [w_X10_pool_15] at h
    refine lv_iload hx hb dX10_pool_15 (lv_at hl 4 rfl) ?_
    refine lv_aload_n hx hb dX10_pool_17 rfl (lv_at hl 0 rfl) ?_
    refine g_10_0 C P in_X10_pool_10 wd_X10_pool_1 dX10_pool_18 ?_
    refine lv_iconst (v := 3) hx hb dX10_pool_21 (by decide) ?_
    refine mld_1 C P (by unfold vp_in; decide) dX10_pool_22 ?_
    refine lv_icmp_ge (tgt := 57) hx hb dX10_pool_23 (by decide) (fun c4 => ?_) (fun c4 => ?_)
    · have h := ite_t h c4
      refine lv_iload_n hx hb dX10_pool_57 rfl (lv_at hl 2 rfl) ?_
      by_cases c5 : x2 = 0
      · have h := ite_t h c5
        rw [c5]
        refine lv_tableIn (off := 34) (tgt := 92) hx hb dX10_pool_58 (by decide) (by decide) (by decide) (by decide) ?_
        refine lv_aload_n hx hb dX10_pool_92 rfl (lv_at hl 0 rfl) ?_
        refine g_10_0 C P in_X10_pool_10 wd_X10_pool_1 dX10_pool_93 ?_
        refine lv_sipush (v := 424) hx hb dX10_pool_96 (by decide) ?_
        refine lv_iconst (v := 3) hx hb dX10_pool_99 (by decide) ?_
        refine lv_iload_n hx hb dX10_pool_100 rfl (lv_at hl 1 rfl) ?_
        refine lv_imul hx hb dX10_pool_101 ?_
        refine lv_iadd hx hb dX10_pool_102 ?_
        refine lv_iload_n hx hb dX10_pool_103 rfl (lv_at hl 2 rfl) ?_
        refine lv_iadd hx hb dX10_pool_104 ?_
        obtain ⟨hi, h⟩ := h
        refine mld_1 C P hi dX10_pool_105 ?_
        exact r_ireti C P h dX10_pool_106
      have h := ite_f h c5
      by_cases c6 : x2 = 1
      · have h := ite_t h c6
        rw [c6]
        refine lv_tableIn (off := 34) (tgt := 92) hx hb dX10_pool_58 (by decide) (by decide) (by decide) (by decide) ?_
        refine lv_aload_n hx hb dX10_pool_92 rfl (lv_at hl 0 rfl) ?_
        refine g_10_0 C P in_X10_pool_10 wd_X10_pool_1 dX10_pool_93 ?_
        refine lv_sipush (v := 424) hx hb dX10_pool_96 (by decide) ?_
        refine lv_iconst (v := 3) hx hb dX10_pool_99 (by decide) ?_
        refine lv_iload_n hx hb dX10_pool_100 rfl (lv_at hl 1 rfl) ?_
        refine lv_imul hx hb dX10_pool_101 ?_
        refine lv_iadd hx hb dX10_pool_102 ?_
        refine lv_iload_n hx hb dX10_pool_103 rfl (lv_at hl 2 rfl) ?_
        refine lv_iadd hx hb dX10_pool_104 ?_
        obtain ⟨hi, h⟩ := h
        refine mld_1 C P hi dX10_pool_105 ?_
        exact r_ireti C P h dX10_pool_106
      have h := ite_f h c6
      by_cases c9 : x2 = 2
      · have h := ite_t h c9
        rw [c9]
        refine lv_tableIn (off := 49) (tgt := 107) hx hb dX10_pool_58 (by decide) (by decide) (by decide) (by decide) ?_
        refine lv_aload_n hx hb dX10_pool_107 rfl (lv_at hl 0 rfl) ?_
        refine lv_iload_n hx hb dX10_pool_108 rfl (lv_at hl 1 rfl) ?_
        refine r_calli (F := EM cA o) (va_runV (As := [.int x1]) (rest := []) C.1 (c_X10_insideBy l D cA o _ u0 _ h) (cwV 1 C.1.2.2.2.2 gX10_pool_X10_insideBy rfl rfl rfl (by decide +kernel) ⟨Nat.le_of_ble_eq_true rfl, Nat.le_of_ble_eq_true rfl⟩) (r_preV C P [.int x1] (ci := 10) rfl (by decide) EKM_0) rfl rfl hl.1 rfl (lv_room (Nat.le_of_ble_eq_true rfl)) dX10_pool_109 ⟨Nat.le_of_ble_eq_true rfl, Nat.le_of_ble_eq_true rfl⟩) P.2 (fun r8 u7 H locs h P => ?_)
        exact r_ireti C P h dX10_pool_112
      have h := ite_f h c9
      by_cases c10 : x2 = 3
      · have h := ite_t h c10
        rw [c10]
        refine lv_tableIn (off := 55) (tgt := 113) hx hb dX10_pool_58 (by decide) (by decide) (by decide) (by decide) ?_
        refine lv_iload_n hx hb dX10_pool_113 rfl (lv_at hl 3 rfl) ?_
        exact r_ireti C P h dX10_pool_114
      have h := ite_f h c10
      by_cases c11 : x2 = 4
      · have h := ite_t h c11
        rw [c11]
        refine lv_tableIn (off := 57) (tgt := 115) hx hb dX10_pool_58 (by decide) (by decide) (by decide) (by decide) ?_
        refine lv_aload_n hx hb dX10_pool_115 rfl (lv_at hl 0 rfl) ?_
        refine g_10_0 C P in_X10_pool_10 wd_X10_pool_1 dX10_pool_116 ?_
        refine lv_sipush (v := 424) hx hb dX10_pool_119 (by decide) ?_
        refine lv_iconst (v := 3) hx hb dX10_pool_122 (by decide) ?_
        refine lv_iload_n hx hb dX10_pool_123 rfl (lv_at hl 1 rfl) ?_
        refine lv_imul hx hb dX10_pool_124 ?_
        refine lv_iadd hx hb dX10_pool_125 ?_
        refine lv_iconst (v := 2) hx hb dX10_pool_126 (by decide) ?_
        refine lv_iadd hx hb dX10_pool_127 ?_
        obtain ⟨hi, h⟩ := h
        refine mld_1 C P hi dX10_pool_128 ?_
        exact r_ireti C P h dX10_pool_129
      have h := ite_f h c11
      refine lv_tableOut (tgt := 130) hx hb dX10_pool_58 (by have q0 : x2.toInt ≠ 0 := fun e => c5 (Int32.toInt_inj.mp e); have q1 : x2.toInt ≠ 1 := fun e => c6 (Int32.toInt_inj.mp e); have q2 : x2.toInt ≠ 2 := fun e => c9 (Int32.toInt_inj.mp e); have q3 : x2.toInt ≠ 3 := fun e => c10 (Int32.toInt_inj.mp e); have q4 : x2.toInt ≠ 4 := fun e => c11 (Int32.toInt_inj.mp e); omega) (by decide) ?_
      refine lv_bipush (v := -2) hx hb dX10_pool_130 (by decide) ?_
      exact r_ireti C P h dX10_pool_132
    · have h := ite_f h c4
      refine lv_iload_n hx hb dX10_pool_26 rfl (lv_at hl 3 rfl) ?_
      refine lv_aload_n hx hb dX10_pool_27 rfl (lv_at hl 0 rfl) ?_
      refine g_10_0 C P in_X10_pool_10 wd_X10_pool_1 dX10_pool_28 ?_
      refine lv_sipush (v := 400) hx hb dX10_pool_31 (by decide) ?_
      refine lv_iconst (v := 2) hx hb dX10_pool_34 (by decide) ?_
      refine lv_iload hx hb dX10_pool_35 (lv_at hl 4 rfl) ?_
      refine lv_imul hx hb dX10_pool_37 ?_
      refine lv_iadd hx hb dX10_pool_38 ?_
      obtain ⟨hi, h⟩ := h
      refine mld_1 C P hi dX10_pool_39 ?_
      refine lv_iload_n hx hb dX10_pool_40 rfl (lv_at hl 1 rfl) ?_
      refine lv_icmp_ne (tgt := 48) hx hb dX10_pool_41 (by decide) (fun c12 => ?_) (fun c12 => ?_)
      · have h := ite_f h c12
        refine lv_iconst (v := 0) hx hb dX10_pool_48 (by decide) ?_
        refine lv_iadd hx hb dX10_pool_49 ?_
        refine lv_istore_n (lv' := [(3, .int (x3 + (0 : Int32))), (0, .ref (o + 0)), (1, .int x1), (2, .int x2), (4, .int x4)]) hx hb dX10_pool_50 rfl hl (by decide) rfl (fun ls hl => ?_)
        refine lv_iinc (v := (x4 + 1)) (lv' := [(4, .int (x4 + 1)), (3, .int (x3 + (0 : Int32))), (0, .ref (o + 0)), (1, .int x1), (2, .int x2)]) hx hb dX10_pool_51 hl (k := 4) rfl rfl (by decide) rfl (fun ls hl => ?_)
        refine lv_goto (tgt := 15) hx hb dX10_pool_54 (by decide) ?_
        exact ih _ _ _ _ u0 _ _ _ P (lv_sub hl [2, 3, 4, 1, 0] rfl) h
      · have h := ite_t h c12
        refine lv_iconst (v := 1) hx hb dX10_pool_44 (by decide) ?_
        refine lv_goto (tgt := 49) hx hb dX10_pool_45 (by decide) ?_
        refine lv_iadd hx hb dX10_pool_49 ?_
        refine lv_istore_n (lv' := [(3, .int (x3 + (1 : Int32))), (0, .ref (o + 0)), (1, .int x1), (2, .int x2), (4, .int x4)]) hx hb dX10_pool_50 rfl hl (by decide) rfl (fun ls hl => ?_)
        refine lv_iinc (v := (x4 + 1)) (lv' := [(4, .int (x4 + 1)), (3, .int (x3 + (1 : Int32))), (0, .ref (o + 0)), (1, .int x1), (2, .int x2)]) hx hb dX10_pool_51 hl (k := 4) rfl rfl (by decide) rfl (fun ls hl => ?_)
        refine lv_goto (tgt := 15) hx hb dX10_pool_54 (by decide) ?_
        exact ih _ _ _ _ u0 _ _ _ P (lv_sub hl [2, 3, 4, 1, 0] rfl) h
def w_X10_pool (a1 : Int32) (a2 : Int32) (u0 : Mm) (Φ : Int32 → Mm → Prop) : Prop := (w_X10_noPool a1 u0 (fun r2 u1 => (if r2 = 0 then (∃ n15 : Nat, w_X10_pool_15 Φ n15 a1 a2 ((0 : Int32)) ((0 : Int32)) u1) else (Φ ((-1 : Int32)) u1))))
set_option maxHeartbeats 4000000 in
set_option maxRecDepth 100000 in
theorem t_X10_pool_0 {p : Program} {l : Launch} {e : Env} {s : State} {m : MethodId} {args : Array Value} {below : List Frame} {meth : Method} {c : Code} {D : va_G} {cA : Nat → ClassId} {o : Nat}  {Φ : Int32 → Mm → Prop} (C : Cx p m meth c s args cX10_pool 5 wsX10_pool RX10 (some .int) D (tysL cA)) : ∀ (a1 : Int32) (a2 : Int32) (u0 : Mm), ∀ (H : Heap) (locs : List Loc) (ls : Array Slot), Hp 6 o D (EM cA o u0) s H locs → lv_has ls 5 [(0, .ref (o + 0)), (1, .int a1), (2, .int a2)] → w_X10_pool a1 a2 u0 Φ → W p l e rm_X10_pool s m args below meth c H locs 0 0 (MQ below (Qg vI Φ (fun μ => Wd 6 o D (tysL cA) (EM cA o μ)) (aA o 6)) args s 0 0 (aA o 6)) (F0 m 0 ls []) := by
  intro a1 a2 u0 H locs ls P hl h
  have hx := C.1.1
  have hb := C.1.2.1
  unfold w_X10_pool at h
  refine lv_aload_n hx hb dX10_pool_0 rfl (lv_at hl 0 rfl) ?_
  refine lv_iload_n hx hb dX10_pool_1 rfl (lv_at hl 1 rfl) ?_
  refine r_calli (F := EM cA o) (va_runV (As := [.int a1]) (rest := []) C.1 (c_X10_noPool l D cA o _ u0 _ h) (cwV 1 C.1.2.2.2.2 gX10_pool_X10_noPool rfl rfl rfl (by decide +kernel) ⟨Nat.le_of_ble_eq_true rfl, Nat.le_of_ble_eq_true rfl⟩) (r_preV C P [.int a1] (ci := 10) rfl (by decide) EKM_0) rfl rfl hl.1 rfl (lv_room (Nat.le_of_ble_eq_true rfl)) dX10_pool_2 ⟨Nat.le_of_ble_eq_true rfl, Nat.le_of_ble_eq_true rfl⟩) P.2 (fun r2 u1 H locs h P => ?_)
  refine lv_if_eq (tgt := 10) hx hb dX10_pool_5 (by decide) (fun c3 => ?_) (fun c3 => ?_)
  · have h := ite_t h c3
    refine lv_iconst (v := 0) hx hb dX10_pool_10 (by decide) ?_
    refine lv_istore_n (lv' := [(3, .int (0 : Int32)), (0, .ref (o + 0)), (1, .int a1), (2, .int a2)]) hx hb dX10_pool_11 rfl hl (by decide) rfl (fun ls hl => ?_)
    refine lv_iconst (v := 0) hx hb dX10_pool_12 (by decide) ?_
    refine lv_istore (lv' := [(4, .int (0 : Int32)), (3, .int (0 : Int32)), (0, .ref (o + 0)), (1, .int a1), (2, .int a2)]) hx hb dX10_pool_13 hl (by decide) rfl (fun ls hl => ?_)
    obtain ⟨n15, h⟩ := h
    exact t_X10_pool_15 C n15 _ _ _ _ u1 _ _ _ P (lv_sub hl [2, 3, 4, 1, 0] rfl) h
  · have h := ite_f h c3
    refine lv_iconst (v := -1) hx hb dX10_pool_8 (by decide) ?_
    exact r_ireti C P h dX10_pool_9
set_option maxHeartbeats 4000000 in
set_option maxRecDepth 100000 in
theorem c_X10_pool (l : Launch) (D : va_G) (cA : Nat → ClassId) (o : Nat) (a1 : Int32) (a2 : Int32)  (u0 : Mm) (Φ : Int32 → Mm → Prop) (h : w_X10_pool a1 a2 u0 Φ) : Met l yX10_pool wsX10_pool rm_X10_pool (va_Pc [.ref (o + 0), .int a1, .int a2] (Wd 6 o D (tysL cA) (EM cA o u0))) (Qg vI Φ (fun μ => Wd 6 o D (tysL cA) (EM cA o μ)) (aA o 6)) 0 0 (aA o 6) := by
  refine Met.ofW (cc := cX10_pool) (maxL := 5) (ret := (some .int)) (by decide) rfl ?_
  intro p e s m args below meth c s₁ B hml hv
  obtain ⟨rfl, hv⟩ := hv
  have hl := lv_entry ([.ref (o + 0), .int a1, .int a2]) (n := 5) (Nat.le_of_ble_eq_true rfl)
  rw [lg_entry_eq]
  exact t_X10_pool_0 ⟨⟨B.exec, B.bytes, hml, findClass_of_methodNamed B.named, atoms_spec (ws := wsX10_pool) B.pre⟩, B.returns, B.notSynchronized, hv.2⟩ a1 a2 u0 _ _ _ ⟨hv.1, va_S.rf⟩ hl h
abbrev rm_X10_passOf : Room := { frames := 2, cells := 0, slots := 0, locals := 44 }
theorem wd_X10_passOf_1 : Cond.fieldLink RX10 7 "TurnstileBankModel" "row" "[I" ∈ wsX10_passOf := List.mem_of_getElem? (i := 1) (by decide +kernel)
theorem in_X10_passOf_10 : ∀ w ∈ wsX100, w ∈ wsX10_passOf := fun w h => List.mem_cons_of_mem _ (List.mem_append_right _ h)
def w_X10_passOf (a1 : Int32) (a2 : Int32) (u0 : Mm) (Φ : Int32 → Mm → Prop) : Prop := (w_X10_noPass a1 u0 (fun r2 u1 => (if r2 = 0 then (w_X10_in a2 ((0 : Int32)) ((1 : Int32)) u1 (fun r5 u4 => (if r5 = 0 then (if a2 = (2 : Int32) then (w_X10_userOf a1 u4 (fun r9 u8 => (Φ r9 u8))) else (Φ ((-2 : Int32)) u4)) else (vp_in (((400 : Int32) + ((2 : Int32) * a1)) + a2) 516 ∧ (Φ ((u4 1 (((400 : Int32) + ((2 : Int32) * a1)) + a2).toNatClampNeg)) u4))))) else (Φ ((-1 : Int32)) u1))))
set_option maxHeartbeats 4000000 in
set_option maxRecDepth 100000 in
theorem t_X10_passOf_0 {p : Program} {l : Launch} {e : Env} {s : State} {m : MethodId} {args : Array Value} {below : List Frame} {meth : Method} {c : Code} {D : va_G} {cA : Nat → ClassId} {o : Nat}  {Φ : Int32 → Mm → Prop} (C : Cx p m meth c s args cX10_passOf 3 wsX10_passOf RX10 (some .int) D (tysL cA)) : ∀ (a1 : Int32) (a2 : Int32) (u0 : Mm), ∀ (H : Heap) (locs : List Loc) (ls : Array Slot), Hp 6 o D (EM cA o u0) s H locs → lv_has ls 3 [(0, .ref (o + 0)), (1, .int a1), (2, .int a2)] → w_X10_passOf a1 a2 u0 Φ → W p l e rm_X10_passOf s m args below meth c H locs 0 0 (MQ below (Qg vI Φ (fun μ => Wd 6 o D (tysL cA) (EM cA o μ)) (aA o 6)) args s 0 0 (aA o 6)) (F0 m 0 ls []) := by
  intro a1 a2 u0 H locs ls P hl h
  have hx := C.1.1
  have hb := C.1.2.1
  unfold w_X10_passOf at h
  refine lv_aload_n hx hb dX10_passOf_0 rfl (lv_at hl 0 rfl) ?_
  refine lv_iload_n hx hb dX10_passOf_1 rfl (lv_at hl 1 rfl) ?_
  refine r_calli (F := EM cA o) (va_runV (As := [.int a1]) (rest := []) C.1 (c_X10_noPass l D cA o _ u0 _ h) (cwV 1 C.1.2.2.2.2 gX10_passOf_X10_noPass rfl rfl rfl (by decide +kernel) ⟨Nat.le_of_ble_eq_true rfl, Nat.le_of_ble_eq_true rfl⟩) (r_preV C P [.int a1] (ci := 10) rfl (by decide) EKM_0) rfl rfl hl.1 rfl (lv_room (Nat.le_of_ble_eq_true rfl)) dX10_passOf_2 ⟨Nat.le_of_ble_eq_true rfl, Nat.le_of_ble_eq_true rfl⟩) P.2 (fun r2 u1 H locs h P => ?_)
  refine lv_if_eq (tgt := 10) hx hb dX10_passOf_5 (by decide) (fun c3 => ?_) (fun c3 => ?_)
  · have h := ite_t h c3
    refine lv_iload_n hx hb dX10_passOf_10 rfl (lv_at hl 2 rfl) ?_
    refine lv_iconst (v := 0) hx hb dX10_passOf_11 (by decide) ?_
    refine lv_iconst (v := 1) hx hb dX10_passOf_12 (by decide) ?_
    refine r_calli (F := EM cA o) (va_runS (As := [.int a2, .int (0 : Int32), .int (1 : Int32)]) (rest := []) C.1 (c_X10_in l D cA o _ _ _ u1 _ h) (va_cwS 3 C.1.2.2.2.2 gX10_passOf_X10_in rfl rfl rfl (by decide +kernel) ⟨Nat.le_of_ble_eq_true rfl, Nat.le_of_ble_eq_true rfl⟩) (r_pre C P [.int a2, .int (0 : Int32), .int (1 : Int32)]) rfl rfl hl.1 rfl (lv_room (Nat.le_of_ble_eq_true rfl)) dX10_passOf_13 ⟨Nat.le_of_ble_eq_true rfl, Nat.le_of_ble_eq_true rfl⟩) P.2 (fun r5 u4 H locs h P => ?_)
    refine lv_if_eq (tgt := 36) hx hb dX10_passOf_16 (by decide) (fun c6 => ?_) (fun c6 => ?_)
    · have h := ite_t h c6
      refine lv_iload_n hx hb dX10_passOf_36 rfl (lv_at hl 2 rfl) ?_
      refine lv_iconst (v := 2) hx hb dX10_passOf_37 (by decide) ?_
      refine lv_icmp_ne (tgt := 49) hx hb dX10_passOf_38 (by decide) (fun c7 => ?_) (fun c7 => ?_)
      · have h := ite_f h c7
        refine lv_bipush (v := -2) hx hb dX10_passOf_49 (by decide) ?_
        exact r_ireti C P h dX10_passOf_51
      · have h := ite_t h c7
        refine lv_aload_n hx hb dX10_passOf_41 rfl (lv_at hl 0 rfl) ?_
        refine lv_iload_n hx hb dX10_passOf_42 rfl (lv_at hl 1 rfl) ?_
        refine r_calli (F := EM cA o) (va_runV (As := [.int a1]) (rest := []) C.1 (c_X10_userOf l D cA o _ u4 _ h) (cwV 1 C.1.2.2.2.2 gX10_passOf_X10_userOf rfl rfl rfl (by decide +kernel) ⟨Nat.le_of_ble_eq_true rfl, Nat.le_of_ble_eq_true rfl⟩) (r_preV C P [.int a1] (ci := 10) rfl (by decide) EKM_0) rfl rfl hl.1 rfl (lv_room (Nat.le_of_ble_eq_true rfl)) dX10_passOf_43 ⟨Nat.le_of_ble_eq_true rfl, Nat.le_of_ble_eq_true rfl⟩) P.2 (fun r9 u8 H locs h P => ?_)
        refine lv_goto (tgt := 51) hx hb dX10_passOf_46 (by decide) ?_
        exact r_ireti C P h dX10_passOf_51
    · have h := ite_f h c6
      refine lv_aload_n hx hb dX10_passOf_19 rfl (lv_at hl 0 rfl) ?_
      refine g_10_0 C P in_X10_passOf_10 wd_X10_passOf_1 dX10_passOf_20 ?_
      refine lv_sipush (v := 400) hx hb dX10_passOf_23 (by decide) ?_
      refine lv_iconst (v := 2) hx hb dX10_passOf_26 (by decide) ?_
      refine lv_iload_n hx hb dX10_passOf_27 rfl (lv_at hl 1 rfl) ?_
      refine lv_imul hx hb dX10_passOf_28 ?_
      refine lv_iadd hx hb dX10_passOf_29 ?_
      refine lv_iload_n hx hb dX10_passOf_30 rfl (lv_at hl 2 rfl) ?_
      refine lv_iadd hx hb dX10_passOf_31 ?_
      obtain ⟨hi, h⟩ := h
      refine mld_1 C P hi dX10_passOf_32 ?_
      refine lv_goto (tgt := 51) hx hb dX10_passOf_33 (by decide) ?_
      exact r_ireti C P h dX10_passOf_51
  · have h := ite_f h c3
    refine lv_iconst (v := -1) hx hb dX10_passOf_8 (by decide) ?_
    exact r_ireti C P h dX10_passOf_9
set_option maxHeartbeats 4000000 in
set_option maxRecDepth 100000 in
theorem c_X10_passOf (l : Launch) (D : va_G) (cA : Nat → ClassId) (o : Nat) (a1 : Int32) (a2 : Int32)  (u0 : Mm) (Φ : Int32 → Mm → Prop) (h : w_X10_passOf a1 a2 u0 Φ) : Met l yX10_passOf wsX10_passOf rm_X10_passOf (va_Pc [.ref (o + 0), .int a1, .int a2] (Wd 6 o D (tysL cA) (EM cA o u0))) (Qg vI Φ (fun μ => Wd 6 o D (tysL cA) (EM cA o μ)) (aA o 6)) 0 0 (aA o 6) := by
  refine Met.ofW (cc := cX10_passOf) (maxL := 3) (ret := (some .int)) (by decide) rfl ?_
  intro p e s m args below meth c s₁ B hml hv
  obtain ⟨rfl, hv⟩ := hv
  have hl := lv_entry ([.ref (o + 0), .int a1, .int a2]) (n := 3) (Nat.le_of_ble_eq_true rfl)
  rw [lg_entry_eq]
  exact t_X10_passOf_0 ⟨⟨B.exec, B.bytes, hml, findClass_of_methodNamed B.named, atoms_spec (ws := wsX10_passOf) B.pre⟩, B.returns, B.notSynchronized, hv.2⟩ a1 a2 u0 _ _ _ ⟨hv.1, va_S.rf⟩ hl h
abbrev rm_X10_event : Room := { frames := 1, cells := 0, slots := 0, locals := 22 }
theorem wd_X10_event_1 : Cond.fieldLink RX10 7 "TurnstileBankModel" "row" "[I" ∈ wsX10_event := List.mem_of_getElem? (i := 1) (by decide +kernel)
theorem in_X10_event_10 : ∀ w ∈ wsX100, w ∈ wsX10_event := fun w h => List.mem_cons_of_mem _ (List.mem_append_right _ h)
def w_X10_event (a1 : Int32) (a2 : Int32) (u0 : Mm) (Φ : Int32 → Mm → Prop) : Prop := (if a1 < 0 then (Φ ((-2 : Int32)) u0) else (w_X10_in a2 ((0 : Int32)) ((3 : Int32)) u0 (fun r3 u2 => (if r3 = 0 then (Φ ((-2 : Int32)) u2) else (if (u2 1 (5 : Int32).toNatClampNeg) ≤ a1 then (Φ ((-5 : Int32)) u2) else (vp_in (((436 : Int32) + ((4 : Int32) * a1)) + a2) 516 ∧ (Φ ((u2 1 (((436 : Int32) + ((4 : Int32) * a1)) + a2).toNatClampNeg)) u2)))))))
set_option maxHeartbeats 4000000 in
set_option maxRecDepth 100000 in
theorem t_X10_event_0 {p : Program} {l : Launch} {e : Env} {s : State} {m : MethodId} {args : Array Value} {below : List Frame} {meth : Method} {c : Code} {D : va_G} {cA : Nat → ClassId} {o : Nat}  {Φ : Int32 → Mm → Prop} (C : Cx p m meth c s args cX10_event 3 wsX10_event RX10 (some .int) D (tysL cA)) : ∀ (a1 : Int32) (a2 : Int32) (u0 : Mm), ∀ (H : Heap) (locs : List Loc) (ls : Array Slot), Hp 6 o D (EM cA o u0) s H locs → lv_has ls 3 [(0, .ref (o + 0)), (1, .int a1), (2, .int a2)] → w_X10_event a1 a2 u0 Φ → W p l e rm_X10_event s m args below meth c H locs 0 0 (MQ below (Qg vI Φ (fun μ => Wd 6 o D (tysL cA) (EM cA o μ)) (aA o 6)) args s 0 0 (aA o 6)) (F0 m 0 ls []) := by
  intro a1 a2 u0 H locs ls P hl h
  have hx := C.1.1
  have hb := C.1.2.1
  unfold w_X10_event at h
  refine lv_iload_n hx hb dX10_event_0 rfl (lv_at hl 1 rfl) ?_
  refine lv_if_lt (tgt := 13) hx hb dX10_event_1 (by decide) (fun c1 => ?_) (fun c1 => ?_)
  · have h := ite_t h c1
    refine lv_bipush (v := -2) hx hb dX10_event_13 (by decide) ?_
    exact r_ireti C P h dX10_event_15
  · have h := ite_f h c1
    refine lv_iload_n hx hb dX10_event_4 rfl (lv_at hl 2 rfl) ?_
    refine lv_iconst (v := 0) hx hb dX10_event_5 (by decide) ?_
    refine lv_iconst (v := 3) hx hb dX10_event_6 (by decide) ?_
    refine r_calli (F := EM cA o) (va_runS (As := [.int a2, .int (0 : Int32), .int (3 : Int32)]) (rest := []) C.1 (c_X10_in l D cA o _ _ _ u0 _ h) (va_cwS 3 C.1.2.2.2.2 gX10_event_X10_in rfl rfl rfl (by decide +kernel) ⟨Nat.le_of_ble_eq_true rfl, Nat.le_of_ble_eq_true rfl⟩) (r_pre C P [.int a2, .int (0 : Int32), .int (3 : Int32)]) rfl rfl hl.1 rfl (lv_room (Nat.le_of_ble_eq_true rfl)) dX10_event_7 ⟨Nat.le_of_ble_eq_true rfl, Nat.le_of_ble_eq_true rfl⟩) P.2 (fun r3 u2 H locs h P => ?_)
    refine lv_if_ne (tgt := 16) hx hb dX10_event_10 (by decide) (fun c4 => ?_) (fun c4 => ?_)
    · have h := ite_f h c4
      refine lv_iload_n hx hb dX10_event_16 rfl (lv_at hl 1 rfl) ?_
      refine lv_aload_n hx hb dX10_event_17 rfl (lv_at hl 0 rfl) ?_
      refine g_10_0 C P in_X10_event_10 wd_X10_event_1 dX10_event_18 ?_
      refine lv_iconst (v := 5) hx hb dX10_event_21 (by decide) ?_
      refine mld_1 C P (by unfold vp_in; decide) dX10_event_22 ?_
      refine lv_icmp_ge (tgt := 43) hx hb dX10_event_23 (by decide) (fun c5 => ?_) (fun c5 => ?_)
      · have h := ite_t h c5
        refine lv_bipush (v := -5) hx hb dX10_event_43 (by decide) ?_
        exact r_ireti C P h dX10_event_45
      · have h := ite_f h c5
        refine lv_aload_n hx hb dX10_event_26 rfl (lv_at hl 0 rfl) ?_
        refine g_10_0 C P in_X10_event_10 wd_X10_event_1 dX10_event_27 ?_
        refine lv_sipush (v := 436) hx hb dX10_event_30 (by decide) ?_
        refine lv_iconst (v := 4) hx hb dX10_event_33 (by decide) ?_
        refine lv_iload_n hx hb dX10_event_34 rfl (lv_at hl 1 rfl) ?_
        refine lv_imul hx hb dX10_event_35 ?_
        refine lv_iadd hx hb dX10_event_36 ?_
        refine lv_iload_n hx hb dX10_event_37 rfl (lv_at hl 2 rfl) ?_
        refine lv_iadd hx hb dX10_event_38 ?_
        obtain ⟨hi, h⟩ := h
        refine mld_1 C P hi dX10_event_39 ?_
        refine lv_goto (tgt := 45) hx hb dX10_event_40 (by decide) ?_
        exact r_ireti C P h dX10_event_45
    · have h := ite_t h c4
      refine lv_bipush (v := -2) hx hb dX10_event_13 (by decide) ?_
      exact r_ireti C P h dX10_event_15
set_option maxHeartbeats 4000000 in
set_option maxRecDepth 100000 in
theorem c_X10_event (l : Launch) (D : va_G) (cA : Nat → ClassId) (o : Nat) (a1 : Int32) (a2 : Int32)  (u0 : Mm) (Φ : Int32 → Mm → Prop) (h : w_X10_event a1 a2 u0 Φ) : Met l yX10_event wsX10_event rm_X10_event (va_Pc [.ref (o + 0), .int a1, .int a2] (Wd 6 o D (tysL cA) (EM cA o u0))) (Qg vI Φ (fun μ => Wd 6 o D (tysL cA) (EM cA o μ)) (aA o 6)) 0 0 (aA o 6) := by
  refine Met.ofW (cc := cX10_event) (maxL := 3) (ret := (some .int)) (by decide) rfl ?_
  intro p e s m args below meth c s₁ B hml hv
  obtain ⟨rfl, hv⟩ := hv
  have hl := lv_entry ([.ref (o + 0), .int a1, .int a2]) (n := 3) (Nat.le_of_ble_eq_true rfl)
  rw [lg_entry_eq]
  exact t_X10_event_0 ⟨⟨B.exec, B.bytes, hml, findClass_of_methodNamed B.named, atoms_spec (ws := wsX10_event) B.pre⟩, B.returns, B.notSynchronized, hv.2⟩ a1 a2 u0 _ _ _ ⟨hv.1, va_S.rf⟩ hl h
