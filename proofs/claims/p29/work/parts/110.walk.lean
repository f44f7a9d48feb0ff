abbrev rm_X9_count : Room := { frames := 2, cells := 0, slots := 0, locals := 43 }
theorem wd_X9_count_1 : Cond.fieldLink RX9 10 "TurnstileBank" "now" "LTurnstileBank$State;" ∈ wsX9_count := List.mem_of_getElem? (i := 1) (by decide +kernel)
theorem wd_X9_count_2 : Cond.fieldLink RX9 200 "TurnstileBank$State" "time" "I" ∈ wsX9_count := List.mem_of_getElem? (i := 2) (by decide +kernel)
theorem wd_X9_count_3 : Cond.fieldLink RX9 102 "TurnstileBank$State" "gateCount" "I" ∈ wsX9_count := List.mem_of_getElem? (i := 3) (by decide +kernel)
theorem wd_X9_count_4 : Cond.fieldLink RX9 254 "TurnstileBank$State" "personCount" "I" ∈ wsX9_count := List.mem_of_getElem? (i := 4) (by decide +kernel)
theorem wd_X9_count_5 : Cond.fieldLink RX9 266 "TurnstileBank$State" "fare" "I" ∈ wsX9_count := List.mem_of_getElem? (i := 5) (by decide +kernel)
theorem wd_X9_count_6 : Cond.fieldLink RX9 22 "TurnstileBank" "history" "LTurnstileBank$History;" ∈ wsX9_count := List.mem_of_getElem? (i := 6) (by decide +kernel)
theorem wd_X9_count_7 : Cond.fieldLink RX9 118 "TurnstileBank$History" "length" "I" ∈ wsX9_count := List.mem_of_getElem? (i := 7) (by decide +kernel)
theorem wd_X9_count_8 : Cond.fieldLink RX9 29 "TurnstileBank" "orders" "LTurnstileBank$Orders;" ∈ wsX9_count := List.mem_of_getElem? (i := 8) (by decide +kernel)
theorem wd_X9_count_9 : Cond.fieldLink RX9 272 "TurnstileBank$Orders" "length" "I" ∈ wsX9_count := List.mem_of_getElem? (i := 9) (by decide +kernel)
theorem in_X9_count_2 : ∀ w ∈ wsX20, w ∈ wsX9_count := fun w h => List.mem_cons_of_mem _ (List.mem_append_left _ (List.mem_append_left _ (List.mem_append_left _ (List.mem_append_left _ (List.mem_append_left _ (List.mem_append_right _ h))))))
theorem in_X9_count_3 : ∀ w ∈ wsX30, w ∈ wsX9_count := fun w h => List.mem_cons_of_mem _ (List.mem_append_left _ (List.mem_append_left _ (List.mem_append_left _ (List.mem_append_left _ (List.mem_append_right _ h)))))
theorem in_X9_count_8 : ∀ w ∈ wsX80, w ∈ wsX9_count := fun w h => List.mem_cons_of_mem _ (List.mem_append_left _ (List.mem_append_left _ (List.mem_append_left _ (List.mem_append_left _ (List.mem_append_left _ (List.mem_append_left _ (List.mem_append_right _ h)))))))
theorem in_X9_count_9 : ∀ w ∈ wsX90, w ∈ wsX9_count := fun w h => List.mem_cons_of_mem _ (List.mem_append_left _ (List.mem_append_left _ (List.mem_append_left _ (List.mem_append_left _ (List.mem_append_left _ (List.mem_append_left _ (List.mem_append_left _ (List.mem_append_right _ h))))))))
def w_X9_count (a1 : Int32) (u0 : Mm) (Φ : Int32 → Mm → Prop) : Prop := (if a1 = 0 then (Φ ((u0 1 9)) u0) else (if a1 = 1 then (Φ ((u0 1 5)) u0) else (if a1 = 2 then (Φ ((u0 1 6)) u0) else (if a1 = 3 then (w_X8_peopleWhoAre 1 ((3 : Int32)) u0 (fun r5 u4 => (w_X8_peopleWhoAre 1 ((4 : Int32)) u4 (fun r7 u6 => (Φ ((r5 + r7)) u6))))) else (if a1 = 4 then (w_X8_peopleWhoAre 1 ((1 : Int32)) u0 (fun r10 u9 => (Φ r10 u9))) else (if a1 = 5 then (w_X8_peopleWhoAre 1 ((2 : Int32)) u0 (fun r13 u12 => (Φ r13 u12))) else (if a1 = 6 then (w_X8_peopleWhoAre 1 ((5 : Int32)) u0 (fun r16 u15 => (Φ r16 u15))) else (if a1 = 7 then (w_X8_allRefusals 1 u0 (fun r19 u18 => (Φ r19 u18))) else (if a1 = 8 then (w_X8_allFares 1 u0 (fun r22 u21 => (Φ r22 u21))) else (if a1 = 9 then (Φ ((u0 1 10)) u0) else (if a1 = 10 then (w_X8_busiestGate 1 u0 (fun r26 u25 => (Φ r26 u25))) else (if a1 = 11 then (Φ ((u0 213 2)) u0) else (if a1 = 12 then (Φ ((u0 745 1)) u0) else (Φ ((-2 : Int32)) u0))))))))))))))
set_option maxHeartbeats 4000000 in
set_option maxRecDepth 100000 in
theorem t_X9_count_0 {p : Program} {l : Launch} {e : Env} {s : State} {m : MethodId} {args : Array Value} {below : List Frame} {meth : Method} {c : Code} {D : va_G} {cA : Nat → ClassId} {o : Nat}  {Φ : Int32 → Mm → Prop} (C : Cx p m meth c s args cX9_count 2 wsX9_count RX9 (some .int) D (tysL cA)) : ∀ (a1 : Int32) (u0 : Mm), ∀ (H : Heap) (locs : List Loc) (ls : Array Slot), Hp 747 o D (EC cA o u0) s H locs → lv_has ls 2 [(0, .ref (o + 0)), (1, .int a1)] → w_X9_count a1 u0 Φ → W p l e rm_X9_count s m args below meth c H locs 0 0 (MQ below (Qg vI Φ (fun μ => Wd 747 o D (tysL cA) (EC cA o μ)) (aA o 747)) args s 0 0 (aA o 747)) (F0 m 0 ls []) := by
  intro a1 u0 H locs ls P hl h
  have hx := C.1.1
  have hb := C.1.2.1
  unfold w_X9_count at h
  refine lv_iload_n hx hb dX9_count_0 rfl (lv_at hl 1 rfl) ?_
  by_cases c1 : a1 = 0
  · have h := ite_t h c1
    rw [c1]
    refine lv_tableIn (off := 67) (tgt := 68) hx hb dX9_count_1 (by decide) (by decide) (by decide) (by decide) ?_
    refine lv_aload_n hx hb dX9_count_68 rfl (lv_at hl 0 rfl) ?_
    refine g_9_0 C P in_X9_count_9 wd_X9_count_1 kd_at_0 dX9_count_69 ?_
    refine g_8_9 C P in_X9_count_8 wd_X9_count_2 kd_at_1 dX9_count_72 ?_
    exact r_ireti C P h dX9_count_75
  have h := ite_f h c1
  by_cases c2 : a1 = 1
  · have h := ite_t h c2
    rw [c2]
    refine lv_tableIn (off := 75) (tgt := 76) hx hb dX9_count_1 (by decide) (by decide) (by decide) (by decide) ?_
    refine lv_aload_n hx hb dX9_count_76 rfl (lv_at hl 0 rfl) ?_
    refine g_9_0 C P in_X9_count_9 wd_X9_count_1 kd_at_0 dX9_count_77 ?_
    refine g_8_5 C P in_X9_count_8 wd_X9_count_3 kd_at_1 dX9_count_80 ?_
    exact r_ireti C P h dX9_count_83
  have h := ite_f h c2
  by_cases c3 : a1 = 2
  · have h := ite_t h c3
    rw [c3]
    refine lv_tableIn (off := 83) (tgt := 84) hx hb dX9_count_1 (by decide) (by decide) (by decide) (by decide) ?_
    refine lv_aload_n hx hb dX9_count_84 rfl (lv_at hl 0 rfl) ?_
    refine g_9_0 C P in_X9_count_9 wd_X9_count_1 kd_at_0 dX9_count_85 ?_
    refine g_8_6 C P in_X9_count_8 wd_X9_count_4 kd_at_1 dX9_count_88 ?_
    exact r_ireti C P h dX9_count_91
  have h := ite_f h c3
  by_cases c8 : a1 = 3
  · have h := ite_t h c8
    rw [c8]
    refine lv_tableIn (off := 91) (tgt := 92) hx hb dX9_count_1 (by decide) (by decide) (by decide) (by decide) ?_
    refine lv_aload_n hx hb dX9_count_92 rfl (lv_at hl 0 rfl) ?_
    refine g_9_0 C P in_X9_count_9 wd_X9_count_1 kd_at_0 dX9_count_93 ?_
    refine lv_iconst (v := 3) hx hb dX9_count_96 (by decide) ?_
    refine r_calli (F := EC cA o) (va_runV (As := [.int (3 : Int32)]) (rest := []) C.1 (c_X8_peopleWhoAre l D cA o _ _ kd_at_1 u0 _ h) (cwV 1 C.1.2.2.2.2 gX9_count_X8_peopleWhoAre rfl rfl rfl (by decide +kernel) ⟨Nat.le_of_ble_eq_true rfl, Nat.le_of_ble_eq_true rfl⟩) (r_preV C P [.int (3 : Int32)] (ci := 8) rfl (kd_lt kd_at_1 (by decide)) (EK_8 kd_at_1)) rfl rfl hl.1 rfl (lv_room (Nat.le_of_ble_eq_true rfl)) dX9_count_97 ⟨Nat.le_of_ble_eq_true rfl, Nat.le_of_ble_eq_true rfl⟩) P.2 (fun r5 u4 H locs h P => ?_)
    refine lv_aload_n hx hb dX9_count_100 rfl (lv_at hl 0 rfl) ?_
    refine g_9_0 C P in_X9_count_9 wd_X9_count_1 kd_at_0 dX9_count_101 ?_
    refine lv_iconst (v := 4) hx hb dX9_count_104 (by decide) ?_
    refine r_calli (F := EC cA o) (va_runV (As := [.int (4 : Int32)]) (rest := [.int r5]) C.1 (c_X8_peopleWhoAre l D cA o _ _ kd_at_1 u4 _ h) (cwV 1 C.1.2.2.2.2 gX9_count_X8_peopleWhoAre rfl rfl rfl (by decide +kernel) ⟨Nat.le_of_ble_eq_true rfl, Nat.le_of_ble_eq_true rfl⟩) (r_preV C P [.int (4 : Int32)] (ci := 8) rfl (kd_lt kd_at_1 (by decide)) (EK_8 kd_at_1)) rfl rfl hl.1 rfl (lv_room (Nat.le_of_ble_eq_true rfl)) dX9_count_105 ⟨Nat.le_of_ble_eq_true rfl, Nat.le_of_ble_eq_true rfl⟩) P.2 (fun r7 u6 H locs h P => ?_)
    refine lv_iadd hx hb dX9_count_108 ?_
    exact r_ireti C P h dX9_count_109
  have h := ite_f h c8
  by_cases c11 : a1 = 4
  · have h := ite_t h c11
    rw [c11]
    refine lv_tableIn (off := 109) (tgt := 110) hx hb dX9_count_1 (by decide) (by decide) (by decide) (by decide) ?_
    refine lv_aload_n hx hb dX9_count_110 rfl (lv_at hl 0 rfl) ?_
    refine g_9_0 C P in_X9_count_9 wd_X9_count_1 kd_at_0 dX9_count_111 ?_
    refine lv_iconst (v := 1) hx hb dX9_count_114 (by decide) ?_
    refine r_calli (F := EC cA o) (va_runV (As := [.int (1 : Int32)]) (rest := []) C.1 (c_X8_peopleWhoAre l D cA o _ _ kd_at_1 u0 _ h) (cwV 1 C.1.2.2.2.2 gX9_count_X8_peopleWhoAre rfl rfl rfl (by decide +kernel) ⟨Nat.le_of_ble_eq_true rfl, Nat.le_of_ble_eq_true rfl⟩) (r_preV C P [.int (1 : Int32)] (ci := 8) rfl (kd_lt kd_at_1 (by decide)) (EK_8 kd_at_1)) rfl rfl hl.1 rfl (lv_room (Nat.le_of_ble_eq_true rfl)) dX9_count_115 ⟨Nat.le_of_ble_eq_true rfl, Nat.le_of_ble_eq_true rfl⟩) P.2 (fun r10 u9 H locs h P => ?_)
    exact r_ireti C P h dX9_count_118
  have h := ite_f h c11
  by_cases c14 : a1 = 5
  · have h := ite_t h c14
    rw [c14]
    refine lv_tableIn (off := 118) (tgt := 119) hx hb dX9_count_1 (by decide) (by decide) (by decide) (by decide) ?_
    refine lv_aload_n hx hb dX9_count_119 rfl (lv_at hl 0 rfl) ?_
    refine g_9_0 C P in_X9_count_9 wd_X9_count_1 kd_at_0 dX9_count_120 ?_
    refine lv_iconst (v := 2) hx hb dX9_count_123 (by decide) ?_
    refine r_calli (F := EC cA o) (va_runV (As := [.int (2 : Int32)]) (rest := []) C.1 (c_X8_peopleWhoAre l D cA o _ _ kd_at_1 u0 _ h) (cwV 1 C.1.2.2.2.2 gX9_count_X8_peopleWhoAre rfl rfl rfl (by decide +kernel) ⟨Nat.le_of_ble_eq_true rfl, Nat.le_of_ble_eq_true rfl⟩) (r_preV C P [.int (2 : Int32)] (ci := 8) rfl (kd_lt kd_at_1 (by decide)) (EK_8 kd_at_1)) rfl rfl hl.1 rfl (lv_room (Nat.le_of_ble_eq_true rfl)) dX9_count_124 ⟨Nat.le_of_ble_eq_true rfl, Nat.le_of_ble_eq_true rfl⟩) P.2 (fun r13 u12 H locs h P => ?_)
    exact r_ireti C P h dX9_count_127
  have h := ite_f h c14
  by_cases c17 : a1 = 6
  · have h := ite_t h c17
    rw [c17]
    refine lv_tableIn (off := 127) (tgt := 128) hx hb dX9_count_1 (by decide) (by decide) (by decide) (by decide) ?_
    refine lv_aload_n hx hb dX9_count_128 rfl (lv_at hl 0 rfl) ?_
    refine g_9_0 C P in_X9_count_9 wd_X9_count_1 kd_at_0 dX9_count_129 ?_
    refine lv_iconst (v := 5) hx hb dX9_count_132 (by decide) ?_
    refine r_calli (F := EC cA o) (va_runV (As := [.int (5 : Int32)]) (rest := []) C.1 (c_X8_peopleWhoAre l D cA o _ _ kd_at_1 u0 _ h) (cwV 1 C.1.2.2.2.2 gX9_count_X8_peopleWhoAre rfl rfl rfl (by decide +kernel) ⟨Nat.le_of_ble_eq_true rfl, Nat.le_of_ble_eq_true rfl⟩) (r_preV C P [.int (5 : Int32)] (ci := 8) rfl (kd_lt kd_at_1 (by decide)) (EK_8 kd_at_1)) rfl rfl hl.1 rfl (lv_room (Nat.le_of_ble_eq_true rfl)) dX9_count_133 ⟨Nat.le_of_ble_eq_true rfl, Nat.le_of_ble_eq_true rfl⟩) P.2 (fun r16 u15 H locs h P => ?_)
    exact r_ireti C P h dX9_count_136
  have h := ite_f h c17
  by_cases c20 : a1 = 7
  · have h := ite_t h c20
    rw [c20]
    refine lv_tableIn (off := 136) (tgt := 137) hx hb dX9_count_1 (by decide) (by decide) (by decide) (by decide) ?_
    refine lv_aload_n hx hb dX9_count_137 rfl (lv_at hl 0 rfl) ?_
    refine g_9_0 C P in_X9_count_9 wd_X9_count_1 kd_at_0 dX9_count_138 ?_
    refine r_calli (F := EC cA o) (va_runV (As := []) (rest := []) C.1 (c_X8_allRefusals l D cA o _ kd_at_1 u0 _ h) (cwV 0 C.1.2.2.2.2 gX9_count_X8_allRefusals rfl rfl rfl (by decide +kernel) ⟨Nat.le_of_ble_eq_true rfl, Nat.le_of_ble_eq_true rfl⟩) (r_preV C P [] (ci := 8) rfl (kd_lt kd_at_1 (by decide)) (EK_8 kd_at_1)) rfl rfl hl.1 rfl (lv_room (Nat.le_of_ble_eq_true rfl)) dX9_count_141 ⟨Nat.le_of_ble_eq_true rfl, Nat.le_of_ble_eq_true rfl⟩) P.2 (fun r19 u18 H locs h P => ?_)
    exact r_ireti C P h dX9_count_144
  have h := ite_f h c20
  by_cases c23 : a1 = 8
  · have h := ite_t h c23
    rw [c23]
    refine lv_tableIn (off := 144) (tgt := 145) hx hb dX9_count_1 (by decide) (by decide) (by decide) (by decide) ?_
    refine lv_aload_n hx hb dX9_count_145 rfl (lv_at hl 0 rfl) ?_
    refine g_9_0 C P in_X9_count_9 wd_X9_count_1 kd_at_0 dX9_count_146 ?_
    refine r_calli (F := EC cA o) (va_runV (As := []) (rest := []) C.1 (c_X8_allFares l D cA o _ kd_at_1 u0 _ h) (cwV 0 C.1.2.2.2.2 gX9_count_X8_allFares rfl rfl rfl (by decide +kernel) ⟨Nat.le_of_ble_eq_true rfl, Nat.le_of_ble_eq_true rfl⟩) (r_preV C P [] (ci := 8) rfl (kd_lt kd_at_1 (by decide)) (EK_8 kd_at_1)) rfl rfl hl.1 rfl (lv_room (Nat.le_of_ble_eq_true rfl)) dX9_count_149 ⟨Nat.le_of_ble_eq_true rfl, Nat.le_of_ble_eq_true rfl⟩) P.2 (fun r22 u21 H locs h P => ?_)
    exact r_ireti C P h dX9_count_152
  have h := ite_f h c23
  by_cases c24 : a1 = 9
  · have h := ite_t h c24
    rw [c24]
    refine lv_tableIn (off := 152) (tgt := 153) hx hb dX9_count_1 (by decide) (by decide) (by decide) (by decide) ?_
    refine lv_aload_n hx hb dX9_count_153 rfl (lv_at hl 0 rfl) ?_
    refine g_9_0 C P in_X9_count_9 wd_X9_count_1 kd_at_0 dX9_count_154 ?_
    refine g_8_10 C P in_X9_count_8 wd_X9_count_5 kd_at_1 dX9_count_157 ?_
    exact r_ireti C P h dX9_count_160
  have h := ite_f h c24
  by_cases c27 : a1 = 10
  · have h := ite_t h c27
    rw [c27]
    refine lv_tableIn (off := 160) (tgt := 161) hx hb dX9_count_1 (by decide) (by decide) (by decide) (by decide) ?_
    refine lv_aload_n hx hb dX9_count_161 rfl (lv_at hl 0 rfl) ?_
    refine g_9_0 C P in_X9_count_9 wd_X9_count_1 kd_at_0 dX9_count_162 ?_
    refine r_calli (F := EC cA o) (va_runV (As := []) (rest := []) C.1 (c_X8_busiestGate l D cA o _ kd_at_1 u0 _ h) (cwV 0 C.1.2.2.2.2 gX9_count_X8_busiestGate rfl rfl rfl (by decide +kernel) ⟨Nat.le_of_ble_eq_true rfl, Nat.le_of_ble_eq_true rfl⟩) (r_preV C P [] (ci := 8) rfl (kd_lt kd_at_1 (by decide)) (EK_8 kd_at_1)) rfl rfl hl.1 rfl (lv_room (Nat.le_of_ble_eq_true rfl)) dX9_count_165 ⟨Nat.le_of_ble_eq_true rfl, Nat.le_of_ble_eq_true rfl⟩) P.2 (fun r26 u25 H locs h P => ?_)
    exact r_ireti C P h dX9_count_168
  have h := ite_f h c27
  by_cases c28 : a1 = 11
  · have h := ite_t h c28
    rw [c28]
    refine lv_tableIn (off := 168) (tgt := 169) hx hb dX9_count_1 (by decide) (by decide) (by decide) (by decide) ?_
    refine lv_aload_n hx hb dX9_count_169 rfl (lv_at hl 0 rfl) ?_
    refine g_9_2 C P in_X9_count_9 wd_X9_count_6 kd_at_0 dX9_count_170 ?_
    refine g_2_2 C P in_X9_count_2 wd_X9_count_7 kd_at_213 dX9_count_173 ?_
    exact r_ireti C P h dX9_count_176
  have h := ite_f h c28
  by_cases c29 : a1 = 12
  · have h := ite_t h c29
    rw [c29]
    refine lv_tableIn (off := 176) (tgt := 177) hx hb dX9_count_1 (by decide) (by decide) (by decide) (by decide) ?_
    refine lv_aload_n hx hb dX9_count_177 rfl (lv_at hl 0 rfl) ?_
    refine g_9_3 C P in_X9_count_9 wd_X9_count_8 kd_at_0 dX9_count_178 ?_
    refine g_3_1 C P in_X9_count_3 wd_X9_count_9 kd_at_745 dX9_count_181 ?_
    exact r_ireti C P h dX9_count_184
  have h := ite_f h c29
  refine lv_tableOut (tgt := 185) hx hb dX9_count_1 (by have q0 : a1.toInt ≠ 0 := fun e => c1 (Int32.toInt_inj.mp e); have q1 : a1.toInt ≠ 1 := fun e => c2 (Int32.toInt_inj.mp e); have q2 : a1.toInt ≠ 2 := fun e => c3 (Int32.toInt_inj.mp e); have q3 : a1.toInt ≠ 3 := fun e => c8 (Int32.toInt_inj.mp e); have q4 : a1.toInt ≠ 4 := fun e => c11 (Int32.toInt_inj.mp e); have q5 : a1.toInt ≠ 5 := fun e => c14 (Int32.toInt_inj.mp e); have q6 : a1.toInt ≠ 6 := fun e => c17 (Int32.toInt_inj.mp e); have q7 : a1.toInt ≠ 7 := fun e => c20 (Int32.toInt_inj.mp e); have q8 : a1.toInt ≠ 8 := fun e => c23 (Int32.toInt_inj.mp e); have q9 : a1.toInt ≠ 9 := fun e => c24 (Int32.toInt_inj.mp e); have q10 : a1.toInt ≠ 10 := fun e => c27 (Int32.toInt_inj.mp e); have q11 : a1.toInt ≠ 11 := fun e => c28 (Int32.toInt_inj.mp e); have q12 : a1.toInt ≠ 12 := fun e => c29 (Int32.toInt_inj.mp e); omega) (by decide) ?_
  refine lv_bipush (v := -2) hx hb dX9_count_185 (by decide) ?_
  exact r_ireti C P h dX9_count_187
set_option maxHeartbeats 4000000 in
set_option maxRecDepth 100000 in
theorem c_X9_count (l : Launch) (D : va_G) (cA : Nat → ClassId) (o : Nat) (a1 : Int32)  (u0 : Mm) (Φ : Int32 → Mm → Prop) (h : w_X9_count a1 u0 Φ) : Met l yX9_count wsX9_count rm_X9_count (va_Pc [.ref (o + 0), .int a1] (Wd 747 o D (tysL cA) (EC cA o u0))) (Qg vI Φ (fun μ => Wd 747 o D (tysL cA) (EC cA o μ)) (aA o 747)) 0 0 (aA o 747) := by
  refine Met.ofW (cc := cX9_count) (maxL := 2) (ret := (some .int)) (by decide) rfl ?_
  intro p e s m args below meth c s₁ B hml hv
  obtain ⟨rfl, hv⟩ := hv
  have hl := lv_entry ([.ref (o + 0), .int a1]) (n := 2) (Nat.le_of_ble_eq_true rfl)
  rw [lg_entry_eq]
  exact t_X9_count_0 ⟨⟨B.exec, B.bytes, hml, findClass_of_methodNamed B.named, atoms_spec (ws := wsX9_count) B.pre⟩, B.returns, B.notSynchronized, hv.2⟩ a1 u0 _ _ _ ⟨hv.1, va_S.rf⟩ hl h
