abbrev rm_X9_gate : Room := { frames := 1, cells := 0, slots := 0, locals := 21 }
theorem wd_X9_gate_1 : Cond.fieldLink RX9 10 "TurnstileBank" "now" "LTurnstileBank$State;" ∈ wsX9_gate := List.mem_of_getElem? (i := 1) (by decide +kernel)
theorem wd_X9_gate_2 : Cond.fieldLink RX9 132 "TurnstileBank$Gate" "direction" "I" ∈ wsX9_gate := List.mem_of_getElem? (i := 2) (by decide +kernel)
theorem wd_X9_gate_3 : Cond.fieldLink RX9 137 "TurnstileBank$Gate" "state" "I" ∈ wsX9_gate := List.mem_of_getElem? (i := 3) (by decide +kernel)
theorem wd_X9_gate_4 : Cond.fieldLink RX9 140 "TurnstileBank$Gate" "left" "I" ∈ wsX9_gate := List.mem_of_getElem? (i := 4) (by decide +kernel)
theorem wd_X9_gate_5 : Cond.fieldLink RX9 143 "TurnstileBank$Gate" "person" "I" ∈ wsX9_gate := List.mem_of_getElem? (i := 5) (by decide +kernel)
theorem wd_X9_gate_6 : Cond.fieldLink RX9 146 "TurnstileBank$Gate" "outer" "LTurnstileBank$Queue;" ∈ wsX9_gate := List.mem_of_getElem? (i := 6) (by decide +kernel)
theorem wd_X9_gate_7 : Cond.fieldLink RX9 150 "TurnstileBank$Queue" "length" "I" ∈ wsX9_gate := List.mem_of_getElem? (i := 7) (by decide +kernel)
theorem wd_X9_gate_8 : Cond.fieldLink RX9 153 "TurnstileBank$Gate" "inner" "LTurnstileBank$Queue;" ∈ wsX9_gate := List.mem_of_getElem? (i := 8) (by decide +kernel)
theorem wd_X9_gate_9 : Cond.fieldLink RX9 156 "TurnstileBank$Gate" "passedIn" "I" ∈ wsX9_gate := List.mem_of_getElem? (i := 9) (by decide +kernel)
theorem wd_X9_gate_10 : Cond.fieldLink RX9 159 "TurnstileBank$Gate" "passedOut" "I" ∈ wsX9_gate := List.mem_of_getElem? (i := 10) (by decide +kernel)
theorem wd_X9_gate_11 : Cond.fieldLink RX9 162 "TurnstileBank$Gate" "refused" "I" ∈ wsX9_gate := List.mem_of_getElem? (i := 11) (by decide +kernel)
theorem wd_X9_gate_12 : Cond.fieldLink RX9 165 "TurnstileBank$Gate" "pinches" "I" ∈ wsX9_gate := List.mem_of_getElem? (i := 12) (by decide +kernel)
theorem wd_X9_gate_13 : Cond.fieldLink RX9 168 "TurnstileBank$Gate" "pinchTold" "Z" ∈ wsX9_gate := List.mem_of_getElem? (i := 13) (by decide +kernel)
theorem in_X9_gate_1 : ∀ w ∈ wsX10, w ∈ wsX9_gate := fun w h => List.mem_cons_of_mem _ (List.mem_append_left _ (List.mem_append_left _ (List.mem_append_right _ h)))
theorem in_X9_gate_7 : ∀ w ∈ wsX70, w ∈ wsX9_gate := fun w h => List.mem_cons_of_mem _ (List.mem_append_left _ (List.mem_append_right _ h))
theorem in_X9_gate_9 : ∀ w ∈ wsX90, w ∈ wsX9_gate := fun w h => List.mem_cons_of_mem _ (List.mem_append_left _ (List.mem_append_left _ (List.mem_append_left _ (List.mem_append_right _ h))))
def w_X9_gate (a1 : Int32) (a2 : Int32) (u0 : Mm) (Φ : Int32 → Mm → Prop) : Prop := (w_X8_gateAt 1 a1 u0 (fun r2 u1 => opt r2 (Φ ((-1 : Int32)) u1) (fun r2 => (if a2 = 0 then (Φ ((u1 r2 2)) u1) else (if a2 = 1 then (Φ ((u1 r2 6)) u1) else (if a2 = 2 then (Φ ((u1 r2 7)) u1) else (if a2 = 3 then (Φ ((u1 r2 8)) u1) else (if a2 = 4 then (Φ ((u1 ((r2 + 1)) 1)) u1) else (if a2 = 5 then (Φ ((u1 ((r2 + 3)) 1)) u1) else (if a2 = 6 then (Φ ((u1 r2 11)) u1) else (if a2 = 7 then (Φ ((u1 r2 12)) u1) else (if a2 = 8 then (Φ ((u1 r2 13)) u1) else (if a2 = 9 then (Φ ((u1 r2 14)) u1) else (if a2 = 10 then (if (u1 r2 9) = 0 then (Φ ((0 : Int32)) u1) else (Φ ((1 : Int32)) u1)) else (Φ ((-2 : Int32)) u1)))))))))))))))
set_option maxHeartbeats 4000000 in
set_option maxRecDepth 100000 in
theorem t_X9_gate_0 {p : Program} {l : Launch} {e : Env} {s : State} {m : MethodId} {args : Array Value} {below : List Frame} {meth : Method} {c : Code} {D : va_G} {cA : Nat → ClassId} {o : Nat}  {Φ : Int32 → Mm → Prop} (C : Cx p m meth c s args cX9_gate 4 wsX9_gate RX9 (some .int) D (tysL cA)) : ∀ (a1 : Int32) (a2 : Int32) (u0 : Mm), ∀ (H : Heap) (locs : List Loc) (ls : Array Slot), Hp 747 o D (EC cA o u0) s H locs → lv_has ls 4 [(0, .ref (o + 0)), (1, .int a1), (2, .int a2)] → w_X9_gate a1 a2 u0 Φ → W p l e rm_X9_gate s m args below meth c H locs 0 0 (MQ below (Qg vI Φ (fun μ => Wd 747 o D (tysL cA) (EC cA o μ)) (aA o 747)) args s 0 0 (aA o 747)) (F0 m 0 ls []) := by
  intro a1 a2 u0 H locs ls P hl h
  have hx := C.1.1
  have hb := C.1.2.1
  unfold w_X9_gate at h
  refine lv_aload_n hx hb dX9_gate_0 rfl (lv_at hl 0 rfl) ?_
  refine g_9_0 C P in_X9_gate_9 wd_X9_gate_1 kd_at_0 dX9_gate_1 ?_
  refine lv_iload_n hx hb dX9_gate_4 rfl (lv_at hl 1 rfl) ?_
  refine r_calln (F := EC cA o) (va_runV (As := [.int a1]) (rest := []) C.1 (c_X8_gateAt l D cA o _ _ kd_at_1 u0 _ h) (cwV 1 C.1.2.2.2.2 gX9_gate_X8_gateAt rfl rfl rfl (by decide +kernel) ⟨Nat.le_of_ble_eq_true rfl, Nat.le_of_ble_eq_true rfl⟩) (r_preV C P [.int a1] (ci := 8) rfl (kd_lt kd_at_1 (by decide)) (EK_8 kd_at_1)) rfl rfl hl.1 rfl (lv_room (Nat.le_of_ble_eq_true rfl)) dX9_gate_5 ⟨Nat.le_of_ble_eq_true rfl, Nat.le_of_ble_eq_true rfl⟩) P.2 (fun r2 u1 H locs h P => ?_)
  obtain ⟨h, hk3⟩ := h
  rcases r2 with _ | r2
  · have h := opt_n h
    refine lv_astore_nN (lv' := [(3, .null), (0, .ref (o + 0)), (1, .int a1), (2, .int a2)]) hx hb dX9_gate_8 rfl hl (by decide) rfl (fun ls hl => ?_)
    refine lv_aload_nN hx hb dX9_gate_9 rfl (lv_at hl 0 rfl) ?_
    refine lv_ifnonnullN hx hb dX9_gate_10 ?_
    refine lv_iconst (v := -1) hx hb dX9_gate_13 (by decide) ?_
    exact r_ireti C P h dX9_gate_14
  · have h := opt_s h
    have hk3 := hk3 r2 rfl
    refine lv_astore_n (lv' := [(3, .ref (o + r2)), (0, .ref (o + 0)), (1, .int a1), (2, .int a2)]) hx hb dX9_gate_8 rfl hl (by decide) rfl (fun ls hl => ?_)
    refine lv_aload_n hx hb dX9_gate_9 rfl (lv_at hl 0 rfl) ?_
    refine lv_ifnonnull (tgt := 15) hx hb dX9_gate_10 (by decide) ?_
    refine lv_iload_n hx hb dX9_gate_15 rfl (lv_at hl 3 rfl) ?_
    by_cases c4 : a2 = 0
    · have h := ite_t h c4
      rw [c4]
      refine lv_tableIn (off := 60) (tgt := 76) hx hb dX9_gate_16 (by decide) (by decide) (by decide) (by decide) ?_
      refine lv_aload_n hx hb dX9_gate_76 rfl (lv_at hl 0 rfl) ?_
      refine g_1_2 C P in_X9_gate_1 wd_X9_gate_2 hk3 dX9_gate_77 ?_
      exact r_ireti C P h dX9_gate_80
    have h := ite_f h c4
    by_cases c5 : a2 = 1
    · have h := ite_t h c5
      rw [c5]
      refine lv_tableIn (off := 65) (tgt := 81) hx hb dX9_gate_16 (by decide) (by decide) (by decide) (by decide) ?_
      refine lv_aload_n hx hb dX9_gate_81 rfl (lv_at hl 0 rfl) ?_
      refine g_1_6 C P in_X9_gate_1 wd_X9_gate_3 hk3 dX9_gate_82 ?_
      exact r_ireti C P h dX9_gate_85
    have h := ite_f h c5
    by_cases c6 : a2 = 2
    · have h := ite_t h c6
      rw [c6]
      refine lv_tableIn (off := 70) (tgt := 86) hx hb dX9_gate_16 (by decide) (by decide) (by decide) (by decide) ?_
      refine lv_aload_n hx hb dX9_gate_86 rfl (lv_at hl 0 rfl) ?_
      refine g_1_7 C P in_X9_gate_1 wd_X9_gate_4 hk3 dX9_gate_87 ?_
      exact r_ireti C P h dX9_gate_90
    have h := ite_f h c6
    by_cases c7 : a2 = 3
    · have h := ite_t h c7
      rw [c7]
      refine lv_tableIn (off := 75) (tgt := 91) hx hb dX9_gate_16 (by decide) (by decide) (by decide) (by decide) ?_
      refine lv_aload_n hx hb dX9_gate_91 rfl (lv_at hl 0 rfl) ?_
      refine g_1_8 C P in_X9_gate_1 wd_X9_gate_5 hk3 dX9_gate_92 ?_
      exact r_ireti C P h dX9_gate_95
    have h := ite_f h c7
    by_cases c8 : a2 = 4
    · have h := ite_t h c8
      rw [c8]
      refine lv_tableIn (off := 80) (tgt := 96) hx hb dX9_gate_16 (by decide) (by decide) (by decide) (by decide) ?_
      refine lv_aload_n hx hb dX9_gate_96 rfl (lv_at hl 0 rfl) ?_
      refine g_1_0 C P in_X9_gate_1 wd_X9_gate_6 hk3 dX9_gate_97 ?_
      refine g_7_1 C P in_X9_gate_7 wd_X9_gate_7 (kd_1_1 hk3) dX9_gate_100 ?_
      exact r_ireti C P h dX9_gate_103
    have h := ite_f h c8
    by_cases c9 : a2 = 5
    · have h := ite_t h c9
      rw [c9]
      refine lv_tableIn (off := 88) (tgt := 104) hx hb dX9_gate_16 (by decide) (by decide) (by decide) (by decide) ?_
      refine lv_aload_n hx hb dX9_gate_104 rfl (lv_at hl 0 rfl) ?_
      refine g_1_1 C P in_X9_gate_1 wd_X9_gate_8 hk3 dX9_gate_105 ?_
      refine g_7_1 C P in_X9_gate_7 wd_X9_gate_7 (kd_1_3 hk3) dX9_gate_108 ?_
      exact r_ireti C P h dX9_gate_111
    have h := ite_f h c9
    by_cases c10 : a2 = 6
    · have h := ite_t h c10
      rw [c10]
      refine lv_tableIn (off := 96) (tgt := 112) hx hb dX9_gate_16 (by decide) (by decide) (by decide) (by decide) ?_
      refine lv_aload_n hx hb dX9_gate_112 rfl (lv_at hl 0 rfl) ?_
      refine g_1_11 C P in_X9_gate_1 wd_X9_gate_9 hk3 dX9_gate_113 ?_
      exact r_ireti C P h dX9_gate_116
    have h := ite_f h c10
    by_cases c11 : a2 = 7
    · have h := ite_t h c11
      rw [c11]
      refine lv_tableIn (off := 101) (tgt := 117) hx hb dX9_gate_16 (by decide) (by decide) (by decide) (by decide) ?_
      refine lv_aload_n hx hb dX9_gate_117 rfl (lv_at hl 0 rfl) ?_
      refine g_1_12 C P in_X9_gate_1 wd_X9_gate_10 hk3 dX9_gate_118 ?_
      exact r_ireti C P h dX9_gate_121
    have h := ite_f h c11
    by_cases c12 : a2 = 8
    · have h := ite_t h c12
      rw [c12]
      refine lv_tableIn (off := 106) (tgt := 122) hx hb dX9_gate_16 (by decide) (by decide) (by decide) (by decide) ?_
      refine lv_aload_n hx hb dX9_gate_122 rfl (lv_at hl 0 rfl) ?_
      refine g_1_13 C P in_X9_gate_1 wd_X9_gate_11 hk3 dX9_gate_123 ?_
      exact r_ireti C P h dX9_gate_126
    have h := ite_f h c12
    by_cases c13 : a2 = 9
    · have h := ite_t h c13
      rw [c13]
      refine lv_tableIn (off := 111) (tgt := 127) hx hb dX9_gate_16 (by decide) (by decide) (by decide) (by decide) ?_
      refine lv_aload_n hx hb dX9_gate_127 rfl (lv_at hl 0 rfl) ?_
      refine g_1_14 C P in_X9_gate_1 wd_X9_gate_12 hk3 dX9_gate_128 ?_
      exact r_ireti C P h dX9_gate_131
    have h := ite_f h c13
    by_cases c15 : a2 = 10
    · have h := ite_t h c15
      rw [c15]
      refine lv_tableIn (off := 116) (tgt := 132) hx hb dX9_gate_16 (by decide) (by decide) (by decide) (by decide) ?_
      refine lv_aload_n hx hb dX9_gate_132 rfl (lv_at hl 0 rfl) ?_
      refine g_1_9 C P in_X9_gate_1 wd_X9_gate_13 hk3 dX9_gate_133 ?_
      refine lv_if_eq (tgt := 143) hx hb dX9_gate_136 (by decide) (fun c14 => ?_) (fun c14 => ?_)
      · have h := ite_t h c14
        refine lv_iconst (v := 0) hx hb dX9_gate_143 (by decide) ?_
        exact r_ireti C P h dX9_gate_144
      · have h := ite_f h c14
        refine lv_iconst (v := 1) hx hb dX9_gate_139 (by decide) ?_
        refine lv_goto (tgt := 144) hx hb dX9_gate_140 (by decide) ?_
        exact r_ireti C P h dX9_gate_144
    have h := ite_f h c15
    refine lv_tableOut (tgt := 145) hx hb dX9_gate_16 (by have q0 : a2.toInt ≠ 0 := fun e => c4 (Int32.toInt_inj.mp e); have q1 : a2.toInt ≠ 1 := fun e => c5 (Int32.toInt_inj.mp e); have q2 : a2.toInt ≠ 2 := fun e => c6 (Int32.toInt_inj.mp e); have q3 : a2.toInt ≠ 3 := fun e => c7 (Int32.toInt_inj.mp e); have q4 : a2.toInt ≠ 4 := fun e => c8 (Int32.toInt_inj.mp e); have q5 : a2.toInt ≠ 5 := fun e => c9 (Int32.toInt_inj.mp e); have q6 : a2.toInt ≠ 6 := fun e => c10 (Int32.toInt_inj.mp e); have q7 : a2.toInt ≠ 7 := fun e => c11 (Int32.toInt_inj.mp e); have q8 : a2.toInt ≠ 8 := fun e => c12 (Int32.toInt_inj.mp e); have q9 : a2.toInt ≠ 9 := fun e => c13 (Int32.toInt_inj.mp e); have q10 : a2.toInt ≠ 10 := fun e => c15 (Int32.toInt_inj.mp e); omega) (by decide) ?_
    refine lv_bipush (v := -2) hx hb dX9_gate_145 (by decide) ?_
    exact r_ireti C P h dX9_gate_147
set_option maxHeartbeats 4000000 in
set_option maxRecDepth 100000 in
theorem c_X9_gate (l : Launch) (D : va_G) (cA : Nat → ClassId) (o : Nat) (a1 : Int32) (a2 : Int32)  (u0 : Mm) (Φ : Int32 → Mm → Prop) (h : w_X9_gate a1 a2 u0 Φ) : Met l yX9_gate wsX9_gate rm_X9_gate (va_Pc [.ref (o + 0), .int a1, .int a2] (Wd 747 o D (tysL cA) (EC cA o u0))) (Qg vI Φ (fun μ => Wd 747 o D (tysL cA) (EC cA o μ)) (aA o 747)) 0 0 (aA o 747) := by
  refine Met.ofW (cc := cX9_gate) (maxL := 4) (ret := (some .int)) (by decide) rfl ?_
  intro p e s m args below meth c s₁ B hml hv
  obtain ⟨rfl, hv⟩ := hv
  have hl := lv_entry ([.ref (o + 0), .int a1, .int a2]) (n := 4) (Nat.le_of_ble_eq_true rfl)
  rw [lg_entry_eq]
  exact t_X9_gate_0 ⟨⟨B.exec, B.bytes, hml, findClass_of_methodNamed B.named, atoms_spec (ws := wsX9_gate) B.pre⟩, B.returns, B.notSynchronized, hv.2⟩ a1 a2 u0 _ _ _ ⟨hv.1, va_S.rf⟩ hl h
abbrev rm_X9_queued : Room := { frames := 1, cells := 0, slots := 0, locals := 21 }
theorem wd_X9_queued_1 : Cond.fieldLink RX9 10 "TurnstileBank" "now" "LTurnstileBank$State;" ∈ wsX9_queued := List.mem_of_getElem? (i := 1) (by decide +kernel)
theorem wd_X9_queued_2 : Cond.fieldLink RX9 146 "TurnstileBank$Gate" "outer" "LTurnstileBank$Queue;" ∈ wsX9_queued := List.mem_of_getElem? (i := 2) (by decide +kernel)
theorem wd_X9_queued_3 : Cond.fieldLink RX9 153 "TurnstileBank$Gate" "inner" "LTurnstileBank$Queue;" ∈ wsX9_queued := List.mem_of_getElem? (i := 3) (by decide +kernel)
theorem in_X9_queued_1 : ∀ w ∈ wsX10, w ∈ wsX9_queued := fun w h => List.mem_cons_of_mem _ (List.mem_append_left _ (List.mem_append_left _ (List.mem_append_right _ h)))
theorem in_X9_queued_9 : ∀ w ∈ wsX90, w ∈ wsX9_queued := fun w h => List.mem_cons_of_mem _ (List.mem_append_left _ (List.mem_append_left _ (List.mem_append_left _ (List.mem_append_right _ h))))
def w_X9_queued (a1 : Int32) (a2 : Int32) (a3 : Int32) (u0 : Mm) (Φ : Int32 → Mm → Prop) : Prop := (w_X8_gateAt 1 a1 u0 (fun r2 u1 => opt r2 (Φ ((-1 : Int32)) u1) (fun r2 => (if a2 < 0 then (Φ ((-2 : Int32)) u1) else (if (1 : Int32) < a2 then (Φ ((-2 : Int32)) u1) else (if 0 ≤ a3 then (if a2 = 0 then (w_X7_personAtPlace ((r2 + 1)) a3 u1 (fun r11 u10 => (Φ r11 u10))) else (w_X7_personAtPlace ((r2 + 3)) a3 u1 (fun r9 u8 => (Φ r9 u8)))) else (Φ ((-2 : Int32)) u1)))))))
set_option maxHeartbeats 4000000 in
set_option maxRecDepth 100000 in
theorem t_X9_queued_0 {p : Program} {l : Launch} {e : Env} {s : State} {m : MethodId} {args : Array Value} {below : List Frame} {meth : Method} {c : Code} {D : va_G} {cA : Nat → ClassId} {o : Nat}  {Φ : Int32 → Mm → Prop} (C : Cx p m meth c s args cX9_queued 5 wsX9_queued RX9 (some .int) D (tysL cA)) : ∀ (a1 : Int32) (a2 : Int32) (a3 : Int32) (u0 : Mm), ∀ (H : Heap) (locs : List Loc) (ls : Array Slot), Hp 747 o D (EC cA o u0) s H locs → lv_has ls 5 [(0, .ref (o + 0)), (1, .int a1), (2, .int a2), (3, .int a3)] → w_X9_queued a1 a2 a3 u0 Φ → W p l e rm_X9_queued s m args below meth c H locs 0 0 (MQ below (Qg vI Φ (fun μ => Wd 747 o D (tysL cA) (EC cA o μ)) (aA o 747)) args s 0 0 (aA o 747)) (F0 m 0 ls []) := by
  intro a1 a2 a3 u0 H locs ls P hl h
  have hx := C.1.1
  have hb := C.1.2.1
  unfold w_X9_queued at h
  refine lv_aload_n hx hb dX9_queued_0 rfl (lv_at hl 0 rfl) ?_
  refine g_9_0 C P in_X9_queued_9 wd_X9_queued_1 kd_at_0 dX9_queued_1 ?_
  refine lv_iload_n hx hb dX9_queued_4 rfl (lv_at hl 1 rfl) ?_
  refine r_calln (F := EC cA o) (va_runV (As := [.int a1]) (rest := []) C.1 (c_X8_gateAt l D cA o _ _ kd_at_1 u0 _ h) (cwV 1 C.1.2.2.2.2 gX9_queued_X8_gateAt rfl rfl rfl (by decide +kernel) ⟨Nat.le_of_ble_eq_true rfl, Nat.le_of_ble_eq_true rfl⟩) (r_preV C P [.int a1] (ci := 8) rfl (kd_lt kd_at_1 (by decide)) (EK_8 kd_at_1)) rfl rfl hl.1 rfl (lv_room (Nat.le_of_ble_eq_true rfl)) dX9_queued_5 ⟨Nat.le_of_ble_eq_true rfl, Nat.le_of_ble_eq_true rfl⟩) P.2 (fun r2 u1 H locs h P => ?_)
  obtain ⟨h, hk3⟩ := h
  rcases r2 with _ | r2
  · have h := opt_n h
    refine lv_astoreN (lv' := [(4, .null), (0, .ref (o + 0)), (1, .int a1), (2, .int a2), (3, .int a3)]) hx hb dX9_queued_8 hl (by decide) rfl (fun ls hl => ?_)
    refine lv_aloadN hx hb dX9_queued_10 (lv_at hl 0 rfl) ?_
    refine lv_ifnonnullN hx hb dX9_queued_12 ?_
    refine lv_iconst (v := -1) hx hb dX9_queued_15 (by decide) ?_
    exact r_ireti C P h dX9_queued_16
  · have h := opt_s h
    have hk3 := hk3 r2 rfl
    refine lv_astore (lv' := [(4, .ref (o + r2)), (0, .ref (o + 0)), (1, .int a1), (2, .int a2), (3, .int a3)]) hx hb dX9_queued_8 hl (by decide) rfl (fun ls hl => ?_)
    refine lv_aload hx hb dX9_queued_10 (lv_at hl 0 rfl) ?_
    refine lv_ifnonnull (tgt := 17) hx hb dX9_queued_12 (by decide) ?_
    refine lv_iload_n hx hb dX9_queued_17 rfl (lv_at hl 3 rfl) ?_
    refine lv_if_lt (tgt := 30) hx hb dX9_queued_18 (by decide) (fun c4 => ?_) (fun c4 => ?_)
    · have h := ite_t h c4
      refine lv_bipush (v := -2) hx hb dX9_queued_30 (by decide) ?_
      exact r_ireti C P h dX9_queued_32
    · have h := ite_f h c4
      refine lv_iload_n hx hb dX9_queued_21 rfl (lv_at hl 3 rfl) ?_
      refine lv_iconst (v := 1) hx hb dX9_queued_22 (by decide) ?_
      refine lv_icmp_gt (tgt := 30) hx hb dX9_queued_23 (by decide) (fun c5 => ?_) (fun c5 => ?_)
      · have h := ite_t h c5
        refine lv_bipush (v := -2) hx hb dX9_queued_30 (by decide) ?_
        exact r_ireti C P h dX9_queued_32
      · have h := ite_f h c5
        refine lv_iload_n hx hb dX9_queued_26 rfl (lv_at hl 4 rfl) ?_
        refine lv_if_ge (tgt := 33) hx hb dX9_queued_27 (by decide) (fun c6 => ?_) (fun c6 => ?_)
        · have h := ite_t h c6
          refine lv_iload_n hx hb dX9_queued_33 rfl (lv_at hl 3 rfl) ?_
          refine lv_if_ne (tgt := 49) hx hb dX9_queued_34 (by decide) (fun c7 => ?_) (fun c7 => ?_)
          · have h := ite_f h c7
            refine lv_aload hx hb dX9_queued_49 (lv_at hl 0 rfl) ?_
            refine g_1_1 C P in_X9_queued_1 wd_X9_queued_3 hk3 dX9_queued_51 ?_
            refine lv_iload_n hx hb dX9_queued_54 rfl (lv_at hl 4 rfl) ?_
            refine r_calli (F := EC cA o) (va_runV (As := [.int a3]) (rest := []) C.1 (c_X7_personAtPlace l D cA o _ _ (kd_1_3 hk3) u1 _ h) (cwV 1 C.1.2.2.2.2 gX9_queued_X7_personAtPlace rfl rfl rfl (by decide +kernel) ⟨Nat.le_of_ble_eq_true rfl, Nat.le_of_ble_eq_true rfl⟩) (r_preV C P [.int a3] (ci := 7) rfl (kd_lt (kd_1_3 hk3) (by decide)) (EK_7 (kd_1_3 hk3))) rfl rfl hl.1 rfl (lv_room (Nat.le_of_ble_eq_true rfl)) dX9_queued_55 ⟨Nat.le_of_ble_eq_true rfl, Nat.le_of_ble_eq_true rfl⟩) P.2 (fun r9 u8 H locs h P => ?_)
            exact r_ireti C P h dX9_queued_58
          · have h := ite_t h c7
            refine lv_aload hx hb dX9_queued_37 (lv_at hl 0 rfl) ?_
            refine g_1_0 C P in_X9_queued_1 wd_X9_queued_2 hk3 dX9_queued_39 ?_
            refine lv_iload_n hx hb dX9_queued_42 rfl (lv_at hl 4 rfl) ?_
            refine r_calli (F := EC cA o) (va_runV (As := [.int a3]) (rest := []) C.1 (c_X7_personAtPlace l D cA o _ _ (kd_1_1 hk3) u1 _ h) (cwV 1 C.1.2.2.2.2 gX9_queued_X7_personAtPlace rfl rfl rfl (by decide +kernel) ⟨Nat.le_of_ble_eq_true rfl, Nat.le_of_ble_eq_true rfl⟩) (r_preV C P [.int a3] (ci := 7) rfl (kd_lt (kd_1_1 hk3) (by decide)) (EK_7 (kd_1_1 hk3))) rfl rfl hl.1 rfl (lv_room (Nat.le_of_ble_eq_true rfl)) dX9_queued_43 ⟨Nat.le_of_ble_eq_true rfl, Nat.le_of_ble_eq_true rfl⟩) P.2 (fun r11 u10 H locs h P => ?_)
            refine lv_goto (tgt := 58) hx hb dX9_queued_46 (by decide) ?_
            exact r_ireti C P h dX9_queued_58
        · have h := ite_f h c6
          refine lv_bipush (v := -2) hx hb dX9_queued_30 (by decide) ?_
          exact r_ireti C P h dX9_queued_32
set_option maxHeartbeats 4000000 in
set_option maxRecDepth 100000 in
theorem c_X9_queued (l : Launch) (D : va_G) (cA : Nat → ClassId) (o : Nat) (a1 : Int32) (a2 : Int32) (a3 : Int32)  (u0 : Mm) (Φ : Int32 → Mm → Prop) (h : w_X9_queued a1 a2 a3 u0 Φ) : Met l yX9_queued wsX9_queued rm_X9_queued (va_Pc [.ref (o + 0), .int a1, .int a2, .int a3] (Wd 747 o D (tysL cA) (EC cA o u0))) (Qg vI Φ (fun μ => Wd 747 o D (tysL cA) (EC cA o μ)) (aA o 747)) 0 0 (aA o 747) := by
  refine Met.ofW (cc := cX9_queued) (maxL := 5) (ret := (some .int)) (by decide) rfl ?_
  intro p e s m args below meth c s₁ B hml hv
  obtain ⟨rfl, hv⟩ := hv
  have hl := lv_entry ([.ref (o + 0), .int a1, .int a2, .int a3]) (n := 5) (Nat.le_of_ble_eq_true rfl)
  rw [lg_entry_eq]
  exact t_X9_queued_0 ⟨⟨B.exec, B.bytes, hml, findClass_of_methodNamed B.named, atoms_spec (ws := wsX9_queued) B.pre⟩, B.returns, B.notSynchronized, hv.2⟩ a1 a2 a3 u0 _ _ _ ⟨hv.1, va_S.rf⟩ hl h
abbrev rm_X9_person : Room := { frames := 1, cells := 0, slots := 0, locals := 21 }
theorem wd_X9_person_1 : Cond.fieldLink RX9 10 "TurnstileBank" "now" "LTurnstileBank$State;" ∈ wsX9_person := List.mem_of_getElem? (i := 1) (by decide +kernel)
theorem wd_X9_person_2 : Cond.fieldLink RX9 179 "TurnstileBank$Person" "where" "I" ∈ wsX9_person := List.mem_of_getElem? (i := 2) (by decide +kernel)
theorem wd_X9_person_3 : Cond.fieldLink RX9 184 "TurnstileBank$Person" "pass" "I" ∈ wsX9_person := List.mem_of_getElem? (i := 3) (by decide +kernel)
theorem wd_X9_person_4 : Cond.fieldLink RX9 187 "TurnstileBank$Person" "slow" "Z" ∈ wsX9_person := List.mem_of_getElem? (i := 4) (by decide +kernel)
theorem wd_X9_person_5 : Cond.fieldLink RX9 190 "TurnstileBank$Person" "gate" "I" ∈ wsX9_person := List.mem_of_getElem? (i := 5) (by decide +kernel)
theorem wd_X9_person_6 : Cond.fieldLink RX9 193 "TurnstileBank$Person" "refusal" "I" ∈ wsX9_person := List.mem_of_getElem? (i := 6) (by decide +kernel)
theorem wd_X9_person_7 : Cond.fieldLink RX9 200 "TurnstileBank$State" "time" "I" ∈ wsX9_person := List.mem_of_getElem? (i := 7) (by decide +kernel)
theorem wd_X9_person_8 : Cond.fieldLink RX9 203 "TurnstileBank$Person" "waitingSince" "I" ∈ wsX9_person := List.mem_of_getElem? (i := 8) (by decide +kernel)
theorem in_X9_person_5 : ∀ w ∈ wsX50, w ∈ wsX9_person := fun w h => List.mem_cons_of_mem _ (List.mem_append_left _ (List.mem_append_right _ h))
theorem in_X9_person_8 : ∀ w ∈ wsX80, w ∈ wsX9_person := fun w h => List.mem_cons_of_mem _ (List.mem_append_right _ h)
theorem in_X9_person_9 : ∀ w ∈ wsX90, w ∈ wsX9_person := fun w h => List.mem_cons_of_mem _ (List.mem_append_left _ (List.mem_append_left _ (List.mem_append_right _ h)))
def w_X9_person (a1 : Int32) (a2 : Int32) (u0 : Mm) (Φ : Int32 → Mm → Prop) : Prop := (w_X8_personAt 1 a1 u0 (fun r2 u1 => opt r2 (Φ ((-1 : Int32)) u1) (fun r2 => (if a2 = 0 then (Φ ((u1 r2 2)) u1) else (if a2 = 1 then (Φ ((u1 r2 0)) u1) else (if a2 = 2 then (if (u1 r2 1) = 0 then (Φ ((0 : Int32)) u1) else (Φ ((1 : Int32)) u1)) else (if a2 = 3 then (Φ ((u1 r2 3)) u1) else (if a2 = 4 then (Φ ((u1 r2 4)) u1) else (if a2 = 5 then (w_X5_isWaiting r2 u1 (fun r11 u10 => (if r11 = 0 then (Φ ((0 : Int32)) u10) else (Φ (((u10 1 9) - (u10 r2 5))) u10)))) else (Φ ((-2 : Int32)) u1))))))))))
set_option maxHeartbeats 4000000 in
set_option maxRecDepth 100000 in
theorem t_X9_person_0 {p : Program} {l : Launch} {e : Env} {s : State} {m : MethodId} {args : Array Value} {below : List Frame} {meth : Method} {c : Code} {D : va_G} {cA : Nat → ClassId} {o : Nat}  {Φ : Int32 → Mm → Prop} (C : Cx p m meth c s args cX9_person 4 wsX9_person RX9 (some .int) D (tysL cA)) : ∀ (a1 : Int32) (a2 : Int32) (u0 : Mm), ∀ (H : Heap) (locs : List Loc) (ls : Array Slot), Hp 747 o D (EC cA o u0) s H locs → lv_has ls 4 [(0, .ref (o + 0)), (1, .int a1), (2, .int a2)] → w_X9_person a1 a2 u0 Φ → W p l e rm_X9_person s m args below meth c H locs 0 0 (MQ below (Qg vI Φ (fun μ => Wd 747 o D (tysL cA) (EC cA o μ)) (aA o 747)) args s 0 0 (aA o 747)) (F0 m 0 ls []) := by
  intro a1 a2 u0 H locs ls P hl h
  have hx := C.1.1
  have hb := C.1.2.1
  unfold w_X9_person at h
  refine lv_aload_n hx hb dX9_person_0 rfl (lv_at hl 0 rfl) ?_
  refine g_9_0 C P in_X9_person_9 wd_X9_person_1 kd_at_0 dX9_person_1 ?_
  refine lv_iload_n hx hb dX9_person_4 rfl (lv_at hl 1 rfl) ?_
  refine r_calln (F := EC cA o) (va_runV (As := [.int a1]) (rest := []) C.1 (c_X8_personAt l D cA o _ _ kd_at_1 u0 _ h) (cwV 1 C.1.2.2.2.2 gX9_person_X8_personAt rfl rfl rfl (by decide +kernel) ⟨Nat.le_of_ble_eq_true rfl, Nat.le_of_ble_eq_true rfl⟩) (r_preV C P [.int a1] (ci := 8) rfl (kd_lt kd_at_1 (by decide)) (EK_8 kd_at_1)) rfl rfl hl.1 rfl (lv_room (Nat.le_of_ble_eq_true rfl)) dX9_person_5 ⟨Nat.le_of_ble_eq_true rfl, Nat.le_of_ble_eq_true rfl⟩) P.2 (fun r2 u1 H locs h P => ?_)
  obtain ⟨h, hk3⟩ := h
  rcases r2 with _ | r2
  · have h := opt_n h
    refine lv_astore_nN (lv' := [(3, .null), (0, .ref (o + 0)), (1, .int a1), (2, .int a2)]) hx hb dX9_person_8 rfl hl (by decide) rfl (fun ls hl => ?_)
    refine lv_aload_nN hx hb dX9_person_9 rfl (lv_at hl 0 rfl) ?_
    refine lv_ifnonnullN hx hb dX9_person_10 ?_
    refine lv_iconst (v := -1) hx hb dX9_person_13 (by decide) ?_
    exact r_ireti C P h dX9_person_14
  · have h := opt_s h
    have hk3 := hk3 r2 rfl
    refine lv_astore_n (lv' := [(3, .ref (o + r2)), (0, .ref (o + 0)), (1, .int a1), (2, .int a2)]) hx hb dX9_person_8 rfl hl (by decide) rfl (fun ls hl => ?_)
    refine lv_aload_n hx hb dX9_person_9 rfl (lv_at hl 0 rfl) ?_
    refine lv_ifnonnull (tgt := 15) hx hb dX9_person_10 (by decide) ?_
    refine lv_iload_n hx hb dX9_person_15 rfl (lv_at hl 3 rfl) ?_
    by_cases c4 : a2 = 0
    · have h := ite_t h c4
      rw [c4]
      refine lv_tableIn (off := 40) (tgt := 56) hx hb dX9_person_16 (by decide) (by decide) (by decide) (by decide) ?_
      refine lv_aload_n hx hb dX9_person_56 rfl (lv_at hl 0 rfl) ?_
      refine g_5_2 C P in_X9_person_5 wd_X9_person_2 hk3 dX9_person_57 ?_
      exact r_ireti C P h dX9_person_60
    have h := ite_f h c4
    by_cases c5 : a2 = 1
    · have h := ite_t h c5
      rw [c5]
      refine lv_tableIn (off := 45) (tgt := 61) hx hb dX9_person_16 (by decide) (by decide) (by decide) (by decide) ?_
      refine lv_aload_n hx hb dX9_person_61 rfl (lv_at hl 0 rfl) ?_
      refine g_5_0 C P in_X9_person_5 wd_X9_person_3 hk3 dX9_person_62 ?_
      exact r_ireti C P h dX9_person_65
    have h := ite_f h c5
    by_cases c7 : a2 = 2
    · have h := ite_t h c7
      rw [c7]
      refine lv_tableIn (off := 50) (tgt := 66) hx hb dX9_person_16 (by decide) (by decide) (by decide) (by decide) ?_
      refine lv_aload_n hx hb dX9_person_66 rfl (lv_at hl 0 rfl) ?_
      refine g_5_1 C P in_X9_person_5 wd_X9_person_4 hk3 dX9_person_67 ?_
      refine lv_if_eq (tgt := 77) hx hb dX9_person_70 (by decide) (fun c6 => ?_) (fun c6 => ?_)
      · have h := ite_t h c6
        refine lv_iconst (v := 0) hx hb dX9_person_77 (by decide) ?_
        exact r_ireti C P h dX9_person_78
      · have h := ite_f h c6
        refine lv_iconst (v := 1) hx hb dX9_person_73 (by decide) ?_
        refine lv_goto (tgt := 78) hx hb dX9_person_74 (by decide) ?_
        exact r_ireti C P h dX9_person_78
    have h := ite_f h c7
    by_cases c8 : a2 = 3
    · have h := ite_t h c8
      rw [c8]
      refine lv_tableIn (off := 63) (tgt := 79) hx hb dX9_person_16 (by decide) (by decide) (by decide) (by decide) ?_
      refine lv_aload_n hx hb dX9_person_79 rfl (lv_at hl 0 rfl) ?_
      refine g_5_3 C P in_X9_person_5 wd_X9_person_5 hk3 dX9_person_80 ?_
      exact r_ireti C P h dX9_person_83
    have h := ite_f h c8
    by_cases c9 : a2 = 4
    · have h := ite_t h c9
      rw [c9]
      refine lv_tableIn (off := 68) (tgt := 84) hx hb dX9_person_16 (by decide) (by decide) (by decide) (by decide) ?_
      refine lv_aload_n hx hb dX9_person_84 rfl (lv_at hl 0 rfl) ?_
      refine g_5_4 C P in_X9_person_5 wd_X9_person_6 hk3 dX9_person_85 ?_
      exact r_ireti C P h dX9_person_88
    have h := ite_f h c9
    by_cases c13 : a2 = 5
    · have h := ite_t h c13
      rw [c13]
      refine lv_tableIn (off := 73) (tgt := 89) hx hb dX9_person_16 (by decide) (by decide) (by decide) (by decide) ?_
      refine lv_aload_n hx hb dX9_person_89 rfl (lv_at hl 0 rfl) ?_
      refine r_calli (F := EC cA o) (va_runV (As := []) (rest := []) C.1 (c_X5_isWaiting l D cA o _ hk3 u1 _ h) (cwV 0 C.1.2.2.2.2 gX9_person_X5_isWaiting rfl rfl rfl (by decide +kernel) ⟨Nat.le_of_ble_eq_true rfl, Nat.le_of_ble_eq_true rfl⟩) (r_preV C P [] (ci := 5) rfl (kd_lt hk3 (by decide)) (EK_5 hk3)) rfl rfl hl.1 rfl (lv_room (Nat.le_of_ble_eq_true rfl)) dX9_person_90 ⟨Nat.le_of_ble_eq_true rfl, Nat.le_of_ble_eq_true rfl⟩) P.2 (fun r11 u10 H locs h P => ?_)
      refine lv_if_eq (tgt := 111) hx hb dX9_person_93 (by decide) (fun c12 => ?_) (fun c12 => ?_)
      · have h := ite_t h c12
        refine lv_iconst (v := 0) hx hb dX9_person_111 (by decide) ?_
        exact r_ireti C P h dX9_person_112
      · have h := ite_f h c12
        refine lv_aload_n hx hb dX9_person_96 rfl (lv_at hl 1 rfl) ?_
        refine g_9_0 C P in_X9_person_9 wd_X9_person_1 kd_at_0 dX9_person_97 ?_
        refine g_8_9 C P in_X9_person_8 wd_X9_person_7 kd_at_1 dX9_person_100 ?_
        refine lv_aload_n hx hb dX9_person_103 rfl (lv_at hl 0 rfl) ?_
        refine g_5_5 C P in_X9_person_5 wd_X9_person_8 hk3 dX9_person_104 ?_
        refine lv_isub hx hb dX9_person_107 ?_
        refine lv_goto (tgt := 112) hx hb dX9_person_108 (by decide) ?_
        exact r_ireti C P h dX9_person_112
    have h := ite_f h c13
    refine lv_tableOut (tgt := 113) hx hb dX9_person_16 (by have q0 : a2.toInt ≠ 0 := fun e => c4 (Int32.toInt_inj.mp e); have q1 : a2.toInt ≠ 1 := fun e => c5 (Int32.toInt_inj.mp e); have q2 : a2.toInt ≠ 2 := fun e => c7 (Int32.toInt_inj.mp e); have q3 : a2.toInt ≠ 3 := fun e => c8 (Int32.toInt_inj.mp e); have q4 : a2.toInt ≠ 4 := fun e => c9 (Int32.toInt_inj.mp e); have q5 : a2.toInt ≠ 5 := fun e => c13 (Int32.toInt_inj.mp e); omega) (by decide) ?_
    refine lv_bipush (v := -2) hx hb dX9_person_113 (by decide) ?_
    exact r_ireti C P h dX9_person_115
set_option maxHeartbeats 4000000 in
set_option maxRecDepth 100000 in
theorem c_X9_person (l : Launch) (D : va_G) (cA : Nat → ClassId) (o : Nat) (a1 : Int32) (a2 : Int32)  (u0 : Mm) (Φ : Int32 → Mm → Prop) (h : w_X9_person a1 a2 u0 Φ) : Met l yX9_person wsX9_person rm_X9_person (va_Pc [.ref (o + 0), .int a1, .int a2] (Wd 747 o D (tysL cA) (EC cA o u0))) (Qg vI Φ (fun μ => Wd 747 o D (tysL cA) (EC cA o μ)) (aA o 747)) 0 0 (aA o 747) := by
  refine Met.ofW (cc := cX9_person) (maxL := 4) (ret := (some .int)) (by decide) rfl ?_
  intro p e s m args below meth c s₁ B hml hv
  obtain ⟨rfl, hv⟩ := hv
  have hl := lv_entry ([.ref (o + 0), .int a1, .int a2]) (n := 4) (Nat.le_of_ble_eq_true rfl)
  rw [lg_entry_eq]
  exact t_X9_person_0 ⟨⟨B.exec, B.bytes, hml, findClass_of_methodNamed B.named, atoms_spec (ws := wsX9_person) B.pre⟩, B.returns, B.notSynchronized, hv.2⟩ a1 a2 u0 _ _ _ ⟨hv.1, va_S.rf⟩ hl h
abbrev rm_X9_pool : Room := { frames := 1, cells := 0, slots := 0, locals := 21 }
theorem wd_X9_pool_1 : Cond.fieldLink RX9 10 "TurnstileBank" "now" "LTurnstileBank$State;" ∈ wsX9_pool := List.mem_of_getElem? (i := 1) (by decide +kernel)
theorem wd_X9_pool_2 : Cond.fieldLink RX9 210 "TurnstileBank$Pool" "credit" "I" ∈ wsX9_pool := List.mem_of_getElem? (i := 2) (by decide +kernel)
theorem wd_X9_pool_3 : Cond.fieldLink RX9 215 "TurnstileBank$Pool" "limit" "I" ∈ wsX9_pool := List.mem_of_getElem? (i := 3) (by decide +kernel)
theorem wd_X9_pool_4 : Cond.fieldLink RX9 218 "TurnstileBank$Pool" "inside" "I" ∈ wsX9_pool := List.mem_of_getElem? (i := 4) (by decide +kernel)
theorem wd_X9_pool_5 : Cond.fieldLink RX9 221 "TurnstileBank$Pool" "passes" "I" ∈ wsX9_pool := List.mem_of_getElem? (i := 5) (by decide +kernel)
theorem wd_X9_pool_6 : Cond.fieldLink RX9 224 "TurnstileBank$Pool" "paid" "I" ∈ wsX9_pool := List.mem_of_getElem? (i := 6) (by decide +kernel)
theorem in_X9_pool_6 : ∀ w ∈ wsX60, w ∈ wsX9_pool := fun w h => List.mem_cons_of_mem _ (List.mem_append_left _ (List.mem_append_right _ h))
theorem in_X9_pool_9 : ∀ w ∈ wsX90, w ∈ wsX9_pool := fun w h => List.mem_cons_of_mem _ (List.mem_append_left _ (List.mem_append_left _ (List.mem_append_right _ h)))
def w_X9_pool (a1 : Int32) (a2 : Int32) (u0 : Mm) (Φ : Int32 → Mm → Prop) : Prop := (w_X8_poolAt 1 a1 u0 (fun r2 u1 => opt r2 (Φ ((-1 : Int32)) u1) (fun r2 => (if a2 = 0 then (Φ ((u1 r2 0)) u1) else (if a2 = 1 then (Φ ((u1 r2 1)) u1) else (if a2 = 2 then (Φ ((u1 r2 2)) u1) else (if a2 = 3 then (Φ ((u1 r2 3)) u1) else (if a2 = 4 then (Φ ((u1 r2 4)) u1) else (Φ ((-2 : Int32)) u1)))))))))
set_option maxHeartbeats 4000000 in
set_option maxRecDepth 100000 in
theorem t_X9_pool_0 {p : Program} {l : Launch} {e : Env} {s : State} {m : MethodId} {args : Array Value} {below : List Frame} {meth : Method} {c : Code} {D : va_G} {cA : Nat → ClassId} {o : Nat}  {Φ : Int32 → Mm → Prop} (C : Cx p m meth c s args cX9_pool 4 wsX9_pool RX9 (some .int) D (tysL cA)) : ∀ (a1 : Int32) (a2 : Int32) (u0 : Mm), ∀ (H : Heap) (locs : List Loc) (ls : Array Slot), Hp 747 o D (EC cA o u0) s H locs → lv_has ls 4 [(0, .ref (o + 0)), (1, .int a1), (2, .int a2)] → w_X9_pool a1 a2 u0 Φ → W p l e rm_X9_pool s m args below meth c H locs 0 0 (MQ below (Qg vI Φ (fun μ => Wd 747 o D (tysL cA) (EC cA o μ)) (aA o 747)) args s 0 0 (aA o 747)) (F0 m 0 ls []) := by
  intro a1 a2 u0 H locs ls P hl h
  have hx := C.1.1
  have hb := C.1.2.1
  unfold w_X9_pool at h
  refine lv_aload_n hx hb dX9_pool_0 rfl (lv_at hl 0 rfl) ?_
  refine g_9_0 C P in_X9_pool_9 wd_X9_pool_1 kd_at_0 dX9_pool_1 ?_
  refine lv_iload_n hx hb dX9_pool_4 rfl (lv_at hl 1 rfl) ?_
  refine r_calln (F := EC cA o) (va_runV (As := [.int a1]) (rest := []) C.1 (c_X8_poolAt l D cA o _ _ kd_at_1 u0 _ h) (cwV 1 C.1.2.2.2.2 gX9_pool_X8_poolAt rfl rfl rfl (by decide +kernel) ⟨Nat.le_of_ble_eq_true rfl, Nat.le_of_ble_eq_true rfl⟩) (r_preV C P [.int a1] (ci := 8) rfl (kd_lt kd_at_1 (by decide)) (EK_8 kd_at_1)) rfl rfl hl.1 rfl (lv_room (Nat.le_of_ble_eq_true rfl)) dX9_pool_5 ⟨Nat.le_of_ble_eq_true rfl, Nat.le_of_ble_eq_true rfl⟩) P.2 (fun r2 u1 H locs h P => ?_)
  obtain ⟨h, hk3⟩ := h
  rcases r2 with _ | r2
  · have h := opt_n h
    refine lv_astore_nN (lv' := [(3, .null), (0, .ref (o + 0)), (1, .int a1), (2, .int a2)]) hx hb dX9_pool_8 rfl hl (by decide) rfl (fun ls hl => ?_)
    refine lv_aload_nN hx hb dX9_pool_9 rfl (lv_at hl 0 rfl) ?_
    refine lv_ifnonnullN hx hb dX9_pool_10 ?_
    refine lv_iconst (v := -1) hx hb dX9_pool_13 (by decide) ?_
    exact r_ireti C P h dX9_pool_14
  · have h := opt_s h
    have hk3 := hk3 r2 rfl
    refine lv_astore_n (lv' := [(3, .ref (o + r2)), (0, .ref (o + 0)), (1, .int a1), (2, .int a2)]) hx hb dX9_pool_8 rfl hl (by decide) rfl (fun ls hl => ?_)
    refine lv_aload_n hx hb dX9_pool_9 rfl (lv_at hl 0 rfl) ?_
    refine lv_ifnonnull (tgt := 15) hx hb dX9_pool_10 (by decide) ?_
    refine lv_iload_n hx hb dX9_pool_15 rfl (lv_at hl 3 rfl) ?_
    by_cases c4 : a2 = 0
    · have h := ite_t h c4
      rw [c4]
      refine lv_tableIn (off := 36) (tgt := 52) hx hb dX9_pool_16 (by decide) (by decide) (by decide) (by decide) ?_
      refine lv_aload_n hx hb dX9_pool_52 rfl (lv_at hl 0 rfl) ?_
      refine g_6_0 C P in_X9_pool_6 wd_X9_pool_2 hk3 dX9_pool_53 ?_
      exact r_ireti C P h dX9_pool_56
    have h := ite_f h c4
    by_cases c5 : a2 = 1
    · have h := ite_t h c5
      rw [c5]
      refine lv_tableIn (off := 41) (tgt := 57) hx hb dX9_pool_16 (by decide) (by decide) (by decide) (by decide) ?_
      refine lv_aload_n hx hb dX9_pool_57 rfl (lv_at hl 0 rfl) ?_
      refine g_6_1 C P in_X9_pool_6 wd_X9_pool_3 hk3 dX9_pool_58 ?_
      exact r_ireti C P h dX9_pool_61
    have h := ite_f h c5
    by_cases c6 : a2 = 2
    · have h := ite_t h c6
      rw [c6]
      refine lv_tableIn (off := 46) (tgt := 62) hx hb dX9_pool_16 (by decide) (by decide) (by decide) (by decide) ?_
      refine lv_aload_n hx hb dX9_pool_62 rfl (lv_at hl 0 rfl) ?_
      refine g_6_2 C P in_X9_pool_6 wd_X9_pool_4 hk3 dX9_pool_63 ?_
      exact r_ireti C P h dX9_pool_66
    have h := ite_f h c6
    by_cases c7 : a2 = 3
    · have h := ite_t h c7
      rw [c7]
      refine lv_tableIn (off := 51) (tgt := 67) hx hb dX9_pool_16 (by decide) (by decide) (by decide) (by decide) ?_
      refine lv_aload_n hx hb dX9_pool_67 rfl (lv_at hl 0 rfl) ?_
      refine g_6_3 C P in_X9_pool_6 wd_X9_pool_5 hk3 dX9_pool_68 ?_
      exact r_ireti C P h dX9_pool_71
    have h := ite_f h c7
    by_cases c8 : a2 = 4
    · have h := ite_t h c8
      rw [c8]
      refine lv_tableIn (off := 56) (tgt := 72) hx hb dX9_pool_16 (by decide) (by decide) (by decide) (by decide) ?_
      refine lv_aload_n hx hb dX9_pool_72 rfl (lv_at hl 0 rfl) ?_
      refine g_6_4 C P in_X9_pool_6 wd_X9_pool_6 hk3 dX9_pool_73 ?_
      exact r_ireti C P h dX9_pool_76
    have h := ite_f h c8
    refine lv_tableOut (tgt := 77) hx hb dX9_pool_16 (by have q0 : a2.toInt ≠ 0 := fun e => c4 (Int32.toInt_inj.mp e); have q1 : a2.toInt ≠ 1 := fun e => c5 (Int32.toInt_inj.mp e); have q2 : a2.toInt ≠ 2 := fun e => c6 (Int32.toInt_inj.mp e); have q3 : a2.toInt ≠ 3 := fun e => c7 (Int32.toInt_inj.mp e); have q4 : a2.toInt ≠ 4 := fun e => c8 (Int32.toInt_inj.mp e); omega) (by decide) ?_
    refine lv_bipush (v := -2) hx hb dX9_pool_77 (by decide) ?_
    exact r_ireti C P h dX9_pool_79
set_option maxHeartbeats 4000000 in
set_option maxRecDepth 100000 in
theorem c_X9_pool (l : Launch) (D : va_G) (cA : Nat → ClassId) (o : Nat) (a1 : Int32) (a2 : Int32)  (u0 : Mm) (Φ : Int32 → Mm → Prop) (h : w_X9_pool a1 a2 u0 Φ) : Met l yX9_pool wsX9_pool rm_X9_pool (va_Pc [.ref (o + 0), .int a1, .int a2] (Wd 747 o D (tysL cA) (EC cA o u0))) (Qg vI Φ (fun μ => Wd 747 o D (tysL cA) (EC cA o μ)) (aA o 747)) 0 0 (aA o 747) := by
  refine Met.ofW (cc := cX9_pool) (maxL := 4) (ret := (some .int)) (by decide) rfl ?_
  intro p e s m args below meth c s₁ B hml hv
  obtain ⟨rfl, hv⟩ := hv
  have hl := lv_entry ([.ref (o + 0), .int a1, .int a2]) (n := 4) (Nat.le_of_ble_eq_true rfl)
  rw [lg_entry_eq]
  exact t_X9_pool_0 ⟨⟨B.exec, B.bytes, hml, findClass_of_methodNamed B.named, atoms_spec (ws := wsX9_pool) B.pre⟩, B.returns, B.notSynchronized, hv.2⟩ a1 a2 u0 _ _ _ ⟨hv.1, va_S.rf⟩ hl h
abbrev rm_X9_passOf : Room := { frames := 1, cells := 0, slots := 0, locals := 21 }
theorem wd_X9_passOf_1 : Cond.fieldLink RX9 10 "TurnstileBank" "now" "LTurnstileBank$State;" ∈ wsX9_passOf := List.mem_of_getElem? (i := 1) (by decide +kernel)
theorem wd_X9_passOf_2 : Cond.fieldLink RX9 231 "TurnstileBank$Pass" "pool" "I" ∈ wsX9_passOf := List.mem_of_getElem? (i := 2) (by decide +kernel)
theorem wd_X9_passOf_3 : Cond.fieldLink RX9 236 "TurnstileBank$Pass" "blocked" "Z" ∈ wsX9_passOf := List.mem_of_getElem? (i := 3) (by decide +kernel)
theorem wd_X9_passOf_4 : Cond.fieldLink RX9 239 "TurnstileBank$Pass" "user" "I" ∈ wsX9_passOf := List.mem_of_getElem? (i := 4) (by decide +kernel)
theorem in_X9_passOf_4 : ∀ w ∈ wsX40, w ∈ wsX9_passOf := fun w h => List.mem_cons_of_mem _ (List.mem_append_left _ (List.mem_append_right _ h))
theorem in_X9_passOf_9 : ∀ w ∈ wsX90, w ∈ wsX9_passOf := fun w h => List.mem_cons_of_mem _ (List.mem_append_left _ (List.mem_append_left _ (List.mem_append_right _ h)))
def w_X9_passOf (a1 : Int32) (a2 : Int32) (u0 : Mm) (Φ : Int32 → Mm → Prop) : Prop := (w_X8_passAt 1 a1 u0 (fun r2 u1 => opt r2 (Φ ((-1 : Int32)) u1) (fun r2 => (if a2 = 0 then (Φ ((u1 r2 0)) u1) else (if a2 = 1 then (if (u1 r2 1) = 0 then (Φ ((0 : Int32)) u1) else (Φ ((1 : Int32)) u1)) else (if a2 = 2 then (Φ ((u1 r2 2)) u1) else (Φ ((-2 : Int32)) u1)))))))
set_option maxHeartbeats 4000000 in
set_option maxRecDepth 100000 in
theorem t_X9_passOf_0 {p : Program} {l : Launch} {e : Env} {s : State} {m : MethodId} {args : Array Value} {below : List Frame} {meth : Method} {c : Code} {D : va_G} {cA : Nat → ClassId} {o : Nat}  {Φ : Int32 → Mm → Prop} (C : Cx p m meth c s args cX9_passOf 4 wsX9_passOf RX9 (some .int) D (tysL cA)) : ∀ (a1 : Int32) (a2 : Int32) (u0 : Mm), ∀ (H : Heap) (locs : List Loc) (ls : Array Slot), Hp 747 o D (EC cA o u0) s H locs → lv_has ls 4 [(0, .ref (o + 0)), (1, .int a1), (2, .int a2)] → w_X9_passOf a1 a2 u0 Φ → W p l e rm_X9_passOf s m args below meth c H locs 0 0 (MQ below (Qg vI Φ (fun μ => Wd 747 o D (tysL cA) (EC cA o μ)) (aA o 747)) args s 0 0 (aA o 747)) (F0 m 0 ls []) := by
  intro a1 a2 u0 H locs ls P hl h
  have hx := C.1.1
  have hb := C.1.2.1
  unfold w_X9_passOf at h
  refine lv_aload_n hx hb dX9_passOf_0 rfl (lv_at hl 0 rfl) ?_
  refine g_9_0 C P in_X9_passOf_9 wd_X9_passOf_1 kd_at_0 dX9_passOf_1 ?_
  refine lv_iload_n hx hb dX9_passOf_4 rfl (lv_at hl 1 rfl) ?_
  refine r_calln (F := EC cA o) (va_runV (As := [.int a1]) (rest := []) C.1 (c_X8_passAt l D cA o _ _ kd_at_1 u0 _ h) (cwV 1 C.1.2.2.2.2 gX9_passOf_X8_passAt rfl rfl rfl (by decide +kernel) ⟨Nat.le_of_ble_eq_true rfl, Nat.le_of_ble_eq_true rfl⟩) (r_preV C P [.int a1] (ci := 8) rfl (kd_lt kd_at_1 (by decide)) (EK_8 kd_at_1)) rfl rfl hl.1 rfl (lv_room (Nat.le_of_ble_eq_true rfl)) dX9_passOf_5 ⟨Nat.le_of_ble_eq_true rfl, Nat.le_of_ble_eq_true rfl⟩) P.2 (fun r2 u1 H locs h P => ?_)
  obtain ⟨h, hk3⟩ := h
  rcases r2 with _ | r2
  · have h := opt_n h
    refine lv_astore_nN (lv' := [(3, .null), (0, .ref (o + 0)), (1, .int a1), (2, .int a2)]) hx hb dX9_passOf_8 rfl hl (by decide) rfl (fun ls hl => ?_)
    refine lv_aload_nN hx hb dX9_passOf_9 rfl (lv_at hl 0 rfl) ?_
    refine lv_ifnonnullN hx hb dX9_passOf_10 ?_
    refine lv_iconst (v := -1) hx hb dX9_passOf_13 (by decide) ?_
    exact r_ireti C P h dX9_passOf_14
  · have h := opt_s h
    have hk3 := hk3 r2 rfl
    refine lv_astore_n (lv' := [(3, .ref (o + r2)), (0, .ref (o + 0)), (1, .int a1), (2, .int a2)]) hx hb dX9_passOf_8 rfl hl (by decide) rfl (fun ls hl => ?_)
    refine lv_aload_n hx hb dX9_passOf_9 rfl (lv_at hl 0 rfl) ?_
    refine lv_ifnonnull (tgt := 15) hx hb dX9_passOf_10 (by decide) ?_
    refine lv_iload_n hx hb dX9_passOf_15 rfl (lv_at hl 3 rfl) ?_
    by_cases c4 : a2 = 0
    · have h := ite_t h c4
      rw [c4]
      refine lv_tableIn (off := 28) (tgt := 44) hx hb dX9_passOf_16 (by decide) (by decide) (by decide) (by decide) ?_
      refine lv_aload_n hx hb dX9_passOf_44 rfl (lv_at hl 0 rfl) ?_
      refine g_4_0 C P in_X9_passOf_4 wd_X9_passOf_2 hk3 dX9_passOf_45 ?_
      exact r_ireti C P h dX9_passOf_48
    have h := ite_f h c4
    by_cases c6 : a2 = 1
    · have h := ite_t h c6
      rw [c6]
      refine lv_tableIn (off := 33) (tgt := 49) hx hb dX9_passOf_16 (by decide) (by decide) (by decide) (by decide) ?_
      refine lv_aload_n hx hb dX9_passOf_49 rfl (lv_at hl 0 rfl) ?_
      refine g_4_1 C P in_X9_passOf_4 wd_X9_passOf_3 hk3 dX9_passOf_50 ?_
      refine lv_if_eq (tgt := 60) hx hb dX9_passOf_53 (by decide) (fun c5 => ?_) (fun c5 => ?_)
      · have h := ite_t h c5
        refine lv_iconst (v := 0) hx hb dX9_passOf_60 (by decide) ?_
        exact r_ireti C P h dX9_passOf_61
      · have h := ite_f h c5
        refine lv_iconst (v := 1) hx hb dX9_passOf_56 (by decide) ?_
        refine lv_goto (tgt := 61) hx hb dX9_passOf_57 (by decide) ?_
        exact r_ireti C P h dX9_passOf_61
    have h := ite_f h c6
    by_cases c7 : a2 = 2
    · have h := ite_t h c7
      rw [c7]
      refine lv_tableIn (off := 46) (tgt := 62) hx hb dX9_passOf_16 (by decide) (by decide) (by decide) (by decide) ?_
      refine lv_aload_n hx hb dX9_passOf_62 rfl (lv_at hl 0 rfl) ?_
      refine g_4_2 C P in_X9_passOf_4 wd_X9_passOf_4 hk3 dX9_passOf_63 ?_
      exact r_ireti C P h dX9_passOf_66
    have h := ite_f h c7
    refine lv_tableOut (tgt := 67) hx hb dX9_passOf_16 (by have q0 : a2.toInt ≠ 0 := fun e => c4 (Int32.toInt_inj.mp e); have q1 : a2.toInt ≠ 1 := fun e => c6 (Int32.toInt_inj.mp e); have q2 : a2.toInt ≠ 2 := fun e => c7 (Int32.toInt_inj.mp e); omega) (by decide) ?_
    refine lv_bipush (v := -2) hx hb dX9_passOf_67 (by decide) ?_
    exact r_ireti C P h dX9_passOf_69
set_option maxHeartbeats 4000000 in
set_option maxRecDepth 100000 in
theorem c_X9_passOf (l : Launch) (D : va_G) (cA : Nat → ClassId) (o : Nat) (a1 : Int32) (a2 : Int32)  (u0 : Mm) (Φ : Int32 → Mm → Prop) (h : w_X9_passOf a1 a2 u0 Φ) : Met l yX9_passOf wsX9_passOf rm_X9_passOf (va_Pc [.ref (o + 0), .int a1, .int a2] (Wd 747 o D (tysL cA) (EC cA o u0))) (Qg vI Φ (fun μ => Wd 747 o D (tysL cA) (EC cA o μ)) (aA o 747)) 0 0 (aA o 747) := by
  refine Met.ofW (cc := cX9_passOf) (maxL := 4) (ret := (some .int)) (by decide) rfl ?_
  intro p e s m args below meth c s₁ B hml hv
  obtain ⟨rfl, hv⟩ := hv
  have hl := lv_entry ([.ref (o + 0), .int a1, .int a2]) (n := 4) (Nat.le_of_ble_eq_true rfl)
  rw [lg_entry_eq]
  exact t_X9_passOf_0 ⟨⟨B.exec, B.bytes, hml, findClass_of_methodNamed B.named, atoms_spec (ws := wsX9_passOf) B.pre⟩, B.returns, B.notSynchronized, hv.2⟩ a1 a2 u0 _ _ _ ⟨hv.1, va_S.rf⟩ hl h
abbrev rm_X9_event : Room := { frames := 2, cells := 0, slots := 0, locals := 45 }
theorem wd_X9_event_1 : Cond.fieldLink RX9 10 "TurnstileBank" "now" "LTurnstileBank$State;" ∈ wsX9_event := List.mem_of_getElem? (i := 1) (by decide +kernel)
theorem wd_X9_event_2 : Cond.fieldLink RX9 242 "TurnstileBank$State" "events" "LTurnstileBank$Events;" ∈ wsX9_event := List.mem_of_getElem? (i := 2) (by decide +kernel)
theorem in_X9_event_8 : ∀ w ∈ wsX80, w ∈ wsX9_event := fun w h => List.mem_cons_of_mem _ (List.mem_append_left _ (List.mem_append_right _ h))
theorem in_X9_event_9 : ∀ w ∈ wsX90, w ∈ wsX9_event := fun w h => List.mem_cons_of_mem _ (List.mem_append_left _ (List.mem_append_left _ (List.mem_append_right _ h)))
def w_X9_event (a1 : Int32) (a2 : Int32) (u0 : Mm) (Φ : Int32 → Mm → Prop) : Prop := (if a1 < 0 then (Φ ((-2 : Int32)) u0) else (if a2 < 0 then (Φ ((-2 : Int32)) u0) else (if a2 ≤ (3 : Int32) then (w_X0_property ((1 + 5)) a1 a2 u0 (fun r5 u4 => (Φ r5 u4))) else (Φ ((-2 : Int32)) u0))))
set_option maxHeartbeats 4000000 in
set_option maxRecDepth 100000 in
theorem t_X9_event_0 {p : Program} {l : Launch} {e : Env} {s : State} {m : MethodId} {args : Array Value} {below : List Frame} {meth : Method} {c : Code} {D : va_G} {cA : Nat → ClassId} {o : Nat}  {Φ : Int32 → Mm → Prop} (C : Cx p m meth c s args cX9_event 3 wsX9_event RX9 (some .int) D (tysL cA)) : ∀ (a1 : Int32) (a2 : Int32) (u0 : Mm), ∀ (H : Heap) (locs : List Loc) (ls : Array Slot), Hp 747 o D (EC cA o u0) s H locs → lv_has ls 3 [(0, .ref (o + 0)), (1, .int a1), (2, .int a2)] → w_X9_event a1 a2 u0 Φ → W p l e rm_X9_event s m args below meth c H locs 0 0 (MQ below (Qg vI Φ (fun μ => Wd 747 o D (tysL cA) (EC cA o μ)) (aA o 747)) args s 0 0 (aA o 747)) (F0 m 0 ls []) := by
  intro a1 a2 u0 H locs ls P hl h
  have hx := C.1.1
  have hb := C.1.2.1
  unfold w_X9_event at h
  refine lv_iload_n hx hb dX9_event_0 rfl (lv_at hl 1 rfl) ?_
  refine lv_if_lt (tgt := 13) hx hb dX9_event_1 (by decide) (fun c1 => ?_) (fun c1 => ?_)
  · have h := ite_t h c1
    refine lv_bipush (v := -2) hx hb dX9_event_13 (by decide) ?_
    exact r_ireti C P h dX9_event_15
  · have h := ite_f h c1
    refine lv_iload_n hx hb dX9_event_4 rfl (lv_at hl 2 rfl) ?_
    refine lv_if_lt (tgt := 13) hx hb dX9_event_5 (by decide) (fun c2 => ?_) (fun c2 => ?_)
    · have h := ite_t h c2
      refine lv_bipush (v := -2) hx hb dX9_event_13 (by decide) ?_
      exact r_ireti C P h dX9_event_15
    · have h := ite_f h c2
      refine lv_iload_n hx hb dX9_event_8 rfl (lv_at hl 2 rfl) ?_
      refine lv_iconst (v := 3) hx hb dX9_event_9 (by decide) ?_
      refine lv_icmp_le (tgt := 16) hx hb dX9_event_10 (by decide) (fun c3 => ?_) (fun c3 => ?_)
      · have h := ite_t h c3
        refine lv_aload_n hx hb dX9_event_16 rfl (lv_at hl 0 rfl) ?_
        refine g_9_0 C P in_X9_event_9 wd_X9_event_1 kd_at_0 dX9_event_17 ?_
        refine g_8_4 C P in_X9_event_8 wd_X9_event_2 kd_at_1 dX9_event_20 ?_
        refine lv_iload_n hx hb dX9_event_23 rfl (lv_at hl 1 rfl) ?_
        refine lv_iload_n hx hb dX9_event_24 rfl (lv_at hl 2 rfl) ?_
        refine r_calli (F := EC cA o) (va_runV (As := [.int a1, .int a2]) (rest := []) C.1 (c_X0_property l D cA o _ _ _ (kd_8_5 kd_at_1) u0 _ h) (cwV 2 C.1.2.2.2.2 gX9_event_X0_property rfl rfl rfl (by decide +kernel) ⟨Nat.le_of_ble_eq_true rfl, Nat.le_of_ble_eq_true rfl⟩) (r_preV C P [.int a1, .int a2] (ci := 0) rfl (kd_lt (kd_8_5 kd_at_1) (by decide)) (EK_0 (kd_8_5 kd_at_1))) rfl rfl hl.1 rfl (lv_room (Nat.le_of_ble_eq_true rfl)) dX9_event_25 ⟨Nat.le_of_ble_eq_true rfl, Nat.le_of_ble_eq_true rfl⟩) P.2 (fun r5 u4 H locs h P => ?_)
        exact r_ireti C P h dX9_event_28
      · have h := ite_f h c3
        refine lv_bipush (v := -2) hx hb dX9_event_13 (by decide) ?_
        exact r_ireti C P h dX9_event_15
set_option maxHeartbeats 4000000 in
set_option maxRecDepth 100000 in
theorem c_X9_event (l : Launch) (D : va_G) (cA : Nat → ClassId) (o : Nat) (a1 : Int32) (a2 : Int32)  (u0 : Mm) (Φ : Int32 → Mm → Prop) (h : w_X9_event a1 a2 u0 Φ) : Met l yX9_event wsX9_event rm_X9_event (va_Pc [.ref (o + 0), .int a1, .int a2] (Wd 747 o D (tysL cA) (EC cA o u0))) (Qg vI Φ (fun μ => Wd 747 o D (tysL cA) (EC cA o μ)) (aA o 747)) 0 0 (aA o 747) := by
  refine Met.ofW (cc := cX9_event) (maxL := 3) (ret := (some .int)) (by decide) rfl ?_
  intro p e s m args below meth c s₁ B hml hv
  obtain ⟨rfl, hv⟩ := hv
  have hl := lv_entry ([.ref (o + 0), .int a1, .int a2]) (n := 3) (Nat.le_of_ble_eq_true rfl)
  rw [lg_entry_eq]
  exact t_X9_event_0 ⟨⟨B.exec, B.bytes, hml, findClass_of_methodNamed B.named, atoms_spec (ws := wsX9_event) B.pre⟩, B.returns, B.notSynchronized, hv.2⟩ a1 a2 u0 _ _ _ ⟨hv.1, va_S.rf⟩ hl h
abbrev rm_X9_passesIn : Room := { frames := 7, cells := 0, slots := 0, locals := 160 }
theorem wd_X9_passesIn_1 : Cond.fieldLink RX9 10 "TurnstileBank" "now" "LTurnstileBank$State;" ∈ wsX9_passesIn := List.mem_of_getElem? (i := 1) (by decide +kernel)
theorem wd_X9_passesIn_2 : Cond.fieldLink RX9 179 "TurnstileBank$Person" "where" "I" ∈ wsX9_passesIn := List.mem_of_getElem? (i := 2) (by decide +kernel)
theorem wd_X9_passesIn_3 : Cond.fieldLink RX9 16 "TurnstileBank" "trial" "LTurnstileBank$State;" ∈ wsX9_passesIn := List.mem_of_getElem? (i := 3) (by decide +kernel)
theorem in_X9_passesIn_5 : ∀ w ∈ wsX50, w ∈ wsX9_passesIn := fun w h => List.mem_cons_of_mem _ (List.mem_append_left _ (List.mem_append_left _ (List.mem_append_left _ (List.mem_append_left _ (List.mem_append_left _ (List.mem_append_left _ (List.mem_append_right _ h)))))))
theorem in_X9_passesIn_9 : ∀ w ∈ wsX90, w ∈ wsX9_passesIn := fun w h => List.mem_cons_of_mem _ (List.mem_append_left _ (List.mem_append_left _ (List.mem_append_left _ (List.mem_append_left _ (List.mem_append_left _ (List.mem_append_left _ (List.mem_append_left _ (List.mem_append_right _ h))))))))
def w_X9_passesIn (a1 : Int32) (u0 : Mm) (Φ : Int32 → Mm → Prop) : Prop := (w_X8_personAt 1 a1 u0 (fun r2 u1 => opt r2 (Φ ((-1 : Int32)) u1) (fun r2 => (w_X5_isWaiting r2 u1 (fun r5 u4 => (if r5 = 0 then (if (u4 r2 2) = (2 : Int32) then (w_X8_copyFrom 107 1 u4 (fun _ u12 => (w_X8_ticksUntilPassed 107 a1 u12 (fun r15 u14 => (Φ r15 u14))))) else (Φ ((-4 : Int32)) u4)) else (w_X8_copyFrom 107 1 u4 (fun _ u7 => (w_X8_ticksUntilPassed 107 a1 u7 (fun r10 u9 => (Φ r10 u9)))))))))))
set_option maxHeartbeats 4000000 in
set_option maxRecDepth 100000 in
theorem t_X9_passesIn_0 {p : Program} {l : Launch} {e : Env} {s : State} {m : MethodId} {args : Array Value} {below : List Frame} {meth : Method} {c : Code} {D : va_G} {cA : Nat → ClassId} {o : Nat}  {Φ : Int32 → Mm → Prop} (C : Cx p m meth c s args cX9_passesIn 3 wsX9_passesIn RX9 (some .int) D (tysL cA)) : ∀ (a1 : Int32) (u0 : Mm), ∀ (H : Heap) (locs : List Loc) (ls : Array Slot), Hp 747 o D (EC cA o u0) s H locs → lv_has ls 3 [(0, .ref (o + 0)), (1, .int a1)] → w_X9_passesIn a1 u0 Φ → W p l e rm_X9_passesIn s m args below meth c H locs 0 0 (MQ below (Qg vI Φ (fun μ => Wd 747 o D (tysL cA) (EC cA o μ)) (aA o 747)) args s 0 0 (aA o 747)) (F0 m 0 ls []) := by
  intro a1 u0 H locs ls P hl h
  have hx := C.1.1
  have hb := C.1.2.1
  unfold w_X9_passesIn at h
  refine lv_aload_n hx hb dX9_passesIn_0 rfl (lv_at hl 0 rfl) ?_
  refine g_9_0 C P in_X9_passesIn_9 wd_X9_passesIn_1 kd_at_0 dX9_passesIn_1 ?_
  refine lv_iload_n hx hb dX9_passesIn_4 rfl (lv_at hl 1 rfl) ?_
  refine r_calln (F := EC cA o) (va_runV (As := [.int a1]) (rest := []) C.1 (c_X8_personAt l D cA o _ _ kd_at_1 u0 _ h) (cwV 1 C.1.2.2.2.2 gX9_passesIn_X8_personAt rfl rfl rfl (by decide +kernel) ⟨Nat.le_of_ble_eq_true rfl, Nat.le_of_ble_eq_true rfl⟩) (r_preV C P [.int a1] (ci := 8) rfl (kd_lt kd_at_1 (by decide)) (EK_8 kd_at_1)) rfl rfl hl.1 rfl (lv_room (Nat.le_of_ble_eq_true rfl)) dX9_passesIn_5 ⟨Nat.le_of_ble_eq_true rfl, Nat.le_of_ble_eq_true rfl⟩) P.2 (fun r2 u1 H locs h P => ?_)
  obtain ⟨h, hk3⟩ := h
  rcases r2 with _ | r2
  · have h := opt_n h
    refine lv_astore_nN (lv' := [(2, .null), (0, .ref (o + 0)), (1, .int a1)]) hx hb dX9_passesIn_8 rfl hl (by decide) rfl (fun ls hl => ?_)
    refine lv_aload_nN hx hb dX9_passesIn_9 rfl (lv_at hl 0 rfl) ?_
    refine lv_ifnonnullN hx hb dX9_passesIn_10 ?_
    refine lv_iconst (v := -1) hx hb dX9_passesIn_13 (by decide) ?_
    exact r_ireti C P h dX9_passesIn_14
  · have h := opt_s h
    have hk3 := hk3 r2 rfl
    refine lv_astore_n (lv' := [(2, .ref (o + r2)), (0, .ref (o + 0)), (1, .int a1)]) hx hb dX9_passesIn_8 rfl hl (by decide) rfl (fun ls hl => ?_)
    refine lv_aload_n hx hb dX9_passesIn_9 rfl (lv_at hl 0 rfl) ?_
    refine lv_ifnonnull (tgt := 15) hx hb dX9_passesIn_10 (by decide) ?_
    refine lv_aload_n hx hb dX9_passesIn_15 rfl (lv_at hl 0 rfl) ?_
    refine r_calli (F := EC cA o) (va_runV (As := []) (rest := []) C.1 (c_X5_isWaiting l D cA o _ hk3 u1 _ h) (cwV 0 C.1.2.2.2.2 gX9_passesIn_X5_isWaiting rfl rfl rfl (by decide +kernel) ⟨Nat.le_of_ble_eq_true rfl, Nat.le_of_ble_eq_true rfl⟩) (r_preV C P [] (ci := 5) rfl (kd_lt hk3 (by decide)) (EK_5 hk3)) rfl rfl hl.1 rfl (lv_room (Nat.le_of_ble_eq_true rfl)) dX9_passesIn_16 ⟨Nat.le_of_ble_eq_true rfl, Nat.le_of_ble_eq_true rfl⟩) P.2 (fun r5 u4 H locs h P => ?_)
    refine lv_if_ne (tgt := 33) hx hb dX9_passesIn_19 (by decide) (fun c6 => ?_) (fun c6 => ?_)
    · have h := ite_f h c6
      refine lv_aload_n hx hb dX9_passesIn_33 rfl (lv_at hl 1 rfl) ?_
      refine g_9_1 C P in_X9_passesIn_9 wd_X9_passesIn_3 kd_at_0 dX9_passesIn_34 ?_
      refine lv_aload_n hx hb dX9_passesIn_37 rfl (lv_at hl 1 rfl) ?_
      refine g_9_0 C P in_X9_passesIn_9 wd_X9_passesIn_1 kd_at_0 dX9_passesIn_38 ?_
      refine r_callv (F := EC cA o) (va_runV (As := [.ref (o + 1)]) (rest := []) C.1 (c_X8_copyFrom l D cA o _ _ kd_at_107 kd_at_1 u4 _ h) (cwV 1 C.1.2.2.2.2 gX9_passesIn_X8_copyFrom rfl rfl rfl (by decide +kernel) ⟨Nat.le_of_ble_eq_true rfl, Nat.le_of_ble_eq_true rfl⟩) (r_preV C P [.ref (o + 1)] (ci := 8) rfl (kd_lt kd_at_107 (by decide)) (EK_8 kd_at_107)) rfl rfl hl.1 rfl (lv_room (Nat.le_of_ble_eq_true rfl)) dX9_passesIn_41 ⟨Nat.le_of_ble_eq_true rfl, Nat.le_of_ble_eq_true rfl⟩) P.2 (fun u7 H locs h P => ?_)
      refine lv_aload_n hx hb dX9_passesIn_44 rfl (lv_at hl 1 rfl) ?_
      refine g_9_1 C P in_X9_passesIn_9 wd_X9_passesIn_3 kd_at_0 dX9_passesIn_45 ?_
      refine lv_iload_n hx hb dX9_passesIn_48 rfl (lv_at hl 2 rfl) ?_
      refine r_calli (F := EC cA o) (va_runV (As := [.int a1]) (rest := []) C.1 (c_X8_ticksUntilPassed l D cA o _ _ kd_at_107 u7 _ h) (cwV 1 C.1.2.2.2.2 gX9_passesIn_X8_ticksUntilPassed rfl rfl rfl (by decide +kernel) ⟨Nat.le_of_ble_eq_true rfl, Nat.le_of_ble_eq_true rfl⟩) (r_preV C P [.int a1] (ci := 8) rfl (kd_lt kd_at_107 (by decide)) (EK_8 kd_at_107)) rfl rfl hl.1 rfl (lv_room (Nat.le_of_ble_eq_true rfl)) dX9_passesIn_49 ⟨Nat.le_of_ble_eq_true rfl, Nat.le_of_ble_eq_true rfl⟩) P.2 (fun r10 u9 H locs h P => ?_)
      exact r_ireti C P h dX9_passesIn_52
    · have h := ite_t h c6
      refine lv_aload_n hx hb dX9_passesIn_22 rfl (lv_at hl 0 rfl) ?_
      refine g_5_2 C P in_X9_passesIn_5 wd_X9_passesIn_2 hk3 dX9_passesIn_23 ?_
      refine lv_iconst (v := 2) hx hb dX9_passesIn_26 (by decide) ?_
      refine lv_icmp_eq (tgt := 33) hx hb dX9_passesIn_27 (by decide) (fun c11 => ?_) (fun c11 => ?_)
      · have h := ite_t h c11
        refine lv_aload_n hx hb dX9_passesIn_33 rfl (lv_at hl 1 rfl) ?_
        refine g_9_1 C P in_X9_passesIn_9 wd_X9_passesIn_3 kd_at_0 dX9_passesIn_34 ?_
        refine lv_aload_n hx hb dX9_passesIn_37 rfl (lv_at hl 1 rfl) ?_
        refine g_9_0 C P in_X9_passesIn_9 wd_X9_passesIn_1 kd_at_0 dX9_passesIn_38 ?_
        refine r_callv (F := EC cA o) (va_runV (As := [.ref (o + 1)]) (rest := []) C.1 (c_X8_copyFrom l D cA o _ _ kd_at_107 kd_at_1 u4 _ h) (cwV 1 C.1.2.2.2.2 gX9_passesIn_X8_copyFrom rfl rfl rfl (by decide +kernel) ⟨Nat.le_of_ble_eq_true rfl, Nat.le_of_ble_eq_true rfl⟩) (r_preV C P [.ref (o + 1)] (ci := 8) rfl (kd_lt kd_at_107 (by decide)) (EK_8 kd_at_107)) rfl rfl hl.1 rfl (lv_room (Nat.le_of_ble_eq_true rfl)) dX9_passesIn_41 ⟨Nat.le_of_ble_eq_true rfl, Nat.le_of_ble_eq_true rfl⟩) P.2 (fun u12 H locs h P => ?_)
        refine lv_aload_n hx hb dX9_passesIn_44 rfl (lv_at hl 1 rfl) ?_
        refine g_9_1 C P in_X9_passesIn_9 wd_X9_passesIn_3 kd_at_0 dX9_passesIn_45 ?_
        refine lv_iload_n hx hb dX9_passesIn_48 rfl (lv_at hl 2 rfl) ?_
        refine r_calli (F := EC cA o) (va_runV (As := [.int a1]) (rest := []) C.1 (c_X8_ticksUntilPassed l D cA o _ _ kd_at_107 u12 _ h) (cwV 1 C.1.2.2.2.2 gX9_passesIn_X8_ticksUntilPassed rfl rfl rfl (by decide +kernel) ⟨Nat.le_of_ble_eq_true rfl, Nat.le_of_ble_eq_true rfl⟩) (r_preV C P [.int a1] (ci := 8) rfl (kd_lt kd_at_107 (by decide)) (EK_8 kd_at_107)) rfl rfl hl.1 rfl (lv_room (Nat.le_of_ble_eq_true rfl)) dX9_passesIn_49 ⟨Nat.le_of_ble_eq_true rfl, Nat.le_of_ble_eq_true rfl⟩) P.2 (fun r15 u14 H locs h P => ?_)
        exact r_ireti C P h dX9_passesIn_52
      · have h := ite_f h c11
        refine lv_bipush (v := -4) hx hb dX9_passesIn_30 (by decide) ?_
        exact r_ireti C P h dX9_passesIn_32
set_option maxHeartbeats 4000000 in
set_option maxRecDepth 100000 in
theorem c_X9_passesIn (l : Launch) (D : va_G) (cA : Nat → ClassId) (o : Nat) (a1 : Int32)  (u0 : Mm) (Φ : Int32 → Mm → Prop) (h : w_X9_passesIn a1 u0 Φ) : Met l yX9_passesIn wsX9_passesIn rm_X9_passesIn (va_Pc [.ref (o + 0), .int a1] (Wd 747 o D (tysL cA) (EC cA o u0))) (Qg vI Φ (fun μ => Wd 747 o D (tysL cA) (EC cA o μ)) (aA o 747)) 0 0 (aA o 747) := by
  refine Met.ofW (cc := cX9_passesIn) (maxL := 3) (ret := (some .int)) (by decide) rfl ?_
  intro p e s m args below meth c s₁ B hml hv
  obtain ⟨rfl, hv⟩ := hv
  have hl := lv_entry ([.ref (o + 0), .int a1]) (n := 3) (Nat.le_of_ble_eq_true rfl)
  rw [lg_entry_eq]
  exact t_X9_passesIn_0 ⟨⟨B.exec, B.bytes, hml, findClass_of_methodNamed B.named, atoms_spec (ws := wsX9_passesIn) B.pre⟩, B.returns, B.notSynchronized, hv.2⟩ a1 u0 _ _ _ ⟨hv.1, va_S.rf⟩ hl h
