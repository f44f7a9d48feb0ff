abbrev rm_X10_nextFor : Room := { frames := 3, cells := 0, slots := 0, locals := 71 }
def w_X10_nextFor_45  (Φ : Int32 → Mm → Prop) (x2 : Int32) (z0 : Int32) (u0 : Mm) : Prop := (if 0 ≤ x2 then (if 0 ≤ z0 then (w_X10_waited x2 u0 (fun r14 u13 => (w_X10_waited z0 u13 (fun r16 u15 => (if r14 ≤ r16 then (Φ z0 u15) else (Φ x2 u15)))))) else (Φ x2 u0)) else (Φ z0 u0))
set_option maxHeartbeats 4000000 in
set_option maxRecDepth 100000 in
theorem t_X10_nextFor_45 {p : Program} {l : Launch} {e : Env} {s : State} {m : MethodId} {args : Array Value} {below : List Frame} {meth : Method} {c : Code} {D : va_G} {cA : Nat → ClassId} {o : Nat}  {Φ : Int32 → Mm → Prop} (C : Cx p m meth c s args cX10_nextFor 4 wsX10_nextFor RX10 (some .int) D (tysL cA)) : ∀ (x2 : Int32) (z0 : Int32) (u0 : Mm), ∀ (H : Heap) (locs : List Loc) (ls : Array Slot), Hp 6 o D (EM cA o u0) s H locs → lv_has ls 4 [(0, .ref (o + 0)), (2, .int x2)] → w_X10_nextFor_45 Φ x2 z0 u0 → W p l e rm_X10_nextFor s m args below meth c H locs 0 0 (MQ below (Qg vI Φ (fun μ => Wd 6 o D (tysL cA) (EM cA o μ)) (aA o 6)) args s 0 0 (aA o 6)) (F0 m 45 ls [.int z0]) := by
  intro x2 z0 u0 H locs ls P hl h
  have hx := C.1.1
  have hb := C.1.2.1
  unfold w_X10_nextFor_45 at h
  refine lv_istore_n (lv' := [(3, .int z0), (0, .ref (o + 0)), (2, .int x2)]) hx hb dX10_nextFor_45 rfl hl (by decide) rfl (fun ls hl => ?_)
  refine lv_iload_n hx hb dX10_nextFor_46 rfl (lv_at hl 2 rfl) ?_
  refine lv_if_ge (tgt := 54) hx hb dX10_nextFor_47 (by decide) (fun c11 => ?_) (fun c11 => ?_)
  · have h := ite_t h c11
    refine lv_iload_n hx hb dX10_nextFor_54 rfl (lv_at hl 0 rfl) ?_
    refine lv_if_ge (tgt := 62) hx hb dX10_nextFor_55 (by decide) (fun c12 => ?_) (fun c12 => ?_)
    · have h := ite_t h c12
      refine lv_aload_n hx hb dX10_nextFor_62 rfl (lv_at hl 1 rfl) ?_
      refine lv_iload_n hx hb dX10_nextFor_63 rfl (lv_at hl 2 rfl) ?_
      refine r_calli (F := EM cA o) (va_runV (As := [.int x2]) (rest := []) C.1 (c_X10_waited l D cA o _ u0 _ h) (cwV 1 C.1.2.2.2.2 gX10_nextFor_X10_waited rfl rfl rfl (by decide +kernel) ⟨Nat.le_of_ble_eq_true rfl, Nat.le_of_ble_eq_true rfl⟩) (r_preV C P [.int x2] (ci := 10) rfl (by decide) EKM_0) rfl rfl hl.1 rfl (lv_room (Nat.le_of_ble_eq_true rfl)) dX10_nextFor_64 ⟨Nat.le_of_ble_eq_true rfl, Nat.le_of_ble_eq_true rfl⟩) P.2 (fun r14 u13 H locs h P => ?_)
      refine lv_aload_n hx hb dX10_nextFor_67 rfl (lv_at hl 1 rfl) ?_
      refine lv_iload_n hx hb dX10_nextFor_68 rfl (lv_at hl 0 rfl) ?_
      refine r_calli (F := EM cA o) (va_runV (As := [.int z0]) (rest := [.int r14]) C.1 (c_X10_waited l D cA o _ u13 _ h) (cwV 1 C.1.2.2.2.2 gX10_nextFor_X10_waited rfl rfl rfl (by decide +kernel) ⟨Nat.le_of_ble_eq_true rfl, Nat.le_of_ble_eq_true rfl⟩) (r_preV C P [.int z0] (ci := 10) rfl (by decide) EKM_0) rfl rfl hl.1 rfl (lv_room (Nat.le_of_ble_eq_true rfl)) dX10_nextFor_69 ⟨Nat.le_of_ble_eq_true rfl, Nat.le_of_ble_eq_true rfl⟩) P.2 (fun r16 u15 H locs h P => ?_)
      refine lv_icmp_le (tgt := 79) hx hb dX10_nextFor_72 (by decide) (fun c17 => ?_) (fun c17 => ?_)
      · have h := ite_t h c17
        refine lv_iload_n hx hb dX10_nextFor_79 rfl (lv_at hl 0 rfl) ?_
        exact r_ireti C P h dX10_nextFor_80
      · have h := ite_f h c17
        refine lv_iload_n hx hb dX10_nextFor_75 rfl (lv_at hl 2 rfl) ?_
        refine lv_goto (tgt := 80) hx hb dX10_nextFor_76 (by decide) ?_
        exact r_ireti C P h dX10_nextFor_80
    · have h := ite_f h c12
      refine lv_iload_n hx hb dX10_nextFor_58 rfl (lv_at hl 2 rfl) ?_
      refine lv_goto (tgt := 80) hx hb dX10_nextFor_59 (by decide) ?_
      exact r_ireti C P h dX10_nextFor_80
  · have h := ite_f h c11
    refine lv_iload_n hx hb dX10_nextFor_50 rfl (lv_at hl 0 rfl) ?_
    refine lv_goto (tgt := 80) hx hb dX10_nextFor_51 (by decide) ?_
    exact r_ireti C P h dX10_nextFor_80
def w_X10_nextFor_22  (Φ : Int32 → Mm → Prop) (x1 : Int32) (z0 : Int32) (u0 : Mm) : Prop := (w_X10_gateOf x1 ((0 : Int32)) u0 (fun r7 u6 => (if r7 = (1 : Int32) then (w_X10_nextFor_45 Φ z0 ((-5 : Int32)) u6) else (w_X10_queuedAt x1 ((1 : Int32)) ((0 : Int32)) u6 (fun r10 u9 => (w_X10_nextFor_45 Φ z0 r10 u9))))))
set_option maxHeartbeats 4000000 in
set_option maxRecDepth 100000 in
theorem t_X10_nextFor_22 {p : Program} {l : Launch} {e : Env} {s : State} {m : MethodId} {args : Array Value} {below : List Frame} {meth : Method} {c : Code} {D : va_G} {cA : Nat → ClassId} {o : Nat}  {Φ : Int32 → Mm → Prop} (C : Cx p m meth c s args cX10_nextFor 4 wsX10_nextFor RX10 (some .int) D (tysL cA)) : ∀ (x1 : Int32) (z0 : Int32) (u0 : Mm), ∀ (H : Heap) (locs : List Loc) (ls : Array Slot), Hp 6 o D (EM cA o u0) s H locs → lv_has ls 4 [(0, .ref (o + 0)), (1, .int x1)] → w_X10_nextFor_22 Φ x1 z0 u0 → W p l e rm_X10_nextFor s m args below meth c H locs 0 0 (MQ below (Qg vI Φ (fun μ => Wd 6 o D (tysL cA) (EM cA o μ)) (aA o 6)) args s 0 0 (aA o 6)) (F0 m 22 ls [.int z0]) := by
  intro x1 z0 u0 H locs ls P hl h
  have hx := C.1.1
  have hb := C.1.2.1
  unfold w_X10_nextFor_22 at h
  refine lv_istore_n (lv' := [(2, .int z0), (0, .ref (o + 0)), (1, .int x1)]) hx hb dX10_nextFor_22 rfl hl (by decide) rfl (fun ls hl => ?_)
  refine lv_aload_n hx hb dX10_nextFor_23 rfl (lv_at hl 1 rfl) ?_
  refine lv_iload_n hx hb dX10_nextFor_24 rfl (lv_at hl 2 rfl) ?_
  refine lv_iconst (v := 0) hx hb dX10_nextFor_25 (by decide) ?_
  refine r_calli (F := EM cA o) (va_runV (As := [.int x1, .int (0 : Int32)]) (rest := []) C.1 (c_X10_gateOf l D cA o _ _ u0 _ h) (cwV 2 C.1.2.2.2.2 gX10_nextFor_X10_gateOf rfl rfl rfl (by decide +kernel) ⟨Nat.le_of_ble_eq_true rfl, Nat.le_of_ble_eq_true rfl⟩) (r_preV C P [.int x1, .int (0 : Int32)] (ci := 10) rfl (by decide) EKM_0) rfl rfl hl.1 rfl (lv_room (Nat.le_of_ble_eq_true rfl)) dX10_nextFor_26 ⟨Nat.le_of_ble_eq_true rfl, Nat.le_of_ble_eq_true rfl⟩) P.2 (fun r7 u6 H locs h P => ?_)
  refine lv_iconst (v := 1) hx hb dX10_nextFor_29 (by decide) ?_
  refine lv_icmp_ne (tgt := 38) hx hb dX10_nextFor_30 (by decide) (fun c8 => ?_) (fun c8 => ?_)
  · have h := ite_f h c8
    refine lv_aload_n hx hb dX10_nextFor_38 rfl (lv_at hl 1 rfl) ?_
    refine lv_iload_n hx hb dX10_nextFor_39 rfl (lv_at hl 2 rfl) ?_
    refine lv_iconst (v := 1) hx hb dX10_nextFor_40 (by decide) ?_
    refine lv_iconst (v := 0) hx hb dX10_nextFor_41 (by decide) ?_
    refine r_calli (F := EM cA o) (va_runV (As := [.int x1, .int (1 : Int32), .int (0 : Int32)]) (rest := []) C.1 (c_X10_queuedAt l D cA o _ _ _ u6 _ h) (cwV 3 C.1.2.2.2.2 gX10_nextFor_X10_queuedAt rfl rfl rfl (by decide +kernel) ⟨Nat.le_of_ble_eq_true rfl, Nat.le_of_ble_eq_true rfl⟩) (r_preV C P [.int x1, .int (1 : Int32), .int (0 : Int32)] (ci := 10) rfl (by decide) EKM_0) rfl rfl hl.1 rfl (lv_room (Nat.le_of_ble_eq_true rfl)) dX10_nextFor_42 ⟨Nat.le_of_ble_eq_true rfl, Nat.le_of_ble_eq_true rfl⟩) P.2 (fun r10 u9 H locs h P => ?_)
    exact t_X10_nextFor_45 C _ _ u9 _ _ _ P (lv_sub hl [1, 0] rfl) h
  · have h := ite_t h c8
    refine lv_bipush (v := -5) hx hb dX10_nextFor_33 (by decide) ?_
    refine lv_goto (tgt := 45) hx hb dX10_nextFor_35 (by decide) ?_
    exact t_X10_nextFor_45 C _ _ u6 _ _ _ P (lv_sub hl [1, 0] rfl) h
def w_X10_nextFor (a1 : Int32) (u0 : Mm) (Φ : Int32 → Mm → Prop) : Prop := (w_X10_gateOf a1 ((0 : Int32)) u0 (fun r2 u1 => (if r2 = (2 : Int32) then (w_X10_nextFor_22 Φ a1 ((-5 : Int32)) u1) else (w_X10_queuedAt a1 ((0 : Int32)) ((0 : Int32)) u1 (fun r5 u4 => (w_X10_nextFor_22 Φ a1 r5 u4))))))
set_option maxHeartbeats 4000000 in
set_option maxRecDepth 100000 in
theorem t_X10_nextFor_0 {p : Program} {l : Launch} {e : Env} {s : State} {m : MethodId} {args : Array Value} {below : List Frame} {meth : Method} {c : Code} {D : va_G} {cA : Nat → ClassId} {o : Nat}  {Φ : Int32 → Mm → Prop} (C : Cx p m meth c s args cX10_nextFor 4 wsX10_nextFor RX10 (some .int) D (tysL cA)) : ∀ (a1 : Int32) (u0 : Mm), ∀ (H : Heap) (locs : List Loc) (ls : Array Slot), Hp 6 o D (EM cA o u0) s H locs → lv_has ls 4 [(0, .ref (o + 0)), (1, .int a1)] → w_X10_nextFor a1 u0 Φ → W p l e rm_X10_nextFor s m args below meth c H locs 0 0 (MQ below (Qg vI Φ (fun μ => Wd 6 o D (tysL cA) (EM cA o μ)) (aA o 6)) args s 0 0 (aA o 6)) (F0 m 0 ls []) := by
  intro a1 u0 H locs ls P hl h
  have hx := C.1.1
  have hb := C.1.2.1
  unfold w_X10_nextFor at h
  refine lv_aload_n hx hb dX10_nextFor_0 rfl (lv_at hl 0 rfl) ?_
  refine lv_iload_n hx hb dX10_nextFor_1 rfl (lv_at hl 1 rfl) ?_
  refine lv_iconst (v := 0) hx hb dX10_nextFor_2 (by decide) ?_
  refine r_calli (F := EM cA o) (va_runV (As := [.int a1, .int (0 : Int32)]) (rest := []) C.1 (c_X10_gateOf l D cA o _ _ u0 _ h) (cwV 2 C.1.2.2.2.2 gX10_nextFor_X10_gateOf rfl rfl rfl (by decide +kernel) ⟨Nat.le_of_ble_eq_true rfl, Nat.le_of_ble_eq_true rfl⟩) (r_preV C P [.int a1, .int (0 : Int32)] (ci := 10) rfl (by decide) EKM_0) rfl rfl hl.1 rfl (lv_room (Nat.le_of_ble_eq_true rfl)) dX10_nextFor_3 ⟨Nat.le_of_ble_eq_true rfl, Nat.le_of_ble_eq_true rfl⟩) P.2 (fun r2 u1 H locs h P => ?_)
  refine lv_iconst (v := 2) hx hb dX10_nextFor_6 (by decide) ?_
  refine lv_icmp_ne (tgt := 15) hx hb dX10_nextFor_7 (by decide) (fun c3 => ?_) (fun c3 => ?_)
  · have h := ite_f h c3
    refine lv_aload_n hx hb dX10_nextFor_15 rfl (lv_at hl 0 rfl) ?_
    refine lv_iload_n hx hb dX10_nextFor_16 rfl (lv_at hl 1 rfl) ?_
    refine lv_iconst (v := 0) hx hb dX10_nextFor_17 (by decide) ?_
    refine lv_iconst (v := 0) hx hb dX10_nextFor_18 (by decide) ?_
    refine r_calli (F := EM cA o) (va_runV (As := [.int a1, .int (0 : Int32), .int (0 : Int32)]) (rest := []) C.1 (c_X10_queuedAt l D cA o _ _ _ u1 _ h) (cwV 3 C.1.2.2.2.2 gX10_nextFor_X10_queuedAt rfl rfl rfl (by decide +kernel) ⟨Nat.le_of_ble_eq_true rfl, Nat.le_of_ble_eq_true rfl⟩) (r_preV C P [.int a1, .int (0 : Int32), .int (0 : Int32)] (ci := 10) rfl (by decide) EKM_0) rfl rfl hl.1 rfl (lv_room (Nat.le_of_ble_eq_true rfl)) dX10_nextFor_19 ⟨Nat.le_of_ble_eq_true rfl, Nat.le_of_ble_eq_true rfl⟩) P.2 (fun r5 u4 H locs h P => ?_)
    exact t_X10_nextFor_22 C _ _ u4 _ _ _ P (lv_sub hl [0, 1] rfl) h
  · have h := ite_t h c3
    refine lv_bipush (v := -5) hx hb dX10_nextFor_10 (by decide) ?_
    refine lv_goto (tgt := 22) hx hb dX10_nextFor_12 (by decide) ?_
    exact t_X10_nextFor_22 C _ _ u1 _ _ _ P (lv_sub hl [0, 1] rfl) h
set_option maxHeartbeats 4000000 in
set_option maxRecDepth 100000 in
theorem c_X10_nextFor (l : Launch) (D : va_G) (cA : Nat → ClassId) (o : Nat) (a1 : Int32)  (u0 : Mm) (Φ : Int32 → Mm → Prop) (h : w_X10_nextFor a1 u0 Φ) : Met l yX10_nextFor wsX10_nextFor rm_X10_nextFor (va_Pc [.ref (o + 0), .int a1] (Wd 6 o D (tysL cA) (EM cA o u0))) (Qg vI Φ (fun μ => Wd 6 o D (tysL cA) (EM cA o μ)) (aA o 6)) 0 0 (aA o 6) := by
  refine Met.ofW (cc := cX10_nextFor) (maxL := 4) (ret := (some .int)) (by decide) rfl ?_
  intro p e s m args below meth c s₁ B hml hv
  obtain ⟨rfl, hv⟩ := hv
  have hl := lv_entry ([.ref (o + 0), .int a1]) (n := 4) (Nat.le_of_ble_eq_true rfl)
  rw [lg_entry_eq]
  exact t_X10_nextFor_0 ⟨⟨B.exec, B.bytes, hml, findClass_of_methodNamed B.named, atoms_spec (ws := wsX10_nextFor) B.pre⟩, B.returns, B.notSynchronized, hv.2⟩ a1 u0 _ _ _ ⟨hv.1, va_S.rf⟩ hl h
abbrev rm_X10_turn : Room := { frames := 1, cells := 0, slots := 0, locals := 23 }
def w_X10_turn (a1 : Int32) (a2 : Int32) (a3 : Int32) (u0 : Mm) (Φ : Unit → Mm → Prop) : Prop := (w_X10_putGate a1 ((4 : Int32)) a2 u0 (fun _ u1 => (w_X10_putGate a1 ((5 : Int32)) a3 u1 (fun _ u3 => (Φ () u3)))))
set_option maxHeartbeats 4000000 in
set_option maxRecDepth 100000 in
theorem t_X10_turn_0 {p : Program} {l : Launch} {e : Env} {s : State} {m : MethodId} {args : Array Value} {below : List Frame} {meth : Method} {c : Code} {D : va_G} {cA : Nat → ClassId} {o : Nat}  {Φ : Unit → Mm → Prop} (C : Cx p m meth c s args cX10_turn 4 wsX10_turn RX10 none D (tysL cA)) : ∀ (a1 : Int32) (a2 : Int32) (a3 : Int32) (u0 : Mm), ∀ (H : Heap) (locs : List Loc) (ls : Array Slot), Hp 6 o D (EM cA o u0) s H locs → lv_has ls 4 [(0, .ref (o + 0)), (1, .int a1), (2, .int a2), (3, .int a3)] → w_X10_turn a1 a2 a3 u0 Φ → W p l e rm_X10_turn s m args below meth c H locs 0 0 (MQ below (Qg vV Φ (fun μ => Wd 6 o D (tysL cA) (EM cA o μ)) (aA o 6)) args s 0 0 (aA o 6)) (F0 m 0 ls []) := by
  intro a1 a2 a3 u0 H locs ls P hl h
  have hx := C.1.1
  have hb := C.1.2.1
  unfold w_X10_turn at h
  refine lv_aload_n hx hb dX10_turn_0 rfl (lv_at hl 0 rfl) ?_
  refine lv_iload_n hx hb dX10_turn_1 rfl (lv_at hl 1 rfl) ?_
  refine lv_iconst (v := 4) hx hb dX10_turn_2 (by decide) ?_
  refine lv_iload_n hx hb dX10_turn_3 rfl (lv_at hl 2 rfl) ?_
  refine r_callv (F := EM cA o) (va_runV (As := [.int a1, .int (4 : Int32), .int a2]) (rest := []) C.1 (c_X10_putGate l D cA o _ _ _ u0 _ h) (cwV 3 C.1.2.2.2.2 gX10_turn_X10_putGate rfl rfl rfl (by decide +kernel) ⟨Nat.le_of_ble_eq_true rfl, Nat.le_of_ble_eq_true rfl⟩) (r_preV C P [.int a1, .int (4 : Int32), .int a2] (ci := 10) rfl (by decide) EKM_0) rfl rfl hl.1 rfl (lv_room (Nat.le_of_ble_eq_true rfl)) dX10_turn_4 ⟨Nat.le_of_ble_eq_true rfl, Nat.le_of_ble_eq_true rfl⟩) P.2 (fun u1 H locs h P => ?_)
  refine lv_aload_n hx hb dX10_turn_7 rfl (lv_at hl 0 rfl) ?_
  refine lv_iload_n hx hb dX10_turn_8 rfl (lv_at hl 1 rfl) ?_
  refine lv_iconst (v := 5) hx hb dX10_turn_9 (by decide) ?_
  refine lv_iload_n hx hb dX10_turn_10 rfl (lv_at hl 3 rfl) ?_
  refine r_callv (F := EM cA o) (va_runV (As := [.int a1, .int (5 : Int32), .int a3]) (rest := []) C.1 (c_X10_putGate l D cA o _ _ _ u1 _ h) (cwV 3 C.1.2.2.2.2 gX10_turn_X10_putGate rfl rfl rfl (by decide +kernel) ⟨Nat.le_of_ble_eq_true rfl, Nat.le_of_ble_eq_true rfl⟩) (r_preV C P [.int a1, .int (5 : Int32), .int a3] (ci := 10) rfl (by decide) EKM_0) rfl rfl hl.1 rfl (lv_room (Nat.le_of_ble_eq_true rfl)) dX10_turn_11 ⟨Nat.le_of_ble_eq_true rfl, Nat.le_of_ble_eq_true rfl⟩) P.2 (fun u3 H locs h P => ?_)
  exact r_ret C P h dX10_turn_14
set_option maxHeartbeats 4000000 in
set_option maxRecDepth 100000 in
theorem c_X10_turn (l : Launch) (D : va_G) (cA : Nat → ClassId) (o : Nat) (a1 : Int32) (a2 : Int32) (a3 : Int32)  (u0 : Mm) (Φ : Unit → Mm → Prop) (h : w_X10_turn a1 a2 a3 u0 Φ) : Met l yX10_turn wsX10_turn rm_X10_turn (va_Pc [.ref (o + 0), .int a1, .int a2, .int a3] (Wd 6 o D (tysL cA) (EM cA o u0))) (Qg vV Φ (fun μ => Wd 6 o D (tysL cA) (EM cA o μ)) (aA o 6)) 0 0 (aA o 6) := by
  refine Met.ofW (cc := cX10_turn) (maxL := 4) (ret := none) (by decide) rfl ?_
  intro p e s m args below meth c s₁ B hml hv
  obtain ⟨rfl, hv⟩ := hv
  have hl := lv_entry ([.ref (o + 0), .int a1, .int a2, .int a3]) (n := 4) (Nat.le_of_ble_eq_true rfl)
  rw [lg_entry_eq]
  exact t_X10_turn_0 ⟨⟨B.exec, B.bytes, hml, findClass_of_methodNamed B.named, atoms_spec (ws := wsX10_turn) B.pre⟩, B.returns, B.notSynchronized, hv.2⟩ a1 a2 a3 u0 _ _ _ ⟨hv.1, va_S.rf⟩ hl h
abbrev rm_X10_takeNext : Room := { frames := 4, cells := 0, slots := 0, locals := 94 }
theorem wd_X10_takeNext_1 : Cond.fieldLink RX10 7 "TurnstileBankModel" "row" "[I" ∈ wsX10_takeNext := List.mem_of_getElem? (i := 1) (by decide +kernel)
theorem in_X10_takeNext_10 : ∀ w ∈ wsX100, w ∈ wsX10_takeNext := fun w h => List.mem_cons_of_mem _ (List.mem_append_right _ h)
def w_X10_takeNext_194  (Φ : Unit → Mm → Prop) (x1 : Int32) (z0 : Int32) (z1 : Int32) (z2 : Int32) (u0 : Mm) : Prop := (w_X10_putGate z2 z1 z0 u0 (fun _ u15 => (w_X10_putGate x1 ((8 : Int32)) ((0 : Int32)) u15 (fun _ u17 => (w_X10_gateOf x1 ((1 : Int32)) u17 (fun r20 u19 => (w_X10_turn x1 ((1 : Int32)) r20 u19 (fun _ u21 => (Φ () u21)))))))))
set_option maxHeartbeats 4000000 in
set_option maxRecDepth 100000 in
theorem t_X10_takeNext_194 {p : Program} {l : Launch} {e : Env} {s : State} {m : MethodId} {args : Array Value} {below : List Frame} {meth : Method} {c : Code} {D : va_G} {cA : Nat → ClassId} {o : Nat}  {Φ : Unit → Mm → Prop} (C : Cx p m meth c s args cX10_takeNext 6 wsX10_takeNext RX10 none D (tysL cA)) : ∀ (x1 : Int32) (z0 : Int32) (z1 : Int32) (z2 : Int32) (u0 : Mm), ∀ (H : Heap) (locs : List Loc) (ls : Array Slot), Hp 6 o D (EM cA o u0) s H locs → lv_has ls 6 [(0, .ref (o + 0)), (1, .int x1)] → w_X10_takeNext_194 Φ x1 z0 z1 z2 u0 → W p l e rm_X10_takeNext s m args below meth c H locs 0 0 (MQ below (Qg vV Φ (fun μ => Wd 6 o D (tysL cA) (EM cA o μ)) (aA o 6)) args s 0 0 (aA o 6)) (F0 m 194 ls [.int z0, .int z1, .int z2, .ref (o + 0)]) := by
  intro x1 z0 z1 z2 u0 H locs ls P hl h
  have hx := C.1.1
  have hb := C.1.2.1
  unfold w_X10_takeNext_194 at h
  refine r_callv (F := EM cA o) (va_runV (As := [.int z2, .int z1, .int z0]) (rest := []) C.1 (c_X10_putGate l D cA o _ _ _ u0 _ h) (cwV 3 C.1.2.2.2.2 gX10_takeNext_X10_putGate rfl rfl rfl (by decide +kernel) ⟨Nat.le_of_ble_eq_true rfl, Nat.le_of_ble_eq_true rfl⟩) (r_preV C P [.int z2, .int z1, .int z0] (ci := 10) rfl (by decide) EKM_0) rfl rfl hl.1 rfl (lv_room (Nat.le_of_ble_eq_true rfl)) dX10_takeNext_194 ⟨Nat.le_of_ble_eq_true rfl, Nat.le_of_ble_eq_true rfl⟩) P.2 (fun u15 H locs h P => ?_)
  refine lv_aload_n hx hb dX10_takeNext_197 rfl (lv_at hl 0 rfl) ?_
  refine lv_iload_n hx hb dX10_takeNext_198 rfl (lv_at hl 1 rfl) ?_
  refine lv_bipush (v := 8) hx hb dX10_takeNext_199 (by decide) ?_
  refine lv_iconst (v := 0) hx hb dX10_takeNext_201 (by decide) ?_
  refine r_callv (F := EM cA o) (va_runV (As := [.int x1, .int (8 : Int32), .int (0 : Int32)]) (rest := []) C.1 (c_X10_putGate l D cA o _ _ _ u15 _ h) (cwV 3 C.1.2.2.2.2 gX10_takeNext_X10_putGate rfl rfl rfl (by decide +kernel) ⟨Nat.le_of_ble_eq_true rfl, Nat.le_of_ble_eq_true rfl⟩) (r_preV C P [.int x1, .int (8 : Int32), .int (0 : Int32)] (ci := 10) rfl (by decide) EKM_0) rfl rfl hl.1 rfl (lv_room (Nat.le_of_ble_eq_true rfl)) dX10_takeNext_202 ⟨Nat.le_of_ble_eq_true rfl, Nat.le_of_ble_eq_true rfl⟩) P.2 (fun u17 H locs h P => ?_)
  refine lv_aload_n hx hb dX10_takeNext_205 rfl (lv_at hl 0 rfl) ?_
  refine lv_iload_n hx hb dX10_takeNext_206 rfl (lv_at hl 1 rfl) ?_
  refine lv_iconst (v := 1) hx hb dX10_takeNext_207 (by decide) ?_
  refine lv_aload_n hx hb dX10_takeNext_208 rfl (lv_at hl 0 rfl) ?_
  refine lv_iload_n hx hb dX10_takeNext_209 rfl (lv_at hl 1 rfl) ?_
  refine lv_iconst (v := 1) hx hb dX10_takeNext_210 (by decide) ?_
  refine r_calli (F := EM cA o) (va_runV (As := [.int x1, .int (1 : Int32)]) (rest := [.int (1 : Int32), .int x1, .ref (o + 0)]) C.1 (c_X10_gateOf l D cA o _ _ u17 _ h) (cwV 2 C.1.2.2.2.2 gX10_takeNext_X10_gateOf rfl rfl rfl (by decide +kernel) ⟨Nat.le_of_ble_eq_true rfl, Nat.le_of_ble_eq_true rfl⟩) (r_preV C P [.int x1, .int (1 : Int32)] (ci := 10) rfl (by decide) EKM_0) rfl rfl hl.1 rfl (lv_room (Nat.le_of_ble_eq_true rfl)) dX10_takeNext_211 ⟨Nat.le_of_ble_eq_true rfl, Nat.le_of_ble_eq_true rfl⟩) P.2 (fun r20 u19 H locs h P => ?_)
  refine r_callv (F := EM cA o) (va_runV (As := [.int x1, .int (1 : Int32), .int r20]) (rest := []) C.1 (c_X10_turn l D cA o _ _ _ u19 _ h) (cwV 3 C.1.2.2.2.2 gX10_takeNext_X10_turn rfl rfl rfl (by decide +kernel) ⟨Nat.le_of_ble_eq_true rfl, Nat.le_of_ble_eq_true rfl⟩) (r_preV C P [.int x1, .int (1 : Int32), .int r20] (ci := 10) rfl (by decide) EKM_0) rfl rfl hl.1 rfl (lv_room (Nat.le_of_ble_eq_true rfl)) dX10_takeNext_214 ⟨Nat.le_of_ble_eq_true rfl, Nat.le_of_ble_eq_true rfl⟩) P.2 (fun u21 H locs h P => ?_)
  exact r_ret C P h dX10_takeNext_217
def w_X10_takeNext_166  (Φ : Unit → Mm → Prop) (x1 : Int32) (x2 : Int32) (x3 : Int32) (u0 : Mm) : Prop := (w_X10_put x2 ((0 : Int32)) ((2 : Int32)) u0 (fun _ u10 => (w_X10_putGate x1 ((6 : Int32)) x2 u10 (fun _ u12 => (if x3 = 0 then (w_X10_takeNext_194 Φ x1 ((0 : Int32)) ((7 : Int32)) x1 u12) else (w_X10_takeNext_194 Φ x1 ((1 : Int32)) ((7 : Int32)) x1 u12))))))
set_option maxHeartbeats 4000000 in
set_option maxRecDepth 100000 in
theorem t_X10_takeNext_166 {p : Program} {l : Launch} {e : Env} {s : State} {m : MethodId} {args : Array Value} {below : List Frame} {meth : Method} {c : Code} {D : va_G} {cA : Nat → ClassId} {o : Nat}  {Φ : Unit → Mm → Prop} (C : Cx p m meth c s args cX10_takeNext 6 wsX10_takeNext RX10 none D (tysL cA)) : ∀ (x1 : Int32) (x2 : Int32) (x3 : Int32) (u0 : Mm), ∀ (H : Heap) (locs : List Loc) (ls : Array Slot), Hp 6 o D (EM cA o u0) s H locs → lv_has ls 6 [(0, .ref (o + 0)), (1, .int x1), (2, .int x2), (3, .int x3)] → w_X10_takeNext_166 Φ x1 x2 x3 u0 → W p l e rm_X10_takeNext s m args below meth c H locs 0 0 (MQ below (Qg vV Φ (fun μ => Wd 6 o D (tysL cA) (EM cA o μ)) (aA o 6)) args s 0 0 (aA o 6)) (F0 m 166 ls []) := by
  intro x1 x2 x3 u0 H locs ls P hl h
  have hx := C.1.1
  have hb := C.1.2.1
  unfold w_X10_takeNext_166 at h
  refine lv_aload_n hx hb dX10_takeNext_166 rfl (lv_at hl 0 rfl) ?_
  refine lv_iload_n hx hb dX10_takeNext_167 rfl (lv_at hl 2 rfl) ?_
  refine lv_iconst (v := 0) hx hb dX10_takeNext_168 (by decide) ?_
  refine lv_iconst (v := 2) hx hb dX10_takeNext_169 (by decide) ?_
  refine r_callv (F := EM cA o) (va_runV (As := [.int x2, .int (0 : Int32), .int (2 : Int32)]) (rest := []) C.1 (c_X10_put l D cA o _ _ _ u0 _ h) (cwV 3 C.1.2.2.2.2 gX10_takeNext_X10_put rfl rfl rfl (by decide +kernel) ⟨Nat.le_of_ble_eq_true rfl, Nat.le_of_ble_eq_true rfl⟩) (r_preV C P [.int x2, .int (0 : Int32), .int (2 : Int32)] (ci := 10) rfl (by decide) EKM_0) rfl rfl hl.1 rfl (lv_room (Nat.le_of_ble_eq_true rfl)) dX10_takeNext_170 ⟨Nat.le_of_ble_eq_true rfl, Nat.le_of_ble_eq_true rfl⟩) P.2 (fun u10 H locs h P => ?_)
  refine lv_aload_n hx hb dX10_takeNext_173 rfl (lv_at hl 0 rfl) ?_
  refine lv_iload_n hx hb dX10_takeNext_174 rfl (lv_at hl 1 rfl) ?_
  refine lv_bipush (v := 6) hx hb dX10_takeNext_175 (by decide) ?_
  refine lv_iload_n hx hb dX10_takeNext_177 rfl (lv_at hl 2 rfl) ?_
  refine r_callv (F := EM cA o) (va_runV (As := [.int x1, .int (6 : Int32), .int x2]) (rest := []) C.1 (c_X10_putGate l D cA o _ _ _ u10 _ h) (cwV 3 C.1.2.2.2.2 gX10_takeNext_X10_putGate rfl rfl rfl (by decide +kernel) ⟨Nat.le_of_ble_eq_true rfl, Nat.le_of_ble_eq_true rfl⟩) (r_preV C P [.int x1, .int (6 : Int32), .int x2] (ci := 10) rfl (by decide) EKM_0) rfl rfl hl.1 rfl (lv_room (Nat.le_of_ble_eq_true rfl)) dX10_takeNext_178 ⟨Nat.le_of_ble_eq_true rfl, Nat.le_of_ble_eq_true rfl⟩) P.2 (fun u12 H locs h P => ?_)
  refine lv_aload_n hx hb dX10_takeNext_181 rfl (lv_at hl 0 rfl) ?_
  refine lv_iload_n hx hb dX10_takeNext_182 rfl (lv_at hl 1 rfl) ?_
  refine lv_bipush (v := 7) hx hb dX10_takeNext_183 (by decide) ?_
  refine lv_iload_n hx hb dX10_takeNext_185 rfl (lv_at hl 3 rfl) ?_
  refine lv_if_eq (tgt := 193) hx hb dX10_takeNext_186 (by decide) (fun c14 => ?_) (fun c14 => ?_)
  · have h := ite_t h c14
    refine lv_iconst (v := 0) hx hb dX10_takeNext_193 (by decide) ?_
    exact t_X10_takeNext_194 C _ _ _ _ u12 _ _ _ P (lv_sub hl [0, 1] rfl) h
  · have h := ite_f h c14
    refine lv_iconst (v := 1) hx hb dX10_takeNext_189 (by decide) ?_
    refine lv_goto (tgt := 194) hx hb dX10_takeNext_190 (by decide) ?_
    exact t_X10_takeNext_194 C _ _ _ _ u12 _ _ _ P (lv_sub hl [0, 1] rfl) h
def w_X10_takeNext_40  (Φ : Unit → Mm → Prop) (x1 : Int32) (x2 : Int32) (x3 : Int32) (z0 : Int32) (u0 : Mm) : Prop := (if z0 ≤ 0 then (if x3 = 0 then (w_X10_takeNext_166 Φ x1 x2 x3 u0) else (w_X10_of x2 ((1 : Int32)) u0 (fun r24 u23 => (vp_in ((400 : Int32) + ((2 : Int32) * r24)) 516 ∧ (vp_in ((424 : Int32) + ((3 : Int32) * (u23 1 ((400 : Int32) + ((2 : Int32) * r24)).toNatClampNeg))) 516 ∧ (vp_in ((424 : Int32) + ((3 : Int32) * (u23 1 ((400 : Int32) + ((2 : Int32) * r24)).toNatClampNeg))) 516 ∧ ∀ u25 : Mm, u25 = up2 u23 1 ((424 : Int32) + ((3 : Int32) * (u23 1 ((400 : Int32) + ((2 : Int32) * r24)).toNatClampNeg))).toNatClampNeg ((u23 1 ((424 : Int32) + ((3 : Int32) * (u23 1 ((400 : Int32) + ((2 : Int32) * r24)).toNatClampNeg))).toNatClampNeg) - (u23 1 (6 : Int32).toNatClampNeg)) → (vp_in (((424 : Int32) + ((3 : Int32) * (u23 1 ((400 : Int32) + ((2 : Int32) * r24)).toNatClampNeg))) + (2 : Int32)) 516 ∧ (vp_in (((424 : Int32) + ((3 : Int32) * (u23 1 ((400 : Int32) + ((2 : Int32) * r24)).toNatClampNeg))) + (2 : Int32)) 516 ∧ ∀ u26 : Mm, u26 = up2 u25 1 (((424 : Int32) + ((3 : Int32) * (u23 1 ((400 : Int32) + ((2 : Int32) * r24)).toNatClampNeg))) + (2 : Int32)).toNatClampNeg ((u25 1 (((424 : Int32) + ((3 : Int32) * (u23 1 ((400 : Int32) + ((2 : Int32) * r24)).toNatClampNeg))) + (2 : Int32)).toNatClampNeg) + (u25 1 (6 : Int32).toNatClampNeg)) → (w_X10_tell x1 x2 ((0 : Int32)) u26 (fun _ u27 => (w_X10_takeNext_166 Φ x1 x2 x3 u27))))))))))) else (w_X10_put x2 ((0 : Int32)) ((0 : Int32)) u0 (fun _ u29 => (w_X10_put x2 ((3 : Int32)) ((-5 : Int32)) u29 (fun _ u31 => (w_X10_put x2 ((4 : Int32)) z0 u31 (fun _ u33 => (w_X10_gateOf x1 ((12 : Int32)) u33 (fun r36 u35 => (w_X10_putGate x1 ((12 : Int32)) ((r36 + (1 : Int32))) u35 (fun _ u37 => (w_X10_tell x1 x2 ((1 : Int32)) u37 (fun _ u39 => (Φ () u39))))))))))))))
set_option maxHeartbeats 4000000 in
set_option maxRecDepth 100000 in
theorem t_X10_takeNext_40 {p : Program} {l : Launch} {e : Env} {s : State} {m : MethodId} {args : Array Value} {below : List Frame} {meth : Method} {c : Code} {D : va_G} {cA : Nat → ClassId} {o : Nat}  {Φ : Unit → Mm → Prop} (C : Cx p m meth c s args cX10_takeNext 6 wsX10_takeNext RX10 none D (tysL cA)) : ∀ (x1 : Int32) (x2 : Int32) (x3 : Int32) (z0 : Int32) (u0 : Mm), ∀ (H : Heap) (locs : List Loc) (ls : Array Slot), Hp 6 o D (EM cA o u0) s H locs → lv_has ls 6 [(0, .ref (o + 0)), (1, .int x1), (2, .int x2), (3, .int x3)] → w_X10_takeNext_40 Φ x1 x2 x3 z0 u0 → W p l e rm_X10_takeNext s m args below meth c H locs 0 0 (MQ below (Qg vV Φ (fun μ => Wd 6 o D (tysL cA) (EM cA o μ)) (aA o 6)) args s 0 0 (aA o 6)) (F0 m 40 ls [.int z0]) := by
  intro x1 x2 x3 z0 u0 H locs ls P hl h
  have hx := C.1.1
  have hb := C.1.2.1
  unfold w_X10_takeNext_40 at h
  refine lv_istore (lv' := [(4, .int z0), (0, .ref (o + 0)), (1, .int x1), (2, .int x2), (3, .int x3)]) hx hb dX10_takeNext_40 hl (by decide) rfl (fun ls hl => ?_)
  refine lv_iload hx hb dX10_takeNext_42 (lv_at hl 0 rfl) ?_
  refine lv_if_le (tgt := 94) hx hb dX10_takeNext_44 (by decide) (fun c8 => ?_) (fun c8 => ?_)
  · have h := ite_t h c8
    refine lv_iload_n hx hb dX10_takeNext_94 rfl (lv_at hl 4 rfl) ?_
    refine lv_if_eq (tgt := 166) hx hb dX10_takeNext_95 (by decide) (fun c9 => ?_) (fun c9 => ?_)
    · have h := ite_t h c9
      exact t_X10_takeNext_166 C _ _ _ u0 _ _ _ P (lv_sub hl [1, 2, 3, 4] rfl) h
    · have h := ite_f h c9
      refine lv_sipush (v := 424) hx hb dX10_takeNext_98 (by decide) ?_
      refine lv_iconst (v := 3) hx hb dX10_takeNext_101 (by decide) ?_
      refine lv_aload_n hx hb dX10_takeNext_102 rfl (lv_at hl 1 rfl) ?_
      refine g_10_0 C P in_X10_takeNext_10 wd_X10_takeNext_1 dX10_takeNext_103 ?_
      refine lv_sipush (v := 400) hx hb dX10_takeNext_106 (by decide) ?_
      refine lv_iconst (v := 2) hx hb dX10_takeNext_109 (by decide) ?_
      refine lv_aload_n hx hb dX10_takeNext_110 rfl (lv_at hl 1 rfl) ?_
      refine lv_iload_n hx hb dX10_takeNext_111 rfl (lv_at hl 3 rfl) ?_
      refine lv_iconst (v := 1) hx hb dX10_takeNext_112 (by decide) ?_
      refine r_calli (F := EM cA o) (va_runV (As := [.int x2, .int (1 : Int32)]) (rest := [.int (2 : Int32), .int (400 : Int32), .ref (o + 1), .int (3 : Int32), .int (424 : Int32)]) C.1 (c_X10_of l D cA o _ _ u0 _ h) (cwV 2 C.1.2.2.2.2 gX10_takeNext_X10_of rfl rfl rfl (by decide +kernel) ⟨Nat.le_of_ble_eq_true rfl, Nat.le_of_ble_eq_true rfl⟩) (r_preV C P [.int x2, .int (1 : Int32)] (ci := 10) rfl (by decide) EKM_0) rfl rfl hl.1 rfl (lv_room (Nat.le_of_ble_eq_true rfl)) dX10_takeNext_113 ⟨Nat.le_of_ble_eq_true rfl, Nat.le_of_ble_eq_true rfl⟩) P.2 (fun r24 u23 H locs h P => ?_)
      refine lv_imul hx hb dX10_takeNext_116 ?_
      refine lv_iadd hx hb dX10_takeNext_117 ?_
      obtain ⟨hi, h⟩ := h
      refine mld_1 C P hi dX10_takeNext_118 ?_
      refine lv_imul hx hb dX10_takeNext_119 ?_
      refine lv_iadd hx hb dX10_takeNext_120 ?_
      refine lv_istore (lv' := [(5, .int ((424 : Int32) + ((3 : Int32) * (u23 1 ((400 : Int32) + ((2 : Int32) * r24)).toNatClampNeg)))), (4, .int z0), (0, .ref (o + 0)), (1, .int x1), (2, .int x2), (3, .int x3)]) hx hb dX10_takeNext_121 hl (by decide) rfl (fun ls hl => ?_)
      refine lv_aload_n hx hb dX10_takeNext_123 rfl (lv_at hl 2 rfl) ?_
      refine g_10_0 C P in_X10_takeNext_10 wd_X10_takeNext_1 dX10_takeNext_124 ?_
      refine lv_iload hx hb dX10_takeNext_127 (lv_at hl 0 rfl) ?_
      refine lv_dup2_11 hx hb dX10_takeNext_129 rfl rfl ?_
      obtain ⟨hi, h⟩ := h
      refine mld_1 C P hi dX10_takeNext_130 ?_
      refine lv_aload_n hx hb dX10_takeNext_131 rfl (lv_at hl 2 rfl) ?_
      refine g_10_0 C P in_X10_takeNext_10 wd_X10_takeNext_1 dX10_takeNext_132 ?_
      refine lv_bipush (v := 6) hx hb dX10_takeNext_135 (by decide) ?_
      refine mld_1 C P (by unfold vp_in; decide) dX10_takeNext_137 ?_
      refine lv_isub hx hb dX10_takeNext_138 ?_
      obtain ⟨hi, h⟩ := h
      refine mst_1 C P hi dX10_takeNext_139 (fun u25 eu25 H locs P => ?_)
      have h := h u25 eu25
      refine lv_aload_n hx hb dX10_takeNext_140 rfl (lv_at hl 2 rfl) ?_
      refine g_10_0 C P in_X10_takeNext_10 wd_X10_takeNext_1 dX10_takeNext_141 ?_
      refine lv_iload hx hb dX10_takeNext_144 (lv_at hl 0 rfl) ?_
      refine lv_iconst (v := 2) hx hb dX10_takeNext_146 (by decide) ?_
      refine lv_iadd hx hb dX10_takeNext_147 ?_
      refine lv_dup2_11 hx hb dX10_takeNext_148 rfl rfl ?_
      obtain ⟨hi, h⟩ := h
      refine mld_1 C P hi dX10_takeNext_149 ?_
      refine lv_aload_n hx hb dX10_takeNext_150 rfl (lv_at hl 2 rfl) ?_
      refine g_10_0 C P in_X10_takeNext_10 wd_X10_takeNext_1 dX10_takeNext_151 ?_
      refine lv_bipush (v := 6) hx hb dX10_takeNext_154 (by decide) ?_
      refine mld_1 C P (by unfold vp_in; decide) dX10_takeNext_156 ?_
      refine lv_iadd hx hb dX10_takeNext_157 ?_
      obtain ⟨hi, h⟩ := h
      refine mst_1 C P hi dX10_takeNext_158 (fun u26 eu26 H locs P => ?_)
      have h := h u26 eu26
      refine lv_aload_n hx hb dX10_takeNext_159 rfl (lv_at hl 2 rfl) ?_
      refine lv_iload_n hx hb dX10_takeNext_160 rfl (lv_at hl 3 rfl) ?_
      refine lv_iload_n hx hb dX10_takeNext_161 rfl (lv_at hl 4 rfl) ?_
      refine lv_iconst (v := 0) hx hb dX10_takeNext_162 (by decide) ?_
      refine r_callv (F := EM cA o) (va_runV (As := [.int x1, .int x2, .int (0 : Int32)]) (rest := []) C.1 (c_X10_tell l D cA o _ _ _ u26 _ h) (cwV 3 C.1.2.2.2.2 gX10_takeNext_X10_tell rfl rfl rfl (by decide +kernel) ⟨Nat.le_of_ble_eq_true rfl, Nat.le_of_ble_eq_true rfl⟩) (r_preV C P [.int x1, .int x2, .int (0 : Int32)] (ci := 10) rfl (by decide) EKM_0) rfl rfl hl.1 rfl (lv_room (Nat.le_of_ble_eq_true rfl)) dX10_takeNext_163 ⟨Nat.le_of_ble_eq_true rfl, Nat.le_of_ble_eq_true rfl⟩) P.2 (fun u27 H locs h P => ?_)
      exact t_X10_takeNext_166 C _ _ _ u27 _ _ _ P (lv_sub hl [2, 3, 4, 5] rfl) h
  · have h := ite_f h c8
    refine lv_aload_n hx hb dX10_takeNext_47 rfl (lv_at hl 1 rfl) ?_
    refine lv_iload_n hx hb dX10_takeNext_48 rfl (lv_at hl 3 rfl) ?_
    refine lv_iconst (v := 0) hx hb dX10_takeNext_49 (by decide) ?_
    refine lv_iconst (v := 0) hx hb dX10_takeNext_50 (by decide) ?_
    refine r_callv (F := EM cA o) (va_runV (As := [.int x2, .int (0 : Int32), .int (0 : Int32)]) (rest := []) C.1 (c_X10_put l D cA o _ _ _ u0 _ h) (cwV 3 C.1.2.2.2.2 gX10_takeNext_X10_put rfl rfl rfl (by decide +kernel) ⟨Nat.le_of_ble_eq_true rfl, Nat.le_of_ble_eq_true rfl⟩) (r_preV C P [.int x2, .int (0 : Int32), .int (0 : Int32)] (ci := 10) rfl (by decide) EKM_0) rfl rfl hl.1 rfl (lv_room (Nat.le_of_ble_eq_true rfl)) dX10_takeNext_51 ⟨Nat.le_of_ble_eq_true rfl, Nat.le_of_ble_eq_true rfl⟩) P.2 (fun u29 H locs h P => ?_)
    refine lv_aload_n hx hb dX10_takeNext_54 rfl (lv_at hl 1 rfl) ?_
    refine lv_iload_n hx hb dX10_takeNext_55 rfl (lv_at hl 3 rfl) ?_
    refine lv_iconst (v := 3) hx hb dX10_takeNext_56 (by decide) ?_
    refine lv_bipush (v := -5) hx hb dX10_takeNext_57 (by decide) ?_
    refine r_callv (F := EM cA o) (va_runV (As := [.int x2, .int (3 : Int32), .int (-5 : Int32)]) (rest := []) C.1 (c_X10_put l D cA o _ _ _ u29 _ h) (cwV 3 C.1.2.2.2.2 gX10_takeNext_X10_put rfl rfl rfl (by decide +kernel) ⟨Nat.le_of_ble_eq_true rfl, Nat.le_of_ble_eq_true rfl⟩) (r_preV C P [.int x2, .int (3 : Int32), .int (-5 : Int32)] (ci := 10) rfl (by decide) EKM_0) rfl rfl hl.1 rfl (lv_room (Nat.le_of_ble_eq_true rfl)) dX10_takeNext_59 ⟨Nat.le_of_ble_eq_true rfl, Nat.le_of_ble_eq_true rfl⟩) P.2 (fun u31 H locs h P => ?_)
    refine lv_aload_n hx hb dX10_takeNext_62 rfl (lv_at hl 1 rfl) ?_
    refine lv_iload_n hx hb dX10_takeNext_63 rfl (lv_at hl 3 rfl) ?_
    refine lv_iconst (v := 4) hx hb dX10_takeNext_64 (by decide) ?_
    refine lv_iload hx hb dX10_takeNext_65 (lv_at hl 0 rfl) ?_
    refine r_callv (F := EM cA o) (va_runV (As := [.int x2, .int (4 : Int32), .int z0]) (rest := []) C.1 (c_X10_put l D cA o _ _ _ u31 _ h) (cwV 3 C.1.2.2.2.2 gX10_takeNext_X10_put rfl rfl rfl (by decide +kernel) ⟨Nat.le_of_ble_eq_true rfl, Nat.le_of_ble_eq_true rfl⟩) (r_preV C P [.int x2, .int (4 : Int32), .int z0] (ci := 10) rfl (by decide) EKM_0) rfl rfl hl.1 rfl (lv_room (Nat.le_of_ble_eq_true rfl)) dX10_takeNext_67 ⟨Nat.le_of_ble_eq_true rfl, Nat.le_of_ble_eq_true rfl⟩) P.2 (fun u33 H locs h P => ?_)
    refine lv_aload_n hx hb dX10_takeNext_70 rfl (lv_at hl 1 rfl) ?_
    refine lv_iload_n hx hb dX10_takeNext_71 rfl (lv_at hl 2 rfl) ?_
    refine lv_bipush (v := 12) hx hb dX10_takeNext_72 (by decide) ?_
    refine lv_aload_n hx hb dX10_takeNext_74 rfl (lv_at hl 1 rfl) ?_
    refine lv_iload_n hx hb dX10_takeNext_75 rfl (lv_at hl 2 rfl) ?_
    refine lv_bipush (v := 12) hx hb dX10_takeNext_76 (by decide) ?_
    refine r_calli (F := EM cA o) (va_runV (As := [.int x1, .int (12 : Int32)]) (rest := [.int (12 : Int32), .int x1, .ref (o + 0)]) C.1 (c_X10_gateOf l D cA o _ _ u33 _ h) (cwV 2 C.1.2.2.2.2 gX10_takeNext_X10_gateOf rfl rfl rfl (by decide +kernel) ⟨Nat.le_of_ble_eq_true rfl, Nat.le_of_ble_eq_true rfl⟩) (r_preV C P [.int x1, .int (12 : Int32)] (ci := 10) rfl (by decide) EKM_0) rfl rfl hl.1 rfl (lv_room (Nat.le_of_ble_eq_true rfl)) dX10_takeNext_78 ⟨Nat.le_of_ble_eq_true rfl, Nat.le_of_ble_eq_true rfl⟩) P.2 (fun r36 u35 H locs h P => ?_)
    refine lv_iconst (v := 1) hx hb dX10_takeNext_81 (by decide) ?_
    refine lv_iadd hx hb dX10_takeNext_82 ?_
    refine r_callv (F := EM cA o) (va_runV (As := [.int x1, .int (12 : Int32), .int (r36 + (1 : Int32))]) (rest := []) C.1 (c_X10_putGate l D cA o _ _ _ u35 _ h) (cwV 3 C.1.2.2.2.2 gX10_takeNext_X10_putGate rfl rfl rfl (by decide +kernel) ⟨Nat.le_of_ble_eq_true rfl, Nat.le_of_ble_eq_true rfl⟩) (r_preV C P [.int x1, .int (12 : Int32), .int (r36 + (1 : Int32))] (ci := 10) rfl (by decide) EKM_0) rfl rfl hl.1 rfl (lv_room (Nat.le_of_ble_eq_true rfl)) dX10_takeNext_83 ⟨Nat.le_of_ble_eq_true rfl, Nat.le_of_ble_eq_true rfl⟩) P.2 (fun u37 H locs h P => ?_)
    refine lv_aload_n hx hb dX10_takeNext_86 rfl (lv_at hl 1 rfl) ?_
    refine lv_iload_n hx hb dX10_takeNext_87 rfl (lv_at hl 2 rfl) ?_
    refine lv_iload_n hx hb dX10_takeNext_88 rfl (lv_at hl 3 rfl) ?_
    refine lv_iconst (v := 1) hx hb dX10_takeNext_89 (by decide) ?_
    refine r_callv (F := EM cA o) (va_runV (As := [.int x1, .int x2, .int (1 : Int32)]) (rest := []) C.1 (c_X10_tell l D cA o _ _ _ u37 _ h) (cwV 3 C.1.2.2.2.2 gX10_takeNext_X10_tell rfl rfl rfl (by decide +kernel) ⟨Nat.le_of_ble_eq_true rfl, Nat.le_of_ble_eq_true rfl⟩) (r_preV C P [.int x1, .int x2, .int (1 : Int32)] (ci := 10) rfl (by decide) EKM_0) rfl rfl hl.1 rfl (lv_room (Nat.le_of_ble_eq_true rfl)) dX10_takeNext_90 ⟨Nat.le_of_ble_eq_true rfl, Nat.le_of_ble_eq_true rfl⟩) P.2 (fun u39 H locs h P => ?_)
    exact r_ret C P h dX10_takeNext_93
def w_X10_takeNext_26  (Φ : Unit → Mm → Prop) (x1 : Int32) (x2 : Int32) (z0 : Int32) (u0 : Mm) : Prop := (if z0 = 0 then (w_X10_takeNext_40 Φ x1 x2 z0 ((0 : Int32)) u0) else (w_X10_refusal x2 u0 (fun r42 u41 => (w_X10_takeNext_40 Φ x1 x2 z0 r42 u41))))
set_option maxHeartbeats 4000000 in
set_option maxRecDepth 100000 in
theorem t_X10_takeNext_26 {p : Program} {l : Launch} {e : Env} {s : State} {m : MethodId} {args : Array Value} {below : List Frame} {meth : Method} {c : Code} {D : va_G} {cA : Nat → ClassId} {o : Nat}  {Φ : Unit → Mm → Prop} (C : Cx p m meth c s args cX10_takeNext 6 wsX10_takeNext RX10 none D (tysL cA)) : ∀ (x1 : Int32) (x2 : Int32) (z0 : Int32) (u0 : Mm), ∀ (H : Heap) (locs : List Loc) (ls : Array Slot), Hp 6 o D (EM cA o u0) s H locs → lv_has ls 6 [(0, .ref (o + 0)), (1, .int x1), (2, .int x2)] → w_X10_takeNext_26 Φ x1 x2 z0 u0 → W p l e rm_X10_takeNext s m args below meth c H locs 0 0 (MQ below (Qg vV Φ (fun μ => Wd 6 o D (tysL cA) (EM cA o μ)) (aA o 6)) args s 0 0 (aA o 6)) (F0 m 26 ls [.int z0]) := by
  intro x1 x2 z0 u0 H locs ls P hl h
  have hx := C.1.1
  have hb := C.1.2.1
  unfold w_X10_takeNext_26 at h
  refine lv_istore_n (lv' := [(3, .int z0), (0, .ref (o + 0)), (1, .int x1), (2, .int x2)]) hx hb dX10_takeNext_26 rfl hl (by decide) rfl (fun ls hl => ?_)
  refine lv_iload_n hx hb dX10_takeNext_27 rfl (lv_at hl 0 rfl) ?_
  refine lv_if_eq (tgt := 39) hx hb dX10_takeNext_28 (by decide) (fun c7 => ?_) (fun c7 => ?_)
  · have h := ite_t h c7
    refine lv_iconst (v := 0) hx hb dX10_takeNext_39 (by decide) ?_
    exact t_X10_takeNext_40 C _ _ _ _ u0 _ _ _ P (lv_sub hl [1, 2, 3, 0] rfl) h
  · have h := ite_f h c7
    refine lv_aload_n hx hb dX10_takeNext_31 rfl (lv_at hl 1 rfl) ?_
    refine lv_iload_n hx hb dX10_takeNext_32 rfl (lv_at hl 3 rfl) ?_
    refine r_calli (F := EM cA o) (va_runV (As := [.int x2]) (rest := []) C.1 (c_X10_refusal l D cA o _ u0 _ h) (cwV 1 C.1.2.2.2.2 gX10_takeNext_X10_refusal rfl rfl rfl (by decide +kernel) ⟨Nat.le_of_ble_eq_true rfl, Nat.le_of_ble_eq_true rfl⟩) (r_preV C P [.int x2] (ci := 10) rfl (by decide) EKM_0) rfl rfl hl.1 rfl (lv_room (Nat.le_of_ble_eq_true rfl)) dX10_takeNext_33 ⟨Nat.le_of_ble_eq_true rfl, Nat.le_of_ble_eq_true rfl⟩) P.2 (fun r42 u41 H locs h P => ?_)
    refine lv_goto (tgt := 40) hx hb dX10_takeNext_36 (by decide) ?_
    exact t_X10_takeNext_40 C _ _ _ _ u41 _ _ _ P (lv_sub hl [1, 2, 3, 0] rfl) h
def w_X10_takeNext (a1 : Int32) (u0 : Mm) (Φ : Unit → Mm → Prop) : Prop := (w_X10_nextFor a1 u0 (fun r2 u1 => (if 0 ≤ r2 then (w_X10_of r2 ((0 : Int32)) u1 (fun r5 u4 => (if r5 = (1 : Int32) then (w_X10_takeNext_26 Φ a1 r2 ((1 : Int32)) u4) else (w_X10_takeNext_26 Φ a1 r2 ((0 : Int32)) u4)))) else (Φ () u1))))
set_option maxHeartbeats 4000000 in
set_option maxRecDepth 100000 in
theorem t_X10_takeNext_0 {p : Program} {l : Launch} {e : Env} {s : State} {m : MethodId} {args : Array Value} {below : List Frame} {meth : Method} {c : Code} {D : va_G} {cA : Nat → ClassId} {o : Nat}  {Φ : Unit → Mm → Prop} (C : Cx p m meth c s args cX10_takeNext 6 wsX10_takeNext RX10 none D (tysL cA)) : ∀ (a1 : Int32) (u0 : Mm), ∀ (H : Heap) (locs : List Loc) (ls : Array Slot), Hp 6 o D (EM cA o u0) s H locs → lv_has ls 6 [(0, .ref (o + 0)), (1, .int a1)] → w_X10_takeNext a1 u0 Φ → W p l e rm_X10_takeNext s m args below meth c H locs 0 0 (MQ below (Qg vV Φ (fun μ => Wd 6 o D (tysL cA) (EM cA o μ)) (aA o 6)) args s 0 0 (aA o 6)) (F0 m 0 ls []) := by
  intro a1 u0 H locs ls P hl h
  have hx := C.1.1
  have hb := C.1.2.1
  unfold w_X10_takeNext at h
  refine lv_aload_n hx hb dX10_takeNext_0 rfl (lv_at hl 0 rfl) ?_
  refine lv_iload_n hx hb dX10_takeNext_1 rfl (lv_at hl 1 rfl) ?_
  refine r_calli (F := EM cA o) (va_runV (As := [.int a1]) (rest := []) C.1 (c_X10_nextFor l D cA o _ u0 _ h) (cwV 1 C.1.2.2.2.2 gX10_takeNext_X10_nextFor rfl rfl rfl (by decide +kernel) ⟨Nat.le_of_ble_eq_true rfl, Nat.le_of_ble_eq_true rfl⟩) (r_preV C P [.int a1] (ci := 10) rfl (by decide) EKM_0) rfl rfl hl.1 rfl (lv_room (Nat.le_of_ble_eq_true rfl)) dX10_takeNext_2 ⟨Nat.le_of_ble_eq_true rfl, Nat.le_of_ble_eq_true rfl⟩) P.2 (fun r2 u1 H locs h P => ?_)
  refine lv_istore_n (lv' := [(2, .int r2), (0, .ref (o + 0)), (1, .int a1)]) hx hb dX10_takeNext_5 rfl hl (by decide) rfl (fun ls hl => ?_)
  refine lv_iload_n hx hb dX10_takeNext_6 rfl (lv_at hl 0 rfl) ?_
  refine lv_if_ge (tgt := 11) hx hb dX10_takeNext_7 (by decide) (fun c3 => ?_) (fun c3 => ?_)
  · have h := ite_t h c3
    refine lv_aload_n hx hb dX10_takeNext_11 rfl (lv_at hl 1 rfl) ?_
    refine lv_iload_n hx hb dX10_takeNext_12 rfl (lv_at hl 0 rfl) ?_
    refine lv_iconst (v := 0) hx hb dX10_takeNext_13 (by decide) ?_
    refine r_calli (F := EM cA o) (va_runV (As := [.int r2, .int (0 : Int32)]) (rest := []) C.1 (c_X10_of l D cA o _ _ u1 _ h) (cwV 2 C.1.2.2.2.2 gX10_takeNext_X10_of rfl rfl rfl (by decide +kernel) ⟨Nat.le_of_ble_eq_true rfl, Nat.le_of_ble_eq_true rfl⟩) (r_preV C P [.int r2, .int (0 : Int32)] (ci := 10) rfl (by decide) EKM_0) rfl rfl hl.1 rfl (lv_room (Nat.le_of_ble_eq_true rfl)) dX10_takeNext_14 ⟨Nat.le_of_ble_eq_true rfl, Nat.le_of_ble_eq_true rfl⟩) P.2 (fun r5 u4 H locs h P => ?_)
    refine lv_iconst (v := 1) hx hb dX10_takeNext_17 (by decide) ?_
    refine lv_icmp_ne (tgt := 25) hx hb dX10_takeNext_18 (by decide) (fun c6 => ?_) (fun c6 => ?_)
    · have h := ite_f h c6
      refine lv_iconst (v := 0) hx hb dX10_takeNext_25 (by decide) ?_
      exact t_X10_takeNext_26 C _ _ _ u4 _ _ _ P (lv_sub hl [1, 2, 0] rfl) h
    · have h := ite_t h c6
      refine lv_iconst (v := 1) hx hb dX10_takeNext_21 (by decide) ?_
      refine lv_goto (tgt := 26) hx hb dX10_takeNext_22 (by decide) ?_
      exact t_X10_takeNext_26 C _ _ _ u4 _ _ _ P (lv_sub hl [1, 2, 0] rfl) h
  · have h := ite_f h c3
    exact r_ret C P h dX10_takeNext_10
set_option maxHeartbeats 4000000 in
set_option maxRecDepth 100000 in
theorem c_X10_takeNext (l : Launch) (D : va_G) (cA : Nat → ClassId) (o : Nat) (a1 : Int32)  (u0 : Mm) (Φ : Unit → Mm → Prop) (h : w_X10_takeNext a1 u0 Φ) : Met l yX10_takeNext wsX10_takeNext rm_X10_takeNext (va_Pc [.ref (o + 0), .int a1] (Wd 6 o D (tysL cA) (EM cA o u0))) (Qg vV Φ (fun μ => Wd 6 o D (tysL cA) (EM cA o μ)) (aA o 6)) 0 0 (aA o 6) := by
  refine Met.ofW (cc := cX10_takeNext) (maxL := 6) (ret := none) (by decide) rfl ?_
  intro p e s m args below meth c s₁ B hml hv
  obtain ⟨rfl, hv⟩ := hv
  have hl := lv_entry ([.ref (o + 0), .int a1]) (n := 6) (Nat.le_of_ble_eq_true rfl)
  rw [lg_entry_eq]
  exact t_X10_takeNext_0 ⟨⟨B.exec, B.bytes, hml, findClass_of_methodNamed B.named, atoms_spec (ws := wsX10_takeNext) B.pre⟩, B.returns, B.notSynchronized, hv.2⟩ a1 u0 _ _ _ ⟨hv.1, va_S.rf⟩ hl h
abbrev rm_X10_opened : Room := { frames := 2, cells := 0, slots := 0, locals := 46 }
def w_X10_opened (a1 : Int32) (u0 : Mm) (Φ : Unit → Mm → Prop) : Prop := (w_X10_gateOf a1 ((2 : Int32)) u0 (fun r2 u1 => (w_X10_gateOf a1 ((6 : Int32)) u1 (fun r4 u3 => (w_X10_of r4 ((2 : Int32)) u3 (fun r6 u5 => (w_X10_turn a1 ((2 : Int32)) ((r2 + ((2 : Int32) * r6))) u5 (fun _ u7 => (Φ () u7)))))))))
set_option maxHeartbeats 4000000 in
set_option maxRecDepth 100000 in
theorem t_X10_opened_0 {p : Program} {l : Launch} {e : Env} {s : State} {m : MethodId} {args : Array Value} {below : List Frame} {meth : Method} {c : Code} {D : va_G} {cA : Nat → ClassId} {o : Nat}  {Φ : Unit → Mm → Prop} (C : Cx p m meth c s args cX10_opened 2 wsX10_opened RX10 none D (tysL cA)) : ∀ (a1 : Int32) (u0 : Mm), ∀ (H : Heap) (locs : List Loc) (ls : Array Slot), Hp 6 o D (EM cA o u0) s H locs → lv_has ls 2 [(0, .ref (o + 0)), (1, .int a1)] → w_X10_opened a1 u0 Φ → W p l e rm_X10_opened s m args below meth c H locs 0 0 (MQ below (Qg vV Φ (fun μ => Wd 6 o D (tysL cA) (EM cA o μ)) (aA o 6)) args s 0 0 (aA o 6)) (F0 m 0 ls []) := by
  intro a1 u0 H locs ls P hl h
  have hx := C.1.1
  have hb := C.1.2.1
  unfold w_X10_opened at h
  refine lv_aload_n hx hb dX10_opened_0 rfl (lv_at hl 0 rfl) ?_
  refine lv_iload_n hx hb dX10_opened_1 rfl (lv_at hl 1 rfl) ?_
  refine lv_iconst (v := 2) hx hb dX10_opened_2 (by decide) ?_
  refine lv_aload_n hx hb dX10_opened_3 rfl (lv_at hl 0 rfl) ?_
  refine lv_iload_n hx hb dX10_opened_4 rfl (lv_at hl 1 rfl) ?_
  refine lv_iconst (v := 2) hx hb dX10_opened_5 (by decide) ?_
  refine r_calli (F := EM cA o) (va_runV (As := [.int a1, .int (2 : Int32)]) (rest := [.int (2 : Int32), .int a1, .ref (o + 0)]) C.1 (c_X10_gateOf l D cA o _ _ u0 _ h) (cwV 2 C.1.2.2.2.2 gX10_opened_X10_gateOf rfl rfl rfl (by decide +kernel) ⟨Nat.le_of_ble_eq_true rfl, Nat.le_of_ble_eq_true rfl⟩) (r_preV C P [.int a1, .int (2 : Int32)] (ci := 10) rfl (by decide) EKM_0) rfl rfl hl.1 rfl (lv_room (Nat.le_of_ble_eq_true rfl)) dX10_opened_6 ⟨Nat.le_of_ble_eq_true rfl, Nat.le_of_ble_eq_true rfl⟩) P.2 (fun r2 u1 H locs h P => ?_)
  refine lv_iconst (v := 2) hx hb dX10_opened_9 (by decide) ?_
  refine lv_aload_n hx hb dX10_opened_10 rfl (lv_at hl 0 rfl) ?_
  refine lv_aload_n hx hb dX10_opened_11 rfl (lv_at hl 0 rfl) ?_
  refine lv_iload_n hx hb dX10_opened_12 rfl (lv_at hl 1 rfl) ?_
  refine lv_bipush (v := 6) hx hb dX10_opened_13 (by decide) ?_
  refine r_calli (F := EM cA o) (va_runV (As := [.int a1, .int (6 : Int32)]) (rest := [.ref (o + 0), .int (2 : Int32), .int r2, .int (2 : Int32), .int a1, .ref (o + 0)]) C.1 (c_X10_gateOf l D cA o _ _ u1 _ h) (cwV 2 C.1.2.2.2.2 gX10_opened_X10_gateOf rfl rfl rfl (by decide +kernel) ⟨Nat.le_of_ble_eq_true rfl, Nat.le_of_ble_eq_true rfl⟩) (r_preV C P [.int a1, .int (6 : Int32)] (ci := 10) rfl (by decide) EKM_0) rfl rfl hl.1 rfl (lv_room (Nat.le_of_ble_eq_true rfl)) dX10_opened_15 ⟨Nat.le_of_ble_eq_true rfl, Nat.le_of_ble_eq_true rfl⟩) P.2 (fun r4 u3 H locs h P => ?_)
  refine lv_iconst (v := 2) hx hb dX10_opened_18 (by decide) ?_
  refine r_calli (F := EM cA o) (va_runV (As := [.int r4, .int (2 : Int32)]) (rest := [.int (2 : Int32), .int r2, .int (2 : Int32), .int a1, .ref (o + 0)]) C.1 (c_X10_of l D cA o _ _ u3 _ h) (cwV 2 C.1.2.2.2.2 gX10_opened_X10_of rfl rfl rfl (by decide +kernel) ⟨Nat.le_of_ble_eq_true rfl, Nat.le_of_ble_eq_true rfl⟩) (r_preV C P [.int r4, .int (2 : Int32)] (ci := 10) rfl (by decide) EKM_0) rfl rfl hl.1 rfl (lv_room (Nat.le_of_ble_eq_true rfl)) dX10_opened_19 ⟨Nat.le_of_ble_eq_true rfl, Nat.le_of_ble_eq_true rfl⟩) P.2 (fun r6 u5 H locs h P => ?_)
  refine lv_imul hx hb dX10_opened_22 ?_
  refine lv_iadd hx hb dX10_opened_23 ?_
  refine r_callv (F := EM cA o) (va_runV (As := [.int a1, .int (2 : Int32), .int (r2 + ((2 : Int32) * r6))]) (rest := []) C.1 (c_X10_turn l D cA o _ _ _ u5 _ h) (cwV 3 C.1.2.2.2.2 gX10_opened_X10_turn rfl rfl rfl (by decide +kernel) ⟨Nat.le_of_ble_eq_true rfl, Nat.le_of_ble_eq_true rfl⟩) (r_preV C P [.int a1, .int (2 : Int32), .int (r2 + ((2 : Int32) * r6))] (ci := 10) rfl (by decide) EKM_0) rfl rfl hl.1 rfl (lv_room (Nat.le_of_ble_eq_true rfl)) dX10_opened_24 ⟨Nat.le_of_ble_eq_true rfl, Nat.le_of_ble_eq_true rfl⟩) P.2 (fun u7 H locs h P => ?_)
  exact r_ret C P h dX10_opened_27
set_option maxHeartbeats 4000000 in
set_option maxRecDepth 100000 in
theorem c_X10_opened (l : Launch) (D : va_G) (cA : Nat → ClassId) (o : Nat) (a1 : Int32)  (u0 : Mm) (Φ : Unit → Mm → Prop) (h : w_X10_opened a1 u0 Φ) : Met l yX10_opened wsX10_opened rm_X10_opened (va_Pc [.ref (o + 0), .int a1] (Wd 6 o D (tysL cA) (EM cA o u0))) (Qg vV Φ (fun μ => Wd 6 o D (tysL cA) (EM cA o μ)) (aA o 6)) 0 0 (aA o 6) := by
  refine Met.ofW (cc := cX10_opened) (maxL := 2) (ret := none) (by decide) rfl ?_
  intro p e s m args below meth c s₁ B hml hv
  obtain ⟨rfl, hv⟩ := hv
  have hl := lv_entry ([.ref (o + 0), .int a1]) (n := 2) (Nat.le_of_ble_eq_true rfl)
  rw [lg_entry_eq]
  exact t_X10_opened_0 ⟨⟨B.exec, B.bytes, hml, findClass_of_methodNamed B.named, atoms_spec (ws := wsX10_opened) B.pre⟩, B.returns, B.notSynchronized, hv.2⟩ a1 u0 _ _ _ ⟨hv.1, va_S.rf⟩ hl h
abbrev rm_X10_pinched : Room := { frames := 3, cells := 0, slots := 0, locals := 69 }
def w_X10_pinched (a1 : Int32) (u0 : Mm) (Φ : Unit → Mm → Prop) : Prop := (w_X10_putGate a1 ((9 : Int32)) ((0 : Int32)) u0 (fun _ u1 => (w_X10_gateOf a1 ((13 : Int32)) u1 (fun r4 u3 => (w_X10_putGate a1 ((13 : Int32)) ((r4 + (1 : Int32))) u3 (fun _ u5 => (w_X10_gateOf a1 ((8 : Int32)) u5 (fun r8 u7 => (w_X10_putGate a1 ((8 : Int32)) ((r8 + (1 : Int32))) u7 (fun _ u9 => (w_X10_gateOf a1 ((6 : Int32)) u9 (fun r12 u11 => (w_X10_tell a1 r12 ((4 : Int32)) u11 (fun _ u13 => (w_X10_gateOf a1 ((8 : Int32)) u13 (fun r16 u15 => (if r16 = (3 : Int32) then (w_X10_goOut a1 u15 (fun _ u24 => (Φ () u24))) else (w_X10_gateOf a1 ((3 : Int32)) u15 (fun r19 u18 => (w_X10_gateOf a1 ((5 : Int32)) u18 (fun r21 u20 => (w_X10_turn a1 ((4 : Int32)) ((r19 - r21)) u20 (fun _ u22 => (Φ () u22))))))))))))))))))))))))
set_option maxHeartbeats 4000000 in
set_option maxRecDepth 100000 in
theorem t_X10_pinched_0 {p : Program} {l : Launch} {e : Env} {s : State} {m : MethodId} {args : Array Value} {below : List Frame} {meth : Method} {c : Code} {D : va_G} {cA : Nat → ClassId} {o : Nat}  {Φ : Unit → Mm → Prop} (C : Cx p m meth c s args cX10_pinched 2 wsX10_pinched RX10 none D (tysL cA)) : ∀ (a1 : Int32) (u0 : Mm), ∀ (H : Heap) (locs : List Loc) (ls : Array Slot), Hp 6 o D (EM cA o u0) s H locs → lv_has ls 2 [(0, .ref (o + 0)), (1, .int a1)] → w_X10_pinched a1 u0 Φ → W p l e rm_X10_pinched s m args below meth c H locs 0 0 (MQ below (Qg vV Φ (fun μ => Wd 6 o D (tysL cA) (EM cA o μ)) (aA o 6)) args s 0 0 (aA o 6)) (F0 m 0 ls []) := by
  intro a1 u0 H locs ls P hl h
  have hx := C.1.1
  have hb := C.1.2.1
  unfold w_X10_pinched at h
  refine lv_aload_n hx hb dX10_pinched_0 rfl (lv_at hl 0 rfl) ?_
  refine lv_iload_n hx hb dX10_pinched_1 rfl (lv_at hl 1 rfl) ?_
  refine lv_bipush (v := 9) hx hb dX10_pinched_2 (by decide) ?_
  refine lv_iconst (v := 0) hx hb dX10_pinched_4 (by decide) ?_
  refine r_callv (F := EM cA o) (va_runV (As := [.int a1, .int (9 : Int32), .int (0 : Int32)]) (rest := []) C.1 (c_X10_putGate l D cA o _ _ _ u0 _ h) (cwV 3 C.1.2.2.2.2 gX10_pinched_X10_putGate rfl rfl rfl (by decide +kernel) ⟨Nat.le_of_ble_eq_true rfl, Nat.le_of_ble_eq_true rfl⟩) (r_preV C P [.int a1, .int (9 : Int32), .int (0 : Int32)] (ci := 10) rfl (by decide) EKM_0) rfl rfl hl.1 rfl (lv_room (Nat.le_of_ble_eq_true rfl)) dX10_pinched_5 ⟨Nat.le_of_ble_eq_true rfl, Nat.le_of_ble_eq_true rfl⟩) P.2 (fun u1 H locs h P => ?_)
  refine lv_aload_n hx hb dX10_pinched_8 rfl (lv_at hl 0 rfl) ?_
  refine lv_iload_n hx hb dX10_pinched_9 rfl (lv_at hl 1 rfl) ?_
  refine lv_bipush (v := 13) hx hb dX10_pinched_10 (by decide) ?_
  refine lv_aload_n hx hb dX10_pinched_12 rfl (lv_at hl 0 rfl) ?_
  refine lv_iload_n hx hb dX10_pinched_13 rfl (lv_at hl 1 rfl) ?_
  refine lv_bipush (v := 13) hx hb dX10_pinched_14 (by decide) ?_
  refine r_calli (F := EM cA o) (va_runV (As := [.int a1, .int (13 : Int32)]) (rest := [.int (13 : Int32), .int a1, .ref (o + 0)]) C.1 (c_X10_gateOf l D cA o _ _ u1 _ h) (cwV 2 C.1.2.2.2.2 gX10_pinched_X10_gateOf rfl rfl rfl (by decide +kernel) ⟨Nat.le_of_ble_eq_true rfl, Nat.le_of_ble_eq_true rfl⟩) (r_preV C P [.int a1, .int (13 : Int32)] (ci := 10) rfl (by decide) EKM_0) rfl rfl hl.1 rfl (lv_room (Nat.le_of_ble_eq_true rfl)) dX10_pinched_16 ⟨Nat.le_of_ble_eq_true rfl, Nat.le_of_ble_eq_true rfl⟩) P.2 (fun r4 u3 H locs h P => ?_)
  refine lv_iconst (v := 1) hx hb dX10_pinched_19 (by decide) ?_
  refine lv_iadd hx hb dX10_pinched_20 ?_
  refine r_callv (F := EM cA o) (va_runV (As := [.int a1, .int (13 : Int32), .int (r4 + (1 : Int32))]) (rest := []) C.1 (c_X10_putGate l D cA o _ _ _ u3 _ h) (cwV 3 C.1.2.2.2.2 gX10_pinched_X10_putGate rfl rfl rfl (by decide +kernel) ⟨Nat.le_of_ble_eq_true rfl, Nat.le_of_ble_eq_true rfl⟩) (r_preV C P [.int a1, .int (13 : Int32), .int (r4 + (1 : Int32))] (ci := 10) rfl (by decide) EKM_0) rfl rfl hl.1 rfl (lv_room (Nat.le_of_ble_eq_true rfl)) dX10_pinched_21 ⟨Nat.le_of_ble_eq_true rfl, Nat.le_of_ble_eq_true rfl⟩) P.2 (fun u5 H locs h P => ?_)
  refine lv_aload_n hx hb dX10_pinched_24 rfl (lv_at hl 0 rfl) ?_
  refine lv_iload_n hx hb dX10_pinched_25 rfl (lv_at hl 1 rfl) ?_
  refine lv_bipush (v := 8) hx hb dX10_pinched_26 (by decide) ?_
  refine lv_aload_n hx hb dX10_pinched_28 rfl (lv_at hl 0 rfl) ?_
  refine lv_iload_n hx hb dX10_pinched_29 rfl (lv_at hl 1 rfl) ?_
  refine lv_bipush (v := 8) hx hb dX10_pinched_30 (by decide) ?_
  refine r_calli (F := EM cA o) (va_runV (As := [.int a1, .int (8 : Int32)]) (rest := [.int (8 : Int32), .int a1, .ref (o + 0)]) C.1 (c_X10_gateOf l D cA o _ _ u5 _ h) (cwV 2 C.1.2.2.2.2 gX10_pinched_X10_gateOf rfl rfl rfl (by decide +kernel) ⟨Nat.le_of_ble_eq_true rfl, Nat.le_of_ble_eq_true rfl⟩) (r_preV C P [.int a1, .int (8 : Int32)] (ci := 10) rfl (by decide) EKM_0) rfl rfl hl.1 rfl (lv_room (Nat.le_of_ble_eq_true rfl)) dX10_pinched_32 ⟨Nat.le_of_ble_eq_true rfl, Nat.le_of_ble_eq_true rfl⟩) P.2 (fun r8 u7 H locs h P => ?_)
  refine lv_iconst (v := 1) hx hb dX10_pinched_35 (by decide) ?_
  refine lv_iadd hx hb dX10_pinched_36 ?_
  refine r_callv (F := EM cA o) (va_runV (As := [.int a1, .int (8 : Int32), .int (r8 + (1 : Int32))]) (rest := []) C.1 (c_X10_putGate l D cA o _ _ _ u7 _ h) (cwV 3 C.1.2.2.2.2 gX10_pinched_X10_putGate rfl rfl rfl (by decide +kernel) ⟨Nat.le_of_ble_eq_true rfl, Nat.le_of_ble_eq_true rfl⟩) (r_preV C P [.int a1, .int (8 : Int32), .int (r8 + (1 : Int32))] (ci := 10) rfl (by decide) EKM_0) rfl rfl hl.1 rfl (lv_room (Nat.le_of_ble_eq_true rfl)) dX10_pinched_37 ⟨Nat.le_of_ble_eq_true rfl, Nat.le_of_ble_eq_true rfl⟩) P.2 (fun u9 H locs h P => ?_)
  refine lv_aload_n hx hb dX10_pinched_40 rfl (lv_at hl 0 rfl) ?_
  refine lv_iload_n hx hb dX10_pinched_41 rfl (lv_at hl 1 rfl) ?_
  refine lv_aload_n hx hb dX10_pinched_42 rfl (lv_at hl 0 rfl) ?_
  refine lv_iload_n hx hb dX10_pinched_43 rfl (lv_at hl 1 rfl) ?_
  refine lv_bipush (v := 6) hx hb dX10_pinched_44 (by decide) ?_
  refine r_calli (F := EM cA o) (va_runV (As := [.int a1, .int (6 : Int32)]) (rest := [.int a1, .ref (o + 0)]) C.1 (c_X10_gateOf l D cA o _ _ u9 _ h) (cwV 2 C.1.2.2.2.2 gX10_pinched_X10_gateOf rfl rfl rfl (by decide +kernel) ⟨Nat.le_of_ble_eq_true rfl, Nat.le_of_ble_eq_true rfl⟩) (r_preV C P [.int a1, .int (6 : Int32)] (ci := 10) rfl (by decide) EKM_0) rfl rfl hl.1 rfl (lv_room (Nat.le_of_ble_eq_true rfl)) dX10_pinched_46 ⟨Nat.le_of_ble_eq_true rfl, Nat.le_of_ble_eq_true rfl⟩) P.2 (fun r12 u11 H locs h P => ?_)
  refine lv_iconst (v := 4) hx hb dX10_pinched_49 (by decide) ?_
  refine r_callv (F := EM cA o) (va_runV (As := [.int a1, .int r12, .int (4 : Int32)]) (rest := []) C.1 (c_X10_tell l D cA o _ _ _ u11 _ h) (cwV 3 C.1.2.2.2.2 gX10_pinched_X10_tell rfl rfl rfl (by decide +kernel) ⟨Nat.le_of_ble_eq_true rfl, Nat.le_of_ble_eq_true rfl⟩) (r_preV C P [.int a1, .int r12, .int (4 : Int32)] (ci := 10) rfl (by decide) EKM_0) rfl rfl hl.1 rfl (lv_room (Nat.le_of_ble_eq_true rfl)) dX10_pinched_50 ⟨Nat.le_of_ble_eq_true rfl, Nat.le_of_ble_eq_true rfl⟩) P.2 (fun u13 H locs h P => ?_)
  refine lv_aload_n hx hb dX10_pinched_53 rfl (lv_at hl 0 rfl) ?_
  refine lv_iload_n hx hb dX10_pinched_54 rfl (lv_at hl 1 rfl) ?_
  refine lv_bipush (v := 8) hx hb dX10_pinched_55 (by decide) ?_
  refine r_calli (F := EM cA o) (va_runV (As := [.int a1, .int (8 : Int32)]) (rest := []) C.1 (c_X10_gateOf l D cA o _ _ u13 _ h) (cwV 2 C.1.2.2.2.2 gX10_pinched_X10_gateOf rfl rfl rfl (by decide +kernel) ⟨Nat.le_of_ble_eq_true rfl, Nat.le_of_ble_eq_true rfl⟩) (r_preV C P [.int a1, .int (8 : Int32)] (ci := 10) rfl (by decide) EKM_0) rfl rfl hl.1 rfl (lv_room (Nat.le_of_ble_eq_true rfl)) dX10_pinched_57 ⟨Nat.le_of_ble_eq_true rfl, Nat.le_of_ble_eq_true rfl⟩) P.2 (fun r16 u15 H locs h P => ?_)
  refine lv_iconst (v := 3) hx hb dX10_pinched_60 (by decide) ?_
  refine lv_icmp_ne (tgt := 72) hx hb dX10_pinched_61 (by decide) (fun c17 => ?_) (fun c17 => ?_)
  · have h := ite_f h c17
    refine lv_aload_n hx hb dX10_pinched_72 rfl (lv_at hl 0 rfl) ?_
    refine lv_iload_n hx hb dX10_pinched_73 rfl (lv_at hl 1 rfl) ?_
    refine lv_iconst (v := 4) hx hb dX10_pinched_74 (by decide) ?_
    refine lv_aload_n hx hb dX10_pinched_75 rfl (lv_at hl 0 rfl) ?_
    refine lv_iload_n hx hb dX10_pinched_76 rfl (lv_at hl 1 rfl) ?_
    refine lv_iconst (v := 3) hx hb dX10_pinched_77 (by decide) ?_
    refine r_calli (F := EM cA o) (va_runV (As := [.int a1, .int (3 : Int32)]) (rest := [.int (4 : Int32), .int a1, .ref (o + 0)]) C.1 (c_X10_gateOf l D cA o _ _ u15 _ h) (cwV 2 C.1.2.2.2.2 gX10_pinched_X10_gateOf rfl rfl rfl (by decide +kernel) ⟨Nat.le_of_ble_eq_true rfl, Nat.le_of_ble_eq_true rfl⟩) (r_preV C P [.int a1, .int (3 : Int32)] (ci := 10) rfl (by decide) EKM_0) rfl rfl hl.1 rfl (lv_room (Nat.le_of_ble_eq_true rfl)) dX10_pinched_78 ⟨Nat.le_of_ble_eq_true rfl, Nat.le_of_ble_eq_true rfl⟩) P.2 (fun r19 u18 H locs h P => ?_)
    refine lv_aload_n hx hb dX10_pinched_81 rfl (lv_at hl 0 rfl) ?_
    refine lv_iload_n hx hb dX10_pinched_82 rfl (lv_at hl 1 rfl) ?_
    refine lv_iconst (v := 5) hx hb dX10_pinched_83 (by decide) ?_
    refine r_calli (F := EM cA o) (va_runV (As := [.int a1, .int (5 : Int32)]) (rest := [.int r19, .int (4 : Int32), .int a1, .ref (o + 0)]) C.1 (c_X10_gateOf l D cA o _ _ u18 _ h) (cwV 2 C.1.2.2.2.2 gX10_pinched_X10_gateOf rfl rfl rfl (by decide +kernel) ⟨Nat.le_of_ble_eq_true rfl, Nat.le_of_ble_eq_true rfl⟩) (r_preV C P [.int a1, .int (5 : Int32)] (ci := 10) rfl (by decide) EKM_0) rfl rfl hl.1 rfl (lv_room (Nat.le_of_ble_eq_true rfl)) dX10_pinched_84 ⟨Nat.le_of_ble_eq_true rfl, Nat.le_of_ble_eq_true rfl⟩) P.2 (fun r21 u20 H locs h P => ?_)
    refine lv_isub hx hb dX10_pinched_87 ?_
    refine r_callv (F := EM cA o) (va_runV (As := [.int a1, .int (4 : Int32), .int (r19 - r21)]) (rest := []) C.1 (c_X10_turn l D cA o _ _ _ u20 _ h) (cwV 3 C.1.2.2.2.2 gX10_pinched_X10_turn rfl rfl rfl (by decide +kernel) ⟨Nat.le_of_ble_eq_true rfl, Nat.le_of_ble_eq_true rfl⟩) (r_preV C P [.int a1, .int (4 : Int32), .int (r19 - r21)] (ci := 10) rfl (by decide) EKM_0) rfl rfl hl.1 rfl (lv_room (Nat.le_of_ble_eq_true rfl)) dX10_pinched_88 ⟨Nat.le_of_ble_eq_true rfl, Nat.le_of_ble_eq_true rfl⟩) P.2 (fun u22 H locs h P => ?_)
    exact r_ret C P h dX10_pinched_91
  · have h := ite_t h c17
    refine lv_aload_n hx hb dX10_pinched_64 rfl (lv_at hl 0 rfl) ?_
    refine lv_iload_n hx hb dX10_pinched_65 rfl (lv_at hl 1 rfl) ?_
    refine r_callv (F := EM cA o) (va_runV (As := [.int a1]) (rest := []) C.1 (c_X10_goOut l D cA o _ u15 _ h) (cwV 1 C.1.2.2.2.2 gX10_pinched_X10_goOut rfl rfl rfl (by decide +kernel) ⟨Nat.le_of_ble_eq_true rfl, Nat.le_of_ble_eq_true rfl⟩) (r_preV C P [.int a1] (ci := 10) rfl (by decide) EKM_0) rfl rfl hl.1 rfl (lv_room (Nat.le_of_ble_eq_true rfl)) dX10_pinched_66 ⟨Nat.le_of_ble_eq_true rfl, Nat.le_of_ble_eq_true rfl⟩) P.2 (fun u24 H locs h P => ?_)
    refine lv_goto (tgt := 91) hx hb dX10_pinched_69 (by decide) ?_
    exact r_ret C P h dX10_pinched_91
set_option maxHeartbeats 4000000 in
set_option maxRecDepth 100000 in
theorem c_X10_pinched (l : Launch) (D : va_G) (cA : Nat → ClassId) (o : Nat) (a1 : Int32)  (u0 : Mm) (Φ : Unit → Mm → Prop) (h : w_X10_pinched a1 u0 Φ) : Met l yX10_pinched wsX10_pinched rm_X10_pinched (va_Pc [.ref (o + 0), .int a1] (Wd 6 o D (tysL cA) (EM cA o u0))) (Qg vV Φ (fun μ => Wd 6 o D (tysL cA) (EM cA o μ)) (aA o 6)) 0 0 (aA o 6) := by
  refine Met.ofW (cc := cX10_pinched) (maxL := 2) (ret := none) (by decide) rfl ?_
  intro p e s m args below meth c s₁ B hml hv
  obtain ⟨rfl, hv⟩ := hv
  have hl := lv_entry ([.ref (o + 0), .int a1]) (n := 2) (Nat.le_of_ble_eq_true rfl)
  rw [lg_entry_eq]
  exact t_X10_pinched_0 ⟨⟨B.exec, B.bytes, hml, findClass_of_methodNamed B.named, atoms_spec (ws := wsX10_pinched) B.pre⟩, B.returns, B.notSynchronized, hv.2⟩ a1 u0 _ _ _ ⟨hv.1, va_S.rf⟩ hl h
abbrev rm_X10_step : Room := { frames := 5, cells := 0, slots := 0, locals := 119 }
def w_X10_step_98  (Φ : Unit → Mm → Prop) (x1 : Int32) (x2 : Int32) (x3 : Int32) (u0 : Mm) : Prop := (if x3 = 0 then (if x3 = 0 then (Φ () u0) else (w_X10_letThrough x1 u0 (fun _ u16 => (w_X10_turn x1 ((0 : Int32)) ((0 : Int32)) u16 (fun _ u18 => (Φ () u18)))))) else (if x2 = (2 : Int32) then (w_X10_gateOf x1 ((3 : Int32)) u0 (fun r27 u26 => (w_X10_turn x1 ((3 : Int32)) r27 u26 (fun _ u28 => (Φ () u28))))) else (if x3 = 0 then (Φ () u0) else (w_X10_letThrough x1 u0 (fun _ u22 => (w_X10_turn x1 ((0 : Int32)) ((0 : Int32)) u22 (fun _ u24 => (Φ () u24))))))))
set_option maxHeartbeats 4000000 in
set_option maxRecDepth 100000 in
theorem t_X10_step_98 {p : Program} {l : Launch} {e : Env} {s : State} {m : MethodId} {args : Array Value} {below : List Frame} {meth : Method} {c : Code} {D : va_G} {cA : Nat → ClassId} {o : Nat}  {Φ : Unit → Mm → Prop} (C : Cx p m meth c s args cX10_step 4 wsX10_step RX10 none D (tysL cA)) : ∀ (x1 : Int32) (x2 : Int32) (x3 : Int32) (u0 : Mm), ∀ (H : Heap) (locs : List Loc) (ls : Array Slot), Hp 6 o D (EM cA o u0) s H locs → lv_has ls 4 [(0, .ref (o + 0)), (1, .int x1), (2, .int x2), (3, .int x3)] → w_X10_step_98 Φ x1 x2 x3 u0 → W p l e rm_X10_step s m args below meth c H locs 0 0 (MQ below (Qg vV Φ (fun μ => Wd 6 o D (tysL cA) (EM cA o μ)) (aA o 6)) args s 0 0 (aA o 6)) (F0 m 98 ls []) := by
  intro x1 x2 x3 u0 H locs ls P hl h
  have hx := C.1.1
  have hb := C.1.2.1
  unfold w_X10_step_98 at h
  refine lv_iload_n hx hb dX10_step_98 rfl (lv_at hl 3 rfl) ?_
  refine lv_if_eq (tgt := 122) hx hb dX10_step_99 (by decide) (fun c14 => ?_) (fun c14 => ?_)
  · have h := ite_t h c14
    refine lv_iload_n hx hb dX10_step_122 rfl (lv_at hl 3 rfl) ?_
    refine lv_if_eq (tgt := 138) hx hb dX10_step_123 (by decide) (fun c15 => ?_) (fun c15 => ?_)
    · have h := ite_t h c15
      exact r_ret C P h dX10_step_138
    · have h := ite_f h c15
      refine lv_aload_n hx hb dX10_step_126 rfl (lv_at hl 0 rfl) ?_
      refine lv_iload_n hx hb dX10_step_127 rfl (lv_at hl 1 rfl) ?_
      refine r_callv (F := EM cA o) (va_runV (As := [.int x1]) (rest := []) C.1 (c_X10_letThrough l D cA o _ u0 _ h) (cwV 1 C.1.2.2.2.2 gX10_step_X10_letThrough rfl rfl rfl (by decide +kernel) ⟨Nat.le_of_ble_eq_true rfl, Nat.le_of_ble_eq_true rfl⟩) (r_preV C P [.int x1] (ci := 10) rfl (by decide) EKM_0) rfl rfl hl.1 rfl (lv_room (Nat.le_of_ble_eq_true rfl)) dX10_step_128 ⟨Nat.le_of_ble_eq_true rfl, Nat.le_of_ble_eq_true rfl⟩) P.2 (fun u16 H locs h P => ?_)
      refine lv_aload_n hx hb dX10_step_131 rfl (lv_at hl 0 rfl) ?_
      refine lv_iload_n hx hb dX10_step_132 rfl (lv_at hl 1 rfl) ?_
      refine lv_iconst (v := 0) hx hb dX10_step_133 (by decide) ?_
      refine lv_iconst (v := 0) hx hb dX10_step_134 (by decide) ?_
      refine r_callv (F := EM cA o) (va_runV (As := [.int x1, .int (0 : Int32), .int (0 : Int32)]) (rest := []) C.1 (c_X10_turn l D cA o _ _ _ u16 _ h) (cwV 3 C.1.2.2.2.2 gX10_step_X10_turn rfl rfl rfl (by decide +kernel) ⟨Nat.le_of_ble_eq_true rfl, Nat.le_of_ble_eq_true rfl⟩) (r_preV C P [.int x1, .int (0 : Int32), .int (0 : Int32)] (ci := 10) rfl (by decide) EKM_0) rfl rfl hl.1 rfl (lv_room (Nat.le_of_ble_eq_true rfl)) dX10_step_135 ⟨Nat.le_of_ble_eq_true rfl, Nat.le_of_ble_eq_true rfl⟩) P.2 (fun u18 H locs h P => ?_)
      exact r_ret C P h dX10_step_138
  · have h := ite_f h c14
    refine lv_iload_n hx hb dX10_step_102 rfl (lv_at hl 2 rfl) ?_
    refine lv_iconst (v := 2) hx hb dX10_step_103 (by decide) ?_
    refine lv_icmp_ne (tgt := 122) hx hb dX10_step_104 (by decide) (fun c20 => ?_) (fun c20 => ?_)
    · have h := ite_f h c20
      refine lv_iload_n hx hb dX10_step_122 rfl (lv_at hl 3 rfl) ?_
      refine lv_if_eq (tgt := 138) hx hb dX10_step_123 (by decide) (fun c21 => ?_) (fun c21 => ?_)
      · have h := ite_t h c21
        exact r_ret C P h dX10_step_138
      · have h := ite_f h c21
        refine lv_aload_n hx hb dX10_step_126 rfl (lv_at hl 0 rfl) ?_
        refine lv_iload_n hx hb dX10_step_127 rfl (lv_at hl 1 rfl) ?_
        refine r_callv (F := EM cA o) (va_runV (As := [.int x1]) (rest := []) C.1 (c_X10_letThrough l D cA o _ u0 _ h) (cwV 1 C.1.2.2.2.2 gX10_step_X10_letThrough rfl rfl rfl (by decide +kernel) ⟨Nat.le_of_ble_eq_true rfl, Nat.le_of_ble_eq_true rfl⟩) (r_preV C P [.int x1] (ci := 10) rfl (by decide) EKM_0) rfl rfl hl.1 rfl (lv_room (Nat.le_of_ble_eq_true rfl)) dX10_step_128 ⟨Nat.le_of_ble_eq_true rfl, Nat.le_of_ble_eq_true rfl⟩) P.2 (fun u22 H locs h P => ?_)
        refine lv_aload_n hx hb dX10_step_131 rfl (lv_at hl 0 rfl) ?_
        refine lv_iload_n hx hb dX10_step_132 rfl (lv_at hl 1 rfl) ?_
        refine lv_iconst (v := 0) hx hb dX10_step_133 (by decide) ?_
        refine lv_iconst (v := 0) hx hb dX10_step_134 (by decide) ?_
        refine r_callv (F := EM cA o) (va_runV (As := [.int x1, .int (0 : Int32), .int (0 : Int32)]) (rest := []) C.1 (c_X10_turn l D cA o _ _ _ u22 _ h) (cwV 3 C.1.2.2.2.2 gX10_step_X10_turn rfl rfl rfl (by decide +kernel) ⟨Nat.le_of_ble_eq_true rfl, Nat.le_of_ble_eq_true rfl⟩) (r_preV C P [.int x1, .int (0 : Int32), .int (0 : Int32)] (ci := 10) rfl (by decide) EKM_0) rfl rfl hl.1 rfl (lv_room (Nat.le_of_ble_eq_true rfl)) dX10_step_135 ⟨Nat.le_of_ble_eq_true rfl, Nat.le_of_ble_eq_true rfl⟩) P.2 (fun u24 H locs h P => ?_)
        exact r_ret C P h dX10_step_138
    · have h := ite_t h c20
      refine lv_aload_n hx hb dX10_step_107 rfl (lv_at hl 0 rfl) ?_
      refine lv_iload_n hx hb dX10_step_108 rfl (lv_at hl 1 rfl) ?_
      refine lv_iconst (v := 3) hx hb dX10_step_109 (by decide) ?_
      refine lv_aload_n hx hb dX10_step_110 rfl (lv_at hl 0 rfl) ?_
      refine lv_iload_n hx hb dX10_step_111 rfl (lv_at hl 1 rfl) ?_
      refine lv_iconst (v := 3) hx hb dX10_step_112 (by decide) ?_
      refine r_calli (F := EM cA o) (va_runV (As := [.int x1, .int (3 : Int32)]) (rest := [.int (3 : Int32), .int x1, .ref (o + 0)]) C.1 (c_X10_gateOf l D cA o _ _ u0 _ h) (cwV 2 C.1.2.2.2.2 gX10_step_X10_gateOf rfl rfl rfl (by decide +kernel) ⟨Nat.le_of_ble_eq_true rfl, Nat.le_of_ble_eq_true rfl⟩) (r_preV C P [.int x1, .int (3 : Int32)] (ci := 10) rfl (by decide) EKM_0) rfl rfl hl.1 rfl (lv_room (Nat.le_of_ble_eq_true rfl)) dX10_step_113 ⟨Nat.le_of_ble_eq_true rfl, Nat.le_of_ble_eq_true rfl⟩) P.2 (fun r27 u26 H locs h P => ?_)
      refine r_callv (F := EM cA o) (va_runV (As := [.int x1, .int (3 : Int32), .int r27]) (rest := []) C.1 (c_X10_turn l D cA o _ _ _ u26 _ h) (cwV 3 C.1.2.2.2.2 gX10_step_X10_turn rfl rfl rfl (by decide +kernel) ⟨Nat.le_of_ble_eq_true rfl, Nat.le_of_ble_eq_true rfl⟩) (r_preV C P [.int x1, .int (3 : Int32), .int r27] (ci := 10) rfl (by decide) EKM_0) rfl rfl hl.1 rfl (lv_room (Nat.le_of_ble_eq_true rfl)) dX10_step_116 ⟨Nat.le_of_ble_eq_true rfl, Nat.le_of_ble_eq_true rfl⟩) P.2 (fun u28 H locs h P => ?_)
      refine lv_goto (tgt := 138) hx hb dX10_step_119 (by decide) ?_
      exact r_ret C P h dX10_step_138
def w_X10_step_76  (Φ : Unit → Mm → Prop) (x1 : Int32) (x2 : Int32) (x3 : Int32) (u0 : Mm) : Prop := (if x3 = 0 then (w_X10_step_98 Φ x1 x2 x3 u0) else (if x2 = (1 : Int32) then (w_X10_opened x1 u0 (fun _ u31 => (Φ () u31))) else (if x2 = (4 : Int32) then (w_X10_opened x1 u0 (fun _ u34 => (Φ () u34))) else (w_X10_step_98 Φ x1 x2 x3 u0))))
set_option maxHeartbeats 4000000 in
set_option maxRecDepth 100000 in
theorem t_X10_step_76 {p : Program} {l : Launch} {e : Env} {s : State} {m : MethodId} {args : Array Value} {below : List Frame} {meth : Method} {c : Code} {D : va_G} {cA : Nat → ClassId} {o : Nat}  {Φ : Unit → Mm → Prop} (C : Cx p m meth c s args cX10_step 4 wsX10_step RX10 none D (tysL cA)) : ∀ (x1 : Int32) (x2 : Int32) (x3 : Int32) (u0 : Mm), ∀ (H : Heap) (locs : List Loc) (ls : Array Slot), Hp 6 o D (EM cA o u0) s H locs → lv_has ls 4 [(0, .ref (o + 0)), (1, .int x1), (2, .int x2), (3, .int x3)] → w_X10_step_76 Φ x1 x2 x3 u0 → W p l e rm_X10_step s m args below meth c H locs 0 0 (MQ below (Qg vV Φ (fun μ => Wd 6 o D (tysL cA) (EM cA o μ)) (aA o 6)) args s 0 0 (aA o 6)) (F0 m 76 ls []) := by
  intro x1 x2 x3 u0 H locs ls P hl h
  have hx := C.1.1
  have hb := C.1.2.1
  unfold w_X10_step_76 at h
  refine lv_iload_n hx hb dX10_step_76 rfl (lv_at hl 3 rfl) ?_
  refine lv_if_eq (tgt := 98) hx hb dX10_step_77 (by decide) (fun c13 => ?_) (fun c13 => ?_)
  · have h := ite_t h c13
    exact t_X10_step_98 C _ _ _ u0 _ _ _ P (lv_sub hl [0, 1, 2, 3] rfl) h
  · have h := ite_f h c13
    refine lv_iload_n hx hb dX10_step_80 rfl (lv_at hl 2 rfl) ?_
    refine lv_iconst (v := 1) hx hb dX10_step_81 (by decide) ?_
    refine lv_icmp_eq (tgt := 90) hx hb dX10_step_82 (by decide) (fun c30 => ?_) (fun c30 => ?_)
    · have h := ite_t h c30
      refine lv_aload_n hx hb dX10_step_90 rfl (lv_at hl 0 rfl) ?_
      refine lv_iload_n hx hb dX10_step_91 rfl (lv_at hl 1 rfl) ?_
      refine r_callv (F := EM cA o) (va_runV (As := [.int x1]) (rest := []) C.1 (c_X10_opened l D cA o _ u0 _ h) (cwV 1 C.1.2.2.2.2 gX10_step_X10_opened rfl rfl rfl (by decide +kernel) ⟨Nat.le_of_ble_eq_true rfl, Nat.le_of_ble_eq_true rfl⟩) (r_preV C P [.int x1] (ci := 10) rfl (by decide) EKM_0) rfl rfl hl.1 rfl (lv_room (Nat.le_of_ble_eq_true rfl)) dX10_step_92 ⟨Nat.le_of_ble_eq_true rfl, Nat.le_of_ble_eq_true rfl⟩) P.2 (fun u31 H locs h P => ?_)
      refine lv_goto (tgt := 138) hx hb dX10_step_95 (by decide) ?_
      exact r_ret C P h dX10_step_138
    · have h := ite_f h c30
      refine lv_iload_n hx hb dX10_step_85 rfl (lv_at hl 2 rfl) ?_
      refine lv_iconst (v := 4) hx hb dX10_step_86 (by decide) ?_
      refine lv_icmp_ne (tgt := 98) hx hb dX10_step_87 (by decide) (fun c33 => ?_) (fun c33 => ?_)
      · have h := ite_f h c33
        exact t_X10_step_98 C _ _ _ u0 _ _ _ P (lv_sub hl [0, 1, 2, 3] rfl) h
      · have h := ite_t h c33
        refine lv_aload_n hx hb dX10_step_90 rfl (lv_at hl 0 rfl) ?_
        refine lv_iload_n hx hb dX10_step_91 rfl (lv_at hl 1 rfl) ?_
        refine r_callv (F := EM cA o) (va_runV (As := [.int x1]) (rest := []) C.1 (c_X10_opened l D cA o _ u0 _ h) (cwV 1 C.1.2.2.2.2 gX10_step_X10_opened rfl rfl rfl (by decide +kernel) ⟨Nat.le_of_ble_eq_true rfl, Nat.le_of_ble_eq_true rfl⟩) (r_preV C P [.int x1] (ci := 10) rfl (by decide) EKM_0) rfl rfl hl.1 rfl (lv_room (Nat.le_of_ble_eq_true rfl)) dX10_step_92 ⟨Nat.le_of_ble_eq_true rfl, Nat.le_of_ble_eq_true rfl⟩) P.2 (fun u34 H locs h P => ?_)
        refine lv_goto (tgt := 138) hx hb dX10_step_95 (by decide) ?_
        exact r_ret C P h dX10_step_138
def w_X10_step_51  (Φ : Unit → Mm → Prop) (x1 : Int32) (x2 : Int32) (z0 : Int32) (u0 : Mm) : Prop := (if x2 = (3 : Int32) then (w_X10_gateOf x1 ((9 : Int32)) u0 (fun r37 u36 => (if r37 = (1 : Int32) then (w_X10_pinched x1 u36 (fun _ u39 => (Φ () u39))) else (w_X10_step_76 Φ x1 x2 z0 u36)))) else (w_X10_step_76 Φ x1 x2 z0 u0))
set_option maxHeartbeats 4000000 in
set_option maxRecDepth 100000 in
theorem t_X10_step_51 {p : Program} {l : Launch} {e : Env} {s : State} {m : MethodId} {args : Array Value} {below : List Frame} {meth : Method} {c : Code} {D : va_G} {cA : Nat → ClassId} {o : Nat}  {Φ : Unit → Mm → Prop} (C : Cx p m meth c s args cX10_step 4 wsX10_step RX10 none D (tysL cA)) : ∀ (x1 : Int32) (x2 : Int32) (z0 : Int32) (u0 : Mm), ∀ (H : Heap) (locs : List Loc) (ls : Array Slot), Hp 6 o D (EM cA o u0) s H locs → lv_has ls 4 [(0, .ref (o + 0)), (1, .int x1), (2, .int x2)] → w_X10_step_51 Φ x1 x2 z0 u0 → W p l e rm_X10_step s m args below meth c H locs 0 0 (MQ below (Qg vV Φ (fun μ => Wd 6 o D (tysL cA) (EM cA o μ)) (aA o 6)) args s 0 0 (aA o 6)) (F0 m 51 ls [.int z0]) := by
  intro x1 x2 z0 u0 H locs ls P hl h
  have hx := C.1.1
  have hb := C.1.2.1
  unfold w_X10_step_51 at h
  refine lv_istore_n (lv' := [(3, .int z0), (0, .ref (o + 0)), (1, .int x1), (2, .int x2)]) hx hb dX10_step_51 rfl hl (by decide) rfl (fun ls hl => ?_)
  refine lv_iload_n hx hb dX10_step_52 rfl (lv_at hl 3 rfl) ?_
  refine lv_iconst (v := 3) hx hb dX10_step_53 (by decide) ?_
  refine lv_icmp_ne (tgt := 76) hx hb dX10_step_54 (by decide) (fun c12 => ?_) (fun c12 => ?_)
  · have h := ite_f h c12
    exact t_X10_step_76 C _ _ _ u0 _ _ _ P (lv_sub hl [1, 2, 3, 0] rfl) h
  · have h := ite_t h c12
    refine lv_aload_n hx hb dX10_step_57 rfl (lv_at hl 1 rfl) ?_
    refine lv_iload_n hx hb dX10_step_58 rfl (lv_at hl 2 rfl) ?_
    refine lv_bipush (v := 9) hx hb dX10_step_59 (by decide) ?_
    refine r_calli (F := EM cA o) (va_runV (As := [.int x1, .int (9 : Int32)]) (rest := []) C.1 (c_X10_gateOf l D cA o _ _ u0 _ h) (cwV 2 C.1.2.2.2.2 gX10_step_X10_gateOf rfl rfl rfl (by decide +kernel) ⟨Nat.le_of_ble_eq_true rfl, Nat.le_of_ble_eq_true rfl⟩) (r_preV C P [.int x1, .int (9 : Int32)] (ci := 10) rfl (by decide) EKM_0) rfl rfl hl.1 rfl (lv_room (Nat.le_of_ble_eq_true rfl)) dX10_step_61 ⟨Nat.le_of_ble_eq_true rfl, Nat.le_of_ble_eq_true rfl⟩) P.2 (fun r37 u36 H locs h P => ?_)
    refine lv_iconst (v := 1) hx hb dX10_step_64 (by decide) ?_
    refine lv_icmp_ne (tgt := 76) hx hb dX10_step_65 (by decide) (fun c38 => ?_) (fun c38 => ?_)
    · have h := ite_f h c38
      exact t_X10_step_76 C _ _ _ u36 _ _ _ P (lv_sub hl [1, 2, 3, 0] rfl) h
    · have h := ite_t h c38
      refine lv_aload_n hx hb dX10_step_68 rfl (lv_at hl 1 rfl) ?_
      refine lv_iload_n hx hb dX10_step_69 rfl (lv_at hl 2 rfl) ?_
      refine r_callv (F := EM cA o) (va_runV (As := [.int x1]) (rest := []) C.1 (c_X10_pinched l D cA o _ u36 _ h) (cwV 1 C.1.2.2.2.2 gX10_step_X10_pinched rfl rfl rfl (by decide +kernel) ⟨Nat.le_of_ble_eq_true rfl, Nat.le_of_ble_eq_true rfl⟩) (r_preV C P [.int x1] (ci := 10) rfl (by decide) EKM_0) rfl rfl hl.1 rfl (lv_room (Nat.le_of_ble_eq_true rfl)) dX10_step_70 ⟨Nat.le_of_ble_eq_true rfl, Nat.le_of_ble_eq_true rfl⟩) P.2 (fun u39 H locs h P => ?_)
      refine lv_goto (tgt := 138) hx hb dX10_step_73 (by decide) ?_
      exact r_ret C P h dX10_step_138
def w_X10_step (a1 : Int32) (u0 : Mm) (Φ : Unit → Mm → Prop) : Prop := (w_X10_gateOf a1 ((4 : Int32)) u0 (fun r2 u1 => (if r2 = (5 : Int32) then (Φ () u1) else (if r2 = 0 then (w_X10_takeNext a1 u1 (fun _ u41 => (Φ () u41))) else (w_X10_gateOf a1 ((5 : Int32)) u1 (fun r6 u5 => (w_X10_putGate a1 ((5 : Int32)) ((r6 - (1 : Int32))) u5 (fun _ u7 => (w_X10_gateOf a1 ((5 : Int32)) u7 (fun r10 u9 => (if r10 = 0 then (w_X10_step_51 Φ a1 r2 ((1 : Int32)) u9) else (w_X10_step_51 Φ a1 r2 ((0 : Int32)) u9))))))))))))
set_option maxHeartbeats 4000000 in
set_option maxRecDepth 100000 in
theorem t_X10_step_0 {p : Program} {l : Launch} {e : Env} {s : State} {m : MethodId} {args : Array Value} {below : List Frame} {meth : Method} {c : Code} {D : va_G} {cA : Nat → ClassId} {o : Nat}  {Φ : Unit → Mm → Prop} (C : Cx p m meth c s args cX10_step 4 wsX10_step RX10 none D (tysL cA)) : ∀ (a1 : Int32) (u0 : Mm), ∀ (H : Heap) (locs : List Loc) (ls : Array Slot), Hp 6 o D (EM cA o u0) s H locs → lv_has ls 4 [(0, .ref (o + 0)), (1, .int a1)] → w_X10_step a1 u0 Φ → W p l e rm_X10_step s m args below meth c H locs 0 0 (MQ below (Qg vV Φ (fun μ => Wd 6 o D (tysL cA) (EM cA o μ)) (aA o 6)) args s 0 0 (aA o 6)) (F0 m 0 ls []) := by
  intro a1 u0 H locs ls P hl h
  have hx := C.1.1
  have hb := C.1.2.1
  unfold w_X10_step at h
  refine lv_aload_n hx hb dX10_step_0 rfl (lv_at hl 0 rfl) ?_
  refine lv_iload_n hx hb dX10_step_1 rfl (lv_at hl 1 rfl) ?_
  refine lv_iconst (v := 4) hx hb dX10_step_2 (by decide) ?_
  refine r_calli (F := EM cA o) (va_runV (As := [.int a1, .int (4 : Int32)]) (rest := []) C.1 (c_X10_gateOf l D cA o _ _ u0 _ h) (cwV 2 C.1.2.2.2.2 gX10_step_X10_gateOf rfl rfl rfl (by decide +kernel) ⟨Nat.le_of_ble_eq_true rfl, Nat.le_of_ble_eq_true rfl⟩) (r_preV C P [.int a1, .int (4 : Int32)] (ci := 10) rfl (by decide) EKM_0) rfl rfl hl.1 rfl (lv_room (Nat.le_of_ble_eq_true rfl)) dX10_step_3 ⟨Nat.le_of_ble_eq_true rfl, Nat.le_of_ble_eq_true rfl⟩) P.2 (fun r2 u1 H locs h P => ?_)
  refine lv_istore_n (lv' := [(2, .int r2), (0, .ref (o + 0)), (1, .int a1)]) hx hb dX10_step_6 rfl hl (by decide) rfl (fun ls hl => ?_)
  refine lv_iload_n hx hb dX10_step_7 rfl (lv_at hl 0 rfl) ?_
  refine lv_iconst (v := 5) hx hb dX10_step_8 (by decide) ?_
  refine lv_icmp_ne (tgt := 13) hx hb dX10_step_9 (by decide) (fun c3 => ?_) (fun c3 => ?_)
  · have h := ite_f h c3
    refine lv_iload_n hx hb dX10_step_13 rfl (lv_at hl 0 rfl) ?_
    refine lv_if_ne (tgt := 23) hx hb dX10_step_14 (by decide) (fun c4 => ?_) (fun c4 => ?_)
    · have h := ite_f h c4
      refine lv_aload_n hx hb dX10_step_23 rfl (lv_at hl 1 rfl) ?_
      refine lv_iload_n hx hb dX10_step_24 rfl (lv_at hl 2 rfl) ?_
      refine lv_iconst (v := 5) hx hb dX10_step_25 (by decide) ?_
      refine lv_aload_n hx hb dX10_step_26 rfl (lv_at hl 1 rfl) ?_
      refine lv_iload_n hx hb dX10_step_27 rfl (lv_at hl 2 rfl) ?_
      refine lv_iconst (v := 5) hx hb dX10_step_28 (by decide) ?_
      refine r_calli (F := EM cA o) (va_runV (As := [.int a1, .int (5 : Int32)]) (rest := [.int (5 : Int32), .int a1, .ref (o + 0)]) C.1 (c_X10_gateOf l D cA o _ _ u1 _ h) (cwV 2 C.1.2.2.2.2 gX10_step_X10_gateOf rfl rfl rfl (by decide +kernel) ⟨Nat.le_of_ble_eq_true rfl, Nat.le_of_ble_eq_true rfl⟩) (r_preV C P [.int a1, .int (5 : Int32)] (ci := 10) rfl (by decide) EKM_0) rfl rfl hl.1 rfl (lv_room (Nat.le_of_ble_eq_true rfl)) dX10_step_29 ⟨Nat.le_of_ble_eq_true rfl, Nat.le_of_ble_eq_true rfl⟩) P.2 (fun r6 u5 H locs h P => ?_)
      refine lv_iconst (v := 1) hx hb dX10_step_32 (by decide) ?_
      refine lv_isub hx hb dX10_step_33 ?_
      refine r_callv (F := EM cA o) (va_runV (As := [.int a1, .int (5 : Int32), .int (r6 - (1 : Int32))]) (rest := []) C.1 (c_X10_putGate l D cA o _ _ _ u5 _ h) (cwV 3 C.1.2.2.2.2 gX10_step_X10_putGate rfl rfl rfl (by decide +kernel) ⟨Nat.le_of_ble_eq_true rfl, Nat.le_of_ble_eq_true rfl⟩) (r_preV C P [.int a1, .int (5 : Int32), .int (r6 - (1 : Int32))] (ci := 10) rfl (by decide) EKM_0) rfl rfl hl.1 rfl (lv_room (Nat.le_of_ble_eq_true rfl)) dX10_step_34 ⟨Nat.le_of_ble_eq_true rfl, Nat.le_of_ble_eq_true rfl⟩) P.2 (fun u7 H locs h P => ?_)
      refine lv_aload_n hx hb dX10_step_37 rfl (lv_at hl 1 rfl) ?_
      refine lv_iload_n hx hb dX10_step_38 rfl (lv_at hl 2 rfl) ?_
      refine lv_iconst (v := 5) hx hb dX10_step_39 (by decide) ?_
      refine r_calli (F := EM cA o) (va_runV (As := [.int a1, .int (5 : Int32)]) (rest := []) C.1 (c_X10_gateOf l D cA o _ _ u7 _ h) (cwV 2 C.1.2.2.2.2 gX10_step_X10_gateOf rfl rfl rfl (by decide +kernel) ⟨Nat.le_of_ble_eq_true rfl, Nat.le_of_ble_eq_true rfl⟩) (r_preV C P [.int a1, .int (5 : Int32)] (ci := 10) rfl (by decide) EKM_0) rfl rfl hl.1 rfl (lv_room (Nat.le_of_ble_eq_true rfl)) dX10_step_40 ⟨Nat.le_of_ble_eq_true rfl, Nat.le_of_ble_eq_true rfl⟩) P.2 (fun r10 u9 H locs h P => ?_)
      refine lv_if_ne (tgt := 50) hx hb dX10_step_43 (by decide) (fun c11 => ?_) (fun c11 => ?_)
      · have h := ite_f h c11
        refine lv_iconst (v := 0) hx hb dX10_step_50 (by decide) ?_
        exact t_X10_step_51 C _ _ _ u9 _ _ _ P (lv_sub hl [1, 2, 0] rfl) h
      · have h := ite_t h c11
        refine lv_iconst (v := 1) hx hb dX10_step_46 (by decide) ?_
        refine lv_goto (tgt := 51) hx hb dX10_step_47 (by decide) ?_
        exact t_X10_step_51 C _ _ _ u9 _ _ _ P (lv_sub hl [1, 2, 0] rfl) h
    · have h := ite_t h c4
      refine lv_aload_n hx hb dX10_step_17 rfl (lv_at hl 1 rfl) ?_
      refine lv_iload_n hx hb dX10_step_18 rfl (lv_at hl 2 rfl) ?_
      refine r_callv (F := EM cA o) (va_runV (As := [.int a1]) (rest := []) C.1 (c_X10_takeNext l D cA o _ u1 _ h) (cwV 1 C.1.2.2.2.2 gX10_step_X10_takeNext rfl rfl rfl (by decide +kernel) ⟨Nat.le_of_ble_eq_true rfl, Nat.le_of_ble_eq_true rfl⟩) (r_preV C P [.int a1] (ci := 10) rfl (by decide) EKM_0) rfl rfl hl.1 rfl (lv_room (Nat.le_of_ble_eq_true rfl)) dX10_step_19 ⟨Nat.le_of_ble_eq_true rfl, Nat.le_of_ble_eq_true rfl⟩) P.2 (fun u41 H locs h P => ?_)
      exact r_ret C P h dX10_step_22
  · have h := ite_t h c3
    exact r_ret C P h dX10_step_12
set_option maxHeartbeats 4000000 in
set_option maxRecDepth 100000 in
theorem c_X10_step (l : Launch) (D : va_G) (cA : Nat → ClassId) (o : Nat) (a1 : Int32)  (u0 : Mm) (Φ : Unit → Mm → Prop) (h : w_X10_step a1 u0 Φ) : Met l yX10_step wsX10_step rm_X10_step (va_Pc [.ref (o + 0), .int a1] (Wd 6 o D (tysL cA) (EM cA o u0))) (Qg vV Φ (fun μ => Wd 6 o D (tysL cA) (EM cA o μ)) (aA o 6)) 0 0 (aA o 6) := by
  refine Met.ofW (cc := cX10_step) (maxL := 4) (ret := none) (by decide) rfl ?_
  intro p e s m args below meth c s₁ B hml hv
  obtain ⟨rfl, hv⟩ := hv
  have hl := lv_entry ([.ref (o + 0), .int a1]) (n := 4) (Nat.le_of_ble_eq_true rfl)
  rw [lg_entry_eq]
  exact t_X10_step_0 ⟨⟨B.exec, B.bytes, hml, findClass_of_methodNamed B.named, atoms_spec (ws := wsX10_step) B.pre⟩, B.returns, B.notSynchronized, hv.2⟩ a1 u0 _ _ _ ⟨hv.1, va_S.rf⟩ hl h
abbrev rm_X10_tick : Room := { frames := 6, cells := 0, slots := 0, locals := 142 }
theorem wd_X10_tick_1 : Cond.fieldLink RX10 7 "TurnstileBankModel" "row" "[I" ∈ wsX10_tick := List.mem_of_getElem? (i := 1) (by decide +kernel)
theorem in_X10_tick_10 : ∀ w ∈ wsX100, w ∈ wsX10_tick := fun w h => List.mem_cons_of_mem _ (List.mem_append_right _ h)
def w_X10_tick_2  (Φ : Unit → Mm → Prop) : Nat → Int32 → Mm → Prop
  | 0, _, _ => False
  | n + 1, x1, u0 => (if (u0 1 (1 : Int32).toNatClampNeg) ≤ x1 then (∀ u2 : Mm, u2 = up2 u0 1 (0 : Int32).toNatClampNeg ((u0 1 (0 : Int32).toNatClampNeg) + (1 : Int32)) → (Φ () u2)) else (w_X10_step x1 u0 (fun _ u3 => (w_X10_tick_2 Φ n ((x1 + 1)) u3))))
set_option maxHeartbeats 4000000 in
set_option maxRecDepth 100000 in
theorem t_X10_tick_2 {p : Program} {l : Launch} {e : Env} {s : State} {m : MethodId} {args : Array Value} {below : List Frame} {meth : Method} {c : Code} {D : va_G} {cA : Nat → ClassId} {o : Nat}  {Φ : Unit → Mm → Prop} (C : Cx p m meth c s args cX10_tick 2 wsX10_tick RX10 none D (tysL cA)) : ∀ n : Nat, ∀ (x1 : Int32) (u0 : Mm), ∀ (H : Heap) (locs : List Loc) (ls : Array Slot), Hp 6 o D (EM cA o u0) s H locs → lv_has ls 2 [(0, .ref (o + 0)), (1, .int x1)] → w_X10_tick_2 Φ n x1 u0 → W p l e rm_X10_tick s m args below meth c H locs 0 0 (MQ below (Qg vV Φ (fun μ => Wd 6 o D (tysL cA) (EM cA o μ)) (aA o 6)) args s 0 0 (aA o 6)) (F0 m 2 ls []) := by
  intro n
  induction n with
  | zero => intro x1 u0 H locs ls P hl h; exact h.elim
  | succ n ih =>
    intro x1 u0 H locs ls P hl h
    have hx := C.1.1
    have hb := C.1.2.1
    rw [w_X10_tick_2] at h
    refine lv_iload_n hx hb dX10_tick_2 rfl (lv_at hl 1 rfl) ?_
    refine lv_aload_n hx hb dX10_tick_3 rfl (lv_at hl 0 rfl) ?_
    refine g_10_0 C P in_X10_tick_10 wd_X10_tick_1 dX10_tick_4 ?_
    refine lv_iconst (v := 1) hx hb dX10_tick_7 (by decide) ?_
    refine mld_1 C P (by unfold vp_in; decide) dX10_tick_8 ?_
    refine lv_icmp_ge (tgt := 23) hx hb dX10_tick_9 (by decide) (fun c1 => ?_) (fun c1 => ?_)
    · have h := ite_t h c1
      refine lv_aload_n hx hb dX10_tick_23 rfl (lv_at hl 0 rfl) ?_
      refine g_10_0 C P in_X10_tick_10 wd_X10_tick_1 dX10_tick_24 ?_
      refine lv_iconst (v := 0) hx hb dX10_tick_27 (by decide) ?_
      refine lv_dup2_11 hx hb dX10_tick_28 rfl rfl ?_
      refine mld_1 C P (by unfold vp_in; decide) dX10_tick_29 ?_
      refine lv_iconst (v := 1) hx hb dX10_tick_30 (by decide) ?_
      refine lv_iadd hx hb dX10_tick_31 ?_
      refine mst_1 C P (by unfold vp_in; decide) dX10_tick_32 (fun u2 eu2 H locs P => ?_)
      have h := h u2 eu2
      exact r_ret C P h dX10_tick_33
    · have h := ite_f h c1
      refine lv_aload_n hx hb dX10_tick_12 rfl (lv_at hl 0 rfl) ?_
      refine lv_iload_n hx hb dX10_tick_13 rfl (lv_at hl 1 rfl) ?_
      refine r_callv (F := EM cA o) (va_runV (As := [.int x1]) (rest := []) C.1 (c_X10_step l D cA o _ u0 _ h) (cwV 1 C.1.2.2.2.2 gX10_tick_X10_step rfl rfl rfl (by decide +kernel) ⟨Nat.le_of_ble_eq_true rfl, Nat.le_of_ble_eq_true rfl⟩) (r_preV C P [.int x1] (ci := 10) rfl (by decide) EKM_0) rfl rfl hl.1 rfl (lv_room (Nat.le_of_ble_eq_true rfl)) dX10_tick_14 ⟨Nat.le_of_ble_eq_true rfl, Nat.le_of_ble_eq_true rfl⟩) P.2 (fun u3 H locs h P => ?_)
      refine lv_iinc (v := (x1 + 1)) (lv' := [(1, .int (x1 + 1)), (0, .ref (o + 0))]) hx hb dX10_tick_17 hl (k := 1) rfl rfl (by decide) rfl (fun ls hl => ?_)
      refine lv_goto (tgt := 2) hx hb dX10_tick_20 (by decide) ?_
      exact ih _ u3 _ _ _ P (lv_sub hl [1, 0] rfl) h
def w_X10_tick  (u0 : Mm) (Φ : Unit → Mm → Prop) : Prop := (∃ n2 : Nat, w_X10_tick_2 Φ n2 ((0 : Int32)) u0)
set_option maxHeartbeats 4000000 in
set_option maxRecDepth 100000 in
theorem t_X10_tick_0 {p : Program} {l : Launch} {e : Env} {s : State} {m : MethodId} {args : Array Value} {below : List Frame} {meth : Method} {c : Code} {D : va_G} {cA : Nat → ClassId} {o : Nat}  {Φ : Unit → Mm → Prop} (C : Cx p m meth c s args cX10_tick 2 wsX10_tick RX10 none D (tysL cA)) : ∀  (u0 : Mm), ∀ (H : Heap) (locs : List Loc) (ls : Array Slot), Hp 6 o D (EM cA o u0) s H locs → lv_has ls 2 [(0, .ref (o + 0))] → w_X10_tick u0 Φ → W p l e rm_X10_tick s m args below meth c H locs 0 0 (MQ below (Qg vV Φ (fun μ => Wd 6 o D (tysL cA) (EM cA o μ)) (aA o 6)) args s 0 0 (aA o 6)) (F0 m 0 ls []) := by
  intro u0 H locs ls P hl h
  have hx := C.1.1
  have hb := C.1.2.1
  unfold w_X10_tick at h
  refine lv_iconst (v := 0) hx hb dX10_tick_0 (by decide) ?_
  refine lv_istore_n (lv' := [(1, .int (0 : Int32)), (0, .ref (o + 0))]) hx hb dX10_tick_1 rfl hl (by decide) rfl (fun ls hl => ?_)
  obtain ⟨n2, h⟩ := h
  exact t_X10_tick_2 C n2 _ u0 _ _ _ P (lv_sub hl [1, 0] rfl) h
set_option maxHeartbeats 4000000 in
set_option maxRecDepth 100000 in
theorem c_X10_tick (l : Launch) (D : va_G) (cA : Nat → ClassId) (o : Nat)   (u0 : Mm) (Φ : Unit → Mm → Prop) (h : w_X10_tick u0 Φ) : Met l yX10_tick wsX10_tick rm_X10_tick (va_Pc [.ref (o + 0)] (Wd 6 o D (tysL cA) (EM cA o u0))) (Qg vV Φ (fun μ => Wd 6 o D (tysL cA) (EM cA o μ)) (aA o 6)) 0 0 (aA o 6) := by
  refine Met.ofW (cc := cX10_tick) (maxL := 2) (ret := none) (by decide) rfl ?_
  intro p e s m args below meth c s₁ B hml hv
  obtain ⟨rfl, hv⟩ := hv
  have hl := lv_entry ([.ref (o + 0)]) (n := 2) (Nat.le_of_ble_eq_true rfl)
  rw [lg_entry_eq]
  exact t_X10_tick_0 ⟨⟨B.exec, B.bytes, hml, findClass_of_methodNamed B.named, atoms_spec (ws := wsX10_tick) B.pre⟩, B.returns, B.notSynchronized, hv.2⟩ u0 _ _ _ ⟨hv.1, va_S.rf⟩ hl h
