abbrev rm_X8_moveQueues : Room := { frames := 2, cells := 0, slots := 0, locals := 47 }
theorem wd_X8_moveQueues_1 : Cond.fieldLink RX8 126 "TurnstileBank$Gate" "outer" "LTurnstileBank$Queue;" ∈ wsX8_moveQueues := List.mem_of_getElem? (i := 1) (by decide +kernel)
theorem wd_X8_moveQueues_2 : Cond.fieldLink RX8 142 "TurnstileBank$Gate" "inner" "LTurnstileBank$Queue;" ∈ wsX8_moveQueues := List.mem_of_getElem? (i := 2) (by decide +kernel)
theorem in_X8_moveQueues_1 : ∀ w ∈ wsX10, w ∈ wsX8_moveQueues := fun w h => List.mem_cons_of_mem _ (List.mem_append_left _ (List.mem_append_left _ (List.mem_append_left _ (List.mem_append_right _ h))))
def w_X8_moveQueues (k0 : Nat) (a1 : Int32) (a2 : Int32) (u0 : Mm) (Φ : Int32 → Mm → Prop) : Prop := (w_X8_gateAt k0 a1 u0 (fun r2 u1 => opt r2 (w_X8_gateAt k0 a2 u1 (fun r5 u4 => opt r5 (Φ ((-1 : Int32)) u4) (fun r5 => (Φ ((-1 : Int32)) u4)))) (fun r2 => (w_X8_gateAt k0 a2 u1 (fun r8 u7 => opt r8 (Φ ((-1 : Int32)) u7) (fun r8 => (if a1 = a2 then (Φ ((-2 : Int32)) u7) else (w_X1_queuesTogether r2 u7 (fun r12 u11 => (if r12 = 0 then (Φ ((-5 : Int32)) u11) else (w_X8_moveQueue k0 ((r2 + 1)) ((r8 + 1)) a2 u11 (fun _ u14 => (w_X8_moveQueue k0 ((r2 + 3)) ((r8 + 3)) a2 u14 (fun _ u16 => (Φ r12 u16)))))))))))))))
set_option maxHeartbeats 4000000 in
set_option maxRecDepth 100000 in
theorem t_X8_moveQueues_0 {p : Program} {l : Launch} {e : Env} {s : State} {m : MethodId} {args : Array Value} {below : List Frame} {meth : Method} {c : Code} {D : va_G} {cA : Nat → ClassId} {o : Nat}  {Φ : Int32 → Mm → Prop} (C : Cx p m meth c s args cX8_moveQueues 6 wsX8_moveQueues RX8 (some .int) D (tysL cA)) : ∀ (k0 : Nat) (a1 : Int32) (a2 : Int32) (u0 : Mm), kd k0 = 8 → ∀ (H : Heap) (locs : List Loc) (ls : Array Slot), Hp 747 o D (EC cA o u0) s H locs → lv_has ls 6 [(0, .ref (o + k0)), (1, .int a1), (2, .int a2)] → w_X8_moveQueues k0 a1 a2 u0 Φ → W p l e rm_X8_moveQueues s m args below meth c H locs 0 0 (MQ below (Qg vI Φ (fun μ => Wd 747 o D (tysL cA) (EC cA o μ)) (aA o 747)) args s 0 0 (aA o 747)) (F0 m 0 ls []) := by
  intro k0 a1 a2 u0 hk0 H locs ls P hl h
  have hx := C.1.1
  have hb := C.1.2.1
  unfold w_X8_moveQueues at h
  refine lv_aload_n hx hb dX8_moveQueues_0 rfl (lv_at hl 0 rfl) ?_
  refine lv_iload_n hx hb dX8_moveQueues_1 rfl (lv_at hl 1 rfl) ?_
  refine r_calln (F := EC cA o) (va_runV (As := [.int a1]) (rest := []) C.1 (c_X8_gateAt l D cA o _ _ hk0 u0 _ h) (cwV 1 C.1.2.2.2.2 gX8_moveQueues_X8_gateAt rfl rfl rfl (by decide +kernel) ⟨Nat.le_of_ble_eq_true rfl, Nat.le_of_ble_eq_true rfl⟩) (r_preV C P [.int a1] (ci := 8) rfl (kd_lt hk0 (by decide)) (EK_8 hk0)) rfl rfl hl.1 rfl (lv_room (Nat.le_of_ble_eq_true rfl)) dX8_moveQueues_2 ⟨Nat.le_of_ble_eq_true rfl, Nat.le_of_ble_eq_true rfl⟩) P.2 (fun r2 u1 H locs h P => ?_)
  obtain ⟨h, hk3⟩ := h
  rcases r2 with _ | r2
  · have h := opt_n h
    refine lv_astore_nN (lv' := [(3, .null), (0, .ref (o + k0)), (1, .int a1), (2, .int a2)]) hx hb dX8_moveQueues_5 rfl hl (by decide) rfl (fun ls hl => ?_)
    refine lv_aload_n hx hb dX8_moveQueues_6 rfl (lv_at hl 1 rfl) ?_
    refine lv_iload_n hx hb dX8_moveQueues_7 rfl (lv_at hl 3 rfl) ?_
    refine r_calln (F := EC cA o) (va_runV (As := [.int a2]) (rest := []) C.1 (c_X8_gateAt l D cA o _ _ hk0 u1 _ h) (cwV 1 C.1.2.2.2.2 gX8_moveQueues_X8_gateAt rfl rfl rfl (by decide +kernel) ⟨Nat.le_of_ble_eq_true rfl, Nat.le_of_ble_eq_true rfl⟩) (r_preV C P [.int a2] (ci := 8) rfl (kd_lt hk0 (by decide)) (EK_8 hk0)) rfl rfl hl.1 rfl (lv_room (Nat.le_of_ble_eq_true rfl)) dX8_moveQueues_8 ⟨Nat.le_of_ble_eq_true rfl, Nat.le_of_ble_eq_true rfl⟩) P.2 (fun r5 u4 H locs h P => ?_)
    obtain ⟨h, hk6⟩ := h
    rcases r5 with _ | r5
    · have h := opt_n h
      refine lv_astoreN (lv' := [(4, .null), (3, .null), (0, .ref (o + k0)), (1, .int a1), (2, .int a2)]) hx hb dX8_moveQueues_11 hl (by decide) rfl (fun ls hl => ?_)
      refine lv_aload_nN hx hb dX8_moveQueues_13 rfl (lv_at hl 1 rfl) ?_
      refine lv_ifnullN (tgt := 22) hx hb dX8_moveQueues_14 (by decide) ?_
      refine lv_iconst (v := -1) hx hb dX8_moveQueues_22 (by decide) ?_
      exact r_ireti C P h dX8_moveQueues_23
    · have h := opt_s h
      have hk6 := hk6 r5 rfl
      refine lv_astore (lv' := [(4, .ref (o + r5)), (3, .null), (0, .ref (o + k0)), (1, .int a1), (2, .int a2)]) hx hb dX8_moveQueues_11 hl (by decide) rfl (fun ls hl => ?_)
      refine lv_aload_nN hx hb dX8_moveQueues_13 rfl (lv_at hl 1 rfl) ?_
      refine lv_ifnullN (tgt := 22) hx hb dX8_moveQueues_14 (by decide) ?_
      refine lv_iconst (v := -1) hx hb dX8_moveQueues_22 (by decide) ?_
      exact r_ireti C P h dX8_moveQueues_23
  · have h := opt_s h
    have hk3 := hk3 r2 rfl
    refine lv_astore_n (lv' := [(3, .ref (o + r2)), (0, .ref (o + k0)), (1, .int a1), (2, .int a2)]) hx hb dX8_moveQueues_5 rfl hl (by decide) rfl (fun ls hl => ?_)
    refine lv_aload_n hx hb dX8_moveQueues_6 rfl (lv_at hl 1 rfl) ?_
    refine lv_iload_n hx hb dX8_moveQueues_7 rfl (lv_at hl 3 rfl) ?_
    refine r_calln (F := EC cA o) (va_runV (As := [.int a2]) (rest := []) C.1 (c_X8_gateAt l D cA o _ _ hk0 u1 _ h) (cwV 1 C.1.2.2.2.2 gX8_moveQueues_X8_gateAt rfl rfl rfl (by decide +kernel) ⟨Nat.le_of_ble_eq_true rfl, Nat.le_of_ble_eq_true rfl⟩) (r_preV C P [.int a2] (ci := 8) rfl (kd_lt hk0 (by decide)) (EK_8 hk0)) rfl rfl hl.1 rfl (lv_room (Nat.le_of_ble_eq_true rfl)) dX8_moveQueues_8 ⟨Nat.le_of_ble_eq_true rfl, Nat.le_of_ble_eq_true rfl⟩) P.2 (fun r8 u7 H locs h P => ?_)
    obtain ⟨h, hk9⟩ := h
    rcases r8 with _ | r8
    · have h := opt_n h
      refine lv_astoreN (lv' := [(4, .null), (3, .ref (o + r2)), (0, .ref (o + k0)), (1, .int a1), (2, .int a2)]) hx hb dX8_moveQueues_11 hl (by decide) rfl (fun ls hl => ?_)
      refine lv_aload_n hx hb dX8_moveQueues_13 rfl (lv_at hl 1 rfl) ?_
      refine lv_ifnull hx hb dX8_moveQueues_14 ?_
      refine lv_aloadN hx hb dX8_moveQueues_17 (lv_at hl 0 rfl) ?_
      refine lv_ifnonnullN hx hb dX8_moveQueues_19 ?_
      refine lv_iconst (v := -1) hx hb dX8_moveQueues_22 (by decide) ?_
      exact r_ireti C P h dX8_moveQueues_23
    · have h := opt_s h
      have hk9 := hk9 r8 rfl
      refine lv_astore (lv' := [(4, .ref (o + r8)), (3, .ref (o + r2)), (0, .ref (o + k0)), (1, .int a1), (2, .int a2)]) hx hb dX8_moveQueues_11 hl (by decide) rfl (fun ls hl => ?_)
      refine lv_aload_n hx hb dX8_moveQueues_13 rfl (lv_at hl 1 rfl) ?_
      refine lv_ifnull hx hb dX8_moveQueues_14 ?_
      refine lv_aload hx hb dX8_moveQueues_17 (lv_at hl 0 rfl) ?_
      refine lv_ifnonnull (tgt := 24) hx hb dX8_moveQueues_19 (by decide) ?_
      refine lv_iload_n hx hb dX8_moveQueues_24 rfl (lv_at hl 3 rfl) ?_
      refine lv_iload_n hx hb dX8_moveQueues_25 rfl (lv_at hl 4 rfl) ?_
      refine lv_icmp_ne (tgt := 32) hx hb dX8_moveQueues_26 (by decide) (fun c10 => ?_) (fun c10 => ?_)
      · have h := ite_f h c10
        refine lv_aload_n hx hb dX8_moveQueues_32 rfl (lv_at hl 1 rfl) ?_
        refine r_calli (F := EC cA o) (va_runV (As := []) (rest := []) C.1 (c_X1_queuesTogether l D cA o _ hk3 u7 _ h) (cwV 0 C.1.2.2.2.2 gX8_moveQueues_X1_queuesTogether rfl rfl rfl (by decide +kernel) ⟨Nat.le_of_ble_eq_true rfl, Nat.le_of_ble_eq_true rfl⟩) (r_preV C P [] (ci := 1) rfl (kd_lt hk3 (by decide)) (EK_1 hk3)) rfl rfl hl.1 rfl (lv_room (Nat.le_of_ble_eq_true rfl)) dX8_moveQueues_33 ⟨Nat.le_of_ble_eq_true rfl, Nat.le_of_ble_eq_true rfl⟩) P.2 (fun r12 u11 H locs h P => ?_)
        refine lv_istore (lv' := [(5, .int r12), (4, .ref (o + r8)), (3, .ref (o + r2)), (0, .ref (o + k0)), (1, .int a1), (2, .int a2)]) hx hb dX8_moveQueues_36 hl (by decide) rfl (fun ls hl => ?_)
        refine lv_iload hx hb dX8_moveQueues_38 (lv_at hl 0 rfl) ?_
        refine lv_if_ne (tgt := 46) hx hb dX8_moveQueues_40 (by decide) (fun c13 => ?_) (fun c13 => ?_)
        · have h := ite_f h c13
          refine lv_aload_n hx hb dX8_moveQueues_46 rfl (lv_at hl 3 rfl) ?_
          refine lv_aload_n hx hb dX8_moveQueues_47 rfl (lv_at hl 2 rfl) ?_
          refine g_1_0 C P in_X8_moveQueues_1 wd_X8_moveQueues_1 hk3 dX8_moveQueues_48 ?_
          refine lv_aload hx hb dX8_moveQueues_51 (lv_at hl 1 rfl) ?_
          refine g_1_0 C P in_X8_moveQueues_1 wd_X8_moveQueues_1 hk9 dX8_moveQueues_53 ?_
          refine lv_iload_n hx hb dX8_moveQueues_56 rfl (lv_at hl 5 rfl) ?_
          refine r_callv (F := EC cA o) (va_runV (As := [.ref (o + (r2 + 1)), .ref (o + (r8 + 1)), .int a2]) (rest := []) C.1 (c_X8_moveQueue l D cA o _ _ _ _ hk0 (kd_1_1 hk3) (kd_1_1 hk9) u11 _ h) (cwV 3 C.1.2.2.2.2 gX8_moveQueues_X8_moveQueue rfl rfl rfl (by decide +kernel) ⟨Nat.le_of_ble_eq_true rfl, Nat.le_of_ble_eq_true rfl⟩) (r_preV C P [.ref (o + (r2 + 1)), .ref (o + (r8 + 1)), .int a2] (ci := 8) rfl (kd_lt hk0 (by decide)) (EK_8 hk0)) rfl rfl hl.1 rfl (lv_room (Nat.le_of_ble_eq_true rfl)) dX8_moveQueues_57 ⟨Nat.le_of_ble_eq_true rfl, Nat.le_of_ble_eq_true rfl⟩) P.2 (fun u14 H locs h P => ?_)
          refine lv_aload_n hx hb dX8_moveQueues_60 rfl (lv_at hl 3 rfl) ?_
          refine lv_aload_n hx hb dX8_moveQueues_61 rfl (lv_at hl 2 rfl) ?_
          refine g_1_1 C P in_X8_moveQueues_1 wd_X8_moveQueues_2 hk3 dX8_moveQueues_62 ?_
          refine lv_aload hx hb dX8_moveQueues_65 (lv_at hl 1 rfl) ?_
          refine g_1_1 C P in_X8_moveQueues_1 wd_X8_moveQueues_2 hk9 dX8_moveQueues_67 ?_
          refine lv_iload_n hx hb dX8_moveQueues_70 rfl (lv_at hl 5 rfl) ?_
          refine r_callv (F := EC cA o) (va_runV (As := [.ref (o + (r2 + 3)), .ref (o + (r8 + 3)), .int a2]) (rest := []) C.1 (c_X8_moveQueue l D cA o _ _ _ _ hk0 (kd_1_3 hk3) (kd_1_3 hk9) u14 _ h) (cwV 3 C.1.2.2.2.2 gX8_moveQueues_X8_moveQueue rfl rfl rfl (by decide +kernel) ⟨Nat.le_of_ble_eq_true rfl, Nat.le_of_ble_eq_true rfl⟩) (r_preV C P [.ref (o + (r2 + 3)), .ref (o + (r8 + 3)), .int a2] (ci := 8) rfl (kd_lt hk0 (by decide)) (EK_8 hk0)) rfl rfl hl.1 rfl (lv_room (Nat.le_of_ble_eq_true rfl)) dX8_moveQueues_71 ⟨Nat.le_of_ble_eq_true rfl, Nat.le_of_ble_eq_true rfl⟩) P.2 (fun u16 H locs h P => ?_)
          refine lv_iload hx hb dX8_moveQueues_74 (lv_at hl 0 rfl) ?_
          exact r_ireti C P h dX8_moveQueues_76
        · have h := ite_t h c13
          refine lv_bipush (v := -5) hx hb dX8_moveQueues_43 (by decide) ?_
          exact r_ireti C P h dX8_moveQueues_45
      · have h := ite_t h c10
        refine lv_bipush (v := -2) hx hb dX8_moveQueues_29 (by decide) ?_
        exact r_ireti C P h dX8_moveQueues_31
set_option maxHeartbeats 4000000 in
set_option maxRecDepth 100000 in
theorem c_X8_moveQueues (l : Launch) (D : va_G) (cA : Nat → ClassId) (o : Nat) (k0 : Nat) (a1 : Int32) (a2 : Int32) (hk0 : kd k0 = 8) (u0 : Mm) (Φ : Int32 → Mm → Prop) (h : w_X8_moveQueues k0 a1 a2 u0 Φ) : Met l yX8_moveQueues wsX8_moveQueues rm_X8_moveQueues (va_Pc [.ref (o + k0), .int a1, .int a2] (Wd 747 o D (tysL cA) (EC cA o u0))) (Qg vI Φ (fun μ => Wd 747 o D (tysL cA) (EC cA o μ)) (aA o 747)) 0 0 (aA o 747) := by
  refine Met.ofW (cc := cX8_moveQueues) (maxL := 6) (ret := (some .int)) (by decide) rfl ?_
  intro p e s m args below meth c s₁ B hml hv
  obtain ⟨rfl, hv⟩ := hv
  have hl := lv_entry ([.ref (o + k0), .int a1, .int a2]) (n := 6) (Nat.le_of_ble_eq_true rfl)
  rw [lg_entry_eq]
  exact t_X8_moveQueues_0 ⟨⟨B.exec, B.bytes, hml, findClass_of_methodNamed B.named, atoms_spec (ws := wsX8_moveQueues) B.pre⟩, B.returns, B.notSynchronized, hv.2⟩ k0 a1 a2 u0 hk0 _ _ _ ⟨hv.1, va_S.rf⟩ hl h
abbrev rm_X8_tellPinch : Room := { frames := 1, cells := 0, slots := 0, locals := 21 }
theorem wd_X8_tellPinch_1 : Cond.fieldLink RX8 163 "TurnstileBank$Gate" "state" "I" ∈ wsX8_tellPinch := List.mem_of_getElem? (i := 1) (by decide +kernel)
theorem wd_X8_tellPinch_2 : Cond.fieldLink RX8 166 "TurnstileBank$Gate" "pinchTold" "Z" ∈ wsX8_tellPinch := List.mem_of_getElem? (i := 2) (by decide +kernel)
theorem in_X8_tellPinch_1 : ∀ w ∈ wsX10, w ∈ wsX8_tellPinch := fun w h => List.mem_cons_of_mem _ (List.mem_append_left _ (List.mem_append_right _ h))
def w_X8_tellPinch (k0 : Nat) (a1 : Int32) (u0 : Mm) (Φ : Int32 → Mm → Prop) : Prop := (w_X8_gateAt k0 a1 u0 (fun r2 u1 => opt r2 (Φ ((-1 : Int32)) u1) (fun r2 => (if (u1 r2 6) = (5 : Int32) then (Φ ((-4 : Int32)) u1) else (if (u1 r2 9) = 0 then (∀ u6 : Mm, u6 = up2 u1 r2 9 (1 : Int32) → (if (u6 r2 6) = (3 : Int32) then (Φ ((1 : Int32)) u6) else (Φ ((0 : Int32)) u6))) else (Φ ((-5 : Int32)) u1))))))
set_option maxHeartbeats 4000000 in
set_option maxRecDepth 100000 in
theorem t_X8_tellPinch_0 {p : Program} {l : Launch} {e : Env} {s : State} {m : MethodId} {args : Array Value} {below : List Frame} {meth : Method} {c : Code} {D : va_G} {cA : Nat → ClassId} {o : Nat}  {Φ : Int32 → Mm → Prop} (C : Cx p m meth c s args cX8_tellPinch 3 wsX8_tellPinch RX8 (some .int) D (tysL cA)) : ∀ (k0 : Nat) (a1 : Int32) (u0 : Mm), kd k0 = 8 → ∀ (H : Heap) (locs : List Loc) (ls : Array Slot), Hp 747 o D (EC cA o u0) s H locs → lv_has ls 3 [(0, .ref (o + k0)), (1, .int a1)] → w_X8_tellPinch k0 a1 u0 Φ → W p l e rm_X8_tellPinch s m args below meth c H locs 0 0 (MQ below (Qg vI Φ (fun μ => Wd 747 o D (tysL cA) (EC cA o μ)) (aA o 747)) args s 0 0 (aA o 747)) (F0 m 0 ls []) := by
  intro k0 a1 u0 hk0 H locs ls P hl h
  have hx := C.1.1
  have hb := C.1.2.1
  unfold w_X8_tellPinch at h
  refine lv_aload_n hx hb dX8_tellPinch_0 rfl (lv_at hl 0 rfl) ?_
  refine lv_iload_n hx hb dX8_tellPinch_1 rfl (lv_at hl 1 rfl) ?_
  refine r_calln (F := EC cA o) (va_runV (As := [.int a1]) (rest := []) C.1 (c_X8_gateAt l D cA o _ _ hk0 u0 _ h) (cwV 1 C.1.2.2.2.2 gX8_tellPinch_X8_gateAt rfl rfl rfl (by decide +kernel) ⟨Nat.le_of_ble_eq_true rfl, Nat.le_of_ble_eq_true rfl⟩) (r_preV C P [.int a1] (ci := 8) rfl (kd_lt hk0 (by decide)) (EK_8 hk0)) rfl rfl hl.1 rfl (lv_room (Nat.le_of_ble_eq_true rfl)) dX8_tellPinch_2 ⟨Nat.le_of_ble_eq_true rfl, Nat.le_of_ble_eq_true rfl⟩) P.2 (fun r2 u1 H locs h P => ?_)
  obtain ⟨h, hk3⟩ := h
  rcases r2 with _ | r2
  · have h := opt_n h
    refine lv_astore_nN (lv' := [(2, .null), (0, .ref (o + k0)), (1, .int a1)]) hx hb dX8_tellPinch_5 rfl hl (by decide) rfl (fun ls hl => ?_)
    refine lv_aload_nN hx hb dX8_tellPinch_6 rfl (lv_at hl 0 rfl) ?_
    refine lv_ifnonnullN hx hb dX8_tellPinch_7 ?_
    refine lv_iconst (v := -1) hx hb dX8_tellPinch_10 (by decide) ?_
    exact r_ireti C P h dX8_tellPinch_11
  · have h := opt_s h
    have hk3 := hk3 r2 rfl
    refine lv_astore_n (lv' := [(2, .ref (o + r2)), (0, .ref (o + k0)), (1, .int a1)]) hx hb dX8_tellPinch_5 rfl hl (by decide) rfl (fun ls hl => ?_)
    refine lv_aload_n hx hb dX8_tellPinch_6 rfl (lv_at hl 0 rfl) ?_
    refine lv_ifnonnull (tgt := 12) hx hb dX8_tellPinch_7 (by decide) ?_
    refine lv_aload_n hx hb dX8_tellPinch_12 rfl (lv_at hl 0 rfl) ?_
    refine g_1_6 C P in_X8_tellPinch_1 wd_X8_tellPinch_1 hk3 dX8_tellPinch_13 ?_
    refine lv_iconst (v := 5) hx hb dX8_tellPinch_16 (by decide) ?_
    refine lv_icmp_ne (tgt := 23) hx hb dX8_tellPinch_17 (by decide) (fun c4 => ?_) (fun c4 => ?_)
    · have h := ite_f h c4
      refine lv_aload_n hx hb dX8_tellPinch_23 rfl (lv_at hl 0 rfl) ?_
      refine g_1_9 C P in_X8_tellPinch_1 wd_X8_tellPinch_2 hk3 dX8_tellPinch_24 ?_
      refine lv_if_eq (tgt := 33) hx hb dX8_tellPinch_27 (by decide) (fun c5 => ?_) (fun c5 => ?_)
      · have h := ite_t h c5
        refine lv_aload_n hx hb dX8_tellPinch_33 rfl (lv_at hl 0 rfl) ?_
        refine lv_iconst (v := 1) hx hb dX8_tellPinch_34 (by decide) ?_
        refine p_1_9 C P in_X8_tellPinch_1 wd_X8_tellPinch_2 hk3 (Or.inr rfl) dX8_tellPinch_35 (fun u6 eu6 H locs P => ?_)
        have h := h u6 eu6
        refine lv_aload_n hx hb dX8_tellPinch_38 rfl (lv_at hl 0 rfl) ?_
        refine g_1_6 C P in_X8_tellPinch_1 wd_X8_tellPinch_1 hk3 dX8_tellPinch_39 ?_
        refine lv_iconst (v := 3) hx hb dX8_tellPinch_42 (by decide) ?_
        refine lv_icmp_ne (tgt := 50) hx hb dX8_tellPinch_43 (by decide) (fun c7 => ?_) (fun c7 => ?_)
        · have h := ite_f h c7
          refine lv_iconst (v := 0) hx hb dX8_tellPinch_50 (by decide) ?_
          exact r_ireti C P h dX8_tellPinch_51
        · have h := ite_t h c7
          refine lv_iconst (v := 1) hx hb dX8_tellPinch_46 (by decide) ?_
          refine lv_goto (tgt := 51) hx hb dX8_tellPinch_47 (by decide) ?_
          exact r_ireti C P h dX8_tellPinch_51
      · have h := ite_f h c5
        refine lv_bipush (v := -5) hx hb dX8_tellPinch_30 (by decide) ?_
        exact r_ireti C P h dX8_tellPinch_32
    · have h := ite_t h c4
      refine lv_bipush (v := -4) hx hb dX8_tellPinch_20 (by decide) ?_
      exact r_ireti C P h dX8_tellPinch_22
set_option maxHeartbeats 4000000 in
set_option maxRecDepth 100000 in
theorem c_X8_tellPinch (l : Launch) (D : va_G) (cA : Nat → ClassId) (o : Nat) (k0 : Nat) (a1 : Int32) (hk0 : kd k0 = 8) (u0 : Mm) (Φ : Int32 → Mm → Prop) (h : w_X8_tellPinch k0 a1 u0 Φ) : Met l yX8_tellPinch wsX8_tellPinch rm_X8_tellPinch (va_Pc [.ref (o + k0), .int a1] (Wd 747 o D (tysL cA) (EC cA o u0))) (Qg vI Φ (fun μ => Wd 747 o D (tysL cA) (EC cA o μ)) (aA o 747)) 0 0 (aA o 747) := by
  refine Met.ofW (cc := cX8_tellPinch) (maxL := 3) (ret := (some .int)) (by decide) rfl ?_
  intro p e s m args below meth c s₁ B hml hv
  obtain ⟨rfl, hv⟩ := hv
  have hl := lv_entry ([.ref (o + k0), .int a1]) (n := 3) (Nat.le_of_ble_eq_true rfl)
  rw [lg_entry_eq]
  exact t_X8_tellPinch_0 ⟨⟨B.exec, B.bytes, hml, findClass_of_methodNamed B.named, atoms_spec (ws := wsX8_tellPinch) B.pre⟩, B.returns, B.notSynchronized, hv.2⟩ k0 a1 u0 hk0 _ _ _ ⟨hv.1, va_S.rf⟩ hl h
abbrev rm_X8_breakDown : Room := { frames := 2, cells := 0, slots := 0, locals := 47 }
theorem wd_X8_breakDown_1 : Cond.fieldLink RX8 166 "TurnstileBank$Gate" "pinchTold" "Z" ∈ wsX8_breakDown := List.mem_of_getElem? (i := 1) (by decide +kernel)
theorem wd_X8_breakDown_2 : Cond.fieldLink RX8 38 "TurnstileBank$State" "events" "LTurnstileBank$Events;" ∈ wsX8_breakDown := List.mem_of_getElem? (i := 2) (by decide +kernel)
theorem wd_X8_breakDown_3 : Cond.fieldLink RX8 78 "TurnstileBank$State" "time" "I" ∈ wsX8_breakDown := List.mem_of_getElem? (i := 3) (by decide +kernel)
theorem in_X8_breakDown_1 : ∀ w ∈ wsX10, w ∈ wsX8_breakDown := fun w h => List.mem_cons_of_mem _ (List.mem_append_left _ (List.mem_append_left _ (List.mem_append_right _ h)))
theorem in_X8_breakDown_8 : ∀ w ∈ wsX80, w ∈ wsX8_breakDown := fun w h => List.mem_cons_of_mem _ (List.mem_append_left _ (List.mem_append_right _ h))
def w_X8_breakDown (k0 : Nat) (a1 : Int32) (k2 : Nat) (u0 : Mm) (Φ : Unit → Mm → Prop) : Prop := (w_X1_turnTo k2 ((5 : Int32)) ((0 : Int32)) u0 (fun _ u1 => (∀ u3 : Mm, u3 = up2 u1 k2 9 (0 : Int32) → (w_X0_add ((k0 + 5)) ((u3 k0 9)) a1 ((-5 : Int32)) ((5 : Int32)) u3 (fun _ u4 => (Φ () u4))))))
set_option maxHeartbeats 4000000 in
set_option maxRecDepth 100000 in
theorem t_X8_breakDown_0 {p : Program} {l : Launch} {e : Env} {s : State} {m : MethodId} {args : Array Value} {below : List Frame} {meth : Method} {c : Code} {D : va_G} {cA : Nat → ClassId} {o : Nat}  {Φ : Unit → Mm → Prop} (C : Cx p m meth c s args cX8_breakDown 3 wsX8_breakDown RX8 none D (tysL cA)) : ∀ (k0 : Nat) (a1 : Int32) (k2 : Nat) (u0 : Mm), kd k0 = 8 → kd k2 = 1 → ∀ (H : Heap) (locs : List Loc) (ls : Array Slot), Hp 747 o D (EC cA o u0) s H locs → lv_has ls 3 [(0, .ref (o + k0)), (1, .int a1), (2, .ref (o + k2))] → w_X8_breakDown k0 a1 k2 u0 Φ → W p l e rm_X8_breakDown s m args below meth c H locs 0 0 (MQ below (Qg vV Φ (fun μ => Wd 747 o D (tysL cA) (EC cA o μ)) (aA o 747)) args s 0 0 (aA o 747)) (F0 m 0 ls []) := by
  intro k0 a1 k2 u0 hk0 hk2 H locs ls P hl h
  have hx := C.1.1
  have hb := C.1.2.1
  unfold w_X8_breakDown at h
  refine lv_aload_n hx hb dX8_breakDown_0 rfl (lv_at hl 2 rfl) ?_
  refine lv_iconst (v := 5) hx hb dX8_breakDown_1 (by decide) ?_
  refine lv_iconst (v := 0) hx hb dX8_breakDown_2 (by decide) ?_
  refine r_callv (F := EC cA o) (va_runV (As := [.int (5 : Int32), .int (0 : Int32)]) (rest := []) C.1 (c_X1_turnTo l D cA o _ _ _ hk2 u0 _ h) (cwV 2 C.1.2.2.2.2 gX8_breakDown_X1_turnTo rfl rfl rfl (by decide +kernel) ⟨Nat.le_of_ble_eq_true rfl, Nat.le_of_ble_eq_true rfl⟩) (r_preV C P [.int (5 : Int32), .int (0 : Int32)] (ci := 1) rfl (kd_lt hk2 (by decide)) (EK_1 hk2)) rfl rfl hl.1 rfl (lv_room (Nat.le_of_ble_eq_true rfl)) dX8_breakDown_3 ⟨Nat.le_of_ble_eq_true rfl, Nat.le_of_ble_eq_true rfl⟩) P.2 (fun u1 H locs h P => ?_)
  refine lv_aload_n hx hb dX8_breakDown_6 rfl (lv_at hl 2 rfl) ?_
  refine lv_iconst (v := 0) hx hb dX8_breakDown_7 (by decide) ?_
  refine p_1_9 C P in_X8_breakDown_1 wd_X8_breakDown_1 hk2 (Or.inl rfl) dX8_breakDown_8 (fun u3 eu3 H locs P => ?_)
  have h := h u3 eu3
  refine lv_aload_n hx hb dX8_breakDown_11 rfl (lv_at hl 0 rfl) ?_
  refine g_8_4 C P in_X8_breakDown_8 wd_X8_breakDown_2 hk0 dX8_breakDown_12 ?_
  refine lv_aload_n hx hb dX8_breakDown_15 rfl (lv_at hl 0 rfl) ?_
  refine g_8_9 C P in_X8_breakDown_8 wd_X8_breakDown_3 hk0 dX8_breakDown_16 ?_
  refine lv_iload_n hx hb dX8_breakDown_19 rfl (lv_at hl 1 rfl) ?_
  refine lv_bipush (v := -5) hx hb dX8_breakDown_20 (by decide) ?_
  refine lv_iconst (v := 5) hx hb dX8_breakDown_22 (by decide) ?_
  refine r_callv (F := EC cA o) (va_runV (As := [.int (u3 k0 9), .int a1, .int (-5 : Int32), .int (5 : Int32)]) (rest := []) C.1 (c_X0_add l D cA o _ _ _ _ _ (kd_8_5 hk0) u3 _ h) (cwV 4 C.1.2.2.2.2 gX8_breakDown_X0_add rfl rfl rfl (by decide +kernel) ⟨Nat.le_of_ble_eq_true rfl, Nat.le_of_ble_eq_true rfl⟩) (r_preV C P [.int (u3 k0 9), .int a1, .int (-5 : Int32), .int (5 : Int32)] (ci := 0) rfl (kd_lt (kd_8_5 hk0) (by decide)) (EK_0 (kd_8_5 hk0))) rfl rfl hl.1 rfl (lv_room (Nat.le_of_ble_eq_true rfl)) dX8_breakDown_23 ⟨Nat.le_of_ble_eq_true rfl, Nat.le_of_ble_eq_true rfl⟩) P.2 (fun u4 H locs h P => ?_)
  exact r_ret C P h dX8_breakDown_26
set_option maxHeartbeats 4000000 in
set_option maxRecDepth 100000 in
theorem c_X8_breakDown (l : Launch) (D : va_G) (cA : Nat → ClassId) (o : Nat) (k0 : Nat) (a1 : Int32) (k2 : Nat) (hk0 : kd k0 = 8) (hk2 : kd k2 = 1) (u0 : Mm) (Φ : Unit → Mm → Prop) (h : w_X8_breakDown k0 a1 k2 u0 Φ) : Met l yX8_breakDown wsX8_breakDown rm_X8_breakDown (va_Pc [.ref (o + k0), .int a1, .ref (o + k2)] (Wd 747 o D (tysL cA) (EC cA o u0))) (Qg vV Φ (fun μ => Wd 747 o D (tysL cA) (EC cA o μ)) (aA o 747)) 0 0 (aA o 747) := by
  refine Met.ofW (cc := cX8_breakDown) (maxL := 3) (ret := none) (by decide) rfl ?_
  intro p e s m args below meth c s₁ B hml hv
  obtain ⟨rfl, hv⟩ := hv
  have hl := lv_entry ([.ref (o + k0), .int a1, .ref (o + k2)]) (n := 3) (Nat.le_of_ble_eq_true rfl)
  rw [lg_entry_eq]
  exact t_X8_breakDown_0 ⟨⟨B.exec, B.bytes, hml, findClass_of_methodNamed B.named, atoms_spec (ws := wsX8_breakDown) B.pre⟩, B.returns, B.notSynchronized, hv.2⟩ k0 a1 k2 u0 hk0 hk2 _ _ _ ⟨hv.1, va_S.rf⟩ hl h
abbrev rm_X8_freePass : Room := { frames := 1, cells := 0, slots := 0, locals := 21 }
theorem wd_X8_freePass_1 : Cond.fieldLink RX8 239 "TurnstileBank$Pass" "user" "I" ∈ wsX8_freePass := List.mem_of_getElem? (i := 1) (by decide +kernel)
theorem wd_X8_freePass_2 : Cond.fieldLink RX8 242 "TurnstileBank$Pass" "pool" "I" ∈ wsX8_freePass := List.mem_of_getElem? (i := 2) (by decide +kernel)
theorem wd_X8_freePass_3 : Cond.fieldLink RX8 245 "TurnstileBank$Pool" "inside" "I" ∈ wsX8_freePass := List.mem_of_getElem? (i := 3) (by decide +kernel)
theorem in_X8_freePass_4 : ∀ w ∈ wsX40, w ∈ wsX8_freePass := fun w h => List.mem_cons_of_mem _ (List.mem_append_left _ (List.mem_append_left _ (List.mem_append_right _ h)))
theorem in_X8_freePass_6 : ∀ w ∈ wsX60, w ∈ wsX8_freePass := fun w h => List.mem_cons_of_mem _ (List.mem_append_left _ (List.mem_append_right _ h))
def w_X8_freePass (k0 : Nat) (b1 : Option Nat) (u0 : Mm) (Φ : Unit → Mm → Prop) : Prop := opt b1 (Φ () u0) (fun k1 => (∀ u1 : Mm, u1 = up2 u0 k1 2 (-5 : Int32) → (w_X8_poolAt k0 ((u1 k1 0)) u1 (fun r3 u2 => opt r3 (Φ () u2) (fun r3 => (∀ u5 : Mm, u5 = up2 u2 r3 2 ((u2 r3 2) - (1 : Int32)) → (Φ () u5)))))))
set_option maxHeartbeats 4000000 in
set_option maxRecDepth 100000 in
theorem t_X8_freePass_0 {p : Program} {l : Launch} {e : Env} {s : State} {m : MethodId} {args : Array Value} {below : List Frame} {meth : Method} {c : Code} {D : va_G} {cA : Nat → ClassId} {o : Nat}  {Φ : Unit → Mm → Prop} (C : Cx p m meth c s args cX8_freePass 3 wsX8_freePass RX8 none D (tysL cA)) : ∀ (k0 : Nat) (b1 : Option Nat) (u0 : Mm), kd k0 = 8 → (∀ k, b1 = some k → kd k = 4) → ∀ (H : Heap) (locs : List Loc) (ls : Array Slot), Hp 747 o D (EC cA o u0) s H locs → lv_has ls 3 [(0, .ref (o + k0)), (1, rfo o b1)] → w_X8_freePass k0 b1 u0 Φ → W p l e rm_X8_freePass s m args below meth c H locs 0 0 (MQ below (Qg vV Φ (fun μ => Wd 747 o D (tysL cA) (EC cA o μ)) (aA o 747)) args s 0 0 (aA o 747)) (F0 m 0 ls []) := by
  intro k0 b1 u0 hk0 hb1 H locs ls P hl h
  have hx := C.1.1
  have hb := C.1.2.1
  unfold w_X8_freePass at h
  rcases b1 with _ | k1
  · have h := opt_n h
    refine lv_aload_nN hx hb dX8_freePass_0 rfl (lv_at hl 1 rfl) ?_
    refine lv_ifnonnullN hx hb dX8_freePass_1 ?_
    exact r_ret C P h dX8_freePass_4
  · have h := opt_s h
    have hk1 := hb1 k1 rfl
    refine lv_aload_n hx hb dX8_freePass_0 rfl (lv_at hl 1 rfl) ?_
    refine lv_ifnonnull (tgt := 5) hx hb dX8_freePass_1 (by decide) ?_
    refine lv_aload_n hx hb dX8_freePass_5 rfl (lv_at hl 1 rfl) ?_
    refine lv_bipush (v := -5) hx hb dX8_freePass_6 (by decide) ?_
    refine p_4_2 C P in_X8_freePass_4 wd_X8_freePass_1 hk1 dX8_freePass_8 (fun u1 eu1 H locs P => ?_)
    have h := h u1 eu1
    refine lv_aload_n hx hb dX8_freePass_11 rfl (lv_at hl 0 rfl) ?_
    refine lv_aload_n hx hb dX8_freePass_12 rfl (lv_at hl 1 rfl) ?_
    refine g_4_0 C P in_X8_freePass_4 wd_X8_freePass_2 hk1 dX8_freePass_13 ?_
    refine r_calln (F := EC cA o) (va_runV (As := [.int (u1 k1 0)]) (rest := []) C.1 (c_X8_poolAt l D cA o _ _ hk0 u1 _ h) (cwV 1 C.1.2.2.2.2 gX8_freePass_X8_poolAt rfl rfl rfl (by decide +kernel) ⟨Nat.le_of_ble_eq_true rfl, Nat.le_of_ble_eq_true rfl⟩) (r_preV C P [.int (u1 k1 0)] (ci := 8) rfl (kd_lt hk0 (by decide)) (EK_8 hk0)) rfl rfl hl.1 rfl (lv_room (Nat.le_of_ble_eq_true rfl)) dX8_freePass_16 ⟨Nat.le_of_ble_eq_true rfl, Nat.le_of_ble_eq_true rfl⟩) P.2 (fun r3 u2 H locs h P => ?_)
    obtain ⟨h, hk4⟩ := h
    rcases r3 with _ | r3
    · have h := opt_n h
      refine lv_astore_nN (lv' := [(2, .null), (0, .ref (o + k0)), (1, .ref (o + k1))]) hx hb dX8_freePass_19 rfl hl (by decide) rfl (fun ls hl => ?_)
      refine lv_aload_nN hx hb dX8_freePass_20 rfl (lv_at hl 0 rfl) ?_
      refine lv_ifnullN (tgt := 34) hx hb dX8_freePass_21 (by decide) ?_
      exact r_ret C P h dX8_freePass_34
    · have h := opt_s h
      have hk4 := hk4 r3 rfl
      refine lv_astore_n (lv' := [(2, .ref (o + r3)), (0, .ref (o + k0)), (1, .ref (o + k1))]) hx hb dX8_freePass_19 rfl hl (by decide) rfl (fun ls hl => ?_)
      refine lv_aload_n hx hb dX8_freePass_20 rfl (lv_at hl 0 rfl) ?_
      refine lv_ifnull hx hb dX8_freePass_21 ?_
      refine lv_aload_n hx hb dX8_freePass_24 rfl (lv_at hl 0 rfl) ?_
      refine lv_dup hx hb dX8_freePass_25 rfl ?_
      refine g_6_2 C P in_X8_freePass_6 wd_X8_freePass_3 hk4 dX8_freePass_26 ?_
      refine lv_iconst (v := 1) hx hb dX8_freePass_29 (by decide) ?_
      refine lv_isub hx hb dX8_freePass_30 ?_
      refine p_6_2 C P in_X8_freePass_6 wd_X8_freePass_3 hk4 dX8_freePass_31 (fun u5 eu5 H locs P => ?_)
      have h := h u5 eu5
      exact r_ret C P h dX8_freePass_34
set_option maxHeartbeats 4000000 in
set_option maxRecDepth 100000 in
theorem c_X8_freePass (l : Launch) (D : va_G) (cA : Nat → ClassId) (o : Nat) (k0 : Nat) (b1 : Option Nat) (hk0 : kd k0 = 8) (hb1 : ∀ k, b1 = some k → kd k = 4) (u0 : Mm) (Φ : Unit → Mm → Prop) (h : w_X8_freePass k0 b1 u0 Φ) : Met l yX8_freePass wsX8_freePass rm_X8_freePass (va_Pc [.ref (o + k0), rfo o b1] (Wd 747 o D (tysL cA) (EC cA o u0))) (Qg vV Φ (fun μ => Wd 747 o D (tysL cA) (EC cA o μ)) (aA o 747)) 0 0 (aA o 747) := by
  refine Met.ofW (cc := cX8_freePass) (maxL := 3) (ret := none) (by decide) rfl ?_
  intro p e s m args below meth c s₁ B hml hv
  obtain ⟨rfl, hv⟩ := hv
  rcases b1 with _ | b1
  · skip
    have hl := lv_entry ([.ref (o + k0), .null]) (n := 3) (Nat.le_of_ble_eq_true rfl)
    rw [lg_entry_eq]
    exact t_X8_freePass_0 ⟨⟨B.exec, B.bytes, hml, findClass_of_methodNamed B.named, atoms_spec (ws := wsX8_freePass) B.pre⟩, B.returns, B.notSynchronized, hv.2⟩ k0 none u0 hk0 hb1 _ _ _ ⟨hv.1, va_S.rf⟩ hl h
  · skip
    have hl := lv_entry ([.ref (o + k0), .ref (o + b1)]) (n := 3) (Nat.le_of_ble_eq_true rfl)
    rw [lg_entry_eq]
    exact t_X8_freePass_0 ⟨⟨B.exec, B.bytes, hml, findClass_of_methodNamed B.named, atoms_spec (ws := wsX8_freePass) B.pre⟩, B.returns, B.notSynchronized, hv.2⟩ k0 (some b1) u0 hk0 hb1 _ _ _ ⟨hv.1, va_S.rf⟩ hl h
abbrev rm_X8_letThrough : Room := { frames := 2, cells := 0, slots := 0, locals := 47 }
theorem wd_X8_letThrough_1 : Cond.fieldLink RX8 169 "TurnstileBank$Gate" "person" "I" ∈ wsX8_letThrough := List.mem_of_getElem? (i := 1) (by decide +kernel)
theorem wd_X8_letThrough_2 : Cond.fieldLink RX8 160 "TurnstileBank$Person" "gate" "I" ∈ wsX8_letThrough := List.mem_of_getElem? (i := 2) (by decide +kernel)
theorem wd_X8_letThrough_3 : Cond.fieldLink RX8 224 "TurnstileBank$Person" "wantsOut" "Z" ∈ wsX8_letThrough := List.mem_of_getElem? (i := 3) (by decide +kernel)
theorem wd_X8_letThrough_4 : Cond.fieldLink RX8 227 "TurnstileBank$Gate" "passedOut" "I" ∈ wsX8_letThrough := List.mem_of_getElem? (i := 4) (by decide +kernel)
theorem wd_X8_letThrough_5 : Cond.fieldLink RX8 139 "TurnstileBank$Person" "where" "I" ∈ wsX8_letThrough := List.mem_of_getElem? (i := 5) (by decide +kernel)
theorem wd_X8_letThrough_6 : Cond.fieldLink RX8 230 "TurnstileBank$Person" "pass" "I" ∈ wsX8_letThrough := List.mem_of_getElem? (i := 6) (by decide +kernel)
theorem wd_X8_letThrough_7 : Cond.fieldLink RX8 38 "TurnstileBank$State" "events" "LTurnstileBank$Events;" ∈ wsX8_letThrough := List.mem_of_getElem? (i := 7) (by decide +kernel)
theorem wd_X8_letThrough_8 : Cond.fieldLink RX8 78 "TurnstileBank$State" "time" "I" ∈ wsX8_letThrough := List.mem_of_getElem? (i := 8) (by decide +kernel)
theorem wd_X8_letThrough_9 : Cond.fieldLink RX8 236 "TurnstileBank$Gate" "passedIn" "I" ∈ wsX8_letThrough := List.mem_of_getElem? (i := 9) (by decide +kernel)
theorem in_X8_letThrough_1 : ∀ w ∈ wsX10, w ∈ wsX8_letThrough := fun w h => List.mem_cons_of_mem _ (List.mem_append_left _ (List.mem_append_left _ (List.mem_append_left _ (List.mem_append_left _ (List.mem_append_left _ (List.mem_append_right _ h))))))
theorem in_X8_letThrough_5 : ∀ w ∈ wsX50, w ∈ wsX8_letThrough := fun w h => List.mem_cons_of_mem _ (List.mem_append_left _ (List.mem_append_left _ (List.mem_append_left _ (List.mem_append_left _ (List.mem_append_right _ h)))))
theorem in_X8_letThrough_8 : ∀ w ∈ wsX80, w ∈ wsX8_letThrough := fun w h => List.mem_cons_of_mem _ (List.mem_append_left _ (List.mem_append_left _ (List.mem_append_left _ (List.mem_append_right _ h))))
def w_X8_letThrough (k0 : Nat) (a1 : Int32) (k2 : Nat) (u0 : Mm) (Φ : Int32 → Mm → Prop) : Prop := (w_X8_personAt k0 ((u0 k2 8)) u0 (fun r2 u1 => opt r2 (Φ ((0 : Int32)) u1) (fun r2 => (∀ u4 : Mm, u4 = up2 u1 k2 8 (-5 : Int32) → (∀ u5 : Mm, u5 = up2 u4 r2 3 (-5 : Int32) → (if (u5 r2 6) = 0 then (∀ u7 : Mm, u7 = up2 u5 k2 11 ((u5 k2 11) + (1 : Int32)) → (∀ u8 : Mm, u8 = up2 u7 r2 2 (3 : Int32) → (w_X0_add ((k0 + 5)) ((u8 k0 9)) a1 ((u0 k2 8)) ((2 : Int32)) u8 (fun _ u9 => (Φ ((1 : Int32)) u9))))) else (∀ u11 : Mm, u11 = up2 u5 k2 12 ((u5 k2 12) + (1 : Int32)) → (∀ u12 : Mm, u12 = up2 u11 r2 2 (5 : Int32) → (w_X8_passAt k0 ((u12 r2 0)) u12 (fun r14 u13 => opt r14 (w_X8_freePass k0 none u13 (fun _ u16 => (w_X0_add ((k0 + 5)) ((u16 k0 9)) a1 ((u0 k2 8)) ((3 : Int32)) u16 (fun _ u18 => (Φ ((1 : Int32)) u18))))) (fun r14 => (w_X8_freePass k0 (some r14) u13 (fun _ u20 => (w_X0_add ((k0 + 5)) ((u20 k0 9)) a1 ((u0 k2 8)) ((3 : Int32)) u20 (fun _ u22 => (Φ ((1 : Int32)) u22))))))))))))))))
set_option maxHeartbeats 4000000 in
set_option maxRecDepth 100000 in
theorem t_X8_letThrough_0 {p : Program} {l : Launch} {e : Env} {s : State} {m : MethodId} {args : Array Value} {below : List Frame} {meth : Method} {c : Code} {D : va_G} {cA : Nat → ClassId} {o : Nat}  {Φ : Int32 → Mm → Prop} (C : Cx p m meth c s args cX8_letThrough 5 wsX8_letThrough RX8 (some .int) D (tysL cA)) : ∀ (k0 : Nat) (a1 : Int32) (k2 : Nat) (u0 : Mm), kd k0 = 8 → kd k2 = 1 → ∀ (H : Heap) (locs : List Loc) (ls : Array Slot), Hp 747 o D (EC cA o u0) s H locs → lv_has ls 5 [(0, .ref (o + k0)), (1, .int a1), (2, .ref (o + k2))] → w_X8_letThrough k0 a1 k2 u0 Φ → W p l e rm_X8_letThrough s m args below meth c H locs 0 0 (MQ below (Qg vI Φ (fun μ => Wd 747 o D (tysL cA) (EC cA o μ)) (aA o 747)) args s 0 0 (aA o 747)) (F0 m 0 ls []) := by
  intro k0 a1 k2 u0 hk0 hk2 H locs ls P hl h
  have hx := C.1.1
  have hb := C.1.2.1
  unfold w_X8_letThrough at h
  refine lv_aload_n hx hb dX8_letThrough_0 rfl (lv_at hl 2 rfl) ?_
  refine g_1_8 C P in_X8_letThrough_1 wd_X8_letThrough_1 hk2 dX8_letThrough_1 ?_
  refine lv_istore_n (lv' := [(3, .int (u0 k2 8)), (0, .ref (o + k0)), (1, .int a1), (2, .ref (o + k2))]) hx hb dX8_letThrough_4 rfl hl (by decide) rfl (fun ls hl => ?_)
  refine lv_aload_n hx hb dX8_letThrough_5 rfl (lv_at hl 1 rfl) ?_
  refine lv_iload_n hx hb dX8_letThrough_6 rfl (lv_at hl 0 rfl) ?_
  refine r_calln (F := EC cA o) (va_runV (As := [.int (u0 k2 8)]) (rest := []) C.1 (c_X8_personAt l D cA o _ _ hk0 u0 _ h) (cwV 1 C.1.2.2.2.2 gX8_letThrough_X8_personAt rfl rfl rfl (by decide +kernel) ⟨Nat.le_of_ble_eq_true rfl, Nat.le_of_ble_eq_true rfl⟩) (r_preV C P [.int (u0 k2 8)] (ci := 8) rfl (kd_lt hk0 (by decide)) (EK_8 hk0)) rfl rfl hl.1 rfl (lv_room (Nat.le_of_ble_eq_true rfl)) dX8_letThrough_7 ⟨Nat.le_of_ble_eq_true rfl, Nat.le_of_ble_eq_true rfl⟩) P.2 (fun r2 u1 H locs h P => ?_)
  obtain ⟨h, hk3⟩ := h
  rcases r2 with _ | r2
  · have h := opt_n h
    refine lv_astoreN (lv' := [(4, .null), (3, .int (u0 k2 8)), (0, .ref (o + k0)), (1, .int a1), (2, .ref (o + k2))]) hx hb dX8_letThrough_10 hl (by decide) rfl (fun ls hl => ?_)
    refine lv_aloadN hx hb dX8_letThrough_12 (lv_at hl 0 rfl) ?_
    refine lv_ifnonnullN hx hb dX8_letThrough_14 ?_
    refine lv_iconst (v := 0) hx hb dX8_letThrough_17 (by decide) ?_
    exact r_ireti C P h dX8_letThrough_18
  · have h := opt_s h
    have hk3 := hk3 r2 rfl
    refine lv_astore (lv' := [(4, .ref (o + r2)), (3, .int (u0 k2 8)), (0, .ref (o + k0)), (1, .int a1), (2, .ref (o + k2))]) hx hb dX8_letThrough_10 hl (by decide) rfl (fun ls hl => ?_)
    refine lv_aload hx hb dX8_letThrough_12 (lv_at hl 0 rfl) ?_
    refine lv_ifnonnull (tgt := 19) hx hb dX8_letThrough_14 (by decide) ?_
    refine lv_aload_n hx hb dX8_letThrough_19 rfl (lv_at hl 4 rfl) ?_
    refine lv_bipush (v := -5) hx hb dX8_letThrough_20 (by decide) ?_
    refine p_1_8 C P in_X8_letThrough_1 wd_X8_letThrough_1 hk2 dX8_letThrough_22 (fun u4 eu4 H locs P => ?_)
    have h := h u4 eu4
    refine lv_aload hx hb dX8_letThrough_25 (lv_at hl 0 rfl) ?_
    refine lv_bipush (v := -5) hx hb dX8_letThrough_27 (by decide) ?_
    refine p_5_3 C P in_X8_letThrough_5 wd_X8_letThrough_2 hk3 dX8_letThrough_29 (fun u5 eu5 H locs P => ?_)
    have h := h u5 eu5
    refine lv_aload hx hb dX8_letThrough_32 (lv_at hl 0 rfl) ?_
    refine g_5_6 C P in_X8_letThrough_5 wd_X8_letThrough_3 hk3 dX8_letThrough_34 ?_
    refine lv_if_eq (tgt := 86) hx hb dX8_letThrough_37 (by decide) (fun c6 => ?_) (fun c6 => ?_)
    · have h := ite_t h c6
      refine lv_aload_n hx hb dX8_letThrough_86 rfl (lv_at hl 4 rfl) ?_
      refine lv_dup hx hb dX8_letThrough_87 rfl ?_
      refine g_1_11 C P in_X8_letThrough_1 wd_X8_letThrough_9 hk2 dX8_letThrough_88 ?_
      refine lv_iconst (v := 1) hx hb dX8_letThrough_91 (by decide) ?_
      refine lv_iadd hx hb dX8_letThrough_92 ?_
      refine p_1_11 C P in_X8_letThrough_1 wd_X8_letThrough_9 hk2 dX8_letThrough_93 (fun u7 eu7 H locs P => ?_)
      have h := h u7 eu7
      refine lv_aload hx hb dX8_letThrough_96 (lv_at hl 0 rfl) ?_
      refine lv_iconst (v := 3) hx hb dX8_letThrough_98 (by decide) ?_
      refine p_5_2 C P in_X8_letThrough_5 wd_X8_letThrough_5 hk3 dX8_letThrough_99 (fun u8 eu8 H locs P => ?_)
      have h := h u8 eu8
      refine lv_aload_n hx hb dX8_letThrough_102 rfl (lv_at hl 2 rfl) ?_
      refine g_8_4 C P in_X8_letThrough_8 wd_X8_letThrough_7 hk0 dX8_letThrough_103 ?_
      refine lv_aload_n hx hb dX8_letThrough_106 rfl (lv_at hl 2 rfl) ?_
      refine g_8_9 C P in_X8_letThrough_8 wd_X8_letThrough_8 hk0 dX8_letThrough_107 ?_
      refine lv_iload_n hx hb dX8_letThrough_110 rfl (lv_at hl 3 rfl) ?_
      refine lv_iload_n hx hb dX8_letThrough_111 rfl (lv_at hl 1 rfl) ?_
      refine lv_iconst (v := 2) hx hb dX8_letThrough_112 (by decide) ?_
      refine r_callv (F := EC cA o) (va_runV (As := [.int (u8 k0 9), .int a1, .int (u0 k2 8), .int (2 : Int32)]) (rest := []) C.1 (c_X0_add l D cA o _ _ _ _ _ (kd_8_5 hk0) u8 _ h) (cwV 4 C.1.2.2.2.2 gX8_letThrough_X0_add rfl rfl rfl (by decide +kernel) ⟨Nat.le_of_ble_eq_true rfl, Nat.le_of_ble_eq_true rfl⟩) (r_preV C P [.int (u8 k0 9), .int a1, .int (u0 k2 8), .int (2 : Int32)] (ci := 0) rfl (kd_lt (kd_8_5 hk0) (by decide)) (EK_0 (kd_8_5 hk0))) rfl rfl hl.1 rfl (lv_room (Nat.le_of_ble_eq_true rfl)) dX8_letThrough_113 ⟨Nat.le_of_ble_eq_true rfl, Nat.le_of_ble_eq_true rfl⟩) P.2 (fun u9 H locs h P => ?_)
      refine lv_iconst (v := 1) hx hb dX8_letThrough_116 (by decide) ?_
      exact r_ireti C P h dX8_letThrough_117
    · have h := ite_f h c6
      refine lv_aload_n hx hb dX8_letThrough_40 rfl (lv_at hl 4 rfl) ?_
      refine lv_dup hx hb dX8_letThrough_41 rfl ?_
      refine g_1_12 C P in_X8_letThrough_1 wd_X8_letThrough_4 hk2 dX8_letThrough_42 ?_
      refine lv_iconst (v := 1) hx hb dX8_letThrough_45 (by decide) ?_
      refine lv_iadd hx hb dX8_letThrough_46 ?_
      refine p_1_12 C P in_X8_letThrough_1 wd_X8_letThrough_4 hk2 dX8_letThrough_47 (fun u11 eu11 H locs P => ?_)
      have h := h u11 eu11
      refine lv_aload hx hb dX8_letThrough_50 (lv_at hl 0 rfl) ?_
      refine lv_iconst (v := 5) hx hb dX8_letThrough_52 (by decide) ?_
      refine p_5_2 C P in_X8_letThrough_5 wd_X8_letThrough_5 hk3 dX8_letThrough_53 (fun u12 eu12 H locs P => ?_)
      have h := h u12 eu12
      refine lv_aload_n hx hb dX8_letThrough_56 rfl (lv_at hl 2 rfl) ?_
      refine lv_aload_n hx hb dX8_letThrough_57 rfl (lv_at hl 2 rfl) ?_
      refine lv_aload hx hb dX8_letThrough_58 (lv_at hl 0 rfl) ?_
      refine g_5_0 C P in_X8_letThrough_5 wd_X8_letThrough_6 hk3 dX8_letThrough_60 ?_
      refine r_calln (F := EC cA o) (va_runV (As := [.int (u12 r2 0)]) (rest := [.ref (o + k0)]) C.1 (c_X8_passAt l D cA o _ _ hk0 u12 _ h) (cwV 1 C.1.2.2.2.2 gX8_letThrough_X8_passAt rfl rfl rfl (by decide +kernel) ⟨Nat.le_of_ble_eq_true rfl, Nat.le_of_ble_eq_true rfl⟩) (r_preV C P [.int (u12 r2 0)] (ci := 8) rfl (kd_lt hk0 (by decide)) (EK_8 hk0)) rfl rfl hl.1 rfl (lv_room (Nat.le_of_ble_eq_true rfl)) dX8_letThrough_63 ⟨Nat.le_of_ble_eq_true rfl, Nat.le_of_ble_eq_true rfl⟩) P.2 (fun r14 u13 H locs h P => ?_)
      obtain ⟨h, hk15⟩ := h
      rcases r14 with _ | r14
      · have h := opt_n h
        refine r_callv (F := EC cA o) (va_runV (As := [.null]) (rest := []) C.1 (c_X8_freePass l D cA o _ _ hk0 (fun _ e => by cases e) u13 _ h) (cwV 1 C.1.2.2.2.2 gX8_letThrough_X8_freePass rfl rfl rfl (by decide +kernel) ⟨Nat.le_of_ble_eq_true rfl, Nat.le_of_ble_eq_true rfl⟩) (r_preV C P [.null] (ci := 8) rfl (kd_lt hk0 (by decide)) (EK_8 hk0)) rfl rfl hl.1 rfl (lv_room (Nat.le_of_ble_eq_true rfl)) dX8_letThrough_66 ⟨Nat.le_of_ble_eq_true rfl, Nat.le_of_ble_eq_true rfl⟩) P.2 (fun u16 H locs h P => ?_)
        refine lv_aload_n hx hb dX8_letThrough_69 rfl (lv_at hl 2 rfl) ?_
        refine g_8_4 C P in_X8_letThrough_8 wd_X8_letThrough_7 hk0 dX8_letThrough_70 ?_
        refine lv_aload_n hx hb dX8_letThrough_73 rfl (lv_at hl 2 rfl) ?_
        refine g_8_9 C P in_X8_letThrough_8 wd_X8_letThrough_8 hk0 dX8_letThrough_74 ?_
        refine lv_iload_n hx hb dX8_letThrough_77 rfl (lv_at hl 3 rfl) ?_
        refine lv_iload_n hx hb dX8_letThrough_78 rfl (lv_at hl 1 rfl) ?_
        refine lv_iconst (v := 3) hx hb dX8_letThrough_79 (by decide) ?_
        refine r_callv (F := EC cA o) (va_runV (As := [.int (u16 k0 9), .int a1, .int (u0 k2 8), .int (3 : Int32)]) (rest := []) C.1 (c_X0_add l D cA o _ _ _ _ _ (kd_8_5 hk0) u16 _ h) (cwV 4 C.1.2.2.2.2 gX8_letThrough_X0_add rfl rfl rfl (by decide +kernel) ⟨Nat.le_of_ble_eq_true rfl, Nat.le_of_ble_eq_true rfl⟩) (r_preV C P [.int (u16 k0 9), .int a1, .int (u0 k2 8), .int (3 : Int32)] (ci := 0) rfl (kd_lt (kd_8_5 hk0) (by decide)) (EK_0 (kd_8_5 hk0))) rfl rfl hl.1 rfl (lv_room (Nat.le_of_ble_eq_true rfl)) dX8_letThrough_80 ⟨Nat.le_of_ble_eq_true rfl, Nat.le_of_ble_eq_true rfl⟩) P.2 (fun u18 H locs h P => ?_)
        refine lv_goto (tgt := 116) hx hb dX8_letThrough_83 (by decide) ?_
        refine lv_iconst (v := 1) hx hb dX8_letThrough_116 (by decide) ?_
        exact r_ireti C P h dX8_letThrough_117
      · have h := opt_s h
        have hk15 := hk15 r14 rfl
        refine r_callv (F := EC cA o) (va_runV (As := [.ref (o + r14)]) (rest := []) C.1 (c_X8_freePass l D cA o _ _ hk0 (fun _ e => by cases e; exact hk15) u13 _ h) (cwV 1 C.1.2.2.2.2 gX8_letThrough_X8_freePass rfl rfl rfl (by decide +kernel) ⟨Nat.le_of_ble_eq_true rfl, Nat.le_of_ble_eq_true rfl⟩) (r_preV C P [.ref (o + r14)] (ci := 8) rfl (kd_lt hk0 (by decide)) (EK_8 hk0)) rfl rfl hl.1 rfl (lv_room (Nat.le_of_ble_eq_true rfl)) dX8_letThrough_66 ⟨Nat.le_of_ble_eq_true rfl, Nat.le_of_ble_eq_true rfl⟩) P.2 (fun u20 H locs h P => ?_)
        refine lv_aload_n hx hb dX8_letThrough_69 rfl (lv_at hl 2 rfl) ?_
        refine g_8_4 C P in_X8_letThrough_8 wd_X8_letThrough_7 hk0 dX8_letThrough_70 ?_
        refine lv_aload_n hx hb dX8_letThrough_73 rfl (lv_at hl 2 rfl) ?_
        refine g_8_9 C P in_X8_letThrough_8 wd_X8_letThrough_8 hk0 dX8_letThrough_74 ?_
        refine lv_iload_n hx hb dX8_letThrough_77 rfl (lv_at hl 3 rfl) ?_
        refine lv_iload_n hx hb dX8_letThrough_78 rfl (lv_at hl 1 rfl) ?_
        refine lv_iconst (v := 3) hx hb dX8_letThrough_79 (by decide) ?_
        refine r_callv (F := EC cA o) (va_runV (As := [.int (u20 k0 9), .int a1, .int (u0 k2 8), .int (3 : Int32)]) (rest := []) C.1 (c_X0_add l D cA o _ _ _ _ _ (kd_8_5 hk0) u20 _ h) (cwV 4 C.1.2.2.2.2 gX8_letThrough_X0_add rfl rfl rfl (by decide +kernel) ⟨Nat.le_of_ble_eq_true rfl, Nat.le_of_ble_eq_true rfl⟩) (r_preV C P [.int (u20 k0 9), .int a1, .int (u0 k2 8), .int (3 : Int32)] (ci := 0) rfl (kd_lt (kd_8_5 hk0) (by decide)) (EK_0 (kd_8_5 hk0))) rfl rfl hl.1 rfl (lv_room (Nat.le_of_ble_eq_true rfl)) dX8_letThrough_80 ⟨Nat.le_of_ble_eq_true rfl, Nat.le_of_ble_eq_true rfl⟩) P.2 (fun u22 H locs h P => ?_)
        refine lv_goto (tgt := 116) hx hb dX8_letThrough_83 (by decide) ?_
        refine lv_iconst (v := 1) hx hb dX8_letThrough_116 (by decide) ?_
        exact r_ireti C P h dX8_letThrough_117
set_option maxHeartbeats 4000000 in
set_option maxRecDepth 100000 in
theorem c_X8_letThrough (l : Launch) (D : va_G) (cA : Nat → ClassId) (o : Nat) (k0 : Nat) (a1 : Int32) (k2 : Nat) (hk0 : kd k0 = 8) (hk2 : kd k2 = 1) (u0 : Mm) (Φ : Int32 → Mm → Prop) (h : w_X8_letThrough k0 a1 k2 u0 Φ) : Met l yX8_letThrough wsX8_letThrough rm_X8_letThrough (va_Pc [.ref (o + k0), .int a1, .ref (o + k2)] (Wd 747 o D (tysL cA) (EC cA o u0))) (Qg vI Φ (fun μ => Wd 747 o D (tysL cA) (EC cA o μ)) (aA o 747)) 0 0 (aA o 747) := by
  refine Met.ofW (cc := cX8_letThrough) (maxL := 5) (ret := (some .int)) (by decide) rfl ?_
  intro p e s m args below meth c s₁ B hml hv
  obtain ⟨rfl, hv⟩ := hv
  have hl := lv_entry ([.ref (o + k0), .int a1, .ref (o + k2)]) (n := 5) (Nat.le_of_ble_eq_true rfl)
  rw [lg_entry_eq]
  exact t_X8_letThrough_0 ⟨⟨B.exec, B.bytes, hml, findClass_of_methodNamed B.named, atoms_spec (ws := wsX8_letThrough) B.pre⟩, B.returns, B.notSynchronized, hv.2⟩ k0 a1 k2 u0 hk0 hk2 _ _ _ ⟨hv.1, va_S.rf⟩ hl h
abbrev rm_X8_putOutOfOrder : Room := { frames := 3, cells := 0, slots := 0, locals := 71 }
theorem wd_X8_putOutOfOrder_1 : Cond.fieldLink RX8 163 "TurnstileBank$Gate" "state" "I" ∈ wsX8_putOutOfOrder := List.mem_of_getElem? (i := 1) (by decide +kernel)
theorem wd_X8_putOutOfOrder_2 : Cond.fieldLink RX8 169 "TurnstileBank$Gate" "person" "I" ∈ wsX8_putOutOfOrder := List.mem_of_getElem? (i := 2) (by decide +kernel)
theorem in_X8_putOutOfOrder_1 : ∀ w ∈ wsX10, w ∈ wsX8_putOutOfOrder := fun w h => List.mem_cons_of_mem _ (List.mem_append_left _ (List.mem_append_left _ (List.mem_append_left _ (List.mem_append_left _ (List.mem_append_left _ (List.mem_append_right _ h))))))
def w_X8_putOutOfOrder (k0 : Nat) (a1 : Int32) (u0 : Mm) (Φ : Int32 → Mm → Prop) : Prop := (w_X8_gateAt k0 a1 u0 (fun r2 u1 => opt r2 (Φ ((-1 : Int32)) u1) (fun r2 => (if (u1 r2 6) = (5 : Int32) then (Φ ((-4 : Int32)) u1) else (w_X8_breakDown k0 a1 r2 u1 (fun _ u5 => (w_X8_letThrough k0 a1 r2 u5 (fun r8 u7 => (Φ ((u1 r2 8)) u7)))))))))
set_option maxHeartbeats 4000000 in
set_option maxRecDepth 100000 in
theorem t_X8_putOutOfOrder_0 {p : Program} {l : Launch} {e : Env} {s : State} {m : MethodId} {args : Array Value} {below : List Frame} {meth : Method} {c : Code} {D : va_G} {cA : Nat → ClassId} {o : Nat}  {Φ : Int32 → Mm → Prop} (C : Cx p m meth c s args cX8_putOutOfOrder 4 wsX8_putOutOfOrder RX8 (some .int) D (tysL cA)) : ∀ (k0 : Nat) (a1 : Int32) (u0 : Mm), kd k0 = 8 → ∀ (H : Heap) (locs : List Loc) (ls : Array Slot), Hp 747 o D (EC cA o u0) s H locs → lv_has ls 4 [(0, .ref (o + k0)), (1, .int a1)] → w_X8_putOutOfOrder k0 a1 u0 Φ → W p l e rm_X8_putOutOfOrder s m args below meth c H locs 0 0 (MQ below (Qg vI Φ (fun μ => Wd 747 o D (tysL cA) (EC cA o μ)) (aA o 747)) args s 0 0 (aA o 747)) (F0 m 0 ls []) := by
  intro k0 a1 u0 hk0 H locs ls P hl h
  have hx := C.1.1
  have hb := C.1.2.1
  unfold w_X8_putOutOfOrder at h
  refine lv_aload_n hx hb dX8_putOutOfOrder_0 rfl (lv_at hl 0 rfl) ?_
  refine lv_iload_n hx hb dX8_putOutOfOrder_1 rfl (lv_at hl 1 rfl) ?_
  refine r_calln (F := EC cA o) (va_runV (As := [.int a1]) (rest := []) C.1 (c_X8_gateAt l D cA o _ _ hk0 u0 _ h) (cwV 1 C.1.2.2.2.2 gX8_putOutOfOrder_X8_gateAt rfl rfl rfl (by decide +kernel) ⟨Nat.le_of_ble_eq_true rfl, Nat.le_of_ble_eq_true rfl⟩) (r_preV C P [.int a1] (ci := 8) rfl (kd_lt hk0 (by decide)) (EK_8 hk0)) rfl rfl hl.1 rfl (lv_room (Nat.le_of_ble_eq_true rfl)) dX8_putOutOfOrder_2 ⟨Nat.le_of_ble_eq_true rfl, Nat.le_of_ble_eq_true rfl⟩) P.2 (fun r2 u1 H locs h P => ?_)
  obtain ⟨h, hk3⟩ := h
  rcases r2 with _ | r2
  · have h := opt_n h
    refine lv_astore_nN (lv' := [(2, .null), (0, .ref (o + k0)), (1, .int a1)]) hx hb dX8_putOutOfOrder_5 rfl hl (by decide) rfl (fun ls hl => ?_)
    refine lv_aload_nN hx hb dX8_putOutOfOrder_6 rfl (lv_at hl 0 rfl) ?_
    refine lv_ifnonnullN hx hb dX8_putOutOfOrder_7 ?_
    refine lv_iconst (v := -1) hx hb dX8_putOutOfOrder_10 (by decide) ?_
    exact r_ireti C P h dX8_putOutOfOrder_11
  · have h := opt_s h
    have hk3 := hk3 r2 rfl
    refine lv_astore_n (lv' := [(2, .ref (o + r2)), (0, .ref (o + k0)), (1, .int a1)]) hx hb dX8_putOutOfOrder_5 rfl hl (by decide) rfl (fun ls hl => ?_)
    refine lv_aload_n hx hb dX8_putOutOfOrder_6 rfl (lv_at hl 0 rfl) ?_
    refine lv_ifnonnull (tgt := 12) hx hb dX8_putOutOfOrder_7 (by decide) ?_
    refine lv_aload_n hx hb dX8_putOutOfOrder_12 rfl (lv_at hl 0 rfl) ?_
    refine g_1_6 C P in_X8_putOutOfOrder_1 wd_X8_putOutOfOrder_1 hk3 dX8_putOutOfOrder_13 ?_
    refine lv_iconst (v := 5) hx hb dX8_putOutOfOrder_16 (by decide) ?_
    refine lv_icmp_ne (tgt := 23) hx hb dX8_putOutOfOrder_17 (by decide) (fun c4 => ?_) (fun c4 => ?_)
    · have h := ite_f h c4
      refine lv_aload_n hx hb dX8_putOutOfOrder_23 rfl (lv_at hl 0 rfl) ?_
      refine g_1_8 C P in_X8_putOutOfOrder_1 wd_X8_putOutOfOrder_2 hk3 dX8_putOutOfOrder_24 ?_
      refine lv_istore_n (lv' := [(3, .int (u1 r2 8)), (2, .ref (o + r2)), (0, .ref (o + k0)), (1, .int a1)]) hx hb dX8_putOutOfOrder_27 rfl hl (by decide) rfl (fun ls hl => ?_)
      refine lv_aload_n hx hb dX8_putOutOfOrder_28 rfl (lv_at hl 2 rfl) ?_
      refine lv_iload_n hx hb dX8_putOutOfOrder_29 rfl (lv_at hl 3 rfl) ?_
      refine lv_aload_n hx hb dX8_putOutOfOrder_30 rfl (lv_at hl 1 rfl) ?_
      refine r_callv (F := EC cA o) (va_runV (As := [.int a1, .ref (o + r2)]) (rest := []) C.1 (c_X8_breakDown l D cA o _ _ _ hk0 hk3 u1 _ h) (cwV 2 C.1.2.2.2.2 gX8_putOutOfOrder_X8_breakDown rfl rfl rfl (by decide +kernel) ⟨Nat.le_of_ble_eq_true rfl, Nat.le_of_ble_eq_true rfl⟩) (r_preV C P [.int a1, .ref (o + r2)] (ci := 8) rfl (kd_lt hk0 (by decide)) (EK_8 hk0)) rfl rfl hl.1 rfl (lv_room (Nat.le_of_ble_eq_true rfl)) dX8_putOutOfOrder_31 ⟨Nat.le_of_ble_eq_true rfl, Nat.le_of_ble_eq_true rfl⟩) P.2 (fun u5 H locs h P => ?_)
      refine lv_aload_n hx hb dX8_putOutOfOrder_34 rfl (lv_at hl 2 rfl) ?_
      refine lv_iload_n hx hb dX8_putOutOfOrder_35 rfl (lv_at hl 3 rfl) ?_
      refine lv_aload_n hx hb dX8_putOutOfOrder_36 rfl (lv_at hl 1 rfl) ?_
      refine r_calli (F := EC cA o) (va_runV (As := [.int a1, .ref (o + r2)]) (rest := []) C.1 (c_X8_letThrough l D cA o _ _ _ hk0 hk3 u5 _ h) (cwV 2 C.1.2.2.2.2 gX8_putOutOfOrder_X8_letThrough rfl rfl rfl (by decide +kernel) ⟨Nat.le_of_ble_eq_true rfl, Nat.le_of_ble_eq_true rfl⟩) (r_preV C P [.int a1, .ref (o + r2)] (ci := 8) rfl (kd_lt hk0 (by decide)) (EK_8 hk0)) rfl rfl hl.1 rfl (lv_room (Nat.le_of_ble_eq_true rfl)) dX8_putOutOfOrder_37 ⟨Nat.le_of_ble_eq_true rfl, Nat.le_of_ble_eq_true rfl⟩) P.2 (fun r8 u7 H locs h P => ?_)
      refine lv_pop hx hb dX8_putOutOfOrder_40 rfl ?_
      refine lv_iload_n hx hb dX8_putOutOfOrder_41 rfl (lv_at hl 0 rfl) ?_
      exact r_ireti C P h dX8_putOutOfOrder_42
    · have h := ite_t h c4
      refine lv_bipush (v := -4) hx hb dX8_putOutOfOrder_20 (by decide) ?_
      exact r_ireti C P h dX8_putOutOfOrder_22
set_option maxHeartbeats 4000000 in
set_option maxRecDepth 100000 in
theorem c_X8_putOutOfOrder (l : Launch) (D : va_G) (cA : Nat → ClassId) (o : Nat) (k0 : Nat) (a1 : Int32) (hk0 : kd k0 = 8) (u0 : Mm) (Φ : Int32 → Mm → Prop) (h : w_X8_putOutOfOrder k0 a1 u0 Φ) : Met l yX8_putOutOfOrder wsX8_putOutOfOrder rm_X8_putOutOfOrder (va_Pc [.ref (o + k0), .int a1] (Wd 747 o D (tysL cA) (EC cA o u0))) (Qg vI Φ (fun μ => Wd 747 o D (tysL cA) (EC cA o μ)) (aA o 747)) 0 0 (aA o 747) := by
  refine Met.ofW (cc := cX8_putOutOfOrder) (maxL := 4) (ret := (some .int)) (by decide) rfl ?_
  intro p e s m args below meth c s₁ B hml hv
  obtain ⟨rfl, hv⟩ := hv
  have hl := lv_entry ([.ref (o + k0), .int a1]) (n := 4) (Nat.le_of_ble_eq_true rfl)
  rw [lg_entry_eq]
  exact t_X8_putOutOfOrder_0 ⟨⟨B.exec, B.bytes, hml, findClass_of_methodNamed B.named, atoms_spec (ws := wsX8_putOutOfOrder) B.pre⟩, B.returns, B.notSynchronized, hv.2⟩ k0 a1 u0 hk0 _ _ _ ⟨hv.1, va_S.rf⟩ hl h
abbrev rm_X8_putInOrder : Room := { frames := 2, cells := 0, slots := 0, locals := 47 }
theorem wd_X8_putInOrder_1 : Cond.fieldLink RX8 163 "TurnstileBank$Gate" "state" "I" ∈ wsX8_putInOrder := List.mem_of_getElem? (i := 1) (by decide +kernel)
theorem wd_X8_putInOrder_2 : Cond.fieldLink RX8 166 "TurnstileBank$Gate" "pinchTold" "Z" ∈ wsX8_putInOrder := List.mem_of_getElem? (i := 2) (by decide +kernel)
theorem wd_X8_putInOrder_3 : Cond.fieldLink RX8 38 "TurnstileBank$State" "events" "LTurnstileBank$Events;" ∈ wsX8_putInOrder := List.mem_of_getElem? (i := 3) (by decide +kernel)
theorem wd_X8_putInOrder_4 : Cond.fieldLink RX8 78 "TurnstileBank$State" "time" "I" ∈ wsX8_putInOrder := List.mem_of_getElem? (i := 4) (by decide +kernel)
theorem in_X8_putInOrder_1 : ∀ w ∈ wsX10, w ∈ wsX8_putInOrder := fun w h => List.mem_cons_of_mem _ (List.mem_append_left _ (List.mem_append_left _ (List.mem_append_left _ (List.mem_append_right _ h))))
theorem in_X8_putInOrder_8 : ∀ w ∈ wsX80, w ∈ wsX8_putInOrder := fun w h => List.mem_cons_of_mem _ (List.mem_append_left _ (List.mem_append_left _ (List.mem_append_right _ h)))
def w_X8_putInOrder (k0 : Nat) (a1 : Int32) (u0 : Mm) (Φ : Int32 → Mm → Prop) : Prop := (w_X8_gateAt k0 a1 u0 (fun r2 u1 => opt r2 (Φ ((-1 : Int32)) u1) (fun r2 => (if (u1 r2 6) = (5 : Int32) then (w_X1_turnTo r2 ((0 : Int32)) ((0 : Int32)) u1 (fun _ u5 => (∀ u7 : Mm, u7 = up2 u5 r2 9 (0 : Int32) → (w_X0_add ((k0 + 5)) ((u7 k0 9)) a1 ((-5 : Int32)) ((6 : Int32)) u7 (fun _ u8 => (w_X1_queuesTogether r2 u8 (fun r11 u10 => (Φ r11 u10)))))))) else (Φ ((-4 : Int32)) u1)))))
set_option maxHeartbeats 4000000 in
set_option maxRecDepth 100000 in
theorem t_X8_putInOrder_0 {p : Program} {l : Launch} {e : Env} {s : State} {m : MethodId} {args : Array Value} {below : List Frame} {meth : Method} {c : Code} {D : va_G} {cA : Nat → ClassId} {o : Nat}  {Φ : Int32 → Mm → Prop} (C : Cx p m meth c s args cX8_putInOrder 3 wsX8_putInOrder RX8 (some .int) D (tysL cA)) : ∀ (k0 : Nat) (a1 : Int32) (u0 : Mm), kd k0 = 8 → ∀ (H : Heap) (locs : List Loc) (ls : Array Slot), Hp 747 o D (EC cA o u0) s H locs → lv_has ls 3 [(0, .ref (o + k0)), (1, .int a1)] → w_X8_putInOrder k0 a1 u0 Φ → W p l e rm_X8_putInOrder s m args below meth c H locs 0 0 (MQ below (Qg vI Φ (fun μ => Wd 747 o D (tysL cA) (EC cA o μ)) (aA o 747)) args s 0 0 (aA o 747)) (F0 m 0 ls []) := by
  intro k0 a1 u0 hk0 H locs ls P hl h
  have hx := C.1.1
  have hb := C.1.2.1
  unfold w_X8_putInOrder at h
  refine lv_aload_n hx hb dX8_putInOrder_0 rfl (lv_at hl 0 rfl) ?_
  refine lv_iload_n hx hb dX8_putInOrder_1 rfl (lv_at hl 1 rfl) ?_
  refine r_calln (F := EC cA o) (va_runV (As := [.int a1]) (rest := []) C.1 (c_X8_gateAt l D cA o _ _ hk0 u0 _ h) (cwV 1 C.1.2.2.2.2 gX8_putInOrder_X8_gateAt rfl rfl rfl (by decide +kernel) ⟨Nat.le_of_ble_eq_true rfl, Nat.le_of_ble_eq_true rfl⟩) (r_preV C P [.int a1] (ci := 8) rfl (kd_lt hk0 (by decide)) (EK_8 hk0)) rfl rfl hl.1 rfl (lv_room (Nat.le_of_ble_eq_true rfl)) dX8_putInOrder_2 ⟨Nat.le_of_ble_eq_true rfl, Nat.le_of_ble_eq_true rfl⟩) P.2 (fun r2 u1 H locs h P => ?_)
  obtain ⟨h, hk3⟩ := h
  rcases r2 with _ | r2
  · have h := opt_n h
    refine lv_astore_nN (lv' := [(2, .null), (0, .ref (o + k0)), (1, .int a1)]) hx hb dX8_putInOrder_5 rfl hl (by decide) rfl (fun ls hl => ?_)
    refine lv_aload_nN hx hb dX8_putInOrder_6 rfl (lv_at hl 0 rfl) ?_
    refine lv_ifnonnullN hx hb dX8_putInOrder_7 ?_
    refine lv_iconst (v := -1) hx hb dX8_putInOrder_10 (by decide) ?_
    exact r_ireti C P h dX8_putInOrder_11
  · have h := opt_s h
    have hk3 := hk3 r2 rfl
    refine lv_astore_n (lv' := [(2, .ref (o + r2)), (0, .ref (o + k0)), (1, .int a1)]) hx hb dX8_putInOrder_5 rfl hl (by decide) rfl (fun ls hl => ?_)
    refine lv_aload_n hx hb dX8_putInOrder_6 rfl (lv_at hl 0 rfl) ?_
    refine lv_ifnonnull (tgt := 12) hx hb dX8_putInOrder_7 (by decide) ?_
    refine lv_aload_n hx hb dX8_putInOrder_12 rfl (lv_at hl 0 rfl) ?_
    refine g_1_6 C P in_X8_putInOrder_1 wd_X8_putInOrder_1 hk3 dX8_putInOrder_13 ?_
    refine lv_iconst (v := 5) hx hb dX8_putInOrder_16 (by decide) ?_
    refine lv_icmp_eq (tgt := 23) hx hb dX8_putInOrder_17 (by decide) (fun c4 => ?_) (fun c4 => ?_)
    · have h := ite_t h c4
      refine lv_aload_n hx hb dX8_putInOrder_23 rfl (lv_at hl 0 rfl) ?_
      refine lv_iconst (v := 0) hx hb dX8_putInOrder_24 (by decide) ?_
      refine lv_iconst (v := 0) hx hb dX8_putInOrder_25 (by decide) ?_
      refine r_callv (F := EC cA o) (va_runV (As := [.int (0 : Int32), .int (0 : Int32)]) (rest := []) C.1 (c_X1_turnTo l D cA o _ _ _ hk3 u1 _ h) (cwV 2 C.1.2.2.2.2 gX8_putInOrder_X1_turnTo rfl rfl rfl (by decide +kernel) ⟨Nat.le_of_ble_eq_true rfl, Nat.le_of_ble_eq_true rfl⟩) (r_preV C P [.int (0 : Int32), .int (0 : Int32)] (ci := 1) rfl (kd_lt hk3 (by decide)) (EK_1 hk3)) rfl rfl hl.1 rfl (lv_room (Nat.le_of_ble_eq_true rfl)) dX8_putInOrder_26 ⟨Nat.le_of_ble_eq_true rfl, Nat.le_of_ble_eq_true rfl⟩) P.2 (fun u5 H locs h P => ?_)
      refine lv_aload_n hx hb dX8_putInOrder_29 rfl (lv_at hl 0 rfl) ?_
      refine lv_iconst (v := 0) hx hb dX8_putInOrder_30 (by decide) ?_
      refine p_1_9 C P in_X8_putInOrder_1 wd_X8_putInOrder_2 hk3 (Or.inl rfl) dX8_putInOrder_31 (fun u7 eu7 H locs P => ?_)
      have h := h u7 eu7
      refine lv_aload_n hx hb dX8_putInOrder_34 rfl (lv_at hl 1 rfl) ?_
      refine g_8_4 C P in_X8_putInOrder_8 wd_X8_putInOrder_3 hk0 dX8_putInOrder_35 ?_
      refine lv_aload_n hx hb dX8_putInOrder_38 rfl (lv_at hl 1 rfl) ?_
      refine g_8_9 C P in_X8_putInOrder_8 wd_X8_putInOrder_4 hk0 dX8_putInOrder_39 ?_
      refine lv_iload_n hx hb dX8_putInOrder_42 rfl (lv_at hl 2 rfl) ?_
      refine lv_bipush (v := -5) hx hb dX8_putInOrder_43 (by decide) ?_
      refine lv_bipush (v := 6) hx hb dX8_putInOrder_45 (by decide) ?_
      refine r_callv (F := EC cA o) (va_runV (As := [.int (u7 k0 9), .int a1, .int (-5 : Int32), .int (6 : Int32)]) (rest := []) C.1 (c_X0_add l D cA o _ _ _ _ _ (kd_8_5 hk0) u7 _ h) (cwV 4 C.1.2.2.2.2 gX8_putInOrder_X0_add rfl rfl rfl (by decide +kernel) ⟨Nat.le_of_ble_eq_true rfl, Nat.le_of_ble_eq_true rfl⟩) (r_preV C P [.int (u7 k0 9), .int a1, .int (-5 : Int32), .int (6 : Int32)] (ci := 0) rfl (kd_lt (kd_8_5 hk0) (by decide)) (EK_0 (kd_8_5 hk0))) rfl rfl hl.1 rfl (lv_room (Nat.le_of_ble_eq_true rfl)) dX8_putInOrder_47 ⟨Nat.le_of_ble_eq_true rfl, Nat.le_of_ble_eq_true rfl⟩) P.2 (fun u8 H locs h P => ?_)
      refine lv_aload_n hx hb dX8_putInOrder_50 rfl (lv_at hl 0 rfl) ?_
      refine r_calli (F := EC cA o) (va_runV (As := []) (rest := []) C.1 (c_X1_queuesTogether l D cA o _ hk3 u8 _ h) (cwV 0 C.1.2.2.2.2 gX8_putInOrder_X1_queuesTogether rfl rfl rfl (by decide +kernel) ⟨Nat.le_of_ble_eq_true rfl, Nat.le_of_ble_eq_true rfl⟩) (r_preV C P [] (ci := 1) rfl (kd_lt hk3 (by decide)) (EK_1 hk3)) rfl rfl hl.1 rfl (lv_room (Nat.le_of_ble_eq_true rfl)) dX8_putInOrder_51 ⟨Nat.le_of_ble_eq_true rfl, Nat.le_of_ble_eq_true rfl⟩) P.2 (fun r11 u10 H locs h P => ?_)
      exact r_ireti C P h dX8_putInOrder_54
    · have h := ite_f h c4
      refine lv_bipush (v := -4) hx hb dX8_putInOrder_20 (by decide) ?_
      exact r_ireti C P h dX8_putInOrder_22
set_option maxHeartbeats 4000000 in
set_option maxRecDepth 100000 in
theorem c_X8_putInOrder (l : Launch) (D : va_G) (cA : Nat → ClassId) (o : Nat) (k0 : Nat) (a1 : Int32) (hk0 : kd k0 = 8) (u0 : Mm) (Φ : Int32 → Mm → Prop) (h : w_X8_putInOrder k0 a1 u0 Φ) : Met l yX8_putInOrder wsX8_putInOrder rm_X8_putInOrder (va_Pc [.ref (o + k0), .int a1] (Wd 747 o D (tysL cA) (EC cA o u0))) (Qg vI Φ (fun μ => Wd 747 o D (tysL cA) (EC cA o μ)) (aA o 747)) 0 0 (aA o 747) := by
  refine Met.ofW (cc := cX8_putInOrder) (maxL := 3) (ret := (some .int)) (by decide) rfl ?_
  intro p e s m args below meth c s₁ B hml hv
  obtain ⟨rfl, hv⟩ := hv
  have hl := lv_entry ([.ref (o + k0), .int a1]) (n := 3) (Nat.le_of_ble_eq_true rfl)
  rw [lg_entry_eq]
  exact t_X8_putInOrder_0 ⟨⟨B.exec, B.bytes, hml, findClass_of_methodNamed B.named, atoms_spec (ws := wsX8_putInOrder) B.pre⟩, B.returns, B.notSynchronized, hv.2⟩ k0 a1 u0 hk0 _ _ _ ⟨hv.1, va_S.rf⟩ hl h
abbrev rm_X8_nextQueue : Room := { frames := 1, cells := 0, slots := 0, locals := 21 }
theorem wd_X8_nextQueue_1 : Cond.fieldLink RX8 93 "TurnstileBank$Gate" "direction" "I" ∈ wsX8_nextQueue := List.mem_of_getElem? (i := 1) (by decide +kernel)
theorem wd_X8_nextQueue_2 : Cond.fieldLink RX8 126 "TurnstileBank$Gate" "outer" "LTurnstileBank$Queue;" ∈ wsX8_nextQueue := List.mem_of_getElem? (i := 2) (by decide +kernel)
theorem wd_X8_nextQueue_3 : Cond.fieldLink RX8 142 "TurnstileBank$Gate" "inner" "LTurnstileBank$Queue;" ∈ wsX8_nextQueue := List.mem_of_getElem? (i := 3) (by decide +kernel)
theorem wd_X8_nextQueue_4 : Cond.fieldLink RX8 272 "TurnstileBank$Person" "waitingSince" "I" ∈ wsX8_nextQueue := List.mem_of_getElem? (i := 4) (by decide +kernel)
theorem in_X8_nextQueue_1 : ∀ w ∈ wsX10, w ∈ wsX8_nextQueue := fun w h => List.mem_cons_of_mem _ (List.mem_append_left _ (List.mem_append_left _ (List.mem_append_left _ (List.mem_append_right _ h))))
theorem in_X8_nextQueue_5 : ∀ w ∈ wsX50, w ∈ wsX8_nextQueue := fun w h => List.mem_cons_of_mem _ (List.mem_append_left _ (List.mem_append_left _ (List.mem_append_right _ h)))
def w_X8_nextQueue (k0 : Nat) (k1 : Nat) (u0 : Mm) (Φ : Nat → Mm → Prop) : Prop := (if (u0 k1 2) = (1 : Int32) then (Φ ((k1 + 1)) u0) else (if (u0 k1 2) = (2 : Int32) then (Φ ((k1 + 3)) u0) else (w_X7_personAtPlace ((k1 + 1)) ((0 : Int32)) u0 (fun r4 u3 => (w_X8_personAt k0 r4 u3 (fun r6 u5 => opt r6 (w_X7_personAtPlace ((k1 + 3)) ((0 : Int32)) u5 (fun r9 u8 => (w_X8_personAt k0 r9 u8 (fun r11 u10 => opt r11 (Φ ((k1 + 3)) u10) (fun r11 => (Φ ((k1 + 3)) u10)))))) (fun r6 => (w_X7_personAtPlace ((k1 + 3)) ((0 : Int32)) u5 (fun r14 u13 => (w_X8_personAt k0 r14 u13 (fun r16 u15 => opt r16 (Φ ((k1 + 1)) u15) (fun r16 => (if (u15 r16 5) ≤ (u15 r6 5) then (Φ ((k1 + 3)) u15) else (Φ ((k1 + 1)) u15))))))))))))))
set_option maxHeartbeats 4000000 in
set_option maxRecDepth 100000 in
theorem t_X8_nextQueue_0 {p : Program} {l : Launch} {e : Env} {s : State} {m : MethodId} {args : Array Value} {below : List Frame} {meth : Method} {c : Code} {D : va_G} {cA : Nat → ClassId} {o : Nat}  {Φ : Nat → Mm → Prop} (C : Cx p m meth c s args cX8_nextQueue 4 wsX8_nextQueue RX8 (some (.object "TurnstileBank$Queue")) D (tysL cA)) : ∀ (k0 : Nat) (k1 : Nat) (u0 : Mm), kd k0 = 8 → kd k1 = 1 → ∀ (H : Heap) (locs : List Loc) (ls : Array Slot), Hp 747 o D (EC cA o u0) s H locs → lv_has ls 4 [(0, .ref (o + k0)), (1, .ref (o + k1))] → w_X8_nextQueue k0 k1 u0 Φ → W p l e rm_X8_nextQueue s m args below meth c H locs 0 0 (MQ below (Qg (vR o) (fun k μ => Φ k μ ∧ kd k = 7) (fun μ => Wd 747 o D (tysL cA) (EC cA o μ)) (aA o 747)) args s 0 0 (aA o 747)) (F0 m 0 ls []) := by
  intro k0 k1 u0 hk0 hk1 H locs ls P hl h
  have hx := C.1.1
  have hb := C.1.2.1
  unfold w_X8_nextQueue at h
  refine lv_aload_n hx hb dX8_nextQueue_0 rfl (lv_at hl 1 rfl) ?_
  refine g_1_2 C P in_X8_nextQueue_1 wd_X8_nextQueue_1 hk1 dX8_nextQueue_1 ?_
  refine lv_iconst (v := 1) hx hb dX8_nextQueue_4 (by decide) ?_
  refine lv_icmp_ne (tgt := 13) hx hb dX8_nextQueue_5 (by decide) (fun c1 => ?_) (fun c1 => ?_)
  · have h := ite_f h c1
    refine lv_aload_n hx hb dX8_nextQueue_13 rfl (lv_at hl 1 rfl) ?_
    refine g_1_2 C P in_X8_nextQueue_1 wd_X8_nextQueue_1 hk1 dX8_nextQueue_14 ?_
    refine lv_iconst (v := 2) hx hb dX8_nextQueue_17 (by decide) ?_
    refine lv_icmp_ne (tgt := 26) hx hb dX8_nextQueue_18 (by decide) (fun c2 => ?_) (fun c2 => ?_)
    · have h := ite_f h c2
      refine lv_aload_n hx hb dX8_nextQueue_26 rfl (lv_at hl 0 rfl) ?_
      refine lv_aload_n hx hb dX8_nextQueue_27 rfl (lv_at hl 1 rfl) ?_
      refine g_1_0 C P in_X8_nextQueue_1 wd_X8_nextQueue_2 hk1 dX8_nextQueue_28 ?_
      refine lv_iconst (v := 0) hx hb dX8_nextQueue_31 (by decide) ?_
      refine r_calli (F := EC cA o) (va_runV (As := [.int (0 : Int32)]) (rest := [.ref (o + k0)]) C.1 (c_X7_personAtPlace l D cA o _ _ (kd_1_1 hk1) u0 _ h) (cwV 1 C.1.2.2.2.2 gX8_nextQueue_X7_personAtPlace rfl rfl rfl (by decide +kernel) ⟨Nat.le_of_ble_eq_true rfl, Nat.le_of_ble_eq_true rfl⟩) (r_preV C P [.int (0 : Int32)] (ci := 7) rfl (kd_lt (kd_1_1 hk1) (by decide)) (EK_7 (kd_1_1 hk1))) rfl rfl hl.1 rfl (lv_room (Nat.le_of_ble_eq_true rfl)) dX8_nextQueue_32 ⟨Nat.le_of_ble_eq_true rfl, Nat.le_of_ble_eq_true rfl⟩) P.2 (fun r4 u3 H locs h P => ?_)
      refine r_calln (F := EC cA o) (va_runV (As := [.int r4]) (rest := []) C.1 (c_X8_personAt l D cA o _ _ hk0 u3 _ h) (cwV 1 C.1.2.2.2.2 gX8_nextQueue_X8_personAt rfl rfl rfl (by decide +kernel) ⟨Nat.le_of_ble_eq_true rfl, Nat.le_of_ble_eq_true rfl⟩) (r_preV C P [.int r4] (ci := 8) rfl (kd_lt hk0 (by decide)) (EK_8 hk0)) rfl rfl hl.1 rfl (lv_room (Nat.le_of_ble_eq_true rfl)) dX8_nextQueue_35 ⟨Nat.le_of_ble_eq_true rfl, Nat.le_of_ble_eq_true rfl⟩) P.2 (fun r6 u5 H locs h P => ?_)
      obtain ⟨h, hk7⟩ := h
      rcases r6 with _ | r6
      · have h := opt_n h
        refine lv_astore_nN (lv' := [(2, .null), (0, .ref (o + k0)), (1, .ref (o + k1))]) hx hb dX8_nextQueue_38 rfl hl (by decide) rfl (fun ls hl => ?_)
        refine lv_aload_n hx hb dX8_nextQueue_39 rfl (lv_at hl 1 rfl) ?_
        refine lv_aload_n hx hb dX8_nextQueue_40 rfl (lv_at hl 2 rfl) ?_
        refine g_1_1 C P in_X8_nextQueue_1 wd_X8_nextQueue_3 hk1 dX8_nextQueue_41 ?_
        refine lv_iconst (v := 0) hx hb dX8_nextQueue_44 (by decide) ?_
        refine r_calli (F := EC cA o) (va_runV (As := [.int (0 : Int32)]) (rest := [.ref (o + k0)]) C.1 (c_X7_personAtPlace l D cA o _ _ (kd_1_3 hk1) u5 _ h) (cwV 1 C.1.2.2.2.2 gX8_nextQueue_X7_personAtPlace rfl rfl rfl (by decide +kernel) ⟨Nat.le_of_ble_eq_true rfl, Nat.le_of_ble_eq_true rfl⟩) (r_preV C P [.int (0 : Int32)] (ci := 7) rfl (kd_lt (kd_1_3 hk1) (by decide)) (EK_7 (kd_1_3 hk1))) rfl rfl hl.1 rfl (lv_room (Nat.le_of_ble_eq_true rfl)) dX8_nextQueue_45 ⟨Nat.le_of_ble_eq_true rfl, Nat.le_of_ble_eq_true rfl⟩) P.2 (fun r9 u8 H locs h P => ?_)
        refine r_calln (F := EC cA o) (va_runV (As := [.int r9]) (rest := []) C.1 (c_X8_personAt l D cA o _ _ hk0 u8 _ h) (cwV 1 C.1.2.2.2.2 gX8_nextQueue_X8_personAt rfl rfl rfl (by decide +kernel) ⟨Nat.le_of_ble_eq_true rfl, Nat.le_of_ble_eq_true rfl⟩) (r_preV C P [.int r9] (ci := 8) rfl (kd_lt hk0 (by decide)) (EK_8 hk0)) rfl rfl hl.1 rfl (lv_room (Nat.le_of_ble_eq_true rfl)) dX8_nextQueue_48 ⟨Nat.le_of_ble_eq_true rfl, Nat.le_of_ble_eq_true rfl⟩) P.2 (fun r11 u10 H locs h P => ?_)
        obtain ⟨h, hk12⟩ := h
        rcases r11 with _ | r11
        · have h := opt_n h
          refine lv_astore_nN (lv' := [(3, .null), (2, .null), (0, .ref (o + k0)), (1, .ref (o + k1))]) hx hb dX8_nextQueue_51 rfl hl (by decide) rfl (fun ls hl => ?_)
          refine lv_aload_nN hx hb dX8_nextQueue_52 rfl (lv_at hl 1 rfl) ?_
          refine lv_ifnonnullN hx hb dX8_nextQueue_53 ?_
          refine lv_aload_n hx hb dX8_nextQueue_56 rfl (lv_at hl 3 rfl) ?_
          refine g_1_1 C P in_X8_nextQueue_1 wd_X8_nextQueue_3 hk1 dX8_nextQueue_57 ?_
          exact r_aretr (Φ := (fun k μ => Φ k μ ∧ kd k = 7)) C P ⟨h, (kd_1_3 hk1)⟩ dX8_nextQueue_60
        · have h := opt_s h
          have hk12 := hk12 r11 rfl
          refine lv_astore_n (lv' := [(3, .ref (o + r11)), (2, .null), (0, .ref (o + k0)), (1, .ref (o + k1))]) hx hb dX8_nextQueue_51 rfl hl (by decide) rfl (fun ls hl => ?_)
          refine lv_aload_nN hx hb dX8_nextQueue_52 rfl (lv_at hl 1 rfl) ?_
          refine lv_ifnonnullN hx hb dX8_nextQueue_53 ?_
          refine lv_aload_n hx hb dX8_nextQueue_56 rfl (lv_at hl 3 rfl) ?_
          refine g_1_1 C P in_X8_nextQueue_1 wd_X8_nextQueue_3 hk1 dX8_nextQueue_57 ?_
          exact r_aretr (Φ := (fun k μ => Φ k μ ∧ kd k = 7)) C P ⟨h, (kd_1_3 hk1)⟩ dX8_nextQueue_60
      · have h := opt_s h
        have hk7 := hk7 r6 rfl
        refine lv_astore_n (lv' := [(2, .ref (o + r6)), (0, .ref (o + k0)), (1, .ref (o + k1))]) hx hb dX8_nextQueue_38 rfl hl (by decide) rfl (fun ls hl => ?_)
        refine lv_aload_n hx hb dX8_nextQueue_39 rfl (lv_at hl 1 rfl) ?_
        refine lv_aload_n hx hb dX8_nextQueue_40 rfl (lv_at hl 2 rfl) ?_
        refine g_1_1 C P in_X8_nextQueue_1 wd_X8_nextQueue_3 hk1 dX8_nextQueue_41 ?_
        refine lv_iconst (v := 0) hx hb dX8_nextQueue_44 (by decide) ?_
        refine r_calli (F := EC cA o) (va_runV (As := [.int (0 : Int32)]) (rest := [.ref (o + k0)]) C.1 (c_X7_personAtPlace l D cA o _ _ (kd_1_3 hk1) u5 _ h) (cwV 1 C.1.2.2.2.2 gX8_nextQueue_X7_personAtPlace rfl rfl rfl (by decide +kernel) ⟨Nat.le_of_ble_eq_true rfl, Nat.le_of_ble_eq_true rfl⟩) (r_preV C P [.int (0 : Int32)] (ci := 7) rfl (kd_lt (kd_1_3 hk1) (by decide)) (EK_7 (kd_1_3 hk1))) rfl rfl hl.1 rfl (lv_room (Nat.le_of_ble_eq_true rfl)) dX8_nextQueue_45 ⟨Nat.le_of_ble_eq_true rfl, Nat.le_of_ble_eq_true rfl⟩) P.2 (fun r14 u13 H locs h P => ?_)
        refine r_calln (F := EC cA o) (va_runV (As := [.int r14]) (rest := []) C.1 (c_X8_personAt l D cA o _ _ hk0 u13 _ h) (cwV 1 C.1.2.2.2.2 gX8_nextQueue_X8_personAt rfl rfl rfl (by decide +kernel) ⟨Nat.le_of_ble_eq_true rfl, Nat.le_of_ble_eq_true rfl⟩) (r_preV C P [.int r14] (ci := 8) rfl (kd_lt hk0 (by decide)) (EK_8 hk0)) rfl rfl hl.1 rfl (lv_room (Nat.le_of_ble_eq_true rfl)) dX8_nextQueue_48 ⟨Nat.le_of_ble_eq_true rfl, Nat.le_of_ble_eq_true rfl⟩) P.2 (fun r16 u15 H locs h P => ?_)
        obtain ⟨h, hk17⟩ := h
        rcases r16 with _ | r16
        · have h := opt_n h
          refine lv_astore_nN (lv' := [(3, .null), (2, .ref (o + r6)), (0, .ref (o + k0)), (1, .ref (o + k1))]) hx hb dX8_nextQueue_51 rfl hl (by decide) rfl (fun ls hl => ?_)
          refine lv_aload_n hx hb dX8_nextQueue_52 rfl (lv_at hl 1 rfl) ?_
          refine lv_ifnonnull (tgt := 61) hx hb dX8_nextQueue_53 (by decide) ?_
          refine lv_aload_nN hx hb dX8_nextQueue_61 rfl (lv_at hl 0 rfl) ?_
          refine lv_ifnullN (tgt := 76) hx hb dX8_nextQueue_62 (by decide) ?_
          refine lv_aload_n hx hb dX8_nextQueue_76 rfl (lv_at hl 3 rfl) ?_
          refine g_1_0 C P in_X8_nextQueue_1 wd_X8_nextQueue_2 hk1 dX8_nextQueue_77 ?_
          exact r_aretr (Φ := (fun k μ => Φ k μ ∧ kd k = 7)) C P ⟨h, (kd_1_1 hk1)⟩ dX8_nextQueue_80
        · have h := opt_s h
          have hk17 := hk17 r16 rfl
          refine lv_astore_n (lv' := [(3, .ref (o + r16)), (2, .ref (o + r6)), (0, .ref (o + k0)), (1, .ref (o + k1))]) hx hb dX8_nextQueue_51 rfl hl (by decide) rfl (fun ls hl => ?_)
          refine lv_aload_n hx hb dX8_nextQueue_52 rfl (lv_at hl 1 rfl) ?_
          refine lv_ifnonnull (tgt := 61) hx hb dX8_nextQueue_53 (by decide) ?_
          refine lv_aload_n hx hb dX8_nextQueue_61 rfl (lv_at hl 0 rfl) ?_
          refine lv_ifnull hx hb dX8_nextQueue_62 ?_
          refine lv_aload_n hx hb dX8_nextQueue_65 rfl (lv_at hl 1 rfl) ?_
          refine g_5_5 C P in_X8_nextQueue_5 wd_X8_nextQueue_4 hk7 dX8_nextQueue_66 ?_
          refine lv_aload_n hx hb dX8_nextQueue_69 rfl (lv_at hl 0 rfl) ?_
          refine g_5_5 C P in_X8_nextQueue_5 wd_X8_nextQueue_4 hk17 dX8_nextQueue_70 ?_
          refine lv_icmp_ge (tgt := 81) hx hb dX8_nextQueue_73 (by decide) (fun c18 => ?_) (fun c18 => ?_)
          · have h := ite_t h c18
            refine lv_aload_n hx hb dX8_nextQueue_81 rfl (lv_at hl 3 rfl) ?_
            refine g_1_1 C P in_X8_nextQueue_1 wd_X8_nextQueue_3 hk1 dX8_nextQueue_82 ?_
            exact r_aretr (Φ := (fun k μ => Φ k μ ∧ kd k = 7)) C P ⟨h, (kd_1_3 hk1)⟩ dX8_nextQueue_85
          · have h := ite_f h c18
            refine lv_aload_n hx hb dX8_nextQueue_76 rfl (lv_at hl 3 rfl) ?_
            refine g_1_0 C P in_X8_nextQueue_1 wd_X8_nextQueue_2 hk1 dX8_nextQueue_77 ?_
            exact r_aretr (Φ := (fun k μ => Φ k μ ∧ kd k = 7)) C P ⟨h, (kd_1_1 hk1)⟩ dX8_nextQueue_80
    · have h := ite_t h c2
      refine lv_aload_n hx hb dX8_nextQueue_21 rfl (lv_at hl 1 rfl) ?_
      refine g_1_1 C P in_X8_nextQueue_1 wd_X8_nextQueue_3 hk1 dX8_nextQueue_22 ?_
      exact r_aretr (Φ := (fun k μ => Φ k μ ∧ kd k = 7)) C P ⟨h, (kd_1_3 hk1)⟩ dX8_nextQueue_25
  · have h := ite_t h c1
    refine lv_aload_n hx hb dX8_nextQueue_8 rfl (lv_at hl 1 rfl) ?_
    refine g_1_0 C P in_X8_nextQueue_1 wd_X8_nextQueue_2 hk1 dX8_nextQueue_9 ?_
    exact r_aretr (Φ := (fun k μ => Φ k μ ∧ kd k = 7)) C P ⟨h, (kd_1_1 hk1)⟩ dX8_nextQueue_12
set_option maxHeartbeats 4000000 in
set_option maxRecDepth 100000 in
theorem c_X8_nextQueue (l : Launch) (D : va_G) (cA : Nat → ClassId) (o : Nat) (k0 : Nat) (k1 : Nat) (hk0 : kd k0 = 8) (hk1 : kd k1 = 1) (u0 : Mm) (Φ : Nat → Mm → Prop) (h : w_X8_nextQueue k0 k1 u0 Φ) : Met l yX8_nextQueue wsX8_nextQueue rm_X8_nextQueue (va_Pc [.ref (o + k0), .ref (o + k1)] (Wd 747 o D (tysL cA) (EC cA o u0))) (Qg (vR o) (fun k μ => Φ k μ ∧ kd k = 7) (fun μ => Wd 747 o D (tysL cA) (EC cA o μ)) (aA o 747)) 0 0 (aA o 747) := by
  refine Met.ofW (cc := cX8_nextQueue) (maxL := 4) (ret := (some (.object "TurnstileBank$Queue"))) (by decide) rfl ?_
  intro p e s m args below meth c s₁ B hml hv
  obtain ⟨rfl, hv⟩ := hv
  have hl := lv_entry ([.ref (o + k0), .ref (o + k1)]) (n := 4) (Nat.le_of_ble_eq_true rfl)
  rw [lg_entry_eq]
  exact t_X8_nextQueue_0 ⟨⟨B.exec, B.bytes, hml, findClass_of_methodNamed B.named, atoms_spec (ws := wsX8_nextQueue) B.pre⟩, B.returns, B.notSynchronized, hv.2⟩ k0 k1 u0 hk0 hk1 _ _ _ ⟨hv.1, va_S.rf⟩ hl h
