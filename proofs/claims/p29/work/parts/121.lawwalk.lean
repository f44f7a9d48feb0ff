abbrev rm_L_low : Room := { frames := 0, cells := 0, slots := 0, locals := 0 }
theorem wd_L_low_1 : Cond.constant RL 8 (2147483647) ∈ wsL_low := List.mem_of_getElem? (i := 1) (by decide +kernel)
def w_L_low (a0 : Int32) (a1 : Int32) (u0 : Mm) (Φ : Int32 → Mm → Prop) : Prop := (¬ a1 = 0 ∧ (Φ (((a0 &&& (2147483647 : Int32)) - (a0 &&& (2147483647 : Int32)) / a1 * a1)) u0))
set_option maxHeartbeats 4000000 in
set_option maxRecDepth 100000 in
theorem t_L_low_0 {p : Program} {l : Launch} {e : Env} {s : State} {m : MethodId} {args : Array Value} {below : List Frame} {meth : Method} {c : Code} {D : va_G} {cA : Nat → ClassId} {o : Nat}  {Φ : Int32 → Mm → Prop} (C : Cx p m meth c s args cL_low 2 wsL_low RL (some .int) D (tysL cA)) : ∀ (a0 : Int32) (a1 : Int32) (u0 : Mm), ∀ (H : Heap) (locs : List Loc) (ls : Array Slot), Hp 747 o D (EC cA o u0) s H locs → lv_has ls 2 [(0, .int a0), (1, .int a1)] → w_L_low a0 a1 u0 Φ → W p l e rm_L_low s m args below meth c H locs 0 0 (MQ below (Qg vI Φ (fun μ => Wd 747 o D (tysL cA) (EC cA o μ)) (aA o 747)) args s 0 0 (aA o 747)) (F0 m 0 ls []) := by
  intro a0 a1 u0 H locs ls P hl h
  have hx := C.1.1
  have hb := C.1.2.1
  unfold w_L_low at h
  refine lv_iload_n hx hb dL_low_0 rfl (lv_at hl 0 rfl) ?_
  refine lv_ldc (v := 2147483647) hx hb C.1.2.2.2.1 (C.1.2.2.2.2 _ wd_L_low_1) dL_low_1 ?_
  refine lv_iand hx hb dL_low_3 ?_
  refine lv_iload_n hx hb dL_low_4 rfl (lv_at hl 1 rfl) ?_
  obtain ⟨hne, h⟩ := h
  refine lv_irem hx hb dL_low_5 hne ?_
  exact r_ireti C P h dL_low_6
set_option maxHeartbeats 4000000 in
set_option maxRecDepth 100000 in
theorem c_L_low (l : Launch) (D : va_G) (cA : Nat → ClassId) (o : Nat) (a0 : Int32) (a1 : Int32)  (u0 : Mm) (Φ : Int32 → Mm → Prop) (h : w_L_low a0 a1 u0 Φ) : Met l yL_low wsL_low rm_L_low (va_Pc [.int a0, .int a1] (Wd 747 o D (tysL cA) (EC cA o u0))) (Qg vI Φ (fun μ => Wd 747 o D (tysL cA) (EC cA o μ)) (aA o 747)) 0 0 (aA o 747) := by
  refine Met.ofW (cc := cL_low) (maxL := 2) (ret := (some .int)) (by decide) rfl ?_
  intro p e s m args below meth c s₁ B hml hv
  obtain ⟨rfl, hv⟩ := hv
  have hl := lv_entry ([.int a0, .int a1]) (n := 2) (Nat.le_of_ble_eq_true rfl)
  rw [lg_entry_eq]
  exact t_L_low_0 ⟨⟨B.exec, B.bytes, hml, findClass_of_methodNamed B.named, atoms_spec (ws := wsL_low) B.pre⟩, B.returns, B.notSynchronized, hv.2⟩ a0 a1 u0 _ _ _ ⟨hv.1, va_S.rf⟩ hl h
abbrev rm_L_digits : Room := { frames := 2, cells := 0, slots := 0, locals := 42 }
def w_L_digits (a1 : Int32) (u0 : Mm) (Φ : Int32 → Mm → Prop) : Prop := (if a1 ≤ (9 : Int32) then (¬ (10 : Int32) = 0 ∧ (w_X9_type ((((48 : Int32) + (a1 - a1 / (10 : Int32) * (10 : Int32))).toUInt32 % 65536).toInt32) u0 (fun r3 u2 => (Φ r3 u2)))) else (¬ (10 : Int32) = 0 ∧ (w_X9_type ((((48 : Int32) + (a1 / (10 : Int32))).toUInt32 % 65536).toInt32) u0 (fun r5 u4 => (¬ (10 : Int32) = 0 ∧ (w_X9_type ((((48 : Int32) + (a1 - a1 / (10 : Int32) * (10 : Int32))).toUInt32 % 65536).toInt32) u4 (fun r7 u6 => (Φ r7 u6))))))))
set_option maxHeartbeats 4000000 in
set_option maxRecDepth 100000 in
theorem t_L_digits_0 {p : Program} {l : Launch} {e : Env} {s : State} {m : MethodId} {args : Array Value} {below : List Frame} {meth : Method} {c : Code} {D : va_G} {cA : Nat → ClassId} {o : Nat}  {Φ : Int32 → Mm → Prop} (C : Cx p m meth c s args cL_digits 3 wsL_digits RL (some .int) D (tysL cA)) : ∀ (a1 : Int32) (u0 : Mm), ∀ (H : Heap) (locs : List Loc) (ls : Array Slot), Hp 747 o D (EC cA o u0) s H locs → lv_has ls 3 [(0, .ref (o + 0)), (1, .int a1)] → w_L_digits a1 u0 Φ → W p l e rm_L_digits s m args below meth c H locs 0 0 (MQ below (Qg vI Φ (fun μ => Wd 747 o D (tysL cA) (EC cA o μ)) (aA o 747)) args s 0 0 (aA o 747)) (F0 m 0 ls []) := by
  intro a1 u0 H locs ls P hl h
  have hx := C.1.1
  have hb := C.1.2.1
  unfold w_L_digits at h
  refine lv_iconst (v := 0) hx hb dL_digits_0 (by decide) ?_
  refine lv_istore_n (lv' := [(2, .int (0 : Int32)), (0, .ref (o + 0)), (1, .int a1)]) hx hb dL_digits_1 rfl hl (by decide) rfl (fun ls hl => ?_)
  refine lv_iload_n hx hb dL_digits_2 rfl (lv_at hl 2 rfl) ?_
  refine lv_bipush (v := 9) hx hb dL_digits_3 (by decide) ?_
  refine lv_icmp_le (tgt := 21) hx hb dL_digits_5 (by decide) (fun c1 => ?_) (fun c1 => ?_)
  · have h := ite_t h c1
    refine lv_aload_n hx hb dL_digits_21 rfl (lv_at hl 1 rfl) ?_
    refine lv_bipush (v := 48) hx hb dL_digits_22 (by decide) ?_
    refine lv_iload_n hx hb dL_digits_24 rfl (lv_at hl 2 rfl) ?_
    refine lv_bipush (v := 10) hx hb dL_digits_25 (by decide) ?_
    obtain ⟨hne, h⟩ := h
    refine lv_irem hx hb dL_digits_27 hne ?_
    refine lv_iadd hx hb dL_digits_28 ?_
    refine lv_i2c hx hb dL_digits_29 rfl ?_
    refine r_calli (F := EC cA o) (va_runV (As := [.int (((48 : Int32) + (a1 - a1 / (10 : Int32) * (10 : Int32))).toUInt32 % 65536).toInt32]) (rest := []) C.1 (c_X9_type l D cA o _ u0 _ h) (cwV 1 C.1.2.2.2.2 gL_digits_X9_type rfl rfl rfl (by decide +kernel) ⟨Nat.le_of_ble_eq_true rfl, Nat.le_of_ble_eq_true rfl⟩) (r_preV C P [.int (((48 : Int32) + (a1 - a1 / (10 : Int32) * (10 : Int32))).toUInt32 % 65536).toInt32] (ci := 9) rfl (kd_lt kd_at_0 (by decide)) (EK_9 kd_at_0)) rfl rfl hl.1 rfl (lv_room (Nat.le_of_ble_eq_true rfl)) dL_digits_30 ⟨Nat.le_of_ble_eq_true rfl, Nat.le_of_ble_eq_true rfl⟩) P.2 (fun r3 u2 H locs h P => ?_)
    refine lv_istore_n (lv' := [(2, .int r3), (0, .ref (o + 0)), (1, .int a1)]) hx hb dL_digits_33 rfl hl (by decide) rfl (fun ls hl => ?_)
    refine lv_iload_n hx hb dL_digits_34 rfl (lv_at hl 0 rfl) ?_
    exact r_ireti C P h dL_digits_35
  · have h := ite_f h c1
    refine lv_aload_n hx hb dL_digits_8 rfl (lv_at hl 1 rfl) ?_
    refine lv_bipush (v := 48) hx hb dL_digits_9 (by decide) ?_
    refine lv_iload_n hx hb dL_digits_11 rfl (lv_at hl 2 rfl) ?_
    refine lv_bipush (v := 10) hx hb dL_digits_12 (by decide) ?_
    obtain ⟨hne, h⟩ := h
    refine lv_idiv hx hb dL_digits_14 hne ?_
    refine lv_iadd hx hb dL_digits_15 ?_
    refine lv_i2c hx hb dL_digits_16 rfl ?_
    refine r_calli (F := EC cA o) (va_runV (As := [.int (((48 : Int32) + (a1 / (10 : Int32))).toUInt32 % 65536).toInt32]) (rest := []) C.1 (c_X9_type l D cA o _ u0 _ h) (cwV 1 C.1.2.2.2.2 gL_digits_X9_type rfl rfl rfl (by decide +kernel) ⟨Nat.le_of_ble_eq_true rfl, Nat.le_of_ble_eq_true rfl⟩) (r_preV C P [.int (((48 : Int32) + (a1 / (10 : Int32))).toUInt32 % 65536).toInt32] (ci := 9) rfl (kd_lt kd_at_0 (by decide)) (EK_9 kd_at_0)) rfl rfl hl.1 rfl (lv_room (Nat.le_of_ble_eq_true rfl)) dL_digits_17 ⟨Nat.le_of_ble_eq_true rfl, Nat.le_of_ble_eq_true rfl⟩) P.2 (fun r5 u4 H locs h P => ?_)
    refine lv_istore_n (lv' := [(2, .int r5), (0, .ref (o + 0)), (1, .int a1)]) hx hb dL_digits_20 rfl hl (by decide) rfl (fun ls hl => ?_)
    refine lv_aload_n hx hb dL_digits_21 rfl (lv_at hl 1 rfl) ?_
    refine lv_bipush (v := 48) hx hb dL_digits_22 (by decide) ?_
    refine lv_iload_n hx hb dL_digits_24 rfl (lv_at hl 2 rfl) ?_
    refine lv_bipush (v := 10) hx hb dL_digits_25 (by decide) ?_
    obtain ⟨hne, h⟩ := h
    refine lv_irem hx hb dL_digits_27 hne ?_
    refine lv_iadd hx hb dL_digits_28 ?_
    refine lv_i2c hx hb dL_digits_29 rfl ?_
    refine r_calli (F := EC cA o) (va_runV (As := [.int (((48 : Int32) + (a1 - a1 / (10 : Int32) * (10 : Int32))).toUInt32 % 65536).toInt32]) (rest := []) C.1 (c_X9_type l D cA o _ u4 _ h) (cwV 1 C.1.2.2.2.2 gL_digits_X9_type rfl rfl rfl (by decide +kernel) ⟨Nat.le_of_ble_eq_true rfl, Nat.le_of_ble_eq_true rfl⟩) (r_preV C P [.int (((48 : Int32) + (a1 - a1 / (10 : Int32) * (10 : Int32))).toUInt32 % 65536).toInt32] (ci := 9) rfl (kd_lt kd_at_0 (by decide)) (EK_9 kd_at_0)) rfl rfl hl.1 rfl (lv_room (Nat.le_of_ble_eq_true rfl)) dL_digits_30 ⟨Nat.le_of_ble_eq_true rfl, Nat.le_of_ble_eq_true rfl⟩) P.2 (fun r7 u6 H locs h P => ?_)
    refine lv_istore_n (lv' := [(2, .int r7), (0, .ref (o + 0)), (1, .int a1)]) hx hb dL_digits_33 rfl hl (by decide) rfl (fun ls hl => ?_)
    refine lv_iload_n hx hb dL_digits_34 rfl (lv_at hl 0 rfl) ?_
    exact r_ireti C P h dL_digits_35
set_option maxHeartbeats 4000000 in
set_option maxRecDepth 100000 in
theorem c_L_digits (l : Launch) (D : va_G) (cA : Nat → ClassId) (o : Nat) (a1 : Int32)  (u0 : Mm) (Φ : Int32 → Mm → Prop) (h : w_L_digits a1 u0 Φ) : Met l yL_digits wsL_digits rm_L_digits (va_Pc [.ref (o + 0), .int a1] (Wd 747 o D (tysL cA) (EC cA o u0))) (Qg vI Φ (fun μ => Wd 747 o D (tysL cA) (EC cA o μ)) (aA o 747)) 0 0 (aA o 747) := by
  refine Met.ofW (cc := cL_digits) (maxL := 3) (ret := (some .int)) (by decide) rfl ?_
  intro p e s m args below meth c s₁ B hml hv
  obtain ⟨rfl, hv⟩ := hv
  have hl := lv_entry ([.ref (o + 0), .int a1]) (n := 3) (Nat.le_of_ble_eq_true rfl)
  rw [lg_entry_eq]
  exact t_L_digits_0 ⟨⟨B.exec, B.bytes, hml, findClass_of_methodNamed B.named, atoms_spec (ws := wsL_digits) B.pre⟩, B.returns, B.notSynchronized, hv.2⟩ a1 u0 _ _ _ ⟨hv.1, va_S.rf⟩ hl h
abbrev rm_L_refusal : Room := { frames := 3, cells := 0, slots := 0, locals := 64 }
def w_L_refusal (a1 : Int32) (u0 : Mm) (Φ : Int32 → Mm → Prop) : Prop := (w_X9_person a1 ((1 : Int32)) u0 (fun r2 u1 => (if 0 ≤ r2 then (w_X9_passOf r2 ((0 : Int32)) u1 (fun r5 u4 => (w_X9_passOf r2 ((1 : Int32)) u4 (fun r7 u6 => (if r7 = (1 : Int32) then (Φ ((2 : Int32)) u6) else (w_X9_passOf r2 ((2 : Int32)) u6 (fun r10 u9 => (if r10 < 0 then (w_X9_pool r5 ((2 : Int32)) u9 (fun r13 u12 => (w_X9_pool r5 ((1 : Int32)) u12 (fun r15 u14 => (if r13 < r15 then (w_X9_pool r5 ((0 : Int32)) u14 (fun r18 u17 => (w_X9_count ((9 : Int32)) u17 (fun r20 u19 => (if r20 ≤ r18 then (Φ ((0 : Int32)) u19) else (Φ ((5 : Int32)) u19)))))) else (Φ ((4 : Int32)) u14)))))) else (Φ ((3 : Int32)) u9))))))))) else (Φ ((1 : Int32)) u1))))
set_option maxHeartbeats 4000000 in
set_option maxRecDepth 100000 in
theorem t_L_refusal_0 {p : Program} {l : Launch} {e : Env} {s : State} {m : MethodId} {args : Array Value} {below : List Frame} {meth : Method} {c : Code} {D : va_G} {cA : Nat → ClassId} {o : Nat}  {Φ : Int32 → Mm → Prop} (C : Cx p m meth c s args cL_refusal 4 wsL_refusal RL (some .int) D (tysL cA)) : ∀ (a1 : Int32) (u0 : Mm), ∀ (H : Heap) (locs : List Loc) (ls : Array Slot), Hp 747 o D (EC cA o u0) s H locs → lv_has ls 4 [(0, .ref (o + 0)), (1, .int a1)] → w_L_refusal a1 u0 Φ → W p l e rm_L_refusal s m args below meth c H locs 0 0 (MQ below (Qg vI Φ (fun μ => Wd 747 o D (tysL cA) (EC cA o μ)) (aA o 747)) args s 0 0 (aA o 747)) (F0 m 0 ls []) := by
  intro a1 u0 H locs ls P hl h
  have hx := C.1.1
  have hb := C.1.2.1
  unfold w_L_refusal at h
  refine lv_aload_n hx hb dL_refusal_0 rfl (lv_at hl 0 rfl) ?_
  refine lv_iload_n hx hb dL_refusal_1 rfl (lv_at hl 1 rfl) ?_
  refine lv_iconst (v := 1) hx hb dL_refusal_2 (by decide) ?_
  refine r_calli (F := EC cA o) (va_runV (As := [.int a1, .int (1 : Int32)]) (rest := []) C.1 (c_X9_person l D cA o _ _ u0 _ h) (cwV 2 C.1.2.2.2.2 gL_refusal_X9_person rfl rfl rfl (by decide +kernel) ⟨Nat.le_of_ble_eq_true rfl, Nat.le_of_ble_eq_true rfl⟩) (r_preV C P [.int a1, .int (1 : Int32)] (ci := 9) rfl (kd_lt kd_at_0 (by decide)) (EK_9 kd_at_0)) rfl rfl hl.1 rfl (lv_room (Nat.le_of_ble_eq_true rfl)) dL_refusal_3 ⟨Nat.le_of_ble_eq_true rfl, Nat.le_of_ble_eq_true rfl⟩) P.2 (fun r2 u1 H locs h P => ?_)
  refine lv_istore_n (lv' := [(2, .int r2), (0, .ref (o + 0)), (1, .int a1)]) hx hb dL_refusal_6 rfl hl (by decide) rfl (fun ls hl => ?_)
  refine lv_iload_n hx hb dL_refusal_7 rfl (lv_at hl 0 rfl) ?_
  refine lv_if_ge (tgt := 13) hx hb dL_refusal_8 (by decide) (fun c3 => ?_) (fun c3 => ?_)
  · have h := ite_t h c3
    refine lv_aload_n hx hb dL_refusal_13 rfl (lv_at hl 1 rfl) ?_
    refine lv_iload_n hx hb dL_refusal_14 rfl (lv_at hl 0 rfl) ?_
    refine lv_iconst (v := 0) hx hb dL_refusal_15 (by decide) ?_
    refine r_calli (F := EC cA o) (va_runV (As := [.int r2, .int (0 : Int32)]) (rest := []) C.1 (c_X9_passOf l D cA o _ _ u1 _ h) (cwV 2 C.1.2.2.2.2 gL_refusal_X9_passOf rfl rfl rfl (by decide +kernel) ⟨Nat.le_of_ble_eq_true rfl, Nat.le_of_ble_eq_true rfl⟩) (r_preV C P [.int r2, .int (0 : Int32)] (ci := 9) rfl (kd_lt kd_at_0 (by decide)) (EK_9 kd_at_0)) rfl rfl hl.1 rfl (lv_room (Nat.le_of_ble_eq_true rfl)) dL_refusal_16 ⟨Nat.le_of_ble_eq_true rfl, Nat.le_of_ble_eq_true rfl⟩) P.2 (fun r5 u4 H locs h P => ?_)
    refine lv_istore_n (lv' := [(3, .int r5), (2, .int r2), (0, .ref (o + 0)), (1, .int a1)]) hx hb dL_refusal_19 rfl hl (by decide) rfl (fun ls hl => ?_)
    refine lv_aload_n hx hb dL_refusal_20 rfl (lv_at hl 2 rfl) ?_
    refine lv_iload_n hx hb dL_refusal_21 rfl (lv_at hl 1 rfl) ?_
    refine lv_iconst (v := 1) hx hb dL_refusal_22 (by decide) ?_
    refine r_calli (F := EC cA o) (va_runV (As := [.int r2, .int (1 : Int32)]) (rest := []) C.1 (c_X9_passOf l D cA o _ _ u4 _ h) (cwV 2 C.1.2.2.2.2 gL_refusal_X9_passOf rfl rfl rfl (by decide +kernel) ⟨Nat.le_of_ble_eq_true rfl, Nat.le_of_ble_eq_true rfl⟩) (r_preV C P [.int r2, .int (1 : Int32)] (ci := 9) rfl (kd_lt kd_at_0 (by decide)) (EK_9 kd_at_0)) rfl rfl hl.1 rfl (lv_room (Nat.le_of_ble_eq_true rfl)) dL_refusal_23 ⟨Nat.le_of_ble_eq_true rfl, Nat.le_of_ble_eq_true rfl⟩) P.2 (fun r7 u6 H locs h P => ?_)
    refine lv_iconst (v := 1) hx hb dL_refusal_26 (by decide) ?_
    refine lv_icmp_ne (tgt := 34) hx hb dL_refusal_27 (by decide) (fun c8 => ?_) (fun c8 => ?_)
    · have h := ite_f h c8
      refine lv_aload_n hx hb dL_refusal_34 rfl (lv_at hl 2 rfl) ?_
      refine lv_iload_n hx hb dL_refusal_35 rfl (lv_at hl 1 rfl) ?_
      refine lv_iconst (v := 2) hx hb dL_refusal_36 (by decide) ?_
      refine r_calli (F := EC cA o) (va_runV (As := [.int r2, .int (2 : Int32)]) (rest := []) C.1 (c_X9_passOf l D cA o _ _ u6 _ h) (cwV 2 C.1.2.2.2.2 gL_refusal_X9_passOf rfl rfl rfl (by decide +kernel) ⟨Nat.le_of_ble_eq_true rfl, Nat.le_of_ble_eq_true rfl⟩) (r_preV C P [.int r2, .int (2 : Int32)] (ci := 9) rfl (kd_lt kd_at_0 (by decide)) (EK_9 kd_at_0)) rfl rfl hl.1 rfl (lv_room (Nat.le_of_ble_eq_true rfl)) dL_refusal_37 ⟨Nat.le_of_ble_eq_true rfl, Nat.le_of_ble_eq_true rfl⟩) P.2 (fun r10 u9 H locs h P => ?_)
      refine lv_if_lt (tgt := 47) hx hb dL_refusal_40 (by decide) (fun c11 => ?_) (fun c11 => ?_)
      · have h := ite_t h c11
        refine lv_aload_n hx hb dL_refusal_47 rfl (lv_at hl 2 rfl) ?_
        refine lv_iload_n hx hb dL_refusal_48 rfl (lv_at hl 0 rfl) ?_
        refine lv_iconst (v := 2) hx hb dL_refusal_49 (by decide) ?_
        refine r_calli (F := EC cA o) (va_runV (As := [.int r5, .int (2 : Int32)]) (rest := []) C.1 (c_X9_pool l D cA o _ _ u9 _ h) (cwV 2 C.1.2.2.2.2 gL_refusal_X9_pool rfl rfl rfl (by decide +kernel) ⟨Nat.le_of_ble_eq_true rfl, Nat.le_of_ble_eq_true rfl⟩) (r_preV C P [.int r5, .int (2 : Int32)] (ci := 9) rfl (kd_lt kd_at_0 (by decide)) (EK_9 kd_at_0)) rfl rfl hl.1 rfl (lv_room (Nat.le_of_ble_eq_true rfl)) dL_refusal_50 ⟨Nat.le_of_ble_eq_true rfl, Nat.le_of_ble_eq_true rfl⟩) P.2 (fun r13 u12 H locs h P => ?_)
        refine lv_aload_n hx hb dL_refusal_53 rfl (lv_at hl 2 rfl) ?_
        refine lv_iload_n hx hb dL_refusal_54 rfl (lv_at hl 0 rfl) ?_
        refine lv_iconst (v := 1) hx hb dL_refusal_55 (by decide) ?_
        refine r_calli (F := EC cA o) (va_runV (As := [.int r5, .int (1 : Int32)]) (rest := [.int r13]) C.1 (c_X9_pool l D cA o _ _ u12 _ h) (cwV 2 C.1.2.2.2.2 gL_refusal_X9_pool rfl rfl rfl (by decide +kernel) ⟨Nat.le_of_ble_eq_true rfl, Nat.le_of_ble_eq_true rfl⟩) (r_preV C P [.int r5, .int (1 : Int32)] (ci := 9) rfl (kd_lt kd_at_0 (by decide)) (EK_9 kd_at_0)) rfl rfl hl.1 rfl (lv_room (Nat.le_of_ble_eq_true rfl)) dL_refusal_56 ⟨Nat.le_of_ble_eq_true rfl, Nat.le_of_ble_eq_true rfl⟩) P.2 (fun r15 u14 H locs h P => ?_)
        refine lv_icmp_lt (tgt := 66) hx hb dL_refusal_59 (by decide) (fun c16 => ?_) (fun c16 => ?_)
        · have h := ite_t h c16
          refine lv_aload_n hx hb dL_refusal_66 rfl (lv_at hl 2 rfl) ?_
          refine lv_iload_n hx hb dL_refusal_67 rfl (lv_at hl 0 rfl) ?_
          refine lv_iconst (v := 0) hx hb dL_refusal_68 (by decide) ?_
          refine r_calli (F := EC cA o) (va_runV (As := [.int r5, .int (0 : Int32)]) (rest := []) C.1 (c_X9_pool l D cA o _ _ u14 _ h) (cwV 2 C.1.2.2.2.2 gL_refusal_X9_pool rfl rfl rfl (by decide +kernel) ⟨Nat.le_of_ble_eq_true rfl, Nat.le_of_ble_eq_true rfl⟩) (r_preV C P [.int r5, .int (0 : Int32)] (ci := 9) rfl (kd_lt kd_at_0 (by decide)) (EK_9 kd_at_0)) rfl rfl hl.1 rfl (lv_room (Nat.le_of_ble_eq_true rfl)) dL_refusal_69 ⟨Nat.le_of_ble_eq_true rfl, Nat.le_of_ble_eq_true rfl⟩) P.2 (fun r18 u17 H locs h P => ?_)
          refine lv_aload_n hx hb dL_refusal_72 rfl (lv_at hl 2 rfl) ?_
          refine lv_bipush (v := 9) hx hb dL_refusal_73 (by decide) ?_
          refine r_calli (F := EC cA o) (va_runV (As := [.int (9 : Int32)]) (rest := [.int r18]) C.1 (c_X9_count l D cA o _ u17 _ h) (cwV 1 C.1.2.2.2.2 gL_refusal_X9_count rfl rfl rfl (by decide +kernel) ⟨Nat.le_of_ble_eq_true rfl, Nat.le_of_ble_eq_true rfl⟩) (r_preV C P [.int (9 : Int32)] (ci := 9) rfl (kd_lt kd_at_0 (by decide)) (EK_9 kd_at_0)) rfl rfl hl.1 rfl (lv_room (Nat.le_of_ble_eq_true rfl)) dL_refusal_75 ⟨Nat.le_of_ble_eq_true rfl, Nat.le_of_ble_eq_true rfl⟩) P.2 (fun r20 u19 H locs h P => ?_)
          refine lv_icmp_ge (tgt := 85) hx hb dL_refusal_78 (by decide) (fun c21 => ?_) (fun c21 => ?_)
          · have h := ite_t h c21
            refine lv_iconst (v := 0) hx hb dL_refusal_85 (by decide) ?_
            exact r_ireti C P h dL_refusal_86
          · have h := ite_f h c21
            refine lv_iconst (v := 5) hx hb dL_refusal_81 (by decide) ?_
            refine lv_goto (tgt := 86) hx hb dL_refusal_82 (by decide) ?_
            exact r_ireti C P h dL_refusal_86
        · have h := ite_f h c16
          refine lv_iconst (v := 4) hx hb dL_refusal_62 (by decide) ?_
          refine lv_goto (tgt := 86) hx hb dL_refusal_63 (by decide) ?_
          exact r_ireti C P h dL_refusal_86
      · have h := ite_f h c11
        refine lv_iconst (v := 3) hx hb dL_refusal_43 (by decide) ?_
        refine lv_goto (tgt := 86) hx hb dL_refusal_44 (by decide) ?_
        exact r_ireti C P h dL_refusal_86
    · have h := ite_t h c8
      refine lv_iconst (v := 2) hx hb dL_refusal_30 (by decide) ?_
      refine lv_goto (tgt := 86) hx hb dL_refusal_31 (by decide) ?_
      exact r_ireti C P h dL_refusal_86
  · have h := ite_f h c3
    refine lv_iconst (v := 1) hx hb dL_refusal_11 (by decide) ?_
    exact r_ireti C P h dL_refusal_12
set_option maxHeartbeats 4000000 in
set_option maxRecDepth 100000 in
theorem c_L_refusal (l : Launch) (D : va_G) (cA : Nat → ClassId) (o : Nat) (a1 : Int32)  (u0 : Mm) (Φ : Int32 → Mm → Prop) (h : w_L_refusal a1 u0 Φ) : Met l yL_refusal wsL_refusal rm_L_refusal (va_Pc [.ref (o + 0), .int a1] (Wd 747 o D (tysL cA) (EC cA o u0))) (Qg vI Φ (fun μ => Wd 747 o D (tysL cA) (EC cA o μ)) (aA o 747)) 0 0 (aA o 747) := by
  refine Met.ofW (cc := cL_refusal) (maxL := 4) (ret := (some .int)) (by decide) rfl ?_
  intro p e s m args below meth c s₁ B hml hv
  obtain ⟨rfl, hv⟩ := hv
  have hl := lv_entry ([.ref (o + 0), .int a1]) (n := 4) (Nat.le_of_ble_eq_true rfl)
  rw [lg_entry_eq]
  exact t_L_refusal_0 ⟨⟨B.exec, B.bytes, hml, findClass_of_methodNamed B.named, atoms_spec (ws := wsL_refusal) B.pre⟩, B.returns, B.notSynchronized, hv.2⟩ a1 u0 _ _ _ ⟨hv.1, va_S.rf⟩ hl h
abbrev rm_L_ahead : Room := { frames := 8, cells := 0, slots := 0, locals := 182 }
def w_L_ahead_161  (Φ : Int32 → Mm → Prop) (x1 : Int32) (x2 : Int32) (u0 : Mm) : Prop := (w_X9_undo u0 (fun r23 u22 => (if r23 < 0 then (Φ (0 : Int32) u22) else (w_X9_person x1 ((0 : Int32)) u22 (fun r26 u25 => (if r26 = x2 then (Φ (1 : Int32) u25) else (Φ (0 : Int32) u25)))))))
set_option maxHeartbeats 4000000 in
set_option maxRecDepth 100000 in
theorem t_L_ahead_161 {p : Program} {l : Launch} {e : Env} {s : State} {m : MethodId} {args : Array Value} {below : List Frame} {meth : Method} {c : Code} {D : va_G} {cA : Nat → ClassId} {o : Nat}  {Φ : Int32 → Mm → Prop} (C : Cx p m meth c s args cL_ahead 5 wsL_ahead RL (some .boolean) D (tysL cA)) : ∀ (x1 : Int32) (x2 : Int32) (u0 : Mm), ∀ (H : Heap) (locs : List Loc) (ls : Array Slot), Hp 747 o D (EC cA o u0) s H locs → lv_has ls 5 [(0, .ref (o + 0)), (1, .int x1), (2, .int x2)] → w_L_ahead_161 Φ x1 x2 u0 → W p l e rm_L_ahead s m args below meth c H locs 0 0 (MQ below (Qg vI Φ (fun μ => Wd 747 o D (tysL cA) (EC cA o μ)) (aA o 747)) args s 0 0 (aA o 747)) (F0 m 161 ls []) := by
  intro x1 x2 u0 H locs ls P hl h
  have hx := C.1.1
  have hb := C.1.2.1
  unfold w_L_ahead_161 at h
  refine lv_aload_n hx hb dL_ahead_161 rfl (lv_at hl 0 rfl) ?_
  refine r_calli (F := EC cA o) (va_runV (As := []) (rest := []) C.1 (c_X9_undo l D cA o u0 _ h) (cwV 0 C.1.2.2.2.2 gL_ahead_X9_undo rfl rfl rfl (by decide +kernel) ⟨Nat.le_of_ble_eq_true rfl, Nat.le_of_ble_eq_true rfl⟩) (r_preV C P [] (ci := 9) rfl (kd_lt kd_at_0 (by decide)) (EK_9 kd_at_0)) rfl rfl hl.1 rfl (lv_room (Nat.le_of_ble_eq_true rfl)) dL_ahead_162 ⟨Nat.le_of_ble_eq_true rfl, Nat.le_of_ble_eq_true rfl⟩) P.2 (fun r23 u22 H locs h P => ?_)
  refine lv_if_lt (tgt := 182) hx hb dL_ahead_165 (by decide) (fun c24 => ?_) (fun c24 => ?_)
  · have h := ite_t h c24
    refine lv_iconst (v := 0) hx hb dL_ahead_182 (by decide) ?_
    exact r_iretb C P (Or.inl rfl) h dL_ahead_183
  · have h := ite_f h c24
    refine lv_aload_n hx hb dL_ahead_168 rfl (lv_at hl 0 rfl) ?_
    refine lv_iload_n hx hb dL_ahead_169 rfl (lv_at hl 1 rfl) ?_
    refine lv_iconst (v := 0) hx hb dL_ahead_170 (by decide) ?_
    refine r_calli (F := EC cA o) (va_runV (As := [.int x1, .int (0 : Int32)]) (rest := []) C.1 (c_X9_person l D cA o _ _ u22 _ h) (cwV 2 C.1.2.2.2.2 gL_ahead_X9_person rfl rfl rfl (by decide +kernel) ⟨Nat.le_of_ble_eq_true rfl, Nat.le_of_ble_eq_true rfl⟩) (r_preV C P [.int x1, .int (0 : Int32)] (ci := 9) rfl (kd_lt kd_at_0 (by decide)) (EK_9 kd_at_0)) rfl rfl hl.1 rfl (lv_room (Nat.le_of_ble_eq_true rfl)) dL_ahead_171 ⟨Nat.le_of_ble_eq_true rfl, Nat.le_of_ble_eq_true rfl⟩) P.2 (fun r26 u25 H locs h P => ?_)
    refine lv_iload_n hx hb dL_ahead_174 rfl (lv_at hl 2 rfl) ?_
    refine lv_icmp_ne (tgt := 182) hx hb dL_ahead_175 (by decide) (fun c27 => ?_) (fun c27 => ?_)
    · have h := ite_f h c27
      refine lv_iconst (v := 0) hx hb dL_ahead_182 (by decide) ?_
      exact r_iretb C P (Or.inl rfl) h dL_ahead_183
    · have h := ite_t h c27
      refine lv_iconst (v := 1) hx hb dL_ahead_178 (by decide) ?_
      refine lv_goto (tgt := 183) hx hb dL_ahead_179 (by decide) ?_
      exact r_iretb C P (Or.inr rfl) h dL_ahead_183
def w_L_ahead_125  (Φ : Int32 → Mm → Prop) (x1 : Int32) (x2 : Int32) (x3 : Int32) (u0 : Mm) : Prop := (w_X9_pass x3 u0 (fun r16 u15 => (if x3 ≤ 0 then (Φ (0 : Int32) u15) else (if r16 ≤ 0 then (Φ (0 : Int32) u15) else (w_X9_person x1 ((0 : Int32)) u15 (fun r20 u19 => (if r20 = (3 : Int32) then (w_L_ahead_161 Φ x1 x2 u19) else (w_X9_person x1 ((0 : Int32)) u19 (fun r29 u28 => (if r29 = (5 : Int32) then (w_L_ahead_161 Φ x1 x2 u28) else (Φ (0 : Int32) u28)))))))))))
set_option maxHeartbeats 4000000 in
set_option maxRecDepth 100000 in
theorem t_L_ahead_125 {p : Program} {l : Launch} {e : Env} {s : State} {m : MethodId} {args : Array Value} {below : List Frame} {meth : Method} {c : Code} {D : va_G} {cA : Nat → ClassId} {o : Nat}  {Φ : Int32 → Mm → Prop} (C : Cx p m meth c s args cL_ahead 5 wsL_ahead RL (some .boolean) D (tysL cA)) : ∀ (x1 : Int32) (x2 : Int32) (x3 : Int32) (u0 : Mm), ∀ (H : Heap) (locs : List Loc) (ls : Array Slot), Hp 747 o D (EC cA o u0) s H locs → lv_has ls 5 [(0, .ref (o + 0)), (1, .int x1), (2, .int x2), (3, .int x3)] → w_L_ahead_125 Φ x1 x2 x3 u0 → W p l e rm_L_ahead s m args below meth c H locs 0 0 (MQ below (Qg vI Φ (fun μ => Wd 747 o D (tysL cA) (EC cA o μ)) (aA o 747)) args s 0 0 (aA o 747)) (F0 m 125 ls []) := by
  intro x1 x2 x3 u0 H locs ls P hl h
  have hx := C.1.1
  have hb := C.1.2.1
  unfold w_L_ahead_125 at h
  refine lv_aload_n hx hb dL_ahead_125 rfl (lv_at hl 0 rfl) ?_
  refine lv_iload_n hx hb dL_ahead_126 rfl (lv_at hl 3 rfl) ?_
  refine r_calli (F := EC cA o) (va_runV (As := [.int x3]) (rest := []) C.1 (c_X9_pass l D cA o _ u0 _ h) (cwV 1 C.1.2.2.2.2 gL_ahead_X9_pass rfl rfl rfl (by decide +kernel) ⟨Nat.le_of_ble_eq_true rfl, Nat.le_of_ble_eq_true rfl⟩) (r_preV C P [.int x3] (ci := 9) rfl (kd_lt kd_at_0 (by decide)) (EK_9 kd_at_0)) rfl rfl hl.1 rfl (lv_room (Nat.le_of_ble_eq_true rfl)) dL_ahead_127 ⟨Nat.le_of_ble_eq_true rfl, Nat.le_of_ble_eq_true rfl⟩) P.2 (fun r16 u15 H locs h P => ?_)
  refine lv_istore (lv' := [(4, .int r16), (0, .ref (o + 0)), (1, .int x1), (2, .int x2), (3, .int x3)]) hx hb dL_ahead_130 hl (by decide) rfl (fun ls hl => ?_)
  refine lv_iload_n hx hb dL_ahead_132 rfl (lv_at hl 4 rfl) ?_
  refine lv_if_le (tgt := 182) hx hb dL_ahead_133 (by decide) (fun c17 => ?_) (fun c17 => ?_)
  · have h := ite_t h c17
    refine lv_iconst (v := 0) hx hb dL_ahead_182 (by decide) ?_
    exact r_iretb C P (Or.inl rfl) h dL_ahead_183
  · have h := ite_f h c17
    refine lv_iload hx hb dL_ahead_136 (lv_at hl 0 rfl) ?_
    refine lv_if_le (tgt := 182) hx hb dL_ahead_138 (by decide) (fun c18 => ?_) (fun c18 => ?_)
    · have h := ite_t h c18
      refine lv_iconst (v := 0) hx hb dL_ahead_182 (by decide) ?_
      exact r_iretb C P (Or.inl rfl) h dL_ahead_183
    · have h := ite_f h c18
      refine lv_aload_n hx hb dL_ahead_141 rfl (lv_at hl 1 rfl) ?_
      refine lv_iload_n hx hb dL_ahead_142 rfl (lv_at hl 2 rfl) ?_
      refine lv_iconst (v := 0) hx hb dL_ahead_143 (by decide) ?_
      refine r_calli (F := EC cA o) (va_runV (As := [.int x1, .int (0 : Int32)]) (rest := []) C.1 (c_X9_person l D cA o _ _ u15 _ h) (cwV 2 C.1.2.2.2.2 gL_ahead_X9_person rfl rfl rfl (by decide +kernel) ⟨Nat.le_of_ble_eq_true rfl, Nat.le_of_ble_eq_true rfl⟩) (r_preV C P [.int x1, .int (0 : Int32)] (ci := 9) rfl (kd_lt kd_at_0 (by decide)) (EK_9 kd_at_0)) rfl rfl hl.1 rfl (lv_room (Nat.le_of_ble_eq_true rfl)) dL_ahead_144 ⟨Nat.le_of_ble_eq_true rfl, Nat.le_of_ble_eq_true rfl⟩) P.2 (fun r20 u19 H locs h P => ?_)
      refine lv_iconst (v := 3) hx hb dL_ahead_147 (by decide) ?_
      refine lv_icmp_eq (tgt := 161) hx hb dL_ahead_148 (by decide) (fun c21 => ?_) (fun c21 => ?_)
      · have h := ite_t h c21
        exact t_L_ahead_161 C _ _ u19 _ _ _ P (lv_sub hl [1, 2, 3] rfl) h
      · have h := ite_f h c21
        refine lv_aload_n hx hb dL_ahead_151 rfl (lv_at hl 1 rfl) ?_
        refine lv_iload_n hx hb dL_ahead_152 rfl (lv_at hl 2 rfl) ?_
        refine lv_iconst (v := 0) hx hb dL_ahead_153 (by decide) ?_
        refine r_calli (F := EC cA o) (va_runV (As := [.int x1, .int (0 : Int32)]) (rest := []) C.1 (c_X9_person l D cA o _ _ u19 _ h) (cwV 2 C.1.2.2.2.2 gL_ahead_X9_person rfl rfl rfl (by decide +kernel) ⟨Nat.le_of_ble_eq_true rfl, Nat.le_of_ble_eq_true rfl⟩) (r_preV C P [.int x1, .int (0 : Int32)] (ci := 9) rfl (kd_lt kd_at_0 (by decide)) (EK_9 kd_at_0)) rfl rfl hl.1 rfl (lv_room (Nat.le_of_ble_eq_true rfl)) dL_ahead_154 ⟨Nat.le_of_ble_eq_true rfl, Nat.le_of_ble_eq_true rfl⟩) P.2 (fun r29 u28 H locs h P => ?_)
        refine lv_iconst (v := 5) hx hb dL_ahead_157 (by decide) ?_
        refine lv_icmp_ne (tgt := 182) hx hb dL_ahead_158 (by decide) (fun c30 => ?_) (fun c30 => ?_)
        · have h := ite_f h c30
          refine lv_iconst (v := 0) hx hb dL_ahead_182 (by decide) ?_
          exact r_iretb C P (Or.inl rfl) h dL_ahead_183
        · have h := ite_t h c30
          exact t_L_ahead_161 C _ _ u28 _ _ _ P (lv_sub hl [1, 2, 3] rfl) h
def w_L_ahead_116  (Φ : Int32 → Mm → Prop) (x1 : Int32) (x2 : Int32) (x3 : Int32) (u0 : Mm) : Prop := (w_X9_undo u0 (fun r38 u37 => (if 0 ≤ r38 then (w_L_ahead_125 Φ x1 x2 x3 u37) else (Φ (0 : Int32) u37))))
set_option maxHeartbeats 4000000 in
set_option maxRecDepth 100000 in
theorem t_L_ahead_116 {p : Program} {l : Launch} {e : Env} {s : State} {m : MethodId} {args : Array Value} {below : List Frame} {meth : Method} {c : Code} {D : va_G} {cA : Nat → ClassId} {o : Nat}  {Φ : Int32 → Mm → Prop} (C : Cx p m meth c s args cL_ahead 5 wsL_ahead RL (some .boolean) D (tysL cA)) : ∀ (x1 : Int32) (x2 : Int32) (x3 : Int32) (u0 : Mm), ∀ (H : Heap) (locs : List Loc) (ls : Array Slot), Hp 747 o D (EC cA o u0) s H locs → lv_has ls 5 [(0, .ref (o + 0)), (1, .int x1), (2, .int x2), (3, .int x3)] → w_L_ahead_116 Φ x1 x2 x3 u0 → W p l e rm_L_ahead s m args below meth c H locs 0 0 (MQ below (Qg vI Φ (fun μ => Wd 747 o D (tysL cA) (EC cA o μ)) (aA o 747)) args s 0 0 (aA o 747)) (F0 m 116 ls []) := by
  intro x1 x2 x3 u0 H locs ls P hl h
  have hx := C.1.1
  have hb := C.1.2.1
  unfold w_L_ahead_116 at h
  refine lv_aload_n hx hb dL_ahead_116 rfl (lv_at hl 0 rfl) ?_
  refine r_calli (F := EC cA o) (va_runV (As := []) (rest := []) C.1 (c_X9_undo l D cA o u0 _ h) (cwV 0 C.1.2.2.2.2 gL_ahead_X9_undo rfl rfl rfl (by decide +kernel) ⟨Nat.le_of_ble_eq_true rfl, Nat.le_of_ble_eq_true rfl⟩) (r_preV C P [] (ci := 9) rfl (kd_lt kd_at_0 (by decide)) (EK_9 kd_at_0)) rfl rfl hl.1 rfl (lv_room (Nat.le_of_ble_eq_true rfl)) dL_ahead_117 ⟨Nat.le_of_ble_eq_true rfl, Nat.le_of_ble_eq_true rfl⟩) P.2 (fun r38 u37 H locs h P => ?_)
  refine lv_if_ge (tgt := 125) hx hb dL_ahead_120 (by decide) (fun c39 => ?_) (fun c39 => ?_)
  · have h := ite_t h c39
    exact t_L_ahead_125 C _ _ _ u37 _ _ _ P (lv_sub hl [0, 1, 2, 3] rfl) h
  · have h := ite_f h c39
    refine lv_iconst (v := 0) hx hb dL_ahead_123 (by decide) ?_
    exact r_iretb C P (Or.inl rfl) h dL_ahead_124
def w_L_ahead (a1 : Int32) (u0 : Mm) (Φ : Int32 → Mm → Prop) : Prop := (w_X9_person a1 ((0 : Int32)) u0 (fun r2 u1 => (w_X9_passesIn a1 u1 (fun r4 u3 => (if r2 = 0 then (if r4 = (-4 : Int32) then (Φ (1 : Int32) u3) else (Φ (0 : Int32) u3)) else (if r2 = (3 : Int32) then (if r4 = (-4 : Int32) then (Φ (1 : Int32) u3) else (Φ (0 : Int32) u3)) else (if r2 = (5 : Int32) then (if r4 = (-4 : Int32) then (Φ (1 : Int32) u3) else (Φ (0 : Int32) u3)) else (if r4 = (-5 : Int32) then (if r4 = (-5 : Int32) then (Φ (1 : Int32) u3) else (if (500 : Int32) < r4 then (Φ (0 : Int32) u3) else (Φ (1 : Int32) u3))) else (if r4 ≤ (200 : Int32) then (if r4 ≤ (1 : Int32) then (w_L_ahead_125 Φ a1 r2 r4 u3) else (w_X9_pass ((r4 - (1 : Int32))) u3 (fun r32 u31 => (if r32 < 0 then (Φ (0 : Int32) u31) else (w_X9_person a1 ((0 : Int32)) u31 (fun r35 u34 => (if r35 = (1 : Int32) then (w_L_ahead_116 Φ a1 r2 r4 u34) else (w_X9_person a1 ((0 : Int32)) u34 (fun r41 u40 => (if r41 = (2 : Int32) then (w_L_ahead_116 Φ a1 r2 r4 u40) else (w_X9_person a1 ((0 : Int32)) u40 (fun r44 u43 => (if r44 = (4 : Int32) then (w_L_ahead_116 Φ a1 r2 r4 u43) else (Φ (0 : Int32) u43)))))))))))))) else (if r4 = (-5 : Int32) then (Φ (1 : Int32) u3) else (if (500 : Int32) < r4 then (Φ (0 : Int32) u3) else (Φ (1 : Int32) u3))))))))))))
set_option maxHeartbeats 4000000 in
set_option maxRecDepth 100000 in
theorem t_L_ahead_0 {p : Program} {l : Launch} {e : Env} {s : State} {m : MethodId} {args : Array Value} {below : List Frame} {meth : Method} {c : Code} {D : va_G} {cA : Nat → ClassId} {o : Nat}  {Φ : Int32 → Mm → Prop} (C : Cx p m meth c s args cL_ahead 5 wsL_ahead RL (some .boolean) D (tysL cA)) : ∀ (a1 : Int32) (u0 : Mm), ∀ (H : Heap) (locs : List Loc) (ls : Array Slot), Hp 747 o D (EC cA o u0) s H locs → lv_has ls 5 [(0, .ref (o + 0)), (1, .int a1)] → w_L_ahead a1 u0 Φ → W p l e rm_L_ahead s m args below meth c H locs 0 0 (MQ below (Qg vI Φ (fun μ => Wd 747 o D (tysL cA) (EC cA o μ)) (aA o 747)) args s 0 0 (aA o 747)) (F0 m 0 ls []) := by
  intro a1 u0 H locs ls P hl h
  have hx := C.1.1
  have hb := C.1.2.1
  unfold w_L_ahead at h
  refine lv_aload_n hx hb dL_ahead_0 rfl (lv_at hl 0 rfl) ?_
  refine lv_iload_n hx hb dL_ahead_1 rfl (lv_at hl 1 rfl) ?_
  refine lv_iconst (v := 0) hx hb dL_ahead_2 (by decide) ?_
  refine r_calli (F := EC cA o) (va_runV (As := [.int a1, .int (0 : Int32)]) (rest := []) C.1 (c_X9_person l D cA o _ _ u0 _ h) (cwV 2 C.1.2.2.2.2 gL_ahead_X9_person rfl rfl rfl (by decide +kernel) ⟨Nat.le_of_ble_eq_true rfl, Nat.le_of_ble_eq_true rfl⟩) (r_preV C P [.int a1, .int (0 : Int32)] (ci := 9) rfl (kd_lt kd_at_0 (by decide)) (EK_9 kd_at_0)) rfl rfl hl.1 rfl (lv_room (Nat.le_of_ble_eq_true rfl)) dL_ahead_3 ⟨Nat.le_of_ble_eq_true rfl, Nat.le_of_ble_eq_true rfl⟩) P.2 (fun r2 u1 H locs h P => ?_)
  refine lv_istore_n (lv' := [(2, .int r2), (0, .ref (o + 0)), (1, .int a1)]) hx hb dL_ahead_6 rfl hl (by decide) rfl (fun ls hl => ?_)
  refine lv_aload_n hx hb dL_ahead_7 rfl (lv_at hl 1 rfl) ?_
  refine lv_iload_n hx hb dL_ahead_8 rfl (lv_at hl 2 rfl) ?_
  refine r_calli (F := EC cA o) (va_runV (As := [.int a1]) (rest := []) C.1 (c_X9_passesIn l D cA o _ u1 _ h) (cwV 1 C.1.2.2.2.2 gL_ahead_X9_passesIn rfl rfl rfl (by decide +kernel) ⟨Nat.le_of_ble_eq_true rfl, Nat.le_of_ble_eq_true rfl⟩) (r_preV C P [.int a1] (ci := 9) rfl (kd_lt kd_at_0 (by decide)) (EK_9 kd_at_0)) rfl rfl hl.1 rfl (lv_room (Nat.le_of_ble_eq_true rfl)) dL_ahead_9 ⟨Nat.le_of_ble_eq_true rfl, Nat.le_of_ble_eq_true rfl⟩) P.2 (fun r4 u3 H locs h P => ?_)
  refine lv_istore_n (lv' := [(3, .int r4), (2, .int r2), (0, .ref (o + 0)), (1, .int a1)]) hx hb dL_ahead_12 rfl hl (by decide) rfl (fun ls hl => ?_)
  refine lv_iload_n hx hb dL_ahead_13 rfl (lv_at hl 1 rfl) ?_
  refine lv_if_eq (tgt := 27) hx hb dL_ahead_14 (by decide) (fun c5 => ?_) (fun c5 => ?_)
  · have h := ite_t h c5
    refine lv_iload_n hx hb dL_ahead_27 rfl (lv_at hl 0 rfl) ?_
    refine lv_bipush (v := -4) hx hb dL_ahead_28 (by decide) ?_
    refine lv_icmp_ne (tgt := 37) hx hb dL_ahead_30 (by decide) (fun c6 => ?_) (fun c6 => ?_)
    · have h := ite_f h c6
      refine lv_iconst (v := 0) hx hb dL_ahead_37 (by decide) ?_
      exact r_iretb C P (Or.inl rfl) h dL_ahead_38
    · have h := ite_t h c6
      refine lv_iconst (v := 1) hx hb dL_ahead_33 (by decide) ?_
      refine lv_goto (tgt := 38) hx hb dL_ahead_34 (by decide) ?_
      exact r_iretb C P (Or.inr rfl) h dL_ahead_38
  · have h := ite_f h c5
    refine lv_iload_n hx hb dL_ahead_17 rfl (lv_at hl 1 rfl) ?_
    refine lv_iconst (v := 3) hx hb dL_ahead_18 (by decide) ?_
    refine lv_icmp_eq (tgt := 27) hx hb dL_ahead_19 (by decide) (fun c7 => ?_) (fun c7 => ?_)
    · have h := ite_t h c7
      refine lv_iload_n hx hb dL_ahead_27 rfl (lv_at hl 0 rfl) ?_
      refine lv_bipush (v := -4) hx hb dL_ahead_28 (by decide) ?_
      refine lv_icmp_ne (tgt := 37) hx hb dL_ahead_30 (by decide) (fun c8 => ?_) (fun c8 => ?_)
      · have h := ite_f h c8
        refine lv_iconst (v := 0) hx hb dL_ahead_37 (by decide) ?_
        exact r_iretb C P (Or.inl rfl) h dL_ahead_38
      · have h := ite_t h c8
        refine lv_iconst (v := 1) hx hb dL_ahead_33 (by decide) ?_
        refine lv_goto (tgt := 38) hx hb dL_ahead_34 (by decide) ?_
        exact r_iretb C P (Or.inr rfl) h dL_ahead_38
    · have h := ite_f h c7
      refine lv_iload_n hx hb dL_ahead_22 rfl (lv_at hl 1 rfl) ?_
      refine lv_iconst (v := 5) hx hb dL_ahead_23 (by decide) ?_
      refine lv_icmp_ne (tgt := 39) hx hb dL_ahead_24 (by decide) (fun c9 => ?_) (fun c9 => ?_)
      · have h := ite_f h c9
        refine lv_iload_n hx hb dL_ahead_39 rfl (lv_at hl 0 rfl) ?_
        refine lv_bipush (v := -5) hx hb dL_ahead_40 (by decide) ?_
        refine lv_icmp_eq (tgt := 52) hx hb dL_ahead_42 (by decide) (fun c10 => ?_) (fun c10 => ?_)
        · have h := ite_t h c10
          refine lv_iload_n hx hb dL_ahead_52 rfl (lv_at hl 0 rfl) ?_
          refine lv_bipush (v := -5) hx hb dL_ahead_53 (by decide) ?_
          refine lv_icmp_eq (tgt := 65) hx hb dL_ahead_55 (by decide) (fun c11 => ?_) (fun c11 => ?_)
          · have h := ite_t h c11
            refine lv_iconst (v := 1) hx hb dL_ahead_65 (by decide) ?_
            refine lv_goto (tgt := 70) hx hb dL_ahead_66 (by decide) ?_
            exact r_iretb C P (Or.inr rfl) h dL_ahead_70
          · have h := ite_f h c11
            refine lv_iload_n hx hb dL_ahead_58 rfl (lv_at hl 0 rfl) ?_
            refine lv_sipush (v := 500) hx hb dL_ahead_59 (by decide) ?_
            refine lv_icmp_gt (tgt := 69) hx hb dL_ahead_62 (by decide) (fun c12 => ?_) (fun c12 => ?_)
            · have h := ite_t h c12
              refine lv_iconst (v := 0) hx hb dL_ahead_69 (by decide) ?_
              exact r_iretb C P (Or.inl rfl) h dL_ahead_70
            · have h := ite_f h c12
              refine lv_iconst (v := 1) hx hb dL_ahead_65 (by decide) ?_
              refine lv_goto (tgt := 70) hx hb dL_ahead_66 (by decide) ?_
              exact r_iretb C P (Or.inr rfl) h dL_ahead_70
        · have h := ite_f h c10
          refine lv_iload_n hx hb dL_ahead_45 rfl (lv_at hl 0 rfl) ?_
          refine lv_sipush (v := 200) hx hb dL_ahead_46 (by decide) ?_
          refine lv_icmp_le (tgt := 71) hx hb dL_ahead_49 (by decide) (fun c13 => ?_) (fun c13 => ?_)
          · have h := ite_t h c13
            refine lv_iload_n hx hb dL_ahead_71 rfl (lv_at hl 0 rfl) ?_
            refine lv_iconst (v := 1) hx hb dL_ahead_72 (by decide) ?_
            refine lv_icmp_le (tgt := 125) hx hb dL_ahead_73 (by decide) (fun c14 => ?_) (fun c14 => ?_)
            · have h := ite_t h c14
              exact t_L_ahead_125 C _ _ _ u3 _ _ _ P (lv_sub hl [2, 3, 1, 0] rfl) h
            · have h := ite_f h c14
              refine lv_aload_n hx hb dL_ahead_76 rfl (lv_at hl 2 rfl) ?_
              refine lv_iload_n hx hb dL_ahead_77 rfl (lv_at hl 0 rfl) ?_
              refine lv_iconst (v := 1) hx hb dL_ahead_78 (by decide) ?_
              refine lv_isub hx hb dL_ahead_79 ?_
              refine r_calli (F := EC cA o) (va_runV (As := [.int (r4 - (1 : Int32))]) (rest := []) C.1 (c_X9_pass l D cA o _ u3 _ h) (cwV 1 C.1.2.2.2.2 gL_ahead_X9_pass rfl rfl rfl (by decide +kernel) ⟨Nat.le_of_ble_eq_true rfl, Nat.le_of_ble_eq_true rfl⟩) (r_preV C P [.int (r4 - (1 : Int32))] (ci := 9) rfl (kd_lt kd_at_0 (by decide)) (EK_9 kd_at_0)) rfl rfl hl.1 rfl (lv_room (Nat.le_of_ble_eq_true rfl)) dL_ahead_80 ⟨Nat.le_of_ble_eq_true rfl, Nat.le_of_ble_eq_true rfl⟩) P.2 (fun r32 u31 H locs h P => ?_)
              refine lv_if_lt (tgt := 123) hx hb dL_ahead_83 (by decide) (fun c33 => ?_) (fun c33 => ?_)
              · have h := ite_t h c33
                refine lv_iconst (v := 0) hx hb dL_ahead_123 (by decide) ?_
                exact r_iretb C P (Or.inl rfl) h dL_ahead_124
              · have h := ite_f h c33
                refine lv_aload_n hx hb dL_ahead_86 rfl (lv_at hl 2 rfl) ?_
                refine lv_iload_n hx hb dL_ahead_87 rfl (lv_at hl 3 rfl) ?_
                refine lv_iconst (v := 0) hx hb dL_ahead_88 (by decide) ?_
                refine r_calli (F := EC cA o) (va_runV (As := [.int a1, .int (0 : Int32)]) (rest := []) C.1 (c_X9_person l D cA o _ _ u31 _ h) (cwV 2 C.1.2.2.2.2 gL_ahead_X9_person rfl rfl rfl (by decide +kernel) ⟨Nat.le_of_ble_eq_true rfl, Nat.le_of_ble_eq_true rfl⟩) (r_preV C P [.int a1, .int (0 : Int32)] (ci := 9) rfl (kd_lt kd_at_0 (by decide)) (EK_9 kd_at_0)) rfl rfl hl.1 rfl (lv_room (Nat.le_of_ble_eq_true rfl)) dL_ahead_89 ⟨Nat.le_of_ble_eq_true rfl, Nat.le_of_ble_eq_true rfl⟩) P.2 (fun r35 u34 H locs h P => ?_)
                refine lv_iconst (v := 1) hx hb dL_ahead_92 (by decide) ?_
                refine lv_icmp_eq (tgt := 116) hx hb dL_ahead_93 (by decide) (fun c36 => ?_) (fun c36 => ?_)
                · have h := ite_t h c36
                  exact t_L_ahead_116 C _ _ _ u34 _ _ _ P (lv_sub hl [2, 3, 1, 0] rfl) h
                · have h := ite_f h c36
                  refine lv_aload_n hx hb dL_ahead_96 rfl (lv_at hl 2 rfl) ?_
                  refine lv_iload_n hx hb dL_ahead_97 rfl (lv_at hl 3 rfl) ?_
                  refine lv_iconst (v := 0) hx hb dL_ahead_98 (by decide) ?_
                  refine r_calli (F := EC cA o) (va_runV (As := [.int a1, .int (0 : Int32)]) (rest := []) C.1 (c_X9_person l D cA o _ _ u34 _ h) (cwV 2 C.1.2.2.2.2 gL_ahead_X9_person rfl rfl rfl (by decide +kernel) ⟨Nat.le_of_ble_eq_true rfl, Nat.le_of_ble_eq_true rfl⟩) (r_preV C P [.int a1, .int (0 : Int32)] (ci := 9) rfl (kd_lt kd_at_0 (by decide)) (EK_9 kd_at_0)) rfl rfl hl.1 rfl (lv_room (Nat.le_of_ble_eq_true rfl)) dL_ahead_99 ⟨Nat.le_of_ble_eq_true rfl, Nat.le_of_ble_eq_true rfl⟩) P.2 (fun r41 u40 H locs h P => ?_)
                  refine lv_iconst (v := 2) hx hb dL_ahead_102 (by decide) ?_
                  refine lv_icmp_eq (tgt := 116) hx hb dL_ahead_103 (by decide) (fun c42 => ?_) (fun c42 => ?_)
                  · have h := ite_t h c42
                    exact t_L_ahead_116 C _ _ _ u40 _ _ _ P (lv_sub hl [2, 3, 1, 0] rfl) h
                  · have h := ite_f h c42
                    refine lv_aload_n hx hb dL_ahead_106 rfl (lv_at hl 2 rfl) ?_
                    refine lv_iload_n hx hb dL_ahead_107 rfl (lv_at hl 3 rfl) ?_
                    refine lv_iconst (v := 0) hx hb dL_ahead_108 (by decide) ?_
                    refine r_calli (F := EC cA o) (va_runV (As := [.int a1, .int (0 : Int32)]) (rest := []) C.1 (c_X9_person l D cA o _ _ u40 _ h) (cwV 2 C.1.2.2.2.2 gL_ahead_X9_person rfl rfl rfl (by decide +kernel) ⟨Nat.le_of_ble_eq_true rfl, Nat.le_of_ble_eq_true rfl⟩) (r_preV C P [.int a1, .int (0 : Int32)] (ci := 9) rfl (kd_lt kd_at_0 (by decide)) (EK_9 kd_at_0)) rfl rfl hl.1 rfl (lv_room (Nat.le_of_ble_eq_true rfl)) dL_ahead_109 ⟨Nat.le_of_ble_eq_true rfl, Nat.le_of_ble_eq_true rfl⟩) P.2 (fun r44 u43 H locs h P => ?_)
                    refine lv_iconst (v := 4) hx hb dL_ahead_112 (by decide) ?_
                    refine lv_icmp_ne (tgt := 123) hx hb dL_ahead_113 (by decide) (fun c45 => ?_) (fun c45 => ?_)
                    · have h := ite_f h c45
                      refine lv_iconst (v := 0) hx hb dL_ahead_123 (by decide) ?_
                      exact r_iretb C P (Or.inl rfl) h dL_ahead_124
                    · have h := ite_t h c45
                      exact t_L_ahead_116 C _ _ _ u43 _ _ _ P (lv_sub hl [2, 3, 1, 0] rfl) h
          · have h := ite_f h c13
            refine lv_iload_n hx hb dL_ahead_52 rfl (lv_at hl 0 rfl) ?_
            refine lv_bipush (v := -5) hx hb dL_ahead_53 (by decide) ?_
            refine lv_icmp_eq (tgt := 65) hx hb dL_ahead_55 (by decide) (fun c46 => ?_) (fun c46 => ?_)
            · have h := ite_t h c46
              refine lv_iconst (v := 1) hx hb dL_ahead_65 (by decide) ?_
              refine lv_goto (tgt := 70) hx hb dL_ahead_66 (by decide) ?_
              exact r_iretb C P (Or.inr rfl) h dL_ahead_70
            · have h := ite_f h c46
              refine lv_iload_n hx hb dL_ahead_58 rfl (lv_at hl 0 rfl) ?_
              refine lv_sipush (v := 500) hx hb dL_ahead_59 (by decide) ?_
              refine lv_icmp_gt (tgt := 69) hx hb dL_ahead_62 (by decide) (fun c47 => ?_) (fun c47 => ?_)
              · have h := ite_t h c47
                refine lv_iconst (v := 0) hx hb dL_ahead_69 (by decide) ?_
                exact r_iretb C P (Or.inl rfl) h dL_ahead_70
              · have h := ite_f h c47
                refine lv_iconst (v := 1) hx hb dL_ahead_65 (by decide) ?_
                refine lv_goto (tgt := 70) hx hb dL_ahead_66 (by decide) ?_
                exact r_iretb C P (Or.inr rfl) h dL_ahead_70
      · have h := ite_t h c9
        refine lv_iload_n hx hb dL_ahead_27 rfl (lv_at hl 0 rfl) ?_
        refine lv_bipush (v := -4) hx hb dL_ahead_28 (by decide) ?_
        refine lv_icmp_ne (tgt := 37) hx hb dL_ahead_30 (by decide) (fun c48 => ?_) (fun c48 => ?_)
        · have h := ite_f h c48
          refine lv_iconst (v := 0) hx hb dL_ahead_37 (by decide) ?_
          exact r_iretb C P (Or.inl rfl) h dL_ahead_38
        · have h := ite_t h c48
          refine lv_iconst (v := 1) hx hb dL_ahead_33 (by decide) ?_
          refine lv_goto (tgt := 38) hx hb dL_ahead_34 (by decide) ?_
          exact r_iretb C P (Or.inr rfl) h dL_ahead_38
set_option maxHeartbeats 4000000 in
set_option maxRecDepth 100000 in
theorem c_L_ahead (l : Launch) (D : va_G) (cA : Nat → ClassId) (o : Nat) (a1 : Int32)  (u0 : Mm) (Φ : Int32 → Mm → Prop) (h : w_L_ahead a1 u0 Φ) : Met l yL_ahead wsL_ahead rm_L_ahead (va_Pc [.ref (o + 0), .int a1] (Wd 747 o D (tysL cA) (EC cA o u0))) (Qg vI Φ (fun μ => Wd 747 o D (tysL cA) (EC cA o μ)) (aA o 747)) 0 0 (aA o 747) := by
  refine Met.ofW (cc := cL_ahead) (maxL := 5) (ret := (some .boolean)) (by decide) rfl ?_
  intro p e s m args below meth c s₁ B hml hv
  obtain ⟨rfl, hv⟩ := hv
  have hl := lv_entry ([.ref (o + 0), .int a1]) (n := 5) (Nat.le_of_ble_eq_true rfl)
  rw [lg_entry_eq]
  exact t_L_ahead_0 ⟨⟨B.exec, B.bytes, hml, findClass_of_methodNamed B.named, atoms_spec (ws := wsL_ahead) B.pre⟩, B.returns, B.notSynchronized, hv.2⟩ a1 u0 _ _ _ ⟨hv.1, va_S.rf⟩ hl h
abbrev rm_L_diverts : Room := { frames := 6, cells := 0, slots := 0, locals := 147 }
def w_L_diverts_54  (Φ : Int32 → Mm → Prop) (x1 : Int32) (x2 : Int32) (x3 : Int32) (x4 : Int32) (x5 : Int32) (z0 : Int32) (u0 : Mm) : Prop := (w_X9_gate x2 ((4 : Int32)) u0 (fun r15 u14 => (w_X9_divert x1 x2 u14 (fun r17 u16 => (if x1 = x2 then (if r17 = (-2 : Int32) then (Φ (1 : Int32) u16) else (Φ (0 : Int32) u16)) else (if x3 = 0 then (if r17 = (-5 : Int32) then (Φ (1 : Int32) u16) else (Φ (0 : Int32) u16)) else (if r17 = x3 then (w_X9_gate x1 ((4 : Int32)) u16 (fun r22 u21 => (w_X9_gate x1 ((5 : Int32)) u21 (fun r24 u23 => (if (r22 + r24) = 0 then (w_X9_gate x2 ((4 : Int32)) u23 (fun r27 u26 => (w_X9_gate x2 ((5 : Int32)) u26 (fun r29 u28 => (if (r27 + r29) = (x4 + x3) then (if x5 < 0 then (Φ (1 : Int32) u28) else (w_X9_queued x2 ((0 : Int32)) r15 u28 (fun r33 u32 => (if r33 = x5 then (w_X9_person x5 ((5 : Int32)) u32 (fun r36 u35 => (if r36 = z0 then (Φ (1 : Int32) u35) else (Φ (0 : Int32) u35)))) else (Φ (0 : Int32) u32))))) else (Φ (0 : Int32) u28)))))) else (Φ (0 : Int32) u23)))))) else (Φ (0 : Int32) u16))))))))
set_option maxHeartbeats 4000000 in
set_option maxRecDepth 100000 in
theorem t_L_diverts_54 {p : Program} {l : Launch} {e : Env} {s : State} {m : MethodId} {args : Array Value} {below : List Frame} {meth : Method} {c : Code} {D : va_G} {cA : Nat → ClassId} {o : Nat}  {Φ : Int32 → Mm → Prop} (C : Cx p m meth c s args cL_diverts 9 wsL_diverts RL (some .boolean) D (tysL cA)) : ∀ (x1 : Int32) (x2 : Int32) (x3 : Int32) (x4 : Int32) (x5 : Int32) (z0 : Int32) (u0 : Mm), ∀ (H : Heap) (locs : List Loc) (ls : Array Slot), Hp 747 o D (EC cA o u0) s H locs → lv_has ls 9 [(0, .ref (o + 0)), (1, .int x1), (2, .int x2), (3, .int x3), (4, .int x4), (5, .int x5)] → w_L_diverts_54 Φ x1 x2 x3 x4 x5 z0 u0 → W p l e rm_L_diverts s m args below meth c H locs 0 0 (MQ below (Qg vI Φ (fun μ => Wd 747 o D (tysL cA) (EC cA o μ)) (aA o 747)) args s 0 0 (aA o 747)) (F0 m 54 ls [.int z0]) := by
  intro x1 x2 x3 x4 x5 z0 u0 H locs ls P hl h
  have hx := C.1.1
  have hb := C.1.2.1
  unfold w_L_diverts_54 at h
  refine lv_istore (lv' := [(6, .int z0), (0, .ref (o + 0)), (1, .int x1), (2, .int x2), (3, .int x3), (4, .int x4), (5, .int x5)]) hx hb dL_diverts_54 hl (by decide) rfl (fun ls hl => ?_)
  refine lv_aload_n hx hb dL_diverts_56 rfl (lv_at hl 1 rfl) ?_
  refine lv_iload_n hx hb dL_diverts_57 rfl (lv_at hl 3 rfl) ?_
  refine lv_iconst (v := 4) hx hb dL_diverts_58 (by decide) ?_
  refine r_calli (F := EC cA o) (va_runV (As := [.int x2, .int (4 : Int32)]) (rest := []) C.1 (c_X9_gate l D cA o _ _ u0 _ h) (cwV 2 C.1.2.2.2.2 gL_diverts_X9_gate rfl rfl rfl (by decide +kernel) ⟨Nat.le_of_ble_eq_true rfl, Nat.le_of_ble_eq_true rfl⟩) (r_preV C P [.int x2, .int (4 : Int32)] (ci := 9) rfl (kd_lt kd_at_0 (by decide)) (EK_9 kd_at_0)) rfl rfl hl.1 rfl (lv_room (Nat.le_of_ble_eq_true rfl)) dL_diverts_59 ⟨Nat.le_of_ble_eq_true rfl, Nat.le_of_ble_eq_true rfl⟩) P.2 (fun r15 u14 H locs h P => ?_)
  refine lv_istore (lv' := [(7, .int r15), (6, .int z0), (0, .ref (o + 0)), (1, .int x1), (2, .int x2), (3, .int x3), (4, .int x4), (5, .int x5)]) hx hb dL_diverts_62 hl (by decide) rfl (fun ls hl => ?_)
  refine lv_aload_n hx hb dL_diverts_64 rfl (lv_at hl 2 rfl) ?_
  refine lv_iload_n hx hb dL_diverts_65 rfl (lv_at hl 3 rfl) ?_
  refine lv_iload_n hx hb dL_diverts_66 rfl (lv_at hl 4 rfl) ?_
  refine r_calli (F := EC cA o) (va_runV (As := [.int x1, .int x2]) (rest := []) C.1 (c_X9_divert l D cA o _ _ u14 _ h) (cwV 2 C.1.2.2.2.2 gL_diverts_X9_divert rfl rfl rfl (by decide +kernel) ⟨Nat.le_of_ble_eq_true rfl, Nat.le_of_ble_eq_true rfl⟩) (r_preV C P [.int x1, .int x2] (ci := 9) rfl (kd_lt kd_at_0 (by decide)) (EK_9 kd_at_0)) rfl rfl hl.1 rfl (lv_room (Nat.le_of_ble_eq_true rfl)) dL_diverts_67 ⟨Nat.le_of_ble_eq_true rfl, Nat.le_of_ble_eq_true rfl⟩) P.2 (fun r17 u16 H locs h P => ?_)
  refine lv_istore (lv' := [(8, .int r17), (7, .int r15), (6, .int z0), (0, .ref (o + 0)), (1, .int x1), (2, .int x2), (3, .int x3), (4, .int x4), (5, .int x5)]) hx hb dL_diverts_70 hl (by decide) rfl (fun ls hl => ?_)
  refine lv_iload_n hx hb dL_diverts_72 rfl (lv_at hl 4 rfl) ?_
  refine lv_iload_n hx hb dL_diverts_73 rfl (lv_at hl 5 rfl) ?_
  refine lv_icmp_ne (tgt := 90) hx hb dL_diverts_74 (by decide) (fun c18 => ?_) (fun c18 => ?_)
  · have h := ite_f h c18
    refine lv_iload_n hx hb dL_diverts_90 rfl (lv_at hl 6 rfl) ?_
    refine lv_if_ne (tgt := 107) hx hb dL_diverts_91 (by decide) (fun c19 => ?_) (fun c19 => ?_)
    · have h := ite_f h c19
      refine lv_iload hx hb dL_diverts_107 (lv_at hl 0 rfl) ?_
      refine lv_iload_n hx hb dL_diverts_109 rfl (lv_at hl 6 rfl) ?_
      refine lv_icmp_ne (tgt := 183) hx hb dL_diverts_110 (by decide) (fun c20 => ?_) (fun c20 => ?_)
      · have h := ite_f h c20
        refine lv_iconst (v := 0) hx hb dL_diverts_183 (by decide) ?_
        exact r_iretb C P (Or.inl rfl) h dL_diverts_184
      · have h := ite_t h c20
        refine lv_aload_n hx hb dL_diverts_113 rfl (lv_at hl 3 rfl) ?_
        refine lv_iload_n hx hb dL_diverts_114 rfl (lv_at hl 4 rfl) ?_
        refine lv_iconst (v := 4) hx hb dL_diverts_115 (by decide) ?_
        refine r_calli (F := EC cA o) (va_runV (As := [.int x1, .int (4 : Int32)]) (rest := []) C.1 (c_X9_gate l D cA o _ _ u16 _ h) (cwV 2 C.1.2.2.2.2 gL_diverts_X9_gate rfl rfl rfl (by decide +kernel) ⟨Nat.le_of_ble_eq_true rfl, Nat.le_of_ble_eq_true rfl⟩) (r_preV C P [.int x1, .int (4 : Int32)] (ci := 9) rfl (kd_lt kd_at_0 (by decide)) (EK_9 kd_at_0)) rfl rfl hl.1 rfl (lv_room (Nat.le_of_ble_eq_true rfl)) dL_diverts_116 ⟨Nat.le_of_ble_eq_true rfl, Nat.le_of_ble_eq_true rfl⟩) P.2 (fun r22 u21 H locs h P => ?_)
        refine lv_aload_n hx hb dL_diverts_119 rfl (lv_at hl 3 rfl) ?_
        refine lv_iload_n hx hb dL_diverts_120 rfl (lv_at hl 4 rfl) ?_
        refine lv_iconst (v := 5) hx hb dL_diverts_121 (by decide) ?_
        refine r_calli (F := EC cA o) (va_runV (As := [.int x1, .int (5 : Int32)]) (rest := [.int r22]) C.1 (c_X9_gate l D cA o _ _ u21 _ h) (cwV 2 C.1.2.2.2.2 gL_diverts_X9_gate rfl rfl rfl (by decide +kernel) ⟨Nat.le_of_ble_eq_true rfl, Nat.le_of_ble_eq_true rfl⟩) (r_preV C P [.int x1, .int (5 : Int32)] (ci := 9) rfl (kd_lt kd_at_0 (by decide)) (EK_9 kd_at_0)) rfl rfl hl.1 rfl (lv_room (Nat.le_of_ble_eq_true rfl)) dL_diverts_122 ⟨Nat.le_of_ble_eq_true rfl, Nat.le_of_ble_eq_true rfl⟩) P.2 (fun r24 u23 H locs h P => ?_)
        refine lv_iadd hx hb dL_diverts_125 ?_
        refine lv_if_ne (tgt := 183) hx hb dL_diverts_126 (by decide) (fun c25 => ?_) (fun c25 => ?_)
        · have h := ite_f h c25
          refine lv_iconst (v := 0) hx hb dL_diverts_183 (by decide) ?_
          exact r_iretb C P (Or.inl rfl) h dL_diverts_184
        · have h := ite_t h c25
          refine lv_aload_n hx hb dL_diverts_129 rfl (lv_at hl 3 rfl) ?_
          refine lv_iload_n hx hb dL_diverts_130 rfl (lv_at hl 5 rfl) ?_
          refine lv_iconst (v := 4) hx hb dL_diverts_131 (by decide) ?_
          refine r_calli (F := EC cA o) (va_runV (As := [.int x2, .int (4 : Int32)]) (rest := []) C.1 (c_X9_gate l D cA o _ _ u23 _ h) (cwV 2 C.1.2.2.2.2 gL_diverts_X9_gate rfl rfl rfl (by decide +kernel) ⟨Nat.le_of_ble_eq_true rfl, Nat.le_of_ble_eq_true rfl⟩) (r_preV C P [.int x2, .int (4 : Int32)] (ci := 9) rfl (kd_lt kd_at_0 (by decide)) (EK_9 kd_at_0)) rfl rfl hl.1 rfl (lv_room (Nat.le_of_ble_eq_true rfl)) dL_diverts_132 ⟨Nat.le_of_ble_eq_true rfl, Nat.le_of_ble_eq_true rfl⟩) P.2 (fun r27 u26 H locs h P => ?_)
          refine lv_aload_n hx hb dL_diverts_135 rfl (lv_at hl 3 rfl) ?_
          refine lv_iload_n hx hb dL_diverts_136 rfl (lv_at hl 5 rfl) ?_
          refine lv_iconst (v := 5) hx hb dL_diverts_137 (by decide) ?_
          refine r_calli (F := EC cA o) (va_runV (As := [.int x2, .int (5 : Int32)]) (rest := [.int r27]) C.1 (c_X9_gate l D cA o _ _ u26 _ h) (cwV 2 C.1.2.2.2.2 gL_diverts_X9_gate rfl rfl rfl (by decide +kernel) ⟨Nat.le_of_ble_eq_true rfl, Nat.le_of_ble_eq_true rfl⟩) (r_preV C P [.int x2, .int (5 : Int32)] (ci := 9) rfl (kd_lt kd_at_0 (by decide)) (EK_9 kd_at_0)) rfl rfl hl.1 rfl (lv_room (Nat.le_of_ble_eq_true rfl)) dL_diverts_138 ⟨Nat.le_of_ble_eq_true rfl, Nat.le_of_ble_eq_true rfl⟩) P.2 (fun r29 u28 H locs h P => ?_)
          refine lv_iadd hx hb dL_diverts_141 ?_
          refine lv_iload hx hb dL_diverts_142 (lv_at hl 7 rfl) ?_
          refine lv_iload_n hx hb dL_diverts_144 rfl (lv_at hl 6 rfl) ?_
          refine lv_iadd hx hb dL_diverts_145 ?_
          refine lv_icmp_ne (tgt := 183) hx hb dL_diverts_146 (by decide) (fun c30 => ?_) (fun c30 => ?_)
          · have h := ite_f h c30
            refine lv_iconst (v := 0) hx hb dL_diverts_183 (by decide) ?_
            exact r_iretb C P (Or.inl rfl) h dL_diverts_184
          · have h := ite_t h c30
            refine lv_iload hx hb dL_diverts_149 (lv_at hl 8 rfl) ?_
            refine lv_if_lt (tgt := 179) hx hb dL_diverts_151 (by decide) (fun c31 => ?_) (fun c31 => ?_)
            · have h := ite_t h c31
              refine lv_iconst (v := 1) hx hb dL_diverts_179 (by decide) ?_
              refine lv_goto (tgt := 184) hx hb dL_diverts_180 (by decide) ?_
              exact r_iretb C P (Or.inr rfl) h dL_diverts_184
            · have h := ite_f h c31
              refine lv_aload_n hx hb dL_diverts_154 rfl (lv_at hl 3 rfl) ?_
              refine lv_iload_n hx hb dL_diverts_155 rfl (lv_at hl 5 rfl) ?_
              refine lv_iconst (v := 0) hx hb dL_diverts_156 (by decide) ?_
              refine lv_iload hx hb dL_diverts_157 (lv_at hl 1 rfl) ?_
              refine r_calli (F := EC cA o) (va_runV (As := [.int x2, .int (0 : Int32), .int r15]) (rest := []) C.1 (c_X9_queued l D cA o _ _ _ u28 _ h) (cwV 3 C.1.2.2.2.2 gL_diverts_X9_queued rfl rfl rfl (by decide +kernel) ⟨Nat.le_of_ble_eq_true rfl, Nat.le_of_ble_eq_true rfl⟩) (r_preV C P [.int x2, .int (0 : Int32), .int r15] (ci := 9) rfl (kd_lt kd_at_0 (by decide)) (EK_9 kd_at_0)) rfl rfl hl.1 rfl (lv_room (Nat.le_of_ble_eq_true rfl)) dL_diverts_159 ⟨Nat.le_of_ble_eq_true rfl, Nat.le_of_ble_eq_true rfl⟩) P.2 (fun r33 u32 H locs h P => ?_)
              refine lv_iload hx hb dL_diverts_162 (lv_at hl 8 rfl) ?_
              refine lv_icmp_ne (tgt := 183) hx hb dL_diverts_164 (by decide) (fun c34 => ?_) (fun c34 => ?_)
              · have h := ite_f h c34
                refine lv_iconst (v := 0) hx hb dL_diverts_183 (by decide) ?_
                exact r_iretb C P (Or.inl rfl) h dL_diverts_184
              · have h := ite_t h c34
                refine lv_aload_n hx hb dL_diverts_167 rfl (lv_at hl 3 rfl) ?_
                refine lv_iload hx hb dL_diverts_168 (lv_at hl 8 rfl) ?_
                refine lv_iconst (v := 5) hx hb dL_diverts_170 (by decide) ?_
                refine r_calli (F := EC cA o) (va_runV (As := [.int x5, .int (5 : Int32)]) (rest := []) C.1 (c_X9_person l D cA o _ _ u32 _ h) (cwV 2 C.1.2.2.2.2 gL_diverts_X9_person rfl rfl rfl (by decide +kernel) ⟨Nat.le_of_ble_eq_true rfl, Nat.le_of_ble_eq_true rfl⟩) (r_preV C P [.int x5, .int (5 : Int32)] (ci := 9) rfl (kd_lt kd_at_0 (by decide)) (EK_9 kd_at_0)) rfl rfl hl.1 rfl (lv_room (Nat.le_of_ble_eq_true rfl)) dL_diverts_171 ⟨Nat.le_of_ble_eq_true rfl, Nat.le_of_ble_eq_true rfl⟩) P.2 (fun r36 u35 H locs h P => ?_)
                refine lv_iload hx hb dL_diverts_174 (lv_at hl 2 rfl) ?_
                refine lv_icmp_ne (tgt := 183) hx hb dL_diverts_176 (by decide) (fun c37 => ?_) (fun c37 => ?_)
                · have h := ite_f h c37
                  refine lv_iconst (v := 0) hx hb dL_diverts_183 (by decide) ?_
                  exact r_iretb C P (Or.inl rfl) h dL_diverts_184
                · have h := ite_t h c37
                  refine lv_iconst (v := 1) hx hb dL_diverts_179 (by decide) ?_
                  refine lv_goto (tgt := 184) hx hb dL_diverts_180 (by decide) ?_
                  exact r_iretb C P (Or.inr rfl) h dL_diverts_184
    · have h := ite_t h c19
      refine lv_iload hx hb dL_diverts_94 (lv_at hl 0 rfl) ?_
      refine lv_bipush (v := -5) hx hb dL_diverts_96 (by decide) ?_
      refine lv_icmp_ne (tgt := 105) hx hb dL_diverts_98 (by decide) (fun c38 => ?_) (fun c38 => ?_)
      · have h := ite_f h c38
        refine lv_iconst (v := 0) hx hb dL_diverts_105 (by decide) ?_
        exact r_iretb C P (Or.inl rfl) h dL_diverts_106
      · have h := ite_t h c38
        refine lv_iconst (v := 1) hx hb dL_diverts_101 (by decide) ?_
        refine lv_goto (tgt := 106) hx hb dL_diverts_102 (by decide) ?_
        exact r_iretb C P (Or.inr rfl) h dL_diverts_106
  · have h := ite_t h c18
    refine lv_iload hx hb dL_diverts_77 (lv_at hl 0 rfl) ?_
    refine lv_bipush (v := -2) hx hb dL_diverts_79 (by decide) ?_
    refine lv_icmp_ne (tgt := 88) hx hb dL_diverts_81 (by decide) (fun c39 => ?_) (fun c39 => ?_)
    · have h := ite_f h c39
      refine lv_iconst (v := 0) hx hb dL_diverts_88 (by decide) ?_
      exact r_iretb C P (Or.inl rfl) h dL_diverts_89
    · have h := ite_t h c39
      refine lv_iconst (v := 1) hx hb dL_diverts_84 (by decide) ?_
      refine lv_goto (tgt := 89) hx hb dL_diverts_85 (by decide) ?_
      exact r_iretb C P (Or.inr rfl) h dL_diverts_89
def w_L_diverts (a1 : Int32) (a2 : Int32) (u0 : Mm) (Φ : Int32 → Mm → Prop) : Prop := (w_X9_gate a1 ((4 : Int32)) u0 (fun r2 u1 => (w_X9_gate a1 ((5 : Int32)) u1 (fun r4 u3 => (w_X9_gate a2 ((4 : Int32)) u3 (fun r6 u5 => (w_X9_gate a2 ((5 : Int32)) u5 (fun r8 u7 => (w_X9_queued a1 ((0 : Int32)) ((0 : Int32)) u7 (fun r10 u9 => (if 0 ≤ r10 then (w_X9_person r10 ((5 : Int32)) u9 (fun r13 u12 => (w_L_diverts_54 Φ a1 a2 ((r2 + r4)) ((r6 + r8)) r10 r13 u12))) else (w_L_diverts_54 Φ a1 a2 ((r2 + r4)) ((r6 + r8)) r10 ((0 : Int32)) u9))))))))))))
set_option maxHeartbeats 4000000 in
set_option maxRecDepth 100000 in
theorem t_L_diverts_0 {p : Program} {l : Launch} {e : Env} {s : State} {m : MethodId} {args : Array Value} {below : List Frame} {meth : Method} {c : Code} {D : va_G} {cA : Nat → ClassId} {o : Nat}  {Φ : Int32 → Mm → Prop} (C : Cx p m meth c s args cL_diverts 9 wsL_diverts RL (some .boolean) D (tysL cA)) : ∀ (a1 : Int32) (a2 : Int32) (u0 : Mm), ∀ (H : Heap) (locs : List Loc) (ls : Array Slot), Hp 747 o D (EC cA o u0) s H locs → lv_has ls 9 [(0, .ref (o + 0)), (1, .int a1), (2, .int a2)] → w_L_diverts a1 a2 u0 Φ → W p l e rm_L_diverts s m args below meth c H locs 0 0 (MQ below (Qg vI Φ (fun μ => Wd 747 o D (tysL cA) (EC cA o μ)) (aA o 747)) args s 0 0 (aA o 747)) (F0 m 0 ls []) := by
  intro a1 a2 u0 H locs ls P hl h
  have hx := C.1.1
  have hb := C.1.2.1
  unfold w_L_diverts at h
  refine lv_aload_n hx hb dL_diverts_0 rfl (lv_at hl 0 rfl) ?_
  refine lv_iload_n hx hb dL_diverts_1 rfl (lv_at hl 1 rfl) ?_
  refine lv_iconst (v := 4) hx hb dL_diverts_2 (by decide) ?_
  refine r_calli (F := EC cA o) (va_runV (As := [.int a1, .int (4 : Int32)]) (rest := []) C.1 (c_X9_gate l D cA o _ _ u0 _ h) (cwV 2 C.1.2.2.2.2 gL_diverts_X9_gate rfl rfl rfl (by decide +kernel) ⟨Nat.le_of_ble_eq_true rfl, Nat.le_of_ble_eq_true rfl⟩) (r_preV C P [.int a1, .int (4 : Int32)] (ci := 9) rfl (kd_lt kd_at_0 (by decide)) (EK_9 kd_at_0)) rfl rfl hl.1 rfl (lv_room (Nat.le_of_ble_eq_true rfl)) dL_diverts_3 ⟨Nat.le_of_ble_eq_true rfl, Nat.le_of_ble_eq_true rfl⟩) P.2 (fun r2 u1 H locs h P => ?_)
  refine lv_aload_n hx hb dL_diverts_6 rfl (lv_at hl 0 rfl) ?_
  refine lv_iload_n hx hb dL_diverts_7 rfl (lv_at hl 1 rfl) ?_
  refine lv_iconst (v := 5) hx hb dL_diverts_8 (by decide) ?_
  refine r_calli (F := EC cA o) (va_runV (As := [.int a1, .int (5 : Int32)]) (rest := [.int r2]) C.1 (c_X9_gate l D cA o _ _ u1 _ h) (cwV 2 C.1.2.2.2.2 gL_diverts_X9_gate rfl rfl rfl (by decide +kernel) ⟨Nat.le_of_ble_eq_true rfl, Nat.le_of_ble_eq_true rfl⟩) (r_preV C P [.int a1, .int (5 : Int32)] (ci := 9) rfl (kd_lt kd_at_0 (by decide)) (EK_9 kd_at_0)) rfl rfl hl.1 rfl (lv_room (Nat.le_of_ble_eq_true rfl)) dL_diverts_9 ⟨Nat.le_of_ble_eq_true rfl, Nat.le_of_ble_eq_true rfl⟩) P.2 (fun r4 u3 H locs h P => ?_)
  refine lv_iadd hx hb dL_diverts_12 ?_
  refine lv_istore_n (lv' := [(3, .int (r2 + r4)), (0, .ref (o + 0)), (1, .int a1), (2, .int a2)]) hx hb dL_diverts_13 rfl hl (by decide) rfl (fun ls hl => ?_)
  refine lv_aload_n hx hb dL_diverts_14 rfl (lv_at hl 1 rfl) ?_
  refine lv_iload_n hx hb dL_diverts_15 rfl (lv_at hl 3 rfl) ?_
  refine lv_iconst (v := 4) hx hb dL_diverts_16 (by decide) ?_
  refine r_calli (F := EC cA o) (va_runV (As := [.int a2, .int (4 : Int32)]) (rest := []) C.1 (c_X9_gate l D cA o _ _ u3 _ h) (cwV 2 C.1.2.2.2.2 gL_diverts_X9_gate rfl rfl rfl (by decide +kernel) ⟨Nat.le_of_ble_eq_true rfl, Nat.le_of_ble_eq_true rfl⟩) (r_preV C P [.int a2, .int (4 : Int32)] (ci := 9) rfl (kd_lt kd_at_0 (by decide)) (EK_9 kd_at_0)) rfl rfl hl.1 rfl (lv_room (Nat.le_of_ble_eq_true rfl)) dL_diverts_17 ⟨Nat.le_of_ble_eq_true rfl, Nat.le_of_ble_eq_true rfl⟩) P.2 (fun r6 u5 H locs h P => ?_)
  refine lv_aload_n hx hb dL_diverts_20 rfl (lv_at hl 1 rfl) ?_
  refine lv_iload_n hx hb dL_diverts_21 rfl (lv_at hl 3 rfl) ?_
  refine lv_iconst (v := 5) hx hb dL_diverts_22 (by decide) ?_
  refine r_calli (F := EC cA o) (va_runV (As := [.int a2, .int (5 : Int32)]) (rest := [.int r6]) C.1 (c_X9_gate l D cA o _ _ u5 _ h) (cwV 2 C.1.2.2.2.2 gL_diverts_X9_gate rfl rfl rfl (by decide +kernel) ⟨Nat.le_of_ble_eq_true rfl, Nat.le_of_ble_eq_true rfl⟩) (r_preV C P [.int a2, .int (5 : Int32)] (ci := 9) rfl (kd_lt kd_at_0 (by decide)) (EK_9 kd_at_0)) rfl rfl hl.1 rfl (lv_room (Nat.le_of_ble_eq_true rfl)) dL_diverts_23 ⟨Nat.le_of_ble_eq_true rfl, Nat.le_of_ble_eq_true rfl⟩) P.2 (fun r8 u7 H locs h P => ?_)
  refine lv_iadd hx hb dL_diverts_26 ?_
  refine lv_istore (lv' := [(4, .int (r6 + r8)), (3, .int (r2 + r4)), (0, .ref (o + 0)), (1, .int a1), (2, .int a2)]) hx hb dL_diverts_27 hl (by decide) rfl (fun ls hl => ?_)
  refine lv_aload_n hx hb dL_diverts_29 rfl (lv_at hl 2 rfl) ?_
  refine lv_iload_n hx hb dL_diverts_30 rfl (lv_at hl 3 rfl) ?_
  refine lv_iconst (v := 0) hx hb dL_diverts_31 (by decide) ?_
  refine lv_iconst (v := 0) hx hb dL_diverts_32 (by decide) ?_
  refine r_calli (F := EC cA o) (va_runV (As := [.int a1, .int (0 : Int32), .int (0 : Int32)]) (rest := []) C.1 (c_X9_queued l D cA o _ _ _ u7 _ h) (cwV 3 C.1.2.2.2.2 gL_diverts_X9_queued rfl rfl rfl (by decide +kernel) ⟨Nat.le_of_ble_eq_true rfl, Nat.le_of_ble_eq_true rfl⟩) (r_preV C P [.int a1, .int (0 : Int32), .int (0 : Int32)] (ci := 9) rfl (kd_lt kd_at_0 (by decide)) (EK_9 kd_at_0)) rfl rfl hl.1 rfl (lv_room (Nat.le_of_ble_eq_true rfl)) dL_diverts_33 ⟨Nat.le_of_ble_eq_true rfl, Nat.le_of_ble_eq_true rfl⟩) P.2 (fun r10 u9 H locs h P => ?_)
  refine lv_istore (lv' := [(5, .int r10), (4, .int (r6 + r8)), (3, .int (r2 + r4)), (0, .ref (o + 0)), (1, .int a1), (2, .int a2)]) hx hb dL_diverts_36 hl (by decide) rfl (fun ls hl => ?_)
  refine lv_iload hx hb dL_diverts_38 (lv_at hl 0 rfl) ?_
  refine lv_if_ge (tgt := 47) hx hb dL_diverts_40 (by decide) (fun c11 => ?_) (fun c11 => ?_)
  · have h := ite_t h c11
    refine lv_aload_n hx hb dL_diverts_47 rfl (lv_at hl 3 rfl) ?_
    refine lv_iload hx hb dL_diverts_48 (lv_at hl 0 rfl) ?_
    refine lv_iconst (v := 5) hx hb dL_diverts_50 (by decide) ?_
    refine r_calli (F := EC cA o) (va_runV (As := [.int r10, .int (5 : Int32)]) (rest := []) C.1 (c_X9_person l D cA o _ _ u9 _ h) (cwV 2 C.1.2.2.2.2 gL_diverts_X9_person rfl rfl rfl (by decide +kernel) ⟨Nat.le_of_ble_eq_true rfl, Nat.le_of_ble_eq_true rfl⟩) (r_preV C P [.int r10, .int (5 : Int32)] (ci := 9) rfl (kd_lt kd_at_0 (by decide)) (EK_9 kd_at_0)) rfl rfl hl.1 rfl (lv_room (Nat.le_of_ble_eq_true rfl)) dL_diverts_51 ⟨Nat.le_of_ble_eq_true rfl, Nat.le_of_ble_eq_true rfl⟩) P.2 (fun r13 u12 H locs h P => ?_)
    exact t_L_diverts_54 C _ _ _ _ _ _ u12 _ _ _ P (lv_sub hl [3, 4, 5, 2, 1, 0] rfl) h
  · have h := ite_f h c11
    refine lv_iconst (v := 0) hx hb dL_diverts_43 (by decide) ?_
    refine lv_goto (tgt := 54) hx hb dL_diverts_44 (by decide) ?_
    exact t_L_diverts_54 C _ _ _ _ _ _ u9 _ _ _ P (lv_sub hl [3, 4, 5, 2, 1, 0] rfl) h
set_option maxHeartbeats 4000000 in
set_option maxRecDepth 100000 in
theorem c_L_diverts (l : Launch) (D : va_G) (cA : Nat → ClassId) (o : Nat) (a1 : Int32) (a2 : Int32)  (u0 : Mm) (Φ : Int32 → Mm → Prop) (h : w_L_diverts a1 a2 u0 Φ) : Met l yL_diverts wsL_diverts rm_L_diverts (va_Pc [.ref (o + 0), .int a1, .int a2] (Wd 747 o D (tysL cA) (EC cA o u0))) (Qg vI Φ (fun μ => Wd 747 o D (tysL cA) (EC cA o μ)) (aA o 747)) 0 0 (aA o 747) := by
  refine Met.ofW (cc := cL_diverts) (maxL := 9) (ret := (some .boolean)) (by decide) rfl ?_
  intro p e s m args below meth c s₁ B hml hv
  obtain ⟨rfl, hv⟩ := hv
  have hl := lv_entry ([.ref (o + 0), .int a1, .int a2]) (n := 9) (Nat.le_of_ble_eq_true rfl)
  rw [lg_entry_eq]
  exact t_L_diverts_0 ⟨⟨B.exec, B.bytes, hml, findClass_of_methodNamed B.named, atoms_spec (ws := wsL_diverts) B.pre⟩, B.returns, B.notSynchronized, hv.2⟩ a1 a2 u0 _ _ _ ⟨hv.1, va_S.rf⟩ hl h
