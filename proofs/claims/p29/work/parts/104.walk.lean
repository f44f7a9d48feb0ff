abbrev rm_X8_addCredit : Room := { frames := 1, cells := 0, slots := 0, locals := 22 }
theorem wd_X8_addCredit_1 : Cond.constant RX8 103 (100000) ∈ wsX8_addCredit := List.mem_of_getElem? (i := 1) (by decide +kernel)
theorem wd_X8_addCredit_2 : Cond.fieldLink RX8 104 "TurnstileBank$Pool" "credit" "I" ∈ wsX8_addCredit := List.mem_of_getElem? (i := 2) (by decide +kernel)
theorem wd_X8_addCredit_3 : Cond.constant RX8 107 (1000000) ∈ wsX8_addCredit := List.mem_of_getElem? (i := 3) (by decide +kernel)
theorem wd_X8_addCredit_11 : Cond.static yX9_isBetween ∈ wsX8_addCredit := List.mem_of_getElem? (i := 11) (by decide +kernel)
theorem wd_X8_addCredit_12 : Cond.initialized RX9 ∈ wsX8_addCredit := List.mem_of_getElem? (i := 12) (by decide +kernel)
theorem in_X8_addCredit_6 : ∀ w ∈ wsX60, w ∈ wsX8_addCredit := fun w h => List.mem_cons_of_mem _ (List.mem_append_left _ (List.mem_append_right _ h))
def w_X8_addCredit (k0 : Nat) (a1 : Int32) (a2 : Int32) (u0 : Mm) (Φ : Int32 → Mm → Prop) : Prop := (w_X8_poolAt k0 a1 u0 (fun r2 u1 => opt r2 (Φ ((-1 : Int32)) u1) (fun r2 => (w_X9_isBetween ((1 : Int32)) a2 ((100000 : Int32)) u1 (fun r5 u4 => (if r5 = 0 then (Φ ((-2 : Int32)) u4) else (if ((u4 r2 0) + a2) ≤ (1000000 : Int32) then (∀ u8 : Mm, u8 = up2 u4 r2 0 ((u4 r2 0) + a2) → (Φ ((u8 r2 0)) u8)) else (Φ ((-4 : Int32)) u4))))))))
set_option maxHeartbeats 4000000 in
set_option maxRecDepth 100000 in
theorem t_X8_addCredit_0 {p : Program} {l : Launch} {e : Env} {s : State} {m : MethodId} {args : Array Value} {below : List Frame} {meth : Method} {c : Code} {D : va_G} {cA : Nat → ClassId} {o : Nat}  {Φ : Int32 → Mm → Prop} (C : Cx p m meth c s args cX8_addCredit 4 wsX8_addCredit RX8 (some .int) D (tysL cA)) : ∀ (k0 : Nat) (a1 : Int32) (a2 : Int32) (u0 : Mm), kd k0 = 8 → ∀ (H : Heap) (locs : List Loc) (ls : Array Slot), Hp 747 o D (EC cA o u0) s H locs → lv_has ls 4 [(0, .ref (o + k0)), (1, .int a1), (2, .int a2)] → w_X8_addCredit k0 a1 a2 u0 Φ → W p l e rm_X8_addCredit s m args below meth c H locs 0 0 (MQ below (Qg vI Φ (fun μ => Wd 747 o D (tysL cA) (EC cA o μ)) (aA o 747)) args s 0 0 (aA o 747)) (F0 m 0 ls []) := by
  intro k0 a1 a2 u0 hk0 H locs ls P hl h
  have hx := C.1.1
  have hb := C.1.2.1
  unfold w_X8_addCredit at h
  refine lv_aload_n hx hb dX8_addCredit_0 rfl (lv_at hl 0 rfl) ?_
  refine lv_iload_n hx hb dX8_addCredit_1 rfl (lv_at hl 1 rfl) ?_
  refine r_calln (F := EC cA o) (va_runV (As := [.int a1]) (rest := []) C.1 (c_X8_poolAt l D cA o _ _ hk0 u0 _ h) (cwV 1 C.1.2.2.2.2 gX8_addCredit_X8_poolAt rfl rfl rfl (by decide +kernel) ⟨Nat.le_of_ble_eq_true rfl, Nat.le_of_ble_eq_true rfl⟩) (r_preV C P [.int a1] (ci := 8) rfl (kd_lt hk0 (by decide)) (EK_8 hk0)) rfl rfl hl.1 rfl (lv_room (Nat.le_of_ble_eq_true rfl)) dX8_addCredit_2 ⟨Nat.le_of_ble_eq_true rfl, Nat.le_of_ble_eq_true rfl⟩) P.2 (fun r2 u1 H locs h P => ?_)
  obtain ⟨h, hk3⟩ := h
  rcases r2 with _ | r2
  · have h := opt_n h
    refine lv_astore_nN (lv' := [(3, .null), (0, .ref (o + k0)), (1, .int a1), (2, .int a2)]) hx hb dX8_addCredit_5 rfl hl (by decide) rfl (fun ls hl => ?_)
    refine lv_aload_nN hx hb dX8_addCredit_6 rfl (lv_at hl 0 rfl) ?_
    refine lv_ifnonnullN hx hb dX8_addCredit_7 ?_
    refine lv_iconst (v := -1) hx hb dX8_addCredit_10 (by decide) ?_
    exact r_ireti C P h dX8_addCredit_11
  · have h := opt_s h
    have hk3 := hk3 r2 rfl
    refine lv_astore_n (lv' := [(3, .ref (o + r2)), (0, .ref (o + k0)), (1, .int a1), (2, .int a2)]) hx hb dX8_addCredit_5 rfl hl (by decide) rfl (fun ls hl => ?_)
    refine lv_aload_n hx hb dX8_addCredit_6 rfl (lv_at hl 0 rfl) ?_
    refine lv_ifnonnull (tgt := 12) hx hb dX8_addCredit_7 (by decide) ?_
    refine lv_iconst (v := 1) hx hb dX8_addCredit_12 (by decide) ?_
    refine lv_iload_n hx hb dX8_addCredit_13 rfl (lv_at hl 3 rfl) ?_
    refine lv_ldc (v := 100000) hx hb C.1.2.2.2.1 (C.1.2.2.2.2 _ wd_X8_addCredit_1) dX8_addCredit_14 ?_
    refine r_calli (F := EC cA o) (va_runSN (As := [.int (1 : Int32), .int a2, .int (100000 : Int32)]) (rest := []) C.1 (c_X9_isBetween l D cA o _ _ _ u1 _ h) ⟨va_cnB 3 C.1.2.2.2.2 gX8_addCredit_X9_isBetween_n81 rfl rfl rfl (C.2.2.2.2 0 _ rfl) (C.1.2.2.2.2 _ wd_X8_addCredit_12) (by decide +kernel) ⟨Nat.le_of_ble_eq_true rfl, Nat.le_of_ble_eq_true rfl⟩, C.1.2.2.2.2 _ wd_X8_addCredit_11, trivial⟩ (r_pre C P [.int (1 : Int32), .int a2, .int (100000 : Int32)]) rfl rfl hl.1 rfl (lv_room (Nat.le_of_ble_eq_true rfl)) dX8_addCredit_16 ⟨Nat.le_of_ble_eq_true rfl, Nat.le_of_ble_eq_true rfl⟩) P.2 (fun r5 u4 H locs h P => ?_)
    refine lv_if_ne (tgt := 25) hx hb dX8_addCredit_19 (by decide) (fun c6 => ?_) (fun c6 => ?_)
    · have h := ite_f h c6
      refine lv_aload_n hx hb dX8_addCredit_25 rfl (lv_at hl 0 rfl) ?_
      refine g_6_0 C P in_X8_addCredit_6 wd_X8_addCredit_2 hk3 dX8_addCredit_26 ?_
      refine lv_iload_n hx hb dX8_addCredit_29 rfl (lv_at hl 3 rfl) ?_
      refine lv_iadd hx hb dX8_addCredit_30 ?_
      refine lv_ldc (v := 1000000) hx hb C.1.2.2.2.1 (C.1.2.2.2.2 _ wd_X8_addCredit_3) dX8_addCredit_31 ?_
      refine lv_icmp_le (tgt := 39) hx hb dX8_addCredit_33 (by decide) (fun c7 => ?_) (fun c7 => ?_)
      · have h := ite_t h c7
        refine lv_aload_n hx hb dX8_addCredit_39 rfl (lv_at hl 0 rfl) ?_
        refine lv_dup hx hb dX8_addCredit_40 rfl ?_
        refine g_6_0 C P in_X8_addCredit_6 wd_X8_addCredit_2 hk3 dX8_addCredit_41 ?_
        refine lv_iload_n hx hb dX8_addCredit_44 rfl (lv_at hl 3 rfl) ?_
        refine lv_iadd hx hb dX8_addCredit_45 ?_
        refine p_6_0 C P in_X8_addCredit_6 wd_X8_addCredit_2 hk3 dX8_addCredit_46 (fun u8 eu8 H locs P => ?_)
        have h := h u8 eu8
        refine lv_aload_n hx hb dX8_addCredit_49 rfl (lv_at hl 0 rfl) ?_
        refine g_6_0 C P in_X8_addCredit_6 wd_X8_addCredit_2 hk3 dX8_addCredit_50 ?_
        exact r_ireti C P h dX8_addCredit_53
      · have h := ite_f h c7
        refine lv_bipush (v := -4) hx hb dX8_addCredit_36 (by decide) ?_
        exact r_ireti C P h dX8_addCredit_38
    · have h := ite_t h c6
      refine lv_bipush (v := -2) hx hb dX8_addCredit_22 (by decide) ?_
      exact r_ireti C P h dX8_addCredit_24
set_option maxHeartbeats 4000000 in
set_option maxRecDepth 100000 in
theorem c_X8_addCredit (l : Launch) (D : va_G) (cA : Nat → ClassId) (o : Nat) (k0 : Nat) (a1 : Int32) (a2 : Int32) (hk0 : kd k0 = 8) (u0 : Mm) (Φ : Int32 → Mm → Prop) (h : w_X8_addCredit k0 a1 a2 u0 Φ) : Met l yX8_addCredit wsX8_addCredit rm_X8_addCredit (va_Pc [.ref (o + k0), .int a1, .int a2] (Wd 747 o D (tysL cA) (EC cA o u0))) (Qg vI Φ (fun μ => Wd 747 o D (tysL cA) (EC cA o μ)) (aA o 747)) 0 0 (aA o 747) := by
  refine Met.ofW (cc := cX8_addCredit) (maxL := 4) (ret := (some .int)) (by decide) rfl ?_
  intro p e s m args below meth c s₁ B hml hv
  obtain ⟨rfl, hv⟩ := hv
  have hl := lv_entry ([.ref (o + k0), .int a1, .int a2]) (n := 4) (Nat.le_of_ble_eq_true rfl)
  rw [lg_entry_eq]
  exact t_X8_addCredit_0 ⟨⟨B.exec, B.bytes, hml, findClass_of_methodNamed B.named, atoms_spec (ws := wsX8_addCredit) B.pre⟩, B.returns, B.notSynchronized, hv.2⟩ k0 a1 a2 u0 hk0 _ _ _ ⟨hv.1, va_S.rf⟩ hl h
abbrev rm_X8_newPass : Room := { frames := 1, cells := 0, slots := 0, locals := 21 }
theorem wd_X8_newPass_1 : Cond.fieldLink RX8 69 "TurnstileBank$State" "passCount" "I" ∈ wsX8_newPass := List.mem_of_getElem? (i := 1) (by decide +kernel)
theorem wd_X8_newPass_2 : Cond.fieldLink RX8 31 "TurnstileBank$State" "passes" "[LTurnstileBank$Pass;" ∈ wsX8_newPass := List.mem_of_getElem? (i := 2) (by decide +kernel)
theorem wd_X8_newPass_3 : Cond.fieldLink RX8 109 "TurnstileBank$Pool" "passes" "I" ∈ wsX8_newPass := List.mem_of_getElem? (i := 3) (by decide +kernel)
theorem in_X8_newPass_6 : ∀ w ∈ wsX60, w ∈ wsX8_newPass := fun w h => List.mem_cons_of_mem _ (List.mem_append_left _ (List.mem_append_right _ h))
theorem in_X8_newPass_8 : ∀ w ∈ wsX80, w ∈ wsX8_newPass := fun w h => List.mem_cons_of_mem _ (List.mem_append_left _ (List.mem_append_left _ (List.mem_append_right _ h)))
def w_X8_newPass (k0 : Nat) (a1 : Int32) (u0 : Mm) (Φ : Int32 → Mm → Prop) : Prop := (w_X8_poolAt k0 a1 u0 (fun r2 u1 => opt r2 (Φ ((-1 : Int32)) u1) (fun r2 => (if (u1 k0 8) < (12 : Int32) then (vp_in (u1 k0 8) 12 ∧ (w_X4_setUp ((k0 + 94 + (u1 k0 8).toNatClampNeg)) a1 u1 (fun _ u6 => (∀ u8 : Mm, u8 = up2 u6 r2 3 ((u6 r2 3) + (1 : Int32)) → (∀ u9 : Mm, u9 = up2 u8 k0 8 ((u8 k0 8) + (1 : Int32)) → (Φ (((u9 k0 8) - (1 : Int32))) u9)))))) else (Φ ((-3 : Int32)) u1)))))
set_option maxHeartbeats 4000000 in
set_option maxRecDepth 100000 in
theorem t_X8_newPass_0 {p : Program} {l : Launch} {e : Env} {s : State} {m : MethodId} {args : Array Value} {below : List Frame} {meth : Method} {c : Code} {D : va_G} {cA : Nat → ClassId} {o : Nat}  {Φ : Int32 → Mm → Prop} (C : Cx p m meth c s args cX8_newPass 3 wsX8_newPass RX8 (some .int) D (tysL cA)) : ∀ (k0 : Nat) (a1 : Int32) (u0 : Mm), kd k0 = 8 → ∀ (H : Heap) (locs : List Loc) (ls : Array Slot), Hp 747 o D (EC cA o u0) s H locs → lv_has ls 3 [(0, .ref (o + k0)), (1, .int a1)] → w_X8_newPass k0 a1 u0 Φ → W p l e rm_X8_newPass s m args below meth c H locs 0 0 (MQ below (Qg vI Φ (fun μ => Wd 747 o D (tysL cA) (EC cA o μ)) (aA o 747)) args s 0 0 (aA o 747)) (F0 m 0 ls []) := by
  intro k0 a1 u0 hk0 H locs ls P hl h
  have hx := C.1.1
  have hb := C.1.2.1
  unfold w_X8_newPass at h
  refine lv_aload_n hx hb dX8_newPass_0 rfl (lv_at hl 0 rfl) ?_
  refine lv_iload_n hx hb dX8_newPass_1 rfl (lv_at hl 1 rfl) ?_
  refine r_calln (F := EC cA o) (va_runV (As := [.int a1]) (rest := []) C.1 (c_X8_poolAt l D cA o _ _ hk0 u0 _ h) (cwV 1 C.1.2.2.2.2 gX8_newPass_X8_poolAt rfl rfl rfl (by decide +kernel) ⟨Nat.le_of_ble_eq_true rfl, Nat.le_of_ble_eq_true rfl⟩) (r_preV C P [.int a1] (ci := 8) rfl (kd_lt hk0 (by decide)) (EK_8 hk0)) rfl rfl hl.1 rfl (lv_room (Nat.le_of_ble_eq_true rfl)) dX8_newPass_2 ⟨Nat.le_of_ble_eq_true rfl, Nat.le_of_ble_eq_true rfl⟩) P.2 (fun r2 u1 H locs h P => ?_)
  obtain ⟨h, hk3⟩ := h
  rcases r2 with _ | r2
  · have h := opt_n h
    refine lv_astore_nN (lv' := [(2, .null), (0, .ref (o + k0)), (1, .int a1)]) hx hb dX8_newPass_5 rfl hl (by decide) rfl (fun ls hl => ?_)
    refine lv_aload_nN hx hb dX8_newPass_6 rfl (lv_at hl 0 rfl) ?_
    refine lv_ifnonnullN hx hb dX8_newPass_7 ?_
    refine lv_iconst (v := -1) hx hb dX8_newPass_10 (by decide) ?_
    exact r_ireti C P h dX8_newPass_11
  · have h := opt_s h
    have hk3 := hk3 r2 rfl
    refine lv_astore_n (lv' := [(2, .ref (o + r2)), (0, .ref (o + k0)), (1, .int a1)]) hx hb dX8_newPass_5 rfl hl (by decide) rfl (fun ls hl => ?_)
    refine lv_aload_n hx hb dX8_newPass_6 rfl (lv_at hl 0 rfl) ?_
    refine lv_ifnonnull (tgt := 12) hx hb dX8_newPass_7 (by decide) ?_
    refine lv_aload_n hx hb dX8_newPass_12 rfl (lv_at hl 1 rfl) ?_
    refine g_8_8 C P in_X8_newPass_8 wd_X8_newPass_1 hk0 dX8_newPass_13 ?_
    refine lv_aload_n hx hb dX8_newPass_16 rfl (lv_at hl 1 rfl) ?_
    refine g_8_3 C P in_X8_newPass_8 wd_X8_newPass_2 hk0 dX8_newPass_17 ?_
    refine l_pass C P hk0 dX8_newPass_20 ?_
    refine lv_icmp_lt (tgt := 27) hx hb dX8_newPass_21 (by decide) (fun c4 => ?_) (fun c4 => ?_)
    · have h := ite_t h c4
      refine lv_aload_n hx hb dX8_newPass_27 rfl (lv_at hl 1 rfl) ?_
      refine g_8_3 C P in_X8_newPass_8 wd_X8_newPass_2 hk0 dX8_newPass_28 ?_
      refine lv_aload_n hx hb dX8_newPass_31 rfl (lv_at hl 1 rfl) ?_
      refine g_8_8 C P in_X8_newPass_8 wd_X8_newPass_1 hk0 dX8_newPass_32 ?_
      obtain ⟨hi, h⟩ := h
      have hk5 := kd_pass hk0 hi
      refine a_pass C P hk0 hi dX8_newPass_35 ?_
      refine lv_iload_n hx hb dX8_newPass_36 rfl (lv_at hl 2 rfl) ?_
      refine r_callv (F := EC cA o) (va_runV (As := [.int a1]) (rest := []) C.1 (c_X4_setUp l D cA o _ _ hk5 u1 _ h) (cwV 1 C.1.2.2.2.2 gX8_newPass_X4_setUp rfl rfl rfl (by decide +kernel) ⟨Nat.le_of_ble_eq_true rfl, Nat.le_of_ble_eq_true rfl⟩) (r_preV C P [.int a1] (ci := 4) rfl (kd_lt hk5 (by decide)) (EK_4 hk5)) rfl rfl hl.1 rfl (lv_room (Nat.le_of_ble_eq_true rfl)) dX8_newPass_37 ⟨Nat.le_of_ble_eq_true rfl, Nat.le_of_ble_eq_true rfl⟩) P.2 (fun u6 H locs h P => ?_)
      refine lv_aload_n hx hb dX8_newPass_40 rfl (lv_at hl 0 rfl) ?_
      refine lv_dup hx hb dX8_newPass_41 rfl ?_
      refine g_6_3 C P in_X8_newPass_6 wd_X8_newPass_3 hk3 dX8_newPass_42 ?_
      refine lv_iconst (v := 1) hx hb dX8_newPass_45 (by decide) ?_
      refine lv_iadd hx hb dX8_newPass_46 ?_
      refine p_6_3 C P in_X8_newPass_6 wd_X8_newPass_3 hk3 dX8_newPass_47 (fun u8 eu8 H locs P => ?_)
      have h := h u8 eu8
      refine lv_aload_n hx hb dX8_newPass_50 rfl (lv_at hl 1 rfl) ?_
      refine lv_dup hx hb dX8_newPass_51 rfl ?_
      refine g_8_8 C P in_X8_newPass_8 wd_X8_newPass_1 hk0 dX8_newPass_52 ?_
      refine lv_iconst (v := 1) hx hb dX8_newPass_55 (by decide) ?_
      refine lv_iadd hx hb dX8_newPass_56 ?_
      refine p_8_8 C P in_X8_newPass_8 wd_X8_newPass_1 hk0 dX8_newPass_57 (fun u9 eu9 H locs P => ?_)
      have h := h u9 eu9
      refine lv_aload_n hx hb dX8_newPass_60 rfl (lv_at hl 1 rfl) ?_
      refine g_8_8 C P in_X8_newPass_8 wd_X8_newPass_1 hk0 dX8_newPass_61 ?_
      refine lv_iconst (v := 1) hx hb dX8_newPass_64 (by decide) ?_
      refine lv_isub hx hb dX8_newPass_65 ?_
      exact r_ireti C P h dX8_newPass_66
    · have h := ite_f h c4
      refine lv_bipush (v := -3) hx hb dX8_newPass_24 (by decide) ?_
      exact r_ireti C P h dX8_newPass_26
set_option maxHeartbeats 4000000 in
set_option maxRecDepth 100000 in
theorem c_X8_newPass (l : Launch) (D : va_G) (cA : Nat → ClassId) (o : Nat) (k0 : Nat) (a1 : Int32) (hk0 : kd k0 = 8) (u0 : Mm) (Φ : Int32 → Mm → Prop) (h : w_X8_newPass k0 a1 u0 Φ) : Met l yX8_newPass wsX8_newPass rm_X8_newPass (va_Pc [.ref (o + k0), .int a1] (Wd 747 o D (tysL cA) (EC cA o u0))) (Qg vI Φ (fun μ => Wd 747 o D (tysL cA) (EC cA o μ)) (aA o 747)) 0 0 (aA o 747) := by
  refine Met.ofW (cc := cX8_newPass) (maxL := 3) (ret := (some .int)) (by decide) rfl ?_
  intro p e s m args below meth c s₁ B hml hv
  obtain ⟨rfl, hv⟩ := hv
  have hl := lv_entry ([.ref (o + k0), .int a1]) (n := 3) (Nat.le_of_ble_eq_true rfl)
  rw [lg_entry_eq]
  exact t_X8_newPass_0 ⟨⟨B.exec, B.bytes, hml, findClass_of_methodNamed B.named, atoms_spec (ws := wsX8_newPass) B.pre⟩, B.returns, B.notSynchronized, hv.2⟩ k0 a1 u0 hk0 _ _ _ ⟨hv.1, va_S.rf⟩ hl h
abbrev rm_X8_markPass : Room := { frames := 1, cells := 0, slots := 0, locals := 21 }
theorem wd_X8_markPass_1 : Cond.fieldLink RX8 115 "TurnstileBank$Pass" "blocked" "Z" ∈ wsX8_markPass := List.mem_of_getElem? (i := 1) (by decide +kernel)
theorem wd_X8_markPass_2 : Cond.fieldLink RX8 69 "TurnstileBank$State" "passCount" "I" ∈ wsX8_markPass := List.mem_of_getElem? (i := 2) (by decide +kernel)
theorem wd_X8_markPass_3 : Cond.fieldLink RX8 31 "TurnstileBank$State" "passes" "[LTurnstileBank$Pass;" ∈ wsX8_markPass := List.mem_of_getElem? (i := 3) (by decide +kernel)
theorem in_X8_markPass_4 : ∀ w ∈ wsX40, w ∈ wsX8_markPass := fun w h => List.mem_cons_of_mem _ (List.mem_append_left _ (List.mem_append_right _ h))
theorem in_X8_markPass_8 : ∀ w ∈ wsX80, w ∈ wsX8_markPass := fun w h => List.mem_cons_of_mem _ (List.mem_append_right _ h)
def w_X8_markPass_34  (Φ : Int32 → Mm → Prop) : Nat → Nat → Int32 → Int32 → Mm → Prop
  | 0, _, _, _, _ => False
  | n + 1, x0, x4, x5, u0 => (if (u0 x0 8) ≤ x5 then (Φ x4 u0) else (if (12 : Int32) ≤ x5 then (Φ x4 u0) else (vp_in x5 12 ∧ (if (u0 ((x0 + 94 + x5.toNatClampNeg)) 1) = 0 then (w_X8_markPass_34 Φ n x0 x4 ((x5 + 1)) u0) else (w_X8_markPass_34 Φ n x0 ((x4 + 1)) ((x5 + 1)) u0)))))
set_option maxHeartbeats 4000000 in
set_option maxRecDepth 100000 in
theorem t_X8_markPass_34 {p : Program} {l : Launch} {e : Env} {s : State} {m : MethodId} {args : Array Value} {below : List Frame} {meth : Method} {c : Code} {D : va_G} {cA : Nat → ClassId} {o : Nat}  {Φ : Int32 → Mm → Prop} (C : Cx p m meth c s args cX8_markPass 6 wsX8_markPass RX8 (some .int) D (tysL cA)) : ∀ n : Nat, ∀ (x0 : Nat) (x4 : Int32) (x5 : Int32) (u0 : Mm), kd x0 = 8 → ∀ (H : Heap) (locs : List Loc) (ls : Array Slot), Hp 747 o D (EC cA o u0) s H locs → lv_has ls 6 [(0, .ref (o + x0)), (4, .int x4), (5, .int x5)] → w_X8_markPass_34 Φ n x0 x4 x5 u0 → W p l e rm_X8_markPass s m args below meth c H locs 0 0 (MQ below (Qg vI Φ (fun μ => Wd 747 o D (tysL cA) (EC cA o μ)) (aA o 747)) args s 0 0 (aA o 747)) (F0 m 34 ls []) := by
  intro n
  induction n with
  | zero => intro x0 x4 x5 u0 hx0 H locs ls P hl h; exact h.elim
  | succ n ih =>
    intro x0 x4 x5 u0 hx0 H locs ls P hl h
    have hx := C.1.1
    have hb := C.1.2.1
    rw [w_X8_markPass_34] at h
    refine lv_iload hx hb dX8_markPass_34 (lv_at hl 2 rfl) ?_
    refine lv_aload_n hx hb dX8_markPass_36 rfl (lv_at hl 0 rfl) ?_
    refine g_8_8 C P in_X8_markPass_8 wd_X8_markPass_2 hx0 dX8_markPass_37 ?_
    refine lv_icmp_ge (tgt := 75) hx hb dX8_markPass_40 (by decide) (fun c6 => ?_) (fun c6 => ?_)
    · have h := ite_t h c6
      refine lv_iload hx hb dX8_markPass_75 (lv_at hl 1 rfl) ?_
      exact r_ireti C P h dX8_markPass_77
    · have h := ite_f h c6
      refine lv_iload hx hb dX8_markPass_43 (lv_at hl 2 rfl) ?_
      refine lv_aload_n hx hb dX8_markPass_45 rfl (lv_at hl 0 rfl) ?_
      refine g_8_3 C P in_X8_markPass_8 wd_X8_markPass_3 hx0 dX8_markPass_46 ?_
      refine l_pass C P hx0 dX8_markPass_49 ?_
      refine lv_icmp_ge (tgt := 75) hx hb dX8_markPass_50 (by decide) (fun c7 => ?_) (fun c7 => ?_)
      · have h := ite_t h c7
        refine lv_iload hx hb dX8_markPass_75 (lv_at hl 1 rfl) ?_
        exact r_ireti C P h dX8_markPass_77
      · have h := ite_f h c7
        refine lv_aload_n hx hb dX8_markPass_53 rfl (lv_at hl 0 rfl) ?_
        refine g_8_3 C P in_X8_markPass_8 wd_X8_markPass_3 hx0 dX8_markPass_54 ?_
        refine lv_iload hx hb dX8_markPass_57 (lv_at hl 2 rfl) ?_
        obtain ⟨hi, h⟩ := h
        have hk8 := kd_pass hx0 hi
        refine a_pass C P hx0 hi dX8_markPass_59 ?_
        refine g_4_1 C P in_X8_markPass_4 wd_X8_markPass_1 hk8 dX8_markPass_60 ?_
        refine lv_if_eq (tgt := 69) hx hb dX8_markPass_63 (by decide) (fun c9 => ?_) (fun c9 => ?_)
        · have h := ite_t h c9
          refine lv_iinc (v := (x5 + 1)) (lv' := [(5, .int (x5 + 1)), (0, .ref (o + x0)), (4, .int x4)]) hx hb dX8_markPass_69 hl (k := 2) rfl rfl (by decide) rfl (fun ls hl => ?_)
          refine lv_goto (tgt := 34) hx hb dX8_markPass_72 (by decide) ?_
          exact ih _ _ _ u0 hx0 _ _ _ P (lv_sub hl [1, 2, 0] rfl) h
        · have h := ite_f h c9
          refine lv_iinc (v := (x4 + 1)) (lv' := [(4, .int (x4 + 1)), (0, .ref (o + x0)), (5, .int x5)]) hx hb dX8_markPass_66 hl (k := 1) rfl rfl (by decide) rfl (fun ls hl => ?_)
          refine lv_iinc (v := (x5 + 1)) (lv' := [(5, .int (x5 + 1)), (4, .int (x4 + 1)), (0, .ref (o + x0))]) hx hb dX8_markPass_69 hl (k := 2) rfl rfl (by decide) rfl (fun ls hl => ?_)
          refine lv_goto (tgt := 34) hx hb dX8_markPass_72 (by decide) ?_
          exact ih _ _ _ u0 hx0 _ _ _ P (lv_sub hl [2, 1, 0] rfl) h
def w_X8_markPass (k0 : Nat) (a1 : Int32) (a2 : Int32) (u0 : Mm) (Φ : Int32 → Mm → Prop) : Prop := (w_X8_passAt k0 a1 u0 (fun r2 u1 => opt r2 (Φ ((-1 : Int32)) u1) (fun r2 => (if (u1 r2 1) = a2 then (Φ ((-5 : Int32)) u1) else (isB a2 ∧ ∀ u5 : Mm, u5 = up2 u1 r2 1 a2 → (∃ n34 : Nat, w_X8_markPass_34 Φ n34 k0 ((0 : Int32)) ((0 : Int32)) u5))))))
set_option maxHeartbeats 4000000 in
set_option maxRecDepth 100000 in
theorem t_X8_markPass_0 {p : Program} {l : Launch} {e : Env} {s : State} {m : MethodId} {args : Array Value} {below : List Frame} {meth : Method} {c : Code} {D : va_G} {cA : Nat → ClassId} {o : Nat}  {Φ : Int32 → Mm → Prop} (C : Cx p m meth c s args cX8_markPass 6 wsX8_markPass RX8 (some .int) D (tysL cA)) : ∀ (k0 : Nat) (a1 : Int32) (a2 : Int32) (u0 : Mm), kd k0 = 8 → ∀ (H : Heap) (locs : List Loc) (ls : Array Slot), Hp 747 o D (EC cA o u0) s H locs → lv_has ls 6 [(0, .ref (o + k0)), (1, .int a1), (2, .int a2)] → w_X8_markPass k0 a1 a2 u0 Φ → W p l e rm_X8_markPass s m args below meth c H locs 0 0 (MQ below (Qg vI Φ (fun μ => Wd 747 o D (tysL cA) (EC cA o μ)) (aA o 747)) args s 0 0 (aA o 747)) (F0 m 0 ls []) := by
  intro k0 a1 a2 u0 hk0 H locs ls P hl h
  have hx := C.1.1
  have hb := C.1.2.1
  unfold w_X8_markPass at h
  refine lv_aload_n hx hb dX8_markPass_0 rfl (lv_at hl 0 rfl) ?_
  refine lv_iload_n hx hb dX8_markPass_1 rfl (lv_at hl 1 rfl) ?_
  refine r_calln (F := EC cA o) (va_runV (As := [.int a1]) (rest := []) C.1 (c_X8_passAt l D cA o _ _ hk0 u0 _ h) (cwV 1 C.1.2.2.2.2 gX8_markPass_X8_passAt rfl rfl rfl (by decide +kernel) ⟨Nat.le_of_ble_eq_true rfl, Nat.le_of_ble_eq_true rfl⟩) (r_preV C P [.int a1] (ci := 8) rfl (kd_lt hk0 (by decide)) (EK_8 hk0)) rfl rfl hl.1 rfl (lv_room (Nat.le_of_ble_eq_true rfl)) dX8_markPass_2 ⟨Nat.le_of_ble_eq_true rfl, Nat.le_of_ble_eq_true rfl⟩) P.2 (fun r2 u1 H locs h P => ?_)
  obtain ⟨h, hk3⟩ := h
  rcases r2 with _ | r2
  · have h := opt_n h
    refine lv_astore_nN (lv' := [(3, .null), (0, .ref (o + k0)), (1, .int a1), (2, .int a2)]) hx hb dX8_markPass_5 rfl hl (by decide) rfl (fun ls hl => ?_)
    refine lv_aload_nN hx hb dX8_markPass_6 rfl (lv_at hl 0 rfl) ?_
    refine lv_ifnonnullN hx hb dX8_markPass_7 ?_
    refine lv_iconst (v := -1) hx hb dX8_markPass_10 (by decide) ?_
    exact r_ireti C P h dX8_markPass_11
  · have h := opt_s h
    have hk3 := hk3 r2 rfl
    refine lv_astore_n (lv' := [(3, .ref (o + r2)), (0, .ref (o + k0)), (1, .int a1), (2, .int a2)]) hx hb dX8_markPass_5 rfl hl (by decide) rfl (fun ls hl => ?_)
    refine lv_aload_n hx hb dX8_markPass_6 rfl (lv_at hl 0 rfl) ?_
    refine lv_ifnonnull (tgt := 12) hx hb dX8_markPass_7 (by decide) ?_
    refine lv_aload_n hx hb dX8_markPass_12 rfl (lv_at hl 0 rfl) ?_
    refine g_4_1 C P in_X8_markPass_4 wd_X8_markPass_1 hk3 dX8_markPass_13 ?_
    refine lv_iload_n hx hb dX8_markPass_16 rfl (lv_at hl 3 rfl) ?_
    refine lv_icmp_ne (tgt := 23) hx hb dX8_markPass_17 (by decide) (fun c4 => ?_) (fun c4 => ?_)
    · have h := ite_f h c4
      refine lv_aload_n hx hb dX8_markPass_23 rfl (lv_at hl 0 rfl) ?_
      refine lv_iload_n hx hb dX8_markPass_24 rfl (lv_at hl 3 rfl) ?_
      obtain ⟨hB, h⟩ := h
      refine p_4_1 C P in_X8_markPass_4 wd_X8_markPass_1 hk3 hB dX8_markPass_25 (fun u5 eu5 H locs P => ?_)
      have h := h u5 eu5
      refine lv_iconst (v := 0) hx hb dX8_markPass_28 (by decide) ?_
      refine lv_istore (lv' := [(4, .int (0 : Int32)), (3, .ref (o + r2)), (0, .ref (o + k0)), (1, .int a1), (2, .int a2)]) hx hb dX8_markPass_29 hl (by decide) rfl (fun ls hl => ?_)
      refine lv_iconst (v := 0) hx hb dX8_markPass_31 (by decide) ?_
      refine lv_istore (lv' := [(5, .int (0 : Int32)), (4, .int (0 : Int32)), (3, .ref (o + r2)), (0, .ref (o + k0)), (1, .int a1), (2, .int a2)]) hx hb dX8_markPass_32 hl (by decide) rfl (fun ls hl => ?_)
      obtain ⟨n34, h⟩ := h
      exact t_X8_markPass_34 C n34 _ _ _ u5 hk0 _ _ _ P (lv_sub hl [3, 1, 0] rfl) h
    · have h := ite_t h c4
      refine lv_bipush (v := -5) hx hb dX8_markPass_20 (by decide) ?_
      exact r_ireti C P h dX8_markPass_22
set_option maxHeartbeats 4000000 in
set_option maxRecDepth 100000 in
theorem c_X8_markPass (l : Launch) (D : va_G) (cA : Nat → ClassId) (o : Nat) (k0 : Nat) (a1 : Int32) (a2 : Int32) (hk0 : kd k0 = 8) (u0 : Mm) (Φ : Int32 → Mm → Prop) (h : w_X8_markPass k0 a1 a2 u0 Φ) : Met l yX8_markPass wsX8_markPass rm_X8_markPass (va_Pc [.ref (o + k0), .int a1, .int a2] (Wd 747 o D (tysL cA) (EC cA o u0))) (Qg vI Φ (fun μ => Wd 747 o D (tysL cA) (EC cA o μ)) (aA o 747)) 0 0 (aA o 747) := by
  refine Met.ofW (cc := cX8_markPass) (maxL := 6) (ret := (some .int)) (by decide) rfl ?_
  intro p e s m args below meth c s₁ B hml hv
  obtain ⟨rfl, hv⟩ := hv
  have hl := lv_entry ([.ref (o + k0), .int a1, .int a2]) (n := 6) (Nat.le_of_ble_eq_true rfl)
  rw [lg_entry_eq]
  exact t_X8_markPass_0 ⟨⟨B.exec, B.bytes, hml, findClass_of_methodNamed B.named, atoms_spec (ws := wsX8_markPass) B.pre⟩, B.returns, B.notSynchronized, hv.2⟩ k0 a1 a2 u0 hk0 _ _ _ ⟨hv.1, va_S.rf⟩ hl h
abbrev rm_X8_changeFare : Room := { frames := 1, cells := 0, slots := 0, locals := 22 }
theorem wd_X8_changeFare_1 : Cond.fieldLink RX8 42 "TurnstileBank$State" "fare" "I" ∈ wsX8_changeFare := List.mem_of_getElem? (i := 1) (by decide +kernel)
theorem wd_X8_changeFare_2 : Cond.static yX9_isBetween ∈ wsX8_changeFare := List.mem_of_getElem? (i := 2) (by decide +kernel)
theorem wd_X8_changeFare_3 : Cond.initialized RX9 ∈ wsX8_changeFare := List.mem_of_getElem? (i := 3) (by decide +kernel)
theorem in_X8_changeFare_8 : ∀ w ∈ wsX80, w ∈ wsX8_changeFare := fun w h => List.mem_cons_of_mem _ (List.mem_append_right _ h)
def w_X8_changeFare (k0 : Nat) (a1 : Int32) (u0 : Mm) (Φ : Int32 → Mm → Prop) : Prop := (w_X9_isBetween ((0 : Int32)) a1 ((1000 : Int32)) u0 (fun r2 u1 => (if r2 = 0 then (Φ ((-2 : Int32)) u1) else (∀ u4 : Mm, u4 = up2 u1 k0 10 a1 → (Φ ((u1 k0 10)) u4)))))
set_option maxHeartbeats 4000000 in
set_option maxRecDepth 100000 in
theorem t_X8_changeFare_0 {p : Program} {l : Launch} {e : Env} {s : State} {m : MethodId} {args : Array Value} {below : List Frame} {meth : Method} {c : Code} {D : va_G} {cA : Nat → ClassId} {o : Nat}  {Φ : Int32 → Mm → Prop} (C : Cx p m meth c s args cX8_changeFare 3 wsX8_changeFare RX8 (some .int) D (tysL cA)) : ∀ (k0 : Nat) (a1 : Int32) (u0 : Mm), kd k0 = 8 → ∀ (H : Heap) (locs : List Loc) (ls : Array Slot), Hp 747 o D (EC cA o u0) s H locs → lv_has ls 3 [(0, .ref (o + k0)), (1, .int a1)] → w_X8_changeFare k0 a1 u0 Φ → W p l e rm_X8_changeFare s m args below meth c H locs 0 0 (MQ below (Qg vI Φ (fun μ => Wd 747 o D (tysL cA) (EC cA o μ)) (aA o 747)) args s 0 0 (aA o 747)) (F0 m 0 ls []) := by
  intro k0 a1 u0 hk0 H locs ls P hl h
  have hx := C.1.1
  have hb := C.1.2.1
  unfold w_X8_changeFare at h
  refine lv_iconst (v := 0) hx hb dX8_changeFare_0 (by decide) ?_
  refine lv_iload_n hx hb dX8_changeFare_1 rfl (lv_at hl 1 rfl) ?_
  refine lv_sipush (v := 1000) hx hb dX8_changeFare_2 (by decide) ?_
  refine r_calli (F := EC cA o) (va_runSN (As := [.int (0 : Int32), .int a1, .int (1000 : Int32)]) (rest := []) C.1 (c_X9_isBetween l D cA o _ _ _ u0 _ h) ⟨va_cnB 3 C.1.2.2.2.2 gX8_changeFare_X9_isBetween_n81 rfl rfl rfl (C.2.2.2.2 0 _ rfl) (C.1.2.2.2.2 _ wd_X8_changeFare_3) (by decide +kernel) ⟨Nat.le_of_ble_eq_true rfl, Nat.le_of_ble_eq_true rfl⟩, C.1.2.2.2.2 _ wd_X8_changeFare_2, trivial⟩ (r_pre C P [.int (0 : Int32), .int a1, .int (1000 : Int32)]) rfl rfl hl.1 rfl (lv_room (Nat.le_of_ble_eq_true rfl)) dX8_changeFare_5 ⟨Nat.le_of_ble_eq_true rfl, Nat.le_of_ble_eq_true rfl⟩) P.2 (fun r2 u1 H locs h P => ?_)
  refine lv_if_ne (tgt := 14) hx hb dX8_changeFare_8 (by decide) (fun c3 => ?_) (fun c3 => ?_)
  · have h := ite_f h c3
    refine lv_aload_n hx hb dX8_changeFare_14 rfl (lv_at hl 0 rfl) ?_
    refine g_8_10 C P in_X8_changeFare_8 wd_X8_changeFare_1 hk0 dX8_changeFare_15 ?_
    refine lv_istore_n (lv' := [(2, .int (u1 k0 10)), (0, .ref (o + k0)), (1, .int a1)]) hx hb dX8_changeFare_18 rfl hl (by decide) rfl (fun ls hl => ?_)
    refine lv_aload_n hx hb dX8_changeFare_19 rfl (lv_at hl 1 rfl) ?_
    refine lv_iload_n hx hb dX8_changeFare_20 rfl (lv_at hl 2 rfl) ?_
    refine p_8_10 C P in_X8_changeFare_8 wd_X8_changeFare_1 hk0 dX8_changeFare_21 (fun u4 eu4 H locs P => ?_)
    have h := h u4 eu4
    refine lv_iload_n hx hb dX8_changeFare_24 rfl (lv_at hl 0 rfl) ?_
    exact r_ireti C P h dX8_changeFare_25
  · have h := ite_t h c3
    refine lv_bipush (v := -2) hx hb dX8_changeFare_11 (by decide) ?_
    exact r_ireti C P h dX8_changeFare_13
set_option maxHeartbeats 4000000 in
set_option maxRecDepth 100000 in
theorem c_X8_changeFare (l : Launch) (D : va_G) (cA : Nat → ClassId) (o : Nat) (k0 : Nat) (a1 : Int32) (hk0 : kd k0 = 8) (u0 : Mm) (Φ : Int32 → Mm → Prop) (h : w_X8_changeFare k0 a1 u0 Φ) : Met l yX8_changeFare wsX8_changeFare rm_X8_changeFare (va_Pc [.ref (o + k0), .int a1] (Wd 747 o D (tysL cA) (EC cA o u0))) (Qg vI Φ (fun μ => Wd 747 o D (tysL cA) (EC cA o μ)) (aA o 747)) 0 0 (aA o 747) := by
  refine Met.ofW (cc := cX8_changeFare) (maxL := 3) (ret := (some .int)) (by decide) rfl ?_
  intro p e s m args below meth c s₁ B hml hv
  obtain ⟨rfl, hv⟩ := hv
  have hl := lv_entry ([.ref (o + k0), .int a1]) (n := 3) (Nat.le_of_ble_eq_true rfl)
  rw [lg_entry_eq]
  exact t_X8_changeFare_0 ⟨⟨B.exec, B.bytes, hml, findClass_of_methodNamed B.named, atoms_spec (ws := wsX8_changeFare) B.pre⟩, B.returns, B.notSynchronized, hv.2⟩ k0 a1 u0 hk0 _ _ _ ⟨hv.1, va_S.rf⟩ hl h
abbrev rm_X8_comeIn : Room := { frames := 1, cells := 0, slots := 0, locals := 23 }
theorem wd_X8_comeIn_1 : Cond.fieldLink RX8 57 "TurnstileBank$State" "personCount" "I" ∈ wsX8_comeIn := List.mem_of_getElem? (i := 1) (by decide +kernel)
theorem wd_X8_comeIn_2 : Cond.fieldLink RX8 19 "TurnstileBank$State" "people" "[LTurnstileBank$Person;" ∈ wsX8_comeIn := List.mem_of_getElem? (i := 2) (by decide +kernel)
theorem wd_X8_comeIn_3 : Cond.fieldLink RX8 78 "TurnstileBank$State" "time" "I" ∈ wsX8_comeIn := List.mem_of_getElem? (i := 3) (by decide +kernel)
theorem wd_X8_comeIn_4 : Cond.fieldLink RX8 126 "TurnstileBank$Gate" "outer" "LTurnstileBank$Queue;" ∈ wsX8_comeIn := List.mem_of_getElem? (i := 4) (by decide +kernel)
theorem in_X8_comeIn_1 : ∀ w ∈ wsX10, w ∈ wsX8_comeIn := fun w h => List.mem_cons_of_mem _ (List.mem_append_left _ (List.mem_append_left _ (List.mem_append_right _ h)))
theorem in_X8_comeIn_8 : ∀ w ∈ wsX80, w ∈ wsX8_comeIn := fun w h => List.mem_cons_of_mem _ (List.mem_append_left _ (List.mem_append_left _ (List.mem_append_left _ (List.mem_append_right _ h))))
def w_X8_comeIn_62  (Φ : Int32 → Mm → Prop) (x0 : Nat) (x1 : Int32) (x3 : Int32) (x4 : Nat) (z0 : Int32) (z1 : Nat) (u0 : Mm) : Prop := (w_X5_setUp z1 z0 x3 u0 (fun _ u8 => (vp_in (u8 x0 6) 40 ∧ (w_X5_waitAt ((x0 + 50 + (u8 x0 6).toNatClampNeg)) x1 ((1 : Int32)) ((u8 x0 9)) u8 (fun _ u11 => (w_X7_append ((x4 + 1)) ((u11 x0 6)) u11 (fun _ u13 => (∀ u15 : Mm, u15 = up2 u13 x0 6 ((u13 x0 6) + (1 : Int32)) → (Φ (((u15 x0 6) - (1 : Int32))) u15)))))))))
set_option maxHeartbeats 4000000 in
set_option maxRecDepth 100000 in
theorem t_X8_comeIn_62 {p : Program} {l : Launch} {e : Env} {s : State} {m : MethodId} {args : Array Value} {below : List Frame} {meth : Method} {c : Code} {D : va_G} {cA : Nat → ClassId} {o : Nat}  {Φ : Int32 → Mm → Prop} (C : Cx p m meth c s args cX8_comeIn 5 wsX8_comeIn RX8 (some .int) D (tysL cA)) : ∀ (x0 : Nat) (x1 : Int32) (x3 : Int32) (x4 : Nat) (z0 : Int32) (z1 : Nat) (u0 : Mm), kd x0 = 8 → kd x4 = 1 → kd z1 = 5 → ∀ (H : Heap) (locs : List Loc) (ls : Array Slot), Hp 747 o D (EC cA o u0) s H locs → lv_has ls 5 [(0, .ref (o + x0)), (1, .int x1), (3, .int x3), (4, .ref (o + x4))] → w_X8_comeIn_62 Φ x0 x1 x3 x4 z0 z1 u0 → W p l e rm_X8_comeIn s m args below meth c H locs 0 0 (MQ below (Qg vI Φ (fun μ => Wd 747 o D (tysL cA) (EC cA o μ)) (aA o 747)) args s 0 0 (aA o 747)) (F0 m 62 ls [.int z0, .ref (o + z1)]) := by
  intro x0 x1 x3 x4 z0 z1 u0 hx0 hx4 hz1 H locs ls P hl h
  have hx := C.1.1
  have hb := C.1.2.1
  unfold w_X8_comeIn_62 at h
  refine lv_iload_n hx hb dX8_comeIn_62 rfl (lv_at hl 2 rfl) ?_
  refine r_callv (F := EC cA o) (va_runV (As := [.int z0, .int x3]) (rest := []) C.1 (c_X5_setUp l D cA o _ _ _ hz1 u0 _ h) (cwV 2 C.1.2.2.2.2 gX8_comeIn_X5_setUp rfl rfl rfl (by decide +kernel) ⟨Nat.le_of_ble_eq_true rfl, Nat.le_of_ble_eq_true rfl⟩) (r_preV C P [.int z0, .int x3] (ci := 5) rfl (kd_lt hz1 (by decide)) (EK_5 hz1)) rfl rfl hl.1 rfl (lv_room (Nat.le_of_ble_eq_true rfl)) dX8_comeIn_63 ⟨Nat.le_of_ble_eq_true rfl, Nat.le_of_ble_eq_true rfl⟩) P.2 (fun u8 H locs h P => ?_)
  refine lv_aload_n hx hb dX8_comeIn_66 rfl (lv_at hl 0 rfl) ?_
  refine g_8_1 C P in_X8_comeIn_8 wd_X8_comeIn_2 hx0 dX8_comeIn_67 ?_
  refine lv_aload_n hx hb dX8_comeIn_70 rfl (lv_at hl 0 rfl) ?_
  refine g_8_6 C P in_X8_comeIn_8 wd_X8_comeIn_1 hx0 dX8_comeIn_71 ?_
  obtain ⟨hi, h⟩ := h
  have hk10 := kd_person hx0 hi
  refine a_person C P hx0 hi dX8_comeIn_74 ?_
  refine lv_iload_n hx hb dX8_comeIn_75 rfl (lv_at hl 1 rfl) ?_
  refine lv_iconst (v := 1) hx hb dX8_comeIn_76 (by decide) ?_
  refine lv_aload_n hx hb dX8_comeIn_77 rfl (lv_at hl 0 rfl) ?_
  refine g_8_9 C P in_X8_comeIn_8 wd_X8_comeIn_3 hx0 dX8_comeIn_78 ?_
  refine r_callv (F := EC cA o) (va_runV (As := [.int x1, .int (1 : Int32), .int (u8 x0 9)]) (rest := []) C.1 (c_X5_waitAt l D cA o _ _ _ _ hk10 u8 _ h) (cwV 3 C.1.2.2.2.2 gX8_comeIn_X5_waitAt rfl rfl rfl (by decide +kernel) ⟨Nat.le_of_ble_eq_true rfl, Nat.le_of_ble_eq_true rfl⟩) (r_preV C P [.int x1, .int (1 : Int32), .int (u8 x0 9)] (ci := 5) rfl (kd_lt hk10 (by decide)) (EK_5 hk10)) rfl rfl hl.1 rfl (lv_room (Nat.le_of_ble_eq_true rfl)) dX8_comeIn_81 ⟨Nat.le_of_ble_eq_true rfl, Nat.le_of_ble_eq_true rfl⟩) P.2 (fun u11 H locs h P => ?_)
  refine lv_aload hx hb dX8_comeIn_84 (lv_at hl 3 rfl) ?_
  refine g_1_0 C P in_X8_comeIn_1 wd_X8_comeIn_4 hx4 dX8_comeIn_86 ?_
  refine lv_aload_n hx hb dX8_comeIn_89 rfl (lv_at hl 0 rfl) ?_
  refine g_8_6 C P in_X8_comeIn_8 wd_X8_comeIn_1 hx0 dX8_comeIn_90 ?_
  refine r_callv (F := EC cA o) (va_runV (As := [.int (u11 x0 6)]) (rest := []) C.1 (c_X7_append l D cA o _ _ (kd_1_1 hx4) u11 _ h) (cwV 1 C.1.2.2.2.2 gX8_comeIn_X7_append rfl rfl rfl (by decide +kernel) ⟨Nat.le_of_ble_eq_true rfl, Nat.le_of_ble_eq_true rfl⟩) (r_preV C P [.int (u11 x0 6)] (ci := 7) rfl (kd_lt (kd_1_1 hx4) (by decide)) (EK_7 (kd_1_1 hx4))) rfl rfl hl.1 rfl (lv_room (Nat.le_of_ble_eq_true rfl)) dX8_comeIn_93 ⟨Nat.le_of_ble_eq_true rfl, Nat.le_of_ble_eq_true rfl⟩) P.2 (fun u13 H locs h P => ?_)
  refine lv_aload_n hx hb dX8_comeIn_96 rfl (lv_at hl 0 rfl) ?_
  refine lv_dup hx hb dX8_comeIn_97 rfl ?_
  refine g_8_6 C P in_X8_comeIn_8 wd_X8_comeIn_1 hx0 dX8_comeIn_98 ?_
  refine lv_iconst (v := 1) hx hb dX8_comeIn_101 (by decide) ?_
  refine lv_iadd hx hb dX8_comeIn_102 ?_
  refine p_8_6 C P in_X8_comeIn_8 wd_X8_comeIn_1 hx0 dX8_comeIn_103 (fun u15 eu15 H locs P => ?_)
  have h := h u15 eu15
  refine lv_aload_n hx hb dX8_comeIn_106 rfl (lv_at hl 0 rfl) ?_
  refine g_8_6 C P in_X8_comeIn_8 wd_X8_comeIn_1 hx0 dX8_comeIn_107 ?_
  refine lv_iconst (v := 1) hx hb dX8_comeIn_110 (by decide) ?_
  refine lv_isub hx hb dX8_comeIn_111 ?_
  exact r_ireti C P h dX8_comeIn_112
def w_X8_comeIn_27  (Φ : Int32 → Mm → Prop) (x0 : Nat) (x1 : Int32) (x2 : Int32) (x3 : Int32) (x4 : Nat) (u0 : Mm) : Prop := (if (u0 x0 6) < (40 : Int32) then (vp_in (u0 x0 6) 40 ∧ (if x2 = (-1 : Int32) then (w_X8_comeIn_62 Φ x0 x1 x3 x4 ((-5 : Int32)) ((x0 + 50 + (u0 x0 6).toNatClampNeg)) u0) else (w_X8_comeIn_62 Φ x0 x1 x3 x4 x2 ((x0 + 50 + (u0 x0 6).toNatClampNeg)) u0))) else (Φ ((-3 : Int32)) u0))
set_option maxHeartbeats 4000000 in
set_option maxRecDepth 100000 in
theorem t_X8_comeIn_27 {p : Program} {l : Launch} {e : Env} {s : State} {m : MethodId} {args : Array Value} {below : List Frame} {meth : Method} {c : Code} {D : va_G} {cA : Nat → ClassId} {o : Nat}  {Φ : Int32 → Mm → Prop} (C : Cx p m meth c s args cX8_comeIn 5 wsX8_comeIn RX8 (some .int) D (tysL cA)) : ∀ (x0 : Nat) (x1 : Int32) (x2 : Int32) (x3 : Int32) (x4 : Nat) (u0 : Mm), kd x0 = 8 → kd x4 = 1 → ∀ (H : Heap) (locs : List Loc) (ls : Array Slot), Hp 747 o D (EC cA o u0) s H locs → lv_has ls 5 [(0, .ref (o + x0)), (1, .int x1), (2, .int x2), (3, .int x3), (4, .ref (o + x4))] → w_X8_comeIn_27 Φ x0 x1 x2 x3 x4 u0 → W p l e rm_X8_comeIn s m args below meth c H locs 0 0 (MQ below (Qg vI Φ (fun μ => Wd 747 o D (tysL cA) (EC cA o μ)) (aA o 747)) args s 0 0 (aA o 747)) (F0 m 27 ls []) := by
  intro x0 x1 x2 x3 x4 u0 hx0 hx4 H locs ls P hl h
  have hx := C.1.1
  have hb := C.1.2.1
  unfold w_X8_comeIn_27 at h
  refine lv_aload_n hx hb dX8_comeIn_27 rfl (lv_at hl 0 rfl) ?_
  refine g_8_6 C P in_X8_comeIn_8 wd_X8_comeIn_1 hx0 dX8_comeIn_28 ?_
  refine lv_aload_n hx hb dX8_comeIn_31 rfl (lv_at hl 0 rfl) ?_
  refine g_8_1 C P in_X8_comeIn_8 wd_X8_comeIn_2 hx0 dX8_comeIn_32 ?_
  refine l_person C P hx0 dX8_comeIn_35 ?_
  refine lv_icmp_lt (tgt := 42) hx hb dX8_comeIn_36 (by decide) (fun c5 => ?_) (fun c5 => ?_)
  · have h := ite_t h c5
    refine lv_aload_n hx hb dX8_comeIn_42 rfl (lv_at hl 0 rfl) ?_
    refine g_8_1 C P in_X8_comeIn_8 wd_X8_comeIn_2 hx0 dX8_comeIn_43 ?_
    refine lv_aload_n hx hb dX8_comeIn_46 rfl (lv_at hl 0 rfl) ?_
    refine g_8_6 C P in_X8_comeIn_8 wd_X8_comeIn_1 hx0 dX8_comeIn_47 ?_
    obtain ⟨hi, h⟩ := h
    have hk6 := kd_person hx0 hi
    refine a_person C P hx0 hi dX8_comeIn_50 ?_
    refine lv_iload_n hx hb dX8_comeIn_51 rfl (lv_at hl 2 rfl) ?_
    refine lv_iconst (v := -1) hx hb dX8_comeIn_52 (by decide) ?_
    refine lv_icmp_ne (tgt := 61) hx hb dX8_comeIn_53 (by decide) (fun c7 => ?_) (fun c7 => ?_)
    · have h := ite_f h c7
      refine lv_iload_n hx hb dX8_comeIn_61 rfl (lv_at hl 2 rfl) ?_
      exact t_X8_comeIn_62 C _ _ _ _ _ _ u0 hx0 hx4 hk6 _ _ _ P (lv_sub hl [0, 1, 3, 4] rfl) h
    · have h := ite_t h c7
      refine lv_bipush (v := -5) hx hb dX8_comeIn_56 (by decide) ?_
      refine lv_goto (tgt := 62) hx hb dX8_comeIn_58 (by decide) ?_
      exact t_X8_comeIn_62 C _ _ _ _ _ _ u0 hx0 hx4 hk6 _ _ _ P (lv_sub hl [0, 1, 3, 4] rfl) h
  · have h := ite_f h c5
    refine lv_bipush (v := -3) hx hb dX8_comeIn_39 (by decide) ?_
    exact r_ireti C P h dX8_comeIn_41
def w_X8_comeIn (k0 : Nat) (a1 : Int32) (a2 : Int32) (a3 : Int32) (u0 : Mm) (Φ : Int32 → Mm → Prop) : Prop := (w_X8_gateAt k0 a1 u0 (fun r2 u1 => opt r2 (Φ ((-1 : Int32)) u1) (fun r2 => (if a2 = (-1 : Int32) then (w_X8_comeIn_27 Φ k0 a1 a2 a3 r2 u1) else (w_X8_passAt k0 a2 u1 (fun r17 u16 => opt r17 (Φ ((-1 : Int32)) u16) (fun r17 => (w_X8_comeIn_27 Φ k0 a1 a2 a3 r2 u16))))))))
set_option maxHeartbeats 4000000 in
set_option maxRecDepth 100000 in
theorem t_X8_comeIn_0 {p : Program} {l : Launch} {e : Env} {s : State} {m : MethodId} {args : Array Value} {below : List Frame} {meth : Method} {c : Code} {D : va_G} {cA : Nat → ClassId} {o : Nat}  {Φ : Int32 → Mm → Prop} (C : Cx p m meth c s args cX8_comeIn 5 wsX8_comeIn RX8 (some .int) D (tysL cA)) : ∀ (k0 : Nat) (a1 : Int32) (a2 : Int32) (a3 : Int32) (u0 : Mm), kd k0 = 8 → ∀ (H : Heap) (locs : List Loc) (ls : Array Slot), Hp 747 o D (EC cA o u0) s H locs → lv_has ls 5 [(0, .ref (o + k0)), (1, .int a1), (2, .int a2), (3, .int a3)] → w_X8_comeIn k0 a1 a2 a3 u0 Φ → W p l e rm_X8_comeIn s m args below meth c H locs 0 0 (MQ below (Qg vI Φ (fun μ => Wd 747 o D (tysL cA) (EC cA o μ)) (aA o 747)) args s 0 0 (aA o 747)) (F0 m 0 ls []) := by
  intro k0 a1 a2 a3 u0 hk0 H locs ls P hl h
  have hx := C.1.1
  have hb := C.1.2.1
  unfold w_X8_comeIn at h
  refine lv_aload_n hx hb dX8_comeIn_0 rfl (lv_at hl 0 rfl) ?_
  refine lv_iload_n hx hb dX8_comeIn_1 rfl (lv_at hl 1 rfl) ?_
  refine r_calln (F := EC cA o) (va_runV (As := [.int a1]) (rest := []) C.1 (c_X8_gateAt l D cA o _ _ hk0 u0 _ h) (cwV 1 C.1.2.2.2.2 gX8_comeIn_X8_gateAt rfl rfl rfl (by decide +kernel) ⟨Nat.le_of_ble_eq_true rfl, Nat.le_of_ble_eq_true rfl⟩) (r_preV C P [.int a1] (ci := 8) rfl (kd_lt hk0 (by decide)) (EK_8 hk0)) rfl rfl hl.1 rfl (lv_room (Nat.le_of_ble_eq_true rfl)) dX8_comeIn_2 ⟨Nat.le_of_ble_eq_true rfl, Nat.le_of_ble_eq_true rfl⟩) P.2 (fun r2 u1 H locs h P => ?_)
  obtain ⟨h, hk3⟩ := h
  rcases r2 with _ | r2
  · have h := opt_n h
    refine lv_astoreN (lv' := [(4, .null), (0, .ref (o + k0)), (1, .int a1), (2, .int a2), (3, .int a3)]) hx hb dX8_comeIn_5 hl (by decide) rfl (fun ls hl => ?_)
    refine lv_aloadN hx hb dX8_comeIn_7 (lv_at hl 0 rfl) ?_
    refine lv_ifnullN (tgt := 25) hx hb dX8_comeIn_9 (by decide) ?_
    refine lv_iconst (v := -1) hx hb dX8_comeIn_25 (by decide) ?_
    exact r_ireti C P h dX8_comeIn_26
  · have h := opt_s h
    have hk3 := hk3 r2 rfl
    refine lv_astore (lv' := [(4, .ref (o + r2)), (0, .ref (o + k0)), (1, .int a1), (2, .int a2), (3, .int a3)]) hx hb dX8_comeIn_5 hl (by decide) rfl (fun ls hl => ?_)
    refine lv_aload hx hb dX8_comeIn_7 (lv_at hl 0 rfl) ?_
    refine lv_ifnull hx hb dX8_comeIn_9 ?_
    refine lv_iload_n hx hb dX8_comeIn_12 rfl (lv_at hl 3 rfl) ?_
    refine lv_iconst (v := -1) hx hb dX8_comeIn_13 (by decide) ?_
    refine lv_icmp_eq (tgt := 27) hx hb dX8_comeIn_14 (by decide) (fun c4 => ?_) (fun c4 => ?_)
    · have h := ite_t h c4
      exact t_X8_comeIn_27 C _ _ _ _ _ u1 hk0 hk3 _ _ _ P (lv_sub hl [1, 2, 3, 4, 0] rfl) h
    · have h := ite_f h c4
      refine lv_aload_n hx hb dX8_comeIn_17 rfl (lv_at hl 1 rfl) ?_
      refine lv_iload_n hx hb dX8_comeIn_18 rfl (lv_at hl 3 rfl) ?_
      refine r_calln (F := EC cA o) (va_runV (As := [.int a2]) (rest := []) C.1 (c_X8_passAt l D cA o _ _ hk0 u1 _ h) (cwV 1 C.1.2.2.2.2 gX8_comeIn_X8_passAt rfl rfl rfl (by decide +kernel) ⟨Nat.le_of_ble_eq_true rfl, Nat.le_of_ble_eq_true rfl⟩) (r_preV C P [.int a2] (ci := 8) rfl (kd_lt hk0 (by decide)) (EK_8 hk0)) rfl rfl hl.1 rfl (lv_room (Nat.le_of_ble_eq_true rfl)) dX8_comeIn_19 ⟨Nat.le_of_ble_eq_true rfl, Nat.le_of_ble_eq_true rfl⟩) P.2 (fun r17 u16 H locs h P => ?_)
      obtain ⟨h, hk18⟩ := h
      rcases r17 with _ | r17
      · have h := opt_n h
        refine lv_ifnonnullN hx hb dX8_comeIn_22 ?_
        refine lv_iconst (v := -1) hx hb dX8_comeIn_25 (by decide) ?_
        exact r_ireti C P h dX8_comeIn_26
      · have h := opt_s h
        have hk18 := hk18 r17 rfl
        refine lv_ifnonnull (tgt := 27) hx hb dX8_comeIn_22 (by decide) ?_
        exact t_X8_comeIn_27 C _ _ _ _ _ u16 hk0 hk3 _ _ _ P (lv_sub hl [1, 2, 3, 4, 0] rfl) h
set_option maxHeartbeats 4000000 in
set_option maxRecDepth 100000 in
theorem c_X8_comeIn (l : Launch) (D : va_G) (cA : Nat → ClassId) (o : Nat) (k0 : Nat) (a1 : Int32) (a2 : Int32) (a3 : Int32) (hk0 : kd k0 = 8) (u0 : Mm) (Φ : Int32 → Mm → Prop) (h : w_X8_comeIn k0 a1 a2 a3 u0 Φ) : Met l yX8_comeIn wsX8_comeIn rm_X8_comeIn (va_Pc [.ref (o + k0), .int a1, .int a2, .int a3] (Wd 747 o D (tysL cA) (EC cA o u0))) (Qg vI Φ (fun μ => Wd 747 o D (tysL cA) (EC cA o μ)) (aA o 747)) 0 0 (aA o 747) := by
  refine Met.ofW (cc := cX8_comeIn) (maxL := 5) (ret := (some .int)) (by decide) rfl ?_
  intro p e s m args below meth c s₁ B hml hv
  obtain ⟨rfl, hv⟩ := hv
  have hl := lv_entry ([.ref (o + k0), .int a1, .int a2, .int a3]) (n := 5) (Nat.le_of_ble_eq_true rfl)
  rw [lg_entry_eq]
  exact t_X8_comeIn_0 ⟨⟨B.exec, B.bytes, hml, findClass_of_methodNamed B.named, atoms_spec (ws := wsX8_comeIn) B.pre⟩, B.returns, B.notSynchronized, hv.2⟩ k0 a1 a2 a3 u0 hk0 _ _ _ ⟨hv.1, va_S.rf⟩ hl h
abbrev rm_X8_goOut : Room := { frames := 1, cells := 0, slots := 0, locals := 23 }
theorem wd_X8_goOut_1 : Cond.fieldLink RX8 139 "TurnstileBank$Person" "where" "I" ∈ wsX8_goOut := List.mem_of_getElem? (i := 1) (by decide +kernel)
theorem wd_X8_goOut_2 : Cond.fieldLink RX8 78 "TurnstileBank$State" "time" "I" ∈ wsX8_goOut := List.mem_of_getElem? (i := 2) (by decide +kernel)
theorem wd_X8_goOut_3 : Cond.fieldLink RX8 142 "TurnstileBank$Gate" "inner" "LTurnstileBank$Queue;" ∈ wsX8_goOut := List.mem_of_getElem? (i := 3) (by decide +kernel)
theorem wd_X8_goOut_4 : Cond.fieldLink RX8 145 "TurnstileBank$Queue" "length" "I" ∈ wsX8_goOut := List.mem_of_getElem? (i := 4) (by decide +kernel)
theorem in_X8_goOut_1 : ∀ w ∈ wsX10, w ∈ wsX8_goOut := fun w h => List.mem_cons_of_mem _ (List.mem_append_left _ (List.mem_append_right _ h))
theorem in_X8_goOut_5 : ∀ w ∈ wsX50, w ∈ wsX8_goOut := fun w h => List.mem_cons_of_mem _ (List.mem_append_left _ (List.mem_append_left _ (List.mem_append_left _ (List.mem_append_right _ h))))
theorem in_X8_goOut_7 : ∀ w ∈ wsX70, w ∈ wsX8_goOut := fun w h => List.mem_cons_of_mem _ (List.mem_append_right _ h)
theorem in_X8_goOut_8 : ∀ w ∈ wsX80, w ∈ wsX8_goOut := fun w h => List.mem_cons_of_mem _ (List.mem_append_left _ (List.mem_append_left _ (List.mem_append_right _ h)))
def w_X8_goOut (k0 : Nat) (a1 : Int32) (a2 : Int32) (u0 : Mm) (Φ : Int32 → Mm → Prop) : Prop := (w_X8_gateAt k0 a1 u0 (fun r2 u1 => opt r2 (w_X8_personAt k0 a2 u1 (fun r5 u4 => opt r5 (Φ ((-1 : Int32)) u4) (fun r5 => (Φ ((-1 : Int32)) u4)))) (fun r2 => (w_X8_personAt k0 a2 u1 (fun r8 u7 => opt r8 (Φ ((-1 : Int32)) u7) (fun r8 => (if (u7 r8 2) = (3 : Int32) then (w_X5_waitAt r8 a1 ((4 : Int32)) ((u7 k0 9)) u7 (fun _ u11 => (w_X7_append ((r2 + 3)) a2 u11 (fun _ u13 => (Φ ((u13 ((r2 + 3)) 1)) u13))))) else (Φ ((-4 : Int32)) u7))))))))
set_option maxHeartbeats 4000000 in
set_option maxRecDepth 100000 in
theorem t_X8_goOut_0 {p : Program} {l : Launch} {e : Env} {s : State} {m : MethodId} {args : Array Value} {below : List Frame} {meth : Method} {c : Code} {D : va_G} {cA : Nat → ClassId} {o : Nat}  {Φ : Int32 → Mm → Prop} (C : Cx p m meth c s args cX8_goOut 5 wsX8_goOut RX8 (some .int) D (tysL cA)) : ∀ (k0 : Nat) (a1 : Int32) (a2 : Int32) (u0 : Mm), kd k0 = 8 → ∀ (H : Heap) (locs : List Loc) (ls : Array Slot), Hp 747 o D (EC cA o u0) s H locs → lv_has ls 5 [(0, .ref (o + k0)), (1, .int a1), (2, .int a2)] → w_X8_goOut k0 a1 a2 u0 Φ → W p l e rm_X8_goOut s m args below meth c H locs 0 0 (MQ below (Qg vI Φ (fun μ => Wd 747 o D (tysL cA) (EC cA o μ)) (aA o 747)) args s 0 0 (aA o 747)) (F0 m 0 ls []) := by
  intro k0 a1 a2 u0 hk0 H locs ls P hl h
  have hx := C.1.1
  have hb := C.1.2.1
  unfold w_X8_goOut at h
  refine lv_aload_n hx hb dX8_goOut_0 rfl (lv_at hl 0 rfl) ?_
  refine lv_iload_n hx hb dX8_goOut_1 rfl (lv_at hl 1 rfl) ?_
  refine r_calln (F := EC cA o) (va_runV (As := [.int a1]) (rest := []) C.1 (c_X8_gateAt l D cA o _ _ hk0 u0 _ h) (cwV 1 C.1.2.2.2.2 gX8_goOut_X8_gateAt rfl rfl rfl (by decide +kernel) ⟨Nat.le_of_ble_eq_true rfl, Nat.le_of_ble_eq_true rfl⟩) (r_preV C P [.int a1] (ci := 8) rfl (kd_lt hk0 (by decide)) (EK_8 hk0)) rfl rfl hl.1 rfl (lv_room (Nat.le_of_ble_eq_true rfl)) dX8_goOut_2 ⟨Nat.le_of_ble_eq_true rfl, Nat.le_of_ble_eq_true rfl⟩) P.2 (fun r2 u1 H locs h P => ?_)
  obtain ⟨h, hk3⟩ := h
  rcases r2 with _ | r2
  · have h := opt_n h
    refine lv_astore_nN (lv' := [(3, .null), (0, .ref (o + k0)), (1, .int a1), (2, .int a2)]) hx hb dX8_goOut_5 rfl hl (by decide) rfl (fun ls hl => ?_)
    refine lv_aload_n hx hb dX8_goOut_6 rfl (lv_at hl 1 rfl) ?_
    refine lv_iload_n hx hb dX8_goOut_7 rfl (lv_at hl 3 rfl) ?_
    refine r_calln (F := EC cA o) (va_runV (As := [.int a2]) (rest := []) C.1 (c_X8_personAt l D cA o _ _ hk0 u1 _ h) (cwV 1 C.1.2.2.2.2 gX8_goOut_X8_personAt rfl rfl rfl (by decide +kernel) ⟨Nat.le_of_ble_eq_true rfl, Nat.le_of_ble_eq_true rfl⟩) (r_preV C P [.int a2] (ci := 8) rfl (kd_lt hk0 (by decide)) (EK_8 hk0)) rfl rfl hl.1 rfl (lv_room (Nat.le_of_ble_eq_true rfl)) dX8_goOut_8 ⟨Nat.le_of_ble_eq_true rfl, Nat.le_of_ble_eq_true rfl⟩) P.2 (fun r5 u4 H locs h P => ?_)
    obtain ⟨h, hk6⟩ := h
    rcases r5 with _ | r5
    · have h := opt_n h
      refine lv_astoreN (lv' := [(4, .null), (3, .null), (0, .ref (o + k0)), (1, .int a1), (2, .int a2)]) hx hb dX8_goOut_11 hl (by decide) rfl (fun ls hl => ?_)
      refine lv_aload_nN hx hb dX8_goOut_13 rfl (lv_at hl 1 rfl) ?_
      refine lv_ifnullN (tgt := 22) hx hb dX8_goOut_14 (by decide) ?_
      refine lv_iconst (v := -1) hx hb dX8_goOut_22 (by decide) ?_
      exact r_ireti C P h dX8_goOut_23
    · have h := opt_s h
      have hk6 := hk6 r5 rfl
      refine lv_astore (lv' := [(4, .ref (o + r5)), (3, .null), (0, .ref (o + k0)), (1, .int a1), (2, .int a2)]) hx hb dX8_goOut_11 hl (by decide) rfl (fun ls hl => ?_)
      refine lv_aload_nN hx hb dX8_goOut_13 rfl (lv_at hl 1 rfl) ?_
      refine lv_ifnullN (tgt := 22) hx hb dX8_goOut_14 (by decide) ?_
      refine lv_iconst (v := -1) hx hb dX8_goOut_22 (by decide) ?_
      exact r_ireti C P h dX8_goOut_23
  · have h := opt_s h
    have hk3 := hk3 r2 rfl
    refine lv_astore_n (lv' := [(3, .ref (o + r2)), (0, .ref (o + k0)), (1, .int a1), (2, .int a2)]) hx hb dX8_goOut_5 rfl hl (by decide) rfl (fun ls hl => ?_)
    refine lv_aload_n hx hb dX8_goOut_6 rfl (lv_at hl 1 rfl) ?_
    refine lv_iload_n hx hb dX8_goOut_7 rfl (lv_at hl 3 rfl) ?_
    refine r_calln (F := EC cA o) (va_runV (As := [.int a2]) (rest := []) C.1 (c_X8_personAt l D cA o _ _ hk0 u1 _ h) (cwV 1 C.1.2.2.2.2 gX8_goOut_X8_personAt rfl rfl rfl (by decide +kernel) ⟨Nat.le_of_ble_eq_true rfl, Nat.le_of_ble_eq_true rfl⟩) (r_preV C P [.int a2] (ci := 8) rfl (kd_lt hk0 (by decide)) (EK_8 hk0)) rfl rfl hl.1 rfl (lv_room (Nat.le_of_ble_eq_true rfl)) dX8_goOut_8 ⟨Nat.le_of_ble_eq_true rfl, Nat.le_of_ble_eq_true rfl⟩) P.2 (fun r8 u7 H locs h P => ?_)
    obtain ⟨h, hk9⟩ := h
    rcases r8 with _ | r8
    · have h := opt_n h
      refine lv_astoreN (lv' := [(4, .null), (3, .ref (o + r2)), (0, .ref (o + k0)), (1, .int a1), (2, .int a2)]) hx hb dX8_goOut_11 hl (by decide) rfl (fun ls hl => ?_)
      refine lv_aload_n hx hb dX8_goOut_13 rfl (lv_at hl 1 rfl) ?_
      refine lv_ifnull hx hb dX8_goOut_14 ?_
      refine lv_aloadN hx hb dX8_goOut_17 (lv_at hl 0 rfl) ?_
      refine lv_ifnonnullN hx hb dX8_goOut_19 ?_
      refine lv_iconst (v := -1) hx hb dX8_goOut_22 (by decide) ?_
      exact r_ireti C P h dX8_goOut_23
    · have h := opt_s h
      have hk9 := hk9 r8 rfl
      refine lv_astore (lv' := [(4, .ref (o + r8)), (3, .ref (o + r2)), (0, .ref (o + k0)), (1, .int a1), (2, .int a2)]) hx hb dX8_goOut_11 hl (by decide) rfl (fun ls hl => ?_)
      refine lv_aload_n hx hb dX8_goOut_13 rfl (lv_at hl 1 rfl) ?_
      refine lv_ifnull hx hb dX8_goOut_14 ?_
      refine lv_aload hx hb dX8_goOut_17 (lv_at hl 0 rfl) ?_
      refine lv_ifnonnull (tgt := 24) hx hb dX8_goOut_19 (by decide) ?_
      refine lv_aload hx hb dX8_goOut_24 (lv_at hl 0 rfl) ?_
      refine g_5_2 C P in_X8_goOut_5 wd_X8_goOut_1 hk9 dX8_goOut_26 ?_
      refine lv_iconst (v := 3) hx hb dX8_goOut_29 (by decide) ?_
      refine lv_icmp_eq (tgt := 36) hx hb dX8_goOut_30 (by decide) (fun c10 => ?_) (fun c10 => ?_)
      · have h := ite_t h c10
        refine lv_aload hx hb dX8_goOut_36 (lv_at hl 0 rfl) ?_
        refine lv_iload_n hx hb dX8_goOut_38 rfl (lv_at hl 3 rfl) ?_
        refine lv_iconst (v := 4) hx hb dX8_goOut_39 (by decide) ?_
        refine lv_aload_n hx hb dX8_goOut_40 rfl (lv_at hl 2 rfl) ?_
        refine g_8_9 C P in_X8_goOut_8 wd_X8_goOut_2 hk0 dX8_goOut_41 ?_
        refine r_callv (F := EC cA o) (va_runV (As := [.int a1, .int (4 : Int32), .int (u7 k0 9)]) (rest := []) C.1 (c_X5_waitAt l D cA o _ _ _ _ hk9 u7 _ h) (cwV 3 C.1.2.2.2.2 gX8_goOut_X5_waitAt rfl rfl rfl (by decide +kernel) ⟨Nat.le_of_ble_eq_true rfl, Nat.le_of_ble_eq_true rfl⟩) (r_preV C P [.int a1, .int (4 : Int32), .int (u7 k0 9)] (ci := 5) rfl (kd_lt hk9 (by decide)) (EK_5 hk9)) rfl rfl hl.1 rfl (lv_room (Nat.le_of_ble_eq_true rfl)) dX8_goOut_44 ⟨Nat.le_of_ble_eq_true rfl, Nat.le_of_ble_eq_true rfl⟩) P.2 (fun u11 H locs h P => ?_)
        refine lv_aload_n hx hb dX8_goOut_47 rfl (lv_at hl 1 rfl) ?_
        refine g_1_1 C P in_X8_goOut_1 wd_X8_goOut_3 hk3 dX8_goOut_48 ?_
        refine lv_iload_n hx hb dX8_goOut_51 rfl (lv_at hl 4 rfl) ?_
        refine r_callv (F := EC cA o) (va_runV (As := [.int a2]) (rest := []) C.1 (c_X7_append l D cA o _ _ (kd_1_3 hk3) u11 _ h) (cwV 1 C.1.2.2.2.2 gX8_goOut_X7_append rfl rfl rfl (by decide +kernel) ⟨Nat.le_of_ble_eq_true rfl, Nat.le_of_ble_eq_true rfl⟩) (r_preV C P [.int a2] (ci := 7) rfl (kd_lt (kd_1_3 hk3) (by decide)) (EK_7 (kd_1_3 hk3))) rfl rfl hl.1 rfl (lv_room (Nat.le_of_ble_eq_true rfl)) dX8_goOut_52 ⟨Nat.le_of_ble_eq_true rfl, Nat.le_of_ble_eq_true rfl⟩) P.2 (fun u13 H locs h P => ?_)
        refine lv_aload_n hx hb dX8_goOut_55 rfl (lv_at hl 1 rfl) ?_
        refine g_1_1 C P in_X8_goOut_1 wd_X8_goOut_3 hk3 dX8_goOut_56 ?_
        refine g_7_1 C P in_X8_goOut_7 wd_X8_goOut_4 (kd_1_3 hk3) dX8_goOut_59 ?_
        exact r_ireti C P h dX8_goOut_62
      · have h := ite_f h c10
        refine lv_bipush (v := -4) hx hb dX8_goOut_33 (by decide) ?_
        exact r_ireti C P h dX8_goOut_35
set_option maxHeartbeats 4000000 in
set_option maxRecDepth 100000 in
theorem c_X8_goOut (l : Launch) (D : va_G) (cA : Nat → ClassId) (o : Nat) (k0 : Nat) (a1 : Int32) (a2 : Int32) (hk0 : kd k0 = 8) (u0 : Mm) (Φ : Int32 → Mm → Prop) (h : w_X8_goOut k0 a1 a2 u0 Φ) : Met l yX8_goOut wsX8_goOut rm_X8_goOut (va_Pc [.ref (o + k0), .int a1, .int a2] (Wd 747 o D (tysL cA) (EC cA o u0))) (Qg vI Φ (fun μ => Wd 747 o D (tysL cA) (EC cA o μ)) (aA o 747)) 0 0 (aA o 747) := by
  refine Met.ofW (cc := cX8_goOut) (maxL := 5) (ret := (some .int)) (by decide) rfl ?_
  intro p e s m args below meth c s₁ B hml hv
  obtain ⟨rfl, hv⟩ := hv
  have hl := lv_entry ([.ref (o + k0), .int a1, .int a2]) (n := 5) (Nat.le_of_ble_eq_true rfl)
  rw [lg_entry_eq]
  exact t_X8_goOut_0 ⟨⟨B.exec, B.bytes, hml, findClass_of_methodNamed B.named, atoms_spec (ws := wsX8_goOut) B.pre⟩, B.returns, B.notSynchronized, hv.2⟩ k0 a1 a2 u0 hk0 _ _ _ ⟨hv.1, va_S.rf⟩ hl h
abbrev rm_X8_moveQueue : Room := { frames := 1, cells := 0, slots := 0, locals := 21 }
theorem wd_X8_moveQueue_1 : Cond.fieldLink RX8 145 "TurnstileBank$Queue" "length" "I" ∈ wsX8_moveQueue := List.mem_of_getElem? (i := 1) (by decide +kernel)
theorem wd_X8_moveQueue_2 : Cond.fieldLink RX8 160 "TurnstileBank$Person" "gate" "I" ∈ wsX8_moveQueue := List.mem_of_getElem? (i := 2) (by decide +kernel)
theorem in_X8_moveQueue_5 : ∀ w ∈ wsX50, w ∈ wsX8_moveQueue := fun w h => List.mem_cons_of_mem _ (List.mem_append_left _ (List.mem_append_right _ h))
theorem in_X8_moveQueue_7 : ∀ w ∈ wsX70, w ∈ wsX8_moveQueue := fun w h => List.mem_cons_of_mem _ (List.mem_append_left _ (List.mem_append_left _ (List.mem_append_right _ h)))
def w_X8_moveQueue_3  (Φ : Unit → Mm → Prop) : Nat → Nat → Nat → Nat → Int32 → Int32 → Mm → Prop
  | 0, _, _, _, _, _, _ => False
  | n + 1, x0, x1, x2, x3, x4, u0 => (if (u0 x1 1) ≤ x4 then (∀ u2 : Mm, u2 = up2 u0 x1 1 (0 : Int32) → (Φ () u2)) else (w_X7_personAtPlace x1 x4 u0 (fun r4 u3 => (w_X8_personAt x0 r4 u3 (fun r6 u5 => opt r6 (w_X8_moveQueue_3 Φ n x0 x1 x2 x3 ((x4 + 1)) u5) (fun r6 => (∀ u8 : Mm, u8 = up2 u5 r6 3 x3 → (w_X7_append x2 r4 u8 (fun _ u9 => (w_X8_moveQueue_3 Φ n x0 x1 x2 x3 ((x4 + 1)) u9))))))))))
set_option maxHeartbeats 4000000 in
set_option maxRecDepth 100000 in
theorem t_X8_moveQueue_3 {p : Program} {l : Launch} {e : Env} {s : State} {m : MethodId} {args : Array Value} {below : List Frame} {meth : Method} {c : Code} {D : va_G} {cA : Nat → ClassId} {o : Nat}  {Φ : Unit → Mm → Prop} (C : Cx p m meth c s args cX8_moveQueue 7 wsX8_moveQueue RX8 none D (tysL cA)) : ∀ n : Nat, ∀ (x0 : Nat) (x1 : Nat) (x2 : Nat) (x3 : Int32) (x4 : Int32) (u0 : Mm), kd x0 = 8 → kd x1 = 7 → kd x2 = 7 → ∀ (H : Heap) (locs : List Loc) (ls : Array Slot), Hp 747 o D (EC cA o u0) s H locs → lv_has ls 7 [(0, .ref (o + x0)), (1, .ref (o + x1)), (2, .ref (o + x2)), (3, .int x3), (4, .int x4)] → w_X8_moveQueue_3 Φ n x0 x1 x2 x3 x4 u0 → W p l e rm_X8_moveQueue s m args below meth c H locs 0 0 (MQ below (Qg vV Φ (fun μ => Wd 747 o D (tysL cA) (EC cA o μ)) (aA o 747)) args s 0 0 (aA o 747)) (F0 m 3 ls []) := by
  intro n
  induction n with
  | zero => intro x0 x1 x2 x3 x4 u0 hx0 hx1 hx2 H locs ls P hl h; exact h.elim
  | succ n ih =>
    intro x0 x1 x2 x3 x4 u0 hx0 hx1 hx2 H locs ls P hl h
    have hx := C.1.1
    have hb := C.1.2.1
    rw [w_X8_moveQueue_3] at h
    refine lv_iload hx hb dX8_moveQueue_3 (lv_at hl 4 rfl) ?_
    refine lv_aload_n hx hb dX8_moveQueue_5 rfl (lv_at hl 1 rfl) ?_
    refine g_7_1 C P in_X8_moveQueue_7 wd_X8_moveQueue_1 hx1 dX8_moveQueue_6 ?_
    refine lv_icmp_ge (tgt := 51) hx hb dX8_moveQueue_9 (by decide) (fun c1 => ?_) (fun c1 => ?_)
    · have h := ite_t h c1
      refine lv_aload_n hx hb dX8_moveQueue_51 rfl (lv_at hl 1 rfl) ?_
      refine lv_iconst (v := 0) hx hb dX8_moveQueue_52 (by decide) ?_
      refine p_7_1 C P in_X8_moveQueue_7 wd_X8_moveQueue_1 hx1 dX8_moveQueue_53 (fun u2 eu2 H locs P => ?_)
      have h := h u2 eu2
      exact r_ret C P h dX8_moveQueue_56
    · have h := ite_f h c1
      refine lv_aload_n hx hb dX8_moveQueue_12 rfl (lv_at hl 1 rfl) ?_
      refine lv_iload hx hb dX8_moveQueue_13 (lv_at hl 4 rfl) ?_
      refine r_calli (F := EC cA o) (va_runV (As := [.int x4]) (rest := []) C.1 (c_X7_personAtPlace l D cA o _ _ hx1 u0 _ h) (cwV 1 C.1.2.2.2.2 gX8_moveQueue_X7_personAtPlace rfl rfl rfl (by decide +kernel) ⟨Nat.le_of_ble_eq_true rfl, Nat.le_of_ble_eq_true rfl⟩) (r_preV C P [.int x4] (ci := 7) rfl (kd_lt hx1 (by decide)) (EK_7 hx1)) rfl rfl hl.1 rfl (lv_room (Nat.le_of_ble_eq_true rfl)) dX8_moveQueue_15 ⟨Nat.le_of_ble_eq_true rfl, Nat.le_of_ble_eq_true rfl⟩) P.2 (fun r4 u3 H locs h P => ?_)
      refine lv_istore (lv' := [(5, .int r4), (0, .ref (o + x0)), (1, .ref (o + x1)), (2, .ref (o + x2)), (3, .int x3), (4, .int x4)]) hx hb dX8_moveQueue_18 hl (by decide) rfl (fun ls hl => ?_)
      refine lv_aload_n hx hb dX8_moveQueue_20 rfl (lv_at hl 1 rfl) ?_
      refine lv_iload hx hb dX8_moveQueue_21 (lv_at hl 0 rfl) ?_
      refine r_calln (F := EC cA o) (va_runV (As := [.int r4]) (rest := []) C.1 (c_X8_personAt l D cA o _ _ hx0 u3 _ h) (cwV 1 C.1.2.2.2.2 gX8_moveQueue_X8_personAt rfl rfl rfl (by decide +kernel) ⟨Nat.le_of_ble_eq_true rfl, Nat.le_of_ble_eq_true rfl⟩) (r_preV C P [.int r4] (ci := 8) rfl (kd_lt hx0 (by decide)) (EK_8 hx0)) rfl rfl hl.1 rfl (lv_room (Nat.le_of_ble_eq_true rfl)) dX8_moveQueue_23 ⟨Nat.le_of_ble_eq_true rfl, Nat.le_of_ble_eq_true rfl⟩) P.2 (fun r6 u5 H locs h P => ?_)
      obtain ⟨h, hk7⟩ := h
      rcases r6 with _ | r6
      · have h := opt_n h
        refine lv_astoreN (lv' := [(6, .null), (5, .int r4), (0, .ref (o + x0)), (1, .ref (o + x1)), (2, .ref (o + x2)), (3, .int x3), (4, .int x4)]) hx hb dX8_moveQueue_26 hl (by decide) rfl (fun ls hl => ?_)
        refine lv_aloadN hx hb dX8_moveQueue_28 (lv_at hl 0 rfl) ?_
        refine lv_ifnullN (tgt := 45) hx hb dX8_moveQueue_30 (by decide) ?_
        refine lv_iinc (v := (x4 + 1)) (lv' := [(4, .int (x4 + 1)), (6, .null), (5, .int r4), (0, .ref (o + x0)), (1, .ref (o + x1)), (2, .ref (o + x2)), (3, .int x3)]) hx hb dX8_moveQueue_45 hl (k := 6) rfl rfl (by decide) rfl (fun ls hl => ?_)
        refine lv_goto (tgt := 3) hx hb dX8_moveQueue_48 (by decide) ?_
        exact ih _ _ _ _ _ u5 hx0 hx1 hx2 _ _ _ P (lv_sub hl [3, 4, 5, 6, 0] rfl) h
      · have h := opt_s h
        have hk7 := hk7 r6 rfl
        refine lv_astore (lv' := [(6, .ref (o + r6)), (5, .int r4), (0, .ref (o + x0)), (1, .ref (o + x1)), (2, .ref (o + x2)), (3, .int x3), (4, .int x4)]) hx hb dX8_moveQueue_26 hl (by decide) rfl (fun ls hl => ?_)
        refine lv_aload hx hb dX8_moveQueue_28 (lv_at hl 0 rfl) ?_
        refine lv_ifnull hx hb dX8_moveQueue_30 ?_
        refine lv_aload hx hb dX8_moveQueue_33 (lv_at hl 0 rfl) ?_
        refine lv_iload_n hx hb dX8_moveQueue_35 rfl (lv_at hl 5 rfl) ?_
        refine p_5_3 C P in_X8_moveQueue_5 wd_X8_moveQueue_2 hk7 dX8_moveQueue_36 (fun u8 eu8 H locs P => ?_)
        have h := h u8 eu8
        refine lv_aload_n hx hb dX8_moveQueue_39 rfl (lv_at hl 4 rfl) ?_
        refine lv_iload hx hb dX8_moveQueue_40 (lv_at hl 1 rfl) ?_
        refine r_callv (F := EC cA o) (va_runV (As := [.int r4]) (rest := []) C.1 (c_X7_append l D cA o _ _ hx2 u8 _ h) (cwV 1 C.1.2.2.2.2 gX8_moveQueue_X7_append rfl rfl rfl (by decide +kernel) ⟨Nat.le_of_ble_eq_true rfl, Nat.le_of_ble_eq_true rfl⟩) (r_preV C P [.int r4] (ci := 7) rfl (kd_lt hx2 (by decide)) (EK_7 hx2)) rfl rfl hl.1 rfl (lv_room (Nat.le_of_ble_eq_true rfl)) dX8_moveQueue_42 ⟨Nat.le_of_ble_eq_true rfl, Nat.le_of_ble_eq_true rfl⟩) P.2 (fun u9 H locs h P => ?_)
        refine lv_iinc (v := (x4 + 1)) (lv' := [(4, .int (x4 + 1)), (6, .ref (o + r6)), (5, .int r4), (0, .ref (o + x0)), (1, .ref (o + x1)), (2, .ref (o + x2)), (3, .int x3)]) hx hb dX8_moveQueue_45 hl (k := 6) rfl rfl (by decide) rfl (fun ls hl => ?_)
        refine lv_goto (tgt := 3) hx hb dX8_moveQueue_48 (by decide) ?_
        exact ih _ _ _ _ _ u9 hx0 hx1 hx2 _ _ _ P (lv_sub hl [3, 4, 5, 6, 0] rfl) h
def w_X8_moveQueue (k0 : Nat) (k1 : Nat) (k2 : Nat) (a3 : Int32) (u0 : Mm) (Φ : Unit → Mm → Prop) : Prop := (∃ n3 : Nat, w_X8_moveQueue_3 Φ n3 k0 k1 k2 a3 ((0 : Int32)) u0)
set_option maxHeartbeats 4000000 in
set_option maxRecDepth 100000 in
theorem t_X8_moveQueue_0 {p : Program} {l : Launch} {e : Env} {s : State} {m : MethodId} {args : Array Value} {below : List Frame} {meth : Method} {c : Code} {D : va_G} {cA : Nat → ClassId} {o : Nat}  {Φ : Unit → Mm → Prop} (C : Cx p m meth c s args cX8_moveQueue 7 wsX8_moveQueue RX8 none D (tysL cA)) : ∀ (k0 : Nat) (k1 : Nat) (k2 : Nat) (a3 : Int32) (u0 : Mm), kd k0 = 8 → kd k1 = 7 → kd k2 = 7 → ∀ (H : Heap) (locs : List Loc) (ls : Array Slot), Hp 747 o D (EC cA o u0) s H locs → lv_has ls 7 [(0, .ref (o + k0)), (1, .ref (o + k1)), (2, .ref (o + k2)), (3, .int a3)] → w_X8_moveQueue k0 k1 k2 a3 u0 Φ → W p l e rm_X8_moveQueue s m args below meth c H locs 0 0 (MQ below (Qg vV Φ (fun μ => Wd 747 o D (tysL cA) (EC cA o μ)) (aA o 747)) args s 0 0 (aA o 747)) (F0 m 0 ls []) := by
  intro k0 k1 k2 a3 u0 hk0 hk1 hk2 H locs ls P hl h
  have hx := C.1.1
  have hb := C.1.2.1
  unfold w_X8_moveQueue at h
  refine lv_iconst (v := 0) hx hb dX8_moveQueue_0 (by decide) ?_
  refine lv_istore (lv' := [(4, .int (0 : Int32)), (0, .ref (o + k0)), (1, .ref (o + k1)), (2, .ref (o + k2)), (3, .int a3)]) hx hb dX8_moveQueue_1 hl (by decide) rfl (fun ls hl => ?_)
  obtain ⟨n3, h⟩ := h
  exact t_X8_moveQueue_3 C n3 _ _ _ _ _ u0 hk0 hk1 hk2 _ _ _ P (lv_sub hl [1, 2, 3, 4, 0] rfl) h
set_option maxHeartbeats 4000000 in
set_option maxRecDepth 100000 in
theorem c_X8_moveQueue (l : Launch) (D : va_G) (cA : Nat → ClassId) (o : Nat) (k0 : Nat) (k1 : Nat) (k2 : Nat) (a3 : Int32) (hk0 : kd k0 = 8) (hk1 : kd k1 = 7) (hk2 : kd k2 = 7) (u0 : Mm) (Φ : Unit → Mm → Prop) (h : w_X8_moveQueue k0 k1 k2 a3 u0 Φ) : Met l yX8_moveQueue wsX8_moveQueue rm_X8_moveQueue (va_Pc [.ref (o + k0), .ref (o + k1), .ref (o + k2), .int a3] (Wd 747 o D (tysL cA) (EC cA o u0))) (Qg vV Φ (fun μ => Wd 747 o D (tysL cA) (EC cA o μ)) (aA o 747)) 0 0 (aA o 747) := by
  refine Met.ofW (cc := cX8_moveQueue) (maxL := 7) (ret := none) (by decide) rfl ?_
  intro p e s m args below meth c s₁ B hml hv
  obtain ⟨rfl, hv⟩ := hv
  have hl := lv_entry ([.ref (o + k0), .ref (o + k1), .ref (o + k2), .int a3]) (n := 7) (Nat.le_of_ble_eq_true rfl)
  rw [lg_entry_eq]
  exact t_X8_moveQueue_0 ⟨⟨B.exec, B.bytes, hml, findClass_of_methodNamed B.named, atoms_spec (ws := wsX8_moveQueue) B.pre⟩, B.returns, B.notSynchronized, hv.2⟩ k0 k1 k2 a3 u0 hk0 hk1 hk2 _ _ _ ⟨hv.1, va_S.rf⟩ hl h
