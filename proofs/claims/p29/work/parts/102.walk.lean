abbrev rm_X3_letterHere : Room := { frames := 0, cells := 0, slots := 0, locals := 0 }
theorem wd_X3_letterHere_1 : Cond.fieldLink RX3 19 "TurnstileBank$Orders" "place" "I" ∈ wsX3_letterHere := List.mem_of_getElem? (i := 1) (by decide +kernel)
theorem wd_X3_letterHere_2 : Cond.fieldLink RX3 15 "TurnstileBank$Orders" "length" "I" ∈ wsX3_letterHere := List.mem_of_getElem? (i := 2) (by decide +kernel)
theorem wd_X3_letterHere_3 : Cond.fieldLink RX3 9 "TurnstileBank$Orders" "letters" "[C" ∈ wsX3_letterHere := List.mem_of_getElem? (i := 3) (by decide +kernel)
theorem in_X3_letterHere_3 : ∀ w ∈ wsX30, w ∈ wsX3_letterHere := fun w h => List.mem_cons_of_mem _ (List.mem_append_right _ h)
def w_X3_letterHere  (u0 : Mm) (Φ : Int32 → Mm → Prop) : Prop := (if (u0 745 2) < 0 then (Φ ((-1 : Int32)) u0) else (if (u0 745 1) ≤ (u0 745 2) then (Φ ((-1 : Int32)) u0) else (if (50 : Int32) ≤ (u0 745 2) then (Φ ((-1 : Int32)) u0) else (vp_in (u0 745 2) 50 ∧ (Φ ((u0 746 (u0 745 2).toNatClampNeg)) u0)))))
set_option maxHeartbeats 4000000 in
set_option maxRecDepth 100000 in
theorem t_X3_letterHere_0 {p : Program} {l : Launch} {e : Env} {s : State} {m : MethodId} {args : Array Value} {below : List Frame} {meth : Method} {c : Code} {D : va_G} {cA : Nat → ClassId} {o : Nat}  {Φ : Int32 → Mm → Prop} (C : Cx p m meth c s args cX3_letterHere 1 wsX3_letterHere RX3 (some .int) D (tysL cA)) : ∀  (u0 : Mm), ∀ (H : Heap) (locs : List Loc) (ls : Array Slot), Hp 747 o D (EC cA o u0) s H locs → lv_has ls 1 [(0, .ref (o + 745))] → w_X3_letterHere u0 Φ → W p l e rm_X3_letterHere s m args below meth c H locs 0 0 (MQ below (Qg vI Φ (fun μ => Wd 747 o D (tysL cA) (EC cA o μ)) (aA o 747)) args s 0 0 (aA o 747)) (F0 m 0 ls []) := by
  intro u0 H locs ls P hl h
  have hx := C.1.1
  have hb := C.1.2.1
  unfold w_X3_letterHere at h
  refine lv_aload_n hx hb dX3_letterHere_0 rfl (lv_at hl 0 rfl) ?_
  refine g_3_2 C P in_X3_letterHere_3 wd_X3_letterHere_1 kd_at_745 dX3_letterHere_1 ?_
  refine lv_if_lt (tgt := 42) hx hb dX3_letterHere_4 (by decide) (fun c1 => ?_) (fun c1 => ?_)
  · have h := ite_t h c1
    refine lv_iconst (v := -1) hx hb dX3_letterHere_42 (by decide) ?_
    exact r_ireti C P h dX3_letterHere_43
  · have h := ite_f h c1
    refine lv_aload_n hx hb dX3_letterHere_7 rfl (lv_at hl 0 rfl) ?_
    refine g_3_2 C P in_X3_letterHere_3 wd_X3_letterHere_1 kd_at_745 dX3_letterHere_8 ?_
    refine lv_aload_n hx hb dX3_letterHere_11 rfl (lv_at hl 0 rfl) ?_
    refine g_3_1 C P in_X3_letterHere_3 wd_X3_letterHere_2 kd_at_745 dX3_letterHere_12 ?_
    refine lv_icmp_ge (tgt := 42) hx hb dX3_letterHere_15 (by decide) (fun c2 => ?_) (fun c2 => ?_)
    · have h := ite_t h c2
      refine lv_iconst (v := -1) hx hb dX3_letterHere_42 (by decide) ?_
      exact r_ireti C P h dX3_letterHere_43
    · have h := ite_f h c2
      refine lv_aload_n hx hb dX3_letterHere_18 rfl (lv_at hl 0 rfl) ?_
      refine g_3_2 C P in_X3_letterHere_3 wd_X3_letterHere_1 kd_at_745 dX3_letterHere_19 ?_
      refine lv_aload_n hx hb dX3_letterHere_22 rfl (lv_at hl 0 rfl) ?_
      refine g_3_0 C P in_X3_letterHere_3 wd_X3_letterHere_3 kd_at_745 dX3_letterHere_23 ?_
      refine al_22 C P kd_at_746 dX3_letterHere_26 ?_
      refine lv_icmp_ge (tgt := 42) hx hb dX3_letterHere_27 (by decide) (fun c3 => ?_) (fun c3 => ?_)
      · have h := ite_t h c3
        refine lv_iconst (v := -1) hx hb dX3_letterHere_42 (by decide) ?_
        exact r_ireti C P h dX3_letterHere_43
      · have h := ite_f h c3
        refine lv_aload_n hx hb dX3_letterHere_30 rfl (lv_at hl 0 rfl) ?_
        refine g_3_0 C P in_X3_letterHere_3 wd_X3_letterHere_3 kd_at_745 dX3_letterHere_31 ?_
        refine lv_aload_n hx hb dX3_letterHere_34 rfl (lv_at hl 0 rfl) ?_
        refine g_3_2 C P in_X3_letterHere_3 wd_X3_letterHere_1 kd_at_745 dX3_letterHere_35 ?_
        obtain ⟨hi, h⟩ := h
        refine ld_22 C P kd_at_746 hi dX3_letterHere_38 ?_
        refine lv_goto (tgt := 43) hx hb dX3_letterHere_39 (by decide) ?_
        exact r_ireti C P h dX3_letterHere_43
set_option maxHeartbeats 4000000 in
set_option maxRecDepth 100000 in
theorem c_X3_letterHere (l : Launch) (D : va_G) (cA : Nat → ClassId) (o : Nat)   (u0 : Mm) (Φ : Int32 → Mm → Prop) (h : w_X3_letterHere u0 Φ) : Met l yX3_letterHere wsX3_letterHere rm_X3_letterHere (va_Pc [.ref (o + 745)] (Wd 747 o D (tysL cA) (EC cA o u0))) (Qg vI Φ (fun μ => Wd 747 o D (tysL cA) (EC cA o μ)) (aA o 747)) 0 0 (aA o 747) := by
  refine Met.ofW (cc := cX3_letterHere) (maxL := 1) (ret := (some .int)) (by decide) rfl ?_
  intro p e s m args below meth c s₁ B hml hv
  obtain ⟨rfl, hv⟩ := hv
  have hl := lv_entry ([.ref (o + 745)]) (n := 1) (Nat.le_of_ble_eq_true rfl)
  rw [lg_entry_eq]
  exact t_X3_letterHere_0 ⟨⟨B.exec, B.bytes, hml, findClass_of_methodNamed B.named, atoms_spec (ws := wsX3_letterHere) B.pre⟩, B.returns, B.notSynchronized, hv.2⟩ u0 _ _ _ ⟨hv.1, va_S.rf⟩ hl h
abbrev rm_X3_readNumber : Room := { frames := 1, cells := 0, slots := 0, locals := 20 }
theorem wd_X3_readNumber_1 : Cond.fieldLink RX3 19 "TurnstileBank$Orders" "place" "I" ∈ wsX3_readNumber := List.mem_of_getElem? (i := 1) (by decide +kernel)
theorem wd_X3_readNumber_2 : Cond.fieldLink RX3 53 "TurnstileBank$Orders" "number" "I" ∈ wsX3_readNumber := List.mem_of_getElem? (i := 2) (by decide +kernel)
theorem in_X3_readNumber_3 : ∀ w ∈ wsX30, w ∈ wsX3_readNumber := fun w h => List.mem_cons_of_mem _ (List.mem_append_right _ h)
def w_X3_readNumber (a1 : Int32) (u0 : Mm) (Φ : Int32 → Mm → Prop) : Prop := (w_X3_letterHere u0 (fun r2 u1 => (if (r2 - (48 : Int32)) < a1 then (Φ (0 : Int32) u1) else (if (r2 - (48 : Int32)) ≤ (9 : Int32) then (∀ u5 : Mm, u5 = up2 u1 745 2 ((u1 745 2) + (1 : Int32)) → (∀ u6 : Mm, u6 = up2 u5 745 5 (r2 - (48 : Int32)) → (w_X3_letterHere u6 (fun r8 u7 => (if (r2 - (48 : Int32)) ≤ 0 then (Φ (1 : Int32) u7) else (if (r8 - (48 : Int32)) < 0 then (Φ (1 : Int32) u7) else (if (9 : Int32) < (r8 - (48 : Int32)) then (Φ (1 : Int32) u7) else (∀ u12 : Mm, u12 = up2 u7 745 2 ((u7 745 2) + (1 : Int32)) → (∀ u13 : Mm, u13 = up2 u12 745 5 (((10 : Int32) * (r2 - (48 : Int32))) + (r8 - (48 : Int32))) → (Φ (1 : Int32) u13)))))))))) else (Φ (0 : Int32) u1)))))
set_option maxHeartbeats 4000000 in
set_option maxRecDepth 100000 in
theorem t_X3_readNumber_0 {p : Program} {l : Launch} {e : Env} {s : State} {m : MethodId} {args : Array Value} {below : List Frame} {meth : Method} {c : Code} {D : va_G} {cA : Nat → ClassId} {o : Nat}  {Φ : Int32 → Mm → Prop} (C : Cx p m meth c s args cX3_readNumber 4 wsX3_readNumber RX3 (some .boolean) D (tysL cA)) : ∀ (a1 : Int32) (u0 : Mm), ∀ (H : Heap) (locs : List Loc) (ls : Array Slot), Hp 747 o D (EC cA o u0) s H locs → lv_has ls 4 [(0, .ref (o + 745)), (1, .int a1)] → w_X3_readNumber a1 u0 Φ → W p l e rm_X3_readNumber s m args below meth c H locs 0 0 (MQ below (Qg vI Φ (fun μ => Wd 747 o D (tysL cA) (EC cA o μ)) (aA o 747)) args s 0 0 (aA o 747)) (F0 m 0 ls []) := by
  intro a1 u0 H locs ls P hl h
  have hx := C.1.1
  have hb := C.1.2.1
  unfold w_X3_readNumber at h
  refine lv_aload_n hx hb dX3_readNumber_0 rfl (lv_at hl 0 rfl) ?_
  refine r_calli (F := EC cA o) (va_runV (As := []) (rest := []) C.1 (c_X3_letterHere l D cA o u0 _ h) (cwV 0 C.1.2.2.2.2 gX3_readNumber_X3_letterHere rfl rfl rfl (by decide +kernel) ⟨Nat.le_of_ble_eq_true rfl, Nat.le_of_ble_eq_true rfl⟩) (r_preV C P [] (ci := 3) rfl (kd_lt kd_at_745 (by decide)) (EK_3 kd_at_745)) rfl rfl hl.1 rfl (lv_room (Nat.le_of_ble_eq_true rfl)) dX3_readNumber_1 ⟨Nat.le_of_ble_eq_true rfl, Nat.le_of_ble_eq_true rfl⟩) P.2 (fun r2 u1 H locs h P => ?_)
  refine lv_bipush (v := 48) hx hb dX3_readNumber_4 (by decide) ?_
  refine lv_isub hx hb dX3_readNumber_6 ?_
  refine lv_istore_n (lv' := [(2, .int (r2 - (48 : Int32))), (0, .ref (o + 745)), (1, .int a1)]) hx hb dX3_readNumber_7 rfl hl (by decide) rfl (fun ls hl => ?_)
  refine lv_iload_n hx hb dX3_readNumber_8 rfl (lv_at hl 0 rfl) ?_
  refine lv_iload_n hx hb dX3_readNumber_9 rfl (lv_at hl 2 rfl) ?_
  refine lv_icmp_lt (tgt := 19) hx hb dX3_readNumber_10 (by decide) (fun c3 => ?_) (fun c3 => ?_)
  · have h := ite_t h c3
    refine lv_iconst (v := 0) hx hb dX3_readNumber_19 (by decide) ?_
    exact r_iretb C P (Or.inl rfl) h dX3_readNumber_20
  · have h := ite_f h c3
    refine lv_iload_n hx hb dX3_readNumber_13 rfl (lv_at hl 0 rfl) ?_
    refine lv_bipush (v := 9) hx hb dX3_readNumber_14 (by decide) ?_
    refine lv_icmp_le (tgt := 21) hx hb dX3_readNumber_16 (by decide) (fun c4 => ?_) (fun c4 => ?_)
    · have h := ite_t h c4
      refine lv_aload_n hx hb dX3_readNumber_21 rfl (lv_at hl 1 rfl) ?_
      refine lv_dup hx hb dX3_readNumber_22 rfl ?_
      refine g_3_2 C P in_X3_readNumber_3 wd_X3_readNumber_1 kd_at_745 dX3_readNumber_23 ?_
      refine lv_iconst (v := 1) hx hb dX3_readNumber_26 (by decide) ?_
      refine lv_iadd hx hb dX3_readNumber_27 ?_
      refine p_3_2 C P in_X3_readNumber_3 wd_X3_readNumber_1 kd_at_745 dX3_readNumber_28 (fun u5 eu5 H locs P => ?_)
      have h := h u5 eu5
      refine lv_aload_n hx hb dX3_readNumber_31 rfl (lv_at hl 1 rfl) ?_
      refine lv_iload_n hx hb dX3_readNumber_32 rfl (lv_at hl 0 rfl) ?_
      refine p_3_5 C P in_X3_readNumber_3 wd_X3_readNumber_2 kd_at_745 dX3_readNumber_33 (fun u6 eu6 H locs P => ?_)
      have h := h u6 eu6
      refine lv_aload_n hx hb dX3_readNumber_36 rfl (lv_at hl 1 rfl) ?_
      refine r_calli (F := EC cA o) (va_runV (As := []) (rest := []) C.1 (c_X3_letterHere l D cA o u6 _ h) (cwV 0 C.1.2.2.2.2 gX3_readNumber_X3_letterHere rfl rfl rfl (by decide +kernel) ⟨Nat.le_of_ble_eq_true rfl, Nat.le_of_ble_eq_true rfl⟩) (r_preV C P [] (ci := 3) rfl (kd_lt kd_at_745 (by decide)) (EK_3 kd_at_745)) rfl rfl hl.1 rfl (lv_room (Nat.le_of_ble_eq_true rfl)) dX3_readNumber_37 ⟨Nat.le_of_ble_eq_true rfl, Nat.le_of_ble_eq_true rfl⟩) P.2 (fun r8 u7 H locs h P => ?_)
      refine lv_bipush (v := 48) hx hb dX3_readNumber_40 (by decide) ?_
      refine lv_isub hx hb dX3_readNumber_42 ?_
      refine lv_istore_n (lv' := [(3, .int (r8 - (48 : Int32))), (2, .int (r2 - (48 : Int32))), (0, .ref (o + 745)), (1, .int a1)]) hx hb dX3_readNumber_43 rfl hl (by decide) rfl (fun ls hl => ?_)
      refine lv_iload_n hx hb dX3_readNumber_44 rfl (lv_at hl 1 rfl) ?_
      refine lv_if_le (tgt := 78) hx hb dX3_readNumber_45 (by decide) (fun c9 => ?_) (fun c9 => ?_)
      · have h := ite_t h c9
        refine lv_iconst (v := 1) hx hb dX3_readNumber_78 (by decide) ?_
        exact r_iretb C P (Or.inr rfl) h dX3_readNumber_79
      · have h := ite_f h c9
        refine lv_iload_n hx hb dX3_readNumber_48 rfl (lv_at hl 0 rfl) ?_
        refine lv_if_lt (tgt := 78) hx hb dX3_readNumber_49 (by decide) (fun c10 => ?_) (fun c10 => ?_)
        · have h := ite_t h c10
          refine lv_iconst (v := 1) hx hb dX3_readNumber_78 (by decide) ?_
          exact r_iretb C P (Or.inr rfl) h dX3_readNumber_79
        · have h := ite_f h c10
          refine lv_iload_n hx hb dX3_readNumber_52 rfl (lv_at hl 0 rfl) ?_
          refine lv_bipush (v := 9) hx hb dX3_readNumber_53 (by decide) ?_
          refine lv_icmp_gt (tgt := 78) hx hb dX3_readNumber_55 (by decide) (fun c11 => ?_) (fun c11 => ?_)
          · have h := ite_t h c11
            refine lv_iconst (v := 1) hx hb dX3_readNumber_78 (by decide) ?_
            exact r_iretb C P (Or.inr rfl) h dX3_readNumber_79
          · have h := ite_f h c11
            refine lv_aload_n hx hb dX3_readNumber_58 rfl (lv_at hl 2 rfl) ?_
            refine lv_dup hx hb dX3_readNumber_59 rfl ?_
            refine g_3_2 C P in_X3_readNumber_3 wd_X3_readNumber_1 kd_at_745 dX3_readNumber_60 ?_
            refine lv_iconst (v := 1) hx hb dX3_readNumber_63 (by decide) ?_
            refine lv_iadd hx hb dX3_readNumber_64 ?_
            refine p_3_2 C P in_X3_readNumber_3 wd_X3_readNumber_1 kd_at_745 dX3_readNumber_65 (fun u12 eu12 H locs P => ?_)
            have h := h u12 eu12
            refine lv_aload_n hx hb dX3_readNumber_68 rfl (lv_at hl 2 rfl) ?_
            refine lv_bipush (v := 10) hx hb dX3_readNumber_69 (by decide) ?_
            refine lv_iload_n hx hb dX3_readNumber_71 rfl (lv_at hl 1 rfl) ?_
            refine lv_imul hx hb dX3_readNumber_72 ?_
            refine lv_iload_n hx hb dX3_readNumber_73 rfl (lv_at hl 0 rfl) ?_
            refine lv_iadd hx hb dX3_readNumber_74 ?_
            refine p_3_5 C P in_X3_readNumber_3 wd_X3_readNumber_2 kd_at_745 dX3_readNumber_75 (fun u13 eu13 H locs P => ?_)
            have h := h u13 eu13
            refine lv_iconst (v := 1) hx hb dX3_readNumber_78 (by decide) ?_
            exact r_iretb C P (Or.inr rfl) h dX3_readNumber_79
    · have h := ite_f h c4
      refine lv_iconst (v := 0) hx hb dX3_readNumber_19 (by decide) ?_
      exact r_iretb C P (Or.inl rfl) h dX3_readNumber_20
set_option maxHeartbeats 4000000 in
set_option maxRecDepth 100000 in
theorem c_X3_readNumber (l : Launch) (D : va_G) (cA : Nat → ClassId) (o : Nat) (a1 : Int32)  (u0 : Mm) (Φ : Int32 → Mm → Prop) (h : w_X3_readNumber a1 u0 Φ) : Met l yX3_readNumber wsX3_readNumber rm_X3_readNumber (va_Pc [.ref (o + 745), .int a1] (Wd 747 o D (tysL cA) (EC cA o u0))) (Qg vI Φ (fun μ => Wd 747 o D (tysL cA) (EC cA o μ)) (aA o 747)) 0 0 (aA o 747) := by
  refine Met.ofW (cc := cX3_readNumber) (maxL := 4) (ret := (some .boolean)) (by decide) rfl ?_
  intro p e s m args below meth c s₁ B hml hv
  obtain ⟨rfl, hv⟩ := hv
  have hl := lv_entry ([.ref (o + 745), .int a1]) (n := 4) (Nat.le_of_ble_eq_true rfl)
  rw [lg_entry_eq]
  exact t_X3_readNumber_0 ⟨⟨B.exec, B.bytes, hml, findClass_of_methodNamed B.named, atoms_spec (ws := wsX3_readNumber) B.pre⟩, B.returns, B.notSynchronized, hv.2⟩ a1 u0 _ _ _ ⟨hv.1, va_S.rf⟩ hl h
abbrev rm_X3_readGate : Room := { frames := 1, cells := 0, slots := 0, locals := 20 }
theorem wd_X3_readGate_1 : Cond.fieldLink RX3 50 "TurnstileBank$Orders" "gate" "I" ∈ wsX3_readGate := List.mem_of_getElem? (i := 1) (by decide +kernel)
theorem wd_X3_readGate_2 : Cond.fieldLink RX3 19 "TurnstileBank$Orders" "place" "I" ∈ wsX3_readGate := List.mem_of_getElem? (i := 2) (by decide +kernel)
theorem in_X3_readGate_3 : ∀ w ∈ wsX30, w ∈ wsX3_readGate := fun w h => List.mem_cons_of_mem _ (List.mem_append_right _ h)
def w_X3_readGate (a1 : Int32) (u0 : Mm) (Φ : Int32 → Mm → Prop) : Prop := (w_X3_letterHere u0 (fun r2 u1 => (∀ u3 : Mm, u3 = up2 u1 745 4 (r2 - (48 : Int32)) → (if (u3 745 4) < 0 then (Φ (0 : Int32) u3) else (if (9 : Int32) < (u3 745 4) then (Φ (0 : Int32) u3) else (if (u3 745 4) < a1 then (∀ u7 : Mm, u7 = up2 u3 745 2 ((u3 745 2) + (1 : Int32)) → (Φ (1 : Int32) u7)) else (Φ (0 : Int32) u3)))))))
set_option maxHeartbeats 4000000 in
set_option maxRecDepth 100000 in
theorem t_X3_readGate_0 {p : Program} {l : Launch} {e : Env} {s : State} {m : MethodId} {args : Array Value} {below : List Frame} {meth : Method} {c : Code} {D : va_G} {cA : Nat → ClassId} {o : Nat}  {Φ : Int32 → Mm → Prop} (C : Cx p m meth c s args cX3_readGate 2 wsX3_readGate RX3 (some .boolean) D (tysL cA)) : ∀ (a1 : Int32) (u0 : Mm), ∀ (H : Heap) (locs : List Loc) (ls : Array Slot), Hp 747 o D (EC cA o u0) s H locs → lv_has ls 2 [(0, .ref (o + 745)), (1, .int a1)] → w_X3_readGate a1 u0 Φ → W p l e rm_X3_readGate s m args below meth c H locs 0 0 (MQ below (Qg vI Φ (fun μ => Wd 747 o D (tysL cA) (EC cA o μ)) (aA o 747)) args s 0 0 (aA o 747)) (F0 m 0 ls []) := by
  intro a1 u0 H locs ls P hl h
  have hx := C.1.1
  have hb := C.1.2.1
  unfold w_X3_readGate at h
  refine lv_aload_n hx hb dX3_readGate_0 rfl (lv_at hl 0 rfl) ?_
  refine lv_aload_n hx hb dX3_readGate_1 rfl (lv_at hl 0 rfl) ?_
  refine r_calli (F := EC cA o) (va_runV (As := []) (rest := [.ref (o + 745)]) C.1 (c_X3_letterHere l D cA o u0 _ h) (cwV 0 C.1.2.2.2.2 gX3_readGate_X3_letterHere rfl rfl rfl (by decide +kernel) ⟨Nat.le_of_ble_eq_true rfl, Nat.le_of_ble_eq_true rfl⟩) (r_preV C P [] (ci := 3) rfl (kd_lt kd_at_745 (by decide)) (EK_3 kd_at_745)) rfl rfl hl.1 rfl (lv_room (Nat.le_of_ble_eq_true rfl)) dX3_readGate_2 ⟨Nat.le_of_ble_eq_true rfl, Nat.le_of_ble_eq_true rfl⟩) P.2 (fun r2 u1 H locs h P => ?_)
  refine lv_bipush (v := 48) hx hb dX3_readGate_5 (by decide) ?_
  refine lv_isub hx hb dX3_readGate_7 ?_
  refine p_3_4 C P in_X3_readGate_3 wd_X3_readGate_1 kd_at_745 dX3_readGate_8 (fun u3 eu3 H locs P => ?_)
  have h := h u3 eu3
  refine lv_aload_n hx hb dX3_readGate_11 rfl (lv_at hl 0 rfl) ?_
  refine g_3_4 C P in_X3_readGate_3 wd_X3_readGate_1 kd_at_745 dX3_readGate_12 ?_
  refine lv_if_lt (tgt := 35) hx hb dX3_readGate_15 (by decide) (fun c4 => ?_) (fun c4 => ?_)
  · have h := ite_t h c4
    refine lv_iconst (v := 0) hx hb dX3_readGate_35 (by decide) ?_
    exact r_iretb C P (Or.inl rfl) h dX3_readGate_36
  · have h := ite_f h c4
    refine lv_aload_n hx hb dX3_readGate_18 rfl (lv_at hl 0 rfl) ?_
    refine g_3_4 C P in_X3_readGate_3 wd_X3_readGate_1 kd_at_745 dX3_readGate_19 ?_
    refine lv_bipush (v := 9) hx hb dX3_readGate_22 (by decide) ?_
    refine lv_icmp_gt (tgt := 35) hx hb dX3_readGate_24 (by decide) (fun c5 => ?_) (fun c5 => ?_)
    · have h := ite_t h c5
      refine lv_iconst (v := 0) hx hb dX3_readGate_35 (by decide) ?_
      exact r_iretb C P (Or.inl rfl) h dX3_readGate_36
    · have h := ite_f h c5
      refine lv_aload_n hx hb dX3_readGate_27 rfl (lv_at hl 0 rfl) ?_
      refine g_3_4 C P in_X3_readGate_3 wd_X3_readGate_1 kd_at_745 dX3_readGate_28 ?_
      refine lv_iload_n hx hb dX3_readGate_31 rfl (lv_at hl 1 rfl) ?_
      refine lv_icmp_lt (tgt := 37) hx hb dX3_readGate_32 (by decide) (fun c6 => ?_) (fun c6 => ?_)
      · have h := ite_t h c6
        refine lv_aload_n hx hb dX3_readGate_37 rfl (lv_at hl 0 rfl) ?_
        refine lv_dup hx hb dX3_readGate_38 rfl ?_
        refine g_3_2 C P in_X3_readGate_3 wd_X3_readGate_2 kd_at_745 dX3_readGate_39 ?_
        refine lv_iconst (v := 1) hx hb dX3_readGate_42 (by decide) ?_
        refine lv_iadd hx hb dX3_readGate_43 ?_
        refine p_3_2 C P in_X3_readGate_3 wd_X3_readGate_2 kd_at_745 dX3_readGate_44 (fun u7 eu7 H locs P => ?_)
        have h := h u7 eu7
        refine lv_iconst (v := 1) hx hb dX3_readGate_47 (by decide) ?_
        exact r_iretb C P (Or.inr rfl) h dX3_readGate_48
      · have h := ite_f h c6
        refine lv_iconst (v := 0) hx hb dX3_readGate_35 (by decide) ?_
        exact r_iretb C P (Or.inl rfl) h dX3_readGate_36
set_option maxHeartbeats 4000000 in
set_option maxRecDepth 100000 in
theorem c_X3_readGate (l : Launch) (D : va_G) (cA : Nat → ClassId) (o : Nat) (a1 : Int32)  (u0 : Mm) (Φ : Int32 → Mm → Prop) (h : w_X3_readGate a1 u0 Φ) : Met l yX3_readGate wsX3_readGate rm_X3_readGate (va_Pc [.ref (o + 745), .int a1] (Wd 747 o D (tysL cA) (EC cA o u0))) (Qg vI Φ (fun μ => Wd 747 o D (tysL cA) (EC cA o μ)) (aA o 747)) 0 0 (aA o 747) := by
  refine Met.ofW (cc := cX3_readGate) (maxL := 2) (ret := (some .boolean)) (by decide) rfl ?_
  intro p e s m args below meth c s₁ B hml hv
  obtain ⟨rfl, hv⟩ := hv
  have hl := lv_entry ([.ref (o + 745), .int a1]) (n := 2) (Nat.le_of_ble_eq_true rfl)
  rw [lg_entry_eq]
  exact t_X3_readGate_0 ⟨⟨B.exec, B.bytes, hml, findClass_of_methodNamed B.named, atoms_spec (ws := wsX3_readGate) B.pre⟩, B.returns, B.notSynchronized, hv.2⟩ a1 u0 _ _ _ ⟨hv.1, va_S.rf⟩ hl h
abbrev rm_X3_skip : Room := { frames := 1, cells := 0, slots := 0, locals := 20 }
theorem wd_X3_skip_1 : Cond.fieldLink RX3 19 "TurnstileBank$Orders" "place" "I" ∈ wsX3_skip := List.mem_of_getElem? (i := 1) (by decide +kernel)
theorem in_X3_skip_3 : ∀ w ∈ wsX30, w ∈ wsX3_skip := fun w h => List.mem_cons_of_mem _ (List.mem_append_right _ h)
def w_X3_skip (a1 : Int32) (u0 : Mm) (Φ : Int32 → Mm → Prop) : Prop := (w_X3_letterHere u0 (fun r2 u1 => (if r2 = a1 then (∀ u4 : Mm, u4 = up2 u1 745 2 ((u1 745 2) + (1 : Int32)) → (Φ (1 : Int32) u4)) else (Φ (0 : Int32) u1))))
set_option maxHeartbeats 4000000 in
set_option maxRecDepth 100000 in
theorem t_X3_skip_0 {p : Program} {l : Launch} {e : Env} {s : State} {m : MethodId} {args : Array Value} {below : List Frame} {meth : Method} {c : Code} {D : va_G} {cA : Nat → ClassId} {o : Nat}  {Φ : Int32 → Mm → Prop} (C : Cx p m meth c s args cX3_skip 2 wsX3_skip RX3 (some .boolean) D (tysL cA)) : ∀ (a1 : Int32) (u0 : Mm), ∀ (H : Heap) (locs : List Loc) (ls : Array Slot), Hp 747 o D (EC cA o u0) s H locs → lv_has ls 2 [(0, .ref (o + 745)), (1, .int a1)] → w_X3_skip a1 u0 Φ → W p l e rm_X3_skip s m args below meth c H locs 0 0 (MQ below (Qg vI Φ (fun μ => Wd 747 o D (tysL cA) (EC cA o μ)) (aA o 747)) args s 0 0 (aA o 747)) (F0 m 0 ls []) := by
  intro a1 u0 H locs ls P hl h
  have hx := C.1.1
  have hb := C.1.2.1
  unfold w_X3_skip at h
  refine lv_aload_n hx hb dX3_skip_0 rfl (lv_at hl 0 rfl) ?_
  refine r_calli (F := EC cA o) (va_runV (As := []) (rest := []) C.1 (c_X3_letterHere l D cA o u0 _ h) (cwV 0 C.1.2.2.2.2 gX3_skip_X3_letterHere rfl rfl rfl (by decide +kernel) ⟨Nat.le_of_ble_eq_true rfl, Nat.le_of_ble_eq_true rfl⟩) (r_preV C P [] (ci := 3) rfl (kd_lt kd_at_745 (by decide)) (EK_3 kd_at_745)) rfl rfl hl.1 rfl (lv_room (Nat.le_of_ble_eq_true rfl)) dX3_skip_1 ⟨Nat.le_of_ble_eq_true rfl, Nat.le_of_ble_eq_true rfl⟩) P.2 (fun r2 u1 H locs h P => ?_)
  refine lv_iload_n hx hb dX3_skip_4 rfl (lv_at hl 1 rfl) ?_
  refine lv_icmp_eq (tgt := 10) hx hb dX3_skip_5 (by decide) (fun c3 => ?_) (fun c3 => ?_)
  · have h := ite_t h c3
    refine lv_aload_n hx hb dX3_skip_10 rfl (lv_at hl 0 rfl) ?_
    refine lv_dup hx hb dX3_skip_11 rfl ?_
    refine g_3_2 C P in_X3_skip_3 wd_X3_skip_1 kd_at_745 dX3_skip_12 ?_
    refine lv_iconst (v := 1) hx hb dX3_skip_15 (by decide) ?_
    refine lv_iadd hx hb dX3_skip_16 ?_
    refine p_3_2 C P in_X3_skip_3 wd_X3_skip_1 kd_at_745 dX3_skip_17 (fun u4 eu4 H locs P => ?_)
    have h := h u4 eu4
    refine lv_iconst (v := 1) hx hb dX3_skip_20 (by decide) ?_
    exact r_iretb C P (Or.inr rfl) h dX3_skip_21
  · have h := ite_f h c3
    refine lv_iconst (v := 0) hx hb dX3_skip_8 (by decide) ?_
    exact r_iretb C P (Or.inl rfl) h dX3_skip_9
set_option maxHeartbeats 4000000 in
set_option maxRecDepth 100000 in
theorem c_X3_skip (l : Launch) (D : va_G) (cA : Nat → ClassId) (o : Nat) (a1 : Int32)  (u0 : Mm) (Φ : Int32 → Mm → Prop) (h : w_X3_skip a1 u0 Φ) : Met l yX3_skip wsX3_skip rm_X3_skip (va_Pc [.ref (o + 745), .int a1] (Wd 747 o D (tysL cA) (EC cA o u0))) (Qg vI Φ (fun μ => Wd 747 o D (tysL cA) (EC cA o μ)) (aA o 747)) 0 0 (aA o 747) := by
  refine Met.ofW (cc := cX3_skip) (maxL := 2) (ret := (some .boolean)) (by decide) rfl ?_
  intro p e s m args below meth c s₁ B hml hv
  obtain ⟨rfl, hv⟩ := hv
  have hl := lv_entry ([.ref (o + 745), .int a1]) (n := 2) (Nat.le_of_ble_eq_true rfl)
  rw [lg_entry_eq]
  exact t_X3_skip_0 ⟨⟨B.exec, B.bytes, hml, findClass_of_methodNamed B.named, atoms_spec (ws := wsX3_skip) B.pre⟩, B.returns, B.notSynchronized, hv.2⟩ a1 u0 _ _ _ ⟨hv.1, va_S.rf⟩ hl h
abbrev rm_X3_readPassAndPace : Room := { frames := 2, cells := 0, slots := 0, locals := 43 }
theorem wd_X3_readPassAndPace_1 : Cond.fieldLink RX3 53 "TurnstileBank$Orders" "number" "I" ∈ wsX3_readPassAndPace := List.mem_of_getElem? (i := 1) (by decide +kernel)
theorem wd_X3_readPassAndPace_2 : Cond.fieldLink RX3 56 "TurnstileBank$Orders" "slow" "Z" ∈ wsX3_readPassAndPace := List.mem_of_getElem? (i := 2) (by decide +kernel)
theorem in_X3_readPassAndPace_3 : ∀ w ∈ wsX30, w ∈ wsX3_readPassAndPace := fun w h => List.mem_cons_of_mem _ (List.mem_append_right _ h)
def w_X3_readPassAndPace  (u0 : Mm) (Φ : Int32 → Mm → Prop) : Prop := (∀ u1 : Mm, u1 = up2 u0 745 5 (-1 : Int32) → (w_X3_skip ((112 : Int32)) u1 (fun r3 u2 => (if r3 = 0 then (w_X3_skip ((115 : Int32)) u2 (fun r6 u5 => (isB r6 ∧ ∀ u7 : Mm, u7 = up2 u5 745 6 r6 → (Φ (1 : Int32) u7)))) else (w_X3_readNumber ((0 : Int32)) u2 (fun r9 u8 => (if r9 = 0 then (Φ (0 : Int32) u8) else (w_X3_skip ((115 : Int32)) u8 (fun r12 u11 => (isB r12 ∧ ∀ u13 : Mm, u13 = up2 u11 745 6 r12 → (Φ (1 : Int32) u13)))))))))))
set_option maxHeartbeats 4000000 in
set_option maxRecDepth 100000 in
theorem t_X3_readPassAndPace_0 {p : Program} {l : Launch} {e : Env} {s : State} {m : MethodId} {args : Array Value} {below : List Frame} {meth : Method} {c : Code} {D : va_G} {cA : Nat → ClassId} {o : Nat}  {Φ : Int32 → Mm → Prop} (C : Cx p m meth c s args cX3_readPassAndPace 1 wsX3_readPassAndPace RX3 (some .boolean) D (tysL cA)) : ∀  (u0 : Mm), ∀ (H : Heap) (locs : List Loc) (ls : Array Slot), Hp 747 o D (EC cA o u0) s H locs → lv_has ls 1 [(0, .ref (o + 745))] → w_X3_readPassAndPace u0 Φ → W p l e rm_X3_readPassAndPace s m args below meth c H locs 0 0 (MQ below (Qg vI Φ (fun μ => Wd 747 o D (tysL cA) (EC cA o μ)) (aA o 747)) args s 0 0 (aA o 747)) (F0 m 0 ls []) := by
  intro u0 H locs ls P hl h
  have hx := C.1.1
  have hb := C.1.2.1
  unfold w_X3_readPassAndPace at h
  refine lv_aload_n hx hb dX3_readPassAndPace_0 rfl (lv_at hl 0 rfl) ?_
  refine lv_iconst (v := -1) hx hb dX3_readPassAndPace_1 (by decide) ?_
  refine p_3_5 C P in_X3_readPassAndPace_3 wd_X3_readPassAndPace_1 kd_at_745 dX3_readPassAndPace_2 (fun u1 eu1 H locs P => ?_)
  have h := h u1 eu1
  refine lv_aload_n hx hb dX3_readPassAndPace_5 rfl (lv_at hl 0 rfl) ?_
  refine lv_bipush (v := 112) hx hb dX3_readPassAndPace_6 (by decide) ?_
  refine r_calli (F := EC cA o) (va_runV (As := [.int (112 : Int32)]) (rest := []) C.1 (c_X3_skip l D cA o _ u1 _ h) (cwV 1 C.1.2.2.2.2 gX3_readPassAndPace_X3_skip rfl rfl rfl (by decide +kernel) ⟨Nat.le_of_ble_eq_true rfl, Nat.le_of_ble_eq_true rfl⟩) (r_preV C P [.int (112 : Int32)] (ci := 3) rfl (kd_lt kd_at_745 (by decide)) (EK_3 kd_at_745)) rfl rfl hl.1 rfl (lv_room (Nat.le_of_ble_eq_true rfl)) dX3_readPassAndPace_8 ⟨Nat.le_of_ble_eq_true rfl, Nat.le_of_ble_eq_true rfl⟩) P.2 (fun r3 u2 H locs h P => ?_)
  refine lv_if_eq (tgt := 24) hx hb dX3_readPassAndPace_11 (by decide) (fun c4 => ?_) (fun c4 => ?_)
  · have h := ite_t h c4
    refine lv_aload_n hx hb dX3_readPassAndPace_24 rfl (lv_at hl 0 rfl) ?_
    refine lv_aload_n hx hb dX3_readPassAndPace_25 rfl (lv_at hl 0 rfl) ?_
    refine lv_bipush (v := 115) hx hb dX3_readPassAndPace_26 (by decide) ?_
    refine r_calli (F := EC cA o) (va_runV (As := [.int (115 : Int32)]) (rest := [.ref (o + 745)]) C.1 (c_X3_skip l D cA o _ u2 _ h) (cwV 1 C.1.2.2.2.2 gX3_readPassAndPace_X3_skip rfl rfl rfl (by decide +kernel) ⟨Nat.le_of_ble_eq_true rfl, Nat.le_of_ble_eq_true rfl⟩) (r_preV C P [.int (115 : Int32)] (ci := 3) rfl (kd_lt kd_at_745 (by decide)) (EK_3 kd_at_745)) rfl rfl hl.1 rfl (lv_room (Nat.le_of_ble_eq_true rfl)) dX3_readPassAndPace_28 ⟨Nat.le_of_ble_eq_true rfl, Nat.le_of_ble_eq_true rfl⟩) P.2 (fun r6 u5 H locs h P => ?_)
    obtain ⟨hB, h⟩ := h
    refine p_3_6 C P in_X3_readPassAndPace_3 wd_X3_readPassAndPace_2 kd_at_745 hB dX3_readPassAndPace_31 (fun u7 eu7 H locs P => ?_)
    have h := h u7 eu7
    refine lv_iconst (v := 1) hx hb dX3_readPassAndPace_34 (by decide) ?_
    exact r_iretb C P (Or.inr rfl) h dX3_readPassAndPace_35
  · have h := ite_f h c4
    refine lv_aload_n hx hb dX3_readPassAndPace_14 rfl (lv_at hl 0 rfl) ?_
    refine lv_iconst (v := 0) hx hb dX3_readPassAndPace_15 (by decide) ?_
    refine r_calli (F := EC cA o) (va_runV (As := [.int (0 : Int32)]) (rest := []) C.1 (c_X3_readNumber l D cA o _ u2 _ h) (cwV 1 C.1.2.2.2.2 gX3_readPassAndPace_X3_readNumber rfl rfl rfl (by decide +kernel) ⟨Nat.le_of_ble_eq_true rfl, Nat.le_of_ble_eq_true rfl⟩) (r_preV C P [.int (0 : Int32)] (ci := 3) rfl (kd_lt kd_at_745 (by decide)) (EK_3 kd_at_745)) rfl rfl hl.1 rfl (lv_room (Nat.le_of_ble_eq_true rfl)) dX3_readPassAndPace_16 ⟨Nat.le_of_ble_eq_true rfl, Nat.le_of_ble_eq_true rfl⟩) P.2 (fun r9 u8 H locs h P => ?_)
    refine lv_if_ne (tgt := 24) hx hb dX3_readPassAndPace_19 (by decide) (fun c10 => ?_) (fun c10 => ?_)
    · have h := ite_f h c10
      refine lv_aload_n hx hb dX3_readPassAndPace_24 rfl (lv_at hl 0 rfl) ?_
      refine lv_aload_n hx hb dX3_readPassAndPace_25 rfl (lv_at hl 0 rfl) ?_
      refine lv_bipush (v := 115) hx hb dX3_readPassAndPace_26 (by decide) ?_
      refine r_calli (F := EC cA o) (va_runV (As := [.int (115 : Int32)]) (rest := [.ref (o + 745)]) C.1 (c_X3_skip l D cA o _ u8 _ h) (cwV 1 C.1.2.2.2.2 gX3_readPassAndPace_X3_skip rfl rfl rfl (by decide +kernel) ⟨Nat.le_of_ble_eq_true rfl, Nat.le_of_ble_eq_true rfl⟩) (r_preV C P [.int (115 : Int32)] (ci := 3) rfl (kd_lt kd_at_745 (by decide)) (EK_3 kd_at_745)) rfl rfl hl.1 rfl (lv_room (Nat.le_of_ble_eq_true rfl)) dX3_readPassAndPace_28 ⟨Nat.le_of_ble_eq_true rfl, Nat.le_of_ble_eq_true rfl⟩) P.2 (fun r12 u11 H locs h P => ?_)
      obtain ⟨hB, h⟩ := h
      refine p_3_6 C P in_X3_readPassAndPace_3 wd_X3_readPassAndPace_2 kd_at_745 hB dX3_readPassAndPace_31 (fun u13 eu13 H locs P => ?_)
      have h := h u13 eu13
      refine lv_iconst (v := 1) hx hb dX3_readPassAndPace_34 (by decide) ?_
      exact r_iretb C P (Or.inr rfl) h dX3_readPassAndPace_35
    · have h := ite_t h c10
      refine lv_iconst (v := 0) hx hb dX3_readPassAndPace_22 (by decide) ?_
      exact r_iretb C P (Or.inl rfl) h dX3_readPassAndPace_23
set_option maxHeartbeats 4000000 in
set_option maxRecDepth 100000 in
theorem c_X3_readPassAndPace (l : Launch) (D : va_G) (cA : Nat → ClassId) (o : Nat)   (u0 : Mm) (Φ : Int32 → Mm → Prop) (h : w_X3_readPassAndPace u0 Φ) : Met l yX3_readPassAndPace wsX3_readPassAndPace rm_X3_readPassAndPace (va_Pc [.ref (o + 745)] (Wd 747 o D (tysL cA) (EC cA o u0))) (Qg vI Φ (fun μ => Wd 747 o D (tysL cA) (EC cA o μ)) (aA o 747)) 0 0 (aA o 747) := by
  refine Met.ofW (cc := cX3_readPassAndPace) (maxL := 1) (ret := (some .boolean)) (by decide) rfl ?_
  intro p e s m args below meth c s₁ B hml hv
  obtain ⟨rfl, hv⟩ := hv
  have hl := lv_entry ([.ref (o + 745)]) (n := 1) (Nat.le_of_ble_eq_true rfl)
  rw [lg_entry_eq]
  exact t_X3_readPassAndPace_0 ⟨⟨B.exec, B.bytes, hml, findClass_of_methodNamed B.named, atoms_spec (ws := wsX3_readPassAndPace) B.pre⟩, B.returns, B.notSynchronized, hv.2⟩ u0 _ _ _ ⟨hv.1, va_S.rf⟩ hl h
abbrev rm_X3_readOrder : Room := { frames := 3, cells := 0, slots := 0, locals := 63 }
theorem wd_X3_readOrder_1 : Cond.fieldLink RX3 33 "TurnstileBank$Orders" "kind" "I" ∈ wsX3_readOrder := List.mem_of_getElem? (i := 1) (by decide +kernel)
theorem wd_X3_readOrder_2 : Cond.fieldLink RX3 19 "TurnstileBank$Orders" "place" "I" ∈ wsX3_readOrder := List.mem_of_getElem? (i := 2) (by decide +kernel)
theorem in_X3_readOrder_3 : ∀ w ∈ wsX30, w ∈ wsX3_readOrder := fun w h => List.mem_cons_of_mem _ (List.mem_append_right _ h)
def w_X3_readOrder_46  (Φ : Int32 → Mm → Prop) (x1 : Int32) (u0 : Mm) : Prop := (∀ u5 : Mm, u5 = up2 u0 745 2 ((u0 745 2) + (1 : Int32)) → (if (u5 745 3) = (116 : Int32) then (w_X3_readNumber ((1 : Int32)) u5 (fun r21 u20 => (isB r21 ∧ Φ r21 u20))) else (w_X3_readGate x1 u5 (fun r8 u7 => (if r8 = 0 then (Φ (0 : Int32) u7) else (if (u7 745 3) = (105 : Int32) then (w_X3_readPassAndPace u7 (fun r19 u18 => (isB r19 ∧ Φ r19 u18))) else (if (u7 745 3) = (120 : Int32) then (Φ (1 : Int32) u7) else (w_X3_skip ((110 : Int32)) u7 (fun r13 u12 => (if r13 = 0 then (Φ (0 : Int32) u12) else (w_X3_readNumber ((0 : Int32)) u12 (fun r16 u15 => (if r16 = 0 then (Φ (0 : Int32) u15) else (Φ (1 : Int32) u15))))))))))))))
set_option maxHeartbeats 4000000 in
set_option maxRecDepth 100000 in
theorem t_X3_readOrder_46 {p : Program} {l : Launch} {e : Env} {s : State} {m : MethodId} {args : Array Value} {below : List Frame} {meth : Method} {c : Code} {D : va_G} {cA : Nat → ClassId} {o : Nat}  {Φ : Int32 → Mm → Prop} (C : Cx p m meth c s args cX3_readOrder 2 wsX3_readOrder RX3 (some .boolean) D (tysL cA)) : ∀ (x1 : Int32) (u0 : Mm), ∀ (H : Heap) (locs : List Loc) (ls : Array Slot), Hp 747 o D (EC cA o u0) s H locs → lv_has ls 2 [(0, .ref (o + 745)), (1, .int x1)] → w_X3_readOrder_46 Φ x1 u0 → W p l e rm_X3_readOrder s m args below meth c H locs 0 0 (MQ below (Qg vI Φ (fun μ => Wd 747 o D (tysL cA) (EC cA o μ)) (aA o 747)) args s 0 0 (aA o 747)) (F0 m 46 ls []) := by
  intro x1 u0 H locs ls P hl h
  have hx := C.1.1
  have hb := C.1.2.1
  unfold w_X3_readOrder_46 at h
  refine lv_aload_n hx hb dX3_readOrder_46 rfl (lv_at hl 0 rfl) ?_
  refine lv_dup hx hb dX3_readOrder_47 rfl ?_
  refine g_3_2 C P in_X3_readOrder_3 wd_X3_readOrder_2 kd_at_745 dX3_readOrder_48 ?_
  refine lv_iconst (v := 1) hx hb dX3_readOrder_51 (by decide) ?_
  refine lv_iadd hx hb dX3_readOrder_52 ?_
  refine p_3_2 C P in_X3_readOrder_3 wd_X3_readOrder_2 kd_at_745 dX3_readOrder_53 (fun u5 eu5 H locs P => ?_)
  have h := h u5 eu5
  refine lv_aload_n hx hb dX3_readOrder_56 rfl (lv_at hl 0 rfl) ?_
  refine g_3_3 C P in_X3_readOrder_3 wd_X3_readOrder_1 kd_at_745 dX3_readOrder_57 ?_
  refine lv_bipush (v := 116) hx hb dX3_readOrder_60 (by decide) ?_
  refine lv_icmp_ne (tgt := 71) hx hb dX3_readOrder_62 (by decide) (fun c6 => ?_) (fun c6 => ?_)
  · have h := ite_f h c6
    refine lv_aload_n hx hb dX3_readOrder_71 rfl (lv_at hl 0 rfl) ?_
    refine lv_iload_n hx hb dX3_readOrder_72 rfl (lv_at hl 1 rfl) ?_
    refine r_calli (F := EC cA o) (va_runV (As := [.int x1]) (rest := []) C.1 (c_X3_readGate l D cA o _ u5 _ h) (cwV 1 C.1.2.2.2.2 gX3_readOrder_X3_readGate rfl rfl rfl (by decide +kernel) ⟨Nat.le_of_ble_eq_true rfl, Nat.le_of_ble_eq_true rfl⟩) (r_preV C P [.int x1] (ci := 3) rfl (kd_lt kd_at_745 (by decide)) (EK_3 kd_at_745)) rfl rfl hl.1 rfl (lv_room (Nat.le_of_ble_eq_true rfl)) dX3_readOrder_73 ⟨Nat.le_of_ble_eq_true rfl, Nat.le_of_ble_eq_true rfl⟩) P.2 (fun r8 u7 H locs h P => ?_)
    refine lv_if_ne (tgt := 81) hx hb dX3_readOrder_76 (by decide) (fun c9 => ?_) (fun c9 => ?_)
    · have h := ite_f h c9
      refine lv_aload_n hx hb dX3_readOrder_81 rfl (lv_at hl 0 rfl) ?_
      refine g_3_3 C P in_X3_readOrder_3 wd_X3_readOrder_1 kd_at_745 dX3_readOrder_82 ?_
      refine lv_bipush (v := 105) hx hb dX3_readOrder_85 (by decide) ?_
      refine lv_icmp_ne (tgt := 95) hx hb dX3_readOrder_87 (by decide) (fun c10 => ?_) (fun c10 => ?_)
      · have h := ite_f h c10
        refine lv_aload_n hx hb dX3_readOrder_95 rfl (lv_at hl 0 rfl) ?_
        refine g_3_3 C P in_X3_readOrder_3 wd_X3_readOrder_1 kd_at_745 dX3_readOrder_96 ?_
        refine lv_bipush (v := 120) hx hb dX3_readOrder_99 (by decide) ?_
        refine lv_icmp_eq (tgt := 121) hx hb dX3_readOrder_101 (by decide) (fun c11 => ?_) (fun c11 => ?_)
        · have h := ite_t h c11
          refine lv_iconst (v := 1) hx hb dX3_readOrder_121 (by decide) ?_
          refine lv_goto (tgt := 126) hx hb dX3_readOrder_122 (by decide) ?_
          exact r_iretb C P (Or.inr rfl) h dX3_readOrder_126
        · have h := ite_f h c11
          refine lv_aload_n hx hb dX3_readOrder_104 rfl (lv_at hl 0 rfl) ?_
          refine lv_bipush (v := 110) hx hb dX3_readOrder_105 (by decide) ?_
          refine r_calli (F := EC cA o) (va_runV (As := [.int (110 : Int32)]) (rest := []) C.1 (c_X3_skip l D cA o _ u7 _ h) (cwV 1 C.1.2.2.2.2 gX3_readOrder_X3_skip rfl rfl rfl (by decide +kernel) ⟨Nat.le_of_ble_eq_true rfl, Nat.le_of_ble_eq_true rfl⟩) (r_preV C P [.int (110 : Int32)] (ci := 3) rfl (kd_lt kd_at_745 (by decide)) (EK_3 kd_at_745)) rfl rfl hl.1 rfl (lv_room (Nat.le_of_ble_eq_true rfl)) dX3_readOrder_107 ⟨Nat.le_of_ble_eq_true rfl, Nat.le_of_ble_eq_true rfl⟩) P.2 (fun r13 u12 H locs h P => ?_)
          refine lv_if_eq (tgt := 125) hx hb dX3_readOrder_110 (by decide) (fun c14 => ?_) (fun c14 => ?_)
          · have h := ite_t h c14
            refine lv_iconst (v := 0) hx hb dX3_readOrder_125 (by decide) ?_
            exact r_iretb C P (Or.inl rfl) h dX3_readOrder_126
          · have h := ite_f h c14
            refine lv_aload_n hx hb dX3_readOrder_113 rfl (lv_at hl 0 rfl) ?_
            refine lv_iconst (v := 0) hx hb dX3_readOrder_114 (by decide) ?_
            refine r_calli (F := EC cA o) (va_runV (As := [.int (0 : Int32)]) (rest := []) C.1 (c_X3_readNumber l D cA o _ u12 _ h) (cwV 1 C.1.2.2.2.2 gX3_readOrder_X3_readNumber rfl rfl rfl (by decide +kernel) ⟨Nat.le_of_ble_eq_true rfl, Nat.le_of_ble_eq_true rfl⟩) (r_preV C P [.int (0 : Int32)] (ci := 3) rfl (kd_lt kd_at_745 (by decide)) (EK_3 kd_at_745)) rfl rfl hl.1 rfl (lv_room (Nat.le_of_ble_eq_true rfl)) dX3_readOrder_115 ⟨Nat.le_of_ble_eq_true rfl, Nat.le_of_ble_eq_true rfl⟩) P.2 (fun r16 u15 H locs h P => ?_)
            refine lv_if_eq (tgt := 125) hx hb dX3_readOrder_118 (by decide) (fun c17 => ?_) (fun c17 => ?_)
            · have h := ite_t h c17
              refine lv_iconst (v := 0) hx hb dX3_readOrder_125 (by decide) ?_
              exact r_iretb C P (Or.inl rfl) h dX3_readOrder_126
            · have h := ite_f h c17
              refine lv_iconst (v := 1) hx hb dX3_readOrder_121 (by decide) ?_
              refine lv_goto (tgt := 126) hx hb dX3_readOrder_122 (by decide) ?_
              exact r_iretb C P (Or.inr rfl) h dX3_readOrder_126
      · have h := ite_t h c10
        refine lv_aload_n hx hb dX3_readOrder_90 rfl (lv_at hl 0 rfl) ?_
        refine r_calli (F := EC cA o) (va_runV (As := []) (rest := []) C.1 (c_X3_readPassAndPace l D cA o u7 _ h) (cwV 0 C.1.2.2.2.2 gX3_readOrder_X3_readPassAndPace rfl rfl rfl (by decide +kernel) ⟨Nat.le_of_ble_eq_true rfl, Nat.le_of_ble_eq_true rfl⟩) (r_preV C P [] (ci := 3) rfl (kd_lt kd_at_745 (by decide)) (EK_3 kd_at_745)) rfl rfl hl.1 rfl (lv_room (Nat.le_of_ble_eq_true rfl)) dX3_readOrder_91 ⟨Nat.le_of_ble_eq_true rfl, Nat.le_of_ble_eq_true rfl⟩) P.2 (fun r19 u18 H locs h P => ?_)
        exact r_iretb C P h.1 h.2 dX3_readOrder_94
    · have h := ite_t h c9
      refine lv_iconst (v := 0) hx hb dX3_readOrder_79 (by decide) ?_
      exact r_iretb C P (Or.inl rfl) h dX3_readOrder_80
  · have h := ite_t h c6
    refine lv_aload_n hx hb dX3_readOrder_65 rfl (lv_at hl 0 rfl) ?_
    refine lv_iconst (v := 1) hx hb dX3_readOrder_66 (by decide) ?_
    refine r_calli (F := EC cA o) (va_runV (As := [.int (1 : Int32)]) (rest := []) C.1 (c_X3_readNumber l D cA o _ u5 _ h) (cwV 1 C.1.2.2.2.2 gX3_readOrder_X3_readNumber rfl rfl rfl (by decide +kernel) ⟨Nat.le_of_ble_eq_true rfl, Nat.le_of_ble_eq_true rfl⟩) (r_preV C P [.int (1 : Int32)] (ci := 3) rfl (kd_lt kd_at_745 (by decide)) (EK_3 kd_at_745)) rfl rfl hl.1 rfl (lv_room (Nat.le_of_ble_eq_true rfl)) dX3_readOrder_67 ⟨Nat.le_of_ble_eq_true rfl, Nat.le_of_ble_eq_true rfl⟩) P.2 (fun r21 u20 H locs h P => ?_)
    exact r_iretb C P h.1 h.2 dX3_readOrder_70
def w_X3_readOrder (a1 : Int32) (u0 : Mm) (Φ : Int32 → Mm → Prop) : Prop := (w_X3_letterHere u0 (fun r2 u1 => (∀ u3 : Mm, u3 = up2 u1 745 3 r2 → (if (u3 745 3) = (105 : Int32) then (w_X3_readOrder_46 Φ a1 u3) else (if (u3 745 3) = (111 : Int32) then (w_X3_readOrder_46 Φ a1 u3) else (if (u3 745 3) = (116 : Int32) then (w_X3_readOrder_46 Φ a1 u3) else (if (u3 745 3) = (120 : Int32) then (w_X3_readOrder_46 Φ a1 u3) else (Φ (0 : Int32) u3))))))))
set_option maxHeartbeats 4000000 in
set_option maxRecDepth 100000 in
theorem t_X3_readOrder_0 {p : Program} {l : Launch} {e : Env} {s : State} {m : MethodId} {args : Array Value} {below : List Frame} {meth : Method} {c : Code} {D : va_G} {cA : Nat → ClassId} {o : Nat}  {Φ : Int32 → Mm → Prop} (C : Cx p m meth c s args cX3_readOrder 2 wsX3_readOrder RX3 (some .boolean) D (tysL cA)) : ∀ (a1 : Int32) (u0 : Mm), ∀ (H : Heap) (locs : List Loc) (ls : Array Slot), Hp 747 o D (EC cA o u0) s H locs → lv_has ls 2 [(0, .ref (o + 745)), (1, .int a1)] → w_X3_readOrder a1 u0 Φ → W p l e rm_X3_readOrder s m args below meth c H locs 0 0 (MQ below (Qg vI Φ (fun μ => Wd 747 o D (tysL cA) (EC cA o μ)) (aA o 747)) args s 0 0 (aA o 747)) (F0 m 0 ls []) := by
  intro a1 u0 H locs ls P hl h
  have hx := C.1.1
  have hb := C.1.2.1
  unfold w_X3_readOrder at h
  refine lv_aload_n hx hb dX3_readOrder_0 rfl (lv_at hl 0 rfl) ?_
  refine lv_aload_n hx hb dX3_readOrder_1 rfl (lv_at hl 0 rfl) ?_
  refine r_calli (F := EC cA o) (va_runV (As := []) (rest := [.ref (o + 745)]) C.1 (c_X3_letterHere l D cA o u0 _ h) (cwV 0 C.1.2.2.2.2 gX3_readOrder_X3_letterHere rfl rfl rfl (by decide +kernel) ⟨Nat.le_of_ble_eq_true rfl, Nat.le_of_ble_eq_true rfl⟩) (r_preV C P [] (ci := 3) rfl (kd_lt kd_at_745 (by decide)) (EK_3 kd_at_745)) rfl rfl hl.1 rfl (lv_room (Nat.le_of_ble_eq_true rfl)) dX3_readOrder_2 ⟨Nat.le_of_ble_eq_true rfl, Nat.le_of_ble_eq_true rfl⟩) P.2 (fun r2 u1 H locs h P => ?_)
  refine p_3_3 C P in_X3_readOrder_3 wd_X3_readOrder_1 kd_at_745 dX3_readOrder_5 (fun u3 eu3 H locs P => ?_)
  have h := h u3 eu3
  refine lv_aload_n hx hb dX3_readOrder_8 rfl (lv_at hl 0 rfl) ?_
  refine g_3_3 C P in_X3_readOrder_3 wd_X3_readOrder_1 kd_at_745 dX3_readOrder_9 ?_
  refine lv_bipush (v := 105) hx hb dX3_readOrder_12 (by decide) ?_
  refine lv_icmp_eq (tgt := 46) hx hb dX3_readOrder_14 (by decide) (fun c4 => ?_) (fun c4 => ?_)
  · have h := ite_t h c4
    exact t_X3_readOrder_46 C _ u3 _ _ _ P (lv_sub hl [0, 1] rfl) h
  · have h := ite_f h c4
    refine lv_aload_n hx hb dX3_readOrder_17 rfl (lv_at hl 0 rfl) ?_
    refine g_3_3 C P in_X3_readOrder_3 wd_X3_readOrder_1 kd_at_745 dX3_readOrder_18 ?_
    refine lv_bipush (v := 111) hx hb dX3_readOrder_21 (by decide) ?_
    refine lv_icmp_eq (tgt := 46) hx hb dX3_readOrder_23 (by decide) (fun c22 => ?_) (fun c22 => ?_)
    · have h := ite_t h c22
      exact t_X3_readOrder_46 C _ u3 _ _ _ P (lv_sub hl [0, 1] rfl) h
    · have h := ite_f h c22
      refine lv_aload_n hx hb dX3_readOrder_26 rfl (lv_at hl 0 rfl) ?_
      refine g_3_3 C P in_X3_readOrder_3 wd_X3_readOrder_1 kd_at_745 dX3_readOrder_27 ?_
      refine lv_bipush (v := 116) hx hb dX3_readOrder_30 (by decide) ?_
      refine lv_icmp_eq (tgt := 46) hx hb dX3_readOrder_32 (by decide) (fun c23 => ?_) (fun c23 => ?_)
      · have h := ite_t h c23
        exact t_X3_readOrder_46 C _ u3 _ _ _ P (lv_sub hl [0, 1] rfl) h
      · have h := ite_f h c23
        refine lv_aload_n hx hb dX3_readOrder_35 rfl (lv_at hl 0 rfl) ?_
        refine g_3_3 C P in_X3_readOrder_3 wd_X3_readOrder_1 kd_at_745 dX3_readOrder_36 ?_
        refine lv_bipush (v := 120) hx hb dX3_readOrder_39 (by decide) ?_
        refine lv_icmp_eq (tgt := 46) hx hb dX3_readOrder_41 (by decide) (fun c24 => ?_) (fun c24 => ?_)
        · have h := ite_t h c24
          exact t_X3_readOrder_46 C _ u3 _ _ _ P (lv_sub hl [0, 1] rfl) h
        · have h := ite_f h c24
          refine lv_iconst (v := 0) hx hb dX3_readOrder_44 (by decide) ?_
          exact r_iretb C P (Or.inl rfl) h dX3_readOrder_45
set_option maxHeartbeats 4000000 in
set_option maxRecDepth 100000 in
theorem c_X3_readOrder (l : Launch) (D : va_G) (cA : Nat → ClassId) (o : Nat) (a1 : Int32)  (u0 : Mm) (Φ : Int32 → Mm → Prop) (h : w_X3_readOrder a1 u0 Φ) : Met l yX3_readOrder wsX3_readOrder rm_X3_readOrder (va_Pc [.ref (o + 745), .int a1] (Wd 747 o D (tysL cA) (EC cA o u0))) (Qg vI Φ (fun μ => Wd 747 o D (tysL cA) (EC cA o μ)) (aA o 747)) 0 0 (aA o 747) := by
  refine Met.ofW (cc := cX3_readOrder) (maxL := 2) (ret := (some .boolean)) (by decide) rfl ?_
  intro p e s m args below meth c s₁ B hml hv
  obtain ⟨rfl, hv⟩ := hv
  have hl := lv_entry ([.ref (o + 745), .int a1]) (n := 2) (Nat.le_of_ble_eq_true rfl)
  rw [lg_entry_eq]
  exact t_X3_readOrder_0 ⟨⟨B.exec, B.bytes, hml, findClass_of_methodNamed B.named, atoms_spec (ws := wsX3_readOrder) B.pre⟩, B.returns, B.notSynchronized, hv.2⟩ a1 u0 _ _ _ ⟨hv.1, va_S.rf⟩ hl h
abbrev rm_X3_findFault : Room := { frames := 4, cells := 0, slots := 0, locals := 84 }
theorem wd_X3_findFault_1 : Cond.fieldLink RX3 19 "TurnstileBank$Orders" "place" "I" ∈ wsX3_findFault := List.mem_of_getElem? (i := 1) (by decide +kernel)
theorem wd_X3_findFault_2 : Cond.fieldLink RX3 15 "TurnstileBank$Orders" "length" "I" ∈ wsX3_findFault := List.mem_of_getElem? (i := 2) (by decide +kernel)
theorem in_X3_findFault_3 : ∀ w ∈ wsX30, w ∈ wsX3_findFault := fun w h => List.mem_cons_of_mem _ (List.mem_append_right _ h)
def w_X3_findFault_6  (Φ : Int32 → Mm → Prop) : Nat → Int32 → Int32 → Mm → Prop
  | 0, _, _, _ => False
  | n + 1, x1, x2, u0 => (if (50 : Int32) ≤ x2 then (Φ ((-1 : Int32)) u0) else (w_X3_readOrder x1 u0 (fun r5 u4 => (if r5 = 0 then (Φ ((u4 745 2)) u4) else (if (u4 745 2) < (u4 745 1) then (w_X3_findFault_6 Φ n x1 ((x2 + 1)) u4) else (Φ ((-1 : Int32)) u4))))))
set_option maxHeartbeats 4000000 in
set_option maxRecDepth 100000 in
theorem t_X3_findFault_6 {p : Program} {l : Launch} {e : Env} {s : State} {m : MethodId} {args : Array Value} {below : List Frame} {meth : Method} {c : Code} {D : va_G} {cA : Nat → ClassId} {o : Nat}  {Φ : Int32 → Mm → Prop} (C : Cx p m meth c s args cX3_findFault 3 wsX3_findFault RX3 (some .int) D (tysL cA)) : ∀ n : Nat, ∀ (x1 : Int32) (x2 : Int32) (u0 : Mm), ∀ (H : Heap) (locs : List Loc) (ls : Array Slot), Hp 747 o D (EC cA o u0) s H locs → lv_has ls 3 [(0, .ref (o + 745)), (1, .int x1), (2, .int x2)] → w_X3_findFault_6 Φ n x1 x2 u0 → W p l e rm_X3_findFault s m args below meth c H locs 0 0 (MQ below (Qg vI Φ (fun μ => Wd 747 o D (tysL cA) (EC cA o μ)) (aA o 747)) args s 0 0 (aA o 747)) (F0 m 6 ls []) := by
  intro n
  induction n with
  | zero => intro x1 x2 u0 H locs ls P hl h; exact h.elim
  | succ n ih =>
    intro x1 x2 u0 H locs ls P hl h
    have hx := C.1.1
    have hb := C.1.2.1
    rw [w_X3_findFault_6] at h
    refine lv_iload_n hx hb dX3_findFault_6 rfl (lv_at hl 2 rfl) ?_
    refine lv_bipush (v := 50) hx hb dX3_findFault_7 (by decide) ?_
    refine lv_icmp_ge (tgt := 44) hx hb dX3_findFault_9 (by decide) (fun c3 => ?_) (fun c3 => ?_)
    · have h := ite_t h c3
      refine lv_iconst (v := -1) hx hb dX3_findFault_44 (by decide) ?_
      exact r_ireti C P h dX3_findFault_45
    · have h := ite_f h c3
      refine lv_aload_n hx hb dX3_findFault_12 rfl (lv_at hl 0 rfl) ?_
      refine lv_iload_n hx hb dX3_findFault_13 rfl (lv_at hl 1 rfl) ?_
      refine r_calli (F := EC cA o) (va_runV (As := [.int x1]) (rest := []) C.1 (c_X3_readOrder l D cA o _ u0 _ h) (cwV 1 C.1.2.2.2.2 gX3_findFault_X3_readOrder rfl rfl rfl (by decide +kernel) ⟨Nat.le_of_ble_eq_true rfl, Nat.le_of_ble_eq_true rfl⟩) (r_preV C P [.int x1] (ci := 3) rfl (kd_lt kd_at_745 (by decide)) (EK_3 kd_at_745)) rfl rfl hl.1 rfl (lv_room (Nat.le_of_ble_eq_true rfl)) dX3_findFault_14 ⟨Nat.le_of_ble_eq_true rfl, Nat.le_of_ble_eq_true rfl⟩) P.2 (fun r5 u4 H locs h P => ?_)
      refine lv_if_ne (tgt := 25) hx hb dX3_findFault_17 (by decide) (fun c6 => ?_) (fun c6 => ?_)
      · have h := ite_f h c6
        refine lv_aload_n hx hb dX3_findFault_25 rfl (lv_at hl 0 rfl) ?_
        refine g_3_2 C P in_X3_findFault_3 wd_X3_findFault_1 kd_at_745 dX3_findFault_26 ?_
        refine lv_aload_n hx hb dX3_findFault_29 rfl (lv_at hl 0 rfl) ?_
        refine g_3_1 C P in_X3_findFault_3 wd_X3_findFault_2 kd_at_745 dX3_findFault_30 ?_
        refine lv_icmp_lt (tgt := 38) hx hb dX3_findFault_33 (by decide) (fun c7 => ?_) (fun c7 => ?_)
        · have h := ite_t h c7
          refine lv_iinc (v := (x2 + 1)) (lv' := [(2, .int (x2 + 1)), (0, .ref (o + 745)), (1, .int x1)]) hx hb dX3_findFault_38 hl (k := 2) rfl rfl (by decide) rfl (fun ls hl => ?_)
          refine lv_goto (tgt := 6) hx hb dX3_findFault_41 (by decide) ?_
          exact ih _ _ u4 _ _ _ P (lv_sub hl [1, 2, 0] rfl) h
        · have h := ite_f h c7
          refine lv_iconst (v := -1) hx hb dX3_findFault_36 (by decide) ?_
          exact r_ireti C P h dX3_findFault_37
      · have h := ite_t h c6
        refine lv_aload_n hx hb dX3_findFault_20 rfl (lv_at hl 0 rfl) ?_
        refine g_3_2 C P in_X3_findFault_3 wd_X3_findFault_1 kd_at_745 dX3_findFault_21 ?_
        exact r_ireti C P h dX3_findFault_24
def w_X3_findFault (a1 : Int32) (u0 : Mm) (Φ : Int32 → Mm → Prop) : Prop := (w_X3_restart u0 (fun _ u1 => (∃ n6 : Nat, w_X3_findFault_6 Φ n6 a1 ((0 : Int32)) u1)))
set_option maxHeartbeats 4000000 in
set_option maxRecDepth 100000 in
theorem t_X3_findFault_0 {p : Program} {l : Launch} {e : Env} {s : State} {m : MethodId} {args : Array Value} {below : List Frame} {meth : Method} {c : Code} {D : va_G} {cA : Nat → ClassId} {o : Nat}  {Φ : Int32 → Mm → Prop} (C : Cx p m meth c s args cX3_findFault 3 wsX3_findFault RX3 (some .int) D (tysL cA)) : ∀ (a1 : Int32) (u0 : Mm), ∀ (H : Heap) (locs : List Loc) (ls : Array Slot), Hp 747 o D (EC cA o u0) s H locs → lv_has ls 3 [(0, .ref (o + 745)), (1, .int a1)] → w_X3_findFault a1 u0 Φ → W p l e rm_X3_findFault s m args below meth c H locs 0 0 (MQ below (Qg vI Φ (fun μ => Wd 747 o D (tysL cA) (EC cA o μ)) (aA o 747)) args s 0 0 (aA o 747)) (F0 m 0 ls []) := by
  intro a1 u0 H locs ls P hl h
  have hx := C.1.1
  have hb := C.1.2.1
  unfold w_X3_findFault at h
  refine lv_aload_n hx hb dX3_findFault_0 rfl (lv_at hl 0 rfl) ?_
  refine r_callv (F := EC cA o) (va_runV (As := []) (rest := []) C.1 (c_X3_restart l D cA o u0 _ h) (cwV 0 C.1.2.2.2.2 gX3_findFault_X3_restart rfl rfl rfl (by decide +kernel) ⟨Nat.le_of_ble_eq_true rfl, Nat.le_of_ble_eq_true rfl⟩) (r_preV C P [] (ci := 3) rfl (kd_lt kd_at_745 (by decide)) (EK_3 kd_at_745)) rfl rfl hl.1 rfl (lv_room (Nat.le_of_ble_eq_true rfl)) dX3_findFault_1 ⟨Nat.le_of_ble_eq_true rfl, Nat.le_of_ble_eq_true rfl⟩) P.2 (fun u1 H locs h P => ?_)
  refine lv_iconst (v := 0) hx hb dX3_findFault_4 (by decide) ?_
  refine lv_istore_n (lv' := [(2, .int (0 : Int32)), (0, .ref (o + 745)), (1, .int a1)]) hx hb dX3_findFault_5 rfl hl (by decide) rfl (fun ls hl => ?_)
  obtain ⟨n6, h⟩ := h
  exact t_X3_findFault_6 C n6 _ _ u1 _ _ _ P (lv_sub hl [1, 2, 0] rfl) h
set_option maxHeartbeats 4000000 in
set_option maxRecDepth 100000 in
theorem c_X3_findFault (l : Launch) (D : va_G) (cA : Nat → ClassId) (o : Nat) (a1 : Int32)  (u0 : Mm) (Φ : Int32 → Mm → Prop) (h : w_X3_findFault a1 u0 Φ) : Met l yX3_findFault wsX3_findFault rm_X3_findFault (va_Pc [.ref (o + 745), .int a1] (Wd 747 o D (tysL cA) (EC cA o u0))) (Qg vI Φ (fun μ => Wd 747 o D (tysL cA) (EC cA o μ)) (aA o 747)) 0 0 (aA o 747) := by
  refine Met.ofW (cc := cX3_findFault) (maxL := 3) (ret := (some .int)) (by decide) rfl ?_
  intro p e s m args below meth c s₁ B hml hv
  obtain ⟨rfl, hv⟩ := hv
  have hl := lv_entry ([.ref (o + 745), .int a1]) (n := 3) (Nat.le_of_ble_eq_true rfl)
  rw [lg_entry_eq]
  exact t_X3_findFault_0 ⟨⟨B.exec, B.bytes, hml, findClass_of_methodNamed B.named, atoms_spec (ws := wsX3_findFault) B.pre⟩, B.returns, B.notSynchronized, hv.2⟩ a1 u0 _ _ _ ⟨hv.1, va_S.rf⟩ hl h
abbrev rm_X4_setUp : Room := { frames := 0, cells := 0, slots := 0, locals := 0 }
theorem wd_X4_setUp_1 : Cond.fieldLink RX4 15 "TurnstileBank$Pass" "pool" "I" ∈ wsX4_setUp := List.mem_of_getElem? (i := 1) (by decide +kernel)
theorem wd_X4_setUp_2 : Cond.fieldLink RX4 18 "TurnstileBank$Pass" "blocked" "Z" ∈ wsX4_setUp := List.mem_of_getElem? (i := 2) (by decide +kernel)
theorem wd_X4_setUp_3 : Cond.fieldLink RX4 9 "TurnstileBank$Pass" "user" "I" ∈ wsX4_setUp := List.mem_of_getElem? (i := 3) (by decide +kernel)
theorem in_X4_setUp_4 : ∀ w ∈ wsX40, w ∈ wsX4_setUp := fun w h => List.mem_cons_of_mem _ (List.mem_append_right _ h)
def w_X4_setUp (k0 : Nat) (a1 : Int32) (u0 : Mm) (Φ : Unit → Mm → Prop) : Prop := (∀ u1 : Mm, u1 = up2 u0 k0 0 a1 → (∀ u2 : Mm, u2 = up2 u1 k0 1 (0 : Int32) → (∀ u3 : Mm, u3 = up2 u2 k0 2 (-5 : Int32) → (Φ () u3))))
set_option maxHeartbeats 4000000 in
set_option maxRecDepth 100000 in
theorem t_X4_setUp_0 {p : Program} {l : Launch} {e : Env} {s : State} {m : MethodId} {args : Array Value} {below : List Frame} {meth : Method} {c : Code} {D : va_G} {cA : Nat → ClassId} {o : Nat}  {Φ : Unit → Mm → Prop} (C : Cx p m meth c s args cX4_setUp 2 wsX4_setUp RX4 none D (tysL cA)) : ∀ (k0 : Nat) (a1 : Int32) (u0 : Mm), kd k0 = 4 → ∀ (H : Heap) (locs : List Loc) (ls : Array Slot), Hp 747 o D (EC cA o u0) s H locs → lv_has ls 2 [(0, .ref (o + k0)), (1, .int a1)] → w_X4_setUp k0 a1 u0 Φ → W p l e rm_X4_setUp s m args below meth c H locs 0 0 (MQ below (Qg vV Φ (fun μ => Wd 747 o D (tysL cA) (EC cA o μ)) (aA o 747)) args s 0 0 (aA o 747)) (F0 m 0 ls []) := by
  intro k0 a1 u0 hk0 H locs ls P hl h
  have hx := C.1.1
  have hb := C.1.2.1
  unfold w_X4_setUp at h
  refine lv_aload_n hx hb dX4_setUp_0 rfl (lv_at hl 0 rfl) ?_
  refine lv_iload_n hx hb dX4_setUp_1 rfl (lv_at hl 1 rfl) ?_
  refine p_4_0 C P in_X4_setUp_4 wd_X4_setUp_1 hk0 dX4_setUp_2 (fun u1 eu1 H locs P => ?_)
  have h := h u1 eu1
  refine lv_aload_n hx hb dX4_setUp_5 rfl (lv_at hl 0 rfl) ?_
  refine lv_iconst (v := 0) hx hb dX4_setUp_6 (by decide) ?_
  refine p_4_1 C P in_X4_setUp_4 wd_X4_setUp_2 hk0 (Or.inl rfl) dX4_setUp_7 (fun u2 eu2 H locs P => ?_)
  have h := h u2 eu2
  refine lv_aload_n hx hb dX4_setUp_10 rfl (lv_at hl 0 rfl) ?_
  refine lv_bipush (v := -5) hx hb dX4_setUp_11 (by decide) ?_
  refine p_4_2 C P in_X4_setUp_4 wd_X4_setUp_3 hk0 dX4_setUp_13 (fun u3 eu3 H locs P => ?_)
  have h := h u3 eu3
  exact r_ret C P h dX4_setUp_16
set_option maxHeartbeats 4000000 in
set_option maxRecDepth 100000 in
theorem c_X4_setUp (l : Launch) (D : va_G) (cA : Nat → ClassId) (o : Nat) (k0 : Nat) (a1 : Int32) (hk0 : kd k0 = 4) (u0 : Mm) (Φ : Unit → Mm → Prop) (h : w_X4_setUp k0 a1 u0 Φ) : Met l yX4_setUp wsX4_setUp rm_X4_setUp (va_Pc [.ref (o + k0), .int a1] (Wd 747 o D (tysL cA) (EC cA o u0))) (Qg vV Φ (fun μ => Wd 747 o D (tysL cA) (EC cA o μ)) (aA o 747)) 0 0 (aA o 747) := by
  refine Met.ofW (cc := cX4_setUp) (maxL := 2) (ret := none) (by decide) rfl ?_
  intro p e s m args below meth c s₁ B hml hv
  obtain ⟨rfl, hv⟩ := hv
  have hl := lv_entry ([.ref (o + k0), .int a1]) (n := 2) (Nat.le_of_ble_eq_true rfl)
  rw [lg_entry_eq]
  exact t_X4_setUp_0 ⟨⟨B.exec, B.bytes, hml, findClass_of_methodNamed B.named, atoms_spec (ws := wsX4_setUp) B.pre⟩, B.returns, B.notSynchronized, hv.2⟩ k0 a1 u0 hk0 _ _ _ ⟨hv.1, va_S.rf⟩ hl h
abbrev rm_X5_setUp : Room := { frames := 0, cells := 0, slots := 0, locals := 0 }
theorem wd_X5_setUp_1 : Cond.fieldLink RX5 9 "TurnstileBank$Person" "pass" "I" ∈ wsX5_setUp := List.mem_of_getElem? (i := 1) (by decide +kernel)
theorem wd_X5_setUp_2 : Cond.fieldLink RX5 15 "TurnstileBank$Person" "slow" "Z" ∈ wsX5_setUp := List.mem_of_getElem? (i := 2) (by decide +kernel)
theorem wd_X5_setUp_3 : Cond.fieldLink RX5 19 "TurnstileBank$Person" "refusal" "I" ∈ wsX5_setUp := List.mem_of_getElem? (i := 3) (by decide +kernel)
theorem in_X5_setUp_5 : ∀ w ∈ wsX50, w ∈ wsX5_setUp := fun w h => List.mem_cons_of_mem _ (List.mem_append_right _ h)
def w_X5_setUp (k0 : Nat) (a1 : Int32) (a2 : Int32) (u0 : Mm) (Φ : Unit → Mm → Prop) : Prop := (∀ u1 : Mm, u1 = up2 u0 k0 0 a1 → (isB a2 ∧ ∀ u2 : Mm, u2 = up2 u1 k0 1 a2 → (∀ u3 : Mm, u3 = up2 u2 k0 4 (0 : Int32) → (Φ () u3))))
set_option maxHeartbeats 4000000 in
set_option maxRecDepth 100000 in
theorem t_X5_setUp_0 {p : Program} {l : Launch} {e : Env} {s : State} {m : MethodId} {args : Array Value} {below : List Frame} {meth : Method} {c : Code} {D : va_G} {cA : Nat → ClassId} {o : Nat}  {Φ : Unit → Mm → Prop} (C : Cx p m meth c s args cX5_setUp 3 wsX5_setUp RX5 none D (tysL cA)) : ∀ (k0 : Nat) (a1 : Int32) (a2 : Int32) (u0 : Mm), kd k0 = 5 → ∀ (H : Heap) (locs : List Loc) (ls : Array Slot), Hp 747 o D (EC cA o u0) s H locs → lv_has ls 3 [(0, .ref (o + k0)), (1, .int a1), (2, .int a2)] → w_X5_setUp k0 a1 a2 u0 Φ → W p l e rm_X5_setUp s m args below meth c H locs 0 0 (MQ below (Qg vV Φ (fun μ => Wd 747 o D (tysL cA) (EC cA o μ)) (aA o 747)) args s 0 0 (aA o 747)) (F0 m 0 ls []) := by
  intro k0 a1 a2 u0 hk0 H locs ls P hl h
  have hx := C.1.1
  have hb := C.1.2.1
  unfold w_X5_setUp at h
  refine lv_aload_n hx hb dX5_setUp_0 rfl (lv_at hl 0 rfl) ?_
  refine lv_iload_n hx hb dX5_setUp_1 rfl (lv_at hl 1 rfl) ?_
  refine p_5_0 C P in_X5_setUp_5 wd_X5_setUp_1 hk0 dX5_setUp_2 (fun u1 eu1 H locs P => ?_)
  have h := h u1 eu1
  refine lv_aload_n hx hb dX5_setUp_5 rfl (lv_at hl 0 rfl) ?_
  refine lv_iload_n hx hb dX5_setUp_6 rfl (lv_at hl 2 rfl) ?_
  obtain ⟨hB, h⟩ := h
  refine p_5_1 C P in_X5_setUp_5 wd_X5_setUp_2 hk0 hB dX5_setUp_7 (fun u2 eu2 H locs P => ?_)
  have h := h u2 eu2
  refine lv_aload_n hx hb dX5_setUp_10 rfl (lv_at hl 0 rfl) ?_
  refine lv_iconst (v := 0) hx hb dX5_setUp_11 (by decide) ?_
  refine p_5_4 C P in_X5_setUp_5 wd_X5_setUp_3 hk0 dX5_setUp_12 (fun u3 eu3 H locs P => ?_)
  have h := h u3 eu3
  exact r_ret C P h dX5_setUp_15
set_option maxHeartbeats 4000000 in
set_option maxRecDepth 100000 in
theorem c_X5_setUp (l : Launch) (D : va_G) (cA : Nat → ClassId) (o : Nat) (k0 : Nat) (a1 : Int32) (a2 : Int32) (hk0 : kd k0 = 5) (u0 : Mm) (Φ : Unit → Mm → Prop) (h : w_X5_setUp k0 a1 a2 u0 Φ) : Met l yX5_setUp wsX5_setUp rm_X5_setUp (va_Pc [.ref (o + k0), .int a1, .int a2] (Wd 747 o D (tysL cA) (EC cA o u0))) (Qg vV Φ (fun μ => Wd 747 o D (tysL cA) (EC cA o μ)) (aA o 747)) 0 0 (aA o 747) := by
  refine Met.ofW (cc := cX5_setUp) (maxL := 3) (ret := none) (by decide) rfl ?_
  intro p e s m args below meth c s₁ B hml hv
  obtain ⟨rfl, hv⟩ := hv
  have hl := lv_entry ([.ref (o + k0), .int a1, .int a2]) (n := 3) (Nat.le_of_ble_eq_true rfl)
  rw [lg_entry_eq]
  exact t_X5_setUp_0 ⟨⟨B.exec, B.bytes, hml, findClass_of_methodNamed B.named, atoms_spec (ws := wsX5_setUp) B.pre⟩, B.returns, B.notSynchronized, hv.2⟩ k0 a1 a2 u0 hk0 _ _ _ ⟨hv.1, va_S.rf⟩ hl h
abbrev rm_X5_waitAt : Room := { frames := 0, cells := 0, slots := 0, locals := 0 }
theorem wd_X5_waitAt_1 : Cond.fieldLink RX5 25 "TurnstileBank$Person" "gate" "I" ∈ wsX5_waitAt := List.mem_of_getElem? (i := 1) (by decide +kernel)
theorem wd_X5_waitAt_2 : Cond.fieldLink RX5 22 "TurnstileBank$Person" "where" "I" ∈ wsX5_waitAt := List.mem_of_getElem? (i := 2) (by decide +kernel)
theorem wd_X5_waitAt_3 : Cond.fieldLink RX5 28 "TurnstileBank$Person" "waitingSince" "I" ∈ wsX5_waitAt := List.mem_of_getElem? (i := 3) (by decide +kernel)
theorem wd_X5_waitAt_4 : Cond.fieldLink RX5 31 "TurnstileBank$Person" "wantsOut" "Z" ∈ wsX5_waitAt := List.mem_of_getElem? (i := 4) (by decide +kernel)
theorem in_X5_waitAt_5 : ∀ w ∈ wsX50, w ∈ wsX5_waitAt := fun w h => List.mem_cons_of_mem _ (List.mem_append_right _ h)
def w_X5_waitAt (k0 : Nat) (a1 : Int32) (a2 : Int32) (a3 : Int32) (u0 : Mm) (Φ : Unit → Mm → Prop) : Prop := (∀ u1 : Mm, u1 = up2 u0 k0 3 a1 → (∀ u2 : Mm, u2 = up2 u1 k0 2 a2 → (∀ u3 : Mm, u3 = up2 u2 k0 5 a3 → (if a2 = (4 : Int32) then (∀ u6 : Mm, u6 = up2 u3 k0 6 (1 : Int32) → (Φ () u6)) else (∀ u5 : Mm, u5 = up2 u3 k0 6 (0 : Int32) → (Φ () u5))))))
set_option maxHeartbeats 4000000 in
set_option maxRecDepth 100000 in
theorem t_X5_waitAt_0 {p : Program} {l : Launch} {e : Env} {s : State} {m : MethodId} {args : Array Value} {below : List Frame} {meth : Method} {c : Code} {D : va_G} {cA : Nat → ClassId} {o : Nat}  {Φ : Unit → Mm → Prop} (C : Cx p m meth c s args cX5_waitAt 4 wsX5_waitAt RX5 none D (tysL cA)) : ∀ (k0 : Nat) (a1 : Int32) (a2 : Int32) (a3 : Int32) (u0 : Mm), kd k0 = 5 → ∀ (H : Heap) (locs : List Loc) (ls : Array Slot), Hp 747 o D (EC cA o u0) s H locs → lv_has ls 4 [(0, .ref (o + k0)), (1, .int a1), (2, .int a2), (3, .int a3)] → w_X5_waitAt k0 a1 a2 a3 u0 Φ → W p l e rm_X5_waitAt s m args below meth c H locs 0 0 (MQ below (Qg vV Φ (fun μ => Wd 747 o D (tysL cA) (EC cA o μ)) (aA o 747)) args s 0 0 (aA o 747)) (F0 m 0 ls []) := by
  intro k0 a1 a2 a3 u0 hk0 H locs ls P hl h
  have hx := C.1.1
  have hb := C.1.2.1
  unfold w_X5_waitAt at h
  refine lv_aload_n hx hb dX5_waitAt_0 rfl (lv_at hl 0 rfl) ?_
  refine lv_iload_n hx hb dX5_waitAt_1 rfl (lv_at hl 1 rfl) ?_
  refine p_5_3 C P in_X5_waitAt_5 wd_X5_waitAt_1 hk0 dX5_waitAt_2 (fun u1 eu1 H locs P => ?_)
  have h := h u1 eu1
  refine lv_aload_n hx hb dX5_waitAt_5 rfl (lv_at hl 0 rfl) ?_
  refine lv_iload_n hx hb dX5_waitAt_6 rfl (lv_at hl 2 rfl) ?_
  refine p_5_2 C P in_X5_waitAt_5 wd_X5_waitAt_2 hk0 dX5_waitAt_7 (fun u2 eu2 H locs P => ?_)
  have h := h u2 eu2
  refine lv_aload_n hx hb dX5_waitAt_10 rfl (lv_at hl 0 rfl) ?_
  refine lv_iload_n hx hb dX5_waitAt_11 rfl (lv_at hl 3 rfl) ?_
  refine p_5_5 C P in_X5_waitAt_5 wd_X5_waitAt_3 hk0 dX5_waitAt_12 (fun u3 eu3 H locs P => ?_)
  have h := h u3 eu3
  refine lv_aload_n hx hb dX5_waitAt_15 rfl (lv_at hl 0 rfl) ?_
  refine lv_iload_n hx hb dX5_waitAt_16 rfl (lv_at hl 2 rfl) ?_
  refine lv_iconst (v := 4) hx hb dX5_waitAt_17 (by decide) ?_
  refine lv_icmp_ne (tgt := 25) hx hb dX5_waitAt_18 (by decide) (fun c4 => ?_) (fun c4 => ?_)
  · have h := ite_f h c4
    refine lv_iconst (v := 0) hx hb dX5_waitAt_25 (by decide) ?_
    refine p_5_6 C P in_X5_waitAt_5 wd_X5_waitAt_4 hk0 (Or.inl rfl) dX5_waitAt_26 (fun u5 eu5 H locs P => ?_)
    have h := h u5 eu5
    exact r_ret C P h dX5_waitAt_29
  · have h := ite_t h c4
    refine lv_iconst (v := 1) hx hb dX5_waitAt_21 (by decide) ?_
    refine lv_goto (tgt := 26) hx hb dX5_waitAt_22 (by decide) ?_
    refine p_5_6 C P in_X5_waitAt_5 wd_X5_waitAt_4 hk0 (Or.inr rfl) dX5_waitAt_26 (fun u6 eu6 H locs P => ?_)
    have h := h u6 eu6
    exact r_ret C P h dX5_waitAt_29
set_option maxHeartbeats 4000000 in
set_option maxRecDepth 100000 in
theorem c_X5_waitAt (l : Launch) (D : va_G) (cA : Nat → ClassId) (o : Nat) (k0 : Nat) (a1 : Int32) (a2 : Int32) (a3 : Int32) (hk0 : kd k0 = 5) (u0 : Mm) (Φ : Unit → Mm → Prop) (h : w_X5_waitAt k0 a1 a2 a3 u0 Φ) : Met l yX5_waitAt wsX5_waitAt rm_X5_waitAt (va_Pc [.ref (o + k0), .int a1, .int a2, .int a3] (Wd 747 o D (tysL cA) (EC cA o u0))) (Qg vV Φ (fun μ => Wd 747 o D (tysL cA) (EC cA o μ)) (aA o 747)) 0 0 (aA o 747) := by
  refine Met.ofW (cc := cX5_waitAt) (maxL := 4) (ret := none) (by decide) rfl ?_
  intro p e s m args below meth c s₁ B hml hv
  obtain ⟨rfl, hv⟩ := hv
  have hl := lv_entry ([.ref (o + k0), .int a1, .int a2, .int a3]) (n := 4) (Nat.le_of_ble_eq_true rfl)
  rw [lg_entry_eq]
  exact t_X5_waitAt_0 ⟨⟨B.exec, B.bytes, hml, findClass_of_methodNamed B.named, atoms_spec (ws := wsX5_waitAt) B.pre⟩, B.returns, B.notSynchronized, hv.2⟩ k0 a1 a2 a3 u0 hk0 _ _ _ ⟨hv.1, va_S.rf⟩ hl h
abbrev rm_X5_turnAway : Room := { frames := 0, cells := 0, slots := 0, locals := 0 }
theorem wd_X5_turnAway_1 : Cond.fieldLink RX5 22 "TurnstileBank$Person" "where" "I" ∈ wsX5_turnAway := List.mem_of_getElem? (i := 1) (by decide +kernel)
theorem wd_X5_turnAway_2 : Cond.fieldLink RX5 25 "TurnstileBank$Person" "gate" "I" ∈ wsX5_turnAway := List.mem_of_getElem? (i := 2) (by decide +kernel)
theorem wd_X5_turnAway_3 : Cond.fieldLink RX5 19 "TurnstileBank$Person" "refusal" "I" ∈ wsX5_turnAway := List.mem_of_getElem? (i := 3) (by decide +kernel)
theorem in_X5_turnAway_5 : ∀ w ∈ wsX50, w ∈ wsX5_turnAway := fun w h => List.mem_cons_of_mem _ (List.mem_append_right _ h)
def w_X5_turnAway (k0 : Nat) (a1 : Int32) (u0 : Mm) (Φ : Unit → Mm → Prop) : Prop := (∀ u1 : Mm, u1 = up2 u0 k0 2 (0 : Int32) → (∀ u2 : Mm, u2 = up2 u1 k0 3 (-5 : Int32) → (∀ u3 : Mm, u3 = up2 u2 k0 4 a1 → (Φ () u3))))
set_option maxHeartbeats 4000000 in
set_option maxRecDepth 100000 in
theorem t_X5_turnAway_0 {p : Program} {l : Launch} {e : Env} {s : State} {m : MethodId} {args : Array Value} {below : List Frame} {meth : Method} {c : Code} {D : va_G} {cA : Nat → ClassId} {o : Nat}  {Φ : Unit → Mm → Prop} (C : Cx p m meth c s args cX5_turnAway 2 wsX5_turnAway RX5 none D (tysL cA)) : ∀ (k0 : Nat) (a1 : Int32) (u0 : Mm), kd k0 = 5 → ∀ (H : Heap) (locs : List Loc) (ls : Array Slot), Hp 747 o D (EC cA o u0) s H locs → lv_has ls 2 [(0, .ref (o + k0)), (1, .int a1)] → w_X5_turnAway k0 a1 u0 Φ → W p l e rm_X5_turnAway s m args below meth c H locs 0 0 (MQ below (Qg vV Φ (fun μ => Wd 747 o D (tysL cA) (EC cA o μ)) (aA o 747)) args s 0 0 (aA o 747)) (F0 m 0 ls []) := by
  intro k0 a1 u0 hk0 H locs ls P hl h
  have hx := C.1.1
  have hb := C.1.2.1
  unfold w_X5_turnAway at h
  refine lv_aload_n hx hb dX5_turnAway_0 rfl (lv_at hl 0 rfl) ?_
  refine lv_iconst (v := 0) hx hb dX5_turnAway_1 (by decide) ?_
  refine p_5_2 C P in_X5_turnAway_5 wd_X5_turnAway_1 hk0 dX5_turnAway_2 (fun u1 eu1 H locs P => ?_)
  have h := h u1 eu1
  refine lv_aload_n hx hb dX5_turnAway_5 rfl (lv_at hl 0 rfl) ?_
  refine lv_bipush (v := -5) hx hb dX5_turnAway_6 (by decide) ?_
  refine p_5_3 C P in_X5_turnAway_5 wd_X5_turnAway_2 hk0 dX5_turnAway_8 (fun u2 eu2 H locs P => ?_)
  have h := h u2 eu2
  refine lv_aload_n hx hb dX5_turnAway_11 rfl (lv_at hl 0 rfl) ?_
  refine lv_iload_n hx hb dX5_turnAway_12 rfl (lv_at hl 1 rfl) ?_
  refine p_5_4 C P in_X5_turnAway_5 wd_X5_turnAway_3 hk0 dX5_turnAway_13 (fun u3 eu3 H locs P => ?_)
  have h := h u3 eu3
  exact r_ret C P h dX5_turnAway_16
set_option maxHeartbeats 4000000 in
set_option maxRecDepth 100000 in
theorem c_X5_turnAway (l : Launch) (D : va_G) (cA : Nat → ClassId) (o : Nat) (k0 : Nat) (a1 : Int32) (hk0 : kd k0 = 5) (u0 : Mm) (Φ : Unit → Mm → Prop) (h : w_X5_turnAway k0 a1 u0 Φ) : Met l yX5_turnAway wsX5_turnAway rm_X5_turnAway (va_Pc [.ref (o + k0), .int a1] (Wd 747 o D (tysL cA) (EC cA o u0))) (Qg vV Φ (fun μ => Wd 747 o D (tysL cA) (EC cA o μ)) (aA o 747)) 0 0 (aA o 747) := by
  refine Met.ofW (cc := cX5_turnAway) (maxL := 2) (ret := none) (by decide) rfl ?_
  intro p e s m args below meth c s₁ B hml hv
  obtain ⟨rfl, hv⟩ := hv
  have hl := lv_entry ([.ref (o + k0), .int a1]) (n := 2) (Nat.le_of_ble_eq_true rfl)
  rw [lg_entry_eq]
  exact t_X5_turnAway_0 ⟨⟨B.exec, B.bytes, hml, findClass_of_methodNamed B.named, atoms_spec (ws := wsX5_turnAway) B.pre⟩, B.returns, B.notSynchronized, hv.2⟩ k0 a1 u0 hk0 _ _ _ ⟨hv.1, va_S.rf⟩ hl h
abbrev rm_X5_isWaiting : Room := { frames := 0, cells := 0, slots := 0, locals := 0 }
theorem wd_X5_isWaiting_1 : Cond.fieldLink RX5 22 "TurnstileBank$Person" "where" "I" ∈ wsX5_isWaiting := List.mem_of_getElem? (i := 1) (by decide +kernel)
theorem in_X5_isWaiting_5 : ∀ w ∈ wsX50, w ∈ wsX5_isWaiting := fun w h => List.mem_cons_of_mem _ (List.mem_append_right _ h)
def w_X5_isWaiting (k0 : Nat) (u0 : Mm) (Φ : Int32 → Mm → Prop) : Prop := (if (u0 k0 2) = (1 : Int32) then (Φ (1 : Int32) u0) else (if (u0 k0 2) = (4 : Int32) then (Φ (1 : Int32) u0) else (Φ (0 : Int32) u0)))
set_option maxHeartbeats 4000000 in
set_option maxRecDepth 100000 in
theorem t_X5_isWaiting_0 {p : Program} {l : Launch} {e : Env} {s : State} {m : MethodId} {args : Array Value} {below : List Frame} {meth : Method} {c : Code} {D : va_G} {cA : Nat → ClassId} {o : Nat}  {Φ : Int32 → Mm → Prop} (C : Cx p m meth c s args cX5_isWaiting 1 wsX5_isWaiting RX5 (some .boolean) D (tysL cA)) : ∀ (k0 : Nat) (u0 : Mm), kd k0 = 5 → ∀ (H : Heap) (locs : List Loc) (ls : Array Slot), Hp 747 o D (EC cA o u0) s H locs → lv_has ls 1 [(0, .ref (o + k0))] → w_X5_isWaiting k0 u0 Φ → W p l e rm_X5_isWaiting s m args below meth c H locs 0 0 (MQ below (Qg vI Φ (fun μ => Wd 747 o D (tysL cA) (EC cA o μ)) (aA o 747)) args s 0 0 (aA o 747)) (F0 m 0 ls []) := by
  intro k0 u0 hk0 H locs ls P hl h
  have hx := C.1.1
  have hb := C.1.2.1
  unfold w_X5_isWaiting at h
  refine lv_aload_n hx hb dX5_isWaiting_0 rfl (lv_at hl 0 rfl) ?_
  refine g_5_2 C P in_X5_isWaiting_5 wd_X5_isWaiting_1 hk0 dX5_isWaiting_1 ?_
  refine lv_iconst (v := 1) hx hb dX5_isWaiting_4 (by decide) ?_
  refine lv_icmp_eq (tgt := 16) hx hb dX5_isWaiting_5 (by decide) (fun c1 => ?_) (fun c1 => ?_)
  · have h := ite_t h c1
    refine lv_iconst (v := 1) hx hb dX5_isWaiting_16 (by decide) ?_
    refine lv_goto (tgt := 21) hx hb dX5_isWaiting_17 (by decide) ?_
    exact r_iretb C P (Or.inr rfl) h dX5_isWaiting_21
  · have h := ite_f h c1
    refine lv_aload_n hx hb dX5_isWaiting_8 rfl (lv_at hl 0 rfl) ?_
    refine g_5_2 C P in_X5_isWaiting_5 wd_X5_isWaiting_1 hk0 dX5_isWaiting_9 ?_
    refine lv_iconst (v := 4) hx hb dX5_isWaiting_12 (by decide) ?_
    refine lv_icmp_ne (tgt := 20) hx hb dX5_isWaiting_13 (by decide) (fun c2 => ?_) (fun c2 => ?_)
    · have h := ite_f h c2
      refine lv_iconst (v := 0) hx hb dX5_isWaiting_20 (by decide) ?_
      exact r_iretb C P (Or.inl rfl) h dX5_isWaiting_21
    · have h := ite_t h c2
      refine lv_iconst (v := 1) hx hb dX5_isWaiting_16 (by decide) ?_
      refine lv_goto (tgt := 21) hx hb dX5_isWaiting_17 (by decide) ?_
      exact r_iretb C P (Or.inr rfl) h dX5_isWaiting_21
set_option maxHeartbeats 4000000 in
set_option maxRecDepth 100000 in
theorem c_X5_isWaiting (l : Launch) (D : va_G) (cA : Nat → ClassId) (o : Nat) (k0 : Nat) (hk0 : kd k0 = 5) (u0 : Mm) (Φ : Int32 → Mm → Prop) (h : w_X5_isWaiting k0 u0 Φ) : Met l yX5_isWaiting wsX5_isWaiting rm_X5_isWaiting (va_Pc [.ref (o + k0)] (Wd 747 o D (tysL cA) (EC cA o u0))) (Qg vI Φ (fun μ => Wd 747 o D (tysL cA) (EC cA o μ)) (aA o 747)) 0 0 (aA o 747) := by
  refine Met.ofW (cc := cX5_isWaiting) (maxL := 1) (ret := (some .boolean)) (by decide) rfl ?_
  intro p e s m args below meth c s₁ B hml hv
  obtain ⟨rfl, hv⟩ := hv
  have hl := lv_entry ([.ref (o + k0)]) (n := 1) (Nat.le_of_ble_eq_true rfl)
  rw [lg_entry_eq]
  exact t_X5_isWaiting_0 ⟨⟨B.exec, B.bytes, hml, findClass_of_methodNamed B.named, atoms_spec (ws := wsX5_isWaiting) B.pre⟩, B.returns, B.notSynchronized, hv.2⟩ k0 u0 hk0 _ _ _ ⟨hv.1, va_S.rf⟩ hl h
