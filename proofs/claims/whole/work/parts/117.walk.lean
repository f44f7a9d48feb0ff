abbrev rm_X10_number : Room := { frames := 2, cells := 0, slots := 0, locals := 44 }
theorem wd_X10_number_1 : Cond.fieldLink RX10 156 "TurnstileBankModel" "isGood" "Z" ∈ wsX10_number := List.mem_of_getElem? (i := 1) (by decide +kernel)
theorem in_X10_number_10 : ∀ w ∈ wsX100, w ∈ wsX10_number := fun w h => List.mem_cons_of_mem _ (List.mem_append_right _ h)
def w_X10_number (a1 : Int32) (u0 : Mm) (Φ : Int32 → Mm → Prop) : Prop := (w_X10_digit a1 ((9 : Int32)) u0 (fun r2 u1 => (if (u1 0 7) = 0 then (Φ r2 u1) else (if r2 ≤ 0 then (Φ r2 u1) else (w_X10_isAt ((48 : Int32)) ((57 : Int32)) u1 (fun r6 u5 => (if r6 = 0 then (Φ r2 u5) else (w_X10_digit ((0 : Int32)) ((9 : Int32)) u5 (fun r9 u8 => (Φ ((((10 : Int32) * r2) + r9)) u8))))))))))
set_option maxHeartbeats 4000000 in
set_option maxRecDepth 100000 in
theorem t_X10_number_0 {p : Program} {l : Launch} {e : Env} {s : State} {m : MethodId} {args : Array Value} {below : List Frame} {meth : Method} {c : Code} {D : va_G} {cA : Nat → ClassId} {o : Nat}  {Φ : Int32 → Mm → Prop} (C : Cx p m meth c s args cX10_number 3 wsX10_number RX10 (some .int) D (tysL cA)) : ∀ (a1 : Int32) (u0 : Mm), ∀ (H : Heap) (locs : List Loc) (ls : Array Slot), Hp 6 o D (EM cA o u0) s H locs → lv_has ls 3 [(0, .ref (o + 0)), (1, .int a1)] → w_X10_number a1 u0 Φ → W p l e rm_X10_number s m args below meth c H locs 0 0 (MQ below (Qg vI Φ (fun μ => Wd 6 o D (tysL cA) (EM cA o μ)) (aA o 6)) args s 0 0 (aA o 6)) (F0 m 0 ls []) := by
  intro a1 u0 H locs ls P hl h
  have hx := C.1.1
  have hb := C.1.2.1
  unfold w_X10_number at h
  refine lv_aload_n hx hb dX10_number_0 rfl (lv_at hl 0 rfl) ?_
  refine lv_iload_n hx hb dX10_number_1 rfl (lv_at hl 1 rfl) ?_
  refine lv_bipush (v := 9) hx hb dX10_number_2 (by decide) ?_
  refine r_calli (F := EM cA o) (va_runV (As := [.int a1, .int (9 : Int32)]) (rest := []) C.1 (c_X10_digit l D cA o _ _ u0 _ h) (cwV 2 C.1.2.2.2.2 gX10_number_X10_digit rfl rfl rfl (by decide +kernel) ⟨Nat.le_of_ble_eq_true rfl, Nat.le_of_ble_eq_true rfl⟩) (r_preV C P [.int a1, .int (9 : Int32)] (ci := 10) rfl (by decide) EKM_0) rfl rfl hl.1 rfl (lv_room (Nat.le_of_ble_eq_true rfl)) dX10_number_4 ⟨Nat.le_of_ble_eq_true rfl, Nat.le_of_ble_eq_true rfl⟩) P.2 (fun r2 u1 H locs h P => ?_)
  refine lv_istore_n (lv' := [(2, .int r2), (0, .ref (o + 0)), (1, .int a1)]) hx hb dX10_number_7 rfl hl (by decide) rfl (fun ls hl => ?_)
  refine lv_aload_n hx hb dX10_number_8 rfl (lv_at hl 1 rfl) ?_
  refine g_10_7 C P in_X10_number_10 wd_X10_number_1 dX10_number_9 ?_
  refine lv_if_eq (tgt := 45) hx hb dX10_number_12 (by decide) (fun c3 => ?_) (fun c3 => ?_)
  · have h := ite_t h c3
    refine lv_iload_n hx hb dX10_number_45 rfl (lv_at hl 0 rfl) ?_
    exact r_ireti C P h dX10_number_46
  · have h := ite_f h c3
    refine lv_iload_n hx hb dX10_number_15 rfl (lv_at hl 0 rfl) ?_
    refine lv_if_le (tgt := 45) hx hb dX10_number_16 (by decide) (fun c4 => ?_) (fun c4 => ?_)
    · have h := ite_t h c4
      refine lv_iload_n hx hb dX10_number_45 rfl (lv_at hl 0 rfl) ?_
      exact r_ireti C P h dX10_number_46
    · have h := ite_f h c4
      refine lv_aload_n hx hb dX10_number_19 rfl (lv_at hl 1 rfl) ?_
      refine lv_bipush (v := 48) hx hb dX10_number_20 (by decide) ?_
      refine lv_bipush (v := 57) hx hb dX10_number_22 (by decide) ?_
      refine r_calli (F := EM cA o) (va_runV (As := [.int (48 : Int32), .int (57 : Int32)]) (rest := []) C.1 (c_X10_isAt l D cA o _ _ u1 _ h) (cwV 2 C.1.2.2.2.2 gX10_number_X10_isAt rfl rfl rfl (by decide +kernel) ⟨Nat.le_of_ble_eq_true rfl, Nat.le_of_ble_eq_true rfl⟩) (r_preV C P [.int (48 : Int32), .int (57 : Int32)] (ci := 10) rfl (by decide) EKM_0) rfl rfl hl.1 rfl (lv_room (Nat.le_of_ble_eq_true rfl)) dX10_number_24 ⟨Nat.le_of_ble_eq_true rfl, Nat.le_of_ble_eq_true rfl⟩) P.2 (fun r6 u5 H locs h P => ?_)
      refine lv_if_eq (tgt := 45) hx hb dX10_number_27 (by decide) (fun c7 => ?_) (fun c7 => ?_)
      · have h := ite_t h c7
        refine lv_iload_n hx hb dX10_number_45 rfl (lv_at hl 0 rfl) ?_
        exact r_ireti C P h dX10_number_46
      · have h := ite_f h c7
        refine lv_bipush (v := 10) hx hb dX10_number_30 (by decide) ?_
        refine lv_iload_n hx hb dX10_number_32 rfl (lv_at hl 0 rfl) ?_
        refine lv_imul hx hb dX10_number_33 ?_
        refine lv_aload_n hx hb dX10_number_34 rfl (lv_at hl 1 rfl) ?_
        refine lv_iconst (v := 0) hx hb dX10_number_35 (by decide) ?_
        refine lv_bipush (v := 9) hx hb dX10_number_36 (by decide) ?_
        refine r_calli (F := EM cA o) (va_runV (As := [.int (0 : Int32), .int (9 : Int32)]) (rest := [.int ((10 : Int32) * r2)]) C.1 (c_X10_digit l D cA o _ _ u5 _ h) (cwV 2 C.1.2.2.2.2 gX10_number_X10_digit rfl rfl rfl (by decide +kernel) ⟨Nat.le_of_ble_eq_true rfl, Nat.le_of_ble_eq_true rfl⟩) (r_preV C P [.int (0 : Int32), .int (9 : Int32)] (ci := 10) rfl (by decide) EKM_0) rfl rfl hl.1 rfl (lv_room (Nat.le_of_ble_eq_true rfl)) dX10_number_38 ⟨Nat.le_of_ble_eq_true rfl, Nat.le_of_ble_eq_true rfl⟩) P.2 (fun r9 u8 H locs h P => ?_)
        refine lv_iadd hx hb dX10_number_41 ?_
        refine lv_goto (tgt := 46) hx hb dX10_number_42 (by decide) ?_
        exact r_ireti C P h dX10_number_46
set_option maxHeartbeats 4000000 in
set_option maxRecDepth 100000 in
theorem c_X10_number (l : Launch) (D : va_G) (cA : Nat → ClassId) (o : Nat) (a1 : Int32)  (u0 : Mm) (Φ : Int32 → Mm → Prop) (h : w_X10_number a1 u0 Φ) : Met l yX10_number wsX10_number rm_X10_number (va_Pc [.ref (o + 0), .int a1] (Wd 6 o D (tysL cA) (EM cA o u0))) (Qg vI Φ (fun μ => Wd 6 o D (tysL cA) (EM cA o μ)) (aA o 6)) 0 0 (aA o 6) := by
  refine Met.ofW (cc := cX10_number) (maxL := 3) (ret := (some .int)) (by decide) rfl ?_
  intro p e s m args below meth c s₁ B hml hv
  obtain ⟨rfl, hv⟩ := hv
  have hl := lv_entry ([.ref (o + 0), .int a1]) (n := 3) (Nat.le_of_ble_eq_true rfl)
  rw [lg_entry_eq]
  exact t_X10_number_0 ⟨⟨B.exec, B.bytes, hml, findClass_of_methodNamed B.named, atoms_spec (ws := wsX10_number) B.pre⟩, B.returns, B.notSynchronized, hv.2⟩ a1 u0 _ _ _ ⟨hv.1, va_S.rf⟩ hl h
abbrev rm_X10_readOrder : Room := { frames := 3, cells := 0, slots := 0, locals := 66 }
theorem wd_X10_readOrder_1 : Cond.fieldLink RX10 167 "TurnstileBankModel" "orders" "I" ∈ wsX10_readOrder := List.mem_of_getElem? (i := 1) (by decide +kernel)
theorem wd_X10_readOrder_2 : Cond.fieldLink RX10 7 "TurnstileBankModel" "row" "[I" ∈ wsX10_readOrder := List.mem_of_getElem? (i := 2) (by decide +kernel)
theorem wd_X10_readOrder_3 : Cond.fieldLink RX10 23 "TurnstileBankModel" "orderOf" "[I" ∈ wsX10_readOrder := List.mem_of_getElem? (i := 3) (by decide +kernel)
theorem wd_X10_readOrder_4 : Cond.fieldLink RX10 156 "TurnstileBankModel" "isGood" "Z" ∈ wsX10_readOrder := List.mem_of_getElem? (i := 4) (by decide +kernel)
theorem in_X10_readOrder_10 : ∀ w ∈ wsX100, w ∈ wsX10_readOrder := fun w h => List.mem_cons_of_mem _ (List.mem_append_right _ h)
def w_X10_readOrder_89  (Φ : Unit → Mm → Prop) (x1 : Int32) (z0 : Int32) (z1 : Int32) (u0 : Mm) : Prop := (vp_in z1 200 ∧ ∀ u45 : Mm, u45 = up2 u0 5 z1.toNatClampNeg z0 → (w_X10_skips ((115 : Int32)) u45 (fun r47 u46 => (if r47 = 0 then (vp_in (x1 + (3 : Int32)) 200 ∧ ∀ u49 : Mm, u49 = up2 u46 5 (x1 + (3 : Int32)).toNatClampNeg (0 : Int32) → (∀ u50 : Mm, u50 = up2 u49 0 8 ((u49 0 8) + (1 : Int32)) → (Φ () u50))) else (vp_in (x1 + (3 : Int32)) 200 ∧ ∀ u51 : Mm, u51 = up2 u46 5 (x1 + (3 : Int32)).toNatClampNeg (1 : Int32) → (∀ u52 : Mm, u52 = up2 u51 0 8 ((u51 0 8) + (1 : Int32)) → (Φ () u52)))))))
set_option maxHeartbeats 4000000 in
set_option maxRecDepth 100000 in
theorem t_X10_readOrder_89 {p : Program} {l : Launch} {e : Env} {s : State} {m : MethodId} {args : Array Value} {below : List Frame} {meth : Method} {c : Code} {D : va_G} {cA : Nat → ClassId} {o : Nat}  {Φ : Unit → Mm → Prop} (C : Cx p m meth c s args cX10_readOrder 3 wsX10_readOrder RX10 none D (tysL cA)) : ∀ (x1 : Int32) (z0 : Int32) (z1 : Int32) (u0 : Mm), ∀ (H : Heap) (locs : List Loc) (ls : Array Slot), Hp 6 o D (EM cA o u0) s H locs → lv_has ls 3 [(0, .ref (o + 0)), (1, .int x1)] → w_X10_readOrder_89 Φ x1 z0 z1 u0 → W p l e rm_X10_readOrder s m args below meth c H locs 0 0 (MQ below (Qg vV Φ (fun μ => Wd 6 o D (tysL cA) (EM cA o μ)) (aA o 6)) args s 0 0 (aA o 6)) (F0 m 89 ls [.int z0, .int z1, .ref (o + 5)]) := by
  intro x1 z0 z1 u0 H locs ls P hl h
  have hx := C.1.1
  have hb := C.1.2.1
  unfold w_X10_readOrder_89 at h
  obtain ⟨hi, h⟩ := h
  refine mst_5 C P hi dX10_readOrder_89 (fun u45 eu45 H locs P => ?_)
  have h := h u45 eu45
  refine lv_aload_n hx hb dX10_readOrder_90 rfl (lv_at hl 0 rfl) ?_
  refine g_10_9 C P in_X10_readOrder_10 wd_X10_readOrder_3 dX10_readOrder_91 ?_
  refine lv_iload_n hx hb dX10_readOrder_94 rfl (lv_at hl 1 rfl) ?_
  refine lv_iconst (v := 3) hx hb dX10_readOrder_95 (by decide) ?_
  refine lv_iadd hx hb dX10_readOrder_96 ?_
  refine lv_aload_n hx hb dX10_readOrder_97 rfl (lv_at hl 0 rfl) ?_
  refine lv_bipush (v := 115) hx hb dX10_readOrder_98 (by decide) ?_
  refine r_calli (F := EM cA o) (va_runV (As := [.int (115 : Int32)]) (rest := [.int (x1 + (3 : Int32)), .ref (o + 5)]) C.1 (c_X10_skips l D cA o _ u45 _ h) (cwV 1 C.1.2.2.2.2 gX10_readOrder_X10_skips rfl rfl rfl (by decide +kernel) ⟨Nat.le_of_ble_eq_true rfl, Nat.le_of_ble_eq_true rfl⟩) (r_preV C P [.int (115 : Int32)] (ci := 10) rfl (by decide) EKM_0) rfl rfl hl.1 rfl (lv_room (Nat.le_of_ble_eq_true rfl)) dX10_readOrder_100 ⟨Nat.le_of_ble_eq_true rfl, Nat.le_of_ble_eq_true rfl⟩) P.2 (fun r47 u46 H locs h P => ?_)
  refine lv_if_eq (tgt := 110) hx hb dX10_readOrder_103 (by decide) (fun c48 => ?_) (fun c48 => ?_)
  · have h := ite_t h c48
    refine lv_iconst (v := 0) hx hb dX10_readOrder_110 (by decide) ?_
    obtain ⟨hi, h⟩ := h
    refine mst_5 C P hi dX10_readOrder_111 (fun u49 eu49 H locs P => ?_)
    have h := h u49 eu49
    refine lv_goto (tgt := 241) hx hb dX10_readOrder_112 (by decide) ?_
    refine lv_aload_n hx hb dX10_readOrder_241 rfl (lv_at hl 0 rfl) ?_
    refine lv_dup hx hb dX10_readOrder_242 rfl ?_
    refine g_10_8 C P in_X10_readOrder_10 wd_X10_readOrder_1 dX10_readOrder_243 ?_
    refine lv_iconst (v := 1) hx hb dX10_readOrder_246 (by decide) ?_
    refine lv_iadd hx hb dX10_readOrder_247 ?_
    refine p_10_8 C P in_X10_readOrder_10 wd_X10_readOrder_1 dX10_readOrder_248 (fun u50 eu50 H locs P => ?_)
    have h := h u50 eu50
    exact r_ret C P h dX10_readOrder_251
  · have h := ite_f h c48
    refine lv_iconst (v := 1) hx hb dX10_readOrder_106 (by decide) ?_
    refine lv_goto (tgt := 111) hx hb dX10_readOrder_107 (by decide) ?_
    obtain ⟨hi, h⟩ := h
    refine mst_5 C P hi dX10_readOrder_111 (fun u51 eu51 H locs P => ?_)
    have h := h u51 eu51
    refine lv_goto (tgt := 241) hx hb dX10_readOrder_112 (by decide) ?_
    refine lv_aload_n hx hb dX10_readOrder_241 rfl (lv_at hl 0 rfl) ?_
    refine lv_dup hx hb dX10_readOrder_242 rfl ?_
    refine g_10_8 C P in_X10_readOrder_10 wd_X10_readOrder_1 dX10_readOrder_243 ?_
    refine lv_iconst (v := 1) hx hb dX10_readOrder_246 (by decide) ?_
    refine lv_iadd hx hb dX10_readOrder_247 ?_
    refine p_10_8 C P in_X10_readOrder_10 wd_X10_readOrder_1 dX10_readOrder_248 (fun u52 eu52 H locs P => ?_)
    have h := h u52 eu52
    exact r_ret C P h dX10_readOrder_251
def w_X10_readOrder  (u0 : Mm) (Φ : Unit → Mm → Prop) : Prop := (vp_in (((4 : Int32) * (u0 0 8)) + (2 : Int32)) 200 ∧ ∀ u1 : Mm, u1 = up2 u0 5 (((4 : Int32) * (u0 0 8)) + (2 : Int32)).toNatClampNeg (-1 : Int32) → (vp_in (((4 : Int32) * (u0 0 8)) + (3 : Int32)) 200 ∧ ∀ u2 : Mm, u2 = up2 u1 5 (((4 : Int32) * (u0 0 8)) + (3 : Int32)).toNatClampNeg (0 : Int32) → (w_X10_skips ((105 : Int32)) u2 (fun r4 u3 => (if r4 = 0 then (w_X10_skips ((111 : Int32)) u3 (fun r7 u6 => (if r7 = 0 then (w_X10_skips ((116 : Int32)) u6 (fun r10 u9 => (if r10 = 0 then (w_X10_skips ((120 : Int32)) u9 (fun r13 u12 => (if r13 = 0 then (∀ u15 : Mm, u15 = up2 u12 0 7 (0 : Int32) → (∀ u16 : Mm, u16 = up2 u15 0 8 ((u15 0 8) + (1 : Int32)) → (Φ () u16))) else (vp_in ((4 : Int32) * (u0 0 8)) 200 ∧ ∀ u17 : Mm, u17 = up2 u12 5 ((4 : Int32) * (u0 0 8)).toNatClampNeg (3 : Int32) → (w_X10_digit ((0 : Int32)) (((u0 1 (1 : Int32).toNatClampNeg) - (1 : Int32))) u17 (fun r19 u18 => (vp_in (((4 : Int32) * (u0 0 8)) + (1 : Int32)) 200 ∧ ∀ u20 : Mm, u20 = up2 u18 5 (((4 : Int32) * (u0 0 8)) + (1 : Int32)).toNatClampNeg r19 → (∀ u21 : Mm, u21 = up2 u20 0 8 ((u20 0 8) + (1 : Int32)) → (Φ () u21))))))))) else (vp_in ((4 : Int32) * (u0 0 8)) 200 ∧ ∀ u22 : Mm, u22 = up2 u9 5 ((4 : Int32) * (u0 0 8)).toNatClampNeg (2 : Int32) → (w_X10_number ((1 : Int32)) u22 (fun r24 u23 => (vp_in (((4 : Int32) * (u0 0 8)) + (1 : Int32)) 200 ∧ ∀ u25 : Mm, u25 = up2 u23 5 (((4 : Int32) * (u0 0 8)) + (1 : Int32)).toNatClampNeg r24 → (∀ u26 : Mm, u26 = up2 u25 0 8 ((u25 0 8) + (1 : Int32)) → (Φ () u26))))))))) else (vp_in ((4 : Int32) * (u0 0 8)) 200 ∧ ∀ u27 : Mm, u27 = up2 u6 5 ((4 : Int32) * (u0 0 8)).toNatClampNeg (1 : Int32) → (w_X10_digit ((0 : Int32)) (((u0 1 (1 : Int32).toNatClampNeg) - (1 : Int32))) u27 (fun r29 u28 => (vp_in (((4 : Int32) * (u0 0 8)) + (1 : Int32)) 200 ∧ ∀ u30 : Mm, u30 = up2 u28 5 (((4 : Int32) * (u0 0 8)) + (1 : Int32)).toNatClampNeg r29 → (w_X10_skips ((110 : Int32)) u30 (fun r32 u31 => (isB r32 ∧ ∀ u33 : Mm, u33 = up2 u31 0 7 r32 → (w_X10_number ((0 : Int32)) u33 (fun r35 u34 => (vp_in (((4 : Int32) * (u0 0 8)) + (2 : Int32)) 200 ∧ ∀ u36 : Mm, u36 = up2 u34 5 (((4 : Int32) * (u0 0 8)) + (2 : Int32)).toNatClampNeg r35 → (∀ u37 : Mm, u37 = up2 u36 0 8 ((u36 0 8) + (1 : Int32)) → (Φ () u37))))))))))))))) else (vp_in ((4 : Int32) * (u0 0 8)) 200 ∧ ∀ u38 : Mm, u38 = up2 u3 5 ((4 : Int32) * (u0 0 8)).toNatClampNeg (0 : Int32) → (w_X10_digit ((0 : Int32)) (((u0 1 (1 : Int32).toNatClampNeg) - (1 : Int32))) u38 (fun r40 u39 => (vp_in (((4 : Int32) * (u0 0 8)) + (1 : Int32)) 200 ∧ ∀ u41 : Mm, u41 = up2 u39 5 (((4 : Int32) * (u0 0 8)) + (1 : Int32)).toNatClampNeg r40 → (w_X10_skips ((112 : Int32)) u41 (fun r43 u42 => (if r43 = 0 then (w_X10_readOrder_89 Φ (((4 : Int32) * (u0 0 8))) ((-1 : Int32)) ((((4 : Int32) * (u0 0 8)) + (2 : Int32))) u42) else (w_X10_number ((0 : Int32)) u42 (fun r54 u53 => (w_X10_readOrder_89 Φ (((4 : Int32) * (u0 0 8))) r54 ((((4 : Int32) * (u0 0 8)) + (2 : Int32))) u53)))))))))))))))
set_option maxHeartbeats 4000000 in
set_option maxRecDepth 100000 in
theorem t_X10_readOrder_0 {p : Program} {l : Launch} {e : Env} {s : State} {m : MethodId} {args : Array Value} {below : List Frame} {meth : Method} {c : Code} {D : va_G} {cA : Nat → ClassId} {o : Nat}  {Φ : Unit → Mm → Prop} (C : Cx p m meth c s args cX10_readOrder 3 wsX10_readOrder RX10 none D (tysL cA)) : ∀  (u0 : Mm), ∀ (H : Heap) (locs : List Loc) (ls : Array Slot), Hp 6 o D (EM cA o u0) s H locs → lv_has ls 3 [(0, .ref (o + 0))] → w_X10_readOrder u0 Φ → W p l e rm_X10_readOrder s m args below meth c H locs 0 0 (MQ below (Qg vV Φ (fun μ => Wd 6 o D (tysL cA) (EM cA o μ)) (aA o 6)) args s 0 0 (aA o 6)) (F0 m 0 ls []) := by
  intro u0 H locs ls P hl h
  have hx := C.1.1
  have hb := C.1.2.1
  unfold w_X10_readOrder at h
  refine lv_iconst (v := 4) hx hb dX10_readOrder_0 (by decide) ?_
  refine lv_aload_n hx hb dX10_readOrder_1 rfl (lv_at hl 0 rfl) ?_
  refine g_10_8 C P in_X10_readOrder_10 wd_X10_readOrder_1 dX10_readOrder_2 ?_
  refine lv_imul hx hb dX10_readOrder_5 ?_
  refine lv_istore_n (lv' := [(1, .int ((4 : Int32) * (u0 0 8))), (0, .ref (o + 0))]) hx hb dX10_readOrder_6 rfl hl (by decide) rfl (fun ls hl => ?_)
  refine lv_aload_n hx hb dX10_readOrder_7 rfl (lv_at hl 1 rfl) ?_
  refine g_10_0 C P in_X10_readOrder_10 wd_X10_readOrder_2 dX10_readOrder_8 ?_
  refine lv_iconst (v := 1) hx hb dX10_readOrder_11 (by decide) ?_
  refine mld_1 C P (by unfold vp_in; decide) dX10_readOrder_12 ?_
  refine lv_iconst (v := 1) hx hb dX10_readOrder_13 (by decide) ?_
  refine lv_isub hx hb dX10_readOrder_14 ?_
  refine lv_istore_n (lv' := [(2, .int ((u0 1 (1 : Int32).toNatClampNeg) - (1 : Int32))), (1, .int ((4 : Int32) * (u0 0 8))), (0, .ref (o + 0))]) hx hb dX10_readOrder_15 rfl hl (by decide) rfl (fun ls hl => ?_)
  refine lv_aload_n hx hb dX10_readOrder_16 rfl (lv_at hl 2 rfl) ?_
  refine g_10_9 C P in_X10_readOrder_10 wd_X10_readOrder_3 dX10_readOrder_17 ?_
  refine lv_iload_n hx hb dX10_readOrder_20 rfl (lv_at hl 1 rfl) ?_
  refine lv_iconst (v := 2) hx hb dX10_readOrder_21 (by decide) ?_
  refine lv_iadd hx hb dX10_readOrder_22 ?_
  refine lv_iconst (v := -1) hx hb dX10_readOrder_23 (by decide) ?_
  obtain ⟨hi, h⟩ := h
  refine mst_5 C P hi dX10_readOrder_24 (fun u1 eu1 H locs P => ?_)
  have h := h u1 eu1
  refine lv_aload_n hx hb dX10_readOrder_25 rfl (lv_at hl 2 rfl) ?_
  refine g_10_9 C P in_X10_readOrder_10 wd_X10_readOrder_3 dX10_readOrder_26 ?_
  refine lv_iload_n hx hb dX10_readOrder_29 rfl (lv_at hl 1 rfl) ?_
  refine lv_iconst (v := 3) hx hb dX10_readOrder_30 (by decide) ?_
  refine lv_iadd hx hb dX10_readOrder_31 ?_
  refine lv_iconst (v := 0) hx hb dX10_readOrder_32 (by decide) ?_
  obtain ⟨hi, h⟩ := h
  refine mst_5 C P hi dX10_readOrder_33 (fun u2 eu2 H locs P => ?_)
  have h := h u2 eu2
  refine lv_aload_n hx hb dX10_readOrder_34 rfl (lv_at hl 2 rfl) ?_
  refine lv_bipush (v := 105) hx hb dX10_readOrder_35 (by decide) ?_
  refine r_calli (F := EM cA o) (va_runV (As := [.int (105 : Int32)]) (rest := []) C.1 (c_X10_skips l D cA o _ u2 _ h) (cwV 1 C.1.2.2.2.2 gX10_readOrder_X10_skips rfl rfl rfl (by decide +kernel) ⟨Nat.le_of_ble_eq_true rfl, Nat.le_of_ble_eq_true rfl⟩) (r_preV C P [.int (105 : Int32)] (ci := 10) rfl (by decide) EKM_0) rfl rfl hl.1 rfl (lv_room (Nat.le_of_ble_eq_true rfl)) dX10_readOrder_37 ⟨Nat.le_of_ble_eq_true rfl, Nat.le_of_ble_eq_true rfl⟩) P.2 (fun r4 u3 H locs h P => ?_)
  refine lv_if_eq (tgt := 115) hx hb dX10_readOrder_40 (by decide) (fun c5 => ?_) (fun c5 => ?_)
  · have h := ite_t h c5
    refine lv_aload_n hx hb dX10_readOrder_115 rfl (lv_at hl 2 rfl) ?_
    refine lv_bipush (v := 111) hx hb dX10_readOrder_116 (by decide) ?_
    refine r_calli (F := EM cA o) (va_runV (As := [.int (111 : Int32)]) (rest := []) C.1 (c_X10_skips l D cA o _ u3 _ h) (cwV 1 C.1.2.2.2.2 gX10_readOrder_X10_skips rfl rfl rfl (by decide +kernel) ⟨Nat.le_of_ble_eq_true rfl, Nat.le_of_ble_eq_true rfl⟩) (r_preV C P [.int (111 : Int32)] (ci := 10) rfl (by decide) EKM_0) rfl rfl hl.1 rfl (lv_room (Nat.le_of_ble_eq_true rfl)) dX10_readOrder_118 ⟨Nat.le_of_ble_eq_true rfl, Nat.le_of_ble_eq_true rfl⟩) P.2 (fun r7 u6 H locs h P => ?_)
    refine lv_if_eq (tgt := 171) hx hb dX10_readOrder_121 (by decide) (fun c8 => ?_) (fun c8 => ?_)
    · have h := ite_t h c8
      refine lv_aload_n hx hb dX10_readOrder_171 rfl (lv_at hl 2 rfl) ?_
      refine lv_bipush (v := 116) hx hb dX10_readOrder_172 (by decide) ?_
      refine r_calli (F := EM cA o) (va_runV (As := [.int (116 : Int32)]) (rest := []) C.1 (c_X10_skips l D cA o _ u6 _ h) (cwV 1 C.1.2.2.2.2 gX10_readOrder_X10_skips rfl rfl rfl (by decide +kernel) ⟨Nat.le_of_ble_eq_true rfl, Nat.le_of_ble_eq_true rfl⟩) (r_preV C P [.int (116 : Int32)] (ci := 10) rfl (by decide) EKM_0) rfl rfl hl.1 rfl (lv_room (Nat.le_of_ble_eq_true rfl)) dX10_readOrder_174 ⟨Nat.le_of_ble_eq_true rfl, Nat.le_of_ble_eq_true rfl⟩) P.2 (fun r10 u9 H locs h P => ?_)
      refine lv_if_eq (tgt := 203) hx hb dX10_readOrder_177 (by decide) (fun c11 => ?_) (fun c11 => ?_)
      · have h := ite_t h c11
        refine lv_aload_n hx hb dX10_readOrder_203 rfl (lv_at hl 2 rfl) ?_
        refine lv_bipush (v := 120) hx hb dX10_readOrder_204 (by decide) ?_
        refine r_calli (F := EM cA o) (va_runV (As := [.int (120 : Int32)]) (rest := []) C.1 (c_X10_skips l D cA o _ u9 _ h) (cwV 1 C.1.2.2.2.2 gX10_readOrder_X10_skips rfl rfl rfl (by decide +kernel) ⟨Nat.le_of_ble_eq_true rfl, Nat.le_of_ble_eq_true rfl⟩) (r_preV C P [.int (120 : Int32)] (ci := 10) rfl (by decide) EKM_0) rfl rfl hl.1 rfl (lv_room (Nat.le_of_ble_eq_true rfl)) dX10_readOrder_206 ⟨Nat.le_of_ble_eq_true rfl, Nat.le_of_ble_eq_true rfl⟩) P.2 (fun r13 u12 H locs h P => ?_)
        refine lv_if_eq (tgt := 236) hx hb dX10_readOrder_209 (by decide) (fun c14 => ?_) (fun c14 => ?_)
        · have h := ite_t h c14
          refine lv_aload_n hx hb dX10_readOrder_236 rfl (lv_at hl 2 rfl) ?_
          refine lv_iconst (v := 0) hx hb dX10_readOrder_237 (by decide) ?_
          refine p_10_7 C P in_X10_readOrder_10 wd_X10_readOrder_4 (Or.inl rfl) dX10_readOrder_238 (fun u15 eu15 H locs P => ?_)
          have h := h u15 eu15
          refine lv_aload_n hx hb dX10_readOrder_241 rfl (lv_at hl 2 rfl) ?_
          refine lv_dup hx hb dX10_readOrder_242 rfl ?_
          refine g_10_8 C P in_X10_readOrder_10 wd_X10_readOrder_1 dX10_readOrder_243 ?_
          refine lv_iconst (v := 1) hx hb dX10_readOrder_246 (by decide) ?_
          refine lv_iadd hx hb dX10_readOrder_247 ?_
          refine p_10_8 C P in_X10_readOrder_10 wd_X10_readOrder_1 dX10_readOrder_248 (fun u16 eu16 H locs P => ?_)
          have h := h u16 eu16
          exact r_ret C P h dX10_readOrder_251
        · have h := ite_f h c14
          refine lv_aload_n hx hb dX10_readOrder_212 rfl (lv_at hl 2 rfl) ?_
          refine g_10_9 C P in_X10_readOrder_10 wd_X10_readOrder_3 dX10_readOrder_213 ?_
          refine lv_iload_n hx hb dX10_readOrder_216 rfl (lv_at hl 1 rfl) ?_
          refine lv_iconst (v := 3) hx hb dX10_readOrder_217 (by decide) ?_
          obtain ⟨hi, h⟩ := h
          refine mst_5 C P hi dX10_readOrder_218 (fun u17 eu17 H locs P => ?_)
          have h := h u17 eu17
          refine lv_aload_n hx hb dX10_readOrder_219 rfl (lv_at hl 2 rfl) ?_
          refine g_10_9 C P in_X10_readOrder_10 wd_X10_readOrder_3 dX10_readOrder_220 ?_
          refine lv_iload_n hx hb dX10_readOrder_223 rfl (lv_at hl 1 rfl) ?_
          refine lv_iconst (v := 1) hx hb dX10_readOrder_224 (by decide) ?_
          refine lv_iadd hx hb dX10_readOrder_225 ?_
          refine lv_aload_n hx hb dX10_readOrder_226 rfl (lv_at hl 2 rfl) ?_
          refine lv_iconst (v := 0) hx hb dX10_readOrder_227 (by decide) ?_
          refine lv_iload_n hx hb dX10_readOrder_228 rfl (lv_at hl 0 rfl) ?_
          refine r_calli (F := EM cA o) (va_runV (As := [.int (0 : Int32), .int ((u0 1 (1 : Int32).toNatClampNeg) - (1 : Int32))]) (rest := [.int (((4 : Int32) * (u0 0 8)) + (1 : Int32)), .ref (o + 5)]) C.1 (c_X10_digit l D cA o _ _ u17 _ h) (cwV 2 C.1.2.2.2.2 gX10_readOrder_X10_digit rfl rfl rfl (by decide +kernel) ⟨Nat.le_of_ble_eq_true rfl, Nat.le_of_ble_eq_true rfl⟩) (r_preV C P [.int (0 : Int32), .int ((u0 1 (1 : Int32).toNatClampNeg) - (1 : Int32))] (ci := 10) rfl (by decide) EKM_0) rfl rfl hl.1 rfl (lv_room (Nat.le_of_ble_eq_true rfl)) dX10_readOrder_229 ⟨Nat.le_of_ble_eq_true rfl, Nat.le_of_ble_eq_true rfl⟩) P.2 (fun r19 u18 H locs h P => ?_)
          obtain ⟨hi, h⟩ := h
          refine mst_5 C P hi dX10_readOrder_232 (fun u20 eu20 H locs P => ?_)
          have h := h u20 eu20
          refine lv_goto (tgt := 241) hx hb dX10_readOrder_233 (by decide) ?_
          refine lv_aload_n hx hb dX10_readOrder_241 rfl (lv_at hl 2 rfl) ?_
          refine lv_dup hx hb dX10_readOrder_242 rfl ?_
          refine g_10_8 C P in_X10_readOrder_10 wd_X10_readOrder_1 dX10_readOrder_243 ?_
          refine lv_iconst (v := 1) hx hb dX10_readOrder_246 (by decide) ?_
          refine lv_iadd hx hb dX10_readOrder_247 ?_
          refine p_10_8 C P in_X10_readOrder_10 wd_X10_readOrder_1 dX10_readOrder_248 (fun u21 eu21 H locs P => ?_)
          have h := h u21 eu21
          exact r_ret C P h dX10_readOrder_251
      · have h := ite_f h c11
        refine lv_aload_n hx hb dX10_readOrder_180 rfl (lv_at hl 2 rfl) ?_
        refine g_10_9 C P in_X10_readOrder_10 wd_X10_readOrder_3 dX10_readOrder_181 ?_
        refine lv_iload_n hx hb dX10_readOrder_184 rfl (lv_at hl 1 rfl) ?_
        refine lv_iconst (v := 2) hx hb dX10_readOrder_185 (by decide) ?_
        obtain ⟨hi, h⟩ := h
        refine mst_5 C P hi dX10_readOrder_186 (fun u22 eu22 H locs P => ?_)
        have h := h u22 eu22
        refine lv_aload_n hx hb dX10_readOrder_187 rfl (lv_at hl 2 rfl) ?_
        refine g_10_9 C P in_X10_readOrder_10 wd_X10_readOrder_3 dX10_readOrder_188 ?_
        refine lv_iload_n hx hb dX10_readOrder_191 rfl (lv_at hl 1 rfl) ?_
        refine lv_iconst (v := 1) hx hb dX10_readOrder_192 (by decide) ?_
        refine lv_iadd hx hb dX10_readOrder_193 ?_
        refine lv_aload_n hx hb dX10_readOrder_194 rfl (lv_at hl 2 rfl) ?_
        refine lv_iconst (v := 1) hx hb dX10_readOrder_195 (by decide) ?_
        refine r_calli (F := EM cA o) (va_runV (As := [.int (1 : Int32)]) (rest := [.int (((4 : Int32) * (u0 0 8)) + (1 : Int32)), .ref (o + 5)]) C.1 (c_X10_number l D cA o _ u22 _ h) (cwV 1 C.1.2.2.2.2 gX10_readOrder_X10_number rfl rfl rfl (by decide +kernel) ⟨Nat.le_of_ble_eq_true rfl, Nat.le_of_ble_eq_true rfl⟩) (r_preV C P [.int (1 : Int32)] (ci := 10) rfl (by decide) EKM_0) rfl rfl hl.1 rfl (lv_room (Nat.le_of_ble_eq_true rfl)) dX10_readOrder_196 ⟨Nat.le_of_ble_eq_true rfl, Nat.le_of_ble_eq_true rfl⟩) P.2 (fun r24 u23 H locs h P => ?_)
        obtain ⟨hi, h⟩ := h
        refine mst_5 C P hi dX10_readOrder_199 (fun u25 eu25 H locs P => ?_)
        have h := h u25 eu25
        refine lv_goto (tgt := 241) hx hb dX10_readOrder_200 (by decide) ?_
        refine lv_aload_n hx hb dX10_readOrder_241 rfl (lv_at hl 2 rfl) ?_
        refine lv_dup hx hb dX10_readOrder_242 rfl ?_
        refine g_10_8 C P in_X10_readOrder_10 wd_X10_readOrder_1 dX10_readOrder_243 ?_
        refine lv_iconst (v := 1) hx hb dX10_readOrder_246 (by decide) ?_
        refine lv_iadd hx hb dX10_readOrder_247 ?_
        refine p_10_8 C P in_X10_readOrder_10 wd_X10_readOrder_1 dX10_readOrder_248 (fun u26 eu26 H locs P => ?_)
        have h := h u26 eu26
        exact r_ret C P h dX10_readOrder_251
    · have h := ite_f h c8
      refine lv_aload_n hx hb dX10_readOrder_124 rfl (lv_at hl 2 rfl) ?_
      refine g_10_9 C P in_X10_readOrder_10 wd_X10_readOrder_3 dX10_readOrder_125 ?_
      refine lv_iload_n hx hb dX10_readOrder_128 rfl (lv_at hl 1 rfl) ?_
      refine lv_iconst (v := 1) hx hb dX10_readOrder_129 (by decide) ?_
      obtain ⟨hi, h⟩ := h
      refine mst_5 C P hi dX10_readOrder_130 (fun u27 eu27 H locs P => ?_)
      have h := h u27 eu27
      refine lv_aload_n hx hb dX10_readOrder_131 rfl (lv_at hl 2 rfl) ?_
      refine g_10_9 C P in_X10_readOrder_10 wd_X10_readOrder_3 dX10_readOrder_132 ?_
      refine lv_iload_n hx hb dX10_readOrder_135 rfl (lv_at hl 1 rfl) ?_
      refine lv_iconst (v := 1) hx hb dX10_readOrder_136 (by decide) ?_
      refine lv_iadd hx hb dX10_readOrder_137 ?_
      refine lv_aload_n hx hb dX10_readOrder_138 rfl (lv_at hl 2 rfl) ?_
      refine lv_iconst (v := 0) hx hb dX10_readOrder_139 (by decide) ?_
      refine lv_iload_n hx hb dX10_readOrder_140 rfl (lv_at hl 0 rfl) ?_
      refine r_calli (F := EM cA o) (va_runV (As := [.int (0 : Int32), .int ((u0 1 (1 : Int32).toNatClampNeg) - (1 : Int32))]) (rest := [.int (((4 : Int32) * (u0 0 8)) + (1 : Int32)), .ref (o + 5)]) C.1 (c_X10_digit l D cA o _ _ u27 _ h) (cwV 2 C.1.2.2.2.2 gX10_readOrder_X10_digit rfl rfl rfl (by decide +kernel) ⟨Nat.le_of_ble_eq_true rfl, Nat.le_of_ble_eq_true rfl⟩) (r_preV C P [.int (0 : Int32), .int ((u0 1 (1 : Int32).toNatClampNeg) - (1 : Int32))] (ci := 10) rfl (by decide) EKM_0) rfl rfl hl.1 rfl (lv_room (Nat.le_of_ble_eq_true rfl)) dX10_readOrder_141 ⟨Nat.le_of_ble_eq_true rfl, Nat.le_of_ble_eq_true rfl⟩) P.2 (fun r29 u28 H locs h P => ?_)
      obtain ⟨hi, h⟩ := h
      refine mst_5 C P hi dX10_readOrder_144 (fun u30 eu30 H locs P => ?_)
      have h := h u30 eu30
      refine lv_aload_n hx hb dX10_readOrder_145 rfl (lv_at hl 2 rfl) ?_
      refine lv_aload_n hx hb dX10_readOrder_146 rfl (lv_at hl 2 rfl) ?_
      refine lv_bipush (v := 110) hx hb dX10_readOrder_147 (by decide) ?_
      refine r_calli (F := EM cA o) (va_runV (As := [.int (110 : Int32)]) (rest := [.ref (o + 0)]) C.1 (c_X10_skips l D cA o _ u30 _ h) (cwV 1 C.1.2.2.2.2 gX10_readOrder_X10_skips rfl rfl rfl (by decide +kernel) ⟨Nat.le_of_ble_eq_true rfl, Nat.le_of_ble_eq_true rfl⟩) (r_preV C P [.int (110 : Int32)] (ci := 10) rfl (by decide) EKM_0) rfl rfl hl.1 rfl (lv_room (Nat.le_of_ble_eq_true rfl)) dX10_readOrder_149 ⟨Nat.le_of_ble_eq_true rfl, Nat.le_of_ble_eq_true rfl⟩) P.2 (fun r32 u31 H locs h P => ?_)
      obtain ⟨hB, h⟩ := h
      refine p_10_7 C P in_X10_readOrder_10 wd_X10_readOrder_4 hB dX10_readOrder_152 (fun u33 eu33 H locs P => ?_)
      have h := h u33 eu33
      refine lv_aload_n hx hb dX10_readOrder_155 rfl (lv_at hl 2 rfl) ?_
      refine g_10_9 C P in_X10_readOrder_10 wd_X10_readOrder_3 dX10_readOrder_156 ?_
      refine lv_iload_n hx hb dX10_readOrder_159 rfl (lv_at hl 1 rfl) ?_
      refine lv_iconst (v := 2) hx hb dX10_readOrder_160 (by decide) ?_
      refine lv_iadd hx hb dX10_readOrder_161 ?_
      refine lv_aload_n hx hb dX10_readOrder_162 rfl (lv_at hl 2 rfl) ?_
      refine lv_iconst (v := 0) hx hb dX10_readOrder_163 (by decide) ?_
      refine r_calli (F := EM cA o) (va_runV (As := [.int (0 : Int32)]) (rest := [.int (((4 : Int32) * (u0 0 8)) + (2 : Int32)), .ref (o + 5)]) C.1 (c_X10_number l D cA o _ u33 _ h) (cwV 1 C.1.2.2.2.2 gX10_readOrder_X10_number rfl rfl rfl (by decide +kernel) ⟨Nat.le_of_ble_eq_true rfl, Nat.le_of_ble_eq_true rfl⟩) (r_preV C P [.int (0 : Int32)] (ci := 10) rfl (by decide) EKM_0) rfl rfl hl.1 rfl (lv_room (Nat.le_of_ble_eq_true rfl)) dX10_readOrder_164 ⟨Nat.le_of_ble_eq_true rfl, Nat.le_of_ble_eq_true rfl⟩) P.2 (fun r35 u34 H locs h P => ?_)
      obtain ⟨hi, h⟩ := h
      refine mst_5 C P hi dX10_readOrder_167 (fun u36 eu36 H locs P => ?_)
      have h := h u36 eu36
      refine lv_goto (tgt := 241) hx hb dX10_readOrder_168 (by decide) ?_
      refine lv_aload_n hx hb dX10_readOrder_241 rfl (lv_at hl 2 rfl) ?_
      refine lv_dup hx hb dX10_readOrder_242 rfl ?_
      refine g_10_8 C P in_X10_readOrder_10 wd_X10_readOrder_1 dX10_readOrder_243 ?_
      refine lv_iconst (v := 1) hx hb dX10_readOrder_246 (by decide) ?_
      refine lv_iadd hx hb dX10_readOrder_247 ?_
      refine p_10_8 C P in_X10_readOrder_10 wd_X10_readOrder_1 dX10_readOrder_248 (fun u37 eu37 H locs P => ?_)
      have h := h u37 eu37
      exact r_ret C P h dX10_readOrder_251
  · have h := ite_f h c5
    refine lv_aload_n hx hb dX10_readOrder_43 rfl (lv_at hl 2 rfl) ?_
    refine g_10_9 C P in_X10_readOrder_10 wd_X10_readOrder_3 dX10_readOrder_44 ?_
    refine lv_iload_n hx hb dX10_readOrder_47 rfl (lv_at hl 1 rfl) ?_
    refine lv_iconst (v := 0) hx hb dX10_readOrder_48 (by decide) ?_
    obtain ⟨hi, h⟩ := h
    refine mst_5 C P hi dX10_readOrder_49 (fun u38 eu38 H locs P => ?_)
    have h := h u38 eu38
    refine lv_aload_n hx hb dX10_readOrder_50 rfl (lv_at hl 2 rfl) ?_
    refine g_10_9 C P in_X10_readOrder_10 wd_X10_readOrder_3 dX10_readOrder_51 ?_
    refine lv_iload_n hx hb dX10_readOrder_54 rfl (lv_at hl 1 rfl) ?_
    refine lv_iconst (v := 1) hx hb dX10_readOrder_55 (by decide) ?_
    refine lv_iadd hx hb dX10_readOrder_56 ?_
    refine lv_aload_n hx hb dX10_readOrder_57 rfl (lv_at hl 2 rfl) ?_
    refine lv_iconst (v := 0) hx hb dX10_readOrder_58 (by decide) ?_
    refine lv_iload_n hx hb dX10_readOrder_59 rfl (lv_at hl 0 rfl) ?_
    refine r_calli (F := EM cA o) (va_runV (As := [.int (0 : Int32), .int ((u0 1 (1 : Int32).toNatClampNeg) - (1 : Int32))]) (rest := [.int (((4 : Int32) * (u0 0 8)) + (1 : Int32)), .ref (o + 5)]) C.1 (c_X10_digit l D cA o _ _ u38 _ h) (cwV 2 C.1.2.2.2.2 gX10_readOrder_X10_digit rfl rfl rfl (by decide +kernel) ⟨Nat.le_of_ble_eq_true rfl, Nat.le_of_ble_eq_true rfl⟩) (r_preV C P [.int (0 : Int32), .int ((u0 1 (1 : Int32).toNatClampNeg) - (1 : Int32))] (ci := 10) rfl (by decide) EKM_0) rfl rfl hl.1 rfl (lv_room (Nat.le_of_ble_eq_true rfl)) dX10_readOrder_60 ⟨Nat.le_of_ble_eq_true rfl, Nat.le_of_ble_eq_true rfl⟩) P.2 (fun r40 u39 H locs h P => ?_)
    obtain ⟨hi, h⟩ := h
    refine mst_5 C P hi dX10_readOrder_63 (fun u41 eu41 H locs P => ?_)
    have h := h u41 eu41
    refine lv_aload_n hx hb dX10_readOrder_64 rfl (lv_at hl 2 rfl) ?_
    refine g_10_9 C P in_X10_readOrder_10 wd_X10_readOrder_3 dX10_readOrder_65 ?_
    refine lv_iload_n hx hb dX10_readOrder_68 rfl (lv_at hl 1 rfl) ?_
    refine lv_iconst (v := 2) hx hb dX10_readOrder_69 (by decide) ?_
    refine lv_iadd hx hb dX10_readOrder_70 ?_
    refine lv_aload_n hx hb dX10_readOrder_71 rfl (lv_at hl 2 rfl) ?_
    refine lv_bipush (v := 112) hx hb dX10_readOrder_72 (by decide) ?_
    refine r_calli (F := EM cA o) (va_runV (As := [.int (112 : Int32)]) (rest := [.int (((4 : Int32) * (u0 0 8)) + (2 : Int32)), .ref (o + 5)]) C.1 (c_X10_skips l D cA o _ u41 _ h) (cwV 1 C.1.2.2.2.2 gX10_readOrder_X10_skips rfl rfl rfl (by decide +kernel) ⟨Nat.le_of_ble_eq_true rfl, Nat.le_of_ble_eq_true rfl⟩) (r_preV C P [.int (112 : Int32)] (ci := 10) rfl (by decide) EKM_0) rfl rfl hl.1 rfl (lv_room (Nat.le_of_ble_eq_true rfl)) dX10_readOrder_74 ⟨Nat.le_of_ble_eq_true rfl, Nat.le_of_ble_eq_true rfl⟩) P.2 (fun r43 u42 H locs h P => ?_)
    refine lv_if_eq (tgt := 88) hx hb dX10_readOrder_77 (by decide) (fun c44 => ?_) (fun c44 => ?_)
    · have h := ite_t h c44
      refine lv_iconst (v := -1) hx hb dX10_readOrder_88 (by decide) ?_
      exact t_X10_readOrder_89 C _ _ _ u42 _ _ _ P (lv_sub hl [2, 1] rfl) h
    · have h := ite_f h c44
      refine lv_aload_n hx hb dX10_readOrder_80 rfl (lv_at hl 2 rfl) ?_
      refine lv_iconst (v := 0) hx hb dX10_readOrder_81 (by decide) ?_
      refine r_calli (F := EM cA o) (va_runV (As := [.int (0 : Int32)]) (rest := [.int (((4 : Int32) * (u0 0 8)) + (2 : Int32)), .ref (o + 5)]) C.1 (c_X10_number l D cA o _ u42 _ h) (cwV 1 C.1.2.2.2.2 gX10_readOrder_X10_number rfl rfl rfl (by decide +kernel) ⟨Nat.le_of_ble_eq_true rfl, Nat.le_of_ble_eq_true rfl⟩) (r_preV C P [.int (0 : Int32)] (ci := 10) rfl (by decide) EKM_0) rfl rfl hl.1 rfl (lv_room (Nat.le_of_ble_eq_true rfl)) dX10_readOrder_82 ⟨Nat.le_of_ble_eq_true rfl, Nat.le_of_ble_eq_true rfl⟩) P.2 (fun r54 u53 H locs h P => ?_)
      refine lv_goto (tgt := 89) hx hb dX10_readOrder_85 (by decide) ?_
      exact t_X10_readOrder_89 C _ _ _ u53 _ _ _ P (lv_sub hl [2, 1] rfl) h
set_option maxHeartbeats 4000000 in
set_option maxRecDepth 100000 in
theorem c_X10_readOrder (l : Launch) (D : va_G) (cA : Nat → ClassId) (o : Nat)   (u0 : Mm) (Φ : Unit → Mm → Prop) (h : w_X10_readOrder u0 Φ) : Met l yX10_readOrder wsX10_readOrder rm_X10_readOrder (va_Pc [.ref (o + 0)] (Wd 6 o D (tysL cA) (EM cA o u0))) (Qg vV Φ (fun μ => Wd 6 o D (tysL cA) (EM cA o μ)) (aA o 6)) 0 0 (aA o 6) := by
  refine Met.ofW (cc := cX10_readOrder) (maxL := 3) (ret := none) (by decide) rfl ?_
  intro p e s m args below meth c s₁ B hml hv
  obtain ⟨rfl, hv⟩ := hv
  have hl := lv_entry ([.ref (o + 0)]) (n := 3) (Nat.le_of_ble_eq_true rfl)
  rw [lg_entry_eq]
  exact t_X10_readOrder_0 ⟨⟨B.exec, B.bytes, hml, findClass_of_methodNamed B.named, atoms_spec (ws := wsX10_readOrder) B.pre⟩, B.returns, B.notSynchronized, hv.2⟩ u0 _ _ _ ⟨hv.1, va_S.rf⟩ hl h
abbrev rm_X10_carryOut : Room := { frames := 8, cells := 0, slots := 0, locals := 186 }
theorem wd_X10_carryOut_1 : Cond.fieldLink RX10 23 "TurnstileBankModel" "orderOf" "[I" ∈ wsX10_carryOut := List.mem_of_getElem? (i := 1) (by decide +kernel)
theorem in_X10_carryOut_10 : ∀ w ∈ wsX100, w ∈ wsX10_carryOut := fun w h => List.mem_cons_of_mem _ (List.mem_append_right _ h)
def w_X10_carryOut (a1 : Int32) (u0 : Mm) (Φ : Int32 → Mm → Prop) : Prop := (vp_in a1 200 ∧ (if (u0 5 a1.toNatClampNeg) = 0 then (vp_in (a1 + (1 : Int32)) 200 ∧ (vp_in (a1 + (2 : Int32)) 200 ∧ (vp_in (a1 + (3 : Int32)) 200 ∧ (if (u0 5 (a1 + (3 : Int32)).toNatClampNeg) = (1 : Int32) then (w_X10_doEnter ((u0 5 (a1 + (1 : Int32)).toNatClampNeg)) ((u0 5 (a1 + (2 : Int32)).toNatClampNeg)) ((1 : Int32)) u0 (fun r5 u4 => (Φ r5 u4))) else (w_X10_doEnter ((u0 5 (a1 + (1 : Int32)).toNatClampNeg)) ((u0 5 (a1 + (2 : Int32)).toNatClampNeg)) ((0 : Int32)) u0 (fun r3 u2 => (Φ r3 u2))))))) else (if (u0 5 a1.toNatClampNeg) = 1 then (vp_in (a1 + (1 : Int32)) 200 ∧ (vp_in (a1 + (2 : Int32)) 200 ∧ (w_X10_doExit ((u0 5 (a1 + (1 : Int32)).toNatClampNeg)) ((u0 5 (a1 + (2 : Int32)).toNatClampNeg)) u0 (fun r8 u7 => (Φ r8 u7))))) else (if (u0 5 a1.toNatClampNeg) = 2 then (vp_in (a1 + (1 : Int32)) 200 ∧ (w_X10_doPass ((u0 5 (a1 + (1 : Int32)).toNatClampNeg)) u0 (fun r11 u10 => (Φ r11 u10)))) else (vp_in (a1 + (1 : Int32)) 200 ∧ (w_X10_doPinch ((u0 5 (a1 + (1 : Int32)).toNatClampNeg)) u0 (fun r14 u13 => (Φ r14 u13))))))))
set_option maxHeartbeats 4000000 in
set_option maxRecDepth 100000 in
theorem t_X10_carryOut_0 {p : Program} {l : Launch} {e : Env} {s : State} {m : MethodId} {args : Array Value} {below : List Frame} {meth : Method} {c : Code} {D : va_G} {cA : Nat → ClassId} {o : Nat}  {Φ : Int32 → Mm → Prop} (C : Cx p m meth c s args cX10_carryOut 2 wsX10_carryOut RX10 (some .int) D (tysL cA)) : ∀ (a1 : Int32) (u0 : Mm), ∀ (H : Heap) (locs : List Loc) (ls : Array Slot), Hp 6 o D (EM cA o u0) s H locs → lv_has ls 2 [(0, .ref (o + 0)), (1, .int a1)] → w_X10_carryOut a1 u0 Φ → W p l e rm_X10_carryOut s m args below meth c H locs 0 0 (MQ below (Qg vI Φ (fun μ => Wd 6 o D (tysL cA) (EM cA o μ)) (aA o 6)) args s 0 0 (aA o 6)) (F0 m 0 ls []) := by
  intro a1 u0 H locs ls P hl h
  have hx := C.1.1
  have hb := C.1.2.1
  unfold w_X10_carryOut at h
  refine lv_aload_n hx hb dX10_carryOut_0 rfl (lv_at hl 0 rfl) ?_
  refine g_10_9 C P in_X10_carryOut_10 wd_X10_carryOut_1 dX10_carryOut_1 ?_
  refine lv_iload_n hx hb dX10_carryOut_4 rfl (lv_at hl 1 rfl) ?_
  obtain ⟨hi, h⟩ := h
  refine mld_5 C P hi dX10_carryOut_5 ?_
  by_cases c6 : (u0 5 a1.toNatClampNeg) = 0
  · have h := ite_t h c6
    rw [c6]
    refine lv_tableIn (off := 26) (tgt := 32) hx hb dX10_carryOut_6 (by decide) (by decide) (by decide) (by decide) ?_
    refine lv_aload_n hx hb dX10_carryOut_32 rfl (lv_at hl 0 rfl) ?_
    refine lv_aload_n hx hb dX10_carryOut_33 rfl (lv_at hl 0 rfl) ?_
    refine g_10_9 C P in_X10_carryOut_10 wd_X10_carryOut_1 dX10_carryOut_34 ?_
    refine lv_iload_n hx hb dX10_carryOut_37 rfl (lv_at hl 1 rfl) ?_
    refine lv_iconst (v := 1) hx hb dX10_carryOut_38 (by decide) ?_
    refine lv_iadd hx hb dX10_carryOut_39 ?_
    obtain ⟨hi, h⟩ := h
    refine mld_5 C P hi dX10_carryOut_40 ?_
    refine lv_aload_n hx hb dX10_carryOut_41 rfl (lv_at hl 0 rfl) ?_
    refine g_10_9 C P in_X10_carryOut_10 wd_X10_carryOut_1 dX10_carryOut_42 ?_
    refine lv_iload_n hx hb dX10_carryOut_45 rfl (lv_at hl 1 rfl) ?_
    refine lv_iconst (v := 2) hx hb dX10_carryOut_46 (by decide) ?_
    refine lv_iadd hx hb dX10_carryOut_47 ?_
    obtain ⟨hi, h⟩ := h
    refine mld_5 C P hi dX10_carryOut_48 ?_
    refine lv_aload_n hx hb dX10_carryOut_49 rfl (lv_at hl 0 rfl) ?_
    refine g_10_9 C P in_X10_carryOut_10 wd_X10_carryOut_1 dX10_carryOut_50 ?_
    refine lv_iload_n hx hb dX10_carryOut_53 rfl (lv_at hl 1 rfl) ?_
    refine lv_iconst (v := 3) hx hb dX10_carryOut_54 (by decide) ?_
    refine lv_iadd hx hb dX10_carryOut_55 ?_
    obtain ⟨hi, h⟩ := h
    refine mld_5 C P hi dX10_carryOut_56 ?_
    refine lv_iconst (v := 1) hx hb dX10_carryOut_57 (by decide) ?_
    refine lv_icmp_ne (tgt := 65) hx hb dX10_carryOut_58 (by decide) (fun c1 => ?_) (fun c1 => ?_)
    · have h := ite_f h c1
      refine lv_iconst (v := 0) hx hb dX10_carryOut_65 (by decide) ?_
      refine r_calli (F := EM cA o) (va_runV (As := [.int (u0 5 (a1 + (1 : Int32)).toNatClampNeg), .int (u0 5 (a1 + (2 : Int32)).toNatClampNeg), .int (0 : Int32)]) (rest := []) C.1 (c_X10_doEnter l D cA o _ _ _ u0 _ h) (cwV 3 C.1.2.2.2.2 gX10_carryOut_X10_doEnter rfl rfl rfl (by decide +kernel) ⟨Nat.le_of_ble_eq_true rfl, Nat.le_of_ble_eq_true rfl⟩) (r_preV C P [.int (u0 5 (a1 + (1 : Int32)).toNatClampNeg), .int (u0 5 (a1 + (2 : Int32)).toNatClampNeg), .int (0 : Int32)] (ci := 10) rfl (by decide) EKM_0) rfl rfl hl.1 rfl (lv_room (Nat.le_of_ble_eq_true rfl)) dX10_carryOut_66 ⟨Nat.le_of_ble_eq_true rfl, Nat.le_of_ble_eq_true rfl⟩) P.2 (fun r3 u2 H locs h P => ?_)
      exact r_ireti C P h dX10_carryOut_69
    · have h := ite_t h c1
      refine lv_iconst (v := 1) hx hb dX10_carryOut_61 (by decide) ?_
      refine lv_goto (tgt := 66) hx hb dX10_carryOut_62 (by decide) ?_
      refine r_calli (F := EM cA o) (va_runV (As := [.int (u0 5 (a1 + (1 : Int32)).toNatClampNeg), .int (u0 5 (a1 + (2 : Int32)).toNatClampNeg), .int (1 : Int32)]) (rest := []) C.1 (c_X10_doEnter l D cA o _ _ _ u0 _ h) (cwV 3 C.1.2.2.2.2 gX10_carryOut_X10_doEnter rfl rfl rfl (by decide +kernel) ⟨Nat.le_of_ble_eq_true rfl, Nat.le_of_ble_eq_true rfl⟩) (r_preV C P [.int (u0 5 (a1 + (1 : Int32)).toNatClampNeg), .int (u0 5 (a1 + (2 : Int32)).toNatClampNeg), .int (1 : Int32)] (ci := 10) rfl (by decide) EKM_0) rfl rfl hl.1 rfl (lv_room (Nat.le_of_ble_eq_true rfl)) dX10_carryOut_66 ⟨Nat.le_of_ble_eq_true rfl, Nat.le_of_ble_eq_true rfl⟩) P.2 (fun r5 u4 H locs h P => ?_)
      exact r_ireti C P h dX10_carryOut_69
  have h := ite_f h c6
  by_cases c9 : (u0 5 a1.toNatClampNeg) = 1
  · have h := ite_t h c9
    rw [c9]
    refine lv_tableIn (off := 64) (tgt := 70) hx hb dX10_carryOut_6 (by decide) (by decide) (by decide) (by decide) ?_
    refine lv_aload_n hx hb dX10_carryOut_70 rfl (lv_at hl 0 rfl) ?_
    refine lv_aload_n hx hb dX10_carryOut_71 rfl (lv_at hl 0 rfl) ?_
    refine g_10_9 C P in_X10_carryOut_10 wd_X10_carryOut_1 dX10_carryOut_72 ?_
    refine lv_iload_n hx hb dX10_carryOut_75 rfl (lv_at hl 1 rfl) ?_
    refine lv_iconst (v := 1) hx hb dX10_carryOut_76 (by decide) ?_
    refine lv_iadd hx hb dX10_carryOut_77 ?_
    obtain ⟨hi, h⟩ := h
    refine mld_5 C P hi dX10_carryOut_78 ?_
    refine lv_aload_n hx hb dX10_carryOut_79 rfl (lv_at hl 0 rfl) ?_
    refine g_10_9 C P in_X10_carryOut_10 wd_X10_carryOut_1 dX10_carryOut_80 ?_
    refine lv_iload_n hx hb dX10_carryOut_83 rfl (lv_at hl 1 rfl) ?_
    refine lv_iconst (v := 2) hx hb dX10_carryOut_84 (by decide) ?_
    refine lv_iadd hx hb dX10_carryOut_85 ?_
    obtain ⟨hi, h⟩ := h
    refine mld_5 C P hi dX10_carryOut_86 ?_
    refine r_calli (F := EM cA o) (va_runV (As := [.int (u0 5 (a1 + (1 : Int32)).toNatClampNeg), .int (u0 5 (a1 + (2 : Int32)).toNatClampNeg)]) (rest := []) C.1 (c_X10_doExit l D cA o _ _ u0 _ h) (cwV 2 C.1.2.2.2.2 gX10_carryOut_X10_doExit rfl rfl rfl (by decide +kernel) ⟨Nat.le_of_ble_eq_true rfl, Nat.le_of_ble_eq_true rfl⟩) (r_preV C P [.int (u0 5 (a1 + (1 : Int32)).toNatClampNeg), .int (u0 5 (a1 + (2 : Int32)).toNatClampNeg)] (ci := 10) rfl (by decide) EKM_0) rfl rfl hl.1 rfl (lv_room (Nat.le_of_ble_eq_true rfl)) dX10_carryOut_87 ⟨Nat.le_of_ble_eq_true rfl, Nat.le_of_ble_eq_true rfl⟩) P.2 (fun r8 u7 H locs h P => ?_)
    exact r_ireti C P h dX10_carryOut_90
  have h := ite_f h c9
  by_cases c12 : (u0 5 a1.toNatClampNeg) = 2
  · have h := ite_t h c12
    rw [c12]
    refine lv_tableIn (off := 85) (tgt := 91) hx hb dX10_carryOut_6 (by decide) (by decide) (by decide) (by decide) ?_
    refine lv_aload_n hx hb dX10_carryOut_91 rfl (lv_at hl 0 rfl) ?_
    refine lv_aload_n hx hb dX10_carryOut_92 rfl (lv_at hl 0 rfl) ?_
    refine g_10_9 C P in_X10_carryOut_10 wd_X10_carryOut_1 dX10_carryOut_93 ?_
    refine lv_iload_n hx hb dX10_carryOut_96 rfl (lv_at hl 1 rfl) ?_
    refine lv_iconst (v := 1) hx hb dX10_carryOut_97 (by decide) ?_
    refine lv_iadd hx hb dX10_carryOut_98 ?_
    obtain ⟨hi, h⟩ := h
    refine mld_5 C P hi dX10_carryOut_99 ?_
    refine r_calli (F := EM cA o) (va_runV (As := [.int (u0 5 (a1 + (1 : Int32)).toNatClampNeg)]) (rest := []) C.1 (c_X10_doPass l D cA o _ u0 _ h) (cwV 1 C.1.2.2.2.2 gX10_carryOut_X10_doPass rfl rfl rfl (by decide +kernel) ⟨Nat.le_of_ble_eq_true rfl, Nat.le_of_ble_eq_true rfl⟩) (r_preV C P [.int (u0 5 (a1 + (1 : Int32)).toNatClampNeg)] (ci := 10) rfl (by decide) EKM_0) rfl rfl hl.1 rfl (lv_room (Nat.le_of_ble_eq_true rfl)) dX10_carryOut_100 ⟨Nat.le_of_ble_eq_true rfl, Nat.le_of_ble_eq_true rfl⟩) P.2 (fun r11 u10 H locs h P => ?_)
    exact r_ireti C P h dX10_carryOut_103
  have h := ite_f h c12
  refine lv_tableOut (tgt := 104) hx hb dX10_carryOut_6 (by have q0 : ((u0 5 a1.toNatClampNeg)).toInt ≠ 0 := fun e => c6 (Int32.toInt_inj.mp e); have q1 : ((u0 5 a1.toNatClampNeg)).toInt ≠ 1 := fun e => c9 (Int32.toInt_inj.mp e); have q2 : ((u0 5 a1.toNatClampNeg)).toInt ≠ 2 := fun e => c12 (Int32.toInt_inj.mp e); omega) (by decide) ?_
  refine lv_aload_n hx hb dX10_carryOut_104 rfl (lv_at hl 0 rfl) ?_
  refine lv_aload_n hx hb dX10_carryOut_105 rfl (lv_at hl 0 rfl) ?_
  refine g_10_9 C P in_X10_carryOut_10 wd_X10_carryOut_1 dX10_carryOut_106 ?_
  refine lv_iload_n hx hb dX10_carryOut_109 rfl (lv_at hl 1 rfl) ?_
  refine lv_iconst (v := 1) hx hb dX10_carryOut_110 (by decide) ?_
  refine lv_iadd hx hb dX10_carryOut_111 ?_
  obtain ⟨hi, h⟩ := h
  refine mld_5 C P hi dX10_carryOut_112 ?_
  refine r_calli (F := EM cA o) (va_runV (As := [.int (u0 5 (a1 + (1 : Int32)).toNatClampNeg)]) (rest := []) C.1 (c_X10_doPinch l D cA o _ u0 _ h) (cwV 1 C.1.2.2.2.2 gX10_carryOut_X10_doPinch rfl rfl rfl (by decide +kernel) ⟨Nat.le_of_ble_eq_true rfl, Nat.le_of_ble_eq_true rfl⟩) (r_preV C P [.int (u0 5 (a1 + (1 : Int32)).toNatClampNeg)] (ci := 10) rfl (by decide) EKM_0) rfl rfl hl.1 rfl (lv_room (Nat.le_of_ble_eq_true rfl)) dX10_carryOut_113 ⟨Nat.le_of_ble_eq_true rfl, Nat.le_of_ble_eq_true rfl⟩) P.2 (fun r14 u13 H locs h P => ?_)
  exact r_ireti C P h dX10_carryOut_116
set_option maxHeartbeats 4000000 in
set_option maxRecDepth 100000 in
theorem c_X10_carryOut (l : Launch) (D : va_G) (cA : Nat → ClassId) (o : Nat) (a1 : Int32)  (u0 : Mm) (Φ : Int32 → Mm → Prop) (h : w_X10_carryOut a1 u0 Φ) : Met l yX10_carryOut wsX10_carryOut rm_X10_carryOut (va_Pc [.ref (o + 0), .int a1] (Wd 6 o D (tysL cA) (EM cA o u0))) (Qg vI Φ (fun μ => Wd 6 o D (tysL cA) (EM cA o μ)) (aA o 6)) 0 0 (aA o 6) := by
  refine Met.ofW (cc := cX10_carryOut) (maxL := 2) (ret := (some .int)) (by decide) rfl ?_
  intro p e s m args below meth c s₁ B hml hv
  obtain ⟨rfl, hv⟩ := hv
  have hl := lv_entry ([.ref (o + 0), .int a1]) (n := 2) (Nat.le_of_ble_eq_true rfl)
  rw [lg_entry_eq]
  exact t_X10_carryOut_0 ⟨⟨B.exec, B.bytes, hml, findClass_of_methodNamed B.named, atoms_spec (ws := wsX10_carryOut) B.pre⟩, B.returns, B.notSynchronized, hv.2⟩ a1 u0 _ _ _ ⟨hv.1, va_S.rf⟩ hl h
abbrev rm_X10_isError : Room := { frames := 0, cells := 0, slots := 0, locals := 0 }
def w_X10_isError (a0 : Int32) (u0 : Mm) (Φ : Int32 → Mm → Prop) : Prop := (if 0 ≤ a0 then (Φ (0 : Int32) u0) else (if a0 = (-5 : Int32) then (Φ (0 : Int32) u0) else (Φ (1 : Int32) u0)))
set_option maxHeartbeats 4000000 in
set_option maxRecDepth 100000 in
theorem t_X10_isError_0 {p : Program} {l : Launch} {e : Env} {s : State} {m : MethodId} {args : Array Value} {below : List Frame} {meth : Method} {c : Code} {D : va_G} {cA : Nat → ClassId} {o : Nat}  {Φ : Int32 → Mm → Prop} (C : Cx p m meth c s args cX10_isError 1 wsX10_isError RX10 (some .boolean) D (tysL cA)) : ∀ (a0 : Int32) (u0 : Mm), ∀ (H : Heap) (locs : List Loc) (ls : Array Slot), Hp 6 o D (EM cA o u0) s H locs → lv_has ls 1 [(0, .int a0)] → w_X10_isError a0 u0 Φ → W p l e rm_X10_isError s m args below meth c H locs 0 0 (MQ below (Qg vI Φ (fun μ => Wd 6 o D (tysL cA) (EM cA o μ)) (aA o 6)) args s 0 0 (aA o 6)) (F0 m 0 ls []) := by
  intro a0 u0 H locs ls P hl h
  have hx := C.1.1
  have hb := C.1.2.1
  unfold w_X10_isError at h
  refine lv_iload_n hx hb dX10_isError_0 rfl (lv_at hl 0 rfl) ?_
  refine lv_if_ge (tgt := 14) hx hb dX10_isError_1 (by decide) (fun c1 => ?_) (fun c1 => ?_)
  · have h := ite_t h c1
    refine lv_iconst (v := 0) hx hb dX10_isError_14 (by decide) ?_
    exact r_iretb C P (Or.inl rfl) h dX10_isError_15
  · have h := ite_f h c1
    refine lv_iload_n hx hb dX10_isError_4 rfl (lv_at hl 0 rfl) ?_
    refine lv_bipush (v := -5) hx hb dX10_isError_5 (by decide) ?_
    refine lv_icmp_eq (tgt := 14) hx hb dX10_isError_7 (by decide) (fun c2 => ?_) (fun c2 => ?_)
    · have h := ite_t h c2
      refine lv_iconst (v := 0) hx hb dX10_isError_14 (by decide) ?_
      exact r_iretb C P (Or.inl rfl) h dX10_isError_15
    · have h := ite_f h c2
      refine lv_iconst (v := 1) hx hb dX10_isError_10 (by decide) ?_
      refine lv_goto (tgt := 15) hx hb dX10_isError_11 (by decide) ?_
      exact r_iretb C P (Or.inr rfl) h dX10_isError_15
set_option maxHeartbeats 4000000 in
set_option maxRecDepth 100000 in
theorem c_X10_isError (l : Launch) (D : va_G) (cA : Nat → ClassId) (o : Nat) (a0 : Int32)  (u0 : Mm) (Φ : Int32 → Mm → Prop) (h : w_X10_isError a0 u0 Φ) : Met l yX10_isError wsX10_isError rm_X10_isError (va_Pc [.int a0] (Wd 6 o D (tysL cA) (EM cA o u0))) (Qg vI Φ (fun μ => Wd 6 o D (tysL cA) (EM cA o μ)) (aA o 6)) 0 0 (aA o 6) := by
  refine Met.ofW (cc := cX10_isError) (maxL := 1) (ret := (some .boolean)) (by decide) rfl ?_
  intro p e s m args below meth c s₁ B hml hv
  obtain ⟨rfl, hv⟩ := hv
  have hl := lv_entry ([.int a0]) (n := 1) (Nat.le_of_ble_eq_true rfl)
  rw [lg_entry_eq]
  exact t_X10_isError_0 ⟨⟨B.exec, B.bytes, hml, findClass_of_methodNamed B.named, atoms_spec (ws := wsX10_isError) B.pre⟩, B.returns, B.notSynchronized, hv.2⟩ a0 u0 _ _ _ ⟨hv.1, va_S.rf⟩ hl h
abbrev rm_X10_run : Room := { frames := 9, cells := 0, slots := 0, locals := 207 }
theorem wd_X10_run_1 : Cond.fieldLink RX10 153 "TurnstileBankModel" "place" "I" ∈ wsX10_run := List.mem_of_getElem? (i := 1) (by decide +kernel)
theorem wd_X10_run_2 : Cond.fieldLink RX10 156 "TurnstileBankModel" "isGood" "Z" ∈ wsX10_run := List.mem_of_getElem? (i := 2) (by decide +kernel)
theorem wd_X10_run_3 : Cond.fieldLink RX10 167 "TurnstileBankModel" "orders" "I" ∈ wsX10_run := List.mem_of_getElem? (i := 3) (by decide +kernel)
theorem wd_X10_run_4 : Cond.fieldLink RX10 150 "TurnstileBankModel" "typed" "I" ∈ wsX10_run := List.mem_of_getElem? (i := 4) (by decide +kernel)
theorem in_X10_run_10 : ∀ w ∈ wsX100, w ∈ wsX10_run := fun w h => List.mem_cons_of_mem _ (List.mem_append_right _ h)
def w_X10_run_65  (Φ : Int32 → Mm → Prop) : Nat → Int32 → Mm → Prop
  | 0, _, _ => False
  | n + 1, x1, u0 => (if (u0 0 8) ≤ x1 then (w_X10_recorded x1 u0 (fun r12 u11 => (Φ r12 u11))) else (w_X10_carryOut (((4 : Int32) * x1)) u0 (fun r14 u13 => (w_X10_isError r14 u13 (fun r16 u15 => (if r16 = 0 then (w_X10_run_65 Φ n ((x1 + 1)) u15) else (w_X10_recorded x1 u15 (fun r19 u18 => (Φ r19 u18)))))))))
set_option maxHeartbeats 4000000 in
set_option maxRecDepth 100000 in
theorem t_X10_run_65 {p : Program} {l : Launch} {e : Env} {s : State} {m : MethodId} {args : Array Value} {below : List Frame} {meth : Method} {c : Code} {D : va_G} {cA : Nat → ClassId} {o : Nat}  {Φ : Int32 → Mm → Prop} (C : Cx p m meth c s args cX10_run 2 wsX10_run RX10 (some .int) D (tysL cA)) : ∀ n : Nat, ∀ (x1 : Int32) (u0 : Mm), ∀ (H : Heap) (locs : List Loc) (ls : Array Slot), Hp 6 o D (EM cA o u0) s H locs → lv_has ls 2 [(0, .ref (o + 0)), (1, .int x1)] → w_X10_run_65 Φ n x1 u0 → W p l e rm_X10_run s m args below meth c H locs 0 0 (MQ below (Qg vI Φ (fun μ => Wd 6 o D (tysL cA) (EM cA o μ)) (aA o 6)) args s 0 0 (aA o 6)) (F0 m 65 ls []) := by
  intro n
  induction n with
  | zero => intro x1 u0 H locs ls P hl h; exact h.elim
  | succ n ih =>
    intro x1 u0 H locs ls P hl h
    have hx := C.1.1
    have hb := C.1.2.1
    rw [w_X10_run_65] at h
    refine lv_iload_n hx hb dX10_run_65 rfl (lv_at hl 1 rfl) ?_
    refine lv_aload_n hx hb dX10_run_66 rfl (lv_at hl 0 rfl) ?_
    refine g_10_8 C P in_X10_run_10 wd_X10_run_3 dX10_run_67 ?_
    refine lv_icmp_ge (tgt := 92) hx hb dX10_run_70 (by decide) (fun c10 => ?_) (fun c10 => ?_)
    · have h := ite_t h c10
      refine lv_aload_n hx hb dX10_run_92 rfl (lv_at hl 0 rfl) ?_
      refine lv_iload_n hx hb dX10_run_93 rfl (lv_at hl 1 rfl) ?_
      refine r_calli (F := EM cA o) (va_runV (As := [.int x1]) (rest := []) C.1 (c_X10_recorded l D cA o _ u0 _ h) (cwV 1 C.1.2.2.2.2 gX10_run_X10_recorded rfl rfl rfl (by decide +kernel) ⟨Nat.le_of_ble_eq_true rfl, Nat.le_of_ble_eq_true rfl⟩) (r_preV C P [.int x1] (ci := 10) rfl (by decide) EKM_0) rfl rfl hl.1 rfl (lv_room (Nat.le_of_ble_eq_true rfl)) dX10_run_94 ⟨Nat.le_of_ble_eq_true rfl, Nat.le_of_ble_eq_true rfl⟩) P.2 (fun r12 u11 H locs h P => ?_)
      exact r_ireti C P h dX10_run_97
    · have h := ite_f h c10
      refine lv_aload_n hx hb dX10_run_73 rfl (lv_at hl 0 rfl) ?_
      refine lv_iconst (v := 4) hx hb dX10_run_74 (by decide) ?_
      refine lv_iload_n hx hb dX10_run_75 rfl (lv_at hl 1 rfl) ?_
      refine lv_imul hx hb dX10_run_76 ?_
      refine r_calli (F := EM cA o) (va_runV (As := [.int ((4 : Int32) * x1)]) (rest := []) C.1 (c_X10_carryOut l D cA o _ u0 _ h) (cwV 1 C.1.2.2.2.2 gX10_run_X10_carryOut rfl rfl rfl (by decide +kernel) ⟨Nat.le_of_ble_eq_true rfl, Nat.le_of_ble_eq_true rfl⟩) (r_preV C P [.int ((4 : Int32) * x1)] (ci := 10) rfl (by decide) EKM_0) rfl rfl hl.1 rfl (lv_room (Nat.le_of_ble_eq_true rfl)) dX10_run_77 ⟨Nat.le_of_ble_eq_true rfl, Nat.le_of_ble_eq_true rfl⟩) P.2 (fun r14 u13 H locs h P => ?_)
      refine r_calli (F := EM cA o) (va_runS (As := [.int r14]) (rest := []) C.1 (c_X10_isError l D cA o _ u13 _ h) (va_cwS 1 C.1.2.2.2.2 gX10_run_X10_isError rfl rfl rfl (by decide +kernel) ⟨Nat.le_of_ble_eq_true rfl, Nat.le_of_ble_eq_true rfl⟩) (r_pre C P [.int r14]) rfl rfl hl.1 rfl (lv_room (Nat.le_of_ble_eq_true rfl)) dX10_run_80 ⟨Nat.le_of_ble_eq_true rfl, Nat.le_of_ble_eq_true rfl⟩) P.2 (fun r16 u15 H locs h P => ?_)
      refine lv_if_ne (tgt := 92) hx hb dX10_run_83 (by decide) (fun c17 => ?_) (fun c17 => ?_)
      · have h := ite_f h c17
        refine lv_aload_n hx hb dX10_run_92 rfl (lv_at hl 0 rfl) ?_
        refine lv_iload_n hx hb dX10_run_93 rfl (lv_at hl 1 rfl) ?_
        refine r_calli (F := EM cA o) (va_runV (As := [.int x1]) (rest := []) C.1 (c_X10_recorded l D cA o _ u15 _ h) (cwV 1 C.1.2.2.2.2 gX10_run_X10_recorded rfl rfl rfl (by decide +kernel) ⟨Nat.le_of_ble_eq_true rfl, Nat.le_of_ble_eq_true rfl⟩) (r_preV C P [.int x1] (ci := 10) rfl (by decide) EKM_0) rfl rfl hl.1 rfl (lv_room (Nat.le_of_ble_eq_true rfl)) dX10_run_94 ⟨Nat.le_of_ble_eq_true rfl, Nat.le_of_ble_eq_true rfl⟩) P.2 (fun r19 u18 H locs h P => ?_)
        exact r_ireti C P h dX10_run_97
      · have h := ite_t h c17
        refine lv_iinc (v := (x1 + 1)) (lv' := [(1, .int (x1 + 1)), (0, .ref (o + 0))]) hx hb dX10_run_86 hl (k := 1) rfl rfl (by decide) rfl (fun ls hl => ?_)
        refine lv_goto (tgt := 65) hx hb dX10_run_89 (by decide) ?_
        exact ih _ u15 _ _ _ P (lv_sub hl [1, 0] rfl) h
def w_X10_run_44  (Φ : Int32 → Mm → Prop)  (u0 : Mm) : Prop := (if (u0 0 7) = 0 then (Φ (((-100 : Int32) - (u0 0 6))) u0) else (w_X10_begin u0 (fun _ u8 => (∃ n65 : Nat, w_X10_run_65 Φ n65 ((0 : Int32)) u8))))
set_option maxHeartbeats 4000000 in
set_option maxRecDepth 100000 in
theorem t_X10_run_44 {p : Program} {l : Launch} {e : Env} {s : State} {m : MethodId} {args : Array Value} {below : List Frame} {meth : Method} {c : Code} {D : va_G} {cA : Nat → ClassId} {o : Nat}  {Φ : Int32 → Mm → Prop} (C : Cx p m meth c s args cX10_run 2 wsX10_run RX10 (some .int) D (tysL cA)) : ∀  (u0 : Mm), ∀ (H : Heap) (locs : List Loc) (ls : Array Slot), Hp 6 o D (EM cA o u0) s H locs → lv_has ls 2 [(0, .ref (o + 0))] → w_X10_run_44 Φ u0 → W p l e rm_X10_run s m args below meth c H locs 0 0 (MQ below (Qg vI Φ (fun μ => Wd 6 o D (tysL cA) (EM cA o μ)) (aA o 6)) args s 0 0 (aA o 6)) (F0 m 44 ls []) := by
  intro u0 H locs ls P hl h
  have hx := C.1.1
  have hb := C.1.2.1
  unfold w_X10_run_44 at h
  refine lv_aload_n hx hb dX10_run_44 rfl (lv_at hl 0 rfl) ?_
  refine g_10_7 C P in_X10_run_10 wd_X10_run_2 dX10_run_45 ?_
  refine lv_if_ne (tgt := 59) hx hb dX10_run_48 (by decide) (fun c7 => ?_) (fun c7 => ?_)
  · have h := ite_f h c7
    refine lv_aload_n hx hb dX10_run_59 rfl (lv_at hl 0 rfl) ?_
    refine r_callv (F := EM cA o) (va_runV (As := []) (rest := []) C.1 (c_X10_begin l D cA o u0 _ h) (cwV 0 C.1.2.2.2.2 gX10_run_X10_begin rfl rfl rfl (by decide +kernel) ⟨Nat.le_of_ble_eq_true rfl, Nat.le_of_ble_eq_true rfl⟩) (r_preV C P [] (ci := 10) rfl (by decide) EKM_0) rfl rfl hl.1 rfl (lv_room (Nat.le_of_ble_eq_true rfl)) dX10_run_60 ⟨Nat.le_of_ble_eq_true rfl, Nat.le_of_ble_eq_true rfl⟩) P.2 (fun u8 H locs h P => ?_)
    refine lv_iconst (v := 0) hx hb dX10_run_63 (by decide) ?_
    refine lv_istore_n (lv' := [(1, .int (0 : Int32)), (0, .ref (o + 0))]) hx hb dX10_run_64 rfl hl (by decide) rfl (fun ls hl => ?_)
    obtain ⟨n65, h⟩ := h
    exact t_X10_run_65 C n65 _ u8 _ _ _ P (lv_sub hl [1, 0] rfl) h
  · have h := ite_t h c7
    refine lv_bipush (v := -100) hx hb dX10_run_51 (by decide) ?_
    refine lv_aload_n hx hb dX10_run_53 rfl (lv_at hl 0 rfl) ?_
    refine g_10_6 C P in_X10_run_10 wd_X10_run_1 dX10_run_54 ?_
    refine lv_isub hx hb dX10_run_57 ?_
    exact r_ireti C P h dX10_run_58
def w_X10_run_19  (Φ : Int32 → Mm → Prop) : Nat → Mm → Prop
  | 0, _ => False
  | n + 1, u0 => (if (u0 0 7) = 0 then (w_X10_run_44 Φ u0) else (if (u0 0 4) ≤ (u0 0 6) then (w_X10_run_44 Φ u0) else (w_X10_readOrder u0 (fun _ u21 => (w_X10_run_19 Φ n u21)))))
set_option maxHeartbeats 4000000 in
set_option maxRecDepth 100000 in
theorem t_X10_run_19 {p : Program} {l : Launch} {e : Env} {s : State} {m : MethodId} {args : Array Value} {below : List Frame} {meth : Method} {c : Code} {D : va_G} {cA : Nat → ClassId} {o : Nat}  {Φ : Int32 → Mm → Prop} (C : Cx p m meth c s args cX10_run 2 wsX10_run RX10 (some .int) D (tysL cA)) : ∀ n : Nat, ∀  (u0 : Mm), ∀ (H : Heap) (locs : List Loc) (ls : Array Slot), Hp 6 o D (EM cA o u0) s H locs → lv_has ls 2 [(0, .ref (o + 0))] → w_X10_run_19 Φ n u0 → W p l e rm_X10_run s m args below meth c H locs 0 0 (MQ below (Qg vI Φ (fun μ => Wd 6 o D (tysL cA) (EM cA o μ)) (aA o 6)) args s 0 0 (aA o 6)) (F0 m 19 ls []) := by
  intro n
  induction n with
  | zero => intro u0 H locs ls P hl h; exact h.elim
  | succ n ih =>
    intro u0 H locs ls P hl h
    have hx := C.1.1
    have hb := C.1.2.1
    rw [w_X10_run_19] at h
    refine lv_aload_n hx hb dX10_run_19 rfl (lv_at hl 0 rfl) ?_
    refine g_10_7 C P in_X10_run_10 wd_X10_run_2 dX10_run_20 ?_
    refine lv_if_eq (tgt := 44) hx hb dX10_run_23 (by decide) (fun c6 => ?_) (fun c6 => ?_)
    · have h := ite_t h c6
      exact t_X10_run_44 C u0 _ _ _ P (lv_sub hl [0] rfl) h
    · have h := ite_f h c6
      refine lv_aload_n hx hb dX10_run_26 rfl (lv_at hl 0 rfl) ?_
      refine g_10_6 C P in_X10_run_10 wd_X10_run_1 dX10_run_27 ?_
      refine lv_aload_n hx hb dX10_run_30 rfl (lv_at hl 0 rfl) ?_
      refine g_10_4 C P in_X10_run_10 wd_X10_run_4 dX10_run_31 ?_
      refine lv_icmp_ge (tgt := 44) hx hb dX10_run_34 (by decide) (fun c20 => ?_) (fun c20 => ?_)
      · have h := ite_t h c20
        exact t_X10_run_44 C u0 _ _ _ P (lv_sub hl [0] rfl) h
      · have h := ite_f h c20
        refine lv_aload_n hx hb dX10_run_37 rfl (lv_at hl 0 rfl) ?_
        refine r_callv (F := EM cA o) (va_runV (As := []) (rest := []) C.1 (c_X10_readOrder l D cA o u0 _ h) (cwV 0 C.1.2.2.2.2 gX10_run_X10_readOrder rfl rfl rfl (by decide +kernel) ⟨Nat.le_of_ble_eq_true rfl, Nat.le_of_ble_eq_true rfl⟩) (r_preV C P [] (ci := 10) rfl (by decide) EKM_0) rfl rfl hl.1 rfl (lv_room (Nat.le_of_ble_eq_true rfl)) dX10_run_38 ⟨Nat.le_of_ble_eq_true rfl, Nat.le_of_ble_eq_true rfl⟩) P.2 (fun u21 H locs h P => ?_)
        refine lv_goto (tgt := 19) hx hb dX10_run_41 (by decide) ?_
        exact ih u21 _ _ _ P (lv_sub hl [0] rfl) h
def w_X10_run  (u0 : Mm) (Φ : Int32 → Mm → Prop) : Prop := (∀ u1 : Mm, u1 = up2 u0 0 6 (0 : Int32) → (∀ u2 : Mm, u2 = up2 u1 0 7 (1 : Int32) → (∀ u3 : Mm, u3 = up2 u2 0 8 (0 : Int32) → (w_X10_readOrder u3 (fun _ u4 => (∃ n19 : Nat, w_X10_run_19 Φ n19 u4))))))
set_option maxHeartbeats 4000000 in
set_option maxRecDepth 100000 in
theorem t_X10_run_0 {p : Program} {l : Launch} {e : Env} {s : State} {m : MethodId} {args : Array Value} {below : List Frame} {meth : Method} {c : Code} {D : va_G} {cA : Nat → ClassId} {o : Nat}  {Φ : Int32 → Mm → Prop} (C : Cx p m meth c s args cX10_run 2 wsX10_run RX10 (some .int) D (tysL cA)) : ∀  (u0 : Mm), ∀ (H : Heap) (locs : List Loc) (ls : Array Slot), Hp 6 o D (EM cA o u0) s H locs → lv_has ls 2 [(0, .ref (o + 0))] → w_X10_run u0 Φ → W p l e rm_X10_run s m args below meth c H locs 0 0 (MQ below (Qg vI Φ (fun μ => Wd 6 o D (tysL cA) (EM cA o μ)) (aA o 6)) args s 0 0 (aA o 6)) (F0 m 0 ls []) := by
  intro u0 H locs ls P hl h
  have hx := C.1.1
  have hb := C.1.2.1
  unfold w_X10_run at h
  refine lv_aload_n hx hb dX10_run_0 rfl (lv_at hl 0 rfl) ?_
  refine lv_iconst (v := 0) hx hb dX10_run_1 (by decide) ?_
  refine p_10_6 C P in_X10_run_10 wd_X10_run_1 dX10_run_2 (fun u1 eu1 H locs P => ?_)
  have h := h u1 eu1
  refine lv_aload_n hx hb dX10_run_5 rfl (lv_at hl 0 rfl) ?_
  refine lv_iconst (v := 1) hx hb dX10_run_6 (by decide) ?_
  refine p_10_7 C P in_X10_run_10 wd_X10_run_2 (Or.inr rfl) dX10_run_7 (fun u2 eu2 H locs P => ?_)
  have h := h u2 eu2
  refine lv_aload_n hx hb dX10_run_10 rfl (lv_at hl 0 rfl) ?_
  refine lv_iconst (v := 0) hx hb dX10_run_11 (by decide) ?_
  refine p_10_8 C P in_X10_run_10 wd_X10_run_3 dX10_run_12 (fun u3 eu3 H locs P => ?_)
  have h := h u3 eu3
  refine lv_aload_n hx hb dX10_run_15 rfl (lv_at hl 0 rfl) ?_
  refine r_callv (F := EM cA o) (va_runV (As := []) (rest := []) C.1 (c_X10_readOrder l D cA o u3 _ h) (cwV 0 C.1.2.2.2.2 gX10_run_X10_readOrder rfl rfl rfl (by decide +kernel) ⟨Nat.le_of_ble_eq_true rfl, Nat.le_of_ble_eq_true rfl⟩) (r_preV C P [] (ci := 10) rfl (by decide) EKM_0) rfl rfl hl.1 rfl (lv_room (Nat.le_of_ble_eq_true rfl)) dX10_run_16 ⟨Nat.le_of_ble_eq_true rfl, Nat.le_of_ble_eq_true rfl⟩) P.2 (fun u4 H locs h P => ?_)
  obtain ⟨n19, h⟩ := h
  exact t_X10_run_19 C n19 u4 _ _ _ P (lv_sub hl [0] rfl) h
set_option maxHeartbeats 4000000 in
set_option maxRecDepth 100000 in
theorem c_X10_run (l : Launch) (D : va_G) (cA : Nat → ClassId) (o : Nat)   (u0 : Mm) (Φ : Int32 → Mm → Prop) (h : w_X10_run u0 Φ) : Met l yX10_run wsX10_run rm_X10_run (va_Pc [.ref (o + 0)] (Wd 6 o D (tysL cA) (EM cA o u0))) (Qg vI Φ (fun μ => Wd 6 o D (tysL cA) (EM cA o μ)) (aA o 6)) 0 0 (aA o 6) := by
  refine Met.ofW (cc := cX10_run) (maxL := 2) (ret := (some .int)) (by decide) rfl ?_
  intro p e s m args below meth c s₁ B hml hv
  obtain ⟨rfl, hv⟩ := hv
  have hl := lv_entry ([.ref (o + 0)]) (n := 2) (Nat.le_of_ble_eq_true rfl)
  rw [lg_entry_eq]
  exact t_X10_run_0 ⟨⟨B.exec, B.bytes, hml, findClass_of_methodNamed B.named, atoms_spec (ws := wsX10_run) B.pre⟩, B.returns, B.notSynchronized, hv.2⟩ u0 _ _ _ ⟨hv.1, va_S.rf⟩ hl h
