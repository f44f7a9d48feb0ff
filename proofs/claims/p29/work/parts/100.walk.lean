abbrev rm_X0_copyFrom : Room := { frames := 1, cells := 0, slots := 0, locals := 40 }
theorem wd_X0_copyFrom_1 : Cond.fieldLink RX0 9 "TurnstileBank$Events" "ticks" "[I" ∈ wsX0_copyFrom := List.mem_of_getElem? (i := 1) (by decide +kernel)
theorem wd_X0_copyFrom_2 : Cond.methodLink RX0 24 arraycopyName ∈ wsX0_copyFrom := List.mem_of_getElem? (i := 2) (by decide +kernel)
theorem wd_X0_copyFrom_3 : Cond.native arraycopyName ∈ wsX0_copyFrom := List.mem_of_getElem? (i := 3) (by decide +kernel)
theorem wd_X0_copyFrom_4 : Cond.static arraycopyName ∈ wsX0_copyFrom := List.mem_of_getElem? (i := 4) (by decide +kernel)
theorem wd_X0_copyFrom_5 : Cond.initialized "java/lang/System" ∈ wsX0_copyFrom := List.mem_of_getElem? (i := 5) (by decide +kernel)
theorem wd_X0_copyFrom_6 : Cond.fieldLink RX0 15 "TurnstileBank$Events" "gates" "[I" ∈ wsX0_copyFrom := List.mem_of_getElem? (i := 6) (by decide +kernel)
theorem wd_X0_copyFrom_7 : Cond.fieldLink RX0 18 "TurnstileBank$Events" "people" "[I" ∈ wsX0_copyFrom := List.mem_of_getElem? (i := 7) (by decide +kernel)
theorem wd_X0_copyFrom_8 : Cond.fieldLink RX0 21 "TurnstileBank$Events" "kinds" "[I" ∈ wsX0_copyFrom := List.mem_of_getElem? (i := 8) (by decide +kernel)
theorem wd_X0_copyFrom_9 : Cond.fieldLink RX0 30 "TurnstileBank$Events" "length" "I" ∈ wsX0_copyFrom := List.mem_of_getElem? (i := 9) (by decide +kernel)
theorem wd_X0_copyFrom_10 : Cond.fieldLink RX0 34 "TurnstileBank$Events" "next" "I" ∈ wsX0_copyFrom := List.mem_of_getElem? (i := 10) (by decide +kernel)
theorem in_X0_copyFrom_0 : ∀ w ∈ wsX00, w ∈ wsX0_copyFrom := fun w h => List.mem_cons_of_mem _ (List.mem_append_right _ h)
def w_X0_copyFrom (k0 : Nat) (k1 : Nat) (u0 : Mm) (Φ : Unit → Mm → Prop) : Prop := (¬ (0 : Int32) < 0 ∧ ¬ (0 : Int32) < 0 ∧ ¬ (20 : Int32) < 0 ∧ (0 : Int32).toNatClampNeg + (20 : Int32).toNatClampNeg ≤ 20 ∧ (0 : Int32).toNatClampNeg + (20 : Int32).toNatClampNeg ≤ 20 ∧ ∀ u1 : Mm, u1 = upA u0 ((k0 + 1)) (va_cpy (u0 ((k1 + 1))) (u0 ((k0 + 1))) (0 : Int32).toNatClampNeg (0 : Int32).toNatClampNeg (20 : Int32).toNatClampNeg) → (¬ (0 : Int32) < 0 ∧ ¬ (0 : Int32) < 0 ∧ ¬ (20 : Int32) < 0 ∧ (0 : Int32).toNatClampNeg + (20 : Int32).toNatClampNeg ≤ 20 ∧ (0 : Int32).toNatClampNeg + (20 : Int32).toNatClampNeg ≤ 20 ∧ ∀ u2 : Mm, u2 = upA u1 ((k0 + 2)) (va_cpy (u1 ((k1 + 2))) (u1 ((k0 + 2))) (0 : Int32).toNatClampNeg (0 : Int32).toNatClampNeg (20 : Int32).toNatClampNeg) → (¬ (0 : Int32) < 0 ∧ ¬ (0 : Int32) < 0 ∧ ¬ (20 : Int32) < 0 ∧ (0 : Int32).toNatClampNeg + (20 : Int32).toNatClampNeg ≤ 20 ∧ (0 : Int32).toNatClampNeg + (20 : Int32).toNatClampNeg ≤ 20 ∧ ∀ u3 : Mm, u3 = upA u2 ((k0 + 3)) (va_cpy (u2 ((k1 + 3))) (u2 ((k0 + 3))) (0 : Int32).toNatClampNeg (0 : Int32).toNatClampNeg (20 : Int32).toNatClampNeg) → (¬ (0 : Int32) < 0 ∧ ¬ (0 : Int32) < 0 ∧ ¬ (20 : Int32) < 0 ∧ (0 : Int32).toNatClampNeg + (20 : Int32).toNatClampNeg ≤ 20 ∧ (0 : Int32).toNatClampNeg + (20 : Int32).toNatClampNeg ≤ 20 ∧ ∀ u4 : Mm, u4 = upA u3 ((k0 + 4)) (va_cpy (u3 ((k1 + 4))) (u3 ((k0 + 4))) (0 : Int32).toNatClampNeg (0 : Int32).toNatClampNeg (20 : Int32).toNatClampNeg) → (∀ u5 : Mm, u5 = up2 u4 k0 4 (u4 k1 4) → (∀ u6 : Mm, u6 = up2 u5 k0 5 (u5 k1 5) → (Φ () u6)))))))
set_option maxHeartbeats 4000000 in
set_option maxRecDepth 100000 in
theorem t_X0_copyFrom_0 {p : Program} {l : Launch} {e : Env} {s : State} {m : MethodId} {args : Array Value} {below : List Frame} {meth : Method} {c : Code} {D : va_G} {cA : Nat → ClassId} {o : Nat}  {Φ : Unit → Mm → Prop} (C : Cx p m meth c s args cX0_copyFrom 2 wsX0_copyFrom RX0 none D (tysL cA)) : ∀ (k0 : Nat) (k1 : Nat) (u0 : Mm), kd k0 = 0 → kd k1 = 0 → ∀ (H : Heap) (locs : List Loc) (ls : Array Slot), Hp 747 o D (EC cA o u0) s H locs → lv_has ls 2 [(0, .ref (o + k0)), (1, .ref (o + k1))] → w_X0_copyFrom k0 k1 u0 Φ → W p l e rm_X0_copyFrom s m args below meth c H locs 0 0 (MQ below (Qg vV Φ (fun μ => Wd 747 o D (tysL cA) (EC cA o μ)) (aA o 747)) args s 0 0 (aA o 747)) (F0 m 0 ls []) := by
  intro k0 k1 u0 hk0 hk1 H locs ls P hl h
  have hx := C.1.1
  have hb := C.1.2.1
  unfold w_X0_copyFrom at h
  refine lv_aload_n hx hb dX0_copyFrom_0 rfl (lv_at hl 1 rfl) ?_
  refine g_0_0 C P in_X0_copyFrom_0 wd_X0_copyFrom_1 hk1 dX0_copyFrom_1 ?_
  refine lv_iconst (v := 0) hx hb dX0_copyFrom_4 (by decide) ?_
  refine lv_aload_n hx hb dX0_copyFrom_5 rfl (lv_at hl 0 rfl) ?_
  refine g_0_0 C P in_X0_copyFrom_0 wd_X0_copyFrom_1 hk0 dX0_copyFrom_6 ?_
  refine lv_iconst (v := 0) hx hb dX0_copyFrom_9 (by decide) ?_
  refine lv_bipush (v := 20) hx hb dX0_copyFrom_10 (by decide) ?_
  obtain ⟨h1, h2, h3, h4, h5, h⟩ := h
  refine cp_21 C P (kd_0_1 hk1) (kd_0_1 hk0) (C.1.2.2.2.2 _ wd_X0_copyFrom_2) (C.1.2.2.2.2 _ wd_X0_copyFrom_3) (C.1.2.2.2.2 _ wd_X0_copyFrom_4) (C.1.2.2.2.2 _ wd_X0_copyFrom_5) (Nat.le_of_ble_eq_true rfl) (Nat.le_of_ble_eq_true rfl) hl.1 h1 h2 h3 h4 h5 dX0_copyFrom_12 (fun u1 eu1 H locs P => ?_)
  have h := h u1 eu1
  refine lv_aload_n hx hb dX0_copyFrom_15 rfl (lv_at hl 1 rfl) ?_
  refine g_0_1 C P in_X0_copyFrom_0 wd_X0_copyFrom_6 hk1 dX0_copyFrom_16 ?_
  refine lv_iconst (v := 0) hx hb dX0_copyFrom_19 (by decide) ?_
  refine lv_aload_n hx hb dX0_copyFrom_20 rfl (lv_at hl 0 rfl) ?_
  refine g_0_1 C P in_X0_copyFrom_0 wd_X0_copyFrom_6 hk0 dX0_copyFrom_21 ?_
  refine lv_iconst (v := 0) hx hb dX0_copyFrom_24 (by decide) ?_
  refine lv_bipush (v := 20) hx hb dX0_copyFrom_25 (by decide) ?_
  obtain ⟨h1, h2, h3, h4, h5, h⟩ := h
  refine cp_21 C P (kd_0_2 hk1) (kd_0_2 hk0) (C.1.2.2.2.2 _ wd_X0_copyFrom_2) (C.1.2.2.2.2 _ wd_X0_copyFrom_3) (C.1.2.2.2.2 _ wd_X0_copyFrom_4) (C.1.2.2.2.2 _ wd_X0_copyFrom_5) (Nat.le_of_ble_eq_true rfl) (Nat.le_of_ble_eq_true rfl) hl.1 h1 h2 h3 h4 h5 dX0_copyFrom_27 (fun u2 eu2 H locs P => ?_)
  have h := h u2 eu2
  refine lv_aload_n hx hb dX0_copyFrom_30 rfl (lv_at hl 1 rfl) ?_
  refine g_0_2 C P in_X0_copyFrom_0 wd_X0_copyFrom_7 hk1 dX0_copyFrom_31 ?_
  refine lv_iconst (v := 0) hx hb dX0_copyFrom_34 (by decide) ?_
  refine lv_aload_n hx hb dX0_copyFrom_35 rfl (lv_at hl 0 rfl) ?_
  refine g_0_2 C P in_X0_copyFrom_0 wd_X0_copyFrom_7 hk0 dX0_copyFrom_36 ?_
  refine lv_iconst (v := 0) hx hb dX0_copyFrom_39 (by decide) ?_
  refine lv_bipush (v := 20) hx hb dX0_copyFrom_40 (by decide) ?_
  obtain ⟨h1, h2, h3, h4, h5, h⟩ := h
  refine cp_21 C P (kd_0_3 hk1) (kd_0_3 hk0) (C.1.2.2.2.2 _ wd_X0_copyFrom_2) (C.1.2.2.2.2 _ wd_X0_copyFrom_3) (C.1.2.2.2.2 _ wd_X0_copyFrom_4) (C.1.2.2.2.2 _ wd_X0_copyFrom_5) (Nat.le_of_ble_eq_true rfl) (Nat.le_of_ble_eq_true rfl) hl.1 h1 h2 h3 h4 h5 dX0_copyFrom_42 (fun u3 eu3 H locs P => ?_)
  have h := h u3 eu3
  refine lv_aload_n hx hb dX0_copyFrom_45 rfl (lv_at hl 1 rfl) ?_
  refine g_0_3 C P in_X0_copyFrom_0 wd_X0_copyFrom_8 hk1 dX0_copyFrom_46 ?_
  refine lv_iconst (v := 0) hx hb dX0_copyFrom_49 (by decide) ?_
  refine lv_aload_n hx hb dX0_copyFrom_50 rfl (lv_at hl 0 rfl) ?_
  refine g_0_3 C P in_X0_copyFrom_0 wd_X0_copyFrom_8 hk0 dX0_copyFrom_51 ?_
  refine lv_iconst (v := 0) hx hb dX0_copyFrom_54 (by decide) ?_
  refine lv_bipush (v := 20) hx hb dX0_copyFrom_55 (by decide) ?_
  obtain ⟨h1, h2, h3, h4, h5, h⟩ := h
  refine cp_21 C P (kd_0_4 hk1) (kd_0_4 hk0) (C.1.2.2.2.2 _ wd_X0_copyFrom_2) (C.1.2.2.2.2 _ wd_X0_copyFrom_3) (C.1.2.2.2.2 _ wd_X0_copyFrom_4) (C.1.2.2.2.2 _ wd_X0_copyFrom_5) (Nat.le_of_ble_eq_true rfl) (Nat.le_of_ble_eq_true rfl) hl.1 h1 h2 h3 h4 h5 dX0_copyFrom_57 (fun u4 eu4 H locs P => ?_)
  have h := h u4 eu4
  refine lv_aload_n hx hb dX0_copyFrom_60 rfl (lv_at hl 0 rfl) ?_
  refine lv_aload_n hx hb dX0_copyFrom_61 rfl (lv_at hl 1 rfl) ?_
  refine g_0_4 C P in_X0_copyFrom_0 wd_X0_copyFrom_9 hk1 dX0_copyFrom_62 ?_
  refine p_0_4 C P in_X0_copyFrom_0 wd_X0_copyFrom_9 hk0 dX0_copyFrom_65 (fun u5 eu5 H locs P => ?_)
  have h := h u5 eu5
  refine lv_aload_n hx hb dX0_copyFrom_68 rfl (lv_at hl 0 rfl) ?_
  refine lv_aload_n hx hb dX0_copyFrom_69 rfl (lv_at hl 1 rfl) ?_
  refine g_0_5 C P in_X0_copyFrom_0 wd_X0_copyFrom_10 hk1 dX0_copyFrom_70 ?_
  refine p_0_5 C P in_X0_copyFrom_0 wd_X0_copyFrom_10 hk0 dX0_copyFrom_73 (fun u6 eu6 H locs P => ?_)
  have h := h u6 eu6
  exact r_ret C P h dX0_copyFrom_76
set_option maxHeartbeats 4000000 in
set_option maxRecDepth 100000 in
theorem c_X0_copyFrom (l : Launch) (D : va_G) (cA : Nat → ClassId) (o : Nat) (k0 : Nat) (k1 : Nat) (hk0 : kd k0 = 0) (hk1 : kd k1 = 0) (u0 : Mm) (Φ : Unit → Mm → Prop) (h : w_X0_copyFrom k0 k1 u0 Φ) : Met l yX0_copyFrom wsX0_copyFrom rm_X0_copyFrom (va_Pc [.ref (o + k0), .ref (o + k1)] (Wd 747 o D (tysL cA) (EC cA o u0))) (Qg vV Φ (fun μ => Wd 747 o D (tysL cA) (EC cA o μ)) (aA o 747)) 0 0 (aA o 747) := by
  refine Met.ofW (cc := cX0_copyFrom) (maxL := 2) (ret := none) (by decide) rfl ?_
  intro p e s m args below meth c s₁ B hml hv
  obtain ⟨rfl, hv⟩ := hv
  have hl := lv_entry ([.ref (o + k0), .ref (o + k1)]) (n := 2) (Nat.le_of_ble_eq_true rfl)
  rw [lg_entry_eq]
  exact t_X0_copyFrom_0 ⟨⟨B.exec, B.bytes, hml, findClass_of_methodNamed B.named, atoms_spec (ws := wsX0_copyFrom) B.pre⟩, B.returns, B.notSynchronized, hv.2⟩ k0 k1 u0 hk0 hk1 _ _ _ ⟨hv.1, va_S.rf⟩ hl h
abbrev rm_J9_floorMod_7cf53 : Room := { frames := 0, cells := 0, slots := 0, locals := 0 }
def w_J9_floorMod_7cf53 (a0 : Int32) (a1 : Int32) (u0 : Mm) (Φ : Int32 → Mm → Prop) : Prop := (¬ a1 = 0 ∧ (if 0 ≤ (a0 ^^^ a1) then (Φ ((a0 - a0 / a1 * a1)) u0) else (if (a0 - a0 / a1 * a1) = 0 then (Φ ((a0 - a0 / a1 * a1)) u0) else (Φ (((a0 - a0 / a1 * a1) + a1)) u0))))
set_option maxHeartbeats 4000000 in
set_option maxRecDepth 100000 in
theorem t_J9_floorMod_7cf53_0 {p : Program} {l : Launch} {e : Env} {s : State} {m : MethodId} {args : Array Value} {below : List Frame} {meth : Method} {c : Code} {D : va_G} {cA : Nat → ClassId} {o : Nat}  {Φ : Int32 → Mm → Prop} (C : Cx p m meth c s args cJ9_floorMod_7cf53 3 wsJ9_floorMod_7cf53 RJ9 (some .int) D (tysL cA)) : ∀ (a0 : Int32) (a1 : Int32) (u0 : Mm), ∀ (H : Heap) (locs : List Loc) (ls : Array Slot), Hp 747 o D (EC cA o u0) s H locs → lv_has ls 3 [(0, .int a0), (1, .int a1)] → w_J9_floorMod_7cf53 a0 a1 u0 Φ → W p l e rm_J9_floorMod_7cf53 s m args below meth c H locs 0 0 (MQ below (Qg vI Φ (fun μ => Wd 747 o D (tysL cA) (EC cA o μ)) (aA o 747)) args s 0 0 (aA o 747)) (F0 m 0 ls []) := by
  intro a0 a1 u0 H locs ls P hl h
  have hx := C.1.1
  have hb := C.1.2.1
  unfold w_J9_floorMod_7cf53 at h
  refine lv_iload_n hx hb dJ9_floorMod_7cf53_0 rfl (lv_at hl 0 rfl) ?_
  refine lv_iload_n hx hb dJ9_floorMod_7cf53_1 rfl (lv_at hl 1 rfl) ?_
  obtain ⟨hne, h⟩ := h
  refine lv_irem hx hb dJ9_floorMod_7cf53_2 hne ?_
  refine lv_istore_n (lv' := [(2, .int (a0 - a0 / a1 * a1)), (0, .int a0), (1, .int a1)]) hx hb dJ9_floorMod_7cf53_3 rfl hl (by decide) rfl (fun ls hl => ?_)
  refine lv_iload_n hx hb dJ9_floorMod_7cf53_4 rfl (lv_at hl 1 rfl) ?_
  refine lv_iload_n hx hb dJ9_floorMod_7cf53_5 rfl (lv_at hl 2 rfl) ?_
  refine lv_ixor hx hb dJ9_floorMod_7cf53_6 ?_
  refine lv_if_ge (tgt := 18) hx hb dJ9_floorMod_7cf53_7 (by decide) (fun c1 => ?_) (fun c1 => ?_)
  · have h := ite_t h c1
    refine lv_iload_n hx hb dJ9_floorMod_7cf53_18 rfl (lv_at hl 0 rfl) ?_
    exact r_ireti C P h dJ9_floorMod_7cf53_19
  · have h := ite_f h c1
    refine lv_iload_n hx hb dJ9_floorMod_7cf53_10 rfl (lv_at hl 0 rfl) ?_
    refine lv_if_eq (tgt := 18) hx hb dJ9_floorMod_7cf53_11 (by decide) (fun c2 => ?_) (fun c2 => ?_)
    · have h := ite_t h c2
      refine lv_iload_n hx hb dJ9_floorMod_7cf53_18 rfl (lv_at hl 0 rfl) ?_
      exact r_ireti C P h dJ9_floorMod_7cf53_19
    · have h := ite_f h c2
      refine lv_iload_n hx hb dJ9_floorMod_7cf53_14 rfl (lv_at hl 0 rfl) ?_
      refine lv_iload_n hx hb dJ9_floorMod_7cf53_15 rfl (lv_at hl 2 rfl) ?_
      refine lv_iadd hx hb dJ9_floorMod_7cf53_16 ?_
      exact r_ireti C P h dJ9_floorMod_7cf53_17
set_option maxHeartbeats 4000000 in
set_option maxRecDepth 100000 in
theorem c_J9_floorMod_7cf53 (l : Launch) (D : va_G) (cA : Nat → ClassId) (o : Nat) (a0 : Int32) (a1 : Int32)  (u0 : Mm) (Φ : Int32 → Mm → Prop) (h : w_J9_floorMod_7cf53 a0 a1 u0 Φ) : Met l yJ9_floorMod_7cf53 wsJ9_floorMod_7cf53 rm_J9_floorMod_7cf53 (va_Pc [.int a0, .int a1] (Wd 747 o D (tysL cA) (EC cA o u0))) (Qg vI Φ (fun μ => Wd 747 o D (tysL cA) (EC cA o μ)) (aA o 747)) 0 0 (aA o 747) := by
  refine met_ofW (cc := cJ9_floorMod_7cf53) (maxL := 3) (ret := (some .int)) (by decide +kernel) rfl ?_
  intro p e s m args below meth c s₁ B hml hv
  obtain ⟨rfl, hv⟩ := hv
  have hl := lv_entry ([.int a0, .int a1]) (n := 3) (Nat.le_of_ble_eq_true rfl)
  rw [lg_entry_eq]
  exact t_J9_floorMod_7cf53_0 ⟨⟨B.exec, B.bytes, hml, findClass_of_methodNamed B.named, atoms_spec (ws := wsJ9_floorMod_7cf53) B.pre⟩, B.returns, B.notSynchronized, hv.2⟩ a0 a1 u0 _ _ _ ⟨hv.1, va_S.rf⟩ hl h
abbrev rm_X0_add : Room := { frames := 1, cells := 0, slots := 0, locals := 22 }
theorem wd_X0_add_1 : Cond.fieldLink RX0 34 "TurnstileBank$Events" "next" "I" ∈ wsX0_add := List.mem_of_getElem? (i := 1) (by decide +kernel)
theorem wd_X0_add_2 : Cond.fieldLink RX0 9 "TurnstileBank$Events" "ticks" "[I" ∈ wsX0_add := List.mem_of_getElem? (i := 2) (by decide +kernel)
theorem wd_X0_add_3 : Cond.fieldLink RX0 15 "TurnstileBank$Events" "gates" "[I" ∈ wsX0_add := List.mem_of_getElem? (i := 3) (by decide +kernel)
theorem wd_X0_add_4 : Cond.fieldLink RX0 18 "TurnstileBank$Events" "people" "[I" ∈ wsX0_add := List.mem_of_getElem? (i := 4) (by decide +kernel)
theorem wd_X0_add_5 : Cond.fieldLink RX0 21 "TurnstileBank$Events" "kinds" "[I" ∈ wsX0_add := List.mem_of_getElem? (i := 5) (by decide +kernel)
theorem wd_X0_add_6 : Cond.fieldLink RX0 30 "TurnstileBank$Events" "length" "I" ∈ wsX0_add := List.mem_of_getElem? (i := 6) (by decide +kernel)
theorem wd_X0_add_7 : Cond.methodLink RX0 43 Lib.Math.min.name ∈ wsX0_add := List.mem_of_getElem? (i := 7) (by decide +kernel)
theorem wd_X0_add_8 : Cond.static Lib.Math.min.name ∈ wsX0_add := List.mem_of_getElem? (i := 8) (by decide +kernel)
theorem wd_X0_add_9 : Cond.initialized "java/lang/Math" ∈ wsX0_add := List.mem_of_getElem? (i := 9) (by decide +kernel)
theorem wd_X0_add_10 : Cond.code Lib.Math.min.name Lib.Math.min.code 2 (some .int) ∈ wsX0_add := List.mem_of_getElem? (i := 10) (by decide +kernel)
theorem in_X0_add_0 : ∀ w ∈ wsX00, w ∈ wsX0_add := fun w h => List.mem_cons_of_mem _ (List.mem_append_right _ h)
def w_X0_add (k0 : Nat) (a1 : Int32) (a2 : Int32) (a3 : Int32) (a4 : Int32) (u0 : Mm) (Φ : Unit → Mm → Prop) : Prop := (w_J9_floorMod_7cf53 ((u0 k0 5)) ((20 : Int32)) u0 (fun r2 u1 => (vp_in r2 20 ∧ ∀ u3 : Mm, u3 = up2 u1 ((k0 + 1)) r2.toNatClampNeg a1 → (vp_in r2 20 ∧ ∀ u4 : Mm, u4 = up2 u3 ((k0 + 2)) r2.toNatClampNeg a2 → (vp_in r2 20 ∧ ∀ u5 : Mm, u5 = up2 u4 ((k0 + 3)) r2.toNatClampNeg a3 → (vp_in r2 20 ∧ ∀ u6 : Mm, u6 = up2 u5 ((k0 + 4)) r2.toNatClampNeg a4 → (w_J9_floorMod_7cf53 ((r2 + (1 : Int32))) ((20 : Int32)) u6 (fun r8 u7 => (∀ u9 : Mm, u9 = up2 u7 k0 5 r8 → (∀ u10 : Mm, u10 = up2 u9 k0 4 (if (20 : Int32) < ((u9 k0 4) + (1 : Int32)) then (20 : Int32) else ((u9 k0 4) + (1 : Int32))) → (Φ () u10)))))))))))
set_option maxHeartbeats 4000000 in
set_option maxRecDepth 100000 in
theorem t_X0_add_0 {p : Program} {l : Launch} {e : Env} {s : State} {m : MethodId} {args : Array Value} {below : List Frame} {meth : Method} {c : Code} {D : va_G} {cA : Nat → ClassId} {o : Nat}  {Φ : Unit → Mm → Prop} (C : Cx p m meth c s args cX0_add 6 wsX0_add RX0 none D (tysL cA)) : ∀ (k0 : Nat) (a1 : Int32) (a2 : Int32) (a3 : Int32) (a4 : Int32) (u0 : Mm), kd k0 = 0 → ∀ (H : Heap) (locs : List Loc) (ls : Array Slot), Hp 747 o D (EC cA o u0) s H locs → lv_has ls 6 [(0, .ref (o + k0)), (1, .int a1), (2, .int a2), (3, .int a3), (4, .int a4)] → w_X0_add k0 a1 a2 a3 a4 u0 Φ → W p l e rm_X0_add s m args below meth c H locs 0 0 (MQ below (Qg vV Φ (fun μ => Wd 747 o D (tysL cA) (EC cA o μ)) (aA o 747)) args s 0 0 (aA o 747)) (F0 m 0 ls []) := by
  intro k0 a1 a2 a3 a4 u0 hk0 H locs ls P hl h
  have hx := C.1.1
  have hb := C.1.2.1
  unfold w_X0_add at h
  refine lv_aload_n hx hb dX0_add_0 rfl (lv_at hl 0 rfl) ?_
  refine g_0_5 C P in_X0_add_0 wd_X0_add_1 hk0 dX0_add_1 ?_
  refine lv_bipush (v := 20) hx hb dX0_add_4 (by decide) ?_
  refine r_calli (F := EC cA o) (va_runS (As := [.int (u0 k0 5), .int (20 : Int32)]) (rest := []) C.1 (c_J9_floorMod_7cf53 l D cA o _ _ u0 _ h) (va_cwS 2 C.1.2.2.2.2 gX0_add_J9_floorMod_7cf53 rfl rfl rfl (by decide +kernel) ⟨Nat.le_of_ble_eq_true rfl, Nat.le_of_ble_eq_true rfl⟩) (r_pre C P [.int (u0 k0 5), .int (20 : Int32)]) rfl rfl hl.1 rfl (lv_room (Nat.le_of_ble_eq_true rfl)) dX0_add_6 ⟨Nat.le_of_ble_eq_true rfl, Nat.le_of_ble_eq_true rfl⟩) P.2 (fun r2 u1 H locs h P => ?_)
  refine lv_istore (lv' := [(5, .int r2), (0, .ref (o + k0)), (1, .int a1), (2, .int a2), (3, .int a3), (4, .int a4)]) hx hb dX0_add_9 hl (by decide) rfl (fun ls hl => ?_)
  refine lv_aload_n hx hb dX0_add_11 rfl (lv_at hl 1 rfl) ?_
  refine g_0_0 C P in_X0_add_0 wd_X0_add_2 hk0 dX0_add_12 ?_
  refine lv_iload hx hb dX0_add_15 (lv_at hl 0 rfl) ?_
  refine lv_iload_n hx hb dX0_add_17 rfl (lv_at hl 2 rfl) ?_
  obtain ⟨hi, h⟩ := h
  refine st_21 C P (kd_0_1 hk0) hi dX0_add_18 (fun u3 eu3 H locs P => ?_)
  have h := h u3 eu3
  refine lv_aload_n hx hb dX0_add_19 rfl (lv_at hl 1 rfl) ?_
  refine g_0_1 C P in_X0_add_0 wd_X0_add_3 hk0 dX0_add_20 ?_
  refine lv_iload hx hb dX0_add_23 (lv_at hl 0 rfl) ?_
  refine lv_iload_n hx hb dX0_add_25 rfl (lv_at hl 3 rfl) ?_
  obtain ⟨hi, h⟩ := h
  refine st_21 C P (kd_0_2 hk0) hi dX0_add_26 (fun u4 eu4 H locs P => ?_)
  have h := h u4 eu4
  refine lv_aload_n hx hb dX0_add_27 rfl (lv_at hl 1 rfl) ?_
  refine g_0_2 C P in_X0_add_0 wd_X0_add_4 hk0 dX0_add_28 ?_
  refine lv_iload hx hb dX0_add_31 (lv_at hl 0 rfl) ?_
  refine lv_iload_n hx hb dX0_add_33 rfl (lv_at hl 4 rfl) ?_
  obtain ⟨hi, h⟩ := h
  refine st_21 C P (kd_0_3 hk0) hi dX0_add_34 (fun u5 eu5 H locs P => ?_)
  have h := h u5 eu5
  refine lv_aload_n hx hb dX0_add_35 rfl (lv_at hl 1 rfl) ?_
  refine g_0_3 C P in_X0_add_0 wd_X0_add_5 hk0 dX0_add_36 ?_
  refine lv_iload hx hb dX0_add_39 (lv_at hl 0 rfl) ?_
  refine lv_iload hx hb dX0_add_41 (lv_at hl 5 rfl) ?_
  obtain ⟨hi, h⟩ := h
  refine st_21 C P (kd_0_4 hk0) hi dX0_add_43 (fun u6 eu6 H locs P => ?_)
  have h := h u6 eu6
  refine lv_aload_n hx hb dX0_add_44 rfl (lv_at hl 1 rfl) ?_
  refine lv_iload hx hb dX0_add_45 (lv_at hl 0 rfl) ?_
  refine lv_iconst (v := 1) hx hb dX0_add_47 (by decide) ?_
  refine lv_iadd hx hb dX0_add_48 ?_
  refine lv_bipush (v := 20) hx hb dX0_add_49 (by decide) ?_
  refine r_calli (F := EC cA o) (va_runS (As := [.int (r2 + (1 : Int32)), .int (20 : Int32)]) (rest := [.ref (o + k0)]) C.1 (c_J9_floorMod_7cf53 l D cA o _ _ u6 _ h) (va_cwS 2 C.1.2.2.2.2 gX0_add_J9_floorMod_7cf53 rfl rfl rfl (by decide +kernel) ⟨Nat.le_of_ble_eq_true rfl, Nat.le_of_ble_eq_true rfl⟩) (r_pre C P [.int (r2 + (1 : Int32)), .int (20 : Int32)]) rfl rfl hl.1 rfl (lv_room (Nat.le_of_ble_eq_true rfl)) dX0_add_51 ⟨Nat.le_of_ble_eq_true rfl, Nat.le_of_ble_eq_true rfl⟩) P.2 (fun r8 u7 H locs h P => ?_)
  refine p_0_5 C P in_X0_add_0 wd_X0_add_1 hk0 dX0_add_54 (fun u9 eu9 H locs P => ?_)
  have h := h u9 eu9
  refine lv_aload_n hx hb dX0_add_57 rfl (lv_at hl 1 rfl) ?_
  refine lv_aload_n hx hb dX0_add_58 rfl (lv_at hl 1 rfl) ?_
  refine g_0_4 C P in_X0_add_0 wd_X0_add_6 hk0 dX0_add_59 ?_
  refine lv_iconst (v := 1) hx hb dX0_add_62 (by decide) ?_
  refine lv_iadd hx hb dX0_add_63 ?_
  refine lv_bipush (v := 20) hx hb dX0_add_64 (by decide) ?_
  refine va_mmin hx hb (C.1.2.2.1.trans hl.1.symm) C.1.2.2.2.1 (C.1.2.2.2.2 _ wd_X0_add_7) (C.1.2.2.2.2 _ wd_X0_add_8) (C.1.2.2.2.2 _ wd_X0_add_9) (C.1.2.2.2.2 _ wd_X0_add_10) (Nat.le_of_ble_eq_true rfl) (Nat.le_of_ble_eq_true rfl) (Nat.le_of_ble_eq_true rfl) (Nat.le_of_ble_eq_true rfl) dX0_add_66 ?_
  refine p_0_4 C P in_X0_add_0 wd_X0_add_6 hk0 dX0_add_69 (fun u10 eu10 H locs P => ?_)
  have h := h u10 eu10
  exact r_ret C P h dX0_add_72
set_option maxHeartbeats 4000000 in
set_option maxRecDepth 100000 in
theorem c_X0_add (l : Launch) (D : va_G) (cA : Nat → ClassId) (o : Nat) (k0 : Nat) (a1 : Int32) (a2 : Int32) (a3 : Int32) (a4 : Int32) (hk0 : kd k0 = 0) (u0 : Mm) (Φ : Unit → Mm → Prop) (h : w_X0_add k0 a1 a2 a3 a4 u0 Φ) : Met l yX0_add wsX0_add rm_X0_add (va_Pc [.ref (o + k0), .int a1, .int a2, .int a3, .int a4] (Wd 747 o D (tysL cA) (EC cA o u0))) (Qg vV Φ (fun μ => Wd 747 o D (tysL cA) (EC cA o μ)) (aA o 747)) 0 0 (aA o 747) := by
  refine Met.ofW (cc := cX0_add) (maxL := 6) (ret := none) (by decide) rfl ?_
  intro p e s m args below meth c s₁ B hml hv
  obtain ⟨rfl, hv⟩ := hv
  have hl := lv_entry ([.ref (o + k0), .int a1, .int a2, .int a3, .int a4]) (n := 6) (Nat.le_of_ble_eq_true rfl)
  rw [lg_entry_eq]
  exact t_X0_add_0 ⟨⟨B.exec, B.bytes, hml, findClass_of_methodNamed B.named, atoms_spec (ws := wsX0_add) B.pre⟩, B.returns, B.notSynchronized, hv.2⟩ k0 a1 a2 a3 a4 u0 hk0 _ _ _ ⟨hv.1, va_S.rf⟩ hl h
abbrev rm_X0_property : Room := { frames := 1, cells := 0, slots := 0, locals := 22 }
theorem wd_X0_property_1 : Cond.fieldLink RX0 30 "TurnstileBank$Events" "length" "I" ∈ wsX0_property := List.mem_of_getElem? (i := 1) (by decide +kernel)
theorem wd_X0_property_2 : Cond.fieldLink RX0 34 "TurnstileBank$Events" "next" "I" ∈ wsX0_property := List.mem_of_getElem? (i := 2) (by decide +kernel)
theorem wd_X0_property_3 : Cond.fieldLink RX0 9 "TurnstileBank$Events" "ticks" "[I" ∈ wsX0_property := List.mem_of_getElem? (i := 3) (by decide +kernel)
theorem wd_X0_property_4 : Cond.fieldLink RX0 15 "TurnstileBank$Events" "gates" "[I" ∈ wsX0_property := List.mem_of_getElem? (i := 4) (by decide +kernel)
theorem wd_X0_property_5 : Cond.fieldLink RX0 18 "TurnstileBank$Events" "people" "[I" ∈ wsX0_property := List.mem_of_getElem? (i := 5) (by decide +kernel)
theorem wd_X0_property_6 : Cond.fieldLink RX0 21 "TurnstileBank$Events" "kinds" "[I" ∈ wsX0_property := List.mem_of_getElem? (i := 6) (by decide +kernel)
theorem in_X0_property_0 : ∀ w ∈ wsX00, w ∈ wsX0_property := fun w h => List.mem_cons_of_mem _ (List.mem_append_right _ h)
def w_X0_property (k0 : Nat) (a1 : Int32) (a2 : Int32) (u0 : Mm) (Φ : Int32 → Mm → Prop) : Prop := (if a1 < 0 then (Φ ((-5 : Int32)) u0) else (if a1 < (u0 k0 4) then (w_J9_floorMod_7cf53 ((((u0 k0 5) - (1 : Int32)) - a1)) ((20 : Int32)) u0 (fun r4 u3 => (if a2 = 0 then (vp_in r4 20 ∧ (Φ ((u3 ((k0 + 1)) r4.toNatClampNeg)) u3)) else (if a2 = 1 then (vp_in r4 20 ∧ (Φ ((u3 ((k0 + 2)) r4.toNatClampNeg)) u3)) else (if a2 = 2 then (vp_in r4 20 ∧ (Φ ((u3 ((k0 + 3)) r4.toNatClampNeg)) u3)) else (vp_in r4 20 ∧ (Φ ((u3 ((k0 + 4)) r4.toNatClampNeg)) u3))))))) else (Φ ((-5 : Int32)) u0)))
set_option maxHeartbeats 4000000 in
set_option maxRecDepth 100000 in
theorem t_X0_property_0 {p : Program} {l : Launch} {e : Env} {s : State} {m : MethodId} {args : Array Value} {below : List Frame} {meth : Method} {c : Code} {D : va_G} {cA : Nat → ClassId} {o : Nat}  {Φ : Int32 → Mm → Prop} (C : Cx p m meth c s args cX0_property 4 wsX0_property RX0 (some .int) D (tysL cA)) : ∀ (k0 : Nat) (a1 : Int32) (a2 : Int32) (u0 : Mm), kd k0 = 0 → ∀ (H : Heap) (locs : List Loc) (ls : Array Slot), Hp 747 o D (EC cA o u0) s H locs → lv_has ls 4 [(0, .ref (o + k0)), (1, .int a1), (2, .int a2)] → w_X0_property k0 a1 a2 u0 Φ → W p l e rm_X0_property s m args below meth c H locs 0 0 (MQ below (Qg vI Φ (fun μ => Wd 747 o D (tysL cA) (EC cA o μ)) (aA o 747)) args s 0 0 (aA o 747)) (F0 m 0 ls []) := by
  intro k0 a1 a2 u0 hk0 H locs ls P hl h
  have hx := C.1.1
  have hb := C.1.2.1
  unfold w_X0_property at h
  refine lv_iload_n hx hb dX0_property_0 rfl (lv_at hl 1 rfl) ?_
  refine lv_if_lt (tgt := 12) hx hb dX0_property_1 (by decide) (fun c1 => ?_) (fun c1 => ?_)
  · have h := ite_t h c1
    refine lv_bipush (v := -5) hx hb dX0_property_12 (by decide) ?_
    exact r_ireti C P h dX0_property_14
  · have h := ite_f h c1
    refine lv_iload_n hx hb dX0_property_4 rfl (lv_at hl 1 rfl) ?_
    refine lv_aload_n hx hb dX0_property_5 rfl (lv_at hl 0 rfl) ?_
    refine g_0_4 C P in_X0_property_0 wd_X0_property_1 hk0 dX0_property_6 ?_
    refine lv_icmp_lt (tgt := 15) hx hb dX0_property_9 (by decide) (fun c2 => ?_) (fun c2 => ?_)
    · have h := ite_t h c2
      refine lv_aload_n hx hb dX0_property_15 rfl (lv_at hl 0 rfl) ?_
      refine g_0_5 C P in_X0_property_0 wd_X0_property_2 hk0 dX0_property_16 ?_
      refine lv_iconst (v := 1) hx hb dX0_property_19 (by decide) ?_
      refine lv_isub hx hb dX0_property_20 ?_
      refine lv_iload_n hx hb dX0_property_21 rfl (lv_at hl 1 rfl) ?_
      refine lv_isub hx hb dX0_property_22 ?_
      refine lv_bipush (v := 20) hx hb dX0_property_23 (by decide) ?_
      refine r_calli (F := EC cA o) (va_runS (As := [.int (((u0 k0 5) - (1 : Int32)) - a1), .int (20 : Int32)]) (rest := []) C.1 (c_J9_floorMod_7cf53 l D cA o _ _ u0 _ h) (va_cwS 2 C.1.2.2.2.2 gX0_property_J9_floorMod_7cf53 rfl rfl rfl (by decide +kernel) ⟨Nat.le_of_ble_eq_true rfl, Nat.le_of_ble_eq_true rfl⟩) (r_pre C P [.int (((u0 k0 5) - (1 : Int32)) - a1), .int (20 : Int32)]) rfl rfl hl.1 rfl (lv_room (Nat.le_of_ble_eq_true rfl)) dX0_property_25 ⟨Nat.le_of_ble_eq_true rfl, Nat.le_of_ble_eq_true rfl⟩) P.2 (fun r4 u3 H locs h P => ?_)
      refine lv_istore_n (lv' := [(3, .int r4), (0, .ref (o + k0)), (1, .int a1), (2, .int a2)]) hx hb dX0_property_28 rfl hl (by decide) rfl (fun ls hl => ?_)
      refine lv_iload_n hx hb dX0_property_29 rfl (lv_at hl 3 rfl) ?_
      by_cases c5 : a2 = 0
      · have h := ite_t h c5
        rw [c5]
        refine lv_tableIn (off := 26) (tgt := 56) hx hb dX0_property_30 (by decide) (by decide) (by decide) (by decide) ?_
        refine lv_aload_n hx hb dX0_property_56 rfl (lv_at hl 1 rfl) ?_
        refine g_0_0 C P in_X0_property_0 wd_X0_property_3 hk0 dX0_property_57 ?_
        refine lv_iload_n hx hb dX0_property_60 rfl (lv_at hl 0 rfl) ?_
        obtain ⟨hi, h⟩ := h
        refine ld_21 C P (kd_0_1 hk0) hi dX0_property_61 ?_
        exact r_ireti C P h dX0_property_62
      have h := ite_f h c5
      by_cases c6 : a2 = 1
      · have h := ite_t h c6
        rw [c6]
        refine lv_tableIn (off := 33) (tgt := 63) hx hb dX0_property_30 (by decide) (by decide) (by decide) (by decide) ?_
        refine lv_aload_n hx hb dX0_property_63 rfl (lv_at hl 1 rfl) ?_
        refine g_0_1 C P in_X0_property_0 wd_X0_property_4 hk0 dX0_property_64 ?_
        refine lv_iload_n hx hb dX0_property_67 rfl (lv_at hl 0 rfl) ?_
        obtain ⟨hi, h⟩ := h
        refine ld_21 C P (kd_0_2 hk0) hi dX0_property_68 ?_
        exact r_ireti C P h dX0_property_69
      have h := ite_f h c6
      by_cases c7 : a2 = 2
      · have h := ite_t h c7
        rw [c7]
        refine lv_tableIn (off := 40) (tgt := 70) hx hb dX0_property_30 (by decide) (by decide) (by decide) (by decide) ?_
        refine lv_aload_n hx hb dX0_property_70 rfl (lv_at hl 1 rfl) ?_
        refine g_0_2 C P in_X0_property_0 wd_X0_property_5 hk0 dX0_property_71 ?_
        refine lv_iload_n hx hb dX0_property_74 rfl (lv_at hl 0 rfl) ?_
        obtain ⟨hi, h⟩ := h
        refine ld_21 C P (kd_0_3 hk0) hi dX0_property_75 ?_
        exact r_ireti C P h dX0_property_76
      have h := ite_f h c7
      refine lv_tableOut (tgt := 77) hx hb dX0_property_30 (by have q0 : a2.toInt ≠ 0 := fun e => c5 (Int32.toInt_inj.mp e); have q1 : a2.toInt ≠ 1 := fun e => c6 (Int32.toInt_inj.mp e); have q2 : a2.toInt ≠ 2 := fun e => c7 (Int32.toInt_inj.mp e); omega) (by decide) ?_
      refine lv_aload_n hx hb dX0_property_77 rfl (lv_at hl 1 rfl) ?_
      refine g_0_3 C P in_X0_property_0 wd_X0_property_6 hk0 dX0_property_78 ?_
      refine lv_iload_n hx hb dX0_property_81 rfl (lv_at hl 0 rfl) ?_
      obtain ⟨hi, h⟩ := h
      refine ld_21 C P (kd_0_4 hk0) hi dX0_property_82 ?_
      exact r_ireti C P h dX0_property_83
    · have h := ite_f h c2
      refine lv_bipush (v := -5) hx hb dX0_property_12 (by decide) ?_
      exact r_ireti C P h dX0_property_14
set_option maxHeartbeats 4000000 in
set_option maxRecDepth 100000 in
theorem c_X0_property (l : Launch) (D : va_G) (cA : Nat → ClassId) (o : Nat) (k0 : Nat) (a1 : Int32) (a2 : Int32) (hk0 : kd k0 = 0) (u0 : Mm) (Φ : Int32 → Mm → Prop) (h : w_X0_property k0 a1 a2 u0 Φ) : Met l yX0_property wsX0_property rm_X0_property (va_Pc [.ref (o + k0), .int a1, .int a2] (Wd 747 o D (tysL cA) (EC cA o u0))) (Qg vI Φ (fun μ => Wd 747 o D (tysL cA) (EC cA o μ)) (aA o 747)) 0 0 (aA o 747) := by
  refine Met.ofW (cc := cX0_property) (maxL := 4) (ret := (some .int)) (by decide) rfl ?_
  intro p e s m args below meth c s₁ B hml hv
  obtain ⟨rfl, hv⟩ := hv
  have hl := lv_entry ([.ref (o + k0), .int a1, .int a2]) (n := 4) (Nat.le_of_ble_eq_true rfl)
  rw [lg_entry_eq]
  exact t_X0_property_0 ⟨⟨B.exec, B.bytes, hml, findClass_of_methodNamed B.named, atoms_spec (ws := wsX0_property) B.pre⟩, B.returns, B.notSynchronized, hv.2⟩ k0 a1 a2 u0 hk0 _ _ _ ⟨hv.1, va_S.rf⟩ hl h
abbrev rm_X1_setUp : Room := { frames := 0, cells := 0, slots := 0, locals := 0 }
theorem wd_X1_setUp_1 : Cond.fieldLink RX1 12 "TurnstileBank$Gate" "outer" "LTurnstileBank$Queue;" ∈ wsX1_setUp := List.mem_of_getElem? (i := 1) (by decide +kernel)
theorem wd_X1_setUp_2 : Cond.fieldLink RX1 25 "TurnstileBank$Queue" "length" "I" ∈ wsX1_setUp := List.mem_of_getElem? (i := 2) (by decide +kernel)
theorem wd_X1_setUp_3 : Cond.fieldLink RX1 18 "TurnstileBank$Gate" "inner" "LTurnstileBank$Queue;" ∈ wsX1_setUp := List.mem_of_getElem? (i := 3) (by decide +kernel)
theorem wd_X1_setUp_4 : Cond.fieldLink RX1 28 "TurnstileBank$Gate" "direction" "I" ∈ wsX1_setUp := List.mem_of_getElem? (i := 4) (by decide +kernel)
theorem wd_X1_setUp_5 : Cond.fieldLink RX1 31 "TurnstileBank$Gate" "opening" "I" ∈ wsX1_setUp := List.mem_of_getElem? (i := 5) (by decide +kernel)
theorem wd_X1_setUp_6 : Cond.fieldLink RX1 34 "TurnstileBank$Gate" "hold" "I" ∈ wsX1_setUp := List.mem_of_getElem? (i := 6) (by decide +kernel)
theorem wd_X1_setUp_7 : Cond.fieldLink RX1 37 "TurnstileBank$Gate" "closing" "I" ∈ wsX1_setUp := List.mem_of_getElem? (i := 7) (by decide +kernel)
theorem wd_X1_setUp_8 : Cond.fieldLink RX1 40 "TurnstileBank$Gate" "state" "I" ∈ wsX1_setUp := List.mem_of_getElem? (i := 8) (by decide +kernel)
theorem wd_X1_setUp_9 : Cond.fieldLink RX1 43 "TurnstileBank$Gate" "left" "I" ∈ wsX1_setUp := List.mem_of_getElem? (i := 9) (by decide +kernel)
theorem wd_X1_setUp_10 : Cond.fieldLink RX1 21 "TurnstileBank$Gate" "person" "I" ∈ wsX1_setUp := List.mem_of_getElem? (i := 10) (by decide +kernel)
theorem wd_X1_setUp_11 : Cond.fieldLink RX1 46 "TurnstileBank$Gate" "pinchTold" "Z" ∈ wsX1_setUp := List.mem_of_getElem? (i := 11) (by decide +kernel)
theorem wd_X1_setUp_12 : Cond.fieldLink RX1 50 "TurnstileBank$Gate" "pinchesOfPerson" "I" ∈ wsX1_setUp := List.mem_of_getElem? (i := 12) (by decide +kernel)
theorem wd_X1_setUp_13 : Cond.fieldLink RX1 53 "TurnstileBank$Gate" "passedIn" "I" ∈ wsX1_setUp := List.mem_of_getElem? (i := 13) (by decide +kernel)
theorem wd_X1_setUp_14 : Cond.fieldLink RX1 56 "TurnstileBank$Gate" "passedOut" "I" ∈ wsX1_setUp := List.mem_of_getElem? (i := 14) (by decide +kernel)
theorem wd_X1_setUp_15 : Cond.fieldLink RX1 59 "TurnstileBank$Gate" "refused" "I" ∈ wsX1_setUp := List.mem_of_getElem? (i := 15) (by decide +kernel)
theorem wd_X1_setUp_16 : Cond.fieldLink RX1 62 "TurnstileBank$Gate" "pinches" "I" ∈ wsX1_setUp := List.mem_of_getElem? (i := 16) (by decide +kernel)
theorem in_X1_setUp_1 : ∀ w ∈ wsX10, w ∈ wsX1_setUp := fun w h => List.mem_cons_of_mem _ (List.mem_append_left _ (List.mem_append_right _ h))
theorem in_X1_setUp_7 : ∀ w ∈ wsX70, w ∈ wsX1_setUp := fun w h => List.mem_cons_of_mem _ (List.mem_append_right _ h)
def w_X1_setUp (k0 : Nat) (a1 : Int32) (a2 : Int32) (a3 : Int32) (a4 : Int32) (u0 : Mm) (Φ : Unit → Mm → Prop) : Prop := (∀ u1 : Mm, u1 = up2 u0 ((k0 + 1)) 1 (0 : Int32) → (∀ u2 : Mm, u2 = up2 u1 ((k0 + 3)) 1 (0 : Int32) → (∀ u3 : Mm, u3 = up2 u2 k0 2 a1 → (∀ u4 : Mm, u4 = up2 u3 k0 3 a2 → (∀ u5 : Mm, u5 = up2 u4 k0 4 a3 → (∀ u6 : Mm, u6 = up2 u5 k0 5 a4 → (∀ u7 : Mm, u7 = up2 u6 k0 6 (0 : Int32) → (∀ u8 : Mm, u8 = up2 u7 k0 7 (0 : Int32) → (∀ u9 : Mm, u9 = up2 u8 k0 8 (-5 : Int32) → (∀ u10 : Mm, u10 = up2 u9 k0 9 (0 : Int32) → (∀ u11 : Mm, u11 = up2 u10 k0 10 (0 : Int32) → (∀ u12 : Mm, u12 = up2 u11 k0 11 (0 : Int32) → (∀ u13 : Mm, u13 = up2 u12 k0 12 (0 : Int32) → (∀ u14 : Mm, u14 = up2 u13 k0 13 (0 : Int32) → (∀ u15 : Mm, u15 = up2 u14 k0 14 (0 : Int32) → (Φ () u15))))))))))))))))
set_option maxHeartbeats 4000000 in
set_option maxRecDepth 100000 in
theorem t_X1_setUp_0 {p : Program} {l : Launch} {e : Env} {s : State} {m : MethodId} {args : Array Value} {below : List Frame} {meth : Method} {c : Code} {D : va_G} {cA : Nat → ClassId} {o : Nat}  {Φ : Unit → Mm → Prop} (C : Cx p m meth c s args cX1_setUp 5 wsX1_setUp RX1 none D (tysL cA)) : ∀ (k0 : Nat) (a1 : Int32) (a2 : Int32) (a3 : Int32) (a4 : Int32) (u0 : Mm), kd k0 = 1 → ∀ (H : Heap) (locs : List Loc) (ls : Array Slot), Hp 747 o D (EC cA o u0) s H locs → lv_has ls 5 [(0, .ref (o + k0)), (1, .int a1), (2, .int a2), (3, .int a3), (4, .int a4)] → w_X1_setUp k0 a1 a2 a3 a4 u0 Φ → W p l e rm_X1_setUp s m args below meth c H locs 0 0 (MQ below (Qg vV Φ (fun μ => Wd 747 o D (tysL cA) (EC cA o μ)) (aA o 747)) args s 0 0 (aA o 747)) (F0 m 0 ls []) := by
  intro k0 a1 a2 a3 a4 u0 hk0 H locs ls P hl h
  have hx := C.1.1
  have hb := C.1.2.1
  unfold w_X1_setUp at h
  refine lv_aload_n hx hb dX1_setUp_0 rfl (lv_at hl 0 rfl) ?_
  refine g_1_0 C P in_X1_setUp_1 wd_X1_setUp_1 hk0 dX1_setUp_1 ?_
  refine lv_iconst (v := 0) hx hb dX1_setUp_4 (by decide) ?_
  refine p_7_1 C P in_X1_setUp_7 wd_X1_setUp_2 (kd_1_1 hk0) dX1_setUp_5 (fun u1 eu1 H locs P => ?_)
  have h := h u1 eu1
  refine lv_aload_n hx hb dX1_setUp_8 rfl (lv_at hl 0 rfl) ?_
  refine g_1_1 C P in_X1_setUp_1 wd_X1_setUp_3 hk0 dX1_setUp_9 ?_
  refine lv_iconst (v := 0) hx hb dX1_setUp_12 (by decide) ?_
  refine p_7_1 C P in_X1_setUp_7 wd_X1_setUp_2 (kd_1_3 hk0) dX1_setUp_13 (fun u2 eu2 H locs P => ?_)
  have h := h u2 eu2
  refine lv_aload_n hx hb dX1_setUp_16 rfl (lv_at hl 0 rfl) ?_
  refine lv_iload_n hx hb dX1_setUp_17 rfl (lv_at hl 1 rfl) ?_
  refine p_1_2 C P in_X1_setUp_1 wd_X1_setUp_4 hk0 dX1_setUp_18 (fun u3 eu3 H locs P => ?_)
  have h := h u3 eu3
  refine lv_aload_n hx hb dX1_setUp_21 rfl (lv_at hl 0 rfl) ?_
  refine lv_iload_n hx hb dX1_setUp_22 rfl (lv_at hl 2 rfl) ?_
  refine p_1_3 C P in_X1_setUp_1 wd_X1_setUp_5 hk0 dX1_setUp_23 (fun u4 eu4 H locs P => ?_)
  have h := h u4 eu4
  refine lv_aload_n hx hb dX1_setUp_26 rfl (lv_at hl 0 rfl) ?_
  refine lv_iload_n hx hb dX1_setUp_27 rfl (lv_at hl 3 rfl) ?_
  refine p_1_4 C P in_X1_setUp_1 wd_X1_setUp_6 hk0 dX1_setUp_28 (fun u5 eu5 H locs P => ?_)
  have h := h u5 eu5
  refine lv_aload_n hx hb dX1_setUp_31 rfl (lv_at hl 0 rfl) ?_
  refine lv_iload hx hb dX1_setUp_32 (lv_at hl 4 rfl) ?_
  refine p_1_5 C P in_X1_setUp_1 wd_X1_setUp_7 hk0 dX1_setUp_34 (fun u6 eu6 H locs P => ?_)
  have h := h u6 eu6
  refine lv_aload_n hx hb dX1_setUp_37 rfl (lv_at hl 0 rfl) ?_
  refine lv_iconst (v := 0) hx hb dX1_setUp_38 (by decide) ?_
  refine p_1_6 C P in_X1_setUp_1 wd_X1_setUp_8 hk0 dX1_setUp_39 (fun u7 eu7 H locs P => ?_)
  have h := h u7 eu7
  refine lv_aload_n hx hb dX1_setUp_42 rfl (lv_at hl 0 rfl) ?_
  refine lv_iconst (v := 0) hx hb dX1_setUp_43 (by decide) ?_
  refine p_1_7 C P in_X1_setUp_1 wd_X1_setUp_9 hk0 dX1_setUp_44 (fun u8 eu8 H locs P => ?_)
  have h := h u8 eu8
  refine lv_aload_n hx hb dX1_setUp_47 rfl (lv_at hl 0 rfl) ?_
  refine lv_bipush (v := -5) hx hb dX1_setUp_48 (by decide) ?_
  refine p_1_8 C P in_X1_setUp_1 wd_X1_setUp_10 hk0 dX1_setUp_50 (fun u9 eu9 H locs P => ?_)
  have h := h u9 eu9
  refine lv_aload_n hx hb dX1_setUp_53 rfl (lv_at hl 0 rfl) ?_
  refine lv_iconst (v := 0) hx hb dX1_setUp_54 (by decide) ?_
  refine p_1_9 C P in_X1_setUp_1 wd_X1_setUp_11 hk0 (Or.inl rfl) dX1_setUp_55 (fun u10 eu10 H locs P => ?_)
  have h := h u10 eu10
  refine lv_aload_n hx hb dX1_setUp_58 rfl (lv_at hl 0 rfl) ?_
  refine lv_iconst (v := 0) hx hb dX1_setUp_59 (by decide) ?_
  refine p_1_10 C P in_X1_setUp_1 wd_X1_setUp_12 hk0 dX1_setUp_60 (fun u11 eu11 H locs P => ?_)
  have h := h u11 eu11
  refine lv_aload_n hx hb dX1_setUp_63 rfl (lv_at hl 0 rfl) ?_
  refine lv_iconst (v := 0) hx hb dX1_setUp_64 (by decide) ?_
  refine p_1_11 C P in_X1_setUp_1 wd_X1_setUp_13 hk0 dX1_setUp_65 (fun u12 eu12 H locs P => ?_)
  have h := h u12 eu12
  refine lv_aload_n hx hb dX1_setUp_68 rfl (lv_at hl 0 rfl) ?_
  refine lv_iconst (v := 0) hx hb dX1_setUp_69 (by decide) ?_
  refine p_1_12 C P in_X1_setUp_1 wd_X1_setUp_14 hk0 dX1_setUp_70 (fun u13 eu13 H locs P => ?_)
  have h := h u13 eu13
  refine lv_aload_n hx hb dX1_setUp_73 rfl (lv_at hl 0 rfl) ?_
  refine lv_iconst (v := 0) hx hb dX1_setUp_74 (by decide) ?_
  refine p_1_13 C P in_X1_setUp_1 wd_X1_setUp_15 hk0 dX1_setUp_75 (fun u14 eu14 H locs P => ?_)
  have h := h u14 eu14
  refine lv_aload_n hx hb dX1_setUp_78 rfl (lv_at hl 0 rfl) ?_
  refine lv_iconst (v := 0) hx hb dX1_setUp_79 (by decide) ?_
  refine p_1_14 C P in_X1_setUp_1 wd_X1_setUp_16 hk0 dX1_setUp_80 (fun u15 eu15 H locs P => ?_)
  have h := h u15 eu15
  exact r_ret C P h dX1_setUp_83
set_option maxHeartbeats 4000000 in
set_option maxRecDepth 100000 in
theorem c_X1_setUp (l : Launch) (D : va_G) (cA : Nat → ClassId) (o : Nat) (k0 : Nat) (a1 : Int32) (a2 : Int32) (a3 : Int32) (a4 : Int32) (hk0 : kd k0 = 1) (u0 : Mm) (Φ : Unit → Mm → Prop) (h : w_X1_setUp k0 a1 a2 a3 a4 u0 Φ) : Met l yX1_setUp wsX1_setUp rm_X1_setUp (va_Pc [.ref (o + k0), .int a1, .int a2, .int a3, .int a4] (Wd 747 o D (tysL cA) (EC cA o u0))) (Qg vV Φ (fun μ => Wd 747 o D (tysL cA) (EC cA o μ)) (aA o 747)) 0 0 (aA o 747) := by
  refine Met.ofW (cc := cX1_setUp) (maxL := 5) (ret := none) (by decide) rfl ?_
  intro p e s m args below meth c s₁ B hml hv
  obtain ⟨rfl, hv⟩ := hv
  have hl := lv_entry ([.ref (o + k0), .int a1, .int a2, .int a3, .int a4]) (n := 5) (Nat.le_of_ble_eq_true rfl)
  rw [lg_entry_eq]
  exact t_X1_setUp_0 ⟨⟨B.exec, B.bytes, hml, findClass_of_methodNamed B.named, atoms_spec (ws := wsX1_setUp) B.pre⟩, B.returns, B.notSynchronized, hv.2⟩ k0 a1 a2 a3 a4 u0 hk0 _ _ _ ⟨hv.1, va_S.rf⟩ hl h
abbrev rm_X7_copyFrom : Room := { frames := 1, cells := 0, slots := 0, locals := 40 }
theorem wd_X7_copyFrom_1 : Cond.fieldLink RX7 15 "TurnstileBank$Queue" "length" "I" ∈ wsX7_copyFrom := List.mem_of_getElem? (i := 1) (by decide +kernel)
theorem wd_X7_copyFrom_2 : Cond.fieldLink RX7 9 "TurnstileBank$Queue" "people" "[I" ∈ wsX7_copyFrom := List.mem_of_getElem? (i := 2) (by decide +kernel)
theorem wd_X7_copyFrom_3 : Cond.methodLink RX7 19 Lib.Math.min.name ∈ wsX7_copyFrom := List.mem_of_getElem? (i := 3) (by decide +kernel)
theorem wd_X7_copyFrom_4 : Cond.static Lib.Math.min.name ∈ wsX7_copyFrom := List.mem_of_getElem? (i := 4) (by decide +kernel)
theorem wd_X7_copyFrom_5 : Cond.initialized "java/lang/Math" ∈ wsX7_copyFrom := List.mem_of_getElem? (i := 5) (by decide +kernel)
theorem wd_X7_copyFrom_6 : Cond.code Lib.Math.min.name Lib.Math.min.code 2 (some .int) ∈ wsX7_copyFrom := List.mem_of_getElem? (i := 6) (by decide +kernel)
theorem wd_X7_copyFrom_7 : Cond.methodLink RX7 25 arraycopyName ∈ wsX7_copyFrom := List.mem_of_getElem? (i := 7) (by decide +kernel)
theorem wd_X7_copyFrom_8 : Cond.native arraycopyName ∈ wsX7_copyFrom := List.mem_of_getElem? (i := 8) (by decide +kernel)
theorem wd_X7_copyFrom_9 : Cond.static arraycopyName ∈ wsX7_copyFrom := List.mem_of_getElem? (i := 9) (by decide +kernel)
theorem wd_X7_copyFrom_10 : Cond.initialized "java/lang/System" ∈ wsX7_copyFrom := List.mem_of_getElem? (i := 10) (by decide +kernel)
theorem in_X7_copyFrom_7 : ∀ w ∈ wsX70, w ∈ wsX7_copyFrom := fun w h => List.mem_cons_of_mem _ (List.mem_append_right _ h)
def w_X7_copyFrom (k0 : Nat) (k1 : Nat) (u0 : Mm) (Φ : Unit → Mm → Prop) : Prop := (∀ u1 : Mm, u1 = up2 u0 k0 1 (if (40 : Int32) < (u0 k1 1) then (40 : Int32) else (u0 k1 1)) → (¬ (0 : Int32) < 0 ∧ ¬ (0 : Int32) < 0 ∧ ¬ (u1 k0 1) < 0 ∧ (0 : Int32).toNatClampNeg + (u1 k0 1).toNatClampNeg ≤ 40 ∧ (0 : Int32).toNatClampNeg + (u1 k0 1).toNatClampNeg ≤ 40 ∧ ∀ u2 : Mm, u2 = upA u1 ((k0 + 1)) (va_cpy (u1 ((k1 + 1))) (u1 ((k0 + 1))) (0 : Int32).toNatClampNeg (0 : Int32).toNatClampNeg (u1 k0 1).toNatClampNeg) → (Φ () u2)))
set_option maxHeartbeats 4000000 in
set_option maxRecDepth 100000 in
theorem t_X7_copyFrom_0 {p : Program} {l : Launch} {e : Env} {s : State} {m : MethodId} {args : Array Value} {below : List Frame} {meth : Method} {c : Code} {D : va_G} {cA : Nat → ClassId} {o : Nat}  {Φ : Unit → Mm → Prop} (C : Cx p m meth c s args cX7_copyFrom 2 wsX7_copyFrom RX7 none D (tysL cA)) : ∀ (k0 : Nat) (k1 : Nat) (u0 : Mm), kd k0 = 7 → kd k1 = 7 → ∀ (H : Heap) (locs : List Loc) (ls : Array Slot), Hp 747 o D (EC cA o u0) s H locs → lv_has ls 2 [(0, .ref (o + k0)), (1, .ref (o + k1))] → w_X7_copyFrom k0 k1 u0 Φ → W p l e rm_X7_copyFrom s m args below meth c H locs 0 0 (MQ below (Qg vV Φ (fun μ => Wd 747 o D (tysL cA) (EC cA o μ)) (aA o 747)) args s 0 0 (aA o 747)) (F0 m 0 ls []) := by
  intro k0 k1 u0 hk0 hk1 H locs ls P hl h
  have hx := C.1.1
  have hb := C.1.2.1
  unfold w_X7_copyFrom at h
  refine lv_aload_n hx hb dX7_copyFrom_0 rfl (lv_at hl 0 rfl) ?_
  refine lv_aload_n hx hb dX7_copyFrom_1 rfl (lv_at hl 1 rfl) ?_
  refine g_7_1 C P in_X7_copyFrom_7 wd_X7_copyFrom_1 hk1 dX7_copyFrom_2 ?_
  refine lv_aload_n hx hb dX7_copyFrom_5 rfl (lv_at hl 0 rfl) ?_
  refine g_7_0 C P in_X7_copyFrom_7 wd_X7_copyFrom_2 hk0 dX7_copyFrom_6 ?_
  refine al_20 C P (kd_7_1 hk0) dX7_copyFrom_9 ?_
  refine va_mmin hx hb (C.1.2.2.1.trans hl.1.symm) C.1.2.2.2.1 (C.1.2.2.2.2 _ wd_X7_copyFrom_3) (C.1.2.2.2.2 _ wd_X7_copyFrom_4) (C.1.2.2.2.2 _ wd_X7_copyFrom_5) (C.1.2.2.2.2 _ wd_X7_copyFrom_6) (Nat.le_of_ble_eq_true rfl) (Nat.le_of_ble_eq_true rfl) (Nat.le_of_ble_eq_true rfl) (Nat.le_of_ble_eq_true rfl) dX7_copyFrom_10 ?_
  refine p_7_1 C P in_X7_copyFrom_7 wd_X7_copyFrom_1 hk0 dX7_copyFrom_13 (fun u1 eu1 H locs P => ?_)
  have h := h u1 eu1
  refine lv_aload_n hx hb dX7_copyFrom_16 rfl (lv_at hl 1 rfl) ?_
  refine g_7_0 C P in_X7_copyFrom_7 wd_X7_copyFrom_2 hk1 dX7_copyFrom_17 ?_
  refine lv_iconst (v := 0) hx hb dX7_copyFrom_20 (by decide) ?_
  refine lv_aload_n hx hb dX7_copyFrom_21 rfl (lv_at hl 0 rfl) ?_
  refine g_7_0 C P in_X7_copyFrom_7 wd_X7_copyFrom_2 hk0 dX7_copyFrom_22 ?_
  refine lv_iconst (v := 0) hx hb dX7_copyFrom_25 (by decide) ?_
  refine lv_aload_n hx hb dX7_copyFrom_26 rfl (lv_at hl 0 rfl) ?_
  refine g_7_1 C P in_X7_copyFrom_7 wd_X7_copyFrom_1 hk0 dX7_copyFrom_27 ?_
  obtain ⟨h1, h2, h3, h4, h5, h⟩ := h
  refine cp_20 C P (kd_7_1 hk1) (kd_7_1 hk0) (C.1.2.2.2.2 _ wd_X7_copyFrom_7) (C.1.2.2.2.2 _ wd_X7_copyFrom_8) (C.1.2.2.2.2 _ wd_X7_copyFrom_9) (C.1.2.2.2.2 _ wd_X7_copyFrom_10) (Nat.le_of_ble_eq_true rfl) (Nat.le_of_ble_eq_true rfl) hl.1 h1 h2 h3 h4 h5 dX7_copyFrom_30 (fun u2 eu2 H locs P => ?_)
  have h := h u2 eu2
  exact r_ret C P h dX7_copyFrom_33
set_option maxHeartbeats 4000000 in
set_option maxRecDepth 100000 in
theorem c_X7_copyFrom (l : Launch) (D : va_G) (cA : Nat → ClassId) (o : Nat) (k0 : Nat) (k1 : Nat) (hk0 : kd k0 = 7) (hk1 : kd k1 = 7) (u0 : Mm) (Φ : Unit → Mm → Prop) (h : w_X7_copyFrom k0 k1 u0 Φ) : Met l yX7_copyFrom wsX7_copyFrom rm_X7_copyFrom (va_Pc [.ref (o + k0), .ref (o + k1)] (Wd 747 o D (tysL cA) (EC cA o u0))) (Qg vV Φ (fun μ => Wd 747 o D (tysL cA) (EC cA o μ)) (aA o 747)) 0 0 (aA o 747) := by
  refine Met.ofW (cc := cX7_copyFrom) (maxL := 2) (ret := none) (by decide) rfl ?_
  intro p e s m args below meth c s₁ B hml hv
  obtain ⟨rfl, hv⟩ := hv
  have hl := lv_entry ([.ref (o + k0), .ref (o + k1)]) (n := 2) (Nat.le_of_ble_eq_true rfl)
  rw [lg_entry_eq]
  exact t_X7_copyFrom_0 ⟨⟨B.exec, B.bytes, hml, findClass_of_methodNamed B.named, atoms_spec (ws := wsX7_copyFrom) B.pre⟩, B.returns, B.notSynchronized, hv.2⟩ k0 k1 u0 hk0 hk1 _ _ _ ⟨hv.1, va_S.rf⟩ hl h
abbrev rm_X1_copyFrom : Room := { frames := 2, cells := 0, slots := 0, locals := 61 }
theorem wd_X1_copyFrom_1 : Cond.fieldLink RX1 12 "TurnstileBank$Gate" "outer" "LTurnstileBank$Queue;" ∈ wsX1_copyFrom := List.mem_of_getElem? (i := 1) (by decide +kernel)
theorem wd_X1_copyFrom_2 : Cond.fieldLink RX1 18 "TurnstileBank$Gate" "inner" "LTurnstileBank$Queue;" ∈ wsX1_copyFrom := List.mem_of_getElem? (i := 2) (by decide +kernel)
theorem wd_X1_copyFrom_3 : Cond.fieldLink RX1 28 "TurnstileBank$Gate" "direction" "I" ∈ wsX1_copyFrom := List.mem_of_getElem? (i := 3) (by decide +kernel)
theorem wd_X1_copyFrom_4 : Cond.fieldLink RX1 31 "TurnstileBank$Gate" "opening" "I" ∈ wsX1_copyFrom := List.mem_of_getElem? (i := 4) (by decide +kernel)
theorem wd_X1_copyFrom_5 : Cond.fieldLink RX1 34 "TurnstileBank$Gate" "hold" "I" ∈ wsX1_copyFrom := List.mem_of_getElem? (i := 5) (by decide +kernel)
theorem wd_X1_copyFrom_6 : Cond.fieldLink RX1 37 "TurnstileBank$Gate" "closing" "I" ∈ wsX1_copyFrom := List.mem_of_getElem? (i := 6) (by decide +kernel)
theorem wd_X1_copyFrom_7 : Cond.fieldLink RX1 40 "TurnstileBank$Gate" "state" "I" ∈ wsX1_copyFrom := List.mem_of_getElem? (i := 7) (by decide +kernel)
theorem wd_X1_copyFrom_8 : Cond.fieldLink RX1 43 "TurnstileBank$Gate" "left" "I" ∈ wsX1_copyFrom := List.mem_of_getElem? (i := 8) (by decide +kernel)
theorem wd_X1_copyFrom_9 : Cond.fieldLink RX1 21 "TurnstileBank$Gate" "person" "I" ∈ wsX1_copyFrom := List.mem_of_getElem? (i := 9) (by decide +kernel)
theorem wd_X1_copyFrom_10 : Cond.fieldLink RX1 46 "TurnstileBank$Gate" "pinchTold" "Z" ∈ wsX1_copyFrom := List.mem_of_getElem? (i := 10) (by decide +kernel)
theorem wd_X1_copyFrom_11 : Cond.fieldLink RX1 50 "TurnstileBank$Gate" "pinchesOfPerson" "I" ∈ wsX1_copyFrom := List.mem_of_getElem? (i := 11) (by decide +kernel)
theorem wd_X1_copyFrom_12 : Cond.fieldLink RX1 53 "TurnstileBank$Gate" "passedIn" "I" ∈ wsX1_copyFrom := List.mem_of_getElem? (i := 12) (by decide +kernel)
theorem wd_X1_copyFrom_13 : Cond.fieldLink RX1 56 "TurnstileBank$Gate" "passedOut" "I" ∈ wsX1_copyFrom := List.mem_of_getElem? (i := 13) (by decide +kernel)
theorem wd_X1_copyFrom_14 : Cond.fieldLink RX1 59 "TurnstileBank$Gate" "refused" "I" ∈ wsX1_copyFrom := List.mem_of_getElem? (i := 14) (by decide +kernel)
theorem wd_X1_copyFrom_15 : Cond.fieldLink RX1 62 "TurnstileBank$Gate" "pinches" "I" ∈ wsX1_copyFrom := List.mem_of_getElem? (i := 15) (by decide +kernel)
theorem in_X1_copyFrom_1 : ∀ w ∈ wsX10, w ∈ wsX1_copyFrom := fun w h => List.mem_cons_of_mem _ (List.mem_append_left _ (List.mem_append_right _ h))
def w_X1_copyFrom (k0 : Nat) (k1 : Nat) (u0 : Mm) (Φ : Unit → Mm → Prop) : Prop := (w_X7_copyFrom ((k0 + 1)) ((k1 + 1)) u0 (fun _ u1 => (w_X7_copyFrom ((k0 + 3)) ((k1 + 3)) u1 (fun _ u3 => (∀ u5 : Mm, u5 = up2 u3 k0 2 (u3 k1 2) → (∀ u6 : Mm, u6 = up2 u5 k0 3 (u5 k1 3) → (∀ u7 : Mm, u7 = up2 u6 k0 4 (u6 k1 4) → (∀ u8 : Mm, u8 = up2 u7 k0 5 (u7 k1 5) → (∀ u9 : Mm, u9 = up2 u8 k0 6 (u8 k1 6) → (∀ u10 : Mm, u10 = up2 u9 k0 7 (u9 k1 7) → (∀ u11 : Mm, u11 = up2 u10 k0 8 (u10 k1 8) → (isB (u11 k1 9) ∧ ∀ u12 : Mm, u12 = up2 u11 k0 9 (u11 k1 9) → (∀ u13 : Mm, u13 = up2 u12 k0 10 (u12 k1 10) → (∀ u14 : Mm, u14 = up2 u13 k0 11 (u13 k1 11) → (∀ u15 : Mm, u15 = up2 u14 k0 12 (u14 k1 12) → (∀ u16 : Mm, u16 = up2 u15 k0 13 (u15 k1 13) → (∀ u17 : Mm, u17 = up2 u16 k0 14 (u16 k1 14) → (Φ () u17))))))))))))))))))
set_option maxHeartbeats 4000000 in
set_option maxRecDepth 100000 in
theorem t_X1_copyFrom_0 {p : Program} {l : Launch} {e : Env} {s : State} {m : MethodId} {args : Array Value} {below : List Frame} {meth : Method} {c : Code} {D : va_G} {cA : Nat → ClassId} {o : Nat}  {Φ : Unit → Mm → Prop} (C : Cx p m meth c s args cX1_copyFrom 2 wsX1_copyFrom RX1 none D (tysL cA)) : ∀ (k0 : Nat) (k1 : Nat) (u0 : Mm), kd k0 = 1 → kd k1 = 1 → ∀ (H : Heap) (locs : List Loc) (ls : Array Slot), Hp 747 o D (EC cA o u0) s H locs → lv_has ls 2 [(0, .ref (o + k0)), (1, .ref (o + k1))] → w_X1_copyFrom k0 k1 u0 Φ → W p l e rm_X1_copyFrom s m args below meth c H locs 0 0 (MQ below (Qg vV Φ (fun μ => Wd 747 o D (tysL cA) (EC cA o μ)) (aA o 747)) args s 0 0 (aA o 747)) (F0 m 0 ls []) := by
  intro k0 k1 u0 hk0 hk1 H locs ls P hl h
  have hx := C.1.1
  have hb := C.1.2.1
  unfold w_X1_copyFrom at h
  refine lv_aload_n hx hb dX1_copyFrom_0 rfl (lv_at hl 0 rfl) ?_
  refine g_1_0 C P in_X1_copyFrom_1 wd_X1_copyFrom_1 hk0 dX1_copyFrom_1 ?_
  refine lv_aload_n hx hb dX1_copyFrom_4 rfl (lv_at hl 1 rfl) ?_
  refine g_1_0 C P in_X1_copyFrom_1 wd_X1_copyFrom_1 hk1 dX1_copyFrom_5 ?_
  refine r_callv (F := EC cA o) (va_runV (As := [.ref (o + (k1 + 1))]) (rest := []) C.1 (c_X7_copyFrom l D cA o _ _ (kd_1_1 hk0) (kd_1_1 hk1) u0 _ h) (cwV 1 C.1.2.2.2.2 gX1_copyFrom_X7_copyFrom rfl rfl rfl (by decide +kernel) ⟨Nat.le_of_ble_eq_true rfl, Nat.le_of_ble_eq_true rfl⟩) (r_preV C P [.ref (o + (k1 + 1))] (ci := 7) rfl (kd_lt (kd_1_1 hk0) (by decide)) (EK_7 (kd_1_1 hk0))) rfl rfl hl.1 rfl (lv_room (Nat.le_of_ble_eq_true rfl)) dX1_copyFrom_8 ⟨Nat.le_of_ble_eq_true rfl, Nat.le_of_ble_eq_true rfl⟩) P.2 (fun u1 H locs h P => ?_)
  refine lv_aload_n hx hb dX1_copyFrom_11 rfl (lv_at hl 0 rfl) ?_
  refine g_1_1 C P in_X1_copyFrom_1 wd_X1_copyFrom_2 hk0 dX1_copyFrom_12 ?_
  refine lv_aload_n hx hb dX1_copyFrom_15 rfl (lv_at hl 1 rfl) ?_
  refine g_1_1 C P in_X1_copyFrom_1 wd_X1_copyFrom_2 hk1 dX1_copyFrom_16 ?_
  refine r_callv (F := EC cA o) (va_runV (As := [.ref (o + (k1 + 3))]) (rest := []) C.1 (c_X7_copyFrom l D cA o _ _ (kd_1_3 hk0) (kd_1_3 hk1) u1 _ h) (cwV 1 C.1.2.2.2.2 gX1_copyFrom_X7_copyFrom rfl rfl rfl (by decide +kernel) ⟨Nat.le_of_ble_eq_true rfl, Nat.le_of_ble_eq_true rfl⟩) (r_preV C P [.ref (o + (k1 + 3))] (ci := 7) rfl (kd_lt (kd_1_3 hk0) (by decide)) (EK_7 (kd_1_3 hk0))) rfl rfl hl.1 rfl (lv_room (Nat.le_of_ble_eq_true rfl)) dX1_copyFrom_19 ⟨Nat.le_of_ble_eq_true rfl, Nat.le_of_ble_eq_true rfl⟩) P.2 (fun u3 H locs h P => ?_)
  refine lv_aload_n hx hb dX1_copyFrom_22 rfl (lv_at hl 0 rfl) ?_
  refine lv_aload_n hx hb dX1_copyFrom_23 rfl (lv_at hl 1 rfl) ?_
  refine g_1_2 C P in_X1_copyFrom_1 wd_X1_copyFrom_3 hk1 dX1_copyFrom_24 ?_
  refine p_1_2 C P in_X1_copyFrom_1 wd_X1_copyFrom_3 hk0 dX1_copyFrom_27 (fun u5 eu5 H locs P => ?_)
  have h := h u5 eu5
  refine lv_aload_n hx hb dX1_copyFrom_30 rfl (lv_at hl 0 rfl) ?_
  refine lv_aload_n hx hb dX1_copyFrom_31 rfl (lv_at hl 1 rfl) ?_
  refine g_1_3 C P in_X1_copyFrom_1 wd_X1_copyFrom_4 hk1 dX1_copyFrom_32 ?_
  refine p_1_3 C P in_X1_copyFrom_1 wd_X1_copyFrom_4 hk0 dX1_copyFrom_35 (fun u6 eu6 H locs P => ?_)
  have h := h u6 eu6
  refine lv_aload_n hx hb dX1_copyFrom_38 rfl (lv_at hl 0 rfl) ?_
  refine lv_aload_n hx hb dX1_copyFrom_39 rfl (lv_at hl 1 rfl) ?_
  refine g_1_4 C P in_X1_copyFrom_1 wd_X1_copyFrom_5 hk1 dX1_copyFrom_40 ?_
  refine p_1_4 C P in_X1_copyFrom_1 wd_X1_copyFrom_5 hk0 dX1_copyFrom_43 (fun u7 eu7 H locs P => ?_)
  have h := h u7 eu7
  refine lv_aload_n hx hb dX1_copyFrom_46 rfl (lv_at hl 0 rfl) ?_
  refine lv_aload_n hx hb dX1_copyFrom_47 rfl (lv_at hl 1 rfl) ?_
  refine g_1_5 C P in_X1_copyFrom_1 wd_X1_copyFrom_6 hk1 dX1_copyFrom_48 ?_
  refine p_1_5 C P in_X1_copyFrom_1 wd_X1_copyFrom_6 hk0 dX1_copyFrom_51 (fun u8 eu8 H locs P => ?_)
  have h := h u8 eu8
  refine lv_aload_n hx hb dX1_copyFrom_54 rfl (lv_at hl 0 rfl) ?_
  refine lv_aload_n hx hb dX1_copyFrom_55 rfl (lv_at hl 1 rfl) ?_
  refine g_1_6 C P in_X1_copyFrom_1 wd_X1_copyFrom_7 hk1 dX1_copyFrom_56 ?_
  refine p_1_6 C P in_X1_copyFrom_1 wd_X1_copyFrom_7 hk0 dX1_copyFrom_59 (fun u9 eu9 H locs P => ?_)
  have h := h u9 eu9
  refine lv_aload_n hx hb dX1_copyFrom_62 rfl (lv_at hl 0 rfl) ?_
  refine lv_aload_n hx hb dX1_copyFrom_63 rfl (lv_at hl 1 rfl) ?_
  refine g_1_7 C P in_X1_copyFrom_1 wd_X1_copyFrom_8 hk1 dX1_copyFrom_64 ?_
  refine p_1_7 C P in_X1_copyFrom_1 wd_X1_copyFrom_8 hk0 dX1_copyFrom_67 (fun u10 eu10 H locs P => ?_)
  have h := h u10 eu10
  refine lv_aload_n hx hb dX1_copyFrom_70 rfl (lv_at hl 0 rfl) ?_
  refine lv_aload_n hx hb dX1_copyFrom_71 rfl (lv_at hl 1 rfl) ?_
  refine g_1_8 C P in_X1_copyFrom_1 wd_X1_copyFrom_9 hk1 dX1_copyFrom_72 ?_
  refine p_1_8 C P in_X1_copyFrom_1 wd_X1_copyFrom_9 hk0 dX1_copyFrom_75 (fun u11 eu11 H locs P => ?_)
  have h := h u11 eu11
  refine lv_aload_n hx hb dX1_copyFrom_78 rfl (lv_at hl 0 rfl) ?_
  refine lv_aload_n hx hb dX1_copyFrom_79 rfl (lv_at hl 1 rfl) ?_
  refine g_1_9 C P in_X1_copyFrom_1 wd_X1_copyFrom_10 hk1 dX1_copyFrom_80 ?_
  obtain ⟨hB, h⟩ := h
  refine p_1_9 C P in_X1_copyFrom_1 wd_X1_copyFrom_10 hk0 hB dX1_copyFrom_83 (fun u12 eu12 H locs P => ?_)
  have h := h u12 eu12
  refine lv_aload_n hx hb dX1_copyFrom_86 rfl (lv_at hl 0 rfl) ?_
  refine lv_aload_n hx hb dX1_copyFrom_87 rfl (lv_at hl 1 rfl) ?_
  refine g_1_10 C P in_X1_copyFrom_1 wd_X1_copyFrom_11 hk1 dX1_copyFrom_88 ?_
  refine p_1_10 C P in_X1_copyFrom_1 wd_X1_copyFrom_11 hk0 dX1_copyFrom_91 (fun u13 eu13 H locs P => ?_)
  have h := h u13 eu13
  refine lv_aload_n hx hb dX1_copyFrom_94 rfl (lv_at hl 0 rfl) ?_
  refine lv_aload_n hx hb dX1_copyFrom_95 rfl (lv_at hl 1 rfl) ?_
  refine g_1_11 C P in_X1_copyFrom_1 wd_X1_copyFrom_12 hk1 dX1_copyFrom_96 ?_
  refine p_1_11 C P in_X1_copyFrom_1 wd_X1_copyFrom_12 hk0 dX1_copyFrom_99 (fun u14 eu14 H locs P => ?_)
  have h := h u14 eu14
  refine lv_aload_n hx hb dX1_copyFrom_102 rfl (lv_at hl 0 rfl) ?_
  refine lv_aload_n hx hb dX1_copyFrom_103 rfl (lv_at hl 1 rfl) ?_
  refine g_1_12 C P in_X1_copyFrom_1 wd_X1_copyFrom_13 hk1 dX1_copyFrom_104 ?_
  refine p_1_12 C P in_X1_copyFrom_1 wd_X1_copyFrom_13 hk0 dX1_copyFrom_107 (fun u15 eu15 H locs P => ?_)
  have h := h u15 eu15
  refine lv_aload_n hx hb dX1_copyFrom_110 rfl (lv_at hl 0 rfl) ?_
  refine lv_aload_n hx hb dX1_copyFrom_111 rfl (lv_at hl 1 rfl) ?_
  refine g_1_13 C P in_X1_copyFrom_1 wd_X1_copyFrom_14 hk1 dX1_copyFrom_112 ?_
  refine p_1_13 C P in_X1_copyFrom_1 wd_X1_copyFrom_14 hk0 dX1_copyFrom_115 (fun u16 eu16 H locs P => ?_)
  have h := h u16 eu16
  refine lv_aload_n hx hb dX1_copyFrom_118 rfl (lv_at hl 0 rfl) ?_
  refine lv_aload_n hx hb dX1_copyFrom_119 rfl (lv_at hl 1 rfl) ?_
  refine g_1_14 C P in_X1_copyFrom_1 wd_X1_copyFrom_15 hk1 dX1_copyFrom_120 ?_
  refine p_1_14 C P in_X1_copyFrom_1 wd_X1_copyFrom_15 hk0 dX1_copyFrom_123 (fun u17 eu17 H locs P => ?_)
  have h := h u17 eu17
  exact r_ret C P h dX1_copyFrom_126
set_option maxHeartbeats 4000000 in
set_option maxRecDepth 100000 in
theorem c_X1_copyFrom (l : Launch) (D : va_G) (cA : Nat → ClassId) (o : Nat) (k0 : Nat) (k1 : Nat) (hk0 : kd k0 = 1) (hk1 : kd k1 = 1) (u0 : Mm) (Φ : Unit → Mm → Prop) (h : w_X1_copyFrom k0 k1 u0 Φ) : Met l yX1_copyFrom wsX1_copyFrom rm_X1_copyFrom (va_Pc [.ref (o + k0), .ref (o + k1)] (Wd 747 o D (tysL cA) (EC cA o u0))) (Qg vV Φ (fun μ => Wd 747 o D (tysL cA) (EC cA o μ)) (aA o 747)) 0 0 (aA o 747) := by
  refine Met.ofW (cc := cX1_copyFrom) (maxL := 2) (ret := none) (by decide) rfl ?_
  intro p e s m args below meth c s₁ B hml hv
  obtain ⟨rfl, hv⟩ := hv
  have hl := lv_entry ([.ref (o + k0), .ref (o + k1)]) (n := 2) (Nat.le_of_ble_eq_true rfl)
  rw [lg_entry_eq]
  exact t_X1_copyFrom_0 ⟨⟨B.exec, B.bytes, hml, findClass_of_methodNamed B.named, atoms_spec (ws := wsX1_copyFrom) B.pre⟩, B.returns, B.notSynchronized, hv.2⟩ k0 k1 u0 hk0 hk1 _ _ _ ⟨hv.1, va_S.rf⟩ hl h
abbrev rm_X1_turnTo : Room := { frames := 0, cells := 0, slots := 0, locals := 0 }
theorem wd_X1_turnTo_1 : Cond.fieldLink RX1 40 "TurnstileBank$Gate" "state" "I" ∈ wsX1_turnTo := List.mem_of_getElem? (i := 1) (by decide +kernel)
theorem wd_X1_turnTo_2 : Cond.fieldLink RX1 43 "TurnstileBank$Gate" "left" "I" ∈ wsX1_turnTo := List.mem_of_getElem? (i := 2) (by decide +kernel)
theorem in_X1_turnTo_1 : ∀ w ∈ wsX10, w ∈ wsX1_turnTo := fun w h => List.mem_cons_of_mem _ (List.mem_append_right _ h)
def w_X1_turnTo (k0 : Nat) (a1 : Int32) (a2 : Int32) (u0 : Mm) (Φ : Unit → Mm → Prop) : Prop := (∀ u1 : Mm, u1 = up2 u0 k0 6 a1 → (∀ u2 : Mm, u2 = up2 u1 k0 7 a2 → (Φ () u2)))
set_option maxHeartbeats 4000000 in
set_option maxRecDepth 100000 in
theorem t_X1_turnTo_0 {p : Program} {l : Launch} {e : Env} {s : State} {m : MethodId} {args : Array Value} {below : List Frame} {meth : Method} {c : Code} {D : va_G} {cA : Nat → ClassId} {o : Nat}  {Φ : Unit → Mm → Prop} (C : Cx p m meth c s args cX1_turnTo 3 wsX1_turnTo RX1 none D (tysL cA)) : ∀ (k0 : Nat) (a1 : Int32) (a2 : Int32) (u0 : Mm), kd k0 = 1 → ∀ (H : Heap) (locs : List Loc) (ls : Array Slot), Hp 747 o D (EC cA o u0) s H locs → lv_has ls 3 [(0, .ref (o + k0)), (1, .int a1), (2, .int a2)] → w_X1_turnTo k0 a1 a2 u0 Φ → W p l e rm_X1_turnTo s m args below meth c H locs 0 0 (MQ below (Qg vV Φ (fun μ => Wd 747 o D (tysL cA) (EC cA o μ)) (aA o 747)) args s 0 0 (aA o 747)) (F0 m 0 ls []) := by
  intro k0 a1 a2 u0 hk0 H locs ls P hl h
  have hx := C.1.1
  have hb := C.1.2.1
  unfold w_X1_turnTo at h
  refine lv_aload_n hx hb dX1_turnTo_0 rfl (lv_at hl 0 rfl) ?_
  refine lv_iload_n hx hb dX1_turnTo_1 rfl (lv_at hl 1 rfl) ?_
  refine p_1_6 C P in_X1_turnTo_1 wd_X1_turnTo_1 hk0 dX1_turnTo_2 (fun u1 eu1 H locs P => ?_)
  have h := h u1 eu1
  refine lv_aload_n hx hb dX1_turnTo_5 rfl (lv_at hl 0 rfl) ?_
  refine lv_iload_n hx hb dX1_turnTo_6 rfl (lv_at hl 2 rfl) ?_
  refine p_1_7 C P in_X1_turnTo_1 wd_X1_turnTo_2 hk0 dX1_turnTo_7 (fun u2 eu2 H locs P => ?_)
  have h := h u2 eu2
  exact r_ret C P h dX1_turnTo_10
set_option maxHeartbeats 4000000 in
set_option maxRecDepth 100000 in
theorem c_X1_turnTo (l : Launch) (D : va_G) (cA : Nat → ClassId) (o : Nat) (k0 : Nat) (a1 : Int32) (a2 : Int32) (hk0 : kd k0 = 1) (u0 : Mm) (Φ : Unit → Mm → Prop) (h : w_X1_turnTo k0 a1 a2 u0 Φ) : Met l yX1_turnTo wsX1_turnTo rm_X1_turnTo (va_Pc [.ref (o + k0), .int a1, .int a2] (Wd 747 o D (tysL cA) (EC cA o u0))) (Qg vV Φ (fun μ => Wd 747 o D (tysL cA) (EC cA o μ)) (aA o 747)) 0 0 (aA o 747) := by
  refine Met.ofW (cc := cX1_turnTo) (maxL := 3) (ret := none) (by decide) rfl ?_
  intro p e s m args below meth c s₁ B hml hv
  obtain ⟨rfl, hv⟩ := hv
  have hl := lv_entry ([.ref (o + k0), .int a1, .int a2]) (n := 3) (Nat.le_of_ble_eq_true rfl)
  rw [lg_entry_eq]
  exact t_X1_turnTo_0 ⟨⟨B.exec, B.bytes, hml, findClass_of_methodNamed B.named, atoms_spec (ws := wsX1_turnTo) B.pre⟩, B.returns, B.notSynchronized, hv.2⟩ k0 a1 a2 u0 hk0 _ _ _ ⟨hv.1, va_S.rf⟩ hl h
abbrev rm_X1_holdsPerson : Room := { frames := 0, cells := 0, slots := 0, locals := 0 }
theorem wd_X1_holdsPerson_1 : Cond.fieldLink RX1 40 "TurnstileBank$Gate" "state" "I" ∈ wsX1_holdsPerson := List.mem_of_getElem? (i := 1) (by decide +kernel)
theorem in_X1_holdsPerson_1 : ∀ w ∈ wsX10, w ∈ wsX1_holdsPerson := fun w h => List.mem_cons_of_mem _ (List.mem_append_right _ h)
def w_X1_holdsPerson (k0 : Nat) (u0 : Mm) (Φ : Int32 → Mm → Prop) : Prop := (if (u0 k0 6) = 0 then (Φ (0 : Int32) u0) else (if (u0 k0 6) = (5 : Int32) then (Φ (0 : Int32) u0) else (Φ (1 : Int32) u0)))
set_option maxHeartbeats 4000000 in
set_option maxRecDepth 100000 in
theorem t_X1_holdsPerson_0 {p : Program} {l : Launch} {e : Env} {s : State} {m : MethodId} {args : Array Value} {below : List Frame} {meth : Method} {c : Code} {D : va_G} {cA : Nat → ClassId} {o : Nat}  {Φ : Int32 → Mm → Prop} (C : Cx p m meth c s args cX1_holdsPerson 1 wsX1_holdsPerson RX1 (some .boolean) D (tysL cA)) : ∀ (k0 : Nat) (u0 : Mm), kd k0 = 1 → ∀ (H : Heap) (locs : List Loc) (ls : Array Slot), Hp 747 o D (EC cA o u0) s H locs → lv_has ls 1 [(0, .ref (o + k0))] → w_X1_holdsPerson k0 u0 Φ → W p l e rm_X1_holdsPerson s m args below meth c H locs 0 0 (MQ below (Qg vI Φ (fun μ => Wd 747 o D (tysL cA) (EC cA o μ)) (aA o 747)) args s 0 0 (aA o 747)) (F0 m 0 ls []) := by
  intro k0 u0 hk0 H locs ls P hl h
  have hx := C.1.1
  have hb := C.1.2.1
  unfold w_X1_holdsPerson at h
  refine lv_aload_n hx hb dX1_holdsPerson_0 rfl (lv_at hl 0 rfl) ?_
  refine g_1_6 C P in_X1_holdsPerson_1 wd_X1_holdsPerson_1 hk0 dX1_holdsPerson_1 ?_
  refine lv_if_eq (tgt := 19) hx hb dX1_holdsPerson_4 (by decide) (fun c1 => ?_) (fun c1 => ?_)
  · have h := ite_t h c1
    refine lv_iconst (v := 0) hx hb dX1_holdsPerson_19 (by decide) ?_
    exact r_iretb C P (Or.inl rfl) h dX1_holdsPerson_20
  · have h := ite_f h c1
    refine lv_aload_n hx hb dX1_holdsPerson_7 rfl (lv_at hl 0 rfl) ?_
    refine g_1_6 C P in_X1_holdsPerson_1 wd_X1_holdsPerson_1 hk0 dX1_holdsPerson_8 ?_
    refine lv_iconst (v := 5) hx hb dX1_holdsPerson_11 (by decide) ?_
    refine lv_icmp_eq (tgt := 19) hx hb dX1_holdsPerson_12 (by decide) (fun c2 => ?_) (fun c2 => ?_)
    · have h := ite_t h c2
      refine lv_iconst (v := 0) hx hb dX1_holdsPerson_19 (by decide) ?_
      exact r_iretb C P (Or.inl rfl) h dX1_holdsPerson_20
    · have h := ite_f h c2
      refine lv_iconst (v := 1) hx hb dX1_holdsPerson_15 (by decide) ?_
      refine lv_goto (tgt := 20) hx hb dX1_holdsPerson_16 (by decide) ?_
      exact r_iretb C P (Or.inr rfl) h dX1_holdsPerson_20
set_option maxHeartbeats 4000000 in
set_option maxRecDepth 100000 in
theorem c_X1_holdsPerson (l : Launch) (D : va_G) (cA : Nat → ClassId) (o : Nat) (k0 : Nat) (hk0 : kd k0 = 1) (u0 : Mm) (Φ : Int32 → Mm → Prop) (h : w_X1_holdsPerson k0 u0 Φ) : Met l yX1_holdsPerson wsX1_holdsPerson rm_X1_holdsPerson (va_Pc [.ref (o + k0)] (Wd 747 o D (tysL cA) (EC cA o u0))) (Qg vI Φ (fun μ => Wd 747 o D (tysL cA) (EC cA o μ)) (aA o 747)) 0 0 (aA o 747) := by
  refine Met.ofW (cc := cX1_holdsPerson) (maxL := 1) (ret := (some .boolean)) (by decide) rfl ?_
  intro p e s m args below meth c s₁ B hml hv
  obtain ⟨rfl, hv⟩ := hv
  have hl := lv_entry ([.ref (o + k0)]) (n := 1) (Nat.le_of_ble_eq_true rfl)
  rw [lg_entry_eq]
  exact t_X1_holdsPerson_0 ⟨⟨B.exec, B.bytes, hml, findClass_of_methodNamed B.named, atoms_spec (ws := wsX1_holdsPerson) B.pre⟩, B.returns, B.notSynchronized, hv.2⟩ k0 u0 hk0 _ _ _ ⟨hv.1, va_S.rf⟩ hl h
abbrev rm_X1_queuesTogether : Room := { frames := 0, cells := 0, slots := 0, locals := 0 }
theorem wd_X1_queuesTogether_1 : Cond.fieldLink RX1 12 "TurnstileBank$Gate" "outer" "LTurnstileBank$Queue;" ∈ wsX1_queuesTogether := List.mem_of_getElem? (i := 1) (by decide +kernel)
theorem wd_X1_queuesTogether_2 : Cond.fieldLink RX1 25 "TurnstileBank$Queue" "length" "I" ∈ wsX1_queuesTogether := List.mem_of_getElem? (i := 2) (by decide +kernel)
theorem wd_X1_queuesTogether_3 : Cond.fieldLink RX1 18 "TurnstileBank$Gate" "inner" "LTurnstileBank$Queue;" ∈ wsX1_queuesTogether := List.mem_of_getElem? (i := 3) (by decide +kernel)
theorem in_X1_queuesTogether_1 : ∀ w ∈ wsX10, w ∈ wsX1_queuesTogether := fun w h => List.mem_cons_of_mem _ (List.mem_append_left _ (List.mem_append_right _ h))
theorem in_X1_queuesTogether_7 : ∀ w ∈ wsX70, w ∈ wsX1_queuesTogether := fun w h => List.mem_cons_of_mem _ (List.mem_append_right _ h)
def w_X1_queuesTogether (k0 : Nat) (u0 : Mm) (Φ : Int32 → Mm → Prop) : Prop := (Φ (((u0 ((k0 + 1)) 1) + (u0 ((k0 + 3)) 1))) u0)
set_option maxHeartbeats 4000000 in
set_option maxRecDepth 100000 in
theorem t_X1_queuesTogether_0 {p : Program} {l : Launch} {e : Env} {s : State} {m : MethodId} {args : Array Value} {below : List Frame} {meth : Method} {c : Code} {D : va_G} {cA : Nat → ClassId} {o : Nat}  {Φ : Int32 → Mm → Prop} (C : Cx p m meth c s args cX1_queuesTogether 1 wsX1_queuesTogether RX1 (some .int) D (tysL cA)) : ∀ (k0 : Nat) (u0 : Mm), kd k0 = 1 → ∀ (H : Heap) (locs : List Loc) (ls : Array Slot), Hp 747 o D (EC cA o u0) s H locs → lv_has ls 1 [(0, .ref (o + k0))] → w_X1_queuesTogether k0 u0 Φ → W p l e rm_X1_queuesTogether s m args below meth c H locs 0 0 (MQ below (Qg vI Φ (fun μ => Wd 747 o D (tysL cA) (EC cA o μ)) (aA o 747)) args s 0 0 (aA o 747)) (F0 m 0 ls []) := by
  intro k0 u0 hk0 H locs ls P hl h
  have hx := C.1.1
  have hb := C.1.2.1
  unfold w_X1_queuesTogether at h
  refine lv_aload_n hx hb dX1_queuesTogether_0 rfl (lv_at hl 0 rfl) ?_
  refine g_1_0 C P in_X1_queuesTogether_1 wd_X1_queuesTogether_1 hk0 dX1_queuesTogether_1 ?_
  refine g_7_1 C P in_X1_queuesTogether_7 wd_X1_queuesTogether_2 (kd_1_1 hk0) dX1_queuesTogether_4 ?_
  refine lv_aload_n hx hb dX1_queuesTogether_7 rfl (lv_at hl 0 rfl) ?_
  refine g_1_1 C P in_X1_queuesTogether_1 wd_X1_queuesTogether_3 hk0 dX1_queuesTogether_8 ?_
  refine g_7_1 C P in_X1_queuesTogether_7 wd_X1_queuesTogether_2 (kd_1_3 hk0) dX1_queuesTogether_11 ?_
  refine lv_iadd hx hb dX1_queuesTogether_14 ?_
  exact r_ireti C P h dX1_queuesTogether_15
set_option maxHeartbeats 4000000 in
set_option maxRecDepth 100000 in
theorem c_X1_queuesTogether (l : Launch) (D : va_G) (cA : Nat → ClassId) (o : Nat) (k0 : Nat) (hk0 : kd k0 = 1) (u0 : Mm) (Φ : Int32 → Mm → Prop) (h : w_X1_queuesTogether k0 u0 Φ) : Met l yX1_queuesTogether wsX1_queuesTogether rm_X1_queuesTogether (va_Pc [.ref (o + k0)] (Wd 747 o D (tysL cA) (EC cA o u0))) (Qg vI Φ (fun μ => Wd 747 o D (tysL cA) (EC cA o μ)) (aA o 747)) 0 0 (aA o 747) := by
  refine Met.ofW (cc := cX1_queuesTogether) (maxL := 1) (ret := (some .int)) (by decide) rfl ?_
  intro p e s m args below meth c s₁ B hml hv
  obtain ⟨rfl, hv⟩ := hv
  have hl := lv_entry ([.ref (o + k0)]) (n := 1) (Nat.le_of_ble_eq_true rfl)
  rw [lg_entry_eq]
  exact t_X1_queuesTogether_0 ⟨⟨B.exec, B.bytes, hml, findClass_of_methodNamed B.named, atoms_spec (ws := wsX1_queuesTogether) B.pre⟩, B.returns, B.notSynchronized, hv.2⟩ k0 u0 hk0 _ _ _ ⟨hv.1, va_S.rf⟩ hl h
abbrev rm_X2_rowOf : Room := { frames := 1, cells := 0, slots := 0, locals := 22 }
theorem wd_X2_rowOf_1 : Cond.fieldLink RX2 30 "TurnstileBank$History" "oldest" "I" ∈ wsX2_rowOf := List.mem_of_getElem? (i := 1) (by decide +kernel)
theorem in_X2_rowOf_2 : ∀ w ∈ wsX20, w ∈ wsX2_rowOf := fun w h => List.mem_cons_of_mem _ (List.mem_append_right _ h)
def w_X2_rowOf (a1 : Int32) (u0 : Mm) (Φ : Int32 → Mm → Prop) : Prop := (w_J9_floorMod_7cf53 (((u0 213 1) + a1)) ((5 : Int32)) u0 (fun r2 u1 => (Φ r2 u1)))
set_option maxHeartbeats 4000000 in
set_option maxRecDepth 100000 in
theorem t_X2_rowOf_0 {p : Program} {l : Launch} {e : Env} {s : State} {m : MethodId} {args : Array Value} {below : List Frame} {meth : Method} {c : Code} {D : va_G} {cA : Nat → ClassId} {o : Nat}  {Φ : Int32 → Mm → Prop} (C : Cx p m meth c s args cX2_rowOf 2 wsX2_rowOf RX2 (some .int) D (tysL cA)) : ∀ (a1 : Int32) (u0 : Mm), ∀ (H : Heap) (locs : List Loc) (ls : Array Slot), Hp 747 o D (EC cA o u0) s H locs → lv_has ls 2 [(0, .ref (o + 213)), (1, .int a1)] → w_X2_rowOf a1 u0 Φ → W p l e rm_X2_rowOf s m args below meth c H locs 0 0 (MQ below (Qg vI Φ (fun μ => Wd 747 o D (tysL cA) (EC cA o μ)) (aA o 747)) args s 0 0 (aA o 747)) (F0 m 0 ls []) := by
  intro a1 u0 H locs ls P hl h
  have hx := C.1.1
  have hb := C.1.2.1
  unfold w_X2_rowOf at h
  refine lv_aload_n hx hb dX2_rowOf_0 rfl (lv_at hl 0 rfl) ?_
  refine g_2_1 C P in_X2_rowOf_2 wd_X2_rowOf_1 kd_at_213 dX2_rowOf_1 ?_
  refine lv_iload_n hx hb dX2_rowOf_4 rfl (lv_at hl 1 rfl) ?_
  refine lv_iadd hx hb dX2_rowOf_5 ?_
  refine lv_iconst (v := 5) hx hb dX2_rowOf_6 (by decide) ?_
  refine r_calli (F := EC cA o) (va_runS (As := [.int ((u0 213 1) + a1), .int (5 : Int32)]) (rest := []) C.1 (c_J9_floorMod_7cf53 l D cA o _ _ u0 _ h) (va_cwS 2 C.1.2.2.2.2 gX2_rowOf_J9_floorMod_7cf53 rfl rfl rfl (by decide +kernel) ⟨Nat.le_of_ble_eq_true rfl, Nat.le_of_ble_eq_true rfl⟩) (r_pre C P [.int ((u0 213 1) + a1), .int (5 : Int32)]) rfl rfl hl.1 rfl (lv_room (Nat.le_of_ble_eq_true rfl)) dX2_rowOf_7 ⟨Nat.le_of_ble_eq_true rfl, Nat.le_of_ble_eq_true rfl⟩) P.2 (fun r2 u1 H locs h P => ?_)
  exact r_ireti C P h dX2_rowOf_10
set_option maxHeartbeats 4000000 in
set_option maxRecDepth 100000 in
theorem c_X2_rowOf (l : Launch) (D : va_G) (cA : Nat → ClassId) (o : Nat) (a1 : Int32)  (u0 : Mm) (Φ : Int32 → Mm → Prop) (h : w_X2_rowOf a1 u0 Φ) : Met l yX2_rowOf wsX2_rowOf rm_X2_rowOf (va_Pc [.ref (o + 213), .int a1] (Wd 747 o D (tysL cA) (EC cA o u0))) (Qg vI Φ (fun μ => Wd 747 o D (tysL cA) (EC cA o μ)) (aA o 747)) 0 0 (aA o 747) := by
  refine Met.ofW (cc := cX2_rowOf) (maxL := 2) (ret := (some .int)) (by decide) rfl ?_
  intro p e s m args below meth c s₁ B hml hv
  obtain ⟨rfl, hv⟩ := hv
  have hl := lv_entry ([.ref (o + 213), .int a1]) (n := 2) (Nat.le_of_ble_eq_true rfl)
  rw [lg_entry_eq]
  exact t_X2_rowOf_0 ⟨⟨B.exec, B.bytes, hml, findClass_of_methodNamed B.named, atoms_spec (ws := wsX2_rowOf) B.pre⟩, B.returns, B.notSynchronized, hv.2⟩ a1 u0 _ _ _ ⟨hv.1, va_S.rf⟩ hl h
