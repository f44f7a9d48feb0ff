abbrev rm_X6_setUp : Room := { frames := 0, cells := 0, slots := 0, locals := 0 }
theorem wd_X6_setUp_1 : Cond.fieldLink RX6 7 "TurnstileBank$Pool" "credit" "I" ∈ wsX6_setUp := List.mem_of_getElem? (i := 1) (by decide +kernel)
theorem wd_X6_setUp_2 : Cond.fieldLink RX6 13 "TurnstileBank$Pool" "limit" "I" ∈ wsX6_setUp := List.mem_of_getElem? (i := 2) (by decide +kernel)
theorem wd_X6_setUp_3 : Cond.fieldLink RX6 16 "TurnstileBank$Pool" "inside" "I" ∈ wsX6_setUp := List.mem_of_getElem? (i := 3) (by decide +kernel)
theorem wd_X6_setUp_4 : Cond.fieldLink RX6 19 "TurnstileBank$Pool" "passes" "I" ∈ wsX6_setUp := List.mem_of_getElem? (i := 4) (by decide +kernel)
theorem wd_X6_setUp_5 : Cond.fieldLink RX6 22 "TurnstileBank$Pool" "paid" "I" ∈ wsX6_setUp := List.mem_of_getElem? (i := 5) (by decide +kernel)
theorem in_X6_setUp_6 : ∀ w ∈ wsX60, w ∈ wsX6_setUp := fun w h => List.mem_cons_of_mem _ (List.mem_append_right _ h)
def w_X6_setUp (k0 : Nat) (a1 : Int32) (u0 : Mm) (Φ : Unit → Mm → Prop) : Prop := (∀ u1 : Mm, u1 = up2 u0 k0 0 (0 : Int32) → (∀ u2 : Mm, u2 = up2 u1 k0 1 a1 → (∀ u3 : Mm, u3 = up2 u2 k0 2 (0 : Int32) → (∀ u4 : Mm, u4 = up2 u3 k0 3 (0 : Int32) → (∀ u5 : Mm, u5 = up2 u4 k0 4 (0 : Int32) → (Φ () u5))))))
set_option maxHeartbeats 4000000 in
set_option maxRecDepth 100000 in
theorem t_X6_setUp_0 {p : Program} {l : Launch} {e : Env} {s : State} {m : MethodId} {args : Array Value} {below : List Frame} {meth : Method} {c : Code} {D : va_G} {cA : Nat → ClassId} {o : Nat}  {Φ : Unit → Mm → Prop} (C : Cx p m meth c s args cX6_setUp 2 wsX6_setUp RX6 none D (tysL cA)) : ∀ (k0 : Nat) (a1 : Int32) (u0 : Mm), kd k0 = 6 → ∀ (H : Heap) (locs : List Loc) (ls : Array Slot), Hp 747 o D (EC cA o u0) s H locs → lv_has ls 2 [(0, .ref (o + k0)), (1, .int a1)] → w_X6_setUp k0 a1 u0 Φ → W p l e rm_X6_setUp s m args below meth c H locs 0 0 (MQ below (Qg vV Φ (fun μ => Wd 747 o D (tysL cA) (EC cA o μ)) (aA o 747)) args s 0 0 (aA o 747)) (F0 m 0 ls []) := by
  intro k0 a1 u0 hk0 H locs ls P hl h
  have hx := C.1.1
  have hb := C.1.2.1
  unfold w_X6_setUp at h
  refine lv_aload_n hx hb dX6_setUp_0 rfl (lv_at hl 0 rfl) ?_
  refine lv_iconst (v := 0) hx hb dX6_setUp_1 (by decide) ?_
  refine p_6_0 C P in_X6_setUp_6 wd_X6_setUp_1 hk0 dX6_setUp_2 (fun u1 eu1 H locs P => ?_)
  have h := h u1 eu1
  refine lv_aload_n hx hb dX6_setUp_5 rfl (lv_at hl 0 rfl) ?_
  refine lv_iload_n hx hb dX6_setUp_6 rfl (lv_at hl 1 rfl) ?_
  refine p_6_1 C P in_X6_setUp_6 wd_X6_setUp_2 hk0 dX6_setUp_7 (fun u2 eu2 H locs P => ?_)
  have h := h u2 eu2
  refine lv_aload_n hx hb dX6_setUp_10 rfl (lv_at hl 0 rfl) ?_
  refine lv_iconst (v := 0) hx hb dX6_setUp_11 (by decide) ?_
  refine p_6_2 C P in_X6_setUp_6 wd_X6_setUp_3 hk0 dX6_setUp_12 (fun u3 eu3 H locs P => ?_)
  have h := h u3 eu3
  refine lv_aload_n hx hb dX6_setUp_15 rfl (lv_at hl 0 rfl) ?_
  refine lv_iconst (v := 0) hx hb dX6_setUp_16 (by decide) ?_
  refine p_6_3 C P in_X6_setUp_6 wd_X6_setUp_4 hk0 dX6_setUp_17 (fun u4 eu4 H locs P => ?_)
  have h := h u4 eu4
  refine lv_aload_n hx hb dX6_setUp_20 rfl (lv_at hl 0 rfl) ?_
  refine lv_iconst (v := 0) hx hb dX6_setUp_21 (by decide) ?_
  refine p_6_4 C P in_X6_setUp_6 wd_X6_setUp_5 hk0 dX6_setUp_22 (fun u5 eu5 H locs P => ?_)
  have h := h u5 eu5
  exact r_ret C P h dX6_setUp_25
set_option maxHeartbeats 4000000 in
set_option maxRecDepth 100000 in
theorem c_X6_setUp (l : Launch) (D : va_G) (cA : Nat → ClassId) (o : Nat) (k0 : Nat) (a1 : Int32) (hk0 : kd k0 = 6) (u0 : Mm) (Φ : Unit → Mm → Prop) (h : w_X6_setUp k0 a1 u0 Φ) : Met l yX6_setUp wsX6_setUp rm_X6_setUp (va_Pc [.ref (o + k0), .int a1] (Wd 747 o D (tysL cA) (EC cA o u0))) (Qg vV Φ (fun μ => Wd 747 o D (tysL cA) (EC cA o μ)) (aA o 747)) 0 0 (aA o 747) := by
  refine Met.ofW (cc := cX6_setUp) (maxL := 2) (ret := none) (by decide) rfl ?_
  intro p e s m args below meth c s₁ B hml hv
  obtain ⟨rfl, hv⟩ := hv
  have hl := lv_entry ([.ref (o + k0), .int a1]) (n := 2) (Nat.le_of_ble_eq_true rfl)
  rw [lg_entry_eq]
  exact t_X6_setUp_0 ⟨⟨B.exec, B.bytes, hml, findClass_of_methodNamed B.named, atoms_spec (ws := wsX6_setUp) B.pre⟩, B.returns, B.notSynchronized, hv.2⟩ k0 a1 u0 hk0 _ _ _ ⟨hv.1, va_S.rf⟩ hl h
abbrev rm_X7_personAtPlace : Room := { frames := 0, cells := 0, slots := 0, locals := 0 }
theorem wd_X7_personAtPlace_1 : Cond.fieldLink RX7 15 "TurnstileBank$Queue" "length" "I" ∈ wsX7_personAtPlace := List.mem_of_getElem? (i := 1) (by decide +kernel)
theorem wd_X7_personAtPlace_2 : Cond.fieldLink RX7 9 "TurnstileBank$Queue" "people" "[I" ∈ wsX7_personAtPlace := List.mem_of_getElem? (i := 2) (by decide +kernel)
theorem in_X7_personAtPlace_7 : ∀ w ∈ wsX70, w ∈ wsX7_personAtPlace := fun w h => List.mem_cons_of_mem _ (List.mem_append_right _ h)
def w_X7_personAtPlace (k0 : Nat) (a1 : Int32) (u0 : Mm) (Φ : Int32 → Mm → Prop) : Prop := (if a1 < 0 then (Φ ((-5 : Int32)) u0) else (if (u0 k0 1) ≤ a1 then (Φ ((-5 : Int32)) u0) else (if (40 : Int32) ≤ a1 then (Φ ((-5 : Int32)) u0) else (vp_in a1 40 ∧ (Φ ((u0 ((k0 + 1)) a1.toNatClampNeg)) u0)))))
set_option maxHeartbeats 4000000 in
set_option maxRecDepth 100000 in
theorem t_X7_personAtPlace_0 {p : Program} {l : Launch} {e : Env} {s : State} {m : MethodId} {args : Array Value} {below : List Frame} {meth : Method} {c : Code} {D : va_G} {cA : Nat → ClassId} {o : Nat}  {Φ : Int32 → Mm → Prop} (C : Cx p m meth c s args cX7_personAtPlace 2 wsX7_personAtPlace RX7 (some .int) D (tysL cA)) : ∀ (k0 : Nat) (a1 : Int32) (u0 : Mm), kd k0 = 7 → ∀ (H : Heap) (locs : List Loc) (ls : Array Slot), Hp 747 o D (EC cA o u0) s H locs → lv_has ls 2 [(0, .ref (o + k0)), (1, .int a1)] → w_X7_personAtPlace k0 a1 u0 Φ → W p l e rm_X7_personAtPlace s m args below meth c H locs 0 0 (MQ below (Qg vI Φ (fun μ => Wd 747 o D (tysL cA) (EC cA o μ)) (aA o 747)) args s 0 0 (aA o 747)) (F0 m 0 ls []) := by
  intro k0 a1 u0 hk0 H locs ls P hl h
  have hx := C.1.1
  have hb := C.1.2.1
  unfold w_X7_personAtPlace at h
  refine lv_iload_n hx hb dX7_personAtPlace_0 rfl (lv_at hl 1 rfl) ?_
  refine lv_if_lt (tgt := 30) hx hb dX7_personAtPlace_1 (by decide) (fun c1 => ?_) (fun c1 => ?_)
  · have h := ite_t h c1
    refine lv_bipush (v := -5) hx hb dX7_personAtPlace_30 (by decide) ?_
    exact r_ireti C P h dX7_personAtPlace_32
  · have h := ite_f h c1
    refine lv_iload_n hx hb dX7_personAtPlace_4 rfl (lv_at hl 1 rfl) ?_
    refine lv_aload_n hx hb dX7_personAtPlace_5 rfl (lv_at hl 0 rfl) ?_
    refine g_7_1 C P in_X7_personAtPlace_7 wd_X7_personAtPlace_1 hk0 dX7_personAtPlace_6 ?_
    refine lv_icmp_ge (tgt := 30) hx hb dX7_personAtPlace_9 (by decide) (fun c2 => ?_) (fun c2 => ?_)
    · have h := ite_t h c2
      refine lv_bipush (v := -5) hx hb dX7_personAtPlace_30 (by decide) ?_
      exact r_ireti C P h dX7_personAtPlace_32
    · have h := ite_f h c2
      refine lv_iload_n hx hb dX7_personAtPlace_12 rfl (lv_at hl 1 rfl) ?_
      refine lv_aload_n hx hb dX7_personAtPlace_13 rfl (lv_at hl 0 rfl) ?_
      refine g_7_0 C P in_X7_personAtPlace_7 wd_X7_personAtPlace_2 hk0 dX7_personAtPlace_14 ?_
      refine al_20 C P (kd_7_1 hk0) dX7_personAtPlace_17 ?_
      refine lv_icmp_ge (tgt := 30) hx hb dX7_personAtPlace_18 (by decide) (fun c3 => ?_) (fun c3 => ?_)
      · have h := ite_t h c3
        refine lv_bipush (v := -5) hx hb dX7_personAtPlace_30 (by decide) ?_
        exact r_ireti C P h dX7_personAtPlace_32
      · have h := ite_f h c3
        refine lv_aload_n hx hb dX7_personAtPlace_21 rfl (lv_at hl 0 rfl) ?_
        refine g_7_0 C P in_X7_personAtPlace_7 wd_X7_personAtPlace_2 hk0 dX7_personAtPlace_22 ?_
        refine lv_iload_n hx hb dX7_personAtPlace_25 rfl (lv_at hl 1 rfl) ?_
        obtain ⟨hi, h⟩ := h
        refine ld_20 C P (kd_7_1 hk0) hi dX7_personAtPlace_26 ?_
        refine lv_goto (tgt := 32) hx hb dX7_personAtPlace_27 (by decide) ?_
        exact r_ireti C P h dX7_personAtPlace_32
set_option maxHeartbeats 4000000 in
set_option maxRecDepth 100000 in
theorem c_X7_personAtPlace (l : Launch) (D : va_G) (cA : Nat → ClassId) (o : Nat) (k0 : Nat) (a1 : Int32) (hk0 : kd k0 = 7) (u0 : Mm) (Φ : Int32 → Mm → Prop) (h : w_X7_personAtPlace k0 a1 u0 Φ) : Met l yX7_personAtPlace wsX7_personAtPlace rm_X7_personAtPlace (va_Pc [.ref (o + k0), .int a1] (Wd 747 o D (tysL cA) (EC cA o u0))) (Qg vI Φ (fun μ => Wd 747 o D (tysL cA) (EC cA o μ)) (aA o 747)) 0 0 (aA o 747) := by
  refine Met.ofW (cc := cX7_personAtPlace) (maxL := 2) (ret := (some .int)) (by decide) rfl ?_
  intro p e s m args below meth c s₁ B hml hv
  obtain ⟨rfl, hv⟩ := hv
  have hl := lv_entry ([.ref (o + k0), .int a1]) (n := 2) (Nat.le_of_ble_eq_true rfl)
  rw [lg_entry_eq]
  exact t_X7_personAtPlace_0 ⟨⟨B.exec, B.bytes, hml, findClass_of_methodNamed B.named, atoms_spec (ws := wsX7_personAtPlace) B.pre⟩, B.returns, B.notSynchronized, hv.2⟩ k0 a1 u0 hk0 _ _ _ ⟨hv.1, va_S.rf⟩ hl h
abbrev rm_X7_append : Room := { frames := 0, cells := 0, slots := 0, locals := 0 }
theorem wd_X7_append_1 : Cond.fieldLink RX7 15 "TurnstileBank$Queue" "length" "I" ∈ wsX7_append := List.mem_of_getElem? (i := 1) (by decide +kernel)
theorem wd_X7_append_2 : Cond.fieldLink RX7 9 "TurnstileBank$Queue" "people" "[I" ∈ wsX7_append := List.mem_of_getElem? (i := 2) (by decide +kernel)
theorem in_X7_append_7 : ∀ w ∈ wsX70, w ∈ wsX7_append := fun w h => List.mem_cons_of_mem _ (List.mem_append_right _ h)
def w_X7_append (k0 : Nat) (a1 : Int32) (u0 : Mm) (Φ : Unit → Mm → Prop) : Prop := (if (u0 k0 1) < 0 then (Φ () u0) else (if (40 : Int32) ≤ (u0 k0 1) then (Φ () u0) else (vp_in (u0 k0 1) 40 ∧ ∀ u3 : Mm, u3 = up2 u0 ((k0 + 1)) (u0 k0 1).toNatClampNeg a1 → (∀ u4 : Mm, u4 = up2 u3 k0 1 ((u3 k0 1) + (1 : Int32)) → (Φ () u4)))))
set_option maxHeartbeats 4000000 in
set_option maxRecDepth 100000 in
theorem t_X7_append_0 {p : Program} {l : Launch} {e : Env} {s : State} {m : MethodId} {args : Array Value} {below : List Frame} {meth : Method} {c : Code} {D : va_G} {cA : Nat → ClassId} {o : Nat}  {Φ : Unit → Mm → Prop} (C : Cx p m meth c s args cX7_append 2 wsX7_append RX7 none D (tysL cA)) : ∀ (k0 : Nat) (a1 : Int32) (u0 : Mm), kd k0 = 7 → ∀ (H : Heap) (locs : List Loc) (ls : Array Slot), Hp 747 o D (EC cA o u0) s H locs → lv_has ls 2 [(0, .ref (o + k0)), (1, .int a1)] → w_X7_append k0 a1 u0 Φ → W p l e rm_X7_append s m args below meth c H locs 0 0 (MQ below (Qg vV Φ (fun μ => Wd 747 o D (tysL cA) (EC cA o μ)) (aA o 747)) args s 0 0 (aA o 747)) (F0 m 0 ls []) := by
  intro k0 a1 u0 hk0 H locs ls P hl h
  have hx := C.1.1
  have hb := C.1.2.1
  unfold w_X7_append at h
  refine lv_aload_n hx hb dX7_append_0 rfl (lv_at hl 0 rfl) ?_
  refine g_7_1 C P in_X7_append_7 wd_X7_append_1 hk0 dX7_append_1 ?_
  refine lv_if_lt (tgt := 39) hx hb dX7_append_4 (by decide) (fun c1 => ?_) (fun c1 => ?_)
  · have h := ite_t h c1
    exact r_ret C P h dX7_append_39
  · have h := ite_f h c1
    refine lv_aload_n hx hb dX7_append_7 rfl (lv_at hl 0 rfl) ?_
    refine g_7_1 C P in_X7_append_7 wd_X7_append_1 hk0 dX7_append_8 ?_
    refine lv_aload_n hx hb dX7_append_11 rfl (lv_at hl 0 rfl) ?_
    refine g_7_0 C P in_X7_append_7 wd_X7_append_2 hk0 dX7_append_12 ?_
    refine al_20 C P (kd_7_1 hk0) dX7_append_15 ?_
    refine lv_icmp_ge (tgt := 39) hx hb dX7_append_16 (by decide) (fun c2 => ?_) (fun c2 => ?_)
    · have h := ite_t h c2
      exact r_ret C P h dX7_append_39
    · have h := ite_f h c2
      refine lv_aload_n hx hb dX7_append_19 rfl (lv_at hl 0 rfl) ?_
      refine g_7_0 C P in_X7_append_7 wd_X7_append_2 hk0 dX7_append_20 ?_
      refine lv_aload_n hx hb dX7_append_23 rfl (lv_at hl 0 rfl) ?_
      refine g_7_1 C P in_X7_append_7 wd_X7_append_1 hk0 dX7_append_24 ?_
      refine lv_iload_n hx hb dX7_append_27 rfl (lv_at hl 1 rfl) ?_
      obtain ⟨hi, h⟩ := h
      refine st_20 C P (kd_7_1 hk0) hi dX7_append_28 (fun u3 eu3 H locs P => ?_)
      have h := h u3 eu3
      refine lv_aload_n hx hb dX7_append_29 rfl (lv_at hl 0 rfl) ?_
      refine lv_dup hx hb dX7_append_30 rfl ?_
      refine g_7_1 C P in_X7_append_7 wd_X7_append_1 hk0 dX7_append_31 ?_
      refine lv_iconst (v := 1) hx hb dX7_append_34 (by decide) ?_
      refine lv_iadd hx hb dX7_append_35 ?_
      refine p_7_1 C P in_X7_append_7 wd_X7_append_1 hk0 dX7_append_36 (fun u4 eu4 H locs P => ?_)
      have h := h u4 eu4
      exact r_ret C P h dX7_append_39
set_option maxHeartbeats 4000000 in
set_option maxRecDepth 100000 in
theorem c_X7_append (l : Launch) (D : va_G) (cA : Nat → ClassId) (o : Nat) (k0 : Nat) (a1 : Int32) (hk0 : kd k0 = 7) (u0 : Mm) (Φ : Unit → Mm → Prop) (h : w_X7_append k0 a1 u0 Φ) : Met l yX7_append wsX7_append rm_X7_append (va_Pc [.ref (o + k0), .int a1] (Wd 747 o D (tysL cA) (EC cA o u0))) (Qg vV Φ (fun μ => Wd 747 o D (tysL cA) (EC cA o μ)) (aA o 747)) 0 0 (aA o 747) := by
  refine Met.ofW (cc := cX7_append) (maxL := 2) (ret := none) (by decide) rfl ?_
  intro p e s m args below meth c s₁ B hml hv
  obtain ⟨rfl, hv⟩ := hv
  have hl := lv_entry ([.ref (o + k0), .int a1]) (n := 2) (Nat.le_of_ble_eq_true rfl)
  rw [lg_entry_eq]
  exact t_X7_append_0 ⟨⟨B.exec, B.bytes, hml, findClass_of_methodNamed B.named, atoms_spec (ws := wsX7_append) B.pre⟩, B.returns, B.notSynchronized, hv.2⟩ k0 a1 u0 hk0 _ _ _ ⟨hv.1, va_S.rf⟩ hl h
abbrev rm_X7_dropFirst : Room := { frames := 1, cells := 0, slots := 0, locals := 40 }
theorem wd_X7_dropFirst_1 : Cond.fieldLink RX7 15 "TurnstileBank$Queue" "length" "I" ∈ wsX7_dropFirst := List.mem_of_getElem? (i := 1) (by decide +kernel)
theorem wd_X7_dropFirst_2 : Cond.fieldLink RX7 9 "TurnstileBank$Queue" "people" "[I" ∈ wsX7_dropFirst := List.mem_of_getElem? (i := 2) (by decide +kernel)
theorem wd_X7_dropFirst_3 : Cond.methodLink RX7 25 arraycopyName ∈ wsX7_dropFirst := List.mem_of_getElem? (i := 3) (by decide +kernel)
theorem wd_X7_dropFirst_4 : Cond.native arraycopyName ∈ wsX7_dropFirst := List.mem_of_getElem? (i := 4) (by decide +kernel)
theorem wd_X7_dropFirst_5 : Cond.static arraycopyName ∈ wsX7_dropFirst := List.mem_of_getElem? (i := 5) (by decide +kernel)
theorem wd_X7_dropFirst_6 : Cond.initialized "java/lang/System" ∈ wsX7_dropFirst := List.mem_of_getElem? (i := 6) (by decide +kernel)
theorem in_X7_dropFirst_7 : ∀ w ∈ wsX70, w ∈ wsX7_dropFirst := fun w h => List.mem_cons_of_mem _ (List.mem_append_right _ h)
def w_X7_dropFirst (k0 : Nat) (u0 : Mm) (Φ : Unit → Mm → Prop) : Prop := (if (u0 k0 1) ≤ 0 then (Φ () u0) else (if (40 : Int32) < (u0 k0 1) then (Φ () u0) else (∀ u3 : Mm, u3 = up2 u0 k0 1 ((u0 k0 1) - (1 : Int32)) → (¬ (1 : Int32) < 0 ∧ ¬ (0 : Int32) < 0 ∧ ¬ (u3 k0 1) < 0 ∧ (1 : Int32).toNatClampNeg + (u3 k0 1).toNatClampNeg ≤ 40 ∧ (0 : Int32).toNatClampNeg + (u3 k0 1).toNatClampNeg ≤ 40 ∧ ∀ u4 : Mm, u4 = upA u3 ((k0 + 1)) (va_cpy (u3 ((k0 + 1))) (u3 ((k0 + 1))) (1 : Int32).toNatClampNeg (0 : Int32).toNatClampNeg (u3 k0 1).toNatClampNeg) → (Φ () u4)))))
set_option maxHeartbeats 4000000 in
set_option maxRecDepth 100000 in
theorem t_X7_dropFirst_0 {p : Program} {l : Launch} {e : Env} {s : State} {m : MethodId} {args : Array Value} {below : List Frame} {meth : Method} {c : Code} {D : va_G} {cA : Nat → ClassId} {o : Nat}  {Φ : Unit → Mm → Prop} (C : Cx p m meth c s args cX7_dropFirst 1 wsX7_dropFirst RX7 none D (tysL cA)) : ∀ (k0 : Nat) (u0 : Mm), kd k0 = 7 → ∀ (H : Heap) (locs : List Loc) (ls : Array Slot), Hp 747 o D (EC cA o u0) s H locs → lv_has ls 1 [(0, .ref (o + k0))] → w_X7_dropFirst k0 u0 Φ → W p l e rm_X7_dropFirst s m args below meth c H locs 0 0 (MQ below (Qg vV Φ (fun μ => Wd 747 o D (tysL cA) (EC cA o μ)) (aA o 747)) args s 0 0 (aA o 747)) (F0 m 0 ls []) := by
  intro k0 u0 hk0 H locs ls P hl h
  have hx := C.1.1
  have hb := C.1.2.1
  unfold w_X7_dropFirst at h
  refine lv_aload_n hx hb dX7_dropFirst_0 rfl (lv_at hl 0 rfl) ?_
  refine g_7_1 C P in_X7_dropFirst_7 wd_X7_dropFirst_1 hk0 dX7_dropFirst_1 ?_
  refine lv_if_le (tgt := 46) hx hb dX7_dropFirst_4 (by decide) (fun c1 => ?_) (fun c1 => ?_)
  · have h := ite_t h c1
    exact r_ret C P h dX7_dropFirst_46
  · have h := ite_f h c1
    refine lv_aload_n hx hb dX7_dropFirst_7 rfl (lv_at hl 0 rfl) ?_
    refine g_7_1 C P in_X7_dropFirst_7 wd_X7_dropFirst_1 hk0 dX7_dropFirst_8 ?_
    refine lv_aload_n hx hb dX7_dropFirst_11 rfl (lv_at hl 0 rfl) ?_
    refine g_7_0 C P in_X7_dropFirst_7 wd_X7_dropFirst_2 hk0 dX7_dropFirst_12 ?_
    refine al_20 C P (kd_7_1 hk0) dX7_dropFirst_15 ?_
    refine lv_icmp_gt (tgt := 46) hx hb dX7_dropFirst_16 (by decide) (fun c2 => ?_) (fun c2 => ?_)
    · have h := ite_t h c2
      exact r_ret C P h dX7_dropFirst_46
    · have h := ite_f h c2
      refine lv_aload_n hx hb dX7_dropFirst_19 rfl (lv_at hl 0 rfl) ?_
      refine lv_dup hx hb dX7_dropFirst_20 rfl ?_
      refine g_7_1 C P in_X7_dropFirst_7 wd_X7_dropFirst_1 hk0 dX7_dropFirst_21 ?_
      refine lv_iconst (v := 1) hx hb dX7_dropFirst_24 (by decide) ?_
      refine lv_isub hx hb dX7_dropFirst_25 ?_
      refine p_7_1 C P in_X7_dropFirst_7 wd_X7_dropFirst_1 hk0 dX7_dropFirst_26 (fun u3 eu3 H locs P => ?_)
      have h := h u3 eu3
      refine lv_aload_n hx hb dX7_dropFirst_29 rfl (lv_at hl 0 rfl) ?_
      refine g_7_0 C P in_X7_dropFirst_7 wd_X7_dropFirst_2 hk0 dX7_dropFirst_30 ?_
      refine lv_iconst (v := 1) hx hb dX7_dropFirst_33 (by decide) ?_
      refine lv_aload_n hx hb dX7_dropFirst_34 rfl (lv_at hl 0 rfl) ?_
      refine g_7_0 C P in_X7_dropFirst_7 wd_X7_dropFirst_2 hk0 dX7_dropFirst_35 ?_
      refine lv_iconst (v := 0) hx hb dX7_dropFirst_38 (by decide) ?_
      refine lv_aload_n hx hb dX7_dropFirst_39 rfl (lv_at hl 0 rfl) ?_
      refine g_7_1 C P in_X7_dropFirst_7 wd_X7_dropFirst_1 hk0 dX7_dropFirst_40 ?_
      obtain ⟨h1, h2, h3, h4, h5, h⟩ := h
      refine cp_20 C P (kd_7_1 hk0) (kd_7_1 hk0) (C.1.2.2.2.2 _ wd_X7_dropFirst_3) (C.1.2.2.2.2 _ wd_X7_dropFirst_4) (C.1.2.2.2.2 _ wd_X7_dropFirst_5) (C.1.2.2.2.2 _ wd_X7_dropFirst_6) (Nat.le_of_ble_eq_true rfl) (Nat.le_of_ble_eq_true rfl) hl.1 h1 h2 h3 h4 h5 dX7_dropFirst_43 (fun u4 eu4 H locs P => ?_)
      have h := h u4 eu4
      exact r_ret C P h dX7_dropFirst_46
set_option maxHeartbeats 4000000 in
set_option maxRecDepth 100000 in
theorem c_X7_dropFirst (l : Launch) (D : va_G) (cA : Nat → ClassId) (o : Nat) (k0 : Nat) (hk0 : kd k0 = 7) (u0 : Mm) (Φ : Unit → Mm → Prop) (h : w_X7_dropFirst k0 u0 Φ) : Met l yX7_dropFirst wsX7_dropFirst rm_X7_dropFirst (va_Pc [.ref (o + k0)] (Wd 747 o D (tysL cA) (EC cA o u0))) (Qg vV Φ (fun μ => Wd 747 o D (tysL cA) (EC cA o μ)) (aA o 747)) 0 0 (aA o 747) := by
  refine Met.ofW (cc := cX7_dropFirst) (maxL := 1) (ret := none) (by decide) rfl ?_
  intro p e s m args below meth c s₁ B hml hv
  obtain ⟨rfl, hv⟩ := hv
  have hl := lv_entry ([.ref (o + k0)]) (n := 1) (Nat.le_of_ble_eq_true rfl)
  rw [lg_entry_eq]
  exact t_X7_dropFirst_0 ⟨⟨B.exec, B.bytes, hml, findClass_of_methodNamed B.named, atoms_spec (ws := wsX7_dropFirst) B.pre⟩, B.returns, B.notSynchronized, hv.2⟩ k0 u0 hk0 _ _ _ ⟨hv.1, va_S.rf⟩ hl h
abbrev rm_X8_gateAt : Room := { frames := 0, cells := 0, slots := 0, locals := 0 }
theorem wd_X8_gateAt_1 : Cond.fieldLink RX8 50 "TurnstileBank$State" "gateCount" "I" ∈ wsX8_gateAt := List.mem_of_getElem? (i := 1) (by decide +kernel)
theorem wd_X8_gateAt_2 : Cond.fieldLink RX8 11 "TurnstileBank$State" "gates" "[LTurnstileBank$Gate;" ∈ wsX8_gateAt := List.mem_of_getElem? (i := 2) (by decide +kernel)
theorem in_X8_gateAt_8 : ∀ w ∈ wsX80, w ∈ wsX8_gateAt := fun w h => List.mem_cons_of_mem _ (List.mem_append_right _ h)
def w_X8_gateAt (k0 : Nat) (a1 : Int32) (u0 : Mm) (Φ : Option Nat → Mm → Prop) : Prop := (if a1 < 0 then (Φ none u0) else (if (u0 k0 5) ≤ a1 then (Φ none u0) else (if (8 : Int32) ≤ a1 then (Φ none u0) else (vp_in a1 8 ∧ (Φ (some ((k0 + 10 + 5 * a1.toNatClampNeg))) u0)))))
set_option maxHeartbeats 4000000 in
set_option maxRecDepth 100000 in
theorem t_X8_gateAt_0 {p : Program} {l : Launch} {e : Env} {s : State} {m : MethodId} {args : Array Value} {below : List Frame} {meth : Method} {c : Code} {D : va_G} {cA : Nat → ClassId} {o : Nat}  {Φ : Option Nat → Mm → Prop} (C : Cx p m meth c s args cX8_gateAt 2 wsX8_gateAt RX8 (some (.object "TurnstileBank$Gate")) D (tysL cA)) : ∀ (k0 : Nat) (a1 : Int32) (u0 : Mm), kd k0 = 8 → ∀ (H : Heap) (locs : List Loc) (ls : Array Slot), Hp 747 o D (EC cA o u0) s H locs → lv_has ls 2 [(0, .ref (o + k0)), (1, .int a1)] → w_X8_gateAt k0 a1 u0 Φ → W p l e rm_X8_gateAt s m args below meth c H locs 0 0 (MQ below (Qg (vN o) (fun r μ => Φ r μ ∧ ∀ k, r = some k → kd k = 1) (fun μ => Wd 747 o D (tysL cA) (EC cA o μ)) (aA o 747)) args s 0 0 (aA o 747)) (F0 m 0 ls []) := by
  intro k0 a1 u0 hk0 H locs ls P hl h
  have hx := C.1.1
  have hb := C.1.2.1
  unfold w_X8_gateAt at h
  refine lv_iload_n hx hb dX8_gateAt_0 rfl (lv_at hl 1 rfl) ?_
  refine lv_if_lt (tgt := 30) hx hb dX8_gateAt_1 (by decide) (fun c1 => ?_) (fun c1 => ?_)
  · have h := ite_t h c1
    refine lv_null hx hb dX8_gateAt_30 ?_
    exact r_aretn (Φ := (fun r μ => Φ r μ ∧ ∀ k, r = some k → kd k = 1)) C P ⟨h, fun k e => by cases e⟩ dX8_gateAt_31
  · have h := ite_f h c1
    refine lv_iload_n hx hb dX8_gateAt_4 rfl (lv_at hl 1 rfl) ?_
    refine lv_aload_n hx hb dX8_gateAt_5 rfl (lv_at hl 0 rfl) ?_
    refine g_8_5 C P in_X8_gateAt_8 wd_X8_gateAt_1 hk0 dX8_gateAt_6 ?_
    refine lv_icmp_ge (tgt := 30) hx hb dX8_gateAt_9 (by decide) (fun c2 => ?_) (fun c2 => ?_)
    · have h := ite_t h c2
      refine lv_null hx hb dX8_gateAt_30 ?_
      exact r_aretn (Φ := (fun r μ => Φ r μ ∧ ∀ k, r = some k → kd k = 1)) C P ⟨h, fun k e => by cases e⟩ dX8_gateAt_31
    · have h := ite_f h c2
      refine lv_iload_n hx hb dX8_gateAt_12 rfl (lv_at hl 1 rfl) ?_
      refine lv_aload_n hx hb dX8_gateAt_13 rfl (lv_at hl 0 rfl) ?_
      refine g_8_0 C P in_X8_gateAt_8 wd_X8_gateAt_2 hk0 dX8_gateAt_14 ?_
      refine l_gate C P hk0 dX8_gateAt_17 ?_
      refine lv_icmp_ge (tgt := 30) hx hb dX8_gateAt_18 (by decide) (fun c3 => ?_) (fun c3 => ?_)
      · have h := ite_t h c3
        refine lv_null hx hb dX8_gateAt_30 ?_
        exact r_aretn (Φ := (fun r μ => Φ r μ ∧ ∀ k, r = some k → kd k = 1)) C P ⟨h, fun k e => by cases e⟩ dX8_gateAt_31
      · have h := ite_f h c3
        refine lv_aload_n hx hb dX8_gateAt_21 rfl (lv_at hl 0 rfl) ?_
        refine g_8_0 C P in_X8_gateAt_8 wd_X8_gateAt_2 hk0 dX8_gateAt_22 ?_
        refine lv_iload_n hx hb dX8_gateAt_25 rfl (lv_at hl 1 rfl) ?_
        obtain ⟨hi, h⟩ := h
        have hk4 := kd_gate hk0 hi
        refine a_gate C P hk0 hi dX8_gateAt_26 ?_
        refine lv_goto (tgt := 31) hx hb dX8_gateAt_27 (by decide) ?_
        exact r_arets (Φ := (fun r μ => Φ r μ ∧ ∀ k, r = some k → kd k = 1)) C P ⟨h, fun k e => by cases e; exact hk4⟩ dX8_gateAt_31
set_option maxHeartbeats 4000000 in
set_option maxRecDepth 100000 in
theorem c_X8_gateAt (l : Launch) (D : va_G) (cA : Nat → ClassId) (o : Nat) (k0 : Nat) (a1 : Int32) (hk0 : kd k0 = 8) (u0 : Mm) (Φ : Option Nat → Mm → Prop) (h : w_X8_gateAt k0 a1 u0 Φ) : Met l yX8_gateAt wsX8_gateAt rm_X8_gateAt (va_Pc [.ref (o + k0), .int a1] (Wd 747 o D (tysL cA) (EC cA o u0))) (Qg (vN o) (fun r μ => Φ r μ ∧ ∀ k, r = some k → kd k = 1) (fun μ => Wd 747 o D (tysL cA) (EC cA o μ)) (aA o 747)) 0 0 (aA o 747) := by
  refine Met.ofW (cc := cX8_gateAt) (maxL := 2) (ret := (some (.object "TurnstileBank$Gate"))) (by decide) rfl ?_
  intro p e s m args below meth c s₁ B hml hv
  obtain ⟨rfl, hv⟩ := hv
  have hl := lv_entry ([.ref (o + k0), .int a1]) (n := 2) (Nat.le_of_ble_eq_true rfl)
  rw [lg_entry_eq]
  exact t_X8_gateAt_0 ⟨⟨B.exec, B.bytes, hml, findClass_of_methodNamed B.named, atoms_spec (ws := wsX8_gateAt) B.pre⟩, B.returns, B.notSynchronized, hv.2⟩ k0 a1 u0 hk0 _ _ _ ⟨hv.1, va_S.rf⟩ hl h
abbrev rm_X8_personAt : Room := { frames := 0, cells := 0, slots := 0, locals := 0 }
theorem wd_X8_personAt_1 : Cond.fieldLink RX8 57 "TurnstileBank$State" "personCount" "I" ∈ wsX8_personAt := List.mem_of_getElem? (i := 1) (by decide +kernel)
theorem wd_X8_personAt_2 : Cond.fieldLink RX8 19 "TurnstileBank$State" "people" "[LTurnstileBank$Person;" ∈ wsX8_personAt := List.mem_of_getElem? (i := 2) (by decide +kernel)
theorem in_X8_personAt_8 : ∀ w ∈ wsX80, w ∈ wsX8_personAt := fun w h => List.mem_cons_of_mem _ (List.mem_append_right _ h)
def w_X8_personAt (k0 : Nat) (a1 : Int32) (u0 : Mm) (Φ : Option Nat → Mm → Prop) : Prop := (if a1 < 0 then (Φ none u0) else (if (u0 k0 6) ≤ a1 then (Φ none u0) else (if (40 : Int32) ≤ a1 then (Φ none u0) else (vp_in a1 40 ∧ (Φ (some ((k0 + 50 + a1.toNatClampNeg))) u0)))))
set_option maxHeartbeats 4000000 in
set_option maxRecDepth 100000 in
theorem t_X8_personAt_0 {p : Program} {l : Launch} {e : Env} {s : State} {m : MethodId} {args : Array Value} {below : List Frame} {meth : Method} {c : Code} {D : va_G} {cA : Nat → ClassId} {o : Nat}  {Φ : Option Nat → Mm → Prop} (C : Cx p m meth c s args cX8_personAt 2 wsX8_personAt RX8 (some (.object "TurnstileBank$Person")) D (tysL cA)) : ∀ (k0 : Nat) (a1 : Int32) (u0 : Mm), kd k0 = 8 → ∀ (H : Heap) (locs : List Loc) (ls : Array Slot), Hp 747 o D (EC cA o u0) s H locs → lv_has ls 2 [(0, .ref (o + k0)), (1, .int a1)] → w_X8_personAt k0 a1 u0 Φ → W p l e rm_X8_personAt s m args below meth c H locs 0 0 (MQ below (Qg (vN o) (fun r μ => Φ r μ ∧ ∀ k, r = some k → kd k = 5) (fun μ => Wd 747 o D (tysL cA) (EC cA o μ)) (aA o 747)) args s 0 0 (aA o 747)) (F0 m 0 ls []) := by
  intro k0 a1 u0 hk0 H locs ls P hl h
  have hx := C.1.1
  have hb := C.1.2.1
  unfold w_X8_personAt at h
  refine lv_iload_n hx hb dX8_personAt_0 rfl (lv_at hl 1 rfl) ?_
  refine lv_if_lt (tgt := 30) hx hb dX8_personAt_1 (by decide) (fun c1 => ?_) (fun c1 => ?_)
  · have h := ite_t h c1
    refine lv_null hx hb dX8_personAt_30 ?_
    exact r_aretn (Φ := (fun r μ => Φ r μ ∧ ∀ k, r = some k → kd k = 5)) C P ⟨h, fun k e => by cases e⟩ dX8_personAt_31
  · have h := ite_f h c1
    refine lv_iload_n hx hb dX8_personAt_4 rfl (lv_at hl 1 rfl) ?_
    refine lv_aload_n hx hb dX8_personAt_5 rfl (lv_at hl 0 rfl) ?_
    refine g_8_6 C P in_X8_personAt_8 wd_X8_personAt_1 hk0 dX8_personAt_6 ?_
    refine lv_icmp_ge (tgt := 30) hx hb dX8_personAt_9 (by decide) (fun c2 => ?_) (fun c2 => ?_)
    · have h := ite_t h c2
      refine lv_null hx hb dX8_personAt_30 ?_
      exact r_aretn (Φ := (fun r μ => Φ r μ ∧ ∀ k, r = some k → kd k = 5)) C P ⟨h, fun k e => by cases e⟩ dX8_personAt_31
    · have h := ite_f h c2
      refine lv_iload_n hx hb dX8_personAt_12 rfl (lv_at hl 1 rfl) ?_
      refine lv_aload_n hx hb dX8_personAt_13 rfl (lv_at hl 0 rfl) ?_
      refine g_8_1 C P in_X8_personAt_8 wd_X8_personAt_2 hk0 dX8_personAt_14 ?_
      refine l_person C P hk0 dX8_personAt_17 ?_
      refine lv_icmp_ge (tgt := 30) hx hb dX8_personAt_18 (by decide) (fun c3 => ?_) (fun c3 => ?_)
      · have h := ite_t h c3
        refine lv_null hx hb dX8_personAt_30 ?_
        exact r_aretn (Φ := (fun r μ => Φ r μ ∧ ∀ k, r = some k → kd k = 5)) C P ⟨h, fun k e => by cases e⟩ dX8_personAt_31
      · have h := ite_f h c3
        refine lv_aload_n hx hb dX8_personAt_21 rfl (lv_at hl 0 rfl) ?_
        refine g_8_1 C P in_X8_personAt_8 wd_X8_personAt_2 hk0 dX8_personAt_22 ?_
        refine lv_iload_n hx hb dX8_personAt_25 rfl (lv_at hl 1 rfl) ?_
        obtain ⟨hi, h⟩ := h
        have hk4 := kd_person hk0 hi
        refine a_person C P hk0 hi dX8_personAt_26 ?_
        refine lv_goto (tgt := 31) hx hb dX8_personAt_27 (by decide) ?_
        exact r_arets (Φ := (fun r μ => Φ r μ ∧ ∀ k, r = some k → kd k = 5)) C P ⟨h, fun k e => by cases e; exact hk4⟩ dX8_personAt_31
set_option maxHeartbeats 4000000 in
set_option maxRecDepth 100000 in
theorem c_X8_personAt (l : Launch) (D : va_G) (cA : Nat → ClassId) (o : Nat) (k0 : Nat) (a1 : Int32) (hk0 : kd k0 = 8) (u0 : Mm) (Φ : Option Nat → Mm → Prop) (h : w_X8_personAt k0 a1 u0 Φ) : Met l yX8_personAt wsX8_personAt rm_X8_personAt (va_Pc [.ref (o + k0), .int a1] (Wd 747 o D (tysL cA) (EC cA o u0))) (Qg (vN o) (fun r μ => Φ r μ ∧ ∀ k, r = some k → kd k = 5) (fun μ => Wd 747 o D (tysL cA) (EC cA o μ)) (aA o 747)) 0 0 (aA o 747) := by
  refine Met.ofW (cc := cX8_personAt) (maxL := 2) (ret := (some (.object "TurnstileBank$Person"))) (by decide) rfl ?_
  intro p e s m args below meth c s₁ B hml hv
  obtain ⟨rfl, hv⟩ := hv
  have hl := lv_entry ([.ref (o + k0), .int a1]) (n := 2) (Nat.le_of_ble_eq_true rfl)
  rw [lg_entry_eq]
  exact t_X8_personAt_0 ⟨⟨B.exec, B.bytes, hml, findClass_of_methodNamed B.named, atoms_spec (ws := wsX8_personAt) B.pre⟩, B.returns, B.notSynchronized, hv.2⟩ k0 a1 u0 hk0 _ _ _ ⟨hv.1, va_S.rf⟩ hl h
abbrev rm_X8_poolAt : Room := { frames := 0, cells := 0, slots := 0, locals := 0 }
theorem wd_X8_poolAt_1 : Cond.fieldLink RX8 63 "TurnstileBank$State" "poolCount" "I" ∈ wsX8_poolAt := List.mem_of_getElem? (i := 1) (by decide +kernel)
theorem wd_X8_poolAt_2 : Cond.fieldLink RX8 25 "TurnstileBank$State" "pools" "[LTurnstileBank$Pool;" ∈ wsX8_poolAt := List.mem_of_getElem? (i := 2) (by decide +kernel)
theorem in_X8_poolAt_8 : ∀ w ∈ wsX80, w ∈ wsX8_poolAt := fun w h => List.mem_cons_of_mem _ (List.mem_append_right _ h)
def w_X8_poolAt (k0 : Nat) (a1 : Int32) (u0 : Mm) (Φ : Option Nat → Mm → Prop) : Prop := (if a1 < 0 then (Φ none u0) else (if (u0 k0 7) ≤ a1 then (Φ none u0) else (if (4 : Int32) ≤ a1 then (Φ none u0) else (vp_in a1 4 ∧ (Φ (some ((k0 + 90 + a1.toNatClampNeg))) u0)))))
set_option maxHeartbeats 4000000 in
set_option maxRecDepth 100000 in
theorem t_X8_poolAt_0 {p : Program} {l : Launch} {e : Env} {s : State} {m : MethodId} {args : Array Value} {below : List Frame} {meth : Method} {c : Code} {D : va_G} {cA : Nat → ClassId} {o : Nat}  {Φ : Option Nat → Mm → Prop} (C : Cx p m meth c s args cX8_poolAt 2 wsX8_poolAt RX8 (some (.object "TurnstileBank$Pool")) D (tysL cA)) : ∀ (k0 : Nat) (a1 : Int32) (u0 : Mm), kd k0 = 8 → ∀ (H : Heap) (locs : List Loc) (ls : Array Slot), Hp 747 o D (EC cA o u0) s H locs → lv_has ls 2 [(0, .ref (o + k0)), (1, .int a1)] → w_X8_poolAt k0 a1 u0 Φ → W p l e rm_X8_poolAt s m args below meth c H locs 0 0 (MQ below (Qg (vN o) (fun r μ => Φ r μ ∧ ∀ k, r = some k → kd k = 6) (fun μ => Wd 747 o D (tysL cA) (EC cA o μ)) (aA o 747)) args s 0 0 (aA o 747)) (F0 m 0 ls []) := by
  intro k0 a1 u0 hk0 H locs ls P hl h
  have hx := C.1.1
  have hb := C.1.2.1
  unfold w_X8_poolAt at h
  refine lv_iload_n hx hb dX8_poolAt_0 rfl (lv_at hl 1 rfl) ?_
  refine lv_if_lt (tgt := 30) hx hb dX8_poolAt_1 (by decide) (fun c1 => ?_) (fun c1 => ?_)
  · have h := ite_t h c1
    refine lv_null hx hb dX8_poolAt_30 ?_
    exact r_aretn (Φ := (fun r μ => Φ r μ ∧ ∀ k, r = some k → kd k = 6)) C P ⟨h, fun k e => by cases e⟩ dX8_poolAt_31
  · have h := ite_f h c1
    refine lv_iload_n hx hb dX8_poolAt_4 rfl (lv_at hl 1 rfl) ?_
    refine lv_aload_n hx hb dX8_poolAt_5 rfl (lv_at hl 0 rfl) ?_
    refine g_8_7 C P in_X8_poolAt_8 wd_X8_poolAt_1 hk0 dX8_poolAt_6 ?_
    refine lv_icmp_ge (tgt := 30) hx hb dX8_poolAt_9 (by decide) (fun c2 => ?_) (fun c2 => ?_)
    · have h := ite_t h c2
      refine lv_null hx hb dX8_poolAt_30 ?_
      exact r_aretn (Φ := (fun r μ => Φ r μ ∧ ∀ k, r = some k → kd k = 6)) C P ⟨h, fun k e => by cases e⟩ dX8_poolAt_31
    · have h := ite_f h c2
      refine lv_iload_n hx hb dX8_poolAt_12 rfl (lv_at hl 1 rfl) ?_
      refine lv_aload_n hx hb dX8_poolAt_13 rfl (lv_at hl 0 rfl) ?_
      refine g_8_2 C P in_X8_poolAt_8 wd_X8_poolAt_2 hk0 dX8_poolAt_14 ?_
      refine l_pool C P hk0 dX8_poolAt_17 ?_
      refine lv_icmp_ge (tgt := 30) hx hb dX8_poolAt_18 (by decide) (fun c3 => ?_) (fun c3 => ?_)
      · have h := ite_t h c3
        refine lv_null hx hb dX8_poolAt_30 ?_
        exact r_aretn (Φ := (fun r μ => Φ r μ ∧ ∀ k, r = some k → kd k = 6)) C P ⟨h, fun k e => by cases e⟩ dX8_poolAt_31
      · have h := ite_f h c3
        refine lv_aload_n hx hb dX8_poolAt_21 rfl (lv_at hl 0 rfl) ?_
        refine g_8_2 C P in_X8_poolAt_8 wd_X8_poolAt_2 hk0 dX8_poolAt_22 ?_
        refine lv_iload_n hx hb dX8_poolAt_25 rfl (lv_at hl 1 rfl) ?_
        obtain ⟨hi, h⟩ := h
        have hk4 := kd_pool hk0 hi
        refine a_pool C P hk0 hi dX8_poolAt_26 ?_
        refine lv_goto (tgt := 31) hx hb dX8_poolAt_27 (by decide) ?_
        exact r_arets (Φ := (fun r μ => Φ r μ ∧ ∀ k, r = some k → kd k = 6)) C P ⟨h, fun k e => by cases e; exact hk4⟩ dX8_poolAt_31
set_option maxHeartbeats 4000000 in
set_option maxRecDepth 100000 in
theorem c_X8_poolAt (l : Launch) (D : va_G) (cA : Nat → ClassId) (o : Nat) (k0 : Nat) (a1 : Int32) (hk0 : kd k0 = 8) (u0 : Mm) (Φ : Option Nat → Mm → Prop) (h : w_X8_poolAt k0 a1 u0 Φ) : Met l yX8_poolAt wsX8_poolAt rm_X8_poolAt (va_Pc [.ref (o + k0), .int a1] (Wd 747 o D (tysL cA) (EC cA o u0))) (Qg (vN o) (fun r μ => Φ r μ ∧ ∀ k, r = some k → kd k = 6) (fun μ => Wd 747 o D (tysL cA) (EC cA o μ)) (aA o 747)) 0 0 (aA o 747) := by
  refine Met.ofW (cc := cX8_poolAt) (maxL := 2) (ret := (some (.object "TurnstileBank$Pool"))) (by decide) rfl ?_
  intro p e s m args below meth c s₁ B hml hv
  obtain ⟨rfl, hv⟩ := hv
  have hl := lv_entry ([.ref (o + k0), .int a1]) (n := 2) (Nat.le_of_ble_eq_true rfl)
  rw [lg_entry_eq]
  exact t_X8_poolAt_0 ⟨⟨B.exec, B.bytes, hml, findClass_of_methodNamed B.named, atoms_spec (ws := wsX8_poolAt) B.pre⟩, B.returns, B.notSynchronized, hv.2⟩ k0 a1 u0 hk0 _ _ _ ⟨hv.1, va_S.rf⟩ hl h
abbrev rm_X8_passAt : Room := { frames := 0, cells := 0, slots := 0, locals := 0 }
theorem wd_X8_passAt_1 : Cond.fieldLink RX8 69 "TurnstileBank$State" "passCount" "I" ∈ wsX8_passAt := List.mem_of_getElem? (i := 1) (by decide +kernel)
theorem wd_X8_passAt_2 : Cond.fieldLink RX8 31 "TurnstileBank$State" "passes" "[LTurnstileBank$Pass;" ∈ wsX8_passAt := List.mem_of_getElem? (i := 2) (by decide +kernel)
theorem in_X8_passAt_8 : ∀ w ∈ wsX80, w ∈ wsX8_passAt := fun w h => List.mem_cons_of_mem _ (List.mem_append_right _ h)
def w_X8_passAt (k0 : Nat) (a1 : Int32) (u0 : Mm) (Φ : Option Nat → Mm → Prop) : Prop := (if a1 < 0 then (Φ none u0) else (if (u0 k0 8) ≤ a1 then (Φ none u0) else (if (12 : Int32) ≤ a1 then (Φ none u0) else (vp_in a1 12 ∧ (Φ (some ((k0 + 94 + a1.toNatClampNeg))) u0)))))
set_option maxHeartbeats 4000000 in
set_option maxRecDepth 100000 in
theorem t_X8_passAt_0 {p : Program} {l : Launch} {e : Env} {s : State} {m : MethodId} {args : Array Value} {below : List Frame} {meth : Method} {c : Code} {D : va_G} {cA : Nat → ClassId} {o : Nat}  {Φ : Option Nat → Mm → Prop} (C : Cx p m meth c s args cX8_passAt 2 wsX8_passAt RX8 (some (.object "TurnstileBank$Pass")) D (tysL cA)) : ∀ (k0 : Nat) (a1 : Int32) (u0 : Mm), kd k0 = 8 → ∀ (H : Heap) (locs : List Loc) (ls : Array Slot), Hp 747 o D (EC cA o u0) s H locs → lv_has ls 2 [(0, .ref (o + k0)), (1, .int a1)] → w_X8_passAt k0 a1 u0 Φ → W p l e rm_X8_passAt s m args below meth c H locs 0 0 (MQ below (Qg (vN o) (fun r μ => Φ r μ ∧ ∀ k, r = some k → kd k = 4) (fun μ => Wd 747 o D (tysL cA) (EC cA o μ)) (aA o 747)) args s 0 0 (aA o 747)) (F0 m 0 ls []) := by
  intro k0 a1 u0 hk0 H locs ls P hl h
  have hx := C.1.1
  have hb := C.1.2.1
  unfold w_X8_passAt at h
  refine lv_iload_n hx hb dX8_passAt_0 rfl (lv_at hl 1 rfl) ?_
  refine lv_if_lt (tgt := 30) hx hb dX8_passAt_1 (by decide) (fun c1 => ?_) (fun c1 => ?_)
  · have h := ite_t h c1
    refine lv_null hx hb dX8_passAt_30 ?_
    exact r_aretn (Φ := (fun r μ => Φ r μ ∧ ∀ k, r = some k → kd k = 4)) C P ⟨h, fun k e => by cases e⟩ dX8_passAt_31
  · have h := ite_f h c1
    refine lv_iload_n hx hb dX8_passAt_4 rfl (lv_at hl 1 rfl) ?_
    refine lv_aload_n hx hb dX8_passAt_5 rfl (lv_at hl 0 rfl) ?_
    refine g_8_8 C P in_X8_passAt_8 wd_X8_passAt_1 hk0 dX8_passAt_6 ?_
    refine lv_icmp_ge (tgt := 30) hx hb dX8_passAt_9 (by decide) (fun c2 => ?_) (fun c2 => ?_)
    · have h := ite_t h c2
      refine lv_null hx hb dX8_passAt_30 ?_
      exact r_aretn (Φ := (fun r μ => Φ r μ ∧ ∀ k, r = some k → kd k = 4)) C P ⟨h, fun k e => by cases e⟩ dX8_passAt_31
    · have h := ite_f h c2
      refine lv_iload_n hx hb dX8_passAt_12 rfl (lv_at hl 1 rfl) ?_
      refine lv_aload_n hx hb dX8_passAt_13 rfl (lv_at hl 0 rfl) ?_
      refine g_8_3 C P in_X8_passAt_8 wd_X8_passAt_2 hk0 dX8_passAt_14 ?_
      refine l_pass C P hk0 dX8_passAt_17 ?_
      refine lv_icmp_ge (tgt := 30) hx hb dX8_passAt_18 (by decide) (fun c3 => ?_) (fun c3 => ?_)
      · have h := ite_t h c3
        refine lv_null hx hb dX8_passAt_30 ?_
        exact r_aretn (Φ := (fun r μ => Φ r μ ∧ ∀ k, r = some k → kd k = 4)) C P ⟨h, fun k e => by cases e⟩ dX8_passAt_31
      · have h := ite_f h c3
        refine lv_aload_n hx hb dX8_passAt_21 rfl (lv_at hl 0 rfl) ?_
        refine g_8_3 C P in_X8_passAt_8 wd_X8_passAt_2 hk0 dX8_passAt_22 ?_
        refine lv_iload_n hx hb dX8_passAt_25 rfl (lv_at hl 1 rfl) ?_
        obtain ⟨hi, h⟩ := h
        have hk4 := kd_pass hk0 hi
        refine a_pass C P hk0 hi dX8_passAt_26 ?_
        refine lv_goto (tgt := 31) hx hb dX8_passAt_27 (by decide) ?_
        exact r_arets (Φ := (fun r μ => Φ r μ ∧ ∀ k, r = some k → kd k = 4)) C P ⟨h, fun k e => by cases e; exact hk4⟩ dX8_passAt_31
set_option maxHeartbeats 4000000 in
set_option maxRecDepth 100000 in
theorem c_X8_passAt (l : Launch) (D : va_G) (cA : Nat → ClassId) (o : Nat) (k0 : Nat) (a1 : Int32) (hk0 : kd k0 = 8) (u0 : Mm) (Φ : Option Nat → Mm → Prop) (h : w_X8_passAt k0 a1 u0 Φ) : Met l yX8_passAt wsX8_passAt rm_X8_passAt (va_Pc [.ref (o + k0), .int a1] (Wd 747 o D (tysL cA) (EC cA o u0))) (Qg (vN o) (fun r μ => Φ r μ ∧ ∀ k, r = some k → kd k = 4) (fun μ => Wd 747 o D (tysL cA) (EC cA o μ)) (aA o 747)) 0 0 (aA o 747) := by
  refine Met.ofW (cc := cX8_passAt) (maxL := 2) (ret := (some (.object "TurnstileBank$Pass"))) (by decide) rfl ?_
  intro p e s m args below meth c s₁ B hml hv
  obtain ⟨rfl, hv⟩ := hv
  have hl := lv_entry ([.ref (o + k0), .int a1]) (n := 2) (Nat.le_of_ble_eq_true rfl)
  rw [lg_entry_eq]
  exact t_X8_passAt_0 ⟨⟨B.exec, B.bytes, hml, findClass_of_methodNamed B.named, atoms_spec (ws := wsX8_passAt) B.pre⟩, B.returns, B.notSynchronized, hv.2⟩ k0 a1 u0 hk0 _ _ _ ⟨hv.1, va_S.rf⟩ hl h
abbrev rm_X9_isBetween : Room := { frames := 0, cells := 0, slots := 0, locals := 0 }
def w_X9_isBetween (a0 : Int32) (a1 : Int32) (a2 : Int32) (u0 : Mm) (Φ : Int32 → Mm → Prop) : Prop := (if a1 < a0 then (Φ (0 : Int32) u0) else (if a2 < a1 then (Φ (0 : Int32) u0) else (Φ (1 : Int32) u0)))
set_option maxHeartbeats 4000000 in
set_option maxRecDepth 100000 in
theorem t_X9_isBetween_0 {p : Program} {l : Launch} {e : Env} {s : State} {m : MethodId} {args : Array Value} {below : List Frame} {meth : Method} {c : Code} {D : va_G} {cA : Nat → ClassId} {o : Nat}  {Φ : Int32 → Mm → Prop} (C : Cx p m meth c s args cX9_isBetween 3 wsX9_isBetween RX9 (some .boolean) D (tysL cA)) : ∀ (a0 : Int32) (a1 : Int32) (a2 : Int32) (u0 : Mm), ∀ (H : Heap) (locs : List Loc) (ls : Array Slot), Hp 747 o D (EC cA o u0) s H locs → lv_has ls 3 [(0, .int a0), (1, .int a1), (2, .int a2)] → w_X9_isBetween a0 a1 a2 u0 Φ → W p l e rm_X9_isBetween s m args below meth c H locs 0 0 (MQ below (Qg vI Φ (fun μ => Wd 747 o D (tysL cA) (EC cA o μ)) (aA o 747)) args s 0 0 (aA o 747)) (F0 m 0 ls []) := by
  intro a0 a1 a2 u0 H locs ls P hl h
  have hx := C.1.1
  have hb := C.1.2.1
  unfold w_X9_isBetween at h
  refine lv_iload_n hx hb dX9_isBetween_0 rfl (lv_at hl 0 rfl) ?_
  refine lv_iload_n hx hb dX9_isBetween_1 rfl (lv_at hl 1 rfl) ?_
  refine lv_icmp_gt (tgt := 14) hx hb dX9_isBetween_2 (by decide) (fun c1 => ?_) (fun c1 => ?_)
  · have h := ite_t h c1
    refine lv_iconst (v := 0) hx hb dX9_isBetween_14 (by decide) ?_
    exact r_iretb C P (Or.inl rfl) h dX9_isBetween_15
  · have h := ite_f h c1
    refine lv_iload_n hx hb dX9_isBetween_5 rfl (lv_at hl 1 rfl) ?_
    refine lv_iload_n hx hb dX9_isBetween_6 rfl (lv_at hl 2 rfl) ?_
    refine lv_icmp_gt (tgt := 14) hx hb dX9_isBetween_7 (by decide) (fun c2 => ?_) (fun c2 => ?_)
    · have h := ite_t h c2
      refine lv_iconst (v := 0) hx hb dX9_isBetween_14 (by decide) ?_
      exact r_iretb C P (Or.inl rfl) h dX9_isBetween_15
    · have h := ite_f h c2
      refine lv_iconst (v := 1) hx hb dX9_isBetween_10 (by decide) ?_
      refine lv_goto (tgt := 15) hx hb dX9_isBetween_11 (by decide) ?_
      exact r_iretb C P (Or.inr rfl) h dX9_isBetween_15
set_option maxHeartbeats 4000000 in
set_option maxRecDepth 100000 in
theorem c_X9_isBetween (l : Launch) (D : va_G) (cA : Nat → ClassId) (o : Nat) (a0 : Int32) (a1 : Int32) (a2 : Int32)  (u0 : Mm) (Φ : Int32 → Mm → Prop) (h : w_X9_isBetween a0 a1 a2 u0 Φ) : Met l yX9_isBetween wsX9_isBetween rm_X9_isBetween (va_Pc [.int a0, .int a1, .int a2] (Wd 747 o D (tysL cA) (EC cA o u0))) (Qg vI Φ (fun μ => Wd 747 o D (tysL cA) (EC cA o μ)) (aA o 747)) 0 0 (aA o 747) := by
  refine Met.ofW (cc := cX9_isBetween) (maxL := 3) (ret := (some .boolean)) (by decide) rfl ?_
  intro p e s m args below meth c s₁ B hml hv
  obtain ⟨rfl, hv⟩ := hv
  have hl := lv_entry ([.int a0, .int a1, .int a2]) (n := 3) (Nat.le_of_ble_eq_true rfl)
  rw [lg_entry_eq]
  exact t_X9_isBetween_0 ⟨⟨B.exec, B.bytes, hml, findClass_of_methodNamed B.named, atoms_spec (ws := wsX9_isBetween) B.pre⟩, B.returns, B.notSynchronized, hv.2⟩ a0 a1 a2 u0 _ _ _ ⟨hv.1, va_S.rf⟩ hl h
abbrev rm_X8_newGate : Room := { frames := 1, cells := 0, slots := 0, locals := 24 }
theorem wd_X8_newGate_1 : Cond.fieldLink RX8 50 "TurnstileBank$State" "gateCount" "I" ∈ wsX8_newGate := List.mem_of_getElem? (i := 1) (by decide +kernel)
theorem wd_X8_newGate_2 : Cond.fieldLink RX8 11 "TurnstileBank$State" "gates" "[LTurnstileBank$Gate;" ∈ wsX8_newGate := List.mem_of_getElem? (i := 2) (by decide +kernel)
theorem wd_X8_newGate_3 : Cond.static yX9_isBetween ∈ wsX8_newGate := List.mem_of_getElem? (i := 3) (by decide +kernel)
theorem wd_X8_newGate_4 : Cond.initialized RX9 ∈ wsX8_newGate := List.mem_of_getElem? (i := 4) (by decide +kernel)
theorem in_X8_newGate_8 : ∀ w ∈ wsX80, w ∈ wsX8_newGate := fun w h => List.mem_cons_of_mem _ (List.mem_append_left _ (List.mem_append_left _ (List.mem_append_right _ h)))
def w_X8_newGate (k0 : Nat) (a1 : Int32) (a2 : Int32) (a3 : Int32) (a4 : Int32) (u0 : Mm) (Φ : Int32 → Mm → Prop) : Prop := (w_X9_isBetween ((0 : Int32)) a1 ((2 : Int32)) u0 (fun r2 u1 => (if r2 = 0 then (Φ ((-2 : Int32)) u1) else (w_X9_isBetween ((1 : Int32)) a2 ((10 : Int32)) u1 (fun r5 u4 => (if r5 = 0 then (Φ ((-2 : Int32)) u4) else (w_X9_isBetween ((1 : Int32)) a3 ((20 : Int32)) u4 (fun r8 u7 => (if r8 = 0 then (Φ ((-2 : Int32)) u7) else (w_X9_isBetween ((1 : Int32)) a4 ((10 : Int32)) u7 (fun r11 u10 => (if r11 = 0 then (Φ ((-2 : Int32)) u10) else (if (u10 k0 5) < (8 : Int32) then (vp_in (u10 k0 5) 8 ∧ (w_X1_setUp ((k0 + 10 + 5 * (u10 k0 5).toNatClampNeg)) a1 a2 a3 a4 u10 (fun _ u15 => (∀ u17 : Mm, u17 = up2 u15 k0 5 ((u15 k0 5) + (1 : Int32)) → (Φ (((u17 k0 5) - (1 : Int32))) u17))))) else (Φ ((-3 : Int32)) u10))))))))))))))
set_option maxHeartbeats 4000000 in
set_option maxRecDepth 100000 in
theorem t_X8_newGate_0 {p : Program} {l : Launch} {e : Env} {s : State} {m : MethodId} {args : Array Value} {below : List Frame} {meth : Method} {c : Code} {D : va_G} {cA : Nat → ClassId} {o : Nat}  {Φ : Int32 → Mm → Prop} (C : Cx p m meth c s args cX8_newGate 5 wsX8_newGate RX8 (some .int) D (tysL cA)) : ∀ (k0 : Nat) (a1 : Int32) (a2 : Int32) (a3 : Int32) (a4 : Int32) (u0 : Mm), kd k0 = 8 → ∀ (H : Heap) (locs : List Loc) (ls : Array Slot), Hp 747 o D (EC cA o u0) s H locs → lv_has ls 5 [(0, .ref (o + k0)), (1, .int a1), (2, .int a2), (3, .int a3), (4, .int a4)] → w_X8_newGate k0 a1 a2 a3 a4 u0 Φ → W p l e rm_X8_newGate s m args below meth c H locs 0 0 (MQ below (Qg vI Φ (fun μ => Wd 747 o D (tysL cA) (EC cA o μ)) (aA o 747)) args s 0 0 (aA o 747)) (F0 m 0 ls []) := by
  intro k0 a1 a2 a3 a4 u0 hk0 H locs ls P hl h
  have hx := C.1.1
  have hb := C.1.2.1
  unfold w_X8_newGate at h
  refine lv_iconst (v := 0) hx hb dX8_newGate_0 (by decide) ?_
  refine lv_iload_n hx hb dX8_newGate_1 rfl (lv_at hl 1 rfl) ?_
  refine lv_iconst (v := 2) hx hb dX8_newGate_2 (by decide) ?_
  refine r_calli (F := EC cA o) (va_runSN (As := [.int (0 : Int32), .int a1, .int (2 : Int32)]) (rest := []) C.1 (c_X9_isBetween l D cA o _ _ _ u0 _ h) ⟨va_cnB 3 C.1.2.2.2.2 gX8_newGate_X9_isBetween_n81 rfl rfl rfl (C.2.2.2.2 0 _ rfl) (C.1.2.2.2.2 _ wd_X8_newGate_4) (by decide +kernel) ⟨Nat.le_of_ble_eq_true rfl, Nat.le_of_ble_eq_true rfl⟩, C.1.2.2.2.2 _ wd_X8_newGate_3, trivial⟩ (r_pre C P [.int (0 : Int32), .int a1, .int (2 : Int32)]) rfl rfl hl.1 rfl (lv_room (Nat.le_of_ble_eq_true rfl)) dX8_newGate_3 ⟨Nat.le_of_ble_eq_true rfl, Nat.le_of_ble_eq_true rfl⟩) P.2 (fun r2 u1 H locs h P => ?_)
  refine lv_if_eq (tgt := 40) hx hb dX8_newGate_6 (by decide) (fun c3 => ?_) (fun c3 => ?_)
  · have h := ite_t h c3
    refine lv_bipush (v := -2) hx hb dX8_newGate_40 (by decide) ?_
    exact r_ireti C P h dX8_newGate_42
  · have h := ite_f h c3
    refine lv_iconst (v := 1) hx hb dX8_newGate_9 (by decide) ?_
    refine lv_iload_n hx hb dX8_newGate_10 rfl (lv_at hl 2 rfl) ?_
    refine lv_bipush (v := 10) hx hb dX8_newGate_11 (by decide) ?_
    refine r_calli (F := EC cA o) (va_runSN (As := [.int (1 : Int32), .int a2, .int (10 : Int32)]) (rest := []) C.1 (c_X9_isBetween l D cA o _ _ _ u1 _ h) ⟨va_cnB 3 C.1.2.2.2.2 gX8_newGate_X9_isBetween_n81 rfl rfl rfl (C.2.2.2.2 0 _ rfl) (C.1.2.2.2.2 _ wd_X8_newGate_4) (by decide +kernel) ⟨Nat.le_of_ble_eq_true rfl, Nat.le_of_ble_eq_true rfl⟩, C.1.2.2.2.2 _ wd_X8_newGate_3, trivial⟩ (r_pre C P [.int (1 : Int32), .int a2, .int (10 : Int32)]) rfl rfl hl.1 rfl (lv_room (Nat.le_of_ble_eq_true rfl)) dX8_newGate_13 ⟨Nat.le_of_ble_eq_true rfl, Nat.le_of_ble_eq_true rfl⟩) P.2 (fun r5 u4 H locs h P => ?_)
    refine lv_if_eq (tgt := 40) hx hb dX8_newGate_16 (by decide) (fun c6 => ?_) (fun c6 => ?_)
    · have h := ite_t h c6
      refine lv_bipush (v := -2) hx hb dX8_newGate_40 (by decide) ?_
      exact r_ireti C P h dX8_newGate_42
    · have h := ite_f h c6
      refine lv_iconst (v := 1) hx hb dX8_newGate_19 (by decide) ?_
      refine lv_iload_n hx hb dX8_newGate_20 rfl (lv_at hl 3 rfl) ?_
      refine lv_bipush (v := 20) hx hb dX8_newGate_21 (by decide) ?_
      refine r_calli (F := EC cA o) (va_runSN (As := [.int (1 : Int32), .int a3, .int (20 : Int32)]) (rest := []) C.1 (c_X9_isBetween l D cA o _ _ _ u4 _ h) ⟨va_cnB 3 C.1.2.2.2.2 gX8_newGate_X9_isBetween_n81 rfl rfl rfl (C.2.2.2.2 0 _ rfl) (C.1.2.2.2.2 _ wd_X8_newGate_4) (by decide +kernel) ⟨Nat.le_of_ble_eq_true rfl, Nat.le_of_ble_eq_true rfl⟩, C.1.2.2.2.2 _ wd_X8_newGate_3, trivial⟩ (r_pre C P [.int (1 : Int32), .int a3, .int (20 : Int32)]) rfl rfl hl.1 rfl (lv_room (Nat.le_of_ble_eq_true rfl)) dX8_newGate_23 ⟨Nat.le_of_ble_eq_true rfl, Nat.le_of_ble_eq_true rfl⟩) P.2 (fun r8 u7 H locs h P => ?_)
      refine lv_if_eq (tgt := 40) hx hb dX8_newGate_26 (by decide) (fun c9 => ?_) (fun c9 => ?_)
      · have h := ite_t h c9
        refine lv_bipush (v := -2) hx hb dX8_newGate_40 (by decide) ?_
        exact r_ireti C P h dX8_newGate_42
      · have h := ite_f h c9
        refine lv_iconst (v := 1) hx hb dX8_newGate_29 (by decide) ?_
        refine lv_iload hx hb dX8_newGate_30 (lv_at hl 4 rfl) ?_
        refine lv_bipush (v := 10) hx hb dX8_newGate_32 (by decide) ?_
        refine r_calli (F := EC cA o) (va_runSN (As := [.int (1 : Int32), .int a4, .int (10 : Int32)]) (rest := []) C.1 (c_X9_isBetween l D cA o _ _ _ u7 _ h) ⟨va_cnB 3 C.1.2.2.2.2 gX8_newGate_X9_isBetween_n81 rfl rfl rfl (C.2.2.2.2 0 _ rfl) (C.1.2.2.2.2 _ wd_X8_newGate_4) (by decide +kernel) ⟨Nat.le_of_ble_eq_true rfl, Nat.le_of_ble_eq_true rfl⟩, C.1.2.2.2.2 _ wd_X8_newGate_3, trivial⟩ (r_pre C P [.int (1 : Int32), .int a4, .int (10 : Int32)]) rfl rfl hl.1 rfl (lv_room (Nat.le_of_ble_eq_true rfl)) dX8_newGate_34 ⟨Nat.le_of_ble_eq_true rfl, Nat.le_of_ble_eq_true rfl⟩) P.2 (fun r11 u10 H locs h P => ?_)
        refine lv_if_ne (tgt := 43) hx hb dX8_newGate_37 (by decide) (fun c12 => ?_) (fun c12 => ?_)
        · have h := ite_f h c12
          refine lv_aload_n hx hb dX8_newGate_43 rfl (lv_at hl 0 rfl) ?_
          refine g_8_5 C P in_X8_newGate_8 wd_X8_newGate_1 hk0 dX8_newGate_44 ?_
          refine lv_aload_n hx hb dX8_newGate_47 rfl (lv_at hl 0 rfl) ?_
          refine g_8_0 C P in_X8_newGate_8 wd_X8_newGate_2 hk0 dX8_newGate_48 ?_
          refine l_gate C P hk0 dX8_newGate_51 ?_
          refine lv_icmp_lt (tgt := 58) hx hb dX8_newGate_52 (by decide) (fun c13 => ?_) (fun c13 => ?_)
          · have h := ite_t h c13
            refine lv_aload_n hx hb dX8_newGate_58 rfl (lv_at hl 0 rfl) ?_
            refine g_8_0 C P in_X8_newGate_8 wd_X8_newGate_2 hk0 dX8_newGate_59 ?_
            refine lv_aload_n hx hb dX8_newGate_62 rfl (lv_at hl 0 rfl) ?_
            refine g_8_5 C P in_X8_newGate_8 wd_X8_newGate_1 hk0 dX8_newGate_63 ?_
            obtain ⟨hi, h⟩ := h
            have hk14 := kd_gate hk0 hi
            refine a_gate C P hk0 hi dX8_newGate_66 ?_
            refine lv_iload_n hx hb dX8_newGate_67 rfl (lv_at hl 1 rfl) ?_
            refine lv_iload_n hx hb dX8_newGate_68 rfl (lv_at hl 2 rfl) ?_
            refine lv_iload_n hx hb dX8_newGate_69 rfl (lv_at hl 3 rfl) ?_
            refine lv_iload hx hb dX8_newGate_70 (lv_at hl 4 rfl) ?_
            refine r_callv (F := EC cA o) (va_runV (As := [.int a1, .int a2, .int a3, .int a4]) (rest := []) C.1 (c_X1_setUp l D cA o _ _ _ _ _ hk14 u10 _ h) (cwV 4 C.1.2.2.2.2 gX8_newGate_X1_setUp rfl rfl rfl (by decide +kernel) ⟨Nat.le_of_ble_eq_true rfl, Nat.le_of_ble_eq_true rfl⟩) (r_preV C P [.int a1, .int a2, .int a3, .int a4] (ci := 1) rfl (kd_lt hk14 (by decide)) (EK_1 hk14)) rfl rfl hl.1 rfl (lv_room (Nat.le_of_ble_eq_true rfl)) dX8_newGate_72 ⟨Nat.le_of_ble_eq_true rfl, Nat.le_of_ble_eq_true rfl⟩) P.2 (fun u15 H locs h P => ?_)
            refine lv_aload_n hx hb dX8_newGate_75 rfl (lv_at hl 0 rfl) ?_
            refine lv_dup hx hb dX8_newGate_76 rfl ?_
            refine g_8_5 C P in_X8_newGate_8 wd_X8_newGate_1 hk0 dX8_newGate_77 ?_
            refine lv_iconst (v := 1) hx hb dX8_newGate_80 (by decide) ?_
            refine lv_iadd hx hb dX8_newGate_81 ?_
            refine p_8_5 C P in_X8_newGate_8 wd_X8_newGate_1 hk0 dX8_newGate_82 (fun u17 eu17 H locs P => ?_)
            have h := h u17 eu17
            refine lv_aload_n hx hb dX8_newGate_85 rfl (lv_at hl 0 rfl) ?_
            refine g_8_5 C P in_X8_newGate_8 wd_X8_newGate_1 hk0 dX8_newGate_86 ?_
            refine lv_iconst (v := 1) hx hb dX8_newGate_89 (by decide) ?_
            refine lv_isub hx hb dX8_newGate_90 ?_
            exact r_ireti C P h dX8_newGate_91
          · have h := ite_f h c13
            refine lv_bipush (v := -3) hx hb dX8_newGate_55 (by decide) ?_
            exact r_ireti C P h dX8_newGate_57
        · have h := ite_t h c12
          refine lv_bipush (v := -2) hx hb dX8_newGate_40 (by decide) ?_
          exact r_ireti C P h dX8_newGate_42
set_option maxHeartbeats 4000000 in
set_option maxRecDepth 100000 in
theorem c_X8_newGate (l : Launch) (D : va_G) (cA : Nat → ClassId) (o : Nat) (k0 : Nat) (a1 : Int32) (a2 : Int32) (a3 : Int32) (a4 : Int32) (hk0 : kd k0 = 8) (u0 : Mm) (Φ : Int32 → Mm → Prop) (h : w_X8_newGate k0 a1 a2 a3 a4 u0 Φ) : Met l yX8_newGate wsX8_newGate rm_X8_newGate (va_Pc [.ref (o + k0), .int a1, .int a2, .int a3, .int a4] (Wd 747 o D (tysL cA) (EC cA o u0))) (Qg vI Φ (fun μ => Wd 747 o D (tysL cA) (EC cA o μ)) (aA o 747)) 0 0 (aA o 747) := by
  refine Met.ofW (cc := cX8_newGate) (maxL := 5) (ret := (some .int)) (by decide) rfl ?_
  intro p e s m args below meth c s₁ B hml hv
  obtain ⟨rfl, hv⟩ := hv
  have hl := lv_entry ([.ref (o + k0), .int a1, .int a2, .int a3, .int a4]) (n := 5) (Nat.le_of_ble_eq_true rfl)
  rw [lg_entry_eq]
  exact t_X8_newGate_0 ⟨⟨B.exec, B.bytes, hml, findClass_of_methodNamed B.named, atoms_spec (ws := wsX8_newGate) B.pre⟩, B.returns, B.notSynchronized, hv.2⟩ k0 a1 a2 a3 a4 u0 hk0 _ _ _ ⟨hv.1, va_S.rf⟩ hl h
abbrev rm_X8_turnGate : Room := { frames := 1, cells := 0, slots := 0, locals := 22 }
theorem wd_X8_turnGate_1 : Cond.fieldLink RX8 93 "TurnstileBank$Gate" "direction" "I" ∈ wsX8_turnGate := List.mem_of_getElem? (i := 1) (by decide +kernel)
theorem wd_X8_turnGate_9 : Cond.static yX9_isBetween ∈ wsX8_turnGate := List.mem_of_getElem? (i := 9) (by decide +kernel)
theorem wd_X8_turnGate_10 : Cond.initialized RX9 ∈ wsX8_turnGate := List.mem_of_getElem? (i := 10) (by decide +kernel)
theorem in_X8_turnGate_1 : ∀ w ∈ wsX10, w ∈ wsX8_turnGate := fun w h => List.mem_cons_of_mem _ (List.mem_append_left _ (List.mem_append_right _ h))
def w_X8_turnGate (k0 : Nat) (a1 : Int32) (a2 : Int32) (u0 : Mm) (Φ : Int32 → Mm → Prop) : Prop := (w_X8_gateAt k0 a1 u0 (fun r2 u1 => opt r2 (Φ ((-1 : Int32)) u1) (fun r2 => (w_X9_isBetween ((0 : Int32)) a2 ((2 : Int32)) u1 (fun r5 u4 => (if r5 = 0 then (Φ ((-2 : Int32)) u4) else (∀ u7 : Mm, u7 = up2 u4 r2 2 a2 → (Φ ((u4 r2 2)) u7))))))))
set_option maxHeartbeats 4000000 in
set_option maxRecDepth 100000 in
theorem t_X8_turnGate_0 {p : Program} {l : Launch} {e : Env} {s : State} {m : MethodId} {args : Array Value} {below : List Frame} {meth : Method} {c : Code} {D : va_G} {cA : Nat → ClassId} {o : Nat}  {Φ : Int32 → Mm → Prop} (C : Cx p m meth c s args cX8_turnGate 5 wsX8_turnGate RX8 (some .int) D (tysL cA)) : ∀ (k0 : Nat) (a1 : Int32) (a2 : Int32) (u0 : Mm), kd k0 = 8 → ∀ (H : Heap) (locs : List Loc) (ls : Array Slot), Hp 747 o D (EC cA o u0) s H locs → lv_has ls 5 [(0, .ref (o + k0)), (1, .int a1), (2, .int a2)] → w_X8_turnGate k0 a1 a2 u0 Φ → W p l e rm_X8_turnGate s m args below meth c H locs 0 0 (MQ below (Qg vI Φ (fun μ => Wd 747 o D (tysL cA) (EC cA o μ)) (aA o 747)) args s 0 0 (aA o 747)) (F0 m 0 ls []) := by
  intro k0 a1 a2 u0 hk0 H locs ls P hl h
  have hx := C.1.1
  have hb := C.1.2.1
  unfold w_X8_turnGate at h
  refine lv_aload_n hx hb dX8_turnGate_0 rfl (lv_at hl 0 rfl) ?_
  refine lv_iload_n hx hb dX8_turnGate_1 rfl (lv_at hl 1 rfl) ?_
  refine r_calln (F := EC cA o) (va_runV (As := [.int a1]) (rest := []) C.1 (c_X8_gateAt l D cA o _ _ hk0 u0 _ h) (cwV 1 C.1.2.2.2.2 gX8_turnGate_X8_gateAt rfl rfl rfl (by decide +kernel) ⟨Nat.le_of_ble_eq_true rfl, Nat.le_of_ble_eq_true rfl⟩) (r_preV C P [.int a1] (ci := 8) rfl (kd_lt hk0 (by decide)) (EK_8 hk0)) rfl rfl hl.1 rfl (lv_room (Nat.le_of_ble_eq_true rfl)) dX8_turnGate_2 ⟨Nat.le_of_ble_eq_true rfl, Nat.le_of_ble_eq_true rfl⟩) P.2 (fun r2 u1 H locs h P => ?_)
  obtain ⟨h, hk3⟩ := h
  rcases r2 with _ | r2
  · have h := opt_n h
    refine lv_astore_nN (lv' := [(3, .null), (0, .ref (o + k0)), (1, .int a1), (2, .int a2)]) hx hb dX8_turnGate_5 rfl hl (by decide) rfl (fun ls hl => ?_)
    refine lv_aload_nN hx hb dX8_turnGate_6 rfl (lv_at hl 0 rfl) ?_
    refine lv_ifnonnullN hx hb dX8_turnGate_7 ?_
    refine lv_iconst (v := -1) hx hb dX8_turnGate_10 (by decide) ?_
    exact r_ireti C P h dX8_turnGate_11
  · have h := opt_s h
    have hk3 := hk3 r2 rfl
    refine lv_astore_n (lv' := [(3, .ref (o + r2)), (0, .ref (o + k0)), (1, .int a1), (2, .int a2)]) hx hb dX8_turnGate_5 rfl hl (by decide) rfl (fun ls hl => ?_)
    refine lv_aload_n hx hb dX8_turnGate_6 rfl (lv_at hl 0 rfl) ?_
    refine lv_ifnonnull (tgt := 12) hx hb dX8_turnGate_7 (by decide) ?_
    refine lv_iconst (v := 0) hx hb dX8_turnGate_12 (by decide) ?_
    refine lv_iload_n hx hb dX8_turnGate_13 rfl (lv_at hl 3 rfl) ?_
    refine lv_iconst (v := 2) hx hb dX8_turnGate_14 (by decide) ?_
    refine r_calli (F := EC cA o) (va_runSN (As := [.int (0 : Int32), .int a2, .int (2 : Int32)]) (rest := []) C.1 (c_X9_isBetween l D cA o _ _ _ u1 _ h) ⟨va_cnB 3 C.1.2.2.2.2 gX8_turnGate_X9_isBetween_n81 rfl rfl rfl (C.2.2.2.2 0 _ rfl) (C.1.2.2.2.2 _ wd_X8_turnGate_10) (by decide +kernel) ⟨Nat.le_of_ble_eq_true rfl, Nat.le_of_ble_eq_true rfl⟩, C.1.2.2.2.2 _ wd_X8_turnGate_9, trivial⟩ (r_pre C P [.int (0 : Int32), .int a2, .int (2 : Int32)]) rfl rfl hl.1 rfl (lv_room (Nat.le_of_ble_eq_true rfl)) dX8_turnGate_15 ⟨Nat.le_of_ble_eq_true rfl, Nat.le_of_ble_eq_true rfl⟩) P.2 (fun r5 u4 H locs h P => ?_)
    refine lv_if_ne (tgt := 24) hx hb dX8_turnGate_18 (by decide) (fun c6 => ?_) (fun c6 => ?_)
    · have h := ite_f h c6
      refine lv_aload_n hx hb dX8_turnGate_24 rfl (lv_at hl 0 rfl) ?_
      refine g_1_2 C P in_X8_turnGate_1 wd_X8_turnGate_1 hk3 dX8_turnGate_25 ?_
      refine lv_istore (lv' := [(4, .int (u4 r2 2)), (3, .ref (o + r2)), (0, .ref (o + k0)), (1, .int a1), (2, .int a2)]) hx hb dX8_turnGate_28 hl (by decide) rfl (fun ls hl => ?_)
      refine lv_aload_n hx hb dX8_turnGate_30 rfl (lv_at hl 1 rfl) ?_
      refine lv_iload_n hx hb dX8_turnGate_31 rfl (lv_at hl 4 rfl) ?_
      refine p_1_2 C P in_X8_turnGate_1 wd_X8_turnGate_1 hk3 dX8_turnGate_32 (fun u7 eu7 H locs P => ?_)
      have h := h u7 eu7
      refine lv_iload hx hb dX8_turnGate_35 (lv_at hl 0 rfl) ?_
      exact r_ireti C P h dX8_turnGate_37
    · have h := ite_t h c6
      refine lv_bipush (v := -2) hx hb dX8_turnGate_21 (by decide) ?_
      exact r_ireti C P h dX8_turnGate_23
set_option maxHeartbeats 4000000 in
set_option maxRecDepth 100000 in
theorem c_X8_turnGate (l : Launch) (D : va_G) (cA : Nat → ClassId) (o : Nat) (k0 : Nat) (a1 : Int32) (a2 : Int32) (hk0 : kd k0 = 8) (u0 : Mm) (Φ : Int32 → Mm → Prop) (h : w_X8_turnGate k0 a1 a2 u0 Φ) : Met l yX8_turnGate wsX8_turnGate rm_X8_turnGate (va_Pc [.ref (o + k0), .int a1, .int a2] (Wd 747 o D (tysL cA) (EC cA o u0))) (Qg vI Φ (fun μ => Wd 747 o D (tysL cA) (EC cA o μ)) (aA o 747)) 0 0 (aA o 747) := by
  refine Met.ofW (cc := cX8_turnGate) (maxL := 5) (ret := (some .int)) (by decide) rfl ?_
  intro p e s m args below meth c s₁ B hml hv
  obtain ⟨rfl, hv⟩ := hv
  have hl := lv_entry ([.ref (o + k0), .int a1, .int a2]) (n := 5) (Nat.le_of_ble_eq_true rfl)
  rw [lg_entry_eq]
  exact t_X8_turnGate_0 ⟨⟨B.exec, B.bytes, hml, findClass_of_methodNamed B.named, atoms_spec (ws := wsX8_turnGate) B.pre⟩, B.returns, B.notSynchronized, hv.2⟩ k0 a1 a2 u0 hk0 _ _ _ ⟨hv.1, va_S.rf⟩ hl h
abbrev rm_X8_newPool : Room := { frames := 1, cells := 0, slots := 0, locals := 22 }
theorem wd_X8_newPool_1 : Cond.fieldLink RX8 63 "TurnstileBank$State" "poolCount" "I" ∈ wsX8_newPool := List.mem_of_getElem? (i := 1) (by decide +kernel)
theorem wd_X8_newPool_2 : Cond.fieldLink RX8 25 "TurnstileBank$State" "pools" "[LTurnstileBank$Pool;" ∈ wsX8_newPool := List.mem_of_getElem? (i := 2) (by decide +kernel)
theorem wd_X8_newPool_3 : Cond.static yX9_isBetween ∈ wsX8_newPool := List.mem_of_getElem? (i := 3) (by decide +kernel)
theorem wd_X8_newPool_4 : Cond.initialized RX9 ∈ wsX8_newPool := List.mem_of_getElem? (i := 4) (by decide +kernel)
theorem in_X8_newPool_8 : ∀ w ∈ wsX80, w ∈ wsX8_newPool := fun w h => List.mem_cons_of_mem _ (List.mem_append_left _ (List.mem_append_right _ h))
def w_X8_newPool (k0 : Nat) (a1 : Int32) (u0 : Mm) (Φ : Int32 → Mm → Prop) : Prop := (w_X9_isBetween ((1 : Int32)) a1 ((40 : Int32)) u0 (fun r2 u1 => (if r2 = 0 then (Φ ((-2 : Int32)) u1) else (if (u1 k0 7) < (4 : Int32) then (vp_in (u1 k0 7) 4 ∧ (w_X6_setUp ((k0 + 90 + (u1 k0 7).toNatClampNeg)) a1 u1 (fun _ u6 => (∀ u8 : Mm, u8 = up2 u6 k0 7 ((u6 k0 7) + (1 : Int32)) → (Φ (((u8 k0 7) - (1 : Int32))) u8))))) else (Φ ((-3 : Int32)) u1)))))
set_option maxHeartbeats 4000000 in
set_option maxRecDepth 100000 in
theorem t_X8_newPool_0 {p : Program} {l : Launch} {e : Env} {s : State} {m : MethodId} {args : Array Value} {below : List Frame} {meth : Method} {c : Code} {D : va_G} {cA : Nat → ClassId} {o : Nat}  {Φ : Int32 → Mm → Prop} (C : Cx p m meth c s args cX8_newPool 2 wsX8_newPool RX8 (some .int) D (tysL cA)) : ∀ (k0 : Nat) (a1 : Int32) (u0 : Mm), kd k0 = 8 → ∀ (H : Heap) (locs : List Loc) (ls : Array Slot), Hp 747 o D (EC cA o u0) s H locs → lv_has ls 2 [(0, .ref (o + k0)), (1, .int a1)] → w_X8_newPool k0 a1 u0 Φ → W p l e rm_X8_newPool s m args below meth c H locs 0 0 (MQ below (Qg vI Φ (fun μ => Wd 747 o D (tysL cA) (EC cA o μ)) (aA o 747)) args s 0 0 (aA o 747)) (F0 m 0 ls []) := by
  intro k0 a1 u0 hk0 H locs ls P hl h
  have hx := C.1.1
  have hb := C.1.2.1
  unfold w_X8_newPool at h
  refine lv_iconst (v := 1) hx hb dX8_newPool_0 (by decide) ?_
  refine lv_iload_n hx hb dX8_newPool_1 rfl (lv_at hl 1 rfl) ?_
  refine lv_bipush (v := 40) hx hb dX8_newPool_2 (by decide) ?_
  refine r_calli (F := EC cA o) (va_runSN (As := [.int (1 : Int32), .int a1, .int (40 : Int32)]) (rest := []) C.1 (c_X9_isBetween l D cA o _ _ _ u0 _ h) ⟨va_cnB 3 C.1.2.2.2.2 gX8_newPool_X9_isBetween_n81 rfl rfl rfl (C.2.2.2.2 0 _ rfl) (C.1.2.2.2.2 _ wd_X8_newPool_4) (by decide +kernel) ⟨Nat.le_of_ble_eq_true rfl, Nat.le_of_ble_eq_true rfl⟩, C.1.2.2.2.2 _ wd_X8_newPool_3, trivial⟩ (r_pre C P [.int (1 : Int32), .int a1, .int (40 : Int32)]) rfl rfl hl.1 rfl (lv_room (Nat.le_of_ble_eq_true rfl)) dX8_newPool_4 ⟨Nat.le_of_ble_eq_true rfl, Nat.le_of_ble_eq_true rfl⟩) P.2 (fun r2 u1 H locs h P => ?_)
  refine lv_if_ne (tgt := 13) hx hb dX8_newPool_7 (by decide) (fun c3 => ?_) (fun c3 => ?_)
  · have h := ite_f h c3
    refine lv_aload_n hx hb dX8_newPool_13 rfl (lv_at hl 0 rfl) ?_
    refine g_8_7 C P in_X8_newPool_8 wd_X8_newPool_1 hk0 dX8_newPool_14 ?_
    refine lv_aload_n hx hb dX8_newPool_17 rfl (lv_at hl 0 rfl) ?_
    refine g_8_2 C P in_X8_newPool_8 wd_X8_newPool_2 hk0 dX8_newPool_18 ?_
    refine l_pool C P hk0 dX8_newPool_21 ?_
    refine lv_icmp_lt (tgt := 28) hx hb dX8_newPool_22 (by decide) (fun c4 => ?_) (fun c4 => ?_)
    · have h := ite_t h c4
      refine lv_aload_n hx hb dX8_newPool_28 rfl (lv_at hl 0 rfl) ?_
      refine g_8_2 C P in_X8_newPool_8 wd_X8_newPool_2 hk0 dX8_newPool_29 ?_
      refine lv_aload_n hx hb dX8_newPool_32 rfl (lv_at hl 0 rfl) ?_
      refine g_8_7 C P in_X8_newPool_8 wd_X8_newPool_1 hk0 dX8_newPool_33 ?_
      obtain ⟨hi, h⟩ := h
      have hk5 := kd_pool hk0 hi
      refine a_pool C P hk0 hi dX8_newPool_36 ?_
      refine lv_iload_n hx hb dX8_newPool_37 rfl (lv_at hl 1 rfl) ?_
      refine r_callv (F := EC cA o) (va_runV (As := [.int a1]) (rest := []) C.1 (c_X6_setUp l D cA o _ _ hk5 u1 _ h) (cwV 1 C.1.2.2.2.2 gX8_newPool_X6_setUp rfl rfl rfl (by decide +kernel) ⟨Nat.le_of_ble_eq_true rfl, Nat.le_of_ble_eq_true rfl⟩) (r_preV C P [.int a1] (ci := 6) rfl (kd_lt hk5 (by decide)) (EK_6 hk5)) rfl rfl hl.1 rfl (lv_room (Nat.le_of_ble_eq_true rfl)) dX8_newPool_38 ⟨Nat.le_of_ble_eq_true rfl, Nat.le_of_ble_eq_true rfl⟩) P.2 (fun u6 H locs h P => ?_)
      refine lv_aload_n hx hb dX8_newPool_41 rfl (lv_at hl 0 rfl) ?_
      refine lv_dup hx hb dX8_newPool_42 rfl ?_
      refine g_8_7 C P in_X8_newPool_8 wd_X8_newPool_1 hk0 dX8_newPool_43 ?_
      refine lv_iconst (v := 1) hx hb dX8_newPool_46 (by decide) ?_
      refine lv_iadd hx hb dX8_newPool_47 ?_
      refine p_8_7 C P in_X8_newPool_8 wd_X8_newPool_1 hk0 dX8_newPool_48 (fun u8 eu8 H locs P => ?_)
      have h := h u8 eu8
      refine lv_aload_n hx hb dX8_newPool_51 rfl (lv_at hl 0 rfl) ?_
      refine g_8_7 C P in_X8_newPool_8 wd_X8_newPool_1 hk0 dX8_newPool_52 ?_
      refine lv_iconst (v := 1) hx hb dX8_newPool_55 (by decide) ?_
      refine lv_isub hx hb dX8_newPool_56 ?_
      exact r_ireti C P h dX8_newPool_57
    · have h := ite_f h c4
      refine lv_bipush (v := -3) hx hb dX8_newPool_25 (by decide) ?_
      exact r_ireti C P h dX8_newPool_27
  · have h := ite_t h c3
    refine lv_bipush (v := -2) hx hb dX8_newPool_10 (by decide) ?_
    exact r_ireti C P h dX8_newPool_12
set_option maxHeartbeats 4000000 in
set_option maxRecDepth 100000 in
theorem c_X8_newPool (l : Launch) (D : va_G) (cA : Nat → ClassId) (o : Nat) (k0 : Nat) (a1 : Int32) (hk0 : kd k0 = 8) (u0 : Mm) (Φ : Int32 → Mm → Prop) (h : w_X8_newPool k0 a1 u0 Φ) : Met l yX8_newPool wsX8_newPool rm_X8_newPool (va_Pc [.ref (o + k0), .int a1] (Wd 747 o D (tysL cA) (EC cA o u0))) (Qg vI Φ (fun μ => Wd 747 o D (tysL cA) (EC cA o μ)) (aA o 747)) 0 0 (aA o 747) := by
  refine Met.ofW (cc := cX8_newPool) (maxL := 2) (ret := (some .int)) (by decide) rfl ?_
  intro p e s m args below meth c s₁ B hml hv
  obtain ⟨rfl, hv⟩ := hv
  have hl := lv_entry ([.ref (o + k0), .int a1]) (n := 2) (Nat.le_of_ble_eq_true rfl)
  rw [lg_entry_eq]
  exact t_X8_newPool_0 ⟨⟨B.exec, B.bytes, hml, findClass_of_methodNamed B.named, atoms_spec (ws := wsX8_newPool) B.pre⟩, B.returns, B.notSynchronized, hv.2⟩ k0 a1 u0 hk0 _ _ _ ⟨hv.1, va_S.rf⟩ hl h
