abbrev rm_X10_in : Room := { frames := 0, cells := 0, slots := 0, locals := 0 }
def w_X10_in (a0 : Int32) (a1 : Int32) (a2 : Int32) (u0 : Mm) (Φ : Int32 → Mm → Prop) : Prop := (if a0 < a1 then (Φ (0 : Int32) u0) else (if a2 < a0 then (Φ (0 : Int32) u0) else (Φ (1 : Int32) u0)))
set_option maxHeartbeats 4000000 in
set_option maxRecDepth 100000 in
theorem t_X10_in_0 {p : Program} {l : Launch} {e : Env} {s : State} {m : MethodId} {args : Array Value} {below : List Frame} {meth : Method} {c : Code} {D : va_G} {cA : Nat → ClassId} {o : Nat}  {Φ : Int32 → Mm → Prop} (C : Cx p m meth c s args cX10_in 3 wsX10_in RX10 (some .boolean) D (tysL cA)) : ∀ (a0 : Int32) (a1 : Int32) (a2 : Int32) (u0 : Mm), ∀ (H : Heap) (locs : List Loc) (ls : Array Slot), Hp 6 o D (EM cA o u0) s H locs → lv_has ls 3 [(0, .int a0), (1, .int a1), (2, .int a2)] → w_X10_in a0 a1 a2 u0 Φ → W p l e rm_X10_in s m args below meth c H locs 0 0 (MQ below (Qg vI Φ (fun μ => Wd 6 o D (tysL cA) (EM cA o μ)) (aA o 6)) args s 0 0 (aA o 6)) (F0 m 0 ls []) := by
  intro a0 a1 a2 u0 H locs ls P hl h
  have hx := C.1.1
  have hb := C.1.2.1
  unfold w_X10_in at h
  refine lv_iload_n hx hb dX10_in_0 rfl (lv_at hl 0 rfl) ?_
  refine lv_iload_n hx hb dX10_in_1 rfl (lv_at hl 1 rfl) ?_
  refine lv_icmp_lt (tgt := 14) hx hb dX10_in_2 (by decide) (fun c1 => ?_) (fun c1 => ?_)
  · have h := ite_t h c1
    refine lv_iconst (v := 0) hx hb dX10_in_14 (by decide) ?_
    exact r_iretb C P (Or.inl rfl) h dX10_in_15
  · have h := ite_f h c1
    refine lv_iload_n hx hb dX10_in_5 rfl (lv_at hl 0 rfl) ?_
    refine lv_iload_n hx hb dX10_in_6 rfl (lv_at hl 2 rfl) ?_
    refine lv_icmp_gt (tgt := 14) hx hb dX10_in_7 (by decide) (fun c2 => ?_) (fun c2 => ?_)
    · have h := ite_t h c2
      refine lv_iconst (v := 0) hx hb dX10_in_14 (by decide) ?_
      exact r_iretb C P (Or.inl rfl) h dX10_in_15
    · have h := ite_f h c2
      refine lv_iconst (v := 1) hx hb dX10_in_10 (by decide) ?_
      refine lv_goto (tgt := 15) hx hb dX10_in_11 (by decide) ?_
      exact r_iretb C P (Or.inr rfl) h dX10_in_15
set_option maxHeartbeats 4000000 in
set_option maxRecDepth 100000 in
theorem c_X10_in (l : Launch) (D : va_G) (cA : Nat → ClassId) (o : Nat) (a0 : Int32) (a1 : Int32) (a2 : Int32)  (u0 : Mm) (Φ : Int32 → Mm → Prop) (h : w_X10_in a0 a1 a2 u0 Φ) : Met l yX10_in wsX10_in rm_X10_in (va_Pc [.int a0, .int a1, .int a2] (Wd 6 o D (tysL cA) (EM cA o u0))) (Qg vI Φ (fun μ => Wd 6 o D (tysL cA) (EM cA o μ)) (aA o 6)) 0 0 (aA o 6) := by
  refine Met.ofW (cc := cX10_in) (maxL := 3) (ret := (some .boolean)) (by decide) rfl ?_
  intro p e s m args below meth c s₁ B hml hv
  obtain ⟨rfl, hv⟩ := hv
  have hl := lv_entry ([.int a0, .int a1, .int a2]) (n := 3) (Nat.le_of_ble_eq_true rfl)
  rw [lg_entry_eq]
  exact t_X10_in_0 ⟨⟨B.exec, B.bytes, hml, findClass_of_methodNamed B.named, atoms_spec (ws := wsX10_in) B.pre⟩, B.returns, B.notSynchronized, hv.2⟩ a0 a1 a2 u0 _ _ _ ⟨hv.1, va_S.rf⟩ hl h
abbrev rm_X10_begin : Room := { frames := 0, cells := 0, slots := 0, locals := 0 }
theorem wd_X10_begin_1 : Cond.fieldLink RX10 13 "TurnstileBankModel" "scratch" "[I" ∈ wsX10_begin := List.mem_of_getElem? (i := 1) (by decide +kernel)
theorem wd_X10_begin_2 : Cond.fieldLink RX10 7 "TurnstileBankModel" "row" "[I" ∈ wsX10_begin := List.mem_of_getElem? (i := 2) (by decide +kernel)
theorem in_X10_begin_10 : ∀ w ∈ wsX100, w ∈ wsX10_begin := fun w h => List.mem_cons_of_mem _ (List.mem_append_right _ h)
def w_X10_begin_2  (Φ : Unit → Mm → Prop) : Nat → Int32 → Mm → Prop
  | 0, _, _ => False
  | n + 1, x1, u0 => (if (516 : Int32) ≤ x1 then (Φ () u0) else (vp_in x1 516 ∧ (vp_in x1 516 ∧ ∀ u2 : Mm, u2 = up2 u0 2 x1.toNatClampNeg (u0 1 x1.toNatClampNeg) → (w_X10_begin_2 Φ n ((x1 + 1)) u2))))
set_option maxHeartbeats 4000000 in
set_option maxRecDepth 100000 in
theorem t_X10_begin_2 {p : Program} {l : Launch} {e : Env} {s : State} {m : MethodId} {args : Array Value} {below : List Frame} {meth : Method} {c : Code} {D : va_G} {cA : Nat → ClassId} {o : Nat}  {Φ : Unit → Mm → Prop} (C : Cx p m meth c s args cX10_begin 2 wsX10_begin RX10 none D (tysL cA)) : ∀ n : Nat, ∀ (x1 : Int32) (u0 : Mm), ∀ (H : Heap) (locs : List Loc) (ls : Array Slot), Hp 6 o D (EM cA o u0) s H locs → lv_has ls 2 [(0, .ref (o + 0)), (1, .int x1)] → w_X10_begin_2 Φ n x1 u0 → W p l e rm_X10_begin s m args below meth c H locs 0 0 (MQ below (Qg vV Φ (fun μ => Wd 6 o D (tysL cA) (EM cA o μ)) (aA o 6)) args s 0 0 (aA o 6)) (F0 m 2 ls []) := by
  intro n
  induction n with
  | zero => intro x1 u0 H locs ls P hl h; exact h.elim
  | succ n ih =>
    intro x1 u0 H locs ls P hl h
    have hx := C.1.1
    have hb := C.1.2.1
    rw [w_X10_begin_2] at h
    refine lv_iload_n hx hb dX10_begin_2 rfl (lv_at hl 1 rfl) ?_
    refine lv_sipush (v := 516) hx hb dX10_begin_3 (by decide) ?_
    refine lv_icmp_ge (tgt := 27) hx hb dX10_begin_6 (by decide) (fun c1 => ?_) (fun c1 => ?_)
    · have h := ite_t h c1
      exact r_ret C P h dX10_begin_27
    · have h := ite_f h c1
      refine lv_aload_n hx hb dX10_begin_9 rfl (lv_at hl 0 rfl) ?_
      refine g_10_1 C P in_X10_begin_10 wd_X10_begin_1 dX10_begin_10 ?_
      refine lv_iload_n hx hb dX10_begin_13 rfl (lv_at hl 1 rfl) ?_
      refine lv_aload_n hx hb dX10_begin_14 rfl (lv_at hl 0 rfl) ?_
      refine g_10_0 C P in_X10_begin_10 wd_X10_begin_2 dX10_begin_15 ?_
      refine lv_iload_n hx hb dX10_begin_18 rfl (lv_at hl 1 rfl) ?_
      obtain ⟨hi, h⟩ := h
      refine mld_1 C P hi dX10_begin_19 ?_
      obtain ⟨hi, h⟩ := h
      refine mst_2 C P hi dX10_begin_20 (fun u2 eu2 H locs P => ?_)
      have h := h u2 eu2
      refine lv_iinc (v := (x1 + 1)) (lv' := [(1, .int (x1 + 1)), (0, .ref (o + 0))]) hx hb dX10_begin_21 hl (k := 1) rfl rfl (by decide) rfl (fun ls hl => ?_)
      refine lv_goto (tgt := 2) hx hb dX10_begin_24 (by decide) ?_
      exact ih _ u2 _ _ _ P (lv_sub hl [1, 0] rfl) h
def w_X10_begin  (u0 : Mm) (Φ : Unit → Mm → Prop) : Prop := (∃ n2 : Nat, w_X10_begin_2 Φ n2 ((0 : Int32)) u0)
set_option maxHeartbeats 4000000 in
set_option maxRecDepth 100000 in
theorem t_X10_begin_0 {p : Program} {l : Launch} {e : Env} {s : State} {m : MethodId} {args : Array Value} {below : List Frame} {meth : Method} {c : Code} {D : va_G} {cA : Nat → ClassId} {o : Nat}  {Φ : Unit → Mm → Prop} (C : Cx p m meth c s args cX10_begin 2 wsX10_begin RX10 none D (tysL cA)) : ∀  (u0 : Mm), ∀ (H : Heap) (locs : List Loc) (ls : Array Slot), Hp 6 o D (EM cA o u0) s H locs → lv_has ls 2 [(0, .ref (o + 0))] → w_X10_begin u0 Φ → W p l e rm_X10_begin s m args below meth c H locs 0 0 (MQ below (Qg vV Φ (fun μ => Wd 6 o D (tysL cA) (EM cA o μ)) (aA o 6)) args s 0 0 (aA o 6)) (F0 m 0 ls []) := by
  intro u0 H locs ls P hl h
  have hx := C.1.1
  have hb := C.1.2.1
  unfold w_X10_begin at h
  refine lv_iconst (v := 0) hx hb dX10_begin_0 (by decide) ?_
  refine lv_istore_n (lv' := [(1, .int (0 : Int32)), (0, .ref (o + 0))]) hx hb dX10_begin_1 rfl hl (by decide) rfl (fun ls hl => ?_)
  obtain ⟨n2, h⟩ := h
  exact t_X10_begin_2 C n2 _ u0 _ _ _ P (lv_sub hl [1, 0] rfl) h
set_option maxHeartbeats 4000000 in
set_option maxRecDepth 100000 in
theorem c_X10_begin (l : Launch) (D : va_G) (cA : Nat → ClassId) (o : Nat)   (u0 : Mm) (Φ : Unit → Mm → Prop) (h : w_X10_begin u0 Φ) : Met l yX10_begin wsX10_begin rm_X10_begin (va_Pc [.ref (o + 0)] (Wd 6 o D (tysL cA) (EM cA o u0))) (Qg vV Φ (fun μ => Wd 6 o D (tysL cA) (EM cA o μ)) (aA o 6)) 0 0 (aA o 6) := by
  refine Met.ofW (cc := cX10_begin) (maxL := 2) (ret := none) (by decide) rfl ?_
  intro p e s m args below meth c s₁ B hml hv
  obtain ⟨rfl, hv⟩ := hv
  have hl := lv_entry ([.ref (o + 0)]) (n := 2) (Nat.le_of_ble_eq_true rfl)
  rw [lg_entry_eq]
  exact t_X10_begin_0 ⟨⟨B.exec, B.bytes, hml, findClass_of_methodNamed B.named, atoms_spec (ws := wsX10_begin) B.pre⟩, B.returns, B.notSynchronized, hv.2⟩ u0 _ _ _ ⟨hv.1, va_S.rf⟩ hl h
abbrev rm_X10_goBack : Room := { frames := 0, cells := 0, slots := 0, locals := 0 }
theorem wd_X10_goBack_1 : Cond.fieldLink RX10 7 "TurnstileBankModel" "row" "[I" ∈ wsX10_goBack := List.mem_of_getElem? (i := 1) (by decide +kernel)
theorem wd_X10_goBack_2 : Cond.fieldLink RX10 13 "TurnstileBankModel" "scratch" "[I" ∈ wsX10_goBack := List.mem_of_getElem? (i := 2) (by decide +kernel)
theorem in_X10_goBack_10 : ∀ w ∈ wsX100, w ∈ wsX10_goBack := fun w h => List.mem_cons_of_mem _ (List.mem_append_right _ h)
def w_X10_goBack_2  (Φ : Unit → Mm → Prop) : Nat → Int32 → Mm → Prop
  | 0, _, _ => False
  | n + 1, x1, u0 => (if (516 : Int32) ≤ x1 then (Φ () u0) else (vp_in x1 516 ∧ (vp_in x1 516 ∧ ∀ u2 : Mm, u2 = up2 u0 1 x1.toNatClampNeg (u0 2 x1.toNatClampNeg) → (w_X10_goBack_2 Φ n ((x1 + 1)) u2))))
set_option maxHeartbeats 4000000 in
set_option maxRecDepth 100000 in
theorem t_X10_goBack_2 {p : Program} {l : Launch} {e : Env} {s : State} {m : MethodId} {args : Array Value} {below : List Frame} {meth : Method} {c : Code} {D : va_G} {cA : Nat → ClassId} {o : Nat}  {Φ : Unit → Mm → Prop} (C : Cx p m meth c s args cX10_goBack 2 wsX10_goBack RX10 none D (tysL cA)) : ∀ n : Nat, ∀ (x1 : Int32) (u0 : Mm), ∀ (H : Heap) (locs : List Loc) (ls : Array Slot), Hp 6 o D (EM cA o u0) s H locs → lv_has ls 2 [(0, .ref (o + 0)), (1, .int x1)] → w_X10_goBack_2 Φ n x1 u0 → W p l e rm_X10_goBack s m args below meth c H locs 0 0 (MQ below (Qg vV Φ (fun μ => Wd 6 o D (tysL cA) (EM cA o μ)) (aA o 6)) args s 0 0 (aA o 6)) (F0 m 2 ls []) := by
  intro n
  induction n with
  | zero => intro x1 u0 H locs ls P hl h; exact h.elim
  | succ n ih =>
    intro x1 u0 H locs ls P hl h
    have hx := C.1.1
    have hb := C.1.2.1
    rw [w_X10_goBack_2] at h
    refine lv_iload_n hx hb dX10_goBack_2 rfl (lv_at hl 1 rfl) ?_
    refine lv_sipush (v := 516) hx hb dX10_goBack_3 (by decide) ?_
    refine lv_icmp_ge (tgt := 27) hx hb dX10_goBack_6 (by decide) (fun c1 => ?_) (fun c1 => ?_)
    · have h := ite_t h c1
      exact r_ret C P h dX10_goBack_27
    · have h := ite_f h c1
      refine lv_aload_n hx hb dX10_goBack_9 rfl (lv_at hl 0 rfl) ?_
      refine g_10_0 C P in_X10_goBack_10 wd_X10_goBack_1 dX10_goBack_10 ?_
      refine lv_iload_n hx hb dX10_goBack_13 rfl (lv_at hl 1 rfl) ?_
      refine lv_aload_n hx hb dX10_goBack_14 rfl (lv_at hl 0 rfl) ?_
      refine g_10_1 C P in_X10_goBack_10 wd_X10_goBack_2 dX10_goBack_15 ?_
      refine lv_iload_n hx hb dX10_goBack_18 rfl (lv_at hl 1 rfl) ?_
      obtain ⟨hi, h⟩ := h
      refine mld_2 C P hi dX10_goBack_19 ?_
      obtain ⟨hi, h⟩ := h
      refine mst_1 C P hi dX10_goBack_20 (fun u2 eu2 H locs P => ?_)
      have h := h u2 eu2
      refine lv_iinc (v := (x1 + 1)) (lv' := [(1, .int (x1 + 1)), (0, .ref (o + 0))]) hx hb dX10_goBack_21 hl (k := 1) rfl rfl (by decide) rfl (fun ls hl => ?_)
      refine lv_goto (tgt := 2) hx hb dX10_goBack_24 (by decide) ?_
      exact ih _ u2 _ _ _ P (lv_sub hl [1, 0] rfl) h
def w_X10_goBack  (u0 : Mm) (Φ : Unit → Mm → Prop) : Prop := (∃ n2 : Nat, w_X10_goBack_2 Φ n2 ((0 : Int32)) u0)
set_option maxHeartbeats 4000000 in
set_option maxRecDepth 100000 in
theorem t_X10_goBack_0 {p : Program} {l : Launch} {e : Env} {s : State} {m : MethodId} {args : Array Value} {below : List Frame} {meth : Method} {c : Code} {D : va_G} {cA : Nat → ClassId} {o : Nat}  {Φ : Unit → Mm → Prop} (C : Cx p m meth c s args cX10_goBack 2 wsX10_goBack RX10 none D (tysL cA)) : ∀  (u0 : Mm), ∀ (H : Heap) (locs : List Loc) (ls : Array Slot), Hp 6 o D (EM cA o u0) s H locs → lv_has ls 2 [(0, .ref (o + 0))] → w_X10_goBack u0 Φ → W p l e rm_X10_goBack s m args below meth c H locs 0 0 (MQ below (Qg vV Φ (fun μ => Wd 6 o D (tysL cA) (EM cA o μ)) (aA o 6)) args s 0 0 (aA o 6)) (F0 m 0 ls []) := by
  intro u0 H locs ls P hl h
  have hx := C.1.1
  have hb := C.1.2.1
  unfold w_X10_goBack at h
  refine lv_iconst (v := 0) hx hb dX10_goBack_0 (by decide) ?_
  refine lv_istore_n (lv' := [(1, .int (0 : Int32)), (0, .ref (o + 0))]) hx hb dX10_goBack_1 rfl hl (by decide) rfl (fun ls hl => ?_)
  obtain ⟨n2, h⟩ := h
  exact t_X10_goBack_2 C n2 _ u0 _ _ _ P (lv_sub hl [1, 0] rfl) h
set_option maxHeartbeats 4000000 in
set_option maxRecDepth 100000 in
theorem c_X10_goBack (l : Launch) (D : va_G) (cA : Nat → ClassId) (o : Nat)   (u0 : Mm) (Φ : Unit → Mm → Prop) (h : w_X10_goBack u0 Φ) : Met l yX10_goBack wsX10_goBack rm_X10_goBack (va_Pc [.ref (o + 0)] (Wd 6 o D (tysL cA) (EM cA o u0))) (Qg vV Φ (fun μ => Wd 6 o D (tysL cA) (EM cA o μ)) (aA o 6)) 0 0 (aA o 6) := by
  refine Met.ofW (cc := cX10_goBack) (maxL := 2) (ret := none) (by decide) rfl ?_
  intro p e s m args below meth c s₁ B hml hv
  obtain ⟨rfl, hv⟩ := hv
  have hl := lv_entry ([.ref (o + 0)]) (n := 2) (Nat.le_of_ble_eq_true rfl)
  rw [lg_entry_eq]
  exact t_X10_goBack_0 ⟨⟨B.exec, B.bytes, hml, findClass_of_methodNamed B.named, atoms_spec (ws := wsX10_goBack) B.pre⟩, B.returns, B.notSynchronized, hv.2⟩ u0 _ _ _ ⟨hv.1, va_S.rf⟩ hl h
abbrev rm_X10_recorded : Room := { frames := 0, cells := 0, slots := 0, locals := 0 }
theorem wd_X10_recorded_1 : Cond.fieldLink RX10 26 "TurnstileBankModel" "kept" "I" ∈ wsX10_recorded := List.mem_of_getElem? (i := 1) (by decide +kernel)
theorem wd_X10_recorded_2 : Cond.fieldLink RX10 16 "TurnstileBankModel" "history" "[I" ∈ wsX10_recorded := List.mem_of_getElem? (i := 2) (by decide +kernel)
theorem wd_X10_recorded_3 : Cond.fieldLink RX10 13 "TurnstileBankModel" "scratch" "[I" ∈ wsX10_recorded := List.mem_of_getElem? (i := 3) (by decide +kernel)
theorem in_X10_recorded_10 : ∀ w ∈ wsX100, w ∈ wsX10_recorded := fun w h => List.mem_cons_of_mem _ (List.mem_append_right _ h)
def w_X10_recorded_56  (Φ : Int32 → Mm → Prop) : Nat → Int32 → Int32 → Mm → Prop
  | 0, _, _, _ => False
  | n + 1, x1, x2, u0 => (if (516 : Int32) ≤ x2 then (∀ u3 : Mm, u3 = up2 u0 0 3 ((u0 0 3) + (1 : Int32)) → (Φ x1 u3)) else (vp_in x2 516 ∧ (vp_in (((516 : Int32) * (u0 0 3)) + x2) 2064 ∧ ∀ u4 : Mm, u4 = up2 u0 3 (((516 : Int32) * (u0 0 3)) + x2).toNatClampNeg (u0 2 x2.toNatClampNeg) → (w_X10_recorded_56 Φ n x1 ((x2 + 1)) u4))))
set_option maxHeartbeats 4000000 in
set_option maxRecDepth 100000 in
theorem t_X10_recorded_56 {p : Program} {l : Launch} {e : Env} {s : State} {m : MethodId} {args : Array Value} {below : List Frame} {meth : Method} {c : Code} {D : va_G} {cA : Nat → ClassId} {o : Nat}  {Φ : Int32 → Mm → Prop} (C : Cx p m meth c s args cX10_recorded 3 wsX10_recorded RX10 (some .int) D (tysL cA)) : ∀ n : Nat, ∀ (x1 : Int32) (x2 : Int32) (u0 : Mm), ∀ (H : Heap) (locs : List Loc) (ls : Array Slot), Hp 6 o D (EM cA o u0) s H locs → lv_has ls 3 [(0, .ref (o + 0)), (1, .int x1), (2, .int x2)] → w_X10_recorded_56 Φ n x1 x2 u0 → W p l e rm_X10_recorded s m args below meth c H locs 0 0 (MQ below (Qg vI Φ (fun μ => Wd 6 o D (tysL cA) (EM cA o μ)) (aA o 6)) args s 0 0 (aA o 6)) (F0 m 56 ls []) := by
  intro n
  induction n with
  | zero => intro x1 x2 u0 H locs ls P hl h; exact h.elim
  | succ n ih =>
    intro x1 x2 u0 H locs ls P hl h
    have hx := C.1.1
    have hb := C.1.2.1
    rw [w_X10_recorded_56] at h
    refine lv_iload_n hx hb dX10_recorded_56 rfl (lv_at hl 2 rfl) ?_
    refine lv_sipush (v := 516) hx hb dX10_recorded_57 (by decide) ?_
    refine lv_icmp_ge (tgt := 90) hx hb dX10_recorded_60 (by decide) (fun c2 => ?_) (fun c2 => ?_)
    · have h := ite_t h c2
      refine lv_aload_n hx hb dX10_recorded_90 rfl (lv_at hl 0 rfl) ?_
      refine lv_dup hx hb dX10_recorded_91 rfl ?_
      refine g_10_3 C P in_X10_recorded_10 wd_X10_recorded_1 dX10_recorded_92 ?_
      refine lv_iconst (v := 1) hx hb dX10_recorded_95 (by decide) ?_
      refine lv_iadd hx hb dX10_recorded_96 ?_
      refine p_10_3 C P in_X10_recorded_10 wd_X10_recorded_1 dX10_recorded_97 (fun u3 eu3 H locs P => ?_)
      have h := h u3 eu3
      refine lv_iload_n hx hb dX10_recorded_100 rfl (lv_at hl 1 rfl) ?_
      exact r_ireti C P h dX10_recorded_101
    · have h := ite_f h c2
      refine lv_aload_n hx hb dX10_recorded_63 rfl (lv_at hl 0 rfl) ?_
      refine g_10_2 C P in_X10_recorded_10 wd_X10_recorded_2 dX10_recorded_64 ?_
      refine lv_sipush (v := 516) hx hb dX10_recorded_67 (by decide) ?_
      refine lv_aload_n hx hb dX10_recorded_70 rfl (lv_at hl 0 rfl) ?_
      refine g_10_3 C P in_X10_recorded_10 wd_X10_recorded_1 dX10_recorded_71 ?_
      refine lv_imul hx hb dX10_recorded_74 ?_
      refine lv_iload_n hx hb dX10_recorded_75 rfl (lv_at hl 2 rfl) ?_
      refine lv_iadd hx hb dX10_recorded_76 ?_
      refine lv_aload_n hx hb dX10_recorded_77 rfl (lv_at hl 0 rfl) ?_
      refine g_10_1 C P in_X10_recorded_10 wd_X10_recorded_3 dX10_recorded_78 ?_
      refine lv_iload_n hx hb dX10_recorded_81 rfl (lv_at hl 2 rfl) ?_
      obtain ⟨hi, h⟩ := h
      refine mld_2 C P hi dX10_recorded_82 ?_
      obtain ⟨hi, h⟩ := h
      refine mst_3 C P hi dX10_recorded_83 (fun u4 eu4 H locs P => ?_)
      have h := h u4 eu4
      refine lv_iinc (v := (x2 + 1)) (lv' := [(2, .int (x2 + 1)), (0, .ref (o + 0)), (1, .int x1)]) hx hb dX10_recorded_84 hl (k := 2) rfl rfl (by decide) rfl (fun ls hl => ?_)
      refine lv_goto (tgt := 56) hx hb dX10_recorded_87 (by decide) ?_
      exact ih _ _ u4 _ _ _ P (lv_sub hl [1, 2, 0] rfl) h
def w_X10_recorded_20  (Φ : Int32 → Mm → Prop) : Nat → Int32 → Int32 → Mm → Prop
  | 0, _, _, _ => False
  | n + 1, x1, x2, u0 => (if ((516 : Int32) * (u0 0 3)) ≤ x2 then (∃ n56 : Nat, w_X10_recorded_56 Φ n56 x1 ((0 : Int32)) u0) else (vp_in (x2 + (516 : Int32)) 2064 ∧ (vp_in x2 2064 ∧ ∀ u7 : Mm, u7 = up2 u0 3 x2.toNatClampNeg (u0 3 (x2 + (516 : Int32)).toNatClampNeg) → (w_X10_recorded_20 Φ n x1 ((x2 + 1)) u7))))
set_option maxHeartbeats 4000000 in
set_option maxRecDepth 100000 in
theorem t_X10_recorded_20 {p : Program} {l : Launch} {e : Env} {s : State} {m : MethodId} {args : Array Value} {below : List Frame} {meth : Method} {c : Code} {D : va_G} {cA : Nat → ClassId} {o : Nat}  {Φ : Int32 → Mm → Prop} (C : Cx p m meth c s args cX10_recorded 3 wsX10_recorded RX10 (some .int) D (tysL cA)) : ∀ n : Nat, ∀ (x1 : Int32) (x2 : Int32) (u0 : Mm), ∀ (H : Heap) (locs : List Loc) (ls : Array Slot), Hp 6 o D (EM cA o u0) s H locs → lv_has ls 3 [(0, .ref (o + 0)), (1, .int x1), (2, .int x2)] → w_X10_recorded_20 Φ n x1 x2 u0 → W p l e rm_X10_recorded s m args below meth c H locs 0 0 (MQ below (Qg vI Φ (fun μ => Wd 6 o D (tysL cA) (EM cA o μ)) (aA o 6)) args s 0 0 (aA o 6)) (F0 m 20 ls []) := by
  intro n
  induction n with
  | zero => intro x1 x2 u0 H locs ls P hl h; exact h.elim
  | succ n ih =>
    intro x1 x2 u0 H locs ls P hl h
    have hx := C.1.1
    have hb := C.1.2.1
    rw [w_X10_recorded_20] at h
    refine lv_iload_n hx hb dX10_recorded_20 rfl (lv_at hl 2 rfl) ?_
    refine lv_sipush (v := 516) hx hb dX10_recorded_21 (by decide) ?_
    refine lv_aload_n hx hb dX10_recorded_24 rfl (lv_at hl 0 rfl) ?_
    refine g_10_3 C P in_X10_recorded_10 wd_X10_recorded_1 dX10_recorded_25 ?_
    refine lv_imul hx hb dX10_recorded_28 ?_
    refine lv_icmp_ge (tgt := 54) hx hb dX10_recorded_29 (by decide) (fun c6 => ?_) (fun c6 => ?_)
    · have h := ite_t h c6
      refine lv_iconst (v := 0) hx hb dX10_recorded_54 (by decide) ?_
      refine lv_istore_n (lv' := [(2, .int (0 : Int32)), (0, .ref (o + 0)), (1, .int x1)]) hx hb dX10_recorded_55 rfl hl (by decide) rfl (fun ls hl => ?_)
      obtain ⟨n56, h⟩ := h
      exact t_X10_recorded_56 C n56 _ _ u0 _ _ _ P (lv_sub hl [1, 2, 0] rfl) h
    · have h := ite_f h c6
      refine lv_aload_n hx hb dX10_recorded_32 rfl (lv_at hl 0 rfl) ?_
      refine g_10_2 C P in_X10_recorded_10 wd_X10_recorded_2 dX10_recorded_33 ?_
      refine lv_iload_n hx hb dX10_recorded_36 rfl (lv_at hl 2 rfl) ?_
      refine lv_aload_n hx hb dX10_recorded_37 rfl (lv_at hl 0 rfl) ?_
      refine g_10_2 C P in_X10_recorded_10 wd_X10_recorded_2 dX10_recorded_38 ?_
      refine lv_iload_n hx hb dX10_recorded_41 rfl (lv_at hl 2 rfl) ?_
      refine lv_sipush (v := 516) hx hb dX10_recorded_42 (by decide) ?_
      refine lv_iadd hx hb dX10_recorded_45 ?_
      obtain ⟨hi, h⟩ := h
      refine mld_3 C P hi dX10_recorded_46 ?_
      obtain ⟨hi, h⟩ := h
      refine mst_3 C P hi dX10_recorded_47 (fun u7 eu7 H locs P => ?_)
      have h := h u7 eu7
      refine lv_iinc (v := (x2 + 1)) (lv' := [(2, .int (x2 + 1)), (0, .ref (o + 0)), (1, .int x1)]) hx hb dX10_recorded_48 hl (k := 2) rfl rfl (by decide) rfl (fun ls hl => ?_)
      refine lv_goto (tgt := 20) hx hb dX10_recorded_51 (by decide) ?_
      exact ih _ _ u7 _ _ _ P (lv_sub hl [1, 2, 0] rfl) h
def w_X10_recorded (a1 : Int32) (u0 : Mm) (Φ : Int32 → Mm → Prop) : Prop := (if (u0 0 3) = (4 : Int32) then (∀ u5 : Mm, u5 = up2 u0 0 3 ((u0 0 3) - (1 : Int32)) → (∃ n20 : Nat, w_X10_recorded_20 Φ n20 a1 ((0 : Int32)) u5)) else (∃ n56 : Nat, w_X10_recorded_56 Φ n56 a1 ((0 : Int32)) u0))
set_option maxHeartbeats 4000000 in
set_option maxRecDepth 100000 in
theorem t_X10_recorded_0 {p : Program} {l : Launch} {e : Env} {s : State} {m : MethodId} {args : Array Value} {below : List Frame} {meth : Method} {c : Code} {D : va_G} {cA : Nat → ClassId} {o : Nat}  {Φ : Int32 → Mm → Prop} (C : Cx p m meth c s args cX10_recorded 3 wsX10_recorded RX10 (some .int) D (tysL cA)) : ∀ (a1 : Int32) (u0 : Mm), ∀ (H : Heap) (locs : List Loc) (ls : Array Slot), Hp 6 o D (EM cA o u0) s H locs → lv_has ls 3 [(0, .ref (o + 0)), (1, .int a1)] → w_X10_recorded a1 u0 Φ → W p l e rm_X10_recorded s m args below meth c H locs 0 0 (MQ below (Qg vI Φ (fun μ => Wd 6 o D (tysL cA) (EM cA o μ)) (aA o 6)) args s 0 0 (aA o 6)) (F0 m 0 ls []) := by
  intro a1 u0 H locs ls P hl h
  have hx := C.1.1
  have hb := C.1.2.1
  unfold w_X10_recorded at h
  refine lv_aload_n hx hb dX10_recorded_0 rfl (lv_at hl 0 rfl) ?_
  refine g_10_3 C P in_X10_recorded_10 wd_X10_recorded_1 dX10_recorded_1 ?_
  refine lv_iconst (v := 4) hx hb dX10_recorded_4 (by decide) ?_
  refine lv_icmp_ne (tgt := 54) hx hb dX10_recorded_5 (by decide) (fun c1 => ?_) (fun c1 => ?_)
  · have h := ite_f h c1
    refine lv_iconst (v := 0) hx hb dX10_recorded_54 (by decide) ?_
    refine lv_istore_n (lv' := [(2, .int (0 : Int32)), (0, .ref (o + 0)), (1, .int a1)]) hx hb dX10_recorded_55 rfl hl (by decide) rfl (fun ls hl => ?_)
    obtain ⟨n56, h⟩ := h
    exact t_X10_recorded_56 C n56 _ _ u0 _ _ _ P (lv_sub hl [1, 2, 0] rfl) h
  · have h := ite_t h c1
    refine lv_aload_n hx hb dX10_recorded_8 rfl (lv_at hl 0 rfl) ?_
    refine lv_dup hx hb dX10_recorded_9 rfl ?_
    refine g_10_3 C P in_X10_recorded_10 wd_X10_recorded_1 dX10_recorded_10 ?_
    refine lv_iconst (v := 1) hx hb dX10_recorded_13 (by decide) ?_
    refine lv_isub hx hb dX10_recorded_14 ?_
    refine p_10_3 C P in_X10_recorded_10 wd_X10_recorded_1 dX10_recorded_15 (fun u5 eu5 H locs P => ?_)
    have h := h u5 eu5
    refine lv_iconst (v := 0) hx hb dX10_recorded_18 (by decide) ?_
    refine lv_istore_n (lv' := [(2, .int (0 : Int32)), (0, .ref (o + 0)), (1, .int a1)]) hx hb dX10_recorded_19 rfl hl (by decide) rfl (fun ls hl => ?_)
    obtain ⟨n20, h⟩ := h
    exact t_X10_recorded_20 C n20 _ _ u5 _ _ _ P (lv_sub hl [1, 2, 0] rfl) h
set_option maxHeartbeats 4000000 in
set_option maxRecDepth 100000 in
theorem c_X10_recorded (l : Launch) (D : va_G) (cA : Nat → ClassId) (o : Nat) (a1 : Int32)  (u0 : Mm) (Φ : Int32 → Mm → Prop) (h : w_X10_recorded a1 u0 Φ) : Met l yX10_recorded wsX10_recorded rm_X10_recorded (va_Pc [.ref (o + 0), .int a1] (Wd 6 o D (tysL cA) (EM cA o u0))) (Qg vI Φ (fun μ => Wd 6 o D (tysL cA) (EM cA o μ)) (aA o 6)) 0 0 (aA o 6) := by
  refine Met.ofW (cc := cX10_recorded) (maxL := 3) (ret := (some .int)) (by decide) rfl ?_
  intro p e s m args below meth c s₁ B hml hv
  obtain ⟨rfl, hv⟩ := hv
  have hl := lv_entry ([.ref (o + 0), .int a1]) (n := 3) (Nat.le_of_ble_eq_true rfl)
  rw [lg_entry_eq]
  exact t_X10_recorded_0 ⟨⟨B.exec, B.bytes, hml, findClass_of_methodNamed B.named, atoms_spec (ws := wsX10_recorded) B.pre⟩, B.returns, B.notSynchronized, hv.2⟩ a1 u0 _ _ _ ⟨hv.1, va_S.rf⟩ hl h
abbrev rm_X10_done : Room := { frames := 1, cells := 0, slots := 0, locals := 22 }
def w_X10_done (a1 : Int32) (u0 : Mm) (Φ : Int32 → Mm → Prop) : Prop := (if 0 ≤ a1 then (w_X10_recorded a1 u0 (fun r3 u2 => (Φ r3 u2))) else (Φ a1 u0))
set_option maxHeartbeats 4000000 in
set_option maxRecDepth 100000 in
theorem t_X10_done_0 {p : Program} {l : Launch} {e : Env} {s : State} {m : MethodId} {args : Array Value} {below : List Frame} {meth : Method} {c : Code} {D : va_G} {cA : Nat → ClassId} {o : Nat}  {Φ : Int32 → Mm → Prop} (C : Cx p m meth c s args cX10_done 2 wsX10_done RX10 (some .int) D (tysL cA)) : ∀ (a1 : Int32) (u0 : Mm), ∀ (H : Heap) (locs : List Loc) (ls : Array Slot), Hp 6 o D (EM cA o u0) s H locs → lv_has ls 2 [(0, .ref (o + 0)), (1, .int a1)] → w_X10_done a1 u0 Φ → W p l e rm_X10_done s m args below meth c H locs 0 0 (MQ below (Qg vI Φ (fun μ => Wd 6 o D (tysL cA) (EM cA o μ)) (aA o 6)) args s 0 0 (aA o 6)) (F0 m 0 ls []) := by
  intro a1 u0 H locs ls P hl h
  have hx := C.1.1
  have hb := C.1.2.1
  unfold w_X10_done at h
  refine lv_iload_n hx hb dX10_done_0 rfl (lv_at hl 1 rfl) ?_
  refine lv_if_ge (tgt := 8) hx hb dX10_done_1 (by decide) (fun c1 => ?_) (fun c1 => ?_)
  · have h := ite_t h c1
    refine lv_aload_n hx hb dX10_done_8 rfl (lv_at hl 0 rfl) ?_
    refine lv_iload_n hx hb dX10_done_9 rfl (lv_at hl 1 rfl) ?_
    refine r_calli (F := EM cA o) (va_runV (As := [.int a1]) (rest := []) C.1 (c_X10_recorded l D cA o _ u0 _ h) (cwV 1 C.1.2.2.2.2 gX10_done_X10_recorded rfl rfl rfl (by decide +kernel) ⟨Nat.le_of_ble_eq_true rfl, Nat.le_of_ble_eq_true rfl⟩) (r_preV C P [.int a1] (ci := 10) rfl (by decide) EKM_0) rfl rfl hl.1 rfl (lv_room (Nat.le_of_ble_eq_true rfl)) dX10_done_10 ⟨Nat.le_of_ble_eq_true rfl, Nat.le_of_ble_eq_true rfl⟩) P.2 (fun r3 u2 H locs h P => ?_)
    exact r_ireti C P h dX10_done_13
  · have h := ite_f h c1
    refine lv_iload_n hx hb dX10_done_4 rfl (lv_at hl 1 rfl) ?_
    refine lv_goto (tgt := 13) hx hb dX10_done_5 (by decide) ?_
    exact r_ireti C P h dX10_done_13
set_option maxHeartbeats 4000000 in
set_option maxRecDepth 100000 in
theorem c_X10_done (l : Launch) (D : va_G) (cA : Nat → ClassId) (o : Nat) (a1 : Int32)  (u0 : Mm) (Φ : Int32 → Mm → Prop) (h : w_X10_done a1 u0 Φ) : Met l yX10_done wsX10_done rm_X10_done (va_Pc [.ref (o + 0), .int a1] (Wd 6 o D (tysL cA) (EM cA o u0))) (Qg vI Φ (fun μ => Wd 6 o D (tysL cA) (EM cA o μ)) (aA o 6)) 0 0 (aA o 6) := by
  refine Met.ofW (cc := cX10_done) (maxL := 2) (ret := (some .int)) (by decide) rfl ?_
  intro p e s m args below meth c s₁ B hml hv
  obtain ⟨rfl, hv⟩ := hv
  have hl := lv_entry ([.ref (o + 0), .int a1]) (n := 2) (Nat.le_of_ble_eq_true rfl)
  rw [lg_entry_eq]
  exact t_X10_done_0 ⟨⟨B.exec, B.bytes, hml, findClass_of_methodNamed B.named, atoms_spec (ws := wsX10_done) B.pre⟩, B.returns, B.notSynchronized, hv.2⟩ a1 u0 _ _ _ ⟨hv.1, va_S.rf⟩ hl h
abbrev rm_X10_undo : Room := { frames := 0, cells := 0, slots := 0, locals := 0 }
theorem wd_X10_undo_1 : Cond.fieldLink RX10 26 "TurnstileBankModel" "kept" "I" ∈ wsX10_undo := List.mem_of_getElem? (i := 1) (by decide +kernel)
theorem wd_X10_undo_2 : Cond.fieldLink RX10 7 "TurnstileBankModel" "row" "[I" ∈ wsX10_undo := List.mem_of_getElem? (i := 2) (by decide +kernel)
theorem wd_X10_undo_3 : Cond.fieldLink RX10 16 "TurnstileBankModel" "history" "[I" ∈ wsX10_undo := List.mem_of_getElem? (i := 3) (by decide +kernel)
theorem in_X10_undo_10 : ∀ w ∈ wsX100, w ∈ wsX10_undo := fun w h => List.mem_cons_of_mem _ (List.mem_append_right _ h)
def w_X10_undo_22  (Φ : Int32 → Mm → Prop) : Nat → Int32 → Mm → Prop
  | 0, _, _ => False
  | n + 1, x1, u0 => (if (516 : Int32) ≤ x1 then (Φ ((u0 0 3)) u0) else (vp_in (((516 : Int32) * (u0 0 3)) + x1) 2064 ∧ (vp_in x1 516 ∧ ∀ u4 : Mm, u4 = up2 u0 1 x1.toNatClampNeg (u0 3 (((516 : Int32) * (u0 0 3)) + x1).toNatClampNeg) → (w_X10_undo_22 Φ n ((x1 + 1)) u4))))
set_option maxHeartbeats 4000000 in
set_option maxRecDepth 100000 in
theorem t_X10_undo_22 {p : Program} {l : Launch} {e : Env} {s : State} {m : MethodId} {args : Array Value} {below : List Frame} {meth : Method} {c : Code} {D : va_G} {cA : Nat → ClassId} {o : Nat}  {Φ : Int32 → Mm → Prop} (C : Cx p m meth c s args cX10_undo 2 wsX10_undo RX10 (some .int) D (tysL cA)) : ∀ n : Nat, ∀ (x1 : Int32) (u0 : Mm), ∀ (H : Heap) (locs : List Loc) (ls : Array Slot), Hp 6 o D (EM cA o u0) s H locs → lv_has ls 2 [(0, .ref (o + 0)), (1, .int x1)] → w_X10_undo_22 Φ n x1 u0 → W p l e rm_X10_undo s m args below meth c H locs 0 0 (MQ below (Qg vI Φ (fun μ => Wd 6 o D (tysL cA) (EM cA o μ)) (aA o 6)) args s 0 0 (aA o 6)) (F0 m 22 ls []) := by
  intro n
  induction n with
  | zero => intro x1 u0 H locs ls P hl h; exact h.elim
  | succ n ih =>
    intro x1 u0 H locs ls P hl h
    have hx := C.1.1
    have hb := C.1.2.1
    rw [w_X10_undo_22] at h
    refine lv_iload_n hx hb dX10_undo_22 rfl (lv_at hl 1 rfl) ?_
    refine lv_sipush (v := 516) hx hb dX10_undo_23 (by decide) ?_
    refine lv_icmp_ge (tgt := 56) hx hb dX10_undo_26 (by decide) (fun c3 => ?_) (fun c3 => ?_)
    · have h := ite_t h c3
      refine lv_aload_n hx hb dX10_undo_56 rfl (lv_at hl 0 rfl) ?_
      refine g_10_3 C P in_X10_undo_10 wd_X10_undo_1 dX10_undo_57 ?_
      exact r_ireti C P h dX10_undo_60
    · have h := ite_f h c3
      refine lv_aload_n hx hb dX10_undo_29 rfl (lv_at hl 0 rfl) ?_
      refine g_10_0 C P in_X10_undo_10 wd_X10_undo_2 dX10_undo_30 ?_
      refine lv_iload_n hx hb dX10_undo_33 rfl (lv_at hl 1 rfl) ?_
      refine lv_aload_n hx hb dX10_undo_34 rfl (lv_at hl 0 rfl) ?_
      refine g_10_2 C P in_X10_undo_10 wd_X10_undo_3 dX10_undo_35 ?_
      refine lv_sipush (v := 516) hx hb dX10_undo_38 (by decide) ?_
      refine lv_aload_n hx hb dX10_undo_41 rfl (lv_at hl 0 rfl) ?_
      refine g_10_3 C P in_X10_undo_10 wd_X10_undo_1 dX10_undo_42 ?_
      refine lv_imul hx hb dX10_undo_45 ?_
      refine lv_iload_n hx hb dX10_undo_46 rfl (lv_at hl 1 rfl) ?_
      refine lv_iadd hx hb dX10_undo_47 ?_
      obtain ⟨hi, h⟩ := h
      refine mld_3 C P hi dX10_undo_48 ?_
      obtain ⟨hi, h⟩ := h
      refine mst_1 C P hi dX10_undo_49 (fun u4 eu4 H locs P => ?_)
      have h := h u4 eu4
      refine lv_iinc (v := (x1 + 1)) (lv' := [(1, .int (x1 + 1)), (0, .ref (o + 0))]) hx hb dX10_undo_50 hl (k := 1) rfl rfl (by decide) rfl (fun ls hl => ?_)
      refine lv_goto (tgt := 22) hx hb dX10_undo_53 (by decide) ?_
      exact ih _ u4 _ _ _ P (lv_sub hl [1, 0] rfl) h
def w_X10_undo  (u0 : Mm) (Φ : Int32 → Mm → Prop) : Prop := (if (u0 0 3) = 0 then (Φ ((-5 : Int32)) u0) else (∀ u2 : Mm, u2 = up2 u0 0 3 ((u0 0 3) - (1 : Int32)) → (∃ n22 : Nat, w_X10_undo_22 Φ n22 ((0 : Int32)) u2)))
set_option maxHeartbeats 4000000 in
set_option maxRecDepth 100000 in
theorem t_X10_undo_0 {p : Program} {l : Launch} {e : Env} {s : State} {m : MethodId} {args : Array Value} {below : List Frame} {meth : Method} {c : Code} {D : va_G} {cA : Nat → ClassId} {o : Nat}  {Φ : Int32 → Mm → Prop} (C : Cx p m meth c s args cX10_undo 2 wsX10_undo RX10 (some .int) D (tysL cA)) : ∀  (u0 : Mm), ∀ (H : Heap) (locs : List Loc) (ls : Array Slot), Hp 6 o D (EM cA o u0) s H locs → lv_has ls 2 [(0, .ref (o + 0))] → w_X10_undo u0 Φ → W p l e rm_X10_undo s m args below meth c H locs 0 0 (MQ below (Qg vI Φ (fun μ => Wd 6 o D (tysL cA) (EM cA o μ)) (aA o 6)) args s 0 0 (aA o 6)) (F0 m 0 ls []) := by
  intro u0 H locs ls P hl h
  have hx := C.1.1
  have hb := C.1.2.1
  unfold w_X10_undo at h
  refine lv_aload_n hx hb dX10_undo_0 rfl (lv_at hl 0 rfl) ?_
  refine g_10_3 C P in_X10_undo_10 wd_X10_undo_1 dX10_undo_1 ?_
  refine lv_if_ne (tgt := 10) hx hb dX10_undo_4 (by decide) (fun c1 => ?_) (fun c1 => ?_)
  · have h := ite_f h c1
    refine lv_aload_n hx hb dX10_undo_10 rfl (lv_at hl 0 rfl) ?_
    refine lv_dup hx hb dX10_undo_11 rfl ?_
    refine g_10_3 C P in_X10_undo_10 wd_X10_undo_1 dX10_undo_12 ?_
    refine lv_iconst (v := 1) hx hb dX10_undo_15 (by decide) ?_
    refine lv_isub hx hb dX10_undo_16 ?_
    refine p_10_3 C P in_X10_undo_10 wd_X10_undo_1 dX10_undo_17 (fun u2 eu2 H locs P => ?_)
    have h := h u2 eu2
    refine lv_iconst (v := 0) hx hb dX10_undo_20 (by decide) ?_
    refine lv_istore_n (lv' := [(1, .int (0 : Int32)), (0, .ref (o + 0))]) hx hb dX10_undo_21 rfl hl (by decide) rfl (fun ls hl => ?_)
    obtain ⟨n22, h⟩ := h
    exact t_X10_undo_22 C n22 _ u2 _ _ _ P (lv_sub hl [1, 0] rfl) h
  · have h := ite_t h c1
    refine lv_bipush (v := -5) hx hb dX10_undo_7 (by decide) ?_
    exact r_ireti C P h dX10_undo_9
set_option maxHeartbeats 4000000 in
set_option maxRecDepth 100000 in
theorem c_X10_undo (l : Launch) (D : va_G) (cA : Nat → ClassId) (o : Nat)   (u0 : Mm) (Φ : Int32 → Mm → Prop) (h : w_X10_undo u0 Φ) : Met l yX10_undo wsX10_undo rm_X10_undo (va_Pc [.ref (o + 0)] (Wd 6 o D (tysL cA) (EM cA o u0))) (Qg vI Φ (fun μ => Wd 6 o D (tysL cA) (EM cA o μ)) (aA o 6)) 0 0 (aA o 6) := by
  refine Met.ofW (cc := cX10_undo) (maxL := 2) (ret := (some .int)) (by decide) rfl ?_
  intro p e s m args below meth c s₁ B hml hv
  obtain ⟨rfl, hv⟩ := hv
  have hl := lv_entry ([.ref (o + 0)]) (n := 2) (Nat.le_of_ble_eq_true rfl)
  rw [lg_entry_eq]
  exact t_X10_undo_0 ⟨⟨B.exec, B.bytes, hml, findClass_of_methodNamed B.named, atoms_spec (ws := wsX10_undo) B.pre⟩, B.returns, B.notSynchronized, hv.2⟩ u0 _ _ _ ⟨hv.1, va_S.rf⟩ hl h
abbrev rm_X10_gateOf : Room := { frames := 0, cells := 0, slots := 0, locals := 0 }
theorem wd_X10_gateOf_1 : Cond.fieldLink RX10 7 "TurnstileBankModel" "row" "[I" ∈ wsX10_gateOf := List.mem_of_getElem? (i := 1) (by decide +kernel)
theorem in_X10_gateOf_10 : ∀ w ∈ wsX100, w ∈ wsX10_gateOf := fun w h => List.mem_cons_of_mem _ (List.mem_append_right _ h)
def w_X10_gateOf (a1 : Int32) (a2 : Int32) (u0 : Mm) (Φ : Int32 → Mm → Prop) : Prop := (vp_in (((8 : Int32) + ((14 : Int32) * a1)) + a2) 516 ∧ (Φ ((u0 1 (((8 : Int32) + ((14 : Int32) * a1)) + a2).toNatClampNeg)) u0))
set_option maxHeartbeats 4000000 in
set_option maxRecDepth 100000 in
theorem t_X10_gateOf_0 {p : Program} {l : Launch} {e : Env} {s : State} {m : MethodId} {args : Array Value} {below : List Frame} {meth : Method} {c : Code} {D : va_G} {cA : Nat → ClassId} {o : Nat}  {Φ : Int32 → Mm → Prop} (C : Cx p m meth c s args cX10_gateOf 3 wsX10_gateOf RX10 (some .int) D (tysL cA)) : ∀ (a1 : Int32) (a2 : Int32) (u0 : Mm), ∀ (H : Heap) (locs : List Loc) (ls : Array Slot), Hp 6 o D (EM cA o u0) s H locs → lv_has ls 3 [(0, .ref (o + 0)), (1, .int a1), (2, .int a2)] → w_X10_gateOf a1 a2 u0 Φ → W p l e rm_X10_gateOf s m args below meth c H locs 0 0 (MQ below (Qg vI Φ (fun μ => Wd 6 o D (tysL cA) (EM cA o μ)) (aA o 6)) args s 0 0 (aA o 6)) (F0 m 0 ls []) := by
  intro a1 a2 u0 H locs ls P hl h
  have hx := C.1.1
  have hb := C.1.2.1
  unfold w_X10_gateOf at h
  refine lv_aload_n hx hb dX10_gateOf_0 rfl (lv_at hl 0 rfl) ?_
  refine g_10_0 C P in_X10_gateOf_10 wd_X10_gateOf_1 dX10_gateOf_1 ?_
  refine lv_bipush (v := 8) hx hb dX10_gateOf_4 (by decide) ?_
  refine lv_bipush (v := 14) hx hb dX10_gateOf_6 (by decide) ?_
  refine lv_iload_n hx hb dX10_gateOf_8 rfl (lv_at hl 1 rfl) ?_
  refine lv_imul hx hb dX10_gateOf_9 ?_
  refine lv_iadd hx hb dX10_gateOf_10 ?_
  refine lv_iload_n hx hb dX10_gateOf_11 rfl (lv_at hl 2 rfl) ?_
  refine lv_iadd hx hb dX10_gateOf_12 ?_
  obtain ⟨hi, h⟩ := h
  refine mld_1 C P hi dX10_gateOf_13 ?_
  exact r_ireti C P h dX10_gateOf_14
set_option maxHeartbeats 4000000 in
set_option maxRecDepth 100000 in
theorem c_X10_gateOf (l : Launch) (D : va_G) (cA : Nat → ClassId) (o : Nat) (a1 : Int32) (a2 : Int32)  (u0 : Mm) (Φ : Int32 → Mm → Prop) (h : w_X10_gateOf a1 a2 u0 Φ) : Met l yX10_gateOf wsX10_gateOf rm_X10_gateOf (va_Pc [.ref (o + 0), .int a1, .int a2] (Wd 6 o D (tysL cA) (EM cA o u0))) (Qg vI Φ (fun μ => Wd 6 o D (tysL cA) (EM cA o μ)) (aA o 6)) 0 0 (aA o 6) := by
  refine Met.ofW (cc := cX10_gateOf) (maxL := 3) (ret := (some .int)) (by decide) rfl ?_
  intro p e s m args below meth c s₁ B hml hv
  obtain ⟨rfl, hv⟩ := hv
  have hl := lv_entry ([.ref (o + 0), .int a1, .int a2]) (n := 3) (Nat.le_of_ble_eq_true rfl)
  rw [lg_entry_eq]
  exact t_X10_gateOf_0 ⟨⟨B.exec, B.bytes, hml, findClass_of_methodNamed B.named, atoms_spec (ws := wsX10_gateOf) B.pre⟩, B.returns, B.notSynchronized, hv.2⟩ a1 a2 u0 _ _ _ ⟨hv.1, va_S.rf⟩ hl h
abbrev rm_X10_putGate : Room := { frames := 0, cells := 0, slots := 0, locals := 0 }
theorem wd_X10_putGate_1 : Cond.fieldLink RX10 7 "TurnstileBankModel" "row" "[I" ∈ wsX10_putGate := List.mem_of_getElem? (i := 1) (by decide +kernel)
theorem in_X10_putGate_10 : ∀ w ∈ wsX100, w ∈ wsX10_putGate := fun w h => List.mem_cons_of_mem _ (List.mem_append_right _ h)
def w_X10_putGate (a1 : Int32) (a2 : Int32) (a3 : Int32) (u0 : Mm) (Φ : Unit → Mm → Prop) : Prop := (vp_in (((8 : Int32) + ((14 : Int32) * a1)) + a2) 516 ∧ ∀ u1 : Mm, u1 = up2 u0 1 (((8 : Int32) + ((14 : Int32) * a1)) + a2).toNatClampNeg a3 → (Φ () u1))
set_option maxHeartbeats 4000000 in
set_option maxRecDepth 100000 in
theorem t_X10_putGate_0 {p : Program} {l : Launch} {e : Env} {s : State} {m : MethodId} {args : Array Value} {below : List Frame} {meth : Method} {c : Code} {D : va_G} {cA : Nat → ClassId} {o : Nat}  {Φ : Unit → Mm → Prop} (C : Cx p m meth c s args cX10_putGate 4 wsX10_putGate RX10 none D (tysL cA)) : ∀ (a1 : Int32) (a2 : Int32) (a3 : Int32) (u0 : Mm), ∀ (H : Heap) (locs : List Loc) (ls : Array Slot), Hp 6 o D (EM cA o u0) s H locs → lv_has ls 4 [(0, .ref (o + 0)), (1, .int a1), (2, .int a2), (3, .int a3)] → w_X10_putGate a1 a2 a3 u0 Φ → W p l e rm_X10_putGate s m args below meth c H locs 0 0 (MQ below (Qg vV Φ (fun μ => Wd 6 o D (tysL cA) (EM cA o μ)) (aA o 6)) args s 0 0 (aA o 6)) (F0 m 0 ls []) := by
  intro a1 a2 a3 u0 H locs ls P hl h
  have hx := C.1.1
  have hb := C.1.2.1
  unfold w_X10_putGate at h
  refine lv_aload_n hx hb dX10_putGate_0 rfl (lv_at hl 0 rfl) ?_
  refine g_10_0 C P in_X10_putGate_10 wd_X10_putGate_1 dX10_putGate_1 ?_
  refine lv_bipush (v := 8) hx hb dX10_putGate_4 (by decide) ?_
  refine lv_bipush (v := 14) hx hb dX10_putGate_6 (by decide) ?_
  refine lv_iload_n hx hb dX10_putGate_8 rfl (lv_at hl 1 rfl) ?_
  refine lv_imul hx hb dX10_putGate_9 ?_
  refine lv_iadd hx hb dX10_putGate_10 ?_
  refine lv_iload_n hx hb dX10_putGate_11 rfl (lv_at hl 2 rfl) ?_
  refine lv_iadd hx hb dX10_putGate_12 ?_
  refine lv_iload_n hx hb dX10_putGate_13 rfl (lv_at hl 3 rfl) ?_
  obtain ⟨hi, h⟩ := h
  refine mst_1 C P hi dX10_putGate_14 (fun u1 eu1 H locs P => ?_)
  have h := h u1 eu1
  exact r_ret C P h dX10_putGate_15
set_option maxHeartbeats 4000000 in
set_option maxRecDepth 100000 in
theorem c_X10_putGate (l : Launch) (D : va_G) (cA : Nat → ClassId) (o : Nat) (a1 : Int32) (a2 : Int32) (a3 : Int32)  (u0 : Mm) (Φ : Unit → Mm → Prop) (h : w_X10_putGate a1 a2 a3 u0 Φ) : Met l yX10_putGate wsX10_putGate rm_X10_putGate (va_Pc [.ref (o + 0), .int a1, .int a2, .int a3] (Wd 6 o D (tysL cA) (EM cA o u0))) (Qg vV Φ (fun μ => Wd 6 o D (tysL cA) (EM cA o μ)) (aA o 6)) 0 0 (aA o 6) := by
  refine Met.ofW (cc := cX10_putGate) (maxL := 4) (ret := none) (by decide) rfl ?_
  intro p e s m args below meth c s₁ B hml hv
  obtain ⟨rfl, hv⟩ := hv
  have hl := lv_entry ([.ref (o + 0), .int a1, .int a2, .int a3]) (n := 4) (Nat.le_of_ble_eq_true rfl)
  rw [lg_entry_eq]
  exact t_X10_putGate_0 ⟨⟨B.exec, B.bytes, hml, findClass_of_methodNamed B.named, atoms_spec (ws := wsX10_putGate) B.pre⟩, B.returns, B.notSynchronized, hv.2⟩ a1 a2 a3 u0 _ _ _ ⟨hv.1, va_S.rf⟩ hl h
abbrev rm_X10_of : Room := { frames := 0, cells := 0, slots := 0, locals := 0 }
theorem wd_X10_of_1 : Cond.fieldLink RX10 7 "TurnstileBankModel" "row" "[I" ∈ wsX10_of := List.mem_of_getElem? (i := 1) (by decide +kernel)
theorem in_X10_of_10 : ∀ w ∈ wsX100, w ∈ wsX10_of := fun w h => List.mem_cons_of_mem _ (List.mem_append_right _ h)
def w_X10_of (a1 : Int32) (a2 : Int32) (u0 : Mm) (Φ : Int32 → Mm → Prop) : Prop := (vp_in (((120 : Int32) + ((7 : Int32) * a1)) + a2) 516 ∧ (Φ ((u0 1 (((120 : Int32) + ((7 : Int32) * a1)) + a2).toNatClampNeg)) u0))
set_option maxHeartbeats 4000000 in
set_option maxRecDepth 100000 in
theorem t_X10_of_0 {p : Program} {l : Launch} {e : Env} {s : State} {m : MethodId} {args : Array Value} {below : List Frame} {meth : Method} {c : Code} {D : va_G} {cA : Nat → ClassId} {o : Nat}  {Φ : Int32 → Mm → Prop} (C : Cx p m meth c s args cX10_of 3 wsX10_of RX10 (some .int) D (tysL cA)) : ∀ (a1 : Int32) (a2 : Int32) (u0 : Mm), ∀ (H : Heap) (locs : List Loc) (ls : Array Slot), Hp 6 o D (EM cA o u0) s H locs → lv_has ls 3 [(0, .ref (o + 0)), (1, .int a1), (2, .int a2)] → w_X10_of a1 a2 u0 Φ → W p l e rm_X10_of s m args below meth c H locs 0 0 (MQ below (Qg vI Φ (fun μ => Wd 6 o D (tysL cA) (EM cA o μ)) (aA o 6)) args s 0 0 (aA o 6)) (F0 m 0 ls []) := by
  intro a1 a2 u0 H locs ls P hl h
  have hx := C.1.1
  have hb := C.1.2.1
  unfold w_X10_of at h
  refine lv_aload_n hx hb dX10_of_0 rfl (lv_at hl 0 rfl) ?_
  refine g_10_0 C P in_X10_of_10 wd_X10_of_1 dX10_of_1 ?_
  refine lv_bipush (v := 120) hx hb dX10_of_4 (by decide) ?_
  refine lv_bipush (v := 7) hx hb dX10_of_6 (by decide) ?_
  refine lv_iload_n hx hb dX10_of_8 rfl (lv_at hl 1 rfl) ?_
  refine lv_imul hx hb dX10_of_9 ?_
  refine lv_iadd hx hb dX10_of_10 ?_
  refine lv_iload_n hx hb dX10_of_11 rfl (lv_at hl 2 rfl) ?_
  refine lv_iadd hx hb dX10_of_12 ?_
  obtain ⟨hi, h⟩ := h
  refine mld_1 C P hi dX10_of_13 ?_
  exact r_ireti C P h dX10_of_14
set_option maxHeartbeats 4000000 in
set_option maxRecDepth 100000 in
theorem c_X10_of (l : Launch) (D : va_G) (cA : Nat → ClassId) (o : Nat) (a1 : Int32) (a2 : Int32)  (u0 : Mm) (Φ : Int32 → Mm → Prop) (h : w_X10_of a1 a2 u0 Φ) : Met l yX10_of wsX10_of rm_X10_of (va_Pc [.ref (o + 0), .int a1, .int a2] (Wd 6 o D (tysL cA) (EM cA o u0))) (Qg vI Φ (fun μ => Wd 6 o D (tysL cA) (EM cA o μ)) (aA o 6)) 0 0 (aA o 6) := by
  refine Met.ofW (cc := cX10_of) (maxL := 3) (ret := (some .int)) (by decide) rfl ?_
  intro p e s m args below meth c s₁ B hml hv
  obtain ⟨rfl, hv⟩ := hv
  have hl := lv_entry ([.ref (o + 0), .int a1, .int a2]) (n := 3) (Nat.le_of_ble_eq_true rfl)
  rw [lg_entry_eq]
  exact t_X10_of_0 ⟨⟨B.exec, B.bytes, hml, findClass_of_methodNamed B.named, atoms_spec (ws := wsX10_of) B.pre⟩, B.returns, B.notSynchronized, hv.2⟩ a1 a2 u0 _ _ _ ⟨hv.1, va_S.rf⟩ hl h
abbrev rm_X10_put : Room := { frames := 0, cells := 0, slots := 0, locals := 0 }
theorem wd_X10_put_1 : Cond.fieldLink RX10 7 "TurnstileBankModel" "row" "[I" ∈ wsX10_put := List.mem_of_getElem? (i := 1) (by decide +kernel)
theorem in_X10_put_10 : ∀ w ∈ wsX100, w ∈ wsX10_put := fun w h => List.mem_cons_of_mem _ (List.mem_append_right _ h)
def w_X10_put (a1 : Int32) (a2 : Int32) (a3 : Int32) (u0 : Mm) (Φ : Unit → Mm → Prop) : Prop := (vp_in (((120 : Int32) + ((7 : Int32) * a1)) + a2) 516 ∧ ∀ u1 : Mm, u1 = up2 u0 1 (((120 : Int32) + ((7 : Int32) * a1)) + a2).toNatClampNeg a3 → (Φ () u1))
set_option maxHeartbeats 4000000 in
set_option maxRecDepth 100000 in
theorem t_X10_put_0 {p : Program} {l : Launch} {e : Env} {s : State} {m : MethodId} {args : Array Value} {below : List Frame} {meth : Method} {c : Code} {D : va_G} {cA : Nat → ClassId} {o : Nat}  {Φ : Unit → Mm → Prop} (C : Cx p m meth c s args cX10_put 4 wsX10_put RX10 none D (tysL cA)) : ∀ (a1 : Int32) (a2 : Int32) (a3 : Int32) (u0 : Mm), ∀ (H : Heap) (locs : List Loc) (ls : Array Slot), Hp 6 o D (EM cA o u0) s H locs → lv_has ls 4 [(0, .ref (o + 0)), (1, .int a1), (2, .int a2), (3, .int a3)] → w_X10_put a1 a2 a3 u0 Φ → W p l e rm_X10_put s m args below meth c H locs 0 0 (MQ below (Qg vV Φ (fun μ => Wd 6 o D (tysL cA) (EM cA o μ)) (aA o 6)) args s 0 0 (aA o 6)) (F0 m 0 ls []) := by
  intro a1 a2 a3 u0 H locs ls P hl h
  have hx := C.1.1
  have hb := C.1.2.1
  unfold w_X10_put at h
  refine lv_aload_n hx hb dX10_put_0 rfl (lv_at hl 0 rfl) ?_
  refine g_10_0 C P in_X10_put_10 wd_X10_put_1 dX10_put_1 ?_
  refine lv_bipush (v := 120) hx hb dX10_put_4 (by decide) ?_
  refine lv_bipush (v := 7) hx hb dX10_put_6 (by decide) ?_
  refine lv_iload_n hx hb dX10_put_8 rfl (lv_at hl 1 rfl) ?_
  refine lv_imul hx hb dX10_put_9 ?_
  refine lv_iadd hx hb dX10_put_10 ?_
  refine lv_iload_n hx hb dX10_put_11 rfl (lv_at hl 2 rfl) ?_
  refine lv_iadd hx hb dX10_put_12 ?_
  refine lv_iload_n hx hb dX10_put_13 rfl (lv_at hl 3 rfl) ?_
  obtain ⟨hi, h⟩ := h
  refine mst_1 C P hi dX10_put_14 (fun u1 eu1 H locs P => ?_)
  have h := h u1 eu1
  exact r_ret C P h dX10_put_15
set_option maxHeartbeats 4000000 in
set_option maxRecDepth 100000 in
theorem c_X10_put (l : Launch) (D : va_G) (cA : Nat → ClassId) (o : Nat) (a1 : Int32) (a2 : Int32) (a3 : Int32)  (u0 : Mm) (Φ : Unit → Mm → Prop) (h : w_X10_put a1 a2 a3 u0 Φ) : Met l yX10_put wsX10_put rm_X10_put (va_Pc [.ref (o + 0), .int a1, .int a2, .int a3] (Wd 6 o D (tysL cA) (EM cA o u0))) (Qg vV Φ (fun μ => Wd 6 o D (tysL cA) (EM cA o μ)) (aA o 6)) 0 0 (aA o 6) := by
  refine Met.ofW (cc := cX10_put) (maxL := 4) (ret := none) (by decide) rfl ?_
  intro p e s m args below meth c s₁ B hml hv
  obtain ⟨rfl, hv⟩ := hv
  have hl := lv_entry ([.ref (o + 0), .int a1, .int a2, .int a3]) (n := 4) (Nat.le_of_ble_eq_true rfl)
  rw [lg_entry_eq]
  exact t_X10_put_0 ⟨⟨B.exec, B.bytes, hml, findClass_of_methodNamed B.named, atoms_spec (ws := wsX10_put) B.pre⟩, B.returns, B.notSynchronized, hv.2⟩ a1 a2 a3 u0 _ _ _ ⟨hv.1, va_S.rf⟩ hl h
abbrev rm_X10_noGate : Room := { frames := 1, cells := 0, slots := 0, locals := 22 }
theorem wd_X10_noGate_1 : Cond.fieldLink RX10 7 "TurnstileBankModel" "row" "[I" ∈ wsX10_noGate := List.mem_of_getElem? (i := 1) (by decide +kernel)
theorem in_X10_noGate_10 : ∀ w ∈ wsX100, w ∈ wsX10_noGate := fun w h => List.mem_cons_of_mem _ (List.mem_append_right _ h)
def w_X10_noGate (a1 : Int32) (u0 : Mm) (Φ : Int32 → Mm → Prop) : Prop := (w_X10_in a1 ((0 : Int32)) (((u0 1 (1 : Int32).toNatClampNeg) - (1 : Int32))) u0 (fun r2 u1 => (if r2 = 0 then (Φ (1 : Int32) u1) else (Φ (0 : Int32) u1))))
set_option maxHeartbeats 4000000 in
set_option maxRecDepth 100000 in
theorem t_X10_noGate_0 {p : Program} {l : Launch} {e : Env} {s : State} {m : MethodId} {args : Array Value} {below : List Frame} {meth : Method} {c : Code} {D : va_G} {cA : Nat → ClassId} {o : Nat}  {Φ : Int32 → Mm → Prop} (C : Cx p m meth c s args cX10_noGate 2 wsX10_noGate RX10 (some .boolean) D (tysL cA)) : ∀ (a1 : Int32) (u0 : Mm), ∀ (H : Heap) (locs : List Loc) (ls : Array Slot), Hp 6 o D (EM cA o u0) s H locs → lv_has ls 2 [(0, .ref (o + 0)), (1, .int a1)] → w_X10_noGate a1 u0 Φ → W p l e rm_X10_noGate s m args below meth c H locs 0 0 (MQ below (Qg vI Φ (fun μ => Wd 6 o D (tysL cA) (EM cA o μ)) (aA o 6)) args s 0 0 (aA o 6)) (F0 m 0 ls []) := by
  intro a1 u0 H locs ls P hl h
  have hx := C.1.1
  have hb := C.1.2.1
  unfold w_X10_noGate at h
  refine lv_iload_n hx hb dX10_noGate_0 rfl (lv_at hl 1 rfl) ?_
  refine lv_iconst (v := 0) hx hb dX10_noGate_1 (by decide) ?_
  refine lv_aload_n hx hb dX10_noGate_2 rfl (lv_at hl 0 rfl) ?_
  refine g_10_0 C P in_X10_noGate_10 wd_X10_noGate_1 dX10_noGate_3 ?_
  refine lv_iconst (v := 1) hx hb dX10_noGate_6 (by decide) ?_
  refine mld_1 C P (by unfold vp_in; decide) dX10_noGate_7 ?_
  refine lv_iconst (v := 1) hx hb dX10_noGate_8 (by decide) ?_
  refine lv_isub hx hb dX10_noGate_9 ?_
  refine r_calli (F := EM cA o) (va_runS (As := [.int a1, .int (0 : Int32), .int ((u0 1 (1 : Int32).toNatClampNeg) - (1 : Int32))]) (rest := []) C.1 (c_X10_in l D cA o _ _ _ u0 _ h) (va_cwS 3 C.1.2.2.2.2 gX10_noGate_X10_in rfl rfl rfl (by decide +kernel) ⟨Nat.le_of_ble_eq_true rfl, Nat.le_of_ble_eq_true rfl⟩) (r_pre C P [.int a1, .int (0 : Int32), .int ((u0 1 (1 : Int32).toNatClampNeg) - (1 : Int32))]) rfl rfl hl.1 rfl (lv_room (Nat.le_of_ble_eq_true rfl)) dX10_noGate_10 ⟨Nat.le_of_ble_eq_true rfl, Nat.le_of_ble_eq_true rfl⟩) P.2 (fun r2 u1 H locs h P => ?_)
  refine lv_if_ne (tgt := 20) hx hb dX10_noGate_13 (by decide) (fun c3 => ?_) (fun c3 => ?_)
  · have h := ite_f h c3
    refine lv_iconst (v := 0) hx hb dX10_noGate_20 (by decide) ?_
    exact r_iretb C P (Or.inl rfl) h dX10_noGate_21
  · have h := ite_t h c3
    refine lv_iconst (v := 1) hx hb dX10_noGate_16 (by decide) ?_
    refine lv_goto (tgt := 21) hx hb dX10_noGate_17 (by decide) ?_
    exact r_iretb C P (Or.inr rfl) h dX10_noGate_21
set_option maxHeartbeats 4000000 in
set_option maxRecDepth 100000 in
theorem c_X10_noGate (l : Launch) (D : va_G) (cA : Nat → ClassId) (o : Nat) (a1 : Int32)  (u0 : Mm) (Φ : Int32 → Mm → Prop) (h : w_X10_noGate a1 u0 Φ) : Met l yX10_noGate wsX10_noGate rm_X10_noGate (va_Pc [.ref (o + 0), .int a1] (Wd 6 o D (tysL cA) (EM cA o u0))) (Qg vI Φ (fun μ => Wd 6 o D (tysL cA) (EM cA o μ)) (aA o 6)) 0 0 (aA o 6) := by
  refine Met.ofW (cc := cX10_noGate) (maxL := 2) (ret := (some .boolean)) (by decide) rfl ?_
  intro p e s m args below meth c s₁ B hml hv
  obtain ⟨rfl, hv⟩ := hv
  have hl := lv_entry ([.ref (o + 0), .int a1]) (n := 2) (Nat.le_of_ble_eq_true rfl)
  rw [lg_entry_eq]
  exact t_X10_noGate_0 ⟨⟨B.exec, B.bytes, hml, findClass_of_methodNamed B.named, atoms_spec (ws := wsX10_noGate) B.pre⟩, B.returns, B.notSynchronized, hv.2⟩ a1 u0 _ _ _ ⟨hv.1, va_S.rf⟩ hl h
abbrev rm_X10_noPerson : Room := { frames := 1, cells := 0, slots := 0, locals := 22 }
theorem wd_X10_noPerson_1 : Cond.fieldLink RX10 7 "TurnstileBankModel" "row" "[I" ∈ wsX10_noPerson := List.mem_of_getElem? (i := 1) (by decide +kernel)
theorem in_X10_noPerson_10 : ∀ w ∈ wsX100, w ∈ wsX10_noPerson := fun w h => List.mem_cons_of_mem _ (List.mem_append_right _ h)
def w_X10_noPerson (a1 : Int32) (u0 : Mm) (Φ : Int32 → Mm → Prop) : Prop := (w_X10_in a1 ((0 : Int32)) (((u0 1 (2 : Int32).toNatClampNeg) - (1 : Int32))) u0 (fun r2 u1 => (if r2 = 0 then (Φ (1 : Int32) u1) else (Φ (0 : Int32) u1))))
set_option maxHeartbeats 4000000 in
set_option maxRecDepth 100000 in
theorem t_X10_noPerson_0 {p : Program} {l : Launch} {e : Env} {s : State} {m : MethodId} {args : Array Value} {below : List Frame} {meth : Method} {c : Code} {D : va_G} {cA : Nat → ClassId} {o : Nat}  {Φ : Int32 → Mm → Prop} (C : Cx p m meth c s args cX10_noPerson 2 wsX10_noPerson RX10 (some .boolean) D (tysL cA)) : ∀ (a1 : Int32) (u0 : Mm), ∀ (H : Heap) (locs : List Loc) (ls : Array Slot), Hp 6 o D (EM cA o u0) s H locs → lv_has ls 2 [(0, .ref (o + 0)), (1, .int a1)] → w_X10_noPerson a1 u0 Φ → W p l e rm_X10_noPerson s m args below meth c H locs 0 0 (MQ below (Qg vI Φ (fun μ => Wd 6 o D (tysL cA) (EM cA o μ)) (aA o 6)) args s 0 0 (aA o 6)) (F0 m 0 ls []) := by
  intro a1 u0 H locs ls P hl h
  have hx := C.1.1
  have hb := C.1.2.1
  unfold w_X10_noPerson at h
  refine lv_iload_n hx hb dX10_noPerson_0 rfl (lv_at hl 1 rfl) ?_
  refine lv_iconst (v := 0) hx hb dX10_noPerson_1 (by decide) ?_
  refine lv_aload_n hx hb dX10_noPerson_2 rfl (lv_at hl 0 rfl) ?_
  refine g_10_0 C P in_X10_noPerson_10 wd_X10_noPerson_1 dX10_noPerson_3 ?_
  refine lv_iconst (v := 2) hx hb dX10_noPerson_6 (by decide) ?_
  refine mld_1 C P (by unfold vp_in; decide) dX10_noPerson_7 ?_
  refine lv_iconst (v := 1) hx hb dX10_noPerson_8 (by decide) ?_
  refine lv_isub hx hb dX10_noPerson_9 ?_
  refine r_calli (F := EM cA o) (va_runS (As := [.int a1, .int (0 : Int32), .int ((u0 1 (2 : Int32).toNatClampNeg) - (1 : Int32))]) (rest := []) C.1 (c_X10_in l D cA o _ _ _ u0 _ h) (va_cwS 3 C.1.2.2.2.2 gX10_noPerson_X10_in rfl rfl rfl (by decide +kernel) ⟨Nat.le_of_ble_eq_true rfl, Nat.le_of_ble_eq_true rfl⟩) (r_pre C P [.int a1, .int (0 : Int32), .int ((u0 1 (2 : Int32).toNatClampNeg) - (1 : Int32))]) rfl rfl hl.1 rfl (lv_room (Nat.le_of_ble_eq_true rfl)) dX10_noPerson_10 ⟨Nat.le_of_ble_eq_true rfl, Nat.le_of_ble_eq_true rfl⟩) P.2 (fun r2 u1 H locs h P => ?_)
  refine lv_if_ne (tgt := 20) hx hb dX10_noPerson_13 (by decide) (fun c3 => ?_) (fun c3 => ?_)
  · have h := ite_f h c3
    refine lv_iconst (v := 0) hx hb dX10_noPerson_20 (by decide) ?_
    exact r_iretb C P (Or.inl rfl) h dX10_noPerson_21
  · have h := ite_t h c3
    refine lv_iconst (v := 1) hx hb dX10_noPerson_16 (by decide) ?_
    refine lv_goto (tgt := 21) hx hb dX10_noPerson_17 (by decide) ?_
    exact r_iretb C P (Or.inr rfl) h dX10_noPerson_21
set_option maxHeartbeats 4000000 in
set_option maxRecDepth 100000 in
theorem c_X10_noPerson (l : Launch) (D : va_G) (cA : Nat → ClassId) (o : Nat) (a1 : Int32)  (u0 : Mm) (Φ : Int32 → Mm → Prop) (h : w_X10_noPerson a1 u0 Φ) : Met l yX10_noPerson wsX10_noPerson rm_X10_noPerson (va_Pc [.ref (o + 0), .int a1] (Wd 6 o D (tysL cA) (EM cA o u0))) (Qg vI Φ (fun μ => Wd 6 o D (tysL cA) (EM cA o μ)) (aA o 6)) 0 0 (aA o 6) := by
  refine Met.ofW (cc := cX10_noPerson) (maxL := 2) (ret := (some .boolean)) (by decide) rfl ?_
  intro p e s m args below meth c s₁ B hml hv
  obtain ⟨rfl, hv⟩ := hv
  have hl := lv_entry ([.ref (o + 0), .int a1]) (n := 2) (Nat.le_of_ble_eq_true rfl)
  rw [lg_entry_eq]
  exact t_X10_noPerson_0 ⟨⟨B.exec, B.bytes, hml, findClass_of_methodNamed B.named, atoms_spec (ws := wsX10_noPerson) B.pre⟩, B.returns, B.notSynchronized, hv.2⟩ a1 u0 _ _ _ ⟨hv.1, va_S.rf⟩ hl h
abbrev rm_X10_noPass : Room := { frames := 1, cells := 0, slots := 0, locals := 22 }
theorem wd_X10_noPass_1 : Cond.fieldLink RX10 7 "TurnstileBankModel" "row" "[I" ∈ wsX10_noPass := List.mem_of_getElem? (i := 1) (by decide +kernel)
theorem in_X10_noPass_10 : ∀ w ∈ wsX100, w ∈ wsX10_noPass := fun w h => List.mem_cons_of_mem _ (List.mem_append_right _ h)
def w_X10_noPass (a1 : Int32) (u0 : Mm) (Φ : Int32 → Mm → Prop) : Prop := (w_X10_in a1 ((0 : Int32)) (((u0 1 (3 : Int32).toNatClampNeg) - (1 : Int32))) u0 (fun r2 u1 => (if r2 = 0 then (Φ (1 : Int32) u1) else (Φ (0 : Int32) u1))))
set_option maxHeartbeats 4000000 in
set_option maxRecDepth 100000 in
theorem t_X10_noPass_0 {p : Program} {l : Launch} {e : Env} {s : State} {m : MethodId} {args : Array Value} {below : List Frame} {meth : Method} {c : Code} {D : va_G} {cA : Nat → ClassId} {o : Nat}  {Φ : Int32 → Mm → Prop} (C : Cx p m meth c s args cX10_noPass 2 wsX10_noPass RX10 (some .boolean) D (tysL cA)) : ∀ (a1 : Int32) (u0 : Mm), ∀ (H : Heap) (locs : List Loc) (ls : Array Slot), Hp 6 o D (EM cA o u0) s H locs → lv_has ls 2 [(0, .ref (o + 0)), (1, .int a1)] → w_X10_noPass a1 u0 Φ → W p l e rm_X10_noPass s m args below meth c H locs 0 0 (MQ below (Qg vI Φ (fun μ => Wd 6 o D (tysL cA) (EM cA o μ)) (aA o 6)) args s 0 0 (aA o 6)) (F0 m 0 ls []) := by
  intro a1 u0 H locs ls P hl h
  have hx := C.1.1
  have hb := C.1.2.1
  unfold w_X10_noPass at h
  refine lv_iload_n hx hb dX10_noPass_0 rfl (lv_at hl 1 rfl) ?_
  refine lv_iconst (v := 0) hx hb dX10_noPass_1 (by decide) ?_
  refine lv_aload_n hx hb dX10_noPass_2 rfl (lv_at hl 0 rfl) ?_
  refine g_10_0 C P in_X10_noPass_10 wd_X10_noPass_1 dX10_noPass_3 ?_
  refine lv_iconst (v := 3) hx hb dX10_noPass_6 (by decide) ?_
  refine mld_1 C P (by unfold vp_in; decide) dX10_noPass_7 ?_
  refine lv_iconst (v := 1) hx hb dX10_noPass_8 (by decide) ?_
  refine lv_isub hx hb dX10_noPass_9 ?_
  refine r_calli (F := EM cA o) (va_runS (As := [.int a1, .int (0 : Int32), .int ((u0 1 (3 : Int32).toNatClampNeg) - (1 : Int32))]) (rest := []) C.1 (c_X10_in l D cA o _ _ _ u0 _ h) (va_cwS 3 C.1.2.2.2.2 gX10_noPass_X10_in rfl rfl rfl (by decide +kernel) ⟨Nat.le_of_ble_eq_true rfl, Nat.le_of_ble_eq_true rfl⟩) (r_pre C P [.int a1, .int (0 : Int32), .int ((u0 1 (3 : Int32).toNatClampNeg) - (1 : Int32))]) rfl rfl hl.1 rfl (lv_room (Nat.le_of_ble_eq_true rfl)) dX10_noPass_10 ⟨Nat.le_of_ble_eq_true rfl, Nat.le_of_ble_eq_true rfl⟩) P.2 (fun r2 u1 H locs h P => ?_)
  refine lv_if_ne (tgt := 20) hx hb dX10_noPass_13 (by decide) (fun c3 => ?_) (fun c3 => ?_)
  · have h := ite_f h c3
    refine lv_iconst (v := 0) hx hb dX10_noPass_20 (by decide) ?_
    exact r_iretb C P (Or.inl rfl) h dX10_noPass_21
  · have h := ite_t h c3
    refine lv_iconst (v := 1) hx hb dX10_noPass_16 (by decide) ?_
    refine lv_goto (tgt := 21) hx hb dX10_noPass_17 (by decide) ?_
    exact r_iretb C P (Or.inr rfl) h dX10_noPass_21
set_option maxHeartbeats 4000000 in
set_option maxRecDepth 100000 in
theorem c_X10_noPass (l : Launch) (D : va_G) (cA : Nat → ClassId) (o : Nat) (a1 : Int32)  (u0 : Mm) (Φ : Int32 → Mm → Prop) (h : w_X10_noPass a1 u0 Φ) : Met l yX10_noPass wsX10_noPass rm_X10_noPass (va_Pc [.ref (o + 0), .int a1] (Wd 6 o D (tysL cA) (EM cA o u0))) (Qg vI Φ (fun μ => Wd 6 o D (tysL cA) (EM cA o μ)) (aA o 6)) 0 0 (aA o 6) := by
  refine Met.ofW (cc := cX10_noPass) (maxL := 2) (ret := (some .boolean)) (by decide) rfl ?_
  intro p e s m args below meth c s₁ B hml hv
  obtain ⟨rfl, hv⟩ := hv
  have hl := lv_entry ([.ref (o + 0), .int a1]) (n := 2) (Nat.le_of_ble_eq_true rfl)
  rw [lg_entry_eq]
  exact t_X10_noPass_0 ⟨⟨B.exec, B.bytes, hml, findClass_of_methodNamed B.named, atoms_spec (ws := wsX10_noPass) B.pre⟩, B.returns, B.notSynchronized, hv.2⟩ a1 u0 _ _ _ ⟨hv.1, va_S.rf⟩ hl h
abbrev rm_X10_noPool : Room := { frames := 1, cells := 0, slots := 0, locals := 22 }
theorem wd_X10_noPool_1 : Cond.fieldLink RX10 7 "TurnstileBankModel" "row" "[I" ∈ wsX10_noPool := List.mem_of_getElem? (i := 1) (by decide +kernel)
theorem in_X10_noPool_10 : ∀ w ∈ wsX100, w ∈ wsX10_noPool := fun w h => List.mem_cons_of_mem _ (List.mem_append_right _ h)
def w_X10_noPool (a1 : Int32) (u0 : Mm) (Φ : Int32 → Mm → Prop) : Prop := (w_X10_in a1 ((0 : Int32)) (((u0 1 (4 : Int32).toNatClampNeg) - (1 : Int32))) u0 (fun r2 u1 => (if r2 = 0 then (Φ (1 : Int32) u1) else (Φ (0 : Int32) u1))))
set_option maxHeartbeats 4000000 in
set_option maxRecDepth 100000 in
theorem t_X10_noPool_0 {p : Program} {l : Launch} {e : Env} {s : State} {m : MethodId} {args : Array Value} {below : List Frame} {meth : Method} {c : Code} {D : va_G} {cA : Nat → ClassId} {o : Nat}  {Φ : Int32 → Mm → Prop} (C : Cx p m meth c s args cX10_noPool 2 wsX10_noPool RX10 (some .boolean) D (tysL cA)) : ∀ (a1 : Int32) (u0 : Mm), ∀ (H : Heap) (locs : List Loc) (ls : Array Slot), Hp 6 o D (EM cA o u0) s H locs → lv_has ls 2 [(0, .ref (o + 0)), (1, .int a1)] → w_X10_noPool a1 u0 Φ → W p l e rm_X10_noPool s m args below meth c H locs 0 0 (MQ below (Qg vI Φ (fun μ => Wd 6 o D (tysL cA) (EM cA o μ)) (aA o 6)) args s 0 0 (aA o 6)) (F0 m 0 ls []) := by
  intro a1 u0 H locs ls P hl h
  have hx := C.1.1
  have hb := C.1.2.1
  unfold w_X10_noPool at h
  refine lv_iload_n hx hb dX10_noPool_0 rfl (lv_at hl 1 rfl) ?_
  refine lv_iconst (v := 0) hx hb dX10_noPool_1 (by decide) ?_
  refine lv_aload_n hx hb dX10_noPool_2 rfl (lv_at hl 0 rfl) ?_
  refine g_10_0 C P in_X10_noPool_10 wd_X10_noPool_1 dX10_noPool_3 ?_
  refine lv_iconst (v := 4) hx hb dX10_noPool_6 (by decide) ?_
  refine mld_1 C P (by unfold vp_in; decide) dX10_noPool_7 ?_
  refine lv_iconst (v := 1) hx hb dX10_noPool_8 (by decide) ?_
  refine lv_isub hx hb dX10_noPool_9 ?_
  refine r_calli (F := EM cA o) (va_runS (As := [.int a1, .int (0 : Int32), .int ((u0 1 (4 : Int32).toNatClampNeg) - (1 : Int32))]) (rest := []) C.1 (c_X10_in l D cA o _ _ _ u0 _ h) (va_cwS 3 C.1.2.2.2.2 gX10_noPool_X10_in rfl rfl rfl (by decide +kernel) ⟨Nat.le_of_ble_eq_true rfl, Nat.le_of_ble_eq_true rfl⟩) (r_pre C P [.int a1, .int (0 : Int32), .int ((u0 1 (4 : Int32).toNatClampNeg) - (1 : Int32))]) rfl rfl hl.1 rfl (lv_room (Nat.le_of_ble_eq_true rfl)) dX10_noPool_10 ⟨Nat.le_of_ble_eq_true rfl, Nat.le_of_ble_eq_true rfl⟩) P.2 (fun r2 u1 H locs h P => ?_)
  refine lv_if_ne (tgt := 20) hx hb dX10_noPool_13 (by decide) (fun c3 => ?_) (fun c3 => ?_)
  · have h := ite_f h c3
    refine lv_iconst (v := 0) hx hb dX10_noPool_20 (by decide) ?_
    exact r_iretb C P (Or.inl rfl) h dX10_noPool_21
  · have h := ite_t h c3
    refine lv_iconst (v := 1) hx hb dX10_noPool_16 (by decide) ?_
    refine lv_goto (tgt := 21) hx hb dX10_noPool_17 (by decide) ?_
    exact r_iretb C P (Or.inr rfl) h dX10_noPool_21
set_option maxHeartbeats 4000000 in
set_option maxRecDepth 100000 in
theorem c_X10_noPool (l : Launch) (D : va_G) (cA : Nat → ClassId) (o : Nat) (a1 : Int32)  (u0 : Mm) (Φ : Int32 → Mm → Prop) (h : w_X10_noPool a1 u0 Φ) : Met l yX10_noPool wsX10_noPool rm_X10_noPool (va_Pc [.ref (o + 0), .int a1] (Wd 6 o D (tysL cA) (EM cA o u0))) (Qg vI Φ (fun μ => Wd 6 o D (tysL cA) (EM cA o μ)) (aA o 6)) 0 0 (aA o 6) := by
  refine Met.ofW (cc := cX10_noPool) (maxL := 2) (ret := (some .boolean)) (by decide) rfl ?_
  intro p e s m args below meth c s₁ B hml hv
  obtain ⟨rfl, hv⟩ := hv
  have hl := lv_entry ([.ref (o + 0), .int a1]) (n := 2) (Nat.le_of_ble_eq_true rfl)
  rw [lg_entry_eq]
  exact t_X10_noPool_0 ⟨⟨B.exec, B.bytes, hml, findClass_of_methodNamed B.named, atoms_spec (ws := wsX10_noPool) B.pre⟩, B.returns, B.notSynchronized, hv.2⟩ a1 u0 _ _ _ ⟨hv.1, va_S.rf⟩ hl h
