abbrev rm_X10_passed : Room := { frames := 1, cells := 0, slots := 0, locals := 22 }
theorem wd_X10_passed_1 : Cond.fieldLink RX10 7 "TurnstileBankModel" "row" "[I" ∈ wsX10_passed := List.mem_of_getElem? (i := 1) (by decide +kernel)
theorem in_X10_passed_10 : ∀ w ∈ wsX100, w ∈ wsX10_passed := fun w h => List.mem_cons_of_mem _ (List.mem_append_right _ h)
def w_X10_passed_4  (Φ : Int32 → Mm → Prop) : Nat → Int32 → Int32 → Mm → Prop
  | 0, _, _, _ => False
  | n + 1, x1, x2, u0 => (if (u0 1 (1 : Int32).toNatClampNeg) ≤ x2 then (Φ x1 u0) else (w_X10_gateOf x2 ((10 : Int32)) u0 (fun r3 u2 => (w_X10_gateOf x2 ((11 : Int32)) u2 (fun r5 u4 => (w_X10_passed_4 Φ n ((x1 + (r3 + r5))) ((x2 + 1)) u4))))))
set_option maxHeartbeats 4000000 in
set_option maxRecDepth 100000 in
theorem t_X10_passed_4 {p : Program} {l : Launch} {e : Env} {s : State} {m : MethodId} {args : Array Value} {below : List Frame} {meth : Method} {c : Code} {D : va_G} {cA : Nat → ClassId} {o : Nat}  {Φ : Int32 → Mm → Prop} (C : Cx p m meth c s args cX10_passed 3 wsX10_passed RX10 (some .int) D (tysL cA)) : ∀ n : Nat, ∀ (x1 : Int32) (x2 : Int32) (u0 : Mm), ∀ (H : Heap) (locs : List Loc) (ls : Array Slot), Hp 6 o D (EM cA o u0) s H locs → lv_has ls 3 [(0, .ref (o + 0)), (1, .int x1), (2, .int x2)] → w_X10_passed_4 Φ n x1 x2 u0 → W p l e rm_X10_passed s m args below meth c H locs 0 0 (MQ below (Qg vI Φ (fun μ => Wd 6 o D (tysL cA) (EM cA o μ)) (aA o 6)) args s 0 0 (aA o 6)) (F0 m 4 ls []) := by
  intro n
  induction n with
  | zero => intro x1 x2 u0 H locs ls P hl h; exact h.elim
  | succ n ih =>
    intro x1 x2 u0 H locs ls P hl h
    have hx := C.1.1
    have hb := C.1.2.1
    rw [w_X10_passed_4] at h
    refine lv_iload_n hx hb dX10_passed_4 rfl (lv_at hl 2 rfl) ?_
    refine lv_aload_n hx hb dX10_passed_5 rfl (lv_at hl 0 rfl) ?_
    refine g_10_0 C P in_X10_passed_10 wd_X10_passed_1 dX10_passed_6 ?_
    refine lv_iconst (v := 1) hx hb dX10_passed_9 (by decide) ?_
    refine mld_1 C P (by unfold vp_in; decide) dX10_passed_10 ?_
    refine lv_icmp_ge (tgt := 38) hx hb dX10_passed_11 (by decide) (fun c1 => ?_) (fun c1 => ?_)
    · have h := ite_t h c1
      refine lv_iload_n hx hb dX10_passed_38 rfl (lv_at hl 1 rfl) ?_
      exact r_ireti C P h dX10_passed_39
    · have h := ite_f h c1
      refine lv_iload_n hx hb dX10_passed_14 rfl (lv_at hl 1 rfl) ?_
      refine lv_aload_n hx hb dX10_passed_15 rfl (lv_at hl 0 rfl) ?_
      refine lv_iload_n hx hb dX10_passed_16 rfl (lv_at hl 2 rfl) ?_
      refine lv_bipush (v := 10) hx hb dX10_passed_17 (by decide) ?_
      refine r_calli (F := EM cA o) (va_runV (As := [.int x2, .int (10 : Int32)]) (rest := [.int x1]) C.1 (c_X10_gateOf l D cA o _ _ u0 _ h) (cwV 2 C.1.2.2.2.2 gX10_passed_X10_gateOf rfl rfl rfl (by decide +kernel) ⟨Nat.le_of_ble_eq_true rfl, Nat.le_of_ble_eq_true rfl⟩) (r_preV C P [.int x2, .int (10 : Int32)] (ci := 10) rfl (by decide) EKM_0) rfl rfl hl.1 rfl (lv_room (Nat.le_of_ble_eq_true rfl)) dX10_passed_19 ⟨Nat.le_of_ble_eq_true rfl, Nat.le_of_ble_eq_true rfl⟩) P.2 (fun r3 u2 H locs h P => ?_)
      refine lv_aload_n hx hb dX10_passed_22 rfl (lv_at hl 0 rfl) ?_
      refine lv_iload_n hx hb dX10_passed_23 rfl (lv_at hl 2 rfl) ?_
      refine lv_bipush (v := 11) hx hb dX10_passed_24 (by decide) ?_
      refine r_calli (F := EM cA o) (va_runV (As := [.int x2, .int (11 : Int32)]) (rest := [.int r3, .int x1]) C.1 (c_X10_gateOf l D cA o _ _ u2 _ h) (cwV 2 C.1.2.2.2.2 gX10_passed_X10_gateOf rfl rfl rfl (by decide +kernel) ⟨Nat.le_of_ble_eq_true rfl, Nat.le_of_ble_eq_true rfl⟩) (r_preV C P [.int x2, .int (11 : Int32)] (ci := 10) rfl (by decide) EKM_0) rfl rfl hl.1 rfl (lv_room (Nat.le_of_ble_eq_true rfl)) dX10_passed_26 ⟨Nat.le_of_ble_eq_true rfl, Nat.le_of_ble_eq_true rfl⟩) P.2 (fun r5 u4 H locs h P => ?_)
      refine lv_iadd hx hb dX10_passed_29 ?_
      refine lv_iadd hx hb dX10_passed_30 ?_
      refine lv_istore_n (lv' := [(1, .int (x1 + (r3 + r5))), (0, .ref (o + 0)), (2, .int x2)]) hx hb dX10_passed_31 rfl hl (by decide) rfl (fun ls hl => ?_)
      refine lv_iinc (v := (x2 + 1)) (lv' := [(2, .int (x2 + 1)), (1, .int (x1 + (r3 + r5))), (0, .ref (o + 0))]) hx hb dX10_passed_32 hl (k := 2) rfl rfl (by decide) rfl (fun ls hl => ?_)
      refine lv_goto (tgt := 4) hx hb dX10_passed_35 (by decide) ?_
      exact ih _ _ u4 _ _ _ P (lv_sub hl [2, 1, 0] rfl) h
def w_X10_passed  (u0 : Mm) (Φ : Int32 → Mm → Prop) : Prop := (∃ n4 : Nat, w_X10_passed_4 Φ n4 ((0 : Int32)) ((0 : Int32)) u0)
set_option maxHeartbeats 4000000 in
set_option maxRecDepth 100000 in
theorem t_X10_passed_0 {p : Program} {l : Launch} {e : Env} {s : State} {m : MethodId} {args : Array Value} {below : List Frame} {meth : Method} {c : Code} {D : va_G} {cA : Nat → ClassId} {o : Nat}  {Φ : Int32 → Mm → Prop} (C : Cx p m meth c s args cX10_passed 3 wsX10_passed RX10 (some .int) D (tysL cA)) : ∀  (u0 : Mm), ∀ (H : Heap) (locs : List Loc) (ls : Array Slot), Hp 6 o D (EM cA o u0) s H locs → lv_has ls 3 [(0, .ref (o + 0))] → w_X10_passed u0 Φ → W p l e rm_X10_passed s m args below meth c H locs 0 0 (MQ below (Qg vI Φ (fun μ => Wd 6 o D (tysL cA) (EM cA o μ)) (aA o 6)) args s 0 0 (aA o 6)) (F0 m 0 ls []) := by
  intro u0 H locs ls P hl h
  have hx := C.1.1
  have hb := C.1.2.1
  unfold w_X10_passed at h
  refine lv_iconst (v := 0) hx hb dX10_passed_0 (by decide) ?_
  refine lv_istore_n (lv' := [(1, .int (0 : Int32)), (0, .ref (o + 0))]) hx hb dX10_passed_1 rfl hl (by decide) rfl (fun ls hl => ?_)
  refine lv_iconst (v := 0) hx hb dX10_passed_2 (by decide) ?_
  refine lv_istore_n (lv' := [(2, .int (0 : Int32)), (1, .int (0 : Int32)), (0, .ref (o + 0))]) hx hb dX10_passed_3 rfl hl (by decide) rfl (fun ls hl => ?_)
  obtain ⟨n4, h⟩ := h
  exact t_X10_passed_4 C n4 _ _ u0 _ _ _ P (lv_sub hl [2, 1, 0] rfl) h
set_option maxHeartbeats 4000000 in
set_option maxRecDepth 100000 in
theorem c_X10_passed (l : Launch) (D : va_G) (cA : Nat → ClassId) (o : Nat)   (u0 : Mm) (Φ : Int32 → Mm → Prop) (h : w_X10_passed u0 Φ) : Met l yX10_passed wsX10_passed rm_X10_passed (va_Pc [.ref (o + 0)] (Wd 6 o D (tysL cA) (EM cA o u0))) (Qg vI Φ (fun μ => Wd 6 o D (tysL cA) (EM cA o μ)) (aA o 6)) 0 0 (aA o 6) := by
  refine Met.ofW (cc := cX10_passed) (maxL := 3) (ret := (some .int)) (by decide) rfl ?_
  intro p e s m args below meth c s₁ B hml hv
  obtain ⟨rfl, hv⟩ := hv
  have hl := lv_entry ([.ref (o + 0)]) (n := 3) (Nat.le_of_ble_eq_true rfl)
  rw [lg_entry_eq]
  exact t_X10_passed_0 ⟨⟨B.exec, B.bytes, hml, findClass_of_methodNamed B.named, atoms_spec (ws := wsX10_passed) B.pre⟩, B.returns, B.notSynchronized, hv.2⟩ u0 _ _ _ ⟨hv.1, va_S.rf⟩ hl h
abbrev rm_X10_doPass : Room := { frames := 7, cells := 0, slots := 0, locals := 163 }
def w_X10_doPass_21  (Φ : Int32 → Mm → Prop) : Nat → Int32 → Int32 → Int32 → Mm → Prop
  | 0, _, _, _, _ => False
  | n + 1, x1, x2, x3, u0 => (if x1 ≤ x3 then (w_X10_passed u0 (fun r8 u7 => (Φ ((r8 - x2)) u7))) else (w_X10_tick u0 (fun _ u9 => (w_X10_doPass_21 Φ n x1 x2 ((x3 + 1)) u9))))
set_option maxHeartbeats 4000000 in
set_option maxRecDepth 100000 in
theorem t_X10_doPass_21 {p : Program} {l : Launch} {e : Env} {s : State} {m : MethodId} {args : Array Value} {below : List Frame} {meth : Method} {c : Code} {D : va_G} {cA : Nat → ClassId} {o : Nat}  {Φ : Int32 → Mm → Prop} (C : Cx p m meth c s args cX10_doPass 4 wsX10_doPass RX10 (some .int) D (tysL cA)) : ∀ n : Nat, ∀ (x1 : Int32) (x2 : Int32) (x3 : Int32) (u0 : Mm), ∀ (H : Heap) (locs : List Loc) (ls : Array Slot), Hp 6 o D (EM cA o u0) s H locs → lv_has ls 4 [(0, .ref (o + 0)), (1, .int x1), (2, .int x2), (3, .int x3)] → w_X10_doPass_21 Φ n x1 x2 x3 u0 → W p l e rm_X10_doPass s m args below meth c H locs 0 0 (MQ below (Qg vI Φ (fun μ => Wd 6 o D (tysL cA) (EM cA o μ)) (aA o 6)) args s 0 0 (aA o 6)) (F0 m 21 ls []) := by
  intro n
  induction n with
  | zero => intro x1 x2 x3 u0 H locs ls P hl h; exact h.elim
  | succ n ih =>
    intro x1 x2 x3 u0 H locs ls P hl h
    have hx := C.1.1
    have hb := C.1.2.1
    rw [w_X10_doPass_21] at h
    refine lv_iload_n hx hb dX10_doPass_21 rfl (lv_at hl 3 rfl) ?_
    refine lv_iload_n hx hb dX10_doPass_22 rfl (lv_at hl 1 rfl) ?_
    refine lv_icmp_ge (tgt := 36) hx hb dX10_doPass_23 (by decide) (fun c6 => ?_) (fun c6 => ?_)
    · have h := ite_t h c6
      refine lv_aload_n hx hb dX10_doPass_36 rfl (lv_at hl 0 rfl) ?_
      refine r_calli (F := EM cA o) (va_runV (As := []) (rest := []) C.1 (c_X10_passed l D cA o u0 _ h) (cwV 0 C.1.2.2.2.2 gX10_doPass_X10_passed rfl rfl rfl (by decide +kernel) ⟨Nat.le_of_ble_eq_true rfl, Nat.le_of_ble_eq_true rfl⟩) (r_preV C P [] (ci := 10) rfl (by decide) EKM_0) rfl rfl hl.1 rfl (lv_room (Nat.le_of_ble_eq_true rfl)) dX10_doPass_37 ⟨Nat.le_of_ble_eq_true rfl, Nat.le_of_ble_eq_true rfl⟩) P.2 (fun r8 u7 H locs h P => ?_)
      refine lv_iload_n hx hb dX10_doPass_40 rfl (lv_at hl 2 rfl) ?_
      refine lv_isub hx hb dX10_doPass_41 ?_
      exact r_ireti C P h dX10_doPass_42
    · have h := ite_f h c6
      refine lv_aload_n hx hb dX10_doPass_26 rfl (lv_at hl 0 rfl) ?_
      refine r_callv (F := EM cA o) (va_runV (As := []) (rest := []) C.1 (c_X10_tick l D cA o u0 _ h) (cwV 0 C.1.2.2.2.2 gX10_doPass_X10_tick rfl rfl rfl (by decide +kernel) ⟨Nat.le_of_ble_eq_true rfl, Nat.le_of_ble_eq_true rfl⟩) (r_preV C P [] (ci := 10) rfl (by decide) EKM_0) rfl rfl hl.1 rfl (lv_room (Nat.le_of_ble_eq_true rfl)) dX10_doPass_27 ⟨Nat.le_of_ble_eq_true rfl, Nat.le_of_ble_eq_true rfl⟩) P.2 (fun u9 H locs h P => ?_)
      refine lv_iinc (v := (x3 + 1)) (lv' := [(3, .int (x3 + 1)), (0, .ref (o + 0)), (1, .int x1), (2, .int x2)]) hx hb dX10_doPass_30 hl (k := 3) rfl rfl (by decide) rfl (fun ls hl => ?_)
      refine lv_goto (tgt := 21) hx hb dX10_doPass_33 (by decide) ?_
      exact ih _ _ _ u9 _ _ _ P (lv_sub hl [1, 2, 3, 0] rfl) h
def w_X10_doPass (a1 : Int32) (u0 : Mm) (Φ : Int32 → Mm → Prop) : Prop := (w_X10_in a1 ((1 : Int32)) ((200 : Int32)) u0 (fun r2 u1 => (if r2 = 0 then (Φ ((-2 : Int32)) u1) else (w_X10_passed u1 (fun r5 u4 => (∃ n21 : Nat, w_X10_doPass_21 Φ n21 a1 r5 ((0 : Int32)) u4))))))
set_option maxHeartbeats 4000000 in
set_option maxRecDepth 100000 in
theorem t_X10_doPass_0 {p : Program} {l : Launch} {e : Env} {s : State} {m : MethodId} {args : Array Value} {below : List Frame} {meth : Method} {c : Code} {D : va_G} {cA : Nat → ClassId} {o : Nat}  {Φ : Int32 → Mm → Prop} (C : Cx p m meth c s args cX10_doPass 4 wsX10_doPass RX10 (some .int) D (tysL cA)) : ∀ (a1 : Int32) (u0 : Mm), ∀ (H : Heap) (locs : List Loc) (ls : Array Slot), Hp 6 o D (EM cA o u0) s H locs → lv_has ls 4 [(0, .ref (o + 0)), (1, .int a1)] → w_X10_doPass a1 u0 Φ → W p l e rm_X10_doPass s m args below meth c H locs 0 0 (MQ below (Qg vI Φ (fun μ => Wd 6 o D (tysL cA) (EM cA o μ)) (aA o 6)) args s 0 0 (aA o 6)) (F0 m 0 ls []) := by
  intro a1 u0 H locs ls P hl h
  have hx := C.1.1
  have hb := C.1.2.1
  unfold w_X10_doPass at h
  refine lv_iload_n hx hb dX10_doPass_0 rfl (lv_at hl 1 rfl) ?_
  refine lv_iconst (v := 1) hx hb dX10_doPass_1 (by decide) ?_
  refine lv_sipush (v := 200) hx hb dX10_doPass_2 (by decide) ?_
  refine r_calli (F := EM cA o) (va_runS (As := [.int a1, .int (1 : Int32), .int (200 : Int32)]) (rest := []) C.1 (c_X10_in l D cA o _ _ _ u0 _ h) (va_cwS 3 C.1.2.2.2.2 gX10_doPass_X10_in rfl rfl rfl (by decide +kernel) ⟨Nat.le_of_ble_eq_true rfl, Nat.le_of_ble_eq_true rfl⟩) (r_pre C P [.int a1, .int (1 : Int32), .int (200 : Int32)]) rfl rfl hl.1 rfl (lv_room (Nat.le_of_ble_eq_true rfl)) dX10_doPass_5 ⟨Nat.le_of_ble_eq_true rfl, Nat.le_of_ble_eq_true rfl⟩) P.2 (fun r2 u1 H locs h P => ?_)
  refine lv_if_ne (tgt := 14) hx hb dX10_doPass_8 (by decide) (fun c3 => ?_) (fun c3 => ?_)
  · have h := ite_f h c3
    refine lv_aload_n hx hb dX10_doPass_14 rfl (lv_at hl 0 rfl) ?_
    refine r_calli (F := EM cA o) (va_runV (As := []) (rest := []) C.1 (c_X10_passed l D cA o u1 _ h) (cwV 0 C.1.2.2.2.2 gX10_doPass_X10_passed rfl rfl rfl (by decide +kernel) ⟨Nat.le_of_ble_eq_true rfl, Nat.le_of_ble_eq_true rfl⟩) (r_preV C P [] (ci := 10) rfl (by decide) EKM_0) rfl rfl hl.1 rfl (lv_room (Nat.le_of_ble_eq_true rfl)) dX10_doPass_15 ⟨Nat.le_of_ble_eq_true rfl, Nat.le_of_ble_eq_true rfl⟩) P.2 (fun r5 u4 H locs h P => ?_)
    refine lv_istore_n (lv' := [(2, .int r5), (0, .ref (o + 0)), (1, .int a1)]) hx hb dX10_doPass_18 rfl hl (by decide) rfl (fun ls hl => ?_)
    refine lv_iconst (v := 0) hx hb dX10_doPass_19 (by decide) ?_
    refine lv_istore_n (lv' := [(3, .int (0 : Int32)), (2, .int r5), (0, .ref (o + 0)), (1, .int a1)]) hx hb dX10_doPass_20 rfl hl (by decide) rfl (fun ls hl => ?_)
    obtain ⟨n21, h⟩ := h
    exact t_X10_doPass_21 C n21 _ _ _ u4 _ _ _ P (lv_sub hl [2, 3, 1, 0] rfl) h
  · have h := ite_t h c3
    refine lv_bipush (v := -2) hx hb dX10_doPass_11 (by decide) ?_
    exact r_ireti C P h dX10_doPass_13
set_option maxHeartbeats 4000000 in
set_option maxRecDepth 100000 in
theorem c_X10_doPass (l : Launch) (D : va_G) (cA : Nat → ClassId) (o : Nat) (a1 : Int32)  (u0 : Mm) (Φ : Int32 → Mm → Prop) (h : w_X10_doPass a1 u0 Φ) : Met l yX10_doPass wsX10_doPass rm_X10_doPass (va_Pc [.ref (o + 0), .int a1] (Wd 6 o D (tysL cA) (EM cA o u0))) (Qg vI Φ (fun μ => Wd 6 o D (tysL cA) (EM cA o μ)) (aA o 6)) 0 0 (aA o 6) := by
  refine Met.ofW (cc := cX10_doPass) (maxL := 4) (ret := (some .int)) (by decide) rfl ?_
  intro p e s m args below meth c s₁ B hml hv
  obtain ⟨rfl, hv⟩ := hv
  have hl := lv_entry ([.ref (o + 0), .int a1]) (n := 4) (Nat.le_of_ble_eq_true rfl)
  rw [lg_entry_eq]
  exact t_X10_doPass_0 ⟨⟨B.exec, B.bytes, hml, findClass_of_methodNamed B.named, atoms_spec (ws := wsX10_doPass) B.pre⟩, B.returns, B.notSynchronized, hv.2⟩ a1 u0 _ _ _ ⟨hv.1, va_S.rf⟩ hl h
abbrev rm_X10_pass : Room := { frames := 8, cells := 0, slots := 0, locals := 186 }
def w_X10_pass (a1 : Int32) (u0 : Mm) (Φ : Int32 → Mm → Prop) : Prop := (w_X10_begin u0 (fun _ u1 => (w_X10_doPass a1 u1 (fun r4 u3 => (w_X10_done r4 u3 (fun r6 u5 => (Φ r6 u5)))))))
set_option maxHeartbeats 4000000 in
set_option maxRecDepth 100000 in
theorem t_X10_pass_0 {p : Program} {l : Launch} {e : Env} {s : State} {m : MethodId} {args : Array Value} {below : List Frame} {meth : Method} {c : Code} {D : va_G} {cA : Nat → ClassId} {o : Nat}  {Φ : Int32 → Mm → Prop} (C : Cx p m meth c s args cX10_pass 2 wsX10_pass RX10 (some .int) D (tysL cA)) : ∀ (a1 : Int32) (u0 : Mm), ∀ (H : Heap) (locs : List Loc) (ls : Array Slot), Hp 6 o D (EM cA o u0) s H locs → lv_has ls 2 [(0, .ref (o + 0)), (1, .int a1)] → w_X10_pass a1 u0 Φ → W p l e rm_X10_pass s m args below meth c H locs 0 0 (MQ below (Qg vI Φ (fun μ => Wd 6 o D (tysL cA) (EM cA o μ)) (aA o 6)) args s 0 0 (aA o 6)) (F0 m 0 ls []) := by
  intro a1 u0 H locs ls P hl h
  have hx := C.1.1
  have hb := C.1.2.1
  unfold w_X10_pass at h
  refine lv_aload_n hx hb dX10_pass_0 rfl (lv_at hl 0 rfl) ?_
  refine r_callv (F := EM cA o) (va_runV (As := []) (rest := []) C.1 (c_X10_begin l D cA o u0 _ h) (cwV 0 C.1.2.2.2.2 gX10_pass_X10_begin rfl rfl rfl (by decide +kernel) ⟨Nat.le_of_ble_eq_true rfl, Nat.le_of_ble_eq_true rfl⟩) (r_preV C P [] (ci := 10) rfl (by decide) EKM_0) rfl rfl hl.1 rfl (lv_room (Nat.le_of_ble_eq_true rfl)) dX10_pass_1 ⟨Nat.le_of_ble_eq_true rfl, Nat.le_of_ble_eq_true rfl⟩) P.2 (fun u1 H locs h P => ?_)
  refine lv_aload_n hx hb dX10_pass_4 rfl (lv_at hl 0 rfl) ?_
  refine lv_aload_n hx hb dX10_pass_5 rfl (lv_at hl 0 rfl) ?_
  refine lv_iload_n hx hb dX10_pass_6 rfl (lv_at hl 1 rfl) ?_
  refine r_calli (F := EM cA o) (va_runV (As := [.int a1]) (rest := [.ref (o + 0)]) C.1 (c_X10_doPass l D cA o _ u1 _ h) (cwV 1 C.1.2.2.2.2 gX10_pass_X10_doPass rfl rfl rfl (by decide +kernel) ⟨Nat.le_of_ble_eq_true rfl, Nat.le_of_ble_eq_true rfl⟩) (r_preV C P [.int a1] (ci := 10) rfl (by decide) EKM_0) rfl rfl hl.1 rfl (lv_room (Nat.le_of_ble_eq_true rfl)) dX10_pass_7 ⟨Nat.le_of_ble_eq_true rfl, Nat.le_of_ble_eq_true rfl⟩) P.2 (fun r4 u3 H locs h P => ?_)
  refine r_calli (F := EM cA o) (va_runV (As := [.int r4]) (rest := []) C.1 (c_X10_done l D cA o _ u3 _ h) (cwV 1 C.1.2.2.2.2 gX10_pass_X10_done rfl rfl rfl (by decide +kernel) ⟨Nat.le_of_ble_eq_true rfl, Nat.le_of_ble_eq_true rfl⟩) (r_preV C P [.int r4] (ci := 10) rfl (by decide) EKM_0) rfl rfl hl.1 rfl (lv_room (Nat.le_of_ble_eq_true rfl)) dX10_pass_10 ⟨Nat.le_of_ble_eq_true rfl, Nat.le_of_ble_eq_true rfl⟩) P.2 (fun r6 u5 H locs h P => ?_)
  exact r_ireti C P h dX10_pass_13
set_option maxHeartbeats 4000000 in
set_option maxRecDepth 100000 in
theorem c_X10_pass (l : Launch) (D : va_G) (cA : Nat → ClassId) (o : Nat) (a1 : Int32)  (u0 : Mm) (Φ : Int32 → Mm → Prop) (h : w_X10_pass a1 u0 Φ) : Met l yX10_pass wsX10_pass rm_X10_pass (va_Pc [.ref (o + 0), .int a1] (Wd 6 o D (tysL cA) (EM cA o u0))) (Qg vI Φ (fun μ => Wd 6 o D (tysL cA) (EM cA o μ)) (aA o 6)) 0 0 (aA o 6) := by
  refine Met.ofW (cc := cX10_pass) (maxL := 2) (ret := (some .int)) (by decide) rfl ?_
  intro p e s m args below meth c s₁ B hml hv
  obtain ⟨rfl, hv⟩ := hv
  have hl := lv_entry ([.ref (o + 0), .int a1]) (n := 2) (Nat.le_of_ble_eq_true rfl)
  rw [lg_entry_eq]
  exact t_X10_pass_0 ⟨⟨B.exec, B.bytes, hml, findClass_of_methodNamed B.named, atoms_spec (ws := wsX10_pass) B.pre⟩, B.returns, B.notSynchronized, hv.2⟩ a1 u0 _ _ _ ⟨hv.1, va_S.rf⟩ hl h
abbrev rm_X10_doPinch : Room := { frames := 2, cells := 0, slots := 0, locals := 43 }
def w_X10_doPinch (a1 : Int32) (u0 : Mm) (Φ : Int32 → Mm → Prop) : Prop := (w_X10_noGate a1 u0 (fun r2 u1 => (if r2 = 0 then (w_X10_gateOf a1 ((4 : Int32)) u1 (fun r5 u4 => (if r5 = (5 : Int32) then (Φ ((-4 : Int32)) u4) else (w_X10_gateOf a1 ((9 : Int32)) u4 (fun r8 u7 => (if r8 = (1 : Int32) then (Φ ((-5 : Int32)) u7) else (w_X10_putGate a1 ((9 : Int32)) ((1 : Int32)) u7 (fun _ u10 => (w_X10_gateOf a1 ((4 : Int32)) u10 (fun r13 u12 => (if r13 = (3 : Int32) then (Φ ((1 : Int32)) u12) else (Φ ((0 : Int32)) u12)))))))))))) else (Φ ((-1 : Int32)) u1))))
set_option maxHeartbeats 4000000 in
set_option maxRecDepth 100000 in
theorem t_X10_doPinch_0 {p : Program} {l : Launch} {e : Env} {s : State} {m : MethodId} {args : Array Value} {below : List Frame} {meth : Method} {c : Code} {D : va_G} {cA : Nat → ClassId} {o : Nat}  {Φ : Int32 → Mm → Prop} (C : Cx p m meth c s args cX10_doPinch 2 wsX10_doPinch RX10 (some .int) D (tysL cA)) : ∀ (a1 : Int32) (u0 : Mm), ∀ (H : Heap) (locs : List Loc) (ls : Array Slot), Hp 6 o D (EM cA o u0) s H locs → lv_has ls 2 [(0, .ref (o + 0)), (1, .int a1)] → w_X10_doPinch a1 u0 Φ → W p l e rm_X10_doPinch s m args below meth c H locs 0 0 (MQ below (Qg vI Φ (fun μ => Wd 6 o D (tysL cA) (EM cA o μ)) (aA o 6)) args s 0 0 (aA o 6)) (F0 m 0 ls []) := by
  intro a1 u0 H locs ls P hl h
  have hx := C.1.1
  have hb := C.1.2.1
  unfold w_X10_doPinch at h
  refine lv_aload_n hx hb dX10_doPinch_0 rfl (lv_at hl 0 rfl) ?_
  refine lv_iload_n hx hb dX10_doPinch_1 rfl (lv_at hl 1 rfl) ?_
  refine r_calli (F := EM cA o) (va_runV (As := [.int a1]) (rest := []) C.1 (c_X10_noGate l D cA o _ u0 _ h) (cwV 1 C.1.2.2.2.2 gX10_doPinch_X10_noGate rfl rfl rfl (by decide +kernel) ⟨Nat.le_of_ble_eq_true rfl, Nat.le_of_ble_eq_true rfl⟩) (r_preV C P [.int a1] (ci := 10) rfl (by decide) EKM_0) rfl rfl hl.1 rfl (lv_room (Nat.le_of_ble_eq_true rfl)) dX10_doPinch_2 ⟨Nat.le_of_ble_eq_true rfl, Nat.le_of_ble_eq_true rfl⟩) P.2 (fun r2 u1 H locs h P => ?_)
  refine lv_if_eq (tgt := 10) hx hb dX10_doPinch_5 (by decide) (fun c3 => ?_) (fun c3 => ?_)
  · have h := ite_t h c3
    refine lv_aload_n hx hb dX10_doPinch_10 rfl (lv_at hl 0 rfl) ?_
    refine lv_iload_n hx hb dX10_doPinch_11 rfl (lv_at hl 1 rfl) ?_
    refine lv_iconst (v := 4) hx hb dX10_doPinch_12 (by decide) ?_
    refine r_calli (F := EM cA o) (va_runV (As := [.int a1, .int (4 : Int32)]) (rest := []) C.1 (c_X10_gateOf l D cA o _ _ u1 _ h) (cwV 2 C.1.2.2.2.2 gX10_doPinch_X10_gateOf rfl rfl rfl (by decide +kernel) ⟨Nat.le_of_ble_eq_true rfl, Nat.le_of_ble_eq_true rfl⟩) (r_preV C P [.int a1, .int (4 : Int32)] (ci := 10) rfl (by decide) EKM_0) rfl rfl hl.1 rfl (lv_room (Nat.le_of_ble_eq_true rfl)) dX10_doPinch_13 ⟨Nat.le_of_ble_eq_true rfl, Nat.le_of_ble_eq_true rfl⟩) P.2 (fun r5 u4 H locs h P => ?_)
    refine lv_iconst (v := 5) hx hb dX10_doPinch_16 (by decide) ?_
    refine lv_icmp_ne (tgt := 23) hx hb dX10_doPinch_17 (by decide) (fun c6 => ?_) (fun c6 => ?_)
    · have h := ite_f h c6
      refine lv_aload_n hx hb dX10_doPinch_23 rfl (lv_at hl 0 rfl) ?_
      refine lv_iload_n hx hb dX10_doPinch_24 rfl (lv_at hl 1 rfl) ?_
      refine lv_bipush (v := 9) hx hb dX10_doPinch_25 (by decide) ?_
      refine r_calli (F := EM cA o) (va_runV (As := [.int a1, .int (9 : Int32)]) (rest := []) C.1 (c_X10_gateOf l D cA o _ _ u4 _ h) (cwV 2 C.1.2.2.2.2 gX10_doPinch_X10_gateOf rfl rfl rfl (by decide +kernel) ⟨Nat.le_of_ble_eq_true rfl, Nat.le_of_ble_eq_true rfl⟩) (r_preV C P [.int a1, .int (9 : Int32)] (ci := 10) rfl (by decide) EKM_0) rfl rfl hl.1 rfl (lv_room (Nat.le_of_ble_eq_true rfl)) dX10_doPinch_27 ⟨Nat.le_of_ble_eq_true rfl, Nat.le_of_ble_eq_true rfl⟩) P.2 (fun r8 u7 H locs h P => ?_)
      refine lv_iconst (v := 1) hx hb dX10_doPinch_30 (by decide) ?_
      refine lv_icmp_ne (tgt := 37) hx hb dX10_doPinch_31 (by decide) (fun c9 => ?_) (fun c9 => ?_)
      · have h := ite_f h c9
        refine lv_aload_n hx hb dX10_doPinch_37 rfl (lv_at hl 0 rfl) ?_
        refine lv_iload_n hx hb dX10_doPinch_38 rfl (lv_at hl 1 rfl) ?_
        refine lv_bipush (v := 9) hx hb dX10_doPinch_39 (by decide) ?_
        refine lv_iconst (v := 1) hx hb dX10_doPinch_41 (by decide) ?_
        refine r_callv (F := EM cA o) (va_runV (As := [.int a1, .int (9 : Int32), .int (1 : Int32)]) (rest := []) C.1 (c_X10_putGate l D cA o _ _ _ u7 _ h) (cwV 3 C.1.2.2.2.2 gX10_doPinch_X10_putGate rfl rfl rfl (by decide +kernel) ⟨Nat.le_of_ble_eq_true rfl, Nat.le_of_ble_eq_true rfl⟩) (r_preV C P [.int a1, .int (9 : Int32), .int (1 : Int32)] (ci := 10) rfl (by decide) EKM_0) rfl rfl hl.1 rfl (lv_room (Nat.le_of_ble_eq_true rfl)) dX10_doPinch_42 ⟨Nat.le_of_ble_eq_true rfl, Nat.le_of_ble_eq_true rfl⟩) P.2 (fun u10 H locs h P => ?_)
        refine lv_aload_n hx hb dX10_doPinch_45 rfl (lv_at hl 0 rfl) ?_
        refine lv_iload_n hx hb dX10_doPinch_46 rfl (lv_at hl 1 rfl) ?_
        refine lv_iconst (v := 4) hx hb dX10_doPinch_47 (by decide) ?_
        refine r_calli (F := EM cA o) (va_runV (As := [.int a1, .int (4 : Int32)]) (rest := []) C.1 (c_X10_gateOf l D cA o _ _ u10 _ h) (cwV 2 C.1.2.2.2.2 gX10_doPinch_X10_gateOf rfl rfl rfl (by decide +kernel) ⟨Nat.le_of_ble_eq_true rfl, Nat.le_of_ble_eq_true rfl⟩) (r_preV C P [.int a1, .int (4 : Int32)] (ci := 10) rfl (by decide) EKM_0) rfl rfl hl.1 rfl (lv_room (Nat.le_of_ble_eq_true rfl)) dX10_doPinch_48 ⟨Nat.le_of_ble_eq_true rfl, Nat.le_of_ble_eq_true rfl⟩) P.2 (fun r13 u12 H locs h P => ?_)
        refine lv_iconst (v := 3) hx hb dX10_doPinch_51 (by decide) ?_
        refine lv_icmp_ne (tgt := 59) hx hb dX10_doPinch_52 (by decide) (fun c14 => ?_) (fun c14 => ?_)
        · have h := ite_f h c14
          refine lv_iconst (v := 0) hx hb dX10_doPinch_59 (by decide) ?_
          exact r_ireti C P h dX10_doPinch_60
        · have h := ite_t h c14
          refine lv_iconst (v := 1) hx hb dX10_doPinch_55 (by decide) ?_
          refine lv_goto (tgt := 60) hx hb dX10_doPinch_56 (by decide) ?_
          exact r_ireti C P h dX10_doPinch_60
      · have h := ite_t h c9
        refine lv_bipush (v := -5) hx hb dX10_doPinch_34 (by decide) ?_
        exact r_ireti C P h dX10_doPinch_36
    · have h := ite_t h c6
      refine lv_bipush (v := -4) hx hb dX10_doPinch_20 (by decide) ?_
      exact r_ireti C P h dX10_doPinch_22
  · have h := ite_f h c3
    refine lv_iconst (v := -1) hx hb dX10_doPinch_8 (by decide) ?_
    exact r_ireti C P h dX10_doPinch_9
set_option maxHeartbeats 4000000 in
set_option maxRecDepth 100000 in
theorem c_X10_doPinch (l : Launch) (D : va_G) (cA : Nat → ClassId) (o : Nat) (a1 : Int32)  (u0 : Mm) (Φ : Int32 → Mm → Prop) (h : w_X10_doPinch a1 u0 Φ) : Met l yX10_doPinch wsX10_doPinch rm_X10_doPinch (va_Pc [.ref (o + 0), .int a1] (Wd 6 o D (tysL cA) (EM cA o u0))) (Qg vI Φ (fun μ => Wd 6 o D (tysL cA) (EM cA o μ)) (aA o 6)) 0 0 (aA o 6) := by
  refine Met.ofW (cc := cX10_doPinch) (maxL := 2) (ret := (some .int)) (by decide) rfl ?_
  intro p e s m args below meth c s₁ B hml hv
  obtain ⟨rfl, hv⟩ := hv
  have hl := lv_entry ([.ref (o + 0), .int a1]) (n := 2) (Nat.le_of_ble_eq_true rfl)
  rw [lg_entry_eq]
  exact t_X10_doPinch_0 ⟨⟨B.exec, B.bytes, hml, findClass_of_methodNamed B.named, atoms_spec (ws := wsX10_doPinch) B.pre⟩, B.returns, B.notSynchronized, hv.2⟩ a1 u0 _ _ _ ⟨hv.1, va_S.rf⟩ hl h
abbrev rm_X10_pinch : Room := { frames := 3, cells := 0, slots := 0, locals := 64 }
def w_X10_pinch (a1 : Int32) (u0 : Mm) (Φ : Int32 → Mm → Prop) : Prop := (w_X10_begin u0 (fun _ u1 => (w_X10_doPinch a1 u1 (fun r4 u3 => (w_X10_done r4 u3 (fun r6 u5 => (Φ r6 u5)))))))
set_option maxHeartbeats 4000000 in
set_option maxRecDepth 100000 in
theorem t_X10_pinch_0 {p : Program} {l : Launch} {e : Env} {s : State} {m : MethodId} {args : Array Value} {below : List Frame} {meth : Method} {c : Code} {D : va_G} {cA : Nat → ClassId} {o : Nat}  {Φ : Int32 → Mm → Prop} (C : Cx p m meth c s args cX10_pinch 2 wsX10_pinch RX10 (some .int) D (tysL cA)) : ∀ (a1 : Int32) (u0 : Mm), ∀ (H : Heap) (locs : List Loc) (ls : Array Slot), Hp 6 o D (EM cA o u0) s H locs → lv_has ls 2 [(0, .ref (o + 0)), (1, .int a1)] → w_X10_pinch a1 u0 Φ → W p l e rm_X10_pinch s m args below meth c H locs 0 0 (MQ below (Qg vI Φ (fun μ => Wd 6 o D (tysL cA) (EM cA o μ)) (aA o 6)) args s 0 0 (aA o 6)) (F0 m 0 ls []) := by
  intro a1 u0 H locs ls P hl h
  have hx := C.1.1
  have hb := C.1.2.1
  unfold w_X10_pinch at h
  refine lv_aload_n hx hb dX10_pinch_0 rfl (lv_at hl 0 rfl) ?_
  refine r_callv (F := EM cA o) (va_runV (As := []) (rest := []) C.1 (c_X10_begin l D cA o u0 _ h) (cwV 0 C.1.2.2.2.2 gX10_pinch_X10_begin rfl rfl rfl (by decide +kernel) ⟨Nat.le_of_ble_eq_true rfl, Nat.le_of_ble_eq_true rfl⟩) (r_preV C P [] (ci := 10) rfl (by decide) EKM_0) rfl rfl hl.1 rfl (lv_room (Nat.le_of_ble_eq_true rfl)) dX10_pinch_1 ⟨Nat.le_of_ble_eq_true rfl, Nat.le_of_ble_eq_true rfl⟩) P.2 (fun u1 H locs h P => ?_)
  refine lv_aload_n hx hb dX10_pinch_4 rfl (lv_at hl 0 rfl) ?_
  refine lv_aload_n hx hb dX10_pinch_5 rfl (lv_at hl 0 rfl) ?_
  refine lv_iload_n hx hb dX10_pinch_6 rfl (lv_at hl 1 rfl) ?_
  refine r_calli (F := EM cA o) (va_runV (As := [.int a1]) (rest := [.ref (o + 0)]) C.1 (c_X10_doPinch l D cA o _ u1 _ h) (cwV 1 C.1.2.2.2.2 gX10_pinch_X10_doPinch rfl rfl rfl (by decide +kernel) ⟨Nat.le_of_ble_eq_true rfl, Nat.le_of_ble_eq_true rfl⟩) (r_preV C P [.int a1] (ci := 10) rfl (by decide) EKM_0) rfl rfl hl.1 rfl (lv_room (Nat.le_of_ble_eq_true rfl)) dX10_pinch_7 ⟨Nat.le_of_ble_eq_true rfl, Nat.le_of_ble_eq_true rfl⟩) P.2 (fun r4 u3 H locs h P => ?_)
  refine r_calli (F := EM cA o) (va_runV (As := [.int r4]) (rest := []) C.1 (c_X10_done l D cA o _ u3 _ h) (cwV 1 C.1.2.2.2.2 gX10_pinch_X10_done rfl rfl rfl (by decide +kernel) ⟨Nat.le_of_ble_eq_true rfl, Nat.le_of_ble_eq_true rfl⟩) (r_preV C P [.int r4] (ci := 10) rfl (by decide) EKM_0) rfl rfl hl.1 rfl (lv_room (Nat.le_of_ble_eq_true rfl)) dX10_pinch_10 ⟨Nat.le_of_ble_eq_true rfl, Nat.le_of_ble_eq_true rfl⟩) P.2 (fun r6 u5 H locs h P => ?_)
  exact r_ireti C P h dX10_pinch_13
set_option maxHeartbeats 4000000 in
set_option maxRecDepth 100000 in
theorem c_X10_pinch (l : Launch) (D : va_G) (cA : Nat → ClassId) (o : Nat) (a1 : Int32)  (u0 : Mm) (Φ : Int32 → Mm → Prop) (h : w_X10_pinch a1 u0 Φ) : Met l yX10_pinch wsX10_pinch rm_X10_pinch (va_Pc [.ref (o + 0), .int a1] (Wd 6 o D (tysL cA) (EM cA o u0))) (Qg vI Φ (fun μ => Wd 6 o D (tysL cA) (EM cA o μ)) (aA o 6)) 0 0 (aA o 6) := by
  refine Met.ofW (cc := cX10_pinch) (maxL := 2) (ret := (some .int)) (by decide) rfl ?_
  intro p e s m args below meth c s₁ B hml hv
  obtain ⟨rfl, hv⟩ := hv
  have hl := lv_entry ([.ref (o + 0), .int a1]) (n := 2) (Nat.le_of_ble_eq_true rfl)
  rw [lg_entry_eq]
  exact t_X10_pinch_0 ⟨⟨B.exec, B.bytes, hml, findClass_of_methodNamed B.named, atoms_spec (ws := wsX10_pinch) B.pre⟩, B.returns, B.notSynchronized, hv.2⟩ a1 u0 _ _ _ ⟨hv.1, va_S.rf⟩ hl h
abbrev rm_X10_fail : Room := { frames := 3, cells := 0, slots := 0, locals := 69 }
def w_X10_fail (a1 : Int32) (u0 : Mm) (Φ : Int32 → Mm → Prop) : Prop := (w_X10_noGate a1 u0 (fun r2 u1 => (if r2 = 0 then (w_X10_gateOf a1 ((4 : Int32)) u1 (fun r5 u4 => (if r5 = (5 : Int32) then (Φ ((-4 : Int32)) u4) else (w_X10_begin u4 (fun _ u7 => (w_X10_gateOf a1 ((6 : Int32)) u7 (fun r10 u9 => (w_X10_goOut a1 u9 (fun _ u11 => (w_X10_recorded r10 u11 (fun r14 u13 => (Φ r14 u13)))))))))))) else (Φ ((-1 : Int32)) u1))))
set_option maxHeartbeats 4000000 in
set_option maxRecDepth 100000 in
theorem t_X10_fail_0 {p : Program} {l : Launch} {e : Env} {s : State} {m : MethodId} {args : Array Value} {below : List Frame} {meth : Method} {c : Code} {D : va_G} {cA : Nat → ClassId} {o : Nat}  {Φ : Int32 → Mm → Prop} (C : Cx p m meth c s args cX10_fail 3 wsX10_fail RX10 (some .int) D (tysL cA)) : ∀ (a1 : Int32) (u0 : Mm), ∀ (H : Heap) (locs : List Loc) (ls : Array Slot), Hp 6 o D (EM cA o u0) s H locs → lv_has ls 3 [(0, .ref (o + 0)), (1, .int a1)] → w_X10_fail a1 u0 Φ → W p l e rm_X10_fail s m args below meth c H locs 0 0 (MQ below (Qg vI Φ (fun μ => Wd 6 o D (tysL cA) (EM cA o μ)) (aA o 6)) args s 0 0 (aA o 6)) (F0 m 0 ls []) := by
  intro a1 u0 H locs ls P hl h
  have hx := C.1.1
  have hb := C.1.2.1
  unfold w_X10_fail at h
  refine lv_aload_n hx hb dX10_fail_0 rfl (lv_at hl 0 rfl) ?_
  refine lv_iload_n hx hb dX10_fail_1 rfl (lv_at hl 1 rfl) ?_
  refine r_calli (F := EM cA o) (va_runV (As := [.int a1]) (rest := []) C.1 (c_X10_noGate l D cA o _ u0 _ h) (cwV 1 C.1.2.2.2.2 gX10_fail_X10_noGate rfl rfl rfl (by decide +kernel) ⟨Nat.le_of_ble_eq_true rfl, Nat.le_of_ble_eq_true rfl⟩) (r_preV C P [.int a1] (ci := 10) rfl (by decide) EKM_0) rfl rfl hl.1 rfl (lv_room (Nat.le_of_ble_eq_true rfl)) dX10_fail_2 ⟨Nat.le_of_ble_eq_true rfl, Nat.le_of_ble_eq_true rfl⟩) P.2 (fun r2 u1 H locs h P => ?_)
  refine lv_if_eq (tgt := 10) hx hb dX10_fail_5 (by decide) (fun c3 => ?_) (fun c3 => ?_)
  · have h := ite_t h c3
    refine lv_aload_n hx hb dX10_fail_10 rfl (lv_at hl 0 rfl) ?_
    refine lv_iload_n hx hb dX10_fail_11 rfl (lv_at hl 1 rfl) ?_
    refine lv_iconst (v := 4) hx hb dX10_fail_12 (by decide) ?_
    refine r_calli (F := EM cA o) (va_runV (As := [.int a1, .int (4 : Int32)]) (rest := []) C.1 (c_X10_gateOf l D cA o _ _ u1 _ h) (cwV 2 C.1.2.2.2.2 gX10_fail_X10_gateOf rfl rfl rfl (by decide +kernel) ⟨Nat.le_of_ble_eq_true rfl, Nat.le_of_ble_eq_true rfl⟩) (r_preV C P [.int a1, .int (4 : Int32)] (ci := 10) rfl (by decide) EKM_0) rfl rfl hl.1 rfl (lv_room (Nat.le_of_ble_eq_true rfl)) dX10_fail_13 ⟨Nat.le_of_ble_eq_true rfl, Nat.le_of_ble_eq_true rfl⟩) P.2 (fun r5 u4 H locs h P => ?_)
    refine lv_iconst (v := 5) hx hb dX10_fail_16 (by decide) ?_
    refine lv_icmp_ne (tgt := 23) hx hb dX10_fail_17 (by decide) (fun c6 => ?_) (fun c6 => ?_)
    · have h := ite_f h c6
      refine lv_aload_n hx hb dX10_fail_23 rfl (lv_at hl 0 rfl) ?_
      refine r_callv (F := EM cA o) (va_runV (As := []) (rest := []) C.1 (c_X10_begin l D cA o u4 _ h) (cwV 0 C.1.2.2.2.2 gX10_fail_X10_begin rfl rfl rfl (by decide +kernel) ⟨Nat.le_of_ble_eq_true rfl, Nat.le_of_ble_eq_true rfl⟩) (r_preV C P [] (ci := 10) rfl (by decide) EKM_0) rfl rfl hl.1 rfl (lv_room (Nat.le_of_ble_eq_true rfl)) dX10_fail_24 ⟨Nat.le_of_ble_eq_true rfl, Nat.le_of_ble_eq_true rfl⟩) P.2 (fun u7 H locs h P => ?_)
      refine lv_aload_n hx hb dX10_fail_27 rfl (lv_at hl 0 rfl) ?_
      refine lv_iload_n hx hb dX10_fail_28 rfl (lv_at hl 1 rfl) ?_
      refine lv_bipush (v := 6) hx hb dX10_fail_29 (by decide) ?_
      refine r_calli (F := EM cA o) (va_runV (As := [.int a1, .int (6 : Int32)]) (rest := []) C.1 (c_X10_gateOf l D cA o _ _ u7 _ h) (cwV 2 C.1.2.2.2.2 gX10_fail_X10_gateOf rfl rfl rfl (by decide +kernel) ⟨Nat.le_of_ble_eq_true rfl, Nat.le_of_ble_eq_true rfl⟩) (r_preV C P [.int a1, .int (6 : Int32)] (ci := 10) rfl (by decide) EKM_0) rfl rfl hl.1 rfl (lv_room (Nat.le_of_ble_eq_true rfl)) dX10_fail_31 ⟨Nat.le_of_ble_eq_true rfl, Nat.le_of_ble_eq_true rfl⟩) P.2 (fun r10 u9 H locs h P => ?_)
      refine lv_istore_n (lv' := [(2, .int r10), (0, .ref (o + 0)), (1, .int a1)]) hx hb dX10_fail_34 rfl hl (by decide) rfl (fun ls hl => ?_)
      refine lv_aload_n hx hb dX10_fail_35 rfl (lv_at hl 1 rfl) ?_
      refine lv_iload_n hx hb dX10_fail_36 rfl (lv_at hl 2 rfl) ?_
      refine r_callv (F := EM cA o) (va_runV (As := [.int a1]) (rest := []) C.1 (c_X10_goOut l D cA o _ u9 _ h) (cwV 1 C.1.2.2.2.2 gX10_fail_X10_goOut rfl rfl rfl (by decide +kernel) ⟨Nat.le_of_ble_eq_true rfl, Nat.le_of_ble_eq_true rfl⟩) (r_preV C P [.int a1] (ci := 10) rfl (by decide) EKM_0) rfl rfl hl.1 rfl (lv_room (Nat.le_of_ble_eq_true rfl)) dX10_fail_37 ⟨Nat.le_of_ble_eq_true rfl, Nat.le_of_ble_eq_true rfl⟩) P.2 (fun u11 H locs h P => ?_)
      refine lv_aload_n hx hb dX10_fail_40 rfl (lv_at hl 1 rfl) ?_
      refine lv_iload_n hx hb dX10_fail_41 rfl (lv_at hl 0 rfl) ?_
      refine r_calli (F := EM cA o) (va_runV (As := [.int r10]) (rest := []) C.1 (c_X10_recorded l D cA o _ u11 _ h) (cwV 1 C.1.2.2.2.2 gX10_fail_X10_recorded rfl rfl rfl (by decide +kernel) ⟨Nat.le_of_ble_eq_true rfl, Nat.le_of_ble_eq_true rfl⟩) (r_preV C P [.int r10] (ci := 10) rfl (by decide) EKM_0) rfl rfl hl.1 rfl (lv_room (Nat.le_of_ble_eq_true rfl)) dX10_fail_42 ⟨Nat.le_of_ble_eq_true rfl, Nat.le_of_ble_eq_true rfl⟩) P.2 (fun r14 u13 H locs h P => ?_)
      exact r_ireti C P h dX10_fail_45
    · have h := ite_t h c6
      refine lv_bipush (v := -4) hx hb dX10_fail_20 (by decide) ?_
      exact r_ireti C P h dX10_fail_22
  · have h := ite_f h c3
    refine lv_iconst (v := -1) hx hb dX10_fail_8 (by decide) ?_
    exact r_ireti C P h dX10_fail_9
set_option maxHeartbeats 4000000 in
set_option maxRecDepth 100000 in
theorem c_X10_fail (l : Launch) (D : va_G) (cA : Nat → ClassId) (o : Nat) (a1 : Int32)  (u0 : Mm) (Φ : Int32 → Mm → Prop) (h : w_X10_fail a1 u0 Φ) : Met l yX10_fail wsX10_fail rm_X10_fail (va_Pc [.ref (o + 0), .int a1] (Wd 6 o D (tysL cA) (EM cA o u0))) (Qg vI Φ (fun μ => Wd 6 o D (tysL cA) (EM cA o μ)) (aA o 6)) 0 0 (aA o 6) := by
  refine Met.ofW (cc := cX10_fail) (maxL := 3) (ret := (some .int)) (by decide) rfl ?_
  intro p e s m args below meth c s₁ B hml hv
  obtain ⟨rfl, hv⟩ := hv
  have hl := lv_entry ([.ref (o + 0), .int a1]) (n := 3) (Nat.le_of_ble_eq_true rfl)
  rw [lg_entry_eq]
  exact t_X10_fail_0 ⟨⟨B.exec, B.bytes, hml, findClass_of_methodNamed B.named, atoms_spec (ws := wsX10_fail) B.pre⟩, B.returns, B.notSynchronized, hv.2⟩ a1 u0 _ _ _ ⟨hv.1, va_S.rf⟩ hl h
abbrev rm_X10_repair : Room := { frames := 3, cells := 0, slots := 0, locals := 69 }
def w_X10_repair (a1 : Int32) (u0 : Mm) (Φ : Int32 → Mm → Prop) : Prop := (w_X10_noGate a1 u0 (fun r2 u1 => (if r2 = 0 then (w_X10_gateOf a1 ((4 : Int32)) u1 (fun r5 u4 => (if r5 = (5 : Int32) then (w_X10_begin u4 (fun _ u7 => (w_X10_turn a1 ((0 : Int32)) ((0 : Int32)) u7 (fun _ u9 => (w_X10_putGate a1 ((9 : Int32)) ((0 : Int32)) u9 (fun _ u11 => (w_X10_tell a1 ((-5 : Int32)) ((6 : Int32)) u11 (fun _ u13 => (w_X10_queueLength a1 ((0 : Int32)) u13 (fun r16 u15 => (w_X10_queueLength a1 ((1 : Int32)) u15 (fun r18 u17 => (w_X10_done ((r16 + r18)) u17 (fun r20 u19 => (Φ r20 u19))))))))))))))) else (Φ ((-4 : Int32)) u4)))) else (Φ ((-1 : Int32)) u1))))
set_option maxHeartbeats 4000000 in
set_option maxRecDepth 100000 in
theorem t_X10_repair_0 {p : Program} {l : Launch} {e : Env} {s : State} {m : MethodId} {args : Array Value} {below : List Frame} {meth : Method} {c : Code} {D : va_G} {cA : Nat → ClassId} {o : Nat}  {Φ : Int32 → Mm → Prop} (C : Cx p m meth c s args cX10_repair 2 wsX10_repair RX10 (some .int) D (tysL cA)) : ∀ (a1 : Int32) (u0 : Mm), ∀ (H : Heap) (locs : List Loc) (ls : Array Slot), Hp 6 o D (EM cA o u0) s H locs → lv_has ls 2 [(0, .ref (o + 0)), (1, .int a1)] → w_X10_repair a1 u0 Φ → W p l e rm_X10_repair s m args below meth c H locs 0 0 (MQ below (Qg vI Φ (fun μ => Wd 6 o D (tysL cA) (EM cA o μ)) (aA o 6)) args s 0 0 (aA o 6)) (F0 m 0 ls []) := by
  intro a1 u0 H locs ls P hl h
  have hx := C.1.1
  have hb := C.1.2.1
  unfold w_X10_repair at h
  refine lv_aload_n hx hb dX10_repair_0 rfl (lv_at hl 0 rfl) ?_
  refine lv_iload_n hx hb dX10_repair_1 rfl (lv_at hl 1 rfl) ?_
  refine r_calli (F := EM cA o) (va_runV (As := [.int a1]) (rest := []) C.1 (c_X10_noGate l D cA o _ u0 _ h) (cwV 1 C.1.2.2.2.2 gX10_repair_X10_noGate rfl rfl rfl (by decide +kernel) ⟨Nat.le_of_ble_eq_true rfl, Nat.le_of_ble_eq_true rfl⟩) (r_preV C P [.int a1] (ci := 10) rfl (by decide) EKM_0) rfl rfl hl.1 rfl (lv_room (Nat.le_of_ble_eq_true rfl)) dX10_repair_2 ⟨Nat.le_of_ble_eq_true rfl, Nat.le_of_ble_eq_true rfl⟩) P.2 (fun r2 u1 H locs h P => ?_)
  refine lv_if_eq (tgt := 10) hx hb dX10_repair_5 (by decide) (fun c3 => ?_) (fun c3 => ?_)
  · have h := ite_t h c3
    refine lv_aload_n hx hb dX10_repair_10 rfl (lv_at hl 0 rfl) ?_
    refine lv_iload_n hx hb dX10_repair_11 rfl (lv_at hl 1 rfl) ?_
    refine lv_iconst (v := 4) hx hb dX10_repair_12 (by decide) ?_
    refine r_calli (F := EM cA o) (va_runV (As := [.int a1, .int (4 : Int32)]) (rest := []) C.1 (c_X10_gateOf l D cA o _ _ u1 _ h) (cwV 2 C.1.2.2.2.2 gX10_repair_X10_gateOf rfl rfl rfl (by decide +kernel) ⟨Nat.le_of_ble_eq_true rfl, Nat.le_of_ble_eq_true rfl⟩) (r_preV C P [.int a1, .int (4 : Int32)] (ci := 10) rfl (by decide) EKM_0) rfl rfl hl.1 rfl (lv_room (Nat.le_of_ble_eq_true rfl)) dX10_repair_13 ⟨Nat.le_of_ble_eq_true rfl, Nat.le_of_ble_eq_true rfl⟩) P.2 (fun r5 u4 H locs h P => ?_)
    refine lv_iconst (v := 5) hx hb dX10_repair_16 (by decide) ?_
    refine lv_icmp_eq (tgt := 23) hx hb dX10_repair_17 (by decide) (fun c6 => ?_) (fun c6 => ?_)
    · have h := ite_t h c6
      refine lv_aload_n hx hb dX10_repair_23 rfl (lv_at hl 0 rfl) ?_
      refine r_callv (F := EM cA o) (va_runV (As := []) (rest := []) C.1 (c_X10_begin l D cA o u4 _ h) (cwV 0 C.1.2.2.2.2 gX10_repair_X10_begin rfl rfl rfl (by decide +kernel) ⟨Nat.le_of_ble_eq_true rfl, Nat.le_of_ble_eq_true rfl⟩) (r_preV C P [] (ci := 10) rfl (by decide) EKM_0) rfl rfl hl.1 rfl (lv_room (Nat.le_of_ble_eq_true rfl)) dX10_repair_24 ⟨Nat.le_of_ble_eq_true rfl, Nat.le_of_ble_eq_true rfl⟩) P.2 (fun u7 H locs h P => ?_)
      refine lv_aload_n hx hb dX10_repair_27 rfl (lv_at hl 0 rfl) ?_
      refine lv_iload_n hx hb dX10_repair_28 rfl (lv_at hl 1 rfl) ?_
      refine lv_iconst (v := 0) hx hb dX10_repair_29 (by decide) ?_
      refine lv_iconst (v := 0) hx hb dX10_repair_30 (by decide) ?_
      refine r_callv (F := EM cA o) (va_runV (As := [.int a1, .int (0 : Int32), .int (0 : Int32)]) (rest := []) C.1 (c_X10_turn l D cA o _ _ _ u7 _ h) (cwV 3 C.1.2.2.2.2 gX10_repair_X10_turn rfl rfl rfl (by decide +kernel) ⟨Nat.le_of_ble_eq_true rfl, Nat.le_of_ble_eq_true rfl⟩) (r_preV C P [.int a1, .int (0 : Int32), .int (0 : Int32)] (ci := 10) rfl (by decide) EKM_0) rfl rfl hl.1 rfl (lv_room (Nat.le_of_ble_eq_true rfl)) dX10_repair_31 ⟨Nat.le_of_ble_eq_true rfl, Nat.le_of_ble_eq_true rfl⟩) P.2 (fun u9 H locs h P => ?_)
      refine lv_aload_n hx hb dX10_repair_34 rfl (lv_at hl 0 rfl) ?_
      refine lv_iload_n hx hb dX10_repair_35 rfl (lv_at hl 1 rfl) ?_
      refine lv_bipush (v := 9) hx hb dX10_repair_36 (by decide) ?_
      refine lv_iconst (v := 0) hx hb dX10_repair_38 (by decide) ?_
      refine r_callv (F := EM cA o) (va_runV (As := [.int a1, .int (9 : Int32), .int (0 : Int32)]) (rest := []) C.1 (c_X10_putGate l D cA o _ _ _ u9 _ h) (cwV 3 C.1.2.2.2.2 gX10_repair_X10_putGate rfl rfl rfl (by decide +kernel) ⟨Nat.le_of_ble_eq_true rfl, Nat.le_of_ble_eq_true rfl⟩) (r_preV C P [.int a1, .int (9 : Int32), .int (0 : Int32)] (ci := 10) rfl (by decide) EKM_0) rfl rfl hl.1 rfl (lv_room (Nat.le_of_ble_eq_true rfl)) dX10_repair_39 ⟨Nat.le_of_ble_eq_true rfl, Nat.le_of_ble_eq_true rfl⟩) P.2 (fun u11 H locs h P => ?_)
      refine lv_aload_n hx hb dX10_repair_42 rfl (lv_at hl 0 rfl) ?_
      refine lv_iload_n hx hb dX10_repair_43 rfl (lv_at hl 1 rfl) ?_
      refine lv_bipush (v := -5) hx hb dX10_repair_44 (by decide) ?_
      refine lv_bipush (v := 6) hx hb dX10_repair_46 (by decide) ?_
      refine r_callv (F := EM cA o) (va_runV (As := [.int a1, .int (-5 : Int32), .int (6 : Int32)]) (rest := []) C.1 (c_X10_tell l D cA o _ _ _ u11 _ h) (cwV 3 C.1.2.2.2.2 gX10_repair_X10_tell rfl rfl rfl (by decide +kernel) ⟨Nat.le_of_ble_eq_true rfl, Nat.le_of_ble_eq_true rfl⟩) (r_preV C P [.int a1, .int (-5 : Int32), .int (6 : Int32)] (ci := 10) rfl (by decide) EKM_0) rfl rfl hl.1 rfl (lv_room (Nat.le_of_ble_eq_true rfl)) dX10_repair_48 ⟨Nat.le_of_ble_eq_true rfl, Nat.le_of_ble_eq_true rfl⟩) P.2 (fun u13 H locs h P => ?_)
      refine lv_aload_n hx hb dX10_repair_51 rfl (lv_at hl 0 rfl) ?_
      refine lv_aload_n hx hb dX10_repair_52 rfl (lv_at hl 0 rfl) ?_
      refine lv_iload_n hx hb dX10_repair_53 rfl (lv_at hl 1 rfl) ?_
      refine lv_iconst (v := 0) hx hb dX10_repair_54 (by decide) ?_
      refine r_calli (F := EM cA o) (va_runV (As := [.int a1, .int (0 : Int32)]) (rest := [.ref (o + 0)]) C.1 (c_X10_queueLength l D cA o _ _ u13 _ h) (cwV 2 C.1.2.2.2.2 gX10_repair_X10_queueLength rfl rfl rfl (by decide +kernel) ⟨Nat.le_of_ble_eq_true rfl, Nat.le_of_ble_eq_true rfl⟩) (r_preV C P [.int a1, .int (0 : Int32)] (ci := 10) rfl (by decide) EKM_0) rfl rfl hl.1 rfl (lv_room (Nat.le_of_ble_eq_true rfl)) dX10_repair_55 ⟨Nat.le_of_ble_eq_true rfl, Nat.le_of_ble_eq_true rfl⟩) P.2 (fun r16 u15 H locs h P => ?_)
      refine lv_aload_n hx hb dX10_repair_58 rfl (lv_at hl 0 rfl) ?_
      refine lv_iload_n hx hb dX10_repair_59 rfl (lv_at hl 1 rfl) ?_
      refine lv_iconst (v := 1) hx hb dX10_repair_60 (by decide) ?_
      refine r_calli (F := EM cA o) (va_runV (As := [.int a1, .int (1 : Int32)]) (rest := [.int r16, .ref (o + 0)]) C.1 (c_X10_queueLength l D cA o _ _ u15 _ h) (cwV 2 C.1.2.2.2.2 gX10_repair_X10_queueLength rfl rfl rfl (by decide +kernel) ⟨Nat.le_of_ble_eq_true rfl, Nat.le_of_ble_eq_true rfl⟩) (r_preV C P [.int a1, .int (1 : Int32)] (ci := 10) rfl (by decide) EKM_0) rfl rfl hl.1 rfl (lv_room (Nat.le_of_ble_eq_true rfl)) dX10_repair_61 ⟨Nat.le_of_ble_eq_true rfl, Nat.le_of_ble_eq_true rfl⟩) P.2 (fun r18 u17 H locs h P => ?_)
      refine lv_iadd hx hb dX10_repair_64 ?_
      refine r_calli (F := EM cA o) (va_runV (As := [.int (r16 + r18)]) (rest := []) C.1 (c_X10_done l D cA o _ u17 _ h) (cwV 1 C.1.2.2.2.2 gX10_repair_X10_done rfl rfl rfl (by decide +kernel) ⟨Nat.le_of_ble_eq_true rfl, Nat.le_of_ble_eq_true rfl⟩) (r_preV C P [.int (r16 + r18)] (ci := 10) rfl (by decide) EKM_0) rfl rfl hl.1 rfl (lv_room (Nat.le_of_ble_eq_true rfl)) dX10_repair_65 ⟨Nat.le_of_ble_eq_true rfl, Nat.le_of_ble_eq_true rfl⟩) P.2 (fun r20 u19 H locs h P => ?_)
      exact r_ireti C P h dX10_repair_68
    · have h := ite_f h c6
      refine lv_bipush (v := -4) hx hb dX10_repair_20 (by decide) ?_
      exact r_ireti C P h dX10_repair_22
  · have h := ite_f h c3
    refine lv_iconst (v := -1) hx hb dX10_repair_8 (by decide) ?_
    exact r_ireti C P h dX10_repair_9
set_option maxHeartbeats 4000000 in
set_option maxRecDepth 100000 in
theorem c_X10_repair (l : Launch) (D : va_G) (cA : Nat → ClassId) (o : Nat) (a1 : Int32)  (u0 : Mm) (Φ : Int32 → Mm → Prop) (h : w_X10_repair a1 u0 Φ) : Met l yX10_repair wsX10_repair rm_X10_repair (va_Pc [.ref (o + 0), .int a1] (Wd 6 o D (tysL cA) (EM cA o u0))) (Qg vI Φ (fun μ => Wd 6 o D (tysL cA) (EM cA o μ)) (aA o 6)) 0 0 (aA o 6) := by
  refine Met.ofW (cc := cX10_repair) (maxL := 2) (ret := (some .int)) (by decide) rfl ?_
  intro p e s m args below meth c s₁ B hml hv
  obtain ⟨rfl, hv⟩ := hv
  have hl := lv_entry ([.ref (o + 0), .int a1]) (n := 2) (Nat.le_of_ble_eq_true rfl)
  rw [lg_entry_eq]
  exact t_X10_repair_0 ⟨⟨B.exec, B.bytes, hml, findClass_of_methodNamed B.named, atoms_spec (ws := wsX10_repair) B.pre⟩, B.returns, B.notSynchronized, hv.2⟩ a1 u0 _ _ _ ⟨hv.1, va_S.rf⟩ hl h
abbrev rm_X10_type : Room := { frames := 0, cells := 0, slots := 0, locals := 0 }
theorem wd_X10_type_1 : Cond.fieldLink RX10 150 "TurnstileBankModel" "typed" "I" ∈ wsX10_type := List.mem_of_getElem? (i := 1) (by decide +kernel)
theorem wd_X10_type_2 : Cond.fieldLink RX10 19 "TurnstileBankModel" "text" "[C" ∈ wsX10_type := List.mem_of_getElem? (i := 2) (by decide +kernel)
theorem in_X10_type_10 : ∀ w ∈ wsX100, w ∈ wsX10_type := fun w h => List.mem_cons_of_mem _ (List.mem_append_right _ h)
def w_X10_type (a1 : Int32) (u0 : Mm) (Φ : Int32 → Mm → Prop) : Prop := (if (u0 0 4) = (50 : Int32) then (Φ ((-3 : Int32)) u0) else (vp_in (u0 0 4) 50 ∧ ∀ u2 : Mm, u2 = up2 u0 4 (u0 0 4).toNatClampNeg (vp_nar .char a1) → (∀ u3 : Mm, u3 = up2 u2 0 4 ((u2 0 4) + (1 : Int32)) → (Φ ((u3 0 4)) u3))))
set_option maxHeartbeats 4000000 in
set_option maxRecDepth 100000 in
theorem t_X10_type_0 {p : Program} {l : Launch} {e : Env} {s : State} {m : MethodId} {args : Array Value} {below : List Frame} {meth : Method} {c : Code} {D : va_G} {cA : Nat → ClassId} {o : Nat}  {Φ : Int32 → Mm → Prop} (C : Cx p m meth c s args cX10_type 2 wsX10_type RX10 (some .int) D (tysL cA)) : ∀ (a1 : Int32) (u0 : Mm), ∀ (H : Heap) (locs : List Loc) (ls : Array Slot), Hp 6 o D (EM cA o u0) s H locs → lv_has ls 2 [(0, .ref (o + 0)), (1, .int a1)] → w_X10_type a1 u0 Φ → W p l e rm_X10_type s m args below meth c H locs 0 0 (MQ below (Qg vI Φ (fun μ => Wd 6 o D (tysL cA) (EM cA o μ)) (aA o 6)) args s 0 0 (aA o 6)) (F0 m 0 ls []) := by
  intro a1 u0 H locs ls P hl h
  have hx := C.1.1
  have hb := C.1.2.1
  unfold w_X10_type at h
  refine lv_aload_n hx hb dX10_type_0 rfl (lv_at hl 0 rfl) ?_
  refine g_10_4 C P in_X10_type_10 wd_X10_type_1 dX10_type_1 ?_
  refine lv_bipush (v := 50) hx hb dX10_type_4 (by decide) ?_
  refine lv_icmp_ne (tgt := 12) hx hb dX10_type_6 (by decide) (fun c1 => ?_) (fun c1 => ?_)
  · have h := ite_f h c1
    refine lv_aload_n hx hb dX10_type_12 rfl (lv_at hl 0 rfl) ?_
    refine g_10_5 C P in_X10_type_10 wd_X10_type_2 dX10_type_13 ?_
    refine lv_aload_n hx hb dX10_type_16 rfl (lv_at hl 0 rfl) ?_
    refine g_10_4 C P in_X10_type_10 wd_X10_type_1 dX10_type_17 ?_
    refine lv_iload_n hx hb dX10_type_20 rfl (lv_at hl 1 rfl) ?_
    obtain ⟨hi, h⟩ := h
    refine mst_4 C P hi dX10_type_21 (fun u2 eu2 H locs P => ?_)
    have h := h u2 eu2
    refine lv_aload_n hx hb dX10_type_22 rfl (lv_at hl 0 rfl) ?_
    refine lv_dup hx hb dX10_type_23 rfl ?_
    refine g_10_4 C P in_X10_type_10 wd_X10_type_1 dX10_type_24 ?_
    refine lv_iconst (v := 1) hx hb dX10_type_27 (by decide) ?_
    refine lv_iadd hx hb dX10_type_28 ?_
    refine p_10_4 C P in_X10_type_10 wd_X10_type_1 dX10_type_29 (fun u3 eu3 H locs P => ?_)
    have h := h u3 eu3
    refine lv_aload_n hx hb dX10_type_32 rfl (lv_at hl 0 rfl) ?_
    refine g_10_4 C P in_X10_type_10 wd_X10_type_1 dX10_type_33 ?_
    exact r_ireti C P h dX10_type_36
  · have h := ite_t h c1
    refine lv_bipush (v := -3) hx hb dX10_type_9 (by decide) ?_
    exact r_ireti C P h dX10_type_11
set_option maxHeartbeats 4000000 in
set_option maxRecDepth 100000 in
theorem c_X10_type (l : Launch) (D : va_G) (cA : Nat → ClassId) (o : Nat) (a1 : Int32)  (u0 : Mm) (Φ : Int32 → Mm → Prop) (h : w_X10_type a1 u0 Φ) : Met l yX10_type wsX10_type rm_X10_type (va_Pc [.ref (o + 0), .int a1] (Wd 6 o D (tysL cA) (EM cA o u0))) (Qg vI Φ (fun μ => Wd 6 o D (tysL cA) (EM cA o μ)) (aA o 6)) 0 0 (aA o 6) := by
  refine Met.ofW (cc := cX10_type) (maxL := 2) (ret := (some .int)) (by decide) rfl ?_
  intro p e s m args below meth c s₁ B hml hv
  obtain ⟨rfl, hv⟩ := hv
  have hl := lv_entry ([.ref (o + 0), .int a1]) (n := 2) (Nat.le_of_ble_eq_true rfl)
  rw [lg_entry_eq]
  exact t_X10_type_0 ⟨⟨B.exec, B.bytes, hml, findClass_of_methodNamed B.named, atoms_spec (ws := wsX10_type) B.pre⟩, B.returns, B.notSynchronized, hv.2⟩ a1 u0 _ _ _ ⟨hv.1, va_S.rf⟩ hl h
abbrev rm_X10_clearText : Room := { frames := 0, cells := 0, slots := 0, locals := 0 }
theorem wd_X10_clearText_1 : Cond.fieldLink RX10 150 "TurnstileBankModel" "typed" "I" ∈ wsX10_clearText := List.mem_of_getElem? (i := 1) (by decide +kernel)
theorem in_X10_clearText_10 : ∀ w ∈ wsX100, w ∈ wsX10_clearText := fun w h => List.mem_cons_of_mem _ (List.mem_append_right _ h)
def w_X10_clearText  (u0 : Mm) (Φ : Int32 → Mm → Prop) : Prop := (∀ u1 : Mm, u1 = up2 u0 0 4 (0 : Int32) → (Φ ((u0 0 4)) u1))
set_option maxHeartbeats 4000000 in
set_option maxRecDepth 100000 in
theorem t_X10_clearText_0 {p : Program} {l : Launch} {e : Env} {s : State} {m : MethodId} {args : Array Value} {below : List Frame} {meth : Method} {c : Code} {D : va_G} {cA : Nat → ClassId} {o : Nat}  {Φ : Int32 → Mm → Prop} (C : Cx p m meth c s args cX10_clearText 2 wsX10_clearText RX10 (some .int) D (tysL cA)) : ∀  (u0 : Mm), ∀ (H : Heap) (locs : List Loc) (ls : Array Slot), Hp 6 o D (EM cA o u0) s H locs → lv_has ls 2 [(0, .ref (o + 0))] → w_X10_clearText u0 Φ → W p l e rm_X10_clearText s m args below meth c H locs 0 0 (MQ below (Qg vI Φ (fun μ => Wd 6 o D (tysL cA) (EM cA o μ)) (aA o 6)) args s 0 0 (aA o 6)) (F0 m 0 ls []) := by
  intro u0 H locs ls P hl h
  have hx := C.1.1
  have hb := C.1.2.1
  unfold w_X10_clearText at h
  refine lv_aload_n hx hb dX10_clearText_0 rfl (lv_at hl 0 rfl) ?_
  refine g_10_4 C P in_X10_clearText_10 wd_X10_clearText_1 dX10_clearText_1 ?_
  refine lv_istore_n (lv' := [(1, .int (u0 0 4)), (0, .ref (o + 0))]) hx hb dX10_clearText_4 rfl hl (by decide) rfl (fun ls hl => ?_)
  refine lv_aload_n hx hb dX10_clearText_5 rfl (lv_at hl 1 rfl) ?_
  refine lv_iconst (v := 0) hx hb dX10_clearText_6 (by decide) ?_
  refine p_10_4 C P in_X10_clearText_10 wd_X10_clearText_1 dX10_clearText_7 (fun u1 eu1 H locs P => ?_)
  have h := h u1 eu1
  refine lv_iload_n hx hb dX10_clearText_10 rfl (lv_at hl 0 rfl) ?_
  exact r_ireti C P h dX10_clearText_11
set_option maxHeartbeats 4000000 in
set_option maxRecDepth 100000 in
theorem c_X10_clearText (l : Launch) (D : va_G) (cA : Nat → ClassId) (o : Nat)   (u0 : Mm) (Φ : Int32 → Mm → Prop) (h : w_X10_clearText u0 Φ) : Met l yX10_clearText wsX10_clearText rm_X10_clearText (va_Pc [.ref (o + 0)] (Wd 6 o D (tysL cA) (EM cA o u0))) (Qg vI Φ (fun μ => Wd 6 o D (tysL cA) (EM cA o μ)) (aA o 6)) 0 0 (aA o 6) := by
  refine Met.ofW (cc := cX10_clearText) (maxL := 2) (ret := (some .int)) (by decide) rfl ?_
  intro p e s m args below meth c s₁ B hml hv
  obtain ⟨rfl, hv⟩ := hv
  have hl := lv_entry ([.ref (o + 0)]) (n := 2) (Nat.le_of_ble_eq_true rfl)
  rw [lg_entry_eq]
  exact t_X10_clearText_0 ⟨⟨B.exec, B.bytes, hml, findClass_of_methodNamed B.named, atoms_spec (ws := wsX10_clearText) B.pre⟩, B.returns, B.notSynchronized, hv.2⟩ u0 _ _ _ ⟨hv.1, va_S.rf⟩ hl h
abbrev rm_X10_isAt : Room := { frames := 0, cells := 0, slots := 0, locals := 0 }
theorem wd_X10_isAt_1 : Cond.fieldLink RX10 153 "TurnstileBankModel" "place" "I" ∈ wsX10_isAt := List.mem_of_getElem? (i := 1) (by decide +kernel)
theorem wd_X10_isAt_2 : Cond.fieldLink RX10 150 "TurnstileBankModel" "typed" "I" ∈ wsX10_isAt := List.mem_of_getElem? (i := 2) (by decide +kernel)
theorem wd_X10_isAt_3 : Cond.fieldLink RX10 19 "TurnstileBankModel" "text" "[C" ∈ wsX10_isAt := List.mem_of_getElem? (i := 3) (by decide +kernel)
theorem in_X10_isAt_10 : ∀ w ∈ wsX100, w ∈ wsX10_isAt := fun w h => List.mem_cons_of_mem _ (List.mem_append_right _ h)
def w_X10_isAt (a1 : Int32) (a2 : Int32) (u0 : Mm) (Φ : Int32 → Mm → Prop) : Prop := (if (u0 0 4) ≤ (u0 0 6) then (Φ (0 : Int32) u0) else (vp_in (u0 0 6) 50 ∧ (if (u0 4 (u0 0 6).toNatClampNeg) < a1 then (Φ (0 : Int32) u0) else (vp_in (u0 0 6) 50 ∧ (if a2 < (u0 4 (u0 0 6).toNatClampNeg) then (Φ (0 : Int32) u0) else (Φ (1 : Int32) u0))))))
set_option maxHeartbeats 4000000 in
set_option maxRecDepth 100000 in
theorem t_X10_isAt_0 {p : Program} {l : Launch} {e : Env} {s : State} {m : MethodId} {args : Array Value} {below : List Frame} {meth : Method} {c : Code} {D : va_G} {cA : Nat → ClassId} {o : Nat}  {Φ : Int32 → Mm → Prop} (C : Cx p m meth c s args cX10_isAt 3 wsX10_isAt RX10 (some .boolean) D (tysL cA)) : ∀ (a1 : Int32) (a2 : Int32) (u0 : Mm), ∀ (H : Heap) (locs : List Loc) (ls : Array Slot), Hp 6 o D (EM cA o u0) s H locs → lv_has ls 3 [(0, .ref (o + 0)), (1, .int a1), (2, .int a2)] → w_X10_isAt a1 a2 u0 Φ → W p l e rm_X10_isAt s m args below meth c H locs 0 0 (MQ below (Qg vI Φ (fun μ => Wd 6 o D (tysL cA) (EM cA o μ)) (aA o 6)) args s 0 0 (aA o 6)) (F0 m 0 ls []) := by
  intro a1 a2 u0 H locs ls P hl h
  have hx := C.1.1
  have hb := C.1.2.1
  unfold w_X10_isAt at h
  refine lv_aload_n hx hb dX10_isAt_0 rfl (lv_at hl 0 rfl) ?_
  refine g_10_6 C P in_X10_isAt_10 wd_X10_isAt_1 dX10_isAt_1 ?_
  refine lv_aload_n hx hb dX10_isAt_4 rfl (lv_at hl 0 rfl) ?_
  refine g_10_4 C P in_X10_isAt_10 wd_X10_isAt_2 dX10_isAt_5 ?_
  refine lv_icmp_ge (tgt := 41) hx hb dX10_isAt_8 (by decide) (fun c1 => ?_) (fun c1 => ?_)
  · have h := ite_t h c1
    refine lv_iconst (v := 0) hx hb dX10_isAt_41 (by decide) ?_
    exact r_iretb C P (Or.inl rfl) h dX10_isAt_42
  · have h := ite_f h c1
    refine lv_aload_n hx hb dX10_isAt_11 rfl (lv_at hl 0 rfl) ?_
    refine g_10_5 C P in_X10_isAt_10 wd_X10_isAt_3 dX10_isAt_12 ?_
    refine lv_aload_n hx hb dX10_isAt_15 rfl (lv_at hl 0 rfl) ?_
    refine g_10_6 C P in_X10_isAt_10 wd_X10_isAt_1 dX10_isAt_16 ?_
    obtain ⟨hi, h⟩ := h
    refine mld_4 C P hi dX10_isAt_19 ?_
    refine lv_iload_n hx hb dX10_isAt_20 rfl (lv_at hl 1 rfl) ?_
    refine lv_icmp_lt (tgt := 41) hx hb dX10_isAt_21 (by decide) (fun c2 => ?_) (fun c2 => ?_)
    · have h := ite_t h c2
      refine lv_iconst (v := 0) hx hb dX10_isAt_41 (by decide) ?_
      exact r_iretb C P (Or.inl rfl) h dX10_isAt_42
    · have h := ite_f h c2
      refine lv_aload_n hx hb dX10_isAt_24 rfl (lv_at hl 0 rfl) ?_
      refine g_10_5 C P in_X10_isAt_10 wd_X10_isAt_3 dX10_isAt_25 ?_
      refine lv_aload_n hx hb dX10_isAt_28 rfl (lv_at hl 0 rfl) ?_
      refine g_10_6 C P in_X10_isAt_10 wd_X10_isAt_1 dX10_isAt_29 ?_
      obtain ⟨hi, h⟩ := h
      refine mld_4 C P hi dX10_isAt_32 ?_
      refine lv_iload_n hx hb dX10_isAt_33 rfl (lv_at hl 2 rfl) ?_
      refine lv_icmp_gt (tgt := 41) hx hb dX10_isAt_34 (by decide) (fun c3 => ?_) (fun c3 => ?_)
      · have h := ite_t h c3
        refine lv_iconst (v := 0) hx hb dX10_isAt_41 (by decide) ?_
        exact r_iretb C P (Or.inl rfl) h dX10_isAt_42
      · have h := ite_f h c3
        refine lv_iconst (v := 1) hx hb dX10_isAt_37 (by decide) ?_
        refine lv_goto (tgt := 42) hx hb dX10_isAt_38 (by decide) ?_
        exact r_iretb C P (Or.inr rfl) h dX10_isAt_42
set_option maxHeartbeats 4000000 in
set_option maxRecDepth 100000 in
theorem c_X10_isAt (l : Launch) (D : va_G) (cA : Nat → ClassId) (o : Nat) (a1 : Int32) (a2 : Int32)  (u0 : Mm) (Φ : Int32 → Mm → Prop) (h : w_X10_isAt a1 a2 u0 Φ) : Met l yX10_isAt wsX10_isAt rm_X10_isAt (va_Pc [.ref (o + 0), .int a1, .int a2] (Wd 6 o D (tysL cA) (EM cA o u0))) (Qg vI Φ (fun μ => Wd 6 o D (tysL cA) (EM cA o μ)) (aA o 6)) 0 0 (aA o 6) := by
  refine Met.ofW (cc := cX10_isAt) (maxL := 3) (ret := (some .boolean)) (by decide) rfl ?_
  intro p e s m args below meth c s₁ B hml hv
  obtain ⟨rfl, hv⟩ := hv
  have hl := lv_entry ([.ref (o + 0), .int a1, .int a2]) (n := 3) (Nat.le_of_ble_eq_true rfl)
  rw [lg_entry_eq]
  exact t_X10_isAt_0 ⟨⟨B.exec, B.bytes, hml, findClass_of_methodNamed B.named, atoms_spec (ws := wsX10_isAt) B.pre⟩, B.returns, B.notSynchronized, hv.2⟩ a1 a2 u0 _ _ _ ⟨hv.1, va_S.rf⟩ hl h
abbrev rm_X10_skips : Room := { frames := 1, cells := 0, slots := 0, locals := 22 }
theorem wd_X10_skips_1 : Cond.fieldLink RX10 156 "TurnstileBankModel" "isGood" "Z" ∈ wsX10_skips := List.mem_of_getElem? (i := 1) (by decide +kernel)
theorem wd_X10_skips_2 : Cond.fieldLink RX10 153 "TurnstileBankModel" "place" "I" ∈ wsX10_skips := List.mem_of_getElem? (i := 2) (by decide +kernel)
theorem in_X10_skips_10 : ∀ w ∈ wsX100, w ∈ wsX10_skips := fun w h => List.mem_cons_of_mem _ (List.mem_append_right _ h)
def w_X10_skips_21  (Φ : Int32 → Mm → Prop) (z0 : Int32) (u0 : Mm) : Prop := (if z0 = 0 then (∀ u3 : Mm, u3 = up2 u0 0 6 ((u0 0 6) + (0 : Int32)) → (isB z0 ∧ Φ z0 u3)) else (∀ u4 : Mm, u4 = up2 u0 0 6 ((u0 0 6) + (1 : Int32)) → (isB z0 ∧ Φ z0 u4)))
set_option maxHeartbeats 4000000 in
set_option maxRecDepth 100000 in
theorem t_X10_skips_21 {p : Program} {l : Launch} {e : Env} {s : State} {m : MethodId} {args : Array Value} {below : List Frame} {meth : Method} {c : Code} {D : va_G} {cA : Nat → ClassId} {o : Nat}  {Φ : Int32 → Mm → Prop} (C : Cx p m meth c s args cX10_skips 3 wsX10_skips RX10 (some .boolean) D (tysL cA)) : ∀ (z0 : Int32) (u0 : Mm), ∀ (H : Heap) (locs : List Loc) (ls : Array Slot), Hp 6 o D (EM cA o u0) s H locs → lv_has ls 3 [(0, .ref (o + 0))] → w_X10_skips_21 Φ z0 u0 → W p l e rm_X10_skips s m args below meth c H locs 0 0 (MQ below (Qg vI Φ (fun μ => Wd 6 o D (tysL cA) (EM cA o μ)) (aA o 6)) args s 0 0 (aA o 6)) (F0 m 21 ls [.int z0]) := by
  intro z0 u0 H locs ls P hl h
  have hx := C.1.1
  have hb := C.1.2.1
  unfold w_X10_skips_21 at h
  refine lv_istore_n (lv' := [(2, .int z0), (0, .ref (o + 0))]) hx hb dX10_skips_21 rfl hl (by decide) rfl (fun ls hl => ?_)
  refine lv_aload_n hx hb dX10_skips_22 rfl (lv_at hl 1 rfl) ?_
  refine lv_dup hx hb dX10_skips_23 rfl ?_
  refine g_10_6 C P in_X10_skips_10 wd_X10_skips_2 dX10_skips_24 ?_
  refine lv_iload_n hx hb dX10_skips_27 rfl (lv_at hl 0 rfl) ?_
  refine lv_if_eq (tgt := 35) hx hb dX10_skips_28 (by decide) (fun c2 => ?_) (fun c2 => ?_)
  · have h := ite_t h c2
    refine lv_iconst (v := 0) hx hb dX10_skips_35 (by decide) ?_
    refine lv_iadd hx hb dX10_skips_36 ?_
    refine p_10_6 C P in_X10_skips_10 wd_X10_skips_2 dX10_skips_37 (fun u3 eu3 H locs P => ?_)
    have h := h u3 eu3
    refine lv_iload_n hx hb dX10_skips_40 rfl (lv_at hl 0 rfl) ?_
    exact r_iretb C P h.1 h.2 dX10_skips_41
  · have h := ite_f h c2
    refine lv_iconst (v := 1) hx hb dX10_skips_31 (by decide) ?_
    refine lv_goto (tgt := 36) hx hb dX10_skips_32 (by decide) ?_
    refine lv_iadd hx hb dX10_skips_36 ?_
    refine p_10_6 C P in_X10_skips_10 wd_X10_skips_2 dX10_skips_37 (fun u4 eu4 H locs P => ?_)
    have h := h u4 eu4
    refine lv_iload_n hx hb dX10_skips_40 rfl (lv_at hl 0 rfl) ?_
    exact r_iretb C P h.1 h.2 dX10_skips_41
def w_X10_skips_20  (Φ : Int32 → Mm → Prop)  (u0 : Mm) : Prop := (w_X10_skips_21 Φ ((0 : Int32)) u0)
set_option maxHeartbeats 4000000 in
set_option maxRecDepth 100000 in
theorem t_X10_skips_20 {p : Program} {l : Launch} {e : Env} {s : State} {m : MethodId} {args : Array Value} {below : List Frame} {meth : Method} {c : Code} {D : va_G} {cA : Nat → ClassId} {o : Nat}  {Φ : Int32 → Mm → Prop} (C : Cx p m meth c s args cX10_skips 3 wsX10_skips RX10 (some .boolean) D (tysL cA)) : ∀  (u0 : Mm), ∀ (H : Heap) (locs : List Loc) (ls : Array Slot), Hp 6 o D (EM cA o u0) s H locs → lv_has ls 3 [(0, .ref (o + 0))] → w_X10_skips_20 Φ u0 → W p l e rm_X10_skips s m args below meth c H locs 0 0 (MQ below (Qg vI Φ (fun μ => Wd 6 o D (tysL cA) (EM cA o μ)) (aA o 6)) args s 0 0 (aA o 6)) (F0 m 20 ls []) := by
  intro u0 H locs ls P hl h
  have hx := C.1.1
  have hb := C.1.2.1
  unfold w_X10_skips_20 at h
  refine lv_iconst (v := 0) hx hb dX10_skips_20 (by decide) ?_
  exact t_X10_skips_21 C _ u0 _ _ _ P (lv_sub hl [0] rfl) h
def w_X10_skips (a1 : Int32) (u0 : Mm) (Φ : Int32 → Mm → Prop) : Prop := (if (u0 0 7) = 0 then (w_X10_skips_20 Φ u0) else (w_X10_isAt a1 a1 u0 (fun r6 u5 => (if r6 = 0 then (w_X10_skips_20 Φ u5) else (w_X10_skips_21 Φ ((1 : Int32)) u5)))))
set_option maxHeartbeats 4000000 in
set_option maxRecDepth 100000 in
theorem t_X10_skips_0 {p : Program} {l : Launch} {e : Env} {s : State} {m : MethodId} {args : Array Value} {below : List Frame} {meth : Method} {c : Code} {D : va_G} {cA : Nat → ClassId} {o : Nat}  {Φ : Int32 → Mm → Prop} (C : Cx p m meth c s args cX10_skips 3 wsX10_skips RX10 (some .boolean) D (tysL cA)) : ∀ (a1 : Int32) (u0 : Mm), ∀ (H : Heap) (locs : List Loc) (ls : Array Slot), Hp 6 o D (EM cA o u0) s H locs → lv_has ls 3 [(0, .ref (o + 0)), (1, .int a1)] → w_X10_skips a1 u0 Φ → W p l e rm_X10_skips s m args below meth c H locs 0 0 (MQ below (Qg vI Φ (fun μ => Wd 6 o D (tysL cA) (EM cA o μ)) (aA o 6)) args s 0 0 (aA o 6)) (F0 m 0 ls []) := by
  intro a1 u0 H locs ls P hl h
  have hx := C.1.1
  have hb := C.1.2.1
  unfold w_X10_skips at h
  refine lv_aload_n hx hb dX10_skips_0 rfl (lv_at hl 0 rfl) ?_
  refine g_10_7 C P in_X10_skips_10 wd_X10_skips_1 dX10_skips_1 ?_
  refine lv_if_eq (tgt := 20) hx hb dX10_skips_4 (by decide) (fun c1 => ?_) (fun c1 => ?_)
  · have h := ite_t h c1
    exact t_X10_skips_20 C u0 _ _ _ P (lv_sub hl [0] rfl) h
  · have h := ite_f h c1
    refine lv_aload_n hx hb dX10_skips_7 rfl (lv_at hl 0 rfl) ?_
    refine lv_iload_n hx hb dX10_skips_8 rfl (lv_at hl 1 rfl) ?_
    refine lv_iload_n hx hb dX10_skips_9 rfl (lv_at hl 1 rfl) ?_
    refine r_calli (F := EM cA o) (va_runV (As := [.int a1, .int a1]) (rest := []) C.1 (c_X10_isAt l D cA o _ _ u0 _ h) (cwV 2 C.1.2.2.2.2 gX10_skips_X10_isAt rfl rfl rfl (by decide +kernel) ⟨Nat.le_of_ble_eq_true rfl, Nat.le_of_ble_eq_true rfl⟩) (r_preV C P [.int a1, .int a1] (ci := 10) rfl (by decide) EKM_0) rfl rfl hl.1 rfl (lv_room (Nat.le_of_ble_eq_true rfl)) dX10_skips_10 ⟨Nat.le_of_ble_eq_true rfl, Nat.le_of_ble_eq_true rfl⟩) P.2 (fun r6 u5 H locs h P => ?_)
    refine lv_if_eq (tgt := 20) hx hb dX10_skips_13 (by decide) (fun c7 => ?_) (fun c7 => ?_)
    · have h := ite_t h c7
      exact t_X10_skips_20 C u5 _ _ _ P (lv_sub hl [0] rfl) h
    · have h := ite_f h c7
      refine lv_iconst (v := 1) hx hb dX10_skips_16 (by decide) ?_
      refine lv_goto (tgt := 21) hx hb dX10_skips_17 (by decide) ?_
      exact t_X10_skips_21 C _ u5 _ _ _ P (lv_sub hl [0] rfl) h
set_option maxHeartbeats 4000000 in
set_option maxRecDepth 100000 in
theorem c_X10_skips (l : Launch) (D : va_G) (cA : Nat → ClassId) (o : Nat) (a1 : Int32)  (u0 : Mm) (Φ : Int32 → Mm → Prop) (h : w_X10_skips a1 u0 Φ) : Met l yX10_skips wsX10_skips rm_X10_skips (va_Pc [.ref (o + 0), .int a1] (Wd 6 o D (tysL cA) (EM cA o u0))) (Qg vI Φ (fun μ => Wd 6 o D (tysL cA) (EM cA o μ)) (aA o 6)) 0 0 (aA o 6) := by
  refine Met.ofW (cc := cX10_skips) (maxL := 3) (ret := (some .boolean)) (by decide) rfl ?_
  intro p e s m args below meth c s₁ B hml hv
  obtain ⟨rfl, hv⟩ := hv
  have hl := lv_entry ([.ref (o + 0), .int a1]) (n := 3) (Nat.le_of_ble_eq_true rfl)
  rw [lg_entry_eq]
  exact t_X10_skips_0 ⟨⟨B.exec, B.bytes, hml, findClass_of_methodNamed B.named, atoms_spec (ws := wsX10_skips) B.pre⟩, B.returns, B.notSynchronized, hv.2⟩ a1 u0 _ _ _ ⟨hv.1, va_S.rf⟩ hl h
abbrev rm_X10_digit : Room := { frames := 1, cells := 0, slots := 0, locals := 22 }
theorem wd_X10_digit_1 : Cond.fieldLink RX10 156 "TurnstileBankModel" "isGood" "Z" ∈ wsX10_digit := List.mem_of_getElem? (i := 1) (by decide +kernel)
theorem wd_X10_digit_2 : Cond.fieldLink RX10 153 "TurnstileBankModel" "place" "I" ∈ wsX10_digit := List.mem_of_getElem? (i := 2) (by decide +kernel)
theorem wd_X10_digit_3 : Cond.fieldLink RX10 19 "TurnstileBankModel" "text" "[C" ∈ wsX10_digit := List.mem_of_getElem? (i := 3) (by decide +kernel)
theorem in_X10_digit_10 : ∀ w ∈ wsX100, w ∈ wsX10_digit := fun w h => List.mem_cons_of_mem _ (List.mem_append_right _ h)
def w_X10_digit_30  (Φ : Int32 → Mm → Prop) (x2 : Int32) (z0 : Int32) (u0 : Mm) : Prop := (isB z0 ∧ ∀ u2 : Mm, u2 = up2 u0 0 7 z0 → (if (u2 0 7) = 0 then (∀ u4 : Mm, u4 = up2 u2 0 7 (0 : Int32) → (Φ ((0 : Int32)) u4)) else (if 0 ≤ x2 then (∀ u6 : Mm, u6 = up2 u2 0 6 ((u2 0 6) + (1 : Int32)) → (vp_in ((u6 0 6) - (1 : Int32)) 50 ∧ (Φ (((u6 4 ((u6 0 6) - (1 : Int32)).toNatClampNeg) - (48 : Int32))) u6))) else (∀ u7 : Mm, u7 = up2 u2 0 7 (0 : Int32) → (Φ ((0 : Int32)) u7)))))
set_option maxHeartbeats 4000000 in
set_option maxRecDepth 100000 in
theorem t_X10_digit_30 {p : Program} {l : Launch} {e : Env} {s : State} {m : MethodId} {args : Array Value} {below : List Frame} {meth : Method} {c : Code} {D : va_G} {cA : Nat → ClassId} {o : Nat}  {Φ : Int32 → Mm → Prop} (C : Cx p m meth c s args cX10_digit 3 wsX10_digit RX10 (some .int) D (tysL cA)) : ∀ (x2 : Int32) (z0 : Int32) (u0 : Mm), ∀ (H : Heap) (locs : List Loc) (ls : Array Slot), Hp 6 o D (EM cA o u0) s H locs → lv_has ls 3 [(0, .ref (o + 0)), (2, .int x2)] → w_X10_digit_30 Φ x2 z0 u0 → W p l e rm_X10_digit s m args below meth c H locs 0 0 (MQ below (Qg vI Φ (fun μ => Wd 6 o D (tysL cA) (EM cA o μ)) (aA o 6)) args s 0 0 (aA o 6)) (F0 m 30 ls [.int z0, .ref (o + 0)]) := by
  intro x2 z0 u0 H locs ls P hl h
  have hx := C.1.1
  have hb := C.1.2.1
  unfold w_X10_digit_30 at h
  obtain ⟨hB, h⟩ := h
  refine p_10_7 C P in_X10_digit_10 wd_X10_digit_1 hB dX10_digit_30 (fun u2 eu2 H locs P => ?_)
  have h := h u2 eu2
  refine lv_aload_n hx hb dX10_digit_33 rfl (lv_at hl 0 rfl) ?_
  refine g_10_7 C P in_X10_digit_10 wd_X10_digit_1 dX10_digit_34 ?_
  refine lv_if_eq (tgt := 44) hx hb dX10_digit_37 (by decide) (fun c3 => ?_) (fun c3 => ?_)
  · have h := ite_t h c3
    refine lv_aload_n hx hb dX10_digit_44 rfl (lv_at hl 0 rfl) ?_
    refine lv_iconst (v := 0) hx hb dX10_digit_45 (by decide) ?_
    refine p_10_7 C P in_X10_digit_10 wd_X10_digit_1 (Or.inl rfl) dX10_digit_46 (fun u4 eu4 H locs P => ?_)
    have h := h u4 eu4
    refine lv_iconst (v := 0) hx hb dX10_digit_49 (by decide) ?_
    exact r_ireti C P h dX10_digit_50
  · have h := ite_f h c3
    refine lv_iload_n hx hb dX10_digit_40 rfl (lv_at hl 1 rfl) ?_
    refine lv_if_ge (tgt := 51) hx hb dX10_digit_41 (by decide) (fun c5 => ?_) (fun c5 => ?_)
    · have h := ite_t h c5
      refine lv_aload_n hx hb dX10_digit_51 rfl (lv_at hl 0 rfl) ?_
      refine lv_dup hx hb dX10_digit_52 rfl ?_
      refine g_10_6 C P in_X10_digit_10 wd_X10_digit_2 dX10_digit_53 ?_
      refine lv_iconst (v := 1) hx hb dX10_digit_56 (by decide) ?_
      refine lv_iadd hx hb dX10_digit_57 ?_
      refine p_10_6 C P in_X10_digit_10 wd_X10_digit_2 dX10_digit_58 (fun u6 eu6 H locs P => ?_)
      have h := h u6 eu6
      refine lv_aload_n hx hb dX10_digit_61 rfl (lv_at hl 0 rfl) ?_
      refine g_10_5 C P in_X10_digit_10 wd_X10_digit_3 dX10_digit_62 ?_
      refine lv_aload_n hx hb dX10_digit_65 rfl (lv_at hl 0 rfl) ?_
      refine g_10_6 C P in_X10_digit_10 wd_X10_digit_2 dX10_digit_66 ?_
      refine lv_iconst (v := 1) hx hb dX10_digit_69 (by decide) ?_
      refine lv_isub hx hb dX10_digit_70 ?_
      obtain ⟨hi, h⟩ := h
      refine mld_4 C P hi dX10_digit_71 ?_
      refine lv_bipush (v := 48) hx hb dX10_digit_72 (by decide) ?_
      refine lv_isub hx hb dX10_digit_74 ?_
      exact r_ireti C P h dX10_digit_75
    · have h := ite_f h c5
      refine lv_aload_n hx hb dX10_digit_44 rfl (lv_at hl 0 rfl) ?_
      refine lv_iconst (v := 0) hx hb dX10_digit_45 (by decide) ?_
      refine p_10_7 C P in_X10_digit_10 wd_X10_digit_1 (Or.inl rfl) dX10_digit_46 (fun u7 eu7 H locs P => ?_)
      have h := h u7 eu7
      refine lv_iconst (v := 0) hx hb dX10_digit_49 (by decide) ?_
      exact r_ireti C P h dX10_digit_50
def w_X10_digit_29  (Φ : Int32 → Mm → Prop) (x2 : Int32) (u0 : Mm) : Prop := (w_X10_digit_30 Φ x2 ((0 : Int32)) u0)
set_option maxHeartbeats 4000000 in
set_option maxRecDepth 100000 in
theorem t_X10_digit_29 {p : Program} {l : Launch} {e : Env} {s : State} {m : MethodId} {args : Array Value} {below : List Frame} {meth : Method} {c : Code} {D : va_G} {cA : Nat → ClassId} {o : Nat}  {Φ : Int32 → Mm → Prop} (C : Cx p m meth c s args cX10_digit 3 wsX10_digit RX10 (some .int) D (tysL cA)) : ∀ (x2 : Int32) (u0 : Mm), ∀ (H : Heap) (locs : List Loc) (ls : Array Slot), Hp 6 o D (EM cA o u0) s H locs → lv_has ls 3 [(0, .ref (o + 0)), (2, .int x2)] → w_X10_digit_29 Φ x2 u0 → W p l e rm_X10_digit s m args below meth c H locs 0 0 (MQ below (Qg vI Φ (fun μ => Wd 6 o D (tysL cA) (EM cA o μ)) (aA o 6)) args s 0 0 (aA o 6)) (F0 m 29 ls [.ref (o + 0)]) := by
  intro x2 u0 H locs ls P hl h
  have hx := C.1.1
  have hb := C.1.2.1
  unfold w_X10_digit_29 at h
  refine lv_iconst (v := 0) hx hb dX10_digit_29 (by decide) ?_
  exact t_X10_digit_30 C _ _ u0 _ _ _ P (lv_sub hl [0, 1] rfl) h
def w_X10_digit (a1 : Int32) (a2 : Int32) (u0 : Mm) (Φ : Int32 → Mm → Prop) : Prop := (if (u0 0 7) = 0 then (w_X10_digit_29 Φ a2 u0) else (w_X10_isAt ((((48 : Int32) + a1).toUInt32 % 65536).toInt32) ((((48 : Int32) + a2).toUInt32 % 65536).toInt32) u0 (fun r9 u8 => (if r9 = 0 then (w_X10_digit_29 Φ a2 u8) else (w_X10_digit_30 Φ a2 ((1 : Int32)) u8)))))
set_option maxHeartbeats 4000000 in
set_option maxRecDepth 100000 in
theorem t_X10_digit_0 {p : Program} {l : Launch} {e : Env} {s : State} {m : MethodId} {args : Array Value} {below : List Frame} {meth : Method} {c : Code} {D : va_G} {cA : Nat → ClassId} {o : Nat}  {Φ : Int32 → Mm → Prop} (C : Cx p m meth c s args cX10_digit 3 wsX10_digit RX10 (some .int) D (tysL cA)) : ∀ (a1 : Int32) (a2 : Int32) (u0 : Mm), ∀ (H : Heap) (locs : List Loc) (ls : Array Slot), Hp 6 o D (EM cA o u0) s H locs → lv_has ls 3 [(0, .ref (o + 0)), (1, .int a1), (2, .int a2)] → w_X10_digit a1 a2 u0 Φ → W p l e rm_X10_digit s m args below meth c H locs 0 0 (MQ below (Qg vI Φ (fun μ => Wd 6 o D (tysL cA) (EM cA o μ)) (aA o 6)) args s 0 0 (aA o 6)) (F0 m 0 ls []) := by
  intro a1 a2 u0 H locs ls P hl h
  have hx := C.1.1
  have hb := C.1.2.1
  unfold w_X10_digit at h
  refine lv_aload_n hx hb dX10_digit_0 rfl (lv_at hl 0 rfl) ?_
  refine lv_aload_n hx hb dX10_digit_1 rfl (lv_at hl 0 rfl) ?_
  refine g_10_7 C P in_X10_digit_10 wd_X10_digit_1 dX10_digit_2 ?_
  refine lv_if_eq (tgt := 29) hx hb dX10_digit_5 (by decide) (fun c1 => ?_) (fun c1 => ?_)
  · have h := ite_t h c1
    exact t_X10_digit_29 C _ u0 _ _ _ P (lv_sub hl [0, 2] rfl) h
  · have h := ite_f h c1
    refine lv_aload_n hx hb dX10_digit_8 rfl (lv_at hl 0 rfl) ?_
    refine lv_bipush (v := 48) hx hb dX10_digit_9 (by decide) ?_
    refine lv_iload_n hx hb dX10_digit_11 rfl (lv_at hl 1 rfl) ?_
    refine lv_iadd hx hb dX10_digit_12 ?_
    refine lv_i2c hx hb dX10_digit_13 rfl ?_
    refine lv_bipush (v := 48) hx hb dX10_digit_14 (by decide) ?_
    refine lv_iload_n hx hb dX10_digit_16 rfl (lv_at hl 2 rfl) ?_
    refine lv_iadd hx hb dX10_digit_17 ?_
    refine lv_i2c hx hb dX10_digit_18 rfl ?_
    refine r_calli (F := EM cA o) (va_runV (As := [.int (((48 : Int32) + a1).toUInt32 % 65536).toInt32, .int (((48 : Int32) + a2).toUInt32 % 65536).toInt32]) (rest := [.ref (o + 0)]) C.1 (c_X10_isAt l D cA o _ _ u0 _ h) (cwV 2 C.1.2.2.2.2 gX10_digit_X10_isAt rfl rfl rfl (by decide +kernel) ⟨Nat.le_of_ble_eq_true rfl, Nat.le_of_ble_eq_true rfl⟩) (r_preV C P [.int (((48 : Int32) + a1).toUInt32 % 65536).toInt32, .int (((48 : Int32) + a2).toUInt32 % 65536).toInt32] (ci := 10) rfl (by decide) EKM_0) rfl rfl hl.1 rfl (lv_room (Nat.le_of_ble_eq_true rfl)) dX10_digit_19 ⟨Nat.le_of_ble_eq_true rfl, Nat.le_of_ble_eq_true rfl⟩) P.2 (fun r9 u8 H locs h P => ?_)
    refine lv_if_eq (tgt := 29) hx hb dX10_digit_22 (by decide) (fun c10 => ?_) (fun c10 => ?_)
    · have h := ite_t h c10
      exact t_X10_digit_29 C _ u8 _ _ _ P (lv_sub hl [0, 2] rfl) h
    · have h := ite_f h c10
      refine lv_iconst (v := 1) hx hb dX10_digit_25 (by decide) ?_
      refine lv_goto (tgt := 30) hx hb dX10_digit_26 (by decide) ?_
      exact t_X10_digit_30 C _ _ u8 _ _ _ P (lv_sub hl [0, 2] rfl) h
set_option maxHeartbeats 4000000 in
set_option maxRecDepth 100000 in
theorem c_X10_digit (l : Launch) (D : va_G) (cA : Nat → ClassId) (o : Nat) (a1 : Int32) (a2 : Int32)  (u0 : Mm) (Φ : Int32 → Mm → Prop) (h : w_X10_digit a1 a2 u0 Φ) : Met l yX10_digit wsX10_digit rm_X10_digit (va_Pc [.ref (o + 0), .int a1, .int a2] (Wd 6 o D (tysL cA) (EM cA o u0))) (Qg vI Φ (fun μ => Wd 6 o D (tysL cA) (EM cA o μ)) (aA o 6)) 0 0 (aA o 6) := by
  refine Met.ofW (cc := cX10_digit) (maxL := 3) (ret := (some .int)) (by decide) rfl ?_
  intro p e s m args below meth c s₁ B hml hv
  obtain ⟨rfl, hv⟩ := hv
  have hl := lv_entry ([.ref (o + 0), .int a1, .int a2]) (n := 3) (Nat.le_of_ble_eq_true rfl)
  rw [lg_entry_eq]
  exact t_X10_digit_0 ⟨⟨B.exec, B.bytes, hml, findClass_of_methodNamed B.named, atoms_spec (ws := wsX10_digit) B.pre⟩, B.returns, B.notSynchronized, hv.2⟩ a1 a2 u0 _ _ _ ⟨hv.1, va_S.rf⟩ hl h
