abbrev rm_X10_queueLength : Room := { frames := 2, cells := 0, slots := 0, locals := 45 }
theorem wd_X10_queueLength_1 : Cond.fieldLink RX10 7 "TurnstileBankModel" "row" "[I" ∈ wsX10_queueLength := List.mem_of_getElem? (i := 1) (by decide +kernel)
theorem in_X10_queueLength_10 : ∀ w ∈ wsX100, w ∈ wsX10_queueLength := fun w h => List.mem_cons_of_mem _ (List.mem_append_right _ h)
def w_X10_queueLength_5  (Φ : Int32 → Mm → Prop) : Nat → Int32 → Int32 → Int32 → Int32 → Mm → Prop
  | 0, _, _, _, _, _ => False
  | n + 1, x1, x2, x3, x4, u0 => (if (u0 1 (2 : Int32).toNatClampNeg) ≤ x4 then (Φ x3 u0) else (w_X10_isQueued x4 x1 x2 u0 (fun r3 u2 => (if r3 = 0 then (w_X10_queueLength_5 Φ n x1 x2 ((x3 + (0 : Int32))) ((x4 + 1)) u2) else (w_X10_queueLength_5 Φ n x1 x2 ((x3 + (1 : Int32))) ((x4 + 1)) u2)))))
set_option maxHeartbeats 4000000 in
set_option maxRecDepth 100000 in
theorem t_X10_queueLength_5 {p : Program} {l : Launch} {e : Env} {s : State} {m : MethodId} {args : Array Value} {below : List Frame} {meth : Method} {c : Code} {D : va_G} {cA : Nat → ClassId} {o : Nat}  {Φ : Int32 → Mm → Prop} (C : Cx p m meth c s args cX10_queueLength 5 wsX10_queueLength RX10 (some .int) D (tysL cA)) : ∀ n : Nat, ∀ (x1 : Int32) (x2 : Int32) (x3 : Int32) (x4 : Int32) (u0 : Mm), ∀ (H : Heap) (locs : List Loc) (ls : Array Slot), Hp 6 o D (EM cA o u0) s H locs → lv_has ls 5 [(0, .ref (o + 0)), (1, .int x1), (2, .int x2), (3, .int x3), (4, .int x4)] → w_X10_queueLength_5 Φ n x1 x2 x3 x4 u0 → W p l e rm_X10_queueLength s m args below meth c H locs 0 0 (MQ below (Qg vI Φ (fun μ => Wd 6 o D (tysL cA) (EM cA o μ)) (aA o 6)) args s 0 0 (aA o 6)) (F0 m 5 ls []) := by
  intro n
  induction n with
  | zero => intro x1 x2 x3 x4 u0 H locs ls P hl h; exact h.elim
  | succ n ih =>
    intro x1 x2 x3 x4 u0 H locs ls P hl h
    have hx := C.1.1
    have hb := C.1.2.1
    rw [w_X10_queueLength_5] at h
    refine lv_iload hx hb dX10_queueLength_5 (lv_at hl 4 rfl) ?_
    refine lv_aload_n hx hb dX10_queueLength_7 rfl (lv_at hl 0 rfl) ?_
    refine g_10_0 C P in_X10_queueLength_10 wd_X10_queueLength_1 dX10_queueLength_8 ?_
    refine lv_iconst (v := 2) hx hb dX10_queueLength_11 (by decide) ?_
    refine mld_1 C P (by unfold vp_in; decide) dX10_queueLength_12 ?_
    refine lv_icmp_ge (tgt := 41) hx hb dX10_queueLength_13 (by decide) (fun c1 => ?_) (fun c1 => ?_)
    · have h := ite_t h c1
      refine lv_iload_n hx hb dX10_queueLength_41 rfl (lv_at hl 3 rfl) ?_
      exact r_ireti C P h dX10_queueLength_42
    · have h := ite_f h c1
      refine lv_iload_n hx hb dX10_queueLength_16 rfl (lv_at hl 3 rfl) ?_
      refine lv_aload_n hx hb dX10_queueLength_17 rfl (lv_at hl 0 rfl) ?_
      refine lv_iload hx hb dX10_queueLength_18 (lv_at hl 4 rfl) ?_
      refine lv_iload_n hx hb dX10_queueLength_20 rfl (lv_at hl 1 rfl) ?_
      refine lv_iload_n hx hb dX10_queueLength_21 rfl (lv_at hl 2 rfl) ?_
      refine r_calli (F := EM cA o) (va_runV (As := [.int x4, .int x1, .int x2]) (rest := [.int x3]) C.1 (c_X10_isQueued l D cA o _ _ _ u0 _ h) (cwV 3 C.1.2.2.2.2 gX10_queueLength_X10_isQueued rfl rfl rfl (by decide +kernel) ⟨Nat.le_of_ble_eq_true rfl, Nat.le_of_ble_eq_true rfl⟩) (r_preV C P [.int x4, .int x1, .int x2] (ci := 10) rfl (by decide) EKM_0) rfl rfl hl.1 rfl (lv_room (Nat.le_of_ble_eq_true rfl)) dX10_queueLength_22 ⟨Nat.le_of_ble_eq_true rfl, Nat.le_of_ble_eq_true rfl⟩) P.2 (fun r3 u2 H locs h P => ?_)
      refine lv_if_eq (tgt := 32) hx hb dX10_queueLength_25 (by decide) (fun c4 => ?_) (fun c4 => ?_)
      · have h := ite_t h c4
        refine lv_iconst (v := 0) hx hb dX10_queueLength_32 (by decide) ?_
        refine lv_iadd hx hb dX10_queueLength_33 ?_
        refine lv_istore_n (lv' := [(3, .int (x3 + (0 : Int32))), (0, .ref (o + 0)), (1, .int x1), (2, .int x2), (4, .int x4)]) hx hb dX10_queueLength_34 rfl hl (by decide) rfl (fun ls hl => ?_)
        refine lv_iinc (v := (x4 + 1)) (lv' := [(4, .int (x4 + 1)), (3, .int (x3 + (0 : Int32))), (0, .ref (o + 0)), (1, .int x1), (2, .int x2)]) hx hb dX10_queueLength_35 hl (k := 4) rfl rfl (by decide) rfl (fun ls hl => ?_)
        refine lv_goto (tgt := 5) hx hb dX10_queueLength_38 (by decide) ?_
        exact ih _ _ _ _ u2 _ _ _ P (lv_sub hl [2, 3, 4, 1, 0] rfl) h
      · have h := ite_f h c4
        refine lv_iconst (v := 1) hx hb dX10_queueLength_28 (by decide) ?_
        refine lv_goto (tgt := 33) hx hb dX10_queueLength_29 (by decide) ?_
        refine lv_iadd hx hb dX10_queueLength_33 ?_
        refine lv_istore_n (lv' := [(3, .int (x3 + (1 : Int32))), (0, .ref (o + 0)), (1, .int x1), (2, .int x2), (4, .int x4)]) hx hb dX10_queueLength_34 rfl hl (by decide) rfl (fun ls hl => ?_)
        refine lv_iinc (v := (x4 + 1)) (lv' := [(4, .int (x4 + 1)), (3, .int (x3 + (1 : Int32))), (0, .ref (o + 0)), (1, .int x1), (2, .int x2)]) hx hb dX10_queueLength_35 hl (k := 4) rfl rfl (by decide) rfl (fun ls hl => ?_)
        refine lv_goto (tgt := 5) hx hb dX10_queueLength_38 (by decide) ?_
        exact ih _ _ _ _ u2 _ _ _ P (lv_sub hl [2, 3, 4, 1, 0] rfl) h
def w_X10_queueLength (a1 : Int32) (a2 : Int32) (u0 : Mm) (Φ : Int32 → Mm → Prop) : Prop := (∃ n5 : Nat, w_X10_queueLength_5 Φ n5 a1 a2 ((0 : Int32)) ((0 : Int32)) u0)
set_option maxHeartbeats 4000000 in
set_option maxRecDepth 100000 in
theorem t_X10_queueLength_0 {p : Program} {l : Launch} {e : Env} {s : State} {m : MethodId} {args : Array Value} {below : List Frame} {meth : Method} {c : Code} {D : va_G} {cA : Nat → ClassId} {o : Nat}  {Φ : Int32 → Mm → Prop} (C : Cx p m meth c s args cX10_queueLength 5 wsX10_queueLength RX10 (some .int) D (tysL cA)) : ∀ (a1 : Int32) (a2 : Int32) (u0 : Mm), ∀ (H : Heap) (locs : List Loc) (ls : Array Slot), Hp 6 o D (EM cA o u0) s H locs → lv_has ls 5 [(0, .ref (o + 0)), (1, .int a1), (2, .int a2)] → w_X10_queueLength a1 a2 u0 Φ → W p l e rm_X10_queueLength s m args below meth c H locs 0 0 (MQ below (Qg vI Φ (fun μ => Wd 6 o D (tysL cA) (EM cA o μ)) (aA o 6)) args s 0 0 (aA o 6)) (F0 m 0 ls []) := by
  intro a1 a2 u0 H locs ls P hl h
  have hx := C.1.1
  have hb := C.1.2.1
  unfold w_X10_queueLength at h
  refine lv_iconst (v := 0) hx hb dX10_queueLength_0 (by decide) ?_
  refine lv_istore_n (lv' := [(3, .int (0 : Int32)), (0, .ref (o + 0)), (1, .int a1), (2, .int a2)]) hx hb dX10_queueLength_1 rfl hl (by decide) rfl (fun ls hl => ?_)
  refine lv_iconst (v := 0) hx hb dX10_queueLength_2 (by decide) ?_
  refine lv_istore (lv' := [(4, .int (0 : Int32)), (3, .int (0 : Int32)), (0, .ref (o + 0)), (1, .int a1), (2, .int a2)]) hx hb dX10_queueLength_3 hl (by decide) rfl (fun ls hl => ?_)
  obtain ⟨n5, h⟩ := h
  exact t_X10_queueLength_5 C n5 _ _ _ _ u0 _ _ _ P (lv_sub hl [2, 3, 4, 1, 0] rfl) h
set_option maxHeartbeats 4000000 in
set_option maxRecDepth 100000 in
theorem c_X10_queueLength (l : Launch) (D : va_G) (cA : Nat → ClassId) (o : Nat) (a1 : Int32) (a2 : Int32)  (u0 : Mm) (Φ : Int32 → Mm → Prop) (h : w_X10_queueLength a1 a2 u0 Φ) : Met l yX10_queueLength wsX10_queueLength rm_X10_queueLength (va_Pc [.ref (o + 0), .int a1, .int a2] (Wd 6 o D (tysL cA) (EM cA o u0))) (Qg vI Φ (fun μ => Wd 6 o D (tysL cA) (EM cA o μ)) (aA o 6)) 0 0 (aA o 6) := by
  refine Met.ofW (cc := cX10_queueLength) (maxL := 5) (ret := (some .int)) (by decide) rfl ?_
  intro p e s m args below meth c s₁ B hml hv
  obtain ⟨rfl, hv⟩ := hv
  have hl := lv_entry ([.ref (o + 0), .int a1, .int a2]) (n := 5) (Nat.le_of_ble_eq_true rfl)
  rw [lg_entry_eq]
  exact t_X10_queueLength_0 ⟨⟨B.exec, B.bytes, hml, findClass_of_methodNamed B.named, atoms_spec (ws := wsX10_queueLength) B.pre⟩, B.returns, B.notSynchronized, hv.2⟩ a1 a2 u0 _ _ _ ⟨hv.1, va_S.rf⟩ hl h
abbrev rm_X10_queuedAt : Room := { frames := 2, cells := 0, slots := 0, locals := 45 }
theorem wd_X10_queuedAt_1 : Cond.fieldLink RX10 7 "TurnstileBankModel" "row" "[I" ∈ wsX10_queuedAt := List.mem_of_getElem? (i := 1) (by decide +kernel)
theorem in_X10_queuedAt_10 : ∀ w ∈ wsX100, w ∈ wsX10_queuedAt := fun w h => List.mem_cons_of_mem _ (List.mem_append_right _ h)
def w_X10_queuedAt_20 (X3 : Int32 → Int32 → Int32 → Int32 → Mm → Prop) (Φ : Int32 → Mm → Prop) : Nat → Int32 → Int32 → Int32 → Int32 → Int32 → Int32 → Mm → Prop
  | 0, _, _, _, _, _, _, _ => False
  | n + 1, x1, x2, x3, x4, x5, x6, u0 => (if (u0 1 (2 : Int32).toNatClampNeg) ≤ x6 then (w_X10_isQueued x4 x1 x2 u0 (fun r4 u3 => (if r4 = 0 then (X3 x1 x2 x3 ((x4 + 1)) u3) else (if x5 = x3 then (Φ x4 u3) else (X3 x1 x2 x3 ((x4 + 1)) u3))))) else (w_X10_isQueued x6 x1 x2 u0 (fun r8 u7 => (if r8 = 0 then (w_X10_queuedAt_20 X3 Φ n x1 x2 x3 x4 ((x5 + (0 : Int32))) ((x6 + 1)) u7) else (w_X10_of x6 ((6 : Int32)) u7 (fun r11 u10 => (w_X10_of x4 ((6 : Int32)) u10 (fun r13 u12 => (if r13 ≤ r11 then (w_X10_queuedAt_20 X3 Φ n x1 x2 x3 x4 ((x5 + (0 : Int32))) ((x6 + 1)) u12) else (w_X10_queuedAt_20 X3 Φ n x1 x2 x3 x4 ((x5 + (1 : Int32))) ((x6 + 1)) u12))))))))))
set_option maxHeartbeats 4000000 in
set_option maxRecDepth 100000 in
theorem t_X10_queuedAt_20 {p : Program} {l : Launch} {e : Env} {s : State} {m : MethodId} {args : Array Value} {below : List Frame} {meth : Method} {c : Code} {D : va_G} {cA : Nat → ClassId} {o : Nat} {X3 : Int32 → Int32 → Int32 → Int32 → Mm → Prop} {Φ : Int32 → Mm → Prop} (C : Cx p m meth c s args cX10_queuedAt 7 wsX10_queuedAt RX10 (some .int) D (tysL cA)) (hX3 : ∀ (x1 : Int32) (x2 : Int32) (x3 : Int32) (x4 : Int32) (u0 : Mm), ∀ (H : Heap) (locs : List Loc) (ls : Array Slot), Hp 6 o D (EM cA o u0) s H locs → lv_has ls 7 [(0, .ref (o + 0)), (1, .int x1), (2, .int x2), (3, .int x3), (4, .int x4)] → X3 x1 x2 x3 x4 u0 → W p l e rm_X10_queuedAt s m args below meth c H locs 0 0 (MQ below (Qg vI Φ (fun μ => Wd 6 o D (tysL cA) (EM cA o μ)) (aA o 6)) args s 0 0 (aA o 6)) (F0 m 3 ls [])) : ∀ n : Nat, ∀ (x1 : Int32) (x2 : Int32) (x3 : Int32) (x4 : Int32) (x5 : Int32) (x6 : Int32) (u0 : Mm), ∀ (H : Heap) (locs : List Loc) (ls : Array Slot), Hp 6 o D (EM cA o u0) s H locs → lv_has ls 7 [(0, .ref (o + 0)), (1, .int x1), (2, .int x2), (3, .int x3), (4, .int x4), (5, .int x5), (6, .int x6)] → w_X10_queuedAt_20 X3 Φ n x1 x2 x3 x4 x5 x6 u0 → W p l e rm_X10_queuedAt s m args below meth c H locs 0 0 (MQ below (Qg vI Φ (fun μ => Wd 6 o D (tysL cA) (EM cA o μ)) (aA o 6)) args s 0 0 (aA o 6)) (F0 m 20 ls []) := by
  intro n
  induction n with
  | zero => intro x1 x2 x3 x4 x5 x6 u0 H locs ls P hl h; exact h.elim
  | succ n ih =>
    intro x1 x2 x3 x4 x5 x6 u0 H locs ls P hl h
    have hx := C.1.1
    have hb := C.1.2.1
    rw [w_X10_queuedAt_20] at h
    refine lv_iload hx hb dX10_queuedAt_20 (lv_at hl 6 rfl) ?_
    refine lv_aload_n hx hb dX10_queuedAt_22 rfl (lv_at hl 0 rfl) ?_
    refine g_10_0 C P in_X10_queuedAt_10 wd_X10_queuedAt_1 dX10_queuedAt_23 ?_
    refine lv_iconst (v := 2) hx hb dX10_queuedAt_26 (by decide) ?_
    refine mld_1 C P (by unfold vp_in; decide) dX10_queuedAt_27 ?_
    refine lv_icmp_ge (tgt := 77) hx hb dX10_queuedAt_28 (by decide) (fun c2 => ?_) (fun c2 => ?_)
    · have h := ite_t h c2
      refine lv_aload_n hx hb dX10_queuedAt_77 rfl (lv_at hl 0 rfl) ?_
      refine lv_iload hx hb dX10_queuedAt_78 (lv_at hl 4 rfl) ?_
      refine lv_iload_n hx hb dX10_queuedAt_80 rfl (lv_at hl 1 rfl) ?_
      refine lv_iload_n hx hb dX10_queuedAt_81 rfl (lv_at hl 2 rfl) ?_
      refine r_calli (F := EM cA o) (va_runV (As := [.int x4, .int x1, .int x2]) (rest := []) C.1 (c_X10_isQueued l D cA o _ _ _ u0 _ h) (cwV 3 C.1.2.2.2.2 gX10_queuedAt_X10_isQueued rfl rfl rfl (by decide +kernel) ⟨Nat.le_of_ble_eq_true rfl, Nat.le_of_ble_eq_true rfl⟩) (r_preV C P [.int x4, .int x1, .int x2] (ci := 10) rfl (by decide) EKM_0) rfl rfl hl.1 rfl (lv_room (Nat.le_of_ble_eq_true rfl)) dX10_queuedAt_82 ⟨Nat.le_of_ble_eq_true rfl, Nat.le_of_ble_eq_true rfl⟩) P.2 (fun r4 u3 H locs h P => ?_)
      refine lv_if_eq (tgt := 97) hx hb dX10_queuedAt_85 (by decide) (fun c5 => ?_) (fun c5 => ?_)
      · have h := ite_t h c5
        refine lv_iinc (v := (x4 + 1)) (lv' := [(4, .int (x4 + 1)), (0, .ref (o + 0)), (1, .int x1), (2, .int x2), (3, .int x3), (5, .int x5), (6, .int x6)]) hx hb dX10_queuedAt_97 hl (k := 4) rfl rfl (by decide) rfl (fun ls hl => ?_)
        refine lv_goto (tgt := 3) hx hb dX10_queuedAt_100 (by decide) ?_
        exact hX3 _ _ _ _ u3 _ _ _ P (lv_sub hl [1, 2, 3, 4, 0] rfl) h
      · have h := ite_f h c5
        refine lv_iload hx hb dX10_queuedAt_88 (lv_at hl 5 rfl) ?_
        refine lv_iload_n hx hb dX10_queuedAt_90 rfl (lv_at hl 3 rfl) ?_
        refine lv_icmp_ne (tgt := 97) hx hb dX10_queuedAt_91 (by decide) (fun c6 => ?_) (fun c6 => ?_)
        · have h := ite_f h c6
          refine lv_iinc (v := (x4 + 1)) (lv' := [(4, .int (x4 + 1)), (0, .ref (o + 0)), (1, .int x1), (2, .int x2), (3, .int x3), (5, .int x5), (6, .int x6)]) hx hb dX10_queuedAt_97 hl (k := 4) rfl rfl (by decide) rfl (fun ls hl => ?_)
          refine lv_goto (tgt := 3) hx hb dX10_queuedAt_100 (by decide) ?_
          exact hX3 _ _ _ _ u3 _ _ _ P (lv_sub hl [1, 2, 3, 4, 0] rfl) h
        · have h := ite_t h c6
          refine lv_iload hx hb dX10_queuedAt_94 (lv_at hl 4 rfl) ?_
          exact r_ireti C P h dX10_queuedAt_96
    · have h := ite_f h c2
      refine lv_iload hx hb dX10_queuedAt_31 (lv_at hl 5 rfl) ?_
      refine lv_aload_n hx hb dX10_queuedAt_33 rfl (lv_at hl 0 rfl) ?_
      refine lv_iload hx hb dX10_queuedAt_34 (lv_at hl 6 rfl) ?_
      refine lv_iload_n hx hb dX10_queuedAt_36 rfl (lv_at hl 1 rfl) ?_
      refine lv_iload_n hx hb dX10_queuedAt_37 rfl (lv_at hl 2 rfl) ?_
      refine r_calli (F := EM cA o) (va_runV (As := [.int x6, .int x1, .int x2]) (rest := [.int x5]) C.1 (c_X10_isQueued l D cA o _ _ _ u0 _ h) (cwV 3 C.1.2.2.2.2 gX10_queuedAt_X10_isQueued rfl rfl rfl (by decide +kernel) ⟨Nat.le_of_ble_eq_true rfl, Nat.le_of_ble_eq_true rfl⟩) (r_preV C P [.int x6, .int x1, .int x2] (ci := 10) rfl (by decide) EKM_0) rfl rfl hl.1 rfl (lv_room (Nat.le_of_ble_eq_true rfl)) dX10_queuedAt_38 ⟨Nat.le_of_ble_eq_true rfl, Nat.le_of_ble_eq_true rfl⟩) P.2 (fun r8 u7 H locs h P => ?_)
      refine lv_if_eq (tgt := 67) hx hb dX10_queuedAt_41 (by decide) (fun c9 => ?_) (fun c9 => ?_)
      · have h := ite_t h c9
        refine lv_iconst (v := 0) hx hb dX10_queuedAt_67 (by decide) ?_
        refine lv_iadd hx hb dX10_queuedAt_68 ?_
        refine lv_istore (lv' := [(5, .int (x5 + (0 : Int32))), (0, .ref (o + 0)), (1, .int x1), (2, .int x2), (3, .int x3), (4, .int x4), (6, .int x6)]) hx hb dX10_queuedAt_69 hl (by decide) rfl (fun ls hl => ?_)
        refine lv_iinc (v := (x6 + 1)) (lv' := [(6, .int (x6 + 1)), (5, .int (x5 + (0 : Int32))), (0, .ref (o + 0)), (1, .int x1), (2, .int x2), (3, .int x3), (4, .int x4)]) hx hb dX10_queuedAt_71 hl (k := 6) rfl rfl (by decide) rfl (fun ls hl => ?_)
        refine lv_goto (tgt := 20) hx hb dX10_queuedAt_74 (by decide) ?_
        exact ih _ _ _ _ _ _ u7 _ _ _ P (lv_sub hl [2, 3, 4, 5, 6, 1, 0] rfl) h
      · have h := ite_f h c9
        refine lv_aload_n hx hb dX10_queuedAt_44 rfl (lv_at hl 0 rfl) ?_
        refine lv_iload hx hb dX10_queuedAt_45 (lv_at hl 6 rfl) ?_
        refine lv_bipush (v := 6) hx hb dX10_queuedAt_47 (by decide) ?_
        refine r_calli (F := EM cA o) (va_runV (As := [.int x6, .int (6 : Int32)]) (rest := [.int x5]) C.1 (c_X10_of l D cA o _ _ u7 _ h) (cwV 2 C.1.2.2.2.2 gX10_queuedAt_X10_of rfl rfl rfl (by decide +kernel) ⟨Nat.le_of_ble_eq_true rfl, Nat.le_of_ble_eq_true rfl⟩) (r_preV C P [.int x6, .int (6 : Int32)] (ci := 10) rfl (by decide) EKM_0) rfl rfl hl.1 rfl (lv_room (Nat.le_of_ble_eq_true rfl)) dX10_queuedAt_49 ⟨Nat.le_of_ble_eq_true rfl, Nat.le_of_ble_eq_true rfl⟩) P.2 (fun r11 u10 H locs h P => ?_)
        refine lv_aload_n hx hb dX10_queuedAt_52 rfl (lv_at hl 0 rfl) ?_
        refine lv_iload hx hb dX10_queuedAt_53 (lv_at hl 4 rfl) ?_
        refine lv_bipush (v := 6) hx hb dX10_queuedAt_55 (by decide) ?_
        refine r_calli (F := EM cA o) (va_runV (As := [.int x4, .int (6 : Int32)]) (rest := [.int r11, .int x5]) C.1 (c_X10_of l D cA o _ _ u10 _ h) (cwV 2 C.1.2.2.2.2 gX10_queuedAt_X10_of rfl rfl rfl (by decide +kernel) ⟨Nat.le_of_ble_eq_true rfl, Nat.le_of_ble_eq_true rfl⟩) (r_preV C P [.int x4, .int (6 : Int32)] (ci := 10) rfl (by decide) EKM_0) rfl rfl hl.1 rfl (lv_room (Nat.le_of_ble_eq_true rfl)) dX10_queuedAt_57 ⟨Nat.le_of_ble_eq_true rfl, Nat.le_of_ble_eq_true rfl⟩) P.2 (fun r13 u12 H locs h P => ?_)
        refine lv_icmp_ge (tgt := 67) hx hb dX10_queuedAt_60 (by decide) (fun c14 => ?_) (fun c14 => ?_)
        · have h := ite_t h c14
          refine lv_iconst (v := 0) hx hb dX10_queuedAt_67 (by decide) ?_
          refine lv_iadd hx hb dX10_queuedAt_68 ?_
          refine lv_istore (lv' := [(5, .int (x5 + (0 : Int32))), (0, .ref (o + 0)), (1, .int x1), (2, .int x2), (3, .int x3), (4, .int x4), (6, .int x6)]) hx hb dX10_queuedAt_69 hl (by decide) rfl (fun ls hl => ?_)
          refine lv_iinc (v := (x6 + 1)) (lv' := [(6, .int (x6 + 1)), (5, .int (x5 + (0 : Int32))), (0, .ref (o + 0)), (1, .int x1), (2, .int x2), (3, .int x3), (4, .int x4)]) hx hb dX10_queuedAt_71 hl (k := 6) rfl rfl (by decide) rfl (fun ls hl => ?_)
          refine lv_goto (tgt := 20) hx hb dX10_queuedAt_74 (by decide) ?_
          exact ih _ _ _ _ _ _ u12 _ _ _ P (lv_sub hl [2, 3, 4, 5, 6, 1, 0] rfl) h
        · have h := ite_f h c14
          refine lv_iconst (v := 1) hx hb dX10_queuedAt_63 (by decide) ?_
          refine lv_goto (tgt := 68) hx hb dX10_queuedAt_64 (by decide) ?_
          refine lv_iadd hx hb dX10_queuedAt_68 ?_
          refine lv_istore (lv' := [(5, .int (x5 + (1 : Int32))), (0, .ref (o + 0)), (1, .int x1), (2, .int x2), (3, .int x3), (4, .int x4), (6, .int x6)]) hx hb dX10_queuedAt_69 hl (by decide) rfl (fun ls hl => ?_)
          refine lv_iinc (v := (x6 + 1)) (lv' := [(6, .int (x6 + 1)), (5, .int (x5 + (1 : Int32))), (0, .ref (o + 0)), (1, .int x1), (2, .int x2), (3, .int x3), (4, .int x4)]) hx hb dX10_queuedAt_71 hl (k := 6) rfl rfl (by decide) rfl (fun ls hl => ?_)
          refine lv_goto (tgt := 20) hx hb dX10_queuedAt_74 (by decide) ?_
          exact ih _ _ _ _ _ _ u12 _ _ _ P (lv_sub hl [2, 3, 4, 5, 6, 1, 0] rfl) h
def w_X10_queuedAt_3  (Φ : Int32 → Mm → Prop) : Nat → Int32 → Int32 → Int32 → Int32 → Mm → Prop
  | 0, _, _, _, _, _ => False
  | n + 1, x1, x2, x3, x4, u0 => (if (u0 1 (2 : Int32).toNatClampNeg) ≤ x4 then (Φ ((-5 : Int32)) u0) else (∃ n20 : Nat, w_X10_queuedAt_20 (fun y0 y1 y2 y3 u => w_X10_queuedAt_3 Φ n y0 y1 y2 y3 u) Φ n20 x1 x2 x3 x4 ((0 : Int32)) ((0 : Int32)) u0))
set_option maxHeartbeats 4000000 in
set_option maxRecDepth 100000 in
theorem t_X10_queuedAt_3 {p : Program} {l : Launch} {e : Env} {s : State} {m : MethodId} {args : Array Value} {below : List Frame} {meth : Method} {c : Code} {D : va_G} {cA : Nat → ClassId} {o : Nat}  {Φ : Int32 → Mm → Prop} (C : Cx p m meth c s args cX10_queuedAt 7 wsX10_queuedAt RX10 (some .int) D (tysL cA)) : ∀ n : Nat, ∀ (x1 : Int32) (x2 : Int32) (x3 : Int32) (x4 : Int32) (u0 : Mm), ∀ (H : Heap) (locs : List Loc) (ls : Array Slot), Hp 6 o D (EM cA o u0) s H locs → lv_has ls 7 [(0, .ref (o + 0)), (1, .int x1), (2, .int x2), (3, .int x3), (4, .int x4)] → w_X10_queuedAt_3 Φ n x1 x2 x3 x4 u0 → W p l e rm_X10_queuedAt s m args below meth c H locs 0 0 (MQ below (Qg vI Φ (fun μ => Wd 6 o D (tysL cA) (EM cA o μ)) (aA o 6)) args s 0 0 (aA o 6)) (F0 m 3 ls []) := by
  intro n
  induction n with
  | zero => intro x1 x2 x3 x4 u0 H locs ls P hl h; exact h.elim
  | succ n ih =>
    intro x1 x2 x3 x4 u0 H locs ls P hl h
    have hx := C.1.1
    have hb := C.1.2.1
    rw [w_X10_queuedAt_3] at h
    refine lv_iload hx hb dX10_queuedAt_3 (lv_at hl 4 rfl) ?_
    refine lv_aload_n hx hb dX10_queuedAt_5 rfl (lv_at hl 0 rfl) ?_
    refine g_10_0 C P in_X10_queuedAt_10 wd_X10_queuedAt_1 dX10_queuedAt_6 ?_
    refine lv_iconst (v := 2) hx hb dX10_queuedAt_9 (by decide) ?_
    refine mld_1 C P (by unfold vp_in; decide) dX10_queuedAt_10 ?_
    refine lv_icmp_ge (tgt := 103) hx hb dX10_queuedAt_11 (by decide) (fun c1 => ?_) (fun c1 => ?_)
    · have h := ite_t h c1
      refine lv_bipush (v := -5) hx hb dX10_queuedAt_103 (by decide) ?_
      exact r_ireti C P h dX10_queuedAt_105
    · have h := ite_f h c1
      refine lv_iconst (v := 0) hx hb dX10_queuedAt_14 (by decide) ?_
      refine lv_istore (lv' := [(5, .int (0 : Int32)), (0, .ref (o + 0)), (1, .int x1), (2, .int x2), (3, .int x3), (4, .int x4)]) hx hb dX10_queuedAt_15 hl (by decide) rfl (fun ls hl => ?_)
      refine lv_iconst (v := 0) hx hb dX10_queuedAt_17 (by decide) ?_
      refine lv_istore (lv' := [(6, .int (0 : Int32)), (5, .int (0 : Int32)), (0, .ref (o + 0)), (1, .int x1), (2, .int x2), (3, .int x3), (4, .int x4)]) hx hb dX10_queuedAt_18 hl (by decide) rfl (fun ls hl => ?_)
      obtain ⟨n20, h⟩ := h
      exact t_X10_queuedAt_20 C ih n20 _ _ _ _ _ _ u0 _ _ _ P (lv_sub hl [2, 3, 4, 5, 6, 1, 0] rfl) h
def w_X10_queuedAt (a1 : Int32) (a2 : Int32) (a3 : Int32) (u0 : Mm) (Φ : Int32 → Mm → Prop) : Prop := (∃ n3 : Nat, w_X10_queuedAt_3 Φ n3 a1 a2 a3 ((0 : Int32)) u0)
set_option maxHeartbeats 4000000 in
set_option maxRecDepth 100000 in
theorem t_X10_queuedAt_0 {p : Program} {l : Launch} {e : Env} {s : State} {m : MethodId} {args : Array Value} {below : List Frame} {meth : Method} {c : Code} {D : va_G} {cA : Nat → ClassId} {o : Nat}  {Φ : Int32 → Mm → Prop} (C : Cx p m meth c s args cX10_queuedAt 7 wsX10_queuedAt RX10 (some .int) D (tysL cA)) : ∀ (a1 : Int32) (a2 : Int32) (a3 : Int32) (u0 : Mm), ∀ (H : Heap) (locs : List Loc) (ls : Array Slot), Hp 6 o D (EM cA o u0) s H locs → lv_has ls 7 [(0, .ref (o + 0)), (1, .int a1), (2, .int a2), (3, .int a3)] → w_X10_queuedAt a1 a2 a3 u0 Φ → W p l e rm_X10_queuedAt s m args below meth c H locs 0 0 (MQ below (Qg vI Φ (fun μ => Wd 6 o D (tysL cA) (EM cA o μ)) (aA o 6)) args s 0 0 (aA o 6)) (F0 m 0 ls []) := by
  intro a1 a2 a3 u0 H locs ls P hl h
  have hx := C.1.1
  have hb := C.1.2.1
  unfold w_X10_queuedAt at h
  refine lv_iconst (v := 0) hx hb dX10_queuedAt_0 (by decide) ?_
  refine lv_istore (lv' := [(4, .int (0 : Int32)), (0, .ref (o + 0)), (1, .int a1), (2, .int a2), (3, .int a3)]) hx hb dX10_queuedAt_1 hl (by decide) rfl (fun ls hl => ?_)
  obtain ⟨n3, h⟩ := h
  exact t_X10_queuedAt_3 C n3 _ _ _ _ u0 _ _ _ P (lv_sub hl [1, 2, 3, 4, 0] rfl) h
set_option maxHeartbeats 4000000 in
set_option maxRecDepth 100000 in
theorem c_X10_queuedAt (l : Launch) (D : va_G) (cA : Nat → ClassId) (o : Nat) (a1 : Int32) (a2 : Int32) (a3 : Int32)  (u0 : Mm) (Φ : Int32 → Mm → Prop) (h : w_X10_queuedAt a1 a2 a3 u0 Φ) : Met l yX10_queuedAt wsX10_queuedAt rm_X10_queuedAt (va_Pc [.ref (o + 0), .int a1, .int a2, .int a3] (Wd 6 o D (tysL cA) (EM cA o u0))) (Qg vI Φ (fun μ => Wd 6 o D (tysL cA) (EM cA o μ)) (aA o 6)) 0 0 (aA o 6) := by
  refine Met.ofW (cc := cX10_queuedAt) (maxL := 7) (ret := (some .int)) (by decide) rfl ?_
  intro p e s m args below meth c s₁ B hml hv
  obtain ⟨rfl, hv⟩ := hv
  have hl := lv_entry ([.ref (o + 0), .int a1, .int a2, .int a3]) (n := 7) (Nat.le_of_ble_eq_true rfl)
  rw [lg_entry_eq]
  exact t_X10_queuedAt_0 ⟨⟨B.exec, B.bytes, hml, findClass_of_methodNamed B.named, atoms_spec (ws := wsX10_queuedAt) B.pre⟩, B.returns, B.notSynchronized, hv.2⟩ a1 a2 a3 u0 _ _ _ ⟨hv.1, va_S.rf⟩ hl h
abbrev rm_X10_queue : Room := { frames := 1, cells := 0, slots := 0, locals := 23 }
theorem wd_X10_queue_1 : Cond.fieldLink RX10 7 "TurnstileBankModel" "row" "[I" ∈ wsX10_queue := List.mem_of_getElem? (i := 1) (by decide +kernel)
theorem in_X10_queue_10 : ∀ w ∈ wsX100, w ∈ wsX10_queue := fun w h => List.mem_cons_of_mem _ (List.mem_append_right _ h)
def w_X10_queue (a1 : Int32) (a2 : Int32) (a3 : Int32) (u0 : Mm) (Φ : Unit → Mm → Prop) : Prop := (w_X10_put a1 ((0 : Int32)) a3 u0 (fun _ u1 => (w_X10_put a1 ((3 : Int32)) a2 u1 (fun _ u3 => (w_X10_put a1 ((6 : Int32)) ((u3 1 (7 : Int32).toNatClampNeg)) u3 (fun _ u5 => (∀ u7 : Mm, u7 = up2 u5 1 (7 : Int32).toNatClampNeg ((u5 1 (7 : Int32).toNatClampNeg) + (1 : Int32)) → (Φ () u7))))))))
set_option maxHeartbeats 4000000 in
set_option maxRecDepth 100000 in
theorem t_X10_queue_0 {p : Program} {l : Launch} {e : Env} {s : State} {m : MethodId} {args : Array Value} {below : List Frame} {meth : Method} {c : Code} {D : va_G} {cA : Nat → ClassId} {o : Nat}  {Φ : Unit → Mm → Prop} (C : Cx p m meth c s args cX10_queue 4 wsX10_queue RX10 none D (tysL cA)) : ∀ (a1 : Int32) (a2 : Int32) (a3 : Int32) (u0 : Mm), ∀ (H : Heap) (locs : List Loc) (ls : Array Slot), Hp 6 o D (EM cA o u0) s H locs → lv_has ls 4 [(0, .ref (o + 0)), (1, .int a1), (2, .int a2), (3, .int a3)] → w_X10_queue a1 a2 a3 u0 Φ → W p l e rm_X10_queue s m args below meth c H locs 0 0 (MQ below (Qg vV Φ (fun μ => Wd 6 o D (tysL cA) (EM cA o μ)) (aA o 6)) args s 0 0 (aA o 6)) (F0 m 0 ls []) := by
  intro a1 a2 a3 u0 H locs ls P hl h
  have hx := C.1.1
  have hb := C.1.2.1
  unfold w_X10_queue at h
  refine lv_aload_n hx hb dX10_queue_0 rfl (lv_at hl 0 rfl) ?_
  refine lv_iload_n hx hb dX10_queue_1 rfl (lv_at hl 1 rfl) ?_
  refine lv_iconst (v := 0) hx hb dX10_queue_2 (by decide) ?_
  refine lv_iload_n hx hb dX10_queue_3 rfl (lv_at hl 3 rfl) ?_
  refine r_callv (F := EM cA o) (va_runV (As := [.int a1, .int (0 : Int32), .int a3]) (rest := []) C.1 (c_X10_put l D cA o _ _ _ u0 _ h) (cwV 3 C.1.2.2.2.2 gX10_queue_X10_put rfl rfl rfl (by decide +kernel) ⟨Nat.le_of_ble_eq_true rfl, Nat.le_of_ble_eq_true rfl⟩) (r_preV C P [.int a1, .int (0 : Int32), .int a3] (ci := 10) rfl (by decide) EKM_0) rfl rfl hl.1 rfl (lv_room (Nat.le_of_ble_eq_true rfl)) dX10_queue_4 ⟨Nat.le_of_ble_eq_true rfl, Nat.le_of_ble_eq_true rfl⟩) P.2 (fun u1 H locs h P => ?_)
  refine lv_aload_n hx hb dX10_queue_7 rfl (lv_at hl 0 rfl) ?_
  refine lv_iload_n hx hb dX10_queue_8 rfl (lv_at hl 1 rfl) ?_
  refine lv_iconst (v := 3) hx hb dX10_queue_9 (by decide) ?_
  refine lv_iload_n hx hb dX10_queue_10 rfl (lv_at hl 2 rfl) ?_
  refine r_callv (F := EM cA o) (va_runV (As := [.int a1, .int (3 : Int32), .int a2]) (rest := []) C.1 (c_X10_put l D cA o _ _ _ u1 _ h) (cwV 3 C.1.2.2.2.2 gX10_queue_X10_put rfl rfl rfl (by decide +kernel) ⟨Nat.le_of_ble_eq_true rfl, Nat.le_of_ble_eq_true rfl⟩) (r_preV C P [.int a1, .int (3 : Int32), .int a2] (ci := 10) rfl (by decide) EKM_0) rfl rfl hl.1 rfl (lv_room (Nat.le_of_ble_eq_true rfl)) dX10_queue_11 ⟨Nat.le_of_ble_eq_true rfl, Nat.le_of_ble_eq_true rfl⟩) P.2 (fun u3 H locs h P => ?_)
  refine lv_aload_n hx hb dX10_queue_14 rfl (lv_at hl 0 rfl) ?_
  refine lv_iload_n hx hb dX10_queue_15 rfl (lv_at hl 1 rfl) ?_
  refine lv_bipush (v := 6) hx hb dX10_queue_16 (by decide) ?_
  refine lv_aload_n hx hb dX10_queue_18 rfl (lv_at hl 0 rfl) ?_
  refine g_10_0 C P in_X10_queue_10 wd_X10_queue_1 dX10_queue_19 ?_
  refine lv_bipush (v := 7) hx hb dX10_queue_22 (by decide) ?_
  refine mld_1 C P (by unfold vp_in; decide) dX10_queue_24 ?_
  refine r_callv (F := EM cA o) (va_runV (As := [.int a1, .int (6 : Int32), .int (u3 1 (7 : Int32).toNatClampNeg)]) (rest := []) C.1 (c_X10_put l D cA o _ _ _ u3 _ h) (cwV 3 C.1.2.2.2.2 gX10_queue_X10_put rfl rfl rfl (by decide +kernel) ⟨Nat.le_of_ble_eq_true rfl, Nat.le_of_ble_eq_true rfl⟩) (r_preV C P [.int a1, .int (6 : Int32), .int (u3 1 (7 : Int32).toNatClampNeg)] (ci := 10) rfl (by decide) EKM_0) rfl rfl hl.1 rfl (lv_room (Nat.le_of_ble_eq_true rfl)) dX10_queue_25 ⟨Nat.le_of_ble_eq_true rfl, Nat.le_of_ble_eq_true rfl⟩) P.2 (fun u5 H locs h P => ?_)
  refine lv_aload_n hx hb dX10_queue_28 rfl (lv_at hl 0 rfl) ?_
  refine g_10_0 C P in_X10_queue_10 wd_X10_queue_1 dX10_queue_29 ?_
  refine lv_bipush (v := 7) hx hb dX10_queue_32 (by decide) ?_
  refine lv_dup2_11 hx hb dX10_queue_34 rfl rfl ?_
  refine mld_1 C P (by unfold vp_in; decide) dX10_queue_35 ?_
  refine lv_iconst (v := 1) hx hb dX10_queue_36 (by decide) ?_
  refine lv_iadd hx hb dX10_queue_37 ?_
  refine mst_1 C P (by unfold vp_in; decide) dX10_queue_38 (fun u7 eu7 H locs P => ?_)
  have h := h u7 eu7
  exact r_ret C P h dX10_queue_39
set_option maxHeartbeats 4000000 in
set_option maxRecDepth 100000 in
theorem c_X10_queue (l : Launch) (D : va_G) (cA : Nat → ClassId) (o : Nat) (a1 : Int32) (a2 : Int32) (a3 : Int32)  (u0 : Mm) (Φ : Unit → Mm → Prop) (h : w_X10_queue a1 a2 a3 u0 Φ) : Met l yX10_queue wsX10_queue rm_X10_queue (va_Pc [.ref (o + 0), .int a1, .int a2, .int a3] (Wd 6 o D (tysL cA) (EM cA o u0))) (Qg vV Φ (fun μ => Wd 6 o D (tysL cA) (EM cA o μ)) (aA o 6)) 0 0 (aA o 6) := by
  refine Met.ofW (cc := cX10_queue) (maxL := 4) (ret := none) (by decide) rfl ?_
  intro p e s m args below meth c s₁ B hml hv
  obtain ⟨rfl, hv⟩ := hv
  have hl := lv_entry ([.ref (o + 0), .int a1, .int a2, .int a3]) (n := 4) (Nat.le_of_ble_eq_true rfl)
  rw [lg_entry_eq]
  exact t_X10_queue_0 ⟨⟨B.exec, B.bytes, hml, findClass_of_methodNamed B.named, atoms_spec (ws := wsX10_queue) B.pre⟩, B.returns, B.notSynchronized, hv.2⟩ a1 a2 a3 u0 _ _ _ ⟨hv.1, va_S.rf⟩ hl h
abbrev rm_X10_doEnter : Room := { frames := 2, cells := 0, slots := 0, locals := 46 }
theorem wd_X10_doEnter_1 : Cond.fieldLink RX10 7 "TurnstileBankModel" "row" "[I" ∈ wsX10_doEnter := List.mem_of_getElem? (i := 1) (by decide +kernel)
theorem in_X10_doEnter_10 : ∀ w ∈ wsX100, w ∈ wsX10_doEnter := fun w h => List.mem_cons_of_mem _ (List.mem_append_right _ h)
def w_X10_doEnter_86  (Φ : Int32 → Mm → Prop) (x1 : Int32) (x4 : Int32) (z0 : Int32) (z1 : Int32) (z2 : Int32) (u0 : Mm) : Prop := (w_X10_put z2 z1 z0 u0 (fun _ u11 => (w_X10_put x4 ((4 : Int32)) ((0 : Int32)) u11 (fun _ u13 => (w_X10_put x4 ((5 : Int32)) ((u13 1 (0 : Int32).toNatClampNeg)) u13 (fun _ u15 => (w_X10_queue x4 x1 ((1 : Int32)) u15 (fun _ u17 => (Φ x4 u17)))))))))
set_option maxHeartbeats 4000000 in
set_option maxRecDepth 100000 in
theorem t_X10_doEnter_86 {p : Program} {l : Launch} {e : Env} {s : State} {m : MethodId} {args : Array Value} {below : List Frame} {meth : Method} {c : Code} {D : va_G} {cA : Nat → ClassId} {o : Nat}  {Φ : Int32 → Mm → Prop} (C : Cx p m meth c s args cX10_doEnter 5 wsX10_doEnter RX10 (some .int) D (tysL cA)) : ∀ (x1 : Int32) (x4 : Int32) (z0 : Int32) (z1 : Int32) (z2 : Int32) (u0 : Mm), ∀ (H : Heap) (locs : List Loc) (ls : Array Slot), Hp 6 o D (EM cA o u0) s H locs → lv_has ls 5 [(0, .ref (o + 0)), (1, .int x1), (4, .int x4)] → w_X10_doEnter_86 Φ x1 x4 z0 z1 z2 u0 → W p l e rm_X10_doEnter s m args below meth c H locs 0 0 (MQ below (Qg vI Φ (fun μ => Wd 6 o D (tysL cA) (EM cA o μ)) (aA o 6)) args s 0 0 (aA o 6)) (F0 m 86 ls [.int z0, .int z1, .int z2, .ref (o + 0)]) := by
  intro x1 x4 z0 z1 z2 u0 H locs ls P hl h
  have hx := C.1.1
  have hb := C.1.2.1
  unfold w_X10_doEnter_86 at h
  refine r_callv (F := EM cA o) (va_runV (As := [.int z2, .int z1, .int z0]) (rest := []) C.1 (c_X10_put l D cA o _ _ _ u0 _ h) (cwV 3 C.1.2.2.2.2 gX10_doEnter_X10_put rfl rfl rfl (by decide +kernel) ⟨Nat.le_of_ble_eq_true rfl, Nat.le_of_ble_eq_true rfl⟩) (r_preV C P [.int z2, .int z1, .int z0] (ci := 10) rfl (by decide) EKM_0) rfl rfl hl.1 rfl (lv_room (Nat.le_of_ble_eq_true rfl)) dX10_doEnter_86 ⟨Nat.le_of_ble_eq_true rfl, Nat.le_of_ble_eq_true rfl⟩) P.2 (fun u11 H locs h P => ?_)
  refine lv_aload_n hx hb dX10_doEnter_89 rfl (lv_at hl 0 rfl) ?_
  refine lv_iload hx hb dX10_doEnter_90 (lv_at hl 2 rfl) ?_
  refine lv_iconst (v := 4) hx hb dX10_doEnter_92 (by decide) ?_
  refine lv_iconst (v := 0) hx hb dX10_doEnter_93 (by decide) ?_
  refine r_callv (F := EM cA o) (va_runV (As := [.int x4, .int (4 : Int32), .int (0 : Int32)]) (rest := []) C.1 (c_X10_put l D cA o _ _ _ u11 _ h) (cwV 3 C.1.2.2.2.2 gX10_doEnter_X10_put rfl rfl rfl (by decide +kernel) ⟨Nat.le_of_ble_eq_true rfl, Nat.le_of_ble_eq_true rfl⟩) (r_preV C P [.int x4, .int (4 : Int32), .int (0 : Int32)] (ci := 10) rfl (by decide) EKM_0) rfl rfl hl.1 rfl (lv_room (Nat.le_of_ble_eq_true rfl)) dX10_doEnter_94 ⟨Nat.le_of_ble_eq_true rfl, Nat.le_of_ble_eq_true rfl⟩) P.2 (fun u13 H locs h P => ?_)
  refine lv_aload_n hx hb dX10_doEnter_97 rfl (lv_at hl 0 rfl) ?_
  refine lv_iload hx hb dX10_doEnter_98 (lv_at hl 2 rfl) ?_
  refine lv_iconst (v := 5) hx hb dX10_doEnter_100 (by decide) ?_
  refine lv_aload_n hx hb dX10_doEnter_101 rfl (lv_at hl 0 rfl) ?_
  refine g_10_0 C P in_X10_doEnter_10 wd_X10_doEnter_1 dX10_doEnter_102 ?_
  refine lv_iconst (v := 0) hx hb dX10_doEnter_105 (by decide) ?_
  refine mld_1 C P (by unfold vp_in; decide) dX10_doEnter_106 ?_
  refine r_callv (F := EM cA o) (va_runV (As := [.int x4, .int (5 : Int32), .int (u13 1 (0 : Int32).toNatClampNeg)]) (rest := []) C.1 (c_X10_put l D cA o _ _ _ u13 _ h) (cwV 3 C.1.2.2.2.2 gX10_doEnter_X10_put rfl rfl rfl (by decide +kernel) ⟨Nat.le_of_ble_eq_true rfl, Nat.le_of_ble_eq_true rfl⟩) (r_preV C P [.int x4, .int (5 : Int32), .int (u13 1 (0 : Int32).toNatClampNeg)] (ci := 10) rfl (by decide) EKM_0) rfl rfl hl.1 rfl (lv_room (Nat.le_of_ble_eq_true rfl)) dX10_doEnter_107 ⟨Nat.le_of_ble_eq_true rfl, Nat.le_of_ble_eq_true rfl⟩) P.2 (fun u15 H locs h P => ?_)
  refine lv_aload_n hx hb dX10_doEnter_110 rfl (lv_at hl 0 rfl) ?_
  refine lv_iload hx hb dX10_doEnter_111 (lv_at hl 2 rfl) ?_
  refine lv_iload_n hx hb dX10_doEnter_113 rfl (lv_at hl 1 rfl) ?_
  refine lv_iconst (v := 1) hx hb dX10_doEnter_114 (by decide) ?_
  refine r_callv (F := EM cA o) (va_runV (As := [.int x4, .int x1, .int (1 : Int32)]) (rest := []) C.1 (c_X10_queue l D cA o _ _ _ u15 _ h) (cwV 3 C.1.2.2.2.2 gX10_doEnter_X10_queue rfl rfl rfl (by decide +kernel) ⟨Nat.le_of_ble_eq_true rfl, Nat.le_of_ble_eq_true rfl⟩) (r_preV C P [.int x4, .int x1, .int (1 : Int32)] (ci := 10) rfl (by decide) EKM_0) rfl rfl hl.1 rfl (lv_room (Nat.le_of_ble_eq_true rfl)) dX10_doEnter_115 ⟨Nat.le_of_ble_eq_true rfl, Nat.le_of_ble_eq_true rfl⟩) P.2 (fun u17 H locs h P => ?_)
  refine lv_iload hx hb dX10_doEnter_118 (lv_at hl 2 rfl) ?_
  exact r_ireti C P h dX10_doEnter_120
def w_X10_doEnter_70  (Φ : Int32 → Mm → Prop) (x1 : Int32) (x3 : Int32) (x4 : Int32) (z0 : Int32) (z1 : Int32) (z2 : Int32) (u0 : Mm) : Prop := (w_X10_put z2 z1 z0 u0 (fun _ u8 => (if x3 = 0 then (w_X10_doEnter_86 Φ x1 x4 ((0 : Int32)) ((2 : Int32)) x4 u8) else (w_X10_doEnter_86 Φ x1 x4 ((1 : Int32)) ((2 : Int32)) x4 u8))))
set_option maxHeartbeats 4000000 in
set_option maxRecDepth 100000 in
theorem t_X10_doEnter_70 {p : Program} {l : Launch} {e : Env} {s : State} {m : MethodId} {args : Array Value} {below : List Frame} {meth : Method} {c : Code} {D : va_G} {cA : Nat → ClassId} {o : Nat}  {Φ : Int32 → Mm → Prop} (C : Cx p m meth c s args cX10_doEnter 5 wsX10_doEnter RX10 (some .int) D (tysL cA)) : ∀ (x1 : Int32) (x3 : Int32) (x4 : Int32) (z0 : Int32) (z1 : Int32) (z2 : Int32) (u0 : Mm), ∀ (H : Heap) (locs : List Loc) (ls : Array Slot), Hp 6 o D (EM cA o u0) s H locs → lv_has ls 5 [(0, .ref (o + 0)), (1, .int x1), (3, .int x3), (4, .int x4)] → w_X10_doEnter_70 Φ x1 x3 x4 z0 z1 z2 u0 → W p l e rm_X10_doEnter s m args below meth c H locs 0 0 (MQ below (Qg vI Φ (fun μ => Wd 6 o D (tysL cA) (EM cA o μ)) (aA o 6)) args s 0 0 (aA o 6)) (F0 m 70 ls [.int z0, .int z1, .int z2, .ref (o + 0)]) := by
  intro x1 x3 x4 z0 z1 z2 u0 H locs ls P hl h
  have hx := C.1.1
  have hb := C.1.2.1
  unfold w_X10_doEnter_70 at h
  refine r_callv (F := EM cA o) (va_runV (As := [.int z2, .int z1, .int z0]) (rest := []) C.1 (c_X10_put l D cA o _ _ _ u0 _ h) (cwV 3 C.1.2.2.2.2 gX10_doEnter_X10_put rfl rfl rfl (by decide +kernel) ⟨Nat.le_of_ble_eq_true rfl, Nat.le_of_ble_eq_true rfl⟩) (r_preV C P [.int z2, .int z1, .int z0] (ci := 10) rfl (by decide) EKM_0) rfl rfl hl.1 rfl (lv_room (Nat.le_of_ble_eq_true rfl)) dX10_doEnter_70 ⟨Nat.le_of_ble_eq_true rfl, Nat.le_of_ble_eq_true rfl⟩) P.2 (fun u8 H locs h P => ?_)
  refine lv_aload_n hx hb dX10_doEnter_73 rfl (lv_at hl 0 rfl) ?_
  refine lv_iload hx hb dX10_doEnter_74 (lv_at hl 3 rfl) ?_
  refine lv_iconst (v := 2) hx hb dX10_doEnter_76 (by decide) ?_
  refine lv_iload_n hx hb dX10_doEnter_77 rfl (lv_at hl 2 rfl) ?_
  refine lv_if_eq (tgt := 85) hx hb dX10_doEnter_78 (by decide) (fun c10 => ?_) (fun c10 => ?_)
  · have h := ite_t h c10
    refine lv_iconst (v := 0) hx hb dX10_doEnter_85 (by decide) ?_
    exact t_X10_doEnter_86 C _ _ _ _ _ u8 _ _ _ P (lv_sub hl [0, 1, 3] rfl) h
  · have h := ite_f h c10
    refine lv_iconst (v := 1) hx hb dX10_doEnter_81 (by decide) ?_
    refine lv_goto (tgt := 86) hx hb dX10_doEnter_82 (by decide) ?_
    exact t_X10_doEnter_86 C _ _ _ _ _ u8 _ _ _ P (lv_sub hl [0, 1, 3] rfl) h
def w_X10_doEnter_23  (Φ : Int32 → Mm → Prop) (x1 : Int32) (x2 : Int32) (x3 : Int32) (u0 : Mm) : Prop := (if (u0 1 (2 : Int32).toNatClampNeg) = (40 : Int32) then (Φ ((-3 : Int32)) u0) else (∀ u6 : Mm, u6 = up2 u0 1 (2 : Int32).toNatClampNeg ((u0 1 (2 : Int32).toNatClampNeg) + (1 : Int32)) → (if x2 = (-1 : Int32) then (w_X10_doEnter_70 Φ x1 x3 ((u0 1 (2 : Int32).toNatClampNeg)) ((-5 : Int32)) ((1 : Int32)) ((u0 1 (2 : Int32).toNatClampNeg)) u6) else (w_X10_doEnter_70 Φ x1 x3 ((u0 1 (2 : Int32).toNatClampNeg)) x2 ((1 : Int32)) ((u0 1 (2 : Int32).toNatClampNeg)) u6))))
set_option maxHeartbeats 4000000 in
set_option maxRecDepth 100000 in
theorem t_X10_doEnter_23 {p : Program} {l : Launch} {e : Env} {s : State} {m : MethodId} {args : Array Value} {below : List Frame} {meth : Method} {c : Code} {D : va_G} {cA : Nat → ClassId} {o : Nat}  {Φ : Int32 → Mm → Prop} (C : Cx p m meth c s args cX10_doEnter 5 wsX10_doEnter RX10 (some .int) D (tysL cA)) : ∀ (x1 : Int32) (x2 : Int32) (x3 : Int32) (u0 : Mm), ∀ (H : Heap) (locs : List Loc) (ls : Array Slot), Hp 6 o D (EM cA o u0) s H locs → lv_has ls 5 [(0, .ref (o + 0)), (1, .int x1), (2, .int x2), (3, .int x3)] → w_X10_doEnter_23 Φ x1 x2 x3 u0 → W p l e rm_X10_doEnter s m args below meth c H locs 0 0 (MQ below (Qg vI Φ (fun μ => Wd 6 o D (tysL cA) (EM cA o μ)) (aA o 6)) args s 0 0 (aA o 6)) (F0 m 23 ls []) := by
  intro x1 x2 x3 u0 H locs ls P hl h
  have hx := C.1.1
  have hb := C.1.2.1
  unfold w_X10_doEnter_23 at h
  refine lv_aload_n hx hb dX10_doEnter_23 rfl (lv_at hl 0 rfl) ?_
  refine g_10_0 C P in_X10_doEnter_10 wd_X10_doEnter_1 dX10_doEnter_24 ?_
  refine lv_iconst (v := 2) hx hb dX10_doEnter_27 (by decide) ?_
  refine mld_1 C P (by unfold vp_in; decide) dX10_doEnter_28 ?_
  refine lv_bipush (v := 40) hx hb dX10_doEnter_29 (by decide) ?_
  refine lv_icmp_ne (tgt := 37) hx hb dX10_doEnter_31 (by decide) (fun c5 => ?_) (fun c5 => ?_)
  · have h := ite_f h c5
    refine lv_aload_n hx hb dX10_doEnter_37 rfl (lv_at hl 0 rfl) ?_
    refine g_10_0 C P in_X10_doEnter_10 wd_X10_doEnter_1 dX10_doEnter_38 ?_
    refine lv_iconst (v := 2) hx hb dX10_doEnter_41 (by decide) ?_
    refine mld_1 C P (by unfold vp_in; decide) dX10_doEnter_42 ?_
    refine lv_istore (lv' := [(4, .int (u0 1 (2 : Int32).toNatClampNeg)), (0, .ref (o + 0)), (1, .int x1), (2, .int x2), (3, .int x3)]) hx hb dX10_doEnter_43 hl (by decide) rfl (fun ls hl => ?_)
    refine lv_aload_n hx hb dX10_doEnter_45 rfl (lv_at hl 1 rfl) ?_
    refine g_10_0 C P in_X10_doEnter_10 wd_X10_doEnter_1 dX10_doEnter_46 ?_
    refine lv_iconst (v := 2) hx hb dX10_doEnter_49 (by decide) ?_
    refine lv_dup2_11 hx hb dX10_doEnter_50 rfl rfl ?_
    refine mld_1 C P (by unfold vp_in; decide) dX10_doEnter_51 ?_
    refine lv_iconst (v := 1) hx hb dX10_doEnter_52 (by decide) ?_
    refine lv_iadd hx hb dX10_doEnter_53 ?_
    refine mst_1 C P (by unfold vp_in; decide) dX10_doEnter_54 (fun u6 eu6 H locs P => ?_)
    have h := h u6 eu6
    refine lv_aload_n hx hb dX10_doEnter_55 rfl (lv_at hl 1 rfl) ?_
    refine lv_iload hx hb dX10_doEnter_56 (lv_at hl 0 rfl) ?_
    refine lv_iconst (v := 1) hx hb dX10_doEnter_58 (by decide) ?_
    refine lv_iload_n hx hb dX10_doEnter_59 rfl (lv_at hl 3 rfl) ?_
    refine lv_iconst (v := -1) hx hb dX10_doEnter_60 (by decide) ?_
    refine lv_icmp_ne (tgt := 69) hx hb dX10_doEnter_61 (by decide) (fun c7 => ?_) (fun c7 => ?_)
    · have h := ite_f h c7
      refine lv_iload_n hx hb dX10_doEnter_69 rfl (lv_at hl 3 rfl) ?_
      exact t_X10_doEnter_70 C _ _ _ _ _ _ u6 _ _ _ P (lv_sub hl [1, 2, 4, 0] rfl) h
    · have h := ite_t h c7
      refine lv_bipush (v := -5) hx hb dX10_doEnter_64 (by decide) ?_
      refine lv_goto (tgt := 70) hx hb dX10_doEnter_66 (by decide) ?_
      exact t_X10_doEnter_70 C _ _ _ _ _ _ u6 _ _ _ P (lv_sub hl [1, 2, 4, 0] rfl) h
  · have h := ite_t h c5
    refine lv_bipush (v := -3) hx hb dX10_doEnter_34 (by decide) ?_
    exact r_ireti C P h dX10_doEnter_36
def w_X10_doEnter (a1 : Int32) (a2 : Int32) (a3 : Int32) (u0 : Mm) (Φ : Int32 → Mm → Prop) : Prop := (w_X10_noGate a1 u0 (fun r2 u1 => (if r2 = 0 then (if a2 = (-1 : Int32) then (w_X10_doEnter_23 Φ a1 a2 a3 u1) else (w_X10_noPass a2 u1 (fun r20 u19 => (if r20 = 0 then (w_X10_doEnter_23 Φ a1 a2 a3 u19) else (Φ ((-1 : Int32)) u19))))) else (Φ ((-1 : Int32)) u1))))
set_option maxHeartbeats 4000000 in
set_option maxRecDepth 100000 in
theorem t_X10_doEnter_0 {p : Program} {l : Launch} {e : Env} {s : State} {m : MethodId} {args : Array Value} {below : List Frame} {meth : Method} {c : Code} {D : va_G} {cA : Nat → ClassId} {o : Nat}  {Φ : Int32 → Mm → Prop} (C : Cx p m meth c s args cX10_doEnter 5 wsX10_doEnter RX10 (some .int) D (tysL cA)) : ∀ (a1 : Int32) (a2 : Int32) (a3 : Int32) (u0 : Mm), ∀ (H : Heap) (locs : List Loc) (ls : Array Slot), Hp 6 o D (EM cA o u0) s H locs → lv_has ls 5 [(0, .ref (o + 0)), (1, .int a1), (2, .int a2), (3, .int a3)] → w_X10_doEnter a1 a2 a3 u0 Φ → W p l e rm_X10_doEnter s m args below meth c H locs 0 0 (MQ below (Qg vI Φ (fun μ => Wd 6 o D (tysL cA) (EM cA o μ)) (aA o 6)) args s 0 0 (aA o 6)) (F0 m 0 ls []) := by
  intro a1 a2 a3 u0 H locs ls P hl h
  have hx := C.1.1
  have hb := C.1.2.1
  unfold w_X10_doEnter at h
  refine lv_aload_n hx hb dX10_doEnter_0 rfl (lv_at hl 0 rfl) ?_
  refine lv_iload_n hx hb dX10_doEnter_1 rfl (lv_at hl 1 rfl) ?_
  refine r_calli (F := EM cA o) (va_runV (As := [.int a1]) (rest := []) C.1 (c_X10_noGate l D cA o _ u0 _ h) (cwV 1 C.1.2.2.2.2 gX10_doEnter_X10_noGate rfl rfl rfl (by decide +kernel) ⟨Nat.le_of_ble_eq_true rfl, Nat.le_of_ble_eq_true rfl⟩) (r_preV C P [.int a1] (ci := 10) rfl (by decide) EKM_0) rfl rfl hl.1 rfl (lv_room (Nat.le_of_ble_eq_true rfl)) dX10_doEnter_2 ⟨Nat.le_of_ble_eq_true rfl, Nat.le_of_ble_eq_true rfl⟩) P.2 (fun r2 u1 H locs h P => ?_)
  refine lv_if_ne (tgt := 21) hx hb dX10_doEnter_5 (by decide) (fun c3 => ?_) (fun c3 => ?_)
  · have h := ite_f h c3
    refine lv_iconst (v := -1) hx hb dX10_doEnter_21 (by decide) ?_
    exact r_ireti C P h dX10_doEnter_22
  · have h := ite_t h c3
    refine lv_iload_n hx hb dX10_doEnter_8 rfl (lv_at hl 2 rfl) ?_
    refine lv_iconst (v := -1) hx hb dX10_doEnter_9 (by decide) ?_
    refine lv_icmp_eq (tgt := 23) hx hb dX10_doEnter_10 (by decide) (fun c4 => ?_) (fun c4 => ?_)
    · have h := ite_t h c4
      exact t_X10_doEnter_23 C _ _ _ u1 _ _ _ P (lv_sub hl [0, 1, 2, 3] rfl) h
    · have h := ite_f h c4
      refine lv_aload_n hx hb dX10_doEnter_13 rfl (lv_at hl 0 rfl) ?_
      refine lv_iload_n hx hb dX10_doEnter_14 rfl (lv_at hl 2 rfl) ?_
      refine r_calli (F := EM cA o) (va_runV (As := [.int a2]) (rest := []) C.1 (c_X10_noPass l D cA o _ u1 _ h) (cwV 1 C.1.2.2.2.2 gX10_doEnter_X10_noPass rfl rfl rfl (by decide +kernel) ⟨Nat.le_of_ble_eq_true rfl, Nat.le_of_ble_eq_true rfl⟩) (r_preV C P [.int a2] (ci := 10) rfl (by decide) EKM_0) rfl rfl hl.1 rfl (lv_room (Nat.le_of_ble_eq_true rfl)) dX10_doEnter_15 ⟨Nat.le_of_ble_eq_true rfl, Nat.le_of_ble_eq_true rfl⟩) P.2 (fun r20 u19 H locs h P => ?_)
      refine lv_if_eq (tgt := 23) hx hb dX10_doEnter_18 (by decide) (fun c21 => ?_) (fun c21 => ?_)
      · have h := ite_t h c21
        exact t_X10_doEnter_23 C _ _ _ u19 _ _ _ P (lv_sub hl [0, 1, 2, 3] rfl) h
      · have h := ite_f h c21
        refine lv_iconst (v := -1) hx hb dX10_doEnter_21 (by decide) ?_
        exact r_ireti C P h dX10_doEnter_22
set_option maxHeartbeats 4000000 in
set_option maxRecDepth 100000 in
theorem c_X10_doEnter (l : Launch) (D : va_G) (cA : Nat → ClassId) (o : Nat) (a1 : Int32) (a2 : Int32) (a3 : Int32)  (u0 : Mm) (Φ : Int32 → Mm → Prop) (h : w_X10_doEnter a1 a2 a3 u0 Φ) : Met l yX10_doEnter wsX10_doEnter rm_X10_doEnter (va_Pc [.ref (o + 0), .int a1, .int a2, .int a3] (Wd 6 o D (tysL cA) (EM cA o u0))) (Qg vI Φ (fun μ => Wd 6 o D (tysL cA) (EM cA o μ)) (aA o 6)) 0 0 (aA o 6) := by
  refine Met.ofW (cc := cX10_doEnter) (maxL := 5) (ret := (some .int)) (by decide) rfl ?_
  intro p e s m args below meth c s₁ B hml hv
  obtain ⟨rfl, hv⟩ := hv
  have hl := lv_entry ([.ref (o + 0), .int a1, .int a2, .int a3]) (n := 5) (Nat.le_of_ble_eq_true rfl)
  rw [lg_entry_eq]
  exact t_X10_doEnter_0 ⟨⟨B.exec, B.bytes, hml, findClass_of_methodNamed B.named, atoms_spec (ws := wsX10_doEnter) B.pre⟩, B.returns, B.notSynchronized, hv.2⟩ a1 a2 a3 u0 _ _ _ ⟨hv.1, va_S.rf⟩ hl h
abbrev rm_X10_enter : Room := { frames := 3, cells := 0, slots := 0, locals := 70 }
def w_X10_enter (a1 : Int32) (a2 : Int32) (a3 : Int32) (u0 : Mm) (Φ : Int32 → Mm → Prop) : Prop := (w_X10_begin u0 (fun _ u1 => (w_X10_doEnter a1 a2 a3 u1 (fun r4 u3 => (w_X10_done r4 u3 (fun r6 u5 => (Φ r6 u5)))))))
set_option maxHeartbeats 4000000 in
set_option maxRecDepth 100000 in
theorem t_X10_enter_0 {p : Program} {l : Launch} {e : Env} {s : State} {m : MethodId} {args : Array Value} {below : List Frame} {meth : Method} {c : Code} {D : va_G} {cA : Nat → ClassId} {o : Nat}  {Φ : Int32 → Mm → Prop} (C : Cx p m meth c s args cX10_enter 4 wsX10_enter RX10 (some .int) D (tysL cA)) : ∀ (a1 : Int32) (a2 : Int32) (a3 : Int32) (u0 : Mm), ∀ (H : Heap) (locs : List Loc) (ls : Array Slot), Hp 6 o D (EM cA o u0) s H locs → lv_has ls 4 [(0, .ref (o + 0)), (1, .int a1), (2, .int a2), (3, .int a3)] → w_X10_enter a1 a2 a3 u0 Φ → W p l e rm_X10_enter s m args below meth c H locs 0 0 (MQ below (Qg vI Φ (fun μ => Wd 6 o D (tysL cA) (EM cA o μ)) (aA o 6)) args s 0 0 (aA o 6)) (F0 m 0 ls []) := by
  intro a1 a2 a3 u0 H locs ls P hl h
  have hx := C.1.1
  have hb := C.1.2.1
  unfold w_X10_enter at h
  refine lv_aload_n hx hb dX10_enter_0 rfl (lv_at hl 0 rfl) ?_
  refine r_callv (F := EM cA o) (va_runV (As := []) (rest := []) C.1 (c_X10_begin l D cA o u0 _ h) (cwV 0 C.1.2.2.2.2 gX10_enter_X10_begin rfl rfl rfl (by decide +kernel) ⟨Nat.le_of_ble_eq_true rfl, Nat.le_of_ble_eq_true rfl⟩) (r_preV C P [] (ci := 10) rfl (by decide) EKM_0) rfl rfl hl.1 rfl (lv_room (Nat.le_of_ble_eq_true rfl)) dX10_enter_1 ⟨Nat.le_of_ble_eq_true rfl, Nat.le_of_ble_eq_true rfl⟩) P.2 (fun u1 H locs h P => ?_)
  refine lv_aload_n hx hb dX10_enter_4 rfl (lv_at hl 0 rfl) ?_
  refine lv_aload_n hx hb dX10_enter_5 rfl (lv_at hl 0 rfl) ?_
  refine lv_iload_n hx hb dX10_enter_6 rfl (lv_at hl 1 rfl) ?_
  refine lv_iload_n hx hb dX10_enter_7 rfl (lv_at hl 2 rfl) ?_
  refine lv_iload_n hx hb dX10_enter_8 rfl (lv_at hl 3 rfl) ?_
  refine r_calli (F := EM cA o) (va_runV (As := [.int a1, .int a2, .int a3]) (rest := [.ref (o + 0)]) C.1 (c_X10_doEnter l D cA o _ _ _ u1 _ h) (cwV 3 C.1.2.2.2.2 gX10_enter_X10_doEnter rfl rfl rfl (by decide +kernel) ⟨Nat.le_of_ble_eq_true rfl, Nat.le_of_ble_eq_true rfl⟩) (r_preV C P [.int a1, .int a2, .int a3] (ci := 10) rfl (by decide) EKM_0) rfl rfl hl.1 rfl (lv_room (Nat.le_of_ble_eq_true rfl)) dX10_enter_9 ⟨Nat.le_of_ble_eq_true rfl, Nat.le_of_ble_eq_true rfl⟩) P.2 (fun r4 u3 H locs h P => ?_)
  refine r_calli (F := EM cA o) (va_runV (As := [.int r4]) (rest := []) C.1 (c_X10_done l D cA o _ u3 _ h) (cwV 1 C.1.2.2.2.2 gX10_enter_X10_done rfl rfl rfl (by decide +kernel) ⟨Nat.le_of_ble_eq_true rfl, Nat.le_of_ble_eq_true rfl⟩) (r_preV C P [.int r4] (ci := 10) rfl (by decide) EKM_0) rfl rfl hl.1 rfl (lv_room (Nat.le_of_ble_eq_true rfl)) dX10_enter_12 ⟨Nat.le_of_ble_eq_true rfl, Nat.le_of_ble_eq_true rfl⟩) P.2 (fun r6 u5 H locs h P => ?_)
  exact r_ireti C P h dX10_enter_15
set_option maxHeartbeats 4000000 in
set_option maxRecDepth 100000 in
theorem c_X10_enter (l : Launch) (D : va_G) (cA : Nat → ClassId) (o : Nat) (a1 : Int32) (a2 : Int32) (a3 : Int32)  (u0 : Mm) (Φ : Int32 → Mm → Prop) (h : w_X10_enter a1 a2 a3 u0 Φ) : Met l yX10_enter wsX10_enter rm_X10_enter (va_Pc [.ref (o + 0), .int a1, .int a2, .int a3] (Wd 6 o D (tysL cA) (EM cA o u0))) (Qg vI Φ (fun μ => Wd 6 o D (tysL cA) (EM cA o μ)) (aA o 6)) 0 0 (aA o 6) := by
  refine Met.ofW (cc := cX10_enter) (maxL := 4) (ret := (some .int)) (by decide) rfl ?_
  intro p e s m args below meth c s₁ B hml hv
  obtain ⟨rfl, hv⟩ := hv
  have hl := lv_entry ([.ref (o + 0), .int a1, .int a2, .int a3]) (n := 4) (Nat.le_of_ble_eq_true rfl)
  rw [lg_entry_eq]
  exact t_X10_enter_0 ⟨⟨B.exec, B.bytes, hml, findClass_of_methodNamed B.named, atoms_spec (ws := wsX10_enter) B.pre⟩, B.returns, B.notSynchronized, hv.2⟩ a1 a2 a3 u0 _ _ _ ⟨hv.1, va_S.rf⟩ hl h
abbrev rm_X10_doExit : Room := { frames := 3, cells := 0, slots := 0, locals := 69 }
theorem wd_X10_doExit_1 : Cond.fieldLink RX10 7 "TurnstileBankModel" "row" "[I" ∈ wsX10_doExit := List.mem_of_getElem? (i := 1) (by decide +kernel)
theorem in_X10_doExit_10 : ∀ w ∈ wsX100, w ∈ wsX10_doExit := fun w h => List.mem_cons_of_mem _ (List.mem_append_right _ h)
def w_X10_doExit (a1 : Int32) (a2 : Int32) (u0 : Mm) (Φ : Int32 → Mm → Prop) : Prop := (w_X10_noGate a1 u0 (fun r2 u1 => (if r2 = 0 then (w_X10_noPerson a2 u1 (fun r5 u4 => (if r5 = 0 then (w_X10_of a2 ((0 : Int32)) u4 (fun r8 u7 => (if r8 = (3 : Int32) then (w_X10_put a2 ((5 : Int32)) ((u7 1 (0 : Int32).toNatClampNeg)) u7 (fun _ u10 => (w_X10_queue a2 a1 ((4 : Int32)) u10 (fun _ u12 => (w_X10_queueLength a1 ((1 : Int32)) u12 (fun r15 u14 => (Φ r15 u14))))))) else (Φ ((-4 : Int32)) u7)))) else (Φ ((-1 : Int32)) u4)))) else (Φ ((-1 : Int32)) u1))))
set_option maxHeartbeats 4000000 in
set_option maxRecDepth 100000 in
theorem t_X10_doExit_0 {p : Program} {l : Launch} {e : Env} {s : State} {m : MethodId} {args : Array Value} {below : List Frame} {meth : Method} {c : Code} {D : va_G} {cA : Nat → ClassId} {o : Nat}  {Φ : Int32 → Mm → Prop} (C : Cx p m meth c s args cX10_doExit 3 wsX10_doExit RX10 (some .int) D (tysL cA)) : ∀ (a1 : Int32) (a2 : Int32) (u0 : Mm), ∀ (H : Heap) (locs : List Loc) (ls : Array Slot), Hp 6 o D (EM cA o u0) s H locs → lv_has ls 3 [(0, .ref (o + 0)), (1, .int a1), (2, .int a2)] → w_X10_doExit a1 a2 u0 Φ → W p l e rm_X10_doExit s m args below meth c H locs 0 0 (MQ below (Qg vI Φ (fun μ => Wd 6 o D (tysL cA) (EM cA o μ)) (aA o 6)) args s 0 0 (aA o 6)) (F0 m 0 ls []) := by
  intro a1 a2 u0 H locs ls P hl h
  have hx := C.1.1
  have hb := C.1.2.1
  unfold w_X10_doExit at h
  refine lv_aload_n hx hb dX10_doExit_0 rfl (lv_at hl 0 rfl) ?_
  refine lv_iload_n hx hb dX10_doExit_1 rfl (lv_at hl 1 rfl) ?_
  refine r_calli (F := EM cA o) (va_runV (As := [.int a1]) (rest := []) C.1 (c_X10_noGate l D cA o _ u0 _ h) (cwV 1 C.1.2.2.2.2 gX10_doExit_X10_noGate rfl rfl rfl (by decide +kernel) ⟨Nat.le_of_ble_eq_true rfl, Nat.le_of_ble_eq_true rfl⟩) (r_preV C P [.int a1] (ci := 10) rfl (by decide) EKM_0) rfl rfl hl.1 rfl (lv_room (Nat.le_of_ble_eq_true rfl)) dX10_doExit_2 ⟨Nat.le_of_ble_eq_true rfl, Nat.le_of_ble_eq_true rfl⟩) P.2 (fun r2 u1 H locs h P => ?_)
  refine lv_if_ne (tgt := 16) hx hb dX10_doExit_5 (by decide) (fun c3 => ?_) (fun c3 => ?_)
  · have h := ite_f h c3
    refine lv_iconst (v := -1) hx hb dX10_doExit_16 (by decide) ?_
    exact r_ireti C P h dX10_doExit_17
  · have h := ite_t h c3
    refine lv_aload_n hx hb dX10_doExit_8 rfl (lv_at hl 0 rfl) ?_
    refine lv_iload_n hx hb dX10_doExit_9 rfl (lv_at hl 2 rfl) ?_
    refine r_calli (F := EM cA o) (va_runV (As := [.int a2]) (rest := []) C.1 (c_X10_noPerson l D cA o _ u1 _ h) (cwV 1 C.1.2.2.2.2 gX10_doExit_X10_noPerson rfl rfl rfl (by decide +kernel) ⟨Nat.le_of_ble_eq_true rfl, Nat.le_of_ble_eq_true rfl⟩) (r_preV C P [.int a2] (ci := 10) rfl (by decide) EKM_0) rfl rfl hl.1 rfl (lv_room (Nat.le_of_ble_eq_true rfl)) dX10_doExit_10 ⟨Nat.le_of_ble_eq_true rfl, Nat.le_of_ble_eq_true rfl⟩) P.2 (fun r5 u4 H locs h P => ?_)
    refine lv_if_eq (tgt := 18) hx hb dX10_doExit_13 (by decide) (fun c6 => ?_) (fun c6 => ?_)
    · have h := ite_t h c6
      refine lv_aload_n hx hb dX10_doExit_18 rfl (lv_at hl 0 rfl) ?_
      refine lv_iload_n hx hb dX10_doExit_19 rfl (lv_at hl 2 rfl) ?_
      refine lv_iconst (v := 0) hx hb dX10_doExit_20 (by decide) ?_
      refine r_calli (F := EM cA o) (va_runV (As := [.int a2, .int (0 : Int32)]) (rest := []) C.1 (c_X10_of l D cA o _ _ u4 _ h) (cwV 2 C.1.2.2.2.2 gX10_doExit_X10_of rfl rfl rfl (by decide +kernel) ⟨Nat.le_of_ble_eq_true rfl, Nat.le_of_ble_eq_true rfl⟩) (r_preV C P [.int a2, .int (0 : Int32)] (ci := 10) rfl (by decide) EKM_0) rfl rfl hl.1 rfl (lv_room (Nat.le_of_ble_eq_true rfl)) dX10_doExit_21 ⟨Nat.le_of_ble_eq_true rfl, Nat.le_of_ble_eq_true rfl⟩) P.2 (fun r8 u7 H locs h P => ?_)
      refine lv_iconst (v := 3) hx hb dX10_doExit_24 (by decide) ?_
      refine lv_icmp_eq (tgt := 31) hx hb dX10_doExit_25 (by decide) (fun c9 => ?_) (fun c9 => ?_)
      · have h := ite_t h c9
        refine lv_aload_n hx hb dX10_doExit_31 rfl (lv_at hl 0 rfl) ?_
        refine lv_iload_n hx hb dX10_doExit_32 rfl (lv_at hl 2 rfl) ?_
        refine lv_iconst (v := 5) hx hb dX10_doExit_33 (by decide) ?_
        refine lv_aload_n hx hb dX10_doExit_34 rfl (lv_at hl 0 rfl) ?_
        refine g_10_0 C P in_X10_doExit_10 wd_X10_doExit_1 dX10_doExit_35 ?_
        refine lv_iconst (v := 0) hx hb dX10_doExit_38 (by decide) ?_
        refine mld_1 C P (by unfold vp_in; decide) dX10_doExit_39 ?_
        refine r_callv (F := EM cA o) (va_runV (As := [.int a2, .int (5 : Int32), .int (u7 1 (0 : Int32).toNatClampNeg)]) (rest := []) C.1 (c_X10_put l D cA o _ _ _ u7 _ h) (cwV 3 C.1.2.2.2.2 gX10_doExit_X10_put rfl rfl rfl (by decide +kernel) ⟨Nat.le_of_ble_eq_true rfl, Nat.le_of_ble_eq_true rfl⟩) (r_preV C P [.int a2, .int (5 : Int32), .int (u7 1 (0 : Int32).toNatClampNeg)] (ci := 10) rfl (by decide) EKM_0) rfl rfl hl.1 rfl (lv_room (Nat.le_of_ble_eq_true rfl)) dX10_doExit_40 ⟨Nat.le_of_ble_eq_true rfl, Nat.le_of_ble_eq_true rfl⟩) P.2 (fun u10 H locs h P => ?_)
        refine lv_aload_n hx hb dX10_doExit_43 rfl (lv_at hl 0 rfl) ?_
        refine lv_iload_n hx hb dX10_doExit_44 rfl (lv_at hl 2 rfl) ?_
        refine lv_iload_n hx hb dX10_doExit_45 rfl (lv_at hl 1 rfl) ?_
        refine lv_iconst (v := 4) hx hb dX10_doExit_46 (by decide) ?_
        refine r_callv (F := EM cA o) (va_runV (As := [.int a2, .int a1, .int (4 : Int32)]) (rest := []) C.1 (c_X10_queue l D cA o _ _ _ u10 _ h) (cwV 3 C.1.2.2.2.2 gX10_doExit_X10_queue rfl rfl rfl (by decide +kernel) ⟨Nat.le_of_ble_eq_true rfl, Nat.le_of_ble_eq_true rfl⟩) (r_preV C P [.int a2, .int a1, .int (4 : Int32)] (ci := 10) rfl (by decide) EKM_0) rfl rfl hl.1 rfl (lv_room (Nat.le_of_ble_eq_true rfl)) dX10_doExit_47 ⟨Nat.le_of_ble_eq_true rfl, Nat.le_of_ble_eq_true rfl⟩) P.2 (fun u12 H locs h P => ?_)
        refine lv_aload_n hx hb dX10_doExit_50 rfl (lv_at hl 0 rfl) ?_
        refine lv_iload_n hx hb dX10_doExit_51 rfl (lv_at hl 1 rfl) ?_
        refine lv_iconst (v := 1) hx hb dX10_doExit_52 (by decide) ?_
        refine r_calli (F := EM cA o) (va_runV (As := [.int a1, .int (1 : Int32)]) (rest := []) C.1 (c_X10_queueLength l D cA o _ _ u12 _ h) (cwV 2 C.1.2.2.2.2 gX10_doExit_X10_queueLength rfl rfl rfl (by decide +kernel) ⟨Nat.le_of_ble_eq_true rfl, Nat.le_of_ble_eq_true rfl⟩) (r_preV C P [.int a1, .int (1 : Int32)] (ci := 10) rfl (by decide) EKM_0) rfl rfl hl.1 rfl (lv_room (Nat.le_of_ble_eq_true rfl)) dX10_doExit_53 ⟨Nat.le_of_ble_eq_true rfl, Nat.le_of_ble_eq_true rfl⟩) P.2 (fun r15 u14 H locs h P => ?_)
        exact r_ireti C P h dX10_doExit_56
      · have h := ite_f h c9
        refine lv_bipush (v := -4) hx hb dX10_doExit_28 (by decide) ?_
        exact r_ireti C P h dX10_doExit_30
    · have h := ite_f h c6
      refine lv_iconst (v := -1) hx hb dX10_doExit_16 (by decide) ?_
      exact r_ireti C P h dX10_doExit_17
set_option maxHeartbeats 4000000 in
set_option maxRecDepth 100000 in
theorem c_X10_doExit (l : Launch) (D : va_G) (cA : Nat → ClassId) (o : Nat) (a1 : Int32) (a2 : Int32)  (u0 : Mm) (Φ : Int32 → Mm → Prop) (h : w_X10_doExit a1 a2 u0 Φ) : Met l yX10_doExit wsX10_doExit rm_X10_doExit (va_Pc [.ref (o + 0), .int a1, .int a2] (Wd 6 o D (tysL cA) (EM cA o u0))) (Qg vI Φ (fun μ => Wd 6 o D (tysL cA) (EM cA o μ)) (aA o 6)) 0 0 (aA o 6) := by
  refine Met.ofW (cc := cX10_doExit) (maxL := 3) (ret := (some .int)) (by decide) rfl ?_
  intro p e s m args below meth c s₁ B hml hv
  obtain ⟨rfl, hv⟩ := hv
  have hl := lv_entry ([.ref (o + 0), .int a1, .int a2]) (n := 3) (Nat.le_of_ble_eq_true rfl)
  rw [lg_entry_eq]
  exact t_X10_doExit_0 ⟨⟨B.exec, B.bytes, hml, findClass_of_methodNamed B.named, atoms_spec (ws := wsX10_doExit) B.pre⟩, B.returns, B.notSynchronized, hv.2⟩ a1 a2 u0 _ _ _ ⟨hv.1, va_S.rf⟩ hl h
abbrev rm_X10_exit : Room := { frames := 4, cells := 0, slots := 0, locals := 91 }
def w_X10_exit (a1 : Int32) (a2 : Int32) (u0 : Mm) (Φ : Int32 → Mm → Prop) : Prop := (w_X10_begin u0 (fun _ u1 => (w_X10_doExit a1 a2 u1 (fun r4 u3 => (w_X10_done r4 u3 (fun r6 u5 => (Φ r6 u5)))))))
set_option maxHeartbeats 4000000 in
set_option maxRecDepth 100000 in
theorem t_X10_exit_0 {p : Program} {l : Launch} {e : Env} {s : State} {m : MethodId} {args : Array Value} {below : List Frame} {meth : Method} {c : Code} {D : va_G} {cA : Nat → ClassId} {o : Nat}  {Φ : Int32 → Mm → Prop} (C : Cx p m meth c s args cX10_exit 3 wsX10_exit RX10 (some .int) D (tysL cA)) : ∀ (a1 : Int32) (a2 : Int32) (u0 : Mm), ∀ (H : Heap) (locs : List Loc) (ls : Array Slot), Hp 6 o D (EM cA o u0) s H locs → lv_has ls 3 [(0, .ref (o + 0)), (1, .int a1), (2, .int a2)] → w_X10_exit a1 a2 u0 Φ → W p l e rm_X10_exit s m args below meth c H locs 0 0 (MQ below (Qg vI Φ (fun μ => Wd 6 o D (tysL cA) (EM cA o μ)) (aA o 6)) args s 0 0 (aA o 6)) (F0 m 0 ls []) := by
  intro a1 a2 u0 H locs ls P hl h
  have hx := C.1.1
  have hb := C.1.2.1
  unfold w_X10_exit at h
  refine lv_aload_n hx hb dX10_exit_0 rfl (lv_at hl 0 rfl) ?_
  refine r_callv (F := EM cA o) (va_runV (As := []) (rest := []) C.1 (c_X10_begin l D cA o u0 _ h) (cwV 0 C.1.2.2.2.2 gX10_exit_X10_begin rfl rfl rfl (by decide +kernel) ⟨Nat.le_of_ble_eq_true rfl, Nat.le_of_ble_eq_true rfl⟩) (r_preV C P [] (ci := 10) rfl (by decide) EKM_0) rfl rfl hl.1 rfl (lv_room (Nat.le_of_ble_eq_true rfl)) dX10_exit_1 ⟨Nat.le_of_ble_eq_true rfl, Nat.le_of_ble_eq_true rfl⟩) P.2 (fun u1 H locs h P => ?_)
  refine lv_aload_n hx hb dX10_exit_4 rfl (lv_at hl 0 rfl) ?_
  refine lv_aload_n hx hb dX10_exit_5 rfl (lv_at hl 0 rfl) ?_
  refine lv_iload_n hx hb dX10_exit_6 rfl (lv_at hl 1 rfl) ?_
  refine lv_iload_n hx hb dX10_exit_7 rfl (lv_at hl 2 rfl) ?_
  refine r_calli (F := EM cA o) (va_runV (As := [.int a1, .int a2]) (rest := [.ref (o + 0)]) C.1 (c_X10_doExit l D cA o _ _ u1 _ h) (cwV 2 C.1.2.2.2.2 gX10_exit_X10_doExit rfl rfl rfl (by decide +kernel) ⟨Nat.le_of_ble_eq_true rfl, Nat.le_of_ble_eq_true rfl⟩) (r_preV C P [.int a1, .int a2] (ci := 10) rfl (by decide) EKM_0) rfl rfl hl.1 rfl (lv_room (Nat.le_of_ble_eq_true rfl)) dX10_exit_8 ⟨Nat.le_of_ble_eq_true rfl, Nat.le_of_ble_eq_true rfl⟩) P.2 (fun r4 u3 H locs h P => ?_)
  refine r_calli (F := EM cA o) (va_runV (As := [.int r4]) (rest := []) C.1 (c_X10_done l D cA o _ u3 _ h) (cwV 1 C.1.2.2.2.2 gX10_exit_X10_done rfl rfl rfl (by decide +kernel) ⟨Nat.le_of_ble_eq_true rfl, Nat.le_of_ble_eq_true rfl⟩) (r_preV C P [.int r4] (ci := 10) rfl (by decide) EKM_0) rfl rfl hl.1 rfl (lv_room (Nat.le_of_ble_eq_true rfl)) dX10_exit_11 ⟨Nat.le_of_ble_eq_true rfl, Nat.le_of_ble_eq_true rfl⟩) P.2 (fun r6 u5 H locs h P => ?_)
  exact r_ireti C P h dX10_exit_14
set_option maxHeartbeats 4000000 in
set_option maxRecDepth 100000 in
theorem c_X10_exit (l : Launch) (D : va_G) (cA : Nat → ClassId) (o : Nat) (a1 : Int32) (a2 : Int32)  (u0 : Mm) (Φ : Int32 → Mm → Prop) (h : w_X10_exit a1 a2 u0 Φ) : Met l yX10_exit wsX10_exit rm_X10_exit (va_Pc [.ref (o + 0), .int a1, .int a2] (Wd 6 o D (tysL cA) (EM cA o u0))) (Qg vI Φ (fun μ => Wd 6 o D (tysL cA) (EM cA o μ)) (aA o 6)) 0 0 (aA o 6) := by
  refine Met.ofW (cc := cX10_exit) (maxL := 3) (ret := (some .int)) (by decide) rfl ?_
  intro p e s m args below meth c s₁ B hml hv
  obtain ⟨rfl, hv⟩ := hv
  have hl := lv_entry ([.ref (o + 0), .int a1, .int a2]) (n := 3) (Nat.le_of_ble_eq_true rfl)
  rw [lg_entry_eq]
  exact t_X10_exit_0 ⟨⟨B.exec, B.bytes, hml, findClass_of_methodNamed B.named, atoms_spec (ws := wsX10_exit) B.pre⟩, B.returns, B.notSynchronized, hv.2⟩ a1 a2 u0 _ _ _ ⟨hv.1, va_S.rf⟩ hl h
abbrev rm_X10_divert : Room := { frames := 3, cells := 0, slots := 0, locals := 71 }
def w_X10_divert_51 (X35 : Int32 → Int32 → Int32 → Int32 → Mm → Prop) (Φ : Int32 → Mm → Prop) : Nat → Int32 → Int32 → Int32 → Int32 → Int32 → Mm → Prop
  | 0, _, _, _, _, _, _ => False
  | n + 1, x1, x2, x3, x4, x5, u0 => (if x5 < 0 then (X35 x1 x2 x3 ((x4 + 1)) u0) else (w_X10_of x5 ((0 : Int32)) u0 (fun r18 u17 => (w_X10_queue x5 x2 r18 u17 (fun _ u19 => (w_X10_queuedAt x1 x4 ((0 : Int32)) u19 (fun r22 u21 => (w_X10_divert_51 X35 Φ n x1 x2 ((x3 + 1)) x4 r22 u21))))))))
set_option maxHeartbeats 4000000 in
set_option maxRecDepth 100000 in
theorem t_X10_divert_51 {p : Program} {l : Launch} {e : Env} {s : State} {m : MethodId} {args : Array Value} {below : List Frame} {meth : Method} {c : Code} {D : va_G} {cA : Nat → ClassId} {o : Nat} {X35 : Int32 → Int32 → Int32 → Int32 → Mm → Prop} {Φ : Int32 → Mm → Prop} (C : Cx p m meth c s args cX10_divert 6 wsX10_divert RX10 (some .int) D (tysL cA)) (hX35 : ∀ (x1 : Int32) (x2 : Int32) (x3 : Int32) (x4 : Int32) (u0 : Mm), ∀ (H : Heap) (locs : List Loc) (ls : Array Slot), Hp 6 o D (EM cA o u0) s H locs → lv_has ls 6 [(0, .ref (o + 0)), (1, .int x1), (2, .int x2), (3, .int x3), (4, .int x4)] → X35 x1 x2 x3 x4 u0 → W p l e rm_X10_divert s m args below meth c H locs 0 0 (MQ below (Qg vI Φ (fun μ => Wd 6 o D (tysL cA) (EM cA o μ)) (aA o 6)) args s 0 0 (aA o 6)) (F0 m 35 ls [])) : ∀ n : Nat, ∀ (x1 : Int32) (x2 : Int32) (x3 : Int32) (x4 : Int32) (x5 : Int32) (u0 : Mm), ∀ (H : Heap) (locs : List Loc) (ls : Array Slot), Hp 6 o D (EM cA o u0) s H locs → lv_has ls 6 [(0, .ref (o + 0)), (1, .int x1), (2, .int x2), (3, .int x3), (4, .int x4), (5, .int x5)] → w_X10_divert_51 X35 Φ n x1 x2 x3 x4 x5 u0 → W p l e rm_X10_divert s m args below meth c H locs 0 0 (MQ below (Qg vI Φ (fun μ => Wd 6 o D (tysL cA) (EM cA o μ)) (aA o 6)) args s 0 0 (aA o 6)) (F0 m 51 ls []) := by
  intro n
  induction n with
  | zero => intro x1 x2 x3 x4 x5 u0 H locs ls P hl h; exact h.elim
  | succ n ih =>
    intro x1 x2 x3 x4 x5 u0 H locs ls P hl h
    have hx := C.1.1
    have hb := C.1.2.1
    rw [w_X10_divert_51] at h
    refine lv_iload hx hb dX10_divert_51 (lv_at hl 5 rfl) ?_
    refine lv_if_lt (tgt := 86) hx hb dX10_divert_53 (by decide) (fun c16 => ?_) (fun c16 => ?_)
    · have h := ite_t h c16
      refine lv_iinc (v := (x4 + 1)) (lv' := [(4, .int (x4 + 1)), (0, .ref (o + 0)), (1, .int x1), (2, .int x2), (3, .int x3), (5, .int x5)]) hx hb dX10_divert_86 hl (k := 4) rfl rfl (by decide) rfl (fun ls hl => ?_)
      refine lv_goto (tgt := 35) hx hb dX10_divert_89 (by decide) ?_
      exact hX35 _ _ _ _ u0 _ _ _ P (lv_sub hl [1, 2, 3, 4, 0] rfl) h
    · have h := ite_f h c16
      refine lv_aload_n hx hb dX10_divert_56 rfl (lv_at hl 0 rfl) ?_
      refine lv_iload hx hb dX10_divert_57 (lv_at hl 5 rfl) ?_
      refine lv_iload_n hx hb dX10_divert_59 rfl (lv_at hl 2 rfl) ?_
      refine lv_aload_n hx hb dX10_divert_60 rfl (lv_at hl 0 rfl) ?_
      refine lv_iload hx hb dX10_divert_61 (lv_at hl 5 rfl) ?_
      refine lv_iconst (v := 0) hx hb dX10_divert_63 (by decide) ?_
      refine r_calli (F := EM cA o) (va_runV (As := [.int x5, .int (0 : Int32)]) (rest := [.int x2, .int x5, .ref (o + 0)]) C.1 (c_X10_of l D cA o _ _ u0 _ h) (cwV 2 C.1.2.2.2.2 gX10_divert_X10_of rfl rfl rfl (by decide +kernel) ⟨Nat.le_of_ble_eq_true rfl, Nat.le_of_ble_eq_true rfl⟩) (r_preV C P [.int x5, .int (0 : Int32)] (ci := 10) rfl (by decide) EKM_0) rfl rfl hl.1 rfl (lv_room (Nat.le_of_ble_eq_true rfl)) dX10_divert_64 ⟨Nat.le_of_ble_eq_true rfl, Nat.le_of_ble_eq_true rfl⟩) P.2 (fun r18 u17 H locs h P => ?_)
      refine r_callv (F := EM cA o) (va_runV (As := [.int x5, .int x2, .int r18]) (rest := []) C.1 (c_X10_queue l D cA o _ _ _ u17 _ h) (cwV 3 C.1.2.2.2.2 gX10_divert_X10_queue rfl rfl rfl (by decide +kernel) ⟨Nat.le_of_ble_eq_true rfl, Nat.le_of_ble_eq_true rfl⟩) (r_preV C P [.int x5, .int x2, .int r18] (ci := 10) rfl (by decide) EKM_0) rfl rfl hl.1 rfl (lv_room (Nat.le_of_ble_eq_true rfl)) dX10_divert_67 ⟨Nat.le_of_ble_eq_true rfl, Nat.le_of_ble_eq_true rfl⟩) P.2 (fun u19 H locs h P => ?_)
      refine lv_iinc (v := (x3 + 1)) (lv' := [(3, .int (x3 + 1)), (0, .ref (o + 0)), (1, .int x1), (2, .int x2), (4, .int x4), (5, .int x5)]) hx hb dX10_divert_70 hl (k := 3) rfl rfl (by decide) rfl (fun ls hl => ?_)
      refine lv_aload_n hx hb dX10_divert_73 rfl (lv_at hl 1 rfl) ?_
      refine lv_iload_n hx hb dX10_divert_74 rfl (lv_at hl 2 rfl) ?_
      refine lv_iload hx hb dX10_divert_75 (lv_at hl 4 rfl) ?_
      refine lv_iconst (v := 0) hx hb dX10_divert_77 (by decide) ?_
      refine r_calli (F := EM cA o) (va_runV (As := [.int x1, .int x4, .int (0 : Int32)]) (rest := []) C.1 (c_X10_queuedAt l D cA o _ _ _ u19 _ h) (cwV 3 C.1.2.2.2.2 gX10_divert_X10_queuedAt rfl rfl rfl (by decide +kernel) ⟨Nat.le_of_ble_eq_true rfl, Nat.le_of_ble_eq_true rfl⟩) (r_preV C P [.int x1, .int x4, .int (0 : Int32)] (ci := 10) rfl (by decide) EKM_0) rfl rfl hl.1 rfl (lv_room (Nat.le_of_ble_eq_true rfl)) dX10_divert_78 ⟨Nat.le_of_ble_eq_true rfl, Nat.le_of_ble_eq_true rfl⟩) P.2 (fun r22 u21 H locs h P => ?_)
      refine lv_istore (lv' := [(5, .int r22), (3, .int (x3 + 1)), (0, .ref (o + 0)), (1, .int x1), (2, .int x2), (4, .int x4)]) hx hb dX10_divert_81 hl (by decide) rfl (fun ls hl => ?_)
      refine lv_goto (tgt := 51) hx hb dX10_divert_83 (by decide) ?_
      exact ih _ _ _ _ _ u21 _ _ _ P (lv_sub hl [2, 3, 4, 1, 5, 0] rfl) h
def w_X10_divert_35  (Φ : Int32 → Mm → Prop) : Nat → Int32 → Int32 → Int32 → Int32 → Mm → Prop
  | 0, _, _, _, _, _ => False
  | n + 1, x1, x2, x3, x4, u0 => (if (2 : Int32) ≤ x4 then (if x3 = 0 then (Φ ((-5 : Int32)) u0) else (w_X10_done x3 u0 (fun r13 u12 => (Φ r13 u12)))) else (w_X10_queuedAt x1 x4 ((0 : Int32)) u0 (fun r15 u14 => (∃ n51 : Nat, w_X10_divert_51 (fun y0 y1 y2 y3 u => w_X10_divert_35 Φ n y0 y1 y2 y3 u) Φ n51 x1 x2 x3 x4 r15 u14))))
set_option maxHeartbeats 4000000 in
set_option maxRecDepth 100000 in
theorem t_X10_divert_35 {p : Program} {l : Launch} {e : Env} {s : State} {m : MethodId} {args : Array Value} {below : List Frame} {meth : Method} {c : Code} {D : va_G} {cA : Nat → ClassId} {o : Nat}  {Φ : Int32 → Mm → Prop} (C : Cx p m meth c s args cX10_divert 6 wsX10_divert RX10 (some .int) D (tysL cA)) : ∀ n : Nat, ∀ (x1 : Int32) (x2 : Int32) (x3 : Int32) (x4 : Int32) (u0 : Mm), ∀ (H : Heap) (locs : List Loc) (ls : Array Slot), Hp 6 o D (EM cA o u0) s H locs → lv_has ls 6 [(0, .ref (o + 0)), (1, .int x1), (2, .int x2), (3, .int x3), (4, .int x4)] → w_X10_divert_35 Φ n x1 x2 x3 x4 u0 → W p l e rm_X10_divert s m args below meth c H locs 0 0 (MQ below (Qg vI Φ (fun μ => Wd 6 o D (tysL cA) (EM cA o μ)) (aA o 6)) args s 0 0 (aA o 6)) (F0 m 35 ls []) := by
  intro n
  induction n with
  | zero => intro x1 x2 x3 x4 u0 H locs ls P hl h; exact h.elim
  | succ n ih =>
    intro x1 x2 x3 x4 u0 H locs ls P hl h
    have hx := C.1.1
    have hb := C.1.2.1
    rw [w_X10_divert_35] at h
    refine lv_iload hx hb dX10_divert_35 (lv_at hl 4 rfl) ?_
    refine lv_iconst (v := 2) hx hb dX10_divert_37 (by decide) ?_
    refine lv_icmp_ge (tgt := 92) hx hb dX10_divert_38 (by decide) (fun c10 => ?_) (fun c10 => ?_)
    · have h := ite_t h c10
      refine lv_iload_n hx hb dX10_divert_92 rfl (lv_at hl 3 rfl) ?_
      refine lv_if_ne (tgt := 101) hx hb dX10_divert_93 (by decide) (fun c11 => ?_) (fun c11 => ?_)
      · have h := ite_f h c11
        refine lv_aload_n hx hb dX10_divert_101 rfl (lv_at hl 0 rfl) ?_
        refine lv_iload_n hx hb dX10_divert_102 rfl (lv_at hl 3 rfl) ?_
        refine r_calli (F := EM cA o) (va_runV (As := [.int x3]) (rest := []) C.1 (c_X10_done l D cA o _ u0 _ h) (cwV 1 C.1.2.2.2.2 gX10_divert_X10_done rfl rfl rfl (by decide +kernel) ⟨Nat.le_of_ble_eq_true rfl, Nat.le_of_ble_eq_true rfl⟩) (r_preV C P [.int x3] (ci := 10) rfl (by decide) EKM_0) rfl rfl hl.1 rfl (lv_room (Nat.le_of_ble_eq_true rfl)) dX10_divert_103 ⟨Nat.le_of_ble_eq_true rfl, Nat.le_of_ble_eq_true rfl⟩) P.2 (fun r13 u12 H locs h P => ?_)
        exact r_ireti C P h dX10_divert_106
      · have h := ite_t h c11
        refine lv_bipush (v := -5) hx hb dX10_divert_96 (by decide) ?_
        refine lv_goto (tgt := 106) hx hb dX10_divert_98 (by decide) ?_
        exact r_ireti C P h dX10_divert_106
    · have h := ite_f h c10
      refine lv_aload_n hx hb dX10_divert_41 rfl (lv_at hl 0 rfl) ?_
      refine lv_iload_n hx hb dX10_divert_42 rfl (lv_at hl 1 rfl) ?_
      refine lv_iload hx hb dX10_divert_43 (lv_at hl 4 rfl) ?_
      refine lv_iconst (v := 0) hx hb dX10_divert_45 (by decide) ?_
      refine r_calli (F := EM cA o) (va_runV (As := [.int x1, .int x4, .int (0 : Int32)]) (rest := []) C.1 (c_X10_queuedAt l D cA o _ _ _ u0 _ h) (cwV 3 C.1.2.2.2.2 gX10_divert_X10_queuedAt rfl rfl rfl (by decide +kernel) ⟨Nat.le_of_ble_eq_true rfl, Nat.le_of_ble_eq_true rfl⟩) (r_preV C P [.int x1, .int x4, .int (0 : Int32)] (ci := 10) rfl (by decide) EKM_0) rfl rfl hl.1 rfl (lv_room (Nat.le_of_ble_eq_true rfl)) dX10_divert_46 ⟨Nat.le_of_ble_eq_true rfl, Nat.le_of_ble_eq_true rfl⟩) P.2 (fun r15 u14 H locs h P => ?_)
      refine lv_istore (lv' := [(5, .int r15), (0, .ref (o + 0)), (1, .int x1), (2, .int x2), (3, .int x3), (4, .int x4)]) hx hb dX10_divert_49 hl (by decide) rfl (fun ls hl => ?_)
      obtain ⟨n51, h⟩ := h
      exact t_X10_divert_51 C ih n51 _ _ _ _ _ u14 _ _ _ P (lv_sub hl [1, 2, 3, 4, 5, 0] rfl) h
def w_X10_divert (a1 : Int32) (a2 : Int32) (u0 : Mm) (Φ : Int32 → Mm → Prop) : Prop := (w_X10_noGate a1 u0 (fun r2 u1 => (if r2 = 0 then (w_X10_noGate a2 u1 (fun r5 u4 => (if r5 = 0 then (if a1 = a2 then (Φ ((-2 : Int32)) u4) else (w_X10_begin u4 (fun _ u8 => (∃ n35 : Nat, w_X10_divert_35 Φ n35 a1 a2 ((0 : Int32)) ((0 : Int32)) u8)))) else (Φ ((-1 : Int32)) u4)))) else (Φ ((-1 : Int32)) u1))))
set_option maxHeartbeats 4000000 in
set_option maxRecDepth 100000 in
theorem t_X10_divert_0 {p : Program} {l : Launch} {e : Env} {s : State} {m : MethodId} {args : Array Value} {below : List Frame} {meth : Method} {c : Code} {D : va_G} {cA : Nat → ClassId} {o : Nat}  {Φ : Int32 → Mm → Prop} (C : Cx p m meth c s args cX10_divert 6 wsX10_divert RX10 (some .int) D (tysL cA)) : ∀ (a1 : Int32) (a2 : Int32) (u0 : Mm), ∀ (H : Heap) (locs : List Loc) (ls : Array Slot), Hp 6 o D (EM cA o u0) s H locs → lv_has ls 6 [(0, .ref (o + 0)), (1, .int a1), (2, .int a2)] → w_X10_divert a1 a2 u0 Φ → W p l e rm_X10_divert s m args below meth c H locs 0 0 (MQ below (Qg vI Φ (fun μ => Wd 6 o D (tysL cA) (EM cA o μ)) (aA o 6)) args s 0 0 (aA o 6)) (F0 m 0 ls []) := by
  intro a1 a2 u0 H locs ls P hl h
  have hx := C.1.1
  have hb := C.1.2.1
  unfold w_X10_divert at h
  refine lv_aload_n hx hb dX10_divert_0 rfl (lv_at hl 0 rfl) ?_
  refine lv_iload_n hx hb dX10_divert_1 rfl (lv_at hl 1 rfl) ?_
  refine r_calli (F := EM cA o) (va_runV (As := [.int a1]) (rest := []) C.1 (c_X10_noGate l D cA o _ u0 _ h) (cwV 1 C.1.2.2.2.2 gX10_divert_X10_noGate rfl rfl rfl (by decide +kernel) ⟨Nat.le_of_ble_eq_true rfl, Nat.le_of_ble_eq_true rfl⟩) (r_preV C P [.int a1] (ci := 10) rfl (by decide) EKM_0) rfl rfl hl.1 rfl (lv_room (Nat.le_of_ble_eq_true rfl)) dX10_divert_2 ⟨Nat.le_of_ble_eq_true rfl, Nat.le_of_ble_eq_true rfl⟩) P.2 (fun r2 u1 H locs h P => ?_)
  refine lv_if_ne (tgt := 16) hx hb dX10_divert_5 (by decide) (fun c3 => ?_) (fun c3 => ?_)
  · have h := ite_f h c3
    refine lv_iconst (v := -1) hx hb dX10_divert_16 (by decide) ?_
    exact r_ireti C P h dX10_divert_17
  · have h := ite_t h c3
    refine lv_aload_n hx hb dX10_divert_8 rfl (lv_at hl 0 rfl) ?_
    refine lv_iload_n hx hb dX10_divert_9 rfl (lv_at hl 2 rfl) ?_
    refine r_calli (F := EM cA o) (va_runV (As := [.int a2]) (rest := []) C.1 (c_X10_noGate l D cA o _ u1 _ h) (cwV 1 C.1.2.2.2.2 gX10_divert_X10_noGate rfl rfl rfl (by decide +kernel) ⟨Nat.le_of_ble_eq_true rfl, Nat.le_of_ble_eq_true rfl⟩) (r_preV C P [.int a2] (ci := 10) rfl (by decide) EKM_0) rfl rfl hl.1 rfl (lv_room (Nat.le_of_ble_eq_true rfl)) dX10_divert_10 ⟨Nat.le_of_ble_eq_true rfl, Nat.le_of_ble_eq_true rfl⟩) P.2 (fun r5 u4 H locs h P => ?_)
    refine lv_if_eq (tgt := 18) hx hb dX10_divert_13 (by decide) (fun c6 => ?_) (fun c6 => ?_)
    · have h := ite_t h c6
      refine lv_iload_n hx hb dX10_divert_18 rfl (lv_at hl 1 rfl) ?_
      refine lv_iload_n hx hb dX10_divert_19 rfl (lv_at hl 2 rfl) ?_
      refine lv_icmp_ne (tgt := 26) hx hb dX10_divert_20 (by decide) (fun c7 => ?_) (fun c7 => ?_)
      · have h := ite_f h c7
        refine lv_aload_n hx hb dX10_divert_26 rfl (lv_at hl 0 rfl) ?_
        refine r_callv (F := EM cA o) (va_runV (As := []) (rest := []) C.1 (c_X10_begin l D cA o u4 _ h) (cwV 0 C.1.2.2.2.2 gX10_divert_X10_begin rfl rfl rfl (by decide +kernel) ⟨Nat.le_of_ble_eq_true rfl, Nat.le_of_ble_eq_true rfl⟩) (r_preV C P [] (ci := 10) rfl (by decide) EKM_0) rfl rfl hl.1 rfl (lv_room (Nat.le_of_ble_eq_true rfl)) dX10_divert_27 ⟨Nat.le_of_ble_eq_true rfl, Nat.le_of_ble_eq_true rfl⟩) P.2 (fun u8 H locs h P => ?_)
        refine lv_iconst (v := 0) hx hb dX10_divert_30 (by decide) ?_
        refine lv_istore_n (lv' := [(3, .int (0 : Int32)), (0, .ref (o + 0)), (1, .int a1), (2, .int a2)]) hx hb dX10_divert_31 rfl hl (by decide) rfl (fun ls hl => ?_)
        refine lv_iconst (v := 0) hx hb dX10_divert_32 (by decide) ?_
        refine lv_istore (lv' := [(4, .int (0 : Int32)), (3, .int (0 : Int32)), (0, .ref (o + 0)), (1, .int a1), (2, .int a2)]) hx hb dX10_divert_33 hl (by decide) rfl (fun ls hl => ?_)
        obtain ⟨n35, h⟩ := h
        exact t_X10_divert_35 C n35 _ _ _ _ u8 _ _ _ P (lv_sub hl [2, 3, 4, 1, 0] rfl) h
      · have h := ite_t h c7
        refine lv_bipush (v := -2) hx hb dX10_divert_23 (by decide) ?_
        exact r_ireti C P h dX10_divert_25
    · have h := ite_f h c6
      refine lv_iconst (v := -1) hx hb dX10_divert_16 (by decide) ?_
      exact r_ireti C P h dX10_divert_17
set_option maxHeartbeats 4000000 in
set_option maxRecDepth 100000 in
theorem c_X10_divert (l : Launch) (D : va_G) (cA : Nat → ClassId) (o : Nat) (a1 : Int32) (a2 : Int32)  (u0 : Mm) (Φ : Int32 → Mm → Prop) (h : w_X10_divert a1 a2 u0 Φ) : Met l yX10_divert wsX10_divert rm_X10_divert (va_Pc [.ref (o + 0), .int a1, .int a2] (Wd 6 o D (tysL cA) (EM cA o u0))) (Qg vI Φ (fun μ => Wd 6 o D (tysL cA) (EM cA o μ)) (aA o 6)) 0 0 (aA o 6) := by
  refine Met.ofW (cc := cX10_divert) (maxL := 6) (ret := (some .int)) (by decide) rfl ?_
  intro p e s m args below meth c s₁ B hml hv
  obtain ⟨rfl, hv⟩ := hv
  have hl := lv_entry ([.ref (o + 0), .int a1, .int a2]) (n := 6) (Nat.le_of_ble_eq_true rfl)
  rw [lg_entry_eq]
  exact t_X10_divert_0 ⟨⟨B.exec, B.bytes, hml, findClass_of_methodNamed B.named, atoms_spec (ws := wsX10_divert) B.pre⟩, B.returns, B.notSynchronized, hv.2⟩ a1 a2 u0 _ _ _ ⟨hv.1, va_S.rf⟩ hl h
