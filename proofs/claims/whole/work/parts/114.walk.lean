abbrev rm_X10_tell : Room := { frames := 0, cells := 0, slots := 0, locals := 0 }
theorem wd_X10_tell_1 : Cond.fieldLink RX10 7 "TurnstileBankModel" "row" "[I" ∈ wsX10_tell := List.mem_of_getElem? (i := 1) (by decide +kernel)
theorem in_X10_tell_10 : ∀ w ∈ wsX100, w ∈ wsX10_tell := fun w h => List.mem_cons_of_mem _ (List.mem_append_right _ h)
def w_X10_tell_4  (Φ : Unit → Mm → Prop) : Nat → Int32 → Int32 → Int32 → Int32 → Mm → Prop
  | 0, _, _, _, _, _ => False
  | n + 1, x1, x2, x3, x4, u0 => (if x4 < (4 : Int32) then (∀ u2 : Mm, u2 = up2 u0 1 (436 : Int32).toNatClampNeg (u0 1 (0 : Int32).toNatClampNeg) → (∀ u3 : Mm, u3 = up2 u2 1 (437 : Int32).toNatClampNeg x1 → (∀ u4 : Mm, u4 = up2 u3 1 (438 : Int32).toNatClampNeg x2 → (∀ u5 : Mm, u5 = up2 u4 1 (439 : Int32).toNatClampNeg x3 → (if (20 : Int32) ≤ (u5 1 (5 : Int32).toNatClampNeg) then (∀ u7 : Mm, u7 = up2 u5 1 (5 : Int32).toNatClampNeg ((u5 1 (5 : Int32).toNatClampNeg) + (0 : Int32)) → (Φ () u7)) else (∀ u8 : Mm, u8 = up2 u5 1 (5 : Int32).toNatClampNeg ((u5 1 (5 : Int32).toNatClampNeg) + (1 : Int32)) → (Φ () u8))))))) else (vp_in (((436 : Int32) + x4) - (4 : Int32)) 516 ∧ (vp_in ((436 : Int32) + x4) 516 ∧ ∀ u9 : Mm, u9 = up2 u0 1 ((436 : Int32) + x4).toNatClampNeg (u0 1 (((436 : Int32) + x4) - (4 : Int32)).toNatClampNeg) → (w_X10_tell_4 Φ n x1 x2 x3 ((x4 + (-1))) u9))))
set_option maxHeartbeats 4000000 in
set_option maxRecDepth 100000 in
theorem t_X10_tell_4 {p : Program} {l : Launch} {e : Env} {s : State} {m : MethodId} {args : Array Value} {below : List Frame} {meth : Method} {c : Code} {D : va_G} {cA : Nat → ClassId} {o : Nat}  {Φ : Unit → Mm → Prop} (C : Cx p m meth c s args cX10_tell 5 wsX10_tell RX10 none D (tysL cA)) : ∀ n : Nat, ∀ (x1 : Int32) (x2 : Int32) (x3 : Int32) (x4 : Int32) (u0 : Mm), ∀ (H : Heap) (locs : List Loc) (ls : Array Slot), Hp 6 o D (EM cA o u0) s H locs → lv_has ls 5 [(0, .ref (o + 0)), (1, .int x1), (2, .int x2), (3, .int x3), (4, .int x4)] → w_X10_tell_4 Φ n x1 x2 x3 x4 u0 → W p l e rm_X10_tell s m args below meth c H locs 0 0 (MQ below (Qg vV Φ (fun μ => Wd 6 o D (tysL cA) (EM cA o μ)) (aA o 6)) args s 0 0 (aA o 6)) (F0 m 4 ls []) := by
  intro n
  induction n with
  | zero => intro x1 x2 x3 x4 u0 H locs ls P hl h; exact h.elim
  | succ n ih =>
    intro x1 x2 x3 x4 u0 H locs ls P hl h
    have hx := C.1.1
    have hb := C.1.2.1
    rw [w_X10_tell_4] at h
    refine lv_iload hx hb dX10_tell_4 (lv_at hl 4 rfl) ?_
    refine lv_iconst (v := 4) hx hb dX10_tell_6 (by decide) ?_
    refine lv_icmp_lt (tgt := 40) hx hb dX10_tell_7 (by decide) (fun c1 => ?_) (fun c1 => ?_)
    · have h := ite_t h c1
      refine lv_aload_n hx hb dX10_tell_40 rfl (lv_at hl 0 rfl) ?_
      refine g_10_0 C P in_X10_tell_10 wd_X10_tell_1 dX10_tell_41 ?_
      refine lv_sipush (v := 436) hx hb dX10_tell_44 (by decide) ?_
      refine lv_aload_n hx hb dX10_tell_47 rfl (lv_at hl 0 rfl) ?_
      refine g_10_0 C P in_X10_tell_10 wd_X10_tell_1 dX10_tell_48 ?_
      refine lv_iconst (v := 0) hx hb dX10_tell_51 (by decide) ?_
      refine mld_1 C P (by unfold vp_in; decide) dX10_tell_52 ?_
      refine mst_1 C P (by unfold vp_in; decide) dX10_tell_53 (fun u2 eu2 H locs P => ?_)
      have h := h u2 eu2
      refine lv_aload_n hx hb dX10_tell_54 rfl (lv_at hl 0 rfl) ?_
      refine g_10_0 C P in_X10_tell_10 wd_X10_tell_1 dX10_tell_55 ?_
      refine lv_sipush (v := 437) hx hb dX10_tell_58 (by decide) ?_
      refine lv_iload_n hx hb dX10_tell_61 rfl (lv_at hl 1 rfl) ?_
      refine mst_1 C P (by unfold vp_in; decide) dX10_tell_62 (fun u3 eu3 H locs P => ?_)
      have h := h u3 eu3
      refine lv_aload_n hx hb dX10_tell_63 rfl (lv_at hl 0 rfl) ?_
      refine g_10_0 C P in_X10_tell_10 wd_X10_tell_1 dX10_tell_64 ?_
      refine lv_sipush (v := 438) hx hb dX10_tell_67 (by decide) ?_
      refine lv_iload_n hx hb dX10_tell_70 rfl (lv_at hl 2 rfl) ?_
      refine mst_1 C P (by unfold vp_in; decide) dX10_tell_71 (fun u4 eu4 H locs P => ?_)
      have h := h u4 eu4
      refine lv_aload_n hx hb dX10_tell_72 rfl (lv_at hl 0 rfl) ?_
      refine g_10_0 C P in_X10_tell_10 wd_X10_tell_1 dX10_tell_73 ?_
      refine lv_sipush (v := 439) hx hb dX10_tell_76 (by decide) ?_
      refine lv_iload_n hx hb dX10_tell_79 rfl (lv_at hl 3 rfl) ?_
      refine mst_1 C P (by unfold vp_in; decide) dX10_tell_80 (fun u5 eu5 H locs P => ?_)
      have h := h u5 eu5
      refine lv_aload_n hx hb dX10_tell_81 rfl (lv_at hl 0 rfl) ?_
      refine g_10_0 C P in_X10_tell_10 wd_X10_tell_1 dX10_tell_82 ?_
      refine lv_iconst (v := 5) hx hb dX10_tell_85 (by decide) ?_
      refine lv_dup2_11 hx hb dX10_tell_86 rfl rfl ?_
      refine mld_1 C P (by unfold vp_in; decide) dX10_tell_87 ?_
      refine lv_aload_n hx hb dX10_tell_88 rfl (lv_at hl 0 rfl) ?_
      refine g_10_0 C P in_X10_tell_10 wd_X10_tell_1 dX10_tell_89 ?_
      refine lv_iconst (v := 5) hx hb dX10_tell_92 (by decide) ?_
      refine mld_1 C P (by unfold vp_in; decide) dX10_tell_93 ?_
      refine lv_bipush (v := 20) hx hb dX10_tell_94 (by decide) ?_
      refine lv_icmp_ge (tgt := 103) hx hb dX10_tell_96 (by decide) (fun c6 => ?_) (fun c6 => ?_)
      · have h := ite_t h c6
        refine lv_iconst (v := 0) hx hb dX10_tell_103 (by decide) ?_
        refine lv_iadd hx hb dX10_tell_104 ?_
        refine mst_1 C P (by unfold vp_in; decide) dX10_tell_105 (fun u7 eu7 H locs P => ?_)
        have h := h u7 eu7
        exact r_ret C P h dX10_tell_106
      · have h := ite_f h c6
        refine lv_iconst (v := 1) hx hb dX10_tell_99 (by decide) ?_
        refine lv_goto (tgt := 104) hx hb dX10_tell_100 (by decide) ?_
        refine lv_iadd hx hb dX10_tell_104 ?_
        refine mst_1 C P (by unfold vp_in; decide) dX10_tell_105 (fun u8 eu8 H locs P => ?_)
        have h := h u8 eu8
        exact r_ret C P h dX10_tell_106
    · have h := ite_f h c1
      refine lv_aload_n hx hb dX10_tell_10 rfl (lv_at hl 0 rfl) ?_
      refine g_10_0 C P in_X10_tell_10 wd_X10_tell_1 dX10_tell_11 ?_
      refine lv_sipush (v := 436) hx hb dX10_tell_14 (by decide) ?_
      refine lv_iload hx hb dX10_tell_17 (lv_at hl 4 rfl) ?_
      refine lv_iadd hx hb dX10_tell_19 ?_
      refine lv_aload_n hx hb dX10_tell_20 rfl (lv_at hl 0 rfl) ?_
      refine g_10_0 C P in_X10_tell_10 wd_X10_tell_1 dX10_tell_21 ?_
      refine lv_sipush (v := 436) hx hb dX10_tell_24 (by decide) ?_
      refine lv_iload hx hb dX10_tell_27 (lv_at hl 4 rfl) ?_
      refine lv_iadd hx hb dX10_tell_29 ?_
      refine lv_iconst (v := 4) hx hb dX10_tell_30 (by decide) ?_
      refine lv_isub hx hb dX10_tell_31 ?_
      obtain ⟨hi, h⟩ := h
      refine mld_1 C P hi dX10_tell_32 ?_
      obtain ⟨hi, h⟩ := h
      refine mst_1 C P hi dX10_tell_33 (fun u9 eu9 H locs P => ?_)
      have h := h u9 eu9
      refine lv_iinc (v := (x4 + (-1))) (lv' := [(4, .int (x4 + (-1))), (0, .ref (o + 0)), (1, .int x1), (2, .int x2), (3, .int x3)]) hx hb dX10_tell_34 hl (k := 4) rfl rfl (by decide) rfl (fun ls hl => ?_)
      refine lv_goto (tgt := 4) hx hb dX10_tell_37 (by decide) ?_
      exact ih _ _ _ _ u9 _ _ _ P (lv_sub hl [1, 2, 3, 4, 0] rfl) h
def w_X10_tell (a1 : Int32) (a2 : Int32) (a3 : Int32) (u0 : Mm) (Φ : Unit → Mm → Prop) : Prop := (∃ n4 : Nat, w_X10_tell_4 Φ n4 a1 a2 a3 ((79 : Int32)) u0)
set_option maxHeartbeats 4000000 in
set_option maxRecDepth 100000 in
theorem t_X10_tell_0 {p : Program} {l : Launch} {e : Env} {s : State} {m : MethodId} {args : Array Value} {below : List Frame} {meth : Method} {c : Code} {D : va_G} {cA : Nat → ClassId} {o : Nat}  {Φ : Unit → Mm → Prop} (C : Cx p m meth c s args cX10_tell 5 wsX10_tell RX10 none D (tysL cA)) : ∀ (a1 : Int32) (a2 : Int32) (a3 : Int32) (u0 : Mm), ∀ (H : Heap) (locs : List Loc) (ls : Array Slot), Hp 6 o D (EM cA o u0) s H locs → lv_has ls 5 [(0, .ref (o + 0)), (1, .int a1), (2, .int a2), (3, .int a3)] → w_X10_tell a1 a2 a3 u0 Φ → W p l e rm_X10_tell s m args below meth c H locs 0 0 (MQ below (Qg vV Φ (fun μ => Wd 6 o D (tysL cA) (EM cA o μ)) (aA o 6)) args s 0 0 (aA o 6)) (F0 m 0 ls []) := by
  intro a1 a2 a3 u0 H locs ls P hl h
  have hx := C.1.1
  have hb := C.1.2.1
  unfold w_X10_tell at h
  refine lv_bipush (v := 79) hx hb dX10_tell_0 (by decide) ?_
  refine lv_istore (lv' := [(4, .int (79 : Int32)), (0, .ref (o + 0)), (1, .int a1), (2, .int a2), (3, .int a3)]) hx hb dX10_tell_2 hl (by decide) rfl (fun ls hl => ?_)
  obtain ⟨n4, h⟩ := h
  exact t_X10_tell_4 C n4 _ _ _ _ u0 _ _ _ P (lv_sub hl [1, 2, 3, 4, 0] rfl) h
set_option maxHeartbeats 4000000 in
set_option maxRecDepth 100000 in
theorem c_X10_tell (l : Launch) (D : va_G) (cA : Nat → ClassId) (o : Nat) (a1 : Int32) (a2 : Int32) (a3 : Int32)  (u0 : Mm) (Φ : Unit → Mm → Prop) (h : w_X10_tell a1 a2 a3 u0 Φ) : Met l yX10_tell wsX10_tell rm_X10_tell (va_Pc [.ref (o + 0), .int a1, .int a2, .int a3] (Wd 6 o D (tysL cA) (EM cA o u0))) (Qg vV Φ (fun μ => Wd 6 o D (tysL cA) (EM cA o μ)) (aA o 6)) 0 0 (aA o 6) := by
  refine Met.ofW (cc := cX10_tell) (maxL := 5) (ret := none) (by decide) rfl ?_
  intro p e s m args below meth c s₁ B hml hv
  obtain ⟨rfl, hv⟩ := hv
  have hl := lv_entry ([.ref (o + 0), .int a1, .int a2, .int a3]) (n := 5) (Nat.le_of_ble_eq_true rfl)
  rw [lg_entry_eq]
  exact t_X10_tell_0 ⟨⟨B.exec, B.bytes, hml, findClass_of_methodNamed B.named, atoms_spec (ws := wsX10_tell) B.pre⟩, B.returns, B.notSynchronized, hv.2⟩ a1 a2 a3 u0 _ _ _ ⟨hv.1, va_S.rf⟩ hl h
abbrev rm_X10_letThrough : Room := { frames := 1, cells := 0, slots := 0, locals := 24 }
def w_X10_letThrough_59  (Φ : Unit → Mm → Prop) (x1 : Int32) (x2 : Int32) (x3 : Int32) (z0 : Int32) (u0 : Mm) : Prop := (w_X10_gateOf x1 z0 u0 (fun r13 u12 => (w_X10_putGate x1 z0 ((r13 + (1 : Int32))) u12 (fun _ u14 => (w_X10_putGate x1 ((6 : Int32)) ((-5 : Int32)) u14 (fun _ u16 => (if x3 = 0 then (w_X10_tell x1 x2 ((3 : Int32)) u16 (fun _ u19 => (Φ () u19))) else (w_X10_tell x1 x2 ((2 : Int32)) u16 (fun _ u21 => (Φ () u21))))))))))
set_option maxHeartbeats 4000000 in
set_option maxRecDepth 100000 in
theorem t_X10_letThrough_59 {p : Program} {l : Launch} {e : Env} {s : State} {m : MethodId} {args : Array Value} {below : List Frame} {meth : Method} {c : Code} {D : va_G} {cA : Nat → ClassId} {o : Nat}  {Φ : Unit → Mm → Prop} (C : Cx p m meth c s args cX10_letThrough 5 wsX10_letThrough RX10 none D (tysL cA)) : ∀ (x1 : Int32) (x2 : Int32) (x3 : Int32) (z0 : Int32) (u0 : Mm), ∀ (H : Heap) (locs : List Loc) (ls : Array Slot), Hp 6 o D (EM cA o u0) s H locs → lv_has ls 5 [(0, .ref (o + 0)), (1, .int x1), (2, .int x2), (3, .int x3)] → w_X10_letThrough_59 Φ x1 x2 x3 z0 u0 → W p l e rm_X10_letThrough s m args below meth c H locs 0 0 (MQ below (Qg vV Φ (fun μ => Wd 6 o D (tysL cA) (EM cA o μ)) (aA o 6)) args s 0 0 (aA o 6)) (F0 m 59 ls [.int z0]) := by
  intro x1 x2 x3 z0 u0 H locs ls P hl h
  have hx := C.1.1
  have hb := C.1.2.1
  unfold w_X10_letThrough_59 at h
  refine lv_istore (lv' := [(4, .int z0), (0, .ref (o + 0)), (1, .int x1), (2, .int x2), (3, .int x3)]) hx hb dX10_letThrough_59 hl (by decide) rfl (fun ls hl => ?_)
  refine lv_aload_n hx hb dX10_letThrough_61 rfl (lv_at hl 1 rfl) ?_
  refine lv_iload_n hx hb dX10_letThrough_62 rfl (lv_at hl 2 rfl) ?_
  refine lv_iload hx hb dX10_letThrough_63 (lv_at hl 0 rfl) ?_
  refine lv_aload_n hx hb dX10_letThrough_65 rfl (lv_at hl 1 rfl) ?_
  refine lv_iload_n hx hb dX10_letThrough_66 rfl (lv_at hl 2 rfl) ?_
  refine lv_iload hx hb dX10_letThrough_67 (lv_at hl 0 rfl) ?_
  refine r_calli (F := EM cA o) (va_runV (As := [.int x1, .int z0]) (rest := [.int z0, .int x1, .ref (o + 0)]) C.1 (c_X10_gateOf l D cA o _ _ u0 _ h) (cwV 2 C.1.2.2.2.2 gX10_letThrough_X10_gateOf rfl rfl rfl (by decide +kernel) ⟨Nat.le_of_ble_eq_true rfl, Nat.le_of_ble_eq_true rfl⟩) (r_preV C P [.int x1, .int z0] (ci := 10) rfl (by decide) EKM_0) rfl rfl hl.1 rfl (lv_room (Nat.le_of_ble_eq_true rfl)) dX10_letThrough_69 ⟨Nat.le_of_ble_eq_true rfl, Nat.le_of_ble_eq_true rfl⟩) P.2 (fun r13 u12 H locs h P => ?_)
  refine lv_iconst (v := 1) hx hb dX10_letThrough_72 (by decide) ?_
  refine lv_iadd hx hb dX10_letThrough_73 ?_
  refine r_callv (F := EM cA o) (va_runV (As := [.int x1, .int z0, .int (r13 + (1 : Int32))]) (rest := []) C.1 (c_X10_putGate l D cA o _ _ _ u12 _ h) (cwV 3 C.1.2.2.2.2 gX10_letThrough_X10_putGate rfl rfl rfl (by decide +kernel) ⟨Nat.le_of_ble_eq_true rfl, Nat.le_of_ble_eq_true rfl⟩) (r_preV C P [.int x1, .int z0, .int (r13 + (1 : Int32))] (ci := 10) rfl (by decide) EKM_0) rfl rfl hl.1 rfl (lv_room (Nat.le_of_ble_eq_true rfl)) dX10_letThrough_74 ⟨Nat.le_of_ble_eq_true rfl, Nat.le_of_ble_eq_true rfl⟩) P.2 (fun u14 H locs h P => ?_)
  refine lv_aload_n hx hb dX10_letThrough_77 rfl (lv_at hl 1 rfl) ?_
  refine lv_iload_n hx hb dX10_letThrough_78 rfl (lv_at hl 2 rfl) ?_
  refine lv_bipush (v := 6) hx hb dX10_letThrough_79 (by decide) ?_
  refine lv_bipush (v := -5) hx hb dX10_letThrough_81 (by decide) ?_
  refine r_callv (F := EM cA o) (va_runV (As := [.int x1, .int (6 : Int32), .int (-5 : Int32)]) (rest := []) C.1 (c_X10_putGate l D cA o _ _ _ u14 _ h) (cwV 3 C.1.2.2.2.2 gX10_letThrough_X10_putGate rfl rfl rfl (by decide +kernel) ⟨Nat.le_of_ble_eq_true rfl, Nat.le_of_ble_eq_true rfl⟩) (r_preV C P [.int x1, .int (6 : Int32), .int (-5 : Int32)] (ci := 10) rfl (by decide) EKM_0) rfl rfl hl.1 rfl (lv_room (Nat.le_of_ble_eq_true rfl)) dX10_letThrough_83 ⟨Nat.le_of_ble_eq_true rfl, Nat.le_of_ble_eq_true rfl⟩) P.2 (fun u16 H locs h P => ?_)
  refine lv_aload_n hx hb dX10_letThrough_86 rfl (lv_at hl 1 rfl) ?_
  refine lv_iload_n hx hb dX10_letThrough_87 rfl (lv_at hl 2 rfl) ?_
  refine lv_iload_n hx hb dX10_letThrough_88 rfl (lv_at hl 3 rfl) ?_
  refine lv_iload_n hx hb dX10_letThrough_89 rfl (lv_at hl 4 rfl) ?_
  refine lv_if_eq (tgt := 97) hx hb dX10_letThrough_90 (by decide) (fun c18 => ?_) (fun c18 => ?_)
  · have h := ite_t h c18
    refine lv_iconst (v := 3) hx hb dX10_letThrough_97 (by decide) ?_
    refine r_callv (F := EM cA o) (va_runV (As := [.int x1, .int x2, .int (3 : Int32)]) (rest := []) C.1 (c_X10_tell l D cA o _ _ _ u16 _ h) (cwV 3 C.1.2.2.2.2 gX10_letThrough_X10_tell rfl rfl rfl (by decide +kernel) ⟨Nat.le_of_ble_eq_true rfl, Nat.le_of_ble_eq_true rfl⟩) (r_preV C P [.int x1, .int x2, .int (3 : Int32)] (ci := 10) rfl (by decide) EKM_0) rfl rfl hl.1 rfl (lv_room (Nat.le_of_ble_eq_true rfl)) dX10_letThrough_98 ⟨Nat.le_of_ble_eq_true rfl, Nat.le_of_ble_eq_true rfl⟩) P.2 (fun u19 H locs h P => ?_)
    exact r_ret C P h dX10_letThrough_101
  · have h := ite_f h c18
    refine lv_iconst (v := 2) hx hb dX10_letThrough_93 (by decide) ?_
    refine lv_goto (tgt := 98) hx hb dX10_letThrough_94 (by decide) ?_
    refine r_callv (F := EM cA o) (va_runV (As := [.int x1, .int x2, .int (2 : Int32)]) (rest := []) C.1 (c_X10_tell l D cA o _ _ _ u16 _ h) (cwV 3 C.1.2.2.2.2 gX10_letThrough_X10_tell rfl rfl rfl (by decide +kernel) ⟨Nat.le_of_ble_eq_true rfl, Nat.le_of_ble_eq_true rfl⟩) (r_preV C P [.int x1, .int x2, .int (2 : Int32)] (ci := 10) rfl (by decide) EKM_0) rfl rfl hl.1 rfl (lv_room (Nat.le_of_ble_eq_true rfl)) dX10_letThrough_98 ⟨Nat.le_of_ble_eq_true rfl, Nat.le_of_ble_eq_true rfl⟩) P.2 (fun u21 H locs h P => ?_)
    exact r_ret C P h dX10_letThrough_101
def w_X10_letThrough_37  (Φ : Unit → Mm → Prop) (x1 : Int32) (x2 : Int32) (x3 : Int32) (z0 : Int32) (z1 : Int32) (z2 : Int32) (u0 : Mm) : Prop := (w_X10_put z2 z1 z0 u0 (fun _ u7 => (w_X10_put x2 ((3 : Int32)) ((-5 : Int32)) u7 (fun _ u9 => (if x3 = 0 then (w_X10_letThrough_59 Φ x1 x2 x3 ((11 : Int32)) u9) else (w_X10_letThrough_59 Φ x1 x2 x3 ((10 : Int32)) u9))))))
set_option maxHeartbeats 4000000 in
set_option maxRecDepth 100000 in
theorem t_X10_letThrough_37 {p : Program} {l : Launch} {e : Env} {s : State} {m : MethodId} {args : Array Value} {below : List Frame} {meth : Method} {c : Code} {D : va_G} {cA : Nat → ClassId} {o : Nat}  {Φ : Unit → Mm → Prop} (C : Cx p m meth c s args cX10_letThrough 5 wsX10_letThrough RX10 none D (tysL cA)) : ∀ (x1 : Int32) (x2 : Int32) (x3 : Int32) (z0 : Int32) (z1 : Int32) (z2 : Int32) (u0 : Mm), ∀ (H : Heap) (locs : List Loc) (ls : Array Slot), Hp 6 o D (EM cA o u0) s H locs → lv_has ls 5 [(0, .ref (o + 0)), (1, .int x1), (2, .int x2), (3, .int x3)] → w_X10_letThrough_37 Φ x1 x2 x3 z0 z1 z2 u0 → W p l e rm_X10_letThrough s m args below meth c H locs 0 0 (MQ below (Qg vV Φ (fun μ => Wd 6 o D (tysL cA) (EM cA o μ)) (aA o 6)) args s 0 0 (aA o 6)) (F0 m 37 ls [.int z0, .int z1, .int z2, .ref (o + 0)]) := by
  intro x1 x2 x3 z0 z1 z2 u0 H locs ls P hl h
  have hx := C.1.1
  have hb := C.1.2.1
  unfold w_X10_letThrough_37 at h
  refine r_callv (F := EM cA o) (va_runV (As := [.int z2, .int z1, .int z0]) (rest := []) C.1 (c_X10_put l D cA o _ _ _ u0 _ h) (cwV 3 C.1.2.2.2.2 gX10_letThrough_X10_put rfl rfl rfl (by decide +kernel) ⟨Nat.le_of_ble_eq_true rfl, Nat.le_of_ble_eq_true rfl⟩) (r_preV C P [.int z2, .int z1, .int z0] (ci := 10) rfl (by decide) EKM_0) rfl rfl hl.1 rfl (lv_room (Nat.le_of_ble_eq_true rfl)) dX10_letThrough_37 ⟨Nat.le_of_ble_eq_true rfl, Nat.le_of_ble_eq_true rfl⟩) P.2 (fun u7 H locs h P => ?_)
  refine lv_aload_n hx hb dX10_letThrough_40 rfl (lv_at hl 0 rfl) ?_
  refine lv_iload_n hx hb dX10_letThrough_41 rfl (lv_at hl 2 rfl) ?_
  refine lv_iconst (v := 3) hx hb dX10_letThrough_42 (by decide) ?_
  refine lv_bipush (v := -5) hx hb dX10_letThrough_43 (by decide) ?_
  refine r_callv (F := EM cA o) (va_runV (As := [.int x2, .int (3 : Int32), .int (-5 : Int32)]) (rest := []) C.1 (c_X10_put l D cA o _ _ _ u7 _ h) (cwV 3 C.1.2.2.2.2 gX10_letThrough_X10_put rfl rfl rfl (by decide +kernel) ⟨Nat.le_of_ble_eq_true rfl, Nat.le_of_ble_eq_true rfl⟩) (r_preV C P [.int x2, .int (3 : Int32), .int (-5 : Int32)] (ci := 10) rfl (by decide) EKM_0) rfl rfl hl.1 rfl (lv_room (Nat.le_of_ble_eq_true rfl)) dX10_letThrough_45 ⟨Nat.le_of_ble_eq_true rfl, Nat.le_of_ble_eq_true rfl⟩) P.2 (fun u9 H locs h P => ?_)
  refine lv_iload_n hx hb dX10_letThrough_48 rfl (lv_at hl 3 rfl) ?_
  refine lv_if_eq (tgt := 57) hx hb dX10_letThrough_49 (by decide) (fun c11 => ?_) (fun c11 => ?_)
  · have h := ite_t h c11
    refine lv_bipush (v := 11) hx hb dX10_letThrough_57 (by decide) ?_
    exact t_X10_letThrough_59 C _ _ _ _ u9 _ _ _ P (lv_sub hl [0, 1, 2, 3] rfl) h
  · have h := ite_f h c11
    refine lv_bipush (v := 10) hx hb dX10_letThrough_52 (by decide) ?_
    refine lv_goto (tgt := 59) hx hb dX10_letThrough_54 (by decide) ?_
    exact t_X10_letThrough_59 C _ _ _ _ u9 _ _ _ P (lv_sub hl [0, 1, 2, 3] rfl) h
def w_X10_letThrough_24  (Φ : Unit → Mm → Prop) (x1 : Int32) (x2 : Int32) (z0 : Int32) (u0 : Mm) : Prop := (if z0 = 0 then (w_X10_letThrough_37 Φ x1 x2 z0 ((5 : Int32)) ((0 : Int32)) x2 u0) else (w_X10_letThrough_37 Φ x1 x2 z0 ((3 : Int32)) ((0 : Int32)) x2 u0))
set_option maxHeartbeats 4000000 in
set_option maxRecDepth 100000 in
theorem t_X10_letThrough_24 {p : Program} {l : Launch} {e : Env} {s : State} {m : MethodId} {args : Array Value} {below : List Frame} {meth : Method} {c : Code} {D : va_G} {cA : Nat → ClassId} {o : Nat}  {Φ : Unit → Mm → Prop} (C : Cx p m meth c s args cX10_letThrough 5 wsX10_letThrough RX10 none D (tysL cA)) : ∀ (x1 : Int32) (x2 : Int32) (z0 : Int32) (u0 : Mm), ∀ (H : Heap) (locs : List Loc) (ls : Array Slot), Hp 6 o D (EM cA o u0) s H locs → lv_has ls 5 [(0, .ref (o + 0)), (1, .int x1), (2, .int x2)] → w_X10_letThrough_24 Φ x1 x2 z0 u0 → W p l e rm_X10_letThrough s m args below meth c H locs 0 0 (MQ below (Qg vV Φ (fun μ => Wd 6 o D (tysL cA) (EM cA o μ)) (aA o 6)) args s 0 0 (aA o 6)) (F0 m 24 ls [.int z0]) := by
  intro x1 x2 z0 u0 H locs ls P hl h
  have hx := C.1.1
  have hb := C.1.2.1
  unfold w_X10_letThrough_24 at h
  refine lv_istore_n (lv' := [(3, .int z0), (0, .ref (o + 0)), (1, .int x1), (2, .int x2)]) hx hb dX10_letThrough_24 rfl hl (by decide) rfl (fun ls hl => ?_)
  refine lv_aload_n hx hb dX10_letThrough_25 rfl (lv_at hl 1 rfl) ?_
  refine lv_iload_n hx hb dX10_letThrough_26 rfl (lv_at hl 3 rfl) ?_
  refine lv_iconst (v := 0) hx hb dX10_letThrough_27 (by decide) ?_
  refine lv_iload_n hx hb dX10_letThrough_28 rfl (lv_at hl 0 rfl) ?_
  refine lv_if_eq (tgt := 36) hx hb dX10_letThrough_29 (by decide) (fun c6 => ?_) (fun c6 => ?_)
  · have h := ite_t h c6
    refine lv_iconst (v := 5) hx hb dX10_letThrough_36 (by decide) ?_
    exact t_X10_letThrough_37 C _ _ _ _ _ _ u0 _ _ _ P (lv_sub hl [1, 2, 3, 0] rfl) h
  · have h := ite_f h c6
    refine lv_iconst (v := 3) hx hb dX10_letThrough_32 (by decide) ?_
    refine lv_goto (tgt := 37) hx hb dX10_letThrough_33 (by decide) ?_
    exact t_X10_letThrough_37 C _ _ _ _ _ _ u0 _ _ _ P (lv_sub hl [1, 2, 3, 0] rfl) h
def w_X10_letThrough (a1 : Int32) (u0 : Mm) (Φ : Unit → Mm → Prop) : Prop := (w_X10_gateOf a1 ((6 : Int32)) u0 (fun r2 u1 => (w_X10_gateOf a1 ((7 : Int32)) u1 (fun r4 u3 => (if r4 = (1 : Int32) then (w_X10_letThrough_24 Φ a1 r2 ((1 : Int32)) u3) else (w_X10_letThrough_24 Φ a1 r2 ((0 : Int32)) u3))))))
set_option maxHeartbeats 4000000 in
set_option maxRecDepth 100000 in
theorem t_X10_letThrough_0 {p : Program} {l : Launch} {e : Env} {s : State} {m : MethodId} {args : Array Value} {below : List Frame} {meth : Method} {c : Code} {D : va_G} {cA : Nat → ClassId} {o : Nat}  {Φ : Unit → Mm → Prop} (C : Cx p m meth c s args cX10_letThrough 5 wsX10_letThrough RX10 none D (tysL cA)) : ∀ (a1 : Int32) (u0 : Mm), ∀ (H : Heap) (locs : List Loc) (ls : Array Slot), Hp 6 o D (EM cA o u0) s H locs → lv_has ls 5 [(0, .ref (o + 0)), (1, .int a1)] → w_X10_letThrough a1 u0 Φ → W p l e rm_X10_letThrough s m args below meth c H locs 0 0 (MQ below (Qg vV Φ (fun μ => Wd 6 o D (tysL cA) (EM cA o μ)) (aA o 6)) args s 0 0 (aA o 6)) (F0 m 0 ls []) := by
  intro a1 u0 H locs ls P hl h
  have hx := C.1.1
  have hb := C.1.2.1
  unfold w_X10_letThrough at h
  refine lv_aload_n hx hb dX10_letThrough_0 rfl (lv_at hl 0 rfl) ?_
  refine lv_iload_n hx hb dX10_letThrough_1 rfl (lv_at hl 1 rfl) ?_
  refine lv_bipush (v := 6) hx hb dX10_letThrough_2 (by decide) ?_
  refine r_calli (F := EM cA o) (va_runV (As := [.int a1, .int (6 : Int32)]) (rest := []) C.1 (c_X10_gateOf l D cA o _ _ u0 _ h) (cwV 2 C.1.2.2.2.2 gX10_letThrough_X10_gateOf rfl rfl rfl (by decide +kernel) ⟨Nat.le_of_ble_eq_true rfl, Nat.le_of_ble_eq_true rfl⟩) (r_preV C P [.int a1, .int (6 : Int32)] (ci := 10) rfl (by decide) EKM_0) rfl rfl hl.1 rfl (lv_room (Nat.le_of_ble_eq_true rfl)) dX10_letThrough_4 ⟨Nat.le_of_ble_eq_true rfl, Nat.le_of_ble_eq_true rfl⟩) P.2 (fun r2 u1 H locs h P => ?_)
  refine lv_istore_n (lv' := [(2, .int r2), (0, .ref (o + 0)), (1, .int a1)]) hx hb dX10_letThrough_7 rfl hl (by decide) rfl (fun ls hl => ?_)
  refine lv_aload_n hx hb dX10_letThrough_8 rfl (lv_at hl 1 rfl) ?_
  refine lv_iload_n hx hb dX10_letThrough_9 rfl (lv_at hl 2 rfl) ?_
  refine lv_bipush (v := 7) hx hb dX10_letThrough_10 (by decide) ?_
  refine r_calli (F := EM cA o) (va_runV (As := [.int a1, .int (7 : Int32)]) (rest := []) C.1 (c_X10_gateOf l D cA o _ _ u1 _ h) (cwV 2 C.1.2.2.2.2 gX10_letThrough_X10_gateOf rfl rfl rfl (by decide +kernel) ⟨Nat.le_of_ble_eq_true rfl, Nat.le_of_ble_eq_true rfl⟩) (r_preV C P [.int a1, .int (7 : Int32)] (ci := 10) rfl (by decide) EKM_0) rfl rfl hl.1 rfl (lv_room (Nat.le_of_ble_eq_true rfl)) dX10_letThrough_12 ⟨Nat.le_of_ble_eq_true rfl, Nat.le_of_ble_eq_true rfl⟩) P.2 (fun r4 u3 H locs h P => ?_)
  refine lv_iconst (v := 1) hx hb dX10_letThrough_15 (by decide) ?_
  refine lv_icmp_ne (tgt := 23) hx hb dX10_letThrough_16 (by decide) (fun c5 => ?_) (fun c5 => ?_)
  · have h := ite_f h c5
    refine lv_iconst (v := 0) hx hb dX10_letThrough_23 (by decide) ?_
    exact t_X10_letThrough_24 C _ _ _ u3 _ _ _ P (lv_sub hl [1, 2, 0] rfl) h
  · have h := ite_t h c5
    refine lv_iconst (v := 1) hx hb dX10_letThrough_19 (by decide) ?_
    refine lv_goto (tgt := 24) hx hb dX10_letThrough_20 (by decide) ?_
    exact t_X10_letThrough_24 C _ _ _ u3 _ _ _ P (lv_sub hl [1, 2, 0] rfl) h
set_option maxHeartbeats 4000000 in
set_option maxRecDepth 100000 in
theorem c_X10_letThrough (l : Launch) (D : va_G) (cA : Nat → ClassId) (o : Nat) (a1 : Int32)  (u0 : Mm) (Φ : Unit → Mm → Prop) (h : w_X10_letThrough a1 u0 Φ) : Met l yX10_letThrough wsX10_letThrough rm_X10_letThrough (va_Pc [.ref (o + 0), .int a1] (Wd 6 o D (tysL cA) (EM cA o u0))) (Qg vV Φ (fun μ => Wd 6 o D (tysL cA) (EM cA o μ)) (aA o 6)) 0 0 (aA o 6) := by
  refine Met.ofW (cc := cX10_letThrough) (maxL := 5) (ret := none) (by decide) rfl ?_
  intro p e s m args below meth c s₁ B hml hv
  obtain ⟨rfl, hv⟩ := hv
  have hl := lv_entry ([.ref (o + 0), .int a1]) (n := 5) (Nat.le_of_ble_eq_true rfl)
  rw [lg_entry_eq]
  exact t_X10_letThrough_0 ⟨⟨B.exec, B.bytes, hml, findClass_of_methodNamed B.named, atoms_spec (ws := wsX10_letThrough) B.pre⟩, B.returns, B.notSynchronized, hv.2⟩ a1 u0 _ _ _ ⟨hv.1, va_S.rf⟩ hl h
abbrev rm_X10_goOut : Room := { frames := 2, cells := 0, slots := 0, locals := 48 }
def w_X10_goOut (a1 : Int32) (u0 : Mm) (Φ : Unit → Mm → Prop) : Prop := (w_X10_putGate a1 ((4 : Int32)) ((5 : Int32)) u0 (fun _ u1 => (w_X10_putGate a1 ((5 : Int32)) ((0 : Int32)) u1 (fun _ u3 => (w_X10_putGate a1 ((9 : Int32)) ((0 : Int32)) u3 (fun _ u5 => (w_X10_tell a1 ((-5 : Int32)) ((5 : Int32)) u5 (fun _ u7 => (w_X10_gateOf a1 ((6 : Int32)) u7 (fun r10 u9 => (if r10 < 0 then (Φ () u9) else (w_X10_letThrough a1 u9 (fun _ u12 => (Φ () u12))))))))))))))
set_option maxHeartbeats 4000000 in
set_option maxRecDepth 100000 in
theorem t_X10_goOut_0 {p : Program} {l : Launch} {e : Env} {s : State} {m : MethodId} {args : Array Value} {below : List Frame} {meth : Method} {c : Code} {D : va_G} {cA : Nat → ClassId} {o : Nat}  {Φ : Unit → Mm → Prop} (C : Cx p m meth c s args cX10_goOut 2 wsX10_goOut RX10 none D (tysL cA)) : ∀ (a1 : Int32) (u0 : Mm), ∀ (H : Heap) (locs : List Loc) (ls : Array Slot), Hp 6 o D (EM cA o u0) s H locs → lv_has ls 2 [(0, .ref (o + 0)), (1, .int a1)] → w_X10_goOut a1 u0 Φ → W p l e rm_X10_goOut s m args below meth c H locs 0 0 (MQ below (Qg vV Φ (fun μ => Wd 6 o D (tysL cA) (EM cA o μ)) (aA o 6)) args s 0 0 (aA o 6)) (F0 m 0 ls []) := by
  intro a1 u0 H locs ls P hl h
  have hx := C.1.1
  have hb := C.1.2.1
  unfold w_X10_goOut at h
  refine lv_aload_n hx hb dX10_goOut_0 rfl (lv_at hl 0 rfl) ?_
  refine lv_iload_n hx hb dX10_goOut_1 rfl (lv_at hl 1 rfl) ?_
  refine lv_iconst (v := 4) hx hb dX10_goOut_2 (by decide) ?_
  refine lv_iconst (v := 5) hx hb dX10_goOut_3 (by decide) ?_
  refine r_callv (F := EM cA o) (va_runV (As := [.int a1, .int (4 : Int32), .int (5 : Int32)]) (rest := []) C.1 (c_X10_putGate l D cA o _ _ _ u0 _ h) (cwV 3 C.1.2.2.2.2 gX10_goOut_X10_putGate rfl rfl rfl (by decide +kernel) ⟨Nat.le_of_ble_eq_true rfl, Nat.le_of_ble_eq_true rfl⟩) (r_preV C P [.int a1, .int (4 : Int32), .int (5 : Int32)] (ci := 10) rfl (by decide) EKM_0) rfl rfl hl.1 rfl (lv_room (Nat.le_of_ble_eq_true rfl)) dX10_goOut_4 ⟨Nat.le_of_ble_eq_true rfl, Nat.le_of_ble_eq_true rfl⟩) P.2 (fun u1 H locs h P => ?_)
  refine lv_aload_n hx hb dX10_goOut_7 rfl (lv_at hl 0 rfl) ?_
  refine lv_iload_n hx hb dX10_goOut_8 rfl (lv_at hl 1 rfl) ?_
  refine lv_iconst (v := 5) hx hb dX10_goOut_9 (by decide) ?_
  refine lv_iconst (v := 0) hx hb dX10_goOut_10 (by decide) ?_
  refine r_callv (F := EM cA o) (va_runV (As := [.int a1, .int (5 : Int32), .int (0 : Int32)]) (rest := []) C.1 (c_X10_putGate l D cA o _ _ _ u1 _ h) (cwV 3 C.1.2.2.2.2 gX10_goOut_X10_putGate rfl rfl rfl (by decide +kernel) ⟨Nat.le_of_ble_eq_true rfl, Nat.le_of_ble_eq_true rfl⟩) (r_preV C P [.int a1, .int (5 : Int32), .int (0 : Int32)] (ci := 10) rfl (by decide) EKM_0) rfl rfl hl.1 rfl (lv_room (Nat.le_of_ble_eq_true rfl)) dX10_goOut_11 ⟨Nat.le_of_ble_eq_true rfl, Nat.le_of_ble_eq_true rfl⟩) P.2 (fun u3 H locs h P => ?_)
  refine lv_aload_n hx hb dX10_goOut_14 rfl (lv_at hl 0 rfl) ?_
  refine lv_iload_n hx hb dX10_goOut_15 rfl (lv_at hl 1 rfl) ?_
  refine lv_bipush (v := 9) hx hb dX10_goOut_16 (by decide) ?_
  refine lv_iconst (v := 0) hx hb dX10_goOut_18 (by decide) ?_
  refine r_callv (F := EM cA o) (va_runV (As := [.int a1, .int (9 : Int32), .int (0 : Int32)]) (rest := []) C.1 (c_X10_putGate l D cA o _ _ _ u3 _ h) (cwV 3 C.1.2.2.2.2 gX10_goOut_X10_putGate rfl rfl rfl (by decide +kernel) ⟨Nat.le_of_ble_eq_true rfl, Nat.le_of_ble_eq_true rfl⟩) (r_preV C P [.int a1, .int (9 : Int32), .int (0 : Int32)] (ci := 10) rfl (by decide) EKM_0) rfl rfl hl.1 rfl (lv_room (Nat.le_of_ble_eq_true rfl)) dX10_goOut_19 ⟨Nat.le_of_ble_eq_true rfl, Nat.le_of_ble_eq_true rfl⟩) P.2 (fun u5 H locs h P => ?_)
  refine lv_aload_n hx hb dX10_goOut_22 rfl (lv_at hl 0 rfl) ?_
  refine lv_iload_n hx hb dX10_goOut_23 rfl (lv_at hl 1 rfl) ?_
  refine lv_bipush (v := -5) hx hb dX10_goOut_24 (by decide) ?_
  refine lv_iconst (v := 5) hx hb dX10_goOut_26 (by decide) ?_
  refine r_callv (F := EM cA o) (va_runV (As := [.int a1, .int (-5 : Int32), .int (5 : Int32)]) (rest := []) C.1 (c_X10_tell l D cA o _ _ _ u5 _ h) (cwV 3 C.1.2.2.2.2 gX10_goOut_X10_tell rfl rfl rfl (by decide +kernel) ⟨Nat.le_of_ble_eq_true rfl, Nat.le_of_ble_eq_true rfl⟩) (r_preV C P [.int a1, .int (-5 : Int32), .int (5 : Int32)] (ci := 10) rfl (by decide) EKM_0) rfl rfl hl.1 rfl (lv_room (Nat.le_of_ble_eq_true rfl)) dX10_goOut_27 ⟨Nat.le_of_ble_eq_true rfl, Nat.le_of_ble_eq_true rfl⟩) P.2 (fun u7 H locs h P => ?_)
  refine lv_aload_n hx hb dX10_goOut_30 rfl (lv_at hl 0 rfl) ?_
  refine lv_iload_n hx hb dX10_goOut_31 rfl (lv_at hl 1 rfl) ?_
  refine lv_bipush (v := 6) hx hb dX10_goOut_32 (by decide) ?_
  refine r_calli (F := EM cA o) (va_runV (As := [.int a1, .int (6 : Int32)]) (rest := []) C.1 (c_X10_gateOf l D cA o _ _ u7 _ h) (cwV 2 C.1.2.2.2.2 gX10_goOut_X10_gateOf rfl rfl rfl (by decide +kernel) ⟨Nat.le_of_ble_eq_true rfl, Nat.le_of_ble_eq_true rfl⟩) (r_preV C P [.int a1, .int (6 : Int32)] (ci := 10) rfl (by decide) EKM_0) rfl rfl hl.1 rfl (lv_room (Nat.le_of_ble_eq_true rfl)) dX10_goOut_34 ⟨Nat.le_of_ble_eq_true rfl, Nat.le_of_ble_eq_true rfl⟩) P.2 (fun r10 u9 H locs h P => ?_)
  refine lv_if_lt (tgt := 45) hx hb dX10_goOut_37 (by decide) (fun c11 => ?_) (fun c11 => ?_)
  · have h := ite_t h c11
    exact r_ret C P h dX10_goOut_45
  · have h := ite_f h c11
    refine lv_aload_n hx hb dX10_goOut_40 rfl (lv_at hl 0 rfl) ?_
    refine lv_iload_n hx hb dX10_goOut_41 rfl (lv_at hl 1 rfl) ?_
    refine r_callv (F := EM cA o) (va_runV (As := [.int a1]) (rest := []) C.1 (c_X10_letThrough l D cA o _ u9 _ h) (cwV 1 C.1.2.2.2.2 gX10_goOut_X10_letThrough rfl rfl rfl (by decide +kernel) ⟨Nat.le_of_ble_eq_true rfl, Nat.le_of_ble_eq_true rfl⟩) (r_preV C P [.int a1] (ci := 10) rfl (by decide) EKM_0) rfl rfl hl.1 rfl (lv_room (Nat.le_of_ble_eq_true rfl)) dX10_goOut_42 ⟨Nat.le_of_ble_eq_true rfl, Nat.le_of_ble_eq_true rfl⟩) P.2 (fun u12 H locs h P => ?_)
    exact r_ret C P h dX10_goOut_45
set_option maxHeartbeats 4000000 in
set_option maxRecDepth 100000 in
theorem c_X10_goOut (l : Launch) (D : va_G) (cA : Nat → ClassId) (o : Nat) (a1 : Int32)  (u0 : Mm) (Φ : Unit → Mm → Prop) (h : w_X10_goOut a1 u0 Φ) : Met l yX10_goOut wsX10_goOut rm_X10_goOut (va_Pc [.ref (o + 0), .int a1] (Wd 6 o D (tysL cA) (EM cA o u0))) (Qg vV Φ (fun μ => Wd 6 o D (tysL cA) (EM cA o μ)) (aA o 6)) 0 0 (aA o 6) := by
  refine Met.ofW (cc := cX10_goOut) (maxL := 2) (ret := none) (by decide) rfl ?_
  intro p e s m args below meth c s₁ B hml hv
  obtain ⟨rfl, hv⟩ := hv
  have hl := lv_entry ([.ref (o + 0), .int a1]) (n := 2) (Nat.le_of_ble_eq_true rfl)
  rw [lg_entry_eq]
  exact t_X10_goOut_0 ⟨⟨B.exec, B.bytes, hml, findClass_of_methodNamed B.named, atoms_spec (ws := wsX10_goOut) B.pre⟩, B.returns, B.notSynchronized, hv.2⟩ a1 u0 _ _ _ ⟨hv.1, va_S.rf⟩ hl h
abbrev rm_X10_isOfPool : Room := { frames := 1, cells := 0, slots := 0, locals := 22 }
theorem wd_X10_isOfPool_1 : Cond.fieldLink RX10 7 "TurnstileBankModel" "row" "[I" ∈ wsX10_isOfPool := List.mem_of_getElem? (i := 1) (by decide +kernel)
theorem in_X10_isOfPool_10 : ∀ w ∈ wsX100, w ∈ wsX10_isOfPool := fun w h => List.mem_cons_of_mem _ (List.mem_append_right _ h)
def w_X10_isOfPool (a1 : Int32) (a2 : Int32) (u0 : Mm) (Φ : Int32 → Mm → Prop) : Prop := (w_X10_of a1 ((1 : Int32)) u0 (fun r2 u1 => (if r2 < 0 then (Φ (0 : Int32) u1) else (vp_in ((400 : Int32) + ((2 : Int32) * r2)) 516 ∧ (if (u1 1 ((400 : Int32) + ((2 : Int32) * r2)).toNatClampNeg) = a2 then (w_X10_of a1 ((0 : Int32)) u1 (fun r6 u5 => (w_X10_in r6 ((2 : Int32)) ((4 : Int32)) u5 (fun r8 u7 => (if r8 = 0 then (Φ (0 : Int32) u7) else (Φ (1 : Int32) u7)))))) else (Φ (0 : Int32) u1))))))
set_option maxHeartbeats 4000000 in
set_option maxRecDepth 100000 in
theorem t_X10_isOfPool_0 {p : Program} {l : Launch} {e : Env} {s : State} {m : MethodId} {args : Array Value} {below : List Frame} {meth : Method} {c : Code} {D : va_G} {cA : Nat → ClassId} {o : Nat}  {Φ : Int32 → Mm → Prop} (C : Cx p m meth c s args cX10_isOfPool 4 wsX10_isOfPool RX10 (some .boolean) D (tysL cA)) : ∀ (a1 : Int32) (a2 : Int32) (u0 : Mm), ∀ (H : Heap) (locs : List Loc) (ls : Array Slot), Hp 6 o D (EM cA o u0) s H locs → lv_has ls 4 [(0, .ref (o + 0)), (1, .int a1), (2, .int a2)] → w_X10_isOfPool a1 a2 u0 Φ → W p l e rm_X10_isOfPool s m args below meth c H locs 0 0 (MQ below (Qg vI Φ (fun μ => Wd 6 o D (tysL cA) (EM cA o μ)) (aA o 6)) args s 0 0 (aA o 6)) (F0 m 0 ls []) := by
  intro a1 a2 u0 H locs ls P hl h
  have hx := C.1.1
  have hb := C.1.2.1
  unfold w_X10_isOfPool at h
  refine lv_aload_n hx hb dX10_isOfPool_0 rfl (lv_at hl 0 rfl) ?_
  refine lv_iload_n hx hb dX10_isOfPool_1 rfl (lv_at hl 1 rfl) ?_
  refine lv_iconst (v := 1) hx hb dX10_isOfPool_2 (by decide) ?_
  refine r_calli (F := EM cA o) (va_runV (As := [.int a1, .int (1 : Int32)]) (rest := []) C.1 (c_X10_of l D cA o _ _ u0 _ h) (cwV 2 C.1.2.2.2.2 gX10_isOfPool_X10_of rfl rfl rfl (by decide +kernel) ⟨Nat.le_of_ble_eq_true rfl, Nat.le_of_ble_eq_true rfl⟩) (r_preV C P [.int a1, .int (1 : Int32)] (ci := 10) rfl (by decide) EKM_0) rfl rfl hl.1 rfl (lv_room (Nat.le_of_ble_eq_true rfl)) dX10_isOfPool_3 ⟨Nat.le_of_ble_eq_true rfl, Nat.le_of_ble_eq_true rfl⟩) P.2 (fun r2 u1 H locs h P => ?_)
  refine lv_istore_n (lv' := [(3, .int r2), (0, .ref (o + 0)), (1, .int a1), (2, .int a2)]) hx hb dX10_isOfPool_6 rfl hl (by decide) rfl (fun ls hl => ?_)
  refine lv_iload_n hx hb dX10_isOfPool_7 rfl (lv_at hl 0 rfl) ?_
  refine lv_if_lt (tgt := 45) hx hb dX10_isOfPool_8 (by decide) (fun c3 => ?_) (fun c3 => ?_)
  · have h := ite_t h c3
    refine lv_iconst (v := 0) hx hb dX10_isOfPool_45 (by decide) ?_
    exact r_iretb C P (Or.inl rfl) h dX10_isOfPool_46
  · have h := ite_f h c3
    refine lv_aload_n hx hb dX10_isOfPool_11 rfl (lv_at hl 1 rfl) ?_
    refine g_10_0 C P in_X10_isOfPool_10 wd_X10_isOfPool_1 dX10_isOfPool_12 ?_
    refine lv_sipush (v := 400) hx hb dX10_isOfPool_15 (by decide) ?_
    refine lv_iconst (v := 2) hx hb dX10_isOfPool_18 (by decide) ?_
    refine lv_iload_n hx hb dX10_isOfPool_19 rfl (lv_at hl 0 rfl) ?_
    refine lv_imul hx hb dX10_isOfPool_20 ?_
    refine lv_iadd hx hb dX10_isOfPool_21 ?_
    obtain ⟨hi, h⟩ := h
    refine mld_1 C P hi dX10_isOfPool_22 ?_
    refine lv_iload_n hx hb dX10_isOfPool_23 rfl (lv_at hl 3 rfl) ?_
    refine lv_icmp_ne (tgt := 45) hx hb dX10_isOfPool_24 (by decide) (fun c4 => ?_) (fun c4 => ?_)
    · have h := ite_f h c4
      refine lv_iconst (v := 0) hx hb dX10_isOfPool_45 (by decide) ?_
      exact r_iretb C P (Or.inl rfl) h dX10_isOfPool_46
    · have h := ite_t h c4
      refine lv_aload_n hx hb dX10_isOfPool_27 rfl (lv_at hl 1 rfl) ?_
      refine lv_iload_n hx hb dX10_isOfPool_28 rfl (lv_at hl 2 rfl) ?_
      refine lv_iconst (v := 0) hx hb dX10_isOfPool_29 (by decide) ?_
      refine r_calli (F := EM cA o) (va_runV (As := [.int a1, .int (0 : Int32)]) (rest := []) C.1 (c_X10_of l D cA o _ _ u1 _ h) (cwV 2 C.1.2.2.2.2 gX10_isOfPool_X10_of rfl rfl rfl (by decide +kernel) ⟨Nat.le_of_ble_eq_true rfl, Nat.le_of_ble_eq_true rfl⟩) (r_preV C P [.int a1, .int (0 : Int32)] (ci := 10) rfl (by decide) EKM_0) rfl rfl hl.1 rfl (lv_room (Nat.le_of_ble_eq_true rfl)) dX10_isOfPool_30 ⟨Nat.le_of_ble_eq_true rfl, Nat.le_of_ble_eq_true rfl⟩) P.2 (fun r6 u5 H locs h P => ?_)
      refine lv_iconst (v := 2) hx hb dX10_isOfPool_33 (by decide) ?_
      refine lv_iconst (v := 4) hx hb dX10_isOfPool_34 (by decide) ?_
      refine r_calli (F := EM cA o) (va_runS (As := [.int r6, .int (2 : Int32), .int (4 : Int32)]) (rest := []) C.1 (c_X10_in l D cA o _ _ _ u5 _ h) (va_cwS 3 C.1.2.2.2.2 gX10_isOfPool_X10_in rfl rfl rfl (by decide +kernel) ⟨Nat.le_of_ble_eq_true rfl, Nat.le_of_ble_eq_true rfl⟩) (r_pre C P [.int r6, .int (2 : Int32), .int (4 : Int32)]) rfl rfl hl.1 rfl (lv_room (Nat.le_of_ble_eq_true rfl)) dX10_isOfPool_35 ⟨Nat.le_of_ble_eq_true rfl, Nat.le_of_ble_eq_true rfl⟩) P.2 (fun r8 u7 H locs h P => ?_)
      refine lv_if_eq (tgt := 45) hx hb dX10_isOfPool_38 (by decide) (fun c9 => ?_) (fun c9 => ?_)
      · have h := ite_t h c9
        refine lv_iconst (v := 0) hx hb dX10_isOfPool_45 (by decide) ?_
        exact r_iretb C P (Or.inl rfl) h dX10_isOfPool_46
      · have h := ite_f h c9
        refine lv_iconst (v := 1) hx hb dX10_isOfPool_41 (by decide) ?_
        refine lv_goto (tgt := 46) hx hb dX10_isOfPool_42 (by decide) ?_
        exact r_iretb C P (Or.inr rfl) h dX10_isOfPool_46
set_option maxHeartbeats 4000000 in
set_option maxRecDepth 100000 in
theorem c_X10_isOfPool (l : Launch) (D : va_G) (cA : Nat → ClassId) (o : Nat) (a1 : Int32) (a2 : Int32)  (u0 : Mm) (Φ : Int32 → Mm → Prop) (h : w_X10_isOfPool a1 a2 u0 Φ) : Met l yX10_isOfPool wsX10_isOfPool rm_X10_isOfPool (va_Pc [.ref (o + 0), .int a1, .int a2] (Wd 6 o D (tysL cA) (EM cA o u0))) (Qg vI Φ (fun μ => Wd 6 o D (tysL cA) (EM cA o μ)) (aA o 6)) 0 0 (aA o 6) := by
  refine Met.ofW (cc := cX10_isOfPool) (maxL := 4) (ret := (some .boolean)) (by decide) rfl ?_
  intro p e s m args below meth c s₁ B hml hv
  obtain ⟨rfl, hv⟩ := hv
  have hl := lv_entry ([.ref (o + 0), .int a1, .int a2]) (n := 4) (Nat.le_of_ble_eq_true rfl)
  rw [lg_entry_eq]
  exact t_X10_isOfPool_0 ⟨⟨B.exec, B.bytes, hml, findClass_of_methodNamed B.named, atoms_spec (ws := wsX10_isOfPool) B.pre⟩, B.returns, B.notSynchronized, hv.2⟩ a1 a2 u0 _ _ _ ⟨hv.1, va_S.rf⟩ hl h
abbrev rm_X10_insideBy : Room := { frames := 2, cells := 0, slots := 0, locals := 45 }
theorem wd_X10_insideBy_1 : Cond.fieldLink RX10 7 "TurnstileBankModel" "row" "[I" ∈ wsX10_insideBy := List.mem_of_getElem? (i := 1) (by decide +kernel)
theorem in_X10_insideBy_10 : ∀ w ∈ wsX100, w ∈ wsX10_insideBy := fun w h => List.mem_cons_of_mem _ (List.mem_append_right _ h)
def w_X10_insideBy_4  (Φ : Int32 → Mm → Prop) : Nat → Int32 → Int32 → Int32 → Mm → Prop
  | 0, _, _, _, _ => False
  | n + 1, x1, x2, x3, u0 => (if (u0 1 (2 : Int32).toNatClampNeg) ≤ x3 then (Φ x2 u0) else (w_X10_isOfPool x3 x1 u0 (fun r3 u2 => (if r3 = 0 then (w_X10_insideBy_4 Φ n x1 ((x2 + (0 : Int32))) ((x3 + 1)) u2) else (w_X10_insideBy_4 Φ n x1 ((x2 + (1 : Int32))) ((x3 + 1)) u2)))))
set_option maxHeartbeats 4000000 in
set_option maxRecDepth 100000 in
theorem t_X10_insideBy_4 {p : Program} {l : Launch} {e : Env} {s : State} {m : MethodId} {args : Array Value} {below : List Frame} {meth : Method} {c : Code} {D : va_G} {cA : Nat → ClassId} {o : Nat}  {Φ : Int32 → Mm → Prop} (C : Cx p m meth c s args cX10_insideBy 4 wsX10_insideBy RX10 (some .int) D (tysL cA)) : ∀ n : Nat, ∀ (x1 : Int32) (x2 : Int32) (x3 : Int32) (u0 : Mm), ∀ (H : Heap) (locs : List Loc) (ls : Array Slot), Hp 6 o D (EM cA o u0) s H locs → lv_has ls 4 [(0, .ref (o + 0)), (1, .int x1), (2, .int x2), (3, .int x3)] → w_X10_insideBy_4 Φ n x1 x2 x3 u0 → W p l e rm_X10_insideBy s m args below meth c H locs 0 0 (MQ below (Qg vI Φ (fun μ => Wd 6 o D (tysL cA) (EM cA o μ)) (aA o 6)) args s 0 0 (aA o 6)) (F0 m 4 ls []) := by
  intro n
  induction n with
  | zero => intro x1 x2 x3 u0 H locs ls P hl h; exact h.elim
  | succ n ih =>
    intro x1 x2 x3 u0 H locs ls P hl h
    have hx := C.1.1
    have hb := C.1.2.1
    rw [w_X10_insideBy_4] at h
    refine lv_iload_n hx hb dX10_insideBy_4 rfl (lv_at hl 3 rfl) ?_
    refine lv_aload_n hx hb dX10_insideBy_5 rfl (lv_at hl 0 rfl) ?_
    refine g_10_0 C P in_X10_insideBy_10 wd_X10_insideBy_1 dX10_insideBy_6 ?_
    refine lv_iconst (v := 2) hx hb dX10_insideBy_9 (by decide) ?_
    refine mld_1 C P (by unfold vp_in; decide) dX10_insideBy_10 ?_
    refine lv_icmp_ge (tgt := 37) hx hb dX10_insideBy_11 (by decide) (fun c1 => ?_) (fun c1 => ?_)
    · have h := ite_t h c1
      refine lv_iload_n hx hb dX10_insideBy_37 rfl (lv_at hl 2 rfl) ?_
      exact r_ireti C P h dX10_insideBy_38
    · have h := ite_f h c1
      refine lv_iload_n hx hb dX10_insideBy_14 rfl (lv_at hl 2 rfl) ?_
      refine lv_aload_n hx hb dX10_insideBy_15 rfl (lv_at hl 0 rfl) ?_
      refine lv_iload_n hx hb dX10_insideBy_16 rfl (lv_at hl 3 rfl) ?_
      refine lv_iload_n hx hb dX10_insideBy_17 rfl (lv_at hl 1 rfl) ?_
      refine r_calli (F := EM cA o) (va_runV (As := [.int x3, .int x1]) (rest := [.int x2]) C.1 (c_X10_isOfPool l D cA o _ _ u0 _ h) (cwV 2 C.1.2.2.2.2 gX10_insideBy_X10_isOfPool rfl rfl rfl (by decide +kernel) ⟨Nat.le_of_ble_eq_true rfl, Nat.le_of_ble_eq_true rfl⟩) (r_preV C P [.int x3, .int x1] (ci := 10) rfl (by decide) EKM_0) rfl rfl hl.1 rfl (lv_room (Nat.le_of_ble_eq_true rfl)) dX10_insideBy_18 ⟨Nat.le_of_ble_eq_true rfl, Nat.le_of_ble_eq_true rfl⟩) P.2 (fun r3 u2 H locs h P => ?_)
      refine lv_if_eq (tgt := 28) hx hb dX10_insideBy_21 (by decide) (fun c4 => ?_) (fun c4 => ?_)
      · have h := ite_t h c4
        refine lv_iconst (v := 0) hx hb dX10_insideBy_28 (by decide) ?_
        refine lv_iadd hx hb dX10_insideBy_29 ?_
        refine lv_istore_n (lv' := [(2, .int (x2 + (0 : Int32))), (0, .ref (o + 0)), (1, .int x1), (3, .int x3)]) hx hb dX10_insideBy_30 rfl hl (by decide) rfl (fun ls hl => ?_)
        refine lv_iinc (v := (x3 + 1)) (lv' := [(3, .int (x3 + 1)), (2, .int (x2 + (0 : Int32))), (0, .ref (o + 0)), (1, .int x1)]) hx hb dX10_insideBy_31 hl (k := 3) rfl rfl (by decide) rfl (fun ls hl => ?_)
        refine lv_goto (tgt := 4) hx hb dX10_insideBy_34 (by decide) ?_
        exact ih _ _ _ u2 _ _ _ P (lv_sub hl [2, 3, 1, 0] rfl) h
      · have h := ite_f h c4
        refine lv_iconst (v := 1) hx hb dX10_insideBy_24 (by decide) ?_
        refine lv_goto (tgt := 29) hx hb dX10_insideBy_25 (by decide) ?_
        refine lv_iadd hx hb dX10_insideBy_29 ?_
        refine lv_istore_n (lv' := [(2, .int (x2 + (1 : Int32))), (0, .ref (o + 0)), (1, .int x1), (3, .int x3)]) hx hb dX10_insideBy_30 rfl hl (by decide) rfl (fun ls hl => ?_)
        refine lv_iinc (v := (x3 + 1)) (lv' := [(3, .int (x3 + 1)), (2, .int (x2 + (1 : Int32))), (0, .ref (o + 0)), (1, .int x1)]) hx hb dX10_insideBy_31 hl (k := 3) rfl rfl (by decide) rfl (fun ls hl => ?_)
        refine lv_goto (tgt := 4) hx hb dX10_insideBy_34 (by decide) ?_
        exact ih _ _ _ u2 _ _ _ P (lv_sub hl [2, 3, 1, 0] rfl) h
def w_X10_insideBy (a1 : Int32) (u0 : Mm) (Φ : Int32 → Mm → Prop) : Prop := (∃ n4 : Nat, w_X10_insideBy_4 Φ n4 a1 ((0 : Int32)) ((0 : Int32)) u0)
set_option maxHeartbeats 4000000 in
set_option maxRecDepth 100000 in
theorem t_X10_insideBy_0 {p : Program} {l : Launch} {e : Env} {s : State} {m : MethodId} {args : Array Value} {below : List Frame} {meth : Method} {c : Code} {D : va_G} {cA : Nat → ClassId} {o : Nat}  {Φ : Int32 → Mm → Prop} (C : Cx p m meth c s args cX10_insideBy 4 wsX10_insideBy RX10 (some .int) D (tysL cA)) : ∀ (a1 : Int32) (u0 : Mm), ∀ (H : Heap) (locs : List Loc) (ls : Array Slot), Hp 6 o D (EM cA o u0) s H locs → lv_has ls 4 [(0, .ref (o + 0)), (1, .int a1)] → w_X10_insideBy a1 u0 Φ → W p l e rm_X10_insideBy s m args below meth c H locs 0 0 (MQ below (Qg vI Φ (fun μ => Wd 6 o D (tysL cA) (EM cA o μ)) (aA o 6)) args s 0 0 (aA o 6)) (F0 m 0 ls []) := by
  intro a1 u0 H locs ls P hl h
  have hx := C.1.1
  have hb := C.1.2.1
  unfold w_X10_insideBy at h
  refine lv_iconst (v := 0) hx hb dX10_insideBy_0 (by decide) ?_
  refine lv_istore_n (lv' := [(2, .int (0 : Int32)), (0, .ref (o + 0)), (1, .int a1)]) hx hb dX10_insideBy_1 rfl hl (by decide) rfl (fun ls hl => ?_)
  refine lv_iconst (v := 0) hx hb dX10_insideBy_2 (by decide) ?_
  refine lv_istore_n (lv' := [(3, .int (0 : Int32)), (2, .int (0 : Int32)), (0, .ref (o + 0)), (1, .int a1)]) hx hb dX10_insideBy_3 rfl hl (by decide) rfl (fun ls hl => ?_)
  obtain ⟨n4, h⟩ := h
  exact t_X10_insideBy_4 C n4 _ _ _ u0 _ _ _ P (lv_sub hl [2, 3, 1, 0] rfl) h
set_option maxHeartbeats 4000000 in
set_option maxRecDepth 100000 in
theorem c_X10_insideBy (l : Launch) (D : va_G) (cA : Nat → ClassId) (o : Nat) (a1 : Int32)  (u0 : Mm) (Φ : Int32 → Mm → Prop) (h : w_X10_insideBy a1 u0 Φ) : Met l yX10_insideBy wsX10_insideBy rm_X10_insideBy (va_Pc [.ref (o + 0), .int a1] (Wd 6 o D (tysL cA) (EM cA o u0))) (Qg vI Φ (fun μ => Wd 6 o D (tysL cA) (EM cA o μ)) (aA o 6)) 0 0 (aA o 6) := by
  refine Met.ofW (cc := cX10_insideBy) (maxL := 4) (ret := (some .int)) (by decide) rfl ?_
  intro p e s m args below meth c s₁ B hml hv
  obtain ⟨rfl, hv⟩ := hv
  have hl := lv_entry ([.ref (o + 0), .int a1]) (n := 4) (Nat.le_of_ble_eq_true rfl)
  rw [lg_entry_eq]
  exact t_X10_insideBy_0 ⟨⟨B.exec, B.bytes, hml, findClass_of_methodNamed B.named, atoms_spec (ws := wsX10_insideBy) B.pre⟩, B.returns, B.notSynchronized, hv.2⟩ a1 u0 _ _ _ ⟨hv.1, va_S.rf⟩ hl h
abbrev rm_X10_userOf : Room := { frames := 1, cells := 0, slots := 0, locals := 22 }
theorem wd_X10_userOf_1 : Cond.fieldLink RX10 7 "TurnstileBankModel" "row" "[I" ∈ wsX10_userOf := List.mem_of_getElem? (i := 1) (by decide +kernel)
theorem in_X10_userOf_10 : ∀ w ∈ wsX100, w ∈ wsX10_userOf := fun w h => List.mem_cons_of_mem _ (List.mem_append_right _ h)
def w_X10_userOf_2  (Φ : Int32 → Mm → Prop) : Nat → Int32 → Int32 → Mm → Prop
  | 0, _, _, _ => False
  | n + 1, x1, x2, u0 => (if (u0 1 (2 : Int32).toNatClampNeg) ≤ x2 then (Φ ((-5 : Int32)) u0) else (w_X10_of x2 ((1 : Int32)) u0 (fun r3 u2 => (if r3 = x1 then (w_X10_of x2 ((0 : Int32)) u2 (fun r6 u5 => (w_X10_in r6 ((2 : Int32)) ((4 : Int32)) u5 (fun r8 u7 => (if r8 = 0 then (w_X10_userOf_2 Φ n x1 ((x2 + 1)) u7) else (Φ x2 u7)))))) else (w_X10_userOf_2 Φ n x1 ((x2 + 1)) u2)))))
set_option maxHeartbeats 4000000 in
set_option maxRecDepth 100000 in
theorem t_X10_userOf_2 {p : Program} {l : Launch} {e : Env} {s : State} {m : MethodId} {args : Array Value} {below : List Frame} {meth : Method} {c : Code} {D : va_G} {cA : Nat → ClassId} {o : Nat}  {Φ : Int32 → Mm → Prop} (C : Cx p m meth c s args cX10_userOf 3 wsX10_userOf RX10 (some .int) D (tysL cA)) : ∀ n : Nat, ∀ (x1 : Int32) (x2 : Int32) (u0 : Mm), ∀ (H : Heap) (locs : List Loc) (ls : Array Slot), Hp 6 o D (EM cA o u0) s H locs → lv_has ls 3 [(0, .ref (o + 0)), (1, .int x1), (2, .int x2)] → w_X10_userOf_2 Φ n x1 x2 u0 → W p l e rm_X10_userOf s m args below meth c H locs 0 0 (MQ below (Qg vI Φ (fun μ => Wd 6 o D (tysL cA) (EM cA o μ)) (aA o 6)) args s 0 0 (aA o 6)) (F0 m 2 ls []) := by
  intro n
  induction n with
  | zero => intro x1 x2 u0 H locs ls P hl h; exact h.elim
  | succ n ih =>
    intro x1 x2 u0 H locs ls P hl h
    have hx := C.1.1
    have hb := C.1.2.1
    rw [w_X10_userOf_2] at h
    refine lv_iload_n hx hb dX10_userOf_2 rfl (lv_at hl 2 rfl) ?_
    refine lv_aload_n hx hb dX10_userOf_3 rfl (lv_at hl 0 rfl) ?_
    refine g_10_0 C P in_X10_userOf_10 wd_X10_userOf_1 dX10_userOf_4 ?_
    refine lv_iconst (v := 2) hx hb dX10_userOf_7 (by decide) ?_
    refine mld_1 C P (by unfold vp_in; decide) dX10_userOf_8 ?_
    refine lv_icmp_ge (tgt := 44) hx hb dX10_userOf_9 (by decide) (fun c1 => ?_) (fun c1 => ?_)
    · have h := ite_t h c1
      refine lv_bipush (v := -5) hx hb dX10_userOf_44 (by decide) ?_
      exact r_ireti C P h dX10_userOf_46
    · have h := ite_f h c1
      refine lv_aload_n hx hb dX10_userOf_12 rfl (lv_at hl 0 rfl) ?_
      refine lv_iload_n hx hb dX10_userOf_13 rfl (lv_at hl 2 rfl) ?_
      refine lv_iconst (v := 1) hx hb dX10_userOf_14 (by decide) ?_
      refine r_calli (F := EM cA o) (va_runV (As := [.int x2, .int (1 : Int32)]) (rest := []) C.1 (c_X10_of l D cA o _ _ u0 _ h) (cwV 2 C.1.2.2.2.2 gX10_userOf_X10_of rfl rfl rfl (by decide +kernel) ⟨Nat.le_of_ble_eq_true rfl, Nat.le_of_ble_eq_true rfl⟩) (r_preV C P [.int x2, .int (1 : Int32)] (ci := 10) rfl (by decide) EKM_0) rfl rfl hl.1 rfl (lv_room (Nat.le_of_ble_eq_true rfl)) dX10_userOf_15 ⟨Nat.le_of_ble_eq_true rfl, Nat.le_of_ble_eq_true rfl⟩) P.2 (fun r3 u2 H locs h P => ?_)
      refine lv_iload_n hx hb dX10_userOf_18 rfl (lv_at hl 1 rfl) ?_
      refine lv_icmp_ne (tgt := 38) hx hb dX10_userOf_19 (by decide) (fun c4 => ?_) (fun c4 => ?_)
      · have h := ite_f h c4
        refine lv_iinc (v := (x2 + 1)) (lv' := [(2, .int (x2 + 1)), (0, .ref (o + 0)), (1, .int x1)]) hx hb dX10_userOf_38 hl (k := 2) rfl rfl (by decide) rfl (fun ls hl => ?_)
        refine lv_goto (tgt := 2) hx hb dX10_userOf_41 (by decide) ?_
        exact ih _ _ u2 _ _ _ P (lv_sub hl [1, 2, 0] rfl) h
      · have h := ite_t h c4
        refine lv_aload_n hx hb dX10_userOf_22 rfl (lv_at hl 0 rfl) ?_
        refine lv_iload_n hx hb dX10_userOf_23 rfl (lv_at hl 2 rfl) ?_
        refine lv_iconst (v := 0) hx hb dX10_userOf_24 (by decide) ?_
        refine r_calli (F := EM cA o) (va_runV (As := [.int x2, .int (0 : Int32)]) (rest := []) C.1 (c_X10_of l D cA o _ _ u2 _ h) (cwV 2 C.1.2.2.2.2 gX10_userOf_X10_of rfl rfl rfl (by decide +kernel) ⟨Nat.le_of_ble_eq_true rfl, Nat.le_of_ble_eq_true rfl⟩) (r_preV C P [.int x2, .int (0 : Int32)] (ci := 10) rfl (by decide) EKM_0) rfl rfl hl.1 rfl (lv_room (Nat.le_of_ble_eq_true rfl)) dX10_userOf_25 ⟨Nat.le_of_ble_eq_true rfl, Nat.le_of_ble_eq_true rfl⟩) P.2 (fun r6 u5 H locs h P => ?_)
        refine lv_iconst (v := 2) hx hb dX10_userOf_28 (by decide) ?_
        refine lv_iconst (v := 4) hx hb dX10_userOf_29 (by decide) ?_
        refine r_calli (F := EM cA o) (va_runS (As := [.int r6, .int (2 : Int32), .int (4 : Int32)]) (rest := []) C.1 (c_X10_in l D cA o _ _ _ u5 _ h) (va_cwS 3 C.1.2.2.2.2 gX10_userOf_X10_in rfl rfl rfl (by decide +kernel) ⟨Nat.le_of_ble_eq_true rfl, Nat.le_of_ble_eq_true rfl⟩) (r_pre C P [.int r6, .int (2 : Int32), .int (4 : Int32)]) rfl rfl hl.1 rfl (lv_room (Nat.le_of_ble_eq_true rfl)) dX10_userOf_30 ⟨Nat.le_of_ble_eq_true rfl, Nat.le_of_ble_eq_true rfl⟩) P.2 (fun r8 u7 H locs h P => ?_)
        refine lv_if_eq (tgt := 38) hx hb dX10_userOf_33 (by decide) (fun c9 => ?_) (fun c9 => ?_)
        · have h := ite_t h c9
          refine lv_iinc (v := (x2 + 1)) (lv' := [(2, .int (x2 + 1)), (0, .ref (o + 0)), (1, .int x1)]) hx hb dX10_userOf_38 hl (k := 2) rfl rfl (by decide) rfl (fun ls hl => ?_)
          refine lv_goto (tgt := 2) hx hb dX10_userOf_41 (by decide) ?_
          exact ih _ _ u7 _ _ _ P (lv_sub hl [1, 2, 0] rfl) h
        · have h := ite_f h c9
          refine lv_iload_n hx hb dX10_userOf_36 rfl (lv_at hl 2 rfl) ?_
          exact r_ireti C P h dX10_userOf_37
def w_X10_userOf (a1 : Int32) (u0 : Mm) (Φ : Int32 → Mm → Prop) : Prop := (∃ n2 : Nat, w_X10_userOf_2 Φ n2 a1 ((0 : Int32)) u0)
set_option maxHeartbeats 4000000 in
set_option maxRecDepth 100000 in
theorem t_X10_userOf_0 {p : Program} {l : Launch} {e : Env} {s : State} {m : MethodId} {args : Array Value} {below : List Frame} {meth : Method} {c : Code} {D : va_G} {cA : Nat → ClassId} {o : Nat}  {Φ : Int32 → Mm → Prop} (C : Cx p m meth c s args cX10_userOf 3 wsX10_userOf RX10 (some .int) D (tysL cA)) : ∀ (a1 : Int32) (u0 : Mm), ∀ (H : Heap) (locs : List Loc) (ls : Array Slot), Hp 6 o D (EM cA o u0) s H locs → lv_has ls 3 [(0, .ref (o + 0)), (1, .int a1)] → w_X10_userOf a1 u0 Φ → W p l e rm_X10_userOf s m args below meth c H locs 0 0 (MQ below (Qg vI Φ (fun μ => Wd 6 o D (tysL cA) (EM cA o μ)) (aA o 6)) args s 0 0 (aA o 6)) (F0 m 0 ls []) := by
  intro a1 u0 H locs ls P hl h
  have hx := C.1.1
  have hb := C.1.2.1
  unfold w_X10_userOf at h
  refine lv_iconst (v := 0) hx hb dX10_userOf_0 (by decide) ?_
  refine lv_istore_n (lv' := [(2, .int (0 : Int32)), (0, .ref (o + 0)), (1, .int a1)]) hx hb dX10_userOf_1 rfl hl (by decide) rfl (fun ls hl => ?_)
  obtain ⟨n2, h⟩ := h
  exact t_X10_userOf_2 C n2 _ _ u0 _ _ _ P (lv_sub hl [1, 2, 0] rfl) h
set_option maxHeartbeats 4000000 in
set_option maxRecDepth 100000 in
theorem c_X10_userOf (l : Launch) (D : va_G) (cA : Nat → ClassId) (o : Nat) (a1 : Int32)  (u0 : Mm) (Φ : Int32 → Mm → Prop) (h : w_X10_userOf a1 u0 Φ) : Met l yX10_userOf wsX10_userOf rm_X10_userOf (va_Pc [.ref (o + 0), .int a1] (Wd 6 o D (tysL cA) (EM cA o u0))) (Qg vI Φ (fun μ => Wd 6 o D (tysL cA) (EM cA o μ)) (aA o 6)) 0 0 (aA o 6) := by
  refine Met.ofW (cc := cX10_userOf) (maxL := 3) (ret := (some .int)) (by decide) rfl ?_
  intro p e s m args below meth c s₁ B hml hv
  obtain ⟨rfl, hv⟩ := hv
  have hl := lv_entry ([.ref (o + 0), .int a1]) (n := 3) (Nat.le_of_ble_eq_true rfl)
  rw [lg_entry_eq]
  exact t_X10_userOf_0 ⟨⟨B.exec, B.bytes, hml, findClass_of_methodNamed B.named, atoms_spec (ws := wsX10_userOf) B.pre⟩, B.returns, B.notSynchronized, hv.2⟩ a1 u0 _ _ _ ⟨hv.1, va_S.rf⟩ hl h
abbrev rm_X10_refusal : Room := { frames := 3, cells := 0, slots := 0, locals := 68 }
theorem wd_X10_refusal_1 : Cond.fieldLink RX10 7 "TurnstileBankModel" "row" "[I" ∈ wsX10_refusal := List.mem_of_getElem? (i := 1) (by decide +kernel)
theorem in_X10_refusal_10 : ∀ w ∈ wsX100, w ∈ wsX10_refusal := fun w h => List.mem_cons_of_mem _ (List.mem_append_right _ h)
def w_X10_refusal (a1 : Int32) (u0 : Mm) (Φ : Int32 → Mm → Prop) : Prop := (w_X10_of a1 ((1 : Int32)) u0 (fun r2 u1 => (if 0 ≤ r2 then (vp_in (((400 : Int32) + ((2 : Int32) * r2)) + (1 : Int32)) 516 ∧ (if (u1 1 (((400 : Int32) + ((2 : Int32) * r2)) + (1 : Int32)).toNatClampNeg) = (1 : Int32) then (Φ ((2 : Int32)) u1) else (w_X10_userOf r2 u1 (fun r6 u5 => (if r6 < 0 then (vp_in ((400 : Int32) + ((2 : Int32) * r2)) 516 ∧ (w_X10_insideBy ((u5 1 ((400 : Int32) + ((2 : Int32) * r2)).toNatClampNeg)) u5 (fun r9 u8 => (vp_in (((424 : Int32) + ((3 : Int32) * (u5 1 ((400 : Int32) + ((2 : Int32) * r2)).toNatClampNeg))) + (1 : Int32)) 516 ∧ (if r9 < (u8 1 (((424 : Int32) + ((3 : Int32) * (u5 1 ((400 : Int32) + ((2 : Int32) * r2)).toNatClampNeg))) + (1 : Int32)).toNatClampNeg) then (vp_in ((424 : Int32) + ((3 : Int32) * (u5 1 ((400 : Int32) + ((2 : Int32) * r2)).toNatClampNeg))) 516 ∧ (if (u8 1 (6 : Int32).toNatClampNeg) ≤ (u8 1 ((424 : Int32) + ((3 : Int32) * (u5 1 ((400 : Int32) + ((2 : Int32) * r2)).toNatClampNeg))).toNatClampNeg) then (Φ ((0 : Int32)) u8) else (Φ ((5 : Int32)) u8))) else (Φ ((4 : Int32)) u8)))))) else (Φ ((3 : Int32)) u5)))))) else (Φ ((1 : Int32)) u1))))
set_option maxHeartbeats 4000000 in
set_option maxRecDepth 100000 in
theorem t_X10_refusal_0 {p : Program} {l : Launch} {e : Env} {s : State} {m : MethodId} {args : Array Value} {below : List Frame} {meth : Method} {c : Code} {D : va_G} {cA : Nat → ClassId} {o : Nat}  {Φ : Int32 → Mm → Prop} (C : Cx p m meth c s args cX10_refusal 4 wsX10_refusal RX10 (some .int) D (tysL cA)) : ∀ (a1 : Int32) (u0 : Mm), ∀ (H : Heap) (locs : List Loc) (ls : Array Slot), Hp 6 o D (EM cA o u0) s H locs → lv_has ls 4 [(0, .ref (o + 0)), (1, .int a1)] → w_X10_refusal a1 u0 Φ → W p l e rm_X10_refusal s m args below meth c H locs 0 0 (MQ below (Qg vI Φ (fun μ => Wd 6 o D (tysL cA) (EM cA o μ)) (aA o 6)) args s 0 0 (aA o 6)) (F0 m 0 ls []) := by
  intro a1 u0 H locs ls P hl h
  have hx := C.1.1
  have hb := C.1.2.1
  unfold w_X10_refusal at h
  refine lv_aload_n hx hb dX10_refusal_0 rfl (lv_at hl 0 rfl) ?_
  refine lv_iload_n hx hb dX10_refusal_1 rfl (lv_at hl 1 rfl) ?_
  refine lv_iconst (v := 1) hx hb dX10_refusal_2 (by decide) ?_
  refine r_calli (F := EM cA o) (va_runV (As := [.int a1, .int (1 : Int32)]) (rest := []) C.1 (c_X10_of l D cA o _ _ u0 _ h) (cwV 2 C.1.2.2.2.2 gX10_refusal_X10_of rfl rfl rfl (by decide +kernel) ⟨Nat.le_of_ble_eq_true rfl, Nat.le_of_ble_eq_true rfl⟩) (r_preV C P [.int a1, .int (1 : Int32)] (ci := 10) rfl (by decide) EKM_0) rfl rfl hl.1 rfl (lv_room (Nat.le_of_ble_eq_true rfl)) dX10_refusal_3 ⟨Nat.le_of_ble_eq_true rfl, Nat.le_of_ble_eq_true rfl⟩) P.2 (fun r2 u1 H locs h P => ?_)
  refine lv_istore_n (lv' := [(2, .int r2), (0, .ref (o + 0)), (1, .int a1)]) hx hb dX10_refusal_6 rfl hl (by decide) rfl (fun ls hl => ?_)
  refine lv_iload_n hx hb dX10_refusal_7 rfl (lv_at hl 0 rfl) ?_
  refine lv_if_ge (tgt := 13) hx hb dX10_refusal_8 (by decide) (fun c3 => ?_) (fun c3 => ?_)
  · have h := ite_t h c3
    refine lv_aload_n hx hb dX10_refusal_13 rfl (lv_at hl 1 rfl) ?_
    refine g_10_0 C P in_X10_refusal_10 wd_X10_refusal_1 dX10_refusal_14 ?_
    refine lv_sipush (v := 400) hx hb dX10_refusal_17 (by decide) ?_
    refine lv_iconst (v := 2) hx hb dX10_refusal_20 (by decide) ?_
    refine lv_iload_n hx hb dX10_refusal_21 rfl (lv_at hl 0 rfl) ?_
    refine lv_imul hx hb dX10_refusal_22 ?_
    refine lv_iadd hx hb dX10_refusal_23 ?_
    refine lv_iconst (v := 1) hx hb dX10_refusal_24 (by decide) ?_
    refine lv_iadd hx hb dX10_refusal_25 ?_
    obtain ⟨hi, h⟩ := h
    refine mld_1 C P hi dX10_refusal_26 ?_
    refine lv_iconst (v := 1) hx hb dX10_refusal_27 (by decide) ?_
    refine lv_icmp_ne (tgt := 33) hx hb dX10_refusal_28 (by decide) (fun c4 => ?_) (fun c4 => ?_)
    · have h := ite_f h c4
      refine lv_aload_n hx hb dX10_refusal_33 rfl (lv_at hl 1 rfl) ?_
      refine lv_iload_n hx hb dX10_refusal_34 rfl (lv_at hl 0 rfl) ?_
      refine r_calli (F := EM cA o) (va_runV (As := [.int r2]) (rest := []) C.1 (c_X10_userOf l D cA o _ u1 _ h) (cwV 1 C.1.2.2.2.2 gX10_refusal_X10_userOf rfl rfl rfl (by decide +kernel) ⟨Nat.le_of_ble_eq_true rfl, Nat.le_of_ble_eq_true rfl⟩) (r_preV C P [.int r2] (ci := 10) rfl (by decide) EKM_0) rfl rfl hl.1 rfl (lv_room (Nat.le_of_ble_eq_true rfl)) dX10_refusal_35 ⟨Nat.le_of_ble_eq_true rfl, Nat.le_of_ble_eq_true rfl⟩) P.2 (fun r6 u5 H locs h P => ?_)
      refine lv_if_lt (tgt := 43) hx hb dX10_refusal_38 (by decide) (fun c7 => ?_) (fun c7 => ?_)
      · have h := ite_t h c7
        refine lv_aload_n hx hb dX10_refusal_43 rfl (lv_at hl 1 rfl) ?_
        refine g_10_0 C P in_X10_refusal_10 wd_X10_refusal_1 dX10_refusal_44 ?_
        refine lv_sipush (v := 400) hx hb dX10_refusal_47 (by decide) ?_
        refine lv_iconst (v := 2) hx hb dX10_refusal_50 (by decide) ?_
        refine lv_iload_n hx hb dX10_refusal_51 rfl (lv_at hl 0 rfl) ?_
        refine lv_imul hx hb dX10_refusal_52 ?_
        refine lv_iadd hx hb dX10_refusal_53 ?_
        obtain ⟨hi, h⟩ := h
        refine mld_1 C P hi dX10_refusal_54 ?_
        refine lv_istore_n (lv' := [(3, .int (u5 1 ((400 : Int32) + ((2 : Int32) * r2)).toNatClampNeg)), (2, .int r2), (0, .ref (o + 0)), (1, .int a1)]) hx hb dX10_refusal_55 rfl hl (by decide) rfl (fun ls hl => ?_)
        refine lv_aload_n hx hb dX10_refusal_56 rfl (lv_at hl 2 rfl) ?_
        refine lv_iload_n hx hb dX10_refusal_57 rfl (lv_at hl 0 rfl) ?_
        refine r_calli (F := EM cA o) (va_runV (As := [.int (u5 1 ((400 : Int32) + ((2 : Int32) * r2)).toNatClampNeg)]) (rest := []) C.1 (c_X10_insideBy l D cA o _ u5 _ h) (cwV 1 C.1.2.2.2.2 gX10_refusal_X10_insideBy rfl rfl rfl (by decide +kernel) ⟨Nat.le_of_ble_eq_true rfl, Nat.le_of_ble_eq_true rfl⟩) (r_preV C P [.int (u5 1 ((400 : Int32) + ((2 : Int32) * r2)).toNatClampNeg)] (ci := 10) rfl (by decide) EKM_0) rfl rfl hl.1 rfl (lv_room (Nat.le_of_ble_eq_true rfl)) dX10_refusal_58 ⟨Nat.le_of_ble_eq_true rfl, Nat.le_of_ble_eq_true rfl⟩) P.2 (fun r9 u8 H locs h P => ?_)
        refine lv_aload_n hx hb dX10_refusal_61 rfl (lv_at hl 2 rfl) ?_
        refine g_10_0 C P in_X10_refusal_10 wd_X10_refusal_1 dX10_refusal_62 ?_
        refine lv_sipush (v := 424) hx hb dX10_refusal_65 (by decide) ?_
        refine lv_iconst (v := 3) hx hb dX10_refusal_68 (by decide) ?_
        refine lv_iload_n hx hb dX10_refusal_69 rfl (lv_at hl 0 rfl) ?_
        refine lv_imul hx hb dX10_refusal_70 ?_
        refine lv_iadd hx hb dX10_refusal_71 ?_
        refine lv_iconst (v := 1) hx hb dX10_refusal_72 (by decide) ?_
        refine lv_iadd hx hb dX10_refusal_73 ?_
        obtain ⟨hi, h⟩ := h
        refine mld_1 C P hi dX10_refusal_74 ?_
        refine lv_icmp_lt (tgt := 80) hx hb dX10_refusal_75 (by decide) (fun c10 => ?_) (fun c10 => ?_)
        · have h := ite_t h c10
          refine lv_aload_n hx hb dX10_refusal_80 rfl (lv_at hl 2 rfl) ?_
          refine g_10_0 C P in_X10_refusal_10 wd_X10_refusal_1 dX10_refusal_81 ?_
          refine lv_sipush (v := 424) hx hb dX10_refusal_84 (by decide) ?_
          refine lv_iconst (v := 3) hx hb dX10_refusal_87 (by decide) ?_
          refine lv_iload_n hx hb dX10_refusal_88 rfl (lv_at hl 0 rfl) ?_
          refine lv_imul hx hb dX10_refusal_89 ?_
          refine lv_iadd hx hb dX10_refusal_90 ?_
          obtain ⟨hi, h⟩ := h
          refine mld_1 C P hi dX10_refusal_91 ?_
          refine lv_aload_n hx hb dX10_refusal_92 rfl (lv_at hl 2 rfl) ?_
          refine g_10_0 C P in_X10_refusal_10 wd_X10_refusal_1 dX10_refusal_93 ?_
          refine lv_bipush (v := 6) hx hb dX10_refusal_96 (by decide) ?_
          refine mld_1 C P (by unfold vp_in; decide) dX10_refusal_98 ?_
          refine lv_icmp_ge (tgt := 106) hx hb dX10_refusal_99 (by decide) (fun c11 => ?_) (fun c11 => ?_)
          · have h := ite_t h c11
            refine lv_iconst (v := 0) hx hb dX10_refusal_106 (by decide) ?_
            exact r_ireti C P h dX10_refusal_107
          · have h := ite_f h c11
            refine lv_iconst (v := 5) hx hb dX10_refusal_102 (by decide) ?_
            refine lv_goto (tgt := 107) hx hb dX10_refusal_103 (by decide) ?_
            exact r_ireti C P h dX10_refusal_107
        · have h := ite_f h c10
          refine lv_iconst (v := 4) hx hb dX10_refusal_78 (by decide) ?_
          exact r_ireti C P h dX10_refusal_79
      · have h := ite_f h c7
        refine lv_iconst (v := 3) hx hb dX10_refusal_41 (by decide) ?_
        exact r_ireti C P h dX10_refusal_42
    · have h := ite_t h c4
      refine lv_iconst (v := 2) hx hb dX10_refusal_31 (by decide) ?_
      exact r_ireti C P h dX10_refusal_32
  · have h := ite_f h c3
    refine lv_iconst (v := 1) hx hb dX10_refusal_11 (by decide) ?_
    exact r_ireti C P h dX10_refusal_12
set_option maxHeartbeats 4000000 in
set_option maxRecDepth 100000 in
theorem c_X10_refusal (l : Launch) (D : va_G) (cA : Nat → ClassId) (o : Nat) (a1 : Int32)  (u0 : Mm) (Φ : Int32 → Mm → Prop) (h : w_X10_refusal a1 u0 Φ) : Met l yX10_refusal wsX10_refusal rm_X10_refusal (va_Pc [.ref (o + 0), .int a1] (Wd 6 o D (tysL cA) (EM cA o u0))) (Qg vI Φ (fun μ => Wd 6 o D (tysL cA) (EM cA o μ)) (aA o 6)) 0 0 (aA o 6) := by
  refine Met.ofW (cc := cX10_refusal) (maxL := 4) (ret := (some .int)) (by decide) rfl ?_
  intro p e s m args below meth c s₁ B hml hv
  obtain ⟨rfl, hv⟩ := hv
  have hl := lv_entry ([.ref (o + 0), .int a1]) (n := 4) (Nat.le_of_ble_eq_true rfl)
  rw [lg_entry_eq]
  exact t_X10_refusal_0 ⟨⟨B.exec, B.bytes, hml, findClass_of_methodNamed B.named, atoms_spec (ws := wsX10_refusal) B.pre⟩, B.returns, B.notSynchronized, hv.2⟩ a1 u0 _ _ _ ⟨hv.1, va_S.rf⟩ hl h
abbrev rm_X10_waited : Room := { frames := 1, cells := 0, slots := 0, locals := 22 }
theorem wd_X10_waited_1 : Cond.fieldLink RX10 7 "TurnstileBankModel" "row" "[I" ∈ wsX10_waited := List.mem_of_getElem? (i := 1) (by decide +kernel)
theorem in_X10_waited_10 : ∀ w ∈ wsX100, w ∈ wsX10_waited := fun w h => List.mem_cons_of_mem _ (List.mem_append_right _ h)
def w_X10_waited (a1 : Int32) (u0 : Mm) (Φ : Int32 → Mm → Prop) : Prop := (w_X10_of a1 ((5 : Int32)) u0 (fun r2 u1 => (Φ (((u0 1 (0 : Int32).toNatClampNeg) - r2)) u1)))
set_option maxHeartbeats 4000000 in
set_option maxRecDepth 100000 in
theorem t_X10_waited_0 {p : Program} {l : Launch} {e : Env} {s : State} {m : MethodId} {args : Array Value} {below : List Frame} {meth : Method} {c : Code} {D : va_G} {cA : Nat → ClassId} {o : Nat}  {Φ : Int32 → Mm → Prop} (C : Cx p m meth c s args cX10_waited 2 wsX10_waited RX10 (some .int) D (tysL cA)) : ∀ (a1 : Int32) (u0 : Mm), ∀ (H : Heap) (locs : List Loc) (ls : Array Slot), Hp 6 o D (EM cA o u0) s H locs → lv_has ls 2 [(0, .ref (o + 0)), (1, .int a1)] → w_X10_waited a1 u0 Φ → W p l e rm_X10_waited s m args below meth c H locs 0 0 (MQ below (Qg vI Φ (fun μ => Wd 6 o D (tysL cA) (EM cA o μ)) (aA o 6)) args s 0 0 (aA o 6)) (F0 m 0 ls []) := by
  intro a1 u0 H locs ls P hl h
  have hx := C.1.1
  have hb := C.1.2.1
  unfold w_X10_waited at h
  refine lv_aload_n hx hb dX10_waited_0 rfl (lv_at hl 0 rfl) ?_
  refine g_10_0 C P in_X10_waited_10 wd_X10_waited_1 dX10_waited_1 ?_
  refine lv_iconst (v := 0) hx hb dX10_waited_4 (by decide) ?_
  refine mld_1 C P (by unfold vp_in; decide) dX10_waited_5 ?_
  refine lv_aload_n hx hb dX10_waited_6 rfl (lv_at hl 0 rfl) ?_
  refine lv_iload_n hx hb dX10_waited_7 rfl (lv_at hl 1 rfl) ?_
  refine lv_iconst (v := 5) hx hb dX10_waited_8 (by decide) ?_
  refine r_calli (F := EM cA o) (va_runV (As := [.int a1, .int (5 : Int32)]) (rest := [.int (u0 1 (0 : Int32).toNatClampNeg)]) C.1 (c_X10_of l D cA o _ _ u0 _ h) (cwV 2 C.1.2.2.2.2 gX10_waited_X10_of rfl rfl rfl (by decide +kernel) ⟨Nat.le_of_ble_eq_true rfl, Nat.le_of_ble_eq_true rfl⟩) (r_preV C P [.int a1, .int (5 : Int32)] (ci := 10) rfl (by decide) EKM_0) rfl rfl hl.1 rfl (lv_room (Nat.le_of_ble_eq_true rfl)) dX10_waited_9 ⟨Nat.le_of_ble_eq_true rfl, Nat.le_of_ble_eq_true rfl⟩) P.2 (fun r2 u1 H locs h P => ?_)
  refine lv_isub hx hb dX10_waited_12 ?_
  exact r_ireti C P h dX10_waited_13
set_option maxHeartbeats 4000000 in
set_option maxRecDepth 100000 in
theorem c_X10_waited (l : Launch) (D : va_G) (cA : Nat → ClassId) (o : Nat) (a1 : Int32)  (u0 : Mm) (Φ : Int32 → Mm → Prop) (h : w_X10_waited a1 u0 Φ) : Met l yX10_waited wsX10_waited rm_X10_waited (va_Pc [.ref (o + 0), .int a1] (Wd 6 o D (tysL cA) (EM cA o u0))) (Qg vI Φ (fun μ => Wd 6 o D (tysL cA) (EM cA o μ)) (aA o 6)) 0 0 (aA o 6) := by
  refine Met.ofW (cc := cX10_waited) (maxL := 2) (ret := (some .int)) (by decide) rfl ?_
  intro p e s m args below meth c s₁ B hml hv
  obtain ⟨rfl, hv⟩ := hv
  have hl := lv_entry ([.ref (o + 0), .int a1]) (n := 2) (Nat.le_of_ble_eq_true rfl)
  rw [lg_entry_eq]
  exact t_X10_waited_0 ⟨⟨B.exec, B.bytes, hml, findClass_of_methodNamed B.named, atoms_spec (ws := wsX10_waited) B.pre⟩, B.returns, B.notSynchronized, hv.2⟩ a1 u0 _ _ _ ⟨hv.1, va_S.rf⟩ hl h
