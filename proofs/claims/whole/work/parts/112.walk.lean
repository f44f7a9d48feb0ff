abbrev rm_X10_addGate : Room := { frames := 2, cells := 0, slots := 0, locals := 43 }
theorem wd_X10_addGate_1 : Cond.fieldLink RX10 7 "TurnstileBankModel" "row" "[I" ∈ wsX10_addGate := List.mem_of_getElem? (i := 1) (by decide +kernel)
theorem in_X10_addGate_10 : ∀ w ∈ wsX100, w ∈ wsX10_addGate := fun w h => List.mem_cons_of_mem _ (List.mem_append_right _ h)
def w_X10_addGate_72  (Φ : Int32 → Mm → Prop) : Nat → Int32 → Int32 → Int32 → Int32 → Int32 → Int32 → Mm → Prop
  | 0, _, _, _, _, _, _, _ => False
  | n + 1, x1, x2, x3, x4, x5, x6, u0 => (if (14 : Int32) ≤ x6 then (w_X10_putGate x5 ((0 : Int32)) x1 u0 (fun _ u17 => (w_X10_putGate x5 ((1 : Int32)) x2 u17 (fun _ u19 => (w_X10_putGate x5 ((2 : Int32)) x3 u19 (fun _ u21 => (w_X10_putGate x5 ((3 : Int32)) x4 u21 (fun _ u23 => (w_X10_putGate x5 ((6 : Int32)) ((-5 : Int32)) u23 (fun _ u25 => (∀ u27 : Mm, u27 = up2 u25 1 (1 : Int32).toNatClampNeg ((u25 1 (1 : Int32).toNatClampNeg) + (1 : Int32)) → (w_X10_done x5 u27 (fun r29 u28 => (Φ r29 u28)))))))))))))) else (w_X10_putGate x5 x6 ((0 : Int32)) u0 (fun _ u30 => (w_X10_addGate_72 Φ n x1 x2 x3 x4 x5 ((x6 + 1)) u30))))
set_option maxHeartbeats 4000000 in
set_option maxRecDepth 100000 in
theorem t_X10_addGate_72 {p : Program} {l : Launch} {e : Env} {s : State} {m : MethodId} {args : Array Value} {below : List Frame} {meth : Method} {c : Code} {D : va_G} {cA : Nat → ClassId} {o : Nat}  {Φ : Int32 → Mm → Prop} (C : Cx p m meth c s args cX10_addGate 7 wsX10_addGate RX10 (some .int) D (tysL cA)) : ∀ n : Nat, ∀ (x1 : Int32) (x2 : Int32) (x3 : Int32) (x4 : Int32) (x5 : Int32) (x6 : Int32) (u0 : Mm), ∀ (H : Heap) (locs : List Loc) (ls : Array Slot), Hp 6 o D (EM cA o u0) s H locs → lv_has ls 7 [(0, .ref (o + 0)), (1, .int x1), (2, .int x2), (3, .int x3), (4, .int x4), (5, .int x5), (6, .int x6)] → w_X10_addGate_72 Φ n x1 x2 x3 x4 x5 x6 u0 → W p l e rm_X10_addGate s m args below meth c H locs 0 0 (MQ below (Qg vI Φ (fun μ => Wd 6 o D (tysL cA) (EM cA o μ)) (aA o 6)) args s 0 0 (aA o 6)) (F0 m 72 ls []) := by
  intro n
  induction n with
  | zero => intro x1 x2 x3 x4 x5 x6 u0 H locs ls P hl h; exact h.elim
  | succ n ih =>
    intro x1 x2 x3 x4 x5 x6 u0 H locs ls P hl h
    have hx := C.1.1
    have hb := C.1.2.1
    rw [w_X10_addGate_72] at h
    refine lv_iload hx hb dX10_addGate_72 (lv_at hl 6 rfl) ?_
    refine lv_bipush (v := 14) hx hb dX10_addGate_74 (by decide) ?_
    refine lv_icmp_ge (tgt := 94) hx hb dX10_addGate_76 (by decide) (fun c16 => ?_) (fun c16 => ?_)
    · have h := ite_t h c16
      refine lv_aload_n hx hb dX10_addGate_94 rfl (lv_at hl 0 rfl) ?_
      refine lv_iload hx hb dX10_addGate_95 (lv_at hl 5 rfl) ?_
      refine lv_iconst (v := 0) hx hb dX10_addGate_97 (by decide) ?_
      refine lv_iload_n hx hb dX10_addGate_98 rfl (lv_at hl 1 rfl) ?_
      refine r_callv (F := EM cA o) (va_runV (As := [.int x5, .int (0 : Int32), .int x1]) (rest := []) C.1 (c_X10_putGate l D cA o _ _ _ u0 _ h) (cwV 3 C.1.2.2.2.2 gX10_addGate_X10_putGate rfl rfl rfl (by decide +kernel) ⟨Nat.le_of_ble_eq_true rfl, Nat.le_of_ble_eq_true rfl⟩) (r_preV C P [.int x5, .int (0 : Int32), .int x1] (ci := 10) rfl (by decide) EKM_0) rfl rfl hl.1 rfl (lv_room (Nat.le_of_ble_eq_true rfl)) dX10_addGate_99 ⟨Nat.le_of_ble_eq_true rfl, Nat.le_of_ble_eq_true rfl⟩) P.2 (fun u17 H locs h P => ?_)
      refine lv_aload_n hx hb dX10_addGate_102 rfl (lv_at hl 0 rfl) ?_
      refine lv_iload hx hb dX10_addGate_103 (lv_at hl 5 rfl) ?_
      refine lv_iconst (v := 1) hx hb dX10_addGate_105 (by decide) ?_
      refine lv_iload_n hx hb dX10_addGate_106 rfl (lv_at hl 2 rfl) ?_
      refine r_callv (F := EM cA o) (va_runV (As := [.int x5, .int (1 : Int32), .int x2]) (rest := []) C.1 (c_X10_putGate l D cA o _ _ _ u17 _ h) (cwV 3 C.1.2.2.2.2 gX10_addGate_X10_putGate rfl rfl rfl (by decide +kernel) ⟨Nat.le_of_ble_eq_true rfl, Nat.le_of_ble_eq_true rfl⟩) (r_preV C P [.int x5, .int (1 : Int32), .int x2] (ci := 10) rfl (by decide) EKM_0) rfl rfl hl.1 rfl (lv_room (Nat.le_of_ble_eq_true rfl)) dX10_addGate_107 ⟨Nat.le_of_ble_eq_true rfl, Nat.le_of_ble_eq_true rfl⟩) P.2 (fun u19 H locs h P => ?_)
      refine lv_aload_n hx hb dX10_addGate_110 rfl (lv_at hl 0 rfl) ?_
      refine lv_iload hx hb dX10_addGate_111 (lv_at hl 5 rfl) ?_
      refine lv_iconst (v := 2) hx hb dX10_addGate_113 (by decide) ?_
      refine lv_iload_n hx hb dX10_addGate_114 rfl (lv_at hl 3 rfl) ?_
      refine r_callv (F := EM cA o) (va_runV (As := [.int x5, .int (2 : Int32), .int x3]) (rest := []) C.1 (c_X10_putGate l D cA o _ _ _ u19 _ h) (cwV 3 C.1.2.2.2.2 gX10_addGate_X10_putGate rfl rfl rfl (by decide +kernel) ⟨Nat.le_of_ble_eq_true rfl, Nat.le_of_ble_eq_true rfl⟩) (r_preV C P [.int x5, .int (2 : Int32), .int x3] (ci := 10) rfl (by decide) EKM_0) rfl rfl hl.1 rfl (lv_room (Nat.le_of_ble_eq_true rfl)) dX10_addGate_115 ⟨Nat.le_of_ble_eq_true rfl, Nat.le_of_ble_eq_true rfl⟩) P.2 (fun u21 H locs h P => ?_)
      refine lv_aload_n hx hb dX10_addGate_118 rfl (lv_at hl 0 rfl) ?_
      refine lv_iload hx hb dX10_addGate_119 (lv_at hl 5 rfl) ?_
      refine lv_iconst (v := 3) hx hb dX10_addGate_121 (by decide) ?_
      refine lv_iload hx hb dX10_addGate_122 (lv_at hl 4 rfl) ?_
      refine r_callv (F := EM cA o) (va_runV (As := [.int x5, .int (3 : Int32), .int x4]) (rest := []) C.1 (c_X10_putGate l D cA o _ _ _ u21 _ h) (cwV 3 C.1.2.2.2.2 gX10_addGate_X10_putGate rfl rfl rfl (by decide +kernel) ⟨Nat.le_of_ble_eq_true rfl, Nat.le_of_ble_eq_true rfl⟩) (r_preV C P [.int x5, .int (3 : Int32), .int x4] (ci := 10) rfl (by decide) EKM_0) rfl rfl hl.1 rfl (lv_room (Nat.le_of_ble_eq_true rfl)) dX10_addGate_124 ⟨Nat.le_of_ble_eq_true rfl, Nat.le_of_ble_eq_true rfl⟩) P.2 (fun u23 H locs h P => ?_)
      refine lv_aload_n hx hb dX10_addGate_127 rfl (lv_at hl 0 rfl) ?_
      refine lv_iload hx hb dX10_addGate_128 (lv_at hl 5 rfl) ?_
      refine lv_bipush (v := 6) hx hb dX10_addGate_130 (by decide) ?_
      refine lv_bipush (v := -5) hx hb dX10_addGate_132 (by decide) ?_
      refine r_callv (F := EM cA o) (va_runV (As := [.int x5, .int (6 : Int32), .int (-5 : Int32)]) (rest := []) C.1 (c_X10_putGate l D cA o _ _ _ u23 _ h) (cwV 3 C.1.2.2.2.2 gX10_addGate_X10_putGate rfl rfl rfl (by decide +kernel) ⟨Nat.le_of_ble_eq_true rfl, Nat.le_of_ble_eq_true rfl⟩) (r_preV C P [.int x5, .int (6 : Int32), .int (-5 : Int32)] (ci := 10) rfl (by decide) EKM_0) rfl rfl hl.1 rfl (lv_room (Nat.le_of_ble_eq_true rfl)) dX10_addGate_134 ⟨Nat.le_of_ble_eq_true rfl, Nat.le_of_ble_eq_true rfl⟩) P.2 (fun u25 H locs h P => ?_)
      refine lv_aload_n hx hb dX10_addGate_137 rfl (lv_at hl 0 rfl) ?_
      refine g_10_0 C P in_X10_addGate_10 wd_X10_addGate_1 dX10_addGate_138 ?_
      refine lv_iconst (v := 1) hx hb dX10_addGate_141 (by decide) ?_
      refine lv_dup2_11 hx hb dX10_addGate_142 rfl rfl ?_
      refine mld_1 C P (by unfold vp_in; decide) dX10_addGate_143 ?_
      refine lv_iconst (v := 1) hx hb dX10_addGate_144 (by decide) ?_
      refine lv_iadd hx hb dX10_addGate_145 ?_
      refine mst_1 C P (by unfold vp_in; decide) dX10_addGate_146 (fun u27 eu27 H locs P => ?_)
      have h := h u27 eu27
      refine lv_aload_n hx hb dX10_addGate_147 rfl (lv_at hl 0 rfl) ?_
      refine lv_iload hx hb dX10_addGate_148 (lv_at hl 5 rfl) ?_
      refine r_calli (F := EM cA o) (va_runV (As := [.int x5]) (rest := []) C.1 (c_X10_done l D cA o _ u27 _ h) (cwV 1 C.1.2.2.2.2 gX10_addGate_X10_done rfl rfl rfl (by decide +kernel) ⟨Nat.le_of_ble_eq_true rfl, Nat.le_of_ble_eq_true rfl⟩) (r_preV C P [.int x5] (ci := 10) rfl (by decide) EKM_0) rfl rfl hl.1 rfl (lv_room (Nat.le_of_ble_eq_true rfl)) dX10_addGate_150 ⟨Nat.le_of_ble_eq_true rfl, Nat.le_of_ble_eq_true rfl⟩) P.2 (fun r29 u28 H locs h P => ?_)
      exact r_ireti C P h dX10_addGate_153
    · have h := ite_f h c16
      refine lv_aload_n hx hb dX10_addGate_79 rfl (lv_at hl 0 rfl) ?_
      refine lv_iload hx hb dX10_addGate_80 (lv_at hl 5 rfl) ?_
      refine lv_iload hx hb dX10_addGate_82 (lv_at hl 6 rfl) ?_
      refine lv_iconst (v := 0) hx hb dX10_addGate_84 (by decide) ?_
      refine r_callv (F := EM cA o) (va_runV (As := [.int x5, .int x6, .int (0 : Int32)]) (rest := []) C.1 (c_X10_putGate l D cA o _ _ _ u0 _ h) (cwV 3 C.1.2.2.2.2 gX10_addGate_X10_putGate rfl rfl rfl (by decide +kernel) ⟨Nat.le_of_ble_eq_true rfl, Nat.le_of_ble_eq_true rfl⟩) (r_preV C P [.int x5, .int x6, .int (0 : Int32)] (ci := 10) rfl (by decide) EKM_0) rfl rfl hl.1 rfl (lv_room (Nat.le_of_ble_eq_true rfl)) dX10_addGate_85 ⟨Nat.le_of_ble_eq_true rfl, Nat.le_of_ble_eq_true rfl⟩) P.2 (fun u30 H locs h P => ?_)
      refine lv_iinc (v := (x6 + 1)) (lv' := [(6, .int (x6 + 1)), (0, .ref (o + 0)), (1, .int x1), (2, .int x2), (3, .int x3), (4, .int x4), (5, .int x5)]) hx hb dX10_addGate_88 hl (k := 6) rfl rfl (by decide) rfl (fun ls hl => ?_)
      refine lv_goto (tgt := 72) hx hb dX10_addGate_91 (by decide) ?_
      exact ih _ _ _ _ _ _ u30 _ _ _ P (lv_sub hl [1, 2, 3, 4, 5, 6, 0] rfl) h
def w_X10_addGate (a1 : Int32) (a2 : Int32) (a3 : Int32) (a4 : Int32) (u0 : Mm) (Φ : Int32 → Mm → Prop) : Prop := (w_X10_in a1 ((0 : Int32)) ((2 : Int32)) u0 (fun r2 u1 => (if r2 = 0 then (Φ ((-2 : Int32)) u1) else (w_X10_in a2 ((1 : Int32)) ((10 : Int32)) u1 (fun r5 u4 => (if r5 = 0 then (Φ ((-2 : Int32)) u4) else (w_X10_in a3 ((1 : Int32)) ((20 : Int32)) u4 (fun r8 u7 => (if r8 = 0 then (Φ ((-2 : Int32)) u7) else (w_X10_in a4 ((1 : Int32)) ((10 : Int32)) u7 (fun r11 u10 => (if r11 = 0 then (Φ ((-2 : Int32)) u10) else (if (u10 1 (1 : Int32).toNatClampNeg) = (8 : Int32) then (Φ ((-3 : Int32)) u10) else (w_X10_begin u10 (fun _ u14 => (∃ n72 : Nat, w_X10_addGate_72 Φ n72 a1 a2 a3 a4 ((u14 1 (1 : Int32).toNatClampNeg)) ((0 : Int32)) u14))))))))))))))))
set_option maxHeartbeats 4000000 in
set_option maxRecDepth 100000 in
theorem t_X10_addGate_0 {p : Program} {l : Launch} {e : Env} {s : State} {m : MethodId} {args : Array Value} {below : List Frame} {meth : Method} {c : Code} {D : va_G} {cA : Nat → ClassId} {o : Nat}  {Φ : Int32 → Mm → Prop} (C : Cx p m meth c s args cX10_addGate 7 wsX10_addGate RX10 (some .int) D (tysL cA)) : ∀ (a1 : Int32) (a2 : Int32) (a3 : Int32) (a4 : Int32) (u0 : Mm), ∀ (H : Heap) (locs : List Loc) (ls : Array Slot), Hp 6 o D (EM cA o u0) s H locs → lv_has ls 7 [(0, .ref (o + 0)), (1, .int a1), (2, .int a2), (3, .int a3), (4, .int a4)] → w_X10_addGate a1 a2 a3 a4 u0 Φ → W p l e rm_X10_addGate s m args below meth c H locs 0 0 (MQ below (Qg vI Φ (fun μ => Wd 6 o D (tysL cA) (EM cA o μ)) (aA o 6)) args s 0 0 (aA o 6)) (F0 m 0 ls []) := by
  intro a1 a2 a3 a4 u0 H locs ls P hl h
  have hx := C.1.1
  have hb := C.1.2.1
  unfold w_X10_addGate at h
  refine lv_iload_n hx hb dX10_addGate_0 rfl (lv_at hl 1 rfl) ?_
  refine lv_iconst (v := 0) hx hb dX10_addGate_1 (by decide) ?_
  refine lv_iconst (v := 2) hx hb dX10_addGate_2 (by decide) ?_
  refine r_calli (F := EM cA o) (va_runS (As := [.int a1, .int (0 : Int32), .int (2 : Int32)]) (rest := []) C.1 (c_X10_in l D cA o _ _ _ u0 _ h) (va_cwS 3 C.1.2.2.2.2 gX10_addGate_X10_in rfl rfl rfl (by decide +kernel) ⟨Nat.le_of_ble_eq_true rfl, Nat.le_of_ble_eq_true rfl⟩) (r_pre C P [.int a1, .int (0 : Int32), .int (2 : Int32)]) rfl rfl hl.1 rfl (lv_room (Nat.le_of_ble_eq_true rfl)) dX10_addGate_3 ⟨Nat.le_of_ble_eq_true rfl, Nat.le_of_ble_eq_true rfl⟩) P.2 (fun r2 u1 H locs h P => ?_)
  refine lv_if_eq (tgt := 40) hx hb dX10_addGate_6 (by decide) (fun c3 => ?_) (fun c3 => ?_)
  · have h := ite_t h c3
    refine lv_bipush (v := -2) hx hb dX10_addGate_40 (by decide) ?_
    exact r_ireti C P h dX10_addGate_42
  · have h := ite_f h c3
    refine lv_iload_n hx hb dX10_addGate_9 rfl (lv_at hl 2 rfl) ?_
    refine lv_iconst (v := 1) hx hb dX10_addGate_10 (by decide) ?_
    refine lv_bipush (v := 10) hx hb dX10_addGate_11 (by decide) ?_
    refine r_calli (F := EM cA o) (va_runS (As := [.int a2, .int (1 : Int32), .int (10 : Int32)]) (rest := []) C.1 (c_X10_in l D cA o _ _ _ u1 _ h) (va_cwS 3 C.1.2.2.2.2 gX10_addGate_X10_in rfl rfl rfl (by decide +kernel) ⟨Nat.le_of_ble_eq_true rfl, Nat.le_of_ble_eq_true rfl⟩) (r_pre C P [.int a2, .int (1 : Int32), .int (10 : Int32)]) rfl rfl hl.1 rfl (lv_room (Nat.le_of_ble_eq_true rfl)) dX10_addGate_13 ⟨Nat.le_of_ble_eq_true rfl, Nat.le_of_ble_eq_true rfl⟩) P.2 (fun r5 u4 H locs h P => ?_)
    refine lv_if_eq (tgt := 40) hx hb dX10_addGate_16 (by decide) (fun c6 => ?_) (fun c6 => ?_)
    · have h := ite_t h c6
      refine lv_bipush (v := -2) hx hb dX10_addGate_40 (by decide) ?_
      exact r_ireti C P h dX10_addGate_42
    · have h := ite_f h c6
      refine lv_iload_n hx hb dX10_addGate_19 rfl (lv_at hl 3 rfl) ?_
      refine lv_iconst (v := 1) hx hb dX10_addGate_20 (by decide) ?_
      refine lv_bipush (v := 20) hx hb dX10_addGate_21 (by decide) ?_
      refine r_calli (F := EM cA o) (va_runS (As := [.int a3, .int (1 : Int32), .int (20 : Int32)]) (rest := []) C.1 (c_X10_in l D cA o _ _ _ u4 _ h) (va_cwS 3 C.1.2.2.2.2 gX10_addGate_X10_in rfl rfl rfl (by decide +kernel) ⟨Nat.le_of_ble_eq_true rfl, Nat.le_of_ble_eq_true rfl⟩) (r_pre C P [.int a3, .int (1 : Int32), .int (20 : Int32)]) rfl rfl hl.1 rfl (lv_room (Nat.le_of_ble_eq_true rfl)) dX10_addGate_23 ⟨Nat.le_of_ble_eq_true rfl, Nat.le_of_ble_eq_true rfl⟩) P.2 (fun r8 u7 H locs h P => ?_)
      refine lv_if_eq (tgt := 40) hx hb dX10_addGate_26 (by decide) (fun c9 => ?_) (fun c9 => ?_)
      · have h := ite_t h c9
        refine lv_bipush (v := -2) hx hb dX10_addGate_40 (by decide) ?_
        exact r_ireti C P h dX10_addGate_42
      · have h := ite_f h c9
        refine lv_iload hx hb dX10_addGate_29 (lv_at hl 4 rfl) ?_
        refine lv_iconst (v := 1) hx hb dX10_addGate_31 (by decide) ?_
        refine lv_bipush (v := 10) hx hb dX10_addGate_32 (by decide) ?_
        refine r_calli (F := EM cA o) (va_runS (As := [.int a4, .int (1 : Int32), .int (10 : Int32)]) (rest := []) C.1 (c_X10_in l D cA o _ _ _ u7 _ h) (va_cwS 3 C.1.2.2.2.2 gX10_addGate_X10_in rfl rfl rfl (by decide +kernel) ⟨Nat.le_of_ble_eq_true rfl, Nat.le_of_ble_eq_true rfl⟩) (r_pre C P [.int a4, .int (1 : Int32), .int (10 : Int32)]) rfl rfl hl.1 rfl (lv_room (Nat.le_of_ble_eq_true rfl)) dX10_addGate_34 ⟨Nat.le_of_ble_eq_true rfl, Nat.le_of_ble_eq_true rfl⟩) P.2 (fun r11 u10 H locs h P => ?_)
        refine lv_if_ne (tgt := 43) hx hb dX10_addGate_37 (by decide) (fun c12 => ?_) (fun c12 => ?_)
        · have h := ite_f h c12
          refine lv_aload_n hx hb dX10_addGate_43 rfl (lv_at hl 0 rfl) ?_
          refine g_10_0 C P in_X10_addGate_10 wd_X10_addGate_1 dX10_addGate_44 ?_
          refine lv_iconst (v := 1) hx hb dX10_addGate_47 (by decide) ?_
          refine mld_1 C P (by unfold vp_in; decide) dX10_addGate_48 ?_
          refine lv_bipush (v := 8) hx hb dX10_addGate_49 (by decide) ?_
          refine lv_icmp_ne (tgt := 57) hx hb dX10_addGate_51 (by decide) (fun c13 => ?_) (fun c13 => ?_)
          · have h := ite_f h c13
            refine lv_aload_n hx hb dX10_addGate_57 rfl (lv_at hl 0 rfl) ?_
            refine r_callv (F := EM cA o) (va_runV (As := []) (rest := []) C.1 (c_X10_begin l D cA o u10 _ h) (cwV 0 C.1.2.2.2.2 gX10_addGate_X10_begin rfl rfl rfl (by decide +kernel) ⟨Nat.le_of_ble_eq_true rfl, Nat.le_of_ble_eq_true rfl⟩) (r_preV C P [] (ci := 10) rfl (by decide) EKM_0) rfl rfl hl.1 rfl (lv_room (Nat.le_of_ble_eq_true rfl)) dX10_addGate_58 ⟨Nat.le_of_ble_eq_true rfl, Nat.le_of_ble_eq_true rfl⟩) P.2 (fun u14 H locs h P => ?_)
            refine lv_aload_n hx hb dX10_addGate_61 rfl (lv_at hl 0 rfl) ?_
            refine g_10_0 C P in_X10_addGate_10 wd_X10_addGate_1 dX10_addGate_62 ?_
            refine lv_iconst (v := 1) hx hb dX10_addGate_65 (by decide) ?_
            refine mld_1 C P (by unfold vp_in; decide) dX10_addGate_66 ?_
            refine lv_istore (lv' := [(5, .int (u14 1 (1 : Int32).toNatClampNeg)), (0, .ref (o + 0)), (1, .int a1), (2, .int a2), (3, .int a3), (4, .int a4)]) hx hb dX10_addGate_67 hl (by decide) rfl (fun ls hl => ?_)
            refine lv_iconst (v := 0) hx hb dX10_addGate_69 (by decide) ?_
            refine lv_istore (lv' := [(6, .int (0 : Int32)), (5, .int (u14 1 (1 : Int32).toNatClampNeg)), (0, .ref (o + 0)), (1, .int a1), (2, .int a2), (3, .int a3), (4, .int a4)]) hx hb dX10_addGate_70 hl (by decide) rfl (fun ls hl => ?_)
            obtain ⟨n72, h⟩ := h
            exact t_X10_addGate_72 C n72 _ _ _ _ _ _ u14 _ _ _ P (lv_sub hl [2, 3, 4, 5, 6, 1, 0] rfl) h
          · have h := ite_t h c13
            refine lv_bipush (v := -3) hx hb dX10_addGate_54 (by decide) ?_
            exact r_ireti C P h dX10_addGate_56
        · have h := ite_t h c12
          refine lv_bipush (v := -2) hx hb dX10_addGate_40 (by decide) ?_
          exact r_ireti C P h dX10_addGate_42
set_option maxHeartbeats 4000000 in
set_option maxRecDepth 100000 in
theorem c_X10_addGate (l : Launch) (D : va_G) (cA : Nat → ClassId) (o : Nat) (a1 : Int32) (a2 : Int32) (a3 : Int32) (a4 : Int32)  (u0 : Mm) (Φ : Int32 → Mm → Prop) (h : w_X10_addGate a1 a2 a3 a4 u0 Φ) : Met l yX10_addGate wsX10_addGate rm_X10_addGate (va_Pc [.ref (o + 0), .int a1, .int a2, .int a3, .int a4] (Wd 6 o D (tysL cA) (EM cA o u0))) (Qg vI Φ (fun μ => Wd 6 o D (tysL cA) (EM cA o μ)) (aA o 6)) 0 0 (aA o 6) := by
  refine Met.ofW (cc := cX10_addGate) (maxL := 7) (ret := (some .int)) (by decide) rfl ?_
  intro p e s m args below meth c s₁ B hml hv
  obtain ⟨rfl, hv⟩ := hv
  have hl := lv_entry ([.ref (o + 0), .int a1, .int a2, .int a3, .int a4]) (n := 7) (Nat.le_of_ble_eq_true rfl)
  rw [lg_entry_eq]
  exact t_X10_addGate_0 ⟨⟨B.exec, B.bytes, hml, findClass_of_methodNamed B.named, atoms_spec (ws := wsX10_addGate) B.pre⟩, B.returns, B.notSynchronized, hv.2⟩ a1 a2 a3 a4 u0 _ _ _ ⟨hv.1, va_S.rf⟩ hl h
abbrev rm_X10_setDirection : Room := { frames := 2, cells := 0, slots := 0, locals := 43 }
def w_X10_setDirection (a1 : Int32) (a2 : Int32) (u0 : Mm) (Φ : Int32 → Mm → Prop) : Prop := (w_X10_noGate a1 u0 (fun r2 u1 => (if r2 = 0 then (w_X10_in a2 ((0 : Int32)) ((2 : Int32)) u1 (fun r5 u4 => (if r5 = 0 then (Φ ((-2 : Int32)) u4) else (w_X10_begin u4 (fun _ u7 => (w_X10_gateOf a1 ((0 : Int32)) u7 (fun r10 u9 => (w_X10_putGate a1 ((0 : Int32)) a2 u9 (fun _ u11 => (w_X10_done r10 u11 (fun r14 u13 => (Φ r14 u13)))))))))))) else (Φ ((-1 : Int32)) u1))))
set_option maxHeartbeats 4000000 in
set_option maxRecDepth 100000 in
theorem t_X10_setDirection_0 {p : Program} {l : Launch} {e : Env} {s : State} {m : MethodId} {args : Array Value} {below : List Frame} {meth : Method} {c : Code} {D : va_G} {cA : Nat → ClassId} {o : Nat}  {Φ : Int32 → Mm → Prop} (C : Cx p m meth c s args cX10_setDirection 4 wsX10_setDirection RX10 (some .int) D (tysL cA)) : ∀ (a1 : Int32) (a2 : Int32) (u0 : Mm), ∀ (H : Heap) (locs : List Loc) (ls : Array Slot), Hp 6 o D (EM cA o u0) s H locs → lv_has ls 4 [(0, .ref (o + 0)), (1, .int a1), (2, .int a2)] → w_X10_setDirection a1 a2 u0 Φ → W p l e rm_X10_setDirection s m args below meth c H locs 0 0 (MQ below (Qg vI Φ (fun μ => Wd 6 o D (tysL cA) (EM cA o μ)) (aA o 6)) args s 0 0 (aA o 6)) (F0 m 0 ls []) := by
  intro a1 a2 u0 H locs ls P hl h
  have hx := C.1.1
  have hb := C.1.2.1
  unfold w_X10_setDirection at h
  refine lv_aload_n hx hb dX10_setDirection_0 rfl (lv_at hl 0 rfl) ?_
  refine lv_iload_n hx hb dX10_setDirection_1 rfl (lv_at hl 1 rfl) ?_
  refine r_calli (F := EM cA o) (va_runV (As := [.int a1]) (rest := []) C.1 (c_X10_noGate l D cA o _ u0 _ h) (cwV 1 C.1.2.2.2.2 gX10_setDirection_X10_noGate rfl rfl rfl (by decide +kernel) ⟨Nat.le_of_ble_eq_true rfl, Nat.le_of_ble_eq_true rfl⟩) (r_preV C P [.int a1] (ci := 10) rfl (by decide) EKM_0) rfl rfl hl.1 rfl (lv_room (Nat.le_of_ble_eq_true rfl)) dX10_setDirection_2 ⟨Nat.le_of_ble_eq_true rfl, Nat.le_of_ble_eq_true rfl⟩) P.2 (fun r2 u1 H locs h P => ?_)
  refine lv_if_eq (tgt := 10) hx hb dX10_setDirection_5 (by decide) (fun c3 => ?_) (fun c3 => ?_)
  · have h := ite_t h c3
    refine lv_iload_n hx hb dX10_setDirection_10 rfl (lv_at hl 2 rfl) ?_
    refine lv_iconst (v := 0) hx hb dX10_setDirection_11 (by decide) ?_
    refine lv_iconst (v := 2) hx hb dX10_setDirection_12 (by decide) ?_
    refine r_calli (F := EM cA o) (va_runS (As := [.int a2, .int (0 : Int32), .int (2 : Int32)]) (rest := []) C.1 (c_X10_in l D cA o _ _ _ u1 _ h) (va_cwS 3 C.1.2.2.2.2 gX10_setDirection_X10_in rfl rfl rfl (by decide +kernel) ⟨Nat.le_of_ble_eq_true rfl, Nat.le_of_ble_eq_true rfl⟩) (r_pre C P [.int a2, .int (0 : Int32), .int (2 : Int32)]) rfl rfl hl.1 rfl (lv_room (Nat.le_of_ble_eq_true rfl)) dX10_setDirection_13 ⟨Nat.le_of_ble_eq_true rfl, Nat.le_of_ble_eq_true rfl⟩) P.2 (fun r5 u4 H locs h P => ?_)
    refine lv_if_ne (tgt := 22) hx hb dX10_setDirection_16 (by decide) (fun c6 => ?_) (fun c6 => ?_)
    · have h := ite_f h c6
      refine lv_aload_n hx hb dX10_setDirection_22 rfl (lv_at hl 0 rfl) ?_
      refine r_callv (F := EM cA o) (va_runV (As := []) (rest := []) C.1 (c_X10_begin l D cA o u4 _ h) (cwV 0 C.1.2.2.2.2 gX10_setDirection_X10_begin rfl rfl rfl (by decide +kernel) ⟨Nat.le_of_ble_eq_true rfl, Nat.le_of_ble_eq_true rfl⟩) (r_preV C P [] (ci := 10) rfl (by decide) EKM_0) rfl rfl hl.1 rfl (lv_room (Nat.le_of_ble_eq_true rfl)) dX10_setDirection_23 ⟨Nat.le_of_ble_eq_true rfl, Nat.le_of_ble_eq_true rfl⟩) P.2 (fun u7 H locs h P => ?_)
      refine lv_aload_n hx hb dX10_setDirection_26 rfl (lv_at hl 0 rfl) ?_
      refine lv_iload_n hx hb dX10_setDirection_27 rfl (lv_at hl 1 rfl) ?_
      refine lv_iconst (v := 0) hx hb dX10_setDirection_28 (by decide) ?_
      refine r_calli (F := EM cA o) (va_runV (As := [.int a1, .int (0 : Int32)]) (rest := []) C.1 (c_X10_gateOf l D cA o _ _ u7 _ h) (cwV 2 C.1.2.2.2.2 gX10_setDirection_X10_gateOf rfl rfl rfl (by decide +kernel) ⟨Nat.le_of_ble_eq_true rfl, Nat.le_of_ble_eq_true rfl⟩) (r_preV C P [.int a1, .int (0 : Int32)] (ci := 10) rfl (by decide) EKM_0) rfl rfl hl.1 rfl (lv_room (Nat.le_of_ble_eq_true rfl)) dX10_setDirection_29 ⟨Nat.le_of_ble_eq_true rfl, Nat.le_of_ble_eq_true rfl⟩) P.2 (fun r10 u9 H locs h P => ?_)
      refine lv_istore_n (lv' := [(3, .int r10), (0, .ref (o + 0)), (1, .int a1), (2, .int a2)]) hx hb dX10_setDirection_32 rfl hl (by decide) rfl (fun ls hl => ?_)
      refine lv_aload_n hx hb dX10_setDirection_33 rfl (lv_at hl 1 rfl) ?_
      refine lv_iload_n hx hb dX10_setDirection_34 rfl (lv_at hl 2 rfl) ?_
      refine lv_iconst (v := 0) hx hb dX10_setDirection_35 (by decide) ?_
      refine lv_iload_n hx hb dX10_setDirection_36 rfl (lv_at hl 3 rfl) ?_
      refine r_callv (F := EM cA o) (va_runV (As := [.int a1, .int (0 : Int32), .int a2]) (rest := []) C.1 (c_X10_putGate l D cA o _ _ _ u9 _ h) (cwV 3 C.1.2.2.2.2 gX10_setDirection_X10_putGate rfl rfl rfl (by decide +kernel) ⟨Nat.le_of_ble_eq_true rfl, Nat.le_of_ble_eq_true rfl⟩) (r_preV C P [.int a1, .int (0 : Int32), .int a2] (ci := 10) rfl (by decide) EKM_0) rfl rfl hl.1 rfl (lv_room (Nat.le_of_ble_eq_true rfl)) dX10_setDirection_37 ⟨Nat.le_of_ble_eq_true rfl, Nat.le_of_ble_eq_true rfl⟩) P.2 (fun u11 H locs h P => ?_)
      refine lv_aload_n hx hb dX10_setDirection_40 rfl (lv_at hl 1 rfl) ?_
      refine lv_iload_n hx hb dX10_setDirection_41 rfl (lv_at hl 0 rfl) ?_
      refine r_calli (F := EM cA o) (va_runV (As := [.int r10]) (rest := []) C.1 (c_X10_done l D cA o _ u11 _ h) (cwV 1 C.1.2.2.2.2 gX10_setDirection_X10_done rfl rfl rfl (by decide +kernel) ⟨Nat.le_of_ble_eq_true rfl, Nat.le_of_ble_eq_true rfl⟩) (r_preV C P [.int r10] (ci := 10) rfl (by decide) EKM_0) rfl rfl hl.1 rfl (lv_room (Nat.le_of_ble_eq_true rfl)) dX10_setDirection_42 ⟨Nat.le_of_ble_eq_true rfl, Nat.le_of_ble_eq_true rfl⟩) P.2 (fun r14 u13 H locs h P => ?_)
      exact r_ireti C P h dX10_setDirection_45
    · have h := ite_t h c6
      refine lv_bipush (v := -2) hx hb dX10_setDirection_19 (by decide) ?_
      exact r_ireti C P h dX10_setDirection_21
  · have h := ite_f h c3
    refine lv_iconst (v := -1) hx hb dX10_setDirection_8 (by decide) ?_
    exact r_ireti C P h dX10_setDirection_9
set_option maxHeartbeats 4000000 in
set_option maxRecDepth 100000 in
theorem c_X10_setDirection (l : Launch) (D : va_G) (cA : Nat → ClassId) (o : Nat) (a1 : Int32) (a2 : Int32)  (u0 : Mm) (Φ : Int32 → Mm → Prop) (h : w_X10_setDirection a1 a2 u0 Φ) : Met l yX10_setDirection wsX10_setDirection rm_X10_setDirection (va_Pc [.ref (o + 0), .int a1, .int a2] (Wd 6 o D (tysL cA) (EM cA o u0))) (Qg vI Φ (fun μ => Wd 6 o D (tysL cA) (EM cA o μ)) (aA o 6)) 0 0 (aA o 6) := by
  refine Met.ofW (cc := cX10_setDirection) (maxL := 4) (ret := (some .int)) (by decide) rfl ?_
  intro p e s m args below meth c s₁ B hml hv
  obtain ⟨rfl, hv⟩ := hv
  have hl := lv_entry ([.ref (o + 0), .int a1, .int a2]) (n := 4) (Nat.le_of_ble_eq_true rfl)
  rw [lg_entry_eq]
  exact t_X10_setDirection_0 ⟨⟨B.exec, B.bytes, hml, findClass_of_methodNamed B.named, atoms_spec (ws := wsX10_setDirection) B.pre⟩, B.returns, B.notSynchronized, hv.2⟩ a1 a2 u0 _ _ _ ⟨hv.1, va_S.rf⟩ hl h
abbrev rm_X10_addPool : Room := { frames := 2, cells := 0, slots := 0, locals := 43 }
theorem wd_X10_addPool_1 : Cond.fieldLink RX10 7 "TurnstileBankModel" "row" "[I" ∈ wsX10_addPool := List.mem_of_getElem? (i := 1) (by decide +kernel)
theorem in_X10_addPool_10 : ∀ w ∈ wsX100, w ∈ wsX10_addPool := fun w h => List.mem_cons_of_mem _ (List.mem_append_right _ h)
def w_X10_addPool (a1 : Int32) (u0 : Mm) (Φ : Int32 → Mm → Prop) : Prop := (w_X10_in a1 ((1 : Int32)) ((40 : Int32)) u0 (fun r2 u1 => (if r2 = 0 then (Φ ((-2 : Int32)) u1) else (if (u1 1 (4 : Int32).toNatClampNeg) = (4 : Int32) then (Φ ((-3 : Int32)) u1) else (w_X10_begin u1 (fun _ u5 => (vp_in ((424 : Int32) + ((3 : Int32) * (u5 1 (4 : Int32).toNatClampNeg))) 516 ∧ ∀ u7 : Mm, u7 = up2 u5 1 ((424 : Int32) + ((3 : Int32) * (u5 1 (4 : Int32).toNatClampNeg))).toNatClampNeg (0 : Int32) → (vp_in (((424 : Int32) + ((3 : Int32) * (u5 1 (4 : Int32).toNatClampNeg))) + (1 : Int32)) 516 ∧ ∀ u8 : Mm, u8 = up2 u7 1 (((424 : Int32) + ((3 : Int32) * (u5 1 (4 : Int32).toNatClampNeg))) + (1 : Int32)).toNatClampNeg a1 → (vp_in (((424 : Int32) + ((3 : Int32) * (u5 1 (4 : Int32).toNatClampNeg))) + (2 : Int32)) 516 ∧ ∀ u9 : Mm, u9 = up2 u8 1 (((424 : Int32) + ((3 : Int32) * (u5 1 (4 : Int32).toNatClampNeg))) + (2 : Int32)).toNatClampNeg (0 : Int32) → (∀ u10 : Mm, u10 = up2 u9 1 (4 : Int32).toNatClampNeg ((u9 1 (4 : Int32).toNatClampNeg) + (1 : Int32)) → (w_X10_done (((u10 1 (4 : Int32).toNatClampNeg) - (1 : Int32))) u10 (fun r12 u11 => (Φ r12 u11)))))))))))))
set_option maxHeartbeats 4000000 in
set_option maxRecDepth 100000 in
theorem t_X10_addPool_0 {p : Program} {l : Launch} {e : Env} {s : State} {m : MethodId} {args : Array Value} {below : List Frame} {meth : Method} {c : Code} {D : va_G} {cA : Nat → ClassId} {o : Nat}  {Φ : Int32 → Mm → Prop} (C : Cx p m meth c s args cX10_addPool 3 wsX10_addPool RX10 (some .int) D (tysL cA)) : ∀ (a1 : Int32) (u0 : Mm), ∀ (H : Heap) (locs : List Loc) (ls : Array Slot), Hp 6 o D (EM cA o u0) s H locs → lv_has ls 3 [(0, .ref (o + 0)), (1, .int a1)] → w_X10_addPool a1 u0 Φ → W p l e rm_X10_addPool s m args below meth c H locs 0 0 (MQ below (Qg vI Φ (fun μ => Wd 6 o D (tysL cA) (EM cA o μ)) (aA o 6)) args s 0 0 (aA o 6)) (F0 m 0 ls []) := by
  intro a1 u0 H locs ls P hl h
  have hx := C.1.1
  have hb := C.1.2.1
  unfold w_X10_addPool at h
  refine lv_iload_n hx hb dX10_addPool_0 rfl (lv_at hl 1 rfl) ?_
  refine lv_iconst (v := 1) hx hb dX10_addPool_1 (by decide) ?_
  refine lv_bipush (v := 40) hx hb dX10_addPool_2 (by decide) ?_
  refine r_calli (F := EM cA o) (va_runS (As := [.int a1, .int (1 : Int32), .int (40 : Int32)]) (rest := []) C.1 (c_X10_in l D cA o _ _ _ u0 _ h) (va_cwS 3 C.1.2.2.2.2 gX10_addPool_X10_in rfl rfl rfl (by decide +kernel) ⟨Nat.le_of_ble_eq_true rfl, Nat.le_of_ble_eq_true rfl⟩) (r_pre C P [.int a1, .int (1 : Int32), .int (40 : Int32)]) rfl rfl hl.1 rfl (lv_room (Nat.le_of_ble_eq_true rfl)) dX10_addPool_4 ⟨Nat.le_of_ble_eq_true rfl, Nat.le_of_ble_eq_true rfl⟩) P.2 (fun r2 u1 H locs h P => ?_)
  refine lv_if_ne (tgt := 13) hx hb dX10_addPool_7 (by decide) (fun c3 => ?_) (fun c3 => ?_)
  · have h := ite_f h c3
    refine lv_aload_n hx hb dX10_addPool_13 rfl (lv_at hl 0 rfl) ?_
    refine g_10_0 C P in_X10_addPool_10 wd_X10_addPool_1 dX10_addPool_14 ?_
    refine lv_iconst (v := 4) hx hb dX10_addPool_17 (by decide) ?_
    refine mld_1 C P (by unfold vp_in; decide) dX10_addPool_18 ?_
    refine lv_iconst (v := 4) hx hb dX10_addPool_19 (by decide) ?_
    refine lv_icmp_ne (tgt := 26) hx hb dX10_addPool_20 (by decide) (fun c4 => ?_) (fun c4 => ?_)
    · have h := ite_f h c4
      refine lv_aload_n hx hb dX10_addPool_26 rfl (lv_at hl 0 rfl) ?_
      refine r_callv (F := EM cA o) (va_runV (As := []) (rest := []) C.1 (c_X10_begin l D cA o u1 _ h) (cwV 0 C.1.2.2.2.2 gX10_addPool_X10_begin rfl rfl rfl (by decide +kernel) ⟨Nat.le_of_ble_eq_true rfl, Nat.le_of_ble_eq_true rfl⟩) (r_preV C P [] (ci := 10) rfl (by decide) EKM_0) rfl rfl hl.1 rfl (lv_room (Nat.le_of_ble_eq_true rfl)) dX10_addPool_27 ⟨Nat.le_of_ble_eq_true rfl, Nat.le_of_ble_eq_true rfl⟩) P.2 (fun u5 H locs h P => ?_)
      refine lv_sipush (v := 424) hx hb dX10_addPool_30 (by decide) ?_
      refine lv_iconst (v := 3) hx hb dX10_addPool_33 (by decide) ?_
      refine lv_aload_n hx hb dX10_addPool_34 rfl (lv_at hl 0 rfl) ?_
      refine g_10_0 C P in_X10_addPool_10 wd_X10_addPool_1 dX10_addPool_35 ?_
      refine lv_iconst (v := 4) hx hb dX10_addPool_38 (by decide) ?_
      refine mld_1 C P (by unfold vp_in; decide) dX10_addPool_39 ?_
      refine lv_imul hx hb dX10_addPool_40 ?_
      refine lv_iadd hx hb dX10_addPool_41 ?_
      refine lv_istore_n (lv' := [(2, .int ((424 : Int32) + ((3 : Int32) * (u5 1 (4 : Int32).toNatClampNeg)))), (0, .ref (o + 0)), (1, .int a1)]) hx hb dX10_addPool_42 rfl hl (by decide) rfl (fun ls hl => ?_)
      refine lv_aload_n hx hb dX10_addPool_43 rfl (lv_at hl 1 rfl) ?_
      refine g_10_0 C P in_X10_addPool_10 wd_X10_addPool_1 dX10_addPool_44 ?_
      refine lv_iload_n hx hb dX10_addPool_47 rfl (lv_at hl 0 rfl) ?_
      refine lv_iconst (v := 0) hx hb dX10_addPool_48 (by decide) ?_
      obtain ⟨hi, h⟩ := h
      refine mst_1 C P hi dX10_addPool_49 (fun u7 eu7 H locs P => ?_)
      have h := h u7 eu7
      refine lv_aload_n hx hb dX10_addPool_50 rfl (lv_at hl 1 rfl) ?_
      refine g_10_0 C P in_X10_addPool_10 wd_X10_addPool_1 dX10_addPool_51 ?_
      refine lv_iload_n hx hb dX10_addPool_54 rfl (lv_at hl 0 rfl) ?_
      refine lv_iconst (v := 1) hx hb dX10_addPool_55 (by decide) ?_
      refine lv_iadd hx hb dX10_addPool_56 ?_
      refine lv_iload_n hx hb dX10_addPool_57 rfl (lv_at hl 2 rfl) ?_
      obtain ⟨hi, h⟩ := h
      refine mst_1 C P hi dX10_addPool_58 (fun u8 eu8 H locs P => ?_)
      have h := h u8 eu8
      refine lv_aload_n hx hb dX10_addPool_59 rfl (lv_at hl 1 rfl) ?_
      refine g_10_0 C P in_X10_addPool_10 wd_X10_addPool_1 dX10_addPool_60 ?_
      refine lv_iload_n hx hb dX10_addPool_63 rfl (lv_at hl 0 rfl) ?_
      refine lv_iconst (v := 2) hx hb dX10_addPool_64 (by decide) ?_
      refine lv_iadd hx hb dX10_addPool_65 ?_
      refine lv_iconst (v := 0) hx hb dX10_addPool_66 (by decide) ?_
      obtain ⟨hi, h⟩ := h
      refine mst_1 C P hi dX10_addPool_67 (fun u9 eu9 H locs P => ?_)
      have h := h u9 eu9
      refine lv_aload_n hx hb dX10_addPool_68 rfl (lv_at hl 1 rfl) ?_
      refine g_10_0 C P in_X10_addPool_10 wd_X10_addPool_1 dX10_addPool_69 ?_
      refine lv_iconst (v := 4) hx hb dX10_addPool_72 (by decide) ?_
      refine lv_dup2_11 hx hb dX10_addPool_73 rfl rfl ?_
      refine mld_1 C P (by unfold vp_in; decide) dX10_addPool_74 ?_
      refine lv_iconst (v := 1) hx hb dX10_addPool_75 (by decide) ?_
      refine lv_iadd hx hb dX10_addPool_76 ?_
      refine mst_1 C P (by unfold vp_in; decide) dX10_addPool_77 (fun u10 eu10 H locs P => ?_)
      have h := h u10 eu10
      refine lv_aload_n hx hb dX10_addPool_78 rfl (lv_at hl 1 rfl) ?_
      refine lv_aload_n hx hb dX10_addPool_79 rfl (lv_at hl 1 rfl) ?_
      refine g_10_0 C P in_X10_addPool_10 wd_X10_addPool_1 dX10_addPool_80 ?_
      refine lv_iconst (v := 4) hx hb dX10_addPool_83 (by decide) ?_
      refine mld_1 C P (by unfold vp_in; decide) dX10_addPool_84 ?_
      refine lv_iconst (v := 1) hx hb dX10_addPool_85 (by decide) ?_
      refine lv_isub hx hb dX10_addPool_86 ?_
      refine r_calli (F := EM cA o) (va_runV (As := [.int ((u10 1 (4 : Int32).toNatClampNeg) - (1 : Int32))]) (rest := []) C.1 (c_X10_done l D cA o _ u10 _ h) (cwV 1 C.1.2.2.2.2 gX10_addPool_X10_done rfl rfl rfl (by decide +kernel) ⟨Nat.le_of_ble_eq_true rfl, Nat.le_of_ble_eq_true rfl⟩) (r_preV C P [.int ((u10 1 (4 : Int32).toNatClampNeg) - (1 : Int32))] (ci := 10) rfl (by decide) EKM_0) rfl rfl hl.1 rfl (lv_room (Nat.le_of_ble_eq_true rfl)) dX10_addPool_87 ⟨Nat.le_of_ble_eq_true rfl, Nat.le_of_ble_eq_true rfl⟩) P.2 (fun r12 u11 H locs h P => ?_)
      exact r_ireti C P h dX10_addPool_90
    · have h := ite_t h c4
      refine lv_bipush (v := -3) hx hb dX10_addPool_23 (by decide) ?_
      exact r_ireti C P h dX10_addPool_25
  · have h := ite_t h c3
    refine lv_bipush (v := -2) hx hb dX10_addPool_10 (by decide) ?_
    exact r_ireti C P h dX10_addPool_12
set_option maxHeartbeats 4000000 in
set_option maxRecDepth 100000 in
theorem c_X10_addPool (l : Launch) (D : va_G) (cA : Nat → ClassId) (o : Nat) (a1 : Int32)  (u0 : Mm) (Φ : Int32 → Mm → Prop) (h : w_X10_addPool a1 u0 Φ) : Met l yX10_addPool wsX10_addPool rm_X10_addPool (va_Pc [.ref (o + 0), .int a1] (Wd 6 o D (tysL cA) (EM cA o u0))) (Qg vI Φ (fun μ => Wd 6 o D (tysL cA) (EM cA o μ)) (aA o 6)) 0 0 (aA o 6) := by
  refine Met.ofW (cc := cX10_addPool) (maxL := 3) (ret := (some .int)) (by decide) rfl ?_
  intro p e s m args below meth c s₁ B hml hv
  obtain ⟨rfl, hv⟩ := hv
  have hl := lv_entry ([.ref (o + 0), .int a1]) (n := 3) (Nat.le_of_ble_eq_true rfl)
  rw [lg_entry_eq]
  exact t_X10_addPool_0 ⟨⟨B.exec, B.bytes, hml, findClass_of_methodNamed B.named, atoms_spec (ws := wsX10_addPool) B.pre⟩, B.returns, B.notSynchronized, hv.2⟩ a1 u0 _ _ _ ⟨hv.1, va_S.rf⟩ hl h
abbrev rm_X10_credit : Room := { frames := 2, cells := 0, slots := 0, locals := 43 }
theorem wd_X10_credit_1 : Cond.constant RX10 59 (100000) ∈ wsX10_credit := List.mem_of_getElem? (i := 1) (by decide +kernel)
theorem wd_X10_credit_2 : Cond.fieldLink RX10 7 "TurnstileBankModel" "row" "[I" ∈ wsX10_credit := List.mem_of_getElem? (i := 2) (by decide +kernel)
theorem wd_X10_credit_3 : Cond.constant RX10 60 (1000000) ∈ wsX10_credit := List.mem_of_getElem? (i := 3) (by decide +kernel)
theorem in_X10_credit_10 : ∀ w ∈ wsX100, w ∈ wsX10_credit := fun w h => List.mem_cons_of_mem _ (List.mem_append_right _ h)
def w_X10_credit (a1 : Int32) (a2 : Int32) (u0 : Mm) (Φ : Int32 → Mm → Prop) : Prop := (w_X10_noPool a1 u0 (fun r2 u1 => (if r2 = 0 then (w_X10_in a2 ((1 : Int32)) ((100000 : Int32)) u1 (fun r5 u4 => (if r5 = 0 then (Φ ((-2 : Int32)) u4) else (vp_in ((424 : Int32) + ((3 : Int32) * a1)) 516 ∧ (if ((u4 1 ((424 : Int32) + ((3 : Int32) * a1)).toNatClampNeg) + a2) ≤ (1000000 : Int32) then (w_X10_begin u4 (fun _ u8 => (vp_in ((424 : Int32) + ((3 : Int32) * a1)) 516 ∧ (vp_in ((424 : Int32) + ((3 : Int32) * a1)) 516 ∧ ∀ u10 : Mm, u10 = up2 u8 1 ((424 : Int32) + ((3 : Int32) * a1)).toNatClampNeg ((u8 1 ((424 : Int32) + ((3 : Int32) * a1)).toNatClampNeg) + a2) → (vp_in ((424 : Int32) + ((3 : Int32) * a1)) 516 ∧ (w_X10_done ((u10 1 ((424 : Int32) + ((3 : Int32) * a1)).toNatClampNeg)) u10 (fun r12 u11 => (Φ r12 u11)))))))) else (Φ ((-4 : Int32)) u4)))))) else (Φ ((-1 : Int32)) u1))))
set_option maxHeartbeats 4000000 in
set_option maxRecDepth 100000 in
theorem t_X10_credit_0 {p : Program} {l : Launch} {e : Env} {s : State} {m : MethodId} {args : Array Value} {below : List Frame} {meth : Method} {c : Code} {D : va_G} {cA : Nat → ClassId} {o : Nat}  {Φ : Int32 → Mm → Prop} (C : Cx p m meth c s args cX10_credit 3 wsX10_credit RX10 (some .int) D (tysL cA)) : ∀ (a1 : Int32) (a2 : Int32) (u0 : Mm), ∀ (H : Heap) (locs : List Loc) (ls : Array Slot), Hp 6 o D (EM cA o u0) s H locs → lv_has ls 3 [(0, .ref (o + 0)), (1, .int a1), (2, .int a2)] → w_X10_credit a1 a2 u0 Φ → W p l e rm_X10_credit s m args below meth c H locs 0 0 (MQ below (Qg vI Φ (fun μ => Wd 6 o D (tysL cA) (EM cA o μ)) (aA o 6)) args s 0 0 (aA o 6)) (F0 m 0 ls []) := by
  intro a1 a2 u0 H locs ls P hl h
  have hx := C.1.1
  have hb := C.1.2.1
  unfold w_X10_credit at h
  refine lv_aload_n hx hb dX10_credit_0 rfl (lv_at hl 0 rfl) ?_
  refine lv_iload_n hx hb dX10_credit_1 rfl (lv_at hl 1 rfl) ?_
  refine r_calli (F := EM cA o) (va_runV (As := [.int a1]) (rest := []) C.1 (c_X10_noPool l D cA o _ u0 _ h) (cwV 1 C.1.2.2.2.2 gX10_credit_X10_noPool rfl rfl rfl (by decide +kernel) ⟨Nat.le_of_ble_eq_true rfl, Nat.le_of_ble_eq_true rfl⟩) (r_preV C P [.int a1] (ci := 10) rfl (by decide) EKM_0) rfl rfl hl.1 rfl (lv_room (Nat.le_of_ble_eq_true rfl)) dX10_credit_2 ⟨Nat.le_of_ble_eq_true rfl, Nat.le_of_ble_eq_true rfl⟩) P.2 (fun r2 u1 H locs h P => ?_)
  refine lv_if_eq (tgt := 10) hx hb dX10_credit_5 (by decide) (fun c3 => ?_) (fun c3 => ?_)
  · have h := ite_t h c3
    refine lv_iload_n hx hb dX10_credit_10 rfl (lv_at hl 2 rfl) ?_
    refine lv_iconst (v := 1) hx hb dX10_credit_11 (by decide) ?_
    refine lv_ldc (v := 100000) hx hb C.1.2.2.2.1 (C.1.2.2.2.2 _ wd_X10_credit_1) dX10_credit_12 ?_
    refine r_calli (F := EM cA o) (va_runS (As := [.int a2, .int (1 : Int32), .int (100000 : Int32)]) (rest := []) C.1 (c_X10_in l D cA o _ _ _ u1 _ h) (va_cwS 3 C.1.2.2.2.2 gX10_credit_X10_in rfl rfl rfl (by decide +kernel) ⟨Nat.le_of_ble_eq_true rfl, Nat.le_of_ble_eq_true rfl⟩) (r_pre C P [.int a2, .int (1 : Int32), .int (100000 : Int32)]) rfl rfl hl.1 rfl (lv_room (Nat.le_of_ble_eq_true rfl)) dX10_credit_14 ⟨Nat.le_of_ble_eq_true rfl, Nat.le_of_ble_eq_true rfl⟩) P.2 (fun r5 u4 H locs h P => ?_)
    refine lv_if_ne (tgt := 23) hx hb dX10_credit_17 (by decide) (fun c6 => ?_) (fun c6 => ?_)
    · have h := ite_f h c6
      refine lv_aload_n hx hb dX10_credit_23 rfl (lv_at hl 0 rfl) ?_
      refine g_10_0 C P in_X10_credit_10 wd_X10_credit_2 dX10_credit_24 ?_
      refine lv_sipush (v := 424) hx hb dX10_credit_27 (by decide) ?_
      refine lv_iconst (v := 3) hx hb dX10_credit_30 (by decide) ?_
      refine lv_iload_n hx hb dX10_credit_31 rfl (lv_at hl 1 rfl) ?_
      refine lv_imul hx hb dX10_credit_32 ?_
      refine lv_iadd hx hb dX10_credit_33 ?_
      obtain ⟨hi, h⟩ := h
      refine mld_1 C P hi dX10_credit_34 ?_
      refine lv_iload_n hx hb dX10_credit_35 rfl (lv_at hl 2 rfl) ?_
      refine lv_iadd hx hb dX10_credit_36 ?_
      refine lv_ldc (v := 1000000) hx hb C.1.2.2.2.1 (C.1.2.2.2.2 _ wd_X10_credit_3) dX10_credit_37 ?_
      refine lv_icmp_le (tgt := 45) hx hb dX10_credit_39 (by decide) (fun c7 => ?_) (fun c7 => ?_)
      · have h := ite_t h c7
        refine lv_aload_n hx hb dX10_credit_45 rfl (lv_at hl 0 rfl) ?_
        refine r_callv (F := EM cA o) (va_runV (As := []) (rest := []) C.1 (c_X10_begin l D cA o u4 _ h) (cwV 0 C.1.2.2.2.2 gX10_credit_X10_begin rfl rfl rfl (by decide +kernel) ⟨Nat.le_of_ble_eq_true rfl, Nat.le_of_ble_eq_true rfl⟩) (r_preV C P [] (ci := 10) rfl (by decide) EKM_0) rfl rfl hl.1 rfl (lv_room (Nat.le_of_ble_eq_true rfl)) dX10_credit_46 ⟨Nat.le_of_ble_eq_true rfl, Nat.le_of_ble_eq_true rfl⟩) P.2 (fun u8 H locs h P => ?_)
        refine lv_aload_n hx hb dX10_credit_49 rfl (lv_at hl 0 rfl) ?_
        refine g_10_0 C P in_X10_credit_10 wd_X10_credit_2 dX10_credit_50 ?_
        refine lv_sipush (v := 424) hx hb dX10_credit_53 (by decide) ?_
        refine lv_iconst (v := 3) hx hb dX10_credit_56 (by decide) ?_
        refine lv_iload_n hx hb dX10_credit_57 rfl (lv_at hl 1 rfl) ?_
        refine lv_imul hx hb dX10_credit_58 ?_
        refine lv_iadd hx hb dX10_credit_59 ?_
        refine lv_dup2_11 hx hb dX10_credit_60 rfl rfl ?_
        obtain ⟨hi, h⟩ := h
        refine mld_1 C P hi dX10_credit_61 ?_
        refine lv_iload_n hx hb dX10_credit_62 rfl (lv_at hl 2 rfl) ?_
        refine lv_iadd hx hb dX10_credit_63 ?_
        obtain ⟨hi, h⟩ := h
        refine mst_1 C P hi dX10_credit_64 (fun u10 eu10 H locs P => ?_)
        have h := h u10 eu10
        refine lv_aload_n hx hb dX10_credit_65 rfl (lv_at hl 0 rfl) ?_
        refine lv_aload_n hx hb dX10_credit_66 rfl (lv_at hl 0 rfl) ?_
        refine g_10_0 C P in_X10_credit_10 wd_X10_credit_2 dX10_credit_67 ?_
        refine lv_sipush (v := 424) hx hb dX10_credit_70 (by decide) ?_
        refine lv_iconst (v := 3) hx hb dX10_credit_73 (by decide) ?_
        refine lv_iload_n hx hb dX10_credit_74 rfl (lv_at hl 1 rfl) ?_
        refine lv_imul hx hb dX10_credit_75 ?_
        refine lv_iadd hx hb dX10_credit_76 ?_
        obtain ⟨hi, h⟩ := h
        refine mld_1 C P hi dX10_credit_77 ?_
        refine r_calli (F := EM cA o) (va_runV (As := [.int (u10 1 ((424 : Int32) + ((3 : Int32) * a1)).toNatClampNeg)]) (rest := []) C.1 (c_X10_done l D cA o _ u10 _ h) (cwV 1 C.1.2.2.2.2 gX10_credit_X10_done rfl rfl rfl (by decide +kernel) ⟨Nat.le_of_ble_eq_true rfl, Nat.le_of_ble_eq_true rfl⟩) (r_preV C P [.int (u10 1 ((424 : Int32) + ((3 : Int32) * a1)).toNatClampNeg)] (ci := 10) rfl (by decide) EKM_0) rfl rfl hl.1 rfl (lv_room (Nat.le_of_ble_eq_true rfl)) dX10_credit_78 ⟨Nat.le_of_ble_eq_true rfl, Nat.le_of_ble_eq_true rfl⟩) P.2 (fun r12 u11 H locs h P => ?_)
        exact r_ireti C P h dX10_credit_81
      · have h := ite_f h c7
        refine lv_bipush (v := -4) hx hb dX10_credit_42 (by decide) ?_
        exact r_ireti C P h dX10_credit_44
    · have h := ite_t h c6
      refine lv_bipush (v := -2) hx hb dX10_credit_20 (by decide) ?_
      exact r_ireti C P h dX10_credit_22
  · have h := ite_f h c3
    refine lv_iconst (v := -1) hx hb dX10_credit_8 (by decide) ?_
    exact r_ireti C P h dX10_credit_9
set_option maxHeartbeats 4000000 in
set_option maxRecDepth 100000 in
theorem c_X10_credit (l : Launch) (D : va_G) (cA : Nat → ClassId) (o : Nat) (a1 : Int32) (a2 : Int32)  (u0 : Mm) (Φ : Int32 → Mm → Prop) (h : w_X10_credit a1 a2 u0 Φ) : Met l yX10_credit wsX10_credit rm_X10_credit (va_Pc [.ref (o + 0), .int a1, .int a2] (Wd 6 o D (tysL cA) (EM cA o u0))) (Qg vI Φ (fun μ => Wd 6 o D (tysL cA) (EM cA o μ)) (aA o 6)) 0 0 (aA o 6) := by
  refine Met.ofW (cc := cX10_credit) (maxL := 3) (ret := (some .int)) (by decide) rfl ?_
  intro p e s m args below meth c s₁ B hml hv
  obtain ⟨rfl, hv⟩ := hv
  have hl := lv_entry ([.ref (o + 0), .int a1, .int a2]) (n := 3) (Nat.le_of_ble_eq_true rfl)
  rw [lg_entry_eq]
  exact t_X10_credit_0 ⟨⟨B.exec, B.bytes, hml, findClass_of_methodNamed B.named, atoms_spec (ws := wsX10_credit) B.pre⟩, B.returns, B.notSynchronized, hv.2⟩ a1 a2 u0 _ _ _ ⟨hv.1, va_S.rf⟩ hl h
abbrev rm_X10_addPass : Room := { frames := 2, cells := 0, slots := 0, locals := 43 }
theorem wd_X10_addPass_1 : Cond.fieldLink RX10 7 "TurnstileBankModel" "row" "[I" ∈ wsX10_addPass := List.mem_of_getElem? (i := 1) (by decide +kernel)
theorem in_X10_addPass_10 : ∀ w ∈ wsX100, w ∈ wsX10_addPass := fun w h => List.mem_cons_of_mem _ (List.mem_append_right _ h)
def w_X10_addPass (a1 : Int32) (u0 : Mm) (Φ : Int32 → Mm → Prop) : Prop := (w_X10_noPool a1 u0 (fun r2 u1 => (if r2 = 0 then (if (u1 1 (3 : Int32).toNatClampNeg) = (12 : Int32) then (Φ ((-3 : Int32)) u1) else (w_X10_begin u1 (fun _ u5 => (vp_in ((400 : Int32) + ((2 : Int32) * (u5 1 (3 : Int32).toNatClampNeg))) 516 ∧ ∀ u7 : Mm, u7 = up2 u5 1 ((400 : Int32) + ((2 : Int32) * (u5 1 (3 : Int32).toNatClampNeg))).toNatClampNeg a1 → (vp_in (((400 : Int32) + ((2 : Int32) * (u7 1 (3 : Int32).toNatClampNeg))) + (1 : Int32)) 516 ∧ ∀ u8 : Mm, u8 = up2 u7 1 (((400 : Int32) + ((2 : Int32) * (u7 1 (3 : Int32).toNatClampNeg))) + (1 : Int32)).toNatClampNeg (0 : Int32) → (∀ u9 : Mm, u9 = up2 u8 1 (3 : Int32).toNatClampNeg ((u8 1 (3 : Int32).toNatClampNeg) + (1 : Int32)) → (w_X10_done (((u9 1 (3 : Int32).toNatClampNeg) - (1 : Int32))) u9 (fun r11 u10 => (Φ r11 u10))))))))) else (Φ ((-1 : Int32)) u1))))
set_option maxHeartbeats 4000000 in
set_option maxRecDepth 100000 in
theorem t_X10_addPass_0 {p : Program} {l : Launch} {e : Env} {s : State} {m : MethodId} {args : Array Value} {below : List Frame} {meth : Method} {c : Code} {D : va_G} {cA : Nat → ClassId} {o : Nat}  {Φ : Int32 → Mm → Prop} (C : Cx p m meth c s args cX10_addPass 2 wsX10_addPass RX10 (some .int) D (tysL cA)) : ∀ (a1 : Int32) (u0 : Mm), ∀ (H : Heap) (locs : List Loc) (ls : Array Slot), Hp 6 o D (EM cA o u0) s H locs → lv_has ls 2 [(0, .ref (o + 0)), (1, .int a1)] → w_X10_addPass a1 u0 Φ → W p l e rm_X10_addPass s m args below meth c H locs 0 0 (MQ below (Qg vI Φ (fun μ => Wd 6 o D (tysL cA) (EM cA o μ)) (aA o 6)) args s 0 0 (aA o 6)) (F0 m 0 ls []) := by
  intro a1 u0 H locs ls P hl h
  have hx := C.1.1
  have hb := C.1.2.1
  unfold w_X10_addPass at h
  refine lv_aload_n hx hb dX10_addPass_0 rfl (lv_at hl 0 rfl) ?_
  refine lv_iload_n hx hb dX10_addPass_1 rfl (lv_at hl 1 rfl) ?_
  refine r_calli (F := EM cA o) (va_runV (As := [.int a1]) (rest := []) C.1 (c_X10_noPool l D cA o _ u0 _ h) (cwV 1 C.1.2.2.2.2 gX10_addPass_X10_noPool rfl rfl rfl (by decide +kernel) ⟨Nat.le_of_ble_eq_true rfl, Nat.le_of_ble_eq_true rfl⟩) (r_preV C P [.int a1] (ci := 10) rfl (by decide) EKM_0) rfl rfl hl.1 rfl (lv_room (Nat.le_of_ble_eq_true rfl)) dX10_addPass_2 ⟨Nat.le_of_ble_eq_true rfl, Nat.le_of_ble_eq_true rfl⟩) P.2 (fun r2 u1 H locs h P => ?_)
  refine lv_if_eq (tgt := 10) hx hb dX10_addPass_5 (by decide) (fun c3 => ?_) (fun c3 => ?_)
  · have h := ite_t h c3
    refine lv_aload_n hx hb dX10_addPass_10 rfl (lv_at hl 0 rfl) ?_
    refine g_10_0 C P in_X10_addPass_10 wd_X10_addPass_1 dX10_addPass_11 ?_
    refine lv_iconst (v := 3) hx hb dX10_addPass_14 (by decide) ?_
    refine mld_1 C P (by unfold vp_in; decide) dX10_addPass_15 ?_
    refine lv_bipush (v := 12) hx hb dX10_addPass_16 (by decide) ?_
    refine lv_icmp_ne (tgt := 24) hx hb dX10_addPass_18 (by decide) (fun c4 => ?_) (fun c4 => ?_)
    · have h := ite_f h c4
      refine lv_aload_n hx hb dX10_addPass_24 rfl (lv_at hl 0 rfl) ?_
      refine r_callv (F := EM cA o) (va_runV (As := []) (rest := []) C.1 (c_X10_begin l D cA o u1 _ h) (cwV 0 C.1.2.2.2.2 gX10_addPass_X10_begin rfl rfl rfl (by decide +kernel) ⟨Nat.le_of_ble_eq_true rfl, Nat.le_of_ble_eq_true rfl⟩) (r_preV C P [] (ci := 10) rfl (by decide) EKM_0) rfl rfl hl.1 rfl (lv_room (Nat.le_of_ble_eq_true rfl)) dX10_addPass_25 ⟨Nat.le_of_ble_eq_true rfl, Nat.le_of_ble_eq_true rfl⟩) P.2 (fun u5 H locs h P => ?_)
      refine lv_aload_n hx hb dX10_addPass_28 rfl (lv_at hl 0 rfl) ?_
      refine g_10_0 C P in_X10_addPass_10 wd_X10_addPass_1 dX10_addPass_29 ?_
      refine lv_sipush (v := 400) hx hb dX10_addPass_32 (by decide) ?_
      refine lv_iconst (v := 2) hx hb dX10_addPass_35 (by decide) ?_
      refine lv_aload_n hx hb dX10_addPass_36 rfl (lv_at hl 0 rfl) ?_
      refine g_10_0 C P in_X10_addPass_10 wd_X10_addPass_1 dX10_addPass_37 ?_
      refine lv_iconst (v := 3) hx hb dX10_addPass_40 (by decide) ?_
      refine mld_1 C P (by unfold vp_in; decide) dX10_addPass_41 ?_
      refine lv_imul hx hb dX10_addPass_42 ?_
      refine lv_iadd hx hb dX10_addPass_43 ?_
      refine lv_iload_n hx hb dX10_addPass_44 rfl (lv_at hl 1 rfl) ?_
      obtain ⟨hi, h⟩ := h
      refine mst_1 C P hi dX10_addPass_45 (fun u7 eu7 H locs P => ?_)
      have h := h u7 eu7
      refine lv_aload_n hx hb dX10_addPass_46 rfl (lv_at hl 0 rfl) ?_
      refine g_10_0 C P in_X10_addPass_10 wd_X10_addPass_1 dX10_addPass_47 ?_
      refine lv_sipush (v := 400) hx hb dX10_addPass_50 (by decide) ?_
      refine lv_iconst (v := 2) hx hb dX10_addPass_53 (by decide) ?_
      refine lv_aload_n hx hb dX10_addPass_54 rfl (lv_at hl 0 rfl) ?_
      refine g_10_0 C P in_X10_addPass_10 wd_X10_addPass_1 dX10_addPass_55 ?_
      refine lv_iconst (v := 3) hx hb dX10_addPass_58 (by decide) ?_
      refine mld_1 C P (by unfold vp_in; decide) dX10_addPass_59 ?_
      refine lv_imul hx hb dX10_addPass_60 ?_
      refine lv_iadd hx hb dX10_addPass_61 ?_
      refine lv_iconst (v := 1) hx hb dX10_addPass_62 (by decide) ?_
      refine lv_iadd hx hb dX10_addPass_63 ?_
      refine lv_iconst (v := 0) hx hb dX10_addPass_64 (by decide) ?_
      obtain ⟨hi, h⟩ := h
      refine mst_1 C P hi dX10_addPass_65 (fun u8 eu8 H locs P => ?_)
      have h := h u8 eu8
      refine lv_aload_n hx hb dX10_addPass_66 rfl (lv_at hl 0 rfl) ?_
      refine g_10_0 C P in_X10_addPass_10 wd_X10_addPass_1 dX10_addPass_67 ?_
      refine lv_iconst (v := 3) hx hb dX10_addPass_70 (by decide) ?_
      refine lv_dup2_11 hx hb dX10_addPass_71 rfl rfl ?_
      refine mld_1 C P (by unfold vp_in; decide) dX10_addPass_72 ?_
      refine lv_iconst (v := 1) hx hb dX10_addPass_73 (by decide) ?_
      refine lv_iadd hx hb dX10_addPass_74 ?_
      refine mst_1 C P (by unfold vp_in; decide) dX10_addPass_75 (fun u9 eu9 H locs P => ?_)
      have h := h u9 eu9
      refine lv_aload_n hx hb dX10_addPass_76 rfl (lv_at hl 0 rfl) ?_
      refine lv_aload_n hx hb dX10_addPass_77 rfl (lv_at hl 0 rfl) ?_
      refine g_10_0 C P in_X10_addPass_10 wd_X10_addPass_1 dX10_addPass_78 ?_
      refine lv_iconst (v := 3) hx hb dX10_addPass_81 (by decide) ?_
      refine mld_1 C P (by unfold vp_in; decide) dX10_addPass_82 ?_
      refine lv_iconst (v := 1) hx hb dX10_addPass_83 (by decide) ?_
      refine lv_isub hx hb dX10_addPass_84 ?_
      refine r_calli (F := EM cA o) (va_runV (As := [.int ((u9 1 (3 : Int32).toNatClampNeg) - (1 : Int32))]) (rest := []) C.1 (c_X10_done l D cA o _ u9 _ h) (cwV 1 C.1.2.2.2.2 gX10_addPass_X10_done rfl rfl rfl (by decide +kernel) ⟨Nat.le_of_ble_eq_true rfl, Nat.le_of_ble_eq_true rfl⟩) (r_preV C P [.int ((u9 1 (3 : Int32).toNatClampNeg) - (1 : Int32))] (ci := 10) rfl (by decide) EKM_0) rfl rfl hl.1 rfl (lv_room (Nat.le_of_ble_eq_true rfl)) dX10_addPass_85 ⟨Nat.le_of_ble_eq_true rfl, Nat.le_of_ble_eq_true rfl⟩) P.2 (fun r11 u10 H locs h P => ?_)
      exact r_ireti C P h dX10_addPass_88
    · have h := ite_t h c4
      refine lv_bipush (v := -3) hx hb dX10_addPass_21 (by decide) ?_
      exact r_ireti C P h dX10_addPass_23
  · have h := ite_f h c3
    refine lv_iconst (v := -1) hx hb dX10_addPass_8 (by decide) ?_
    exact r_ireti C P h dX10_addPass_9
set_option maxHeartbeats 4000000 in
set_option maxRecDepth 100000 in
theorem c_X10_addPass (l : Launch) (D : va_G) (cA : Nat → ClassId) (o : Nat) (a1 : Int32)  (u0 : Mm) (Φ : Int32 → Mm → Prop) (h : w_X10_addPass a1 u0 Φ) : Met l yX10_addPass wsX10_addPass rm_X10_addPass (va_Pc [.ref (o + 0), .int a1] (Wd 6 o D (tysL cA) (EM cA o u0))) (Qg vI Φ (fun μ => Wd 6 o D (tysL cA) (EM cA o μ)) (aA o 6)) 0 0 (aA o 6) := by
  refine Met.ofW (cc := cX10_addPass) (maxL := 2) (ret := (some .int)) (by decide) rfl ?_
  intro p e s m args below meth c s₁ B hml hv
  obtain ⟨rfl, hv⟩ := hv
  have hl := lv_entry ([.ref (o + 0), .int a1]) (n := 2) (Nat.le_of_ble_eq_true rfl)
  rw [lg_entry_eq]
  exact t_X10_addPass_0 ⟨⟨B.exec, B.bytes, hml, findClass_of_methodNamed B.named, atoms_spec (ws := wsX10_addPass) B.pre⟩, B.returns, B.notSynchronized, hv.2⟩ a1 u0 _ _ _ ⟨hv.1, va_S.rf⟩ hl h
abbrev rm_X10_block : Room := { frames := 2, cells := 0, slots := 0, locals := 43 }
theorem wd_X10_block_1 : Cond.fieldLink RX10 7 "TurnstileBankModel" "row" "[I" ∈ wsX10_block := List.mem_of_getElem? (i := 1) (by decide +kernel)
theorem in_X10_block_10 : ∀ w ∈ wsX100, w ∈ wsX10_block := fun w h => List.mem_cons_of_mem _ (List.mem_append_right _ h)
def w_X10_block_66  (Φ : Int32 → Mm → Prop) : Nat → Int32 → Int32 → Mm → Prop
  | 0, _, _, _ => False
  | n + 1, x4, x5, u0 => (if (u0 1 (3 : Int32).toNatClampNeg) ≤ x5 then (w_X10_done x4 u0 (fun r11 u10 => (Φ r11 u10))) else (vp_in (((400 : Int32) + ((2 : Int32) * x5)) + (1 : Int32)) 516 ∧ (w_X10_block_66 Φ n ((x4 + (u0 1 (((400 : Int32) + ((2 : Int32) * x5)) + (1 : Int32)).toNatClampNeg))) ((x5 + 1)) u0)))
set_option maxHeartbeats 4000000 in
set_option maxRecDepth 100000 in
theorem t_X10_block_66 {p : Program} {l : Launch} {e : Env} {s : State} {m : MethodId} {args : Array Value} {below : List Frame} {meth : Method} {c : Code} {D : va_G} {cA : Nat → ClassId} {o : Nat}  {Φ : Int32 → Mm → Prop} (C : Cx p m meth c s args cX10_block 6 wsX10_block RX10 (some .int) D (tysL cA)) : ∀ n : Nat, ∀ (x4 : Int32) (x5 : Int32) (u0 : Mm), ∀ (H : Heap) (locs : List Loc) (ls : Array Slot), Hp 6 o D (EM cA o u0) s H locs → lv_has ls 6 [(0, .ref (o + 0)), (4, .int x4), (5, .int x5)] → w_X10_block_66 Φ n x4 x5 u0 → W p l e rm_X10_block s m args below meth c H locs 0 0 (MQ below (Qg vI Φ (fun μ => Wd 6 o D (tysL cA) (EM cA o μ)) (aA o 6)) args s 0 0 (aA o 6)) (F0 m 66 ls []) := by
  intro n
  induction n with
  | zero => intro x4 x5 u0 H locs ls P hl h; exact h.elim
  | succ n ih =>
    intro x4 x5 u0 H locs ls P hl h
    have hx := C.1.1
    have hb := C.1.2.1
    rw [w_X10_block_66] at h
    refine lv_iload hx hb dX10_block_66 (lv_at hl 2 rfl) ?_
    refine lv_aload_n hx hb dX10_block_68 rfl (lv_at hl 0 rfl) ?_
    refine g_10_0 C P in_X10_block_10 wd_X10_block_1 dX10_block_69 ?_
    refine lv_iconst (v := 3) hx hb dX10_block_72 (by decide) ?_
    refine mld_1 C P (by unfold vp_in; decide) dX10_block_73 ?_
    refine lv_icmp_ge (tgt := 103) hx hb dX10_block_74 (by decide) (fun c9 => ?_) (fun c9 => ?_)
    · have h := ite_t h c9
      refine lv_aload_n hx hb dX10_block_103 rfl (lv_at hl 0 rfl) ?_
      refine lv_iload hx hb dX10_block_104 (lv_at hl 1 rfl) ?_
      refine r_calli (F := EM cA o) (va_runV (As := [.int x4]) (rest := []) C.1 (c_X10_done l D cA o _ u0 _ h) (cwV 1 C.1.2.2.2.2 gX10_block_X10_done rfl rfl rfl (by decide +kernel) ⟨Nat.le_of_ble_eq_true rfl, Nat.le_of_ble_eq_true rfl⟩) (r_preV C P [.int x4] (ci := 10) rfl (by decide) EKM_0) rfl rfl hl.1 rfl (lv_room (Nat.le_of_ble_eq_true rfl)) dX10_block_106 ⟨Nat.le_of_ble_eq_true rfl, Nat.le_of_ble_eq_true rfl⟩) P.2 (fun r11 u10 H locs h P => ?_)
      exact r_ireti C P h dX10_block_109
    · have h := ite_f h c9
      refine lv_iload hx hb dX10_block_77 (lv_at hl 1 rfl) ?_
      refine lv_aload_n hx hb dX10_block_79 rfl (lv_at hl 0 rfl) ?_
      refine g_10_0 C P in_X10_block_10 wd_X10_block_1 dX10_block_80 ?_
      refine lv_sipush (v := 400) hx hb dX10_block_83 (by decide) ?_
      refine lv_iconst (v := 2) hx hb dX10_block_86 (by decide) ?_
      refine lv_iload hx hb dX10_block_87 (lv_at hl 2 rfl) ?_
      refine lv_imul hx hb dX10_block_89 ?_
      refine lv_iadd hx hb dX10_block_90 ?_
      refine lv_iconst (v := 1) hx hb dX10_block_91 (by decide) ?_
      refine lv_iadd hx hb dX10_block_92 ?_
      obtain ⟨hi, h⟩ := h
      refine mld_1 C P hi dX10_block_93 ?_
      refine lv_iadd hx hb dX10_block_94 ?_
      refine lv_istore (lv' := [(4, .int (x4 + (u0 1 (((400 : Int32) + ((2 : Int32) * x5)) + (1 : Int32)).toNatClampNeg))), (0, .ref (o + 0)), (5, .int x5)]) hx hb dX10_block_95 hl (by decide) rfl (fun ls hl => ?_)
      refine lv_iinc (v := (x5 + 1)) (lv' := [(5, .int (x5 + 1)), (4, .int (x4 + (u0 1 (((400 : Int32) + ((2 : Int32) * x5)) + (1 : Int32)).toNatClampNeg))), (0, .ref (o + 0))]) hx hb dX10_block_97 hl (k := 2) rfl rfl (by decide) rfl (fun ls hl => ?_)
      refine lv_goto (tgt := 66) hx hb dX10_block_100 (by decide) ?_
      exact ih _ _ u0 _ _ _ P (lv_sub hl [2, 1, 0] rfl) h
def w_X10_block_19  (Φ : Int32 → Mm → Prop) (x1 : Int32) (z0 : Int32) (u0 : Mm) : Prop := (vp_in (((400 : Int32) + ((2 : Int32) * x1)) + (1 : Int32)) 516 ∧ (if (u0 1 (((400 : Int32) + ((2 : Int32) * x1)) + (1 : Int32)).toNatClampNeg) = z0 then (Φ ((-5 : Int32)) u0) else (w_X10_begin u0 (fun _ u6 => (vp_in (((400 : Int32) + ((2 : Int32) * x1)) + (1 : Int32)) 516 ∧ ∀ u8 : Mm, u8 = up2 u6 1 (((400 : Int32) + ((2 : Int32) * x1)) + (1 : Int32)).toNatClampNeg z0 → (∃ n66 : Nat, w_X10_block_66 Φ n66 ((0 : Int32)) ((0 : Int32)) u8))))))
set_option maxHeartbeats 4000000 in
set_option maxRecDepth 100000 in
theorem t_X10_block_19 {p : Program} {l : Launch} {e : Env} {s : State} {m : MethodId} {args : Array Value} {below : List Frame} {meth : Method} {c : Code} {D : va_G} {cA : Nat → ClassId} {o : Nat}  {Φ : Int32 → Mm → Prop} (C : Cx p m meth c s args cX10_block 6 wsX10_block RX10 (some .int) D (tysL cA)) : ∀ (x1 : Int32) (z0 : Int32) (u0 : Mm), ∀ (H : Heap) (locs : List Loc) (ls : Array Slot), Hp 6 o D (EM cA o u0) s H locs → lv_has ls 6 [(0, .ref (o + 0)), (1, .int x1)] → w_X10_block_19 Φ x1 z0 u0 → W p l e rm_X10_block s m args below meth c H locs 0 0 (MQ below (Qg vI Φ (fun μ => Wd 6 o D (tysL cA) (EM cA o μ)) (aA o 6)) args s 0 0 (aA o 6)) (F0 m 19 ls [.int z0]) := by
  intro x1 z0 u0 H locs ls P hl h
  have hx := C.1.1
  have hb := C.1.2.1
  unfold w_X10_block_19 at h
  refine lv_istore_n (lv' := [(3, .int z0), (0, .ref (o + 0)), (1, .int x1)]) hx hb dX10_block_19 rfl hl (by decide) rfl (fun ls hl => ?_)
  refine lv_aload_n hx hb dX10_block_20 rfl (lv_at hl 1 rfl) ?_
  refine g_10_0 C P in_X10_block_10 wd_X10_block_1 dX10_block_21 ?_
  refine lv_sipush (v := 400) hx hb dX10_block_24 (by decide) ?_
  refine lv_iconst (v := 2) hx hb dX10_block_27 (by decide) ?_
  refine lv_iload_n hx hb dX10_block_28 rfl (lv_at hl 2 rfl) ?_
  refine lv_imul hx hb dX10_block_29 ?_
  refine lv_iadd hx hb dX10_block_30 ?_
  refine lv_iconst (v := 1) hx hb dX10_block_31 (by decide) ?_
  refine lv_iadd hx hb dX10_block_32 ?_
  obtain ⟨hi, h⟩ := h
  refine mld_1 C P hi dX10_block_33 ?_
  refine lv_iload_n hx hb dX10_block_34 rfl (lv_at hl 0 rfl) ?_
  refine lv_icmp_ne (tgt := 41) hx hb dX10_block_35 (by decide) (fun c5 => ?_) (fun c5 => ?_)
  · have h := ite_f h c5
    refine lv_aload_n hx hb dX10_block_41 rfl (lv_at hl 1 rfl) ?_
    refine r_callv (F := EM cA o) (va_runV (As := []) (rest := []) C.1 (c_X10_begin l D cA o u0 _ h) (cwV 0 C.1.2.2.2.2 gX10_block_X10_begin rfl rfl rfl (by decide +kernel) ⟨Nat.le_of_ble_eq_true rfl, Nat.le_of_ble_eq_true rfl⟩) (r_preV C P [] (ci := 10) rfl (by decide) EKM_0) rfl rfl hl.1 rfl (lv_room (Nat.le_of_ble_eq_true rfl)) dX10_block_42 ⟨Nat.le_of_ble_eq_true rfl, Nat.le_of_ble_eq_true rfl⟩) P.2 (fun u6 H locs h P => ?_)
    refine lv_aload_n hx hb dX10_block_45 rfl (lv_at hl 1 rfl) ?_
    refine g_10_0 C P in_X10_block_10 wd_X10_block_1 dX10_block_46 ?_
    refine lv_sipush (v := 400) hx hb dX10_block_49 (by decide) ?_
    refine lv_iconst (v := 2) hx hb dX10_block_52 (by decide) ?_
    refine lv_iload_n hx hb dX10_block_53 rfl (lv_at hl 2 rfl) ?_
    refine lv_imul hx hb dX10_block_54 ?_
    refine lv_iadd hx hb dX10_block_55 ?_
    refine lv_iconst (v := 1) hx hb dX10_block_56 (by decide) ?_
    refine lv_iadd hx hb dX10_block_57 ?_
    refine lv_iload_n hx hb dX10_block_58 rfl (lv_at hl 0 rfl) ?_
    obtain ⟨hi, h⟩ := h
    refine mst_1 C P hi dX10_block_59 (fun u8 eu8 H locs P => ?_)
    have h := h u8 eu8
    refine lv_iconst (v := 0) hx hb dX10_block_60 (by decide) ?_
    refine lv_istore (lv' := [(4, .int (0 : Int32)), (3, .int z0), (0, .ref (o + 0)), (1, .int x1)]) hx hb dX10_block_61 hl (by decide) rfl (fun ls hl => ?_)
    refine lv_iconst (v := 0) hx hb dX10_block_63 (by decide) ?_
    refine lv_istore (lv' := [(5, .int (0 : Int32)), (4, .int (0 : Int32)), (3, .int z0), (0, .ref (o + 0)), (1, .int x1)]) hx hb dX10_block_64 hl (by decide) rfl (fun ls hl => ?_)
    obtain ⟨n66, h⟩ := h
    exact t_X10_block_66 C n66 _ _ u8 _ _ _ P (lv_sub hl [3, 1, 0] rfl) h
  · have h := ite_t h c5
    refine lv_bipush (v := -5) hx hb dX10_block_38 (by decide) ?_
    exact r_ireti C P h dX10_block_40
def w_X10_block (a1 : Int32) (a2 : Int32) (u0 : Mm) (Φ : Int32 → Mm → Prop) : Prop := (w_X10_noPass a1 u0 (fun r2 u1 => (if r2 = 0 then (if a2 = 0 then (w_X10_block_19 Φ a1 ((0 : Int32)) u1) else (w_X10_block_19 Φ a1 ((1 : Int32)) u1)) else (Φ ((-1 : Int32)) u1))))
set_option maxHeartbeats 4000000 in
set_option maxRecDepth 100000 in
theorem t_X10_block_0 {p : Program} {l : Launch} {e : Env} {s : State} {m : MethodId} {args : Array Value} {below : List Frame} {meth : Method} {c : Code} {D : va_G} {cA : Nat → ClassId} {o : Nat}  {Φ : Int32 → Mm → Prop} (C : Cx p m meth c s args cX10_block 6 wsX10_block RX10 (some .int) D (tysL cA)) : ∀ (a1 : Int32) (a2 : Int32) (u0 : Mm), ∀ (H : Heap) (locs : List Loc) (ls : Array Slot), Hp 6 o D (EM cA o u0) s H locs → lv_has ls 6 [(0, .ref (o + 0)), (1, .int a1), (2, .int a2)] → w_X10_block a1 a2 u0 Φ → W p l e rm_X10_block s m args below meth c H locs 0 0 (MQ below (Qg vI Φ (fun μ => Wd 6 o D (tysL cA) (EM cA o μ)) (aA o 6)) args s 0 0 (aA o 6)) (F0 m 0 ls []) := by
  intro a1 a2 u0 H locs ls P hl h
  have hx := C.1.1
  have hb := C.1.2.1
  unfold w_X10_block at h
  refine lv_aload_n hx hb dX10_block_0 rfl (lv_at hl 0 rfl) ?_
  refine lv_iload_n hx hb dX10_block_1 rfl (lv_at hl 1 rfl) ?_
  refine r_calli (F := EM cA o) (va_runV (As := [.int a1]) (rest := []) C.1 (c_X10_noPass l D cA o _ u0 _ h) (cwV 1 C.1.2.2.2.2 gX10_block_X10_noPass rfl rfl rfl (by decide +kernel) ⟨Nat.le_of_ble_eq_true rfl, Nat.le_of_ble_eq_true rfl⟩) (r_preV C P [.int a1] (ci := 10) rfl (by decide) EKM_0) rfl rfl hl.1 rfl (lv_room (Nat.le_of_ble_eq_true rfl)) dX10_block_2 ⟨Nat.le_of_ble_eq_true rfl, Nat.le_of_ble_eq_true rfl⟩) P.2 (fun r2 u1 H locs h P => ?_)
  refine lv_if_eq (tgt := 10) hx hb dX10_block_5 (by decide) (fun c3 => ?_) (fun c3 => ?_)
  · have h := ite_t h c3
    refine lv_iload_n hx hb dX10_block_10 rfl (lv_at hl 2 rfl) ?_
    refine lv_if_eq (tgt := 18) hx hb dX10_block_11 (by decide) (fun c4 => ?_) (fun c4 => ?_)
    · have h := ite_t h c4
      refine lv_iconst (v := 0) hx hb dX10_block_18 (by decide) ?_
      exact t_X10_block_19 C _ _ u1 _ _ _ P (lv_sub hl [0, 1] rfl) h
    · have h := ite_f h c4
      refine lv_iconst (v := 1) hx hb dX10_block_14 (by decide) ?_
      refine lv_goto (tgt := 19) hx hb dX10_block_15 (by decide) ?_
      exact t_X10_block_19 C _ _ u1 _ _ _ P (lv_sub hl [0, 1] rfl) h
  · have h := ite_f h c3
    refine lv_iconst (v := -1) hx hb dX10_block_8 (by decide) ?_
    exact r_ireti C P h dX10_block_9
set_option maxHeartbeats 4000000 in
set_option maxRecDepth 100000 in
theorem c_X10_block (l : Launch) (D : va_G) (cA : Nat → ClassId) (o : Nat) (a1 : Int32) (a2 : Int32)  (u0 : Mm) (Φ : Int32 → Mm → Prop) (h : w_X10_block a1 a2 u0 Φ) : Met l yX10_block wsX10_block rm_X10_block (va_Pc [.ref (o + 0), .int a1, .int a2] (Wd 6 o D (tysL cA) (EM cA o u0))) (Qg vI Φ (fun μ => Wd 6 o D (tysL cA) (EM cA o μ)) (aA o 6)) 0 0 (aA o 6) := by
  refine Met.ofW (cc := cX10_block) (maxL := 6) (ret := (some .int)) (by decide) rfl ?_
  intro p e s m args below meth c s₁ B hml hv
  obtain ⟨rfl, hv⟩ := hv
  have hl := lv_entry ([.ref (o + 0), .int a1, .int a2]) (n := 6) (Nat.le_of_ble_eq_true rfl)
  rw [lg_entry_eq]
  exact t_X10_block_0 ⟨⟨B.exec, B.bytes, hml, findClass_of_methodNamed B.named, atoms_spec (ws := wsX10_block) B.pre⟩, B.returns, B.notSynchronized, hv.2⟩ a1 a2 u0 _ _ _ ⟨hv.1, va_S.rf⟩ hl h
abbrev rm_X10_setFare : Room := { frames := 2, cells := 0, slots := 0, locals := 43 }
theorem wd_X10_setFare_1 : Cond.fieldLink RX10 7 "TurnstileBankModel" "row" "[I" ∈ wsX10_setFare := List.mem_of_getElem? (i := 1) (by decide +kernel)
theorem in_X10_setFare_10 : ∀ w ∈ wsX100, w ∈ wsX10_setFare := fun w h => List.mem_cons_of_mem _ (List.mem_append_right _ h)
def w_X10_setFare (a1 : Int32) (u0 : Mm) (Φ : Int32 → Mm → Prop) : Prop := (w_X10_in a1 ((0 : Int32)) ((1000 : Int32)) u0 (fun r2 u1 => (if r2 = 0 then (Φ ((-2 : Int32)) u1) else (w_X10_begin u1 (fun _ u4 => (∀ u6 : Mm, u6 = up2 u4 1 (6 : Int32).toNatClampNeg a1 → (w_X10_done ((u4 1 (6 : Int32).toNatClampNeg)) u6 (fun r8 u7 => (Φ r8 u7)))))))))
set_option maxHeartbeats 4000000 in
set_option maxRecDepth 100000 in
theorem t_X10_setFare_0 {p : Program} {l : Launch} {e : Env} {s : State} {m : MethodId} {args : Array Value} {below : List Frame} {meth : Method} {c : Code} {D : va_G} {cA : Nat → ClassId} {o : Nat}  {Φ : Int32 → Mm → Prop} (C : Cx p m meth c s args cX10_setFare 3 wsX10_setFare RX10 (some .int) D (tysL cA)) : ∀ (a1 : Int32) (u0 : Mm), ∀ (H : Heap) (locs : List Loc) (ls : Array Slot), Hp 6 o D (EM cA o u0) s H locs → lv_has ls 3 [(0, .ref (o + 0)), (1, .int a1)] → w_X10_setFare a1 u0 Φ → W p l e rm_X10_setFare s m args below meth c H locs 0 0 (MQ below (Qg vI Φ (fun μ => Wd 6 o D (tysL cA) (EM cA o μ)) (aA o 6)) args s 0 0 (aA o 6)) (F0 m 0 ls []) := by
  intro a1 u0 H locs ls P hl h
  have hx := C.1.1
  have hb := C.1.2.1
  unfold w_X10_setFare at h
  refine lv_iload_n hx hb dX10_setFare_0 rfl (lv_at hl 1 rfl) ?_
  refine lv_iconst (v := 0) hx hb dX10_setFare_1 (by decide) ?_
  refine lv_sipush (v := 1000) hx hb dX10_setFare_2 (by decide) ?_
  refine r_calli (F := EM cA o) (va_runS (As := [.int a1, .int (0 : Int32), .int (1000 : Int32)]) (rest := []) C.1 (c_X10_in l D cA o _ _ _ u0 _ h) (va_cwS 3 C.1.2.2.2.2 gX10_setFare_X10_in rfl rfl rfl (by decide +kernel) ⟨Nat.le_of_ble_eq_true rfl, Nat.le_of_ble_eq_true rfl⟩) (r_pre C P [.int a1, .int (0 : Int32), .int (1000 : Int32)]) rfl rfl hl.1 rfl (lv_room (Nat.le_of_ble_eq_true rfl)) dX10_setFare_5 ⟨Nat.le_of_ble_eq_true rfl, Nat.le_of_ble_eq_true rfl⟩) P.2 (fun r2 u1 H locs h P => ?_)
  refine lv_if_ne (tgt := 14) hx hb dX10_setFare_8 (by decide) (fun c3 => ?_) (fun c3 => ?_)
  · have h := ite_f h c3
    refine lv_aload_n hx hb dX10_setFare_14 rfl (lv_at hl 0 rfl) ?_
    refine r_callv (F := EM cA o) (va_runV (As := []) (rest := []) C.1 (c_X10_begin l D cA o u1 _ h) (cwV 0 C.1.2.2.2.2 gX10_setFare_X10_begin rfl rfl rfl (by decide +kernel) ⟨Nat.le_of_ble_eq_true rfl, Nat.le_of_ble_eq_true rfl⟩) (r_preV C P [] (ci := 10) rfl (by decide) EKM_0) rfl rfl hl.1 rfl (lv_room (Nat.le_of_ble_eq_true rfl)) dX10_setFare_15 ⟨Nat.le_of_ble_eq_true rfl, Nat.le_of_ble_eq_true rfl⟩) P.2 (fun u4 H locs h P => ?_)
    refine lv_aload_n hx hb dX10_setFare_18 rfl (lv_at hl 0 rfl) ?_
    refine g_10_0 C P in_X10_setFare_10 wd_X10_setFare_1 dX10_setFare_19 ?_
    refine lv_bipush (v := 6) hx hb dX10_setFare_22 (by decide) ?_
    refine mld_1 C P (by unfold vp_in; decide) dX10_setFare_24 ?_
    refine lv_istore_n (lv' := [(2, .int (u4 1 (6 : Int32).toNatClampNeg)), (0, .ref (o + 0)), (1, .int a1)]) hx hb dX10_setFare_25 rfl hl (by decide) rfl (fun ls hl => ?_)
    refine lv_aload_n hx hb dX10_setFare_26 rfl (lv_at hl 1 rfl) ?_
    refine g_10_0 C P in_X10_setFare_10 wd_X10_setFare_1 dX10_setFare_27 ?_
    refine lv_bipush (v := 6) hx hb dX10_setFare_30 (by decide) ?_
    refine lv_iload_n hx hb dX10_setFare_32 rfl (lv_at hl 2 rfl) ?_
    refine mst_1 C P (by unfold vp_in; decide) dX10_setFare_33 (fun u6 eu6 H locs P => ?_)
    have h := h u6 eu6
    refine lv_aload_n hx hb dX10_setFare_34 rfl (lv_at hl 1 rfl) ?_
    refine lv_iload_n hx hb dX10_setFare_35 rfl (lv_at hl 0 rfl) ?_
    refine r_calli (F := EM cA o) (va_runV (As := [.int (u4 1 (6 : Int32).toNatClampNeg)]) (rest := []) C.1 (c_X10_done l D cA o _ u6 _ h) (cwV 1 C.1.2.2.2.2 gX10_setFare_X10_done rfl rfl rfl (by decide +kernel) ⟨Nat.le_of_ble_eq_true rfl, Nat.le_of_ble_eq_true rfl⟩) (r_preV C P [.int (u4 1 (6 : Int32).toNatClampNeg)] (ci := 10) rfl (by decide) EKM_0) rfl rfl hl.1 rfl (lv_room (Nat.le_of_ble_eq_true rfl)) dX10_setFare_36 ⟨Nat.le_of_ble_eq_true rfl, Nat.le_of_ble_eq_true rfl⟩) P.2 (fun r8 u7 H locs h P => ?_)
    exact r_ireti C P h dX10_setFare_39
  · have h := ite_t h c3
    refine lv_bipush (v := -2) hx hb dX10_setFare_11 (by decide) ?_
    exact r_ireti C P h dX10_setFare_13
set_option maxHeartbeats 4000000 in
set_option maxRecDepth 100000 in
theorem c_X10_setFare (l : Launch) (D : va_G) (cA : Nat → ClassId) (o : Nat) (a1 : Int32)  (u0 : Mm) (Φ : Int32 → Mm → Prop) (h : w_X10_setFare a1 u0 Φ) : Met l yX10_setFare wsX10_setFare rm_X10_setFare (va_Pc [.ref (o + 0), .int a1] (Wd 6 o D (tysL cA) (EM cA o u0))) (Qg vI Φ (fun μ => Wd 6 o D (tysL cA) (EM cA o μ)) (aA o 6)) 0 0 (aA o 6) := by
  refine Met.ofW (cc := cX10_setFare) (maxL := 3) (ret := (some .int)) (by decide) rfl ?_
  intro p e s m args below meth c s₁ B hml hv
  obtain ⟨rfl, hv⟩ := hv
  have hl := lv_entry ([.ref (o + 0), .int a1]) (n := 3) (Nat.le_of_ble_eq_true rfl)
  rw [lg_entry_eq]
  exact t_X10_setFare_0 ⟨⟨B.exec, B.bytes, hml, findClass_of_methodNamed B.named, atoms_spec (ws := wsX10_setFare) B.pre⟩, B.returns, B.notSynchronized, hv.2⟩ a1 u0 _ _ _ ⟨hv.1, va_S.rf⟩ hl h
abbrev rm_X10_isQueued : Room := { frames := 1, cells := 0, slots := 0, locals := 22 }
def w_X10_isQueued (a1 : Int32) (a2 : Int32) (a3 : Int32) (u0 : Mm) (Φ : Int32 → Mm → Prop) : Prop := (w_X10_of a1 ((3 : Int32)) u0 (fun r2 u1 => (if r2 = a2 then (w_X10_of a1 ((0 : Int32)) u1 (fun r5 u4 => (if a3 = 0 then (if r5 = (1 : Int32) then (Φ (1 : Int32) u4) else (Φ (0 : Int32) u4)) else (if r5 = (4 : Int32) then (Φ (1 : Int32) u4) else (Φ (0 : Int32) u4))))) else (Φ (0 : Int32) u1))))
set_option maxHeartbeats 4000000 in
set_option maxRecDepth 100000 in
theorem t_X10_isQueued_0 {p : Program} {l : Launch} {e : Env} {s : State} {m : MethodId} {args : Array Value} {below : List Frame} {meth : Method} {c : Code} {D : va_G} {cA : Nat → ClassId} {o : Nat}  {Φ : Int32 → Mm → Prop} (C : Cx p m meth c s args cX10_isQueued 4 wsX10_isQueued RX10 (some .boolean) D (tysL cA)) : ∀ (a1 : Int32) (a2 : Int32) (a3 : Int32) (u0 : Mm), ∀ (H : Heap) (locs : List Loc) (ls : Array Slot), Hp 6 o D (EM cA o u0) s H locs → lv_has ls 4 [(0, .ref (o + 0)), (1, .int a1), (2, .int a2), (3, .int a3)] → w_X10_isQueued a1 a2 a3 u0 Φ → W p l e rm_X10_isQueued s m args below meth c H locs 0 0 (MQ below (Qg vI Φ (fun μ => Wd 6 o D (tysL cA) (EM cA o μ)) (aA o 6)) args s 0 0 (aA o 6)) (F0 m 0 ls []) := by
  intro a1 a2 a3 u0 H locs ls P hl h
  have hx := C.1.1
  have hb := C.1.2.1
  unfold w_X10_isQueued at h
  refine lv_aload_n hx hb dX10_isQueued_0 rfl (lv_at hl 0 rfl) ?_
  refine lv_iload_n hx hb dX10_isQueued_1 rfl (lv_at hl 1 rfl) ?_
  refine lv_iconst (v := 3) hx hb dX10_isQueued_2 (by decide) ?_
  refine r_calli (F := EM cA o) (va_runV (As := [.int a1, .int (3 : Int32)]) (rest := []) C.1 (c_X10_of l D cA o _ _ u0 _ h) (cwV 2 C.1.2.2.2.2 gX10_isQueued_X10_of rfl rfl rfl (by decide +kernel) ⟨Nat.le_of_ble_eq_true rfl, Nat.le_of_ble_eq_true rfl⟩) (r_preV C P [.int a1, .int (3 : Int32)] (ci := 10) rfl (by decide) EKM_0) rfl rfl hl.1 rfl (lv_room (Nat.le_of_ble_eq_true rfl)) dX10_isQueued_3 ⟨Nat.le_of_ble_eq_true rfl, Nat.le_of_ble_eq_true rfl⟩) P.2 (fun r2 u1 H locs h P => ?_)
  refine lv_iload_n hx hb dX10_isQueued_6 rfl (lv_at hl 2 rfl) ?_
  refine lv_icmp_ne (tgt := 32) hx hb dX10_isQueued_7 (by decide) (fun c3 => ?_) (fun c3 => ?_)
  · have h := ite_f h c3
    refine lv_iconst (v := 0) hx hb dX10_isQueued_32 (by decide) ?_
    exact r_iretb C P (Or.inl rfl) h dX10_isQueued_33
  · have h := ite_t h c3
    refine lv_aload_n hx hb dX10_isQueued_10 rfl (lv_at hl 0 rfl) ?_
    refine lv_iload_n hx hb dX10_isQueued_11 rfl (lv_at hl 1 rfl) ?_
    refine lv_iconst (v := 0) hx hb dX10_isQueued_12 (by decide) ?_
    refine r_calli (F := EM cA o) (va_runV (As := [.int a1, .int (0 : Int32)]) (rest := []) C.1 (c_X10_of l D cA o _ _ u1 _ h) (cwV 2 C.1.2.2.2.2 gX10_isQueued_X10_of rfl rfl rfl (by decide +kernel) ⟨Nat.le_of_ble_eq_true rfl, Nat.le_of_ble_eq_true rfl⟩) (r_preV C P [.int a1, .int (0 : Int32)] (ci := 10) rfl (by decide) EKM_0) rfl rfl hl.1 rfl (lv_room (Nat.le_of_ble_eq_true rfl)) dX10_isQueued_13 ⟨Nat.le_of_ble_eq_true rfl, Nat.le_of_ble_eq_true rfl⟩) P.2 (fun r5 u4 H locs h P => ?_)
    refine lv_iload_n hx hb dX10_isQueued_16 rfl (lv_at hl 3 rfl) ?_
    refine lv_if_ne (tgt := 24) hx hb dX10_isQueued_17 (by decide) (fun c6 => ?_) (fun c6 => ?_)
    · have h := ite_f h c6
      refine lv_iconst (v := 4) hx hb dX10_isQueued_24 (by decide) ?_
      refine lv_icmp_ne (tgt := 32) hx hb dX10_isQueued_25 (by decide) (fun c7 => ?_) (fun c7 => ?_)
      · have h := ite_f h c7
        refine lv_iconst (v := 0) hx hb dX10_isQueued_32 (by decide) ?_
        exact r_iretb C P (Or.inl rfl) h dX10_isQueued_33
      · have h := ite_t h c7
        refine lv_iconst (v := 1) hx hb dX10_isQueued_28 (by decide) ?_
        refine lv_goto (tgt := 33) hx hb dX10_isQueued_29 (by decide) ?_
        exact r_iretb C P (Or.inr rfl) h dX10_isQueued_33
    · have h := ite_t h c6
      refine lv_iconst (v := 1) hx hb dX10_isQueued_20 (by decide) ?_
      refine lv_goto (tgt := 25) hx hb dX10_isQueued_21 (by decide) ?_
      refine lv_icmp_ne (tgt := 32) hx hb dX10_isQueued_25 (by decide) (fun c8 => ?_) (fun c8 => ?_)
      · have h := ite_f h c8
        refine lv_iconst (v := 0) hx hb dX10_isQueued_32 (by decide) ?_
        exact r_iretb C P (Or.inl rfl) h dX10_isQueued_33
      · have h := ite_t h c8
        refine lv_iconst (v := 1) hx hb dX10_isQueued_28 (by decide) ?_
        refine lv_goto (tgt := 33) hx hb dX10_isQueued_29 (by decide) ?_
        exact r_iretb C P (Or.inr rfl) h dX10_isQueued_33
set_option maxHeartbeats 4000000 in
set_option maxRecDepth 100000 in
theorem c_X10_isQueued (l : Launch) (D : va_G) (cA : Nat → ClassId) (o : Nat) (a1 : Int32) (a2 : Int32) (a3 : Int32)  (u0 : Mm) (Φ : Int32 → Mm → Prop) (h : w_X10_isQueued a1 a2 a3 u0 Φ) : Met l yX10_isQueued wsX10_isQueued rm_X10_isQueued (va_Pc [.ref (o + 0), .int a1, .int a2, .int a3] (Wd 6 o D (tysL cA) (EM cA o u0))) (Qg vI Φ (fun μ => Wd 6 o D (tysL cA) (EM cA o μ)) (aA o 6)) 0 0 (aA o 6) := by
  refine Met.ofW (cc := cX10_isQueued) (maxL := 4) (ret := (some .boolean)) (by decide) rfl ?_
  intro p e s m args below meth c s₁ B hml hv
  obtain ⟨rfl, hv⟩ := hv
  have hl := lv_entry ([.ref (o + 0), .int a1, .int a2, .int a3]) (n := 4) (Nat.le_of_ble_eq_true rfl)
  rw [lg_entry_eq]
  exact t_X10_isQueued_0 ⟨⟨B.exec, B.bytes, hml, findClass_of_methodNamed B.named, atoms_spec (ws := wsX10_isQueued) B.pre⟩, B.returns, B.notSynchronized, hv.2⟩ a1 a2 a3 u0 _ _ _ ⟨hv.1, va_S.rf⟩ hl h
