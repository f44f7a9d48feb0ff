abbrev rm_X10_passesIn : Room := { frames := 7, cells := 0, slots := 0, locals := 163 }
def w_X10_passesIn_88  (Φ : Int32 → Mm → Prop) (x1 : Int32) (x3 : Int32) (u0 : Mm) : Prop := (w_X10_of x1 ((0 : Int32)) u0 (fun r11 u10 => (w_X10_goBack u10 (fun _ u12 => (if r11 = (3 : Int32) then (Φ x3 u12) else (if r11 = (5 : Int32) then (Φ x3 u12) else (Φ ((-5 : Int32)) u12)))))))
set_option maxHeartbeats 4000000 in
set_option maxRecDepth 100000 in
theorem t_X10_passesIn_88 {p : Program} {l : Launch} {e : Env} {s : State} {m : MethodId} {args : Array Value} {below : List Frame} {meth : Method} {c : Code} {D : va_G} {cA : Nat → ClassId} {o : Nat}  {Φ : Int32 → Mm → Prop} (C : Cx p m meth c s args cX10_passesIn 5 wsX10_passesIn RX10 (some .int) D (tysL cA)) : ∀ (x1 : Int32) (x3 : Int32) (u0 : Mm), ∀ (H : Heap) (locs : List Loc) (ls : Array Slot), Hp 6 o D (EM cA o u0) s H locs → lv_has ls 5 [(0, .ref (o + 0)), (1, .int x1), (3, .int x3)] → w_X10_passesIn_88 Φ x1 x3 u0 → W p l e rm_X10_passesIn s m args below meth c H locs 0 0 (MQ below (Qg vI Φ (fun μ => Wd 6 o D (tysL cA) (EM cA o μ)) (aA o 6)) args s 0 0 (aA o 6)) (F0 m 88 ls []) := by
  intro x1 x3 u0 H locs ls P hl h
  have hx := C.1.1
  have hb := C.1.2.1
  unfold w_X10_passesIn_88 at h
  refine lv_aload_n hx hb dX10_passesIn_88 rfl (lv_at hl 0 rfl) ?_
  refine lv_iload_n hx hb dX10_passesIn_89 rfl (lv_at hl 1 rfl) ?_
  refine lv_iconst (v := 0) hx hb dX10_passesIn_90 (by decide) ?_
  refine r_calli (F := EM cA o) (va_runV (As := [.int x1, .int (0 : Int32)]) (rest := []) C.1 (c_X10_of l D cA o _ _ u0 _ h) (cwV 2 C.1.2.2.2.2 gX10_passesIn_X10_of rfl rfl rfl (by decide +kernel) ⟨Nat.le_of_ble_eq_true rfl, Nat.le_of_ble_eq_true rfl⟩) (r_preV C P [.int x1, .int (0 : Int32)] (ci := 10) rfl (by decide) EKM_0) rfl rfl hl.1 rfl (lv_room (Nat.le_of_ble_eq_true rfl)) dX10_passesIn_91 ⟨Nat.le_of_ble_eq_true rfl, Nat.le_of_ble_eq_true rfl⟩) P.2 (fun r11 u10 H locs h P => ?_)
  refine lv_istore (lv' := [(4, .int r11), (0, .ref (o + 0)), (1, .int x1), (3, .int x3)]) hx hb dX10_passesIn_94 hl (by decide) rfl (fun ls hl => ?_)
  refine lv_aload_n hx hb dX10_passesIn_96 rfl (lv_at hl 1 rfl) ?_
  refine r_callv (F := EM cA o) (va_runV (As := []) (rest := []) C.1 (c_X10_goBack l D cA o u10 _ h) (cwV 0 C.1.2.2.2.2 gX10_passesIn_X10_goBack rfl rfl rfl (by decide +kernel) ⟨Nat.le_of_ble_eq_true rfl, Nat.le_of_ble_eq_true rfl⟩) (r_preV C P [] (ci := 10) rfl (by decide) EKM_0) rfl rfl hl.1 rfl (lv_room (Nat.le_of_ble_eq_true rfl)) dX10_passesIn_97 ⟨Nat.le_of_ble_eq_true rfl, Nat.le_of_ble_eq_true rfl⟩) P.2 (fun u12 H locs h P => ?_)
  refine lv_iload hx hb dX10_passesIn_100 (lv_at hl 0 rfl) ?_
  refine lv_iconst (v := 3) hx hb dX10_passesIn_102 (by decide) ?_
  refine lv_icmp_eq (tgt := 112) hx hb dX10_passesIn_103 (by decide) (fun c14 => ?_) (fun c14 => ?_)
  · have h := ite_t h c14
    refine lv_iload_n hx hb dX10_passesIn_112 rfl (lv_at hl 3 rfl) ?_
    refine lv_goto (tgt := 118) hx hb dX10_passesIn_113 (by decide) ?_
    exact r_ireti C P h dX10_passesIn_118
  · have h := ite_f h c14
    refine lv_iload hx hb dX10_passesIn_106 (lv_at hl 0 rfl) ?_
    refine lv_iconst (v := 5) hx hb dX10_passesIn_108 (by decide) ?_
    refine lv_icmp_ne (tgt := 116) hx hb dX10_passesIn_109 (by decide) (fun c15 => ?_) (fun c15 => ?_)
    · have h := ite_f h c15
      refine lv_bipush (v := -5) hx hb dX10_passesIn_116 (by decide) ?_
      exact r_ireti C P h dX10_passesIn_118
    · have h := ite_t h c15
      refine lv_iload_n hx hb dX10_passesIn_112 rfl (lv_at hl 3 rfl) ?_
      refine lv_goto (tgt := 118) hx hb dX10_passesIn_113 (by decide) ?_
      exact r_ireti C P h dX10_passesIn_118
def w_X10_passesIn_41  (Φ : Int32 → Mm → Prop) : Nat → Int32 → Int32 → Mm → Prop
  | 0, _, _, _ => False
  | n + 1, x1, x3, u0 => (if (500 : Int32) ≤ x3 then (w_X10_passesIn_88 Φ x1 x3 u0) else (w_X10_of x1 ((0 : Int32)) u0 (fun r17 u16 => (if r17 = (1 : Int32) then (w_X10_tick u16 (fun _ u19 => (w_X10_passesIn_41 Φ n x1 ((x3 + 1)) u19))) else (w_X10_of x1 ((0 : Int32)) u16 (fun r22 u21 => (if r22 = (2 : Int32) then (w_X10_tick u21 (fun _ u24 => (w_X10_passesIn_41 Φ n x1 ((x3 + 1)) u24))) else (w_X10_of x1 ((0 : Int32)) u21 (fun r27 u26 => (if r27 = (4 : Int32) then (w_X10_tick u26 (fun _ u29 => (w_X10_passesIn_41 Φ n x1 ((x3 + 1)) u29))) else (w_X10_passesIn_88 Φ x1 x3 u26)))))))))))
set_option maxHeartbeats 4000000 in
set_option maxRecDepth 100000 in
theorem t_X10_passesIn_41 {p : Program} {l : Launch} {e : Env} {s : State} {m : MethodId} {args : Array Value} {below : List Frame} {meth : Method} {c : Code} {D : va_G} {cA : Nat → ClassId} {o : Nat}  {Φ : Int32 → Mm → Prop} (C : Cx p m meth c s args cX10_passesIn 5 wsX10_passesIn RX10 (some .int) D (tysL cA)) : ∀ n : Nat, ∀ (x1 : Int32) (x3 : Int32) (u0 : Mm), ∀ (H : Heap) (locs : List Loc) (ls : Array Slot), Hp 6 o D (EM cA o u0) s H locs → lv_has ls 5 [(0, .ref (o + 0)), (1, .int x1), (3, .int x3)] → w_X10_passesIn_41 Φ n x1 x3 u0 → W p l e rm_X10_passesIn s m args below meth c H locs 0 0 (MQ below (Qg vI Φ (fun μ => Wd 6 o D (tysL cA) (EM cA o μ)) (aA o 6)) args s 0 0 (aA o 6)) (F0 m 41 ls []) := by
  intro n
  induction n with
  | zero => intro x1 x3 u0 H locs ls P hl h; exact h.elim
  | succ n ih =>
    intro x1 x3 u0 H locs ls P hl h
    have hx := C.1.1
    have hb := C.1.2.1
    rw [w_X10_passesIn_41] at h
    refine lv_iload_n hx hb dX10_passesIn_41 rfl (lv_at hl 2 rfl) ?_
    refine lv_sipush (v := 500) hx hb dX10_passesIn_42 (by decide) ?_
    refine lv_icmp_ge (tgt := 88) hx hb dX10_passesIn_45 (by decide) (fun c9 => ?_) (fun c9 => ?_)
    · have h := ite_t h c9
      exact t_X10_passesIn_88 C _ _ u0 _ _ _ P (lv_sub hl [0, 1, 2] rfl) h
    · have h := ite_f h c9
      refine lv_aload_n hx hb dX10_passesIn_48 rfl (lv_at hl 0 rfl) ?_
      refine lv_iload_n hx hb dX10_passesIn_49 rfl (lv_at hl 1 rfl) ?_
      refine lv_iconst (v := 0) hx hb dX10_passesIn_50 (by decide) ?_
      refine r_calli (F := EM cA o) (va_runV (As := [.int x1, .int (0 : Int32)]) (rest := []) C.1 (c_X10_of l D cA o _ _ u0 _ h) (cwV 2 C.1.2.2.2.2 gX10_passesIn_X10_of rfl rfl rfl (by decide +kernel) ⟨Nat.le_of_ble_eq_true rfl, Nat.le_of_ble_eq_true rfl⟩) (r_preV C P [.int x1, .int (0 : Int32)] (ci := 10) rfl (by decide) EKM_0) rfl rfl hl.1 rfl (lv_room (Nat.le_of_ble_eq_true rfl)) dX10_passesIn_51 ⟨Nat.le_of_ble_eq_true rfl, Nat.le_of_ble_eq_true rfl⟩) P.2 (fun r17 u16 H locs h P => ?_)
      refine lv_iconst (v := 1) hx hb dX10_passesIn_54 (by decide) ?_
      refine lv_icmp_eq (tgt := 78) hx hb dX10_passesIn_55 (by decide) (fun c18 => ?_) (fun c18 => ?_)
      · have h := ite_t h c18
        refine lv_aload_n hx hb dX10_passesIn_78 rfl (lv_at hl 0 rfl) ?_
        refine r_callv (F := EM cA o) (va_runV (As := []) (rest := []) C.1 (c_X10_tick l D cA o u16 _ h) (cwV 0 C.1.2.2.2.2 gX10_passesIn_X10_tick rfl rfl rfl (by decide +kernel) ⟨Nat.le_of_ble_eq_true rfl, Nat.le_of_ble_eq_true rfl⟩) (r_preV C P [] (ci := 10) rfl (by decide) EKM_0) rfl rfl hl.1 rfl (lv_room (Nat.le_of_ble_eq_true rfl)) dX10_passesIn_79 ⟨Nat.le_of_ble_eq_true rfl, Nat.le_of_ble_eq_true rfl⟩) P.2 (fun u19 H locs h P => ?_)
        refine lv_iinc (v := (x3 + 1)) (lv' := [(3, .int (x3 + 1)), (0, .ref (o + 0)), (1, .int x1)]) hx hb dX10_passesIn_82 hl (k := 2) rfl rfl (by decide) rfl (fun ls hl => ?_)
        refine lv_goto (tgt := 41) hx hb dX10_passesIn_85 (by decide) ?_
        exact ih _ _ u19 _ _ _ P (lv_sub hl [1, 2, 0] rfl) h
      · have h := ite_f h c18
        refine lv_aload_n hx hb dX10_passesIn_58 rfl (lv_at hl 0 rfl) ?_
        refine lv_iload_n hx hb dX10_passesIn_59 rfl (lv_at hl 1 rfl) ?_
        refine lv_iconst (v := 0) hx hb dX10_passesIn_60 (by decide) ?_
        refine r_calli (F := EM cA o) (va_runV (As := [.int x1, .int (0 : Int32)]) (rest := []) C.1 (c_X10_of l D cA o _ _ u16 _ h) (cwV 2 C.1.2.2.2.2 gX10_passesIn_X10_of rfl rfl rfl (by decide +kernel) ⟨Nat.le_of_ble_eq_true rfl, Nat.le_of_ble_eq_true rfl⟩) (r_preV C P [.int x1, .int (0 : Int32)] (ci := 10) rfl (by decide) EKM_0) rfl rfl hl.1 rfl (lv_room (Nat.le_of_ble_eq_true rfl)) dX10_passesIn_61 ⟨Nat.le_of_ble_eq_true rfl, Nat.le_of_ble_eq_true rfl⟩) P.2 (fun r22 u21 H locs h P => ?_)
        refine lv_iconst (v := 2) hx hb dX10_passesIn_64 (by decide) ?_
        refine lv_icmp_eq (tgt := 78) hx hb dX10_passesIn_65 (by decide) (fun c23 => ?_) (fun c23 => ?_)
        · have h := ite_t h c23
          refine lv_aload_n hx hb dX10_passesIn_78 rfl (lv_at hl 0 rfl) ?_
          refine r_callv (F := EM cA o) (va_runV (As := []) (rest := []) C.1 (c_X10_tick l D cA o u21 _ h) (cwV 0 C.1.2.2.2.2 gX10_passesIn_X10_tick rfl rfl rfl (by decide +kernel) ⟨Nat.le_of_ble_eq_true rfl, Nat.le_of_ble_eq_true rfl⟩) (r_preV C P [] (ci := 10) rfl (by decide) EKM_0) rfl rfl hl.1 rfl (lv_room (Nat.le_of_ble_eq_true rfl)) dX10_passesIn_79 ⟨Nat.le_of_ble_eq_true rfl, Nat.le_of_ble_eq_true rfl⟩) P.2 (fun u24 H locs h P => ?_)
          refine lv_iinc (v := (x3 + 1)) (lv' := [(3, .int (x3 + 1)), (0, .ref (o + 0)), (1, .int x1)]) hx hb dX10_passesIn_82 hl (k := 2) rfl rfl (by decide) rfl (fun ls hl => ?_)
          refine lv_goto (tgt := 41) hx hb dX10_passesIn_85 (by decide) ?_
          exact ih _ _ u24 _ _ _ P (lv_sub hl [1, 2, 0] rfl) h
        · have h := ite_f h c23
          refine lv_aload_n hx hb dX10_passesIn_68 rfl (lv_at hl 0 rfl) ?_
          refine lv_iload_n hx hb dX10_passesIn_69 rfl (lv_at hl 1 rfl) ?_
          refine lv_iconst (v := 0) hx hb dX10_passesIn_70 (by decide) ?_
          refine r_calli (F := EM cA o) (va_runV (As := [.int x1, .int (0 : Int32)]) (rest := []) C.1 (c_X10_of l D cA o _ _ u21 _ h) (cwV 2 C.1.2.2.2.2 gX10_passesIn_X10_of rfl rfl rfl (by decide +kernel) ⟨Nat.le_of_ble_eq_true rfl, Nat.le_of_ble_eq_true rfl⟩) (r_preV C P [.int x1, .int (0 : Int32)] (ci := 10) rfl (by decide) EKM_0) rfl rfl hl.1 rfl (lv_room (Nat.le_of_ble_eq_true rfl)) dX10_passesIn_71 ⟨Nat.le_of_ble_eq_true rfl, Nat.le_of_ble_eq_true rfl⟩) P.2 (fun r27 u26 H locs h P => ?_)
          refine lv_iconst (v := 4) hx hb dX10_passesIn_74 (by decide) ?_
          refine lv_icmp_ne (tgt := 88) hx hb dX10_passesIn_75 (by decide) (fun c28 => ?_) (fun c28 => ?_)
          · have h := ite_f h c28
            exact t_X10_passesIn_88 C _ _ u26 _ _ _ P (lv_sub hl [0, 1, 2] rfl) h
          · have h := ite_t h c28
            refine lv_aload_n hx hb dX10_passesIn_78 rfl (lv_at hl 0 rfl) ?_
            refine r_callv (F := EM cA o) (va_runV (As := []) (rest := []) C.1 (c_X10_tick l D cA o u26 _ h) (cwV 0 C.1.2.2.2.2 gX10_passesIn_X10_tick rfl rfl rfl (by decide +kernel) ⟨Nat.le_of_ble_eq_true rfl, Nat.le_of_ble_eq_true rfl⟩) (r_preV C P [] (ci := 10) rfl (by decide) EKM_0) rfl rfl hl.1 rfl (lv_room (Nat.le_of_ble_eq_true rfl)) dX10_passesIn_79 ⟨Nat.le_of_ble_eq_true rfl, Nat.le_of_ble_eq_true rfl⟩) P.2 (fun u29 H locs h P => ?_)
            refine lv_iinc (v := (x3 + 1)) (lv' := [(3, .int (x3 + 1)), (0, .ref (o + 0)), (1, .int x1)]) hx hb dX10_passesIn_82 hl (k := 2) rfl rfl (by decide) rfl (fun ls hl => ?_)
            refine lv_goto (tgt := 41) hx hb dX10_passesIn_85 (by decide) ?_
            exact ih _ _ u29 _ _ _ P (lv_sub hl [1, 2, 0] rfl) h
def w_X10_passesIn (a1 : Int32) (u0 : Mm) (Φ : Int32 → Mm → Prop) : Prop := (w_X10_noPerson a1 u0 (fun r2 u1 => (if r2 = 0 then (w_X10_of a1 ((0 : Int32)) u1 (fun r5 u4 => (if r5 = (1 : Int32) then (w_X10_begin u4 (fun _ u7 => (∃ n41 : Nat, w_X10_passesIn_41 Φ n41 a1 ((0 : Int32)) u7))) else (if r5 = (2 : Int32) then (w_X10_begin u4 (fun _ u32 => (∃ n41 : Nat, w_X10_passesIn_41 Φ n41 a1 ((0 : Int32)) u32))) else (if r5 = (4 : Int32) then (w_X10_begin u4 (fun _ u35 => (∃ n41 : Nat, w_X10_passesIn_41 Φ n41 a1 ((0 : Int32)) u35))) else (Φ ((-4 : Int32)) u4)))))) else (Φ ((-1 : Int32)) u1))))
set_option maxHeartbeats 4000000 in
set_option maxRecDepth 100000 in
theorem t_X10_passesIn_0 {p : Program} {l : Launch} {e : Env} {s : State} {m : MethodId} {args : Array Value} {below : List Frame} {meth : Method} {c : Code} {D : va_G} {cA : Nat → ClassId} {o : Nat}  {Φ : Int32 → Mm → Prop} (C : Cx p m meth c s args cX10_passesIn 5 wsX10_passesIn RX10 (some .int) D (tysL cA)) : ∀ (a1 : Int32) (u0 : Mm), ∀ (H : Heap) (locs : List Loc) (ls : Array Slot), Hp 6 o D (EM cA o u0) s H locs → lv_has ls 5 [(0, .ref (o + 0)), (1, .int a1)] → w_X10_passesIn a1 u0 Φ → W p l e rm_X10_passesIn s m args below meth c H locs 0 0 (MQ below (Qg vI Φ (fun μ => Wd 6 o D (tysL cA) (EM cA o μ)) (aA o 6)) args s 0 0 (aA o 6)) (F0 m 0 ls []) := by
  intro a1 u0 H locs ls P hl h
  have hx := C.1.1
  have hb := C.1.2.1
  unfold w_X10_passesIn at h
  refine lv_aload_n hx hb dX10_passesIn_0 rfl (lv_at hl 0 rfl) ?_
  refine lv_iload_n hx hb dX10_passesIn_1 rfl (lv_at hl 1 rfl) ?_
  refine r_calli (F := EM cA o) (va_runV (As := [.int a1]) (rest := []) C.1 (c_X10_noPerson l D cA o _ u0 _ h) (cwV 1 C.1.2.2.2.2 gX10_passesIn_X10_noPerson rfl rfl rfl (by decide +kernel) ⟨Nat.le_of_ble_eq_true rfl, Nat.le_of_ble_eq_true rfl⟩) (r_preV C P [.int a1] (ci := 10) rfl (by decide) EKM_0) rfl rfl hl.1 rfl (lv_room (Nat.le_of_ble_eq_true rfl)) dX10_passesIn_2 ⟨Nat.le_of_ble_eq_true rfl, Nat.le_of_ble_eq_true rfl⟩) P.2 (fun r2 u1 H locs h P => ?_)
  refine lv_if_eq (tgt := 10) hx hb dX10_passesIn_5 (by decide) (fun c3 => ?_) (fun c3 => ?_)
  · have h := ite_t h c3
    refine lv_aload_n hx hb dX10_passesIn_10 rfl (lv_at hl 0 rfl) ?_
    refine lv_iload_n hx hb dX10_passesIn_11 rfl (lv_at hl 1 rfl) ?_
    refine lv_iconst (v := 0) hx hb dX10_passesIn_12 (by decide) ?_
    refine r_calli (F := EM cA o) (va_runV (As := [.int a1, .int (0 : Int32)]) (rest := []) C.1 (c_X10_of l D cA o _ _ u1 _ h) (cwV 2 C.1.2.2.2.2 gX10_passesIn_X10_of rfl rfl rfl (by decide +kernel) ⟨Nat.le_of_ble_eq_true rfl, Nat.le_of_ble_eq_true rfl⟩) (r_preV C P [.int a1, .int (0 : Int32)] (ci := 10) rfl (by decide) EKM_0) rfl rfl hl.1 rfl (lv_room (Nat.le_of_ble_eq_true rfl)) dX10_passesIn_13 ⟨Nat.le_of_ble_eq_true rfl, Nat.le_of_ble_eq_true rfl⟩) P.2 (fun r5 u4 H locs h P => ?_)
    refine lv_istore_n (lv' := [(2, .int r5), (0, .ref (o + 0)), (1, .int a1)]) hx hb dX10_passesIn_16 rfl hl (by decide) rfl (fun ls hl => ?_)
    refine lv_iload_n hx hb dX10_passesIn_17 rfl (lv_at hl 0 rfl) ?_
    refine lv_iconst (v := 1) hx hb dX10_passesIn_18 (by decide) ?_
    refine lv_icmp_eq (tgt := 35) hx hb dX10_passesIn_19 (by decide) (fun c6 => ?_) (fun c6 => ?_)
    · have h := ite_t h c6
      refine lv_aload_n hx hb dX10_passesIn_35 rfl (lv_at hl 1 rfl) ?_
      refine r_callv (F := EM cA o) (va_runV (As := []) (rest := []) C.1 (c_X10_begin l D cA o u4 _ h) (cwV 0 C.1.2.2.2.2 gX10_passesIn_X10_begin rfl rfl rfl (by decide +kernel) ⟨Nat.le_of_ble_eq_true rfl, Nat.le_of_ble_eq_true rfl⟩) (r_preV C P [] (ci := 10) rfl (by decide) EKM_0) rfl rfl hl.1 rfl (lv_room (Nat.le_of_ble_eq_true rfl)) dX10_passesIn_36 ⟨Nat.le_of_ble_eq_true rfl, Nat.le_of_ble_eq_true rfl⟩) P.2 (fun u7 H locs h P => ?_)
      refine lv_iconst (v := 0) hx hb dX10_passesIn_39 (by decide) ?_
      refine lv_istore_n (lv' := [(3, .int (0 : Int32)), (2, .int r5), (0, .ref (o + 0)), (1, .int a1)]) hx hb dX10_passesIn_40 rfl hl (by decide) rfl (fun ls hl => ?_)
      obtain ⟨n41, h⟩ := h
      exact t_X10_passesIn_41 C n41 _ _ u7 _ _ _ P (lv_sub hl [2, 3, 0] rfl) h
    · have h := ite_f h c6
      refine lv_iload_n hx hb dX10_passesIn_22 rfl (lv_at hl 0 rfl) ?_
      refine lv_iconst (v := 2) hx hb dX10_passesIn_23 (by decide) ?_
      refine lv_icmp_eq (tgt := 35) hx hb dX10_passesIn_24 (by decide) (fun c31 => ?_) (fun c31 => ?_)
      · have h := ite_t h c31
        refine lv_aload_n hx hb dX10_passesIn_35 rfl (lv_at hl 1 rfl) ?_
        refine r_callv (F := EM cA o) (va_runV (As := []) (rest := []) C.1 (c_X10_begin l D cA o u4 _ h) (cwV 0 C.1.2.2.2.2 gX10_passesIn_X10_begin rfl rfl rfl (by decide +kernel) ⟨Nat.le_of_ble_eq_true rfl, Nat.le_of_ble_eq_true rfl⟩) (r_preV C P [] (ci := 10) rfl (by decide) EKM_0) rfl rfl hl.1 rfl (lv_room (Nat.le_of_ble_eq_true rfl)) dX10_passesIn_36 ⟨Nat.le_of_ble_eq_true rfl, Nat.le_of_ble_eq_true rfl⟩) P.2 (fun u32 H locs h P => ?_)
        refine lv_iconst (v := 0) hx hb dX10_passesIn_39 (by decide) ?_
        refine lv_istore_n (lv' := [(3, .int (0 : Int32)), (2, .int r5), (0, .ref (o + 0)), (1, .int a1)]) hx hb dX10_passesIn_40 rfl hl (by decide) rfl (fun ls hl => ?_)
        obtain ⟨n41, h⟩ := h
        exact t_X10_passesIn_41 C n41 _ _ u32 _ _ _ P (lv_sub hl [2, 3, 0] rfl) h
      · have h := ite_f h c31
        refine lv_iload_n hx hb dX10_passesIn_27 rfl (lv_at hl 0 rfl) ?_
        refine lv_iconst (v := 4) hx hb dX10_passesIn_28 (by decide) ?_
        refine lv_icmp_eq (tgt := 35) hx hb dX10_passesIn_29 (by decide) (fun c34 => ?_) (fun c34 => ?_)
        · have h := ite_t h c34
          refine lv_aload_n hx hb dX10_passesIn_35 rfl (lv_at hl 1 rfl) ?_
          refine r_callv (F := EM cA o) (va_runV (As := []) (rest := []) C.1 (c_X10_begin l D cA o u4 _ h) (cwV 0 C.1.2.2.2.2 gX10_passesIn_X10_begin rfl rfl rfl (by decide +kernel) ⟨Nat.le_of_ble_eq_true rfl, Nat.le_of_ble_eq_true rfl⟩) (r_preV C P [] (ci := 10) rfl (by decide) EKM_0) rfl rfl hl.1 rfl (lv_room (Nat.le_of_ble_eq_true rfl)) dX10_passesIn_36 ⟨Nat.le_of_ble_eq_true rfl, Nat.le_of_ble_eq_true rfl⟩) P.2 (fun u35 H locs h P => ?_)
          refine lv_iconst (v := 0) hx hb dX10_passesIn_39 (by decide) ?_
          refine lv_istore_n (lv' := [(3, .int (0 : Int32)), (2, .int r5), (0, .ref (o + 0)), (1, .int a1)]) hx hb dX10_passesIn_40 rfl hl (by decide) rfl (fun ls hl => ?_)
          obtain ⟨n41, h⟩ := h
          exact t_X10_passesIn_41 C n41 _ _ u35 _ _ _ P (lv_sub hl [2, 3, 0] rfl) h
        · have h := ite_f h c34
          refine lv_bipush (v := -4) hx hb dX10_passesIn_32 (by decide) ?_
          exact r_ireti C P h dX10_passesIn_34
  · have h := ite_f h c3
    refine lv_iconst (v := -1) hx hb dX10_passesIn_8 (by decide) ?_
    exact r_ireti C P h dX10_passesIn_9
set_option maxHeartbeats 4000000 in
set_option maxRecDepth 100000 in
theorem c_X10_passesIn (l : Launch) (D : va_G) (cA : Nat → ClassId) (o : Nat) (a1 : Int32)  (u0 : Mm) (Φ : Int32 → Mm → Prop) (h : w_X10_passesIn a1 u0 Φ) : Met l yX10_passesIn wsX10_passesIn rm_X10_passesIn (va_Pc [.ref (o + 0), .int a1] (Wd 6 o D (tysL cA) (EM cA o u0))) (Qg vI Φ (fun μ => Wd 6 o D (tysL cA) (EM cA o μ)) (aA o 6)) 0 0 (aA o 6) := by
  refine Met.ofW (cc := cX10_passesIn) (maxL := 5) (ret := (some .int)) (by decide) rfl ?_
  intro p e s m args below meth c s₁ B hml hv
  obtain ⟨rfl, hv⟩ := hv
  have hl := lv_entry ([.ref (o + 0), .int a1]) (n := 5) (Nat.le_of_ble_eq_true rfl)
  rw [lg_entry_eq]
  exact t_X10_passesIn_0 ⟨⟨B.exec, B.bytes, hml, findClass_of_methodNamed B.named, atoms_spec (ws := wsX10_passesIn) B.pre⟩, B.returns, B.notSynchronized, hv.2⟩ a1 u0 _ _ _ ⟨hv.1, va_S.rf⟩ hl h
abbrev rm_X10_peopleAt : Room := { frames := 1, cells := 0, slots := 0, locals := 22 }
theorem wd_X10_peopleAt_1 : Cond.fieldLink RX10 7 "TurnstileBankModel" "row" "[I" ∈ wsX10_peopleAt := List.mem_of_getElem? (i := 1) (by decide +kernel)
theorem in_X10_peopleAt_10 : ∀ w ∈ wsX100, w ∈ wsX10_peopleAt := fun w h => List.mem_cons_of_mem _ (List.mem_append_right _ h)
def w_X10_peopleAt_5  (Φ : Int32 → Mm → Prop) : Nat → Int32 → Int32 → Int32 → Int32 → Mm → Prop
  | 0, _, _, _, _, _ => False
  | n + 1, x1, x2, x3, x4, u0 => (if (u0 1 (2 : Int32).toNatClampNeg) ≤ x4 then (Φ x3 u0) else (w_X10_of x4 ((0 : Int32)) u0 (fun r3 u2 => (w_X10_in r3 x1 x2 u2 (fun r5 u4 => (if r5 = 0 then (w_X10_peopleAt_5 Φ n x1 x2 ((x3 + (0 : Int32))) ((x4 + 1)) u4) else (w_X10_peopleAt_5 Φ n x1 x2 ((x3 + (1 : Int32))) ((x4 + 1)) u4)))))))
set_option maxHeartbeats 4000000 in
set_option maxRecDepth 100000 in
theorem t_X10_peopleAt_5 {p : Program} {l : Launch} {e : Env} {s : State} {m : MethodId} {args : Array Value} {below : List Frame} {meth : Method} {c : Code} {D : va_G} {cA : Nat → ClassId} {o : Nat}  {Φ : Int32 → Mm → Prop} (C : Cx p m meth c s args cX10_peopleAt 5 wsX10_peopleAt RX10 (some .int) D (tysL cA)) : ∀ n : Nat, ∀ (x1 : Int32) (x2 : Int32) (x3 : Int32) (x4 : Int32) (u0 : Mm), ∀ (H : Heap) (locs : List Loc) (ls : Array Slot), Hp 6 o D (EM cA o u0) s H locs → lv_has ls 5 [(0, .ref (o + 0)), (1, .int x1), (2, .int x2), (3, .int x3), (4, .int x4)] → w_X10_peopleAt_5 Φ n x1 x2 x3 x4 u0 → W p l e rm_X10_peopleAt s m args below meth c H locs 0 0 (MQ below (Qg vI Φ (fun μ => Wd 6 o D (tysL cA) (EM cA o μ)) (aA o 6)) args s 0 0 (aA o 6)) (F0 m 5 ls []) := by
  intro n
  induction n with
  | zero => intro x1 x2 x3 x4 u0 H locs ls P hl h; exact h.elim
  | succ n ih =>
    intro x1 x2 x3 x4 u0 H locs ls P hl h
    have hx := C.1.1
    have hb := C.1.2.1
    rw [w_X10_peopleAt_5] at h
    refine lv_iload hx hb dX10_peopleAt_5 (lv_at hl 4 rfl) ?_
    refine lv_aload_n hx hb dX10_peopleAt_7 rfl (lv_at hl 0 rfl) ?_
    refine g_10_0 C P in_X10_peopleAt_10 wd_X10_peopleAt_1 dX10_peopleAt_8 ?_
    refine lv_iconst (v := 2) hx hb dX10_peopleAt_11 (by decide) ?_
    refine mld_1 C P (by unfold vp_in; decide) dX10_peopleAt_12 ?_
    refine lv_icmp_ge (tgt := 45) hx hb dX10_peopleAt_13 (by decide) (fun c1 => ?_) (fun c1 => ?_)
    · have h := ite_t h c1
      refine lv_iload_n hx hb dX10_peopleAt_45 rfl (lv_at hl 3 rfl) ?_
      exact r_ireti C P h dX10_peopleAt_46
    · have h := ite_f h c1
      refine lv_iload_n hx hb dX10_peopleAt_16 rfl (lv_at hl 3 rfl) ?_
      refine lv_aload_n hx hb dX10_peopleAt_17 rfl (lv_at hl 0 rfl) ?_
      refine lv_iload hx hb dX10_peopleAt_18 (lv_at hl 4 rfl) ?_
      refine lv_iconst (v := 0) hx hb dX10_peopleAt_20 (by decide) ?_
      refine r_calli (F := EM cA o) (va_runV (As := [.int x4, .int (0 : Int32)]) (rest := [.int x3]) C.1 (c_X10_of l D cA o _ _ u0 _ h) (cwV 2 C.1.2.2.2.2 gX10_peopleAt_X10_of rfl rfl rfl (by decide +kernel) ⟨Nat.le_of_ble_eq_true rfl, Nat.le_of_ble_eq_true rfl⟩) (r_preV C P [.int x4, .int (0 : Int32)] (ci := 10) rfl (by decide) EKM_0) rfl rfl hl.1 rfl (lv_room (Nat.le_of_ble_eq_true rfl)) dX10_peopleAt_21 ⟨Nat.le_of_ble_eq_true rfl, Nat.le_of_ble_eq_true rfl⟩) P.2 (fun r3 u2 H locs h P => ?_)
      refine lv_iload_n hx hb dX10_peopleAt_24 rfl (lv_at hl 1 rfl) ?_
      refine lv_iload_n hx hb dX10_peopleAt_25 rfl (lv_at hl 2 rfl) ?_
      refine r_calli (F := EM cA o) (va_runS (As := [.int r3, .int x1, .int x2]) (rest := [.int x3]) C.1 (c_X10_in l D cA o _ _ _ u2 _ h) (va_cwS 3 C.1.2.2.2.2 gX10_peopleAt_X10_in rfl rfl rfl (by decide +kernel) ⟨Nat.le_of_ble_eq_true rfl, Nat.le_of_ble_eq_true rfl⟩) (r_pre C P [.int r3, .int x1, .int x2]) rfl rfl hl.1 rfl (lv_room (Nat.le_of_ble_eq_true rfl)) dX10_peopleAt_26 ⟨Nat.le_of_ble_eq_true rfl, Nat.le_of_ble_eq_true rfl⟩) P.2 (fun r5 u4 H locs h P => ?_)
      refine lv_if_eq (tgt := 36) hx hb dX10_peopleAt_29 (by decide) (fun c6 => ?_) (fun c6 => ?_)
      · have h := ite_t h c6
        refine lv_iconst (v := 0) hx hb dX10_peopleAt_36 (by decide) ?_
        refine lv_iadd hx hb dX10_peopleAt_37 ?_
        refine lv_istore_n (lv' := [(3, .int (x3 + (0 : Int32))), (0, .ref (o + 0)), (1, .int x1), (2, .int x2), (4, .int x4)]) hx hb dX10_peopleAt_38 rfl hl (by decide) rfl (fun ls hl => ?_)
        refine lv_iinc (v := (x4 + 1)) (lv' := [(4, .int (x4 + 1)), (3, .int (x3 + (0 : Int32))), (0, .ref (o + 0)), (1, .int x1), (2, .int x2)]) hx hb dX10_peopleAt_39 hl (k := 4) rfl rfl (by decide) rfl (fun ls hl => ?_)
        refine lv_goto (tgt := 5) hx hb dX10_peopleAt_42 (by decide) ?_
        exact ih _ _ _ _ u4 _ _ _ P (lv_sub hl [2, 3, 4, 1, 0] rfl) h
      · have h := ite_f h c6
        refine lv_iconst (v := 1) hx hb dX10_peopleAt_32 (by decide) ?_
        refine lv_goto (tgt := 37) hx hb dX10_peopleAt_33 (by decide) ?_
        refine lv_iadd hx hb dX10_peopleAt_37 ?_
        refine lv_istore_n (lv' := [(3, .int (x3 + (1 : Int32))), (0, .ref (o + 0)), (1, .int x1), (2, .int x2), (4, .int x4)]) hx hb dX10_peopleAt_38 rfl hl (by decide) rfl (fun ls hl => ?_)
        refine lv_iinc (v := (x4 + 1)) (lv' := [(4, .int (x4 + 1)), (3, .int (x3 + (1 : Int32))), (0, .ref (o + 0)), (1, .int x1), (2, .int x2)]) hx hb dX10_peopleAt_39 hl (k := 4) rfl rfl (by decide) rfl (fun ls hl => ?_)
        refine lv_goto (tgt := 5) hx hb dX10_peopleAt_42 (by decide) ?_
        exact ih _ _ _ _ u4 _ _ _ P (lv_sub hl [2, 3, 4, 1, 0] rfl) h
def w_X10_peopleAt (a1 : Int32) (a2 : Int32) (u0 : Mm) (Φ : Int32 → Mm → Prop) : Prop := (∃ n5 : Nat, w_X10_peopleAt_5 Φ n5 a1 a2 ((0 : Int32)) ((0 : Int32)) u0)
set_option maxHeartbeats 4000000 in
set_option maxRecDepth 100000 in
theorem t_X10_peopleAt_0 {p : Program} {l : Launch} {e : Env} {s : State} {m : MethodId} {args : Array Value} {below : List Frame} {meth : Method} {c : Code} {D : va_G} {cA : Nat → ClassId} {o : Nat}  {Φ : Int32 → Mm → Prop} (C : Cx p m meth c s args cX10_peopleAt 5 wsX10_peopleAt RX10 (some .int) D (tysL cA)) : ∀ (a1 : Int32) (a2 : Int32) (u0 : Mm), ∀ (H : Heap) (locs : List Loc) (ls : Array Slot), Hp 6 o D (EM cA o u0) s H locs → lv_has ls 5 [(0, .ref (o + 0)), (1, .int a1), (2, .int a2)] → w_X10_peopleAt a1 a2 u0 Φ → W p l e rm_X10_peopleAt s m args below meth c H locs 0 0 (MQ below (Qg vI Φ (fun μ => Wd 6 o D (tysL cA) (EM cA o μ)) (aA o 6)) args s 0 0 (aA o 6)) (F0 m 0 ls []) := by
  intro a1 a2 u0 H locs ls P hl h
  have hx := C.1.1
  have hb := C.1.2.1
  unfold w_X10_peopleAt at h
  refine lv_iconst (v := 0) hx hb dX10_peopleAt_0 (by decide) ?_
  refine lv_istore_n (lv' := [(3, .int (0 : Int32)), (0, .ref (o + 0)), (1, .int a1), (2, .int a2)]) hx hb dX10_peopleAt_1 rfl hl (by decide) rfl (fun ls hl => ?_)
  refine lv_iconst (v := 0) hx hb dX10_peopleAt_2 (by decide) ?_
  refine lv_istore (lv' := [(4, .int (0 : Int32)), (3, .int (0 : Int32)), (0, .ref (o + 0)), (1, .int a1), (2, .int a2)]) hx hb dX10_peopleAt_3 hl (by decide) rfl (fun ls hl => ?_)
  obtain ⟨n5, h⟩ := h
  exact t_X10_peopleAt_5 C n5 _ _ _ _ u0 _ _ _ P (lv_sub hl [2, 3, 4, 1, 0] rfl) h
set_option maxHeartbeats 4000000 in
set_option maxRecDepth 100000 in
theorem c_X10_peopleAt (l : Launch) (D : va_G) (cA : Nat → ClassId) (o : Nat) (a1 : Int32) (a2 : Int32)  (u0 : Mm) (Φ : Int32 → Mm → Prop) (h : w_X10_peopleAt a1 a2 u0 Φ) : Met l yX10_peopleAt wsX10_peopleAt rm_X10_peopleAt (va_Pc [.ref (o + 0), .int a1, .int a2] (Wd 6 o D (tysL cA) (EM cA o u0))) (Qg vI Φ (fun μ => Wd 6 o D (tysL cA) (EM cA o μ)) (aA o 6)) 0 0 (aA o 6) := by
  refine Met.ofW (cc := cX10_peopleAt) (maxL := 5) (ret := (some .int)) (by decide) rfl ?_
  intro p e s m args below meth c s₁ B hml hv
  obtain ⟨rfl, hv⟩ := hv
  have hl := lv_entry ([.ref (o + 0), .int a1, .int a2]) (n := 5) (Nat.le_of_ble_eq_true rfl)
  rw [lg_entry_eq]
  exact t_X10_peopleAt_0 ⟨⟨B.exec, B.bytes, hml, findClass_of_methodNamed B.named, atoms_spec (ws := wsX10_peopleAt) B.pre⟩, B.returns, B.notSynchronized, hv.2⟩ a1 a2 u0 _ _ _ ⟨hv.1, va_S.rf⟩ hl h
abbrev rm_X10_longest : Room := { frames := 3, cells := 0, slots := 0, locals := 69 }
theorem wd_X10_longest_1 : Cond.fieldLink RX10 7 "TurnstileBankModel" "row" "[I" ∈ wsX10_longest := List.mem_of_getElem? (i := 1) (by decide +kernel)
theorem in_X10_longest_10 : ∀ w ∈ wsX100, w ∈ wsX10_longest := fun w h => List.mem_cons_of_mem _ (List.mem_append_right _ h)
def w_X10_longest_7  (Φ : Int32 → Mm → Prop) : Nat → Int32 → Int32 → Int32 → Mm → Prop
  | 0, _, _, _, _ => False
  | n + 1, x1, x2, x3, u0 => (if (u0 1 (1 : Int32).toNatClampNeg) ≤ x3 then (Φ x1 u0) else (w_X10_queueLength x3 ((0 : Int32)) u0 (fun r3 u2 => (w_X10_queueLength x3 ((1 : Int32)) u2 (fun r5 u4 => (if (r3 + r5) ≤ x2 then (if (r3 + r5) ≤ x2 then (w_X10_longest_7 Φ n x1 x2 ((x3 + 1)) u4) else (w_X10_longest_7 Φ n x1 ((r3 + r5)) ((x3 + 1)) u4)) else (if (r3 + r5) ≤ x2 then (w_X10_longest_7 Φ n x3 x2 ((x3 + 1)) u4) else (w_X10_longest_7 Φ n x3 ((r3 + r5)) ((x3 + 1)) u4))))))))
set_option maxHeartbeats 4000000 in
set_option maxRecDepth 100000 in
theorem t_X10_longest_7 {p : Program} {l : Launch} {e : Env} {s : State} {m : MethodId} {args : Array Value} {below : List Frame} {meth : Method} {c : Code} {D : va_G} {cA : Nat → ClassId} {o : Nat}  {Φ : Int32 → Mm → Prop} (C : Cx p m meth c s args cX10_longest 5 wsX10_longest RX10 (some .int) D (tysL cA)) : ∀ n : Nat, ∀ (x1 : Int32) (x2 : Int32) (x3 : Int32) (u0 : Mm), ∀ (H : Heap) (locs : List Loc) (ls : Array Slot), Hp 6 o D (EM cA o u0) s H locs → lv_has ls 5 [(0, .ref (o + 0)), (1, .int x1), (2, .int x2), (3, .int x3)] → w_X10_longest_7 Φ n x1 x2 x3 u0 → W p l e rm_X10_longest s m args below meth c H locs 0 0 (MQ below (Qg vI Φ (fun μ => Wd 6 o D (tysL cA) (EM cA o μ)) (aA o 6)) args s 0 0 (aA o 6)) (F0 m 7 ls []) := by
  intro n
  induction n with
  | zero => intro x1 x2 x3 u0 H locs ls P hl h; exact h.elim
  | succ n ih =>
    intro x1 x2 x3 u0 H locs ls P hl h
    have hx := C.1.1
    have hb := C.1.2.1
    rw [w_X10_longest_7] at h
    refine lv_iload_n hx hb dX10_longest_7 rfl (lv_at hl 3 rfl) ?_
    refine lv_aload_n hx hb dX10_longest_8 rfl (lv_at hl 0 rfl) ?_
    refine g_10_0 C P in_X10_longest_10 wd_X10_longest_1 dX10_longest_9 ?_
    refine lv_iconst (v := 1) hx hb dX10_longest_12 (by decide) ?_
    refine mld_1 C P (by unfold vp_in; decide) dX10_longest_13 ?_
    refine lv_icmp_ge (tgt := 63) hx hb dX10_longest_14 (by decide) (fun c1 => ?_) (fun c1 => ?_)
    · have h := ite_t h c1
      refine lv_iload_n hx hb dX10_longest_63 rfl (lv_at hl 1 rfl) ?_
      exact r_ireti C P h dX10_longest_64
    · have h := ite_f h c1
      refine lv_aload_n hx hb dX10_longest_17 rfl (lv_at hl 0 rfl) ?_
      refine lv_iload_n hx hb dX10_longest_18 rfl (lv_at hl 3 rfl) ?_
      refine lv_iconst (v := 0) hx hb dX10_longest_19 (by decide) ?_
      refine r_calli (F := EM cA o) (va_runV (As := [.int x3, .int (0 : Int32)]) (rest := []) C.1 (c_X10_queueLength l D cA o _ _ u0 _ h) (cwV 2 C.1.2.2.2.2 gX10_longest_X10_queueLength rfl rfl rfl (by decide +kernel) ⟨Nat.le_of_ble_eq_true rfl, Nat.le_of_ble_eq_true rfl⟩) (r_preV C P [.int x3, .int (0 : Int32)] (ci := 10) rfl (by decide) EKM_0) rfl rfl hl.1 rfl (lv_room (Nat.le_of_ble_eq_true rfl)) dX10_longest_20 ⟨Nat.le_of_ble_eq_true rfl, Nat.le_of_ble_eq_true rfl⟩) P.2 (fun r3 u2 H locs h P => ?_)
      refine lv_aload_n hx hb dX10_longest_23 rfl (lv_at hl 0 rfl) ?_
      refine lv_iload_n hx hb dX10_longest_24 rfl (lv_at hl 3 rfl) ?_
      refine lv_iconst (v := 1) hx hb dX10_longest_25 (by decide) ?_
      refine r_calli (F := EM cA o) (va_runV (As := [.int x3, .int (1 : Int32)]) (rest := [.int r3]) C.1 (c_X10_queueLength l D cA o _ _ u2 _ h) (cwV 2 C.1.2.2.2.2 gX10_longest_X10_queueLength rfl rfl rfl (by decide +kernel) ⟨Nat.le_of_ble_eq_true rfl, Nat.le_of_ble_eq_true rfl⟩) (r_preV C P [.int x3, .int (1 : Int32)] (ci := 10) rfl (by decide) EKM_0) rfl rfl hl.1 rfl (lv_room (Nat.le_of_ble_eq_true rfl)) dX10_longest_26 ⟨Nat.le_of_ble_eq_true rfl, Nat.le_of_ble_eq_true rfl⟩) P.2 (fun r5 u4 H locs h P => ?_)
      refine lv_iadd hx hb dX10_longest_29 ?_
      refine lv_istore (lv' := [(4, .int (r3 + r5)), (0, .ref (o + 0)), (1, .int x1), (2, .int x2), (3, .int x3)]) hx hb dX10_longest_30 hl (by decide) rfl (fun ls hl => ?_)
      refine lv_iload hx hb dX10_longest_32 (lv_at hl 0 rfl) ?_
      refine lv_iload_n hx hb dX10_longest_34 rfl (lv_at hl 3 rfl) ?_
      refine lv_icmp_le (tgt := 42) hx hb dX10_longest_35 (by decide) (fun c6 => ?_) (fun c6 => ?_)
      · have h := ite_t h c6
        refine lv_iload_n hx hb dX10_longest_42 rfl (lv_at hl 2 rfl) ?_
        refine lv_istore_n (lv' := [(1, .int x1), (4, .int (r3 + r5)), (0, .ref (o + 0)), (2, .int x2), (3, .int x3)]) hx hb dX10_longest_43 rfl hl (by decide) rfl (fun ls hl => ?_)
        refine lv_iload hx hb dX10_longest_44 (lv_at hl 1 rfl) ?_
        refine lv_iload_n hx hb dX10_longest_46 rfl (lv_at hl 3 rfl) ?_
        refine lv_icmp_le (tgt := 55) hx hb dX10_longest_47 (by decide) (fun c7 => ?_) (fun c7 => ?_)
        · have h := ite_t h c7
          refine lv_iload_n hx hb dX10_longest_55 rfl (lv_at hl 3 rfl) ?_
          refine lv_istore_n (lv' := [(2, .int x2), (1, .int x1), (4, .int (r3 + r5)), (0, .ref (o + 0)), (3, .int x3)]) hx hb dX10_longest_56 rfl hl (by decide) rfl (fun ls hl => ?_)
          refine lv_iinc (v := (x3 + 1)) (lv' := [(3, .int (x3 + 1)), (2, .int x2), (1, .int x1), (4, .int (r3 + r5)), (0, .ref (o + 0))]) hx hb dX10_longest_57 hl (k := 4) rfl rfl (by decide) rfl (fun ls hl => ?_)
          refine lv_goto (tgt := 7) hx hb dX10_longest_60 (by decide) ?_
          exact ih _ _ _ u4 _ _ _ P (lv_sub hl [4, 2, 1, 0] rfl) h
        · have h := ite_f h c7
          refine lv_iload hx hb dX10_longest_50 (lv_at hl 1 rfl) ?_
          refine lv_goto (tgt := 56) hx hb dX10_longest_52 (by decide) ?_
          refine lv_istore_n (lv' := [(2, .int (r3 + r5)), (1, .int x1), (4, .int (r3 + r5)), (0, .ref (o + 0)), (3, .int x3)]) hx hb dX10_longest_56 rfl hl (by decide) rfl (fun ls hl => ?_)
          refine lv_iinc (v := (x3 + 1)) (lv' := [(3, .int (x3 + 1)), (2, .int (r3 + r5)), (1, .int x1), (4, .int (r3 + r5)), (0, .ref (o + 0))]) hx hb dX10_longest_57 hl (k := 4) rfl rfl (by decide) rfl (fun ls hl => ?_)
          refine lv_goto (tgt := 7) hx hb dX10_longest_60 (by decide) ?_
          exact ih _ _ _ u4 _ _ _ P (lv_sub hl [4, 2, 1, 0] rfl) h
      · have h := ite_f h c6
        refine lv_iload_n hx hb dX10_longest_38 rfl (lv_at hl 4 rfl) ?_
        refine lv_goto (tgt := 43) hx hb dX10_longest_39 (by decide) ?_
        refine lv_istore_n (lv' := [(1, .int x3), (4, .int (r3 + r5)), (0, .ref (o + 0)), (2, .int x2), (3, .int x3)]) hx hb dX10_longest_43 rfl hl (by decide) rfl (fun ls hl => ?_)
        refine lv_iload hx hb dX10_longest_44 (lv_at hl 1 rfl) ?_
        refine lv_iload_n hx hb dX10_longest_46 rfl (lv_at hl 3 rfl) ?_
        refine lv_icmp_le (tgt := 55) hx hb dX10_longest_47 (by decide) (fun c8 => ?_) (fun c8 => ?_)
        · have h := ite_t h c8
          refine lv_iload_n hx hb dX10_longest_55 rfl (lv_at hl 3 rfl) ?_
          refine lv_istore_n (lv' := [(2, .int x2), (1, .int x3), (4, .int (r3 + r5)), (0, .ref (o + 0)), (3, .int x3)]) hx hb dX10_longest_56 rfl hl (by decide) rfl (fun ls hl => ?_)
          refine lv_iinc (v := (x3 + 1)) (lv' := [(3, .int (x3 + 1)), (2, .int x2), (1, .int x3), (4, .int (r3 + r5)), (0, .ref (o + 0))]) hx hb dX10_longest_57 hl (k := 4) rfl rfl (by decide) rfl (fun ls hl => ?_)
          refine lv_goto (tgt := 7) hx hb dX10_longest_60 (by decide) ?_
          exact ih _ _ _ u4 _ _ _ P (lv_sub hl [4, 2, 1, 0] rfl) h
        · have h := ite_f h c8
          refine lv_iload hx hb dX10_longest_50 (lv_at hl 1 rfl) ?_
          refine lv_goto (tgt := 56) hx hb dX10_longest_52 (by decide) ?_
          refine lv_istore_n (lv' := [(2, .int (r3 + r5)), (1, .int x3), (4, .int (r3 + r5)), (0, .ref (o + 0)), (3, .int x3)]) hx hb dX10_longest_56 rfl hl (by decide) rfl (fun ls hl => ?_)
          refine lv_iinc (v := (x3 + 1)) (lv' := [(3, .int (x3 + 1)), (2, .int (r3 + r5)), (1, .int x3), (4, .int (r3 + r5)), (0, .ref (o + 0))]) hx hb dX10_longest_57 hl (k := 4) rfl rfl (by decide) rfl (fun ls hl => ?_)
          refine lv_goto (tgt := 7) hx hb dX10_longest_60 (by decide) ?_
          exact ih _ _ _ u4 _ _ _ P (lv_sub hl [4, 2, 1, 0] rfl) h
def w_X10_longest  (u0 : Mm) (Φ : Int32 → Mm → Prop) : Prop := (∃ n7 : Nat, w_X10_longest_7 Φ n7 ((-5 : Int32)) ((-1 : Int32)) ((0 : Int32)) u0)
set_option maxHeartbeats 4000000 in
set_option maxRecDepth 100000 in
theorem t_X10_longest_0 {p : Program} {l : Launch} {e : Env} {s : State} {m : MethodId} {args : Array Value} {below : List Frame} {meth : Method} {c : Code} {D : va_G} {cA : Nat → ClassId} {o : Nat}  {Φ : Int32 → Mm → Prop} (C : Cx p m meth c s args cX10_longest 5 wsX10_longest RX10 (some .int) D (tysL cA)) : ∀  (u0 : Mm), ∀ (H : Heap) (locs : List Loc) (ls : Array Slot), Hp 6 o D (EM cA o u0) s H locs → lv_has ls 5 [(0, .ref (o + 0))] → w_X10_longest u0 Φ → W p l e rm_X10_longest s m args below meth c H locs 0 0 (MQ below (Qg vI Φ (fun μ => Wd 6 o D (tysL cA) (EM cA o μ)) (aA o 6)) args s 0 0 (aA o 6)) (F0 m 0 ls []) := by
  intro u0 H locs ls P hl h
  have hx := C.1.1
  have hb := C.1.2.1
  unfold w_X10_longest at h
  refine lv_bipush (v := -5) hx hb dX10_longest_0 (by decide) ?_
  refine lv_istore_n (lv' := [(1, .int (-5 : Int32)), (0, .ref (o + 0))]) hx hb dX10_longest_2 rfl hl (by decide) rfl (fun ls hl => ?_)
  refine lv_iconst (v := -1) hx hb dX10_longest_3 (by decide) ?_
  refine lv_istore_n (lv' := [(2, .int (-1 : Int32)), (1, .int (-5 : Int32)), (0, .ref (o + 0))]) hx hb dX10_longest_4 rfl hl (by decide) rfl (fun ls hl => ?_)
  refine lv_iconst (v := 0) hx hb dX10_longest_5 (by decide) ?_
  refine lv_istore_n (lv' := [(3, .int (0 : Int32)), (2, .int (-1 : Int32)), (1, .int (-5 : Int32)), (0, .ref (o + 0))]) hx hb dX10_longest_6 rfl hl (by decide) rfl (fun ls hl => ?_)
  obtain ⟨n7, h⟩ := h
  exact t_X10_longest_7 C n7 _ _ _ u0 _ _ _ P (lv_sub hl [3, 2, 1, 0] rfl) h
set_option maxHeartbeats 4000000 in
set_option maxRecDepth 100000 in
theorem c_X10_longest (l : Launch) (D : va_G) (cA : Nat → ClassId) (o : Nat)   (u0 : Mm) (Φ : Int32 → Mm → Prop) (h : w_X10_longest u0 Φ) : Met l yX10_longest wsX10_longest rm_X10_longest (va_Pc [.ref (o + 0)] (Wd 6 o D (tysL cA) (EM cA o u0))) (Qg vI Φ (fun μ => Wd 6 o D (tysL cA) (EM cA o μ)) (aA o 6)) 0 0 (aA o 6) := by
  refine Met.ofW (cc := cX10_longest) (maxL := 5) (ret := (some .int)) (by decide) rfl ?_
  intro p e s m args below meth c s₁ B hml hv
  obtain ⟨rfl, hv⟩ := hv
  have hl := lv_entry ([.ref (o + 0)]) (n := 5) (Nat.le_of_ble_eq_true rfl)
  rw [lg_entry_eq]
  exact t_X10_longest_0 ⟨⟨B.exec, B.bytes, hml, findClass_of_methodNamed B.named, atoms_spec (ws := wsX10_longest) B.pre⟩, B.returns, B.notSynchronized, hv.2⟩ u0 _ _ _ ⟨hv.1, va_S.rf⟩ hl h
abbrev rm_X10_count : Room := { frames := 4, cells := 0, slots := 0, locals := 93 }
theorem wd_X10_count_1 : Cond.fieldLink RX10 7 "TurnstileBankModel" "row" "[I" ∈ wsX10_count := List.mem_of_getElem? (i := 1) (by decide +kernel)
theorem wd_X10_count_2 : Cond.fieldLink RX10 26 "TurnstileBankModel" "kept" "I" ∈ wsX10_count := List.mem_of_getElem? (i := 2) (by decide +kernel)
theorem wd_X10_count_3 : Cond.fieldLink RX10 150 "TurnstileBankModel" "typed" "I" ∈ wsX10_count := List.mem_of_getElem? (i := 3) (by decide +kernel)
theorem in_X10_count_10 : ∀ w ∈ wsX100, w ∈ wsX10_count := fun w h => List.mem_cons_of_mem _ (List.mem_append_right _ h)
def w_X10_count_35  (Φ : Int32 → Mm → Prop) : Nat → Int32 → Int32 → Int32 → Int32 → Mm → Prop
  | 0, _, _, _, _, _ => False
  | n + 1, x1, x2, x3, x4, u0 => (if (u0 1 (4 : Int32).toNatClampNeg) ≤ x4 then (if x1 = 0 then (Φ ((u0 1 (0 : Int32).toNatClampNeg)) u0) else (if x1 = 1 then (Φ ((u0 1 (1 : Int32).toNatClampNeg)) u0) else (if x1 = 2 then (Φ ((u0 1 (2 : Int32).toNatClampNeg)) u0) else (if x1 = 3 then (w_X10_peopleAt ((3 : Int32)) ((4 : Int32)) u0 (fun r7 u6 => (Φ r7 u6))) else (if x1 = 4 then (w_X10_peopleAt ((1 : Int32)) ((1 : Int32)) u0 (fun r10 u9 => (Φ r10 u9))) else (if x1 = 5 then (w_X10_peopleAt ((2 : Int32)) ((2 : Int32)) u0 (fun r13 u12 => (Φ r13 u12))) else (if x1 = 6 then (w_X10_peopleAt ((5 : Int32)) ((5 : Int32)) u0 (fun r16 u15 => (Φ r16 u15))) else (if x1 = 7 then (Φ x2 u0) else (if x1 = 8 then (Φ x3 u0) else (if x1 = 9 then (Φ ((u0 1 (6 : Int32).toNatClampNeg)) u0) else (if x1 = 10 then (w_X10_longest u0 (fun r22 u21 => (Φ r22 u21))) else (if x1 = 11 then (Φ ((u0 0 3)) u0) else (if x1 = 12 then (Φ ((u0 0 4)) u0) else (Φ ((-2 : Int32)) u0)))))))))))))) else (vp_in (((424 : Int32) + ((3 : Int32) * x4)) + (2 : Int32)) 516 ∧ (w_X10_count_35 Φ n x1 x2 ((x3 + (u0 1 (((424 : Int32) + ((3 : Int32) * x4)) + (2 : Int32)).toNatClampNeg))) ((x4 + 1)) u0)))
set_option maxHeartbeats 4000000 in
set_option maxRecDepth 100000 in
theorem t_X10_count_35 {p : Program} {l : Launch} {e : Env} {s : State} {m : MethodId} {args : Array Value} {below : List Frame} {meth : Method} {c : Code} {D : va_G} {cA : Nat → ClassId} {o : Nat}  {Φ : Int32 → Mm → Prop} (C : Cx p m meth c s args cX10_count 5 wsX10_count RX10 (some .int) D (tysL cA)) : ∀ n : Nat, ∀ (x1 : Int32) (x2 : Int32) (x3 : Int32) (x4 : Int32) (u0 : Mm), ∀ (H : Heap) (locs : List Loc) (ls : Array Slot), Hp 6 o D (EM cA o u0) s H locs → lv_has ls 5 [(0, .ref (o + 0)), (1, .int x1), (2, .int x2), (3, .int x3), (4, .int x4)] → w_X10_count_35 Φ n x1 x2 x3 x4 u0 → W p l e rm_X10_count s m args below meth c H locs 0 0 (MQ below (Qg vI Φ (fun μ => Wd 6 o D (tysL cA) (EM cA o μ)) (aA o 6)) args s 0 0 (aA o 6)) (F0 m 35 ls []) := by
  intro n
  induction n with
  | zero => intro x1 x2 x3 x4 u0 H locs ls P hl h; exact h.elim
  | succ n ih =>
    intro x1 x2 x3 x4 u0 H locs ls P hl h
    have hx := C.1.1
    have hb := C.1.2.1
    rw [w_X10_count_35] at h
    refine lv_iload hx hb dX10_count_35 (lv_at hl 4 rfl) ?_
    refine lv_aload_n hx hb dX10_count_37 rfl (lv_at hl 0 rfl) ?_
    refine g_10_0 C P in_X10_count_10 wd_X10_count_1 dX10_count_38 ?_
    refine lv_iconst (v := 4) hx hb dX10_count_41 (by decide) ?_
    refine mld_1 C P (by unfold vp_in; decide) dX10_count_42 ?_
    refine lv_icmp_ge (tgt := 70) hx hb dX10_count_43 (by decide) (fun c2 => ?_) (fun c2 => ?_)
    · have h := ite_t h c2
      refine lv_iload_n hx hb dX10_count_70 rfl (lv_at hl 1 rfl) ?_
      by_cases c3 : x1 = 0
      · have h := ite_t h c3
        rw [c3]
        refine lv_tableIn (off := 65) (tgt := 136) hx hb dX10_count_71 (by decide) (by decide) (by decide) (by decide) ?_
        refine lv_aload_n hx hb dX10_count_136 rfl (lv_at hl 0 rfl) ?_
        refine g_10_0 C P in_X10_count_10 wd_X10_count_1 dX10_count_137 ?_
        refine lv_iconst (v := 0) hx hb dX10_count_140 (by decide) ?_
        refine mld_1 C P (by unfold vp_in; decide) dX10_count_141 ?_
        exact r_ireti C P h dX10_count_142
      have h := ite_f h c3
      by_cases c4 : x1 = 1
      · have h := ite_t h c4
        rw [c4]
        refine lv_tableIn (off := 72) (tgt := 143) hx hb dX10_count_71 (by decide) (by decide) (by decide) (by decide) ?_
        refine lv_aload_n hx hb dX10_count_143 rfl (lv_at hl 0 rfl) ?_
        refine g_10_0 C P in_X10_count_10 wd_X10_count_1 dX10_count_144 ?_
        refine lv_iconst (v := 1) hx hb dX10_count_147 (by decide) ?_
        refine mld_1 C P (by unfold vp_in; decide) dX10_count_148 ?_
        exact r_ireti C P h dX10_count_149
      have h := ite_f h c4
      by_cases c5 : x1 = 2
      · have h := ite_t h c5
        rw [c5]
        refine lv_tableIn (off := 79) (tgt := 150) hx hb dX10_count_71 (by decide) (by decide) (by decide) (by decide) ?_
        refine lv_aload_n hx hb dX10_count_150 rfl (lv_at hl 0 rfl) ?_
        refine g_10_0 C P in_X10_count_10 wd_X10_count_1 dX10_count_151 ?_
        refine lv_iconst (v := 2) hx hb dX10_count_154 (by decide) ?_
        refine mld_1 C P (by unfold vp_in; decide) dX10_count_155 ?_
        exact r_ireti C P h dX10_count_156
      have h := ite_f h c5
      by_cases c8 : x1 = 3
      · have h := ite_t h c8
        rw [c8]
        refine lv_tableIn (off := 86) (tgt := 157) hx hb dX10_count_71 (by decide) (by decide) (by decide) (by decide) ?_
        refine lv_aload_n hx hb dX10_count_157 rfl (lv_at hl 0 rfl) ?_
        refine lv_iconst (v := 3) hx hb dX10_count_158 (by decide) ?_
        refine lv_iconst (v := 4) hx hb dX10_count_159 (by decide) ?_
        refine r_calli (F := EM cA o) (va_runV (As := [.int (3 : Int32), .int (4 : Int32)]) (rest := []) C.1 (c_X10_peopleAt l D cA o _ _ u0 _ h) (cwV 2 C.1.2.2.2.2 gX10_count_X10_peopleAt rfl rfl rfl (by decide +kernel) ⟨Nat.le_of_ble_eq_true rfl, Nat.le_of_ble_eq_true rfl⟩) (r_preV C P [.int (3 : Int32), .int (4 : Int32)] (ci := 10) rfl (by decide) EKM_0) rfl rfl hl.1 rfl (lv_room (Nat.le_of_ble_eq_true rfl)) dX10_count_160 ⟨Nat.le_of_ble_eq_true rfl, Nat.le_of_ble_eq_true rfl⟩) P.2 (fun r7 u6 H locs h P => ?_)
        exact r_ireti C P h dX10_count_163
      have h := ite_f h c8
      by_cases c11 : x1 = 4
      · have h := ite_t h c11
        rw [c11]
        refine lv_tableIn (off := 93) (tgt := 164) hx hb dX10_count_71 (by decide) (by decide) (by decide) (by decide) ?_
        refine lv_aload_n hx hb dX10_count_164 rfl (lv_at hl 0 rfl) ?_
        refine lv_iconst (v := 1) hx hb dX10_count_165 (by decide) ?_
        refine lv_iconst (v := 1) hx hb dX10_count_166 (by decide) ?_
        refine r_calli (F := EM cA o) (va_runV (As := [.int (1 : Int32), .int (1 : Int32)]) (rest := []) C.1 (c_X10_peopleAt l D cA o _ _ u0 _ h) (cwV 2 C.1.2.2.2.2 gX10_count_X10_peopleAt rfl rfl rfl (by decide +kernel) ⟨Nat.le_of_ble_eq_true rfl, Nat.le_of_ble_eq_true rfl⟩) (r_preV C P [.int (1 : Int32), .int (1 : Int32)] (ci := 10) rfl (by decide) EKM_0) rfl rfl hl.1 rfl (lv_room (Nat.le_of_ble_eq_true rfl)) dX10_count_167 ⟨Nat.le_of_ble_eq_true rfl, Nat.le_of_ble_eq_true rfl⟩) P.2 (fun r10 u9 H locs h P => ?_)
        exact r_ireti C P h dX10_count_170
      have h := ite_f h c11
      by_cases c14 : x1 = 5
      · have h := ite_t h c14
        rw [c14]
        refine lv_tableIn (off := 100) (tgt := 171) hx hb dX10_count_71 (by decide) (by decide) (by decide) (by decide) ?_
        refine lv_aload_n hx hb dX10_count_171 rfl (lv_at hl 0 rfl) ?_
        refine lv_iconst (v := 2) hx hb dX10_count_172 (by decide) ?_
        refine lv_iconst (v := 2) hx hb dX10_count_173 (by decide) ?_
        refine r_calli (F := EM cA o) (va_runV (As := [.int (2 : Int32), .int (2 : Int32)]) (rest := []) C.1 (c_X10_peopleAt l D cA o _ _ u0 _ h) (cwV 2 C.1.2.2.2.2 gX10_count_X10_peopleAt rfl rfl rfl (by decide +kernel) ⟨Nat.le_of_ble_eq_true rfl, Nat.le_of_ble_eq_true rfl⟩) (r_preV C P [.int (2 : Int32), .int (2 : Int32)] (ci := 10) rfl (by decide) EKM_0) rfl rfl hl.1 rfl (lv_room (Nat.le_of_ble_eq_true rfl)) dX10_count_174 ⟨Nat.le_of_ble_eq_true rfl, Nat.le_of_ble_eq_true rfl⟩) P.2 (fun r13 u12 H locs h P => ?_)
        exact r_ireti C P h dX10_count_177
      have h := ite_f h c14
      by_cases c17 : x1 = 6
      · have h := ite_t h c17
        rw [c17]
        refine lv_tableIn (off := 107) (tgt := 178) hx hb dX10_count_71 (by decide) (by decide) (by decide) (by decide) ?_
        refine lv_aload_n hx hb dX10_count_178 rfl (lv_at hl 0 rfl) ?_
        refine lv_iconst (v := 5) hx hb dX10_count_179 (by decide) ?_
        refine lv_iconst (v := 5) hx hb dX10_count_180 (by decide) ?_
        refine r_calli (F := EM cA o) (va_runV (As := [.int (5 : Int32), .int (5 : Int32)]) (rest := []) C.1 (c_X10_peopleAt l D cA o _ _ u0 _ h) (cwV 2 C.1.2.2.2.2 gX10_count_X10_peopleAt rfl rfl rfl (by decide +kernel) ⟨Nat.le_of_ble_eq_true rfl, Nat.le_of_ble_eq_true rfl⟩) (r_preV C P [.int (5 : Int32), .int (5 : Int32)] (ci := 10) rfl (by decide) EKM_0) rfl rfl hl.1 rfl (lv_room (Nat.le_of_ble_eq_true rfl)) dX10_count_181 ⟨Nat.le_of_ble_eq_true rfl, Nat.le_of_ble_eq_true rfl⟩) P.2 (fun r16 u15 H locs h P => ?_)
        exact r_ireti C P h dX10_count_184
      have h := ite_f h c17
      by_cases c18 : x1 = 7
      · have h := ite_t h c18
        rw [c18]
        refine lv_tableIn (off := 114) (tgt := 185) hx hb dX10_count_71 (by decide) (by decide) (by decide) (by decide) ?_
        refine lv_iload_n hx hb dX10_count_185 rfl (lv_at hl 2 rfl) ?_
        exact r_ireti C P h dX10_count_186
      have h := ite_f h c18
      by_cases c19 : x1 = 8
      · have h := ite_t h c19
        rw [c19]
        refine lv_tableIn (off := 116) (tgt := 187) hx hb dX10_count_71 (by decide) (by decide) (by decide) (by decide) ?_
        refine lv_iload_n hx hb dX10_count_187 rfl (lv_at hl 3 rfl) ?_
        exact r_ireti C P h dX10_count_188
      have h := ite_f h c19
      by_cases c20 : x1 = 9
      · have h := ite_t h c20
        rw [c20]
        refine lv_tableIn (off := 118) (tgt := 189) hx hb dX10_count_71 (by decide) (by decide) (by decide) (by decide) ?_
        refine lv_aload_n hx hb dX10_count_189 rfl (lv_at hl 0 rfl) ?_
        refine g_10_0 C P in_X10_count_10 wd_X10_count_1 dX10_count_190 ?_
        refine lv_bipush (v := 6) hx hb dX10_count_193 (by decide) ?_
        refine mld_1 C P (by unfold vp_in; decide) dX10_count_195 ?_
        exact r_ireti C P h dX10_count_196
      have h := ite_f h c20
      by_cases c23 : x1 = 10
      · have h := ite_t h c23
        rw [c23]
        refine lv_tableIn (off := 126) (tgt := 197) hx hb dX10_count_71 (by decide) (by decide) (by decide) (by decide) ?_
        refine lv_aload_n hx hb dX10_count_197 rfl (lv_at hl 0 rfl) ?_
        refine r_calli (F := EM cA o) (va_runV (As := []) (rest := []) C.1 (c_X10_longest l D cA o u0 _ h) (cwV 0 C.1.2.2.2.2 gX10_count_X10_longest rfl rfl rfl (by decide +kernel) ⟨Nat.le_of_ble_eq_true rfl, Nat.le_of_ble_eq_true rfl⟩) (r_preV C P [] (ci := 10) rfl (by decide) EKM_0) rfl rfl hl.1 rfl (lv_room (Nat.le_of_ble_eq_true rfl)) dX10_count_198 ⟨Nat.le_of_ble_eq_true rfl, Nat.le_of_ble_eq_true rfl⟩) P.2 (fun r22 u21 H locs h P => ?_)
        exact r_ireti C P h dX10_count_201
      have h := ite_f h c23
      by_cases c24 : x1 = 11
      · have h := ite_t h c24
        rw [c24]
        refine lv_tableIn (off := 131) (tgt := 202) hx hb dX10_count_71 (by decide) (by decide) (by decide) (by decide) ?_
        refine lv_aload_n hx hb dX10_count_202 rfl (lv_at hl 0 rfl) ?_
        refine g_10_3 C P in_X10_count_10 wd_X10_count_2 dX10_count_203 ?_
        exact r_ireti C P h dX10_count_206
      have h := ite_f h c24
      by_cases c25 : x1 = 12
      · have h := ite_t h c25
        rw [c25]
        refine lv_tableIn (off := 136) (tgt := 207) hx hb dX10_count_71 (by decide) (by decide) (by decide) (by decide) ?_
        refine lv_aload_n hx hb dX10_count_207 rfl (lv_at hl 0 rfl) ?_
        refine g_10_4 C P in_X10_count_10 wd_X10_count_3 dX10_count_208 ?_
        exact r_ireti C P h dX10_count_211
      have h := ite_f h c25
      refine lv_tableOut (tgt := 212) hx hb dX10_count_71 (by have q0 : x1.toInt ≠ 0 := fun e => c3 (Int32.toInt_inj.mp e); have q1 : x1.toInt ≠ 1 := fun e => c4 (Int32.toInt_inj.mp e); have q2 : x1.toInt ≠ 2 := fun e => c5 (Int32.toInt_inj.mp e); have q3 : x1.toInt ≠ 3 := fun e => c8 (Int32.toInt_inj.mp e); have q4 : x1.toInt ≠ 4 := fun e => c11 (Int32.toInt_inj.mp e); have q5 : x1.toInt ≠ 5 := fun e => c14 (Int32.toInt_inj.mp e); have q6 : x1.toInt ≠ 6 := fun e => c17 (Int32.toInt_inj.mp e); have q7 : x1.toInt ≠ 7 := fun e => c18 (Int32.toInt_inj.mp e); have q8 : x1.toInt ≠ 8 := fun e => c19 (Int32.toInt_inj.mp e); have q9 : x1.toInt ≠ 9 := fun e => c20 (Int32.toInt_inj.mp e); have q10 : x1.toInt ≠ 10 := fun e => c23 (Int32.toInt_inj.mp e); have q11 : x1.toInt ≠ 11 := fun e => c24 (Int32.toInt_inj.mp e); have q12 : x1.toInt ≠ 12 := fun e => c25 (Int32.toInt_inj.mp e); omega) (by decide) ?_
      refine lv_bipush (v := -2) hx hb dX10_count_212 (by decide) ?_
      exact r_ireti C P h dX10_count_214
    · have h := ite_f h c2
      refine lv_iload_n hx hb dX10_count_46 rfl (lv_at hl 3 rfl) ?_
      refine lv_aload_n hx hb dX10_count_47 rfl (lv_at hl 0 rfl) ?_
      refine g_10_0 C P in_X10_count_10 wd_X10_count_1 dX10_count_48 ?_
      refine lv_sipush (v := 424) hx hb dX10_count_51 (by decide) ?_
      refine lv_iconst (v := 3) hx hb dX10_count_54 (by decide) ?_
      refine lv_iload hx hb dX10_count_55 (lv_at hl 4 rfl) ?_
      refine lv_imul hx hb dX10_count_57 ?_
      refine lv_iadd hx hb dX10_count_58 ?_
      refine lv_iconst (v := 2) hx hb dX10_count_59 (by decide) ?_
      refine lv_iadd hx hb dX10_count_60 ?_
      obtain ⟨hi, h⟩ := h
      refine mld_1 C P hi dX10_count_61 ?_
      refine lv_iadd hx hb dX10_count_62 ?_
      refine lv_istore_n (lv' := [(3, .int (x3 + (u0 1 (((424 : Int32) + ((3 : Int32) * x4)) + (2 : Int32)).toNatClampNeg))), (0, .ref (o + 0)), (1, .int x1), (2, .int x2), (4, .int x4)]) hx hb dX10_count_63 rfl hl (by decide) rfl (fun ls hl => ?_)
      refine lv_iinc (v := (x4 + 1)) (lv' := [(4, .int (x4 + 1)), (3, .int (x3 + (u0 1 (((424 : Int32) + ((3 : Int32) * x4)) + (2 : Int32)).toNatClampNeg))), (0, .ref (o + 0)), (1, .int x1), (2, .int x2)]) hx hb dX10_count_64 hl (k := 4) rfl rfl (by decide) rfl (fun ls hl => ?_)
      refine lv_goto (tgt := 35) hx hb dX10_count_67 (by decide) ?_
      exact ih _ _ _ _ u0 _ _ _ P (lv_sub hl [2, 3, 4, 1, 0] rfl) h
def w_X10_count_4  (Φ : Int32 → Mm → Prop) : Nat → Int32 → Int32 → Int32 → Mm → Prop
  | 0, _, _, _, _ => False
  | n + 1, x1, x2, x3, u0 => (if (u0 1 (1 : Int32).toNatClampNeg) ≤ x3 then (∃ n35 : Nat, w_X10_count_35 Φ n35 x1 x2 ((0 : Int32)) ((0 : Int32)) u0) else (w_X10_gateOf x3 ((12 : Int32)) u0 (fun r27 u26 => (w_X10_count_4 Φ n x1 ((x2 + r27)) ((x3 + 1)) u26))))
set_option maxHeartbeats 4000000 in
set_option maxRecDepth 100000 in
theorem t_X10_count_4 {p : Program} {l : Launch} {e : Env} {s : State} {m : MethodId} {args : Array Value} {below : List Frame} {meth : Method} {c : Code} {D : va_G} {cA : Nat → ClassId} {o : Nat}  {Φ : Int32 → Mm → Prop} (C : Cx p m meth c s args cX10_count 5 wsX10_count RX10 (some .int) D (tysL cA)) : ∀ n : Nat, ∀ (x1 : Int32) (x2 : Int32) (x3 : Int32) (u0 : Mm), ∀ (H : Heap) (locs : List Loc) (ls : Array Slot), Hp 6 o D (EM cA o u0) s H locs → lv_has ls 5 [(0, .ref (o + 0)), (1, .int x1), (2, .int x2), (3, .int x3)] → w_X10_count_4 Φ n x1 x2 x3 u0 → W p l e rm_X10_count s m args below meth c H locs 0 0 (MQ below (Qg vI Φ (fun μ => Wd 6 o D (tysL cA) (EM cA o μ)) (aA o 6)) args s 0 0 (aA o 6)) (F0 m 4 ls []) := by
  intro n
  induction n with
  | zero => intro x1 x2 x3 u0 H locs ls P hl h; exact h.elim
  | succ n ih =>
    intro x1 x2 x3 u0 H locs ls P hl h
    have hx := C.1.1
    have hb := C.1.2.1
    rw [w_X10_count_4] at h
    refine lv_iload_n hx hb dX10_count_4 rfl (lv_at hl 3 rfl) ?_
    refine lv_aload_n hx hb dX10_count_5 rfl (lv_at hl 0 rfl) ?_
    refine g_10_0 C P in_X10_count_10 wd_X10_count_1 dX10_count_6 ?_
    refine lv_iconst (v := 1) hx hb dX10_count_9 (by decide) ?_
    refine mld_1 C P (by unfold vp_in; decide) dX10_count_10 ?_
    refine lv_icmp_ge (tgt := 30) hx hb dX10_count_11 (by decide) (fun c1 => ?_) (fun c1 => ?_)
    · have h := ite_t h c1
      refine lv_iconst (v := 0) hx hb dX10_count_30 (by decide) ?_
      refine lv_istore_n (lv' := [(3, .int (0 : Int32)), (0, .ref (o + 0)), (1, .int x1), (2, .int x2)]) hx hb dX10_count_31 rfl hl (by decide) rfl (fun ls hl => ?_)
      refine lv_iconst (v := 0) hx hb dX10_count_32 (by decide) ?_
      refine lv_istore (lv' := [(4, .int (0 : Int32)), (3, .int (0 : Int32)), (0, .ref (o + 0)), (1, .int x1), (2, .int x2)]) hx hb dX10_count_33 hl (by decide) rfl (fun ls hl => ?_)
      obtain ⟨n35, h⟩ := h
      exact t_X10_count_35 C n35 _ _ _ _ u0 _ _ _ P (lv_sub hl [2, 3, 4, 1, 0] rfl) h
    · have h := ite_f h c1
      refine lv_iload_n hx hb dX10_count_14 rfl (lv_at hl 2 rfl) ?_
      refine lv_aload_n hx hb dX10_count_15 rfl (lv_at hl 0 rfl) ?_
      refine lv_iload_n hx hb dX10_count_16 rfl (lv_at hl 3 rfl) ?_
      refine lv_bipush (v := 12) hx hb dX10_count_17 (by decide) ?_
      refine r_calli (F := EM cA o) (va_runV (As := [.int x3, .int (12 : Int32)]) (rest := [.int x2]) C.1 (c_X10_gateOf l D cA o _ _ u0 _ h) (cwV 2 C.1.2.2.2.2 gX10_count_X10_gateOf rfl rfl rfl (by decide +kernel) ⟨Nat.le_of_ble_eq_true rfl, Nat.le_of_ble_eq_true rfl⟩) (r_preV C P [.int x3, .int (12 : Int32)] (ci := 10) rfl (by decide) EKM_0) rfl rfl hl.1 rfl (lv_room (Nat.le_of_ble_eq_true rfl)) dX10_count_19 ⟨Nat.le_of_ble_eq_true rfl, Nat.le_of_ble_eq_true rfl⟩) P.2 (fun r27 u26 H locs h P => ?_)
      refine lv_iadd hx hb dX10_count_22 ?_
      refine lv_istore_n (lv' := [(2, .int (x2 + r27)), (0, .ref (o + 0)), (1, .int x1), (3, .int x3)]) hx hb dX10_count_23 rfl hl (by decide) rfl (fun ls hl => ?_)
      refine lv_iinc (v := (x3 + 1)) (lv' := [(3, .int (x3 + 1)), (2, .int (x2 + r27)), (0, .ref (o + 0)), (1, .int x1)]) hx hb dX10_count_24 hl (k := 3) rfl rfl (by decide) rfl (fun ls hl => ?_)
      refine lv_goto (tgt := 4) hx hb dX10_count_27 (by decide) ?_
      exact ih _ _ _ u26 _ _ _ P (lv_sub hl [2, 3, 1, 0] rfl) h
def w_X10_count (a1 : Int32) (u0 : Mm) (Φ : Int32 → Mm → Prop) : Prop := (∃ n4 : Nat, w_X10_count_4 Φ n4 a1 ((0 : Int32)) ((0 : Int32)) u0)
set_option maxHeartbeats 4000000 in
set_option maxRecDepth 100000 in
theorem t_X10_count_0 {p : Program} {l : Launch} {e : Env} {s : State} {m : MethodId} {args : Array Value} {below : List Frame} {meth : Method} {c : Code} {D : va_G} {cA : Nat → ClassId} {o : Nat}  {Φ : Int32 → Mm → Prop} (C : Cx p m meth c s args cX10_count 5 wsX10_count RX10 (some .int) D (tysL cA)) : ∀ (a1 : Int32) (u0 : Mm), ∀ (H : Heap) (locs : List Loc) (ls : Array Slot), Hp 6 o D (EM cA o u0) s H locs → lv_has ls 5 [(0, .ref (o + 0)), (1, .int a1)] → w_X10_count a1 u0 Φ → W p l e rm_X10_count s m args below meth c H locs 0 0 (MQ below (Qg vI Φ (fun μ => Wd 6 o D (tysL cA) (EM cA o μ)) (aA o 6)) args s 0 0 (aA o 6)) (F0 m 0 ls []) := by
  intro a1 u0 H locs ls P hl h
  have hx := C.1.1
  have hb := C.1.2.1
  unfold w_X10_count at h
  refine lv_iconst (v := 0) hx hb dX10_count_0 (by decide) ?_
  refine lv_istore_n (lv' := [(2, .int (0 : Int32)), (0, .ref (o + 0)), (1, .int a1)]) hx hb dX10_count_1 rfl hl (by decide) rfl (fun ls hl => ?_)
  refine lv_iconst (v := 0) hx hb dX10_count_2 (by decide) ?_
  refine lv_istore_n (lv' := [(3, .int (0 : Int32)), (2, .int (0 : Int32)), (0, .ref (o + 0)), (1, .int a1)]) hx hb dX10_count_3 rfl hl (by decide) rfl (fun ls hl => ?_)
  obtain ⟨n4, h⟩ := h
  exact t_X10_count_4 C n4 _ _ _ u0 _ _ _ P (lv_sub hl [2, 3, 1, 0] rfl) h
set_option maxHeartbeats 4000000 in
set_option maxRecDepth 100000 in
theorem c_X10_count (l : Launch) (D : va_G) (cA : Nat → ClassId) (o : Nat) (a1 : Int32)  (u0 : Mm) (Φ : Int32 → Mm → Prop) (h : w_X10_count a1 u0 Φ) : Met l yX10_count wsX10_count rm_X10_count (va_Pc [.ref (o + 0), .int a1] (Wd 6 o D (tysL cA) (EM cA o u0))) (Qg vI Φ (fun μ => Wd 6 o D (tysL cA) (EM cA o μ)) (aA o 6)) 0 0 (aA o 6) := by
  refine Met.ofW (cc := cX10_count) (maxL := 5) (ret := (some .int)) (by decide) rfl ?_
  intro p e s m args below meth c s₁ B hml hv
  obtain ⟨rfl, hv⟩ := hv
  have hl := lv_entry ([.ref (o + 0), .int a1]) (n := 5) (Nat.le_of_ble_eq_true rfl)
  rw [lg_entry_eq]
  exact t_X10_count_0 ⟨⟨B.exec, B.bytes, hml, findClass_of_methodNamed B.named, atoms_spec (ws := wsX10_count) B.pre⟩, B.returns, B.notSynchronized, hv.2⟩ a1 u0 _ _ _ ⟨hv.1, va_S.rf⟩ hl h
