abbrev rm_L_tick : Room := { frames := 7, cells := 0, slots := 0, locals := 158 }
def w_L_tick_705  (Φ : Int32 → Mm → Prop) (x1 : Int32) (x16 : Int32) (x17 : Int32) (x18 : Int32) (u0 : Mm) : Prop := (if x17 = (2 : Int32) then (w_X9_gate x1 ((2 : Int32)) u0 (fun r55 u54 => (if r55 ≤ x18 then (Φ (0 : Int32) u54) else (w_X9_gate x1 ((2 : Int32)) u54 (fun r58 u57 => (if ((20 : Int32) + x18) < r58 then (Φ (0 : Int32) u57) else (if x16 = 0 then (Φ (1 : Int32) u57) else (Φ (0 : Int32) u57)))))))) else (Φ (0 : Int32) u0))
set_option maxHeartbeats 4000000 in
set_option maxRecDepth 100000 in
theorem t_L_tick_705 {p : Program} {l : Launch} {e : Env} {s : State} {m : MethodId} {args : Array Value} {below : List Frame} {meth : Method} {c : Code} {D : va_G} {cA : Nat → ClassId} {o : Nat}  {Φ : Int32 → Mm → Prop} (C : Cx p m meth c s args cL_tick 20 wsL_tick RL (some .boolean) D (tysL cA)) : ∀ (x1 : Int32) (x16 : Int32) (x17 : Int32) (x18 : Int32) (u0 : Mm), ∀ (H : Heap) (locs : List Loc) (ls : Array Slot), Hp 747 o D (EC cA o u0) s H locs → lv_has ls 20 [(0, .ref (o + 0)), (1, .int x1), (16, .int x16), (17, .int x17), (18, .int x18)] → w_L_tick_705 Φ x1 x16 x17 x18 u0 → W p l e rm_L_tick s m args below meth c H locs 0 0 (MQ below (Qg vI Φ (fun μ => Wd 747 o D (tysL cA) (EC cA o μ)) (aA o 747)) args s 0 0 (aA o 747)) (F0 m 705 ls []) := by
  intro x1 x16 x17 x18 u0 H locs ls P hl h
  have hx := C.1.1
  have hb := C.1.2.1
  unfold w_L_tick_705 at h
  refine lv_iload hx hb dL_tick_705 (lv_at hl 3 rfl) ?_
  refine lv_iconst (v := 2) hx hb dL_tick_707 (by decide) ?_
  refine lv_icmp_ne (tgt := 745) hx hb dL_tick_708 (by decide) (fun c53 => ?_) (fun c53 => ?_)
  · have h := ite_f h c53
    refine lv_iconst (v := 0) hx hb dL_tick_745 (by decide) ?_
    exact r_iretb C P (Or.inl rfl) h dL_tick_746
  · have h := ite_t h c53
    refine lv_aload_n hx hb dL_tick_711 rfl (lv_at hl 0 rfl) ?_
    refine lv_iload_n hx hb dL_tick_712 rfl (lv_at hl 1 rfl) ?_
    refine lv_iconst (v := 2) hx hb dL_tick_713 (by decide) ?_
    refine r_calli (F := EC cA o) (va_runV (As := [.int x1, .int (2 : Int32)]) (rest := []) C.1 (c_X9_gate l D cA o _ _ u0 _ h) (cwV 2 C.1.2.2.2.2 gL_tick_X9_gate rfl rfl rfl (by decide +kernel) ⟨Nat.le_of_ble_eq_true rfl, Nat.le_of_ble_eq_true rfl⟩) (r_preV C P [.int x1, .int (2 : Int32)] (ci := 9) rfl (kd_lt kd_at_0 (by decide)) (EK_9 kd_at_0)) rfl rfl hl.1 rfl (lv_room (Nat.le_of_ble_eq_true rfl)) dL_tick_714 ⟨Nat.le_of_ble_eq_true rfl, Nat.le_of_ble_eq_true rfl⟩) P.2 (fun r55 u54 H locs h P => ?_)
    refine lv_iload hx hb dL_tick_717 (lv_at hl 4 rfl) ?_
    refine lv_icmp_le (tgt := 745) hx hb dL_tick_719 (by decide) (fun c56 => ?_) (fun c56 => ?_)
    · have h := ite_t h c56
      refine lv_iconst (v := 0) hx hb dL_tick_745 (by decide) ?_
      exact r_iretb C P (Or.inl rfl) h dL_tick_746
    · have h := ite_f h c56
      refine lv_aload_n hx hb dL_tick_722 rfl (lv_at hl 0 rfl) ?_
      refine lv_iload_n hx hb dL_tick_723 rfl (lv_at hl 1 rfl) ?_
      refine lv_iconst (v := 2) hx hb dL_tick_724 (by decide) ?_
      refine r_calli (F := EC cA o) (va_runV (As := [.int x1, .int (2 : Int32)]) (rest := []) C.1 (c_X9_gate l D cA o _ _ u54 _ h) (cwV 2 C.1.2.2.2.2 gL_tick_X9_gate rfl rfl rfl (by decide +kernel) ⟨Nat.le_of_ble_eq_true rfl, Nat.le_of_ble_eq_true rfl⟩) (r_preV C P [.int x1, .int (2 : Int32)] (ci := 9) rfl (kd_lt kd_at_0 (by decide)) (EK_9 kd_at_0)) rfl rfl hl.1 rfl (lv_room (Nat.le_of_ble_eq_true rfl)) dL_tick_725 ⟨Nat.le_of_ble_eq_true rfl, Nat.le_of_ble_eq_true rfl⟩) P.2 (fun r58 u57 H locs h P => ?_)
      refine lv_bipush (v := 20) hx hb dL_tick_728 (by decide) ?_
      refine lv_iload hx hb dL_tick_730 (lv_at hl 4 rfl) ?_
      refine lv_iadd hx hb dL_tick_732 ?_
      refine lv_icmp_gt (tgt := 745) hx hb dL_tick_733 (by decide) (fun c59 => ?_) (fun c59 => ?_)
      · have h := ite_t h c59
        refine lv_iconst (v := 0) hx hb dL_tick_745 (by decide) ?_
        exact r_iretb C P (Or.inl rfl) h dL_tick_746
      · have h := ite_f h c59
        refine lv_iload hx hb dL_tick_736 (lv_at hl 2 rfl) ?_
        refine lv_if_ne (tgt := 745) hx hb dL_tick_738 (by decide) (fun c60 => ?_) (fun c60 => ?_)
        · have h := ite_f h c60
          refine lv_iconst (v := 0) hx hb dL_tick_745 (by decide) ?_
          exact r_iretb C P (Or.inl rfl) h dL_tick_746
        · have h := ite_t h c60
          refine lv_iconst (v := 1) hx hb dL_tick_741 (by decide) ?_
          refine lv_goto (tgt := 746) hx hb dL_tick_742 (by decide) ?_
          exact r_iretb C P (Or.inr rfl) h dL_tick_746
def w_L_tick_862  (Φ : Int32 → Mm → Prop) (x1 : Int32) (x4 : Int32) (z0 : Int32) (z1 : Int32) (u0 : Mm) : Prop := (if z1 = z0 then (w_X9_event ((0 : Int32)) ((2 : Int32)) u0 (fun r81 u80 => (if r81 = x4 then (w_X9_event ((0 : Int32)) ((1 : Int32)) u80 (fun r84 u83 => (if r84 = x1 then (Φ (1 : Int32) u83) else (Φ (0 : Int32) u83)))) else (Φ (0 : Int32) u80)))) else (Φ (0 : Int32) u0))
set_option maxHeartbeats 4000000 in
set_option maxRecDepth 100000 in
theorem t_L_tick_862 {p : Program} {l : Launch} {e : Env} {s : State} {m : MethodId} {args : Array Value} {below : List Frame} {meth : Method} {c : Code} {D : va_G} {cA : Nat → ClassId} {o : Nat}  {Φ : Int32 → Mm → Prop} (C : Cx p m meth c s args cL_tick 20 wsL_tick RL (some .boolean) D (tysL cA)) : ∀ (x1 : Int32) (x4 : Int32) (z0 : Int32) (z1 : Int32) (u0 : Mm), ∀ (H : Heap) (locs : List Loc) (ls : Array Slot), Hp 747 o D (EC cA o u0) s H locs → lv_has ls 20 [(0, .ref (o + 0)), (1, .int x1), (4, .int x4)] → w_L_tick_862 Φ x1 x4 z0 z1 u0 → W p l e rm_L_tick s m args below meth c H locs 0 0 (MQ below (Qg vI Φ (fun μ => Wd 747 o D (tysL cA) (EC cA o μ)) (aA o 747)) args s 0 0 (aA o 747)) (F0 m 862 ls [.int z0, .int z1]) := by
  intro x1 x4 z0 z1 u0 H locs ls P hl h
  have hx := C.1.1
  have hb := C.1.2.1
  unfold w_L_tick_862 at h
  refine lv_icmp_ne (tgt := 890) hx hb dL_tick_862 (by decide) (fun c79 => ?_) (fun c79 => ?_)
  · have h := ite_f h c79
    refine lv_iconst (v := 0) hx hb dL_tick_890 (by decide) ?_
    exact r_iretb C P (Or.inl rfl) h dL_tick_891
  · have h := ite_t h c79
    refine lv_aload_n hx hb dL_tick_865 rfl (lv_at hl 0 rfl) ?_
    refine lv_iconst (v := 0) hx hb dL_tick_866 (by decide) ?_
    refine lv_iconst (v := 2) hx hb dL_tick_867 (by decide) ?_
    refine r_calli (F := EC cA o) (va_runV (As := [.int (0 : Int32), .int (2 : Int32)]) (rest := []) C.1 (c_X9_event l D cA o _ _ u0 _ h) (cwV 2 C.1.2.2.2.2 gL_tick_X9_event rfl rfl rfl (by decide +kernel) ⟨Nat.le_of_ble_eq_true rfl, Nat.le_of_ble_eq_true rfl⟩) (r_preV C P [.int (0 : Int32), .int (2 : Int32)] (ci := 9) rfl (kd_lt kd_at_0 (by decide)) (EK_9 kd_at_0)) rfl rfl hl.1 rfl (lv_room (Nat.le_of_ble_eq_true rfl)) dL_tick_868 ⟨Nat.le_of_ble_eq_true rfl, Nat.le_of_ble_eq_true rfl⟩) P.2 (fun r81 u80 H locs h P => ?_)
    refine lv_iload hx hb dL_tick_871 (lv_at hl 2 rfl) ?_
    refine lv_icmp_ne (tgt := 890) hx hb dL_tick_873 (by decide) (fun c82 => ?_) (fun c82 => ?_)
    · have h := ite_f h c82
      refine lv_iconst (v := 0) hx hb dL_tick_890 (by decide) ?_
      exact r_iretb C P (Or.inl rfl) h dL_tick_891
    · have h := ite_t h c82
      refine lv_aload_n hx hb dL_tick_876 rfl (lv_at hl 0 rfl) ?_
      refine lv_iconst (v := 0) hx hb dL_tick_877 (by decide) ?_
      refine lv_iconst (v := 1) hx hb dL_tick_878 (by decide) ?_
      refine r_calli (F := EC cA o) (va_runV (As := [.int (0 : Int32), .int (1 : Int32)]) (rest := []) C.1 (c_X9_event l D cA o _ _ u80 _ h) (cwV 2 C.1.2.2.2.2 gL_tick_X9_event rfl rfl rfl (by decide +kernel) ⟨Nat.le_of_ble_eq_true rfl, Nat.le_of_ble_eq_true rfl⟩) (r_preV C P [.int (0 : Int32), .int (1 : Int32)] (ci := 9) rfl (kd_lt kd_at_0 (by decide)) (EK_9 kd_at_0)) rfl rfl hl.1 rfl (lv_room (Nat.le_of_ble_eq_true rfl)) dL_tick_879 ⟨Nat.le_of_ble_eq_true rfl, Nat.le_of_ble_eq_true rfl⟩) P.2 (fun r84 u83 H locs h P => ?_)
      refine lv_iload_n hx hb dL_tick_882 rfl (lv_at hl 1 rfl) ?_
      refine lv_icmp_ne (tgt := 890) hx hb dL_tick_883 (by decide) (fun c85 => ?_) (fun c85 => ?_)
      · have h := ite_f h c85
        refine lv_iconst (v := 0) hx hb dL_tick_890 (by decide) ?_
        exact r_iretb C P (Or.inl rfl) h dL_tick_891
      · have h := ite_t h c85
        refine lv_iconst (v := 1) hx hb dL_tick_886 (by decide) ?_
        refine lv_goto (tgt := 891) hx hb dL_tick_887 (by decide) ?_
        exact r_iretb C P (Or.inr rfl) h dL_tick_891
def w_L_tick_823  (Φ : Int32 → Mm → Prop) (x1 : Int32) (x4 : Int32) (x13 : Int32) (x19 : Int32) (u0 : Mm) : Prop := (w_X9_gate x1 ((6 : Int32)) u0 (fun r72 u71 => (w_X9_gate x1 ((7 : Int32)) u71 (fun r74 u73 => (if (r72 + r74) = (x13 + (1 : Int32)) then (w_X9_event ((0 : Int32)) ((3 : Int32)) u73 (fun r77 u76 => (if x19 = (3 : Int32) then (w_L_tick_862 Φ x1 x4 ((2 : Int32)) r77 u76) else (w_L_tick_862 Φ x1 x4 ((3 : Int32)) r77 u76)))) else (Φ (0 : Int32) u73))))))
set_option maxHeartbeats 4000000 in
set_option maxRecDepth 100000 in
theorem t_L_tick_823 {p : Program} {l : Launch} {e : Env} {s : State} {m : MethodId} {args : Array Value} {below : List Frame} {meth : Method} {c : Code} {D : va_G} {cA : Nat → ClassId} {o : Nat}  {Φ : Int32 → Mm → Prop} (C : Cx p m meth c s args cL_tick 20 wsL_tick RL (some .boolean) D (tysL cA)) : ∀ (x1 : Int32) (x4 : Int32) (x13 : Int32) (x19 : Int32) (u0 : Mm), ∀ (H : Heap) (locs : List Loc) (ls : Array Slot), Hp 747 o D (EC cA o u0) s H locs → lv_has ls 20 [(0, .ref (o + 0)), (1, .int x1), (4, .int x4), (13, .int x13), (19, .int x19)] → w_L_tick_823 Φ x1 x4 x13 x19 u0 → W p l e rm_L_tick s m args below meth c H locs 0 0 (MQ below (Qg vI Φ (fun μ => Wd 747 o D (tysL cA) (EC cA o μ)) (aA o 747)) args s 0 0 (aA o 747)) (F0 m 823 ls []) := by
  intro x1 x4 x13 x19 u0 H locs ls P hl h
  have hx := C.1.1
  have hb := C.1.2.1
  unfold w_L_tick_823 at h
  refine lv_aload_n hx hb dL_tick_823 rfl (lv_at hl 0 rfl) ?_
  refine lv_iload_n hx hb dL_tick_824 rfl (lv_at hl 1 rfl) ?_
  refine lv_bipush (v := 6) hx hb dL_tick_825 (by decide) ?_
  refine r_calli (F := EC cA o) (va_runV (As := [.int x1, .int (6 : Int32)]) (rest := []) C.1 (c_X9_gate l D cA o _ _ u0 _ h) (cwV 2 C.1.2.2.2.2 gL_tick_X9_gate rfl rfl rfl (by decide +kernel) ⟨Nat.le_of_ble_eq_true rfl, Nat.le_of_ble_eq_true rfl⟩) (r_preV C P [.int x1, .int (6 : Int32)] (ci := 9) rfl (kd_lt kd_at_0 (by decide)) (EK_9 kd_at_0)) rfl rfl hl.1 rfl (lv_room (Nat.le_of_ble_eq_true rfl)) dL_tick_827 ⟨Nat.le_of_ble_eq_true rfl, Nat.le_of_ble_eq_true rfl⟩) P.2 (fun r72 u71 H locs h P => ?_)
  refine lv_aload_n hx hb dL_tick_830 rfl (lv_at hl 0 rfl) ?_
  refine lv_iload_n hx hb dL_tick_831 rfl (lv_at hl 1 rfl) ?_
  refine lv_bipush (v := 7) hx hb dL_tick_832 (by decide) ?_
  refine r_calli (F := EC cA o) (va_runV (As := [.int x1, .int (7 : Int32)]) (rest := [.int r72]) C.1 (c_X9_gate l D cA o _ _ u71 _ h) (cwV 2 C.1.2.2.2.2 gL_tick_X9_gate rfl rfl rfl (by decide +kernel) ⟨Nat.le_of_ble_eq_true rfl, Nat.le_of_ble_eq_true rfl⟩) (r_preV C P [.int x1, .int (7 : Int32)] (ci := 9) rfl (kd_lt kd_at_0 (by decide)) (EK_9 kd_at_0)) rfl rfl hl.1 rfl (lv_room (Nat.le_of_ble_eq_true rfl)) dL_tick_834 ⟨Nat.le_of_ble_eq_true rfl, Nat.le_of_ble_eq_true rfl⟩) P.2 (fun r74 u73 H locs h P => ?_)
  refine lv_iadd hx hb dL_tick_837 ?_
  refine lv_iload hx hb dL_tick_838 (lv_at hl 3 rfl) ?_
  refine lv_iconst (v := 1) hx hb dL_tick_840 (by decide) ?_
  refine lv_iadd hx hb dL_tick_841 ?_
  refine lv_icmp_ne (tgt := 890) hx hb dL_tick_842 (by decide) (fun c75 => ?_) (fun c75 => ?_)
  · have h := ite_f h c75
    refine lv_iconst (v := 0) hx hb dL_tick_890 (by decide) ?_
    exact r_iretb C P (Or.inl rfl) h dL_tick_891
  · have h := ite_t h c75
    refine lv_aload_n hx hb dL_tick_845 rfl (lv_at hl 0 rfl) ?_
    refine lv_iconst (v := 0) hx hb dL_tick_846 (by decide) ?_
    refine lv_iconst (v := 3) hx hb dL_tick_847 (by decide) ?_
    refine r_calli (F := EC cA o) (va_runV (As := [.int (0 : Int32), .int (3 : Int32)]) (rest := []) C.1 (c_X9_event l D cA o _ _ u73 _ h) (cwV 2 C.1.2.2.2.2 gL_tick_X9_event rfl rfl rfl (by decide +kernel) ⟨Nat.le_of_ble_eq_true rfl, Nat.le_of_ble_eq_true rfl⟩) (r_preV C P [.int (0 : Int32), .int (3 : Int32)] (ci := 9) rfl (kd_lt kd_at_0 (by decide)) (EK_9 kd_at_0)) rfl rfl hl.1 rfl (lv_room (Nat.le_of_ble_eq_true rfl)) dL_tick_848 ⟨Nat.le_of_ble_eq_true rfl, Nat.le_of_ble_eq_true rfl⟩) P.2 (fun r77 u76 H locs h P => ?_)
    refine lv_iload hx hb dL_tick_851 (lv_at hl 4 rfl) ?_
    refine lv_iconst (v := 3) hx hb dL_tick_853 (by decide) ?_
    refine lv_icmp_ne (tgt := 861) hx hb dL_tick_854 (by decide) (fun c78 => ?_) (fun c78 => ?_)
    · have h := ite_f h c78
      refine lv_iconst (v := 3) hx hb dL_tick_861 (by decide) ?_
      exact t_L_tick_862 C _ _ _ _ u76 _ _ _ P (lv_sub hl [0, 1, 2] rfl) h
    · have h := ite_t h c78
      refine lv_iconst (v := 2) hx hb dL_tick_857 (by decide) ?_
      refine lv_goto (tgt := 862) hx hb dL_tick_858 (by decide) ?_
      exact t_L_tick_862 C _ _ _ _ u76 _ _ _ P (lv_sub hl [0, 1, 2] rfl) h
def w_L_tick_650  (Φ : Int32 → Mm → Prop) (x1 : Int32) (x2 : Int32) (x3 : Int32) (x4 : Int32) (x13 : Int32) (x16 : Int32) (x17 : Int32) (x18 : Int32) (u0 : Mm) : Prop := (if x3 ≤ (1 : Int32) then (if x2 = (1 : Int32) then (w_L_tick_705 Φ x1 x16 x17 x18 u0) else (if x2 = (4 : Int32) then (w_L_tick_705 Φ x1 x16 x17 x18 u0) else (if x2 = (2 : Int32) then (if x17 = (3 : Int32) then (w_X9_gate x1 ((2 : Int32)) u0 (fun r89 u88 => (if (10 : Int32) < r89 then (Φ (0 : Int32) u88) else (if x16 = 0 then (Φ (1 : Int32) u88) else (Φ (0 : Int32) u88))))) else (Φ (0 : Int32) u0)) else (w_X9_person x4 ((0 : Int32)) u0 (fun r64 u63 => (if x17 = 0 then (if x16 = (1 : Int32) then (w_X9_gate x1 ((3 : Int32)) u63 (fun r68 u67 => (if r68 = (-5 : Int32) then (if r64 = (3 : Int32) then (w_L_tick_823 Φ x1 x4 x13 r64 u67) else (if r64 = (5 : Int32) then (w_L_tick_823 Φ x1 x4 x13 r64 u67) else (Φ (0 : Int32) u67))) else (Φ (0 : Int32) u67)))) else (Φ (0 : Int32) u63)) else (Φ (0 : Int32) u63))))))) else (if x17 = x2 then (w_X9_gate x1 ((2 : Int32)) u0 (fun r94 u93 => (if r94 = (x3 - (1 : Int32)) then (if x16 = 0 then (w_X9_gate x1 ((3 : Int32)) u93 (fun r98 u97 => (if r98 = x4 then (Φ (1 : Int32) u97) else (Φ (0 : Int32) u97)))) else (Φ (0 : Int32) u93)) else (Φ (0 : Int32) u93)))) else (Φ (0 : Int32) u0)))
set_option maxHeartbeats 4000000 in
set_option maxRecDepth 100000 in
theorem t_L_tick_650 {p : Program} {l : Launch} {e : Env} {s : State} {m : MethodId} {args : Array Value} {below : List Frame} {meth : Method} {c : Code} {D : va_G} {cA : Nat → ClassId} {o : Nat}  {Φ : Int32 → Mm → Prop} (C : Cx p m meth c s args cL_tick 20 wsL_tick RL (some .boolean) D (tysL cA)) : ∀ (x1 : Int32) (x2 : Int32) (x3 : Int32) (x4 : Int32) (x13 : Int32) (x16 : Int32) (x17 : Int32) (x18 : Int32) (u0 : Mm), ∀ (H : Heap) (locs : List Loc) (ls : Array Slot), Hp 747 o D (EC cA o u0) s H locs → lv_has ls 20 [(0, .ref (o + 0)), (1, .int x1), (2, .int x2), (3, .int x3), (4, .int x4), (13, .int x13), (16, .int x16), (17, .int x17), (18, .int x18)] → w_L_tick_650 Φ x1 x2 x3 x4 x13 x16 x17 x18 u0 → W p l e rm_L_tick s m args below meth c H locs 0 0 (MQ below (Qg vI Φ (fun μ => Wd 747 o D (tysL cA) (EC cA o μ)) (aA o 747)) args s 0 0 (aA o 747)) (F0 m 650 ls []) := by
  intro x1 x2 x3 x4 x13 x16 x17 x18 u0 H locs ls P hl h
  have hx := C.1.1
  have hb := C.1.2.1
  unfold w_L_tick_650 at h
  refine lv_iload_n hx hb dL_tick_650 rfl (lv_at hl 3 rfl) ?_
  refine lv_iconst (v := 1) hx hb dL_tick_651 (by decide) ?_
  refine lv_icmp_le (tgt := 695) hx hb dL_tick_652 (by decide) (fun c51 => ?_) (fun c51 => ?_)
  · have h := ite_t h c51
    refine lv_iload_n hx hb dL_tick_695 rfl (lv_at hl 2 rfl) ?_
    refine lv_iconst (v := 1) hx hb dL_tick_696 (by decide) ?_
    refine lv_icmp_eq (tgt := 705) hx hb dL_tick_697 (by decide) (fun c52 => ?_) (fun c52 => ?_)
    · have h := ite_t h c52
      exact t_L_tick_705 C _ _ _ _ u0 _ _ _ P (lv_sub hl [0, 1, 6, 7, 8] rfl) h
    · have h := ite_f h c52
      refine lv_iload_n hx hb dL_tick_700 rfl (lv_at hl 2 rfl) ?_
      refine lv_iconst (v := 4) hx hb dL_tick_701 (by decide) ?_
      refine lv_icmp_ne (tgt := 747) hx hb dL_tick_702 (by decide) (fun c61 => ?_) (fun c61 => ?_)
      · have h := ite_f h c61
        refine lv_iload_n hx hb dL_tick_747 rfl (lv_at hl 2 rfl) ?_
        refine lv_iconst (v := 2) hx hb dL_tick_748 (by decide) ?_
        refine lv_icmp_ne (tgt := 780) hx hb dL_tick_749 (by decide) (fun c62 => ?_) (fun c62 => ?_)
        · have h := ite_f h c62
          refine lv_aload_n hx hb dL_tick_780 rfl (lv_at hl 0 rfl) ?_
          refine lv_iload hx hb dL_tick_781 (lv_at hl 4 rfl) ?_
          refine lv_iconst (v := 0) hx hb dL_tick_783 (by decide) ?_
          refine r_calli (F := EC cA o) (va_runV (As := [.int x4, .int (0 : Int32)]) (rest := []) C.1 (c_X9_person l D cA o _ _ u0 _ h) (cwV 2 C.1.2.2.2.2 gL_tick_X9_person rfl rfl rfl (by decide +kernel) ⟨Nat.le_of_ble_eq_true rfl, Nat.le_of_ble_eq_true rfl⟩) (r_preV C P [.int x4, .int (0 : Int32)] (ci := 9) rfl (kd_lt kd_at_0 (by decide)) (EK_9 kd_at_0)) rfl rfl hl.1 rfl (lv_room (Nat.le_of_ble_eq_true rfl)) dL_tick_784 ⟨Nat.le_of_ble_eq_true rfl, Nat.le_of_ble_eq_true rfl⟩) P.2 (fun r64 u63 H locs h P => ?_)
          refine lv_istore (lv' := [(19, .int r64), (0, .ref (o + 0)), (1, .int x1), (2, .int x2), (3, .int x3), (4, .int x4), (13, .int x13), (16, .int x16), (17, .int x17), (18, .int x18)]) hx hb dL_tick_787 hl (by decide) rfl (fun ls hl => ?_)
          refine lv_iload hx hb dL_tick_789 (lv_at hl 8 rfl) ?_
          refine lv_if_ne (tgt := 890) hx hb dL_tick_791 (by decide) (fun c65 => ?_) (fun c65 => ?_)
          · have h := ite_f h c65
            refine lv_iconst (v := 0) hx hb dL_tick_890 (by decide) ?_
            exact r_iretb C P (Or.inl rfl) h dL_tick_891
          · have h := ite_t h c65
            refine lv_iload hx hb dL_tick_794 (lv_at hl 7 rfl) ?_
            refine lv_iconst (v := 1) hx hb dL_tick_796 (by decide) ?_
            refine lv_icmp_ne (tgt := 890) hx hb dL_tick_797 (by decide) (fun c66 => ?_) (fun c66 => ?_)
            · have h := ite_f h c66
              refine lv_iconst (v := 0) hx hb dL_tick_890 (by decide) ?_
              exact r_iretb C P (Or.inl rfl) h dL_tick_891
            · have h := ite_t h c66
              refine lv_aload_n hx hb dL_tick_800 rfl (lv_at hl 1 rfl) ?_
              refine lv_iload_n hx hb dL_tick_801 rfl (lv_at hl 2 rfl) ?_
              refine lv_iconst (v := 3) hx hb dL_tick_802 (by decide) ?_
              refine r_calli (F := EC cA o) (va_runV (As := [.int x1, .int (3 : Int32)]) (rest := []) C.1 (c_X9_gate l D cA o _ _ u63 _ h) (cwV 2 C.1.2.2.2.2 gL_tick_X9_gate rfl rfl rfl (by decide +kernel) ⟨Nat.le_of_ble_eq_true rfl, Nat.le_of_ble_eq_true rfl⟩) (r_preV C P [.int x1, .int (3 : Int32)] (ci := 9) rfl (kd_lt kd_at_0 (by decide)) (EK_9 kd_at_0)) rfl rfl hl.1 rfl (lv_room (Nat.le_of_ble_eq_true rfl)) dL_tick_803 ⟨Nat.le_of_ble_eq_true rfl, Nat.le_of_ble_eq_true rfl⟩) P.2 (fun r68 u67 H locs h P => ?_)
              refine lv_bipush (v := -5) hx hb dL_tick_806 (by decide) ?_
              refine lv_icmp_ne (tgt := 890) hx hb dL_tick_808 (by decide) (fun c69 => ?_) (fun c69 => ?_)
              · have h := ite_f h c69
                refine lv_iconst (v := 0) hx hb dL_tick_890 (by decide) ?_
                exact r_iretb C P (Or.inl rfl) h dL_tick_891
              · have h := ite_t h c69
                refine lv_iload hx hb dL_tick_811 (lv_at hl 0 rfl) ?_
                refine lv_iconst (v := 3) hx hb dL_tick_813 (by decide) ?_
                refine lv_icmp_eq (tgt := 823) hx hb dL_tick_814 (by decide) (fun c70 => ?_) (fun c70 => ?_)
                · have h := ite_t h c70
                  exact t_L_tick_823 C _ _ _ _ u67 _ _ _ P (lv_sub hl [1, 2, 5, 6, 0] rfl) h
                · have h := ite_f h c70
                  refine lv_iload hx hb dL_tick_817 (lv_at hl 0 rfl) ?_
                  refine lv_iconst (v := 5) hx hb dL_tick_819 (by decide) ?_
                  refine lv_icmp_ne (tgt := 890) hx hb dL_tick_820 (by decide) (fun c86 => ?_) (fun c86 => ?_)
                  · have h := ite_f h c86
                    refine lv_iconst (v := 0) hx hb dL_tick_890 (by decide) ?_
                    exact r_iretb C P (Or.inl rfl) h dL_tick_891
                  · have h := ite_t h c86
                    exact t_L_tick_823 C _ _ _ _ u67 _ _ _ P (lv_sub hl [1, 2, 5, 6, 0] rfl) h
        · have h := ite_t h c62
          refine lv_iload hx hb dL_tick_752 (lv_at hl 7 rfl) ?_
          refine lv_iconst (v := 3) hx hb dL_tick_754 (by decide) ?_
          refine lv_icmp_ne (tgt := 778) hx hb dL_tick_755 (by decide) (fun c87 => ?_) (fun c87 => ?_)
          · have h := ite_f h c87
            refine lv_iconst (v := 0) hx hb dL_tick_778 (by decide) ?_
            exact r_iretb C P (Or.inl rfl) h dL_tick_779
          · have h := ite_t h c87
            refine lv_aload_n hx hb dL_tick_758 rfl (lv_at hl 0 rfl) ?_
            refine lv_iload_n hx hb dL_tick_759 rfl (lv_at hl 1 rfl) ?_
            refine lv_iconst (v := 2) hx hb dL_tick_760 (by decide) ?_
            refine r_calli (F := EC cA o) (va_runV (As := [.int x1, .int (2 : Int32)]) (rest := []) C.1 (c_X9_gate l D cA o _ _ u0 _ h) (cwV 2 C.1.2.2.2.2 gL_tick_X9_gate rfl rfl rfl (by decide +kernel) ⟨Nat.le_of_ble_eq_true rfl, Nat.le_of_ble_eq_true rfl⟩) (r_preV C P [.int x1, .int (2 : Int32)] (ci := 9) rfl (kd_lt kd_at_0 (by decide)) (EK_9 kd_at_0)) rfl rfl hl.1 rfl (lv_room (Nat.le_of_ble_eq_true rfl)) dL_tick_761 ⟨Nat.le_of_ble_eq_true rfl, Nat.le_of_ble_eq_true rfl⟩) P.2 (fun r89 u88 H locs h P => ?_)
            refine lv_bipush (v := 10) hx hb dL_tick_764 (by decide) ?_
            refine lv_icmp_gt (tgt := 778) hx hb dL_tick_766 (by decide) (fun c90 => ?_) (fun c90 => ?_)
            · have h := ite_t h c90
              refine lv_iconst (v := 0) hx hb dL_tick_778 (by decide) ?_
              exact r_iretb C P (Or.inl rfl) h dL_tick_779
            · have h := ite_f h c90
              refine lv_iload hx hb dL_tick_769 (lv_at hl 6 rfl) ?_
              refine lv_if_ne (tgt := 778) hx hb dL_tick_771 (by decide) (fun c91 => ?_) (fun c91 => ?_)
              · have h := ite_f h c91
                refine lv_iconst (v := 0) hx hb dL_tick_778 (by decide) ?_
                exact r_iretb C P (Or.inl rfl) h dL_tick_779
              · have h := ite_t h c91
                refine lv_iconst (v := 1) hx hb dL_tick_774 (by decide) ?_
                refine lv_goto (tgt := 779) hx hb dL_tick_775 (by decide) ?_
                exact r_iretb C P (Or.inr rfl) h dL_tick_779
      · have h := ite_t h c61
        exact t_L_tick_705 C _ _ _ _ u0 _ _ _ P (lv_sub hl [0, 1, 6, 7, 8] rfl) h
  · have h := ite_f h c51
    refine lv_iload hx hb dL_tick_655 (lv_at hl 7 rfl) ?_
    refine lv_iload_n hx hb dL_tick_657 rfl (lv_at hl 2 rfl) ?_
    refine lv_icmp_ne (tgt := 693) hx hb dL_tick_658 (by decide) (fun c92 => ?_) (fun c92 => ?_)
    · have h := ite_f h c92
      refine lv_iconst (v := 0) hx hb dL_tick_693 (by decide) ?_
      exact r_iretb C P (Or.inl rfl) h dL_tick_694
    · have h := ite_t h c92
      refine lv_aload_n hx hb dL_tick_661 rfl (lv_at hl 0 rfl) ?_
      refine lv_iload_n hx hb dL_tick_662 rfl (lv_at hl 1 rfl) ?_
      refine lv_iconst (v := 2) hx hb dL_tick_663 (by decide) ?_
      refine r_calli (F := EC cA o) (va_runV (As := [.int x1, .int (2 : Int32)]) (rest := []) C.1 (c_X9_gate l D cA o _ _ u0 _ h) (cwV 2 C.1.2.2.2.2 gL_tick_X9_gate rfl rfl rfl (by decide +kernel) ⟨Nat.le_of_ble_eq_true rfl, Nat.le_of_ble_eq_true rfl⟩) (r_preV C P [.int x1, .int (2 : Int32)] (ci := 9) rfl (kd_lt kd_at_0 (by decide)) (EK_9 kd_at_0)) rfl rfl hl.1 rfl (lv_room (Nat.le_of_ble_eq_true rfl)) dL_tick_664 ⟨Nat.le_of_ble_eq_true rfl, Nat.le_of_ble_eq_true rfl⟩) P.2 (fun r94 u93 H locs h P => ?_)
      refine lv_iload_n hx hb dL_tick_667 rfl (lv_at hl 3 rfl) ?_
      refine lv_iconst (v := 1) hx hb dL_tick_668 (by decide) ?_
      refine lv_isub hx hb dL_tick_669 ?_
      refine lv_icmp_ne (tgt := 693) hx hb dL_tick_670 (by decide) (fun c95 => ?_) (fun c95 => ?_)
      · have h := ite_f h c95
        refine lv_iconst (v := 0) hx hb dL_tick_693 (by decide) ?_
        exact r_iretb C P (Or.inl rfl) h dL_tick_694
      · have h := ite_t h c95
        refine lv_iload hx hb dL_tick_673 (lv_at hl 6 rfl) ?_
        refine lv_if_ne (tgt := 693) hx hb dL_tick_675 (by decide) (fun c96 => ?_) (fun c96 => ?_)
        · have h := ite_f h c96
          refine lv_iconst (v := 0) hx hb dL_tick_693 (by decide) ?_
          exact r_iretb C P (Or.inl rfl) h dL_tick_694
        · have h := ite_t h c96
          refine lv_aload_n hx hb dL_tick_678 rfl (lv_at hl 0 rfl) ?_
          refine lv_iload_n hx hb dL_tick_679 rfl (lv_at hl 1 rfl) ?_
          refine lv_iconst (v := 3) hx hb dL_tick_680 (by decide) ?_
          refine r_calli (F := EC cA o) (va_runV (As := [.int x1, .int (3 : Int32)]) (rest := []) C.1 (c_X9_gate l D cA o _ _ u93 _ h) (cwV 2 C.1.2.2.2.2 gL_tick_X9_gate rfl rfl rfl (by decide +kernel) ⟨Nat.le_of_ble_eq_true rfl, Nat.le_of_ble_eq_true rfl⟩) (r_preV C P [.int x1, .int (3 : Int32)] (ci := 9) rfl (kd_lt kd_at_0 (by decide)) (EK_9 kd_at_0)) rfl rfl hl.1 rfl (lv_room (Nat.le_of_ble_eq_true rfl)) dL_tick_681 ⟨Nat.le_of_ble_eq_true rfl, Nat.le_of_ble_eq_true rfl⟩) P.2 (fun r98 u97 H locs h P => ?_)
          refine lv_iload hx hb dL_tick_684 (lv_at hl 4 rfl) ?_
          refine lv_icmp_ne (tgt := 693) hx hb dL_tick_686 (by decide) (fun c99 => ?_) (fun c99 => ?_)
          · have h := ite_f h c99
            refine lv_iconst (v := 0) hx hb dL_tick_693 (by decide) ?_
            exact r_iretb C P (Or.inl rfl) h dL_tick_694
          · have h := ite_t h c99
            refine lv_iconst (v := 1) hx hb dL_tick_689 (by decide) ?_
            refine lv_goto (tgt := 694) hx hb dL_tick_690 (by decide) ?_
            exact r_iretb C P (Or.inr rfl) h dL_tick_694
def w_L_tick_564  (Φ : Int32 → Mm → Prop) (x1 : Int32) (x4 : Int32) (x14 : Int32) (x17 : Int32) (x19 : Int32) (z0 : Int32) (z1 : Int32) (u0 : Mm) : Prop := (if z1 = z0 then (w_X9_gate x1 ((9 : Int32)) u0 (fun r105 u104 => (if r105 = (x14 + (1 : Int32)) then (w_X9_gate x1 ((10 : Int32)) u104 (fun r108 u107 => (if r108 = 0 then (if x19 = 0 then (if x17 = (4 : Int32) then (w_X9_gate x1 ((3 : Int32)) u107 (fun r113 u112 => (if r113 = x4 then (w_X9_gate x1 ((2 : Int32)) u112 (fun r116 u115 => (if r116 < (1 : Int32) then (Φ (0 : Int32) u115) else (w_X9_event ((0 : Int32)) ((3 : Int32)) u115 (fun r119 u118 => (if r119 = (4 : Int32) then (w_X9_event ((0 : Int32)) ((2 : Int32)) u118 (fun r122 u121 => (if r122 = x4 then (Φ (1 : Int32) u121) else (Φ (0 : Int32) u121)))) else (Φ (0 : Int32) u118))))))) else (Φ (0 : Int32) u112)))) else (Φ (0 : Int32) u107)) else (Φ (1 : Int32) u107)) else (Φ (0 : Int32) u107)))) else (Φ (0 : Int32) u104)))) else (Φ (0 : Int32) u0))
set_option maxHeartbeats 4000000 in
set_option maxRecDepth 100000 in
theorem t_L_tick_564 {p : Program} {l : Launch} {e : Env} {s : State} {m : MethodId} {args : Array Value} {below : List Frame} {meth : Method} {c : Code} {D : va_G} {cA : Nat → ClassId} {o : Nat}  {Φ : Int32 → Mm → Prop} (C : Cx p m meth c s args cL_tick 20 wsL_tick RL (some .boolean) D (tysL cA)) : ∀ (x1 : Int32) (x4 : Int32) (x14 : Int32) (x17 : Int32) (x19 : Int32) (z0 : Int32) (z1 : Int32) (u0 : Mm), ∀ (H : Heap) (locs : List Loc) (ls : Array Slot), Hp 747 o D (EC cA o u0) s H locs → lv_has ls 20 [(0, .ref (o + 0)), (1, .int x1), (4, .int x4), (14, .int x14), (17, .int x17), (19, .int x19)] → w_L_tick_564 Φ x1 x4 x14 x17 x19 z0 z1 u0 → W p l e rm_L_tick s m args below meth c H locs 0 0 (MQ below (Qg vI Φ (fun μ => Wd 747 o D (tysL cA) (EC cA o μ)) (aA o 747)) args s 0 0 (aA o 747)) (F0 m 564 ls [.int z0, .int z1]) := by
  intro x1 x4 x14 x17 x19 z0 z1 u0 H locs ls P hl h
  have hx := C.1.1
  have hb := C.1.2.1
  unfold w_L_tick_564 at h
  refine lv_icmp_ne (tgt := 648) hx hb dL_tick_564 (by decide) (fun c103 => ?_) (fun c103 => ?_)
  · have h := ite_f h c103
    refine lv_iconst (v := 0) hx hb dL_tick_648 (by decide) ?_
    exact r_iretb C P (Or.inl rfl) h dL_tick_649
  · have h := ite_t h c103
    refine lv_aload_n hx hb dL_tick_567 rfl (lv_at hl 0 rfl) ?_
    refine lv_iload_n hx hb dL_tick_568 rfl (lv_at hl 1 rfl) ?_
    refine lv_bipush (v := 9) hx hb dL_tick_569 (by decide) ?_
    refine r_calli (F := EC cA o) (va_runV (As := [.int x1, .int (9 : Int32)]) (rest := []) C.1 (c_X9_gate l D cA o _ _ u0 _ h) (cwV 2 C.1.2.2.2.2 gL_tick_X9_gate rfl rfl rfl (by decide +kernel) ⟨Nat.le_of_ble_eq_true rfl, Nat.le_of_ble_eq_true rfl⟩) (r_preV C P [.int x1, .int (9 : Int32)] (ci := 9) rfl (kd_lt kd_at_0 (by decide)) (EK_9 kd_at_0)) rfl rfl hl.1 rfl (lv_room (Nat.le_of_ble_eq_true rfl)) dL_tick_571 ⟨Nat.le_of_ble_eq_true rfl, Nat.le_of_ble_eq_true rfl⟩) P.2 (fun r105 u104 H locs h P => ?_)
    refine lv_iload hx hb dL_tick_574 (lv_at hl 3 rfl) ?_
    refine lv_iconst (v := 1) hx hb dL_tick_576 (by decide) ?_
    refine lv_iadd hx hb dL_tick_577 ?_
    refine lv_icmp_ne (tgt := 648) hx hb dL_tick_578 (by decide) (fun c106 => ?_) (fun c106 => ?_)
    · have h := ite_f h c106
      refine lv_iconst (v := 0) hx hb dL_tick_648 (by decide) ?_
      exact r_iretb C P (Or.inl rfl) h dL_tick_649
    · have h := ite_t h c106
      refine lv_aload_n hx hb dL_tick_581 rfl (lv_at hl 0 rfl) ?_
      refine lv_iload_n hx hb dL_tick_582 rfl (lv_at hl 1 rfl) ?_
      refine lv_bipush (v := 10) hx hb dL_tick_583 (by decide) ?_
      refine r_calli (F := EC cA o) (va_runV (As := [.int x1, .int (10 : Int32)]) (rest := []) C.1 (c_X9_gate l D cA o _ _ u104 _ h) (cwV 2 C.1.2.2.2.2 gL_tick_X9_gate rfl rfl rfl (by decide +kernel) ⟨Nat.le_of_ble_eq_true rfl, Nat.le_of_ble_eq_true rfl⟩) (r_preV C P [.int x1, .int (10 : Int32)] (ci := 9) rfl (kd_lt kd_at_0 (by decide)) (EK_9 kd_at_0)) rfl rfl hl.1 rfl (lv_room (Nat.le_of_ble_eq_true rfl)) dL_tick_585 ⟨Nat.le_of_ble_eq_true rfl, Nat.le_of_ble_eq_true rfl⟩) P.2 (fun r108 u107 H locs h P => ?_)
      refine lv_if_ne (tgt := 648) hx hb dL_tick_588 (by decide) (fun c109 => ?_) (fun c109 => ?_)
      · have h := ite_f h c109
        refine lv_iconst (v := 0) hx hb dL_tick_648 (by decide) ?_
        exact r_iretb C P (Or.inl rfl) h dL_tick_649
      · have h := ite_t h c109
        refine lv_iload hx hb dL_tick_591 (lv_at hl 5 rfl) ?_
        refine lv_if_ne (tgt := 644) hx hb dL_tick_593 (by decide) (fun c110 => ?_) (fun c110 => ?_)
        · have h := ite_f h c110
          refine lv_iconst (v := 1) hx hb dL_tick_644 (by decide) ?_
          refine lv_goto (tgt := 649) hx hb dL_tick_645 (by decide) ?_
          exact r_iretb C P (Or.inr rfl) h dL_tick_649
        · have h := ite_t h c110
          refine lv_iload hx hb dL_tick_596 (lv_at hl 4 rfl) ?_
          refine lv_iconst (v := 4) hx hb dL_tick_598 (by decide) ?_
          refine lv_icmp_ne (tgt := 648) hx hb dL_tick_599 (by decide) (fun c111 => ?_) (fun c111 => ?_)
          · have h := ite_f h c111
            refine lv_iconst (v := 0) hx hb dL_tick_648 (by decide) ?_
            exact r_iretb C P (Or.inl rfl) h dL_tick_649
          · have h := ite_t h c111
            refine lv_aload_n hx hb dL_tick_602 rfl (lv_at hl 0 rfl) ?_
            refine lv_iload_n hx hb dL_tick_603 rfl (lv_at hl 1 rfl) ?_
            refine lv_iconst (v := 3) hx hb dL_tick_604 (by decide) ?_
            refine r_calli (F := EC cA o) (va_runV (As := [.int x1, .int (3 : Int32)]) (rest := []) C.1 (c_X9_gate l D cA o _ _ u107 _ h) (cwV 2 C.1.2.2.2.2 gL_tick_X9_gate rfl rfl rfl (by decide +kernel) ⟨Nat.le_of_ble_eq_true rfl, Nat.le_of_ble_eq_true rfl⟩) (r_preV C P [.int x1, .int (3 : Int32)] (ci := 9) rfl (kd_lt kd_at_0 (by decide)) (EK_9 kd_at_0)) rfl rfl hl.1 rfl (lv_room (Nat.le_of_ble_eq_true rfl)) dL_tick_605 ⟨Nat.le_of_ble_eq_true rfl, Nat.le_of_ble_eq_true rfl⟩) P.2 (fun r113 u112 H locs h P => ?_)
            refine lv_iload hx hb dL_tick_608 (lv_at hl 2 rfl) ?_
            refine lv_icmp_ne (tgt := 648) hx hb dL_tick_610 (by decide) (fun c114 => ?_) (fun c114 => ?_)
            · have h := ite_f h c114
              refine lv_iconst (v := 0) hx hb dL_tick_648 (by decide) ?_
              exact r_iretb C P (Or.inl rfl) h dL_tick_649
            · have h := ite_t h c114
              refine lv_aload_n hx hb dL_tick_613 rfl (lv_at hl 0 rfl) ?_
              refine lv_iload_n hx hb dL_tick_614 rfl (lv_at hl 1 rfl) ?_
              refine lv_iconst (v := 2) hx hb dL_tick_615 (by decide) ?_
              refine r_calli (F := EC cA o) (va_runV (As := [.int x1, .int (2 : Int32)]) (rest := []) C.1 (c_X9_gate l D cA o _ _ u112 _ h) (cwV 2 C.1.2.2.2.2 gL_tick_X9_gate rfl rfl rfl (by decide +kernel) ⟨Nat.le_of_ble_eq_true rfl, Nat.le_of_ble_eq_true rfl⟩) (r_preV C P [.int x1, .int (2 : Int32)] (ci := 9) rfl (kd_lt kd_at_0 (by decide)) (EK_9 kd_at_0)) rfl rfl hl.1 rfl (lv_room (Nat.le_of_ble_eq_true rfl)) dL_tick_616 ⟨Nat.le_of_ble_eq_true rfl, Nat.le_of_ble_eq_true rfl⟩) P.2 (fun r116 u115 H locs h P => ?_)
              refine lv_iconst (v := 1) hx hb dL_tick_619 (by decide) ?_
              refine lv_icmp_lt (tgt := 648) hx hb dL_tick_620 (by decide) (fun c117 => ?_) (fun c117 => ?_)
              · have h := ite_t h c117
                refine lv_iconst (v := 0) hx hb dL_tick_648 (by decide) ?_
                exact r_iretb C P (Or.inl rfl) h dL_tick_649
              · have h := ite_f h c117
                refine lv_aload_n hx hb dL_tick_623 rfl (lv_at hl 0 rfl) ?_
                refine lv_iconst (v := 0) hx hb dL_tick_624 (by decide) ?_
                refine lv_iconst (v := 3) hx hb dL_tick_625 (by decide) ?_
                refine r_calli (F := EC cA o) (va_runV (As := [.int (0 : Int32), .int (3 : Int32)]) (rest := []) C.1 (c_X9_event l D cA o _ _ u115 _ h) (cwV 2 C.1.2.2.2.2 gL_tick_X9_event rfl rfl rfl (by decide +kernel) ⟨Nat.le_of_ble_eq_true rfl, Nat.le_of_ble_eq_true rfl⟩) (r_preV C P [.int (0 : Int32), .int (3 : Int32)] (ci := 9) rfl (kd_lt kd_at_0 (by decide)) (EK_9 kd_at_0)) rfl rfl hl.1 rfl (lv_room (Nat.le_of_ble_eq_true rfl)) dL_tick_626 ⟨Nat.le_of_ble_eq_true rfl, Nat.le_of_ble_eq_true rfl⟩) P.2 (fun r119 u118 H locs h P => ?_)
                refine lv_iconst (v := 4) hx hb dL_tick_629 (by decide) ?_
                refine lv_icmp_ne (tgt := 648) hx hb dL_tick_630 (by decide) (fun c120 => ?_) (fun c120 => ?_)
                · have h := ite_f h c120
                  refine lv_iconst (v := 0) hx hb dL_tick_648 (by decide) ?_
                  exact r_iretb C P (Or.inl rfl) h dL_tick_649
                · have h := ite_t h c120
                  refine lv_aload_n hx hb dL_tick_633 rfl (lv_at hl 0 rfl) ?_
                  refine lv_iconst (v := 0) hx hb dL_tick_634 (by decide) ?_
                  refine lv_iconst (v := 2) hx hb dL_tick_635 (by decide) ?_
                  refine r_calli (F := EC cA o) (va_runV (As := [.int (0 : Int32), .int (2 : Int32)]) (rest := []) C.1 (c_X9_event l D cA o _ _ u118 _ h) (cwV 2 C.1.2.2.2.2 gL_tick_X9_event rfl rfl rfl (by decide +kernel) ⟨Nat.le_of_ble_eq_true rfl, Nat.le_of_ble_eq_true rfl⟩) (r_preV C P [.int (0 : Int32), .int (2 : Int32)] (ci := 9) rfl (kd_lt kd_at_0 (by decide)) (EK_9 kd_at_0)) rfl rfl hl.1 rfl (lv_room (Nat.le_of_ble_eq_true rfl)) dL_tick_636 ⟨Nat.le_of_ble_eq_true rfl, Nat.le_of_ble_eq_true rfl⟩) P.2 (fun r122 u121 H locs h P => ?_)
                  refine lv_iload hx hb dL_tick_639 (lv_at hl 2 rfl) ?_
                  refine lv_icmp_ne (tgt := 648) hx hb dL_tick_641 (by decide) (fun c123 => ?_) (fun c123 => ?_)
                  · have h := ite_f h c123
                    refine lv_iconst (v := 0) hx hb dL_tick_648 (by decide) ?_
                    exact r_iretb C P (Or.inl rfl) h dL_tick_649
                  · have h := ite_t h c123
                    refine lv_iconst (v := 1) hx hb dL_tick_644 (by decide) ?_
                    refine lv_goto (tgt := 649) hx hb dL_tick_645 (by decide) ?_
                    exact r_iretb C P (Or.inr rfl) h dL_tick_649
def w_L_tick_550  (Φ : Int32 → Mm → Prop) (x1 : Int32) (x4 : Int32) (x14 : Int32) (x16 : Int32) (x17 : Int32) (z0 : Int32) (u0 : Mm) : Prop := (if z0 = 0 then (w_L_tick_564 Φ x1 x4 x14 x17 z0 ((0 : Int32)) x16 u0) else (w_L_tick_564 Φ x1 x4 x14 x17 z0 ((1 : Int32)) x16 u0))
set_option maxHeartbeats 4000000 in
set_option maxRecDepth 100000 in
theorem t_L_tick_550 {p : Program} {l : Launch} {e : Env} {s : State} {m : MethodId} {args : Array Value} {below : List Frame} {meth : Method} {c : Code} {D : va_G} {cA : Nat → ClassId} {o : Nat}  {Φ : Int32 → Mm → Prop} (C : Cx p m meth c s args cL_tick 20 wsL_tick RL (some .boolean) D (tysL cA)) : ∀ (x1 : Int32) (x4 : Int32) (x14 : Int32) (x16 : Int32) (x17 : Int32) (z0 : Int32) (u0 : Mm), ∀ (H : Heap) (locs : List Loc) (ls : Array Slot), Hp 747 o D (EC cA o u0) s H locs → lv_has ls 20 [(0, .ref (o + 0)), (1, .int x1), (4, .int x4), (14, .int x14), (16, .int x16), (17, .int x17)] → w_L_tick_550 Φ x1 x4 x14 x16 x17 z0 u0 → W p l e rm_L_tick s m args below meth c H locs 0 0 (MQ below (Qg vI Φ (fun μ => Wd 747 o D (tysL cA) (EC cA o μ)) (aA o 747)) args s 0 0 (aA o 747)) (F0 m 550 ls [.int z0]) := by
  intro x1 x4 x14 x16 x17 z0 u0 H locs ls P hl h
  have hx := C.1.1
  have hb := C.1.2.1
  unfold w_L_tick_550 at h
  refine lv_istore (lv' := [(19, .int z0), (0, .ref (o + 0)), (1, .int x1), (4, .int x4), (14, .int x14), (16, .int x16), (17, .int x17)]) hx hb dL_tick_550 hl (by decide) rfl (fun ls hl => ?_)
  refine lv_iload hx hb dL_tick_552 (lv_at hl 5 rfl) ?_
  refine lv_iload hx hb dL_tick_554 (lv_at hl 0 rfl) ?_
  refine lv_if_eq (tgt := 563) hx hb dL_tick_556 (by decide) (fun c102 => ?_) (fun c102 => ?_)
  · have h := ite_t h c102
    refine lv_iconst (v := 0) hx hb dL_tick_563 (by decide) ?_
    exact t_L_tick_564 C _ _ _ _ _ _ _ u0 _ _ _ P (lv_sub hl [1, 2, 3, 4, 6, 0] rfl) h
  · have h := ite_f h c102
    refine lv_iconst (v := 1) hx hb dL_tick_559 (by decide) ?_
    refine lv_goto (tgt := 564) hx hb dL_tick_560 (by decide) ?_
    exact t_L_tick_564 C _ _ _ _ _ _ _ u0 _ _ _ P (lv_sub hl [1, 2, 3, 4, 6, 0] rfl) h
def w_L_tick_455  (Φ : Int32 → Mm → Prop) (x1 : Int32) (x7 : Int32) (x17 : Int32) (z0 : Int32) (u0 : Mm) : Prop := (if x17 = (1 : Int32) then (if z0 = 0 then (Φ (0 : Int32) u0) else (w_X9_gate x1 ((3 : Int32)) u0 (fun r130 u129 => (if r130 = x7 then (w_X9_person x7 ((0 : Int32)) u129 (fun r133 u132 => (if r133 = (2 : Int32) then (w_X9_gate x1 ((2 : Int32)) u132 (fun r136 u135 => (if r136 < (1 : Int32) then (Φ (0 : Int32) u135) else (w_X9_gate x1 ((2 : Int32)) u135 (fun r139 u138 => (if (10 : Int32) < r139 then (Φ (0 : Int32) u138) else (Φ (1 : Int32) u138))))))) else (Φ (0 : Int32) u132)))) else (Φ (0 : Int32) u129))))) else (Φ (0 : Int32) u0))
set_option maxHeartbeats 4000000 in
set_option maxRecDepth 100000 in
theorem t_L_tick_455 {p : Program} {l : Launch} {e : Env} {s : State} {m : MethodId} {args : Array Value} {below : List Frame} {meth : Method} {c : Code} {D : va_G} {cA : Nat → ClassId} {o : Nat}  {Φ : Int32 → Mm → Prop} (C : Cx p m meth c s args cL_tick 20 wsL_tick RL (some .boolean) D (tysL cA)) : ∀ (x1 : Int32) (x7 : Int32) (x17 : Int32) (z0 : Int32) (u0 : Mm), ∀ (H : Heap) (locs : List Loc) (ls : Array Slot), Hp 747 o D (EC cA o u0) s H locs → lv_has ls 20 [(0, .ref (o + 0)), (1, .int x1), (7, .int x7), (17, .int x17)] → w_L_tick_455 Φ x1 x7 x17 z0 u0 → W p l e rm_L_tick s m args below meth c H locs 0 0 (MQ below (Qg vI Φ (fun μ => Wd 747 o D (tysL cA) (EC cA o μ)) (aA o 747)) args s 0 0 (aA o 747)) (F0 m 455 ls [.int z0]) := by
  intro x1 x7 x17 z0 u0 H locs ls P hl h
  have hx := C.1.1
  have hb := C.1.2.1
  unfold w_L_tick_455 at h
  refine lv_istore (lv' := [(18, .int z0), (0, .ref (o + 0)), (1, .int x1), (7, .int x7), (17, .int x17)]) hx hb dL_tick_455 hl (by decide) rfl (fun ls hl => ?_)
  refine lv_iload hx hb dL_tick_457 (lv_at hl 4 rfl) ?_
  refine lv_iconst (v := 1) hx hb dL_tick_459 (by decide) ?_
  refine lv_icmp_ne (tgt := 515) hx hb dL_tick_460 (by decide) (fun c127 => ?_) (fun c127 => ?_)
  · have h := ite_f h c127
    refine lv_iconst (v := 0) hx hb dL_tick_515 (by decide) ?_
    exact r_iretb C P (Or.inl rfl) h dL_tick_516
  · have h := ite_t h c127
    refine lv_iload hx hb dL_tick_463 (lv_at hl 0 rfl) ?_
    refine lv_if_eq (tgt := 515) hx hb dL_tick_465 (by decide) (fun c128 => ?_) (fun c128 => ?_)
    · have h := ite_t h c128
      refine lv_iconst (v := 0) hx hb dL_tick_515 (by decide) ?_
      exact r_iretb C P (Or.inl rfl) h dL_tick_516
    · have h := ite_f h c128
      refine lv_aload_n hx hb dL_tick_468 rfl (lv_at hl 1 rfl) ?_
      refine lv_iload_n hx hb dL_tick_469 rfl (lv_at hl 2 rfl) ?_
      refine lv_iconst (v := 3) hx hb dL_tick_470 (by decide) ?_
      refine r_calli (F := EC cA o) (va_runV (As := [.int x1, .int (3 : Int32)]) (rest := []) C.1 (c_X9_gate l D cA o _ _ u0 _ h) (cwV 2 C.1.2.2.2.2 gL_tick_X9_gate rfl rfl rfl (by decide +kernel) ⟨Nat.le_of_ble_eq_true rfl, Nat.le_of_ble_eq_true rfl⟩) (r_preV C P [.int x1, .int (3 : Int32)] (ci := 9) rfl (kd_lt kd_at_0 (by decide)) (EK_9 kd_at_0)) rfl rfl hl.1 rfl (lv_room (Nat.le_of_ble_eq_true rfl)) dL_tick_471 ⟨Nat.le_of_ble_eq_true rfl, Nat.le_of_ble_eq_true rfl⟩) P.2 (fun r130 u129 H locs h P => ?_)
      refine lv_iload hx hb dL_tick_474 (lv_at hl 3 rfl) ?_
      refine lv_icmp_ne (tgt := 515) hx hb dL_tick_476 (by decide) (fun c131 => ?_) (fun c131 => ?_)
      · have h := ite_f h c131
        refine lv_iconst (v := 0) hx hb dL_tick_515 (by decide) ?_
        exact r_iretb C P (Or.inl rfl) h dL_tick_516
      · have h := ite_t h c131
        refine lv_aload_n hx hb dL_tick_479 rfl (lv_at hl 1 rfl) ?_
        refine lv_iload hx hb dL_tick_480 (lv_at hl 3 rfl) ?_
        refine lv_iconst (v := 0) hx hb dL_tick_482 (by decide) ?_
        refine r_calli (F := EC cA o) (va_runV (As := [.int x7, .int (0 : Int32)]) (rest := []) C.1 (c_X9_person l D cA o _ _ u129 _ h) (cwV 2 C.1.2.2.2.2 gL_tick_X9_person rfl rfl rfl (by decide +kernel) ⟨Nat.le_of_ble_eq_true rfl, Nat.le_of_ble_eq_true rfl⟩) (r_preV C P [.int x7, .int (0 : Int32)] (ci := 9) rfl (kd_lt kd_at_0 (by decide)) (EK_9 kd_at_0)) rfl rfl hl.1 rfl (lv_room (Nat.le_of_ble_eq_true rfl)) dL_tick_483 ⟨Nat.le_of_ble_eq_true rfl, Nat.le_of_ble_eq_true rfl⟩) P.2 (fun r133 u132 H locs h P => ?_)
        refine lv_iconst (v := 2) hx hb dL_tick_486 (by decide) ?_
        refine lv_icmp_ne (tgt := 515) hx hb dL_tick_487 (by decide) (fun c134 => ?_) (fun c134 => ?_)
        · have h := ite_f h c134
          refine lv_iconst (v := 0) hx hb dL_tick_515 (by decide) ?_
          exact r_iretb C P (Or.inl rfl) h dL_tick_516
        · have h := ite_t h c134
          refine lv_aload_n hx hb dL_tick_490 rfl (lv_at hl 1 rfl) ?_
          refine lv_iload_n hx hb dL_tick_491 rfl (lv_at hl 2 rfl) ?_
          refine lv_iconst (v := 2) hx hb dL_tick_492 (by decide) ?_
          refine r_calli (F := EC cA o) (va_runV (As := [.int x1, .int (2 : Int32)]) (rest := []) C.1 (c_X9_gate l D cA o _ _ u132 _ h) (cwV 2 C.1.2.2.2.2 gL_tick_X9_gate rfl rfl rfl (by decide +kernel) ⟨Nat.le_of_ble_eq_true rfl, Nat.le_of_ble_eq_true rfl⟩) (r_preV C P [.int x1, .int (2 : Int32)] (ci := 9) rfl (kd_lt kd_at_0 (by decide)) (EK_9 kd_at_0)) rfl rfl hl.1 rfl (lv_room (Nat.le_of_ble_eq_true rfl)) dL_tick_493 ⟨Nat.le_of_ble_eq_true rfl, Nat.le_of_ble_eq_true rfl⟩) P.2 (fun r136 u135 H locs h P => ?_)
          refine lv_iconst (v := 1) hx hb dL_tick_496 (by decide) ?_
          refine lv_icmp_lt (tgt := 515) hx hb dL_tick_497 (by decide) (fun c137 => ?_) (fun c137 => ?_)
          · have h := ite_t h c137
            refine lv_iconst (v := 0) hx hb dL_tick_515 (by decide) ?_
            exact r_iretb C P (Or.inl rfl) h dL_tick_516
          · have h := ite_f h c137
            refine lv_aload_n hx hb dL_tick_500 rfl (lv_at hl 1 rfl) ?_
            refine lv_iload_n hx hb dL_tick_501 rfl (lv_at hl 2 rfl) ?_
            refine lv_iconst (v := 2) hx hb dL_tick_502 (by decide) ?_
            refine r_calli (F := EC cA o) (va_runV (As := [.int x1, .int (2 : Int32)]) (rest := []) C.1 (c_X9_gate l D cA o _ _ u135 _ h) (cwV 2 C.1.2.2.2.2 gL_tick_X9_gate rfl rfl rfl (by decide +kernel) ⟨Nat.le_of_ble_eq_true rfl, Nat.le_of_ble_eq_true rfl⟩) (r_preV C P [.int x1, .int (2 : Int32)] (ci := 9) rfl (kd_lt kd_at_0 (by decide)) (EK_9 kd_at_0)) rfl rfl hl.1 rfl (lv_room (Nat.le_of_ble_eq_true rfl)) dL_tick_503 ⟨Nat.le_of_ble_eq_true rfl, Nat.le_of_ble_eq_true rfl⟩) P.2 (fun r139 u138 H locs h P => ?_)
            refine lv_bipush (v := 10) hx hb dL_tick_506 (by decide) ?_
            refine lv_icmp_gt (tgt := 515) hx hb dL_tick_508 (by decide) (fun c140 => ?_) (fun c140 => ?_)
            · have h := ite_t h c140
              refine lv_iconst (v := 0) hx hb dL_tick_515 (by decide) ?_
              exact r_iretb C P (Or.inl rfl) h dL_tick_516
            · have h := ite_f h c140
              refine lv_iconst (v := 1) hx hb dL_tick_511 (by decide) ?_
              refine lv_goto (tgt := 516) hx hb dL_tick_512 (by decide) ?_
              exact r_iretb C P (Or.inr rfl) h dL_tick_516
def w_L_tick_450  (Φ : Int32 → Mm → Prop) (x1 : Int32) (x7 : Int32) (x17 : Int32) (u0 : Mm) : Prop := (w_L_tick_455 Φ x1 x7 x17 ((1 : Int32)) u0)
set_option maxHeartbeats 4000000 in
set_option maxRecDepth 100000 in
theorem t_L_tick_450 {p : Program} {l : Launch} {e : Env} {s : State} {m : MethodId} {args : Array Value} {below : List Frame} {meth : Method} {c : Code} {D : va_G} {cA : Nat → ClassId} {o : Nat}  {Φ : Int32 → Mm → Prop} (C : Cx p m meth c s args cL_tick 20 wsL_tick RL (some .boolean) D (tysL cA)) : ∀ (x1 : Int32) (x7 : Int32) (x17 : Int32) (u0 : Mm), ∀ (H : Heap) (locs : List Loc) (ls : Array Slot), Hp 747 o D (EC cA o u0) s H locs → lv_has ls 20 [(0, .ref (o + 0)), (1, .int x1), (7, .int x7), (17, .int x17)] → w_L_tick_450 Φ x1 x7 x17 u0 → W p l e rm_L_tick s m args below meth c H locs 0 0 (MQ below (Qg vI Φ (fun μ => Wd 747 o D (tysL cA) (EC cA o μ)) (aA o 747)) args s 0 0 (aA o 747)) (F0 m 450 ls []) := by
  intro x1 x7 x17 u0 H locs ls P hl h
  have hx := C.1.1
  have hb := C.1.2.1
  unfold w_L_tick_450 at h
  refine lv_iconst (v := 1) hx hb dL_tick_450 (by decide) ?_
  refine lv_goto (tgt := 455) hx hb dL_tick_451 (by decide) ?_
  exact t_L_tick_455 C _ _ _ _ u0 _ _ _ P (lv_sub hl [0, 1, 2, 3] rfl) h
def w_L_tick_454  (Φ : Int32 → Mm → Prop) (x1 : Int32) (x7 : Int32) (x17 : Int32) (u0 : Mm) : Prop := (w_L_tick_455 Φ x1 x7 x17 ((0 : Int32)) u0)
set_option maxHeartbeats 4000000 in
set_option maxRecDepth 100000 in
theorem t_L_tick_454 {p : Program} {l : Launch} {e : Env} {s : State} {m : MethodId} {args : Array Value} {below : List Frame} {meth : Method} {c : Code} {D : va_G} {cA : Nat → ClassId} {o : Nat}  {Φ : Int32 → Mm → Prop} (C : Cx p m meth c s args cL_tick 20 wsL_tick RL (some .boolean) D (tysL cA)) : ∀ (x1 : Int32) (x7 : Int32) (x17 : Int32) (u0 : Mm), ∀ (H : Heap) (locs : List Loc) (ls : Array Slot), Hp 747 o D (EC cA o u0) s H locs → lv_has ls 20 [(0, .ref (o + 0)), (1, .int x1), (7, .int x7), (17, .int x17)] → w_L_tick_454 Φ x1 x7 x17 u0 → W p l e rm_L_tick s m args below meth c H locs 0 0 (MQ below (Qg vI Φ (fun μ => Wd 747 o D (tysL cA) (EC cA o μ)) (aA o 747)) args s 0 0 (aA o 747)) (F0 m 454 ls []) := by
  intro x1 x7 x17 u0 H locs ls P hl h
  have hx := C.1.1
  have hb := C.1.2.1
  unfold w_L_tick_454 at h
  refine lv_iconst (v := 0) hx hb dL_tick_454 (by decide) ?_
  exact t_L_tick_455 C _ _ _ _ u0 _ _ _ P (lv_sub hl [0, 1, 2, 3] rfl) h
def w_L_tick_183  (Φ : Int32 → Mm → Prop) (x1 : Int32) (x2 : Int32) (x3 : Int32) (x4 : Int32) (x7 : Int32) (x8 : Int32) (x9 : Int32) (z0 : Int32) (u0 : Mm) : Prop := (w_X9_count ((0 : Int32)) u0 (fun r28 u27 => (w_X9_gate x1 ((10 : Int32)) u27 (fun r30 u29 => (w_X9_gate x1 ((6 : Int32)) u29 (fun r32 u31 => (w_X9_gate x1 ((7 : Int32)) u31 (fun r34 u33 => (w_X9_gate x1 ((9 : Int32)) u33 (fun r36 u35 => (w_X9_gate x1 ((8 : Int32)) u35 (fun r38 u37 => (w_X9_pass ((1 : Int32)) u37 (fun r40 u39 => (w_X9_gate x1 ((1 : Int32)) u39 (fun r42 u41 => (w_X9_count ((0 : Int32)) u41 (fun r44 u43 => (if r44 = (r28 + (1 : Int32)) then (if x2 = (5 : Int32) then (if r42 = (5 : Int32) then (if r40 = 0 then (Φ (1 : Int32) u43) else (Φ (0 : Int32) u43)) else (Φ (0 : Int32) u43)) else (if x2 = 0 then (if 0 ≤ x7 then (if x9 ≤ 0 then (if x8 = 0 then (w_L_tick_450 Φ x1 x7 r42 u43) else (w_X9_person x7 ((1 : Int32)) u43 (fun r142 u141 => (w_X9_passOf r142 ((0 : Int32)) u141 (fun r144 u143 => (w_X9_pool r144 ((0 : Int32)) u143 (fun r146 u145 => (w_X9_count ((9 : Int32)) u145 (fun r148 u147 => (if r146 = (z0 - r148) then (w_X9_event ((0 : Int32)) ((3 : Int32)) u147 (fun r151 u150 => (if r151 = 0 then (w_X9_event ((0 : Int32)) ((2 : Int32)) u150 (fun r154 u153 => (if r154 = x7 then (w_L_tick_450 Φ x1 x7 r42 u153) else (w_L_tick_454 Φ x1 x7 r42 u153)))) else (w_L_tick_454 Φ x1 x7 r42 u150)))) else (w_L_tick_454 Φ x1 x7 r42 u147))))))))))) else (if r42 = 0 then (w_X9_person x7 ((0 : Int32)) u43 (fun r158 u157 => (if r158 = 0 then (w_X9_person x7 ((4 : Int32)) u157 (fun r161 u160 => (if r161 = x9 then (w_X9_gate x1 ((8 : Int32)) u160 (fun r164 u163 => (if r164 = (r38 + (1 : Int32)) then (w_X9_event ((0 : Int32)) ((3 : Int32)) u163 (fun r167 u166 => (if r167 = (1 : Int32) then (w_X9_event ((0 : Int32)) ((2 : Int32)) u166 (fun r170 u169 => (if r170 = x7 then (w_X9_event ((0 : Int32)) ((0 : Int32)) u169 (fun r173 u172 => (if r173 = r28 then (Φ (1 : Int32) u172) else (Φ (0 : Int32) u172)))) else (Φ (0 : Int32) u169)))) else (Φ (0 : Int32) u166)))) else (Φ (0 : Int32) u163)))) else (Φ (0 : Int32) u160)))) else (Φ (0 : Int32) u157)))) else (Φ (0 : Int32) u43))) else (if r42 = 0 then (if r40 = 0 then (Φ (1 : Int32) u43) else (Φ (0 : Int32) u43)) else (Φ (0 : Int32) u43))) else (w_X9_person x4 ((2 : Int32)) u43 (fun r49 u48 => (if x2 = (3 : Int32) then (if r30 = (1 : Int32) then (if r42 = (5 : Int32) then (w_L_tick_550 Φ x1 x4 r36 r40 r42 ((1 : Int32)) u48) else (w_L_tick_550 Φ x1 x4 r36 r40 r42 ((0 : Int32)) u48)) else (w_L_tick_650 Φ x1 x2 x3 x4 ((r32 + r34)) r40 r42 (((2 : Int32) * r49)) u48)) else (w_L_tick_650 Φ x1 x2 x3 x4 ((r32 + r34)) r40 r42 (((2 : Int32) * r49)) u48)))))) else (Φ (0 : Int32) u43))))))))))))))))))))
set_option maxHeartbeats 4000000 in
set_option maxRecDepth 100000 in
theorem t_L_tick_183 {p : Program} {l : Launch} {e : Env} {s : State} {m : MethodId} {args : Array Value} {below : List Frame} {meth : Method} {c : Code} {D : va_G} {cA : Nat → ClassId} {o : Nat}  {Φ : Int32 → Mm → Prop} (C : Cx p m meth c s args cL_tick 20 wsL_tick RL (some .boolean) D (tysL cA)) : ∀ (x1 : Int32) (x2 : Int32) (x3 : Int32) (x4 : Int32) (x7 : Int32) (x8 : Int32) (x9 : Int32) (z0 : Int32) (u0 : Mm), ∀ (H : Heap) (locs : List Loc) (ls : Array Slot), Hp 747 o D (EC cA o u0) s H locs → lv_has ls 20 [(0, .ref (o + 0)), (1, .int x1), (2, .int x2), (3, .int x3), (4, .int x4), (7, .int x7), (8, .int x8), (9, .int x9)] → w_L_tick_183 Φ x1 x2 x3 x4 x7 x8 x9 z0 u0 → W p l e rm_L_tick s m args below meth c H locs 0 0 (MQ below (Qg vI Φ (fun μ => Wd 747 o D (tysL cA) (EC cA o μ)) (aA o 747)) args s 0 0 (aA o 747)) (F0 m 183 ls [.int z0]) := by
  intro x1 x2 x3 x4 x7 x8 x9 z0 u0 H locs ls P hl h
  have hx := C.1.1
  have hb := C.1.2.1
  unfold w_L_tick_183 at h
  refine lv_istore (lv' := [(10, .int z0), (0, .ref (o + 0)), (1, .int x1), (2, .int x2), (3, .int x3), (4, .int x4), (7, .int x7), (8, .int x8), (9, .int x9)]) hx hb dL_tick_183 hl (by decide) rfl (fun ls hl => ?_)
  refine lv_aload_n hx hb dL_tick_185 rfl (lv_at hl 1 rfl) ?_
  refine lv_iconst (v := 0) hx hb dL_tick_186 (by decide) ?_
  refine r_calli (F := EC cA o) (va_runV (As := [.int (0 : Int32)]) (rest := []) C.1 (c_X9_count l D cA o _ u0 _ h) (cwV 1 C.1.2.2.2.2 gL_tick_X9_count rfl rfl rfl (by decide +kernel) ⟨Nat.le_of_ble_eq_true rfl, Nat.le_of_ble_eq_true rfl⟩) (r_preV C P [.int (0 : Int32)] (ci := 9) rfl (kd_lt kd_at_0 (by decide)) (EK_9 kd_at_0)) rfl rfl hl.1 rfl (lv_room (Nat.le_of_ble_eq_true rfl)) dL_tick_187 ⟨Nat.le_of_ble_eq_true rfl, Nat.le_of_ble_eq_true rfl⟩) P.2 (fun r28 u27 H locs h P => ?_)
  refine lv_istore (lv' := [(11, .int r28), (10, .int z0), (0, .ref (o + 0)), (1, .int x1), (2, .int x2), (3, .int x3), (4, .int x4), (7, .int x7), (8, .int x8), (9, .int x9)]) hx hb dL_tick_190 hl (by decide) rfl (fun ls hl => ?_)
  refine lv_aload_n hx hb dL_tick_192 rfl (lv_at hl 2 rfl) ?_
  refine lv_iload_n hx hb dL_tick_193 rfl (lv_at hl 3 rfl) ?_
  refine lv_bipush (v := 10) hx hb dL_tick_194 (by decide) ?_
  refine r_calli (F := EC cA o) (va_runV (As := [.int x1, .int (10 : Int32)]) (rest := []) C.1 (c_X9_gate l D cA o _ _ u27 _ h) (cwV 2 C.1.2.2.2.2 gL_tick_X9_gate rfl rfl rfl (by decide +kernel) ⟨Nat.le_of_ble_eq_true rfl, Nat.le_of_ble_eq_true rfl⟩) (r_preV C P [.int x1, .int (10 : Int32)] (ci := 9) rfl (kd_lt kd_at_0 (by decide)) (EK_9 kd_at_0)) rfl rfl hl.1 rfl (lv_room (Nat.le_of_ble_eq_true rfl)) dL_tick_196 ⟨Nat.le_of_ble_eq_true rfl, Nat.le_of_ble_eq_true rfl⟩) P.2 (fun r30 u29 H locs h P => ?_)
  refine lv_istore (lv' := [(12, .int r30), (11, .int r28), (10, .int z0), (0, .ref (o + 0)), (1, .int x1), (2, .int x2), (3, .int x3), (4, .int x4), (7, .int x7), (8, .int x8), (9, .int x9)]) hx hb dL_tick_199 hl (by decide) rfl (fun ls hl => ?_)
  refine lv_aload_n hx hb dL_tick_201 rfl (lv_at hl 3 rfl) ?_
  refine lv_iload_n hx hb dL_tick_202 rfl (lv_at hl 4 rfl) ?_
  refine lv_bipush (v := 6) hx hb dL_tick_203 (by decide) ?_
  refine r_calli (F := EC cA o) (va_runV (As := [.int x1, .int (6 : Int32)]) (rest := []) C.1 (c_X9_gate l D cA o _ _ u29 _ h) (cwV 2 C.1.2.2.2.2 gL_tick_X9_gate rfl rfl rfl (by decide +kernel) ⟨Nat.le_of_ble_eq_true rfl, Nat.le_of_ble_eq_true rfl⟩) (r_preV C P [.int x1, .int (6 : Int32)] (ci := 9) rfl (kd_lt kd_at_0 (by decide)) (EK_9 kd_at_0)) rfl rfl hl.1 rfl (lv_room (Nat.le_of_ble_eq_true rfl)) dL_tick_205 ⟨Nat.le_of_ble_eq_true rfl, Nat.le_of_ble_eq_true rfl⟩) P.2 (fun r32 u31 H locs h P => ?_)
  refine lv_aload_n hx hb dL_tick_208 rfl (lv_at hl 3 rfl) ?_
  refine lv_iload_n hx hb dL_tick_209 rfl (lv_at hl 4 rfl) ?_
  refine lv_bipush (v := 7) hx hb dL_tick_210 (by decide) ?_
  refine r_calli (F := EC cA o) (va_runV (As := [.int x1, .int (7 : Int32)]) (rest := [.int r32]) C.1 (c_X9_gate l D cA o _ _ u31 _ h) (cwV 2 C.1.2.2.2.2 gL_tick_X9_gate rfl rfl rfl (by decide +kernel) ⟨Nat.le_of_ble_eq_true rfl, Nat.le_of_ble_eq_true rfl⟩) (r_preV C P [.int x1, .int (7 : Int32)] (ci := 9) rfl (kd_lt kd_at_0 (by decide)) (EK_9 kd_at_0)) rfl rfl hl.1 rfl (lv_room (Nat.le_of_ble_eq_true rfl)) dL_tick_212 ⟨Nat.le_of_ble_eq_true rfl, Nat.le_of_ble_eq_true rfl⟩) P.2 (fun r34 u33 H locs h P => ?_)
  refine lv_iadd hx hb dL_tick_215 ?_
  refine lv_istore (lv' := [(13, .int (r32 + r34)), (12, .int r30), (11, .int r28), (10, .int z0), (0, .ref (o + 0)), (1, .int x1), (2, .int x2), (3, .int x3), (4, .int x4), (7, .int x7), (8, .int x8), (9, .int x9)]) hx hb dL_tick_216 hl (by decide) rfl (fun ls hl => ?_)
  refine lv_aload_n hx hb dL_tick_218 rfl (lv_at hl 4 rfl) ?_
  refine lv_iload_n hx hb dL_tick_219 rfl (lv_at hl 5 rfl) ?_
  refine lv_bipush (v := 9) hx hb dL_tick_220 (by decide) ?_
  refine r_calli (F := EC cA o) (va_runV (As := [.int x1, .int (9 : Int32)]) (rest := []) C.1 (c_X9_gate l D cA o _ _ u33 _ h) (cwV 2 C.1.2.2.2.2 gL_tick_X9_gate rfl rfl rfl (by decide +kernel) ⟨Nat.le_of_ble_eq_true rfl, Nat.le_of_ble_eq_true rfl⟩) (r_preV C P [.int x1, .int (9 : Int32)] (ci := 9) rfl (kd_lt kd_at_0 (by decide)) (EK_9 kd_at_0)) rfl rfl hl.1 rfl (lv_room (Nat.le_of_ble_eq_true rfl)) dL_tick_222 ⟨Nat.le_of_ble_eq_true rfl, Nat.le_of_ble_eq_true rfl⟩) P.2 (fun r36 u35 H locs h P => ?_)
  refine lv_istore (lv' := [(14, .int r36), (13, .int (r32 + r34)), (12, .int r30), (11, .int r28), (10, .int z0), (0, .ref (o + 0)), (1, .int x1), (2, .int x2), (3, .int x3), (4, .int x4), (7, .int x7), (8, .int x8), (9, .int x9)]) hx hb dL_tick_225 hl (by decide) rfl (fun ls hl => ?_)
  refine lv_aload_n hx hb dL_tick_227 rfl (lv_at hl 5 rfl) ?_
  refine lv_iload_n hx hb dL_tick_228 rfl (lv_at hl 6 rfl) ?_
  refine lv_bipush (v := 8) hx hb dL_tick_229 (by decide) ?_
  refine r_calli (F := EC cA o) (va_runV (As := [.int x1, .int (8 : Int32)]) (rest := []) C.1 (c_X9_gate l D cA o _ _ u35 _ h) (cwV 2 C.1.2.2.2.2 gL_tick_X9_gate rfl rfl rfl (by decide +kernel) ⟨Nat.le_of_ble_eq_true rfl, Nat.le_of_ble_eq_true rfl⟩) (r_preV C P [.int x1, .int (8 : Int32)] (ci := 9) rfl (kd_lt kd_at_0 (by decide)) (EK_9 kd_at_0)) rfl rfl hl.1 rfl (lv_room (Nat.le_of_ble_eq_true rfl)) dL_tick_231 ⟨Nat.le_of_ble_eq_true rfl, Nat.le_of_ble_eq_true rfl⟩) P.2 (fun r38 u37 H locs h P => ?_)
  refine lv_istore (lv' := [(15, .int r38), (14, .int r36), (13, .int (r32 + r34)), (12, .int r30), (11, .int r28), (10, .int z0), (0, .ref (o + 0)), (1, .int x1), (2, .int x2), (3, .int x3), (4, .int x4), (7, .int x7), (8, .int x8), (9, .int x9)]) hx hb dL_tick_234 hl (by decide) rfl (fun ls hl => ?_)
  refine lv_aload_n hx hb dL_tick_236 rfl (lv_at hl 6 rfl) ?_
  refine lv_iconst (v := 1) hx hb dL_tick_237 (by decide) ?_
  refine r_calli (F := EC cA o) (va_runV (As := [.int (1 : Int32)]) (rest := []) C.1 (c_X9_pass l D cA o _ u37 _ h) (cwV 1 C.1.2.2.2.2 gL_tick_X9_pass rfl rfl rfl (by decide +kernel) ⟨Nat.le_of_ble_eq_true rfl, Nat.le_of_ble_eq_true rfl⟩) (r_preV C P [.int (1 : Int32)] (ci := 9) rfl (kd_lt kd_at_0 (by decide)) (EK_9 kd_at_0)) rfl rfl hl.1 rfl (lv_room (Nat.le_of_ble_eq_true rfl)) dL_tick_238 ⟨Nat.le_of_ble_eq_true rfl, Nat.le_of_ble_eq_true rfl⟩) P.2 (fun r40 u39 H locs h P => ?_)
  refine lv_istore (lv' := [(16, .int r40), (15, .int r38), (14, .int r36), (13, .int (r32 + r34)), (12, .int r30), (11, .int r28), (10, .int z0), (0, .ref (o + 0)), (1, .int x1), (2, .int x2), (3, .int x3), (4, .int x4), (7, .int x7), (8, .int x8), (9, .int x9)]) hx hb dL_tick_241 hl (by decide) rfl (fun ls hl => ?_)
  refine lv_aload_n hx hb dL_tick_243 rfl (lv_at hl 7 rfl) ?_
  refine lv_iload_n hx hb dL_tick_244 rfl (lv_at hl 8 rfl) ?_
  refine lv_iconst (v := 1) hx hb dL_tick_245 (by decide) ?_
  refine r_calli (F := EC cA o) (va_runV (As := [.int x1, .int (1 : Int32)]) (rest := []) C.1 (c_X9_gate l D cA o _ _ u39 _ h) (cwV 2 C.1.2.2.2.2 gL_tick_X9_gate rfl rfl rfl (by decide +kernel) ⟨Nat.le_of_ble_eq_true rfl, Nat.le_of_ble_eq_true rfl⟩) (r_preV C P [.int x1, .int (1 : Int32)] (ci := 9) rfl (kd_lt kd_at_0 (by decide)) (EK_9 kd_at_0)) rfl rfl hl.1 rfl (lv_room (Nat.le_of_ble_eq_true rfl)) dL_tick_246 ⟨Nat.le_of_ble_eq_true rfl, Nat.le_of_ble_eq_true rfl⟩) P.2 (fun r42 u41 H locs h P => ?_)
  refine lv_istore (lv' := [(17, .int r42), (16, .int r40), (15, .int r38), (14, .int r36), (13, .int (r32 + r34)), (12, .int r30), (11, .int r28), (10, .int z0), (0, .ref (o + 0)), (1, .int x1), (2, .int x2), (3, .int x3), (4, .int x4), (7, .int x7), (8, .int x8), (9, .int x9)]) hx hb dL_tick_249 hl (by decide) rfl (fun ls hl => ?_)
  refine lv_aload_n hx hb dL_tick_251 rfl (lv_at hl 8 rfl) ?_
  refine lv_iconst (v := 0) hx hb dL_tick_252 (by decide) ?_
  refine r_calli (F := EC cA o) (va_runV (As := [.int (0 : Int32)]) (rest := []) C.1 (c_X9_count l D cA o _ u41 _ h) (cwV 1 C.1.2.2.2.2 gL_tick_X9_count rfl rfl rfl (by decide +kernel) ⟨Nat.le_of_ble_eq_true rfl, Nat.le_of_ble_eq_true rfl⟩) (r_preV C P [.int (0 : Int32)] (ci := 9) rfl (kd_lt kd_at_0 (by decide)) (EK_9 kd_at_0)) rfl rfl hl.1 rfl (lv_room (Nat.le_of_ble_eq_true rfl)) dL_tick_253 ⟨Nat.le_of_ble_eq_true rfl, Nat.le_of_ble_eq_true rfl⟩) P.2 (fun r44 u43 H locs h P => ?_)
  refine lv_iload hx hb dL_tick_256 (lv_at hl 6 rfl) ?_
  refine lv_iconst (v := 1) hx hb dL_tick_258 (by decide) ?_
  refine lv_iadd hx hb dL_tick_259 ?_
  refine lv_icmp_eq (tgt := 265) hx hb dL_tick_260 (by decide) (fun c45 => ?_) (fun c45 => ?_)
  · have h := ite_t h c45
    refine lv_iload_n hx hb dL_tick_265 rfl (lv_at hl 10 rfl) ?_
    refine lv_iconst (v := 5) hx hb dL_tick_266 (by decide) ?_
    refine lv_icmp_ne (tgt := 287) hx hb dL_tick_267 (by decide) (fun c46 => ?_) (fun c46 => ?_)
    · have h := ite_f h c46
      refine lv_iload_n hx hb dL_tick_287 rfl (lv_at hl 10 rfl) ?_
      refine lv_if_ne (tgt := 517) hx hb dL_tick_288 (by decide) (fun c47 => ?_) (fun c47 => ?_)
      · have h := ite_f h c47
        refine lv_iconst (v := 2) hx hb dL_tick_517 (by decide) ?_
        refine lv_aload_n hx hb dL_tick_518 rfl (lv_at hl 8 rfl) ?_
        refine lv_iload hx hb dL_tick_519 (lv_at hl 12 rfl) ?_
        refine lv_iconst (v := 2) hx hb dL_tick_521 (by decide) ?_
        refine r_calli (F := EC cA o) (va_runV (As := [.int x4, .int (2 : Int32)]) (rest := [.int (2 : Int32)]) C.1 (c_X9_person l D cA o _ _ u43 _ h) (cwV 2 C.1.2.2.2.2 gL_tick_X9_person rfl rfl rfl (by decide +kernel) ⟨Nat.le_of_ble_eq_true rfl, Nat.le_of_ble_eq_true rfl⟩) (r_preV C P [.int x4, .int (2 : Int32)] (ci := 9) rfl (kd_lt kd_at_0 (by decide)) (EK_9 kd_at_0)) rfl rfl hl.1 rfl (lv_room (Nat.le_of_ble_eq_true rfl)) dL_tick_522 ⟨Nat.le_of_ble_eq_true rfl, Nat.le_of_ble_eq_true rfl⟩) P.2 (fun r49 u48 H locs h P => ?_)
        refine lv_imul hx hb dL_tick_525 ?_
        refine lv_istore (lv' := [(18, .int ((2 : Int32) * r49)), (17, .int r42), (16, .int r40), (15, .int r38), (14, .int r36), (13, .int (r32 + r34)), (12, .int r30), (11, .int r28), (10, .int z0), (0, .ref (o + 0)), (1, .int x1), (2, .int x2), (3, .int x3), (4, .int x4), (7, .int x7), (8, .int x8), (9, .int x9)]) hx hb dL_tick_526 hl (by decide) rfl (fun ls hl => ?_)
        refine lv_iload_n hx hb dL_tick_528 rfl (lv_at hl 11 rfl) ?_
        refine lv_iconst (v := 3) hx hb dL_tick_529 (by decide) ?_
        refine lv_icmp_ne (tgt := 650) hx hb dL_tick_530 (by decide) (fun c50 => ?_) (fun c50 => ?_)
        · have h := ite_f h c50
          exact t_L_tick_650 C _ _ _ _ _ _ _ _ u48 _ _ _ P (lv_sub hl [9, 10, 11, 12, 13, 5, 2, 1, 0] rfl) h
        · have h := ite_t h c50
          refine lv_iload hx hb dL_tick_533 (lv_at hl 6 rfl) ?_
          refine lv_iconst (v := 1) hx hb dL_tick_535 (by decide) ?_
          refine lv_icmp_ne (tgt := 650) hx hb dL_tick_536 (by decide) (fun c100 => ?_) (fun c100 => ?_)
          · have h := ite_f h c100
            exact t_L_tick_650 C _ _ _ _ _ _ _ _ u48 _ _ _ P (lv_sub hl [9, 10, 11, 12, 13, 5, 2, 1, 0] rfl) h
          · have h := ite_t h c100
            refine lv_iload hx hb dL_tick_539 (lv_at hl 1 rfl) ?_
            refine lv_iconst (v := 5) hx hb dL_tick_541 (by decide) ?_
            refine lv_icmp_ne (tgt := 549) hx hb dL_tick_542 (by decide) (fun c101 => ?_) (fun c101 => ?_)
            · have h := ite_f h c101
              refine lv_iconst (v := 0) hx hb dL_tick_549 (by decide) ?_
              exact t_L_tick_550 C _ _ _ _ _ _ u48 _ _ _ P (lv_sub hl [9, 10, 13, 4, 2, 1] rfl) h
            · have h := ite_t h c101
              refine lv_iconst (v := 1) hx hb dL_tick_545 (by decide) ?_
              refine lv_goto (tgt := 550) hx hb dL_tick_546 (by decide) ?_
              exact t_L_tick_550 C _ _ _ _ _ _ u48 _ _ _ P (lv_sub hl [9, 10, 13, 4, 2, 1] rfl) h
      · have h := ite_t h c47
        refine lv_iload hx hb dL_tick_291 (lv_at hl 13 rfl) ?_
        refine lv_if_ge (tgt := 312) hx hb dL_tick_293 (by decide) (fun c124 => ?_) (fun c124 => ?_)
        · have h := ite_t h c124
          refine lv_iload hx hb dL_tick_312 (lv_at hl 15 rfl) ?_
          refine lv_if_le (tgt := 396) hx hb dL_tick_314 (by decide) (fun c125 => ?_) (fun c125 => ?_)
          · have h := ite_t h c125
            refine lv_iload hx hb dL_tick_396 (lv_at hl 14 rfl) ?_
            refine lv_if_eq (tgt := 450) hx hb dL_tick_398 (by decide) (fun c126 => ?_) (fun c126 => ?_)
            · have h := ite_t h c126
              exact t_L_tick_450 C _ _ _ u43 _ _ _ P (lv_sub hl [8, 9, 13, 0] rfl) h
            · have h := ite_f h c126
              refine lv_aload_n hx hb dL_tick_401 rfl (lv_at hl 8 rfl) ?_
              refine lv_aload_n hx hb dL_tick_402 rfl (lv_at hl 8 rfl) ?_
              refine lv_aload_n hx hb dL_tick_403 rfl (lv_at hl 8 rfl) ?_
              refine lv_iload hx hb dL_tick_404 (lv_at hl 13 rfl) ?_
              refine lv_iconst (v := 1) hx hb dL_tick_406 (by decide) ?_
              refine r_calli (F := EC cA o) (va_runV (As := [.int x7, .int (1 : Int32)]) (rest := [.ref (o + 0), .ref (o + 0)]) C.1 (c_X9_person l D cA o _ _ u43 _ h) (cwV 2 C.1.2.2.2.2 gL_tick_X9_person rfl rfl rfl (by decide +kernel) ⟨Nat.le_of_ble_eq_true rfl, Nat.le_of_ble_eq_true rfl⟩) (r_preV C P [.int x7, .int (1 : Int32)] (ci := 9) rfl (kd_lt kd_at_0 (by decide)) (EK_9 kd_at_0)) rfl rfl hl.1 rfl (lv_room (Nat.le_of_ble_eq_true rfl)) dL_tick_407 ⟨Nat.le_of_ble_eq_true rfl, Nat.le_of_ble_eq_true rfl⟩) P.2 (fun r142 u141 H locs h P => ?_)
              refine lv_iconst (v := 0) hx hb dL_tick_410 (by decide) ?_
              refine r_calli (F := EC cA o) (va_runV (As := [.int r142, .int (0 : Int32)]) (rest := [.ref (o + 0)]) C.1 (c_X9_passOf l D cA o _ _ u141 _ h) (cwV 2 C.1.2.2.2.2 gL_tick_X9_passOf rfl rfl rfl (by decide +kernel) ⟨Nat.le_of_ble_eq_true rfl, Nat.le_of_ble_eq_true rfl⟩) (r_preV C P [.int r142, .int (0 : Int32)] (ci := 9) rfl (kd_lt kd_at_0 (by decide)) (EK_9 kd_at_0)) rfl rfl hl.1 rfl (lv_room (Nat.le_of_ble_eq_true rfl)) dL_tick_411 ⟨Nat.le_of_ble_eq_true rfl, Nat.le_of_ble_eq_true rfl⟩) P.2 (fun r144 u143 H locs h P => ?_)
              refine lv_iconst (v := 0) hx hb dL_tick_414 (by decide) ?_
              refine r_calli (F := EC cA o) (va_runV (As := [.int r144, .int (0 : Int32)]) (rest := []) C.1 (c_X9_pool l D cA o _ _ u143 _ h) (cwV 2 C.1.2.2.2.2 gL_tick_X9_pool rfl rfl rfl (by decide +kernel) ⟨Nat.le_of_ble_eq_true rfl, Nat.le_of_ble_eq_true rfl⟩) (r_preV C P [.int r144, .int (0 : Int32)] (ci := 9) rfl (kd_lt kd_at_0 (by decide)) (EK_9 kd_at_0)) rfl rfl hl.1 rfl (lv_room (Nat.le_of_ble_eq_true rfl)) dL_tick_415 ⟨Nat.le_of_ble_eq_true rfl, Nat.le_of_ble_eq_true rfl⟩) P.2 (fun r146 u145 H locs h P => ?_)
              refine lv_iload hx hb dL_tick_418 (lv_at hl 7 rfl) ?_
              refine lv_aload_n hx hb dL_tick_420 rfl (lv_at hl 8 rfl) ?_
              refine lv_bipush (v := 9) hx hb dL_tick_421 (by decide) ?_
              refine r_calli (F := EC cA o) (va_runV (As := [.int (9 : Int32)]) (rest := [.int z0, .int r146]) C.1 (c_X9_count l D cA o _ u145 _ h) (cwV 1 C.1.2.2.2.2 gL_tick_X9_count rfl rfl rfl (by decide +kernel) ⟨Nat.le_of_ble_eq_true rfl, Nat.le_of_ble_eq_true rfl⟩) (r_preV C P [.int (9 : Int32)] (ci := 9) rfl (kd_lt kd_at_0 (by decide)) (EK_9 kd_at_0)) rfl rfl hl.1 rfl (lv_room (Nat.le_of_ble_eq_true rfl)) dL_tick_423 ⟨Nat.le_of_ble_eq_true rfl, Nat.le_of_ble_eq_true rfl⟩) P.2 (fun r148 u147 H locs h P => ?_)
              refine lv_isub hx hb dL_tick_426 ?_
              refine lv_icmp_ne (tgt := 454) hx hb dL_tick_427 (by decide) (fun c149 => ?_) (fun c149 => ?_)
              · have h := ite_f h c149
                exact t_L_tick_454 C _ _ _ u147 _ _ _ P (lv_sub hl [8, 9, 13, 0] rfl) h
              · have h := ite_t h c149
                refine lv_aload_n hx hb dL_tick_430 rfl (lv_at hl 8 rfl) ?_
                refine lv_iconst (v := 0) hx hb dL_tick_431 (by decide) ?_
                refine lv_iconst (v := 3) hx hb dL_tick_432 (by decide) ?_
                refine r_calli (F := EC cA o) (va_runV (As := [.int (0 : Int32), .int (3 : Int32)]) (rest := []) C.1 (c_X9_event l D cA o _ _ u147 _ h) (cwV 2 C.1.2.2.2.2 gL_tick_X9_event rfl rfl rfl (by decide +kernel) ⟨Nat.le_of_ble_eq_true rfl, Nat.le_of_ble_eq_true rfl⟩) (r_preV C P [.int (0 : Int32), .int (3 : Int32)] (ci := 9) rfl (kd_lt kd_at_0 (by decide)) (EK_9 kd_at_0)) rfl rfl hl.1 rfl (lv_room (Nat.le_of_ble_eq_true rfl)) dL_tick_433 ⟨Nat.le_of_ble_eq_true rfl, Nat.le_of_ble_eq_true rfl⟩) P.2 (fun r151 u150 H locs h P => ?_)
                refine lv_if_ne (tgt := 454) hx hb dL_tick_436 (by decide) (fun c152 => ?_) (fun c152 => ?_)
                · have h := ite_f h c152
                  exact t_L_tick_454 C _ _ _ u150 _ _ _ P (lv_sub hl [8, 9, 13, 0] rfl) h
                · have h := ite_t h c152
                  refine lv_aload_n hx hb dL_tick_439 rfl (lv_at hl 8 rfl) ?_
                  refine lv_iconst (v := 0) hx hb dL_tick_440 (by decide) ?_
                  refine lv_iconst (v := 2) hx hb dL_tick_441 (by decide) ?_
                  refine r_calli (F := EC cA o) (va_runV (As := [.int (0 : Int32), .int (2 : Int32)]) (rest := []) C.1 (c_X9_event l D cA o _ _ u150 _ h) (cwV 2 C.1.2.2.2.2 gL_tick_X9_event rfl rfl rfl (by decide +kernel) ⟨Nat.le_of_ble_eq_true rfl, Nat.le_of_ble_eq_true rfl⟩) (r_preV C P [.int (0 : Int32), .int (2 : Int32)] (ci := 9) rfl (kd_lt kd_at_0 (by decide)) (EK_9 kd_at_0)) rfl rfl hl.1 rfl (lv_room (Nat.le_of_ble_eq_true rfl)) dL_tick_442 ⟨Nat.le_of_ble_eq_true rfl, Nat.le_of_ble_eq_true rfl⟩) P.2 (fun r154 u153 H locs h P => ?_)
                  refine lv_iload hx hb dL_tick_445 (lv_at hl 13 rfl) ?_
                  refine lv_icmp_ne (tgt := 454) hx hb dL_tick_447 (by decide) (fun c155 => ?_) (fun c155 => ?_)
                  · have h := ite_f h c155
                    exact t_L_tick_454 C _ _ _ u153 _ _ _ P (lv_sub hl [8, 9, 13, 0] rfl) h
                  · have h := ite_t h c155
                    exact t_L_tick_450 C _ _ _ u153 _ _ _ P (lv_sub hl [8, 9, 13, 0] rfl) h
          · have h := ite_f h c125
            refine lv_iload hx hb dL_tick_317 (lv_at hl 0 rfl) ?_
            refine lv_if_ne (tgt := 394) hx hb dL_tick_319 (by decide) (fun c156 => ?_) (fun c156 => ?_)
            · have h := ite_f h c156
              refine lv_iconst (v := 0) hx hb dL_tick_394 (by decide) ?_
              exact r_iretb C P (Or.inl rfl) h dL_tick_395
            · have h := ite_t h c156
              refine lv_aload_n hx hb dL_tick_322 rfl (lv_at hl 8 rfl) ?_
              refine lv_iload hx hb dL_tick_323 (lv_at hl 13 rfl) ?_
              refine lv_iconst (v := 0) hx hb dL_tick_325 (by decide) ?_
              refine r_calli (F := EC cA o) (va_runV (As := [.int x7, .int (0 : Int32)]) (rest := []) C.1 (c_X9_person l D cA o _ _ u43 _ h) (cwV 2 C.1.2.2.2.2 gL_tick_X9_person rfl rfl rfl (by decide +kernel) ⟨Nat.le_of_ble_eq_true rfl, Nat.le_of_ble_eq_true rfl⟩) (r_preV C P [.int x7, .int (0 : Int32)] (ci := 9) rfl (kd_lt kd_at_0 (by decide)) (EK_9 kd_at_0)) rfl rfl hl.1 rfl (lv_room (Nat.le_of_ble_eq_true rfl)) dL_tick_326 ⟨Nat.le_of_ble_eq_true rfl, Nat.le_of_ble_eq_true rfl⟩) P.2 (fun r158 u157 H locs h P => ?_)
              refine lv_if_ne (tgt := 394) hx hb dL_tick_329 (by decide) (fun c159 => ?_) (fun c159 => ?_)
              · have h := ite_f h c159
                refine lv_iconst (v := 0) hx hb dL_tick_394 (by decide) ?_
                exact r_iretb C P (Or.inl rfl) h dL_tick_395
              · have h := ite_t h c159
                refine lv_aload_n hx hb dL_tick_332 rfl (lv_at hl 8 rfl) ?_
                refine lv_iload hx hb dL_tick_333 (lv_at hl 13 rfl) ?_
                refine lv_iconst (v := 4) hx hb dL_tick_335 (by decide) ?_
                refine r_calli (F := EC cA o) (va_runV (As := [.int x7, .int (4 : Int32)]) (rest := []) C.1 (c_X9_person l D cA o _ _ u157 _ h) (cwV 2 C.1.2.2.2.2 gL_tick_X9_person rfl rfl rfl (by decide +kernel) ⟨Nat.le_of_ble_eq_true rfl, Nat.le_of_ble_eq_true rfl⟩) (r_preV C P [.int x7, .int (4 : Int32)] (ci := 9) rfl (kd_lt kd_at_0 (by decide)) (EK_9 kd_at_0)) rfl rfl hl.1 rfl (lv_room (Nat.le_of_ble_eq_true rfl)) dL_tick_336 ⟨Nat.le_of_ble_eq_true rfl, Nat.le_of_ble_eq_true rfl⟩) P.2 (fun r161 u160 H locs h P => ?_)
                refine lv_iload hx hb dL_tick_339 (lv_at hl 15 rfl) ?_
                refine lv_icmp_ne (tgt := 394) hx hb dL_tick_341 (by decide) (fun c162 => ?_) (fun c162 => ?_)
                · have h := ite_f h c162
                  refine lv_iconst (v := 0) hx hb dL_tick_394 (by decide) ?_
                  exact r_iretb C P (Or.inl rfl) h dL_tick_395
                · have h := ite_t h c162
                  refine lv_aload_n hx hb dL_tick_344 rfl (lv_at hl 8 rfl) ?_
                  refine lv_iload_n hx hb dL_tick_345 rfl (lv_at hl 9 rfl) ?_
                  refine lv_bipush (v := 8) hx hb dL_tick_346 (by decide) ?_
                  refine r_calli (F := EC cA o) (va_runV (As := [.int x1, .int (8 : Int32)]) (rest := []) C.1 (c_X9_gate l D cA o _ _ u160 _ h) (cwV 2 C.1.2.2.2.2 gL_tick_X9_gate rfl rfl rfl (by decide +kernel) ⟨Nat.le_of_ble_eq_true rfl, Nat.le_of_ble_eq_true rfl⟩) (r_preV C P [.int x1, .int (8 : Int32)] (ci := 9) rfl (kd_lt kd_at_0 (by decide)) (EK_9 kd_at_0)) rfl rfl hl.1 rfl (lv_room (Nat.le_of_ble_eq_true rfl)) dL_tick_348 ⟨Nat.le_of_ble_eq_true rfl, Nat.le_of_ble_eq_true rfl⟩) P.2 (fun r164 u163 H locs h P => ?_)
                  refine lv_iload hx hb dL_tick_351 (lv_at hl 2 rfl) ?_
                  refine lv_iconst (v := 1) hx hb dL_tick_353 (by decide) ?_
                  refine lv_iadd hx hb dL_tick_354 ?_
                  refine lv_icmp_ne (tgt := 394) hx hb dL_tick_355 (by decide) (fun c165 => ?_) (fun c165 => ?_)
                  · have h := ite_f h c165
                    refine lv_iconst (v := 0) hx hb dL_tick_394 (by decide) ?_
                    exact r_iretb C P (Or.inl rfl) h dL_tick_395
                  · have h := ite_t h c165
                    refine lv_aload_n hx hb dL_tick_358 rfl (lv_at hl 8 rfl) ?_
                    refine lv_iconst (v := 0) hx hb dL_tick_359 (by decide) ?_
                    refine lv_iconst (v := 3) hx hb dL_tick_360 (by decide) ?_
                    refine r_calli (F := EC cA o) (va_runV (As := [.int (0 : Int32), .int (3 : Int32)]) (rest := []) C.1 (c_X9_event l D cA o _ _ u163 _ h) (cwV 2 C.1.2.2.2.2 gL_tick_X9_event rfl rfl rfl (by decide +kernel) ⟨Nat.le_of_ble_eq_true rfl, Nat.le_of_ble_eq_true rfl⟩) (r_preV C P [.int (0 : Int32), .int (3 : Int32)] (ci := 9) rfl (kd_lt kd_at_0 (by decide)) (EK_9 kd_at_0)) rfl rfl hl.1 rfl (lv_room (Nat.le_of_ble_eq_true rfl)) dL_tick_361 ⟨Nat.le_of_ble_eq_true rfl, Nat.le_of_ble_eq_true rfl⟩) P.2 (fun r167 u166 H locs h P => ?_)
                    refine lv_iconst (v := 1) hx hb dL_tick_364 (by decide) ?_
                    refine lv_icmp_ne (tgt := 394) hx hb dL_tick_365 (by decide) (fun c168 => ?_) (fun c168 => ?_)
                    · have h := ite_f h c168
                      refine lv_iconst (v := 0) hx hb dL_tick_394 (by decide) ?_
                      exact r_iretb C P (Or.inl rfl) h dL_tick_395
                    · have h := ite_t h c168
                      refine lv_aload_n hx hb dL_tick_368 rfl (lv_at hl 8 rfl) ?_
                      refine lv_iconst (v := 0) hx hb dL_tick_369 (by decide) ?_
                      refine lv_iconst (v := 2) hx hb dL_tick_370 (by decide) ?_
                      refine r_calli (F := EC cA o) (va_runV (As := [.int (0 : Int32), .int (2 : Int32)]) (rest := []) C.1 (c_X9_event l D cA o _ _ u166 _ h) (cwV 2 C.1.2.2.2.2 gL_tick_X9_event rfl rfl rfl (by decide +kernel) ⟨Nat.le_of_ble_eq_true rfl, Nat.le_of_ble_eq_true rfl⟩) (r_preV C P [.int (0 : Int32), .int (2 : Int32)] (ci := 9) rfl (kd_lt kd_at_0 (by decide)) (EK_9 kd_at_0)) rfl rfl hl.1 rfl (lv_room (Nat.le_of_ble_eq_true rfl)) dL_tick_371 ⟨Nat.le_of_ble_eq_true rfl, Nat.le_of_ble_eq_true rfl⟩) P.2 (fun r170 u169 H locs h P => ?_)
                      refine lv_iload hx hb dL_tick_374 (lv_at hl 13 rfl) ?_
                      refine lv_icmp_ne (tgt := 394) hx hb dL_tick_376 (by decide) (fun c171 => ?_) (fun c171 => ?_)
                      · have h := ite_f h c171
                        refine lv_iconst (v := 0) hx hb dL_tick_394 (by decide) ?_
                        exact r_iretb C P (Or.inl rfl) h dL_tick_395
                      · have h := ite_t h c171
                        refine lv_aload_n hx hb dL_tick_379 rfl (lv_at hl 8 rfl) ?_
                        refine lv_iconst (v := 0) hx hb dL_tick_380 (by decide) ?_
                        refine lv_iconst (v := 0) hx hb dL_tick_381 (by decide) ?_
                        refine r_calli (F := EC cA o) (va_runV (As := [.int (0 : Int32), .int (0 : Int32)]) (rest := []) C.1 (c_X9_event l D cA o _ _ u169 _ h) (cwV 2 C.1.2.2.2.2 gL_tick_X9_event rfl rfl rfl (by decide +kernel) ⟨Nat.le_of_ble_eq_true rfl, Nat.le_of_ble_eq_true rfl⟩) (r_preV C P [.int (0 : Int32), .int (0 : Int32)] (ci := 9) rfl (kd_lt kd_at_0 (by decide)) (EK_9 kd_at_0)) rfl rfl hl.1 rfl (lv_room (Nat.le_of_ble_eq_true rfl)) dL_tick_382 ⟨Nat.le_of_ble_eq_true rfl, Nat.le_of_ble_eq_true rfl⟩) P.2 (fun r173 u172 H locs h P => ?_)
                        refine lv_iload hx hb dL_tick_385 (lv_at hl 6 rfl) ?_
                        refine lv_icmp_ne (tgt := 394) hx hb dL_tick_387 (by decide) (fun c174 => ?_) (fun c174 => ?_)
                        · have h := ite_f h c174
                          refine lv_iconst (v := 0) hx hb dL_tick_394 (by decide) ?_
                          exact r_iretb C P (Or.inl rfl) h dL_tick_395
                        · have h := ite_t h c174
                          refine lv_iconst (v := 1) hx hb dL_tick_390 (by decide) ?_
                          refine lv_goto (tgt := 395) hx hb dL_tick_391 (by decide) ?_
                          exact r_iretb C P (Or.inr rfl) h dL_tick_395
        · have h := ite_f h c124
          refine lv_iload hx hb dL_tick_296 (lv_at hl 0 rfl) ?_
          refine lv_if_ne (tgt := 310) hx hb dL_tick_298 (by decide) (fun c175 => ?_) (fun c175 => ?_)
          · have h := ite_f h c175
            refine lv_iconst (v := 0) hx hb dL_tick_310 (by decide) ?_
            exact r_iretb C P (Or.inl rfl) h dL_tick_311
          · have h := ite_t h c175
            refine lv_iload hx hb dL_tick_301 (lv_at hl 1 rfl) ?_
            refine lv_if_ne (tgt := 310) hx hb dL_tick_303 (by decide) (fun c176 => ?_) (fun c176 => ?_)
            · have h := ite_f h c176
              refine lv_iconst (v := 0) hx hb dL_tick_310 (by decide) ?_
              exact r_iretb C P (Or.inl rfl) h dL_tick_311
            · have h := ite_t h c176
              refine lv_iconst (v := 1) hx hb dL_tick_306 (by decide) ?_
              refine lv_goto (tgt := 311) hx hb dL_tick_307 (by decide) ?_
              exact r_iretb C P (Or.inr rfl) h dL_tick_311
    · have h := ite_t h c46
      refine lv_iload hx hb dL_tick_270 (lv_at hl 0 rfl) ?_
      refine lv_iconst (v := 5) hx hb dL_tick_272 (by decide) ?_
      refine lv_icmp_ne (tgt := 285) hx hb dL_tick_273 (by decide) (fun c177 => ?_) (fun c177 => ?_)
      · have h := ite_f h c177
        refine lv_iconst (v := 0) hx hb dL_tick_285 (by decide) ?_
        exact r_iretb C P (Or.inl rfl) h dL_tick_286
      · have h := ite_t h c177
        refine lv_iload hx hb dL_tick_276 (lv_at hl 1 rfl) ?_
        refine lv_if_ne (tgt := 285) hx hb dL_tick_278 (by decide) (fun c178 => ?_) (fun c178 => ?_)
        · have h := ite_f h c178
          refine lv_iconst (v := 0) hx hb dL_tick_285 (by decide) ?_
          exact r_iretb C P (Or.inl rfl) h dL_tick_286
        · have h := ite_t h c178
          refine lv_iconst (v := 1) hx hb dL_tick_281 (by decide) ?_
          refine lv_goto (tgt := 286) hx hb dL_tick_282 (by decide) ?_
          exact r_iretb C P (Or.inr rfl) h dL_tick_286
  · have h := ite_f h c45
    refine lv_iconst (v := 0) hx hb dL_tick_263 (by decide) ?_
    exact r_iretb C P (Or.inl rfl) h dL_tick_264
def w_L_tick_182  (Φ : Int32 → Mm → Prop) (x1 : Int32) (x2 : Int32) (x3 : Int32) (x4 : Int32) (x7 : Int32) (x8 : Int32) (x9 : Int32) (u0 : Mm) : Prop := (w_L_tick_183 Φ x1 x2 x3 x4 x7 x8 x9 ((0 : Int32)) u0)
set_option maxHeartbeats 4000000 in
set_option maxRecDepth 100000 in
theorem t_L_tick_182 {p : Program} {l : Launch} {e : Env} {s : State} {m : MethodId} {args : Array Value} {below : List Frame} {meth : Method} {c : Code} {D : va_G} {cA : Nat → ClassId} {o : Nat}  {Φ : Int32 → Mm → Prop} (C : Cx p m meth c s args cL_tick 20 wsL_tick RL (some .boolean) D (tysL cA)) : ∀ (x1 : Int32) (x2 : Int32) (x3 : Int32) (x4 : Int32) (x7 : Int32) (x8 : Int32) (x9 : Int32) (u0 : Mm), ∀ (H : Heap) (locs : List Loc) (ls : Array Slot), Hp 747 o D (EC cA o u0) s H locs → lv_has ls 20 [(0, .ref (o + 0)), (1, .int x1), (2, .int x2), (3, .int x3), (4, .int x4), (7, .int x7), (8, .int x8), (9, .int x9)] → w_L_tick_182 Φ x1 x2 x3 x4 x7 x8 x9 u0 → W p l e rm_L_tick s m args below meth c H locs 0 0 (MQ below (Qg vI Φ (fun μ => Wd 747 o D (tysL cA) (EC cA o μ)) (aA o 747)) args s 0 0 (aA o 747)) (F0 m 182 ls []) := by
  intro x1 x2 x3 x4 x7 x8 x9 u0 H locs ls P hl h
  have hx := C.1.1
  have hb := C.1.2.1
  unfold w_L_tick_182 at h
  refine lv_iconst (v := 0) hx hb dL_tick_182 (by decide) ?_
  exact t_L_tick_183 C _ _ _ _ _ _ _ _ u0 _ _ _ P (lv_sub hl [0, 1, 2, 3, 4, 5, 6, 7] rfl) h
def w_L_tick_150  (Φ : Int32 → Mm → Prop) (x1 : Int32) (x2 : Int32) (x3 : Int32) (x4 : Int32) (x7 : Int32) (x8 : Int32) (z0 : Int32) (u0 : Mm) : Prop := (if x8 = 0 then (w_L_tick_182 Φ x1 x2 x3 x4 x7 x8 z0 u0) else (if z0 = 0 then (w_X9_person x7 ((1 : Int32)) u0 (fun r181 u180 => (w_X9_passOf r181 ((0 : Int32)) u180 (fun r183 u182 => (w_X9_pool r183 ((0 : Int32)) u182 (fun r185 u184 => (w_L_tick_183 Φ x1 x2 x3 x4 x7 x8 z0 r185 u184))))))) else (w_L_tick_182 Φ x1 x2 x3 x4 x7 x8 z0 u0)))
set_option maxHeartbeats 4000000 in
set_option maxRecDepth 100000 in
theorem t_L_tick_150 {p : Program} {l : Launch} {e : Env} {s : State} {m : MethodId} {args : Array Value} {below : List Frame} {meth : Method} {c : Code} {D : va_G} {cA : Nat → ClassId} {o : Nat}  {Φ : Int32 → Mm → Prop} (C : Cx p m meth c s args cL_tick 20 wsL_tick RL (some .boolean) D (tysL cA)) : ∀ (x1 : Int32) (x2 : Int32) (x3 : Int32) (x4 : Int32) (x7 : Int32) (x8 : Int32) (z0 : Int32) (u0 : Mm), ∀ (H : Heap) (locs : List Loc) (ls : Array Slot), Hp 747 o D (EC cA o u0) s H locs → lv_has ls 20 [(0, .ref (o + 0)), (1, .int x1), (2, .int x2), (3, .int x3), (4, .int x4), (7, .int x7), (8, .int x8)] → w_L_tick_150 Φ x1 x2 x3 x4 x7 x8 z0 u0 → W p l e rm_L_tick s m args below meth c H locs 0 0 (MQ below (Qg vI Φ (fun μ => Wd 747 o D (tysL cA) (EC cA o μ)) (aA o 747)) args s 0 0 (aA o 747)) (F0 m 150 ls [.int z0]) := by
  intro x1 x2 x3 x4 x7 x8 z0 u0 H locs ls P hl h
  have hx := C.1.1
  have hb := C.1.2.1
  unfold w_L_tick_150 at h
  refine lv_istore (lv' := [(9, .int z0), (0, .ref (o + 0)), (1, .int x1), (2, .int x2), (3, .int x3), (4, .int x4), (7, .int x7), (8, .int x8)]) hx hb dL_tick_150 hl (by decide) rfl (fun ls hl => ?_)
  refine lv_iload hx hb dL_tick_152 (lv_at hl 7 rfl) ?_
  refine lv_if_eq (tgt := 182) hx hb dL_tick_154 (by decide) (fun c26 => ?_) (fun c26 => ?_)
  · have h := ite_t h c26
    exact t_L_tick_182 C _ _ _ _ _ _ _ u0 _ _ _ P (lv_sub hl [1, 2, 3, 4, 5, 6, 7, 0] rfl) h
  · have h := ite_f h c26
    refine lv_iload hx hb dL_tick_157 (lv_at hl 0 rfl) ?_
    refine lv_if_ne (tgt := 182) hx hb dL_tick_159 (by decide) (fun c179 => ?_) (fun c179 => ?_)
    · have h := ite_f h c179
      exact t_L_tick_182 C _ _ _ _ _ _ _ u0 _ _ _ P (lv_sub hl [1, 2, 3, 4, 5, 6, 7, 0] rfl) h
    · have h := ite_t h c179
      refine lv_aload_n hx hb dL_tick_162 rfl (lv_at hl 1 rfl) ?_
      refine lv_aload_n hx hb dL_tick_163 rfl (lv_at hl 1 rfl) ?_
      refine lv_aload_n hx hb dL_tick_164 rfl (lv_at hl 1 rfl) ?_
      refine lv_iload hx hb dL_tick_165 (lv_at hl 6 rfl) ?_
      refine lv_iconst (v := 1) hx hb dL_tick_167 (by decide) ?_
      refine r_calli (F := EC cA o) (va_runV (As := [.int x7, .int (1 : Int32)]) (rest := [.ref (o + 0), .ref (o + 0)]) C.1 (c_X9_person l D cA o _ _ u0 _ h) (cwV 2 C.1.2.2.2.2 gL_tick_X9_person rfl rfl rfl (by decide +kernel) ⟨Nat.le_of_ble_eq_true rfl, Nat.le_of_ble_eq_true rfl⟩) (r_preV C P [.int x7, .int (1 : Int32)] (ci := 9) rfl (kd_lt kd_at_0 (by decide)) (EK_9 kd_at_0)) rfl rfl hl.1 rfl (lv_room (Nat.le_of_ble_eq_true rfl)) dL_tick_168 ⟨Nat.le_of_ble_eq_true rfl, Nat.le_of_ble_eq_true rfl⟩) P.2 (fun r181 u180 H locs h P => ?_)
      refine lv_iconst (v := 0) hx hb dL_tick_171 (by decide) ?_
      refine r_calli (F := EC cA o) (va_runV (As := [.int r181, .int (0 : Int32)]) (rest := [.ref (o + 0)]) C.1 (c_X9_passOf l D cA o _ _ u180 _ h) (cwV 2 C.1.2.2.2.2 gL_tick_X9_passOf rfl rfl rfl (by decide +kernel) ⟨Nat.le_of_ble_eq_true rfl, Nat.le_of_ble_eq_true rfl⟩) (r_preV C P [.int r181, .int (0 : Int32)] (ci := 9) rfl (kd_lt kd_at_0 (by decide)) (EK_9 kd_at_0)) rfl rfl hl.1 rfl (lv_room (Nat.le_of_ble_eq_true rfl)) dL_tick_172 ⟨Nat.le_of_ble_eq_true rfl, Nat.le_of_ble_eq_true rfl⟩) P.2 (fun r183 u182 H locs h P => ?_)
      refine lv_iconst (v := 0) hx hb dL_tick_175 (by decide) ?_
      refine r_calli (F := EC cA o) (va_runV (As := [.int r183, .int (0 : Int32)]) (rest := []) C.1 (c_X9_pool l D cA o _ _ u182 _ h) (cwV 2 C.1.2.2.2.2 gL_tick_X9_pool rfl rfl rfl (by decide +kernel) ⟨Nat.le_of_ble_eq_true rfl, Nat.le_of_ble_eq_true rfl⟩) (r_preV C P [.int r183, .int (0 : Int32)] (ci := 9) rfl (kd_lt kd_at_0 (by decide)) (EK_9 kd_at_0)) rfl rfl hl.1 rfl (lv_room (Nat.le_of_ble_eq_true rfl)) dL_tick_176 ⟨Nat.le_of_ble_eq_true rfl, Nat.le_of_ble_eq_true rfl⟩) P.2 (fun r185 u184 H locs h P => ?_)
      refine lv_goto (tgt := 183) hx hb dL_tick_179 (by decide) ?_
      exact t_L_tick_183 C _ _ _ _ _ _ _ _ u184 _ _ _ P (lv_sub hl [1, 2, 3, 4, 5, 6, 7, 0] rfl) h
def w_L_tick_133  (Φ : Int32 → Mm → Prop) (x1 : Int32) (x2 : Int32) (x3 : Int32) (x4 : Int32) (x7 : Int32) (z0 : Int32) (u0 : Mm) : Prop := (if z0 = 0 then (w_L_tick_150 Φ x1 x2 x3 x4 x7 z0 ((0 : Int32)) u0) else (w_L_refusal x7 u0 (fun r187 u186 => (w_L_tick_150 Φ x1 x2 x3 x4 x7 z0 r187 u186))))
set_option maxHeartbeats 4000000 in
set_option maxRecDepth 100000 in
theorem t_L_tick_133 {p : Program} {l : Launch} {e : Env} {s : State} {m : MethodId} {args : Array Value} {below : List Frame} {meth : Method} {c : Code} {D : va_G} {cA : Nat → ClassId} {o : Nat}  {Φ : Int32 → Mm → Prop} (C : Cx p m meth c s args cL_tick 20 wsL_tick RL (some .boolean) D (tysL cA)) : ∀ (x1 : Int32) (x2 : Int32) (x3 : Int32) (x4 : Int32) (x7 : Int32) (z0 : Int32) (u0 : Mm), ∀ (H : Heap) (locs : List Loc) (ls : Array Slot), Hp 747 o D (EC cA o u0) s H locs → lv_has ls 20 [(0, .ref (o + 0)), (1, .int x1), (2, .int x2), (3, .int x3), (4, .int x4), (7, .int x7)] → w_L_tick_133 Φ x1 x2 x3 x4 x7 z0 u0 → W p l e rm_L_tick s m args below meth c H locs 0 0 (MQ below (Qg vI Φ (fun μ => Wd 747 o D (tysL cA) (EC cA o μ)) (aA o 747)) args s 0 0 (aA o 747)) (F0 m 133 ls [.int z0]) := by
  intro x1 x2 x3 x4 x7 z0 u0 H locs ls P hl h
  have hx := C.1.1
  have hb := C.1.2.1
  unfold w_L_tick_133 at h
  refine lv_istore (lv' := [(8, .int z0), (0, .ref (o + 0)), (1, .int x1), (2, .int x2), (3, .int x3), (4, .int x4), (7, .int x7)]) hx hb dL_tick_133 hl (by decide) rfl (fun ls hl => ?_)
  refine lv_iload hx hb dL_tick_135 (lv_at hl 0 rfl) ?_
  refine lv_if_eq (tgt := 149) hx hb dL_tick_137 (by decide) (fun c25 => ?_) (fun c25 => ?_)
  · have h := ite_t h c25
    refine lv_iconst (v := 0) hx hb dL_tick_149 (by decide) ?_
    exact t_L_tick_150 C _ _ _ _ _ _ _ u0 _ _ _ P (lv_sub hl [1, 2, 3, 4, 5, 6, 0] rfl) h
  · have h := ite_f h c25
    refine lv_aload_n hx hb dL_tick_140 rfl (lv_at hl 1 rfl) ?_
    refine lv_iload hx hb dL_tick_141 (lv_at hl 6 rfl) ?_
    refine r_calli (F := EC cA o) (va_runS (As := [.ref (o + 0), .int x7]) (rest := []) C.1 (c_L_refusal l D cA o _ u0 _ h) (va_cwS 2 C.1.2.2.2.2 gL_tick_L_refusal rfl rfl rfl (by decide +kernel) ⟨Nat.le_of_ble_eq_true rfl, Nat.le_of_ble_eq_true rfl⟩) (r_pre C P [.ref (o + 0), .int x7]) rfl rfl hl.1 rfl (lv_room (Nat.le_of_ble_eq_true rfl)) dL_tick_143 ⟨Nat.le_of_ble_eq_true rfl, Nat.le_of_ble_eq_true rfl⟩) P.2 (fun r187 u186 H locs h P => ?_)
    refine lv_goto (tgt := 150) hx hb dL_tick_146 (by decide) ?_
    exact t_L_tick_150 C _ _ _ _ _ _ _ u186 _ _ _ P (lv_sub hl [1, 2, 3, 4, 5, 6, 0] rfl) h
def w_L_tick_132  (Φ : Int32 → Mm → Prop) (x1 : Int32) (x2 : Int32) (x3 : Int32) (x4 : Int32) (x7 : Int32) (u0 : Mm) : Prop := (w_L_tick_133 Φ x1 x2 x3 x4 x7 ((0 : Int32)) u0)
set_option maxHeartbeats 4000000 in
set_option maxRecDepth 100000 in
theorem t_L_tick_132 {p : Program} {l : Launch} {e : Env} {s : State} {m : MethodId} {args : Array Value} {below : List Frame} {meth : Method} {c : Code} {D : va_G} {cA : Nat → ClassId} {o : Nat}  {Φ : Int32 → Mm → Prop} (C : Cx p m meth c s args cL_tick 20 wsL_tick RL (some .boolean) D (tysL cA)) : ∀ (x1 : Int32) (x2 : Int32) (x3 : Int32) (x4 : Int32) (x7 : Int32) (u0 : Mm), ∀ (H : Heap) (locs : List Loc) (ls : Array Slot), Hp 747 o D (EC cA o u0) s H locs → lv_has ls 20 [(0, .ref (o + 0)), (1, .int x1), (2, .int x2), (3, .int x3), (4, .int x4), (7, .int x7)] → w_L_tick_132 Φ x1 x2 x3 x4 x7 u0 → W p l e rm_L_tick s m args below meth c H locs 0 0 (MQ below (Qg vI Φ (fun μ => Wd 747 o D (tysL cA) (EC cA o μ)) (aA o 747)) args s 0 0 (aA o 747)) (F0 m 132 ls []) := by
  intro x1 x2 x3 x4 x7 u0 H locs ls P hl h
  have hx := C.1.1
  have hb := C.1.2.1
  unfold w_L_tick_132 at h
  refine lv_iconst (v := 0) hx hb dL_tick_132 (by decide) ?_
  exact t_L_tick_133 C _ _ _ _ _ _ u0 _ _ _ P (lv_sub hl [0, 1, 2, 3, 4, 5] rfl) h
def w_L_tick_114  (Φ : Int32 → Mm → Prop) (x1 : Int32) (x2 : Int32) (x3 : Int32) (x4 : Int32) (x5 : Int32) (z0 : Int32) (u0 : Mm) : Prop := (if z0 < 0 then (w_L_tick_132 Φ x1 x2 x3 x4 z0 u0) else (if z0 = x5 then (w_L_tick_133 Φ x1 x2 x3 x4 z0 ((1 : Int32)) u0) else (w_L_tick_132 Φ x1 x2 x3 x4 z0 u0)))
set_option maxHeartbeats 4000000 in
set_option maxRecDepth 100000 in
theorem t_L_tick_114 {p : Program} {l : Launch} {e : Env} {s : State} {m : MethodId} {args : Array Value} {below : List Frame} {meth : Method} {c : Code} {D : va_G} {cA : Nat → ClassId} {o : Nat}  {Φ : Int32 → Mm → Prop} (C : Cx p m meth c s args cL_tick 20 wsL_tick RL (some .boolean) D (tysL cA)) : ∀ (x1 : Int32) (x2 : Int32) (x3 : Int32) (x4 : Int32) (x5 : Int32) (z0 : Int32) (u0 : Mm), ∀ (H : Heap) (locs : List Loc) (ls : Array Slot), Hp 747 o D (EC cA o u0) s H locs → lv_has ls 20 [(0, .ref (o + 0)), (1, .int x1), (2, .int x2), (3, .int x3), (4, .int x4), (5, .int x5)] → w_L_tick_114 Φ x1 x2 x3 x4 x5 z0 u0 → W p l e rm_L_tick s m args below meth c H locs 0 0 (MQ below (Qg vI Φ (fun μ => Wd 747 o D (tysL cA) (EC cA o μ)) (aA o 747)) args s 0 0 (aA o 747)) (F0 m 114 ls [.int z0]) := by
  intro x1 x2 x3 x4 x5 z0 u0 H locs ls P hl h
  have hx := C.1.1
  have hb := C.1.2.1
  unfold w_L_tick_114 at h
  refine lv_istore (lv' := [(7, .int z0), (0, .ref (o + 0)), (1, .int x1), (2, .int x2), (3, .int x3), (4, .int x4), (5, .int x5)]) hx hb dL_tick_114 hl (by decide) rfl (fun ls hl => ?_)
  refine lv_iload hx hb dL_tick_116 (lv_at hl 0 rfl) ?_
  refine lv_if_lt (tgt := 132) hx hb dL_tick_118 (by decide) (fun c24 => ?_) (fun c24 => ?_)
  · have h := ite_t h c24
    exact t_L_tick_132 C _ _ _ _ _ u0 _ _ _ P (lv_sub hl [1, 2, 3, 4, 5, 0] rfl) h
  · have h := ite_f h c24
    refine lv_iload hx hb dL_tick_121 (lv_at hl 0 rfl) ?_
    refine lv_iload hx hb dL_tick_123 (lv_at hl 6 rfl) ?_
    refine lv_icmp_ne (tgt := 132) hx hb dL_tick_125 (by decide) (fun c188 => ?_) (fun c188 => ?_)
    · have h := ite_f h c188
      exact t_L_tick_132 C _ _ _ _ _ u0 _ _ _ P (lv_sub hl [1, 2, 3, 4, 5, 0] rfl) h
    · have h := ite_t h c188
      refine lv_iconst (v := 1) hx hb dL_tick_128 (by decide) ?_
      refine lv_goto (tgt := 133) hx hb dL_tick_129 (by decide) ?_
      exact t_L_tick_133 C _ _ _ _ _ _ u0 _ _ _ P (lv_sub hl [1, 2, 3, 4, 5, 0] rfl) h
def w_L_tick_68  (Φ : Int32 → Mm → Prop) (x1 : Int32) (x2 : Int32) (x3 : Int32) (x4 : Int32) (x5 : Int32) (z0 : Int32) (u0 : Mm) : Prop := (if 0 ≤ x5 then (if 0 ≤ z0 then (w_X9_person x5 ((5 : Int32)) u0 (fun r20 u19 => (w_X9_person z0 ((5 : Int32)) u19 (fun r22 u21 => (if r20 ≤ r22 then (w_L_tick_114 Φ x1 x2 x3 x4 x5 z0 u21) else (w_L_tick_114 Φ x1 x2 x3 x4 x5 x5 u21)))))) else (w_L_tick_114 Φ x1 x2 x3 x4 x5 x5 u0)) else (w_L_tick_114 Φ x1 x2 x3 x4 x5 z0 u0))
set_option maxHeartbeats 4000000 in
set_option maxRecDepth 100000 in
theorem t_L_tick_68 {p : Program} {l : Launch} {e : Env} {s : State} {m : MethodId} {args : Array Value} {below : List Frame} {meth : Method} {c : Code} {D : va_G} {cA : Nat → ClassId} {o : Nat}  {Φ : Int32 → Mm → Prop} (C : Cx p m meth c s args cL_tick 20 wsL_tick RL (some .boolean) D (tysL cA)) : ∀ (x1 : Int32) (x2 : Int32) (x3 : Int32) (x4 : Int32) (x5 : Int32) (z0 : Int32) (u0 : Mm), ∀ (H : Heap) (locs : List Loc) (ls : Array Slot), Hp 747 o D (EC cA o u0) s H locs → lv_has ls 20 [(0, .ref (o + 0)), (1, .int x1), (2, .int x2), (3, .int x3), (4, .int x4), (5, .int x5)] → w_L_tick_68 Φ x1 x2 x3 x4 x5 z0 u0 → W p l e rm_L_tick s m args below meth c H locs 0 0 (MQ below (Qg vI Φ (fun μ => Wd 747 o D (tysL cA) (EC cA o μ)) (aA o 747)) args s 0 0 (aA o 747)) (F0 m 68 ls [.int z0]) := by
  intro x1 x2 x3 x4 x5 z0 u0 H locs ls P hl h
  have hx := C.1.1
  have hb := C.1.2.1
  unfold w_L_tick_68 at h
  refine lv_istore (lv' := [(6, .int z0), (0, .ref (o + 0)), (1, .int x1), (2, .int x2), (3, .int x3), (4, .int x4), (5, .int x5)]) hx hb dL_tick_68 hl (by decide) rfl (fun ls hl => ?_)
  refine lv_iload hx hb dL_tick_70 (lv_at hl 6 rfl) ?_
  refine lv_if_ge (tgt := 80) hx hb dL_tick_72 (by decide) (fun c17 => ?_) (fun c17 => ?_)
  · have h := ite_t h c17
    refine lv_iload hx hb dL_tick_80 (lv_at hl 0 rfl) ?_
    refine lv_if_ge (tgt := 90) hx hb dL_tick_82 (by decide) (fun c18 => ?_) (fun c18 => ?_)
    · have h := ite_t h c18
      refine lv_aload_n hx hb dL_tick_90 rfl (lv_at hl 1 rfl) ?_
      refine lv_iload hx hb dL_tick_91 (lv_at hl 6 rfl) ?_
      refine lv_iconst (v := 5) hx hb dL_tick_93 (by decide) ?_
      refine r_calli (F := EC cA o) (va_runV (As := [.int x5, .int (5 : Int32)]) (rest := []) C.1 (c_X9_person l D cA o _ _ u0 _ h) (cwV 2 C.1.2.2.2.2 gL_tick_X9_person rfl rfl rfl (by decide +kernel) ⟨Nat.le_of_ble_eq_true rfl, Nat.le_of_ble_eq_true rfl⟩) (r_preV C P [.int x5, .int (5 : Int32)] (ci := 9) rfl (kd_lt kd_at_0 (by decide)) (EK_9 kd_at_0)) rfl rfl hl.1 rfl (lv_room (Nat.le_of_ble_eq_true rfl)) dL_tick_94 ⟨Nat.le_of_ble_eq_true rfl, Nat.le_of_ble_eq_true rfl⟩) P.2 (fun r20 u19 H locs h P => ?_)
      refine lv_aload_n hx hb dL_tick_97 rfl (lv_at hl 1 rfl) ?_
      refine lv_iload hx hb dL_tick_98 (lv_at hl 0 rfl) ?_
      refine lv_iconst (v := 5) hx hb dL_tick_100 (by decide) ?_
      refine r_calli (F := EC cA o) (va_runV (As := [.int z0, .int (5 : Int32)]) (rest := [.int r20]) C.1 (c_X9_person l D cA o _ _ u19 _ h) (cwV 2 C.1.2.2.2.2 gL_tick_X9_person rfl rfl rfl (by decide +kernel) ⟨Nat.le_of_ble_eq_true rfl, Nat.le_of_ble_eq_true rfl⟩) (r_preV C P [.int z0, .int (5 : Int32)] (ci := 9) rfl (kd_lt kd_at_0 (by decide)) (EK_9 kd_at_0)) rfl rfl hl.1 rfl (lv_room (Nat.le_of_ble_eq_true rfl)) dL_tick_101 ⟨Nat.le_of_ble_eq_true rfl, Nat.le_of_ble_eq_true rfl⟩) P.2 (fun r22 u21 H locs h P => ?_)
      refine lv_icmp_le (tgt := 112) hx hb dL_tick_104 (by decide) (fun c23 => ?_) (fun c23 => ?_)
      · have h := ite_t h c23
        refine lv_iload hx hb dL_tick_112 (lv_at hl 0 rfl) ?_
        exact t_L_tick_114 C _ _ _ _ _ _ u21 _ _ _ P (lv_sub hl [1, 2, 3, 4, 5, 6] rfl) h
      · have h := ite_f h c23
        refine lv_iload hx hb dL_tick_107 (lv_at hl 6 rfl) ?_
        refine lv_goto (tgt := 114) hx hb dL_tick_109 (by decide) ?_
        exact t_L_tick_114 C _ _ _ _ _ _ u21 _ _ _ P (lv_sub hl [1, 2, 3, 4, 5, 6] rfl) h
    · have h := ite_f h c18
      refine lv_iload hx hb dL_tick_85 (lv_at hl 6 rfl) ?_
      refine lv_goto (tgt := 114) hx hb dL_tick_87 (by decide) ?_
      exact t_L_tick_114 C _ _ _ _ _ _ u0 _ _ _ P (lv_sub hl [1, 2, 3, 4, 5, 6] rfl) h
  · have h := ite_f h c17
    refine lv_iload hx hb dL_tick_75 (lv_at hl 0 rfl) ?_
    refine lv_goto (tgt := 114) hx hb dL_tick_77 (by decide) ?_
    exact t_L_tick_114 C _ _ _ _ _ _ u0 _ _ _ P (lv_sub hl [1, 2, 3, 4, 5, 6] rfl) h
def w_L_tick_44  (Φ : Int32 → Mm → Prop) (x1 : Int32) (x2 : Int32) (x3 : Int32) (x4 : Int32) (z0 : Int32) (u0 : Mm) : Prop := (w_X9_gate x1 ((0 : Int32)) u0 (fun r13 u12 => (if r13 = (1 : Int32) then (w_L_tick_68 Φ x1 x2 x3 x4 z0 ((-5 : Int32)) u12) else (w_X9_queued x1 ((1 : Int32)) ((0 : Int32)) u12 (fun r16 u15 => (w_L_tick_68 Φ x1 x2 x3 x4 z0 r16 u15))))))
set_option maxHeartbeats 4000000 in
set_option maxRecDepth 100000 in
theorem t_L_tick_44 {p : Program} {l : Launch} {e : Env} {s : State} {m : MethodId} {args : Array Value} {below : List Frame} {meth : Method} {c : Code} {D : va_G} {cA : Nat → ClassId} {o : Nat}  {Φ : Int32 → Mm → Prop} (C : Cx p m meth c s args cL_tick 20 wsL_tick RL (some .boolean) D (tysL cA)) : ∀ (x1 : Int32) (x2 : Int32) (x3 : Int32) (x4 : Int32) (z0 : Int32) (u0 : Mm), ∀ (H : Heap) (locs : List Loc) (ls : Array Slot), Hp 747 o D (EC cA o u0) s H locs → lv_has ls 20 [(0, .ref (o + 0)), (1, .int x1), (2, .int x2), (3, .int x3), (4, .int x4)] → w_L_tick_44 Φ x1 x2 x3 x4 z0 u0 → W p l e rm_L_tick s m args below meth c H locs 0 0 (MQ below (Qg vI Φ (fun μ => Wd 747 o D (tysL cA) (EC cA o μ)) (aA o 747)) args s 0 0 (aA o 747)) (F0 m 44 ls [.int z0]) := by
  intro x1 x2 x3 x4 z0 u0 H locs ls P hl h
  have hx := C.1.1
  have hb := C.1.2.1
  unfold w_L_tick_44 at h
  refine lv_istore (lv' := [(5, .int z0), (0, .ref (o + 0)), (1, .int x1), (2, .int x2), (3, .int x3), (4, .int x4)]) hx hb dL_tick_44 hl (by decide) rfl (fun ls hl => ?_)
  refine lv_aload_n hx hb dL_tick_46 rfl (lv_at hl 1 rfl) ?_
  refine lv_iload_n hx hb dL_tick_47 rfl (lv_at hl 2 rfl) ?_
  refine lv_iconst (v := 0) hx hb dL_tick_48 (by decide) ?_
  refine r_calli (F := EC cA o) (va_runV (As := [.int x1, .int (0 : Int32)]) (rest := []) C.1 (c_X9_gate l D cA o _ _ u0 _ h) (cwV 2 C.1.2.2.2.2 gL_tick_X9_gate rfl rfl rfl (by decide +kernel) ⟨Nat.le_of_ble_eq_true rfl, Nat.le_of_ble_eq_true rfl⟩) (r_preV C P [.int x1, .int (0 : Int32)] (ci := 9) rfl (kd_lt kd_at_0 (by decide)) (EK_9 kd_at_0)) rfl rfl hl.1 rfl (lv_room (Nat.le_of_ble_eq_true rfl)) dL_tick_49 ⟨Nat.le_of_ble_eq_true rfl, Nat.le_of_ble_eq_true rfl⟩) P.2 (fun r13 u12 H locs h P => ?_)
  refine lv_iconst (v := 1) hx hb dL_tick_52 (by decide) ?_
  refine lv_icmp_ne (tgt := 61) hx hb dL_tick_53 (by decide) (fun c14 => ?_) (fun c14 => ?_)
  · have h := ite_f h c14
    refine lv_aload_n hx hb dL_tick_61 rfl (lv_at hl 1 rfl) ?_
    refine lv_iload_n hx hb dL_tick_62 rfl (lv_at hl 2 rfl) ?_
    refine lv_iconst (v := 1) hx hb dL_tick_63 (by decide) ?_
    refine lv_iconst (v := 0) hx hb dL_tick_64 (by decide) ?_
    refine r_calli (F := EC cA o) (va_runV (As := [.int x1, .int (1 : Int32), .int (0 : Int32)]) (rest := []) C.1 (c_X9_queued l D cA o _ _ _ u12 _ h) (cwV 3 C.1.2.2.2.2 gL_tick_X9_queued rfl rfl rfl (by decide +kernel) ⟨Nat.le_of_ble_eq_true rfl, Nat.le_of_ble_eq_true rfl⟩) (r_preV C P [.int x1, .int (1 : Int32), .int (0 : Int32)] (ci := 9) rfl (kd_lt kd_at_0 (by decide)) (EK_9 kd_at_0)) rfl rfl hl.1 rfl (lv_room (Nat.le_of_ble_eq_true rfl)) dL_tick_65 ⟨Nat.le_of_ble_eq_true rfl, Nat.le_of_ble_eq_true rfl⟩) P.2 (fun r16 u15 H locs h P => ?_)
    exact t_L_tick_68 C _ _ _ _ _ _ u15 _ _ _ P (lv_sub hl [1, 2, 3, 4, 5, 0] rfl) h
  · have h := ite_t h c14
    refine lv_bipush (v := -5) hx hb dL_tick_56 (by decide) ?_
    refine lv_goto (tgt := 68) hx hb dL_tick_58 (by decide) ?_
    exact t_L_tick_68 C _ _ _ _ _ _ u12 _ _ _ P (lv_sub hl [1, 2, 3, 4, 5, 0] rfl) h
def w_L_tick (a1 : Int32) (u0 : Mm) (Φ : Int32 → Mm → Prop) : Prop := (w_X9_gate a1 ((1 : Int32)) u0 (fun r2 u1 => (w_X9_gate a1 ((2 : Int32)) u1 (fun r4 u3 => (w_X9_gate a1 ((3 : Int32)) u3 (fun r6 u5 => (w_X9_gate a1 ((0 : Int32)) u5 (fun r8 u7 => (if r8 = (2 : Int32) then (w_L_tick_44 Φ a1 r2 r4 r6 ((-5 : Int32)) u7) else (w_X9_queued a1 ((0 : Int32)) ((0 : Int32)) u7 (fun r11 u10 => (w_L_tick_44 Φ a1 r2 r4 r6 r11 u10))))))))))))
set_option maxHeartbeats 4000000 in
set_option maxRecDepth 100000 in
theorem t_L_tick_0 {p : Program} {l : Launch} {e : Env} {s : State} {m : MethodId} {args : Array Value} {below : List Frame} {meth : Method} {c : Code} {D : va_G} {cA : Nat → ClassId} {o : Nat}  {Φ : Int32 → Mm → Prop} (C : Cx p m meth c s args cL_tick 20 wsL_tick RL (some .boolean) D (tysL cA)) : ∀ (a1 : Int32) (u0 : Mm), ∀ (H : Heap) (locs : List Loc) (ls : Array Slot), Hp 747 o D (EC cA o u0) s H locs → lv_has ls 20 [(0, .ref (o + 0)), (1, .int a1)] → w_L_tick a1 u0 Φ → W p l e rm_L_tick s m args below meth c H locs 0 0 (MQ below (Qg vI Φ (fun μ => Wd 747 o D (tysL cA) (EC cA o μ)) (aA o 747)) args s 0 0 (aA o 747)) (F0 m 0 ls []) := by
  intro a1 u0 H locs ls P hl h
  have hx := C.1.1
  have hb := C.1.2.1
  unfold w_L_tick at h
  refine lv_aload_n hx hb dL_tick_0 rfl (lv_at hl 0 rfl) ?_
  refine lv_iload_n hx hb dL_tick_1 rfl (lv_at hl 1 rfl) ?_
  refine lv_iconst (v := 1) hx hb dL_tick_2 (by decide) ?_
  refine r_calli (F := EC cA o) (va_runV (As := [.int a1, .int (1 : Int32)]) (rest := []) C.1 (c_X9_gate l D cA o _ _ u0 _ h) (cwV 2 C.1.2.2.2.2 gL_tick_X9_gate rfl rfl rfl (by decide +kernel) ⟨Nat.le_of_ble_eq_true rfl, Nat.le_of_ble_eq_true rfl⟩) (r_preV C P [.int a1, .int (1 : Int32)] (ci := 9) rfl (kd_lt kd_at_0 (by decide)) (EK_9 kd_at_0)) rfl rfl hl.1 rfl (lv_room (Nat.le_of_ble_eq_true rfl)) dL_tick_3 ⟨Nat.le_of_ble_eq_true rfl, Nat.le_of_ble_eq_true rfl⟩) P.2 (fun r2 u1 H locs h P => ?_)
  refine lv_istore_n (lv' := [(2, .int r2), (0, .ref (o + 0)), (1, .int a1)]) hx hb dL_tick_6 rfl hl (by decide) rfl (fun ls hl => ?_)
  refine lv_aload_n hx hb dL_tick_7 rfl (lv_at hl 1 rfl) ?_
  refine lv_iload_n hx hb dL_tick_8 rfl (lv_at hl 2 rfl) ?_
  refine lv_iconst (v := 2) hx hb dL_tick_9 (by decide) ?_
  refine r_calli (F := EC cA o) (va_runV (As := [.int a1, .int (2 : Int32)]) (rest := []) C.1 (c_X9_gate l D cA o _ _ u1 _ h) (cwV 2 C.1.2.2.2.2 gL_tick_X9_gate rfl rfl rfl (by decide +kernel) ⟨Nat.le_of_ble_eq_true rfl, Nat.le_of_ble_eq_true rfl⟩) (r_preV C P [.int a1, .int (2 : Int32)] (ci := 9) rfl (kd_lt kd_at_0 (by decide)) (EK_9 kd_at_0)) rfl rfl hl.1 rfl (lv_room (Nat.le_of_ble_eq_true rfl)) dL_tick_10 ⟨Nat.le_of_ble_eq_true rfl, Nat.le_of_ble_eq_true rfl⟩) P.2 (fun r4 u3 H locs h P => ?_)
  refine lv_istore_n (lv' := [(3, .int r4), (2, .int r2), (0, .ref (o + 0)), (1, .int a1)]) hx hb dL_tick_13 rfl hl (by decide) rfl (fun ls hl => ?_)
  refine lv_aload_n hx hb dL_tick_14 rfl (lv_at hl 2 rfl) ?_
  refine lv_iload_n hx hb dL_tick_15 rfl (lv_at hl 3 rfl) ?_
  refine lv_iconst (v := 3) hx hb dL_tick_16 (by decide) ?_
  refine r_calli (F := EC cA o) (va_runV (As := [.int a1, .int (3 : Int32)]) (rest := []) C.1 (c_X9_gate l D cA o _ _ u3 _ h) (cwV 2 C.1.2.2.2.2 gL_tick_X9_gate rfl rfl rfl (by decide +kernel) ⟨Nat.le_of_ble_eq_true rfl, Nat.le_of_ble_eq_true rfl⟩) (r_preV C P [.int a1, .int (3 : Int32)] (ci := 9) rfl (kd_lt kd_at_0 (by decide)) (EK_9 kd_at_0)) rfl rfl hl.1 rfl (lv_room (Nat.le_of_ble_eq_true rfl)) dL_tick_17 ⟨Nat.le_of_ble_eq_true rfl, Nat.le_of_ble_eq_true rfl⟩) P.2 (fun r6 u5 H locs h P => ?_)
  refine lv_istore (lv' := [(4, .int r6), (3, .int r4), (2, .int r2), (0, .ref (o + 0)), (1, .int a1)]) hx hb dL_tick_20 hl (by decide) rfl (fun ls hl => ?_)
  refine lv_aload_n hx hb dL_tick_22 rfl (lv_at hl 3 rfl) ?_
  refine lv_iload_n hx hb dL_tick_23 rfl (lv_at hl 4 rfl) ?_
  refine lv_iconst (v := 0) hx hb dL_tick_24 (by decide) ?_
  refine r_calli (F := EC cA o) (va_runV (As := [.int a1, .int (0 : Int32)]) (rest := []) C.1 (c_X9_gate l D cA o _ _ u5 _ h) (cwV 2 C.1.2.2.2.2 gL_tick_X9_gate rfl rfl rfl (by decide +kernel) ⟨Nat.le_of_ble_eq_true rfl, Nat.le_of_ble_eq_true rfl⟩) (r_preV C P [.int a1, .int (0 : Int32)] (ci := 9) rfl (kd_lt kd_at_0 (by decide)) (EK_9 kd_at_0)) rfl rfl hl.1 rfl (lv_room (Nat.le_of_ble_eq_true rfl)) dL_tick_25 ⟨Nat.le_of_ble_eq_true rfl, Nat.le_of_ble_eq_true rfl⟩) P.2 (fun r8 u7 H locs h P => ?_)
  refine lv_iconst (v := 2) hx hb dL_tick_28 (by decide) ?_
  refine lv_icmp_ne (tgt := 37) hx hb dL_tick_29 (by decide) (fun c9 => ?_) (fun c9 => ?_)
  · have h := ite_f h c9
    refine lv_aload_n hx hb dL_tick_37 rfl (lv_at hl 3 rfl) ?_
    refine lv_iload_n hx hb dL_tick_38 rfl (lv_at hl 4 rfl) ?_
    refine lv_iconst (v := 0) hx hb dL_tick_39 (by decide) ?_
    refine lv_iconst (v := 0) hx hb dL_tick_40 (by decide) ?_
    refine r_calli (F := EC cA o) (va_runV (As := [.int a1, .int (0 : Int32), .int (0 : Int32)]) (rest := []) C.1 (c_X9_queued l D cA o _ _ _ u7 _ h) (cwV 3 C.1.2.2.2.2 gL_tick_X9_queued rfl rfl rfl (by decide +kernel) ⟨Nat.le_of_ble_eq_true rfl, Nat.le_of_ble_eq_true rfl⟩) (r_preV C P [.int a1, .int (0 : Int32), .int (0 : Int32)] (ci := 9) rfl (kd_lt kd_at_0 (by decide)) (EK_9 kd_at_0)) rfl rfl hl.1 rfl (lv_room (Nat.le_of_ble_eq_true rfl)) dL_tick_41 ⟨Nat.le_of_ble_eq_true rfl, Nat.le_of_ble_eq_true rfl⟩) P.2 (fun r11 u10 H locs h P => ?_)
    exact t_L_tick_44 C _ _ _ _ _ u10 _ _ _ P (lv_sub hl [3, 4, 2, 1, 0] rfl) h
  · have h := ite_t h c9
    refine lv_bipush (v := -5) hx hb dL_tick_32 (by decide) ?_
    refine lv_goto (tgt := 44) hx hb dL_tick_34 (by decide) ?_
    exact t_L_tick_44 C _ _ _ _ _ u7 _ _ _ P (lv_sub hl [3, 4, 2, 1, 0] rfl) h
set_option maxHeartbeats 4000000 in
set_option maxRecDepth 100000 in
theorem c_L_tick (l : Launch) (D : va_G) (cA : Nat → ClassId) (o : Nat) (a1 : Int32)  (u0 : Mm) (Φ : Int32 → Mm → Prop) (h : w_L_tick a1 u0 Φ) : Met l yL_tick wsL_tick rm_L_tick (va_Pc [.ref (o + 0), .int a1] (Wd 747 o D (tysL cA) (EC cA o u0))) (Qg vI Φ (fun μ => Wd 747 o D (tysL cA) (EC cA o μ)) (aA o 747)) 0 0 (aA o 747) := by
  refine Met.ofW (cc := cL_tick) (maxL := 20) (ret := (some .boolean)) (by decide) rfl ?_
  intro p e s m args below meth c s₁ B hml hv
  obtain ⟨rfl, hv⟩ := hv
  have hl := lv_entry ([.ref (o + 0), .int a1]) (n := 20) (Nat.le_of_ble_eq_true rfl)
  rw [lg_entry_eq]
  exact t_L_tick_0 ⟨⟨B.exec, B.bytes, hml, findClass_of_methodNamed B.named, atoms_spec (ws := wsL_tick) B.pre⟩, B.returns, B.notSynchronized, hv.2⟩ a1 u0 _ _ _ ⟨hv.1, va_S.rf⟩ hl h
