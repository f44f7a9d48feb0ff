abbrev rm_X8_letTicksGo : Room := { frames := 5, cells := 0, slots := 0, locals := 113 }
theorem wd_X8_letTicksGo_1 : Cond.fieldLink RX8 50 "TurnstileBank$State" "gateCount" "I" ∈ wsX8_letTicksGo := List.mem_of_getElem? (i := 1) (by decide +kernel)
theorem wd_X8_letTicksGo_2 : Cond.fieldLink RX8 11 "TurnstileBank$State" "gates" "[LTurnstileBank$Gate;" ∈ wsX8_letTicksGo := List.mem_of_getElem? (i := 2) (by decide +kernel)
theorem wd_X8_letTicksGo_3 : Cond.fieldLink RX8 78 "TurnstileBank$State" "time" "I" ∈ wsX8_letTicksGo := List.mem_of_getElem? (i := 3) (by decide +kernel)
theorem wd_X8_letTicksGo_4 : Cond.static yX9_isBetween ∈ wsX8_letTicksGo := List.mem_of_getElem? (i := 4) (by decide +kernel)
theorem wd_X8_letTicksGo_5 : Cond.initialized RX9 ∈ wsX8_letTicksGo := List.mem_of_getElem? (i := 5) (by decide +kernel)
theorem in_X8_letTicksGo_8 : ∀ w ∈ wsX80, w ∈ wsX8_letTicksGo := fun w h => List.mem_cons_of_mem _ (List.mem_append_left _ (List.mem_append_left _ (List.mem_append_left _ (List.mem_append_left _ (List.mem_append_left _ (List.mem_append_left _ (List.mem_append_right _ h)))))))
def w_X8_letTicksGo_26 (X18 : Nat → Int32 → Int32 → Int32 → Mm → Prop) (Φ : Int32 → Mm → Prop) : Nat → Nat → Int32 → Int32 → Int32 → Int32 → Mm → Prop
  | 0, _, _, _, _, _, _ => False
  | n + 1, x0, x1, x2, x3, x4, u0 => (if (u0 x0 5) ≤ x4 then (∀ u6 : Mm, u6 = up2 u0 x0 9 ((u0 x0 9) + (1 : Int32)) → (X18 x0 x1 x2 ((x3 + 1)) u6)) else (if (8 : Int32) ≤ x4 then (∀ u8 : Mm, u8 = up2 u0 x0 9 ((u0 x0 9) + (1 : Int32)) → (X18 x0 x1 x2 ((x3 + 1)) u8)) else (vp_in x4 8 ∧ (w_X8_stepGate x0 x4 ((x0 + 10 + 5 * x4.toNatClampNeg)) u0 (fun r11 u10 => (w_X8_letTicksGo_26 X18 Φ n x0 x1 ((x2 + r11)) x3 ((x4 + 1)) u10))))))
set_option maxHeartbeats 4000000 in
set_option maxRecDepth 100000 in
theorem t_X8_letTicksGo_26 {p : Program} {l : Launch} {e : Env} {s : State} {m : MethodId} {args : Array Value} {below : List Frame} {meth : Method} {c : Code} {D : va_G} {cA : Nat → ClassId} {o : Nat} {X18 : Nat → Int32 → Int32 → Int32 → Mm → Prop} {Φ : Int32 → Mm → Prop} (C : Cx p m meth c s args cX8_letTicksGo 5 wsX8_letTicksGo RX8 (some .int) D (tysL cA)) (hX18 : ∀ (x0 : Nat) (x1 : Int32) (x2 : Int32) (x3 : Int32) (u0 : Mm), kd x0 = 8 → ∀ (H : Heap) (locs : List Loc) (ls : Array Slot), Hp 747 o D (EC cA o u0) s H locs → lv_has ls 5 [(0, .ref (o + x0)), (1, .int x1), (2, .int x2), (3, .int x3)] → X18 x0 x1 x2 x3 u0 → W p l e rm_X8_letTicksGo s m args below meth c H locs 0 0 (MQ below (Qg vI Φ (fun μ => Wd 747 o D (tysL cA) (EC cA o μ)) (aA o 747)) args s 0 0 (aA o 747)) (F0 m 18 ls [])) : ∀ n : Nat, ∀ (x0 : Nat) (x1 : Int32) (x2 : Int32) (x3 : Int32) (x4 : Int32) (u0 : Mm), kd x0 = 8 → ∀ (H : Heap) (locs : List Loc) (ls : Array Slot), Hp 747 o D (EC cA o u0) s H locs → lv_has ls 5 [(0, .ref (o + x0)), (1, .int x1), (2, .int x2), (3, .int x3), (4, .int x4)] → w_X8_letTicksGo_26 X18 Φ n x0 x1 x2 x3 x4 u0 → W p l e rm_X8_letTicksGo s m args below meth c H locs 0 0 (MQ below (Qg vI Φ (fun μ => Wd 747 o D (tysL cA) (EC cA o μ)) (aA o 747)) args s 0 0 (aA o 747)) (F0 m 26 ls []) := by
  intro n
  induction n with
  | zero => intro x0 x1 x2 x3 x4 u0 hx0 H locs ls P hl h; exact h.elim
  | succ n ih =>
    intro x0 x1 x2 x3 x4 u0 hx0 H locs ls P hl h
    have hx := C.1.1
    have hb := C.1.2.1
    rw [w_X8_letTicksGo_26] at h
    refine lv_iload hx hb dX8_letTicksGo_26 (lv_at hl 4 rfl) ?_
    refine lv_aload_n hx hb dX8_letTicksGo_28 rfl (lv_at hl 0 rfl) ?_
    refine g_8_5 C P in_X8_letTicksGo_8 wd_X8_letTicksGo_1 hx0 dX8_letTicksGo_29 ?_
    refine lv_icmp_ge (tgt := 67) hx hb dX8_letTicksGo_32 (by decide) (fun c5 => ?_) (fun c5 => ?_)
    · have h := ite_t h c5
      refine lv_aload_n hx hb dX8_letTicksGo_67 rfl (lv_at hl 0 rfl) ?_
      refine lv_dup hx hb dX8_letTicksGo_68 rfl ?_
      refine g_8_9 C P in_X8_letTicksGo_8 wd_X8_letTicksGo_3 hx0 dX8_letTicksGo_69 ?_
      refine lv_iconst (v := 1) hx hb dX8_letTicksGo_72 (by decide) ?_
      refine lv_iadd hx hb dX8_letTicksGo_73 ?_
      refine p_8_9 C P in_X8_letTicksGo_8 wd_X8_letTicksGo_3 hx0 dX8_letTicksGo_74 (fun u6 eu6 H locs P => ?_)
      have h := h u6 eu6
      refine lv_iinc (v := (x3 + 1)) (lv' := [(3, .int (x3 + 1)), (0, .ref (o + x0)), (1, .int x1), (2, .int x2), (4, .int x4)]) hx hb dX8_letTicksGo_77 hl (k := 3) rfl rfl (by decide) rfl (fun ls hl => ?_)
      refine lv_goto (tgt := 18) hx hb dX8_letTicksGo_80 (by decide) ?_
      exact hX18 _ _ _ _ u6 hx0 _ _ _ P (lv_sub hl [1, 2, 3, 0] rfl) h
    · have h := ite_f h c5
      refine lv_iload hx hb dX8_letTicksGo_35 (lv_at hl 4 rfl) ?_
      refine lv_aload_n hx hb dX8_letTicksGo_37 rfl (lv_at hl 0 rfl) ?_
      refine g_8_0 C P in_X8_letTicksGo_8 wd_X8_letTicksGo_2 hx0 dX8_letTicksGo_38 ?_
      refine l_gate C P hx0 dX8_letTicksGo_41 ?_
      refine lv_icmp_ge (tgt := 67) hx hb dX8_letTicksGo_42 (by decide) (fun c7 => ?_) (fun c7 => ?_)
      · have h := ite_t h c7
        refine lv_aload_n hx hb dX8_letTicksGo_67 rfl (lv_at hl 0 rfl) ?_
        refine lv_dup hx hb dX8_letTicksGo_68 rfl ?_
        refine g_8_9 C P in_X8_letTicksGo_8 wd_X8_letTicksGo_3 hx0 dX8_letTicksGo_69 ?_
        refine lv_iconst (v := 1) hx hb dX8_letTicksGo_72 (by decide) ?_
        refine lv_iadd hx hb dX8_letTicksGo_73 ?_
        refine p_8_9 C P in_X8_letTicksGo_8 wd_X8_letTicksGo_3 hx0 dX8_letTicksGo_74 (fun u8 eu8 H locs P => ?_)
        have h := h u8 eu8
        refine lv_iinc (v := (x3 + 1)) (lv' := [(3, .int (x3 + 1)), (0, .ref (o + x0)), (1, .int x1), (2, .int x2), (4, .int x4)]) hx hb dX8_letTicksGo_77 hl (k := 3) rfl rfl (by decide) rfl (fun ls hl => ?_)
        refine lv_goto (tgt := 18) hx hb dX8_letTicksGo_80 (by decide) ?_
        exact hX18 _ _ _ _ u8 hx0 _ _ _ P (lv_sub hl [1, 2, 3, 0] rfl) h
      · have h := ite_f h c7
        refine lv_iload_n hx hb dX8_letTicksGo_45 rfl (lv_at hl 2 rfl) ?_
        refine lv_aload_n hx hb dX8_letTicksGo_46 rfl (lv_at hl 0 rfl) ?_
        refine lv_iload hx hb dX8_letTicksGo_47 (lv_at hl 4 rfl) ?_
        refine lv_aload_n hx hb dX8_letTicksGo_49 rfl (lv_at hl 0 rfl) ?_
        refine g_8_0 C P in_X8_letTicksGo_8 wd_X8_letTicksGo_2 hx0 dX8_letTicksGo_50 ?_
        refine lv_iload hx hb dX8_letTicksGo_53 (lv_at hl 4 rfl) ?_
        obtain ⟨hi, h⟩ := h
        have hk9 := kd_gate hx0 hi
        refine a_gate C P hx0 hi dX8_letTicksGo_55 ?_
        refine r_calli (F := EC cA o) (va_runV (As := [.int x4, .ref (o + (x0 + 10 + 5 * x4.toNatClampNeg))]) (rest := [.int x2]) C.1 (c_X8_stepGate l D cA o _ _ _ hx0 hk9 u0 _ h) (cwV 2 C.1.2.2.2.2 gX8_letTicksGo_X8_stepGate rfl rfl rfl (by decide +kernel) ⟨Nat.le_of_ble_eq_true rfl, Nat.le_of_ble_eq_true rfl⟩) (r_preV C P [.int x4, .ref (o + (x0 + 10 + 5 * x4.toNatClampNeg))] (ci := 8) rfl (kd_lt hx0 (by decide)) (EK_8 hx0)) rfl rfl hl.1 rfl (lv_room (Nat.le_of_ble_eq_true rfl)) dX8_letTicksGo_56 ⟨Nat.le_of_ble_eq_true rfl, Nat.le_of_ble_eq_true rfl⟩) P.2 (fun r11 u10 H locs h P => ?_)
        refine lv_iadd hx hb dX8_letTicksGo_59 ?_
        refine lv_istore_n (lv' := [(2, .int (x2 + r11)), (0, .ref (o + x0)), (1, .int x1), (3, .int x3), (4, .int x4)]) hx hb dX8_letTicksGo_60 rfl hl (by decide) rfl (fun ls hl => ?_)
        refine lv_iinc (v := (x4 + 1)) (lv' := [(4, .int (x4 + 1)), (2, .int (x2 + r11)), (0, .ref (o + x0)), (1, .int x1), (3, .int x3)]) hx hb dX8_letTicksGo_61 hl (k := 4) rfl rfl (by decide) rfl (fun ls hl => ?_)
        refine lv_goto (tgt := 26) hx hb dX8_letTicksGo_64 (by decide) ?_
        exact ih _ _ _ _ _ u10 hx0 _ _ _ P (lv_sub hl [2, 3, 1, 4, 0] rfl) h
def w_X8_letTicksGo_18  (Φ : Int32 → Mm → Prop) : Nat → Nat → Int32 → Int32 → Int32 → Mm → Prop
  | 0, _, _, _, _, _ => False
  | n + 1, x0, x1, x2, x3, u0 => (if x1 ≤ x3 then (Φ x2 u0) else (∃ n26 : Nat, w_X8_letTicksGo_26 (fun y0 y1 y2 y3 u => w_X8_letTicksGo_18 Φ n y0 y1 y2 y3 u) Φ n26 x0 x1 x2 x3 ((0 : Int32)) u0))
set_option maxHeartbeats 4000000 in
set_option maxRecDepth 100000 in
theorem t_X8_letTicksGo_18 {p : Program} {l : Launch} {e : Env} {s : State} {m : MethodId} {args : Array Value} {below : List Frame} {meth : Method} {c : Code} {D : va_G} {cA : Nat → ClassId} {o : Nat}  {Φ : Int32 → Mm → Prop} (C : Cx p m meth c s args cX8_letTicksGo 5 wsX8_letTicksGo RX8 (some .int) D (tysL cA)) : ∀ n : Nat, ∀ (x0 : Nat) (x1 : Int32) (x2 : Int32) (x3 : Int32) (u0 : Mm), kd x0 = 8 → ∀ (H : Heap) (locs : List Loc) (ls : Array Slot), Hp 747 o D (EC cA o u0) s H locs → lv_has ls 5 [(0, .ref (o + x0)), (1, .int x1), (2, .int x2), (3, .int x3)] → w_X8_letTicksGo_18 Φ n x0 x1 x2 x3 u0 → W p l e rm_X8_letTicksGo s m args below meth c H locs 0 0 (MQ below (Qg vI Φ (fun μ => Wd 747 o D (tysL cA) (EC cA o μ)) (aA o 747)) args s 0 0 (aA o 747)) (F0 m 18 ls []) := by
  intro n
  induction n with
  | zero => intro x0 x1 x2 x3 u0 hx0 H locs ls P hl h; exact h.elim
  | succ n ih =>
    intro x0 x1 x2 x3 u0 hx0 H locs ls P hl h
    have hx := C.1.1
    have hb := C.1.2.1
    rw [w_X8_letTicksGo_18] at h
    refine lv_iload_n hx hb dX8_letTicksGo_18 rfl (lv_at hl 3 rfl) ?_
    refine lv_iload_n hx hb dX8_letTicksGo_19 rfl (lv_at hl 1 rfl) ?_
    refine lv_icmp_ge (tgt := 83) hx hb dX8_letTicksGo_20 (by decide) (fun c4 => ?_) (fun c4 => ?_)
    · have h := ite_t h c4
      refine lv_iload_n hx hb dX8_letTicksGo_83 rfl (lv_at hl 2 rfl) ?_
      exact r_ireti C P h dX8_letTicksGo_84
    · have h := ite_f h c4
      refine lv_iconst (v := 0) hx hb dX8_letTicksGo_23 (by decide) ?_
      refine lv_istore (lv' := [(4, .int (0 : Int32)), (0, .ref (o + x0)), (1, .int x1), (2, .int x2), (3, .int x3)]) hx hb dX8_letTicksGo_24 hl (by decide) rfl (fun ls hl => ?_)
      obtain ⟨n26, h⟩ := h
      exact t_X8_letTicksGo_26 C ih n26 _ _ _ _ _ u0 hx0 _ _ _ P (lv_sub hl [1, 2, 3, 4, 0] rfl) h
def w_X8_letTicksGo (k0 : Nat) (a1 : Int32) (u0 : Mm) (Φ : Int32 → Mm → Prop) : Prop := (w_X9_isBetween ((1 : Int32)) a1 ((200 : Int32)) u0 (fun r2 u1 => (if r2 = 0 then (Φ ((-2 : Int32)) u1) else (∃ n18 : Nat, w_X8_letTicksGo_18 Φ n18 k0 a1 ((0 : Int32)) ((0 : Int32)) u1))))
set_option maxHeartbeats 4000000 in
set_option maxRecDepth 100000 in
theorem t_X8_letTicksGo_0 {p : Program} {l : Launch} {e : Env} {s : State} {m : MethodId} {args : Array Value} {below : List Frame} {meth : Method} {c : Code} {D : va_G} {cA : Nat → ClassId} {o : Nat}  {Φ : Int32 → Mm → Prop} (C : Cx p m meth c s args cX8_letTicksGo 5 wsX8_letTicksGo RX8 (some .int) D (tysL cA)) : ∀ (k0 : Nat) (a1 : Int32) (u0 : Mm), kd k0 = 8 → ∀ (H : Heap) (locs : List Loc) (ls : Array Slot), Hp 747 o D (EC cA o u0) s H locs → lv_has ls 5 [(0, .ref (o + k0)), (1, .int a1)] → w_X8_letTicksGo k0 a1 u0 Φ → W p l e rm_X8_letTicksGo s m args below meth c H locs 0 0 (MQ below (Qg vI Φ (fun μ => Wd 747 o D (tysL cA) (EC cA o μ)) (aA o 747)) args s 0 0 (aA o 747)) (F0 m 0 ls []) := by
  intro k0 a1 u0 hk0 H locs ls P hl h
  have hx := C.1.1
  have hb := C.1.2.1
  unfold w_X8_letTicksGo at h
  refine lv_iconst (v := 1) hx hb dX8_letTicksGo_0 (by decide) ?_
  refine lv_iload_n hx hb dX8_letTicksGo_1 rfl (lv_at hl 1 rfl) ?_
  refine lv_sipush (v := 200) hx hb dX8_letTicksGo_2 (by decide) ?_
  refine r_calli (F := EC cA o) (va_runSN (As := [.int (1 : Int32), .int a1, .int (200 : Int32)]) (rest := []) C.1 (c_X9_isBetween l D cA o _ _ _ u0 _ h) ⟨va_cnB 3 C.1.2.2.2.2 gX8_letTicksGo_X9_isBetween_n81 rfl rfl rfl (C.2.2.2.2 0 _ rfl) (C.1.2.2.2.2 _ wd_X8_letTicksGo_5) (by decide +kernel) ⟨Nat.le_of_ble_eq_true rfl, Nat.le_of_ble_eq_true rfl⟩, C.1.2.2.2.2 _ wd_X8_letTicksGo_4, trivial⟩ (r_pre C P [.int (1 : Int32), .int a1, .int (200 : Int32)]) rfl rfl hl.1 rfl (lv_room (Nat.le_of_ble_eq_true rfl)) dX8_letTicksGo_5 ⟨Nat.le_of_ble_eq_true rfl, Nat.le_of_ble_eq_true rfl⟩) P.2 (fun r2 u1 H locs h P => ?_)
  refine lv_if_ne (tgt := 14) hx hb dX8_letTicksGo_8 (by decide) (fun c3 => ?_) (fun c3 => ?_)
  · have h := ite_f h c3
    refine lv_iconst (v := 0) hx hb dX8_letTicksGo_14 (by decide) ?_
    refine lv_istore_n (lv' := [(2, .int (0 : Int32)), (0, .ref (o + k0)), (1, .int a1)]) hx hb dX8_letTicksGo_15 rfl hl (by decide) rfl (fun ls hl => ?_)
    refine lv_iconst (v := 0) hx hb dX8_letTicksGo_16 (by decide) ?_
    refine lv_istore_n (lv' := [(3, .int (0 : Int32)), (2, .int (0 : Int32)), (0, .ref (o + k0)), (1, .int a1)]) hx hb dX8_letTicksGo_17 rfl hl (by decide) rfl (fun ls hl => ?_)
    obtain ⟨n18, h⟩ := h
    exact t_X8_letTicksGo_18 C n18 _ _ _ _ u1 hk0 _ _ _ P (lv_sub hl [2, 3, 1, 0] rfl) h
  · have h := ite_t h c3
    refine lv_bipush (v := -2) hx hb dX8_letTicksGo_11 (by decide) ?_
    exact r_ireti C P h dX8_letTicksGo_13
set_option maxHeartbeats 4000000 in
set_option maxRecDepth 100000 in
theorem c_X8_letTicksGo (l : Launch) (D : va_G) (cA : Nat → ClassId) (o : Nat) (k0 : Nat) (a1 : Int32) (hk0 : kd k0 = 8) (u0 : Mm) (Φ : Int32 → Mm → Prop) (h : w_X8_letTicksGo k0 a1 u0 Φ) : Met l yX8_letTicksGo wsX8_letTicksGo rm_X8_letTicksGo (va_Pc [.ref (o + k0), .int a1] (Wd 747 o D (tysL cA) (EC cA o u0))) (Qg vI Φ (fun μ => Wd 747 o D (tysL cA) (EC cA o μ)) (aA o 747)) 0 0 (aA o 747) := by
  refine Met.ofW (cc := cX8_letTicksGo) (maxL := 5) (ret := (some .int)) (by decide) rfl ?_
  intro p e s m args below meth c s₁ B hml hv
  obtain ⟨rfl, hv⟩ := hv
  have hl := lv_entry ([.ref (o + k0), .int a1]) (n := 5) (Nat.le_of_ble_eq_true rfl)
  rw [lg_entry_eq]
  exact t_X8_letTicksGo_0 ⟨⟨B.exec, B.bytes, hml, findClass_of_methodNamed B.named, atoms_spec (ws := wsX8_letTicksGo) B.pre⟩, B.returns, B.notSynchronized, hv.2⟩ k0 a1 u0 hk0 _ _ _ ⟨hv.1, va_S.rf⟩ hl h
abbrev rm_X8_ticksUntilPassed : Room := { frames := 6, cells := 0, slots := 0, locals := 137 }
theorem wd_X8_ticksUntilPassed_1 : Cond.fieldLink RX8 139 "TurnstileBank$Person" "where" "I" ∈ wsX8_ticksUntilPassed := List.mem_of_getElem? (i := 1) (by decide +kernel)
theorem in_X8_ticksUntilPassed_5 : ∀ w ∈ wsX50, w ∈ wsX8_ticksUntilPassed := fun w h => List.mem_cons_of_mem _ (List.mem_append_left _ (List.mem_append_left _ (List.mem_append_left _ (List.mem_append_left _ (List.mem_append_left _ (List.mem_append_left _ (List.mem_append_right _ h)))))))
def w_X8_ticksUntilPassed_8  (Φ : Int32 → Mm → Prop) : Nat → Nat → Int32 → Mm → Prop
  | 0, _, _, _ => False
  | n + 1, x0, x3, u0 => (Φ ((-5 : Int32)) u0)
set_option maxHeartbeats 4000000 in
set_option maxRecDepth 100000 in
theorem t_X8_ticksUntilPassed_8 {p : Program} {l : Launch} {e : Env} {s : State} {m : MethodId} {args : Array Value} {below : List Frame} {meth : Method} {c : Code} {D : va_G} {cA : Nat → ClassId} {o : Nat}  {Φ : Int32 → Mm → Prop} (C : Cx p m meth c s args cX8_ticksUntilPassed 4 wsX8_ticksUntilPassed RX8 (some .int) D (tysL cA)) : ∀ n : Nat, ∀ (x0 : Nat) (x3 : Int32) (u0 : Mm), kd x0 = 8 → ∀ (H : Heap) (locs : List Loc) (ls : Array Slot), Hp 747 o D (EC cA o u0) s H locs → lv_has ls 4 [(0, .ref (o + x0)), (2, .null), (3, .int x3)] → w_X8_ticksUntilPassed_8 Φ n x0 x3 u0 → W p l e rm_X8_ticksUntilPassed s m args below meth c H locs 0 0 (MQ below (Qg vI Φ (fun μ => Wd 747 o D (tysL cA) (EC cA o μ)) (aA o 747)) args s 0 0 (aA o 747)) (F0 m 8 ls []) := by
  intro n
  induction n with
  | zero => intro x0 x3 u0 hx0 H locs ls P hl h; exact h.elim
  | succ n ih =>
    intro x0 x3 u0 hx0 H locs ls P hl h
    have hx := C.1.1
    have hb := C.1.2.1
    rw [w_X8_ticksUntilPassed_8] at h
    refine lv_aload_nN hx hb dX8_ticksUntilPassed_8 rfl (lv_at hl 1 rfl) ?_
    refine lv_ifnullN (tgt := 59) hx hb dX8_ticksUntilPassed_9 (by decide) ?_
    refine lv_bipush (v := -5) hx hb dX8_ticksUntilPassed_59 (by decide) ?_
    exact r_ireti C P h dX8_ticksUntilPassed_61
def w_X8_ticksUntilPassed_8b  (Φ : Int32 → Mm → Prop) : Nat → Nat → Nat → Int32 → Mm → Prop
  | 0, _, _, _, _ => False
  | n + 1, x0, x2, x3, u0 => (if (500 : Int32) < x3 then (Φ ((-5 : Int32)) u0) else (w_X8_letTicksGo x0 ((1 : Int32)) u0 (fun r6 u5 => (if (u5 x2 2) = (3 : Int32) then (Φ x3 u5) else (if (u5 x2 2) = (5 : Int32) then (Φ x3 u5) else (if (u5 x2 2) = 0 then (Φ ((-5 : Int32)) u5) else (w_X8_ticksUntilPassed_8b Φ n x0 x2 ((x3 + 1)) u5)))))))
set_option maxHeartbeats 4000000 in
set_option maxRecDepth 100000 in
theorem t_X8_ticksUntilPassed_8b {p : Program} {l : Launch} {e : Env} {s : State} {m : MethodId} {args : Array Value} {below : List Frame} {meth : Method} {c : Code} {D : va_G} {cA : Nat → ClassId} {o : Nat}  {Φ : Int32 → Mm → Prop} (C : Cx p m meth c s args cX8_ticksUntilPassed 4 wsX8_ticksUntilPassed RX8 (some .int) D (tysL cA)) : ∀ n : Nat, ∀ (x0 : Nat) (x2 : Nat) (x3 : Int32) (u0 : Mm), kd x0 = 8 → kd x2 = 5 → ∀ (H : Heap) (locs : List Loc) (ls : Array Slot), Hp 747 o D (EC cA o u0) s H locs → lv_has ls 4 [(0, .ref (o + x0)), (2, .ref (o + x2)), (3, .int x3)] → w_X8_ticksUntilPassed_8b Φ n x0 x2 x3 u0 → W p l e rm_X8_ticksUntilPassed s m args below meth c H locs 0 0 (MQ below (Qg vI Φ (fun μ => Wd 747 o D (tysL cA) (EC cA o μ)) (aA o 747)) args s 0 0 (aA o 747)) (F0 m 8 ls []) := by
  intro n
  induction n with
  | zero => intro x0 x2 x3 u0 hx0 hx2 H locs ls P hl h; exact h.elim
  | succ n ih =>
    intro x0 x2 x3 u0 hx0 hx2 H locs ls P hl h
    have hx := C.1.1
    have hb := C.1.2.1
    rw [w_X8_ticksUntilPassed_8b] at h
    refine lv_aload_n hx hb dX8_ticksUntilPassed_8 rfl (lv_at hl 1 rfl) ?_
    refine lv_ifnull hx hb dX8_ticksUntilPassed_9 ?_
    refine lv_iload_n hx hb dX8_ticksUntilPassed_12 rfl (lv_at hl 2 rfl) ?_
    refine lv_sipush (v := 500) hx hb dX8_ticksUntilPassed_13 (by decide) ?_
    refine lv_icmp_gt (tgt := 59) hx hb dX8_ticksUntilPassed_16 (by decide) (fun c4 => ?_) (fun c4 => ?_)
    · have h := ite_t h c4
      refine lv_bipush (v := -5) hx hb dX8_ticksUntilPassed_59 (by decide) ?_
      exact r_ireti C P h dX8_ticksUntilPassed_61
    · have h := ite_f h c4
      refine lv_aload_n hx hb dX8_ticksUntilPassed_19 rfl (lv_at hl 0 rfl) ?_
      refine lv_iconst (v := 1) hx hb dX8_ticksUntilPassed_20 (by decide) ?_
      refine r_calli (F := EC cA o) (va_runV (As := [.int (1 : Int32)]) (rest := []) C.1 (c_X8_letTicksGo l D cA o _ _ hx0 u0 _ h) (cwV 1 C.1.2.2.2.2 gX8_ticksUntilPassed_X8_letTicksGo rfl rfl rfl (by decide +kernel) ⟨Nat.le_of_ble_eq_true rfl, Nat.le_of_ble_eq_true rfl⟩) (r_preV C P [.int (1 : Int32)] (ci := 8) rfl (kd_lt hx0 (by decide)) (EK_8 hx0)) rfl rfl hl.1 rfl (lv_room (Nat.le_of_ble_eq_true rfl)) dX8_ticksUntilPassed_21 ⟨Nat.le_of_ble_eq_true rfl, Nat.le_of_ble_eq_true rfl⟩) P.2 (fun r6 u5 H locs h P => ?_)
      refine lv_pop hx hb dX8_ticksUntilPassed_24 rfl ?_
      refine lv_aload_n hx hb dX8_ticksUntilPassed_25 rfl (lv_at hl 1 rfl) ?_
      refine g_5_2 C P in_X8_ticksUntilPassed_5 wd_X8_ticksUntilPassed_1 hx2 dX8_ticksUntilPassed_26 ?_
      refine lv_iconst (v := 3) hx hb dX8_ticksUntilPassed_29 (by decide) ?_
      refine lv_icmp_eq (tgt := 41) hx hb dX8_ticksUntilPassed_30 (by decide) (fun c7 => ?_) (fun c7 => ?_)
      · have h := ite_t h c7
        refine lv_iload_n hx hb dX8_ticksUntilPassed_41 rfl (lv_at hl 2 rfl) ?_
        exact r_ireti C P h dX8_ticksUntilPassed_42
      · have h := ite_f h c7
        refine lv_aload_n hx hb dX8_ticksUntilPassed_33 rfl (lv_at hl 1 rfl) ?_
        refine g_5_2 C P in_X8_ticksUntilPassed_5 wd_X8_ticksUntilPassed_1 hx2 dX8_ticksUntilPassed_34 ?_
        refine lv_iconst (v := 5) hx hb dX8_ticksUntilPassed_37 (by decide) ?_
        refine lv_icmp_ne (tgt := 43) hx hb dX8_ticksUntilPassed_38 (by decide) (fun c8 => ?_) (fun c8 => ?_)
        · have h := ite_f h c8
          refine lv_aload_n hx hb dX8_ticksUntilPassed_43 rfl (lv_at hl 1 rfl) ?_
          refine g_5_2 C P in_X8_ticksUntilPassed_5 wd_X8_ticksUntilPassed_1 hx2 dX8_ticksUntilPassed_44 ?_
          refine lv_if_ne (tgt := 53) hx hb dX8_ticksUntilPassed_47 (by decide) (fun c9 => ?_) (fun c9 => ?_)
          · have h := ite_f h c9
            refine lv_iinc (v := (x3 + 1)) (lv' := [(3, .int (x3 + 1)), (0, .ref (o + x0)), (2, .ref (o + x2))]) hx hb dX8_ticksUntilPassed_53 hl (k := 2) rfl rfl (by decide) rfl (fun ls hl => ?_)
            refine lv_goto (tgt := 8) hx hb dX8_ticksUntilPassed_56 (by decide) ?_
            exact ih _ _ _ u5 hx0 hx2 _ _ _ P (lv_sub hl [1, 2, 0] rfl) h
          · have h := ite_t h c9
            refine lv_bipush (v := -5) hx hb dX8_ticksUntilPassed_50 (by decide) ?_
            exact r_ireti C P h dX8_ticksUntilPassed_52
        · have h := ite_t h c8
          refine lv_iload_n hx hb dX8_ticksUntilPassed_41 rfl (lv_at hl 2 rfl) ?_
          exact r_ireti C P h dX8_ticksUntilPassed_42
def w_X8_ticksUntilPassed (k0 : Nat) (a1 : Int32) (u0 : Mm) (Φ : Int32 → Mm → Prop) : Prop := (w_X8_personAt k0 a1 u0 (fun r2 u1 => opt r2 (∃ n8 : Nat, w_X8_ticksUntilPassed_8 Φ n8 k0 ((1 : Int32)) u1) (fun r2 => (∃ n8b : Nat, w_X8_ticksUntilPassed_8b Φ n8b k0 r2 ((1 : Int32)) u1))))
set_option maxHeartbeats 4000000 in
set_option maxRecDepth 100000 in
theorem t_X8_ticksUntilPassed_0 {p : Program} {l : Launch} {e : Env} {s : State} {m : MethodId} {args : Array Value} {below : List Frame} {meth : Method} {c : Code} {D : va_G} {cA : Nat → ClassId} {o : Nat}  {Φ : Int32 → Mm → Prop} (C : Cx p m meth c s args cX8_ticksUntilPassed 4 wsX8_ticksUntilPassed RX8 (some .int) D (tysL cA)) : ∀ (k0 : Nat) (a1 : Int32) (u0 : Mm), kd k0 = 8 → ∀ (H : Heap) (locs : List Loc) (ls : Array Slot), Hp 747 o D (EC cA o u0) s H locs → lv_has ls 4 [(0, .ref (o + k0)), (1, .int a1)] → w_X8_ticksUntilPassed k0 a1 u0 Φ → W p l e rm_X8_ticksUntilPassed s m args below meth c H locs 0 0 (MQ below (Qg vI Φ (fun μ => Wd 747 o D (tysL cA) (EC cA o μ)) (aA o 747)) args s 0 0 (aA o 747)) (F0 m 0 ls []) := by
  intro k0 a1 u0 hk0 H locs ls P hl h
  have hx := C.1.1
  have hb := C.1.2.1
  unfold w_X8_ticksUntilPassed at h
  refine lv_aload_n hx hb dX8_ticksUntilPassed_0 rfl (lv_at hl 0 rfl) ?_
  refine lv_iload_n hx hb dX8_ticksUntilPassed_1 rfl (lv_at hl 1 rfl) ?_
  refine r_calln (F := EC cA o) (va_runV (As := [.int a1]) (rest := []) C.1 (c_X8_personAt l D cA o _ _ hk0 u0 _ h) (cwV 1 C.1.2.2.2.2 gX8_ticksUntilPassed_X8_personAt rfl rfl rfl (by decide +kernel) ⟨Nat.le_of_ble_eq_true rfl, Nat.le_of_ble_eq_true rfl⟩) (r_preV C P [.int a1] (ci := 8) rfl (kd_lt hk0 (by decide)) (EK_8 hk0)) rfl rfl hl.1 rfl (lv_room (Nat.le_of_ble_eq_true rfl)) dX8_ticksUntilPassed_2 ⟨Nat.le_of_ble_eq_true rfl, Nat.le_of_ble_eq_true rfl⟩) P.2 (fun r2 u1 H locs h P => ?_)
  obtain ⟨h, hk3⟩ := h
  rcases r2 with _ | r2
  · have h := opt_n h
    refine lv_astore_nN (lv' := [(2, .null), (0, .ref (o + k0)), (1, .int a1)]) hx hb dX8_ticksUntilPassed_5 rfl hl (by decide) rfl (fun ls hl => ?_)
    refine lv_iconst (v := 1) hx hb dX8_ticksUntilPassed_6 (by decide) ?_
    refine lv_istore_n (lv' := [(3, .int (1 : Int32)), (2, .null), (0, .ref (o + k0)), (1, .int a1)]) hx hb dX8_ticksUntilPassed_7 rfl hl (by decide) rfl (fun ls hl => ?_)
    obtain ⟨n8, h⟩ := h
    exact t_X8_ticksUntilPassed_8 C n8 _ _ u1 hk0 _ _ _ P (lv_sub hl [2, 1, 0] rfl) h
  · have h := opt_s h
    have hk3 := hk3 r2 rfl
    refine lv_astore_n (lv' := [(2, .ref (o + r2)), (0, .ref (o + k0)), (1, .int a1)]) hx hb dX8_ticksUntilPassed_5 rfl hl (by decide) rfl (fun ls hl => ?_)
    refine lv_iconst (v := 1) hx hb dX8_ticksUntilPassed_6 (by decide) ?_
    refine lv_istore_n (lv' := [(3, .int (1 : Int32)), (2, .ref (o + r2)), (0, .ref (o + k0)), (1, .int a1)]) hx hb dX8_ticksUntilPassed_7 rfl hl (by decide) rfl (fun ls hl => ?_)
    obtain ⟨n8b, h⟩ := h
    exact t_X8_ticksUntilPassed_8b C n8b _ _ _ u1 hk0 hk3 _ _ _ P (lv_sub hl [2, 1, 0] rfl) h
set_option maxHeartbeats 4000000 in
set_option maxRecDepth 100000 in
theorem c_X8_ticksUntilPassed (l : Launch) (D : va_G) (cA : Nat → ClassId) (o : Nat) (k0 : Nat) (a1 : Int32) (hk0 : kd k0 = 8) (u0 : Mm) (Φ : Int32 → Mm → Prop) (h : w_X8_ticksUntilPassed k0 a1 u0 Φ) : Met l yX8_ticksUntilPassed wsX8_ticksUntilPassed rm_X8_ticksUntilPassed (va_Pc [.ref (o + k0), .int a1] (Wd 747 o D (tysL cA) (EC cA o u0))) (Qg vI Φ (fun μ => Wd 747 o D (tysL cA) (EC cA o μ)) (aA o 747)) 0 0 (aA o 747) := by
  refine Met.ofW (cc := cX8_ticksUntilPassed) (maxL := 4) (ret := (some .int)) (by decide) rfl ?_
  intro p e s m args below meth c s₁ B hml hv
  obtain ⟨rfl, hv⟩ := hv
  have hl := lv_entry ([.ref (o + k0), .int a1]) (n := 4) (Nat.le_of_ble_eq_true rfl)
  rw [lg_entry_eq]
  exact t_X8_ticksUntilPassed_0 ⟨⟨B.exec, B.bytes, hml, findClass_of_methodNamed B.named, atoms_spec (ws := wsX8_ticksUntilPassed) B.pre⟩, B.returns, B.notSynchronized, hv.2⟩ k0 a1 u0 hk0 _ _ _ ⟨hv.1, va_S.rf⟩ hl h
abbrev rm_X8_peopleWhoAre : Room := { frames := 0, cells := 0, slots := 0, locals := 0 }
theorem wd_X8_peopleWhoAre_1 : Cond.fieldLink RX8 57 "TurnstileBank$State" "personCount" "I" ∈ wsX8_peopleWhoAre := List.mem_of_getElem? (i := 1) (by decide +kernel)
theorem wd_X8_peopleWhoAre_2 : Cond.fieldLink RX8 19 "TurnstileBank$State" "people" "[LTurnstileBank$Person;" ∈ wsX8_peopleWhoAre := List.mem_of_getElem? (i := 2) (by decide +kernel)
theorem wd_X8_peopleWhoAre_3 : Cond.fieldLink RX8 139 "TurnstileBank$Person" "where" "I" ∈ wsX8_peopleWhoAre := List.mem_of_getElem? (i := 3) (by decide +kernel)
theorem in_X8_peopleWhoAre_5 : ∀ w ∈ wsX50, w ∈ wsX8_peopleWhoAre := fun w h => List.mem_cons_of_mem _ (List.mem_append_right _ h)
theorem in_X8_peopleWhoAre_8 : ∀ w ∈ wsX80, w ∈ wsX8_peopleWhoAre := fun w h => List.mem_cons_of_mem _ (List.mem_append_left _ (List.mem_append_right _ h))
def w_X8_peopleWhoAre_4  (Φ : Int32 → Mm → Prop) : Nat → Nat → Int32 → Int32 → Int32 → Mm → Prop
  | 0, _, _, _, _, _ => False
  | n + 1, x0, x1, x2, x3, u0 => (if (u0 x0 6) ≤ x3 then (Φ x2 u0) else (if (40 : Int32) ≤ x3 then (Φ x2 u0) else (vp_in x3 40 ∧ (if (u0 ((x0 + 50 + x3.toNatClampNeg)) 2) = x1 then (w_X8_peopleWhoAre_4 Φ n x0 x1 ((x2 + 1)) ((x3 + 1)) u0) else (w_X8_peopleWhoAre_4 Φ n x0 x1 x2 ((x3 + 1)) u0)))))
set_option maxHeartbeats 4000000 in
set_option maxRecDepth 100000 in
theorem t_X8_peopleWhoAre_4 {p : Program} {l : Launch} {e : Env} {s : State} {m : MethodId} {args : Array Value} {below : List Frame} {meth : Method} {c : Code} {D : va_G} {cA : Nat → ClassId} {o : Nat}  {Φ : Int32 → Mm → Prop} (C : Cx p m meth c s args cX8_peopleWhoAre 4 wsX8_peopleWhoAre RX8 (some .int) D (tysL cA)) : ∀ n : Nat, ∀ (x0 : Nat) (x1 : Int32) (x2 : Int32) (x3 : Int32) (u0 : Mm), kd x0 = 8 → ∀ (H : Heap) (locs : List Loc) (ls : Array Slot), Hp 747 o D (EC cA o u0) s H locs → lv_has ls 4 [(0, .ref (o + x0)), (1, .int x1), (2, .int x2), (3, .int x3)] → w_X8_peopleWhoAre_4 Φ n x0 x1 x2 x3 u0 → W p l e rm_X8_peopleWhoAre s m args below meth c H locs 0 0 (MQ below (Qg vI Φ (fun μ => Wd 747 o D (tysL cA) (EC cA o μ)) (aA o 747)) args s 0 0 (aA o 747)) (F0 m 4 ls []) := by
  intro n
  induction n with
  | zero => intro x0 x1 x2 x3 u0 hx0 H locs ls P hl h; exact h.elim
  | succ n ih =>
    intro x0 x1 x2 x3 u0 hx0 H locs ls P hl h
    have hx := C.1.1
    have hb := C.1.2.1
    rw [w_X8_peopleWhoAre_4] at h
    refine lv_iload_n hx hb dX8_peopleWhoAre_4 rfl (lv_at hl 3 rfl) ?_
    refine lv_aload_n hx hb dX8_peopleWhoAre_5 rfl (lv_at hl 0 rfl) ?_
    refine g_8_6 C P in_X8_peopleWhoAre_8 wd_X8_peopleWhoAre_1 hx0 dX8_peopleWhoAre_6 ?_
    refine lv_icmp_ge (tgt := 43) hx hb dX8_peopleWhoAre_9 (by decide) (fun c1 => ?_) (fun c1 => ?_)
    · have h := ite_t h c1
      refine lv_iload_n hx hb dX8_peopleWhoAre_43 rfl (lv_at hl 2 rfl) ?_
      exact r_ireti C P h dX8_peopleWhoAre_44
    · have h := ite_f h c1
      refine lv_iload_n hx hb dX8_peopleWhoAre_12 rfl (lv_at hl 3 rfl) ?_
      refine lv_aload_n hx hb dX8_peopleWhoAre_13 rfl (lv_at hl 0 rfl) ?_
      refine g_8_1 C P in_X8_peopleWhoAre_8 wd_X8_peopleWhoAre_2 hx0 dX8_peopleWhoAre_14 ?_
      refine l_person C P hx0 dX8_peopleWhoAre_17 ?_
      refine lv_icmp_ge (tgt := 43) hx hb dX8_peopleWhoAre_18 (by decide) (fun c2 => ?_) (fun c2 => ?_)
      · have h := ite_t h c2
        refine lv_iload_n hx hb dX8_peopleWhoAre_43 rfl (lv_at hl 2 rfl) ?_
        exact r_ireti C P h dX8_peopleWhoAre_44
      · have h := ite_f h c2
        refine lv_aload_n hx hb dX8_peopleWhoAre_21 rfl (lv_at hl 0 rfl) ?_
        refine g_8_1 C P in_X8_peopleWhoAre_8 wd_X8_peopleWhoAre_2 hx0 dX8_peopleWhoAre_22 ?_
        refine lv_iload_n hx hb dX8_peopleWhoAre_25 rfl (lv_at hl 3 rfl) ?_
        obtain ⟨hi, h⟩ := h
        have hk3 := kd_person hx0 hi
        refine a_person C P hx0 hi dX8_peopleWhoAre_26 ?_
        refine g_5_2 C P in_X8_peopleWhoAre_5 wd_X8_peopleWhoAre_3 hk3 dX8_peopleWhoAre_27 ?_
        refine lv_iload_n hx hb dX8_peopleWhoAre_30 rfl (lv_at hl 1 rfl) ?_
        refine lv_icmp_ne (tgt := 37) hx hb dX8_peopleWhoAre_31 (by decide) (fun c4 => ?_) (fun c4 => ?_)
        · have h := ite_f h c4
          refine lv_iinc (v := (x3 + 1)) (lv' := [(3, .int (x3 + 1)), (0, .ref (o + x0)), (1, .int x1), (2, .int x2)]) hx hb dX8_peopleWhoAre_37 hl (k := 3) rfl rfl (by decide) rfl (fun ls hl => ?_)
          refine lv_goto (tgt := 4) hx hb dX8_peopleWhoAre_40 (by decide) ?_
          exact ih _ _ _ _ u0 hx0 _ _ _ P (lv_sub hl [1, 2, 3, 0] rfl) h
        · have h := ite_t h c4
          refine lv_iinc (v := (x2 + 1)) (lv' := [(2, .int (x2 + 1)), (0, .ref (o + x0)), (1, .int x1), (3, .int x3)]) hx hb dX8_peopleWhoAre_34 hl (k := 2) rfl rfl (by decide) rfl (fun ls hl => ?_)
          refine lv_iinc (v := (x3 + 1)) (lv' := [(3, .int (x3 + 1)), (2, .int (x2 + 1)), (0, .ref (o + x0)), (1, .int x1)]) hx hb dX8_peopleWhoAre_37 hl (k := 3) rfl rfl (by decide) rfl (fun ls hl => ?_)
          refine lv_goto (tgt := 4) hx hb dX8_peopleWhoAre_40 (by decide) ?_
          exact ih _ _ _ _ u0 hx0 _ _ _ P (lv_sub hl [2, 3, 1, 0] rfl) h
def w_X8_peopleWhoAre (k0 : Nat) (a1 : Int32) (u0 : Mm) (Φ : Int32 → Mm → Prop) : Prop := (∃ n4 : Nat, w_X8_peopleWhoAre_4 Φ n4 k0 a1 ((0 : Int32)) ((0 : Int32)) u0)
set_option maxHeartbeats 4000000 in
set_option maxRecDepth 100000 in
theorem t_X8_peopleWhoAre_0 {p : Program} {l : Launch} {e : Env} {s : State} {m : MethodId} {args : Array Value} {below : List Frame} {meth : Method} {c : Code} {D : va_G} {cA : Nat → ClassId} {o : Nat}  {Φ : Int32 → Mm → Prop} (C : Cx p m meth c s args cX8_peopleWhoAre 4 wsX8_peopleWhoAre RX8 (some .int) D (tysL cA)) : ∀ (k0 : Nat) (a1 : Int32) (u0 : Mm), kd k0 = 8 → ∀ (H : Heap) (locs : List Loc) (ls : Array Slot), Hp 747 o D (EC cA o u0) s H locs → lv_has ls 4 [(0, .ref (o + k0)), (1, .int a1)] → w_X8_peopleWhoAre k0 a1 u0 Φ → W p l e rm_X8_peopleWhoAre s m args below meth c H locs 0 0 (MQ below (Qg vI Φ (fun μ => Wd 747 o D (tysL cA) (EC cA o μ)) (aA o 747)) args s 0 0 (aA o 747)) (F0 m 0 ls []) := by
  intro k0 a1 u0 hk0 H locs ls P hl h
  have hx := C.1.1
  have hb := C.1.2.1
  unfold w_X8_peopleWhoAre at h
  refine lv_iconst (v := 0) hx hb dX8_peopleWhoAre_0 (by decide) ?_
  refine lv_istore_n (lv' := [(2, .int (0 : Int32)), (0, .ref (o + k0)), (1, .int a1)]) hx hb dX8_peopleWhoAre_1 rfl hl (by decide) rfl (fun ls hl => ?_)
  refine lv_iconst (v := 0) hx hb dX8_peopleWhoAre_2 (by decide) ?_
  refine lv_istore_n (lv' := [(3, .int (0 : Int32)), (2, .int (0 : Int32)), (0, .ref (o + k0)), (1, .int a1)]) hx hb dX8_peopleWhoAre_3 rfl hl (by decide) rfl (fun ls hl => ?_)
  obtain ⟨n4, h⟩ := h
  exact t_X8_peopleWhoAre_4 C n4 _ _ _ _ u0 hk0 _ _ _ P (lv_sub hl [2, 3, 1, 0] rfl) h
set_option maxHeartbeats 4000000 in
set_option maxRecDepth 100000 in
theorem c_X8_peopleWhoAre (l : Launch) (D : va_G) (cA : Nat → ClassId) (o : Nat) (k0 : Nat) (a1 : Int32) (hk0 : kd k0 = 8) (u0 : Mm) (Φ : Int32 → Mm → Prop) (h : w_X8_peopleWhoAre k0 a1 u0 Φ) : Met l yX8_peopleWhoAre wsX8_peopleWhoAre rm_X8_peopleWhoAre (va_Pc [.ref (o + k0), .int a1] (Wd 747 o D (tysL cA) (EC cA o u0))) (Qg vI Φ (fun μ => Wd 747 o D (tysL cA) (EC cA o μ)) (aA o 747)) 0 0 (aA o 747) := by
  refine Met.ofW (cc := cX8_peopleWhoAre) (maxL := 4) (ret := (some .int)) (by decide) rfl ?_
  intro p e s m args below meth c s₁ B hml hv
  obtain ⟨rfl, hv⟩ := hv
  have hl := lv_entry ([.ref (o + k0), .int a1]) (n := 4) (Nat.le_of_ble_eq_true rfl)
  rw [lg_entry_eq]
  exact t_X8_peopleWhoAre_0 ⟨⟨B.exec, B.bytes, hml, findClass_of_methodNamed B.named, atoms_spec (ws := wsX8_peopleWhoAre) B.pre⟩, B.returns, B.notSynchronized, hv.2⟩ k0 a1 u0 hk0 _ _ _ ⟨hv.1, va_S.rf⟩ hl h
abbrev rm_X8_allRefusals : Room := { frames := 0, cells := 0, slots := 0, locals := 0 }
theorem wd_X8_allRefusals_1 : Cond.fieldLink RX8 50 "TurnstileBank$State" "gateCount" "I" ∈ wsX8_allRefusals := List.mem_of_getElem? (i := 1) (by decide +kernel)
theorem wd_X8_allRefusals_2 : Cond.fieldLink RX8 11 "TurnstileBank$State" "gates" "[LTurnstileBank$Gate;" ∈ wsX8_allRefusals := List.mem_of_getElem? (i := 2) (by decide +kernel)
theorem wd_X8_allRefusals_3 : Cond.fieldLink RX8 259 "TurnstileBank$Gate" "refused" "I" ∈ wsX8_allRefusals := List.mem_of_getElem? (i := 3) (by decide +kernel)
theorem in_X8_allRefusals_1 : ∀ w ∈ wsX10, w ∈ wsX8_allRefusals := fun w h => List.mem_cons_of_mem _ (List.mem_append_right _ h)
theorem in_X8_allRefusals_8 : ∀ w ∈ wsX80, w ∈ wsX8_allRefusals := fun w h => List.mem_cons_of_mem _ (List.mem_append_left _ (List.mem_append_right _ h))
def w_X8_allRefusals_4  (Φ : Int32 → Mm → Prop) : Nat → Nat → Int32 → Int32 → Mm → Prop
  | 0, _, _, _, _ => False
  | n + 1, x0, x1, x2, u0 => (if (u0 x0 5) ≤ x2 then (Φ x1 u0) else (if (8 : Int32) ≤ x2 then (Φ x1 u0) else (vp_in x2 8 ∧ (w_X8_allRefusals_4 Φ n x0 ((x1 + (u0 ((x0 + 10 + 5 * x2.toNatClampNeg)) 13))) ((x2 + 1)) u0))))
set_option maxHeartbeats 4000000 in
set_option maxRecDepth 100000 in
theorem t_X8_allRefusals_4 {p : Program} {l : Launch} {e : Env} {s : State} {m : MethodId} {args : Array Value} {below : List Frame} {meth : Method} {c : Code} {D : va_G} {cA : Nat → ClassId} {o : Nat}  {Φ : Int32 → Mm → Prop} (C : Cx p m meth c s args cX8_allRefusals 3 wsX8_allRefusals RX8 (some .int) D (tysL cA)) : ∀ n : Nat, ∀ (x0 : Nat) (x1 : Int32) (x2 : Int32) (u0 : Mm), kd x0 = 8 → ∀ (H : Heap) (locs : List Loc) (ls : Array Slot), Hp 747 o D (EC cA o u0) s H locs → lv_has ls 3 [(0, .ref (o + x0)), (1, .int x1), (2, .int x2)] → w_X8_allRefusals_4 Φ n x0 x1 x2 u0 → W p l e rm_X8_allRefusals s m args below meth c H locs 0 0 (MQ below (Qg vI Φ (fun μ => Wd 747 o D (tysL cA) (EC cA o μ)) (aA o 747)) args s 0 0 (aA o 747)) (F0 m 4 ls []) := by
  intro n
  induction n with
  | zero => intro x0 x1 x2 u0 hx0 H locs ls P hl h; exact h.elim
  | succ n ih =>
    intro x0 x1 x2 u0 hx0 H locs ls P hl h
    have hx := C.1.1
    have hb := C.1.2.1
    rw [w_X8_allRefusals_4] at h
    refine lv_iload_n hx hb dX8_allRefusals_4 rfl (lv_at hl 2 rfl) ?_
    refine lv_aload_n hx hb dX8_allRefusals_5 rfl (lv_at hl 0 rfl) ?_
    refine g_8_5 C P in_X8_allRefusals_8 wd_X8_allRefusals_1 hx0 dX8_allRefusals_6 ?_
    refine lv_icmp_ge (tgt := 39) hx hb dX8_allRefusals_9 (by decide) (fun c1 => ?_) (fun c1 => ?_)
    · have h := ite_t h c1
      refine lv_iload_n hx hb dX8_allRefusals_39 rfl (lv_at hl 1 rfl) ?_
      exact r_ireti C P h dX8_allRefusals_40
    · have h := ite_f h c1
      refine lv_iload_n hx hb dX8_allRefusals_12 rfl (lv_at hl 2 rfl) ?_
      refine lv_aload_n hx hb dX8_allRefusals_13 rfl (lv_at hl 0 rfl) ?_
      refine g_8_0 C P in_X8_allRefusals_8 wd_X8_allRefusals_2 hx0 dX8_allRefusals_14 ?_
      refine l_gate C P hx0 dX8_allRefusals_17 ?_
      refine lv_icmp_ge (tgt := 39) hx hb dX8_allRefusals_18 (by decide) (fun c2 => ?_) (fun c2 => ?_)
      · have h := ite_t h c2
        refine lv_iload_n hx hb dX8_allRefusals_39 rfl (lv_at hl 1 rfl) ?_
        exact r_ireti C P h dX8_allRefusals_40
      · have h := ite_f h c2
        refine lv_iload_n hx hb dX8_allRefusals_21 rfl (lv_at hl 1 rfl) ?_
        refine lv_aload_n hx hb dX8_allRefusals_22 rfl (lv_at hl 0 rfl) ?_
        refine g_8_0 C P in_X8_allRefusals_8 wd_X8_allRefusals_2 hx0 dX8_allRefusals_23 ?_
        refine lv_iload_n hx hb dX8_allRefusals_26 rfl (lv_at hl 2 rfl) ?_
        obtain ⟨hi, h⟩ := h
        have hk3 := kd_gate hx0 hi
        refine a_gate C P hx0 hi dX8_allRefusals_27 ?_
        refine g_1_13 C P in_X8_allRefusals_1 wd_X8_allRefusals_3 hk3 dX8_allRefusals_28 ?_
        refine lv_iadd hx hb dX8_allRefusals_31 ?_
        refine lv_istore_n (lv' := [(1, .int (x1 + (u0 ((x0 + 10 + 5 * x2.toNatClampNeg)) 13))), (0, .ref (o + x0)), (2, .int x2)]) hx hb dX8_allRefusals_32 rfl hl (by decide) rfl (fun ls hl => ?_)
        refine lv_iinc (v := (x2 + 1)) (lv' := [(2, .int (x2 + 1)), (1, .int (x1 + (u0 ((x0 + 10 + 5 * x2.toNatClampNeg)) 13))), (0, .ref (o + x0))]) hx hb dX8_allRefusals_33 hl (k := 2) rfl rfl (by decide) rfl (fun ls hl => ?_)
        refine lv_goto (tgt := 4) hx hb dX8_allRefusals_36 (by decide) ?_
        exact ih _ _ _ u0 hx0 _ _ _ P (lv_sub hl [2, 1, 0] rfl) h
def w_X8_allRefusals (k0 : Nat) (u0 : Mm) (Φ : Int32 → Mm → Prop) : Prop := (∃ n4 : Nat, w_X8_allRefusals_4 Φ n4 k0 ((0 : Int32)) ((0 : Int32)) u0)
set_option maxHeartbeats 4000000 in
set_option maxRecDepth 100000 in
theorem t_X8_allRefusals_0 {p : Program} {l : Launch} {e : Env} {s : State} {m : MethodId} {args : Array Value} {below : List Frame} {meth : Method} {c : Code} {D : va_G} {cA : Nat → ClassId} {o : Nat}  {Φ : Int32 → Mm → Prop} (C : Cx p m meth c s args cX8_allRefusals 3 wsX8_allRefusals RX8 (some .int) D (tysL cA)) : ∀ (k0 : Nat) (u0 : Mm), kd k0 = 8 → ∀ (H : Heap) (locs : List Loc) (ls : Array Slot), Hp 747 o D (EC cA o u0) s H locs → lv_has ls 3 [(0, .ref (o + k0))] → w_X8_allRefusals k0 u0 Φ → W p l e rm_X8_allRefusals s m args below meth c H locs 0 0 (MQ below (Qg vI Φ (fun μ => Wd 747 o D (tysL cA) (EC cA o μ)) (aA o 747)) args s 0 0 (aA o 747)) (F0 m 0 ls []) := by
  intro k0 u0 hk0 H locs ls P hl h
  have hx := C.1.1
  have hb := C.1.2.1
  unfold w_X8_allRefusals at h
  refine lv_iconst (v := 0) hx hb dX8_allRefusals_0 (by decide) ?_
  refine lv_istore_n (lv' := [(1, .int (0 : Int32)), (0, .ref (o + k0))]) hx hb dX8_allRefusals_1 rfl hl (by decide) rfl (fun ls hl => ?_)
  refine lv_iconst (v := 0) hx hb dX8_allRefusals_2 (by decide) ?_
  refine lv_istore_n (lv' := [(2, .int (0 : Int32)), (1, .int (0 : Int32)), (0, .ref (o + k0))]) hx hb dX8_allRefusals_3 rfl hl (by decide) rfl (fun ls hl => ?_)
  obtain ⟨n4, h⟩ := h
  exact t_X8_allRefusals_4 C n4 _ _ _ u0 hk0 _ _ _ P (lv_sub hl [2, 1, 0] rfl) h
set_option maxHeartbeats 4000000 in
set_option maxRecDepth 100000 in
theorem c_X8_allRefusals (l : Launch) (D : va_G) (cA : Nat → ClassId) (o : Nat) (k0 : Nat) (hk0 : kd k0 = 8) (u0 : Mm) (Φ : Int32 → Mm → Prop) (h : w_X8_allRefusals k0 u0 Φ) : Met l yX8_allRefusals wsX8_allRefusals rm_X8_allRefusals (va_Pc [.ref (o + k0)] (Wd 747 o D (tysL cA) (EC cA o u0))) (Qg vI Φ (fun μ => Wd 747 o D (tysL cA) (EC cA o μ)) (aA o 747)) 0 0 (aA o 747) := by
  refine Met.ofW (cc := cX8_allRefusals) (maxL := 3) (ret := (some .int)) (by decide) rfl ?_
  intro p e s m args below meth c s₁ B hml hv
  obtain ⟨rfl, hv⟩ := hv
  have hl := lv_entry ([.ref (o + k0)]) (n := 3) (Nat.le_of_ble_eq_true rfl)
  rw [lg_entry_eq]
  exact t_X8_allRefusals_0 ⟨⟨B.exec, B.bytes, hml, findClass_of_methodNamed B.named, atoms_spec (ws := wsX8_allRefusals) B.pre⟩, B.returns, B.notSynchronized, hv.2⟩ k0 u0 hk0 _ _ _ ⟨hv.1, va_S.rf⟩ hl h
abbrev rm_X8_allFares : Room := { frames := 0, cells := 0, slots := 0, locals := 0 }
theorem wd_X8_allFares_1 : Cond.fieldLink RX8 63 "TurnstileBank$State" "poolCount" "I" ∈ wsX8_allFares := List.mem_of_getElem? (i := 1) (by decide +kernel)
theorem wd_X8_allFares_2 : Cond.fieldLink RX8 25 "TurnstileBank$State" "pools" "[LTurnstileBank$Pool;" ∈ wsX8_allFares := List.mem_of_getElem? (i := 2) (by decide +kernel)
theorem wd_X8_allFares_3 : Cond.fieldLink RX8 278 "TurnstileBank$Pool" "paid" "I" ∈ wsX8_allFares := List.mem_of_getElem? (i := 3) (by decide +kernel)
theorem in_X8_allFares_6 : ∀ w ∈ wsX60, w ∈ wsX8_allFares := fun w h => List.mem_cons_of_mem _ (List.mem_append_right _ h)
theorem in_X8_allFares_8 : ∀ w ∈ wsX80, w ∈ wsX8_allFares := fun w h => List.mem_cons_of_mem _ (List.mem_append_left _ (List.mem_append_right _ h))
def w_X8_allFares_4  (Φ : Int32 → Mm → Prop) : Nat → Nat → Int32 → Int32 → Mm → Prop
  | 0, _, _, _, _ => False
  | n + 1, x0, x1, x2, u0 => (if (u0 x0 7) ≤ x2 then (Φ x1 u0) else (if (4 : Int32) ≤ x2 then (Φ x1 u0) else (vp_in x2 4 ∧ (w_X8_allFares_4 Φ n x0 ((x1 + (u0 ((x0 + 90 + x2.toNatClampNeg)) 4))) ((x2 + 1)) u0))))
set_option maxHeartbeats 4000000 in
set_option maxRecDepth 100000 in
theorem t_X8_allFares_4 {p : Program} {l : Launch} {e : Env} {s : State} {m : MethodId} {args : Array Value} {below : List Frame} {meth : Method} {c : Code} {D : va_G} {cA : Nat → ClassId} {o : Nat}  {Φ : Int32 → Mm → Prop} (C : Cx p m meth c s args cX8_allFares 3 wsX8_allFares RX8 (some .int) D (tysL cA)) : ∀ n : Nat, ∀ (x0 : Nat) (x1 : Int32) (x2 : Int32) (u0 : Mm), kd x0 = 8 → ∀ (H : Heap) (locs : List Loc) (ls : Array Slot), Hp 747 o D (EC cA o u0) s H locs → lv_has ls 3 [(0, .ref (o + x0)), (1, .int x1), (2, .int x2)] → w_X8_allFares_4 Φ n x0 x1 x2 u0 → W p l e rm_X8_allFares s m args below meth c H locs 0 0 (MQ below (Qg vI Φ (fun μ => Wd 747 o D (tysL cA) (EC cA o μ)) (aA o 747)) args s 0 0 (aA o 747)) (F0 m 4 ls []) := by
  intro n
  induction n with
  | zero => intro x0 x1 x2 u0 hx0 H locs ls P hl h; exact h.elim
  | succ n ih =>
    intro x0 x1 x2 u0 hx0 H locs ls P hl h
    have hx := C.1.1
    have hb := C.1.2.1
    rw [w_X8_allFares_4] at h
    refine lv_iload_n hx hb dX8_allFares_4 rfl (lv_at hl 2 rfl) ?_
    refine lv_aload_n hx hb dX8_allFares_5 rfl (lv_at hl 0 rfl) ?_
    refine g_8_7 C P in_X8_allFares_8 wd_X8_allFares_1 hx0 dX8_allFares_6 ?_
    refine lv_icmp_ge (tgt := 39) hx hb dX8_allFares_9 (by decide) (fun c1 => ?_) (fun c1 => ?_)
    · have h := ite_t h c1
      refine lv_iload_n hx hb dX8_allFares_39 rfl (lv_at hl 1 rfl) ?_
      exact r_ireti C P h dX8_allFares_40
    · have h := ite_f h c1
      refine lv_iload_n hx hb dX8_allFares_12 rfl (lv_at hl 2 rfl) ?_
      refine lv_aload_n hx hb dX8_allFares_13 rfl (lv_at hl 0 rfl) ?_
      refine g_8_2 C P in_X8_allFares_8 wd_X8_allFares_2 hx0 dX8_allFares_14 ?_
      refine l_pool C P hx0 dX8_allFares_17 ?_
      refine lv_icmp_ge (tgt := 39) hx hb dX8_allFares_18 (by decide) (fun c2 => ?_) (fun c2 => ?_)
      · have h := ite_t h c2
        refine lv_iload_n hx hb dX8_allFares_39 rfl (lv_at hl 1 rfl) ?_
        exact r_ireti C P h dX8_allFares_40
      · have h := ite_f h c2
        refine lv_iload_n hx hb dX8_allFares_21 rfl (lv_at hl 1 rfl) ?_
        refine lv_aload_n hx hb dX8_allFares_22 rfl (lv_at hl 0 rfl) ?_
        refine g_8_2 C P in_X8_allFares_8 wd_X8_allFares_2 hx0 dX8_allFares_23 ?_
        refine lv_iload_n hx hb dX8_allFares_26 rfl (lv_at hl 2 rfl) ?_
        obtain ⟨hi, h⟩ := h
        have hk3 := kd_pool hx0 hi
        refine a_pool C P hx0 hi dX8_allFares_27 ?_
        refine g_6_4 C P in_X8_allFares_6 wd_X8_allFares_3 hk3 dX8_allFares_28 ?_
        refine lv_iadd hx hb dX8_allFares_31 ?_
        refine lv_istore_n (lv' := [(1, .int (x1 + (u0 ((x0 + 90 + x2.toNatClampNeg)) 4))), (0, .ref (o + x0)), (2, .int x2)]) hx hb dX8_allFares_32 rfl hl (by decide) rfl (fun ls hl => ?_)
        refine lv_iinc (v := (x2 + 1)) (lv' := [(2, .int (x2 + 1)), (1, .int (x1 + (u0 ((x0 + 90 + x2.toNatClampNeg)) 4))), (0, .ref (o + x0))]) hx hb dX8_allFares_33 hl (k := 2) rfl rfl (by decide) rfl (fun ls hl => ?_)
        refine lv_goto (tgt := 4) hx hb dX8_allFares_36 (by decide) ?_
        exact ih _ _ _ u0 hx0 _ _ _ P (lv_sub hl [2, 1, 0] rfl) h
def w_X8_allFares (k0 : Nat) (u0 : Mm) (Φ : Int32 → Mm → Prop) : Prop := (∃ n4 : Nat, w_X8_allFares_4 Φ n4 k0 ((0 : Int32)) ((0 : Int32)) u0)
set_option maxHeartbeats 4000000 in
set_option maxRecDepth 100000 in
theorem t_X8_allFares_0 {p : Program} {l : Launch} {e : Env} {s : State} {m : MethodId} {args : Array Value} {below : List Frame} {meth : Method} {c : Code} {D : va_G} {cA : Nat → ClassId} {o : Nat}  {Φ : Int32 → Mm → Prop} (C : Cx p m meth c s args cX8_allFares 3 wsX8_allFares RX8 (some .int) D (tysL cA)) : ∀ (k0 : Nat) (u0 : Mm), kd k0 = 8 → ∀ (H : Heap) (locs : List Loc) (ls : Array Slot), Hp 747 o D (EC cA o u0) s H locs → lv_has ls 3 [(0, .ref (o + k0))] → w_X8_allFares k0 u0 Φ → W p l e rm_X8_allFares s m args below meth c H locs 0 0 (MQ below (Qg vI Φ (fun μ => Wd 747 o D (tysL cA) (EC cA o μ)) (aA o 747)) args s 0 0 (aA o 747)) (F0 m 0 ls []) := by
  intro k0 u0 hk0 H locs ls P hl h
  have hx := C.1.1
  have hb := C.1.2.1
  unfold w_X8_allFares at h
  refine lv_iconst (v := 0) hx hb dX8_allFares_0 (by decide) ?_
  refine lv_istore_n (lv' := [(1, .int (0 : Int32)), (0, .ref (o + k0))]) hx hb dX8_allFares_1 rfl hl (by decide) rfl (fun ls hl => ?_)
  refine lv_iconst (v := 0) hx hb dX8_allFares_2 (by decide) ?_
  refine lv_istore_n (lv' := [(2, .int (0 : Int32)), (1, .int (0 : Int32)), (0, .ref (o + k0))]) hx hb dX8_allFares_3 rfl hl (by decide) rfl (fun ls hl => ?_)
  obtain ⟨n4, h⟩ := h
  exact t_X8_allFares_4 C n4 _ _ _ u0 hk0 _ _ _ P (lv_sub hl [2, 1, 0] rfl) h
set_option maxHeartbeats 4000000 in
set_option maxRecDepth 100000 in
theorem c_X8_allFares (l : Launch) (D : va_G) (cA : Nat → ClassId) (o : Nat) (k0 : Nat) (hk0 : kd k0 = 8) (u0 : Mm) (Φ : Int32 → Mm → Prop) (h : w_X8_allFares k0 u0 Φ) : Met l yX8_allFares wsX8_allFares rm_X8_allFares (va_Pc [.ref (o + k0)] (Wd 747 o D (tysL cA) (EC cA o u0))) (Qg vI Φ (fun μ => Wd 747 o D (tysL cA) (EC cA o μ)) (aA o 747)) 0 0 (aA o 747) := by
  refine Met.ofW (cc := cX8_allFares) (maxL := 3) (ret := (some .int)) (by decide) rfl ?_
  intro p e s m args below meth c s₁ B hml hv
  obtain ⟨rfl, hv⟩ := hv
  have hl := lv_entry ([.ref (o + k0)]) (n := 3) (Nat.le_of_ble_eq_true rfl)
  rw [lg_entry_eq]
  exact t_X8_allFares_0 ⟨⟨B.exec, B.bytes, hml, findClass_of_methodNamed B.named, atoms_spec (ws := wsX8_allFares) B.pre⟩, B.returns, B.notSynchronized, hv.2⟩ k0 u0 hk0 _ _ _ ⟨hv.1, va_S.rf⟩ hl h
abbrev rm_X8_busiestGate : Room := { frames := 1, cells := 0, slots := 0, locals := 20 }
theorem wd_X8_busiestGate_1 : Cond.fieldLink RX8 50 "TurnstileBank$State" "gateCount" "I" ∈ wsX8_busiestGate := List.mem_of_getElem? (i := 1) (by decide +kernel)
theorem wd_X8_busiestGate_2 : Cond.fieldLink RX8 11 "TurnstileBank$State" "gates" "[LTurnstileBank$Gate;" ∈ wsX8_busiestGate := List.mem_of_getElem? (i := 2) (by decide +kernel)
theorem in_X8_busiestGate_8 : ∀ w ∈ wsX80, w ∈ wsX8_busiestGate := fun w h => List.mem_cons_of_mem _ (List.mem_append_left _ (List.mem_append_left _ (List.mem_append_right _ h)))
def w_X8_busiestGate_7  (Φ : Int32 → Mm → Prop) : Nat → Nat → Int32 → Int32 → Int32 → Mm → Prop
  | 0, _, _, _, _, _ => False
  | n + 1, x0, x1, x2, x3, u0 => (if (u0 x0 5) ≤ x3 then (Φ x1 u0) else (if (8 : Int32) ≤ x3 then (Φ x1 u0) else (vp_in x3 8 ∧ (w_X1_queuesTogether ((x0 + 10 + 5 * x3.toNatClampNeg)) u0 (fun r5 u4 => (if r5 ≤ x2 then (w_X8_busiestGate_7 Φ n x0 x1 x2 ((x3 + 1)) u4) else (vp_in x3 8 ∧ (w_X1_queuesTogether ((x0 + 10 + 5 * x3.toNatClampNeg)) u4 (fun r9 u8 => (w_X8_busiestGate_7 Φ n x0 x3 r9 ((x3 + 1)) u8))))))))))
set_option maxHeartbeats 4000000 in
set_option maxRecDepth 100000 in
theorem t_X8_busiestGate_7 {p : Program} {l : Launch} {e : Env} {s : State} {m : MethodId} {args : Array Value} {below : List Frame} {meth : Method} {c : Code} {D : va_G} {cA : Nat → ClassId} {o : Nat}  {Φ : Int32 → Mm → Prop} (C : Cx p m meth c s args cX8_busiestGate 4 wsX8_busiestGate RX8 (some .int) D (tysL cA)) : ∀ n : Nat, ∀ (x0 : Nat) (x1 : Int32) (x2 : Int32) (x3 : Int32) (u0 : Mm), kd x0 = 8 → ∀ (H : Heap) (locs : List Loc) (ls : Array Slot), Hp 747 o D (EC cA o u0) s H locs → lv_has ls 4 [(0, .ref (o + x0)), (1, .int x1), (2, .int x2), (3, .int x3)] → w_X8_busiestGate_7 Φ n x0 x1 x2 x3 u0 → W p l e rm_X8_busiestGate s m args below meth c H locs 0 0 (MQ below (Qg vI Φ (fun μ => Wd 747 o D (tysL cA) (EC cA o μ)) (aA o 747)) args s 0 0 (aA o 747)) (F0 m 7 ls []) := by
  intro n
  induction n with
  | zero => intro x0 x1 x2 x3 u0 hx0 H locs ls P hl h; exact h.elim
  | succ n ih =>
    intro x0 x1 x2 x3 u0 hx0 H locs ls P hl h
    have hx := C.1.1
    have hb := C.1.2.1
    rw [w_X8_busiestGate_7] at h
    refine lv_iload_n hx hb dX8_busiestGate_7 rfl (lv_at hl 3 rfl) ?_
    refine lv_aload_n hx hb dX8_busiestGate_8 rfl (lv_at hl 0 rfl) ?_
    refine g_8_5 C P in_X8_busiestGate_8 wd_X8_busiestGate_1 hx0 dX8_busiestGate_9 ?_
    refine lv_icmp_ge (tgt := 55) hx hb dX8_busiestGate_12 (by decide) (fun c1 => ?_) (fun c1 => ?_)
    · have h := ite_t h c1
      refine lv_iload_n hx hb dX8_busiestGate_55 rfl (lv_at hl 1 rfl) ?_
      exact r_ireti C P h dX8_busiestGate_56
    · have h := ite_f h c1
      refine lv_iload_n hx hb dX8_busiestGate_15 rfl (lv_at hl 3 rfl) ?_
      refine lv_aload_n hx hb dX8_busiestGate_16 rfl (lv_at hl 0 rfl) ?_
      refine g_8_0 C P in_X8_busiestGate_8 wd_X8_busiestGate_2 hx0 dX8_busiestGate_17 ?_
      refine l_gate C P hx0 dX8_busiestGate_20 ?_
      refine lv_icmp_ge (tgt := 55) hx hb dX8_busiestGate_21 (by decide) (fun c2 => ?_) (fun c2 => ?_)
      · have h := ite_t h c2
        refine lv_iload_n hx hb dX8_busiestGate_55 rfl (lv_at hl 1 rfl) ?_
        exact r_ireti C P h dX8_busiestGate_56
      · have h := ite_f h c2
        refine lv_aload_n hx hb dX8_busiestGate_24 rfl (lv_at hl 0 rfl) ?_
        refine g_8_0 C P in_X8_busiestGate_8 wd_X8_busiestGate_2 hx0 dX8_busiestGate_25 ?_
        refine lv_iload_n hx hb dX8_busiestGate_28 rfl (lv_at hl 3 rfl) ?_
        obtain ⟨hi, h⟩ := h
        have hk3 := kd_gate hx0 hi
        refine a_gate C P hx0 hi dX8_busiestGate_29 ?_
        refine r_calli (F := EC cA o) (va_runV (As := []) (rest := []) C.1 (c_X1_queuesTogether l D cA o _ hk3 u0 _ h) (cwV 0 C.1.2.2.2.2 gX8_busiestGate_X1_queuesTogether rfl rfl rfl (by decide +kernel) ⟨Nat.le_of_ble_eq_true rfl, Nat.le_of_ble_eq_true rfl⟩) (r_preV C P [] (ci := 1) rfl (kd_lt hk3 (by decide)) (EK_1 hk3)) rfl rfl hl.1 rfl (lv_room (Nat.le_of_ble_eq_true rfl)) dX8_busiestGate_30 ⟨Nat.le_of_ble_eq_true rfl, Nat.le_of_ble_eq_true rfl⟩) P.2 (fun r5 u4 H locs h P => ?_)
        refine lv_iload_n hx hb dX8_busiestGate_33 rfl (lv_at hl 2 rfl) ?_
        refine lv_icmp_le (tgt := 49) hx hb dX8_busiestGate_34 (by decide) (fun c6 => ?_) (fun c6 => ?_)
        · have h := ite_t h c6
          refine lv_iinc (v := (x3 + 1)) (lv' := [(3, .int (x3 + 1)), (0, .ref (o + x0)), (1, .int x1), (2, .int x2)]) hx hb dX8_busiestGate_49 hl (k := 3) rfl rfl (by decide) rfl (fun ls hl => ?_)
          refine lv_goto (tgt := 7) hx hb dX8_busiestGate_52 (by decide) ?_
          exact ih _ _ _ _ u4 hx0 _ _ _ P (lv_sub hl [1, 2, 3, 0] rfl) h
        · have h := ite_f h c6
          refine lv_iload_n hx hb dX8_busiestGate_37 rfl (lv_at hl 3 rfl) ?_
          refine lv_istore_n (lv' := [(1, .int x3), (0, .ref (o + x0)), (2, .int x2), (3, .int x3)]) hx hb dX8_busiestGate_38 rfl hl (by decide) rfl (fun ls hl => ?_)
          refine lv_aload_n hx hb dX8_busiestGate_39 rfl (lv_at hl 1 rfl) ?_
          refine g_8_0 C P in_X8_busiestGate_8 wd_X8_busiestGate_2 hx0 dX8_busiestGate_40 ?_
          refine lv_iload_n hx hb dX8_busiestGate_43 rfl (lv_at hl 3 rfl) ?_
          obtain ⟨hi, h⟩ := h
          have hk7 := kd_gate hx0 hi
          refine a_gate C P hx0 hi dX8_busiestGate_44 ?_
          refine r_calli (F := EC cA o) (va_runV (As := []) (rest := []) C.1 (c_X1_queuesTogether l D cA o _ hk7 u4 _ h) (cwV 0 C.1.2.2.2.2 gX8_busiestGate_X1_queuesTogether rfl rfl rfl (by decide +kernel) ⟨Nat.le_of_ble_eq_true rfl, Nat.le_of_ble_eq_true rfl⟩) (r_preV C P [] (ci := 1) rfl (kd_lt hk7 (by decide)) (EK_1 hk7)) rfl rfl hl.1 rfl (lv_room (Nat.le_of_ble_eq_true rfl)) dX8_busiestGate_45 ⟨Nat.le_of_ble_eq_true rfl, Nat.le_of_ble_eq_true rfl⟩) P.2 (fun r9 u8 H locs h P => ?_)
          refine lv_istore_n (lv' := [(2, .int r9), (1, .int x3), (0, .ref (o + x0)), (3, .int x3)]) hx hb dX8_busiestGate_48 rfl hl (by decide) rfl (fun ls hl => ?_)
          refine lv_iinc (v := (x3 + 1)) (lv' := [(3, .int (x3 + 1)), (2, .int r9), (1, .int x3), (0, .ref (o + x0))]) hx hb dX8_busiestGate_49 hl (k := 3) rfl rfl (by decide) rfl (fun ls hl => ?_)
          refine lv_goto (tgt := 7) hx hb dX8_busiestGate_52 (by decide) ?_
          exact ih _ _ _ _ u8 hx0 _ _ _ P (lv_sub hl [3, 2, 1, 0] rfl) h
def w_X8_busiestGate (k0 : Nat) (u0 : Mm) (Φ : Int32 → Mm → Prop) : Prop := (∃ n7 : Nat, w_X8_busiestGate_7 Φ n7 k0 ((-5 : Int32)) ((-1 : Int32)) ((0 : Int32)) u0)
set_option maxHeartbeats 4000000 in
set_option maxRecDepth 100000 in
theorem t_X8_busiestGate_0 {p : Program} {l : Launch} {e : Env} {s : State} {m : MethodId} {args : Array Value} {below : List Frame} {meth : Method} {c : Code} {D : va_G} {cA : Nat → ClassId} {o : Nat}  {Φ : Int32 → Mm → Prop} (C : Cx p m meth c s args cX8_busiestGate 4 wsX8_busiestGate RX8 (some .int) D (tysL cA)) : ∀ (k0 : Nat) (u0 : Mm), kd k0 = 8 → ∀ (H : Heap) (locs : List Loc) (ls : Array Slot), Hp 747 o D (EC cA o u0) s H locs → lv_has ls 4 [(0, .ref (o + k0))] → w_X8_busiestGate k0 u0 Φ → W p l e rm_X8_busiestGate s m args below meth c H locs 0 0 (MQ below (Qg vI Φ (fun μ => Wd 747 o D (tysL cA) (EC cA o μ)) (aA o 747)) args s 0 0 (aA o 747)) (F0 m 0 ls []) := by
  intro k0 u0 hk0 H locs ls P hl h
  have hx := C.1.1
  have hb := C.1.2.1
  unfold w_X8_busiestGate at h
  refine lv_bipush (v := -5) hx hb dX8_busiestGate_0 (by decide) ?_
  refine lv_istore_n (lv' := [(1, .int (-5 : Int32)), (0, .ref (o + k0))]) hx hb dX8_busiestGate_2 rfl hl (by decide) rfl (fun ls hl => ?_)
  refine lv_iconst (v := -1) hx hb dX8_busiestGate_3 (by decide) ?_
  refine lv_istore_n (lv' := [(2, .int (-1 : Int32)), (1, .int (-5 : Int32)), (0, .ref (o + k0))]) hx hb dX8_busiestGate_4 rfl hl (by decide) rfl (fun ls hl => ?_)
  refine lv_iconst (v := 0) hx hb dX8_busiestGate_5 (by decide) ?_
  refine lv_istore_n (lv' := [(3, .int (0 : Int32)), (2, .int (-1 : Int32)), (1, .int (-5 : Int32)), (0, .ref (o + k0))]) hx hb dX8_busiestGate_6 rfl hl (by decide) rfl (fun ls hl => ?_)
  obtain ⟨n7, h⟩ := h
  exact t_X8_busiestGate_7 C n7 _ _ _ _ u0 hk0 _ _ _ P (lv_sub hl [3, 2, 1, 0] rfl) h
set_option maxHeartbeats 4000000 in
set_option maxRecDepth 100000 in
theorem c_X8_busiestGate (l : Launch) (D : va_G) (cA : Nat → ClassId) (o : Nat) (k0 : Nat) (hk0 : kd k0 = 8) (u0 : Mm) (Φ : Int32 → Mm → Prop) (h : w_X8_busiestGate k0 u0 Φ) : Met l yX8_busiestGate wsX8_busiestGate rm_X8_busiestGate (va_Pc [.ref (o + k0)] (Wd 747 o D (tysL cA) (EC cA o u0))) (Qg vI Φ (fun μ => Wd 747 o D (tysL cA) (EC cA o μ)) (aA o 747)) 0 0 (aA o 747) := by
  refine Met.ofW (cc := cX8_busiestGate) (maxL := 4) (ret := (some .int)) (by decide) rfl ?_
  intro p e s m args below meth c s₁ B hml hv
  obtain ⟨rfl, hv⟩ := hv
  have hl := lv_entry ([.ref (o + k0)]) (n := 4) (Nat.le_of_ble_eq_true rfl)
  rw [lg_entry_eq]
  exact t_X8_busiestGate_0 ⟨⟨B.exec, B.bytes, hml, findClass_of_methodNamed B.named, atoms_spec (ws := wsX8_busiestGate) B.pre⟩, B.returns, B.notSynchronized, hv.2⟩ k0 u0 hk0 _ _ _ ⟨hv.1, va_S.rf⟩ hl h
abbrev rm_X9_recorded : Room := { frames := 3, cells := 0, slots := 0, locals := 63 }
theorem wd_X9_recorded_1 : Cond.fieldLink RX9 22 "TurnstileBank" "history" "LTurnstileBank$History;" ∈ wsX9_recorded := List.mem_of_getElem? (i := 1) (by decide +kernel)
theorem in_X9_recorded_9 : ∀ w ∈ wsX90, w ∈ wsX9_recorded := fun w h => List.mem_cons_of_mem _ (List.mem_append_left _ (List.mem_append_right _ h))
def w_X9_recorded (a1 : Int32) (u0 : Mm) (Φ : Int32 → Mm → Prop) : Prop := (if a1 < 0 then (Φ a1 u0) else (w_X2_keep u0 (fun _ u2 => (Φ a1 u2))))
set_option maxHeartbeats 4000000 in
set_option maxRecDepth 100000 in
theorem t_X9_recorded_0 {p : Program} {l : Launch} {e : Env} {s : State} {m : MethodId} {args : Array Value} {below : List Frame} {meth : Method} {c : Code} {D : va_G} {cA : Nat → ClassId} {o : Nat}  {Φ : Int32 → Mm → Prop} (C : Cx p m meth c s args cX9_recorded 2 wsX9_recorded RX9 (some .int) D (tysL cA)) : ∀ (a1 : Int32) (u0 : Mm), ∀ (H : Heap) (locs : List Loc) (ls : Array Slot), Hp 747 o D (EC cA o u0) s H locs → lv_has ls 2 [(0, .ref (o + 0)), (1, .int a1)] → w_X9_recorded a1 u0 Φ → W p l e rm_X9_recorded s m args below meth c H locs 0 0 (MQ below (Qg vI Φ (fun μ => Wd 747 o D (tysL cA) (EC cA o μ)) (aA o 747)) args s 0 0 (aA o 747)) (F0 m 0 ls []) := by
  intro a1 u0 H locs ls P hl h
  have hx := C.1.1
  have hb := C.1.2.1
  unfold w_X9_recorded at h
  refine lv_iload_n hx hb dX9_recorded_0 rfl (lv_at hl 1 rfl) ?_
  refine lv_if_lt (tgt := 11) hx hb dX9_recorded_1 (by decide) (fun c1 => ?_) (fun c1 => ?_)
  · have h := ite_t h c1
    refine lv_iload_n hx hb dX9_recorded_11 rfl (lv_at hl 1 rfl) ?_
    exact r_ireti C P h dX9_recorded_12
  · have h := ite_f h c1
    refine lv_aload_n hx hb dX9_recorded_4 rfl (lv_at hl 0 rfl) ?_
    refine g_9_2 C P in_X9_recorded_9 wd_X9_recorded_1 kd_at_0 dX9_recorded_5 ?_
    refine r_callv (F := EC cA o) (va_runV (As := []) (rest := []) C.1 (c_X2_keep l D cA o u0 _ h) (cwV 0 C.1.2.2.2.2 gX9_recorded_X2_keep rfl rfl rfl (by decide +kernel) ⟨Nat.le_of_ble_eq_true rfl, Nat.le_of_ble_eq_true rfl⟩) (r_preV C P [] (ci := 2) rfl (kd_lt kd_at_213 (by decide)) (EK_2 kd_at_213)) rfl rfl hl.1 rfl (lv_room (Nat.le_of_ble_eq_true rfl)) dX9_recorded_8 ⟨Nat.le_of_ble_eq_true rfl, Nat.le_of_ble_eq_true rfl⟩) P.2 (fun u2 H locs h P => ?_)
    refine lv_iload_n hx hb dX9_recorded_11 rfl (lv_at hl 1 rfl) ?_
    exact r_ireti C P h dX9_recorded_12
set_option maxHeartbeats 4000000 in
set_option maxRecDepth 100000 in
theorem c_X9_recorded (l : Launch) (D : va_G) (cA : Nat → ClassId) (o : Nat) (a1 : Int32)  (u0 : Mm) (Φ : Int32 → Mm → Prop) (h : w_X9_recorded a1 u0 Φ) : Met l yX9_recorded wsX9_recorded rm_X9_recorded (va_Pc [.ref (o + 0), .int a1] (Wd 747 o D (tysL cA) (EC cA o u0))) (Qg vI Φ (fun μ => Wd 747 o D (tysL cA) (EC cA o μ)) (aA o 747)) 0 0 (aA o 747) := by
  refine Met.ofW (cc := cX9_recorded) (maxL := 2) (ret := (some .int)) (by decide) rfl ?_
  intro p e s m args below meth c s₁ B hml hv
  obtain ⟨rfl, hv⟩ := hv
  have hl := lv_entry ([.ref (o + 0), .int a1]) (n := 2) (Nat.le_of_ble_eq_true rfl)
  rw [lg_entry_eq]
  exact t_X9_recorded_0 ⟨⟨B.exec, B.bytes, hml, findClass_of_methodNamed B.named, atoms_spec (ws := wsX9_recorded) B.pre⟩, B.returns, B.notSynchronized, hv.2⟩ a1 u0 _ _ _ ⟨hv.1, va_S.rf⟩ hl h
abbrev rm_X9_addGate : Room := { frames := 5, cells := 0, slots := 0, locals := 125 }
theorem wd_X9_addGate_1 : Cond.fieldLink RX9 22 "TurnstileBank" "history" "LTurnstileBank$History;" ∈ wsX9_addGate := List.mem_of_getElem? (i := 1) (by decide +kernel)
theorem wd_X9_addGate_2 : Cond.fieldLink RX9 10 "TurnstileBank" "now" "LTurnstileBank$State;" ∈ wsX9_addGate := List.mem_of_getElem? (i := 2) (by decide +kernel)
theorem in_X9_addGate_9 : ∀ w ∈ wsX90, w ∈ wsX9_addGate := fun w h => List.mem_cons_of_mem _ (List.mem_append_left _ (List.mem_append_left _ (List.mem_append_left _ (List.mem_append_left _ (List.mem_append_left _ (List.mem_append_left _ (List.mem_append_left _ (List.mem_append_left _ (List.mem_append_right _ h)))))))))
def w_X9_addGate (a1 : Int32) (a2 : Int32) (a3 : Int32) (a4 : Int32) (u0 : Mm) (Φ : Int32 → Mm → Prop) : Prop := (w_X2_prepare 1 u0 (fun _ u1 => (w_X8_newGate 1 a1 a2 a3 a4 u1 (fun r4 u3 => (w_X9_recorded r4 u3 (fun r6 u5 => (Φ r6 u5)))))))
set_option maxHeartbeats 4000000 in
set_option maxRecDepth 100000 in
theorem t_X9_addGate_0 {p : Program} {l : Launch} {e : Env} {s : State} {m : MethodId} {args : Array Value} {below : List Frame} {meth : Method} {c : Code} {D : va_G} {cA : Nat → ClassId} {o : Nat}  {Φ : Int32 → Mm → Prop} (C : Cx p m meth c s args cX9_addGate 5 wsX9_addGate RX9 (some .int) D (tysL cA)) : ∀ (a1 : Int32) (a2 : Int32) (a3 : Int32) (a4 : Int32) (u0 : Mm), ∀ (H : Heap) (locs : List Loc) (ls : Array Slot), Hp 747 o D (EC cA o u0) s H locs → lv_has ls 5 [(0, .ref (o + 0)), (1, .int a1), (2, .int a2), (3, .int a3), (4, .int a4)] → w_X9_addGate a1 a2 a3 a4 u0 Φ → W p l e rm_X9_addGate s m args below meth c H locs 0 0 (MQ below (Qg vI Φ (fun μ => Wd 747 o D (tysL cA) (EC cA o μ)) (aA o 747)) args s 0 0 (aA o 747)) (F0 m 0 ls []) := by
  intro a1 a2 a3 a4 u0 H locs ls P hl h
  have hx := C.1.1
  have hb := C.1.2.1
  unfold w_X9_addGate at h
  refine lv_aload_n hx hb dX9_addGate_0 rfl (lv_at hl 0 rfl) ?_
  refine g_9_2 C P in_X9_addGate_9 wd_X9_addGate_1 kd_at_0 dX9_addGate_1 ?_
  refine lv_aload_n hx hb dX9_addGate_4 rfl (lv_at hl 0 rfl) ?_
  refine g_9_0 C P in_X9_addGate_9 wd_X9_addGate_2 kd_at_0 dX9_addGate_5 ?_
  refine r_callv (F := EC cA o) (va_runV (As := [.ref (o + 1)]) (rest := []) C.1 (c_X2_prepare l D cA o _ kd_at_1 u0 _ h) (cwV 1 C.1.2.2.2.2 gX9_addGate_X2_prepare rfl rfl rfl (by decide +kernel) ⟨Nat.le_of_ble_eq_true rfl, Nat.le_of_ble_eq_true rfl⟩) (r_preV C P [.ref (o + 1)] (ci := 2) rfl (kd_lt kd_at_213 (by decide)) (EK_2 kd_at_213)) rfl rfl hl.1 rfl (lv_room (Nat.le_of_ble_eq_true rfl)) dX9_addGate_8 ⟨Nat.le_of_ble_eq_true rfl, Nat.le_of_ble_eq_true rfl⟩) P.2 (fun u1 H locs h P => ?_)
  refine lv_aload_n hx hb dX9_addGate_11 rfl (lv_at hl 0 rfl) ?_
  refine lv_aload_n hx hb dX9_addGate_12 rfl (lv_at hl 0 rfl) ?_
  refine g_9_0 C P in_X9_addGate_9 wd_X9_addGate_2 kd_at_0 dX9_addGate_13 ?_
  refine lv_iload_n hx hb dX9_addGate_16 rfl (lv_at hl 1 rfl) ?_
  refine lv_iload_n hx hb dX9_addGate_17 rfl (lv_at hl 2 rfl) ?_
  refine lv_iload_n hx hb dX9_addGate_18 rfl (lv_at hl 3 rfl) ?_
  refine lv_iload hx hb dX9_addGate_19 (lv_at hl 4 rfl) ?_
  refine r_calli (F := EC cA o) (va_runV (As := [.int a1, .int a2, .int a3, .int a4]) (rest := [.ref (o + 0)]) C.1 (c_X8_newGate l D cA o _ _ _ _ _ kd_at_1 u1 _ h) (cwV 4 C.1.2.2.2.2 gX9_addGate_X8_newGate rfl rfl rfl (by decide +kernel) ⟨Nat.le_of_ble_eq_true rfl, Nat.le_of_ble_eq_true rfl⟩) (r_preV C P [.int a1, .int a2, .int a3, .int a4] (ci := 8) rfl (kd_lt kd_at_1 (by decide)) (EK_8 kd_at_1)) rfl rfl hl.1 rfl (lv_room (Nat.le_of_ble_eq_true rfl)) dX9_addGate_21 ⟨Nat.le_of_ble_eq_true rfl, Nat.le_of_ble_eq_true rfl⟩) P.2 (fun r4 u3 H locs h P => ?_)
  refine r_calli (F := EC cA o) (va_runV (As := [.int r4]) (rest := []) C.1 (c_X9_recorded l D cA o _ u3 _ h) (cwV 1 C.1.2.2.2.2 gX9_addGate_X9_recorded rfl rfl rfl (by decide +kernel) ⟨Nat.le_of_ble_eq_true rfl, Nat.le_of_ble_eq_true rfl⟩) (r_preV C P [.int r4] (ci := 9) rfl (kd_lt kd_at_0 (by decide)) (EK_9 kd_at_0)) rfl rfl hl.1 rfl (lv_room (Nat.le_of_ble_eq_true rfl)) dX9_addGate_24 ⟨Nat.le_of_ble_eq_true rfl, Nat.le_of_ble_eq_true rfl⟩) P.2 (fun r6 u5 H locs h P => ?_)
  exact r_ireti C P h dX9_addGate_27
set_option maxHeartbeats 4000000 in
set_option maxRecDepth 100000 in
theorem c_X9_addGate (l : Launch) (D : va_G) (cA : Nat → ClassId) (o : Nat) (a1 : Int32) (a2 : Int32) (a3 : Int32) (a4 : Int32)  (u0 : Mm) (Φ : Int32 → Mm → Prop) (h : w_X9_addGate a1 a2 a3 a4 u0 Φ) : Met l yX9_addGate wsX9_addGate rm_X9_addGate (va_Pc [.ref (o + 0), .int a1, .int a2, .int a3, .int a4] (Wd 747 o D (tysL cA) (EC cA o u0))) (Qg vI Φ (fun μ => Wd 747 o D (tysL cA) (EC cA o μ)) (aA o 747)) 0 0 (aA o 747) := by
  refine Met.ofW (cc := cX9_addGate) (maxL := 5) (ret := (some .int)) (by decide) rfl ?_
  intro p e s m args below meth c s₁ B hml hv
  obtain ⟨rfl, hv⟩ := hv
  have hl := lv_entry ([.ref (o + 0), .int a1, .int a2, .int a3, .int a4]) (n := 5) (Nat.le_of_ble_eq_true rfl)
  rw [lg_entry_eq]
  exact t_X9_addGate_0 ⟨⟨B.exec, B.bytes, hml, findClass_of_methodNamed B.named, atoms_spec (ws := wsX9_addGate) B.pre⟩, B.returns, B.notSynchronized, hv.2⟩ a1 a2 a3 a4 u0 _ _ _ ⟨hv.1, va_S.rf⟩ hl h
abbrev rm_X9_setDirection : Room := { frames := 5, cells := 0, slots := 0, locals := 125 }
theorem wd_X9_setDirection_1 : Cond.fieldLink RX9 22 "TurnstileBank" "history" "LTurnstileBank$History;" ∈ wsX9_setDirection := List.mem_of_getElem? (i := 1) (by decide +kernel)
theorem wd_X9_setDirection_2 : Cond.fieldLink RX9 10 "TurnstileBank" "now" "LTurnstileBank$State;" ∈ wsX9_setDirection := List.mem_of_getElem? (i := 2) (by decide +kernel)
theorem in_X9_setDirection_9 : ∀ w ∈ wsX90, w ∈ wsX9_setDirection := fun w h => List.mem_cons_of_mem _ (List.mem_append_left _ (List.mem_append_left _ (List.mem_append_left _ (List.mem_append_left _ (List.mem_append_left _ (List.mem_append_left _ (List.mem_append_left _ (List.mem_append_left _ (List.mem_append_right _ h)))))))))
def w_X9_setDirection (a1 : Int32) (a2 : Int32) (u0 : Mm) (Φ : Int32 → Mm → Prop) : Prop := (w_X2_prepare 1 u0 (fun _ u1 => (w_X8_turnGate 1 a1 a2 u1 (fun r4 u3 => (w_X9_recorded r4 u3 (fun r6 u5 => (Φ r6 u5)))))))
set_option maxHeartbeats 4000000 in
set_option maxRecDepth 100000 in
theorem t_X9_setDirection_0 {p : Program} {l : Launch} {e : Env} {s : State} {m : MethodId} {args : Array Value} {below : List Frame} {meth : Method} {c : Code} {D : va_G} {cA : Nat → ClassId} {o : Nat}  {Φ : Int32 → Mm → Prop} (C : Cx p m meth c s args cX9_setDirection 3 wsX9_setDirection RX9 (some .int) D (tysL cA)) : ∀ (a1 : Int32) (a2 : Int32) (u0 : Mm), ∀ (H : Heap) (locs : List Loc) (ls : Array Slot), Hp 747 o D (EC cA o u0) s H locs → lv_has ls 3 [(0, .ref (o + 0)), (1, .int a1), (2, .int a2)] → w_X9_setDirection a1 a2 u0 Φ → W p l e rm_X9_setDirection s m args below meth c H locs 0 0 (MQ below (Qg vI Φ (fun μ => Wd 747 o D (tysL cA) (EC cA o μ)) (aA o 747)) args s 0 0 (aA o 747)) (F0 m 0 ls []) := by
  intro a1 a2 u0 H locs ls P hl h
  have hx := C.1.1
  have hb := C.1.2.1
  unfold w_X9_setDirection at h
  refine lv_aload_n hx hb dX9_setDirection_0 rfl (lv_at hl 0 rfl) ?_
  refine g_9_2 C P in_X9_setDirection_9 wd_X9_setDirection_1 kd_at_0 dX9_setDirection_1 ?_
  refine lv_aload_n hx hb dX9_setDirection_4 rfl (lv_at hl 0 rfl) ?_
  refine g_9_0 C P in_X9_setDirection_9 wd_X9_setDirection_2 kd_at_0 dX9_setDirection_5 ?_
  refine r_callv (F := EC cA o) (va_runV (As := [.ref (o + 1)]) (rest := []) C.1 (c_X2_prepare l D cA o _ kd_at_1 u0 _ h) (cwV 1 C.1.2.2.2.2 gX9_setDirection_X2_prepare rfl rfl rfl (by decide +kernel) ⟨Nat.le_of_ble_eq_true rfl, Nat.le_of_ble_eq_true rfl⟩) (r_preV C P [.ref (o + 1)] (ci := 2) rfl (kd_lt kd_at_213 (by decide)) (EK_2 kd_at_213)) rfl rfl hl.1 rfl (lv_room (Nat.le_of_ble_eq_true rfl)) dX9_setDirection_8 ⟨Nat.le_of_ble_eq_true rfl, Nat.le_of_ble_eq_true rfl⟩) P.2 (fun u1 H locs h P => ?_)
  refine lv_aload_n hx hb dX9_setDirection_11 rfl (lv_at hl 0 rfl) ?_
  refine lv_aload_n hx hb dX9_setDirection_12 rfl (lv_at hl 0 rfl) ?_
  refine g_9_0 C P in_X9_setDirection_9 wd_X9_setDirection_2 kd_at_0 dX9_setDirection_13 ?_
  refine lv_iload_n hx hb dX9_setDirection_16 rfl (lv_at hl 1 rfl) ?_
  refine lv_iload_n hx hb dX9_setDirection_17 rfl (lv_at hl 2 rfl) ?_
  refine r_calli (F := EC cA o) (va_runV (As := [.int a1, .int a2]) (rest := [.ref (o + 0)]) C.1 (c_X8_turnGate l D cA o _ _ _ kd_at_1 u1 _ h) (cwV 2 C.1.2.2.2.2 gX9_setDirection_X8_turnGate rfl rfl rfl (by decide +kernel) ⟨Nat.le_of_ble_eq_true rfl, Nat.le_of_ble_eq_true rfl⟩) (r_preV C P [.int a1, .int a2] (ci := 8) rfl (kd_lt kd_at_1 (by decide)) (EK_8 kd_at_1)) rfl rfl hl.1 rfl (lv_room (Nat.le_of_ble_eq_true rfl)) dX9_setDirection_18 ⟨Nat.le_of_ble_eq_true rfl, Nat.le_of_ble_eq_true rfl⟩) P.2 (fun r4 u3 H locs h P => ?_)
  refine r_calli (F := EC cA o) (va_runV (As := [.int r4]) (rest := []) C.1 (c_X9_recorded l D cA o _ u3 _ h) (cwV 1 C.1.2.2.2.2 gX9_setDirection_X9_recorded rfl rfl rfl (by decide +kernel) ⟨Nat.le_of_ble_eq_true rfl, Nat.le_of_ble_eq_true rfl⟩) (r_preV C P [.int r4] (ci := 9) rfl (kd_lt kd_at_0 (by decide)) (EK_9 kd_at_0)) rfl rfl hl.1 rfl (lv_room (Nat.le_of_ble_eq_true rfl)) dX9_setDirection_21 ⟨Nat.le_of_ble_eq_true rfl, Nat.le_of_ble_eq_true rfl⟩) P.2 (fun r6 u5 H locs h P => ?_)
  exact r_ireti C P h dX9_setDirection_24
set_option maxHeartbeats 4000000 in
set_option maxRecDepth 100000 in
theorem c_X9_setDirection (l : Launch) (D : va_G) (cA : Nat → ClassId) (o : Nat) (a1 : Int32) (a2 : Int32)  (u0 : Mm) (Φ : Int32 → Mm → Prop) (h : w_X9_setDirection a1 a2 u0 Φ) : Met l yX9_setDirection wsX9_setDirection rm_X9_setDirection (va_Pc [.ref (o + 0), .int a1, .int a2] (Wd 747 o D (tysL cA) (EC cA o u0))) (Qg vI Φ (fun μ => Wd 747 o D (tysL cA) (EC cA o μ)) (aA o 747)) 0 0 (aA o 747) := by
  refine Met.ofW (cc := cX9_setDirection) (maxL := 3) (ret := (some .int)) (by decide) rfl ?_
  intro p e s m args below meth c s₁ B hml hv
  obtain ⟨rfl, hv⟩ := hv
  have hl := lv_entry ([.ref (o + 0), .int a1, .int a2]) (n := 3) (Nat.le_of_ble_eq_true rfl)
  rw [lg_entry_eq]
  exact t_X9_setDirection_0 ⟨⟨B.exec, B.bytes, hml, findClass_of_methodNamed B.named, atoms_spec (ws := wsX9_setDirection) B.pre⟩, B.returns, B.notSynchronized, hv.2⟩ a1 a2 u0 _ _ _ ⟨hv.1, va_S.rf⟩ hl h
abbrev rm_X9_addPool : Room := { frames := 5, cells := 0, slots := 0, locals := 125 }
theorem wd_X9_addPool_1 : Cond.fieldLink RX9 22 "TurnstileBank" "history" "LTurnstileBank$History;" ∈ wsX9_addPool := List.mem_of_getElem? (i := 1) (by decide +kernel)
theorem wd_X9_addPool_2 : Cond.fieldLink RX9 10 "TurnstileBank" "now" "LTurnstileBank$State;" ∈ wsX9_addPool := List.mem_of_getElem? (i := 2) (by decide +kernel)
theorem in_X9_addPool_9 : ∀ w ∈ wsX90, w ∈ wsX9_addPool := fun w h => List.mem_cons_of_mem _ (List.mem_append_left _ (List.mem_append_left _ (List.mem_append_left _ (List.mem_append_left _ (List.mem_append_left _ (List.mem_append_left _ (List.mem_append_left _ (List.mem_append_left _ (List.mem_append_right _ h)))))))))
def w_X9_addPool (a1 : Int32) (u0 : Mm) (Φ : Int32 → Mm → Prop) : Prop := (w_X2_prepare 1 u0 (fun _ u1 => (w_X8_newPool 1 a1 u1 (fun r4 u3 => (w_X9_recorded r4 u3 (fun r6 u5 => (Φ r6 u5)))))))
set_option maxHeartbeats 4000000 in
set_option maxRecDepth 100000 in
theorem t_X9_addPool_0 {p : Program} {l : Launch} {e : Env} {s : State} {m : MethodId} {args : Array Value} {below : List Frame} {meth : Method} {c : Code} {D : va_G} {cA : Nat → ClassId} {o : Nat}  {Φ : Int32 → Mm → Prop} (C : Cx p m meth c s args cX9_addPool 2 wsX9_addPool RX9 (some .int) D (tysL cA)) : ∀ (a1 : Int32) (u0 : Mm), ∀ (H : Heap) (locs : List Loc) (ls : Array Slot), Hp 747 o D (EC cA o u0) s H locs → lv_has ls 2 [(0, .ref (o + 0)), (1, .int a1)] → w_X9_addPool a1 u0 Φ → W p l e rm_X9_addPool s m args below meth c H locs 0 0 (MQ below (Qg vI Φ (fun μ => Wd 747 o D (tysL cA) (EC cA o μ)) (aA o 747)) args s 0 0 (aA o 747)) (F0 m 0 ls []) := by
  intro a1 u0 H locs ls P hl h
  have hx := C.1.1
  have hb := C.1.2.1
  unfold w_X9_addPool at h
  refine lv_aload_n hx hb dX9_addPool_0 rfl (lv_at hl 0 rfl) ?_
  refine g_9_2 C P in_X9_addPool_9 wd_X9_addPool_1 kd_at_0 dX9_addPool_1 ?_
  refine lv_aload_n hx hb dX9_addPool_4 rfl (lv_at hl 0 rfl) ?_
  refine g_9_0 C P in_X9_addPool_9 wd_X9_addPool_2 kd_at_0 dX9_addPool_5 ?_
  refine r_callv (F := EC cA o) (va_runV (As := [.ref (o + 1)]) (rest := []) C.1 (c_X2_prepare l D cA o _ kd_at_1 u0 _ h) (cwV 1 C.1.2.2.2.2 gX9_addPool_X2_prepare rfl rfl rfl (by decide +kernel) ⟨Nat.le_of_ble_eq_true rfl, Nat.le_of_ble_eq_true rfl⟩) (r_preV C P [.ref (o + 1)] (ci := 2) rfl (kd_lt kd_at_213 (by decide)) (EK_2 kd_at_213)) rfl rfl hl.1 rfl (lv_room (Nat.le_of_ble_eq_true rfl)) dX9_addPool_8 ⟨Nat.le_of_ble_eq_true rfl, Nat.le_of_ble_eq_true rfl⟩) P.2 (fun u1 H locs h P => ?_)
  refine lv_aload_n hx hb dX9_addPool_11 rfl (lv_at hl 0 rfl) ?_
  refine lv_aload_n hx hb dX9_addPool_12 rfl (lv_at hl 0 rfl) ?_
  refine g_9_0 C P in_X9_addPool_9 wd_X9_addPool_2 kd_at_0 dX9_addPool_13 ?_
  refine lv_iload_n hx hb dX9_addPool_16 rfl (lv_at hl 1 rfl) ?_
  refine r_calli (F := EC cA o) (va_runV (As := [.int a1]) (rest := [.ref (o + 0)]) C.1 (c_X8_newPool l D cA o _ _ kd_at_1 u1 _ h) (cwV 1 C.1.2.2.2.2 gX9_addPool_X8_newPool rfl rfl rfl (by decide +kernel) ⟨Nat.le_of_ble_eq_true rfl, Nat.le_of_ble_eq_true rfl⟩) (r_preV C P [.int a1] (ci := 8) rfl (kd_lt kd_at_1 (by decide)) (EK_8 kd_at_1)) rfl rfl hl.1 rfl (lv_room (Nat.le_of_ble_eq_true rfl)) dX9_addPool_17 ⟨Nat.le_of_ble_eq_true rfl, Nat.le_of_ble_eq_true rfl⟩) P.2 (fun r4 u3 H locs h P => ?_)
  refine r_calli (F := EC cA o) (va_runV (As := [.int r4]) (rest := []) C.1 (c_X9_recorded l D cA o _ u3 _ h) (cwV 1 C.1.2.2.2.2 gX9_addPool_X9_recorded rfl rfl rfl (by decide +kernel) ⟨Nat.le_of_ble_eq_true rfl, Nat.le_of_ble_eq_true rfl⟩) (r_preV C P [.int r4] (ci := 9) rfl (kd_lt kd_at_0 (by decide)) (EK_9 kd_at_0)) rfl rfl hl.1 rfl (lv_room (Nat.le_of_ble_eq_true rfl)) dX9_addPool_20 ⟨Nat.le_of_ble_eq_true rfl, Nat.le_of_ble_eq_true rfl⟩) P.2 (fun r6 u5 H locs h P => ?_)
  exact r_ireti C P h dX9_addPool_23
set_option maxHeartbeats 4000000 in
set_option maxRecDepth 100000 in
theorem c_X9_addPool (l : Launch) (D : va_G) (cA : Nat → ClassId) (o : Nat) (a1 : Int32)  (u0 : Mm) (Φ : Int32 → Mm → Prop) (h : w_X9_addPool a1 u0 Φ) : Met l yX9_addPool wsX9_addPool rm_X9_addPool (va_Pc [.ref (o + 0), .int a1] (Wd 747 o D (tysL cA) (EC cA o u0))) (Qg vI Φ (fun μ => Wd 747 o D (tysL cA) (EC cA o μ)) (aA o 747)) 0 0 (aA o 747) := by
  refine Met.ofW (cc := cX9_addPool) (maxL := 2) (ret := (some .int)) (by decide) rfl ?_
  intro p e s m args below meth c s₁ B hml hv
  obtain ⟨rfl, hv⟩ := hv
  have hl := lv_entry ([.ref (o + 0), .int a1]) (n := 2) (Nat.le_of_ble_eq_true rfl)
  rw [lg_entry_eq]
  exact t_X9_addPool_0 ⟨⟨B.exec, B.bytes, hml, findClass_of_methodNamed B.named, atoms_spec (ws := wsX9_addPool) B.pre⟩, B.returns, B.notSynchronized, hv.2⟩ a1 u0 _ _ _ ⟨hv.1, va_S.rf⟩ hl h
