abbrev rm_X8_reasonToRefuse : Room := { frames := 1, cells := 0, slots := 0, locals := 21 }
theorem wd_X8_reasonToRefuse_1 : Cond.fieldLink RX8 230 "TurnstileBank$Person" "pass" "I" ∈ wsX8_reasonToRefuse := List.mem_of_getElem? (i := 1) (by decide +kernel)
theorem wd_X8_reasonToRefuse_2 : Cond.fieldLink RX8 242 "TurnstileBank$Pass" "pool" "I" ∈ wsX8_reasonToRefuse := List.mem_of_getElem? (i := 2) (by decide +kernel)
theorem wd_X8_reasonToRefuse_3 : Cond.fieldLink RX8 115 "TurnstileBank$Pass" "blocked" "Z" ∈ wsX8_reasonToRefuse := List.mem_of_getElem? (i := 3) (by decide +kernel)
theorem wd_X8_reasonToRefuse_4 : Cond.fieldLink RX8 239 "TurnstileBank$Pass" "user" "I" ∈ wsX8_reasonToRefuse := List.mem_of_getElem? (i := 4) (by decide +kernel)
theorem wd_X8_reasonToRefuse_5 : Cond.fieldLink RX8 245 "TurnstileBank$Pool" "inside" "I" ∈ wsX8_reasonToRefuse := List.mem_of_getElem? (i := 5) (by decide +kernel)
theorem wd_X8_reasonToRefuse_6 : Cond.fieldLink RX8 275 "TurnstileBank$Pool" "limit" "I" ∈ wsX8_reasonToRefuse := List.mem_of_getElem? (i := 6) (by decide +kernel)
theorem wd_X8_reasonToRefuse_7 : Cond.fieldLink RX8 104 "TurnstileBank$Pool" "credit" "I" ∈ wsX8_reasonToRefuse := List.mem_of_getElem? (i := 7) (by decide +kernel)
theorem wd_X8_reasonToRefuse_8 : Cond.fieldLink RX8 42 "TurnstileBank$State" "fare" "I" ∈ wsX8_reasonToRefuse := List.mem_of_getElem? (i := 8) (by decide +kernel)
theorem in_X8_reasonToRefuse_4 : ∀ w ∈ wsX40, w ∈ wsX8_reasonToRefuse := fun w h => List.mem_cons_of_mem _ (List.mem_append_left _ (List.mem_append_left _ (List.mem_append_right _ h)))
theorem in_X8_reasonToRefuse_5 : ∀ w ∈ wsX50, w ∈ wsX8_reasonToRefuse := fun w h => List.mem_cons_of_mem _ (List.mem_append_left _ (List.mem_append_left _ (List.mem_append_left _ (List.mem_append_right _ h))))
theorem in_X8_reasonToRefuse_6 : ∀ w ∈ wsX60, w ∈ wsX8_reasonToRefuse := fun w h => List.mem_cons_of_mem _ (List.mem_append_left _ (List.mem_append_right _ h))
theorem in_X8_reasonToRefuse_8 : ∀ w ∈ wsX80, w ∈ wsX8_reasonToRefuse := fun w h => List.mem_cons_of_mem _ (List.mem_append_right _ h)
def w_X8_reasonToRefuse_25  (Φ : Int32 → Mm → Prop) (x0 : Nat) (u0 : Mm) : Prop := (Φ ((1 : Int32)) u0)
set_option maxHeartbeats 4000000 in
set_option maxRecDepth 100000 in
theorem t_X8_reasonToRefuse_25 {p : Program} {l : Launch} {e : Env} {s : State} {m : MethodId} {args : Array Value} {below : List Frame} {meth : Method} {c : Code} {D : va_G} {cA : Nat → ClassId} {o : Nat}  {Φ : Int32 → Mm → Prop} (C : Cx p m meth c s args cX8_reasonToRefuse 4 wsX8_reasonToRefuse RX8 (some .int) D (tysL cA)) : ∀ (x0 : Nat) (u0 : Mm), kd x0 = 8 → ∀ (H : Heap) (locs : List Loc) (ls : Array Slot), Hp 747 o D (EC cA o u0) s H locs → lv_has ls 4 [(0, .ref (o + x0)), (2, .null)] → w_X8_reasonToRefuse_25 Φ x0 u0 → W p l e rm_X8_reasonToRefuse s m args below meth c H locs 0 0 (MQ below (Qg vI Φ (fun μ => Wd 747 o D (tysL cA) (EC cA o μ)) (aA o 747)) args s 0 0 (aA o 747)) (F0 m 25 ls [.null]) := by
  intro x0 u0 hx0 H locs ls P hl h
  have hx := C.1.1
  have hb := C.1.2.1
  unfold w_X8_reasonToRefuse_25 at h
  refine lv_astore_nN (lv' := [(3, .null), (0, .ref (o + x0)), (2, .null)]) hx hb dX8_reasonToRefuse_25 rfl hl (by decide) rfl (fun ls hl => ?_)
  refine lv_aload_nN hx hb dX8_reasonToRefuse_26 rfl (lv_at hl 2 rfl) ?_
  refine lv_ifnullN (tgt := 34) hx hb dX8_reasonToRefuse_27 (by decide) ?_
  refine lv_iconst (v := 1) hx hb dX8_reasonToRefuse_34 (by decide) ?_
  exact r_ireti C P h dX8_reasonToRefuse_35
def w_X8_reasonToRefuse_25b  (Φ : Int32 → Mm → Prop) (x0 : Nat) (x2 : Nat) (u0 : Mm) : Prop := (Φ ((1 : Int32)) u0)
set_option maxHeartbeats 4000000 in
set_option maxRecDepth 100000 in
theorem t_X8_reasonToRefuse_25b {p : Program} {l : Launch} {e : Env} {s : State} {m : MethodId} {args : Array Value} {below : List Frame} {meth : Method} {c : Code} {D : va_G} {cA : Nat → ClassId} {o : Nat}  {Φ : Int32 → Mm → Prop} (C : Cx p m meth c s args cX8_reasonToRefuse 4 wsX8_reasonToRefuse RX8 (some .int) D (tysL cA)) : ∀ (x0 : Nat) (x2 : Nat) (u0 : Mm), kd x0 = 8 → kd x2 = 4 → ∀ (H : Heap) (locs : List Loc) (ls : Array Slot), Hp 747 o D (EC cA o u0) s H locs → lv_has ls 4 [(0, .ref (o + x0)), (2, .ref (o + x2))] → w_X8_reasonToRefuse_25b Φ x0 x2 u0 → W p l e rm_X8_reasonToRefuse s m args below meth c H locs 0 0 (MQ below (Qg vI Φ (fun μ => Wd 747 o D (tysL cA) (EC cA o μ)) (aA o 747)) args s 0 0 (aA o 747)) (F0 m 25 ls [.null]) := by
  intro x0 x2 u0 hx0 hx2 H locs ls P hl h
  have hx := C.1.1
  have hb := C.1.2.1
  unfold w_X8_reasonToRefuse_25b at h
  refine lv_astore_nN (lv' := [(3, .null), (0, .ref (o + x0)), (2, .ref (o + x2))]) hx hb dX8_reasonToRefuse_25 rfl hl (by decide) rfl (fun ls hl => ?_)
  refine lv_aload_n hx hb dX8_reasonToRefuse_26 rfl (lv_at hl 2 rfl) ?_
  refine lv_ifnull hx hb dX8_reasonToRefuse_27 ?_
  refine lv_aload_nN hx hb dX8_reasonToRefuse_30 rfl (lv_at hl 0 rfl) ?_
  refine lv_ifnonnullN hx hb dX8_reasonToRefuse_31 ?_
  refine lv_iconst (v := 1) hx hb dX8_reasonToRefuse_34 (by decide) ?_
  exact r_ireti C P h dX8_reasonToRefuse_35
def w_X8_reasonToRefuse_25c  (Φ : Int32 → Mm → Prop) (x0 : Nat) (x2 : Nat) (z0 : Nat) (u0 : Mm) : Prop := (if (u0 x2 1) = 0 then (if (u0 x2 2) = (-5 : Int32) then (if (u0 z0 2) < (u0 z0 1) then (if (u0 x0 10) ≤ (u0 z0 0) then (Φ ((0 : Int32)) u0) else (Φ ((5 : Int32)) u0)) else (Φ ((4 : Int32)) u0)) else (Φ ((3 : Int32)) u0)) else (Φ ((2 : Int32)) u0))
set_option maxHeartbeats 4000000 in
set_option maxRecDepth 100000 in
theorem t_X8_reasonToRefuse_25c {p : Program} {l : Launch} {e : Env} {s : State} {m : MethodId} {args : Array Value} {below : List Frame} {meth : Method} {c : Code} {D : va_G} {cA : Nat → ClassId} {o : Nat}  {Φ : Int32 → Mm → Prop} (C : Cx p m meth c s args cX8_reasonToRefuse 4 wsX8_reasonToRefuse RX8 (some .int) D (tysL cA)) : ∀ (x0 : Nat) (x2 : Nat) (z0 : Nat) (u0 : Mm), kd x0 = 8 → kd x2 = 4 → kd z0 = 6 → ∀ (H : Heap) (locs : List Loc) (ls : Array Slot), Hp 747 o D (EC cA o u0) s H locs → lv_has ls 4 [(0, .ref (o + x0)), (2, .ref (o + x2))] → w_X8_reasonToRefuse_25c Φ x0 x2 z0 u0 → W p l e rm_X8_reasonToRefuse s m args below meth c H locs 0 0 (MQ below (Qg vI Φ (fun μ => Wd 747 o D (tysL cA) (EC cA o μ)) (aA o 747)) args s 0 0 (aA o 747)) (F0 m 25 ls [.ref (o + z0)]) := by
  intro x0 x2 z0 u0 hx0 hx2 hz0 H locs ls P hl h
  have hx := C.1.1
  have hb := C.1.2.1
  unfold w_X8_reasonToRefuse_25c at h
  refine lv_astore_n (lv' := [(3, .ref (o + z0)), (0, .ref (o + x0)), (2, .ref (o + x2))]) hx hb dX8_reasonToRefuse_25 rfl hl (by decide) rfl (fun ls hl => ?_)
  refine lv_aload_n hx hb dX8_reasonToRefuse_26 rfl (lv_at hl 2 rfl) ?_
  refine lv_ifnull hx hb dX8_reasonToRefuse_27 ?_
  refine lv_aload_n hx hb dX8_reasonToRefuse_30 rfl (lv_at hl 0 rfl) ?_
  refine lv_ifnonnull (tgt := 36) hx hb dX8_reasonToRefuse_31 (by decide) ?_
  refine lv_aload_n hx hb dX8_reasonToRefuse_36 rfl (lv_at hl 2 rfl) ?_
  refine g_4_1 C P in_X8_reasonToRefuse_4 wd_X8_reasonToRefuse_3 hx2 dX8_reasonToRefuse_37 ?_
  refine lv_if_eq (tgt := 45) hx hb dX8_reasonToRefuse_40 (by decide) (fun c7 => ?_) (fun c7 => ?_)
  · have h := ite_t h c7
    refine lv_aload_n hx hb dX8_reasonToRefuse_45 rfl (lv_at hl 2 rfl) ?_
    refine g_4_2 C P in_X8_reasonToRefuse_4 wd_X8_reasonToRefuse_4 hx2 dX8_reasonToRefuse_46 ?_
    refine lv_bipush (v := -5) hx hb dX8_reasonToRefuse_49 (by decide) ?_
    refine lv_icmp_eq (tgt := 56) hx hb dX8_reasonToRefuse_51 (by decide) (fun c8 => ?_) (fun c8 => ?_)
    · have h := ite_t h c8
      refine lv_aload_n hx hb dX8_reasonToRefuse_56 rfl (lv_at hl 0 rfl) ?_
      refine g_6_2 C P in_X8_reasonToRefuse_6 wd_X8_reasonToRefuse_5 hz0 dX8_reasonToRefuse_57 ?_
      refine lv_aload_n hx hb dX8_reasonToRefuse_60 rfl (lv_at hl 0 rfl) ?_
      refine g_6_1 C P in_X8_reasonToRefuse_6 wd_X8_reasonToRefuse_6 hz0 dX8_reasonToRefuse_61 ?_
      refine lv_icmp_lt (tgt := 69) hx hb dX8_reasonToRefuse_64 (by decide) (fun c9 => ?_) (fun c9 => ?_)
      · have h := ite_t h c9
        refine lv_aload_n hx hb dX8_reasonToRefuse_69 rfl (lv_at hl 0 rfl) ?_
        refine g_6_0 C P in_X8_reasonToRefuse_6 wd_X8_reasonToRefuse_7 hz0 dX8_reasonToRefuse_70 ?_
        refine lv_aload_n hx hb dX8_reasonToRefuse_73 rfl (lv_at hl 1 rfl) ?_
        refine g_8_10 C P in_X8_reasonToRefuse_8 wd_X8_reasonToRefuse_8 hx0 dX8_reasonToRefuse_74 ?_
        refine lv_icmp_ge (tgt := 84) hx hb dX8_reasonToRefuse_77 (by decide) (fun c10 => ?_) (fun c10 => ?_)
        · have h := ite_t h c10
          refine lv_iconst (v := 0) hx hb dX8_reasonToRefuse_84 (by decide) ?_
          exact r_ireti C P h dX8_reasonToRefuse_85
        · have h := ite_f h c10
          refine lv_iconst (v := 5) hx hb dX8_reasonToRefuse_80 (by decide) ?_
          refine lv_goto (tgt := 85) hx hb dX8_reasonToRefuse_81 (by decide) ?_
          exact r_ireti C P h dX8_reasonToRefuse_85
      · have h := ite_f h c9
        refine lv_iconst (v := 4) hx hb dX8_reasonToRefuse_67 (by decide) ?_
        exact r_ireti C P h dX8_reasonToRefuse_68
    · have h := ite_f h c8
      refine lv_iconst (v := 3) hx hb dX8_reasonToRefuse_54 (by decide) ?_
      exact r_ireti C P h dX8_reasonToRefuse_55
  · have h := ite_f h c7
    refine lv_iconst (v := 2) hx hb dX8_reasonToRefuse_43 (by decide) ?_
    exact r_ireti C P h dX8_reasonToRefuse_44
def w_X8_reasonToRefuse (k0 : Nat) (k1 : Nat) (u0 : Mm) (Φ : Int32 → Mm → Prop) : Prop := (w_X8_passAt k0 ((u0 k1 0)) u0 (fun r2 u1 => opt r2 (w_X8_reasonToRefuse_25 Φ k0 u1) (fun r2 => (w_X8_poolAt k0 ((u1 r2 0)) u1 (fun r5 u4 => opt r5 (w_X8_reasonToRefuse_25b Φ k0 r2 u4) (fun r5 => (w_X8_reasonToRefuse_25c Φ k0 r2 r5 u4)))))))
set_option maxHeartbeats 4000000 in
set_option maxRecDepth 100000 in
theorem t_X8_reasonToRefuse_0 {p : Program} {l : Launch} {e : Env} {s : State} {m : MethodId} {args : Array Value} {below : List Frame} {meth : Method} {c : Code} {D : va_G} {cA : Nat → ClassId} {o : Nat}  {Φ : Int32 → Mm → Prop} (C : Cx p m meth c s args cX8_reasonToRefuse 4 wsX8_reasonToRefuse RX8 (some .int) D (tysL cA)) : ∀ (k0 : Nat) (k1 : Nat) (u0 : Mm), kd k0 = 8 → kd k1 = 5 → ∀ (H : Heap) (locs : List Loc) (ls : Array Slot), Hp 747 o D (EC cA o u0) s H locs → lv_has ls 4 [(0, .ref (o + k0)), (1, .ref (o + k1))] → w_X8_reasonToRefuse k0 k1 u0 Φ → W p l e rm_X8_reasonToRefuse s m args below meth c H locs 0 0 (MQ below (Qg vI Φ (fun μ => Wd 747 o D (tysL cA) (EC cA o μ)) (aA o 747)) args s 0 0 (aA o 747)) (F0 m 0 ls []) := by
  intro k0 k1 u0 hk0 hk1 H locs ls P hl h
  have hx := C.1.1
  have hb := C.1.2.1
  unfold w_X8_reasonToRefuse at h
  refine lv_aload_n hx hb dX8_reasonToRefuse_0 rfl (lv_at hl 0 rfl) ?_
  refine lv_aload_n hx hb dX8_reasonToRefuse_1 rfl (lv_at hl 1 rfl) ?_
  refine g_5_0 C P in_X8_reasonToRefuse_5 wd_X8_reasonToRefuse_1 hk1 dX8_reasonToRefuse_2 ?_
  refine r_calln (F := EC cA o) (va_runV (As := [.int (u0 k1 0)]) (rest := []) C.1 (c_X8_passAt l D cA o _ _ hk0 u0 _ h) (cwV 1 C.1.2.2.2.2 gX8_reasonToRefuse_X8_passAt rfl rfl rfl (by decide +kernel) ⟨Nat.le_of_ble_eq_true rfl, Nat.le_of_ble_eq_true rfl⟩) (r_preV C P [.int (u0 k1 0)] (ci := 8) rfl (kd_lt hk0 (by decide)) (EK_8 hk0)) rfl rfl hl.1 rfl (lv_room (Nat.le_of_ble_eq_true rfl)) dX8_reasonToRefuse_5 ⟨Nat.le_of_ble_eq_true rfl, Nat.le_of_ble_eq_true rfl⟩) P.2 (fun r2 u1 H locs h P => ?_)
  obtain ⟨h, hk3⟩ := h
  rcases r2 with _ | r2
  · have h := opt_n h
    refine lv_astore_nN (lv' := [(2, .null), (0, .ref (o + k0)), (1, .ref (o + k1))]) hx hb dX8_reasonToRefuse_8 rfl hl (by decide) rfl (fun ls hl => ?_)
    refine lv_aload_nN hx hb dX8_reasonToRefuse_9 rfl (lv_at hl 0 rfl) ?_
    refine lv_ifnonnullN hx hb dX8_reasonToRefuse_10 ?_
    refine lv_null hx hb dX8_reasonToRefuse_13 ?_
    refine lv_goto (tgt := 25) hx hb dX8_reasonToRefuse_14 (by decide) ?_
    exact t_X8_reasonToRefuse_25 C _ u1 hk0 _ _ _ P (lv_sub hl [1, 0] rfl) h
  · have h := opt_s h
    have hk3 := hk3 r2 rfl
    refine lv_astore_n (lv' := [(2, .ref (o + r2)), (0, .ref (o + k0)), (1, .ref (o + k1))]) hx hb dX8_reasonToRefuse_8 rfl hl (by decide) rfl (fun ls hl => ?_)
    refine lv_aload_n hx hb dX8_reasonToRefuse_9 rfl (lv_at hl 0 rfl) ?_
    refine lv_ifnonnull (tgt := 17) hx hb dX8_reasonToRefuse_10 (by decide) ?_
    refine lv_aload_n hx hb dX8_reasonToRefuse_17 rfl (lv_at hl 1 rfl) ?_
    refine lv_aload_n hx hb dX8_reasonToRefuse_18 rfl (lv_at hl 0 rfl) ?_
    refine g_4_0 C P in_X8_reasonToRefuse_4 wd_X8_reasonToRefuse_2 hk3 dX8_reasonToRefuse_19 ?_
    refine r_calln (F := EC cA o) (va_runV (As := [.int (u1 r2 0)]) (rest := []) C.1 (c_X8_poolAt l D cA o _ _ hk0 u1 _ h) (cwV 1 C.1.2.2.2.2 gX8_reasonToRefuse_X8_poolAt rfl rfl rfl (by decide +kernel) ⟨Nat.le_of_ble_eq_true rfl, Nat.le_of_ble_eq_true rfl⟩) (r_preV C P [.int (u1 r2 0)] (ci := 8) rfl (kd_lt hk0 (by decide)) (EK_8 hk0)) rfl rfl hl.1 rfl (lv_room (Nat.le_of_ble_eq_true rfl)) dX8_reasonToRefuse_22 ⟨Nat.le_of_ble_eq_true rfl, Nat.le_of_ble_eq_true rfl⟩) P.2 (fun r5 u4 H locs h P => ?_)
    obtain ⟨h, hk6⟩ := h
    rcases r5 with _ | r5
    · have h := opt_n h
      exact t_X8_reasonToRefuse_25b C _ _ u4 hk0 hk3 _ _ _ P (lv_sub hl [1, 0] rfl) h
    · have h := opt_s h
      have hk6 := hk6 r5 rfl
      exact t_X8_reasonToRefuse_25c C _ _ _ u4 hk0 hk3 hk6 _ _ _ P (lv_sub hl [1, 0] rfl) h
set_option maxHeartbeats 4000000 in
set_option maxRecDepth 100000 in
theorem c_X8_reasonToRefuse (l : Launch) (D : va_G) (cA : Nat → ClassId) (o : Nat) (k0 : Nat) (k1 : Nat) (hk0 : kd k0 = 8) (hk1 : kd k1 = 5) (u0 : Mm) (Φ : Int32 → Mm → Prop) (h : w_X8_reasonToRefuse k0 k1 u0 Φ) : Met l yX8_reasonToRefuse wsX8_reasonToRefuse rm_X8_reasonToRefuse (va_Pc [.ref (o + k0), .ref (o + k1)] (Wd 747 o D (tysL cA) (EC cA o u0))) (Qg vI Φ (fun μ => Wd 747 o D (tysL cA) (EC cA o μ)) (aA o 747)) 0 0 (aA o 747) := by
  refine Met.ofW (cc := cX8_reasonToRefuse) (maxL := 4) (ret := (some .int)) (by decide) rfl ?_
  intro p e s m args below meth c s₁ B hml hv
  obtain ⟨rfl, hv⟩ := hv
  have hl := lv_entry ([.ref (o + k0), .ref (o + k1)]) (n := 4) (Nat.le_of_ble_eq_true rfl)
  rw [lg_entry_eq]
  exact t_X8_reasonToRefuse_0 ⟨⟨B.exec, B.bytes, hml, findClass_of_methodNamed B.named, atoms_spec (ws := wsX8_reasonToRefuse) B.pre⟩, B.returns, B.notSynchronized, hv.2⟩ k0 k1 u0 hk0 hk1 _ _ _ ⟨hv.1, va_S.rf⟩ hl h
abbrev rm_X8_payFare : Room := { frames := 1, cells := 0, slots := 0, locals := 21 }
theorem wd_X8_payFare_1 : Cond.fieldLink RX8 242 "TurnstileBank$Pass" "pool" "I" ∈ wsX8_payFare := List.mem_of_getElem? (i := 1) (by decide +kernel)
theorem wd_X8_payFare_2 : Cond.fieldLink RX8 239 "TurnstileBank$Pass" "user" "I" ∈ wsX8_payFare := List.mem_of_getElem? (i := 2) (by decide +kernel)
theorem wd_X8_payFare_3 : Cond.fieldLink RX8 245 "TurnstileBank$Pool" "inside" "I" ∈ wsX8_payFare := List.mem_of_getElem? (i := 3) (by decide +kernel)
theorem wd_X8_payFare_4 : Cond.fieldLink RX8 104 "TurnstileBank$Pool" "credit" "I" ∈ wsX8_payFare := List.mem_of_getElem? (i := 4) (by decide +kernel)
theorem wd_X8_payFare_5 : Cond.fieldLink RX8 42 "TurnstileBank$State" "fare" "I" ∈ wsX8_payFare := List.mem_of_getElem? (i := 5) (by decide +kernel)
theorem wd_X8_payFare_6 : Cond.fieldLink RX8 278 "TurnstileBank$Pool" "paid" "I" ∈ wsX8_payFare := List.mem_of_getElem? (i := 6) (by decide +kernel)
theorem in_X8_payFare_4 : ∀ w ∈ wsX40, w ∈ wsX8_payFare := fun w h => List.mem_cons_of_mem _ (List.mem_append_left _ (List.mem_append_left _ (List.mem_append_right _ h)))
theorem in_X8_payFare_6 : ∀ w ∈ wsX60, w ∈ wsX8_payFare := fun w h => List.mem_cons_of_mem _ (List.mem_append_left _ (List.mem_append_right _ h))
theorem in_X8_payFare_8 : ∀ w ∈ wsX80, w ∈ wsX8_payFare := fun w h => List.mem_cons_of_mem _ (List.mem_append_right _ h)
def w_X8_payFare_16  (Φ : Unit → Mm → Prop) (x0 : Nat) (x1 : Int32) (u0 : Mm) : Prop := (Φ () u0)
set_option maxHeartbeats 4000000 in
set_option maxRecDepth 100000 in
theorem t_X8_payFare_16 {p : Program} {l : Launch} {e : Env} {s : State} {m : MethodId} {args : Array Value} {below : List Frame} {meth : Method} {c : Code} {D : va_G} {cA : Nat → ClassId} {o : Nat}  {Φ : Unit → Mm → Prop} (C : Cx p m meth c s args cX8_payFare 4 wsX8_payFare RX8 none D (tysL cA)) : ∀ (x0 : Nat) (x1 : Int32) (u0 : Mm), kd x0 = 8 → ∀ (H : Heap) (locs : List Loc) (ls : Array Slot), Hp 747 o D (EC cA o u0) s H locs → lv_has ls 4 [(0, .ref (o + x0)), (1, .int x1), (2, .null)] → w_X8_payFare_16 Φ x0 x1 u0 → W p l e rm_X8_payFare s m args below meth c H locs 0 0 (MQ below (Qg vV Φ (fun μ => Wd 747 o D (tysL cA) (EC cA o μ)) (aA o 747)) args s 0 0 (aA o 747)) (F0 m 16 ls [.null]) := by
  intro x0 x1 u0 hx0 H locs ls P hl h
  have hx := C.1.1
  have hb := C.1.2.1
  unfold w_X8_payFare_16 at h
  refine lv_astore_nN (lv' := [(3, .null), (0, .ref (o + x0)), (1, .int x1), (2, .null)]) hx hb dX8_payFare_16 rfl hl (by decide) rfl (fun ls hl => ?_)
  refine lv_aload_nN hx hb dX8_payFare_17 rfl (lv_at hl 3 rfl) ?_
  refine lv_ifnullN (tgt := 25) hx hb dX8_payFare_18 (by decide) ?_
  exact r_ret C P h dX8_payFare_25
def w_X8_payFare_16b  (Φ : Unit → Mm → Prop) (x0 : Nat) (x1 : Int32) (x2 : Nat) (u0 : Mm) : Prop := (Φ () u0)
set_option maxHeartbeats 4000000 in
set_option maxRecDepth 100000 in
theorem t_X8_payFare_16b {p : Program} {l : Launch} {e : Env} {s : State} {m : MethodId} {args : Array Value} {below : List Frame} {meth : Method} {c : Code} {D : va_G} {cA : Nat → ClassId} {o : Nat}  {Φ : Unit → Mm → Prop} (C : Cx p m meth c s args cX8_payFare 4 wsX8_payFare RX8 none D (tysL cA)) : ∀ (x0 : Nat) (x1 : Int32) (x2 : Nat) (u0 : Mm), kd x0 = 8 → kd x2 = 4 → ∀ (H : Heap) (locs : List Loc) (ls : Array Slot), Hp 747 o D (EC cA o u0) s H locs → lv_has ls 4 [(0, .ref (o + x0)), (1, .int x1), (2, .ref (o + x2))] → w_X8_payFare_16b Φ x0 x1 x2 u0 → W p l e rm_X8_payFare s m args below meth c H locs 0 0 (MQ below (Qg vV Φ (fun μ => Wd 747 o D (tysL cA) (EC cA o μ)) (aA o 747)) args s 0 0 (aA o 747)) (F0 m 16 ls [.null]) := by
  intro x0 x1 x2 u0 hx0 hx2 H locs ls P hl h
  have hx := C.1.1
  have hb := C.1.2.1
  unfold w_X8_payFare_16b at h
  refine lv_astore_nN (lv' := [(3, .null), (0, .ref (o + x0)), (1, .int x1), (2, .ref (o + x2))]) hx hb dX8_payFare_16 rfl hl (by decide) rfl (fun ls hl => ?_)
  refine lv_aload_n hx hb dX8_payFare_17 rfl (lv_at hl 3 rfl) ?_
  refine lv_ifnull hx hb dX8_payFare_18 ?_
  refine lv_aload_nN hx hb dX8_payFare_21 rfl (lv_at hl 0 rfl) ?_
  refine lv_ifnonnullN hx hb dX8_payFare_22 ?_
  exact r_ret C P h dX8_payFare_25
def w_X8_payFare_16c  (Φ : Unit → Mm → Prop) (x0 : Nat) (x1 : Int32) (x2 : Nat) (z0 : Nat) (u0 : Mm) : Prop := (∀ u4 : Mm, u4 = up2 u0 x2 2 x1 → (∀ u5 : Mm, u5 = up2 u4 z0 2 ((u4 z0 2) + (1 : Int32)) → (∀ u6 : Mm, u6 = up2 u5 z0 0 ((u5 z0 0) - (u5 x0 10)) → (∀ u7 : Mm, u7 = up2 u6 z0 4 ((u6 z0 4) + (u6 x0 10)) → (Φ () u7)))))
set_option maxHeartbeats 4000000 in
set_option maxRecDepth 100000 in
theorem t_X8_payFare_16c {p : Program} {l : Launch} {e : Env} {s : State} {m : MethodId} {args : Array Value} {below : List Frame} {meth : Method} {c : Code} {D : va_G} {cA : Nat → ClassId} {o : Nat}  {Φ : Unit → Mm → Prop} (C : Cx p m meth c s args cX8_payFare 4 wsX8_payFare RX8 none D (tysL cA)) : ∀ (x0 : Nat) (x1 : Int32) (x2 : Nat) (z0 : Nat) (u0 : Mm), kd x0 = 8 → kd x2 = 4 → kd z0 = 6 → ∀ (H : Heap) (locs : List Loc) (ls : Array Slot), Hp 747 o D (EC cA o u0) s H locs → lv_has ls 4 [(0, .ref (o + x0)), (1, .int x1), (2, .ref (o + x2))] → w_X8_payFare_16c Φ x0 x1 x2 z0 u0 → W p l e rm_X8_payFare s m args below meth c H locs 0 0 (MQ below (Qg vV Φ (fun μ => Wd 747 o D (tysL cA) (EC cA o μ)) (aA o 747)) args s 0 0 (aA o 747)) (F0 m 16 ls [.ref (o + z0)]) := by
  intro x0 x1 x2 z0 u0 hx0 hx2 hz0 H locs ls P hl h
  have hx := C.1.1
  have hb := C.1.2.1
  unfold w_X8_payFare_16c at h
  refine lv_astore_n (lv' := [(3, .ref (o + z0)), (0, .ref (o + x0)), (1, .int x1), (2, .ref (o + x2))]) hx hb dX8_payFare_16 rfl hl (by decide) rfl (fun ls hl => ?_)
  refine lv_aload_n hx hb dX8_payFare_17 rfl (lv_at hl 3 rfl) ?_
  refine lv_ifnull hx hb dX8_payFare_18 ?_
  refine lv_aload_n hx hb dX8_payFare_21 rfl (lv_at hl 0 rfl) ?_
  refine lv_ifnonnull (tgt := 26) hx hb dX8_payFare_22 (by decide) ?_
  refine lv_aload_n hx hb dX8_payFare_26 rfl (lv_at hl 3 rfl) ?_
  refine lv_iload_n hx hb dX8_payFare_27 rfl (lv_at hl 2 rfl) ?_
  refine p_4_2 C P in_X8_payFare_4 wd_X8_payFare_2 hx2 dX8_payFare_28 (fun u4 eu4 H locs P => ?_)
  have h := h u4 eu4
  refine lv_aload_n hx hb dX8_payFare_31 rfl (lv_at hl 0 rfl) ?_
  refine lv_dup hx hb dX8_payFare_32 rfl ?_
  refine g_6_2 C P in_X8_payFare_6 wd_X8_payFare_3 hz0 dX8_payFare_33 ?_
  refine lv_iconst (v := 1) hx hb dX8_payFare_36 (by decide) ?_
  refine lv_iadd hx hb dX8_payFare_37 ?_
  refine p_6_2 C P in_X8_payFare_6 wd_X8_payFare_3 hz0 dX8_payFare_38 (fun u5 eu5 H locs P => ?_)
  have h := h u5 eu5
  refine lv_aload_n hx hb dX8_payFare_41 rfl (lv_at hl 0 rfl) ?_
  refine lv_dup hx hb dX8_payFare_42 rfl ?_
  refine g_6_0 C P in_X8_payFare_6 wd_X8_payFare_4 hz0 dX8_payFare_43 ?_
  refine lv_aload_n hx hb dX8_payFare_46 rfl (lv_at hl 1 rfl) ?_
  refine g_8_10 C P in_X8_payFare_8 wd_X8_payFare_5 hx0 dX8_payFare_47 ?_
  refine lv_isub hx hb dX8_payFare_50 ?_
  refine p_6_0 C P in_X8_payFare_6 wd_X8_payFare_4 hz0 dX8_payFare_51 (fun u6 eu6 H locs P => ?_)
  have h := h u6 eu6
  refine lv_aload_n hx hb dX8_payFare_54 rfl (lv_at hl 0 rfl) ?_
  refine lv_dup hx hb dX8_payFare_55 rfl ?_
  refine g_6_4 C P in_X8_payFare_6 wd_X8_payFare_6 hz0 dX8_payFare_56 ?_
  refine lv_aload_n hx hb dX8_payFare_59 rfl (lv_at hl 1 rfl) ?_
  refine g_8_10 C P in_X8_payFare_8 wd_X8_payFare_5 hx0 dX8_payFare_60 ?_
  refine lv_iadd hx hb dX8_payFare_63 ?_
  refine p_6_4 C P in_X8_payFare_6 wd_X8_payFare_6 hz0 dX8_payFare_64 (fun u7 eu7 H locs P => ?_)
  have h := h u7 eu7
  exact r_ret C P h dX8_payFare_67
def w_X8_payFare (k0 : Nat) (a1 : Int32) (b2 : Option Nat) (u0 : Mm) (Φ : Unit → Mm → Prop) : Prop := opt b2 (w_X8_payFare_16 Φ k0 a1 u0) (fun k2 => (w_X8_poolAt k0 ((u0 k2 0)) u0 (fun r2 u1 => opt r2 (w_X8_payFare_16b Φ k0 a1 k2 u1) (fun r2 => (w_X8_payFare_16c Φ k0 a1 k2 r2 u1)))))
set_option maxHeartbeats 4000000 in
set_option maxRecDepth 100000 in
theorem t_X8_payFare_0 {p : Program} {l : Launch} {e : Env} {s : State} {m : MethodId} {args : Array Value} {below : List Frame} {meth : Method} {c : Code} {D : va_G} {cA : Nat → ClassId} {o : Nat}  {Φ : Unit → Mm → Prop} (C : Cx p m meth c s args cX8_payFare 4 wsX8_payFare RX8 none D (tysL cA)) : ∀ (k0 : Nat) (a1 : Int32) (b2 : Option Nat) (u0 : Mm), kd k0 = 8 → (∀ k, b2 = some k → kd k = 4) → ∀ (H : Heap) (locs : List Loc) (ls : Array Slot), Hp 747 o D (EC cA o u0) s H locs → lv_has ls 4 [(0, .ref (o + k0)), (1, .int a1), (2, rfo o b2)] → w_X8_payFare k0 a1 b2 u0 Φ → W p l e rm_X8_payFare s m args below meth c H locs 0 0 (MQ below (Qg vV Φ (fun μ => Wd 747 o D (tysL cA) (EC cA o μ)) (aA o 747)) args s 0 0 (aA o 747)) (F0 m 0 ls []) := by
  intro k0 a1 b2 u0 hk0 hb2 H locs ls P hl h
  have hx := C.1.1
  have hb := C.1.2.1
  unfold w_X8_payFare at h
  rcases b2 with _ | k2
  · have h := opt_n h
    refine lv_aload_nN hx hb dX8_payFare_0 rfl (lv_at hl 2 rfl) ?_
    refine lv_ifnonnullN hx hb dX8_payFare_1 ?_
    refine lv_null hx hb dX8_payFare_4 ?_
    refine lv_goto (tgt := 16) hx hb dX8_payFare_5 (by decide) ?_
    exact t_X8_payFare_16 C _ _ u0 hk0 _ _ _ P (lv_sub hl [0, 1, 2] rfl) h
  · have h := opt_s h
    have hk2 := hb2 k2 rfl
    refine lv_aload_n hx hb dX8_payFare_0 rfl (lv_at hl 2 rfl) ?_
    refine lv_ifnonnull (tgt := 8) hx hb dX8_payFare_1 (by decide) ?_
    refine lv_aload_n hx hb dX8_payFare_8 rfl (lv_at hl 0 rfl) ?_
    refine lv_aload_n hx hb dX8_payFare_9 rfl (lv_at hl 2 rfl) ?_
    refine g_4_0 C P in_X8_payFare_4 wd_X8_payFare_1 hk2 dX8_payFare_10 ?_
    refine r_calln (F := EC cA o) (va_runV (As := [.int (u0 k2 0)]) (rest := []) C.1 (c_X8_poolAt l D cA o _ _ hk0 u0 _ h) (cwV 1 C.1.2.2.2.2 gX8_payFare_X8_poolAt rfl rfl rfl (by decide +kernel) ⟨Nat.le_of_ble_eq_true rfl, Nat.le_of_ble_eq_true rfl⟩) (r_preV C P [.int (u0 k2 0)] (ci := 8) rfl (kd_lt hk0 (by decide)) (EK_8 hk0)) rfl rfl hl.1 rfl (lv_room (Nat.le_of_ble_eq_true rfl)) dX8_payFare_13 ⟨Nat.le_of_ble_eq_true rfl, Nat.le_of_ble_eq_true rfl⟩) P.2 (fun r2 u1 H locs h P => ?_)
    obtain ⟨h, hk3⟩ := h
    rcases r2 with _ | r2
    · have h := opt_n h
      exact t_X8_payFare_16b C _ _ _ u1 hk0 hk2 _ _ _ P (lv_sub hl [0, 1, 2] rfl) h
    · have h := opt_s h
      have hk3 := hk3 r2 rfl
      exact t_X8_payFare_16c C _ _ _ _ u1 hk0 hk2 hk3 _ _ _ P (lv_sub hl [0, 1, 2] rfl) h
set_option maxHeartbeats 4000000 in
set_option maxRecDepth 100000 in
theorem c_X8_payFare (l : Launch) (D : va_G) (cA : Nat → ClassId) (o : Nat) (k0 : Nat) (a1 : Int32) (b2 : Option Nat) (hk0 : kd k0 = 8) (hb2 : ∀ k, b2 = some k → kd k = 4) (u0 : Mm) (Φ : Unit → Mm → Prop) (h : w_X8_payFare k0 a1 b2 u0 Φ) : Met l yX8_payFare wsX8_payFare rm_X8_payFare (va_Pc [.ref (o + k0), .int a1, rfo o b2] (Wd 747 o D (tysL cA) (EC cA o u0))) (Qg vV Φ (fun μ => Wd 747 o D (tysL cA) (EC cA o μ)) (aA o 747)) 0 0 (aA o 747) := by
  refine Met.ofW (cc := cX8_payFare) (maxL := 4) (ret := none) (by decide) rfl ?_
  intro p e s m args below meth c s₁ B hml hv
  obtain ⟨rfl, hv⟩ := hv
  rcases b2 with _ | b2
  · skip
    have hl := lv_entry ([.ref (o + k0), .int a1, .null]) (n := 4) (Nat.le_of_ble_eq_true rfl)
    rw [lg_entry_eq]
    exact t_X8_payFare_0 ⟨⟨B.exec, B.bytes, hml, findClass_of_methodNamed B.named, atoms_spec (ws := wsX8_payFare) B.pre⟩, B.returns, B.notSynchronized, hv.2⟩ k0 a1 none u0 hk0 hb2 _ _ _ ⟨hv.1, va_S.rf⟩ hl h
  · skip
    have hl := lv_entry ([.ref (o + k0), .int a1, .ref (o + b2)]) (n := 4) (Nat.le_of_ble_eq_true rfl)
    rw [lg_entry_eq]
    exact t_X8_payFare_0 ⟨⟨B.exec, B.bytes, hml, findClass_of_methodNamed B.named, atoms_spec (ws := wsX8_payFare) B.pre⟩, B.returns, B.notSynchronized, hv.2⟩ k0 a1 (some b2) u0 hk0 hb2 _ _ _ ⟨hv.1, va_S.rf⟩ hl h
abbrev rm_X8_takeNext : Room := { frames := 2, cells := 0, slots := 0, locals := 60 }
theorem wd_X8_takeNext_1 : Cond.fieldLink RX8 224 "TurnstileBank$Person" "wantsOut" "Z" ∈ wsX8_takeNext := List.mem_of_getElem? (i := 1) (by decide +kernel)
theorem wd_X8_takeNext_2 : Cond.fieldLink RX8 259 "TurnstileBank$Gate" "refused" "I" ∈ wsX8_takeNext := List.mem_of_getElem? (i := 2) (by decide +kernel)
theorem wd_X8_takeNext_3 : Cond.fieldLink RX8 38 "TurnstileBank$State" "events" "LTurnstileBank$Events;" ∈ wsX8_takeNext := List.mem_of_getElem? (i := 3) (by decide +kernel)
theorem wd_X8_takeNext_4 : Cond.fieldLink RX8 78 "TurnstileBank$State" "time" "I" ∈ wsX8_takeNext := List.mem_of_getElem? (i := 4) (by decide +kernel)
theorem wd_X8_takeNext_5 : Cond.fieldLink RX8 230 "TurnstileBank$Person" "pass" "I" ∈ wsX8_takeNext := List.mem_of_getElem? (i := 5) (by decide +kernel)
theorem wd_X8_takeNext_6 : Cond.fieldLink RX8 139 "TurnstileBank$Person" "where" "I" ∈ wsX8_takeNext := List.mem_of_getElem? (i := 6) (by decide +kernel)
theorem wd_X8_takeNext_7 : Cond.fieldLink RX8 169 "TurnstileBank$Gate" "person" "I" ∈ wsX8_takeNext := List.mem_of_getElem? (i := 7) (by decide +kernel)
theorem wd_X8_takeNext_8 : Cond.fieldLink RX8 221 "TurnstileBank$Gate" "pinchesOfPerson" "I" ∈ wsX8_takeNext := List.mem_of_getElem? (i := 8) (by decide +kernel)
theorem wd_X8_takeNext_9 : Cond.fieldLink RX8 269 "TurnstileBank$Gate" "opening" "I" ∈ wsX8_takeNext := List.mem_of_getElem? (i := 9) (by decide +kernel)
theorem in_X8_takeNext_1 : ∀ w ∈ wsX10, w ∈ wsX8_takeNext := fun w h => List.mem_cons_of_mem _ (List.mem_append_left _ (List.mem_append_left _ (List.mem_append_left _ (List.mem_append_left _ (List.mem_append_left _ (List.mem_append_right _ h))))))
theorem in_X8_takeNext_5 : ∀ w ∈ wsX50, w ∈ wsX8_takeNext := fun w h => List.mem_cons_of_mem _ (List.mem_append_left _ (List.mem_append_left _ (List.mem_append_left _ (List.mem_append_left _ (List.mem_append_left _ (List.mem_append_left _ (List.mem_append_right _ h)))))))
theorem in_X8_takeNext_8 : ∀ w ∈ wsX80, w ∈ wsX8_takeNext := fun w h => List.mem_cons_of_mem _ (List.mem_append_left _ (List.mem_append_left _ (List.mem_append_left _ (List.mem_append_left _ (List.mem_append_right _ h)))))
def w_X8_takeNext_115  (Φ : Unit → Mm → Prop) (x2 : Nat) (x4 : Int32) (x5 : Nat) (u0 : Mm) : Prop := (∀ u12 : Mm, u12 = up2 u0 x5 2 (2 : Int32) → (∀ u13 : Mm, u13 = up2 u12 x2 8 x4 → (∀ u14 : Mm, u14 = up2 u13 x2 10 (0 : Int32) → (w_X1_turnTo x2 ((1 : Int32)) ((u14 x2 3)) u14 (fun _ u15 => (Φ () u15))))))
set_option maxHeartbeats 4000000 in
set_option maxRecDepth 100000 in
theorem t_X8_takeNext_115 {p : Program} {l : Launch} {e : Env} {s : State} {m : MethodId} {args : Array Value} {below : List Frame} {meth : Method} {c : Code} {D : va_G} {cA : Nat → ClassId} {o : Nat}  {Φ : Unit → Mm → Prop} (C : Cx p m meth c s args cX8_takeNext 7 wsX8_takeNext RX8 none D (tysL cA)) : ∀ (x2 : Nat) (x4 : Int32) (x5 : Nat) (u0 : Mm), kd x2 = 1 → kd x5 = 5 → ∀ (H : Heap) (locs : List Loc) (ls : Array Slot), Hp 747 o D (EC cA o u0) s H locs → lv_has ls 7 [(2, .ref (o + x2)), (4, .int x4), (5, .ref (o + x5))] → w_X8_takeNext_115 Φ x2 x4 x5 u0 → W p l e rm_X8_takeNext s m args below meth c H locs 0 0 (MQ below (Qg vV Φ (fun μ => Wd 747 o D (tysL cA) (EC cA o μ)) (aA o 747)) args s 0 0 (aA o 747)) (F0 m 115 ls []) := by
  intro x2 x4 x5 u0 hx2 hx5 H locs ls P hl h
  have hx := C.1.1
  have hb := C.1.2.1
  unfold w_X8_takeNext_115 at h
  refine lv_aload hx hb dX8_takeNext_115 (lv_at hl 2 rfl) ?_
  refine lv_iconst (v := 2) hx hb dX8_takeNext_117 (by decide) ?_
  refine p_5_2 C P in_X8_takeNext_5 wd_X8_takeNext_6 hx5 dX8_takeNext_118 (fun u12 eu12 H locs P => ?_)
  have h := h u12 eu12
  refine lv_aload_n hx hb dX8_takeNext_121 rfl (lv_at hl 0 rfl) ?_
  refine lv_iload hx hb dX8_takeNext_122 (lv_at hl 1 rfl) ?_
  refine p_1_8 C P in_X8_takeNext_1 wd_X8_takeNext_7 hx2 dX8_takeNext_124 (fun u13 eu13 H locs P => ?_)
  have h := h u13 eu13
  refine lv_aload_n hx hb dX8_takeNext_127 rfl (lv_at hl 0 rfl) ?_
  refine lv_iconst (v := 0) hx hb dX8_takeNext_128 (by decide) ?_
  refine p_1_10 C P in_X8_takeNext_1 wd_X8_takeNext_8 hx2 dX8_takeNext_129 (fun u14 eu14 H locs P => ?_)
  have h := h u14 eu14
  refine lv_aload_n hx hb dX8_takeNext_132 rfl (lv_at hl 0 rfl) ?_
  refine lv_iconst (v := 1) hx hb dX8_takeNext_133 (by decide) ?_
  refine lv_aload_n hx hb dX8_takeNext_134 rfl (lv_at hl 0 rfl) ?_
  refine g_1_3 C P in_X8_takeNext_1 wd_X8_takeNext_9 hx2 dX8_takeNext_135 ?_
  refine r_callv (F := EC cA o) (va_runV (As := [.int (1 : Int32), .int (u14 x2 3)]) (rest := []) C.1 (c_X1_turnTo l D cA o _ _ _ hx2 u14 _ h) (cwV 2 C.1.2.2.2.2 gX8_takeNext_X1_turnTo rfl rfl rfl (by decide +kernel) ⟨Nat.le_of_ble_eq_true rfl, Nat.le_of_ble_eq_true rfl⟩) (r_preV C P [.int (1 : Int32), .int (u14 x2 3)] (ci := 1) rfl (kd_lt hx2 (by decide)) (EK_1 hx2)) rfl rfl hl.1 rfl (lv_room (Nat.le_of_ble_eq_true rfl)) dX8_takeNext_138 ⟨Nat.le_of_ble_eq_true rfl, Nat.le_of_ble_eq_true rfl⟩) P.2 (fun u15 H locs h P => ?_)
  exact r_ret C P h dX8_takeNext_141
def w_X8_takeNext (k0 : Nat) (a1 : Int32) (k2 : Nat) (u0 : Mm) (Φ : Unit → Mm → Prop) : Prop := (w_X8_nextQueue k0 k2 u0 (fun r2 u1 => (w_X7_personAtPlace r2 ((0 : Int32)) u1 (fun r5 u4 => (w_X8_personAt k0 r5 u4 (fun r7 u6 => opt r7 (Φ () u6) (fun r7 => (w_X7_dropFirst r2 u6 (fun _ u9 => (if (u9 r7 6) = 0 then (w_X8_reasonToRefuse k0 r7 u9 (fun r18 u17 => (if r18 = 0 then (w_X8_passAt k0 ((u17 r7 0)) u17 (fun r21 u20 => opt r21 (w_X8_payFare k0 r5 none u20 (fun _ u23 => (w_X0_add ((k0 + 5)) ((u23 k0 9)) a1 r5 ((0 : Int32)) u23 (fun _ u25 => (w_X8_takeNext_115 Φ k2 r5 r7 u25))))) (fun r21 => (w_X8_payFare k0 r5 (some r21) u20 (fun _ u27 => (w_X0_add ((k0 + 5)) ((u27 k0 9)) a1 r5 ((0 : Int32)) u27 (fun _ u29 => (w_X8_takeNext_115 Φ k2 r5 r7 u29)))))))) else (∀ u31 : Mm, u31 = up2 u17 k2 13 ((u17 k2 13) + (1 : Int32)) → (w_X5_turnAway r7 r18 u31 (fun _ u32 => (w_X0_add ((k0 + 5)) ((u32 k0 9)) a1 r5 ((1 : Int32)) u32 (fun _ u34 => (Φ () u34))))))))) else (w_X8_takeNext_115 Φ k2 r5 r7 u9)))))))))))
set_option maxHeartbeats 4000000 in
set_option maxRecDepth 100000 in
theorem t_X8_takeNext_0 {p : Program} {l : Launch} {e : Env} {s : State} {m : MethodId} {args : Array Value} {below : List Frame} {meth : Method} {c : Code} {D : va_G} {cA : Nat → ClassId} {o : Nat}  {Φ : Unit → Mm → Prop} (C : Cx p m meth c s args cX8_takeNext 7 wsX8_takeNext RX8 none D (tysL cA)) : ∀ (k0 : Nat) (a1 : Int32) (k2 : Nat) (u0 : Mm), kd k0 = 8 → kd k2 = 1 → ∀ (H : Heap) (locs : List Loc) (ls : Array Slot), Hp 747 o D (EC cA o u0) s H locs → lv_has ls 7 [(0, .ref (o + k0)), (1, .int a1), (2, .ref (o + k2))] → w_X8_takeNext k0 a1 k2 u0 Φ → W p l e rm_X8_takeNext s m args below meth c H locs 0 0 (MQ below (Qg vV Φ (fun μ => Wd 747 o D (tysL cA) (EC cA o μ)) (aA o 747)) args s 0 0 (aA o 747)) (F0 m 0 ls []) := by
  intro k0 a1 k2 u0 hk0 hk2 H locs ls P hl h
  have hx := C.1.1
  have hb := C.1.2.1
  unfold w_X8_takeNext at h
  refine lv_aload_n hx hb dX8_takeNext_0 rfl (lv_at hl 0 rfl) ?_
  refine lv_aload_n hx hb dX8_takeNext_1 rfl (lv_at hl 2 rfl) ?_
  refine r_callr (F := EC cA o) (va_runV (As := [.ref (o + k2)]) (rest := []) C.1 (c_X8_nextQueue l D cA o _ _ hk0 hk2 u0 _ h) (cwV 1 C.1.2.2.2.2 gX8_takeNext_X8_nextQueue rfl rfl rfl (by decide +kernel) ⟨Nat.le_of_ble_eq_true rfl, Nat.le_of_ble_eq_true rfl⟩) (r_preV C P [.ref (o + k2)] (ci := 8) rfl (kd_lt hk0 (by decide)) (EK_8 hk0)) rfl rfl hl.1 rfl (lv_room (Nat.le_of_ble_eq_true rfl)) dX8_takeNext_2 ⟨Nat.le_of_ble_eq_true rfl, Nat.le_of_ble_eq_true rfl⟩) P.2 (fun r2 u1 H locs h P => ?_)
  obtain ⟨h, hk3⟩ := h
  refine lv_astore_n (lv' := [(3, .ref (o + r2)), (0, .ref (o + k0)), (1, .int a1), (2, .ref (o + k2))]) hx hb dX8_takeNext_5 rfl hl (by decide) rfl (fun ls hl => ?_)
  refine lv_aload_n hx hb dX8_takeNext_6 rfl (lv_at hl 0 rfl) ?_
  refine lv_iconst (v := 0) hx hb dX8_takeNext_7 (by decide) ?_
  refine r_calli (F := EC cA o) (va_runV (As := [.int (0 : Int32)]) (rest := []) C.1 (c_X7_personAtPlace l D cA o _ _ hk3 u1 _ h) (cwV 1 C.1.2.2.2.2 gX8_takeNext_X7_personAtPlace rfl rfl rfl (by decide +kernel) ⟨Nat.le_of_ble_eq_true rfl, Nat.le_of_ble_eq_true rfl⟩) (r_preV C P [.int (0 : Int32)] (ci := 7) rfl (kd_lt hk3 (by decide)) (EK_7 hk3)) rfl rfl hl.1 rfl (lv_room (Nat.le_of_ble_eq_true rfl)) dX8_takeNext_8 ⟨Nat.le_of_ble_eq_true rfl, Nat.le_of_ble_eq_true rfl⟩) P.2 (fun r5 u4 H locs h P => ?_)
  refine lv_istore (lv' := [(4, .int r5), (3, .ref (o + r2)), (0, .ref (o + k0)), (1, .int a1), (2, .ref (o + k2))]) hx hb dX8_takeNext_11 hl (by decide) rfl (fun ls hl => ?_)
  refine lv_aload_n hx hb dX8_takeNext_13 rfl (lv_at hl 2 rfl) ?_
  refine lv_iload hx hb dX8_takeNext_14 (lv_at hl 0 rfl) ?_
  refine r_calln (F := EC cA o) (va_runV (As := [.int r5]) (rest := []) C.1 (c_X8_personAt l D cA o _ _ hk0 u4 _ h) (cwV 1 C.1.2.2.2.2 gX8_takeNext_X8_personAt rfl rfl rfl (by decide +kernel) ⟨Nat.le_of_ble_eq_true rfl, Nat.le_of_ble_eq_true rfl⟩) (r_preV C P [.int r5] (ci := 8) rfl (kd_lt hk0 (by decide)) (EK_8 hk0)) rfl rfl hl.1 rfl (lv_room (Nat.le_of_ble_eq_true rfl)) dX8_takeNext_16 ⟨Nat.le_of_ble_eq_true rfl, Nat.le_of_ble_eq_true rfl⟩) P.2 (fun r7 u6 H locs h P => ?_)
  obtain ⟨h, hk8⟩ := h
  rcases r7 with _ | r7
  · have h := opt_n h
    refine lv_astoreN (lv' := [(5, .null), (4, .int r5), (3, .ref (o + r2)), (0, .ref (o + k0)), (1, .int a1), (2, .ref (o + k2))]) hx hb dX8_takeNext_19 hl (by decide) rfl (fun ls hl => ?_)
    refine lv_aloadN hx hb dX8_takeNext_21 (lv_at hl 0 rfl) ?_
    refine lv_ifnonnullN hx hb dX8_takeNext_23 ?_
    exact r_ret C P h dX8_takeNext_26
  · have h := opt_s h
    have hk8 := hk8 r7 rfl
    refine lv_astore (lv' := [(5, .ref (o + r7)), (4, .int r5), (3, .ref (o + r2)), (0, .ref (o + k0)), (1, .int a1), (2, .ref (o + k2))]) hx hb dX8_takeNext_19 hl (by decide) rfl (fun ls hl => ?_)
    refine lv_aload hx hb dX8_takeNext_21 (lv_at hl 0 rfl) ?_
    refine lv_ifnonnull (tgt := 27) hx hb dX8_takeNext_23 (by decide) ?_
    refine lv_aload_n hx hb dX8_takeNext_27 rfl (lv_at hl 2 rfl) ?_
    refine r_callv (F := EC cA o) (va_runV (As := []) (rest := []) C.1 (c_X7_dropFirst l D cA o _ hk3 u6 _ h) (cwV 0 C.1.2.2.2.2 gX8_takeNext_X7_dropFirst rfl rfl rfl (by decide +kernel) ⟨Nat.le_of_ble_eq_true rfl, Nat.le_of_ble_eq_true rfl⟩) (r_preV C P [] (ci := 7) rfl (kd_lt hk3 (by decide)) (EK_7 hk3)) rfl rfl hl.1 rfl (lv_room (Nat.le_of_ble_eq_true rfl)) dX8_takeNext_28 ⟨Nat.le_of_ble_eq_true rfl, Nat.le_of_ble_eq_true rfl⟩) P.2 (fun u9 H locs h P => ?_)
    refine lv_aload hx hb dX8_takeNext_31 (lv_at hl 0 rfl) ?_
    refine g_5_6 C P in_X8_takeNext_5 wd_X8_takeNext_1 hk8 dX8_takeNext_33 ?_
    refine lv_if_ne (tgt := 115) hx hb dX8_takeNext_36 (by decide) (fun c11 => ?_) (fun c11 => ?_)
    · have h := ite_f h c11
      exact t_X8_takeNext_115 C _ _ _ u9 hk2 hk8 _ _ _ P (lv_sub hl [5, 1, 0] rfl) h
    · have h := ite_t h c11
      refine lv_aload_n hx hb dX8_takeNext_39 rfl (lv_at hl 3 rfl) ?_
      refine lv_aload hx hb dX8_takeNext_40 (lv_at hl 0 rfl) ?_
      refine r_calli (F := EC cA o) (va_runV (As := [.ref (o + r7)]) (rest := []) C.1 (c_X8_reasonToRefuse l D cA o _ _ hk0 hk8 u9 _ h) (cwV 1 C.1.2.2.2.2 gX8_takeNext_X8_reasonToRefuse rfl rfl rfl (by decide +kernel) ⟨Nat.le_of_ble_eq_true rfl, Nat.le_of_ble_eq_true rfl⟩) (r_preV C P [.ref (o + r7)] (ci := 8) rfl (kd_lt hk0 (by decide)) (EK_8 hk0)) rfl rfl hl.1 rfl (lv_room (Nat.le_of_ble_eq_true rfl)) dX8_takeNext_42 ⟨Nat.le_of_ble_eq_true rfl, Nat.le_of_ble_eq_true rfl⟩) P.2 (fun r18 u17 H locs h P => ?_)
      refine lv_istore (lv' := [(6, .int r18), (5, .ref (o + r7)), (4, .int r5), (3, .ref (o + r2)), (0, .ref (o + k0)), (1, .int a1), (2, .ref (o + k2))]) hx hb dX8_takeNext_45 hl (by decide) rfl (fun ls hl => ?_)
      refine lv_iload hx hb dX8_takeNext_47 (lv_at hl 0 rfl) ?_
      refine lv_if_eq (tgt := 85) hx hb dX8_takeNext_49 (by decide) (fun c19 => ?_) (fun c19 => ?_)
      · have h := ite_t h c19
        refine lv_aload_n hx hb dX8_takeNext_85 rfl (lv_at hl 4 rfl) ?_
        refine lv_iload hx hb dX8_takeNext_86 (lv_at hl 2 rfl) ?_
        refine lv_aload_n hx hb dX8_takeNext_88 rfl (lv_at hl 4 rfl) ?_
        refine lv_aload hx hb dX8_takeNext_89 (lv_at hl 1 rfl) ?_
        refine g_5_0 C P in_X8_takeNext_5 wd_X8_takeNext_5 hk8 dX8_takeNext_91 ?_
        refine r_calln (F := EC cA o) (va_runV (As := [.int (u17 r7 0)]) (rest := [.int r5, .ref (o + k0)]) C.1 (c_X8_passAt l D cA o _ _ hk0 u17 _ h) (cwV 1 C.1.2.2.2.2 gX8_takeNext_X8_passAt rfl rfl rfl (by decide +kernel) ⟨Nat.le_of_ble_eq_true rfl, Nat.le_of_ble_eq_true rfl⟩) (r_preV C P [.int (u17 r7 0)] (ci := 8) rfl (kd_lt hk0 (by decide)) (EK_8 hk0)) rfl rfl hl.1 rfl (lv_room (Nat.le_of_ble_eq_true rfl)) dX8_takeNext_94 ⟨Nat.le_of_ble_eq_true rfl, Nat.le_of_ble_eq_true rfl⟩) P.2 (fun r21 u20 H locs h P => ?_)
        obtain ⟨h, hk22⟩ := h
        rcases r21 with _ | r21
        · have h := opt_n h
          refine r_callv (F := EC cA o) (va_runV (As := [.int r5, .null]) (rest := []) C.1 (c_X8_payFare l D cA o _ _ _ hk0 (fun _ e => by cases e) u20 _ h) (cwV 2 C.1.2.2.2.2 gX8_takeNext_X8_payFare rfl rfl rfl (by decide +kernel) ⟨Nat.le_of_ble_eq_true rfl, Nat.le_of_ble_eq_true rfl⟩) (r_preV C P [.int r5, .null] (ci := 8) rfl (kd_lt hk0 (by decide)) (EK_8 hk0)) rfl rfl hl.1 rfl (lv_room (Nat.le_of_ble_eq_true rfl)) dX8_takeNext_97 ⟨Nat.le_of_ble_eq_true rfl, Nat.le_of_ble_eq_true rfl⟩) P.2 (fun u23 H locs h P => ?_)
          refine lv_aload_n hx hb dX8_takeNext_100 rfl (lv_at hl 4 rfl) ?_
          refine g_8_4 C P in_X8_takeNext_8 wd_X8_takeNext_3 hk0 dX8_takeNext_101 ?_
          refine lv_aload_n hx hb dX8_takeNext_104 rfl (lv_at hl 4 rfl) ?_
          refine g_8_9 C P in_X8_takeNext_8 wd_X8_takeNext_4 hk0 dX8_takeNext_105 ?_
          refine lv_iload_n hx hb dX8_takeNext_108 rfl (lv_at hl 5 rfl) ?_
          refine lv_iload hx hb dX8_takeNext_109 (lv_at hl 2 rfl) ?_
          refine lv_iconst (v := 0) hx hb dX8_takeNext_111 (by decide) ?_
          refine r_callv (F := EC cA o) (va_runV (As := [.int (u23 k0 9), .int a1, .int r5, .int (0 : Int32)]) (rest := []) C.1 (c_X0_add l D cA o _ _ _ _ _ (kd_8_5 hk0) u23 _ h) (cwV 4 C.1.2.2.2.2 gX8_takeNext_X0_add rfl rfl rfl (by decide +kernel) ⟨Nat.le_of_ble_eq_true rfl, Nat.le_of_ble_eq_true rfl⟩) (r_preV C P [.int (u23 k0 9), .int a1, .int r5, .int (0 : Int32)] (ci := 0) rfl (kd_lt (kd_8_5 hk0) (by decide)) (EK_0 (kd_8_5 hk0))) rfl rfl hl.1 rfl (lv_room (Nat.le_of_ble_eq_true rfl)) dX8_takeNext_112 ⟨Nat.le_of_ble_eq_true rfl, Nat.le_of_ble_eq_true rfl⟩) P.2 (fun u25 H locs h P => ?_)
          exact t_X8_takeNext_115 C _ _ _ u25 hk2 hk8 _ _ _ P (lv_sub hl [6, 2, 1] rfl) h
        · have h := opt_s h
          have hk22 := hk22 r21 rfl
          refine r_callv (F := EC cA o) (va_runV (As := [.int r5, .ref (o + r21)]) (rest := []) C.1 (c_X8_payFare l D cA o _ _ _ hk0 (fun _ e => by cases e; exact hk22) u20 _ h) (cwV 2 C.1.2.2.2.2 gX8_takeNext_X8_payFare rfl rfl rfl (by decide +kernel) ⟨Nat.le_of_ble_eq_true rfl, Nat.le_of_ble_eq_true rfl⟩) (r_preV C P [.int r5, .ref (o + r21)] (ci := 8) rfl (kd_lt hk0 (by decide)) (EK_8 hk0)) rfl rfl hl.1 rfl (lv_room (Nat.le_of_ble_eq_true rfl)) dX8_takeNext_97 ⟨Nat.le_of_ble_eq_true rfl, Nat.le_of_ble_eq_true rfl⟩) P.2 (fun u27 H locs h P => ?_)
          refine lv_aload_n hx hb dX8_takeNext_100 rfl (lv_at hl 4 rfl) ?_
          refine g_8_4 C P in_X8_takeNext_8 wd_X8_takeNext_3 hk0 dX8_takeNext_101 ?_
          refine lv_aload_n hx hb dX8_takeNext_104 rfl (lv_at hl 4 rfl) ?_
          refine g_8_9 C P in_X8_takeNext_8 wd_X8_takeNext_4 hk0 dX8_takeNext_105 ?_
          refine lv_iload_n hx hb dX8_takeNext_108 rfl (lv_at hl 5 rfl) ?_
          refine lv_iload hx hb dX8_takeNext_109 (lv_at hl 2 rfl) ?_
          refine lv_iconst (v := 0) hx hb dX8_takeNext_111 (by decide) ?_
          refine r_callv (F := EC cA o) (va_runV (As := [.int (u27 k0 9), .int a1, .int r5, .int (0 : Int32)]) (rest := []) C.1 (c_X0_add l D cA o _ _ _ _ _ (kd_8_5 hk0) u27 _ h) (cwV 4 C.1.2.2.2.2 gX8_takeNext_X0_add rfl rfl rfl (by decide +kernel) ⟨Nat.le_of_ble_eq_true rfl, Nat.le_of_ble_eq_true rfl⟩) (r_preV C P [.int (u27 k0 9), .int a1, .int r5, .int (0 : Int32)] (ci := 0) rfl (kd_lt (kd_8_5 hk0) (by decide)) (EK_0 (kd_8_5 hk0))) rfl rfl hl.1 rfl (lv_room (Nat.le_of_ble_eq_true rfl)) dX8_takeNext_112 ⟨Nat.le_of_ble_eq_true rfl, Nat.le_of_ble_eq_true rfl⟩) P.2 (fun u29 H locs h P => ?_)
          exact t_X8_takeNext_115 C _ _ _ u29 hk2 hk8 _ _ _ P (lv_sub hl [6, 2, 1] rfl) h
      · have h := ite_f h c19
        refine lv_aload_n hx hb dX8_takeNext_52 rfl (lv_at hl 6 rfl) ?_
        refine lv_dup hx hb dX8_takeNext_53 rfl ?_
        refine g_1_13 C P in_X8_takeNext_1 wd_X8_takeNext_2 hk2 dX8_takeNext_54 ?_
        refine lv_iconst (v := 1) hx hb dX8_takeNext_57 (by decide) ?_
        refine lv_iadd hx hb dX8_takeNext_58 ?_
        refine p_1_13 C P in_X8_takeNext_1 wd_X8_takeNext_2 hk2 dX8_takeNext_59 (fun u31 eu31 H locs P => ?_)
        have h := h u31 eu31
        refine lv_aload hx hb dX8_takeNext_62 (lv_at hl 1 rfl) ?_
        refine lv_iload hx hb dX8_takeNext_64 (lv_at hl 0 rfl) ?_
        refine r_callv (F := EC cA o) (va_runV (As := [.int r18]) (rest := []) C.1 (c_X5_turnAway l D cA o _ _ hk8 u31 _ h) (cwV 1 C.1.2.2.2.2 gX8_takeNext_X5_turnAway rfl rfl rfl (by decide +kernel) ⟨Nat.le_of_ble_eq_true rfl, Nat.le_of_ble_eq_true rfl⟩) (r_preV C P [.int r18] (ci := 5) rfl (kd_lt hk8 (by decide)) (EK_5 hk8)) rfl rfl hl.1 rfl (lv_room (Nat.le_of_ble_eq_true rfl)) dX8_takeNext_66 ⟨Nat.le_of_ble_eq_true rfl, Nat.le_of_ble_eq_true rfl⟩) P.2 (fun u32 H locs h P => ?_)
        refine lv_aload_n hx hb dX8_takeNext_69 rfl (lv_at hl 4 rfl) ?_
        refine g_8_4 C P in_X8_takeNext_8 wd_X8_takeNext_3 hk0 dX8_takeNext_70 ?_
        refine lv_aload_n hx hb dX8_takeNext_73 rfl (lv_at hl 4 rfl) ?_
        refine g_8_9 C P in_X8_takeNext_8 wd_X8_takeNext_4 hk0 dX8_takeNext_74 ?_
        refine lv_iload_n hx hb dX8_takeNext_77 rfl (lv_at hl 5 rfl) ?_
        refine lv_iload hx hb dX8_takeNext_78 (lv_at hl 2 rfl) ?_
        refine lv_iconst (v := 1) hx hb dX8_takeNext_80 (by decide) ?_
        refine r_callv (F := EC cA o) (va_runV (As := [.int (u32 k0 9), .int a1, .int r5, .int (1 : Int32)]) (rest := []) C.1 (c_X0_add l D cA o _ _ _ _ _ (kd_8_5 hk0) u32 _ h) (cwV 4 C.1.2.2.2.2 gX8_takeNext_X0_add rfl rfl rfl (by decide +kernel) ⟨Nat.le_of_ble_eq_true rfl, Nat.le_of_ble_eq_true rfl⟩) (r_preV C P [.int (u32 k0 9), .int a1, .int r5, .int (1 : Int32)] (ci := 0) rfl (kd_lt (kd_8_5 hk0) (by decide)) (EK_0 (kd_8_5 hk0))) rfl rfl hl.1 rfl (lv_room (Nat.le_of_ble_eq_true rfl)) dX8_takeNext_81 ⟨Nat.le_of_ble_eq_true rfl, Nat.le_of_ble_eq_true rfl⟩) P.2 (fun u34 H locs h P => ?_)
        exact r_ret C P h dX8_takeNext_84
set_option maxHeartbeats 4000000 in
set_option maxRecDepth 100000 in
theorem c_X8_takeNext (l : Launch) (D : va_G) (cA : Nat → ClassId) (o : Nat) (k0 : Nat) (a1 : Int32) (k2 : Nat) (hk0 : kd k0 = 8) (hk2 : kd k2 = 1) (u0 : Mm) (Φ : Unit → Mm → Prop) (h : w_X8_takeNext k0 a1 k2 u0 Φ) : Met l yX8_takeNext wsX8_takeNext rm_X8_takeNext (va_Pc [.ref (o + k0), .int a1, .ref (o + k2)] (Wd 747 o D (tysL cA) (EC cA o u0))) (Qg vV Φ (fun μ => Wd 747 o D (tysL cA) (EC cA o μ)) (aA o 747)) 0 0 (aA o 747) := by
  refine Met.ofW (cc := cX8_takeNext) (maxL := 7) (ret := none) (by decide) rfl ?_
  intro p e s m args below meth c s₁ B hml hv
  obtain ⟨rfl, hv⟩ := hv
  have hl := lv_entry ([.ref (o + k0), .int a1, .ref (o + k2)]) (n := 7) (Nat.le_of_ble_eq_true rfl)
  rw [lg_entry_eq]
  exact t_X8_takeNext_0 ⟨⟨B.exec, B.bytes, hml, findClass_of_methodNamed B.named, atoms_spec (ws := wsX8_takeNext) B.pre⟩, B.returns, B.notSynchronized, hv.2⟩ k0 a1 k2 u0 hk0 hk2 _ _ _ ⟨hv.1, va_S.rf⟩ hl h
abbrev rm_X8_stepClosing : Room := { frames := 3, cells := 0, slots := 0, locals := 69 }
theorem wd_X8_stepClosing_1 : Cond.fieldLink RX8 166 "TurnstileBank$Gate" "pinchTold" "Z" ∈ wsX8_stepClosing := List.mem_of_getElem? (i := 1) (by decide +kernel)
theorem wd_X8_stepClosing_2 : Cond.fieldLink RX8 218 "TurnstileBank$Gate" "pinches" "I" ∈ wsX8_stepClosing := List.mem_of_getElem? (i := 2) (by decide +kernel)
theorem wd_X8_stepClosing_3 : Cond.fieldLink RX8 221 "TurnstileBank$Gate" "pinchesOfPerson" "I" ∈ wsX8_stepClosing := List.mem_of_getElem? (i := 3) (by decide +kernel)
theorem wd_X8_stepClosing_4 : Cond.fieldLink RX8 38 "TurnstileBank$State" "events" "LTurnstileBank$Events;" ∈ wsX8_stepClosing := List.mem_of_getElem? (i := 4) (by decide +kernel)
theorem wd_X8_stepClosing_5 : Cond.fieldLink RX8 78 "TurnstileBank$State" "time" "I" ∈ wsX8_stepClosing := List.mem_of_getElem? (i := 5) (by decide +kernel)
theorem wd_X8_stepClosing_6 : Cond.fieldLink RX8 169 "TurnstileBank$Gate" "person" "I" ∈ wsX8_stepClosing := List.mem_of_getElem? (i := 6) (by decide +kernel)
theorem wd_X8_stepClosing_7 : Cond.fieldLink RX8 206 "TurnstileBank$Gate" "closing" "I" ∈ wsX8_stepClosing := List.mem_of_getElem? (i := 7) (by decide +kernel)
theorem wd_X8_stepClosing_8 : Cond.fieldLink RX8 196 "TurnstileBank$Gate" "left" "I" ∈ wsX8_stepClosing := List.mem_of_getElem? (i := 8) (by decide +kernel)
theorem in_X8_stepClosing_1 : ∀ w ∈ wsX10, w ∈ wsX8_stepClosing := fun w h => List.mem_cons_of_mem _ (List.mem_append_left _ (List.mem_append_left _ (List.mem_append_right _ h)))
theorem in_X8_stepClosing_8 : ∀ w ∈ wsX80, w ∈ wsX8_stepClosing := fun w h => List.mem_cons_of_mem _ (List.mem_append_left _ (List.mem_append_right _ h))
def w_X8_stepClosing (k0 : Nat) (a1 : Int32) (k2 : Nat) (u0 : Mm) (Φ : Unit → Mm → Prop) : Prop := (if (u0 k2 9) = 0 then (if (u0 k2 7) = 0 then (w_X1_turnTo k2 ((0 : Int32)) ((0 : Int32)) u0 (fun _ u3 => (Φ () u3))) else (Φ () u0)) else (∀ u5 : Mm, u5 = up2 u0 k2 9 (0 : Int32) → (∀ u6 : Mm, u6 = up2 u5 k2 14 ((u5 k2 14) + (1 : Int32)) → (∀ u7 : Mm, u7 = up2 u6 k2 10 ((u6 k2 10) + (1 : Int32)) → (w_X0_add ((k0 + 5)) ((u7 k0 9)) a1 ((u7 k2 8)) ((4 : Int32)) u7 (fun _ u8 => (if (u8 k2 10) < (3 : Int32) then (w_X1_turnTo k2 ((4 : Int32)) (((u8 k2 5) - (u8 k2 7))) u8 (fun _ u11 => (Φ () u11))) else (w_X8_breakDown k0 a1 k2 u8 (fun _ u13 => (Φ () u13))))))))))
set_option maxHeartbeats 4000000 in
set_option maxRecDepth 100000 in
theorem t_X8_stepClosing_0 {p : Program} {l : Launch} {e : Env} {s : State} {m : MethodId} {args : Array Value} {below : List Frame} {meth : Method} {c : Code} {D : va_G} {cA : Nat → ClassId} {o : Nat}  {Φ : Unit → Mm → Prop} (C : Cx p m meth c s args cX8_stepClosing 3 wsX8_stepClosing RX8 none D (tysL cA)) : ∀ (k0 : Nat) (a1 : Int32) (k2 : Nat) (u0 : Mm), kd k0 = 8 → kd k2 = 1 → ∀ (H : Heap) (locs : List Loc) (ls : Array Slot), Hp 747 o D (EC cA o u0) s H locs → lv_has ls 3 [(0, .ref (o + k0)), (1, .int a1), (2, .ref (o + k2))] → w_X8_stepClosing k0 a1 k2 u0 Φ → W p l e rm_X8_stepClosing s m args below meth c H locs 0 0 (MQ below (Qg vV Φ (fun μ => Wd 747 o D (tysL cA) (EC cA o μ)) (aA o 747)) args s 0 0 (aA o 747)) (F0 m 0 ls []) := by
  intro k0 a1 k2 u0 hk0 hk2 H locs ls P hl h
  have hx := C.1.1
  have hb := C.1.2.1
  unfold w_X8_stepClosing at h
  refine lv_aload_n hx hb dX8_stepClosing_0 rfl (lv_at hl 2 rfl) ?_
  refine g_1_9 C P in_X8_stepClosing_1 wd_X8_stepClosing_1 hk2 dX8_stepClosing_1 ?_
  refine lv_if_eq (tgt := 83) hx hb dX8_stepClosing_4 (by decide) (fun c1 => ?_) (fun c1 => ?_)
  · have h := ite_t h c1
    refine lv_aload_n hx hb dX8_stepClosing_83 rfl (lv_at hl 2 rfl) ?_
    refine g_1_7 C P in_X8_stepClosing_1 wd_X8_stepClosing_8 hk2 dX8_stepClosing_84 ?_
    refine lv_if_ne (tgt := 96) hx hb dX8_stepClosing_87 (by decide) (fun c2 => ?_) (fun c2 => ?_)
    · have h := ite_f h c2
      exact r_ret C P h dX8_stepClosing_96
    · have h := ite_t h c2
      refine lv_aload_n hx hb dX8_stepClosing_90 rfl (lv_at hl 2 rfl) ?_
      refine lv_iconst (v := 0) hx hb dX8_stepClosing_91 (by decide) ?_
      refine lv_iconst (v := 0) hx hb dX8_stepClosing_92 (by decide) ?_
      refine r_callv (F := EC cA o) (va_runV (As := [.int (0 : Int32), .int (0 : Int32)]) (rest := []) C.1 (c_X1_turnTo l D cA o _ _ _ hk2 u0 _ h) (cwV 2 C.1.2.2.2.2 gX8_stepClosing_X1_turnTo rfl rfl rfl (by decide +kernel) ⟨Nat.le_of_ble_eq_true rfl, Nat.le_of_ble_eq_true rfl⟩) (r_preV C P [.int (0 : Int32), .int (0 : Int32)] (ci := 1) rfl (kd_lt hk2 (by decide)) (EK_1 hk2)) rfl rfl hl.1 rfl (lv_room (Nat.le_of_ble_eq_true rfl)) dX8_stepClosing_93 ⟨Nat.le_of_ble_eq_true rfl, Nat.le_of_ble_eq_true rfl⟩) P.2 (fun u3 H locs h P => ?_)
      exact r_ret C P h dX8_stepClosing_96
  · have h := ite_f h c1
    refine lv_aload_n hx hb dX8_stepClosing_7 rfl (lv_at hl 2 rfl) ?_
    refine lv_iconst (v := 0) hx hb dX8_stepClosing_8 (by decide) ?_
    refine p_1_9 C P in_X8_stepClosing_1 wd_X8_stepClosing_1 hk2 (Or.inl rfl) dX8_stepClosing_9 (fun u5 eu5 H locs P => ?_)
    have h := h u5 eu5
    refine lv_aload_n hx hb dX8_stepClosing_12 rfl (lv_at hl 2 rfl) ?_
    refine lv_dup hx hb dX8_stepClosing_13 rfl ?_
    refine g_1_14 C P in_X8_stepClosing_1 wd_X8_stepClosing_2 hk2 dX8_stepClosing_14 ?_
    refine lv_iconst (v := 1) hx hb dX8_stepClosing_17 (by decide) ?_
    refine lv_iadd hx hb dX8_stepClosing_18 ?_
    refine p_1_14 C P in_X8_stepClosing_1 wd_X8_stepClosing_2 hk2 dX8_stepClosing_19 (fun u6 eu6 H locs P => ?_)
    have h := h u6 eu6
    refine lv_aload_n hx hb dX8_stepClosing_22 rfl (lv_at hl 2 rfl) ?_
    refine lv_dup hx hb dX8_stepClosing_23 rfl ?_
    refine g_1_10 C P in_X8_stepClosing_1 wd_X8_stepClosing_3 hk2 dX8_stepClosing_24 ?_
    refine lv_iconst (v := 1) hx hb dX8_stepClosing_27 (by decide) ?_
    refine lv_iadd hx hb dX8_stepClosing_28 ?_
    refine p_1_10 C P in_X8_stepClosing_1 wd_X8_stepClosing_3 hk2 dX8_stepClosing_29 (fun u7 eu7 H locs P => ?_)
    have h := h u7 eu7
    refine lv_aload_n hx hb dX8_stepClosing_32 rfl (lv_at hl 0 rfl) ?_
    refine g_8_4 C P in_X8_stepClosing_8 wd_X8_stepClosing_4 hk0 dX8_stepClosing_33 ?_
    refine lv_aload_n hx hb dX8_stepClosing_36 rfl (lv_at hl 0 rfl) ?_
    refine g_8_9 C P in_X8_stepClosing_8 wd_X8_stepClosing_5 hk0 dX8_stepClosing_37 ?_
    refine lv_iload_n hx hb dX8_stepClosing_40 rfl (lv_at hl 1 rfl) ?_
    refine lv_aload_n hx hb dX8_stepClosing_41 rfl (lv_at hl 2 rfl) ?_
    refine g_1_8 C P in_X8_stepClosing_1 wd_X8_stepClosing_6 hk2 dX8_stepClosing_42 ?_
    refine lv_iconst (v := 4) hx hb dX8_stepClosing_45 (by decide) ?_
    refine r_callv (F := EC cA o) (va_runV (As := [.int (u7 k0 9), .int a1, .int (u7 k2 8), .int (4 : Int32)]) (rest := []) C.1 (c_X0_add l D cA o _ _ _ _ _ (kd_8_5 hk0) u7 _ h) (cwV 4 C.1.2.2.2.2 gX8_stepClosing_X0_add rfl rfl rfl (by decide +kernel) ⟨Nat.le_of_ble_eq_true rfl, Nat.le_of_ble_eq_true rfl⟩) (r_preV C P [.int (u7 k0 9), .int a1, .int (u7 k2 8), .int (4 : Int32)] (ci := 0) rfl (kd_lt (kd_8_5 hk0) (by decide)) (EK_0 (kd_8_5 hk0))) rfl rfl hl.1 rfl (lv_room (Nat.le_of_ble_eq_true rfl)) dX8_stepClosing_46 ⟨Nat.le_of_ble_eq_true rfl, Nat.le_of_ble_eq_true rfl⟩) P.2 (fun u8 H locs h P => ?_)
    refine lv_aload_n hx hb dX8_stepClosing_49 rfl (lv_at hl 2 rfl) ?_
    refine g_1_10 C P in_X8_stepClosing_1 wd_X8_stepClosing_3 hk2 dX8_stepClosing_50 ?_
    refine lv_iconst (v := 3) hx hb dX8_stepClosing_53 (by decide) ?_
    refine lv_icmp_lt (tgt := 66) hx hb dX8_stepClosing_54 (by decide) (fun c10 => ?_) (fun c10 => ?_)
    · have h := ite_t h c10
      refine lv_aload_n hx hb dX8_stepClosing_66 rfl (lv_at hl 2 rfl) ?_
      refine lv_iconst (v := 4) hx hb dX8_stepClosing_67 (by decide) ?_
      refine lv_aload_n hx hb dX8_stepClosing_68 rfl (lv_at hl 2 rfl) ?_
      refine g_1_5 C P in_X8_stepClosing_1 wd_X8_stepClosing_7 hk2 dX8_stepClosing_69 ?_
      refine lv_aload_n hx hb dX8_stepClosing_72 rfl (lv_at hl 2 rfl) ?_
      refine g_1_7 C P in_X8_stepClosing_1 wd_X8_stepClosing_8 hk2 dX8_stepClosing_73 ?_
      refine lv_isub hx hb dX8_stepClosing_76 ?_
      refine r_callv (F := EC cA o) (va_runV (As := [.int (4 : Int32), .int ((u8 k2 5) - (u8 k2 7))]) (rest := []) C.1 (c_X1_turnTo l D cA o _ _ _ hk2 u8 _ h) (cwV 2 C.1.2.2.2.2 gX8_stepClosing_X1_turnTo rfl rfl rfl (by decide +kernel) ⟨Nat.le_of_ble_eq_true rfl, Nat.le_of_ble_eq_true rfl⟩) (r_preV C P [.int (4 : Int32), .int ((u8 k2 5) - (u8 k2 7))] (ci := 1) rfl (kd_lt hk2 (by decide)) (EK_1 hk2)) rfl rfl hl.1 rfl (lv_room (Nat.le_of_ble_eq_true rfl)) dX8_stepClosing_77 ⟨Nat.le_of_ble_eq_true rfl, Nat.le_of_ble_eq_true rfl⟩) P.2 (fun u11 H locs h P => ?_)
      refine lv_goto (tgt := 96) hx hb dX8_stepClosing_80 (by decide) ?_
      exact r_ret C P h dX8_stepClosing_96
    · have h := ite_f h c10
      refine lv_aload_n hx hb dX8_stepClosing_57 rfl (lv_at hl 0 rfl) ?_
      refine lv_iload_n hx hb dX8_stepClosing_58 rfl (lv_at hl 1 rfl) ?_
      refine lv_aload_n hx hb dX8_stepClosing_59 rfl (lv_at hl 2 rfl) ?_
      refine r_callv (F := EC cA o) (va_runV (As := [.int a1, .ref (o + k2)]) (rest := []) C.1 (c_X8_breakDown l D cA o _ _ _ hk0 hk2 u8 _ h) (cwV 2 C.1.2.2.2.2 gX8_stepClosing_X8_breakDown rfl rfl rfl (by decide +kernel) ⟨Nat.le_of_ble_eq_true rfl, Nat.le_of_ble_eq_true rfl⟩) (r_preV C P [.int a1, .ref (o + k2)] (ci := 8) rfl (kd_lt hk0 (by decide)) (EK_8 hk0)) rfl rfl hl.1 rfl (lv_room (Nat.le_of_ble_eq_true rfl)) dX8_stepClosing_60 ⟨Nat.le_of_ble_eq_true rfl, Nat.le_of_ble_eq_true rfl⟩) P.2 (fun u13 H locs h P => ?_)
      refine lv_goto (tgt := 96) hx hb dX8_stepClosing_63 (by decide) ?_
      exact r_ret C P h dX8_stepClosing_96
set_option maxHeartbeats 4000000 in
set_option maxRecDepth 100000 in
theorem c_X8_stepClosing (l : Launch) (D : va_G) (cA : Nat → ClassId) (o : Nat) (k0 : Nat) (a1 : Int32) (k2 : Nat) (hk0 : kd k0 = 8) (hk2 : kd k2 = 1) (u0 : Mm) (Φ : Unit → Mm → Prop) (h : w_X8_stepClosing k0 a1 k2 u0 Φ) : Met l yX8_stepClosing wsX8_stepClosing rm_X8_stepClosing (va_Pc [.ref (o + k0), .int a1, .ref (o + k2)] (Wd 747 o D (tysL cA) (EC cA o u0))) (Qg vV Φ (fun μ => Wd 747 o D (tysL cA) (EC cA o μ)) (aA o 747)) 0 0 (aA o 747) := by
  refine Met.ofW (cc := cX8_stepClosing) (maxL := 3) (ret := none) (by decide) rfl ?_
  intro p e s m args below meth c s₁ B hml hv
  obtain ⟨rfl, hv⟩ := hv
  have hl := lv_entry ([.ref (o + k0), .int a1, .ref (o + k2)]) (n := 3) (Nat.le_of_ble_eq_true rfl)
  rw [lg_entry_eq]
  exact t_X8_stepClosing_0 ⟨⟨B.exec, B.bytes, hml, findClass_of_methodNamed B.named, atoms_spec (ws := wsX8_stepClosing) B.pre⟩, B.returns, B.notSynchronized, hv.2⟩ k0 a1 k2 u0 hk0 hk2 _ _ _ ⟨hv.1, va_S.rf⟩ hl h
abbrev rm_X8_extraTicks : Room := { frames := 1, cells := 0, slots := 0, locals := 21 }
theorem wd_X8_extraTicks_1 : Cond.fieldLink RX8 215 "TurnstileBank$Person" "slow" "Z" ∈ wsX8_extraTicks := List.mem_of_getElem? (i := 1) (by decide +kernel)
theorem in_X8_extraTicks_5 : ∀ w ∈ wsX50, w ∈ wsX8_extraTicks := fun w h => List.mem_cons_of_mem _ (List.mem_append_left _ (List.mem_append_right _ h))
def w_X8_extraTicks (k0 : Nat) (a1 : Int32) (u0 : Mm) (Φ : Int32 → Mm → Prop) : Prop := (w_X8_personAt k0 a1 u0 (fun r2 u1 => opt r2 (Φ ((0 : Int32)) u1) (fun r2 => (if (u1 r2 1) = 0 then (Φ ((0 : Int32)) u1) else (Φ ((2 : Int32)) u1)))))
set_option maxHeartbeats 4000000 in
set_option maxRecDepth 100000 in
theorem t_X8_extraTicks_0 {p : Program} {l : Launch} {e : Env} {s : State} {m : MethodId} {args : Array Value} {below : List Frame} {meth : Method} {c : Code} {D : va_G} {cA : Nat → ClassId} {o : Nat}  {Φ : Int32 → Mm → Prop} (C : Cx p m meth c s args cX8_extraTicks 3 wsX8_extraTicks RX8 (some .int) D (tysL cA)) : ∀ (k0 : Nat) (a1 : Int32) (u0 : Mm), kd k0 = 8 → ∀ (H : Heap) (locs : List Loc) (ls : Array Slot), Hp 747 o D (EC cA o u0) s H locs → lv_has ls 3 [(0, .ref (o + k0)), (1, .int a1)] → w_X8_extraTicks k0 a1 u0 Φ → W p l e rm_X8_extraTicks s m args below meth c H locs 0 0 (MQ below (Qg vI Φ (fun μ => Wd 747 o D (tysL cA) (EC cA o μ)) (aA o 747)) args s 0 0 (aA o 747)) (F0 m 0 ls []) := by
  intro k0 a1 u0 hk0 H locs ls P hl h
  have hx := C.1.1
  have hb := C.1.2.1
  unfold w_X8_extraTicks at h
  refine lv_aload_n hx hb dX8_extraTicks_0 rfl (lv_at hl 0 rfl) ?_
  refine lv_iload_n hx hb dX8_extraTicks_1 rfl (lv_at hl 1 rfl) ?_
  refine r_calln (F := EC cA o) (va_runV (As := [.int a1]) (rest := []) C.1 (c_X8_personAt l D cA o _ _ hk0 u0 _ h) (cwV 1 C.1.2.2.2.2 gX8_extraTicks_X8_personAt rfl rfl rfl (by decide +kernel) ⟨Nat.le_of_ble_eq_true rfl, Nat.le_of_ble_eq_true rfl⟩) (r_preV C P [.int a1] (ci := 8) rfl (kd_lt hk0 (by decide)) (EK_8 hk0)) rfl rfl hl.1 rfl (lv_room (Nat.le_of_ble_eq_true rfl)) dX8_extraTicks_2 ⟨Nat.le_of_ble_eq_true rfl, Nat.le_of_ble_eq_true rfl⟩) P.2 (fun r2 u1 H locs h P => ?_)
  obtain ⟨h, hk3⟩ := h
  rcases r2 with _ | r2
  · have h := opt_n h
    refine lv_astore_nN (lv' := [(2, .null), (0, .ref (o + k0)), (1, .int a1)]) hx hb dX8_extraTicks_5 rfl hl (by decide) rfl (fun ls hl => ?_)
    refine lv_aload_nN hx hb dX8_extraTicks_6 rfl (lv_at hl 0 rfl) ?_
    refine lv_ifnullN (tgt := 21) hx hb dX8_extraTicks_7 (by decide) ?_
    refine lv_iconst (v := 0) hx hb dX8_extraTicks_21 (by decide) ?_
    exact r_ireti C P h dX8_extraTicks_22
  · have h := opt_s h
    have hk3 := hk3 r2 rfl
    refine lv_astore_n (lv' := [(2, .ref (o + r2)), (0, .ref (o + k0)), (1, .int a1)]) hx hb dX8_extraTicks_5 rfl hl (by decide) rfl (fun ls hl => ?_)
    refine lv_aload_n hx hb dX8_extraTicks_6 rfl (lv_at hl 0 rfl) ?_
    refine lv_ifnull hx hb dX8_extraTicks_7 ?_
    refine lv_aload_n hx hb dX8_extraTicks_10 rfl (lv_at hl 0 rfl) ?_
    refine g_5_1 C P in_X8_extraTicks_5 wd_X8_extraTicks_1 hk3 dX8_extraTicks_11 ?_
    refine lv_if_eq (tgt := 21) hx hb dX8_extraTicks_14 (by decide) (fun c4 => ?_) (fun c4 => ?_)
    · have h := ite_t h c4
      refine lv_iconst (v := 0) hx hb dX8_extraTicks_21 (by decide) ?_
      exact r_ireti C P h dX8_extraTicks_22
    · have h := ite_f h c4
      refine lv_iconst (v := 2) hx hb dX8_extraTicks_17 (by decide) ?_
      refine lv_goto (tgt := 22) hx hb dX8_extraTicks_18 (by decide) ?_
      exact r_ireti C P h dX8_extraTicks_22
set_option maxHeartbeats 4000000 in
set_option maxRecDepth 100000 in
theorem c_X8_extraTicks (l : Launch) (D : va_G) (cA : Nat → ClassId) (o : Nat) (k0 : Nat) (a1 : Int32) (hk0 : kd k0 = 8) (u0 : Mm) (Φ : Int32 → Mm → Prop) (h : w_X8_extraTicks k0 a1 u0 Φ) : Met l yX8_extraTicks wsX8_extraTicks rm_X8_extraTicks (va_Pc [.ref (o + k0), .int a1] (Wd 747 o D (tysL cA) (EC cA o u0))) (Qg vI Φ (fun μ => Wd 747 o D (tysL cA) (EC cA o μ)) (aA o 747)) 0 0 (aA o 747) := by
  refine Met.ofW (cc := cX8_extraTicks) (maxL := 3) (ret := (some .int)) (by decide) rfl ?_
  intro p e s m args below meth c s₁ B hml hv
  obtain ⟨rfl, hv⟩ := hv
  have hl := lv_entry ([.ref (o + k0), .int a1]) (n := 3) (Nat.le_of_ble_eq_true rfl)
  rw [lg_entry_eq]
  exact t_X8_extraTicks_0 ⟨⟨B.exec, B.bytes, hml, findClass_of_methodNamed B.named, atoms_spec (ws := wsX8_extraTicks) B.pre⟩, B.returns, B.notSynchronized, hv.2⟩ k0 a1 u0 hk0 _ _ _ ⟨hv.1, va_S.rf⟩ hl h
abbrev rm_X8_stepGate : Room := { frames := 4, cells := 0, slots := 0, locals := 91 }
theorem wd_X8_stepGate_1 : Cond.fieldLink RX8 163 "TurnstileBank$Gate" "state" "I" ∈ wsX8_stepGate := List.mem_of_getElem? (i := 1) (by decide +kernel)
theorem wd_X8_stepGate_2 : Cond.fieldLink RX8 196 "TurnstileBank$Gate" "left" "I" ∈ wsX8_stepGate := List.mem_of_getElem? (i := 2) (by decide +kernel)
theorem wd_X8_stepGate_3 : Cond.fieldLink RX8 206 "TurnstileBank$Gate" "closing" "I" ∈ wsX8_stepGate := List.mem_of_getElem? (i := 3) (by decide +kernel)
theorem wd_X8_stepGate_4 : Cond.fieldLink RX8 209 "TurnstileBank$Gate" "hold" "I" ∈ wsX8_stepGate := List.mem_of_getElem? (i := 4) (by decide +kernel)
theorem wd_X8_stepGate_5 : Cond.fieldLink RX8 169 "TurnstileBank$Gate" "person" "I" ∈ wsX8_stepGate := List.mem_of_getElem? (i := 5) (by decide +kernel)
theorem in_X8_stepGate_1 : ∀ w ∈ wsX10, w ∈ wsX8_stepGate := fun w h => List.mem_cons_of_mem _ (List.mem_append_left _ (List.mem_append_left _ (List.mem_append_left _ (List.mem_append_left _ (List.mem_append_left _ (List.mem_append_left _ (List.mem_append_right _ h)))))))
def w_X8_stepGate (k0 : Nat) (a1 : Int32) (k2 : Nat) (u0 : Mm) (Φ : Int32 → Mm → Prop) : Prop := (if (u0 k2 6) = 0 then (w_X8_takeNext k0 a1 k2 u0 (fun _ u20 => (Φ ((0 : Int32)) u20))) else (if (u0 k2 6) = (5 : Int32) then (Φ ((0 : Int32)) u0) else (∀ u3 : Mm, u3 = up2 u0 k2 7 ((u0 k2 7) - (1 : Int32)) → (if (u3 k2 6) = (3 : Int32) then (w_X8_stepClosing k0 a1 k2 u3 (fun _ u13 => (w_X1_holdsPerson k2 u13 (fun r16 u15 => (if r16 = 0 then (w_X8_letThrough k0 a1 k2 u15 (fun r19 u18 => (Φ r19 u18))) else (Φ ((0 : Int32)) u15)))))) else (if (u3 k2 7) = 0 then (if (u3 k2 6) = (2 : Int32) then (w_X1_turnTo k2 ((3 : Int32)) ((u3 k2 5)) u3 (fun _ u11 => (Φ ((0 : Int32)) u11))) else (w_X8_extraTicks k0 ((u3 k2 8)) u3 (fun r8 u7 => (w_X1_turnTo k2 ((2 : Int32)) (((u3 k2 4) + r8)) u7 (fun _ u9 => (Φ ((0 : Int32)) u9)))))) else (Φ ((0 : Int32)) u3))))))
set_option maxHeartbeats 4000000 in
set_option maxRecDepth 100000 in
theorem t_X8_stepGate_0 {p : Program} {l : Launch} {e : Env} {s : State} {m : MethodId} {args : Array Value} {below : List Frame} {meth : Method} {c : Code} {D : va_G} {cA : Nat → ClassId} {o : Nat}  {Φ : Int32 → Mm → Prop} (C : Cx p m meth c s args cX8_stepGate 3 wsX8_stepGate RX8 (some .int) D (tysL cA)) : ∀ (k0 : Nat) (a1 : Int32) (k2 : Nat) (u0 : Mm), kd k0 = 8 → kd k2 = 1 → ∀ (H : Heap) (locs : List Loc) (ls : Array Slot), Hp 747 o D (EC cA o u0) s H locs → lv_has ls 3 [(0, .ref (o + k0)), (1, .int a1), (2, .ref (o + k2))] → w_X8_stepGate k0 a1 k2 u0 Φ → W p l e rm_X8_stepGate s m args below meth c H locs 0 0 (MQ below (Qg vI Φ (fun μ => Wd 747 o D (tysL cA) (EC cA o μ)) (aA o 747)) args s 0 0 (aA o 747)) (F0 m 0 ls []) := by
  intro k0 a1 k2 u0 hk0 hk2 H locs ls P hl h
  have hx := C.1.1
  have hb := C.1.2.1
  unfold w_X8_stepGate at h
  refine lv_aload_n hx hb dX8_stepGate_0 rfl (lv_at hl 2 rfl) ?_
  refine g_1_6 C P in_X8_stepGate_1 wd_X8_stepGate_1 hk2 dX8_stepGate_1 ?_
  refine lv_if_ne (tgt := 15) hx hb dX8_stepGate_4 (by decide) (fun c1 => ?_) (fun c1 => ?_)
  · have h := ite_f h c1
    refine lv_aload_n hx hb dX8_stepGate_15 rfl (lv_at hl 2 rfl) ?_
    refine g_1_6 C P in_X8_stepGate_1 wd_X8_stepGate_1 hk2 dX8_stepGate_16 ?_
    refine lv_iconst (v := 5) hx hb dX8_stepGate_19 (by decide) ?_
    refine lv_icmp_ne (tgt := 25) hx hb dX8_stepGate_20 (by decide) (fun c2 => ?_) (fun c2 => ?_)
    · have h := ite_f h c2
      refine lv_aload_n hx hb dX8_stepGate_25 rfl (lv_at hl 2 rfl) ?_
      refine lv_dup hx hb dX8_stepGate_26 rfl ?_
      refine g_1_7 C P in_X8_stepGate_1 wd_X8_stepGate_2 hk2 dX8_stepGate_27 ?_
      refine lv_iconst (v := 1) hx hb dX8_stepGate_30 (by decide) ?_
      refine lv_isub hx hb dX8_stepGate_31 ?_
      refine p_1_7 C P in_X8_stepGate_1 wd_X8_stepGate_2 hk2 dX8_stepGate_32 (fun u3 eu3 H locs P => ?_)
      have h := h u3 eu3
      refine lv_aload_n hx hb dX8_stepGate_35 rfl (lv_at hl 2 rfl) ?_
      refine g_1_6 C P in_X8_stepGate_1 wd_X8_stepGate_1 hk2 dX8_stepGate_36 ?_
      refine lv_iconst (v := 3) hx hb dX8_stepGate_39 (by decide) ?_
      refine lv_icmp_ne (tgt := 67) hx hb dX8_stepGate_40 (by decide) (fun c4 => ?_) (fun c4 => ?_)
      · have h := ite_f h c4
        refine lv_aload_n hx hb dX8_stepGate_67 rfl (lv_at hl 2 rfl) ?_
        refine g_1_7 C P in_X8_stepGate_1 wd_X8_stepGate_2 hk2 dX8_stepGate_68 ?_
        refine lv_if_ne (tgt := 112) hx hb dX8_stepGate_71 (by decide) (fun c5 => ?_) (fun c5 => ?_)
        · have h := ite_f h c5
          refine lv_iconst (v := 0) hx hb dX8_stepGate_112 (by decide) ?_
          exact r_ireti C P h dX8_stepGate_113
        · have h := ite_t h c5
          refine lv_aload_n hx hb dX8_stepGate_74 rfl (lv_at hl 2 rfl) ?_
          refine g_1_6 C P in_X8_stepGate_1 wd_X8_stepGate_1 hk2 dX8_stepGate_75 ?_
          refine lv_iconst (v := 2) hx hb dX8_stepGate_78 (by decide) ?_
          refine lv_icmp_ne (tgt := 94) hx hb dX8_stepGate_79 (by decide) (fun c6 => ?_) (fun c6 => ?_)
          · have h := ite_f h c6
            refine lv_aload_n hx hb dX8_stepGate_94 rfl (lv_at hl 2 rfl) ?_
            refine lv_iconst (v := 2) hx hb dX8_stepGate_95 (by decide) ?_
            refine lv_aload_n hx hb dX8_stepGate_96 rfl (lv_at hl 2 rfl) ?_
            refine g_1_4 C P in_X8_stepGate_1 wd_X8_stepGate_4 hk2 dX8_stepGate_97 ?_
            refine lv_aload_n hx hb dX8_stepGate_100 rfl (lv_at hl 0 rfl) ?_
            refine lv_aload_n hx hb dX8_stepGate_101 rfl (lv_at hl 2 rfl) ?_
            refine g_1_8 C P in_X8_stepGate_1 wd_X8_stepGate_5 hk2 dX8_stepGate_102 ?_
            refine r_calli (F := EC cA o) (va_runV (As := [.int (u3 k2 8)]) (rest := [.int (u3 k2 4), .int (2 : Int32), .ref (o + k2)]) C.1 (c_X8_extraTicks l D cA o _ _ hk0 u3 _ h) (cwV 1 C.1.2.2.2.2 gX8_stepGate_X8_extraTicks rfl rfl rfl (by decide +kernel) ⟨Nat.le_of_ble_eq_true rfl, Nat.le_of_ble_eq_true rfl⟩) (r_preV C P [.int (u3 k2 8)] (ci := 8) rfl (kd_lt hk0 (by decide)) (EK_8 hk0)) rfl rfl hl.1 rfl (lv_room (Nat.le_of_ble_eq_true rfl)) dX8_stepGate_105 ⟨Nat.le_of_ble_eq_true rfl, Nat.le_of_ble_eq_true rfl⟩) P.2 (fun r8 u7 H locs h P => ?_)
            refine lv_iadd hx hb dX8_stepGate_108 ?_
            refine r_callv (F := EC cA o) (va_runV (As := [.int (2 : Int32), .int ((u3 k2 4) + r8)]) (rest := []) C.1 (c_X1_turnTo l D cA o _ _ _ hk2 u7 _ h) (cwV 2 C.1.2.2.2.2 gX8_stepGate_X1_turnTo rfl rfl rfl (by decide +kernel) ⟨Nat.le_of_ble_eq_true rfl, Nat.le_of_ble_eq_true rfl⟩) (r_preV C P [.int (2 : Int32), .int ((u3 k2 4) + r8)] (ci := 1) rfl (kd_lt hk2 (by decide)) (EK_1 hk2)) rfl rfl hl.1 rfl (lv_room (Nat.le_of_ble_eq_true rfl)) dX8_stepGate_109 ⟨Nat.le_of_ble_eq_true rfl, Nat.le_of_ble_eq_true rfl⟩) P.2 (fun u9 H locs h P => ?_)
            refine lv_iconst (v := 0) hx hb dX8_stepGate_112 (by decide) ?_
            exact r_ireti C P h dX8_stepGate_113
          · have h := ite_t h c6
            refine lv_aload_n hx hb dX8_stepGate_82 rfl (lv_at hl 2 rfl) ?_
            refine lv_iconst (v := 3) hx hb dX8_stepGate_83 (by decide) ?_
            refine lv_aload_n hx hb dX8_stepGate_84 rfl (lv_at hl 2 rfl) ?_
            refine g_1_5 C P in_X8_stepGate_1 wd_X8_stepGate_3 hk2 dX8_stepGate_85 ?_
            refine r_callv (F := EC cA o) (va_runV (As := [.int (3 : Int32), .int (u3 k2 5)]) (rest := []) C.1 (c_X1_turnTo l D cA o _ _ _ hk2 u3 _ h) (cwV 2 C.1.2.2.2.2 gX8_stepGate_X1_turnTo rfl rfl rfl (by decide +kernel) ⟨Nat.le_of_ble_eq_true rfl, Nat.le_of_ble_eq_true rfl⟩) (r_preV C P [.int (3 : Int32), .int (u3 k2 5)] (ci := 1) rfl (kd_lt hk2 (by decide)) (EK_1 hk2)) rfl rfl hl.1 rfl (lv_room (Nat.le_of_ble_eq_true rfl)) dX8_stepGate_88 ⟨Nat.le_of_ble_eq_true rfl, Nat.le_of_ble_eq_true rfl⟩) P.2 (fun u11 H locs h P => ?_)
            refine lv_goto (tgt := 112) hx hb dX8_stepGate_91 (by decide) ?_
            refine lv_iconst (v := 0) hx hb dX8_stepGate_112 (by decide) ?_
            exact r_ireti C P h dX8_stepGate_113
      · have h := ite_t h c4
        refine lv_aload_n hx hb dX8_stepGate_43 rfl (lv_at hl 0 rfl) ?_
        refine lv_iload_n hx hb dX8_stepGate_44 rfl (lv_at hl 1 rfl) ?_
        refine lv_aload_n hx hb dX8_stepGate_45 rfl (lv_at hl 2 rfl) ?_
        refine r_callv (F := EC cA o) (va_runV (As := [.int a1, .ref (o + k2)]) (rest := []) C.1 (c_X8_stepClosing l D cA o _ _ _ hk0 hk2 u3 _ h) (cwV 2 C.1.2.2.2.2 gX8_stepGate_X8_stepClosing rfl rfl rfl (by decide +kernel) ⟨Nat.le_of_ble_eq_true rfl, Nat.le_of_ble_eq_true rfl⟩) (r_preV C P [.int a1, .ref (o + k2)] (ci := 8) rfl (kd_lt hk0 (by decide)) (EK_8 hk0)) rfl rfl hl.1 rfl (lv_room (Nat.le_of_ble_eq_true rfl)) dX8_stepGate_46 ⟨Nat.le_of_ble_eq_true rfl, Nat.le_of_ble_eq_true rfl⟩) P.2 (fun u13 H locs h P => ?_)
        refine lv_aload_n hx hb dX8_stepGate_49 rfl (lv_at hl 2 rfl) ?_
        refine r_calli (F := EC cA o) (va_runV (As := []) (rest := []) C.1 (c_X1_holdsPerson l D cA o _ hk2 u13 _ h) (cwV 0 C.1.2.2.2.2 gX8_stepGate_X1_holdsPerson rfl rfl rfl (by decide +kernel) ⟨Nat.le_of_ble_eq_true rfl, Nat.le_of_ble_eq_true rfl⟩) (r_preV C P [] (ci := 1) rfl (kd_lt hk2 (by decide)) (EK_1 hk2)) rfl rfl hl.1 rfl (lv_room (Nat.le_of_ble_eq_true rfl)) dX8_stepGate_50 ⟨Nat.le_of_ble_eq_true rfl, Nat.le_of_ble_eq_true rfl⟩) P.2 (fun r16 u15 H locs h P => ?_)
        refine lv_if_eq (tgt := 60) hx hb dX8_stepGate_53 (by decide) (fun c17 => ?_) (fun c17 => ?_)
        · have h := ite_t h c17
          refine lv_aload_n hx hb dX8_stepGate_60 rfl (lv_at hl 0 rfl) ?_
          refine lv_iload_n hx hb dX8_stepGate_61 rfl (lv_at hl 1 rfl) ?_
          refine lv_aload_n hx hb dX8_stepGate_62 rfl (lv_at hl 2 rfl) ?_
          refine r_calli (F := EC cA o) (va_runV (As := [.int a1, .ref (o + k2)]) (rest := []) C.1 (c_X8_letThrough l D cA o _ _ _ hk0 hk2 u15 _ h) (cwV 2 C.1.2.2.2.2 gX8_stepGate_X8_letThrough rfl rfl rfl (by decide +kernel) ⟨Nat.le_of_ble_eq_true rfl, Nat.le_of_ble_eq_true rfl⟩) (r_preV C P [.int a1, .ref (o + k2)] (ci := 8) rfl (kd_lt hk0 (by decide)) (EK_8 hk0)) rfl rfl hl.1 rfl (lv_room (Nat.le_of_ble_eq_true rfl)) dX8_stepGate_63 ⟨Nat.le_of_ble_eq_true rfl, Nat.le_of_ble_eq_true rfl⟩) P.2 (fun r19 u18 H locs h P => ?_)
          exact r_ireti C P h dX8_stepGate_66
        · have h := ite_f h c17
          refine lv_iconst (v := 0) hx hb dX8_stepGate_56 (by decide) ?_
          refine lv_goto (tgt := 66) hx hb dX8_stepGate_57 (by decide) ?_
          exact r_ireti C P h dX8_stepGate_66
    · have h := ite_t h c2
      refine lv_iconst (v := 0) hx hb dX8_stepGate_23 (by decide) ?_
      exact r_ireti C P h dX8_stepGate_24
  · have h := ite_t h c1
    refine lv_aload_n hx hb dX8_stepGate_7 rfl (lv_at hl 0 rfl) ?_
    refine lv_iload_n hx hb dX8_stepGate_8 rfl (lv_at hl 1 rfl) ?_
    refine lv_aload_n hx hb dX8_stepGate_9 rfl (lv_at hl 2 rfl) ?_
    refine r_callv (F := EC cA o) (va_runV (As := [.int a1, .ref (o + k2)]) (rest := []) C.1 (c_X8_takeNext l D cA o _ _ _ hk0 hk2 u0 _ h) (cwV 2 C.1.2.2.2.2 gX8_stepGate_X8_takeNext rfl rfl rfl (by decide +kernel) ⟨Nat.le_of_ble_eq_true rfl, Nat.le_of_ble_eq_true rfl⟩) (r_preV C P [.int a1, .ref (o + k2)] (ci := 8) rfl (kd_lt hk0 (by decide)) (EK_8 hk0)) rfl rfl hl.1 rfl (lv_room (Nat.le_of_ble_eq_true rfl)) dX8_stepGate_10 ⟨Nat.le_of_ble_eq_true rfl, Nat.le_of_ble_eq_true rfl⟩) P.2 (fun u20 H locs h P => ?_)
    refine lv_iconst (v := 0) hx hb dX8_stepGate_13 (by decide) ?_
    exact r_ireti C P h dX8_stepGate_14
set_option maxHeartbeats 4000000 in
set_option maxRecDepth 100000 in
theorem c_X8_stepGate (l : Launch) (D : va_G) (cA : Nat → ClassId) (o : Nat) (k0 : Nat) (a1 : Int32) (k2 : Nat) (hk0 : kd k0 = 8) (hk2 : kd k2 = 1) (u0 : Mm) (Φ : Int32 → Mm → Prop) (h : w_X8_stepGate k0 a1 k2 u0 Φ) : Met l yX8_stepGate wsX8_stepGate rm_X8_stepGate (va_Pc [.ref (o + k0), .int a1, .ref (o + k2)] (Wd 747 o D (tysL cA) (EC cA o u0))) (Qg vI Φ (fun μ => Wd 747 o D (tysL cA) (EC cA o μ)) (aA o 747)) 0 0 (aA o 747) := by
  refine Met.ofW (cc := cX8_stepGate) (maxL := 3) (ret := (some .int)) (by decide) rfl ?_
  intro p e s m args below meth c s₁ B hml hv
  obtain ⟨rfl, hv⟩ := hv
  have hl := lv_entry ([.ref (o + k0), .int a1, .ref (o + k2)]) (n := 3) (Nat.le_of_ble_eq_true rfl)
  rw [lg_entry_eq]
  exact t_X8_stepGate_0 ⟨⟨B.exec, B.bytes, hml, findClass_of_methodNamed B.named, atoms_spec (ws := wsX8_stepGate) B.pre⟩, B.returns, B.notSynchronized, hv.2⟩ k0 a1 k2 u0 hk0 hk2 _ _ _ ⟨hv.1, va_S.rf⟩ hl h
