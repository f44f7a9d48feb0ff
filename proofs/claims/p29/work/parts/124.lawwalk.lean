abbrev rm_L_people : Room := { frames := 3, cells := 1, slots := 6, locals := 64 }
def w_L_people_441 (X193 : Int32 → Int32 → Int32 → Int32 → (Nat → Int32) → Mm → Prop) (Φ : Int32 → Mm → Prop) (x2 : Int32) (x3 : Int32) (x4 : Int32) (x5 : Int32) (x6 : Int32) (f0 : Nat → Int32) (z0 : Int32) (z1 : Int32) (u0 : Mm) : Prop := (if z1 = z0 then (if x6 = (5 : Int32) then (w_X9_gate x5 ((10 : Int32)) u0 (fun r55 u54 => (if r55 = 0 then (w_X9_gate x5 ((11 : Int32)) u54 (fun r58 u57 => (if r58 = (-2 : Int32) then (X193 x2 x3 x4 ((x5 + 1)) f0 u57) else (Φ (0 : Int32) u57)))) else (Φ (0 : Int32) u54)))) else (w_X9_gate x5 ((11 : Int32)) u0 (fun r52 u51 => (if r52 = (-2 : Int32) then (X193 x2 x3 x4 ((x5 + 1)) f0 u51) else (Φ (0 : Int32) u51))))) else (Φ (0 : Int32) u0))
set_option maxHeartbeats 4000000 in
set_option maxRecDepth 100000 in
theorem t_L_people_441 {p : Program} {l : Launch} {e : Env} {s : State} {m : MethodId} {args : Array Value} {below : List Frame} {meth : Method} {c : Code} {D : va_G} {cA : Nat → ClassId} {o q0 : Nat} {X193 : Int32 → Int32 → Int32 → Int32 → (Nat → Int32) → Mm → Prop} {Φ : Int32 → Mm → Prop} (C : Cx p m meth c s args cL_people 10 wsL_people RL (some .boolean) D (tysL cA)) (hX193 : ∀ (x2 : Int32) (x3 : Int32) (x4 : Int32) (x5 : Int32) (f0 : Nat → Int32) (u0 : Mm), ∀ (H : Heap) (locs : List Loc) (ls : Array Slot), HpA o q0 D cA u0 f0 s H locs → lv_has ls 10 [(0, .ref (o + 0)), (1, .ref q0), (2, .int x2), (3, .int x3), (4, .int x4), (5, .int x5)] → X193 x2 x3 x4 x5 f0 u0 → W p l e rm_L_people s m args below meth c H locs 1 6 (MQ below (Qg vI Φ (fun μ => Wd 747 o D (tysL cA) (EC cA o μ)) (fun q => o ≤ q)) args s 1 6 (fun q => o ≤ q)) (F0 m 193 ls [])) : ∀ (x2 : Int32) (x3 : Int32) (x4 : Int32) (x5 : Int32) (x6 : Int32) (f0 : Nat → Int32) (z0 : Int32) (z1 : Int32) (u0 : Mm), ∀ (H : Heap) (locs : List Loc) (ls : Array Slot), HpA o q0 D cA u0 f0 s H locs → lv_has ls 10 [(0, .ref (o + 0)), (1, .ref q0), (2, .int x2), (3, .int x3), (4, .int x4), (5, .int x5), (6, .int x6)] → w_L_people_441 X193 Φ x2 x3 x4 x5 x6 f0 z0 z1 u0 → W p l e rm_L_people s m args below meth c H locs 1 6 (MQ below (Qg vI Φ (fun μ => Wd 747 o D (tysL cA) (EC cA o μ)) (fun q => o ≤ q)) args s 1 6 (fun q => o ≤ q)) (F0 m 441 ls [.int z0, .int z1]) := by
  intro x2 x3 x4 x5 x6 f0 z0 z1 u0 H locs ls P hl h
  have hx := C.1.1
  have hb := C.1.2.1
  unfold w_L_people_441 at h
  refine lv_icmp_ne (tgt := 474) hx hb dL_people_441 (by decide) (fun c49 => ?_) (fun c49 => ?_)
  · have h := ite_f h c49
    refine lv_iconst (v := 0) hx hb dL_people_474 (by decide) ?_
    exact a_ret C P (Or.inl rfl) h dL_people_475
  · have h := ite_t h c49
    refine lv_iload hx hb dL_people_444 (lv_at hl 6 rfl) ?_
    refine lv_iconst (v := 5) hx hb dL_people_446 (by decide) ?_
    refine lv_icmp_ne (tgt := 461) hx hb dL_people_447 (by decide) (fun c50 => ?_) (fun c50 => ?_)
    · have h := ite_f h c50
      refine lv_aload_n hx hb dL_people_461 rfl (lv_at hl 0 rfl) ?_
      refine lv_iload hx hb dL_people_462 (lv_at hl 5 rfl) ?_
      refine lv_bipush (v := 11) hx hb dL_people_464 (by decide) ?_
      refine a_calli (va_runV (As := [.int x5, .int (11 : Int32)]) (rest := []) C.1 (c_X9_gate l D cA o _ _ u0 _ h) (cwV 2 C.1.2.2.2.2 gL_people_X9_gate rfl rfl rfl (by decide +kernel) ⟨Nat.le_of_ble_eq_true rfl, Nat.le_of_ble_eq_true rfl⟩) (w_preV C P.1 [.int x5, .int (11 : Int32)] (ci := 9) rfl (kd_lt kd_at_0 (by decide)) (EK_9 kd_at_0)) rfl rfl hl.1 rfl (lv_room (Nat.le_of_ble_eq_true rfl)) dL_people_466 ⟨Nat.le_of_ble_eq_true rfl, Nat.le_of_ble_eq_true rfl⟩) P (fun r52 u51 H locs h P => ?_)
      refine lv_bipush (v := -2) hx hb dL_people_469 (by decide) ?_
      refine lv_icmp_eq (tgt := 476) hx hb dL_people_471 (by decide) (fun c53 => ?_) (fun c53 => ?_)
      · have h := ite_t h c53
        refine lv_iinc (v := (x5 + 1)) (lv' := [(5, .int (x5 + 1)), (0, .ref (o + 0)), (1, .ref q0), (2, .int x2), (3, .int x3), (4, .int x4), (6, .int x6)]) hx hb dL_people_476 hl (k := 5) rfl rfl (by decide) rfl (fun ls hl => ?_)
        refine lv_goto (tgt := 193) hx hb dL_people_479 (by decide) ?_
        exact hX193 _ _ _ _ _ u51 _ _ _ P (lv_sub hl [1, 2, 3, 4, 5, 0] rfl) h
      · have h := ite_f h c53
        refine lv_iconst (v := 0) hx hb dL_people_474 (by decide) ?_
        exact a_ret C P (Or.inl rfl) h dL_people_475
    · have h := ite_t h c50
      refine lv_aload_n hx hb dL_people_450 rfl (lv_at hl 0 rfl) ?_
      refine lv_iload hx hb dL_people_451 (lv_at hl 5 rfl) ?_
      refine lv_bipush (v := 10) hx hb dL_people_453 (by decide) ?_
      refine a_calli (va_runV (As := [.int x5, .int (10 : Int32)]) (rest := []) C.1 (c_X9_gate l D cA o _ _ u0 _ h) (cwV 2 C.1.2.2.2.2 gL_people_X9_gate rfl rfl rfl (by decide +kernel) ⟨Nat.le_of_ble_eq_true rfl, Nat.le_of_ble_eq_true rfl⟩) (w_preV C P.1 [.int x5, .int (10 : Int32)] (ci := 9) rfl (kd_lt kd_at_0 (by decide)) (EK_9 kd_at_0)) rfl rfl hl.1 rfl (lv_room (Nat.le_of_ble_eq_true rfl)) dL_people_455 ⟨Nat.le_of_ble_eq_true rfl, Nat.le_of_ble_eq_true rfl⟩) P (fun r55 u54 H locs h P => ?_)
      refine lv_if_ne (tgt := 474) hx hb dL_people_458 (by decide) (fun c56 => ?_) (fun c56 => ?_)
      · have h := ite_f h c56
        refine lv_iconst (v := 0) hx hb dL_people_474 (by decide) ?_
        exact a_ret C P (Or.inl rfl) h dL_people_475
      · have h := ite_t h c56
        refine lv_aload_n hx hb dL_people_461 rfl (lv_at hl 0 rfl) ?_
        refine lv_iload hx hb dL_people_462 (lv_at hl 5 rfl) ?_
        refine lv_bipush (v := 11) hx hb dL_people_464 (by decide) ?_
        refine a_calli (va_runV (As := [.int x5, .int (11 : Int32)]) (rest := []) C.1 (c_X9_gate l D cA o _ _ u54 _ h) (cwV 2 C.1.2.2.2.2 gL_people_X9_gate rfl rfl rfl (by decide +kernel) ⟨Nat.le_of_ble_eq_true rfl, Nat.le_of_ble_eq_true rfl⟩) (w_preV C P.1 [.int x5, .int (11 : Int32)] (ci := 9) rfl (kd_lt kd_at_0 (by decide)) (EK_9 kd_at_0)) rfl rfl hl.1 rfl (lv_room (Nat.le_of_ble_eq_true rfl)) dL_people_466 ⟨Nat.le_of_ble_eq_true rfl, Nat.le_of_ble_eq_true rfl⟩) P (fun r58 u57 H locs h P => ?_)
        refine lv_bipush (v := -2) hx hb dL_people_469 (by decide) ?_
        refine lv_icmp_eq (tgt := 476) hx hb dL_people_471 (by decide) (fun c59 => ?_) (fun c59 => ?_)
        · have h := ite_t h c59
          refine lv_iinc (v := (x5 + 1)) (lv' := [(5, .int (x5 + 1)), (0, .ref (o + 0)), (1, .ref q0), (2, .int x2), (3, .int x3), (4, .int x4), (6, .int x6)]) hx hb dL_people_476 hl (k := 5) rfl rfl (by decide) rfl (fun ls hl => ?_)
          refine lv_goto (tgt := 193) hx hb dL_people_479 (by decide) ?_
          exact hX193 _ _ _ _ _ u57 _ _ _ P (lv_sub hl [1, 2, 3, 4, 5, 0] rfl) h
        · have h := ite_f h c59
          refine lv_iconst (v := 0) hx hb dL_people_474 (by decide) ?_
          exact a_ret C P (Or.inl rfl) h dL_people_475
def w_L_people_421 (X193 : Int32 → Int32 → Int32 → Int32 → (Nat → Int32) → Mm → Prop) (Φ : Int32 → Mm → Prop) (x2 : Int32) (x3 : Int32) (x4 : Int32) (x5 : Int32) (x6 : Int32) (x7 : Int32) (f0 : Nat → Int32) (z0 : Int32) (z1 : Int32) (u0 : Mm) : Prop := (if z1 = z0 then (w_X9_gate x5 ((2 : Int32)) u0 (fun r47 u46 => (if r47 ≤ 0 then (w_L_people_441 X193 Φ x2 x3 x4 x5 x6 f0 ((0 : Int32)) x7 u46) else (w_L_people_441 X193 Φ x2 x3 x4 x5 x6 f0 ((1 : Int32)) x7 u46)))) else (Φ (0 : Int32) u0))
set_option maxHeartbeats 4000000 in
set_option maxRecDepth 100000 in
theorem t_L_people_421 {p : Program} {l : Launch} {e : Env} {s : State} {m : MethodId} {args : Array Value} {below : List Frame} {meth : Method} {c : Code} {D : va_G} {cA : Nat → ClassId} {o q0 : Nat} {X193 : Int32 → Int32 → Int32 → Int32 → (Nat → Int32) → Mm → Prop} {Φ : Int32 → Mm → Prop} (C : Cx p m meth c s args cL_people 10 wsL_people RL (some .boolean) D (tysL cA)) (hX193 : ∀ (x2 : Int32) (x3 : Int32) (x4 : Int32) (x5 : Int32) (f0 : Nat → Int32) (u0 : Mm), ∀ (H : Heap) (locs : List Loc) (ls : Array Slot), HpA o q0 D cA u0 f0 s H locs → lv_has ls 10 [(0, .ref (o + 0)), (1, .ref q0), (2, .int x2), (3, .int x3), (4, .int x4), (5, .int x5)] → X193 x2 x3 x4 x5 f0 u0 → W p l e rm_L_people s m args below meth c H locs 1 6 (MQ below (Qg vI Φ (fun μ => Wd 747 o D (tysL cA) (EC cA o μ)) (fun q => o ≤ q)) args s 1 6 (fun q => o ≤ q)) (F0 m 193 ls [])) : ∀ (x2 : Int32) (x3 : Int32) (x4 : Int32) (x5 : Int32) (x6 : Int32) (x7 : Int32) (f0 : Nat → Int32) (z0 : Int32) (z1 : Int32) (u0 : Mm), ∀ (H : Heap) (locs : List Loc) (ls : Array Slot), HpA o q0 D cA u0 f0 s H locs → lv_has ls 10 [(0, .ref (o + 0)), (1, .ref q0), (2, .int x2), (3, .int x3), (4, .int x4), (5, .int x5), (6, .int x6), (7, .int x7)] → w_L_people_421 X193 Φ x2 x3 x4 x5 x6 x7 f0 z0 z1 u0 → W p l e rm_L_people s m args below meth c H locs 1 6 (MQ below (Qg vI Φ (fun μ => Wd 747 o D (tysL cA) (EC cA o μ)) (fun q => o ≤ q)) args s 1 6 (fun q => o ≤ q)) (F0 m 421 ls [.int z0, .int z1]) := by
  intro x2 x3 x4 x5 x6 x7 f0 z0 z1 u0 H locs ls P hl h
  have hx := C.1.1
  have hb := C.1.2.1
  unfold w_L_people_421 at h
  refine lv_icmp_ne (tgt := 474) hx hb dL_people_421 (by decide) (fun c45 => ?_) (fun c45 => ?_)
  · have h := ite_f h c45
    refine lv_iconst (v := 0) hx hb dL_people_474 (by decide) ?_
    exact a_ret C P (Or.inl rfl) h dL_people_475
  · have h := ite_t h c45
    refine lv_iload hx hb dL_people_424 (lv_at hl 7 rfl) ?_
    refine lv_aload_n hx hb dL_people_426 rfl (lv_at hl 0 rfl) ?_
    refine lv_iload hx hb dL_people_427 (lv_at hl 5 rfl) ?_
    refine lv_iconst (v := 2) hx hb dL_people_429 (by decide) ?_
    refine a_calli (va_runV (As := [.int x5, .int (2 : Int32)]) (rest := [.int x7]) C.1 (c_X9_gate l D cA o _ _ u0 _ h) (cwV 2 C.1.2.2.2.2 gL_people_X9_gate rfl rfl rfl (by decide +kernel) ⟨Nat.le_of_ble_eq_true rfl, Nat.le_of_ble_eq_true rfl⟩) (w_preV C P.1 [.int x5, .int (2 : Int32)] (ci := 9) rfl (kd_lt kd_at_0 (by decide)) (EK_9 kd_at_0)) rfl rfl hl.1 rfl (lv_room (Nat.le_of_ble_eq_true rfl)) dL_people_430 ⟨Nat.le_of_ble_eq_true rfl, Nat.le_of_ble_eq_true rfl⟩) P (fun r47 u46 H locs h P => ?_)
    refine lv_if_le (tgt := 440) hx hb dL_people_433 (by decide) (fun c48 => ?_) (fun c48 => ?_)
    · have h := ite_t h c48
      refine lv_iconst (v := 0) hx hb dL_people_440 (by decide) ?_
      exact t_L_people_441 C hX193 _ _ _ _ _ _ _ _ u46 _ _ _ P (lv_sub hl [0, 1, 2, 3, 4, 5, 6] rfl) h
    · have h := ite_f h c48
      refine lv_iconst (v := 1) hx hb dL_people_436 (by decide) ?_
      refine lv_goto (tgt := 441) hx hb dL_people_437 (by decide) ?_
      exact t_L_people_441 C hX193 _ _ _ _ _ _ _ _ u46 _ _ _ P (lv_sub hl [0, 1, 2, 3, 4, 5, 6] rfl) h
def w_L_people_402 (X193 : Int32 → Int32 → Int32 → Int32 → (Nat → Int32) → Mm → Prop) (Φ : Int32 → Mm → Prop) (x2 : Int32) (x3 : Int32) (x4 : Int32) (x5 : Int32) (x6 : Int32) (f0 : Nat → Int32) (z0 : Int32) (u0 : Mm) : Prop := (w_X9_gate x5 ((3 : Int32)) u0 (fun r43 u42 => (if r43 < 0 then (w_L_people_421 X193 Φ x2 x3 x4 x5 x6 z0 f0 ((0 : Int32)) z0 u42) else (w_L_people_421 X193 Φ x2 x3 x4 x5 x6 z0 f0 ((1 : Int32)) z0 u42))))
set_option maxHeartbeats 4000000 in
set_option maxRecDepth 100000 in
theorem t_L_people_402 {p : Program} {l : Launch} {e : Env} {s : State} {m : MethodId} {args : Array Value} {below : List Frame} {meth : Method} {c : Code} {D : va_G} {cA : Nat → ClassId} {o q0 : Nat} {X193 : Int32 → Int32 → Int32 → Int32 → (Nat → Int32) → Mm → Prop} {Φ : Int32 → Mm → Prop} (C : Cx p m meth c s args cL_people 10 wsL_people RL (some .boolean) D (tysL cA)) (hX193 : ∀ (x2 : Int32) (x3 : Int32) (x4 : Int32) (x5 : Int32) (f0 : Nat → Int32) (u0 : Mm), ∀ (H : Heap) (locs : List Loc) (ls : Array Slot), HpA o q0 D cA u0 f0 s H locs → lv_has ls 10 [(0, .ref (o + 0)), (1, .ref q0), (2, .int x2), (3, .int x3), (4, .int x4), (5, .int x5)] → X193 x2 x3 x4 x5 f0 u0 → W p l e rm_L_people s m args below meth c H locs 1 6 (MQ below (Qg vI Φ (fun μ => Wd 747 o D (tysL cA) (EC cA o μ)) (fun q => o ≤ q)) args s 1 6 (fun q => o ≤ q)) (F0 m 193 ls [])) : ∀ (x2 : Int32) (x3 : Int32) (x4 : Int32) (x5 : Int32) (x6 : Int32) (f0 : Nat → Int32) (z0 : Int32) (u0 : Mm), ∀ (H : Heap) (locs : List Loc) (ls : Array Slot), HpA o q0 D cA u0 f0 s H locs → lv_has ls 10 [(0, .ref (o + 0)), (1, .ref q0), (2, .int x2), (3, .int x3), (4, .int x4), (5, .int x5), (6, .int x6)] → w_L_people_402 X193 Φ x2 x3 x4 x5 x6 f0 z0 u0 → W p l e rm_L_people s m args below meth c H locs 1 6 (MQ below (Qg vI Φ (fun μ => Wd 747 o D (tysL cA) (EC cA o μ)) (fun q => o ≤ q)) args s 1 6 (fun q => o ≤ q)) (F0 m 402 ls [.int z0]) := by
  intro x2 x3 x4 x5 x6 f0 z0 u0 H locs ls P hl h
  have hx := C.1.1
  have hb := C.1.2.1
  unfold w_L_people_402 at h
  refine lv_istore (lv' := [(7, .int z0), (0, .ref (o + 0)), (1, .ref q0), (2, .int x2), (3, .int x3), (4, .int x4), (5, .int x5), (6, .int x6)]) hx hb dL_people_402 hl (by decide) rfl (fun ls hl => ?_)
  refine lv_iload hx hb dL_people_404 (lv_at hl 0 rfl) ?_
  refine lv_aload_n hx hb dL_people_406 rfl (lv_at hl 1 rfl) ?_
  refine lv_iload hx hb dL_people_407 (lv_at hl 6 rfl) ?_
  refine lv_iconst (v := 3) hx hb dL_people_409 (by decide) ?_
  refine a_calli (va_runV (As := [.int x5, .int (3 : Int32)]) (rest := [.int z0]) C.1 (c_X9_gate l D cA o _ _ u0 _ h) (cwV 2 C.1.2.2.2.2 gL_people_X9_gate rfl rfl rfl (by decide +kernel) ⟨Nat.le_of_ble_eq_true rfl, Nat.le_of_ble_eq_true rfl⟩) (w_preV C P.1 [.int x5, .int (3 : Int32)] (ci := 9) rfl (kd_lt kd_at_0 (by decide)) (EK_9 kd_at_0)) rfl rfl hl.1 rfl (lv_room (Nat.le_of_ble_eq_true rfl)) dL_people_410 ⟨Nat.le_of_ble_eq_true rfl, Nat.le_of_ble_eq_true rfl⟩) P (fun r43 u42 H locs h P => ?_)
  refine lv_if_lt (tgt := 420) hx hb dL_people_413 (by decide) (fun c44 => ?_) (fun c44 => ?_)
  · have h := ite_t h c44
    refine lv_iconst (v := 0) hx hb dL_people_420 (by decide) ?_
    exact t_L_people_421 C hX193 _ _ _ _ _ _ _ _ _ u42 _ _ _ P (lv_sub hl [1, 2, 3, 4, 5, 6, 7, 0] rfl) h
  · have h := ite_f h c44
    refine lv_iconst (v := 1) hx hb dL_people_416 (by decide) ?_
    refine lv_goto (tgt := 421) hx hb dL_people_417 (by decide) ?_
    exact t_L_people_421 C hX193 _ _ _ _ _ _ _ _ _ u42 _ _ _ P (lv_sub hl [1, 2, 3, 4, 5, 6, 7, 0] rfl) h
def w_L_people_401 (X193 : Int32 → Int32 → Int32 → Int32 → (Nat → Int32) → Mm → Prop) (Φ : Int32 → Mm → Prop) (x2 : Int32) (x3 : Int32) (x4 : Int32) (x5 : Int32) (x6 : Int32) (f0 : Nat → Int32) (u0 : Mm) : Prop := (w_L_people_402 X193 Φ x2 x3 x4 x5 x6 f0 ((0 : Int32)) u0)
set_option maxHeartbeats 4000000 in
set_option maxRecDepth 100000 in
theorem t_L_people_401 {p : Program} {l : Launch} {e : Env} {s : State} {m : MethodId} {args : Array Value} {below : List Frame} {meth : Method} {c : Code} {D : va_G} {cA : Nat → ClassId} {o q0 : Nat} {X193 : Int32 → Int32 → Int32 → Int32 → (Nat → Int32) → Mm → Prop} {Φ : Int32 → Mm → Prop} (C : Cx p m meth c s args cL_people 10 wsL_people RL (some .boolean) D (tysL cA)) (hX193 : ∀ (x2 : Int32) (x3 : Int32) (x4 : Int32) (x5 : Int32) (f0 : Nat → Int32) (u0 : Mm), ∀ (H : Heap) (locs : List Loc) (ls : Array Slot), HpA o q0 D cA u0 f0 s H locs → lv_has ls 10 [(0, .ref (o + 0)), (1, .ref q0), (2, .int x2), (3, .int x3), (4, .int x4), (5, .int x5)] → X193 x2 x3 x4 x5 f0 u0 → W p l e rm_L_people s m args below meth c H locs 1 6 (MQ below (Qg vI Φ (fun μ => Wd 747 o D (tysL cA) (EC cA o μ)) (fun q => o ≤ q)) args s 1 6 (fun q => o ≤ q)) (F0 m 193 ls [])) : ∀ (x2 : Int32) (x3 : Int32) (x4 : Int32) (x5 : Int32) (x6 : Int32) (f0 : Nat → Int32) (u0 : Mm), ∀ (H : Heap) (locs : List Loc) (ls : Array Slot), HpA o q0 D cA u0 f0 s H locs → lv_has ls 10 [(0, .ref (o + 0)), (1, .ref q0), (2, .int x2), (3, .int x3), (4, .int x4), (5, .int x5), (6, .int x6)] → w_L_people_401 X193 Φ x2 x3 x4 x5 x6 f0 u0 → W p l e rm_L_people s m args below meth c H locs 1 6 (MQ below (Qg vI Φ (fun μ => Wd 747 o D (tysL cA) (EC cA o μ)) (fun q => o ≤ q)) args s 1 6 (fun q => o ≤ q)) (F0 m 401 ls []) := by
  intro x2 x3 x4 x5 x6 f0 u0 H locs ls P hl h
  have hx := C.1.1
  have hb := C.1.2.1
  unfold w_L_people_401 at h
  refine lv_iconst (v := 0) hx hb dL_people_401 (by decide) ?_
  exact t_L_people_402 C hX193 _ _ _ _ _ _ _ u0 _ _ _ P (lv_sub hl [0, 1, 2, 3, 4, 5, 6] rfl) h
def w_L_people_263 (X193 : Int32 → Int32 → Int32 → Int32 → (Nat → Int32) → Mm → Prop) (X237 : Int32 → Int32 → Int32 → Int32 → Int32 → (Nat → Int32) → Mm → Prop) (Φ : Int32 → Mm → Prop) : Nat → Int32 → Int32 → Int32 → Int32 → Int32 → Int32 → Int32 → (Nat → Int32) → Mm → Prop
  | 0, _, _, _, _, _, _, _, _, _ => False
  | n + 1, x2, x3, x4, x5, x6, x7, x8, f0, u0 => (if x7 ≤ x8 then (w_X9_queued x5 x6 x7 u0 (fun r65 u64 => (if r65 = (-5 : Int32) then (w_X9_queued x5 x6 ((-1 : Int32)) u64 (fun r68 u67 => (if r68 = (-2 : Int32) then (w_X9_queued x5 ((2 : Int32)) ((0 : Int32)) u67 (fun r71 u70 => (if r71 = (-2 : Int32) then (X237 x2 x3 x4 x5 ((x6 + 1)) f0 u70) else (Φ (0 : Int32) u70)))) else (Φ (0 : Int32) u67)))) else (Φ (0 : Int32) u64)))) else (w_X9_queued x5 x6 x8 u0 (fun r74 u73 => (if r74 < 0 then (Φ (0 : Int32) u73) else (w_X9_person r74 ((3 : Int32)) u73 (fun r77 u76 => (if r77 = x5 then (w_X9_person r74 ((0 : Int32)) u76 (fun r80 u79 => (if x6 = 0 then (if r80 = (1 : Int32) then (w_L_people_263 X193 X237 Φ n x2 x3 x4 x5 x6 x7 ((x8 + 1)) f0 u79) else (Φ (0 : Int32) u79)) else (if r80 = (4 : Int32) then (w_L_people_263 X193 X237 Φ n x2 x3 x4 x5 x6 x7 ((x8 + 1)) f0 u79) else (Φ (0 : Int32) u79))))) else (Φ (0 : Int32) u76))))))))
set_option maxHeartbeats 4000000 in
set_option maxRecDepth 100000 in
theorem t_L_people_263 {p : Program} {l : Launch} {e : Env} {s : State} {m : MethodId} {args : Array Value} {below : List Frame} {meth : Method} {c : Code} {D : va_G} {cA : Nat → ClassId} {o q0 : Nat} {X193 : Int32 → Int32 → Int32 → Int32 → (Nat → Int32) → Mm → Prop} {X237 : Int32 → Int32 → Int32 → Int32 → Int32 → (Nat → Int32) → Mm → Prop} {Φ : Int32 → Mm → Prop} (C : Cx p m meth c s args cL_people 10 wsL_people RL (some .boolean) D (tysL cA)) (hX193 : ∀ (x2 : Int32) (x3 : Int32) (x4 : Int32) (x5 : Int32) (f0 : Nat → Int32) (u0 : Mm), ∀ (H : Heap) (locs : List Loc) (ls : Array Slot), HpA o q0 D cA u0 f0 s H locs → lv_has ls 10 [(0, .ref (o + 0)), (1, .ref q0), (2, .int x2), (3, .int x3), (4, .int x4), (5, .int x5)] → X193 x2 x3 x4 x5 f0 u0 → W p l e rm_L_people s m args below meth c H locs 1 6 (MQ below (Qg vI Φ (fun μ => Wd 747 o D (tysL cA) (EC cA o μ)) (fun q => o ≤ q)) args s 1 6 (fun q => o ≤ q)) (F0 m 193 ls [])) (hX237 : ∀ (x2 : Int32) (x3 : Int32) (x4 : Int32) (x5 : Int32) (x6 : Int32) (f0 : Nat → Int32) (u0 : Mm), ∀ (H : Heap) (locs : List Loc) (ls : Array Slot), HpA o q0 D cA u0 f0 s H locs → lv_has ls 10 [(0, .ref (o + 0)), (1, .ref q0), (2, .int x2), (3, .int x3), (4, .int x4), (5, .int x5), (6, .int x6)] → X237 x2 x3 x4 x5 x6 f0 u0 → W p l e rm_L_people s m args below meth c H locs 1 6 (MQ below (Qg vI Φ (fun μ => Wd 747 o D (tysL cA) (EC cA o μ)) (fun q => o ≤ q)) args s 1 6 (fun q => o ≤ q)) (F0 m 237 ls [])) : ∀ n : Nat, ∀ (x2 : Int32) (x3 : Int32) (x4 : Int32) (x5 : Int32) (x6 : Int32) (x7 : Int32) (x8 : Int32) (f0 : Nat → Int32) (u0 : Mm), ∀ (H : Heap) (locs : List Loc) (ls : Array Slot), HpA o q0 D cA u0 f0 s H locs → lv_has ls 10 [(0, .ref (o + 0)), (1, .ref q0), (2, .int x2), (3, .int x3), (4, .int x4), (5, .int x5), (6, .int x6), (7, .int x7), (8, .int x8)] → w_L_people_263 X193 X237 Φ n x2 x3 x4 x5 x6 x7 x8 f0 u0 → W p l e rm_L_people s m args below meth c H locs 1 6 (MQ below (Qg vI Φ (fun μ => Wd 747 o D (tysL cA) (EC cA o μ)) (fun q => o ≤ q)) args s 1 6 (fun q => o ≤ q)) (F0 m 263 ls []) := by
  intro n
  induction n with
  | zero => intro x2 x3 x4 x5 x6 x7 x8 f0 u0 H locs ls P hl h; exact h.elim
  | succ n ih =>
    intro x2 x3 x4 x5 x6 x7 x8 f0 u0 H locs ls P hl h
    have hx := C.1.1
    have hb := C.1.2.1
    rw [w_L_people_263] at h
    refine lv_iload hx hb dL_people_263 (lv_at hl 8 rfl) ?_
    refine lv_iload hx hb dL_people_265 (lv_at hl 7 rfl) ?_
    refine lv_icmp_ge (tgt := 327) hx hb dL_people_267 (by decide) (fun c63 => ?_) (fun c63 => ?_)
    · have h := ite_t h c63
      refine lv_aload_n hx hb dL_people_327 rfl (lv_at hl 0 rfl) ?_
      refine lv_iload hx hb dL_people_328 (lv_at hl 5 rfl) ?_
      refine lv_iload hx hb dL_people_330 (lv_at hl 6 rfl) ?_
      refine lv_iload hx hb dL_people_332 (lv_at hl 7 rfl) ?_
      refine a_calli (va_runV (As := [.int x5, .int x6, .int x7]) (rest := []) C.1 (c_X9_queued l D cA o _ _ _ u0 _ h) (cwV 3 C.1.2.2.2.2 gL_people_X9_queued rfl rfl rfl (by decide +kernel) ⟨Nat.le_of_ble_eq_true rfl, Nat.le_of_ble_eq_true rfl⟩) (w_preV C P.1 [.int x5, .int x6, .int x7] (ci := 9) rfl (kd_lt kd_at_0 (by decide)) (EK_9 kd_at_0)) rfl rfl hl.1 rfl (lv_room (Nat.le_of_ble_eq_true rfl)) dL_people_334 ⟨Nat.le_of_ble_eq_true rfl, Nat.le_of_ble_eq_true rfl⟩) P (fun r65 u64 H locs h P => ?_)
      refine lv_bipush (v := -5) hx hb dL_people_337 (by decide) ?_
      refine lv_icmp_ne (tgt := 369) hx hb dL_people_339 (by decide) (fun c66 => ?_) (fun c66 => ?_)
      · have h := ite_f h c66
        refine lv_iconst (v := 0) hx hb dL_people_369 (by decide) ?_
        exact a_ret C P (Or.inl rfl) h dL_people_370
      · have h := ite_t h c66
        refine lv_aload_n hx hb dL_people_342 rfl (lv_at hl 0 rfl) ?_
        refine lv_iload hx hb dL_people_343 (lv_at hl 5 rfl) ?_
        refine lv_iload hx hb dL_people_345 (lv_at hl 6 rfl) ?_
        refine lv_iconst (v := -1) hx hb dL_people_347 (by decide) ?_
        refine a_calli (va_runV (As := [.int x5, .int x6, .int (-1 : Int32)]) (rest := []) C.1 (c_X9_queued l D cA o _ _ _ u64 _ h) (cwV 3 C.1.2.2.2.2 gL_people_X9_queued rfl rfl rfl (by decide +kernel) ⟨Nat.le_of_ble_eq_true rfl, Nat.le_of_ble_eq_true rfl⟩) (w_preV C P.1 [.int x5, .int x6, .int (-1 : Int32)] (ci := 9) rfl (kd_lt kd_at_0 (by decide)) (EK_9 kd_at_0)) rfl rfl hl.1 rfl (lv_room (Nat.le_of_ble_eq_true rfl)) dL_people_348 ⟨Nat.le_of_ble_eq_true rfl, Nat.le_of_ble_eq_true rfl⟩) P (fun r68 u67 H locs h P => ?_)
        refine lv_bipush (v := -2) hx hb dL_people_351 (by decide) ?_
        refine lv_icmp_ne (tgt := 369) hx hb dL_people_353 (by decide) (fun c69 => ?_) (fun c69 => ?_)
        · have h := ite_f h c69
          refine lv_iconst (v := 0) hx hb dL_people_369 (by decide) ?_
          exact a_ret C P (Or.inl rfl) h dL_people_370
        · have h := ite_t h c69
          refine lv_aload_n hx hb dL_people_356 rfl (lv_at hl 0 rfl) ?_
          refine lv_iload hx hb dL_people_357 (lv_at hl 5 rfl) ?_
          refine lv_iconst (v := 2) hx hb dL_people_359 (by decide) ?_
          refine lv_iconst (v := 0) hx hb dL_people_360 (by decide) ?_
          refine a_calli (va_runV (As := [.int x5, .int (2 : Int32), .int (0 : Int32)]) (rest := []) C.1 (c_X9_queued l D cA o _ _ _ u67 _ h) (cwV 3 C.1.2.2.2.2 gL_people_X9_queued rfl rfl rfl (by decide +kernel) ⟨Nat.le_of_ble_eq_true rfl, Nat.le_of_ble_eq_true rfl⟩) (w_preV C P.1 [.int x5, .int (2 : Int32), .int (0 : Int32)] (ci := 9) rfl (kd_lt kd_at_0 (by decide)) (EK_9 kd_at_0)) rfl rfl hl.1 rfl (lv_room (Nat.le_of_ble_eq_true rfl)) dL_people_361 ⟨Nat.le_of_ble_eq_true rfl, Nat.le_of_ble_eq_true rfl⟩) P (fun r71 u70 H locs h P => ?_)
          refine lv_bipush (v := -2) hx hb dL_people_364 (by decide) ?_
          refine lv_icmp_eq (tgt := 371) hx hb dL_people_366 (by decide) (fun c72 => ?_) (fun c72 => ?_)
          · have h := ite_t h c72
            refine lv_iinc (v := (x6 + 1)) (lv' := [(6, .int (x6 + 1)), (0, .ref (o + 0)), (1, .ref q0), (2, .int x2), (3, .int x3), (4, .int x4), (5, .int x5), (7, .int x7), (8, .int x8)]) hx hb dL_people_371 hl (k := 6) rfl rfl (by decide) rfl (fun ls hl => ?_)
            refine lv_goto (tgt := 237) hx hb dL_people_374 (by decide) ?_
            exact hX237 _ _ _ _ _ _ u70 _ _ _ P (lv_sub hl [1, 2, 3, 4, 5, 6, 0] rfl) h
          · have h := ite_f h c72
            refine lv_iconst (v := 0) hx hb dL_people_369 (by decide) ?_
            exact a_ret C P (Or.inl rfl) h dL_people_370
    · have h := ite_f h c63
      refine lv_aload_n hx hb dL_people_270 rfl (lv_at hl 0 rfl) ?_
      refine lv_iload hx hb dL_people_271 (lv_at hl 5 rfl) ?_
      refine lv_iload hx hb dL_people_273 (lv_at hl 6 rfl) ?_
      refine lv_iload hx hb dL_people_275 (lv_at hl 8 rfl) ?_
      refine a_calli (va_runV (As := [.int x5, .int x6, .int x8]) (rest := []) C.1 (c_X9_queued l D cA o _ _ _ u0 _ h) (cwV 3 C.1.2.2.2.2 gL_people_X9_queued rfl rfl rfl (by decide +kernel) ⟨Nat.le_of_ble_eq_true rfl, Nat.le_of_ble_eq_true rfl⟩) (w_preV C P.1 [.int x5, .int x6, .int x8] (ci := 9) rfl (kd_lt kd_at_0 (by decide)) (EK_9 kd_at_0)) rfl rfl hl.1 rfl (lv_room (Nat.le_of_ble_eq_true rfl)) dL_people_277 ⟨Nat.le_of_ble_eq_true rfl, Nat.le_of_ble_eq_true rfl⟩) P (fun r74 u73 H locs h P => ?_)
      refine lv_istore (lv' := [(9, .int r74), (0, .ref (o + 0)), (1, .ref q0), (2, .int x2), (3, .int x3), (4, .int x4), (5, .int x5), (6, .int x6), (7, .int x7), (8, .int x8)]) hx hb dL_people_280 hl (by decide) rfl (fun ls hl => ?_)
      refine lv_iload hx hb dL_people_282 (lv_at hl 0 rfl) ?_
      refine lv_if_lt (tgt := 319) hx hb dL_people_284 (by decide) (fun c75 => ?_) (fun c75 => ?_)
      · have h := ite_t h c75
        refine lv_iconst (v := 0) hx hb dL_people_319 (by decide) ?_
        exact a_ret C P (Or.inl rfl) h dL_people_320
      · have h := ite_f h c75
        refine lv_aload_n hx hb dL_people_287 rfl (lv_at hl 1 rfl) ?_
        refine lv_iload hx hb dL_people_288 (lv_at hl 0 rfl) ?_
        refine lv_iconst (v := 3) hx hb dL_people_290 (by decide) ?_
        refine a_calli (va_runV (As := [.int r74, .int (3 : Int32)]) (rest := []) C.1 (c_X9_person l D cA o _ _ u73 _ h) (cwV 2 C.1.2.2.2.2 gL_people_X9_person rfl rfl rfl (by decide +kernel) ⟨Nat.le_of_ble_eq_true rfl, Nat.le_of_ble_eq_true rfl⟩) (w_preV C P.1 [.int r74, .int (3 : Int32)] (ci := 9) rfl (kd_lt kd_at_0 (by decide)) (EK_9 kd_at_0)) rfl rfl hl.1 rfl (lv_room (Nat.le_of_ble_eq_true rfl)) dL_people_291 ⟨Nat.le_of_ble_eq_true rfl, Nat.le_of_ble_eq_true rfl⟩) P (fun r77 u76 H locs h P => ?_)
        refine lv_iload hx hb dL_people_294 (lv_at hl 6 rfl) ?_
        refine lv_icmp_ne (tgt := 319) hx hb dL_people_296 (by decide) (fun c78 => ?_) (fun c78 => ?_)
        · have h := ite_f h c78
          refine lv_iconst (v := 0) hx hb dL_people_319 (by decide) ?_
          exact a_ret C P (Or.inl rfl) h dL_people_320
        · have h := ite_t h c78
          refine lv_aload_n hx hb dL_people_299 rfl (lv_at hl 1 rfl) ?_
          refine lv_iload hx hb dL_people_300 (lv_at hl 0 rfl) ?_
          refine lv_iconst (v := 0) hx hb dL_people_302 (by decide) ?_
          refine a_calli (va_runV (As := [.int r74, .int (0 : Int32)]) (rest := []) C.1 (c_X9_person l D cA o _ _ u76 _ h) (cwV 2 C.1.2.2.2.2 gL_people_X9_person rfl rfl rfl (by decide +kernel) ⟨Nat.le_of_ble_eq_true rfl, Nat.le_of_ble_eq_true rfl⟩) (w_preV C P.1 [.int r74, .int (0 : Int32)] (ci := 9) rfl (kd_lt kd_at_0 (by decide)) (EK_9 kd_at_0)) rfl rfl hl.1 rfl (lv_room (Nat.le_of_ble_eq_true rfl)) dL_people_303 ⟨Nat.le_of_ble_eq_true rfl, Nat.le_of_ble_eq_true rfl⟩) P (fun r80 u79 H locs h P => ?_)
          refine lv_iload hx hb dL_people_306 (lv_at hl 7 rfl) ?_
          refine lv_if_ne (tgt := 315) hx hb dL_people_308 (by decide) (fun c81 => ?_) (fun c81 => ?_)
          · have h := ite_f h c81
            refine lv_iconst (v := 4) hx hb dL_people_315 (by decide) ?_
            refine lv_icmp_eq (tgt := 321) hx hb dL_people_316 (by decide) (fun c82 => ?_) (fun c82 => ?_)
            · have h := ite_t h c82
              refine lv_iinc (v := (x8 + 1)) (lv' := [(8, .int (x8 + 1)), (9, .int r74), (0, .ref (o + 0)), (1, .ref q0), (2, .int x2), (3, .int x3), (4, .int x4), (5, .int x5), (6, .int x6), (7, .int x7)]) hx hb dL_people_321 hl (k := 9) rfl rfl (by decide) rfl (fun ls hl => ?_)
              refine lv_goto (tgt := 263) hx hb dL_people_324 (by decide) ?_
              exact ih _ _ _ _ _ _ _ _ u79 _ _ _ P (lv_sub hl [2, 3, 4, 5, 6, 7, 8, 9, 0] rfl) h
            · have h := ite_f h c82
              refine lv_iconst (v := 0) hx hb dL_people_319 (by decide) ?_
              exact a_ret C P (Or.inl rfl) h dL_people_320
          · have h := ite_t h c81
            refine lv_iconst (v := 1) hx hb dL_people_311 (by decide) ?_
            refine lv_goto (tgt := 316) hx hb dL_people_312 (by decide) ?_
            refine lv_icmp_eq (tgt := 321) hx hb dL_people_316 (by decide) (fun c83 => ?_) (fun c83 => ?_)
            · have h := ite_t h c83
              refine lv_iinc (v := (x8 + 1)) (lv' := [(8, .int (x8 + 1)), (9, .int r74), (0, .ref (o + 0)), (1, .ref q0), (2, .int x2), (3, .int x3), (4, .int x4), (5, .int x5), (6, .int x6), (7, .int x7)]) hx hb dL_people_321 hl (k := 9) rfl rfl (by decide) rfl (fun ls hl => ?_)
              refine lv_goto (tgt := 263) hx hb dL_people_324 (by decide) ?_
              exact ih _ _ _ _ _ _ _ _ u79 _ _ _ P (lv_sub hl [2, 3, 4, 5, 6, 7, 8, 9, 0] rfl) h
            · have h := ite_f h c83
              refine lv_iconst (v := 0) hx hb dL_people_319 (by decide) ?_
              exact a_ret C P (Or.inl rfl) h dL_people_320
def w_L_people_237 (X193 : Int32 → Int32 → Int32 → Int32 → (Nat → Int32) → Mm → Prop) (Φ : Int32 → Mm → Prop) : Nat → Int32 → Int32 → Int32 → Int32 → Int32 → (Nat → Int32) → Mm → Prop
  | 0, _, _, _, _, _, _, _ => False
  | n + 1, x2, x3, x4, x5, x6, f0, u0 => (if (2 : Int32) ≤ x6 then (w_X9_gate x5 ((1 : Int32)) u0 (fun r40 u39 => (if r40 ≤ 0 then (w_L_people_401 X193 Φ x2 x3 x4 x5 r40 f0 u39) else (if (5 : Int32) ≤ r40 then (w_L_people_401 X193 Φ x2 x3 x4 x5 r40 f0 u39) else (w_L_people_402 X193 Φ x2 x3 x4 x5 r40 f0 ((1 : Int32)) u39))))) else (w_X9_gate x5 (((4 : Int32) + x6)) u0 (fun r62 u61 => (∃ n263 : Nat, w_L_people_263 X193 (fun y0 y1 y2 y3 y4 y5 u => w_L_people_237 X193 Φ n y0 y1 y2 y3 y4 y5 u) Φ n263 x2 ((x3 + r62)) x4 x5 x6 r62 ((0 : Int32)) f0 u61))))
set_option maxHeartbeats 4000000 in
set_option maxRecDepth 100000 in
theorem t_L_people_237 {p : Program} {l : Launch} {e : Env} {s : State} {m : MethodId} {args : Array Value} {below : List Frame} {meth : Method} {c : Code} {D : va_G} {cA : Nat → ClassId} {o q0 : Nat} {X193 : Int32 → Int32 → Int32 → Int32 → (Nat → Int32) → Mm → Prop} {Φ : Int32 → Mm → Prop} (C : Cx p m meth c s args cL_people 10 wsL_people RL (some .boolean) D (tysL cA)) (hX193 : ∀ (x2 : Int32) (x3 : Int32) (x4 : Int32) (x5 : Int32) (f0 : Nat → Int32) (u0 : Mm), ∀ (H : Heap) (locs : List Loc) (ls : Array Slot), HpA o q0 D cA u0 f0 s H locs → lv_has ls 10 [(0, .ref (o + 0)), (1, .ref q0), (2, .int x2), (3, .int x3), (4, .int x4), (5, .int x5)] → X193 x2 x3 x4 x5 f0 u0 → W p l e rm_L_people s m args below meth c H locs 1 6 (MQ below (Qg vI Φ (fun μ => Wd 747 o D (tysL cA) (EC cA o μ)) (fun q => o ≤ q)) args s 1 6 (fun q => o ≤ q)) (F0 m 193 ls [])) : ∀ n : Nat, ∀ (x2 : Int32) (x3 : Int32) (x4 : Int32) (x5 : Int32) (x6 : Int32) (f0 : Nat → Int32) (u0 : Mm), ∀ (H : Heap) (locs : List Loc) (ls : Array Slot), HpA o q0 D cA u0 f0 s H locs → lv_has ls 10 [(0, .ref (o + 0)), (1, .ref q0), (2, .int x2), (3, .int x3), (4, .int x4), (5, .int x5), (6, .int x6)] → w_L_people_237 X193 Φ n x2 x3 x4 x5 x6 f0 u0 → W p l e rm_L_people s m args below meth c H locs 1 6 (MQ below (Qg vI Φ (fun μ => Wd 747 o D (tysL cA) (EC cA o μ)) (fun q => o ≤ q)) args s 1 6 (fun q => o ≤ q)) (F0 m 237 ls []) := by
  intro n
  induction n with
  | zero => intro x2 x3 x4 x5 x6 f0 u0 H locs ls P hl h; exact h.elim
  | succ n ih =>
    intro x2 x3 x4 x5 x6 f0 u0 H locs ls P hl h
    have hx := C.1.1
    have hb := C.1.2.1
    rw [w_L_people_237] at h
    refine lv_iload hx hb dL_people_237 (lv_at hl 6 rfl) ?_
    refine lv_iconst (v := 2) hx hb dL_people_239 (by decide) ?_
    refine lv_icmp_ge (tgt := 377) hx hb dL_people_240 (by decide) (fun c38 => ?_) (fun c38 => ?_)
    · have h := ite_t h c38
      refine lv_aload_n hx hb dL_people_377 rfl (lv_at hl 0 rfl) ?_
      refine lv_iload hx hb dL_people_378 (lv_at hl 5 rfl) ?_
      refine lv_iconst (v := 1) hx hb dL_people_380 (by decide) ?_
      refine a_calli (va_runV (As := [.int x5, .int (1 : Int32)]) (rest := []) C.1 (c_X9_gate l D cA o _ _ u0 _ h) (cwV 2 C.1.2.2.2.2 gL_people_X9_gate rfl rfl rfl (by decide +kernel) ⟨Nat.le_of_ble_eq_true rfl, Nat.le_of_ble_eq_true rfl⟩) (w_preV C P.1 [.int x5, .int (1 : Int32)] (ci := 9) rfl (kd_lt kd_at_0 (by decide)) (EK_9 kd_at_0)) rfl rfl hl.1 rfl (lv_room (Nat.le_of_ble_eq_true rfl)) dL_people_381 ⟨Nat.le_of_ble_eq_true rfl, Nat.le_of_ble_eq_true rfl⟩) P (fun r40 u39 H locs h P => ?_)
      refine lv_istore (lv' := [(6, .int r40), (0, .ref (o + 0)), (1, .ref q0), (2, .int x2), (3, .int x3), (4, .int x4), (5, .int x5)]) hx hb dL_people_384 hl (by decide) rfl (fun ls hl => ?_)
      refine lv_iload hx hb dL_people_386 (lv_at hl 0 rfl) ?_
      refine lv_if_le (tgt := 401) hx hb dL_people_388 (by decide) (fun c41 => ?_) (fun c41 => ?_)
      · have h := ite_t h c41
        exact t_L_people_401 C hX193 _ _ _ _ _ _ u39 _ _ _ P (lv_sub hl [1, 2, 3, 4, 5, 6, 0] rfl) h
      · have h := ite_f h c41
        refine lv_iload hx hb dL_people_391 (lv_at hl 0 rfl) ?_
        refine lv_iconst (v := 5) hx hb dL_people_393 (by decide) ?_
        refine lv_icmp_ge (tgt := 401) hx hb dL_people_394 (by decide) (fun c60 => ?_) (fun c60 => ?_)
        · have h := ite_t h c60
          exact t_L_people_401 C hX193 _ _ _ _ _ _ u39 _ _ _ P (lv_sub hl [1, 2, 3, 4, 5, 6, 0] rfl) h
        · have h := ite_f h c60
          refine lv_iconst (v := 1) hx hb dL_people_397 (by decide) ?_
          refine lv_goto (tgt := 402) hx hb dL_people_398 (by decide) ?_
          exact t_L_people_402 C hX193 _ _ _ _ _ _ _ u39 _ _ _ P (lv_sub hl [1, 2, 3, 4, 5, 6, 0] rfl) h
    · have h := ite_f h c38
      refine lv_aload_n hx hb dL_people_243 rfl (lv_at hl 0 rfl) ?_
      refine lv_iload hx hb dL_people_244 (lv_at hl 5 rfl) ?_
      refine lv_iconst (v := 4) hx hb dL_people_246 (by decide) ?_
      refine lv_iload hx hb dL_people_247 (lv_at hl 6 rfl) ?_
      refine lv_iadd hx hb dL_people_249 ?_
      refine a_calli (va_runV (As := [.int x5, .int ((4 : Int32) + x6)]) (rest := []) C.1 (c_X9_gate l D cA o _ _ u0 _ h) (cwV 2 C.1.2.2.2.2 gL_people_X9_gate rfl rfl rfl (by decide +kernel) ⟨Nat.le_of_ble_eq_true rfl, Nat.le_of_ble_eq_true rfl⟩) (w_preV C P.1 [.int x5, .int ((4 : Int32) + x6)] (ci := 9) rfl (kd_lt kd_at_0 (by decide)) (EK_9 kd_at_0)) rfl rfl hl.1 rfl (lv_room (Nat.le_of_ble_eq_true rfl)) dL_people_250 ⟨Nat.le_of_ble_eq_true rfl, Nat.le_of_ble_eq_true rfl⟩) P (fun r62 u61 H locs h P => ?_)
      refine lv_istore (lv' := [(7, .int r62), (0, .ref (o + 0)), (1, .ref q0), (2, .int x2), (3, .int x3), (4, .int x4), (5, .int x5), (6, .int x6)]) hx hb dL_people_253 hl (by decide) rfl (fun ls hl => ?_)
      refine lv_iload_n hx hb dL_people_255 rfl (lv_at hl 4 rfl) ?_
      refine lv_iload hx hb dL_people_256 (lv_at hl 0 rfl) ?_
      refine lv_iadd hx hb dL_people_258 ?_
      refine lv_istore_n (lv' := [(3, .int (x3 + r62)), (7, .int r62), (0, .ref (o + 0)), (1, .ref q0), (2, .int x2), (4, .int x4), (5, .int x5), (6, .int x6)]) hx hb dL_people_259 rfl hl (by decide) rfl (fun ls hl => ?_)
      refine lv_iconst (v := 0) hx hb dL_people_260 (by decide) ?_
      refine lv_istore (lv' := [(8, .int (0 : Int32)), (3, .int (x3 + r62)), (7, .int r62), (0, .ref (o + 0)), (1, .ref q0), (2, .int x2), (4, .int x4), (5, .int x5), (6, .int x6)]) hx hb dL_people_261 hl (by decide) rfl (fun ls hl => ?_)
      obtain ⟨n263, h⟩ := h
      exact t_L_people_263 C hX193 ih n263 _ _ _ _ _ _ _ _ u61 _ _ _ P (lv_sub hl [3, 4, 5, 1, 6, 7, 8, 2, 0] rfl) h
def w_L_people_193  (Φ : Int32 → Mm → Prop) : Nat → Int32 → Int32 → Int32 → Int32 → (Nat → Int32) → Mm → Prop
  | 0, _, _, _, _, _, _ => False
  | n + 1, x2, x3, x4, x5, f0, u0 => (w_X9_count ((1 : Int32)) u0 (fun r5 u4 => (if r5 ≤ x5 then (w_X9_count ((3 : Int32)) u4 (fun r8 u7 => (if r8 = ((f0 (3 : Int32).toNatClampNeg) + (f0 (4 : Int32).toNatClampNeg)) then (w_X9_count ((4 : Int32)) u7 (fun r11 u10 => (if r11 = (f0 (1 : Int32).toNatClampNeg) then (w_X9_count ((5 : Int32)) u10 (fun r14 u13 => (if r14 = (f0 (2 : Int32).toNatClampNeg) then (w_X9_count ((6 : Int32)) u13 (fun r17 u16 => (if r17 = (f0 (5 : Int32).toNatClampNeg) then (w_X9_count ((7 : Int32)) u16 (fun r20 u19 => (if r20 = x2 then (if x2 = (f0 (0 : Int32).toNatClampNeg) then (if x3 = ((f0 (1 : Int32).toNatClampNeg) + (f0 (4 : Int32).toNatClampNeg)) then (if x4 = (f0 (2 : Int32).toNatClampNeg) then (w_X9_count ((2 : Int32)) u19 (fun r26 u25 => (w_X9_person r26 ((0 : Int32)) u25 (fun r28 u27 => (if r28 = (-1 : Int32) then (w_X9_count ((13 : Int32)) u27 (fun r31 u30 => (if r31 = (-2 : Int32) then (Φ (1 : Int32) u30) else (Φ (0 : Int32) u30)))) else (Φ (0 : Int32) u27)))))) else (Φ (0 : Int32) u19)) else (Φ (0 : Int32) u19)) else (Φ (0 : Int32) u19)) else (Φ (0 : Int32) u19)))) else (Φ (0 : Int32) u16)))) else (Φ (0 : Int32) u13)))) else (Φ (0 : Int32) u10)))) else (Φ (0 : Int32) u7)))) else (w_X9_gate x5 ((8 : Int32)) u4 (fun r34 u33 => (w_X9_gate x5 ((3 : Int32)) u33 (fun r36 u35 => (if r36 < 0 then (∃ n237 : Nat, w_L_people_237 (fun y0 y1 y2 y3 y4 u => w_L_people_193 Φ n y0 y1 y2 y3 y4 u) Φ n237 ((x2 + r34)) x3 ((x4 + (0 : Int32))) x5 ((0 : Int32)) f0 u35) else (∃ n237 : Nat, w_L_people_237 (fun y0 y1 y2 y3 y4 u => w_L_people_193 Φ n y0 y1 y2 y3 y4 u) Φ n237 ((x2 + r34)) x3 ((x4 + (1 : Int32))) x5 ((0 : Int32)) f0 u35)))))))))
set_option maxHeartbeats 4000000 in
set_option maxRecDepth 100000 in
theorem t_L_people_193 {p : Program} {l : Launch} {e : Env} {s : State} {m : MethodId} {args : Array Value} {below : List Frame} {meth : Method} {c : Code} {D : va_G} {cA : Nat → ClassId} {o q0 : Nat}  {Φ : Int32 → Mm → Prop} (C : Cx p m meth c s args cL_people 10 wsL_people RL (some .boolean) D (tysL cA)) : ∀ n : Nat, ∀ (x2 : Int32) (x3 : Int32) (x4 : Int32) (x5 : Int32) (f0 : Nat → Int32) (u0 : Mm), ∀ (H : Heap) (locs : List Loc) (ls : Array Slot), HpA o q0 D cA u0 f0 s H locs → lv_has ls 10 [(0, .ref (o + 0)), (1, .ref q0), (2, .int x2), (3, .int x3), (4, .int x4), (5, .int x5)] → w_L_people_193 Φ n x2 x3 x4 x5 f0 u0 → W p l e rm_L_people s m args below meth c H locs 1 6 (MQ below (Qg vI Φ (fun μ => Wd 747 o D (tysL cA) (EC cA o μ)) (fun q => o ≤ q)) args s 1 6 (fun q => o ≤ q)) (F0 m 193 ls []) := by
  intro n
  induction n with
  | zero => intro x2 x3 x4 x5 f0 u0 H locs ls P hl h; exact h.elim
  | succ n ih =>
    intro x2 x3 x4 x5 f0 u0 H locs ls P hl h
    have hx := C.1.1
    have hb := C.1.2.1
    rw [w_L_people_193] at h
    refine lv_iload hx hb dL_people_193 (lv_at hl 5 rfl) ?_
    refine lv_aload_n hx hb dL_people_195 rfl (lv_at hl 0 rfl) ?_
    refine lv_iconst (v := 1) hx hb dL_people_196 (by decide) ?_
    refine a_calli (va_runV (As := [.int (1 : Int32)]) (rest := [.int x5]) C.1 (c_X9_count l D cA o _ u0 _ h) (cwV 1 C.1.2.2.2.2 gL_people_X9_count rfl rfl rfl (by decide +kernel) ⟨Nat.le_of_ble_eq_true rfl, Nat.le_of_ble_eq_true rfl⟩) (w_preV C P.1 [.int (1 : Int32)] (ci := 9) rfl (kd_lt kd_at_0 (by decide)) (EK_9 kd_at_0)) rfl rfl hl.1 rfl (lv_room (Nat.le_of_ble_eq_true rfl)) dL_people_197 ⟨Nat.le_of_ble_eq_true rfl, Nat.le_of_ble_eq_true rfl⟩) P (fun r5 u4 H locs h P => ?_)
    refine lv_icmp_ge (tgt := 482) hx hb dL_people_200 (by decide) (fun c6 => ?_) (fun c6 => ?_)
    · have h := ite_t h c6
      refine lv_aload_n hx hb dL_people_482 rfl (lv_at hl 0 rfl) ?_
      refine lv_iconst (v := 3) hx hb dL_people_483 (by decide) ?_
      refine a_calli (va_runV (As := [.int (3 : Int32)]) (rest := []) C.1 (c_X9_count l D cA o _ u4 _ h) (cwV 1 C.1.2.2.2.2 gL_people_X9_count rfl rfl rfl (by decide +kernel) ⟨Nat.le_of_ble_eq_true rfl, Nat.le_of_ble_eq_true rfl⟩) (w_preV C P.1 [.int (3 : Int32)] (ci := 9) rfl (kd_lt kd_at_0 (by decide)) (EK_9 kd_at_0)) rfl rfl hl.1 rfl (lv_room (Nat.le_of_ble_eq_true rfl)) dL_people_484 ⟨Nat.le_of_ble_eq_true rfl, Nat.le_of_ble_eq_true rfl⟩) P (fun r8 u7 H locs h P => ?_)
      refine lv_aload_n hx hb dL_people_487 rfl (lv_at hl 1 rfl) ?_
      refine lv_iconst (v := 3) hx hb dL_people_488 (by decide) ?_
      refine a_ld C P (by unfold vp_in; decide) dL_people_489 ?_
      refine lv_aload_n hx hb dL_people_490 rfl (lv_at hl 1 rfl) ?_
      refine lv_iconst (v := 4) hx hb dL_people_491 (by decide) ?_
      refine a_ld C P (by unfold vp_in; decide) dL_people_492 ?_
      refine lv_iadd hx hb dL_people_493 ?_
      refine lv_icmp_ne (tgt := 596) hx hb dL_people_494 (by decide) (fun c9 => ?_) (fun c9 => ?_)
      · have h := ite_f h c9
        refine lv_iconst (v := 0) hx hb dL_people_596 (by decide) ?_
        exact a_ret C P (Or.inl rfl) h dL_people_597
      · have h := ite_t h c9
        refine lv_aload_n hx hb dL_people_497 rfl (lv_at hl 0 rfl) ?_
        refine lv_iconst (v := 4) hx hb dL_people_498 (by decide) ?_
        refine a_calli (va_runV (As := [.int (4 : Int32)]) (rest := []) C.1 (c_X9_count l D cA o _ u7 _ h) (cwV 1 C.1.2.2.2.2 gL_people_X9_count rfl rfl rfl (by decide +kernel) ⟨Nat.le_of_ble_eq_true rfl, Nat.le_of_ble_eq_true rfl⟩) (w_preV C P.1 [.int (4 : Int32)] (ci := 9) rfl (kd_lt kd_at_0 (by decide)) (EK_9 kd_at_0)) rfl rfl hl.1 rfl (lv_room (Nat.le_of_ble_eq_true rfl)) dL_people_499 ⟨Nat.le_of_ble_eq_true rfl, Nat.le_of_ble_eq_true rfl⟩) P (fun r11 u10 H locs h P => ?_)
        refine lv_aload_n hx hb dL_people_502 rfl (lv_at hl 1 rfl) ?_
        refine lv_iconst (v := 1) hx hb dL_people_503 (by decide) ?_
        refine a_ld C P (by unfold vp_in; decide) dL_people_504 ?_
        refine lv_icmp_ne (tgt := 596) hx hb dL_people_505 (by decide) (fun c12 => ?_) (fun c12 => ?_)
        · have h := ite_f h c12
          refine lv_iconst (v := 0) hx hb dL_people_596 (by decide) ?_
          exact a_ret C P (Or.inl rfl) h dL_people_597
        · have h := ite_t h c12
          refine lv_aload_n hx hb dL_people_508 rfl (lv_at hl 0 rfl) ?_
          refine lv_iconst (v := 5) hx hb dL_people_509 (by decide) ?_
          refine a_calli (va_runV (As := [.int (5 : Int32)]) (rest := []) C.1 (c_X9_count l D cA o _ u10 _ h) (cwV 1 C.1.2.2.2.2 gL_people_X9_count rfl rfl rfl (by decide +kernel) ⟨Nat.le_of_ble_eq_true rfl, Nat.le_of_ble_eq_true rfl⟩) (w_preV C P.1 [.int (5 : Int32)] (ci := 9) rfl (kd_lt kd_at_0 (by decide)) (EK_9 kd_at_0)) rfl rfl hl.1 rfl (lv_room (Nat.le_of_ble_eq_true rfl)) dL_people_510 ⟨Nat.le_of_ble_eq_true rfl, Nat.le_of_ble_eq_true rfl⟩) P (fun r14 u13 H locs h P => ?_)
          refine lv_aload_n hx hb dL_people_513 rfl (lv_at hl 1 rfl) ?_
          refine lv_iconst (v := 2) hx hb dL_people_514 (by decide) ?_
          refine a_ld C P (by unfold vp_in; decide) dL_people_515 ?_
          refine lv_icmp_ne (tgt := 596) hx hb dL_people_516 (by decide) (fun c15 => ?_) (fun c15 => ?_)
          · have h := ite_f h c15
            refine lv_iconst (v := 0) hx hb dL_people_596 (by decide) ?_
            exact a_ret C P (Or.inl rfl) h dL_people_597
          · have h := ite_t h c15
            refine lv_aload_n hx hb dL_people_519 rfl (lv_at hl 0 rfl) ?_
            refine lv_bipush (v := 6) hx hb dL_people_520 (by decide) ?_
            refine a_calli (va_runV (As := [.int (6 : Int32)]) (rest := []) C.1 (c_X9_count l D cA o _ u13 _ h) (cwV 1 C.1.2.2.2.2 gL_people_X9_count rfl rfl rfl (by decide +kernel) ⟨Nat.le_of_ble_eq_true rfl, Nat.le_of_ble_eq_true rfl⟩) (w_preV C P.1 [.int (6 : Int32)] (ci := 9) rfl (kd_lt kd_at_0 (by decide)) (EK_9 kd_at_0)) rfl rfl hl.1 rfl (lv_room (Nat.le_of_ble_eq_true rfl)) dL_people_522 ⟨Nat.le_of_ble_eq_true rfl, Nat.le_of_ble_eq_true rfl⟩) P (fun r17 u16 H locs h P => ?_)
            refine lv_aload_n hx hb dL_people_525 rfl (lv_at hl 1 rfl) ?_
            refine lv_iconst (v := 5) hx hb dL_people_526 (by decide) ?_
            refine a_ld C P (by unfold vp_in; decide) dL_people_527 ?_
            refine lv_icmp_ne (tgt := 596) hx hb dL_people_528 (by decide) (fun c18 => ?_) (fun c18 => ?_)
            · have h := ite_f h c18
              refine lv_iconst (v := 0) hx hb dL_people_596 (by decide) ?_
              exact a_ret C P (Or.inl rfl) h dL_people_597
            · have h := ite_t h c18
              refine lv_aload_n hx hb dL_people_531 rfl (lv_at hl 0 rfl) ?_
              refine lv_bipush (v := 7) hx hb dL_people_532 (by decide) ?_
              refine a_calli (va_runV (As := [.int (7 : Int32)]) (rest := []) C.1 (c_X9_count l D cA o _ u16 _ h) (cwV 1 C.1.2.2.2.2 gL_people_X9_count rfl rfl rfl (by decide +kernel) ⟨Nat.le_of_ble_eq_true rfl, Nat.le_of_ble_eq_true rfl⟩) (w_preV C P.1 [.int (7 : Int32)] (ci := 9) rfl (kd_lt kd_at_0 (by decide)) (EK_9 kd_at_0)) rfl rfl hl.1 rfl (lv_room (Nat.le_of_ble_eq_true rfl)) dL_people_534 ⟨Nat.le_of_ble_eq_true rfl, Nat.le_of_ble_eq_true rfl⟩) P (fun r20 u19 H locs h P => ?_)
              refine lv_iload_n hx hb dL_people_537 rfl (lv_at hl 2 rfl) ?_
              refine lv_icmp_ne (tgt := 596) hx hb dL_people_538 (by decide) (fun c21 => ?_) (fun c21 => ?_)
              · have h := ite_f h c21
                refine lv_iconst (v := 0) hx hb dL_people_596 (by decide) ?_
                exact a_ret C P (Or.inl rfl) h dL_people_597
              · have h := ite_t h c21
                refine lv_iload_n hx hb dL_people_541 rfl (lv_at hl 2 rfl) ?_
                refine lv_aload_n hx hb dL_people_542 rfl (lv_at hl 1 rfl) ?_
                refine lv_iconst (v := 0) hx hb dL_people_543 (by decide) ?_
                refine a_ld C P (by unfold vp_in; decide) dL_people_544 ?_
                refine lv_icmp_ne (tgt := 596) hx hb dL_people_545 (by decide) (fun c22 => ?_) (fun c22 => ?_)
                · have h := ite_f h c22
                  refine lv_iconst (v := 0) hx hb dL_people_596 (by decide) ?_
                  exact a_ret C P (Or.inl rfl) h dL_people_597
                · have h := ite_t h c22
                  refine lv_iload_n hx hb dL_people_548 rfl (lv_at hl 3 rfl) ?_
                  refine lv_aload_n hx hb dL_people_549 rfl (lv_at hl 1 rfl) ?_
                  refine lv_iconst (v := 1) hx hb dL_people_550 (by decide) ?_
                  refine a_ld C P (by unfold vp_in; decide) dL_people_551 ?_
                  refine lv_aload_n hx hb dL_people_552 rfl (lv_at hl 1 rfl) ?_
                  refine lv_iconst (v := 4) hx hb dL_people_553 (by decide) ?_
                  refine a_ld C P (by unfold vp_in; decide) dL_people_554 ?_
                  refine lv_iadd hx hb dL_people_555 ?_
                  refine lv_icmp_ne (tgt := 596) hx hb dL_people_556 (by decide) (fun c23 => ?_) (fun c23 => ?_)
                  · have h := ite_f h c23
                    refine lv_iconst (v := 0) hx hb dL_people_596 (by decide) ?_
                    exact a_ret C P (Or.inl rfl) h dL_people_597
                  · have h := ite_t h c23
                    refine lv_iload hx hb dL_people_559 (lv_at hl 4 rfl) ?_
                    refine lv_aload_n hx hb dL_people_561 rfl (lv_at hl 1 rfl) ?_
                    refine lv_iconst (v := 2) hx hb dL_people_562 (by decide) ?_
                    refine a_ld C P (by unfold vp_in; decide) dL_people_563 ?_
                    refine lv_icmp_ne (tgt := 596) hx hb dL_people_564 (by decide) (fun c24 => ?_) (fun c24 => ?_)
                    · have h := ite_f h c24
                      refine lv_iconst (v := 0) hx hb dL_people_596 (by decide) ?_
                      exact a_ret C P (Or.inl rfl) h dL_people_597
                    · have h := ite_t h c24
                      refine lv_aload_n hx hb dL_people_567 rfl (lv_at hl 0 rfl) ?_
                      refine lv_aload_n hx hb dL_people_568 rfl (lv_at hl 0 rfl) ?_
                      refine lv_iconst (v := 2) hx hb dL_people_569 (by decide) ?_
                      refine a_calli (va_runV (As := [.int (2 : Int32)]) (rest := [.ref (o + 0)]) C.1 (c_X9_count l D cA o _ u19 _ h) (cwV 1 C.1.2.2.2.2 gL_people_X9_count rfl rfl rfl (by decide +kernel) ⟨Nat.le_of_ble_eq_true rfl, Nat.le_of_ble_eq_true rfl⟩) (w_preV C P.1 [.int (2 : Int32)] (ci := 9) rfl (kd_lt kd_at_0 (by decide)) (EK_9 kd_at_0)) rfl rfl hl.1 rfl (lv_room (Nat.le_of_ble_eq_true rfl)) dL_people_570 ⟨Nat.le_of_ble_eq_true rfl, Nat.le_of_ble_eq_true rfl⟩) P (fun r26 u25 H locs h P => ?_)
                      refine lv_iconst (v := 0) hx hb dL_people_573 (by decide) ?_
                      refine a_calli (va_runV (As := [.int r26, .int (0 : Int32)]) (rest := []) C.1 (c_X9_person l D cA o _ _ u25 _ h) (cwV 2 C.1.2.2.2.2 gL_people_X9_person rfl rfl rfl (by decide +kernel) ⟨Nat.le_of_ble_eq_true rfl, Nat.le_of_ble_eq_true rfl⟩) (w_preV C P.1 [.int r26, .int (0 : Int32)] (ci := 9) rfl (kd_lt kd_at_0 (by decide)) (EK_9 kd_at_0)) rfl rfl hl.1 rfl (lv_room (Nat.le_of_ble_eq_true rfl)) dL_people_574 ⟨Nat.le_of_ble_eq_true rfl, Nat.le_of_ble_eq_true rfl⟩) P (fun r28 u27 H locs h P => ?_)
                      refine lv_iconst (v := -1) hx hb dL_people_577 (by decide) ?_
                      refine lv_icmp_ne (tgt := 596) hx hb dL_people_578 (by decide) (fun c29 => ?_) (fun c29 => ?_)
                      · have h := ite_f h c29
                        refine lv_iconst (v := 0) hx hb dL_people_596 (by decide) ?_
                        exact a_ret C P (Or.inl rfl) h dL_people_597
                      · have h := ite_t h c29
                        refine lv_aload_n hx hb dL_people_581 rfl (lv_at hl 0 rfl) ?_
                        refine lv_bipush (v := 13) hx hb dL_people_582 (by decide) ?_
                        refine a_calli (va_runV (As := [.int (13 : Int32)]) (rest := []) C.1 (c_X9_count l D cA o _ u27 _ h) (cwV 1 C.1.2.2.2.2 gL_people_X9_count rfl rfl rfl (by decide +kernel) ⟨Nat.le_of_ble_eq_true rfl, Nat.le_of_ble_eq_true rfl⟩) (w_preV C P.1 [.int (13 : Int32)] (ci := 9) rfl (kd_lt kd_at_0 (by decide)) (EK_9 kd_at_0)) rfl rfl hl.1 rfl (lv_room (Nat.le_of_ble_eq_true rfl)) dL_people_584 ⟨Nat.le_of_ble_eq_true rfl, Nat.le_of_ble_eq_true rfl⟩) P (fun r31 u30 H locs h P => ?_)
                        refine lv_bipush (v := -2) hx hb dL_people_587 (by decide) ?_
                        refine lv_icmp_ne (tgt := 596) hx hb dL_people_589 (by decide) (fun c32 => ?_) (fun c32 => ?_)
                        · have h := ite_f h c32
                          refine lv_iconst (v := 0) hx hb dL_people_596 (by decide) ?_
                          exact a_ret C P (Or.inl rfl) h dL_people_597
                        · have h := ite_t h c32
                          refine lv_iconst (v := 1) hx hb dL_people_592 (by decide) ?_
                          refine lv_goto (tgt := 597) hx hb dL_people_593 (by decide) ?_
                          exact a_ret C P (Or.inr rfl) h dL_people_597
    · have h := ite_f h c6
      refine lv_iload_n hx hb dL_people_203 rfl (lv_at hl 2 rfl) ?_
      refine lv_aload_n hx hb dL_people_204 rfl (lv_at hl 0 rfl) ?_
      refine lv_iload hx hb dL_people_205 (lv_at hl 5 rfl) ?_
      refine lv_bipush (v := 8) hx hb dL_people_207 (by decide) ?_
      refine a_calli (va_runV (As := [.int x5, .int (8 : Int32)]) (rest := [.int x2]) C.1 (c_X9_gate l D cA o _ _ u4 _ h) (cwV 2 C.1.2.2.2.2 gL_people_X9_gate rfl rfl rfl (by decide +kernel) ⟨Nat.le_of_ble_eq_true rfl, Nat.le_of_ble_eq_true rfl⟩) (w_preV C P.1 [.int x5, .int (8 : Int32)] (ci := 9) rfl (kd_lt kd_at_0 (by decide)) (EK_9 kd_at_0)) rfl rfl hl.1 rfl (lv_room (Nat.le_of_ble_eq_true rfl)) dL_people_209 ⟨Nat.le_of_ble_eq_true rfl, Nat.le_of_ble_eq_true rfl⟩) P (fun r34 u33 H locs h P => ?_)
      refine lv_iadd hx hb dL_people_212 ?_
      refine lv_istore_n (lv' := [(2, .int (x2 + r34)), (0, .ref (o + 0)), (1, .ref q0), (3, .int x3), (4, .int x4), (5, .int x5)]) hx hb dL_people_213 rfl hl (by decide) rfl (fun ls hl => ?_)
      refine lv_iload hx hb dL_people_214 (lv_at hl 4 rfl) ?_
      refine lv_aload_n hx hb dL_people_216 rfl (lv_at hl 1 rfl) ?_
      refine lv_iload hx hb dL_people_217 (lv_at hl 5 rfl) ?_
      refine lv_iconst (v := 3) hx hb dL_people_219 (by decide) ?_
      refine a_calli (va_runV (As := [.int x5, .int (3 : Int32)]) (rest := [.int x4]) C.1 (c_X9_gate l D cA o _ _ u33 _ h) (cwV 2 C.1.2.2.2.2 gL_people_X9_gate rfl rfl rfl (by decide +kernel) ⟨Nat.le_of_ble_eq_true rfl, Nat.le_of_ble_eq_true rfl⟩) (w_preV C P.1 [.int x5, .int (3 : Int32)] (ci := 9) rfl (kd_lt kd_at_0 (by decide)) (EK_9 kd_at_0)) rfl rfl hl.1 rfl (lv_room (Nat.le_of_ble_eq_true rfl)) dL_people_220 ⟨Nat.le_of_ble_eq_true rfl, Nat.le_of_ble_eq_true rfl⟩) P (fun r36 u35 H locs h P => ?_)
      refine lv_if_lt (tgt := 230) hx hb dL_people_223 (by decide) (fun c37 => ?_) (fun c37 => ?_)
      · have h := ite_t h c37
        refine lv_iconst (v := 0) hx hb dL_people_230 (by decide) ?_
        refine lv_iadd hx hb dL_people_231 ?_
        refine lv_istore (lv' := [(4, .int (x4 + (0 : Int32))), (2, .int (x2 + r34)), (0, .ref (o + 0)), (1, .ref q0), (3, .int x3), (5, .int x5)]) hx hb dL_people_232 hl (by decide) rfl (fun ls hl => ?_)
        refine lv_iconst (v := 0) hx hb dL_people_234 (by decide) ?_
        refine lv_istore (lv' := [(6, .int (0 : Int32)), (4, .int (x4 + (0 : Int32))), (2, .int (x2 + r34)), (0, .ref (o + 0)), (1, .ref q0), (3, .int x3), (5, .int x5)]) hx hb dL_people_235 hl (by decide) rfl (fun ls hl => ?_)
        obtain ⟨n237, h⟩ := h
        exact t_L_people_237 C ih n237 _ _ _ _ _ _ u35 _ _ _ P (lv_sub hl [3, 4, 2, 5, 1, 6, 0] rfl) h
      · have h := ite_f h c37
        refine lv_iconst (v := 1) hx hb dL_people_226 (by decide) ?_
        refine lv_goto (tgt := 231) hx hb dL_people_227 (by decide) ?_
        refine lv_iadd hx hb dL_people_231 ?_
        refine lv_istore (lv' := [(4, .int (x4 + (1 : Int32))), (2, .int (x2 + r34)), (0, .ref (o + 0)), (1, .ref q0), (3, .int x3), (5, .int x5)]) hx hb dL_people_232 hl (by decide) rfl (fun ls hl => ?_)
        refine lv_iconst (v := 0) hx hb dL_people_234 (by decide) ?_
        refine lv_istore (lv' := [(6, .int (0 : Int32)), (4, .int (x4 + (1 : Int32))), (2, .int (x2 + r34)), (0, .ref (o + 0)), (1, .ref q0), (3, .int x3), (5, .int x5)]) hx hb dL_people_235 hl (by decide) rfl (fun ls hl => ?_)
        obtain ⟨n237, h⟩ := h
        exact t_L_people_237 C ih n237 _ _ _ _ _ _ u35 _ _ _ P (lv_sub hl [3, 4, 2, 5, 1, 6, 0] rfl) h
def w_L_people_159 (X15 : Int32 → Int32 → Int32 → Int32 → (Nat → Int32) → Mm → Prop) (Φ : Int32 → Mm → Prop) (x2 : Int32) (x3 : Int32) (x4 : Int32) (x5 : Int32) (f0 : Nat → Int32) (u0 : Mm) : Prop := (w_X9_person x5 ((5 : Int32)) u0 (fun r100 u99 => (if r100 < 0 then (Φ (0 : Int32) u99) else (w_X9_person x5 ((6 : Int32)) u99 (fun r103 u102 => (if r103 = (-2 : Int32) then (X15 x2 x3 x4 ((x5 + 1)) f0 u102) else (Φ (0 : Int32) u102)))))))
set_option maxHeartbeats 4000000 in
set_option maxRecDepth 100000 in
theorem t_L_people_159 {p : Program} {l : Launch} {e : Env} {s : State} {m : MethodId} {args : Array Value} {below : List Frame} {meth : Method} {c : Code} {D : va_G} {cA : Nat → ClassId} {o q0 : Nat} {X15 : Int32 → Int32 → Int32 → Int32 → (Nat → Int32) → Mm → Prop} {Φ : Int32 → Mm → Prop} (C : Cx p m meth c s args cL_people 10 wsL_people RL (some .boolean) D (tysL cA)) (hX15 : ∀ (x2 : Int32) (x3 : Int32) (x4 : Int32) (x5 : Int32) (f0 : Nat → Int32) (u0 : Mm), ∀ (H : Heap) (locs : List Loc) (ls : Array Slot), HpA o q0 D cA u0 f0 s H locs → lv_has ls 10 [(0, .ref (o + 0)), (1, .ref q0), (2, .int x2), (3, .int x3), (4, .int x4), (5, .int x5)] → X15 x2 x3 x4 x5 f0 u0 → W p l e rm_L_people s m args below meth c H locs 1 6 (MQ below (Qg vI Φ (fun μ => Wd 747 o D (tysL cA) (EC cA o μ)) (fun q => o ≤ q)) args s 1 6 (fun q => o ≤ q)) (F0 m 15 ls [])) : ∀ (x2 : Int32) (x3 : Int32) (x4 : Int32) (x5 : Int32) (f0 : Nat → Int32) (u0 : Mm), ∀ (H : Heap) (locs : List Loc) (ls : Array Slot), HpA o q0 D cA u0 f0 s H locs → lv_has ls 10 [(0, .ref (o + 0)), (1, .ref q0), (2, .int x2), (3, .int x3), (4, .int x4), (5, .int x5)] → w_L_people_159 X15 Φ x2 x3 x4 x5 f0 u0 → W p l e rm_L_people s m args below meth c H locs 1 6 (MQ below (Qg vI Φ (fun μ => Wd 747 o D (tysL cA) (EC cA o μ)) (fun q => o ≤ q)) args s 1 6 (fun q => o ≤ q)) (F0 m 159 ls []) := by
  intro x2 x3 x4 x5 f0 u0 H locs ls P hl h
  have hx := C.1.1
  have hb := C.1.2.1
  unfold w_L_people_159 at h
  refine lv_aload_n hx hb dL_people_159 rfl (lv_at hl 0 rfl) ?_
  refine lv_iload hx hb dL_people_160 (lv_at hl 5 rfl) ?_
  refine lv_iconst (v := 5) hx hb dL_people_162 (by decide) ?_
  refine a_calli (va_runV (As := [.int x5, .int (5 : Int32)]) (rest := []) C.1 (c_X9_person l D cA o _ _ u0 _ h) (cwV 2 C.1.2.2.2.2 gL_people_X9_person rfl rfl rfl (by decide +kernel) ⟨Nat.le_of_ble_eq_true rfl, Nat.le_of_ble_eq_true rfl⟩) (w_preV C P.1 [.int x5, .int (5 : Int32)] (ci := 9) rfl (kd_lt kd_at_0 (by decide)) (EK_9 kd_at_0)) rfl rfl hl.1 rfl (lv_room (Nat.le_of_ble_eq_true rfl)) dL_people_163 ⟨Nat.le_of_ble_eq_true rfl, Nat.le_of_ble_eq_true rfl⟩) P (fun r100 u99 H locs h P => ?_)
  refine lv_if_lt (tgt := 182) hx hb dL_people_166 (by decide) (fun c101 => ?_) (fun c101 => ?_)
  · have h := ite_t h c101
    refine lv_iconst (v := 0) hx hb dL_people_182 (by decide) ?_
    exact a_ret C P (Or.inl rfl) h dL_people_183
  · have h := ite_f h c101
    refine lv_aload_n hx hb dL_people_169 rfl (lv_at hl 0 rfl) ?_
    refine lv_iload hx hb dL_people_170 (lv_at hl 5 rfl) ?_
    refine lv_bipush (v := 6) hx hb dL_people_172 (by decide) ?_
    refine a_calli (va_runV (As := [.int x5, .int (6 : Int32)]) (rest := []) C.1 (c_X9_person l D cA o _ _ u99 _ h) (cwV 2 C.1.2.2.2.2 gL_people_X9_person rfl rfl rfl (by decide +kernel) ⟨Nat.le_of_ble_eq_true rfl, Nat.le_of_ble_eq_true rfl⟩) (w_preV C P.1 [.int x5, .int (6 : Int32)] (ci := 9) rfl (kd_lt kd_at_0 (by decide)) (EK_9 kd_at_0)) rfl rfl hl.1 rfl (lv_room (Nat.le_of_ble_eq_true rfl)) dL_people_174 ⟨Nat.le_of_ble_eq_true rfl, Nat.le_of_ble_eq_true rfl⟩) P (fun r103 u102 H locs h P => ?_)
    refine lv_bipush (v := -2) hx hb dL_people_177 (by decide) ?_
    refine lv_icmp_eq (tgt := 184) hx hb dL_people_179 (by decide) (fun c104 => ?_) (fun c104 => ?_)
    · have h := ite_t h c104
      refine lv_iinc (v := (x5 + 1)) (lv' := [(5, .int (x5 + 1)), (0, .ref (o + 0)), (1, .ref q0), (2, .int x2), (3, .int x3), (4, .int x4)]) hx hb dL_people_184 hl (k := 5) rfl rfl (by decide) rfl (fun ls hl => ?_)
      refine lv_goto (tgt := 15) hx hb dL_people_187 (by decide) ?_
      exact hX15 _ _ _ _ _ u102 _ _ _ P (lv_sub hl [1, 2, 3, 4, 5, 0] rfl) h
    · have h := ite_f h c104
      refine lv_iconst (v := 0) hx hb dL_people_182 (by decide) ?_
      exact a_ret C P (Or.inl rfl) h dL_people_183
def w_L_people_134 (X15 : Int32 → Int32 → Int32 → Int32 → (Nat → Int32) → Mm → Prop) (Φ : Int32 → Mm → Prop) (x2 : Int32) (x3 : Int32) (x4 : Int32) (x5 : Int32) (x6 : Int32) (f0 : Nat → Int32) (z0 : Int32) (z1 : Int32) (u0 : Mm) : Prop := (if z1 = z0 then (if x6 = (1 : Int32) then (w_L_people_159 X15 Φ x2 x3 x4 x5 f0 u0) else (if x6 = (4 : Int32) then (w_L_people_159 X15 Φ x2 x3 x4 x5 f0 u0) else (w_X9_person x5 ((5 : Int32)) u0 (fun r107 u106 => (if r107 = 0 then (w_L_people_159 X15 Φ x2 x3 x4 x5 f0 u106) else (Φ (0 : Int32) u106)))))) else (Φ (0 : Int32) u0))
set_option maxHeartbeats 4000000 in
set_option maxRecDepth 100000 in
theorem t_L_people_134 {p : Program} {l : Launch} {e : Env} {s : State} {m : MethodId} {args : Array Value} {below : List Frame} {meth : Method} {c : Code} {D : va_G} {cA : Nat → ClassId} {o q0 : Nat} {X15 : Int32 → Int32 → Int32 → Int32 → (Nat → Int32) → Mm → Prop} {Φ : Int32 → Mm → Prop} (C : Cx p m meth c s args cL_people 10 wsL_people RL (some .boolean) D (tysL cA)) (hX15 : ∀ (x2 : Int32) (x3 : Int32) (x4 : Int32) (x5 : Int32) (f0 : Nat → Int32) (u0 : Mm), ∀ (H : Heap) (locs : List Loc) (ls : Array Slot), HpA o q0 D cA u0 f0 s H locs → lv_has ls 10 [(0, .ref (o + 0)), (1, .ref q0), (2, .int x2), (3, .int x3), (4, .int x4), (5, .int x5)] → X15 x2 x3 x4 x5 f0 u0 → W p l e rm_L_people s m args below meth c H locs 1 6 (MQ below (Qg vI Φ (fun μ => Wd 747 o D (tysL cA) (EC cA o μ)) (fun q => o ≤ q)) args s 1 6 (fun q => o ≤ q)) (F0 m 15 ls [])) : ∀ (x2 : Int32) (x3 : Int32) (x4 : Int32) (x5 : Int32) (x6 : Int32) (f0 : Nat → Int32) (z0 : Int32) (z1 : Int32) (u0 : Mm), ∀ (H : Heap) (locs : List Loc) (ls : Array Slot), HpA o q0 D cA u0 f0 s H locs → lv_has ls 10 [(0, .ref (o + 0)), (1, .ref q0), (2, .int x2), (3, .int x3), (4, .int x4), (5, .int x5), (6, .int x6)] → w_L_people_134 X15 Φ x2 x3 x4 x5 x6 f0 z0 z1 u0 → W p l e rm_L_people s m args below meth c H locs 1 6 (MQ below (Qg vI Φ (fun μ => Wd 747 o D (tysL cA) (EC cA o μ)) (fun q => o ≤ q)) args s 1 6 (fun q => o ≤ q)) (F0 m 134 ls [.int z0, .int z1]) := by
  intro x2 x3 x4 x5 x6 f0 z0 z1 u0 H locs ls P hl h
  have hx := C.1.1
  have hb := C.1.2.1
  unfold w_L_people_134 at h
  refine lv_icmp_ne (tgt := 182) hx hb dL_people_134 (by decide) (fun c97 => ?_) (fun c97 => ?_)
  · have h := ite_f h c97
    refine lv_iconst (v := 0) hx hb dL_people_182 (by decide) ?_
    exact a_ret C P (Or.inl rfl) h dL_people_183
  · have h := ite_t h c97
    refine lv_iload hx hb dL_people_137 (lv_at hl 6 rfl) ?_
    refine lv_iconst (v := 1) hx hb dL_people_139 (by decide) ?_
    refine lv_icmp_eq (tgt := 159) hx hb dL_people_140 (by decide) (fun c98 => ?_) (fun c98 => ?_)
    · have h := ite_t h c98
      exact t_L_people_159 C hX15 _ _ _ _ _ u0 _ _ _ P (lv_sub hl [0, 1, 2, 3, 4, 5] rfl) h
    · have h := ite_f h c98
      refine lv_iload hx hb dL_people_143 (lv_at hl 6 rfl) ?_
      refine lv_iconst (v := 4) hx hb dL_people_145 (by decide) ?_
      refine lv_icmp_eq (tgt := 159) hx hb dL_people_146 (by decide) (fun c105 => ?_) (fun c105 => ?_)
      · have h := ite_t h c105
        exact t_L_people_159 C hX15 _ _ _ _ _ u0 _ _ _ P (lv_sub hl [0, 1, 2, 3, 4, 5] rfl) h
      · have h := ite_f h c105
        refine lv_aload_n hx hb dL_people_149 rfl (lv_at hl 0 rfl) ?_
        refine lv_iload hx hb dL_people_150 (lv_at hl 5 rfl) ?_
        refine lv_iconst (v := 5) hx hb dL_people_152 (by decide) ?_
        refine a_calli (va_runV (As := [.int x5, .int (5 : Int32)]) (rest := []) C.1 (c_X9_person l D cA o _ _ u0 _ h) (cwV 2 C.1.2.2.2.2 gL_people_X9_person rfl rfl rfl (by decide +kernel) ⟨Nat.le_of_ble_eq_true rfl, Nat.le_of_ble_eq_true rfl⟩) (w_preV C P.1 [.int x5, .int (5 : Int32)] (ci := 9) rfl (kd_lt kd_at_0 (by decide)) (EK_9 kd_at_0)) rfl rfl hl.1 rfl (lv_room (Nat.le_of_ble_eq_true rfl)) dL_people_153 ⟨Nat.le_of_ble_eq_true rfl, Nat.le_of_ble_eq_true rfl⟩) P (fun r107 u106 H locs h P => ?_)
        refine lv_if_ne (tgt := 182) hx hb dL_people_156 (by decide) (fun c108 => ?_) (fun c108 => ?_)
        · have h := ite_f h c108
          refine lv_iconst (v := 0) hx hb dL_people_182 (by decide) ?_
          exact a_ret C P (Or.inl rfl) h dL_people_183
        · have h := ite_t h c108
          exact t_L_people_159 C hX15 _ _ _ _ _ u106 _ _ _ P (lv_sub hl [0, 1, 2, 3, 4, 5] rfl) h
def w_L_people_119 (X15 : Int32 → Int32 → Int32 → Int32 → (Nat → Int32) → Mm → Prop) (Φ : Int32 → Mm → Prop) (x2 : Int32) (x3 : Int32) (x4 : Int32) (x5 : Int32) (x6 : Int32) (f0 : Nat → Int32) (z0 : Int32) (u0 : Mm) : Prop := (w_X9_person x5 ((4 : Int32)) u0 (fun r95 u94 => (if r95 ≤ 0 then (w_L_people_134 X15 Φ x2 x3 x4 x5 x6 f0 ((0 : Int32)) z0 u94) else (w_L_people_134 X15 Φ x2 x3 x4 x5 x6 f0 ((1 : Int32)) z0 u94))))
set_option maxHeartbeats 4000000 in
set_option maxRecDepth 100000 in
theorem t_L_people_119 {p : Program} {l : Launch} {e : Env} {s : State} {m : MethodId} {args : Array Value} {below : List Frame} {meth : Method} {c : Code} {D : va_G} {cA : Nat → ClassId} {o q0 : Nat} {X15 : Int32 → Int32 → Int32 → Int32 → (Nat → Int32) → Mm → Prop} {Φ : Int32 → Mm → Prop} (C : Cx p m meth c s args cL_people 10 wsL_people RL (some .boolean) D (tysL cA)) (hX15 : ∀ (x2 : Int32) (x3 : Int32) (x4 : Int32) (x5 : Int32) (f0 : Nat → Int32) (u0 : Mm), ∀ (H : Heap) (locs : List Loc) (ls : Array Slot), HpA o q0 D cA u0 f0 s H locs → lv_has ls 10 [(0, .ref (o + 0)), (1, .ref q0), (2, .int x2), (3, .int x3), (4, .int x4), (5, .int x5)] → X15 x2 x3 x4 x5 f0 u0 → W p l e rm_L_people s m args below meth c H locs 1 6 (MQ below (Qg vI Φ (fun μ => Wd 747 o D (tysL cA) (EC cA o μ)) (fun q => o ≤ q)) args s 1 6 (fun q => o ≤ q)) (F0 m 15 ls [])) : ∀ (x2 : Int32) (x3 : Int32) (x4 : Int32) (x5 : Int32) (x6 : Int32) (f0 : Nat → Int32) (z0 : Int32) (u0 : Mm), ∀ (H : Heap) (locs : List Loc) (ls : Array Slot), HpA o q0 D cA u0 f0 s H locs → lv_has ls 10 [(0, .ref (o + 0)), (1, .ref q0), (2, .int x2), (3, .int x3), (4, .int x4), (5, .int x5), (6, .int x6)] → w_L_people_119 X15 Φ x2 x3 x4 x5 x6 f0 z0 u0 → W p l e rm_L_people s m args below meth c H locs 1 6 (MQ below (Qg vI Φ (fun μ => Wd 747 o D (tysL cA) (EC cA o μ)) (fun q => o ≤ q)) args s 1 6 (fun q => o ≤ q)) (F0 m 119 ls [.int z0]) := by
  intro x2 x3 x4 x5 x6 f0 z0 u0 H locs ls P hl h
  have hx := C.1.1
  have hb := C.1.2.1
  unfold w_L_people_119 at h
  refine lv_aload_n hx hb dL_people_119 rfl (lv_at hl 0 rfl) ?_
  refine lv_iload hx hb dL_people_120 (lv_at hl 5 rfl) ?_
  refine lv_iconst (v := 4) hx hb dL_people_122 (by decide) ?_
  refine a_calli (va_runV (As := [.int x5, .int (4 : Int32)]) (rest := [.int z0]) C.1 (c_X9_person l D cA o _ _ u0 _ h) (cwV 2 C.1.2.2.2.2 gL_people_X9_person rfl rfl rfl (by decide +kernel) ⟨Nat.le_of_ble_eq_true rfl, Nat.le_of_ble_eq_true rfl⟩) (w_preV C P.1 [.int x5, .int (4 : Int32)] (ci := 9) rfl (kd_lt kd_at_0 (by decide)) (EK_9 kd_at_0)) rfl rfl hl.1 rfl (lv_room (Nat.le_of_ble_eq_true rfl)) dL_people_123 ⟨Nat.le_of_ble_eq_true rfl, Nat.le_of_ble_eq_true rfl⟩) P (fun r95 u94 H locs h P => ?_)
  refine lv_if_le (tgt := 133) hx hb dL_people_126 (by decide) (fun c96 => ?_) (fun c96 => ?_)
  · have h := ite_t h c96
    refine lv_iconst (v := 0) hx hb dL_people_133 (by decide) ?_
    exact t_L_people_134 C hX15 _ _ _ _ _ _ _ _ u94 _ _ _ P (lv_sub hl [0, 1, 2, 3, 4, 5, 6] rfl) h
  · have h := ite_f h c96
    refine lv_iconst (v := 1) hx hb dL_people_129 (by decide) ?_
    refine lv_goto (tgt := 134) hx hb dL_people_130 (by decide) ?_
    exact t_L_people_134 C hX15 _ _ _ _ _ _ _ _ u94 _ _ _ P (lv_sub hl [0, 1, 2, 3, 4, 5, 6] rfl) h
def w_L_people_109 (X15 : Int32 → Int32 → Int32 → Int32 → (Nat → Int32) → Mm → Prop) (Φ : Int32 → Mm → Prop) (x2 : Int32) (x3 : Int32) (x4 : Int32) (x5 : Int32) (x6 : Int32) (f0 : Nat → Int32) (u0 : Mm) : Prop := (if x6 = 0 then (w_L_people_119 X15 Φ x2 x3 x4 x5 x6 f0 ((1 : Int32)) u0) else (w_L_people_119 X15 Φ x2 x3 x4 x5 x6 f0 ((0 : Int32)) u0))
set_option maxHeartbeats 4000000 in
set_option maxRecDepth 100000 in
theorem t_L_people_109 {p : Program} {l : Launch} {e : Env} {s : State} {m : MethodId} {args : Array Value} {below : List Frame} {meth : Method} {c : Code} {D : va_G} {cA : Nat → ClassId} {o q0 : Nat} {X15 : Int32 → Int32 → Int32 → Int32 → (Nat → Int32) → Mm → Prop} {Φ : Int32 → Mm → Prop} (C : Cx p m meth c s args cL_people 10 wsL_people RL (some .boolean) D (tysL cA)) (hX15 : ∀ (x2 : Int32) (x3 : Int32) (x4 : Int32) (x5 : Int32) (f0 : Nat → Int32) (u0 : Mm), ∀ (H : Heap) (locs : List Loc) (ls : Array Slot), HpA o q0 D cA u0 f0 s H locs → lv_has ls 10 [(0, .ref (o + 0)), (1, .ref q0), (2, .int x2), (3, .int x3), (4, .int x4), (5, .int x5)] → X15 x2 x3 x4 x5 f0 u0 → W p l e rm_L_people s m args below meth c H locs 1 6 (MQ below (Qg vI Φ (fun μ => Wd 747 o D (tysL cA) (EC cA o μ)) (fun q => o ≤ q)) args s 1 6 (fun q => o ≤ q)) (F0 m 15 ls [])) : ∀ (x2 : Int32) (x3 : Int32) (x4 : Int32) (x5 : Int32) (x6 : Int32) (f0 : Nat → Int32) (u0 : Mm), ∀ (H : Heap) (locs : List Loc) (ls : Array Slot), HpA o q0 D cA u0 f0 s H locs → lv_has ls 10 [(0, .ref (o + 0)), (1, .ref q0), (2, .int x2), (3, .int x3), (4, .int x4), (5, .int x5), (6, .int x6)] → w_L_people_109 X15 Φ x2 x3 x4 x5 x6 f0 u0 → W p l e rm_L_people s m args below meth c H locs 1 6 (MQ below (Qg vI Φ (fun μ => Wd 747 o D (tysL cA) (EC cA o μ)) (fun q => o ≤ q)) args s 1 6 (fun q => o ≤ q)) (F0 m 109 ls []) := by
  intro x2 x3 x4 x5 x6 f0 u0 H locs ls P hl h
  have hx := C.1.1
  have hb := C.1.2.1
  unfold w_L_people_109 at h
  refine lv_iload hx hb dL_people_109 (lv_at hl 6 rfl) ?_
  refine lv_if_ne (tgt := 118) hx hb dL_people_111 (by decide) (fun c93 => ?_) (fun c93 => ?_)
  · have h := ite_f h c93
    refine lv_iconst (v := 0) hx hb dL_people_118 (by decide) ?_
    exact t_L_people_119 C hX15 _ _ _ _ _ _ _ u0 _ _ _ P (lv_sub hl [0, 1, 2, 3, 4, 5, 6] rfl) h
  · have h := ite_t h c93
    refine lv_iconst (v := 1) hx hb dL_people_114 (by decide) ?_
    refine lv_goto (tgt := 119) hx hb dL_people_115 (by decide) ?_
    exact t_L_people_119 C hX15 _ _ _ _ _ _ _ u0 _ _ _ P (lv_sub hl [0, 1, 2, 3, 4, 5, 6] rfl) h
def w_L_people_88 (X15 : Int32 → Int32 → Int32 → Int32 → (Nat → Int32) → Mm → Prop) (Φ : Int32 → Mm → Prop) (x2 : Int32) (x3 : Int32) (x4 : Int32) (x5 : Int32) (x6 : Int32) (x7 : Int32) (f0 : Nat → Int32) (z0 : Int32) (z1 : Int32) (u0 : Mm) : Prop := (if z1 = z0 then (if x6 = (2 : Int32) then (w_X9_gate x7 ((3 : Int32)) u0 (fun r110 u109 => (if r110 = x5 then (w_L_people_109 X15 Φ x2 x3 x4 x5 x6 f0 u109) else (Φ (0 : Int32) u109)))) else (w_L_people_109 X15 Φ x2 x3 x4 x5 x6 f0 u0)) else (Φ (0 : Int32) u0))
set_option maxHeartbeats 4000000 in
set_option maxRecDepth 100000 in
theorem t_L_people_88 {p : Program} {l : Launch} {e : Env} {s : State} {m : MethodId} {args : Array Value} {below : List Frame} {meth : Method} {c : Code} {D : va_G} {cA : Nat → ClassId} {o q0 : Nat} {X15 : Int32 → Int32 → Int32 → Int32 → (Nat → Int32) → Mm → Prop} {Φ : Int32 → Mm → Prop} (C : Cx p m meth c s args cL_people 10 wsL_people RL (some .boolean) D (tysL cA)) (hX15 : ∀ (x2 : Int32) (x3 : Int32) (x4 : Int32) (x5 : Int32) (f0 : Nat → Int32) (u0 : Mm), ∀ (H : Heap) (locs : List Loc) (ls : Array Slot), HpA o q0 D cA u0 f0 s H locs → lv_has ls 10 [(0, .ref (o + 0)), (1, .ref q0), (2, .int x2), (3, .int x3), (4, .int x4), (5, .int x5)] → X15 x2 x3 x4 x5 f0 u0 → W p l e rm_L_people s m args below meth c H locs 1 6 (MQ below (Qg vI Φ (fun μ => Wd 747 o D (tysL cA) (EC cA o μ)) (fun q => o ≤ q)) args s 1 6 (fun q => o ≤ q)) (F0 m 15 ls [])) : ∀ (x2 : Int32) (x3 : Int32) (x4 : Int32) (x5 : Int32) (x6 : Int32) (x7 : Int32) (f0 : Nat → Int32) (z0 : Int32) (z1 : Int32) (u0 : Mm), ∀ (H : Heap) (locs : List Loc) (ls : Array Slot), HpA o q0 D cA u0 f0 s H locs → lv_has ls 10 [(0, .ref (o + 0)), (1, .ref q0), (2, .int x2), (3, .int x3), (4, .int x4), (5, .int x5), (6, .int x6), (7, .int x7)] → w_L_people_88 X15 Φ x2 x3 x4 x5 x6 x7 f0 z0 z1 u0 → W p l e rm_L_people s m args below meth c H locs 1 6 (MQ below (Qg vI Φ (fun μ => Wd 747 o D (tysL cA) (EC cA o μ)) (fun q => o ≤ q)) args s 1 6 (fun q => o ≤ q)) (F0 m 88 ls [.int z0, .int z1]) := by
  intro x2 x3 x4 x5 x6 x7 f0 z0 z1 u0 H locs ls P hl h
  have hx := C.1.1
  have hb := C.1.2.1
  unfold w_L_people_88 at h
  refine lv_icmp_ne (tgt := 182) hx hb dL_people_88 (by decide) (fun c91 => ?_) (fun c91 => ?_)
  · have h := ite_f h c91
    refine lv_iconst (v := 0) hx hb dL_people_182 (by decide) ?_
    exact a_ret C P (Or.inl rfl) h dL_people_183
  · have h := ite_t h c91
    refine lv_iload hx hb dL_people_91 (lv_at hl 6 rfl) ?_
    refine lv_iconst (v := 2) hx hb dL_people_93 (by decide) ?_
    refine lv_icmp_ne (tgt := 109) hx hb dL_people_94 (by decide) (fun c92 => ?_) (fun c92 => ?_)
    · have h := ite_f h c92
      exact t_L_people_109 C hX15 _ _ _ _ _ _ u0 _ _ _ P (lv_sub hl [0, 1, 2, 3, 4, 5, 6] rfl) h
    · have h := ite_t h c92
      refine lv_aload_n hx hb dL_people_97 rfl (lv_at hl 0 rfl) ?_
      refine lv_iload hx hb dL_people_98 (lv_at hl 7 rfl) ?_
      refine lv_iconst (v := 3) hx hb dL_people_100 (by decide) ?_
      refine a_calli (va_runV (As := [.int x7, .int (3 : Int32)]) (rest := []) C.1 (c_X9_gate l D cA o _ _ u0 _ h) (cwV 2 C.1.2.2.2.2 gL_people_X9_gate rfl rfl rfl (by decide +kernel) ⟨Nat.le_of_ble_eq_true rfl, Nat.le_of_ble_eq_true rfl⟩) (w_preV C P.1 [.int x7, .int (3 : Int32)] (ci := 9) rfl (kd_lt kd_at_0 (by decide)) (EK_9 kd_at_0)) rfl rfl hl.1 rfl (lv_room (Nat.le_of_ble_eq_true rfl)) dL_people_101 ⟨Nat.le_of_ble_eq_true rfl, Nat.le_of_ble_eq_true rfl⟩) P (fun r110 u109 H locs h P => ?_)
      refine lv_iload hx hb dL_people_104 (lv_at hl 5 rfl) ?_
      refine lv_icmp_ne (tgt := 182) hx hb dL_people_106 (by decide) (fun c111 => ?_) (fun c111 => ?_)
      · have h := ite_f h c111
        refine lv_iconst (v := 0) hx hb dL_people_182 (by decide) ?_
        exact a_ret C P (Or.inl rfl) h dL_people_183
      · have h := ite_t h c111
        exact t_L_people_109 C hX15 _ _ _ _ _ _ u109 _ _ _ P (lv_sub hl [0, 1, 2, 3, 4, 5, 6] rfl) h
def w_L_people_74 (X15 : Int32 → Int32 → Int32 → Int32 → (Nat → Int32) → Mm → Prop) (Φ : Int32 → Mm → Prop) (x2 : Int32) (x3 : Int32) (x4 : Int32) (x5 : Int32) (x6 : Int32) (x7 : Int32) (f0 : Nat → Int32) (z0 : Int32) (u0 : Mm) : Prop := (if x7 < 0 then (w_L_people_88 X15 Φ x2 x3 x4 x5 x6 x7 f0 ((0 : Int32)) z0 u0) else (w_L_people_88 X15 Φ x2 x3 x4 x5 x6 x7 f0 ((1 : Int32)) z0 u0))
set_option maxHeartbeats 4000000 in
set_option maxRecDepth 100000 in
theorem t_L_people_74 {p : Program} {l : Launch} {e : Env} {s : State} {m : MethodId} {args : Array Value} {below : List Frame} {meth : Method} {c : Code} {D : va_G} {cA : Nat → ClassId} {o q0 : Nat} {X15 : Int32 → Int32 → Int32 → Int32 → (Nat → Int32) → Mm → Prop} {Φ : Int32 → Mm → Prop} (C : Cx p m meth c s args cL_people 10 wsL_people RL (some .boolean) D (tysL cA)) (hX15 : ∀ (x2 : Int32) (x3 : Int32) (x4 : Int32) (x5 : Int32) (f0 : Nat → Int32) (u0 : Mm), ∀ (H : Heap) (locs : List Loc) (ls : Array Slot), HpA o q0 D cA u0 f0 s H locs → lv_has ls 10 [(0, .ref (o + 0)), (1, .ref q0), (2, .int x2), (3, .int x3), (4, .int x4), (5, .int x5)] → X15 x2 x3 x4 x5 f0 u0 → W p l e rm_L_people s m args below meth c H locs 1 6 (MQ below (Qg vI Φ (fun μ => Wd 747 o D (tysL cA) (EC cA o μ)) (fun q => o ≤ q)) args s 1 6 (fun q => o ≤ q)) (F0 m 15 ls [])) : ∀ (x2 : Int32) (x3 : Int32) (x4 : Int32) (x5 : Int32) (x6 : Int32) (x7 : Int32) (f0 : Nat → Int32) (z0 : Int32) (u0 : Mm), ∀ (H : Heap) (locs : List Loc) (ls : Array Slot), HpA o q0 D cA u0 f0 s H locs → lv_has ls 10 [(0, .ref (o + 0)), (1, .ref q0), (2, .int x2), (3, .int x3), (4, .int x4), (5, .int x5), (6, .int x6), (7, .int x7)] → w_L_people_74 X15 Φ x2 x3 x4 x5 x6 x7 f0 z0 u0 → W p l e rm_L_people s m args below meth c H locs 1 6 (MQ below (Qg vI Φ (fun μ => Wd 747 o D (tysL cA) (EC cA o μ)) (fun q => o ≤ q)) args s 1 6 (fun q => o ≤ q)) (F0 m 74 ls [.int z0]) := by
  intro x2 x3 x4 x5 x6 x7 f0 z0 u0 H locs ls P hl h
  have hx := C.1.1
  have hb := C.1.2.1
  unfold w_L_people_74 at h
  refine lv_istore (lv' := [(8, .int z0), (0, .ref (o + 0)), (1, .ref q0), (2, .int x2), (3, .int x3), (4, .int x4), (5, .int x5), (6, .int x6), (7, .int x7)]) hx hb dL_people_74 hl (by decide) rfl (fun ls hl => ?_)
  refine lv_iload hx hb dL_people_76 (lv_at hl 0 rfl) ?_
  refine lv_iload hx hb dL_people_78 (lv_at hl 8 rfl) ?_
  refine lv_if_lt (tgt := 87) hx hb dL_people_80 (by decide) (fun c90 => ?_) (fun c90 => ?_)
  · have h := ite_t h c90
    refine lv_iconst (v := 0) hx hb dL_people_87 (by decide) ?_
    exact t_L_people_88 C hX15 _ _ _ _ _ _ _ _ _ u0 _ _ _ P (lv_sub hl [1, 2, 3, 4, 5, 6, 7, 8] rfl) h
  · have h := ite_f h c90
    refine lv_iconst (v := 1) hx hb dL_people_83 (by decide) ?_
    refine lv_goto (tgt := 88) hx hb dL_people_84 (by decide) ?_
    exact t_L_people_88 C hX15 _ _ _ _ _ _ _ _ _ u0 _ _ _ P (lv_sub hl [1, 2, 3, 4, 5, 6, 7, 8] rfl) h
def w_L_people_69 (X15 : Int32 → Int32 → Int32 → Int32 → (Nat → Int32) → Mm → Prop) (Φ : Int32 → Mm → Prop) (x2 : Int32) (x3 : Int32) (x4 : Int32) (x5 : Int32) (x6 : Int32) (x7 : Int32) (f0 : Nat → Int32) (u0 : Mm) : Prop := (w_L_people_74 X15 Φ x2 x3 x4 x5 x6 x7 f0 ((1 : Int32)) u0)
set_option maxHeartbeats 4000000 in
set_option maxRecDepth 100000 in
theorem t_L_people_69 {p : Program} {l : Launch} {e : Env} {s : State} {m : MethodId} {args : Array Value} {below : List Frame} {meth : Method} {c : Code} {D : va_G} {cA : Nat → ClassId} {o q0 : Nat} {X15 : Int32 → Int32 → Int32 → Int32 → (Nat → Int32) → Mm → Prop} {Φ : Int32 → Mm → Prop} (C : Cx p m meth c s args cL_people 10 wsL_people RL (some .boolean) D (tysL cA)) (hX15 : ∀ (x2 : Int32) (x3 : Int32) (x4 : Int32) (x5 : Int32) (f0 : Nat → Int32) (u0 : Mm), ∀ (H : Heap) (locs : List Loc) (ls : Array Slot), HpA o q0 D cA u0 f0 s H locs → lv_has ls 10 [(0, .ref (o + 0)), (1, .ref q0), (2, .int x2), (3, .int x3), (4, .int x4), (5, .int x5)] → X15 x2 x3 x4 x5 f0 u0 → W p l e rm_L_people s m args below meth c H locs 1 6 (MQ below (Qg vI Φ (fun μ => Wd 747 o D (tysL cA) (EC cA o μ)) (fun q => o ≤ q)) args s 1 6 (fun q => o ≤ q)) (F0 m 15 ls [])) : ∀ (x2 : Int32) (x3 : Int32) (x4 : Int32) (x5 : Int32) (x6 : Int32) (x7 : Int32) (f0 : Nat → Int32) (u0 : Mm), ∀ (H : Heap) (locs : List Loc) (ls : Array Slot), HpA o q0 D cA u0 f0 s H locs → lv_has ls 10 [(0, .ref (o + 0)), (1, .ref q0), (2, .int x2), (3, .int x3), (4, .int x4), (5, .int x5), (6, .int x6), (7, .int x7)] → w_L_people_69 X15 Φ x2 x3 x4 x5 x6 x7 f0 u0 → W p l e rm_L_people s m args below meth c H locs 1 6 (MQ below (Qg vI Φ (fun μ => Wd 747 o D (tysL cA) (EC cA o μ)) (fun q => o ≤ q)) args s 1 6 (fun q => o ≤ q)) (F0 m 69 ls []) := by
  intro x2 x3 x4 x5 x6 x7 f0 u0 H locs ls P hl h
  have hx := C.1.1
  have hb := C.1.2.1
  unfold w_L_people_69 at h
  refine lv_iconst (v := 1) hx hb dL_people_69 (by decide) ?_
  refine lv_goto (tgt := 74) hx hb dL_people_70 (by decide) ?_
  exact t_L_people_74 C hX15 _ _ _ _ _ _ _ _ u0 _ _ _ P (lv_sub hl [0, 1, 2, 3, 4, 5, 6, 7] rfl) h
def w_L_people_15  (Φ : Int32 → Mm → Prop) : Nat → Int32 → Int32 → Int32 → Int32 → (Nat → Int32) → Mm → Prop
  | 0, _, _, _, _, _, _ => False
  | n + 1, x2, x3, x4, x5, f0, u0 => (w_X9_count ((2 : Int32)) u0 (fun r2 u1 => (if r2 ≤ x5 then (∃ n193 : Nat, w_L_people_193 Φ n193 x2 x3 x4 ((0 : Int32)) f0 u1) else (w_X9_person x5 ((0 : Int32)) u1 (fun r85 u84 => (w_X9_person x5 ((3 : Int32)) u84 (fun r87 u86 => (vp_in r85 6 ∧ (vp_in r85 6 ∧ ∀ f88 : Nat → Int32, f88 = upd f0 r85.toNatClampNeg ((f0 r85.toNatClampNeg) + (1 : Int32)) → (if r85 = (1 : Int32) then (w_L_people_69 (fun y0 y1 y2 y3 y4 u => w_L_people_15 Φ n y0 y1 y2 y3 y4 u) Φ x2 x3 x4 x5 r85 r87 f88 u86) else (if r85 = (2 : Int32) then (w_L_people_69 (fun y0 y1 y2 y3 y4 u => w_L_people_15 Φ n y0 y1 y2 y3 y4 u) Φ x2 x3 x4 x5 r85 r87 f88 u86) else (if r85 = (4 : Int32) then (w_L_people_69 (fun y0 y1 y2 y3 y4 u => w_L_people_15 Φ n y0 y1 y2 y3 y4 u) Φ x2 x3 x4 x5 r85 r87 f88 u86) else (w_L_people_74 (fun y0 y1 y2 y3 y4 u => w_L_people_15 Φ n y0 y1 y2 y3 y4 u) Φ x2 x3 x4 x5 r85 r87 f88 ((0 : Int32)) u86)))))))))))))
set_option maxHeartbeats 4000000 in
set_option maxRecDepth 100000 in
theorem t_L_people_15 {p : Program} {l : Launch} {e : Env} {s : State} {m : MethodId} {args : Array Value} {below : List Frame} {meth : Method} {c : Code} {D : va_G} {cA : Nat → ClassId} {o q0 : Nat}  {Φ : Int32 → Mm → Prop} (C : Cx p m meth c s args cL_people 10 wsL_people RL (some .boolean) D (tysL cA)) : ∀ n : Nat, ∀ (x2 : Int32) (x3 : Int32) (x4 : Int32) (x5 : Int32) (f0 : Nat → Int32) (u0 : Mm), ∀ (H : Heap) (locs : List Loc) (ls : Array Slot), HpA o q0 D cA u0 f0 s H locs → lv_has ls 10 [(0, .ref (o + 0)), (1, .ref q0), (2, .int x2), (3, .int x3), (4, .int x4), (5, .int x5)] → w_L_people_15 Φ n x2 x3 x4 x5 f0 u0 → W p l e rm_L_people s m args below meth c H locs 1 6 (MQ below (Qg vI Φ (fun μ => Wd 747 o D (tysL cA) (EC cA o μ)) (fun q => o ≤ q)) args s 1 6 (fun q => o ≤ q)) (F0 m 15 ls []) := by
  intro n
  induction n with
  | zero => intro x2 x3 x4 x5 f0 u0 H locs ls P hl h; exact h.elim
  | succ n ih =>
    intro x2 x3 x4 x5 f0 u0 H locs ls P hl h
    have hx := C.1.1
    have hb := C.1.2.1
    rw [w_L_people_15] at h
    refine lv_iload hx hb dL_people_15 (lv_at hl 5 rfl) ?_
    refine lv_aload_n hx hb dL_people_17 rfl (lv_at hl 0 rfl) ?_
    refine lv_iconst (v := 2) hx hb dL_people_18 (by decide) ?_
    refine a_calli (va_runV (As := [.int (2 : Int32)]) (rest := [.int x5]) C.1 (c_X9_count l D cA o _ u0 _ h) (cwV 1 C.1.2.2.2.2 gL_people_X9_count rfl rfl rfl (by decide +kernel) ⟨Nat.le_of_ble_eq_true rfl, Nat.le_of_ble_eq_true rfl⟩) (w_preV C P.1 [.int (2 : Int32)] (ci := 9) rfl (kd_lt kd_at_0 (by decide)) (EK_9 kd_at_0)) rfl rfl hl.1 rfl (lv_room (Nat.le_of_ble_eq_true rfl)) dL_people_19 ⟨Nat.le_of_ble_eq_true rfl, Nat.le_of_ble_eq_true rfl⟩) P (fun r2 u1 H locs h P => ?_)
    refine lv_icmp_ge (tgt := 190) hx hb dL_people_22 (by decide) (fun c3 => ?_) (fun c3 => ?_)
    · have h := ite_t h c3
      refine lv_iconst (v := 0) hx hb dL_people_190 (by decide) ?_
      refine lv_istore (lv' := [(5, .int (0 : Int32)), (0, .ref (o + 0)), (1, .ref q0), (2, .int x2), (3, .int x3), (4, .int x4)]) hx hb dL_people_191 hl (by decide) rfl (fun ls hl => ?_)
      obtain ⟨n193, h⟩ := h
      exact t_L_people_193 C n193 _ _ _ _ _ u1 _ _ _ P (lv_sub hl [1, 2, 3, 4, 5, 0] rfl) h
    · have h := ite_f h c3
      refine lv_aload_n hx hb dL_people_25 rfl (lv_at hl 0 rfl) ?_
      refine lv_iload hx hb dL_people_26 (lv_at hl 5 rfl) ?_
      refine lv_iconst (v := 0) hx hb dL_people_28 (by decide) ?_
      refine a_calli (va_runV (As := [.int x5, .int (0 : Int32)]) (rest := []) C.1 (c_X9_person l D cA o _ _ u1 _ h) (cwV 2 C.1.2.2.2.2 gL_people_X9_person rfl rfl rfl (by decide +kernel) ⟨Nat.le_of_ble_eq_true rfl, Nat.le_of_ble_eq_true rfl⟩) (w_preV C P.1 [.int x5, .int (0 : Int32)] (ci := 9) rfl (kd_lt kd_at_0 (by decide)) (EK_9 kd_at_0)) rfl rfl hl.1 rfl (lv_room (Nat.le_of_ble_eq_true rfl)) dL_people_29 ⟨Nat.le_of_ble_eq_true rfl, Nat.le_of_ble_eq_true rfl⟩) P (fun r85 u84 H locs h P => ?_)
      refine lv_istore (lv' := [(6, .int r85), (0, .ref (o + 0)), (1, .ref q0), (2, .int x2), (3, .int x3), (4, .int x4), (5, .int x5)]) hx hb dL_people_32 hl (by decide) rfl (fun ls hl => ?_)
      refine lv_aload_n hx hb dL_people_34 rfl (lv_at hl 1 rfl) ?_
      refine lv_iload hx hb dL_people_35 (lv_at hl 6 rfl) ?_
      refine lv_iconst (v := 3) hx hb dL_people_37 (by decide) ?_
      refine a_calli (va_runV (As := [.int x5, .int (3 : Int32)]) (rest := []) C.1 (c_X9_person l D cA o _ _ u84 _ h) (cwV 2 C.1.2.2.2.2 gL_people_X9_person rfl rfl rfl (by decide +kernel) ⟨Nat.le_of_ble_eq_true rfl, Nat.le_of_ble_eq_true rfl⟩) (w_preV C P.1 [.int x5, .int (3 : Int32)] (ci := 9) rfl (kd_lt kd_at_0 (by decide)) (EK_9 kd_at_0)) rfl rfl hl.1 rfl (lv_room (Nat.le_of_ble_eq_true rfl)) dL_people_38 ⟨Nat.le_of_ble_eq_true rfl, Nat.le_of_ble_eq_true rfl⟩) P (fun r87 u86 H locs h P => ?_)
      refine lv_istore (lv' := [(7, .int r87), (6, .int r85), (0, .ref (o + 0)), (1, .ref q0), (2, .int x2), (3, .int x3), (4, .int x4), (5, .int x5)]) hx hb dL_people_41 hl (by decide) rfl (fun ls hl => ?_)
      refine lv_aload_n hx hb dL_people_43 rfl (lv_at hl 3 rfl) ?_
      refine lv_iload hx hb dL_people_44 (lv_at hl 1 rfl) ?_
      refine lv_dup2_11 hx hb dL_people_46 rfl rfl ?_
      obtain ⟨hi, h⟩ := h
      refine a_ld C P hi dL_people_47 ?_
      refine lv_iconst (v := 1) hx hb dL_people_48 (by decide) ?_
      refine lv_iadd hx hb dL_people_49 ?_
      obtain ⟨hi, h⟩ := h
      refine a_st C P hi dL_people_50 (fun f88 ef88 H locs P => ?_)
      have h := h f88 ef88
      refine lv_iload hx hb dL_people_51 (lv_at hl 1 rfl) ?_
      refine lv_iconst (v := 1) hx hb dL_people_53 (by decide) ?_
      refine lv_icmp_eq (tgt := 69) hx hb dL_people_54 (by decide) (fun c89 => ?_) (fun c89 => ?_)
      · have h := ite_t h c89
        exact t_L_people_69 C ih _ _ _ _ _ _ _ u86 _ _ _ P (lv_sub hl [2, 3, 4, 5, 6, 7, 1, 0] rfl) h
      · have h := ite_f h c89
        refine lv_iload hx hb dL_people_57 (lv_at hl 1 rfl) ?_
        refine lv_iconst (v := 2) hx hb dL_people_59 (by decide) ?_
        refine lv_icmp_eq (tgt := 69) hx hb dL_people_60 (by decide) (fun c112 => ?_) (fun c112 => ?_)
        · have h := ite_t h c112
          exact t_L_people_69 C ih _ _ _ _ _ _ _ u86 _ _ _ P (lv_sub hl [2, 3, 4, 5, 6, 7, 1, 0] rfl) h
        · have h := ite_f h c112
          refine lv_iload hx hb dL_people_63 (lv_at hl 1 rfl) ?_
          refine lv_iconst (v := 4) hx hb dL_people_65 (by decide) ?_
          refine lv_icmp_ne (tgt := 73) hx hb dL_people_66 (by decide) (fun c113 => ?_) (fun c113 => ?_)
          · have h := ite_f h c113
            refine lv_iconst (v := 0) hx hb dL_people_73 (by decide) ?_
            exact t_L_people_74 C ih _ _ _ _ _ _ _ _ u86 _ _ _ P (lv_sub hl [2, 3, 4, 5, 6, 7, 1, 0] rfl) h
          · have h := ite_t h c113
            exact t_L_people_69 C ih _ _ _ _ _ _ _ u86 _ _ _ P (lv_sub hl [2, 3, 4, 5, 6, 7, 1, 0] rfl) h
def w_L_people (f0 : Nat → Int32) (u0 : Mm) (Φ : Int32 → Mm → Prop) : Prop := (∃ n15 : Nat, w_L_people_15 Φ n15 ((0 : Int32)) ((0 : Int32)) ((0 : Int32)) ((0 : Int32)) f0 u0)
set_option maxHeartbeats 4000000 in
set_option maxRecDepth 100000 in
theorem t_L_people_0 {p : Program} {l : Launch} {e : Env} {s : State} {m : MethodId} {args : Array Value} {below : List Frame} {meth : Method} {c : Code} {D : va_G} {cA : Nat → ClassId} {o q0 : Nat}  {Φ : Int32 → Mm → Prop} (C : Cx p m meth c s args cL_people 10 wsL_people RL (some .boolean) D (tysL cA)) : ∀ (f0 : Nat → Int32) (u0 : Mm), ∀ (H : Heap) (locs : List Loc) (ls : Array Slot), HpA o q0 D cA u0 f0 s H locs → lv_has ls 10 [(1, .ref q0), (0, .ref (o + 0))] → w_L_people f0 u0 Φ → W p l e rm_L_people s m args below meth c H locs 1 6 (MQ below (Qg vI Φ (fun μ => Wd 747 o D (tysL cA) (EC cA o μ)) (fun q => o ≤ q)) args s 1 6 (fun q => o ≤ q)) (F0 m 5 ls []) := by
  intro f0 u0 H locs ls P hl h
  have hx := C.1.1
  have hb := C.1.2.1
  unfold w_L_people at h
  refine lv_iconst (v := 0) hx hb dL_people_5 (by decide) ?_
  refine lv_istore_n (lv' := [(2, .int (0 : Int32)), (1, .ref q0), (0, .ref (o + 0))]) hx hb dL_people_6 rfl hl (by decide) rfl (fun ls hl => ?_)
  refine lv_iconst (v := 0) hx hb dL_people_7 (by decide) ?_
  refine lv_istore_n (lv' := [(3, .int (0 : Int32)), (2, .int (0 : Int32)), (1, .ref q0), (0, .ref (o + 0))]) hx hb dL_people_8 rfl hl (by decide) rfl (fun ls hl => ?_)
  refine lv_iconst (v := 0) hx hb dL_people_9 (by decide) ?_
  refine lv_istore (lv' := [(4, .int (0 : Int32)), (3, .int (0 : Int32)), (2, .int (0 : Int32)), (1, .ref q0), (0, .ref (o + 0))]) hx hb dL_people_10 hl (by decide) rfl (fun ls hl => ?_)
  refine lv_iconst (v := 0) hx hb dL_people_12 (by decide) ?_
  refine lv_istore (lv' := [(5, .int (0 : Int32)), (4, .int (0 : Int32)), (3, .int (0 : Int32)), (2, .int (0 : Int32)), (1, .ref q0), (0, .ref (o + 0))]) hx hb dL_people_13 hl (by decide) rfl (fun ls hl => ?_)
  obtain ⟨n15, h⟩ := h
  exact t_L_people_15 C n15 _ _ _ _ _ u0 _ _ _ P (lv_sub hl [5, 4, 3, 2, 1, 0] rfl) h
set_option maxHeartbeats 4000000 in
set_option maxRecDepth 100000 in
theorem c_L_people (l : Launch) (D : va_G) (cA : Nat → ClassId) (o : Nat) (u0 : Mm) (Φ : Int32 → Mm → Prop) (h : w_L_people (fun _ => 0) u0 Φ) : Met l yL_people wsL_people rm_L_people (va_Pc [.ref (o + 0)] (Wd 747 o D (tysL cA) (EC cA o u0))) (Qg vI Φ (fun μ => Wd 747 o D (tysL cA) (EC cA o μ)) (fun q => o ≤ q)) 1 6 (fun q => o ≤ q) := by
  refine Met.ofW (cc := cL_people) (maxL := 10) (ret := (some .boolean)) (by decide) rfl ?_
  intro p e s m args below meth c s₁ B hml hv
  obtain ⟨rfl, hv⟩ := hv
  have hl := lv_entry ([.ref (o + 0)]) (n := 10) (Nat.le_of_ble_eq_true rfl)
  rw [lg_entry_eq]
  have C : Cx p m meth c s _ cL_people 10 wsL_people RL (some .boolean) D (tysL cA) := ⟨⟨B.exec, B.bytes, hml, findClass_of_methodNamed B.named, atoms_spec (ws := wsL_people) B.pre⟩, B.returns, B.notSynchronized, hv.2⟩
  have hx := C.1.1
  have hb := C.1.2.1
  generalize (lg_sl ([.ref (o + 0)]) ++ List.replicate (10 - (lg_sl ([.ref (o + 0)])).length) Slot.unset).toArray = ls at hl ⊢
  have hl : lv_has ls 10 [(0, .ref (o + 0))] := hl
  refine lv_bipush (v := 6) hx hb dL_people_0 (by decide) ?_
  refine a_new C hv.1 (C.1.2.2.2.2 _ (List.mem_of_getElem? (i := 1) (by decide +kernel))) (Nat.le_of_ble_eq_true rfl) (Nat.le_of_ble_eq_true rfl) dL_people_2 (fun q0 H P => ?_)
  refine lv_astore_n (lv' := [(1, .ref q0), (0, .ref (o + 0))]) hx hb dL_people_4 rfl hl (by decide) rfl (fun ls hl => ?_)
  exact t_L_people_0 C _ u0 _ _ _ P hl h
