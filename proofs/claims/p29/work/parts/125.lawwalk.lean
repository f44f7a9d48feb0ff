abbrev rm_L_orders : Room := { frames := 8, cells := 0, slots := 0, locals := 179 }
def w_L_orders_324  (Φ : Int32 → Mm → Prop) (x5 : Int32) (x6 : Int32) (z0 : Int32) (u0 : Mm) : Prop := (if z0 = 0 then (Φ (0 : Int32) u0) else (w_X9_undo u0 (fun r56 u55 => (if r56 < 0 then (Φ (0 : Int32) u55) else (w_X9_count ((2 : Int32)) u55 (fun r59 u58 => (if r59 = x5 then (w_X9_count ((0 : Int32)) u58 (fun r62 u61 => (if r62 = x6 then (Φ (1 : Int32) u61) else (Φ (0 : Int32) u61)))) else (Φ (0 : Int32) u58))))))))
set_option maxHeartbeats 4000000 in
set_option maxRecDepth 100000 in
theorem t_L_orders_324 {p : Program} {l : Launch} {e : Env} {s : State} {m : MethodId} {args : Array Value} {below : List Frame} {meth : Method} {c : Code} {D : va_G} {cA : Nat → ClassId} {o : Nat}  {Φ : Int32 → Mm → Prop} (C : Cx p m meth c s args cL_orders 12 wsL_orders RL (some .boolean) D (tysL cA)) : ∀ (x5 : Int32) (x6 : Int32) (z0 : Int32) (u0 : Mm), ∀ (H : Heap) (locs : List Loc) (ls : Array Slot), Hp 747 o D (EC cA o u0) s H locs → lv_has ls 12 [(0, .ref (o + 0)), (5, .int x5), (6, .int x6)] → w_L_orders_324 Φ x5 x6 z0 u0 → W p l e rm_L_orders s m args below meth c H locs 0 0 (MQ below (Qg vI Φ (fun μ => Wd 747 o D (tysL cA) (EC cA o μ)) (aA o 747)) args s 0 0 (aA o 747)) (F0 m 324 ls [.int z0]) := by
  intro x5 x6 z0 u0 H locs ls P hl h
  have hx := C.1.1
  have hb := C.1.2.1
  unfold w_L_orders_324 at h
  refine lv_istore (lv' := [(11, .int z0), (0, .ref (o + 0)), (5, .int x5), (6, .int x6)]) hx hb dL_orders_324 hl (by decide) rfl (fun ls hl => ?_)
  refine lv_iload hx hb dL_orders_326 (lv_at hl 0 rfl) ?_
  refine lv_if_eq (tgt := 362) hx hb dL_orders_328 (by decide) (fun c54 => ?_) (fun c54 => ?_)
  · have h := ite_t h c54
    refine lv_iconst (v := 0) hx hb dL_orders_362 (by decide) ?_
    exact r_iretb C P (Or.inl rfl) h dL_orders_363
  · have h := ite_f h c54
    refine lv_aload_n hx hb dL_orders_331 rfl (lv_at hl 1 rfl) ?_
    refine r_calli (F := EC cA o) (va_runV (As := []) (rest := []) C.1 (c_X9_undo l D cA o u0 _ h) (cwV 0 C.1.2.2.2.2 gL_orders_X9_undo rfl rfl rfl (by decide +kernel) ⟨Nat.le_of_ble_eq_true rfl, Nat.le_of_ble_eq_true rfl⟩) (r_preV C P [] (ci := 9) rfl (kd_lt kd_at_0 (by decide)) (EK_9 kd_at_0)) rfl rfl hl.1 rfl (lv_room (Nat.le_of_ble_eq_true rfl)) dL_orders_332 ⟨Nat.le_of_ble_eq_true rfl, Nat.le_of_ble_eq_true rfl⟩) P.2 (fun r56 u55 H locs h P => ?_)
    refine lv_if_lt (tgt := 362) hx hb dL_orders_335 (by decide) (fun c57 => ?_) (fun c57 => ?_)
    · have h := ite_t h c57
      refine lv_iconst (v := 0) hx hb dL_orders_362 (by decide) ?_
      exact r_iretb C P (Or.inl rfl) h dL_orders_363
    · have h := ite_f h c57
      refine lv_aload_n hx hb dL_orders_338 rfl (lv_at hl 1 rfl) ?_
      refine lv_iconst (v := 2) hx hb dL_orders_339 (by decide) ?_
      refine r_calli (F := EC cA o) (va_runV (As := [.int (2 : Int32)]) (rest := []) C.1 (c_X9_count l D cA o _ u55 _ h) (cwV 1 C.1.2.2.2.2 gL_orders_X9_count rfl rfl rfl (by decide +kernel) ⟨Nat.le_of_ble_eq_true rfl, Nat.le_of_ble_eq_true rfl⟩) (r_preV C P [.int (2 : Int32)] (ci := 9) rfl (kd_lt kd_at_0 (by decide)) (EK_9 kd_at_0)) rfl rfl hl.1 rfl (lv_room (Nat.le_of_ble_eq_true rfl)) dL_orders_340 ⟨Nat.le_of_ble_eq_true rfl, Nat.le_of_ble_eq_true rfl⟩) P.2 (fun r59 u58 H locs h P => ?_)
      refine lv_iload hx hb dL_orders_343 (lv_at hl 2 rfl) ?_
      refine lv_icmp_ne (tgt := 362) hx hb dL_orders_345 (by decide) (fun c60 => ?_) (fun c60 => ?_)
      · have h := ite_f h c60
        refine lv_iconst (v := 0) hx hb dL_orders_362 (by decide) ?_
        exact r_iretb C P (Or.inl rfl) h dL_orders_363
      · have h := ite_t h c60
        refine lv_aload_n hx hb dL_orders_348 rfl (lv_at hl 1 rfl) ?_
        refine lv_iconst (v := 0) hx hb dL_orders_349 (by decide) ?_
        refine r_calli (F := EC cA o) (va_runV (As := [.int (0 : Int32)]) (rest := []) C.1 (c_X9_count l D cA o _ u58 _ h) (cwV 1 C.1.2.2.2.2 gL_orders_X9_count rfl rfl rfl (by decide +kernel) ⟨Nat.le_of_ble_eq_true rfl, Nat.le_of_ble_eq_true rfl⟩) (r_preV C P [.int (0 : Int32)] (ci := 9) rfl (kd_lt kd_at_0 (by decide)) (EK_9 kd_at_0)) rfl rfl hl.1 rfl (lv_room (Nat.le_of_ble_eq_true rfl)) dL_orders_350 ⟨Nat.le_of_ble_eq_true rfl, Nat.le_of_ble_eq_true rfl⟩) P.2 (fun r62 u61 H locs h P => ?_)
        refine lv_iload hx hb dL_orders_353 (lv_at hl 3 rfl) ?_
        refine lv_icmp_ne (tgt := 362) hx hb dL_orders_355 (by decide) (fun c63 => ?_) (fun c63 => ?_)
        · have h := ite_f h c63
          refine lv_iconst (v := 0) hx hb dL_orders_362 (by decide) ?_
          exact r_iretb C P (Or.inl rfl) h dL_orders_363
        · have h := ite_t h c63
          refine lv_iconst (v := 1) hx hb dL_orders_358 (by decide) ?_
          refine lv_goto (tgt := 363) hx hb dL_orders_359 (by decide) ?_
          exact r_iretb C P (Or.inr rfl) h dL_orders_363
def w_L_orders_286  (Φ : Int32 → Mm → Prop) (x5 : Int32) (x6 : Int32) (x8 : Int32) (u0 : Mm) : Prop := (w_X9_type ((120 : Int32)) u0 (fun r46 u45 => (w_X9_count ((1 : Int32)) u45 (fun r48 u47 => (w_X9_type ((((48 : Int32) + r48).toUInt32 % 65536).toInt32) u47 (fun r50 u49 => (w_X9_run u49 (fun r52 u51 => (if r52 = ((-101 : Int32) - x8) then (w_L_orders_324 Φ x5 x6 ((1 : Int32)) u51) else (w_L_orders_324 Φ x5 x6 ((0 : Int32)) u51))))))))))
set_option maxHeartbeats 4000000 in
set_option maxRecDepth 100000 in
theorem t_L_orders_286 {p : Program} {l : Launch} {e : Env} {s : State} {m : MethodId} {args : Array Value} {below : List Frame} {meth : Method} {c : Code} {D : va_G} {cA : Nat → ClassId} {o : Nat}  {Φ : Int32 → Mm → Prop} (C : Cx p m meth c s args cL_orders 12 wsL_orders RL (some .boolean) D (tysL cA)) : ∀ (x5 : Int32) (x6 : Int32) (x8 : Int32) (u0 : Mm), ∀ (H : Heap) (locs : List Loc) (ls : Array Slot), Hp 747 o D (EC cA o u0) s H locs → lv_has ls 12 [(0, .ref (o + 0)), (5, .int x5), (6, .int x6), (8, .int x8)] → w_L_orders_286 Φ x5 x6 x8 u0 → W p l e rm_L_orders s m args below meth c H locs 0 0 (MQ below (Qg vI Φ (fun μ => Wd 747 o D (tysL cA) (EC cA o μ)) (aA o 747)) args s 0 0 (aA o 747)) (F0 m 286 ls []) := by
  intro x5 x6 x8 u0 H locs ls P hl h
  have hx := C.1.1
  have hb := C.1.2.1
  unfold w_L_orders_286 at h
  refine lv_aload_n hx hb dL_orders_286 rfl (lv_at hl 0 rfl) ?_
  refine lv_bipush (v := 120) hx hb dL_orders_287 (by decide) ?_
  refine r_calli (F := EC cA o) (va_runV (As := [.int (120 : Int32)]) (rest := []) C.1 (c_X9_type l D cA o _ u0 _ h) (cwV 1 C.1.2.2.2.2 gL_orders_X9_type rfl rfl rfl (by decide +kernel) ⟨Nat.le_of_ble_eq_true rfl, Nat.le_of_ble_eq_true rfl⟩) (r_preV C P [.int (120 : Int32)] (ci := 9) rfl (kd_lt kd_at_0 (by decide)) (EK_9 kd_at_0)) rfl rfl hl.1 rfl (lv_room (Nat.le_of_ble_eq_true rfl)) dL_orders_289 ⟨Nat.le_of_ble_eq_true rfl, Nat.le_of_ble_eq_true rfl⟩) P.2 (fun r46 u45 H locs h P => ?_)
  refine lv_pop hx hb dL_orders_292 rfl ?_
  refine lv_aload_n hx hb dL_orders_293 rfl (lv_at hl 0 rfl) ?_
  refine lv_bipush (v := 48) hx hb dL_orders_294 (by decide) ?_
  refine lv_aload_n hx hb dL_orders_296 rfl (lv_at hl 0 rfl) ?_
  refine lv_iconst (v := 1) hx hb dL_orders_297 (by decide) ?_
  refine r_calli (F := EC cA o) (va_runV (As := [.int (1 : Int32)]) (rest := [.int (48 : Int32), .ref (o + 0)]) C.1 (c_X9_count l D cA o _ u45 _ h) (cwV 1 C.1.2.2.2.2 gL_orders_X9_count rfl rfl rfl (by decide +kernel) ⟨Nat.le_of_ble_eq_true rfl, Nat.le_of_ble_eq_true rfl⟩) (r_preV C P [.int (1 : Int32)] (ci := 9) rfl (kd_lt kd_at_0 (by decide)) (EK_9 kd_at_0)) rfl rfl hl.1 rfl (lv_room (Nat.le_of_ble_eq_true rfl)) dL_orders_298 ⟨Nat.le_of_ble_eq_true rfl, Nat.le_of_ble_eq_true rfl⟩) P.2 (fun r48 u47 H locs h P => ?_)
  refine lv_iadd hx hb dL_orders_301 ?_
  refine lv_i2c hx hb dL_orders_302 rfl ?_
  refine r_calli (F := EC cA o) (va_runV (As := [.int (((48 : Int32) + r48).toUInt32 % 65536).toInt32]) (rest := []) C.1 (c_X9_type l D cA o _ u47 _ h) (cwV 1 C.1.2.2.2.2 gL_orders_X9_type rfl rfl rfl (by decide +kernel) ⟨Nat.le_of_ble_eq_true rfl, Nat.le_of_ble_eq_true rfl⟩) (r_preV C P [.int (((48 : Int32) + r48).toUInt32 % 65536).toInt32] (ci := 9) rfl (kd_lt kd_at_0 (by decide)) (EK_9 kd_at_0)) rfl rfl hl.1 rfl (lv_room (Nat.le_of_ble_eq_true rfl)) dL_orders_303 ⟨Nat.le_of_ble_eq_true rfl, Nat.le_of_ble_eq_true rfl⟩) P.2 (fun r50 u49 H locs h P => ?_)
  refine lv_pop hx hb dL_orders_306 rfl ?_
  refine lv_aload_n hx hb dL_orders_307 rfl (lv_at hl 0 rfl) ?_
  refine r_calli (F := EC cA o) (va_runV (As := []) (rest := []) C.1 (c_X9_run l D cA o u49 _ h) (cwV 0 C.1.2.2.2.2 gL_orders_X9_run rfl rfl rfl (by decide +kernel) ⟨Nat.le_of_ble_eq_true rfl, Nat.le_of_ble_eq_true rfl⟩) (r_preV C P [] (ci := 9) rfl (kd_lt kd_at_0 (by decide)) (EK_9 kd_at_0)) rfl rfl hl.1 rfl (lv_room (Nat.le_of_ble_eq_true rfl)) dL_orders_308 ⟨Nat.le_of_ble_eq_true rfl, Nat.le_of_ble_eq_true rfl⟩) P.2 (fun r52 u51 H locs h P => ?_)
  refine lv_bipush (v := -101) hx hb dL_orders_311 (by decide) ?_
  refine lv_iload hx hb dL_orders_313 (lv_at hl 3 rfl) ?_
  refine lv_isub hx hb dL_orders_315 ?_
  refine lv_icmp_ne (tgt := 323) hx hb dL_orders_316 (by decide) (fun c53 => ?_) (fun c53 => ?_)
  · have h := ite_f h c53
    refine lv_iconst (v := 0) hx hb dL_orders_323 (by decide) ?_
    exact t_L_orders_324 C _ _ _ u51 _ _ _ P (lv_sub hl [0, 1, 2] rfl) h
  · have h := ite_t h c53
    refine lv_iconst (v := 1) hx hb dL_orders_319 (by decide) ?_
    refine lv_goto (tgt := 324) hx hb dL_orders_320 (by decide) ?_
    exact t_L_orders_324 C _ _ _ u51 _ _ _ P (lv_sub hl [0, 1, 2] rfl) h
def w_L_orders_281  (Φ : Int32 → Mm → Prop) (x5 : Int32) (x6 : Int32) (x8 : Int32) (z0 : Int32) (z1 : Int32) (u0 : Mm) : Prop := (if z1 = z0 then (w_L_orders_286 Φ x5 x6 x8 u0) else (Φ (0 : Int32) u0))
set_option maxHeartbeats 4000000 in
set_option maxRecDepth 100000 in
theorem t_L_orders_281 {p : Program} {l : Launch} {e : Env} {s : State} {m : MethodId} {args : Array Value} {below : List Frame} {meth : Method} {c : Code} {D : va_G} {cA : Nat → ClassId} {o : Nat}  {Φ : Int32 → Mm → Prop} (C : Cx p m meth c s args cL_orders 12 wsL_orders RL (some .boolean) D (tysL cA)) : ∀ (x5 : Int32) (x6 : Int32) (x8 : Int32) (z0 : Int32) (z1 : Int32) (u0 : Mm), ∀ (H : Heap) (locs : List Loc) (ls : Array Slot), Hp 747 o D (EC cA o u0) s H locs → lv_has ls 12 [(0, .ref (o + 0)), (5, .int x5), (6, .int x6), (8, .int x8)] → w_L_orders_281 Φ x5 x6 x8 z0 z1 u0 → W p l e rm_L_orders s m args below meth c H locs 0 0 (MQ below (Qg vI Φ (fun μ => Wd 747 o D (tysL cA) (EC cA o μ)) (aA o 747)) args s 0 0 (aA o 747)) (F0 m 281 ls [.int z0, .int z1]) := by
  intro x5 x6 x8 z0 z1 u0 H locs ls P hl h
  have hx := C.1.1
  have hb := C.1.2.1
  unfold w_L_orders_281 at h
  refine lv_icmp_eq (tgt := 286) hx hb dL_orders_281 (by decide) (fun c70 => ?_) (fun c70 => ?_)
  · have h := ite_t h c70
    exact t_L_orders_286 C _ _ _ u0 _ _ _ P (lv_sub hl [0, 1, 2, 3] rfl) h
  · have h := ite_f h c70
    refine lv_iconst (v := 0) hx hb dL_orders_284 (by decide) ?_
    exact r_iretb C P (Or.inl rfl) h dL_orders_285
def w_L_orders_241  (Φ : Int32 → Mm → Prop) (x2 : Int32) (x4 : Int32) (x5 : Int32) (x6 : Int32) (x8 : Int32) (x10 : Int32) (z0 : Int32) (z1 : Int32) (z2 : Int32) (u0 : Mm) : Prop := (if z2 = (z1 + z0) then (if x10 = (2 : Int32) then (w_X9_person x5 ((1 : Int32)) u0 (fun r65 u64 => (if r65 = x2 then (w_X9_person x5 ((2 : Int32)) u64 (fun r68 u67 => (if x4 = 0 then (w_L_orders_281 Φ x5 x6 x8 ((0 : Int32)) r68 u67) else (w_L_orders_281 Φ x5 x6 x8 ((1 : Int32)) r68 u67)))) else (Φ (0 : Int32) u64)))) else (w_L_orders_286 Φ x5 x6 x8 u0)) else (Φ (0 : Int32) u0))
set_option maxHeartbeats 4000000 in
set_option maxRecDepth 100000 in
theorem t_L_orders_241 {p : Program} {l : Launch} {e : Env} {s : State} {m : MethodId} {args : Array Value} {below : List Frame} {meth : Method} {c : Code} {D : va_G} {cA : Nat → ClassId} {o : Nat}  {Φ : Int32 → Mm → Prop} (C : Cx p m meth c s args cL_orders 12 wsL_orders RL (some .boolean) D (tysL cA)) : ∀ (x2 : Int32) (x4 : Int32) (x5 : Int32) (x6 : Int32) (x8 : Int32) (x10 : Int32) (z0 : Int32) (z1 : Int32) (z2 : Int32) (u0 : Mm), ∀ (H : Heap) (locs : List Loc) (ls : Array Slot), Hp 747 o D (EC cA o u0) s H locs → lv_has ls 12 [(0, .ref (o + 0)), (2, .int x2), (4, .int x4), (5, .int x5), (6, .int x6), (8, .int x8), (10, .int x10)] → w_L_orders_241 Φ x2 x4 x5 x6 x8 x10 z0 z1 z2 u0 → W p l e rm_L_orders s m args below meth c H locs 0 0 (MQ below (Qg vI Φ (fun μ => Wd 747 o D (tysL cA) (EC cA o μ)) (aA o 747)) args s 0 0 (aA o 747)) (F0 m 241 ls [.int z0, .int z1, .int z2]) := by
  intro x2 x4 x5 x6 x8 x10 z0 z1 z2 u0 H locs ls P hl h
  have hx := C.1.1
  have hb := C.1.2.1
  unfold w_L_orders_241 at h
  refine lv_iadd hx hb dL_orders_241 ?_
  refine lv_icmp_eq (tgt := 247) hx hb dL_orders_242 (by decide) (fun c43 => ?_) (fun c43 => ?_)
  · have h := ite_t h c43
    refine lv_iload hx hb dL_orders_247 (lv_at hl 6 rfl) ?_
    refine lv_iconst (v := 2) hx hb dL_orders_249 (by decide) ?_
    refine lv_icmp_ne (tgt := 286) hx hb dL_orders_250 (by decide) (fun c44 => ?_) (fun c44 => ?_)
    · have h := ite_f h c44
      exact t_L_orders_286 C _ _ _ u0 _ _ _ P (lv_sub hl [0, 3, 4, 5] rfl) h
    · have h := ite_t h c44
      refine lv_aload_n hx hb dL_orders_253 rfl (lv_at hl 0 rfl) ?_
      refine lv_iload hx hb dL_orders_254 (lv_at hl 3 rfl) ?_
      refine lv_iconst (v := 1) hx hb dL_orders_256 (by decide) ?_
      refine r_calli (F := EC cA o) (va_runV (As := [.int x5, .int (1 : Int32)]) (rest := []) C.1 (c_X9_person l D cA o _ _ u0 _ h) (cwV 2 C.1.2.2.2.2 gL_orders_X9_person rfl rfl rfl (by decide +kernel) ⟨Nat.le_of_ble_eq_true rfl, Nat.le_of_ble_eq_true rfl⟩) (r_preV C P [.int x5, .int (1 : Int32)] (ci := 9) rfl (kd_lt kd_at_0 (by decide)) (EK_9 kd_at_0)) rfl rfl hl.1 rfl (lv_room (Nat.le_of_ble_eq_true rfl)) dL_orders_257 ⟨Nat.le_of_ble_eq_true rfl, Nat.le_of_ble_eq_true rfl⟩) P.2 (fun r65 u64 H locs h P => ?_)
      refine lv_iload_n hx hb dL_orders_260 rfl (lv_at hl 1 rfl) ?_
      refine lv_icmp_ne (tgt := 284) hx hb dL_orders_261 (by decide) (fun c66 => ?_) (fun c66 => ?_)
      · have h := ite_f h c66
        refine lv_iconst (v := 0) hx hb dL_orders_284 (by decide) ?_
        exact r_iretb C P (Or.inl rfl) h dL_orders_285
      · have h := ite_t h c66
        refine lv_aload_n hx hb dL_orders_264 rfl (lv_at hl 0 rfl) ?_
        refine lv_iload hx hb dL_orders_265 (lv_at hl 3 rfl) ?_
        refine lv_iconst (v := 2) hx hb dL_orders_267 (by decide) ?_
        refine r_calli (F := EC cA o) (va_runV (As := [.int x5, .int (2 : Int32)]) (rest := []) C.1 (c_X9_person l D cA o _ _ u64 _ h) (cwV 2 C.1.2.2.2.2 gL_orders_X9_person rfl rfl rfl (by decide +kernel) ⟨Nat.le_of_ble_eq_true rfl, Nat.le_of_ble_eq_true rfl⟩) (r_preV C P [.int x5, .int (2 : Int32)] (ci := 9) rfl (kd_lt kd_at_0 (by decide)) (EK_9 kd_at_0)) rfl rfl hl.1 rfl (lv_room (Nat.le_of_ble_eq_true rfl)) dL_orders_268 ⟨Nat.le_of_ble_eq_true rfl, Nat.le_of_ble_eq_true rfl⟩) P.2 (fun r68 u67 H locs h P => ?_)
        refine lv_iload hx hb dL_orders_271 (lv_at hl 2 rfl) ?_
        refine lv_if_eq (tgt := 280) hx hb dL_orders_273 (by decide) (fun c69 => ?_) (fun c69 => ?_)
        · have h := ite_t h c69
          refine lv_iconst (v := 0) hx hb dL_orders_280 (by decide) ?_
          exact t_L_orders_281 C _ _ _ _ _ u67 _ _ _ P (lv_sub hl [0, 3, 4, 5] rfl) h
        · have h := ite_f h c69
          refine lv_iconst (v := 1) hx hb dL_orders_276 (by decide) ?_
          refine lv_goto (tgt := 281) hx hb dL_orders_277 (by decide) ?_
          exact t_L_orders_281 C _ _ _ _ _ u67 _ _ _ P (lv_sub hl [0, 3, 4, 5] rfl) h
  · have h := ite_f h c43
    refine lv_iconst (v := 0) hx hb dL_orders_245 (by decide) ?_
    exact r_iretb C P (Or.inl rfl) h dL_orders_246
def w_L_orders_219  (Φ : Int32 → Mm → Prop) (x2 : Int32) (x4 : Int32) (x5 : Int32) (x6 : Int32) (x8 : Int32) (x10 : Int32) (z0 : Int32) (z1 : Int32) (z2 : Int32) (u0 : Mm) : Prop := (if z2 = (z1 + z0) then (w_X9_count ((2 : Int32)) u0 (fun r41 u40 => (if x10 = (2 : Int32) then (w_L_orders_241 Φ x2 x4 x5 x6 x8 x10 ((1 : Int32)) x5 r41 u40) else (w_L_orders_241 Φ x2 x4 x5 x6 x8 x10 ((0 : Int32)) x5 r41 u40)))) else (Φ (0 : Int32) u0))
set_option maxHeartbeats 4000000 in
set_option maxRecDepth 100000 in
theorem t_L_orders_219 {p : Program} {l : Launch} {e : Env} {s : State} {m : MethodId} {args : Array Value} {below : List Frame} {meth : Method} {c : Code} {D : va_G} {cA : Nat → ClassId} {o : Nat}  {Φ : Int32 → Mm → Prop} (C : Cx p m meth c s args cL_orders 12 wsL_orders RL (some .boolean) D (tysL cA)) : ∀ (x2 : Int32) (x4 : Int32) (x5 : Int32) (x6 : Int32) (x8 : Int32) (x10 : Int32) (z0 : Int32) (z1 : Int32) (z2 : Int32) (u0 : Mm), ∀ (H : Heap) (locs : List Loc) (ls : Array Slot), Hp 747 o D (EC cA o u0) s H locs → lv_has ls 12 [(0, .ref (o + 0)), (2, .int x2), (4, .int x4), (5, .int x5), (6, .int x6), (8, .int x8), (10, .int x10)] → w_L_orders_219 Φ x2 x4 x5 x6 x8 x10 z0 z1 z2 u0 → W p l e rm_L_orders s m args below meth c H locs 0 0 (MQ below (Qg vI Φ (fun μ => Wd 747 o D (tysL cA) (EC cA o μ)) (aA o 747)) args s 0 0 (aA o 747)) (F0 m 219 ls [.int z0, .int z1, .int z2]) := by
  intro x2 x4 x5 x6 x8 x10 z0 z1 z2 u0 H locs ls P hl h
  have hx := C.1.1
  have hb := C.1.2.1
  unfold w_L_orders_219 at h
  refine lv_iadd hx hb dL_orders_219 ?_
  refine lv_icmp_ne (tgt := 245) hx hb dL_orders_220 (by decide) (fun c39 => ?_) (fun c39 => ?_)
  · have h := ite_f h c39
    refine lv_iconst (v := 0) hx hb dL_orders_245 (by decide) ?_
    exact r_iretb C P (Or.inl rfl) h dL_orders_246
  · have h := ite_t h c39
    refine lv_aload_n hx hb dL_orders_223 rfl (lv_at hl 0 rfl) ?_
    refine lv_iconst (v := 2) hx hb dL_orders_224 (by decide) ?_
    refine r_calli (F := EC cA o) (va_runV (As := [.int (2 : Int32)]) (rest := []) C.1 (c_X9_count l D cA o _ u0 _ h) (cwV 1 C.1.2.2.2.2 gL_orders_X9_count rfl rfl rfl (by decide +kernel) ⟨Nat.le_of_ble_eq_true rfl, Nat.le_of_ble_eq_true rfl⟩) (r_preV C P [.int (2 : Int32)] (ci := 9) rfl (kd_lt kd_at_0 (by decide)) (EK_9 kd_at_0)) rfl rfl hl.1 rfl (lv_room (Nat.le_of_ble_eq_true rfl)) dL_orders_225 ⟨Nat.le_of_ble_eq_true rfl, Nat.le_of_ble_eq_true rfl⟩) P.2 (fun r41 u40 H locs h P => ?_)
    refine lv_iload hx hb dL_orders_228 (lv_at hl 3 rfl) ?_
    refine lv_iload hx hb dL_orders_230 (lv_at hl 6 rfl) ?_
    refine lv_iconst (v := 2) hx hb dL_orders_232 (by decide) ?_
    refine lv_icmp_ne (tgt := 240) hx hb dL_orders_233 (by decide) (fun c42 => ?_) (fun c42 => ?_)
    · have h := ite_f h c42
      refine lv_iconst (v := 0) hx hb dL_orders_240 (by decide) ?_
      exact t_L_orders_241 C _ _ _ _ _ _ _ _ _ u40 _ _ _ P (lv_sub hl [0, 1, 2, 3, 4, 5, 6] rfl) h
    · have h := ite_t h c42
      refine lv_iconst (v := 1) hx hb dL_orders_236 (by decide) ?_
      refine lv_goto (tgt := 241) hx hb dL_orders_237 (by decide) ?_
      exact t_L_orders_241 C _ _ _ _ _ _ _ _ _ u40 _ _ _ P (lv_sub hl [0, 1, 2, 3, 4, 5, 6] rfl) h
def w_L_orders_185  (Φ : Int32 → Mm → Prop) (x2 : Int32) (x3 : Int32) (x4 : Int32) (x5 : Int32) (x6 : Int32) (x7 : Int32) (x8 : Int32) (z0 : Int32) (u0 : Mm) : Prop := (if x7 = 0 then (Φ (0 : Int32) u0) else (w_X9_run u0 (fun r34 u33 => (if r34 = z0 then (w_X9_count ((0 : Int32)) u33 (fun r37 u36 => (if z0 = (2 : Int32) then (w_L_orders_219 Φ x2 x4 x5 x6 x8 z0 x3 x6 r37 u36) else (w_L_orders_219 Φ x2 x4 x5 x6 x8 z0 ((0 : Int32)) x6 r37 u36)))) else (Φ (0 : Int32) u33)))))
set_option maxHeartbeats 4000000 in
set_option maxRecDepth 100000 in
theorem t_L_orders_185 {p : Program} {l : Launch} {e : Env} {s : State} {m : MethodId} {args : Array Value} {below : List Frame} {meth : Method} {c : Code} {D : va_G} {cA : Nat → ClassId} {o : Nat}  {Φ : Int32 → Mm → Prop} (C : Cx p m meth c s args cL_orders 12 wsL_orders RL (some .boolean) D (tysL cA)) : ∀ (x2 : Int32) (x3 : Int32) (x4 : Int32) (x5 : Int32) (x6 : Int32) (x7 : Int32) (x8 : Int32) (z0 : Int32) (u0 : Mm), ∀ (H : Heap) (locs : List Loc) (ls : Array Slot), Hp 747 o D (EC cA o u0) s H locs → lv_has ls 12 [(0, .ref (o + 0)), (2, .int x2), (3, .int x3), (4, .int x4), (5, .int x5), (6, .int x6), (7, .int x7), (8, .int x8)] → w_L_orders_185 Φ x2 x3 x4 x5 x6 x7 x8 z0 u0 → W p l e rm_L_orders s m args below meth c H locs 0 0 (MQ below (Qg vI Φ (fun μ => Wd 747 o D (tysL cA) (EC cA o μ)) (aA o 747)) args s 0 0 (aA o 747)) (F0 m 185 ls [.int z0]) := by
  intro x2 x3 x4 x5 x6 x7 x8 z0 u0 H locs ls P hl h
  have hx := C.1.1
  have hb := C.1.2.1
  unfold w_L_orders_185 at h
  refine lv_istore (lv' := [(10, .int z0), (0, .ref (o + 0)), (2, .int x2), (3, .int x3), (4, .int x4), (5, .int x5), (6, .int x6), (7, .int x7), (8, .int x8)]) hx hb dL_orders_185 hl (by decide) rfl (fun ls hl => ?_)
  refine lv_iload hx hb dL_orders_187 (lv_at hl 7 rfl) ?_
  refine lv_if_eq (tgt := 245) hx hb dL_orders_189 (by decide) (fun c32 => ?_) (fun c32 => ?_)
  · have h := ite_t h c32
    refine lv_iconst (v := 0) hx hb dL_orders_245 (by decide) ?_
    exact r_iretb C P (Or.inl rfl) h dL_orders_246
  · have h := ite_f h c32
    refine lv_aload_n hx hb dL_orders_192 rfl (lv_at hl 1 rfl) ?_
    refine r_calli (F := EC cA o) (va_runV (As := []) (rest := []) C.1 (c_X9_run l D cA o u0 _ h) (cwV 0 C.1.2.2.2.2 gL_orders_X9_run rfl rfl rfl (by decide +kernel) ⟨Nat.le_of_ble_eq_true rfl, Nat.le_of_ble_eq_true rfl⟩) (r_preV C P [] (ci := 9) rfl (kd_lt kd_at_0 (by decide)) (EK_9 kd_at_0)) rfl rfl hl.1 rfl (lv_room (Nat.le_of_ble_eq_true rfl)) dL_orders_193 ⟨Nat.le_of_ble_eq_true rfl, Nat.le_of_ble_eq_true rfl⟩) P.2 (fun r34 u33 H locs h P => ?_)
    refine lv_iload hx hb dL_orders_196 (lv_at hl 0 rfl) ?_
    refine lv_icmp_ne (tgt := 245) hx hb dL_orders_198 (by decide) (fun c35 => ?_) (fun c35 => ?_)
    · have h := ite_f h c35
      refine lv_iconst (v := 0) hx hb dL_orders_245 (by decide) ?_
      exact r_iretb C P (Or.inl rfl) h dL_orders_246
    · have h := ite_t h c35
      refine lv_aload_n hx hb dL_orders_201 rfl (lv_at hl 1 rfl) ?_
      refine lv_iconst (v := 0) hx hb dL_orders_202 (by decide) ?_
      refine r_calli (F := EC cA o) (va_runV (As := [.int (0 : Int32)]) (rest := []) C.1 (c_X9_count l D cA o _ u33 _ h) (cwV 1 C.1.2.2.2.2 gL_orders_X9_count rfl rfl rfl (by decide +kernel) ⟨Nat.le_of_ble_eq_true rfl, Nat.le_of_ble_eq_true rfl⟩) (r_preV C P [.int (0 : Int32)] (ci := 9) rfl (kd_lt kd_at_0 (by decide)) (EK_9 kd_at_0)) rfl rfl hl.1 rfl (lv_room (Nat.le_of_ble_eq_true rfl)) dL_orders_203 ⟨Nat.le_of_ble_eq_true rfl, Nat.le_of_ble_eq_true rfl⟩) P.2 (fun r37 u36 H locs h P => ?_)
      refine lv_iload hx hb dL_orders_206 (lv_at hl 6 rfl) ?_
      refine lv_iload hx hb dL_orders_208 (lv_at hl 0 rfl) ?_
      refine lv_iconst (v := 2) hx hb dL_orders_210 (by decide) ?_
      refine lv_icmp_ne (tgt := 218) hx hb dL_orders_211 (by decide) (fun c38 => ?_) (fun c38 => ?_)
      · have h := ite_f h c38
        refine lv_iconst (v := 0) hx hb dL_orders_218 (by decide) ?_
        exact t_L_orders_219 C _ _ _ _ _ _ _ _ _ u36 _ _ _ P (lv_sub hl [1, 2, 4, 5, 6, 8, 0] rfl) h
      · have h := ite_t h c38
        refine lv_iload_n hx hb dL_orders_214 rfl (lv_at hl 3 rfl) ?_
        refine lv_goto (tgt := 219) hx hb dL_orders_215 (by decide) ?_
        exact t_L_orders_219 C _ _ _ _ _ _ _ _ _ u36 _ _ _ P (lv_sub hl [1, 2, 4, 5, 6, 8, 0] rfl) h
def w_L_orders_180  (Φ : Int32 → Mm → Prop) (x2 : Int32) (x3 : Int32) (x4 : Int32) (x5 : Int32) (x6 : Int32) (x7 : Int32) (x8 : Int32) (u0 : Mm) : Prop := (w_L_orders_185 Φ x2 x3 x4 x5 x6 x7 x8 ((0 : Int32)) u0)
set_option maxHeartbeats 4000000 in
set_option maxRecDepth 100000 in
theorem t_L_orders_180 {p : Program} {l : Launch} {e : Env} {s : State} {m : MethodId} {args : Array Value} {below : List Frame} {meth : Method} {c : Code} {D : va_G} {cA : Nat → ClassId} {o : Nat}  {Φ : Int32 → Mm → Prop} (C : Cx p m meth c s args cL_orders 12 wsL_orders RL (some .boolean) D (tysL cA)) : ∀ (x2 : Int32) (x3 : Int32) (x4 : Int32) (x5 : Int32) (x6 : Int32) (x7 : Int32) (x8 : Int32) (u0 : Mm), ∀ (H : Heap) (locs : List Loc) (ls : Array Slot), Hp 747 o D (EC cA o u0) s H locs → lv_has ls 12 [(0, .ref (o + 0)), (2, .int x2), (3, .int x3), (4, .int x4), (5, .int x5), (6, .int x6), (7, .int x7), (8, .int x8)] → w_L_orders_180 Φ x2 x3 x4 x5 x6 x7 x8 u0 → W p l e rm_L_orders s m args below meth c H locs 0 0 (MQ below (Qg vI Φ (fun μ => Wd 747 o D (tysL cA) (EC cA o μ)) (aA o 747)) args s 0 0 (aA o 747)) (F0 m 180 ls []) := by
  intro x2 x3 x4 x5 x6 x7 x8 u0 H locs ls P hl h
  have hx := C.1.1
  have hb := C.1.2.1
  unfold w_L_orders_180 at h
  refine lv_iconst (v := 0) hx hb dL_orders_180 (by decide) ?_
  refine lv_goto (tgt := 185) hx hb dL_orders_181 (by decide) ?_
  exact t_L_orders_185 C _ _ _ _ _ _ _ _ u0 _ _ _ P (lv_sub hl [0, 1, 2, 3, 4, 5, 6, 7] rfl) h
def w_L_orders_166  (Φ : Int32 → Mm → Prop) (x2 : Int32) (x3 : Int32) (x4 : Int32) (x5 : Int32) (x6 : Int32) (x7 : Int32) (x8 : Int32) (z0 : Int32) (u0 : Mm) : Prop := (if z0 = 0 then (w_L_orders_180 Φ x2 x3 x4 x5 x6 x7 x8 u0) else (if x5 = (40 : Int32) then (w_L_orders_180 Φ x2 x3 x4 x5 x6 x7 x8 u0) else (w_L_orders_185 Φ x2 x3 x4 x5 x6 x7 x8 ((2 : Int32)) u0)))
set_option maxHeartbeats 4000000 in
set_option maxRecDepth 100000 in
theorem t_L_orders_166 {p : Program} {l : Launch} {e : Env} {s : State} {m : MethodId} {args : Array Value} {below : List Frame} {meth : Method} {c : Code} {D : va_G} {cA : Nat → ClassId} {o : Nat}  {Φ : Int32 → Mm → Prop} (C : Cx p m meth c s args cL_orders 12 wsL_orders RL (some .boolean) D (tysL cA)) : ∀ (x2 : Int32) (x3 : Int32) (x4 : Int32) (x5 : Int32) (x6 : Int32) (x7 : Int32) (x8 : Int32) (z0 : Int32) (u0 : Mm), ∀ (H : Heap) (locs : List Loc) (ls : Array Slot), Hp 747 o D (EC cA o u0) s H locs → lv_has ls 12 [(0, .ref (o + 0)), (2, .int x2), (3, .int x3), (4, .int x4), (5, .int x5), (6, .int x6), (7, .int x7), (8, .int x8)] → w_L_orders_166 Φ x2 x3 x4 x5 x6 x7 x8 z0 u0 → W p l e rm_L_orders s m args below meth c H locs 0 0 (MQ below (Qg vI Φ (fun μ => Wd 747 o D (tysL cA) (EC cA o μ)) (aA o 747)) args s 0 0 (aA o 747)) (F0 m 166 ls [.int z0]) := by
  intro x2 x3 x4 x5 x6 x7 x8 z0 u0 H locs ls P hl h
  have hx := C.1.1
  have hb := C.1.2.1
  unfold w_L_orders_166 at h
  refine lv_istore (lv' := [(9, .int z0), (0, .ref (o + 0)), (2, .int x2), (3, .int x3), (4, .int x4), (5, .int x5), (6, .int x6), (7, .int x7), (8, .int x8)]) hx hb dL_orders_166 hl (by decide) rfl (fun ls hl => ?_)
  refine lv_iload hx hb dL_orders_168 (lv_at hl 0 rfl) ?_
  refine lv_if_eq (tgt := 180) hx hb dL_orders_170 (by decide) (fun c31 => ?_) (fun c31 => ?_)
  · have h := ite_t h c31
    exact t_L_orders_180 C _ _ _ _ _ _ _ u0 _ _ _ P (lv_sub hl [1, 2, 3, 4, 5, 6, 7, 8] rfl) h
  · have h := ite_f h c31
    refine lv_iload hx hb dL_orders_173 (lv_at hl 5 rfl) ?_
    refine lv_bipush (v := 40) hx hb dL_orders_175 (by decide) ?_
    refine lv_icmp_ne (tgt := 184) hx hb dL_orders_177 (by decide) (fun c71 => ?_) (fun c71 => ?_)
    · have h := ite_f h c71
      refine lv_iconst (v := 2) hx hb dL_orders_184 (by decide) ?_
      exact t_L_orders_185 C _ _ _ _ _ _ _ _ u0 _ _ _ P (lv_sub hl [1, 2, 3, 4, 5, 6, 7, 8] rfl) h
    · have h := ite_t h c71
      exact t_L_orders_180 C _ _ _ _ _ _ _ u0 _ _ _ P (lv_sub hl [1, 2, 3, 4, 5, 6, 7, 8] rfl) h
def w_L_orders_143  (Φ : Int32 → Mm → Prop) (x2 : Int32) (x3 : Int32) (x4 : Int32) (x5 : Int32) (x6 : Int32) (z0 : Int32) (u0 : Mm) : Prop := (w_L_digits x3 u0 (fun r27 u26 => (w_X9_passOf x2 ((0 : Int32)) u26 (fun r29 u28 => (if r29 < 0 then (w_L_orders_166 Φ x2 x3 x4 x5 x6 z0 r27 ((0 : Int32)) u28) else (w_L_orders_166 Φ x2 x3 x4 x5 x6 z0 r27 ((1 : Int32)) u28))))))
set_option maxHeartbeats 4000000 in
set_option maxRecDepth 100000 in
theorem t_L_orders_143 {p : Program} {l : Launch} {e : Env} {s : State} {m : MethodId} {args : Array Value} {below : List Frame} {meth : Method} {c : Code} {D : va_G} {cA : Nat → ClassId} {o : Nat}  {Φ : Int32 → Mm → Prop} (C : Cx p m meth c s args cL_orders 12 wsL_orders RL (some .boolean) D (tysL cA)) : ∀ (x2 : Int32) (x3 : Int32) (x4 : Int32) (x5 : Int32) (x6 : Int32) (z0 : Int32) (u0 : Mm), ∀ (H : Heap) (locs : List Loc) (ls : Array Slot), Hp 747 o D (EC cA o u0) s H locs → lv_has ls 12 [(0, .ref (o + 0)), (2, .int x2), (3, .int x3), (4, .int x4), (5, .int x5), (6, .int x6)] → w_L_orders_143 Φ x2 x3 x4 x5 x6 z0 u0 → W p l e rm_L_orders s m args below meth c H locs 0 0 (MQ below (Qg vI Φ (fun μ => Wd 747 o D (tysL cA) (EC cA o μ)) (aA o 747)) args s 0 0 (aA o 747)) (F0 m 143 ls [.int z0]) := by
  intro x2 x3 x4 x5 x6 z0 u0 H locs ls P hl h
  have hx := C.1.1
  have hb := C.1.2.1
  unfold w_L_orders_143 at h
  refine lv_istore (lv' := [(7, .int z0), (0, .ref (o + 0)), (2, .int x2), (3, .int x3), (4, .int x4), (5, .int x5), (6, .int x6)]) hx hb dL_orders_143 hl (by decide) rfl (fun ls hl => ?_)
  refine lv_aload_n hx hb dL_orders_145 rfl (lv_at hl 1 rfl) ?_
  refine lv_iload_n hx hb dL_orders_146 rfl (lv_at hl 3 rfl) ?_
  refine r_calli (F := EC cA o) (va_runS (As := [.ref (o + 0), .int x3]) (rest := []) C.1 (c_L_digits l D cA o _ u0 _ h) (va_cwS 2 C.1.2.2.2.2 gL_orders_L_digits rfl rfl rfl (by decide +kernel) ⟨Nat.le_of_ble_eq_true rfl, Nat.le_of_ble_eq_true rfl⟩) (r_pre C P [.ref (o + 0), .int x3]) rfl rfl hl.1 rfl (lv_room (Nat.le_of_ble_eq_true rfl)) dL_orders_147 ⟨Nat.le_of_ble_eq_true rfl, Nat.le_of_ble_eq_true rfl⟩) P.2 (fun r27 u26 H locs h P => ?_)
  refine lv_istore (lv' := [(8, .int r27), (7, .int z0), (0, .ref (o + 0)), (2, .int x2), (3, .int x3), (4, .int x4), (5, .int x5), (6, .int x6)]) hx hb dL_orders_150 hl (by decide) rfl (fun ls hl => ?_)
  refine lv_aload_n hx hb dL_orders_152 rfl (lv_at hl 2 rfl) ?_
  refine lv_iload_n hx hb dL_orders_153 rfl (lv_at hl 3 rfl) ?_
  refine lv_iconst (v := 0) hx hb dL_orders_154 (by decide) ?_
  refine r_calli (F := EC cA o) (va_runV (As := [.int x2, .int (0 : Int32)]) (rest := []) C.1 (c_X9_passOf l D cA o _ _ u26 _ h) (cwV 2 C.1.2.2.2.2 gL_orders_X9_passOf rfl rfl rfl (by decide +kernel) ⟨Nat.le_of_ble_eq_true rfl, Nat.le_of_ble_eq_true rfl⟩) (r_preV C P [.int x2, .int (0 : Int32)] (ci := 9) rfl (kd_lt kd_at_0 (by decide)) (EK_9 kd_at_0)) rfl rfl hl.1 rfl (lv_room (Nat.le_of_ble_eq_true rfl)) dL_orders_155 ⟨Nat.le_of_ble_eq_true rfl, Nat.le_of_ble_eq_true rfl⟩) P.2 (fun r29 u28 H locs h P => ?_)
  refine lv_if_lt (tgt := 165) hx hb dL_orders_158 (by decide) (fun c30 => ?_) (fun c30 => ?_)
  · have h := ite_t h c30
    refine lv_iconst (v := 0) hx hb dL_orders_165 (by decide) ?_
    exact t_L_orders_166 C _ _ _ _ _ _ _ _ u28 _ _ _ P (lv_sub hl [2, 3, 4, 5, 6, 7, 1, 0] rfl) h
  · have h := ite_f h c30
    refine lv_iconst (v := 1) hx hb dL_orders_161 (by decide) ?_
    refine lv_goto (tgt := 166) hx hb dL_orders_162 (by decide) ?_
    exact t_L_orders_166 C _ _ _ _ _ _ _ _ u28 _ _ _ P (lv_sub hl [2, 3, 4, 5, 6, 7, 1, 0] rfl) h
def w_L_orders_142  (Φ : Int32 → Mm → Prop) (x2 : Int32) (x3 : Int32) (x4 : Int32) (x5 : Int32) (x6 : Int32) (u0 : Mm) : Prop := (w_L_orders_143 Φ x2 x3 x4 x5 x6 ((0 : Int32)) u0)
set_option maxHeartbeats 4000000 in
set_option maxRecDepth 100000 in
theorem t_L_orders_142 {p : Program} {l : Launch} {e : Env} {s : State} {m : MethodId} {args : Array Value} {below : List Frame} {meth : Method} {c : Code} {D : va_G} {cA : Nat → ClassId} {o : Nat}  {Φ : Int32 → Mm → Prop} (C : Cx p m meth c s args cL_orders 12 wsL_orders RL (some .boolean) D (tysL cA)) : ∀ (x2 : Int32) (x3 : Int32) (x4 : Int32) (x5 : Int32) (x6 : Int32) (u0 : Mm), ∀ (H : Heap) (locs : List Loc) (ls : Array Slot), Hp 747 o D (EC cA o u0) s H locs → lv_has ls 12 [(0, .ref (o + 0)), (2, .int x2), (3, .int x3), (4, .int x4), (5, .int x5), (6, .int x6)] → w_L_orders_142 Φ x2 x3 x4 x5 x6 u0 → W p l e rm_L_orders s m args below meth c H locs 0 0 (MQ below (Qg vI Φ (fun μ => Wd 747 o D (tysL cA) (EC cA o μ)) (aA o 747)) args s 0 0 (aA o 747)) (F0 m 142 ls []) := by
  intro x2 x3 x4 x5 x6 u0 H locs ls P hl h
  have hx := C.1.1
  have hb := C.1.2.1
  unfold w_L_orders_142 at h
  refine lv_iconst (v := 0) hx hb dL_orders_142 (by decide) ?_
  exact t_L_orders_143 C _ _ _ _ _ _ u0 _ _ _ P (lv_sub hl [0, 1, 2, 3, 4, 5] rfl) h
def w_L_orders_113  (Φ : Int32 → Mm → Prop) (x2 : Int32) (x3 : Int32) (x4 : Int32) (x5 : Int32) (x6 : Int32) (x7 : Int32) (u0 : Mm) : Prop := (w_X9_type ((116 : Int32)) u0 (fun r24 u23 => (if x7 = 0 then (w_L_orders_142 Φ x2 x3 x4 x5 x6 u23) else (w_X9_run u23 (fun r73 u72 => (if r73 = ((-100 : Int32) - r24) then (w_L_orders_143 Φ x2 x3 x4 x5 x6 ((1 : Int32)) u72) else (w_L_orders_142 Φ x2 x3 x4 x5 x6 u72)))))))
set_option maxHeartbeats 4000000 in
set_option maxRecDepth 100000 in
theorem t_L_orders_113 {p : Program} {l : Launch} {e : Env} {s : State} {m : MethodId} {args : Array Value} {below : List Frame} {meth : Method} {c : Code} {D : va_G} {cA : Nat → ClassId} {o : Nat}  {Φ : Int32 → Mm → Prop} (C : Cx p m meth c s args cL_orders 12 wsL_orders RL (some .boolean) D (tysL cA)) : ∀ (x2 : Int32) (x3 : Int32) (x4 : Int32) (x5 : Int32) (x6 : Int32) (x7 : Int32) (u0 : Mm), ∀ (H : Heap) (locs : List Loc) (ls : Array Slot), Hp 747 o D (EC cA o u0) s H locs → lv_has ls 12 [(0, .ref (o + 0)), (2, .int x2), (3, .int x3), (4, .int x4), (5, .int x5), (6, .int x6), (7, .int x7)] → w_L_orders_113 Φ x2 x3 x4 x5 x6 x7 u0 → W p l e rm_L_orders s m args below meth c H locs 0 0 (MQ below (Qg vI Φ (fun μ => Wd 747 o D (tysL cA) (EC cA o μ)) (aA o 747)) args s 0 0 (aA o 747)) (F0 m 113 ls []) := by
  intro x2 x3 x4 x5 x6 x7 u0 H locs ls P hl h
  have hx := C.1.1
  have hb := C.1.2.1
  unfold w_L_orders_113 at h
  refine lv_aload_n hx hb dL_orders_113 rfl (lv_at hl 0 rfl) ?_
  refine lv_bipush (v := 116) hx hb dL_orders_114 (by decide) ?_
  refine r_calli (F := EC cA o) (va_runV (As := [.int (116 : Int32)]) (rest := []) C.1 (c_X9_type l D cA o _ u0 _ h) (cwV 1 C.1.2.2.2.2 gL_orders_X9_type rfl rfl rfl (by decide +kernel) ⟨Nat.le_of_ble_eq_true rfl, Nat.le_of_ble_eq_true rfl⟩) (r_preV C P [.int (116 : Int32)] (ci := 9) rfl (kd_lt kd_at_0 (by decide)) (EK_9 kd_at_0)) rfl rfl hl.1 rfl (lv_room (Nat.le_of_ble_eq_true rfl)) dL_orders_116 ⟨Nat.le_of_ble_eq_true rfl, Nat.le_of_ble_eq_true rfl⟩) P.2 (fun r24 u23 H locs h P => ?_)
  refine lv_istore (lv' := [(8, .int r24), (0, .ref (o + 0)), (2, .int x2), (3, .int x3), (4, .int x4), (5, .int x5), (6, .int x6), (7, .int x7)]) hx hb dL_orders_119 hl (by decide) rfl (fun ls hl => ?_)
  refine lv_iload hx hb dL_orders_121 (lv_at hl 7 rfl) ?_
  refine lv_if_eq (tgt := 142) hx hb dL_orders_123 (by decide) (fun c25 => ?_) (fun c25 => ?_)
  · have h := ite_t h c25
    exact t_L_orders_142 C _ _ _ _ _ u23 _ _ _ P (lv_sub hl [1, 2, 3, 4, 5, 6] rfl) h
  · have h := ite_f h c25
    refine lv_aload_n hx hb dL_orders_126 rfl (lv_at hl 1 rfl) ?_
    refine r_calli (F := EC cA o) (va_runV (As := []) (rest := []) C.1 (c_X9_run l D cA o u23 _ h) (cwV 0 C.1.2.2.2.2 gL_orders_X9_run rfl rfl rfl (by decide +kernel) ⟨Nat.le_of_ble_eq_true rfl, Nat.le_of_ble_eq_true rfl⟩) (r_preV C P [] (ci := 9) rfl (kd_lt kd_at_0 (by decide)) (EK_9 kd_at_0)) rfl rfl hl.1 rfl (lv_room (Nat.le_of_ble_eq_true rfl)) dL_orders_127 ⟨Nat.le_of_ble_eq_true rfl, Nat.le_of_ble_eq_true rfl⟩) P.2 (fun r73 u72 H locs h P => ?_)
    refine lv_bipush (v := -100) hx hb dL_orders_130 (by decide) ?_
    refine lv_iload hx hb dL_orders_132 (lv_at hl 0 rfl) ?_
    refine lv_isub hx hb dL_orders_134 ?_
    refine lv_icmp_ne (tgt := 142) hx hb dL_orders_135 (by decide) (fun c74 => ?_) (fun c74 => ?_)
    · have h := ite_f h c74
      exact t_L_orders_142 C _ _ _ _ _ u72 _ _ _ P (lv_sub hl [1, 2, 3, 4, 5, 6] rfl) h
    · have h := ite_t h c74
      refine lv_iconst (v := 1) hx hb dL_orders_138 (by decide) ?_
      refine lv_goto (tgt := 143) hx hb dL_orders_139 (by decide) ?_
      exact t_L_orders_143 C _ _ _ _ _ _ u72 _ _ _ P (lv_sub hl [1, 2, 3, 4, 5, 6] rfl) h
def w_L_orders_93  (Φ : Int32 → Mm → Prop) (x2 : Int32) (x3 : Int32) (x4 : Int32) (x5 : Int32) (x6 : Int32) (z0 : Int32) (u0 : Mm) : Prop := (w_L_digits x2 u0 (fun r21 u20 => (if x4 = 0 then (w_L_orders_113 Φ x2 x3 x4 x5 x6 z0 u20) else (w_X9_type ((115 : Int32)) u20 (fun r76 u75 => (w_L_orders_113 Φ x2 x3 x4 x5 x6 z0 u75))))))
set_option maxHeartbeats 4000000 in
set_option maxRecDepth 100000 in
theorem t_L_orders_93 {p : Program} {l : Launch} {e : Env} {s : State} {m : MethodId} {args : Array Value} {below : List Frame} {meth : Method} {c : Code} {D : va_G} {cA : Nat → ClassId} {o : Nat}  {Φ : Int32 → Mm → Prop} (C : Cx p m meth c s args cL_orders 12 wsL_orders RL (some .boolean) D (tysL cA)) : ∀ (x2 : Int32) (x3 : Int32) (x4 : Int32) (x5 : Int32) (x6 : Int32) (z0 : Int32) (u0 : Mm), ∀ (H : Heap) (locs : List Loc) (ls : Array Slot), Hp 747 o D (EC cA o u0) s H locs → lv_has ls 12 [(0, .ref (o + 0)), (2, .int x2), (3, .int x3), (4, .int x4), (5, .int x5), (6, .int x6)] → w_L_orders_93 Φ x2 x3 x4 x5 x6 z0 u0 → W p l e rm_L_orders s m args below meth c H locs 0 0 (MQ below (Qg vI Φ (fun μ => Wd 747 o D (tysL cA) (EC cA o μ)) (aA o 747)) args s 0 0 (aA o 747)) (F0 m 93 ls [.int z0]) := by
  intro x2 x3 x4 x5 x6 z0 u0 H locs ls P hl h
  have hx := C.1.1
  have hb := C.1.2.1
  unfold w_L_orders_93 at h
  refine lv_istore (lv' := [(7, .int z0), (0, .ref (o + 0)), (2, .int x2), (3, .int x3), (4, .int x4), (5, .int x5), (6, .int x6)]) hx hb dL_orders_93 hl (by decide) rfl (fun ls hl => ?_)
  refine lv_aload_n hx hb dL_orders_95 rfl (lv_at hl 1 rfl) ?_
  refine lv_iload_n hx hb dL_orders_96 rfl (lv_at hl 2 rfl) ?_
  refine r_calli (F := EC cA o) (va_runS (As := [.ref (o + 0), .int x2]) (rest := []) C.1 (c_L_digits l D cA o _ u0 _ h) (va_cwS 2 C.1.2.2.2.2 gL_orders_L_digits rfl rfl rfl (by decide +kernel) ⟨Nat.le_of_ble_eq_true rfl, Nat.le_of_ble_eq_true rfl⟩) (r_pre C P [.ref (o + 0), .int x2]) rfl rfl hl.1 rfl (lv_room (Nat.le_of_ble_eq_true rfl)) dL_orders_97 ⟨Nat.le_of_ble_eq_true rfl, Nat.le_of_ble_eq_true rfl⟩) P.2 (fun r21 u20 H locs h P => ?_)
  refine lv_pop hx hb dL_orders_100 rfl ?_
  refine lv_iload hx hb dL_orders_101 (lv_at hl 4 rfl) ?_
  refine lv_if_eq (tgt := 113) hx hb dL_orders_103 (by decide) (fun c22 => ?_) (fun c22 => ?_)
  · have h := ite_t h c22
    exact t_L_orders_113 C _ _ _ _ _ _ u20 _ _ _ P (lv_sub hl [1, 2, 3, 4, 5, 6, 0] rfl) h
  · have h := ite_f h c22
    refine lv_aload_n hx hb dL_orders_106 rfl (lv_at hl 1 rfl) ?_
    refine lv_bipush (v := 115) hx hb dL_orders_107 (by decide) ?_
    refine r_calli (F := EC cA o) (va_runV (As := [.int (115 : Int32)]) (rest := []) C.1 (c_X9_type l D cA o _ u20 _ h) (cwV 1 C.1.2.2.2.2 gL_orders_X9_type rfl rfl rfl (by decide +kernel) ⟨Nat.le_of_ble_eq_true rfl, Nat.le_of_ble_eq_true rfl⟩) (r_preV C P [.int (115 : Int32)] (ci := 9) rfl (kd_lt kd_at_0 (by decide)) (EK_9 kd_at_0)) rfl rfl hl.1 rfl (lv_room (Nat.le_of_ble_eq_true rfl)) dL_orders_109 ⟨Nat.le_of_ble_eq_true rfl, Nat.le_of_ble_eq_true rfl⟩) P.2 (fun r76 u75 H locs h P => ?_)
    refine lv_pop hx hb dL_orders_112 rfl ?_
    exact t_L_orders_113 C _ _ _ _ _ _ u75 _ _ _ P (lv_sub hl [1, 2, 3, 4, 5, 6, 0] rfl) h
def w_L_orders_92  (Φ : Int32 → Mm → Prop) (x2 : Int32) (x3 : Int32) (x4 : Int32) (x5 : Int32) (x6 : Int32) (u0 : Mm) : Prop := (w_L_orders_93 Φ x2 x3 x4 x5 x6 ((0 : Int32)) u0)
set_option maxHeartbeats 4000000 in
set_option maxRecDepth 100000 in
theorem t_L_orders_92 {p : Program} {l : Launch} {e : Env} {s : State} {m : MethodId} {args : Array Value} {below : List Frame} {meth : Method} {c : Code} {D : va_G} {cA : Nat → ClassId} {o : Nat}  {Φ : Int32 → Mm → Prop} (C : Cx p m meth c s args cL_orders 12 wsL_orders RL (some .boolean) D (tysL cA)) : ∀ (x2 : Int32) (x3 : Int32) (x4 : Int32) (x5 : Int32) (x6 : Int32) (u0 : Mm), ∀ (H : Heap) (locs : List Loc) (ls : Array Slot), Hp 747 o D (EC cA o u0) s H locs → lv_has ls 12 [(0, .ref (o + 0)), (2, .int x2), (3, .int x3), (4, .int x4), (5, .int x5), (6, .int x6)] → w_L_orders_92 Φ x2 x3 x4 x5 x6 u0 → W p l e rm_L_orders s m args below meth c H locs 0 0 (MQ below (Qg vI Φ (fun μ => Wd 747 o D (tysL cA) (EC cA o μ)) (aA o 747)) args s 0 0 (aA o 747)) (F0 m 92 ls []) := by
  intro x2 x3 x4 x5 x6 u0 H locs ls P hl h
  have hx := C.1.1
  have hb := C.1.2.1
  unfold w_L_orders_92 at h
  refine lv_iconst (v := 0) hx hb dL_orders_92 (by decide) ?_
  exact t_L_orders_93 C _ _ _ _ _ _ u0 _ _ _ P (lv_sub hl [0, 1, 2, 3, 4, 5] rfl) h
def w_L_orders_51  (Φ : Int32 → Mm → Prop) (x1 : Int32) (x2 : Int32) (x3 : Int32) (x4 : Int32) (x5 : Int32) (x6 : Int32) (z0 : Int32) (u0 : Mm) : Prop := (w_X9_type ((((48 : Int32) + x1).toUInt32 % 65536).toInt32) u0 (fun r16 u15 => (w_X9_type ((112 : Int32)) u15 (fun r18 u17 => (if z0 = 0 then (w_L_orders_92 Φ x2 x3 x4 x5 x6 u17) else (w_X9_run u17 (fun r78 u77 => (if r78 = ((-100 : Int32) - r18) then (w_L_orders_93 Φ x2 x3 x4 x5 x6 ((1 : Int32)) u77) else (w_L_orders_92 Φ x2 x3 x4 x5 x6 u77)))))))))
set_option maxHeartbeats 4000000 in
set_option maxRecDepth 100000 in
theorem t_L_orders_51 {p : Program} {l : Launch} {e : Env} {s : State} {m : MethodId} {args : Array Value} {below : List Frame} {meth : Method} {c : Code} {D : va_G} {cA : Nat → ClassId} {o : Nat}  {Φ : Int32 → Mm → Prop} (C : Cx p m meth c s args cL_orders 12 wsL_orders RL (some .boolean) D (tysL cA)) : ∀ (x1 : Int32) (x2 : Int32) (x3 : Int32) (x4 : Int32) (x5 : Int32) (x6 : Int32) (z0 : Int32) (u0 : Mm), ∀ (H : Heap) (locs : List Loc) (ls : Array Slot), Hp 747 o D (EC cA o u0) s H locs → lv_has ls 12 [(0, .ref (o + 0)), (1, .int x1), (2, .int x2), (3, .int x3), (4, .int x4), (5, .int x5), (6, .int x6)] → w_L_orders_51 Φ x1 x2 x3 x4 x5 x6 z0 u0 → W p l e rm_L_orders s m args below meth c H locs 0 0 (MQ below (Qg vI Φ (fun μ => Wd 747 o D (tysL cA) (EC cA o μ)) (aA o 747)) args s 0 0 (aA o 747)) (F0 m 51 ls [.int z0]) := by
  intro x1 x2 x3 x4 x5 x6 z0 u0 H locs ls P hl h
  have hx := C.1.1
  have hb := C.1.2.1
  unfold w_L_orders_51 at h
  refine lv_istore (lv' := [(7, .int z0), (0, .ref (o + 0)), (1, .int x1), (2, .int x2), (3, .int x3), (4, .int x4), (5, .int x5), (6, .int x6)]) hx hb dL_orders_51 hl (by decide) rfl (fun ls hl => ?_)
  refine lv_aload_n hx hb dL_orders_53 rfl (lv_at hl 1 rfl) ?_
  refine lv_bipush (v := 48) hx hb dL_orders_54 (by decide) ?_
  refine lv_iload_n hx hb dL_orders_56 rfl (lv_at hl 2 rfl) ?_
  refine lv_iadd hx hb dL_orders_57 ?_
  refine lv_i2c hx hb dL_orders_58 rfl ?_
  refine r_calli (F := EC cA o) (va_runV (As := [.int (((48 : Int32) + x1).toUInt32 % 65536).toInt32]) (rest := []) C.1 (c_X9_type l D cA o _ u0 _ h) (cwV 1 C.1.2.2.2.2 gL_orders_X9_type rfl rfl rfl (by decide +kernel) ⟨Nat.le_of_ble_eq_true rfl, Nat.le_of_ble_eq_true rfl⟩) (r_preV C P [.int (((48 : Int32) + x1).toUInt32 % 65536).toInt32] (ci := 9) rfl (kd_lt kd_at_0 (by decide)) (EK_9 kd_at_0)) rfl rfl hl.1 rfl (lv_room (Nat.le_of_ble_eq_true rfl)) dL_orders_59 ⟨Nat.le_of_ble_eq_true rfl, Nat.le_of_ble_eq_true rfl⟩) P.2 (fun r16 u15 H locs h P => ?_)
  refine lv_pop hx hb dL_orders_62 rfl ?_
  refine lv_aload_n hx hb dL_orders_63 rfl (lv_at hl 1 rfl) ?_
  refine lv_bipush (v := 112) hx hb dL_orders_64 (by decide) ?_
  refine r_calli (F := EC cA o) (va_runV (As := [.int (112 : Int32)]) (rest := []) C.1 (c_X9_type l D cA o _ u15 _ h) (cwV 1 C.1.2.2.2.2 gL_orders_X9_type rfl rfl rfl (by decide +kernel) ⟨Nat.le_of_ble_eq_true rfl, Nat.le_of_ble_eq_true rfl⟩) (r_preV C P [.int (112 : Int32)] (ci := 9) rfl (kd_lt kd_at_0 (by decide)) (EK_9 kd_at_0)) rfl rfl hl.1 rfl (lv_room (Nat.le_of_ble_eq_true rfl)) dL_orders_66 ⟨Nat.le_of_ble_eq_true rfl, Nat.le_of_ble_eq_true rfl⟩) P.2 (fun r18 u17 H locs h P => ?_)
  refine lv_istore (lv' := [(8, .int r18), (7, .int z0), (0, .ref (o + 0)), (1, .int x1), (2, .int x2), (3, .int x3), (4, .int x4), (5, .int x5), (6, .int x6)]) hx hb dL_orders_69 hl (by decide) rfl (fun ls hl => ?_)
  refine lv_iload hx hb dL_orders_71 (lv_at hl 1 rfl) ?_
  refine lv_if_eq (tgt := 92) hx hb dL_orders_73 (by decide) (fun c19 => ?_) (fun c19 => ?_)
  · have h := ite_t h c19
    exact t_L_orders_92 C _ _ _ _ _ u17 _ _ _ P (lv_sub hl [2, 4, 5, 6, 7, 8] rfl) h
  · have h := ite_f h c19
    refine lv_aload_n hx hb dL_orders_76 rfl (lv_at hl 2 rfl) ?_
    refine r_calli (F := EC cA o) (va_runV (As := []) (rest := []) C.1 (c_X9_run l D cA o u17 _ h) (cwV 0 C.1.2.2.2.2 gL_orders_X9_run rfl rfl rfl (by decide +kernel) ⟨Nat.le_of_ble_eq_true rfl, Nat.le_of_ble_eq_true rfl⟩) (r_preV C P [] (ci := 9) rfl (kd_lt kd_at_0 (by decide)) (EK_9 kd_at_0)) rfl rfl hl.1 rfl (lv_room (Nat.le_of_ble_eq_true rfl)) dL_orders_77 ⟨Nat.le_of_ble_eq_true rfl, Nat.le_of_ble_eq_true rfl⟩) P.2 (fun r78 u77 H locs h P => ?_)
    refine lv_bipush (v := -100) hx hb dL_orders_80 (by decide) ?_
    refine lv_iload hx hb dL_orders_82 (lv_at hl 0 rfl) ?_
    refine lv_isub hx hb dL_orders_84 ?_
    refine lv_icmp_ne (tgt := 92) hx hb dL_orders_85 (by decide) (fun c79 => ?_) (fun c79 => ?_)
    · have h := ite_f h c79
      exact t_L_orders_92 C _ _ _ _ _ u77 _ _ _ P (lv_sub hl [2, 4, 5, 6, 7, 8] rfl) h
    · have h := ite_t h c79
      refine lv_iconst (v := 1) hx hb dL_orders_88 (by decide) ?_
      refine lv_goto (tgt := 93) hx hb dL_orders_89 (by decide) ?_
      exact t_L_orders_93 C _ _ _ _ _ _ u77 _ _ _ P (lv_sub hl [2, 4, 5, 6, 7, 8] rfl) h
def w_L_orders (a1 : Int32) (a2 : Int32) (a3 : Int32) (a4 : Int32) (u0 : Mm) (Φ : Int32 → Mm → Prop) : Prop := (w_X9_count ((2 : Int32)) u0 (fun r2 u1 => (w_X9_count ((0 : Int32)) u1 (fun r4 u3 => (w_X9_clearText u3 (fun r6 u5 => (w_X9_run u5 (fun r8 u7 => (if r8 = (-100 : Int32) then (w_X9_type ((105 : Int32)) u7 (fun r11 u10 => (w_X9_run u10 (fun r13 u12 => (if r13 = (-101 : Int32) then (w_L_orders_51 Φ a1 a2 a3 a4 r2 r4 ((1 : Int32)) u12) else (w_L_orders_51 Φ a1 a2 a3 a4 r2 r4 ((0 : Int32)) u12)))))) else (Φ (0 : Int32) u7))))))))))
set_option maxHeartbeats 4000000 in
set_option maxRecDepth 100000 in
theorem t_L_orders_0 {p : Program} {l : Launch} {e : Env} {s : State} {m : MethodId} {args : Array Value} {below : List Frame} {meth : Method} {c : Code} {D : va_G} {cA : Nat → ClassId} {o : Nat}  {Φ : Int32 → Mm → Prop} (C : Cx p m meth c s args cL_orders 12 wsL_orders RL (some .boolean) D (tysL cA)) : ∀ (a1 : Int32) (a2 : Int32) (a3 : Int32) (a4 : Int32) (u0 : Mm), ∀ (H : Heap) (locs : List Loc) (ls : Array Slot), Hp 747 o D (EC cA o u0) s H locs → lv_has ls 12 [(0, .ref (o + 0)), (1, .int a1), (2, .int a2), (3, .int a3), (4, .int a4)] → w_L_orders a1 a2 a3 a4 u0 Φ → W p l e rm_L_orders s m args below meth c H locs 0 0 (MQ below (Qg vI Φ (fun μ => Wd 747 o D (tysL cA) (EC cA o μ)) (aA o 747)) args s 0 0 (aA o 747)) (F0 m 0 ls []) := by
  intro a1 a2 a3 a4 u0 H locs ls P hl h
  have hx := C.1.1
  have hb := C.1.2.1
  unfold w_L_orders at h
  refine lv_aload_n hx hb dL_orders_0 rfl (lv_at hl 0 rfl) ?_
  refine lv_iconst (v := 2) hx hb dL_orders_1 (by decide) ?_
  refine r_calli (F := EC cA o) (va_runV (As := [.int (2 : Int32)]) (rest := []) C.1 (c_X9_count l D cA o _ u0 _ h) (cwV 1 C.1.2.2.2.2 gL_orders_X9_count rfl rfl rfl (by decide +kernel) ⟨Nat.le_of_ble_eq_true rfl, Nat.le_of_ble_eq_true rfl⟩) (r_preV C P [.int (2 : Int32)] (ci := 9) rfl (kd_lt kd_at_0 (by decide)) (EK_9 kd_at_0)) rfl rfl hl.1 rfl (lv_room (Nat.le_of_ble_eq_true rfl)) dL_orders_2 ⟨Nat.le_of_ble_eq_true rfl, Nat.le_of_ble_eq_true rfl⟩) P.2 (fun r2 u1 H locs h P => ?_)
  refine lv_istore (lv' := [(5, .int r2), (0, .ref (o + 0)), (1, .int a1), (2, .int a2), (3, .int a3), (4, .int a4)]) hx hb dL_orders_5 hl (by decide) rfl (fun ls hl => ?_)
  refine lv_aload_n hx hb dL_orders_7 rfl (lv_at hl 1 rfl) ?_
  refine lv_iconst (v := 0) hx hb dL_orders_8 (by decide) ?_
  refine r_calli (F := EC cA o) (va_runV (As := [.int (0 : Int32)]) (rest := []) C.1 (c_X9_count l D cA o _ u1 _ h) (cwV 1 C.1.2.2.2.2 gL_orders_X9_count rfl rfl rfl (by decide +kernel) ⟨Nat.le_of_ble_eq_true rfl, Nat.le_of_ble_eq_true rfl⟩) (r_preV C P [.int (0 : Int32)] (ci := 9) rfl (kd_lt kd_at_0 (by decide)) (EK_9 kd_at_0)) rfl rfl hl.1 rfl (lv_room (Nat.le_of_ble_eq_true rfl)) dL_orders_9 ⟨Nat.le_of_ble_eq_true rfl, Nat.le_of_ble_eq_true rfl⟩) P.2 (fun r4 u3 H locs h P => ?_)
  refine lv_istore (lv' := [(6, .int r4), (5, .int r2), (0, .ref (o + 0)), (1, .int a1), (2, .int a2), (3, .int a3), (4, .int a4)]) hx hb dL_orders_12 hl (by decide) rfl (fun ls hl => ?_)
  refine lv_aload_n hx hb dL_orders_14 rfl (lv_at hl 2 rfl) ?_
  refine r_calli (F := EC cA o) (va_runV (As := []) (rest := []) C.1 (c_X9_clearText l D cA o u3 _ h) (cwV 0 C.1.2.2.2.2 gL_orders_X9_clearText rfl rfl rfl (by decide +kernel) ⟨Nat.le_of_ble_eq_true rfl, Nat.le_of_ble_eq_true rfl⟩) (r_preV C P [] (ci := 9) rfl (kd_lt kd_at_0 (by decide)) (EK_9 kd_at_0)) rfl rfl hl.1 rfl (lv_room (Nat.le_of_ble_eq_true rfl)) dL_orders_15 ⟨Nat.le_of_ble_eq_true rfl, Nat.le_of_ble_eq_true rfl⟩) P.2 (fun r6 u5 H locs h P => ?_)
  refine lv_pop hx hb dL_orders_18 rfl ?_
  refine lv_aload_n hx hb dL_orders_19 rfl (lv_at hl 2 rfl) ?_
  refine r_calli (F := EC cA o) (va_runV (As := []) (rest := []) C.1 (c_X9_run l D cA o u5 _ h) (cwV 0 C.1.2.2.2.2 gL_orders_X9_run rfl rfl rfl (by decide +kernel) ⟨Nat.le_of_ble_eq_true rfl, Nat.le_of_ble_eq_true rfl⟩) (r_preV C P [] (ci := 9) rfl (kd_lt kd_at_0 (by decide)) (EK_9 kd_at_0)) rfl rfl hl.1 rfl (lv_room (Nat.le_of_ble_eq_true rfl)) dL_orders_20 ⟨Nat.le_of_ble_eq_true rfl, Nat.le_of_ble_eq_true rfl⟩) P.2 (fun r8 u7 H locs h P => ?_)
  refine lv_bipush (v := -100) hx hb dL_orders_23 (by decide) ?_
  refine lv_icmp_eq (tgt := 30) hx hb dL_orders_25 (by decide) (fun c9 => ?_) (fun c9 => ?_)
  · have h := ite_t h c9
    refine lv_aload_n hx hb dL_orders_30 rfl (lv_at hl 2 rfl) ?_
    refine lv_bipush (v := 105) hx hb dL_orders_31 (by decide) ?_
    refine r_calli (F := EC cA o) (va_runV (As := [.int (105 : Int32)]) (rest := []) C.1 (c_X9_type l D cA o _ u7 _ h) (cwV 1 C.1.2.2.2.2 gL_orders_X9_type rfl rfl rfl (by decide +kernel) ⟨Nat.le_of_ble_eq_true rfl, Nat.le_of_ble_eq_true rfl⟩) (r_preV C P [.int (105 : Int32)] (ci := 9) rfl (kd_lt kd_at_0 (by decide)) (EK_9 kd_at_0)) rfl rfl hl.1 rfl (lv_room (Nat.le_of_ble_eq_true rfl)) dL_orders_33 ⟨Nat.le_of_ble_eq_true rfl, Nat.le_of_ble_eq_true rfl⟩) P.2 (fun r11 u10 H locs h P => ?_)
    refine lv_pop hx hb dL_orders_36 rfl ?_
    refine lv_aload_n hx hb dL_orders_37 rfl (lv_at hl 2 rfl) ?_
    refine r_calli (F := EC cA o) (va_runV (As := []) (rest := []) C.1 (c_X9_run l D cA o u10 _ h) (cwV 0 C.1.2.2.2.2 gL_orders_X9_run rfl rfl rfl (by decide +kernel) ⟨Nat.le_of_ble_eq_true rfl, Nat.le_of_ble_eq_true rfl⟩) (r_preV C P [] (ci := 9) rfl (kd_lt kd_at_0 (by decide)) (EK_9 kd_at_0)) rfl rfl hl.1 rfl (lv_room (Nat.le_of_ble_eq_true rfl)) dL_orders_38 ⟨Nat.le_of_ble_eq_true rfl, Nat.le_of_ble_eq_true rfl⟩) P.2 (fun r13 u12 H locs h P => ?_)
    refine lv_bipush (v := -101) hx hb dL_orders_41 (by decide) ?_
    refine lv_icmp_ne (tgt := 50) hx hb dL_orders_43 (by decide) (fun c14 => ?_) (fun c14 => ?_)
    · have h := ite_f h c14
      refine lv_iconst (v := 0) hx hb dL_orders_50 (by decide) ?_
      exact t_L_orders_51 C _ _ _ _ _ _ _ u12 _ _ _ P (lv_sub hl [2, 3, 4, 5, 6, 1, 0] rfl) h
    · have h := ite_t h c14
      refine lv_iconst (v := 1) hx hb dL_orders_46 (by decide) ?_
      refine lv_goto (tgt := 51) hx hb dL_orders_47 (by decide) ?_
      exact t_L_orders_51 C _ _ _ _ _ _ _ u12 _ _ _ P (lv_sub hl [2, 3, 4, 5, 6, 1, 0] rfl) h
  · have h := ite_f h c9
    refine lv_iconst (v := 0) hx hb dL_orders_28 (by decide) ?_
    exact r_iretb C P (Or.inl rfl) h dL_orders_29
set_option maxHeartbeats 4000000 in
set_option maxRecDepth 100000 in
theorem c_L_orders (l : Launch) (D : va_G) (cA : Nat → ClassId) (o : Nat) (a1 : Int32) (a2 : Int32) (a3 : Int32) (a4 : Int32)  (u0 : Mm) (Φ : Int32 → Mm → Prop) (h : w_L_orders a1 a2 a3 a4 u0 Φ) : Met l yL_orders wsL_orders rm_L_orders (va_Pc [.ref (o + 0), .int a1, .int a2, .int a3, .int a4] (Wd 747 o D (tysL cA) (EC cA o u0))) (Qg vI Φ (fun μ => Wd 747 o D (tysL cA) (EC cA o μ)) (aA o 747)) 0 0 (aA o 747) := by
  refine Met.ofW (cc := cL_orders) (maxL := 12) (ret := (some .boolean)) (by decide) rfl ?_
  intro p e s m args below meth c s₁ B hml hv
  obtain ⟨rfl, hv⟩ := hv
  have hl := lv_entry ([.ref (o + 0), .int a1, .int a2, .int a3, .int a4]) (n := 12) (Nat.le_of_ble_eq_true rfl)
  rw [lg_entry_eq]
  exact t_L_orders_0 ⟨⟨B.exec, B.bytes, hml, findClass_of_methodNamed B.named, atoms_spec (ws := wsL_orders) B.pre⟩, B.returns, B.notSynchronized, hv.2⟩ a1 a2 a3 a4 u0 _ _ _ ⟨hv.1, va_S.rf⟩ hl h
abbrev rm_L_errors : Room := { frames := 8, cells := 0, slots := 0, locals := 182 }
theorem wd_L_errors_1 : Cond.constant RL 89 (100001) ∈ wsL_errors := List.mem_of_getElem? (i := 1) (by decide +kernel)
def w_L_errors_178  (Φ : Int32 → Mm → Prop) (x1 : Int32) (x2 : Int32) (z0 : Int32) (u0 : Mm) : Prop := (if z0 = 0 then (Φ (0 : Int32) u0) else (w_X9_enter x1 ((-1 : Int32)) ((0 : Int32)) u0 (fun r10 u9 => (if r10 = (-1 : Int32) then (w_X9_enter ((0 : Int32)) ((12 : Int32)) ((0 : Int32)) u9 (fun r13 u12 => (if r13 = (-1 : Int32) then (w_X9_enter ((0 : Int32)) ((-2 : Int32)) ((0 : Int32)) u12 (fun r16 u15 => (if r16 = (-1 : Int32) then (w_X9_exit x1 ((0 : Int32)) u15 (fun r19 u18 => (if r19 = (-1 : Int32) then (w_X9_exit ((0 : Int32)) x2 u18 (fun r22 u21 => (if r22 = (-1 : Int32) then (w_X9_divert ((0 : Int32)) x1 u21 (fun r25 u24 => (if r25 = (-1 : Int32) then (w_X9_pinch x1 u24 (fun r28 u27 => (if r28 = (-1 : Int32) then (w_X9_fail ((-1 : Int32)) u27 (fun r31 u30 => (if r31 = (-1 : Int32) then (w_X9_repair x1 u30 (fun r34 u33 => (if r34 = (-1 : Int32) then (w_X9_pass ((0 : Int32)) u33 (fun r37 u36 => (if r37 = (-2 : Int32) then (w_X9_pass ((201 : Int32)) u36 (fun r40 u39 => (if r40 = (-2 : Int32) then (w_X9_gate x1 ((0 : Int32)) u39 (fun r43 u42 => (if r43 = (-1 : Int32) then (w_X9_queued x1 ((0 : Int32)) ((0 : Int32)) u42 (fun r46 u45 => (if r46 = (-1 : Int32) then (w_X9_event ((-1 : Int32)) ((0 : Int32)) u45 (fun r49 u48 => (if r49 = (-2 : Int32) then (w_X9_event ((0 : Int32)) ((4 : Int32)) u48 (fun r52 u51 => (if r52 = (-2 : Int32) then (w_X9_event ((20 : Int32)) ((0 : Int32)) u51 (fun r55 u54 => (if r55 = (-5 : Int32) then (w_X9_passesIn x2 u54 (fun r58 u57 => (if r58 = (-1 : Int32) then (Φ (1 : Int32) u57) else (Φ (0 : Int32) u57)))) else (Φ (0 : Int32) u54)))) else (Φ (0 : Int32) u51)))) else (Φ (0 : Int32) u48)))) else (Φ (0 : Int32) u45)))) else (Φ (0 : Int32) u42)))) else (Φ (0 : Int32) u39)))) else (Φ (0 : Int32) u36)))) else (Φ (0 : Int32) u33)))) else (Φ (0 : Int32) u30)))) else (Φ (0 : Int32) u27)))) else (Φ (0 : Int32) u24)))) else (Φ (0 : Int32) u21)))) else (Φ (0 : Int32) u18)))) else (Φ (0 : Int32) u15)))) else (Φ (0 : Int32) u12)))) else (Φ (0 : Int32) u9)))))
set_option maxHeartbeats 4000000 in
set_option maxRecDepth 100000 in
theorem t_L_errors_178 {p : Program} {l : Launch} {e : Env} {s : State} {m : MethodId} {args : Array Value} {below : List Frame} {meth : Method} {c : Code} {D : va_G} {cA : Nat → ClassId} {o : Nat}  {Φ : Int32 → Mm → Prop} (C : Cx p m meth c s args cL_errors 4 wsL_errors RL (some .boolean) D (tysL cA)) : ∀ (x1 : Int32) (x2 : Int32) (z0 : Int32) (u0 : Mm), ∀ (H : Heap) (locs : List Loc) (ls : Array Slot), Hp 747 o D (EC cA o u0) s H locs → lv_has ls 4 [(0, .ref (o + 0)), (1, .int x1), (2, .int x2)] → w_L_errors_178 Φ x1 x2 z0 u0 → W p l e rm_L_errors s m args below meth c H locs 0 0 (MQ below (Qg vI Φ (fun μ => Wd 747 o D (tysL cA) (EC cA o μ)) (aA o 747)) args s 0 0 (aA o 747)) (F0 m 178 ls [.int z0]) := by
  intro x1 x2 z0 u0 H locs ls P hl h
  have hx := C.1.1
  have hb := C.1.2.1
  unfold w_L_errors_178 at h
  refine lv_istore_n (lv' := [(3, .int z0), (0, .ref (o + 0)), (1, .int x1), (2, .int x2)]) hx hb dL_errors_178 rfl hl (by decide) rfl (fun ls hl => ?_)
  refine lv_iload_n hx hb dL_errors_179 rfl (lv_at hl 0 rfl) ?_
  refine lv_if_eq (tgt := 365) hx hb dL_errors_180 (by decide) (fun c8 => ?_) (fun c8 => ?_)
  · have h := ite_t h c8
    refine lv_iconst (v := 0) hx hb dL_errors_365 (by decide) ?_
    exact r_iretb C P (Or.inl rfl) h dL_errors_366
  · have h := ite_f h c8
    refine lv_aload_n hx hb dL_errors_183 rfl (lv_at hl 1 rfl) ?_
    refine lv_iload_n hx hb dL_errors_184 rfl (lv_at hl 2 rfl) ?_
    refine lv_iconst (v := -1) hx hb dL_errors_185 (by decide) ?_
    refine lv_iconst (v := 0) hx hb dL_errors_186 (by decide) ?_
    refine r_calli (F := EC cA o) (va_runV (As := [.int x1, .int (-1 : Int32), .int (0 : Int32)]) (rest := []) C.1 (c_X9_enter l D cA o _ _ _ u0 _ h) (cwV 3 C.1.2.2.2.2 gL_errors_X9_enter rfl rfl rfl (by decide +kernel) ⟨Nat.le_of_ble_eq_true rfl, Nat.le_of_ble_eq_true rfl⟩) (r_preV C P [.int x1, .int (-1 : Int32), .int (0 : Int32)] (ci := 9) rfl (kd_lt kd_at_0 (by decide)) (EK_9 kd_at_0)) rfl rfl hl.1 rfl (lv_room (Nat.le_of_ble_eq_true rfl)) dL_errors_187 ⟨Nat.le_of_ble_eq_true rfl, Nat.le_of_ble_eq_true rfl⟩) P.2 (fun r10 u9 H locs h P => ?_)
    refine lv_iconst (v := -1) hx hb dL_errors_190 (by decide) ?_
    refine lv_icmp_ne (tgt := 365) hx hb dL_errors_191 (by decide) (fun c11 => ?_) (fun c11 => ?_)
    · have h := ite_f h c11
      refine lv_iconst (v := 0) hx hb dL_errors_365 (by decide) ?_
      exact r_iretb C P (Or.inl rfl) h dL_errors_366
    · have h := ite_t h c11
      refine lv_aload_n hx hb dL_errors_194 rfl (lv_at hl 1 rfl) ?_
      refine lv_iconst (v := 0) hx hb dL_errors_195 (by decide) ?_
      refine lv_bipush (v := 12) hx hb dL_errors_196 (by decide) ?_
      refine lv_iconst (v := 0) hx hb dL_errors_198 (by decide) ?_
      refine r_calli (F := EC cA o) (va_runV (As := [.int (0 : Int32), .int (12 : Int32), .int (0 : Int32)]) (rest := []) C.1 (c_X9_enter l D cA o _ _ _ u9 _ h) (cwV 3 C.1.2.2.2.2 gL_errors_X9_enter rfl rfl rfl (by decide +kernel) ⟨Nat.le_of_ble_eq_true rfl, Nat.le_of_ble_eq_true rfl⟩) (r_preV C P [.int (0 : Int32), .int (12 : Int32), .int (0 : Int32)] (ci := 9) rfl (kd_lt kd_at_0 (by decide)) (EK_9 kd_at_0)) rfl rfl hl.1 rfl (lv_room (Nat.le_of_ble_eq_true rfl)) dL_errors_199 ⟨Nat.le_of_ble_eq_true rfl, Nat.le_of_ble_eq_true rfl⟩) P.2 (fun r13 u12 H locs h P => ?_)
      refine lv_iconst (v := -1) hx hb dL_errors_202 (by decide) ?_
      refine lv_icmp_ne (tgt := 365) hx hb dL_errors_203 (by decide) (fun c14 => ?_) (fun c14 => ?_)
      · have h := ite_f h c14
        refine lv_iconst (v := 0) hx hb dL_errors_365 (by decide) ?_
        exact r_iretb C P (Or.inl rfl) h dL_errors_366
      · have h := ite_t h c14
        refine lv_aload_n hx hb dL_errors_206 rfl (lv_at hl 1 rfl) ?_
        refine lv_iconst (v := 0) hx hb dL_errors_207 (by decide) ?_
        refine lv_bipush (v := -2) hx hb dL_errors_208 (by decide) ?_
        refine lv_iconst (v := 0) hx hb dL_errors_210 (by decide) ?_
        refine r_calli (F := EC cA o) (va_runV (As := [.int (0 : Int32), .int (-2 : Int32), .int (0 : Int32)]) (rest := []) C.1 (c_X9_enter l D cA o _ _ _ u12 _ h) (cwV 3 C.1.2.2.2.2 gL_errors_X9_enter rfl rfl rfl (by decide +kernel) ⟨Nat.le_of_ble_eq_true rfl, Nat.le_of_ble_eq_true rfl⟩) (r_preV C P [.int (0 : Int32), .int (-2 : Int32), .int (0 : Int32)] (ci := 9) rfl (kd_lt kd_at_0 (by decide)) (EK_9 kd_at_0)) rfl rfl hl.1 rfl (lv_room (Nat.le_of_ble_eq_true rfl)) dL_errors_211 ⟨Nat.le_of_ble_eq_true rfl, Nat.le_of_ble_eq_true rfl⟩) P.2 (fun r16 u15 H locs h P => ?_)
        refine lv_iconst (v := -1) hx hb dL_errors_214 (by decide) ?_
        refine lv_icmp_ne (tgt := 365) hx hb dL_errors_215 (by decide) (fun c17 => ?_) (fun c17 => ?_)
        · have h := ite_f h c17
          refine lv_iconst (v := 0) hx hb dL_errors_365 (by decide) ?_
          exact r_iretb C P (Or.inl rfl) h dL_errors_366
        · have h := ite_t h c17
          refine lv_aload_n hx hb dL_errors_218 rfl (lv_at hl 1 rfl) ?_
          refine lv_iload_n hx hb dL_errors_219 rfl (lv_at hl 2 rfl) ?_
          refine lv_iconst (v := 0) hx hb dL_errors_220 (by decide) ?_
          refine r_calli (F := EC cA o) (va_runV (As := [.int x1, .int (0 : Int32)]) (rest := []) C.1 (c_X9_exit l D cA o _ _ u15 _ h) (cwV 2 C.1.2.2.2.2 gL_errors_X9_exit rfl rfl rfl (by decide +kernel) ⟨Nat.le_of_ble_eq_true rfl, Nat.le_of_ble_eq_true rfl⟩) (r_preV C P [.int x1, .int (0 : Int32)] (ci := 9) rfl (kd_lt kd_at_0 (by decide)) (EK_9 kd_at_0)) rfl rfl hl.1 rfl (lv_room (Nat.le_of_ble_eq_true rfl)) dL_errors_221 ⟨Nat.le_of_ble_eq_true rfl, Nat.le_of_ble_eq_true rfl⟩) P.2 (fun r19 u18 H locs h P => ?_)
          refine lv_iconst (v := -1) hx hb dL_errors_224 (by decide) ?_
          refine lv_icmp_ne (tgt := 365) hx hb dL_errors_225 (by decide) (fun c20 => ?_) (fun c20 => ?_)
          · have h := ite_f h c20
            refine lv_iconst (v := 0) hx hb dL_errors_365 (by decide) ?_
            exact r_iretb C P (Or.inl rfl) h dL_errors_366
          · have h := ite_t h c20
            refine lv_aload_n hx hb dL_errors_228 rfl (lv_at hl 1 rfl) ?_
            refine lv_iconst (v := 0) hx hb dL_errors_229 (by decide) ?_
            refine lv_iload_n hx hb dL_errors_230 rfl (lv_at hl 3 rfl) ?_
            refine r_calli (F := EC cA o) (va_runV (As := [.int (0 : Int32), .int x2]) (rest := []) C.1 (c_X9_exit l D cA o _ _ u18 _ h) (cwV 2 C.1.2.2.2.2 gL_errors_X9_exit rfl rfl rfl (by decide +kernel) ⟨Nat.le_of_ble_eq_true rfl, Nat.le_of_ble_eq_true rfl⟩) (r_preV C P [.int (0 : Int32), .int x2] (ci := 9) rfl (kd_lt kd_at_0 (by decide)) (EK_9 kd_at_0)) rfl rfl hl.1 rfl (lv_room (Nat.le_of_ble_eq_true rfl)) dL_errors_231 ⟨Nat.le_of_ble_eq_true rfl, Nat.le_of_ble_eq_true rfl⟩) P.2 (fun r22 u21 H locs h P => ?_)
            refine lv_iconst (v := -1) hx hb dL_errors_234 (by decide) ?_
            refine lv_icmp_ne (tgt := 365) hx hb dL_errors_235 (by decide) (fun c23 => ?_) (fun c23 => ?_)
            · have h := ite_f h c23
              refine lv_iconst (v := 0) hx hb dL_errors_365 (by decide) ?_
              exact r_iretb C P (Or.inl rfl) h dL_errors_366
            · have h := ite_t h c23
              refine lv_aload_n hx hb dL_errors_238 rfl (lv_at hl 1 rfl) ?_
              refine lv_iconst (v := 0) hx hb dL_errors_239 (by decide) ?_
              refine lv_iload_n hx hb dL_errors_240 rfl (lv_at hl 2 rfl) ?_
              refine r_calli (F := EC cA o) (va_runV (As := [.int (0 : Int32), .int x1]) (rest := []) C.1 (c_X9_divert l D cA o _ _ u21 _ h) (cwV 2 C.1.2.2.2.2 gL_errors_X9_divert rfl rfl rfl (by decide +kernel) ⟨Nat.le_of_ble_eq_true rfl, Nat.le_of_ble_eq_true rfl⟩) (r_preV C P [.int (0 : Int32), .int x1] (ci := 9) rfl (kd_lt kd_at_0 (by decide)) (EK_9 kd_at_0)) rfl rfl hl.1 rfl (lv_room (Nat.le_of_ble_eq_true rfl)) dL_errors_241 ⟨Nat.le_of_ble_eq_true rfl, Nat.le_of_ble_eq_true rfl⟩) P.2 (fun r25 u24 H locs h P => ?_)
              refine lv_iconst (v := -1) hx hb dL_errors_244 (by decide) ?_
              refine lv_icmp_ne (tgt := 365) hx hb dL_errors_245 (by decide) (fun c26 => ?_) (fun c26 => ?_)
              · have h := ite_f h c26
                refine lv_iconst (v := 0) hx hb dL_errors_365 (by decide) ?_
                exact r_iretb C P (Or.inl rfl) h dL_errors_366
              · have h := ite_t h c26
                refine lv_aload_n hx hb dL_errors_248 rfl (lv_at hl 1 rfl) ?_
                refine lv_iload_n hx hb dL_errors_249 rfl (lv_at hl 2 rfl) ?_
                refine r_calli (F := EC cA o) (va_runV (As := [.int x1]) (rest := []) C.1 (c_X9_pinch l D cA o _ u24 _ h) (cwV 1 C.1.2.2.2.2 gL_errors_X9_pinch rfl rfl rfl (by decide +kernel) ⟨Nat.le_of_ble_eq_true rfl, Nat.le_of_ble_eq_true rfl⟩) (r_preV C P [.int x1] (ci := 9) rfl (kd_lt kd_at_0 (by decide)) (EK_9 kd_at_0)) rfl rfl hl.1 rfl (lv_room (Nat.le_of_ble_eq_true rfl)) dL_errors_250 ⟨Nat.le_of_ble_eq_true rfl, Nat.le_of_ble_eq_true rfl⟩) P.2 (fun r28 u27 H locs h P => ?_)
                refine lv_iconst (v := -1) hx hb dL_errors_253 (by decide) ?_
                refine lv_icmp_ne (tgt := 365) hx hb dL_errors_254 (by decide) (fun c29 => ?_) (fun c29 => ?_)
                · have h := ite_f h c29
                  refine lv_iconst (v := 0) hx hb dL_errors_365 (by decide) ?_
                  exact r_iretb C P (Or.inl rfl) h dL_errors_366
                · have h := ite_t h c29
                  refine lv_aload_n hx hb dL_errors_257 rfl (lv_at hl 1 rfl) ?_
                  refine lv_iconst (v := -1) hx hb dL_errors_258 (by decide) ?_
                  refine r_calli (F := EC cA o) (va_runV (As := [.int (-1 : Int32)]) (rest := []) C.1 (c_X9_fail l D cA o _ u27 _ h) (cwV 1 C.1.2.2.2.2 gL_errors_X9_fail rfl rfl rfl (by decide +kernel) ⟨Nat.le_of_ble_eq_true rfl, Nat.le_of_ble_eq_true rfl⟩) (r_preV C P [.int (-1 : Int32)] (ci := 9) rfl (kd_lt kd_at_0 (by decide)) (EK_9 kd_at_0)) rfl rfl hl.1 rfl (lv_room (Nat.le_of_ble_eq_true rfl)) dL_errors_259 ⟨Nat.le_of_ble_eq_true rfl, Nat.le_of_ble_eq_true rfl⟩) P.2 (fun r31 u30 H locs h P => ?_)
                  refine lv_iconst (v := -1) hx hb dL_errors_262 (by decide) ?_
                  refine lv_icmp_ne (tgt := 365) hx hb dL_errors_263 (by decide) (fun c32 => ?_) (fun c32 => ?_)
                  · have h := ite_f h c32
                    refine lv_iconst (v := 0) hx hb dL_errors_365 (by decide) ?_
                    exact r_iretb C P (Or.inl rfl) h dL_errors_366
                  · have h := ite_t h c32
                    refine lv_aload_n hx hb dL_errors_266 rfl (lv_at hl 1 rfl) ?_
                    refine lv_iload_n hx hb dL_errors_267 rfl (lv_at hl 2 rfl) ?_
                    refine r_calli (F := EC cA o) (va_runV (As := [.int x1]) (rest := []) C.1 (c_X9_repair l D cA o _ u30 _ h) (cwV 1 C.1.2.2.2.2 gL_errors_X9_repair rfl rfl rfl (by decide +kernel) ⟨Nat.le_of_ble_eq_true rfl, Nat.le_of_ble_eq_true rfl⟩) (r_preV C P [.int x1] (ci := 9) rfl (kd_lt kd_at_0 (by decide)) (EK_9 kd_at_0)) rfl rfl hl.1 rfl (lv_room (Nat.le_of_ble_eq_true rfl)) dL_errors_268 ⟨Nat.le_of_ble_eq_true rfl, Nat.le_of_ble_eq_true rfl⟩) P.2 (fun r34 u33 H locs h P => ?_)
                    refine lv_iconst (v := -1) hx hb dL_errors_271 (by decide) ?_
                    refine lv_icmp_ne (tgt := 365) hx hb dL_errors_272 (by decide) (fun c35 => ?_) (fun c35 => ?_)
                    · have h := ite_f h c35
                      refine lv_iconst (v := 0) hx hb dL_errors_365 (by decide) ?_
                      exact r_iretb C P (Or.inl rfl) h dL_errors_366
                    · have h := ite_t h c35
                      refine lv_aload_n hx hb dL_errors_275 rfl (lv_at hl 1 rfl) ?_
                      refine lv_iconst (v := 0) hx hb dL_errors_276 (by decide) ?_
                      refine r_calli (F := EC cA o) (va_runV (As := [.int (0 : Int32)]) (rest := []) C.1 (c_X9_pass l D cA o _ u33 _ h) (cwV 1 C.1.2.2.2.2 gL_errors_X9_pass rfl rfl rfl (by decide +kernel) ⟨Nat.le_of_ble_eq_true rfl, Nat.le_of_ble_eq_true rfl⟩) (r_preV C P [.int (0 : Int32)] (ci := 9) rfl (kd_lt kd_at_0 (by decide)) (EK_9 kd_at_0)) rfl rfl hl.1 rfl (lv_room (Nat.le_of_ble_eq_true rfl)) dL_errors_277 ⟨Nat.le_of_ble_eq_true rfl, Nat.le_of_ble_eq_true rfl⟩) P.2 (fun r37 u36 H locs h P => ?_)
                      refine lv_bipush (v := -2) hx hb dL_errors_280 (by decide) ?_
                      refine lv_icmp_ne (tgt := 365) hx hb dL_errors_282 (by decide) (fun c38 => ?_) (fun c38 => ?_)
                      · have h := ite_f h c38
                        refine lv_iconst (v := 0) hx hb dL_errors_365 (by decide) ?_
                        exact r_iretb C P (Or.inl rfl) h dL_errors_366
                      · have h := ite_t h c38
                        refine lv_aload_n hx hb dL_errors_285 rfl (lv_at hl 1 rfl) ?_
                        refine lv_sipush (v := 201) hx hb dL_errors_286 (by decide) ?_
                        refine r_calli (F := EC cA o) (va_runV (As := [.int (201 : Int32)]) (rest := []) C.1 (c_X9_pass l D cA o _ u36 _ h) (cwV 1 C.1.2.2.2.2 gL_errors_X9_pass rfl rfl rfl (by decide +kernel) ⟨Nat.le_of_ble_eq_true rfl, Nat.le_of_ble_eq_true rfl⟩) (r_preV C P [.int (201 : Int32)] (ci := 9) rfl (kd_lt kd_at_0 (by decide)) (EK_9 kd_at_0)) rfl rfl hl.1 rfl (lv_room (Nat.le_of_ble_eq_true rfl)) dL_errors_289 ⟨Nat.le_of_ble_eq_true rfl, Nat.le_of_ble_eq_true rfl⟩) P.2 (fun r40 u39 H locs h P => ?_)
                        refine lv_bipush (v := -2) hx hb dL_errors_292 (by decide) ?_
                        refine lv_icmp_ne (tgt := 365) hx hb dL_errors_294 (by decide) (fun c41 => ?_) (fun c41 => ?_)
                        · have h := ite_f h c41
                          refine lv_iconst (v := 0) hx hb dL_errors_365 (by decide) ?_
                          exact r_iretb C P (Or.inl rfl) h dL_errors_366
                        · have h := ite_t h c41
                          refine lv_aload_n hx hb dL_errors_297 rfl (lv_at hl 1 rfl) ?_
                          refine lv_iload_n hx hb dL_errors_298 rfl (lv_at hl 2 rfl) ?_
                          refine lv_iconst (v := 0) hx hb dL_errors_299 (by decide) ?_
                          refine r_calli (F := EC cA o) (va_runV (As := [.int x1, .int (0 : Int32)]) (rest := []) C.1 (c_X9_gate l D cA o _ _ u39 _ h) (cwV 2 C.1.2.2.2.2 gL_errors_X9_gate rfl rfl rfl (by decide +kernel) ⟨Nat.le_of_ble_eq_true rfl, Nat.le_of_ble_eq_true rfl⟩) (r_preV C P [.int x1, .int (0 : Int32)] (ci := 9) rfl (kd_lt kd_at_0 (by decide)) (EK_9 kd_at_0)) rfl rfl hl.1 rfl (lv_room (Nat.le_of_ble_eq_true rfl)) dL_errors_300 ⟨Nat.le_of_ble_eq_true rfl, Nat.le_of_ble_eq_true rfl⟩) P.2 (fun r43 u42 H locs h P => ?_)
                          refine lv_iconst (v := -1) hx hb dL_errors_303 (by decide) ?_
                          refine lv_icmp_ne (tgt := 365) hx hb dL_errors_304 (by decide) (fun c44 => ?_) (fun c44 => ?_)
                          · have h := ite_f h c44
                            refine lv_iconst (v := 0) hx hb dL_errors_365 (by decide) ?_
                            exact r_iretb C P (Or.inl rfl) h dL_errors_366
                          · have h := ite_t h c44
                            refine lv_aload_n hx hb dL_errors_307 rfl (lv_at hl 1 rfl) ?_
                            refine lv_iload_n hx hb dL_errors_308 rfl (lv_at hl 2 rfl) ?_
                            refine lv_iconst (v := 0) hx hb dL_errors_309 (by decide) ?_
                            refine lv_iconst (v := 0) hx hb dL_errors_310 (by decide) ?_
                            refine r_calli (F := EC cA o) (va_runV (As := [.int x1, .int (0 : Int32), .int (0 : Int32)]) (rest := []) C.1 (c_X9_queued l D cA o _ _ _ u42 _ h) (cwV 3 C.1.2.2.2.2 gL_errors_X9_queued rfl rfl rfl (by decide +kernel) ⟨Nat.le_of_ble_eq_true rfl, Nat.le_of_ble_eq_true rfl⟩) (r_preV C P [.int x1, .int (0 : Int32), .int (0 : Int32)] (ci := 9) rfl (kd_lt kd_at_0 (by decide)) (EK_9 kd_at_0)) rfl rfl hl.1 rfl (lv_room (Nat.le_of_ble_eq_true rfl)) dL_errors_311 ⟨Nat.le_of_ble_eq_true rfl, Nat.le_of_ble_eq_true rfl⟩) P.2 (fun r46 u45 H locs h P => ?_)
                            refine lv_iconst (v := -1) hx hb dL_errors_314 (by decide) ?_
                            refine lv_icmp_ne (tgt := 365) hx hb dL_errors_315 (by decide) (fun c47 => ?_) (fun c47 => ?_)
                            · have h := ite_f h c47
                              refine lv_iconst (v := 0) hx hb dL_errors_365 (by decide) ?_
                              exact r_iretb C P (Or.inl rfl) h dL_errors_366
                            · have h := ite_t h c47
                              refine lv_aload_n hx hb dL_errors_318 rfl (lv_at hl 1 rfl) ?_
                              refine lv_iconst (v := -1) hx hb dL_errors_319 (by decide) ?_
                              refine lv_iconst (v := 0) hx hb dL_errors_320 (by decide) ?_
                              refine r_calli (F := EC cA o) (va_runV (As := [.int (-1 : Int32), .int (0 : Int32)]) (rest := []) C.1 (c_X9_event l D cA o _ _ u45 _ h) (cwV 2 C.1.2.2.2.2 gL_errors_X9_event rfl rfl rfl (by decide +kernel) ⟨Nat.le_of_ble_eq_true rfl, Nat.le_of_ble_eq_true rfl⟩) (r_preV C P [.int (-1 : Int32), .int (0 : Int32)] (ci := 9) rfl (kd_lt kd_at_0 (by decide)) (EK_9 kd_at_0)) rfl rfl hl.1 rfl (lv_room (Nat.le_of_ble_eq_true rfl)) dL_errors_321 ⟨Nat.le_of_ble_eq_true rfl, Nat.le_of_ble_eq_true rfl⟩) P.2 (fun r49 u48 H locs h P => ?_)
                              refine lv_bipush (v := -2) hx hb dL_errors_324 (by decide) ?_
                              refine lv_icmp_ne (tgt := 365) hx hb dL_errors_326 (by decide) (fun c50 => ?_) (fun c50 => ?_)
                              · have h := ite_f h c50
                                refine lv_iconst (v := 0) hx hb dL_errors_365 (by decide) ?_
                                exact r_iretb C P (Or.inl rfl) h dL_errors_366
                              · have h := ite_t h c50
                                refine lv_aload_n hx hb dL_errors_329 rfl (lv_at hl 1 rfl) ?_
                                refine lv_iconst (v := 0) hx hb dL_errors_330 (by decide) ?_
                                refine lv_iconst (v := 4) hx hb dL_errors_331 (by decide) ?_
                                refine r_calli (F := EC cA o) (va_runV (As := [.int (0 : Int32), .int (4 : Int32)]) (rest := []) C.1 (c_X9_event l D cA o _ _ u48 _ h) (cwV 2 C.1.2.2.2.2 gL_errors_X9_event rfl rfl rfl (by decide +kernel) ⟨Nat.le_of_ble_eq_true rfl, Nat.le_of_ble_eq_true rfl⟩) (r_preV C P [.int (0 : Int32), .int (4 : Int32)] (ci := 9) rfl (kd_lt kd_at_0 (by decide)) (EK_9 kd_at_0)) rfl rfl hl.1 rfl (lv_room (Nat.le_of_ble_eq_true rfl)) dL_errors_332 ⟨Nat.le_of_ble_eq_true rfl, Nat.le_of_ble_eq_true rfl⟩) P.2 (fun r52 u51 H locs h P => ?_)
                                refine lv_bipush (v := -2) hx hb dL_errors_335 (by decide) ?_
                                refine lv_icmp_ne (tgt := 365) hx hb dL_errors_337 (by decide) (fun c53 => ?_) (fun c53 => ?_)
                                · have h := ite_f h c53
                                  refine lv_iconst (v := 0) hx hb dL_errors_365 (by decide) ?_
                                  exact r_iretb C P (Or.inl rfl) h dL_errors_366
                                · have h := ite_t h c53
                                  refine lv_aload_n hx hb dL_errors_340 rfl (lv_at hl 1 rfl) ?_
                                  refine lv_bipush (v := 20) hx hb dL_errors_341 (by decide) ?_
                                  refine lv_iconst (v := 0) hx hb dL_errors_343 (by decide) ?_
                                  refine r_calli (F := EC cA o) (va_runV (As := [.int (20 : Int32), .int (0 : Int32)]) (rest := []) C.1 (c_X9_event l D cA o _ _ u51 _ h) (cwV 2 C.1.2.2.2.2 gL_errors_X9_event rfl rfl rfl (by decide +kernel) ⟨Nat.le_of_ble_eq_true rfl, Nat.le_of_ble_eq_true rfl⟩) (r_preV C P [.int (20 : Int32), .int (0 : Int32)] (ci := 9) rfl (kd_lt kd_at_0 (by decide)) (EK_9 kd_at_0)) rfl rfl hl.1 rfl (lv_room (Nat.le_of_ble_eq_true rfl)) dL_errors_344 ⟨Nat.le_of_ble_eq_true rfl, Nat.le_of_ble_eq_true rfl⟩) P.2 (fun r55 u54 H locs h P => ?_)
                                  refine lv_bipush (v := -5) hx hb dL_errors_347 (by decide) ?_
                                  refine lv_icmp_ne (tgt := 365) hx hb dL_errors_349 (by decide) (fun c56 => ?_) (fun c56 => ?_)
                                  · have h := ite_f h c56
                                    refine lv_iconst (v := 0) hx hb dL_errors_365 (by decide) ?_
                                    exact r_iretb C P (Or.inl rfl) h dL_errors_366
                                  · have h := ite_t h c56
                                    refine lv_aload_n hx hb dL_errors_352 rfl (lv_at hl 1 rfl) ?_
                                    refine lv_iload_n hx hb dL_errors_353 rfl (lv_at hl 3 rfl) ?_
                                    refine r_calli (F := EC cA o) (va_runV (As := [.int x2]) (rest := []) C.1 (c_X9_passesIn l D cA o _ u54 _ h) (cwV 1 C.1.2.2.2.2 gL_errors_X9_passesIn rfl rfl rfl (by decide +kernel) ⟨Nat.le_of_ble_eq_true rfl, Nat.le_of_ble_eq_true rfl⟩) (r_preV C P [.int x2] (ci := 9) rfl (kd_lt kd_at_0 (by decide)) (EK_9 kd_at_0)) rfl rfl hl.1 rfl (lv_room (Nat.le_of_ble_eq_true rfl)) dL_errors_354 ⟨Nat.le_of_ble_eq_true rfl, Nat.le_of_ble_eq_true rfl⟩) P.2 (fun r58 u57 H locs h P => ?_)
                                    refine lv_iconst (v := -1) hx hb dL_errors_357 (by decide) ?_
                                    refine lv_icmp_ne (tgt := 365) hx hb dL_errors_358 (by decide) (fun c59 => ?_) (fun c59 => ?_)
                                    · have h := ite_f h c59
                                      refine lv_iconst (v := 0) hx hb dL_errors_365 (by decide) ?_
                                      exact r_iretb C P (Or.inl rfl) h dL_errors_366
                                    · have h := ite_t h c59
                                      refine lv_iconst (v := 1) hx hb dL_errors_361 (by decide) ?_
                                      refine lv_goto (tgt := 366) hx hb dL_errors_362 (by decide) ?_
                                      exact r_iretb C P (Or.inr rfl) h dL_errors_366
def w_L_errors_177  (Φ : Int32 → Mm → Prop) (x1 : Int32) (x2 : Int32) (u0 : Mm) : Prop := (w_L_errors_178 Φ x1 x2 ((0 : Int32)) u0)
set_option maxHeartbeats 4000000 in
set_option maxRecDepth 100000 in
theorem t_L_errors_177 {p : Program} {l : Launch} {e : Env} {s : State} {m : MethodId} {args : Array Value} {below : List Frame} {meth : Method} {c : Code} {D : va_G} {cA : Nat → ClassId} {o : Nat}  {Φ : Int32 → Mm → Prop} (C : Cx p m meth c s args cL_errors 4 wsL_errors RL (some .boolean) D (tysL cA)) : ∀ (x1 : Int32) (x2 : Int32) (u0 : Mm), ∀ (H : Heap) (locs : List Loc) (ls : Array Slot), Hp 747 o D (EC cA o u0) s H locs → lv_has ls 4 [(0, .ref (o + 0)), (1, .int x1), (2, .int x2)] → w_L_errors_177 Φ x1 x2 u0 → W p l e rm_L_errors s m args below meth c H locs 0 0 (MQ below (Qg vI Φ (fun μ => Wd 747 o D (tysL cA) (EC cA o μ)) (aA o 747)) args s 0 0 (aA o 747)) (F0 m 177 ls []) := by
  intro x1 x2 u0 H locs ls P hl h
  have hx := C.1.1
  have hb := C.1.2.1
  unfold w_L_errors_177 at h
  refine lv_iconst (v := 0) hx hb dL_errors_177 (by decide) ?_
  exact t_L_errors_178 C _ _ _ u0 _ _ _ P (lv_sub hl [0, 1, 2] rfl) h
def w_L_errors  (u0 : Mm) (Φ : Int32 → Mm → Prop) : Prop := (w_X9_count ((1 : Int32)) u0 (fun r2 u1 => (w_X9_count ((2 : Int32)) u1 (fun r4 u3 => (w_X9_addGate ((3 : Int32)) ((1 : Int32)) ((1 : Int32)) ((1 : Int32)) u3 (fun r6 u5 => (if r6 = (-2 : Int32) then (w_X9_addGate ((0 : Int32)) ((0 : Int32)) ((1 : Int32)) ((1 : Int32)) u5 (fun r61 u60 => (if r61 = (-2 : Int32) then (w_X9_addGate ((0 : Int32)) ((1 : Int32)) ((21 : Int32)) ((1 : Int32)) u60 (fun r64 u63 => (if r64 = (-2 : Int32) then (w_X9_addGate ((0 : Int32)) ((1 : Int32)) ((1 : Int32)) ((11 : Int32)) u63 (fun r67 u66 => (if r67 = (-2 : Int32) then (w_X9_setDirection r2 ((0 : Int32)) u66 (fun r70 u69 => (if r70 = (-1 : Int32) then (w_X9_setDirection ((0 : Int32)) ((3 : Int32)) u69 (fun r73 u72 => (if r73 = (-2 : Int32) then (w_X9_addPool ((0 : Int32)) u72 (fun r76 u75 => (if r76 = (-2 : Int32) then (w_X9_addPool ((41 : Int32)) u75 (fun r79 u78 => (if r79 = (-2 : Int32) then (w_X9_credit ((4 : Int32)) ((1 : Int32)) u78 (fun r82 u81 => (if r82 = (-1 : Int32) then (w_X9_credit ((0 : Int32)) ((0 : Int32)) u81 (fun r85 u84 => (if r85 = (-2 : Int32) then (w_X9_credit ((0 : Int32)) ((100001 : Int32)) u84 (fun r88 u87 => (if r88 = (-2 : Int32) then (w_X9_addPass ((4 : Int32)) u87 (fun r91 u90 => (if r91 = (-1 : Int32) then (w_X9_block ((12 : Int32)) ((1 : Int32)) u90 (fun r94 u93 => (if r94 = (-1 : Int32) then (w_X9_setFare ((1001 : Int32)) u93 (fun r97 u96 => (if r97 = (-2 : Int32) then (w_L_errors_178 Φ r2 r4 ((1 : Int32)) u96) else (w_L_errors_177 Φ r2 r4 u96)))) else (w_L_errors_177 Φ r2 r4 u93)))) else (w_L_errors_177 Φ r2 r4 u90)))) else (w_L_errors_177 Φ r2 r4 u87)))) else (w_L_errors_177 Φ r2 r4 u84)))) else (w_L_errors_177 Φ r2 r4 u81)))) else (w_L_errors_177 Φ r2 r4 u78)))) else (w_L_errors_177 Φ r2 r4 u75)))) else (w_L_errors_177 Φ r2 r4 u72)))) else (w_L_errors_177 Φ r2 r4 u69)))) else (w_L_errors_177 Φ r2 r4 u66)))) else (w_L_errors_177 Φ r2 r4 u63)))) else (w_L_errors_177 Φ r2 r4 u60)))) else (w_L_errors_177 Φ r2 r4 u5))))))))
set_option maxHeartbeats 4000000 in
set_option maxRecDepth 100000 in
theorem t_L_errors_0 {p : Program} {l : Launch} {e : Env} {s : State} {m : MethodId} {args : Array Value} {below : List Frame} {meth : Method} {c : Code} {D : va_G} {cA : Nat → ClassId} {o : Nat}  {Φ : Int32 → Mm → Prop} (C : Cx p m meth c s args cL_errors 4 wsL_errors RL (some .boolean) D (tysL cA)) : ∀  (u0 : Mm), ∀ (H : Heap) (locs : List Loc) (ls : Array Slot), Hp 747 o D (EC cA o u0) s H locs → lv_has ls 4 [(0, .ref (o + 0))] → w_L_errors u0 Φ → W p l e rm_L_errors s m args below meth c H locs 0 0 (MQ below (Qg vI Φ (fun μ => Wd 747 o D (tysL cA) (EC cA o μ)) (aA o 747)) args s 0 0 (aA o 747)) (F0 m 0 ls []) := by
  intro u0 H locs ls P hl h
  have hx := C.1.1
  have hb := C.1.2.1
  unfold w_L_errors at h
  refine lv_aload_n hx hb dL_errors_0 rfl (lv_at hl 0 rfl) ?_
  refine lv_iconst (v := 1) hx hb dL_errors_1 (by decide) ?_
  refine r_calli (F := EC cA o) (va_runV (As := [.int (1 : Int32)]) (rest := []) C.1 (c_X9_count l D cA o _ u0 _ h) (cwV 1 C.1.2.2.2.2 gL_errors_X9_count rfl rfl rfl (by decide +kernel) ⟨Nat.le_of_ble_eq_true rfl, Nat.le_of_ble_eq_true rfl⟩) (r_preV C P [.int (1 : Int32)] (ci := 9) rfl (kd_lt kd_at_0 (by decide)) (EK_9 kd_at_0)) rfl rfl hl.1 rfl (lv_room (Nat.le_of_ble_eq_true rfl)) dL_errors_2 ⟨Nat.le_of_ble_eq_true rfl, Nat.le_of_ble_eq_true rfl⟩) P.2 (fun r2 u1 H locs h P => ?_)
  refine lv_istore_n (lv' := [(1, .int r2), (0, .ref (o + 0))]) hx hb dL_errors_5 rfl hl (by decide) rfl (fun ls hl => ?_)
  refine lv_aload_n hx hb dL_errors_6 rfl (lv_at hl 1 rfl) ?_
  refine lv_iconst (v := 2) hx hb dL_errors_7 (by decide) ?_
  refine r_calli (F := EC cA o) (va_runV (As := [.int (2 : Int32)]) (rest := []) C.1 (c_X9_count l D cA o _ u1 _ h) (cwV 1 C.1.2.2.2.2 gL_errors_X9_count rfl rfl rfl (by decide +kernel) ⟨Nat.le_of_ble_eq_true rfl, Nat.le_of_ble_eq_true rfl⟩) (r_preV C P [.int (2 : Int32)] (ci := 9) rfl (kd_lt kd_at_0 (by decide)) (EK_9 kd_at_0)) rfl rfl hl.1 rfl (lv_room (Nat.le_of_ble_eq_true rfl)) dL_errors_8 ⟨Nat.le_of_ble_eq_true rfl, Nat.le_of_ble_eq_true rfl⟩) P.2 (fun r4 u3 H locs h P => ?_)
  refine lv_istore_n (lv' := [(2, .int r4), (1, .int r2), (0, .ref (o + 0))]) hx hb dL_errors_11 rfl hl (by decide) rfl (fun ls hl => ?_)
  refine lv_aload_n hx hb dL_errors_12 rfl (lv_at hl 2 rfl) ?_
  refine lv_iconst (v := 3) hx hb dL_errors_13 (by decide) ?_
  refine lv_iconst (v := 1) hx hb dL_errors_14 (by decide) ?_
  refine lv_iconst (v := 1) hx hb dL_errors_15 (by decide) ?_
  refine lv_iconst (v := 1) hx hb dL_errors_16 (by decide) ?_
  refine r_calli (F := EC cA o) (va_runV (As := [.int (3 : Int32), .int (1 : Int32), .int (1 : Int32), .int (1 : Int32)]) (rest := []) C.1 (c_X9_addGate l D cA o _ _ _ _ u3 _ h) (cwV 4 C.1.2.2.2.2 gL_errors_X9_addGate rfl rfl rfl (by decide +kernel) ⟨Nat.le_of_ble_eq_true rfl, Nat.le_of_ble_eq_true rfl⟩) (r_preV C P [.int (3 : Int32), .int (1 : Int32), .int (1 : Int32), .int (1 : Int32)] (ci := 9) rfl (kd_lt kd_at_0 (by decide)) (EK_9 kd_at_0)) rfl rfl hl.1 rfl (lv_room (Nat.le_of_ble_eq_true rfl)) dL_errors_17 ⟨Nat.le_of_ble_eq_true rfl, Nat.le_of_ble_eq_true rfl⟩) P.2 (fun r6 u5 H locs h P => ?_)
  refine lv_bipush (v := -2) hx hb dL_errors_20 (by decide) ?_
  refine lv_icmp_ne (tgt := 177) hx hb dL_errors_22 (by decide) (fun c7 => ?_) (fun c7 => ?_)
  · have h := ite_f h c7
    exact t_L_errors_177 C _ _ u5 _ _ _ P (lv_sub hl [2, 1, 0] rfl) h
  · have h := ite_t h c7
    refine lv_aload_n hx hb dL_errors_25 rfl (lv_at hl 2 rfl) ?_
    refine lv_iconst (v := 0) hx hb dL_errors_26 (by decide) ?_
    refine lv_iconst (v := 0) hx hb dL_errors_27 (by decide) ?_
    refine lv_iconst (v := 1) hx hb dL_errors_28 (by decide) ?_
    refine lv_iconst (v := 1) hx hb dL_errors_29 (by decide) ?_
    refine r_calli (F := EC cA o) (va_runV (As := [.int (0 : Int32), .int (0 : Int32), .int (1 : Int32), .int (1 : Int32)]) (rest := []) C.1 (c_X9_addGate l D cA o _ _ _ _ u5 _ h) (cwV 4 C.1.2.2.2.2 gL_errors_X9_addGate rfl rfl rfl (by decide +kernel) ⟨Nat.le_of_ble_eq_true rfl, Nat.le_of_ble_eq_true rfl⟩) (r_preV C P [.int (0 : Int32), .int (0 : Int32), .int (1 : Int32), .int (1 : Int32)] (ci := 9) rfl (kd_lt kd_at_0 (by decide)) (EK_9 kd_at_0)) rfl rfl hl.1 rfl (lv_room (Nat.le_of_ble_eq_true rfl)) dL_errors_30 ⟨Nat.le_of_ble_eq_true rfl, Nat.le_of_ble_eq_true rfl⟩) P.2 (fun r61 u60 H locs h P => ?_)
    refine lv_bipush (v := -2) hx hb dL_errors_33 (by decide) ?_
    refine lv_icmp_ne (tgt := 177) hx hb dL_errors_35 (by decide) (fun c62 => ?_) (fun c62 => ?_)
    · have h := ite_f h c62
      exact t_L_errors_177 C _ _ u60 _ _ _ P (lv_sub hl [2, 1, 0] rfl) h
    · have h := ite_t h c62
      refine lv_aload_n hx hb dL_errors_38 rfl (lv_at hl 2 rfl) ?_
      refine lv_iconst (v := 0) hx hb dL_errors_39 (by decide) ?_
      refine lv_iconst (v := 1) hx hb dL_errors_40 (by decide) ?_
      refine lv_bipush (v := 21) hx hb dL_errors_41 (by decide) ?_
      refine lv_iconst (v := 1) hx hb dL_errors_43 (by decide) ?_
      refine r_calli (F := EC cA o) (va_runV (As := [.int (0 : Int32), .int (1 : Int32), .int (21 : Int32), .int (1 : Int32)]) (rest := []) C.1 (c_X9_addGate l D cA o _ _ _ _ u60 _ h) (cwV 4 C.1.2.2.2.2 gL_errors_X9_addGate rfl rfl rfl (by decide +kernel) ⟨Nat.le_of_ble_eq_true rfl, Nat.le_of_ble_eq_true rfl⟩) (r_preV C P [.int (0 : Int32), .int (1 : Int32), .int (21 : Int32), .int (1 : Int32)] (ci := 9) rfl (kd_lt kd_at_0 (by decide)) (EK_9 kd_at_0)) rfl rfl hl.1 rfl (lv_room (Nat.le_of_ble_eq_true rfl)) dL_errors_44 ⟨Nat.le_of_ble_eq_true rfl, Nat.le_of_ble_eq_true rfl⟩) P.2 (fun r64 u63 H locs h P => ?_)
      refine lv_bipush (v := -2) hx hb dL_errors_47 (by decide) ?_
      refine lv_icmp_ne (tgt := 177) hx hb dL_errors_49 (by decide) (fun c65 => ?_) (fun c65 => ?_)
      · have h := ite_f h c65
        exact t_L_errors_177 C _ _ u63 _ _ _ P (lv_sub hl [2, 1, 0] rfl) h
      · have h := ite_t h c65
        refine lv_aload_n hx hb dL_errors_52 rfl (lv_at hl 2 rfl) ?_
        refine lv_iconst (v := 0) hx hb dL_errors_53 (by decide) ?_
        refine lv_iconst (v := 1) hx hb dL_errors_54 (by decide) ?_
        refine lv_iconst (v := 1) hx hb dL_errors_55 (by decide) ?_
        refine lv_bipush (v := 11) hx hb dL_errors_56 (by decide) ?_
        refine r_calli (F := EC cA o) (va_runV (As := [.int (0 : Int32), .int (1 : Int32), .int (1 : Int32), .int (11 : Int32)]) (rest := []) C.1 (c_X9_addGate l D cA o _ _ _ _ u63 _ h) (cwV 4 C.1.2.2.2.2 gL_errors_X9_addGate rfl rfl rfl (by decide +kernel) ⟨Nat.le_of_ble_eq_true rfl, Nat.le_of_ble_eq_true rfl⟩) (r_preV C P [.int (0 : Int32), .int (1 : Int32), .int (1 : Int32), .int (11 : Int32)] (ci := 9) rfl (kd_lt kd_at_0 (by decide)) (EK_9 kd_at_0)) rfl rfl hl.1 rfl (lv_room (Nat.le_of_ble_eq_true rfl)) dL_errors_58 ⟨Nat.le_of_ble_eq_true rfl, Nat.le_of_ble_eq_true rfl⟩) P.2 (fun r67 u66 H locs h P => ?_)
        refine lv_bipush (v := -2) hx hb dL_errors_61 (by decide) ?_
        refine lv_icmp_ne (tgt := 177) hx hb dL_errors_63 (by decide) (fun c68 => ?_) (fun c68 => ?_)
        · have h := ite_f h c68
          exact t_L_errors_177 C _ _ u66 _ _ _ P (lv_sub hl [2, 1, 0] rfl) h
        · have h := ite_t h c68
          refine lv_aload_n hx hb dL_errors_66 rfl (lv_at hl 2 rfl) ?_
          refine lv_iload_n hx hb dL_errors_67 rfl (lv_at hl 1 rfl) ?_
          refine lv_iconst (v := 0) hx hb dL_errors_68 (by decide) ?_
          refine r_calli (F := EC cA o) (va_runV (As := [.int r2, .int (0 : Int32)]) (rest := []) C.1 (c_X9_setDirection l D cA o _ _ u66 _ h) (cwV 2 C.1.2.2.2.2 gL_errors_X9_setDirection rfl rfl rfl (by decide +kernel) ⟨Nat.le_of_ble_eq_true rfl, Nat.le_of_ble_eq_true rfl⟩) (r_preV C P [.int r2, .int (0 : Int32)] (ci := 9) rfl (kd_lt kd_at_0 (by decide)) (EK_9 kd_at_0)) rfl rfl hl.1 rfl (lv_room (Nat.le_of_ble_eq_true rfl)) dL_errors_69 ⟨Nat.le_of_ble_eq_true rfl, Nat.le_of_ble_eq_true rfl⟩) P.2 (fun r70 u69 H locs h P => ?_)
          refine lv_iconst (v := -1) hx hb dL_errors_72 (by decide) ?_
          refine lv_icmp_ne (tgt := 177) hx hb dL_errors_73 (by decide) (fun c71 => ?_) (fun c71 => ?_)
          · have h := ite_f h c71
            exact t_L_errors_177 C _ _ u69 _ _ _ P (lv_sub hl [2, 1, 0] rfl) h
          · have h := ite_t h c71
            refine lv_aload_n hx hb dL_errors_76 rfl (lv_at hl 2 rfl) ?_
            refine lv_iconst (v := 0) hx hb dL_errors_77 (by decide) ?_
            refine lv_iconst (v := 3) hx hb dL_errors_78 (by decide) ?_
            refine r_calli (F := EC cA o) (va_runV (As := [.int (0 : Int32), .int (3 : Int32)]) (rest := []) C.1 (c_X9_setDirection l D cA o _ _ u69 _ h) (cwV 2 C.1.2.2.2.2 gL_errors_X9_setDirection rfl rfl rfl (by decide +kernel) ⟨Nat.le_of_ble_eq_true rfl, Nat.le_of_ble_eq_true rfl⟩) (r_preV C P [.int (0 : Int32), .int (3 : Int32)] (ci := 9) rfl (kd_lt kd_at_0 (by decide)) (EK_9 kd_at_0)) rfl rfl hl.1 rfl (lv_room (Nat.le_of_ble_eq_true rfl)) dL_errors_79 ⟨Nat.le_of_ble_eq_true rfl, Nat.le_of_ble_eq_true rfl⟩) P.2 (fun r73 u72 H locs h P => ?_)
            refine lv_bipush (v := -2) hx hb dL_errors_82 (by decide) ?_
            refine lv_icmp_ne (tgt := 177) hx hb dL_errors_84 (by decide) (fun c74 => ?_) (fun c74 => ?_)
            · have h := ite_f h c74
              exact t_L_errors_177 C _ _ u72 _ _ _ P (lv_sub hl [2, 1, 0] rfl) h
            · have h := ite_t h c74
              refine lv_aload_n hx hb dL_errors_87 rfl (lv_at hl 2 rfl) ?_
              refine lv_iconst (v := 0) hx hb dL_errors_88 (by decide) ?_
              refine r_calli (F := EC cA o) (va_runV (As := [.int (0 : Int32)]) (rest := []) C.1 (c_X9_addPool l D cA o _ u72 _ h) (cwV 1 C.1.2.2.2.2 gL_errors_X9_addPool rfl rfl rfl (by decide +kernel) ⟨Nat.le_of_ble_eq_true rfl, Nat.le_of_ble_eq_true rfl⟩) (r_preV C P [.int (0 : Int32)] (ci := 9) rfl (kd_lt kd_at_0 (by decide)) (EK_9 kd_at_0)) rfl rfl hl.1 rfl (lv_room (Nat.le_of_ble_eq_true rfl)) dL_errors_89 ⟨Nat.le_of_ble_eq_true rfl, Nat.le_of_ble_eq_true rfl⟩) P.2 (fun r76 u75 H locs h P => ?_)
              refine lv_bipush (v := -2) hx hb dL_errors_92 (by decide) ?_
              refine lv_icmp_ne (tgt := 177) hx hb dL_errors_94 (by decide) (fun c77 => ?_) (fun c77 => ?_)
              · have h := ite_f h c77
                exact t_L_errors_177 C _ _ u75 _ _ _ P (lv_sub hl [2, 1, 0] rfl) h
              · have h := ite_t h c77
                refine lv_aload_n hx hb dL_errors_97 rfl (lv_at hl 2 rfl) ?_
                refine lv_bipush (v := 41) hx hb dL_errors_98 (by decide) ?_
                refine r_calli (F := EC cA o) (va_runV (As := [.int (41 : Int32)]) (rest := []) C.1 (c_X9_addPool l D cA o _ u75 _ h) (cwV 1 C.1.2.2.2.2 gL_errors_X9_addPool rfl rfl rfl (by decide +kernel) ⟨Nat.le_of_ble_eq_true rfl, Nat.le_of_ble_eq_true rfl⟩) (r_preV C P [.int (41 : Int32)] (ci := 9) rfl (kd_lt kd_at_0 (by decide)) (EK_9 kd_at_0)) rfl rfl hl.1 rfl (lv_room (Nat.le_of_ble_eq_true rfl)) dL_errors_100 ⟨Nat.le_of_ble_eq_true rfl, Nat.le_of_ble_eq_true rfl⟩) P.2 (fun r79 u78 H locs h P => ?_)
                refine lv_bipush (v := -2) hx hb dL_errors_103 (by decide) ?_
                refine lv_icmp_ne (tgt := 177) hx hb dL_errors_105 (by decide) (fun c80 => ?_) (fun c80 => ?_)
                · have h := ite_f h c80
                  exact t_L_errors_177 C _ _ u78 _ _ _ P (lv_sub hl [2, 1, 0] rfl) h
                · have h := ite_t h c80
                  refine lv_aload_n hx hb dL_errors_108 rfl (lv_at hl 2 rfl) ?_
                  refine lv_iconst (v := 4) hx hb dL_errors_109 (by decide) ?_
                  refine lv_iconst (v := 1) hx hb dL_errors_110 (by decide) ?_
                  refine r_calli (F := EC cA o) (va_runV (As := [.int (4 : Int32), .int (1 : Int32)]) (rest := []) C.1 (c_X9_credit l D cA o _ _ u78 _ h) (cwV 2 C.1.2.2.2.2 gL_errors_X9_credit rfl rfl rfl (by decide +kernel) ⟨Nat.le_of_ble_eq_true rfl, Nat.le_of_ble_eq_true rfl⟩) (r_preV C P [.int (4 : Int32), .int (1 : Int32)] (ci := 9) rfl (kd_lt kd_at_0 (by decide)) (EK_9 kd_at_0)) rfl rfl hl.1 rfl (lv_room (Nat.le_of_ble_eq_true rfl)) dL_errors_111 ⟨Nat.le_of_ble_eq_true rfl, Nat.le_of_ble_eq_true rfl⟩) P.2 (fun r82 u81 H locs h P => ?_)
                  refine lv_iconst (v := -1) hx hb dL_errors_114 (by decide) ?_
                  refine lv_icmp_ne (tgt := 177) hx hb dL_errors_115 (by decide) (fun c83 => ?_) (fun c83 => ?_)
                  · have h := ite_f h c83
                    exact t_L_errors_177 C _ _ u81 _ _ _ P (lv_sub hl [2, 1, 0] rfl) h
                  · have h := ite_t h c83
                    refine lv_aload_n hx hb dL_errors_118 rfl (lv_at hl 2 rfl) ?_
                    refine lv_iconst (v := 0) hx hb dL_errors_119 (by decide) ?_
                    refine lv_iconst (v := 0) hx hb dL_errors_120 (by decide) ?_
                    refine r_calli (F := EC cA o) (va_runV (As := [.int (0 : Int32), .int (0 : Int32)]) (rest := []) C.1 (c_X9_credit l D cA o _ _ u81 _ h) (cwV 2 C.1.2.2.2.2 gL_errors_X9_credit rfl rfl rfl (by decide +kernel) ⟨Nat.le_of_ble_eq_true rfl, Nat.le_of_ble_eq_true rfl⟩) (r_preV C P [.int (0 : Int32), .int (0 : Int32)] (ci := 9) rfl (kd_lt kd_at_0 (by decide)) (EK_9 kd_at_0)) rfl rfl hl.1 rfl (lv_room (Nat.le_of_ble_eq_true rfl)) dL_errors_121 ⟨Nat.le_of_ble_eq_true rfl, Nat.le_of_ble_eq_true rfl⟩) P.2 (fun r85 u84 H locs h P => ?_)
                    refine lv_bipush (v := -2) hx hb dL_errors_124 (by decide) ?_
                    refine lv_icmp_ne (tgt := 177) hx hb dL_errors_126 (by decide) (fun c86 => ?_) (fun c86 => ?_)
                    · have h := ite_f h c86
                      exact t_L_errors_177 C _ _ u84 _ _ _ P (lv_sub hl [2, 1, 0] rfl) h
                    · have h := ite_t h c86
                      refine lv_aload_n hx hb dL_errors_129 rfl (lv_at hl 2 rfl) ?_
                      refine lv_iconst (v := 0) hx hb dL_errors_130 (by decide) ?_
                      refine lv_ldc (v := 100001) hx hb C.1.2.2.2.1 (C.1.2.2.2.2 _ wd_L_errors_1) dL_errors_131 ?_
                      refine r_calli (F := EC cA o) (va_runV (As := [.int (0 : Int32), .int (100001 : Int32)]) (rest := []) C.1 (c_X9_credit l D cA o _ _ u84 _ h) (cwV 2 C.1.2.2.2.2 gL_errors_X9_credit rfl rfl rfl (by decide +kernel) ⟨Nat.le_of_ble_eq_true rfl, Nat.le_of_ble_eq_true rfl⟩) (r_preV C P [.int (0 : Int32), .int (100001 : Int32)] (ci := 9) rfl (kd_lt kd_at_0 (by decide)) (EK_9 kd_at_0)) rfl rfl hl.1 rfl (lv_room (Nat.le_of_ble_eq_true rfl)) dL_errors_133 ⟨Nat.le_of_ble_eq_true rfl, Nat.le_of_ble_eq_true rfl⟩) P.2 (fun r88 u87 H locs h P => ?_)
                      refine lv_bipush (v := -2) hx hb dL_errors_136 (by decide) ?_
                      refine lv_icmp_ne (tgt := 177) hx hb dL_errors_138 (by decide) (fun c89 => ?_) (fun c89 => ?_)
                      · have h := ite_f h c89
                        exact t_L_errors_177 C _ _ u87 _ _ _ P (lv_sub hl [2, 1, 0] rfl) h
                      · have h := ite_t h c89
                        refine lv_aload_n hx hb dL_errors_141 rfl (lv_at hl 2 rfl) ?_
                        refine lv_iconst (v := 4) hx hb dL_errors_142 (by decide) ?_
                        refine r_calli (F := EC cA o) (va_runV (As := [.int (4 : Int32)]) (rest := []) C.1 (c_X9_addPass l D cA o _ u87 _ h) (cwV 1 C.1.2.2.2.2 gL_errors_X9_addPass rfl rfl rfl (by decide +kernel) ⟨Nat.le_of_ble_eq_true rfl, Nat.le_of_ble_eq_true rfl⟩) (r_preV C P [.int (4 : Int32)] (ci := 9) rfl (kd_lt kd_at_0 (by decide)) (EK_9 kd_at_0)) rfl rfl hl.1 rfl (lv_room (Nat.le_of_ble_eq_true rfl)) dL_errors_143 ⟨Nat.le_of_ble_eq_true rfl, Nat.le_of_ble_eq_true rfl⟩) P.2 (fun r91 u90 H locs h P => ?_)
                        refine lv_iconst (v := -1) hx hb dL_errors_146 (by decide) ?_
                        refine lv_icmp_ne (tgt := 177) hx hb dL_errors_147 (by decide) (fun c92 => ?_) (fun c92 => ?_)
                        · have h := ite_f h c92
                          exact t_L_errors_177 C _ _ u90 _ _ _ P (lv_sub hl [2, 1, 0] rfl) h
                        · have h := ite_t h c92
                          refine lv_aload_n hx hb dL_errors_150 rfl (lv_at hl 2 rfl) ?_
                          refine lv_bipush (v := 12) hx hb dL_errors_151 (by decide) ?_
                          refine lv_iconst (v := 1) hx hb dL_errors_153 (by decide) ?_
                          refine r_calli (F := EC cA o) (va_runV (As := [.int (12 : Int32), .int (1 : Int32)]) (rest := []) C.1 (c_X9_block l D cA o _ _ u90 _ h) (cwV 2 C.1.2.2.2.2 gL_errors_X9_block rfl rfl rfl (by decide +kernel) ⟨Nat.le_of_ble_eq_true rfl, Nat.le_of_ble_eq_true rfl⟩) (r_preV C P [.int (12 : Int32), .int (1 : Int32)] (ci := 9) rfl (kd_lt kd_at_0 (by decide)) (EK_9 kd_at_0)) rfl rfl hl.1 rfl (lv_room (Nat.le_of_ble_eq_true rfl)) dL_errors_154 ⟨Nat.le_of_ble_eq_true rfl, Nat.le_of_ble_eq_true rfl⟩) P.2 (fun r94 u93 H locs h P => ?_)
                          refine lv_iconst (v := -1) hx hb dL_errors_157 (by decide) ?_
                          refine lv_icmp_ne (tgt := 177) hx hb dL_errors_158 (by decide) (fun c95 => ?_) (fun c95 => ?_)
                          · have h := ite_f h c95
                            exact t_L_errors_177 C _ _ u93 _ _ _ P (lv_sub hl [2, 1, 0] rfl) h
                          · have h := ite_t h c95
                            refine lv_aload_n hx hb dL_errors_161 rfl (lv_at hl 2 rfl) ?_
                            refine lv_sipush (v := 1001) hx hb dL_errors_162 (by decide) ?_
                            refine r_calli (F := EC cA o) (va_runV (As := [.int (1001 : Int32)]) (rest := []) C.1 (c_X9_setFare l D cA o _ u93 _ h) (cwV 1 C.1.2.2.2.2 gL_errors_X9_setFare rfl rfl rfl (by decide +kernel) ⟨Nat.le_of_ble_eq_true rfl, Nat.le_of_ble_eq_true rfl⟩) (r_preV C P [.int (1001 : Int32)] (ci := 9) rfl (kd_lt kd_at_0 (by decide)) (EK_9 kd_at_0)) rfl rfl hl.1 rfl (lv_room (Nat.le_of_ble_eq_true rfl)) dL_errors_165 ⟨Nat.le_of_ble_eq_true rfl, Nat.le_of_ble_eq_true rfl⟩) P.2 (fun r97 u96 H locs h P => ?_)
                            refine lv_bipush (v := -2) hx hb dL_errors_168 (by decide) ?_
                            refine lv_icmp_ne (tgt := 177) hx hb dL_errors_170 (by decide) (fun c98 => ?_) (fun c98 => ?_)
                            · have h := ite_f h c98
                              exact t_L_errors_177 C _ _ u96 _ _ _ P (lv_sub hl [2, 1, 0] rfl) h
                            · have h := ite_t h c98
                              refine lv_iconst (v := 1) hx hb dL_errors_173 (by decide) ?_
                              refine lv_goto (tgt := 178) hx hb dL_errors_174 (by decide) ?_
                              exact t_L_errors_178 C _ _ _ u96 _ _ _ P (lv_sub hl [2, 1, 0] rfl) h
set_option maxHeartbeats 4000000 in
set_option maxRecDepth 100000 in
theorem c_L_errors (l : Launch) (D : va_G) (cA : Nat → ClassId) (o : Nat)   (u0 : Mm) (Φ : Int32 → Mm → Prop) (h : w_L_errors u0 Φ) : Met l yL_errors wsL_errors rm_L_errors (va_Pc [.ref (o + 0)] (Wd 747 o D (tysL cA) (EC cA o u0))) (Qg vI Φ (fun μ => Wd 747 o D (tysL cA) (EC cA o μ)) (aA o 747)) 0 0 (aA o 747) := by
  refine Met.ofW (cc := cL_errors) (maxL := 4) (ret := (some .boolean)) (by decide) rfl ?_
  intro p e s m args below meth c s₁ B hml hv
  obtain ⟨rfl, hv⟩ := hv
  have hl := lv_entry ([.ref (o + 0)]) (n := 4) (Nat.le_of_ble_eq_true rfl)
  rw [lg_entry_eq]
  exact t_L_errors_0 ⟨⟨B.exec, B.bytes, hml, findClass_of_methodNamed B.named, atoms_spec (ws := wsL_errors) B.pre⟩, B.returns, B.notSynchronized, hv.2⟩ u0 _ _ _ ⟨hv.1, va_S.rf⟩ hl h
