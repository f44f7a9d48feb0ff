abbrev rm_X9_credit : Room := { frames := 5, cells := 0, slots := 0, locals := 125 }
theorem wd_X9_credit_1 : Cond.fieldLink RX9 22 "TurnstileBank" "history" "LTurnstileBank$History;" ∈ wsX9_credit := List.mem_of_getElem? (i := 1) (by decide +kernel)
theorem wd_X9_credit_2 : Cond.fieldLink RX9 10 "TurnstileBank" "now" "LTurnstileBank$State;" ∈ wsX9_credit := List.mem_of_getElem? (i := 2) (by decide +kernel)
theorem in_X9_credit_9 : ∀ w ∈ wsX90, w ∈ wsX9_credit := fun w h => List.mem_cons_of_mem _ (List.mem_append_left _ (List.mem_append_left _ (List.mem_append_left _ (List.mem_append_left _ (List.mem_append_left _ (List.mem_append_left _ (List.mem_append_left _ (List.mem_append_left _ (List.mem_append_right _ h)))))))))
def w_X9_credit (a1 : Int32) (a2 : Int32) (u0 : Mm) (Φ : Int32 → Mm → Prop) : Prop := (w_X2_prepare 1 u0 (fun _ u1 => (w_X8_addCredit 1 a1 a2 u1 (fun r4 u3 => (w_X9_recorded r4 u3 (fun r6 u5 => (Φ r6 u5)))))))
set_option maxHeartbeats 4000000 in
set_option maxRecDepth 100000 in
theorem t_X9_credit_0 {p : Program} {l : Launch} {e : Env} {s : State} {m : MethodId} {args : Array Value} {below : List Frame} {meth : Method} {c : Code} {D : va_G} {cA : Nat → ClassId} {o : Nat}  {Φ : Int32 → Mm → Prop} (C : Cx p m meth c s args cX9_credit 3 wsX9_credit RX9 (some .int) D (tysL cA)) : ∀ (a1 : Int32) (a2 : Int32) (u0 : Mm), ∀ (H : Heap) (locs : List Loc) (ls : Array Slot), Hp 747 o D (EC cA o u0) s H locs → lv_has ls 3 [(0, .ref (o + 0)), (1, .int a1), (2, .int a2)] → w_X9_credit a1 a2 u0 Φ → W p l e rm_X9_credit s m args below meth c H locs 0 0 (MQ below (Qg vI Φ (fun μ => Wd 747 o D (tysL cA) (EC cA o μ)) (aA o 747)) args s 0 0 (aA o 747)) (F0 m 0 ls []) := by
  intro a1 a2 u0 H locs ls P hl h
  have hx := C.1.1
  have hb := C.1.2.1
  unfold w_X9_credit at h
  refine lv_aload_n hx hb dX9_credit_0 rfl (lv_at hl 0 rfl) ?_
  refine g_9_2 C P in_X9_credit_9 wd_X9_credit_1 kd_at_0 dX9_credit_1 ?_
  refine lv_aload_n hx hb dX9_credit_4 rfl (lv_at hl 0 rfl) ?_
  refine g_9_0 C P in_X9_credit_9 wd_X9_credit_2 kd_at_0 dX9_credit_5 ?_
  refine r_callv (F := EC cA o) (va_runV (As := [.ref (o + 1)]) (rest := []) C.1 (c_X2_prepare l D cA o _ kd_at_1 u0 _ h) (cwV 1 C.1.2.2.2.2 gX9_credit_X2_prepare rfl rfl rfl (by decide +kernel) ⟨Nat.le_of_ble_eq_true rfl, Nat.le_of_ble_eq_true rfl⟩) (r_preV C P [.ref (o + 1)] (ci := 2) rfl (kd_lt kd_at_213 (by decide)) (EK_2 kd_at_213)) rfl rfl hl.1 rfl (lv_room (Nat.le_of_ble_eq_true rfl)) dX9_credit_8 ⟨Nat.le_of_ble_eq_true rfl, Nat.le_of_ble_eq_true rfl⟩) P.2 (fun u1 H locs h P => ?_)
  refine lv_aload_n hx hb dX9_credit_11 rfl (lv_at hl 0 rfl) ?_
  refine lv_aload_n hx hb dX9_credit_12 rfl (lv_at hl 0 rfl) ?_
  refine g_9_0 C P in_X9_credit_9 wd_X9_credit_2 kd_at_0 dX9_credit_13 ?_
  refine lv_iload_n hx hb dX9_credit_16 rfl (lv_at hl 1 rfl) ?_
  refine lv_iload_n hx hb dX9_credit_17 rfl (lv_at hl 2 rfl) ?_
  refine r_calli (F := EC cA o) (va_runV (As := [.int a1, .int a2]) (rest := [.ref (o + 0)]) C.1 (c_X8_addCredit l D cA o _ _ _ kd_at_1 u1 _ h) (cwV 2 C.1.2.2.2.2 gX9_credit_X8_addCredit rfl rfl rfl (by decide +kernel) ⟨Nat.le_of_ble_eq_true rfl, Nat.le_of_ble_eq_true rfl⟩) (r_preV C P [.int a1, .int a2] (ci := 8) rfl (kd_lt kd_at_1 (by decide)) (EK_8 kd_at_1)) rfl rfl hl.1 rfl (lv_room (Nat.le_of_ble_eq_true rfl)) dX9_credit_18 ⟨Nat.le_of_ble_eq_true rfl, Nat.le_of_ble_eq_true rfl⟩) P.2 (fun r4 u3 H locs h P => ?_)
  refine r_calli (F := EC cA o) (va_runV (As := [.int r4]) (rest := []) C.1 (c_X9_recorded l D cA o _ u3 _ h) (cwV 1 C.1.2.2.2.2 gX9_credit_X9_recorded rfl rfl rfl (by decide +kernel) ⟨Nat.le_of_ble_eq_true rfl, Nat.le_of_ble_eq_true rfl⟩) (r_preV C P [.int r4] (ci := 9) rfl (kd_lt kd_at_0 (by decide)) (EK_9 kd_at_0)) rfl rfl hl.1 rfl (lv_room (Nat.le_of_ble_eq_true rfl)) dX9_credit_21 ⟨Nat.le_of_ble_eq_true rfl, Nat.le_of_ble_eq_true rfl⟩) P.2 (fun r6 u5 H locs h P => ?_)
  exact r_ireti C P h dX9_credit_24
set_option maxHeartbeats 4000000 in
set_option maxRecDepth 100000 in
theorem c_X9_credit (l : Launch) (D : va_G) (cA : Nat → ClassId) (o : Nat) (a1 : Int32) (a2 : Int32)  (u0 : Mm) (Φ : Int32 → Mm → Prop) (h : w_X9_credit a1 a2 u0 Φ) : Met l yX9_credit wsX9_credit rm_X9_credit (va_Pc [.ref (o + 0), .int a1, .int a2] (Wd 747 o D (tysL cA) (EC cA o u0))) (Qg vI Φ (fun μ => Wd 747 o D (tysL cA) (EC cA o μ)) (aA o 747)) 0 0 (aA o 747) := by
  refine Met.ofW (cc := cX9_credit) (maxL := 3) (ret := (some .int)) (by decide) rfl ?_
  intro p e s m args below meth c s₁ B hml hv
  obtain ⟨rfl, hv⟩ := hv
  have hl := lv_entry ([.ref (o + 0), .int a1, .int a2]) (n := 3) (Nat.le_of_ble_eq_true rfl)
  rw [lg_entry_eq]
  exact t_X9_credit_0 ⟨⟨B.exec, B.bytes, hml, findClass_of_methodNamed B.named, atoms_spec (ws := wsX9_credit) B.pre⟩, B.returns, B.notSynchronized, hv.2⟩ a1 a2 u0 _ _ _ ⟨hv.1, va_S.rf⟩ hl h
abbrev rm_X9_addPass : Room := { frames := 5, cells := 0, slots := 0, locals := 125 }
theorem wd_X9_addPass_1 : Cond.fieldLink RX9 22 "TurnstileBank" "history" "LTurnstileBank$History;" ∈ wsX9_addPass := List.mem_of_getElem? (i := 1) (by decide +kernel)
theorem wd_X9_addPass_2 : Cond.fieldLink RX9 10 "TurnstileBank" "now" "LTurnstileBank$State;" ∈ wsX9_addPass := List.mem_of_getElem? (i := 2) (by decide +kernel)
theorem in_X9_addPass_9 : ∀ w ∈ wsX90, w ∈ wsX9_addPass := fun w h => List.mem_cons_of_mem _ (List.mem_append_left _ (List.mem_append_left _ (List.mem_append_left _ (List.mem_append_left _ (List.mem_append_left _ (List.mem_append_left _ (List.mem_append_left _ (List.mem_append_left _ (List.mem_append_right _ h)))))))))
def w_X9_addPass (a1 : Int32) (u0 : Mm) (Φ : Int32 → Mm → Prop) : Prop := (w_X2_prepare 1 u0 (fun _ u1 => (w_X8_newPass 1 a1 u1 (fun r4 u3 => (w_X9_recorded r4 u3 (fun r6 u5 => (Φ r6 u5)))))))
set_option maxHeartbeats 4000000 in
set_option maxRecDepth 100000 in
theorem t_X9_addPass_0 {p : Program} {l : Launch} {e : Env} {s : State} {m : MethodId} {args : Array Value} {below : List Frame} {meth : Method} {c : Code} {D : va_G} {cA : Nat → ClassId} {o : Nat}  {Φ : Int32 → Mm → Prop} (C : Cx p m meth c s args cX9_addPass 2 wsX9_addPass RX9 (some .int) D (tysL cA)) : ∀ (a1 : Int32) (u0 : Mm), ∀ (H : Heap) (locs : List Loc) (ls : Array Slot), Hp 747 o D (EC cA o u0) s H locs → lv_has ls 2 [(0, .ref (o + 0)), (1, .int a1)] → w_X9_addPass a1 u0 Φ → W p l e rm_X9_addPass s m args below meth c H locs 0 0 (MQ below (Qg vI Φ (fun μ => Wd 747 o D (tysL cA) (EC cA o μ)) (aA o 747)) args s 0 0 (aA o 747)) (F0 m 0 ls []) := by
  intro a1 u0 H locs ls P hl h
  have hx := C.1.1
  have hb := C.1.2.1
  unfold w_X9_addPass at h
  refine lv_aload_n hx hb dX9_addPass_0 rfl (lv_at hl 0 rfl) ?_
  refine g_9_2 C P in_X9_addPass_9 wd_X9_addPass_1 kd_at_0 dX9_addPass_1 ?_
  refine lv_aload_n hx hb dX9_addPass_4 rfl (lv_at hl 0 rfl) ?_
  refine g_9_0 C P in_X9_addPass_9 wd_X9_addPass_2 kd_at_0 dX9_addPass_5 ?_
  refine r_callv (F := EC cA o) (va_runV (As := [.ref (o + 1)]) (rest := []) C.1 (c_X2_prepare l D cA o _ kd_at_1 u0 _ h) (cwV 1 C.1.2.2.2.2 gX9_addPass_X2_prepare rfl rfl rfl (by decide +kernel) ⟨Nat.le_of_ble_eq_true rfl, Nat.le_of_ble_eq_true rfl⟩) (r_preV C P [.ref (o + 1)] (ci := 2) rfl (kd_lt kd_at_213 (by decide)) (EK_2 kd_at_213)) rfl rfl hl.1 rfl (lv_room (Nat.le_of_ble_eq_true rfl)) dX9_addPass_8 ⟨Nat.le_of_ble_eq_true rfl, Nat.le_of_ble_eq_true rfl⟩) P.2 (fun u1 H locs h P => ?_)
  refine lv_aload_n hx hb dX9_addPass_11 rfl (lv_at hl 0 rfl) ?_
  refine lv_aload_n hx hb dX9_addPass_12 rfl (lv_at hl 0 rfl) ?_
  refine g_9_0 C P in_X9_addPass_9 wd_X9_addPass_2 kd_at_0 dX9_addPass_13 ?_
  refine lv_iload_n hx hb dX9_addPass_16 rfl (lv_at hl 1 rfl) ?_
  refine r_calli (F := EC cA o) (va_runV (As := [.int a1]) (rest := [.ref (o + 0)]) C.1 (c_X8_newPass l D cA o _ _ kd_at_1 u1 _ h) (cwV 1 C.1.2.2.2.2 gX9_addPass_X8_newPass rfl rfl rfl (by decide +kernel) ⟨Nat.le_of_ble_eq_true rfl, Nat.le_of_ble_eq_true rfl⟩) (r_preV C P [.int a1] (ci := 8) rfl (kd_lt kd_at_1 (by decide)) (EK_8 kd_at_1)) rfl rfl hl.1 rfl (lv_room (Nat.le_of_ble_eq_true rfl)) dX9_addPass_17 ⟨Nat.le_of_ble_eq_true rfl, Nat.le_of_ble_eq_true rfl⟩) P.2 (fun r4 u3 H locs h P => ?_)
  refine r_calli (F := EC cA o) (va_runV (As := [.int r4]) (rest := []) C.1 (c_X9_recorded l D cA o _ u3 _ h) (cwV 1 C.1.2.2.2.2 gX9_addPass_X9_recorded rfl rfl rfl (by decide +kernel) ⟨Nat.le_of_ble_eq_true rfl, Nat.le_of_ble_eq_true rfl⟩) (r_preV C P [.int r4] (ci := 9) rfl (kd_lt kd_at_0 (by decide)) (EK_9 kd_at_0)) rfl rfl hl.1 rfl (lv_room (Nat.le_of_ble_eq_true rfl)) dX9_addPass_20 ⟨Nat.le_of_ble_eq_true rfl, Nat.le_of_ble_eq_true rfl⟩) P.2 (fun r6 u5 H locs h P => ?_)
  exact r_ireti C P h dX9_addPass_23
set_option maxHeartbeats 4000000 in
set_option maxRecDepth 100000 in
theorem c_X9_addPass (l : Launch) (D : va_G) (cA : Nat → ClassId) (o : Nat) (a1 : Int32)  (u0 : Mm) (Φ : Int32 → Mm → Prop) (h : w_X9_addPass a1 u0 Φ) : Met l yX9_addPass wsX9_addPass rm_X9_addPass (va_Pc [.ref (o + 0), .int a1] (Wd 747 o D (tysL cA) (EC cA o u0))) (Qg vI Φ (fun μ => Wd 747 o D (tysL cA) (EC cA o μ)) (aA o 747)) 0 0 (aA o 747) := by
  refine Met.ofW (cc := cX9_addPass) (maxL := 2) (ret := (some .int)) (by decide) rfl ?_
  intro p e s m args below meth c s₁ B hml hv
  obtain ⟨rfl, hv⟩ := hv
  have hl := lv_entry ([.ref (o + 0), .int a1]) (n := 2) (Nat.le_of_ble_eq_true rfl)
  rw [lg_entry_eq]
  exact t_X9_addPass_0 ⟨⟨B.exec, B.bytes, hml, findClass_of_methodNamed B.named, atoms_spec (ws := wsX9_addPass) B.pre⟩, B.returns, B.notSynchronized, hv.2⟩ a1 u0 _ _ _ ⟨hv.1, va_S.rf⟩ hl h
abbrev rm_X9_block : Room := { frames := 5, cells := 0, slots := 0, locals := 125 }
theorem wd_X9_block_1 : Cond.fieldLink RX9 22 "TurnstileBank" "history" "LTurnstileBank$History;" ∈ wsX9_block := List.mem_of_getElem? (i := 1) (by decide +kernel)
theorem wd_X9_block_2 : Cond.fieldLink RX9 10 "TurnstileBank" "now" "LTurnstileBank$State;" ∈ wsX9_block := List.mem_of_getElem? (i := 2) (by decide +kernel)
theorem in_X9_block_9 : ∀ w ∈ wsX90, w ∈ wsX9_block := fun w h => List.mem_cons_of_mem _ (List.mem_append_left _ (List.mem_append_left _ (List.mem_append_left _ (List.mem_append_left _ (List.mem_append_left _ (List.mem_append_left _ (List.mem_append_left _ (List.mem_append_left _ (List.mem_append_right _ h)))))))))
def w_X9_block (a1 : Int32) (a2 : Int32) (u0 : Mm) (Φ : Int32 → Mm → Prop) : Prop := (w_X2_prepare 1 u0 (fun _ u1 => (w_X8_markPass 1 a1 a2 u1 (fun r4 u3 => (w_X9_recorded r4 u3 (fun r6 u5 => (Φ r6 u5)))))))
set_option maxHeartbeats 4000000 in
set_option maxRecDepth 100000 in
theorem t_X9_block_0 {p : Program} {l : Launch} {e : Env} {s : State} {m : MethodId} {args : Array Value} {below : List Frame} {meth : Method} {c : Code} {D : va_G} {cA : Nat → ClassId} {o : Nat}  {Φ : Int32 → Mm → Prop} (C : Cx p m meth c s args cX9_block 3 wsX9_block RX9 (some .int) D (tysL cA)) : ∀ (a1 : Int32) (a2 : Int32) (u0 : Mm), ∀ (H : Heap) (locs : List Loc) (ls : Array Slot), Hp 747 o D (EC cA o u0) s H locs → lv_has ls 3 [(0, .ref (o + 0)), (1, .int a1), (2, .int a2)] → w_X9_block a1 a2 u0 Φ → W p l e rm_X9_block s m args below meth c H locs 0 0 (MQ below (Qg vI Φ (fun μ => Wd 747 o D (tysL cA) (EC cA o μ)) (aA o 747)) args s 0 0 (aA o 747)) (F0 m 0 ls []) := by
  intro a1 a2 u0 H locs ls P hl h
  have hx := C.1.1
  have hb := C.1.2.1
  unfold w_X9_block at h
  refine lv_aload_n hx hb dX9_block_0 rfl (lv_at hl 0 rfl) ?_
  refine g_9_2 C P in_X9_block_9 wd_X9_block_1 kd_at_0 dX9_block_1 ?_
  refine lv_aload_n hx hb dX9_block_4 rfl (lv_at hl 0 rfl) ?_
  refine g_9_0 C P in_X9_block_9 wd_X9_block_2 kd_at_0 dX9_block_5 ?_
  refine r_callv (F := EC cA o) (va_runV (As := [.ref (o + 1)]) (rest := []) C.1 (c_X2_prepare l D cA o _ kd_at_1 u0 _ h) (cwV 1 C.1.2.2.2.2 gX9_block_X2_prepare rfl rfl rfl (by decide +kernel) ⟨Nat.le_of_ble_eq_true rfl, Nat.le_of_ble_eq_true rfl⟩) (r_preV C P [.ref (o + 1)] (ci := 2) rfl (kd_lt kd_at_213 (by decide)) (EK_2 kd_at_213)) rfl rfl hl.1 rfl (lv_room (Nat.le_of_ble_eq_true rfl)) dX9_block_8 ⟨Nat.le_of_ble_eq_true rfl, Nat.le_of_ble_eq_true rfl⟩) P.2 (fun u1 H locs h P => ?_)
  refine lv_aload_n hx hb dX9_block_11 rfl (lv_at hl 0 rfl) ?_
  refine lv_aload_n hx hb dX9_block_12 rfl (lv_at hl 0 rfl) ?_
  refine g_9_0 C P in_X9_block_9 wd_X9_block_2 kd_at_0 dX9_block_13 ?_
  refine lv_iload_n hx hb dX9_block_16 rfl (lv_at hl 1 rfl) ?_
  refine lv_iload_n hx hb dX9_block_17 rfl (lv_at hl 2 rfl) ?_
  refine r_calli (F := EC cA o) (va_runV (As := [.int a1, .int a2]) (rest := [.ref (o + 0)]) C.1 (c_X8_markPass l D cA o _ _ _ kd_at_1 u1 _ h) (cwV 2 C.1.2.2.2.2 gX9_block_X8_markPass rfl rfl rfl (by decide +kernel) ⟨Nat.le_of_ble_eq_true rfl, Nat.le_of_ble_eq_true rfl⟩) (r_preV C P [.int a1, .int a2] (ci := 8) rfl (kd_lt kd_at_1 (by decide)) (EK_8 kd_at_1)) rfl rfl hl.1 rfl (lv_room (Nat.le_of_ble_eq_true rfl)) dX9_block_18 ⟨Nat.le_of_ble_eq_true rfl, Nat.le_of_ble_eq_true rfl⟩) P.2 (fun r4 u3 H locs h P => ?_)
  refine r_calli (F := EC cA o) (va_runV (As := [.int r4]) (rest := []) C.1 (c_X9_recorded l D cA o _ u3 _ h) (cwV 1 C.1.2.2.2.2 gX9_block_X9_recorded rfl rfl rfl (by decide +kernel) ⟨Nat.le_of_ble_eq_true rfl, Nat.le_of_ble_eq_true rfl⟩) (r_preV C P [.int r4] (ci := 9) rfl (kd_lt kd_at_0 (by decide)) (EK_9 kd_at_0)) rfl rfl hl.1 rfl (lv_room (Nat.le_of_ble_eq_true rfl)) dX9_block_21 ⟨Nat.le_of_ble_eq_true rfl, Nat.le_of_ble_eq_true rfl⟩) P.2 (fun r6 u5 H locs h P => ?_)
  exact r_ireti C P h dX9_block_24
set_option maxHeartbeats 4000000 in
set_option maxRecDepth 100000 in
theorem c_X9_block (l : Launch) (D : va_G) (cA : Nat → ClassId) (o : Nat) (a1 : Int32) (a2 : Int32)  (u0 : Mm) (Φ : Int32 → Mm → Prop) (h : w_X9_block a1 a2 u0 Φ) : Met l yX9_block wsX9_block rm_X9_block (va_Pc [.ref (o + 0), .int a1, .int a2] (Wd 747 o D (tysL cA) (EC cA o u0))) (Qg vI Φ (fun μ => Wd 747 o D (tysL cA) (EC cA o μ)) (aA o 747)) 0 0 (aA o 747) := by
  refine Met.ofW (cc := cX9_block) (maxL := 3) (ret := (some .int)) (by decide) rfl ?_
  intro p e s m args below meth c s₁ B hml hv
  obtain ⟨rfl, hv⟩ := hv
  have hl := lv_entry ([.ref (o + 0), .int a1, .int a2]) (n := 3) (Nat.le_of_ble_eq_true rfl)
  rw [lg_entry_eq]
  exact t_X9_block_0 ⟨⟨B.exec, B.bytes, hml, findClass_of_methodNamed B.named, atoms_spec (ws := wsX9_block) B.pre⟩, B.returns, B.notSynchronized, hv.2⟩ a1 a2 u0 _ _ _ ⟨hv.1, va_S.rf⟩ hl h
abbrev rm_X9_setFare : Room := { frames := 5, cells := 0, slots := 0, locals := 125 }
theorem wd_X9_setFare_1 : Cond.fieldLink RX9 22 "TurnstileBank" "history" "LTurnstileBank$History;" ∈ wsX9_setFare := List.mem_of_getElem? (i := 1) (by decide +kernel)
theorem wd_X9_setFare_2 : Cond.fieldLink RX9 10 "TurnstileBank" "now" "LTurnstileBank$State;" ∈ wsX9_setFare := List.mem_of_getElem? (i := 2) (by decide +kernel)
theorem in_X9_setFare_9 : ∀ w ∈ wsX90, w ∈ wsX9_setFare := fun w h => List.mem_cons_of_mem _ (List.mem_append_left _ (List.mem_append_left _ (List.mem_append_left _ (List.mem_append_left _ (List.mem_append_left _ (List.mem_append_left _ (List.mem_append_left _ (List.mem_append_left _ (List.mem_append_right _ h)))))))))
def w_X9_setFare (a1 : Int32) (u0 : Mm) (Φ : Int32 → Mm → Prop) : Prop := (w_X2_prepare 1 u0 (fun _ u1 => (w_X8_changeFare 1 a1 u1 (fun r4 u3 => (w_X9_recorded r4 u3 (fun r6 u5 => (Φ r6 u5)))))))
set_option maxHeartbeats 4000000 in
set_option maxRecDepth 100000 in
theorem t_X9_setFare_0 {p : Program} {l : Launch} {e : Env} {s : State} {m : MethodId} {args : Array Value} {below : List Frame} {meth : Method} {c : Code} {D : va_G} {cA : Nat → ClassId} {o : Nat}  {Φ : Int32 → Mm → Prop} (C : Cx p m meth c s args cX9_setFare 2 wsX9_setFare RX9 (some .int) D (tysL cA)) : ∀ (a1 : Int32) (u0 : Mm), ∀ (H : Heap) (locs : List Loc) (ls : Array Slot), Hp 747 o D (EC cA o u0) s H locs → lv_has ls 2 [(0, .ref (o + 0)), (1, .int a1)] → w_X9_setFare a1 u0 Φ → W p l e rm_X9_setFare s m args below meth c H locs 0 0 (MQ below (Qg vI Φ (fun μ => Wd 747 o D (tysL cA) (EC cA o μ)) (aA o 747)) args s 0 0 (aA o 747)) (F0 m 0 ls []) := by
  intro a1 u0 H locs ls P hl h
  have hx := C.1.1
  have hb := C.1.2.1
  unfold w_X9_setFare at h
  refine lv_aload_n hx hb dX9_setFare_0 rfl (lv_at hl 0 rfl) ?_
  refine g_9_2 C P in_X9_setFare_9 wd_X9_setFare_1 kd_at_0 dX9_setFare_1 ?_
  refine lv_aload_n hx hb dX9_setFare_4 rfl (lv_at hl 0 rfl) ?_
  refine g_9_0 C P in_X9_setFare_9 wd_X9_setFare_2 kd_at_0 dX9_setFare_5 ?_
  refine r_callv (F := EC cA o) (va_runV (As := [.ref (o + 1)]) (rest := []) C.1 (c_X2_prepare l D cA o _ kd_at_1 u0 _ h) (cwV 1 C.1.2.2.2.2 gX9_setFare_X2_prepare rfl rfl rfl (by decide +kernel) ⟨Nat.le_of_ble_eq_true rfl, Nat.le_of_ble_eq_true rfl⟩) (r_preV C P [.ref (o + 1)] (ci := 2) rfl (kd_lt kd_at_213 (by decide)) (EK_2 kd_at_213)) rfl rfl hl.1 rfl (lv_room (Nat.le_of_ble_eq_true rfl)) dX9_setFare_8 ⟨Nat.le_of_ble_eq_true rfl, Nat.le_of_ble_eq_true rfl⟩) P.2 (fun u1 H locs h P => ?_)
  refine lv_aload_n hx hb dX9_setFare_11 rfl (lv_at hl 0 rfl) ?_
  refine lv_aload_n hx hb dX9_setFare_12 rfl (lv_at hl 0 rfl) ?_
  refine g_9_0 C P in_X9_setFare_9 wd_X9_setFare_2 kd_at_0 dX9_setFare_13 ?_
  refine lv_iload_n hx hb dX9_setFare_16 rfl (lv_at hl 1 rfl) ?_
  refine r_calli (F := EC cA o) (va_runV (As := [.int a1]) (rest := [.ref (o + 0)]) C.1 (c_X8_changeFare l D cA o _ _ kd_at_1 u1 _ h) (cwV 1 C.1.2.2.2.2 gX9_setFare_X8_changeFare rfl rfl rfl (by decide +kernel) ⟨Nat.le_of_ble_eq_true rfl, Nat.le_of_ble_eq_true rfl⟩) (r_preV C P [.int a1] (ci := 8) rfl (kd_lt kd_at_1 (by decide)) (EK_8 kd_at_1)) rfl rfl hl.1 rfl (lv_room (Nat.le_of_ble_eq_true rfl)) dX9_setFare_17 ⟨Nat.le_of_ble_eq_true rfl, Nat.le_of_ble_eq_true rfl⟩) P.2 (fun r4 u3 H locs h P => ?_)
  refine r_calli (F := EC cA o) (va_runV (As := [.int r4]) (rest := []) C.1 (c_X9_recorded l D cA o _ u3 _ h) (cwV 1 C.1.2.2.2.2 gX9_setFare_X9_recorded rfl rfl rfl (by decide +kernel) ⟨Nat.le_of_ble_eq_true rfl, Nat.le_of_ble_eq_true rfl⟩) (r_preV C P [.int r4] (ci := 9) rfl (kd_lt kd_at_0 (by decide)) (EK_9 kd_at_0)) rfl rfl hl.1 rfl (lv_room (Nat.le_of_ble_eq_true rfl)) dX9_setFare_20 ⟨Nat.le_of_ble_eq_true rfl, Nat.le_of_ble_eq_true rfl⟩) P.2 (fun r6 u5 H locs h P => ?_)
  exact r_ireti C P h dX9_setFare_23
set_option maxHeartbeats 4000000 in
set_option maxRecDepth 100000 in
theorem c_X9_setFare (l : Launch) (D : va_G) (cA : Nat → ClassId) (o : Nat) (a1 : Int32)  (u0 : Mm) (Φ : Int32 → Mm → Prop) (h : w_X9_setFare a1 u0 Φ) : Met l yX9_setFare wsX9_setFare rm_X9_setFare (va_Pc [.ref (o + 0), .int a1] (Wd 747 o D (tysL cA) (EC cA o u0))) (Qg vI Φ (fun μ => Wd 747 o D (tysL cA) (EC cA o μ)) (aA o 747)) 0 0 (aA o 747) := by
  refine Met.ofW (cc := cX9_setFare) (maxL := 2) (ret := (some .int)) (by decide) rfl ?_
  intro p e s m args below meth c s₁ B hml hv
  obtain ⟨rfl, hv⟩ := hv
  have hl := lv_entry ([.ref (o + 0), .int a1]) (n := 2) (Nat.le_of_ble_eq_true rfl)
  rw [lg_entry_eq]
  exact t_X9_setFare_0 ⟨⟨B.exec, B.bytes, hml, findClass_of_methodNamed B.named, atoms_spec (ws := wsX9_setFare) B.pre⟩, B.returns, B.notSynchronized, hv.2⟩ a1 u0 _ _ _ ⟨hv.1, va_S.rf⟩ hl h
abbrev rm_X9_enter : Room := { frames := 5, cells := 0, slots := 0, locals := 125 }
theorem wd_X9_enter_1 : Cond.fieldLink RX9 22 "TurnstileBank" "history" "LTurnstileBank$History;" ∈ wsX9_enter := List.mem_of_getElem? (i := 1) (by decide +kernel)
theorem wd_X9_enter_2 : Cond.fieldLink RX9 10 "TurnstileBank" "now" "LTurnstileBank$State;" ∈ wsX9_enter := List.mem_of_getElem? (i := 2) (by decide +kernel)
theorem in_X9_enter_9 : ∀ w ∈ wsX90, w ∈ wsX9_enter := fun w h => List.mem_cons_of_mem _ (List.mem_append_left _ (List.mem_append_left _ (List.mem_append_left _ (List.mem_append_left _ (List.mem_append_left _ (List.mem_append_left _ (List.mem_append_left _ (List.mem_append_left _ (List.mem_append_right _ h)))))))))
def w_X9_enter (a1 : Int32) (a2 : Int32) (a3 : Int32) (u0 : Mm) (Φ : Int32 → Mm → Prop) : Prop := (w_X2_prepare 1 u0 (fun _ u1 => (w_X8_comeIn 1 a1 a2 a3 u1 (fun r4 u3 => (w_X9_recorded r4 u3 (fun r6 u5 => (Φ r6 u5)))))))
set_option maxHeartbeats 4000000 in
set_option maxRecDepth 100000 in
theorem t_X9_enter_0 {p : Program} {l : Launch} {e : Env} {s : State} {m : MethodId} {args : Array Value} {below : List Frame} {meth : Method} {c : Code} {D : va_G} {cA : Nat → ClassId} {o : Nat}  {Φ : Int32 → Mm → Prop} (C : Cx p m meth c s args cX9_enter 4 wsX9_enter RX9 (some .int) D (tysL cA)) : ∀ (a1 : Int32) (a2 : Int32) (a3 : Int32) (u0 : Mm), ∀ (H : Heap) (locs : List Loc) (ls : Array Slot), Hp 747 o D (EC cA o u0) s H locs → lv_has ls 4 [(0, .ref (o + 0)), (1, .int a1), (2, .int a2), (3, .int a3)] → w_X9_enter a1 a2 a3 u0 Φ → W p l e rm_X9_enter s m args below meth c H locs 0 0 (MQ below (Qg vI Φ (fun μ => Wd 747 o D (tysL cA) (EC cA o μ)) (aA o 747)) args s 0 0 (aA o 747)) (F0 m 0 ls []) := by
  intro a1 a2 a3 u0 H locs ls P hl h
  have hx := C.1.1
  have hb := C.1.2.1
  unfold w_X9_enter at h
  refine lv_aload_n hx hb dX9_enter_0 rfl (lv_at hl 0 rfl) ?_
  refine g_9_2 C P in_X9_enter_9 wd_X9_enter_1 kd_at_0 dX9_enter_1 ?_
  refine lv_aload_n hx hb dX9_enter_4 rfl (lv_at hl 0 rfl) ?_
  refine g_9_0 C P in_X9_enter_9 wd_X9_enter_2 kd_at_0 dX9_enter_5 ?_
  refine r_callv (F := EC cA o) (va_runV (As := [.ref (o + 1)]) (rest := []) C.1 (c_X2_prepare l D cA o _ kd_at_1 u0 _ h) (cwV 1 C.1.2.2.2.2 gX9_enter_X2_prepare rfl rfl rfl (by decide +kernel) ⟨Nat.le_of_ble_eq_true rfl, Nat.le_of_ble_eq_true rfl⟩) (r_preV C P [.ref (o + 1)] (ci := 2) rfl (kd_lt kd_at_213 (by decide)) (EK_2 kd_at_213)) rfl rfl hl.1 rfl (lv_room (Nat.le_of_ble_eq_true rfl)) dX9_enter_8 ⟨Nat.le_of_ble_eq_true rfl, Nat.le_of_ble_eq_true rfl⟩) P.2 (fun u1 H locs h P => ?_)
  refine lv_aload_n hx hb dX9_enter_11 rfl (lv_at hl 0 rfl) ?_
  refine lv_aload_n hx hb dX9_enter_12 rfl (lv_at hl 0 rfl) ?_
  refine g_9_0 C P in_X9_enter_9 wd_X9_enter_2 kd_at_0 dX9_enter_13 ?_
  refine lv_iload_n hx hb dX9_enter_16 rfl (lv_at hl 1 rfl) ?_
  refine lv_iload_n hx hb dX9_enter_17 rfl (lv_at hl 2 rfl) ?_
  refine lv_iload_n hx hb dX9_enter_18 rfl (lv_at hl 3 rfl) ?_
  refine r_calli (F := EC cA o) (va_runV (As := [.int a1, .int a2, .int a3]) (rest := [.ref (o + 0)]) C.1 (c_X8_comeIn l D cA o _ _ _ _ kd_at_1 u1 _ h) (cwV 3 C.1.2.2.2.2 gX9_enter_X8_comeIn rfl rfl rfl (by decide +kernel) ⟨Nat.le_of_ble_eq_true rfl, Nat.le_of_ble_eq_true rfl⟩) (r_preV C P [.int a1, .int a2, .int a3] (ci := 8) rfl (kd_lt kd_at_1 (by decide)) (EK_8 kd_at_1)) rfl rfl hl.1 rfl (lv_room (Nat.le_of_ble_eq_true rfl)) dX9_enter_19 ⟨Nat.le_of_ble_eq_true rfl, Nat.le_of_ble_eq_true rfl⟩) P.2 (fun r4 u3 H locs h P => ?_)
  refine r_calli (F := EC cA o) (va_runV (As := [.int r4]) (rest := []) C.1 (c_X9_recorded l D cA o _ u3 _ h) (cwV 1 C.1.2.2.2.2 gX9_enter_X9_recorded rfl rfl rfl (by decide +kernel) ⟨Nat.le_of_ble_eq_true rfl, Nat.le_of_ble_eq_true rfl⟩) (r_preV C P [.int r4] (ci := 9) rfl (kd_lt kd_at_0 (by decide)) (EK_9 kd_at_0)) rfl rfl hl.1 rfl (lv_room (Nat.le_of_ble_eq_true rfl)) dX9_enter_22 ⟨Nat.le_of_ble_eq_true rfl, Nat.le_of_ble_eq_true rfl⟩) P.2 (fun r6 u5 H locs h P => ?_)
  exact r_ireti C P h dX9_enter_25
set_option maxHeartbeats 4000000 in
set_option maxRecDepth 100000 in
theorem c_X9_enter (l : Launch) (D : va_G) (cA : Nat → ClassId) (o : Nat) (a1 : Int32) (a2 : Int32) (a3 : Int32)  (u0 : Mm) (Φ : Int32 → Mm → Prop) (h : w_X9_enter a1 a2 a3 u0 Φ) : Met l yX9_enter wsX9_enter rm_X9_enter (va_Pc [.ref (o + 0), .int a1, .int a2, .int a3] (Wd 747 o D (tysL cA) (EC cA o u0))) (Qg vI Φ (fun μ => Wd 747 o D (tysL cA) (EC cA o μ)) (aA o 747)) 0 0 (aA o 747) := by
  refine Met.ofW (cc := cX9_enter) (maxL := 4) (ret := (some .int)) (by decide) rfl ?_
  intro p e s m args below meth c s₁ B hml hv
  obtain ⟨rfl, hv⟩ := hv
  have hl := lv_entry ([.ref (o + 0), .int a1, .int a2, .int a3]) (n := 4) (Nat.le_of_ble_eq_true rfl)
  rw [lg_entry_eq]
  exact t_X9_enter_0 ⟨⟨B.exec, B.bytes, hml, findClass_of_methodNamed B.named, atoms_spec (ws := wsX9_enter) B.pre⟩, B.returns, B.notSynchronized, hv.2⟩ a1 a2 a3 u0 _ _ _ ⟨hv.1, va_S.rf⟩ hl h
abbrev rm_X9_exit : Room := { frames := 5, cells := 0, slots := 0, locals := 125 }
theorem wd_X9_exit_1 : Cond.fieldLink RX9 22 "TurnstileBank" "history" "LTurnstileBank$History;" ∈ wsX9_exit := List.mem_of_getElem? (i := 1) (by decide +kernel)
theorem wd_X9_exit_2 : Cond.fieldLink RX9 10 "TurnstileBank" "now" "LTurnstileBank$State;" ∈ wsX9_exit := List.mem_of_getElem? (i := 2) (by decide +kernel)
theorem in_X9_exit_9 : ∀ w ∈ wsX90, w ∈ wsX9_exit := fun w h => List.mem_cons_of_mem _ (List.mem_append_left _ (List.mem_append_left _ (List.mem_append_left _ (List.mem_append_left _ (List.mem_append_left _ (List.mem_append_left _ (List.mem_append_left _ (List.mem_append_left _ (List.mem_append_right _ h)))))))))
def w_X9_exit (a1 : Int32) (a2 : Int32) (u0 : Mm) (Φ : Int32 → Mm → Prop) : Prop := (w_X2_prepare 1 u0 (fun _ u1 => (w_X8_goOut 1 a1 a2 u1 (fun r4 u3 => (w_X9_recorded r4 u3 (fun r6 u5 => (Φ r6 u5)))))))
set_option maxHeartbeats 4000000 in
set_option maxRecDepth 100000 in
theorem t_X9_exit_0 {p : Program} {l : Launch} {e : Env} {s : State} {m : MethodId} {args : Array Value} {below : List Frame} {meth : Method} {c : Code} {D : va_G} {cA : Nat → ClassId} {o : Nat}  {Φ : Int32 → Mm → Prop} (C : Cx p m meth c s args cX9_exit 3 wsX9_exit RX9 (some .int) D (tysL cA)) : ∀ (a1 : Int32) (a2 : Int32) (u0 : Mm), ∀ (H : Heap) (locs : List Loc) (ls : Array Slot), Hp 747 o D (EC cA o u0) s H locs → lv_has ls 3 [(0, .ref (o + 0)), (1, .int a1), (2, .int a2)] → w_X9_exit a1 a2 u0 Φ → W p l e rm_X9_exit s m args below meth c H locs 0 0 (MQ below (Qg vI Φ (fun μ => Wd 747 o D (tysL cA) (EC cA o μ)) (aA o 747)) args s 0 0 (aA o 747)) (F0 m 0 ls []) := by
  intro a1 a2 u0 H locs ls P hl h
  have hx := C.1.1
  have hb := C.1.2.1
  unfold w_X9_exit at h
  refine lv_aload_n hx hb dX9_exit_0 rfl (lv_at hl 0 rfl) ?_
  refine g_9_2 C P in_X9_exit_9 wd_X9_exit_1 kd_at_0 dX9_exit_1 ?_
  refine lv_aload_n hx hb dX9_exit_4 rfl (lv_at hl 0 rfl) ?_
  refine g_9_0 C P in_X9_exit_9 wd_X9_exit_2 kd_at_0 dX9_exit_5 ?_
  refine r_callv (F := EC cA o) (va_runV (As := [.ref (o + 1)]) (rest := []) C.1 (c_X2_prepare l D cA o _ kd_at_1 u0 _ h) (cwV 1 C.1.2.2.2.2 gX9_exit_X2_prepare rfl rfl rfl (by decide +kernel) ⟨Nat.le_of_ble_eq_true rfl, Nat.le_of_ble_eq_true rfl⟩) (r_preV C P [.ref (o + 1)] (ci := 2) rfl (kd_lt kd_at_213 (by decide)) (EK_2 kd_at_213)) rfl rfl hl.1 rfl (lv_room (Nat.le_of_ble_eq_true rfl)) dX9_exit_8 ⟨Nat.le_of_ble_eq_true rfl, Nat.le_of_ble_eq_true rfl⟩) P.2 (fun u1 H locs h P => ?_)
  refine lv_aload_n hx hb dX9_exit_11 rfl (lv_at hl 0 rfl) ?_
  refine lv_aload_n hx hb dX9_exit_12 rfl (lv_at hl 0 rfl) ?_
  refine g_9_0 C P in_X9_exit_9 wd_X9_exit_2 kd_at_0 dX9_exit_13 ?_
  refine lv_iload_n hx hb dX9_exit_16 rfl (lv_at hl 1 rfl) ?_
  refine lv_iload_n hx hb dX9_exit_17 rfl (lv_at hl 2 rfl) ?_
  refine r_calli (F := EC cA o) (va_runV (As := [.int a1, .int a2]) (rest := [.ref (o + 0)]) C.1 (c_X8_goOut l D cA o _ _ _ kd_at_1 u1 _ h) (cwV 2 C.1.2.2.2.2 gX9_exit_X8_goOut rfl rfl rfl (by decide +kernel) ⟨Nat.le_of_ble_eq_true rfl, Nat.le_of_ble_eq_true rfl⟩) (r_preV C P [.int a1, .int a2] (ci := 8) rfl (kd_lt kd_at_1 (by decide)) (EK_8 kd_at_1)) rfl rfl hl.1 rfl (lv_room (Nat.le_of_ble_eq_true rfl)) dX9_exit_18 ⟨Nat.le_of_ble_eq_true rfl, Nat.le_of_ble_eq_true rfl⟩) P.2 (fun r4 u3 H locs h P => ?_)
  refine r_calli (F := EC cA o) (va_runV (As := [.int r4]) (rest := []) C.1 (c_X9_recorded l D cA o _ u3 _ h) (cwV 1 C.1.2.2.2.2 gX9_exit_X9_recorded rfl rfl rfl (by decide +kernel) ⟨Nat.le_of_ble_eq_true rfl, Nat.le_of_ble_eq_true rfl⟩) (r_preV C P [.int r4] (ci := 9) rfl (kd_lt kd_at_0 (by decide)) (EK_9 kd_at_0)) rfl rfl hl.1 rfl (lv_room (Nat.le_of_ble_eq_true rfl)) dX9_exit_21 ⟨Nat.le_of_ble_eq_true rfl, Nat.le_of_ble_eq_true rfl⟩) P.2 (fun r6 u5 H locs h P => ?_)
  exact r_ireti C P h dX9_exit_24
set_option maxHeartbeats 4000000 in
set_option maxRecDepth 100000 in
theorem c_X9_exit (l : Launch) (D : va_G) (cA : Nat → ClassId) (o : Nat) (a1 : Int32) (a2 : Int32)  (u0 : Mm) (Φ : Int32 → Mm → Prop) (h : w_X9_exit a1 a2 u0 Φ) : Met l yX9_exit wsX9_exit rm_X9_exit (va_Pc [.ref (o + 0), .int a1, .int a2] (Wd 747 o D (tysL cA) (EC cA o u0))) (Qg vI Φ (fun μ => Wd 747 o D (tysL cA) (EC cA o μ)) (aA o 747)) 0 0 (aA o 747) := by
  refine Met.ofW (cc := cX9_exit) (maxL := 3) (ret := (some .int)) (by decide) rfl ?_
  intro p e s m args below meth c s₁ B hml hv
  obtain ⟨rfl, hv⟩ := hv
  have hl := lv_entry ([.ref (o + 0), .int a1, .int a2]) (n := 3) (Nat.le_of_ble_eq_true rfl)
  rw [lg_entry_eq]
  exact t_X9_exit_0 ⟨⟨B.exec, B.bytes, hml, findClass_of_methodNamed B.named, atoms_spec (ws := wsX9_exit) B.pre⟩, B.returns, B.notSynchronized, hv.2⟩ a1 a2 u0 _ _ _ ⟨hv.1, va_S.rf⟩ hl h
abbrev rm_X9_divert : Room := { frames := 5, cells := 0, slots := 0, locals := 125 }
theorem wd_X9_divert_1 : Cond.fieldLink RX9 22 "TurnstileBank" "history" "LTurnstileBank$History;" ∈ wsX9_divert := List.mem_of_getElem? (i := 1) (by decide +kernel)
theorem wd_X9_divert_2 : Cond.fieldLink RX9 10 "TurnstileBank" "now" "LTurnstileBank$State;" ∈ wsX9_divert := List.mem_of_getElem? (i := 2) (by decide +kernel)
theorem in_X9_divert_9 : ∀ w ∈ wsX90, w ∈ wsX9_divert := fun w h => List.mem_cons_of_mem _ (List.mem_append_left _ (List.mem_append_left _ (List.mem_append_left _ (List.mem_append_left _ (List.mem_append_left _ (List.mem_append_left _ (List.mem_append_left _ (List.mem_append_left _ (List.mem_append_right _ h)))))))))
def w_X9_divert (a1 : Int32) (a2 : Int32) (u0 : Mm) (Φ : Int32 → Mm → Prop) : Prop := (w_X2_prepare 1 u0 (fun _ u1 => (w_X8_moveQueues 1 a1 a2 u1 (fun r4 u3 => (w_X9_recorded r4 u3 (fun r6 u5 => (Φ r6 u5)))))))
set_option maxHeartbeats 4000000 in
set_option maxRecDepth 100000 in
theorem t_X9_divert_0 {p : Program} {l : Launch} {e : Env} {s : State} {m : MethodId} {args : Array Value} {below : List Frame} {meth : Method} {c : Code} {D : va_G} {cA : Nat → ClassId} {o : Nat}  {Φ : Int32 → Mm → Prop} (C : Cx p m meth c s args cX9_divert 3 wsX9_divert RX9 (some .int) D (tysL cA)) : ∀ (a1 : Int32) (a2 : Int32) (u0 : Mm), ∀ (H : Heap) (locs : List Loc) (ls : Array Slot), Hp 747 o D (EC cA o u0) s H locs → lv_has ls 3 [(0, .ref (o + 0)), (1, .int a1), (2, .int a2)] → w_X9_divert a1 a2 u0 Φ → W p l e rm_X9_divert s m args below meth c H locs 0 0 (MQ below (Qg vI Φ (fun μ => Wd 747 o D (tysL cA) (EC cA o μ)) (aA o 747)) args s 0 0 (aA o 747)) (F0 m 0 ls []) := by
  intro a1 a2 u0 H locs ls P hl h
  have hx := C.1.1
  have hb := C.1.2.1
  unfold w_X9_divert at h
  refine lv_aload_n hx hb dX9_divert_0 rfl (lv_at hl 0 rfl) ?_
  refine g_9_2 C P in_X9_divert_9 wd_X9_divert_1 kd_at_0 dX9_divert_1 ?_
  refine lv_aload_n hx hb dX9_divert_4 rfl (lv_at hl 0 rfl) ?_
  refine g_9_0 C P in_X9_divert_9 wd_X9_divert_2 kd_at_0 dX9_divert_5 ?_
  refine r_callv (F := EC cA o) (va_runV (As := [.ref (o + 1)]) (rest := []) C.1 (c_X2_prepare l D cA o _ kd_at_1 u0 _ h) (cwV 1 C.1.2.2.2.2 gX9_divert_X2_prepare rfl rfl rfl (by decide +kernel) ⟨Nat.le_of_ble_eq_true rfl, Nat.le_of_ble_eq_true rfl⟩) (r_preV C P [.ref (o + 1)] (ci := 2) rfl (kd_lt kd_at_213 (by decide)) (EK_2 kd_at_213)) rfl rfl hl.1 rfl (lv_room (Nat.le_of_ble_eq_true rfl)) dX9_divert_8 ⟨Nat.le_of_ble_eq_true rfl, Nat.le_of_ble_eq_true rfl⟩) P.2 (fun u1 H locs h P => ?_)
  refine lv_aload_n hx hb dX9_divert_11 rfl (lv_at hl 0 rfl) ?_
  refine lv_aload_n hx hb dX9_divert_12 rfl (lv_at hl 0 rfl) ?_
  refine g_9_0 C P in_X9_divert_9 wd_X9_divert_2 kd_at_0 dX9_divert_13 ?_
  refine lv_iload_n hx hb dX9_divert_16 rfl (lv_at hl 1 rfl) ?_
  refine lv_iload_n hx hb dX9_divert_17 rfl (lv_at hl 2 rfl) ?_
  refine r_calli (F := EC cA o) (va_runV (As := [.int a1, .int a2]) (rest := [.ref (o + 0)]) C.1 (c_X8_moveQueues l D cA o _ _ _ kd_at_1 u1 _ h) (cwV 2 C.1.2.2.2.2 gX9_divert_X8_moveQueues rfl rfl rfl (by decide +kernel) ⟨Nat.le_of_ble_eq_true rfl, Nat.le_of_ble_eq_true rfl⟩) (r_preV C P [.int a1, .int a2] (ci := 8) rfl (kd_lt kd_at_1 (by decide)) (EK_8 kd_at_1)) rfl rfl hl.1 rfl (lv_room (Nat.le_of_ble_eq_true rfl)) dX9_divert_18 ⟨Nat.le_of_ble_eq_true rfl, Nat.le_of_ble_eq_true rfl⟩) P.2 (fun r4 u3 H locs h P => ?_)
  refine r_calli (F := EC cA o) (va_runV (As := [.int r4]) (rest := []) C.1 (c_X9_recorded l D cA o _ u3 _ h) (cwV 1 C.1.2.2.2.2 gX9_divert_X9_recorded rfl rfl rfl (by decide +kernel) ⟨Nat.le_of_ble_eq_true rfl, Nat.le_of_ble_eq_true rfl⟩) (r_preV C P [.int r4] (ci := 9) rfl (kd_lt kd_at_0 (by decide)) (EK_9 kd_at_0)) rfl rfl hl.1 rfl (lv_room (Nat.le_of_ble_eq_true rfl)) dX9_divert_21 ⟨Nat.le_of_ble_eq_true rfl, Nat.le_of_ble_eq_true rfl⟩) P.2 (fun r6 u5 H locs h P => ?_)
  exact r_ireti C P h dX9_divert_24
set_option maxHeartbeats 4000000 in
set_option maxRecDepth 100000 in
theorem c_X9_divert (l : Launch) (D : va_G) (cA : Nat → ClassId) (o : Nat) (a1 : Int32) (a2 : Int32)  (u0 : Mm) (Φ : Int32 → Mm → Prop) (h : w_X9_divert a1 a2 u0 Φ) : Met l yX9_divert wsX9_divert rm_X9_divert (va_Pc [.ref (o + 0), .int a1, .int a2] (Wd 747 o D (tysL cA) (EC cA o u0))) (Qg vI Φ (fun μ => Wd 747 o D (tysL cA) (EC cA o μ)) (aA o 747)) 0 0 (aA o 747) := by
  refine Met.ofW (cc := cX9_divert) (maxL := 3) (ret := (some .int)) (by decide) rfl ?_
  intro p e s m args below meth c s₁ B hml hv
  obtain ⟨rfl, hv⟩ := hv
  have hl := lv_entry ([.ref (o + 0), .int a1, .int a2]) (n := 3) (Nat.le_of_ble_eq_true rfl)
  rw [lg_entry_eq]
  exact t_X9_divert_0 ⟨⟨B.exec, B.bytes, hml, findClass_of_methodNamed B.named, atoms_spec (ws := wsX9_divert) B.pre⟩, B.returns, B.notSynchronized, hv.2⟩ a1 a2 u0 _ _ _ ⟨hv.1, va_S.rf⟩ hl h
abbrev rm_X9_pinch : Room := { frames := 5, cells := 0, slots := 0, locals := 125 }
theorem wd_X9_pinch_1 : Cond.fieldLink RX9 22 "TurnstileBank" "history" "LTurnstileBank$History;" ∈ wsX9_pinch := List.mem_of_getElem? (i := 1) (by decide +kernel)
theorem wd_X9_pinch_2 : Cond.fieldLink RX9 10 "TurnstileBank" "now" "LTurnstileBank$State;" ∈ wsX9_pinch := List.mem_of_getElem? (i := 2) (by decide +kernel)
theorem in_X9_pinch_9 : ∀ w ∈ wsX90, w ∈ wsX9_pinch := fun w h => List.mem_cons_of_mem _ (List.mem_append_left _ (List.mem_append_left _ (List.mem_append_left _ (List.mem_append_left _ (List.mem_append_left _ (List.mem_append_left _ (List.mem_append_left _ (List.mem_append_left _ (List.mem_append_right _ h)))))))))
def w_X9_pinch (a1 : Int32) (u0 : Mm) (Φ : Int32 → Mm → Prop) : Prop := (w_X2_prepare 1 u0 (fun _ u1 => (w_X8_tellPinch 1 a1 u1 (fun r4 u3 => (w_X9_recorded r4 u3 (fun r6 u5 => (Φ r6 u5)))))))
set_option maxHeartbeats 4000000 in
set_option maxRecDepth 100000 in
theorem t_X9_pinch_0 {p : Program} {l : Launch} {e : Env} {s : State} {m : MethodId} {args : Array Value} {below : List Frame} {meth : Method} {c : Code} {D : va_G} {cA : Nat → ClassId} {o : Nat}  {Φ : Int32 → Mm → Prop} (C : Cx p m meth c s args cX9_pinch 2 wsX9_pinch RX9 (some .int) D (tysL cA)) : ∀ (a1 : Int32) (u0 : Mm), ∀ (H : Heap) (locs : List Loc) (ls : Array Slot), Hp 747 o D (EC cA o u0) s H locs → lv_has ls 2 [(0, .ref (o + 0)), (1, .int a1)] → w_X9_pinch a1 u0 Φ → W p l e rm_X9_pinch s m args below meth c H locs 0 0 (MQ below (Qg vI Φ (fun μ => Wd 747 o D (tysL cA) (EC cA o μ)) (aA o 747)) args s 0 0 (aA o 747)) (F0 m 0 ls []) := by
  intro a1 u0 H locs ls P hl h
  have hx := C.1.1
  have hb := C.1.2.1
  unfold w_X9_pinch at h
  refine lv_aload_n hx hb dX9_pinch_0 rfl (lv_at hl 0 rfl) ?_
  refine g_9_2 C P in_X9_pinch_9 wd_X9_pinch_1 kd_at_0 dX9_pinch_1 ?_
  refine lv_aload_n hx hb dX9_pinch_4 rfl (lv_at hl 0 rfl) ?_
  refine g_9_0 C P in_X9_pinch_9 wd_X9_pinch_2 kd_at_0 dX9_pinch_5 ?_
  refine r_callv (F := EC cA o) (va_runV (As := [.ref (o + 1)]) (rest := []) C.1 (c_X2_prepare l D cA o _ kd_at_1 u0 _ h) (cwV 1 C.1.2.2.2.2 gX9_pinch_X2_prepare rfl rfl rfl (by decide +kernel) ⟨Nat.le_of_ble_eq_true rfl, Nat.le_of_ble_eq_true rfl⟩) (r_preV C P [.ref (o + 1)] (ci := 2) rfl (kd_lt kd_at_213 (by decide)) (EK_2 kd_at_213)) rfl rfl hl.1 rfl (lv_room (Nat.le_of_ble_eq_true rfl)) dX9_pinch_8 ⟨Nat.le_of_ble_eq_true rfl, Nat.le_of_ble_eq_true rfl⟩) P.2 (fun u1 H locs h P => ?_)
  refine lv_aload_n hx hb dX9_pinch_11 rfl (lv_at hl 0 rfl) ?_
  refine lv_aload_n hx hb dX9_pinch_12 rfl (lv_at hl 0 rfl) ?_
  refine g_9_0 C P in_X9_pinch_9 wd_X9_pinch_2 kd_at_0 dX9_pinch_13 ?_
  refine lv_iload_n hx hb dX9_pinch_16 rfl (lv_at hl 1 rfl) ?_
  refine r_calli (F := EC cA o) (va_runV (As := [.int a1]) (rest := [.ref (o + 0)]) C.1 (c_X8_tellPinch l D cA o _ _ kd_at_1 u1 _ h) (cwV 1 C.1.2.2.2.2 gX9_pinch_X8_tellPinch rfl rfl rfl (by decide +kernel) ⟨Nat.le_of_ble_eq_true rfl, Nat.le_of_ble_eq_true rfl⟩) (r_preV C P [.int a1] (ci := 8) rfl (kd_lt kd_at_1 (by decide)) (EK_8 kd_at_1)) rfl rfl hl.1 rfl (lv_room (Nat.le_of_ble_eq_true rfl)) dX9_pinch_17 ⟨Nat.le_of_ble_eq_true rfl, Nat.le_of_ble_eq_true rfl⟩) P.2 (fun r4 u3 H locs h P => ?_)
  refine r_calli (F := EC cA o) (va_runV (As := [.int r4]) (rest := []) C.1 (c_X9_recorded l D cA o _ u3 _ h) (cwV 1 C.1.2.2.2.2 gX9_pinch_X9_recorded rfl rfl rfl (by decide +kernel) ⟨Nat.le_of_ble_eq_true rfl, Nat.le_of_ble_eq_true rfl⟩) (r_preV C P [.int r4] (ci := 9) rfl (kd_lt kd_at_0 (by decide)) (EK_9 kd_at_0)) rfl rfl hl.1 rfl (lv_room (Nat.le_of_ble_eq_true rfl)) dX9_pinch_20 ⟨Nat.le_of_ble_eq_true rfl, Nat.le_of_ble_eq_true rfl⟩) P.2 (fun r6 u5 H locs h P => ?_)
  exact r_ireti C P h dX9_pinch_23
set_option maxHeartbeats 4000000 in
set_option maxRecDepth 100000 in
theorem c_X9_pinch (l : Launch) (D : va_G) (cA : Nat → ClassId) (o : Nat) (a1 : Int32)  (u0 : Mm) (Φ : Int32 → Mm → Prop) (h : w_X9_pinch a1 u0 Φ) : Met l yX9_pinch wsX9_pinch rm_X9_pinch (va_Pc [.ref (o + 0), .int a1] (Wd 747 o D (tysL cA) (EC cA o u0))) (Qg vI Φ (fun μ => Wd 747 o D (tysL cA) (EC cA o μ)) (aA o 747)) 0 0 (aA o 747) := by
  refine Met.ofW (cc := cX9_pinch) (maxL := 2) (ret := (some .int)) (by decide) rfl ?_
  intro p e s m args below meth c s₁ B hml hv
  obtain ⟨rfl, hv⟩ := hv
  have hl := lv_entry ([.ref (o + 0), .int a1]) (n := 2) (Nat.le_of_ble_eq_true rfl)
  rw [lg_entry_eq]
  exact t_X9_pinch_0 ⟨⟨B.exec, B.bytes, hml, findClass_of_methodNamed B.named, atoms_spec (ws := wsX9_pinch) B.pre⟩, B.returns, B.notSynchronized, hv.2⟩ a1 u0 _ _ _ ⟨hv.1, va_S.rf⟩ hl h
abbrev rm_X9_isError : Room := { frames := 0, cells := 0, slots := 0, locals := 0 }
def w_X9_isError (a0 : Int32) (u0 : Mm) (Φ : Int32 → Mm → Prop) : Prop := (if 0 ≤ a0 then (Φ (0 : Int32) u0) else (if a0 = (-5 : Int32) then (Φ (0 : Int32) u0) else (Φ (1 : Int32) u0)))
set_option maxHeartbeats 4000000 in
set_option maxRecDepth 100000 in
theorem t_X9_isError_0 {p : Program} {l : Launch} {e : Env} {s : State} {m : MethodId} {args : Array Value} {below : List Frame} {meth : Method} {c : Code} {D : va_G} {cA : Nat → ClassId} {o : Nat}  {Φ : Int32 → Mm → Prop} (C : Cx p m meth c s args cX9_isError 1 wsX9_isError RX9 (some .boolean) D (tysL cA)) : ∀ (a0 : Int32) (u0 : Mm), ∀ (H : Heap) (locs : List Loc) (ls : Array Slot), Hp 747 o D (EC cA o u0) s H locs → lv_has ls 1 [(0, .int a0)] → w_X9_isError a0 u0 Φ → W p l e rm_X9_isError s m args below meth c H locs 0 0 (MQ below (Qg vI Φ (fun μ => Wd 747 o D (tysL cA) (EC cA o μ)) (aA o 747)) args s 0 0 (aA o 747)) (F0 m 0 ls []) := by
  intro a0 u0 H locs ls P hl h
  have hx := C.1.1
  have hb := C.1.2.1
  unfold w_X9_isError at h
  refine lv_iload_n hx hb dX9_isError_0 rfl (lv_at hl 0 rfl) ?_
  refine lv_if_ge (tgt := 14) hx hb dX9_isError_1 (by decide) (fun c1 => ?_) (fun c1 => ?_)
  · have h := ite_t h c1
    refine lv_iconst (v := 0) hx hb dX9_isError_14 (by decide) ?_
    exact r_iretb C P (Or.inl rfl) h dX9_isError_15
  · have h := ite_f h c1
    refine lv_iload_n hx hb dX9_isError_4 rfl (lv_at hl 0 rfl) ?_
    refine lv_bipush (v := -5) hx hb dX9_isError_5 (by decide) ?_
    refine lv_icmp_eq (tgt := 14) hx hb dX9_isError_7 (by decide) (fun c2 => ?_) (fun c2 => ?_)
    · have h := ite_t h c2
      refine lv_iconst (v := 0) hx hb dX9_isError_14 (by decide) ?_
      exact r_iretb C P (Or.inl rfl) h dX9_isError_15
    · have h := ite_f h c2
      refine lv_iconst (v := 1) hx hb dX9_isError_10 (by decide) ?_
      refine lv_goto (tgt := 15) hx hb dX9_isError_11 (by decide) ?_
      exact r_iretb C P (Or.inr rfl) h dX9_isError_15
set_option maxHeartbeats 4000000 in
set_option maxRecDepth 100000 in
theorem c_X9_isError (l : Launch) (D : va_G) (cA : Nat → ClassId) (o : Nat) (a0 : Int32)  (u0 : Mm) (Φ : Int32 → Mm → Prop) (h : w_X9_isError a0 u0 Φ) : Met l yX9_isError wsX9_isError rm_X9_isError (va_Pc [.int a0] (Wd 747 o D (tysL cA) (EC cA o u0))) (Qg vI Φ (fun μ => Wd 747 o D (tysL cA) (EC cA o μ)) (aA o 747)) 0 0 (aA o 747) := by
  refine Met.ofW (cc := cX9_isError) (maxL := 1) (ret := (some .boolean)) (by decide) rfl ?_
  intro p e s m args below meth c s₁ B hml hv
  obtain ⟨rfl, hv⟩ := hv
  have hl := lv_entry ([.int a0]) (n := 1) (Nat.le_of_ble_eq_true rfl)
  rw [lg_entry_eq]
  exact t_X9_isError_0 ⟨⟨B.exec, B.bytes, hml, findClass_of_methodNamed B.named, atoms_spec (ws := wsX9_isError) B.pre⟩, B.returns, B.notSynchronized, hv.2⟩ a0 u0 _ _ _ ⟨hv.1, va_S.rf⟩ hl h
abbrev rm_X9_fail : Room := { frames := 5, cells := 0, slots := 0, locals := 125 }
theorem wd_X9_fail_1 : Cond.fieldLink RX9 22 "TurnstileBank" "history" "LTurnstileBank$History;" ∈ wsX9_fail := List.mem_of_getElem? (i := 1) (by decide +kernel)
theorem wd_X9_fail_2 : Cond.fieldLink RX9 10 "TurnstileBank" "now" "LTurnstileBank$State;" ∈ wsX9_fail := List.mem_of_getElem? (i := 2) (by decide +kernel)
theorem in_X9_fail_9 : ∀ w ∈ wsX90, w ∈ wsX9_fail := fun w h => List.mem_cons_of_mem _ (List.mem_append_left _ (List.mem_append_left _ (List.mem_append_left _ (List.mem_append_left _ (List.mem_append_left _ (List.mem_append_left _ (List.mem_append_left _ (List.mem_append_left _ (List.mem_append_right _ h)))))))))
def w_X9_fail (a1 : Int32) (u0 : Mm) (Φ : Int32 → Mm → Prop) : Prop := (w_X2_prepare 1 u0 (fun _ u1 => (w_X8_putOutOfOrder 1 a1 u1 (fun r4 u3 => (w_X9_isError r4 u3 (fun r6 u5 => (if r6 = 0 then (w_X2_keep u5 (fun _ u8 => (Φ r4 u8))) else (Φ r4 u5))))))))
set_option maxHeartbeats 4000000 in
set_option maxRecDepth 100000 in
theorem t_X9_fail_0 {p : Program} {l : Launch} {e : Env} {s : State} {m : MethodId} {args : Array Value} {below : List Frame} {meth : Method} {c : Code} {D : va_G} {cA : Nat → ClassId} {o : Nat}  {Φ : Int32 → Mm → Prop} (C : Cx p m meth c s args cX9_fail 3 wsX9_fail RX9 (some .int) D (tysL cA)) : ∀ (a1 : Int32) (u0 : Mm), ∀ (H : Heap) (locs : List Loc) (ls : Array Slot), Hp 747 o D (EC cA o u0) s H locs → lv_has ls 3 [(0, .ref (o + 0)), (1, .int a1)] → w_X9_fail a1 u0 Φ → W p l e rm_X9_fail s m args below meth c H locs 0 0 (MQ below (Qg vI Φ (fun μ => Wd 747 o D (tysL cA) (EC cA o μ)) (aA o 747)) args s 0 0 (aA o 747)) (F0 m 0 ls []) := by
  intro a1 u0 H locs ls P hl h
  have hx := C.1.1
  have hb := C.1.2.1
  unfold w_X9_fail at h
  refine lv_aload_n hx hb dX9_fail_0 rfl (lv_at hl 0 rfl) ?_
  refine g_9_2 C P in_X9_fail_9 wd_X9_fail_1 kd_at_0 dX9_fail_1 ?_
  refine lv_aload_n hx hb dX9_fail_4 rfl (lv_at hl 0 rfl) ?_
  refine g_9_0 C P in_X9_fail_9 wd_X9_fail_2 kd_at_0 dX9_fail_5 ?_
  refine r_callv (F := EC cA o) (va_runV (As := [.ref (o + 1)]) (rest := []) C.1 (c_X2_prepare l D cA o _ kd_at_1 u0 _ h) (cwV 1 C.1.2.2.2.2 gX9_fail_X2_prepare rfl rfl rfl (by decide +kernel) ⟨Nat.le_of_ble_eq_true rfl, Nat.le_of_ble_eq_true rfl⟩) (r_preV C P [.ref (o + 1)] (ci := 2) rfl (kd_lt kd_at_213 (by decide)) (EK_2 kd_at_213)) rfl rfl hl.1 rfl (lv_room (Nat.le_of_ble_eq_true rfl)) dX9_fail_8 ⟨Nat.le_of_ble_eq_true rfl, Nat.le_of_ble_eq_true rfl⟩) P.2 (fun u1 H locs h P => ?_)
  refine lv_aload_n hx hb dX9_fail_11 rfl (lv_at hl 0 rfl) ?_
  refine g_9_0 C P in_X9_fail_9 wd_X9_fail_2 kd_at_0 dX9_fail_12 ?_
  refine lv_iload_n hx hb dX9_fail_15 rfl (lv_at hl 1 rfl) ?_
  refine r_calli (F := EC cA o) (va_runV (As := [.int a1]) (rest := []) C.1 (c_X8_putOutOfOrder l D cA o _ _ kd_at_1 u1 _ h) (cwV 1 C.1.2.2.2.2 gX9_fail_X8_putOutOfOrder rfl rfl rfl (by decide +kernel) ⟨Nat.le_of_ble_eq_true rfl, Nat.le_of_ble_eq_true rfl⟩) (r_preV C P [.int a1] (ci := 8) rfl (kd_lt kd_at_1 (by decide)) (EK_8 kd_at_1)) rfl rfl hl.1 rfl (lv_room (Nat.le_of_ble_eq_true rfl)) dX9_fail_16 ⟨Nat.le_of_ble_eq_true rfl, Nat.le_of_ble_eq_true rfl⟩) P.2 (fun r4 u3 H locs h P => ?_)
  refine lv_istore_n (lv' := [(2, .int r4), (0, .ref (o + 0)), (1, .int a1)]) hx hb dX9_fail_19 rfl hl (by decide) rfl (fun ls hl => ?_)
  refine lv_iload_n hx hb dX9_fail_20 rfl (lv_at hl 0 rfl) ?_
  refine r_calli (F := EC cA o) (va_runS (As := [.int r4]) (rest := []) C.1 (c_X9_isError l D cA o _ u3 _ h) (va_cwS 1 C.1.2.2.2.2 gX9_fail_X9_isError rfl rfl rfl (by decide +kernel) ⟨Nat.le_of_ble_eq_true rfl, Nat.le_of_ble_eq_true rfl⟩) (r_pre C P [.int r4]) rfl rfl hl.1 rfl (lv_room (Nat.le_of_ble_eq_true rfl)) dX9_fail_21 ⟨Nat.le_of_ble_eq_true rfl, Nat.le_of_ble_eq_true rfl⟩) P.2 (fun r6 u5 H locs h P => ?_)
  refine lv_if_ne (tgt := 34) hx hb dX9_fail_24 (by decide) (fun c7 => ?_) (fun c7 => ?_)
  · have h := ite_f h c7
    refine lv_iload_n hx hb dX9_fail_34 rfl (lv_at hl 0 rfl) ?_
    exact r_ireti C P h dX9_fail_35
  · have h := ite_t h c7
    refine lv_aload_n hx hb dX9_fail_27 rfl (lv_at hl 1 rfl) ?_
    refine g_9_2 C P in_X9_fail_9 wd_X9_fail_1 kd_at_0 dX9_fail_28 ?_
    refine r_callv (F := EC cA o) (va_runV (As := []) (rest := []) C.1 (c_X2_keep l D cA o u5 _ h) (cwV 0 C.1.2.2.2.2 gX9_fail_X2_keep rfl rfl rfl (by decide +kernel) ⟨Nat.le_of_ble_eq_true rfl, Nat.le_of_ble_eq_true rfl⟩) (r_preV C P [] (ci := 2) rfl (kd_lt kd_at_213 (by decide)) (EK_2 kd_at_213)) rfl rfl hl.1 rfl (lv_room (Nat.le_of_ble_eq_true rfl)) dX9_fail_31 ⟨Nat.le_of_ble_eq_true rfl, Nat.le_of_ble_eq_true rfl⟩) P.2 (fun u8 H locs h P => ?_)
    refine lv_iload_n hx hb dX9_fail_34 rfl (lv_at hl 0 rfl) ?_
    exact r_ireti C P h dX9_fail_35
set_option maxHeartbeats 4000000 in
set_option maxRecDepth 100000 in
theorem c_X9_fail (l : Launch) (D : va_G) (cA : Nat → ClassId) (o : Nat) (a1 : Int32)  (u0 : Mm) (Φ : Int32 → Mm → Prop) (h : w_X9_fail a1 u0 Φ) : Met l yX9_fail wsX9_fail rm_X9_fail (va_Pc [.ref (o + 0), .int a1] (Wd 747 o D (tysL cA) (EC cA o u0))) (Qg vI Φ (fun μ => Wd 747 o D (tysL cA) (EC cA o μ)) (aA o 747)) 0 0 (aA o 747) := by
  refine Met.ofW (cc := cX9_fail) (maxL := 3) (ret := (some .int)) (by decide) rfl ?_
  intro p e s m args below meth c s₁ B hml hv
  obtain ⟨rfl, hv⟩ := hv
  have hl := lv_entry ([.ref (o + 0), .int a1]) (n := 3) (Nat.le_of_ble_eq_true rfl)
  rw [lg_entry_eq]
  exact t_X9_fail_0 ⟨⟨B.exec, B.bytes, hml, findClass_of_methodNamed B.named, atoms_spec (ws := wsX9_fail) B.pre⟩, B.returns, B.notSynchronized, hv.2⟩ a1 u0 _ _ _ ⟨hv.1, va_S.rf⟩ hl h
abbrev rm_X9_repair : Room := { frames := 5, cells := 0, slots := 0, locals := 125 }
theorem wd_X9_repair_1 : Cond.fieldLink RX9 22 "TurnstileBank" "history" "LTurnstileBank$History;" ∈ wsX9_repair := List.mem_of_getElem? (i := 1) (by decide +kernel)
theorem wd_X9_repair_2 : Cond.fieldLink RX9 10 "TurnstileBank" "now" "LTurnstileBank$State;" ∈ wsX9_repair := List.mem_of_getElem? (i := 2) (by decide +kernel)
theorem in_X9_repair_9 : ∀ w ∈ wsX90, w ∈ wsX9_repair := fun w h => List.mem_cons_of_mem _ (List.mem_append_left _ (List.mem_append_left _ (List.mem_append_left _ (List.mem_append_left _ (List.mem_append_left _ (List.mem_append_left _ (List.mem_append_left _ (List.mem_append_left _ (List.mem_append_right _ h)))))))))
def w_X9_repair (a1 : Int32) (u0 : Mm) (Φ : Int32 → Mm → Prop) : Prop := (w_X2_prepare 1 u0 (fun _ u1 => (w_X8_putInOrder 1 a1 u1 (fun r4 u3 => (w_X9_recorded r4 u3 (fun r6 u5 => (Φ r6 u5)))))))
set_option maxHeartbeats 4000000 in
set_option maxRecDepth 100000 in
theorem t_X9_repair_0 {p : Program} {l : Launch} {e : Env} {s : State} {m : MethodId} {args : Array Value} {below : List Frame} {meth : Method} {c : Code} {D : va_G} {cA : Nat → ClassId} {o : Nat}  {Φ : Int32 → Mm → Prop} (C : Cx p m meth c s args cX9_repair 2 wsX9_repair RX9 (some .int) D (tysL cA)) : ∀ (a1 : Int32) (u0 : Mm), ∀ (H : Heap) (locs : List Loc) (ls : Array Slot), Hp 747 o D (EC cA o u0) s H locs → lv_has ls 2 [(0, .ref (o + 0)), (1, .int a1)] → w_X9_repair a1 u0 Φ → W p l e rm_X9_repair s m args below meth c H locs 0 0 (MQ below (Qg vI Φ (fun μ => Wd 747 o D (tysL cA) (EC cA o μ)) (aA o 747)) args s 0 0 (aA o 747)) (F0 m 0 ls []) := by
  intro a1 u0 H locs ls P hl h
  have hx := C.1.1
  have hb := C.1.2.1
  unfold w_X9_repair at h
  refine lv_aload_n hx hb dX9_repair_0 rfl (lv_at hl 0 rfl) ?_
  refine g_9_2 C P in_X9_repair_9 wd_X9_repair_1 kd_at_0 dX9_repair_1 ?_
  refine lv_aload_n hx hb dX9_repair_4 rfl (lv_at hl 0 rfl) ?_
  refine g_9_0 C P in_X9_repair_9 wd_X9_repair_2 kd_at_0 dX9_repair_5 ?_
  refine r_callv (F := EC cA o) (va_runV (As := [.ref (o + 1)]) (rest := []) C.1 (c_X2_prepare l D cA o _ kd_at_1 u0 _ h) (cwV 1 C.1.2.2.2.2 gX9_repair_X2_prepare rfl rfl rfl (by decide +kernel) ⟨Nat.le_of_ble_eq_true rfl, Nat.le_of_ble_eq_true rfl⟩) (r_preV C P [.ref (o + 1)] (ci := 2) rfl (kd_lt kd_at_213 (by decide)) (EK_2 kd_at_213)) rfl rfl hl.1 rfl (lv_room (Nat.le_of_ble_eq_true rfl)) dX9_repair_8 ⟨Nat.le_of_ble_eq_true rfl, Nat.le_of_ble_eq_true rfl⟩) P.2 (fun u1 H locs h P => ?_)
  refine lv_aload_n hx hb dX9_repair_11 rfl (lv_at hl 0 rfl) ?_
  refine lv_aload_n hx hb dX9_repair_12 rfl (lv_at hl 0 rfl) ?_
  refine g_9_0 C P in_X9_repair_9 wd_X9_repair_2 kd_at_0 dX9_repair_13 ?_
  refine lv_iload_n hx hb dX9_repair_16 rfl (lv_at hl 1 rfl) ?_
  refine r_calli (F := EC cA o) (va_runV (As := [.int a1]) (rest := [.ref (o + 0)]) C.1 (c_X8_putInOrder l D cA o _ _ kd_at_1 u1 _ h) (cwV 1 C.1.2.2.2.2 gX9_repair_X8_putInOrder rfl rfl rfl (by decide +kernel) ⟨Nat.le_of_ble_eq_true rfl, Nat.le_of_ble_eq_true rfl⟩) (r_preV C P [.int a1] (ci := 8) rfl (kd_lt kd_at_1 (by decide)) (EK_8 kd_at_1)) rfl rfl hl.1 rfl (lv_room (Nat.le_of_ble_eq_true rfl)) dX9_repair_17 ⟨Nat.le_of_ble_eq_true rfl, Nat.le_of_ble_eq_true rfl⟩) P.2 (fun r4 u3 H locs h P => ?_)
  refine r_calli (F := EC cA o) (va_runV (As := [.int r4]) (rest := []) C.1 (c_X9_recorded l D cA o _ u3 _ h) (cwV 1 C.1.2.2.2.2 gX9_repair_X9_recorded rfl rfl rfl (by decide +kernel) ⟨Nat.le_of_ble_eq_true rfl, Nat.le_of_ble_eq_true rfl⟩) (r_preV C P [.int r4] (ci := 9) rfl (kd_lt kd_at_0 (by decide)) (EK_9 kd_at_0)) rfl rfl hl.1 rfl (lv_room (Nat.le_of_ble_eq_true rfl)) dX9_repair_20 ⟨Nat.le_of_ble_eq_true rfl, Nat.le_of_ble_eq_true rfl⟩) P.2 (fun r6 u5 H locs h P => ?_)
  exact r_ireti C P h dX9_repair_23
set_option maxHeartbeats 4000000 in
set_option maxRecDepth 100000 in
theorem c_X9_repair (l : Launch) (D : va_G) (cA : Nat → ClassId) (o : Nat) (a1 : Int32)  (u0 : Mm) (Φ : Int32 → Mm → Prop) (h : w_X9_repair a1 u0 Φ) : Met l yX9_repair wsX9_repair rm_X9_repair (va_Pc [.ref (o + 0), .int a1] (Wd 747 o D (tysL cA) (EC cA o u0))) (Qg vI Φ (fun μ => Wd 747 o D (tysL cA) (EC cA o μ)) (aA o 747)) 0 0 (aA o 747) := by
  refine Met.ofW (cc := cX9_repair) (maxL := 2) (ret := (some .int)) (by decide) rfl ?_
  intro p e s m args below meth c s₁ B hml hv
  obtain ⟨rfl, hv⟩ := hv
  have hl := lv_entry ([.ref (o + 0), .int a1]) (n := 2) (Nat.le_of_ble_eq_true rfl)
  rw [lg_entry_eq]
  exact t_X9_repair_0 ⟨⟨B.exec, B.bytes, hml, findClass_of_methodNamed B.named, atoms_spec (ws := wsX9_repair) B.pre⟩, B.returns, B.notSynchronized, hv.2⟩ a1 u0 _ _ _ ⟨hv.1, va_S.rf⟩ hl h
abbrev rm_X9_pass : Room := { frames := 6, cells := 0, slots := 0, locals := 137 }
theorem wd_X9_pass_1 : Cond.fieldLink RX9 22 "TurnstileBank" "history" "LTurnstileBank$History;" ∈ wsX9_pass := List.mem_of_getElem? (i := 1) (by decide +kernel)
theorem wd_X9_pass_2 : Cond.fieldLink RX9 10 "TurnstileBank" "now" "LTurnstileBank$State;" ∈ wsX9_pass := List.mem_of_getElem? (i := 2) (by decide +kernel)
theorem in_X9_pass_9 : ∀ w ∈ wsX90, w ∈ wsX9_pass := fun w h => List.mem_cons_of_mem _ (List.mem_append_left _ (List.mem_append_left _ (List.mem_append_left _ (List.mem_append_left _ (List.mem_append_left _ (List.mem_append_left _ (List.mem_append_left _ (List.mem_append_left _ (List.mem_append_right _ h)))))))))
def w_X9_pass (a1 : Int32) (u0 : Mm) (Φ : Int32 → Mm → Prop) : Prop := (w_X2_prepare 1 u0 (fun _ u1 => (w_X8_letTicksGo 1 a1 u1 (fun r4 u3 => (w_X9_recorded r4 u3 (fun r6 u5 => (Φ r6 u5)))))))
set_option maxHeartbeats 4000000 in
set_option maxRecDepth 100000 in
theorem t_X9_pass_0 {p : Program} {l : Launch} {e : Env} {s : State} {m : MethodId} {args : Array Value} {below : List Frame} {meth : Method} {c : Code} {D : va_G} {cA : Nat → ClassId} {o : Nat}  {Φ : Int32 → Mm → Prop} (C : Cx p m meth c s args cX9_pass 2 wsX9_pass RX9 (some .int) D (tysL cA)) : ∀ (a1 : Int32) (u0 : Mm), ∀ (H : Heap) (locs : List Loc) (ls : Array Slot), Hp 747 o D (EC cA o u0) s H locs → lv_has ls 2 [(0, .ref (o + 0)), (1, .int a1)] → w_X9_pass a1 u0 Φ → W p l e rm_X9_pass s m args below meth c H locs 0 0 (MQ below (Qg vI Φ (fun μ => Wd 747 o D (tysL cA) (EC cA o μ)) (aA o 747)) args s 0 0 (aA o 747)) (F0 m 0 ls []) := by
  intro a1 u0 H locs ls P hl h
  have hx := C.1.1
  have hb := C.1.2.1
  unfold w_X9_pass at h
  refine lv_aload_n hx hb dX9_pass_0 rfl (lv_at hl 0 rfl) ?_
  refine g_9_2 C P in_X9_pass_9 wd_X9_pass_1 kd_at_0 dX9_pass_1 ?_
  refine lv_aload_n hx hb dX9_pass_4 rfl (lv_at hl 0 rfl) ?_
  refine g_9_0 C P in_X9_pass_9 wd_X9_pass_2 kd_at_0 dX9_pass_5 ?_
  refine r_callv (F := EC cA o) (va_runV (As := [.ref (o + 1)]) (rest := []) C.1 (c_X2_prepare l D cA o _ kd_at_1 u0 _ h) (cwV 1 C.1.2.2.2.2 gX9_pass_X2_prepare rfl rfl rfl (by decide +kernel) ⟨Nat.le_of_ble_eq_true rfl, Nat.le_of_ble_eq_true rfl⟩) (r_preV C P [.ref (o + 1)] (ci := 2) rfl (kd_lt kd_at_213 (by decide)) (EK_2 kd_at_213)) rfl rfl hl.1 rfl (lv_room (Nat.le_of_ble_eq_true rfl)) dX9_pass_8 ⟨Nat.le_of_ble_eq_true rfl, Nat.le_of_ble_eq_true rfl⟩) P.2 (fun u1 H locs h P => ?_)
  refine lv_aload_n hx hb dX9_pass_11 rfl (lv_at hl 0 rfl) ?_
  refine lv_aload_n hx hb dX9_pass_12 rfl (lv_at hl 0 rfl) ?_
  refine g_9_0 C P in_X9_pass_9 wd_X9_pass_2 kd_at_0 dX9_pass_13 ?_
  refine lv_iload_n hx hb dX9_pass_16 rfl (lv_at hl 1 rfl) ?_
  refine r_calli (F := EC cA o) (va_runV (As := [.int a1]) (rest := [.ref (o + 0)]) C.1 (c_X8_letTicksGo l D cA o _ _ kd_at_1 u1 _ h) (cwV 1 C.1.2.2.2.2 gX9_pass_X8_letTicksGo rfl rfl rfl (by decide +kernel) ⟨Nat.le_of_ble_eq_true rfl, Nat.le_of_ble_eq_true rfl⟩) (r_preV C P [.int a1] (ci := 8) rfl (kd_lt kd_at_1 (by decide)) (EK_8 kd_at_1)) rfl rfl hl.1 rfl (lv_room (Nat.le_of_ble_eq_true rfl)) dX9_pass_17 ⟨Nat.le_of_ble_eq_true rfl, Nat.le_of_ble_eq_true rfl⟩) P.2 (fun r4 u3 H locs h P => ?_)
  refine r_calli (F := EC cA o) (va_runV (As := [.int r4]) (rest := []) C.1 (c_X9_recorded l D cA o _ u3 _ h) (cwV 1 C.1.2.2.2.2 gX9_pass_X9_recorded rfl rfl rfl (by decide +kernel) ⟨Nat.le_of_ble_eq_true rfl, Nat.le_of_ble_eq_true rfl⟩) (r_preV C P [.int r4] (ci := 9) rfl (kd_lt kd_at_0 (by decide)) (EK_9 kd_at_0)) rfl rfl hl.1 rfl (lv_room (Nat.le_of_ble_eq_true rfl)) dX9_pass_20 ⟨Nat.le_of_ble_eq_true rfl, Nat.le_of_ble_eq_true rfl⟩) P.2 (fun r6 u5 H locs h P => ?_)
  exact r_ireti C P h dX9_pass_23
set_option maxHeartbeats 4000000 in
set_option maxRecDepth 100000 in
theorem c_X9_pass (l : Launch) (D : va_G) (cA : Nat → ClassId) (o : Nat) (a1 : Int32)  (u0 : Mm) (Φ : Int32 → Mm → Prop) (h : w_X9_pass a1 u0 Φ) : Met l yX9_pass wsX9_pass rm_X9_pass (va_Pc [.ref (o + 0), .int a1] (Wd 747 o D (tysL cA) (EC cA o u0))) (Qg vI Φ (fun μ => Wd 747 o D (tysL cA) (EC cA o μ)) (aA o 747)) 0 0 (aA o 747) := by
  refine Met.ofW (cc := cX9_pass) (maxL := 2) (ret := (some .int)) (by decide) rfl ?_
  intro p e s m args below meth c s₁ B hml hv
  obtain ⟨rfl, hv⟩ := hv
  have hl := lv_entry ([.ref (o + 0), .int a1]) (n := 2) (Nat.le_of_ble_eq_true rfl)
  rw [lg_entry_eq]
  exact t_X9_pass_0 ⟨⟨B.exec, B.bytes, hml, findClass_of_methodNamed B.named, atoms_spec (ws := wsX9_pass) B.pre⟩, B.returns, B.notSynchronized, hv.2⟩ a1 u0 _ _ _ ⟨hv.1, va_S.rf⟩ hl h
abbrev rm_X9_type : Room := { frames := 1, cells := 0, slots := 0, locals := 21 }
theorem wd_X9_type_1 : Cond.fieldLink RX9 29 "TurnstileBank" "orders" "LTurnstileBank$Orders;" ∈ wsX9_type := List.mem_of_getElem? (i := 1) (by decide +kernel)
theorem in_X9_type_9 : ∀ w ∈ wsX90, w ∈ wsX9_type := fun w h => List.mem_cons_of_mem _ (List.mem_append_left _ (List.mem_append_right _ h))
def w_X9_type (a1 : Int32) (u0 : Mm) (Φ : Int32 → Mm → Prop) : Prop := (w_X3_append a1 u0 (fun r2 u1 => (Φ r2 u1)))
set_option maxHeartbeats 4000000 in
set_option maxRecDepth 100000 in
theorem t_X9_type_0 {p : Program} {l : Launch} {e : Env} {s : State} {m : MethodId} {args : Array Value} {below : List Frame} {meth : Method} {c : Code} {D : va_G} {cA : Nat → ClassId} {o : Nat}  {Φ : Int32 → Mm → Prop} (C : Cx p m meth c s args cX9_type 2 wsX9_type RX9 (some .int) D (tysL cA)) : ∀ (a1 : Int32) (u0 : Mm), ∀ (H : Heap) (locs : List Loc) (ls : Array Slot), Hp 747 o D (EC cA o u0) s H locs → lv_has ls 2 [(0, .ref (o + 0)), (1, .int a1)] → w_X9_type a1 u0 Φ → W p l e rm_X9_type s m args below meth c H locs 0 0 (MQ below (Qg vI Φ (fun μ => Wd 747 o D (tysL cA) (EC cA o μ)) (aA o 747)) args s 0 0 (aA o 747)) (F0 m 0 ls []) := by
  intro a1 u0 H locs ls P hl h
  have hx := C.1.1
  have hb := C.1.2.1
  unfold w_X9_type at h
  refine lv_aload_n hx hb dX9_type_0 rfl (lv_at hl 0 rfl) ?_
  refine g_9_3 C P in_X9_type_9 wd_X9_type_1 kd_at_0 dX9_type_1 ?_
  refine lv_iload_n hx hb dX9_type_4 rfl (lv_at hl 1 rfl) ?_
  refine r_calli (F := EC cA o) (va_runV (As := [.int a1]) (rest := []) C.1 (c_X3_append l D cA o _ u0 _ h) (cwV 1 C.1.2.2.2.2 gX9_type_X3_append rfl rfl rfl (by decide +kernel) ⟨Nat.le_of_ble_eq_true rfl, Nat.le_of_ble_eq_true rfl⟩) (r_preV C P [.int a1] (ci := 3) rfl (kd_lt kd_at_745 (by decide)) (EK_3 kd_at_745)) rfl rfl hl.1 rfl (lv_room (Nat.le_of_ble_eq_true rfl)) dX9_type_5 ⟨Nat.le_of_ble_eq_true rfl, Nat.le_of_ble_eq_true rfl⟩) P.2 (fun r2 u1 H locs h P => ?_)
  exact r_ireti C P h dX9_type_8
set_option maxHeartbeats 4000000 in
set_option maxRecDepth 100000 in
theorem c_X9_type (l : Launch) (D : va_G) (cA : Nat → ClassId) (o : Nat) (a1 : Int32)  (u0 : Mm) (Φ : Int32 → Mm → Prop) (h : w_X9_type a1 u0 Φ) : Met l yX9_type wsX9_type rm_X9_type (va_Pc [.ref (o + 0), .int a1] (Wd 747 o D (tysL cA) (EC cA o u0))) (Qg vI Φ (fun μ => Wd 747 o D (tysL cA) (EC cA o μ)) (aA o 747)) 0 0 (aA o 747) := by
  refine Met.ofW (cc := cX9_type) (maxL := 2) (ret := (some .int)) (by decide) rfl ?_
  intro p e s m args below meth c s₁ B hml hv
  obtain ⟨rfl, hv⟩ := hv
  have hl := lv_entry ([.ref (o + 0), .int a1]) (n := 2) (Nat.le_of_ble_eq_true rfl)
  rw [lg_entry_eq]
  exact t_X9_type_0 ⟨⟨B.exec, B.bytes, hml, findClass_of_methodNamed B.named, atoms_spec (ws := wsX9_type) B.pre⟩, B.returns, B.notSynchronized, hv.2⟩ a1 u0 _ _ _ ⟨hv.1, va_S.rf⟩ hl h
abbrev rm_X9_clearText : Room := { frames := 1, cells := 0, slots := 0, locals := 21 }
theorem wd_X9_clearText_1 : Cond.fieldLink RX9 29 "TurnstileBank" "orders" "LTurnstileBank$Orders;" ∈ wsX9_clearText := List.mem_of_getElem? (i := 1) (by decide +kernel)
theorem in_X9_clearText_9 : ∀ w ∈ wsX90, w ∈ wsX9_clearText := fun w h => List.mem_cons_of_mem _ (List.mem_append_left _ (List.mem_append_right _ h))
def w_X9_clearText  (u0 : Mm) (Φ : Int32 → Mm → Prop) : Prop := (w_X3_erase u0 (fun r2 u1 => (Φ r2 u1)))
set_option maxHeartbeats 4000000 in
set_option maxRecDepth 100000 in
theorem t_X9_clearText_0 {p : Program} {l : Launch} {e : Env} {s : State} {m : MethodId} {args : Array Value} {below : List Frame} {meth : Method} {c : Code} {D : va_G} {cA : Nat → ClassId} {o : Nat}  {Φ : Int32 → Mm → Prop} (C : Cx p m meth c s args cX9_clearText 1 wsX9_clearText RX9 (some .int) D (tysL cA)) : ∀  (u0 : Mm), ∀ (H : Heap) (locs : List Loc) (ls : Array Slot), Hp 747 o D (EC cA o u0) s H locs → lv_has ls 1 [(0, .ref (o + 0))] → w_X9_clearText u0 Φ → W p l e rm_X9_clearText s m args below meth c H locs 0 0 (MQ below (Qg vI Φ (fun μ => Wd 747 o D (tysL cA) (EC cA o μ)) (aA o 747)) args s 0 0 (aA o 747)) (F0 m 0 ls []) := by
  intro u0 H locs ls P hl h
  have hx := C.1.1
  have hb := C.1.2.1
  unfold w_X9_clearText at h
  refine lv_aload_n hx hb dX9_clearText_0 rfl (lv_at hl 0 rfl) ?_
  refine g_9_3 C P in_X9_clearText_9 wd_X9_clearText_1 kd_at_0 dX9_clearText_1 ?_
  refine r_calli (F := EC cA o) (va_runV (As := []) (rest := []) C.1 (c_X3_erase l D cA o u0 _ h) (cwV 0 C.1.2.2.2.2 gX9_clearText_X3_erase rfl rfl rfl (by decide +kernel) ⟨Nat.le_of_ble_eq_true rfl, Nat.le_of_ble_eq_true rfl⟩) (r_preV C P [] (ci := 3) rfl (kd_lt kd_at_745 (by decide)) (EK_3 kd_at_745)) rfl rfl hl.1 rfl (lv_room (Nat.le_of_ble_eq_true rfl)) dX9_clearText_4 ⟨Nat.le_of_ble_eq_true rfl, Nat.le_of_ble_eq_true rfl⟩) P.2 (fun r2 u1 H locs h P => ?_)
  exact r_ireti C P h dX9_clearText_7
set_option maxHeartbeats 4000000 in
set_option maxRecDepth 100000 in
theorem c_X9_clearText (l : Launch) (D : va_G) (cA : Nat → ClassId) (o : Nat)   (u0 : Mm) (Φ : Int32 → Mm → Prop) (h : w_X9_clearText u0 Φ) : Met l yX9_clearText wsX9_clearText rm_X9_clearText (va_Pc [.ref (o + 0)] (Wd 747 o D (tysL cA) (EC cA o u0))) (Qg vI Φ (fun μ => Wd 747 o D (tysL cA) (EC cA o μ)) (aA o 747)) 0 0 (aA o 747) := by
  refine Met.ofW (cc := cX9_clearText) (maxL := 1) (ret := (some .int)) (by decide) rfl ?_
  intro p e s m args below meth c s₁ B hml hv
  obtain ⟨rfl, hv⟩ := hv
  have hl := lv_entry ([.ref (o + 0)]) (n := 1) (Nat.le_of_ble_eq_true rfl)
  rw [lg_entry_eq]
  exact t_X9_clearText_0 ⟨⟨B.exec, B.bytes, hml, findClass_of_methodNamed B.named, atoms_spec (ws := wsX9_clearText) B.pre⟩, B.returns, B.notSynchronized, hv.2⟩ u0 _ _ _ ⟨hv.1, va_S.rf⟩ hl h
abbrev rm_X9_carryOut : Room := { frames := 6, cells := 0, slots := 0, locals := 137 }
theorem wd_X9_carryOut_1 : Cond.fieldLink RX9 29 "TurnstileBank" "orders" "LTurnstileBank$Orders;" ∈ wsX9_carryOut := List.mem_of_getElem? (i := 1) (by decide +kernel)
theorem wd_X9_carryOut_2 : Cond.fieldLink RX9 273 "TurnstileBank$Orders" "kind" "I" ∈ wsX9_carryOut := List.mem_of_getElem? (i := 2) (by decide +kernel)
theorem wd_X9_carryOut_3 : Cond.fieldLink RX9 10 "TurnstileBank" "now" "LTurnstileBank$State;" ∈ wsX9_carryOut := List.mem_of_getElem? (i := 3) (by decide +kernel)
theorem wd_X9_carryOut_4 : Cond.fieldLink RX9 276 "TurnstileBank$Orders" "gate" "I" ∈ wsX9_carryOut := List.mem_of_getElem? (i := 4) (by decide +kernel)
theorem wd_X9_carryOut_5 : Cond.fieldLink RX9 277 "TurnstileBank$Orders" "number" "I" ∈ wsX9_carryOut := List.mem_of_getElem? (i := 5) (by decide +kernel)
theorem wd_X9_carryOut_6 : Cond.fieldLink RX9 280 "TurnstileBank$Orders" "slow" "Z" ∈ wsX9_carryOut := List.mem_of_getElem? (i := 6) (by decide +kernel)
theorem in_X9_carryOut_3 : ∀ w ∈ wsX30, w ∈ wsX9_carryOut := fun w h => List.mem_cons_of_mem _ (List.mem_append_left _ (List.mem_append_left _ (List.mem_append_left _ (List.mem_append_left _ (List.mem_append_left _ (List.mem_append_left _ (List.mem_append_left _ (List.mem_append_right _ h))))))))
theorem in_X9_carryOut_9 : ∀ w ∈ wsX90, w ∈ wsX9_carryOut := fun w h => List.mem_cons_of_mem _ (List.mem_append_left _ (List.mem_append_left _ (List.mem_append_left _ (List.mem_append_left _ (List.mem_append_left _ (List.mem_append_left _ (List.mem_append_left _ (List.mem_append_left _ (List.mem_append_right _ h)))))))))
def w_X9_carryOut  (u0 : Mm) (Φ : Int32 → Mm → Prop) : Prop := (if (u0 745 3) = 105 then (w_X8_comeIn 1 ((u0 745 4)) ((u0 745 5)) ((u0 745 6)) u0 (fun r2 u1 => (Φ r2 u1))) else (if (u0 745 3) = 111 then (w_X8_goOut 1 ((u0 745 4)) ((u0 745 5)) u0 (fun r5 u4 => (Φ r5 u4))) else (if (u0 745 3) = 116 then (w_X8_letTicksGo 1 ((u0 745 5)) u0 (fun r8 u7 => (Φ r8 u7))) else (w_X8_tellPinch 1 ((u0 745 4)) u0 (fun r11 u10 => (Φ r11 u10))))))
set_option maxHeartbeats 4000000 in
set_option maxRecDepth 100000 in
theorem t_X9_carryOut_0 {p : Program} {l : Launch} {e : Env} {s : State} {m : MethodId} {args : Array Value} {below : List Frame} {meth : Method} {c : Code} {D : va_G} {cA : Nat → ClassId} {o : Nat}  {Φ : Int32 → Mm → Prop} (C : Cx p m meth c s args cX9_carryOut 1 wsX9_carryOut RX9 (some .int) D (tysL cA)) : ∀  (u0 : Mm), ∀ (H : Heap) (locs : List Loc) (ls : Array Slot), Hp 747 o D (EC cA o u0) s H locs → lv_has ls 1 [(0, .ref (o + 0))] → w_X9_carryOut u0 Φ → W p l e rm_X9_carryOut s m args below meth c H locs 0 0 (MQ below (Qg vI Φ (fun μ => Wd 747 o D (tysL cA) (EC cA o μ)) (aA o 747)) args s 0 0 (aA o 747)) (F0 m 0 ls []) := by
  intro u0 H locs ls P hl h
  have hx := C.1.1
  have hb := C.1.2.1
  unfold w_X9_carryOut at h
  refine lv_aload_n hx hb dX9_carryOut_0 rfl (lv_at hl 0 rfl) ?_
  refine g_9_3 C P in_X9_carryOut_9 wd_X9_carryOut_1 kd_at_0 dX9_carryOut_1 ?_
  refine g_3_3 C P in_X9_carryOut_3 wd_X9_carryOut_2 kd_at_745 dX9_carryOut_4 ?_
  by_cases c3 : (u0 745 3) = 105
  · have h := ite_t h c3
    rw [c3]
    refine lv_lookup (off := 33) (tgt := 40) hx hb dX9_carryOut_7 (by decide) (by decide) (by decide) ?_
    refine lv_aload_n hx hb dX9_carryOut_40 rfl (lv_at hl 0 rfl) ?_
    refine g_9_0 C P in_X9_carryOut_9 wd_X9_carryOut_3 kd_at_0 dX9_carryOut_41 ?_
    refine lv_aload_n hx hb dX9_carryOut_44 rfl (lv_at hl 0 rfl) ?_
    refine g_9_3 C P in_X9_carryOut_9 wd_X9_carryOut_1 kd_at_0 dX9_carryOut_45 ?_
    refine g_3_4 C P in_X9_carryOut_3 wd_X9_carryOut_4 kd_at_745 dX9_carryOut_48 ?_
    refine lv_aload_n hx hb dX9_carryOut_51 rfl (lv_at hl 0 rfl) ?_
    refine g_9_3 C P in_X9_carryOut_9 wd_X9_carryOut_1 kd_at_0 dX9_carryOut_52 ?_
    refine g_3_5 C P in_X9_carryOut_3 wd_X9_carryOut_5 kd_at_745 dX9_carryOut_55 ?_
    refine lv_aload_n hx hb dX9_carryOut_58 rfl (lv_at hl 0 rfl) ?_
    refine g_9_3 C P in_X9_carryOut_9 wd_X9_carryOut_1 kd_at_0 dX9_carryOut_59 ?_
    refine g_3_6 C P in_X9_carryOut_3 wd_X9_carryOut_6 kd_at_745 dX9_carryOut_62 ?_
    refine r_calli (F := EC cA o) (va_runV (As := [.int (u0 745 4), .int (u0 745 5), .int (u0 745 6)]) (rest := []) C.1 (c_X8_comeIn l D cA o _ _ _ _ kd_at_1 u0 _ h) (cwV 3 C.1.2.2.2.2 gX9_carryOut_X8_comeIn rfl rfl rfl (by decide +kernel) ⟨Nat.le_of_ble_eq_true rfl, Nat.le_of_ble_eq_true rfl⟩) (r_preV C P [.int (u0 745 4), .int (u0 745 5), .int (u0 745 6)] (ci := 8) rfl (kd_lt kd_at_1 (by decide)) (EK_8 kd_at_1)) rfl rfl hl.1 rfl (lv_room (Nat.le_of_ble_eq_true rfl)) dX9_carryOut_65 ⟨Nat.le_of_ble_eq_true rfl, Nat.le_of_ble_eq_true rfl⟩) P.2 (fun r2 u1 H locs h P => ?_)
    exact r_ireti C P h dX9_carryOut_68
  have h := ite_f h c3
  by_cases c6 : (u0 745 3) = 111
  · have h := ite_t h c6
    rw [c6]
    refine lv_lookup (off := 62) (tgt := 69) hx hb dX9_carryOut_7 (by decide) (by decide) (by decide) ?_
    refine lv_aload_n hx hb dX9_carryOut_69 rfl (lv_at hl 0 rfl) ?_
    refine g_9_0 C P in_X9_carryOut_9 wd_X9_carryOut_3 kd_at_0 dX9_carryOut_70 ?_
    refine lv_aload_n hx hb dX9_carryOut_73 rfl (lv_at hl 0 rfl) ?_
    refine g_9_3 C P in_X9_carryOut_9 wd_X9_carryOut_1 kd_at_0 dX9_carryOut_74 ?_
    refine g_3_4 C P in_X9_carryOut_3 wd_X9_carryOut_4 kd_at_745 dX9_carryOut_77 ?_
    refine lv_aload_n hx hb dX9_carryOut_80 rfl (lv_at hl 0 rfl) ?_
    refine g_9_3 C P in_X9_carryOut_9 wd_X9_carryOut_1 kd_at_0 dX9_carryOut_81 ?_
    refine g_3_5 C P in_X9_carryOut_3 wd_X9_carryOut_5 kd_at_745 dX9_carryOut_84 ?_
    refine r_calli (F := EC cA o) (va_runV (As := [.int (u0 745 4), .int (u0 745 5)]) (rest := []) C.1 (c_X8_goOut l D cA o _ _ _ kd_at_1 u0 _ h) (cwV 2 C.1.2.2.2.2 gX9_carryOut_X8_goOut rfl rfl rfl (by decide +kernel) ⟨Nat.le_of_ble_eq_true rfl, Nat.le_of_ble_eq_true rfl⟩) (r_preV C P [.int (u0 745 4), .int (u0 745 5)] (ci := 8) rfl (kd_lt kd_at_1 (by decide)) (EK_8 kd_at_1)) rfl rfl hl.1 rfl (lv_room (Nat.le_of_ble_eq_true rfl)) dX9_carryOut_87 ⟨Nat.le_of_ble_eq_true rfl, Nat.le_of_ble_eq_true rfl⟩) P.2 (fun r5 u4 H locs h P => ?_)
    exact r_ireti C P h dX9_carryOut_90
  have h := ite_f h c6
  by_cases c9 : (u0 745 3) = 116
  · have h := ite_t h c9
    rw [c9]
    refine lv_lookup (off := 84) (tgt := 91) hx hb dX9_carryOut_7 (by decide) (by decide) (by decide) ?_
    refine lv_aload_n hx hb dX9_carryOut_91 rfl (lv_at hl 0 rfl) ?_
    refine g_9_0 C P in_X9_carryOut_9 wd_X9_carryOut_3 kd_at_0 dX9_carryOut_92 ?_
    refine lv_aload_n hx hb dX9_carryOut_95 rfl (lv_at hl 0 rfl) ?_
    refine g_9_3 C P in_X9_carryOut_9 wd_X9_carryOut_1 kd_at_0 dX9_carryOut_96 ?_
    refine g_3_5 C P in_X9_carryOut_3 wd_X9_carryOut_5 kd_at_745 dX9_carryOut_99 ?_
    refine r_calli (F := EC cA o) (va_runV (As := [.int (u0 745 5)]) (rest := []) C.1 (c_X8_letTicksGo l D cA o _ _ kd_at_1 u0 _ h) (cwV 1 C.1.2.2.2.2 gX9_carryOut_X8_letTicksGo rfl rfl rfl (by decide +kernel) ⟨Nat.le_of_ble_eq_true rfl, Nat.le_of_ble_eq_true rfl⟩) (r_preV C P [.int (u0 745 5)] (ci := 8) rfl (kd_lt kd_at_1 (by decide)) (EK_8 kd_at_1)) rfl rfl hl.1 rfl (lv_room (Nat.le_of_ble_eq_true rfl)) dX9_carryOut_102 ⟨Nat.le_of_ble_eq_true rfl, Nat.le_of_ble_eq_true rfl⟩) P.2 (fun r8 u7 H locs h P => ?_)
    exact r_ireti C P h dX9_carryOut_105
  have h := ite_f h c9
  refine lv_lookup (off := 99) (tgt := 106) hx hb dX9_carryOut_7 (by decide) (by have q105 : ¬ ((u0 745 3)).toInt = 105 := fun e => c3 (Int32.toInt_inj.mp e); have q111 : ¬ ((u0 745 3)).toInt = 111 := fun e => c6 (Int32.toInt_inj.mp e); have q116 : ¬ ((u0 745 3)).toInt = 116 := fun e => c9 (Int32.toInt_inj.mp e); have q0 := Int32.toInt_lt ((u0 745 3)); simp [Op.lookupswitch.offset, q105, Ne.symm q105, q111, Ne.symm q111, q116, Ne.symm q116]) (by decide) ?_
  refine lv_aload_n hx hb dX9_carryOut_106 rfl (lv_at hl 0 rfl) ?_
  refine g_9_0 C P in_X9_carryOut_9 wd_X9_carryOut_3 kd_at_0 dX9_carryOut_107 ?_
  refine lv_aload_n hx hb dX9_carryOut_110 rfl (lv_at hl 0 rfl) ?_
  refine g_9_3 C P in_X9_carryOut_9 wd_X9_carryOut_1 kd_at_0 dX9_carryOut_111 ?_
  refine g_3_4 C P in_X9_carryOut_3 wd_X9_carryOut_4 kd_at_745 dX9_carryOut_114 ?_
  refine r_calli (F := EC cA o) (va_runV (As := [.int (u0 745 4)]) (rest := []) C.1 (c_X8_tellPinch l D cA o _ _ kd_at_1 u0 _ h) (cwV 1 C.1.2.2.2.2 gX9_carryOut_X8_tellPinch rfl rfl rfl (by decide +kernel) ⟨Nat.le_of_ble_eq_true rfl, Nat.le_of_ble_eq_true rfl⟩) (r_preV C P [.int (u0 745 4)] (ci := 8) rfl (kd_lt kd_at_1 (by decide)) (EK_8 kd_at_1)) rfl rfl hl.1 rfl (lv_room (Nat.le_of_ble_eq_true rfl)) dX9_carryOut_117 ⟨Nat.le_of_ble_eq_true rfl, Nat.le_of_ble_eq_true rfl⟩) P.2 (fun r11 u10 H locs h P => ?_)
  exact r_ireti C P h dX9_carryOut_120
set_option maxHeartbeats 4000000 in
set_option maxRecDepth 100000 in
theorem c_X9_carryOut (l : Launch) (D : va_G) (cA : Nat → ClassId) (o : Nat)   (u0 : Mm) (Φ : Int32 → Mm → Prop) (h : w_X9_carryOut u0 Φ) : Met l yX9_carryOut wsX9_carryOut rm_X9_carryOut (va_Pc [.ref (o + 0)] (Wd 747 o D (tysL cA) (EC cA o u0))) (Qg vI Φ (fun μ => Wd 747 o D (tysL cA) (EC cA o μ)) (aA o 747)) 0 0 (aA o 747) := by
  refine Met.ofW (cc := cX9_carryOut) (maxL := 1) (ret := (some .int)) (by decide) rfl ?_
  intro p e s m args below meth c s₁ B hml hv
  obtain ⟨rfl, hv⟩ := hv
  have hl := lv_entry ([.ref (o + 0)]) (n := 1) (Nat.le_of_ble_eq_true rfl)
  rw [lg_entry_eq]
  exact t_X9_carryOut_0 ⟨⟨B.exec, B.bytes, hml, findClass_of_methodNamed B.named, atoms_spec (ws := wsX9_carryOut) B.pre⟩, B.returns, B.notSynchronized, hv.2⟩ u0 _ _ _ ⟨hv.1, va_S.rf⟩ hl h
abbrev rm_X9_run : Room := { frames := 7, cells := 0, slots := 0, locals := 157 }
theorem wd_X9_run_1 : Cond.fieldLink RX9 29 "TurnstileBank" "orders" "LTurnstileBank$Orders;" ∈ wsX9_run := List.mem_of_getElem? (i := 1) (by decide +kernel)
theorem wd_X9_run_2 : Cond.fieldLink RX9 10 "TurnstileBank" "now" "LTurnstileBank$State;" ∈ wsX9_run := List.mem_of_getElem? (i := 2) (by decide +kernel)
theorem wd_X9_run_3 : Cond.fieldLink RX9 102 "TurnstileBank$State" "gateCount" "I" ∈ wsX9_run := List.mem_of_getElem? (i := 3) (by decide +kernel)
theorem wd_X9_run_4 : Cond.fieldLink RX9 22 "TurnstileBank" "history" "LTurnstileBank$History;" ∈ wsX9_run := List.mem_of_getElem? (i := 4) (by decide +kernel)
theorem in_X9_run_8 : ∀ w ∈ wsX80, w ∈ wsX9_run := fun w h => List.mem_cons_of_mem _ (List.mem_append_left _ (List.mem_append_left _ (List.mem_append_left _ (List.mem_append_left _ (List.mem_append_left _ (List.mem_append_left _ (List.mem_append_left _ (List.mem_append_left _ (List.mem_append_right _ h)))))))))
theorem in_X9_run_9 : ∀ w ∈ wsX90, w ∈ wsX9_run := fun w h => List.mem_cons_of_mem _ (List.mem_append_left _ (List.mem_append_left _ (List.mem_append_left _ (List.mem_append_left _ (List.mem_append_left _ (List.mem_append_left _ (List.mem_append_left _ (List.mem_append_left _ (List.mem_append_left _ (List.mem_append_right _ h))))))))))
def w_X9_run_52  (Φ : Int32 → Mm → Prop) : Nat → Int32 → Mm → Prop
  | 0, _, _ => False
  | n + 1, x2, u0 => (if (50 : Int32) ≤ x2 then (Φ x2 u0) else (w_X3_readOrder ((u0 1 5)) u0 (fun r12 u11 => (if r12 = 0 then (Φ x2 u11) else (w_X9_carryOut u11 (fun r15 u14 => (w_X9_isError r15 u14 (fun r17 u16 => (if r17 = 0 then (w_X9_run_52 Φ n ((x2 + 1)) u16) else (Φ x2 u16))))))))))
set_option maxHeartbeats 4000000 in
set_option maxRecDepth 100000 in
theorem t_X9_run_52 {p : Program} {l : Launch} {e : Env} {s : State} {m : MethodId} {args : Array Value} {below : List Frame} {meth : Method} {c : Code} {D : va_G} {cA : Nat → ClassId} {o : Nat}  {Φ : Int32 → Mm → Prop} (C : Cx p m meth c s args cX9_run 3 wsX9_run RX9 (some .int) D (tysL cA)) : ∀ n : Nat, ∀ (x2 : Int32) (u0 : Mm), ∀ (H : Heap) (locs : List Loc) (ls : Array Slot), Hp 747 o D (EC cA o u0) s H locs → lv_has ls 3 [(0, .ref (o + 0)), (2, .int x2)] → w_X9_run_52 Φ n x2 u0 → W p l e rm_X9_run s m args below meth c H locs 0 0 (MQ below (Qg vI Φ (fun μ => Wd 747 o D (tysL cA) (EC cA o μ)) (aA o 747)) args s 0 0 (aA o 747)) (F0 m 52 ls []) := by
  intro n
  induction n with
  | zero => intro x2 u0 H locs ls P hl h; exact h.elim
  | succ n ih =>
    intro x2 u0 H locs ls P hl h
    have hx := C.1.1
    have hb := C.1.2.1
    rw [w_X9_run_52] at h
    refine lv_iload_n hx hb dX9_run_52 rfl (lv_at hl 1 rfl) ?_
    refine lv_bipush (v := 50) hx hb dX9_run_53 (by decide) ?_
    refine lv_icmp_ge (tgt := 91) hx hb dX9_run_55 (by decide) (fun c10 => ?_) (fun c10 => ?_)
    · have h := ite_t h c10
      refine lv_iload_n hx hb dX9_run_91 rfl (lv_at hl 1 rfl) ?_
      exact r_ireti C P h dX9_run_92
    · have h := ite_f h c10
      refine lv_aload_n hx hb dX9_run_58 rfl (lv_at hl 0 rfl) ?_
      refine g_9_3 C P in_X9_run_9 wd_X9_run_1 kd_at_0 dX9_run_59 ?_
      refine lv_aload_n hx hb dX9_run_62 rfl (lv_at hl 0 rfl) ?_
      refine g_9_0 C P in_X9_run_9 wd_X9_run_2 kd_at_0 dX9_run_63 ?_
      refine g_8_5 C P in_X9_run_8 wd_X9_run_3 kd_at_1 dX9_run_66 ?_
      refine r_calli (F := EC cA o) (va_runV (As := [.int (u0 1 5)]) (rest := []) C.1 (c_X3_readOrder l D cA o _ u0 _ h) (cwV 1 C.1.2.2.2.2 gX9_run_X3_readOrder rfl rfl rfl (by decide +kernel) ⟨Nat.le_of_ble_eq_true rfl, Nat.le_of_ble_eq_true rfl⟩) (r_preV C P [.int (u0 1 5)] (ci := 3) rfl (kd_lt kd_at_745 (by decide)) (EK_3 kd_at_745)) rfl rfl hl.1 rfl (lv_room (Nat.le_of_ble_eq_true rfl)) dX9_run_69 ⟨Nat.le_of_ble_eq_true rfl, Nat.le_of_ble_eq_true rfl⟩) P.2 (fun r12 u11 H locs h P => ?_)
      refine lv_if_eq (tgt := 91) hx hb dX9_run_72 (by decide) (fun c13 => ?_) (fun c13 => ?_)
      · have h := ite_t h c13
        refine lv_iload_n hx hb dX9_run_91 rfl (lv_at hl 1 rfl) ?_
        exact r_ireti C P h dX9_run_92
      · have h := ite_f h c13
        refine lv_aload_n hx hb dX9_run_75 rfl (lv_at hl 0 rfl) ?_
        refine r_calli (F := EC cA o) (va_runV (As := []) (rest := []) C.1 (c_X9_carryOut l D cA o u11 _ h) (cwV 0 C.1.2.2.2.2 gX9_run_X9_carryOut rfl rfl rfl (by decide +kernel) ⟨Nat.le_of_ble_eq_true rfl, Nat.le_of_ble_eq_true rfl⟩) (r_preV C P [] (ci := 9) rfl (kd_lt kd_at_0 (by decide)) (EK_9 kd_at_0)) rfl rfl hl.1 rfl (lv_room (Nat.le_of_ble_eq_true rfl)) dX9_run_76 ⟨Nat.le_of_ble_eq_true rfl, Nat.le_of_ble_eq_true rfl⟩) P.2 (fun r15 u14 H locs h P => ?_)
        refine r_calli (F := EC cA o) (va_runS (As := [.int r15]) (rest := []) C.1 (c_X9_isError l D cA o _ u14 _ h) (va_cwS 1 C.1.2.2.2.2 gX9_run_X9_isError rfl rfl rfl (by decide +kernel) ⟨Nat.le_of_ble_eq_true rfl, Nat.le_of_ble_eq_true rfl⟩) (r_pre C P [.int r15]) rfl rfl hl.1 rfl (lv_room (Nat.le_of_ble_eq_true rfl)) dX9_run_79 ⟨Nat.le_of_ble_eq_true rfl, Nat.le_of_ble_eq_true rfl⟩) P.2 (fun r17 u16 H locs h P => ?_)
        refine lv_if_ne (tgt := 91) hx hb dX9_run_82 (by decide) (fun c18 => ?_) (fun c18 => ?_)
        · have h := ite_f h c18
          refine lv_iload_n hx hb dX9_run_91 rfl (lv_at hl 1 rfl) ?_
          exact r_ireti C P h dX9_run_92
        · have h := ite_t h c18
          refine lv_iinc (v := (x2 + 1)) (lv' := [(2, .int (x2 + 1)), (0, .ref (o + 0))]) hx hb dX9_run_85 hl (k := 1) rfl rfl (by decide) rfl (fun ls hl => ?_)
          refine lv_goto (tgt := 52) hx hb dX9_run_88 (by decide) ?_
          exact ih _ u16 _ _ _ P (lv_sub hl [1, 0] rfl) h
def w_X9_run  (u0 : Mm) (Φ : Int32 → Mm → Prop) : Prop := (w_X3_findFault ((u0 1 5)) u0 (fun r2 u1 => (if r2 = (-1 : Int32) then (w_X2_prepare 1 u1 (fun _ u4 => (w_X2_keep u4 (fun _ u6 => (w_X3_restart u6 (fun _ u8 => (∃ n52 : Nat, w_X9_run_52 Φ n52 ((0 : Int32)) u8))))))) else (Φ (((-100 : Int32) - r2)) u1))))
set_option maxHeartbeats 4000000 in
set_option maxRecDepth 100000 in
theorem t_X9_run_0 {p : Program} {l : Launch} {e : Env} {s : State} {m : MethodId} {args : Array Value} {below : List Frame} {meth : Method} {c : Code} {D : va_G} {cA : Nat → ClassId} {o : Nat}  {Φ : Int32 → Mm → Prop} (C : Cx p m meth c s args cX9_run 3 wsX9_run RX9 (some .int) D (tysL cA)) : ∀  (u0 : Mm), ∀ (H : Heap) (locs : List Loc) (ls : Array Slot), Hp 747 o D (EC cA o u0) s H locs → lv_has ls 3 [(0, .ref (o + 0))] → w_X9_run u0 Φ → W p l e rm_X9_run s m args below meth c H locs 0 0 (MQ below (Qg vI Φ (fun μ => Wd 747 o D (tysL cA) (EC cA o μ)) (aA o 747)) args s 0 0 (aA o 747)) (F0 m 0 ls []) := by
  intro u0 H locs ls P hl h
  have hx := C.1.1
  have hb := C.1.2.1
  unfold w_X9_run at h
  refine lv_aload_n hx hb dX9_run_0 rfl (lv_at hl 0 rfl) ?_
  refine g_9_3 C P in_X9_run_9 wd_X9_run_1 kd_at_0 dX9_run_1 ?_
  refine lv_aload_n hx hb dX9_run_4 rfl (lv_at hl 0 rfl) ?_
  refine g_9_0 C P in_X9_run_9 wd_X9_run_2 kd_at_0 dX9_run_5 ?_
  refine g_8_5 C P in_X9_run_8 wd_X9_run_3 kd_at_1 dX9_run_8 ?_
  refine r_calli (F := EC cA o) (va_runV (As := [.int (u0 1 5)]) (rest := []) C.1 (c_X3_findFault l D cA o _ u0 _ h) (cwV 1 C.1.2.2.2.2 gX9_run_X3_findFault rfl rfl rfl (by decide +kernel) ⟨Nat.le_of_ble_eq_true rfl, Nat.le_of_ble_eq_true rfl⟩) (r_preV C P [.int (u0 1 5)] (ci := 3) rfl (kd_lt kd_at_745 (by decide)) (EK_3 kd_at_745)) rfl rfl hl.1 rfl (lv_room (Nat.le_of_ble_eq_true rfl)) dX9_run_11 ⟨Nat.le_of_ble_eq_true rfl, Nat.le_of_ble_eq_true rfl⟩) P.2 (fun r2 u1 H locs h P => ?_)
  refine lv_istore_n (lv' := [(1, .int r2), (0, .ref (o + 0))]) hx hb dX9_run_14 rfl hl (by decide) rfl (fun ls hl => ?_)
  refine lv_iload_n hx hb dX9_run_15 rfl (lv_at hl 0 rfl) ?_
  refine lv_iconst (v := -1) hx hb dX9_run_16 (by decide) ?_
  refine lv_icmp_eq (tgt := 25) hx hb dX9_run_17 (by decide) (fun c3 => ?_) (fun c3 => ?_)
  · have h := ite_t h c3
    refine lv_aload_n hx hb dX9_run_25 rfl (lv_at hl 1 rfl) ?_
    refine g_9_2 C P in_X9_run_9 wd_X9_run_4 kd_at_0 dX9_run_26 ?_
    refine lv_aload_n hx hb dX9_run_29 rfl (lv_at hl 1 rfl) ?_
    refine g_9_0 C P in_X9_run_9 wd_X9_run_2 kd_at_0 dX9_run_30 ?_
    refine r_callv (F := EC cA o) (va_runV (As := [.ref (o + 1)]) (rest := []) C.1 (c_X2_prepare l D cA o _ kd_at_1 u1 _ h) (cwV 1 C.1.2.2.2.2 gX9_run_X2_prepare rfl rfl rfl (by decide +kernel) ⟨Nat.le_of_ble_eq_true rfl, Nat.le_of_ble_eq_true rfl⟩) (r_preV C P [.ref (o + 1)] (ci := 2) rfl (kd_lt kd_at_213 (by decide)) (EK_2 kd_at_213)) rfl rfl hl.1 rfl (lv_room (Nat.le_of_ble_eq_true rfl)) dX9_run_33 ⟨Nat.le_of_ble_eq_true rfl, Nat.le_of_ble_eq_true rfl⟩) P.2 (fun u4 H locs h P => ?_)
    refine lv_aload_n hx hb dX9_run_36 rfl (lv_at hl 1 rfl) ?_
    refine g_9_2 C P in_X9_run_9 wd_X9_run_4 kd_at_0 dX9_run_37 ?_
    refine r_callv (F := EC cA o) (va_runV (As := []) (rest := []) C.1 (c_X2_keep l D cA o u4 _ h) (cwV 0 C.1.2.2.2.2 gX9_run_X2_keep rfl rfl rfl (by decide +kernel) ⟨Nat.le_of_ble_eq_true rfl, Nat.le_of_ble_eq_true rfl⟩) (r_preV C P [] (ci := 2) rfl (kd_lt kd_at_213 (by decide)) (EK_2 kd_at_213)) rfl rfl hl.1 rfl (lv_room (Nat.le_of_ble_eq_true rfl)) dX9_run_40 ⟨Nat.le_of_ble_eq_true rfl, Nat.le_of_ble_eq_true rfl⟩) P.2 (fun u6 H locs h P => ?_)
    refine lv_aload_n hx hb dX9_run_43 rfl (lv_at hl 1 rfl) ?_
    refine g_9_3 C P in_X9_run_9 wd_X9_run_1 kd_at_0 dX9_run_44 ?_
    refine r_callv (F := EC cA o) (va_runV (As := []) (rest := []) C.1 (c_X3_restart l D cA o u6 _ h) (cwV 0 C.1.2.2.2.2 gX9_run_X3_restart rfl rfl rfl (by decide +kernel) ⟨Nat.le_of_ble_eq_true rfl, Nat.le_of_ble_eq_true rfl⟩) (r_preV C P [] (ci := 3) rfl (kd_lt kd_at_745 (by decide)) (EK_3 kd_at_745)) rfl rfl hl.1 rfl (lv_room (Nat.le_of_ble_eq_true rfl)) dX9_run_47 ⟨Nat.le_of_ble_eq_true rfl, Nat.le_of_ble_eq_true rfl⟩) P.2 (fun u8 H locs h P => ?_)
    refine lv_iconst (v := 0) hx hb dX9_run_50 (by decide) ?_
    refine lv_istore_n (lv' := [(2, .int (0 : Int32)), (1, .int r2), (0, .ref (o + 0))]) hx hb dX9_run_51 rfl hl (by decide) rfl (fun ls hl => ?_)
    obtain ⟨n52, h⟩ := h
    exact t_X9_run_52 C n52 _ u8 _ _ _ P (lv_sub hl [2, 0] rfl) h
  · have h := ite_f h c3
    refine lv_bipush (v := -100) hx hb dX9_run_20 (by decide) ?_
    refine lv_iload_n hx hb dX9_run_22 rfl (lv_at hl 0 rfl) ?_
    refine lv_isub hx hb dX9_run_23 ?_
    exact r_ireti C P h dX9_run_24
set_option maxHeartbeats 4000000 in
set_option maxRecDepth 100000 in
theorem c_X9_run (l : Launch) (D : va_G) (cA : Nat → ClassId) (o : Nat)   (u0 : Mm) (Φ : Int32 → Mm → Prop) (h : w_X9_run u0 Φ) : Met l yX9_run wsX9_run rm_X9_run (va_Pc [.ref (o + 0)] (Wd 747 o D (tysL cA) (EC cA o u0))) (Qg vI Φ (fun μ => Wd 747 o D (tysL cA) (EC cA o μ)) (aA o 747)) 0 0 (aA o 747) := by
  refine Met.ofW (cc := cX9_run) (maxL := 3) (ret := (some .int)) (by decide) rfl ?_
  intro p e s m args below meth c s₁ B hml hv
  obtain ⟨rfl, hv⟩ := hv
  have hl := lv_entry ([.ref (o + 0)]) (n := 3) (Nat.le_of_ble_eq_true rfl)
  rw [lg_entry_eq]
  exact t_X9_run_0 ⟨⟨B.exec, B.bytes, hml, findClass_of_methodNamed B.named, atoms_spec (ws := wsX9_run) B.pre⟩, B.returns, B.notSynchronized, hv.2⟩ u0 _ _ _ ⟨hv.1, va_S.rf⟩ hl h
abbrev rm_X9_undo : Room := { frames := 4, cells := 0, slots := 0, locals := 104 }
theorem wd_X9_undo_1 : Cond.fieldLink RX9 22 "TurnstileBank" "history" "LTurnstileBank$History;" ∈ wsX9_undo := List.mem_of_getElem? (i := 1) (by decide +kernel)
theorem wd_X9_undo_2 : Cond.fieldLink RX9 118 "TurnstileBank$History" "length" "I" ∈ wsX9_undo := List.mem_of_getElem? (i := 2) (by decide +kernel)
theorem wd_X9_undo_3 : Cond.fieldLink RX9 10 "TurnstileBank" "now" "LTurnstileBank$State;" ∈ wsX9_undo := List.mem_of_getElem? (i := 3) (by decide +kernel)
theorem in_X9_undo_2 : ∀ w ∈ wsX20, w ∈ wsX9_undo := fun w h => List.mem_cons_of_mem _ (List.mem_append_left _ (List.mem_append_left _ (List.mem_append_left _ (List.mem_append_left _ (List.mem_append_left _ (List.mem_append_left _ (List.mem_append_left _ (List.mem_append_right _ h))))))))
theorem in_X9_undo_9 : ∀ w ∈ wsX90, w ∈ wsX9_undo := fun w h => List.mem_cons_of_mem _ (List.mem_append_left _ (List.mem_append_left _ (List.mem_append_left _ (List.mem_append_left _ (List.mem_append_left _ (List.mem_append_left _ (List.mem_append_left _ (List.mem_append_left _ (List.mem_append_right _ h)))))))))
def w_X9_undo  (u0 : Mm) (Φ : Int32 → Mm → Prop) : Prop := (if (u0 213 2) = 0 then (Φ ((-5 : Int32)) u0) else (w_X2_takeLatest u0 (fun r3 u2 => (w_X8_copyFrom 1 r3 u2 (fun _ u5 => (Φ ((u5 213 2)) u5))))))
set_option maxHeartbeats 4000000 in
set_option maxRecDepth 100000 in
theorem t_X9_undo_0 {p : Program} {l : Launch} {e : Env} {s : State} {m : MethodId} {args : Array Value} {below : List Frame} {meth : Method} {c : Code} {D : va_G} {cA : Nat → ClassId} {o : Nat}  {Φ : Int32 → Mm → Prop} (C : Cx p m meth c s args cX9_undo 1 wsX9_undo RX9 (some .int) D (tysL cA)) : ∀  (u0 : Mm), ∀ (H : Heap) (locs : List Loc) (ls : Array Slot), Hp 747 o D (EC cA o u0) s H locs → lv_has ls 1 [(0, .ref (o + 0))] → w_X9_undo u0 Φ → W p l e rm_X9_undo s m args below meth c H locs 0 0 (MQ below (Qg vI Φ (fun μ => Wd 747 o D (tysL cA) (EC cA o μ)) (aA o 747)) args s 0 0 (aA o 747)) (F0 m 0 ls []) := by
  intro u0 H locs ls P hl h
  have hx := C.1.1
  have hb := C.1.2.1
  unfold w_X9_undo at h
  refine lv_aload_n hx hb dX9_undo_0 rfl (lv_at hl 0 rfl) ?_
  refine g_9_2 C P in_X9_undo_9 wd_X9_undo_1 kd_at_0 dX9_undo_1 ?_
  refine g_2_2 C P in_X9_undo_2 wd_X9_undo_2 kd_at_213 dX9_undo_4 ?_
  refine lv_if_ne (tgt := 13) hx hb dX9_undo_7 (by decide) (fun c1 => ?_) (fun c1 => ?_)
  · have h := ite_f h c1
    refine lv_aload_n hx hb dX9_undo_13 rfl (lv_at hl 0 rfl) ?_
    refine g_9_0 C P in_X9_undo_9 wd_X9_undo_3 kd_at_0 dX9_undo_14 ?_
    refine lv_aload_n hx hb dX9_undo_17 rfl (lv_at hl 0 rfl) ?_
    refine g_9_2 C P in_X9_undo_9 wd_X9_undo_1 kd_at_0 dX9_undo_18 ?_
    refine r_callr (F := EC cA o) (va_runV (As := []) (rest := [.ref (o + 1)]) C.1 (c_X2_takeLatest l D cA o u0 _ h) (cwV 0 C.1.2.2.2.2 gX9_undo_X2_takeLatest rfl rfl rfl (by decide +kernel) ⟨Nat.le_of_ble_eq_true rfl, Nat.le_of_ble_eq_true rfl⟩) (r_preV C P [] (ci := 2) rfl (kd_lt kd_at_213 (by decide)) (EK_2 kd_at_213)) rfl rfl hl.1 rfl (lv_room (Nat.le_of_ble_eq_true rfl)) dX9_undo_21 ⟨Nat.le_of_ble_eq_true rfl, Nat.le_of_ble_eq_true rfl⟩) P.2 (fun r3 u2 H locs h P => ?_)
    obtain ⟨h, hk4⟩ := h
    refine r_callv (F := EC cA o) (va_runV (As := [.ref (o + r3)]) (rest := []) C.1 (c_X8_copyFrom l D cA o _ _ kd_at_1 hk4 u2 _ h) (cwV 1 C.1.2.2.2.2 gX9_undo_X8_copyFrom rfl rfl rfl (by decide +kernel) ⟨Nat.le_of_ble_eq_true rfl, Nat.le_of_ble_eq_true rfl⟩) (r_preV C P [.ref (o + r3)] (ci := 8) rfl (kd_lt kd_at_1 (by decide)) (EK_8 kd_at_1)) rfl rfl hl.1 rfl (lv_room (Nat.le_of_ble_eq_true rfl)) dX9_undo_24 ⟨Nat.le_of_ble_eq_true rfl, Nat.le_of_ble_eq_true rfl⟩) P.2 (fun u5 H locs h P => ?_)
    refine lv_aload_n hx hb dX9_undo_27 rfl (lv_at hl 0 rfl) ?_
    refine g_9_2 C P in_X9_undo_9 wd_X9_undo_1 kd_at_0 dX9_undo_28 ?_
    refine g_2_2 C P in_X9_undo_2 wd_X9_undo_2 kd_at_213 dX9_undo_31 ?_
    exact r_ireti C P h dX9_undo_34
  · have h := ite_t h c1
    refine lv_bipush (v := -5) hx hb dX9_undo_10 (by decide) ?_
    exact r_ireti C P h dX9_undo_12
set_option maxHeartbeats 4000000 in
set_option maxRecDepth 100000 in
theorem c_X9_undo (l : Launch) (D : va_G) (cA : Nat → ClassId) (o : Nat)   (u0 : Mm) (Φ : Int32 → Mm → Prop) (h : w_X9_undo u0 Φ) : Met l yX9_undo wsX9_undo rm_X9_undo (va_Pc [.ref (o + 0)] (Wd 747 o D (tysL cA) (EC cA o u0))) (Qg vI Φ (fun μ => Wd 747 o D (tysL cA) (EC cA o μ)) (aA o 747)) 0 0 (aA o 747) := by
  refine Met.ofW (cc := cX9_undo) (maxL := 1) (ret := (some .int)) (by decide) rfl ?_
  intro p e s m args below meth c s₁ B hml hv
  obtain ⟨rfl, hv⟩ := hv
  have hl := lv_entry ([.ref (o + 0)]) (n := 1) (Nat.le_of_ble_eq_true rfl)
  rw [lg_entry_eq]
  exact t_X9_undo_0 ⟨⟨B.exec, B.bytes, hml, findClass_of_methodNamed B.named, atoms_spec (ws := wsX9_undo) B.pre⟩, B.returns, B.notSynchronized, hv.2⟩ u0 _ _ _ ⟨hv.1, va_S.rf⟩ hl h
