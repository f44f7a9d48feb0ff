abbrev rm_X5_copyFrom : Room := { frames := 0, cells := 0, slots := 0, locals := 0 }
theorem wd_X5_copyFrom_1 : Cond.fieldLink RX5 9 "TurnstileBank$Person" "pass" "I" ∈ wsX5_copyFrom := List.mem_of_getElem? (i := 1) (by decide +kernel)
theorem wd_X5_copyFrom_2 : Cond.fieldLink RX5 15 "TurnstileBank$Person" "slow" "Z" ∈ wsX5_copyFrom := List.mem_of_getElem? (i := 2) (by decide +kernel)
theorem wd_X5_copyFrom_3 : Cond.fieldLink RX5 22 "TurnstileBank$Person" "where" "I" ∈ wsX5_copyFrom := List.mem_of_getElem? (i := 3) (by decide +kernel)
theorem wd_X5_copyFrom_4 : Cond.fieldLink RX5 25 "TurnstileBank$Person" "gate" "I" ∈ wsX5_copyFrom := List.mem_of_getElem? (i := 4) (by decide +kernel)
theorem wd_X5_copyFrom_5 : Cond.fieldLink RX5 19 "TurnstileBank$Person" "refusal" "I" ∈ wsX5_copyFrom := List.mem_of_getElem? (i := 5) (by decide +kernel)
theorem wd_X5_copyFrom_6 : Cond.fieldLink RX5 28 "TurnstileBank$Person" "waitingSince" "I" ∈ wsX5_copyFrom := List.mem_of_getElem? (i := 6) (by decide +kernel)
theorem wd_X5_copyFrom_7 : Cond.fieldLink RX5 31 "TurnstileBank$Person" "wantsOut" "Z" ∈ wsX5_copyFrom := List.mem_of_getElem? (i := 7) (by decide +kernel)
theorem in_X5_copyFrom_5 : ∀ w ∈ wsX50, w ∈ wsX5_copyFrom := fun w h => List.mem_cons_of_mem _ (List.mem_append_right _ h)
def w_X5_copyFrom (k0 : Nat) (k1 : Nat) (u0 : Mm) (Φ : Unit → Mm → Prop) : Prop := (∀ u1 : Mm, u1 = up2 u0 k0 0 (u0 k1 0) → (isB (u1 k1 1) ∧ ∀ u2 : Mm, u2 = up2 u1 k0 1 (u1 k1 1) → (∀ u3 : Mm, u3 = up2 u2 k0 2 (u2 k1 2) → (∀ u4 : Mm, u4 = up2 u3 k0 3 (u3 k1 3) → (∀ u5 : Mm, u5 = up2 u4 k0 4 (u4 k1 4) → (∀ u6 : Mm, u6 = up2 u5 k0 5 (u5 k1 5) → (isB (u6 k1 6) ∧ ∀ u7 : Mm, u7 = up2 u6 k0 6 (u6 k1 6) → (Φ () u7))))))))
set_option maxHeartbeats 4000000 in
set_option maxRecDepth 100000 in
theorem t_X5_copyFrom_0 {p : Program} {l : Launch} {e : Env} {s : State} {m : MethodId} {args : Array Value} {below : List Frame} {meth : Method} {c : Code} {D : va_G} {cA : Nat → ClassId} {o : Nat}  {Φ : Unit → Mm → Prop} (C : Cx p m meth c s args cX5_copyFrom 2 wsX5_copyFrom RX5 none D (tysL cA)) : ∀ (k0 : Nat) (k1 : Nat) (u0 : Mm), kd k0 = 5 → kd k1 = 5 → ∀ (H : Heap) (locs : List Loc) (ls : Array Slot), Hp 747 o D (EC cA o u0) s H locs → lv_has ls 2 [(0, .ref (o + k0)), (1, .ref (o + k1))] → w_X5_copyFrom k0 k1 u0 Φ → W p l e rm_X5_copyFrom s m args below meth c H locs 0 0 (MQ below (Qg vV Φ (fun μ => Wd 747 o D (tysL cA) (EC cA o μ)) (aA o 747)) args s 0 0 (aA o 747)) (F0 m 0 ls []) := by
  intro k0 k1 u0 hk0 hk1 H locs ls P hl h
  have hx := C.1.1
  have hb := C.1.2.1
  unfold w_X5_copyFrom at h
  refine lv_aload_n hx hb dX5_copyFrom_0 rfl (lv_at hl 0 rfl) ?_
  refine lv_aload_n hx hb dX5_copyFrom_1 rfl (lv_at hl 1 rfl) ?_
  refine g_5_0 C P in_X5_copyFrom_5 wd_X5_copyFrom_1 hk1 dX5_copyFrom_2 ?_
  refine p_5_0 C P in_X5_copyFrom_5 wd_X5_copyFrom_1 hk0 dX5_copyFrom_5 (fun u1 eu1 H locs P => ?_)
  have h := h u1 eu1
  refine lv_aload_n hx hb dX5_copyFrom_8 rfl (lv_at hl 0 rfl) ?_
  refine lv_aload_n hx hb dX5_copyFrom_9 rfl (lv_at hl 1 rfl) ?_
  refine g_5_1 C P in_X5_copyFrom_5 wd_X5_copyFrom_2 hk1 dX5_copyFrom_10 ?_
  obtain ⟨hB, h⟩ := h
  refine p_5_1 C P in_X5_copyFrom_5 wd_X5_copyFrom_2 hk0 hB dX5_copyFrom_13 (fun u2 eu2 H locs P => ?_)
  have h := h u2 eu2
  refine lv_aload_n hx hb dX5_copyFrom_16 rfl (lv_at hl 0 rfl) ?_
  refine lv_aload_n hx hb dX5_copyFrom_17 rfl (lv_at hl 1 rfl) ?_
  refine g_5_2 C P in_X5_copyFrom_5 wd_X5_copyFrom_3 hk1 dX5_copyFrom_18 ?_
  refine p_5_2 C P in_X5_copyFrom_5 wd_X5_copyFrom_3 hk0 dX5_copyFrom_21 (fun u3 eu3 H locs P => ?_)
  have h := h u3 eu3
  refine lv_aload_n hx hb dX5_copyFrom_24 rfl (lv_at hl 0 rfl) ?_
  refine lv_aload_n hx hb dX5_copyFrom_25 rfl (lv_at hl 1 rfl) ?_
  refine g_5_3 C P in_X5_copyFrom_5 wd_X5_copyFrom_4 hk1 dX5_copyFrom_26 ?_
  refine p_5_3 C P in_X5_copyFrom_5 wd_X5_copyFrom_4 hk0 dX5_copyFrom_29 (fun u4 eu4 H locs P => ?_)
  have h := h u4 eu4
  refine lv_aload_n hx hb dX5_copyFrom_32 rfl (lv_at hl 0 rfl) ?_
  refine lv_aload_n hx hb dX5_copyFrom_33 rfl (lv_at hl 1 rfl) ?_
  refine g_5_4 C P in_X5_copyFrom_5 wd_X5_copyFrom_5 hk1 dX5_copyFrom_34 ?_
  refine p_5_4 C P in_X5_copyFrom_5 wd_X5_copyFrom_5 hk0 dX5_copyFrom_37 (fun u5 eu5 H locs P => ?_)
  have h := h u5 eu5
  refine lv_aload_n hx hb dX5_copyFrom_40 rfl (lv_at hl 0 rfl) ?_
  refine lv_aload_n hx hb dX5_copyFrom_41 rfl (lv_at hl 1 rfl) ?_
  refine g_5_5 C P in_X5_copyFrom_5 wd_X5_copyFrom_6 hk1 dX5_copyFrom_42 ?_
  refine p_5_5 C P in_X5_copyFrom_5 wd_X5_copyFrom_6 hk0 dX5_copyFrom_45 (fun u6 eu6 H locs P => ?_)
  have h := h u6 eu6
  refine lv_aload_n hx hb dX5_copyFrom_48 rfl (lv_at hl 0 rfl) ?_
  refine lv_aload_n hx hb dX5_copyFrom_49 rfl (lv_at hl 1 rfl) ?_
  refine g_5_6 C P in_X5_copyFrom_5 wd_X5_copyFrom_7 hk1 dX5_copyFrom_50 ?_
  obtain ⟨hB, h⟩ := h
  refine p_5_6 C P in_X5_copyFrom_5 wd_X5_copyFrom_7 hk0 hB dX5_copyFrom_53 (fun u7 eu7 H locs P => ?_)
  have h := h u7 eu7
  exact r_ret C P h dX5_copyFrom_56
set_option maxHeartbeats 4000000 in
set_option maxRecDepth 100000 in
theorem c_X5_copyFrom (l : Launch) (D : va_G) (cA : Nat → ClassId) (o : Nat) (k0 : Nat) (k1 : Nat) (hk0 : kd k0 = 5) (hk1 : kd k1 = 5) (u0 : Mm) (Φ : Unit → Mm → Prop) (h : w_X5_copyFrom k0 k1 u0 Φ) : Met l yX5_copyFrom wsX5_copyFrom rm_X5_copyFrom (va_Pc [.ref (o + k0), .ref (o + k1)] (Wd 747 o D (tysL cA) (EC cA o u0))) (Qg vV Φ (fun μ => Wd 747 o D (tysL cA) (EC cA o μ)) (aA o 747)) 0 0 (aA o 747) := by
  refine Met.ofW (cc := cX5_copyFrom) (maxL := 2) (ret := none) (by decide) rfl ?_
  intro p e s m args below meth c s₁ B hml hv
  obtain ⟨rfl, hv⟩ := hv
  have hl := lv_entry ([.ref (o + k0), .ref (o + k1)]) (n := 2) (Nat.le_of_ble_eq_true rfl)
  rw [lg_entry_eq]
  exact t_X5_copyFrom_0 ⟨⟨B.exec, B.bytes, hml, findClass_of_methodNamed B.named, atoms_spec (ws := wsX5_copyFrom) B.pre⟩, B.returns, B.notSynchronized, hv.2⟩ k0 k1 u0 hk0 hk1 _ _ _ ⟨hv.1, va_S.rf⟩ hl h
abbrev rm_X6_copyFrom : Room := { frames := 0, cells := 0, slots := 0, locals := 0 }
theorem wd_X6_copyFrom_1 : Cond.fieldLink RX6 7 "TurnstileBank$Pool" "credit" "I" ∈ wsX6_copyFrom := List.mem_of_getElem? (i := 1) (by decide +kernel)
theorem wd_X6_copyFrom_2 : Cond.fieldLink RX6 13 "TurnstileBank$Pool" "limit" "I" ∈ wsX6_copyFrom := List.mem_of_getElem? (i := 2) (by decide +kernel)
theorem wd_X6_copyFrom_3 : Cond.fieldLink RX6 16 "TurnstileBank$Pool" "inside" "I" ∈ wsX6_copyFrom := List.mem_of_getElem? (i := 3) (by decide +kernel)
theorem wd_X6_copyFrom_4 : Cond.fieldLink RX6 19 "TurnstileBank$Pool" "passes" "I" ∈ wsX6_copyFrom := List.mem_of_getElem? (i := 4) (by decide +kernel)
theorem wd_X6_copyFrom_5 : Cond.fieldLink RX6 22 "TurnstileBank$Pool" "paid" "I" ∈ wsX6_copyFrom := List.mem_of_getElem? (i := 5) (by decide +kernel)
theorem in_X6_copyFrom_6 : ∀ w ∈ wsX60, w ∈ wsX6_copyFrom := fun w h => List.mem_cons_of_mem _ (List.mem_append_right _ h)
def w_X6_copyFrom (k0 : Nat) (k1 : Nat) (u0 : Mm) (Φ : Unit → Mm → Prop) : Prop := (∀ u1 : Mm, u1 = up2 u0 k0 0 (u0 k1 0) → (∀ u2 : Mm, u2 = up2 u1 k0 1 (u1 k1 1) → (∀ u3 : Mm, u3 = up2 u2 k0 2 (u2 k1 2) → (∀ u4 : Mm, u4 = up2 u3 k0 3 (u3 k1 3) → (∀ u5 : Mm, u5 = up2 u4 k0 4 (u4 k1 4) → (Φ () u5))))))
set_option maxHeartbeats 4000000 in
set_option maxRecDepth 100000 in
theorem t_X6_copyFrom_0 {p : Program} {l : Launch} {e : Env} {s : State} {m : MethodId} {args : Array Value} {below : List Frame} {meth : Method} {c : Code} {D : va_G} {cA : Nat → ClassId} {o : Nat}  {Φ : Unit → Mm → Prop} (C : Cx p m meth c s args cX6_copyFrom 2 wsX6_copyFrom RX6 none D (tysL cA)) : ∀ (k0 : Nat) (k1 : Nat) (u0 : Mm), kd k0 = 6 → kd k1 = 6 → ∀ (H : Heap) (locs : List Loc) (ls : Array Slot), Hp 747 o D (EC cA o u0) s H locs → lv_has ls 2 [(0, .ref (o + k0)), (1, .ref (o + k1))] → w_X6_copyFrom k0 k1 u0 Φ → W p l e rm_X6_copyFrom s m args below meth c H locs 0 0 (MQ below (Qg vV Φ (fun μ => Wd 747 o D (tysL cA) (EC cA o μ)) (aA o 747)) args s 0 0 (aA o 747)) (F0 m 0 ls []) := by
  intro k0 k1 u0 hk0 hk1 H locs ls P hl h
  have hx := C.1.1
  have hb := C.1.2.1
  unfold w_X6_copyFrom at h
  refine lv_aload_n hx hb dX6_copyFrom_0 rfl (lv_at hl 0 rfl) ?_
  refine lv_aload_n hx hb dX6_copyFrom_1 rfl (lv_at hl 1 rfl) ?_
  refine g_6_0 C P in_X6_copyFrom_6 wd_X6_copyFrom_1 hk1 dX6_copyFrom_2 ?_
  refine p_6_0 C P in_X6_copyFrom_6 wd_X6_copyFrom_1 hk0 dX6_copyFrom_5 (fun u1 eu1 H locs P => ?_)
  have h := h u1 eu1
  refine lv_aload_n hx hb dX6_copyFrom_8 rfl (lv_at hl 0 rfl) ?_
  refine lv_aload_n hx hb dX6_copyFrom_9 rfl (lv_at hl 1 rfl) ?_
  refine g_6_1 C P in_X6_copyFrom_6 wd_X6_copyFrom_2 hk1 dX6_copyFrom_10 ?_
  refine p_6_1 C P in_X6_copyFrom_6 wd_X6_copyFrom_2 hk0 dX6_copyFrom_13 (fun u2 eu2 H locs P => ?_)
  have h := h u2 eu2
  refine lv_aload_n hx hb dX6_copyFrom_16 rfl (lv_at hl 0 rfl) ?_
  refine lv_aload_n hx hb dX6_copyFrom_17 rfl (lv_at hl 1 rfl) ?_
  refine g_6_2 C P in_X6_copyFrom_6 wd_X6_copyFrom_3 hk1 dX6_copyFrom_18 ?_
  refine p_6_2 C P in_X6_copyFrom_6 wd_X6_copyFrom_3 hk0 dX6_copyFrom_21 (fun u3 eu3 H locs P => ?_)
  have h := h u3 eu3
  refine lv_aload_n hx hb dX6_copyFrom_24 rfl (lv_at hl 0 rfl) ?_
  refine lv_aload_n hx hb dX6_copyFrom_25 rfl (lv_at hl 1 rfl) ?_
  refine g_6_3 C P in_X6_copyFrom_6 wd_X6_copyFrom_4 hk1 dX6_copyFrom_26 ?_
  refine p_6_3 C P in_X6_copyFrom_6 wd_X6_copyFrom_4 hk0 dX6_copyFrom_29 (fun u4 eu4 H locs P => ?_)
  have h := h u4 eu4
  refine lv_aload_n hx hb dX6_copyFrom_32 rfl (lv_at hl 0 rfl) ?_
  refine lv_aload_n hx hb dX6_copyFrom_33 rfl (lv_at hl 1 rfl) ?_
  refine g_6_4 C P in_X6_copyFrom_6 wd_X6_copyFrom_5 hk1 dX6_copyFrom_34 ?_
  refine p_6_4 C P in_X6_copyFrom_6 wd_X6_copyFrom_5 hk0 dX6_copyFrom_37 (fun u5 eu5 H locs P => ?_)
  have h := h u5 eu5
  exact r_ret C P h dX6_copyFrom_40
set_option maxHeartbeats 4000000 in
set_option maxRecDepth 100000 in
theorem c_X6_copyFrom (l : Launch) (D : va_G) (cA : Nat → ClassId) (o : Nat) (k0 : Nat) (k1 : Nat) (hk0 : kd k0 = 6) (hk1 : kd k1 = 6) (u0 : Mm) (Φ : Unit → Mm → Prop) (h : w_X6_copyFrom k0 k1 u0 Φ) : Met l yX6_copyFrom wsX6_copyFrom rm_X6_copyFrom (va_Pc [.ref (o + k0), .ref (o + k1)] (Wd 747 o D (tysL cA) (EC cA o u0))) (Qg vV Φ (fun μ => Wd 747 o D (tysL cA) (EC cA o μ)) (aA o 747)) 0 0 (aA o 747) := by
  refine Met.ofW (cc := cX6_copyFrom) (maxL := 2) (ret := none) (by decide) rfl ?_
  intro p e s m args below meth c s₁ B hml hv
  obtain ⟨rfl, hv⟩ := hv
  have hl := lv_entry ([.ref (o + k0), .ref (o + k1)]) (n := 2) (Nat.le_of_ble_eq_true rfl)
  rw [lg_entry_eq]
  exact t_X6_copyFrom_0 ⟨⟨B.exec, B.bytes, hml, findClass_of_methodNamed B.named, atoms_spec (ws := wsX6_copyFrom) B.pre⟩, B.returns, B.notSynchronized, hv.2⟩ k0 k1 u0 hk0 hk1 _ _ _ ⟨hv.1, va_S.rf⟩ hl h
abbrev rm_X4_copyFrom : Room := { frames := 0, cells := 0, slots := 0, locals := 0 }
theorem wd_X4_copyFrom_1 : Cond.fieldLink RX4 15 "TurnstileBank$Pass" "pool" "I" ∈ wsX4_copyFrom := List.mem_of_getElem? (i := 1) (by decide +kernel)
theorem wd_X4_copyFrom_2 : Cond.fieldLink RX4 18 "TurnstileBank$Pass" "blocked" "Z" ∈ wsX4_copyFrom := List.mem_of_getElem? (i := 2) (by decide +kernel)
theorem wd_X4_copyFrom_3 : Cond.fieldLink RX4 9 "TurnstileBank$Pass" "user" "I" ∈ wsX4_copyFrom := List.mem_of_getElem? (i := 3) (by decide +kernel)
theorem in_X4_copyFrom_4 : ∀ w ∈ wsX40, w ∈ wsX4_copyFrom := fun w h => List.mem_cons_of_mem _ (List.mem_append_right _ h)
def w_X4_copyFrom (k0 : Nat) (k1 : Nat) (u0 : Mm) (Φ : Unit → Mm → Prop) : Prop := (∀ u1 : Mm, u1 = up2 u0 k0 0 (u0 k1 0) → (isB (u1 k1 1) ∧ ∀ u2 : Mm, u2 = up2 u1 k0 1 (u1 k1 1) → (∀ u3 : Mm, u3 = up2 u2 k0 2 (u2 k1 2) → (Φ () u3))))
set_option maxHeartbeats 4000000 in
set_option maxRecDepth 100000 in
theorem t_X4_copyFrom_0 {p : Program} {l : Launch} {e : Env} {s : State} {m : MethodId} {args : Array Value} {below : List Frame} {meth : Method} {c : Code} {D : va_G} {cA : Nat → ClassId} {o : Nat}  {Φ : Unit → Mm → Prop} (C : Cx p m meth c s args cX4_copyFrom 2 wsX4_copyFrom RX4 none D (tysL cA)) : ∀ (k0 : Nat) (k1 : Nat) (u0 : Mm), kd k0 = 4 → kd k1 = 4 → ∀ (H : Heap) (locs : List Loc) (ls : Array Slot), Hp 747 o D (EC cA o u0) s H locs → lv_has ls 2 [(0, .ref (o + k0)), (1, .ref (o + k1))] → w_X4_copyFrom k0 k1 u0 Φ → W p l e rm_X4_copyFrom s m args below meth c H locs 0 0 (MQ below (Qg vV Φ (fun μ => Wd 747 o D (tysL cA) (EC cA o μ)) (aA o 747)) args s 0 0 (aA o 747)) (F0 m 0 ls []) := by
  intro k0 k1 u0 hk0 hk1 H locs ls P hl h
  have hx := C.1.1
  have hb := C.1.2.1
  unfold w_X4_copyFrom at h
  refine lv_aload_n hx hb dX4_copyFrom_0 rfl (lv_at hl 0 rfl) ?_
  refine lv_aload_n hx hb dX4_copyFrom_1 rfl (lv_at hl 1 rfl) ?_
  refine g_4_0 C P in_X4_copyFrom_4 wd_X4_copyFrom_1 hk1 dX4_copyFrom_2 ?_
  refine p_4_0 C P in_X4_copyFrom_4 wd_X4_copyFrom_1 hk0 dX4_copyFrom_5 (fun u1 eu1 H locs P => ?_)
  have h := h u1 eu1
  refine lv_aload_n hx hb dX4_copyFrom_8 rfl (lv_at hl 0 rfl) ?_
  refine lv_aload_n hx hb dX4_copyFrom_9 rfl (lv_at hl 1 rfl) ?_
  refine g_4_1 C P in_X4_copyFrom_4 wd_X4_copyFrom_2 hk1 dX4_copyFrom_10 ?_
  obtain ⟨hB, h⟩ := h
  refine p_4_1 C P in_X4_copyFrom_4 wd_X4_copyFrom_2 hk0 hB dX4_copyFrom_13 (fun u2 eu2 H locs P => ?_)
  have h := h u2 eu2
  refine lv_aload_n hx hb dX4_copyFrom_16 rfl (lv_at hl 0 rfl) ?_
  refine lv_aload_n hx hb dX4_copyFrom_17 rfl (lv_at hl 1 rfl) ?_
  refine g_4_2 C P in_X4_copyFrom_4 wd_X4_copyFrom_3 hk1 dX4_copyFrom_18 ?_
  refine p_4_2 C P in_X4_copyFrom_4 wd_X4_copyFrom_3 hk0 dX4_copyFrom_21 (fun u3 eu3 H locs P => ?_)
  have h := h u3 eu3
  exact r_ret C P h dX4_copyFrom_24
set_option maxHeartbeats 4000000 in
set_option maxRecDepth 100000 in
theorem c_X4_copyFrom (l : Launch) (D : va_G) (cA : Nat → ClassId) (o : Nat) (k0 : Nat) (k1 : Nat) (hk0 : kd k0 = 4) (hk1 : kd k1 = 4) (u0 : Mm) (Φ : Unit → Mm → Prop) (h : w_X4_copyFrom k0 k1 u0 Φ) : Met l yX4_copyFrom wsX4_copyFrom rm_X4_copyFrom (va_Pc [.ref (o + k0), .ref (o + k1)] (Wd 747 o D (tysL cA) (EC cA o u0))) (Qg vV Φ (fun μ => Wd 747 o D (tysL cA) (EC cA o μ)) (aA o 747)) 0 0 (aA o 747) := by
  refine Met.ofW (cc := cX4_copyFrom) (maxL := 2) (ret := none) (by decide) rfl ?_
  intro p e s m args below meth c s₁ B hml hv
  obtain ⟨rfl, hv⟩ := hv
  have hl := lv_entry ([.ref (o + k0), .ref (o + k1)]) (n := 2) (Nat.le_of_ble_eq_true rfl)
  rw [lg_entry_eq]
  exact t_X4_copyFrom_0 ⟨⟨B.exec, B.bytes, hml, findClass_of_methodNamed B.named, atoms_spec (ws := wsX4_copyFrom) B.pre⟩, B.returns, B.notSynchronized, hv.2⟩ k0 k1 u0 hk0 hk1 _ _ _ ⟨hv.1, va_S.rf⟩ hl h
abbrev rm_X8_copyFrom : Room := { frames := 3, cells := 0, slots := 0, locals := 82 }
theorem wd_X8_copyFrom_1 : Cond.fieldLink RX8 50 "TurnstileBank$State" "gateCount" "I" ∈ wsX8_copyFrom := List.mem_of_getElem? (i := 1) (by decide +kernel)
theorem wd_X8_copyFrom_2 : Cond.fieldLink RX8 11 "TurnstileBank$State" "gates" "[LTurnstileBank$Gate;" ∈ wsX8_copyFrom := List.mem_of_getElem? (i := 2) (by decide +kernel)
theorem wd_X8_copyFrom_3 : Cond.fieldLink RX8 57 "TurnstileBank$State" "personCount" "I" ∈ wsX8_copyFrom := List.mem_of_getElem? (i := 3) (by decide +kernel)
theorem wd_X8_copyFrom_4 : Cond.fieldLink RX8 19 "TurnstileBank$State" "people" "[LTurnstileBank$Person;" ∈ wsX8_copyFrom := List.mem_of_getElem? (i := 4) (by decide +kernel)
theorem wd_X8_copyFrom_5 : Cond.fieldLink RX8 63 "TurnstileBank$State" "poolCount" "I" ∈ wsX8_copyFrom := List.mem_of_getElem? (i := 5) (by decide +kernel)
theorem wd_X8_copyFrom_6 : Cond.fieldLink RX8 25 "TurnstileBank$State" "pools" "[LTurnstileBank$Pool;" ∈ wsX8_copyFrom := List.mem_of_getElem? (i := 6) (by decide +kernel)
theorem wd_X8_copyFrom_7 : Cond.fieldLink RX8 69 "TurnstileBank$State" "passCount" "I" ∈ wsX8_copyFrom := List.mem_of_getElem? (i := 7) (by decide +kernel)
theorem wd_X8_copyFrom_8 : Cond.fieldLink RX8 31 "TurnstileBank$State" "passes" "[LTurnstileBank$Pass;" ∈ wsX8_copyFrom := List.mem_of_getElem? (i := 8) (by decide +kernel)
theorem wd_X8_copyFrom_9 : Cond.fieldLink RX8 38 "TurnstileBank$State" "events" "LTurnstileBank$Events;" ∈ wsX8_copyFrom := List.mem_of_getElem? (i := 9) (by decide +kernel)
theorem wd_X8_copyFrom_10 : Cond.fieldLink RX8 78 "TurnstileBank$State" "time" "I" ∈ wsX8_copyFrom := List.mem_of_getElem? (i := 10) (by decide +kernel)
theorem wd_X8_copyFrom_11 : Cond.fieldLink RX8 42 "TurnstileBank$State" "fare" "I" ∈ wsX8_copyFrom := List.mem_of_getElem? (i := 11) (by decide +kernel)
theorem in_X8_copyFrom_8 : ∀ w ∈ wsX80, w ∈ wsX8_copyFrom := fun w h => List.mem_cons_of_mem _ (List.mem_append_left _ (List.mem_append_left _ (List.mem_append_left _ (List.mem_append_left _ (List.mem_append_left _ (List.mem_append_left _ (List.mem_append_right _ h)))))))
def w_X8_copyFrom_192  (Φ : Unit → Mm → Prop) (x0 : Nat) (x1 : Nat) (u0 : Mm) : Prop := (w_X0_copyFrom ((x0 + 5)) ((x1 + 5)) u0 (fun _ u9 => (∀ u11 : Mm, u11 = up2 u9 x0 9 (u9 x1 9) → (∀ u12 : Mm, u12 = up2 u11 x0 10 (u11 x1 10) → (Φ () u12)))))
set_option maxHeartbeats 4000000 in
set_option maxRecDepth 100000 in
theorem t_X8_copyFrom_192 {p : Program} {l : Launch} {e : Env} {s : State} {m : MethodId} {args : Array Value} {below : List Frame} {meth : Method} {c : Code} {D : va_G} {cA : Nat → ClassId} {o : Nat}  {Φ : Unit → Mm → Prop} (C : Cx p m meth c s args cX8_copyFrom 3 wsX8_copyFrom RX8 none D (tysL cA)) : ∀ (x0 : Nat) (x1 : Nat) (u0 : Mm), kd x0 = 8 → kd x1 = 8 → ∀ (H : Heap) (locs : List Loc) (ls : Array Slot), Hp 747 o D (EC cA o u0) s H locs → lv_has ls 3 [(0, .ref (o + x0)), (1, .ref (o + x1))] → w_X8_copyFrom_192 Φ x0 x1 u0 → W p l e rm_X8_copyFrom s m args below meth c H locs 0 0 (MQ below (Qg vV Φ (fun μ => Wd 747 o D (tysL cA) (EC cA o μ)) (aA o 747)) args s 0 0 (aA o 747)) (F0 m 192 ls []) := by
  intro x0 x1 u0 hx0 hx1 H locs ls P hl h
  have hx := C.1.1
  have hb := C.1.2.1
  unfold w_X8_copyFrom_192 at h
  refine lv_aload_n hx hb dX8_copyFrom_192 rfl (lv_at hl 0 rfl) ?_
  refine g_8_4 C P in_X8_copyFrom_8 wd_X8_copyFrom_9 hx0 dX8_copyFrom_193 ?_
  refine lv_aload_n hx hb dX8_copyFrom_196 rfl (lv_at hl 1 rfl) ?_
  refine g_8_4 C P in_X8_copyFrom_8 wd_X8_copyFrom_9 hx1 dX8_copyFrom_197 ?_
  refine r_callv (F := EC cA o) (va_runV (As := [.ref (o + (x1 + 5))]) (rest := []) C.1 (c_X0_copyFrom l D cA o _ _ (kd_8_5 hx0) (kd_8_5 hx1) u0 _ h) (cwV 1 C.1.2.2.2.2 gX8_copyFrom_X0_copyFrom rfl rfl rfl (by decide +kernel) ⟨Nat.le_of_ble_eq_true rfl, Nat.le_of_ble_eq_true rfl⟩) (r_preV C P [.ref (o + (x1 + 5))] (ci := 0) rfl (kd_lt (kd_8_5 hx0) (by decide)) (EK_0 (kd_8_5 hx0))) rfl rfl hl.1 rfl (lv_room (Nat.le_of_ble_eq_true rfl)) dX8_copyFrom_200 ⟨Nat.le_of_ble_eq_true rfl, Nat.le_of_ble_eq_true rfl⟩) P.2 (fun u9 H locs h P => ?_)
  refine lv_aload_n hx hb dX8_copyFrom_203 rfl (lv_at hl 0 rfl) ?_
  refine lv_aload_n hx hb dX8_copyFrom_204 rfl (lv_at hl 1 rfl) ?_
  refine g_8_9 C P in_X8_copyFrom_8 wd_X8_copyFrom_10 hx1 dX8_copyFrom_205 ?_
  refine p_8_9 C P in_X8_copyFrom_8 wd_X8_copyFrom_10 hx0 dX8_copyFrom_208 (fun u11 eu11 H locs P => ?_)
  have h := h u11 eu11
  refine lv_aload_n hx hb dX8_copyFrom_211 rfl (lv_at hl 0 rfl) ?_
  refine lv_aload_n hx hb dX8_copyFrom_212 rfl (lv_at hl 1 rfl) ?_
  refine g_8_10 C P in_X8_copyFrom_8 wd_X8_copyFrom_11 hx1 dX8_copyFrom_213 ?_
  refine p_8_10 C P in_X8_copyFrom_8 wd_X8_copyFrom_11 hx0 dX8_copyFrom_216 (fun u12 eu12 H locs P => ?_)
  have h := h u12 eu12
  exact r_ret C P h dX8_copyFrom_219
def w_X8_copyFrom_154  (Φ : Unit → Mm → Prop) : Nat → Nat → Nat → Int32 → Mm → Prop
  | 0, _, _, _, _ => False
  | n + 1, x0, x1, x2, u0 => (if (u0 x0 8) ≤ x2 then (w_X8_copyFrom_192 Φ x0 x1 u0) else (if (12 : Int32) ≤ x2 then (w_X8_copyFrom_192 Φ x0 x1 u0) else (vp_in x2 12 ∧ (vp_in x2 12 ∧ (w_X4_copyFrom ((x0 + 94 + x2.toNatClampNeg)) ((x1 + 94 + x2.toNatClampNeg)) u0 (fun _ u16 => (w_X8_copyFrom_154 Φ n x0 x1 ((x2 + 1)) u16)))))))
set_option maxHeartbeats 4000000 in
set_option maxRecDepth 100000 in
theorem t_X8_copyFrom_154 {p : Program} {l : Launch} {e : Env} {s : State} {m : MethodId} {args : Array Value} {below : List Frame} {meth : Method} {c : Code} {D : va_G} {cA : Nat → ClassId} {o : Nat}  {Φ : Unit → Mm → Prop} (C : Cx p m meth c s args cX8_copyFrom 3 wsX8_copyFrom RX8 none D (tysL cA)) : ∀ n : Nat, ∀ (x0 : Nat) (x1 : Nat) (x2 : Int32) (u0 : Mm), kd x0 = 8 → kd x1 = 8 → ∀ (H : Heap) (locs : List Loc) (ls : Array Slot), Hp 747 o D (EC cA o u0) s H locs → lv_has ls 3 [(0, .ref (o + x0)), (1, .ref (o + x1)), (2, .int x2)] → w_X8_copyFrom_154 Φ n x0 x1 x2 u0 → W p l e rm_X8_copyFrom s m args below meth c H locs 0 0 (MQ below (Qg vV Φ (fun μ => Wd 747 o D (tysL cA) (EC cA o μ)) (aA o 747)) args s 0 0 (aA o 747)) (F0 m 154 ls []) := by
  intro n
  induction n with
  | zero => intro x0 x1 x2 u0 hx0 hx1 H locs ls P hl h; exact h.elim
  | succ n ih =>
    intro x0 x1 x2 u0 hx0 hx1 H locs ls P hl h
    have hx := C.1.1
    have hb := C.1.2.1
    rw [w_X8_copyFrom_154] at h
    refine lv_iload_n hx hb dX8_copyFrom_154 rfl (lv_at hl 2 rfl) ?_
    refine lv_aload_n hx hb dX8_copyFrom_155 rfl (lv_at hl 0 rfl) ?_
    refine g_8_8 C P in_X8_copyFrom_8 wd_X8_copyFrom_7 hx0 dX8_copyFrom_156 ?_
    refine lv_icmp_ge (tgt := 192) hx hb dX8_copyFrom_159 (by decide) (fun c8 => ?_) (fun c8 => ?_)
    · have h := ite_t h c8
      exact t_X8_copyFrom_192 C _ _ u0 hx0 hx1 _ _ _ P (lv_sub hl [0, 1] rfl) h
    · have h := ite_f h c8
      refine lv_iload_n hx hb dX8_copyFrom_162 rfl (lv_at hl 2 rfl) ?_
      refine lv_aload_n hx hb dX8_copyFrom_163 rfl (lv_at hl 0 rfl) ?_
      refine g_8_3 C P in_X8_copyFrom_8 wd_X8_copyFrom_8 hx0 dX8_copyFrom_164 ?_
      refine l_pass C P hx0 dX8_copyFrom_167 ?_
      refine lv_icmp_ge (tgt := 192) hx hb dX8_copyFrom_168 (by decide) (fun c13 => ?_) (fun c13 => ?_)
      · have h := ite_t h c13
        exact t_X8_copyFrom_192 C _ _ u0 hx0 hx1 _ _ _ P (lv_sub hl [0, 1] rfl) h
      · have h := ite_f h c13
        refine lv_aload_n hx hb dX8_copyFrom_171 rfl (lv_at hl 0 rfl) ?_
        refine g_8_3 C P in_X8_copyFrom_8 wd_X8_copyFrom_8 hx0 dX8_copyFrom_172 ?_
        refine lv_iload_n hx hb dX8_copyFrom_175 rfl (lv_at hl 2 rfl) ?_
        obtain ⟨hi, h⟩ := h
        have hk14 := kd_pass hx0 hi
        refine a_pass C P hx0 hi dX8_copyFrom_176 ?_
        refine lv_aload_n hx hb dX8_copyFrom_177 rfl (lv_at hl 1 rfl) ?_
        refine g_8_3 C P in_X8_copyFrom_8 wd_X8_copyFrom_8 hx1 dX8_copyFrom_178 ?_
        refine lv_iload_n hx hb dX8_copyFrom_181 rfl (lv_at hl 2 rfl) ?_
        obtain ⟨hi, h⟩ := h
        have hk15 := kd_pass hx1 hi
        refine a_pass C P hx1 hi dX8_copyFrom_182 ?_
        refine r_callv (F := EC cA o) (va_runV (As := [.ref (o + (x1 + 94 + x2.toNatClampNeg))]) (rest := []) C.1 (c_X4_copyFrom l D cA o _ _ hk14 hk15 u0 _ h) (cwV 1 C.1.2.2.2.2 gX8_copyFrom_X4_copyFrom rfl rfl rfl (by decide +kernel) ⟨Nat.le_of_ble_eq_true rfl, Nat.le_of_ble_eq_true rfl⟩) (r_preV C P [.ref (o + (x1 + 94 + x2.toNatClampNeg))] (ci := 4) rfl (kd_lt hk14 (by decide)) (EK_4 hk14)) rfl rfl hl.1 rfl (lv_room (Nat.le_of_ble_eq_true rfl)) dX8_copyFrom_183 ⟨Nat.le_of_ble_eq_true rfl, Nat.le_of_ble_eq_true rfl⟩) P.2 (fun u16 H locs h P => ?_)
        refine lv_iinc (v := (x2 + 1)) (lv' := [(2, .int (x2 + 1)), (0, .ref (o + x0)), (1, .ref (o + x1))]) hx hb dX8_copyFrom_186 hl (k := 2) rfl rfl (by decide) rfl (fun ls hl => ?_)
        refine lv_goto (tgt := 154) hx hb dX8_copyFrom_189 (by decide) ?_
        exact ih _ _ _ u16 hx0 hx1 _ _ _ P (lv_sub hl [1, 2, 0] rfl) h
def w_X8_copyFrom_106  (Φ : Unit → Mm → Prop) : Nat → Nat → Nat → Int32 → Mm → Prop
  | 0, _, _, _, _ => False
  | n + 1, x0, x1, x2, u0 => (if (u0 x0 7) ≤ x2 then (∀ u7 : Mm, u7 = up2 u0 x0 8 (u0 x1 8) → (∃ n154 : Nat, w_X8_copyFrom_154 Φ n154 x0 x1 ((0 : Int32)) u7)) else (if (4 : Int32) ≤ x2 then (∀ u19 : Mm, u19 = up2 u0 x0 8 (u0 x1 8) → (∃ n154 : Nat, w_X8_copyFrom_154 Φ n154 x0 x1 ((0 : Int32)) u19)) else (vp_in x2 4 ∧ (vp_in x2 4 ∧ (w_X6_copyFrom ((x0 + 90 + x2.toNatClampNeg)) ((x1 + 90 + x2.toNatClampNeg)) u0 (fun _ u22 => (w_X8_copyFrom_106 Φ n x0 x1 ((x2 + 1)) u22)))))))
set_option maxHeartbeats 4000000 in
set_option maxRecDepth 100000 in
theorem t_X8_copyFrom_106 {p : Program} {l : Launch} {e : Env} {s : State} {m : MethodId} {args : Array Value} {below : List Frame} {meth : Method} {c : Code} {D : va_G} {cA : Nat → ClassId} {o : Nat}  {Φ : Unit → Mm → Prop} (C : Cx p m meth c s args cX8_copyFrom 3 wsX8_copyFrom RX8 none D (tysL cA)) : ∀ n : Nat, ∀ (x0 : Nat) (x1 : Nat) (x2 : Int32) (u0 : Mm), kd x0 = 8 → kd x1 = 8 → ∀ (H : Heap) (locs : List Loc) (ls : Array Slot), Hp 747 o D (EC cA o u0) s H locs → lv_has ls 3 [(0, .ref (o + x0)), (1, .ref (o + x1)), (2, .int x2)] → w_X8_copyFrom_106 Φ n x0 x1 x2 u0 → W p l e rm_X8_copyFrom s m args below meth c H locs 0 0 (MQ below (Qg vV Φ (fun μ => Wd 747 o D (tysL cA) (EC cA o μ)) (aA o 747)) args s 0 0 (aA o 747)) (F0 m 106 ls []) := by
  intro n
  induction n with
  | zero => intro x0 x1 x2 u0 hx0 hx1 H locs ls P hl h; exact h.elim
  | succ n ih =>
    intro x0 x1 x2 u0 hx0 hx1 H locs ls P hl h
    have hx := C.1.1
    have hb := C.1.2.1
    rw [w_X8_copyFrom_106] at h
    refine lv_iload_n hx hb dX8_copyFrom_106 rfl (lv_at hl 2 rfl) ?_
    refine lv_aload_n hx hb dX8_copyFrom_107 rfl (lv_at hl 0 rfl) ?_
    refine g_8_7 C P in_X8_copyFrom_8 wd_X8_copyFrom_5 hx0 dX8_copyFrom_108 ?_
    refine lv_icmp_ge (tgt := 144) hx hb dX8_copyFrom_111 (by decide) (fun c6 => ?_) (fun c6 => ?_)
    · have h := ite_t h c6
      refine lv_aload_n hx hb dX8_copyFrom_144 rfl (lv_at hl 0 rfl) ?_
      refine lv_aload_n hx hb dX8_copyFrom_145 rfl (lv_at hl 1 rfl) ?_
      refine g_8_8 C P in_X8_copyFrom_8 wd_X8_copyFrom_7 hx1 dX8_copyFrom_146 ?_
      refine p_8_8 C P in_X8_copyFrom_8 wd_X8_copyFrom_7 hx0 dX8_copyFrom_149 (fun u7 eu7 H locs P => ?_)
      have h := h u7 eu7
      refine lv_iconst (v := 0) hx hb dX8_copyFrom_152 (by decide) ?_
      refine lv_istore_n (lv' := [(2, .int (0 : Int32)), (0, .ref (o + x0)), (1, .ref (o + x1))]) hx hb dX8_copyFrom_153 rfl hl (by decide) rfl (fun ls hl => ?_)
      obtain ⟨n154, h⟩ := h
      exact t_X8_copyFrom_154 C n154 _ _ _ u7 hx0 hx1 _ _ _ P (lv_sub hl [1, 2, 0] rfl) h
    · have h := ite_f h c6
      refine lv_iload_n hx hb dX8_copyFrom_114 rfl (lv_at hl 2 rfl) ?_
      refine lv_aload_n hx hb dX8_copyFrom_115 rfl (lv_at hl 0 rfl) ?_
      refine g_8_2 C P in_X8_copyFrom_8 wd_X8_copyFrom_6 hx0 dX8_copyFrom_116 ?_
      refine l_pool C P hx0 dX8_copyFrom_119 ?_
      refine lv_icmp_ge (tgt := 144) hx hb dX8_copyFrom_120 (by decide) (fun c18 => ?_) (fun c18 => ?_)
      · have h := ite_t h c18
        refine lv_aload_n hx hb dX8_copyFrom_144 rfl (lv_at hl 0 rfl) ?_
        refine lv_aload_n hx hb dX8_copyFrom_145 rfl (lv_at hl 1 rfl) ?_
        refine g_8_8 C P in_X8_copyFrom_8 wd_X8_copyFrom_7 hx1 dX8_copyFrom_146 ?_
        refine p_8_8 C P in_X8_copyFrom_8 wd_X8_copyFrom_7 hx0 dX8_copyFrom_149 (fun u19 eu19 H locs P => ?_)
        have h := h u19 eu19
        refine lv_iconst (v := 0) hx hb dX8_copyFrom_152 (by decide) ?_
        refine lv_istore_n (lv' := [(2, .int (0 : Int32)), (0, .ref (o + x0)), (1, .ref (o + x1))]) hx hb dX8_copyFrom_153 rfl hl (by decide) rfl (fun ls hl => ?_)
        obtain ⟨n154, h⟩ := h
        exact t_X8_copyFrom_154 C n154 _ _ _ u19 hx0 hx1 _ _ _ P (lv_sub hl [1, 2, 0] rfl) h
      · have h := ite_f h c18
        refine lv_aload_n hx hb dX8_copyFrom_123 rfl (lv_at hl 0 rfl) ?_
        refine g_8_2 C P in_X8_copyFrom_8 wd_X8_copyFrom_6 hx0 dX8_copyFrom_124 ?_
        refine lv_iload_n hx hb dX8_copyFrom_127 rfl (lv_at hl 2 rfl) ?_
        obtain ⟨hi, h⟩ := h
        have hk20 := kd_pool hx0 hi
        refine a_pool C P hx0 hi dX8_copyFrom_128 ?_
        refine lv_aload_n hx hb dX8_copyFrom_129 rfl (lv_at hl 1 rfl) ?_
        refine g_8_2 C P in_X8_copyFrom_8 wd_X8_copyFrom_6 hx1 dX8_copyFrom_130 ?_
        refine lv_iload_n hx hb dX8_copyFrom_133 rfl (lv_at hl 2 rfl) ?_
        obtain ⟨hi, h⟩ := h
        have hk21 := kd_pool hx1 hi
        refine a_pool C P hx1 hi dX8_copyFrom_134 ?_
        refine r_callv (F := EC cA o) (va_runV (As := [.ref (o + (x1 + 90 + x2.toNatClampNeg))]) (rest := []) C.1 (c_X6_copyFrom l D cA o _ _ hk20 hk21 u0 _ h) (cwV 1 C.1.2.2.2.2 gX8_copyFrom_X6_copyFrom rfl rfl rfl (by decide +kernel) ⟨Nat.le_of_ble_eq_true rfl, Nat.le_of_ble_eq_true rfl⟩) (r_preV C P [.ref (o + (x1 + 90 + x2.toNatClampNeg))] (ci := 6) rfl (kd_lt hk20 (by decide)) (EK_6 hk20)) rfl rfl hl.1 rfl (lv_room (Nat.le_of_ble_eq_true rfl)) dX8_copyFrom_135 ⟨Nat.le_of_ble_eq_true rfl, Nat.le_of_ble_eq_true rfl⟩) P.2 (fun u22 H locs h P => ?_)
        refine lv_iinc (v := (x2 + 1)) (lv' := [(2, .int (x2 + 1)), (0, .ref (o + x0)), (1, .ref (o + x1))]) hx hb dX8_copyFrom_138 hl (k := 2) rfl rfl (by decide) rfl (fun ls hl => ?_)
        refine lv_goto (tgt := 106) hx hb dX8_copyFrom_141 (by decide) ?_
        exact ih _ _ _ u22 hx0 hx1 _ _ _ P (lv_sub hl [1, 2, 0] rfl) h
def w_X8_copyFrom_58  (Φ : Unit → Mm → Prop) : Nat → Nat → Nat → Int32 → Mm → Prop
  | 0, _, _, _, _ => False
  | n + 1, x0, x1, x2, u0 => (if (u0 x0 6) ≤ x2 then (∀ u5 : Mm, u5 = up2 u0 x0 7 (u0 x1 7) → (∃ n106 : Nat, w_X8_copyFrom_106 Φ n106 x0 x1 ((0 : Int32)) u5)) else (if (40 : Int32) ≤ x2 then (∀ u25 : Mm, u25 = up2 u0 x0 7 (u0 x1 7) → (∃ n106 : Nat, w_X8_copyFrom_106 Φ n106 x0 x1 ((0 : Int32)) u25)) else (vp_in x2 40 ∧ (vp_in x2 40 ∧ (w_X5_copyFrom ((x0 + 50 + x2.toNatClampNeg)) ((x1 + 50 + x2.toNatClampNeg)) u0 (fun _ u28 => (w_X8_copyFrom_58 Φ n x0 x1 ((x2 + 1)) u28)))))))
set_option maxHeartbeats 4000000 in
set_option maxRecDepth 100000 in
theorem t_X8_copyFrom_58 {p : Program} {l : Launch} {e : Env} {s : State} {m : MethodId} {args : Array Value} {below : List Frame} {meth : Method} {c : Code} {D : va_G} {cA : Nat → ClassId} {o : Nat}  {Φ : Unit → Mm → Prop} (C : Cx p m meth c s args cX8_copyFrom 3 wsX8_copyFrom RX8 none D (tysL cA)) : ∀ n : Nat, ∀ (x0 : Nat) (x1 : Nat) (x2 : Int32) (u0 : Mm), kd x0 = 8 → kd x1 = 8 → ∀ (H : Heap) (locs : List Loc) (ls : Array Slot), Hp 747 o D (EC cA o u0) s H locs → lv_has ls 3 [(0, .ref (o + x0)), (1, .ref (o + x1)), (2, .int x2)] → w_X8_copyFrom_58 Φ n x0 x1 x2 u0 → W p l e rm_X8_copyFrom s m args below meth c H locs 0 0 (MQ below (Qg vV Φ (fun μ => Wd 747 o D (tysL cA) (EC cA o μ)) (aA o 747)) args s 0 0 (aA o 747)) (F0 m 58 ls []) := by
  intro n
  induction n with
  | zero => intro x0 x1 x2 u0 hx0 hx1 H locs ls P hl h; exact h.elim
  | succ n ih =>
    intro x0 x1 x2 u0 hx0 hx1 H locs ls P hl h
    have hx := C.1.1
    have hb := C.1.2.1
    rw [w_X8_copyFrom_58] at h
    refine lv_iload_n hx hb dX8_copyFrom_58 rfl (lv_at hl 2 rfl) ?_
    refine lv_aload_n hx hb dX8_copyFrom_59 rfl (lv_at hl 0 rfl) ?_
    refine g_8_6 C P in_X8_copyFrom_8 wd_X8_copyFrom_3 hx0 dX8_copyFrom_60 ?_
    refine lv_icmp_ge (tgt := 96) hx hb dX8_copyFrom_63 (by decide) (fun c4 => ?_) (fun c4 => ?_)
    · have h := ite_t h c4
      refine lv_aload_n hx hb dX8_copyFrom_96 rfl (lv_at hl 0 rfl) ?_
      refine lv_aload_n hx hb dX8_copyFrom_97 rfl (lv_at hl 1 rfl) ?_
      refine g_8_7 C P in_X8_copyFrom_8 wd_X8_copyFrom_5 hx1 dX8_copyFrom_98 ?_
      refine p_8_7 C P in_X8_copyFrom_8 wd_X8_copyFrom_5 hx0 dX8_copyFrom_101 (fun u5 eu5 H locs P => ?_)
      have h := h u5 eu5
      refine lv_iconst (v := 0) hx hb dX8_copyFrom_104 (by decide) ?_
      refine lv_istore_n (lv' := [(2, .int (0 : Int32)), (0, .ref (o + x0)), (1, .ref (o + x1))]) hx hb dX8_copyFrom_105 rfl hl (by decide) rfl (fun ls hl => ?_)
      obtain ⟨n106, h⟩ := h
      exact t_X8_copyFrom_106 C n106 _ _ _ u5 hx0 hx1 _ _ _ P (lv_sub hl [1, 2, 0] rfl) h
    · have h := ite_f h c4
      refine lv_iload_n hx hb dX8_copyFrom_66 rfl (lv_at hl 2 rfl) ?_
      refine lv_aload_n hx hb dX8_copyFrom_67 rfl (lv_at hl 0 rfl) ?_
      refine g_8_1 C P in_X8_copyFrom_8 wd_X8_copyFrom_4 hx0 dX8_copyFrom_68 ?_
      refine l_person C P hx0 dX8_copyFrom_71 ?_
      refine lv_icmp_ge (tgt := 96) hx hb dX8_copyFrom_72 (by decide) (fun c24 => ?_) (fun c24 => ?_)
      · have h := ite_t h c24
        refine lv_aload_n hx hb dX8_copyFrom_96 rfl (lv_at hl 0 rfl) ?_
        refine lv_aload_n hx hb dX8_copyFrom_97 rfl (lv_at hl 1 rfl) ?_
        refine g_8_7 C P in_X8_copyFrom_8 wd_X8_copyFrom_5 hx1 dX8_copyFrom_98 ?_
        refine p_8_7 C P in_X8_copyFrom_8 wd_X8_copyFrom_5 hx0 dX8_copyFrom_101 (fun u25 eu25 H locs P => ?_)
        have h := h u25 eu25
        refine lv_iconst (v := 0) hx hb dX8_copyFrom_104 (by decide) ?_
        refine lv_istore_n (lv' := [(2, .int (0 : Int32)), (0, .ref (o + x0)), (1, .ref (o + x1))]) hx hb dX8_copyFrom_105 rfl hl (by decide) rfl (fun ls hl => ?_)
        obtain ⟨n106, h⟩ := h
        exact t_X8_copyFrom_106 C n106 _ _ _ u25 hx0 hx1 _ _ _ P (lv_sub hl [1, 2, 0] rfl) h
      · have h := ite_f h c24
        refine lv_aload_n hx hb dX8_copyFrom_75 rfl (lv_at hl 0 rfl) ?_
        refine g_8_1 C P in_X8_copyFrom_8 wd_X8_copyFrom_4 hx0 dX8_copyFrom_76 ?_
        refine lv_iload_n hx hb dX8_copyFrom_79 rfl (lv_at hl 2 rfl) ?_
        obtain ⟨hi, h⟩ := h
        have hk26 := kd_person hx0 hi
        refine a_person C P hx0 hi dX8_copyFrom_80 ?_
        refine lv_aload_n hx hb dX8_copyFrom_81 rfl (lv_at hl 1 rfl) ?_
        refine g_8_1 C P in_X8_copyFrom_8 wd_X8_copyFrom_4 hx1 dX8_copyFrom_82 ?_
        refine lv_iload_n hx hb dX8_copyFrom_85 rfl (lv_at hl 2 rfl) ?_
        obtain ⟨hi, h⟩ := h
        have hk27 := kd_person hx1 hi
        refine a_person C P hx1 hi dX8_copyFrom_86 ?_
        refine r_callv (F := EC cA o) (va_runV (As := [.ref (o + (x1 + 50 + x2.toNatClampNeg))]) (rest := []) C.1 (c_X5_copyFrom l D cA o _ _ hk26 hk27 u0 _ h) (cwV 1 C.1.2.2.2.2 gX8_copyFrom_X5_copyFrom rfl rfl rfl (by decide +kernel) ⟨Nat.le_of_ble_eq_true rfl, Nat.le_of_ble_eq_true rfl⟩) (r_preV C P [.ref (o + (x1 + 50 + x2.toNatClampNeg))] (ci := 5) rfl (kd_lt hk26 (by decide)) (EK_5 hk26)) rfl rfl hl.1 rfl (lv_room (Nat.le_of_ble_eq_true rfl)) dX8_copyFrom_87 ⟨Nat.le_of_ble_eq_true rfl, Nat.le_of_ble_eq_true rfl⟩) P.2 (fun u28 H locs h P => ?_)
        refine lv_iinc (v := (x2 + 1)) (lv' := [(2, .int (x2 + 1)), (0, .ref (o + x0)), (1, .ref (o + x1))]) hx hb dX8_copyFrom_90 hl (k := 2) rfl rfl (by decide) rfl (fun ls hl => ?_)
        refine lv_goto (tgt := 58) hx hb dX8_copyFrom_93 (by decide) ?_
        exact ih _ _ _ u28 hx0 hx1 _ _ _ P (lv_sub hl [1, 2, 0] rfl) h
def w_X8_copyFrom_10  (Φ : Unit → Mm → Prop) : Nat → Nat → Nat → Int32 → Mm → Prop
  | 0, _, _, _, _ => False
  | n + 1, x0, x1, x2, u0 => (if (u0 x0 5) ≤ x2 then (∀ u3 : Mm, u3 = up2 u0 x0 6 (u0 x1 6) → (∃ n58 : Nat, w_X8_copyFrom_58 Φ n58 x0 x1 ((0 : Int32)) u3)) else (if (8 : Int32) ≤ x2 then (∀ u31 : Mm, u31 = up2 u0 x0 6 (u0 x1 6) → (∃ n58 : Nat, w_X8_copyFrom_58 Φ n58 x0 x1 ((0 : Int32)) u31)) else (vp_in x2 8 ∧ (vp_in x2 8 ∧ (w_X1_copyFrom ((x0 + 10 + 5 * x2.toNatClampNeg)) ((x1 + 10 + 5 * x2.toNatClampNeg)) u0 (fun _ u34 => (w_X8_copyFrom_10 Φ n x0 x1 ((x2 + 1)) u34)))))))
set_option maxHeartbeats 4000000 in
set_option maxRecDepth 100000 in
theorem t_X8_copyFrom_10 {p : Program} {l : Launch} {e : Env} {s : State} {m : MethodId} {args : Array Value} {below : List Frame} {meth : Method} {c : Code} {D : va_G} {cA : Nat → ClassId} {o : Nat}  {Φ : Unit → Mm → Prop} (C : Cx p m meth c s args cX8_copyFrom 3 wsX8_copyFrom RX8 none D (tysL cA)) : ∀ n : Nat, ∀ (x0 : Nat) (x1 : Nat) (x2 : Int32) (u0 : Mm), kd x0 = 8 → kd x1 = 8 → ∀ (H : Heap) (locs : List Loc) (ls : Array Slot), Hp 747 o D (EC cA o u0) s H locs → lv_has ls 3 [(0, .ref (o + x0)), (1, .ref (o + x1)), (2, .int x2)] → w_X8_copyFrom_10 Φ n x0 x1 x2 u0 → W p l e rm_X8_copyFrom s m args below meth c H locs 0 0 (MQ below (Qg vV Φ (fun μ => Wd 747 o D (tysL cA) (EC cA o μ)) (aA o 747)) args s 0 0 (aA o 747)) (F0 m 10 ls []) := by
  intro n
  induction n with
  | zero => intro x0 x1 x2 u0 hx0 hx1 H locs ls P hl h; exact h.elim
  | succ n ih =>
    intro x0 x1 x2 u0 hx0 hx1 H locs ls P hl h
    have hx := C.1.1
    have hb := C.1.2.1
    rw [w_X8_copyFrom_10] at h
    refine lv_iload_n hx hb dX8_copyFrom_10 rfl (lv_at hl 2 rfl) ?_
    refine lv_aload_n hx hb dX8_copyFrom_11 rfl (lv_at hl 0 rfl) ?_
    refine g_8_5 C P in_X8_copyFrom_8 wd_X8_copyFrom_1 hx0 dX8_copyFrom_12 ?_
    refine lv_icmp_ge (tgt := 48) hx hb dX8_copyFrom_15 (by decide) (fun c2 => ?_) (fun c2 => ?_)
    · have h := ite_t h c2
      refine lv_aload_n hx hb dX8_copyFrom_48 rfl (lv_at hl 0 rfl) ?_
      refine lv_aload_n hx hb dX8_copyFrom_49 rfl (lv_at hl 1 rfl) ?_
      refine g_8_6 C P in_X8_copyFrom_8 wd_X8_copyFrom_3 hx1 dX8_copyFrom_50 ?_
      refine p_8_6 C P in_X8_copyFrom_8 wd_X8_copyFrom_3 hx0 dX8_copyFrom_53 (fun u3 eu3 H locs P => ?_)
      have h := h u3 eu3
      refine lv_iconst (v := 0) hx hb dX8_copyFrom_56 (by decide) ?_
      refine lv_istore_n (lv' := [(2, .int (0 : Int32)), (0, .ref (o + x0)), (1, .ref (o + x1))]) hx hb dX8_copyFrom_57 rfl hl (by decide) rfl (fun ls hl => ?_)
      obtain ⟨n58, h⟩ := h
      exact t_X8_copyFrom_58 C n58 _ _ _ u3 hx0 hx1 _ _ _ P (lv_sub hl [1, 2, 0] rfl) h
    · have h := ite_f h c2
      refine lv_iload_n hx hb dX8_copyFrom_18 rfl (lv_at hl 2 rfl) ?_
      refine lv_aload_n hx hb dX8_copyFrom_19 rfl (lv_at hl 0 rfl) ?_
      refine g_8_0 C P in_X8_copyFrom_8 wd_X8_copyFrom_2 hx0 dX8_copyFrom_20 ?_
      refine l_gate C P hx0 dX8_copyFrom_23 ?_
      refine lv_icmp_ge (tgt := 48) hx hb dX8_copyFrom_24 (by decide) (fun c30 => ?_) (fun c30 => ?_)
      · have h := ite_t h c30
        refine lv_aload_n hx hb dX8_copyFrom_48 rfl (lv_at hl 0 rfl) ?_
        refine lv_aload_n hx hb dX8_copyFrom_49 rfl (lv_at hl 1 rfl) ?_
        refine g_8_6 C P in_X8_copyFrom_8 wd_X8_copyFrom_3 hx1 dX8_copyFrom_50 ?_
        refine p_8_6 C P in_X8_copyFrom_8 wd_X8_copyFrom_3 hx0 dX8_copyFrom_53 (fun u31 eu31 H locs P => ?_)
        have h := h u31 eu31
        refine lv_iconst (v := 0) hx hb dX8_copyFrom_56 (by decide) ?_
        refine lv_istore_n (lv' := [(2, .int (0 : Int32)), (0, .ref (o + x0)), (1, .ref (o + x1))]) hx hb dX8_copyFrom_57 rfl hl (by decide) rfl (fun ls hl => ?_)
        obtain ⟨n58, h⟩ := h
        exact t_X8_copyFrom_58 C n58 _ _ _ u31 hx0 hx1 _ _ _ P (lv_sub hl [1, 2, 0] rfl) h
      · have h := ite_f h c30
        refine lv_aload_n hx hb dX8_copyFrom_27 rfl (lv_at hl 0 rfl) ?_
        refine g_8_0 C P in_X8_copyFrom_8 wd_X8_copyFrom_2 hx0 dX8_copyFrom_28 ?_
        refine lv_iload_n hx hb dX8_copyFrom_31 rfl (lv_at hl 2 rfl) ?_
        obtain ⟨hi, h⟩ := h
        have hk32 := kd_gate hx0 hi
        refine a_gate C P hx0 hi dX8_copyFrom_32 ?_
        refine lv_aload_n hx hb dX8_copyFrom_33 rfl (lv_at hl 1 rfl) ?_
        refine g_8_0 C P in_X8_copyFrom_8 wd_X8_copyFrom_2 hx1 dX8_copyFrom_34 ?_
        refine lv_iload_n hx hb dX8_copyFrom_37 rfl (lv_at hl 2 rfl) ?_
        obtain ⟨hi, h⟩ := h
        have hk33 := kd_gate hx1 hi
        refine a_gate C P hx1 hi dX8_copyFrom_38 ?_
        refine r_callv (F := EC cA o) (va_runV (As := [.ref (o + (x1 + 10 + 5 * x2.toNatClampNeg))]) (rest := []) C.1 (c_X1_copyFrom l D cA o _ _ hk32 hk33 u0 _ h) (cwV 1 C.1.2.2.2.2 gX8_copyFrom_X1_copyFrom rfl rfl rfl (by decide +kernel) ⟨Nat.le_of_ble_eq_true rfl, Nat.le_of_ble_eq_true rfl⟩) (r_preV C P [.ref (o + (x1 + 10 + 5 * x2.toNatClampNeg))] (ci := 1) rfl (kd_lt hk32 (by decide)) (EK_1 hk32)) rfl rfl hl.1 rfl (lv_room (Nat.le_of_ble_eq_true rfl)) dX8_copyFrom_39 ⟨Nat.le_of_ble_eq_true rfl, Nat.le_of_ble_eq_true rfl⟩) P.2 (fun u34 H locs h P => ?_)
        refine lv_iinc (v := (x2 + 1)) (lv' := [(2, .int (x2 + 1)), (0, .ref (o + x0)), (1, .ref (o + x1))]) hx hb dX8_copyFrom_42 hl (k := 2) rfl rfl (by decide) rfl (fun ls hl => ?_)
        refine lv_goto (tgt := 10) hx hb dX8_copyFrom_45 (by decide) ?_
        exact ih _ _ _ u34 hx0 hx1 _ _ _ P (lv_sub hl [1, 2, 0] rfl) h
def w_X8_copyFrom (k0 : Nat) (k1 : Nat) (u0 : Mm) (Φ : Unit → Mm → Prop) : Prop := (∀ u1 : Mm, u1 = up2 u0 k0 5 (u0 k1 5) → (∃ n10 : Nat, w_X8_copyFrom_10 Φ n10 k0 k1 ((0 : Int32)) u1))
set_option maxHeartbeats 4000000 in
set_option maxRecDepth 100000 in
theorem t_X8_copyFrom_0 {p : Program} {l : Launch} {e : Env} {s : State} {m : MethodId} {args : Array Value} {below : List Frame} {meth : Method} {c : Code} {D : va_G} {cA : Nat → ClassId} {o : Nat}  {Φ : Unit → Mm → Prop} (C : Cx p m meth c s args cX8_copyFrom 3 wsX8_copyFrom RX8 none D (tysL cA)) : ∀ (k0 : Nat) (k1 : Nat) (u0 : Mm), kd k0 = 8 → kd k1 = 8 → ∀ (H : Heap) (locs : List Loc) (ls : Array Slot), Hp 747 o D (EC cA o u0) s H locs → lv_has ls 3 [(0, .ref (o + k0)), (1, .ref (o + k1))] → w_X8_copyFrom k0 k1 u0 Φ → W p l e rm_X8_copyFrom s m args below meth c H locs 0 0 (MQ below (Qg vV Φ (fun μ => Wd 747 o D (tysL cA) (EC cA o μ)) (aA o 747)) args s 0 0 (aA o 747)) (F0 m 0 ls []) := by
  intro k0 k1 u0 hk0 hk1 H locs ls P hl h
  have hx := C.1.1
  have hb := C.1.2.1
  unfold w_X8_copyFrom at h
  refine lv_aload_n hx hb dX8_copyFrom_0 rfl (lv_at hl 0 rfl) ?_
  refine lv_aload_n hx hb dX8_copyFrom_1 rfl (lv_at hl 1 rfl) ?_
  refine g_8_5 C P in_X8_copyFrom_8 wd_X8_copyFrom_1 hk1 dX8_copyFrom_2 ?_
  refine p_8_5 C P in_X8_copyFrom_8 wd_X8_copyFrom_1 hk0 dX8_copyFrom_5 (fun u1 eu1 H locs P => ?_)
  have h := h u1 eu1
  refine lv_iconst (v := 0) hx hb dX8_copyFrom_8 (by decide) ?_
  refine lv_istore_n (lv' := [(2, .int (0 : Int32)), (0, .ref (o + k0)), (1, .ref (o + k1))]) hx hb dX8_copyFrom_9 rfl hl (by decide) rfl (fun ls hl => ?_)
  obtain ⟨n10, h⟩ := h
  exact t_X8_copyFrom_10 C n10 _ _ _ u1 hk0 hk1 _ _ _ P (lv_sub hl [1, 2, 0] rfl) h
set_option maxHeartbeats 4000000 in
set_option maxRecDepth 100000 in
theorem c_X8_copyFrom (l : Launch) (D : va_G) (cA : Nat → ClassId) (o : Nat) (k0 : Nat) (k1 : Nat) (hk0 : kd k0 = 8) (hk1 : kd k1 = 8) (u0 : Mm) (Φ : Unit → Mm → Prop) (h : w_X8_copyFrom k0 k1 u0 Φ) : Met l yX8_copyFrom wsX8_copyFrom rm_X8_copyFrom (va_Pc [.ref (o + k0), .ref (o + k1)] (Wd 747 o D (tysL cA) (EC cA o u0))) (Qg vV Φ (fun μ => Wd 747 o D (tysL cA) (EC cA o μ)) (aA o 747)) 0 0 (aA o 747) := by
  refine Met.ofW (cc := cX8_copyFrom) (maxL := 3) (ret := none) (by decide) rfl ?_
  intro p e s m args below meth c s₁ B hml hv
  obtain ⟨rfl, hv⟩ := hv
  have hl := lv_entry ([.ref (o + k0), .ref (o + k1)]) (n := 3) (Nat.le_of_ble_eq_true rfl)
  rw [lg_entry_eq]
  exact t_X8_copyFrom_0 ⟨⟨B.exec, B.bytes, hml, findClass_of_methodNamed B.named, atoms_spec (ws := wsX8_copyFrom) B.pre⟩, B.returns, B.notSynchronized, hv.2⟩ k0 k1 u0 hk0 hk1 _ _ _ ⟨hv.1, va_S.rf⟩ hl h
abbrev rm_X2_prepare : Room := { frames := 4, cells := 0, slots := 0, locals := 104 }
theorem wd_X2_prepare_1 : Cond.fieldLink RX2 11 "TurnstileBank$History" "states" "[LTurnstileBank$State;" ∈ wsX2_prepare := List.mem_of_getElem? (i := 1) (by decide +kernel)
theorem wd_X2_prepare_2 : Cond.fieldLink RX2 18 "TurnstileBank$History" "length" "I" ∈ wsX2_prepare := List.mem_of_getElem? (i := 2) (by decide +kernel)
theorem in_X2_prepare_2 : ∀ w ∈ wsX20, w ∈ wsX2_prepare := fun w h => List.mem_cons_of_mem _ (List.mem_append_left _ (List.mem_append_left _ (List.mem_append_left _ (List.mem_append_left _ (List.mem_append_left _ (List.mem_append_left _ (List.mem_append_left _ (List.mem_append_right _ h))))))))
def w_X2_prepare (k1 : Nat) (u0 : Mm) (Φ : Unit → Mm → Prop) : Prop := (w_X2_rowOf ((u0 213 2)) u0 (fun r2 u1 => (vp_in r2 5 ∧ (w_X8_copyFrom ((215 + 106 * r2.toNatClampNeg)) k1 u1 (fun _ u4 => (Φ () u4))))))
set_option maxHeartbeats 4000000 in
set_option maxRecDepth 100000 in
theorem t_X2_prepare_0 {p : Program} {l : Launch} {e : Env} {s : State} {m : MethodId} {args : Array Value} {below : List Frame} {meth : Method} {c : Code} {D : va_G} {cA : Nat → ClassId} {o : Nat}  {Φ : Unit → Mm → Prop} (C : Cx p m meth c s args cX2_prepare 2 wsX2_prepare RX2 none D (tysL cA)) : ∀ (k1 : Nat) (u0 : Mm), kd k1 = 8 → ∀ (H : Heap) (locs : List Loc) (ls : Array Slot), Hp 747 o D (EC cA o u0) s H locs → lv_has ls 2 [(0, .ref (o + 213)), (1, .ref (o + k1))] → w_X2_prepare k1 u0 Φ → W p l e rm_X2_prepare s m args below meth c H locs 0 0 (MQ below (Qg vV Φ (fun μ => Wd 747 o D (tysL cA) (EC cA o μ)) (aA o 747)) args s 0 0 (aA o 747)) (F0 m 0 ls []) := by
  intro k1 u0 hk1 H locs ls P hl h
  have hx := C.1.1
  have hb := C.1.2.1
  unfold w_X2_prepare at h
  refine lv_aload_n hx hb dX2_prepare_0 rfl (lv_at hl 0 rfl) ?_
  refine g_2_0 C P in_X2_prepare_2 wd_X2_prepare_1 kd_at_213 dX2_prepare_1 ?_
  refine lv_aload_n hx hb dX2_prepare_4 rfl (lv_at hl 0 rfl) ?_
  refine lv_aload_n hx hb dX2_prepare_5 rfl (lv_at hl 0 rfl) ?_
  refine g_2_2 C P in_X2_prepare_2 wd_X2_prepare_2 kd_at_213 dX2_prepare_6 ?_
  refine r_calli (F := EC cA o) (va_runV (As := [.int (u0 213 2)]) (rest := [.ref (o + 214)]) C.1 (c_X2_rowOf l D cA o _ u0 _ h) (cwV 1 C.1.2.2.2.2 gX2_prepare_X2_rowOf rfl rfl rfl (by decide +kernel) ⟨Nat.le_of_ble_eq_true rfl, Nat.le_of_ble_eq_true rfl⟩) (r_preV C P [.int (u0 213 2)] (ci := 2) rfl (kd_lt kd_at_213 (by decide)) (EK_2 kd_at_213)) rfl rfl hl.1 rfl (lv_room (Nat.le_of_ble_eq_true rfl)) dX2_prepare_9 ⟨Nat.le_of_ble_eq_true rfl, Nat.le_of_ble_eq_true rfl⟩) P.2 (fun r2 u1 H locs h P => ?_)
  obtain ⟨hi, h⟩ := h
  have hk3 := kd_state hi
  refine a_state C P hi dX2_prepare_12 ?_
  refine lv_aload_n hx hb dX2_prepare_13 rfl (lv_at hl 1 rfl) ?_
  refine r_callv (F := EC cA o) (va_runV (As := [.ref (o + k1)]) (rest := []) C.1 (c_X8_copyFrom l D cA o _ _ hk3 hk1 u1 _ h) (cwV 1 C.1.2.2.2.2 gX2_prepare_X8_copyFrom rfl rfl rfl (by decide +kernel) ⟨Nat.le_of_ble_eq_true rfl, Nat.le_of_ble_eq_true rfl⟩) (r_preV C P [.ref (o + k1)] (ci := 8) rfl (kd_lt hk3 (by decide)) (EK_8 hk3)) rfl rfl hl.1 rfl (lv_room (Nat.le_of_ble_eq_true rfl)) dX2_prepare_14 ⟨Nat.le_of_ble_eq_true rfl, Nat.le_of_ble_eq_true rfl⟩) P.2 (fun u4 H locs h P => ?_)
  exact r_ret C P h dX2_prepare_17
set_option maxHeartbeats 4000000 in
set_option maxRecDepth 100000 in
theorem c_X2_prepare (l : Launch) (D : va_G) (cA : Nat → ClassId) (o : Nat) (k1 : Nat) (hk1 : kd k1 = 8) (u0 : Mm) (Φ : Unit → Mm → Prop) (h : w_X2_prepare k1 u0 Φ) : Met l yX2_prepare wsX2_prepare rm_X2_prepare (va_Pc [.ref (o + 213), .ref (o + k1)] (Wd 747 o D (tysL cA) (EC cA o u0))) (Qg vV Φ (fun μ => Wd 747 o D (tysL cA) (EC cA o μ)) (aA o 747)) 0 0 (aA o 747) := by
  refine Met.ofW (cc := cX2_prepare) (maxL := 2) (ret := none) (by decide) rfl ?_
  intro p e s m args below meth c s₁ B hml hv
  obtain ⟨rfl, hv⟩ := hv
  have hl := lv_entry ([.ref (o + 213), .ref (o + k1)]) (n := 2) (Nat.le_of_ble_eq_true rfl)
  rw [lg_entry_eq]
  exact t_X2_prepare_0 ⟨⟨B.exec, B.bytes, hml, findClass_of_methodNamed B.named, atoms_spec (ws := wsX2_prepare) B.pre⟩, B.returns, B.notSynchronized, hv.2⟩ k1 u0 hk1 _ _ _ ⟨hv.1, va_S.rf⟩ hl h
abbrev rm_X2_keep : Room := { frames := 2, cells := 0, slots := 0, locals := 43 }
theorem wd_X2_keep_1 : Cond.fieldLink RX2 18 "TurnstileBank$History" "length" "I" ∈ wsX2_keep := List.mem_of_getElem? (i := 1) (by decide +kernel)
theorem wd_X2_keep_2 : Cond.fieldLink RX2 30 "TurnstileBank$History" "oldest" "I" ∈ wsX2_keep := List.mem_of_getElem? (i := 2) (by decide +kernel)
theorem in_X2_keep_2 : ∀ w ∈ wsX20, w ∈ wsX2_keep := fun w h => List.mem_cons_of_mem _ (List.mem_append_right _ h)
def w_X2_keep  (u0 : Mm) (Φ : Unit → Mm → Prop) : Prop := (if (4 : Int32) ≤ (u0 213 2) then (w_X2_rowOf ((1 : Int32)) u0 (fun r3 u2 => (∀ u4 : Mm, u4 = up2 u2 213 1 r3 → (Φ () u4)))) else (∀ u5 : Mm, u5 = up2 u0 213 2 ((u0 213 2) + (1 : Int32)) → (Φ () u5)))
set_option maxHeartbeats 4000000 in
set_option maxRecDepth 100000 in
theorem t_X2_keep_0 {p : Program} {l : Launch} {e : Env} {s : State} {m : MethodId} {args : Array Value} {below : List Frame} {meth : Method} {c : Code} {D : va_G} {cA : Nat → ClassId} {o : Nat}  {Φ : Unit → Mm → Prop} (C : Cx p m meth c s args cX2_keep 1 wsX2_keep RX2 none D (tysL cA)) : ∀  (u0 : Mm), ∀ (H : Heap) (locs : List Loc) (ls : Array Slot), Hp 747 o D (EC cA o u0) s H locs → lv_has ls 1 [(0, .ref (o + 213))] → w_X2_keep u0 Φ → W p l e rm_X2_keep s m args below meth c H locs 0 0 (MQ below (Qg vV Φ (fun μ => Wd 747 o D (tysL cA) (EC cA o μ)) (aA o 747)) args s 0 0 (aA o 747)) (F0 m 0 ls []) := by
  intro u0 H locs ls P hl h
  have hx := C.1.1
  have hb := C.1.2.1
  unfold w_X2_keep at h
  refine lv_aload_n hx hb dX2_keep_0 rfl (lv_at hl 0 rfl) ?_
  refine g_2_2 C P in_X2_keep_2 wd_X2_keep_1 kd_at_213 dX2_keep_1 ?_
  refine lv_iconst (v := 4) hx hb dX2_keep_4 (by decide) ?_
  refine lv_icmp_ge (tgt := 21) hx hb dX2_keep_5 (by decide) (fun c1 => ?_) (fun c1 => ?_)
  · have h := ite_t h c1
    refine lv_aload_n hx hb dX2_keep_21 rfl (lv_at hl 0 rfl) ?_
    refine lv_aload_n hx hb dX2_keep_22 rfl (lv_at hl 0 rfl) ?_
    refine lv_iconst (v := 1) hx hb dX2_keep_23 (by decide) ?_
    refine r_calli (F := EC cA o) (va_runV (As := [.int (1 : Int32)]) (rest := [.ref (o + 213)]) C.1 (c_X2_rowOf l D cA o _ u0 _ h) (cwV 1 C.1.2.2.2.2 gX2_keep_X2_rowOf rfl rfl rfl (by decide +kernel) ⟨Nat.le_of_ble_eq_true rfl, Nat.le_of_ble_eq_true rfl⟩) (r_preV C P [.int (1 : Int32)] (ci := 2) rfl (kd_lt kd_at_213 (by decide)) (EK_2 kd_at_213)) rfl rfl hl.1 rfl (lv_room (Nat.le_of_ble_eq_true rfl)) dX2_keep_24 ⟨Nat.le_of_ble_eq_true rfl, Nat.le_of_ble_eq_true rfl⟩) P.2 (fun r3 u2 H locs h P => ?_)
    refine p_2_1 C P in_X2_keep_2 wd_X2_keep_2 kd_at_213 dX2_keep_27 (fun u4 eu4 H locs P => ?_)
    have h := h u4 eu4
    exact r_ret C P h dX2_keep_30
  · have h := ite_f h c1
    refine lv_aload_n hx hb dX2_keep_8 rfl (lv_at hl 0 rfl) ?_
    refine lv_dup hx hb dX2_keep_9 rfl ?_
    refine g_2_2 C P in_X2_keep_2 wd_X2_keep_1 kd_at_213 dX2_keep_10 ?_
    refine lv_iconst (v := 1) hx hb dX2_keep_13 (by decide) ?_
    refine lv_iadd hx hb dX2_keep_14 ?_
    refine p_2_2 C P in_X2_keep_2 wd_X2_keep_1 kd_at_213 dX2_keep_15 (fun u5 eu5 H locs P => ?_)
    have h := h u5 eu5
    refine lv_goto (tgt := 30) hx hb dX2_keep_18 (by decide) ?_
    exact r_ret C P h dX2_keep_30
set_option maxHeartbeats 4000000 in
set_option maxRecDepth 100000 in
theorem c_X2_keep (l : Launch) (D : va_G) (cA : Nat → ClassId) (o : Nat)   (u0 : Mm) (Φ : Unit → Mm → Prop) (h : w_X2_keep u0 Φ) : Met l yX2_keep wsX2_keep rm_X2_keep (va_Pc [.ref (o + 213)] (Wd 747 o D (tysL cA) (EC cA o u0))) (Qg vV Φ (fun μ => Wd 747 o D (tysL cA) (EC cA o μ)) (aA o 747)) 0 0 (aA o 747) := by
  refine Met.ofW (cc := cX2_keep) (maxL := 1) (ret := none) (by decide) rfl ?_
  intro p e s m args below meth c s₁ B hml hv
  obtain ⟨rfl, hv⟩ := hv
  have hl := lv_entry ([.ref (o + 213)]) (n := 1) (Nat.le_of_ble_eq_true rfl)
  rw [lg_entry_eq]
  exact t_X2_keep_0 ⟨⟨B.exec, B.bytes, hml, findClass_of_methodNamed B.named, atoms_spec (ws := wsX2_keep) B.pre⟩, B.returns, B.notSynchronized, hv.2⟩ u0 _ _ _ ⟨hv.1, va_S.rf⟩ hl h
abbrev rm_X2_takeLatest : Room := { frames := 2, cells := 0, slots := 0, locals := 43 }
theorem wd_X2_takeLatest_1 : Cond.fieldLink RX2 18 "TurnstileBank$History" "length" "I" ∈ wsX2_takeLatest := List.mem_of_getElem? (i := 1) (by decide +kernel)
theorem wd_X2_takeLatest_2 : Cond.methodLink RX2 33 Lib.Math.max.name ∈ wsX2_takeLatest := List.mem_of_getElem? (i := 2) (by decide +kernel)
theorem wd_X2_takeLatest_3 : Cond.static Lib.Math.max.name ∈ wsX2_takeLatest := List.mem_of_getElem? (i := 3) (by decide +kernel)
theorem wd_X2_takeLatest_4 : Cond.initialized "java/lang/Math" ∈ wsX2_takeLatest := List.mem_of_getElem? (i := 4) (by decide +kernel)
theorem wd_X2_takeLatest_5 : Cond.code Lib.Math.max.name Lib.Math.max.code 2 (some .int) ∈ wsX2_takeLatest := List.mem_of_getElem? (i := 5) (by decide +kernel)
theorem wd_X2_takeLatest_6 : Cond.fieldLink RX2 11 "TurnstileBank$History" "states" "[LTurnstileBank$State;" ∈ wsX2_takeLatest := List.mem_of_getElem? (i := 6) (by decide +kernel)
theorem in_X2_takeLatest_2 : ∀ w ∈ wsX20, w ∈ wsX2_takeLatest := fun w h => List.mem_cons_of_mem _ (List.mem_append_right _ h)
def w_X2_takeLatest  (u0 : Mm) (Φ : Nat → Mm → Prop) : Prop := (∀ u1 : Mm, u1 = up2 u0 213 2 (if ((u0 213 2) - (1 : Int32)) < (0 : Int32) then (0 : Int32) else ((u0 213 2) - (1 : Int32))) → (w_X2_rowOf ((u1 213 2)) u1 (fun r3 u2 => (vp_in r3 5 ∧ (Φ ((215 + 106 * r3.toNatClampNeg)) u2)))))
set_option maxHeartbeats 4000000 in
set_option maxRecDepth 100000 in
theorem t_X2_takeLatest_0 {p : Program} {l : Launch} {e : Env} {s : State} {m : MethodId} {args : Array Value} {below : List Frame} {meth : Method} {c : Code} {D : va_G} {cA : Nat → ClassId} {o : Nat}  {Φ : Nat → Mm → Prop} (C : Cx p m meth c s args cX2_takeLatest 1 wsX2_takeLatest RX2 (some (.object "TurnstileBank$State")) D (tysL cA)) : ∀  (u0 : Mm), ∀ (H : Heap) (locs : List Loc) (ls : Array Slot), Hp 747 o D (EC cA o u0) s H locs → lv_has ls 1 [(0, .ref (o + 213))] → w_X2_takeLatest u0 Φ → W p l e rm_X2_takeLatest s m args below meth c H locs 0 0 (MQ below (Qg (vR o) (fun k μ => Φ k μ ∧ kd k = 8) (fun μ => Wd 747 o D (tysL cA) (EC cA o μ)) (aA o 747)) args s 0 0 (aA o 747)) (F0 m 0 ls []) := by
  intro u0 H locs ls P hl h
  have hx := C.1.1
  have hb := C.1.2.1
  unfold w_X2_takeLatest at h
  refine lv_aload_n hx hb dX2_takeLatest_0 rfl (lv_at hl 0 rfl) ?_
  refine lv_aload_n hx hb dX2_takeLatest_1 rfl (lv_at hl 0 rfl) ?_
  refine g_2_2 C P in_X2_takeLatest_2 wd_X2_takeLatest_1 kd_at_213 dX2_takeLatest_2 ?_
  refine lv_iconst (v := 1) hx hb dX2_takeLatest_5 (by decide) ?_
  refine lv_isub hx hb dX2_takeLatest_6 ?_
  refine lv_iconst (v := 0) hx hb dX2_takeLatest_7 (by decide) ?_
  refine va_mmax hx hb (C.1.2.2.1.trans hl.1.symm) C.1.2.2.2.1 (C.1.2.2.2.2 _ wd_X2_takeLatest_2) (C.1.2.2.2.2 _ wd_X2_takeLatest_3) (C.1.2.2.2.2 _ wd_X2_takeLatest_4) (C.1.2.2.2.2 _ wd_X2_takeLatest_5) (Nat.le_of_ble_eq_true rfl) (Nat.le_of_ble_eq_true rfl) (Nat.le_of_ble_eq_true rfl) (Nat.le_of_ble_eq_true rfl) dX2_takeLatest_8 ?_
  refine p_2_2 C P in_X2_takeLatest_2 wd_X2_takeLatest_1 kd_at_213 dX2_takeLatest_11 (fun u1 eu1 H locs P => ?_)
  have h := h u1 eu1
  refine lv_aload_n hx hb dX2_takeLatest_14 rfl (lv_at hl 0 rfl) ?_
  refine g_2_0 C P in_X2_takeLatest_2 wd_X2_takeLatest_6 kd_at_213 dX2_takeLatest_15 ?_
  refine lv_aload_n hx hb dX2_takeLatest_18 rfl (lv_at hl 0 rfl) ?_
  refine lv_aload_n hx hb dX2_takeLatest_19 rfl (lv_at hl 0 rfl) ?_
  refine g_2_2 C P in_X2_takeLatest_2 wd_X2_takeLatest_1 kd_at_213 dX2_takeLatest_20 ?_
  refine r_calli (F := EC cA o) (va_runV (As := [.int (u1 213 2)]) (rest := [.ref (o + 214)]) C.1 (c_X2_rowOf l D cA o _ u1 _ h) (cwV 1 C.1.2.2.2.2 gX2_takeLatest_X2_rowOf rfl rfl rfl (by decide +kernel) ⟨Nat.le_of_ble_eq_true rfl, Nat.le_of_ble_eq_true rfl⟩) (r_preV C P [.int (u1 213 2)] (ci := 2) rfl (kd_lt kd_at_213 (by decide)) (EK_2 kd_at_213)) rfl rfl hl.1 rfl (lv_room (Nat.le_of_ble_eq_true rfl)) dX2_takeLatest_23 ⟨Nat.le_of_ble_eq_true rfl, Nat.le_of_ble_eq_true rfl⟩) P.2 (fun r3 u2 H locs h P => ?_)
  obtain ⟨hi, h⟩ := h
  have hk4 := kd_state hi
  refine a_state C P hi dX2_takeLatest_26 ?_
  exact r_aretr (Φ := (fun k μ => Φ k μ ∧ kd k = 8)) C P ⟨h, hk4⟩ dX2_takeLatest_27
set_option maxHeartbeats 4000000 in
set_option maxRecDepth 100000 in
theorem c_X2_takeLatest (l : Launch) (D : va_G) (cA : Nat → ClassId) (o : Nat)   (u0 : Mm) (Φ : Nat → Mm → Prop) (h : w_X2_takeLatest u0 Φ) : Met l yX2_takeLatest wsX2_takeLatest rm_X2_takeLatest (va_Pc [.ref (o + 213)] (Wd 747 o D (tysL cA) (EC cA o u0))) (Qg (vR o) (fun k μ => Φ k μ ∧ kd k = 8) (fun μ => Wd 747 o D (tysL cA) (EC cA o μ)) (aA o 747)) 0 0 (aA o 747) := by
  refine Met.ofW (cc := cX2_takeLatest) (maxL := 1) (ret := (some (.object "TurnstileBank$State"))) (by decide) rfl ?_
  intro p e s m args below meth c s₁ B hml hv
  obtain ⟨rfl, hv⟩ := hv
  have hl := lv_entry ([.ref (o + 213)]) (n := 1) (Nat.le_of_ble_eq_true rfl)
  rw [lg_entry_eq]
  exact t_X2_takeLatest_0 ⟨⟨B.exec, B.bytes, hml, findClass_of_methodNamed B.named, atoms_spec (ws := wsX2_takeLatest) B.pre⟩, B.returns, B.notSynchronized, hv.2⟩ u0 _ _ _ ⟨hv.1, va_S.rf⟩ hl h
abbrev rm_X3_append : Room := { frames := 0, cells := 0, slots := 0, locals := 0 }
theorem wd_X3_append_1 : Cond.fieldLink RX3 15 "TurnstileBank$Orders" "length" "I" ∈ wsX3_append := List.mem_of_getElem? (i := 1) (by decide +kernel)
theorem wd_X3_append_2 : Cond.fieldLink RX3 9 "TurnstileBank$Orders" "letters" "[C" ∈ wsX3_append := List.mem_of_getElem? (i := 2) (by decide +kernel)
theorem in_X3_append_3 : ∀ w ∈ wsX30, w ∈ wsX3_append := fun w h => List.mem_cons_of_mem _ (List.mem_append_right _ h)
def w_X3_append (a1 : Int32) (u0 : Mm) (Φ : Int32 → Mm → Prop) : Prop := (if (u0 745 1) < 0 then (Φ ((-3 : Int32)) u0) else (if (u0 745 1) < (50 : Int32) then (vp_in (u0 745 1) 50 ∧ ∀ u3 : Mm, u3 = up2 u0 746 (u0 745 1).toNatClampNeg (vp_nar .char a1) → (∀ u4 : Mm, u4 = up2 u3 745 1 ((u3 745 1) + (1 : Int32)) → (Φ ((u4 745 1)) u4))) else (Φ ((-3 : Int32)) u0)))
set_option maxHeartbeats 4000000 in
set_option maxRecDepth 100000 in
theorem t_X3_append_0 {p : Program} {l : Launch} {e : Env} {s : State} {m : MethodId} {args : Array Value} {below : List Frame} {meth : Method} {c : Code} {D : va_G} {cA : Nat → ClassId} {o : Nat}  {Φ : Int32 → Mm → Prop} (C : Cx p m meth c s args cX3_append 2 wsX3_append RX3 (some .int) D (tysL cA)) : ∀ (a1 : Int32) (u0 : Mm), ∀ (H : Heap) (locs : List Loc) (ls : Array Slot), Hp 747 o D (EC cA o u0) s H locs → lv_has ls 2 [(0, .ref (o + 745)), (1, .int a1)] → w_X3_append a1 u0 Φ → W p l e rm_X3_append s m args below meth c H locs 0 0 (MQ below (Qg vI Φ (fun μ => Wd 747 o D (tysL cA) (EC cA o μ)) (aA o 747)) args s 0 0 (aA o 747)) (F0 m 0 ls []) := by
  intro a1 u0 H locs ls P hl h
  have hx := C.1.1
  have hb := C.1.2.1
  unfold w_X3_append at h
  refine lv_aload_n hx hb dX3_append_0 rfl (lv_at hl 0 rfl) ?_
  refine g_3_1 C P in_X3_append_3 wd_X3_append_1 kd_at_745 dX3_append_1 ?_
  refine lv_if_lt (tgt := 19) hx hb dX3_append_4 (by decide) (fun c1 => ?_) (fun c1 => ?_)
  · have h := ite_t h c1
    refine lv_bipush (v := -3) hx hb dX3_append_19 (by decide) ?_
    exact r_ireti C P h dX3_append_21
  · have h := ite_f h c1
    refine lv_aload_n hx hb dX3_append_7 rfl (lv_at hl 0 rfl) ?_
    refine g_3_1 C P in_X3_append_3 wd_X3_append_1 kd_at_745 dX3_append_8 ?_
    refine lv_aload_n hx hb dX3_append_11 rfl (lv_at hl 0 rfl) ?_
    refine g_3_0 C P in_X3_append_3 wd_X3_append_2 kd_at_745 dX3_append_12 ?_
    refine al_22 C P kd_at_746 dX3_append_15 ?_
    refine lv_icmp_lt (tgt := 22) hx hb dX3_append_16 (by decide) (fun c2 => ?_) (fun c2 => ?_)
    · have h := ite_t h c2
      refine lv_aload_n hx hb dX3_append_22 rfl (lv_at hl 0 rfl) ?_
      refine g_3_0 C P in_X3_append_3 wd_X3_append_2 kd_at_745 dX3_append_23 ?_
      refine lv_aload_n hx hb dX3_append_26 rfl (lv_at hl 0 rfl) ?_
      refine g_3_1 C P in_X3_append_3 wd_X3_append_1 kd_at_745 dX3_append_27 ?_
      refine lv_iload_n hx hb dX3_append_30 rfl (lv_at hl 1 rfl) ?_
      obtain ⟨hi, h⟩ := h
      refine st_22 C P kd_at_746 hi dX3_append_31 (fun u3 eu3 H locs P => ?_)
      have h := h u3 eu3
      refine lv_aload_n hx hb dX3_append_32 rfl (lv_at hl 0 rfl) ?_
      refine lv_dup hx hb dX3_append_33 rfl ?_
      refine g_3_1 C P in_X3_append_3 wd_X3_append_1 kd_at_745 dX3_append_34 ?_
      refine lv_iconst (v := 1) hx hb dX3_append_37 (by decide) ?_
      refine lv_iadd hx hb dX3_append_38 ?_
      refine p_3_1 C P in_X3_append_3 wd_X3_append_1 kd_at_745 dX3_append_39 (fun u4 eu4 H locs P => ?_)
      have h := h u4 eu4
      refine lv_aload_n hx hb dX3_append_42 rfl (lv_at hl 0 rfl) ?_
      refine g_3_1 C P in_X3_append_3 wd_X3_append_1 kd_at_745 dX3_append_43 ?_
      exact r_ireti C P h dX3_append_46
    · have h := ite_f h c2
      refine lv_bipush (v := -3) hx hb dX3_append_19 (by decide) ?_
      exact r_ireti C P h dX3_append_21
set_option maxHeartbeats 4000000 in
set_option maxRecDepth 100000 in
theorem c_X3_append (l : Launch) (D : va_G) (cA : Nat → ClassId) (o : Nat) (a1 : Int32)  (u0 : Mm) (Φ : Int32 → Mm → Prop) (h : w_X3_append a1 u0 Φ) : Met l yX3_append wsX3_append rm_X3_append (va_Pc [.ref (o + 745), .int a1] (Wd 747 o D (tysL cA) (EC cA o u0))) (Qg vI Φ (fun μ => Wd 747 o D (tysL cA) (EC cA o μ)) (aA o 747)) 0 0 (aA o 747) := by
  refine Met.ofW (cc := cX3_append) (maxL := 2) (ret := (some .int)) (by decide) rfl ?_
  intro p e s m args below meth c s₁ B hml hv
  obtain ⟨rfl, hv⟩ := hv
  have hl := lv_entry ([.ref (o + 745), .int a1]) (n := 2) (Nat.le_of_ble_eq_true rfl)
  rw [lg_entry_eq]
  exact t_X3_append_0 ⟨⟨B.exec, B.bytes, hml, findClass_of_methodNamed B.named, atoms_spec (ws := wsX3_append) B.pre⟩, B.returns, B.notSynchronized, hv.2⟩ a1 u0 _ _ _ ⟨hv.1, va_S.rf⟩ hl h
abbrev rm_X3_erase : Room := { frames := 0, cells := 0, slots := 0, locals := 0 }
theorem wd_X3_erase_1 : Cond.fieldLink RX3 15 "TurnstileBank$Orders" "length" "I" ∈ wsX3_erase := List.mem_of_getElem? (i := 1) (by decide +kernel)
theorem in_X3_erase_3 : ∀ w ∈ wsX30, w ∈ wsX3_erase := fun w h => List.mem_cons_of_mem _ (List.mem_append_right _ h)
def w_X3_erase  (u0 : Mm) (Φ : Int32 → Mm → Prop) : Prop := (∀ u1 : Mm, u1 = up2 u0 745 1 (0 : Int32) → (Φ ((u0 745 1)) u1))
set_option maxHeartbeats 4000000 in
set_option maxRecDepth 100000 in
theorem t_X3_erase_0 {p : Program} {l : Launch} {e : Env} {s : State} {m : MethodId} {args : Array Value} {below : List Frame} {meth : Method} {c : Code} {D : va_G} {cA : Nat → ClassId} {o : Nat}  {Φ : Int32 → Mm → Prop} (C : Cx p m meth c s args cX3_erase 2 wsX3_erase RX3 (some .int) D (tysL cA)) : ∀  (u0 : Mm), ∀ (H : Heap) (locs : List Loc) (ls : Array Slot), Hp 747 o D (EC cA o u0) s H locs → lv_has ls 2 [(0, .ref (o + 745))] → w_X3_erase u0 Φ → W p l e rm_X3_erase s m args below meth c H locs 0 0 (MQ below (Qg vI Φ (fun μ => Wd 747 o D (tysL cA) (EC cA o μ)) (aA o 747)) args s 0 0 (aA o 747)) (F0 m 0 ls []) := by
  intro u0 H locs ls P hl h
  have hx := C.1.1
  have hb := C.1.2.1
  unfold w_X3_erase at h
  refine lv_aload_n hx hb dX3_erase_0 rfl (lv_at hl 0 rfl) ?_
  refine g_3_1 C P in_X3_erase_3 wd_X3_erase_1 kd_at_745 dX3_erase_1 ?_
  refine lv_istore_n (lv' := [(1, .int (u0 745 1)), (0, .ref (o + 745))]) hx hb dX3_erase_4 rfl hl (by decide) rfl (fun ls hl => ?_)
  refine lv_aload_n hx hb dX3_erase_5 rfl (lv_at hl 1 rfl) ?_
  refine lv_iconst (v := 0) hx hb dX3_erase_6 (by decide) ?_
  refine p_3_1 C P in_X3_erase_3 wd_X3_erase_1 kd_at_745 dX3_erase_7 (fun u1 eu1 H locs P => ?_)
  have h := h u1 eu1
  refine lv_iload_n hx hb dX3_erase_10 rfl (lv_at hl 0 rfl) ?_
  exact r_ireti C P h dX3_erase_11
set_option maxHeartbeats 4000000 in
set_option maxRecDepth 100000 in
theorem c_X3_erase (l : Launch) (D : va_G) (cA : Nat → ClassId) (o : Nat)   (u0 : Mm) (Φ : Int32 → Mm → Prop) (h : w_X3_erase u0 Φ) : Met l yX3_erase wsX3_erase rm_X3_erase (va_Pc [.ref (o + 745)] (Wd 747 o D (tysL cA) (EC cA o u0))) (Qg vI Φ (fun μ => Wd 747 o D (tysL cA) (EC cA o μ)) (aA o 747)) 0 0 (aA o 747) := by
  refine Met.ofW (cc := cX3_erase) (maxL := 2) (ret := (some .int)) (by decide) rfl ?_
  intro p e s m args below meth c s₁ B hml hv
  obtain ⟨rfl, hv⟩ := hv
  have hl := lv_entry ([.ref (o + 745)]) (n := 2) (Nat.le_of_ble_eq_true rfl)
  rw [lg_entry_eq]
  exact t_X3_erase_0 ⟨⟨B.exec, B.bytes, hml, findClass_of_methodNamed B.named, atoms_spec (ws := wsX3_erase) B.pre⟩, B.returns, B.notSynchronized, hv.2⟩ u0 _ _ _ ⟨hv.1, va_S.rf⟩ hl h
abbrev rm_X3_restart : Room := { frames := 0, cells := 0, slots := 0, locals := 0 }
theorem wd_X3_restart_1 : Cond.fieldLink RX3 19 "TurnstileBank$Orders" "place" "I" ∈ wsX3_restart := List.mem_of_getElem? (i := 1) (by decide +kernel)
theorem in_X3_restart_3 : ∀ w ∈ wsX30, w ∈ wsX3_restart := fun w h => List.mem_cons_of_mem _ (List.mem_append_right _ h)
def w_X3_restart  (u0 : Mm) (Φ : Unit → Mm → Prop) : Prop := (∀ u1 : Mm, u1 = up2 u0 745 2 (0 : Int32) → (Φ () u1))
set_option maxHeartbeats 4000000 in
set_option maxRecDepth 100000 in
theorem t_X3_restart_0 {p : Program} {l : Launch} {e : Env} {s : State} {m : MethodId} {args : Array Value} {below : List Frame} {meth : Method} {c : Code} {D : va_G} {cA : Nat → ClassId} {o : Nat}  {Φ : Unit → Mm → Prop} (C : Cx p m meth c s args cX3_restart 1 wsX3_restart RX3 none D (tysL cA)) : ∀  (u0 : Mm), ∀ (H : Heap) (locs : List Loc) (ls : Array Slot), Hp 747 o D (EC cA o u0) s H locs → lv_has ls 1 [(0, .ref (o + 745))] → w_X3_restart u0 Φ → W p l e rm_X3_restart s m args below meth c H locs 0 0 (MQ below (Qg vV Φ (fun μ => Wd 747 o D (tysL cA) (EC cA o μ)) (aA o 747)) args s 0 0 (aA o 747)) (F0 m 0 ls []) := by
  intro u0 H locs ls P hl h
  have hx := C.1.1
  have hb := C.1.2.1
  unfold w_X3_restart at h
  refine lv_aload_n hx hb dX3_restart_0 rfl (lv_at hl 0 rfl) ?_
  refine lv_iconst (v := 0) hx hb dX3_restart_1 (by decide) ?_
  refine p_3_2 C P in_X3_restart_3 wd_X3_restart_1 kd_at_745 dX3_restart_2 (fun u1 eu1 H locs P => ?_)
  have h := h u1 eu1
  exact r_ret C P h dX3_restart_5
set_option maxHeartbeats 4000000 in
set_option maxRecDepth 100000 in
theorem c_X3_restart (l : Launch) (D : va_G) (cA : Nat → ClassId) (o : Nat)   (u0 : Mm) (Φ : Unit → Mm → Prop) (h : w_X3_restart u0 Φ) : Met l yX3_restart wsX3_restart rm_X3_restart (va_Pc [.ref (o + 745)] (Wd 747 o D (tysL cA) (EC cA o u0))) (Qg vV Φ (fun μ => Wd 747 o D (tysL cA) (EC cA o μ)) (aA o 747)) 0 0 (aA o 747) := by
  refine Met.ofW (cc := cX3_restart) (maxL := 1) (ret := none) (by decide) rfl ?_
  intro p e s m args below meth c s₁ B hml hv
  obtain ⟨rfl, hv⟩ := hv
  have hl := lv_entry ([.ref (o + 745)]) (n := 1) (Nat.le_of_ble_eq_true rfl)
  rw [lg_entry_eq]
  exact t_X3_restart_0 ⟨⟨B.exec, B.bytes, hml, findClass_of_methodNamed B.named, atoms_spec (ws := wsX3_restart) B.pre⟩, B.returns, B.notSynchronized, hv.2⟩ u0 _ _ _ ⟨hv.1, va_S.rf⟩ hl h
