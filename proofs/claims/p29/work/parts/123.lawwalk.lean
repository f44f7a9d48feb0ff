abbrev rm_L_pools : Room := { frames := 3, cells := 0, slots := 0, locals := 64 }
def w_L_pools_241 (X174 : Int32 → Int32 → Int32 → Mm → Prop) (X194 : Int32 → Int32 → Int32 → Int32 → Int32 → Mm → Prop) (Φ : Int32 → Mm → Prop) (x1 : Int32) (x2 : Int32) (x3 : Int32) (x4 : Int32) (x5 : Int32) (z0 : Int32) (u0 : Mm) : Prop := (if x4 = x5 then (if z0 = (1 : Int32) then (X194 x1 x2 x3 x4 ((x5 + 1)) u0) else (Φ (0 : Int32) u0)) else (if z0 = (0 : Int32) then (X194 x1 x2 x3 x4 ((x5 + 1)) u0) else (Φ (0 : Int32) u0)))
set_option maxHeartbeats 4000000 in
set_option maxRecDepth 100000 in
theorem t_L_pools_241 {p : Program} {l : Launch} {e : Env} {s : State} {m : MethodId} {args : Array Value} {below : List Frame} {meth : Method} {c : Code} {D : va_G} {cA : Nat → ClassId} {o : Nat} {X174 : Int32 → Int32 → Int32 → Mm → Prop} {X194 : Int32 → Int32 → Int32 → Int32 → Int32 → Mm → Prop} {Φ : Int32 → Mm → Prop} (C : Cx p m meth c s args cL_pools 8 wsL_pools RL (some .boolean) D (tysL cA)) (hX174 : ∀ (x1 : Int32) (x2 : Int32) (x3 : Int32) (u0 : Mm), ∀ (H : Heap) (locs : List Loc) (ls : Array Slot), Hp 747 o D (EC cA o u0) s H locs → lv_has ls 8 [(0, .ref (o + 0)), (1, .int x1), (2, .int x2), (3, .int x3)] → X174 x1 x2 x3 u0 → W p l e rm_L_pools s m args below meth c H locs 0 0 (MQ below (Qg vI Φ (fun μ => Wd 747 o D (tysL cA) (EC cA o μ)) (aA o 747)) args s 0 0 (aA o 747)) (F0 m 174 ls [])) (hX194 : ∀ (x1 : Int32) (x2 : Int32) (x3 : Int32) (x4 : Int32) (x5 : Int32) (u0 : Mm), ∀ (H : Heap) (locs : List Loc) (ls : Array Slot), Hp 747 o D (EC cA o u0) s H locs → lv_has ls 8 [(0, .ref (o + 0)), (1, .int x1), (2, .int x2), (3, .int x3), (4, .int x4), (5, .int x5)] → X194 x1 x2 x3 x4 x5 u0 → W p l e rm_L_pools s m args below meth c H locs 0 0 (MQ below (Qg vI Φ (fun μ => Wd 747 o D (tysL cA) (EC cA o μ)) (aA o 747)) args s 0 0 (aA o 747)) (F0 m 194 ls [])) : ∀ (x1 : Int32) (x2 : Int32) (x3 : Int32) (x4 : Int32) (x5 : Int32) (z0 : Int32) (u0 : Mm), ∀ (H : Heap) (locs : List Loc) (ls : Array Slot), Hp 747 o D (EC cA o u0) s H locs → lv_has ls 8 [(0, .ref (o + 0)), (1, .int x1), (2, .int x2), (3, .int x3), (4, .int x4), (5, .int x5)] → w_L_pools_241 X174 X194 Φ x1 x2 x3 x4 x5 z0 u0 → W p l e rm_L_pools s m args below meth c H locs 0 0 (MQ below (Qg vI Φ (fun μ => Wd 747 o D (tysL cA) (EC cA o μ)) (aA o 747)) args s 0 0 (aA o 747)) (F0 m 241 ls [.int z0]) := by
  intro x1 x2 x3 x4 x5 z0 u0 H locs ls P hl h
  have hx := C.1.1
  have hb := C.1.2.1
  unfold w_L_pools_241 at h
  refine lv_istore (lv' := [(7, .int z0), (0, .ref (o + 0)), (1, .int x1), (2, .int x2), (3, .int x3), (4, .int x4), (5, .int x5)]) hx hb dL_pools_241 hl (by decide) rfl (fun ls hl => ?_)
  refine lv_iload hx hb dL_pools_243 (lv_at hl 0 rfl) ?_
  refine lv_iload hx hb dL_pools_245 (lv_at hl 5 rfl) ?_
  refine lv_iload hx hb dL_pools_247 (lv_at hl 6 rfl) ?_
  refine lv_icmp_ne (tgt := 256) hx hb dL_pools_249 (by decide) (fun c24 => ?_) (fun c24 => ?_)
  · have h := ite_f h c24
    refine lv_iconst (v := 0) hx hb dL_pools_256 (by decide) ?_
    refine lv_icmp_eq (tgt := 262) hx hb dL_pools_257 (by decide) (fun c25 => ?_) (fun c25 => ?_)
    · have h := ite_t h c25
      refine lv_iinc (v := (x5 + 1)) (lv' := [(5, .int (x5 + 1)), (7, .int z0), (0, .ref (o + 0)), (1, .int x1), (2, .int x2), (3, .int x3), (4, .int x4)]) hx hb dL_pools_262 hl (k := 6) rfl rfl (by decide) rfl (fun ls hl => ?_)
      refine lv_goto (tgt := 194) hx hb dL_pools_265 (by decide) ?_
      exact hX194 _ _ _ _ _ u0 _ _ _ P (lv_sub hl [2, 3, 4, 5, 6, 0] rfl) h
    · have h := ite_f h c25
      refine lv_iconst (v := 0) hx hb dL_pools_260 (by decide) ?_
      exact r_iretb C P (Or.inl rfl) h dL_pools_261
  · have h := ite_t h c24
    refine lv_iconst (v := 1) hx hb dL_pools_252 (by decide) ?_
    refine lv_goto (tgt := 257) hx hb dL_pools_253 (by decide) ?_
    refine lv_icmp_eq (tgt := 262) hx hb dL_pools_257 (by decide) (fun c26 => ?_) (fun c26 => ?_)
    · have h := ite_t h c26
      refine lv_iinc (v := (x5 + 1)) (lv' := [(5, .int (x5 + 1)), (7, .int z0), (0, .ref (o + 0)), (1, .int x1), (2, .int x2), (3, .int x3), (4, .int x4)]) hx hb dL_pools_262 hl (k := 6) rfl rfl (by decide) rfl (fun ls hl => ?_)
      refine lv_goto (tgt := 194) hx hb dL_pools_265 (by decide) ?_
      exact hX194 _ _ _ _ _ u0 _ _ _ P (lv_sub hl [2, 3, 4, 5, 6, 0] rfl) h
    · have h := ite_f h c26
      refine lv_iconst (v := 0) hx hb dL_pools_260 (by decide) ?_
      exact r_iretb C P (Or.inl rfl) h dL_pools_261
def w_L_pools_240 (X174 : Int32 → Int32 → Int32 → Mm → Prop) (X194 : Int32 → Int32 → Int32 → Int32 → Int32 → Mm → Prop) (Φ : Int32 → Mm → Prop) (x1 : Int32) (x2 : Int32) (x3 : Int32) (x4 : Int32) (x5 : Int32) (u0 : Mm) : Prop := (w_L_pools_241 X174 X194 Φ x1 x2 x3 x4 x5 ((0 : Int32)) u0)
set_option maxHeartbeats 4000000 in
set_option maxRecDepth 100000 in
theorem t_L_pools_240 {p : Program} {l : Launch} {e : Env} {s : State} {m : MethodId} {args : Array Value} {below : List Frame} {meth : Method} {c : Code} {D : va_G} {cA : Nat → ClassId} {o : Nat} {X174 : Int32 → Int32 → Int32 → Mm → Prop} {X194 : Int32 → Int32 → Int32 → Int32 → Int32 → Mm → Prop} {Φ : Int32 → Mm → Prop} (C : Cx p m meth c s args cL_pools 8 wsL_pools RL (some .boolean) D (tysL cA)) (hX174 : ∀ (x1 : Int32) (x2 : Int32) (x3 : Int32) (u0 : Mm), ∀ (H : Heap) (locs : List Loc) (ls : Array Slot), Hp 747 o D (EC cA o u0) s H locs → lv_has ls 8 [(0, .ref (o + 0)), (1, .int x1), (2, .int x2), (3, .int x3)] → X174 x1 x2 x3 u0 → W p l e rm_L_pools s m args below meth c H locs 0 0 (MQ below (Qg vI Φ (fun μ => Wd 747 o D (tysL cA) (EC cA o μ)) (aA o 747)) args s 0 0 (aA o 747)) (F0 m 174 ls [])) (hX194 : ∀ (x1 : Int32) (x2 : Int32) (x3 : Int32) (x4 : Int32) (x5 : Int32) (u0 : Mm), ∀ (H : Heap) (locs : List Loc) (ls : Array Slot), Hp 747 o D (EC cA o u0) s H locs → lv_has ls 8 [(0, .ref (o + 0)), (1, .int x1), (2, .int x2), (3, .int x3), (4, .int x4), (5, .int x5)] → X194 x1 x2 x3 x4 x5 u0 → W p l e rm_L_pools s m args below meth c H locs 0 0 (MQ below (Qg vI Φ (fun μ => Wd 747 o D (tysL cA) (EC cA o μ)) (aA o 747)) args s 0 0 (aA o 747)) (F0 m 194 ls [])) : ∀ (x1 : Int32) (x2 : Int32) (x3 : Int32) (x4 : Int32) (x5 : Int32) (u0 : Mm), ∀ (H : Heap) (locs : List Loc) (ls : Array Slot), Hp 747 o D (EC cA o u0) s H locs → lv_has ls 8 [(0, .ref (o + 0)), (1, .int x1), (2, .int x2), (3, .int x3), (4, .int x4), (5, .int x5)] → w_L_pools_240 X174 X194 Φ x1 x2 x3 x4 x5 u0 → W p l e rm_L_pools s m args below meth c H locs 0 0 (MQ below (Qg vI Φ (fun μ => Wd 747 o D (tysL cA) (EC cA o μ)) (aA o 747)) args s 0 0 (aA o 747)) (F0 m 240 ls []) := by
  intro x1 x2 x3 x4 x5 u0 H locs ls P hl h
  have hx := C.1.1
  have hb := C.1.2.1
  unfold w_L_pools_240 at h
  refine lv_iconst (v := 0) hx hb dL_pools_240 (by decide) ?_
  exact t_L_pools_241 C hX174 hX194 _ _ _ _ _ _ u0 _ _ _ P (lv_sub hl [0, 1, 2, 3, 4, 5] rfl) h
def w_L_pools_194 (X174 : Int32 → Int32 → Int32 → Mm → Prop) (Φ : Int32 → Mm → Prop) : Nat → Int32 → Int32 → Int32 → Int32 → Int32 → Mm → Prop
  | 0, _, _, _, _, _, _ => False
  | n + 1, x1, x2, x3, x4, x5, u0 => (w_X9_count ((2 : Int32)) u0 (fun r17 u16 => (if r17 ≤ x5 then (X174 x1 x2 ((x3 + 1)) u16) else (w_X9_person x5 ((0 : Int32)) u16 (fun r20 u19 => (w_X9_person x5 ((1 : Int32)) u19 (fun r22 u21 => (if r22 = x3 then (if r20 ≤ (1 : Int32) then (w_L_pools_240 X174 (fun y0 y1 y2 y3 y4 u => w_L_pools_194 X174 Φ n y0 y1 y2 y3 y4 u) Φ x1 x2 x3 x4 x5 u21) else (if (5 : Int32) ≤ r20 then (w_L_pools_240 X174 (fun y0 y1 y2 y3 y4 u => w_L_pools_194 X174 Φ n y0 y1 y2 y3 y4 u) Φ x1 x2 x3 x4 x5 u21) else (w_L_pools_241 X174 (fun y0 y1 y2 y3 y4 u => w_L_pools_194 X174 Φ n y0 y1 y2 y3 y4 u) Φ x1 x2 x3 x4 x5 ((1 : Int32)) u21))) else (w_L_pools_240 X174 (fun y0 y1 y2 y3 y4 u => w_L_pools_194 X174 Φ n y0 y1 y2 y3 y4 u) Φ x1 x2 x3 x4 x5 u21)))))))))
set_option maxHeartbeats 4000000 in
set_option maxRecDepth 100000 in
theorem t_L_pools_194 {p : Program} {l : Launch} {e : Env} {s : State} {m : MethodId} {args : Array Value} {below : List Frame} {meth : Method} {c : Code} {D : va_G} {cA : Nat → ClassId} {o : Nat} {X174 : Int32 → Int32 → Int32 → Mm → Prop} {Φ : Int32 → Mm → Prop} (C : Cx p m meth c s args cL_pools 8 wsL_pools RL (some .boolean) D (tysL cA)) (hX174 : ∀ (x1 : Int32) (x2 : Int32) (x3 : Int32) (u0 : Mm), ∀ (H : Heap) (locs : List Loc) (ls : Array Slot), Hp 747 o D (EC cA o u0) s H locs → lv_has ls 8 [(0, .ref (o + 0)), (1, .int x1), (2, .int x2), (3, .int x3)] → X174 x1 x2 x3 u0 → W p l e rm_L_pools s m args below meth c H locs 0 0 (MQ below (Qg vI Φ (fun μ => Wd 747 o D (tysL cA) (EC cA o μ)) (aA o 747)) args s 0 0 (aA o 747)) (F0 m 174 ls [])) : ∀ n : Nat, ∀ (x1 : Int32) (x2 : Int32) (x3 : Int32) (x4 : Int32) (x5 : Int32) (u0 : Mm), ∀ (H : Heap) (locs : List Loc) (ls : Array Slot), Hp 747 o D (EC cA o u0) s H locs → lv_has ls 8 [(0, .ref (o + 0)), (1, .int x1), (2, .int x2), (3, .int x3), (4, .int x4), (5, .int x5)] → w_L_pools_194 X174 Φ n x1 x2 x3 x4 x5 u0 → W p l e rm_L_pools s m args below meth c H locs 0 0 (MQ below (Qg vI Φ (fun μ => Wd 747 o D (tysL cA) (EC cA o μ)) (aA o 747)) args s 0 0 (aA o 747)) (F0 m 194 ls []) := by
  intro n
  induction n with
  | zero => intro x1 x2 x3 x4 x5 u0 H locs ls P hl h; exact h.elim
  | succ n ih =>
    intro x1 x2 x3 x4 x5 u0 H locs ls P hl h
    have hx := C.1.1
    have hb := C.1.2.1
    rw [w_L_pools_194] at h
    refine lv_iload hx hb dL_pools_194 (lv_at hl 5 rfl) ?_
    refine lv_aload_n hx hb dL_pools_196 rfl (lv_at hl 0 rfl) ?_
    refine lv_iconst (v := 2) hx hb dL_pools_197 (by decide) ?_
    refine r_calli (F := EC cA o) (va_runV (As := [.int (2 : Int32)]) (rest := [.int x5]) C.1 (c_X9_count l D cA o _ u0 _ h) (cwV 1 C.1.2.2.2.2 gL_pools_X9_count rfl rfl rfl (by decide +kernel) ⟨Nat.le_of_ble_eq_true rfl, Nat.le_of_ble_eq_true rfl⟩) (r_preV C P [.int (2 : Int32)] (ci := 9) rfl (kd_lt kd_at_0 (by decide)) (EK_9 kd_at_0)) rfl rfl hl.1 rfl (lv_room (Nat.le_of_ble_eq_true rfl)) dL_pools_198 ⟨Nat.le_of_ble_eq_true rfl, Nat.le_of_ble_eq_true rfl⟩) P.2 (fun r17 u16 H locs h P => ?_)
    refine lv_icmp_ge (tgt := 268) hx hb dL_pools_201 (by decide) (fun c18 => ?_) (fun c18 => ?_)
    · have h := ite_t h c18
      refine lv_iinc (v := (x3 + 1)) (lv' := [(3, .int (x3 + 1)), (0, .ref (o + 0)), (1, .int x1), (2, .int x2), (4, .int x4), (5, .int x5)]) hx hb dL_pools_268 hl (k := 3) rfl rfl (by decide) rfl (fun ls hl => ?_)
      refine lv_goto (tgt := 174) hx hb dL_pools_271 (by decide) ?_
      exact hX174 _ _ _ u16 _ _ _ P (lv_sub hl [1, 2, 3, 0] rfl) h
    · have h := ite_f h c18
      refine lv_aload_n hx hb dL_pools_204 rfl (lv_at hl 0 rfl) ?_
      refine lv_iload hx hb dL_pools_205 (lv_at hl 5 rfl) ?_
      refine lv_iconst (v := 0) hx hb dL_pools_207 (by decide) ?_
      refine r_calli (F := EC cA o) (va_runV (As := [.int x5, .int (0 : Int32)]) (rest := []) C.1 (c_X9_person l D cA o _ _ u16 _ h) (cwV 2 C.1.2.2.2.2 gL_pools_X9_person rfl rfl rfl (by decide +kernel) ⟨Nat.le_of_ble_eq_true rfl, Nat.le_of_ble_eq_true rfl⟩) (r_preV C P [.int x5, .int (0 : Int32)] (ci := 9) rfl (kd_lt kd_at_0 (by decide)) (EK_9 kd_at_0)) rfl rfl hl.1 rfl (lv_room (Nat.le_of_ble_eq_true rfl)) dL_pools_208 ⟨Nat.le_of_ble_eq_true rfl, Nat.le_of_ble_eq_true rfl⟩) P.2 (fun r20 u19 H locs h P => ?_)
      refine lv_istore (lv' := [(6, .int r20), (0, .ref (o + 0)), (1, .int x1), (2, .int x2), (3, .int x3), (4, .int x4), (5, .int x5)]) hx hb dL_pools_211 hl (by decide) rfl (fun ls hl => ?_)
      refine lv_aload_n hx hb dL_pools_213 rfl (lv_at hl 1 rfl) ?_
      refine lv_iload hx hb dL_pools_214 (lv_at hl 6 rfl) ?_
      refine lv_iconst (v := 1) hx hb dL_pools_216 (by decide) ?_
      refine r_calli (F := EC cA o) (va_runV (As := [.int x5, .int (1 : Int32)]) (rest := []) C.1 (c_X9_person l D cA o _ _ u19 _ h) (cwV 2 C.1.2.2.2.2 gL_pools_X9_person rfl rfl rfl (by decide +kernel) ⟨Nat.le_of_ble_eq_true rfl, Nat.le_of_ble_eq_true rfl⟩) (r_preV C P [.int x5, .int (1 : Int32)] (ci := 9) rfl (kd_lt kd_at_0 (by decide)) (EK_9 kd_at_0)) rfl rfl hl.1 rfl (lv_room (Nat.le_of_ble_eq_true rfl)) dL_pools_217 ⟨Nat.le_of_ble_eq_true rfl, Nat.le_of_ble_eq_true rfl⟩) P.2 (fun r22 u21 H locs h P => ?_)
      refine lv_iload_n hx hb dL_pools_220 rfl (lv_at hl 4 rfl) ?_
      refine lv_icmp_ne (tgt := 240) hx hb dL_pools_221 (by decide) (fun c23 => ?_) (fun c23 => ?_)
      · have h := ite_f h c23
        exact t_L_pools_240 C hX174 ih _ _ _ _ _ u21 _ _ _ P (lv_sub hl [1, 2, 3, 4, 5, 6] rfl) h
      · have h := ite_t h c23
        refine lv_iload hx hb dL_pools_224 (lv_at hl 0 rfl) ?_
        refine lv_iconst (v := 1) hx hb dL_pools_226 (by decide) ?_
        refine lv_icmp_le (tgt := 240) hx hb dL_pools_227 (by decide) (fun c27 => ?_) (fun c27 => ?_)
        · have h := ite_t h c27
          exact t_L_pools_240 C hX174 ih _ _ _ _ _ u21 _ _ _ P (lv_sub hl [1, 2, 3, 4, 5, 6] rfl) h
        · have h := ite_f h c27
          refine lv_iload hx hb dL_pools_230 (lv_at hl 0 rfl) ?_
          refine lv_iconst (v := 5) hx hb dL_pools_232 (by decide) ?_
          refine lv_icmp_ge (tgt := 240) hx hb dL_pools_233 (by decide) (fun c28 => ?_) (fun c28 => ?_)
          · have h := ite_t h c28
            exact t_L_pools_240 C hX174 ih _ _ _ _ _ u21 _ _ _ P (lv_sub hl [1, 2, 3, 4, 5, 6] rfl) h
          · have h := ite_f h c28
            refine lv_iconst (v := 1) hx hb dL_pools_236 (by decide) ?_
            refine lv_goto (tgt := 241) hx hb dL_pools_237 (by decide) ?_
            exact t_L_pools_241 C hX174 ih _ _ _ _ _ _ u21 _ _ _ P (lv_sub hl [1, 2, 3, 4, 5, 6] rfl) h
def w_L_pools_174  (Φ : Int32 → Mm → Prop) : Nat → Int32 → Int32 → Int32 → Mm → Prop
  | 0, _, _, _, _ => False
  | n + 1, x1, x2, x3, u0 => (w_X9_passOf x3 ((0 : Int32)) u0 (fun r5 u4 => (if r5 < 0 then (w_X9_count ((8 : Int32)) u4 (fun r8 u7 => (if r8 = x1 then (if x2 = x3 then (w_X9_passOf x3 ((0 : Int32)) u7 (fun r12 u11 => (if r12 = (-1 : Int32) then (Φ (1 : Int32) u11) else (Φ (0 : Int32) u11)))) else (Φ (0 : Int32) u7)) else (Φ (0 : Int32) u7)))) else (w_X9_passOf x3 ((2 : Int32)) u4 (fun r15 u14 => (∃ n194 : Nat, w_L_pools_194 (fun y0 y1 y2 u => w_L_pools_174 Φ n y0 y1 y2 u) Φ n194 x1 x2 x3 r15 ((0 : Int32)) u14))))))
set_option maxHeartbeats 4000000 in
set_option maxRecDepth 100000 in
theorem t_L_pools_174 {p : Program} {l : Launch} {e : Env} {s : State} {m : MethodId} {args : Array Value} {below : List Frame} {meth : Method} {c : Code} {D : va_G} {cA : Nat → ClassId} {o : Nat}  {Φ : Int32 → Mm → Prop} (C : Cx p m meth c s args cL_pools 8 wsL_pools RL (some .boolean) D (tysL cA)) : ∀ n : Nat, ∀ (x1 : Int32) (x2 : Int32) (x3 : Int32) (u0 : Mm), ∀ (H : Heap) (locs : List Loc) (ls : Array Slot), Hp 747 o D (EC cA o u0) s H locs → lv_has ls 8 [(0, .ref (o + 0)), (1, .int x1), (2, .int x2), (3, .int x3)] → w_L_pools_174 Φ n x1 x2 x3 u0 → W p l e rm_L_pools s m args below meth c H locs 0 0 (MQ below (Qg vI Φ (fun μ => Wd 747 o D (tysL cA) (EC cA o μ)) (aA o 747)) args s 0 0 (aA o 747)) (F0 m 174 ls []) := by
  intro n
  induction n with
  | zero => intro x1 x2 x3 u0 H locs ls P hl h; exact h.elim
  | succ n ih =>
    intro x1 x2 x3 u0 H locs ls P hl h
    have hx := C.1.1
    have hb := C.1.2.1
    rw [w_L_pools_174] at h
    refine lv_aload_n hx hb dL_pools_174 rfl (lv_at hl 0 rfl) ?_
    refine lv_iload_n hx hb dL_pools_175 rfl (lv_at hl 3 rfl) ?_
    refine lv_iconst (v := 0) hx hb dL_pools_176 (by decide) ?_
    refine r_calli (F := EC cA o) (va_runV (As := [.int x3, .int (0 : Int32)]) (rest := []) C.1 (c_X9_passOf l D cA o _ _ u0 _ h) (cwV 2 C.1.2.2.2.2 gL_pools_X9_passOf rfl rfl rfl (by decide +kernel) ⟨Nat.le_of_ble_eq_true rfl, Nat.le_of_ble_eq_true rfl⟩) (r_preV C P [.int x3, .int (0 : Int32)] (ci := 9) rfl (kd_lt kd_at_0 (by decide)) (EK_9 kd_at_0)) rfl rfl hl.1 rfl (lv_room (Nat.le_of_ble_eq_true rfl)) dL_pools_177 ⟨Nat.le_of_ble_eq_true rfl, Nat.le_of_ble_eq_true rfl⟩) P.2 (fun r5 u4 H locs h P => ?_)
    refine lv_if_lt (tgt := 274) hx hb dL_pools_180 (by decide) (fun c6 => ?_) (fun c6 => ?_)
    · have h := ite_t h c6
      refine lv_aload_n hx hb dL_pools_274 rfl (lv_at hl 0 rfl) ?_
      refine lv_bipush (v := 8) hx hb dL_pools_275 (by decide) ?_
      refine r_calli (F := EC cA o) (va_runV (As := [.int (8 : Int32)]) (rest := []) C.1 (c_X9_count l D cA o _ u4 _ h) (cwV 1 C.1.2.2.2.2 gL_pools_X9_count rfl rfl rfl (by decide +kernel) ⟨Nat.le_of_ble_eq_true rfl, Nat.le_of_ble_eq_true rfl⟩) (r_preV C P [.int (8 : Int32)] (ci := 9) rfl (kd_lt kd_at_0 (by decide)) (EK_9 kd_at_0)) rfl rfl hl.1 rfl (lv_room (Nat.le_of_ble_eq_true rfl)) dL_pools_277 ⟨Nat.le_of_ble_eq_true rfl, Nat.le_of_ble_eq_true rfl⟩) P.2 (fun r8 u7 H locs h P => ?_)
      refine lv_iload_n hx hb dL_pools_280 rfl (lv_at hl 1 rfl) ?_
      refine lv_icmp_ne (tgt := 303) hx hb dL_pools_281 (by decide) (fun c9 => ?_) (fun c9 => ?_)
      · have h := ite_f h c9
        refine lv_iconst (v := 0) hx hb dL_pools_303 (by decide) ?_
        exact r_iretb C P (Or.inl rfl) h dL_pools_304
      · have h := ite_t h c9
        refine lv_iload_n hx hb dL_pools_284 rfl (lv_at hl 2 rfl) ?_
        refine lv_iload_n hx hb dL_pools_285 rfl (lv_at hl 3 rfl) ?_
        refine lv_icmp_ne (tgt := 303) hx hb dL_pools_286 (by decide) (fun c10 => ?_) (fun c10 => ?_)
        · have h := ite_f h c10
          refine lv_iconst (v := 0) hx hb dL_pools_303 (by decide) ?_
          exact r_iretb C P (Or.inl rfl) h dL_pools_304
        · have h := ite_t h c10
          refine lv_aload_n hx hb dL_pools_289 rfl (lv_at hl 0 rfl) ?_
          refine lv_iload_n hx hb dL_pools_290 rfl (lv_at hl 3 rfl) ?_
          refine lv_iconst (v := 0) hx hb dL_pools_291 (by decide) ?_
          refine r_calli (F := EC cA o) (va_runV (As := [.int x3, .int (0 : Int32)]) (rest := []) C.1 (c_X9_passOf l D cA o _ _ u7 _ h) (cwV 2 C.1.2.2.2.2 gL_pools_X9_passOf rfl rfl rfl (by decide +kernel) ⟨Nat.le_of_ble_eq_true rfl, Nat.le_of_ble_eq_true rfl⟩) (r_preV C P [.int x3, .int (0 : Int32)] (ci := 9) rfl (kd_lt kd_at_0 (by decide)) (EK_9 kd_at_0)) rfl rfl hl.1 rfl (lv_room (Nat.le_of_ble_eq_true rfl)) dL_pools_292 ⟨Nat.le_of_ble_eq_true rfl, Nat.le_of_ble_eq_true rfl⟩) P.2 (fun r12 u11 H locs h P => ?_)
          refine lv_iconst (v := -1) hx hb dL_pools_295 (by decide) ?_
          refine lv_icmp_ne (tgt := 303) hx hb dL_pools_296 (by decide) (fun c13 => ?_) (fun c13 => ?_)
          · have h := ite_f h c13
            refine lv_iconst (v := 0) hx hb dL_pools_303 (by decide) ?_
            exact r_iretb C P (Or.inl rfl) h dL_pools_304
          · have h := ite_t h c13
            refine lv_iconst (v := 1) hx hb dL_pools_299 (by decide) ?_
            refine lv_goto (tgt := 304) hx hb dL_pools_300 (by decide) ?_
            exact r_iretb C P (Or.inr rfl) h dL_pools_304
    · have h := ite_f h c6
      refine lv_aload_n hx hb dL_pools_183 rfl (lv_at hl 0 rfl) ?_
      refine lv_iload_n hx hb dL_pools_184 rfl (lv_at hl 3 rfl) ?_
      refine lv_iconst (v := 2) hx hb dL_pools_185 (by decide) ?_
      refine r_calli (F := EC cA o) (va_runV (As := [.int x3, .int (2 : Int32)]) (rest := []) C.1 (c_X9_passOf l D cA o _ _ u4 _ h) (cwV 2 C.1.2.2.2.2 gL_pools_X9_passOf rfl rfl rfl (by decide +kernel) ⟨Nat.le_of_ble_eq_true rfl, Nat.le_of_ble_eq_true rfl⟩) (r_preV C P [.int x3, .int (2 : Int32)] (ci := 9) rfl (kd_lt kd_at_0 (by decide)) (EK_9 kd_at_0)) rfl rfl hl.1 rfl (lv_room (Nat.le_of_ble_eq_true rfl)) dL_pools_186 ⟨Nat.le_of_ble_eq_true rfl, Nat.le_of_ble_eq_true rfl⟩) P.2 (fun r15 u14 H locs h P => ?_)
      refine lv_istore (lv' := [(4, .int r15), (0, .ref (o + 0)), (1, .int x1), (2, .int x2), (3, .int x3)]) hx hb dL_pools_189 hl (by decide) rfl (fun ls hl => ?_)
      refine lv_iconst (v := 0) hx hb dL_pools_191 (by decide) ?_
      refine lv_istore (lv' := [(5, .int (0 : Int32)), (4, .int r15), (0, .ref (o + 0)), (1, .int x1), (2, .int x2), (3, .int x3)]) hx hb dL_pools_192 hl (by decide) rfl (fun ls hl => ?_)
      obtain ⟨n194, h⟩ := h
      exact t_L_pools_194 C ih n194 _ _ _ _ _ u14 _ _ _ P (lv_sub hl [2, 3, 4, 5, 1, 0] rfl) h
def w_L_pools_32 (X6 : Int32 → Int32 → Int32 → Mm → Prop) (Φ : Int32 → Mm → Prop) : Nat → Int32 → Int32 → Int32 → Int32 → Int32 → Mm → Prop
  | 0, _, _, _, _, _, _ => False
  | n + 1, x1, x2, x3, x4, x5, u0 => (w_X9_count ((2 : Int32)) u0 (fun r33 u32 => (if r33 ≤ x5 then (w_X9_pool x3 ((4 : Int32)) u32 (fun r36 u35 => (w_X9_pool x3 ((3 : Int32)) u35 (fun r38 u37 => (w_X9_pool x3 ((2 : Int32)) u37 (fun r40 u39 => (if r40 = x4 then (w_X9_pool x3 ((1 : Int32)) u39 (fun r43 u42 => (if r43 < x4 then (Φ (0 : Int32) u42) else (w_X9_pool x3 ((0 : Int32)) u42 (fun r46 u45 => (if r46 < 0 then (Φ (0 : Int32) u45) else (w_X9_pool x3 ((5 : Int32)) u45 (fun r49 u48 => (if r49 = (-2 : Int32) then (X6 ((x1 + r36)) ((x2 + r38)) ((x3 + 1)) u48) else (Φ (0 : Int32) u48)))))))))) else (Φ (0 : Int32) u39)))))))) else (w_X9_person x5 ((1 : Int32)) u32 (fun r52 u51 => (w_X9_person x5 ((0 : Int32)) u51 (fun r54 u53 => (if r52 < 0 then (w_L_pools_32 X6 Φ n x1 x2 x3 ((x4 + (0 : Int32))) ((x5 + 1)) u53) else (w_X9_passOf r52 ((0 : Int32)) u53 (fun r57 u56 => (if r57 = x3 then (if r54 ≤ (1 : Int32) then (w_L_pools_32 X6 Φ n x1 x2 x3 ((x4 + (0 : Int32))) ((x5 + 1)) u56) else (if (5 : Int32) ≤ r54 then (w_L_pools_32 X6 Φ n x1 x2 x3 ((x4 + (0 : Int32))) ((x5 + 1)) u56) else (w_L_pools_32 X6 Φ n x1 x2 x3 ((x4 + (1 : Int32))) ((x5 + 1)) u56))) else (w_L_pools_32 X6 Φ n x1 x2 x3 ((x4 + (0 : Int32))) ((x5 + 1)) u56))))))))))))
set_option maxHeartbeats 4000000 in
set_option maxRecDepth 100000 in
theorem t_L_pools_32 {p : Program} {l : Launch} {e : Env} {s : State} {m : MethodId} {args : Array Value} {below : List Frame} {meth : Method} {c : Code} {D : va_G} {cA : Nat → ClassId} {o : Nat} {X6 : Int32 → Int32 → Int32 → Mm → Prop} {Φ : Int32 → Mm → Prop} (C : Cx p m meth c s args cL_pools 8 wsL_pools RL (some .boolean) D (tysL cA)) (hX6 : ∀ (x1 : Int32) (x2 : Int32) (x3 : Int32) (u0 : Mm), ∀ (H : Heap) (locs : List Loc) (ls : Array Slot), Hp 747 o D (EC cA o u0) s H locs → lv_has ls 8 [(0, .ref (o + 0)), (1, .int x1), (2, .int x2), (3, .int x3)] → X6 x1 x2 x3 u0 → W p l e rm_L_pools s m args below meth c H locs 0 0 (MQ below (Qg vI Φ (fun μ => Wd 747 o D (tysL cA) (EC cA o μ)) (aA o 747)) args s 0 0 (aA o 747)) (F0 m 6 ls [])) : ∀ n : Nat, ∀ (x1 : Int32) (x2 : Int32) (x3 : Int32) (x4 : Int32) (x5 : Int32) (u0 : Mm), ∀ (H : Heap) (locs : List Loc) (ls : Array Slot), Hp 747 o D (EC cA o u0) s H locs → lv_has ls 8 [(0, .ref (o + 0)), (1, .int x1), (2, .int x2), (3, .int x3), (4, .int x4), (5, .int x5)] → w_L_pools_32 X6 Φ n x1 x2 x3 x4 x5 u0 → W p l e rm_L_pools s m args below meth c H locs 0 0 (MQ below (Qg vI Φ (fun μ => Wd 747 o D (tysL cA) (EC cA o μ)) (aA o 747)) args s 0 0 (aA o 747)) (F0 m 32 ls []) := by
  intro n
  induction n with
  | zero => intro x1 x2 x3 x4 x5 u0 H locs ls P hl h; exact h.elim
  | succ n ih =>
    intro x1 x2 x3 x4 x5 u0 H locs ls P hl h
    have hx := C.1.1
    have hb := C.1.2.1
    rw [w_L_pools_32] at h
    refine lv_iload hx hb dL_pools_32 (lv_at hl 5 rfl) ?_
    refine lv_aload_n hx hb dL_pools_34 rfl (lv_at hl 0 rfl) ?_
    refine lv_iconst (v := 2) hx hb dL_pools_35 (by decide) ?_
    refine r_calli (F := EC cA o) (va_runV (As := [.int (2 : Int32)]) (rest := [.int x5]) C.1 (c_X9_count l D cA o _ u0 _ h) (cwV 1 C.1.2.2.2.2 gL_pools_X9_count rfl rfl rfl (by decide +kernel) ⟨Nat.le_of_ble_eq_true rfl, Nat.le_of_ble_eq_true rfl⟩) (r_preV C P [.int (2 : Int32)] (ci := 9) rfl (kd_lt kd_at_0 (by decide)) (EK_9 kd_at_0)) rfl rfl hl.1 rfl (lv_room (Nat.le_of_ble_eq_true rfl)) dL_pools_36 ⟨Nat.le_of_ble_eq_true rfl, Nat.le_of_ble_eq_true rfl⟩) P.2 (fun r33 u32 H locs h P => ?_)
    refine lv_icmp_ge (tgt := 104) hx hb dL_pools_39 (by decide) (fun c34 => ?_) (fun c34 => ?_)
    · have h := ite_t h c34
      refine lv_iload_n hx hb dL_pools_104 rfl (lv_at hl 1 rfl) ?_
      refine lv_aload_n hx hb dL_pools_105 rfl (lv_at hl 0 rfl) ?_
      refine lv_iload_n hx hb dL_pools_106 rfl (lv_at hl 3 rfl) ?_
      refine lv_iconst (v := 4) hx hb dL_pools_107 (by decide) ?_
      refine r_calli (F := EC cA o) (va_runV (As := [.int x3, .int (4 : Int32)]) (rest := [.int x1]) C.1 (c_X9_pool l D cA o _ _ u32 _ h) (cwV 2 C.1.2.2.2.2 gL_pools_X9_pool rfl rfl rfl (by decide +kernel) ⟨Nat.le_of_ble_eq_true rfl, Nat.le_of_ble_eq_true rfl⟩) (r_preV C P [.int x3, .int (4 : Int32)] (ci := 9) rfl (kd_lt kd_at_0 (by decide)) (EK_9 kd_at_0)) rfl rfl hl.1 rfl (lv_room (Nat.le_of_ble_eq_true rfl)) dL_pools_108 ⟨Nat.le_of_ble_eq_true rfl, Nat.le_of_ble_eq_true rfl⟩) P.2 (fun r36 u35 H locs h P => ?_)
      refine lv_iadd hx hb dL_pools_111 ?_
      refine lv_istore_n (lv' := [(1, .int (x1 + r36)), (0, .ref (o + 0)), (2, .int x2), (3, .int x3), (4, .int x4), (5, .int x5)]) hx hb dL_pools_112 rfl hl (by decide) rfl (fun ls hl => ?_)
      refine lv_iload_n hx hb dL_pools_113 rfl (lv_at hl 2 rfl) ?_
      refine lv_aload_n hx hb dL_pools_114 rfl (lv_at hl 1 rfl) ?_
      refine lv_iload_n hx hb dL_pools_115 rfl (lv_at hl 3 rfl) ?_
      refine lv_iconst (v := 3) hx hb dL_pools_116 (by decide) ?_
      refine r_calli (F := EC cA o) (va_runV (As := [.int x3, .int (3 : Int32)]) (rest := [.int x2]) C.1 (c_X9_pool l D cA o _ _ u35 _ h) (cwV 2 C.1.2.2.2.2 gL_pools_X9_pool rfl rfl rfl (by decide +kernel) ⟨Nat.le_of_ble_eq_true rfl, Nat.le_of_ble_eq_true rfl⟩) (r_preV C P [.int x3, .int (3 : Int32)] (ci := 9) rfl (kd_lt kd_at_0 (by decide)) (EK_9 kd_at_0)) rfl rfl hl.1 rfl (lv_room (Nat.le_of_ble_eq_true rfl)) dL_pools_117 ⟨Nat.le_of_ble_eq_true rfl, Nat.le_of_ble_eq_true rfl⟩) P.2 (fun r38 u37 H locs h P => ?_)
      refine lv_iadd hx hb dL_pools_120 ?_
      refine lv_istore_n (lv' := [(2, .int (x2 + r38)), (1, .int (x1 + r36)), (0, .ref (o + 0)), (3, .int x3), (4, .int x4), (5, .int x5)]) hx hb dL_pools_121 rfl hl (by decide) rfl (fun ls hl => ?_)
      refine lv_aload_n hx hb dL_pools_122 rfl (lv_at hl 2 rfl) ?_
      refine lv_iload_n hx hb dL_pools_123 rfl (lv_at hl 3 rfl) ?_
      refine lv_iconst (v := 2) hx hb dL_pools_124 (by decide) ?_
      refine r_calli (F := EC cA o) (va_runV (As := [.int x3, .int (2 : Int32)]) (rest := []) C.1 (c_X9_pool l D cA o _ _ u37 _ h) (cwV 2 C.1.2.2.2.2 gL_pools_X9_pool rfl rfl rfl (by decide +kernel) ⟨Nat.le_of_ble_eq_true rfl, Nat.le_of_ble_eq_true rfl⟩) (r_preV C P [.int x3, .int (2 : Int32)] (ci := 9) rfl (kd_lt kd_at_0 (by decide)) (EK_9 kd_at_0)) rfl rfl hl.1 rfl (lv_room (Nat.le_of_ble_eq_true rfl)) dL_pools_125 ⟨Nat.le_of_ble_eq_true rfl, Nat.le_of_ble_eq_true rfl⟩) P.2 (fun r40 u39 H locs h P => ?_)
      refine lv_iload hx hb dL_pools_128 (lv_at hl 4 rfl) ?_
      refine lv_icmp_ne (tgt := 164) hx hb dL_pools_130 (by decide) (fun c41 => ?_) (fun c41 => ?_)
      · have h := ite_f h c41
        refine lv_iconst (v := 0) hx hb dL_pools_164 (by decide) ?_
        exact r_iretb C P (Or.inl rfl) h dL_pools_165
      · have h := ite_t h c41
        refine lv_iload hx hb dL_pools_133 (lv_at hl 4 rfl) ?_
        refine lv_aload_n hx hb dL_pools_135 rfl (lv_at hl 2 rfl) ?_
        refine lv_iload_n hx hb dL_pools_136 rfl (lv_at hl 3 rfl) ?_
        refine lv_iconst (v := 1) hx hb dL_pools_137 (by decide) ?_
        refine r_calli (F := EC cA o) (va_runV (As := [.int x3, .int (1 : Int32)]) (rest := [.int x4]) C.1 (c_X9_pool l D cA o _ _ u39 _ h) (cwV 2 C.1.2.2.2.2 gL_pools_X9_pool rfl rfl rfl (by decide +kernel) ⟨Nat.le_of_ble_eq_true rfl, Nat.le_of_ble_eq_true rfl⟩) (r_preV C P [.int x3, .int (1 : Int32)] (ci := 9) rfl (kd_lt kd_at_0 (by decide)) (EK_9 kd_at_0)) rfl rfl hl.1 rfl (lv_room (Nat.le_of_ble_eq_true rfl)) dL_pools_138 ⟨Nat.le_of_ble_eq_true rfl, Nat.le_of_ble_eq_true rfl⟩) P.2 (fun r43 u42 H locs h P => ?_)
        refine lv_icmp_gt (tgt := 164) hx hb dL_pools_141 (by decide) (fun c44 => ?_) (fun c44 => ?_)
        · have h := ite_t h c44
          refine lv_iconst (v := 0) hx hb dL_pools_164 (by decide) ?_
          exact r_iretb C P (Or.inl rfl) h dL_pools_165
        · have h := ite_f h c44
          refine lv_aload_n hx hb dL_pools_144 rfl (lv_at hl 2 rfl) ?_
          refine lv_iload_n hx hb dL_pools_145 rfl (lv_at hl 3 rfl) ?_
          refine lv_iconst (v := 0) hx hb dL_pools_146 (by decide) ?_
          refine r_calli (F := EC cA o) (va_runV (As := [.int x3, .int (0 : Int32)]) (rest := []) C.1 (c_X9_pool l D cA o _ _ u42 _ h) (cwV 2 C.1.2.2.2.2 gL_pools_X9_pool rfl rfl rfl (by decide +kernel) ⟨Nat.le_of_ble_eq_true rfl, Nat.le_of_ble_eq_true rfl⟩) (r_preV C P [.int x3, .int (0 : Int32)] (ci := 9) rfl (kd_lt kd_at_0 (by decide)) (EK_9 kd_at_0)) rfl rfl hl.1 rfl (lv_room (Nat.le_of_ble_eq_true rfl)) dL_pools_147 ⟨Nat.le_of_ble_eq_true rfl, Nat.le_of_ble_eq_true rfl⟩) P.2 (fun r46 u45 H locs h P => ?_)
          refine lv_if_lt (tgt := 164) hx hb dL_pools_150 (by decide) (fun c47 => ?_) (fun c47 => ?_)
          · have h := ite_t h c47
            refine lv_iconst (v := 0) hx hb dL_pools_164 (by decide) ?_
            exact r_iretb C P (Or.inl rfl) h dL_pools_165
          · have h := ite_f h c47
            refine lv_aload_n hx hb dL_pools_153 rfl (lv_at hl 2 rfl) ?_
            refine lv_iload_n hx hb dL_pools_154 rfl (lv_at hl 3 rfl) ?_
            refine lv_iconst (v := 5) hx hb dL_pools_155 (by decide) ?_
            refine r_calli (F := EC cA o) (va_runV (As := [.int x3, .int (5 : Int32)]) (rest := []) C.1 (c_X9_pool l D cA o _ _ u45 _ h) (cwV 2 C.1.2.2.2.2 gL_pools_X9_pool rfl rfl rfl (by decide +kernel) ⟨Nat.le_of_ble_eq_true rfl, Nat.le_of_ble_eq_true rfl⟩) (r_preV C P [.int x3, .int (5 : Int32)] (ci := 9) rfl (kd_lt kd_at_0 (by decide)) (EK_9 kd_at_0)) rfl rfl hl.1 rfl (lv_room (Nat.le_of_ble_eq_true rfl)) dL_pools_156 ⟨Nat.le_of_ble_eq_true rfl, Nat.le_of_ble_eq_true rfl⟩) P.2 (fun r49 u48 H locs h P => ?_)
            refine lv_bipush (v := -2) hx hb dL_pools_159 (by decide) ?_
            refine lv_icmp_eq (tgt := 166) hx hb dL_pools_161 (by decide) (fun c50 => ?_) (fun c50 => ?_)
            · have h := ite_t h c50
              refine lv_iinc (v := (x3 + 1)) (lv' := [(3, .int (x3 + 1)), (2, .int (x2 + r38)), (1, .int (x1 + r36)), (0, .ref (o + 0)), (4, .int x4), (5, .int x5)]) hx hb dL_pools_166 hl (k := 3) rfl rfl (by decide) rfl (fun ls hl => ?_)
              refine lv_goto (tgt := 6) hx hb dL_pools_169 (by decide) ?_
              exact hX6 _ _ _ u48 _ _ _ P (lv_sub hl [3, 2, 1, 0] rfl) h
            · have h := ite_f h c50
              refine lv_iconst (v := 0) hx hb dL_pools_164 (by decide) ?_
              exact r_iretb C P (Or.inl rfl) h dL_pools_165
    · have h := ite_f h c34
      refine lv_aload_n hx hb dL_pools_42 rfl (lv_at hl 0 rfl) ?_
      refine lv_iload hx hb dL_pools_43 (lv_at hl 5 rfl) ?_
      refine lv_iconst (v := 1) hx hb dL_pools_45 (by decide) ?_
      refine r_calli (F := EC cA o) (va_runV (As := [.int x5, .int (1 : Int32)]) (rest := []) C.1 (c_X9_person l D cA o _ _ u32 _ h) (cwV 2 C.1.2.2.2.2 gL_pools_X9_person rfl rfl rfl (by decide +kernel) ⟨Nat.le_of_ble_eq_true rfl, Nat.le_of_ble_eq_true rfl⟩) (r_preV C P [.int x5, .int (1 : Int32)] (ci := 9) rfl (kd_lt kd_at_0 (by decide)) (EK_9 kd_at_0)) rfl rfl hl.1 rfl (lv_room (Nat.le_of_ble_eq_true rfl)) dL_pools_46 ⟨Nat.le_of_ble_eq_true rfl, Nat.le_of_ble_eq_true rfl⟩) P.2 (fun r52 u51 H locs h P => ?_)
      refine lv_istore (lv' := [(6, .int r52), (0, .ref (o + 0)), (1, .int x1), (2, .int x2), (3, .int x3), (4, .int x4), (5, .int x5)]) hx hb dL_pools_49 hl (by decide) rfl (fun ls hl => ?_)
      refine lv_aload_n hx hb dL_pools_51 rfl (lv_at hl 1 rfl) ?_
      refine lv_iload hx hb dL_pools_52 (lv_at hl 6 rfl) ?_
      refine lv_iconst (v := 0) hx hb dL_pools_54 (by decide) ?_
      refine r_calli (F := EC cA o) (va_runV (As := [.int x5, .int (0 : Int32)]) (rest := []) C.1 (c_X9_person l D cA o _ _ u51 _ h) (cwV 2 C.1.2.2.2.2 gL_pools_X9_person rfl rfl rfl (by decide +kernel) ⟨Nat.le_of_ble_eq_true rfl, Nat.le_of_ble_eq_true rfl⟩) (r_preV C P [.int x5, .int (0 : Int32)] (ci := 9) rfl (kd_lt kd_at_0 (by decide)) (EK_9 kd_at_0)) rfl rfl hl.1 rfl (lv_room (Nat.le_of_ble_eq_true rfl)) dL_pools_55 ⟨Nat.le_of_ble_eq_true rfl, Nat.le_of_ble_eq_true rfl⟩) P.2 (fun r54 u53 H locs h P => ?_)
      refine lv_istore (lv' := [(7, .int r54), (6, .int r52), (0, .ref (o + 0)), (1, .int x1), (2, .int x2), (3, .int x3), (4, .int x4), (5, .int x5)]) hx hb dL_pools_58 hl (by decide) rfl (fun ls hl => ?_)
      refine lv_iload hx hb dL_pools_60 (lv_at hl 6 rfl) ?_
      refine lv_iload hx hb dL_pools_62 (lv_at hl 1 rfl) ?_
      refine lv_if_lt (tgt := 94) hx hb dL_pools_64 (by decide) (fun c55 => ?_) (fun c55 => ?_)
      · have h := ite_t h c55
        refine lv_iconst (v := 0) hx hb dL_pools_94 (by decide) ?_
        refine lv_iadd hx hb dL_pools_95 ?_
        refine lv_istore (lv' := [(4, .int (x4 + (0 : Int32))), (7, .int r54), (6, .int r52), (0, .ref (o + 0)), (1, .int x1), (2, .int x2), (3, .int x3), (5, .int x5)]) hx hb dL_pools_96 hl (by decide) rfl (fun ls hl => ?_)
        refine lv_iinc (v := (x5 + 1)) (lv' := [(5, .int (x5 + 1)), (4, .int (x4 + (0 : Int32))), (7, .int r54), (6, .int r52), (0, .ref (o + 0)), (1, .int x1), (2, .int x2), (3, .int x3)]) hx hb dL_pools_98 hl (k := 7) rfl rfl (by decide) rfl (fun ls hl => ?_)
        refine lv_goto (tgt := 32) hx hb dL_pools_101 (by decide) ?_
        exact ih _ _ _ _ _ u53 _ _ _ P (lv_sub hl [4, 5, 6, 7, 1, 0] rfl) h
      · have h := ite_f h c55
        refine lv_aload_n hx hb dL_pools_67 rfl (lv_at hl 2 rfl) ?_
        refine lv_iload hx hb dL_pools_68 (lv_at hl 1 rfl) ?_
        refine lv_iconst (v := 0) hx hb dL_pools_70 (by decide) ?_
        refine r_calli (F := EC cA o) (va_runV (As := [.int r52, .int (0 : Int32)]) (rest := [.int x4]) C.1 (c_X9_passOf l D cA o _ _ u53 _ h) (cwV 2 C.1.2.2.2.2 gL_pools_X9_passOf rfl rfl rfl (by decide +kernel) ⟨Nat.le_of_ble_eq_true rfl, Nat.le_of_ble_eq_true rfl⟩) (r_preV C P [.int r52, .int (0 : Int32)] (ci := 9) rfl (kd_lt kd_at_0 (by decide)) (EK_9 kd_at_0)) rfl rfl hl.1 rfl (lv_room (Nat.le_of_ble_eq_true rfl)) dL_pools_71 ⟨Nat.le_of_ble_eq_true rfl, Nat.le_of_ble_eq_true rfl⟩) P.2 (fun r57 u56 H locs h P => ?_)
        refine lv_iload_n hx hb dL_pools_74 rfl (lv_at hl 5 rfl) ?_
        refine lv_icmp_ne (tgt := 94) hx hb dL_pools_75 (by decide) (fun c58 => ?_) (fun c58 => ?_)
        · have h := ite_f h c58
          refine lv_iconst (v := 0) hx hb dL_pools_94 (by decide) ?_
          refine lv_iadd hx hb dL_pools_95 ?_
          refine lv_istore (lv' := [(4, .int (x4 + (0 : Int32))), (7, .int r54), (6, .int r52), (0, .ref (o + 0)), (1, .int x1), (2, .int x2), (3, .int x3), (5, .int x5)]) hx hb dL_pools_96 hl (by decide) rfl (fun ls hl => ?_)
          refine lv_iinc (v := (x5 + 1)) (lv' := [(5, .int (x5 + 1)), (4, .int (x4 + (0 : Int32))), (7, .int r54), (6, .int r52), (0, .ref (o + 0)), (1, .int x1), (2, .int x2), (3, .int x3)]) hx hb dL_pools_98 hl (k := 7) rfl rfl (by decide) rfl (fun ls hl => ?_)
          refine lv_goto (tgt := 32) hx hb dL_pools_101 (by decide) ?_
          exact ih _ _ _ _ _ u56 _ _ _ P (lv_sub hl [4, 5, 6, 7, 1, 0] rfl) h
        · have h := ite_t h c58
          refine lv_iload hx hb dL_pools_78 (lv_at hl 0 rfl) ?_
          refine lv_iconst (v := 1) hx hb dL_pools_80 (by decide) ?_
          refine lv_icmp_le (tgt := 94) hx hb dL_pools_81 (by decide) (fun c59 => ?_) (fun c59 => ?_)
          · have h := ite_t h c59
            refine lv_iconst (v := 0) hx hb dL_pools_94 (by decide) ?_
            refine lv_iadd hx hb dL_pools_95 ?_
            refine lv_istore (lv' := [(4, .int (x4 + (0 : Int32))), (7, .int r54), (6, .int r52), (0, .ref (o + 0)), (1, .int x1), (2, .int x2), (3, .int x3), (5, .int x5)]) hx hb dL_pools_96 hl (by decide) rfl (fun ls hl => ?_)
            refine lv_iinc (v := (x5 + 1)) (lv' := [(5, .int (x5 + 1)), (4, .int (x4 + (0 : Int32))), (7, .int r54), (6, .int r52), (0, .ref (o + 0)), (1, .int x1), (2, .int x2), (3, .int x3)]) hx hb dL_pools_98 hl (k := 7) rfl rfl (by decide) rfl (fun ls hl => ?_)
            refine lv_goto (tgt := 32) hx hb dL_pools_101 (by decide) ?_
            exact ih _ _ _ _ _ u56 _ _ _ P (lv_sub hl [4, 5, 6, 7, 1, 0] rfl) h
          · have h := ite_f h c59
            refine lv_iload hx hb dL_pools_84 (lv_at hl 0 rfl) ?_
            refine lv_iconst (v := 5) hx hb dL_pools_86 (by decide) ?_
            refine lv_icmp_ge (tgt := 94) hx hb dL_pools_87 (by decide) (fun c60 => ?_) (fun c60 => ?_)
            · have h := ite_t h c60
              refine lv_iconst (v := 0) hx hb dL_pools_94 (by decide) ?_
              refine lv_iadd hx hb dL_pools_95 ?_
              refine lv_istore (lv' := [(4, .int (x4 + (0 : Int32))), (7, .int r54), (6, .int r52), (0, .ref (o + 0)), (1, .int x1), (2, .int x2), (3, .int x3), (5, .int x5)]) hx hb dL_pools_96 hl (by decide) rfl (fun ls hl => ?_)
              refine lv_iinc (v := (x5 + 1)) (lv' := [(5, .int (x5 + 1)), (4, .int (x4 + (0 : Int32))), (7, .int r54), (6, .int r52), (0, .ref (o + 0)), (1, .int x1), (2, .int x2), (3, .int x3)]) hx hb dL_pools_98 hl (k := 7) rfl rfl (by decide) rfl (fun ls hl => ?_)
              refine lv_goto (tgt := 32) hx hb dL_pools_101 (by decide) ?_
              exact ih _ _ _ _ _ u56 _ _ _ P (lv_sub hl [4, 5, 6, 7, 1, 0] rfl) h
            · have h := ite_f h c60
              refine lv_iconst (v := 1) hx hb dL_pools_90 (by decide) ?_
              refine lv_goto (tgt := 95) hx hb dL_pools_91 (by decide) ?_
              refine lv_iadd hx hb dL_pools_95 ?_
              refine lv_istore (lv' := [(4, .int (x4 + (1 : Int32))), (7, .int r54), (6, .int r52), (0, .ref (o + 0)), (1, .int x1), (2, .int x2), (3, .int x3), (5, .int x5)]) hx hb dL_pools_96 hl (by decide) rfl (fun ls hl => ?_)
              refine lv_iinc (v := (x5 + 1)) (lv' := [(5, .int (x5 + 1)), (4, .int (x4 + (1 : Int32))), (7, .int r54), (6, .int r52), (0, .ref (o + 0)), (1, .int x1), (2, .int x2), (3, .int x3)]) hx hb dL_pools_98 hl (k := 7) rfl rfl (by decide) rfl (fun ls hl => ?_)
              refine lv_goto (tgt := 32) hx hb dL_pools_101 (by decide) ?_
              exact ih _ _ _ _ _ u56 _ _ _ P (lv_sub hl [4, 5, 6, 7, 1, 0] rfl) h
def w_L_pools_6  (Φ : Int32 → Mm → Prop) : Nat → Int32 → Int32 → Int32 → Mm → Prop
  | 0, _, _, _, _ => False
  | n + 1, x1, x2, x3, u0 => (w_X9_count ((0 : Int32)) u0 (fun r2 u1 => (if (r2 + (4 : Int32)) ≤ x3 then (∃ n174 : Nat, w_L_pools_174 Φ n174 x1 x2 ((0 : Int32)) u1) else (w_X9_pool x3 ((0 : Int32)) u1 (fun r30 u29 => (if r30 < 0 then (∃ n174 : Nat, w_L_pools_174 Φ n174 x1 x2 ((0 : Int32)) u29) else (∃ n32 : Nat, w_L_pools_32 (fun y0 y1 y2 u => w_L_pools_6 Φ n y0 y1 y2 u) Φ n32 x1 x2 x3 ((0 : Int32)) ((0 : Int32)) u29)))))))
set_option maxHeartbeats 4000000 in
set_option maxRecDepth 100000 in
theorem t_L_pools_6 {p : Program} {l : Launch} {e : Env} {s : State} {m : MethodId} {args : Array Value} {below : List Frame} {meth : Method} {c : Code} {D : va_G} {cA : Nat → ClassId} {o : Nat}  {Φ : Int32 → Mm → Prop} (C : Cx p m meth c s args cL_pools 8 wsL_pools RL (some .boolean) D (tysL cA)) : ∀ n : Nat, ∀ (x1 : Int32) (x2 : Int32) (x3 : Int32) (u0 : Mm), ∀ (H : Heap) (locs : List Loc) (ls : Array Slot), Hp 747 o D (EC cA o u0) s H locs → lv_has ls 8 [(0, .ref (o + 0)), (1, .int x1), (2, .int x2), (3, .int x3)] → w_L_pools_6 Φ n x1 x2 x3 u0 → W p l e rm_L_pools s m args below meth c H locs 0 0 (MQ below (Qg vI Φ (fun μ => Wd 747 o D (tysL cA) (EC cA o μ)) (aA o 747)) args s 0 0 (aA o 747)) (F0 m 6 ls []) := by
  intro n
  induction n with
  | zero => intro x1 x2 x3 u0 H locs ls P hl h; exact h.elim
  | succ n ih =>
    intro x1 x2 x3 u0 H locs ls P hl h
    have hx := C.1.1
    have hb := C.1.2.1
    rw [w_L_pools_6] at h
    refine lv_iload_n hx hb dL_pools_6 rfl (lv_at hl 3 rfl) ?_
    refine lv_aload_n hx hb dL_pools_7 rfl (lv_at hl 0 rfl) ?_
    refine lv_iconst (v := 0) hx hb dL_pools_8 (by decide) ?_
    refine r_calli (F := EC cA o) (va_runV (As := [.int (0 : Int32)]) (rest := [.int x3]) C.1 (c_X9_count l D cA o _ u0 _ h) (cwV 1 C.1.2.2.2.2 gL_pools_X9_count rfl rfl rfl (by decide +kernel) ⟨Nat.le_of_ble_eq_true rfl, Nat.le_of_ble_eq_true rfl⟩) (r_preV C P [.int (0 : Int32)] (ci := 9) rfl (kd_lt kd_at_0 (by decide)) (EK_9 kd_at_0)) rfl rfl hl.1 rfl (lv_room (Nat.le_of_ble_eq_true rfl)) dL_pools_9 ⟨Nat.le_of_ble_eq_true rfl, Nat.le_of_ble_eq_true rfl⟩) P.2 (fun r2 u1 H locs h P => ?_)
    refine lv_iconst (v := 4) hx hb dL_pools_12 (by decide) ?_
    refine lv_iadd hx hb dL_pools_13 ?_
    refine lv_icmp_ge (tgt := 172) hx hb dL_pools_14 (by decide) (fun c3 => ?_) (fun c3 => ?_)
    · have h := ite_t h c3
      refine lv_iconst (v := 0) hx hb dL_pools_172 (by decide) ?_
      refine lv_istore_n (lv' := [(3, .int (0 : Int32)), (0, .ref (o + 0)), (1, .int x1), (2, .int x2)]) hx hb dL_pools_173 rfl hl (by decide) rfl (fun ls hl => ?_)
      obtain ⟨n174, h⟩ := h
      exact t_L_pools_174 C n174 _ _ _ u1 _ _ _ P (lv_sub hl [1, 2, 3, 0] rfl) h
    · have h := ite_f h c3
      refine lv_aload_n hx hb dL_pools_17 rfl (lv_at hl 0 rfl) ?_
      refine lv_iload_n hx hb dL_pools_18 rfl (lv_at hl 3 rfl) ?_
      refine lv_iconst (v := 0) hx hb dL_pools_19 (by decide) ?_
      refine r_calli (F := EC cA o) (va_runV (As := [.int x3, .int (0 : Int32)]) (rest := []) C.1 (c_X9_pool l D cA o _ _ u1 _ h) (cwV 2 C.1.2.2.2.2 gL_pools_X9_pool rfl rfl rfl (by decide +kernel) ⟨Nat.le_of_ble_eq_true rfl, Nat.le_of_ble_eq_true rfl⟩) (r_preV C P [.int x3, .int (0 : Int32)] (ci := 9) rfl (kd_lt kd_at_0 (by decide)) (EK_9 kd_at_0)) rfl rfl hl.1 rfl (lv_room (Nat.le_of_ble_eq_true rfl)) dL_pools_20 ⟨Nat.le_of_ble_eq_true rfl, Nat.le_of_ble_eq_true rfl⟩) P.2 (fun r30 u29 H locs h P => ?_)
      refine lv_if_lt (tgt := 172) hx hb dL_pools_23 (by decide) (fun c31 => ?_) (fun c31 => ?_)
      · have h := ite_t h c31
        refine lv_iconst (v := 0) hx hb dL_pools_172 (by decide) ?_
        refine lv_istore_n (lv' := [(3, .int (0 : Int32)), (0, .ref (o + 0)), (1, .int x1), (2, .int x2)]) hx hb dL_pools_173 rfl hl (by decide) rfl (fun ls hl => ?_)
        obtain ⟨n174, h⟩ := h
        exact t_L_pools_174 C n174 _ _ _ u29 _ _ _ P (lv_sub hl [1, 2, 3, 0] rfl) h
      · have h := ite_f h c31
        refine lv_iconst (v := 0) hx hb dL_pools_26 (by decide) ?_
        refine lv_istore (lv' := [(4, .int (0 : Int32)), (0, .ref (o + 0)), (1, .int x1), (2, .int x2), (3, .int x3)]) hx hb dL_pools_27 hl (by decide) rfl (fun ls hl => ?_)
        refine lv_iconst (v := 0) hx hb dL_pools_29 (by decide) ?_
        refine lv_istore (lv' := [(5, .int (0 : Int32)), (4, .int (0 : Int32)), (0, .ref (o + 0)), (1, .int x1), (2, .int x2), (3, .int x3)]) hx hb dL_pools_30 hl (by decide) rfl (fun ls hl => ?_)
        obtain ⟨n32, h⟩ := h
        exact t_L_pools_32 C ih n32 _ _ _ _ _ u29 _ _ _ P (lv_sub hl [2, 3, 4, 5, 1, 0] rfl) h
def w_L_pools  (u0 : Mm) (Φ : Int32 → Mm → Prop) : Prop := (∃ n6 : Nat, w_L_pools_6 Φ n6 ((0 : Int32)) ((0 : Int32)) ((0 : Int32)) u0)
set_option maxHeartbeats 4000000 in
set_option maxRecDepth 100000 in
theorem t_L_pools_0 {p : Program} {l : Launch} {e : Env} {s : State} {m : MethodId} {args : Array Value} {below : List Frame} {meth : Method} {c : Code} {D : va_G} {cA : Nat → ClassId} {o : Nat}  {Φ : Int32 → Mm → Prop} (C : Cx p m meth c s args cL_pools 8 wsL_pools RL (some .boolean) D (tysL cA)) : ∀  (u0 : Mm), ∀ (H : Heap) (locs : List Loc) (ls : Array Slot), Hp 747 o D (EC cA o u0) s H locs → lv_has ls 8 [(0, .ref (o + 0))] → w_L_pools u0 Φ → W p l e rm_L_pools s m args below meth c H locs 0 0 (MQ below (Qg vI Φ (fun μ => Wd 747 o D (tysL cA) (EC cA o μ)) (aA o 747)) args s 0 0 (aA o 747)) (F0 m 0 ls []) := by
  intro u0 H locs ls P hl h
  have hx := C.1.1
  have hb := C.1.2.1
  unfold w_L_pools at h
  refine lv_iconst (v := 0) hx hb dL_pools_0 (by decide) ?_
  refine lv_istore_n (lv' := [(1, .int (0 : Int32)), (0, .ref (o + 0))]) hx hb dL_pools_1 rfl hl (by decide) rfl (fun ls hl => ?_)
  refine lv_iconst (v := 0) hx hb dL_pools_2 (by decide) ?_
  refine lv_istore_n (lv' := [(2, .int (0 : Int32)), (1, .int (0 : Int32)), (0, .ref (o + 0))]) hx hb dL_pools_3 rfl hl (by decide) rfl (fun ls hl => ?_)
  refine lv_iconst (v := 0) hx hb dL_pools_4 (by decide) ?_
  refine lv_istore_n (lv' := [(3, .int (0 : Int32)), (2, .int (0 : Int32)), (1, .int (0 : Int32)), (0, .ref (o + 0))]) hx hb dL_pools_5 rfl hl (by decide) rfl (fun ls hl => ?_)
  obtain ⟨n6, h⟩ := h
  exact t_L_pools_6 C n6 _ _ _ u0 _ _ _ P (lv_sub hl [3, 2, 1, 0] rfl) h
set_option maxHeartbeats 4000000 in
set_option maxRecDepth 100000 in
theorem c_L_pools (l : Launch) (D : va_G) (cA : Nat → ClassId) (o : Nat)   (u0 : Mm) (Φ : Int32 → Mm → Prop) (h : w_L_pools u0 Φ) : Met l yL_pools wsL_pools rm_L_pools (va_Pc [.ref (o + 0)] (Wd 747 o D (tysL cA) (EC cA o u0))) (Qg vI Φ (fun μ => Wd 747 o D (tysL cA) (EC cA o μ)) (aA o 747)) 0 0 (aA o 747) := by
  refine Met.ofW (cc := cL_pools) (maxL := 8) (ret := (some .boolean)) (by decide) rfl ?_
  intro p e s m args below meth c s₁ B hml hv
  obtain ⟨rfl, hv⟩ := hv
  have hl := lv_entry ([.ref (o + 0)]) (n := 8) (Nat.le_of_ble_eq_true rfl)
  rw [lg_entry_eq]
  exact t_L_pools_0 ⟨⟨B.exec, B.bytes, hml, findClass_of_methodNamed B.named, atoms_spec (ws := wsL_pools) B.pre⟩, B.returns, B.notSynchronized, hv.2⟩ u0 _ _ _ ⟨hv.1, va_S.rf⟩ hl h
abbrev rm_L_fails : Room := { frames := 6, cells := 0, slots := 0, locals := 147 }
def w_L_fails_244  (Φ : Int32 → Mm → Prop) (x3 : Int32) (x5 : Int32) (u0 : Mm) : Prop := (w_X9_event ((0 : Int32)) ((2 : Int32)) u0 (fun r23 u22 => (if r23 = x3 then (w_X9_count ((6 : Int32)) u22 (fun r26 u25 => (w_X9_count ((3 : Int32)) u25 (fun r28 u27 => (w_X9_person x3 ((0 : Int32)) u27 (fun r30 u29 => (if r30 = (3 : Int32) then (if (r26 + r28) = (x5 + (1 : Int32)) then (Φ (1 : Int32) u29) else (Φ (0 : Int32) u29)) else (w_X9_person x3 ((0 : Int32)) u29 (fun r34 u33 => (if r34 = (5 : Int32) then (if (r26 + r28) = (x5 + (1 : Int32)) then (Φ (1 : Int32) u33) else (Φ (0 : Int32) u33)) else (if (r26 + r28) = (x5 + (0 : Int32)) then (Φ (1 : Int32) u33) else (Φ (0 : Int32) u33)))))))))))) else (Φ (0 : Int32) u22))))
set_option maxHeartbeats 4000000 in
set_option maxRecDepth 100000 in
theorem t_L_fails_244 {p : Program} {l : Launch} {e : Env} {s : State} {m : MethodId} {args : Array Value} {below : List Frame} {meth : Method} {c : Code} {D : va_G} {cA : Nat → ClassId} {o : Nat}  {Φ : Int32 → Mm → Prop} (C : Cx p m meth c s args cL_fails 7 wsL_fails RL (some .boolean) D (tysL cA)) : ∀ (x3 : Int32) (x5 : Int32) (u0 : Mm), ∀ (H : Heap) (locs : List Loc) (ls : Array Slot), Hp 747 o D (EC cA o u0) s H locs → lv_has ls 7 [(0, .ref (o + 0)), (3, .int x3), (5, .int x5)] → w_L_fails_244 Φ x3 x5 u0 → W p l e rm_L_fails s m args below meth c H locs 0 0 (MQ below (Qg vI Φ (fun μ => Wd 747 o D (tysL cA) (EC cA o μ)) (aA o 747)) args s 0 0 (aA o 747)) (F0 m 244 ls []) := by
  intro x3 x5 u0 H locs ls P hl h
  have hx := C.1.1
  have hb := C.1.2.1
  unfold w_L_fails_244 at h
  refine lv_aload_n hx hb dL_fails_244 rfl (lv_at hl 0 rfl) ?_
  refine lv_iconst (v := 0) hx hb dL_fails_245 (by decide) ?_
  refine lv_iconst (v := 2) hx hb dL_fails_246 (by decide) ?_
  refine r_calli (F := EC cA o) (va_runV (As := [.int (0 : Int32), .int (2 : Int32)]) (rest := []) C.1 (c_X9_event l D cA o _ _ u0 _ h) (cwV 2 C.1.2.2.2.2 gL_fails_X9_event rfl rfl rfl (by decide +kernel) ⟨Nat.le_of_ble_eq_true rfl, Nat.le_of_ble_eq_true rfl⟩) (r_preV C P [.int (0 : Int32), .int (2 : Int32)] (ci := 9) rfl (kd_lt kd_at_0 (by decide)) (EK_9 kd_at_0)) rfl rfl hl.1 rfl (lv_room (Nat.le_of_ble_eq_true rfl)) dL_fails_247 ⟨Nat.le_of_ble_eq_true rfl, Nat.le_of_ble_eq_true rfl⟩) P.2 (fun r23 u22 H locs h P => ?_)
  refine lv_iload_n hx hb dL_fails_250 rfl (lv_at hl 1 rfl) ?_
  refine lv_icmp_ne (tgt := 301) hx hb dL_fails_251 (by decide) (fun c24 => ?_) (fun c24 => ?_)
  · have h := ite_f h c24
    refine lv_iconst (v := 0) hx hb dL_fails_301 (by decide) ?_
    exact r_iretb C P (Or.inl rfl) h dL_fails_302
  · have h := ite_t h c24
    refine lv_aload_n hx hb dL_fails_254 rfl (lv_at hl 0 rfl) ?_
    refine lv_bipush (v := 6) hx hb dL_fails_255 (by decide) ?_
    refine r_calli (F := EC cA o) (va_runV (As := [.int (6 : Int32)]) (rest := []) C.1 (c_X9_count l D cA o _ u22 _ h) (cwV 1 C.1.2.2.2.2 gL_fails_X9_count rfl rfl rfl (by decide +kernel) ⟨Nat.le_of_ble_eq_true rfl, Nat.le_of_ble_eq_true rfl⟩) (r_preV C P [.int (6 : Int32)] (ci := 9) rfl (kd_lt kd_at_0 (by decide)) (EK_9 kd_at_0)) rfl rfl hl.1 rfl (lv_room (Nat.le_of_ble_eq_true rfl)) dL_fails_257 ⟨Nat.le_of_ble_eq_true rfl, Nat.le_of_ble_eq_true rfl⟩) P.2 (fun r26 u25 H locs h P => ?_)
    refine lv_aload_n hx hb dL_fails_260 rfl (lv_at hl 0 rfl) ?_
    refine lv_iconst (v := 3) hx hb dL_fails_261 (by decide) ?_
    refine r_calli (F := EC cA o) (va_runV (As := [.int (3 : Int32)]) (rest := [.int r26]) C.1 (c_X9_count l D cA o _ u25 _ h) (cwV 1 C.1.2.2.2.2 gL_fails_X9_count rfl rfl rfl (by decide +kernel) ⟨Nat.le_of_ble_eq_true rfl, Nat.le_of_ble_eq_true rfl⟩) (r_preV C P [.int (3 : Int32)] (ci := 9) rfl (kd_lt kd_at_0 (by decide)) (EK_9 kd_at_0)) rfl rfl hl.1 rfl (lv_room (Nat.le_of_ble_eq_true rfl)) dL_fails_262 ⟨Nat.le_of_ble_eq_true rfl, Nat.le_of_ble_eq_true rfl⟩) P.2 (fun r28 u27 H locs h P => ?_)
    refine lv_iadd hx hb dL_fails_265 ?_
    refine lv_iload hx hb dL_fails_266 (lv_at hl 2 rfl) ?_
    refine lv_aload_n hx hb dL_fails_268 rfl (lv_at hl 0 rfl) ?_
    refine lv_iload_n hx hb dL_fails_269 rfl (lv_at hl 1 rfl) ?_
    refine lv_iconst (v := 0) hx hb dL_fails_270 (by decide) ?_
    refine r_calli (F := EC cA o) (va_runV (As := [.int x3, .int (0 : Int32)]) (rest := [.int x5, .int (r26 + r28)]) C.1 (c_X9_person l D cA o _ _ u27 _ h) (cwV 2 C.1.2.2.2.2 gL_fails_X9_person rfl rfl rfl (by decide +kernel) ⟨Nat.le_of_ble_eq_true rfl, Nat.le_of_ble_eq_true rfl⟩) (r_preV C P [.int x3, .int (0 : Int32)] (ci := 9) rfl (kd_lt kd_at_0 (by decide)) (EK_9 kd_at_0)) rfl rfl hl.1 rfl (lv_room (Nat.le_of_ble_eq_true rfl)) dL_fails_271 ⟨Nat.le_of_ble_eq_true rfl, Nat.le_of_ble_eq_true rfl⟩) P.2 (fun r30 u29 H locs h P => ?_)
    refine lv_iconst (v := 3) hx hb dL_fails_274 (by decide) ?_
    refine lv_icmp_eq (tgt := 288) hx hb dL_fails_275 (by decide) (fun c31 => ?_) (fun c31 => ?_)
    · have h := ite_t h c31
      refine lv_iconst (v := 1) hx hb dL_fails_288 (by decide) ?_
      refine lv_goto (tgt := 293) hx hb dL_fails_289 (by decide) ?_
      refine lv_iadd hx hb dL_fails_293 ?_
      refine lv_icmp_ne (tgt := 301) hx hb dL_fails_294 (by decide) (fun c32 => ?_) (fun c32 => ?_)
      · have h := ite_f h c32
        refine lv_iconst (v := 0) hx hb dL_fails_301 (by decide) ?_
        exact r_iretb C P (Or.inl rfl) h dL_fails_302
      · have h := ite_t h c32
        refine lv_iconst (v := 1) hx hb dL_fails_297 (by decide) ?_
        refine lv_goto (tgt := 302) hx hb dL_fails_298 (by decide) ?_
        exact r_iretb C P (Or.inr rfl) h dL_fails_302
    · have h := ite_f h c31
      refine lv_aload_n hx hb dL_fails_278 rfl (lv_at hl 0 rfl) ?_
      refine lv_iload_n hx hb dL_fails_279 rfl (lv_at hl 1 rfl) ?_
      refine lv_iconst (v := 0) hx hb dL_fails_280 (by decide) ?_
      refine r_calli (F := EC cA o) (va_runV (As := [.int x3, .int (0 : Int32)]) (rest := [.int x5, .int (r26 + r28)]) C.1 (c_X9_person l D cA o _ _ u29 _ h) (cwV 2 C.1.2.2.2.2 gL_fails_X9_person rfl rfl rfl (by decide +kernel) ⟨Nat.le_of_ble_eq_true rfl, Nat.le_of_ble_eq_true rfl⟩) (r_preV C P [.int x3, .int (0 : Int32)] (ci := 9) rfl (kd_lt kd_at_0 (by decide)) (EK_9 kd_at_0)) rfl rfl hl.1 rfl (lv_room (Nat.le_of_ble_eq_true rfl)) dL_fails_281 ⟨Nat.le_of_ble_eq_true rfl, Nat.le_of_ble_eq_true rfl⟩) P.2 (fun r34 u33 H locs h P => ?_)
      refine lv_iconst (v := 5) hx hb dL_fails_284 (by decide) ?_
      refine lv_icmp_ne (tgt := 292) hx hb dL_fails_285 (by decide) (fun c35 => ?_) (fun c35 => ?_)
      · have h := ite_f h c35
        refine lv_iconst (v := 0) hx hb dL_fails_292 (by decide) ?_
        refine lv_iadd hx hb dL_fails_293 ?_
        refine lv_icmp_ne (tgt := 301) hx hb dL_fails_294 (by decide) (fun c36 => ?_) (fun c36 => ?_)
        · have h := ite_f h c36
          refine lv_iconst (v := 0) hx hb dL_fails_301 (by decide) ?_
          exact r_iretb C P (Or.inl rfl) h dL_fails_302
        · have h := ite_t h c36
          refine lv_iconst (v := 1) hx hb dL_fails_297 (by decide) ?_
          refine lv_goto (tgt := 302) hx hb dL_fails_298 (by decide) ?_
          exact r_iretb C P (Or.inr rfl) h dL_fails_302
      · have h := ite_t h c35
        refine lv_iconst (v := 1) hx hb dL_fails_288 (by decide) ?_
        refine lv_goto (tgt := 293) hx hb dL_fails_289 (by decide) ?_
        refine lv_iadd hx hb dL_fails_293 ?_
        refine lv_icmp_ne (tgt := 301) hx hb dL_fails_294 (by decide) (fun c37 => ?_) (fun c37 => ?_)
        · have h := ite_f h c37
          refine lv_iconst (v := 0) hx hb dL_fails_301 (by decide) ?_
          exact r_iretb C P (Or.inl rfl) h dL_fails_302
        · have h := ite_t h c37
          refine lv_iconst (v := 1) hx hb dL_fails_297 (by decide) ?_
          refine lv_goto (tgt := 302) hx hb dL_fails_298 (by decide) ?_
          exact r_iretb C P (Or.inr rfl) h dL_fails_302
def w_L_fails_213  (Φ : Int32 → Mm → Prop) (x3 : Int32) (x5 : Int32) (z0 : Int32) (u0 : Mm) : Prop := (if z0 = 0 then (Φ (0 : Int32) u0) else (if x3 < 0 then (Φ (1 : Int32) u0) else (w_X9_person x3 ((0 : Int32)) u0 (fun r20 u19 => (if r20 = (3 : Int32) then (w_L_fails_244 Φ x3 x5 u19) else (w_X9_person x3 ((0 : Int32)) u19 (fun r39 u38 => (if r39 = (5 : Int32) then (w_L_fails_244 Φ x3 x5 u38) else (Φ (0 : Int32) u38)))))))))
set_option maxHeartbeats 4000000 in
set_option maxRecDepth 100000 in
theorem t_L_fails_213 {p : Program} {l : Launch} {e : Env} {s : State} {m : MethodId} {args : Array Value} {below : List Frame} {meth : Method} {c : Code} {D : va_G} {cA : Nat → ClassId} {o : Nat}  {Φ : Int32 → Mm → Prop} (C : Cx p m meth c s args cL_fails 7 wsL_fails RL (some .boolean) D (tysL cA)) : ∀ (x3 : Int32) (x5 : Int32) (z0 : Int32) (u0 : Mm), ∀ (H : Heap) (locs : List Loc) (ls : Array Slot), Hp 747 o D (EC cA o u0) s H locs → lv_has ls 7 [(0, .ref (o + 0)), (3, .int x3), (5, .int x5)] → w_L_fails_213 Φ x3 x5 z0 u0 → W p l e rm_L_fails s m args below meth c H locs 0 0 (MQ below (Qg vI Φ (fun μ => Wd 747 o D (tysL cA) (EC cA o μ)) (aA o 747)) args s 0 0 (aA o 747)) (F0 m 213 ls [.int z0]) := by
  intro x3 x5 z0 u0 H locs ls P hl h
  have hx := C.1.1
  have hb := C.1.2.1
  unfold w_L_fails_213 at h
  refine lv_istore (lv' := [(6, .int z0), (0, .ref (o + 0)), (3, .int x3), (5, .int x5)]) hx hb dL_fails_213 hl (by decide) rfl (fun ls hl => ?_)
  refine lv_iload hx hb dL_fails_215 (lv_at hl 0 rfl) ?_
  refine lv_if_eq (tgt := 301) hx hb dL_fails_217 (by decide) (fun c17 => ?_) (fun c17 => ?_)
  · have h := ite_t h c17
    refine lv_iconst (v := 0) hx hb dL_fails_301 (by decide) ?_
    exact r_iretb C P (Or.inl rfl) h dL_fails_302
  · have h := ite_f h c17
    refine lv_iload_n hx hb dL_fails_220 rfl (lv_at hl 2 rfl) ?_
    refine lv_if_lt (tgt := 297) hx hb dL_fails_221 (by decide) (fun c18 => ?_) (fun c18 => ?_)
    · have h := ite_t h c18
      refine lv_iconst (v := 1) hx hb dL_fails_297 (by decide) ?_
      refine lv_goto (tgt := 302) hx hb dL_fails_298 (by decide) ?_
      exact r_iretb C P (Or.inr rfl) h dL_fails_302
    · have h := ite_f h c18
      refine lv_aload_n hx hb dL_fails_224 rfl (lv_at hl 1 rfl) ?_
      refine lv_iload_n hx hb dL_fails_225 rfl (lv_at hl 2 rfl) ?_
      refine lv_iconst (v := 0) hx hb dL_fails_226 (by decide) ?_
      refine r_calli (F := EC cA o) (va_runV (As := [.int x3, .int (0 : Int32)]) (rest := []) C.1 (c_X9_person l D cA o _ _ u0 _ h) (cwV 2 C.1.2.2.2.2 gL_fails_X9_person rfl rfl rfl (by decide +kernel) ⟨Nat.le_of_ble_eq_true rfl, Nat.le_of_ble_eq_true rfl⟩) (r_preV C P [.int x3, .int (0 : Int32)] (ci := 9) rfl (kd_lt kd_at_0 (by decide)) (EK_9 kd_at_0)) rfl rfl hl.1 rfl (lv_room (Nat.le_of_ble_eq_true rfl)) dL_fails_227 ⟨Nat.le_of_ble_eq_true rfl, Nat.le_of_ble_eq_true rfl⟩) P.2 (fun r20 u19 H locs h P => ?_)
      refine lv_iconst (v := 3) hx hb dL_fails_230 (by decide) ?_
      refine lv_icmp_eq (tgt := 244) hx hb dL_fails_231 (by decide) (fun c21 => ?_) (fun c21 => ?_)
      · have h := ite_t h c21
        exact t_L_fails_244 C _ _ u19 _ _ _ P (lv_sub hl [1, 2, 3] rfl) h
      · have h := ite_f h c21
        refine lv_aload_n hx hb dL_fails_234 rfl (lv_at hl 1 rfl) ?_
        refine lv_iload_n hx hb dL_fails_235 rfl (lv_at hl 2 rfl) ?_
        refine lv_iconst (v := 0) hx hb dL_fails_236 (by decide) ?_
        refine r_calli (F := EC cA o) (va_runV (As := [.int x3, .int (0 : Int32)]) (rest := []) C.1 (c_X9_person l D cA o _ _ u19 _ h) (cwV 2 C.1.2.2.2.2 gL_fails_X9_person rfl rfl rfl (by decide +kernel) ⟨Nat.le_of_ble_eq_true rfl, Nat.le_of_ble_eq_true rfl⟩) (r_preV C P [.int x3, .int (0 : Int32)] (ci := 9) rfl (kd_lt kd_at_0 (by decide)) (EK_9 kd_at_0)) rfl rfl hl.1 rfl (lv_room (Nat.le_of_ble_eq_true rfl)) dL_fails_237 ⟨Nat.le_of_ble_eq_true rfl, Nat.le_of_ble_eq_true rfl⟩) P.2 (fun r39 u38 H locs h P => ?_)
        refine lv_iconst (v := 5) hx hb dL_fails_240 (by decide) ?_
        refine lv_icmp_ne (tgt := 301) hx hb dL_fails_241 (by decide) (fun c40 => ?_) (fun c40 => ?_)
        · have h := ite_f h c40
          refine lv_iconst (v := 0) hx hb dL_fails_301 (by decide) ?_
          exact r_iretb C P (Or.inl rfl) h dL_fails_302
        · have h := ite_t h c40
          exact t_L_fails_244 C _ _ u38 _ _ _ P (lv_sub hl [1, 2, 3] rfl) h
def w_L_fails_212  (Φ : Int32 → Mm → Prop) (x3 : Int32) (x5 : Int32) (u0 : Mm) : Prop := (w_L_fails_213 Φ x3 x5 ((0 : Int32)) u0)
set_option maxHeartbeats 4000000 in
set_option maxRecDepth 100000 in
theorem t_L_fails_212 {p : Program} {l : Launch} {e : Env} {s : State} {m : MethodId} {args : Array Value} {below : List Frame} {meth : Method} {c : Code} {D : va_G} {cA : Nat → ClassId} {o : Nat}  {Φ : Int32 → Mm → Prop} (C : Cx p m meth c s args cL_fails 7 wsL_fails RL (some .boolean) D (tysL cA)) : ∀ (x3 : Int32) (x5 : Int32) (u0 : Mm), ∀ (H : Heap) (locs : List Loc) (ls : Array Slot), Hp 747 o D (EC cA o u0) s H locs → lv_has ls 7 [(0, .ref (o + 0)), (3, .int x3), (5, .int x5)] → w_L_fails_212 Φ x3 x5 u0 → W p l e rm_L_fails s m args below meth c H locs 0 0 (MQ below (Qg vI Φ (fun μ => Wd 747 o D (tysL cA) (EC cA o μ)) (aA o 747)) args s 0 0 (aA o 747)) (F0 m 212 ls []) := by
  intro x3 x5 u0 H locs ls P hl h
  have hx := C.1.1
  have hb := C.1.2.1
  unfold w_L_fails_212 at h
  refine lv_iconst (v := 0) hx hb dL_fails_212 (by decide) ?_
  exact t_L_fails_213 C _ _ _ u0 _ _ _ P (lv_sub hl [0, 1, 2] rfl) h
def w_L_fails_199  (Φ : Int32 → Mm → Prop) (x3 : Int32) (x5 : Int32) (z0 : Int32) (u0 : Mm) : Prop := (w_X9_event z0 ((2 : Int32)) u0 (fun r61 u60 => (if r61 = (-5 : Int32) then (w_L_fails_213 Φ x3 x5 ((1 : Int32)) u60) else (w_L_fails_212 Φ x3 x5 u60))))
set_option maxHeartbeats 4000000 in
set_option maxRecDepth 100000 in
theorem t_L_fails_199 {p : Program} {l : Launch} {e : Env} {s : State} {m : MethodId} {args : Array Value} {below : List Frame} {meth : Method} {c : Code} {D : va_G} {cA : Nat → ClassId} {o : Nat}  {Φ : Int32 → Mm → Prop} (C : Cx p m meth c s args cL_fails 7 wsL_fails RL (some .boolean) D (tysL cA)) : ∀ (x3 : Int32) (x5 : Int32) (z0 : Int32) (u0 : Mm), ∀ (H : Heap) (locs : List Loc) (ls : Array Slot), Hp 747 o D (EC cA o u0) s H locs → lv_has ls 7 [(0, .ref (o + 0)), (3, .int x3), (5, .int x5)] → w_L_fails_199 Φ x3 x5 z0 u0 → W p l e rm_L_fails s m args below meth c H locs 0 0 (MQ below (Qg vI Φ (fun μ => Wd 747 o D (tysL cA) (EC cA o μ)) (aA o 747)) args s 0 0 (aA o 747)) (F0 m 199 ls [.int z0, .ref (o + 0)]) := by
  intro x3 x5 z0 u0 H locs ls P hl h
  have hx := C.1.1
  have hb := C.1.2.1
  unfold w_L_fails_199 at h
  refine lv_iconst (v := 2) hx hb dL_fails_199 (by decide) ?_
  refine r_calli (F := EC cA o) (va_runV (As := [.int z0, .int (2 : Int32)]) (rest := []) C.1 (c_X9_event l D cA o _ _ u0 _ h) (cwV 2 C.1.2.2.2.2 gL_fails_X9_event rfl rfl rfl (by decide +kernel) ⟨Nat.le_of_ble_eq_true rfl, Nat.le_of_ble_eq_true rfl⟩) (r_preV C P [.int z0, .int (2 : Int32)] (ci := 9) rfl (kd_lt kd_at_0 (by decide)) (EK_9 kd_at_0)) rfl rfl hl.1 rfl (lv_room (Nat.le_of_ble_eq_true rfl)) dL_fails_200 ⟨Nat.le_of_ble_eq_true rfl, Nat.le_of_ble_eq_true rfl⟩) P.2 (fun r61 u60 H locs h P => ?_)
  refine lv_bipush (v := -5) hx hb dL_fails_203 (by decide) ?_
  refine lv_icmp_ne (tgt := 212) hx hb dL_fails_205 (by decide) (fun c62 => ?_) (fun c62 => ?_)
  · have h := ite_f h c62
    exact t_L_fails_212 C _ _ u60 _ _ _ P (lv_sub hl [0, 1, 2] rfl) h
  · have h := ite_t h c62
    refine lv_iconst (v := 1) hx hb dL_fails_208 (by decide) ?_
    refine lv_goto (tgt := 213) hx hb dL_fails_209 (by decide) ?_
    exact t_L_fails_213 C _ _ _ u60 _ _ _ P (lv_sub hl [0, 1, 2] rfl) h
def w_L_fails_181  (Φ : Int32 → Mm → Prop) (x3 : Int32) (x5 : Int32) (z0 : Int32) (u0 : Mm) : Prop := (w_X9_event z0 ((3 : Int32)) u0 (fun r57 u56 => (if r57 = (5 : Int32) then (if 0 ≤ x3 then (w_L_fails_199 Φ x3 x5 ((1 : Int32)) u56) else (w_L_fails_199 Φ x3 x5 ((0 : Int32)) u56)) else (w_L_fails_212 Φ x3 x5 u56))))
set_option maxHeartbeats 4000000 in
set_option maxRecDepth 100000 in
theorem t_L_fails_181 {p : Program} {l : Launch} {e : Env} {s : State} {m : MethodId} {args : Array Value} {below : List Frame} {meth : Method} {c : Code} {D : va_G} {cA : Nat → ClassId} {o : Nat}  {Φ : Int32 → Mm → Prop} (C : Cx p m meth c s args cL_fails 7 wsL_fails RL (some .boolean) D (tysL cA)) : ∀ (x3 : Int32) (x5 : Int32) (z0 : Int32) (u0 : Mm), ∀ (H : Heap) (locs : List Loc) (ls : Array Slot), Hp 747 o D (EC cA o u0) s H locs → lv_has ls 7 [(0, .ref (o + 0)), (3, .int x3), (5, .int x5)] → w_L_fails_181 Φ x3 x5 z0 u0 → W p l e rm_L_fails s m args below meth c H locs 0 0 (MQ below (Qg vI Φ (fun μ => Wd 747 o D (tysL cA) (EC cA o μ)) (aA o 747)) args s 0 0 (aA o 747)) (F0 m 181 ls [.int z0, .ref (o + 0)]) := by
  intro x3 x5 z0 u0 H locs ls P hl h
  have hx := C.1.1
  have hb := C.1.2.1
  unfold w_L_fails_181 at h
  refine lv_iconst (v := 3) hx hb dL_fails_181 (by decide) ?_
  refine r_calli (F := EC cA o) (va_runV (As := [.int z0, .int (3 : Int32)]) (rest := []) C.1 (c_X9_event l D cA o _ _ u0 _ h) (cwV 2 C.1.2.2.2.2 gL_fails_X9_event rfl rfl rfl (by decide +kernel) ⟨Nat.le_of_ble_eq_true rfl, Nat.le_of_ble_eq_true rfl⟩) (r_preV C P [.int z0, .int (3 : Int32)] (ci := 9) rfl (kd_lt kd_at_0 (by decide)) (EK_9 kd_at_0)) rfl rfl hl.1 rfl (lv_room (Nat.le_of_ble_eq_true rfl)) dL_fails_182 ⟨Nat.le_of_ble_eq_true rfl, Nat.le_of_ble_eq_true rfl⟩) P.2 (fun r57 u56 H locs h P => ?_)
  refine lv_iconst (v := 5) hx hb dL_fails_185 (by decide) ?_
  refine lv_icmp_ne (tgt := 212) hx hb dL_fails_186 (by decide) (fun c58 => ?_) (fun c58 => ?_)
  · have h := ite_f h c58
    exact t_L_fails_212 C _ _ u56 _ _ _ P (lv_sub hl [0, 1, 2] rfl) h
  · have h := ite_t h c58
    refine lv_aload_n hx hb dL_fails_189 rfl (lv_at hl 0 rfl) ?_
    refine lv_iload_n hx hb dL_fails_190 rfl (lv_at hl 1 rfl) ?_
    refine lv_if_ge (tgt := 198) hx hb dL_fails_191 (by decide) (fun c59 => ?_) (fun c59 => ?_)
    · have h := ite_t h c59
      refine lv_iconst (v := 1) hx hb dL_fails_198 (by decide) ?_
      exact t_L_fails_199 C _ _ _ u56 _ _ _ P (lv_sub hl [0, 1, 2] rfl) h
    · have h := ite_f h c59
      refine lv_iconst (v := 0) hx hb dL_fails_194 (by decide) ?_
      refine lv_goto (tgt := 199) hx hb dL_fails_195 (by decide) ?_
      exact t_L_fails_199 C _ _ _ u56 _ _ _ P (lv_sub hl [0, 1, 2] rfl) h
def w_L_fails (a1 : Int32) (u0 : Mm) (Φ : Int32 → Mm → Prop) : Prop := (w_X9_gate a1 ((1 : Int32)) u0 (fun r2 u1 => (w_X9_gate a1 ((3 : Int32)) u1 (fun r4 u3 => (w_X9_gate a1 ((4 : Int32)) u3 (fun r6 u5 => (w_X9_gate a1 ((5 : Int32)) u5 (fun r8 u7 => (w_X9_count ((6 : Int32)) u7 (fun r10 u9 => (w_X9_count ((3 : Int32)) u9 (fun r12 u11 => (if r2 = (5 : Int32) then (w_X9_fail a1 u11 (fun r64 u63 => (if r64 = (-4 : Int32) then (w_X9_pinch a1 u63 (fun r67 u66 => (if r67 = (-4 : Int32) then (w_X9_repair a1 u66 (fun r70 u69 => (if r70 = (r6 + r8) then (w_X9_gate a1 ((1 : Int32)) u69 (fun r73 u72 => (if r73 = 0 then (w_X9_event ((0 : Int32)) ((3 : Int32)) u72 (fun r76 u75 => (if r76 = (6 : Int32) then (w_X9_event ((0 : Int32)) ((2 : Int32)) u75 (fun r79 u78 => (if r79 = (-5 : Int32) then (Φ (1 : Int32) u78) else (Φ (0 : Int32) u78)))) else (Φ (0 : Int32) u75)))) else (Φ (0 : Int32) u72)))) else (Φ (0 : Int32) u69)))) else (Φ (0 : Int32) u66)))) else (Φ (0 : Int32) u63)))) else (w_X9_repair a1 u11 (fun r15 u14 => (if r15 = (-4 : Int32) then (w_X9_fail a1 u14 (fun r42 u41 => (if r42 = r4 then (w_X9_gate a1 ((1 : Int32)) u41 (fun r45 u44 => (if r45 = (5 : Int32) then (w_X9_gate a1 ((2 : Int32)) u44 (fun r48 u47 => (if r48 = 0 then (w_X9_gate a1 ((4 : Int32)) u47 (fun r51 u50 => (w_X9_gate a1 ((5 : Int32)) u50 (fun r53 u52 => (if (r51 + r53) = (r6 + r8) then (if 0 ≤ r4 then (w_L_fails_181 Φ r4 ((r10 + r12)) ((1 : Int32)) u52) else (w_L_fails_181 Φ r4 ((r10 + r12)) ((0 : Int32)) u52)) else (w_L_fails_212 Φ r4 ((r10 + r12)) u52)))))) else (w_L_fails_212 Φ r4 ((r10 + r12)) u47)))) else (w_L_fails_212 Φ r4 ((r10 + r12)) u44)))) else (w_L_fails_212 Φ r4 ((r10 + r12)) u41)))) else (w_L_fails_212 Φ r4 ((r10 + r12)) u14)))))))))))))))))
set_option maxHeartbeats 4000000 in
set_option maxRecDepth 100000 in
theorem t_L_fails_0 {p : Program} {l : Launch} {e : Env} {s : State} {m : MethodId} {args : Array Value} {below : List Frame} {meth : Method} {c : Code} {D : va_G} {cA : Nat → ClassId} {o : Nat}  {Φ : Int32 → Mm → Prop} (C : Cx p m meth c s args cL_fails 7 wsL_fails RL (some .boolean) D (tysL cA)) : ∀ (a1 : Int32) (u0 : Mm), ∀ (H : Heap) (locs : List Loc) (ls : Array Slot), Hp 747 o D (EC cA o u0) s H locs → lv_has ls 7 [(0, .ref (o + 0)), (1, .int a1)] → w_L_fails a1 u0 Φ → W p l e rm_L_fails s m args below meth c H locs 0 0 (MQ below (Qg vI Φ (fun μ => Wd 747 o D (tysL cA) (EC cA o μ)) (aA o 747)) args s 0 0 (aA o 747)) (F0 m 0 ls []) := by
  intro a1 u0 H locs ls P hl h
  have hx := C.1.1
  have hb := C.1.2.1
  unfold w_L_fails at h
  refine lv_aload_n hx hb dL_fails_0 rfl (lv_at hl 0 rfl) ?_
  refine lv_iload_n hx hb dL_fails_1 rfl (lv_at hl 1 rfl) ?_
  refine lv_iconst (v := 1) hx hb dL_fails_2 (by decide) ?_
  refine r_calli (F := EC cA o) (va_runV (As := [.int a1, .int (1 : Int32)]) (rest := []) C.1 (c_X9_gate l D cA o _ _ u0 _ h) (cwV 2 C.1.2.2.2.2 gL_fails_X9_gate rfl rfl rfl (by decide +kernel) ⟨Nat.le_of_ble_eq_true rfl, Nat.le_of_ble_eq_true rfl⟩) (r_preV C P [.int a1, .int (1 : Int32)] (ci := 9) rfl (kd_lt kd_at_0 (by decide)) (EK_9 kd_at_0)) rfl rfl hl.1 rfl (lv_room (Nat.le_of_ble_eq_true rfl)) dL_fails_3 ⟨Nat.le_of_ble_eq_true rfl, Nat.le_of_ble_eq_true rfl⟩) P.2 (fun r2 u1 H locs h P => ?_)
  refine lv_istore_n (lv' := [(2, .int r2), (0, .ref (o + 0)), (1, .int a1)]) hx hb dL_fails_6 rfl hl (by decide) rfl (fun ls hl => ?_)
  refine lv_aload_n hx hb dL_fails_7 rfl (lv_at hl 1 rfl) ?_
  refine lv_iload_n hx hb dL_fails_8 rfl (lv_at hl 2 rfl) ?_
  refine lv_iconst (v := 3) hx hb dL_fails_9 (by decide) ?_
  refine r_calli (F := EC cA o) (va_runV (As := [.int a1, .int (3 : Int32)]) (rest := []) C.1 (c_X9_gate l D cA o _ _ u1 _ h) (cwV 2 C.1.2.2.2.2 gL_fails_X9_gate rfl rfl rfl (by decide +kernel) ⟨Nat.le_of_ble_eq_true rfl, Nat.le_of_ble_eq_true rfl⟩) (r_preV C P [.int a1, .int (3 : Int32)] (ci := 9) rfl (kd_lt kd_at_0 (by decide)) (EK_9 kd_at_0)) rfl rfl hl.1 rfl (lv_room (Nat.le_of_ble_eq_true rfl)) dL_fails_10 ⟨Nat.le_of_ble_eq_true rfl, Nat.le_of_ble_eq_true rfl⟩) P.2 (fun r4 u3 H locs h P => ?_)
  refine lv_istore_n (lv' := [(3, .int r4), (2, .int r2), (0, .ref (o + 0)), (1, .int a1)]) hx hb dL_fails_13 rfl hl (by decide) rfl (fun ls hl => ?_)
  refine lv_aload_n hx hb dL_fails_14 rfl (lv_at hl 2 rfl) ?_
  refine lv_iload_n hx hb dL_fails_15 rfl (lv_at hl 3 rfl) ?_
  refine lv_iconst (v := 4) hx hb dL_fails_16 (by decide) ?_
  refine r_calli (F := EC cA o) (va_runV (As := [.int a1, .int (4 : Int32)]) (rest := []) C.1 (c_X9_gate l D cA o _ _ u3 _ h) (cwV 2 C.1.2.2.2.2 gL_fails_X9_gate rfl rfl rfl (by decide +kernel) ⟨Nat.le_of_ble_eq_true rfl, Nat.le_of_ble_eq_true rfl⟩) (r_preV C P [.int a1, .int (4 : Int32)] (ci := 9) rfl (kd_lt kd_at_0 (by decide)) (EK_9 kd_at_0)) rfl rfl hl.1 rfl (lv_room (Nat.le_of_ble_eq_true rfl)) dL_fails_17 ⟨Nat.le_of_ble_eq_true rfl, Nat.le_of_ble_eq_true rfl⟩) P.2 (fun r6 u5 H locs h P => ?_)
  refine lv_aload_n hx hb dL_fails_20 rfl (lv_at hl 2 rfl) ?_
  refine lv_iload_n hx hb dL_fails_21 rfl (lv_at hl 3 rfl) ?_
  refine lv_iconst (v := 5) hx hb dL_fails_22 (by decide) ?_
  refine r_calli (F := EC cA o) (va_runV (As := [.int a1, .int (5 : Int32)]) (rest := [.int r6]) C.1 (c_X9_gate l D cA o _ _ u5 _ h) (cwV 2 C.1.2.2.2.2 gL_fails_X9_gate rfl rfl rfl (by decide +kernel) ⟨Nat.le_of_ble_eq_true rfl, Nat.le_of_ble_eq_true rfl⟩) (r_preV C P [.int a1, .int (5 : Int32)] (ci := 9) rfl (kd_lt kd_at_0 (by decide)) (EK_9 kd_at_0)) rfl rfl hl.1 rfl (lv_room (Nat.le_of_ble_eq_true rfl)) dL_fails_23 ⟨Nat.le_of_ble_eq_true rfl, Nat.le_of_ble_eq_true rfl⟩) P.2 (fun r8 u7 H locs h P => ?_)
  refine lv_iadd hx hb dL_fails_26 ?_
  refine lv_istore (lv' := [(4, .int (r6 + r8)), (3, .int r4), (2, .int r2), (0, .ref (o + 0)), (1, .int a1)]) hx hb dL_fails_27 hl (by decide) rfl (fun ls hl => ?_)
  refine lv_aload_n hx hb dL_fails_29 rfl (lv_at hl 3 rfl) ?_
  refine lv_bipush (v := 6) hx hb dL_fails_30 (by decide) ?_
  refine r_calli (F := EC cA o) (va_runV (As := [.int (6 : Int32)]) (rest := []) C.1 (c_X9_count l D cA o _ u7 _ h) (cwV 1 C.1.2.2.2.2 gL_fails_X9_count rfl rfl rfl (by decide +kernel) ⟨Nat.le_of_ble_eq_true rfl, Nat.le_of_ble_eq_true rfl⟩) (r_preV C P [.int (6 : Int32)] (ci := 9) rfl (kd_lt kd_at_0 (by decide)) (EK_9 kd_at_0)) rfl rfl hl.1 rfl (lv_room (Nat.le_of_ble_eq_true rfl)) dL_fails_32 ⟨Nat.le_of_ble_eq_true rfl, Nat.le_of_ble_eq_true rfl⟩) P.2 (fun r10 u9 H locs h P => ?_)
  refine lv_aload_n hx hb dL_fails_35 rfl (lv_at hl 3 rfl) ?_
  refine lv_iconst (v := 3) hx hb dL_fails_36 (by decide) ?_
  refine r_calli (F := EC cA o) (va_runV (As := [.int (3 : Int32)]) (rest := [.int r10]) C.1 (c_X9_count l D cA o _ u9 _ h) (cwV 1 C.1.2.2.2.2 gL_fails_X9_count rfl rfl rfl (by decide +kernel) ⟨Nat.le_of_ble_eq_true rfl, Nat.le_of_ble_eq_true rfl⟩) (r_preV C P [.int (3 : Int32)] (ci := 9) rfl (kd_lt kd_at_0 (by decide)) (EK_9 kd_at_0)) rfl rfl hl.1 rfl (lv_room (Nat.le_of_ble_eq_true rfl)) dL_fails_37 ⟨Nat.le_of_ble_eq_true rfl, Nat.le_of_ble_eq_true rfl⟩) P.2 (fun r12 u11 H locs h P => ?_)
  refine lv_iadd hx hb dL_fails_40 ?_
  refine lv_istore (lv' := [(5, .int (r10 + r12)), (4, .int (r6 + r8)), (3, .int r4), (2, .int r2), (0, .ref (o + 0)), (1, .int a1)]) hx hb dL_fails_41 hl (by decide) rfl (fun ls hl => ?_)
  refine lv_iload_n hx hb dL_fails_43 rfl (lv_at hl 3 rfl) ?_
  refine lv_iconst (v := 5) hx hb dL_fails_44 (by decide) ?_
  refine lv_icmp_ne (tgt := 115) hx hb dL_fails_45 (by decide) (fun c13 => ?_) (fun c13 => ?_)
  · have h := ite_f h c13
    refine lv_aload_n hx hb dL_fails_115 rfl (lv_at hl 4 rfl) ?_
    refine lv_iload_n hx hb dL_fails_116 rfl (lv_at hl 5 rfl) ?_
    refine r_calli (F := EC cA o) (va_runV (As := [.int a1]) (rest := []) C.1 (c_X9_repair l D cA o _ u11 _ h) (cwV 1 C.1.2.2.2.2 gL_fails_X9_repair rfl rfl rfl (by decide +kernel) ⟨Nat.le_of_ble_eq_true rfl, Nat.le_of_ble_eq_true rfl⟩) (r_preV C P [.int a1] (ci := 9) rfl (kd_lt kd_at_0 (by decide)) (EK_9 kd_at_0)) rfl rfl hl.1 rfl (lv_room (Nat.le_of_ble_eq_true rfl)) dL_fails_117 ⟨Nat.le_of_ble_eq_true rfl, Nat.le_of_ble_eq_true rfl⟩) P.2 (fun r15 u14 H locs h P => ?_)
    refine lv_bipush (v := -4) hx hb dL_fails_120 (by decide) ?_
    refine lv_icmp_ne (tgt := 212) hx hb dL_fails_122 (by decide) (fun c16 => ?_) (fun c16 => ?_)
    · have h := ite_f h c16
      exact t_L_fails_212 C _ _ u14 _ _ _ P (lv_sub hl [4, 2, 0] rfl) h
    · have h := ite_t h c16
      refine lv_aload_n hx hb dL_fails_125 rfl (lv_at hl 4 rfl) ?_
      refine lv_iload_n hx hb dL_fails_126 rfl (lv_at hl 5 rfl) ?_
      refine r_calli (F := EC cA o) (va_runV (As := [.int a1]) (rest := []) C.1 (c_X9_fail l D cA o _ u14 _ h) (cwV 1 C.1.2.2.2.2 gL_fails_X9_fail rfl rfl rfl (by decide +kernel) ⟨Nat.le_of_ble_eq_true rfl, Nat.le_of_ble_eq_true rfl⟩) (r_preV C P [.int a1] (ci := 9) rfl (kd_lt kd_at_0 (by decide)) (EK_9 kd_at_0)) rfl rfl hl.1 rfl (lv_room (Nat.le_of_ble_eq_true rfl)) dL_fails_127 ⟨Nat.le_of_ble_eq_true rfl, Nat.le_of_ble_eq_true rfl⟩) P.2 (fun r42 u41 H locs h P => ?_)
      refine lv_iload_n hx hb dL_fails_130 rfl (lv_at hl 2 rfl) ?_
      refine lv_icmp_ne (tgt := 212) hx hb dL_fails_131 (by decide) (fun c43 => ?_) (fun c43 => ?_)
      · have h := ite_f h c43
        exact t_L_fails_212 C _ _ u41 _ _ _ P (lv_sub hl [4, 2, 0] rfl) h
      · have h := ite_t h c43
        refine lv_aload_n hx hb dL_fails_134 rfl (lv_at hl 4 rfl) ?_
        refine lv_iload_n hx hb dL_fails_135 rfl (lv_at hl 5 rfl) ?_
        refine lv_iconst (v := 1) hx hb dL_fails_136 (by decide) ?_
        refine r_calli (F := EC cA o) (va_runV (As := [.int a1, .int (1 : Int32)]) (rest := []) C.1 (c_X9_gate l D cA o _ _ u41 _ h) (cwV 2 C.1.2.2.2.2 gL_fails_X9_gate rfl rfl rfl (by decide +kernel) ⟨Nat.le_of_ble_eq_true rfl, Nat.le_of_ble_eq_true rfl⟩) (r_preV C P [.int a1, .int (1 : Int32)] (ci := 9) rfl (kd_lt kd_at_0 (by decide)) (EK_9 kd_at_0)) rfl rfl hl.1 rfl (lv_room (Nat.le_of_ble_eq_true rfl)) dL_fails_137 ⟨Nat.le_of_ble_eq_true rfl, Nat.le_of_ble_eq_true rfl⟩) P.2 (fun r45 u44 H locs h P => ?_)
        refine lv_iconst (v := 5) hx hb dL_fails_140 (by decide) ?_
        refine lv_icmp_ne (tgt := 212) hx hb dL_fails_141 (by decide) (fun c46 => ?_) (fun c46 => ?_)
        · have h := ite_f h c46
          exact t_L_fails_212 C _ _ u44 _ _ _ P (lv_sub hl [4, 2, 0] rfl) h
        · have h := ite_t h c46
          refine lv_aload_n hx hb dL_fails_144 rfl (lv_at hl 4 rfl) ?_
          refine lv_iload_n hx hb dL_fails_145 rfl (lv_at hl 5 rfl) ?_
          refine lv_iconst (v := 2) hx hb dL_fails_146 (by decide) ?_
          refine r_calli (F := EC cA o) (va_runV (As := [.int a1, .int (2 : Int32)]) (rest := []) C.1 (c_X9_gate l D cA o _ _ u44 _ h) (cwV 2 C.1.2.2.2.2 gL_fails_X9_gate rfl rfl rfl (by decide +kernel) ⟨Nat.le_of_ble_eq_true rfl, Nat.le_of_ble_eq_true rfl⟩) (r_preV C P [.int a1, .int (2 : Int32)] (ci := 9) rfl (kd_lt kd_at_0 (by decide)) (EK_9 kd_at_0)) rfl rfl hl.1 rfl (lv_room (Nat.le_of_ble_eq_true rfl)) dL_fails_147 ⟨Nat.le_of_ble_eq_true rfl, Nat.le_of_ble_eq_true rfl⟩) P.2 (fun r48 u47 H locs h P => ?_)
          refine lv_if_ne (tgt := 212) hx hb dL_fails_150 (by decide) (fun c49 => ?_) (fun c49 => ?_)
          · have h := ite_f h c49
            exact t_L_fails_212 C _ _ u47 _ _ _ P (lv_sub hl [4, 2, 0] rfl) h
          · have h := ite_t h c49
            refine lv_aload_n hx hb dL_fails_153 rfl (lv_at hl 4 rfl) ?_
            refine lv_iload_n hx hb dL_fails_154 rfl (lv_at hl 5 rfl) ?_
            refine lv_iconst (v := 4) hx hb dL_fails_155 (by decide) ?_
            refine r_calli (F := EC cA o) (va_runV (As := [.int a1, .int (4 : Int32)]) (rest := []) C.1 (c_X9_gate l D cA o _ _ u47 _ h) (cwV 2 C.1.2.2.2.2 gL_fails_X9_gate rfl rfl rfl (by decide +kernel) ⟨Nat.le_of_ble_eq_true rfl, Nat.le_of_ble_eq_true rfl⟩) (r_preV C P [.int a1, .int (4 : Int32)] (ci := 9) rfl (kd_lt kd_at_0 (by decide)) (EK_9 kd_at_0)) rfl rfl hl.1 rfl (lv_room (Nat.le_of_ble_eq_true rfl)) dL_fails_156 ⟨Nat.le_of_ble_eq_true rfl, Nat.le_of_ble_eq_true rfl⟩) P.2 (fun r51 u50 H locs h P => ?_)
            refine lv_aload_n hx hb dL_fails_159 rfl (lv_at hl 4 rfl) ?_
            refine lv_iload_n hx hb dL_fails_160 rfl (lv_at hl 5 rfl) ?_
            refine lv_iconst (v := 5) hx hb dL_fails_161 (by decide) ?_
            refine r_calli (F := EC cA o) (va_runV (As := [.int a1, .int (5 : Int32)]) (rest := [.int r51]) C.1 (c_X9_gate l D cA o _ _ u50 _ h) (cwV 2 C.1.2.2.2.2 gL_fails_X9_gate rfl rfl rfl (by decide +kernel) ⟨Nat.le_of_ble_eq_true rfl, Nat.le_of_ble_eq_true rfl⟩) (r_preV C P [.int a1, .int (5 : Int32)] (ci := 9) rfl (kd_lt kd_at_0 (by decide)) (EK_9 kd_at_0)) rfl rfl hl.1 rfl (lv_room (Nat.le_of_ble_eq_true rfl)) dL_fails_162 ⟨Nat.le_of_ble_eq_true rfl, Nat.le_of_ble_eq_true rfl⟩) P.2 (fun r53 u52 H locs h P => ?_)
            refine lv_iadd hx hb dL_fails_165 ?_
            refine lv_iload hx hb dL_fails_166 (lv_at hl 1 rfl) ?_
            refine lv_icmp_ne (tgt := 212) hx hb dL_fails_168 (by decide) (fun c54 => ?_) (fun c54 => ?_)
            · have h := ite_f h c54
              exact t_L_fails_212 C _ _ u52 _ _ _ P (lv_sub hl [4, 2, 0] rfl) h
            · have h := ite_t h c54
              refine lv_aload_n hx hb dL_fails_171 rfl (lv_at hl 4 rfl) ?_
              refine lv_iload_n hx hb dL_fails_172 rfl (lv_at hl 2 rfl) ?_
              refine lv_if_ge (tgt := 180) hx hb dL_fails_173 (by decide) (fun c55 => ?_) (fun c55 => ?_)
              · have h := ite_t h c55
                refine lv_iconst (v := 1) hx hb dL_fails_180 (by decide) ?_
                exact t_L_fails_181 C _ _ _ u52 _ _ _ P (lv_sub hl [4, 2, 0] rfl) h
              · have h := ite_f h c55
                refine lv_iconst (v := 0) hx hb dL_fails_176 (by decide) ?_
                refine lv_goto (tgt := 181) hx hb dL_fails_177 (by decide) ?_
                exact t_L_fails_181 C _ _ _ u52 _ _ _ P (lv_sub hl [4, 2, 0] rfl) h
  · have h := ite_t h c13
    refine lv_aload_n hx hb dL_fails_48 rfl (lv_at hl 4 rfl) ?_
    refine lv_iload_n hx hb dL_fails_49 rfl (lv_at hl 5 rfl) ?_
    refine r_calli (F := EC cA o) (va_runV (As := [.int a1]) (rest := []) C.1 (c_X9_fail l D cA o _ u11 _ h) (cwV 1 C.1.2.2.2.2 gL_fails_X9_fail rfl rfl rfl (by decide +kernel) ⟨Nat.le_of_ble_eq_true rfl, Nat.le_of_ble_eq_true rfl⟩) (r_preV C P [.int a1] (ci := 9) rfl (kd_lt kd_at_0 (by decide)) (EK_9 kd_at_0)) rfl rfl hl.1 rfl (lv_room (Nat.le_of_ble_eq_true rfl)) dL_fails_50 ⟨Nat.le_of_ble_eq_true rfl, Nat.le_of_ble_eq_true rfl⟩) P.2 (fun r64 u63 H locs h P => ?_)
    refine lv_bipush (v := -4) hx hb dL_fails_53 (by decide) ?_
    refine lv_icmp_ne (tgt := 113) hx hb dL_fails_55 (by decide) (fun c65 => ?_) (fun c65 => ?_)
    · have h := ite_f h c65
      refine lv_iconst (v := 0) hx hb dL_fails_113 (by decide) ?_
      exact r_iretb C P (Or.inl rfl) h dL_fails_114
    · have h := ite_t h c65
      refine lv_aload_n hx hb dL_fails_58 rfl (lv_at hl 4 rfl) ?_
      refine lv_iload_n hx hb dL_fails_59 rfl (lv_at hl 5 rfl) ?_
      refine r_calli (F := EC cA o) (va_runV (As := [.int a1]) (rest := []) C.1 (c_X9_pinch l D cA o _ u63 _ h) (cwV 1 C.1.2.2.2.2 gL_fails_X9_pinch rfl rfl rfl (by decide +kernel) ⟨Nat.le_of_ble_eq_true rfl, Nat.le_of_ble_eq_true rfl⟩) (r_preV C P [.int a1] (ci := 9) rfl (kd_lt kd_at_0 (by decide)) (EK_9 kd_at_0)) rfl rfl hl.1 rfl (lv_room (Nat.le_of_ble_eq_true rfl)) dL_fails_60 ⟨Nat.le_of_ble_eq_true rfl, Nat.le_of_ble_eq_true rfl⟩) P.2 (fun r67 u66 H locs h P => ?_)
      refine lv_bipush (v := -4) hx hb dL_fails_63 (by decide) ?_
      refine lv_icmp_ne (tgt := 113) hx hb dL_fails_65 (by decide) (fun c68 => ?_) (fun c68 => ?_)
      · have h := ite_f h c68
        refine lv_iconst (v := 0) hx hb dL_fails_113 (by decide) ?_
        exact r_iretb C P (Or.inl rfl) h dL_fails_114
      · have h := ite_t h c68
        refine lv_aload_n hx hb dL_fails_68 rfl (lv_at hl 4 rfl) ?_
        refine lv_iload_n hx hb dL_fails_69 rfl (lv_at hl 5 rfl) ?_
        refine r_calli (F := EC cA o) (va_runV (As := [.int a1]) (rest := []) C.1 (c_X9_repair l D cA o _ u66 _ h) (cwV 1 C.1.2.2.2.2 gL_fails_X9_repair rfl rfl rfl (by decide +kernel) ⟨Nat.le_of_ble_eq_true rfl, Nat.le_of_ble_eq_true rfl⟩) (r_preV C P [.int a1] (ci := 9) rfl (kd_lt kd_at_0 (by decide)) (EK_9 kd_at_0)) rfl rfl hl.1 rfl (lv_room (Nat.le_of_ble_eq_true rfl)) dL_fails_70 ⟨Nat.le_of_ble_eq_true rfl, Nat.le_of_ble_eq_true rfl⟩) P.2 (fun r70 u69 H locs h P => ?_)
        refine lv_iload hx hb dL_fails_73 (lv_at hl 1 rfl) ?_
        refine lv_icmp_ne (tgt := 113) hx hb dL_fails_75 (by decide) (fun c71 => ?_) (fun c71 => ?_)
        · have h := ite_f h c71
          refine lv_iconst (v := 0) hx hb dL_fails_113 (by decide) ?_
          exact r_iretb C P (Or.inl rfl) h dL_fails_114
        · have h := ite_t h c71
          refine lv_aload_n hx hb dL_fails_78 rfl (lv_at hl 4 rfl) ?_
          refine lv_iload_n hx hb dL_fails_79 rfl (lv_at hl 5 rfl) ?_
          refine lv_iconst (v := 1) hx hb dL_fails_80 (by decide) ?_
          refine r_calli (F := EC cA o) (va_runV (As := [.int a1, .int (1 : Int32)]) (rest := []) C.1 (c_X9_gate l D cA o _ _ u69 _ h) (cwV 2 C.1.2.2.2.2 gL_fails_X9_gate rfl rfl rfl (by decide +kernel) ⟨Nat.le_of_ble_eq_true rfl, Nat.le_of_ble_eq_true rfl⟩) (r_preV C P [.int a1, .int (1 : Int32)] (ci := 9) rfl (kd_lt kd_at_0 (by decide)) (EK_9 kd_at_0)) rfl rfl hl.1 rfl (lv_room (Nat.le_of_ble_eq_true rfl)) dL_fails_81 ⟨Nat.le_of_ble_eq_true rfl, Nat.le_of_ble_eq_true rfl⟩) P.2 (fun r73 u72 H locs h P => ?_)
          refine lv_if_ne (tgt := 113) hx hb dL_fails_84 (by decide) (fun c74 => ?_) (fun c74 => ?_)
          · have h := ite_f h c74
            refine lv_iconst (v := 0) hx hb dL_fails_113 (by decide) ?_
            exact r_iretb C P (Or.inl rfl) h dL_fails_114
          · have h := ite_t h c74
            refine lv_aload_n hx hb dL_fails_87 rfl (lv_at hl 4 rfl) ?_
            refine lv_iconst (v := 0) hx hb dL_fails_88 (by decide) ?_
            refine lv_iconst (v := 3) hx hb dL_fails_89 (by decide) ?_
            refine r_calli (F := EC cA o) (va_runV (As := [.int (0 : Int32), .int (3 : Int32)]) (rest := []) C.1 (c_X9_event l D cA o _ _ u72 _ h) (cwV 2 C.1.2.2.2.2 gL_fails_X9_event rfl rfl rfl (by decide +kernel) ⟨Nat.le_of_ble_eq_true rfl, Nat.le_of_ble_eq_true rfl⟩) (r_preV C P [.int (0 : Int32), .int (3 : Int32)] (ci := 9) rfl (kd_lt kd_at_0 (by decide)) (EK_9 kd_at_0)) rfl rfl hl.1 rfl (lv_room (Nat.le_of_ble_eq_true rfl)) dL_fails_90 ⟨Nat.le_of_ble_eq_true rfl, Nat.le_of_ble_eq_true rfl⟩) P.2 (fun r76 u75 H locs h P => ?_)
            refine lv_bipush (v := 6) hx hb dL_fails_93 (by decide) ?_
            refine lv_icmp_ne (tgt := 113) hx hb dL_fails_95 (by decide) (fun c77 => ?_) (fun c77 => ?_)
            · have h := ite_f h c77
              refine lv_iconst (v := 0) hx hb dL_fails_113 (by decide) ?_
              exact r_iretb C P (Or.inl rfl) h dL_fails_114
            · have h := ite_t h c77
              refine lv_aload_n hx hb dL_fails_98 rfl (lv_at hl 4 rfl) ?_
              refine lv_iconst (v := 0) hx hb dL_fails_99 (by decide) ?_
              refine lv_iconst (v := 2) hx hb dL_fails_100 (by decide) ?_
              refine r_calli (F := EC cA o) (va_runV (As := [.int (0 : Int32), .int (2 : Int32)]) (rest := []) C.1 (c_X9_event l D cA o _ _ u75 _ h) (cwV 2 C.1.2.2.2.2 gL_fails_X9_event rfl rfl rfl (by decide +kernel) ⟨Nat.le_of_ble_eq_true rfl, Nat.le_of_ble_eq_true rfl⟩) (r_preV C P [.int (0 : Int32), .int (2 : Int32)] (ci := 9) rfl (kd_lt kd_at_0 (by decide)) (EK_9 kd_at_0)) rfl rfl hl.1 rfl (lv_room (Nat.le_of_ble_eq_true rfl)) dL_fails_101 ⟨Nat.le_of_ble_eq_true rfl, Nat.le_of_ble_eq_true rfl⟩) P.2 (fun r79 u78 H locs h P => ?_)
              refine lv_bipush (v := -5) hx hb dL_fails_104 (by decide) ?_
              refine lv_icmp_ne (tgt := 113) hx hb dL_fails_106 (by decide) (fun c80 => ?_) (fun c80 => ?_)
              · have h := ite_f h c80
                refine lv_iconst (v := 0) hx hb dL_fails_113 (by decide) ?_
                exact r_iretb C P (Or.inl rfl) h dL_fails_114
              · have h := ite_t h c80
                refine lv_iconst (v := 1) hx hb dL_fails_109 (by decide) ?_
                refine lv_goto (tgt := 114) hx hb dL_fails_110 (by decide) ?_
                exact r_iretb C P (Or.inr rfl) h dL_fails_114
set_option maxHeartbeats 4000000 in
set_option maxRecDepth 100000 in
theorem c_L_fails (l : Launch) (D : va_G) (cA : Nat → ClassId) (o : Nat) (a1 : Int32)  (u0 : Mm) (Φ : Int32 → Mm → Prop) (h : w_L_fails a1 u0 Φ) : Met l yL_fails wsL_fails rm_L_fails (va_Pc [.ref (o + 0), .int a1] (Wd 747 o D (tysL cA) (EC cA o u0))) (Qg vI Φ (fun μ => Wd 747 o D (tysL cA) (EC cA o μ)) (aA o 747)) 0 0 (aA o 747) := by
  refine Met.ofW (cc := cL_fails) (maxL := 7) (ret := (some .boolean)) (by decide) rfl ?_
  intro p e s m args below meth c s₁ B hml hv
  obtain ⟨rfl, hv⟩ := hv
  have hl := lv_entry ([.ref (o + 0), .int a1]) (n := 7) (Nat.le_of_ble_eq_true rfl)
  rw [lg_entry_eq]
  exact t_L_fails_0 ⟨⟨B.exec, B.bytes, hml, findClass_of_methodNamed B.named, atoms_spec (ws := wsL_fails) B.pre⟩, B.returns, B.notSynchronized, hv.2⟩ a1 u0 _ _ _ ⟨hv.1, va_S.rf⟩ hl h
