theorem kd_2_eq {k : Nat} (h : kd k = 2) : k = 213 := (by decide +kernel : ∀ k, k < 747 → kd k = 2 → k = 213) k (kd_lt h (by decide)) h
theorem wd_X8_init_1 : Cond.methodLink RX8 3 objectInit ∈ wsX8_init := List.mem_of_getElem? (i := 1) (by decide +kernel)
theorem wd_X8_init_2 : Cond.instanceMethod objectInit ∈ wsX8_init := List.mem_of_getElem? (i := 2) (by decide +kernel)
theorem wd_X8_init_3 : Cond.code objectInit ⟨#[0xb1]⟩ 1 none ∈ wsX8_init := List.mem_of_getElem? (i := 3) rfl
theorem wd_X8_init_4 : Cond.classLink RX8 9 RX1 ∈ wsX8_init := List.mem_of_getElem? (i := 4) (by decide +kernel)
theorem wd_X8_init_5 : Cond.fieldLink RX8 11 "TurnstileBank$State" "gates" "[LTurnstileBank$Gate;" ∈ wsX8_init := List.mem_of_getElem? (i := 5) (by decide +kernel)
theorem wd_X8_init_6 : Cond.classLink RX8 17 RX5 ∈ wsX8_init := List.mem_of_getElem? (i := 6) (by decide +kernel)
theorem wd_X8_init_7 : Cond.fieldLink RX8 19 "TurnstileBank$State" "people" "[LTurnstileBank$Person;" ∈ wsX8_init := List.mem_of_getElem? (i := 7) (by decide +kernel)
theorem wd_X8_init_8 : Cond.classLink RX8 23 RX6 ∈ wsX8_init := List.mem_of_getElem? (i := 8) (by decide +kernel)
theorem wd_X8_init_9 : Cond.fieldLink RX8 25 "TurnstileBank$State" "pools" "[LTurnstileBank$Pool;" ∈ wsX8_init := List.mem_of_getElem? (i := 9) (by decide +kernel)
theorem wd_X8_init_10 : Cond.classLink RX8 29 RX4 ∈ wsX8_init := List.mem_of_getElem? (i := 10) (by decide +kernel)
theorem wd_X8_init_11 : Cond.fieldLink RX8 31 "TurnstileBank$State" "passes" "[LTurnstileBank$Pass;" ∈ wsX8_init := List.mem_of_getElem? (i := 11) (by decide +kernel)
theorem wd_X8_init_12 : Cond.classLink RX8 35 RX0 ∈ wsX8_init := List.mem_of_getElem? (i := 12) (by decide +kernel)
theorem wd_X8_init_13 : Cond.instantiable RX0 6 ∈ wsX8_init := List.mem_of_getElem? (i := 13) (by decide +kernel)
theorem wd_X8_init_14 : Cond.initialized RX0 ∈ wsX8_init := List.mem_of_getElem? (i := 14) (by decide +kernel)
theorem wd_X8_init_15 : Cond.fieldLink RX8 38 "TurnstileBank$State" "events" "LTurnstileBank$Events;" ∈ wsX8_init := List.mem_of_getElem? (i := 15) (by decide +kernel)
theorem wd_X8_init_16 : Cond.fieldLink RX8 42 "TurnstileBank$State" "fare" "I" ∈ wsX8_init := List.mem_of_getElem? (i := 16) (by decide +kernel)
theorem wd_X8_init_17 : Cond.instantiable RX1 15 ∈ wsX8_init := List.mem_of_getElem? (i := 17) (by decide +kernel)
theorem wd_X8_init_18 : Cond.initialized RX1 ∈ wsX8_init := List.mem_of_getElem? (i := 18) (by decide +kernel)
theorem wd_X8_init_19 : Cond.instantiable RX5 7 ∈ wsX8_init := List.mem_of_getElem? (i := 19) (by decide +kernel)
theorem wd_X8_init_20 : Cond.initialized RX5 ∈ wsX8_init := List.mem_of_getElem? (i := 20) (by decide +kernel)
theorem wd_X8_init_21 : Cond.instantiable RX6 5 ∈ wsX8_init := List.mem_of_getElem? (i := 21) (by decide +kernel)
theorem wd_X8_init_22 : Cond.initialized RX6 ∈ wsX8_init := List.mem_of_getElem? (i := 22) (by decide +kernel)
theorem wd_X8_init_23 : Cond.instantiable RX4 3 ∈ wsX8_init := List.mem_of_getElem? (i := 23) (by decide +kernel)
theorem wd_X8_init_24 : Cond.initialized RX4 ∈ wsX8_init := List.mem_of_getElem? (i := 24) (by decide +kernel)
theorem wd_X8_init_25 : Cond.instanceMethod yX0_init ∈ wsX8_init := List.mem_of_getElem? (i := 25) (by decide +kernel)
theorem wd_X8_init_33 : Cond.instanceMethod yX1_init ∈ wsX8_init := List.mem_of_getElem? (i := 33) (by decide +kernel)
theorem wd_X8_init_46 : Cond.instanceMethod yX5_init ∈ wsX8_init := List.mem_of_getElem? (i := 46) (by decide +kernel)
theorem wd_X8_init_49 : Cond.instanceMethod yX6_init ∈ wsX8_init := List.mem_of_getElem? (i := 49) (by decide +kernel)
theorem wd_X8_init_52 : Cond.instanceMethod yX4_init ∈ wsX8_init := List.mem_of_getElem? (i := 52) (by decide +kernel)
theorem in_X8_init_0 : ∀ w ∈ wsX00, w ∈ wsX8_init := fun w h => List.mem_cons_of_mem _ (List.mem_append_left _ (List.mem_append_left _ (List.mem_append_left _ (List.mem_append_left _ (List.mem_append_left _ (List.mem_append_right _ h))))))
theorem in_X8_init_1 : ∀ w ∈ wsX10, w ∈ wsX8_init := fun w h => List.mem_cons_of_mem _ (List.mem_append_left _ (List.mem_append_left _ (List.mem_append_left _ (List.mem_append_left _ (List.mem_append_right _ h)))))
theorem in_X8_init_4 : ∀ w ∈ wsX40, w ∈ wsX8_init := fun w h => List.mem_cons_of_mem _ (List.mem_append_left _ (List.mem_append_right _ h))
theorem in_X8_init_5 : ∀ w ∈ wsX50, w ∈ wsX8_init := fun w h => List.mem_cons_of_mem _ (List.mem_append_left _ (List.mem_append_left _ (List.mem_append_left _ (List.mem_append_right _ h))))
theorem in_X8_init_6 : ∀ w ∈ wsX60, w ∈ wsX8_init := fun w h => List.mem_cons_of_mem _ (List.mem_append_left _ (List.mem_append_left _ (List.mem_append_right _ h)))
theorem in_X8_init_8 : ∀ w ∈ wsX80, w ∈ wsX8_init := fun w h => List.mem_cons_of_mem _ (List.mem_append_left _ (List.mem_append_left _ (List.mem_append_left _ (List.mem_append_left _ (List.mem_append_left _ (List.mem_append_left _ (List.mem_append_right _ h)))))))
abbrev rm_X8_init : Room := { frames := 3, cells := 105, slots := 1278, locals := 52 }
set_option maxHeartbeats 4000000 in
set_option maxRecDepth 100000 in
theorem lp_X8_init_58 {p : Program} {l : Launch} {e : Env} {s : State} {m : MethodId} {args : Array Value} {below : List Frame} {meth : Method} {c : Code} {D : va_G} {cA : Nat → ClassId} {o k c0 s0 : Nat} {Q : State → Prop} {Eb : Nat → va_E} (C : Cx p m meth c s args cX8_init 2 wsX8_init RX8 none D (tysL cA)) (hAO : AOs s) (hk : kd k = 8) (fo : Eb k = .inr (8, [.ref (o + (k + 1)), .ref (o + (k + 2)), .ref (o + (k + 3)), .ref (o + (k + 4)), .ref (o + (k + 5)), .int 0, .int 0, .int 0, .int 0, .int 0, .int (10 : Int32)])) (hc : c0 + 5 * 8 ≤ 105) (hs : s0 + 99 * 8 ≤ 1278)
    (hkk : ∀ (E : Nat → va_E) (H : Heap) (locs : List Loc) (ls : Array Slot), HpM (k + 10 + 5 * 8) o D E s H locs → (∀ q, q < (k + 10) → q ≠ k + 1 → E q = Eb q) → (∃ f : Nat → Option Nat, E (k + 1) = .inl (cA 2, 8, .inr (.inr (.inr (.inr f)))) ∧ ∀ j, j < 8 → f j = some (o + (k + 10 + 5 * j))) → (∀ q, (k + 10) ≤ q → q < (k + 10 + 5 * 8) → E q = E0 cA o q) → lv_has ls 2 [(1, .int (nI 8)), (0, .ref (o + k))] → W p l e rm_X8_init s m args below meth c H locs (c0 + 5 * 8) (s0 + 99 * 8) Q (F0 m 86 ls [])) :
    ∀ (r i : Nat), i + r = 8 → ∀ (E : Nat → va_E) (H : Heap) (locs : List Loc) (ls : Array Slot), HpM (k + 10 + 5 * i) o D E s H locs → (∀ q, q < (k + 10) → q ≠ k + 1 → E q = Eb q) → (∃ f : Nat → Option Nat, E (k + 1) = .inl (cA 2, 8, .inr (.inr (.inr (.inr f)))) ∧ ∀ j, j < i → f j = some (o + (k + 10 + 5 * j))) → (∀ q, (k + 10) ≤ q → q < (k + 10 + 5 * i) → E q = E0 cA o q) → lv_has ls 2 [(1, .int (nI i)), (0, .ref (o + k))] → W p l e rm_X8_init s m args below meth c H locs (c0 + 5 * i) (s0 + 99 * i) Q (F0 m 58 ls []) := by
  intro r
  induction r with
  | zero =>
    intro i hi E H locs ls P hlo hf hhi hl
    have hx := C.1.1
    have hb := C.1.2.1
    obtain ⟨f, fA, hfj⟩ := hf
    have fk : E k = .inr (8, [.ref (o + (k + 1)), .ref (o + (k + 2)), .ref (o + (k + 3)), .ref (o + (k + 4)), .ref (o + (k + 5)), .int 0, .int 0, .int 0, .int 0, .int 0, .int (10 : Int32)]) := (hlo k (by omega) (by omega)).trans fo
    refine lv_iload_n hx hb dX8_init_58 rfl (lv_at hl 0 rfl) ?_
    refine lv_aload_n hx hb dX8_init_59 rfl (lv_at hl 1 rfl) ?_
    refine m_get C P (X := RX8) (T := TX8) (nn := 11) (ci := 8) (j := 0) (k := k) in_X8_init_8 rfl wd_X8_init_5 rfl (by omega) fk (by decide) rfl dX8_init_60 ?_
    refine va_alen hx hb C.2.2.2.1 P.1 (k + 1) 2 (wl_at (by omega) fA) rfl (v := 8) rfl dX8_init_63 ?_
    refine lv_icmp_ge (tgt := 86) hx hb dX8_init_64 (by decide) (fun c1 => ?_) (fun c1 => ?_)
    · have hiN : i = 8 := by omega
      subst hiN
      exact hkk E H locs ls P hlo ⟨f, fA, hfj⟩ hhi hl
    · exact absurd (nI_le (a := 8) (b := i) (by omega) (by omega)) c1
  | succ r ih =>
    intro i hi E H locs ls P hlo hf hhi hl
    have hx := C.1.1
    have hb := C.1.2.1
    obtain ⟨f, fA, hfj⟩ := hf
    have fk : E k = .inr (8, [.ref (o + (k + 1)), .ref (o + (k + 2)), .ref (o + (k + 3)), .ref (o + (k + 4)), .ref (o + (k + 5)), .int 0, .int 0, .int 0, .int 0, .int 0, .int (10 : Int32)]) := (hlo k (by omega) (by omega)).trans fo
    refine lv_iload_n hx hb dX8_init_58 rfl (lv_at hl 0 rfl) ?_
    refine lv_aload_n hx hb dX8_init_59 rfl (lv_at hl 1 rfl) ?_
    refine m_get C P (X := RX8) (T := TX8) (nn := 11) (ci := 8) (j := 0) (k := k) in_X8_init_8 rfl wd_X8_init_5 rfl (by omega) fk (by decide) rfl dX8_init_60 ?_
    refine va_alen hx hb C.2.2.2.1 P.1 (k + 1) 2 (wl_at (by omega) fA) rfl (v := 8) rfl dX8_init_63 ?_
    refine lv_icmp_ge (tgt := 86) hx hb dX8_init_64 (by decide) (fun c1 => ?_) (fun c1 => ?_)
    · exact absurd c1 (nI_ge (a := i) (b := 8) (by omega) (by omega))
    · have hvi : vp_in (nI i) 8 := vp_in_nI (by omega) (by omega)
      have hkn : kd (k + 10 + 5 * i) = 1 := (by decide +kernel : ∀ k, k < 747 → kd k = 8 → ∀ i, i < 8 → kd (k + 10 + 5 * i) = 1) k (kd_lt hk (by decide)) hk i (by omega)
      refine lv_aload_n hx hb dX8_init_67 rfl (lv_at hl 1 rfl) ?_
      refine m_get C P (X := RX8) (T := TX8) (nn := 11) (ci := 8) (j := 0) (k := k) in_X8_init_8 rfl wd_X8_init_5 rfl (by omega) fk (by decide) rfl dX8_init_68 ?_
      refine lv_iload_n hx hb dX8_init_71 rfl (lv_at hl 0 rfl) ?_
      refine m_new C P (X := RX1) (T := TX1) (nn := 15) (ci := 1) in_X8_init_1 tyX1 tyX1_ok wd_X8_init_4 wd_X8_init_17 wd_X8_init_18 rfl (fs := [.null, .null, .int 0, .int 0, .int 0, .int 0, .int 0, .int 0, .int 0, .int 0, .int 0, .int 0, .int 0, .int 0, .int 0]) dv_1 (by show _ ≤ 105; omega) (by show _ ≤ 1278; omega) dX8_init_72 (fun H P => ?_)
      refine lv_dup hx hb dX8_init_75 rfl ?_
      refine m_call (va_runIN (As := []) (rest := [.ref (o + (k + 10 + 5 * i)), .int (nI i), .ref (o + (k + 1))]) C.1 (c_X1_init l D cA o (k + 10 + 5 * i) _ hkn upE_s) ⟨va_cnB 0 C.1.2.2.2.2 gX8_init_X1_init_n46 rfl rfl rfl (C.2.2.2.2 2 _ rfl) (C.1.2.2.2.2 _ wd_X8_init_18) (by decide +kernel) ⟨Nat.le_of_ble_eq_true rfl, Nat.le_of_ble_eq_true rfl⟩, rfl, C.1.2.2.2.2 _ wd_X8_init_33⟩ (m_pre C hAO P [.ref (o + (k + 10 + 5 * i))]) rfl rfl hl.1 rfl (lv_room (Nat.le_of_ble_eq_true rfl)) dX8_init_76 ⟨by show _ ≤ 105; omega, by show _ ≤ 1278; omega⟩) P (fun H locs P => ?_)
      refine m_aast C P 2 (k := k + 1) (k2 := (k + 10 + 5 * i)) (ci := 1) (f := f) (r := (RX1, TX1, 15)) (by omega) ((gl_lo (by omega)).trans ((upE_n (by omega)).trans fA)) rfl (by omega) ((gl_hi (by omega)).trans (EK_1 hkn)) rfl hvi dX8_init_79 (fun H locs P => ?_)
      refine lv_iinc (v := nI (i + 1)) (lv' := [(1, .int (nI (i + 1))), (0, .ref (o + k))]) hx hb dX8_init_80 hl (k := 0) rfl (nI_succ i).symm (by decide) rfl (fun ls hl => ?_)
      refine lv_goto (tgt := 58) hx hb dX8_init_83 (by decide) ?_
      have e1 : c0 + 5 * i + 1 + 4 = c0 + 5 * (i + 1) := by omega
      have e2 : s0 + 99 * i + 15 + 84 = s0 + 99 * (i + 1) := by omega
      rw [e1, e2]
      have en : (k + 10 + 5 * i) + 5 = (k + 10 + 5 * (i + 1)) := by omega
      rw [en] at P
      refine ih (i + 1) (by omega) _ H locs ls P (fun q h1 h2 => (upE_n h2).trans ((gl_lo (by omega)).trans ((upE_n (by omega)).trans (hlo q h1 h2)))) ⟨_, upE_s, fun j hj => ?_⟩ (fun q h1 h2 => (upE_n (by omega)).trans ?_) hl
      · by_cases hji : j = i
        · subst hji; simp [va_up, nI_clamp (show j < 2 ^ 31 by omega)]
        · simp only [va_up, nI_clamp (show i < 2 ^ 31 by omega), if_neg hji]; exact hfj j (by omega)
      · by_cases hq : q < (k + 10 + 5 * i)
        · exact (gl_lo hq).trans ((upE_n (by omega)).trans (hhi q h1 hq))
        · exact gl_hi (by omega)
set_option maxHeartbeats 4000000 in
set_option maxRecDepth 100000 in
theorem lp_X8_init_88 {p : Program} {l : Launch} {e : Env} {s : State} {m : MethodId} {args : Array Value} {below : List Frame} {meth : Method} {c : Code} {D : va_G} {cA : Nat → ClassId} {o k c0 s0 : Nat} {Q : State → Prop} {Eb : Nat → va_E} (C : Cx p m meth c s args cX8_init 2 wsX8_init RX8 none D (tysL cA)) (hAO : AOs s) (hk : kd k = 8) (fo : Eb k = .inr (8, [.ref (o + (k + 1)), .ref (o + (k + 2)), .ref (o + (k + 3)), .ref (o + (k + 4)), .ref (o + (k + 5)), .int 0, .int 0, .int 0, .int 0, .int 0, .int (10 : Int32)])) (hc : c0 + 1 * 40 ≤ 105) (hs : s0 + 7 * 40 ≤ 1278)
    (hkk : ∀ (E : Nat → va_E) (H : Heap) (locs : List Loc) (ls : Array Slot), HpM (k + 50 + 40) o D E s H locs → (∀ q, q < (k + 50) → q ≠ k + 2 → E q = Eb q) → (∃ f : Nat → Option Nat, E (k + 2) = .inl (cA 3, 40, .inr (.inr (.inr (.inr f)))) ∧ ∀ j, j < 40 → f j = some (o + (k + 50 + j))) → (∀ q, (k + 50) ≤ q → q < (k + 50 + 40) → E q = E0 cA o q) → lv_has ls 2 [(1, .int (nI 40)), (0, .ref (o + k))] → W p l e rm_X8_init s m args below meth c H locs (c0 + 1 * 40) (s0 + 7 * 40) Q (F0 m 116 ls [])) :
    ∀ (r i : Nat), i + r = 40 → ∀ (E : Nat → va_E) (H : Heap) (locs : List Loc) (ls : Array Slot), HpM (k + 50 + i) o D E s H locs → (∀ q, q < (k + 50) → q ≠ k + 2 → E q = Eb q) → (∃ f : Nat → Option Nat, E (k + 2) = .inl (cA 3, 40, .inr (.inr (.inr (.inr f)))) ∧ ∀ j, j < i → f j = some (o + (k + 50 + j))) → (∀ q, (k + 50) ≤ q → q < (k + 50 + i) → E q = E0 cA o q) → lv_has ls 2 [(1, .int (nI i)), (0, .ref (o + k))] → W p l e rm_X8_init s m args below meth c H locs (c0 + 1 * i) (s0 + 7 * i) Q (F0 m 88 ls []) := by
  intro r
  induction r with
  | zero =>
    intro i hi E H locs ls P hlo hf hhi hl
    have hx := C.1.1
    have hb := C.1.2.1
    obtain ⟨f, fA, hfj⟩ := hf
    have fk : E k = .inr (8, [.ref (o + (k + 1)), .ref (o + (k + 2)), .ref (o + (k + 3)), .ref (o + (k + 4)), .ref (o + (k + 5)), .int 0, .int 0, .int 0, .int 0, .int 0, .int (10 : Int32)]) := (hlo k (by omega) (by omega)).trans fo
    refine lv_iload_n hx hb dX8_init_88 rfl (lv_at hl 0 rfl) ?_
    refine lv_aload_n hx hb dX8_init_89 rfl (lv_at hl 1 rfl) ?_
    refine m_get C P (X := RX8) (T := TX8) (nn := 11) (ci := 8) (j := 1) (k := k) in_X8_init_8 rfl wd_X8_init_7 rfl (by omega) fk (by decide) rfl dX8_init_90 ?_
    refine va_alen hx hb C.2.2.2.1 P.1 (k + 2) 3 (wl_at (by omega) fA) rfl (v := 40) rfl dX8_init_93 ?_
    refine lv_icmp_ge (tgt := 116) hx hb dX8_init_94 (by decide) (fun c1 => ?_) (fun c1 => ?_)
    · have hiN : i = 40 := by omega
      subst hiN
      exact hkk E H locs ls P hlo ⟨f, fA, hfj⟩ hhi hl
    · exact absurd (nI_le (a := 40) (b := i) (by omega) (by omega)) c1
  | succ r ih =>
    intro i hi E H locs ls P hlo hf hhi hl
    have hx := C.1.1
    have hb := C.1.2.1
    obtain ⟨f, fA, hfj⟩ := hf
    have fk : E k = .inr (8, [.ref (o + (k + 1)), .ref (o + (k + 2)), .ref (o + (k + 3)), .ref (o + (k + 4)), .ref (o + (k + 5)), .int 0, .int 0, .int 0, .int 0, .int 0, .int (10 : Int32)]) := (hlo k (by omega) (by omega)).trans fo
    refine lv_iload_n hx hb dX8_init_88 rfl (lv_at hl 0 rfl) ?_
    refine lv_aload_n hx hb dX8_init_89 rfl (lv_at hl 1 rfl) ?_
    refine m_get C P (X := RX8) (T := TX8) (nn := 11) (ci := 8) (j := 1) (k := k) in_X8_init_8 rfl wd_X8_init_7 rfl (by omega) fk (by decide) rfl dX8_init_90 ?_
    refine va_alen hx hb C.2.2.2.1 P.1 (k + 2) 3 (wl_at (by omega) fA) rfl (v := 40) rfl dX8_init_93 ?_
    refine lv_icmp_ge (tgt := 116) hx hb dX8_init_94 (by decide) (fun c1 => ?_) (fun c1 => ?_)
    · exact absurd c1 (nI_ge (a := i) (b := 40) (by omega) (by omega))
    · have hvi : vp_in (nI i) 40 := vp_in_nI (by omega) (by omega)
      have hkn : kd (k + 50 + i) = 5 := (by decide +kernel : ∀ k, k < 747 → kd k = 8 → ∀ i, i < 40 → kd (k + 50 + i) = 5) k (kd_lt hk (by decide)) hk i (by omega)
      refine lv_aload_n hx hb dX8_init_97 rfl (lv_at hl 1 rfl) ?_
      refine m_get C P (X := RX8) (T := TX8) (nn := 11) (ci := 8) (j := 1) (k := k) in_X8_init_8 rfl wd_X8_init_7 rfl (by omega) fk (by decide) rfl dX8_init_98 ?_
      refine lv_iload_n hx hb dX8_init_101 rfl (lv_at hl 0 rfl) ?_
      refine m_new C P (X := RX5) (T := TX5) (nn := 7) (ci := 5) in_X8_init_5 tyX5 tyX5_ok wd_X8_init_6 wd_X8_init_19 wd_X8_init_20 rfl (fs := [.int 0, .int 0, .int 0, .int 0, .int 0, .int 0, .int 0]) dv_5 (by show _ ≤ 105; omega) (by show _ ≤ 1278; omega) dX8_init_102 (fun H P => ?_)
      refine lv_dup hx hb dX8_init_105 rfl ?_
      refine m_call (va_runIN (As := []) (rest := [.ref (o + (k + 50 + i)), .int (nI i), .ref (o + (k + 2))]) C.1 (c_X5_init l D cA o (k + 50 + i) _ hkn upE_s) ⟨va_cnB 0 C.1.2.2.2.2 gX8_init_X5_init_n47 rfl rfl rfl (C.2.2.2.2 4 _ rfl) (C.1.2.2.2.2 _ wd_X8_init_20) (by decide +kernel) ⟨Nat.le_of_ble_eq_true rfl, Nat.le_of_ble_eq_true rfl⟩, rfl, C.1.2.2.2.2 _ wd_X8_init_46⟩ (m_pre C hAO P [.ref (o + (k + 50 + i))]) rfl rfl hl.1 rfl (lv_room (Nat.le_of_ble_eq_true rfl)) dX8_init_106 ⟨by show _ ≤ 105; omega, by show _ ≤ 1278; omega⟩) P (fun H locs P => ?_)
      refine m_aast C P 3 (k := k + 2) (k2 := (k + 50 + i)) (ci := 5) (f := f) (r := (RX5, TX5, 7)) (by omega) ((gl_lo (by omega)).trans ((upE_n (by omega)).trans fA)) rfl (by omega) ((gl_hi (by omega)).trans (EK_5 hkn)) rfl hvi dX8_init_109 (fun H locs P => ?_)
      refine lv_iinc (v := nI (i + 1)) (lv' := [(1, .int (nI (i + 1))), (0, .ref (o + k))]) hx hb dX8_init_110 hl (k := 0) rfl (nI_succ i).symm (by decide) rfl (fun ls hl => ?_)
      refine lv_goto (tgt := 88) hx hb dX8_init_113 (by decide) ?_
      have e1 : c0 + 1 * i + 1 + 0 = c0 + 1 * (i + 1) := by omega
      have e2 : s0 + 7 * i + 7 + 0 = s0 + 7 * (i + 1) := by omega
      rw [e1, e2]
      have en : (k + 50 + i) + 1 = (k + 50 + (i + 1)) := by omega
      rw [en] at P
      refine ih (i + 1) (by omega) _ H locs ls P (fun q h1 h2 => (upE_n h2).trans ((gl_lo (by omega)).trans ((upE_n (by omega)).trans (hlo q h1 h2)))) ⟨_, upE_s, fun j hj => ?_⟩ (fun q h1 h2 => (upE_n (by omega)).trans ?_) hl
      · by_cases hji : j = i
        · subst hji; simp [va_up, nI_clamp (show j < 2 ^ 31 by omega)]
        · simp only [va_up, nI_clamp (show i < 2 ^ 31 by omega), if_neg hji]; exact hfj j (by omega)
      · by_cases hq : q < (k + 50 + i)
        · exact (gl_lo hq).trans ((upE_n (by omega)).trans (hhi q h1 hq))
        · exact gl_hi (by omega)
set_option maxHeartbeats 4000000 in
set_option maxRecDepth 100000 in
theorem lp_X8_init_118 {p : Program} {l : Launch} {e : Env} {s : State} {m : MethodId} {args : Array Value} {below : List Frame} {meth : Method} {c : Code} {D : va_G} {cA : Nat → ClassId} {o k c0 s0 : Nat} {Q : State → Prop} {Eb : Nat → va_E} (C : Cx p m meth c s args cX8_init 2 wsX8_init RX8 none D (tysL cA)) (hAO : AOs s) (hk : kd k = 8) (fo : Eb k = .inr (8, [.ref (o + (k + 1)), .ref (o + (k + 2)), .ref (o + (k + 3)), .ref (o + (k + 4)), .ref (o + (k + 5)), .int 0, .int 0, .int 0, .int 0, .int 0, .int (10 : Int32)])) (hc : c0 + 1 * 4 ≤ 105) (hs : s0 + 5 * 4 ≤ 1278)
    (hkk : ∀ (E : Nat → va_E) (H : Heap) (locs : List Loc) (ls : Array Slot), HpM (k + 90 + 4) o D E s H locs → (∀ q, q < (k + 90) → q ≠ k + 3 → E q = Eb q) → (∃ f : Nat → Option Nat, E (k + 3) = .inl (cA 4, 4, .inr (.inr (.inr (.inr f)))) ∧ ∀ j, j < 4 → f j = some (o + (k + 90 + j))) → (∀ q, (k + 90) ≤ q → q < (k + 90 + 4) → E q = E0 cA o q) → lv_has ls 2 [(1, .int (nI 4)), (0, .ref (o + k))] → W p l e rm_X8_init s m args below meth c H locs (c0 + 1 * 4) (s0 + 5 * 4) Q (F0 m 146 ls [])) :
    ∀ (r i : Nat), i + r = 4 → ∀ (E : Nat → va_E) (H : Heap) (locs : List Loc) (ls : Array Slot), HpM (k + 90 + i) o D E s H locs → (∀ q, q < (k + 90) → q ≠ k + 3 → E q = Eb q) → (∃ f : Nat → Option Nat, E (k + 3) = .inl (cA 4, 4, .inr (.inr (.inr (.inr f)))) ∧ ∀ j, j < i → f j = some (o + (k + 90 + j))) → (∀ q, (k + 90) ≤ q → q < (k + 90 + i) → E q = E0 cA o q) → lv_has ls 2 [(1, .int (nI i)), (0, .ref (o + k))] → W p l e rm_X8_init s m args below meth c H locs (c0 + 1 * i) (s0 + 5 * i) Q (F0 m 118 ls []) := by
  intro r
  induction r with
  | zero =>
    intro i hi E H locs ls P hlo hf hhi hl
    have hx := C.1.1
    have hb := C.1.2.1
    obtain ⟨f, fA, hfj⟩ := hf
    have fk : E k = .inr (8, [.ref (o + (k + 1)), .ref (o + (k + 2)), .ref (o + (k + 3)), .ref (o + (k + 4)), .ref (o + (k + 5)), .int 0, .int 0, .int 0, .int 0, .int 0, .int (10 : Int32)]) := (hlo k (by omega) (by omega)).trans fo
    refine lv_iload_n hx hb dX8_init_118 rfl (lv_at hl 0 rfl) ?_
    refine lv_aload_n hx hb dX8_init_119 rfl (lv_at hl 1 rfl) ?_
    refine m_get C P (X := RX8) (T := TX8) (nn := 11) (ci := 8) (j := 2) (k := k) in_X8_init_8 rfl wd_X8_init_9 rfl (by omega) fk (by decide) rfl dX8_init_120 ?_
    refine va_alen hx hb C.2.2.2.1 P.1 (k + 3) 4 (wl_at (by omega) fA) rfl (v := 4) rfl dX8_init_123 ?_
    refine lv_icmp_ge (tgt := 146) hx hb dX8_init_124 (by decide) (fun c1 => ?_) (fun c1 => ?_)
    · have hiN : i = 4 := by omega
      subst hiN
      exact hkk E H locs ls P hlo ⟨f, fA, hfj⟩ hhi hl
    · exact absurd (nI_le (a := 4) (b := i) (by omega) (by omega)) c1
  | succ r ih =>
    intro i hi E H locs ls P hlo hf hhi hl
    have hx := C.1.1
    have hb := C.1.2.1
    obtain ⟨f, fA, hfj⟩ := hf
    have fk : E k = .inr (8, [.ref (o + (k + 1)), .ref (o + (k + 2)), .ref (o + (k + 3)), .ref (o + (k + 4)), .ref (o + (k + 5)), .int 0, .int 0, .int 0, .int 0, .int 0, .int (10 : Int32)]) := (hlo k (by omega) (by omega)).trans fo
    refine lv_iload_n hx hb dX8_init_118 rfl (lv_at hl 0 rfl) ?_
    refine lv_aload_n hx hb dX8_init_119 rfl (lv_at hl 1 rfl) ?_
    refine m_get C P (X := RX8) (T := TX8) (nn := 11) (ci := 8) (j := 2) (k := k) in_X8_init_8 rfl wd_X8_init_9 rfl (by omega) fk (by decide) rfl dX8_init_120 ?_
    refine va_alen hx hb C.2.2.2.1 P.1 (k + 3) 4 (wl_at (by omega) fA) rfl (v := 4) rfl dX8_init_123 ?_
    refine lv_icmp_ge (tgt := 146) hx hb dX8_init_124 (by decide) (fun c1 => ?_) (fun c1 => ?_)
    · exact absurd c1 (nI_ge (a := i) (b := 4) (by omega) (by omega))
    · have hvi : vp_in (nI i) 4 := vp_in_nI (by omega) (by omega)
      have hkn : kd (k + 90 + i) = 6 := (by decide +kernel : ∀ k, k < 747 → kd k = 8 → ∀ i, i < 4 → kd (k + 90 + i) = 6) k (kd_lt hk (by decide)) hk i (by omega)
      refine lv_aload_n hx hb dX8_init_127 rfl (lv_at hl 1 rfl) ?_
      refine m_get C P (X := RX8) (T := TX8) (nn := 11) (ci := 8) (j := 2) (k := k) in_X8_init_8 rfl wd_X8_init_9 rfl (by omega) fk (by decide) rfl dX8_init_128 ?_
      refine lv_iload_n hx hb dX8_init_131 rfl (lv_at hl 0 rfl) ?_
      refine m_new C P (X := RX6) (T := TX6) (nn := 5) (ci := 6) in_X8_init_6 tyX6 tyX6_ok wd_X8_init_8 wd_X8_init_21 wd_X8_init_22 rfl (fs := [.int 0, .int 0, .int 0, .int 0, .int 0]) dv_6 (by show _ ≤ 105; omega) (by show _ ≤ 1278; omega) dX8_init_132 (fun H P => ?_)
      refine lv_dup hx hb dX8_init_135 rfl ?_
      refine m_call (va_runIN (As := []) (rest := [.ref (o + (k + 90 + i)), .int (nI i), .ref (o + (k + 3))]) C.1 (c_X6_init l D cA o (k + 90 + i) _ hkn upE_s) ⟨va_cnB 0 C.1.2.2.2.2 gX8_init_X6_init_n48 rfl rfl rfl (C.2.2.2.2 5 _ rfl) (C.1.2.2.2.2 _ wd_X8_init_22) (by decide +kernel) ⟨Nat.le_of_ble_eq_true rfl, Nat.le_of_ble_eq_true rfl⟩, rfl, C.1.2.2.2.2 _ wd_X8_init_49⟩ (m_pre C hAO P [.ref (o + (k + 90 + i))]) rfl rfl hl.1 rfl (lv_room (Nat.le_of_ble_eq_true rfl)) dX8_init_136 ⟨by show _ ≤ 105; omega, by show _ ≤ 1278; omega⟩) P (fun H locs P => ?_)
      refine m_aast C P 4 (k := k + 3) (k2 := (k + 90 + i)) (ci := 6) (f := f) (r := (RX6, TX6, 5)) (by omega) ((gl_lo (by omega)).trans ((upE_n (by omega)).trans fA)) rfl (by omega) ((gl_hi (by omega)).trans (EK_6 hkn)) rfl hvi dX8_init_139 (fun H locs P => ?_)
      refine lv_iinc (v := nI (i + 1)) (lv' := [(1, .int (nI (i + 1))), (0, .ref (o + k))]) hx hb dX8_init_140 hl (k := 0) rfl (nI_succ i).symm (by decide) rfl (fun ls hl => ?_)
      refine lv_goto (tgt := 118) hx hb dX8_init_143 (by decide) ?_
      have e1 : c0 + 1 * i + 1 + 0 = c0 + 1 * (i + 1) := by omega
      have e2 : s0 + 5 * i + 5 + 0 = s0 + 5 * (i + 1) := by omega
      rw [e1, e2]
      have en : (k + 90 + i) + 1 = (k + 90 + (i + 1)) := by omega
      rw [en] at P
      refine ih (i + 1) (by omega) _ H locs ls P (fun q h1 h2 => (upE_n h2).trans ((gl_lo (by omega)).trans ((upE_n (by omega)).trans (hlo q h1 h2)))) ⟨_, upE_s, fun j hj => ?_⟩ (fun q h1 h2 => (upE_n (by omega)).trans ?_) hl
      · by_cases hji : j = i
        · subst hji; simp [va_up, nI_clamp (show j < 2 ^ 31 by omega)]
        · simp only [va_up, nI_clamp (show i < 2 ^ 31 by omega), if_neg hji]; exact hfj j (by omega)
      · by_cases hq : q < (k + 90 + i)
        · exact (gl_lo hq).trans ((upE_n (by omega)).trans (hhi q h1 hq))
        · exact gl_hi (by omega)
set_option maxHeartbeats 4000000 in
set_option maxRecDepth 100000 in
theorem lp_X8_init_148 {p : Program} {l : Launch} {e : Env} {s : State} {m : MethodId} {args : Array Value} {below : List Frame} {meth : Method} {c : Code} {D : va_G} {cA : Nat → ClassId} {o k c0 s0 : Nat} {Q : State → Prop} {Eb : Nat → va_E} (C : Cx p m meth c s args cX8_init 2 wsX8_init RX8 none D (tysL cA)) (hAO : AOs s) (hk : kd k = 8) (fo : Eb k = .inr (8, [.ref (o + (k + 1)), .ref (o + (k + 2)), .ref (o + (k + 3)), .ref (o + (k + 4)), .ref (o + (k + 5)), .int 0, .int 0, .int 0, .int 0, .int 0, .int (10 : Int32)])) (hc : c0 + 1 * 12 ≤ 105) (hs : s0 + 3 * 12 ≤ 1278)
    (hkk : ∀ (E : Nat → va_E) (H : Heap) (locs : List Loc) (ls : Array Slot), HpM (k + 94 + 12) o D E s H locs → (∀ q, q < (k + 94) → q ≠ k + 4 → E q = Eb q) → (∃ f : Nat → Option Nat, E (k + 4) = .inl (cA 5, 12, .inr (.inr (.inr (.inr f)))) ∧ ∀ j, j < 12 → f j = some (o + (k + 94 + j))) → (∀ q, (k + 94) ≤ q → q < (k + 94 + 12) → E q = E0 cA o q) → lv_has ls 2 [(1, .int (nI 12)), (0, .ref (o + k))] → W p l e rm_X8_init s m args below meth c H locs (c0 + 1 * 12) (s0 + 3 * 12) Q (F0 m 176 ls [])) :
    ∀ (r i : Nat), i + r = 12 → ∀ (E : Nat → va_E) (H : Heap) (locs : List Loc) (ls : Array Slot), HpM (k + 94 + i) o D E s H locs → (∀ q, q < (k + 94) → q ≠ k + 4 → E q = Eb q) → (∃ f : Nat → Option Nat, E (k + 4) = .inl (cA 5, 12, .inr (.inr (.inr (.inr f)))) ∧ ∀ j, j < i → f j = some (o + (k + 94 + j))) → (∀ q, (k + 94) ≤ q → q < (k + 94 + i) → E q = E0 cA o q) → lv_has ls 2 [(1, .int (nI i)), (0, .ref (o + k))] → W p l e rm_X8_init s m args below meth c H locs (c0 + 1 * i) (s0 + 3 * i) Q (F0 m 148 ls []) := by
  intro r
  induction r with
  | zero =>
    intro i hi E H locs ls P hlo hf hhi hl
    have hx := C.1.1
    have hb := C.1.2.1
    obtain ⟨f, fA, hfj⟩ := hf
    have fk : E k = .inr (8, [.ref (o + (k + 1)), .ref (o + (k + 2)), .ref (o + (k + 3)), .ref (o + (k + 4)), .ref (o + (k + 5)), .int 0, .int 0, .int 0, .int 0, .int 0, .int (10 : Int32)]) := (hlo k (by omega) (by omega)).trans fo
    refine lv_iload_n hx hb dX8_init_148 rfl (lv_at hl 0 rfl) ?_
    refine lv_aload_n hx hb dX8_init_149 rfl (lv_at hl 1 rfl) ?_
    refine m_get C P (X := RX8) (T := TX8) (nn := 11) (ci := 8) (j := 3) (k := k) in_X8_init_8 rfl wd_X8_init_11 rfl (by omega) fk (by decide) rfl dX8_init_150 ?_
    refine va_alen hx hb C.2.2.2.1 P.1 (k + 4) 5 (wl_at (by omega) fA) rfl (v := 12) rfl dX8_init_153 ?_
    refine lv_icmp_ge (tgt := 176) hx hb dX8_init_154 (by decide) (fun c1 => ?_) (fun c1 => ?_)
    · have hiN : i = 12 := by omega
      subst hiN
      exact hkk E H locs ls P hlo ⟨f, fA, hfj⟩ hhi hl
    · exact absurd (nI_le (a := 12) (b := i) (by omega) (by omega)) c1
  | succ r ih =>
    intro i hi E H locs ls P hlo hf hhi hl
    have hx := C.1.1
    have hb := C.1.2.1
    obtain ⟨f, fA, hfj⟩ := hf
    have fk : E k = .inr (8, [.ref (o + (k + 1)), .ref (o + (k + 2)), .ref (o + (k + 3)), .ref (o + (k + 4)), .ref (o + (k + 5)), .int 0, .int 0, .int 0, .int 0, .int 0, .int (10 : Int32)]) := (hlo k (by omega) (by omega)).trans fo
    refine lv_iload_n hx hb dX8_init_148 rfl (lv_at hl 0 rfl) ?_
    refine lv_aload_n hx hb dX8_init_149 rfl (lv_at hl 1 rfl) ?_
    refine m_get C P (X := RX8) (T := TX8) (nn := 11) (ci := 8) (j := 3) (k := k) in_X8_init_8 rfl wd_X8_init_11 rfl (by omega) fk (by decide) rfl dX8_init_150 ?_
    refine va_alen hx hb C.2.2.2.1 P.1 (k + 4) 5 (wl_at (by omega) fA) rfl (v := 12) rfl dX8_init_153 ?_
    refine lv_icmp_ge (tgt := 176) hx hb dX8_init_154 (by decide) (fun c1 => ?_) (fun c1 => ?_)
    · exact absurd c1 (nI_ge (a := i) (b := 12) (by omega) (by omega))
    · have hvi : vp_in (nI i) 12 := vp_in_nI (by omega) (by omega)
      have hkn : kd (k + 94 + i) = 4 := (by decide +kernel : ∀ k, k < 747 → kd k = 8 → ∀ i, i < 12 → kd (k + 94 + i) = 4) k (kd_lt hk (by decide)) hk i (by omega)
      refine lv_aload_n hx hb dX8_init_157 rfl (lv_at hl 1 rfl) ?_
      refine m_get C P (X := RX8) (T := TX8) (nn := 11) (ci := 8) (j := 3) (k := k) in_X8_init_8 rfl wd_X8_init_11 rfl (by omega) fk (by decide) rfl dX8_init_158 ?_
      refine lv_iload_n hx hb dX8_init_161 rfl (lv_at hl 0 rfl) ?_
      refine m_new C P (X := RX4) (T := TX4) (nn := 3) (ci := 4) in_X8_init_4 tyX4 tyX4_ok wd_X8_init_10 wd_X8_init_23 wd_X8_init_24 rfl (fs := [.int 0, .int 0, .int 0]) dv_4 (by show _ ≤ 105; omega) (by show _ ≤ 1278; omega) dX8_init_162 (fun H P => ?_)
      refine lv_dup hx hb dX8_init_165 rfl ?_
      refine m_call (va_runIN (As := []) (rest := [.ref (o + (k + 94 + i)), .int (nI i), .ref (o + (k + 4))]) C.1 (c_X4_init l D cA o (k + 94 + i) _ hkn upE_s) ⟨va_cnB 0 C.1.2.2.2.2 gX8_init_X4_init_n49 rfl rfl rfl (C.2.2.2.2 6 _ rfl) (C.1.2.2.2.2 _ wd_X8_init_24) (by decide +kernel) ⟨Nat.le_of_ble_eq_true rfl, Nat.le_of_ble_eq_true rfl⟩, rfl, C.1.2.2.2.2 _ wd_X8_init_52⟩ (m_pre C hAO P [.ref (o + (k + 94 + i))]) rfl rfl hl.1 rfl (lv_room (Nat.le_of_ble_eq_true rfl)) dX8_init_166 ⟨by show _ ≤ 105; omega, by show _ ≤ 1278; omega⟩) P (fun H locs P => ?_)
      refine m_aast C P 5 (k := k + 4) (k2 := (k + 94 + i)) (ci := 4) (f := f) (r := (RX4, TX4, 3)) (by omega) ((gl_lo (by omega)).trans ((upE_n (by omega)).trans fA)) rfl (by omega) ((gl_hi (by omega)).trans (EK_4 hkn)) rfl hvi dX8_init_169 (fun H locs P => ?_)
      refine lv_iinc (v := nI (i + 1)) (lv' := [(1, .int (nI (i + 1))), (0, .ref (o + k))]) hx hb dX8_init_170 hl (k := 0) rfl (nI_succ i).symm (by decide) rfl (fun ls hl => ?_)
      refine lv_goto (tgt := 148) hx hb dX8_init_173 (by decide) ?_
      have e1 : c0 + 1 * i + 1 + 0 = c0 + 1 * (i + 1) := by omega
      have e2 : s0 + 3 * i + 3 + 0 = s0 + 3 * (i + 1) := by omega
      rw [e1, e2]
      have en : (k + 94 + i) + 1 = (k + 94 + (i + 1)) := by omega
      rw [en] at P
      refine ih (i + 1) (by omega) _ H locs ls P (fun q h1 h2 => (upE_n h2).trans ((gl_lo (by omega)).trans ((upE_n (by omega)).trans (hlo q h1 h2)))) ⟨_, upE_s, fun j hj => ?_⟩ (fun q h1 h2 => (upE_n (by omega)).trans ?_) hl
      · by_cases hji : j = i
        · subst hji; simp [va_up, nI_clamp (show j < 2 ^ 31 by omega)]
        · simp only [va_up, nI_clamp (show i < 2 ^ 31 by omega), if_neg hji]; exact hfj j (by omega)
      · by_cases hq : q < (k + 94 + i)
        · exact (gl_lo hq).trans ((upE_n (by omega)).trans (hhi q h1 hq))
        · exact gl_hi (by omega)
set_option maxHeartbeats 4000000 in
set_option maxRecDepth 100000 in
theorem c_X8_init (l : Launch) (D : va_G) (cA : Nat → ClassId) (o k : Nat) (Eb : Nat → va_E) (hk : kd k = 8) (f0 : Eb k = .inr (8, [.null, .null, .null, .null, .null, .int 0, .int 0, .int 0, .int 0, .int 0, .int 0])) : Met l yX8_init wsX8_init rm_X8_init (va_Pc [.ref (o + k)] (Wm (k + 1) o D (tysL cA) Eb)) (Qm (k + 106) o D (tysL cA) (gl Eb k (E0 cA o))) 105 1278 (fun q => o ≤ q) := by
  refine Met.ofW (cc := cX8_init) (maxL := 2) (ret := none) (by decide) rfl ?_
  intro p e s m args below meth c s₁ B hml hv
  obtain ⟨rfl, hsz, hv, hAO⟩ := hv
  have C : Cx p m meth c s _ cX8_init 2 wsX8_init RX8 none D (tysL cA) := ⟨⟨B.exec, B.bytes, hml, findClass_of_methodNamed B.named, atoms_spec (ws := wsX8_init) B.pre⟩, B.returns, B.notSynchronized, hv.2⟩
  have hin2 : meth.name = "<init>" := (name_of_methodNamed B.named B.method).1
  have hx := C.1.1
  have hb := C.1.2.1
  have hl := lv_entry ([.ref (o + k)]) (n := 2) (Nat.le_of_ble_eq_true rfl)
  rw [lg_entry_eq]
  generalize (lg_sl ([.ref (o + k)]) ++ List.replicate (2 - (lg_sl ([.ref (o + k)])).length) Slot.unset).toArray = ls at hl ⊢
  have hl : lv_has ls 2 [(0, .ref (o + k))] := hl
  obtain ⟨H, hH⟩ : ∃ H, H = s.heap := ⟨_, rfl⟩
  obtain ⟨locs, hlocs⟩ : ∃ locs : List Loc, locs = [] := ⟨_, rfl⟩
  have P : HpM (k + 1) o D Eb s s.heap [] := ⟨hv.1, hsz, va_S.rf⟩
  rw [← hH, ← hlocs] at P ⊢
  obtain ⟨E, hEE⟩ : ∃ E, E = Eb := ⟨_, rfl⟩
  rw [← hEE] at P
  have flo : ∀ q, q < k → E q = Eb q := fun q _ => by rw [hEE]
  have f0 : E k = .inr (8, [.null, .null, .null, .null, .null, .int 0, .int 0, .int 0, .int 0, .int 0, .int 0]) := by rw [hEE]; exact f0
  clear hEE
  refine lv_aload_n hx hb dX8_init_0 rfl (lv_at hl 0 rfl) ?_
  refine W.objInit hx hb C.1.2.2.2.1 (C.1.2.2.2.2 _ wd_X8_init_1) (C.1.2.2.2.2 _ wd_X8_init_2) (C.1.2.2.2.2 _ wd_X8_init_3) rfl (by rw [C.1.2.2.1]; exact hl.1) rfl dX8_init_1 (Nat.le_of_ble_eq_true rfl) (Nat.le_of_ble_eq_true rfl) ?_
  refine lv_aload_n hx hb dX8_init_4 rfl (lv_at hl 0 rfl) ?_
  refine lv_bipush (v := 8) hx hb dX8_init_5 (by decide) ?_
  refine m_newq C P (X := RX1) 2 (cB := cA 2) rfl wd_X8_init_4 (hAO 0 _ rfl) (i := 8) (N' := 8) (by decide) (by decide) (by decide) (Nat.le_of_ble_eq_true rfl) (Nat.le_of_ble_eq_true rfl) dX8_init_7 (fun H P => ?_)
  obtain ⟨E, P, flo, f0, f1⟩ : ∃ E : Nat → va_E, HpM (k + 2) o D E s H locs ∧ (∀ q, q < k → E q = Eb q) ∧ E k = .inr (8, [.null, .null, .null, .null, .null, .int 0, .int 0, .int 0, .int 0, .int 0, .int 0]) ∧ E (k + 1) = .inl (cA 2, 8, .inr (.inr (.inr (.inr (fun _ => none))))) := ⟨_, P, fun q h => (upE_n (by omega)).trans (flo q h), (upE_n (by omega)).trans f0, upE_s⟩
  refine m_put C P (X := RX8) (T := TX8) (nn := 11) (ci := 8) (j := 0) (k := k) in_X8_init_8 tyX8 tyX8_ok nmX8 rfl wd_X8_init_5 rfl (Or.inr ⟨rfl, hin2, rfl⟩) (by omega) f0 (by decide) (by simp) (ty := .array (.object "TurnstileBank$Gate")) (by decide) rfl rfl dX8_init_10 (fun H locs P => ?_)
  obtain ⟨E, P, flo, f0, f1⟩ : ∃ E : Nat → va_E, HpM (k + 2) o D E s H locs ∧ (∀ q, q < k → E q = Eb q) ∧ E k = .inr (8, [.ref (o + (k + 1)), .null, .null, .null, .null, .int 0, .int 0, .int 0, .int 0, .int 0, .int 0]) ∧ E (k + 1) = .inl (cA 2, 8, .inr (.inr (.inr (.inr (fun _ => none))))) := ⟨_, P, fun q h => (upE_n (by omega)).trans (flo q h), upE_s, (upE_n (by omega)).trans f1⟩
  refine lv_aload_n hx hb dX8_init_13 rfl (lv_at hl 0 rfl) ?_
  refine lv_bipush (v := 40) hx hb dX8_init_14 (by decide) ?_
  refine m_newq C P (X := RX5) 3 (cB := cA 3) rfl wd_X8_init_6 (hAO 1 _ rfl) (i := 40) (N' := 40) (by decide) (by decide) (by decide) (Nat.le_of_ble_eq_true rfl) (Nat.le_of_ble_eq_true rfl) dX8_init_16 (fun H P => ?_)
  obtain ⟨E, P, flo, f0, f1, f2⟩ : ∃ E : Nat → va_E, HpM (k + 3) o D E s H locs ∧ (∀ q, q < k → E q = Eb q) ∧ E k = .inr (8, [.ref (o + (k + 1)), .null, .null, .null, .null, .int 0, .int 0, .int 0, .int 0, .int 0, .int 0]) ∧ E (k + 1) = .inl (cA 2, 8, .inr (.inr (.inr (.inr (fun _ => none))))) ∧ E (k + 2) = .inl (cA 3, 40, .inr (.inr (.inr (.inr (fun _ => none))))) := ⟨_, P, fun q h => (upE_n (by omega)).trans (flo q h), (upE_n (by omega)).trans f0, (upE_n (by omega)).trans f1, upE_s⟩
  refine m_put C P (X := RX8) (T := TX8) (nn := 11) (ci := 8) (j := 1) (k := k) in_X8_init_8 tyX8 tyX8_ok nmX8 rfl wd_X8_init_7 rfl (Or.inr ⟨rfl, hin2, rfl⟩) (by omega) f0 (by decide) (by simp) (ty := .array (.object "TurnstileBank$Person")) (by decide) rfl rfl dX8_init_19 (fun H locs P => ?_)
  obtain ⟨E, P, flo, f0, f1, f2⟩ : ∃ E : Nat → va_E, HpM (k + 3) o D E s H locs ∧ (∀ q, q < k → E q = Eb q) ∧ E k = .inr (8, [.ref (o + (k + 1)), .ref (o + (k + 2)), .null, .null, .null, .int 0, .int 0, .int 0, .int 0, .int 0, .int 0]) ∧ E (k + 1) = .inl (cA 2, 8, .inr (.inr (.inr (.inr (fun _ => none))))) ∧ E (k + 2) = .inl (cA 3, 40, .inr (.inr (.inr (.inr (fun _ => none))))) := ⟨_, P, fun q h => (upE_n (by omega)).trans (flo q h), upE_s, (upE_n (by omega)).trans f1, (upE_n (by omega)).trans f2⟩
  refine lv_aload_n hx hb dX8_init_22 rfl (lv_at hl 0 rfl) ?_
  refine lv_iconst (v := 4) hx hb dX8_init_23 (by decide) ?_
  refine m_newq C P (X := RX6) 4 (cB := cA 4) rfl wd_X8_init_8 (hAO 2 _ rfl) (i := 4) (N' := 4) (by decide) (by decide) (by decide) (Nat.le_of_ble_eq_true rfl) (Nat.le_of_ble_eq_true rfl) dX8_init_24 (fun H P => ?_)
  obtain ⟨E, P, flo, f0, f1, f2, f3⟩ : ∃ E : Nat → va_E, HpM (k + 4) o D E s H locs ∧ (∀ q, q < k → E q = Eb q) ∧ E k = .inr (8, [.ref (o + (k + 1)), .ref (o + (k + 2)), .null, .null, .null, .int 0, .int 0, .int 0, .int 0, .int 0, .int 0]) ∧ E (k + 1) = .inl (cA 2, 8, .inr (.inr (.inr (.inr (fun _ => none))))) ∧ E (k + 2) = .inl (cA 3, 40, .inr (.inr (.inr (.inr (fun _ => none))))) ∧ E (k + 3) = .inl (cA 4, 4, .inr (.inr (.inr (.inr (fun _ => none))))) := ⟨_, P, fun q h => (upE_n (by omega)).trans (flo q h), (upE_n (by omega)).trans f0, (upE_n (by omega)).trans f1, (upE_n (by omega)).trans f2, upE_s⟩
  refine m_put C P (X := RX8) (T := TX8) (nn := 11) (ci := 8) (j := 2) (k := k) in_X8_init_8 tyX8 tyX8_ok nmX8 rfl wd_X8_init_9 rfl (Or.inr ⟨rfl, hin2, rfl⟩) (by omega) f0 (by decide) (by simp) (ty := .array (.object "TurnstileBank$Pool")) (by decide) rfl rfl dX8_init_27 (fun H locs P => ?_)
  obtain ⟨E, P, flo, f0, f1, f2, f3⟩ : ∃ E : Nat → va_E, HpM (k + 4) o D E s H locs ∧ (∀ q, q < k → E q = Eb q) ∧ E k = .inr (8, [.ref (o + (k + 1)), .ref (o + (k + 2)), .ref (o + (k + 3)), .null, .null, .int 0, .int 0, .int 0, .int 0, .int 0, .int 0]) ∧ E (k + 1) = .inl (cA 2, 8, .inr (.inr (.inr (.inr (fun _ => none))))) ∧ E (k + 2) = .inl (cA 3, 40, .inr (.inr (.inr (.inr (fun _ => none))))) ∧ E (k + 3) = .inl (cA 4, 4, .inr (.inr (.inr (.inr (fun _ => none))))) := ⟨_, P, fun q h => (upE_n (by omega)).trans (flo q h), upE_s, (upE_n (by omega)).trans f1, (upE_n (by omega)).trans f2, (upE_n (by omega)).trans f3⟩
  refine lv_aload_n hx hb dX8_init_30 rfl (lv_at hl 0 rfl) ?_
  refine lv_bipush (v := 12) hx hb dX8_init_31 (by decide) ?_
  refine m_newq C P (X := RX4) 5 (cB := cA 5) rfl wd_X8_init_10 (hAO 3 _ rfl) (i := 12) (N' := 12) (by decide) (by decide) (by decide) (Nat.le_of_ble_eq_true rfl) (Nat.le_of_ble_eq_true rfl) dX8_init_33 (fun H P => ?_)
  obtain ⟨E, P, flo, f0, f1, f2, f3, f4⟩ : ∃ E : Nat → va_E, HpM (k + 5) o D E s H locs ∧ (∀ q, q < k → E q = Eb q) ∧ E k = .inr (8, [.ref (o + (k + 1)), .ref (o + (k + 2)), .ref (o + (k + 3)), .null, .null, .int 0, .int 0, .int 0, .int 0, .int 0, .int 0]) ∧ E (k + 1) = .inl (cA 2, 8, .inr (.inr (.inr (.inr (fun _ => none))))) ∧ E (k + 2) = .inl (cA 3, 40, .inr (.inr (.inr (.inr (fun _ => none))))) ∧ E (k + 3) = .inl (cA 4, 4, .inr (.inr (.inr (.inr (fun _ => none))))) ∧ E (k + 4) = .inl (cA 5, 12, .inr (.inr (.inr (.inr (fun _ => none))))) := ⟨_, P, fun q h => (upE_n (by omega)).trans (flo q h), (upE_n (by omega)).trans f0, (upE_n (by omega)).trans f1, (upE_n (by omega)).trans f2, (upE_n (by omega)).trans f3, upE_s⟩
  refine m_put C P (X := RX8) (T := TX8) (nn := 11) (ci := 8) (j := 3) (k := k) in_X8_init_8 tyX8 tyX8_ok nmX8 rfl wd_X8_init_11 rfl (Or.inr ⟨rfl, hin2, rfl⟩) (by omega) f0 (by decide) (by simp) (ty := .array (.object "TurnstileBank$Pass")) (by decide) rfl rfl dX8_init_36 (fun H locs P => ?_)
  obtain ⟨E, P, flo, f0, f1, f2, f3, f4⟩ : ∃ E : Nat → va_E, HpM (k + 5) o D E s H locs ∧ (∀ q, q < k → E q = Eb q) ∧ E k = .inr (8, [.ref (o + (k + 1)), .ref (o + (k + 2)), .ref (o + (k + 3)), .ref (o + (k + 4)), .null, .int 0, .int 0, .int 0, .int 0, .int 0, .int 0]) ∧ E (k + 1) = .inl (cA 2, 8, .inr (.inr (.inr (.inr (fun _ => none))))) ∧ E (k + 2) = .inl (cA 3, 40, .inr (.inr (.inr (.inr (fun _ => none))))) ∧ E (k + 3) = .inl (cA 4, 4, .inr (.inr (.inr (.inr (fun _ => none))))) ∧ E (k + 4) = .inl (cA 5, 12, .inr (.inr (.inr (.inr (fun _ => none))))) := ⟨_, P, fun q h => (upE_n (by omega)).trans (flo q h), upE_s, (upE_n (by omega)).trans f1, (upE_n (by omega)).trans f2, (upE_n (by omega)).trans f3, (upE_n (by omega)).trans f4⟩
  refine lv_aload_n hx hb dX8_init_39 rfl (lv_at hl 0 rfl) ?_
  refine m_new C P (X := RX0) (T := TX0) (nn := 6) (ci := 0) in_X8_init_0 tyX0 tyX0_ok wd_X8_init_12 wd_X8_init_13 wd_X8_init_14 rfl (fs := [.null, .null, .null, .null, .int 0, .int 0]) dv_0 (Nat.le_of_ble_eq_true rfl) (Nat.le_of_ble_eq_true rfl) dX8_init_40 (fun H P => ?_)
  obtain ⟨E, P, flo, f0, f1, f2, f3, f4, f5⟩ : ∃ E : Nat → va_E, HpM (k + 6) o D E s H locs ∧ (∀ q, q < k → E q = Eb q) ∧ E k = .inr (8, [.ref (o + (k + 1)), .ref (o + (k + 2)), .ref (o + (k + 3)), .ref (o + (k + 4)), .null, .int 0, .int 0, .int 0, .int 0, .int 0, .int 0]) ∧ E (k + 1) = .inl (cA 2, 8, .inr (.inr (.inr (.inr (fun _ => none))))) ∧ E (k + 2) = .inl (cA 3, 40, .inr (.inr (.inr (.inr (fun _ => none))))) ∧ E (k + 3) = .inl (cA 4, 4, .inr (.inr (.inr (.inr (fun _ => none))))) ∧ E (k + 4) = .inl (cA 5, 12, .inr (.inr (.inr (.inr (fun _ => none))))) ∧ E (k + 5) = .inr (0, [.null, .null, .null, .null, .int 0, .int 0]) := ⟨_, P, fun q h => (upE_n (by omega)).trans (flo q h), (upE_n (by omega)).trans f0, (upE_n (by omega)).trans f1, (upE_n (by omega)).trans f2, (upE_n (by omega)).trans f3, (upE_n (by omega)).trans f4, upE_s⟩
  refine lv_dup hx hb dX8_init_43 rfl ?_
  refine m_call (va_runIN (As := []) (rest := [.ref (o + (k + 5)), .ref (o + k)]) C.1 (c_X0_init l D cA o (k + 5) E (kd_8_5 hk) f5) ⟨va_cnB 0 C.1.2.2.2.2 gX8_init_X0_init_n37 rfl rfl rfl (C.2.2.2.2 1 _ rfl) (C.1.2.2.2.2 _ wd_X8_init_14) (by decide +kernel) ⟨Nat.le_of_ble_eq_true rfl, Nat.le_of_ble_eq_true rfl⟩, rfl, C.1.2.2.2.2 _ wd_X8_init_25⟩ (m_pre C hAO P [.ref (o + (k + 5))]) rfl rfl hl.1 rfl (lv_room (Nat.le_of_ble_eq_true rfl)) dX8_init_44 ⟨Nat.le_of_ble_eq_true rfl, Nat.le_of_ble_eq_true rfl⟩) P (fun H locs P => ?_)
  obtain ⟨E, P, flo, f0, f1, f2, f3, f4, g5⟩ : ∃ E : Nat → va_E, HpM (k + 10) o D E s H locs ∧ (∀ q, q < k → E q = Eb q) ∧ E k = .inr (8, [.ref (o + (k + 1)), .ref (o + (k + 2)), .ref (o + (k + 3)), .ref (o + (k + 4)), .null, .int 0, .int 0, .int 0, .int 0, .int 0, .int 0]) ∧ E (k + 1) = .inl (cA 2, 8, .inr (.inr (.inr (.inr (fun _ => none))))) ∧ E (k + 2) = .inl (cA 3, 40, .inr (.inr (.inr (.inr (fun _ => none))))) ∧ E (k + 3) = .inl (cA 4, 4, .inr (.inr (.inr (.inr (fun _ => none))))) ∧ E (k + 4) = .inl (cA 5, 12, .inr (.inr (.inr (.inr (fun _ => none))))) ∧ (∀ q, k + 5 ≤ q → q < k + 10 → E q = E0 cA o q) := ⟨_, P, fun q h => (gl_lo (by omega)).trans (flo q h), (gl_lo (by omega)).trans f0, (gl_lo (by omega)).trans f1, (gl_lo (by omega)).trans f2, (gl_lo (by omega)).trans f3, (gl_lo (by omega)).trans f4, fun q h1 h2 => gl_hi (by omega)⟩
  refine m_put C P (X := RX8) (T := TX8) (nn := 11) (ci := 8) (j := 4) (k := k) in_X8_init_8 tyX8 tyX8_ok nmX8 rfl wd_X8_init_15 rfl (Or.inr ⟨rfl, hin2, rfl⟩) (by omega) f0 (by decide) (by simp) (ty := .object "TurnstileBank$Events") (by decide) rfl rfl dX8_init_47 (fun H locs P => ?_)
  obtain ⟨E, P, flo, f0, f1, f2, f3, f4, g5⟩ : ∃ E : Nat → va_E, HpM (k + 10) o D E s H locs ∧ (∀ q, q < k → E q = Eb q) ∧ E k = .inr (8, [.ref (o + (k + 1)), .ref (o + (k + 2)), .ref (o + (k + 3)), .ref (o + (k + 4)), .ref (o + (k + 5)), .int 0, .int 0, .int 0, .int 0, .int 0, .int 0]) ∧ E (k + 1) = .inl (cA 2, 8, .inr (.inr (.inr (.inr (fun _ => none))))) ∧ E (k + 2) = .inl (cA 3, 40, .inr (.inr (.inr (.inr (fun _ => none))))) ∧ E (k + 3) = .inl (cA 4, 4, .inr (.inr (.inr (.inr (fun _ => none))))) ∧ E (k + 4) = .inl (cA 5, 12, .inr (.inr (.inr (.inr (fun _ => none))))) ∧ (∀ q, k + 5 ≤ q → q < k + 10 → E q = E0 cA o q) := ⟨_, P, fun q h => (upE_n (by omega)).trans (flo q h), upE_s, (upE_n (by omega)).trans f1, (upE_n (by omega)).trans f2, (upE_n (by omega)).trans f3, (upE_n (by omega)).trans f4, fun q h1 h2 => (upE_n (by omega)).trans (g5 q h1 h2)⟩
  refine lv_aload_n hx hb dX8_init_50 rfl (lv_at hl 0 rfl) ?_
  refine lv_bipush (v := 10) hx hb dX8_init_51 (by decide) ?_
  refine m_put C P (X := RX8) (T := TX8) (nn := 11) (ci := 8) (j := 10) (k := k) in_X8_init_8 tyX8 tyX8_ok nmX8 rfl wd_X8_init_16 rfl (Or.inl rfl) (by omega) f0 (by decide) (by simp) (ty := .int) (by decide) rfl rfl dX8_init_53 (fun H locs P => ?_)
  obtain ⟨E, P, flo, f0, f1, f2, f3, f4, g5⟩ : ∃ E : Nat → va_E, HpM (k + 10) o D E s H locs ∧ (∀ q, q < k → E q = Eb q) ∧ E k = .inr (8, [.ref (o + (k + 1)), .ref (o + (k + 2)), .ref (o + (k + 3)), .ref (o + (k + 4)), .ref (o + (k + 5)), .int 0, .int 0, .int 0, .int 0, .int 0, .int (10 : Int32)]) ∧ E (k + 1) = .inl (cA 2, 8, .inr (.inr (.inr (.inr (fun _ => none))))) ∧ E (k + 2) = .inl (cA 3, 40, .inr (.inr (.inr (.inr (fun _ => none))))) ∧ E (k + 3) = .inl (cA 4, 4, .inr (.inr (.inr (.inr (fun _ => none))))) ∧ E (k + 4) = .inl (cA 5, 12, .inr (.inr (.inr (.inr (fun _ => none))))) ∧ (∀ q, k + 5 ≤ q → q < k + 10 → E q = E0 cA o q) := ⟨_, P, fun q h => (upE_n (by omega)).trans (flo q h), upE_s, (upE_n (by omega)).trans f1, (upE_n (by omega)).trans f2, (upE_n (by omega)).trans f3, (upE_n (by omega)).trans f4, fun q h1 h2 => (upE_n (by omega)).trans (g5 q h1 h2)⟩
  refine lv_iconst (v := 0) hx hb dX8_init_56 (by decide) ?_
  refine lv_istore_n (lv' := [(1, .int 0), (0, .ref (o + k))]) hx hb dX8_init_57 rfl hl (by decide) rfl (fun ls hl => ?_)
  obtain ⟨Es, hEs⟩ : ∃ Es, Es = E := ⟨_, rfl⟩
  refine lp_X8_init_58 (c0 := 9) (s0 := 150) (Eb := E) C hAO hk f0 (by decide) (by decide) (fun E1 H locs ls P l1 ha1 hh1 hl => ?_) 8 0 rfl E H locs ls P (fun q _ _ => rfl) ⟨_, f1, fun j hj => absurd hj (Nat.not_lt_zero _)⟩ (fun q h1 h2 => by omega) hl
  have g0_1 := (l1 k (by omega) (by omega)).trans f0
  have gA2_1 := (l1 (k + 2) (by omega) (by omega)).trans f2
  have gA3_1 := (l1 (k + 3) (by omega) (by omega)).trans f3
  have gA4_1 := (l1 (k + 4) (by omega) (by omega)).trans f4
  refine lv_iconst (v := 0) hx hb dX8_init_86 (by decide) ?_
  refine lv_istore_n (lv' := [(1, .int 0), (0, .ref (o + k))]) hx hb dX8_init_87 rfl hl (by decide) rfl (fun ls hl => ?_)
  refine lp_X8_init_88 (c0 := (9 + 5 * 8)) (s0 := (150 + 99 * 8)) (Eb := E1) C hAO hk g0_1 (by decide) (by decide) (fun E2 H locs ls P l2 ha2 hh2 hl => ?_) 40 0 rfl E1 H locs ls P (fun q _ _ => rfl) ⟨_, gA2_1, fun j hj => absurd hj (Nat.not_lt_zero _)⟩ (fun q h1 h2 => by omega) hl
  have g0_2 := (l2 k (by omega) (by omega)).trans g0_1
  have gA3_2 := (l2 (k + 3) (by omega) (by omega)).trans gA3_1
  have gA4_2 := (l2 (k + 4) (by omega) (by omega)).trans gA4_1
  refine lv_iconst (v := 0) hx hb dX8_init_116 (by decide) ?_
  refine lv_istore_n (lv' := [(1, .int 0), (0, .ref (o + k))]) hx hb dX8_init_117 rfl hl (by decide) rfl (fun ls hl => ?_)
  refine lp_X8_init_118 (c0 := ((9 + 5 * 8) + 1 * 40)) (s0 := ((150 + 99 * 8) + 7 * 40)) (Eb := E2) C hAO hk g0_2 (by decide) (by decide) (fun E3 H locs ls P l3 ha3 hh3 hl => ?_) 4 0 rfl E2 H locs ls P (fun q _ _ => rfl) ⟨_, gA3_2, fun j hj => absurd hj (Nat.not_lt_zero _)⟩ (fun q h1 h2 => by omega) hl
  have g0_3 := (l3 k (by omega) (by omega)).trans g0_2
  have gA4_3 := (l3 (k + 4) (by omega) (by omega)).trans gA4_2
  refine lv_iconst (v := 0) hx hb dX8_init_146 (by decide) ?_
  refine lv_istore_n (lv' := [(1, .int 0), (0, .ref (o + k))]) hx hb dX8_init_147 rfl hl (by decide) rfl (fun ls hl => ?_)
  refine lp_X8_init_148 (c0 := (((9 + 5 * 8) + 1 * 40) + 1 * 4)) (s0 := (((150 + 99 * 8) + 7 * 40) + 5 * 4)) (Eb := E3) C hAO hk g0_3 (by decide) (by decide) (fun E4 H locs ls P l4 ha4 hh4 hl => ?_) 12 0 rfl E3 H locs ls P (fun q _ _ => rfl) ⟨_, gA4_3, fun j hj => absurd hj (Nat.not_lt_zero _)⟩ (fun q h1 h2 => by omega) hl
  have g0_4 := (l4 k (by omega) (by omega)).trans g0_3
  refine W.widen (k := 105) (n := 1278) (by decide) (by decide) ?_
  refine m_ret C P (fun q hq => ?_) dX8_init_176
  by_cases hqk : q < k
  · rw [gl_lo hqk]
    exact enq_of ((l4 q (by omega) (by omega)).trans ((l3 q (by omega) (by omega)).trans ((l2 q (by omega) (by omega)).trans ((l1 q (by omega) (by omega)).trans (flo q hqk)))))
  · rw [gl_hi (by omega)]
    by_cases h0 : q = k
    · subst h0
      rw [g0_4, E0, EK_8 hk]
      exact enq_of (by simp [mu0, hk])
    by_cases hA1 : q = k + 1
    · subst hA1
      obtain ⟨f, fA, hfj⟩ := ha1
      rw [(l4 _ (by omega) (by omega)).trans ((l3 _ (by omega) (by omega)).trans ((l2 _ (by omega) (by omega)).trans (fA))), E0, EK_13 (kd_8_1 hk)]
      exact enq_refs (fun j hj => (hfj j hj).trans (congrArg some (congrArg (fun x => o + x) (by omega))))
    by_cases hA2 : q = k + 2
    · subst hA2
      obtain ⟨f, fA, hfj⟩ := ha2
      rw [(l4 _ (by omega) (by omega)).trans ((l3 _ (by omega) (by omega)).trans (fA)), E0, EK_15 (kd_8_2 hk)]
      exact enq_refs (fun j hj => (hfj j hj).trans (congrArg some (congrArg (fun x => o + x) (by omega))))
    by_cases hA3 : q = k + 3
    · subst hA3
      obtain ⟨f, fA, hfj⟩ := ha3
      rw [(l4 _ (by omega) (by omega)).trans (fA), E0, EK_16 (kd_8_3 hk)]
      exact enq_refs (fun j hj => (hfj j hj).trans (congrArg some (congrArg (fun x => o + x) (by omega))))
    by_cases hA4 : q = k + 4
    · subst hA4
      obtain ⟨f, fA, hfj⟩ := ha4
      rw [fA, E0, EK_14 (kd_8_4 hk)]
      exact enq_refs (fun j hj => (hfj j hj).trans (congrArg some (congrArg (fun x => o + x) (by omega))))
    by_cases hm5 : k + 5 ≤ q ∧ q < k + 10
    · exact enq_of ((l4 q (by omega) (by omega)).trans ((l3 q (by omega) (by omega)).trans ((l2 q (by omega) (by omega)).trans ((l1 q (by omega) (by omega)).trans (g5 q hm5.1 hm5.2)))))
    by_cases hz0 : k + 10 ≤ q ∧ q < k + 10 + 5 * 8
    · exact enq_of ((l4 q (by omega) (by omega)).trans ((l3 q (by omega) (by omega)).trans ((l2 q (by omega) (by omega)).trans (hh1 q (by omega) (by omega)))))
    by_cases hz1 : k + 50 ≤ q ∧ q < k + 50 + 1 * 40
    · exact enq_of ((l4 q (by omega) (by omega)).trans ((l3 q (by omega) (by omega)).trans (hh2 q (by omega) (by omega))))
    by_cases hz2 : k + 90 ≤ q ∧ q < k + 90 + 1 * 4
    · exact enq_of ((l4 q (by omega) (by omega)).trans (hh3 q (by omega) (by omega)))
    by_cases hz3 : k + 94 ≤ q ∧ q < k + 94 + 1 * 12
    · exact enq_of (hh4 q (by omega) (by omega))
    · omega
theorem wd_X2_init_1 : Cond.methodLink RX2 3 objectInit ∈ wsX2_init := List.mem_of_getElem? (i := 1) (by decide +kernel)
theorem wd_X2_init_2 : Cond.instanceMethod objectInit ∈ wsX2_init := List.mem_of_getElem? (i := 2) (by decide +kernel)
theorem wd_X2_init_3 : Cond.code objectInit ⟨#[0xb1]⟩ 1 none ∈ wsX2_init := List.mem_of_getElem? (i := 3) rfl
theorem wd_X2_init_4 : Cond.classLink RX2 9 RX8 ∈ wsX2_init := List.mem_of_getElem? (i := 4) (by decide +kernel)
theorem wd_X2_init_5 : Cond.fieldLink RX2 11 "TurnstileBank$History" "states" "[LTurnstileBank$State;" ∈ wsX2_init := List.mem_of_getElem? (i := 5) (by decide +kernel)
theorem wd_X2_init_6 : Cond.instantiable RX8 11 ∈ wsX2_init := List.mem_of_getElem? (i := 6) (by decide +kernel)
theorem wd_X2_init_7 : Cond.initialized RX8 ∈ wsX2_init := List.mem_of_getElem? (i := 7) (by decide +kernel)
theorem wd_X2_init_8 : Cond.methodLink RX2 17 yX8_init ∈ wsX2_init := List.mem_of_getElem? (i := 8) (by decide +kernel)
theorem wd_X2_init_9 : Cond.instanceMethod yX8_init ∈ wsX2_init := List.mem_of_getElem? (i := 9) (by decide +kernel)
theorem in_X2_init_2 : ∀ w ∈ wsX20, w ∈ wsX2_init := fun w h => List.mem_cons_of_mem _ (List.mem_append_left _ (List.mem_append_left _ (List.mem_append_left _ (List.mem_append_left _ (List.mem_append_left _ (List.mem_append_left _ (List.mem_append_left _ (List.mem_append_right _ h))))))))
theorem in_X2_init_8 : ∀ w ∈ wsX80, w ∈ wsX2_init := fun w h => List.mem_cons_of_mem _ (List.mem_append_left _ (List.mem_append_left _ (List.mem_append_left _ (List.mem_append_left _ (List.mem_append_left _ (List.mem_append_left _ (List.mem_append_right _ h)))))))
abbrev rm_X2_init : Room := { frames := 4, cells := 531, slots := 6450, locals := 73 }
set_option maxHeartbeats 4000000 in
set_option maxRecDepth 100000 in
theorem lp_X2_init_14 {p : Program} {l : Launch} {e : Env} {s : State} {m : MethodId} {args : Array Value} {below : List Frame} {meth : Method} {c : Code} {D : va_G} {cA : Nat → ClassId} {o k c0 s0 : Nat} {Q : State → Prop} {Eb : Nat → va_E} (C : Cx p m meth c s args cX2_init 2 wsX2_init RX2 none D (tysL cA)) (hAO : AOs s) (hk : kd k = 2) (fo : Eb k = .inr (2, [.ref (o + (k + 1)), .int 0, .int 0])) (hc : c0 + 106 * 5 ≤ 531) (hs : s0 + 1289 * 5 ≤ 6450)
    (hkk : ∀ (E : Nat → va_E) (H : Heap) (locs : List Loc) (ls : Array Slot), HpM (k + 2 + 106 * 5) o D E s H locs → (∀ q, q < (k + 2) → q ≠ k + 1 → E q = Eb q) → (∃ f : Nat → Option Nat, E (k + 1) = .inl (cA 6, 5, .inr (.inr (.inr (.inr f)))) ∧ ∀ j, j < 5 → f j = some (o + (k + 2 + 106 * j))) → (∀ q, (k + 2) ≤ q → q < (k + 2 + 106 * 5) → E q = E0 cA o q) → lv_has ls 2 [(1, .int (nI 5)), (0, .ref (o + k))] → W p l e rm_X2_init s m args below meth c H locs (c0 + 106 * 5) (s0 + 1289 * 5) Q (F0 m 42 ls [])) :
    ∀ (r i : Nat), i + r = 5 → ∀ (E : Nat → va_E) (H : Heap) (locs : List Loc) (ls : Array Slot), HpM (k + 2 + 106 * i) o D E s H locs → (∀ q, q < (k + 2) → q ≠ k + 1 → E q = Eb q) → (∃ f : Nat → Option Nat, E (k + 1) = .inl (cA 6, 5, .inr (.inr (.inr (.inr f)))) ∧ ∀ j, j < i → f j = some (o + (k + 2 + 106 * j))) → (∀ q, (k + 2) ≤ q → q < (k + 2 + 106 * i) → E q = E0 cA o q) → lv_has ls 2 [(1, .int (nI i)), (0, .ref (o + k))] → W p l e rm_X2_init s m args below meth c H locs (c0 + 106 * i) (s0 + 1289 * i) Q (F0 m 14 ls []) := by
  intro r
  induction r with
  | zero =>
    intro i hi E H locs ls P hlo hf hhi hl
    have hx := C.1.1
    have hb := C.1.2.1
    obtain ⟨f, fA, hfj⟩ := hf
    have fk : E k = .inr (2, [.ref (o + (k + 1)), .int 0, .int 0]) := (hlo k (by omega) (by omega)).trans fo
    refine lv_iload_n hx hb dX2_init_14 rfl (lv_at hl 0 rfl) ?_
    refine lv_aload_n hx hb dX2_init_15 rfl (lv_at hl 1 rfl) ?_
    refine m_get C P (X := RX2) (T := TX2) (nn := 3) (ci := 2) (j := 0) (k := k) in_X2_init_2 rfl wd_X2_init_5 rfl (by omega) fk (by decide) rfl dX2_init_16 ?_
    refine va_alen hx hb C.2.2.2.1 P.1 (k + 1) 6 (wl_at (by omega) fA) rfl (v := 5) rfl dX2_init_19 ?_
    refine lv_icmp_ge (tgt := 42) hx hb dX2_init_20 (by decide) (fun c1 => ?_) (fun c1 => ?_)
    · have hiN : i = 5 := by omega
      subst hiN
      exact hkk E H locs ls P hlo ⟨f, fA, hfj⟩ hhi hl
    · exact absurd (nI_le (a := 5) (b := i) (by omega) (by omega)) c1
  | succ r ih =>
    intro i hi E H locs ls P hlo hf hhi hl
    have hx := C.1.1
    have hb := C.1.2.1
    obtain ⟨f, fA, hfj⟩ := hf
    have fk : E k = .inr (2, [.ref (o + (k + 1)), .int 0, .int 0]) := (hlo k (by omega) (by omega)).trans fo
    refine lv_iload_n hx hb dX2_init_14 rfl (lv_at hl 0 rfl) ?_
    refine lv_aload_n hx hb dX2_init_15 rfl (lv_at hl 1 rfl) ?_
    refine m_get C P (X := RX2) (T := TX2) (nn := 3) (ci := 2) (j := 0) (k := k) in_X2_init_2 rfl wd_X2_init_5 rfl (by omega) fk (by decide) rfl dX2_init_16 ?_
    refine va_alen hx hb C.2.2.2.1 P.1 (k + 1) 6 (wl_at (by omega) fA) rfl (v := 5) rfl dX2_init_19 ?_
    refine lv_icmp_ge (tgt := 42) hx hb dX2_init_20 (by decide) (fun c1 => ?_) (fun c1 => ?_)
    · exact absurd c1 (nI_ge (a := i) (b := 5) (by omega) (by omega))
    · have hvi : vp_in (nI i) 5 := vp_in_nI (by omega) (by omega)
      have hkn : kd (k + 2 + 106 * i) = 8 := by have := kd_2_eq hk; subst this; exact (by decide +kernel : ∀ i, i < 5 → kd (213 + 2 + 106 * i) = 8) i (by omega)
      refine lv_aload_n hx hb dX2_init_23 rfl (lv_at hl 1 rfl) ?_
      refine m_get C P (X := RX2) (T := TX2) (nn := 3) (ci := 2) (j := 0) (k := k) in_X2_init_2 rfl wd_X2_init_5 rfl (by omega) fk (by decide) rfl dX2_init_24 ?_
      refine lv_iload_n hx hb dX2_init_27 rfl (lv_at hl 0 rfl) ?_
      refine m_new C P (X := RX8) (T := TX8) (nn := 11) (ci := 8) in_X2_init_8 tyX8 tyX8_ok wd_X2_init_4 wd_X2_init_6 wd_X2_init_7 rfl (fs := [.null, .null, .null, .null, .null, .int 0, .int 0, .int 0, .int 0, .int 0, .int 0]) dv_8 (by show _ ≤ 531; omega) (by show _ ≤ 6450; omega) dX2_init_28 (fun H P => ?_)
      refine lv_dup hx hb dX2_init_31 rfl ?_
      refine m_call (va_runI (As := []) (rest := [.ref (o + (k + 2 + 106 * i)), .int (nI i), .ref (o + (k + 1))]) C.1 (c_X8_init l D cA o (k + 2 + 106 * i) _ hkn upE_s) (cwI 0 C.1.2.2.2.2 gX2_init_X8_init rfl rfl rfl (C.1.2.2.2.2 _ wd_X2_init_7) (C.1.2.2.2.2 _ wd_X2_init_8) (C.1.2.2.2.2 _ wd_X2_init_9) rfl (by decide +kernel) ⟨Nat.le_of_ble_eq_true rfl, Nat.le_of_ble_eq_true rfl⟩) (m_pre C hAO P [.ref (o + (k + 2 + 106 * i))]) rfl rfl hl.1 rfl (lv_room (Nat.le_of_ble_eq_true rfl)) dX2_init_32 ⟨by show _ ≤ 531; omega, by show _ ≤ 6450; omega⟩) P (fun H locs P => ?_)
      refine m_aast C P 6 (k := k + 1) (k2 := (k + 2 + 106 * i)) (ci := 8) (f := f) (r := (RX8, TX8, 11)) (by omega) ((gl_lo (by omega)).trans ((upE_n (by omega)).trans fA)) rfl (by omega) ((gl_hi (by omega)).trans (EK_8 hkn)) rfl hvi dX2_init_35 (fun H locs P => ?_)
      refine lv_iinc (v := nI (i + 1)) (lv' := [(1, .int (nI (i + 1))), (0, .ref (o + k))]) hx hb dX2_init_36 hl (k := 0) rfl (nI_succ i).symm (by decide) rfl (fun ls hl => ?_)
      refine lv_goto (tgt := 14) hx hb dX2_init_39 (by decide) ?_
      have e1 : c0 + 106 * i + 1 + 105 = c0 + 106 * (i + 1) := by omega
      have e2 : s0 + 1289 * i + 11 + 1278 = s0 + 1289 * (i + 1) := by omega
      rw [e1, e2]
      have en : (k + 2 + 106 * i) + 106 = (k + 2 + 106 * (i + 1)) := by omega
      rw [en] at P
      refine ih (i + 1) (by omega) _ H locs ls P (fun q h1 h2 => (upE_n h2).trans ((gl_lo (by omega)).trans ((upE_n (by omega)).trans (hlo q h1 h2)))) ⟨_, upE_s, fun j hj => ?_⟩ (fun q h1 h2 => (upE_n (by omega)).trans ?_) hl
      · by_cases hji : j = i
        · subst hji; simp [va_up, nI_clamp (show j < 2 ^ 31 by omega)]
        · simp only [va_up, nI_clamp (show i < 2 ^ 31 by omega), if_neg hji]; exact hfj j (by omega)
      · by_cases hq : q < (k + 2 + 106 * i)
        · exact (gl_lo hq).trans ((upE_n (by omega)).trans (hhi q h1 hq))
        · exact gl_hi (by omega)
set_option maxHeartbeats 4000000 in
set_option maxRecDepth 100000 in
theorem c_X2_init (l : Launch) (D : va_G) (cA : Nat → ClassId) (o k : Nat) (Eb : Nat → va_E) (hk : kd k = 2) (f0 : Eb k = .inr (2, [.null, .int 0, .int 0])) : Met l yX2_init wsX2_init rm_X2_init (va_Pc [.ref (o + k)] (Wm (k + 1) o D (tysL cA) Eb)) (Qm (k + 532) o D (tysL cA) (gl Eb k (E0 cA o))) 531 6450 (fun q => o ≤ q) := by
  refine Met.ofW (cc := cX2_init) (maxL := 2) (ret := none) (by decide) rfl ?_
  intro p e s m args below meth c s₁ B hml hv
  obtain ⟨rfl, hsz, hv, hAO⟩ := hv
  have C : Cx p m meth c s _ cX2_init 2 wsX2_init RX2 none D (tysL cA) := ⟨⟨B.exec, B.bytes, hml, findClass_of_methodNamed B.named, atoms_spec (ws := wsX2_init) B.pre⟩, B.returns, B.notSynchronized, hv.2⟩
  have hin2 : meth.name = "<init>" := (name_of_methodNamed B.named B.method).1
  have hx := C.1.1
  have hb := C.1.2.1
  have hl := lv_entry ([.ref (o + k)]) (n := 2) (Nat.le_of_ble_eq_true rfl)
  rw [lg_entry_eq]
  generalize (lg_sl ([.ref (o + k)]) ++ List.replicate (2 - (lg_sl ([.ref (o + k)])).length) Slot.unset).toArray = ls at hl ⊢
  have hl : lv_has ls 2 [(0, .ref (o + k))] := hl
  obtain ⟨H, hH⟩ : ∃ H, H = s.heap := ⟨_, rfl⟩
  obtain ⟨locs, hlocs⟩ : ∃ locs : List Loc, locs = [] := ⟨_, rfl⟩
  have P : HpM (k + 1) o D Eb s s.heap [] := ⟨hv.1, hsz, va_S.rf⟩
  rw [← hH, ← hlocs] at P ⊢
  obtain ⟨E, hEE⟩ : ∃ E, E = Eb := ⟨_, rfl⟩
  rw [← hEE] at P
  have flo : ∀ q, q < k → E q = Eb q := fun q _ => by rw [hEE]
  have f0 : E k = .inr (2, [.null, .int 0, .int 0]) := by rw [hEE]; exact f0
  clear hEE
  refine lv_aload_n hx hb dX2_init_0 rfl (lv_at hl 0 rfl) ?_
  refine W.objInit hx hb C.1.2.2.2.1 (C.1.2.2.2.2 _ wd_X2_init_1) (C.1.2.2.2.2 _ wd_X2_init_2) (C.1.2.2.2.2 _ wd_X2_init_3) rfl (by rw [C.1.2.2.1]; exact hl.1) rfl dX2_init_1 (Nat.le_of_ble_eq_true rfl) (Nat.le_of_ble_eq_true rfl) ?_
  refine lv_aload_n hx hb dX2_init_4 rfl (lv_at hl 0 rfl) ?_
  refine lv_iconst (v := 5) hx hb dX2_init_5 (by decide) ?_
  refine m_newq C P (X := RX8) 6 (cB := cA 6) rfl wd_X2_init_4 (hAO 4 _ rfl) (i := 5) (N' := 5) (by decide) (by decide) (by decide) (Nat.le_of_ble_eq_true rfl) (Nat.le_of_ble_eq_true rfl) dX2_init_6 (fun H P => ?_)
  obtain ⟨E, P, flo, f0, f1⟩ : ∃ E : Nat → va_E, HpM (k + 2) o D E s H locs ∧ (∀ q, q < k → E q = Eb q) ∧ E k = .inr (2, [.null, .int 0, .int 0]) ∧ E (k + 1) = .inl (cA 6, 5, .inr (.inr (.inr (.inr (fun _ => none))))) := ⟨_, P, fun q h => (upE_n (by omega)).trans (flo q h), (upE_n (by omega)).trans f0, upE_s⟩
  refine m_put C P (X := RX2) (T := TX2) (nn := 3) (ci := 2) (j := 0) (k := k) in_X2_init_2 tyX2 tyX2_ok nmX2 rfl wd_X2_init_5 rfl (Or.inr ⟨rfl, hin2, rfl⟩) (by omega) f0 (by decide) (by simp) (ty := .array (.object "TurnstileBank$State")) (by decide) rfl rfl dX2_init_9 (fun H locs P => ?_)
  obtain ⟨E, P, flo, f0, f1⟩ : ∃ E : Nat → va_E, HpM (k + 2) o D E s H locs ∧ (∀ q, q < k → E q = Eb q) ∧ E k = .inr (2, [.ref (o + (k + 1)), .int 0, .int 0]) ∧ E (k + 1) = .inl (cA 6, 5, .inr (.inr (.inr (.inr (fun _ => none))))) := ⟨_, P, fun q h => (upE_n (by omega)).trans (flo q h), upE_s, (upE_n (by omega)).trans f1⟩
  refine lv_iconst (v := 0) hx hb dX2_init_12 (by decide) ?_
  refine lv_istore_n (lv' := [(1, .int 0), (0, .ref (o + k))]) hx hb dX2_init_13 rfl hl (by decide) rfl (fun ls hl => ?_)
  obtain ⟨Es, hEs⟩ : ∃ Es, Es = E := ⟨_, rfl⟩
  refine lp_X2_init_14 (c0 := 1) (s0 := 5) (Eb := E) C hAO hk f0 (by decide) (by decide) (fun E1 H locs ls P l1 ha1 hh1 hl => ?_) 5 0 rfl E H locs ls P (fun q _ _ => rfl) ⟨_, f1, fun j hj => absurd hj (Nat.not_lt_zero _)⟩ (fun q h1 h2 => by omega) hl
  have g0_1 := (l1 k (by omega) (by omega)).trans f0
  refine W.widen (k := 531) (n := 6450) (by decide) (by decide) ?_
  refine m_ret C P (fun q hq => ?_) dX2_init_42
  by_cases hqk : q < k
  · rw [gl_lo hqk]
    exact enq_of ((l1 q (by omega) (by omega)).trans (flo q hqk))
  · rw [gl_hi (by omega)]
    by_cases h0 : q = k
    · subst h0
      rw [g0_1, E0, EK_2 hk]
      exact enq_of (by simp [mu0, hk]; exact kd_2_eq hk)
    by_cases hA1 : q = k + 1
    · subst hA1
      obtain ⟨f, fA, hfj⟩ := ha1
      rw [fA, E0, EK_17 (by have := kd_2_eq hk; subst this; decide)]
      exact enq_refs (fun j hj => (hfj j hj).trans (congrArg some (congrArg (fun x => o + x) (by have := kd_2_eq hk; omega))))
    by_cases hz0 : k + 2 ≤ q ∧ q < k + 2 + 106 * 5
    · exact enq_of (hh1 q (by omega) (by omega))
    · omega
