theorem kd_9_eq {k : Nat} (h : kd k = 9) : k = 0 := (by decide +kernel : ∀ k, k < 747 → kd k = 9 → k = 0) k (kd_lt h (by decide)) h
theorem kd_9_1 {k : Nat} (h : kd k = 9) : kd (k + 1) = 8 := kd_all (f := fun k => k + 1) (by decide) (by decide +kernel) h
theorem kd_9_107 {k : Nat} (h : kd k = 9) : kd (k + 107) = 8 := kd_all (f := fun k => k + 107) (by decide) (by decide +kernel) h
theorem kd_9_213 {k : Nat} (h : kd k = 9) : kd (k + 213) = 2 := kd_all (f := fun k => k + 213) (by decide) (by decide +kernel) h
theorem kd_9_745 {k : Nat} (h : kd k = 9) : kd (k + 745) = 3 := kd_all (f := fun k => k + 745) (by decide) (by decide +kernel) h
theorem wd_X9_init_1 : Cond.methodLink RX9 1 objectInit ∈ wsX9_init := List.mem_of_getElem? (i := 1) (by decide +kernel)
theorem wd_X9_init_2 : Cond.instanceMethod objectInit ∈ wsX9_init := List.mem_of_getElem? (i := 2) (by decide +kernel)
theorem wd_X9_init_3 : Cond.code objectInit ⟨#[0xb1]⟩ 1 none ∈ wsX9_init := List.mem_of_getElem? (i := 3) rfl
theorem wd_X9_init_4 : Cond.classLink RX9 7 RX8 ∈ wsX9_init := List.mem_of_getElem? (i := 4) (by decide +kernel)
theorem wd_X9_init_5 : Cond.instantiable RX8 11 ∈ wsX9_init := List.mem_of_getElem? (i := 5) (by decide +kernel)
theorem wd_X9_init_6 : Cond.initialized RX8 ∈ wsX9_init := List.mem_of_getElem? (i := 6) (by decide +kernel)
theorem wd_X9_init_7 : Cond.fieldLink RX9 10 "TurnstileBank" "now" "LTurnstileBank$State;" ∈ wsX9_init := List.mem_of_getElem? (i := 7) (by decide +kernel)
theorem wd_X9_init_8 : Cond.fieldLink RX9 16 "TurnstileBank" "trial" "LTurnstileBank$State;" ∈ wsX9_init := List.mem_of_getElem? (i := 8) (by decide +kernel)
theorem wd_X9_init_9 : Cond.classLink RX9 19 RX2 ∈ wsX9_init := List.mem_of_getElem? (i := 9) (by decide +kernel)
theorem wd_X9_init_10 : Cond.instantiable RX2 3 ∈ wsX9_init := List.mem_of_getElem? (i := 10) (by decide +kernel)
theorem wd_X9_init_11 : Cond.initialized RX2 ∈ wsX9_init := List.mem_of_getElem? (i := 11) (by decide +kernel)
theorem wd_X9_init_12 : Cond.fieldLink RX9 22 "TurnstileBank" "history" "LTurnstileBank$History;" ∈ wsX9_init := List.mem_of_getElem? (i := 12) (by decide +kernel)
theorem wd_X9_init_13 : Cond.classLink RX9 26 RX3 ∈ wsX9_init := List.mem_of_getElem? (i := 13) (by decide +kernel)
theorem wd_X9_init_14 : Cond.instantiable RX3 7 ∈ wsX9_init := List.mem_of_getElem? (i := 14) (by decide +kernel)
theorem wd_X9_init_15 : Cond.initialized RX3 ∈ wsX9_init := List.mem_of_getElem? (i := 15) (by decide +kernel)
theorem wd_X9_init_16 : Cond.fieldLink RX9 29 "TurnstileBank" "orders" "LTurnstileBank$Orders;" ∈ wsX9_init := List.mem_of_getElem? (i := 16) (by decide +kernel)
theorem wd_X9_init_17 : Cond.methodLink RX9 9 yX8_init ∈ wsX9_init := List.mem_of_getElem? (i := 17) (by decide +kernel)
theorem wd_X9_init_18 : Cond.instanceMethod yX8_init ∈ wsX9_init := List.mem_of_getElem? (i := 18) (by decide +kernel)
theorem wd_X9_init_73 : Cond.methodLink RX9 21 yX2_init ∈ wsX9_init := List.mem_of_getElem? (i := 73) (by decide +kernel)
theorem wd_X9_init_74 : Cond.instanceMethod yX2_init ∈ wsX9_init := List.mem_of_getElem? (i := 74) (by decide +kernel)
theorem wd_X9_init_80 : Cond.instanceMethod yX3_init ∈ wsX9_init := List.mem_of_getElem? (i := 80) (by decide +kernel)
theorem in_X9_init_2 : ∀ w ∈ wsX20, w ∈ wsX9_init := fun w h => List.mem_cons_of_mem _ (List.mem_append_left _ (List.mem_append_left _ (List.mem_append_left _ (List.mem_append_left _ (List.mem_append_left _ (List.mem_append_left _ (List.mem_append_left _ (List.mem_append_right _ h))))))))
theorem in_X9_init_3 : ∀ w ∈ wsX30, w ∈ wsX9_init := fun w h => List.mem_cons_of_mem _ (List.mem_append_left _ (List.mem_append_left _ (List.mem_append_left _ (List.mem_append_left _ (List.mem_append_left _ (List.mem_append_left _ (List.mem_append_right _ h)))))))
theorem in_X9_init_8 : ∀ w ∈ wsX80, w ∈ wsX9_init := fun w h => List.mem_cons_of_mem _ (List.mem_append_left _ (List.mem_append_left _ (List.mem_append_left _ (List.mem_append_left _ (List.mem_append_left _ (List.mem_append_left _ (List.mem_append_left _ (List.mem_append_left _ (List.mem_append_left _ (List.mem_append_right _ h))))))))))
theorem in_X9_init_9 : ∀ w ∈ wsX90, w ∈ wsX9_init := fun w h => List.mem_cons_of_mem _ (List.mem_append_left _ (List.mem_append_left _ (List.mem_append_left _ (List.mem_append_left _ (List.mem_append_left _ (List.mem_append_left _ (List.mem_append_left _ (List.mem_append_left _ (List.mem_append_right _ h)))))))))
abbrev rm_X9_init : Room := { frames := 5, cells := 746, slots := 9088, locals := 94 }
set_option maxHeartbeats 4000000 in
set_option maxRecDepth 100000 in
theorem c_X9_init (l : Launch) (D : va_G) (cA : Nat → ClassId) (o k : Nat) (Eb : Nat → va_E) (hk : kd k = 9) (f0 : Eb k = .inr (9, [.null, .null, .null, .null])) : Met l yX9_init wsX9_init rm_X9_init (va_Pc [.ref (o + k)] (Wm (k + 1) o D (tysL cA) Eb)) (Qm (k + 747) o D (tysL cA) (gl Eb k (E0 cA o))) 746 9088 (fun q => o ≤ q) := by
  refine Met.ofW (cc := cX9_init) (maxL := 1) (ret := none) (by decide) rfl ?_
  intro p e s m args below meth c s₁ B hml hv
  obtain ⟨rfl, hsz, hv, hAO⟩ := hv
  have C : Cx p m meth c s _ cX9_init 1 wsX9_init RX9 none D (tysL cA) := ⟨⟨B.exec, B.bytes, hml, findClass_of_methodNamed B.named, atoms_spec (ws := wsX9_init) B.pre⟩, B.returns, B.notSynchronized, hv.2⟩
  have hin2 : meth.name = "<init>" := (name_of_methodNamed B.named B.method).1
  have hx := C.1.1
  have hb := C.1.2.1
  have hl := lv_entry ([.ref (o + k)]) (n := 1) (Nat.le_of_ble_eq_true rfl)
  rw [lg_entry_eq]
  generalize (lg_sl ([.ref (o + k)]) ++ List.replicate (1 - (lg_sl ([.ref (o + k)])).length) Slot.unset).toArray = ls at hl ⊢
  have hl : lv_has ls 1 [(0, .ref (o + k))] := hl
  obtain ⟨H, hH⟩ : ∃ H, H = s.heap := ⟨_, rfl⟩
  obtain ⟨locs, hlocs⟩ : ∃ locs : List Loc, locs = [] := ⟨_, rfl⟩
  have P : HpM (k + 1) o D Eb s s.heap [] := ⟨hv.1, hsz, va_S.rf⟩
  rw [← hH, ← hlocs] at P ⊢
  obtain ⟨E, hEE⟩ : ∃ E, E = Eb := ⟨_, rfl⟩
  rw [← hEE] at P
  have flo : ∀ q, q < k → E q = Eb q := fun q _ => by rw [hEE]
  have f0 : E k = .inr (9, [.null, .null, .null, .null]) := by rw [hEE]; exact f0
  clear hEE
  refine lv_aload_n hx hb dX9_init_0 rfl (lv_at hl 0 rfl) ?_
  refine W.objInit hx hb C.1.2.2.2.1 (C.1.2.2.2.2 _ wd_X9_init_1) (C.1.2.2.2.2 _ wd_X9_init_2) (C.1.2.2.2.2 _ wd_X9_init_3) rfl (by rw [C.1.2.2.1]; exact hl.1) rfl dX9_init_1 (Nat.le_of_ble_eq_true rfl) (Nat.le_of_ble_eq_true rfl) ?_
  refine lv_aload_n hx hb dX9_init_4 rfl (lv_at hl 0 rfl) ?_
  refine m_new C P (X := RX8) (T := TX8) (nn := 11) (ci := 8) in_X9_init_8 tyX8 tyX8_ok wd_X9_init_4 wd_X9_init_5 wd_X9_init_6 rfl (fs := [.null, .null, .null, .null, .null, .int 0, .int 0, .int 0, .int 0, .int 0, .int 0]) dv_8 (Nat.le_of_ble_eq_true rfl) (Nat.le_of_ble_eq_true rfl) dX9_init_5 (fun H P => ?_)
  obtain ⟨E, P, flo, f0, f1⟩ : ∃ E : Nat → va_E, HpM (k + 2) o D E s H locs ∧ (∀ q, q < k → E q = Eb q) ∧ E k = .inr (9, [.null, .null, .null, .null]) ∧ E (k + 1) = .inr (8, [.null, .null, .null, .null, .null, .int 0, .int 0, .int 0, .int 0, .int 0, .int 0]) := ⟨_, P, fun q h => (upE_n (by omega)).trans (flo q h), (upE_n (by omega)).trans f0, upE_s⟩
  refine lv_dup hx hb dX9_init_8 rfl ?_
  refine m_call (va_runI (As := []) (rest := [.ref (o + (k + 1)), .ref (o + k)]) C.1 (c_X8_init l D cA o (k + 1) E (kd_9_1 hk) f1) (cwI 0 C.1.2.2.2.2 gX9_init_X8_init rfl rfl rfl (C.1.2.2.2.2 _ wd_X9_init_6) (C.1.2.2.2.2 _ wd_X9_init_17) (C.1.2.2.2.2 _ wd_X9_init_18) rfl (by decide +kernel) ⟨Nat.le_of_ble_eq_true rfl, Nat.le_of_ble_eq_true rfl⟩) (m_pre C hAO P [.ref (o + (k + 1))]) rfl rfl hl.1 rfl (lv_room (Nat.le_of_ble_eq_true rfl)) dX9_init_9 ⟨Nat.le_of_ble_eq_true rfl, Nat.le_of_ble_eq_true rfl⟩) P (fun H locs P => ?_)
  obtain ⟨E, P, flo, f0, g1⟩ : ∃ E : Nat → va_E, HpM (k + 107) o D E s H locs ∧ (∀ q, q < k → E q = Eb q) ∧ E k = .inr (9, [.null, .null, .null, .null]) ∧ (∀ q, k + 1 ≤ q → q < k + 107 → E q = E0 cA o q) := ⟨_, P, fun q h => (gl_lo (by omega)).trans (flo q h), (gl_lo (by omega)).trans f0, fun q h1 h2 => gl_hi (by omega)⟩
  refine m_put C P (X := RX9) (T := TX9) (nn := 4) (ci := 9) (j := 0) (k := k) in_X9_init_9 tyX9 tyX9_ok nmX9 rfl wd_X9_init_7 rfl (Or.inr ⟨rfl, hin2, rfl⟩) (by omega) f0 (by decide) (by simp) (ty := .object "TurnstileBank$State") (by decide) rfl rfl dX9_init_12 (fun H locs P => ?_)
  obtain ⟨E, P, flo, f0, g1⟩ : ∃ E : Nat → va_E, HpM (k + 107) o D E s H locs ∧ (∀ q, q < k → E q = Eb q) ∧ E k = .inr (9, [.ref (o + (k + 1)), .null, .null, .null]) ∧ (∀ q, k + 1 ≤ q → q < k + 107 → E q = E0 cA o q) := ⟨_, P, fun q h => (upE_n (by omega)).trans (flo q h), upE_s, fun q h1 h2 => (upE_n (by omega)).trans (g1 q h1 h2)⟩
  refine lv_aload_n hx hb dX9_init_15 rfl (lv_at hl 0 rfl) ?_
  refine m_new C P (X := RX8) (T := TX8) (nn := 11) (ci := 8) in_X9_init_8 tyX8 tyX8_ok wd_X9_init_4 wd_X9_init_5 wd_X9_init_6 rfl (fs := [.null, .null, .null, .null, .null, .int 0, .int 0, .int 0, .int 0, .int 0, .int 0]) dv_8 (Nat.le_of_ble_eq_true rfl) (Nat.le_of_ble_eq_true rfl) dX9_init_16 (fun H P => ?_)
  obtain ⟨E, P, flo, f0, f107, g1⟩ : ∃ E : Nat → va_E, HpM (k + 108) o D E s H locs ∧ (∀ q, q < k → E q = Eb q) ∧ E k = .inr (9, [.ref (o + (k + 1)), .null, .null, .null]) ∧ E (k + 107) = .inr (8, [.null, .null, .null, .null, .null, .int 0, .int 0, .int 0, .int 0, .int 0, .int 0]) ∧ (∀ q, k + 1 ≤ q → q < k + 107 → E q = E0 cA o q) := ⟨_, P, fun q h => (upE_n (by omega)).trans (flo q h), (upE_n (by omega)).trans f0, upE_s, fun q h1 h2 => (upE_n (by omega)).trans (g1 q h1 h2)⟩
  refine lv_dup hx hb dX9_init_19 rfl ?_
  refine m_call (va_runI (As := []) (rest := [.ref (o + (k + 107)), .ref (o + k)]) C.1 (c_X8_init l D cA o (k + 107) E (kd_9_107 hk) f107) (cwI 0 C.1.2.2.2.2 gX9_init_X8_init rfl rfl rfl (C.1.2.2.2.2 _ wd_X9_init_6) (C.1.2.2.2.2 _ wd_X9_init_17) (C.1.2.2.2.2 _ wd_X9_init_18) rfl (by decide +kernel) ⟨Nat.le_of_ble_eq_true rfl, Nat.le_of_ble_eq_true rfl⟩) (m_pre C hAO P [.ref (o + (k + 107))]) rfl rfl hl.1 rfl (lv_room (Nat.le_of_ble_eq_true rfl)) dX9_init_20 ⟨Nat.le_of_ble_eq_true rfl, Nat.le_of_ble_eq_true rfl⟩) P (fun H locs P => ?_)
  obtain ⟨E, P, flo, f0, g1, g107⟩ : ∃ E : Nat → va_E, HpM (k + 213) o D E s H locs ∧ (∀ q, q < k → E q = Eb q) ∧ E k = .inr (9, [.ref (o + (k + 1)), .null, .null, .null]) ∧ (∀ q, k + 1 ≤ q → q < k + 107 → E q = E0 cA o q) ∧ (∀ q, k + 107 ≤ q → q < k + 213 → E q = E0 cA o q) := ⟨_, P, fun q h => (gl_lo (by omega)).trans (flo q h), (gl_lo (by omega)).trans f0, fun q h1 h2 => (gl_lo (by omega)).trans (g1 q h1 h2), fun q h1 h2 => gl_hi (by omega)⟩
  refine m_put C P (X := RX9) (T := TX9) (nn := 4) (ci := 9) (j := 1) (k := k) in_X9_init_9 tyX9 tyX9_ok nmX9 rfl wd_X9_init_8 rfl (Or.inr ⟨rfl, hin2, rfl⟩) (by omega) f0 (by decide) (by simp) (ty := .object "TurnstileBank$State") (by decide) rfl rfl dX9_init_23 (fun H locs P => ?_)
  obtain ⟨E, P, flo, f0, g1, g107⟩ : ∃ E : Nat → va_E, HpM (k + 213) o D E s H locs ∧ (∀ q, q < k → E q = Eb q) ∧ E k = .inr (9, [.ref (o + (k + 1)), .ref (o + (k + 107)), .null, .null]) ∧ (∀ q, k + 1 ≤ q → q < k + 107 → E q = E0 cA o q) ∧ (∀ q, k + 107 ≤ q → q < k + 213 → E q = E0 cA o q) := ⟨_, P, fun q h => (upE_n (by omega)).trans (flo q h), upE_s, fun q h1 h2 => (upE_n (by omega)).trans (g1 q h1 h2), fun q h1 h2 => (upE_n (by omega)).trans (g107 q h1 h2)⟩
  refine lv_aload_n hx hb dX9_init_26 rfl (lv_at hl 0 rfl) ?_
  refine m_new C P (X := RX2) (T := TX2) (nn := 3) (ci := 2) in_X9_init_2 tyX2 tyX2_ok wd_X9_init_9 wd_X9_init_10 wd_X9_init_11 rfl (fs := [.null, .int 0, .int 0]) dv_2 (Nat.le_of_ble_eq_true rfl) (Nat.le_of_ble_eq_true rfl) dX9_init_27 (fun H P => ?_)
  obtain ⟨E, P, flo, f0, f213, g1, g107⟩ : ∃ E : Nat → va_E, HpM (k + 214) o D E s H locs ∧ (∀ q, q < k → E q = Eb q) ∧ E k = .inr (9, [.ref (o + (k + 1)), .ref (o + (k + 107)), .null, .null]) ∧ E (k + 213) = .inr (2, [.null, .int 0, .int 0]) ∧ (∀ q, k + 1 ≤ q → q < k + 107 → E q = E0 cA o q) ∧ (∀ q, k + 107 ≤ q → q < k + 213 → E q = E0 cA o q) := ⟨_, P, fun q h => (upE_n (by omega)).trans (flo q h), (upE_n (by omega)).trans f0, upE_s, fun q h1 h2 => (upE_n (by omega)).trans (g1 q h1 h2), fun q h1 h2 => (upE_n (by omega)).trans (g107 q h1 h2)⟩
  refine lv_dup hx hb dX9_init_30 rfl ?_
  refine m_call (va_runI (As := []) (rest := [.ref (o + (k + 213)), .ref (o + k)]) C.1 (c_X2_init l D cA o (k + 213) E (kd_9_213 hk) f213) (cwI 0 C.1.2.2.2.2 gX9_init_X2_init rfl rfl rfl (C.1.2.2.2.2 _ wd_X9_init_11) (C.1.2.2.2.2 _ wd_X9_init_73) (C.1.2.2.2.2 _ wd_X9_init_74) rfl (by decide +kernel) ⟨Nat.le_of_ble_eq_true rfl, Nat.le_of_ble_eq_true rfl⟩) (m_pre C hAO P [.ref (o + (k + 213))]) rfl rfl hl.1 rfl (lv_room (Nat.le_of_ble_eq_true rfl)) dX9_init_31 ⟨Nat.le_of_ble_eq_true rfl, Nat.le_of_ble_eq_true rfl⟩) P (fun H locs P => ?_)
  obtain ⟨E, P, flo, f0, g1, g107, g213⟩ : ∃ E : Nat → va_E, HpM (k + 745) o D E s H locs ∧ (∀ q, q < k → E q = Eb q) ∧ E k = .inr (9, [.ref (o + (k + 1)), .ref (o + (k + 107)), .null, .null]) ∧ (∀ q, k + 1 ≤ q → q < k + 107 → E q = E0 cA o q) ∧ (∀ q, k + 107 ≤ q → q < k + 213 → E q = E0 cA o q) ∧ (∀ q, k + 213 ≤ q → q < k + 745 → E q = E0 cA o q) := ⟨_, P, fun q h => (gl_lo (by omega)).trans (flo q h), (gl_lo (by omega)).trans f0, fun q h1 h2 => (gl_lo (by omega)).trans (g1 q h1 h2), fun q h1 h2 => (gl_lo (by omega)).trans (g107 q h1 h2), fun q h1 h2 => gl_hi (by omega)⟩
  refine m_put C P (X := RX9) (T := TX9) (nn := 4) (ci := 9) (j := 2) (k := k) in_X9_init_9 tyX9 tyX9_ok nmX9 rfl wd_X9_init_12 rfl (Or.inr ⟨rfl, hin2, rfl⟩) (by omega) f0 (by decide) (by simp) (ty := .object "TurnstileBank$History") (by decide) rfl rfl dX9_init_34 (fun H locs P => ?_)
  obtain ⟨E, P, flo, f0, g1, g107, g213⟩ : ∃ E : Nat → va_E, HpM (k + 745) o D E s H locs ∧ (∀ q, q < k → E q = Eb q) ∧ E k = .inr (9, [.ref (o + (k + 1)), .ref (o + (k + 107)), .ref (o + (k + 213)), .null]) ∧ (∀ q, k + 1 ≤ q → q < k + 107 → E q = E0 cA o q) ∧ (∀ q, k + 107 ≤ q → q < k + 213 → E q = E0 cA o q) ∧ (∀ q, k + 213 ≤ q → q < k + 745 → E q = E0 cA o q) := ⟨_, P, fun q h => (upE_n (by omega)).trans (flo q h), upE_s, fun q h1 h2 => (upE_n (by omega)).trans (g1 q h1 h2), fun q h1 h2 => (upE_n (by omega)).trans (g107 q h1 h2), fun q h1 h2 => (upE_n (by omega)).trans (g213 q h1 h2)⟩
  refine lv_aload_n hx hb dX9_init_37 rfl (lv_at hl 0 rfl) ?_
  refine m_new C P (X := RX3) (T := TX3) (nn := 7) (ci := 3) in_X9_init_3 tyX3 tyX3_ok wd_X9_init_13 wd_X9_init_14 wd_X9_init_15 rfl (fs := [.null, .int 0, .int 0, .int 0, .int 0, .int 0, .int 0]) dv_3 (Nat.le_of_ble_eq_true rfl) (Nat.le_of_ble_eq_true rfl) dX9_init_38 (fun H P => ?_)
  obtain ⟨E, P, flo, f0, f745, g1, g107, g213⟩ : ∃ E : Nat → va_E, HpM (k + 746) o D E s H locs ∧ (∀ q, q < k → E q = Eb q) ∧ E k = .inr (9, [.ref (o + (k + 1)), .ref (o + (k + 107)), .ref (o + (k + 213)), .null]) ∧ E (k + 745) = .inr (3, [.null, .int 0, .int 0, .int 0, .int 0, .int 0, .int 0]) ∧ (∀ q, k + 1 ≤ q → q < k + 107 → E q = E0 cA o q) ∧ (∀ q, k + 107 ≤ q → q < k + 213 → E q = E0 cA o q) ∧ (∀ q, k + 213 ≤ q → q < k + 745 → E q = E0 cA o q) := ⟨_, P, fun q h => (upE_n (by omega)).trans (flo q h), (upE_n (by omega)).trans f0, upE_s, fun q h1 h2 => (upE_n (by omega)).trans (g1 q h1 h2), fun q h1 h2 => (upE_n (by omega)).trans (g107 q h1 h2), fun q h1 h2 => (upE_n (by omega)).trans (g213 q h1 h2)⟩
  refine lv_dup hx hb dX9_init_41 rfl ?_
  refine m_call (va_runIN (As := []) (rest := [.ref (o + (k + 745)), .ref (o + k)]) C.1 (c_X3_init l D cA o (k + 745) E (kd_9_745 hk) f745) ⟨va_cnB 0 C.1.2.2.2.2 gX9_init_X3_init_n28 rfl rfl rfl (C.2.2.2.2 7 _ rfl) (C.1.2.2.2.2 _ wd_X9_init_15) (by decide +kernel) ⟨Nat.le_of_ble_eq_true rfl, Nat.le_of_ble_eq_true rfl⟩, rfl, C.1.2.2.2.2 _ wd_X9_init_80⟩ (m_pre C hAO P [.ref (o + (k + 745))]) rfl rfl hl.1 rfl (lv_room (Nat.le_of_ble_eq_true rfl)) dX9_init_42 ⟨Nat.le_of_ble_eq_true rfl, Nat.le_of_ble_eq_true rfl⟩) P (fun H locs P => ?_)
  obtain ⟨E, P, flo, f0, g1, g107, g213, g745⟩ : ∃ E : Nat → va_E, HpM (k + 747) o D E s H locs ∧ (∀ q, q < k → E q = Eb q) ∧ E k = .inr (9, [.ref (o + (k + 1)), .ref (o + (k + 107)), .ref (o + (k + 213)), .null]) ∧ (∀ q, k + 1 ≤ q → q < k + 107 → E q = E0 cA o q) ∧ (∀ q, k + 107 ≤ q → q < k + 213 → E q = E0 cA o q) ∧ (∀ q, k + 213 ≤ q → q < k + 745 → E q = E0 cA o q) ∧ (∀ q, k + 745 ≤ q → q < k + 747 → E q = E0 cA o q) := ⟨_, P, fun q h => (gl_lo (by omega)).trans (flo q h), (gl_lo (by omega)).trans f0, fun q h1 h2 => (gl_lo (by omega)).trans (g1 q h1 h2), fun q h1 h2 => (gl_lo (by omega)).trans (g107 q h1 h2), fun q h1 h2 => (gl_lo (by omega)).trans (g213 q h1 h2), fun q h1 h2 => gl_hi (by omega)⟩
  refine m_put C P (X := RX9) (T := TX9) (nn := 4) (ci := 9) (j := 3) (k := k) in_X9_init_9 tyX9 tyX9_ok nmX9 rfl wd_X9_init_16 rfl (Or.inr ⟨rfl, hin2, rfl⟩) (by omega) f0 (by decide) (by simp) (ty := .object "TurnstileBank$Orders") (by decide) rfl rfl dX9_init_45 (fun H locs P => ?_)
  obtain ⟨E, P, flo, f0, g1, g107, g213, g745⟩ : ∃ E : Nat → va_E, HpM (k + 747) o D E s H locs ∧ (∀ q, q < k → E q = Eb q) ∧ E k = .inr (9, [.ref (o + (k + 1)), .ref (o + (k + 107)), .ref (o + (k + 213)), .ref (o + (k + 745))]) ∧ (∀ q, k + 1 ≤ q → q < k + 107 → E q = E0 cA o q) ∧ (∀ q, k + 107 ≤ q → q < k + 213 → E q = E0 cA o q) ∧ (∀ q, k + 213 ≤ q → q < k + 745 → E q = E0 cA o q) ∧ (∀ q, k + 745 ≤ q → q < k + 747 → E q = E0 cA o q) := ⟨_, P, fun q h => (upE_n (by omega)).trans (flo q h), upE_s, fun q h1 h2 => (upE_n (by omega)).trans (g1 q h1 h2), fun q h1 h2 => (upE_n (by omega)).trans (g107 q h1 h2), fun q h1 h2 => (upE_n (by omega)).trans (g213 q h1 h2), fun q h1 h2 => (upE_n (by omega)).trans (g745 q h1 h2)⟩
  refine m_ret C P (fun q hq => enq_of ?_) dX9_init_48
  by_cases hqk : q < k
  · rw [gl_lo hqk]; exact flo q hqk
  · rw [gl_hi (by omega)]
    by_cases h0 : q = k
    · subst h0
      rw [f0, E0, EK_9 hk]
      have := kd_9_eq hk
      subst this
      simp
    by_cases h1 : k + 1 ≤ q ∧ q < k + 107
    · exact g1 q h1.1 h1.2
    by_cases h107 : k + 107 ≤ q ∧ q < k + 213
    · exact g107 q h107.1 h107.2
    by_cases h213 : k + 213 ≤ q ∧ q < k + 745
    · exact g213 q h213.1 h213.2
    by_cases h745 : k + 745 ≤ q ∧ q < k + 747
    · exact g745 q h745.1 h745.2
    · omega
