theorem dv_0 : ∀ j, j < 6 → defaultValue (tyX0 j) = vp_V [.null, .null, .null, .null, .int 0, .int 0] j := by
  intro j hj
  rcases (show j = 0 ∨ j = 1 ∨ j = 2 ∨ j = 3 ∨ j = 4 ∨ j = 5 by omega) with rfl | rfl | rfl | rfl | rfl | rfl <;> rfl
theorem dv_1 : ∀ j, j < 15 → defaultValue (tyX1 j) = vp_V [.null, .null, .int 0, .int 0, .int 0, .int 0, .int 0, .int 0, .int 0, .int 0, .int 0, .int 0, .int 0, .int 0, .int 0] j := by
  intro j hj
  rcases (show j = 0 ∨ j = 1 ∨ j = 2 ∨ j = 3 ∨ j = 4 ∨ j = 5 ∨ j = 6 ∨ j = 7 ∨ j = 8 ∨ j = 9 ∨ j = 10 ∨ j = 11 ∨ j = 12 ∨ j = 13 ∨ j = 14 by omega) with rfl | rfl | rfl | rfl | rfl | rfl | rfl | rfl | rfl | rfl | rfl | rfl | rfl | rfl | rfl <;> rfl
theorem dv_2 : ∀ j, j < 3 → defaultValue (tyX2 j) = vp_V [.null, .int 0, .int 0] j := by
  intro j hj
  rcases (show j = 0 ∨ j = 1 ∨ j = 2 by omega) with rfl | rfl | rfl <;> rfl
theorem dv_3 : ∀ j, j < 7 → defaultValue (tyX3 j) = vp_V [.null, .int 0, .int 0, .int 0, .int 0, .int 0, .int 0] j := by
  intro j hj
  rcases (show j = 0 ∨ j = 1 ∨ j = 2 ∨ j = 3 ∨ j = 4 ∨ j = 5 ∨ j = 6 by omega) with rfl | rfl | rfl | rfl | rfl | rfl | rfl <;> rfl
theorem dv_4 : ∀ j, j < 3 → defaultValue (tyX4 j) = vp_V [.int 0, .int 0, .int 0] j := by
  intro j hj
  rcases (show j = 0 ∨ j = 1 ∨ j = 2 by omega) with rfl | rfl | rfl <;> rfl
theorem dv_5 : ∀ j, j < 7 → defaultValue (tyX5 j) = vp_V [.int 0, .int 0, .int 0, .int 0, .int 0, .int 0, .int 0] j := by
  intro j hj
  rcases (show j = 0 ∨ j = 1 ∨ j = 2 ∨ j = 3 ∨ j = 4 ∨ j = 5 ∨ j = 6 by omega) with rfl | rfl | rfl | rfl | rfl | rfl | rfl <;> rfl
theorem dv_6 : ∀ j, j < 5 → defaultValue (tyX6 j) = vp_V [.int 0, .int 0, .int 0, .int 0, .int 0] j := by
  intro j hj
  rcases (show j = 0 ∨ j = 1 ∨ j = 2 ∨ j = 3 ∨ j = 4 by omega) with rfl | rfl | rfl | rfl | rfl <;> rfl
theorem dv_7 : ∀ j, j < 2 → defaultValue (tyX7 j) = vp_V [.null, .int 0] j := by
  intro j hj
  rcases (show j = 0 ∨ j = 1 by omega) with rfl | rfl <;> rfl
theorem dv_8 : ∀ j, j < 11 → defaultValue (tyX8 j) = vp_V [.null, .null, .null, .null, .null, .int 0, .int 0, .int 0, .int 0, .int 0, .int 0] j := by
  intro j hj
  rcases (show j = 0 ∨ j = 1 ∨ j = 2 ∨ j = 3 ∨ j = 4 ∨ j = 5 ∨ j = 6 ∨ j = 7 ∨ j = 8 ∨ j = 9 ∨ j = 10 by omega) with rfl | rfl | rfl | rfl | rfl | rfl | rfl | rfl | rfl | rfl | rfl <;> rfl
theorem dv_9 : ∀ j, j < 4 → defaultValue (tyX9 j) = vp_V [.null, .null, .null, .null] j := by
  intro j hj
  rcases (show j = 0 ∨ j = 1 ∨ j = 2 ∨ j = 3 by omega) with rfl | rfl | rfl | rfl <;> rfl
theorem mu0_0 {q : Nat} (h : kd q = 0) : mu0 q = fun _ => 0 := by funext j; simp [mu0, h]
theorem mu0_2 {q : Nat} (h : kd q = 2) : mu0 q = fun _ => 0 := by funext j; simp [mu0, h]
theorem mu0_3 {q : Nat} (h : kd q = 3) : mu0 q = fun _ => 0 := by funext j; simp [mu0, h]
theorem mu0_5 {q : Nat} (h : kd q = 5) : mu0 q = fun _ => 0 := by funext j; simp [mu0, h]
theorem mu0_6 {q : Nat} (h : kd q = 6) : mu0 q = fun _ => 0 := by funext j; simp [mu0, h]
theorem mu0_7 {q : Nat} (h : kd q = 7) : mu0 q = fun _ => 0 := by funext j; simp [mu0, h]
theorem mu0_9 {q : Nat} (h : kd q = 9) : mu0 q = fun _ => 0 := by funext j; simp [mu0, h]
theorem mu0_20 {q : Nat} (h : kd q = 20) : mu0 q = fun _ => 0 := by funext j; simp [mu0, h]
theorem mu0_21 {q : Nat} (h : kd q = 21) : mu0 q = fun _ => 0 := by funext j; simp [mu0, h]
theorem mu0_22 {q : Nat} (h : kd q = 22) : mu0 q = fun _ => 0 := by funext j; simp [mu0, h]
theorem wd_X0_init_1 : Cond.methodLink RX0 3 objectInit ∈ wsX0_init := List.mem_of_getElem? (i := 1) (by decide +kernel)
theorem wd_X0_init_2 : Cond.instanceMethod objectInit ∈ wsX0_init := List.mem_of_getElem? (i := 2) (by decide +kernel)
theorem wd_X0_init_3 : Cond.code objectInit ⟨#[0xb1]⟩ 1 none ∈ wsX0_init := List.mem_of_getElem? (i := 3) rfl
theorem wd_X0_init_4 : Cond.arrayClass .int ∈ wsX0_init := List.mem_of_getElem? (i := 4) (by decide +kernel)
theorem wd_X0_init_5 : Cond.fieldLink RX0 9 "TurnstileBank$Events" "ticks" "[I" ∈ wsX0_init := List.mem_of_getElem? (i := 5) (by decide +kernel)
theorem wd_X0_init_6 : Cond.fieldLink RX0 15 "TurnstileBank$Events" "gates" "[I" ∈ wsX0_init := List.mem_of_getElem? (i := 6) (by decide +kernel)
theorem wd_X0_init_7 : Cond.fieldLink RX0 18 "TurnstileBank$Events" "people" "[I" ∈ wsX0_init := List.mem_of_getElem? (i := 7) (by decide +kernel)
theorem wd_X0_init_8 : Cond.fieldLink RX0 21 "TurnstileBank$Events" "kinds" "[I" ∈ wsX0_init := List.mem_of_getElem? (i := 8) (by decide +kernel)
theorem in_X0_init_0 : ∀ w ∈ wsX00, w ∈ wsX0_init := fun w h => List.mem_cons_of_mem _ (List.mem_append_right _ h)
abbrev rm_X0_init : Room := { frames := 1, cells := 4, slots := 80, locals := 12 }
set_option maxHeartbeats 4000000 in
set_option maxRecDepth 100000 in
theorem c_X0_init (l : Launch) (D : va_G) (cA : Nat → ClassId) (o k : Nat) (Eb : Nat → va_E) (hk : kd k = 0) (f0 : Eb k = .inr (0, [.null, .null, .null, .null, .int 0, .int 0])) : Met l yX0_init wsX0_init rm_X0_init (va_Pc [.ref (o + k)] (Wm (k + 1) o D (tysL cA) Eb)) (Qm (k + 5) o D (tysL cA) (gl Eb k (E0 cA o))) 4 80 (fun q => o ≤ q) := by
  refine Met.ofW (cc := cX0_init) (maxL := 1) (ret := none) (by decide) rfl ?_
  intro p e s m args below meth c s₁ B hml hv
  obtain ⟨rfl, hsz, hv, hAO⟩ := hv
  have C : Cx p m meth c s _ cX0_init 1 wsX0_init RX0 none D (tysL cA) := ⟨⟨B.exec, B.bytes, hml, findClass_of_methodNamed B.named, atoms_spec (ws := wsX0_init) B.pre⟩, B.returns, B.notSynchronized, hv.2⟩
  have hin2 : meth.name = "<init>" := (name_of_methodNamed B.named B.method).1
  have hx := C.1.1
  have hb := C.1.2.1
  have hl := lv_entry ([.ref (o + k)]) (n := 1) (Nat.le_of_ble_eq_true rfl)
  rw [lg_entry_eq]
  generalize (lg_sl ([.ref (o + k)]) ++ List.replicate (1 - (lg_sl ([.ref (o + k)])).length) Slot.unset).toArray = ls at hl ⊢
  have hl : lv_has ls 1 [(0, .ref (o + k))] := hl
  obtain ⟨H, hH⟩ : ∃ H, H = s.heap := ⟨_, rfl⟩
  obtain ⟨locs, hlocs⟩ : ∃ locs : List Loc, locs = [] := ⟨_, rfl⟩
  have P : HpM (k + 1) o D Eb s s.heap [] := ⟨hv.1, hsz, va_S.rf⟩
  rw [← hH, ← hlocs] at P ⊢
  obtain ⟨E, hEE⟩ : ∃ E, E = Eb := ⟨_, rfl⟩
  rw [← hEE] at P
  have flo : ∀ q, q < k → E q = Eb q := fun q _ => by rw [hEE]
  have f0 : E k = .inr (0, [.null, .null, .null, .null, .int 0, .int 0]) := by rw [hEE]; exact f0
  clear hEE
  refine lv_aload_n hx hb dX0_init_0 rfl (lv_at hl 0 rfl) ?_
  refine W.objInit hx hb C.1.2.2.2.1 (C.1.2.2.2.2 _ wd_X0_init_1) (C.1.2.2.2.2 _ wd_X0_init_2) (C.1.2.2.2.2 _ wd_X0_init_3) rfl (by rw [C.1.2.2.1]; exact hl.1) rfl dX0_init_1 (Nat.le_of_ble_eq_true rfl) (Nat.le_of_ble_eq_true rfl) ?_
  refine lv_aload_n hx hb dX0_init_4 rfl (lv_at hl 0 rfl) ?_
  refine lv_bipush (v := 20) hx hb dX0_init_5 (by decide) ?_
  refine m_newa C P (atype := .int) 0 (cB := cA 0) (ty := .int) rfl rfl (fun h => h) wd_X0_init_4 (i := 20) (N' := 20) (a0 := (20, .inl (fun _ => 0))) (fun _ => rfl) (by decide) (by decide) (by decide) (Nat.le_of_ble_eq_true rfl) (Nat.le_of_ble_eq_true rfl) dX0_init_7 (fun H P => ?_)
  obtain ⟨E, P, flo, f0, f1⟩ : ∃ E : Nat → va_E, HpM (k + 2) o D E s H locs ∧ (∀ q, q < k → E q = Eb q) ∧ E k = .inr (0, [.null, .null, .null, .null, .int 0, .int 0]) ∧ E (k + 1) = .inl (cA 0, 20, .inl (fun _ => 0)) := ⟨_, P, fun q h => (upE_n (by omega)).trans (flo q h), (upE_n (by omega)).trans f0, upE_s⟩
  refine m_put C P (X := RX0) (T := TX0) (nn := 6) (ci := 0) (j := 0) (k := k) in_X0_init_0 tyX0 tyX0_ok nmX0 rfl wd_X0_init_5 rfl (Or.inr ⟨rfl, hin2, rfl⟩) (by omega) f0 (by decide) (by simp) (ty := .array .int) (by decide) rfl rfl dX0_init_9 (fun H locs P => ?_)
  obtain ⟨E, P, flo, f0, f1⟩ : ∃ E : Nat → va_E, HpM (k + 2) o D E s H locs ∧ (∀ q, q < k → E q = Eb q) ∧ E k = .inr (0, [.ref (o + (k + 1)), .null, .null, .null, .int 0, .int 0]) ∧ E (k + 1) = .inl (cA 0, 20, .inl (fun _ => 0)) := ⟨_, P, fun q h => (upE_n (by omega)).trans (flo q h), upE_s, (upE_n (by omega)).trans f1⟩
  refine lv_aload_n hx hb dX0_init_12 rfl (lv_at hl 0 rfl) ?_
  refine lv_bipush (v := 20) hx hb dX0_init_13 (by decide) ?_
  refine m_newa C P (atype := .int) 0 (cB := cA 0) (ty := .int) rfl rfl (fun h => h) wd_X0_init_4 (i := 20) (N' := 20) (a0 := (20, .inl (fun _ => 0))) (fun _ => rfl) (by decide) (by decide) (by decide) (Nat.le_of_ble_eq_true rfl) (Nat.le_of_ble_eq_true rfl) dX0_init_15 (fun H P => ?_)
  obtain ⟨E, P, flo, f0, f1, f2⟩ : ∃ E : Nat → va_E, HpM (k + 3) o D E s H locs ∧ (∀ q, q < k → E q = Eb q) ∧ E k = .inr (0, [.ref (o + (k + 1)), .null, .null, .null, .int 0, .int 0]) ∧ E (k + 1) = .inl (cA 0, 20, .inl (fun _ => 0)) ∧ E (k + 2) = .inl (cA 0, 20, .inl (fun _ => 0)) := ⟨_, P, fun q h => (upE_n (by omega)).trans (flo q h), (upE_n (by omega)).trans f0, (upE_n (by omega)).trans f1, upE_s⟩
  refine m_put C P (X := RX0) (T := TX0) (nn := 6) (ci := 0) (j := 1) (k := k) in_X0_init_0 tyX0 tyX0_ok nmX0 rfl wd_X0_init_6 rfl (Or.inr ⟨rfl, hin2, rfl⟩) (by omega) f0 (by decide) (by simp) (ty := .array .int) (by decide) rfl rfl dX0_init_17 (fun H locs P => ?_)
  obtain ⟨E, P, flo, f0, f1, f2⟩ : ∃ E : Nat → va_E, HpM (k + 3) o D E s H locs ∧ (∀ q, q < k → E q = Eb q) ∧ E k = .inr (0, [.ref (o + (k + 1)), .ref (o + (k + 2)), .null, .null, .int 0, .int 0]) ∧ E (k + 1) = .inl (cA 0, 20, .inl (fun _ => 0)) ∧ E (k + 2) = .inl (cA 0, 20, .inl (fun _ => 0)) := ⟨_, P, fun q h => (upE_n (by omega)).trans (flo q h), upE_s, (upE_n (by omega)).trans f1, (upE_n (by omega)).trans f2⟩
  refine lv_aload_n hx hb dX0_init_20 rfl (lv_at hl 0 rfl) ?_
  refine lv_bipush (v := 20) hx hb dX0_init_21 (by decide) ?_
  refine m_newa C P (atype := .int) 0 (cB := cA 0) (ty := .int) rfl rfl (fun h => h) wd_X0_init_4 (i := 20) (N' := 20) (a0 := (20, .inl (fun _ => 0))) (fun _ => rfl) (by decide) (by decide) (by decide) (Nat.le_of_ble_eq_true rfl) (Nat.le_of_ble_eq_true rfl) dX0_init_23 (fun H P => ?_)
  obtain ⟨E, P, flo, f0, f1, f2, f3⟩ : ∃ E : Nat → va_E, HpM (k + 4) o D E s H locs ∧ (∀ q, q < k → E q = Eb q) ∧ E k = .inr (0, [.ref (o + (k + 1)), .ref (o + (k + 2)), .null, .null, .int 0, .int 0]) ∧ E (k + 1) = .inl (cA 0, 20, .inl (fun _ => 0)) ∧ E (k + 2) = .inl (cA 0, 20, .inl (fun _ => 0)) ∧ E (k + 3) = .inl (cA 0, 20, .inl (fun _ => 0)) := ⟨_, P, fun q h => (upE_n (by omega)).trans (flo q h), (upE_n (by omega)).trans f0, (upE_n (by omega)).trans f1, (upE_n (by omega)).trans f2, upE_s⟩
  refine m_put C P (X := RX0) (T := TX0) (nn := 6) (ci := 0) (j := 2) (k := k) in_X0_init_0 tyX0 tyX0_ok nmX0 rfl wd_X0_init_7 rfl (Or.inr ⟨rfl, hin2, rfl⟩) (by omega) f0 (by decide) (by simp) (ty := .array .int) (by decide) rfl rfl dX0_init_25 (fun H locs P => ?_)
  obtain ⟨E, P, flo, f0, f1, f2, f3⟩ : ∃ E : Nat → va_E, HpM (k + 4) o D E s H locs ∧ (∀ q, q < k → E q = Eb q) ∧ E k = .inr (0, [.ref (o + (k + 1)), .ref (o + (k + 2)), .ref (o + (k + 3)), .null, .int 0, .int 0]) ∧ E (k + 1) = .inl (cA 0, 20, .inl (fun _ => 0)) ∧ E (k + 2) = .inl (cA 0, 20, .inl (fun _ => 0)) ∧ E (k + 3) = .inl (cA 0, 20, .inl (fun _ => 0)) := ⟨_, P, fun q h => (upE_n (by omega)).trans (flo q h), upE_s, (upE_n (by omega)).trans f1, (upE_n (by omega)).trans f2, (upE_n (by omega)).trans f3⟩
  refine lv_aload_n hx hb dX0_init_28 rfl (lv_at hl 0 rfl) ?_
  refine lv_bipush (v := 20) hx hb dX0_init_29 (by decide) ?_
  refine m_newa C P (atype := .int) 0 (cB := cA 0) (ty := .int) rfl rfl (fun h => h) wd_X0_init_4 (i := 20) (N' := 20) (a0 := (20, .inl (fun _ => 0))) (fun _ => rfl) (by decide) (by decide) (by decide) (Nat.le_of_ble_eq_true rfl) (Nat.le_of_ble_eq_true rfl) dX0_init_31 (fun H P => ?_)
  obtain ⟨E, P, flo, f0, f1, f2, f3, f4⟩ : ∃ E : Nat → va_E, HpM (k + 5) o D E s H locs ∧ (∀ q, q < k → E q = Eb q) ∧ E k = .inr (0, [.ref (o + (k + 1)), .ref (o + (k + 2)), .ref (o + (k + 3)), .null, .int 0, .int 0]) ∧ E (k + 1) = .inl (cA 0, 20, .inl (fun _ => 0)) ∧ E (k + 2) = .inl (cA 0, 20, .inl (fun _ => 0)) ∧ E (k + 3) = .inl (cA 0, 20, .inl (fun _ => 0)) ∧ E (k + 4) = .inl (cA 0, 20, .inl (fun _ => 0)) := ⟨_, P, fun q h => (upE_n (by omega)).trans (flo q h), (upE_n (by omega)).trans f0, (upE_n (by omega)).trans f1, (upE_n (by omega)).trans f2, (upE_n (by omega)).trans f3, upE_s⟩
  refine m_put C P (X := RX0) (T := TX0) (nn := 6) (ci := 0) (j := 3) (k := k) in_X0_init_0 tyX0 tyX0_ok nmX0 rfl wd_X0_init_8 rfl (Or.inr ⟨rfl, hin2, rfl⟩) (by omega) f0 (by decide) (by simp) (ty := .array .int) (by decide) rfl rfl dX0_init_33 (fun H locs P => ?_)
  obtain ⟨E, P, flo, f0, f1, f2, f3, f4⟩ : ∃ E : Nat → va_E, HpM (k + 5) o D E s H locs ∧ (∀ q, q < k → E q = Eb q) ∧ E k = .inr (0, [.ref (o + (k + 1)), .ref (o + (k + 2)), .ref (o + (k + 3)), .ref (o + (k + 4)), .int 0, .int 0]) ∧ E (k + 1) = .inl (cA 0, 20, .inl (fun _ => 0)) ∧ E (k + 2) = .inl (cA 0, 20, .inl (fun _ => 0)) ∧ E (k + 3) = .inl (cA 0, 20, .inl (fun _ => 0)) ∧ E (k + 4) = .inl (cA 0, 20, .inl (fun _ => 0)) := ⟨_, P, fun q h => (upE_n (by omega)).trans (flo q h), upE_s, (upE_n (by omega)).trans f1, (upE_n (by omega)).trans f2, (upE_n (by omega)).trans f3, (upE_n (by omega)).trans f4⟩
  refine m_ret C P (fun q hq => enq_of ?_) dX0_init_36
  by_cases hqk : q < k
  · rw [gl_lo hqk]; exact flo q hqk
  · rw [gl_hi (by omega)]
    by_cases h0 : q = k
    · subst h0
      rw [f0, E0, EK_0 hk]
      simp [mu0, hk]
    by_cases h1 : q = (k + 1)
    · subst h1
      rw [f1, E0, EK_21 (kd_0_1 hk), mu0_21 (kd_0_1 hk)]
    by_cases h2 : q = (k + 2)
    · subst h2
      rw [f2, E0, EK_21 (kd_0_2 hk), mu0_21 (kd_0_2 hk)]
    by_cases h3 : q = (k + 3)
    · subst h3
      rw [f3, E0, EK_21 (kd_0_3 hk), mu0_21 (kd_0_3 hk)]
    by_cases h4 : q = (k + 4)
    · subst h4
      rw [f4, E0, EK_21 (kd_0_4 hk), mu0_21 (kd_0_4 hk)]
    · omega
theorem wd_X7_init_1 : Cond.methodLink RX7 3 objectInit ∈ wsX7_init := List.mem_of_getElem? (i := 1) (by decide +kernel)
theorem wd_X7_init_2 : Cond.instanceMethod objectInit ∈ wsX7_init := List.mem_of_getElem? (i := 2) (by decide +kernel)
theorem wd_X7_init_3 : Cond.code objectInit ⟨#[0xb1]⟩ 1 none ∈ wsX7_init := List.mem_of_getElem? (i := 3) rfl
theorem wd_X7_init_4 : Cond.arrayClass .int ∈ wsX7_init := List.mem_of_getElem? (i := 4) (by decide +kernel)
theorem wd_X7_init_5 : Cond.fieldLink RX7 9 "TurnstileBank$Queue" "people" "[I" ∈ wsX7_init := List.mem_of_getElem? (i := 5) (by decide +kernel)
theorem in_X7_init_7 : ∀ w ∈ wsX70, w ∈ wsX7_init := fun w h => List.mem_cons_of_mem _ (List.mem_append_right _ h)
abbrev rm_X7_init : Room := { frames := 1, cells := 1, slots := 40, locals := 12 }
set_option maxHeartbeats 4000000 in
set_option maxRecDepth 100000 in
theorem c_X7_init (l : Launch) (D : va_G) (cA : Nat → ClassId) (o k : Nat) (Eb : Nat → va_E) (hk : kd k = 7) (f0 : Eb k = .inr (7, [.null, .int 0])) : Met l yX7_init wsX7_init rm_X7_init (va_Pc [.ref (o + k)] (Wm (k + 1) o D (tysL cA) Eb)) (Qm (k + 2) o D (tysL cA) (gl Eb k (E0 cA o))) 1 40 (fun q => o ≤ q) := by
  refine Met.ofW (cc := cX7_init) (maxL := 1) (ret := none) (by decide) rfl ?_
  intro p e s m args below meth c s₁ B hml hv
  obtain ⟨rfl, hsz, hv, hAO⟩ := hv
  have C : Cx p m meth c s _ cX7_init 1 wsX7_init RX7 none D (tysL cA) := ⟨⟨B.exec, B.bytes, hml, findClass_of_methodNamed B.named, atoms_spec (ws := wsX7_init) B.pre⟩, B.returns, B.notSynchronized, hv.2⟩
  have hin2 : meth.name = "<init>" := (name_of_methodNamed B.named B.method).1
  have hx := C.1.1
  have hb := C.1.2.1
  have hl := lv_entry ([.ref (o + k)]) (n := 1) (Nat.le_of_ble_eq_true rfl)
  rw [lg_entry_eq]
  generalize (lg_sl ([.ref (o + k)]) ++ List.replicate (1 - (lg_sl ([.ref (o + k)])).length) Slot.unset).toArray = ls at hl ⊢
  have hl : lv_has ls 1 [(0, .ref (o + k))] := hl
  obtain ⟨H, hH⟩ : ∃ H, H = s.heap := ⟨_, rfl⟩
  obtain ⟨locs, hlocs⟩ : ∃ locs : List Loc, locs = [] := ⟨_, rfl⟩
  have P : HpM (k + 1) o D Eb s s.heap [] := ⟨hv.1, hsz, va_S.rf⟩
  rw [← hH, ← hlocs] at P ⊢
  obtain ⟨E, hEE⟩ : ∃ E, E = Eb := ⟨_, rfl⟩
  rw [← hEE] at P
  have flo : ∀ q, q < k → E q = Eb q := fun q _ => by rw [hEE]
  have f0 : E k = .inr (7, [.null, .int 0]) := by rw [hEE]; exact f0
  clear hEE
  refine lv_aload_n hx hb dX7_init_0 rfl (lv_at hl 0 rfl) ?_
  refine W.objInit hx hb C.1.2.2.2.1 (C.1.2.2.2.2 _ wd_X7_init_1) (C.1.2.2.2.2 _ wd_X7_init_2) (C.1.2.2.2.2 _ wd_X7_init_3) rfl (by rw [C.1.2.2.1]; exact hl.1) rfl dX7_init_1 (Nat.le_of_ble_eq_true rfl) (Nat.le_of_ble_eq_true rfl) ?_
  refine lv_aload_n hx hb dX7_init_4 rfl (lv_at hl 0 rfl) ?_
  refine lv_bipush (v := 40) hx hb dX7_init_5 (by decide) ?_
  refine m_newa C P (atype := .int) 0 (cB := cA 0) (ty := .int) rfl rfl (fun h => h) wd_X7_init_4 (i := 40) (N' := 40) (a0 := (40, .inl (fun _ => 0))) (fun _ => rfl) (by decide) (by decide) (by decide) (Nat.le_of_ble_eq_true rfl) (Nat.le_of_ble_eq_true rfl) dX7_init_7 (fun H P => ?_)
  obtain ⟨E, P, flo, f0, f1⟩ : ∃ E : Nat → va_E, HpM (k + 2) o D E s H locs ∧ (∀ q, q < k → E q = Eb q) ∧ E k = .inr (7, [.null, .int 0]) ∧ E (k + 1) = .inl (cA 0, 40, .inl (fun _ => 0)) := ⟨_, P, fun q h => (upE_n (by omega)).trans (flo q h), (upE_n (by omega)).trans f0, upE_s⟩
  refine m_put C P (X := RX7) (T := TX7) (nn := 2) (ci := 7) (j := 0) (k := k) in_X7_init_7 tyX7 tyX7_ok nmX7 rfl wd_X7_init_5 rfl (Or.inr ⟨rfl, hin2, rfl⟩) (by omega) f0 (by decide) (by simp) (ty := .array .int) (by decide) rfl rfl dX7_init_9 (fun H locs P => ?_)
  obtain ⟨E, P, flo, f0, f1⟩ : ∃ E : Nat → va_E, HpM (k + 2) o D E s H locs ∧ (∀ q, q < k → E q = Eb q) ∧ E k = .inr (7, [.ref (o + (k + 1)), .int 0]) ∧ E (k + 1) = .inl (cA 0, 40, .inl (fun _ => 0)) := ⟨_, P, fun q h => (upE_n (by omega)).trans (flo q h), upE_s, (upE_n (by omega)).trans f1⟩
  refine m_ret C P (fun q hq => enq_of ?_) dX7_init_12
  by_cases hqk : q < k
  · rw [gl_lo hqk]; exact flo q hqk
  · rw [gl_hi (by omega)]
    by_cases h0 : q = k
    · subst h0
      rw [f0, E0, EK_7 hk]
      simp [mu0, hk]
    by_cases h1 : q = (k + 1)
    · subst h1
      rw [f1, E0, EK_20 (kd_7_1 hk), mu0_20 (kd_7_1 hk)]
    · omega
theorem wd_X1_init_1 : Cond.methodLink RX1 3 objectInit ∈ wsX1_init := List.mem_of_getElem? (i := 1) (by decide +kernel)
theorem wd_X1_init_2 : Cond.instanceMethod objectInit ∈ wsX1_init := List.mem_of_getElem? (i := 2) (by decide +kernel)
theorem wd_X1_init_3 : Cond.code objectInit ⟨#[0xb1]⟩ 1 none ∈ wsX1_init := List.mem_of_getElem? (i := 3) rfl
theorem wd_X1_init_4 : Cond.classLink RX1 9 RX7 ∈ wsX1_init := List.mem_of_getElem? (i := 4) (by decide +kernel)
theorem wd_X1_init_5 : Cond.instantiable RX7 2 ∈ wsX1_init := List.mem_of_getElem? (i := 5) (by decide +kernel)
theorem wd_X1_init_6 : Cond.initialized RX7 ∈ wsX1_init := List.mem_of_getElem? (i := 6) (by decide +kernel)
theorem wd_X1_init_7 : Cond.fieldLink RX1 12 "TurnstileBank$Gate" "outer" "LTurnstileBank$Queue;" ∈ wsX1_init := List.mem_of_getElem? (i := 7) (by decide +kernel)
theorem wd_X1_init_8 : Cond.fieldLink RX1 18 "TurnstileBank$Gate" "inner" "LTurnstileBank$Queue;" ∈ wsX1_init := List.mem_of_getElem? (i := 8) (by decide +kernel)
theorem wd_X1_init_9 : Cond.fieldLink RX1 21 "TurnstileBank$Gate" "person" "I" ∈ wsX1_init := List.mem_of_getElem? (i := 9) (by decide +kernel)
theorem wd_X1_init_10 : Cond.instanceMethod yX7_init ∈ wsX1_init := List.mem_of_getElem? (i := 10) (by decide +kernel)
theorem in_X1_init_1 : ∀ w ∈ wsX10, w ∈ wsX1_init := fun w h => List.mem_cons_of_mem _ (List.mem_append_right _ h)
theorem in_X1_init_7 : ∀ w ∈ wsX70, w ∈ wsX1_init := fun w h => List.mem_cons_of_mem _ (List.mem_append_left _ (List.mem_append_right _ h))
abbrev rm_X1_init : Room := { frames := 2, cells := 4, slots := 84, locals := 32 }
set_option maxHeartbeats 4000000 in
set_option maxRecDepth 100000 in
theorem c_X1_init (l : Launch) (D : va_G) (cA : Nat → ClassId) (o k : Nat) (Eb : Nat → va_E) (hk : kd k = 1) (f0 : Eb k = .inr (1, [.null, .null, .int 0, .int 0, .int 0, .int 0, .int 0, .int 0, .int 0, .int 0, .int 0, .int 0, .int 0, .int 0, .int 0])) : Met l yX1_init wsX1_init rm_X1_init (va_Pc [.ref (o + k)] (Wm (k + 1) o D (tysL cA) Eb)) (Qm (k + 5) o D (tysL cA) (gl Eb k (E0 cA o))) 4 84 (fun q => o ≤ q) := by
  refine Met.ofW (cc := cX1_init) (maxL := 1) (ret := none) (by decide) rfl ?_
  intro p e s m args below meth c s₁ B hml hv
  obtain ⟨rfl, hsz, hv, hAO⟩ := hv
  have C : Cx p m meth c s _ cX1_init 1 wsX1_init RX1 none D (tysL cA) := ⟨⟨B.exec, B.bytes, hml, findClass_of_methodNamed B.named, atoms_spec (ws := wsX1_init) B.pre⟩, B.returns, B.notSynchronized, hv.2⟩
  have hin2 : meth.name = "<init>" := (name_of_methodNamed B.named B.method).1
  have hx := C.1.1
  have hb := C.1.2.1
  have hl := lv_entry ([.ref (o + k)]) (n := 1) (Nat.le_of_ble_eq_true rfl)
  rw [lg_entry_eq]
  generalize (lg_sl ([.ref (o + k)]) ++ List.replicate (1 - (lg_sl ([.ref (o + k)])).length) Slot.unset).toArray = ls at hl ⊢
  have hl : lv_has ls 1 [(0, .ref (o + k))] := hl
  obtain ⟨H, hH⟩ : ∃ H, H = s.heap := ⟨_, rfl⟩
  obtain ⟨locs, hlocs⟩ : ∃ locs : List Loc, locs = [] := ⟨_, rfl⟩
  have P : HpM (k + 1) o D Eb s s.heap [] := ⟨hv.1, hsz, va_S.rf⟩
  rw [← hH, ← hlocs] at P ⊢
  obtain ⟨E, hEE⟩ : ∃ E, E = Eb := ⟨_, rfl⟩
  rw [← hEE] at P
  have flo : ∀ q, q < k → E q = Eb q := fun q _ => by rw [hEE]
  have f0 : E k = .inr (1, [.null, .null, .int 0, .int 0, .int 0, .int 0, .int 0, .int 0, .int 0, .int 0, .int 0, .int 0, .int 0, .int 0, .int 0]) := by rw [hEE]; exact f0
  clear hEE
  refine lv_aload_n hx hb dX1_init_0 rfl (lv_at hl 0 rfl) ?_
  refine W.objInit hx hb C.1.2.2.2.1 (C.1.2.2.2.2 _ wd_X1_init_1) (C.1.2.2.2.2 _ wd_X1_init_2) (C.1.2.2.2.2 _ wd_X1_init_3) rfl (by rw [C.1.2.2.1]; exact hl.1) rfl dX1_init_1 (Nat.le_of_ble_eq_true rfl) (Nat.le_of_ble_eq_true rfl) ?_
  refine lv_aload_n hx hb dX1_init_4 rfl (lv_at hl 0 rfl) ?_
  refine m_new C P (X := RX7) (T := TX7) (nn := 2) (ci := 7) in_X1_init_7 tyX7 tyX7_ok wd_X1_init_4 wd_X1_init_5 wd_X1_init_6 rfl (fs := [.null, .int 0]) dv_7 (Nat.le_of_ble_eq_true rfl) (Nat.le_of_ble_eq_true rfl) dX1_init_5 (fun H P => ?_)
  obtain ⟨E, P, flo, f0, f1⟩ : ∃ E : Nat → va_E, HpM (k + 2) o D E s H locs ∧ (∀ q, q < k → E q = Eb q) ∧ E k = .inr (1, [.null, .null, .int 0, .int 0, .int 0, .int 0, .int 0, .int 0, .int 0, .int 0, .int 0, .int 0, .int 0, .int 0, .int 0]) ∧ E (k + 1) = .inr (7, [.null, .int 0]) := ⟨_, P, fun q h => (upE_n (by omega)).trans (flo q h), (upE_n (by omega)).trans f0, upE_s⟩
  refine lv_dup hx hb dX1_init_8 rfl ?_
  refine m_call (va_runIN (As := []) (rest := [.ref (o + (k + 1)), .ref (o + k)]) C.1 (c_X7_init l D cA o (k + 1) E (kd_1_1 hk) f1) ⟨va_cnB 0 C.1.2.2.2.2 gX1_init_X7_init_n11 rfl rfl rfl (C.2.2.2.2 3 _ rfl) (C.1.2.2.2.2 _ wd_X1_init_6) (by decide +kernel) ⟨Nat.le_of_ble_eq_true rfl, Nat.le_of_ble_eq_true rfl⟩, rfl, C.1.2.2.2.2 _ wd_X1_init_10⟩ (m_pre C hAO P [.ref (o + (k + 1))]) rfl rfl hl.1 rfl (lv_room (Nat.le_of_ble_eq_true rfl)) dX1_init_9 ⟨Nat.le_of_ble_eq_true rfl, Nat.le_of_ble_eq_true rfl⟩) P (fun H locs P => ?_)
  obtain ⟨E, P, flo, f0, g1⟩ : ∃ E : Nat → va_E, HpM (k + 3) o D E s H locs ∧ (∀ q, q < k → E q = Eb q) ∧ E k = .inr (1, [.null, .null, .int 0, .int 0, .int 0, .int 0, .int 0, .int 0, .int 0, .int 0, .int 0, .int 0, .int 0, .int 0, .int 0]) ∧ (∀ q, k + 1 ≤ q → q < k + 3 → E q = E0 cA o q) := ⟨_, P, fun q h => (gl_lo (by omega)).trans (flo q h), (gl_lo (by omega)).trans f0, fun q h1 h2 => gl_hi (by omega)⟩
  refine m_put C P (X := RX1) (T := TX1) (nn := 15) (ci := 1) (j := 0) (k := k) in_X1_init_1 tyX1 tyX1_ok nmX1 rfl wd_X1_init_7 rfl (Or.inr ⟨rfl, hin2, rfl⟩) (by omega) f0 (by decide) (by simp) (ty := .object "TurnstileBank$Queue") (by decide) rfl rfl dX1_init_12 (fun H locs P => ?_)
  obtain ⟨E, P, flo, f0, g1⟩ : ∃ E : Nat → va_E, HpM (k + 3) o D E s H locs ∧ (∀ q, q < k → E q = Eb q) ∧ E k = .inr (1, [.ref (o + (k + 1)), .null, .int 0, .int 0, .int 0, .int 0, .int 0, .int 0, .int 0, .int 0, .int 0, .int 0, .int 0, .int 0, .int 0]) ∧ (∀ q, k + 1 ≤ q → q < k + 3 → E q = E0 cA o q) := ⟨_, P, fun q h => (upE_n (by omega)).trans (flo q h), upE_s, fun q h1 h2 => (upE_n (by omega)).trans (g1 q h1 h2)⟩
  refine lv_aload_n hx hb dX1_init_15 rfl (lv_at hl 0 rfl) ?_
  refine m_new C P (X := RX7) (T := TX7) (nn := 2) (ci := 7) in_X1_init_7 tyX7 tyX7_ok wd_X1_init_4 wd_X1_init_5 wd_X1_init_6 rfl (fs := [.null, .int 0]) dv_7 (Nat.le_of_ble_eq_true rfl) (Nat.le_of_ble_eq_true rfl) dX1_init_16 (fun H P => ?_)
  obtain ⟨E, P, flo, f0, f3, g1⟩ : ∃ E : Nat → va_E, HpM (k + 4) o D E s H locs ∧ (∀ q, q < k → E q = Eb q) ∧ E k = .inr (1, [.ref (o + (k + 1)), .null, .int 0, .int 0, .int 0, .int 0, .int 0, .int 0, .int 0, .int 0, .int 0, .int 0, .int 0, .int 0, .int 0]) ∧ E (k + 3) = .inr (7, [.null, .int 0]) ∧ (∀ q, k + 1 ≤ q → q < k + 3 → E q = E0 cA o q) := ⟨_, P, fun q h => (upE_n (by omega)).trans (flo q h), (upE_n (by omega)).trans f0, upE_s, fun q h1 h2 => (upE_n (by omega)).trans (g1 q h1 h2)⟩
  refine lv_dup hx hb dX1_init_19 rfl ?_
  refine m_call (va_runIN (As := []) (rest := [.ref (o + (k + 3)), .ref (o + k)]) C.1 (c_X7_init l D cA o (k + 3) E (kd_1_3 hk) f3) ⟨va_cnB 0 C.1.2.2.2.2 gX1_init_X7_init_n11 rfl rfl rfl (C.2.2.2.2 3 _ rfl) (C.1.2.2.2.2 _ wd_X1_init_6) (by decide +kernel) ⟨Nat.le_of_ble_eq_true rfl, Nat.le_of_ble_eq_true rfl⟩, rfl, C.1.2.2.2.2 _ wd_X1_init_10⟩ (m_pre C hAO P [.ref (o + (k + 3))]) rfl rfl hl.1 rfl (lv_room (Nat.le_of_ble_eq_true rfl)) dX1_init_20 ⟨Nat.le_of_ble_eq_true rfl, Nat.le_of_ble_eq_true rfl⟩) P (fun H locs P => ?_)
  obtain ⟨E, P, flo, f0, g1, g3⟩ : ∃ E : Nat → va_E, HpM (k + 5) o D E s H locs ∧ (∀ q, q < k → E q = Eb q) ∧ E k = .inr (1, [.ref (o + (k + 1)), .null, .int 0, .int 0, .int 0, .int 0, .int 0, .int 0, .int 0, .int 0, .int 0, .int 0, .int 0, .int 0, .int 0]) ∧ (∀ q, k + 1 ≤ q → q < k + 3 → E q = E0 cA o q) ∧ (∀ q, k + 3 ≤ q → q < k + 5 → E q = E0 cA o q) := ⟨_, P, fun q h => (gl_lo (by omega)).trans (flo q h), (gl_lo (by omega)).trans f0, fun q h1 h2 => (gl_lo (by omega)).trans (g1 q h1 h2), fun q h1 h2 => gl_hi (by omega)⟩
  refine m_put C P (X := RX1) (T := TX1) (nn := 15) (ci := 1) (j := 1) (k := k) in_X1_init_1 tyX1 tyX1_ok nmX1 rfl wd_X1_init_8 rfl (Or.inr ⟨rfl, hin2, rfl⟩) (by omega) f0 (by decide) (by simp) (ty := .object "TurnstileBank$Queue") (by decide) rfl rfl dX1_init_23 (fun H locs P => ?_)
  obtain ⟨E, P, flo, f0, g1, g3⟩ : ∃ E : Nat → va_E, HpM (k + 5) o D E s H locs ∧ (∀ q, q < k → E q = Eb q) ∧ E k = .inr (1, [.ref (o + (k + 1)), .ref (o + (k + 3)), .int 0, .int 0, .int 0, .int 0, .int 0, .int 0, .int 0, .int 0, .int 0, .int 0, .int 0, .int 0, .int 0]) ∧ (∀ q, k + 1 ≤ q → q < k + 3 → E q = E0 cA o q) ∧ (∀ q, k + 3 ≤ q → q < k + 5 → E q = E0 cA o q) := ⟨_, P, fun q h => (upE_n (by omega)).trans (flo q h), upE_s, fun q h1 h2 => (upE_n (by omega)).trans (g1 q h1 h2), fun q h1 h2 => (upE_n (by omega)).trans (g3 q h1 h2)⟩
  refine lv_aload_n hx hb dX1_init_26 rfl (lv_at hl 0 rfl) ?_
  refine lv_bipush (v := -5) hx hb dX1_init_27 (by decide) ?_
  refine m_put C P (X := RX1) (T := TX1) (nn := 15) (ci := 1) (j := 8) (k := k) in_X1_init_1 tyX1 tyX1_ok nmX1 rfl wd_X1_init_9 rfl (Or.inl rfl) (by omega) f0 (by decide) (by simp) (ty := .int) (by decide) rfl rfl dX1_init_29 (fun H locs P => ?_)
  obtain ⟨E, P, flo, f0, g1, g3⟩ : ∃ E : Nat → va_E, HpM (k + 5) o D E s H locs ∧ (∀ q, q < k → E q = Eb q) ∧ E k = .inr (1, [.ref (o + (k + 1)), .ref (o + (k + 3)), .int 0, .int 0, .int 0, .int 0, .int 0, .int 0, .int (-5), .int 0, .int 0, .int 0, .int 0, .int 0, .int 0]) ∧ (∀ q, k + 1 ≤ q → q < k + 3 → E q = E0 cA o q) ∧ (∀ q, k + 3 ≤ q → q < k + 5 → E q = E0 cA o q) := ⟨_, P, fun q h => (upE_n (by omega)).trans (flo q h), upE_s, fun q h1 h2 => (upE_n (by omega)).trans (g1 q h1 h2), fun q h1 h2 => (upE_n (by omega)).trans (g3 q h1 h2)⟩
  refine m_ret C P (fun q hq => enq_of ?_) dX1_init_32
  by_cases hqk : q < k
  · rw [gl_lo hqk]; exact flo q hqk
  · rw [gl_hi (by omega)]
    by_cases h0 : q = k
    · subst h0
      rw [f0, E0, EK_1 hk]
      simp [mu0, hk]
    by_cases h1 : k + 1 ≤ q ∧ q < k + 3
    · exact g1 q h1.1 h1.2
    by_cases h3 : k + 3 ≤ q ∧ q < k + 5
    · exact g3 q h3.1 h3.2
    · omega
theorem wd_X4_init_1 : Cond.methodLink RX4 3 objectInit ∈ wsX4_init := List.mem_of_getElem? (i := 1) (by decide +kernel)
theorem wd_X4_init_2 : Cond.instanceMethod objectInit ∈ wsX4_init := List.mem_of_getElem? (i := 2) (by decide +kernel)
theorem wd_X4_init_3 : Cond.code objectInit ⟨#[0xb1]⟩ 1 none ∈ wsX4_init := List.mem_of_getElem? (i := 3) rfl
theorem wd_X4_init_4 : Cond.fieldLink RX4 9 "TurnstileBank$Pass" "user" "I" ∈ wsX4_init := List.mem_of_getElem? (i := 4) (by decide +kernel)
theorem in_X4_init_4 : ∀ w ∈ wsX40, w ∈ wsX4_init := fun w h => List.mem_cons_of_mem _ (List.mem_append_right _ h)
abbrev rm_X4_init : Room := { frames := 1, cells := 0, slots := 0, locals := 12 }
set_option maxHeartbeats 4000000 in
set_option maxRecDepth 100000 in
theorem c_X4_init (l : Launch) (D : va_G) (cA : Nat → ClassId) (o k : Nat) (Eb : Nat → va_E) (hk : kd k = 4) (f0 : Eb k = .inr (4, [.int 0, .int 0, .int 0])) : Met l yX4_init wsX4_init rm_X4_init (va_Pc [.ref (o + k)] (Wm (k + 1) o D (tysL cA) Eb)) (Qm (k + 1) o D (tysL cA) (gl Eb k (E0 cA o))) 0 0 (fun q => o ≤ q) := by
  refine Met.ofW (cc := cX4_init) (maxL := 1) (ret := none) (by decide) rfl ?_
  intro p e s m args below meth c s₁ B hml hv
  obtain ⟨rfl, hsz, hv, hAO⟩ := hv
  have C : Cx p m meth c s _ cX4_init 1 wsX4_init RX4 none D (tysL cA) := ⟨⟨B.exec, B.bytes, hml, findClass_of_methodNamed B.named, atoms_spec (ws := wsX4_init) B.pre⟩, B.returns, B.notSynchronized, hv.2⟩
  have hin2 : meth.name = "<init>" := (name_of_methodNamed B.named B.method).1
  have hx := C.1.1
  have hb := C.1.2.1
  have hl := lv_entry ([.ref (o + k)]) (n := 1) (Nat.le_of_ble_eq_true rfl)
  rw [lg_entry_eq]
  generalize (lg_sl ([.ref (o + k)]) ++ List.replicate (1 - (lg_sl ([.ref (o + k)])).length) Slot.unset).toArray = ls at hl ⊢
  have hl : lv_has ls 1 [(0, .ref (o + k))] := hl
  obtain ⟨H, hH⟩ : ∃ H, H = s.heap := ⟨_, rfl⟩
  obtain ⟨locs, hlocs⟩ : ∃ locs : List Loc, locs = [] := ⟨_, rfl⟩
  have P : HpM (k + 1) o D Eb s s.heap [] := ⟨hv.1, hsz, va_S.rf⟩
  rw [← hH, ← hlocs] at P ⊢
  obtain ⟨E, hEE⟩ : ∃ E, E = Eb := ⟨_, rfl⟩
  rw [← hEE] at P
  have flo : ∀ q, q < k → E q = Eb q := fun q _ => by rw [hEE]
  have f0 : E k = .inr (4, [.int 0, .int 0, .int 0]) := by rw [hEE]; exact f0
  clear hEE
  refine lv_aload_n hx hb dX4_init_0 rfl (lv_at hl 0 rfl) ?_
  refine W.objInit hx hb C.1.2.2.2.1 (C.1.2.2.2.2 _ wd_X4_init_1) (C.1.2.2.2.2 _ wd_X4_init_2) (C.1.2.2.2.2 _ wd_X4_init_3) rfl (by rw [C.1.2.2.1]; exact hl.1) rfl dX4_init_1 (Nat.le_of_ble_eq_true rfl) (Nat.le_of_ble_eq_true rfl) ?_
  refine lv_aload_n hx hb dX4_init_4 rfl (lv_at hl 0 rfl) ?_
  refine lv_bipush (v := -5) hx hb dX4_init_5 (by decide) ?_
  refine m_put C P (X := RX4) (T := TX4) (nn := 3) (ci := 4) (j := 2) (k := k) in_X4_init_4 tyX4 tyX4_ok nmX4 rfl wd_X4_init_4 rfl (Or.inl rfl) (by omega) f0 (by decide) (by simp) (ty := .int) (by decide) rfl rfl dX4_init_7 (fun H locs P => ?_)
  obtain ⟨E, P, flo, f0⟩ : ∃ E : Nat → va_E, HpM (k + 1) o D E s H locs ∧ (∀ q, q < k → E q = Eb q) ∧ E k = .inr (4, [.int 0, .int 0, .int (-5)]) := ⟨_, P, fun q h => (upE_n (by omega)).trans (flo q h), upE_s⟩
  refine m_ret C P (fun q hq => enq_of ?_) dX4_init_10
  by_cases hqk : q < k
  · rw [gl_lo hqk]; exact flo q hqk
  · rw [gl_hi (by omega)]
    by_cases h0 : q = k
    · subst h0
      rw [f0, E0, EK_4 hk]
      simp [mu0, hk]
    · omega
theorem wd_X5_init_1 : Cond.methodLink RX5 3 objectInit ∈ wsX5_init := List.mem_of_getElem? (i := 1) (by decide +kernel)
theorem wd_X5_init_2 : Cond.instanceMethod objectInit ∈ wsX5_init := List.mem_of_getElem? (i := 2) (by decide +kernel)
theorem wd_X5_init_3 : Cond.code objectInit ⟨#[0xb1]⟩ 1 none ∈ wsX5_init := List.mem_of_getElem? (i := 3) rfl
abbrev rm_X5_init : Room := { frames := 1, cells := 0, slots := 0, locals := 12 }
set_option maxHeartbeats 4000000 in
set_option maxRecDepth 100000 in
theorem c_X5_init (l : Launch) (D : va_G) (cA : Nat → ClassId) (o k : Nat) (Eb : Nat → va_E) (hk : kd k = 5) (f0 : Eb k = .inr (5, [.int 0, .int 0, .int 0, .int 0, .int 0, .int 0, .int 0])) : Met l yX5_init wsX5_init rm_X5_init (va_Pc [.ref (o + k)] (Wm (k + 1) o D (tysL cA) Eb)) (Qm (k + 1) o D (tysL cA) (gl Eb k (E0 cA o))) 0 0 (fun q => o ≤ q) := by
  refine Met.ofW (cc := cX5_init) (maxL := 1) (ret := none) (by decide) rfl ?_
  intro p e s m args below meth c s₁ B hml hv
  obtain ⟨rfl, hsz, hv, hAO⟩ := hv
  have C : Cx p m meth c s _ cX5_init 1 wsX5_init RX5 none D (tysL cA) := ⟨⟨B.exec, B.bytes, hml, findClass_of_methodNamed B.named, atoms_spec (ws := wsX5_init) B.pre⟩, B.returns, B.notSynchronized, hv.2⟩
  have hin2 : meth.name = "<init>" := (name_of_methodNamed B.named B.method).1
  have hx := C.1.1
  have hb := C.1.2.1
  have hl := lv_entry ([.ref (o + k)]) (n := 1) (Nat.le_of_ble_eq_true rfl)
  rw [lg_entry_eq]
  generalize (lg_sl ([.ref (o + k)]) ++ List.replicate (1 - (lg_sl ([.ref (o + k)])).length) Slot.unset).toArray = ls at hl ⊢
  have hl : lv_has ls 1 [(0, .ref (o + k))] := hl
  obtain ⟨H, hH⟩ : ∃ H, H = s.heap := ⟨_, rfl⟩
  obtain ⟨locs, hlocs⟩ : ∃ locs : List Loc, locs = [] := ⟨_, rfl⟩
  have P : HpM (k + 1) o D Eb s s.heap [] := ⟨hv.1, hsz, va_S.rf⟩
  rw [← hH, ← hlocs] at P ⊢
  obtain ⟨E, hEE⟩ : ∃ E, E = Eb := ⟨_, rfl⟩
  rw [← hEE] at P
  have flo : ∀ q, q < k → E q = Eb q := fun q _ => by rw [hEE]
  have f0 : E k = .inr (5, [.int 0, .int 0, .int 0, .int 0, .int 0, .int 0, .int 0]) := by rw [hEE]; exact f0
  clear hEE
  refine lv_aload_n hx hb dX5_init_0 rfl (lv_at hl 0 rfl) ?_
  refine W.objInit hx hb C.1.2.2.2.1 (C.1.2.2.2.2 _ wd_X5_init_1) (C.1.2.2.2.2 _ wd_X5_init_2) (C.1.2.2.2.2 _ wd_X5_init_3) rfl (by rw [C.1.2.2.1]; exact hl.1) rfl dX5_init_1 (Nat.le_of_ble_eq_true rfl) (Nat.le_of_ble_eq_true rfl) ?_
  refine m_ret C P (fun q hq => enq_of ?_) dX5_init_4
  by_cases hqk : q < k
  · rw [gl_lo hqk]; exact flo q hqk
  · rw [gl_hi (by omega)]
    by_cases h0 : q = k
    · subst h0
      rw [f0, E0, EK_5 hk]
      simp [mu0, hk]
    · omega
theorem wd_X6_init_1 : Cond.methodLink RX6 1 objectInit ∈ wsX6_init := List.mem_of_getElem? (i := 1) (by decide +kernel)
theorem wd_X6_init_2 : Cond.instanceMethod objectInit ∈ wsX6_init := List.mem_of_getElem? (i := 2) (by decide +kernel)
theorem wd_X6_init_3 : Cond.code objectInit ⟨#[0xb1]⟩ 1 none ∈ wsX6_init := List.mem_of_getElem? (i := 3) rfl
abbrev rm_X6_init : Room := { frames := 1, cells := 0, slots := 0, locals := 12 }
set_option maxHeartbeats 4000000 in
set_option maxRecDepth 100000 in
theorem c_X6_init (l : Launch) (D : va_G) (cA : Nat → ClassId) (o k : Nat) (Eb : Nat → va_E) (hk : kd k = 6) (f0 : Eb k = .inr (6, [.int 0, .int 0, .int 0, .int 0, .int 0])) : Met l yX6_init wsX6_init rm_X6_init (va_Pc [.ref (o + k)] (Wm (k + 1) o D (tysL cA) Eb)) (Qm (k + 1) o D (tysL cA) (gl Eb k (E0 cA o))) 0 0 (fun q => o ≤ q) := by
  refine Met.ofW (cc := cX6_init) (maxL := 1) (ret := none) (by decide) rfl ?_
  intro p e s m args below meth c s₁ B hml hv
  obtain ⟨rfl, hsz, hv, hAO⟩ := hv
  have C : Cx p m meth c s _ cX6_init 1 wsX6_init RX6 none D (tysL cA) := ⟨⟨B.exec, B.bytes, hml, findClass_of_methodNamed B.named, atoms_spec (ws := wsX6_init) B.pre⟩, B.returns, B.notSynchronized, hv.2⟩
  have hin2 : meth.name = "<init>" := (name_of_methodNamed B.named B.method).1
  have hx := C.1.1
  have hb := C.1.2.1
  have hl := lv_entry ([.ref (o + k)]) (n := 1) (Nat.le_of_ble_eq_true rfl)
  rw [lg_entry_eq]
  generalize (lg_sl ([.ref (o + k)]) ++ List.replicate (1 - (lg_sl ([.ref (o + k)])).length) Slot.unset).toArray = ls at hl ⊢
  have hl : lv_has ls 1 [(0, .ref (o + k))] := hl
  obtain ⟨H, hH⟩ : ∃ H, H = s.heap := ⟨_, rfl⟩
  obtain ⟨locs, hlocs⟩ : ∃ locs : List Loc, locs = [] := ⟨_, rfl⟩
  have P : HpM (k + 1) o D Eb s s.heap [] := ⟨hv.1, hsz, va_S.rf⟩
  rw [← hH, ← hlocs] at P ⊢
  obtain ⟨E, hEE⟩ : ∃ E, E = Eb := ⟨_, rfl⟩
  rw [← hEE] at P
  have flo : ∀ q, q < k → E q = Eb q := fun q _ => by rw [hEE]
  have f0 : E k = .inr (6, [.int 0, .int 0, .int 0, .int 0, .int 0]) := by rw [hEE]; exact f0
  clear hEE
  refine lv_aload_n hx hb dX6_init_0 rfl (lv_at hl 0 rfl) ?_
  refine W.objInit hx hb C.1.2.2.2.1 (C.1.2.2.2.2 _ wd_X6_init_1) (C.1.2.2.2.2 _ wd_X6_init_2) (C.1.2.2.2.2 _ wd_X6_init_3) rfl (by rw [C.1.2.2.1]; exact hl.1) rfl dX6_init_1 (Nat.le_of_ble_eq_true rfl) (Nat.le_of_ble_eq_true rfl) ?_
  refine m_ret C P (fun q hq => enq_of ?_) dX6_init_4
  by_cases hqk : q < k
  · rw [gl_lo hqk]; exact flo q hqk
  · rw [gl_hi (by omega)]
    by_cases h0 : q = k
    · subst h0
      rw [f0, E0, EK_6 hk]
      simp [mu0, hk]
    · omega
theorem wd_X3_init_1 : Cond.methodLink RX3 3 objectInit ∈ wsX3_init := List.mem_of_getElem? (i := 1) (by decide +kernel)
theorem wd_X3_init_2 : Cond.instanceMethod objectInit ∈ wsX3_init := List.mem_of_getElem? (i := 2) (by decide +kernel)
theorem wd_X3_init_3 : Cond.code objectInit ⟨#[0xb1]⟩ 1 none ∈ wsX3_init := List.mem_of_getElem? (i := 3) rfl
theorem wd_X3_init_4 : Cond.arrayClass .char ∈ wsX3_init := List.mem_of_getElem? (i := 4) (by decide +kernel)
theorem wd_X3_init_5 : Cond.fieldLink RX3 9 "TurnstileBank$Orders" "letters" "[C" ∈ wsX3_init := List.mem_of_getElem? (i := 5) (by decide +kernel)
theorem in_X3_init_3 : ∀ w ∈ wsX30, w ∈ wsX3_init := fun w h => List.mem_cons_of_mem _ (List.mem_append_right _ h)
abbrev rm_X3_init : Room := { frames := 1, cells := 1, slots := 50, locals := 12 }
set_option maxHeartbeats 4000000 in
set_option maxRecDepth 100000 in
theorem c_X3_init (l : Launch) (D : va_G) (cA : Nat → ClassId) (o k : Nat) (Eb : Nat → va_E) (hk : kd k = 3) (f0 : Eb k = .inr (3, [.null, .int 0, .int 0, .int 0, .int 0, .int 0, .int 0])) : Met l yX3_init wsX3_init rm_X3_init (va_Pc [.ref (o + k)] (Wm (k + 1) o D (tysL cA) Eb)) (Qm (k + 2) o D (tysL cA) (gl Eb k (E0 cA o))) 1 50 (fun q => o ≤ q) := by
  refine Met.ofW (cc := cX3_init) (maxL := 1) (ret := none) (by decide) rfl ?_
  intro p e s m args below meth c s₁ B hml hv
  obtain ⟨rfl, hsz, hv, hAO⟩ := hv
  have C : Cx p m meth c s _ cX3_init 1 wsX3_init RX3 none D (tysL cA) := ⟨⟨B.exec, B.bytes, hml, findClass_of_methodNamed B.named, atoms_spec (ws := wsX3_init) B.pre⟩, B.returns, B.notSynchronized, hv.2⟩
  have hin2 : meth.name = "<init>" := (name_of_methodNamed B.named B.method).1
  have hx := C.1.1
  have hb := C.1.2.1
  have hl := lv_entry ([.ref (o + k)]) (n := 1) (Nat.le_of_ble_eq_true rfl)
  rw [lg_entry_eq]
  generalize (lg_sl ([.ref (o + k)]) ++ List.replicate (1 - (lg_sl ([.ref (o + k)])).length) Slot.unset).toArray = ls at hl ⊢
  have hl : lv_has ls 1 [(0, .ref (o + k))] := hl
  obtain ⟨H, hH⟩ : ∃ H, H = s.heap := ⟨_, rfl⟩
  obtain ⟨locs, hlocs⟩ : ∃ locs : List Loc, locs = [] := ⟨_, rfl⟩
  have P : HpM (k + 1) o D Eb s s.heap [] := ⟨hv.1, hsz, va_S.rf⟩
  rw [← hH, ← hlocs] at P ⊢
  obtain ⟨E, hEE⟩ : ∃ E, E = Eb := ⟨_, rfl⟩
  rw [← hEE] at P
  have flo : ∀ q, q < k → E q = Eb q := fun q _ => by rw [hEE]
  have f0 : E k = .inr (3, [.null, .int 0, .int 0, .int 0, .int 0, .int 0, .int 0]) := by rw [hEE]; exact f0
  clear hEE
  refine lv_aload_n hx hb dX3_init_0 rfl (lv_at hl 0 rfl) ?_
  refine W.objInit hx hb C.1.2.2.2.1 (C.1.2.2.2.2 _ wd_X3_init_1) (C.1.2.2.2.2 _ wd_X3_init_2) (C.1.2.2.2.2 _ wd_X3_init_3) rfl (by rw [C.1.2.2.1]; exact hl.1) rfl dX3_init_1 (Nat.le_of_ble_eq_true rfl) (Nat.le_of_ble_eq_true rfl) ?_
  refine lv_aload_n hx hb dX3_init_4 rfl (lv_at hl 0 rfl) ?_
  refine lv_bipush (v := 50) hx hb dX3_init_5 (by decide) ?_
  refine m_newa C P (atype := .char) 1 (cB := cA 1) (ty := .char) rfl rfl (fun h => h) wd_X3_init_4 (i := 50) (N' := 50) (a0 := (50, .inl (fun _ => 0))) (fun _ => rfl) (by decide) (by decide) (by decide) (Nat.le_of_ble_eq_true rfl) (Nat.le_of_ble_eq_true rfl) dX3_init_7 (fun H P => ?_)
  obtain ⟨E, P, flo, f0, f1⟩ : ∃ E : Nat → va_E, HpM (k + 2) o D E s H locs ∧ (∀ q, q < k → E q = Eb q) ∧ E k = .inr (3, [.null, .int 0, .int 0, .int 0, .int 0, .int 0, .int 0]) ∧ E (k + 1) = .inl (cA 1, 50, .inl (fun _ => 0)) := ⟨_, P, fun q h => (upE_n (by omega)).trans (flo q h), (upE_n (by omega)).trans f0, upE_s⟩
  refine m_put C P (X := RX3) (T := TX3) (nn := 7) (ci := 3) (j := 0) (k := k) in_X3_init_3 tyX3 tyX3_ok nmX3 rfl wd_X3_init_5 rfl (Or.inr ⟨rfl, hin2, rfl⟩) (by omega) f0 (by decide) (by simp) (ty := .array .char) (by decide) rfl rfl dX3_init_9 (fun H locs P => ?_)
  obtain ⟨E, P, flo, f0, f1⟩ : ∃ E : Nat → va_E, HpM (k + 2) o D E s H locs ∧ (∀ q, q < k → E q = Eb q) ∧ E k = .inr (3, [.ref (o + (k + 1)), .int 0, .int 0, .int 0, .int 0, .int 0, .int 0]) ∧ E (k + 1) = .inl (cA 1, 50, .inl (fun _ => 0)) := ⟨_, P, fun q h => (upE_n (by omega)).trans (flo q h), upE_s, (upE_n (by omega)).trans f1⟩
  refine m_ret C P (fun q hq => enq_of ?_) dX3_init_12
  by_cases hqk : q < k
  · rw [gl_lo hqk]; exact flo q hqk
  · rw [gl_hi (by omega)]
    by_cases h0 : q = k
    · subst h0
      rw [f0, E0, EK_3 hk]
      simp [mu0, hk]
      exact kd_3_eq hk
    by_cases h1 : q = (k + 1)
    · subst h1
      rw [f1, E0, EK_22 (kd_3_1 hk), mu0_22 (kd_3_1 hk)]
    · omega
