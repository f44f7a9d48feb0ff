/-! the law: both worlds side by side -/
def HpL (o : Nat) (D : va_G) (cA : Nat → ClassId) (μ ρ : Mm) (s : State) (H : Heap) (locs : List Loc) : Prop := va_P D vwCl (wl 747 o (EC cA o μ)) H ∧ va_P D vwCl (wl 6 (o + 747) (EM cA (o + 747) ρ)) H ∧ va_S (fun q => o ≤ q) s.heap H locs
theorem wl_kept {D : va_G} {N o : Nat} {E : Nat → va_E} {H H1 : Heap} (hP : va_P D vwCl (wl N o E) H) (h : ∀ q, q < H.size → o ≤ q → q < o + N → H1[q]? = H[q]?) : va_P D vwCl (wl N o E) H1 := by
  intro k q hq
  obtain ⟨hk, rfl⟩ := wl_inv hq
  have hat := hP k _ (wl_get hk)
  exact hat.kept (h _ hat.lt (Nat.le_add_right _ _) (Nat.add_lt_add_left hk o))
section LAWROWS
variable {p : Program} {l : Launch} {e : Env} {R : Room} {s : State} {m : MethodId} {args : Array Value} {below : List Frame} {meth : Method} {c : Code} {H : Heap} {locs : List Loc} {cells slots : Nat} {Q : State → Prop}
variable {cc : ByteArray} {pc nL : Nat} {ls : Array Slot} {rest st0 : List Value} {a : Array Value} {D : va_G} {tys : List (ClassId × FieldType)} {cA : Nat → ClassId} {Ts : List Cond} {own : String} {ret : Option FieldType} {N o : Nat} {E : Nat → va_E} {μ ρ : Mm}
theorem lw_pre (C : Cx p m meth c s args cc nL Ts own ret D tys) (P : va_P D vwCl (wl N o E) H) (As : List Value) : PreS s H (va_Pc As (Wd N o D tys E)) As :=
  ⟨fun a U g mk q => ⟨q.1, q.2.1, va_K.moved (u := U) (U := U.calling g mk a) (Vm.Alike.refl U.vm) q.2.2.1, NwA.same (u := U) (U := U.calling g mk a) rfl q.2.2.2⟩, fun U hU hW => ⟨rfl, by rw [hU]; exact P, va_K.moved hW.alike C.2.2.2.1, C.2.2.2.2.warm hW⟩⟩
theorem lw_preV (C : Cx p m meth c s args cc nL Ts own ret D tys) (P : va_P D vwCl (wl N o E) H) {k ci : Nat} {q : vw_C} {fs : List Value} (As : List Value) (hc : vwCl[ci]? = some q) (hk : k < N) (he : E k = .inr (ci, fs)) : PreV s H q.1 (o + k) (va_Pc (.ref (o + k) :: As) (Wd N o D tys E)) As :=
  ⟨(lw_pre C P _).1, va_recv C.2.2.2.1 P hc (by rw [wl_get hk, he]), (lw_pre C P _).2⟩
theorem lw_callC {Φ : Int32 → Mm → Prop} (hr : va_Run p l e R s m args below meth c H locs cells slots 0 0 (F0 m pc ls st0) rest (Qg vI Φ (fun μ => Wd 747 o D tys (EC cA o μ)) (aA o 747) a) (aA o 747)) (P : HpL o D cA μ ρ s H locs)
    (kk : ∀ (r : Int32) (μ1 : Mm) (H1 : Heap) (locs1 : List Loc), Φ r μ1 → HpL o D cA μ1 ρ s H1 locs1 → W p l e R s m args below meth c H1 locs1 cells slots Q (F0 m (pc + 3) ls (.int r :: rest))) : W p l e R s m args below meth c H locs cells slots Q (F0 m pc ls st0) := by
  intro T hT X
  obtain ⟨v, st₀, t, T', L, h0, X', hL, e1, e2, ⟨⟨r, μ1, hv, hp, hb⟩, hz, hk⟩, st⟩ := hr T hT X
  cases hv
  rw [h0] at hz hk
  have hS := P.2.2
  obtain ⟨t2, a1, b1⟩ := kk r μ1 T'.heap (locs ++ L) hp ⟨by rw [e1]; exact hb.1, by rw [e1]; exact wl_kept P.2.1 (fun q h1 h2 h3 => hk q h1 (fun z => by have := z.2; omega)), Nat.le_trans hS.1 (by rw [e1]; exact hz), fun q h1 h2 => by rw [e1, hk q (Nat.lt_of_lt_of_le h1 hS.1) (fun z => h2 z.1)]; exact hS.2.1 q h1 h2, fun q hq => by
      rcases List.mem_append.mp hq with h | h
      · exact hS.2.2 q h
      · exact (hL q h).1⟩ T' rfl X'
  exact ⟨t2, st t2 a1, b1⟩
theorem lw_callM {Φ : Int32 → Mm → Prop} (hr : va_Run p l e R s m args below meth c H locs cells slots 0 0 (F0 m pc ls st0) rest (Qg vI Φ (fun ρ => Wd 6 (o + 747) D tys (EM cA (o + 747) ρ)) (aA (o + 747) 6) a) (aA (o + 747) 6)) (P : HpL o D cA μ ρ s H locs)
    (kk : ∀ (r : Int32) (ρ1 : Mm) (H1 : Heap) (locs1 : List Loc), Φ r ρ1 → HpL o D cA μ ρ1 s H1 locs1 → W p l e R s m args below meth c H1 locs1 cells slots Q (F0 m (pc + 3) ls (.int r :: rest))) : W p l e R s m args below meth c H locs cells slots Q (F0 m pc ls st0) := by
  intro T hT X
  obtain ⟨v, st₀, t, T', L, h0, X', hL, e1, e2, ⟨⟨r, ρ1, hv, hp, hb⟩, hz, hk⟩, st⟩ := hr T hT X
  cases hv
  rw [h0] at hz hk
  have hS := P.2.2
  obtain ⟨t2, a1, b1⟩ := kk r ρ1 T'.heap (locs ++ L) hp ⟨by rw [e1]; exact wl_kept P.1 (fun q h1 h2 h3 => hk q h1 (fun z => by have := z.1; omega)), by rw [e1]; exact hb.1, Nat.le_trans hS.1 (by rw [e1]; exact hz), fun q h1 h2 => by rw [e1, hk q (Nat.lt_of_lt_of_le h1 hS.1) (fun z => h2 (by have := z.1; omega))]; exact hS.2.1 q h1 h2, fun q hq => by
      rcases List.mem_append.mp hq with h | h
      · exact hS.2.2 q h
      · have := (hL q h).1; omega⟩ T' rfl X'
  exact ⟨t2, st t2 a1, b1⟩
end LAWROWS

def Op_addGate (S : Nat → Mm → Mm → Prop) : Prop := ∀ (n : Nat) (μ ρ : Mm), n < 512 → S n μ ρ → ∀ (a0 a1 a2 a3 : Int32), w_X9_addGate a0 a1 a2 a3 μ (fun r μ1 => w_X10_addGate a0 a1 a2 a3 ρ (fun t ρ1 => r = t ∧ S (n + 1) μ1 ρ1))
def Op_setDirection (S : Nat → Mm → Mm → Prop) : Prop := ∀ (n : Nat) (μ ρ : Mm), n < 512 → S n μ ρ → ∀ (a0 a1 : Int32), w_X9_setDirection a0 a1 μ (fun r μ1 => w_X10_setDirection a0 a1 ρ (fun t ρ1 => r = t ∧ S (n + 1) μ1 ρ1))
def Op_addPool (S : Nat → Mm → Mm → Prop) : Prop := ∀ (n : Nat) (μ ρ : Mm), n < 512 → S n μ ρ → ∀ (a0 : Int32), w_X9_addPool a0 μ (fun r μ1 => w_X10_addPool a0 ρ (fun t ρ1 => r = t ∧ S (n + 1) μ1 ρ1))
def Op_credit (S : Nat → Mm → Mm → Prop) : Prop := ∀ (n : Nat) (μ ρ : Mm), n < 512 → S n μ ρ → ∀ (a0 a1 : Int32), w_X9_credit a0 a1 μ (fun r μ1 => w_X10_credit a0 a1 ρ (fun t ρ1 => r = t ∧ S (n + 1) μ1 ρ1))
def Op_addPass (S : Nat → Mm → Mm → Prop) : Prop := ∀ (n : Nat) (μ ρ : Mm), n < 512 → S n μ ρ → ∀ (a0 : Int32), w_X9_addPass a0 μ (fun r μ1 => w_X10_addPass a0 ρ (fun t ρ1 => r = t ∧ S (n + 1) μ1 ρ1))
def Op_block (S : Nat → Mm → Mm → Prop) : Prop := ∀ (n : Nat) (μ ρ : Mm), n < 512 → S n μ ρ → ∀ (a0 a1 : Int32), isB a1 → w_X9_block a0 a1 μ (fun r μ1 => w_X10_block a0 a1 ρ (fun t ρ1 => r = t ∧ S (n + 1) μ1 ρ1))
def Op_setFare (S : Nat → Mm → Mm → Prop) : Prop := ∀ (n : Nat) (μ ρ : Mm), n < 512 → S n μ ρ → ∀ (a0 : Int32), w_X9_setFare a0 μ (fun r μ1 => w_X10_setFare a0 ρ (fun t ρ1 => r = t ∧ S (n + 1) μ1 ρ1))
def Op_enter (S : Nat → Mm → Mm → Prop) : Prop := ∀ (n : Nat) (μ ρ : Mm), n < 512 → S n μ ρ → ∀ (a0 a1 a2 : Int32), isB a2 → w_X9_enter a0 a1 a2 μ (fun r μ1 => w_X10_enter a0 a1 a2 ρ (fun t ρ1 => r = t ∧ S (n + 1) μ1 ρ1))
def Op_exit (S : Nat → Mm → Mm → Prop) : Prop := ∀ (n : Nat) (μ ρ : Mm), n < 512 → S n μ ρ → ∀ (a0 a1 : Int32), w_X9_exit a0 a1 μ (fun r μ1 => w_X10_exit a0 a1 ρ (fun t ρ1 => r = t ∧ S (n + 1) μ1 ρ1))
def Op_divert (S : Nat → Mm → Mm → Prop) : Prop := ∀ (n : Nat) (μ ρ : Mm), n < 512 → S n μ ρ → ∀ (a0 a1 : Int32), w_X9_divert a0 a1 μ (fun r μ1 => w_X10_divert a0 a1 ρ (fun t ρ1 => r = t ∧ S (n + 1) μ1 ρ1))
def Op_pinch (S : Nat → Mm → Mm → Prop) : Prop := ∀ (n : Nat) (μ ρ : Mm), n < 512 → S n μ ρ → ∀ (a0 : Int32), w_X9_pinch a0 μ (fun r μ1 => w_X10_pinch a0 ρ (fun t ρ1 => r = t ∧ S (n + 1) μ1 ρ1))
def Op_fail (S : Nat → Mm → Mm → Prop) : Prop := ∀ (n : Nat) (μ ρ : Mm), n < 512 → S n μ ρ → ∀ (a0 : Int32), w_X9_fail a0 μ (fun r μ1 => w_X10_fail a0 ρ (fun t ρ1 => r = t ∧ S (n + 1) μ1 ρ1))
def Op_repair (S : Nat → Mm → Mm → Prop) : Prop := ∀ (n : Nat) (μ ρ : Mm), n < 512 → S n μ ρ → ∀ (a0 : Int32), w_X9_repair a0 μ (fun r μ1 => w_X10_repair a0 ρ (fun t ρ1 => r = t ∧ S (n + 1) μ1 ρ1))
def Op_pass (S : Nat → Mm → Mm → Prop) : Prop := ∀ (n : Nat) (μ ρ : Mm), n < 512 → S n μ ρ → ∀ (a0 : Int32), w_X9_pass a0 μ (fun r μ1 => w_X10_pass a0 ρ (fun t ρ1 => r = t ∧ S (n + 1) μ1 ρ1))
def Op_type (S : Nat → Mm → Mm → Prop) : Prop := ∀ (n : Nat) (μ ρ : Mm), n < 512 → S n μ ρ → ∀ (a0 : Int32), w_X9_type a0 μ (fun r μ1 => w_X10_type a0 ρ (fun t ρ1 => r = t ∧ S (n + 1) μ1 ρ1))
def Op_clearText (S : Nat → Mm → Mm → Prop) : Prop := ∀ (n : Nat) (μ ρ : Mm), n < 512 → S n μ ρ → w_X9_clearText  μ (fun r μ1 => w_X10_clearText  ρ (fun t ρ1 => r = t ∧ S (n + 1) μ1 ρ1))
def Op_run (S : Nat → Mm → Mm → Prop) : Prop := ∀ (n : Nat) (μ ρ : Mm), n < 512 → S n μ ρ → w_X9_run  μ (fun r μ1 => w_X10_run  ρ (fun t ρ1 => r = t ∧ S (n + 1) μ1 ρ1))
def Op_undo (S : Nat → Mm → Mm → Prop) : Prop := ∀ (n : Nat) (μ ρ : Mm), n < 512 → S n μ ρ → w_X9_undo  μ (fun r μ1 => w_X10_undo  ρ (fun t ρ1 => r = t ∧ S (n + 1) μ1 ρ1))
def Op_gate (S : Nat → Mm → Mm → Prop) : Prop := ∀ (n : Nat) (μ ρ : Mm), n < 512 → S n μ ρ → ∀ (a0 a1 : Int32), w_X9_gate a0 a1 μ (fun r μ1 => w_X10_gate a0 a1 ρ (fun t ρ1 => r = t ∧ S (n + 1) μ1 ρ1))
def Op_queued (S : Nat → Mm → Mm → Prop) : Prop := ∀ (n : Nat) (μ ρ : Mm), n < 512 → S n μ ρ → ∀ (a0 a1 a2 : Int32), w_X9_queued a0 a1 a2 μ (fun r μ1 => w_X10_queued a0 a1 a2 ρ (fun t ρ1 => r = t ∧ S (n + 1) μ1 ρ1))
def Op_person (S : Nat → Mm → Mm → Prop) : Prop := ∀ (n : Nat) (μ ρ : Mm), n < 512 → S n μ ρ → ∀ (a0 a1 : Int32), w_X9_person a0 a1 μ (fun r μ1 => w_X10_person a0 a1 ρ (fun t ρ1 => r = t ∧ S (n + 1) μ1 ρ1))
def Op_pool (S : Nat → Mm → Mm → Prop) : Prop := ∀ (n : Nat) (μ ρ : Mm), n < 512 → S n μ ρ → ∀ (a0 a1 : Int32), w_X9_pool a0 a1 μ (fun r μ1 => w_X10_pool a0 a1 ρ (fun t ρ1 => r = t ∧ S (n + 1) μ1 ρ1))
def Op_passOf (S : Nat → Mm → Mm → Prop) : Prop := ∀ (n : Nat) (μ ρ : Mm), n < 512 → S n μ ρ → ∀ (a0 a1 : Int32), w_X9_passOf a0 a1 μ (fun r μ1 => w_X10_passOf a0 a1 ρ (fun t ρ1 => r = t ∧ S (n + 1) μ1 ρ1))
def Op_event (S : Nat → Mm → Mm → Prop) : Prop := ∀ (n : Nat) (μ ρ : Mm), n < 512 → S n μ ρ → ∀ (a0 a1 : Int32), w_X9_event a0 a1 μ (fun r μ1 => w_X10_event a0 a1 ρ (fun t ρ1 => r = t ∧ S (n + 1) μ1 ρ1))
def Op_passesIn (S : Nat → Mm → Mm → Prop) : Prop := ∀ (n : Nat) (μ ρ : Mm), n < 512 → S n μ ρ → ∀ (a0 : Int32), w_X9_passesIn a0 μ (fun r μ1 => w_X10_passesIn a0 ρ (fun t ρ1 => r = t ∧ S (n + 1) μ1 ρ1))
def Op_count (S : Nat → Mm → Mm → Prop) : Prop := ∀ (n : Nat) (μ ρ : Mm), n < 512 → S n μ ρ → ∀ (a0 : Int32), w_X9_count a0 μ (fun r μ1 => w_X10_count a0 ρ (fun t ρ1 => r = t ∧ S (n + 1) μ1 ρ1))
def Op_none (S : Nat → Mm → Mm → Prop) : Prop := ∀ (n : Nat) (μ ρ : Mm), n < 512 → S n μ ρ → S (n + 1) μ ρ
def Ops (S : Nat → Mm → Mm → Prop) : Prop := Op_addGate S ∧ Op_setDirection S ∧ Op_addPool S ∧ Op_credit S ∧ Op_addPass S ∧ Op_block S ∧ Op_setFare S ∧ Op_enter S ∧ Op_exit S ∧ Op_divert S ∧ Op_pinch S ∧ Op_fail S ∧ Op_repair S ∧ Op_pass S ∧ Op_type S ∧ Op_clearText S ∧ Op_run S ∧ Op_undo S ∧ Op_gate S ∧ Op_queued S ∧ Op_person S ∧ Op_pool S ∧ Op_passOf S ∧ Op_event S ∧ Op_passesIn S ∧ Op_count S ∧ Op_none S
set_option maxHeartbeats 4000000 in
set_option maxRecDepth 100000 in
theorem lw_case_addGate {p : Program} {l : Launch} {e : Env} {s : State} {m : MethodId} {below : List Frame} {meth : Method} {c : Code} {D : va_G} {cA : Nat → ClassId} {b L : Nat} {xs : Nat → Int32} {S : Nat → Mm → Mm → Prop} {Q : State → Prop} {o : Nat} (C : Cx p m meth c s #[Value.ref b] cL_law 4 wsL_law RL ret D (tysL cA)) (hX : va_X b L xs s s.heap) (hbl : b < s.heap.size) (hbA : ¬ (fun q : Nat => o ≤ q) b) (hop : Op_addGate S) {n i : Nat} (hn : n < 512) (hi : 5 * i + 5 ≤ L) (hL : L ≤ 2560) {μ ρ : Mm} (hS : S n μ ρ) (hkk : ∀ (μ ρ : Mm) (H : Heap) (locs : List Loc) (ls : Array Slot), S (n + 1) μ ρ → HpL o D cA μ ρ s H locs → lv_has ls 4 [(0, .ref b), (1, .ref (o + 0)), (2, .ref (o + 747 + 0)), (3, .int (nI (5 * i)))] → W p l e room_1 s m #[Value.ref b] below meth c H locs 753 12448 Q (F0 m 924 ls [])) (H : Heap) (locs : List Loc) (ls : Array Slot) (P : HpL o D cA μ ρ s H locs) (hl : lv_has ls 4 [(0, .ref b), (1, .ref (o + 0)), (2, .ref (o + 747 + 0)), (3, .int (nI (5 * i)))]) : W p l e room_1 s m #[Value.ref b] below meth c H locs 753 12448 Q (F0 m 152 ls []) := by
  have hx := C.1.1
  have hb := C.1.2.1
  have hj1 : nI (5 * i) + 1 = nI (5 * i + 1) := by rw [show (1 : Int32) = nI 1 from rfl, nI_add]
  have hj2 : nI (5 * i) + 2 = nI (5 * i + 2) := by rw [show (2 : Int32) = nI 2 from rfl, nI_add]
  have hj3 : nI (5 * i) + 3 = nI (5 * i + 3) := by rw [show (3 : Int32) = nI 3 from rfl, nI_add]
  have hj4 : nI (5 * i) + 4 = nI (5 * i + 4) := by rw [show (4 : Int32) = nI 4 from rfl, nI_add]
  have hv1 : vp_in (nI (5 * i) + 1) L := by rw [hj1]; exact vp_in_nI (by omega) (by omega)
  have hv2 : vp_in (nI (5 * i) + 2) L := by rw [hj2]; exact vp_in_nI (by omega) (by omega)
  have hv3 : vp_in (nI (5 * i) + 3) L := by rw [hj3]; exact vp_in_nI (by omega) (by omega)
  have hv4 : vp_in (nI (5 * i) + 4) L := by rw [hj4]; exact vp_in_nI (by omega) (by omega)
  refine lv_aload_n hx hb dL_law_152 rfl (lv_at hl 1 rfl) ?_
  refine lv_aload_n hx hb dL_law_153 rfl (lv_at hl 0 rfl) ?_
  refine lv_iload_n hx hb dL_law_154 rfl (lv_at hl 3 rfl) ?_
  refine lv_iconst (v := 1) hx hb dL_law_155 (by decide) ?_
  refine lv_iadd hx hb dL_law_156 ?_
  refine va_sld (A := fun q => o ≤ q) hx hb hX hbl hbA P.2.2 hv1 dL_law_157 ?_
  refine lv_aload_n hx hb dL_law_158 rfl (lv_at hl 0 rfl) ?_
  refine lv_iload_n hx hb dL_law_159 rfl (lv_at hl 3 rfl) ?_
  refine lv_iconst (v := 2) hx hb dL_law_160 (by decide) ?_
  refine lv_iadd hx hb dL_law_161 ?_
  refine va_sld (A := fun q => o ≤ q) hx hb hX hbl hbA P.2.2 hv2 dL_law_162 ?_
  refine lv_aload_n hx hb dL_law_163 rfl (lv_at hl 0 rfl) ?_
  refine lv_iload_n hx hb dL_law_164 rfl (lv_at hl 3 rfl) ?_
  refine lv_iconst (v := 3) hx hb dL_law_165 (by decide) ?_
  refine lv_iadd hx hb dL_law_166 ?_
  refine va_sld (A := fun q => o ≤ q) hx hb hX hbl hbA P.2.2 hv3 dL_law_167 ?_
  refine lv_aload_n hx hb dL_law_168 rfl (lv_at hl 0 rfl) ?_
  refine lv_iload_n hx hb dL_law_169 rfl (lv_at hl 3 rfl) ?_
  refine lv_iconst (v := 4) hx hb dL_law_170 (by decide) ?_
  refine lv_iadd hx hb dL_law_171 ?_
  refine va_sld (A := fun q => o ≤ q) hx hb hX hbl hbA P.2.2 hv4 dL_law_172 ?_
  have h := hop n μ ρ hn hS ((xs (nI (5 * i) + 1).toNatClampNeg)) ((xs (nI (5 * i) + 2).toNatClampNeg)) ((xs (nI (5 * i) + 3).toNatClampNeg)) ((xs (nI (5 * i) + 4).toNatClampNeg))
  refine lw_callC (va_runV (As := [.int ((xs (nI (5 * i) + 1).toNatClampNeg)), .int ((xs (nI (5 * i) + 2).toNatClampNeg)), .int ((xs (nI (5 * i) + 3).toNatClampNeg)), .int ((xs (nI (5 * i) + 4).toNatClampNeg))]) (rest := []) C.1 (c_X9_addGate l D cA o _ _ _ _ μ _ h) (cwV 4 C.1.2.2.2.2 gL_law_X9_addGate rfl rfl rfl (by decide +kernel) ⟨Nat.le_of_ble_eq_true rfl, Nat.le_of_ble_eq_true rfl⟩) (lw_preV C P.1 [.int ((xs (nI (5 * i) + 1).toNatClampNeg)), .int ((xs (nI (5 * i) + 2).toNatClampNeg)), .int ((xs (nI (5 * i) + 3).toNatClampNeg)), .int ((xs (nI (5 * i) + 4).toNatClampNeg))] (ci := 9) rfl (by decide) (EK_9 kd_at_0)) rfl rfl hl.1 rfl (lv_room (Nat.le_of_ble_eq_true rfl)) dL_law_173 ⟨Nat.le_of_ble_eq_true rfl, Nat.le_of_ble_eq_true rfl⟩) P (fun r μ1 H locs h P => ?_)
  refine lv_aload_n hx hb dL_law_176 rfl (lv_at hl 2 rfl) ?_
  refine lv_aload_n hx hb dL_law_177 rfl (lv_at hl 0 rfl) ?_
  refine lv_iload_n hx hb dL_law_178 rfl (lv_at hl 3 rfl) ?_
  refine lv_iconst (v := 1) hx hb dL_law_179 (by decide) ?_
  refine lv_iadd hx hb dL_law_180 ?_
  refine va_sld (A := fun q => o ≤ q) hx hb hX hbl hbA P.2.2 hv1 dL_law_181 ?_
  refine lv_aload_n hx hb dL_law_182 rfl (lv_at hl 0 rfl) ?_
  refine lv_iload_n hx hb dL_law_183 rfl (lv_at hl 3 rfl) ?_
  refine lv_iconst (v := 2) hx hb dL_law_184 (by decide) ?_
  refine lv_iadd hx hb dL_law_185 ?_
  refine va_sld (A := fun q => o ≤ q) hx hb hX hbl hbA P.2.2 hv2 dL_law_186 ?_
  refine lv_aload_n hx hb dL_law_187 rfl (lv_at hl 0 rfl) ?_
  refine lv_iload_n hx hb dL_law_188 rfl (lv_at hl 3 rfl) ?_
  refine lv_iconst (v := 3) hx hb dL_law_189 (by decide) ?_
  refine lv_iadd hx hb dL_law_190 ?_
  refine va_sld (A := fun q => o ≤ q) hx hb hX hbl hbA P.2.2 hv3 dL_law_191 ?_
  refine lv_aload_n hx hb dL_law_192 rfl (lv_at hl 0 rfl) ?_
  refine lv_iload_n hx hb dL_law_193 rfl (lv_at hl 3 rfl) ?_
  refine lv_iconst (v := 4) hx hb dL_law_194 (by decide) ?_
  refine lv_iadd hx hb dL_law_195 ?_
  refine va_sld (A := fun q => o ≤ q) hx hb hX hbl hbA P.2.2 hv4 dL_law_196 ?_
  refine lw_callM (va_runV (As := [.int ((xs (nI (5 * i) + 1).toNatClampNeg)), .int ((xs (nI (5 * i) + 2).toNatClampNeg)), .int ((xs (nI (5 * i) + 3).toNatClampNeg)), .int ((xs (nI (5 * i) + 4).toNatClampNeg))]) (rest := [.int r]) C.1 (c_X10_addGate l D cA (o + 747) _ _ _ _ ρ _ h) (cwV 4 C.1.2.2.2.2 gL_law_X10_addGate rfl rfl rfl (by decide +kernel) ⟨Nat.le_of_ble_eq_true rfl, Nat.le_of_ble_eq_true rfl⟩) (lw_preV C P.2.1 [.int ((xs (nI (5 * i) + 1).toNatClampNeg)), .int ((xs (nI (5 * i) + 2).toNatClampNeg)), .int ((xs (nI (5 * i) + 3).toNatClampNeg)), .int ((xs (nI (5 * i) + 4).toNatClampNeg))] (ci := 10) rfl (by decide) EKM_0) rfl rfl hl.1 rfl (lv_room (Nat.le_of_ble_eq_true rfl)) dL_law_197 ⟨Nat.le_of_ble_eq_true rfl, Nat.le_of_ble_eq_true rfl⟩) P (fun t ρ1 H locs h P => ?_)
  refine lv_icmp_eq (tgt := 924) hx hb dL_law_200 (by decide) (fun cz => ?_) (fun cz => ?_)
  · exact hkk μ1 ρ1 H locs ls h.2 P hl
  · exact absurd h.1 cz
set_option maxHeartbeats 4000000 in
set_option maxRecDepth 100000 in
theorem lw_case_setDirection {p : Program} {l : Launch} {e : Env} {s : State} {m : MethodId} {below : List Frame} {meth : Method} {c : Code} {D : va_G} {cA : Nat → ClassId} {b L : Nat} {xs : Nat → Int32} {S : Nat → Mm → Mm → Prop} {Q : State → Prop} {o : Nat} (C : Cx p m meth c s #[Value.ref b] cL_law 4 wsL_law RL ret D (tysL cA)) (hX : va_X b L xs s s.heap) (hbl : b < s.heap.size) (hbA : ¬ (fun q : Nat => o ≤ q) b) (hop : Op_setDirection S) {n i : Nat} (hn : n < 512) (hi : 5 * i + 5 ≤ L) (hL : L ≤ 2560) {μ ρ : Mm} (hS : S n μ ρ) (hkk : ∀ (μ ρ : Mm) (H : Heap) (locs : List Loc) (ls : Array Slot), S (n + 1) μ ρ → HpL o D cA μ ρ s H locs → lv_has ls 4 [(0, .ref b), (1, .ref (o + 0)), (2, .ref (o + 747 + 0)), (3, .int (nI (5 * i)))] → W p l e room_1 s m #[Value.ref b] below meth c H locs 753 12448 Q (F0 m 924 ls [])) (H : Heap) (locs : List Loc) (ls : Array Slot) (P : HpL o D cA μ ρ s H locs) (hl : lv_has ls 4 [(0, .ref b), (1, .ref (o + 0)), (2, .ref (o + 747 + 0)), (3, .int (nI (5 * i)))]) : W p l e room_1 s m #[Value.ref b] below meth c H locs 753 12448 Q (F0 m 205 ls []) := by
  have hx := C.1.1
  have hb := C.1.2.1
  have hj1 : nI (5 * i) + 1 = nI (5 * i + 1) := by rw [show (1 : Int32) = nI 1 from rfl, nI_add]
  have hj2 : nI (5 * i) + 2 = nI (5 * i + 2) := by rw [show (2 : Int32) = nI 2 from rfl, nI_add]
  have hv1 : vp_in (nI (5 * i) + 1) L := by rw [hj1]; exact vp_in_nI (by omega) (by omega)
  have hv2 : vp_in (nI (5 * i) + 2) L := by rw [hj2]; exact vp_in_nI (by omega) (by omega)
  refine lv_aload_n hx hb dL_law_205 rfl (lv_at hl 1 rfl) ?_
  refine lv_aload_n hx hb dL_law_206 rfl (lv_at hl 0 rfl) ?_
  refine lv_iload_n hx hb dL_law_207 rfl (lv_at hl 3 rfl) ?_
  refine lv_iconst (v := 1) hx hb dL_law_208 (by decide) ?_
  refine lv_iadd hx hb dL_law_209 ?_
  refine va_sld (A := fun q => o ≤ q) hx hb hX hbl hbA P.2.2 hv1 dL_law_210 ?_
  refine lv_aload_n hx hb dL_law_211 rfl (lv_at hl 0 rfl) ?_
  refine lv_iload_n hx hb dL_law_212 rfl (lv_at hl 3 rfl) ?_
  refine lv_iconst (v := 2) hx hb dL_law_213 (by decide) ?_
  refine lv_iadd hx hb dL_law_214 ?_
  refine va_sld (A := fun q => o ≤ q) hx hb hX hbl hbA P.2.2 hv2 dL_law_215 ?_
  have h := hop n μ ρ hn hS ((xs (nI (5 * i) + 1).toNatClampNeg)) ((xs (nI (5 * i) + 2).toNatClampNeg))
  refine lw_callC (va_runV (As := [.int ((xs (nI (5 * i) + 1).toNatClampNeg)), .int ((xs (nI (5 * i) + 2).toNatClampNeg))]) (rest := []) C.1 (c_X9_setDirection l D cA o _ _ μ _ h) (cwV 2 C.1.2.2.2.2 gL_law_X9_setDirection rfl rfl rfl (by decide +kernel) ⟨Nat.le_of_ble_eq_true rfl, Nat.le_of_ble_eq_true rfl⟩) (lw_preV C P.1 [.int ((xs (nI (5 * i) + 1).toNatClampNeg)), .int ((xs (nI (5 * i) + 2).toNatClampNeg))] (ci := 9) rfl (by decide) (EK_9 kd_at_0)) rfl rfl hl.1 rfl (lv_room (Nat.le_of_ble_eq_true rfl)) dL_law_216 ⟨Nat.le_of_ble_eq_true rfl, Nat.le_of_ble_eq_true rfl⟩) P (fun r μ1 H locs h P => ?_)
  refine lv_aload_n hx hb dL_law_219 rfl (lv_at hl 2 rfl) ?_
  refine lv_aload_n hx hb dL_law_220 rfl (lv_at hl 0 rfl) ?_
  refine lv_iload_n hx hb dL_law_221 rfl (lv_at hl 3 rfl) ?_
  refine lv_iconst (v := 1) hx hb dL_law_222 (by decide) ?_
  refine lv_iadd hx hb dL_law_223 ?_
  refine va_sld (A := fun q => o ≤ q) hx hb hX hbl hbA P.2.2 hv1 dL_law_224 ?_
  refine lv_aload_n hx hb dL_law_225 rfl (lv_at hl 0 rfl) ?_
  refine lv_iload_n hx hb dL_law_226 rfl (lv_at hl 3 rfl) ?_
  refine lv_iconst (v := 2) hx hb dL_law_227 (by decide) ?_
  refine lv_iadd hx hb dL_law_228 ?_
  refine va_sld (A := fun q => o ≤ q) hx hb hX hbl hbA P.2.2 hv2 dL_law_229 ?_
  refine lw_callM (va_runV (As := [.int ((xs (nI (5 * i) + 1).toNatClampNeg)), .int ((xs (nI (5 * i) + 2).toNatClampNeg))]) (rest := [.int r]) C.1 (c_X10_setDirection l D cA (o + 747) _ _ ρ _ h) (cwV 2 C.1.2.2.2.2 gL_law_X10_setDirection rfl rfl rfl (by decide +kernel) ⟨Nat.le_of_ble_eq_true rfl, Nat.le_of_ble_eq_true rfl⟩) (lw_preV C P.2.1 [.int ((xs (nI (5 * i) + 1).toNatClampNeg)), .int ((xs (nI (5 * i) + 2).toNatClampNeg))] (ci := 10) rfl (by decide) EKM_0) rfl rfl hl.1 rfl (lv_room (Nat.le_of_ble_eq_true rfl)) dL_law_230 ⟨Nat.le_of_ble_eq_true rfl, Nat.le_of_ble_eq_true rfl⟩) P (fun t ρ1 H locs h P => ?_)
  refine lv_icmp_eq (tgt := 924) hx hb dL_law_233 (by decide) (fun cz => ?_) (fun cz => ?_)
  · exact hkk μ1 ρ1 H locs ls h.2 P hl
  · exact absurd h.1 cz
set_option maxHeartbeats 4000000 in
set_option maxRecDepth 100000 in
theorem lw_case_addPool {p : Program} {l : Launch} {e : Env} {s : State} {m : MethodId} {below : List Frame} {meth : Method} {c : Code} {D : va_G} {cA : Nat → ClassId} {b L : Nat} {xs : Nat → Int32} {S : Nat → Mm → Mm → Prop} {Q : State → Prop} {o : Nat} (C : Cx p m meth c s #[Value.ref b] cL_law 4 wsL_law RL ret D (tysL cA)) (hX : va_X b L xs s s.heap) (hbl : b < s.heap.size) (hbA : ¬ (fun q : Nat => o ≤ q) b) (hop : Op_addPool S) {n i : Nat} (hn : n < 512) (hi : 5 * i + 5 ≤ L) (hL : L ≤ 2560) {μ ρ : Mm} (hS : S n μ ρ) (hkk : ∀ (μ ρ : Mm) (H : Heap) (locs : List Loc) (ls : Array Slot), S (n + 1) μ ρ → HpL o D cA μ ρ s H locs → lv_has ls 4 [(0, .ref b), (1, .ref (o + 0)), (2, .ref (o + 747 + 0)), (3, .int (nI (5 * i)))] → W p l e room_1 s m #[Value.ref b] below meth c H locs 753 12448 Q (F0 m 924 ls [])) (H : Heap) (locs : List Loc) (ls : Array Slot) (P : HpL o D cA μ ρ s H locs) (hl : lv_has ls 4 [(0, .ref b), (1, .ref (o + 0)), (2, .ref (o + 747 + 0)), (3, .int (nI (5 * i)))]) : W p l e room_1 s m #[Value.ref b] below meth c H locs 753 12448 Q (F0 m 238 ls []) := by
  have hx := C.1.1
  have hb := C.1.2.1
  have hj1 : nI (5 * i) + 1 = nI (5 * i + 1) := by rw [show (1 : Int32) = nI 1 from rfl, nI_add]
  have hv1 : vp_in (nI (5 * i) + 1) L := by rw [hj1]; exact vp_in_nI (by omega) (by omega)
  refine lv_aload_n hx hb dL_law_238 rfl (lv_at hl 1 rfl) ?_
  refine lv_aload_n hx hb dL_law_239 rfl (lv_at hl 0 rfl) ?_
  refine lv_iload_n hx hb dL_law_240 rfl (lv_at hl 3 rfl) ?_
  refine lv_iconst (v := 1) hx hb dL_law_241 (by decide) ?_
  refine lv_iadd hx hb dL_law_242 ?_
  refine va_sld (A := fun q => o ≤ q) hx hb hX hbl hbA P.2.2 hv1 dL_law_243 ?_
  have h := hop n μ ρ hn hS ((xs (nI (5 * i) + 1).toNatClampNeg))
  refine lw_callC (va_runV (As := [.int ((xs (nI (5 * i) + 1).toNatClampNeg))]) (rest := []) C.1 (c_X9_addPool l D cA o _ μ _ h) (cwV 1 C.1.2.2.2.2 gL_law_X9_addPool rfl rfl rfl (by decide +kernel) ⟨Nat.le_of_ble_eq_true rfl, Nat.le_of_ble_eq_true rfl⟩) (lw_preV C P.1 [.int ((xs (nI (5 * i) + 1).toNatClampNeg))] (ci := 9) rfl (by decide) (EK_9 kd_at_0)) rfl rfl hl.1 rfl (lv_room (Nat.le_of_ble_eq_true rfl)) dL_law_244 ⟨Nat.le_of_ble_eq_true rfl, Nat.le_of_ble_eq_true rfl⟩) P (fun r μ1 H locs h P => ?_)
  refine lv_aload_n hx hb dL_law_247 rfl (lv_at hl 2 rfl) ?_
  refine lv_aload_n hx hb dL_law_248 rfl (lv_at hl 0 rfl) ?_
  refine lv_iload_n hx hb dL_law_249 rfl (lv_at hl 3 rfl) ?_
  refine lv_iconst (v := 1) hx hb dL_law_250 (by decide) ?_
  refine lv_iadd hx hb dL_law_251 ?_
  refine va_sld (A := fun q => o ≤ q) hx hb hX hbl hbA P.2.2 hv1 dL_law_252 ?_
  refine lw_callM (va_runV (As := [.int ((xs (nI (5 * i) + 1).toNatClampNeg))]) (rest := [.int r]) C.1 (c_X10_addPool l D cA (o + 747) _ ρ _ h) (cwV 1 C.1.2.2.2.2 gL_law_X10_addPool rfl rfl rfl (by decide +kernel) ⟨Nat.le_of_ble_eq_true rfl, Nat.le_of_ble_eq_true rfl⟩) (lw_preV C P.2.1 [.int ((xs (nI (5 * i) + 1).toNatClampNeg))] (ci := 10) rfl (by decide) EKM_0) rfl rfl hl.1 rfl (lv_room (Nat.le_of_ble_eq_true rfl)) dL_law_253 ⟨Nat.le_of_ble_eq_true rfl, Nat.le_of_ble_eq_true rfl⟩) P (fun t ρ1 H locs h P => ?_)
  refine lv_icmp_eq (tgt := 924) hx hb dL_law_256 (by decide) (fun cz => ?_) (fun cz => ?_)
  · exact hkk μ1 ρ1 H locs ls h.2 P hl
  · exact absurd h.1 cz
set_option maxHeartbeats 4000000 in
set_option maxRecDepth 100000 in
theorem lw_case_credit {p : Program} {l : Launch} {e : Env} {s : State} {m : MethodId} {below : List Frame} {meth : Method} {c : Code} {D : va_G} {cA : Nat → ClassId} {b L : Nat} {xs : Nat → Int32} {S : Nat → Mm → Mm → Prop} {Q : State → Prop} {o : Nat} (C : Cx p m meth c s #[Value.ref b] cL_law 4 wsL_law RL ret D (tysL cA)) (hX : va_X b L xs s s.heap) (hbl : b < s.heap.size) (hbA : ¬ (fun q : Nat => o ≤ q) b) (hop : Op_credit S) {n i : Nat} (hn : n < 512) (hi : 5 * i + 5 ≤ L) (hL : L ≤ 2560) {μ ρ : Mm} (hS : S n μ ρ) (hkk : ∀ (μ ρ : Mm) (H : Heap) (locs : List Loc) (ls : Array Slot), S (n + 1) μ ρ → HpL o D cA μ ρ s H locs → lv_has ls 4 [(0, .ref b), (1, .ref (o + 0)), (2, .ref (o + 747 + 0)), (3, .int (nI (5 * i)))] → W p l e room_1 s m #[Value.ref b] below meth c H locs 753 12448 Q (F0 m 924 ls [])) (H : Heap) (locs : List Loc) (ls : Array Slot) (P : HpL o D cA μ ρ s H locs) (hl : lv_has ls 4 [(0, .ref b), (1, .ref (o + 0)), (2, .ref (o + 747 + 0)), (3, .int (nI (5 * i)))]) : W p l e room_1 s m #[Value.ref b] below meth c H locs 753 12448 Q (F0 m 261 ls []) := by
  have hx := C.1.1
  have hb := C.1.2.1
  have hj1 : nI (5 * i) + 1 = nI (5 * i + 1) := by rw [show (1 : Int32) = nI 1 from rfl, nI_add]
  have hj2 : nI (5 * i) + 2 = nI (5 * i + 2) := by rw [show (2 : Int32) = nI 2 from rfl, nI_add]
  have hv1 : vp_in (nI (5 * i) + 1) L := by rw [hj1]; exact vp_in_nI (by omega) (by omega)
  have hv2 : vp_in (nI (5 * i) + 2) L := by rw [hj2]; exact vp_in_nI (by omega) (by omega)
  refine lv_aload_n hx hb dL_law_261 rfl (lv_at hl 1 rfl) ?_
  refine lv_aload_n hx hb dL_law_262 rfl (lv_at hl 0 rfl) ?_
  refine lv_iload_n hx hb dL_law_263 rfl (lv_at hl 3 rfl) ?_
  refine lv_iconst (v := 1) hx hb dL_law_264 (by decide) ?_
  refine lv_iadd hx hb dL_law_265 ?_
  refine va_sld (A := fun q => o ≤ q) hx hb hX hbl hbA P.2.2 hv1 dL_law_266 ?_
  refine lv_aload_n hx hb dL_law_267 rfl (lv_at hl 0 rfl) ?_
  refine lv_iload_n hx hb dL_law_268 rfl (lv_at hl 3 rfl) ?_
  refine lv_iconst (v := 2) hx hb dL_law_269 (by decide) ?_
  refine lv_iadd hx hb dL_law_270 ?_
  refine va_sld (A := fun q => o ≤ q) hx hb hX hbl hbA P.2.2 hv2 dL_law_271 ?_
  have h := hop n μ ρ hn hS ((xs (nI (5 * i) + 1).toNatClampNeg)) ((xs (nI (5 * i) + 2).toNatClampNeg))
  refine lw_callC (va_runV (As := [.int ((xs (nI (5 * i) + 1).toNatClampNeg)), .int ((xs (nI (5 * i) + 2).toNatClampNeg))]) (rest := []) C.1 (c_X9_credit l D cA o _ _ μ _ h) (cwV 2 C.1.2.2.2.2 gL_law_X9_credit rfl rfl rfl (by decide +kernel) ⟨Nat.le_of_ble_eq_true rfl, Nat.le_of_ble_eq_true rfl⟩) (lw_preV C P.1 [.int ((xs (nI (5 * i) + 1).toNatClampNeg)), .int ((xs (nI (5 * i) + 2).toNatClampNeg))] (ci := 9) rfl (by decide) (EK_9 kd_at_0)) rfl rfl hl.1 rfl (lv_room (Nat.le_of_ble_eq_true rfl)) dL_law_272 ⟨Nat.le_of_ble_eq_true rfl, Nat.le_of_ble_eq_true rfl⟩) P (fun r μ1 H locs h P => ?_)
  refine lv_aload_n hx hb dL_law_275 rfl (lv_at hl 2 rfl) ?_
  refine lv_aload_n hx hb dL_law_276 rfl (lv_at hl 0 rfl) ?_
  refine lv_iload_n hx hb dL_law_277 rfl (lv_at hl 3 rfl) ?_
  refine lv_iconst (v := 1) hx hb dL_law_278 (by decide) ?_
  refine lv_iadd hx hb dL_law_279 ?_
  refine va_sld (A := fun q => o ≤ q) hx hb hX hbl hbA P.2.2 hv1 dL_law_280 ?_
  refine lv_aload_n hx hb dL_law_281 rfl (lv_at hl 0 rfl) ?_
  refine lv_iload_n hx hb dL_law_282 rfl (lv_at hl 3 rfl) ?_
  refine lv_iconst (v := 2) hx hb dL_law_283 (by decide) ?_
  refine lv_iadd hx hb dL_law_284 ?_
  refine va_sld (A := fun q => o ≤ q) hx hb hX hbl hbA P.2.2 hv2 dL_law_285 ?_
  refine lw_callM (va_runV (As := [.int ((xs (nI (5 * i) + 1).toNatClampNeg)), .int ((xs (nI (5 * i) + 2).toNatClampNeg))]) (rest := [.int r]) C.1 (c_X10_credit l D cA (o + 747) _ _ ρ _ h) (cwV 2 C.1.2.2.2.2 gL_law_X10_credit rfl rfl rfl (by decide +kernel) ⟨Nat.le_of_ble_eq_true rfl, Nat.le_of_ble_eq_true rfl⟩) (lw_preV C P.2.1 [.int ((xs (nI (5 * i) + 1).toNatClampNeg)), .int ((xs (nI (5 * i) + 2).toNatClampNeg))] (ci := 10) rfl (by decide) EKM_0) rfl rfl hl.1 rfl (lv_room (Nat.le_of_ble_eq_true rfl)) dL_law_286 ⟨Nat.le_of_ble_eq_true rfl, Nat.le_of_ble_eq_true rfl⟩) P (fun t ρ1 H locs h P => ?_)
  refine lv_icmp_eq (tgt := 924) hx hb dL_law_289 (by decide) (fun cz => ?_) (fun cz => ?_)
  · exact hkk μ1 ρ1 H locs ls h.2 P hl
  · exact absurd h.1 cz
set_option maxHeartbeats 4000000 in
set_option maxRecDepth 100000 in
theorem lw_case_addPass {p : Program} {l : Launch} {e : Env} {s : State} {m : MethodId} {below : List Frame} {meth : Method} {c : Code} {D : va_G} {cA : Nat → ClassId} {b L : Nat} {xs : Nat → Int32} {S : Nat → Mm → Mm → Prop} {Q : State → Prop} {o : Nat} (C : Cx p m meth c s #[Value.ref b] cL_law 4 wsL_law RL ret D (tysL cA)) (hX : va_X b L xs s s.heap) (hbl : b < s.heap.size) (hbA : ¬ (fun q : Nat => o ≤ q) b) (hop : Op_addPass S) {n i : Nat} (hn : n < 512) (hi : 5 * i + 5 ≤ L) (hL : L ≤ 2560) {μ ρ : Mm} (hS : S n μ ρ) (hkk : ∀ (μ ρ : Mm) (H : Heap) (locs : List Loc) (ls : Array Slot), S (n + 1) μ ρ → HpL o D cA μ ρ s H locs → lv_has ls 4 [(0, .ref b), (1, .ref (o + 0)), (2, .ref (o + 747 + 0)), (3, .int (nI (5 * i)))] → W p l e room_1 s m #[Value.ref b] below meth c H locs 753 12448 Q (F0 m 924 ls [])) (H : Heap) (locs : List Loc) (ls : Array Slot) (P : HpL o D cA μ ρ s H locs) (hl : lv_has ls 4 [(0, .ref b), (1, .ref (o + 0)), (2, .ref (o + 747 + 0)), (3, .int (nI (5 * i)))]) : W p l e room_1 s m #[Value.ref b] below meth c H locs 753 12448 Q (F0 m 294 ls []) := by
  have hx := C.1.1
  have hb := C.1.2.1
  have hj1 : nI (5 * i) + 1 = nI (5 * i + 1) := by rw [show (1 : Int32) = nI 1 from rfl, nI_add]
  have hv1 : vp_in (nI (5 * i) + 1) L := by rw [hj1]; exact vp_in_nI (by omega) (by omega)
  refine lv_aload_n hx hb dL_law_294 rfl (lv_at hl 1 rfl) ?_
  refine lv_aload_n hx hb dL_law_295 rfl (lv_at hl 0 rfl) ?_
  refine lv_iload_n hx hb dL_law_296 rfl (lv_at hl 3 rfl) ?_
  refine lv_iconst (v := 1) hx hb dL_law_297 (by decide) ?_
  refine lv_iadd hx hb dL_law_298 ?_
  refine va_sld (A := fun q => o ≤ q) hx hb hX hbl hbA P.2.2 hv1 dL_law_299 ?_
  have h := hop n μ ρ hn hS ((xs (nI (5 * i) + 1).toNatClampNeg))
  refine lw_callC (va_runV (As := [.int ((xs (nI (5 * i) + 1).toNatClampNeg))]) (rest := []) C.1 (c_X9_addPass l D cA o _ μ _ h) (cwV 1 C.1.2.2.2.2 gL_law_X9_addPass rfl rfl rfl (by decide +kernel) ⟨Nat.le_of_ble_eq_true rfl, Nat.le_of_ble_eq_true rfl⟩) (lw_preV C P.1 [.int ((xs (nI (5 * i) + 1).toNatClampNeg))] (ci := 9) rfl (by decide) (EK_9 kd_at_0)) rfl rfl hl.1 rfl (lv_room (Nat.le_of_ble_eq_true rfl)) dL_law_300 ⟨Nat.le_of_ble_eq_true rfl, Nat.le_of_ble_eq_true rfl⟩) P (fun r μ1 H locs h P => ?_)
  refine lv_aload_n hx hb dL_law_303 rfl (lv_at hl 2 rfl) ?_
  refine lv_aload_n hx hb dL_law_304 rfl (lv_at hl 0 rfl) ?_
  refine lv_iload_n hx hb dL_law_305 rfl (lv_at hl 3 rfl) ?_
  refine lv_iconst (v := 1) hx hb dL_law_306 (by decide) ?_
  refine lv_iadd hx hb dL_law_307 ?_
  refine va_sld (A := fun q => o ≤ q) hx hb hX hbl hbA P.2.2 hv1 dL_law_308 ?_
  refine lw_callM (va_runV (As := [.int ((xs (nI (5 * i) + 1).toNatClampNeg))]) (rest := [.int r]) C.1 (c_X10_addPass l D cA (o + 747) _ ρ _ h) (cwV 1 C.1.2.2.2.2 gL_law_X10_addPass rfl rfl rfl (by decide +kernel) ⟨Nat.le_of_ble_eq_true rfl, Nat.le_of_ble_eq_true rfl⟩) (lw_preV C P.2.1 [.int ((xs (nI (5 * i) + 1).toNatClampNeg))] (ci := 10) rfl (by decide) EKM_0) rfl rfl hl.1 rfl (lv_room (Nat.le_of_ble_eq_true rfl)) dL_law_309 ⟨Nat.le_of_ble_eq_true rfl, Nat.le_of_ble_eq_true rfl⟩) P (fun t ρ1 H locs h P => ?_)
  refine lv_icmp_eq (tgt := 924) hx hb dL_law_312 (by decide) (fun cz => ?_) (fun cz => ?_)
  · exact hkk μ1 ρ1 H locs ls h.2 P hl
  · exact absurd h.1 cz
set_option maxHeartbeats 4000000 in
set_option maxRecDepth 100000 in
theorem lw_case_block {p : Program} {l : Launch} {e : Env} {s : State} {m : MethodId} {below : List Frame} {meth : Method} {c : Code} {D : va_G} {cA : Nat → ClassId} {b L : Nat} {xs : Nat → Int32} {S : Nat → Mm → Mm → Prop} {Q : State → Prop} {o : Nat} (C : Cx p m meth c s #[Value.ref b] cL_law 4 wsL_law RL ret D (tysL cA)) (hX : va_X b L xs s s.heap) (hbl : b < s.heap.size) (hbA : ¬ (fun q : Nat => o ≤ q) b) (hop : Op_block S) {n i : Nat} (hn : n < 512) (hi : 5 * i + 5 ≤ L) (hL : L ≤ 2560) {μ ρ : Mm} (hS : S n μ ρ) (hkk : ∀ (μ ρ : Mm) (H : Heap) (locs : List Loc) (ls : Array Slot), S (n + 1) μ ρ → HpL o D cA μ ρ s H locs → lv_has ls 4 [(0, .ref b), (1, .ref (o + 0)), (2, .ref (o + 747 + 0)), (3, .int (nI (5 * i)))] → W p l e room_1 s m #[Value.ref b] below meth c H locs 753 12448 Q (F0 m 924 ls [])) (H : Heap) (locs : List Loc) (ls : Array Slot) (P : HpL o D cA μ ρ s H locs) (hl : lv_has ls 4 [(0, .ref b), (1, .ref (o + 0)), (2, .ref (o + 747 + 0)), (3, .int (nI (5 * i)))]) : W p l e room_1 s m #[Value.ref b] below meth c H locs 753 12448 Q (F0 m 317 ls []) := by
  have hx := C.1.1
  have hb := C.1.2.1
  have hj1 : nI (5 * i) + 1 = nI (5 * i + 1) := by rw [show (1 : Int32) = nI 1 from rfl, nI_add]
  have hj2 : nI (5 * i) + 2 = nI (5 * i + 2) := by rw [show (2 : Int32) = nI 2 from rfl, nI_add]
  have hv1 : vp_in (nI (5 * i) + 1) L := by rw [hj1]; exact vp_in_nI (by omega) (by omega)
  have hv2 : vp_in (nI (5 * i) + 2) L := by rw [hj2]; exact vp_in_nI (by omega) (by omega)
  refine lv_aload_n hx hb dL_law_317 rfl (lv_at hl 1 rfl) ?_
  refine lv_aload_n hx hb dL_law_318 rfl (lv_at hl 0 rfl) ?_
  refine lv_iload_n hx hb dL_law_319 rfl (lv_at hl 3 rfl) ?_
  refine lv_iconst (v := 1) hx hb dL_law_320 (by decide) ?_
  refine lv_iadd hx hb dL_law_321 ?_
  refine va_sld (A := fun q => o ≤ q) hx hb hX hbl hbA P.2.2 hv1 dL_law_322 ?_
  refine lv_aload_n hx hb dL_law_323 rfl (lv_at hl 0 rfl) ?_
  refine lv_iload_n hx hb dL_law_324 rfl (lv_at hl 3 rfl) ?_
  refine lv_iconst (v := 2) hx hb dL_law_325 (by decide) ?_
  refine lv_iadd hx hb dL_law_326 ?_
  refine va_sld (A := fun q => o ≤ q) hx hb hX hbl hbA P.2.2 hv2 dL_law_327 ?_
  refine lv_if_eq (tgt := 335) hx hb dL_law_328 (by decide) (fun c1 => ?_) (fun c1 => ?_)
  · refine lv_iconst (v := 0) hx hb dL_law_335 (by decide) ?_
    have h := hop n μ ρ hn hS ((xs (nI (5 * i) + 1).toNatClampNeg)) (0) (Or.inl rfl)
    refine lw_callC (va_runV (As := [.int ((xs (nI (5 * i) + 1).toNatClampNeg)), .int (0)]) (rest := []) C.1 (c_X9_block l D cA o _ _ μ _ h) (cwV 2 C.1.2.2.2.2 gL_law_X9_block rfl rfl rfl (by decide +kernel) ⟨Nat.le_of_ble_eq_true rfl, Nat.le_of_ble_eq_true rfl⟩) (lw_preV C P.1 [.int ((xs (nI (5 * i) + 1).toNatClampNeg)), .int (0)] (ci := 9) rfl (by decide) (EK_9 kd_at_0)) rfl rfl hl.1 rfl (lv_room (Nat.le_of_ble_eq_true rfl)) dL_law_336 ⟨Nat.le_of_ble_eq_true rfl, Nat.le_of_ble_eq_true rfl⟩) P (fun r μ1 H locs h P => ?_)
    refine lv_aload_n hx hb dL_law_339 rfl (lv_at hl 2 rfl) ?_
    refine lv_aload_n hx hb dL_law_340 rfl (lv_at hl 0 rfl) ?_
    refine lv_iload_n hx hb dL_law_341 rfl (lv_at hl 3 rfl) ?_
    refine lv_iconst (v := 1) hx hb dL_law_342 (by decide) ?_
    refine lv_iadd hx hb dL_law_343 ?_
    refine va_sld (A := fun q => o ≤ q) hx hb hX hbl hbA P.2.2 hv1 dL_law_344 ?_
    refine lv_aload_n hx hb dL_law_345 rfl (lv_at hl 0 rfl) ?_
    refine lv_iload_n hx hb dL_law_346 rfl (lv_at hl 3 rfl) ?_
    refine lv_iconst (v := 2) hx hb dL_law_347 (by decide) ?_
    refine lv_iadd hx hb dL_law_348 ?_
    refine va_sld (A := fun q => o ≤ q) hx hb hX hbl hbA P.2.2 hv2 dL_law_349 ?_
    refine lv_if_eq (tgt := 357) hx hb dL_law_350 (by decide) (fun c2 => ?_) (fun c2 => ?_)
    · refine lv_iconst (v := 0) hx hb dL_law_357 (by decide) ?_
      refine lw_callM (va_runV (As := [.int ((xs (nI (5 * i) + 1).toNatClampNeg)), .int (0)]) (rest := [.int r]) C.1 (c_X10_block l D cA (o + 747) _ _ ρ _ h) (cwV 2 C.1.2.2.2.2 gL_law_X10_block rfl rfl rfl (by decide +kernel) ⟨Nat.le_of_ble_eq_true rfl, Nat.le_of_ble_eq_true rfl⟩) (lw_preV C P.2.1 [.int ((xs (nI (5 * i) + 1).toNatClampNeg)), .int (0)] (ci := 10) rfl (by decide) EKM_0) rfl rfl hl.1 rfl (lv_room (Nat.le_of_ble_eq_true rfl)) dL_law_358 ⟨Nat.le_of_ble_eq_true rfl, Nat.le_of_ble_eq_true rfl⟩) P (fun t ρ1 H locs h P => ?_)
      refine lv_icmp_eq (tgt := 924) hx hb dL_law_361 (by decide) (fun cz => ?_) (fun cz => ?_)
      · exact hkk μ1 ρ1 H locs ls h.2 P hl
      · exact absurd h.1 cz
    · exact absurd c1 c2
  · refine lv_iconst (v := 1) hx hb dL_law_331 (by decide) ?_
    refine lv_goto (tgt := 336) hx hb dL_law_332 (by decide) ?_
    have h := hop n μ ρ hn hS ((xs (nI (5 * i) + 1).toNatClampNeg)) (1) (Or.inr rfl)
    refine lw_callC (va_runV (As := [.int ((xs (nI (5 * i) + 1).toNatClampNeg)), .int (1)]) (rest := []) C.1 (c_X9_block l D cA o _ _ μ _ h) (cwV 2 C.1.2.2.2.2 gL_law_X9_block rfl rfl rfl (by decide +kernel) ⟨Nat.le_of_ble_eq_true rfl, Nat.le_of_ble_eq_true rfl⟩) (lw_preV C P.1 [.int ((xs (nI (5 * i) + 1).toNatClampNeg)), .int (1)] (ci := 9) rfl (by decide) (EK_9 kd_at_0)) rfl rfl hl.1 rfl (lv_room (Nat.le_of_ble_eq_true rfl)) dL_law_336 ⟨Nat.le_of_ble_eq_true rfl, Nat.le_of_ble_eq_true rfl⟩) P (fun r μ1 H locs h P => ?_)
    refine lv_aload_n hx hb dL_law_339 rfl (lv_at hl 2 rfl) ?_
    refine lv_aload_n hx hb dL_law_340 rfl (lv_at hl 0 rfl) ?_
    refine lv_iload_n hx hb dL_law_341 rfl (lv_at hl 3 rfl) ?_
    refine lv_iconst (v := 1) hx hb dL_law_342 (by decide) ?_
    refine lv_iadd hx hb dL_law_343 ?_
    refine va_sld (A := fun q => o ≤ q) hx hb hX hbl hbA P.2.2 hv1 dL_law_344 ?_
    refine lv_aload_n hx hb dL_law_345 rfl (lv_at hl 0 rfl) ?_
    refine lv_iload_n hx hb dL_law_346 rfl (lv_at hl 3 rfl) ?_
    refine lv_iconst (v := 2) hx hb dL_law_347 (by decide) ?_
    refine lv_iadd hx hb dL_law_348 ?_
    refine va_sld (A := fun q => o ≤ q) hx hb hX hbl hbA P.2.2 hv2 dL_law_349 ?_
    refine lv_if_eq (tgt := 357) hx hb dL_law_350 (by decide) (fun c3 => ?_) (fun c3 => ?_)
    · exact absurd c3 c1
    · refine lv_iconst (v := 1) hx hb dL_law_353 (by decide) ?_
      refine lv_goto (tgt := 358) hx hb dL_law_354 (by decide) ?_
      refine lw_callM (va_runV (As := [.int ((xs (nI (5 * i) + 1).toNatClampNeg)), .int (1)]) (rest := [.int r]) C.1 (c_X10_block l D cA (o + 747) _ _ ρ _ h) (cwV 2 C.1.2.2.2.2 gL_law_X10_block rfl rfl rfl (by decide +kernel) ⟨Nat.le_of_ble_eq_true rfl, Nat.le_of_ble_eq_true rfl⟩) (lw_preV C P.2.1 [.int ((xs (nI (5 * i) + 1).toNatClampNeg)), .int (1)] (ci := 10) rfl (by decide) EKM_0) rfl rfl hl.1 rfl (lv_room (Nat.le_of_ble_eq_true rfl)) dL_law_358 ⟨Nat.le_of_ble_eq_true rfl, Nat.le_of_ble_eq_true rfl⟩) P (fun t ρ1 H locs h P => ?_)
      refine lv_icmp_eq (tgt := 924) hx hb dL_law_361 (by decide) (fun cz => ?_) (fun cz => ?_)
      · exact hkk μ1 ρ1 H locs ls h.2 P hl
      · exact absurd h.1 cz
set_option maxHeartbeats 4000000 in
set_option maxRecDepth 100000 in
theorem lw_case_setFare {p : Program} {l : Launch} {e : Env} {s : State} {m : MethodId} {below : List Frame} {meth : Method} {c : Code} {D : va_G} {cA : Nat → ClassId} {b L : Nat} {xs : Nat → Int32} {S : Nat → Mm → Mm → Prop} {Q : State → Prop} {o : Nat} (C : Cx p m meth c s #[Value.ref b] cL_law 4 wsL_law RL ret D (tysL cA)) (hX : va_X b L xs s s.heap) (hbl : b < s.heap.size) (hbA : ¬ (fun q : Nat => o ≤ q) b) (hop : Op_setFare S) {n i : Nat} (hn : n < 512) (hi : 5 * i + 5 ≤ L) (hL : L ≤ 2560) {μ ρ : Mm} (hS : S n μ ρ) (hkk : ∀ (μ ρ : Mm) (H : Heap) (locs : List Loc) (ls : Array Slot), S (n + 1) μ ρ → HpL o D cA μ ρ s H locs → lv_has ls 4 [(0, .ref b), (1, .ref (o + 0)), (2, .ref (o + 747 + 0)), (3, .int (nI (5 * i)))] → W p l e room_1 s m #[Value.ref b] below meth c H locs 753 12448 Q (F0 m 924 ls [])) (H : Heap) (locs : List Loc) (ls : Array Slot) (P : HpL o D cA μ ρ s H locs) (hl : lv_has ls 4 [(0, .ref b), (1, .ref (o + 0)), (2, .ref (o + 747 + 0)), (3, .int (nI (5 * i)))]) : W p l e room_1 s m #[Value.ref b] below meth c H locs 753 12448 Q (F0 m 366 ls []) := by
  have hx := C.1.1
  have hb := C.1.2.1
  have hj1 : nI (5 * i) + 1 = nI (5 * i + 1) := by rw [show (1 : Int32) = nI 1 from rfl, nI_add]
  have hv1 : vp_in (nI (5 * i) + 1) L := by rw [hj1]; exact vp_in_nI (by omega) (by omega)
  refine lv_aload_n hx hb dL_law_366 rfl (lv_at hl 1 rfl) ?_
  refine lv_aload_n hx hb dL_law_367 rfl (lv_at hl 0 rfl) ?_
  refine lv_iload_n hx hb dL_law_368 rfl (lv_at hl 3 rfl) ?_
  refine lv_iconst (v := 1) hx hb dL_law_369 (by decide) ?_
  refine lv_iadd hx hb dL_law_370 ?_
  refine va_sld (A := fun q => o ≤ q) hx hb hX hbl hbA P.2.2 hv1 dL_law_371 ?_
  have h := hop n μ ρ hn hS ((xs (nI (5 * i) + 1).toNatClampNeg))
  refine lw_callC (va_runV (As := [.int ((xs (nI (5 * i) + 1).toNatClampNeg))]) (rest := []) C.1 (c_X9_setFare l D cA o _ μ _ h) (cwV 1 C.1.2.2.2.2 gL_law_X9_setFare rfl rfl rfl (by decide +kernel) ⟨Nat.le_of_ble_eq_true rfl, Nat.le_of_ble_eq_true rfl⟩) (lw_preV C P.1 [.int ((xs (nI (5 * i) + 1).toNatClampNeg))] (ci := 9) rfl (by decide) (EK_9 kd_at_0)) rfl rfl hl.1 rfl (lv_room (Nat.le_of_ble_eq_true rfl)) dL_law_372 ⟨Nat.le_of_ble_eq_true rfl, Nat.le_of_ble_eq_true rfl⟩) P (fun r μ1 H locs h P => ?_)
  refine lv_aload_n hx hb dL_law_375 rfl (lv_at hl 2 rfl) ?_
  refine lv_aload_n hx hb dL_law_376 rfl (lv_at hl 0 rfl) ?_
  refine lv_iload_n hx hb dL_law_377 rfl (lv_at hl 3 rfl) ?_
  refine lv_iconst (v := 1) hx hb dL_law_378 (by decide) ?_
  refine lv_iadd hx hb dL_law_379 ?_
  refine va_sld (A := fun q => o ≤ q) hx hb hX hbl hbA P.2.2 hv1 dL_law_380 ?_
  refine lw_callM (va_runV (As := [.int ((xs (nI (5 * i) + 1).toNatClampNeg))]) (rest := [.int r]) C.1 (c_X10_setFare l D cA (o + 747) _ ρ _ h) (cwV 1 C.1.2.2.2.2 gL_law_X10_setFare rfl rfl rfl (by decide +kernel) ⟨Nat.le_of_ble_eq_true rfl, Nat.le_of_ble_eq_true rfl⟩) (lw_preV C P.2.1 [.int ((xs (nI (5 * i) + 1).toNatClampNeg))] (ci := 10) rfl (by decide) EKM_0) rfl rfl hl.1 rfl (lv_room (Nat.le_of_ble_eq_true rfl)) dL_law_381 ⟨Nat.le_of_ble_eq_true rfl, Nat.le_of_ble_eq_true rfl⟩) P (fun t ρ1 H locs h P => ?_)
  refine lv_icmp_eq (tgt := 924) hx hb dL_law_384 (by decide) (fun cz => ?_) (fun cz => ?_)
  · exact hkk μ1 ρ1 H locs ls h.2 P hl
  · exact absurd h.1 cz
set_option maxHeartbeats 4000000 in
set_option maxRecDepth 100000 in
theorem lw_case_enter {p : Program} {l : Launch} {e : Env} {s : State} {m : MethodId} {below : List Frame} {meth : Method} {c : Code} {D : va_G} {cA : Nat → ClassId} {b L : Nat} {xs : Nat → Int32} {S : Nat → Mm → Mm → Prop} {Q : State → Prop} {o : Nat} (C : Cx p m meth c s #[Value.ref b] cL_law 4 wsL_law RL ret D (tysL cA)) (hX : va_X b L xs s s.heap) (hbl : b < s.heap.size) (hbA : ¬ (fun q : Nat => o ≤ q) b) (hop : Op_enter S) {n i : Nat} (hn : n < 512) (hi : 5 * i + 5 ≤ L) (hL : L ≤ 2560) {μ ρ : Mm} (hS : S n μ ρ) (hkk : ∀ (μ ρ : Mm) (H : Heap) (locs : List Loc) (ls : Array Slot), S (n + 1) μ ρ → HpL o D cA μ ρ s H locs → lv_has ls 4 [(0, .ref b), (1, .ref (o + 0)), (2, .ref (o + 747 + 0)), (3, .int (nI (5 * i)))] → W p l e room_1 s m #[Value.ref b] below meth c H locs 753 12448 Q (F0 m 924 ls [])) (H : Heap) (locs : List Loc) (ls : Array Slot) (P : HpL o D cA μ ρ s H locs) (hl : lv_has ls 4 [(0, .ref b), (1, .ref (o + 0)), (2, .ref (o + 747 + 0)), (3, .int (nI (5 * i)))]) : W p l e room_1 s m #[Value.ref b] below meth c H locs 753 12448 Q (F0 m 389 ls []) := by
  have hx := C.1.1
  have hb := C.1.2.1
  have hj1 : nI (5 * i) + 1 = nI (5 * i + 1) := by rw [show (1 : Int32) = nI 1 from rfl, nI_add]
  have hj2 : nI (5 * i) + 2 = nI (5 * i + 2) := by rw [show (2 : Int32) = nI 2 from rfl, nI_add]
  have hj3 : nI (5 * i) + 3 = nI (5 * i + 3) := by rw [show (3 : Int32) = nI 3 from rfl, nI_add]
  have hv1 : vp_in (nI (5 * i) + 1) L := by rw [hj1]; exact vp_in_nI (by omega) (by omega)
  have hv2 : vp_in (nI (5 * i) + 2) L := by rw [hj2]; exact vp_in_nI (by omega) (by omega)
  have hv3 : vp_in (nI (5 * i) + 3) L := by rw [hj3]; exact vp_in_nI (by omega) (by omega)
  refine lv_aload_n hx hb dL_law_389 rfl (lv_at hl 1 rfl) ?_
  refine lv_aload_n hx hb dL_law_390 rfl (lv_at hl 0 rfl) ?_
  refine lv_iload_n hx hb dL_law_391 rfl (lv_at hl 3 rfl) ?_
  refine lv_iconst (v := 1) hx hb dL_law_392 (by decide) ?_
  refine lv_iadd hx hb dL_law_393 ?_
  refine va_sld (A := fun q => o ≤ q) hx hb hX hbl hbA P.2.2 hv1 dL_law_394 ?_
  refine lv_aload_n hx hb dL_law_395 rfl (lv_at hl 0 rfl) ?_
  refine lv_iload_n hx hb dL_law_396 rfl (lv_at hl 3 rfl) ?_
  refine lv_iconst (v := 2) hx hb dL_law_397 (by decide) ?_
  refine lv_iadd hx hb dL_law_398 ?_
  refine va_sld (A := fun q => o ≤ q) hx hb hX hbl hbA P.2.2 hv2 dL_law_399 ?_
  refine lv_aload_n hx hb dL_law_400 rfl (lv_at hl 0 rfl) ?_
  refine lv_iload_n hx hb dL_law_401 rfl (lv_at hl 3 rfl) ?_
  refine lv_iconst (v := 3) hx hb dL_law_402 (by decide) ?_
  refine lv_iadd hx hb dL_law_403 ?_
  refine va_sld (A := fun q => o ≤ q) hx hb hX hbl hbA P.2.2 hv3 dL_law_404 ?_
  refine lv_if_eq (tgt := 412) hx hb dL_law_405 (by decide) (fun c1 => ?_) (fun c1 => ?_)
  · refine lv_iconst (v := 0) hx hb dL_law_412 (by decide) ?_
    have h := hop n μ ρ hn hS ((xs (nI (5 * i) + 1).toNatClampNeg)) ((xs (nI (5 * i) + 2).toNatClampNeg)) (0) (Or.inl rfl)
    refine lw_callC (va_runV (As := [.int ((xs (nI (5 * i) + 1).toNatClampNeg)), .int ((xs (nI (5 * i) + 2).toNatClampNeg)), .int (0)]) (rest := []) C.1 (c_X9_enter l D cA o _ _ _ μ _ h) (cwV 3 C.1.2.2.2.2 gL_law_X9_enter rfl rfl rfl (by decide +kernel) ⟨Nat.le_of_ble_eq_true rfl, Nat.le_of_ble_eq_true rfl⟩) (lw_preV C P.1 [.int ((xs (nI (5 * i) + 1).toNatClampNeg)), .int ((xs (nI (5 * i) + 2).toNatClampNeg)), .int (0)] (ci := 9) rfl (by decide) (EK_9 kd_at_0)) rfl rfl hl.1 rfl (lv_room (Nat.le_of_ble_eq_true rfl)) dL_law_413 ⟨Nat.le_of_ble_eq_true rfl, Nat.le_of_ble_eq_true rfl⟩) P (fun r μ1 H locs h P => ?_)
    refine lv_aload_n hx hb dL_law_416 rfl (lv_at hl 2 rfl) ?_
    refine lv_aload_n hx hb dL_law_417 rfl (lv_at hl 0 rfl) ?_
    refine lv_iload_n hx hb dL_law_418 rfl (lv_at hl 3 rfl) ?_
    refine lv_iconst (v := 1) hx hb dL_law_419 (by decide) ?_
    refine lv_iadd hx hb dL_law_420 ?_
    refine va_sld (A := fun q => o ≤ q) hx hb hX hbl hbA P.2.2 hv1 dL_law_421 ?_
    refine lv_aload_n hx hb dL_law_422 rfl (lv_at hl 0 rfl) ?_
    refine lv_iload_n hx hb dL_law_423 rfl (lv_at hl 3 rfl) ?_
    refine lv_iconst (v := 2) hx hb dL_law_424 (by decide) ?_
    refine lv_iadd hx hb dL_law_425 ?_
    refine va_sld (A := fun q => o ≤ q) hx hb hX hbl hbA P.2.2 hv2 dL_law_426 ?_
    refine lv_aload_n hx hb dL_law_427 rfl (lv_at hl 0 rfl) ?_
    refine lv_iload_n hx hb dL_law_428 rfl (lv_at hl 3 rfl) ?_
    refine lv_iconst (v := 3) hx hb dL_law_429 (by decide) ?_
    refine lv_iadd hx hb dL_law_430 ?_
    refine va_sld (A := fun q => o ≤ q) hx hb hX hbl hbA P.2.2 hv3 dL_law_431 ?_
    refine lv_if_eq (tgt := 439) hx hb dL_law_432 (by decide) (fun c2 => ?_) (fun c2 => ?_)
    · refine lv_iconst (v := 0) hx hb dL_law_439 (by decide) ?_
      refine lw_callM (va_runV (As := [.int ((xs (nI (5 * i) + 1).toNatClampNeg)), .int ((xs (nI (5 * i) + 2).toNatClampNeg)), .int (0)]) (rest := [.int r]) C.1 (c_X10_enter l D cA (o + 747) _ _ _ ρ _ h) (cwV 3 C.1.2.2.2.2 gL_law_X10_enter rfl rfl rfl (by decide +kernel) ⟨Nat.le_of_ble_eq_true rfl, Nat.le_of_ble_eq_true rfl⟩) (lw_preV C P.2.1 [.int ((xs (nI (5 * i) + 1).toNatClampNeg)), .int ((xs (nI (5 * i) + 2).toNatClampNeg)), .int (0)] (ci := 10) rfl (by decide) EKM_0) rfl rfl hl.1 rfl (lv_room (Nat.le_of_ble_eq_true rfl)) dL_law_440 ⟨Nat.le_of_ble_eq_true rfl, Nat.le_of_ble_eq_true rfl⟩) P (fun t ρ1 H locs h P => ?_)
      refine lv_icmp_eq (tgt := 924) hx hb dL_law_443 (by decide) (fun cz => ?_) (fun cz => ?_)
      · exact hkk μ1 ρ1 H locs ls h.2 P hl
      · exact absurd h.1 cz
    · exact absurd c1 c2
  · refine lv_iconst (v := 1) hx hb dL_law_408 (by decide) ?_
    refine lv_goto (tgt := 413) hx hb dL_law_409 (by decide) ?_
    have h := hop n μ ρ hn hS ((xs (nI (5 * i) + 1).toNatClampNeg)) ((xs (nI (5 * i) + 2).toNatClampNeg)) (1) (Or.inr rfl)
    refine lw_callC (va_runV (As := [.int ((xs (nI (5 * i) + 1).toNatClampNeg)), .int ((xs (nI (5 * i) + 2).toNatClampNeg)), .int (1)]) (rest := []) C.1 (c_X9_enter l D cA o _ _ _ μ _ h) (cwV 3 C.1.2.2.2.2 gL_law_X9_enter rfl rfl rfl (by decide +kernel) ⟨Nat.le_of_ble_eq_true rfl, Nat.le_of_ble_eq_true rfl⟩) (lw_preV C P.1 [.int ((xs (nI (5 * i) + 1).toNatClampNeg)), .int ((xs (nI (5 * i) + 2).toNatClampNeg)), .int (1)] (ci := 9) rfl (by decide) (EK_9 kd_at_0)) rfl rfl hl.1 rfl (lv_room (Nat.le_of_ble_eq_true rfl)) dL_law_413 ⟨Nat.le_of_ble_eq_true rfl, Nat.le_of_ble_eq_true rfl⟩) P (fun r μ1 H locs h P => ?_)
    refine lv_aload_n hx hb dL_law_416 rfl (lv_at hl 2 rfl) ?_
    refine lv_aload_n hx hb dL_law_417 rfl (lv_at hl 0 rfl) ?_
    refine lv_iload_n hx hb dL_law_418 rfl (lv_at hl 3 rfl) ?_
    refine lv_iconst (v := 1) hx hb dL_law_419 (by decide) ?_
    refine lv_iadd hx hb dL_law_420 ?_
    refine va_sld (A := fun q => o ≤ q) hx hb hX hbl hbA P.2.2 hv1 dL_law_421 ?_
    refine lv_aload_n hx hb dL_law_422 rfl (lv_at hl 0 rfl) ?_
    refine lv_iload_n hx hb dL_law_423 rfl (lv_at hl 3 rfl) ?_
    refine lv_iconst (v := 2) hx hb dL_law_424 (by decide) ?_
    refine lv_iadd hx hb dL_law_425 ?_
    refine va_sld (A := fun q => o ≤ q) hx hb hX hbl hbA P.2.2 hv2 dL_law_426 ?_
    refine lv_aload_n hx hb dL_law_427 rfl (lv_at hl 0 rfl) ?_
    refine lv_iload_n hx hb dL_law_428 rfl (lv_at hl 3 rfl) ?_
    refine lv_iconst (v := 3) hx hb dL_law_429 (by decide) ?_
    refine lv_iadd hx hb dL_law_430 ?_
    refine va_sld (A := fun q => o ≤ q) hx hb hX hbl hbA P.2.2 hv3 dL_law_431 ?_
    refine lv_if_eq (tgt := 439) hx hb dL_law_432 (by decide) (fun c3 => ?_) (fun c3 => ?_)
    · exact absurd c3 c1
    · refine lv_iconst (v := 1) hx hb dL_law_435 (by decide) ?_
      refine lv_goto (tgt := 440) hx hb dL_law_436 (by decide) ?_
      refine lw_callM (va_runV (As := [.int ((xs (nI (5 * i) + 1).toNatClampNeg)), .int ((xs (nI (5 * i) + 2).toNatClampNeg)), .int (1)]) (rest := [.int r]) C.1 (c_X10_enter l D cA (o + 747) _ _ _ ρ _ h) (cwV 3 C.1.2.2.2.2 gL_law_X10_enter rfl rfl rfl (by decide +kernel) ⟨Nat.le_of_ble_eq_true rfl, Nat.le_of_ble_eq_true rfl⟩) (lw_preV C P.2.1 [.int ((xs (nI (5 * i) + 1).toNatClampNeg)), .int ((xs (nI (5 * i) + 2).toNatClampNeg)), .int (1)] (ci := 10) rfl (by decide) EKM_0) rfl rfl hl.1 rfl (lv_room (Nat.le_of_ble_eq_true rfl)) dL_law_440 ⟨Nat.le_of_ble_eq_true rfl, Nat.le_of_ble_eq_true rfl⟩) P (fun t ρ1 H locs h P => ?_)
      refine lv_icmp_eq (tgt := 924) hx hb dL_law_443 (by decide) (fun cz => ?_) (fun cz => ?_)
      · exact hkk μ1 ρ1 H locs ls h.2 P hl
      · exact absurd h.1 cz
set_option maxHeartbeats 4000000 in
set_option maxRecDepth 100000 in
theorem lw_case_exit {p : Program} {l : Launch} {e : Env} {s : State} {m : MethodId} {below : List Frame} {meth : Method} {c : Code} {D : va_G} {cA : Nat → ClassId} {b L : Nat} {xs : Nat → Int32} {S : Nat → Mm → Mm → Prop} {Q : State → Prop} {o : Nat} (C : Cx p m meth c s #[Value.ref b] cL_law 4 wsL_law RL ret D (tysL cA)) (hX : va_X b L xs s s.heap) (hbl : b < s.heap.size) (hbA : ¬ (fun q : Nat => o ≤ q) b) (hop : Op_exit S) {n i : Nat} (hn : n < 512) (hi : 5 * i + 5 ≤ L) (hL : L ≤ 2560) {μ ρ : Mm} (hS : S n μ ρ) (hkk : ∀ (μ ρ : Mm) (H : Heap) (locs : List Loc) (ls : Array Slot), S (n + 1) μ ρ → HpL o D cA μ ρ s H locs → lv_has ls 4 [(0, .ref b), (1, .ref (o + 0)), (2, .ref (o + 747 + 0)), (3, .int (nI (5 * i)))] → W p l e room_1 s m #[Value.ref b] below meth c H locs 753 12448 Q (F0 m 924 ls [])) (H : Heap) (locs : List Loc) (ls : Array Slot) (P : HpL o D cA μ ρ s H locs) (hl : lv_has ls 4 [(0, .ref b), (1, .ref (o + 0)), (2, .ref (o + 747 + 0)), (3, .int (nI (5 * i)))]) : W p l e room_1 s m #[Value.ref b] below meth c H locs 753 12448 Q (F0 m 448 ls []) := by
  have hx := C.1.1
  have hb := C.1.2.1
  have hj1 : nI (5 * i) + 1 = nI (5 * i + 1) := by rw [show (1 : Int32) = nI 1 from rfl, nI_add]
  have hj2 : nI (5 * i) + 2 = nI (5 * i + 2) := by rw [show (2 : Int32) = nI 2 from rfl, nI_add]
  have hv1 : vp_in (nI (5 * i) + 1) L := by rw [hj1]; exact vp_in_nI (by omega) (by omega)
  have hv2 : vp_in (nI (5 * i) + 2) L := by rw [hj2]; exact vp_in_nI (by omega) (by omega)
  refine lv_aload_n hx hb dL_law_448 rfl (lv_at hl 1 rfl) ?_
  refine lv_aload_n hx hb dL_law_449 rfl (lv_at hl 0 rfl) ?_
  refine lv_iload_n hx hb dL_law_450 rfl (lv_at hl 3 rfl) ?_
  refine lv_iconst (v := 1) hx hb dL_law_451 (by decide) ?_
  refine lv_iadd hx hb dL_law_452 ?_
  refine va_sld (A := fun q => o ≤ q) hx hb hX hbl hbA P.2.2 hv1 dL_law_453 ?_
  refine lv_aload_n hx hb dL_law_454 rfl (lv_at hl 0 rfl) ?_
  refine lv_iload_n hx hb dL_law_455 rfl (lv_at hl 3 rfl) ?_
  refine lv_iconst (v := 2) hx hb dL_law_456 (by decide) ?_
  refine lv_iadd hx hb dL_law_457 ?_
  refine va_sld (A := fun q => o ≤ q) hx hb hX hbl hbA P.2.2 hv2 dL_law_458 ?_
  have h := hop n μ ρ hn hS ((xs (nI (5 * i) + 1).toNatClampNeg)) ((xs (nI (5 * i) + 2).toNatClampNeg))
  refine lw_callC (va_runV (As := [.int ((xs (nI (5 * i) + 1).toNatClampNeg)), .int ((xs (nI (5 * i) + 2).toNatClampNeg))]) (rest := []) C.1 (c_X9_exit l D cA o _ _ μ _ h) (cwV 2 C.1.2.2.2.2 gL_law_X9_exit rfl rfl rfl (by decide +kernel) ⟨Nat.le_of_ble_eq_true rfl, Nat.le_of_ble_eq_true rfl⟩) (lw_preV C P.1 [.int ((xs (nI (5 * i) + 1).toNatClampNeg)), .int ((xs (nI (5 * i) + 2).toNatClampNeg))] (ci := 9) rfl (by decide) (EK_9 kd_at_0)) rfl rfl hl.1 rfl (lv_room (Nat.le_of_ble_eq_true rfl)) dL_law_459 ⟨Nat.le_of_ble_eq_true rfl, Nat.le_of_ble_eq_true rfl⟩) P (fun r μ1 H locs h P => ?_)
  refine lv_aload_n hx hb dL_law_462 rfl (lv_at hl 2 rfl) ?_
  refine lv_aload_n hx hb dL_law_463 rfl (lv_at hl 0 rfl) ?_
  refine lv_iload_n hx hb dL_law_464 rfl (lv_at hl 3 rfl) ?_
  refine lv_iconst (v := 1) hx hb dL_law_465 (by decide) ?_
  refine lv_iadd hx hb dL_law_466 ?_
  refine va_sld (A := fun q => o ≤ q) hx hb hX hbl hbA P.2.2 hv1 dL_law_467 ?_
  refine lv_aload_n hx hb dL_law_468 rfl (lv_at hl 0 rfl) ?_
  refine lv_iload_n hx hb dL_law_469 rfl (lv_at hl 3 rfl) ?_
  refine lv_iconst (v := 2) hx hb dL_law_470 (by decide) ?_
  refine lv_iadd hx hb dL_law_471 ?_
  refine va_sld (A := fun q => o ≤ q) hx hb hX hbl hbA P.2.2 hv2 dL_law_472 ?_
  refine lw_callM (va_runV (As := [.int ((xs (nI (5 * i) + 1).toNatClampNeg)), .int ((xs (nI (5 * i) + 2).toNatClampNeg))]) (rest := [.int r]) C.1 (c_X10_exit l D cA (o + 747) _ _ ρ _ h) (cwV 2 C.1.2.2.2.2 gL_law_X10_exit rfl rfl rfl (by decide +kernel) ⟨Nat.le_of_ble_eq_true rfl, Nat.le_of_ble_eq_true rfl⟩) (lw_preV C P.2.1 [.int ((xs (nI (5 * i) + 1).toNatClampNeg)), .int ((xs (nI (5 * i) + 2).toNatClampNeg))] (ci := 10) rfl (by decide) EKM_0) rfl rfl hl.1 rfl (lv_room (Nat.le_of_ble_eq_true rfl)) dL_law_473 ⟨Nat.le_of_ble_eq_true rfl, Nat.le_of_ble_eq_true rfl⟩) P (fun t ρ1 H locs h P => ?_)
  refine lv_icmp_eq (tgt := 924) hx hb dL_law_476 (by decide) (fun cz => ?_) (fun cz => ?_)
  · exact hkk μ1 ρ1 H locs ls h.2 P hl
  · exact absurd h.1 cz
set_option maxHeartbeats 4000000 in
set_option maxRecDepth 100000 in
theorem lw_case_divert {p : Program} {l : Launch} {e : Env} {s : State} {m : MethodId} {below : List Frame} {meth : Method} {c : Code} {D : va_G} {cA : Nat → ClassId} {b L : Nat} {xs : Nat → Int32} {S : Nat → Mm → Mm → Prop} {Q : State → Prop} {o : Nat} (C : Cx p m meth c s #[Value.ref b] cL_law 4 wsL_law RL ret D (tysL cA)) (hX : va_X b L xs s s.heap) (hbl : b < s.heap.size) (hbA : ¬ (fun q : Nat => o ≤ q) b) (hop : Op_divert S) {n i : Nat} (hn : n < 512) (hi : 5 * i + 5 ≤ L) (hL : L ≤ 2560) {μ ρ : Mm} (hS : S n μ ρ) (hkk : ∀ (μ ρ : Mm) (H : Heap) (locs : List Loc) (ls : Array Slot), S (n + 1) μ ρ → HpL o D cA μ ρ s H locs → lv_has ls 4 [(0, .ref b), (1, .ref (o + 0)), (2, .ref (o + 747 + 0)), (3, .int (nI (5 * i)))] → W p l e room_1 s m #[Value.ref b] below meth c H locs 753 12448 Q (F0 m 924 ls [])) (H : Heap) (locs : List Loc) (ls : Array Slot) (P : HpL o D cA μ ρ s H locs) (hl : lv_has ls 4 [(0, .ref b), (1, .ref (o + 0)), (2, .ref (o + 747 + 0)), (3, .int (nI (5 * i)))]) : W p l e room_1 s m #[Value.ref b] below meth c H locs 753 12448 Q (F0 m 481 ls []) := by
  have hx := C.1.1
  have hb := C.1.2.1
  have hj1 : nI (5 * i) + 1 = nI (5 * i + 1) := by rw [show (1 : Int32) = nI 1 from rfl, nI_add]
  have hj2 : nI (5 * i) + 2 = nI (5 * i + 2) := by rw [show (2 : Int32) = nI 2 from rfl, nI_add]
  have hv1 : vp_in (nI (5 * i) + 1) L := by rw [hj1]; exact vp_in_nI (by omega) (by omega)
  have hv2 : vp_in (nI (5 * i) + 2) L := by rw [hj2]; exact vp_in_nI (by omega) (by omega)
  refine lv_aload_n hx hb dL_law_481 rfl (lv_at hl 1 rfl) ?_
  refine lv_aload_n hx hb dL_law_482 rfl (lv_at hl 0 rfl) ?_
  refine lv_iload_n hx hb dL_law_483 rfl (lv_at hl 3 rfl) ?_
  refine lv_iconst (v := 1) hx hb dL_law_484 (by decide) ?_
  refine lv_iadd hx hb dL_law_485 ?_
  refine va_sld (A := fun q => o ≤ q) hx hb hX hbl hbA P.2.2 hv1 dL_law_486 ?_
  refine lv_aload_n hx hb dL_law_487 rfl (lv_at hl 0 rfl) ?_
  refine lv_iload_n hx hb dL_law_488 rfl (lv_at hl 3 rfl) ?_
  refine lv_iconst (v := 2) hx hb dL_law_489 (by decide) ?_
  refine lv_iadd hx hb dL_law_490 ?_
  refine va_sld (A := fun q => o ≤ q) hx hb hX hbl hbA P.2.2 hv2 dL_law_491 ?_
  have h := hop n μ ρ hn hS ((xs (nI (5 * i) + 1).toNatClampNeg)) ((xs (nI (5 * i) + 2).toNatClampNeg))
  refine lw_callC (va_runV (As := [.int ((xs (nI (5 * i) + 1).toNatClampNeg)), .int ((xs (nI (5 * i) + 2).toNatClampNeg))]) (rest := []) C.1 (c_X9_divert l D cA o _ _ μ _ h) (cwV 2 C.1.2.2.2.2 gL_law_X9_divert rfl rfl rfl (by decide +kernel) ⟨Nat.le_of_ble_eq_true rfl, Nat.le_of_ble_eq_true rfl⟩) (lw_preV C P.1 [.int ((xs (nI (5 * i) + 1).toNatClampNeg)), .int ((xs (nI (5 * i) + 2).toNatClampNeg))] (ci := 9) rfl (by decide) (EK_9 kd_at_0)) rfl rfl hl.1 rfl (lv_room (Nat.le_of_ble_eq_true rfl)) dL_law_492 ⟨Nat.le_of_ble_eq_true rfl, Nat.le_of_ble_eq_true rfl⟩) P (fun r μ1 H locs h P => ?_)
  refine lv_aload_n hx hb dL_law_495 rfl (lv_at hl 2 rfl) ?_
  refine lv_aload_n hx hb dL_law_496 rfl (lv_at hl 0 rfl) ?_
  refine lv_iload_n hx hb dL_law_497 rfl (lv_at hl 3 rfl) ?_
  refine lv_iconst (v := 1) hx hb dL_law_498 (by decide) ?_
  refine lv_iadd hx hb dL_law_499 ?_
  refine va_sld (A := fun q => o ≤ q) hx hb hX hbl hbA P.2.2 hv1 dL_law_500 ?_
  refine lv_aload_n hx hb dL_law_501 rfl (lv_at hl 0 rfl) ?_
  refine lv_iload_n hx hb dL_law_502 rfl (lv_at hl 3 rfl) ?_
  refine lv_iconst (v := 2) hx hb dL_law_503 (by decide) ?_
  refine lv_iadd hx hb dL_law_504 ?_
  refine va_sld (A := fun q => o ≤ q) hx hb hX hbl hbA P.2.2 hv2 dL_law_505 ?_
  refine lw_callM (va_runV (As := [.int ((xs (nI (5 * i) + 1).toNatClampNeg)), .int ((xs (nI (5 * i) + 2).toNatClampNeg))]) (rest := [.int r]) C.1 (c_X10_divert l D cA (o + 747) _ _ ρ _ h) (cwV 2 C.1.2.2.2.2 gL_law_X10_divert rfl rfl rfl (by decide +kernel) ⟨Nat.le_of_ble_eq_true rfl, Nat.le_of_ble_eq_true rfl⟩) (lw_preV C P.2.1 [.int ((xs (nI (5 * i) + 1).toNatClampNeg)), .int ((xs (nI (5 * i) + 2).toNatClampNeg))] (ci := 10) rfl (by decide) EKM_0) rfl rfl hl.1 rfl (lv_room (Nat.le_of_ble_eq_true rfl)) dL_law_506 ⟨Nat.le_of_ble_eq_true rfl, Nat.le_of_ble_eq_true rfl⟩) P (fun t ρ1 H locs h P => ?_)
  refine lv_icmp_eq (tgt := 924) hx hb dL_law_509 (by decide) (fun cz => ?_) (fun cz => ?_)
  · exact hkk μ1 ρ1 H locs ls h.2 P hl
  · exact absurd h.1 cz
set_option maxHeartbeats 4000000 in
set_option maxRecDepth 100000 in
theorem lw_case_pinch {p : Program} {l : Launch} {e : Env} {s : State} {m : MethodId} {below : List Frame} {meth : Method} {c : Code} {D : va_G} {cA : Nat → ClassId} {b L : Nat} {xs : Nat → Int32} {S : Nat → Mm → Mm → Prop} {Q : State → Prop} {o : Nat} (C : Cx p m meth c s #[Value.ref b] cL_law 4 wsL_law RL ret D (tysL cA)) (hX : va_X b L xs s s.heap) (hbl : b < s.heap.size) (hbA : ¬ (fun q : Nat => o ≤ q) b) (hop : Op_pinch S) {n i : Nat} (hn : n < 512) (hi : 5 * i + 5 ≤ L) (hL : L ≤ 2560) {μ ρ : Mm} (hS : S n μ ρ) (hkk : ∀ (μ ρ : Mm) (H : Heap) (locs : List Loc) (ls : Array Slot), S (n + 1) μ ρ → HpL o D cA μ ρ s H locs → lv_has ls 4 [(0, .ref b), (1, .ref (o + 0)), (2, .ref (o + 747 + 0)), (3, .int (nI (5 * i)))] → W p l e room_1 s m #[Value.ref b] below meth c H locs 753 12448 Q (F0 m 924 ls [])) (H : Heap) (locs : List Loc) (ls : Array Slot) (P : HpL o D cA μ ρ s H locs) (hl : lv_has ls 4 [(0, .ref b), (1, .ref (o + 0)), (2, .ref (o + 747 + 0)), (3, .int (nI (5 * i)))]) : W p l e room_1 s m #[Value.ref b] below meth c H locs 753 12448 Q (F0 m 514 ls []) := by
  have hx := C.1.1
  have hb := C.1.2.1
  have hj1 : nI (5 * i) + 1 = nI (5 * i + 1) := by rw [show (1 : Int32) = nI 1 from rfl, nI_add]
  have hv1 : vp_in (nI (5 * i) + 1) L := by rw [hj1]; exact vp_in_nI (by omega) (by omega)
  refine lv_aload_n hx hb dL_law_514 rfl (lv_at hl 1 rfl) ?_
  refine lv_aload_n hx hb dL_law_515 rfl (lv_at hl 0 rfl) ?_
  refine lv_iload_n hx hb dL_law_516 rfl (lv_at hl 3 rfl) ?_
  refine lv_iconst (v := 1) hx hb dL_law_517 (by decide) ?_
  refine lv_iadd hx hb dL_law_518 ?_
  refine va_sld (A := fun q => o ≤ q) hx hb hX hbl hbA P.2.2 hv1 dL_law_519 ?_
  have h := hop n μ ρ hn hS ((xs (nI (5 * i) + 1).toNatClampNeg))
  refine lw_callC (va_runV (As := [.int ((xs (nI (5 * i) + 1).toNatClampNeg))]) (rest := []) C.1 (c_X9_pinch l D cA o _ μ _ h) (cwV 1 C.1.2.2.2.2 gL_law_X9_pinch rfl rfl rfl (by decide +kernel) ⟨Nat.le_of_ble_eq_true rfl, Nat.le_of_ble_eq_true rfl⟩) (lw_preV C P.1 [.int ((xs (nI (5 * i) + 1).toNatClampNeg))] (ci := 9) rfl (by decide) (EK_9 kd_at_0)) rfl rfl hl.1 rfl (lv_room (Nat.le_of_ble_eq_true rfl)) dL_law_520 ⟨Nat.le_of_ble_eq_true rfl, Nat.le_of_ble_eq_true rfl⟩) P (fun r μ1 H locs h P => ?_)
  refine lv_aload_n hx hb dL_law_523 rfl (lv_at hl 2 rfl) ?_
  refine lv_aload_n hx hb dL_law_524 rfl (lv_at hl 0 rfl) ?_
  refine lv_iload_n hx hb dL_law_525 rfl (lv_at hl 3 rfl) ?_
  refine lv_iconst (v := 1) hx hb dL_law_526 (by decide) ?_
  refine lv_iadd hx hb dL_law_527 ?_
  refine va_sld (A := fun q => o ≤ q) hx hb hX hbl hbA P.2.2 hv1 dL_law_528 ?_
  refine lw_callM (va_runV (As := [.int ((xs (nI (5 * i) + 1).toNatClampNeg))]) (rest := [.int r]) C.1 (c_X10_pinch l D cA (o + 747) _ ρ _ h) (cwV 1 C.1.2.2.2.2 gL_law_X10_pinch rfl rfl rfl (by decide +kernel) ⟨Nat.le_of_ble_eq_true rfl, Nat.le_of_ble_eq_true rfl⟩) (lw_preV C P.2.1 [.int ((xs (nI (5 * i) + 1).toNatClampNeg))] (ci := 10) rfl (by decide) EKM_0) rfl rfl hl.1 rfl (lv_room (Nat.le_of_ble_eq_true rfl)) dL_law_529 ⟨Nat.le_of_ble_eq_true rfl, Nat.le_of_ble_eq_true rfl⟩) P (fun t ρ1 H locs h P => ?_)
  refine lv_icmp_eq (tgt := 924) hx hb dL_law_532 (by decide) (fun cz => ?_) (fun cz => ?_)
  · exact hkk μ1 ρ1 H locs ls h.2 P hl
  · exact absurd h.1 cz
set_option maxHeartbeats 4000000 in
set_option maxRecDepth 100000 in
theorem lw_case_fail {p : Program} {l : Launch} {e : Env} {s : State} {m : MethodId} {below : List Frame} {meth : Method} {c : Code} {D : va_G} {cA : Nat → ClassId} {b L : Nat} {xs : Nat → Int32} {S : Nat → Mm → Mm → Prop} {Q : State → Prop} {o : Nat} (C : Cx p m meth c s #[Value.ref b] cL_law 4 wsL_law RL ret D (tysL cA)) (hX : va_X b L xs s s.heap) (hbl : b < s.heap.size) (hbA : ¬ (fun q : Nat => o ≤ q) b) (hop : Op_fail S) {n i : Nat} (hn : n < 512) (hi : 5 * i + 5 ≤ L) (hL : L ≤ 2560) {μ ρ : Mm} (hS : S n μ ρ) (hkk : ∀ (μ ρ : Mm) (H : Heap) (locs : List Loc) (ls : Array Slot), S (n + 1) μ ρ → HpL o D cA μ ρ s H locs → lv_has ls 4 [(0, .ref b), (1, .ref (o + 0)), (2, .ref (o + 747 + 0)), (3, .int (nI (5 * i)))] → W p l e room_1 s m #[Value.ref b] below meth c H locs 753 12448 Q (F0 m 924 ls [])) (H : Heap) (locs : List Loc) (ls : Array Slot) (P : HpL o D cA μ ρ s H locs) (hl : lv_has ls 4 [(0, .ref b), (1, .ref (o + 0)), (2, .ref (o + 747 + 0)), (3, .int (nI (5 * i)))]) : W p l e room_1 s m #[Value.ref b] below meth c H locs 753 12448 Q (F0 m 537 ls []) := by
  have hx := C.1.1
  have hb := C.1.2.1
  have hj1 : nI (5 * i) + 1 = nI (5 * i + 1) := by rw [show (1 : Int32) = nI 1 from rfl, nI_add]
  have hv1 : vp_in (nI (5 * i) + 1) L := by rw [hj1]; exact vp_in_nI (by omega) (by omega)
  refine lv_aload_n hx hb dL_law_537 rfl (lv_at hl 1 rfl) ?_
  refine lv_aload_n hx hb dL_law_538 rfl (lv_at hl 0 rfl) ?_
  refine lv_iload_n hx hb dL_law_539 rfl (lv_at hl 3 rfl) ?_
  refine lv_iconst (v := 1) hx hb dL_law_540 (by decide) ?_
  refine lv_iadd hx hb dL_law_541 ?_
  refine va_sld (A := fun q => o ≤ q) hx hb hX hbl hbA P.2.2 hv1 dL_law_542 ?_
  have h := hop n μ ρ hn hS ((xs (nI (5 * i) + 1).toNatClampNeg))
  refine lw_callC (va_runV (As := [.int ((xs (nI (5 * i) + 1).toNatClampNeg))]) (rest := []) C.1 (c_X9_fail l D cA o _ μ _ h) (cwV 1 C.1.2.2.2.2 gL_law_X9_fail rfl rfl rfl (by decide +kernel) ⟨Nat.le_of_ble_eq_true rfl, Nat.le_of_ble_eq_true rfl⟩) (lw_preV C P.1 [.int ((xs (nI (5 * i) + 1).toNatClampNeg))] (ci := 9) rfl (by decide) (EK_9 kd_at_0)) rfl rfl hl.1 rfl (lv_room (Nat.le_of_ble_eq_true rfl)) dL_law_543 ⟨Nat.le_of_ble_eq_true rfl, Nat.le_of_ble_eq_true rfl⟩) P (fun r μ1 H locs h P => ?_)
  refine lv_aload_n hx hb dL_law_546 rfl (lv_at hl 2 rfl) ?_
  refine lv_aload_n hx hb dL_law_547 rfl (lv_at hl 0 rfl) ?_
  refine lv_iload_n hx hb dL_law_548 rfl (lv_at hl 3 rfl) ?_
  refine lv_iconst (v := 1) hx hb dL_law_549 (by decide) ?_
  refine lv_iadd hx hb dL_law_550 ?_
  refine va_sld (A := fun q => o ≤ q) hx hb hX hbl hbA P.2.2 hv1 dL_law_551 ?_
  refine lw_callM (va_runV (As := [.int ((xs (nI (5 * i) + 1).toNatClampNeg))]) (rest := [.int r]) C.1 (c_X10_fail l D cA (o + 747) _ ρ _ h) (cwV 1 C.1.2.2.2.2 gL_law_X10_fail rfl rfl rfl (by decide +kernel) ⟨Nat.le_of_ble_eq_true rfl, Nat.le_of_ble_eq_true rfl⟩) (lw_preV C P.2.1 [.int ((xs (nI (5 * i) + 1).toNatClampNeg))] (ci := 10) rfl (by decide) EKM_0) rfl rfl hl.1 rfl (lv_room (Nat.le_of_ble_eq_true rfl)) dL_law_552 ⟨Nat.le_of_ble_eq_true rfl, Nat.le_of_ble_eq_true rfl⟩) P (fun t ρ1 H locs h P => ?_)
  refine lv_icmp_eq (tgt := 924) hx hb dL_law_555 (by decide) (fun cz => ?_) (fun cz => ?_)
  · exact hkk μ1 ρ1 H locs ls h.2 P hl
  · exact absurd h.1 cz
set_option maxHeartbeats 4000000 in
set_option maxRecDepth 100000 in
theorem lw_case_repair {p : Program} {l : Launch} {e : Env} {s : State} {m : MethodId} {below : List Frame} {meth : Method} {c : Code} {D : va_G} {cA : Nat → ClassId} {b L : Nat} {xs : Nat → Int32} {S : Nat → Mm → Mm → Prop} {Q : State → Prop} {o : Nat} (C : Cx p m meth c s #[Value.ref b] cL_law 4 wsL_law RL ret D (tysL cA)) (hX : va_X b L xs s s.heap) (hbl : b < s.heap.size) (hbA : ¬ (fun q : Nat => o ≤ q) b) (hop : Op_repair S) {n i : Nat} (hn : n < 512) (hi : 5 * i + 5 ≤ L) (hL : L ≤ 2560) {μ ρ : Mm} (hS : S n μ ρ) (hkk : ∀ (μ ρ : Mm) (H : Heap) (locs : List Loc) (ls : Array Slot), S (n + 1) μ ρ → HpL o D cA μ ρ s H locs → lv_has ls 4 [(0, .ref b), (1, .ref (o + 0)), (2, .ref (o + 747 + 0)), (3, .int (nI (5 * i)))] → W p l e room_1 s m #[Value.ref b] below meth c H locs 753 12448 Q (F0 m 924 ls [])) (H : Heap) (locs : List Loc) (ls : Array Slot) (P : HpL o D cA μ ρ s H locs) (hl : lv_has ls 4 [(0, .ref b), (1, .ref (o + 0)), (2, .ref (o + 747 + 0)), (3, .int (nI (5 * i)))]) : W p l e room_1 s m #[Value.ref b] below meth c H locs 753 12448 Q (F0 m 560 ls []) := by
  have hx := C.1.1
  have hb := C.1.2.1
  have hj1 : nI (5 * i) + 1 = nI (5 * i + 1) := by rw [show (1 : Int32) = nI 1 from rfl, nI_add]
  have hv1 : vp_in (nI (5 * i) + 1) L := by rw [hj1]; exact vp_in_nI (by omega) (by omega)
  refine lv_aload_n hx hb dL_law_560 rfl (lv_at hl 1 rfl) ?_
  refine lv_aload_n hx hb dL_law_561 rfl (lv_at hl 0 rfl) ?_
  refine lv_iload_n hx hb dL_law_562 rfl (lv_at hl 3 rfl) ?_
  refine lv_iconst (v := 1) hx hb dL_law_563 (by decide) ?_
  refine lv_iadd hx hb dL_law_564 ?_
  refine va_sld (A := fun q => o ≤ q) hx hb hX hbl hbA P.2.2 hv1 dL_law_565 ?_
  have h := hop n μ ρ hn hS ((xs (nI (5 * i) + 1).toNatClampNeg))
  refine lw_callC (va_runV (As := [.int ((xs (nI (5 * i) + 1).toNatClampNeg))]) (rest := []) C.1 (c_X9_repair l D cA o _ μ _ h) (cwV 1 C.1.2.2.2.2 gL_law_X9_repair rfl rfl rfl (by decide +kernel) ⟨Nat.le_of_ble_eq_true rfl, Nat.le_of_ble_eq_true rfl⟩) (lw_preV C P.1 [.int ((xs (nI (5 * i) + 1).toNatClampNeg))] (ci := 9) rfl (by decide) (EK_9 kd_at_0)) rfl rfl hl.1 rfl (lv_room (Nat.le_of_ble_eq_true rfl)) dL_law_566 ⟨Nat.le_of_ble_eq_true rfl, Nat.le_of_ble_eq_true rfl⟩) P (fun r μ1 H locs h P => ?_)
  refine lv_aload_n hx hb dL_law_569 rfl (lv_at hl 2 rfl) ?_
  refine lv_aload_n hx hb dL_law_570 rfl (lv_at hl 0 rfl) ?_
  refine lv_iload_n hx hb dL_law_571 rfl (lv_at hl 3 rfl) ?_
  refine lv_iconst (v := 1) hx hb dL_law_572 (by decide) ?_
  refine lv_iadd hx hb dL_law_573 ?_
  refine va_sld (A := fun q => o ≤ q) hx hb hX hbl hbA P.2.2 hv1 dL_law_574 ?_
  refine lw_callM (va_runV (As := [.int ((xs (nI (5 * i) + 1).toNatClampNeg))]) (rest := [.int r]) C.1 (c_X10_repair l D cA (o + 747) _ ρ _ h) (cwV 1 C.1.2.2.2.2 gL_law_X10_repair rfl rfl rfl (by decide +kernel) ⟨Nat.le_of_ble_eq_true rfl, Nat.le_of_ble_eq_true rfl⟩) (lw_preV C P.2.1 [.int ((xs (nI (5 * i) + 1).toNatClampNeg))] (ci := 10) rfl (by decide) EKM_0) rfl rfl hl.1 rfl (lv_room (Nat.le_of_ble_eq_true rfl)) dL_law_575 ⟨Nat.le_of_ble_eq_true rfl, Nat.le_of_ble_eq_true rfl⟩) P (fun t ρ1 H locs h P => ?_)
  refine lv_icmp_eq (tgt := 924) hx hb dL_law_578 (by decide) (fun cz => ?_) (fun cz => ?_)
  · exact hkk μ1 ρ1 H locs ls h.2 P hl
  · exact absurd h.1 cz
set_option maxHeartbeats 4000000 in
set_option maxRecDepth 100000 in
theorem lw_case_pass {p : Program} {l : Launch} {e : Env} {s : State} {m : MethodId} {below : List Frame} {meth : Method} {c : Code} {D : va_G} {cA : Nat → ClassId} {b L : Nat} {xs : Nat → Int32} {S : Nat → Mm → Mm → Prop} {Q : State → Prop} {o : Nat} (C : Cx p m meth c s #[Value.ref b] cL_law 4 wsL_law RL ret D (tysL cA)) (hX : va_X b L xs s s.heap) (hbl : b < s.heap.size) (hbA : ¬ (fun q : Nat => o ≤ q) b) (hop : Op_pass S) {n i : Nat} (hn : n < 512) (hi : 5 * i + 5 ≤ L) (hL : L ≤ 2560) {μ ρ : Mm} (hS : S n μ ρ) (hkk : ∀ (μ ρ : Mm) (H : Heap) (locs : List Loc) (ls : Array Slot), S (n + 1) μ ρ → HpL o D cA μ ρ s H locs → lv_has ls 4 [(0, .ref b), (1, .ref (o + 0)), (2, .ref (o + 747 + 0)), (3, .int (nI (5 * i)))] → W p l e room_1 s m #[Value.ref b] below meth c H locs 753 12448 Q (F0 m 924 ls [])) (H : Heap) (locs : List Loc) (ls : Array Slot) (P : HpL o D cA μ ρ s H locs) (hl : lv_has ls 4 [(0, .ref b), (1, .ref (o + 0)), (2, .ref (o + 747 + 0)), (3, .int (nI (5 * i)))]) : W p l e room_1 s m #[Value.ref b] below meth c H locs 753 12448 Q (F0 m 583 ls []) := by
  have hx := C.1.1
  have hb := C.1.2.1
  have hj1 : nI (5 * i) + 1 = nI (5 * i + 1) := by rw [show (1 : Int32) = nI 1 from rfl, nI_add]
  have hv1 : vp_in (nI (5 * i) + 1) L := by rw [hj1]; exact vp_in_nI (by omega) (by omega)
  refine lv_aload_n hx hb dL_law_583 rfl (lv_at hl 1 rfl) ?_
  refine lv_aload_n hx hb dL_law_584 rfl (lv_at hl 0 rfl) ?_
  refine lv_iload_n hx hb dL_law_585 rfl (lv_at hl 3 rfl) ?_
  refine lv_iconst (v := 1) hx hb dL_law_586 (by decide) ?_
  refine lv_iadd hx hb dL_law_587 ?_
  refine va_sld (A := fun q => o ≤ q) hx hb hX hbl hbA P.2.2 hv1 dL_law_588 ?_
  have h := hop n μ ρ hn hS ((xs (nI (5 * i) + 1).toNatClampNeg))
  refine lw_callC (va_runV (As := [.int ((xs (nI (5 * i) + 1).toNatClampNeg))]) (rest := []) C.1 (c_X9_pass l D cA o _ μ _ h) (cwV 1 C.1.2.2.2.2 gL_law_X9_pass rfl rfl rfl (by decide +kernel) ⟨Nat.le_of_ble_eq_true rfl, Nat.le_of_ble_eq_true rfl⟩) (lw_preV C P.1 [.int ((xs (nI (5 * i) + 1).toNatClampNeg))] (ci := 9) rfl (by decide) (EK_9 kd_at_0)) rfl rfl hl.1 rfl (lv_room (Nat.le_of_ble_eq_true rfl)) dL_law_589 ⟨Nat.le_of_ble_eq_true rfl, Nat.le_of_ble_eq_true rfl⟩) P (fun r μ1 H locs h P => ?_)
  refine lv_aload_n hx hb dL_law_592 rfl (lv_at hl 2 rfl) ?_
  refine lv_aload_n hx hb dL_law_593 rfl (lv_at hl 0 rfl) ?_
  refine lv_iload_n hx hb dL_law_594 rfl (lv_at hl 3 rfl) ?_
  refine lv_iconst (v := 1) hx hb dL_law_595 (by decide) ?_
  refine lv_iadd hx hb dL_law_596 ?_
  refine va_sld (A := fun q => o ≤ q) hx hb hX hbl hbA P.2.2 hv1 dL_law_597 ?_
  refine lw_callM (va_runV (As := [.int ((xs (nI (5 * i) + 1).toNatClampNeg))]) (rest := [.int r]) C.1 (c_X10_pass l D cA (o + 747) _ ρ _ h) (cwV 1 C.1.2.2.2.2 gL_law_X10_pass rfl rfl rfl (by decide +kernel) ⟨Nat.le_of_ble_eq_true rfl, Nat.le_of_ble_eq_true rfl⟩) (lw_preV C P.2.1 [.int ((xs (nI (5 * i) + 1).toNatClampNeg))] (ci := 10) rfl (by decide) EKM_0) rfl rfl hl.1 rfl (lv_room (Nat.le_of_ble_eq_true rfl)) dL_law_598 ⟨Nat.le_of_ble_eq_true rfl, Nat.le_of_ble_eq_true rfl⟩) P (fun t ρ1 H locs h P => ?_)
  refine lv_icmp_eq (tgt := 924) hx hb dL_law_601 (by decide) (fun cz => ?_) (fun cz => ?_)
  · exact hkk μ1 ρ1 H locs ls h.2 P hl
  · exact absurd h.1 cz
set_option maxHeartbeats 4000000 in
set_option maxRecDepth 100000 in
theorem lw_case_type {p : Program} {l : Launch} {e : Env} {s : State} {m : MethodId} {below : List Frame} {meth : Method} {c : Code} {D : va_G} {cA : Nat → ClassId} {b L : Nat} {xs : Nat → Int32} {S : Nat → Mm → Mm → Prop} {Q : State → Prop} {o : Nat} (C : Cx p m meth c s #[Value.ref b] cL_law 4 wsL_law RL ret D (tysL cA)) (hX : va_X b L xs s s.heap) (hbl : b < s.heap.size) (hbA : ¬ (fun q : Nat => o ≤ q) b) (hop : Op_type S) {n i : Nat} (hn : n < 512) (hi : 5 * i + 5 ≤ L) (hL : L ≤ 2560) {μ ρ : Mm} (hS : S n μ ρ) (hkk : ∀ (μ ρ : Mm) (H : Heap) (locs : List Loc) (ls : Array Slot), S (n + 1) μ ρ → HpL o D cA μ ρ s H locs → lv_has ls 4 [(0, .ref b), (1, .ref (o + 0)), (2, .ref (o + 747 + 0)), (3, .int (nI (5 * i)))] → W p l e room_1 s m #[Value.ref b] below meth c H locs 753 12448 Q (F0 m 924 ls [])) (H : Heap) (locs : List Loc) (ls : Array Slot) (P : HpL o D cA μ ρ s H locs) (hl : lv_has ls 4 [(0, .ref b), (1, .ref (o + 0)), (2, .ref (o + 747 + 0)), (3, .int (nI (5 * i)))]) : W p l e room_1 s m #[Value.ref b] below meth c H locs 753 12448 Q (F0 m 606 ls []) := by
  have hx := C.1.1
  have hb := C.1.2.1
  have hj1 : nI (5 * i) + 1 = nI (5 * i + 1) := by rw [show (1 : Int32) = nI 1 from rfl, nI_add]
  have hv1 : vp_in (nI (5 * i) + 1) L := by rw [hj1]; exact vp_in_nI (by omega) (by omega)
  refine lv_aload_n hx hb dL_law_606 rfl (lv_at hl 1 rfl) ?_
  refine lv_aload_n hx hb dL_law_607 rfl (lv_at hl 0 rfl) ?_
  refine lv_iload_n hx hb dL_law_608 rfl (lv_at hl 3 rfl) ?_
  refine lv_iconst (v := 1) hx hb dL_law_609 (by decide) ?_
  refine lv_iadd hx hb dL_law_610 ?_
  refine va_sld (A := fun q => o ≤ q) hx hb hX hbl hbA P.2.2 hv1 dL_law_611 ?_
  refine lv_i2c hx hb dL_law_612 rfl ?_
  have h := hop n μ ρ hn hS (((xs (nI (5 * i) + 1).toNatClampNeg).toUInt32 % 65536).toInt32)
  refine lw_callC (va_runV (As := [.int (((xs (nI (5 * i) + 1).toNatClampNeg).toUInt32 % 65536).toInt32)]) (rest := []) C.1 (c_X9_type l D cA o _ μ _ h) (cwV 1 C.1.2.2.2.2 gL_law_X9_type rfl rfl rfl (by decide +kernel) ⟨Nat.le_of_ble_eq_true rfl, Nat.le_of_ble_eq_true rfl⟩) (lw_preV C P.1 [.int (((xs (nI (5 * i) + 1).toNatClampNeg).toUInt32 % 65536).toInt32)] (ci := 9) rfl (by decide) (EK_9 kd_at_0)) rfl rfl hl.1 rfl (lv_room (Nat.le_of_ble_eq_true rfl)) dL_law_613 ⟨Nat.le_of_ble_eq_true rfl, Nat.le_of_ble_eq_true rfl⟩) P (fun r μ1 H locs h P => ?_)
  refine lv_aload_n hx hb dL_law_616 rfl (lv_at hl 2 rfl) ?_
  refine lv_aload_n hx hb dL_law_617 rfl (lv_at hl 0 rfl) ?_
  refine lv_iload_n hx hb dL_law_618 rfl (lv_at hl 3 rfl) ?_
  refine lv_iconst (v := 1) hx hb dL_law_619 (by decide) ?_
  refine lv_iadd hx hb dL_law_620 ?_
  refine va_sld (A := fun q => o ≤ q) hx hb hX hbl hbA P.2.2 hv1 dL_law_621 ?_
  refine lv_i2c hx hb dL_law_622 rfl ?_
  refine lw_callM (va_runV (As := [.int (((xs (nI (5 * i) + 1).toNatClampNeg).toUInt32 % 65536).toInt32)]) (rest := [.int r]) C.1 (c_X10_type l D cA (o + 747) _ ρ _ h) (cwV 1 C.1.2.2.2.2 gL_law_X10_type rfl rfl rfl (by decide +kernel) ⟨Nat.le_of_ble_eq_true rfl, Nat.le_of_ble_eq_true rfl⟩) (lw_preV C P.2.1 [.int (((xs (nI (5 * i) + 1).toNatClampNeg).toUInt32 % 65536).toInt32)] (ci := 10) rfl (by decide) EKM_0) rfl rfl hl.1 rfl (lv_room (Nat.le_of_ble_eq_true rfl)) dL_law_623 ⟨Nat.le_of_ble_eq_true rfl, Nat.le_of_ble_eq_true rfl⟩) P (fun t ρ1 H locs h P => ?_)
  refine lv_icmp_eq (tgt := 924) hx hb dL_law_626 (by decide) (fun cz => ?_) (fun cz => ?_)
  · exact hkk μ1 ρ1 H locs ls h.2 P hl
  · exact absurd h.1 cz
set_option maxHeartbeats 4000000 in
set_option maxRecDepth 100000 in
theorem lw_case_clearText {p : Program} {l : Launch} {e : Env} {s : State} {m : MethodId} {below : List Frame} {meth : Method} {c : Code} {D : va_G} {cA : Nat → ClassId} {b L : Nat} {xs : Nat → Int32} {S : Nat → Mm → Mm → Prop} {Q : State → Prop} {o : Nat} (C : Cx p m meth c s #[Value.ref b] cL_law 4 wsL_law RL ret D (tysL cA)) (hX : va_X b L xs s s.heap) (hbl : b < s.heap.size) (hbA : ¬ (fun q : Nat => o ≤ q) b) (hop : Op_clearText S) {n i : Nat} (hn : n < 512) (hi : 5 * i + 5 ≤ L) (hL : L ≤ 2560) {μ ρ : Mm} (hS : S n μ ρ) (hkk : ∀ (μ ρ : Mm) (H : Heap) (locs : List Loc) (ls : Array Slot), S (n + 1) μ ρ → HpL o D cA μ ρ s H locs → lv_has ls 4 [(0, .ref b), (1, .ref (o + 0)), (2, .ref (o + 747 + 0)), (3, .int (nI (5 * i)))] → W p l e room_1 s m #[Value.ref b] below meth c H locs 753 12448 Q (F0 m 924 ls [])) (H : Heap) (locs : List Loc) (ls : Array Slot) (P : HpL o D cA μ ρ s H locs) (hl : lv_has ls 4 [(0, .ref b), (1, .ref (o + 0)), (2, .ref (o + 747 + 0)), (3, .int (nI (5 * i)))]) : W p l e room_1 s m #[Value.ref b] below meth c H locs 753 12448 Q (F0 m 631 ls []) := by
  have hx := C.1.1
  have hb := C.1.2.1
  refine lv_aload_n hx hb dL_law_631 rfl (lv_at hl 1 rfl) ?_
  have h := hop n μ ρ hn hS
  refine lw_callC (va_runV (As := []) (rest := []) C.1 (c_X9_clearText l D cA o  μ _ h) (cwV 0 C.1.2.2.2.2 gL_law_X9_clearText rfl rfl rfl (by decide +kernel) ⟨Nat.le_of_ble_eq_true rfl, Nat.le_of_ble_eq_true rfl⟩) (lw_preV C P.1 [] (ci := 9) rfl (by decide) (EK_9 kd_at_0)) rfl rfl hl.1 rfl (lv_room (Nat.le_of_ble_eq_true rfl)) dL_law_632 ⟨Nat.le_of_ble_eq_true rfl, Nat.le_of_ble_eq_true rfl⟩) P (fun r μ1 H locs h P => ?_)
  refine lv_aload_n hx hb dL_law_635 rfl (lv_at hl 2 rfl) ?_
  refine lw_callM (va_runV (As := []) (rest := [.int r]) C.1 (c_X10_clearText l D cA (o + 747)  ρ _ h) (cwV 0 C.1.2.2.2.2 gL_law_X10_clearText rfl rfl rfl (by decide +kernel) ⟨Nat.le_of_ble_eq_true rfl, Nat.le_of_ble_eq_true rfl⟩) (lw_preV C P.2.1 [] (ci := 10) rfl (by decide) EKM_0) rfl rfl hl.1 rfl (lv_room (Nat.le_of_ble_eq_true rfl)) dL_law_636 ⟨Nat.le_of_ble_eq_true rfl, Nat.le_of_ble_eq_true rfl⟩) P (fun t ρ1 H locs h P => ?_)
  refine lv_icmp_eq (tgt := 924) hx hb dL_law_639 (by decide) (fun cz => ?_) (fun cz => ?_)
  · exact hkk μ1 ρ1 H locs ls h.2 P hl
  · exact absurd h.1 cz
set_option maxHeartbeats 4000000 in
set_option maxRecDepth 100000 in
theorem lw_case_run {p : Program} {l : Launch} {e : Env} {s : State} {m : MethodId} {below : List Frame} {meth : Method} {c : Code} {D : va_G} {cA : Nat → ClassId} {b L : Nat} {xs : Nat → Int32} {S : Nat → Mm → Mm → Prop} {Q : State → Prop} {o : Nat} (C : Cx p m meth c s #[Value.ref b] cL_law 4 wsL_law RL ret D (tysL cA)) (hX : va_X b L xs s s.heap) (hbl : b < s.heap.size) (hbA : ¬ (fun q : Nat => o ≤ q) b) (hop : Op_run S) {n i : Nat} (hn : n < 512) (hi : 5 * i + 5 ≤ L) (hL : L ≤ 2560) {μ ρ : Mm} (hS : S n μ ρ) (hkk : ∀ (μ ρ : Mm) (H : Heap) (locs : List Loc) (ls : Array Slot), S (n + 1) μ ρ → HpL o D cA μ ρ s H locs → lv_has ls 4 [(0, .ref b), (1, .ref (o + 0)), (2, .ref (o + 747 + 0)), (3, .int (nI (5 * i)))] → W p l e room_1 s m #[Value.ref b] below meth c H locs 753 12448 Q (F0 m 924 ls [])) (H : Heap) (locs : List Loc) (ls : Array Slot) (P : HpL o D cA μ ρ s H locs) (hl : lv_has ls 4 [(0, .ref b), (1, .ref (o + 0)), (2, .ref (o + 747 + 0)), (3, .int (nI (5 * i)))]) : W p l e room_1 s m #[Value.ref b] below meth c H locs 753 12448 Q (F0 m 644 ls []) := by
  have hx := C.1.1
  have hb := C.1.2.1
  refine lv_aload_n hx hb dL_law_644 rfl (lv_at hl 1 rfl) ?_
  have h := hop n μ ρ hn hS
  refine lw_callC (va_runV (As := []) (rest := []) C.1 (c_X9_run l D cA o  μ _ h) (cwV 0 C.1.2.2.2.2 gL_law_X9_run rfl rfl rfl (by decide +kernel) ⟨Nat.le_of_ble_eq_true rfl, Nat.le_of_ble_eq_true rfl⟩) (lw_preV C P.1 [] (ci := 9) rfl (by decide) (EK_9 kd_at_0)) rfl rfl hl.1 rfl (lv_room (Nat.le_of_ble_eq_true rfl)) dL_law_645 ⟨Nat.le_of_ble_eq_true rfl, Nat.le_of_ble_eq_true rfl⟩) P (fun r μ1 H locs h P => ?_)
  refine lv_aload_n hx hb dL_law_648 rfl (lv_at hl 2 rfl) ?_
  refine lw_callM (va_runV (As := []) (rest := [.int r]) C.1 (c_X10_run l D cA (o + 747)  ρ _ h) (cwV 0 C.1.2.2.2.2 gL_law_X10_run rfl rfl rfl (by decide +kernel) ⟨Nat.le_of_ble_eq_true rfl, Nat.le_of_ble_eq_true rfl⟩) (lw_preV C P.2.1 [] (ci := 10) rfl (by decide) EKM_0) rfl rfl hl.1 rfl (lv_room (Nat.le_of_ble_eq_true rfl)) dL_law_649 ⟨Nat.le_of_ble_eq_true rfl, Nat.le_of_ble_eq_true rfl⟩) P (fun t ρ1 H locs h P => ?_)
  refine lv_icmp_eq (tgt := 924) hx hb dL_law_652 (by decide) (fun cz => ?_) (fun cz => ?_)
  · exact hkk μ1 ρ1 H locs ls h.2 P hl
  · exact absurd h.1 cz
set_option maxHeartbeats 4000000 in
set_option maxRecDepth 100000 in
theorem lw_case_undo {p : Program} {l : Launch} {e : Env} {s : State} {m : MethodId} {below : List Frame} {meth : Method} {c : Code} {D : va_G} {cA : Nat → ClassId} {b L : Nat} {xs : Nat → Int32} {S : Nat → Mm → Mm → Prop} {Q : State → Prop} {o : Nat} (C : Cx p m meth c s #[Value.ref b] cL_law 4 wsL_law RL ret D (tysL cA)) (hX : va_X b L xs s s.heap) (hbl : b < s.heap.size) (hbA : ¬ (fun q : Nat => o ≤ q) b) (hop : Op_undo S) {n i : Nat} (hn : n < 512) (hi : 5 * i + 5 ≤ L) (hL : L ≤ 2560) {μ ρ : Mm} (hS : S n μ ρ) (hkk : ∀ (μ ρ : Mm) (H : Heap) (locs : List Loc) (ls : Array Slot), S (n + 1) μ ρ → HpL o D cA μ ρ s H locs → lv_has ls 4 [(0, .ref b), (1, .ref (o + 0)), (2, .ref (o + 747 + 0)), (3, .int (nI (5 * i)))] → W p l e room_1 s m #[Value.ref b] below meth c H locs 753 12448 Q (F0 m 924 ls [])) (H : Heap) (locs : List Loc) (ls : Array Slot) (P : HpL o D cA μ ρ s H locs) (hl : lv_has ls 4 [(0, .ref b), (1, .ref (o + 0)), (2, .ref (o + 747 + 0)), (3, .int (nI (5 * i)))]) : W p l e room_1 s m #[Value.ref b] below meth c H locs 753 12448 Q (F0 m 657 ls []) := by
  have hx := C.1.1
  have hb := C.1.2.1
  refine lv_aload_n hx hb dL_law_657 rfl (lv_at hl 1 rfl) ?_
  have h := hop n μ ρ hn hS
  refine lw_callC (va_runV (As := []) (rest := []) C.1 (c_X9_undo l D cA o  μ _ h) (cwV 0 C.1.2.2.2.2 gL_law_X9_undo rfl rfl rfl (by decide +kernel) ⟨Nat.le_of_ble_eq_true rfl, Nat.le_of_ble_eq_true rfl⟩) (lw_preV C P.1 [] (ci := 9) rfl (by decide) (EK_9 kd_at_0)) rfl rfl hl.1 rfl (lv_room (Nat.le_of_ble_eq_true rfl)) dL_law_658 ⟨Nat.le_of_ble_eq_true rfl, Nat.le_of_ble_eq_true rfl⟩) P (fun r μ1 H locs h P => ?_)
  refine lv_aload_n hx hb dL_law_661 rfl (lv_at hl 2 rfl) ?_
  refine lw_callM (va_runV (As := []) (rest := [.int r]) C.1 (c_X10_undo l D cA (o + 747)  ρ _ h) (cwV 0 C.1.2.2.2.2 gL_law_X10_undo rfl rfl rfl (by decide +kernel) ⟨Nat.le_of_ble_eq_true rfl, Nat.le_of_ble_eq_true rfl⟩) (lw_preV C P.2.1 [] (ci := 10) rfl (by decide) EKM_0) rfl rfl hl.1 rfl (lv_room (Nat.le_of_ble_eq_true rfl)) dL_law_662 ⟨Nat.le_of_ble_eq_true rfl, Nat.le_of_ble_eq_true rfl⟩) P (fun t ρ1 H locs h P => ?_)
  refine lv_icmp_eq (tgt := 924) hx hb dL_law_665 (by decide) (fun cz => ?_) (fun cz => ?_)
  · exact hkk μ1 ρ1 H locs ls h.2 P hl
  · exact absurd h.1 cz
set_option maxHeartbeats 4000000 in
set_option maxRecDepth 100000 in
theorem lw_case_gate {p : Program} {l : Launch} {e : Env} {s : State} {m : MethodId} {below : List Frame} {meth : Method} {c : Code} {D : va_G} {cA : Nat → ClassId} {b L : Nat} {xs : Nat → Int32} {S : Nat → Mm → Mm → Prop} {Q : State → Prop} {o : Nat} (C : Cx p m meth c s #[Value.ref b] cL_law 4 wsL_law RL ret D (tysL cA)) (hX : va_X b L xs s s.heap) (hbl : b < s.heap.size) (hbA : ¬ (fun q : Nat => o ≤ q) b) (hop : Op_gate S) {n i : Nat} (hn : n < 512) (hi : 5 * i + 5 ≤ L) (hL : L ≤ 2560) {μ ρ : Mm} (hS : S n μ ρ) (hkk : ∀ (μ ρ : Mm) (H : Heap) (locs : List Loc) (ls : Array Slot), S (n + 1) μ ρ → HpL o D cA μ ρ s H locs → lv_has ls 4 [(0, .ref b), (1, .ref (o + 0)), (2, .ref (o + 747 + 0)), (3, .int (nI (5 * i)))] → W p l e room_1 s m #[Value.ref b] below meth c H locs 753 12448 Q (F0 m 924 ls [])) (H : Heap) (locs : List Loc) (ls : Array Slot) (P : HpL o D cA μ ρ s H locs) (hl : lv_has ls 4 [(0, .ref b), (1, .ref (o + 0)), (2, .ref (o + 747 + 0)), (3, .int (nI (5 * i)))]) : W p l e room_1 s m #[Value.ref b] below meth c H locs 753 12448 Q (F0 m 670 ls []) := by
  have hx := C.1.1
  have hb := C.1.2.1
  have hj1 : nI (5 * i) + 1 = nI (5 * i + 1) := by rw [show (1 : Int32) = nI 1 from rfl, nI_add]
  have hj2 : nI (5 * i) + 2 = nI (5 * i + 2) := by rw [show (2 : Int32) = nI 2 from rfl, nI_add]
  have hv1 : vp_in (nI (5 * i) + 1) L := by rw [hj1]; exact vp_in_nI (by omega) (by omega)
  have hv2 : vp_in (nI (5 * i) + 2) L := by rw [hj2]; exact vp_in_nI (by omega) (by omega)
  refine lv_aload_n hx hb dL_law_670 rfl (lv_at hl 1 rfl) ?_
  refine lv_aload_n hx hb dL_law_671 rfl (lv_at hl 0 rfl) ?_
  refine lv_iload_n hx hb dL_law_672 rfl (lv_at hl 3 rfl) ?_
  refine lv_iconst (v := 1) hx hb dL_law_673 (by decide) ?_
  refine lv_iadd hx hb dL_law_674 ?_
  refine va_sld (A := fun q => o ≤ q) hx hb hX hbl hbA P.2.2 hv1 dL_law_675 ?_
  refine lv_aload_n hx hb dL_law_676 rfl (lv_at hl 0 rfl) ?_
  refine lv_iload_n hx hb dL_law_677 rfl (lv_at hl 3 rfl) ?_
  refine lv_iconst (v := 2) hx hb dL_law_678 (by decide) ?_
  refine lv_iadd hx hb dL_law_679 ?_
  refine va_sld (A := fun q => o ≤ q) hx hb hX hbl hbA P.2.2 hv2 dL_law_680 ?_
  have h := hop n μ ρ hn hS ((xs (nI (5 * i) + 1).toNatClampNeg)) ((xs (nI (5 * i) + 2).toNatClampNeg))
  refine lw_callC (va_runV (As := [.int ((xs (nI (5 * i) + 1).toNatClampNeg)), .int ((xs (nI (5 * i) + 2).toNatClampNeg))]) (rest := []) C.1 (c_X9_gate l D cA o _ _ μ _ h) (cwV 2 C.1.2.2.2.2 gL_law_X9_gate rfl rfl rfl (by decide +kernel) ⟨Nat.le_of_ble_eq_true rfl, Nat.le_of_ble_eq_true rfl⟩) (lw_preV C P.1 [.int ((xs (nI (5 * i) + 1).toNatClampNeg)), .int ((xs (nI (5 * i) + 2).toNatClampNeg))] (ci := 9) rfl (by decide) (EK_9 kd_at_0)) rfl rfl hl.1 rfl (lv_room (Nat.le_of_ble_eq_true rfl)) dL_law_681 ⟨Nat.le_of_ble_eq_true rfl, Nat.le_of_ble_eq_true rfl⟩) P (fun r μ1 H locs h P => ?_)
  refine lv_aload_n hx hb dL_law_684 rfl (lv_at hl 2 rfl) ?_
  refine lv_aload_n hx hb dL_law_685 rfl (lv_at hl 0 rfl) ?_
  refine lv_iload_n hx hb dL_law_686 rfl (lv_at hl 3 rfl) ?_
  refine lv_iconst (v := 1) hx hb dL_law_687 (by decide) ?_
  refine lv_iadd hx hb dL_law_688 ?_
  refine va_sld (A := fun q => o ≤ q) hx hb hX hbl hbA P.2.2 hv1 dL_law_689 ?_
  refine lv_aload_n hx hb dL_law_690 rfl (lv_at hl 0 rfl) ?_
  refine lv_iload_n hx hb dL_law_691 rfl (lv_at hl 3 rfl) ?_
  refine lv_iconst (v := 2) hx hb dL_law_692 (by decide) ?_
  refine lv_iadd hx hb dL_law_693 ?_
  refine va_sld (A := fun q => o ≤ q) hx hb hX hbl hbA P.2.2 hv2 dL_law_694 ?_
  refine lw_callM (va_runV (As := [.int ((xs (nI (5 * i) + 1).toNatClampNeg)), .int ((xs (nI (5 * i) + 2).toNatClampNeg))]) (rest := [.int r]) C.1 (c_X10_gate l D cA (o + 747) _ _ ρ _ h) (cwV 2 C.1.2.2.2.2 gL_law_X10_gate rfl rfl rfl (by decide +kernel) ⟨Nat.le_of_ble_eq_true rfl, Nat.le_of_ble_eq_true rfl⟩) (lw_preV C P.2.1 [.int ((xs (nI (5 * i) + 1).toNatClampNeg)), .int ((xs (nI (5 * i) + 2).toNatClampNeg))] (ci := 10) rfl (by decide) EKM_0) rfl rfl hl.1 rfl (lv_room (Nat.le_of_ble_eq_true rfl)) dL_law_695 ⟨Nat.le_of_ble_eq_true rfl, Nat.le_of_ble_eq_true rfl⟩) P (fun t ρ1 H locs h P => ?_)
  refine lv_icmp_eq (tgt := 924) hx hb dL_law_698 (by decide) (fun cz => ?_) (fun cz => ?_)
  · exact hkk μ1 ρ1 H locs ls h.2 P hl
  · exact absurd h.1 cz
set_option maxHeartbeats 4000000 in
set_option maxRecDepth 100000 in
theorem lw_case_queued {p : Program} {l : Launch} {e : Env} {s : State} {m : MethodId} {below : List Frame} {meth : Method} {c : Code} {D : va_G} {cA : Nat → ClassId} {b L : Nat} {xs : Nat → Int32} {S : Nat → Mm → Mm → Prop} {Q : State → Prop} {o : Nat} (C : Cx p m meth c s #[Value.ref b] cL_law 4 wsL_law RL ret D (tysL cA)) (hX : va_X b L xs s s.heap) (hbl : b < s.heap.size) (hbA : ¬ (fun q : Nat => o ≤ q) b) (hop : Op_queued S) {n i : Nat} (hn : n < 512) (hi : 5 * i + 5 ≤ L) (hL : L ≤ 2560) {μ ρ : Mm} (hS : S n μ ρ) (hkk : ∀ (μ ρ : Mm) (H : Heap) (locs : List Loc) (ls : Array Slot), S (n + 1) μ ρ → HpL o D cA μ ρ s H locs → lv_has ls 4 [(0, .ref b), (1, .ref (o + 0)), (2, .ref (o + 747 + 0)), (3, .int (nI (5 * i)))] → W p l e room_1 s m #[Value.ref b] below meth c H locs 753 12448 Q (F0 m 924 ls [])) (H : Heap) (locs : List Loc) (ls : Array Slot) (P : HpL o D cA μ ρ s H locs) (hl : lv_has ls 4 [(0, .ref b), (1, .ref (o + 0)), (2, .ref (o + 747 + 0)), (3, .int (nI (5 * i)))]) : W p l e room_1 s m #[Value.ref b] below meth c H locs 753 12448 Q (F0 m 703 ls []) := by
  have hx := C.1.1
  have hb := C.1.2.1
  have hj1 : nI (5 * i) + 1 = nI (5 * i + 1) := by rw [show (1 : Int32) = nI 1 from rfl, nI_add]
  have hj2 : nI (5 * i) + 2 = nI (5 * i + 2) := by rw [show (2 : Int32) = nI 2 from rfl, nI_add]
  have hj3 : nI (5 * i) + 3 = nI (5 * i + 3) := by rw [show (3 : Int32) = nI 3 from rfl, nI_add]
  have hv1 : vp_in (nI (5 * i) + 1) L := by rw [hj1]; exact vp_in_nI (by omega) (by omega)
  have hv2 : vp_in (nI (5 * i) + 2) L := by rw [hj2]; exact vp_in_nI (by omega) (by omega)
  have hv3 : vp_in (nI (5 * i) + 3) L := by rw [hj3]; exact vp_in_nI (by omega) (by omega)
  refine lv_aload_n hx hb dL_law_703 rfl (lv_at hl 1 rfl) ?_
  refine lv_aload_n hx hb dL_law_704 rfl (lv_at hl 0 rfl) ?_
  refine lv_iload_n hx hb dL_law_705 rfl (lv_at hl 3 rfl) ?_
  refine lv_iconst (v := 1) hx hb dL_law_706 (by decide) ?_
  refine lv_iadd hx hb dL_law_707 ?_
  refine va_sld (A := fun q => o ≤ q) hx hb hX hbl hbA P.2.2 hv1 dL_law_708 ?_
  refine lv_aload_n hx hb dL_law_709 rfl (lv_at hl 0 rfl) ?_
  refine lv_iload_n hx hb dL_law_710 rfl (lv_at hl 3 rfl) ?_
  refine lv_iconst (v := 2) hx hb dL_law_711 (by decide) ?_
  refine lv_iadd hx hb dL_law_712 ?_
  refine va_sld (A := fun q => o ≤ q) hx hb hX hbl hbA P.2.2 hv2 dL_law_713 ?_
  refine lv_aload_n hx hb dL_law_714 rfl (lv_at hl 0 rfl) ?_
  refine lv_iload_n hx hb dL_law_715 rfl (lv_at hl 3 rfl) ?_
  refine lv_iconst (v := 3) hx hb dL_law_716 (by decide) ?_
  refine lv_iadd hx hb dL_law_717 ?_
  refine va_sld (A := fun q => o ≤ q) hx hb hX hbl hbA P.2.2 hv3 dL_law_718 ?_
  have h := hop n μ ρ hn hS ((xs (nI (5 * i) + 1).toNatClampNeg)) ((xs (nI (5 * i) + 2).toNatClampNeg)) ((xs (nI (5 * i) + 3).toNatClampNeg))
  refine lw_callC (va_runV (As := [.int ((xs (nI (5 * i) + 1).toNatClampNeg)), .int ((xs (nI (5 * i) + 2).toNatClampNeg)), .int ((xs (nI (5 * i) + 3).toNatClampNeg))]) (rest := []) C.1 (c_X9_queued l D cA o _ _ _ μ _ h) (cwV 3 C.1.2.2.2.2 gL_law_X9_queued rfl rfl rfl (by decide +kernel) ⟨Nat.le_of_ble_eq_true rfl, Nat.le_of_ble_eq_true rfl⟩) (lw_preV C P.1 [.int ((xs (nI (5 * i) + 1).toNatClampNeg)), .int ((xs (nI (5 * i) + 2).toNatClampNeg)), .int ((xs (nI (5 * i) + 3).toNatClampNeg))] (ci := 9) rfl (by decide) (EK_9 kd_at_0)) rfl rfl hl.1 rfl (lv_room (Nat.le_of_ble_eq_true rfl)) dL_law_719 ⟨Nat.le_of_ble_eq_true rfl, Nat.le_of_ble_eq_true rfl⟩) P (fun r μ1 H locs h P => ?_)
  refine lv_aload_n hx hb dL_law_722 rfl (lv_at hl 2 rfl) ?_
  refine lv_aload_n hx hb dL_law_723 rfl (lv_at hl 0 rfl) ?_
  refine lv_iload_n hx hb dL_law_724 rfl (lv_at hl 3 rfl) ?_
  refine lv_iconst (v := 1) hx hb dL_law_725 (by decide) ?_
  refine lv_iadd hx hb dL_law_726 ?_
  refine va_sld (A := fun q => o ≤ q) hx hb hX hbl hbA P.2.2 hv1 dL_law_727 ?_
  refine lv_aload_n hx hb dL_law_728 rfl (lv_at hl 0 rfl) ?_
  refine lv_iload_n hx hb dL_law_729 rfl (lv_at hl 3 rfl) ?_
  refine lv_iconst (v := 2) hx hb dL_law_730 (by decide) ?_
  refine lv_iadd hx hb dL_law_731 ?_
  refine va_sld (A := fun q => o ≤ q) hx hb hX hbl hbA P.2.2 hv2 dL_law_732 ?_
  refine lv_aload_n hx hb dL_law_733 rfl (lv_at hl 0 rfl) ?_
  refine lv_iload_n hx hb dL_law_734 rfl (lv_at hl 3 rfl) ?_
  refine lv_iconst (v := 3) hx hb dL_law_735 (by decide) ?_
  refine lv_iadd hx hb dL_law_736 ?_
  refine va_sld (A := fun q => o ≤ q) hx hb hX hbl hbA P.2.2 hv3 dL_law_737 ?_
  refine lw_callM (va_runV (As := [.int ((xs (nI (5 * i) + 1).toNatClampNeg)), .int ((xs (nI (5 * i) + 2).toNatClampNeg)), .int ((xs (nI (5 * i) + 3).toNatClampNeg))]) (rest := [.int r]) C.1 (c_X10_queued l D cA (o + 747) _ _ _ ρ _ h) (cwV 3 C.1.2.2.2.2 gL_law_X10_queued rfl rfl rfl (by decide +kernel) ⟨Nat.le_of_ble_eq_true rfl, Nat.le_of_ble_eq_true rfl⟩) (lw_preV C P.2.1 [.int ((xs (nI (5 * i) + 1).toNatClampNeg)), .int ((xs (nI (5 * i) + 2).toNatClampNeg)), .int ((xs (nI (5 * i) + 3).toNatClampNeg))] (ci := 10) rfl (by decide) EKM_0) rfl rfl hl.1 rfl (lv_room (Nat.le_of_ble_eq_true rfl)) dL_law_738 ⟨Nat.le_of_ble_eq_true rfl, Nat.le_of_ble_eq_true rfl⟩) P (fun t ρ1 H locs h P => ?_)
  refine lv_icmp_eq (tgt := 924) hx hb dL_law_741 (by decide) (fun cz => ?_) (fun cz => ?_)
  · exact hkk μ1 ρ1 H locs ls h.2 P hl
  · exact absurd h.1 cz
set_option maxHeartbeats 4000000 in
set_option maxRecDepth 100000 in
theorem lw_case_person {p : Program} {l : Launch} {e : Env} {s : State} {m : MethodId} {below : List Frame} {meth : Method} {c : Code} {D : va_G} {cA : Nat → ClassId} {b L : Nat} {xs : Nat → Int32} {S : Nat → Mm → Mm → Prop} {Q : State → Prop} {o : Nat} (C : Cx p m meth c s #[Value.ref b] cL_law 4 wsL_law RL ret D (tysL cA)) (hX : va_X b L xs s s.heap) (hbl : b < s.heap.size) (hbA : ¬ (fun q : Nat => o ≤ q) b) (hop : Op_person S) {n i : Nat} (hn : n < 512) (hi : 5 * i + 5 ≤ L) (hL : L ≤ 2560) {μ ρ : Mm} (hS : S n μ ρ) (hkk : ∀ (μ ρ : Mm) (H : Heap) (locs : List Loc) (ls : Array Slot), S (n + 1) μ ρ → HpL o D cA μ ρ s H locs → lv_has ls 4 [(0, .ref b), (1, .ref (o + 0)), (2, .ref (o + 747 + 0)), (3, .int (nI (5 * i)))] → W p l e room_1 s m #[Value.ref b] below meth c H locs 753 12448 Q (F0 m 924 ls [])) (H : Heap) (locs : List Loc) (ls : Array Slot) (P : HpL o D cA μ ρ s H locs) (hl : lv_has ls 4 [(0, .ref b), (1, .ref (o + 0)), (2, .ref (o + 747 + 0)), (3, .int (nI (5 * i)))]) : W p l e room_1 s m #[Value.ref b] below meth c H locs 753 12448 Q (F0 m 746 ls []) := by
  have hx := C.1.1
  have hb := C.1.2.1
  have hj1 : nI (5 * i) + 1 = nI (5 * i + 1) := by rw [show (1 : Int32) = nI 1 from rfl, nI_add]
  have hj2 : nI (5 * i) + 2 = nI (5 * i + 2) := by rw [show (2 : Int32) = nI 2 from rfl, nI_add]
  have hv1 : vp_in (nI (5 * i) + 1) L := by rw [hj1]; exact vp_in_nI (by omega) (by omega)
  have hv2 : vp_in (nI (5 * i) + 2) L := by rw [hj2]; exact vp_in_nI (by omega) (by omega)
  refine lv_aload_n hx hb dL_law_746 rfl (lv_at hl 1 rfl) ?_
  refine lv_aload_n hx hb dL_law_747 rfl (lv_at hl 0 rfl) ?_
  refine lv_iload_n hx hb dL_law_748 rfl (lv_at hl 3 rfl) ?_
  refine lv_iconst (v := 1) hx hb dL_law_749 (by decide) ?_
  refine lv_iadd hx hb dL_law_750 ?_
  refine va_sld (A := fun q => o ≤ q) hx hb hX hbl hbA P.2.2 hv1 dL_law_751 ?_
  refine lv_aload_n hx hb dL_law_752 rfl (lv_at hl 0 rfl) ?_
  refine lv_iload_n hx hb dL_law_753 rfl (lv_at hl 3 rfl) ?_
  refine lv_iconst (v := 2) hx hb dL_law_754 (by decide) ?_
  refine lv_iadd hx hb dL_law_755 ?_
  refine va_sld (A := fun q => o ≤ q) hx hb hX hbl hbA P.2.2 hv2 dL_law_756 ?_
  have h := hop n μ ρ hn hS ((xs (nI (5 * i) + 1).toNatClampNeg)) ((xs (nI (5 * i) + 2).toNatClampNeg))
  refine lw_callC (va_runV (As := [.int ((xs (nI (5 * i) + 1).toNatClampNeg)), .int ((xs (nI (5 * i) + 2).toNatClampNeg))]) (rest := []) C.1 (c_X9_person l D cA o _ _ μ _ h) (cwV 2 C.1.2.2.2.2 gL_law_X9_person rfl rfl rfl (by decide +kernel) ⟨Nat.le_of_ble_eq_true rfl, Nat.le_of_ble_eq_true rfl⟩) (lw_preV C P.1 [.int ((xs (nI (5 * i) + 1).toNatClampNeg)), .int ((xs (nI (5 * i) + 2).toNatClampNeg))] (ci := 9) rfl (by decide) (EK_9 kd_at_0)) rfl rfl hl.1 rfl (lv_room (Nat.le_of_ble_eq_true rfl)) dL_law_757 ⟨Nat.le_of_ble_eq_true rfl, Nat.le_of_ble_eq_true rfl⟩) P (fun r μ1 H locs h P => ?_)
  refine lv_aload_n hx hb dL_law_760 rfl (lv_at hl 2 rfl) ?_
  refine lv_aload_n hx hb dL_law_761 rfl (lv_at hl 0 rfl) ?_
  refine lv_iload_n hx hb dL_law_762 rfl (lv_at hl 3 rfl) ?_
  refine lv_iconst (v := 1) hx hb dL_law_763 (by decide) ?_
  refine lv_iadd hx hb dL_law_764 ?_
  refine va_sld (A := fun q => o ≤ q) hx hb hX hbl hbA P.2.2 hv1 dL_law_765 ?_
  refine lv_aload_n hx hb dL_law_766 rfl (lv_at hl 0 rfl) ?_
  refine lv_iload_n hx hb dL_law_767 rfl (lv_at hl 3 rfl) ?_
  refine lv_iconst (v := 2) hx hb dL_law_768 (by decide) ?_
  refine lv_iadd hx hb dL_law_769 ?_
  refine va_sld (A := fun q => o ≤ q) hx hb hX hbl hbA P.2.2 hv2 dL_law_770 ?_
  refine lw_callM (va_runV (As := [.int ((xs (nI (5 * i) + 1).toNatClampNeg)), .int ((xs (nI (5 * i) + 2).toNatClampNeg))]) (rest := [.int r]) C.1 (c_X10_person l D cA (o + 747) _ _ ρ _ h) (cwV 2 C.1.2.2.2.2 gL_law_X10_person rfl rfl rfl (by decide +kernel) ⟨Nat.le_of_ble_eq_true rfl, Nat.le_of_ble_eq_true rfl⟩) (lw_preV C P.2.1 [.int ((xs (nI (5 * i) + 1).toNatClampNeg)), .int ((xs (nI (5 * i) + 2).toNatClampNeg))] (ci := 10) rfl (by decide) EKM_0) rfl rfl hl.1 rfl (lv_room (Nat.le_of_ble_eq_true rfl)) dL_law_771 ⟨Nat.le_of_ble_eq_true rfl, Nat.le_of_ble_eq_true rfl⟩) P (fun t ρ1 H locs h P => ?_)
  refine lv_icmp_eq (tgt := 924) hx hb dL_law_774 (by decide) (fun cz => ?_) (fun cz => ?_)
  · exact hkk μ1 ρ1 H locs ls h.2 P hl
  · exact absurd h.1 cz
set_option maxHeartbeats 4000000 in
set_option maxRecDepth 100000 in
theorem lw_case_pool {p : Program} {l : Launch} {e : Env} {s : State} {m : MethodId} {below : List Frame} {meth : Method} {c : Code} {D : va_G} {cA : Nat → ClassId} {b L : Nat} {xs : Nat → Int32} {S : Nat → Mm → Mm → Prop} {Q : State → Prop} {o : Nat} (C : Cx p m meth c s #[Value.ref b] cL_law 4 wsL_law RL ret D (tysL cA)) (hX : va_X b L xs s s.heap) (hbl : b < s.heap.size) (hbA : ¬ (fun q : Nat => o ≤ q) b) (hop : Op_pool S) {n i : Nat} (hn : n < 512) (hi : 5 * i + 5 ≤ L) (hL : L ≤ 2560) {μ ρ : Mm} (hS : S n μ ρ) (hkk : ∀ (μ ρ : Mm) (H : Heap) (locs : List Loc) (ls : Array Slot), S (n + 1) μ ρ → HpL o D cA μ ρ s H locs → lv_has ls 4 [(0, .ref b), (1, .ref (o + 0)), (2, .ref (o + 747 + 0)), (3, .int (nI (5 * i)))] → W p l e room_1 s m #[Value.ref b] below meth c H locs 753 12448 Q (F0 m 924 ls [])) (H : Heap) (locs : List Loc) (ls : Array Slot) (P : HpL o D cA μ ρ s H locs) (hl : lv_has ls 4 [(0, .ref b), (1, .ref (o + 0)), (2, .ref (o + 747 + 0)), (3, .int (nI (5 * i)))]) : W p l e room_1 s m #[Value.ref b] below meth c H locs 753 12448 Q (F0 m 779 ls []) := by
  have hx := C.1.1
  have hb := C.1.2.1
  have hj1 : nI (5 * i) + 1 = nI (5 * i + 1) := by rw [show (1 : Int32) = nI 1 from rfl, nI_add]
  have hj2 : nI (5 * i) + 2 = nI (5 * i + 2) := by rw [show (2 : Int32) = nI 2 from rfl, nI_add]
  have hv1 : vp_in (nI (5 * i) + 1) L := by rw [hj1]; exact vp_in_nI (by omega) (by omega)
  have hv2 : vp_in (nI (5 * i) + 2) L := by rw [hj2]; exact vp_in_nI (by omega) (by omega)
  refine lv_aload_n hx hb dL_law_779 rfl (lv_at hl 1 rfl) ?_
  refine lv_aload_n hx hb dL_law_780 rfl (lv_at hl 0 rfl) ?_
  refine lv_iload_n hx hb dL_law_781 rfl (lv_at hl 3 rfl) ?_
  refine lv_iconst (v := 1) hx hb dL_law_782 (by decide) ?_
  refine lv_iadd hx hb dL_law_783 ?_
  refine va_sld (A := fun q => o ≤ q) hx hb hX hbl hbA P.2.2 hv1 dL_law_784 ?_
  refine lv_aload_n hx hb dL_law_785 rfl (lv_at hl 0 rfl) ?_
  refine lv_iload_n hx hb dL_law_786 rfl (lv_at hl 3 rfl) ?_
  refine lv_iconst (v := 2) hx hb dL_law_787 (by decide) ?_
  refine lv_iadd hx hb dL_law_788 ?_
  refine va_sld (A := fun q => o ≤ q) hx hb hX hbl hbA P.2.2 hv2 dL_law_789 ?_
  have h := hop n μ ρ hn hS ((xs (nI (5 * i) + 1).toNatClampNeg)) ((xs (nI (5 * i) + 2).toNatClampNeg))
  refine lw_callC (va_runV (As := [.int ((xs (nI (5 * i) + 1).toNatClampNeg)), .int ((xs (nI (5 * i) + 2).toNatClampNeg))]) (rest := []) C.1 (c_X9_pool l D cA o _ _ μ _ h) (cwV 2 C.1.2.2.2.2 gL_law_X9_pool rfl rfl rfl (by decide +kernel) ⟨Nat.le_of_ble_eq_true rfl, Nat.le_of_ble_eq_true rfl⟩) (lw_preV C P.1 [.int ((xs (nI (5 * i) + 1).toNatClampNeg)), .int ((xs (nI (5 * i) + 2).toNatClampNeg))] (ci := 9) rfl (by decide) (EK_9 kd_at_0)) rfl rfl hl.1 rfl (lv_room (Nat.le_of_ble_eq_true rfl)) dL_law_790 ⟨Nat.le_of_ble_eq_true rfl, Nat.le_of_ble_eq_true rfl⟩) P (fun r μ1 H locs h P => ?_)
  refine lv_aload_n hx hb dL_law_793 rfl (lv_at hl 2 rfl) ?_
  refine lv_aload_n hx hb dL_law_794 rfl (lv_at hl 0 rfl) ?_
  refine lv_iload_n hx hb dL_law_795 rfl (lv_at hl 3 rfl) ?_
  refine lv_iconst (v := 1) hx hb dL_law_796 (by decide) ?_
  refine lv_iadd hx hb dL_law_797 ?_
  refine va_sld (A := fun q => o ≤ q) hx hb hX hbl hbA P.2.2 hv1 dL_law_798 ?_
  refine lv_aload_n hx hb dL_law_799 rfl (lv_at hl 0 rfl) ?_
  refine lv_iload_n hx hb dL_law_800 rfl (lv_at hl 3 rfl) ?_
  refine lv_iconst (v := 2) hx hb dL_law_801 (by decide) ?_
  refine lv_iadd hx hb dL_law_802 ?_
  refine va_sld (A := fun q => o ≤ q) hx hb hX hbl hbA P.2.2 hv2 dL_law_803 ?_
  refine lw_callM (va_runV (As := [.int ((xs (nI (5 * i) + 1).toNatClampNeg)), .int ((xs (nI (5 * i) + 2).toNatClampNeg))]) (rest := [.int r]) C.1 (c_X10_pool l D cA (o + 747) _ _ ρ _ h) (cwV 2 C.1.2.2.2.2 gL_law_X10_pool rfl rfl rfl (by decide +kernel) ⟨Nat.le_of_ble_eq_true rfl, Nat.le_of_ble_eq_true rfl⟩) (lw_preV C P.2.1 [.int ((xs (nI (5 * i) + 1).toNatClampNeg)), .int ((xs (nI (5 * i) + 2).toNatClampNeg))] (ci := 10) rfl (by decide) EKM_0) rfl rfl hl.1 rfl (lv_room (Nat.le_of_ble_eq_true rfl)) dL_law_804 ⟨Nat.le_of_ble_eq_true rfl, Nat.le_of_ble_eq_true rfl⟩) P (fun t ρ1 H locs h P => ?_)
  refine lv_icmp_eq (tgt := 924) hx hb dL_law_807 (by decide) (fun cz => ?_) (fun cz => ?_)
  · exact hkk μ1 ρ1 H locs ls h.2 P hl
  · exact absurd h.1 cz
set_option maxHeartbeats 4000000 in
set_option maxRecDepth 100000 in
theorem lw_case_passOf {p : Program} {l : Launch} {e : Env} {s : State} {m : MethodId} {below : List Frame} {meth : Method} {c : Code} {D : va_G} {cA : Nat → ClassId} {b L : Nat} {xs : Nat → Int32} {S : Nat → Mm → Mm → Prop} {Q : State → Prop} {o : Nat} (C : Cx p m meth c s #[Value.ref b] cL_law 4 wsL_law RL ret D (tysL cA)) (hX : va_X b L xs s s.heap) (hbl : b < s.heap.size) (hbA : ¬ (fun q : Nat => o ≤ q) b) (hop : Op_passOf S) {n i : Nat} (hn : n < 512) (hi : 5 * i + 5 ≤ L) (hL : L ≤ 2560) {μ ρ : Mm} (hS : S n μ ρ) (hkk : ∀ (μ ρ : Mm) (H : Heap) (locs : List Loc) (ls : Array Slot), S (n + 1) μ ρ → HpL o D cA μ ρ s H locs → lv_has ls 4 [(0, .ref b), (1, .ref (o + 0)), (2, .ref (o + 747 + 0)), (3, .int (nI (5 * i)))] → W p l e room_1 s m #[Value.ref b] below meth c H locs 753 12448 Q (F0 m 924 ls [])) (H : Heap) (locs : List Loc) (ls : Array Slot) (P : HpL o D cA μ ρ s H locs) (hl : lv_has ls 4 [(0, .ref b), (1, .ref (o + 0)), (2, .ref (o + 747 + 0)), (3, .int (nI (5 * i)))]) : W p l e room_1 s m #[Value.ref b] below meth c H locs 753 12448 Q (F0 m 812 ls []) := by
  have hx := C.1.1
  have hb := C.1.2.1
  have hj1 : nI (5 * i) + 1 = nI (5 * i + 1) := by rw [show (1 : Int32) = nI 1 from rfl, nI_add]
  have hj2 : nI (5 * i) + 2 = nI (5 * i + 2) := by rw [show (2 : Int32) = nI 2 from rfl, nI_add]
  have hv1 : vp_in (nI (5 * i) + 1) L := by rw [hj1]; exact vp_in_nI (by omega) (by omega)
  have hv2 : vp_in (nI (5 * i) + 2) L := by rw [hj2]; exact vp_in_nI (by omega) (by omega)
  refine lv_aload_n hx hb dL_law_812 rfl (lv_at hl 1 rfl) ?_
  refine lv_aload_n hx hb dL_law_813 rfl (lv_at hl 0 rfl) ?_
  refine lv_iload_n hx hb dL_law_814 rfl (lv_at hl 3 rfl) ?_
  refine lv_iconst (v := 1) hx hb dL_law_815 (by decide) ?_
  refine lv_iadd hx hb dL_law_816 ?_
  refine va_sld (A := fun q => o ≤ q) hx hb hX hbl hbA P.2.2 hv1 dL_law_817 ?_
  refine lv_aload_n hx hb dL_law_818 rfl (lv_at hl 0 rfl) ?_
  refine lv_iload_n hx hb dL_law_819 rfl (lv_at hl 3 rfl) ?_
  refine lv_iconst (v := 2) hx hb dL_law_820 (by decide) ?_
  refine lv_iadd hx hb dL_law_821 ?_
  refine va_sld (A := fun q => o ≤ q) hx hb hX hbl hbA P.2.2 hv2 dL_law_822 ?_
  have h := hop n μ ρ hn hS ((xs (nI (5 * i) + 1).toNatClampNeg)) ((xs (nI (5 * i) + 2).toNatClampNeg))
  refine lw_callC (va_runV (As := [.int ((xs (nI (5 * i) + 1).toNatClampNeg)), .int ((xs (nI (5 * i) + 2).toNatClampNeg))]) (rest := []) C.1 (c_X9_passOf l D cA o _ _ μ _ h) (cwV 2 C.1.2.2.2.2 gL_law_X9_passOf rfl rfl rfl (by decide +kernel) ⟨Nat.le_of_ble_eq_true rfl, Nat.le_of_ble_eq_true rfl⟩) (lw_preV C P.1 [.int ((xs (nI (5 * i) + 1).toNatClampNeg)), .int ((xs (nI (5 * i) + 2).toNatClampNeg))] (ci := 9) rfl (by decide) (EK_9 kd_at_0)) rfl rfl hl.1 rfl (lv_room (Nat.le_of_ble_eq_true rfl)) dL_law_823 ⟨Nat.le_of_ble_eq_true rfl, Nat.le_of_ble_eq_true rfl⟩) P (fun r μ1 H locs h P => ?_)
  refine lv_aload_n hx hb dL_law_826 rfl (lv_at hl 2 rfl) ?_
  refine lv_aload_n hx hb dL_law_827 rfl (lv_at hl 0 rfl) ?_
  refine lv_iload_n hx hb dL_law_828 rfl (lv_at hl 3 rfl) ?_
  refine lv_iconst (v := 1) hx hb dL_law_829 (by decide) ?_
  refine lv_iadd hx hb dL_law_830 ?_
  refine va_sld (A := fun q => o ≤ q) hx hb hX hbl hbA P.2.2 hv1 dL_law_831 ?_
  refine lv_aload_n hx hb dL_law_832 rfl (lv_at hl 0 rfl) ?_
  refine lv_iload_n hx hb dL_law_833 rfl (lv_at hl 3 rfl) ?_
  refine lv_iconst (v := 2) hx hb dL_law_834 (by decide) ?_
  refine lv_iadd hx hb dL_law_835 ?_
  refine va_sld (A := fun q => o ≤ q) hx hb hX hbl hbA P.2.2 hv2 dL_law_836 ?_
  refine lw_callM (va_runV (As := [.int ((xs (nI (5 * i) + 1).toNatClampNeg)), .int ((xs (nI (5 * i) + 2).toNatClampNeg))]) (rest := [.int r]) C.1 (c_X10_passOf l D cA (o + 747) _ _ ρ _ h) (cwV 2 C.1.2.2.2.2 gL_law_X10_passOf rfl rfl rfl (by decide +kernel) ⟨Nat.le_of_ble_eq_true rfl, Nat.le_of_ble_eq_true rfl⟩) (lw_preV C P.2.1 [.int ((xs (nI (5 * i) + 1).toNatClampNeg)), .int ((xs (nI (5 * i) + 2).toNatClampNeg))] (ci := 10) rfl (by decide) EKM_0) rfl rfl hl.1 rfl (lv_room (Nat.le_of_ble_eq_true rfl)) dL_law_837 ⟨Nat.le_of_ble_eq_true rfl, Nat.le_of_ble_eq_true rfl⟩) P (fun t ρ1 H locs h P => ?_)
  refine lv_icmp_eq (tgt := 924) hx hb dL_law_840 (by decide) (fun cz => ?_) (fun cz => ?_)
  · exact hkk μ1 ρ1 H locs ls h.2 P hl
  · exact absurd h.1 cz
set_option maxHeartbeats 4000000 in
set_option maxRecDepth 100000 in
theorem lw_case_event {p : Program} {l : Launch} {e : Env} {s : State} {m : MethodId} {below : List Frame} {meth : Method} {c : Code} {D : va_G} {cA : Nat → ClassId} {b L : Nat} {xs : Nat → Int32} {S : Nat → Mm → Mm → Prop} {Q : State → Prop} {o : Nat} (C : Cx p m meth c s #[Value.ref b] cL_law 4 wsL_law RL ret D (tysL cA)) (hX : va_X b L xs s s.heap) (hbl : b < s.heap.size) (hbA : ¬ (fun q : Nat => o ≤ q) b) (hop : Op_event S) {n i : Nat} (hn : n < 512) (hi : 5 * i + 5 ≤ L) (hL : L ≤ 2560) {μ ρ : Mm} (hS : S n μ ρ) (hkk : ∀ (μ ρ : Mm) (H : Heap) (locs : List Loc) (ls : Array Slot), S (n + 1) μ ρ → HpL o D cA μ ρ s H locs → lv_has ls 4 [(0, .ref b), (1, .ref (o + 0)), (2, .ref (o + 747 + 0)), (3, .int (nI (5 * i)))] → W p l e room_1 s m #[Value.ref b] below meth c H locs 753 12448 Q (F0 m 924 ls [])) (H : Heap) (locs : List Loc) (ls : Array Slot) (P : HpL o D cA μ ρ s H locs) (hl : lv_has ls 4 [(0, .ref b), (1, .ref (o + 0)), (2, .ref (o + 747 + 0)), (3, .int (nI (5 * i)))]) : W p l e room_1 s m #[Value.ref b] below meth c H locs 753 12448 Q (F0 m 845 ls []) := by
  have hx := C.1.1
  have hb := C.1.2.1
  have hj1 : nI (5 * i) + 1 = nI (5 * i + 1) := by rw [show (1 : Int32) = nI 1 from rfl, nI_add]
  have hj2 : nI (5 * i) + 2 = nI (5 * i + 2) := by rw [show (2 : Int32) = nI 2 from rfl, nI_add]
  have hv1 : vp_in (nI (5 * i) + 1) L := by rw [hj1]; exact vp_in_nI (by omega) (by omega)
  have hv2 : vp_in (nI (5 * i) + 2) L := by rw [hj2]; exact vp_in_nI (by omega) (by omega)
  refine lv_aload_n hx hb dL_law_845 rfl (lv_at hl 1 rfl) ?_
  refine lv_aload_n hx hb dL_law_846 rfl (lv_at hl 0 rfl) ?_
  refine lv_iload_n hx hb dL_law_847 rfl (lv_at hl 3 rfl) ?_
  refine lv_iconst (v := 1) hx hb dL_law_848 (by decide) ?_
  refine lv_iadd hx hb dL_law_849 ?_
  refine va_sld (A := fun q => o ≤ q) hx hb hX hbl hbA P.2.2 hv1 dL_law_850 ?_
  refine lv_aload_n hx hb dL_law_851 rfl (lv_at hl 0 rfl) ?_
  refine lv_iload_n hx hb dL_law_852 rfl (lv_at hl 3 rfl) ?_
  refine lv_iconst (v := 2) hx hb dL_law_853 (by decide) ?_
  refine lv_iadd hx hb dL_law_854 ?_
  refine va_sld (A := fun q => o ≤ q) hx hb hX hbl hbA P.2.2 hv2 dL_law_855 ?_
  have h := hop n μ ρ hn hS ((xs (nI (5 * i) + 1).toNatClampNeg)) ((xs (nI (5 * i) + 2).toNatClampNeg))
  refine lw_callC (va_runV (As := [.int ((xs (nI (5 * i) + 1).toNatClampNeg)), .int ((xs (nI (5 * i) + 2).toNatClampNeg))]) (rest := []) C.1 (c_X9_event l D cA o _ _ μ _ h) (cwV 2 C.1.2.2.2.2 gL_law_X9_event rfl rfl rfl (by decide +kernel) ⟨Nat.le_of_ble_eq_true rfl, Nat.le_of_ble_eq_true rfl⟩) (lw_preV C P.1 [.int ((xs (nI (5 * i) + 1).toNatClampNeg)), .int ((xs (nI (5 * i) + 2).toNatClampNeg))] (ci := 9) rfl (by decide) (EK_9 kd_at_0)) rfl rfl hl.1 rfl (lv_room (Nat.le_of_ble_eq_true rfl)) dL_law_856 ⟨Nat.le_of_ble_eq_true rfl, Nat.le_of_ble_eq_true rfl⟩) P (fun r μ1 H locs h P => ?_)
  refine lv_aload_n hx hb dL_law_859 rfl (lv_at hl 2 rfl) ?_
  refine lv_aload_n hx hb dL_law_860 rfl (lv_at hl 0 rfl) ?_
  refine lv_iload_n hx hb dL_law_861 rfl (lv_at hl 3 rfl) ?_
  refine lv_iconst (v := 1) hx hb dL_law_862 (by decide) ?_
  refine lv_iadd hx hb dL_law_863 ?_
  refine va_sld (A := fun q => o ≤ q) hx hb hX hbl hbA P.2.2 hv1 dL_law_864 ?_
  refine lv_aload_n hx hb dL_law_865 rfl (lv_at hl 0 rfl) ?_
  refine lv_iload_n hx hb dL_law_866 rfl (lv_at hl 3 rfl) ?_
  refine lv_iconst (v := 2) hx hb dL_law_867 (by decide) ?_
  refine lv_iadd hx hb dL_law_868 ?_
  refine va_sld (A := fun q => o ≤ q) hx hb hX hbl hbA P.2.2 hv2 dL_law_869 ?_
  refine lw_callM (va_runV (As := [.int ((xs (nI (5 * i) + 1).toNatClampNeg)), .int ((xs (nI (5 * i) + 2).toNatClampNeg))]) (rest := [.int r]) C.1 (c_X10_event l D cA (o + 747) _ _ ρ _ h) (cwV 2 C.1.2.2.2.2 gL_law_X10_event rfl rfl rfl (by decide +kernel) ⟨Nat.le_of_ble_eq_true rfl, Nat.le_of_ble_eq_true rfl⟩) (lw_preV C P.2.1 [.int ((xs (nI (5 * i) + 1).toNatClampNeg)), .int ((xs (nI (5 * i) + 2).toNatClampNeg))] (ci := 10) rfl (by decide) EKM_0) rfl rfl hl.1 rfl (lv_room (Nat.le_of_ble_eq_true rfl)) dL_law_870 ⟨Nat.le_of_ble_eq_true rfl, Nat.le_of_ble_eq_true rfl⟩) P (fun t ρ1 H locs h P => ?_)
  refine lv_icmp_eq (tgt := 924) hx hb dL_law_873 (by decide) (fun cz => ?_) (fun cz => ?_)
  · exact hkk μ1 ρ1 H locs ls h.2 P hl
  · exact absurd h.1 cz
set_option maxHeartbeats 4000000 in
set_option maxRecDepth 100000 in
theorem lw_case_passesIn {p : Program} {l : Launch} {e : Env} {s : State} {m : MethodId} {below : List Frame} {meth : Method} {c : Code} {D : va_G} {cA : Nat → ClassId} {b L : Nat} {xs : Nat → Int32} {S : Nat → Mm → Mm → Prop} {Q : State → Prop} {o : Nat} (C : Cx p m meth c s #[Value.ref b] cL_law 4 wsL_law RL ret D (tysL cA)) (hX : va_X b L xs s s.heap) (hbl : b < s.heap.size) (hbA : ¬ (fun q : Nat => o ≤ q) b) (hop : Op_passesIn S) {n i : Nat} (hn : n < 512) (hi : 5 * i + 5 ≤ L) (hL : L ≤ 2560) {μ ρ : Mm} (hS : S n μ ρ) (hkk : ∀ (μ ρ : Mm) (H : Heap) (locs : List Loc) (ls : Array Slot), S (n + 1) μ ρ → HpL o D cA μ ρ s H locs → lv_has ls 4 [(0, .ref b), (1, .ref (o + 0)), (2, .ref (o + 747 + 0)), (3, .int (nI (5 * i)))] → W p l e room_1 s m #[Value.ref b] below meth c H locs 753 12448 Q (F0 m 924 ls [])) (H : Heap) (locs : List Loc) (ls : Array Slot) (P : HpL o D cA μ ρ s H locs) (hl : lv_has ls 4 [(0, .ref b), (1, .ref (o + 0)), (2, .ref (o + 747 + 0)), (3, .int (nI (5 * i)))]) : W p l e room_1 s m #[Value.ref b] below meth c H locs 753 12448 Q (F0 m 878 ls []) := by
  have hx := C.1.1
  have hb := C.1.2.1
  have hj1 : nI (5 * i) + 1 = nI (5 * i + 1) := by rw [show (1 : Int32) = nI 1 from rfl, nI_add]
  have hv1 : vp_in (nI (5 * i) + 1) L := by rw [hj1]; exact vp_in_nI (by omega) (by omega)
  refine lv_aload_n hx hb dL_law_878 rfl (lv_at hl 1 rfl) ?_
  refine lv_aload_n hx hb dL_law_879 rfl (lv_at hl 0 rfl) ?_
  refine lv_iload_n hx hb dL_law_880 rfl (lv_at hl 3 rfl) ?_
  refine lv_iconst (v := 1) hx hb dL_law_881 (by decide) ?_
  refine lv_iadd hx hb dL_law_882 ?_
  refine va_sld (A := fun q => o ≤ q) hx hb hX hbl hbA P.2.2 hv1 dL_law_883 ?_
  have h := hop n μ ρ hn hS ((xs (nI (5 * i) + 1).toNatClampNeg))
  refine lw_callC (va_runV (As := [.int ((xs (nI (5 * i) + 1).toNatClampNeg))]) (rest := []) C.1 (c_X9_passesIn l D cA o _ μ _ h) (cwV 1 C.1.2.2.2.2 gL_law_X9_passesIn rfl rfl rfl (by decide +kernel) ⟨Nat.le_of_ble_eq_true rfl, Nat.le_of_ble_eq_true rfl⟩) (lw_preV C P.1 [.int ((xs (nI (5 * i) + 1).toNatClampNeg))] (ci := 9) rfl (by decide) (EK_9 kd_at_0)) rfl rfl hl.1 rfl (lv_room (Nat.le_of_ble_eq_true rfl)) dL_law_884 ⟨Nat.le_of_ble_eq_true rfl, Nat.le_of_ble_eq_true rfl⟩) P (fun r μ1 H locs h P => ?_)
  refine lv_aload_n hx hb dL_law_887 rfl (lv_at hl 2 rfl) ?_
  refine lv_aload_n hx hb dL_law_888 rfl (lv_at hl 0 rfl) ?_
  refine lv_iload_n hx hb dL_law_889 rfl (lv_at hl 3 rfl) ?_
  refine lv_iconst (v := 1) hx hb dL_law_890 (by decide) ?_
  refine lv_iadd hx hb dL_law_891 ?_
  refine va_sld (A := fun q => o ≤ q) hx hb hX hbl hbA P.2.2 hv1 dL_law_892 ?_
  refine lw_callM (va_runV (As := [.int ((xs (nI (5 * i) + 1).toNatClampNeg))]) (rest := [.int r]) C.1 (c_X10_passesIn l D cA (o + 747) _ ρ _ h) (cwV 1 C.1.2.2.2.2 gL_law_X10_passesIn rfl rfl rfl (by decide +kernel) ⟨Nat.le_of_ble_eq_true rfl, Nat.le_of_ble_eq_true rfl⟩) (lw_preV C P.2.1 [.int ((xs (nI (5 * i) + 1).toNatClampNeg))] (ci := 10) rfl (by decide) EKM_0) rfl rfl hl.1 rfl (lv_room (Nat.le_of_ble_eq_true rfl)) dL_law_893 ⟨Nat.le_of_ble_eq_true rfl, Nat.le_of_ble_eq_true rfl⟩) P (fun t ρ1 H locs h P => ?_)
  refine lv_icmp_eq (tgt := 924) hx hb dL_law_896 (by decide) (fun cz => ?_) (fun cz => ?_)
  · exact hkk μ1 ρ1 H locs ls h.2 P hl
  · exact absurd h.1 cz
set_option maxHeartbeats 4000000 in
set_option maxRecDepth 100000 in
theorem lw_case_count {p : Program} {l : Launch} {e : Env} {s : State} {m : MethodId} {below : List Frame} {meth : Method} {c : Code} {D : va_G} {cA : Nat → ClassId} {b L : Nat} {xs : Nat → Int32} {S : Nat → Mm → Mm → Prop} {Q : State → Prop} {o : Nat} (C : Cx p m meth c s #[Value.ref b] cL_law 4 wsL_law RL ret D (tysL cA)) (hX : va_X b L xs s s.heap) (hbl : b < s.heap.size) (hbA : ¬ (fun q : Nat => o ≤ q) b) (hop : Op_count S) {n i : Nat} (hn : n < 512) (hi : 5 * i + 5 ≤ L) (hL : L ≤ 2560) {μ ρ : Mm} (hS : S n μ ρ) (hkk : ∀ (μ ρ : Mm) (H : Heap) (locs : List Loc) (ls : Array Slot), S (n + 1) μ ρ → HpL o D cA μ ρ s H locs → lv_has ls 4 [(0, .ref b), (1, .ref (o + 0)), (2, .ref (o + 747 + 0)), (3, .int (nI (5 * i)))] → W p l e room_1 s m #[Value.ref b] below meth c H locs 753 12448 Q (F0 m 924 ls [])) (H : Heap) (locs : List Loc) (ls : Array Slot) (P : HpL o D cA μ ρ s H locs) (hl : lv_has ls 4 [(0, .ref b), (1, .ref (o + 0)), (2, .ref (o + 747 + 0)), (3, .int (nI (5 * i)))]) : W p l e room_1 s m #[Value.ref b] below meth c H locs 753 12448 Q (F0 m 901 ls []) := by
  have hx := C.1.1
  have hb := C.1.2.1
  have hj1 : nI (5 * i) + 1 = nI (5 * i + 1) := by rw [show (1 : Int32) = nI 1 from rfl, nI_add]
  have hv1 : vp_in (nI (5 * i) + 1) L := by rw [hj1]; exact vp_in_nI (by omega) (by omega)
  refine lv_aload_n hx hb dL_law_901 rfl (lv_at hl 1 rfl) ?_
  refine lv_aload_n hx hb dL_law_902 rfl (lv_at hl 0 rfl) ?_
  refine lv_iload_n hx hb dL_law_903 rfl (lv_at hl 3 rfl) ?_
  refine lv_iconst (v := 1) hx hb dL_law_904 (by decide) ?_
  refine lv_iadd hx hb dL_law_905 ?_
  refine va_sld (A := fun q => o ≤ q) hx hb hX hbl hbA P.2.2 hv1 dL_law_906 ?_
  have h := hop n μ ρ hn hS ((xs (nI (5 * i) + 1).toNatClampNeg))
  refine lw_callC (va_runV (As := [.int ((xs (nI (5 * i) + 1).toNatClampNeg))]) (rest := []) C.1 (c_X9_count l D cA o _ μ _ h) (cwV 1 C.1.2.2.2.2 gL_law_X9_count rfl rfl rfl (by decide +kernel) ⟨Nat.le_of_ble_eq_true rfl, Nat.le_of_ble_eq_true rfl⟩) (lw_preV C P.1 [.int ((xs (nI (5 * i) + 1).toNatClampNeg))] (ci := 9) rfl (by decide) (EK_9 kd_at_0)) rfl rfl hl.1 rfl (lv_room (Nat.le_of_ble_eq_true rfl)) dL_law_907 ⟨Nat.le_of_ble_eq_true rfl, Nat.le_of_ble_eq_true rfl⟩) P (fun r μ1 H locs h P => ?_)
  refine lv_aload_n hx hb dL_law_910 rfl (lv_at hl 2 rfl) ?_
  refine lv_aload_n hx hb dL_law_911 rfl (lv_at hl 0 rfl) ?_
  refine lv_iload_n hx hb dL_law_912 rfl (lv_at hl 3 rfl) ?_
  refine lv_iconst (v := 1) hx hb dL_law_913 (by decide) ?_
  refine lv_iadd hx hb dL_law_914 ?_
  refine va_sld (A := fun q => o ≤ q) hx hb hX hbl hbA P.2.2 hv1 dL_law_915 ?_
  refine lw_callM (va_runV (As := [.int ((xs (nI (5 * i) + 1).toNatClampNeg))]) (rest := [.int r]) C.1 (c_X10_count l D cA (o + 747) _ ρ _ h) (cwV 1 C.1.2.2.2.2 gL_law_X10_count rfl rfl rfl (by decide +kernel) ⟨Nat.le_of_ble_eq_true rfl, Nat.le_of_ble_eq_true rfl⟩) (lw_preV C P.2.1 [.int ((xs (nI (5 * i) + 1).toNatClampNeg))] (ci := 10) rfl (by decide) EKM_0) rfl rfl hl.1 rfl (lv_room (Nat.le_of_ble_eq_true rfl)) dL_law_916 ⟨Nat.le_of_ble_eq_true rfl, Nat.le_of_ble_eq_true rfl⟩) P (fun t ρ1 H locs h P => ?_)
  refine lv_icmp_eq (tgt := 924) hx hb dL_law_919 (by decide) (fun cz => ?_) (fun cz => ?_)
  · exact hkk μ1 ρ1 H locs ls h.2 P hl
  · exact absurd h.1 cz
