/-! the law's own rows: the world, the script, one array beside them -/
def HpW (o : Nat) (D : va_G) (cA : Nat → ClassId) (μ : Mm) (s : State) (H : Heap) (locs : List Loc) : Prop := va_P D vwCl (wl 747 o (EC cA o μ)) H ∧ va_S (fun q => o ≤ q) s.heap H locs
def HpA (o a : Nat) (D : va_G) (cA : Nat → ClassId) (μ : Mm) (f : Nat → Int32) (s : State) (H : Heap) (locs : List Loc) : Prop := va_P D vwCl (wl 747 o (EC cA o μ)) H ∧ va_S (fun q => o ≤ q) s.heap H locs ∧ va_P D vwCl [(a, .inl (cA 0, 6, .inl f))] H ∧ o + 747 ≤ a
abbrev PL : Int32 → Mm → Prop := fun v _ => v = 1
def cellv (L : Nat) (xs : Nat → Int32) (k : Int32) : Int32 := if Int32.ofNat L ≤ k then 9310009 * k + 8209 else xs k.toNatClampNeg
theorem w_fit {a b : Nat} (h1 : a ≤ 600000) (h2 : b ≤ 7302249) : a ≤ room_1.cells ∧ b ≤ room_1.slots := ⟨h1, h2⟩
theorem wl_kept {D : va_G} {N o : Nat} {E : Nat → va_E} {H H1 : Heap} (hP : va_P D vwCl (wl N o E) H) (h : ∀ q, q < H.size → o ≤ q → q < o + N → H1[q]? = H[q]?) : va_P D vwCl (wl N o E) H1 := by
  intro k q hq
  obtain ⟨hk, rfl⟩ := wl_inv hq
  have hat := hP k _ (wl_get hk)
  exact hat.kept (h _ hat.lt (Nat.le_add_right _ _) (Nat.add_lt_add_left hk o))
section LAWROWS
variable {p : Program} {l : Launch} {e : Env} {R : Room} {s : State} {m : MethodId} {args : Array Value} {below : List Frame} {meth : Method} {c : Code} {H : Heap} {locs : List Loc} {cells slots : Nat} {Q : State → Prop}
variable {cc : ByteArray} {pc nL : Nat} {ls : Array Slot} {rest st0 : List Value} {a : Array Value} {D : va_G} {tys : List (ClassId × FieldType)} {cA : Nat → ClassId} {Ts : List Cond} {own : String} {ret : Option FieldType} {N o : Nat} {E : Nat → va_E} {μ : Mm} {f : Nat → Int32} {q0 : Nat}
theorem w_pre (C : Cx p m meth c s args cc nL Ts own ret D tys) (P : va_P D vwCl (wl N o E) H) (As : List Value) : PreS s H (va_Pc As (Wd N o D tys E)) As :=
  ⟨fun a U g mk q => ⟨q.1, q.2.1, va_K.moved (u := U) (U := U.calling g mk a) (Vm.Alike.refl U.vm) q.2.2.1, NwA.same (u := U) (U := U.calling g mk a) rfl q.2.2.2⟩, fun U hU hW => ⟨rfl, by rw [hU]; exact P, va_K.moved hW.alike C.2.2.2.1, C.2.2.2.2.warm hW⟩⟩
theorem w_preV (C : Cx p m meth c s args cc nL Ts own ret D tys) (P : va_P D vwCl (wl N o E) H) {k ci : Nat} {q : vw_C} {fs : List Value} (As : List Value) (hc : vwCl[ci]? = some q) (hk : k < N) (he : E k = .inr (ci, fs)) : PreV s H q.1 (o + k) (va_Pc (.ref (o + k) :: As) (Wd N o D tys E)) As :=
  ⟨(w_pre C P _).1, va_recv C.2.2.2.1 P hc (by rw [wl_get hk, he]), (w_pre C P _).2⟩
theorem w_calli {Φ : Int32 → Mm → Prop} (hr : va_Run p l e R s m args below meth c H locs cells slots 0 0 (F0 m pc ls st0) rest (Qg vI Φ (fun μ => Wd 747 o D tys (EC cA o μ)) (aA o 747) a) (aA o 747)) (P : HpW o D cA μ s H locs)
    (kk : ∀ (r : Int32) (μ1 : Mm) (H1 : Heap) (locs1 : List Loc), Φ r μ1 → HpW o D cA μ1 s H1 locs1 → W p l e R s m args below meth c H1 locs1 cells slots Q (F0 m (pc + 3) ls (.int r :: rest))) : W p l e R s m args below meth c H locs cells slots Q (F0 m pc ls st0) := by
  intro T hT X
  obtain ⟨v, st₀, t, T', L, h0, X', hL, e1, e2, ⟨⟨r, μ1, hv, hp, hb⟩, hz, hk⟩, st⟩ := hr T hT X
  cases hv
  rw [h0] at hz hk
  have hS := P.2
  obtain ⟨t2, a1, b1⟩ := kk r μ1 T'.heap (locs ++ L) hp ⟨by rw [e1]; exact hb.1, Nat.le_trans hS.1 (by rw [e1]; exact hz), fun q h1 h2 => by rw [e1, hk q (Nat.lt_of_lt_of_le h1 hS.1) (fun z => h2 z.1)]; exact hS.2.1 q h1 h2, fun q hq => by
      rcases List.mem_append.mp hq with h | h
      · exact hS.2.2 q h
      · exact (hL q h).1⟩ T' rfl X'
  exact ⟨t2, st t2 a1, b1⟩
theorem w_callp {Φ : Int32 → Mm → Prop} (hr : va_Run p l e R s m args below meth c H locs cells slots 1 6 (F0 m pc ls st0) rest (Qg vI Φ (fun μ => Wd 747 o D tys (EC cA o μ)) (fun q => o ≤ q) a) (fun q => o ≤ q)) (P : HpW o D cA μ s H locs)
    (kk : ∀ (r : Int32) (μ1 : Mm) (H1 : Heap) (locs1 : List Loc), Φ r μ1 → HpW o D cA μ1 s H1 locs1 → W p l e R s m args below meth c H1 locs1 (cells + 1) (slots + 6) Q (F0 m (pc + 3) ls (.int r :: rest))) : W p l e R s m args below meth c H locs cells slots Q (F0 m pc ls st0) := by
  intro T hT X
  obtain ⟨v, st₀, t, T', L, h0, X', hL, e1, e2, ⟨⟨r, μ1, hv, hp, hb⟩, hz, hk⟩, st⟩ := hr T hT X
  cases hv
  rw [h0] at hz hk
  have hS := P.2
  obtain ⟨t2, a1, b1⟩ := kk r μ1 T'.heap (locs ++ L) hp ⟨by rw [e1]; exact hb.1, Nat.le_trans hS.1 (by rw [e1]; exact hz), fun q h1 h2 => by rw [e1, hk q (Nat.lt_of_lt_of_le h1 hS.1) h2]; exact hS.2.1 q h1 h2, fun q hq => by
      rcases List.mem_append.mp hq with h | h
      · exact hS.2.2 q h
      · exact hL q h⟩ T' rfl X'
  exact ⟨t2, st t2 a1, b1⟩
theorem a_calli {Φ : Int32 → Mm → Prop} (hr : va_Run p l e R s m args below meth c H locs cells slots 0 0 (F0 m pc ls st0) rest (Qg vI Φ (fun μ => Wd 747 o D tys (EC cA o μ)) (aA o 747) a) (aA o 747)) (P : HpA o q0 D cA μ f s H locs)
    (kk : ∀ (r : Int32) (μ1 : Mm) (H1 : Heap) (locs1 : List Loc), Φ r μ1 → HpA o q0 D cA μ1 f s H1 locs1 → W p l e R s m args below meth c H1 locs1 cells slots Q (F0 m (pc + 3) ls (.int r :: rest))) : W p l e R s m args below meth c H locs cells slots Q (F0 m pc ls st0) := by
  intro T hT X
  obtain ⟨v, st₀, t, T', L, h0, X', hL, e1, e2, ⟨⟨r, μ1, hv, hp, hb⟩, hz, hk⟩, st⟩ := hr T hT X
  cases hv
  rw [h0] at hz hk
  have hS := P.2.1
  obtain ⟨t2, a1, b1⟩ := kk r μ1 T'.heap (locs ++ L) hp ⟨by rw [e1]; exact hb.1, ⟨Nat.le_trans hS.1 (by rw [e1]; exact hz), fun q h1 h2 => by rw [e1, hk q (Nat.lt_of_lt_of_le h1 hS.1) (fun z => h2 z.1)]; exact hS.2.1 q h1 h2, fun q hq => by
      rcases List.mem_append.mp hq with h | h
      · exact hS.2.2 q h
      · exact (hL q h).1⟩, fun k q hq => by
      have hat := P.2.2.1 k q hq
      have hq0 : q.1 = q0 := by
        have hz2 : k < 1 := (List.getElem?_eq_some_iff.mp hq).1
        rw [show k = 0 by omega] at hq
        cases hq
        rfl
      exact hat.kept (by rw [e1]; exact hk q.1 hat.lt (fun z => by have := z.2; have := P.2.2.2; omega)), P.2.2.2⟩ T' rfl X'
  exact ⟨t2, st t2 a1, b1⟩
/-- the array beside -/
theorem a_ld {i : Int32} (C : Cx p m meth c s args cc nL Ts own ret D (tysL cA)) (P : HpA o q0 D cA μ f s H locs) (hin : vp_in i 6) (hdg : decode cc pc = .ok (.iaload, 1))
    (kk : W p l e R s m args below meth c H locs cells slots Q (F0 m (pc + 1) ls (.int (f i.toNatClampNeg) :: rest))) : W p l e R s m args below meth c H locs cells slots Q (F0 m pc ls (.int i :: .ref q0 :: rest)) :=
  va_iald C.1.1 C.1.2.1 C.2.2.2.1 P.2.2.1 0 0 rfl rfl hin hdg kk
theorem a_st {i x : Int32} (C : Cx p m meth c s args cc nL Ts own ret D (tysL cA)) (P : HpA o q0 D cA μ f s H locs) (hin : vp_in i 6) (hdg : decode cc pc = .ok (.iastore, 1))
    (kk : ∀ (f1 : Nat → Int32), f1 = upd f i.toNatClampNeg x → ∀ (H1 : Heap) (locs1 : List Loc), HpA o q0 D cA μ f1 s H1 locs1 → W p l e R s m args below meth c H1 locs1 cells slots Q (F0 m (pc + 1) ls rest)) : W p l e R s m args below meth c H locs cells slots Q (F0 m pc ls (.int x :: .int i :: .ref q0 :: rest)) := by
  have hcell : H[q0]? = some (vp_cell (cA 0) (6, .inl f)) := P.2.2.1 0 _ rfl
  have hK := C.2.2.2.1
  refine W.iast C.1.1 C.1.2.1 hcell ((hK.2 0 _ rfl).1 6 (fun j => .int (f j))) (fun q => by cases q) (by show ¬ (i < 0 ∨ (arrV _ _ _).slots.size ≤ _); rw [arrV_size]; exact hin) rfl rfl hdg fun H1 e1 z oq => ?_
  have hS := P.2.1
  refine kk _ rfl H1 _ ⟨wl_kept P.1 (fun q h1 h2 h3 => oq q (fun e => by have h4 := P.2.2.2; rw [e] at h3; omega)), hS.put z oq (show o ≤ q0 by have := P.2.2.2; omega), fun k q hq => ?_, P.2.2.2⟩
  have hz2 : k < 1 := (List.getElem?_eq_some_iff.mp hq).1
  rw [show k = 0 by omega] at hq
  cases hq
  show H1[q0]? = some (vp_cell _ _)
  rw [e1]
  rw [vp_cell_i, vp_cell_i, arrV_store]
  congr 2
  funext q
  by_cases hq : q = i.toNatClampNeg
  · subst hq
    simp [updV, upd]
  · simp [updV, upd, hq]
theorem a_ret {Φ : Int32 → Mm → Prop} {v : Int32} (C : Cx p m meth c s args cc nL Ts own (some .boolean) D (tysL cA)) (P : HpA o q0 D cA μ f s H locs) (hB : isB v) (h : Φ v μ) (hdg : decode cc pc = .ok (.ireturn, 1)) : W p l e R s m args below meth c H locs 1 6 (MQ below (Qg vI Φ (fun μ => Wd 747 o D (tysL cA) (EC cA o μ)) (fun q => o ≤ q)) args s 1 6 (fun q => o ≤ q)) (F0 m pc ls [.int v]) :=
  W.zret C.1.1 C.1.2.1 C.2.1 (isB_nar hB) (fun t ht hw => ⟨⟨v, μ, rfl, h, by rw [ht]; exact P.1, va_K.moved hw.alike C.2.2.2.1, C.2.2.2.2.warm hw⟩, P.2.1.F ht⟩) P.2.1.2.2 hdg C.2.2.1
theorem a_new (C : Cx p m meth c s args cc nL Ts own ret D (tysL cA)) (P : va_P D vwCl (wl 747 o (EC cA o μ)) s.heap) (harr : (Cond.arrayClass .int).before args s = true) (hc : 0 + 1 ≤ R.cells) (hs : 0 + 6 ≤ R.slots) (hdg : decode cc pc = .ok (.newarray .int, 2))
    (kk : ∀ (q0 : Nat) (H1 : Heap), HpA o q0 D cA μ (fun _ => 0) s H1 [] → W p l e R s m args below meth c H1 [] 1 6 Q (F0 m (pc + 2) ls (.ref q0 :: rest))) : W p l e R s m args below meth c s.heap [] 0 0 Q (F0 m pc ls (.int 6 :: rest)) := by
  refine va_newaK C.1.1 C.1.2.1 (atype := .int) harr rfl hdg (n := 6) (N := 6) rfl (by decide) (by decide) (by decide) hc hs rfl fun H1 cB e1 z1 o1 hAr hNm => ?_
  have hK := C.2.2.2.1
  have hB : cB = cA 0 := by
    have h2 : s.vm.findClass ("[" ++ FieldType.int.toString) = some (cA 0) := (hK.2 0 _ rfl).2
    exact Option.some.inj (hNm.symm.trans h2)
  subst hB
  have hsz : o + 747 ≤ s.heap.size := by
    have := (P 746 _ (wl_get (by decide))).lt
    exact this
  refine kk s.heap.size H1 ⟨wl_kept P (fun q h1 _ _ => o1 q h1), ⟨by omega, fun q h1 _ => o1 q h1, fun _ h => by cases h⟩, fun k q hq => ?_, hsz⟩
  have hz2 : k < 1 := (List.getElem?_eq_some_iff.mp hq).1
  rw [show k = 0 by omega] at hq
  cases hq
  show H1[s.heap.size]? = some (vp_cell _ _)
  rw [e1]
  rfl
end LAWROWS
/-! the script's numbers -/
def Qx (o : Int32) : Array Value → State → Outcome → State → Prop := fun _ st oc t => oc = .returned (some (.int o)) ∧ va_F (fun _ => False) st t
abbrev rm_L_cell : Room := { frames := 0, cells := 0, slots := 0, locals := 0 }
set_option maxHeartbeats 4000000 in
set_option maxRecDepth 100000 in
theorem c_L_cell (l : Launch) (b L : Nat) (xs : Nat → Int32) (hL : L ≤ 260) {k : Int32} (hk : ¬ k < 0) : Met l yL_cell wsL_cell rm_L_cell (va_Pc [.ref b, .int k] (fun U => va_X b L xs U U.heap)) (Qx (cellv L xs k)) 0 0 (fun _ => False) := by
  refine Met.ofW (cc := cL_cell) (maxL := 2) (ret := (some .int)) (by decide) rfl ?_
  intro p e s m args below meth c s₁ B hml hv
  obtain ⟨rfl, hv⟩ := hv
  have hl := lv_entry ([.ref b, .int k]) (n := 2) (Nat.le_of_ble_eq_true rfl)
  rw [lg_entry_eq]
  have hts := atoms_spec (ws := wsL_cell) B.pre
  have hown := findClass_of_methodNamed B.named
  have hx := B.exec
  have hb := B.bytes
  have hbl : b < s.heap.size := by
    obtain ⟨scr, h1, -⟩ := hv
    exact (Array.getElem?_eq_some_iff.mp h1).1
  have hS : va_S (fun _ => False) s.heap s.heap [] := va_S.rf
  generalize (lg_sl ([.ref b, .int k]) ++ List.replicate (2 - (lg_sl ([.ref b, .int k])).length) Slot.unset).toArray = ls at hl ⊢
  have hl : lv_has ls 2 [(0, .ref b), (1, .int k)] := hl
  refine lv_iload_n hx hb dL_cell_0 rfl (lv_at hl 1 rfl) ?_
  refine lv_aload_n hx hb dL_cell_1 rfl (lv_at hl 0 rfl) ?_
  refine va_slen (A := fun _ => False) hx hb hv hbl (fun h => h) hS dL_cell_2 ?_
  refine lv_icmp_ge (tgt := 12) hx hb dL_cell_3 (by decide) (fun c0 => ?_) (fun c0 => ?_)
  · refine lv_ldc (v := 9310009) hx hb hown (hts _ (List.mem_of_getElem? (i := 1) (by decide +kernel))) dL_cell_12 ?_
    refine lv_iload_n hx hb dL_cell_14 rfl (lv_at hl 1 rfl) ?_
    refine lv_imul hx hb dL_cell_15 ?_
    refine lv_sipush (v := 8209) hx hb dL_cell_16 (by decide) ?_
    refine lv_iadd hx hb dL_cell_19 ?_
    have ev : cellv L xs k = 9310009 * k + 8209 := if_pos c0
    rw [ev]
    exact W.iret hx hb B.returns (fun t ht hw => ⟨rfl, hS.F ht⟩) (fun q hq => by cases hq) dL_cell_20 B.notSynchronized
  · have hin : vp_in k L := by
      intro h
      rcases h with h | h
      · exact hk h
      · refine c0 ?_
        obtain ⟨j, hj, rfl⟩ := nI_of hk
        rw [nI_clamp hj] at h
        exact nI_le h hj
    refine lv_aload_n hx hb dL_cell_6 rfl (lv_at hl 0 rfl) ?_
    refine lv_iload_n hx hb dL_cell_7 rfl (lv_at hl 1 rfl) ?_
    refine va_sld (A := fun _ => False) hx hb hv hbl (fun h => h) hS hin dL_cell_8 ?_
    refine lv_goto (tgt := 20) hx hb dL_cell_9 (by decide) ?_
    have ev : cellv L xs k = xs k.toNatClampNeg := if_neg c0
    rw [ev]
    exact W.iret hx hb B.returns (fun t ht hw => ⟨rfl, hS.F ht⟩) (fun q hq => by cases hq) dL_cell_20 B.notSynchronized
section LAWROWS2
variable {p : Program} {l : Launch} {e : Env} {R : Room} {s : State} {m : MethodId} {args : Array Value} {below : List Frame} {meth : Method} {c : Code} {H : Heap} {locs : List Loc} {cells slots : Nat} {Q : State → Prop}
variable {cc : ByteArray} {pc nL : Nat} {ls : Array Slot} {rest st0 : List Value} {a : Array Value} {D : va_G} {tys : List (ClassId × FieldType)} {cA : Nat → ClassId} {Ts : List Cond} {own : String} {ret : Option FieldType} {o b L : Nat} {xs : Nat → Int32} {μ : Mm}
theorem w_cpre (C : Cx p m meth c s args cc nL Ts own ret D tys) (hX : va_X b L xs s s.heap) (hbo : b < o) (P : HpW o D cA μ s H locs) {As : List Value} : PreS s H (va_Pc As (fun U => va_X b L xs U U.heap)) As := by
  have hbl : b < s.heap.size := by
    obtain ⟨scr, h1, -⟩ := hX
    exact (Array.getElem?_eq_some_iff.mp h1).1
  refine ⟨fun a U g mk q => ⟨q.1, va_X.moved (u := U) (U := U.calling g mk a) (Vm.Alike.refl U.vm) q.2⟩, fun U hU hW => ⟨rfl, ?_⟩⟩
  show va_X b L xs U U.heap
  rw [hU]
  exact va_X.moved hW.alike (hX.kept (P.2.2.1 b hbl (fun h => by have h : o ≤ b := h; omega)))
theorem w_cell {v k : Int32} (hr : va_Run p l e R s m args below meth c H locs cells slots 0 0 (F0 m pc ls st0) rest (Qx v a) (fun _ => False)) (P : HpW o D cA μ s H locs)
    (kk : ∀ (H1 : Heap) (locs1 : List Loc), HpW o D cA μ s H1 locs1 → W p l e R s m args below meth c H1 locs1 cells slots Q (F0 m (pc + 3) ls (.int v :: rest))) : W p l e R s m args below meth c H locs cells slots Q (F0 m pc ls st0) := by
  intro T hT X
  obtain ⟨v, st₀, t, T', L, h0, X', hL, e1, e2, ⟨hv, hz, hk⟩, st⟩ := hr T hT X
  cases hv
  rw [h0] at hz hk
  have hS := P.2
  obtain ⟨t2, a1, b1⟩ := kk T'.heap (locs ++ L) ⟨wl_kept P.1 (fun q h1 _ _ => by rw [e1]; exact hk q h1 (fun h => h)), Nat.le_trans hS.1 (by rw [e1]; exact hz), fun q h1 h2 => by rw [e1, hk q (Nat.lt_of_lt_of_le h1 hS.1) (fun z => z)]; exact hS.2.1 q h1 h2, fun q hq => by
      rcases List.mem_append.mp hq with h | h
      · exact hS.2.2 q h
      · exact (hL q h).elim⟩ T' rfl X'
  exact ⟨t2, st t2 a1, b1⟩
end LAWROWS2
theorem lw_fin {p : Program} {l : Launch} {e : Env} {s : State} {m : MethodId} {below : List Frame} {meth : Method} {c : Code} {H : Heap} {locs : List Loc} {cells slots pc : Nat} {ls : Array Slot} {D : va_G} {cA : Nat → ClassId} {o b : Nat} {μ : Mm} {v : Int32} (C : Cx p m meth c s #[Value.ref b] cL_law 15 wsL_law RL ret D (tysL cA)) (ho : s.heap.size = o) (P : HpW o D cA μ s H locs) (hc : cells ≤ 600000) (hs : slots ≤ 7302249) (hv : PL v μ) (hdg : decode cL_law pc = .ok (.ireturn, 1)) : W p l e room_1 s m #[Value.ref b] below meth c H locs cells slots (lw_Z below #[Value.ref b] s) (F0 m pc ls [.int v]) := by
  have hv : v = 1 := hv
  subst hv
  refine va_forget (fun q h => by rw [ho]; exact P.2.2.2 q h) ?_
  refine W.widen (k := 600000) (n := 7302249) hc hs ?_
  exact lw_ret C.1.1 C.1.2.1 C.2.1 C.2.2.1 hdg
