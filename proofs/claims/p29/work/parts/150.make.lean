/-! making: rows for constructors; the world grows at its end -/
theorem upE_s {E : Nat → va_E} {k : Nat} {x : va_E} : upE E k x k = x := by simp [upE]
theorem upE_n {E : Nat → va_E} {k q : Nat} {x : va_E} (h : q ≠ k) : upE E k x q = E q := by simp [upE, h]
/-- below k as E has it, from there on as T has it -/
def gl (E : Nat → va_E) (k : Nat) (T : Nat → va_E) : Nat → va_E := fun q => if q < k then E q else T q
theorem gl_lo {E T : Nat → va_E} {k q : Nat} (h : q < k) : gl E k T q = E q := by simp [gl, h]
theorem gl_hi {E T : Nat → va_E} {k q : Nat} (h : k ≤ q) : gl E k T q = T q := by simp [gl, Nat.not_lt.mpr h]
/-- the memory of a new bank -/
def mu0 : Mm := fun q j => if kd q = 1 ∧ j = 8 then -5 else if kd q = 4 ∧ j = 2 then -5 else if kd q = 8 ∧ j = 10 then 10 else 0
def E0 (cA : Nat → ClassId) (o : Nat) : Nat → va_E := fun q => EK cA o q (mu0 q)
def enq (x y : va_E) : Prop := ∀ (D : va_G) (a : Nat) (H : Heap), va_at D vwCl (a, x) H → va_at D vwCl (a, y) H
theorem enq_of {x y : va_E} (h : x = y) : enq x y := fun _ _ _ hx => h ▸ hx
theorem enq_refs {c : ClassId} {n : Nat} {f g : Nat → Option Nat} (h : ∀ j, j < n → f j = g j) : enq (.inl (c, n, .inr (.inr (.inr (.inr f))))) (.inl (c, n, .inr (.inr (.inr (.inr g))))) := by
  intro D a H hx
  have hx : H[a]? = some (vp_cell c (n, .inr (.inr (.inr (.inr f))))) := hx
  show H[a]? = some (vp_cell c (n, .inr (.inr (.inr (.inr g)))))
  rw [hx, vp_cell_q, vp_cell_q]
  have e : arrV c n (fun j => va_rf (f j)) = arrV c n (fun j => va_rf (g j)) := by
    unfold arrV
    congr 1
    congr 1
    funext j
    exact congrArg va_rf (h j.val j.isLt)
  rw [e]
def aos : List String := ["TurnstileBank$Gate", "TurnstileBank$Person", "TurnstileBank$Pool", "TurnstileBank$Pass", "TurnstileBank$State"]
def AOs (U : State) : Prop := ∀ (i : Nat) (q : String), aos[i]? = some q → va_AO q U
theorem AOs.moved {u U : State} (hv : u.vm.Alike U.vm) (h : AOs u) : AOs U := fun i q hq => (h i q hq).moved hv
def Wm (n o : Nat) (D : va_G) (tys : List (ClassId × FieldType)) (E : Nat → va_E) (U : State) : Prop := U.heap.size = o + n ∧ Wd n o D tys E U ∧ AOs U
def Qm (n o : Nat) (D : va_G) (tys : List (ClassId × FieldType)) (E : Nat → va_E) : Array Value → State → Outcome → State → Prop := fun _ st oc t => oc = .returned none ∧ t.heap.size = o + n ∧ va_P D vwCl (wl n o E) t.heap ∧ va_F (fun q => o ≤ q) st t
def HpM (n o : Nat) (D : va_G) (E : Nat → va_E) (s : State) (H : Heap) (locs : List Loc) : Prop := va_P D vwCl (wl n o E) H ∧ H.size = o + n ∧ va_S (fun q => o ≤ q) s.heap H locs
theorem wl_push {D : va_G} {n o : Nat} {E : Nat → va_E} {x : va_E} {H H1 : Heap} (hP : va_P D vwCl (wl n o E) H) (h1 : ∀ q, q < o + n → H1[q]? = H[q]?) (hx : va_at D vwCl (o + n, x) H1) : va_P D vwCl (wl (n + 1) o (upE E n x)) H1 := by
  intro k q hq
  obtain ⟨hk, rfl⟩ := wl_inv hq
  by_cases hkn : k = n
  · subst hkn
    have e : upE E k x k = x := by simp [upE]
    rw [e]
    exact hx
  · have hk' : k < n := by omega
    have e : upE E n x k = E k := by simp [upE, hkn]
    rw [e]
    exact (hP k _ (wl_get hk')).kept (h1 _ (by omega))
section MAKE
variable {p : Program} {l : Launch} {e : Env} {R : Room} {s : State} {m : MethodId} {args : Array Value} {below : List Frame} {meth : Method} {c : Code} {H : Heap} {locs : List Loc} {cells slots : Nat} {Q : State → Prop}
variable {cc : ByteArray} {pc nL : Nat} {ls : Array Slot} {rest : List Value} {D : va_G} {tys : List (ClassId × FieldType)} {Ts : List Cond} {own : String} {ret : Option FieldType} {n o : Nat} {E : Nat → va_E}
theorem m_put (C : Cx p m meth c s args cc nL Ts own ret D tys) (P : HpM n o D E s H locs) {X : String} {T : u_T} {nn ci ix j k : Nat} {fs : List Value} {v : Value} (hin : ∀ w ∈ u_ws X T nn, w ∈ Ts) (ty0 : Nat → FieldType) (hty : ∀ k, k < nn → parseFieldDescriptor (T k).2.2.1 = some (ty0 k)) (hnm : ∀ a, a < nn → ∀ b, b < nn → a ≠ b → (T a).2.1 ≠ (T b).2.1) (hc : vwCl[ci]? = some (X, T, nn)) (hl : Cond.fieldLink own ix X (T j).2.1 (T j).2.2.1 ∈ Ts) (hX : (T j).1 = X) (hfin : (T j).2.2.2 = false ∨ ((T j).2.2.2 = true ∧ meth.name = "<init>" ∧ (T j).1 = own)) (hk : k < n) (he : E k = .inr (ci, fs)) (hj : j < nn) (hjl : j < fs.length) {ty : FieldType} (hd : parseFieldDescriptor (T j).2.2.1 = some ty) (hn : narrow ty v = v) (hfit : fits ty v = true) (hdg : decode cc pc = .ok (.putfield ix, 3))
    (kk : ∀ (H1 : Heap) (locs1 : List Loc), HpM n o D (upE E k (.inr (ci, fs.set j v))) s H1 locs1 → W p l e R s m args below meth c H1 locs1 cells slots Q (F0 m (pc + 3) ls rest)) : W p l e R s m args below meth c H locs cells slots Q (F0 m pc ls (v :: .ref (o + k) :: rest)) := by
  have hts := C.1.2.2.2.2
  have hown := C.1.2.2.2.1
  have hK := C.2.2.2.1
  have hap := va_apart (own := own) hts hin ty0 hty hnm hK hc
  obtain ⟨r, h1, cell, q1, q2, q3, q4⟩ := P.1 k _ (by rw [wl_get hk, he])
  have hr : r = (X, T, nn) := Option.some.inj (h1.symm.trans hc)
  subst hr
  obtain ⟨hS, hfc, kC, hkC, hkind⟩ := hK.1 ci _ hc
  obtain ⟨cf, kf, fi, f, hi, hsl⟩ := hS j hj
  have hst := (u_facts hfc hkC (u_lays hts hin hj) hi).1
  have hlink := hts _ hl
  have hlay := hts _ (hin _ (u_in_lay hj))
  have hi' := hi
  rw [hX] at hi'
  have fin : ∀ (H' : Heap), H'[o + k]? = some (cell.setSlot f.slot v) → H'.size = H.size → (∀ q, q ≠ o + k → H'[q]? = H[q]?) → HpM n o D (upE E k (.inr (ci, fs.set j v))) s H' (locs ++ [⟨o + k, f.slot⟩]) := by
    intro H' e1 e2 e3
    rw [hsl] at e1
    refine ⟨?_, by rw [e2]; exact P.2.1, P.2.2.put e2 e3 (Nat.le_add_right _ _)⟩
    rw [← wl_set hk]
    exact P.1.set (A := aA o n) wl_D (by rw [wl_get hk, he]) ⟨_, hc, t_OB.to (V := updV (vp_V fs) j v) ⟨_, e1, q2, q3, t_set q4 hap hj v⟩ (fun i _ => vp_updV_set hjl v i)⟩ e3
  rcases hfin with hf | ⟨hf, hin2, hdecl⟩
  · unfold u_lay at hlay
    rw [if_neg (by rw [hf]; decide)] at hlay
    have h6 := u_store hfc hkC hkind hlay hi hd hn hfit
    exact W.putK C.1.1 C.1.2.1 (f := f) ⟨hown, hlink, ⟨_, _, _, hi'⟩, hst⟩ (by rw [q2]; exact h6) q1 q3 (by rw [hsl]; exact k2_hasslot (q4 j hj)) rfl rfl hdg fun H' e1 e2 e3 => kk H' _ (fin H' e1 e2 e3)
  · unfold u_lay at hlay
    rw [if_pos hf] at hlay
    have hcf : m.cls = cf := by
      obtain ⟨_, _, c', _, _, _, -, -, hf', -, -, -, hown2, -⟩ := Cond.laysFinal_spec hlay
      have e1 : c' = cf := by have := hi.symm.trans hf'; simp at this; exact this.1.symm
      rw [hdecl] at hown2
      rw [← e1]; exact Option.some.inj (hown.symm.trans hown2)
    have h6 := u_fits hfc hkC hkind (Or.inr hlay) hi hd hn hfit
    exact W.putFinK C.1.1 C.1.2.1 hown hlink hi' hst hcf hin2 (by rw [q2]; exact h6) q1 q3 (by rw [hsl]; exact k2_hasslot (q4 j hj)) rfl rfl hdg fun H' e1 e2 e3 => kk H' _ (fin H' e1 e2 e3)
theorem m_get (C : Cx p m meth c s args cc nL Ts own ret D tys) (P : HpM n o D E s H locs) {X : String} {T : u_T} {nn ci ix j k : Nat} {fs : List Value} {v : Value} (hin : ∀ w ∈ u_ws X T nn, w ∈ Ts) (hc : vwCl[ci]? = some (X, T, nn)) (hl : Cond.fieldLink own ix X (T j).2.1 (T j).2.2.1 ∈ Ts) (hX : (T j).1 = X) (hk : k < n) (he : E k = .inr (ci, fs)) (hj : j < nn) (hv : fs[j]? = some v) (hdg : decode cc pc = .ok (.getfield ix, 3))
    (kk : W p l e R s m args below meth c H locs cells slots Q (F0 m (pc + 3) ls (v :: rest))) : W p l e R s m args below meth c H locs cells slots Q (F0 m pc ls (.ref (o + k) :: rest)) :=
  va_get C.1.1 C.1.2.1 C.1.2.2.2.2 hin C.1.2.2.2.1 C.2.2.2.1 P.1 k (by rw [wl_get hk, he]) hc j hj (C.1.2.2.2.2 _ hl) (fun x h => by rw [hX] at h; exact h) hv hdg kk
theorem m_new (C : Cx p m meth c s args cc nL Ts own ret D tys) (P : HpM n o D E s H locs) {X : String} {T : u_T} {nn ci ix : Nat} (hin : ∀ w ∈ u_ws X T nn, w ∈ Ts) (ty : Nat → FieldType) (hty : ∀ k, k < nn → parseFieldDescriptor (T k).2.2.1 = some (ty k)) (hcl : Cond.classLink own ix X ∈ Ts) (hinst : Cond.instantiable X nn ∈ Ts) (hini : Cond.initialized X ∈ Ts) (hc : vwCl[ci]? = some (X, T, nn)) {fs : List Value} (hfs : ∀ j, j < nn → defaultValue (ty j) = vp_V fs j) (hcells : cells + 1 ≤ R.cells) (hslots : slots + nn ≤ R.slots) (hdg : decode cc pc = .ok (.new ix, 3))
    (kk : ∀ H1 : Heap, HpM (n + 1) o D (upE E n (.inr (ci, fs))) s H1 locs → W p l e R s m args below meth c H1 locs (cells + 1) (slots + nn) Q (F0 m (pc + 3) ls (.ref (o + n) :: rest))) : W p l e R s m args below meth c H locs cells slots Q (F0 m pc ls rest) := by
  have hts := C.1.2.2.2.2
  have hKn := C.2.2.2.1.1 ci _ hc
  refine W.newcK C.1.1 C.1.2.1 C.1.2.2.2.1 (hts _ hcl) (hts _ hinst) (hts _ hini) rfl hdg hcells hslots hKn.2.1 P.2.1 fun H1 kC hkC e1 z1 o1 => ?_
  have hS := P.2.2
  refine kk H1 ⟨wl_push P.1 o1 ⟨_, hc, (u_born ty hts hin hKn hkC e1 hty).to hfs⟩, z1, Nat.le_trans hS.1 (by rw [P.2.1]; omega), fun x h1 h2 => (o1 x (by have := hS.1; rw [P.2.1] at this; omega)).trans (hS.2.1 x h1 h2), hS.2.2⟩
theorem m_newa (C : Cx p m meth c s args cc nL Ts own ret D tys) (P : HpM n o D E s H locs) {atype : ArrayType} {ty : FieldType} (t0 : Nat) {cB : ClassId} (ht : tys[t0]? = some (cB, ty)) (hty : newarray.typeOf atype = ty) (hRA : va_RA s cB ty → s.vm.findClass ("[" ++ ty.toString) = some cB) (harr : Cond.arrayClass (newarray.typeOf atype) ∈ Ts) {i : Int32} {N' : Nat} {a0 : vp_A} (ha : ∀ cA : ClassId, vp_cell cA a0 = arrV cA N' (fun _ => defaultValue ty)) (hn : ¬ i < 0) (hN : i.toNatClampNeg = N') (hbytes : N' * componentBytes ty ≤ 536870912) (hcells : cells + 1 ≤ R.cells) (hslots : slots + N' ≤ R.slots) (hdg : decode cc pc = .ok (.newarray atype, 2))
    (kk : ∀ H1 : Heap, HpM (n + 1) o D (upE E n (.inl (cB, a0))) s H1 locs → W p l e R s m args below meth c H1 locs (cells + 1) (slots + N') Q (F0 m (pc + 2) ls (.ref (o + n) :: rest))) : W p l e R s m args below meth c H locs cells slots Q (F0 m pc ls (.int i :: rest)) := by
  subst hty
  refine va_newaK C.1.1 C.1.2.1 (C.1.2.2.2.2 _ harr) rfl hdg rfl hn hN hbytes hcells hslots P.2.1 fun H1 cA e1 z1 o1 hAr hNm => ?_
  have hB := hRA (C.2.2.2.1.2 t0 _ ht).2
  have hcA : cA = cB := Option.some.inj (hNm.symm.trans hB)
  subst hcA
  have hS := P.2.2
  refine kk H1 ⟨wl_push P.1 o1 (by show H1[o + n]? = some (vp_cell _ _); rw [ha]; exact e1), z1, Nat.le_trans hS.1 (by rw [P.2.1]; omega), fun x h1 h2 => (o1 x (by have := hS.1; rw [P.2.1] at this; omega)).trans (hS.2.1 x h1 h2), hS.2.2⟩
theorem m_newq (C : Cx p m meth c s args cc nL Ts own ret D tys) (P : HpM n o D E s H locs) {X : String} {ix : Nat} (t0 : Nat) {cB : ClassId} (ht : tys[t0]? = some (cB, .object X)) (hcl : Cond.classLink own ix X ∈ Ts) (hover : va_AO X s) {i : Int32} {N' : Nat} (hn : ¬ i < 0) (hN : i.toNatClampNeg = N') (hbytes : N' * 4 ≤ 536870912) (hcells : cells + 1 ≤ R.cells) (hslots : slots + N' ≤ R.slots) (hdg : decode cc pc = .ok (.anewarray ix, 3))
    (kk : ∀ H1 : Heap, HpM (n + 1) o D (upE E n (.inl (cB, N', .inr (.inr (.inr (.inr (fun _ => none))))))) s H1 locs → W p l e R s m args below meth c H1 locs (cells + 1) (slots + N') Q (F0 m (pc + 3) ls (.ref (o + n) :: rest))) : W p l e R s m args below meth c H locs cells slots Q (F0 m pc ls (.int i :: rest)) := by
  subst hN
  refine W.anew C.1.1 C.1.2.1 C.1.2.2.2.1 (C.1.2.2.2.2 _ hcl) (va_AO.use hover) rfl hdg rfl hn hbytes hcells hslots fun cA kA comp f1 f2 f3 f4 => ?_
  obtain ⟨kA', comp', g1, g2, g3, g4⟩ := (C.2.2.2.1.2 t0 _ ht).2
  have hcA : cA = cB := Option.some.inj (f1.symm.trans g4)
  subst hcA
  generalize hH1 : H.push ({ cls := cA, slots := Array.replicate i.toNatClampNeg .null, vm := .none } : Cell) = H1
  have z1 : H1.size = H.size + 1 := by rw [← hH1, Array.size_push]
  have e1 : H1[H.size]? = some (arrV cA i.toNatClampNeg (fun _ => .null)) := by rw [← hH1, Array.getElem?_push_size, ← arrV_new]
  have o1 : ∀ q : Nat, q < H.size → H1[q]? = H[q]? := fun q hq => by rw [← hH1, Array.getElem?_push, if_neg (Nat.ne_of_lt hq)]
  rw [P.2.1] at z1 e1 o1 ⊢
  have hS := P.2.2
  refine kk H1 ⟨wl_push P.1 o1 (by show H1[o + n]? = some (vp_cell _ _); rw [vp_cell_q]; exact e1), z1, Nat.le_trans hS.1 (by rw [P.2.1]; omega), fun x h1 h2 => (o1 x (by have := hS.1; rw [P.2.1] at this; omega)).trans (hS.2.1 x h1 h2), hS.2.2⟩
theorem m_aast (C : Cx p m meth c s args cc nL Ts own ret D tys) (P : HpM n o D E s H locs) {k k2 ci : Nat} (t0 : Nat) {cB : ClassId} {r : vw_C} {nn : Nat} {f : Nat → Option Nat} {vs : List Value} {i : Int32} (hk : k < n) (he : E k = .inl (cB, nn, .inr (.inr (.inr (.inr f))))) (ht : tys[t0]? = some (cB, .object r.1)) (hk2 : k2 < n) (he2 : E k2 = .inr (ci, vs)) (hc : vwCl[ci]? = some r) (hin : vp_in i nn) (hdg : decode cc pc = .ok (.aastore, 1))
    (kk : ∀ (H1 : Heap) (locs1 : List Loc), HpM n o D (upE E k (.inl (cB, nn, .inr (.inr (.inr (.inr (va_up f i.toNatClampNeg (some (o + k2))))))))) s H1 locs1 → W p l e R s m args below meth c H1 locs1 cells slots Q (F0 m (pc + 1) ls rest)) : W p l e R s m args below meth c H locs cells slots Q (F0 m pc ls (.ref (o + k2) :: .int i :: .ref (o + k) :: rest)) := by
  have hK := C.2.2.2.1
  have hlt : i.toNatClampNeg < nn := Nat.not_le.mp fun q => hin (Or.inr q)
  have h0 : ¬ i < 0 := fun q => hin (Or.inl q)
  have ha := P.1 k _ (by rw [wl_get hk, he])
  obtain ⟨r', hr', cellV, g1, g2, g3, -⟩ := P.1 k2 _ (by rw [wl_get hk2, he2])
  have hcls := (hK.1 ci r hc).2
  obtain ⟨kA, comp, k1, k2', k3, -⟩ := (hK.2 t0 _ ht).2
  have hcomp : comp = D.1 ci := Option.some.inj (k3.symm.trans hcls.1)
  subst hcomp
  obtain ⟨kC, hkC, -⟩ := hcls.2
  refine W.aast C.1.1 C.1.2.1 ha (fun q h => by cases h) (fun h => by cases h) k1 k2' rfl hkC ⟨h0, by show _ < (arrV _ _ _).slots.size; rw [arrV_size]; exact hlt⟩ g1 (fun q h => by rw [g3] at h; cases h) (by rw [g2]; exact hkC) (by rw [g2]; exact va_assign hcls) rfl rfl hdg fun H1 e z oq => ?_
  refine kk H1 _ ⟨?_, by rw [z]; exact P.2.1, P.2.2.put z oq (Nat.le_add_right _ _)⟩
  rw [← wl_set hk]
  refine P.1.set (A := aA o n) wl_D (by rw [wl_get hk, he]) ?_ oq
  show H1[o + k]? = some (vp_cell _ _)
  rw [e]
  rw [vp_cell_q, vp_cell_q, arrV_store]
  congr 2
  funext q
  by_cases hq : q = i.toNatClampNeg
  · subst hq
    simp [updV, va_up, va_rf]
  · simp [updV, va_up, hq]
theorem m_iast (C : Cx p m meth c s args cc nL Ts own ret D tys) (P : HpM n o D E s H locs) {k nn : Nat} (t0 : Nat) {cB : ClassId} {f : Nat → Int32} {i x : Int32} (hk : k < n) (he : E k = .inl (cB, nn, .inl f)) (ht : tys[t0]? = some (cB, .int)) (hin : vp_in i nn) (hdg : decode cc pc = .ok (.iastore, 1))
    (kk : ∀ (H1 : Heap) (locs1 : List Loc), HpM n o D (upE E k (.inl (cB, nn, .inl (upd f i.toNatClampNeg x)))) s H1 locs1 → W p l e R s m args below meth c H1 locs1 cells slots Q (F0 m (pc + 1) ls rest)) : W p l e R s m args below meth c H locs cells slots Q (F0 m pc ls (.int x :: .int i :: .ref (o + k) :: rest)) := by
  have hK := C.2.2.2.1
  have ha := P.1 k _ (by rw [wl_get hk, he])
  refine W.iast C.1.1 C.1.2.1 ha ((hK.2 t0 _ ht).1 nn (fun j => .int (f j))) (fun q => by cases q) (by show ¬ (i < 0 ∨ (arrV _ _ _).slots.size ≤ _); rw [arrV_size]; exact hin) rfl rfl hdg fun H1 e z oq => ?_
  refine kk H1 _ ⟨?_, by rw [z]; exact P.2.1, P.2.2.put z oq (Nat.le_add_right _ _)⟩
  rw [← wl_set hk]
  refine P.1.set (A := aA o n) wl_D (by rw [wl_get hk, he]) ?_ oq
  show H1[o + k]? = some (vp_cell _ _)
  rw [e]
  rw [vp_cell_i, vp_cell_i, arrV_store]
  congr 2
  funext q
  by_cases hq : q = i.toNatClampNeg
  · subst hq
    simp [updV, upd]
  · simp [updV, upd, hq]
theorem m_pre (C : Cx p m meth c s args cc nL Ts own ret D tys) (hAO : AOs s) (P : HpM n o D E s H locs) (As : List Value) : PreS s H (va_Pc As (Wm n o D tys E)) As :=
  ⟨fun a U g mk q => ⟨q.1, q.2.1, ⟨q.2.2.1.1, va_K.moved (u := U) (U := U.calling g mk a) (Vm.Alike.refl U.vm) q.2.2.1.2.1, NwA.same (u := U) (U := U.calling g mk a) rfl q.2.2.1.2.2⟩, AOs.moved (u := U) (U := U.calling g mk a) (Vm.Alike.refl U.vm) q.2.2.2⟩, fun U hU hW => ⟨rfl, by rw [hU]; exact P.2.1, ⟨by rw [hU]; exact P.1, va_K.moved hW.alike C.2.2.2.1, C.2.2.2.2.warm hW⟩, hAO.moved hW.alike⟩⟩
theorem m_call {st0 : List Value} {a : Array Value} {n' mc ms : Nat} {E' : Nat → va_E} (hr : va_Run p l e R s m args below meth c H locs cells slots mc ms (F0 m pc ls st0) rest (Qm n' o D tys E' a) (fun q => o ≤ q)) (P : HpM n o D E s H locs)
    (kk : ∀ (H1 : Heap) (locs1 : List Loc), HpM n' o D E' s H1 locs1 → W p l e R s m args below meth c H1 locs1 (cells + mc) (slots + ms) Q (F0 m (pc + 3) ls rest)) : W p l e R s m args below meth c H locs cells slots Q (F0 m pc ls st0) := by
  intro T hT X
  obtain ⟨v, st₀, t, T', L, h0, X', hL, e1, e2, ⟨hv, hsz, hb, hz, hk⟩, st⟩ := hr T hT X
  cases hv
  rw [h0] at hz hk
  have hS := P.2.2
  obtain ⟨t2, a1, b1⟩ := kk T'.heap (locs ++ L) ⟨by rw [e1]; exact hb, by rw [e1]; exact hsz, Nat.le_trans hS.1 (by rw [e1]; exact hz), fun q h1 h2 => by rw [e1, hk q (Nat.lt_of_lt_of_le h1 hS.1) h2]; exact hS.2.1 q h1 h2, fun q hq => by
      rcases List.mem_append.mp hq with h | h
      · exact hS.2.2 q h
      · exact hL q h⟩ T' rfl X'
  exact ⟨t2, st t2 a1, b1⟩
theorem m_ret {E' : Nat → va_E} (C : Cx p m meth c s args cc nL Ts own none D tys) (P : HpM n o D E s H locs) (hE : ∀ q, q < n → enq (E q) (E' q)) (hdg : decode cc pc = .ok (.return_, 1)) : W p l e R s m args below meth c H locs cells slots (MQ below (Qm n o D tys E') args s cells slots (fun q => o ≤ q)) (F0 m pc ls []) :=
  have hP' : va_P D vwCl (wl n o E') H := by
    intro k q hq
    obtain ⟨hk, rfl⟩ := wl_inv hq
    exact hE k hk D _ _ (P.1 k _ (wl_get hk))
  W.vret C.1.1 C.1.2.1 C.2.1 (fun t ht hw => ⟨rfl, by rw [ht]; exact P.2.1, by rw [ht]; exact hP', P.2.2.F ht⟩) P.2.2.2.2 hdg C.2.2.1
end MAKE
theorem kd_3_eq {k : Nat} (h : kd k = 3) : k = 745 := (by decide +kernel : ∀ k, k < 747 → kd k = 3 → k = 745) k (kd_lt h (by decide)) h
theorem kd_3_1 {k : Nat} (h : kd k = 3) : kd (k + 1) = 22 := kd_all (f := fun k => k + 1) (by decide) (by decide +kernel) h
