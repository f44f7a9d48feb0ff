/-! memory: for each cell (its place in the world) and each slot, an int -/
abbrev Mm : Type := Nat → Nat → Int32
def up2 (μ : Mm) (k j : Nat) (v : Int32) : Mm := fun a => if a = k then upd (μ k) j v else μ a
def upA (μ : Mm) (k : Nat) (f : Nat → Int32) : Mm := fun a => if a = k then f else μ a
theorem up2_s (μ : Mm) (k j : Nat) (v : Int32) : up2 μ k j v k j = v := by simp [up2, upd]
theorem up2_n {μ : Mm} {k j a b : Nat} {v : Int32} (h : a ≠ k ∨ b ≠ j) : up2 μ k j v a b = μ a b := by
  unfold up2
  by_cases ha : a = k
  · subst ha
    have hb : b ≠ j := by rcases h with h | h; exact absurd rfl h; exact h
    simp [upd, hb]
  · simp [ha]
def isB (v : Int32) : Prop := v = 0 ∨ v = 1
theorem isB_nar {v : Int32} (h : isB v) : narrow .boolean (.int v) = .int v := by rcases h with rfl | rfl <;> rfl
theorem isB_fit {v : Int32} (h : isB v) : fits .boolean (.int v) = true := by rcases h with rfl | rfl <;> rfl
theorem ite_t {a : Prop} [Decidable a] {A B : Prop} (h : if a then A else B) (ha : a) : A := by rwa [if_pos ha] at h
theorem ite_f {a : Prop} [Decidable a] {A B : Prop} (h : if a then A else B) (ha : ¬ a) : B := by rwa [if_neg ha] at h
/-! a world: N cells, one behind another, from o on -/
def wl (N o : Nat) (E : Nat → va_E) : va_W := (List.range N).map (fun k => (o + k, E k))
def upE (E : Nat → va_E) (k : Nat) (x : va_E) : Nat → va_E := fun q => if q = k then x else E q
def aA (o N : Nat) : Nat → Prop := fun q => o ≤ q ∧ q < o + N
theorem wl_get {N o k : Nat} {E : Nat → va_E} (h : k < N) : (wl N o E)[k]? = some (o + k, E k) := by
  simp [wl, h]
theorem wl_inv {N o i : Nat} {E : Nat → va_E} {p : Nat × va_E} (h : (wl N o E)[i]? = some p) : i < N ∧ p = (o + i, E i) := by
  have hl : i < N := by
    have := (List.getElem?_eq_some_iff.mp h).1
    simpa [wl] using this
  rw [wl_get hl] at h
  exact ⟨hl, (Option.some.inj h).symm⟩
theorem wl_set {N o k : Nat} {E : Nat → va_E} {x : va_E} (h : k < N) : (wl N o E).set k (o + k, x) = wl N o (upE E k x) := by
  refine List.ext_getElem? fun i => ?_
  rw [List.getElem?_set]
  by_cases hk : k = i
  · subst hk
    rw [wl_get h]
    simp [wl, h, upE]
  · rw [if_neg hk]
    by_cases hi : i < N
    · rw [wl_get hi, wl_get hi]
      simp [upE, Ne.symm hk]
    · simp [wl, hi]
theorem wl_D {N o : Nat} {E : Nat → va_E} : va_D (aA o N) (wl N o E) := by
  refine ⟨fun i j p q hi hj e => ?_, fun k q hk => ?_⟩
  · obtain ⟨_, rfl⟩ := wl_inv hi
    obtain ⟨_, rfl⟩ := wl_inv hj
    exact Nat.add_left_cancel e
  · obtain ⟨h, rfl⟩ := wl_inv hk
    exact ⟨Nat.le_add_right _ _, Nat.add_lt_add_left h o⟩
def nws : List (String × Nat × MethodName × String) := [("TurnstileBank$State", 81, yX9_isBetween, "TurnstileBank"), ("TurnstileBank$State", 37, yX0_init, "TurnstileBank"), ("TurnstileBank$State", 46, yX1_init, "TurnstileBank"), ("TurnstileBank$Gate", 11, yX7_init, "TurnstileBank"), ("TurnstileBank$State", 47, yX5_init, "TurnstileBank"), ("TurnstileBank$State", 48, yX6_init, "TurnstileBank"), ("TurnstileBank$State", 49, yX4_init, "TurnstileBank"), ("TurnstileBank", 28, yX3_init, "TurnstileBank")]
def NwA (U : State) : Prop := ∀ (i : Nat) (q : String × Nat × MethodName × String), nws[i]? = some q → va_Nw (.methodLinkNest q.1 q.2.1 q.2.2.1 q.2.2.2) U
theorem NwA.warm {s U : State} (hW : s.WarmedH U.vm) (h : NwA s) : NwA U := fun i q hq => va_Nw.warmM hW (h i q hq)
theorem NwA.same {u U : State} (hv : u.vm = U.vm) (h : NwA u) : NwA U := fun i q hq => va_Nw.same rfl hv (h i q hq)
def Wd (N o : Nat) (D : va_G) (tys : List (ClassId × FieldType)) (E : Nat → va_E) (U : State) : Prop := va_P D vwCl (wl N o E) U.heap ∧ va_K D vwCl tys U ∧ NwA U
def Cx (p : Program) (m : MethodId) (meth : Method) (c : Code) (s : State) (args : Array Value) (cc : ByteArray) (nL : Nat) (Ts : List Cond) (own : String) (ret : Option FieldType) (D : va_G) (tys : List (ClassId × FieldType)) : Prop := CallFix p m c cc nL s args Ts own ∧ meth.sig.returnType = ret ∧ meth.locks = false ∧ va_K D vwCl tys s ∧ NwA s
def Hp (N o : Nat) (D : va_G) (E : Nat → va_E) (s : State) (H : Heap) (locs : List Loc) : Prop := va_P D vwCl (wl N o E) H ∧ va_S (aA o N) s.heap H locs
/-- a method's end: its answer, the memory then -/
def Qg {ρ : Type} (val : ρ → Option Value) (Φ : ρ → Mm → Prop) (B : Mm → State → Prop) (A : Nat → Prop) : Array Value → State → Outcome → State → Prop := fun _ st oc t => (∃ (r : ρ) (μ : Mm), oc = .returned (val r) ∧ Φ r μ ∧ B μ t) ∧ va_F A st t
abbrev vI : Int32 → Option Value := fun r => some (.int r)
abbrev vV : Unit → Option Value := fun _ => none
abbrev vR (o : Nat) : Nat → Option Value := fun k => some (.ref (o + k))
def rfo (o : Nat) : Option Nat → Value | none => .null | some k => .ref (o + k)
abbrev vN (o : Nat) : Option Nat → Option Value := fun r => some (rfo o r)
section ROWS
variable {p : Program} {l : Launch} {e : Env} {R : Room} {s : State} {m : MethodId} {args : Array Value} {below : List Frame} {meth : Method} {c : Code} {H : Heap} {locs : List Loc} {cells slots : Nat} {Q : State → Prop}
variable {cc : ByteArray} {pc nL : Nat} {ls : Array Slot} {rest : List Value} {D : va_G} {tys : List (ClassId × FieldType)} {Ts : List Cond} {own : String} {ret : Option FieldType} {N o : Nat} {E : Nat → va_E}
theorem r_get (C : Cx p m meth c s args cc nL Ts own ret D tys) (P : Hp N o D E s H locs) {X : String} {T : u_T} {n ci ix j k : Nat} {fs : List Value} {v : Value} (hin : ∀ w ∈ u_ws X T n, w ∈ Ts) (hc : vwCl[ci]? = some (X, T, n)) (hl : Cond.fieldLink own ix X (T j).2.1 (T j).2.2.1 ∈ Ts) (hX : (T j).1 = X) (hk : k < N) (he : E k = .inr (ci, fs)) (hj : j < n) (hv : fs[j]? = some v) (hdg : decode cc pc = .ok (.getfield ix, 3))
    (kk : W p l e R s m args below meth c H locs cells slots Q (F0 m (pc + 3) ls (v :: rest))) : W p l e R s m args below meth c H locs cells slots Q (F0 m pc ls (.ref (o + k) :: rest)) :=
  va_get C.1.1 C.1.2.1 C.1.2.2.2.2 hin C.1.2.2.2.1 C.2.2.2.1 P.1 k (by rw [wl_get hk, he]) hc j hj (C.1.2.2.2.2 _ hl) (fun x h => by rw [hX] at h; exact h) hv hdg kk
theorem r_put (C : Cx p m meth c s args cc nL Ts own ret D tys) (P : Hp N o D E s H locs) {X : String} {T : u_T} {n ci ix j k : Nat} {fs : List Value} {v : Value} (hin : ∀ w ∈ u_ws X T n, w ∈ Ts) (ty0 : Nat → FieldType) (hty : ∀ k, k < n → parseFieldDescriptor (T k).2.2.1 = some (ty0 k)) (hnm : ∀ a, a < n → ∀ b, b < n → a ≠ b → (T a).2.1 ≠ (T b).2.1) (hc : vwCl[ci]? = some (X, T, n)) (hl : Cond.fieldLink own ix X (T j).2.1 (T j).2.2.1 ∈ Ts) (hX : (T j).1 = X) (hfin : (T j).2.2.2 = false) (hk : k < N) (he : E k = .inr (ci, fs)) (hj : j < n) (hjl : j < fs.length) {ty : FieldType} (hd : parseFieldDescriptor (T j).2.2.1 = some ty) (hn : narrow ty v = v) (hfit : fits ty v = true) (hdg : decode cc pc = .ok (.putfield ix, 3))
    (kk : ∀ (H1 : Heap) (locs1 : List Loc), Hp N o D (upE E k (.inr (ci, fs.set j v))) s H1 locs1 → W p l e R s m args below meth c H1 locs1 cells slots Q (F0 m (pc + 3) ls rest)) : W p l e R s m args below meth c H locs cells slots Q (F0 m pc ls (v :: .ref (o + k) :: rest)) :=
  va_put C.1.1 C.1.2.1 C.1.2.2.2.2 hin ty0 hty hnm C.1.2.2.2.1 C.2.2.2.1 P.1 wl_D P.2 k (by rw [wl_get hk, he]) hc j hj (C.1.2.2.2.2 _ hl) (fun x h => by rw [hX] at h; exact h) hfin hd hn hfit hjl hdg (fun H1 locs1 a b d => kk H1 locs1 ⟨by rw [wl_set hk] at a; exact a, d⟩)
theorem r_iald (C : Cx p m meth c s args cc nL Ts own ret D tys) (P : Hp N o D E s H locs) {k n : Nat} (t0 : Nat) {cA : ClassId} {f : Nat → Int32} {i : Int32} (hk : k < N) (he : E k = .inl (cA, n, .inl f)) (ht : tys[t0]? = some (cA, .int)) (hin : vp_in i n) (hdg : decode cc pc = .ok (.iaload, 1))
    (kk : W p l e R s m args below meth c H locs cells slots Q (F0 m (pc + 1) ls (.int (f i.toNatClampNeg) :: rest))) : W p l e R s m args below meth c H locs cells slots Q (F0 m pc ls (.int i :: .ref (o + k) :: rest)) :=
  va_iald C.1.1 C.1.2.1 C.2.2.2.1 P.1 k t0 (by rw [wl_get hk, he]) ht hin hdg kk
theorem r_cald (C : Cx p m meth c s args cc nL Ts own ret D tys) (P : Hp N o D E s H locs) {k n : Nat} (t0 : Nat) {cA : ClassId} {f : Nat → Int32} {i : Int32} (hk : k < N) (he : E k = .inl (cA, n, .inl f)) (ht : tys[t0]? = some (cA, .char)) (hin : vp_in i n) (hdg : decode cc pc = .ok (.caload, 1))
    (kk : W p l e R s m args below meth c H locs cells slots Q (F0 m (pc + 1) ls (.int (f i.toNatClampNeg) :: rest))) : W p l e R s m args below meth c H locs cells slots Q (F0 m pc ls (.int i :: .ref (o + k) :: rest)) :=
  va_cald C.1.1 C.1.2.1 C.2.2.2.1 P.1 k t0 (by rw [wl_get hk, he]) ht hin hdg kk
theorem r_iast (C : Cx p m meth c s args cc nL Ts own ret D tys) (P : Hp N o D E s H locs) {k n : Nat} (t0 : Nat) {cA : ClassId} {f : Nat → Int32} {i v : Int32} (hk : k < N) (he : E k = .inl (cA, n, .inl f)) (ht : tys[t0]? = some (cA, .int)) (hin : vp_in i n) (hdg : decode cc pc = .ok (.iastore, 1))
    (kk : ∀ (H1 : Heap) (locs1 : List Loc), Hp N o D (upE E k (.inl (cA, n, .inl (upd f i.toNatClampNeg v)))) s H1 locs1 → W p l e R s m args below meth c H1 locs1 cells slots Q (F0 m (pc + 1) ls rest)) : W p l e R s m args below meth c H locs cells slots Q (F0 m pc ls (.int v :: .int i :: .ref (o + k) :: rest)) :=
  va_iast C.1.1 C.1.2.1 C.2.2.2.1 P.1 wl_D P.2 k t0 (by rw [wl_get hk, he]) ht hin hdg (fun H1 locs1 a b d => kk H1 locs1 ⟨by rw [wl_set hk] at a; exact a, d⟩)
theorem r_cast (C : Cx p m meth c s args cc nL Ts own ret D tys) (P : Hp N o D E s H locs) {k n : Nat} (t0 : Nat) {cA : ClassId} {f : Nat → Int32} {i v : Int32} (hk : k < N) (he : E k = .inl (cA, n, .inl f)) (ht : tys[t0]? = some (cA, .char)) (hin : vp_in i n) (hdg : decode cc pc = .ok (.castore, 1))
    (kk : ∀ (H1 : Heap) (locs1 : List Loc), Hp N o D (upE E k (.inl (cA, n, .inl (upd f i.toNatClampNeg (vp_nar .char v))))) s H1 locs1 → W p l e R s m args below meth c H1 locs1 cells slots Q (F0 m (pc + 1) ls rest)) : W p l e R s m args below meth c H locs cells slots Q (F0 m pc ls (.int v :: .int i :: .ref (o + k) :: rest)) :=
  va_cast C.1.1 C.1.2.1 C.2.2.2.1 P.1 wl_D P.2 k t0 (by rw [wl_get hk, he]) ht hin hdg (fun H1 locs1 a b d => kk H1 locs1 ⟨by rw [wl_set hk] at a; exact a, d⟩)
theorem r_alen (C : Cx p m meth c s args cc nL Ts own ret D tys) (P : Hp N o D E s H locs) {k : Nat} (t0 : Nat) {cA : ClassId} {x : vp_A} {ty : FieldType} {v : Int32} (hk : k < N) (he : E k = .inl (cA, x)) (ht : tys[t0]? = some (cA, ty)) (hv : Int32.ofNat x.1 = v) (hdg : decode cc pc = .ok (.arraylength, 1))
    (kk : W p l e R s m args below meth c H locs cells slots Q (F0 m (pc + 1) ls (.int v :: rest))) : W p l e R s m args below meth c H locs cells slots Q (F0 m pc ls (.ref (o + k) :: rest)) :=
  va_alen C.1.1 C.1.2.1 C.2.2.2.1 P.1 k t0 (by rw [wl_get hk, he]) ht hv hdg kk
theorem r_aald (C : Cx p m meth c s args cc nL Ts own ret D tys) (P : Hp N o D E s H locs) {k n q : Nat} (t0 : Nat) {cA : ClassId} {X : String} {f : Nat → Option Nat} {i : Int32} (hk : k < N) (he : E k = .inl (cA, n, .inr (.inr (.inr (.inr f))))) (ht : tys[t0]? = some (cA, .object X)) (hin : vp_in i n) (hf : f i.toNatClampNeg = some (o + q)) (hdg : decode cc pc = .ok (.aaload, 1))
    (kk : W p l e R s m args below meth c H locs cells slots Q (F0 m (pc + 1) ls (.ref (o + q) :: rest))) : W p l e R s m args below meth c H locs cells slots Q (F0 m pc ls (.int i :: .ref (o + k) :: rest)) :=
  va_aldq C.1.1 C.1.2.1 C.2.2.2.1 P.1 k t0 (by rw [wl_get hk, he]) ht hin hdg (by rw [hf]; exact kk)
/-- a call that makes nothing: what it answers, the memory then; all else stays -/
theorem r_call {ρ : Type} {val : ρ → Option Value} {Φ : ρ → Mm → Prop} {F : Mm → Nat → va_E} {st0 : List Value} {a : Array Value} (hr : va_Run p l e R s m args below meth c H locs cells slots 0 0 (F0 m pc ls st0) rest (Qg val Φ (fun μ => Wd N o D tys (F μ)) (aA o N) a) (aA o N)) (hS : va_S (aA o N) s.heap H locs)
    (kk : ∀ (r : ρ) (μ1 : Mm) (H1 : Heap) (locs1 : List Loc), Φ r μ1 → Hp N o D (F μ1) s H1 locs1 → W p l e R s m args below meth c H1 locs1 cells slots Q (F0 m (pc + 3) ls ((val r).toList ++ rest))) : W p l e R s m args below meth c H locs cells slots Q (F0 m pc ls st0) := by
  intro T hT X
  obtain ⟨v, st₀, t, T', L, h0, X', hL, e1, e2, ⟨⟨r, μ1, hv, hp, hb⟩, hz, hk⟩, st⟩ := hr T hT X
  cases hv
  rw [h0] at hz hk
  obtain ⟨t2, a1, b1⟩ := kk r μ1 T'.heap (locs ++ L) hp ⟨by rw [e1]; exact hb.1, Nat.le_trans hS.1 (by rw [e1]; exact hz), fun q h1 h2 => by rw [e1, hk q (Nat.lt_of_lt_of_le h1 hS.1) h2]; exact hS.2.1 q h1 h2, fun q hq => by
      rcases List.mem_append.mp hq with h | h
      · exact hS.2.2 q h
      · exact hL q h⟩ T' rfl X'
  exact ⟨t2, st t2 a1, b1⟩
theorem r_pre (C : Cx p m meth c s args cc nL Ts own ret D tys) (P : Hp N o D E s H locs) (As : List Value) : PreS s H (va_Pc As (Wd N o D tys E)) As :=
  ⟨fun a U g mk q => ⟨q.1, q.2.1, va_K.moved (u := U) (U := U.calling g mk a) (Vm.Alike.refl U.vm) q.2.2.1, NwA.same (u := U) (U := U.calling g mk a) rfl q.2.2.2⟩, fun U hU hW => ⟨rfl, by rw [hU]; exact P.1, va_K.moved hW.alike C.2.2.2.1, C.2.2.2.2.warm hW⟩⟩
theorem r_preV (C : Cx p m meth c s args cc nL Ts own ret D tys) (P : Hp N o D E s H locs) {k ci : Nat} {q : vw_C} {fs : List Value} (As : List Value) (hc : vwCl[ci]? = some q) (hk : k < N) (he : E k = .inr (ci, fs)) : PreV s H q.1 (o + k) (va_Pc (.ref (o + k) :: As) (Wd N o D tys E)) As :=
  ⟨(r_pre C P _).1, va_recv C.2.2.2.1 P.1 hc (by rw [wl_get hk, he]), (r_pre C P _).2⟩
theorem r_ireti {F : Mm → Nat → va_E} {μ : Mm} {Φ : Int32 → Mm → Prop} {v : Int32} (C : Cx p m meth c s args cc nL Ts own (some .int) D tys) (P : Hp N o D (F μ) s H locs) (h : Φ v μ) (hdg : decode cc pc = .ok (.ireturn, 1)) : W p l e R s m args below meth c H locs 0 0 (MQ below (Qg vI Φ (fun μ => Wd N o D tys (F μ)) (aA o N)) args s 0 0 (aA o N)) (F0 m pc ls [.int v]) :=
  W.iret C.1.1 C.1.2.1 C.2.1 (fun t ht hw => ⟨⟨v, μ, rfl, h, by rw [ht]; exact P.1, va_K.moved hw.alike C.2.2.2.1, C.2.2.2.2.warm hw⟩, P.2.F ht⟩) P.2.2.2 hdg C.2.2.1
theorem r_iretb {F : Mm → Nat → va_E} {μ : Mm} {Φ : Int32 → Mm → Prop} {v : Int32} (C : Cx p m meth c s args cc nL Ts own (some .boolean) D tys) (P : Hp N o D (F μ) s H locs) (hB : isB v) (h : Φ v μ) (hdg : decode cc pc = .ok (.ireturn, 1)) : W p l e R s m args below meth c H locs 0 0 (MQ below (Qg vI Φ (fun μ => Wd N o D tys (F μ)) (aA o N)) args s 0 0 (aA o N)) (F0 m pc ls [.int v]) :=
  W.zret C.1.1 C.1.2.1 C.2.1 (isB_nar hB) (fun t ht hw => ⟨⟨v, μ, rfl, h, by rw [ht]; exact P.1, va_K.moved hw.alike C.2.2.2.1, C.2.2.2.2.warm hw⟩, P.2.F ht⟩) P.2.2.2 hdg C.2.2.1
theorem r_ret {F : Mm → Nat → va_E} {μ : Mm} {Φ : Unit → Mm → Prop} (C : Cx p m meth c s args cc nL Ts own none D tys) (P : Hp N o D (F μ) s H locs) (h : Φ () μ) (hdg : decode cc pc = .ok (.return_, 1)) : W p l e R s m args below meth c H locs 0 0 (MQ below (Qg vV Φ (fun μ => Wd N o D tys (F μ)) (aA o N)) args s 0 0 (aA o N)) (F0 m pc ls []) :=
  W.vret C.1.1 C.1.2.1 C.2.1 (fun t ht hw => ⟨⟨(), μ, rfl, h, by rw [ht]; exact P.1, va_K.moved hw.alike C.2.2.2.1, C.2.2.2.2.warm hw⟩, P.2.F ht⟩) P.2.2.2 hdg C.2.2.1
theorem r_aretr {F : Mm → Nat → va_E} {μ : Mm} {Φ : Nat → Mm → Prop} {k : Nat} {X : String} (C : Cx p m meth c s args cc nL Ts own (some (.object X)) D tys) (P : Hp N o D (F μ) s H locs) (h : Φ k μ) (hdg : decode cc pc = .ok (.areturn, 1)) : W p l e R s m args below meth c H locs 0 0 (MQ below (Qg (vR o) Φ (fun μ => Wd N o D tys (F μ)) (aA o N)) args s 0 0 (aA o N)) (F0 m pc ls [.ref (o + k)]) :=
  W.aret C.1.1 C.1.2.1 C.2.1 (Or.inl ⟨_, rfl⟩) (Or.inr ⟨_, rfl⟩) (fun t ht hw => ⟨⟨k, μ, rfl, h, by rw [ht]; exact P.1, va_K.moved hw.alike C.2.2.2.1, C.2.2.2.2.warm hw⟩, P.2.F ht⟩) P.2.2.2 hdg C.2.2.1
theorem r_arets {F : Mm → Nat → va_E} {μ : Mm} {Φ : Option Nat → Mm → Prop} {k : Nat} {X : String} (C : Cx p m meth c s args cc nL Ts own (some (.object X)) D tys) (P : Hp N o D (F μ) s H locs) (h : Φ (some k) μ) (hdg : decode cc pc = .ok (.areturn, 1)) : W p l e R s m args below meth c H locs 0 0 (MQ below (Qg (vN o) Φ (fun μ => Wd N o D tys (F μ)) (aA o N)) args s 0 0 (aA o N)) (F0 m pc ls [.ref (o + k)]) :=
  W.aret C.1.1 C.1.2.1 C.2.1 (Or.inl ⟨_, rfl⟩) (Or.inr ⟨_, rfl⟩) (fun t ht hw => ⟨⟨some k, μ, rfl, h, by rw [ht]; exact P.1, va_K.moved hw.alike C.2.2.2.1, C.2.2.2.2.warm hw⟩, P.2.F ht⟩) P.2.2.2 hdg C.2.2.1
theorem r_aretn {F : Mm → Nat → va_E} {μ : Mm} {Φ : Option Nat → Mm → Prop} {X : String} (C : Cx p m meth c s args cc nL Ts own (some (.object X)) D tys) (P : Hp N o D (F μ) s H locs) (h : Φ none μ) (hdg : decode cc pc = .ok (.areturn, 1)) : W p l e R s m args below meth c H locs 0 0 (MQ below (Qg (vN o) Φ (fun μ => Wd N o D tys (F μ)) (aA o N)) args s 0 0 (aA o N)) (F0 m pc ls [.null]) :=
  W.aret C.1.1 C.1.2.1 C.2.1 (Or.inl ⟨_, rfl⟩) (Or.inl rfl) (fun t ht hw => ⟨⟨none, μ, rfl, h, by rw [ht]; exact P.1, va_K.moved hw.alike C.2.2.2.1, C.2.2.2.2.warm hw⟩, P.2.F ht⟩) P.2.2.2 hdg C.2.2.1
end ROWS

