def w_L_law_997 (L : Nat) (xs : Nat → Int32) (X70 : Int32 → Mm → Prop) (Φ : Int32 → Mm → Prop) (x2 : Int32) (x10 : Int32) (u0 : Mm) : Prop := (if x10 = 0 then (Φ ((0 : Int32)) u0) else (w_L_people (fun _ => 0) u0 (fun r47 u46 => (if r47 = 0 then (Φ ((0 : Int32)) u46) else (w_L_pools u46 (fun r50 u49 => (if r50 = 0 then (Φ ((0 : Int32)) u49) else (X70 ((x2 + 1)) u49))))))))
set_option maxHeartbeats 4000000 in
set_option maxRecDepth 100000 in
theorem t_L_law_997 {p : Program} {l : Launch} {e : Env} {s : State} {m : MethodId} {below : List Frame} {meth : Method} {c : Code} {D : va_G} {cA : Nat → ClassId} {o b L : Nat} {xs : Nat → Int32} {N : Nat} {X70 : Int32 → Mm → Prop} (C : Cx p m meth c s #[Value.ref b] cL_law 15 wsL_law RL ret D (tysL cA)) (hX : va_X b L xs s s.heap) (hbo : b < o) (hL : L ≤ 260) (ho : s.heap.size = o) (hX70 : ∀ (x2 : Int32) (u0 : Mm), ∀ cells slots : Nat, cells + N ≤ 1000 ∧ slots + 6 * N ≤ 20000 → ∀ (H : Heap) (locs : List Loc) (ls : Array Slot), HpW o D cA u0 s H locs → lv_has ls 15 [(0, .ref b), (1, .ref (o + 0)), (2, .int x2)] → X70 x2 u0 → W p l e room_1 s m #[Value.ref b] below meth c H locs cells slots (lw_Z below #[Value.ref b] s) (F0 m 70 ls [])) : ∀ (x2 : Int32) (x10 : Int32) (u0 : Mm), ∀ cells slots : Nat, cells + (N + 1) ≤ 1000 ∧ slots + 6 * (N + 1) ≤ 20000 → ∀ (H : Heap) (locs : List Loc) (ls : Array Slot), HpW o D cA u0 s H locs → lv_has ls 15 [(0, .ref b), (1, .ref (o + 0)), (2, .int x2), (10, .int x10)] → w_L_law_997 L xs X70 PL x2 x10 u0 → W p l e room_1 s m #[Value.ref b] below meth c H locs cells slots (lw_Z below #[Value.ref b] s) (F0 m 997 ls []) := by
  intro x2 x10 u0 cells slots hc H locs ls P hl h
  have hx := C.1.1
  have hb := C.1.2.1
  unfold w_L_law_997 at h
  refine lv_iload hx hb dL_law_997 (lv_at hl 3 rfl) ?_
  refine lv_if_eq (tgt := 1016) hx hb dL_law_999 (by decide) (fun c45 => ?_) (fun c45 => ?_)
  · have h := ite_t h c45
    refine lv_iconst (v := 0) hx hb dL_law_1016 (by decide) ?_
    exact lw_fin C ho P (by omega) (by omega) h dL_law_1017
  · have h := ite_f h c45
    refine lv_aload_n hx hb dL_law_1002 rfl (lv_at hl 1 rfl) ?_
    refine w_callp (va_runS (As := [.ref (o + 0)]) (rest := []) C.1 (c_L_people l D cA o u0 _ h) (va_cwS 1 C.1.2.2.2.2 gL_law_L_people rfl rfl rfl (by decide +kernel) ⟨Nat.le_of_ble_eq_true rfl, Nat.le_of_ble_eq_true rfl⟩) (w_pre C P.1 [.ref (o + 0)]) rfl rfl hl.1 rfl (lv_room (Nat.le_of_ble_eq_true rfl)) dL_law_1003 (w_fit (by omega) (by omega))) P (fun r47 u46 H locs h P => ?_)
    have hc : cells + 1 + N ≤ 1000 ∧ slots + 6 + 6 * N ≤ 20000 := ⟨by omega, by omega⟩
    refine lv_if_eq (tgt := 1016) hx hb dL_law_1006 (by decide) (fun c48 => ?_) (fun c48 => ?_)
    · have h := ite_t h c48
      refine lv_iconst (v := 0) hx hb dL_law_1016 (by decide) ?_
      exact lw_fin C ho P (by omega) (by omega) h dL_law_1017
    · have h := ite_f h c48
      refine lv_aload_n hx hb dL_law_1009 rfl (lv_at hl 1 rfl) ?_
      refine w_calli (va_runS (As := [.ref (o + 0)]) (rest := []) C.1 (c_L_pools l D cA o u46 _ h) (va_cwS 1 C.1.2.2.2.2 gL_law_L_pools rfl rfl rfl (by decide +kernel) ⟨Nat.le_of_ble_eq_true rfl, Nat.le_of_ble_eq_true rfl⟩) (w_pre C P.1 [.ref (o + 0)]) rfl rfl hl.1 rfl (lv_room (Nat.le_of_ble_eq_true rfl)) dL_law_1010 (w_fit (by omega) (by omega))) P (fun r50 u49 H locs h P => ?_)
      refine lv_if_ne (tgt := 1018) hx hb dL_law_1013 (by decide) (fun c51 => ?_) (fun c51 => ?_)
      · have h := ite_f h c51
        refine lv_iinc (v := (x2 + 1)) (lv' := [(2, .int (x2 + 1)), (0, .ref b), (1, .ref (o + 0)), (10, .int x10)]) hx hb dL_law_1018 hl (k := 2) rfl rfl (by decide) rfl (fun ls hl => ?_)
        refine lv_goto (tgt := 70) hx hb dL_law_1021 (by decide) ?_
        exact hX70 _ u49 _ _ ⟨by omega, by omega⟩ _ _ _ P (lv_sub hl [1, 2, 0] rfl) h
      · have h := ite_t h c51
        refine lv_iconst (v := 0) hx hb dL_law_1016 (by decide) ?_
        exact lw_fin C ho P (by omega) (by omega) h dL_law_1017
def w_L_law_992 (L : Nat) (xs : Nat → Int32) (X70 : Int32 → Mm → Prop) (Φ : Int32 → Mm → Prop) (x2 : Int32) (z0 : Int32) (z1 : Int32) (z2 : Int32) (z3 : Int32) (u0 : Mm) : Prop := (w_L_orders z3 z2 z1 z0 u0 (fun r58 u57 => (w_L_law_997 L xs X70 Φ x2 r58 u57)))
set_option maxHeartbeats 4000000 in
set_option maxRecDepth 100000 in
theorem t_L_law_992 {p : Program} {l : Launch} {e : Env} {s : State} {m : MethodId} {below : List Frame} {meth : Method} {c : Code} {D : va_G} {cA : Nat → ClassId} {o b L : Nat} {xs : Nat → Int32} {N : Nat} {X70 : Int32 → Mm → Prop} (C : Cx p m meth c s #[Value.ref b] cL_law 15 wsL_law RL ret D (tysL cA)) (hX : va_X b L xs s s.heap) (hbo : b < o) (hL : L ≤ 260) (ho : s.heap.size = o) (hX70 : ∀ (x2 : Int32) (u0 : Mm), ∀ cells slots : Nat, cells + N ≤ 1000 ∧ slots + 6 * N ≤ 20000 → ∀ (H : Heap) (locs : List Loc) (ls : Array Slot), HpW o D cA u0 s H locs → lv_has ls 15 [(0, .ref b), (1, .ref (o + 0)), (2, .int x2)] → X70 x2 u0 → W p l e room_1 s m #[Value.ref b] below meth c H locs cells slots (lw_Z below #[Value.ref b] s) (F0 m 70 ls [])) : ∀ (x2 : Int32) (z0 : Int32) (z1 : Int32) (z2 : Int32) (z3 : Int32) (u0 : Mm), ∀ cells slots : Nat, cells + (N + 1) ≤ 1000 ∧ slots + 6 * (N + 1) ≤ 20000 → ∀ (H : Heap) (locs : List Loc) (ls : Array Slot), HpW o D cA u0 s H locs → lv_has ls 15 [(0, .ref b), (1, .ref (o + 0)), (2, .int x2)] → w_L_law_992 L xs X70 PL x2 z0 z1 z2 z3 u0 → W p l e room_1 s m #[Value.ref b] below meth c H locs cells slots (lw_Z below #[Value.ref b] s) (F0 m 992 ls [.int z0, .int z1, .int z2, .int z3, .ref (o + 0)]) := by
  intro x2 z0 z1 z2 z3 u0 cells slots hc H locs ls P hl h
  have hx := C.1.1
  have hb := C.1.2.1
  unfold w_L_law_992 at h
  refine w_calli (va_runS (As := [.ref (o + 0), .int z3, .int z2, .int z1, .int z0]) (rest := []) C.1 (c_L_orders l D cA o _ _ _ _ u0 _ h) (va_cwS 5 C.1.2.2.2.2 gL_law_L_orders rfl rfl rfl (by decide +kernel) ⟨Nat.le_of_ble_eq_true rfl, Nat.le_of_ble_eq_true rfl⟩) (w_pre C P.1 [.ref (o + 0), .int z3, .int z2, .int z1, .int z0]) rfl rfl hl.1 rfl (lv_room (Nat.le_of_ble_eq_true rfl)) dL_law_992 (w_fit (by omega) (by omega))) P (fun r58 u57 H locs h P => ?_)
  refine lv_istore (lv' := [(10, .int r58), (0, .ref b), (1, .ref (o + 0)), (2, .int x2)]) hx hb dL_law_995 hl (by decide) rfl (fun ls hl => ?_)
  exact t_L_law_997 C hX hbo hL ho hX70 _ _ u57 _ _ ⟨by omega, by omega⟩ _ _ _ P (lv_sub hl [1, 2, 3, 0] rfl) h
def w_L_law_909 (L : Nat) (xs : Nat → Int32) (X70 : Int32 → Mm → Prop) (Φ : Int32 → Mm → Prop) (x2 : Int32) (x4 : Int32) (x5 : Int32) (x6 : Int32) (x8 : Int32) (x10 : Int32) (u0 : Mm) : Prop := (if x5 = (14 : Int32) then (w_L_fails x8 u0 (fun r64 u63 => (w_L_law_997 L xs X70 Φ x2 r64 u63))) else (if x5 = (15 : Int32) then (w_L_low x4 x6 u0 (fun r60 u59 => (w_L_diverts x8 r60 u59 (fun r62 u61 => (w_L_law_997 L xs X70 Φ x2 r62 u61))))) else (if x5 = (16 : Int32) then (w_L_low x4 ((14 : Int32)) u0 (fun r53 u52 => (w_L_low ((x4 >>> ((4 : Int32) &&& 31))) ((40 : Int32)) u52 (fun r55 u54 => (if (x4 &&& (2 : Int32)) = 0 then (w_L_law_992 L xs X70 Φ x2 ((1 : Int32)) (((1 : Int32) + r55)) r53 x8 u54) else (w_L_law_992 L xs X70 Φ x2 ((0 : Int32)) (((1 : Int32) + r55)) r53 x8 u54)))))) else (w_L_law_997 L xs X70 Φ x2 x10 u0))))
set_option maxHeartbeats 4000000 in
set_option maxRecDepth 100000 in
theorem t_L_law_909 {p : Program} {l : Launch} {e : Env} {s : State} {m : MethodId} {below : List Frame} {meth : Method} {c : Code} {D : va_G} {cA : Nat → ClassId} {o b L : Nat} {xs : Nat → Int32} {N : Nat} {X70 : Int32 → Mm → Prop} (C : Cx p m meth c s #[Value.ref b] cL_law 15 wsL_law RL ret D (tysL cA)) (hX : va_X b L xs s s.heap) (hbo : b < o) (hL : L ≤ 260) (ho : s.heap.size = o) (hX70 : ∀ (x2 : Int32) (u0 : Mm), ∀ cells slots : Nat, cells + N ≤ 1000 ∧ slots + 6 * N ≤ 20000 → ∀ (H : Heap) (locs : List Loc) (ls : Array Slot), HpW o D cA u0 s H locs → lv_has ls 15 [(0, .ref b), (1, .ref (o + 0)), (2, .int x2)] → X70 x2 u0 → W p l e room_1 s m #[Value.ref b] below meth c H locs cells slots (lw_Z below #[Value.ref b] s) (F0 m 70 ls [])) : ∀ (x2 : Int32) (x4 : Int32) (x5 : Int32) (x6 : Int32) (x8 : Int32) (x10 : Int32) (u0 : Mm), ∀ cells slots : Nat, cells + (N + 1) ≤ 1000 ∧ slots + 6 * (N + 1) ≤ 20000 → ∀ (H : Heap) (locs : List Loc) (ls : Array Slot), HpW o D cA u0 s H locs → lv_has ls 15 [(0, .ref b), (1, .ref (o + 0)), (2, .int x2), (4, .int x4), (5, .int x5), (6, .int x6), (8, .int x8), (10, .int x10)] → w_L_law_909 L xs X70 PL x2 x4 x5 x6 x8 x10 u0 → W p l e room_1 s m #[Value.ref b] below meth c H locs cells slots (lw_Z below #[Value.ref b] s) (F0 m 909 ls []) := by
  intro x2 x4 x5 x6 x8 x10 u0 cells slots hc H locs ls P hl h
  have hx := C.1.1
  have hb := C.1.2.1
  unfold w_L_law_909 at h
  refine lv_iload hx hb dL_law_909 (lv_at hl 4 rfl) ?_
  refine lv_bipush (v := 14) hx hb dL_law_911 (by decide) ?_
  refine lv_icmp_ne (tgt := 927) hx hb dL_law_913 (by decide) (fun c42 => ?_) (fun c42 => ?_)
  · have h := ite_f h c42
    refine lv_iload hx hb dL_law_927 (lv_at hl 4 rfl) ?_
    refine lv_bipush (v := 15) hx hb dL_law_929 (by decide) ?_
    refine lv_icmp_ne (tgt := 952) hx hb dL_law_931 (by decide) (fun c43 => ?_) (fun c43 => ?_)
    · have h := ite_f h c43
      refine lv_iload hx hb dL_law_952 (lv_at hl 4 rfl) ?_
      refine lv_bipush (v := 16) hx hb dL_law_954 (by decide) ?_
      refine lv_icmp_ne (tgt := 997) hx hb dL_law_956 (by decide) (fun c44 => ?_) (fun c44 => ?_)
      · have h := ite_f h c44
        exact t_L_law_997 C hX hbo hL ho hX70 _ _ u0 _ _ ⟨by omega, by omega⟩ _ _ _ P (lv_sub hl [0, 1, 2, 7] rfl) h
      · have h := ite_t h c44
        refine lv_aload_n hx hb dL_law_959 rfl (lv_at hl 1 rfl) ?_
        refine lv_iload hx hb dL_law_960 (lv_at hl 6 rfl) ?_
        refine lv_iload hx hb dL_law_962 (lv_at hl 3 rfl) ?_
        refine lv_bipush (v := 14) hx hb dL_law_964 (by decide) ?_
        refine w_calli (va_runS (As := [.int x4, .int (14 : Int32)]) (rest := [.int x8, .ref (o + 0)]) C.1 (c_L_low l D cA o _ _ u0 _ h) (va_cwS 2 C.1.2.2.2.2 gL_law_L_low rfl rfl rfl (by decide +kernel) ⟨Nat.le_of_ble_eq_true rfl, Nat.le_of_ble_eq_true rfl⟩) (w_pre C P.1 [.int x4, .int (14 : Int32)]) rfl rfl hl.1 rfl (lv_room (Nat.le_of_ble_eq_true rfl)) dL_law_966 (w_fit (by omega) (by omega))) P (fun r53 u52 H locs h P => ?_)
        refine lv_iconst (v := 1) hx hb dL_law_969 (by decide) ?_
        refine lv_iload hx hb dL_law_970 (lv_at hl 3 rfl) ?_
        refine lv_iconst (v := 4) hx hb dL_law_972 (by decide) ?_
        refine lv_ishr hx hb dL_law_973 ?_
        refine lv_bipush (v := 40) hx hb dL_law_974 (by decide) ?_
        refine w_calli (va_runS (As := [.int (x4 >>> ((4 : Int32) &&& 31)), .int (40 : Int32)]) (rest := [.int (1 : Int32), .int r53, .int x8, .ref (o + 0)]) C.1 (c_L_low l D cA o _ _ u52 _ h) (va_cwS 2 C.1.2.2.2.2 gL_law_L_low rfl rfl rfl (by decide +kernel) ⟨Nat.le_of_ble_eq_true rfl, Nat.le_of_ble_eq_true rfl⟩) (w_pre C P.1 [.int (x4 >>> ((4 : Int32) &&& 31)), .int (40 : Int32)]) rfl rfl hl.1 rfl (lv_room (Nat.le_of_ble_eq_true rfl)) dL_law_976 (w_fit (by omega) (by omega))) P (fun r55 u54 H locs h P => ?_)
        refine lv_iadd hx hb dL_law_979 ?_
        refine lv_iload hx hb dL_law_980 (lv_at hl 3 rfl) ?_
        refine lv_iconst (v := 2) hx hb dL_law_982 (by decide) ?_
        refine lv_iand hx hb dL_law_983 ?_
        refine lv_if_ne (tgt := 991) hx hb dL_law_984 (by decide) (fun c56 => ?_) (fun c56 => ?_)
        · have h := ite_f h c56
          refine lv_iconst (v := 0) hx hb dL_law_991 (by decide) ?_
          exact t_L_law_992 C hX hbo hL ho hX70 _ _ _ _ _ u54 _ _ ⟨by omega, by omega⟩ _ _ _ P (lv_sub hl [0, 1, 2] rfl) h
        · have h := ite_t h c56
          refine lv_iconst (v := 1) hx hb dL_law_987 (by decide) ?_
          refine lv_goto (tgt := 992) hx hb dL_law_988 (by decide) ?_
          exact t_L_law_992 C hX hbo hL ho hX70 _ _ _ _ _ u54 _ _ ⟨by omega, by omega⟩ _ _ _ P (lv_sub hl [0, 1, 2] rfl) h
    · have h := ite_t h c43
      refine lv_aload_n hx hb dL_law_934 rfl (lv_at hl 1 rfl) ?_
      refine lv_iload hx hb dL_law_935 (lv_at hl 6 rfl) ?_
      refine lv_iload hx hb dL_law_937 (lv_at hl 3 rfl) ?_
      refine lv_iload hx hb dL_law_939 (lv_at hl 5 rfl) ?_
      refine w_calli (va_runS (As := [.int x4, .int x6]) (rest := [.int x8, .ref (o + 0)]) C.1 (c_L_low l D cA o _ _ u0 _ h) (va_cwS 2 C.1.2.2.2.2 gL_law_L_low rfl rfl rfl (by decide +kernel) ⟨Nat.le_of_ble_eq_true rfl, Nat.le_of_ble_eq_true rfl⟩) (w_pre C P.1 [.int x4, .int x6]) rfl rfl hl.1 rfl (lv_room (Nat.le_of_ble_eq_true rfl)) dL_law_941 (w_fit (by omega) (by omega))) P (fun r60 u59 H locs h P => ?_)
      refine w_calli (va_runS (As := [.ref (o + 0), .int x8, .int r60]) (rest := []) C.1 (c_L_diverts l D cA o _ _ u59 _ h) (va_cwS 3 C.1.2.2.2.2 gL_law_L_diverts rfl rfl rfl (by decide +kernel) ⟨Nat.le_of_ble_eq_true rfl, Nat.le_of_ble_eq_true rfl⟩) (w_pre C P.1 [.ref (o + 0), .int x8, .int r60]) rfl rfl hl.1 rfl (lv_room (Nat.le_of_ble_eq_true rfl)) dL_law_944 (w_fit (by omega) (by omega))) P (fun r62 u61 H locs h P => ?_)
      refine lv_istore (lv' := [(10, .int r62), (0, .ref b), (1, .ref (o + 0)), (2, .int x2), (4, .int x4), (5, .int x5), (6, .int x6), (8, .int x8)]) hx hb dL_law_947 hl (by decide) rfl (fun ls hl => ?_)
      refine lv_goto (tgt := 997) hx hb dL_law_949 (by decide) ?_
      exact t_L_law_997 C hX hbo hL ho hX70 _ _ u61 _ _ ⟨by omega, by omega⟩ _ _ _ P (lv_sub hl [1, 2, 3, 0] rfl) h
  · have h := ite_t h c42
    refine lv_aload_n hx hb dL_law_916 rfl (lv_at hl 1 rfl) ?_
    refine lv_iload hx hb dL_law_917 (lv_at hl 6 rfl) ?_
    refine w_calli (va_runS (As := [.ref (o + 0), .int x8]) (rest := []) C.1 (c_L_fails l D cA o _ u0 _ h) (va_cwS 2 C.1.2.2.2.2 gL_law_L_fails rfl rfl rfl (by decide +kernel) ⟨Nat.le_of_ble_eq_true rfl, Nat.le_of_ble_eq_true rfl⟩) (w_pre C P.1 [.ref (o + 0), .int x8]) rfl rfl hl.1 rfl (lv_room (Nat.le_of_ble_eq_true rfl)) dL_law_919 (w_fit (by omega) (by omega))) P (fun r64 u63 H locs h P => ?_)
    refine lv_istore (lv' := [(10, .int r64), (0, .ref b), (1, .ref (o + 0)), (2, .int x2), (4, .int x4), (5, .int x5), (6, .int x6), (8, .int x8)]) hx hb dL_law_922 hl (by decide) rfl (fun ls hl => ?_)
    refine lv_goto (tgt := 997) hx hb dL_law_924 (by decide) ?_
    exact t_L_law_997 C hX hbo hL ho hX70 _ _ u63 _ _ ⟨by omega, by omega⟩ _ _ _ P (lv_sub hl [1, 2, 3, 0] rfl) h
def w_L_law_881 (L : Nat) (xs : Nat → Int32) (X70 : Int32 → Mm → Prop) (Φ : Int32 → Mm → Prop) (x2 : Int32) (z0 : Int32) (u0 : Mm) : Prop := (w_L_law_997 L xs X70 Φ x2 z0 u0)
set_option maxHeartbeats 4000000 in
set_option maxRecDepth 100000 in
theorem t_L_law_881 {p : Program} {l : Launch} {e : Env} {s : State} {m : MethodId} {below : List Frame} {meth : Method} {c : Code} {D : va_G} {cA : Nat → ClassId} {o b L : Nat} {xs : Nat → Int32} {N : Nat} {X70 : Int32 → Mm → Prop} (C : Cx p m meth c s #[Value.ref b] cL_law 15 wsL_law RL ret D (tysL cA)) (hX : va_X b L xs s s.heap) (hbo : b < o) (hL : L ≤ 260) (ho : s.heap.size = o) (hX70 : ∀ (x2 : Int32) (u0 : Mm), ∀ cells slots : Nat, cells + N ≤ 1000 ∧ slots + 6 * N ≤ 20000 → ∀ (H : Heap) (locs : List Loc) (ls : Array Slot), HpW o D cA u0 s H locs → lv_has ls 15 [(0, .ref b), (1, .ref (o + 0)), (2, .int x2)] → X70 x2 u0 → W p l e room_1 s m #[Value.ref b] below meth c H locs cells slots (lw_Z below #[Value.ref b] s) (F0 m 70 ls [])) : ∀ (x2 : Int32) (z0 : Int32) (u0 : Mm), ∀ cells slots : Nat, cells + (N + 1) ≤ 1000 ∧ slots + 6 * (N + 1) ≤ 20000 → ∀ (H : Heap) (locs : List Loc) (ls : Array Slot), HpW o D cA u0 s H locs → lv_has ls 15 [(0, .ref b), (1, .ref (o + 0)), (2, .int x2)] → w_L_law_881 L xs X70 PL x2 z0 u0 → W p l e room_1 s m #[Value.ref b] below meth c H locs cells slots (lw_Z below #[Value.ref b] s) (F0 m 881 ls [.int z0]) := by
  intro x2 z0 u0 cells slots hc H locs ls P hl h
  have hx := C.1.1
  have hb := C.1.2.1
  unfold w_L_law_881 at h
  refine lv_istore (lv' := [(10, .int z0), (0, .ref b), (1, .ref (o + 0)), (2, .int x2)]) hx hb dL_law_881 hl (by decide) rfl (fun ls hl => ?_)
  refine lv_goto (tgt := 997) hx hb dL_law_883 (by decide) ?_
  exact t_L_law_997 C hX hbo hL ho hX70 _ _ u0 _ _ ⟨by omega, by omega⟩ _ _ _ P (lv_sub hl [1, 2, 3, 0] rfl) h
def w_L_law_880 (L : Nat) (xs : Nat → Int32) (X70 : Int32 → Mm → Prop) (Φ : Int32 → Mm → Prop) (x2 : Int32) (u0 : Mm) : Prop := (w_L_law_881 L xs X70 Φ x2 ((0 : Int32)) u0)
set_option maxHeartbeats 4000000 in
set_option maxRecDepth 100000 in
theorem t_L_law_880 {p : Program} {l : Launch} {e : Env} {s : State} {m : MethodId} {below : List Frame} {meth : Method} {c : Code} {D : va_G} {cA : Nat → ClassId} {o b L : Nat} {xs : Nat → Int32} {N : Nat} {X70 : Int32 → Mm → Prop} (C : Cx p m meth c s #[Value.ref b] cL_law 15 wsL_law RL ret D (tysL cA)) (hX : va_X b L xs s s.heap) (hbo : b < o) (hL : L ≤ 260) (ho : s.heap.size = o) (hX70 : ∀ (x2 : Int32) (u0 : Mm), ∀ cells slots : Nat, cells + N ≤ 1000 ∧ slots + 6 * N ≤ 20000 → ∀ (H : Heap) (locs : List Loc) (ls : Array Slot), HpW o D cA u0 s H locs → lv_has ls 15 [(0, .ref b), (1, .ref (o + 0)), (2, .int x2)] → X70 x2 u0 → W p l e room_1 s m #[Value.ref b] below meth c H locs cells slots (lw_Z below #[Value.ref b] s) (F0 m 70 ls [])) : ∀ (x2 : Int32) (u0 : Mm), ∀ cells slots : Nat, cells + (N + 1) ≤ 1000 ∧ slots + 6 * (N + 1) ≤ 20000 → ∀ (H : Heap) (locs : List Loc) (ls : Array Slot), HpW o D cA u0 s H locs → lv_has ls 15 [(0, .ref b), (1, .ref (o + 0)), (2, .int x2)] → w_L_law_880 L xs X70 PL x2 u0 → W p l e room_1 s m #[Value.ref b] below meth c H locs cells slots (lw_Z below #[Value.ref b] s) (F0 m 880 ls []) := by
  intro x2 u0 cells slots hc H locs ls P hl h
  have hx := C.1.1
  have hb := C.1.2.1
  unfold w_L_law_880 at h
  refine lv_iconst (v := 0) hx hb dL_law_880 (by decide) ?_
  exact t_L_law_881 C hX hbo hL ho hX70 _ _ u0 _ _ ⟨by omega, by omega⟩ _ _ _ P (lv_sub hl [0, 1, 2] rfl) h
def w_L_law_876 (L : Nat) (xs : Nat → Int32) (X70 : Int32 → Mm → Prop) (Φ : Int32 → Mm → Prop) (x2 : Int32) (u0 : Mm) : Prop := (w_L_law_881 L xs X70 Φ x2 ((1 : Int32)) u0)
set_option maxHeartbeats 4000000 in
set_option maxRecDepth 100000 in
theorem t_L_law_876 {p : Program} {l : Launch} {e : Env} {s : State} {m : MethodId} {below : List Frame} {meth : Method} {c : Code} {D : va_G} {cA : Nat → ClassId} {o b L : Nat} {xs : Nat → Int32} {N : Nat} {X70 : Int32 → Mm → Prop} (C : Cx p m meth c s #[Value.ref b] cL_law 15 wsL_law RL ret D (tysL cA)) (hX : va_X b L xs s s.heap) (hbo : b < o) (hL : L ≤ 260) (ho : s.heap.size = o) (hX70 : ∀ (x2 : Int32) (u0 : Mm), ∀ cells slots : Nat, cells + N ≤ 1000 ∧ slots + 6 * N ≤ 20000 → ∀ (H : Heap) (locs : List Loc) (ls : Array Slot), HpW o D cA u0 s H locs → lv_has ls 15 [(0, .ref b), (1, .ref (o + 0)), (2, .int x2)] → X70 x2 u0 → W p l e room_1 s m #[Value.ref b] below meth c H locs cells slots (lw_Z below #[Value.ref b] s) (F0 m 70 ls [])) : ∀ (x2 : Int32) (u0 : Mm), ∀ cells slots : Nat, cells + (N + 1) ≤ 1000 ∧ slots + 6 * (N + 1) ≤ 20000 → ∀ (H : Heap) (locs : List Loc) (ls : Array Slot), HpW o D cA u0 s H locs → lv_has ls 15 [(0, .ref b), (1, .ref (o + 0)), (2, .int x2)] → w_L_law_876 L xs X70 PL x2 u0 → W p l e room_1 s m #[Value.ref b] below meth c H locs cells slots (lw_Z below #[Value.ref b] s) (F0 m 876 ls []) := by
  intro x2 u0 cells slots hc H locs ls P hl h
  have hx := C.1.1
  have hb := C.1.2.1
  unfold w_L_law_876 at h
  refine lv_iconst (v := 1) hx hb dL_law_876 (by decide) ?_
  refine lv_goto (tgt := 881) hx hb dL_law_877 (by decide) ?_
  exact t_L_law_881 C hX hbo hL ho hX70 _ _ u0 _ _ ⟨by omega, by omega⟩ _ _ _ P (lv_sub hl [0, 1, 2] rfl) h
def w_L_law_857 (L : Nat) (xs : Nat → Int32) (X70 : Int32 → Mm → Prop) (Φ : Int32 → Mm → Prop) (x2 : Int32) (x10 : Int32) (x11 : Int32) (x12 : Int32) (u0 : Mm) : Prop := (if x10 = 0 then (w_L_law_880 L xs X70 Φ x2 u0) else (if x11 = 0 then (w_X9_pass x12 u0 (fun r75 u74 => (if r75 < 0 then (w_L_law_880 L xs X70 Φ x2 u74) else (w_L_law_876 L xs X70 Φ x2 u74)))) else (w_L_law_876 L xs X70 Φ x2 u0)))
set_option maxHeartbeats 4000000 in
set_option maxRecDepth 100000 in
theorem t_L_law_857 {p : Program} {l : Launch} {e : Env} {s : State} {m : MethodId} {below : List Frame} {meth : Method} {c : Code} {D : va_G} {cA : Nat → ClassId} {o b L : Nat} {xs : Nat → Int32} {N : Nat} {X70 : Int32 → Mm → Prop} (C : Cx p m meth c s #[Value.ref b] cL_law 15 wsL_law RL ret D (tysL cA)) (hX : va_X b L xs s s.heap) (hbo : b < o) (hL : L ≤ 260) (ho : s.heap.size = o) (hX70 : ∀ (x2 : Int32) (u0 : Mm), ∀ cells slots : Nat, cells + N ≤ 1000 ∧ slots + 6 * N ≤ 20000 → ∀ (H : Heap) (locs : List Loc) (ls : Array Slot), HpW o D cA u0 s H locs → lv_has ls 15 [(0, .ref b), (1, .ref (o + 0)), (2, .int x2)] → X70 x2 u0 → W p l e room_1 s m #[Value.ref b] below meth c H locs cells slots (lw_Z below #[Value.ref b] s) (F0 m 70 ls [])) : ∀ (x2 : Int32) (x10 : Int32) (x11 : Int32) (x12 : Int32) (u0 : Mm), ∀ cells slots : Nat, cells + (N + 1) ≤ 1000 ∧ slots + 6 * (N + 1) ≤ 20000 → ∀ (H : Heap) (locs : List Loc) (ls : Array Slot), HpW o D cA u0 s H locs → lv_has ls 15 [(0, .ref b), (1, .ref (o + 0)), (2, .int x2), (10, .int x10), (11, .int x11), (12, .int x12)] → w_L_law_857 L xs X70 PL x2 x10 x11 x12 u0 → W p l e room_1 s m #[Value.ref b] below meth c H locs cells slots (lw_Z below #[Value.ref b] s) (F0 m 857 ls []) := by
  intro x2 x10 x11 x12 u0 cells slots hc H locs ls P hl h
  have hx := C.1.1
  have hb := C.1.2.1
  unfold w_L_law_857 at h
  refine lv_iload hx hb dL_law_857 (lv_at hl 3 rfl) ?_
  refine lv_if_eq (tgt := 880) hx hb dL_law_859 (by decide) (fun c72 => ?_) (fun c72 => ?_)
  · have h := ite_t h c72
    exact t_L_law_880 C hX hbo hL ho hX70 _ u0 _ _ ⟨by omega, by omega⟩ _ _ _ P (lv_sub hl [0, 1, 2] rfl) h
  · have h := ite_f h c72
    refine lv_iload hx hb dL_law_862 (lv_at hl 4 rfl) ?_
    refine lv_if_ne (tgt := 876) hx hb dL_law_864 (by decide) (fun c73 => ?_) (fun c73 => ?_)
    · have h := ite_f h c73
      exact t_L_law_876 C hX hbo hL ho hX70 _ u0 _ _ ⟨by omega, by omega⟩ _ _ _ P (lv_sub hl [0, 1, 2] rfl) h
    · have h := ite_t h c73
      refine lv_aload_n hx hb dL_law_867 rfl (lv_at hl 1 rfl) ?_
      refine lv_iload hx hb dL_law_868 (lv_at hl 5 rfl) ?_
      refine w_calli (va_runV (As := [.int x12]) (rest := []) C.1 (c_X9_pass l D cA o _ u0 _ h) (cwV 1 C.1.2.2.2.2 gL_law_X9_pass rfl rfl rfl (by decide +kernel) ⟨Nat.le_of_ble_eq_true rfl, Nat.le_of_ble_eq_true rfl⟩) (w_preV C P.1 [.int x12] (ci := 9) rfl (kd_lt kd_at_0 (by decide)) (EK_9 kd_at_0)) rfl rfl hl.1 rfl (lv_room (Nat.le_of_ble_eq_true rfl)) dL_law_870 (w_fit (by omega) (by omega))) P (fun r75 u74 H locs h P => ?_)
      refine lv_if_lt (tgt := 880) hx hb dL_law_873 (by decide) (fun c76 => ?_) (fun c76 => ?_)
      · have h := ite_t h c76
        exact t_L_law_880 C hX hbo hL ho hX70 _ u74 _ _ ⟨by omega, by omega⟩ _ _ _ P (lv_sub hl [0, 1, 2] rfl) h
      · have h := ite_f h c76
        exact t_L_law_876 C hX hbo hL ho hX70 _ u74 _ _ ⟨by omega, by omega⟩ _ _ _ P (lv_sub hl [0, 1, 2] rfl) h
def w_L_law_818 (L : Nat) (xs : Nat → Int32) (X70 : Int32 → Mm → Prop) (Φ : Int32 → Mm → Prop) : Nat → Int32 → Int32 → Int32 → Int32 → Int32 → Int32 → Mm → Prop
  | 0, _, _, _, _, _, _, _ => False
  | n + 1, x2, x8, x10, x11, x12, x13, u0 => (if x12 ≤ x13 then (w_L_law_857 L xs X70 Φ x2 x10 x11 x12 u0) else (if x11 = 0 then (w_L_law_857 L xs X70 Φ x2 x10 x11 x12 u0) else (if x10 = 0 then (w_L_law_818 L xs X70 Φ n x2 x8 ((0 : Int32)) x11 x12 ((x13 + 1)) u0) else (w_L_tick x8 u0 (fun r80 u79 => (if r80 = 0 then (w_L_law_818 L xs X70 Φ n x2 x8 ((0 : Int32)) x11 x12 ((x13 + 1)) u79) else (w_L_law_818 L xs X70 Φ n x2 x8 ((1 : Int32)) x11 x12 ((x13 + 1)) u79)))))))
set_option maxHeartbeats 4000000 in
set_option maxRecDepth 100000 in
theorem t_L_law_818 {p : Program} {l : Launch} {e : Env} {s : State} {m : MethodId} {below : List Frame} {meth : Method} {c : Code} {D : va_G} {cA : Nat → ClassId} {o b L : Nat} {xs : Nat → Int32} {N : Nat} {X70 : Int32 → Mm → Prop} (C : Cx p m meth c s #[Value.ref b] cL_law 15 wsL_law RL ret D (tysL cA)) (hX : va_X b L xs s s.heap) (hbo : b < o) (hL : L ≤ 260) (ho : s.heap.size = o) (hX70 : ∀ (x2 : Int32) (u0 : Mm), ∀ cells slots : Nat, cells + N ≤ 1000 ∧ slots + 6 * N ≤ 20000 → ∀ (H : Heap) (locs : List Loc) (ls : Array Slot), HpW o D cA u0 s H locs → lv_has ls 15 [(0, .ref b), (1, .ref (o + 0)), (2, .int x2)] → X70 x2 u0 → W p l e room_1 s m #[Value.ref b] below meth c H locs cells slots (lw_Z below #[Value.ref b] s) (F0 m 70 ls [])) : ∀ n : Nat, ∀ (x2 : Int32) (x8 : Int32) (x10 : Int32) (x11 : Int32) (x12 : Int32) (x13 : Int32) (u0 : Mm), ∀ cells slots : Nat, cells + (N + 1) ≤ 1000 ∧ slots + 6 * (N + 1) ≤ 20000 → ∀ (H : Heap) (locs : List Loc) (ls : Array Slot), HpW o D cA u0 s H locs → lv_has ls 15 [(0, .ref b), (1, .ref (o + 0)), (2, .int x2), (8, .int x8), (10, .int x10), (11, .int x11), (12, .int x12), (13, .int x13)] → w_L_law_818 L xs X70 PL n x2 x8 x10 x11 x12 x13 u0 → W p l e room_1 s m #[Value.ref b] below meth c H locs cells slots (lw_Z below #[Value.ref b] s) (F0 m 818 ls []) := by
  intro n
  induction n with
  | zero => intro x2 x8 x10 x11 x12 x13 u0 cells slots hc H locs ls P hl h; exact h.elim
  | succ n ih =>
    intro x2 x8 x10 x11 x12 x13 u0 cells slots hc H locs ls P hl h
    have hx := C.1.1
    have hb := C.1.2.1
    rw [w_L_law_818] at h
    refine lv_iload hx hb dL_law_818 (lv_at hl 7 rfl) ?_
    refine lv_iload hx hb dL_law_820 (lv_at hl 6 rfl) ?_
    refine lv_icmp_ge (tgt := 857) hx hb dL_law_822 (by decide) (fun c71 => ?_) (fun c71 => ?_)
    · have h := ite_t h c71
      exact t_L_law_857 C hX hbo hL ho hX70 _ _ _ _ u0 _ _ ⟨by omega, by omega⟩ _ _ _ P (lv_sub hl [0, 1, 2, 4, 5, 6] rfl) h
    · have h := ite_f h c71
      refine lv_iload hx hb dL_law_825 (lv_at hl 5 rfl) ?_
      refine lv_if_eq (tgt := 857) hx hb dL_law_827 (by decide) (fun c77 => ?_) (fun c77 => ?_)
      · have h := ite_t h c77
        exact t_L_law_857 C hX hbo hL ho hX70 _ _ _ _ u0 _ _ ⟨by omega, by omega⟩ _ _ _ P (lv_sub hl [0, 1, 2, 4, 5, 6] rfl) h
      · have h := ite_f h c77
        refine lv_iload hx hb dL_law_830 (lv_at hl 4 rfl) ?_
        refine lv_if_eq (tgt := 848) hx hb dL_law_832 (by decide) (fun c78 => ?_) (fun c78 => ?_)
        · have h := ite_t h c78
          refine lv_iconst (v := 0) hx hb dL_law_848 (by decide) ?_
          refine lv_istore (lv' := [(10, .int (0 : Int32)), (0, .ref b), (1, .ref (o + 0)), (2, .int x2), (8, .int x8), (11, .int x11), (12, .int x12), (13, .int x13)]) hx hb dL_law_849 hl (by decide) rfl (fun ls hl => ?_)
          refine lv_iinc (v := (x13 + 1)) (lv' := [(13, .int (x13 + 1)), (10, .int (0 : Int32)), (0, .ref b), (1, .ref (o + 0)), (2, .int x2), (8, .int x8), (11, .int x11), (12, .int x12)]) hx hb dL_law_851 hl (k := 7) rfl rfl (by decide) rfl (fun ls hl => ?_)
          refine lv_goto (tgt := 818) hx hb dL_law_854 (by decide) ?_
          exact ih _ _ _ _ _ _ u0 _ _ ⟨by omega, by omega⟩ _ _ _ P (lv_sub hl [2, 3, 4, 5, 1, 6, 7, 0] rfl) h
        · have h := ite_f h c78
          refine lv_aload_n hx hb dL_law_835 rfl (lv_at hl 1 rfl) ?_
          refine lv_iload hx hb dL_law_836 (lv_at hl 3 rfl) ?_
          refine w_calli (va_runS (As := [.ref (o + 0), .int x8]) (rest := []) C.1 (c_L_tick l D cA o _ u0 _ h) (va_cwS 2 C.1.2.2.2.2 gL_law_L_tick rfl rfl rfl (by decide +kernel) ⟨Nat.le_of_ble_eq_true rfl, Nat.le_of_ble_eq_true rfl⟩) (w_pre C P.1 [.ref (o + 0), .int x8]) rfl rfl hl.1 rfl (lv_room (Nat.le_of_ble_eq_true rfl)) dL_law_838 (w_fit (by omega) (by omega))) P (fun r80 u79 H locs h P => ?_)
          refine lv_if_eq (tgt := 848) hx hb dL_law_841 (by decide) (fun c81 => ?_) (fun c81 => ?_)
          · have h := ite_t h c81
            refine lv_iconst (v := 0) hx hb dL_law_848 (by decide) ?_
            refine lv_istore (lv' := [(10, .int (0 : Int32)), (0, .ref b), (1, .ref (o + 0)), (2, .int x2), (8, .int x8), (11, .int x11), (12, .int x12), (13, .int x13)]) hx hb dL_law_849 hl (by decide) rfl (fun ls hl => ?_)
            refine lv_iinc (v := (x13 + 1)) (lv' := [(13, .int (x13 + 1)), (10, .int (0 : Int32)), (0, .ref b), (1, .ref (o + 0)), (2, .int x2), (8, .int x8), (11, .int x11), (12, .int x12)]) hx hb dL_law_851 hl (k := 7) rfl rfl (by decide) rfl (fun ls hl => ?_)
            refine lv_goto (tgt := 818) hx hb dL_law_854 (by decide) ?_
            exact ih _ _ _ _ _ _ u79 _ _ ⟨by omega, by omega⟩ _ _ _ P (lv_sub hl [2, 3, 4, 5, 1, 6, 7, 0] rfl) h
          · have h := ite_f h c81
            refine lv_iconst (v := 1) hx hb dL_law_844 (by decide) ?_
            refine lv_goto (tgt := 849) hx hb dL_law_845 (by decide) ?_
            refine lv_istore (lv' := [(10, .int (1 : Int32)), (0, .ref b), (1, .ref (o + 0)), (2, .int x2), (8, .int x8), (11, .int x11), (12, .int x12), (13, .int x13)]) hx hb dL_law_849 hl (by decide) rfl (fun ls hl => ?_)
            refine lv_iinc (v := (x13 + 1)) (lv' := [(13, .int (x13 + 1)), (10, .int (1 : Int32)), (0, .ref b), (1, .ref (o + 0)), (2, .int x2), (8, .int x8), (11, .int x11), (12, .int x12)]) hx hb dL_law_851 hl (k := 7) rfl rfl (by decide) rfl (fun ls hl => ?_)
            refine lv_goto (tgt := 818) hx hb dL_law_854 (by decide) ?_
            exact ih _ _ _ _ _ _ u79 _ _ ⟨by omega, by omega⟩ _ _ _ P (lv_sub hl [2, 3, 4, 5, 1, 6, 7, 0] rfl) h
def w_L_law_761 (L : Nat) (xs : Nat → Int32) (X70 : Int32 → Mm → Prop) (Φ : Int32 → Mm → Prop) : Nat → Int32 → Int32 → Int32 → Int32 → Int32 → Int32 → Int32 → Mm → Prop
  | 0, _, _, _, _, _, _, _, _ => False
  | n + 1, x2, x4, x6, x8, x10, x11, x12, u0 => (if x6 ≤ x12 then (w_L_low x4 ((9 : Int32)) u0 (fun r70 u69 => (∃ n818 : Nat, w_L_law_818 L xs X70 Φ n818 x2 x8 x10 x11 (((1 : Int32) + r70)) ((0 : Int32)) u69))) else (if x11 = 0 then (w_L_law_761 L xs X70 Φ n x2 x4 x6 x8 x10 ((0 : Int32)) ((x12 + 1)) u0) else (if x12 = x8 then (w_L_law_761 L xs X70 Φ n x2 x4 x6 x8 x10 ((1 : Int32)) ((x12 + 1)) u0) else (w_X9_gate x12 ((1 : Int32)) u0 (fun r85 u84 => (if r85 = (5 : Int32) then (w_L_law_761 L xs X70 Φ n x2 x4 x6 x8 x10 ((1 : Int32)) ((x12 + 1)) u84) else (w_L_law_761 L xs X70 Φ n x2 x4 x6 x8 x10 ((0 : Int32)) ((x12 + 1)) u84)))))))
set_option maxHeartbeats 4000000 in
set_option maxRecDepth 100000 in
theorem t_L_law_761 {p : Program} {l : Launch} {e : Env} {s : State} {m : MethodId} {below : List Frame} {meth : Method} {c : Code} {D : va_G} {cA : Nat → ClassId} {o b L : Nat} {xs : Nat → Int32} {N : Nat} {X70 : Int32 → Mm → Prop} (C : Cx p m meth c s #[Value.ref b] cL_law 15 wsL_law RL ret D (tysL cA)) (hX : va_X b L xs s s.heap) (hbo : b < o) (hL : L ≤ 260) (ho : s.heap.size = o) (hX70 : ∀ (x2 : Int32) (u0 : Mm), ∀ cells slots : Nat, cells + N ≤ 1000 ∧ slots + 6 * N ≤ 20000 → ∀ (H : Heap) (locs : List Loc) (ls : Array Slot), HpW o D cA u0 s H locs → lv_has ls 15 [(0, .ref b), (1, .ref (o + 0)), (2, .int x2)] → X70 x2 u0 → W p l e room_1 s m #[Value.ref b] below meth c H locs cells slots (lw_Z below #[Value.ref b] s) (F0 m 70 ls [])) : ∀ n : Nat, ∀ (x2 : Int32) (x4 : Int32) (x6 : Int32) (x8 : Int32) (x10 : Int32) (x11 : Int32) (x12 : Int32) (u0 : Mm), ∀ cells slots : Nat, cells + (N + 1) ≤ 1000 ∧ slots + 6 * (N + 1) ≤ 20000 → ∀ (H : Heap) (locs : List Loc) (ls : Array Slot), HpW o D cA u0 s H locs → lv_has ls 15 [(0, .ref b), (1, .ref (o + 0)), (2, .int x2), (4, .int x4), (6, .int x6), (8, .int x8), (10, .int x10), (11, .int x11), (12, .int x12)] → w_L_law_761 L xs X70 PL n x2 x4 x6 x8 x10 x11 x12 u0 → W p l e room_1 s m #[Value.ref b] below meth c H locs cells slots (lw_Z below #[Value.ref b] s) (F0 m 761 ls []) := by
  intro n
  induction n with
  | zero => intro x2 x4 x6 x8 x10 x11 x12 u0 cells slots hc H locs ls P hl h; exact h.elim
  | succ n ih =>
    intro x2 x4 x6 x8 x10 x11 x12 u0 cells slots hc H locs ls P hl h
    have hx := C.1.1
    have hb := C.1.2.1
    rw [w_L_law_761] at h
    refine lv_iload hx hb dL_law_761 (lv_at hl 8 rfl) ?_
    refine lv_iload hx hb dL_law_763 (lv_at hl 4 rfl) ?_
    refine lv_icmp_ge (tgt := 804) hx hb dL_law_765 (by decide) (fun c68 => ?_) (fun c68 => ?_)
    · have h := ite_t h c68
      refine lv_iconst (v := 1) hx hb dL_law_804 (by decide) ?_
      refine lv_iload hx hb dL_law_805 (lv_at hl 3 rfl) ?_
      refine lv_bipush (v := 9) hx hb dL_law_807 (by decide) ?_
      refine w_calli (va_runS (As := [.int x4, .int (9 : Int32)]) (rest := [.int (1 : Int32)]) C.1 (c_L_low l D cA o _ _ u0 _ h) (va_cwS 2 C.1.2.2.2.2 gL_law_L_low rfl rfl rfl (by decide +kernel) ⟨Nat.le_of_ble_eq_true rfl, Nat.le_of_ble_eq_true rfl⟩) (w_pre C P.1 [.int x4, .int (9 : Int32)]) rfl rfl hl.1 rfl (lv_room (Nat.le_of_ble_eq_true rfl)) dL_law_809 (w_fit (by omega) (by omega))) P (fun r70 u69 H locs h P => ?_)
      refine lv_iadd hx hb dL_law_812 ?_
      refine lv_istore (lv' := [(12, .int ((1 : Int32) + r70)), (0, .ref b), (1, .ref (o + 0)), (2, .int x2), (4, .int x4), (6, .int x6), (8, .int x8), (10, .int x10), (11, .int x11)]) hx hb dL_law_813 hl (by decide) rfl (fun ls hl => ?_)
      refine lv_iconst (v := 0) hx hb dL_law_815 (by decide) ?_
      refine lv_istore (lv' := [(13, .int (0 : Int32)), (12, .int ((1 : Int32) + r70)), (0, .ref b), (1, .ref (o + 0)), (2, .int x2), (4, .int x4), (6, .int x6), (8, .int x8), (10, .int x10), (11, .int x11)]) hx hb dL_law_816 hl (by decide) rfl (fun ls hl => ?_)
      obtain ⟨n818, h⟩ := h
      exact t_L_law_818 C hX hbo hL ho hX70 n818 _ _ _ _ _ _ u69 _ _ ⟨by omega, by omega⟩ _ _ _ P (lv_sub hl [2, 3, 4, 7, 8, 9, 1, 0] rfl) h
    · have h := ite_f h c68
      refine lv_iload hx hb dL_law_768 (lv_at hl 7 rfl) ?_
      refine lv_if_eq (tgt := 795) hx hb dL_law_770 (by decide) (fun c82 => ?_) (fun c82 => ?_)
      · have h := ite_t h c82
        refine lv_iconst (v := 0) hx hb dL_law_795 (by decide) ?_
        refine lv_istore (lv' := [(11, .int (0 : Int32)), (0, .ref b), (1, .ref (o + 0)), (2, .int x2), (4, .int x4), (6, .int x6), (8, .int x8), (10, .int x10), (12, .int x12)]) hx hb dL_law_796 hl (by decide) rfl (fun ls hl => ?_)
        refine lv_iinc (v := (x12 + 1)) (lv' := [(12, .int (x12 + 1)), (11, .int (0 : Int32)), (0, .ref b), (1, .ref (o + 0)), (2, .int x2), (4, .int x4), (6, .int x6), (8, .int x8), (10, .int x10)]) hx hb dL_law_798 hl (k := 8) rfl rfl (by decide) rfl (fun ls hl => ?_)
        refine lv_goto (tgt := 761) hx hb dL_law_801 (by decide) ?_
        exact ih _ _ _ _ _ _ _ u0 _ _ ⟨by omega, by omega⟩ _ _ _ P (lv_sub hl [2, 3, 4, 5, 6, 7, 8, 1, 0] rfl) h
      · have h := ite_f h c82
        refine lv_iload hx hb dL_law_773 (lv_at hl 8 rfl) ?_
        refine lv_iload hx hb dL_law_775 (lv_at hl 5 rfl) ?_
        refine lv_icmp_eq (tgt := 791) hx hb dL_law_777 (by decide) (fun c83 => ?_) (fun c83 => ?_)
        · have h := ite_t h c83
          refine lv_iconst (v := 1) hx hb dL_law_791 (by decide) ?_
          refine lv_goto (tgt := 796) hx hb dL_law_792 (by decide) ?_
          refine lv_istore (lv' := [(11, .int (1 : Int32)), (0, .ref b), (1, .ref (o + 0)), (2, .int x2), (4, .int x4), (6, .int x6), (8, .int x8), (10, .int x10), (12, .int x12)]) hx hb dL_law_796 hl (by decide) rfl (fun ls hl => ?_)
          refine lv_iinc (v := (x12 + 1)) (lv' := [(12, .int (x12 + 1)), (11, .int (1 : Int32)), (0, .ref b), (1, .ref (o + 0)), (2, .int x2), (4, .int x4), (6, .int x6), (8, .int x8), (10, .int x10)]) hx hb dL_law_798 hl (k := 8) rfl rfl (by decide) rfl (fun ls hl => ?_)
          refine lv_goto (tgt := 761) hx hb dL_law_801 (by decide) ?_
          exact ih _ _ _ _ _ _ _ u0 _ _ ⟨by omega, by omega⟩ _ _ _ P (lv_sub hl [2, 3, 4, 5, 6, 7, 8, 1, 0] rfl) h
        · have h := ite_f h c83
          refine lv_aload_n hx hb dL_law_780 rfl (lv_at hl 1 rfl) ?_
          refine lv_iload hx hb dL_law_781 (lv_at hl 8 rfl) ?_
          refine lv_iconst (v := 1) hx hb dL_law_783 (by decide) ?_
          refine w_calli (va_runV (As := [.int x12, .int (1 : Int32)]) (rest := []) C.1 (c_X9_gate l D cA o _ _ u0 _ h) (cwV 2 C.1.2.2.2.2 gL_law_X9_gate rfl rfl rfl (by decide +kernel) ⟨Nat.le_of_ble_eq_true rfl, Nat.le_of_ble_eq_true rfl⟩) (w_preV C P.1 [.int x12, .int (1 : Int32)] (ci := 9) rfl (kd_lt kd_at_0 (by decide)) (EK_9 kd_at_0)) rfl rfl hl.1 rfl (lv_room (Nat.le_of_ble_eq_true rfl)) dL_law_784 (w_fit (by omega) (by omega))) P (fun r85 u84 H locs h P => ?_)
          refine lv_iconst (v := 5) hx hb dL_law_787 (by decide) ?_
          refine lv_icmp_ne (tgt := 795) hx hb dL_law_788 (by decide) (fun c86 => ?_) (fun c86 => ?_)
          · have h := ite_f h c86
            refine lv_iconst (v := 0) hx hb dL_law_795 (by decide) ?_
            refine lv_istore (lv' := [(11, .int (0 : Int32)), (0, .ref b), (1, .ref (o + 0)), (2, .int x2), (4, .int x4), (6, .int x6), (8, .int x8), (10, .int x10), (12, .int x12)]) hx hb dL_law_796 hl (by decide) rfl (fun ls hl => ?_)
            refine lv_iinc (v := (x12 + 1)) (lv' := [(12, .int (x12 + 1)), (11, .int (0 : Int32)), (0, .ref b), (1, .ref (o + 0)), (2, .int x2), (4, .int x4), (6, .int x6), (8, .int x8), (10, .int x10)]) hx hb dL_law_798 hl (k := 8) rfl rfl (by decide) rfl (fun ls hl => ?_)
            refine lv_goto (tgt := 761) hx hb dL_law_801 (by decide) ?_
            exact ih _ _ _ _ _ _ _ u84 _ _ ⟨by omega, by omega⟩ _ _ _ P (lv_sub hl [2, 3, 4, 5, 6, 7, 8, 1, 0] rfl) h
          · have h := ite_t h c86
            refine lv_iconst (v := 1) hx hb dL_law_791 (by decide) ?_
            refine lv_goto (tgt := 796) hx hb dL_law_792 (by decide) ?_
            refine lv_istore (lv' := [(11, .int (1 : Int32)), (0, .ref b), (1, .ref (o + 0)), (2, .int x2), (4, .int x4), (6, .int x6), (8, .int x8), (10, .int x10), (12, .int x12)]) hx hb dL_law_796 hl (by decide) rfl (fun ls hl => ?_)
            refine lv_iinc (v := (x12 + 1)) (lv' := [(12, .int (x12 + 1)), (11, .int (1 : Int32)), (0, .ref b), (1, .ref (o + 0)), (2, .int x2), (4, .int x4), (6, .int x6), (8, .int x8), (10, .int x10)]) hx hb dL_law_798 hl (k := 8) rfl rfl (by decide) rfl (fun ls hl => ?_)
            refine lv_goto (tgt := 761) hx hb dL_law_801 (by decide) ?_
            exact ih _ _ _ _ _ _ _ u84 _ _ ⟨by omega, by omega⟩ _ _ _ P (lv_sub hl [2, 3, 4, 5, 6, 7, 8, 1, 0] rfl) h
def w_L_law_743 (L : Nat) (xs : Nat → Int32) (X70 : Int32 → Mm → Prop) (Φ : Int32 → Mm → Prop) (x2 : Int32) (z0 : Int32) (u0 : Mm) : Prop := (w_L_law_997 L xs X70 Φ x2 z0 u0)
set_option maxHeartbeats 4000000 in
set_option maxRecDepth 100000 in
theorem t_L_law_743 {p : Program} {l : Launch} {e : Env} {s : State} {m : MethodId} {below : List Frame} {meth : Method} {c : Code} {D : va_G} {cA : Nat → ClassId} {o b L : Nat} {xs : Nat → Int32} {N : Nat} {X70 : Int32 → Mm → Prop} (C : Cx p m meth c s #[Value.ref b] cL_law 15 wsL_law RL ret D (tysL cA)) (hX : va_X b L xs s s.heap) (hbo : b < o) (hL : L ≤ 260) (ho : s.heap.size = o) (hX70 : ∀ (x2 : Int32) (u0 : Mm), ∀ cells slots : Nat, cells + N ≤ 1000 ∧ slots + 6 * N ≤ 20000 → ∀ (H : Heap) (locs : List Loc) (ls : Array Slot), HpW o D cA u0 s H locs → lv_has ls 15 [(0, .ref b), (1, .ref (o + 0)), (2, .int x2)] → X70 x2 u0 → W p l e room_1 s m #[Value.ref b] below meth c H locs cells slots (lw_Z below #[Value.ref b] s) (F0 m 70 ls [])) : ∀ (x2 : Int32) (z0 : Int32) (u0 : Mm), ∀ cells slots : Nat, cells + (N + 1) ≤ 1000 ∧ slots + 6 * (N + 1) ≤ 20000 → ∀ (H : Heap) (locs : List Loc) (ls : Array Slot), HpW o D cA u0 s H locs → lv_has ls 15 [(0, .ref b), (1, .ref (o + 0)), (2, .int x2)] → w_L_law_743 L xs X70 PL x2 z0 u0 → W p l e room_1 s m #[Value.ref b] below meth c H locs cells slots (lw_Z below #[Value.ref b] s) (F0 m 743 ls [.int z0]) := by
  intro x2 z0 u0 cells slots hc H locs ls P hl h
  have hx := C.1.1
  have hb := C.1.2.1
  unfold w_L_law_743 at h
  refine lv_istore (lv' := [(10, .int z0), (0, .ref b), (1, .ref (o + 0)), (2, .int x2)]) hx hb dL_law_743 hl (by decide) rfl (fun ls hl => ?_)
  refine lv_goto (tgt := 997) hx hb dL_law_745 (by decide) ?_
  exact t_L_law_997 C hX hbo hL ho hX70 _ _ u0 _ _ ⟨by omega, by omega⟩ _ _ _ P (lv_sub hl [1, 2, 3, 0] rfl) h
def w_L_law_735 (L : Nat) (xs : Nat → Int32) (X70 : Int32 → Mm → Prop) (Φ : Int32 → Mm → Prop) (x2 : Int32) (z0 : Int32) (z1 : Int32) (u0 : Mm) : Prop := (if z1 = z0 then (w_L_law_743 L xs X70 Φ x2 ((1 : Int32)) u0) else (w_L_law_743 L xs X70 Φ x2 ((0 : Int32)) u0))
set_option maxHeartbeats 4000000 in
set_option maxRecDepth 100000 in
theorem t_L_law_735 {p : Program} {l : Launch} {e : Env} {s : State} {m : MethodId} {below : List Frame} {meth : Method} {c : Code} {D : va_G} {cA : Nat → ClassId} {o b L : Nat} {xs : Nat → Int32} {N : Nat} {X70 : Int32 → Mm → Prop} (C : Cx p m meth c s #[Value.ref b] cL_law 15 wsL_law RL ret D (tysL cA)) (hX : va_X b L xs s s.heap) (hbo : b < o) (hL : L ≤ 260) (ho : s.heap.size = o) (hX70 : ∀ (x2 : Int32) (u0 : Mm), ∀ cells slots : Nat, cells + N ≤ 1000 ∧ slots + 6 * N ≤ 20000 → ∀ (H : Heap) (locs : List Loc) (ls : Array Slot), HpW o D cA u0 s H locs → lv_has ls 15 [(0, .ref b), (1, .ref (o + 0)), (2, .int x2)] → X70 x2 u0 → W p l e room_1 s m #[Value.ref b] below meth c H locs cells slots (lw_Z below #[Value.ref b] s) (F0 m 70 ls [])) : ∀ (x2 : Int32) (z0 : Int32) (z1 : Int32) (u0 : Mm), ∀ cells slots : Nat, cells + (N + 1) ≤ 1000 ∧ slots + 6 * (N + 1) ≤ 20000 → ∀ (H : Heap) (locs : List Loc) (ls : Array Slot), HpW o D cA u0 s H locs → lv_has ls 15 [(0, .ref b), (1, .ref (o + 0)), (2, .int x2)] → w_L_law_735 L xs X70 PL x2 z0 z1 u0 → W p l e room_1 s m #[Value.ref b] below meth c H locs cells slots (lw_Z below #[Value.ref b] s) (F0 m 735 ls [.int z0, .int z1]) := by
  intro x2 z0 z1 u0 cells slots hc H locs ls P hl h
  have hx := C.1.1
  have hb := C.1.2.1
  unfold w_L_law_735 at h
  refine lv_icmp_ne (tgt := 742) hx hb dL_law_735 (by decide) (fun c96 => ?_) (fun c96 => ?_)
  · have h := ite_f h c96
    refine lv_iconst (v := 0) hx hb dL_law_742 (by decide) ?_
    exact t_L_law_743 C hX hbo hL ho hX70 _ _ u0 _ _ ⟨by omega, by omega⟩ _ _ _ P (lv_sub hl [0, 1, 2] rfl) h
  · have h := ite_t h c96
    refine lv_iconst (v := 1) hx hb dL_law_738 (by decide) ?_
    refine lv_goto (tgt := 743) hx hb dL_law_739 (by decide) ?_
    exact t_L_law_743 C hX hbo hL ho hX70 _ _ u0 _ _ ⟨by omega, by omega⟩ _ _ _ P (lv_sub hl [0, 1, 2] rfl) h
def w_L_law_670 (L : Nat) (xs : Nat → Int32) (X70 : Int32 → Mm → Prop) (Φ : Int32 → Mm → Prop) (x2 : Int32) (x4 : Int32) (x5 : Int32) (x6 : Int32) (x7 : Int32) (x8 : Int32) (x9 : Int32) (x10 : Int32) (u0 : Mm) : Prop := (if x5 = (9 : Int32) then (w_X9_gate x8 ((1 : Int32)) u0 (fun r88 u87 => (w_X9_gate x8 ((10 : Int32)) u87 (fun r90 u89 => (w_X9_pinch x8 u89 (fun r92 u91 => (if r88 = (5 : Int32) then (w_L_law_735 L xs X70 Φ x2 ((-4 : Int32)) r92 u91) else (if r90 = (1 : Int32) then (w_L_law_735 L xs X70 Φ x2 ((-5 : Int32)) r92 u91) else (if r88 = (3 : Int32) then (w_L_law_735 L xs X70 Φ x2 ((1 : Int32)) r92 u91) else (w_L_law_735 L xs X70 Φ x2 ((0 : Int32)) r92 u91)))))))))) else (if (13 : Int32) ≤ x5 then (if x5 = (13 : Int32) then (if x7 ≤ 0 then (w_L_law_909 L xs X70 Φ x2 x4 x5 x6 x8 x10 u0) else (w_L_ahead x9 u0 (fun r67 u66 => (w_L_law_997 L xs X70 Φ x2 r67 u66)))) else (w_L_law_909 L xs X70 Φ x2 x4 x5 x6 x8 x10 u0)) else (∃ n761 : Nat, w_L_law_761 L xs X70 Φ n761 x2 x4 x6 x8 x10 ((1 : Int32)) ((0 : Int32)) u0)))
set_option maxHeartbeats 4000000 in
set_option maxRecDepth 100000 in
theorem t_L_law_670 {p : Program} {l : Launch} {e : Env} {s : State} {m : MethodId} {below : List Frame} {meth : Method} {c : Code} {D : va_G} {cA : Nat → ClassId} {o b L : Nat} {xs : Nat → Int32} {N : Nat} {X70 : Int32 → Mm → Prop} (C : Cx p m meth c s #[Value.ref b] cL_law 15 wsL_law RL ret D (tysL cA)) (hX : va_X b L xs s s.heap) (hbo : b < o) (hL : L ≤ 260) (ho : s.heap.size = o) (hX70 : ∀ (x2 : Int32) (u0 : Mm), ∀ cells slots : Nat, cells + N ≤ 1000 ∧ slots + 6 * N ≤ 20000 → ∀ (H : Heap) (locs : List Loc) (ls : Array Slot), HpW o D cA u0 s H locs → lv_has ls 15 [(0, .ref b), (1, .ref (o + 0)), (2, .int x2)] → X70 x2 u0 → W p l e room_1 s m #[Value.ref b] below meth c H locs cells slots (lw_Z below #[Value.ref b] s) (F0 m 70 ls [])) : ∀ (x2 : Int32) (x4 : Int32) (x5 : Int32) (x6 : Int32) (x7 : Int32) (x8 : Int32) (x9 : Int32) (x10 : Int32) (u0 : Mm), ∀ cells slots : Nat, cells + (N + 1) ≤ 1000 ∧ slots + 6 * (N + 1) ≤ 20000 → ∀ (H : Heap) (locs : List Loc) (ls : Array Slot), HpW o D cA u0 s H locs → lv_has ls 15 [(0, .ref b), (1, .ref (o + 0)), (2, .int x2), (4, .int x4), (5, .int x5), (6, .int x6), (7, .int x7), (8, .int x8), (9, .int x9), (10, .int x10)] → w_L_law_670 L xs X70 PL x2 x4 x5 x6 x7 x8 x9 x10 u0 → W p l e room_1 s m #[Value.ref b] below meth c H locs cells slots (lw_Z below #[Value.ref b] s) (F0 m 670 ls []) := by
  intro x2 x4 x5 x6 x7 x8 x9 x10 u0 cells slots hc H locs ls P hl h
  have hx := C.1.1
  have hb := C.1.2.1
  unfold w_L_law_670 at h
  refine lv_iload hx hb dL_law_670 (lv_at hl 4 rfl) ?_
  refine lv_bipush (v := 9) hx hb dL_law_672 (by decide) ?_
  refine lv_icmp_ne (tgt := 748) hx hb dL_law_674 (by decide) (fun c39 => ?_) (fun c39 => ?_)
  · have h := ite_f h c39
    refine lv_iload hx hb dL_law_748 (lv_at hl 4 rfl) ?_
    refine lv_bipush (v := 13) hx hb dL_law_750 (by decide) ?_
    refine lv_icmp_ge (tgt := 886) hx hb dL_law_752 (by decide) (fun c40 => ?_) (fun c40 => ?_)
    · have h := ite_t h c40
      refine lv_iload hx hb dL_law_886 (lv_at hl 4 rfl) ?_
      refine lv_bipush (v := 13) hx hb dL_law_888 (by decide) ?_
      refine lv_icmp_ne (tgt := 909) hx hb dL_law_890 (by decide) (fun c41 => ?_) (fun c41 => ?_)
      · have h := ite_f h c41
        exact t_L_law_909 C hX hbo hL ho hX70 _ _ _ _ _ _ u0 _ _ ⟨by omega, by omega⟩ _ _ _ P (lv_sub hl [0, 1, 2, 3, 4, 5, 7, 9] rfl) h
      · have h := ite_t h c41
        refine lv_iload hx hb dL_law_893 (lv_at hl 6 rfl) ?_
        refine lv_if_le (tgt := 909) hx hb dL_law_895 (by decide) (fun c65 => ?_) (fun c65 => ?_)
        · have h := ite_t h c65
          exact t_L_law_909 C hX hbo hL ho hX70 _ _ _ _ _ _ u0 _ _ ⟨by omega, by omega⟩ _ _ _ P (lv_sub hl [0, 1, 2, 3, 4, 5, 7, 9] rfl) h
        · have h := ite_f h c65
          refine lv_aload_n hx hb dL_law_898 rfl (lv_at hl 1 rfl) ?_
          refine lv_iload hx hb dL_law_899 (lv_at hl 8 rfl) ?_
          refine w_calli (va_runS (As := [.ref (o + 0), .int x9]) (rest := []) C.1 (c_L_ahead l D cA o _ u0 _ h) (va_cwS 2 C.1.2.2.2.2 gL_law_L_ahead rfl rfl rfl (by decide +kernel) ⟨Nat.le_of_ble_eq_true rfl, Nat.le_of_ble_eq_true rfl⟩) (w_pre C P.1 [.ref (o + 0), .int x9]) rfl rfl hl.1 rfl (lv_room (Nat.le_of_ble_eq_true rfl)) dL_law_901 (w_fit (by omega) (by omega))) P (fun r67 u66 H locs h P => ?_)
          refine lv_istore (lv' := [(10, .int r67), (0, .ref b), (1, .ref (o + 0)), (2, .int x2), (4, .int x4), (5, .int x5), (6, .int x6), (7, .int x7), (8, .int x8), (9, .int x9)]) hx hb dL_law_904 hl (by decide) rfl (fun ls hl => ?_)
          refine lv_goto (tgt := 997) hx hb dL_law_906 (by decide) ?_
          exact t_L_law_997 C hX hbo hL ho hX70 _ _ u66 _ _ ⟨by omega, by omega⟩ _ _ _ P (lv_sub hl [1, 2, 3, 0] rfl) h
    · have h := ite_f h c40
      refine lv_iconst (v := 1) hx hb dL_law_755 (by decide) ?_
      refine lv_istore (lv' := [(11, .int (1 : Int32)), (0, .ref b), (1, .ref (o + 0)), (2, .int x2), (4, .int x4), (5, .int x5), (6, .int x6), (7, .int x7), (8, .int x8), (9, .int x9), (10, .int x10)]) hx hb dL_law_756 hl (by decide) rfl (fun ls hl => ?_)
      refine lv_iconst (v := 0) hx hb dL_law_758 (by decide) ?_
      refine lv_istore (lv' := [(12, .int (0 : Int32)), (11, .int (1 : Int32)), (0, .ref b), (1, .ref (o + 0)), (2, .int x2), (4, .int x4), (5, .int x5), (6, .int x6), (7, .int x7), (8, .int x8), (9, .int x9), (10, .int x10)]) hx hb dL_law_759 hl (by decide) rfl (fun ls hl => ?_)
      obtain ⟨n761, h⟩ := h
      exact t_L_law_761 C hX hbo hL ho hX70 n761 _ _ _ _ _ _ _ u0 _ _ ⟨by omega, by omega⟩ _ _ _ P (lv_sub hl [2, 3, 4, 5, 7, 9, 11, 1, 0] rfl) h
  · have h := ite_t h c39
    refine lv_aload_n hx hb dL_law_677 rfl (lv_at hl 1 rfl) ?_
    refine lv_iload hx hb dL_law_678 (lv_at hl 7 rfl) ?_
    refine lv_iconst (v := 1) hx hb dL_law_680 (by decide) ?_
    refine w_calli (va_runV (As := [.int x8, .int (1 : Int32)]) (rest := []) C.1 (c_X9_gate l D cA o _ _ u0 _ h) (cwV 2 C.1.2.2.2.2 gL_law_X9_gate rfl rfl rfl (by decide +kernel) ⟨Nat.le_of_ble_eq_true rfl, Nat.le_of_ble_eq_true rfl⟩) (w_preV C P.1 [.int x8, .int (1 : Int32)] (ci := 9) rfl (kd_lt kd_at_0 (by decide)) (EK_9 kd_at_0)) rfl rfl hl.1 rfl (lv_room (Nat.le_of_ble_eq_true rfl)) dL_law_681 (w_fit (by omega) (by omega))) P (fun r88 u87 H locs h P => ?_)
    refine lv_istore (lv' := [(11, .int r88), (0, .ref b), (1, .ref (o + 0)), (2, .int x2), (4, .int x4), (5, .int x5), (6, .int x6), (7, .int x7), (8, .int x8), (9, .int x9), (10, .int x10)]) hx hb dL_law_684 hl (by decide) rfl (fun ls hl => ?_)
    refine lv_aload_n hx hb dL_law_686 rfl (lv_at hl 2 rfl) ?_
    refine lv_iload hx hb dL_law_687 (lv_at hl 8 rfl) ?_
    refine lv_bipush (v := 10) hx hb dL_law_689 (by decide) ?_
    refine w_calli (va_runV (As := [.int x8, .int (10 : Int32)]) (rest := []) C.1 (c_X9_gate l D cA o _ _ u87 _ h) (cwV 2 C.1.2.2.2.2 gL_law_X9_gate rfl rfl rfl (by decide +kernel) ⟨Nat.le_of_ble_eq_true rfl, Nat.le_of_ble_eq_true rfl⟩) (w_preV C P.1 [.int x8, .int (10 : Int32)] (ci := 9) rfl (kd_lt kd_at_0 (by decide)) (EK_9 kd_at_0)) rfl rfl hl.1 rfl (lv_room (Nat.le_of_ble_eq_true rfl)) dL_law_691 (w_fit (by omega) (by omega))) P (fun r90 u89 H locs h P => ?_)
    refine lv_istore (lv' := [(12, .int r90), (11, .int r88), (0, .ref b), (1, .ref (o + 0)), (2, .int x2), (4, .int x4), (5, .int x5), (6, .int x6), (7, .int x7), (8, .int x8), (9, .int x9), (10, .int x10)]) hx hb dL_law_694 hl (by decide) rfl (fun ls hl => ?_)
    refine lv_aload_n hx hb dL_law_696 rfl (lv_at hl 3 rfl) ?_
    refine lv_iload hx hb dL_law_697 (lv_at hl 9 rfl) ?_
    refine w_calli (va_runV (As := [.int x8]) (rest := []) C.1 (c_X9_pinch l D cA o _ u89 _ h) (cwV 1 C.1.2.2.2.2 gL_law_X9_pinch rfl rfl rfl (by decide +kernel) ⟨Nat.le_of_ble_eq_true rfl, Nat.le_of_ble_eq_true rfl⟩) (w_preV C P.1 [.int x8] (ci := 9) rfl (kd_lt kd_at_0 (by decide)) (EK_9 kd_at_0)) rfl rfl hl.1 rfl (lv_room (Nat.le_of_ble_eq_true rfl)) dL_law_699 (w_fit (by omega) (by omega))) P (fun r92 u91 H locs h P => ?_)
    refine lv_iload hx hb dL_law_702 (lv_at hl 1 rfl) ?_
    refine lv_iconst (v := 5) hx hb dL_law_704 (by decide) ?_
    refine lv_icmp_ne (tgt := 713) hx hb dL_law_705 (by decide) (fun c93 => ?_) (fun c93 => ?_)
    · have h := ite_f h c93
      refine lv_iload hx hb dL_law_713 (lv_at hl 0 rfl) ?_
      refine lv_iconst (v := 1) hx hb dL_law_715 (by decide) ?_
      refine lv_icmp_ne (tgt := 724) hx hb dL_law_716 (by decide) (fun c94 => ?_) (fun c94 => ?_)
      · have h := ite_f h c94
        refine lv_iload hx hb dL_law_724 (lv_at hl 1 rfl) ?_
        refine lv_iconst (v := 3) hx hb dL_law_726 (by decide) ?_
        refine lv_icmp_ne (tgt := 734) hx hb dL_law_727 (by decide) (fun c95 => ?_) (fun c95 => ?_)
        · have h := ite_f h c95
          refine lv_iconst (v := 0) hx hb dL_law_734 (by decide) ?_
          exact t_L_law_735 C hX hbo hL ho hX70 _ _ _ u91 _ _ ⟨by omega, by omega⟩ _ _ _ P (lv_sub hl [2, 3, 4] rfl) h
        · have h := ite_t h c95
          refine lv_iconst (v := 1) hx hb dL_law_730 (by decide) ?_
          refine lv_goto (tgt := 735) hx hb dL_law_731 (by decide) ?_
          exact t_L_law_735 C hX hbo hL ho hX70 _ _ _ u91 _ _ ⟨by omega, by omega⟩ _ _ _ P (lv_sub hl [2, 3, 4] rfl) h
      · have h := ite_t h c94
        refine lv_bipush (v := -5) hx hb dL_law_719 (by decide) ?_
        refine lv_goto (tgt := 735) hx hb dL_law_721 (by decide) ?_
        exact t_L_law_735 C hX hbo hL ho hX70 _ _ _ u91 _ _ ⟨by omega, by omega⟩ _ _ _ P (lv_sub hl [2, 3, 4] rfl) h
    · have h := ite_t h c93
      refine lv_bipush (v := -4) hx hb dL_law_708 (by decide) ?_
      refine lv_goto (tgt := 735) hx hb dL_law_710 (by decide) ?_
      exact t_L_law_735 C hX hbo hL ho hX70 _ _ _ u91 _ _ ⟨by omega, by omega⟩ _ _ _ P (lv_sub hl [2, 3, 4] rfl) h
def w_L_law_665 (L : Nat) (xs : Nat → Int32) (X70 : Int32 → Mm → Prop) (Φ : Int32 → Mm → Prop) (x2 : Int32) (z0 : Int32) (u0 : Mm) : Prop := (w_L_law_997 L xs X70 Φ x2 z0 u0)
set_option maxHeartbeats 4000000 in
set_option maxRecDepth 100000 in
theorem t_L_law_665 {p : Program} {l : Launch} {e : Env} {s : State} {m : MethodId} {below : List Frame} {meth : Method} {c : Code} {D : va_G} {cA : Nat → ClassId} {o b L : Nat} {xs : Nat → Int32} {N : Nat} {X70 : Int32 → Mm → Prop} (C : Cx p m meth c s #[Value.ref b] cL_law 15 wsL_law RL ret D (tysL cA)) (hX : va_X b L xs s s.heap) (hbo : b < o) (hL : L ≤ 260) (ho : s.heap.size = o) (hX70 : ∀ (x2 : Int32) (u0 : Mm), ∀ cells slots : Nat, cells + N ≤ 1000 ∧ slots + 6 * N ≤ 20000 → ∀ (H : Heap) (locs : List Loc) (ls : Array Slot), HpW o D cA u0 s H locs → lv_has ls 15 [(0, .ref b), (1, .ref (o + 0)), (2, .int x2)] → X70 x2 u0 → W p l e room_1 s m #[Value.ref b] below meth c H locs cells slots (lw_Z below #[Value.ref b] s) (F0 m 70 ls [])) : ∀ (x2 : Int32) (z0 : Int32) (u0 : Mm), ∀ cells slots : Nat, cells + (N + 1) ≤ 1000 ∧ slots + 6 * (N + 1) ≤ 20000 → ∀ (H : Heap) (locs : List Loc) (ls : Array Slot), HpW o D cA u0 s H locs → lv_has ls 15 [(0, .ref b), (1, .ref (o + 0)), (2, .int x2)] → w_L_law_665 L xs X70 PL x2 z0 u0 → W p l e room_1 s m #[Value.ref b] below meth c H locs cells slots (lw_Z below #[Value.ref b] s) (F0 m 665 ls [.int z0]) := by
  intro x2 z0 u0 cells slots hc H locs ls P hl h
  have hx := C.1.1
  have hb := C.1.2.1
  unfold w_L_law_665 at h
  refine lv_istore (lv' := [(10, .int z0), (0, .ref b), (1, .ref (o + 0)), (2, .int x2)]) hx hb dL_law_665 hl (by decide) rfl (fun ls hl => ?_)
  refine lv_goto (tgt := 997) hx hb dL_law_667 (by decide) ?_
  exact t_L_law_997 C hX hbo hL ho hX70 _ _ u0 _ _ ⟨by omega, by omega⟩ _ _ _ P (lv_sub hl [1, 2, 3, 0] rfl) h
def w_L_law_657 (L : Nat) (xs : Nat → Int32) (X70 : Int32 → Mm → Prop) (Φ : Int32 → Mm → Prop) (x2 : Int32) (z0 : Int32) (z1 : Int32) (u0 : Mm) : Prop := (if z1 = z0 then (w_L_law_665 L xs X70 Φ x2 ((1 : Int32)) u0) else (w_L_law_665 L xs X70 Φ x2 ((0 : Int32)) u0))
set_option maxHeartbeats 4000000 in
set_option maxRecDepth 100000 in
theorem t_L_law_657 {p : Program} {l : Launch} {e : Env} {s : State} {m : MethodId} {below : List Frame} {meth : Method} {c : Code} {D : va_G} {cA : Nat → ClassId} {o b L : Nat} {xs : Nat → Int32} {N : Nat} {X70 : Int32 → Mm → Prop} (C : Cx p m meth c s #[Value.ref b] cL_law 15 wsL_law RL ret D (tysL cA)) (hX : va_X b L xs s s.heap) (hbo : b < o) (hL : L ≤ 260) (ho : s.heap.size = o) (hX70 : ∀ (x2 : Int32) (u0 : Mm), ∀ cells slots : Nat, cells + N ≤ 1000 ∧ slots + 6 * N ≤ 20000 → ∀ (H : Heap) (locs : List Loc) (ls : Array Slot), HpW o D cA u0 s H locs → lv_has ls 15 [(0, .ref b), (1, .ref (o + 0)), (2, .int x2)] → X70 x2 u0 → W p l e room_1 s m #[Value.ref b] below meth c H locs cells slots (lw_Z below #[Value.ref b] s) (F0 m 70 ls [])) : ∀ (x2 : Int32) (z0 : Int32) (z1 : Int32) (u0 : Mm), ∀ cells slots : Nat, cells + (N + 1) ≤ 1000 ∧ slots + 6 * (N + 1) ≤ 20000 → ∀ (H : Heap) (locs : List Loc) (ls : Array Slot), HpW o D cA u0 s H locs → lv_has ls 15 [(0, .ref b), (1, .ref (o + 0)), (2, .int x2)] → w_L_law_657 L xs X70 PL x2 z0 z1 u0 → W p l e room_1 s m #[Value.ref b] below meth c H locs cells slots (lw_Z below #[Value.ref b] s) (F0 m 657 ls [.int z0, .int z1]) := by
  intro x2 z0 z1 u0 cells slots hc H locs ls P hl h
  have hx := C.1.1
  have hb := C.1.2.1
  unfold w_L_law_657 at h
  refine lv_icmp_ne (tgt := 664) hx hb dL_law_657 (by decide) (fun c106 => ?_) (fun c106 => ?_)
  · have h := ite_f h c106
    refine lv_iconst (v := 0) hx hb dL_law_664 (by decide) ?_
    exact t_L_law_665 C hX hbo hL ho hX70 _ _ u0 _ _ ⟨by omega, by omega⟩ _ _ _ P (lv_sub hl [0, 1, 2] rfl) h
  · have h := ite_t h c106
    refine lv_iconst (v := 1) hx hb dL_law_660 (by decide) ?_
    refine lv_goto (tgt := 665) hx hb dL_law_661 (by decide) ?_
    exact t_L_law_665 C hX hbo hL ho hX70 _ _ u0 _ _ ⟨by omega, by omega⟩ _ _ _ P (lv_sub hl [0, 1, 2] rfl) h
def w_L_law_633 (L : Nat) (xs : Nat → Int32) (X70 : Int32 → Mm → Prop) (Φ : Int32 → Mm → Prop) (x2 : Int32) (x8 : Int32) (x9 : Int32) (x11 : Int32) (z0 : Int32) (u0 : Mm) : Prop := (w_X9_exit x8 x9 u0 (fun r104 u103 => (if z0 = 0 then (w_L_law_657 L xs X70 Φ x2 ((-4 : Int32)) r104 u103) else (w_L_law_657 L xs X70 Φ x2 ((x11 + (1 : Int32))) r104 u103))))
set_option maxHeartbeats 4000000 in
set_option maxRecDepth 100000 in
theorem t_L_law_633 {p : Program} {l : Launch} {e : Env} {s : State} {m : MethodId} {below : List Frame} {meth : Method} {c : Code} {D : va_G} {cA : Nat → ClassId} {o b L : Nat} {xs : Nat → Int32} {N : Nat} {X70 : Int32 → Mm → Prop} (C : Cx p m meth c s #[Value.ref b] cL_law 15 wsL_law RL ret D (tysL cA)) (hX : va_X b L xs s s.heap) (hbo : b < o) (hL : L ≤ 260) (ho : s.heap.size = o) (hX70 : ∀ (x2 : Int32) (u0 : Mm), ∀ cells slots : Nat, cells + N ≤ 1000 ∧ slots + 6 * N ≤ 20000 → ∀ (H : Heap) (locs : List Loc) (ls : Array Slot), HpW o D cA u0 s H locs → lv_has ls 15 [(0, .ref b), (1, .ref (o + 0)), (2, .int x2)] → X70 x2 u0 → W p l e room_1 s m #[Value.ref b] below meth c H locs cells slots (lw_Z below #[Value.ref b] s) (F0 m 70 ls [])) : ∀ (x2 : Int32) (x8 : Int32) (x9 : Int32) (x11 : Int32) (z0 : Int32) (u0 : Mm), ∀ cells slots : Nat, cells + (N + 1) ≤ 1000 ∧ slots + 6 * (N + 1) ≤ 20000 → ∀ (H : Heap) (locs : List Loc) (ls : Array Slot), HpW o D cA u0 s H locs → lv_has ls 15 [(0, .ref b), (1, .ref (o + 0)), (2, .int x2), (8, .int x8), (9, .int x9), (11, .int x11)] → w_L_law_633 L xs X70 PL x2 x8 x9 x11 z0 u0 → W p l e room_1 s m #[Value.ref b] below meth c H locs cells slots (lw_Z below #[Value.ref b] s) (F0 m 633 ls [.int z0]) := by
  intro x2 x8 x9 x11 z0 u0 cells slots hc H locs ls P hl h
  have hx := C.1.1
  have hb := C.1.2.1
  unfold w_L_law_633 at h
  refine lv_istore (lv' := [(12, .int z0), (0, .ref b), (1, .ref (o + 0)), (2, .int x2), (8, .int x8), (9, .int x9), (11, .int x11)]) hx hb dL_law_633 hl (by decide) rfl (fun ls hl => ?_)
  refine lv_aload_n hx hb dL_law_635 rfl (lv_at hl 2 rfl) ?_
  refine lv_iload hx hb dL_law_636 (lv_at hl 4 rfl) ?_
  refine lv_iload hx hb dL_law_638 (lv_at hl 5 rfl) ?_
  refine w_calli (va_runV (As := [.int x8, .int x9]) (rest := []) C.1 (c_X9_exit l D cA o _ _ u0 _ h) (cwV 2 C.1.2.2.2.2 gL_law_X9_exit rfl rfl rfl (by decide +kernel) ⟨Nat.le_of_ble_eq_true rfl, Nat.le_of_ble_eq_true rfl⟩) (w_preV C P.1 [.int x8, .int x9] (ci := 9) rfl (kd_lt kd_at_0 (by decide)) (EK_9 kd_at_0)) rfl rfl hl.1 rfl (lv_room (Nat.le_of_ble_eq_true rfl)) dL_law_640 (w_fit (by omega) (by omega))) P (fun r104 u103 H locs h P => ?_)
  refine lv_iload hx hb dL_law_643 (lv_at hl 0 rfl) ?_
  refine lv_if_eq (tgt := 655) hx hb dL_law_645 (by decide) (fun c105 => ?_) (fun c105 => ?_)
  · have h := ite_t h c105
    refine lv_bipush (v := -4) hx hb dL_law_655 (by decide) ?_
    exact t_L_law_657 C hX hbo hL ho hX70 _ _ _ u103 _ _ ⟨by omega, by omega⟩ _ _ _ P (lv_sub hl [1, 2, 3] rfl) h
  · have h := ite_f h c105
    refine lv_iload hx hb dL_law_648 (lv_at hl 6 rfl) ?_
    refine lv_iconst (v := 1) hx hb dL_law_650 (by decide) ?_
    refine lv_iadd hx hb dL_law_651 ?_
    refine lv_goto (tgt := 657) hx hb dL_law_652 (by decide) ?_
    exact t_L_law_657 C hX hbo hL ho hX70 _ _ _ u103 _ _ ⟨by omega, by omega⟩ _ _ _ P (lv_sub hl [1, 2, 3] rfl) h
def w_L_law_591 (L : Nat) (xs : Nat → Int32) (X70 : Int32 → Mm → Prop) (Φ : Int32 → Mm → Prop) (x2 : Int32) (z0 : Int32) (u0 : Mm) : Prop := (w_L_law_997 L xs X70 Φ x2 z0 u0)
set_option maxHeartbeats 4000000 in
set_option maxRecDepth 100000 in
theorem t_L_law_591 {p : Program} {l : Launch} {e : Env} {s : State} {m : MethodId} {below : List Frame} {meth : Method} {c : Code} {D : va_G} {cA : Nat → ClassId} {o b L : Nat} {xs : Nat → Int32} {N : Nat} {X70 : Int32 → Mm → Prop} (C : Cx p m meth c s #[Value.ref b] cL_law 15 wsL_law RL ret D (tysL cA)) (hX : va_X b L xs s s.heap) (hbo : b < o) (hL : L ≤ 260) (ho : s.heap.size = o) (hX70 : ∀ (x2 : Int32) (u0 : Mm), ∀ cells slots : Nat, cells + N ≤ 1000 ∧ slots + 6 * N ≤ 20000 → ∀ (H : Heap) (locs : List Loc) (ls : Array Slot), HpW o D cA u0 s H locs → lv_has ls 15 [(0, .ref b), (1, .ref (o + 0)), (2, .int x2)] → X70 x2 u0 → W p l e room_1 s m #[Value.ref b] below meth c H locs cells slots (lw_Z below #[Value.ref b] s) (F0 m 70 ls [])) : ∀ (x2 : Int32) (z0 : Int32) (u0 : Mm), ∀ cells slots : Nat, cells + (N + 1) ≤ 1000 ∧ slots + 6 * (N + 1) ≤ 20000 → ∀ (H : Heap) (locs : List Loc) (ls : Array Slot), HpW o D cA u0 s H locs → lv_has ls 15 [(0, .ref b), (1, .ref (o + 0)), (2, .int x2)] → w_L_law_591 L xs X70 PL x2 z0 u0 → W p l e room_1 s m #[Value.ref b] below meth c H locs cells slots (lw_Z below #[Value.ref b] s) (F0 m 591 ls [.int z0]) := by
  intro x2 z0 u0 cells slots hc H locs ls P hl h
  have hx := C.1.1
  have hb := C.1.2.1
  unfold w_L_law_591 at h
  refine lv_istore (lv' := [(10, .int z0), (0, .ref b), (1, .ref (o + 0)), (2, .int x2)]) hx hb dL_law_591 hl (by decide) rfl (fun ls hl => ?_)
  refine lv_goto (tgt := 997) hx hb dL_law_593 (by decide) ?_
  exact t_L_law_997 C hX hbo hL ho hX70 _ _ u0 _ _ ⟨by omega, by omega⟩ _ _ _ P (lv_sub hl [1, 2, 3, 0] rfl) h
def w_L_law_583 (L : Nat) (xs : Nat → Int32) (X70 : Int32 → Mm → Prop) (Φ : Int32 → Mm → Prop) (x2 : Int32) (z0 : Int32) (z1 : Int32) (u0 : Mm) : Prop := (if z1 = z0 then (w_L_law_591 L xs X70 Φ x2 ((1 : Int32)) u0) else (w_L_law_591 L xs X70 Φ x2 ((0 : Int32)) u0))
set_option maxHeartbeats 4000000 in
set_option maxRecDepth 100000 in
theorem t_L_law_583 {p : Program} {l : Launch} {e : Env} {s : State} {m : MethodId} {below : List Frame} {meth : Method} {c : Code} {D : va_G} {cA : Nat → ClassId} {o b L : Nat} {xs : Nat → Int32} {N : Nat} {X70 : Int32 → Mm → Prop} (C : Cx p m meth c s #[Value.ref b] cL_law 15 wsL_law RL ret D (tysL cA)) (hX : va_X b L xs s s.heap) (hbo : b < o) (hL : L ≤ 260) (ho : s.heap.size = o) (hX70 : ∀ (x2 : Int32) (u0 : Mm), ∀ cells slots : Nat, cells + N ≤ 1000 ∧ slots + 6 * N ≤ 20000 → ∀ (H : Heap) (locs : List Loc) (ls : Array Slot), HpW o D cA u0 s H locs → lv_has ls 15 [(0, .ref b), (1, .ref (o + 0)), (2, .int x2)] → X70 x2 u0 → W p l e room_1 s m #[Value.ref b] below meth c H locs cells slots (lw_Z below #[Value.ref b] s) (F0 m 70 ls [])) : ∀ (x2 : Int32) (z0 : Int32) (z1 : Int32) (u0 : Mm), ∀ cells slots : Nat, cells + (N + 1) ≤ 1000 ∧ slots + 6 * (N + 1) ≤ 20000 → ∀ (H : Heap) (locs : List Loc) (ls : Array Slot), HpW o D cA u0 s H locs → lv_has ls 15 [(0, .ref b), (1, .ref (o + 0)), (2, .int x2)] → w_L_law_583 L xs X70 PL x2 z0 z1 u0 → W p l e room_1 s m #[Value.ref b] below meth c H locs cells slots (lw_Z below #[Value.ref b] s) (F0 m 583 ls [.int z0, .int z1]) := by
  intro x2 z0 z1 u0 cells slots hc H locs ls P hl h
  have hx := C.1.1
  have hb := C.1.2.1
  unfold w_L_law_583 at h
  refine lv_icmp_ne (tgt := 590) hx hb dL_law_583 (by decide) (fun c116 => ?_) (fun c116 => ?_)
  · have h := ite_f h c116
    refine lv_iconst (v := 0) hx hb dL_law_590 (by decide) ?_
    exact t_L_law_591 C hX hbo hL ho hX70 _ _ u0 _ _ ⟨by omega, by omega⟩ _ _ _ P (lv_sub hl [0, 1, 2] rfl) h
  · have h := ite_t h c116
    refine lv_iconst (v := 1) hx hb dL_law_586 (by decide) ?_
    refine lv_goto (tgt := 591) hx hb dL_law_587 (by decide) ?_
    exact t_L_law_591 C hX hbo hL ho hX70 _ _ u0 _ _ ⟨by omega, by omega⟩ _ _ _ P (lv_sub hl [0, 1, 2] rfl) h
def w_L_law_566 (L : Nat) (xs : Nat → Int32) (X70 : Int32 → Mm → Prop) (Φ : Int32 → Mm → Prop) (x2 : Int32) (x7 : Int32) (z0 : Int32) (z1 : Int32) (z2 : Int32) (u0 : Mm) : Prop := (w_X9_enter z2 z1 z0 u0 (fun r114 u113 => (if x7 = (40 : Int32) then (w_L_law_583 L xs X70 Φ x2 ((-3 : Int32)) r114 u113) else (w_L_law_583 L xs X70 Φ x2 x7 r114 u113))))
set_option maxHeartbeats 4000000 in
set_option maxRecDepth 100000 in
theorem t_L_law_566 {p : Program} {l : Launch} {e : Env} {s : State} {m : MethodId} {below : List Frame} {meth : Method} {c : Code} {D : va_G} {cA : Nat → ClassId} {o b L : Nat} {xs : Nat → Int32} {N : Nat} {X70 : Int32 → Mm → Prop} (C : Cx p m meth c s #[Value.ref b] cL_law 15 wsL_law RL ret D (tysL cA)) (hX : va_X b L xs s s.heap) (hbo : b < o) (hL : L ≤ 260) (ho : s.heap.size = o) (hX70 : ∀ (x2 : Int32) (u0 : Mm), ∀ cells slots : Nat, cells + N ≤ 1000 ∧ slots + 6 * N ≤ 20000 → ∀ (H : Heap) (locs : List Loc) (ls : Array Slot), HpW o D cA u0 s H locs → lv_has ls 15 [(0, .ref b), (1, .ref (o + 0)), (2, .int x2)] → X70 x2 u0 → W p l e room_1 s m #[Value.ref b] below meth c H locs cells slots (lw_Z below #[Value.ref b] s) (F0 m 70 ls [])) : ∀ (x2 : Int32) (x7 : Int32) (z0 : Int32) (z1 : Int32) (z2 : Int32) (u0 : Mm), ∀ cells slots : Nat, cells + (N + 1) ≤ 1000 ∧ slots + 6 * (N + 1) ≤ 20000 → ∀ (H : Heap) (locs : List Loc) (ls : Array Slot), HpW o D cA u0 s H locs → lv_has ls 15 [(0, .ref b), (1, .ref (o + 0)), (2, .int x2), (7, .int x7)] → w_L_law_566 L xs X70 PL x2 x7 z0 z1 z2 u0 → W p l e room_1 s m #[Value.ref b] below meth c H locs cells slots (lw_Z below #[Value.ref b] s) (F0 m 566 ls [.int z0, .int z1, .int z2, .ref (o + 0)]) := by
  intro x2 x7 z0 z1 z2 u0 cells slots hc H locs ls P hl h
  have hx := C.1.1
  have hb := C.1.2.1
  unfold w_L_law_566 at h
  refine w_calli (va_runV (As := [.int z2, .int z1, .int z0]) (rest := []) C.1 (c_X9_enter l D cA o _ _ _ u0 _ h) (cwV 3 C.1.2.2.2.2 gL_law_X9_enter rfl rfl rfl (by decide +kernel) ⟨Nat.le_of_ble_eq_true rfl, Nat.le_of_ble_eq_true rfl⟩) (w_preV C P.1 [.int z2, .int z1, .int z0] (ci := 9) rfl (kd_lt kd_at_0 (by decide)) (EK_9 kd_at_0)) rfl rfl hl.1 rfl (lv_room (Nat.le_of_ble_eq_true rfl)) dL_law_566 (w_fit (by omega) (by omega))) P (fun r114 u113 H locs h P => ?_)
  refine lv_iload hx hb dL_law_569 (lv_at hl 3 rfl) ?_
  refine lv_bipush (v := 40) hx hb dL_law_571 (by decide) ?_
  refine lv_icmp_ne (tgt := 581) hx hb dL_law_573 (by decide) (fun c115 => ?_) (fun c115 => ?_)
  · have h := ite_f h c115
    refine lv_iload hx hb dL_law_581 (lv_at hl 3 rfl) ?_
    exact t_L_law_583 C hX hbo hL ho hX70 _ _ _ u113 _ _ ⟨by omega, by omega⟩ _ _ _ P (lv_sub hl [0, 1, 2] rfl) h
  · have h := ite_t h c115
    refine lv_bipush (v := -3) hx hb dL_law_576 (by decide) ?_
    refine lv_goto (tgt := 583) hx hb dL_law_578 (by decide) ?_
    exact t_L_law_583 C hX hbo hL ho hX70 _ _ _ u113 _ _ ⟨by omega, by omega⟩ _ _ _ P (lv_sub hl [0, 1, 2] rfl) h
def w_L_law_546 (L : Nat) (xs : Nat → Int32) (X70 : Int32 → Mm → Prop) (Φ : Int32 → Mm → Prop) (x2 : Int32) (x4 : Int32) (x7 : Int32) (x8 : Int32) (z0 : Int32) (u0 : Mm) : Prop := (if (x4 &&& (8 : Int32)) = 0 then (w_L_law_566 L xs X70 Φ x2 x7 ((1 : Int32)) z0 x8 u0) else (w_L_law_566 L xs X70 Φ x2 x7 ((0 : Int32)) z0 x8 u0))
set_option maxHeartbeats 4000000 in
set_option maxRecDepth 100000 in
theorem t_L_law_546 {p : Program} {l : Launch} {e : Env} {s : State} {m : MethodId} {below : List Frame} {meth : Method} {c : Code} {D : va_G} {cA : Nat → ClassId} {o b L : Nat} {xs : Nat → Int32} {N : Nat} {X70 : Int32 → Mm → Prop} (C : Cx p m meth c s #[Value.ref b] cL_law 15 wsL_law RL ret D (tysL cA)) (hX : va_X b L xs s s.heap) (hbo : b < o) (hL : L ≤ 260) (ho : s.heap.size = o) (hX70 : ∀ (x2 : Int32) (u0 : Mm), ∀ cells slots : Nat, cells + N ≤ 1000 ∧ slots + 6 * N ≤ 20000 → ∀ (H : Heap) (locs : List Loc) (ls : Array Slot), HpW o D cA u0 s H locs → lv_has ls 15 [(0, .ref b), (1, .ref (o + 0)), (2, .int x2)] → X70 x2 u0 → W p l e room_1 s m #[Value.ref b] below meth c H locs cells slots (lw_Z below #[Value.ref b] s) (F0 m 70 ls [])) : ∀ (x2 : Int32) (x4 : Int32) (x7 : Int32) (x8 : Int32) (z0 : Int32) (u0 : Mm), ∀ cells slots : Nat, cells + (N + 1) ≤ 1000 ∧ slots + 6 * (N + 1) ≤ 20000 → ∀ (H : Heap) (locs : List Loc) (ls : Array Slot), HpW o D cA u0 s H locs → lv_has ls 15 [(0, .ref b), (1, .ref (o + 0)), (2, .int x2), (4, .int x4), (7, .int x7), (8, .int x8)] → w_L_law_546 L xs X70 PL x2 x4 x7 x8 z0 u0 → W p l e room_1 s m #[Value.ref b] below meth c H locs cells slots (lw_Z below #[Value.ref b] s) (F0 m 546 ls [.int z0]) := by
  intro x2 x4 x7 x8 z0 u0 cells slots hc H locs ls P hl h
  have hx := C.1.1
  have hb := C.1.2.1
  unfold w_L_law_546 at h
  refine lv_istore (lv' := [(11, .int z0), (0, .ref b), (1, .ref (o + 0)), (2, .int x2), (4, .int x4), (7, .int x7), (8, .int x8)]) hx hb dL_law_546 hl (by decide) rfl (fun ls hl => ?_)
  refine lv_aload_n hx hb dL_law_548 rfl (lv_at hl 2 rfl) ?_
  refine lv_iload hx hb dL_law_549 (lv_at hl 6 rfl) ?_
  refine lv_iload hx hb dL_law_551 (lv_at hl 0 rfl) ?_
  refine lv_iload hx hb dL_law_553 (lv_at hl 4 rfl) ?_
  refine lv_bipush (v := 8) hx hb dL_law_555 (by decide) ?_
  refine lv_iand hx hb dL_law_557 ?_
  refine lv_if_ne (tgt := 565) hx hb dL_law_558 (by decide) (fun c112 => ?_) (fun c112 => ?_)
  · have h := ite_f h c112
    refine lv_iconst (v := 0) hx hb dL_law_565 (by decide) ?_
    exact t_L_law_566 C hX hbo hL ho hX70 _ _ _ _ _ u0 _ _ ⟨by omega, by omega⟩ _ _ _ P (lv_sub hl [1, 2, 3, 5] rfl) h
  · have h := ite_t h c112
    refine lv_iconst (v := 1) hx hb dL_law_561 (by decide) ?_
    refine lv_goto (tgt := 566) hx hb dL_law_562 (by decide) ?_
    exact t_L_law_566 C hX hbo hL ho hX70 _ _ _ _ _ u0 _ _ ⟨by omega, by omega⟩ _ _ _ P (lv_sub hl [1, 2, 3, 5] rfl) h
def w_L_law_508 (L : Nat) (xs : Nat → Int32) (X70 : Int32 → Mm → Prop) (Φ : Int32 → Mm → Prop) (x2 : Int32) (z0 : Int32) (u0 : Mm) : Prop := (w_L_law_997 L xs X70 Φ x2 z0 u0)
set_option maxHeartbeats 4000000 in
set_option maxRecDepth 100000 in
theorem t_L_law_508 {p : Program} {l : Launch} {e : Env} {s : State} {m : MethodId} {below : List Frame} {meth : Method} {c : Code} {D : va_G} {cA : Nat → ClassId} {o b L : Nat} {xs : Nat → Int32} {N : Nat} {X70 : Int32 → Mm → Prop} (C : Cx p m meth c s #[Value.ref b] cL_law 15 wsL_law RL ret D (tysL cA)) (hX : va_X b L xs s s.heap) (hbo : b < o) (hL : L ≤ 260) (ho : s.heap.size = o) (hX70 : ∀ (x2 : Int32) (u0 : Mm), ∀ cells slots : Nat, cells + N ≤ 1000 ∧ slots + 6 * N ≤ 20000 → ∀ (H : Heap) (locs : List Loc) (ls : Array Slot), HpW o D cA u0 s H locs → lv_has ls 15 [(0, .ref b), (1, .ref (o + 0)), (2, .int x2)] → X70 x2 u0 → W p l e room_1 s m #[Value.ref b] below meth c H locs cells slots (lw_Z below #[Value.ref b] s) (F0 m 70 ls [])) : ∀ (x2 : Int32) (z0 : Int32) (u0 : Mm), ∀ cells slots : Nat, cells + (N + 1) ≤ 1000 ∧ slots + 6 * (N + 1) ≤ 20000 → ∀ (H : Heap) (locs : List Loc) (ls : Array Slot), HpW o D cA u0 s H locs → lv_has ls 15 [(0, .ref b), (1, .ref (o + 0)), (2, .int x2)] → w_L_law_508 L xs X70 PL x2 z0 u0 → W p l e room_1 s m #[Value.ref b] below meth c H locs cells slots (lw_Z below #[Value.ref b] s) (F0 m 508 ls [.int z0]) := by
  intro x2 z0 u0 cells slots hc H locs ls P hl h
  have hx := C.1.1
  have hb := C.1.2.1
  unfold w_L_law_508 at h
  refine lv_istore (lv' := [(10, .int z0), (0, .ref b), (1, .ref (o + 0)), (2, .int x2)]) hx hb dL_law_508 hl (by decide) rfl (fun ls hl => ?_)
  refine lv_goto (tgt := 997) hx hb dL_law_510 (by decide) ?_
  exact t_L_law_997 C hX hbo hL ho hX70 _ _ u0 _ _ ⟨by omega, by omega⟩ _ _ _ P (lv_sub hl [1, 2, 3, 0] rfl) h
def w_L_law_507 (L : Nat) (xs : Nat → Int32) (X70 : Int32 → Mm → Prop) (Φ : Int32 → Mm → Prop) (x2 : Int32) (u0 : Mm) : Prop := (w_L_law_508 L xs X70 Φ x2 ((0 : Int32)) u0)
set_option maxHeartbeats 4000000 in
set_option maxRecDepth 100000 in
theorem t_L_law_507 {p : Program} {l : Launch} {e : Env} {s : State} {m : MethodId} {below : List Frame} {meth : Method} {c : Code} {D : va_G} {cA : Nat → ClassId} {o b L : Nat} {xs : Nat → Int32} {N : Nat} {X70 : Int32 → Mm → Prop} (C : Cx p m meth c s #[Value.ref b] cL_law 15 wsL_law RL ret D (tysL cA)) (hX : va_X b L xs s s.heap) (hbo : b < o) (hL : L ≤ 260) (ho : s.heap.size = o) (hX70 : ∀ (x2 : Int32) (u0 : Mm), ∀ cells slots : Nat, cells + N ≤ 1000 ∧ slots + 6 * N ≤ 20000 → ∀ (H : Heap) (locs : List Loc) (ls : Array Slot), HpW o D cA u0 s H locs → lv_has ls 15 [(0, .ref b), (1, .ref (o + 0)), (2, .int x2)] → X70 x2 u0 → W p l e room_1 s m #[Value.ref b] below meth c H locs cells slots (lw_Z below #[Value.ref b] s) (F0 m 70 ls [])) : ∀ (x2 : Int32) (u0 : Mm), ∀ cells slots : Nat, cells + (N + 1) ≤ 1000 ∧ slots + 6 * (N + 1) ≤ 20000 → ∀ (H : Heap) (locs : List Loc) (ls : Array Slot), HpW o D cA u0 s H locs → lv_has ls 15 [(0, .ref b), (1, .ref (o + 0)), (2, .int x2)] → w_L_law_507 L xs X70 PL x2 u0 → W p l e room_1 s m #[Value.ref b] below meth c H locs cells slots (lw_Z below #[Value.ref b] s) (F0 m 507 ls []) := by
  intro x2 u0 cells slots hc H locs ls P hl h
  have hx := C.1.1
  have hb := C.1.2.1
  unfold w_L_law_507 at h
  refine lv_iconst (v := 0) hx hb dL_law_507 (by decide) ?_
  exact t_L_law_508 C hX hbo hL ho hX70 _ _ u0 _ _ ⟨by omega, by omega⟩ _ _ _ P (lv_sub hl [0, 1, 2] rfl) h
def w_L_law_503 (L : Nat) (xs : Nat → Int32) (X70 : Int32 → Mm → Prop) (Φ : Int32 → Mm → Prop) (x2 : Int32) (u0 : Mm) : Prop := (w_L_law_508 L xs X70 Φ x2 ((1 : Int32)) u0)
set_option maxHeartbeats 4000000 in
set_option maxRecDepth 100000 in
theorem t_L_law_503 {p : Program} {l : Launch} {e : Env} {s : State} {m : MethodId} {below : List Frame} {meth : Method} {c : Code} {D : va_G} {cA : Nat → ClassId} {o b L : Nat} {xs : Nat → Int32} {N : Nat} {X70 : Int32 → Mm → Prop} (C : Cx p m meth c s #[Value.ref b] cL_law 15 wsL_law RL ret D (tysL cA)) (hX : va_X b L xs s s.heap) (hbo : b < o) (hL : L ≤ 260) (ho : s.heap.size = o) (hX70 : ∀ (x2 : Int32) (u0 : Mm), ∀ cells slots : Nat, cells + N ≤ 1000 ∧ slots + 6 * N ≤ 20000 → ∀ (H : Heap) (locs : List Loc) (ls : Array Slot), HpW o D cA u0 s H locs → lv_has ls 15 [(0, .ref b), (1, .ref (o + 0)), (2, .int x2)] → X70 x2 u0 → W p l e room_1 s m #[Value.ref b] below meth c H locs cells slots (lw_Z below #[Value.ref b] s) (F0 m 70 ls [])) : ∀ (x2 : Int32) (u0 : Mm), ∀ cells slots : Nat, cells + (N + 1) ≤ 1000 ∧ slots + 6 * (N + 1) ≤ 20000 → ∀ (H : Heap) (locs : List Loc) (ls : Array Slot), HpW o D cA u0 s H locs → lv_has ls 15 [(0, .ref b), (1, .ref (o + 0)), (2, .int x2)] → w_L_law_503 L xs X70 PL x2 u0 → W p l e room_1 s m #[Value.ref b] below meth c H locs cells slots (lw_Z below #[Value.ref b] s) (F0 m 503 ls []) := by
  intro x2 u0 cells slots hc H locs ls P hl h
  have hx := C.1.1
  have hb := C.1.2.1
  unfold w_L_law_503 at h
  refine lv_iconst (v := 1) hx hb dL_law_503 (by decide) ?_
  refine lv_goto (tgt := 508) hx hb dL_law_504 (by decide) ?_
  exact t_L_law_508 C hX hbo hL ho hX70 _ _ u0 _ _ ⟨by omega, by omega⟩ _ _ _ P (lv_sub hl [0, 1, 2] rfl) h
def w_L_law_450 (L : Nat) (xs : Nat → Int32) (X70 : Int32 → Mm → Prop) (Φ : Int32 → Mm → Prop) (x2 : Int32) (z0 : Int32) (u0 : Mm) : Prop := (w_L_law_997 L xs X70 Φ x2 z0 u0)
set_option maxHeartbeats 4000000 in
set_option maxRecDepth 100000 in
theorem t_L_law_450 {p : Program} {l : Launch} {e : Env} {s : State} {m : MethodId} {below : List Frame} {meth : Method} {c : Code} {D : va_G} {cA : Nat → ClassId} {o b L : Nat} {xs : Nat → Int32} {N : Nat} {X70 : Int32 → Mm → Prop} (C : Cx p m meth c s #[Value.ref b] cL_law 15 wsL_law RL ret D (tysL cA)) (hX : va_X b L xs s s.heap) (hbo : b < o) (hL : L ≤ 260) (ho : s.heap.size = o) (hX70 : ∀ (x2 : Int32) (u0 : Mm), ∀ cells slots : Nat, cells + N ≤ 1000 ∧ slots + 6 * N ≤ 20000 → ∀ (H : Heap) (locs : List Loc) (ls : Array Slot), HpW o D cA u0 s H locs → lv_has ls 15 [(0, .ref b), (1, .ref (o + 0)), (2, .int x2)] → X70 x2 u0 → W p l e room_1 s m #[Value.ref b] below meth c H locs cells slots (lw_Z below #[Value.ref b] s) (F0 m 70 ls [])) : ∀ (x2 : Int32) (z0 : Int32) (u0 : Mm), ∀ cells slots : Nat, cells + (N + 1) ≤ 1000 ∧ slots + 6 * (N + 1) ≤ 20000 → ∀ (H : Heap) (locs : List Loc) (ls : Array Slot), HpW o D cA u0 s H locs → lv_has ls 15 [(0, .ref b), (1, .ref (o + 0)), (2, .int x2)] → w_L_law_450 L xs X70 PL x2 z0 u0 → W p l e room_1 s m #[Value.ref b] below meth c H locs cells slots (lw_Z below #[Value.ref b] s) (F0 m 450 ls [.int z0]) := by
  intro x2 z0 u0 cells slots hc H locs ls P hl h
  have hx := C.1.1
  have hb := C.1.2.1
  unfold w_L_law_450 at h
  refine lv_istore (lv' := [(10, .int z0), (0, .ref b), (1, .ref (o + 0)), (2, .int x2)]) hx hb dL_law_450 hl (by decide) rfl (fun ls hl => ?_)
  refine lv_goto (tgt := 997) hx hb dL_law_452 (by decide) ?_
  exact t_L_law_997 C hX hbo hL ho hX70 _ _ u0 _ _ ⟨by omega, by omega⟩ _ _ _ P (lv_sub hl [1, 2, 3, 0] rfl) h
def w_L_law_442 (L : Nat) (xs : Nat → Int32) (X70 : Int32 → Mm → Prop) (Φ : Int32 → Mm → Prop) (x2 : Int32) (z0 : Int32) (z1 : Int32) (u0 : Mm) : Prop := (if z1 = z0 then (w_L_law_450 L xs X70 Φ x2 ((1 : Int32)) u0) else (w_L_law_450 L xs X70 Φ x2 ((0 : Int32)) u0))
set_option maxHeartbeats 4000000 in
set_option maxRecDepth 100000 in
theorem t_L_law_442 {p : Program} {l : Launch} {e : Env} {s : State} {m : MethodId} {below : List Frame} {meth : Method} {c : Code} {D : va_G} {cA : Nat → ClassId} {o b L : Nat} {xs : Nat → Int32} {N : Nat} {X70 : Int32 → Mm → Prop} (C : Cx p m meth c s #[Value.ref b] cL_law 15 wsL_law RL ret D (tysL cA)) (hX : va_X b L xs s s.heap) (hbo : b < o) (hL : L ≤ 260) (ho : s.heap.size = o) (hX70 : ∀ (x2 : Int32) (u0 : Mm), ∀ cells slots : Nat, cells + N ≤ 1000 ∧ slots + 6 * N ≤ 20000 → ∀ (H : Heap) (locs : List Loc) (ls : Array Slot), HpW o D cA u0 s H locs → lv_has ls 15 [(0, .ref b), (1, .ref (o + 0)), (2, .int x2)] → X70 x2 u0 → W p l e room_1 s m #[Value.ref b] below meth c H locs cells slots (lw_Z below #[Value.ref b] s) (F0 m 70 ls [])) : ∀ (x2 : Int32) (z0 : Int32) (z1 : Int32) (u0 : Mm), ∀ cells slots : Nat, cells + (N + 1) ≤ 1000 ∧ slots + 6 * (N + 1) ≤ 20000 → ∀ (H : Heap) (locs : List Loc) (ls : Array Slot), HpW o D cA u0 s H locs → lv_has ls 15 [(0, .ref b), (1, .ref (o + 0)), (2, .int x2)] → w_L_law_442 L xs X70 PL x2 z0 z1 u0 → W p l e room_1 s m #[Value.ref b] below meth c H locs cells slots (lw_Z below #[Value.ref b] s) (F0 m 442 ls [.int z0, .int z1]) := by
  intro x2 z0 z1 u0 cells slots hc H locs ls P hl h
  have hx := C.1.1
  have hb := C.1.2.1
  unfold w_L_law_442 at h
  refine lv_icmp_ne (tgt := 449) hx hb dL_law_442 (by decide) (fun c143 => ?_) (fun c143 => ?_)
  · have h := ite_f h c143
    refine lv_iconst (v := 0) hx hb dL_law_449 (by decide) ?_
    exact t_L_law_450 C hX hbo hL ho hX70 _ _ u0 _ _ ⟨by omega, by omega⟩ _ _ _ P (lv_sub hl [0, 1, 2] rfl) h
  · have h := ite_t h c143
    refine lv_iconst (v := 1) hx hb dL_law_445 (by decide) ?_
    refine lv_goto (tgt := 450) hx hb dL_law_446 (by decide) ?_
    exact t_L_law_450 C hX hbo hL ho hX70 _ _ u0 _ _ ⟨by omega, by omega⟩ _ _ _ P (lv_sub hl [0, 1, 2] rfl) h
def w_L_law_405 (L : Nat) (xs : Nat → Int32) (X70 : Int32 → Mm → Prop) (Φ : Int32 → Mm → Prop) (x2 : Int32) (x11 : Int32) (x13 : Int32) (x14 : Int32) (z0 : Int32) (u0 : Mm) : Prop := (if z0 = x13 then (if x14 = (-5 : Int32) then (w_L_law_450 L xs X70 Φ x2 ((1 : Int32)) u0) else (w_L_law_450 L xs X70 Φ x2 ((0 : Int32)) u0)) else (w_X9_passOf x11 ((1 : Int32)) u0 (fun r141 u140 => (if x13 = 0 then (w_L_law_442 L xs X70 Φ x2 ((0 : Int32)) r141 u140) else (w_L_law_442 L xs X70 Φ x2 ((1 : Int32)) r141 u140)))))
set_option maxHeartbeats 4000000 in
set_option maxRecDepth 100000 in
theorem t_L_law_405 {p : Program} {l : Launch} {e : Env} {s : State} {m : MethodId} {below : List Frame} {meth : Method} {c : Code} {D : va_G} {cA : Nat → ClassId} {o b L : Nat} {xs : Nat → Int32} {N : Nat} {X70 : Int32 → Mm → Prop} (C : Cx p m meth c s #[Value.ref b] cL_law 15 wsL_law RL ret D (tysL cA)) (hX : va_X b L xs s s.heap) (hbo : b < o) (hL : L ≤ 260) (ho : s.heap.size = o) (hX70 : ∀ (x2 : Int32) (u0 : Mm), ∀ cells slots : Nat, cells + N ≤ 1000 ∧ slots + 6 * N ≤ 20000 → ∀ (H : Heap) (locs : List Loc) (ls : Array Slot), HpW o D cA u0 s H locs → lv_has ls 15 [(0, .ref b), (1, .ref (o + 0)), (2, .int x2)] → X70 x2 u0 → W p l e room_1 s m #[Value.ref b] below meth c H locs cells slots (lw_Z below #[Value.ref b] s) (F0 m 70 ls [])) : ∀ (x2 : Int32) (x11 : Int32) (x13 : Int32) (x14 : Int32) (z0 : Int32) (u0 : Mm), ∀ cells slots : Nat, cells + (N + 1) ≤ 1000 ∧ slots + 6 * (N + 1) ≤ 20000 → ∀ (H : Heap) (locs : List Loc) (ls : Array Slot), HpW o D cA u0 s H locs → lv_has ls 15 [(0, .ref b), (1, .ref (o + 0)), (2, .int x2), (11, .int x11), (13, .int x13), (14, .int x14)] → w_L_law_405 L xs X70 PL x2 x11 x13 x14 z0 u0 → W p l e room_1 s m #[Value.ref b] below meth c H locs cells slots (lw_Z below #[Value.ref b] s) (F0 m 405 ls [.int z0]) := by
  intro x2 x11 x13 x14 z0 u0 cells slots hc H locs ls P hl h
  have hx := C.1.1
  have hb := C.1.2.1
  unfold w_L_law_405 at h
  refine lv_iload hx hb dL_law_405 (lv_at hl 4 rfl) ?_
  refine lv_icmp_ne (tgt := 425) hx hb dL_law_407 (by decide) (fun c139 => ?_) (fun c139 => ?_)
  · have h := ite_f h c139
    refine lv_aload_n hx hb dL_law_425 rfl (lv_at hl 1 rfl) ?_
    refine lv_iload hx hb dL_law_426 (lv_at hl 3 rfl) ?_
    refine lv_iconst (v := 1) hx hb dL_law_428 (by decide) ?_
    refine w_calli (va_runV (As := [.int x11, .int (1 : Int32)]) (rest := []) C.1 (c_X9_passOf l D cA o _ _ u0 _ h) (cwV 2 C.1.2.2.2.2 gL_law_X9_passOf rfl rfl rfl (by decide +kernel) ⟨Nat.le_of_ble_eq_true rfl, Nat.le_of_ble_eq_true rfl⟩) (w_preV C P.1 [.int x11, .int (1 : Int32)] (ci := 9) rfl (kd_lt kd_at_0 (by decide)) (EK_9 kd_at_0)) rfl rfl hl.1 rfl (lv_room (Nat.le_of_ble_eq_true rfl)) dL_law_429 (w_fit (by omega) (by omega))) P (fun r141 u140 H locs h P => ?_)
    refine lv_iload hx hb dL_law_432 (lv_at hl 4 rfl) ?_
    refine lv_if_eq (tgt := 441) hx hb dL_law_434 (by decide) (fun c142 => ?_) (fun c142 => ?_)
    · have h := ite_t h c142
      refine lv_iconst (v := 0) hx hb dL_law_441 (by decide) ?_
      exact t_L_law_442 C hX hbo hL ho hX70 _ _ _ u140 _ _ ⟨by omega, by omega⟩ _ _ _ P (lv_sub hl [0, 1, 2] rfl) h
    · have h := ite_f h c142
      refine lv_iconst (v := 1) hx hb dL_law_437 (by decide) ?_
      refine lv_goto (tgt := 442) hx hb dL_law_438 (by decide) ?_
      exact t_L_law_442 C hX hbo hL ho hX70 _ _ _ u140 _ _ ⟨by omega, by omega⟩ _ _ _ P (lv_sub hl [0, 1, 2] rfl) h
  · have h := ite_t h c139
    refine lv_iload hx hb dL_law_410 (lv_at hl 5 rfl) ?_
    refine lv_bipush (v := -5) hx hb dL_law_412 (by decide) ?_
    refine lv_icmp_ne (tgt := 421) hx hb dL_law_414 (by decide) (fun c144 => ?_) (fun c144 => ?_)
    · have h := ite_f h c144
      refine lv_iconst (v := 0) hx hb dL_law_421 (by decide) ?_
      refine lv_goto (tgt := 450) hx hb dL_law_422 (by decide) ?_
      exact t_L_law_450 C hX hbo hL ho hX70 _ _ u0 _ _ ⟨by omega, by omega⟩ _ _ _ P (lv_sub hl [0, 1, 2] rfl) h
    · have h := ite_t h c144
      refine lv_iconst (v := 1) hx hb dL_law_417 (by decide) ?_
      refine lv_goto (tgt := 450) hx hb dL_law_418 (by decide) ?_
      exact t_L_law_450 C hX hbo hL ho hX70 _ _ u0 _ _ ⟨by omega, by omega⟩ _ _ _ P (lv_sub hl [0, 1, 2] rfl) h
def w_L_law_363 (L : Nat) (xs : Nat → Int32) (X70 : Int32 → Mm → Prop) (Φ : Int32 → Mm → Prop) (x2 : Int32) (x11 : Int32) (x12 : Int32) (z0 : Int32) (u0 : Mm) : Prop := (w_X9_block x11 z0 u0 (fun r136 u135 => (if 0 ≤ x12 then (if x12 = (1 : Int32) then (w_L_law_405 L xs X70 Φ x2 x11 z0 r136 ((1 : Int32)) u135) else (w_L_law_405 L xs X70 Φ x2 x11 z0 r136 ((0 : Int32)) u135)) else (if r136 = (-1 : Int32) then (w_L_law_450 L xs X70 Φ x2 ((1 : Int32)) u135) else (w_L_law_450 L xs X70 Φ x2 ((0 : Int32)) u135)))))
set_option maxHeartbeats 4000000 in
set_option maxRecDepth 100000 in
theorem t_L_law_363 {p : Program} {l : Launch} {e : Env} {s : State} {m : MethodId} {below : List Frame} {meth : Method} {c : Code} {D : va_G} {cA : Nat → ClassId} {o b L : Nat} {xs : Nat → Int32} {N : Nat} {X70 : Int32 → Mm → Prop} (C : Cx p m meth c s #[Value.ref b] cL_law 15 wsL_law RL ret D (tysL cA)) (hX : va_X b L xs s s.heap) (hbo : b < o) (hL : L ≤ 260) (ho : s.heap.size = o) (hX70 : ∀ (x2 : Int32) (u0 : Mm), ∀ cells slots : Nat, cells + N ≤ 1000 ∧ slots + 6 * N ≤ 20000 → ∀ (H : Heap) (locs : List Loc) (ls : Array Slot), HpW o D cA u0 s H locs → lv_has ls 15 [(0, .ref b), (1, .ref (o + 0)), (2, .int x2)] → X70 x2 u0 → W p l e room_1 s m #[Value.ref b] below meth c H locs cells slots (lw_Z below #[Value.ref b] s) (F0 m 70 ls [])) : ∀ (x2 : Int32) (x11 : Int32) (x12 : Int32) (z0 : Int32) (u0 : Mm), ∀ cells slots : Nat, cells + (N + 1) ≤ 1000 ∧ slots + 6 * (N + 1) ≤ 20000 → ∀ (H : Heap) (locs : List Loc) (ls : Array Slot), HpW o D cA u0 s H locs → lv_has ls 15 [(0, .ref b), (1, .ref (o + 0)), (2, .int x2), (11, .int x11), (12, .int x12)] → w_L_law_363 L xs X70 PL x2 x11 x12 z0 u0 → W p l e room_1 s m #[Value.ref b] below meth c H locs cells slots (lw_Z below #[Value.ref b] s) (F0 m 363 ls [.int z0]) := by
  intro x2 x11 x12 z0 u0 cells slots hc H locs ls P hl h
  have hx := C.1.1
  have hb := C.1.2.1
  unfold w_L_law_363 at h
  refine lv_istore (lv' := [(13, .int z0), (0, .ref b), (1, .ref (o + 0)), (2, .int x2), (11, .int x11), (12, .int x12)]) hx hb dL_law_363 hl (by decide) rfl (fun ls hl => ?_)
  refine lv_aload_n hx hb dL_law_365 rfl (lv_at hl 2 rfl) ?_
  refine lv_iload hx hb dL_law_366 (lv_at hl 4 rfl) ?_
  refine lv_iload hx hb dL_law_368 (lv_at hl 0 rfl) ?_
  refine w_calli (va_runV (As := [.int x11, .int z0]) (rest := []) C.1 (c_X9_block l D cA o _ _ u0 _ h) (cwV 2 C.1.2.2.2.2 gL_law_X9_block rfl rfl rfl (by decide +kernel) ⟨Nat.le_of_ble_eq_true rfl, Nat.le_of_ble_eq_true rfl⟩) (w_preV C P.1 [.int x11, .int z0] (ci := 9) rfl (kd_lt kd_at_0 (by decide)) (EK_9 kd_at_0)) rfl rfl hl.1 rfl (lv_room (Nat.le_of_ble_eq_true rfl)) dL_law_370 (w_fit (by omega) (by omega))) P (fun r136 u135 H locs h P => ?_)
  refine lv_istore (lv' := [(14, .int r136), (13, .int z0), (0, .ref b), (1, .ref (o + 0)), (2, .int x2), (11, .int x11), (12, .int x12)]) hx hb dL_law_373 hl (by decide) rfl (fun ls hl => ?_)
  refine lv_iload hx hb dL_law_375 (lv_at hl 6 rfl) ?_
  refine lv_if_ge (tgt := 394) hx hb dL_law_377 (by decide) (fun c137 => ?_) (fun c137 => ?_)
  · have h := ite_t h c137
    refine lv_iload hx hb dL_law_394 (lv_at hl 6 rfl) ?_
    refine lv_iconst (v := 1) hx hb dL_law_396 (by decide) ?_
    refine lv_icmp_ne (tgt := 404) hx hb dL_law_397 (by decide) (fun c138 => ?_) (fun c138 => ?_)
    · have h := ite_f h c138
      refine lv_iconst (v := 0) hx hb dL_law_404 (by decide) ?_
      exact t_L_law_405 C hX hbo hL ho hX70 _ _ _ _ _ u135 _ _ ⟨by omega, by omega⟩ _ _ _ P (lv_sub hl [2, 3, 4, 5, 1, 0] rfl) h
    · have h := ite_t h c138
      refine lv_iconst (v := 1) hx hb dL_law_400 (by decide) ?_
      refine lv_goto (tgt := 405) hx hb dL_law_401 (by decide) ?_
      exact t_L_law_405 C hX hbo hL ho hX70 _ _ _ _ _ u135 _ _ ⟨by omega, by omega⟩ _ _ _ P (lv_sub hl [2, 3, 4, 5, 1, 0] rfl) h
  · have h := ite_f h c137
    refine lv_iload hx hb dL_law_380 (lv_at hl 0 rfl) ?_
    refine lv_iconst (v := -1) hx hb dL_law_382 (by decide) ?_
    refine lv_icmp_ne (tgt := 390) hx hb dL_law_383 (by decide) (fun c145 => ?_) (fun c145 => ?_)
    · have h := ite_f h c145
      refine lv_iconst (v := 0) hx hb dL_law_390 (by decide) ?_
      refine lv_goto (tgt := 450) hx hb dL_law_391 (by decide) ?_
      exact t_L_law_450 C hX hbo hL ho hX70 _ _ u135 _ _ ⟨by omega, by omega⟩ _ _ _ P (lv_sub hl [2, 3, 4] rfl) h
    · have h := ite_t h c145
      refine lv_iconst (v := 1) hx hb dL_law_386 (by decide) ?_
      refine lv_goto (tgt := 450) hx hb dL_law_387 (by decide) ?_
      exact t_L_law_450 C hX hbo hL ho hX70 _ _ u135 _ _ ⟨by omega, by omega⟩ _ _ _ P (lv_sub hl [2, 3, 4] rfl) h
def w_L_law_323 (L : Nat) (xs : Nat → Int32) (X70 : Int32 → Mm → Prop) (Φ : Int32 → Mm → Prop) (x2 : Int32) (z0 : Int32) (u0 : Mm) : Prop := (w_L_law_997 L xs X70 Φ x2 z0 u0)
set_option maxHeartbeats 4000000 in
set_option maxRecDepth 100000 in
theorem t_L_law_323 {p : Program} {l : Launch} {e : Env} {s : State} {m : MethodId} {below : List Frame} {meth : Method} {c : Code} {D : va_G} {cA : Nat → ClassId} {o b L : Nat} {xs : Nat → Int32} {N : Nat} {X70 : Int32 → Mm → Prop} (C : Cx p m meth c s #[Value.ref b] cL_law 15 wsL_law RL ret D (tysL cA)) (hX : va_X b L xs s s.heap) (hbo : b < o) (hL : L ≤ 260) (ho : s.heap.size = o) (hX70 : ∀ (x2 : Int32) (u0 : Mm), ∀ cells slots : Nat, cells + N ≤ 1000 ∧ slots + 6 * N ≤ 20000 → ∀ (H : Heap) (locs : List Loc) (ls : Array Slot), HpW o D cA u0 s H locs → lv_has ls 15 [(0, .ref b), (1, .ref (o + 0)), (2, .int x2)] → X70 x2 u0 → W p l e room_1 s m #[Value.ref b] below meth c H locs cells slots (lw_Z below #[Value.ref b] s) (F0 m 70 ls [])) : ∀ (x2 : Int32) (z0 : Int32) (u0 : Mm), ∀ cells slots : Nat, cells + (N + 1) ≤ 1000 ∧ slots + 6 * (N + 1) ≤ 20000 → ∀ (H : Heap) (locs : List Loc) (ls : Array Slot), HpW o D cA u0 s H locs → lv_has ls 15 [(0, .ref b), (1, .ref (o + 0)), (2, .int x2)] → w_L_law_323 L xs X70 PL x2 z0 u0 → W p l e room_1 s m #[Value.ref b] below meth c H locs cells slots (lw_Z below #[Value.ref b] s) (F0 m 323 ls [.int z0]) := by
  intro x2 z0 u0 cells slots hc H locs ls P hl h
  have hx := C.1.1
  have hb := C.1.2.1
  unfold w_L_law_323 at h
  refine lv_istore (lv' := [(10, .int z0), (0, .ref b), (1, .ref (o + 0)), (2, .int x2)]) hx hb dL_law_323 hl (by decide) rfl (fun ls hl => ?_)
  refine lv_goto (tgt := 997) hx hb dL_law_325 (by decide) ?_
  exact t_L_law_997 C hX hbo hL ho hX70 _ _ u0 _ _ ⟨by omega, by omega⟩ _ _ _ P (lv_sub hl [1, 2, 3, 0] rfl) h
def w_L_law_270 (L : Nat) (xs : Nat → Int32) (X70 : Int32 → Mm → Prop) (Φ : Int32 → Mm → Prop) (x2 : Int32) (z0 : Int32) (u0 : Mm) : Prop := (w_L_law_997 L xs X70 Φ x2 z0 u0)
set_option maxHeartbeats 4000000 in
set_option maxRecDepth 100000 in
theorem t_L_law_270 {p : Program} {l : Launch} {e : Env} {s : State} {m : MethodId} {below : List Frame} {meth : Method} {c : Code} {D : va_G} {cA : Nat → ClassId} {o b L : Nat} {xs : Nat → Int32} {N : Nat} {X70 : Int32 → Mm → Prop} (C : Cx p m meth c s #[Value.ref b] cL_law 15 wsL_law RL ret D (tysL cA)) (hX : va_X b L xs s s.heap) (hbo : b < o) (hL : L ≤ 260) (ho : s.heap.size = o) (hX70 : ∀ (x2 : Int32) (u0 : Mm), ∀ cells slots : Nat, cells + N ≤ 1000 ∧ slots + 6 * N ≤ 20000 → ∀ (H : Heap) (locs : List Loc) (ls : Array Slot), HpW o D cA u0 s H locs → lv_has ls 15 [(0, .ref b), (1, .ref (o + 0)), (2, .int x2)] → X70 x2 u0 → W p l e room_1 s m #[Value.ref b] below meth c H locs cells slots (lw_Z below #[Value.ref b] s) (F0 m 70 ls [])) : ∀ (x2 : Int32) (z0 : Int32) (u0 : Mm), ∀ cells slots : Nat, cells + (N + 1) ≤ 1000 ∧ slots + 6 * (N + 1) ≤ 20000 → ∀ (H : Heap) (locs : List Loc) (ls : Array Slot), HpW o D cA u0 s H locs → lv_has ls 15 [(0, .ref b), (1, .ref (o + 0)), (2, .int x2)] → w_L_law_270 L xs X70 PL x2 z0 u0 → W p l e room_1 s m #[Value.ref b] below meth c H locs cells slots (lw_Z below #[Value.ref b] s) (F0 m 270 ls [.int z0]) := by
  intro x2 z0 u0 cells slots hc H locs ls P hl h
  have hx := C.1.1
  have hb := C.1.2.1
  unfold w_L_law_270 at h
  refine lv_istore (lv' := [(10, .int z0), (0, .ref b), (1, .ref (o + 0)), (2, .int x2)]) hx hb dL_law_270 hl (by decide) rfl (fun ls hl => ?_)
  refine lv_goto (tgt := 997) hx hb dL_law_272 (by decide) ?_
  exact t_L_law_997 C hX hbo hL ho hX70 _ _ u0 _ _ ⟨by omega, by omega⟩ _ _ _ P (lv_sub hl [1, 2, 3, 0] rfl) h
def w_L_law_269 (L : Nat) (xs : Nat → Int32) (X70 : Int32 → Mm → Prop) (Φ : Int32 → Mm → Prop) (x2 : Int32) (u0 : Mm) : Prop := (w_L_law_270 L xs X70 Φ x2 ((0 : Int32)) u0)
set_option maxHeartbeats 4000000 in
set_option maxRecDepth 100000 in
theorem t_L_law_269 {p : Program} {l : Launch} {e : Env} {s : State} {m : MethodId} {below : List Frame} {meth : Method} {c : Code} {D : va_G} {cA : Nat → ClassId} {o b L : Nat} {xs : Nat → Int32} {N : Nat} {X70 : Int32 → Mm → Prop} (C : Cx p m meth c s #[Value.ref b] cL_law 15 wsL_law RL ret D (tysL cA)) (hX : va_X b L xs s s.heap) (hbo : b < o) (hL : L ≤ 260) (ho : s.heap.size = o) (hX70 : ∀ (x2 : Int32) (u0 : Mm), ∀ cells slots : Nat, cells + N ≤ 1000 ∧ slots + 6 * N ≤ 20000 → ∀ (H : Heap) (locs : List Loc) (ls : Array Slot), HpW o D cA u0 s H locs → lv_has ls 15 [(0, .ref b), (1, .ref (o + 0)), (2, .int x2)] → X70 x2 u0 → W p l e room_1 s m #[Value.ref b] below meth c H locs cells slots (lw_Z below #[Value.ref b] s) (F0 m 70 ls [])) : ∀ (x2 : Int32) (u0 : Mm), ∀ cells slots : Nat, cells + (N + 1) ≤ 1000 ∧ slots + 6 * (N + 1) ≤ 20000 → ∀ (H : Heap) (locs : List Loc) (ls : Array Slot), HpW o D cA u0 s H locs → lv_has ls 15 [(0, .ref b), (1, .ref (o + 0)), (2, .int x2)] → w_L_law_269 L xs X70 PL x2 u0 → W p l e room_1 s m #[Value.ref b] below meth c H locs cells slots (lw_Z below #[Value.ref b] s) (F0 m 269 ls []) := by
  intro x2 u0 cells slots hc H locs ls P hl h
  have hx := C.1.1
  have hb := C.1.2.1
  unfold w_L_law_269 at h
  refine lv_iconst (v := 0) hx hb dL_law_269 (by decide) ?_
  exact t_L_law_270 C hX hbo hL ho hX70 _ _ u0 _ _ ⟨by omega, by omega⟩ _ _ _ P (lv_sub hl [0, 1, 2] rfl) h
def w_L_law_212 (L : Nat) (xs : Nat → Int32) (X70 : Int32 → Mm → Prop) (Φ : Int32 → Mm → Prop) (x2 : Int32) (z0 : Int32) (u0 : Mm) : Prop := (w_L_law_997 L xs X70 Φ x2 z0 u0)
set_option maxHeartbeats 4000000 in
set_option maxRecDepth 100000 in
theorem t_L_law_212 {p : Program} {l : Launch} {e : Env} {s : State} {m : MethodId} {below : List Frame} {meth : Method} {c : Code} {D : va_G} {cA : Nat → ClassId} {o b L : Nat} {xs : Nat → Int32} {N : Nat} {X70 : Int32 → Mm → Prop} (C : Cx p m meth c s #[Value.ref b] cL_law 15 wsL_law RL ret D (tysL cA)) (hX : va_X b L xs s s.heap) (hbo : b < o) (hL : L ≤ 260) (ho : s.heap.size = o) (hX70 : ∀ (x2 : Int32) (u0 : Mm), ∀ cells slots : Nat, cells + N ≤ 1000 ∧ slots + 6 * N ≤ 20000 → ∀ (H : Heap) (locs : List Loc) (ls : Array Slot), HpW o D cA u0 s H locs → lv_has ls 15 [(0, .ref b), (1, .ref (o + 0)), (2, .int x2)] → X70 x2 u0 → W p l e room_1 s m #[Value.ref b] below meth c H locs cells slots (lw_Z below #[Value.ref b] s) (F0 m 70 ls [])) : ∀ (x2 : Int32) (z0 : Int32) (u0 : Mm), ∀ cells slots : Nat, cells + (N + 1) ≤ 1000 ∧ slots + 6 * (N + 1) ≤ 20000 → ∀ (H : Heap) (locs : List Loc) (ls : Array Slot), HpW o D cA u0 s H locs → lv_has ls 15 [(0, .ref b), (1, .ref (o + 0)), (2, .int x2)] → w_L_law_212 L xs X70 PL x2 z0 u0 → W p l e room_1 s m #[Value.ref b] below meth c H locs cells slots (lw_Z below #[Value.ref b] s) (F0 m 212 ls [.int z0]) := by
  intro x2 z0 u0 cells slots hc H locs ls P hl h
  have hx := C.1.1
  have hb := C.1.2.1
  unfold w_L_law_212 at h
  refine lv_istore (lv' := [(10, .int z0), (0, .ref b), (1, .ref (o + 0)), (2, .int x2)]) hx hb dL_law_212 hl (by decide) rfl (fun ls hl => ?_)
  refine lv_goto (tgt := 997) hx hb dL_law_214 (by decide) ?_
  exact t_L_law_997 C hX hbo hL ho hX70 _ _ u0 _ _ ⟨by omega, by omega⟩ _ _ _ P (lv_sub hl [1, 2, 3, 0] rfl) h
def w_L_law_207 (L : Nat) (xs : Nat → Int32) (X70 : Int32 → Mm → Prop) (Φ : Int32 → Mm → Prop) (x2 : Int32) (u0 : Mm) : Prop := (w_L_law_212 L xs X70 Φ x2 ((1 : Int32)) u0)
set_option maxHeartbeats 4000000 in
set_option maxRecDepth 100000 in
theorem t_L_law_207 {p : Program} {l : Launch} {e : Env} {s : State} {m : MethodId} {below : List Frame} {meth : Method} {c : Code} {D : va_G} {cA : Nat → ClassId} {o b L : Nat} {xs : Nat → Int32} {N : Nat} {X70 : Int32 → Mm → Prop} (C : Cx p m meth c s #[Value.ref b] cL_law 15 wsL_law RL ret D (tysL cA)) (hX : va_X b L xs s s.heap) (hbo : b < o) (hL : L ≤ 260) (ho : s.heap.size = o) (hX70 : ∀ (x2 : Int32) (u0 : Mm), ∀ cells slots : Nat, cells + N ≤ 1000 ∧ slots + 6 * N ≤ 20000 → ∀ (H : Heap) (locs : List Loc) (ls : Array Slot), HpW o D cA u0 s H locs → lv_has ls 15 [(0, .ref b), (1, .ref (o + 0)), (2, .int x2)] → X70 x2 u0 → W p l e room_1 s m #[Value.ref b] below meth c H locs cells slots (lw_Z below #[Value.ref b] s) (F0 m 70 ls [])) : ∀ (x2 : Int32) (u0 : Mm), ∀ cells slots : Nat, cells + (N + 1) ≤ 1000 ∧ slots + 6 * (N + 1) ≤ 20000 → ∀ (H : Heap) (locs : List Loc) (ls : Array Slot), HpW o D cA u0 s H locs → lv_has ls 15 [(0, .ref b), (1, .ref (o + 0)), (2, .int x2)] → w_L_law_207 L xs X70 PL x2 u0 → W p l e room_1 s m #[Value.ref b] below meth c H locs cells slots (lw_Z below #[Value.ref b] s) (F0 m 207 ls []) := by
  intro x2 u0 cells slots hc H locs ls P hl h
  have hx := C.1.1
  have hb := C.1.2.1
  unfold w_L_law_207 at h
  refine lv_iconst (v := 1) hx hb dL_law_207 (by decide) ?_
  refine lv_goto (tgt := 212) hx hb dL_law_208 (by decide) ?_
  exact t_L_law_212 C hX hbo hL ho hX70 _ _ u0 _ _ ⟨by omega, by omega⟩ _ _ _ P (lv_sub hl [0, 1, 2] rfl) h
def w_L_law_147 (L : Nat) (xs : Nat → Int32) (X70 : Int32 → Mm → Prop) (Φ : Int32 → Mm → Prop) (x2 : Int32) (x3 : Int32) (x4 : Int32) (x5 : Int32) (x6 : Int32) (x7 : Int32) (x8 : Int32) (z0 : Int32) (u0 : Mm) : Prop := (if x5 = 0 then (if (3 : Int32) < x6 then (w_L_law_207 L xs X70 Φ x2 u0) else (w_L_low x3 ((3 : Int32)) u0 (fun r169 u168 => (w_L_low x4 ((4 : Int32)) u168 (fun r171 u170 => (w_L_low ((x4 >>> ((3 : Int32) &&& 31))) ((6 : Int32)) u170 (fun r173 u172 => (w_L_low ((x4 >>> ((6 : Int32) &&& 31))) ((5 : Int32)) u172 (fun r175 u174 => (w_X9_addGate r169 (((1 : Int32) + r171)) (((1 : Int32) + r173)) (((1 : Int32) + r175)) u174 (fun r177 u176 => (if r177 = x6 then (w_L_law_207 L xs X70 Φ x2 u176) else (w_L_law_212 L xs X70 Φ x2 ((0 : Int32)) u176))))))))))))) else (if x5 = (1 : Int32) then (w_X9_gate x8 ((0 : Int32)) u0 (fun r156 u155 => (w_L_low x4 ((3 : Int32)) u155 (fun r158 u157 => (w_X9_setDirection x8 r158 u157 (fun r160 u159 => (if r160 = r156 then (w_X9_gate x8 ((0 : Int32)) u159 (fun r163 u162 => (w_L_low x4 ((3 : Int32)) u162 (fun r165 u164 => (if r163 = r165 then (w_L_law_270 L xs X70 Φ x2 ((1 : Int32)) u164) else (w_L_law_269 L xs X70 Φ x2 u164)))))) else (w_L_law_269 L xs X70 Φ x2 u159)))))))) else (if x5 = (2 : Int32) then (w_X9_pool ((0 : Int32)) ((0 : Int32)) u0 (fun r147 u146 => (w_L_low x4 ((50 : Int32)) u146 (fun r149 u148 => (w_X9_credit ((0 : Int32)) (((1 : Int32) + r149)) u148 (fun r151 u150 => (w_L_low x4 ((50 : Int32)) u150 (fun r153 u152 => (if r151 = ((r147 + (1 : Int32)) + r153) then (w_L_law_323 L xs X70 Φ x2 ((1 : Int32)) u152) else (w_L_law_323 L xs X70 Φ x2 ((0 : Int32)) u152)))))))))) else (if x5 = (3 : Int32) then (w_L_low x3 ((3 : Int32)) u0 (fun r131 u130 => (w_X9_passOf r131 ((1 : Int32)) u130 (fun r133 u132 => (if (x4 &&& (1 : Int32)) = (1 : Int32) then (w_L_law_363 L xs X70 Φ x2 r131 r133 ((1 : Int32)) u132) else (w_L_law_363 L xs X70 Φ x2 r131 r133 ((0 : Int32)) u132)))))) else (if x5 = (4 : Int32) then (w_X9_count ((9 : Int32)) u0 (fun r118 u117 => (w_L_low x4 ((30 : Int32)) u117 (fun r120 u119 => (w_X9_setFare r120 u119 (fun r122 u121 => (if r122 = r118 then (w_X9_passOf ((2 : Int32)) ((0 : Int32)) u121 (fun r125 u124 => (if 0 ≤ r125 then (w_L_law_503 L xs X70 Φ x2 u124) else (w_X9_addPass ((0 : Int32)) u124 (fun r128 u127 => (if r128 = (2 : Int32) then (w_L_law_503 L xs X70 Φ x2 u127) else (w_L_law_507 L xs X70 Φ x2 u127))))))) else (w_L_law_507 L xs X70 Φ x2 u121)))))))) else (if (8 : Int32) ≤ x5 then (if x5 = (8 : Int32) then (if x7 ≤ 0 then (w_L_law_670 L xs X70 Φ x2 x4 x5 x6 x7 x8 z0 ((1 : Int32)) u0) else (w_X9_gate x8 ((5 : Int32)) u0 (fun r99 u98 => (w_X9_person z0 ((0 : Int32)) u98 (fun r101 u100 => (if r101 = (3 : Int32) then (w_L_law_633 L xs X70 Φ x2 x8 z0 r99 ((1 : Int32)) u100) else (w_L_law_633 L xs X70 Φ x2 x8 z0 r99 ((0 : Int32)) u100))))))) else (w_L_law_670 L xs X70 Φ x2 x4 x5 x6 x7 x8 z0 ((1 : Int32)) u0)) else (w_L_low x4 ((4 : Int32)) u0 (fun r108 u107 => (w_X9_passOf ((r108 - (1 : Int32))) ((0 : Int32)) u107 (fun r110 u109 => (if 0 ≤ r110 then (w_L_law_546 L xs X70 Φ x2 x4 x7 x8 ((r108 - (1 : Int32))) u109) else (w_L_law_546 L xs X70 Φ x2 x4 x7 x8 ((-1 : Int32)) u109))))))))))))
set_option maxHeartbeats 4000000 in
set_option maxRecDepth 100000 in
theorem t_L_law_147 {p : Program} {l : Launch} {e : Env} {s : State} {m : MethodId} {below : List Frame} {meth : Method} {c : Code} {D : va_G} {cA : Nat → ClassId} {o b L : Nat} {xs : Nat → Int32} {N : Nat} {X70 : Int32 → Mm → Prop} (C : Cx p m meth c s #[Value.ref b] cL_law 15 wsL_law RL ret D (tysL cA)) (hX : va_X b L xs s s.heap) (hbo : b < o) (hL : L ≤ 260) (ho : s.heap.size = o) (hX70 : ∀ (x2 : Int32) (u0 : Mm), ∀ cells slots : Nat, cells + N ≤ 1000 ∧ slots + 6 * N ≤ 20000 → ∀ (H : Heap) (locs : List Loc) (ls : Array Slot), HpW o D cA u0 s H locs → lv_has ls 15 [(0, .ref b), (1, .ref (o + 0)), (2, .int x2)] → X70 x2 u0 → W p l e room_1 s m #[Value.ref b] below meth c H locs cells slots (lw_Z below #[Value.ref b] s) (F0 m 70 ls [])) : ∀ (x2 : Int32) (x3 : Int32) (x4 : Int32) (x5 : Int32) (x6 : Int32) (x7 : Int32) (x8 : Int32) (z0 : Int32) (u0 : Mm), ∀ cells slots : Nat, cells + (N + 1) ≤ 1000 ∧ slots + 6 * (N + 1) ≤ 20000 → ∀ (H : Heap) (locs : List Loc) (ls : Array Slot), HpW o D cA u0 s H locs → lv_has ls 15 [(0, .ref b), (1, .ref (o + 0)), (2, .int x2), (3, .int x3), (4, .int x4), (5, .int x5), (6, .int x6), (7, .int x7), (8, .int x8)] → w_L_law_147 L xs X70 PL x2 x3 x4 x5 x6 x7 x8 z0 u0 → W p l e room_1 s m #[Value.ref b] below meth c H locs cells slots (lw_Z below #[Value.ref b] s) (F0 m 147 ls [.int z0]) := by
  intro x2 x3 x4 x5 x6 x7 x8 z0 u0 cells slots hc H locs ls P hl h
  have hx := C.1.1
  have hb := C.1.2.1
  unfold w_L_law_147 at h
  refine lv_istore (lv' := [(9, .int z0), (0, .ref b), (1, .ref (o + 0)), (2, .int x2), (3, .int x3), (4, .int x4), (5, .int x5), (6, .int x6), (7, .int x7), (8, .int x8)]) hx hb dL_law_147 hl (by decide) rfl (fun ls hl => ?_)
  refine lv_iconst (v := 1) hx hb dL_law_149 (by decide) ?_
  refine lv_istore (lv' := [(10, .int (1 : Int32)), (9, .int z0), (0, .ref b), (1, .ref (o + 0)), (2, .int x2), (3, .int x3), (4, .int x4), (5, .int x5), (6, .int x6), (7, .int x7), (8, .int x8)]) hx hb dL_law_150 hl (by decide) rfl (fun ls hl => ?_)
  refine lv_iload hx hb dL_law_152 (lv_at hl 7 rfl) ?_
  refine lv_if_ne (tgt := 217) hx hb dL_law_154 (by decide) (fun c32 => ?_) (fun c32 => ?_)
  · have h := ite_f h c32
    refine lv_iload hx hb dL_law_217 (lv_at hl 7 rfl) ?_
    refine lv_iconst (v := 1) hx hb dL_law_219 (by decide) ?_
    refine lv_icmp_ne (tgt := 275) hx hb dL_law_220 (by decide) (fun c33 => ?_) (fun c33 => ?_)
    · have h := ite_f h c33
      refine lv_iload hx hb dL_law_275 (lv_at hl 7 rfl) ?_
      refine lv_iconst (v := 2) hx hb dL_law_277 (by decide) ?_
      refine lv_icmp_ne (tgt := 328) hx hb dL_law_278 (by decide) (fun c34 => ?_) (fun c34 => ?_)
      · have h := ite_f h c34
        refine lv_iload hx hb dL_law_328 (lv_at hl 7 rfl) ?_
        refine lv_iconst (v := 3) hx hb dL_law_330 (by decide) ?_
        refine lv_icmp_ne (tgt := 455) hx hb dL_law_331 (by decide) (fun c35 => ?_) (fun c35 => ?_)
        · have h := ite_f h c35
          refine lv_iload hx hb dL_law_455 (lv_at hl 7 rfl) ?_
          refine lv_iconst (v := 4) hx hb dL_law_457 (by decide) ?_
          refine lv_icmp_ne (tgt := 513) hx hb dL_law_458 (by decide) (fun c36 => ?_) (fun c36 => ?_)
          · have h := ite_f h c36
            refine lv_iload hx hb dL_law_513 (lv_at hl 7 rfl) ?_
            refine lv_bipush (v := 8) hx hb dL_law_515 (by decide) ?_
            refine lv_icmp_ge (tgt := 596) hx hb dL_law_517 (by decide) (fun c37 => ?_) (fun c37 => ?_)
            · have h := ite_t h c37
              refine lv_iload hx hb dL_law_596 (lv_at hl 7 rfl) ?_
              refine lv_bipush (v := 8) hx hb dL_law_598 (by decide) ?_
              refine lv_icmp_ne (tgt := 670) hx hb dL_law_600 (by decide) (fun c38 => ?_) (fun c38 => ?_)
              · have h := ite_f h c38
                exact t_L_law_670 C hX hbo hL ho hX70 _ _ _ _ _ _ _ _ u0 _ _ ⟨by omega, by omega⟩ _ _ _ P (lv_sub hl [2, 3, 4, 6, 7, 8, 9, 10, 1, 0] rfl) h
              · have h := ite_t h c38
                refine lv_iload hx hb dL_law_603 (lv_at hl 9 rfl) ?_
                refine lv_if_le (tgt := 670) hx hb dL_law_605 (by decide) (fun c97 => ?_) (fun c97 => ?_)
                · have h := ite_t h c97
                  exact t_L_law_670 C hX hbo hL ho hX70 _ _ _ _ _ _ _ _ u0 _ _ ⟨by omega, by omega⟩ _ _ _ P (lv_sub hl [2, 3, 4, 6, 7, 8, 9, 10, 1, 0] rfl) h
                · have h := ite_f h c97
                  refine lv_aload_n hx hb dL_law_608 rfl (lv_at hl 3 rfl) ?_
                  refine lv_iload hx hb dL_law_609 (lv_at hl 10 rfl) ?_
                  refine lv_iconst (v := 5) hx hb dL_law_611 (by decide) ?_
                  refine w_calli (va_runV (As := [.int x8, .int (5 : Int32)]) (rest := []) C.1 (c_X9_gate l D cA o _ _ u0 _ h) (cwV 2 C.1.2.2.2.2 gL_law_X9_gate rfl rfl rfl (by decide +kernel) ⟨Nat.le_of_ble_eq_true rfl, Nat.le_of_ble_eq_true rfl⟩) (w_preV C P.1 [.int x8, .int (5 : Int32)] (ci := 9) rfl (kd_lt kd_at_0 (by decide)) (EK_9 kd_at_0)) rfl rfl hl.1 rfl (lv_room (Nat.le_of_ble_eq_true rfl)) dL_law_612 (w_fit (by omega) (by omega))) P (fun r99 u98 H locs h P => ?_)
                  refine lv_istore (lv' := [(11, .int r99), (10, .int (1 : Int32)), (9, .int z0), (0, .ref b), (1, .ref (o + 0)), (2, .int x2), (3, .int x3), (4, .int x4), (5, .int x5), (6, .int x6), (7, .int x7), (8, .int x8)]) hx hb dL_law_615 hl (by decide) rfl (fun ls hl => ?_)
                  refine lv_aload_n hx hb dL_law_617 rfl (lv_at hl 4 rfl) ?_
                  refine lv_iload hx hb dL_law_618 (lv_at hl 2 rfl) ?_
                  refine lv_iconst (v := 0) hx hb dL_law_620 (by decide) ?_
                  refine w_calli (va_runV (As := [.int z0, .int (0 : Int32)]) (rest := []) C.1 (c_X9_person l D cA o _ _ u98 _ h) (cwV 2 C.1.2.2.2.2 gL_law_X9_person rfl rfl rfl (by decide +kernel) ⟨Nat.le_of_ble_eq_true rfl, Nat.le_of_ble_eq_true rfl⟩) (w_preV C P.1 [.int z0, .int (0 : Int32)] (ci := 9) rfl (kd_lt kd_at_0 (by decide)) (EK_9 kd_at_0)) rfl rfl hl.1 rfl (lv_room (Nat.le_of_ble_eq_true rfl)) dL_law_621 (w_fit (by omega) (by omega))) P (fun r101 u100 H locs h P => ?_)
                  refine lv_iconst (v := 3) hx hb dL_law_624 (by decide) ?_
                  refine lv_icmp_ne (tgt := 632) hx hb dL_law_625 (by decide) (fun c102 => ?_) (fun c102 => ?_)
                  · have h := ite_f h c102
                    refine lv_iconst (v := 0) hx hb dL_law_632 (by decide) ?_
                    exact t_L_law_633 C hX hbo hL ho hX70 _ _ _ _ _ u100 _ _ ⟨by omega, by omega⟩ _ _ _ P (lv_sub hl [3, 4, 5, 11, 2, 0] rfl) h
                  · have h := ite_t h c102
                    refine lv_iconst (v := 1) hx hb dL_law_628 (by decide) ?_
                    refine lv_goto (tgt := 633) hx hb dL_law_629 (by decide) ?_
                    exact t_L_law_633 C hX hbo hL ho hX70 _ _ _ _ _ u100 _ _ ⟨by omega, by omega⟩ _ _ _ P (lv_sub hl [3, 4, 5, 11, 2, 0] rfl) h
            · have h := ite_f h c37
              refine lv_iload hx hb dL_law_520 (lv_at hl 6 rfl) ?_
              refine lv_iconst (v := 4) hx hb dL_law_522 (by decide) ?_
              refine w_calli (va_runS (As := [.int x4, .int (4 : Int32)]) (rest := []) C.1 (c_L_low l D cA o _ _ u0 _ h) (va_cwS 2 C.1.2.2.2.2 gL_law_L_low rfl rfl rfl (by decide +kernel) ⟨Nat.le_of_ble_eq_true rfl, Nat.le_of_ble_eq_true rfl⟩) (w_pre C P.1 [.int x4, .int (4 : Int32)]) rfl rfl hl.1 rfl (lv_room (Nat.le_of_ble_eq_true rfl)) dL_law_523 (w_fit (by omega) (by omega))) P (fun r108 u107 H locs h P => ?_)
              refine lv_iconst (v := 1) hx hb dL_law_526 (by decide) ?_
              refine lv_isub hx hb dL_law_527 ?_
              refine lv_istore (lv' := [(11, .int (r108 - (1 : Int32))), (10, .int (1 : Int32)), (9, .int z0), (0, .ref b), (1, .ref (o + 0)), (2, .int x2), (3, .int x3), (4, .int x4), (5, .int x5), (6, .int x6), (7, .int x7), (8, .int x8)]) hx hb dL_law_528 hl (by decide) rfl (fun ls hl => ?_)
              refine lv_aload_n hx hb dL_law_530 rfl (lv_at hl 4 rfl) ?_
              refine lv_iload hx hb dL_law_531 (lv_at hl 0 rfl) ?_
              refine lv_iconst (v := 0) hx hb dL_law_533 (by decide) ?_
              refine w_calli (va_runV (As := [.int (r108 - (1 : Int32)), .int (0 : Int32)]) (rest := []) C.1 (c_X9_passOf l D cA o _ _ u107 _ h) (cwV 2 C.1.2.2.2.2 gL_law_X9_passOf rfl rfl rfl (by decide +kernel) ⟨Nat.le_of_ble_eq_true rfl, Nat.le_of_ble_eq_true rfl⟩) (w_preV C P.1 [.int (r108 - (1 : Int32)), .int (0 : Int32)] (ci := 9) rfl (kd_lt kd_at_0 (by decide)) (EK_9 kd_at_0)) rfl rfl hl.1 rfl (lv_room (Nat.le_of_ble_eq_true rfl)) dL_law_534 (w_fit (by omega) (by omega))) P (fun r110 u109 H locs h P => ?_)
              refine lv_if_ge (tgt := 544) hx hb dL_law_537 (by decide) (fun c111 => ?_) (fun c111 => ?_)
              · have h := ite_t h c111
                refine lv_iload hx hb dL_law_544 (lv_at hl 0 rfl) ?_
                exact t_L_law_546 C hX hbo hL ho hX70 _ _ _ _ _ u109 _ _ ⟨by omega, by omega⟩ _ _ _ P (lv_sub hl [3, 4, 5, 7, 10, 11] rfl) h
              · have h := ite_f h c111
                refine lv_iconst (v := -1) hx hb dL_law_540 (by decide) ?_
                refine lv_goto (tgt := 546) hx hb dL_law_541 (by decide) ?_
                exact t_L_law_546 C hX hbo hL ho hX70 _ _ _ _ _ u109 _ _ ⟨by omega, by omega⟩ _ _ _ P (lv_sub hl [3, 4, 5, 7, 10, 11] rfl) h
          · have h := ite_t h c36
            refine lv_aload_n hx hb dL_law_461 rfl (lv_at hl 3 rfl) ?_
            refine lv_bipush (v := 9) hx hb dL_law_462 (by decide) ?_
            refine w_calli (va_runV (As := [.int (9 : Int32)]) (rest := []) C.1 (c_X9_count l D cA o _ u0 _ h) (cwV 1 C.1.2.2.2.2 gL_law_X9_count rfl rfl rfl (by decide +kernel) ⟨Nat.le_of_ble_eq_true rfl, Nat.le_of_ble_eq_true rfl⟩) (w_preV C P.1 [.int (9 : Int32)] (ci := 9) rfl (kd_lt kd_at_0 (by decide)) (EK_9 kd_at_0)) rfl rfl hl.1 rfl (lv_room (Nat.le_of_ble_eq_true rfl)) dL_law_464 (w_fit (by omega) (by omega))) P (fun r118 u117 H locs h P => ?_)
            refine lv_istore (lv' := [(11, .int r118), (10, .int (1 : Int32)), (9, .int z0), (0, .ref b), (1, .ref (o + 0)), (2, .int x2), (3, .int x3), (4, .int x4), (5, .int x5), (6, .int x6), (7, .int x7), (8, .int x8)]) hx hb dL_law_467 hl (by decide) rfl (fun ls hl => ?_)
            refine lv_aload_n hx hb dL_law_469 rfl (lv_at hl 4 rfl) ?_
            refine lv_iload hx hb dL_law_470 (lv_at hl 7 rfl) ?_
            refine lv_bipush (v := 30) hx hb dL_law_472 (by decide) ?_
            refine w_calli (va_runS (As := [.int x4, .int (30 : Int32)]) (rest := [.ref (o + 0)]) C.1 (c_L_low l D cA o _ _ u117 _ h) (va_cwS 2 C.1.2.2.2.2 gL_law_L_low rfl rfl rfl (by decide +kernel) ⟨Nat.le_of_ble_eq_true rfl, Nat.le_of_ble_eq_true rfl⟩) (w_pre C P.1 [.int x4, .int (30 : Int32)]) rfl rfl hl.1 rfl (lv_room (Nat.le_of_ble_eq_true rfl)) dL_law_474 (w_fit (by omega) (by omega))) P (fun r120 u119 H locs h P => ?_)
            refine w_calli (va_runV (As := [.int r120]) (rest := []) C.1 (c_X9_setFare l D cA o _ u119 _ h) (cwV 1 C.1.2.2.2.2 gL_law_X9_setFare rfl rfl rfl (by decide +kernel) ⟨Nat.le_of_ble_eq_true rfl, Nat.le_of_ble_eq_true rfl⟩) (w_preV C P.1 [.int r120] (ci := 9) rfl (kd_lt kd_at_0 (by decide)) (EK_9 kd_at_0)) rfl rfl hl.1 rfl (lv_room (Nat.le_of_ble_eq_true rfl)) dL_law_477 (w_fit (by omega) (by omega))) P (fun r122 u121 H locs h P => ?_)
            refine lv_iload hx hb dL_law_480 (lv_at hl 0 rfl) ?_
            refine lv_icmp_ne (tgt := 507) hx hb dL_law_482 (by decide) (fun c123 => ?_) (fun c123 => ?_)
            · have h := ite_f h c123
              exact t_L_law_507 C hX hbo hL ho hX70 _ u121 _ _ ⟨by omega, by omega⟩ _ _ _ P (lv_sub hl [3, 4, 5] rfl) h
            · have h := ite_t h c123
              refine lv_aload_n hx hb dL_law_485 rfl (lv_at hl 4 rfl) ?_
              refine lv_iconst (v := 2) hx hb dL_law_486 (by decide) ?_
              refine lv_iconst (v := 0) hx hb dL_law_487 (by decide) ?_
              refine w_calli (va_runV (As := [.int (2 : Int32), .int (0 : Int32)]) (rest := []) C.1 (c_X9_passOf l D cA o _ _ u121 _ h) (cwV 2 C.1.2.2.2.2 gL_law_X9_passOf rfl rfl rfl (by decide +kernel) ⟨Nat.le_of_ble_eq_true rfl, Nat.le_of_ble_eq_true rfl⟩) (w_preV C P.1 [.int (2 : Int32), .int (0 : Int32)] (ci := 9) rfl (kd_lt kd_at_0 (by decide)) (EK_9 kd_at_0)) rfl rfl hl.1 rfl (lv_room (Nat.le_of_ble_eq_true rfl)) dL_law_488 (w_fit (by omega) (by omega))) P (fun r125 u124 H locs h P => ?_)
              refine lv_if_ge (tgt := 503) hx hb dL_law_491 (by decide) (fun c126 => ?_) (fun c126 => ?_)
              · have h := ite_t h c126
                exact t_L_law_503 C hX hbo hL ho hX70 _ u124 _ _ ⟨by omega, by omega⟩ _ _ _ P (lv_sub hl [3, 4, 5] rfl) h
              · have h := ite_f h c126
                refine lv_aload_n hx hb dL_law_494 rfl (lv_at hl 4 rfl) ?_
                refine lv_iconst (v := 0) hx hb dL_law_495 (by decide) ?_
                refine w_calli (va_runV (As := [.int (0 : Int32)]) (rest := []) C.1 (c_X9_addPass l D cA o _ u124 _ h) (cwV 1 C.1.2.2.2.2 gL_law_X9_addPass rfl rfl rfl (by decide +kernel) ⟨Nat.le_of_ble_eq_true rfl, Nat.le_of_ble_eq_true rfl⟩) (w_preV C P.1 [.int (0 : Int32)] (ci := 9) rfl (kd_lt kd_at_0 (by decide)) (EK_9 kd_at_0)) rfl rfl hl.1 rfl (lv_room (Nat.le_of_ble_eq_true rfl)) dL_law_496 (w_fit (by omega) (by omega))) P (fun r128 u127 H locs h P => ?_)
                refine lv_iconst (v := 2) hx hb dL_law_499 (by decide) ?_
                refine lv_icmp_ne (tgt := 507) hx hb dL_law_500 (by decide) (fun c129 => ?_) (fun c129 => ?_)
                · have h := ite_f h c129
                  exact t_L_law_507 C hX hbo hL ho hX70 _ u127 _ _ ⟨by omega, by omega⟩ _ _ _ P (lv_sub hl [3, 4, 5] rfl) h
                · have h := ite_t h c129
                  exact t_L_law_503 C hX hbo hL ho hX70 _ u127 _ _ ⟨by omega, by omega⟩ _ _ _ P (lv_sub hl [3, 4, 5] rfl) h
        · have h := ite_t h c35
          refine lv_iload_n hx hb dL_law_334 rfl (lv_at hl 5 rfl) ?_
          refine lv_iconst (v := 3) hx hb dL_law_335 (by decide) ?_
          refine w_calli (va_runS (As := [.int x3, .int (3 : Int32)]) (rest := []) C.1 (c_L_low l D cA o _ _ u0 _ h) (va_cwS 2 C.1.2.2.2.2 gL_law_L_low rfl rfl rfl (by decide +kernel) ⟨Nat.le_of_ble_eq_true rfl, Nat.le_of_ble_eq_true rfl⟩) (w_pre C P.1 [.int x3, .int (3 : Int32)]) rfl rfl hl.1 rfl (lv_room (Nat.le_of_ble_eq_true rfl)) dL_law_336 (w_fit (by omega) (by omega))) P (fun r131 u130 H locs h P => ?_)
          refine lv_istore (lv' := [(11, .int r131), (10, .int (1 : Int32)), (9, .int z0), (0, .ref b), (1, .ref (o + 0)), (2, .int x2), (3, .int x3), (4, .int x4), (5, .int x5), (6, .int x6), (7, .int x7), (8, .int x8)]) hx hb dL_law_339 hl (by decide) rfl (fun ls hl => ?_)
          refine lv_aload_n hx hb dL_law_341 rfl (lv_at hl 4 rfl) ?_
          refine lv_iload hx hb dL_law_342 (lv_at hl 0 rfl) ?_
          refine lv_iconst (v := 1) hx hb dL_law_344 (by decide) ?_
          refine w_calli (va_runV (As := [.int r131, .int (1 : Int32)]) (rest := []) C.1 (c_X9_passOf l D cA o _ _ u130 _ h) (cwV 2 C.1.2.2.2.2 gL_law_X9_passOf rfl rfl rfl (by decide +kernel) ⟨Nat.le_of_ble_eq_true rfl, Nat.le_of_ble_eq_true rfl⟩) (w_preV C P.1 [.int r131, .int (1 : Int32)] (ci := 9) rfl (kd_lt kd_at_0 (by decide)) (EK_9 kd_at_0)) rfl rfl hl.1 rfl (lv_room (Nat.le_of_ble_eq_true rfl)) dL_law_345 (w_fit (by omega) (by omega))) P (fun r133 u132 H locs h P => ?_)
          refine lv_istore (lv' := [(12, .int r133), (11, .int r131), (10, .int (1 : Int32)), (9, .int z0), (0, .ref b), (1, .ref (o + 0)), (2, .int x2), (3, .int x3), (4, .int x4), (5, .int x5), (6, .int x6), (7, .int x7), (8, .int x8)]) hx hb dL_law_348 hl (by decide) rfl (fun ls hl => ?_)
          refine lv_iload hx hb dL_law_350 (lv_at hl 8 rfl) ?_
          refine lv_iconst (v := 1) hx hb dL_law_352 (by decide) ?_
          refine lv_iand hx hb dL_law_353 ?_
          refine lv_iconst (v := 1) hx hb dL_law_354 (by decide) ?_
          refine lv_icmp_ne (tgt := 362) hx hb dL_law_355 (by decide) (fun c134 => ?_) (fun c134 => ?_)
          · have h := ite_f h c134
            refine lv_iconst (v := 0) hx hb dL_law_362 (by decide) ?_
            exact t_L_law_363 C hX hbo hL ho hX70 _ _ _ _ u132 _ _ ⟨by omega, by omega⟩ _ _ _ P (lv_sub hl [4, 5, 6, 1, 0] rfl) h
          · have h := ite_t h c134
            refine lv_iconst (v := 1) hx hb dL_law_358 (by decide) ?_
            refine lv_goto (tgt := 363) hx hb dL_law_359 (by decide) ?_
            exact t_L_law_363 C hX hbo hL ho hX70 _ _ _ _ u132 _ _ ⟨by omega, by omega⟩ _ _ _ P (lv_sub hl [4, 5, 6, 1, 0] rfl) h
      · have h := ite_t h c34
        refine lv_aload_n hx hb dL_law_281 rfl (lv_at hl 3 rfl) ?_
        refine lv_iconst (v := 0) hx hb dL_law_282 (by decide) ?_
        refine lv_iconst (v := 0) hx hb dL_law_283 (by decide) ?_
        refine w_calli (va_runV (As := [.int (0 : Int32), .int (0 : Int32)]) (rest := []) C.1 (c_X9_pool l D cA o _ _ u0 _ h) (cwV 2 C.1.2.2.2.2 gL_law_X9_pool rfl rfl rfl (by decide +kernel) ⟨Nat.le_of_ble_eq_true rfl, Nat.le_of_ble_eq_true rfl⟩) (w_preV C P.1 [.int (0 : Int32), .int (0 : Int32)] (ci := 9) rfl (kd_lt kd_at_0 (by decide)) (EK_9 kd_at_0)) rfl rfl hl.1 rfl (lv_room (Nat.le_of_ble_eq_true rfl)) dL_law_284 (w_fit (by omega) (by omega))) P (fun r147 u146 H locs h P => ?_)
        refine lv_istore (lv' := [(11, .int r147), (10, .int (1 : Int32)), (9, .int z0), (0, .ref b), (1, .ref (o + 0)), (2, .int x2), (3, .int x3), (4, .int x4), (5, .int x5), (6, .int x6), (7, .int x7), (8, .int x8)]) hx hb dL_law_287 hl (by decide) rfl (fun ls hl => ?_)
        refine lv_aload_n hx hb dL_law_289 rfl (lv_at hl 4 rfl) ?_
        refine lv_iconst (v := 0) hx hb dL_law_290 (by decide) ?_
        refine lv_iconst (v := 1) hx hb dL_law_291 (by decide) ?_
        refine lv_iload hx hb dL_law_292 (lv_at hl 7 rfl) ?_
        refine lv_bipush (v := 50) hx hb dL_law_294 (by decide) ?_
        refine w_calli (va_runS (As := [.int x4, .int (50 : Int32)]) (rest := [.int (1 : Int32), .int (0 : Int32), .ref (o + 0)]) C.1 (c_L_low l D cA o _ _ u146 _ h) (va_cwS 2 C.1.2.2.2.2 gL_law_L_low rfl rfl rfl (by decide +kernel) ⟨Nat.le_of_ble_eq_true rfl, Nat.le_of_ble_eq_true rfl⟩) (w_pre C P.1 [.int x4, .int (50 : Int32)]) rfl rfl hl.1 rfl (lv_room (Nat.le_of_ble_eq_true rfl)) dL_law_296 (w_fit (by omega) (by omega))) P (fun r149 u148 H locs h P => ?_)
        refine lv_iadd hx hb dL_law_299 ?_
        refine w_calli (va_runV (As := [.int (0 : Int32), .int ((1 : Int32) + r149)]) (rest := []) C.1 (c_X9_credit l D cA o _ _ u148 _ h) (cwV 2 C.1.2.2.2.2 gL_law_X9_credit rfl rfl rfl (by decide +kernel) ⟨Nat.le_of_ble_eq_true rfl, Nat.le_of_ble_eq_true rfl⟩) (w_preV C P.1 [.int (0 : Int32), .int ((1 : Int32) + r149)] (ci := 9) rfl (kd_lt kd_at_0 (by decide)) (EK_9 kd_at_0)) rfl rfl hl.1 rfl (lv_room (Nat.le_of_ble_eq_true rfl)) dL_law_300 (w_fit (by omega) (by omega))) P (fun r151 u150 H locs h P => ?_)
        refine lv_iload hx hb dL_law_303 (lv_at hl 0 rfl) ?_
        refine lv_iconst (v := 1) hx hb dL_law_305 (by decide) ?_
        refine lv_iadd hx hb dL_law_306 ?_
        refine lv_iload hx hb dL_law_307 (lv_at hl 7 rfl) ?_
        refine lv_bipush (v := 50) hx hb dL_law_309 (by decide) ?_
        refine w_calli (va_runS (As := [.int x4, .int (50 : Int32)]) (rest := [.int (r147 + (1 : Int32)), .int r151]) C.1 (c_L_low l D cA o _ _ u150 _ h) (va_cwS 2 C.1.2.2.2.2 gL_law_L_low rfl rfl rfl (by decide +kernel) ⟨Nat.le_of_ble_eq_true rfl, Nat.le_of_ble_eq_true rfl⟩) (w_pre C P.1 [.int x4, .int (50 : Int32)]) rfl rfl hl.1 rfl (lv_room (Nat.le_of_ble_eq_true rfl)) dL_law_311 (w_fit (by omega) (by omega))) P (fun r153 u152 H locs h P => ?_)
        refine lv_iadd hx hb dL_law_314 ?_
        refine lv_icmp_ne (tgt := 322) hx hb dL_law_315 (by decide) (fun c154 => ?_) (fun c154 => ?_)
        · have h := ite_f h c154
          refine lv_iconst (v := 0) hx hb dL_law_322 (by decide) ?_
          exact t_L_law_323 C hX hbo hL ho hX70 _ _ u152 _ _ ⟨by omega, by omega⟩ _ _ _ P (lv_sub hl [3, 4, 5] rfl) h
        · have h := ite_t h c154
          refine lv_iconst (v := 1) hx hb dL_law_318 (by decide) ?_
          refine lv_goto (tgt := 323) hx hb dL_law_319 (by decide) ?_
          exact t_L_law_323 C hX hbo hL ho hX70 _ _ u152 _ _ ⟨by omega, by omega⟩ _ _ _ P (lv_sub hl [3, 4, 5] rfl) h
    · have h := ite_t h c33
      refine lv_aload_n hx hb dL_law_223 rfl (lv_at hl 3 rfl) ?_
      refine lv_iload hx hb dL_law_224 (lv_at hl 10 rfl) ?_
      refine lv_iconst (v := 0) hx hb dL_law_226 (by decide) ?_
      refine w_calli (va_runV (As := [.int x8, .int (0 : Int32)]) (rest := []) C.1 (c_X9_gate l D cA o _ _ u0 _ h) (cwV 2 C.1.2.2.2.2 gL_law_X9_gate rfl rfl rfl (by decide +kernel) ⟨Nat.le_of_ble_eq_true rfl, Nat.le_of_ble_eq_true rfl⟩) (w_preV C P.1 [.int x8, .int (0 : Int32)] (ci := 9) rfl (kd_lt kd_at_0 (by decide)) (EK_9 kd_at_0)) rfl rfl hl.1 rfl (lv_room (Nat.le_of_ble_eq_true rfl)) dL_law_227 (w_fit (by omega) (by omega))) P (fun r156 u155 H locs h P => ?_)
      refine lv_istore (lv' := [(11, .int r156), (10, .int (1 : Int32)), (9, .int z0), (0, .ref b), (1, .ref (o + 0)), (2, .int x2), (3, .int x3), (4, .int x4), (5, .int x5), (6, .int x6), (7, .int x7), (8, .int x8)]) hx hb dL_law_230 hl (by decide) rfl (fun ls hl => ?_)
      refine lv_aload_n hx hb dL_law_232 rfl (lv_at hl 4 rfl) ?_
      refine lv_iload hx hb dL_law_233 (lv_at hl 11 rfl) ?_
      refine lv_iload hx hb dL_law_235 (lv_at hl 7 rfl) ?_
      refine lv_iconst (v := 3) hx hb dL_law_237 (by decide) ?_
      refine w_calli (va_runS (As := [.int x4, .int (3 : Int32)]) (rest := [.int x8, .ref (o + 0)]) C.1 (c_L_low l D cA o _ _ u155 _ h) (va_cwS 2 C.1.2.2.2.2 gL_law_L_low rfl rfl rfl (by decide +kernel) ⟨Nat.le_of_ble_eq_true rfl, Nat.le_of_ble_eq_true rfl⟩) (w_pre C P.1 [.int x4, .int (3 : Int32)]) rfl rfl hl.1 rfl (lv_room (Nat.le_of_ble_eq_true rfl)) dL_law_238 (w_fit (by omega) (by omega))) P (fun r158 u157 H locs h P => ?_)
      refine w_calli (va_runV (As := [.int x8, .int r158]) (rest := []) C.1 (c_X9_setDirection l D cA o _ _ u157 _ h) (cwV 2 C.1.2.2.2.2 gL_law_X9_setDirection rfl rfl rfl (by decide +kernel) ⟨Nat.le_of_ble_eq_true rfl, Nat.le_of_ble_eq_true rfl⟩) (w_preV C P.1 [.int x8, .int r158] (ci := 9) rfl (kd_lt kd_at_0 (by decide)) (EK_9 kd_at_0)) rfl rfl hl.1 rfl (lv_room (Nat.le_of_ble_eq_true rfl)) dL_law_241 (w_fit (by omega) (by omega))) P (fun r160 u159 H locs h P => ?_)
      refine lv_iload hx hb dL_law_244 (lv_at hl 0 rfl) ?_
      refine lv_icmp_ne (tgt := 269) hx hb dL_law_246 (by decide) (fun c161 => ?_) (fun c161 => ?_)
      · have h := ite_f h c161
        exact t_L_law_269 C hX hbo hL ho hX70 _ u159 _ _ ⟨by omega, by omega⟩ _ _ _ P (lv_sub hl [3, 4, 5] rfl) h
      · have h := ite_t h c161
        refine lv_aload_n hx hb dL_law_249 rfl (lv_at hl 4 rfl) ?_
        refine lv_iload hx hb dL_law_250 (lv_at hl 11 rfl) ?_
        refine lv_iconst (v := 0) hx hb dL_law_252 (by decide) ?_
        refine w_calli (va_runV (As := [.int x8, .int (0 : Int32)]) (rest := []) C.1 (c_X9_gate l D cA o _ _ u159 _ h) (cwV 2 C.1.2.2.2.2 gL_law_X9_gate rfl rfl rfl (by decide +kernel) ⟨Nat.le_of_ble_eq_true rfl, Nat.le_of_ble_eq_true rfl⟩) (w_preV C P.1 [.int x8, .int (0 : Int32)] (ci := 9) rfl (kd_lt kd_at_0 (by decide)) (EK_9 kd_at_0)) rfl rfl hl.1 rfl (lv_room (Nat.le_of_ble_eq_true rfl)) dL_law_253 (w_fit (by omega) (by omega))) P (fun r163 u162 H locs h P => ?_)
        refine lv_iload hx hb dL_law_256 (lv_at hl 7 rfl) ?_
        refine lv_iconst (v := 3) hx hb dL_law_258 (by decide) ?_
        refine w_calli (va_runS (As := [.int x4, .int (3 : Int32)]) (rest := [.int r163]) C.1 (c_L_low l D cA o _ _ u162 _ h) (va_cwS 2 C.1.2.2.2.2 gL_law_L_low rfl rfl rfl (by decide +kernel) ⟨Nat.le_of_ble_eq_true rfl, Nat.le_of_ble_eq_true rfl⟩) (w_pre C P.1 [.int x4, .int (3 : Int32)]) rfl rfl hl.1 rfl (lv_room (Nat.le_of_ble_eq_true rfl)) dL_law_259 (w_fit (by omega) (by omega))) P (fun r165 u164 H locs h P => ?_)
        refine lv_icmp_ne (tgt := 269) hx hb dL_law_262 (by decide) (fun c166 => ?_) (fun c166 => ?_)
        · have h := ite_f h c166
          exact t_L_law_269 C hX hbo hL ho hX70 _ u164 _ _ ⟨by omega, by omega⟩ _ _ _ P (lv_sub hl [3, 4, 5] rfl) h
        · have h := ite_t h c166
          refine lv_iconst (v := 1) hx hb dL_law_265 (by decide) ?_
          refine lv_goto (tgt := 270) hx hb dL_law_266 (by decide) ?_
          exact t_L_law_270 C hX hbo hL ho hX70 _ _ u164 _ _ ⟨by omega, by omega⟩ _ _ _ P (lv_sub hl [3, 4, 5] rfl) h
  · have h := ite_t h c32
    refine lv_iload hx hb dL_law_157 (lv_at hl 8 rfl) ?_
    refine lv_iconst (v := 3) hx hb dL_law_159 (by decide) ?_
    refine lv_icmp_gt (tgt := 207) hx hb dL_law_160 (by decide) (fun c167 => ?_) (fun c167 => ?_)
    · have h := ite_t h c167
      exact t_L_law_207 C hX hbo hL ho hX70 _ u0 _ _ ⟨by omega, by omega⟩ _ _ _ P (lv_sub hl [2, 3, 4] rfl) h
    · have h := ite_f h c167
      refine lv_aload_n hx hb dL_law_163 rfl (lv_at hl 3 rfl) ?_
      refine lv_iload_n hx hb dL_law_164 rfl (lv_at hl 5 rfl) ?_
      refine lv_iconst (v := 3) hx hb dL_law_165 (by decide) ?_
      refine w_calli (va_runS (As := [.int x3, .int (3 : Int32)]) (rest := [.ref (o + 0)]) C.1 (c_L_low l D cA o _ _ u0 _ h) (va_cwS 2 C.1.2.2.2.2 gL_law_L_low rfl rfl rfl (by decide +kernel) ⟨Nat.le_of_ble_eq_true rfl, Nat.le_of_ble_eq_true rfl⟩) (w_pre C P.1 [.int x3, .int (3 : Int32)]) rfl rfl hl.1 rfl (lv_room (Nat.le_of_ble_eq_true rfl)) dL_law_166 (w_fit (by omega) (by omega))) P (fun r169 u168 H locs h P => ?_)
      refine lv_iconst (v := 1) hx hb dL_law_169 (by decide) ?_
      refine lv_iload hx hb dL_law_170 (lv_at hl 6 rfl) ?_
      refine lv_iconst (v := 4) hx hb dL_law_172 (by decide) ?_
      refine w_calli (va_runS (As := [.int x4, .int (4 : Int32)]) (rest := [.int (1 : Int32), .int r169, .ref (o + 0)]) C.1 (c_L_low l D cA o _ _ u168 _ h) (va_cwS 2 C.1.2.2.2.2 gL_law_L_low rfl rfl rfl (by decide +kernel) ⟨Nat.le_of_ble_eq_true rfl, Nat.le_of_ble_eq_true rfl⟩) (w_pre C P.1 [.int x4, .int (4 : Int32)]) rfl rfl hl.1 rfl (lv_room (Nat.le_of_ble_eq_true rfl)) dL_law_173 (w_fit (by omega) (by omega))) P (fun r171 u170 H locs h P => ?_)
      refine lv_iadd hx hb dL_law_176 ?_
      refine lv_iconst (v := 1) hx hb dL_law_177 (by decide) ?_
      refine lv_iload hx hb dL_law_178 (lv_at hl 6 rfl) ?_
      refine lv_iconst (v := 3) hx hb dL_law_180 (by decide) ?_
      refine lv_ishr hx hb dL_law_181 ?_
      refine lv_bipush (v := 6) hx hb dL_law_182 (by decide) ?_
      refine w_calli (va_runS (As := [.int (x4 >>> ((3 : Int32) &&& 31)), .int (6 : Int32)]) (rest := [.int (1 : Int32), .int ((1 : Int32) + r171), .int r169, .ref (o + 0)]) C.1 (c_L_low l D cA o _ _ u170 _ h) (va_cwS 2 C.1.2.2.2.2 gL_law_L_low rfl rfl rfl (by decide +kernel) ⟨Nat.le_of_ble_eq_true rfl, Nat.le_of_ble_eq_true rfl⟩) (w_pre C P.1 [.int (x4 >>> ((3 : Int32) &&& 31)), .int (6 : Int32)]) rfl rfl hl.1 rfl (lv_room (Nat.le_of_ble_eq_true rfl)) dL_law_184 (w_fit (by omega) (by omega))) P (fun r173 u172 H locs h P => ?_)
      refine lv_iadd hx hb dL_law_187 ?_
      refine lv_iconst (v := 1) hx hb dL_law_188 (by decide) ?_
      refine lv_iload hx hb dL_law_189 (lv_at hl 6 rfl) ?_
      refine lv_bipush (v := 6) hx hb dL_law_191 (by decide) ?_
      refine lv_ishr hx hb dL_law_193 ?_
      refine lv_iconst (v := 5) hx hb dL_law_194 (by decide) ?_
      refine w_calli (va_runS (As := [.int (x4 >>> ((6 : Int32) &&& 31)), .int (5 : Int32)]) (rest := [.int (1 : Int32), .int ((1 : Int32) + r173), .int ((1 : Int32) + r171), .int r169, .ref (o + 0)]) C.1 (c_L_low l D cA o _ _ u172 _ h) (va_cwS 2 C.1.2.2.2.2 gL_law_L_low rfl rfl rfl (by decide +kernel) ⟨Nat.le_of_ble_eq_true rfl, Nat.le_of_ble_eq_true rfl⟩) (w_pre C P.1 [.int (x4 >>> ((6 : Int32) &&& 31)), .int (5 : Int32)]) rfl rfl hl.1 rfl (lv_room (Nat.le_of_ble_eq_true rfl)) dL_law_195 (w_fit (by omega) (by omega))) P (fun r175 u174 H locs h P => ?_)
      refine lv_iadd hx hb dL_law_198 ?_
      refine w_calli (va_runV (As := [.int r169, .int ((1 : Int32) + r171), .int ((1 : Int32) + r173), .int ((1 : Int32) + r175)]) (rest := []) C.1 (c_X9_addGate l D cA o _ _ _ _ u174 _ h) (cwV 4 C.1.2.2.2.2 gL_law_X9_addGate rfl rfl rfl (by decide +kernel) ⟨Nat.le_of_ble_eq_true rfl, Nat.le_of_ble_eq_true rfl⟩) (w_preV C P.1 [.int r169, .int ((1 : Int32) + r171), .int ((1 : Int32) + r173), .int ((1 : Int32) + r175)] (ci := 9) rfl (kd_lt kd_at_0 (by decide)) (EK_9 kd_at_0)) rfl rfl hl.1 rfl (lv_room (Nat.le_of_ble_eq_true rfl)) dL_law_199 (w_fit (by omega) (by omega))) P (fun r177 u176 H locs h P => ?_)
      refine lv_iload hx hb dL_law_202 (lv_at hl 8 rfl) ?_
      refine lv_icmp_ne (tgt := 211) hx hb dL_law_204 (by decide) (fun c178 => ?_) (fun c178 => ?_)
      · have h := ite_f h c178
        refine lv_iconst (v := 0) hx hb dL_law_211 (by decide) ?_
        exact t_L_law_212 C hX hbo hL ho hX70 _ _ u176 _ _ ⟨by omega, by omega⟩ _ _ _ P (lv_sub hl [2, 3, 4] rfl) h
      · have h := ite_t h c178
        exact t_L_law_207 C hX hbo hL ho hX70 _ u176 _ _ ⟨by omega, by omega⟩ _ _ _ P (lv_sub hl [2, 3, 4] rfl) h
def w_L_law_70 (L : Nat) (xs : Nat → Int32)  (Φ : Int32 → Mm → Prop) : Nat → Int32 → Mm → Prop
  | 0, _, _ => False
  | n + 1, x2, u0 => (if (40 : Int32) ≤ x2 then (w_L_errors u0 (fun r20 u19 => (Φ r20 u19))) else (¬ (((1 : Int32) + ((2 : Int32) * x2))) < 0 ∧ (¬ (((2 : Int32) + ((2 : Int32) * x2))) < 0 ∧ (w_L_low ((cellv L xs (((1 : Int32) + ((2 : Int32) * x2))))) ((17 : Int32)) u0 (fun r22 u21 => (w_X9_count ((1 : Int32)) u21 (fun r24 u23 => (w_X9_count ((2 : Int32)) u23 (fun r26 u25 => (w_L_low (((cellv L xs (((1 : Int32) + ((2 : Int32) * x2)))) >>> ((5 : Int32) &&& 31))) r24 u25 (fun r28 u27 => (if r26 = 0 then (w_L_law_147 L xs (fun y0 u => w_L_law_70 L xs Φ n y0 u) Φ x2 (((cellv L xs (((1 : Int32) + ((2 : Int32) * x2)))) >>> ((5 : Int32) &&& 31))) ((cellv L xs (((2 : Int32) + ((2 : Int32) * x2))))) r22 r24 r26 r28 ((0 : Int32)) u27) else (w_L_low ((cellv L xs (((2 : Int32) + ((2 : Int32) * x2))))) r26 u27 (fun r31 u30 => (w_L_law_147 L xs (fun y0 u => w_L_law_70 L xs Φ n y0 u) Φ x2 (((cellv L xs (((1 : Int32) + ((2 : Int32) * x2)))) >>> ((5 : Int32) &&& 31))) ((cellv L xs (((2 : Int32) + ((2 : Int32) * x2))))) r22 r24 r26 r28 r31 u30)))))))))))))))
set_option maxHeartbeats 4000000 in
set_option maxRecDepth 100000 in
theorem t_L_law_70 {p : Program} {l : Launch} {e : Env} {s : State} {m : MethodId} {below : List Frame} {meth : Method} {c : Code} {D : va_G} {cA : Nat → ClassId} {o b L : Nat} {xs : Nat → Int32}  (C : Cx p m meth c s #[Value.ref b] cL_law 15 wsL_law RL ret D (tysL cA)) (hX : va_X b L xs s s.heap) (hbo : b < o) (hL : L ≤ 260) (ho : s.heap.size = o) : ∀ n : Nat, ∀ N : Nat, n ≤ N → ∀ (x2 : Int32) (u0 : Mm), ∀ cells slots : Nat, cells + N ≤ 1000 ∧ slots + 6 * N ≤ 20000 → ∀ (H : Heap) (locs : List Loc) (ls : Array Slot), HpW o D cA u0 s H locs → lv_has ls 15 [(0, .ref b), (1, .ref (o + 0)), (2, .int x2)] → w_L_law_70 L xs PL n x2 u0 → W p l e room_1 s m #[Value.ref b] below meth c H locs cells slots (lw_Z below #[Value.ref b] s) (F0 m 70 ls []) := by
  intro n
  induction n with
  | zero => intro N hN; intro x2 u0 cells slots hc H locs ls P hl h; exact h.elim
  | succ n ih =>
    intro N0 hN
    obtain ⟨N, rfl⟩ : ∃ N, N0 = N + 1 := ⟨N0 - 1, by omega⟩
    intro x2 u0 cells slots hc H locs ls P hl h
    have hx := C.1.1
    have hb := C.1.2.1
    rw [w_L_law_70] at h
    refine lv_iload_n hx hb dL_law_70 rfl (lv_at hl 2 rfl) ?_
    refine lv_bipush (v := 40) hx hb dL_law_71 (by decide) ?_
    refine lv_icmp_ge (tgt := 1024) hx hb dL_law_73 (by decide) (fun c18 => ?_) (fun c18 => ?_)
    · have h := ite_t h c18
      refine lv_aload_n hx hb dL_law_1024 rfl (lv_at hl 1 rfl) ?_
      refine w_calli (va_runS (As := [.ref (o + 0)]) (rest := []) C.1 (c_L_errors l D cA o u0 _ h) (va_cwS 1 C.1.2.2.2.2 gL_law_L_errors rfl rfl rfl (by decide +kernel) ⟨Nat.le_of_ble_eq_true rfl, Nat.le_of_ble_eq_true rfl⟩) (w_pre C P.1 [.ref (o + 0)]) rfl rfl hl.1 rfl (lv_room (Nat.le_of_ble_eq_true rfl)) dL_law_1025 (w_fit (by omega) (by omega))) P (fun r20 u19 H locs h P => ?_)
      exact lw_fin C ho P (by omega) (by omega) h dL_law_1028
    · have h := ite_f h c18
      refine lv_aload_n hx hb dL_law_76 rfl (lv_at hl 0 rfl) ?_
      refine lv_iconst (v := 1) hx hb dL_law_77 (by decide) ?_
      refine lv_iconst (v := 2) hx hb dL_law_78 (by decide) ?_
      refine lv_iload_n hx hb dL_law_79 rfl (lv_at hl 2 rfl) ?_
      refine lv_imul hx hb dL_law_80 ?_
      refine lv_iadd hx hb dL_law_81 ?_
      obtain ⟨hk, h⟩ := h
      refine w_cell (k := (((1 : Int32) + ((2 : Int32) * x2)))) (st0 := .int (((1 : Int32) + ((2 : Int32) * x2))) :: .ref b :: []) (va_runS (As := [.ref b, .int (((1 : Int32) + ((2 : Int32) * x2)))]) (rest := []) C.1 (c_L_cell l b L xs hL hk) (va_cwS 2 C.1.2.2.2.2 gL_law_L_cell rfl rfl rfl (by decide +kernel) ⟨Nat.le_of_ble_eq_true rfl, Nat.le_of_ble_eq_true rfl⟩) (w_cpre C hX hbo P) rfl rfl hl.1 rfl (lv_room (Nat.le_of_ble_eq_true rfl)) dL_law_82 (w_fit (by omega) (by omega))) P (fun H locs P => ?_)
      refine lv_istore_n (lv' := [(3, .int (cellv L xs (((1 : Int32) + ((2 : Int32) * x2))))), (0, .ref b), (1, .ref (o + 0)), (2, .int x2)]) hx hb dL_law_85 rfl hl (by decide) rfl (fun ls hl => ?_)
      refine lv_aload_n hx hb dL_law_86 rfl (lv_at hl 1 rfl) ?_
      refine lv_iconst (v := 2) hx hb dL_law_87 (by decide) ?_
      refine lv_iconst (v := 2) hx hb dL_law_88 (by decide) ?_
      refine lv_iload_n hx hb dL_law_89 rfl (lv_at hl 3 rfl) ?_
      refine lv_imul hx hb dL_law_90 ?_
      refine lv_iadd hx hb dL_law_91 ?_
      obtain ⟨hk, h⟩ := h
      refine w_cell (k := (((2 : Int32) + ((2 : Int32) * x2)))) (st0 := .int (((2 : Int32) + ((2 : Int32) * x2))) :: .ref b :: []) (va_runS (As := [.ref b, .int (((2 : Int32) + ((2 : Int32) * x2)))]) (rest := []) C.1 (c_L_cell l b L xs hL hk) (va_cwS 2 C.1.2.2.2.2 gL_law_L_cell rfl rfl rfl (by decide +kernel) ⟨Nat.le_of_ble_eq_true rfl, Nat.le_of_ble_eq_true rfl⟩) (w_cpre C hX hbo P) rfl rfl hl.1 rfl (lv_room (Nat.le_of_ble_eq_true rfl)) dL_law_92 (w_fit (by omega) (by omega))) P (fun H locs P => ?_)
      refine lv_istore (lv' := [(4, .int (cellv L xs (((2 : Int32) + ((2 : Int32) * x2))))), (3, .int (cellv L xs (((1 : Int32) + ((2 : Int32) * x2))))), (0, .ref b), (1, .ref (o + 0)), (2, .int x2)]) hx hb dL_law_95 hl (by decide) rfl (fun ls hl => ?_)
      refine lv_iload_n hx hb dL_law_97 rfl (lv_at hl 1 rfl) ?_
      refine lv_bipush (v := 17) hx hb dL_law_98 (by decide) ?_
      refine w_calli (va_runS (As := [.int (cellv L xs (((1 : Int32) + ((2 : Int32) * x2)))), .int (17 : Int32)]) (rest := []) C.1 (c_L_low l D cA o _ _ u0 _ h) (va_cwS 2 C.1.2.2.2.2 gL_law_L_low rfl rfl rfl (by decide +kernel) ⟨Nat.le_of_ble_eq_true rfl, Nat.le_of_ble_eq_true rfl⟩) (w_pre C P.1 [.int (cellv L xs (((1 : Int32) + ((2 : Int32) * x2)))), .int (17 : Int32)]) rfl rfl hl.1 rfl (lv_room (Nat.le_of_ble_eq_true rfl)) dL_law_100 (w_fit (by omega) (by omega))) P (fun r22 u21 H locs h P => ?_)
      refine lv_istore (lv' := [(5, .int r22), (4, .int (cellv L xs (((2 : Int32) + ((2 : Int32) * x2))))), (3, .int (cellv L xs (((1 : Int32) + ((2 : Int32) * x2))))), (0, .ref b), (1, .ref (o + 0)), (2, .int x2)]) hx hb dL_law_103 hl (by decide) rfl (fun ls hl => ?_)
      refine lv_iload_n hx hb dL_law_105 rfl (lv_at hl 2 rfl) ?_
      refine lv_iconst (v := 5) hx hb dL_law_106 (by decide) ?_
      refine lv_ishr hx hb dL_law_107 ?_
      refine lv_istore_n (lv' := [(3, .int ((cellv L xs (((1 : Int32) + ((2 : Int32) * x2)))) >>> ((5 : Int32) &&& 31))), (5, .int r22), (4, .int (cellv L xs (((2 : Int32) + ((2 : Int32) * x2))))), (0, .ref b), (1, .ref (o + 0)), (2, .int x2)]) hx hb dL_law_108 rfl hl (by decide) rfl (fun ls hl => ?_)
      refine lv_aload_n hx hb dL_law_109 rfl (lv_at hl 4 rfl) ?_
      refine lv_iconst (v := 1) hx hb dL_law_110 (by decide) ?_
      refine w_calli (va_runV (As := [.int (1 : Int32)]) (rest := []) C.1 (c_X9_count l D cA o _ u21 _ h) (cwV 1 C.1.2.2.2.2 gL_law_X9_count rfl rfl rfl (by decide +kernel) ⟨Nat.le_of_ble_eq_true rfl, Nat.le_of_ble_eq_true rfl⟩) (w_preV C P.1 [.int (1 : Int32)] (ci := 9) rfl (kd_lt kd_at_0 (by decide)) (EK_9 kd_at_0)) rfl rfl hl.1 rfl (lv_room (Nat.le_of_ble_eq_true rfl)) dL_law_111 (w_fit (by omega) (by omega))) P (fun r24 u23 H locs h P => ?_)
      refine lv_istore (lv' := [(6, .int r24), (3, .int ((cellv L xs (((1 : Int32) + ((2 : Int32) * x2)))) >>> ((5 : Int32) &&& 31))), (5, .int r22), (4, .int (cellv L xs (((2 : Int32) + ((2 : Int32) * x2))))), (0, .ref b), (1, .ref (o + 0)), (2, .int x2)]) hx hb dL_law_114 hl (by decide) rfl (fun ls hl => ?_)
      refine lv_aload_n hx hb dL_law_116 rfl (lv_at hl 5 rfl) ?_
      refine lv_iconst (v := 2) hx hb dL_law_117 (by decide) ?_
      refine w_calli (va_runV (As := [.int (2 : Int32)]) (rest := []) C.1 (c_X9_count l D cA o _ u23 _ h) (cwV 1 C.1.2.2.2.2 gL_law_X9_count rfl rfl rfl (by decide +kernel) ⟨Nat.le_of_ble_eq_true rfl, Nat.le_of_ble_eq_true rfl⟩) (w_preV C P.1 [.int (2 : Int32)] (ci := 9) rfl (kd_lt kd_at_0 (by decide)) (EK_9 kd_at_0)) rfl rfl hl.1 rfl (lv_room (Nat.le_of_ble_eq_true rfl)) dL_law_118 (w_fit (by omega) (by omega))) P (fun r26 u25 H locs h P => ?_)
      refine lv_istore (lv' := [(7, .int r26), (6, .int r24), (3, .int ((cellv L xs (((1 : Int32) + ((2 : Int32) * x2)))) >>> ((5 : Int32) &&& 31))), (5, .int r22), (4, .int (cellv L xs (((2 : Int32) + ((2 : Int32) * x2))))), (0, .ref b), (1, .ref (o + 0)), (2, .int x2)]) hx hb dL_law_121 hl (by decide) rfl (fun ls hl => ?_)
      refine lv_iload_n hx hb dL_law_123 rfl (lv_at hl 2 rfl) ?_
      refine lv_iload hx hb dL_law_124 (lv_at hl 1 rfl) ?_
      refine w_calli (va_runS (As := [.int ((cellv L xs (((1 : Int32) + ((2 : Int32) * x2)))) >>> ((5 : Int32) &&& 31)), .int r24]) (rest := []) C.1 (c_L_low l D cA o _ _ u25 _ h) (va_cwS 2 C.1.2.2.2.2 gL_law_L_low rfl rfl rfl (by decide +kernel) ⟨Nat.le_of_ble_eq_true rfl, Nat.le_of_ble_eq_true rfl⟩) (w_pre C P.1 [.int ((cellv L xs (((1 : Int32) + ((2 : Int32) * x2)))) >>> ((5 : Int32) &&& 31)), .int r24]) rfl rfl hl.1 rfl (lv_room (Nat.le_of_ble_eq_true rfl)) dL_law_126 (w_fit (by omega) (by omega))) P (fun r28 u27 H locs h P => ?_)
      refine lv_istore (lv' := [(8, .int r28), (7, .int r26), (6, .int r24), (3, .int ((cellv L xs (((1 : Int32) + ((2 : Int32) * x2)))) >>> ((5 : Int32) &&& 31))), (5, .int r22), (4, .int (cellv L xs (((2 : Int32) + ((2 : Int32) * x2))))), (0, .ref b), (1, .ref (o + 0)), (2, .int x2)]) hx hb dL_law_129 hl (by decide) rfl (fun ls hl => ?_)
      refine lv_iload hx hb dL_law_131 (lv_at hl 1 rfl) ?_
      refine lv_if_ne (tgt := 140) hx hb dL_law_133 (by decide) (fun c29 => ?_) (fun c29 => ?_)
      · have h := ite_f h c29
        refine lv_iload hx hb dL_law_140 (lv_at hl 5 rfl) ?_
        refine lv_iload hx hb dL_law_142 (lv_at hl 1 rfl) ?_
        refine w_calli (va_runS (As := [.int (cellv L xs (((2 : Int32) + ((2 : Int32) * x2)))), .int r26]) (rest := []) C.1 (c_L_low l D cA o _ _ u27 _ h) (va_cwS 2 C.1.2.2.2.2 gL_law_L_low rfl rfl rfl (by decide +kernel) ⟨Nat.le_of_ble_eq_true rfl, Nat.le_of_ble_eq_true rfl⟩) (w_pre C P.1 [.int (cellv L xs (((2 : Int32) + ((2 : Int32) * x2)))), .int r26]) rfl rfl hl.1 rfl (lv_room (Nat.le_of_ble_eq_true rfl)) dL_law_144 (w_fit (by omega) (by omega))) P (fun r31 u30 H locs h P => ?_)
        exact t_L_law_147 C hX hbo hL ho (ih N (by omega)) _ _ _ _ _ _ _ _ u30 _ _ ⟨by omega, by omega⟩ _ _ _ P (lv_sub hl [6, 7, 8, 3, 5, 4, 2, 1, 0] rfl) h
      · have h := ite_t h c29
        refine lv_iconst (v := 0) hx hb dL_law_136 (by decide) ?_
        refine lv_goto (tgt := 147) hx hb dL_law_137 (by decide) ?_
        exact t_L_law_147 C hX hbo hL ho (ih N (by omega)) _ _ _ _ _ _ _ _ u27 _ _ ⟨by omega, by omega⟩ _ _ _ P (lv_sub hl [6, 7, 8, 3, 5, 4, 2, 1, 0] rfl) h
def w_L_law (L : Nat) (xs : Nat → Int32)  (u0 : Mm) (Φ : Int32 → Mm → Prop) : Prop := (¬ ((0 : Int32)) < 0 ∧ (w_L_low ((cellv L xs ((0 : Int32)))) ((4 : Int32)) u0 (fun r2 u1 => (w_X9_addPool (((2 : Int32) + r2)) u1 (fun r4 u3 => (if r4 = 0 then (w_X9_addPass ((0 : Int32)) u3 (fun r7 u6 => (if r7 = 0 then (w_X9_addPass ((0 : Int32)) u6 (fun r10 u9 => (if r10 = (1 : Int32) then (w_X9_credit ((0 : Int32)) ((60 : Int32)) u9 (fun r13 u12 => (if r13 = (60 : Int32) then (w_X9_addGate ((0 : Int32)) ((2 : Int32)) ((3 : Int32)) ((4 : Int32)) u12 (fun r16 u15 => (if r16 = 0 then (∃ n70 : Nat, n70 ≤ 50 ∧ w_L_law_70 L xs Φ n70 ((0 : Int32)) u15) else (Φ ((0 : Int32)) u15)))) else (Φ ((0 : Int32)) u12)))) else (Φ ((0 : Int32)) u9)))) else (Φ ((0 : Int32)) u6)))) else (Φ ((0 : Int32)) u3)))))))
set_option maxHeartbeats 4000000 in
set_option maxRecDepth 100000 in
theorem t_L_law_0 {p : Program} {l : Launch} {e : Env} {s : State} {m : MethodId} {below : List Frame} {meth : Method} {c : Code} {D : va_G} {cA : Nat → ClassId} {o b L : Nat} {xs : Nat → Int32}  (C : Cx p m meth c s #[Value.ref b] cL_law 15 wsL_law RL ret D (tysL cA)) (hX : va_X b L xs s s.heap) (hbo : b < o) (hL : L ≤ 260) (ho : s.heap.size = o) : ∀  (u0 : Mm), ∀ cells slots : Nat, cells + 50 ≤ 1000 ∧ slots + 300 ≤ 20000 → ∀ (H : Heap) (locs : List Loc) (ls : Array Slot), HpW o D cA u0 s H locs → lv_has ls 15 [(1, .ref (o + 0)), (0, .ref b)] → w_L_law L xs u0 PL → W p l e room_1 s m #[Value.ref b] below meth c H locs cells slots (lw_Z below #[Value.ref b] s) (F0 m 8 ls []) := by
  intro u0 cells slots hc H locs ls P hl h
  have hx := C.1.1
  have hb := C.1.2.1
  unfold w_L_law at h
  refine lv_aload_n hx hb dL_law_8 rfl (lv_at hl 0 rfl) ?_
  refine lv_iconst (v := 2) hx hb dL_law_9 (by decide) ?_
  refine lv_aload_n hx hb dL_law_10 rfl (lv_at hl 1 rfl) ?_
  refine lv_iconst (v := 0) hx hb dL_law_11 (by decide) ?_
  obtain ⟨hk, h⟩ := h
  refine w_cell (k := ((0 : Int32))) (st0 := .int ((0 : Int32)) :: .ref b :: [.int (2 : Int32), .ref (o + 0)]) (va_runS (As := [.ref b, .int ((0 : Int32))]) (rest := [.int (2 : Int32), .ref (o + 0)]) C.1 (c_L_cell l b L xs hL hk) (va_cwS 2 C.1.2.2.2.2 gL_law_L_cell rfl rfl rfl (by decide +kernel) ⟨Nat.le_of_ble_eq_true rfl, Nat.le_of_ble_eq_true rfl⟩) (w_cpre C hX hbo P) rfl rfl hl.1 rfl (lv_room (Nat.le_of_ble_eq_true rfl)) dL_law_12 (w_fit (by omega) (by omega))) P (fun H locs P => ?_)
  refine lv_iconst (v := 4) hx hb dL_law_15 (by decide) ?_
  refine w_calli (va_runS (As := [.int (cellv L xs ((0 : Int32))), .int (4 : Int32)]) (rest := [.int (2 : Int32), .ref (o + 0)]) C.1 (c_L_low l D cA o _ _ u0 _ h) (va_cwS 2 C.1.2.2.2.2 gL_law_L_low rfl rfl rfl (by decide +kernel) ⟨Nat.le_of_ble_eq_true rfl, Nat.le_of_ble_eq_true rfl⟩) (w_pre C P.1 [.int (cellv L xs ((0 : Int32))), .int (4 : Int32)]) rfl rfl hl.1 rfl (lv_room (Nat.le_of_ble_eq_true rfl)) dL_law_16 (w_fit (by omega) (by omega))) P (fun r2 u1 H locs h P => ?_)
  refine lv_iadd hx hb dL_law_19 ?_
  refine w_calli (va_runV (As := [.int ((2 : Int32) + r2)]) (rest := []) C.1 (c_X9_addPool l D cA o _ u1 _ h) (cwV 1 C.1.2.2.2.2 gL_law_X9_addPool rfl rfl rfl (by decide +kernel) ⟨Nat.le_of_ble_eq_true rfl, Nat.le_of_ble_eq_true rfl⟩) (w_preV C P.1 [.int ((2 : Int32) + r2)] (ci := 9) rfl (kd_lt kd_at_0 (by decide)) (EK_9 kd_at_0)) rfl rfl hl.1 rfl (lv_room (Nat.le_of_ble_eq_true rfl)) dL_law_20 (w_fit (by omega) (by omega))) P (fun r4 u3 H locs h P => ?_)
  refine lv_if_ne (tgt := 66) hx hb dL_law_23 (by decide) (fun c5 => ?_) (fun c5 => ?_)
  · have h := ite_f h c5
    refine lv_iconst (v := 0) hx hb dL_law_66 (by decide) ?_
    exact lw_fin C ho P (by omega) (by omega) h dL_law_67
  · have h := ite_t h c5
    refine lv_aload_n hx hb dL_law_26 rfl (lv_at hl 0 rfl) ?_
    refine lv_iconst (v := 0) hx hb dL_law_27 (by decide) ?_
    refine w_calli (va_runV (As := [.int (0 : Int32)]) (rest := []) C.1 (c_X9_addPass l D cA o _ u3 _ h) (cwV 1 C.1.2.2.2.2 gL_law_X9_addPass rfl rfl rfl (by decide +kernel) ⟨Nat.le_of_ble_eq_true rfl, Nat.le_of_ble_eq_true rfl⟩) (w_preV C P.1 [.int (0 : Int32)] (ci := 9) rfl (kd_lt kd_at_0 (by decide)) (EK_9 kd_at_0)) rfl rfl hl.1 rfl (lv_room (Nat.le_of_ble_eq_true rfl)) dL_law_28 (w_fit (by omega) (by omega))) P (fun r7 u6 H locs h P => ?_)
    refine lv_if_ne (tgt := 66) hx hb dL_law_31 (by decide) (fun c8 => ?_) (fun c8 => ?_)
    · have h := ite_f h c8
      refine lv_iconst (v := 0) hx hb dL_law_66 (by decide) ?_
      exact lw_fin C ho P (by omega) (by omega) h dL_law_67
    · have h := ite_t h c8
      refine lv_aload_n hx hb dL_law_34 rfl (lv_at hl 0 rfl) ?_
      refine lv_iconst (v := 0) hx hb dL_law_35 (by decide) ?_
      refine w_calli (va_runV (As := [.int (0 : Int32)]) (rest := []) C.1 (c_X9_addPass l D cA o _ u6 _ h) (cwV 1 C.1.2.2.2.2 gL_law_X9_addPass rfl rfl rfl (by decide +kernel) ⟨Nat.le_of_ble_eq_true rfl, Nat.le_of_ble_eq_true rfl⟩) (w_preV C P.1 [.int (0 : Int32)] (ci := 9) rfl (kd_lt kd_at_0 (by decide)) (EK_9 kd_at_0)) rfl rfl hl.1 rfl (lv_room (Nat.le_of_ble_eq_true rfl)) dL_law_36 (w_fit (by omega) (by omega))) P (fun r10 u9 H locs h P => ?_)
      refine lv_iconst (v := 1) hx hb dL_law_39 (by decide) ?_
      refine lv_icmp_ne (tgt := 66) hx hb dL_law_40 (by decide) (fun c11 => ?_) (fun c11 => ?_)
      · have h := ite_f h c11
        refine lv_iconst (v := 0) hx hb dL_law_66 (by decide) ?_
        exact lw_fin C ho P (by omega) (by omega) h dL_law_67
      · have h := ite_t h c11
        refine lv_aload_n hx hb dL_law_43 rfl (lv_at hl 0 rfl) ?_
        refine lv_iconst (v := 0) hx hb dL_law_44 (by decide) ?_
        refine lv_bipush (v := 60) hx hb dL_law_45 (by decide) ?_
        refine w_calli (va_runV (As := [.int (0 : Int32), .int (60 : Int32)]) (rest := []) C.1 (c_X9_credit l D cA o _ _ u9 _ h) (cwV 2 C.1.2.2.2.2 gL_law_X9_credit rfl rfl rfl (by decide +kernel) ⟨Nat.le_of_ble_eq_true rfl, Nat.le_of_ble_eq_true rfl⟩) (w_preV C P.1 [.int (0 : Int32), .int (60 : Int32)] (ci := 9) rfl (kd_lt kd_at_0 (by decide)) (EK_9 kd_at_0)) rfl rfl hl.1 rfl (lv_room (Nat.le_of_ble_eq_true rfl)) dL_law_47 (w_fit (by omega) (by omega))) P (fun r13 u12 H locs h P => ?_)
        refine lv_bipush (v := 60) hx hb dL_law_50 (by decide) ?_
        refine lv_icmp_ne (tgt := 66) hx hb dL_law_52 (by decide) (fun c14 => ?_) (fun c14 => ?_)
        · have h := ite_f h c14
          refine lv_iconst (v := 0) hx hb dL_law_66 (by decide) ?_
          exact lw_fin C ho P (by omega) (by omega) h dL_law_67
        · have h := ite_t h c14
          refine lv_aload_n hx hb dL_law_55 rfl (lv_at hl 0 rfl) ?_
          refine lv_iconst (v := 0) hx hb dL_law_56 (by decide) ?_
          refine lv_iconst (v := 2) hx hb dL_law_57 (by decide) ?_
          refine lv_iconst (v := 3) hx hb dL_law_58 (by decide) ?_
          refine lv_iconst (v := 4) hx hb dL_law_59 (by decide) ?_
          refine w_calli (va_runV (As := [.int (0 : Int32), .int (2 : Int32), .int (3 : Int32), .int (4 : Int32)]) (rest := []) C.1 (c_X9_addGate l D cA o _ _ _ _ u12 _ h) (cwV 4 C.1.2.2.2.2 gL_law_X9_addGate rfl rfl rfl (by decide +kernel) ⟨Nat.le_of_ble_eq_true rfl, Nat.le_of_ble_eq_true rfl⟩) (w_preV C P.1 [.int (0 : Int32), .int (2 : Int32), .int (3 : Int32), .int (4 : Int32)] (ci := 9) rfl (kd_lt kd_at_0 (by decide)) (EK_9 kd_at_0)) rfl rfl hl.1 rfl (lv_room (Nat.le_of_ble_eq_true rfl)) dL_law_60 (w_fit (by omega) (by omega))) P (fun r16 u15 H locs h P => ?_)
          refine lv_if_eq (tgt := 68) hx hb dL_law_63 (by decide) (fun c17 => ?_) (fun c17 => ?_)
          · have h := ite_t h c17
            refine lv_iconst (v := 0) hx hb dL_law_68 (by decide) ?_
            refine lv_istore_n (lv' := [(2, .int (0 : Int32)), (1, .ref (o + 0)), (0, .ref b)]) hx hb dL_law_69 rfl hl (by decide) rfl (fun ls hl => ?_)
            obtain ⟨n70, hnn, h⟩ := h
            exact t_L_law_70 C hX hbo hL ho n70 50 hnn _ u15 _ _ ⟨by omega, by omega⟩ _ _ _ P (lv_sub hl [2, 1, 0] rfl) h
          · have h := ite_f h c17
            refine lv_iconst (v := 0) hx hb dL_law_66 (by decide) ?_
            exact lw_fin C ho P (by omega) (by omega) h dL_law_67
