/-! numbers about the whole -/
section COUNTS
variable {μ : Mm} {r : Nat → Int32} {T ng np nx nl g p x : Nat} {Φ : Int32 → Mm → Prop}
theorem h_who (h : Rel (HB μ 1) r T ng np nx nl) (w : Nat) {v : Int32} (hv : v = nI w) (H : Φ (nI (whoR r np w)) μ) : w_X8_peopleWhoAre 1 v μ Φ := by
  have e : cnt (fun p => decide (HB μ 1 (50 + p) 2 = v)) np = whoR r np w := cnt_congr (fun p hp => by rw [hv, show HB μ 1 (50 + p) 2 = r (120 + 7 * p + 0) from h.1.2.2.1 p 2 hp (by decide)])
  have k := c_who (S := 1) (σ := HB μ 1) (μ := μ) (v := v) (Φ := Φ) h.1.1.2.1.1 h.1.n.2.1 (by rw [e, bl_HB]; exact H)
  rw [bl_HB] at k
  exact k
theorem rc_0 (h : Rel (HB μ 1) r T ng np nx nl) : w_X9_count 0 μ Φ = Φ (r 0) μ := by
  unfold w_X9_count
  rw [if_pos rfl, show μ 1 9 = r 0 from h.1.time.symm]
theorem rc_1 (h : Rel (HB μ 1) r T ng np nx nl) : w_X9_count 1 μ Φ = Φ (nI ng) μ := by
  unfold w_X9_count
  rw [if_neg (by decide), if_pos rfl, show μ 1 5 = nI ng from h.1.1.1.1]
theorem rc_2 (h : Rel (HB μ 1) r T ng np nx nl) : w_X9_count 2 μ Φ = Φ (nI np) μ := by
  unfold w_X9_count
  rw [if_neg (by decide), if_neg (by decide), if_pos rfl, show μ 1 6 = nI np from h.1.1.2.1.1]
theorem rc_3 (h : Rel (HB μ 1) r T ng np nx nl) (H : Φ (nI (whoR r np 3) + nI (whoR r np 4)) μ) : w_X9_count 3 μ Φ := by
  unfold w_X9_count
  rw [if_neg (by decide), if_neg (by decide), if_neg (by decide), if_pos rfl]
  exact h_who h 3 rfl (h_who h 4 rfl H)
theorem rc_4 (h : Rel (HB μ 1) r T ng np nx nl) (H : Φ (nI (whoR r np 1)) μ) : w_X9_count 4 μ Φ := by
  unfold w_X9_count
  rw [if_neg (by decide), if_neg (by decide), if_neg (by decide), if_neg (by decide), if_pos rfl]
  exact h_who h 1 rfl H
theorem rc_5 (h : Rel (HB μ 1) r T ng np nx nl) (H : Φ (nI (whoR r np 2)) μ) : w_X9_count 5 μ Φ := by
  unfold w_X9_count
  rw [if_neg (by decide), if_neg (by decide), if_neg (by decide), if_neg (by decide), if_neg (by decide), if_pos rfl]
  exact h_who h 2 rfl H
theorem rc_6 (h : Rel (HB μ 1) r T ng np nx nl) (H : Φ (nI (whoR r np 5)) μ) : w_X9_count 6 μ Φ := by
  unfold w_X9_count
  rw [if_neg (by decide), if_neg (by decide), if_neg (by decide), if_neg (by decide), if_neg (by decide), if_neg (by decide), if_pos rfl]
  exact h_who h 5 rfl H
theorem sumRef_R {n : Nat} : sumRef r n = sumR r n := by
  induction n with
  | zero => rfl
  | succ n ih => unfold sumRef sumR; rw [ih]
theorem rc_7 (h : Rel (HB μ 1) r T ng np nx nl) (H : Φ (sumR r ng) μ) : w_X9_count 7 μ Φ := by
  unfold w_X9_count
  rw [if_neg (by decide), if_neg (by decide), if_neg (by decide), if_neg (by decide), if_neg (by decide), if_neg (by decide), if_neg (by decide), if_pos rfl]
  have k := refus_loop (S := 1) (σ := HB μ 1) (μ := μ) (Φ := Φ) (r := r) h.1.1.1.1 h.1.n.1 (fun g hg => h.1.2.1 g 11 hg (by decide)) (by rw [sumRef_R, bl_HB]; exact H) ng 0 (by omega)
  rw [bl_HB] at k
  exact k
theorem rc_8 (h : Rel (HB μ 1) r T ng np nx 1) (H : Φ (0 + r 426) μ) : w_X9_count 8 μ Φ := by
  unfold w_X9_count
  rw [if_neg (by decide), if_neg (by decide), if_neg (by decide), if_neg (by decide), if_neg (by decide), if_neg (by decide), if_neg (by decide), if_neg (by decide), if_pos rfl]
  have k := fares_loop (S := 1) (σ := HB μ 1) (μ := μ) (Φ := Φ) (r := r) (nl := 1) h.1.1.2.2.2.1.1 (by decide) (fun x hx => h.1.2.2.2.2.1 x 4 hx (by decide)) (by rw [bl_HB]; exact H) 1 0 (by omega)
  rw [bl_HB] at k
  exact k
theorem rc_9 (h : Rel (HB μ 1) r T ng np nx nl) : w_X9_count 9 μ Φ = Φ (r 6) μ := by
  unfold w_X9_count
  rw [if_neg (by decide), if_neg (by decide), if_neg (by decide), if_neg (by decide), if_neg (by decide), if_neg (by decide), if_neg (by decide), if_neg (by decide), if_neg (by decide), if_pos rfl, show μ 1 10 = r 6 from h.1.1.2.2.2.2.1]
theorem rc_13 : w_X9_count 13 μ Φ = Φ (-2) μ := by
  unfold w_X9_count
  rw [if_neg (by decide), if_neg (by decide), if_neg (by decide), if_neg (by decide), if_neg (by decide), if_neg (by decide), if_neg (by decide), if_neg (by decide), if_neg (by decide), if_neg (by decide), if_neg (by decide), if_neg (by decide), if_neg (by decide)]
end COUNTS
