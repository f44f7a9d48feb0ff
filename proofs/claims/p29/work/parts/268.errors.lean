/-! calls that answer with an error -/
section ERRORS29
variable {r : Nat → Int32} {n ng np nx nl g p x T B : Nat} {μ σ : Mm} {Φ : Int32 → Mm → Prop}
theorem x_0 (hn : n < 40000) (hg : 0 < ng) : Acts (fun S => w_X8_newGate S 3 1 1 1) n r ng np nx 1 (Bec (-2) r ng np nx 1) := Acts.same hn (fun σ h S μ Φ hΦ => by
    obtain ⟨n1, n2, n3, n4⟩ := h.1.n
    show w_X8_newGate S 3 1 1 1 (bl S σ μ) Φ
    unfold w_X8_newGate
    rw [bt_n (Or.inr (by decide)), if_pos rfl]
    exact hΦ)
theorem x_1 (hn : n < 40000) (hg : 0 < ng) : Acts (fun S => w_X8_newGate S 0 0 1 1) n r ng np nx 1 (Bec (-2) r ng np nx 1) := Acts.same hn (fun σ h S μ Φ hΦ => by
    obtain ⟨n1, n2, n3, n4⟩ := h.1.n
    show w_X8_newGate S 0 0 1 1 (bl S σ μ) Φ
    unfold w_X8_newGate
    rw [bt_y (by decide) (by decide), if_neg (by decide), bt_n (Or.inl (by decide)), if_pos rfl]
    exact hΦ)
theorem x_2 (hn : n < 40000) (hg : 0 < ng) : Acts (fun S => w_X8_newGate S 0 1 21 1) n r ng np nx 1 (Bec (-2) r ng np nx 1) := Acts.same hn (fun σ h S μ Φ hΦ => by
    obtain ⟨n1, n2, n3, n4⟩ := h.1.n
    show w_X8_newGate S 0 1 21 1 (bl S σ μ) Φ
    unfold w_X8_newGate
    rw [bt_y (by decide) (by decide), if_neg (by decide), bt_y (by decide) (by decide), if_neg (by decide), bt_n (Or.inr (by decide)), if_pos rfl]
    exact hΦ)
theorem x_3 (hn : n < 40000) (hg : 0 < ng) : Acts (fun S => w_X8_newGate S 0 1 1 11) n r ng np nx 1 (Bec (-2) r ng np nx 1) := Acts.same hn (fun σ h S μ Φ hΦ => by
    obtain ⟨n1, n2, n3, n4⟩ := h.1.n
    show w_X8_newGate S 0 1 1 11 (bl S σ μ) Φ
    unfold w_X8_newGate
    rw [bt_y (by decide) (by decide), if_neg (by decide), bt_y (by decide) (by decide), if_neg (by decide), bt_y (by decide) (by decide), if_neg (by decide), bt_n (Or.inr (by decide)), if_pos rfl]
    exact hΦ)
theorem x_4 (hn : n < 40000) (hg : 0 < ng) : Acts (fun S => w_X8_turnGate S (nI ng) 0) n r ng np nx 1 (Bec (-1) r ng np nx 1) := Acts.same hn (fun σ h S μ Φ hΦ => by
    obtain ⟨n1, n2, n3, n4⟩ := h.1.n
    show w_X8_turnGate S (nI ng) 0 (bl S σ μ) Φ
    unfold w_X8_turnGate
    rw [d_gateAt_n h.1.1.1.1 (Or.inr (nI_le (Nat.le_refl _) (by omega))), opt_none]
    exact hΦ)
theorem x_5 (hn : n < 40000) (hg : 0 < ng) : Acts (fun S => w_X8_turnGate S (nI 0) 3) n r ng np nx 1 (Bec (-2) r ng np nx 1) := Acts.same hn (fun σ h S μ Φ hΦ => by
    obtain ⟨n1, n2, n3, n4⟩ := h.1.n
    show w_X8_turnGate S (nI 0) 3 (bl S σ μ) Φ
    unfold w_X8_turnGate
    rw [d_gateAt_y h.1.1.1.1 hg n1, opt_some, bt_n (Or.inr (by decide)), if_pos rfl]
    exact hΦ)
theorem x_6 (hn : n < 40000) (hg : 0 < ng) : Acts (fun S => w_X8_newPool S 0) n r ng np nx 1 (Bec (-2) r ng np nx 1) := Acts.same hn (fun σ h S μ Φ hΦ => by
    obtain ⟨n1, n2, n3, n4⟩ := h.1.n
    show w_X8_newPool S 0 (bl S σ μ) Φ
    unfold w_X8_newPool
    rw [bt_n (Or.inl (by decide)), if_pos rfl]
    exact hΦ)
theorem x_7 (hn : n < 40000) (hg : 0 < ng) : Acts (fun S => w_X8_newPool S 41) n r ng np nx 1 (Bec (-2) r ng np nx 1) := Acts.same hn (fun σ h S μ Φ hΦ => by
    obtain ⟨n1, n2, n3, n4⟩ := h.1.n
    show w_X8_newPool S 41 (bl S σ μ) Φ
    unfold w_X8_newPool
    rw [bt_n (Or.inr (by decide)), if_pos rfl]
    exact hΦ)
theorem x_8 (hn : n < 40000) (hg : 0 < ng) : Acts (fun S => w_X8_addCredit S 4 1) n r ng np nx 1 (Bec (-1) r ng np nx 1) := Acts.same hn (fun σ h S μ Φ hΦ => by
    obtain ⟨n1, n2, n3, n4⟩ := h.1.n
    show w_X8_addCredit S 4 1 (bl S σ μ) Φ
    unfold w_X8_addCredit
    rw [d_poolAt_n h.1.1.2.2.2.1.1 (Or.inr (by decide)), opt_none]
    exact hΦ)
theorem x_9 (hn : n < 40000) (hg : 0 < ng) : Acts (fun S => w_X8_addCredit S (nI 0) 0) n r ng np nx 1 (Bec (-2) r ng np nx 1) := Acts.same hn (fun σ h S μ Φ hΦ => by
    obtain ⟨n1, n2, n3, n4⟩ := h.1.n
    show w_X8_addCredit S (nI 0) 0 (bl S σ μ) Φ
    unfold w_X8_addCredit
    rw [d_poolAt_y h.1.1.2.2.2.1.1 (by decide) (by decide), opt_some, bt_n (Or.inl (by decide)), if_pos rfl]
    exact hΦ)
theorem x_10 (hn : n < 40000) (hg : 0 < ng) : Acts (fun S => w_X8_addCredit S (nI 0) 100001) n r ng np nx 1 (Bec (-2) r ng np nx 1) := Acts.same hn (fun σ h S μ Φ hΦ => by
    obtain ⟨n1, n2, n3, n4⟩ := h.1.n
    show w_X8_addCredit S (nI 0) 100001 (bl S σ μ) Φ
    unfold w_X8_addCredit
    rw [d_poolAt_y h.1.1.2.2.2.1.1 (by decide) (by decide), opt_some, bt_n (Or.inr (by decide)), if_pos rfl]
    exact hΦ)
theorem x_11 (hn : n < 40000) (hg : 0 < ng) : Acts (fun S => w_X8_newPass S 4) n r ng np nx 1 (Bec (-1) r ng np nx 1) := Acts.same hn (fun σ h S μ Φ hΦ => by
    obtain ⟨n1, n2, n3, n4⟩ := h.1.n
    show w_X8_newPass S 4 (bl S σ μ) Φ
    unfold w_X8_newPass
    rw [d_poolAt_n h.1.1.2.2.2.1.1 (Or.inr (by decide)), opt_none]
    exact hΦ)
theorem x_12 (hn : n < 40000) (hg : 0 < ng) : Acts (fun S => w_X8_markPass S 12 1) n r ng np nx 1 (Bec (-1) r ng np nx 1) := Acts.same hn (fun σ h S μ Φ hΦ => by
    obtain ⟨n1, n2, n3, n4⟩ := h.1.n
    show w_X8_markPass S 12 1 (bl S σ μ) Φ
    unfold w_X8_markPass
    rw [d_passAt_n (a := 12) h.1.1.2.2.1.1 (Or.inr (nI_le (b := 12) n3 (by decide))), opt_none]
    exact hΦ)
theorem x_13 (hn : n < 40000) (hg : 0 < ng) : Acts (fun S => w_X8_changeFare S 1001) n r ng np nx 1 (Bec (-2) r ng np nx 1) := Acts.same hn (fun σ h S μ Φ hΦ => by
    obtain ⟨n1, n2, n3, n4⟩ := h.1.n
    show w_X8_changeFare S 1001 (bl S σ μ) Φ
    unfold w_X8_changeFare
    rw [bt_n (Or.inr (by decide)), if_pos rfl]
    exact hΦ)
theorem x_14 (hn : n < 40000) (hg : 0 < ng) : Acts (fun S => w_X8_comeIn S (nI ng) (-1) 0) n r ng np nx 1 (Bec (-1) r ng np nx 1) := Acts.same hn (fun σ h S μ Φ hΦ => by
    obtain ⟨n1, n2, n3, n4⟩ := h.1.n
    show w_X8_comeIn S (nI ng) (-1) 0 (bl S σ μ) Φ
    unfold w_X8_comeIn
    rw [d_gateAt_n h.1.1.1.1 (Or.inr (nI_le (Nat.le_refl _) (by omega))), opt_none]
    exact hΦ)
theorem x_15 (hn : n < 40000) (hg : 0 < ng) : Acts (fun S => w_X8_comeIn S (nI 0) 12 0) n r ng np nx 1 (Bec (-1) r ng np nx 1) := Acts.same hn (fun σ h S μ Φ hΦ => by
    obtain ⟨n1, n2, n3, n4⟩ := h.1.n
    show w_X8_comeIn S (nI 0) 12 0 (bl S σ μ) Φ
    unfold w_X8_comeIn
    rw [d_gateAt_y h.1.1.1.1 hg n1, opt_some, if_neg (by decide), d_passAt_n (a := 12) h.1.1.2.2.1.1 (Or.inr (nI_le (b := 12) n3 (by decide))), opt_none]
    exact hΦ)
theorem x_16 (hn : n < 40000) (hg : 0 < ng) : Acts (fun S => w_X8_comeIn S (nI 0) (-2) 0) n r ng np nx 1 (Bec (-1) r ng np nx 1) := Acts.same hn (fun σ h S μ Φ hΦ => by
    obtain ⟨n1, n2, n3, n4⟩ := h.1.n
    show w_X8_comeIn S (nI 0) (-2) 0 (bl S σ μ) Φ
    unfold w_X8_comeIn
    rw [d_gateAt_y h.1.1.1.1 hg n1, opt_some, if_neg (by decide), d_passAt_n h.1.1.2.2.1.1 (Or.inl (by decide)), opt_none]
    exact hΦ)
theorem x_17 (hn : n < 40000) (hg : 0 < ng) : Acts (fun S => w_X8_goOut S (nI ng) 0) n r ng np nx 1 (Bec (-1) r ng np nx 1) := Acts.same hn (fun σ h S μ Φ hΦ => by
    obtain ⟨n1, n2, n3, n4⟩ := h.1.n
    show w_X8_goOut S (nI ng) 0 (bl S σ μ) Φ
    unfold w_X8_goOut
    rw [d_gateAt_n h.1.1.1.1 (Or.inr (nI_le (Nat.le_refl _) (by omega))), opt_none]
    rcases arg_n 0 (show np < 1073741824 by omega) with ⟨p, hp, e⟩ | hb
    · rw [e, d_personAt_y h.1.1.2.1.1 hp n2, opt_some]
      exact hΦ
    · rw [d_personAt_n h.1.1.2.1.1 hb, opt_none]
      exact hΦ)
theorem x_18 (hn : n < 40000) (hg : 0 < ng) : Acts (fun S => w_X8_goOut S (nI 0) (nI np)) n r ng np nx 1 (Bec (-1) r ng np nx 1) := Acts.same hn (fun σ h S μ Φ hΦ => by
    obtain ⟨n1, n2, n3, n4⟩ := h.1.n
    show w_X8_goOut S (nI 0) (nI np) (bl S σ μ) Φ
    unfold w_X8_goOut
    rw [d_gateAt_y h.1.1.1.1 hg n1, opt_some, d_personAt_n h.1.1.2.1.1 (Or.inr (nI_le (Nat.le_refl _) (by omega))), opt_none]
    exact hΦ)
theorem x_19 (hn : n < 40000) (hg : 0 < ng) : Acts (fun S => w_X8_moveQueues S (nI 0) (nI ng)) n r ng np nx 1 (Bec (-1) r ng np nx 1) := Acts.same hn (fun σ h S μ Φ hΦ => by
    obtain ⟨n1, n2, n3, n4⟩ := h.1.n
    show w_X8_moveQueues S (nI 0) (nI ng) (bl S σ μ) Φ
    unfold w_X8_moveQueues
    rw [d_gateAt_y h.1.1.1.1 hg n1, opt_some, d_gateAt_n h.1.1.1.1 (Or.inr (nI_le (Nat.le_refl _) (by omega))), opt_none]
    exact hΦ)
theorem x_20 (hn : n < 40000) (hg : 0 < ng) : Acts (fun S => w_X8_tellPinch S (nI ng)) n r ng np nx 1 (Bec (-1) r ng np nx 1) := Acts.same hn (fun σ h S μ Φ hΦ => by
    obtain ⟨n1, n2, n3, n4⟩ := h.1.n
    show w_X8_tellPinch S (nI ng) (bl S σ μ) Φ
    unfold w_X8_tellPinch
    rw [d_gateAt_n h.1.1.1.1 (Or.inr (nI_le (Nat.le_refl _) (by omega))), opt_none]
    exact hΦ)
theorem x_21 (hn : n < 40000) (hg : 0 < ng) : Acts (fun S => w_X8_putOutOfOrder S (-1)) n r ng np nx 1 (Bec (-1) r ng np nx 1) := Acts.same hn (fun σ h S μ Φ hΦ => by
    obtain ⟨n1, n2, n3, n4⟩ := h.1.n
    show w_X8_putOutOfOrder S (-1) (bl S σ μ) Φ
    unfold w_X8_putOutOfOrder
    rw [d_gateAt_n h.1.1.1.1 (Or.inl (by decide)), opt_none]
    exact hΦ)
theorem x_22 (hn : n < 40000) (hg : 0 < ng) : Acts (fun S => w_X8_putInOrder S (nI ng)) n r ng np nx 1 (Bec (-1) r ng np nx 1) := Acts.same hn (fun σ h S μ Φ hΦ => by
    obtain ⟨n1, n2, n3, n4⟩ := h.1.n
    show w_X8_putInOrder S (nI ng) (bl S σ μ) Φ
    unfold w_X8_putInOrder
    rw [d_gateAt_n h.1.1.1.1 (Or.inr (nI_le (Nat.le_refl _) (by omega))), opt_none]
    exact hΦ)
theorem x_23 (hn : n < 40000) (hg : 0 < ng) : Acts (fun S => w_X8_letTicksGo S 0) n r ng np nx 1 (Bec (-2) r ng np nx 1) := Acts.same hn (fun σ h S μ Φ hΦ => by
    obtain ⟨n1, n2, n3, n4⟩ := h.1.n
    show w_X8_letTicksGo S 0 (bl S σ μ) Φ
    unfold w_X8_letTicksGo
    rw [bt_n (Or.inl (by decide)), if_pos rfl]
    exact hΦ)
theorem x_24 (hn : n < 40000) (hg : 0 < ng) : Acts (fun S => w_X8_letTicksGo S 201) n r ng np nx 1 (Bec (-2) r ng np nx 1) := Acts.same hn (fun σ h S μ Φ hΦ => by
    obtain ⟨n1, n2, n3, n4⟩ := h.1.n
    show w_X8_letTicksGo S 201 (bl S σ μ) Φ
    unfold w_X8_letTicksGo
    rw [bt_n (Or.inr (by decide)), if_pos rfl]
    exact hΦ)
theorem law_err2 (hn : n + 40 < 40000) (hM0 : M29 n μ r ng np nx 1) (hg : 0 < ng) (H : ∀ μ' : Mm, Φ 1 μ') : w_L_errors_178 Φ (nI ng) (nI np) 1 μ := by
  obtain ⟨n1, n2, n3, n4⟩ := hM0.1.1.n
  unfold w_L_errors_178
  rw [if_neg (by decide)]
  try unfold w_X9_enter
  refine same29 (by omega) hM0 (x_14 (by omega) hg) ?_
  intro μ1 hM1
  show (if _ then _ else _)
  rw [if_pos rfl]
  try unfold w_X9_enter
  refine same29 (by omega) hM1 (x_15 (by omega) hg) ?_
  intro μ2 hM2
  show (if _ then _ else _)
  rw [if_pos rfl]
  try unfold w_X9_enter
  refine same29 (by omega) hM2 (x_16 (by omega) hg) ?_
  intro μ3 hM3
  show (if _ then _ else _)
  rw [if_pos rfl]
  try unfold w_X9_exit
  refine same29 (by omega) hM3 (x_17 (by omega) hg) ?_
  intro μ4 hM4
  show (if _ then _ else _)
  rw [if_pos rfl]
  try unfold w_X9_exit
  refine same29 (by omega) hM4 (x_18 (by omega) hg) ?_
  intro μ5 hM5
  show (if _ then _ else _)
  rw [if_pos rfl]
  try unfold w_X9_divert
  refine same29 (by omega) hM5 (x_19 (by omega) hg) ?_
  intro μ6 hM6
  show (if _ then _ else _)
  rw [if_pos rfl]
  try unfold w_X9_pinch
  refine same29 (by omega) hM6 (x_20 (by omega) hg) ?_
  intro μ7 hM7
  show (if _ then _ else _)
  rw [if_pos rfl]
  refine failb29 (by omega) hM7 (x_21 (by omega) hg) ?_
  intro μ8 hM8
  show (if _ then _ else _)
  rw [if_pos rfl]
  try unfold w_X9_repair
  refine same29 (by omega) hM8 (x_22 (by omega) hg) ?_
  intro μ9 hM9
  show (if _ then _ else _)
  rw [if_pos rfl]
  try unfold w_X9_pass
  refine same29 (by omega) hM9 (x_23 (by omega) hg) ?_
  intro μ10 hM10
  show (if _ then _ else _)
  rw [if_pos rfl]
  try unfold w_X9_pass
  refine same29 (by omega) hM10 (x_24 (by omega) hg) ?_
  intro μ11 hM11
  show (if _ then _ else _)
  rw [if_pos rfl]
  have h' := hM11.1
  rw [rg_n h' (Or.inr (nI_le (Nat.le_refl _) (by omega))), if_pos rfl, rq_n h' (Or.inr (nI_le (Nat.le_refl _) (by omega))), if_pos rfl, re_m1, if_pos rfl, re_04, if_pos rfl, re_20 h', if_pos rfl]
  unfold w_X9_passesIn
  rw [h_person_n h' (Or.inr (nI_le (Nat.le_refl _) (by omega))), opt_none]
  show (if _ then _ else _)
  rw [if_pos rfl]
  exact H _
theorem law_errors (hn : n + 60 < 40000) (hM0 : M29 n μ r ng np nx 1) (hg : 0 < ng) (H : ∀ μ' : Mm, Φ 1 μ') : w_L_errors μ Φ := by
  obtain ⟨n1, n2, n3, n4⟩ := hM0.1.1.n
  unfold w_L_errors
  rw [rc_1 hM0.1, rc_2 hM0.1]
  try unfold w_X9_addGate
  refine same29 (by omega) hM0 (x_0 (by omega) hg) ?_
  intro μ1 hM1
  show (if _ then _ else _)
  rw [if_pos rfl]
  try unfold w_X9_addGate
  refine same29 (by omega) hM1 (x_1 (by omega) hg) ?_
  intro μ2 hM2
  show (if _ then _ else _)
  rw [if_pos rfl]
  try unfold w_X9_addGate
  refine same29 (by omega) hM2 (x_2 (by omega) hg) ?_
  intro μ3 hM3
  show (if _ then _ else _)
  rw [if_pos rfl]
  try unfold w_X9_addGate
  refine same29 (by omega) hM3 (x_3 (by omega) hg) ?_
  intro μ4 hM4
  show (if _ then _ else _)
  rw [if_pos rfl]
  try unfold w_X9_setDirection
  refine same29 (by omega) hM4 (x_4 (by omega) hg) ?_
  intro μ5 hM5
  show (if _ then _ else _)
  rw [if_pos rfl]
  try unfold w_X9_setDirection
  refine same29 (by omega) hM5 (x_5 (by omega) hg) ?_
  intro μ6 hM6
  show (if _ then _ else _)
  rw [if_pos rfl]
  try unfold w_X9_addPool
  refine same29 (by omega) hM6 (x_6 (by omega) hg) ?_
  intro μ7 hM7
  show (if _ then _ else _)
  rw [if_pos rfl]
  try unfold w_X9_addPool
  refine same29 (by omega) hM7 (x_7 (by omega) hg) ?_
  intro μ8 hM8
  show (if _ then _ else _)
  rw [if_pos rfl]
  try unfold w_X9_credit
  refine same29 (by omega) hM8 (x_8 (by omega) hg) ?_
  intro μ9 hM9
  show (if _ then _ else _)
  rw [if_pos rfl]
  try unfold w_X9_credit
  refine same29 (by omega) hM9 (x_9 (by omega) hg) ?_
  intro μ10 hM10
  show (if _ then _ else _)
  rw [if_pos rfl]
  try unfold w_X9_credit
  refine same29 (by omega) hM10 (x_10 (by omega) hg) ?_
  intro μ11 hM11
  show (if _ then _ else _)
  rw [if_pos rfl]
  try unfold w_X9_addPass
  refine same29 (by omega) hM11 (x_11 (by omega) hg) ?_
  intro μ12 hM12
  show (if _ then _ else _)
  rw [if_pos rfl]
  try unfold w_X9_block
  refine same29 (by omega) hM12 (x_12 (by omega) hg) ?_
  intro μ13 hM13
  show (if _ then _ else _)
  rw [if_pos rfl]
  try unfold w_X9_setFare
  refine same29 (by omega) hM13 (x_13 (by omega) hg) ?_
  intro μ14 hM14
  show (if _ then _ else _)
  rw [if_pos rfl]
  exact law_err2 (by omega) hM14 hg H
end ERRORS29
