/-! X2_seatBest -/
def m_X2_seatBest (M : mM) (x0 : Nat) (x1 : Nat) (x2 : Int32) : Option mM :=
  (gR M x0 2 0).bind fun b1 =>
  if isO M b1 5 = true then
  (m_X5_become M b1 x1).bind fun M4 =>
  (pR M4 x0 2 1 x1).bind fun M5 =>
  (pI M5 x0 2 2 x2).bind fun M7 =>
  (pI M7 x0 2 3 (-1 : Int32)).bind fun M9 =>
  (m_X2_fillSeat 8 M9 x0 (0 : Int32) (0 : Int32) (0 : Int32) (0 : Int32)).bind fun M12 =>
  some M12
  else none
theorem e_X2_seatBest {Z : zZ} {M : mM} {N : mM} {x0 : Nat} {x1 : Nat} {x2 : Int32} (h : m_X2_seatBest M x0 x1 x2 = some N) : EM Z yX2_seatBest cX2_seatBest 3 none 14 0 0 [.ref x0, .ref x1, .int x2] M N none := by
  refine EM_of my_X2_seatBest (Nat.le_of_ble_eq_true rfl) (fun X G F => ?_)
  show V X Z M 0 0 0 [some (.ref x0), some (.ref x1), some (.int x2)] []
  unfold m_X2_seatBest at h
  refine v_aload_n G dX2_seatBest_0 rfl ?_
  obtain ⟨b1, q2, h⟩ := bi_ h
  refine v_getR (f := 0) G cl2 dX2_seatBest_1 w211 (by decide) (by decide) q2 ?_
  refine v_aload_n G dX2_seatBest_4 rfl ?_
  obtain ⟨q13, h⟩ := if_s h
  obtain ⟨M4, q3, h⟩ := bi_ h
  refine v_callV0 (e_X5_become q3) G cl5 my_X5_become rfl w423 w424 w579 dX2_seatBest_5 q13 rfl (Nat.le_of_ble_eq_true rfl) rfl (Nat.le_of_ble_eq_true rfl) (Nat.zero_le _) (Nat.zero_le _) ?_
  refine v_aload_n G dX2_seatBest_8 rfl ?_
  refine v_aload_n G dX2_seatBest_9 rfl ?_
  obtain ⟨M5, q6, h⟩ := bi_ h
  refine v_putR (f := 1) G cl2 dX2_seatBest_10 w212 (by decide) (by decide) (by decide) (fun _ => rfl) (fun _ => rfl) q6 ?_
  refine v_aload_n G dX2_seatBest_13 rfl ?_
  refine v_iload_n G dX2_seatBest_14 rfl ?_
  obtain ⟨M7, q8, h⟩ := bi_ h
  refine v_putI (f := 2) G cl2 dX2_seatBest_15 w213 (by decide) (by decide) (by decide) rfl rfl q8 ?_
  refine v_aload_n G dX2_seatBest_18 rfl ?_
  refine v_iconst G (-1 : Int32) dX2_seatBest_19 (by decide) ?_
  obtain ⟨M9, q10, h⟩ := bi_ h
  refine v_putI (f := 3) G cl2 dX2_seatBest_20 w214 (by decide) (by decide) (by decide) rfl rfl q10 ?_
  refine v_aload_n G dX2_seatBest_23 rfl ?_
  refine v_iconst G (0 : Int32) dX2_seatBest_24 (by decide) ?_
  refine v_iconst G (0 : Int32) dX2_seatBest_25 (by decide) ?_
  refine v_iconst G (0 : Int32) dX2_seatBest_26 (by decide) ?_
  refine v_iconst G (0 : Int32) dX2_seatBest_27 (by decide) ?_
  obtain ⟨M12, q11, h⟩ := bi_ h
  refine v_callS0 (e_X2_fillSeat q11) G my_X2_fillSeat w638 w637 dX2_seatBest_28 rfl (Nat.le_of_ble_eq_true rfl) rfl (Nat.le_of_ble_eq_true rfl) (Nat.zero_le _) (Nat.zero_le _) ?_
  cases h
  exact v_vret G F dX2_seatBest_31 rfl (Nat.le_refl _)
/-! X5_known -/
def m_X5_known_L4 {ρ : Type} (k0 : Int32 → Option ρ) (M : mM) (x0 : Nat) : Nat → Int32 → Int32 → Option ρ
  | 0, _, _ => none
  | n + 1, x1, x2 =>
    (gI M x0 5 3).bind fun v1 =>
    if v1 ≤ x2 then (
      k0 x1
    ) else (
      if isO M x0 5 = true then
      (m_X5_form M x0 x2).bind fun v5 =>
      m_X5_known_L4 k0 M x0 n (x1 + v5) (x2 + (1 : Int32))
      else none
    )
theorem e_X5_known_L4 {X : xX} {Z : zZ} {cn sn : Nat} {ρ : Type} {r : ρ} {k0 : Int32 → Option ρ} (G : ok_ X Z yX5_known cX5_known 3 2 0 0) (hcn : cn ≤ 0) (hsn : sn ≤ 0) (M : mM) (x0 : Nat)
    (hx0 : ∀ (z1 : Int32), k0 z1 = some r → V X Z M cn sn 26 [none, some (.int z1), none] []) :
    ∀ (n : Nat) (x1 : Int32) (x2 : Int32), m_X5_known_L4 k0 M x0 n x1 x2 = some r → V X Z M cn sn 4 [some (.ref x0), some (.int x1), some (.int x2)] [] := by
  intro n
  induction n with
  | zero => intro x1 x2 h; rw [m_X5_known_L4] at h; cases h
  | succ n ih =>
    intro x1 x2 h
    rw [m_X5_known_L4] at h
    refine v_iload_n G dX5_known_4 rfl ?_
    refine v_aload_n G dX5_known_5 rfl ?_
    obtain ⟨v1, q2, h⟩ := bi_ h
    refine v_getI (f := 3) G cl5 dX5_known_6 w96 (by decide) (by decide) q2 ?_
    refine v_ic_ge 26 G dX5_known_9 (by decide) (fun q3 => ?_) (fun q3 => ?_)
    · rw [if_pos q3] at h
      exact v_mask [false, true, false] rfl (hx0 _ h)
    · rw [if_neg q3] at h
      refine v_iload_n G dX5_known_12 rfl ?_
      refine v_aload_n G dX5_known_13 rfl ?_
      refine v_iload_n G dX5_known_14 rfl ?_
      obtain ⟨q6, h⟩ := if_s h
      obtain ⟨v5, q4, h⟩ := bi_ h
      refine v_callV0 (e_X5_form q4) G cl5 my_X5_form rfl w499 w500 w498 dX5_known_15 q6 rfl (Nat.le_of_ble_eq_true rfl) rfl (Nat.le_of_ble_eq_true rfl) hcn hsn ?_
      refine v_iadd G dX5_known_18 ?_
      refine v_istore_n [some (.ref x0), some (.int (x1 + v5)), some (.int x2)] G dX5_known_19 (Nat.le_of_ble_eq_true rfl) rfl rfl ?_
      refine v_iinc (x2 + (1 : Int32)) [some (.ref x0), some (.int (x1 + v5)), some (.int (x2 + (1 : Int32)))] G dX5_known_20 rfl rfl (Nat.le_of_ble_eq_true rfl) rfl rfl ?_
      refine v_goto 4 G dX5_known_23 (by decide) ?_
      exact v_mask [true, true, true] rfl (ih _ _ h)
def m_X5_known (M : mM) (x0 : Nat) : Option Int32 :=
  m_X5_known_L4
    (fun v7 =>
      some v7)
    M x0 FU (0 : Int32) (0 : Int32)
theorem e_X5_known {Z : zZ} {M : mM} {x0 : Nat} {r : Int32} (h : m_X5_known M x0 = some r) : EM Z yX5_known cX5_known 3 (some .int) 2 0 0 [.ref x0] M M (some (.int r)) := by
  refine EM_of my_X5_known (Nat.le_of_ble_eq_true rfl) (fun X G F => ?_)
  show V X Z M 0 0 0 [some (.ref x0), none, none] []
  unfold m_X5_known at h
  refine v_iconst G (0 : Int32) dX5_known_0 (by decide) ?_
  refine v_istore_n [some (.ref x0), some (.int (0 : Int32)), none] G dX5_known_1 (Nat.le_of_ble_eq_true rfl) rfl rfl ?_
  refine v_iconst G (0 : Int32) dX5_known_2 (by decide) ?_
  refine v_istore_n [some (.ref x0), some (.int (0 : Int32)), some (.int (0 : Int32))] G dX5_known_3 (Nat.le_of_ble_eq_true rfl) rfl rfl ?_
  refine v_mask [true, true, true] rfl ?_
  refine e_X5_known_L4 G (Nat.zero_le _) (Nat.zero_le _) _ _ (fun v7 h => ?_) FU _ _ h
  refine v_iload_n G dX5_known_26 rfl ?_
  cases h
  exact v_iret G F dX5_known_27 rfl (Nat.le_refl _)
/-! X5_swapLessons -/
def m_X5_swapLessons (M : mM) (x0 : Nat) (x1 : Int32) (x2 : Int32) : Option mM :=
  (gR M x0 5 6).bind fun b1 =>
  (ldI M b1 x1).bind fun v4 =>
  (gR M x0 5 6).bind fun b5 =>
  (gR M x0 5 6).bind fun b7 =>
  (ldI M b7 x2).bind fun v10 =>
  (stI M b5 x1 v10).bind fun M11 =>
  (gR M11 x0 5 6).bind fun b13 =>
  (stI M11 b13 x2 v4).bind fun M15 =>
  some M15
theorem e_X5_swapLessons {Z : zZ} {M : mM} {N : mM} {x0 : Nat} {x1 : Int32} {x2 : Int32} (h : m_X5_swapLessons M x0 x1 x2 = some N) : EM Z yX5_swapLessons cX5_swapLessons 4 none 0 0 0 [.ref x0, .int x1, .int x2] M N none := by
  refine EM_of my_X5_swapLessons (Nat.le_of_ble_eq_true rfl) (fun X G F => ?_)
  show V X Z M 0 0 0 [some (.ref x0), some (.int x1), some (.int x2), none] []
  unfold m_X5_swapLessons at h
  refine v_aload_n G dX5_swapLessons_0 rfl ?_
  obtain ⟨b1, q2, h⟩ := bi_ h
  refine v_getR (f := 6) G cl5 dX5_swapLessons_1 w106 (by decide) (by decide) q2 ?_
  refine v_iload_n G dX5_swapLessons_4 rfl ?_
  obtain ⟨v4, q3, h⟩ := bi_ h
  refine v_iald G dX5_swapLessons_5 q3 ?_
  refine v_istore_n [some (.ref x0), some (.int x1), some (.int x2), some (.int v4)] G dX5_swapLessons_6 (Nat.le_of_ble_eq_true rfl) rfl rfl ?_
  refine v_aload_n G dX5_swapLessons_7 rfl ?_
  obtain ⟨b5, q6, h⟩ := bi_ h
  refine v_getR (f := 6) G cl5 dX5_swapLessons_8 w106 (by decide) (by decide) q6 ?_
  refine v_iload_n G dX5_swapLessons_11 rfl ?_
  refine v_aload_n G dX5_swapLessons_12 rfl ?_
  obtain ⟨b7, q8, h⟩ := bi_ h
  refine v_getR (f := 6) G cl5 dX5_swapLessons_13 w106 (by decide) (by decide) q8 ?_
  refine v_iload_n G dX5_swapLessons_16 rfl ?_
  obtain ⟨v10, q9, h⟩ := bi_ h
  refine v_iald G dX5_swapLessons_17 q9 ?_
  obtain ⟨M11, q12, h⟩ := bi_ h
  refine v_iast G dX5_swapLessons_18 q12 ?_
  refine v_aload_n G dX5_swapLessons_19 rfl ?_
  obtain ⟨b13, q14, h⟩ := bi_ h
  refine v_getR (f := 6) G cl5 dX5_swapLessons_20 w106 (by decide) (by decide) q14 ?_
  refine v_iload_n G dX5_swapLessons_23 rfl ?_
  refine v_iload_n G dX5_swapLessons_24 rfl ?_
  obtain ⟨M15, q16, h⟩ := bi_ h
  refine v_iast G dX5_swapLessons_25 q16 ?_
  cases h
  exact v_vret G F dX5_swapLessons_26 rfl (Nat.le_refl _)
/-! X2_knownExchanged -/
def m_X2_knownExchanged_L21 {ρ : Type} (k0 : mM → Option ρ) (x0 : Nat) (x2 : Int32) : Nat → mM → Int32 → Option ρ
  | 0, _, _ => none
  | n + 1, M, x5 =>
    if x2 ≤ x5 then (
      k0 M
    ) else (
      (gR M x0 2 0).bind fun b10 =>
      if isO M b10 5 = true then
      (m_X5_passDay M b10).bind fun M13 =>
      m_X2_knownExchanged_L21 k0 x0 x2 n M13 (x5 + (1 : Int32))
      else none
    )
theorem e_X2_knownExchanged_L21 {X : xX} {Z : zZ} {cn sn : Nat} {ρ : Type} {r : ρ} {k0 : mM → Option ρ} (G : ok_ X Z yX2_knownExchanged cX2_knownExchanged 6 5 0 0) (hcn : cn ≤ 0) (hsn : sn ≤ 0) (x0 : Nat) (x2 : Int32)
    (hx0 : ∀ (N : mM), k0 N = some r → V X Z N cn sn 40 [some (.ref x0), none, none, none, none, none] []) :
    ∀ (n : Nat) (M : mM) (x5 : Int32), m_X2_knownExchanged_L21 k0 x0 x2 n M x5 = some r → V X Z M cn sn 21 [some (.ref x0), none, some (.int x2), none, none, some (.int x5)] [] := by
  intro n
  induction n with
  | zero => intro M x5 h; rw [m_X2_knownExchanged_L21] at h; cases h
  | succ n ih =>
    intro M x5 h
    rw [m_X2_knownExchanged_L21] at h
    refine v_iload G dX2_knownExchanged_21 rfl ?_
    refine v_iload_n G dX2_knownExchanged_23 rfl ?_
    refine v_ic_ge 40 G dX2_knownExchanged_24 (by decide) (fun q9 => ?_) (fun q9 => ?_)
    · rw [if_pos q9] at h
      exact v_mask [true, false, false, false, false, false] rfl (hx0 _ h)
    · rw [if_neg q9] at h
      refine v_aload_n G dX2_knownExchanged_27 rfl ?_
      obtain ⟨b10, q11, h⟩ := bi_ h
      refine v_getR (f := 0) G cl2 dX2_knownExchanged_28 w211 (by decide) (by decide) q11 ?_
      obtain ⟨q14, h⟩ := if_s h
      obtain ⟨M13, q12, h⟩ := bi_ h
      refine v_callV0 (e_X5_passDay q12) G cl5 my_X5_passDay rfl w454 w455 w580 dX2_knownExchanged_31 q14 rfl (Nat.le_of_ble_eq_true rfl) rfl (Nat.le_of_ble_eq_true rfl) hcn hsn ?_
      refine v_iinc (x5 + (1 : Int32)) [some (.ref x0), none, some (.int x2), none, none, some (.int (x5 + (1 : Int32)))] G dX2_knownExchanged_34 rfl rfl (Nat.le_of_ble_eq_true rfl) rfl rfl ?_
      refine v_goto 21 G dX2_knownExchanged_37 (by decide) ?_
      exact v_mask [true, false, true, false, false, true] rfl (ih _ _ h)
def m_X2_knownExchanged (M : mM) (x0 : Nat) (x1 : Nat) (x2 : Int32) (x3 : Int32) (x4 : Int32) : Option (mM × Int32) :=
  (gR M x0 2 0).bind fun b1 =>
  if isO M b1 5 = true then
  (m_X5_become M b1 x1).bind fun M4 =>
  (gR M4 x0 2 0).bind fun b5 =>
  if isO M4 b5 5 = true then
  (m_X5_swapLessons M4 b5 x3 x4).bind fun M8 =>
  m_X2_knownExchanged_L21
    (fun M15 =>
      (gR M15 x0 2 0).bind fun b16 =>
      if isO M15 b16 5 = true then
      (m_X5_known M15 b16).bind fun v19 =>
      some (M15, v19)
      else none)
    x0 x2 FU M8 (0 : Int32)
  else none
  else none
theorem e_X2_knownExchanged {Z : zZ} {M : mM} {N : mM} {x0 : Nat} {x1 : Nat} {x2 : Int32} {x3 : Int32} {x4 : Int32} {r : Int32} (h : m_X2_knownExchanged M x0 x1 x2 x3 x4 = some (N, r)) : EM Z yX2_knownExchanged cX2_knownExchanged 6 (some .int) 5 0 0 [.ref x0, .ref x1, .int x2, .int x3, .int x4] M N (some (.int r)) := by
  refine EM_of my_X2_knownExchanged (Nat.le_of_ble_eq_true rfl) (fun X G F => ?_)
  show V X Z M 0 0 0 [some (.ref x0), some (.ref x1), some (.int x2), some (.int x3), some (.int x4), none] []
  unfold m_X2_knownExchanged at h
  refine v_aload_n G dX2_knownExchanged_0 rfl ?_
  obtain ⟨b1, q2, h⟩ := bi_ h
  refine v_getR (f := 0) G cl2 dX2_knownExchanged_1 w211 (by decide) (by decide) q2 ?_
  refine v_aload_n G dX2_knownExchanged_4 rfl ?_
  obtain ⟨q22, h⟩ := if_s h
  obtain ⟨M4, q3, h⟩ := bi_ h
  refine v_callV0 (e_X5_become q3) G cl5 my_X5_become rfl w423 w424 w579 dX2_knownExchanged_5 q22 rfl (Nat.le_of_ble_eq_true rfl) rfl (Nat.le_of_ble_eq_true rfl) (Nat.zero_le _) (Nat.zero_le _) ?_
  refine v_aload_n G dX2_knownExchanged_8 rfl ?_
  obtain ⟨b5, q6, h⟩ := bi_ h
  refine v_getR (f := 0) G cl2 dX2_knownExchanged_9 w211 (by decide) (by decide) q6 ?_
  refine v_iload_n G dX2_knownExchanged_12 rfl ?_
  refine v_iload G dX2_knownExchanged_13 rfl ?_
  obtain ⟨q21, h⟩ := if_s h
  obtain ⟨M8, q7, h⟩ := bi_ h
  refine v_callV0 (e_X5_swapLessons q7) G cl5 my_X5_swapLessons rfl w672 w673 w671 dX2_knownExchanged_15 q21 rfl (Nat.le_of_ble_eq_true rfl) rfl (Nat.le_of_ble_eq_true rfl) (Nat.zero_le _) (Nat.zero_le _) ?_
  refine v_iconst G (0 : Int32) dX2_knownExchanged_18 (by decide) ?_
  refine v_istore [some (.ref x0), some (.ref x1), some (.int x2), some (.int x3), some (.int x4), some (.int (0 : Int32))] G dX2_knownExchanged_19 (Nat.le_of_ble_eq_true rfl) rfl rfl ?_
  refine v_mask [true, false, true, false, false, true] rfl ?_
  refine e_X2_knownExchanged_L21 G (Nat.zero_le _) (Nat.zero_le _) _ _ (fun M15 h => ?_) FU _ _ h
  refine v_aload_n G dX2_knownExchanged_40 rfl ?_
  obtain ⟨b16, q17, h⟩ := bi_ h
  refine v_getR (f := 0) G cl2 dX2_knownExchanged_41 w211 (by decide) (by decide) q17 ?_
  obtain ⟨q20, h⟩ := if_s h
  obtain ⟨v19, q18, h⟩ := bi_ h
  refine v_callV0 (e_X5_known q18) G cl5 my_X5_known rfl w503 w504 w666 dX2_knownExchanged_44 q20 rfl (Nat.le_of_ble_eq_true rfl) rfl (Nat.le_of_ble_eq_true rfl) (Nat.zero_le _) (Nat.zero_le _) ?_
  cases h
  exact v_iret G F dX2_knownExchanged_47 rfl (Nat.le_refl _)
/-! X2_bestExchange -/
def m_X2_bestExchange_L34 {ρ : Type} (k0 : mM → Int32 → Option ρ) (x0 : Nat) (x1 : Nat) (x2 : Int32) (x4 : Int32) : Nat → mM → Int32 → Int32 → Option ρ
  | 0, _, _, _ => none
  | n + 1, M, x3, x5 =>
    (gI M x1 5 2).bind fun v11 =>
    if v11 ≤ x5 then (
      k0 M x3
    ) else (
      if isO M x0 2 = true then
      bd2 (m_X2_knownExchanged M x0 x1 x2 x4 x5) fun M15 v16 =>
      (gI M15 x0 2 3).bind fun v17 =>
      if v16 ≤ v17 then (
        m_X2_bestExchange_L34 k0 x0 x1 x2 x4 n M15 x3 (x5 + (1 : Int32))
      ) else (
        (pI M15 x0 2 3 v16).bind fun M20 =>
        m_X2_bestExchange_L34 k0 x0 x1 x2 x4 n M20 (((10 : Int32) * x4) + x5) (x5 + (1 : Int32))
      )
      else none
    )
theorem e_X2_bestExchange_L34 {X : xX} {Z : zZ} {cn sn : Nat} {ρ : Type} {r : ρ} {k0 : mM → Int32 → Option ρ} (G : ok_ X Z yX2_bestExchange cX2_bestExchange 7 6 0 0) (hcn : cn ≤ 0) (hsn : sn ≤ 0) (x0 : Nat) (x1 : Nat) (x2 : Int32) (x4 : Int32)
    (hx0 : ∀ (N : mM) (z3 : Int32), k0 N z3 = some r → V X Z N cn sn 85 [some (.ref x0), some (.ref x1), some (.int x2), some (.int z3), some (.int x4), none, none] []) :
    ∀ (n : Nat) (M : mM) (x3 : Int32) (x5 : Int32), m_X2_bestExchange_L34 k0 x0 x1 x2 x4 n M x3 x5 = some r → V X Z M cn sn 34 [some (.ref x0), some (.ref x1), some (.int x2), some (.int x3), some (.int x4), some (.int x5), none] [] := by
  intro n
  induction n with
  | zero => intro M x3 x5 h; rw [m_X2_bestExchange_L34] at h; cases h
  | succ n ih =>
    intro M x3 x5 h
    rw [m_X2_bestExchange_L34] at h
    refine v_iload G dX2_bestExchange_34 rfl ?_
    refine v_aload_n G dX2_bestExchange_36 rfl ?_
    obtain ⟨v11, q12, h⟩ := bi_ h
    refine v_getI (f := 2) G cl5 dX2_bestExchange_37 w94 (by decide) (by decide) q12 ?_
    refine v_ic_ge 85 G dX2_bestExchange_40 (by decide) (fun q13 => ?_) (fun q13 => ?_)
    · rw [if_pos q13] at h
      exact v_mask [true, true, true, true, true, false, false] rfl (hx0 _ _ h)
    · rw [if_neg q13] at h
      refine v_aload_n G dX2_bestExchange_43 rfl ?_
      refine v_aload_n G dX2_bestExchange_44 rfl ?_
      refine v_iload_n G dX2_bestExchange_45 rfl ?_
      refine v_iload G dX2_bestExchange_46 rfl ?_
      refine v_iload G dX2_bestExchange_48 rfl ?_
      obtain ⟨q22, h⟩ := if_s h
      obtain ⟨M15, v16, q14, h⟩ := bi2_ h
      refine v_callV0 (e_X2_knownExchanged q14) G cl2 my_X2_knownExchanged rfl w669 w18 w667 dX2_bestExchange_50 q22 rfl (Nat.le_of_ble_eq_true rfl) rfl (Nat.le_of_ble_eq_true rfl) hcn hsn ?_
      refine v_istore [some (.ref x0), some (.ref x1), some (.int x2), some (.int x3), some (.int x4), some (.int x5), some (.int v16)] G dX2_bestExchange_53 (Nat.le_of_ble_eq_true rfl) rfl rfl ?_
      refine v_iload G dX2_bestExchange_55 rfl ?_
      refine v_aload_n G dX2_bestExchange_57 rfl ?_
      obtain ⟨v17, q18, h⟩ := bi_ h
      refine v_getI (f := 3) G cl2 dX2_bestExchange_58 w214 (by decide) (by decide) q18 ?_
      refine v_ic_le 79 G dX2_bestExchange_61 (by decide) (fun q19 => ?_) (fun q19 => ?_)
      · rw [if_pos q19] at h
        refine v_iinc (x5 + (1 : Int32)) [some (.ref x0), some (.ref x1), some (.int x2), some (.int x3), some (.int x4), some (.int (x5 + (1 : Int32))), some (.int v16)] G dX2_bestExchange_79 rfl rfl (Nat.le_of_ble_eq_true rfl) rfl rfl ?_
        refine v_goto 34 G dX2_bestExchange_82 (by decide) ?_
        exact v_mask [true, true, true, true, true, true, false] rfl (ih _ _ _ h)
      · rw [if_neg q19] at h
        refine v_aload_n G dX2_bestExchange_64 rfl ?_
        refine v_iload G dX2_bestExchange_65 rfl ?_
        obtain ⟨M20, q21, h⟩ := bi_ h
        refine v_putI (f := 3) G cl2 dX2_bestExchange_67 w214 (by decide) (by decide) (by decide) rfl rfl q21 ?_
        refine v_bipush G (10 : Int32) dX2_bestExchange_70 (by decide) ?_
        refine v_iload G dX2_bestExchange_72 rfl ?_
        refine v_imul G dX2_bestExchange_74 ?_
        refine v_iload G dX2_bestExchange_75 rfl ?_
        refine v_iadd G dX2_bestExchange_77 ?_
        refine v_istore_n [some (.ref x0), some (.ref x1), some (.int x2), some (.int (((10 : Int32) * x4) + x5)), some (.int x4), some (.int x5), some (.int v16)] G dX2_bestExchange_78 (Nat.le_of_ble_eq_true rfl) rfl rfl ?_
        refine v_iinc (x5 + (1 : Int32)) [some (.ref x0), some (.ref x1), some (.int x2), some (.int (((10 : Int32) * x4) + x5)), some (.int x4), some (.int (x5 + (1 : Int32))), some (.int v16)] G dX2_bestExchange_79 rfl rfl (Nat.le_of_ble_eq_true rfl) rfl rfl ?_
        refine v_goto 34 G dX2_bestExchange_82 (by decide) ?_
        exact v_mask [true, true, true, true, true, true, false] rfl (ih _ _ _ h)
def m_X2_bestExchange_L19 {ρ : Type} (k0 : mM → Int32 → Option ρ) (x0 : Nat) (x1 : Nat) (x2 : Int32) : Nat → mM → Int32 → Int32 → Option ρ
  | 0, _, _, _ => none
  | n + 1, M, x3, x4 =>
    (gI M x1 5 2).bind fun v8 =>
    if v8 ≤ x4 then (
      k0 M x3
    ) else (
      m_X2_bestExchange_L34
        (fun M11 v12 =>
          m_X2_bestExchange_L19 k0 x0 x1 x2 n M11 v12 (x4 + (1 : Int32)))
        x0 x1 x2 x4 FU M x3 (x4 + (1 : Int32))
    )
theorem e_X2_bestExchange_L19 {X : xX} {Z : zZ} {cn sn : Nat} {ρ : Type} {r : ρ} {k0 : mM → Int32 → Option ρ} (G : ok_ X Z yX2_bestExchange cX2_bestExchange 7 6 0 0) (hcn : cn ≤ 0) (hsn : sn ≤ 0) (x0 : Nat) (x1 : Nat) (x2 : Int32)
    (hx0 : ∀ (N : mM) (z3 : Int32), k0 N z3 = some r → V X Z N cn sn 91 [none, none, none, some (.int z3), none, none, none] []) :
    ∀ (n : Nat) (M : mM) (x3 : Int32) (x4 : Int32), m_X2_bestExchange_L19 k0 x0 x1 x2 n M x3 x4 = some r → V X Z M cn sn 19 [some (.ref x0), some (.ref x1), some (.int x2), some (.int x3), some (.int x4), none, none] [] := by
  intro n
  induction n with
  | zero => intro M x3 x4 h; rw [m_X2_bestExchange_L19] at h; cases h
  | succ n ih =>
    intro M x3 x4 h
    rw [m_X2_bestExchange_L19] at h
    refine v_iload G dX2_bestExchange_19 rfl ?_
    refine v_aload_n G dX2_bestExchange_21 rfl ?_
    obtain ⟨v8, q9, h⟩ := bi_ h
    refine v_getI (f := 2) G cl5 dX2_bestExchange_22 w94 (by decide) (by decide) q9 ?_
    refine v_ic_ge 91 G dX2_bestExchange_25 (by decide) (fun q10 => ?_) (fun q10 => ?_)
    · rw [if_pos q10] at h
      exact v_mask [false, false, false, true, false, false, false] rfl (hx0 _ _ h)
    · rw [if_neg q10] at h
      refine v_iload G dX2_bestExchange_28 rfl ?_
      refine v_iconst G (1 : Int32) dX2_bestExchange_30 (by decide) ?_
      refine v_iadd G dX2_bestExchange_31 ?_
      refine v_istore [some (.ref x0), some (.ref x1), some (.int x2), some (.int x3), some (.int x4), some (.int (x4 + (1 : Int32))), none] G dX2_bestExchange_32 (Nat.le_of_ble_eq_true rfl) rfl rfl ?_
      refine v_mask [true, true, true, true, true, true, false] rfl ?_
      refine e_X2_bestExchange_L34 G hcn hsn _ _ _ _ (fun M11 v12 h => ?_) FU _ _ _ h
      refine v_iinc (x4 + (1 : Int32)) [some (.ref x0), some (.ref x1), some (.int x2), some (.int v12), some (.int (x4 + (1 : Int32))), none, none] G dX2_bestExchange_85 rfl rfl (Nat.le_of_ble_eq_true rfl) rfl rfl ?_
      refine v_goto 19 G dX2_bestExchange_88 (by decide) ?_
      exact v_mask [true, true, true, true, true, false, false] rfl (ih _ _ _ h)
def m_X2_bestExchange (M : mM) (x0 : Nat) (x1 : Nat) (x2 : Int32) : Option (mM × Int32) :=
  if isO M x0 2 = true then
  bd2 (m_X2_after M x0 x1 x2) fun M2 b3 =>
  if isO M2 b3 5 = true then
  (m_X5_known M2 b3).bind fun v5 =>
  (pI M2 x0 2 3 v5).bind fun M6 =>
  m_X2_bestExchange_L19
    (fun M13 v14 =>
      some (M13, v14))
    x0 x1 x2 FU M6 (-1000000 : Int32) (0 : Int32)
  else none
  else none
theorem e_X2_bestExchange {Z : zZ} {M : mM} {N : mM} {x0 : Nat} {x1 : Nat} {x2 : Int32} {r : Int32} (h : m_X2_bestExchange M x0 x1 x2 = some (N, r)) : EM Z yX2_bestExchange cX2_bestExchange 7 (some .int) 6 0 0 [.ref x0, .ref x1, .int x2] M N (some (.int r)) := by
  refine EM_of my_X2_bestExchange (Nat.le_of_ble_eq_true rfl) (fun X G F => ?_)
  show V X Z M 0 0 0 [some (.ref x0), some (.ref x1), some (.int x2), none, none, none, none] []
  unfold m_X2_bestExchange at h
  refine v_aload_n G dX2_bestExchange_0 rfl ?_
  refine v_aload_n G dX2_bestExchange_1 rfl ?_
  refine v_aload_n G dX2_bestExchange_2 rfl ?_
  refine v_iload_n G dX2_bestExchange_3 rfl ?_
  obtain ⟨q16, h⟩ := if_s h
  obtain ⟨M2, b3, q1, h⟩ := bi2_ h
  refine v_callV0 (e_X2_after q1) G cl2 my_X2_after rfl w576 w577 w665 dX2_bestExchange_4 q16 rfl (Nat.le_of_ble_eq_true rfl) rfl (Nat.le_of_ble_eq_true rfl) (Nat.zero_le _) (Nat.zero_le _) ?_
  obtain ⟨q15, h⟩ := if_s h
  obtain ⟨v5, q4, h⟩ := bi_ h
  refine v_callV0 (e_X5_known q4) G cl5 my_X5_known rfl w503 w504 w666 dX2_bestExchange_7 q15 rfl (Nat.le_of_ble_eq_true rfl) rfl (Nat.le_of_ble_eq_true rfl) (Nat.zero_le _) (Nat.zero_le _) ?_
  obtain ⟨M6, q7, h⟩ := bi_ h
  refine v_putI (f := 3) G cl2 dX2_bestExchange_10 w214 (by decide) (by decide) (by decide) rfl rfl q7 ?_
  refine v_ldc G (-1000000 : Int32) dX2_bestExchange_13 w590 ?_
  refine v_istore_n [some (.ref x0), some (.ref x1), some (.int x2), some (.int (-1000000 : Int32)), none, none, none] G dX2_bestExchange_15 (Nat.le_of_ble_eq_true rfl) rfl rfl ?_
  refine v_iconst G (0 : Int32) dX2_bestExchange_16 (by decide) ?_
  refine v_istore [some (.ref x0), some (.ref x1), some (.int x2), some (.int (-1000000 : Int32)), some (.int (0 : Int32)), none, none] G dX2_bestExchange_17 (Nat.le_of_ble_eq_true rfl) rfl rfl ?_
  refine v_mask [true, true, true, true, true, false, false] rfl ?_
  refine e_X2_bestExchange_L19 G (Nat.zero_le _) (Nat.zero_le _) _ _ _ (fun M13 v14 h => ?_) FU _ _ _ h
  refine v_iload_n G dX2_bestExchange_91 rfl ?_
  cases h
  exact v_iret G F dX2_bestExchange_92 rfl (Nat.le_refl _)
/-! X2_believe -/
def m_X2_believe (M : mM) (x0 : Nat) (x1 : Nat) (x2 : Int32) (x3 : Int32) : Option mM :=
  (pR M x0 2 6 x1).bind fun M1 =>
  (pI M1 x0 2 7 x2).bind fun M3 =>
  (pI M3 x0 2 2 x3).bind fun M5 =>
  some M5
theorem e_X2_believe {Z : zZ} {M : mM} {N : mM} {x0 : Nat} {x1 : Nat} {x2 : Int32} {x3 : Int32} (h : m_X2_believe M x0 x1 x2 x3 = some N) : EM Z yX2_believe cX2_believe 4 none 0 0 0 [.ref x0, .ref x1, .int x2, .int x3] M N none := by
  refine EM_of my_X2_believe (Nat.le_of_ble_eq_true rfl) (fun X G F => ?_)
  show V X Z M 0 0 0 [some (.ref x0), some (.ref x1), some (.int x2), some (.int x3)] []
  unfold m_X2_believe at h
  refine v_aload_n G dX2_believe_0 rfl ?_
  refine v_aload_n G dX2_believe_1 rfl ?_
  obtain ⟨M1, q2, h⟩ := bi_ h
  refine v_putR (f := 6) G cl2 dX2_believe_2 w219 (by decide) (by decide) (by decide) (fun _ => rfl) (fun _ => rfl) q2 ?_
  refine v_aload_n G dX2_believe_5 rfl ?_
  refine v_iload_n G dX2_believe_6 rfl ?_
  obtain ⟨M3, q4, h⟩ := bi_ h
  refine v_putI (f := 7) G cl2 dX2_believe_7 w220 (by decide) (by decide) (by decide) rfl rfl q4 ?_
  refine v_aload_n G dX2_believe_10 rfl ?_
  refine v_iload_n G dX2_believe_11 rfl ?_
  obtain ⟨M5, q6, h⟩ := bi_ h
  refine v_putI (f := 2) G cl2 dX2_believe_12 w213 (by decide) (by decide) (by decide) rfl rfl q6 ?_
  cases h
  exact v_vret G F dX2_believe_15 rfl (Nat.le_refl _)
/-! X4_has -/
def m_X4_has (M : mM) (x0 : Nat) (x1 : Int32) (x2 : Int32) : Option Int32 :=
  if x1 < (0 : Int32) then (
    some (0 : Int32)
  ) else (
    if x2 < (0 : Int32) then (
      some (0 : Int32)
    ) else (
      (gI M x0 4 3).bind fun v3 =>
      if v3 < x1 then (
        some (0 : Int32)
      ) else (
        (gI M x0 4 3).bind fun v6 =>
        if (v6 - x1) < x2 then (
          some (0 : Int32)
        ) else (
          some (1 : Int32)
        )
      )
    )
  )
theorem e_X4_has {Z : zZ} {M : mM} {x0 : Nat} {x1 : Int32} {x2 : Int32} {r : Int32} (h : m_X4_has M x0 x1 x2 = some r) : EM Z yX4_has cX4_has 3 (some .boolean) 0 0 0 [.ref x0, .int x1, .int x2] M M (some (.int r)) := by
  refine EM_of my_X4_has (Nat.le_of_ble_eq_true rfl) (fun X G F => ?_)
  show V X Z M 0 0 0 [some (.ref x0), some (.int x1), some (.int x2)] []
  unfold m_X4_has at h
  refine v_iload_n G dX4_has_0 rfl ?_
  refine v_if_lt 30 G dX4_has_1 (by decide) (fun q1 => ?_) (fun q1 => ?_)
  · rw [if_pos q1] at h
    refine v_iconst G (0 : Int32) dX4_has_30 (by decide) ?_
    cases h
    exact v_zret G F rfl dX4_has_31 rfl (Nat.le_refl _)
  · rw [if_neg q1] at h
    refine v_iload_n G dX4_has_4 rfl ?_
    refine v_if_lt 30 G dX4_has_5 (by decide) (fun q2 => ?_) (fun q2 => ?_)
    · rw [if_pos q2] at h
      refine v_iconst G (0 : Int32) dX4_has_30 (by decide) ?_
      cases h
      exact v_zret G F rfl dX4_has_31 rfl (Nat.le_refl _)
    · rw [if_neg q2] at h
      refine v_iload_n G dX4_has_8 rfl ?_
      refine v_aload_n G dX4_has_9 rfl ?_
      obtain ⟨v3, q4, h⟩ := bi_ h
      refine v_getI (f := 3) G cl4 dX4_has_10 w280 (by decide) (by decide) q4 ?_
      refine v_ic_gt 30 G dX4_has_13 (by decide) (fun q5 => ?_) (fun q5 => ?_)
      · rw [if_pos q5] at h
        refine v_iconst G (0 : Int32) dX4_has_30 (by decide) ?_
        cases h
        exact v_zret G F rfl dX4_has_31 rfl (Nat.le_refl _)
      · rw [if_neg q5] at h
        refine v_iload_n G dX4_has_16 rfl ?_
        refine v_aload_n G dX4_has_17 rfl ?_
        obtain ⟨v6, q7, h⟩ := bi_ h
        refine v_getI (f := 3) G cl4 dX4_has_18 w280 (by decide) (by decide) q7 ?_
        refine v_iload_n G dX4_has_21 rfl ?_
        refine v_isub G dX4_has_22 ?_
        refine v_ic_gt 30 G dX4_has_23 (by decide) (fun q8 => ?_) (fun q8 => ?_)
        · rw [if_pos q8] at h
          refine v_iconst G (0 : Int32) dX4_has_30 (by decide) ?_
          cases h
          exact v_zret G F rfl dX4_has_31 rfl (Nat.le_refl _)
        · rw [if_neg q8] at h
          refine v_iconst G (1 : Int32) dX4_has_26 (by decide) ?_
          refine v_goto 31 G dX4_has_27 (by decide) ?_
          cases h
          exact v_zret G F rfl dX4_has_31 rfl (Nat.le_refl _)
/-! X2_fits -/
def m_X2_fits_L29 {ρ : Type} (k0 : mM → Option ρ) (k1 : mM → Option ρ) (x0 : Nat) (x1 : Int32) : Nat → mM → Int32 → Option ρ
  | 0, _, _ => none
  | n + 1, M, x2 =>
    (gI M x0 2 2).bind fun v12 =>
    if v12 ≤ x2 then (
      k0 M
    ) else (
      (gR M x0 2 0).bind fun b15 =>
      if isO M b15 5 = true then
      (m_X5_passDay M b15).bind fun M18 =>
      (gR M18 x0 2 0).bind fun b19 =>
      if isO M18 b19 5 = true then
      (m_X5_form M18 b19 x1).bind fun v22 =>
      (gR M18 x0 2 6).bind fun b23 =>
      (gR M18 b23 4 0).bind fun b25 =>
      (gI M18 x0 2 7).bind fun v27 =>
      (ldI M18 b25 (v27 + x2)).bind fun v30 =>
      if v22 = v30 then (
        m_X2_fits_L29 k0 k1 x0 x1 n M18 (x2 + (1 : Int32))
      ) else (
        k1 M18
      )
      else none
      else none
    )
theorem e_X2_fits_L29 {X : xX} {Z : zZ} {cn sn : Nat} {ρ : Type} {r : ρ} {k0 : mM → Option ρ} {k1 : mM → Option ρ} (G : ok_ X Z yX2_fits cX2_fits 3 5 0 0) (hcn : cn ≤ 0) (hsn : sn ≤ 0) (x0 : Nat) (x1 : Int32)
    (hx0 : ∀ (N : mM), k0 N = some r → V X Z N cn sn 77 [none, none, none] [])
    (hx1 : ∀ (N : mM), k1 N = some r → V X Z N cn sn 69 [none, none, none] []) :
    ∀ (n : Nat) (M : mM) (x2 : Int32), m_X2_fits_L29 k0 k1 x0 x1 n M x2 = some r → V X Z M cn sn 29 [some (.ref x0), some (.int x1), some (.int x2)] [] := by
  intro n
  induction n with
  | zero => intro M x2 h; rw [m_X2_fits_L29] at h; cases h
  | succ n ih =>
    intro M x2 h
    rw [m_X2_fits_L29] at h
    refine v_iload_n G dX2_fits_29 rfl ?_
    refine v_aload_n G dX2_fits_30 rfl ?_
    obtain ⟨v12, q13, h⟩ := bi_ h
    refine v_getI (f := 2) G cl2 dX2_fits_31 w213 (by decide) (by decide) q13 ?_
    refine v_ic_ge 77 G dX2_fits_34 (by decide) (fun q14 => ?_) (fun q14 => ?_)
    · rw [if_pos q14] at h
      exact v_mask [false, false, false] rfl (hx0 _ h)
    · rw [if_neg q14] at h
      refine v_aload_n G dX2_fits_37 rfl ?_
      obtain ⟨b15, q16, h⟩ := bi_ h
      refine v_getR (f := 0) G cl2 dX2_fits_38 w211 (by decide) (by decide) q16 ?_
      obtain ⟨q33, h⟩ := if_s h
      obtain ⟨M18, q17, h⟩ := bi_ h
      refine v_callV0 (e_X5_passDay q17) G cl5 my_X5_passDay rfl w454 w455 w580 dX2_fits_41 q33 rfl (Nat.le_of_ble_eq_true rfl) rfl (Nat.le_of_ble_eq_true rfl) hcn hsn ?_
      refine v_aload_n G dX2_fits_44 rfl ?_
      obtain ⟨b19, q20, h⟩ := bi_ h
      refine v_getR (f := 0) G cl2 dX2_fits_45 w211 (by decide) (by decide) q20 ?_
      refine v_iload_n G dX2_fits_48 rfl ?_
      obtain ⟨q32, h⟩ := if_s h
      obtain ⟨v22, q21, h⟩ := bi_ h
      refine v_callV0 (e_X5_form q21) G cl5 my_X5_form rfl w499 w500 w656 dX2_fits_49 q32 rfl (Nat.le_of_ble_eq_true rfl) rfl (Nat.le_of_ble_eq_true rfl) hcn hsn ?_
      refine v_aload_n G dX2_fits_52 rfl ?_
      obtain ⟨b23, q24, h⟩ := bi_ h
      refine v_getR (f := 6) G cl2 dX2_fits_53 w219 (by decide) (by decide) q24 ?_
      obtain ⟨b25, q26, h⟩ := bi_ h
      refine v_getR (f := 0) G cl4 dX2_fits_56 w275 (by decide) (by decide) q26 ?_
      refine v_aload_n G dX2_fits_59 rfl ?_
      obtain ⟨v27, q28, h⟩ := bi_ h
      refine v_getI (f := 7) G cl2 dX2_fits_60 w220 (by decide) (by decide) q28 ?_
      refine v_iload_n G dX2_fits_63 rfl ?_
      refine v_iadd G dX2_fits_64 ?_
      obtain ⟨v30, q29, h⟩ := bi_ h
      refine v_iald G dX2_fits_65 q29 ?_
      refine v_ic_eq 71 G dX2_fits_66 (by decide) (fun q31 => ?_) (fun q31 => ?_)
      · rw [if_pos q31] at h
        refine v_iinc (x2 + (1 : Int32)) [some (.ref x0), some (.int x1), some (.int (x2 + (1 : Int32)))] G dX2_fits_71 rfl rfl (Nat.le_of_ble_eq_true rfl) rfl rfl ?_
        refine v_goto 29 G dX2_fits_74 (by decide) ?_
        exact v_mask [true, true, true] rfl (ih _ _ h)
      · rw [if_neg q31] at h
        exact v_mask [false, false, false] rfl (hx1 _ h)
def m_X2_fits (M : mM) (x0 : Nat) (x1 : Int32) : Option (mM × Int32) :=
  if gN M x0 2 6 = true then (
    some (M, (0 : Int32))
  ) else (gR M x0 2 6).bind fun b1 =>
  (gR M x0 2 6).bind fun b3 =>
  (gI M x0 2 7).bind fun v5 =>
  (gI M x0 2 2).bind fun v7 =>
  if isO M b3 4 = true then
  (m_X4_has M b3 v5 v7).bind fun v10 =>
  if v10 = (0 : Int32) then (
    some (M, (0 : Int32))
  ) else (
    m_X2_fits_L29
      (fun M34 =>
        some (M34, (1 : Int32)))
      (fun M35 =>
        some (M35, (0 : Int32)))
      x0 x1 FU M (0 : Int32)
  )
  else none
theorem e_X2_fits {Z : zZ} {M : mM} {N : mM} {x0 : Nat} {x1 : Int32} {r : Int32} (h : m_X2_fits M x0 x1 = some (N, r)) : EM Z yX2_fits cX2_fits 3 (some .int) 5 0 0 [.ref x0, .int x1] M N (some (.int r)) := by
  refine EM_of my_X2_fits (Nat.le_of_ble_eq_true rfl) (fun X G F => ?_)
  show V X Z M 0 0 0 [some (.ref x0), some (.int x1), none] []
  unfold m_X2_fits at h
  refine v_aload_n G dX2_fits_0 rfl ?_
  rcases Decidable.em (gN M x0 2 6 = true) with q2 | q2
  · rw [if_pos q2] at h
    refine v_getN (f := 6) G cl2 dX2_fits_1 w219 (by decide) (by decide) q2 ?_
    refine v_nullT 25 G dX2_fits_4 (by decide) ?_
    refine v_iconst G (0 : Int32) dX2_fits_25 (by decide) ?_
    cases h
    exact v_iret G F dX2_fits_26 rfl (Nat.le_refl _)
  · rw [if_neg q2] at h
    obtain ⟨b1, q2, h⟩ := bi_ h
    refine v_getR (f := 6) G cl2 dX2_fits_1 w219 (by decide) (by decide) q2 ?_
    refine v_nullF G dX2_fits_4 ?_
    refine v_aload_n G dX2_fits_7 rfl ?_
    obtain ⟨b3, q4, h⟩ := bi_ h
    refine v_getR (f := 6) G cl2 dX2_fits_8 w219 (by decide) (by decide) q4 ?_
    refine v_aload_n G dX2_fits_11 rfl ?_
    obtain ⟨v5, q6, h⟩ := bi_ h
    refine v_getI (f := 7) G cl2 dX2_fits_12 w220 (by decide) (by decide) q6 ?_
    refine v_aload_n G dX2_fits_15 rfl ?_
    obtain ⟨v7, q8, h⟩ := bi_ h
    refine v_getI (f := 2) G cl2 dX2_fits_16 w213 (by decide) (by decide) q8 ?_
    obtain ⟨q36, h⟩ := if_s h
    obtain ⟨v10, q9, h⟩ := bi_ h
    refine v_callV0 (e_X4_has q9) G cl4 my_X4_has rfl w349 w350 w719 dX2_fits_19 q36 rfl (Nat.le_of_ble_eq_true rfl) rfl (Nat.le_of_ble_eq_true rfl) (Nat.zero_le _) (Nat.zero_le _) ?_
    refine v_if_ne 27 G dX2_fits_22 (by decide) (fun q11 => ?_) (fun q11 => ?_)
    · rw [if_neg q11] at h
      refine v_iconst G (0 : Int32) dX2_fits_27 (by decide) ?_
      refine v_istore_n [some (.ref x0), some (.int x1), some (.int (0 : Int32))] G dX2_fits_28 (Nat.le_of_ble_eq_true rfl) rfl rfl ?_
      refine v_mask [true, true, true] rfl ?_
      refine e_X2_fits_L29 G (Nat.zero_le _) (Nat.zero_le _) _ _ (fun M34 h => ?_) (fun M35 h => ?_) FU _ _ h
      · refine v_iconst G (1 : Int32) dX2_fits_77 (by decide) ?_
        cases h
        exact v_iret G F dX2_fits_78 rfl (Nat.le_refl _)
      · refine v_iconst G (0 : Int32) dX2_fits_69 (by decide) ?_
        cases h
        exact v_iret G F dX2_fits_70 rfl (Nat.le_refl _)
    · rw [if_pos q11] at h
      refine v_iconst G (0 : Int32) dX2_fits_25 (by decide) ?_
      cases h
      exact v_iret G F dX2_fits_26 rfl (Nat.le_refl _)
/-! X2_kindsThatFit -/
def m_X2_kindsThatFit_L5 {ρ : Type} (k0 : mM → Int32 → Option ρ) (x0 : Nat) (x1 : Nat) (x2 : Int32) : Nat → mM → Int32 → Int32 → Option ρ
  | 0, _, _, _ => none
  | n + 1, M, x3, x4 =>
    if (5 : Int32) < x4 then (
      k0 M x3
    ) else (
      (gR M x0 2 0).bind fun b2 =>
      if isO M b2 5 = true then
      (m_X5_become M b2 x1).bind fun M5 =>
      (gR M5 x0 2 0).bind fun b6 =>
      (gR M5 b6 5 7).bind fun b8 =>
      (stI M5 b8 x2 x4).bind fun M10 =>
      if isO M10 x0 2 = true then
      bd2 (m_X2_fits M10 x0 x2) fun M13 v14 =>
      m_X2_kindsThatFit_L5 k0 x0 x1 x2 n M13 (x3 ||| (v14 <<< (x4 &&& 31))) (x4 + (1 : Int32))
      else none
      else none
    )
theorem e_X2_kindsThatFit_L5 {X : xX} {Z : zZ} {cn sn : Nat} {ρ : Type} {r : ρ} {k0 : mM → Int32 → Option ρ} (G : ok_ X Z yX2_kindsThatFit cX2_kindsThatFit 5 6 0 0) (hcn : cn ≤ 0) (hsn : sn ≤ 0) (x0 : Nat) (x1 : Nat) (x2 : Int32)
    (hx0 : ∀ (N : mM) (z3 : Int32), k0 N z3 = some r → V X Z N cn sn 47 [none, none, none, some (.int z3), none] []) :
    ∀ (n : Nat) (M : mM) (x3 : Int32) (x4 : Int32), m_X2_kindsThatFit_L5 k0 x0 x1 x2 n M x3 x4 = some r → V X Z M cn sn 5 [some (.ref x0), some (.ref x1), some (.int x2), some (.int x3), some (.int x4)] [] := by
  intro n
  induction n with
  | zero => intro M x3 x4 h; rw [m_X2_kindsThatFit_L5] at h; cases h
  | succ n ih =>
    intro M x3 x4 h
    rw [m_X2_kindsThatFit_L5] at h
    refine v_iload G dX2_kindsThatFit_5 rfl ?_
    refine v_iconst G (5 : Int32) dX2_kindsThatFit_7 (by decide) ?_
    refine v_ic_gt 47 G dX2_kindsThatFit_8 (by decide) (fun q1 => ?_) (fun q1 => ?_)
    · rw [if_pos q1] at h
      exact v_mask [false, false, false, true, false] rfl (hx0 _ _ h)
    · rw [if_neg q1] at h
      refine v_aload_n G dX2_kindsThatFit_11 rfl ?_
      obtain ⟨b2, q3, h⟩ := bi_ h
      refine v_getR (f := 0) G cl2 dX2_kindsThatFit_12 w211 (by decide) (by decide) q3 ?_
      refine v_aload_n G dX2_kindsThatFit_15 rfl ?_
      obtain ⟨q16, h⟩ := if_s h
      obtain ⟨M5, q4, h⟩ := bi_ h
      refine v_callV0 (e_X5_become q4) G cl5 my_X5_become rfl w423 w424 w579 dX2_kindsThatFit_16 q16 rfl (Nat.le_of_ble_eq_true rfl) rfl (Nat.le_of_ble_eq_true rfl) hcn hsn ?_
      refine v_aload_n G dX2_kindsThatFit_19 rfl ?_
      obtain ⟨b6, q7, h⟩ := bi_ h
      refine v_getR (f := 0) G cl2 dX2_kindsThatFit_20 w211 (by decide) (by decide) q7 ?_
      obtain ⟨b8, q9, h⟩ := bi_ h
      refine v_getR (f := 7) G cl5 dX2_kindsThatFit_23 w113 (by decide) (by decide) q9 ?_
      refine v_iload_n G dX2_kindsThatFit_26 rfl ?_
      refine v_iload G dX2_kindsThatFit_27 rfl ?_
      obtain ⟨M10, q11, h⟩ := bi_ h
      refine v_iast G dX2_kindsThatFit_29 q11 ?_
      refine v_iload_n G dX2_kindsThatFit_30 rfl ?_
      refine v_aload_n G dX2_kindsThatFit_31 rfl ?_
      refine v_iload_n G dX2_kindsThatFit_32 rfl ?_
      obtain ⟨q15, h⟩ := if_s h
      obtain ⟨M13, v14, q12, h⟩ := bi2_ h
      refine v_callV0 (e_X2_fits q12) G cl2 my_X2_fits rfl w717 w20 w715 dX2_kindsThatFit_33 q15 rfl (Nat.le_of_ble_eq_true rfl) rfl (Nat.le_of_ble_eq_true rfl) hcn hsn ?_
      refine v_iload G dX2_kindsThatFit_36 rfl ?_
      refine v_ishl G dX2_kindsThatFit_38 ?_
      refine v_ior G dX2_kindsThatFit_39 ?_
      refine v_istore_n [some (.ref x0), some (.ref x1), some (.int x2), some (.int (x3 ||| (v14 <<< (x4 &&& 31)))), some (.int x4)] G dX2_kindsThatFit_40 (Nat.le_of_ble_eq_true rfl) rfl rfl ?_
      refine v_iinc (x4 + (1 : Int32)) [some (.ref x0), some (.ref x1), some (.int x2), some (.int (x3 ||| (v14 <<< (x4 &&& 31)))), some (.int (x4 + (1 : Int32)))] G dX2_kindsThatFit_41 rfl rfl (Nat.le_of_ble_eq_true rfl) rfl rfl ?_
      refine v_goto 5 G dX2_kindsThatFit_44 (by decide) ?_
      exact v_mask [true, true, true, true, true] rfl (ih _ _ _ h)
def m_X2_kindsThatFit (M : mM) (x0 : Nat) (x1 : Nat) (x2 : Int32) : Option (mM × Int32) :=
  m_X2_kindsThatFit_L5
    (fun M17 v18 =>
      some (M17, v18))
    x0 x1 x2 FU M (0 : Int32) (1 : Int32)
theorem e_X2_kindsThatFit {Z : zZ} {M : mM} {N : mM} {x0 : Nat} {x1 : Nat} {x2 : Int32} {r : Int32} (h : m_X2_kindsThatFit M x0 x1 x2 = some (N, r)) : EM Z yX2_kindsThatFit cX2_kindsThatFit 5 (some .int) 6 0 0 [.ref x0, .ref x1, .int x2] M N (some (.int r)) := by
  refine EM_of my_X2_kindsThatFit (Nat.le_of_ble_eq_true rfl) (fun X G F => ?_)
  show V X Z M 0 0 0 [some (.ref x0), some (.ref x1), some (.int x2), none, none] []
  unfold m_X2_kindsThatFit at h
  refine v_iconst G (0 : Int32) dX2_kindsThatFit_0 (by decide) ?_
  refine v_istore_n [some (.ref x0), some (.ref x1), some (.int x2), some (.int (0 : Int32)), none] G dX2_kindsThatFit_1 (Nat.le_of_ble_eq_true rfl) rfl rfl ?_
  refine v_iconst G (1 : Int32) dX2_kindsThatFit_2 (by decide) ?_
  refine v_istore [some (.ref x0), some (.ref x1), some (.int x2), some (.int (0 : Int32)), some (.int (1 : Int32))] G dX2_kindsThatFit_3 (Nat.le_of_ble_eq_true rfl) rfl rfl ?_
  refine v_mask [true, true, true, true, true] rfl ?_
  refine e_X2_kindsThatFit_L5 G (Nat.zero_le _) (Nat.zero_le _) _ _ _ (fun M17 v18 h => ?_) FU _ _ _ h
  refine v_iload_n G dX2_kindsThatFit_47 rfl ?_
  cases h
  exact v_iret G F dX2_kindsThatFit_48 rfl (Nat.le_refl _)
/-! X5_swapSeats -/
def m_X5_swapSeats (M : mM) (x0 : Nat) (x1 : Int32) (x2 : Int32) : Option mM :=
  (gR M x0 5 9).bind fun b1 =>
  (ldI M b1 x1).bind fun v4 =>
  (gR M x0 5 9).bind fun b5 =>
  (gR M x0 5 9).bind fun b7 =>
  (ldI M b7 x2).bind fun v10 =>
  (stI M b5 x1 v10).bind fun M11 =>
  (gR M11 x0 5 9).bind fun b13 =>
  (stI M11 b13 x2 v4).bind fun M15 =>
  some M15
theorem e_X5_swapSeats {Z : zZ} {M : mM} {N : mM} {x0 : Nat} {x1 : Int32} {x2 : Int32} (h : m_X5_swapSeats M x0 x1 x2 = some N) : EM Z yX5_swapSeats cX5_swapSeats 4 none 0 0 0 [.ref x0, .int x1, .int x2] M N none := by
  refine EM_of my_X5_swapSeats (Nat.le_of_ble_eq_true rfl) (fun X G F => ?_)
  show V X Z M 0 0 0 [some (.ref x0), some (.int x1), some (.int x2), none] []
  unfold m_X5_swapSeats at h
  refine v_aload_n G dX5_swapSeats_0 rfl ?_
  obtain ⟨b1, q2, h⟩ := bi_ h
  refine v_getR (f := 9) G cl5 dX5_swapSeats_1 w119 (by decide) (by decide) q2 ?_
  refine v_iload_n G dX5_swapSeats_4 rfl ?_
  obtain ⟨v4, q3, h⟩ := bi_ h
  refine v_iald G dX5_swapSeats_5 q3 ?_
  refine v_istore_n [some (.ref x0), some (.int x1), some (.int x2), some (.int v4)] G dX5_swapSeats_6 (Nat.le_of_ble_eq_true rfl) rfl rfl ?_
  refine v_aload_n G dX5_swapSeats_7 rfl ?_
  obtain ⟨b5, q6, h⟩ := bi_ h
  refine v_getR (f := 9) G cl5 dX5_swapSeats_8 w119 (by decide) (by decide) q6 ?_
  refine v_iload_n G dX5_swapSeats_11 rfl ?_
  refine v_aload_n G dX5_swapSeats_12 rfl ?_
  obtain ⟨b7, q8, h⟩ := bi_ h
  refine v_getR (f := 9) G cl5 dX5_swapSeats_13 w119 (by decide) (by decide) q8 ?_
  refine v_iload_n G dX5_swapSeats_16 rfl ?_
  obtain ⟨v10, q9, h⟩ := bi_ h
  refine v_iald G dX5_swapSeats_17 q9 ?_
  obtain ⟨M11, q12, h⟩ := bi_ h
  refine v_iast G dX5_swapSeats_18 q12 ?_
  refine v_aload_n G dX5_swapSeats_19 rfl ?_
  obtain ⟨b13, q14, h⟩ := bi_ h
  refine v_getR (f := 9) G cl5 dX5_swapSeats_20 w119 (by decide) (by decide) q14 ?_
  refine v_iload_n G dX5_swapSeats_23 rfl ?_
  refine v_iload_n G dX5_swapSeats_24 rfl ?_
  obtain ⟨M15, q16, h⟩ := bi_ h
  refine v_iast G dX5_swapSeats_25 q16 ?_
  cases h
  exact v_vret G F dX5_swapSeats_26 rfl (Nat.le_refl _)
/-! X2_seatsThatFit -/
def m_X2_seatsThatFit_L5 {ρ : Type} (k0 : mM → Int32 → Option ρ) (x0 : Nat) (x1 : Nat) (x2 : Int32) : Nat → mM → Int32 → Int32 → Option ρ
  | 0, _, _, _ => none
  | n + 1, M, x3, x4 =>
    (gI M x1 5 3).bind fun v1 =>
    if v1 ≤ x4 then (
      k0 M x3
    ) else (
      (gR M x0 2 0).bind fun b4 =>
      if isO M b4 5 = true then
      (m_X5_become M b4 x1).bind fun M7 =>
      (gR M7 x0 2 0).bind fun b8 =>
      (gR M7 x0 2 0).bind fun b10 =>
      if isO M7 b10 5 = true then
      (m_X5_seatOf M7 b10 x2).bind fun v13 =>
      if isO M7 b8 5 = true then
      (m_X5_swapSeats M7 b8 v13 x4).bind fun M15 =>
      if isO M15 x0 2 = true then
      bd2 (m_X2_fits M15 x0 x2) fun M17 v18 =>
      m_X2_seatsThatFit_L5 k0 x0 x1 x2 n M17 (x3 ||| (v18 <<< (x4 &&& 31))) (x4 + (1 : Int32))
      else none
      else none
      else none
      else none
    )
theorem e_X2_seatsThatFit_L5 {X : xX} {Z : zZ} {cn sn : Nat} {ρ : Type} {r : ρ} {k0 : mM → Int32 → Option ρ} (G : ok_ X Z yX2_seatsThatFit cX2_seatsThatFit 5 6 0 0) (hcn : cn ≤ 0) (hsn : sn ≤ 0) (x0 : Nat) (x1 : Nat) (x2 : Int32)
    (hx0 : ∀ (N : mM) (z3 : Int32), k0 N z3 = some r → V X Z N cn sn 56 [none, none, none, some (.int z3), none] []) :
    ∀ (n : Nat) (M : mM) (x3 : Int32) (x4 : Int32), m_X2_seatsThatFit_L5 k0 x0 x1 x2 n M x3 x4 = some r → V X Z M cn sn 5 [some (.ref x0), some (.ref x1), some (.int x2), some (.int x3), some (.int x4)] [] := by
  intro n
  induction n with
  | zero => intro M x3 x4 h; rw [m_X2_seatsThatFit_L5] at h; cases h
  | succ n ih =>
    intro M x3 x4 h
    rw [m_X2_seatsThatFit_L5] at h
    refine v_iload G dX2_seatsThatFit_5 rfl ?_
    refine v_aload_n G dX2_seatsThatFit_7 rfl ?_
    obtain ⟨v1, q2, h⟩ := bi_ h
    refine v_getI (f := 3) G cl5 dX2_seatsThatFit_8 w97 (by decide) (by decide) q2 ?_
    refine v_ic_ge 56 G dX2_seatsThatFit_11 (by decide) (fun q3 => ?_) (fun q3 => ?_)
    · rw [if_pos q3] at h
      exact v_mask [false, false, false, true, false] rfl (hx0 _ _ h)
    · rw [if_neg q3] at h
      refine v_aload_n G dX2_seatsThatFit_14 rfl ?_
      obtain ⟨b4, q5, h⟩ := bi_ h
      refine v_getR (f := 0) G cl2 dX2_seatsThatFit_15 w211 (by decide) (by decide) q5 ?_
      refine v_aload_n G dX2_seatsThatFit_18 rfl ?_
      obtain ⟨q22, h⟩ := if_s h
      obtain ⟨M7, q6, h⟩ := bi_ h
      refine v_callV0 (e_X5_become q6) G cl5 my_X5_become rfl w423 w424 w579 dX2_seatsThatFit_19 q22 rfl (Nat.le_of_ble_eq_true rfl) rfl (Nat.le_of_ble_eq_true rfl) hcn hsn ?_
      refine v_aload_n G dX2_seatsThatFit_22 rfl ?_
      obtain ⟨b8, q9, h⟩ := bi_ h
      refine v_getR (f := 0) G cl2 dX2_seatsThatFit_23 w211 (by decide) (by decide) q9 ?_
      refine v_aload_n G dX2_seatsThatFit_26 rfl ?_
      obtain ⟨b10, q11, h⟩ := bi_ h
      refine v_getR (f := 0) G cl2 dX2_seatsThatFit_27 w211 (by decide) (by decide) q11 ?_
      refine v_iload_n G dX2_seatsThatFit_30 rfl ?_
      obtain ⟨q21, h⟩ := if_s h
      obtain ⟨v13, q12, h⟩ := bi_ h
      refine v_callV0 (e_X5_seatOf q12) G cl5 my_X5_seatOf rfl w515 w516 w724 dX2_seatsThatFit_31 q21 rfl (Nat.le_of_ble_eq_true rfl) rfl (Nat.le_of_ble_eq_true rfl) hcn hsn ?_
      refine v_iload G dX2_seatsThatFit_34 rfl ?_
      obtain ⟨q20, h⟩ := if_s h
      obtain ⟨M15, q14, h⟩ := bi_ h
      refine v_callV0 (e_X5_swapSeats q14) G cl5 my_X5_swapSeats rfl w519 w520 w725 dX2_seatsThatFit_36 q20 rfl (Nat.le_of_ble_eq_true rfl) rfl (Nat.le_of_ble_eq_true rfl) hcn hsn ?_
      refine v_iload_n G dX2_seatsThatFit_39 rfl ?_
      refine v_aload_n G dX2_seatsThatFit_40 rfl ?_
      refine v_iload_n G dX2_seatsThatFit_41 rfl ?_
      obtain ⟨q19, h⟩ := if_s h
      obtain ⟨M17, v18, q16, h⟩ := bi2_ h
      refine v_callV0 (e_X2_fits q16) G cl2 my_X2_fits rfl w717 w20 w715 dX2_seatsThatFit_42 q19 rfl (Nat.le_of_ble_eq_true rfl) rfl (Nat.le_of_ble_eq_true rfl) hcn hsn ?_
      refine v_iload G dX2_seatsThatFit_45 rfl ?_
      refine v_ishl G dX2_seatsThatFit_47 ?_
      refine v_ior G dX2_seatsThatFit_48 ?_
      refine v_istore_n [some (.ref x0), some (.ref x1), some (.int x2), some (.int (x3 ||| (v18 <<< (x4 &&& 31)))), some (.int x4)] G dX2_seatsThatFit_49 (Nat.le_of_ble_eq_true rfl) rfl rfl ?_
      refine v_iinc (x4 + (1 : Int32)) [some (.ref x0), some (.ref x1), some (.int x2), some (.int (x3 ||| (v18 <<< (x4 &&& 31)))), some (.int (x4 + (1 : Int32)))] G dX2_seatsThatFit_50 rfl rfl (Nat.le_of_ble_eq_true rfl) rfl rfl ?_
      refine v_goto 5 G dX2_seatsThatFit_53 (by decide) ?_
      exact v_mask [true, true, true, true, true] rfl (ih _ _ _ h)
def m_X2_seatsThatFit (M : mM) (x0 : Nat) (x1 : Nat) (x2 : Int32) : Option (mM × Int32) :=
  m_X2_seatsThatFit_L5
    (fun M23 v24 =>
      some (M23, v24))
    x0 x1 x2 FU M (0 : Int32) (0 : Int32)
theorem e_X2_seatsThatFit {Z : zZ} {M : mM} {N : mM} {x0 : Nat} {x1 : Nat} {x2 : Int32} {r : Int32} (h : m_X2_seatsThatFit M x0 x1 x2 = some (N, r)) : EM Z yX2_seatsThatFit cX2_seatsThatFit 5 (some .int) 6 0 0 [.ref x0, .ref x1, .int x2] M N (some (.int r)) := by
  refine EM_of my_X2_seatsThatFit (Nat.le_of_ble_eq_true rfl) (fun X G F => ?_)
  show V X Z M 0 0 0 [some (.ref x0), some (.ref x1), some (.int x2), none, none] []
  unfold m_X2_seatsThatFit at h
  refine v_iconst G (0 : Int32) dX2_seatsThatFit_0 (by decide) ?_
  refine v_istore_n [some (.ref x0), some (.ref x1), some (.int x2), some (.int (0 : Int32)), none] G dX2_seatsThatFit_1 (Nat.le_of_ble_eq_true rfl) rfl rfl ?_
  refine v_iconst G (0 : Int32) dX2_seatsThatFit_2 (by decide) ?_
  refine v_istore [some (.ref x0), some (.ref x1), some (.int x2), some (.int (0 : Int32)), some (.int (0 : Int32))] G dX2_seatsThatFit_3 (Nat.le_of_ble_eq_true rfl) rfl rfl ?_
  refine v_mask [true, true, true, true, true] rfl ?_
  refine e_X2_seatsThatFit_L5 G (Nat.zero_le _) (Nat.zero_le _) _ _ _ (fun M23 v24 h => ?_) FU _ _ _ h
  refine v_iload_n G dX2_seatsThatFit_56 rfl ?_
  cases h
  exact v_iret G F dX2_seatsThatFit_57 rfl (Nat.le_refl _)
/-! X2_subjectsThatFit -/
def m_X2_subjectsThatFit_L6 {ρ : Type} (k0 : mM → Int32 → Option ρ) (x0 : Nat) (x1 : Nat) (x2 : Int32) (x3 : Int32) : Nat → mM → Int32 → Int32 → Option ρ
  | 0, _, _, _ => none
  | n + 1, M, x4, x5 =>
    (gI M x1 5 1).bind fun v1 =>
    if v1 ≤ x5 then (
      k0 M x4
    ) else (
      (gR M x0 2 0).bind fun b4 =>
      if isO M b4 5 = true then
      (m_X5_become M b4 x1).bind fun M7 =>
      (gR M7 x0 2 0).bind fun b8 =>
      (gR M7 b8 5 6).bind fun b10 =>
      (stI M7 b10 x3 x5).bind fun M12 =>
      if isO M12 x0 2 = true then
      bd2 (m_X2_fits M12 x0 x2) fun M15 v16 =>
      m_X2_subjectsThatFit_L6 k0 x0 x1 x2 x3 n M15 (x4 ||| (v16 <<< (x5 &&& 31))) (x5 + (1 : Int32))
      else none
      else none
    )
theorem e_X2_subjectsThatFit_L6 {X : xX} {Z : zZ} {cn sn : Nat} {ρ : Type} {r : ρ} {k0 : mM → Int32 → Option ρ} (G : ok_ X Z yX2_subjectsThatFit cX2_subjectsThatFit 6 6 0 0) (hcn : cn ≤ 0) (hsn : sn ≤ 0) (x0 : Nat) (x1 : Nat) (x2 : Int32) (x3 : Int32)
    (hx0 : ∀ (N : mM) (z4 : Int32), k0 N z4 = some r → V X Z N cn sn 53 [none, none, none, none, some (.int z4), none] []) :
    ∀ (n : Nat) (M : mM) (x4 : Int32) (x5 : Int32), m_X2_subjectsThatFit_L6 k0 x0 x1 x2 x3 n M x4 x5 = some r → V X Z M cn sn 6 [some (.ref x0), some (.ref x1), some (.int x2), some (.int x3), some (.int x4), some (.int x5)] [] := by
  intro n
  induction n with
  | zero => intro M x4 x5 h; rw [m_X2_subjectsThatFit_L6] at h; cases h
  | succ n ih =>
    intro M x4 x5 h
    rw [m_X2_subjectsThatFit_L6] at h
    refine v_iload G dX2_subjectsThatFit_6 rfl ?_
    refine v_aload_n G dX2_subjectsThatFit_8 rfl ?_
    obtain ⟨v1, q2, h⟩ := bi_ h
    refine v_getI (f := 1) G cl5 dX2_subjectsThatFit_9 w90 (by decide) (by decide) q2 ?_
    refine v_ic_ge 53 G dX2_subjectsThatFit_12 (by decide) (fun q3 => ?_) (fun q3 => ?_)
    · rw [if_pos q3] at h
      exact v_mask [false, false, false, false, true, false] rfl (hx0 _ _ h)
    · rw [if_neg q3] at h
      refine v_aload_n G dX2_subjectsThatFit_15 rfl ?_
      obtain ⟨b4, q5, h⟩ := bi_ h
      refine v_getR (f := 0) G cl2 dX2_subjectsThatFit_16 w211 (by decide) (by decide) q5 ?_
      refine v_aload_n G dX2_subjectsThatFit_19 rfl ?_
      obtain ⟨q18, h⟩ := if_s h
      obtain ⟨M7, q6, h⟩ := bi_ h
      refine v_callV0 (e_X5_become q6) G cl5 my_X5_become rfl w423 w424 w579 dX2_subjectsThatFit_20 q18 rfl (Nat.le_of_ble_eq_true rfl) rfl (Nat.le_of_ble_eq_true rfl) hcn hsn ?_
      refine v_aload_n G dX2_subjectsThatFit_23 rfl ?_
      obtain ⟨b8, q9, h⟩ := bi_ h
      refine v_getR (f := 0) G cl2 dX2_subjectsThatFit_24 w211 (by decide) (by decide) q9 ?_
      obtain ⟨b10, q11, h⟩ := bi_ h
      refine v_getR (f := 6) G cl5 dX2_subjectsThatFit_27 w109 (by decide) (by decide) q11 ?_
      refine v_iload_n G dX2_subjectsThatFit_30 rfl ?_
      refine v_iload G dX2_subjectsThatFit_31 rfl ?_
      obtain ⟨M12, q13, h⟩ := bi_ h
      refine v_iast G dX2_subjectsThatFit_33 q13 ?_
      refine v_iload G dX2_subjectsThatFit_34 rfl ?_
      refine v_aload_n G dX2_subjectsThatFit_36 rfl ?_
      refine v_iload_n G dX2_subjectsThatFit_37 rfl ?_
      obtain ⟨q17, h⟩ := if_s h
      obtain ⟨M15, v16, q14, h⟩ := bi2_ h
      refine v_callV0 (e_X2_fits q14) G cl2 my_X2_fits rfl w717 w20 w715 dX2_subjectsThatFit_38 q17 rfl (Nat.le_of_ble_eq_true rfl) rfl (Nat.le_of_ble_eq_true rfl) hcn hsn ?_
      refine v_iload G dX2_subjectsThatFit_41 rfl ?_
      refine v_ishl G dX2_subjectsThatFit_43 ?_
      refine v_ior G dX2_subjectsThatFit_44 ?_
      refine v_istore [some (.ref x0), some (.ref x1), some (.int x2), some (.int x3), some (.int (x4 ||| (v16 <<< (x5 &&& 31)))), some (.int x5)] G dX2_subjectsThatFit_45 (Nat.le_of_ble_eq_true rfl) rfl rfl ?_
      refine v_iinc (x5 + (1 : Int32)) [some (.ref x0), some (.ref x1), some (.int x2), some (.int x3), some (.int (x4 ||| (v16 <<< (x5 &&& 31)))), some (.int (x5 + (1 : Int32)))] G dX2_subjectsThatFit_47 rfl rfl (Nat.le_of_ble_eq_true rfl) rfl rfl ?_
      refine v_goto 6 G dX2_subjectsThatFit_50 (by decide) ?_
      exact v_mask [true, true, true, true, true, true] rfl (ih _ _ _ h)
def m_X2_subjectsThatFit (M : mM) (x0 : Nat) (x1 : Nat) (x2 : Int32) (x3 : Int32) : Option (mM × Int32) :=
  m_X2_subjectsThatFit_L6
    (fun M19 v20 =>
      some (M19, v20))
    x0 x1 x2 x3 FU M (0 : Int32) (0 : Int32)
theorem e_X2_subjectsThatFit {Z : zZ} {M : mM} {N : mM} {x0 : Nat} {x1 : Nat} {x2 : Int32} {x3 : Int32} {r : Int32} (h : m_X2_subjectsThatFit M x0 x1 x2 x3 = some (N, r)) : EM Z yX2_subjectsThatFit cX2_subjectsThatFit 6 (some .int) 6 0 0 [.ref x0, .ref x1, .int x2, .int x3] M N (some (.int r)) := by
  refine EM_of my_X2_subjectsThatFit (Nat.le_of_ble_eq_true rfl) (fun X G F => ?_)
  show V X Z M 0 0 0 [some (.ref x0), some (.ref x1), some (.int x2), some (.int x3), none, none] []
  unfold m_X2_subjectsThatFit at h
  refine v_iconst G (0 : Int32) dX2_subjectsThatFit_0 (by decide) ?_
  refine v_istore [some (.ref x0), some (.ref x1), some (.int x2), some (.int x3), some (.int (0 : Int32)), none] G dX2_subjectsThatFit_1 (Nat.le_of_ble_eq_true rfl) rfl rfl ?_
  refine v_iconst G (0 : Int32) dX2_subjectsThatFit_3 (by decide) ?_
  refine v_istore [some (.ref x0), some (.ref x1), some (.int x2), some (.int x3), some (.int (0 : Int32)), some (.int (0 : Int32))] G dX2_subjectsThatFit_4 (Nat.le_of_ble_eq_true rfl) rfl rfl ?_
  refine v_mask [true, true, true, true, true, true] rfl ?_
  refine e_X2_subjectsThatFit_L6 G (Nat.zero_le _) (Nat.zero_le _) _ _ _ _ (fun M19 v20 h => ?_) FU _ _ _ h
  refine v_iload G dX2_subjectsThatFit_53 rfl ?_
  cases h
  exact v_iret G F dX2_subjectsThatFit_55 rfl (Nat.le_refl _)
/-! X2_reachesThatFit -/
def m_X2_reachesThatFit_L5 {ρ : Type} (k0 : mM → Int32 → Option ρ) (x0 : Nat) (x1 : Nat) (x2 : Int32) : Nat → mM → Int32 → Int32 → Option ρ
  | 0, _, _, _ => none
  | n + 1, M, x3, x4 =>
    if (7 : Int32) ≤ x4 then (
      k0 M x3
    ) else (
      (gR M x0 2 0).bind fun b2 =>
      if isO M b2 5 = true then
      (m_X5_become M b2 x1).bind fun M5 =>
      (gR M5 x0 2 0).bind fun b6 =>
      (pI M5 b6 5 0 x4).bind fun M8 =>
      if isO M8 x0 2 = true then
      bd2 (m_X2_fits M8 x0 x2) fun M11 v12 =>
      m_X2_reachesThatFit_L5 k0 x0 x1 x2 n M11 (x3 ||| (v12 <<< (x4 &&& 31))) (x4 + (1 : Int32))
      else none
      else none
    )
theorem e_X2_reachesThatFit_L5 {X : xX} {Z : zZ} {cn sn : Nat} {ρ : Type} {r : ρ} {k0 : mM → Int32 → Option ρ} (G : ok_ X Z yX2_reachesThatFit cX2_reachesThatFit 5 6 0 0) (hcn : cn ≤ 0) (hsn : sn ≤ 0) (x0 : Nat) (x1 : Nat) (x2 : Int32)
    (hx0 : ∀ (N : mM) (z3 : Int32), k0 N z3 = some r → V X Z N cn sn 46 [none, none, none, some (.int z3), none] []) :
    ∀ (n : Nat) (M : mM) (x3 : Int32) (x4 : Int32), m_X2_reachesThatFit_L5 k0 x0 x1 x2 n M x3 x4 = some r → V X Z M cn sn 5 [some (.ref x0), some (.ref x1), some (.int x2), some (.int x3), some (.int x4)] [] := by
  intro n
  induction n with
  | zero => intro M x3 x4 h; rw [m_X2_reachesThatFit_L5] at h; cases h
  | succ n ih =>
    intro M x3 x4 h
    rw [m_X2_reachesThatFit_L5] at h
    refine v_iload G dX2_reachesThatFit_5 rfl ?_
    refine v_bipush G (7 : Int32) dX2_reachesThatFit_7 (by decide) ?_
    refine v_ic_ge 46 G dX2_reachesThatFit_9 (by decide) (fun q1 => ?_) (fun q1 => ?_)
    · rw [if_pos q1] at h
      exact v_mask [false, false, false, true, false] rfl (hx0 _ _ h)
    · rw [if_neg q1] at h
      refine v_aload_n G dX2_reachesThatFit_12 rfl ?_
      obtain ⟨b2, q3, h⟩ := bi_ h
      refine v_getR (f := 0) G cl2 dX2_reachesThatFit_13 w211 (by decide) (by decide) q3 ?_
      refine v_aload_n G dX2_reachesThatFit_16 rfl ?_
      obtain ⟨q14, h⟩ := if_s h
      obtain ⟨M5, q4, h⟩ := bi_ h
      refine v_callV0 (e_X5_become q4) G cl5 my_X5_become rfl w423 w424 w579 dX2_reachesThatFit_17 q14 rfl (Nat.le_of_ble_eq_true rfl) rfl (Nat.le_of_ble_eq_true rfl) hcn hsn ?_
      refine v_aload_n G dX2_reachesThatFit_20 rfl ?_
      obtain ⟨b6, q7, h⟩ := bi_ h
      refine v_getR (f := 0) G cl2 dX2_reachesThatFit_21 w211 (by decide) (by decide) q7 ?_
      refine v_iload G dX2_reachesThatFit_24 rfl ?_
      obtain ⟨M8, q9, h⟩ := bi_ h
      refine v_putI (f := 0) G cl5 dX2_reachesThatFit_26 w87 (by decide) (by decide) (by decide) rfl rfl q9 ?_
      refine v_iload_n G dX2_reachesThatFit_29 rfl ?_
      refine v_aload_n G dX2_reachesThatFit_30 rfl ?_
      refine v_iload_n G dX2_reachesThatFit_31 rfl ?_
      obtain ⟨q13, h⟩ := if_s h
      obtain ⟨M11, v12, q10, h⟩ := bi2_ h
      refine v_callV0 (e_X2_fits q10) G cl2 my_X2_fits rfl w717 w20 w715 dX2_reachesThatFit_32 q13 rfl (Nat.le_of_ble_eq_true rfl) rfl (Nat.le_of_ble_eq_true rfl) hcn hsn ?_
      refine v_iload G dX2_reachesThatFit_35 rfl ?_
      refine v_ishl G dX2_reachesThatFit_37 ?_
      refine v_ior G dX2_reachesThatFit_38 ?_
      refine v_istore_n [some (.ref x0), some (.ref x1), some (.int x2), some (.int (x3 ||| (v12 <<< (x4 &&& 31)))), some (.int x4)] G dX2_reachesThatFit_39 (Nat.le_of_ble_eq_true rfl) rfl rfl ?_
      refine v_iinc (x4 + (1 : Int32)) [some (.ref x0), some (.ref x1), some (.int x2), some (.int (x3 ||| (v12 <<< (x4 &&& 31)))), some (.int (x4 + (1 : Int32)))] G dX2_reachesThatFit_40 rfl rfl (Nat.le_of_ble_eq_true rfl) rfl rfl ?_
      refine v_goto 5 G dX2_reachesThatFit_43 (by decide) ?_
      exact v_mask [true, true, true, true, true] rfl (ih _ _ _ h)
def m_X2_reachesThatFit (M : mM) (x0 : Nat) (x1 : Nat) (x2 : Int32) : Option (mM × Int32) :=
  m_X2_reachesThatFit_L5
    (fun M15 v16 =>
      some (M15, v16))
    x0 x1 x2 FU M (0 : Int32) (0 : Int32)
theorem e_X2_reachesThatFit {Z : zZ} {M : mM} {N : mM} {x0 : Nat} {x1 : Nat} {x2 : Int32} {r : Int32} (h : m_X2_reachesThatFit M x0 x1 x2 = some (N, r)) : EM Z yX2_reachesThatFit cX2_reachesThatFit 5 (some .int) 6 0 0 [.ref x0, .ref x1, .int x2] M N (some (.int r)) := by
  refine EM_of my_X2_reachesThatFit (Nat.le_of_ble_eq_true rfl) (fun X G F => ?_)
  show V X Z M 0 0 0 [some (.ref x0), some (.ref x1), some (.int x2), none, none] []
  unfold m_X2_reachesThatFit at h
  refine v_iconst G (0 : Int32) dX2_reachesThatFit_0 (by decide) ?_
  refine v_istore_n [some (.ref x0), some (.ref x1), some (.int x2), some (.int (0 : Int32)), none] G dX2_reachesThatFit_1 (Nat.le_of_ble_eq_true rfl) rfl rfl ?_
  refine v_iconst G (0 : Int32) dX2_reachesThatFit_2 (by decide) ?_
  refine v_istore [some (.ref x0), some (.ref x1), some (.int x2), some (.int (0 : Int32)), some (.int (0 : Int32))] G dX2_reachesThatFit_3 (Nat.le_of_ble_eq_true rfl) rfl rfl ?_
  refine v_mask [true, true, true, true, true] rfl ?_
  refine e_X2_reachesThatFit_L5 G (Nat.zero_le _) (Nat.zero_le _) _ _ _ (fun M15 v16 h => ?_) FU _ _ _ h
  refine v_iload_n G dX2_reachesThatFit_46 rfl ?_
  cases h
  exact v_iret G F dX2_reachesThatFit_47 rfl (Nat.le_refl _)
/-! X2_knownDespite -/
def m_X2_knownDespite_L11 {ρ : Type} (k0 : mM → Option ρ) (x0 : Nat) (x2 : Int32) (x3 : Int32) (x4 : Int32) (x5 : Int32) : Nat → mM → Int32 → Option ρ
  | 0, _, _ => none
  | n + 1, M, x6 =>
    if x4 ≤ x6 then (
      k0 M
    ) else (
      if ((x5 >>> (x6 &&& 31)) &&& (1 : Int32)) = (0 : Int32) then (
        (gR M x0 2 0).bind fun b7 =>
        if isO M b7 5 = true then
        (m_X5_passDay M b7).bind fun M10 =>
        m_X2_knownDespite_L11 k0 x0 x2 x3 x4 x5 n M10 (x6 + (1 : Int32))
        else none
      ) else (
        (gR M x0 2 0).bind fun b12 =>
        (gI M b12 5 4).bind fun v14 =>
        (pI M b12 5 4 (v14 + (1 : Int32))).bind fun M16 =>
        m_X2_knownDespite_L11 k0 x0 x2 x3 x4 x5 n M16 (x6 + (1 : Int32))
      )
    )
theorem e_X2_knownDespite_L11 {X : xX} {Z : zZ} {cn sn : Nat} {ρ : Type} {r : ρ} {k0 : mM → Option ρ} (G : ok_ X Z yX2_knownDespite cX2_knownDespite 7 5 0 0) (hcn : cn ≤ 0) (hsn : sn ≤ 0) (x0 : Nat) (x2 : Int32) (x3 : Int32) (x4 : Int32) (x5 : Int32)
    (hx0 : ∀ (N : mM), k0 N = some r → V X Z N cn sn 57 [some (.ref x0), none, some (.int x2), some (.int x3), none, none, none] []) :
    ∀ (n : Nat) (M : mM) (x6 : Int32), m_X2_knownDespite_L11 k0 x0 x2 x3 x4 x5 n M x6 = some r → V X Z M cn sn 11 [some (.ref x0), none, some (.int x2), some (.int x3), some (.int x4), some (.int x5), some (.int x6)] [] := by
  intro n
  induction n with
  | zero => intro M x6 h; rw [m_X2_knownDespite_L11] at h; cases h
  | succ n ih =>
    intro M x6 h
    rw [m_X2_knownDespite_L11] at h
    refine v_iload G dX2_knownDespite_11 rfl ?_
    refine v_iload G dX2_knownDespite_13 rfl ?_
    refine v_ic_ge 57 G dX2_knownDespite_15 (by decide) (fun q5 => ?_) (fun q5 => ?_)
    · rw [if_pos q5] at h
      exact v_mask [true, false, true, true, false, false, false] rfl (hx0 _ h)
    · rw [if_neg q5] at h
      refine v_iload G dX2_knownDespite_18 rfl ?_
      refine v_iload G dX2_knownDespite_20 rfl ?_
      refine v_ishr G dX2_knownDespite_22 ?_
      refine v_iconst G (1 : Int32) dX2_knownDespite_23 (by decide) ?_
      refine v_iand G dX2_knownDespite_24 ?_
      refine v_if_eq 44 G dX2_knownDespite_25 (by decide) (fun q6 => ?_) (fun q6 => ?_)
      · rw [if_pos q6] at h
        refine v_aload_n G dX2_knownDespite_44 rfl ?_
        obtain ⟨b7, q8, h⟩ := bi_ h
        refine v_getR (f := 0) G cl2 dX2_knownDespite_45 w211 (by decide) (by decide) q8 ?_
        obtain ⟨q11, h⟩ := if_s h
        obtain ⟨M10, q9, h⟩ := bi_ h
        refine v_callV0 (e_X5_passDay q9) G cl5 my_X5_passDay rfl w454 w455 w580 dX2_knownDespite_48 q11 rfl (Nat.le_of_ble_eq_true rfl) rfl (Nat.le_of_ble_eq_true rfl) hcn hsn ?_
        refine v_iinc (x6 + (1 : Int32)) [some (.ref x0), none, some (.int x2), some (.int x3), some (.int x4), some (.int x5), some (.int (x6 + (1 : Int32)))] G dX2_knownDespite_51 rfl rfl (Nat.le_of_ble_eq_true rfl) rfl rfl ?_
        refine v_goto 11 G dX2_knownDespite_54 (by decide) ?_
        exact v_mask [true, false, true, true, true, true, true] rfl (ih _ _ h)
      · rw [if_neg q6] at h
        refine v_aload_n G dX2_knownDespite_28 rfl ?_
        obtain ⟨b12, q13, h⟩ := bi_ h
        refine v_getR (f := 0) G cl2 dX2_knownDespite_29 w211 (by decide) (by decide) q13 ?_
        refine v_dup G dX2_knownDespite_32 rfl ?_
        obtain ⟨v14, q15, h⟩ := bi_ h
        refine v_getI (f := 4) G cl5 dX2_knownDespite_33 w101 (by decide) (by decide) q15 ?_
        refine v_iconst G (1 : Int32) dX2_knownDespite_36 (by decide) ?_
        refine v_iadd G dX2_knownDespite_37 ?_
        obtain ⟨M16, q17, h⟩ := bi_ h
        refine v_putI (f := 4) G cl5 dX2_knownDespite_38 w101 (by decide) (by decide) (by decide) rfl rfl q17 ?_
        refine v_goto 51 G dX2_knownDespite_41 (by decide) ?_
        refine v_iinc (x6 + (1 : Int32)) [some (.ref x0), none, some (.int x2), some (.int x3), some (.int x4), some (.int x5), some (.int (x6 + (1 : Int32)))] G dX2_knownDespite_51 rfl rfl (Nat.le_of_ble_eq_true rfl) rfl rfl ?_
        refine v_goto 11 G dX2_knownDespite_54 (by decide) ?_
        exact v_mask [true, false, true, true, true, true, true] rfl (ih _ _ h)
def m_X2_knownDespite (M : mM) (x0 : Nat) (x1 : Nat) (x2 : Int32) (x3 : Int32) (x4 : Int32) (x5 : Int32) : Option (mM × Int32) :=
  (gR M x0 2 0).bind fun b1 =>
  if isO M b1 5 = true then
  (m_X5_become M b1 x1).bind fun M4 =>
  m_X2_knownDespite_L11
    (fun M18 =>
      (gR M18 x0 2 0).bind fun b19 =>
      if isO M18 b19 5 = true then
      (m_X5_knowsIt M18 b19 x2 x3).bind fun v22 =>
      if (v22 == 0 || v22 == 1) = true then some (M18, v22) else none
      else none)
    x0 x2 x3 x4 x5 FU M4 (0 : Int32)
  else none
theorem e_X2_knownDespite {Z : zZ} {M : mM} {N : mM} {x0 : Nat} {x1 : Nat} {x2 : Int32} {x3 : Int32} {x4 : Int32} {x5 : Int32} {r : Int32} (h : m_X2_knownDespite M x0 x1 x2 x3 x4 x5 = some (N, r)) : EM Z yX2_knownDespite cX2_knownDespite 7 (some .boolean) 5 0 0 [.ref x0, .ref x1, .int x2, .int x3, .int x4, .int x5] M N (some (.int r)) := by
  refine EM_of my_X2_knownDespite (Nat.le_of_ble_eq_true rfl) (fun X G F => ?_)
  show V X Z M 0 0 0 [some (.ref x0), some (.ref x1), some (.int x2), some (.int x3), some (.int x4), some (.int x5), none] []
  unfold m_X2_knownDespite at h
  refine v_aload_n G dX2_knownDespite_0 rfl ?_
  obtain ⟨b1, q2, h⟩ := bi_ h
  refine v_getR (f := 0) G cl2 dX2_knownDespite_1 w211 (by decide) (by decide) q2 ?_
  refine v_aload_n G dX2_knownDespite_4 rfl ?_
  obtain ⟨q25, h⟩ := if_s h
  obtain ⟨M4, q3, h⟩ := bi_ h
  refine v_callV0 (e_X5_become q3) G cl5 my_X5_become rfl w423 w424 w579 dX2_knownDespite_5 q25 rfl (Nat.le_of_ble_eq_true rfl) rfl (Nat.le_of_ble_eq_true rfl) (Nat.zero_le _) (Nat.zero_le _) ?_
  refine v_iconst G (0 : Int32) dX2_knownDespite_8 (by decide) ?_
  refine v_istore [some (.ref x0), some (.ref x1), some (.int x2), some (.int x3), some (.int x4), some (.int x5), some (.int (0 : Int32))] G dX2_knownDespite_9 (Nat.le_of_ble_eq_true rfl) rfl rfl ?_
  refine v_mask [true, false, true, true, true, true, true] rfl ?_
  refine e_X2_knownDespite_L11 G (Nat.zero_le _) (Nat.zero_le _) _ _ _ _ _ (fun M18 h => ?_) FU _ _ h
  refine v_aload_n G dX2_knownDespite_57 rfl ?_
  obtain ⟨b19, q20, h⟩ := bi_ h
  refine v_getR (f := 0) G cl2 dX2_knownDespite_58 w211 (by decide) (by decide) q20 ?_
  refine v_iload_n G dX2_knownDespite_61 rfl ?_
  refine v_iload_n G dX2_knownDespite_62 rfl ?_
  obtain ⟨q24, h⟩ := if_s h
  obtain ⟨v22, q21, h⟩ := bi_ h
  refine v_callV0 (e_X5_knowsIt q21) G cl5 my_X5_knowsIt rfl w469 w470 w589 dX2_knownDespite_63 q24 rfl (Nat.le_of_ble_eq_true rfl) rfl (Nat.le_of_ble_eq_true rfl) (Nat.zero_le _) (Nat.zero_le _) ?_
  obtain ⟨q23, h⟩ := if_s h
  cases h
  exact v_zret G F q23 dX2_knownDespite_66 rfl (Nat.le_refl _)
/-! X6_power -/
def m_X6_power_L5 {ρ : Type} (k0 : Int64 → Option ρ) (M : mM) (x0 : Int64) (x2 : Int32) : Nat → Int64 → Int32 → Option ρ
  | 0, _, _ => none
  | n + 1, x3, x5 =>
    if x2 ≤ x5 then (
      k0 x3
    ) else (
      m_X6_power_L5 k0 M x0 x2 n (x3 * x0) (x5 + (1 : Int32))
    )
theorem e_X6_power_L5 {X : xX} {Z : zZ} {cn sn : Nat} {ρ : Type} {r : ρ} {k0 : Int64 → Option ρ} (G : ok_ X Z yX6_power cX6_power 6 0 0 0) (hcn : cn ≤ 0) (hsn : sn ≤ 0) (M : mM) (x0 : Int64) (x2 : Int32)
    (hx0 : ∀ (z3 : Int64), k0 z3 = some r → V X Z M cn sn 21 [none, none, none, some (.long z3), none, none] []) :
    ∀ (n : Nat) (x3 : Int64) (x5 : Int32), m_X6_power_L5 k0 M x0 x2 n x3 x5 = some r → V X Z M cn sn 5 [some (.long x0), none, some (.int x2), some (.long x3), none, some (.int x5)] [] := by
  intro n
  induction n with
  | zero => intro x3 x5 h; rw [m_X6_power_L5] at h; cases h
  | succ n ih =>
    intro x3 x5 h
    rw [m_X6_power_L5] at h
    refine v_iload G dX6_power_5 rfl ?_
    refine v_iload_n G dX6_power_7 rfl ?_
    refine v_ic_ge 21 G dX6_power_8 (by decide) (fun q1 => ?_) (fun q1 => ?_)
    · rw [if_pos q1] at h
      exact v_mask [false, false, false, true, false, false] rfl (hx0 _ h)
    · rw [if_neg q1] at h
      refine v_lload_n G dX6_power_11 rfl ?_
      refine v_lload_n G dX6_power_12 rfl ?_
      refine v_lmul G dX6_power_13 ?_
      refine v_lstore_n [some (.long x0), none, some (.int x2), some (.long (x3 * x0)), none, some (.int x5)] G dX6_power_14 (Nat.le_of_ble_eq_true rfl) rfl rfl ?_
      refine v_iinc (x5 + (1 : Int32)) [some (.long x0), none, some (.int x2), some (.long (x3 * x0)), none, some (.int (x5 + (1 : Int32)))] G dX6_power_15 rfl rfl (Nat.le_of_ble_eq_true rfl) rfl rfl ?_
      refine v_goto 5 G dX6_power_18 (by decide) ?_
      exact v_mask [true, false, true, true, false, true] rfl (ih _ _ h)
def m_X6_power (M : mM) (x0 : Int64) (x2 : Int32) : Option Int64 :=
  m_X6_power_L5
    (fun v2 =>
      some v2)
    M x0 x2 FU (1 : Int64) (0 : Int32)
theorem e_X6_power {Z : zZ} {M : mM} {x0 : Int64} {x2 : Int32} {r : Int64} (h : m_X6_power M x0 x2 = some r) : EM Z yX6_power cX6_power 6 (some .long) 0 0 0 [.long x0, .int x2] M M (some (.long r)) := by
  refine EM_of my_X6_power (Nat.le_of_ble_eq_true rfl) (fun X G F => ?_)
  show V X Z M 0 0 0 [some (.long x0), none, some (.int x2), none, none, none] []
  unfold m_X6_power at h
  refine v_lconst G (1 : Int64) dX6_power_0 (by decide) ?_
  refine v_lstore_n [some (.long x0), none, some (.int x2), some (.long (1 : Int64)), none, none] G dX6_power_1 (Nat.le_of_ble_eq_true rfl) rfl rfl ?_
  refine v_iconst G (0 : Int32) dX6_power_2 (by decide) ?_
  refine v_istore [some (.long x0), none, some (.int x2), some (.long (1 : Int64)), none, some (.int (0 : Int32))] G dX6_power_3 (Nat.le_of_ble_eq_true rfl) rfl rfl ?_
  refine v_mask [true, false, true, true, false, true] rfl ?_
  refine e_X6_power_L5 G (Nat.zero_le _) (Nat.zero_le _) _ _ _ (fun v2 h => ?_) FU _ _ h
  refine v_lload_n G dX6_power_21 rfl ?_
  cases h
  exact v_lret G F dX6_power_22 rfl (Nat.le_refl _)
/-! X2_casesKnown -/
def m_X2_casesKnown_L6 {ρ : Type} (k0 : mM → Int64 → Option ρ) (x0 : Nat) (x1 : Nat) (x2 : Int32) (x3 : Int32) (x4 : Int32) (x5 : Int32) : Nat → mM → Int64 → Int32 → Option ρ
  | 0, _, _, _ => none
  | n + 1, M, x6, x8 =>
    if ((1 : Int32) <<< (x4 &&& 31)) ≤ x8 then (
      k0 M x6
    ) else (
      (m_J6_bitCount_0f7a4 M x8).bind fun v3 =>
      (m_X6_power M (Int32.toInt64 x5) v3).bind fun v5 =>
      (m_X6_power M (Int32.toInt64 ((10 : Int32) - x5)) (x4 - v3)).bind fun v7 =>
      if (lg_cmp (v5 * v7) (0 : Int64)) = (0 : Int32) then (
        m_X2_casesKnown_L6 k0 x0 x1 x2 x3 x4 x5 n M x6 (x8 + (1 : Int32))
      ) else (
        if isO M x0 2 = true then
        bd2 (m_X2_knownDespite M x0 x1 x2 x3 x4 x8) fun M10 v11 =>
        if v11 = (0 : Int32) then (
          m_X2_casesKnown_L6 k0 x0 x1 x2 x3 x4 x5 n M10 x6 (x8 + (1 : Int32))
        ) else (
          m_X2_casesKnown_L6 k0 x0 x1 x2 x3 x4 x5 n M10 (x6 + (v5 * v7)) (x8 + (1 : Int32))
        )
        else none
      )
    )
theorem e_X2_casesKnown_L6 {X : xX} {Z : zZ} {cn sn : Nat} {ρ : Type} {r : ρ} {k0 : mM → Int64 → Option ρ} (G : ok_ X Z yX2_casesKnown cX2_casesKnown 12 6 0 0) (hcn : cn ≤ 0) (hsn : sn ≤ 0) (x0 : Nat) (x1 : Nat) (x2 : Int32) (x3 : Int32) (x4 : Int32) (x5 : Int32)
    (hx0 : ∀ (N : mM) (z6 : Int64), k0 N z6 = some r → V X Z N cn sn 81 [none, none, none, none, none, none, some (.long z6), none, none, none, none, none] []) :
    ∀ (n : Nat) (M : mM) (x6 : Int64) (x8 : Int32), m_X2_casesKnown_L6 k0 x0 x1 x2 x3 x4 x5 n M x6 x8 = some r → V X Z M cn sn 6 [some (.ref x0), some (.ref x1), some (.int x2), some (.int x3), some (.int x4), some (.int x5), some (.long x6), none, some (.int x8), none, none, none] [] := by
  intro n
  induction n with
  | zero => intro M x6 x8 h; rw [m_X2_casesKnown_L6] at h; cases h
  | succ n ih =>
    intro M x6 x8 h
    rw [m_X2_casesKnown_L6] at h
    refine v_iload G dX2_casesKnown_6 rfl ?_
    refine v_iconst G (1 : Int32) dX2_casesKnown_8 (by decide) ?_
    refine v_iload G dX2_casesKnown_9 rfl ?_
    refine v_ishl G dX2_casesKnown_11 ?_
    refine v_ic_ge 81 G dX2_casesKnown_12 (by decide) (fun q1 => ?_) (fun q1 => ?_)
    · rw [if_pos q1] at h
      exact v_mask [false, false, false, false, false, false, true, false, false, false, false, false] rfl (hx0 _ _ h)
    · rw [if_neg q1] at h
      refine v_iload G dX2_casesKnown_15 rfl ?_
      obtain ⟨v3, q2, h⟩ := bi_ h
      refine v_callS0 (e_J6_bitCount_0f7a4 q2) G my_J6_bitCount_0f7a4 w493 w747 dX2_casesKnown_17 rfl (Nat.le_of_ble_eq_true rfl) rfl (Nat.le_of_ble_eq_true rfl) hcn hsn ?_
      refine v_istore [some (.ref x0), some (.ref x1), some (.int x2), some (.int x3), some (.int x4), some (.int x5), some (.long x6), none, some (.int x8), some (.int v3), none, none] G dX2_casesKnown_20 (Nat.le_of_ble_eq_true rfl) rfl rfl ?_
      refine v_iload G dX2_casesKnown_22 rfl ?_
      refine v_i2l G dX2_casesKnown_24 ?_
      refine v_iload G dX2_casesKnown_25 rfl ?_
      obtain ⟨v5, q4, h⟩ := bi_ h
      refine v_callSN0 (e_X6_power q4) G my_X6_power w749 n748 dX2_casesKnown_27 rfl (Nat.le_of_ble_eq_true rfl) rfl (Nat.le_of_ble_eq_true rfl) hcn hsn ?_
      refine v_bipush G (10 : Int32) dX2_casesKnown_30 (by decide) ?_
      refine v_iload G dX2_casesKnown_32 rfl ?_
      refine v_isub G dX2_casesKnown_34 ?_
      refine v_i2l G dX2_casesKnown_35 ?_
      refine v_iload G dX2_casesKnown_36 rfl ?_
      refine v_iload G dX2_casesKnown_38 rfl ?_
      refine v_isub G dX2_casesKnown_40 ?_
      obtain ⟨v7, q6, h⟩ := bi_ h
      refine v_callSN0 (e_X6_power q6) G my_X6_power w749 n748 dX2_casesKnown_41 rfl (Nat.le_of_ble_eq_true rfl) rfl (Nat.le_of_ble_eq_true rfl) hcn hsn ?_
      refine v_lmul G dX2_casesKnown_44 ?_
      refine v_lstore [some (.ref x0), some (.ref x1), some (.int x2), some (.int x3), some (.int x4), some (.int x5), some (.long x6), none, some (.int x8), some (.int v3), some (.long (v5 * v7)), none] G dX2_casesKnown_45 (Nat.le_of_ble_eq_true rfl) rfl rfl ?_
      refine v_lload G dX2_casesKnown_47 rfl ?_
      refine v_lconst G (0 : Int64) dX2_casesKnown_49 (by decide) ?_
      refine v_lcmp G dX2_casesKnown_50 ?_
      refine v_if_eq 75 G dX2_casesKnown_51 (by decide) (fun q8 => ?_) (fun q8 => ?_)
      · rw [if_pos q8] at h
        refine v_iinc (x8 + (1 : Int32)) [some (.ref x0), some (.ref x1), some (.int x2), some (.int x3), some (.int x4), some (.int x5), some (.long x6), none, some (.int (x8 + (1 : Int32))), some (.int v3), some (.long (v5 * v7)), none] G dX2_casesKnown_75 rfl rfl (Nat.le_of_ble_eq_true rfl) rfl rfl ?_
        refine v_goto 6 G dX2_casesKnown_78 (by decide) ?_
        exact v_mask [true, true, true, true, true, true, true, false, true, false, false, false] rfl (ih _ _ _ h)
      · rw [if_neg q8] at h
        refine v_aload_n G dX2_casesKnown_54 rfl ?_
        refine v_aload_n G dX2_casesKnown_55 rfl ?_
        refine v_iload_n G dX2_casesKnown_56 rfl ?_
        refine v_iload_n G dX2_casesKnown_57 rfl ?_
        refine v_iload G dX2_casesKnown_58 rfl ?_
        refine v_iload G dX2_casesKnown_60 rfl ?_
        obtain ⟨q13, h⟩ := if_s h
        obtain ⟨M10, v11, q9, h⟩ := bi2_ h
        refine v_callV0 (e_X2_knownDespite q9) G cl2 my_X2_knownDespite rfl w753 w21 w751 dX2_casesKnown_62 q13 rfl (Nat.le_of_ble_eq_true rfl) rfl (Nat.le_of_ble_eq_true rfl) hcn hsn ?_
        refine v_if_eq 75 G dX2_casesKnown_65 (by decide) (fun q12 => ?_) (fun q12 => ?_)
        · rw [if_pos q12] at h
          refine v_iinc (x8 + (1 : Int32)) [some (.ref x0), some (.ref x1), some (.int x2), some (.int x3), some (.int x4), some (.int x5), some (.long x6), none, some (.int (x8 + (1 : Int32))), some (.int v3), some (.long (v5 * v7)), none] G dX2_casesKnown_75 rfl rfl (Nat.le_of_ble_eq_true rfl) rfl rfl ?_
          refine v_goto 6 G dX2_casesKnown_78 (by decide) ?_
          exact v_mask [true, true, true, true, true, true, true, false, true, false, false, false] rfl (ih _ _ _ h)
        · rw [if_neg q12] at h
          refine v_lload G dX2_casesKnown_68 rfl ?_
          refine v_lload G dX2_casesKnown_70 rfl ?_
          refine v_ladd G dX2_casesKnown_72 ?_
          refine v_lstore [some (.ref x0), some (.ref x1), some (.int x2), some (.int x3), some (.int x4), some (.int x5), some (.long (x6 + (v5 * v7))), none, some (.int x8), some (.int v3), some (.long (v5 * v7)), none] G dX2_casesKnown_73 (Nat.le_of_ble_eq_true rfl) rfl rfl ?_
          refine v_iinc (x8 + (1 : Int32)) [some (.ref x0), some (.ref x1), some (.int x2), some (.int x3), some (.int x4), some (.int x5), some (.long (x6 + (v5 * v7))), none, some (.int (x8 + (1 : Int32))), some (.int v3), some (.long (v5 * v7)), none] G dX2_casesKnown_75 rfl rfl (Nat.le_of_ble_eq_true rfl) rfl rfl ?_
          refine v_goto 6 G dX2_casesKnown_78 (by decide) ?_
          exact v_mask [true, true, true, true, true, true, true, false, true, false, false, false] rfl (ih _ _ _ h)
def m_X2_casesKnown (M : mM) (x0 : Nat) (x1 : Nat) (x2 : Int32) (x3 : Int32) (x4 : Int32) (x5 : Int32) : Option (mM × Int64) :=
  m_X2_casesKnown_L6
    (fun M14 v15 =>
      some (M14, v15))
    x0 x1 x2 x3 x4 x5 FU M (0 : Int64) (0 : Int32)
theorem e_X2_casesKnown {Z : zZ} {M : mM} {N : mM} {x0 : Nat} {x1 : Nat} {x2 : Int32} {x3 : Int32} {x4 : Int32} {x5 : Int32} {r : Int64} (h : m_X2_casesKnown M x0 x1 x2 x3 x4 x5 = some (N, r)) : EM Z yX2_casesKnown cX2_casesKnown 12 (some .long) 6 0 0 [.ref x0, .ref x1, .int x2, .int x3, .int x4, .int x5] M N (some (.long r)) := by
  refine EM_of my_X2_casesKnown (Nat.le_of_ble_eq_true rfl) (fun X G F => ?_)
  show V X Z M 0 0 0 [some (.ref x0), some (.ref x1), some (.int x2), some (.int x3), some (.int x4), some (.int x5), none, none, none, none, none, none] []
  unfold m_X2_casesKnown at h
  refine v_lconst G (0 : Int64) dX2_casesKnown_0 (by decide) ?_
  refine v_lstore [some (.ref x0), some (.ref x1), some (.int x2), some (.int x3), some (.int x4), some (.int x5), some (.long (0 : Int64)), none, none, none, none, none] G dX2_casesKnown_1 (Nat.le_of_ble_eq_true rfl) rfl rfl ?_
  refine v_iconst G (0 : Int32) dX2_casesKnown_3 (by decide) ?_
  refine v_istore [some (.ref x0), some (.ref x1), some (.int x2), some (.int x3), some (.int x4), some (.int x5), some (.long (0 : Int64)), none, some (.int (0 : Int32)), none, none, none] G dX2_casesKnown_4 (Nat.le_of_ble_eq_true rfl) rfl rfl ?_
  refine v_mask [true, true, true, true, true, true, true, false, true, false, false, false] rfl ?_
  refine e_X2_casesKnown_L6 G (Nat.zero_le _) (Nat.zero_le _) _ _ _ _ _ _ (fun M14 v15 h => ?_) FU _ _ _ h
  refine v_lload G dX2_casesKnown_81 rfl ?_
  cases h
  exact v_lret G F dX2_casesKnown_83 rfl (Nat.le_refl _)
/-! X2_drawOnce -/
def m_X2_drawOnce (M : mM) (x0 : Nat) (x1 : Int64) : Option mM :=
  (gR M x0 2 0).bind fun b1 =>
  (gI M b1 5 1).bind fun v3 =>
  if v3 < (1 : Int32) then (
    some M
  ) else (
    (gR M x0 2 0).bind fun b6 =>
    (gI M b6 5 2).bind fun v8 =>
    if v8 < (1 : Int32) then (
      some M
    ) else (
      (gR M x0 2 0).bind fun b11 =>
      (gI M b11 5 3).bind fun v13 =>
      if (1 : Int32) ≤ v13 then (
        (gR M x0 2 0).bind fun b16 =>
        (gI M b16 5 1).bind fun v18 =>
        if (Int32.toInt64 v18) = (0 : Int64) then none else
        if (lg_cmp (lr_ x1 (3 : Int64)) (0 : Int64)) = (0 : Int32) then (
          (gR M x0 2 0).bind fun b36 =>
          (gR M b36 5 6).bind fun b38 =>
          (gR M x0 2 0).bind fun b40 =>
          (gI M b40 5 2).bind fun v42 =>
          if (Int32.toInt64 v42) = (0 : Int64) then none else
          (stI M b38 (Int64.toInt32 (lr_ x1 (Int32.toInt64 v42))) (Int64.toInt32 (lr_ x1 (Int32.toInt64 v18)))).bind fun M45 =>
          if (lg_cmp (lr_ x1 (4 : Int64)) (0 : Int64)) = (0 : Int32) then (
            (gR M45 x0 2 0).bind fun b48 =>
            (gR M45 b48 5 8).bind fun b50 =>
            (gR M45 x0 2 0).bind fun b52 =>
            (gI M45 b52 5 3).bind fun v54 =>
            if (Int32.toInt64 v54) = (0 : Int64) then none else
            (ldI M45 b50 (Int64.toInt32 (lr_ x1 (Int32.toInt64 v54)))).bind fun v58 =>
            (stI M45 b50 (Int64.toInt32 (lr_ x1 (Int32.toInt64 v54))) (v58 &&& (((1 : Int32) <<< ((Int64.toInt32 (lr_ x1 (Int32.toInt64 v18))) &&& 31)) ^^^ (-1 : Int32)))).bind fun M59 =>
            some M59
          ) else (
            some M45
          )
        ) else (
          if (lg_cmp (lr_ x1 (4 : Int64)) (0 : Int64)) = (0 : Int32) then (
            (gR M x0 2 0).bind fun b23 =>
            (gR M b23 5 8).bind fun b25 =>
            (gR M x0 2 0).bind fun b27 =>
            (gI M b27 5 3).bind fun v29 =>
            if (Int32.toInt64 v29) = (0 : Int64) then none else
            (ldI M b25 (Int64.toInt32 (lr_ x1 (Int32.toInt64 v29)))).bind fun v33 =>
            (stI M b25 (Int64.toInt32 (lr_ x1 (Int32.toInt64 v29))) (v33 &&& (((1 : Int32) <<< ((Int64.toInt32 (lr_ x1 (Int32.toInt64 v18))) &&& 31)) ^^^ (-1 : Int32)))).bind fun M34 =>
            some M34
          ) else (
            some M
          )
        )
      ) else (
        some M
      )
    )
  )
theorem e_X2_drawOnce {Z : zZ} {M : mM} {N : mM} {x0 : Nat} {x1 : Int64} (h : m_X2_drawOnce M x0 x1 = some N) : EM Z yX2_drawOnce cX2_drawOnce 4 none 0 0 0 [.ref x0, .long x1] M N none := by
  refine EM_of my_X2_drawOnce (Nat.le_of_ble_eq_true rfl) (fun X G F => ?_)
  show V X Z M 0 0 0 [some (.ref x0), some (.long x1), none, none] []
  unfold m_X2_drawOnce at h
  refine v_aload_n G dX2_drawOnce_0 rfl ?_
  obtain ⟨b1, q2, h⟩ := bi_ h
  refine v_getR (f := 0) G cl2 dX2_drawOnce_1 w211 (by decide) (by decide) q2 ?_
  obtain ⟨v3, q4, h⟩ := bi_ h
  refine v_getI (f := 1) G cl5 dX2_drawOnce_4 w90 (by decide) (by decide) q4 ?_
  refine v_iconst G (1 : Int32) dX2_drawOnce_7 (by decide) ?_
  refine v_ic_lt 33 G dX2_drawOnce_8 (by decide) (fun q5 => ?_) (fun q5 => ?_)
  · rw [if_pos q5] at h
    cases h
    exact v_vret G F dX2_drawOnce_33 rfl (Nat.le_refl _)
  · rw [if_neg q5] at h
    refine v_aload_n G dX2_drawOnce_11 rfl ?_
    obtain ⟨b6, q7, h⟩ := bi_ h
    refine v_getR (f := 0) G cl2 dX2_drawOnce_12 w211 (by decide) (by decide) q7 ?_
    obtain ⟨v8, q9, h⟩ := bi_ h
    refine v_getI (f := 2) G cl5 dX2_drawOnce_15 w94 (by decide) (by decide) q9 ?_
    refine v_iconst G (1 : Int32) dX2_drawOnce_18 (by decide) ?_
    refine v_ic_lt 33 G dX2_drawOnce_19 (by decide) (fun q10 => ?_) (fun q10 => ?_)
    · rw [if_pos q10] at h
      cases h
      exact v_vret G F dX2_drawOnce_33 rfl (Nat.le_refl _)
    · rw [if_neg q10] at h
      refine v_aload_n G dX2_drawOnce_22 rfl ?_
      obtain ⟨b11, q12, h⟩ := bi_ h
      refine v_getR (f := 0) G cl2 dX2_drawOnce_23 w211 (by decide) (by decide) q12 ?_
      obtain ⟨v13, q14, h⟩ := bi_ h
      refine v_getI (f := 3) G cl5 dX2_drawOnce_26 w97 (by decide) (by decide) q14 ?_
      refine v_iconst G (1 : Int32) dX2_drawOnce_29 (by decide) ?_
      refine v_ic_ge 34 G dX2_drawOnce_30 (by decide) (fun q15 => ?_) (fun q15 => ?_)
      · rw [if_pos q15] at h
        refine v_lload_n G dX2_drawOnce_34 rfl ?_
        refine v_aload_n G dX2_drawOnce_35 rfl ?_
        obtain ⟨b16, q17, h⟩ := bi_ h
        refine v_getR (f := 0) G cl2 dX2_drawOnce_36 w211 (by decide) (by decide) q17 ?_
        obtain ⟨v18, q19, h⟩ := bi_ h
        refine v_getI (f := 1) G cl5 dX2_drawOnce_39 w90 (by decide) (by decide) q19 ?_
        refine v_i2l G dX2_drawOnce_42 ?_
        obtain ⟨q20, h⟩ := in_ h
        refine v_lrem G dX2_drawOnce_43 q20 ?_
        refine v_l2i G dX2_drawOnce_44 ?_
        refine v_istore_n [some (.ref x0), some (.long x1), none, some (.int (Int64.toInt32 (lr_ x1 (Int32.toInt64 v18))))] G dX2_drawOnce_45 (Nat.le_of_ble_eq_true rfl) rfl rfl ?_
        refine v_lload_n G dX2_drawOnce_46 rfl ?_
        refine v_ldc2 G (3 : Int64) dX2_drawOnce_47 w775 ?_
        refine v_lrem G dX2_drawOnce_50 (by decide) ?_
        refine v_lconst G (0 : Int64) dX2_drawOnce_51 (by decide) ?_
        refine v_lcmp G dX2_drawOnce_52 ?_
        refine v_if_ne 76 G dX2_drawOnce_53 (by decide) (fun q21 => ?_) (fun q21 => ?_)
        · rw [if_neg q21] at h
          refine v_lload_n G dX2_drawOnce_76 rfl ?_
          refine v_ldc2 G (4 : Int64) dX2_drawOnce_77 w776 ?_
          refine v_lrem G dX2_drawOnce_80 (by decide) ?_
          refine v_lconst G (0 : Int64) dX2_drawOnce_81 (by decide) ?_
          refine v_lcmp G dX2_drawOnce_82 ?_
          refine v_if_ne 113 G dX2_drawOnce_83 (by decide) (fun q22 => ?_) (fun q22 => ?_)
          · rw [if_neg q22] at h
            cases h
            exact v_vret G F dX2_drawOnce_113 rfl (Nat.le_refl _)
          · rw [if_pos q22] at h
            refine v_aload_n G dX2_drawOnce_86 rfl ?_
            obtain ⟨b23, q24, h⟩ := bi_ h
            refine v_getR (f := 0) G cl2 dX2_drawOnce_87 w211 (by decide) (by decide) q24 ?_
            obtain ⟨b25, q26, h⟩ := bi_ h
            refine v_getR (f := 8) G cl5 dX2_drawOnce_90 w118 (by decide) (by decide) q26 ?_
            refine v_lload_n G dX2_drawOnce_93 rfl ?_
            refine v_aload_n G dX2_drawOnce_94 rfl ?_
            obtain ⟨b27, q28, h⟩ := bi_ h
            refine v_getR (f := 0) G cl2 dX2_drawOnce_95 w211 (by decide) (by decide) q28 ?_
            obtain ⟨v29, q30, h⟩ := bi_ h
            refine v_getI (f := 3) G cl5 dX2_drawOnce_98 w97 (by decide) (by decide) q30 ?_
            refine v_i2l G dX2_drawOnce_101 ?_
            obtain ⟨q31, h⟩ := in_ h
            refine v_lrem G dX2_drawOnce_102 q31 ?_
            refine v_l2i G dX2_drawOnce_103 ?_
            refine v_dup2 G dX2_drawOnce_104 rfl rfl ?_
            obtain ⟨v33, q32, h⟩ := bi_ h
            refine v_iald G dX2_drawOnce_105 q32 ?_
            refine v_iconst G (1 : Int32) dX2_drawOnce_106 (by decide) ?_
            refine v_iload_n G dX2_drawOnce_107 rfl ?_
            refine v_ishl G dX2_drawOnce_108 ?_
            refine v_iconst G (-1 : Int32) dX2_drawOnce_109 (by decide) ?_
            refine v_ixor G dX2_drawOnce_110 ?_
            refine v_iand G dX2_drawOnce_111 ?_
            obtain ⟨M34, q35, h⟩ := bi_ h
            refine v_iast G dX2_drawOnce_112 q35 ?_
            cases h
            exact v_vret G F dX2_drawOnce_113 rfl (Nat.le_refl _)
        · rw [if_pos q21] at h
          refine v_aload_n G dX2_drawOnce_56 rfl ?_
          obtain ⟨b36, q37, h⟩ := bi_ h
          refine v_getR (f := 0) G cl2 dX2_drawOnce_57 w211 (by decide) (by decide) q37 ?_
          obtain ⟨b38, q39, h⟩ := bi_ h
          refine v_getR (f := 6) G cl5 dX2_drawOnce_60 w109 (by decide) (by decide) q39 ?_
          refine v_lload_n G dX2_drawOnce_63 rfl ?_
          refine v_aload_n G dX2_drawOnce_64 rfl ?_
          obtain ⟨b40, q41, h⟩ := bi_ h
          refine v_getR (f := 0) G cl2 dX2_drawOnce_65 w211 (by decide) (by decide) q41 ?_
          obtain ⟨v42, q43, h⟩ := bi_ h
          refine v_getI (f := 2) G cl5 dX2_drawOnce_68 w94 (by decide) (by decide) q43 ?_
          refine v_i2l G dX2_drawOnce_71 ?_
          obtain ⟨q44, h⟩ := in_ h
          refine v_lrem G dX2_drawOnce_72 q44 ?_
          refine v_l2i G dX2_drawOnce_73 ?_
          refine v_iload_n G dX2_drawOnce_74 rfl ?_
          obtain ⟨M45, q46, h⟩ := bi_ h
          refine v_iast G dX2_drawOnce_75 q46 ?_
          refine v_lload_n G dX2_drawOnce_76 rfl ?_
          refine v_ldc2 G (4 : Int64) dX2_drawOnce_77 w776 ?_
          refine v_lrem G dX2_drawOnce_80 (by decide) ?_
          refine v_lconst G (0 : Int64) dX2_drawOnce_81 (by decide) ?_
          refine v_lcmp G dX2_drawOnce_82 ?_
          refine v_if_ne 113 G dX2_drawOnce_83 (by decide) (fun q47 => ?_) (fun q47 => ?_)
          · rw [if_neg q47] at h
            cases h
            exact v_vret G F dX2_drawOnce_113 rfl (Nat.le_refl _)
          · rw [if_pos q47] at h
            refine v_aload_n G dX2_drawOnce_86 rfl ?_
            obtain ⟨b48, q49, h⟩ := bi_ h
            refine v_getR (f := 0) G cl2 dX2_drawOnce_87 w211 (by decide) (by decide) q49 ?_
            obtain ⟨b50, q51, h⟩ := bi_ h
            refine v_getR (f := 8) G cl5 dX2_drawOnce_90 w118 (by decide) (by decide) q51 ?_
            refine v_lload_n G dX2_drawOnce_93 rfl ?_
            refine v_aload_n G dX2_drawOnce_94 rfl ?_
            obtain ⟨b52, q53, h⟩ := bi_ h
            refine v_getR (f := 0) G cl2 dX2_drawOnce_95 w211 (by decide) (by decide) q53 ?_
            obtain ⟨v54, q55, h⟩ := bi_ h
            refine v_getI (f := 3) G cl5 dX2_drawOnce_98 w97 (by decide) (by decide) q55 ?_
            refine v_i2l G dX2_drawOnce_101 ?_
            obtain ⟨q56, h⟩ := in_ h
            refine v_lrem G dX2_drawOnce_102 q56 ?_
            refine v_l2i G dX2_drawOnce_103 ?_
            refine v_dup2 G dX2_drawOnce_104 rfl rfl ?_
            obtain ⟨v58, q57, h⟩ := bi_ h
            refine v_iald G dX2_drawOnce_105 q57 ?_
            refine v_iconst G (1 : Int32) dX2_drawOnce_106 (by decide) ?_
            refine v_iload_n G dX2_drawOnce_107 rfl ?_
            refine v_ishl G dX2_drawOnce_108 ?_
            refine v_iconst G (-1 : Int32) dX2_drawOnce_109 (by decide) ?_
            refine v_ixor G dX2_drawOnce_110 ?_
            refine v_iand G dX2_drawOnce_111 ?_
            obtain ⟨M59, q60, h⟩ := bi_ h
            refine v_iast G dX2_drawOnce_112 q60 ?_
            cases h
            exact v_vret G F dX2_drawOnce_113 rfl (Nat.le_refl _)
      · rw [if_neg q15] at h
        cases h
        exact v_vret G F dX2_drawOnce_33 rfl (Nat.le_refl _)
/-! X2_afterDraws -/
def m_X2_afterDraws_L15 {ρ : Type} (k0 : mM → Option ρ) (x0 : Nat) (x2 : Int32) : Nat → mM → Int64 → Int32 → Option ρ
  | 0, _, _, _ => none
  | n + 1, M, x4, x6 =>
    if x2 ≤ x6 then (
      k0 M
    ) else (
      if isO M x0 2 = true then
      (m_X2_drawOnce M x0 (lr_ (x4 * (16807 : Int64)) (2147483647 : Int64))).bind fun M7 =>
      (gR M7 x0 2 0).bind fun b8 =>
      if isO M7 b8 5 = true then
      (m_X5_passDay M7 b8).bind fun M11 =>
      m_X2_afterDraws_L15 k0 x0 x2 n M11 (lr_ (x4 * (16807 : Int64)) (2147483647 : Int64)) (x6 + (1 : Int32))
      else none
      else none
    )
theorem e_X2_afterDraws_L15 {X : xX} {Z : zZ} {cn sn : Nat} {ρ : Type} {r : ρ} {k0 : mM → Option ρ} (G : ok_ X Z yX2_afterDraws cX2_afterDraws 7 5 0 0) (hcn : cn ≤ 0) (hsn : sn ≤ 0) (x0 : Nat) (x2 : Int32)
    (hx0 : ∀ (N : mM), k0 N = some r → V X Z N cn sn 52 [some (.ref x0), none, none, none, none, none, none] []) :
    ∀ (n : Nat) (M : mM) (x4 : Int64) (x6 : Int32), m_X2_afterDraws_L15 k0 x0 x2 n M x4 x6 = some r → V X Z M cn sn 15 [some (.ref x0), none, some (.int x2), none, some (.long x4), none, some (.int x6)] [] := by
  intro n
  induction n with
  | zero => intro M x4 x6 h; rw [m_X2_afterDraws_L15] at h; cases h
  | succ n ih =>
    intro M x4 x6 h
    rw [m_X2_afterDraws_L15] at h
    refine v_iload G dX2_afterDraws_15 rfl ?_
    refine v_iload_n G dX2_afterDraws_17 rfl ?_
    refine v_ic_ge 52 G dX2_afterDraws_18 (by decide) (fun q5 => ?_) (fun q5 => ?_)
    · rw [if_pos q5] at h
      exact v_mask [true, false, false, false, false, false, false] rfl (hx0 _ h)
    · rw [if_neg q5] at h
      refine v_lload G dX2_afterDraws_21 rfl ?_
      refine v_ldc2 G (16807 : Int64) dX2_afterDraws_23 w769 ?_
      refine v_lmul G dX2_afterDraws_26 ?_
      refine v_ldc2 G (2147483647 : Int64) dX2_afterDraws_27 w770 ?_
      refine v_lrem G dX2_afterDraws_30 (by decide) ?_
      refine v_lstore [some (.ref x0), none, some (.int x2), none, some (.long (lr_ (x4 * (16807 : Int64)) (2147483647 : Int64))), none, some (.int x6)] G dX2_afterDraws_31 (Nat.le_of_ble_eq_true rfl) rfl rfl ?_
      refine v_aload_n G dX2_afterDraws_33 rfl ?_
      refine v_lload G dX2_afterDraws_34 rfl ?_
      obtain ⟨q13, h⟩ := if_s h
      obtain ⟨M7, q6, h⟩ := bi_ h
      refine v_callV0 (e_X2_drawOnce q6) G cl2 my_X2_drawOnce rfl w773 w22 w771 dX2_afterDraws_36 q13 rfl (Nat.le_of_ble_eq_true rfl) rfl (Nat.le_of_ble_eq_true rfl) hcn hsn ?_
      refine v_aload_n G dX2_afterDraws_39 rfl ?_
      obtain ⟨b8, q9, h⟩ := bi_ h
      refine v_getR (f := 0) G cl2 dX2_afterDraws_40 w211 (by decide) (by decide) q9 ?_
      obtain ⟨q12, h⟩ := if_s h
      obtain ⟨M11, q10, h⟩ := bi_ h
      refine v_callV0 (e_X5_passDay q10) G cl5 my_X5_passDay rfl w454 w455 w580 dX2_afterDraws_43 q12 rfl (Nat.le_of_ble_eq_true rfl) rfl (Nat.le_of_ble_eq_true rfl) hcn hsn ?_
      refine v_iinc (x6 + (1 : Int32)) [some (.ref x0), none, some (.int x2), none, some (.long (lr_ (x4 * (16807 : Int64)) (2147483647 : Int64))), none, some (.int (x6 + (1 : Int32)))] G dX2_afterDraws_46 rfl rfl (Nat.le_of_ble_eq_true rfl) rfl rfl ?_
      refine v_goto 15 G dX2_afterDraws_49 (by decide) ?_
      exact v_mask [true, false, true, false, true, false, true] rfl (ih _ _ _ h)
def m_X2_afterDraws (M : mM) (x0 : Nat) (x1 : Nat) (x2 : Int32) (x3 : Int32) : Option (mM × Nat) :=
  (gR M x0 2 0).bind fun b1 =>
  if isO M b1 5 = true then
  (m_X5_become M b1 x1).bind fun M4 =>
  m_X2_afterDraws_L15
    (fun M14 =>
      (gR M14 x0 2 0).bind fun b15 =>
      some (M14, b15))
    x0 x2 FU M4 (Int32.toInt64 x3) (0 : Int32)
  else none
theorem e_X2_afterDraws {Z : zZ} {M : mM} {N : mM} {x0 : Nat} {x1 : Nat} {x2 : Int32} {x3 : Int32} {r : Nat} (h : m_X2_afterDraws M x0 x1 x2 x3 = some (N, r)) : EM Z yX2_afterDraws cX2_afterDraws 7 (some (.object "SnakeRoll$School")) 5 0 0 [.ref x0, .ref x1, .int x2, .int x3] M N (some (.ref r)) := by
  refine EM_of my_X2_afterDraws (Nat.le_of_ble_eq_true rfl) (fun X G F => ?_)
  show V X Z M 0 0 0 [some (.ref x0), some (.ref x1), some (.int x2), some (.int x3), none, none, none] []
  unfold m_X2_afterDraws at h
  refine v_aload_n G dX2_afterDraws_0 rfl ?_
  obtain ⟨b1, q2, h⟩ := bi_ h
  refine v_getR (f := 0) G cl2 dX2_afterDraws_1 w211 (by decide) (by decide) q2 ?_
  refine v_aload_n G dX2_afterDraws_4 rfl ?_
  obtain ⟨q17, h⟩ := if_s h
  obtain ⟨M4, q3, h⟩ := bi_ h
  refine v_callV0 (e_X5_become q3) G cl5 my_X5_become rfl w423 w424 w579 dX2_afterDraws_5 q17 rfl (Nat.le_of_ble_eq_true rfl) rfl (Nat.le_of_ble_eq_true rfl) (Nat.zero_le _) (Nat.zero_le _) ?_
  refine v_iload_n G dX2_afterDraws_8 rfl ?_
  refine v_i2l G dX2_afterDraws_9 ?_
  refine v_lstore [some (.ref x0), some (.ref x1), some (.int x2), some (.int x3), some (.long (Int32.toInt64 x3)), none, none] G dX2_afterDraws_10 (Nat.le_of_ble_eq_true rfl) rfl rfl ?_
  refine v_iconst G (0 : Int32) dX2_afterDraws_12 (by decide) ?_
  refine v_istore [some (.ref x0), some (.ref x1), some (.int x2), some (.int x3), some (.long (Int32.toInt64 x3)), none, some (.int (0 : Int32))] G dX2_afterDraws_13 (Nat.le_of_ble_eq_true rfl) rfl rfl ?_
  refine v_mask [true, false, true, false, true, false, true] rfl ?_
  refine e_X2_afterDraws_L15 G (Nat.zero_le _) (Nat.zero_le _) _ _ (fun M14 h => ?_) FU _ _ _ h
  refine v_aload_n G dX2_afterDraws_52 rfl ?_
  obtain ⟨b15, q16, h⟩ := bi_ h
  refine v_getR (f := 0) G cl2 dX2_afterDraws_53 w211 (by decide) (by decide) q16 ?_
  cases h
  exact v_aret G F dX2_afterDraws_56 rfl (Nat.le_refl _)
/-! X3_init -/
def m_X3_init (M : mM) (x0 : Nat) : Option mM :=
  nw_b M (1, 120) fun M1 =>
  (pR M1 x0 3 0 (mz M)).bind fun M2 =>
  nw_b M2 (0, 5) fun M4 =>
  (m_X5_init M4 (mz M2)).bind fun M6 =>
  (pR M6 x0 3 1 (mz M2)).bind fun M7 =>
  some M7
theorem e_X3_init {Z : zZ} {M : mM} {N : mM} {x0 : Nat} (h : m_X3_init M x0 = some N) : EM Z yX3_init cX3_init 1 none 2 8 199 [.ref x0] M N none := by
  refine EM_of my_X3_init (Nat.le_of_ble_eq_true rfl) (fun X G F => ?_)
  show V X Z M 0 0 0 [some (.ref x0)] []
  unfold m_X3_init at h
  refine v_aload_n G dX3_init_0 rfl ?_
  refine v_obj G w171 w75 w76 dX3_init_1 (Nat.le_of_ble_eq_true rfl) rfl (by decide) ?_
  refine v_aload_n G dX3_init_4 rfl ?_
  refine v_bipush G (120 : Int32) dX3_init_5 (by decide) ?_
  obtain ⟨M1, eM1, h⟩ := nb_ h
  refine v_newI (n' := 120) G dX3_init_7 w145 (by decide) (by decide) (by decide) (Nat.le_of_ble_eq_true rfl) (Nat.le_of_ble_eq_true rfl) ?_
  rw [← eM1]
  obtain ⟨M2, q3, h⟩ := bi_ h
  refine v_putF (f := 0) G cl3 dX3_init_9 w174 (by decide) (by decide) (by decide) rfl rfl (fun _ => rfl) (fun _ => rfl) q3 ?_
  refine v_aload_n G dX3_init_12 rfl ?_
  obtain ⟨M4, eM4, h⟩ := nb_ h
  refine v_new G cl5 dX3_init_13 w172 (Nat.le_of_ble_eq_true rfl) (Nat.le_of_ble_eq_true rfl) ?_
  rw [← eM4]
  refine v_dup G dX3_init_16 rfl ?_
  obtain ⟨M6, q5, h⟩ := bi_ h
  refine v_callIN (e_X5_init q5) G my_X5_init rfl w82 n173 dX3_init_17 rfl (Nat.le_of_ble_eq_true rfl) rfl (Nat.le_of_ble_eq_true rfl) (Nat.le_of_ble_eq_true rfl) (Nat.le_of_ble_eq_true rfl) ?_
  obtain ⟨M7, q8, h⟩ := bi_ h
  refine v_putF (f := 1) G cl3 dX3_init_20 w175 (by decide) (by decide) (by decide) rfl rfl (fun _ => rfl) (fun _ => rfl) q8 ?_
  cases h
  exact v_vret G F dX3_init_23 rfl (Nat.le_of_ble_eq_true rfl)
