/-! X5_learnAsSnake -/
def m_X5_learnAsSnake (M : mM) (x0 : Nat) (x1 : Int32) (x2 : Int32) : Option mM :=
  if isO M x0 5 = true then
  (m_X5_timesHeard M x0 x1 x2).bind fun v2 =>
  (gR M x0 5 5).bind fun b3 =>
  (ldI M b3 x2).bind fun v6 =>
  (m_J6_bitCount_0f7a4 M v6).bind fun v8 =>
  if v2 < v8 then (
    (gR M x0 5 7).bind fun b10 =>
    (ldI M b10 x1).bind fun v13 =>
    if v13 = (5 : Int32) then (
      if isO M x0 5 = true then
      (m_X5_form M x0 x1).bind fun v16 =>
      if v16 ≤ (4 : Int32) then (
        some M
      ) else (
        (gR M x0 5 8).bind fun b18 =>
        (ldI M b18 x1).bind fun v21 =>
        (gR M x0 5 8).bind fun b22 =>
        (ldI M b22 x1).bind fun v25 =>
        (stI M b18 x1 (v21 &&& (v25 - (1 : Int32)))).bind fun M26 =>
        some M26
      )
      else none
    ) else (
      some M
    )
  ) else (
    (gR M x0 5 8).bind fun b29 =>
    (ldI M b29 x1).bind fun v32 =>
    (stI M b29 x1 (v32 ||| ((1 : Int32) <<< (x2 &&& 31)))).bind fun M33 =>
    (gR M33 x0 5 7).bind fun b35 =>
    (ldI M33 b35 x1).bind fun v38 =>
    if v38 = (5 : Int32) then (
      if isO M33 x0 5 = true then
      (m_X5_form M33 x0 x1).bind fun v41 =>
      if v41 ≤ (4 : Int32) then (
        some M33
      ) else (
        (gR M33 x0 5 8).bind fun b43 =>
        (ldI M33 b43 x1).bind fun v46 =>
        (gR M33 x0 5 8).bind fun b47 =>
        (ldI M33 b47 x1).bind fun v50 =>
        (stI M33 b43 x1 (v46 &&& (v50 - (1 : Int32)))).bind fun M51 =>
        some M51
      )
      else none
    ) else (
      some M33
    )
  )
  else none
theorem e_X5_learnAsSnake {Z : zZ} {M : mM} {N : mM} {x0 : Nat} {x1 : Int32} {x2 : Int32} (h : m_X5_learnAsSnake M x0 x1 x2 = some N) : EM Z yX5_learnAsSnake cX5_learnAsSnake 3 none 2 0 0 [.ref x0, .int x1, .int x2] M N none := by
  refine EM_of my_X5_learnAsSnake (Nat.le_of_ble_eq_true rfl) (fun X G F => ?_)
  show V X Z M 0 0 0 [some (.ref x0), some (.int x1), some (.int x2)] []
  unfold m_X5_learnAsSnake at h
  refine v_aload_n G dX5_learnAsSnake_0 rfl ?_
  refine v_iload_n G dX5_learnAsSnake_1 rfl ?_
  refine v_iload_n G dX5_learnAsSnake_2 rfl ?_
  obtain ⟨q54, h⟩ := if_s h
  obtain ⟨v2, q1, h⟩ := bi_ h
  refine v_callV0 (e_X5_timesHeard q1) G cl5 my_X5_timesHeard rfl w489 w490 w488 dX5_learnAsSnake_3 q54 rfl (Nat.le_of_ble_eq_true rfl) rfl (Nat.le_of_ble_eq_true rfl) (Nat.zero_le _) (Nat.zero_le _) ?_
  refine v_aload_n G dX5_learnAsSnake_6 rfl ?_
  obtain ⟨b3, q4, h⟩ := bi_ h
  refine v_getR (f := 5) G cl5 dX5_learnAsSnake_7 w103 (by decide) (by decide) q4 ?_
  refine v_iload_n G dX5_learnAsSnake_10 rfl ?_
  obtain ⟨v6, q5, h⟩ := bi_ h
  refine v_iald G dX5_learnAsSnake_11 q5 ?_
  obtain ⟨v8, q7, h⟩ := bi_ h
  refine v_callS0 (e_J6_bitCount_0f7a4 q7) G my_J6_bitCount_0f7a4 w493 w492 dX5_learnAsSnake_12 rfl (Nat.le_of_ble_eq_true rfl) rfl (Nat.le_of_ble_eq_true rfl) (Nat.zero_le _) (Nat.zero_le _) ?_
  refine v_ic_lt 30 G dX5_learnAsSnake_15 (by decide) (fun q9 => ?_) (fun q9 => ?_)
  · rw [if_pos q9] at h
    refine v_aload_n G dX5_learnAsSnake_30 rfl ?_
    obtain ⟨b10, q11, h⟩ := bi_ h
    refine v_getR (f := 7) G cl5 dX5_learnAsSnake_31 w110 (by decide) (by decide) q11 ?_
    refine v_iload_n G dX5_learnAsSnake_34 rfl ?_
    obtain ⟨v13, q12, h⟩ := bi_ h
    refine v_iald G dX5_learnAsSnake_35 q12 ?_
    refine v_iconst G (5 : Int32) dX5_learnAsSnake_36 (by decide) ?_
    refine v_ic_ne 66 G dX5_learnAsSnake_37 (by decide) (fun q14 => ?_) (fun q14 => ?_)
    · rw [if_neg q14] at h
      cases h
      exact v_vret G F dX5_learnAsSnake_66 rfl (Nat.le_refl _)
    · rw [if_pos q14] at h
      refine v_aload_n G dX5_learnAsSnake_40 rfl ?_
      refine v_iload_n G dX5_learnAsSnake_41 rfl ?_
      obtain ⟨q28, h⟩ := if_s h
      obtain ⟨v16, q15, h⟩ := bi_ h
      refine v_callV0 (e_X5_form q15) G cl5 my_X5_form rfl w499 w500 w498 dX5_learnAsSnake_42 q28 rfl (Nat.le_of_ble_eq_true rfl) rfl (Nat.le_of_ble_eq_true rfl) (Nat.zero_le _) (Nat.zero_le _) ?_
      refine v_iconst G (4 : Int32) dX5_learnAsSnake_45 (by decide) ?_
      refine v_ic_le 66 G dX5_learnAsSnake_46 (by decide) (fun q17 => ?_) (fun q17 => ?_)
      · rw [if_pos q17] at h
        cases h
        exact v_vret G F dX5_learnAsSnake_66 rfl (Nat.le_refl _)
      · rw [if_neg q17] at h
        refine v_aload_n G dX5_learnAsSnake_49 rfl ?_
        obtain ⟨b18, q19, h⟩ := bi_ h
        refine v_getR (f := 8) G cl5 dX5_learnAsSnake_50 w115 (by decide) (by decide) q19 ?_
        refine v_iload_n G dX5_learnAsSnake_53 rfl ?_
        refine v_dup2 G dX5_learnAsSnake_54 rfl rfl ?_
        obtain ⟨v21, q20, h⟩ := bi_ h
        refine v_iald G dX5_learnAsSnake_55 q20 ?_
        refine v_aload_n G dX5_learnAsSnake_56 rfl ?_
        obtain ⟨b22, q23, h⟩ := bi_ h
        refine v_getR (f := 8) G cl5 dX5_learnAsSnake_57 w115 (by decide) (by decide) q23 ?_
        refine v_iload_n G dX5_learnAsSnake_60 rfl ?_
        obtain ⟨v25, q24, h⟩ := bi_ h
        refine v_iald G dX5_learnAsSnake_61 q24 ?_
        refine v_iconst G (1 : Int32) dX5_learnAsSnake_62 (by decide) ?_
        refine v_isub G dX5_learnAsSnake_63 ?_
        refine v_iand G dX5_learnAsSnake_64 ?_
        obtain ⟨M26, q27, h⟩ := bi_ h
        refine v_iast G dX5_learnAsSnake_65 q27 ?_
        cases h
        exact v_vret G F dX5_learnAsSnake_66 rfl (Nat.le_refl _)
  · rw [if_neg q9] at h
    refine v_aload_n G dX5_learnAsSnake_18 rfl ?_
    obtain ⟨b29, q30, h⟩ := bi_ h
    refine v_getR (f := 8) G cl5 dX5_learnAsSnake_19 w115 (by decide) (by decide) q30 ?_
    refine v_iload_n G dX5_learnAsSnake_22 rfl ?_
    refine v_dup2 G dX5_learnAsSnake_23 rfl rfl ?_
    obtain ⟨v32, q31, h⟩ := bi_ h
    refine v_iald G dX5_learnAsSnake_24 q31 ?_
    refine v_iconst G (1 : Int32) dX5_learnAsSnake_25 (by decide) ?_
    refine v_iload_n G dX5_learnAsSnake_26 rfl ?_
    refine v_ishl G dX5_learnAsSnake_27 ?_
    refine v_ior G dX5_learnAsSnake_28 ?_
    obtain ⟨M33, q34, h⟩ := bi_ h
    refine v_iast G dX5_learnAsSnake_29 q34 ?_
    refine v_aload_n G dX5_learnAsSnake_30 rfl ?_
    obtain ⟨b35, q36, h⟩ := bi_ h
    refine v_getR (f := 7) G cl5 dX5_learnAsSnake_31 w110 (by decide) (by decide) q36 ?_
    refine v_iload_n G dX5_learnAsSnake_34 rfl ?_
    obtain ⟨v38, q37, h⟩ := bi_ h
    refine v_iald G dX5_learnAsSnake_35 q37 ?_
    refine v_iconst G (5 : Int32) dX5_learnAsSnake_36 (by decide) ?_
    refine v_ic_ne 66 G dX5_learnAsSnake_37 (by decide) (fun q39 => ?_) (fun q39 => ?_)
    · rw [if_neg q39] at h
      cases h
      exact v_vret G F dX5_learnAsSnake_66 rfl (Nat.le_refl _)
    · rw [if_pos q39] at h
      refine v_aload_n G dX5_learnAsSnake_40 rfl ?_
      refine v_iload_n G dX5_learnAsSnake_41 rfl ?_
      obtain ⟨q53, h⟩ := if_s h
      obtain ⟨v41, q40, h⟩ := bi_ h
      refine v_callV0 (e_X5_form q40) G cl5 my_X5_form rfl w499 w500 w498 dX5_learnAsSnake_42 q53 rfl (Nat.le_of_ble_eq_true rfl) rfl (Nat.le_of_ble_eq_true rfl) (Nat.zero_le _) (Nat.zero_le _) ?_
      refine v_iconst G (4 : Int32) dX5_learnAsSnake_45 (by decide) ?_
      refine v_ic_le 66 G dX5_learnAsSnake_46 (by decide) (fun q42 => ?_) (fun q42 => ?_)
      · rw [if_pos q42] at h
        cases h
        exact v_vret G F dX5_learnAsSnake_66 rfl (Nat.le_refl _)
      · rw [if_neg q42] at h
        refine v_aload_n G dX5_learnAsSnake_49 rfl ?_
        obtain ⟨b43, q44, h⟩ := bi_ h
        refine v_getR (f := 8) G cl5 dX5_learnAsSnake_50 w115 (by decide) (by decide) q44 ?_
        refine v_iload_n G dX5_learnAsSnake_53 rfl ?_
        refine v_dup2 G dX5_learnAsSnake_54 rfl rfl ?_
        obtain ⟨v46, q45, h⟩ := bi_ h
        refine v_iald G dX5_learnAsSnake_55 q45 ?_
        refine v_aload_n G dX5_learnAsSnake_56 rfl ?_
        obtain ⟨b47, q48, h⟩ := bi_ h
        refine v_getR (f := 8) G cl5 dX5_learnAsSnake_57 w115 (by decide) (by decide) q48 ?_
        refine v_iload_n G dX5_learnAsSnake_60 rfl ?_
        obtain ⟨v50, q49, h⟩ := bi_ h
        refine v_iald G dX5_learnAsSnake_61 q49 ?_
        refine v_iconst G (1 : Int32) dX5_learnAsSnake_62 (by decide) ?_
        refine v_isub G dX5_learnAsSnake_63 ?_
        refine v_iand G dX5_learnAsSnake_64 ?_
        obtain ⟨M51, q52, h⟩ := bi_ h
        refine v_iast G dX5_learnAsSnake_65 q52 ?_
        cases h
        exact v_vret G F dX5_learnAsSnake_66 rfl (Nat.le_refl _)
/-! X5_learnByGrasp -/
def m_X5_learnByGrasp (M : mM) (x0 : Nat) (x1 : Int32) (x2 : Int32) : Option mM :=
  (gR M x0 5 5).bind fun b1 =>
  (ldI M b1 x2).bind fun v4 =>
  (gR M x0 5 8).bind fun b5 =>
  (ldI M b5 x1).bind fun v8 =>
  if (v4 &&& (v8 ^^^ (-1 : Int32))) = (0 : Int32) then (
    (gR M x0 5 8).bind fun b10 =>
    (ldI M b10 x1).bind fun v13 =>
    (stI M b10 x1 (v13 ||| ((1 : Int32) <<< (x2 &&& 31)))).bind fun M14 =>
    some M14
  ) else (
    some M
  )
theorem e_X5_learnByGrasp {Z : zZ} {M : mM} {N : mM} {x0 : Nat} {x1 : Int32} {x2 : Int32} (h : m_X5_learnByGrasp M x0 x1 x2 = some N) : EM Z yX5_learnByGrasp cX5_learnByGrasp 3 none 0 0 0 [.ref x0, .int x1, .int x2] M N none := by
  refine EM_of my_X5_learnByGrasp (Nat.le_of_ble_eq_true rfl) (fun X G F => ?_)
  show V X Z M 0 0 0 [some (.ref x0), some (.int x1), some (.int x2)] []
  unfold m_X5_learnByGrasp at h
  refine v_aload_n G dX5_learnByGrasp_0 rfl ?_
  obtain ⟨b1, q2, h⟩ := bi_ h
  refine v_getR (f := 5) G cl5 dX5_learnByGrasp_1 w103 (by decide) (by decide) q2 ?_
  refine v_iload_n G dX5_learnByGrasp_4 rfl ?_
  obtain ⟨v4, q3, h⟩ := bi_ h
  refine v_iald G dX5_learnByGrasp_5 q3 ?_
  refine v_aload_n G dX5_learnByGrasp_6 rfl ?_
  obtain ⟨b5, q6, h⟩ := bi_ h
  refine v_getR (f := 8) G cl5 dX5_learnByGrasp_7 w115 (by decide) (by decide) q6 ?_
  refine v_iload_n G dX5_learnByGrasp_10 rfl ?_
  obtain ⟨v8, q7, h⟩ := bi_ h
  refine v_iald G dX5_learnByGrasp_11 q7 ?_
  refine v_iconst G (-1 : Int32) dX5_learnByGrasp_12 (by decide) ?_
  refine v_ixor G dX5_learnByGrasp_13 ?_
  refine v_iand G dX5_learnByGrasp_14 ?_
  refine v_if_ne 30 G dX5_learnByGrasp_15 (by decide) (fun q9 => ?_) (fun q9 => ?_)
  · rw [if_neg q9] at h
    cases h
    exact v_vret G F dX5_learnByGrasp_30 rfl (Nat.le_refl _)
  · rw [if_pos q9] at h
    refine v_aload_n G dX5_learnByGrasp_18 rfl ?_
    obtain ⟨b10, q11, h⟩ := bi_ h
    refine v_getR (f := 8) G cl5 dX5_learnByGrasp_19 w115 (by decide) (by decide) q11 ?_
    refine v_iload_n G dX5_learnByGrasp_22 rfl ?_
    refine v_dup2 G dX5_learnByGrasp_23 rfl rfl ?_
    obtain ⟨v13, q12, h⟩ := bi_ h
    refine v_iald G dX5_learnByGrasp_24 q12 ?_
    refine v_iconst G (1 : Int32) dX5_learnByGrasp_25 (by decide) ?_
    refine v_iload_n G dX5_learnByGrasp_26 rfl ?_
    refine v_ishl G dX5_learnByGrasp_27 ?_
    refine v_ior G dX5_learnByGrasp_28 ?_
    obtain ⟨M14, q15, h⟩ := bi_ h
    refine v_iast G dX5_learnByGrasp_29 q15 ?_
    cases h
    exact v_vret G F dX5_learnByGrasp_30 rfl (Nat.le_refl _)
/-! X5_learnOnwards -/
def m_X5_learnOnwards_L4 {ρ : Type} (k0 : mM → Option ρ) (x0 : Nat) (x1 : Int32) : Nat → mM → Int32 → Option ρ
  | 0, _, _ => none
  | n + 1, M, x3 =>
    (gI M x0 5 1).bind fun v1 =>
    if v1 ≤ x3 then (
      k0 M
    ) else (
      (gR M x0 5 5).bind fun b4 =>
      (ldI M b4 x3).bind fun v7 =>
      if v7 = (0 : Int32) then (
        m_X5_learnOnwards_L4 k0 x0 x1 n M (x3 + (1 : Int32))
      ) else (
        if isO M x0 5 = true then
        (m_X5_learnByGrasp M x0 x1 x3).bind fun M10 =>
        m_X5_learnOnwards_L4 k0 x0 x1 n M10 (x3 + (1 : Int32))
        else none
      )
    )
theorem e_X5_learnOnwards_L4 {X : xX} {Z : zZ} {cn sn : Nat} {ρ : Type} {r : ρ} {k0 : mM → Option ρ} (G : ok_ X Z yX5_learnOnwards cX5_learnOnwards 4 1 0 0) (hcn : cn ≤ 0) (hsn : sn ≤ 0) (x0 : Nat) (x1 : Int32)
    (hx0 : ∀ (N : mM), k0 N = some r → V X Z N cn sn 33 [none, none, none, none] []) :
    ∀ (n : Nat) (M : mM) (x3 : Int32), m_X5_learnOnwards_L4 k0 x0 x1 n M x3 = some r → V X Z M cn sn 4 [some (.ref x0), some (.int x1), none, some (.int x3)] [] := by
  intro n
  induction n with
  | zero => intro M x3 h; rw [m_X5_learnOnwards_L4] at h; cases h
  | succ n ih =>
    intro M x3 h
    rw [m_X5_learnOnwards_L4] at h
    refine v_iload_n G dX5_learnOnwards_4 rfl ?_
    refine v_aload_n G dX5_learnOnwards_5 rfl ?_
    obtain ⟨v1, q2, h⟩ := bi_ h
    refine v_getI (f := 1) G cl5 dX5_learnOnwards_6 w88 (by decide) (by decide) q2 ?_
    refine v_ic_ge 33 G dX5_learnOnwards_9 (by decide) (fun q3 => ?_) (fun q3 => ?_)
    · rw [if_pos q3] at h
      exact v_mask [false, false, false, false] rfl (hx0 _ h)
    · rw [if_neg q3] at h
      refine v_aload_n G dX5_learnOnwards_12 rfl ?_
      obtain ⟨b4, q5, h⟩ := bi_ h
      refine v_getR (f := 5) G cl5 dX5_learnOnwards_13 w103 (by decide) (by decide) q5 ?_
      refine v_iload_n G dX5_learnOnwards_16 rfl ?_
      obtain ⟨v7, q6, h⟩ := bi_ h
      refine v_iald G dX5_learnOnwards_17 q6 ?_
      refine v_if_eq 27 G dX5_learnOnwards_18 (by decide) (fun q8 => ?_) (fun q8 => ?_)
      · rw [if_pos q8] at h
        refine v_iinc (x3 + (1 : Int32)) [some (.ref x0), some (.int x1), none, some (.int (x3 + (1 : Int32)))] G dX5_learnOnwards_27 rfl rfl (Nat.le_of_ble_eq_true rfl) rfl rfl ?_
        refine v_goto 4 G dX5_learnOnwards_30 (by decide) ?_
        exact v_mask [true, true, false, true] rfl (ih _ _ h)
      · rw [if_neg q8] at h
        refine v_aload_n G dX5_learnOnwards_21 rfl ?_
        refine v_iload_n G dX5_learnOnwards_22 rfl ?_
        refine v_iload_n G dX5_learnOnwards_23 rfl ?_
        obtain ⟨q11, h⟩ := if_s h
        obtain ⟨M10, q9, h⟩ := bi_ h
        refine v_callV0 (e_X5_learnByGrasp q9) G cl5 my_X5_learnByGrasp rfl w478 w10 w476 dX5_learnOnwards_24 q11 rfl (Nat.le_of_ble_eq_true rfl) rfl (Nat.le_of_ble_eq_true rfl) hcn hsn ?_
        refine v_iinc (x3 + (1 : Int32)) [some (.ref x0), some (.int x1), none, some (.int (x3 + (1 : Int32)))] G dX5_learnOnwards_27 rfl rfl (Nat.le_of_ble_eq_true rfl) rfl rfl ?_
        refine v_goto 4 G dX5_learnOnwards_30 (by decide) ?_
        exact v_mask [true, true, false, true] rfl (ih _ _ h)
def m_X5_learnOnwards (M : mM) (x0 : Nat) (x1 : Int32) (x2 : Int32) : Option mM :=
  m_X5_learnOnwards_L4
    (fun M12 =>
      some M12)
    x0 x1 FU M (x2 + (1 : Int32))
theorem e_X5_learnOnwards {Z : zZ} {M : mM} {N : mM} {x0 : Nat} {x1 : Int32} {x2 : Int32} (h : m_X5_learnOnwards M x0 x1 x2 = some N) : EM Z yX5_learnOnwards cX5_learnOnwards 4 none 1 0 0 [.ref x0, .int x1, .int x2] M N none := by
  refine EM_of my_X5_learnOnwards (Nat.le_of_ble_eq_true rfl) (fun X G F => ?_)
  show V X Z M 0 0 0 [some (.ref x0), some (.int x1), some (.int x2), none] []
  unfold m_X5_learnOnwards at h
  refine v_iload_n G dX5_learnOnwards_0 rfl ?_
  refine v_iconst G (1 : Int32) dX5_learnOnwards_1 (by decide) ?_
  refine v_iadd G dX5_learnOnwards_2 ?_
  refine v_istore_n [some (.ref x0), some (.int x1), some (.int x2), some (.int (x2 + (1 : Int32)))] G dX5_learnOnwards_3 (Nat.le_of_ble_eq_true rfl) rfl rfl ?_
  refine v_mask [true, true, false, true] rfl ?_
  refine e_X5_learnOnwards_L4 G (Nat.zero_le _) (Nat.zero_le _) _ _ (fun M12 h => ?_) FU _ _ h
  cases h
  exact v_vret G F dX5_learnOnwards_33 rfl (Nat.le_refl _)
/-! X5_hearLesson -/
def m_X5_hearLesson (M : mM) (x0 : Nat) (x1 : Int32) (x2 : Int32) : Option mM :=
  (gR M x0 5 10).bind fun b1 =>
  (ldI M b1 ((x1 * (6 : Int32)) + x2)).bind fun v4 =>
  if (99 : Int32) ≤ v4 then (
    (gR M x0 5 7).bind fun b6 =>
    (ldI M b6 x1).bind fun v9 =>
    if v9 = (1 : Int32) then (
      if isO M x0 5 = true then
      (m_X5_learnByGrasp M x0 x1 x2).bind fun M12 =>
      some M12
      else none
    ) else
    if v9 = (2 : Int32) then (
      if isO M x0 5 = true then
      (m_X5_learnByGrasp M x0 x1 x2).bind fun M16 =>
      if isO M16 x0 5 = true then
      (m_X5_learnOnwards M16 x0 x1 x2).bind fun M18 =>
      some M18
      else none
      else none
    ) else
    if v9 = (3 : Int32) then (
      (gR M x0 5 10).bind fun b22 =>
      (ldI M b22 ((x1 * (6 : Int32)) + x2)).bind fun v25 =>
      if v25 < (2 : Int32) then (
        some M
      ) else (
        if isO M x0 5 = true then
        (m_X5_learnByGrasp M x0 x1 x2).bind fun M28 =>
        some M28
        else none
      )
    ) else
    (
      if isO M x0 5 = true then
      (m_X5_learnAsSnake M x0 x1 x2).bind fun M31 =>
      some M31
      else none
    )
  ) else (
    (gR M x0 5 10).bind fun b33 =>
    (ldI M b33 ((x1 * (6 : Int32)) + x2)).bind fun v36 =>
    (stI M b33 ((x1 * (6 : Int32)) + x2) (v36 + (1 : Int32))).bind fun M37 =>
    (gR M37 x0 5 7).bind fun b39 =>
    (ldI M37 b39 x1).bind fun v42 =>
    if v42 = (1 : Int32) then (
      if isO M37 x0 5 = true then
      (m_X5_learnByGrasp M37 x0 x1 x2).bind fun M45 =>
      some M45
      else none
    ) else
    if v42 = (2 : Int32) then (
      if isO M37 x0 5 = true then
      (m_X5_learnByGrasp M37 x0 x1 x2).bind fun M49 =>
      if isO M49 x0 5 = true then
      (m_X5_learnOnwards M49 x0 x1 x2).bind fun M51 =>
      some M51
      else none
      else none
    ) else
    if v42 = (3 : Int32) then (
      (gR M37 x0 5 10).bind fun b55 =>
      (ldI M37 b55 ((x1 * (6 : Int32)) + x2)).bind fun v58 =>
      if v58 < (2 : Int32) then (
        some M37
      ) else (
        if isO M37 x0 5 = true then
        (m_X5_learnByGrasp M37 x0 x1 x2).bind fun M61 =>
        some M61
        else none
      )
    ) else
    (
      if isO M37 x0 5 = true then
      (m_X5_learnAsSnake M37 x0 x1 x2).bind fun M64 =>
      some M64
      else none
    )
  )
theorem e_X5_hearLesson {Z : zZ} {M : mM} {N : mM} {x0 : Nat} {x1 : Int32} {x2 : Int32} (h : m_X5_hearLesson M x0 x1 x2 = some N) : EM Z yX5_hearLesson cX5_hearLesson 4 none 3 0 0 [.ref x0, .int x1, .int x2] M N none := by
  refine EM_of my_X5_hearLesson (Nat.le_of_ble_eq_true rfl) (fun X G F => ?_)
  show V X Z M 0 0 0 [some (.ref x0), some (.int x1), some (.int x2), none] []
  unfold m_X5_hearLesson at h
  refine v_iload_n G dX5_hearLesson_0 rfl ?_
  refine v_bipush G (6 : Int32) dX5_hearLesson_1 (by decide) ?_
  refine v_imul G dX5_hearLesson_3 ?_
  refine v_iload_n G dX5_hearLesson_4 rfl ?_
  refine v_iadd G dX5_hearLesson_5 ?_
  refine v_istore_n [some (.ref x0), some (.int x1), some (.int x2), some (.int ((x1 * (6 : Int32)) + x2))] G dX5_hearLesson_6 (Nat.le_of_ble_eq_true rfl) rfl rfl ?_
  refine v_aload_n G dX5_hearLesson_7 rfl ?_
  obtain ⟨b1, q2, h⟩ := bi_ h
  refine v_getR (f := 10) G cl5 dX5_hearLesson_8 w121 (by decide) (by decide) q2 ?_
  refine v_iload_n G dX5_hearLesson_11 rfl ?_
  obtain ⟨v4, q3, h⟩ := bi_ h
  refine v_iald G dX5_hearLesson_12 q3 ?_
  refine v_bipush G (99 : Int32) dX5_hearLesson_13 (by decide) ?_
  refine v_ic_ge 28 G dX5_hearLesson_15 (by decide) (fun q5 => ?_) (fun q5 => ?_)
  · rw [if_pos q5] at h
    refine v_aload_n G dX5_hearLesson_28 rfl ?_
    obtain ⟨b6, q7, h⟩ := bi_ h
    refine v_getR (f := 7) G cl5 dX5_hearLesson_29 w110 (by decide) (by decide) q7 ?_
    refine v_iload_n G dX5_hearLesson_32 rfl ?_
    obtain ⟨v9, q8, h⟩ := bi_ h
    refine v_iald G dX5_hearLesson_33 q8 ?_
    rcases Decidable.em (v9 = (1 : Int32)) with q10 | q10
    · rw [if_pos q10] at h
      refine v_tabI (off := 26) 60 G dX5_hearLesson_34 (by rw [q10]; decide) (by rw [q10]; decide) (by rw [q10]; rfl) (by decide) ?_
      refine v_aload_n G dX5_hearLesson_60 rfl ?_
      refine v_iload_n G dX5_hearLesson_61 rfl ?_
      refine v_iload_n G dX5_hearLesson_62 rfl ?_
      obtain ⟨q13, h⟩ := if_s h
      obtain ⟨M12, q11, h⟩ := bi_ h
      refine v_callV0 (e_X5_learnByGrasp q11) G cl5 my_X5_learnByGrasp rfl w478 w10 w476 dX5_hearLesson_63 q13 rfl (Nat.le_of_ble_eq_true rfl) rfl (Nat.le_of_ble_eq_true rfl) (Nat.zero_le _) (Nat.zero_le _) ?_
      refine v_goto 109 G dX5_hearLesson_66 (by decide) ?_
      cases h
      exact v_vret G F dX5_hearLesson_109 rfl (Nat.le_refl _)
    · rw [if_neg q10] at h
      rcases Decidable.em (v9 = (2 : Int32)) with q14 | q14
      · rw [if_pos q14] at h
        refine v_tabI (off := 35) 69 G dX5_hearLesson_34 (by rw [q14]; decide) (by rw [q14]; decide) (by rw [q14]; rfl) (by decide) ?_
        refine v_aload_n G dX5_hearLesson_69 rfl ?_
        refine v_iload_n G dX5_hearLesson_70 rfl ?_
        refine v_iload_n G dX5_hearLesson_71 rfl ?_
        obtain ⟨q20, h⟩ := if_s h
        obtain ⟨M16, q15, h⟩ := bi_ h
        refine v_callV0 (e_X5_learnByGrasp q15) G cl5 my_X5_learnByGrasp rfl w478 w10 w476 dX5_hearLesson_72 q20 rfl (Nat.le_of_ble_eq_true rfl) rfl (Nat.le_of_ble_eq_true rfl) (Nat.zero_le _) (Nat.zero_le _) ?_
        refine v_aload_n G dX5_hearLesson_75 rfl ?_
        refine v_iload_n G dX5_hearLesson_76 rfl ?_
        refine v_iload_n G dX5_hearLesson_77 rfl ?_
        obtain ⟨q19, h⟩ := if_s h
        obtain ⟨M18, q17, h⟩ := bi_ h
        refine v_callV0 (e_X5_learnOnwards q17) G cl5 my_X5_learnOnwards rfl w482 w11 w480 dX5_hearLesson_78 q19 rfl (Nat.le_of_ble_eq_true rfl) rfl (Nat.le_of_ble_eq_true rfl) (Nat.zero_le _) (Nat.zero_le _) ?_
        refine v_goto 109 G dX5_hearLesson_81 (by decide) ?_
        cases h
        exact v_vret G F dX5_hearLesson_109 rfl (Nat.le_refl _)
      · rw [if_neg q14] at h
        rcases Decidable.em (v9 = (3 : Int32)) with q21 | q21
        · rw [if_pos q21] at h
          refine v_tabI (off := 50) 84 G dX5_hearLesson_34 (by rw [q21]; decide) (by rw [q21]; decide) (by rw [q21]; rfl) (by decide) ?_
          refine v_aload_n G dX5_hearLesson_84 rfl ?_
          obtain ⟨b22, q23, h⟩ := bi_ h
          refine v_getR (f := 10) G cl5 dX5_hearLesson_85 w121 (by decide) (by decide) q23 ?_
          refine v_iload_n G dX5_hearLesson_88 rfl ?_
          obtain ⟨v25, q24, h⟩ := bi_ h
          refine v_iald G dX5_hearLesson_89 q24 ?_
          refine v_iconst G (2 : Int32) dX5_hearLesson_90 (by decide) ?_
          refine v_ic_lt 109 G dX5_hearLesson_91 (by decide) (fun q26 => ?_) (fun q26 => ?_)
          · rw [if_pos q26] at h
            cases h
            exact v_vret G F dX5_hearLesson_109 rfl (Nat.le_refl _)
          · rw [if_neg q26] at h
            refine v_aload_n G dX5_hearLesson_94 rfl ?_
            refine v_iload_n G dX5_hearLesson_95 rfl ?_
            refine v_iload_n G dX5_hearLesson_96 rfl ?_
            obtain ⟨q29, h⟩ := if_s h
            obtain ⟨M28, q27, h⟩ := bi_ h
            refine v_callV0 (e_X5_learnByGrasp q27) G cl5 my_X5_learnByGrasp rfl w478 w10 w476 dX5_hearLesson_97 q29 rfl (Nat.le_of_ble_eq_true rfl) rfl (Nat.le_of_ble_eq_true rfl) (Nat.zero_le _) (Nat.zero_le _) ?_
            refine v_goto 109 G dX5_hearLesson_100 (by decide) ?_
            cases h
            exact v_vret G F dX5_hearLesson_109 rfl (Nat.le_refl _)
        · rw [if_neg q21] at h
          have eq10 : (v9).toInt ≠ 1 := i32_ne q10
          have eq14 : (v9).toInt ≠ 2 := i32_ne q14
          have eq21 : (v9).toInt ≠ 3 := i32_ne q21
          refine v_tabO 103 G dX5_hearLesson_34 (by omega) (by decide) ?_
          refine v_aload_n G dX5_hearLesson_103 rfl ?_
          refine v_iload_n G dX5_hearLesson_104 rfl ?_
          refine v_iload_n G dX5_hearLesson_105 rfl ?_
          obtain ⟨q32, h⟩ := if_s h
          obtain ⟨M31, q30, h⟩ := bi_ h
          refine v_callV0 (e_X5_learnAsSnake q30) G cl5 my_X5_learnAsSnake rfl w486 w12 w484 dX5_hearLesson_106 q32 rfl (Nat.le_of_ble_eq_true rfl) rfl (Nat.le_of_ble_eq_true rfl) (Nat.zero_le _) (Nat.zero_le _) ?_
          cases h
          exact v_vret G F dX5_hearLesson_109 rfl (Nat.le_refl _)
  · rw [if_neg q5] at h
    refine v_aload_n G dX5_hearLesson_18 rfl ?_
    obtain ⟨b33, q34, h⟩ := bi_ h
    refine v_getR (f := 10) G cl5 dX5_hearLesson_19 w121 (by decide) (by decide) q34 ?_
    refine v_iload_n G dX5_hearLesson_22 rfl ?_
    refine v_dup2 G dX5_hearLesson_23 rfl rfl ?_
    obtain ⟨v36, q35, h⟩ := bi_ h
    refine v_iald G dX5_hearLesson_24 q35 ?_
    refine v_iconst G (1 : Int32) dX5_hearLesson_25 (by decide) ?_
    refine v_iadd G dX5_hearLesson_26 ?_
    obtain ⟨M37, q38, h⟩ := bi_ h
    refine v_iast G dX5_hearLesson_27 q38 ?_
    refine v_aload_n G dX5_hearLesson_28 rfl ?_
    obtain ⟨b39, q40, h⟩ := bi_ h
    refine v_getR (f := 7) G cl5 dX5_hearLesson_29 w110 (by decide) (by decide) q40 ?_
    refine v_iload_n G dX5_hearLesson_32 rfl ?_
    obtain ⟨v42, q41, h⟩ := bi_ h
    refine v_iald G dX5_hearLesson_33 q41 ?_
    rcases Decidable.em (v42 = (1 : Int32)) with q43 | q43
    · rw [if_pos q43] at h
      refine v_tabI (off := 26) 60 G dX5_hearLesson_34 (by rw [q43]; decide) (by rw [q43]; decide) (by rw [q43]; rfl) (by decide) ?_
      refine v_aload_n G dX5_hearLesson_60 rfl ?_
      refine v_iload_n G dX5_hearLesson_61 rfl ?_
      refine v_iload_n G dX5_hearLesson_62 rfl ?_
      obtain ⟨q46, h⟩ := if_s h
      obtain ⟨M45, q44, h⟩ := bi_ h
      refine v_callV0 (e_X5_learnByGrasp q44) G cl5 my_X5_learnByGrasp rfl w478 w10 w476 dX5_hearLesson_63 q46 rfl (Nat.le_of_ble_eq_true rfl) rfl (Nat.le_of_ble_eq_true rfl) (Nat.zero_le _) (Nat.zero_le _) ?_
      refine v_goto 109 G dX5_hearLesson_66 (by decide) ?_
      cases h
      exact v_vret G F dX5_hearLesson_109 rfl (Nat.le_refl _)
    · rw [if_neg q43] at h
      rcases Decidable.em (v42 = (2 : Int32)) with q47 | q47
      · rw [if_pos q47] at h
        refine v_tabI (off := 35) 69 G dX5_hearLesson_34 (by rw [q47]; decide) (by rw [q47]; decide) (by rw [q47]; rfl) (by decide) ?_
        refine v_aload_n G dX5_hearLesson_69 rfl ?_
        refine v_iload_n G dX5_hearLesson_70 rfl ?_
        refine v_iload_n G dX5_hearLesson_71 rfl ?_
        obtain ⟨q53, h⟩ := if_s h
        obtain ⟨M49, q48, h⟩ := bi_ h
        refine v_callV0 (e_X5_learnByGrasp q48) G cl5 my_X5_learnByGrasp rfl w478 w10 w476 dX5_hearLesson_72 q53 rfl (Nat.le_of_ble_eq_true rfl) rfl (Nat.le_of_ble_eq_true rfl) (Nat.zero_le _) (Nat.zero_le _) ?_
        refine v_aload_n G dX5_hearLesson_75 rfl ?_
        refine v_iload_n G dX5_hearLesson_76 rfl ?_
        refine v_iload_n G dX5_hearLesson_77 rfl ?_
        obtain ⟨q52, h⟩ := if_s h
        obtain ⟨M51, q50, h⟩ := bi_ h
        refine v_callV0 (e_X5_learnOnwards q50) G cl5 my_X5_learnOnwards rfl w482 w11 w480 dX5_hearLesson_78 q52 rfl (Nat.le_of_ble_eq_true rfl) rfl (Nat.le_of_ble_eq_true rfl) (Nat.zero_le _) (Nat.zero_le _) ?_
        refine v_goto 109 G dX5_hearLesson_81 (by decide) ?_
        cases h
        exact v_vret G F dX5_hearLesson_109 rfl (Nat.le_refl _)
      · rw [if_neg q47] at h
        rcases Decidable.em (v42 = (3 : Int32)) with q54 | q54
        · rw [if_pos q54] at h
          refine v_tabI (off := 50) 84 G dX5_hearLesson_34 (by rw [q54]; decide) (by rw [q54]; decide) (by rw [q54]; rfl) (by decide) ?_
          refine v_aload_n G dX5_hearLesson_84 rfl ?_
          obtain ⟨b55, q56, h⟩ := bi_ h
          refine v_getR (f := 10) G cl5 dX5_hearLesson_85 w121 (by decide) (by decide) q56 ?_
          refine v_iload_n G dX5_hearLesson_88 rfl ?_
          obtain ⟨v58, q57, h⟩ := bi_ h
          refine v_iald G dX5_hearLesson_89 q57 ?_
          refine v_iconst G (2 : Int32) dX5_hearLesson_90 (by decide) ?_
          refine v_ic_lt 109 G dX5_hearLesson_91 (by decide) (fun q59 => ?_) (fun q59 => ?_)
          · rw [if_pos q59] at h
            cases h
            exact v_vret G F dX5_hearLesson_109 rfl (Nat.le_refl _)
          · rw [if_neg q59] at h
            refine v_aload_n G dX5_hearLesson_94 rfl ?_
            refine v_iload_n G dX5_hearLesson_95 rfl ?_
            refine v_iload_n G dX5_hearLesson_96 rfl ?_
            obtain ⟨q62, h⟩ := if_s h
            obtain ⟨M61, q60, h⟩ := bi_ h
            refine v_callV0 (e_X5_learnByGrasp q60) G cl5 my_X5_learnByGrasp rfl w478 w10 w476 dX5_hearLesson_97 q62 rfl (Nat.le_of_ble_eq_true rfl) rfl (Nat.le_of_ble_eq_true rfl) (Nat.zero_le _) (Nat.zero_le _) ?_
            refine v_goto 109 G dX5_hearLesson_100 (by decide) ?_
            cases h
            exact v_vret G F dX5_hearLesson_109 rfl (Nat.le_refl _)
        · rw [if_neg q54] at h
          have eq43 : (v42).toInt ≠ 1 := i32_ne q43
          have eq47 : (v42).toInt ≠ 2 := i32_ne q47
          have eq54 : (v42).toInt ≠ 3 := i32_ne q54
          refine v_tabO 103 G dX5_hearLesson_34 (by omega) (by decide) ?_
          refine v_aload_n G dX5_hearLesson_103 rfl ?_
          refine v_iload_n G dX5_hearLesson_104 rfl ?_
          refine v_iload_n G dX5_hearLesson_105 rfl ?_
          obtain ⟨q65, h⟩ := if_s h
          obtain ⟨M64, q63, h⟩ := bi_ h
          refine v_callV0 (e_X5_learnAsSnake q63) G cl5 my_X5_learnAsSnake rfl w486 w12 w484 dX5_hearLesson_106 q65 rfl (Nat.le_of_ble_eq_true rfl) rfl (Nat.le_of_ble_eq_true rfl) (Nat.zero_le _) (Nat.zero_le _) ?_
          cases h
          exact v_vret G F dX5_hearLesson_109 rfl (Nat.le_refl _)
/-! X6_isKind -/
def m_X6_isKind (M : mM) (x0 : Int32) (x1 : Int32) : Option Int32 :=
  if x1 = (0 : Int32) then (
    some (1 : Int32)
  ) else
  if x1 = (1 : Int32) then (
    if x0 = (1 : Int32) then (
      some (1 : Int32)
    ) else (
      if x0 = (2 : Int32) then (
        some (1 : Int32)
      ) else (
        if x0 = (3 : Int32) then (
          some (1 : Int32)
        ) else (
          some (0 : Int32)
        )
      )
    )
  ) else
  if x1 = (2 : Int32) then (
    if x0 = x1 then (
      some (1 : Int32)
    ) else (
      some (0 : Int32)
    )
  ) else
  if x1 = (3 : Int32) then (
    if x0 = x1 then (
      some (1 : Int32)
    ) else (
      some (0 : Int32)
    )
  ) else
  if x1 = (4 : Int32) then (
    if x0 = (4 : Int32) then (
      some (1 : Int32)
    ) else (
      if x0 = (5 : Int32) then (
        some (1 : Int32)
      ) else (
        some (0 : Int32)
      )
    )
  ) else
  (
    if x0 = x1 then (
      some (1 : Int32)
    ) else (
      some (0 : Int32)
    )
  )
theorem e_X6_isKind {Z : zZ} {M : mM} {x0 : Int32} {x1 : Int32} {r : Int32} (h : m_X6_isKind M x0 x1 = some r) : EM Z yX6_isKind cX6_isKind 2 (some .boolean) 0 0 0 [.int x0, .int x1] M M (some (.int r)) := by
  refine EM_of my_X6_isKind (Nat.le_of_ble_eq_true rfl) (fun X G F => ?_)
  show V X Z M 0 0 0 [some (.int x0), some (.int x1)] []
  unfold m_X6_isKind at h
  refine v_iload_n G dX6_isKind_0 rfl ?_
  rcases Decidable.em (x1 = (0 : Int32)) with q1 | q1
  · rw [if_pos q1] at h
    refine v_tabI (off := 35) 36 G dX6_isKind_1 (by rw [q1]; decide) (by rw [q1]; decide) (by rw [q1]; rfl) (by decide) ?_
    refine v_iconst G (1 : Int32) dX6_isKind_36 (by decide) ?_
    cases h
    exact v_zret G F rfl dX6_isKind_37 rfl (Nat.le_refl _)
  · rw [if_neg q1] at h
    rcases Decidable.em (x1 = (1 : Int32)) with q2 | q2
    · rw [if_pos q2] at h
      refine v_tabI (off := 37) 38 G dX6_isKind_1 (by rw [q2]; decide) (by rw [q2]; decide) (by rw [q2]; rfl) (by decide) ?_
      refine v_iload_n G dX6_isKind_38 rfl ?_
      refine v_iconst G (1 : Int32) dX6_isKind_39 (by decide) ?_
      refine v_ic_eq 53 G dX6_isKind_40 (by decide) (fun q3 => ?_) (fun q3 => ?_)
      · rw [if_pos q3] at h
        refine v_iconst G (1 : Int32) dX6_isKind_53 (by decide) ?_
        refine v_goto 58 G dX6_isKind_54 (by decide) ?_
        cases h
        exact v_zret G F rfl dX6_isKind_58 rfl (Nat.le_refl _)
      · rw [if_neg q3] at h
        refine v_iload_n G dX6_isKind_43 rfl ?_
        refine v_iconst G (2 : Int32) dX6_isKind_44 (by decide) ?_
        refine v_ic_eq 53 G dX6_isKind_45 (by decide) (fun q4 => ?_) (fun q4 => ?_)
        · rw [if_pos q4] at h
          refine v_iconst G (1 : Int32) dX6_isKind_53 (by decide) ?_
          refine v_goto 58 G dX6_isKind_54 (by decide) ?_
          cases h
          exact v_zret G F rfl dX6_isKind_58 rfl (Nat.le_refl _)
        · rw [if_neg q4] at h
          refine v_iload_n G dX6_isKind_48 rfl ?_
          refine v_iconst G (3 : Int32) dX6_isKind_49 (by decide) ?_
          refine v_ic_ne 57 G dX6_isKind_50 (by decide) (fun q5 => ?_) (fun q5 => ?_)
          · rw [if_neg q5] at h
            refine v_iconst G (0 : Int32) dX6_isKind_57 (by decide) ?_
            cases h
            exact v_zret G F rfl dX6_isKind_58 rfl (Nat.le_refl _)
          · rw [if_pos q5] at h
            refine v_iconst G (1 : Int32) dX6_isKind_53 (by decide) ?_
            refine v_goto 58 G dX6_isKind_54 (by decide) ?_
            cases h
            exact v_zret G F rfl dX6_isKind_58 rfl (Nat.le_refl _)
    · rw [if_neg q2] at h
      rcases Decidable.em (x1 = (2 : Int32)) with q6 | q6
      · rw [if_pos q6] at h
        refine v_tabI (off := 74) 75 G dX6_isKind_1 (by rw [q6]; decide) (by rw [q6]; decide) (by rw [q6]; rfl) (by decide) ?_
        refine v_iload_n G dX6_isKind_75 rfl ?_
        refine v_iload_n G dX6_isKind_76 rfl ?_
        refine v_ic_ne 84 G dX6_isKind_77 (by decide) (fun q7 => ?_) (fun q7 => ?_)
        · rw [if_neg q7] at h
          refine v_iconst G (0 : Int32) dX6_isKind_84 (by decide) ?_
          cases h
          exact v_zret G F rfl dX6_isKind_85 rfl (Nat.le_refl _)
        · rw [if_pos q7] at h
          refine v_iconst G (1 : Int32) dX6_isKind_80 (by decide) ?_
          refine v_goto 85 G dX6_isKind_81 (by decide) ?_
          cases h
          exact v_zret G F rfl dX6_isKind_85 rfl (Nat.le_refl _)
      · rw [if_neg q6] at h
        rcases Decidable.em (x1 = (3 : Int32)) with q8 | q8
        · rw [if_pos q8] at h
          refine v_tabI (off := 74) 75 G dX6_isKind_1 (by rw [q8]; decide) (by rw [q8]; decide) (by rw [q8]; rfl) (by decide) ?_
          refine v_iload_n G dX6_isKind_75 rfl ?_
          refine v_iload_n G dX6_isKind_76 rfl ?_
          refine v_ic_ne 84 G dX6_isKind_77 (by decide) (fun q9 => ?_) (fun q9 => ?_)
          · rw [if_neg q9] at h
            refine v_iconst G (0 : Int32) dX6_isKind_84 (by decide) ?_
            cases h
            exact v_zret G F rfl dX6_isKind_85 rfl (Nat.le_refl _)
          · rw [if_pos q9] at h
            refine v_iconst G (1 : Int32) dX6_isKind_80 (by decide) ?_
            refine v_goto 85 G dX6_isKind_81 (by decide) ?_
            cases h
            exact v_zret G F rfl dX6_isKind_85 rfl (Nat.le_refl _)
        · rw [if_neg q8] at h
          rcases Decidable.em (x1 = (4 : Int32)) with q10 | q10
          · rw [if_pos q10] at h
            refine v_tabI (off := 58) 59 G dX6_isKind_1 (by rw [q10]; decide) (by rw [q10]; decide) (by rw [q10]; rfl) (by decide) ?_
            refine v_iload_n G dX6_isKind_59 rfl ?_
            refine v_iconst G (4 : Int32) dX6_isKind_60 (by decide) ?_
            refine v_ic_eq 69 G dX6_isKind_61 (by decide) (fun q11 => ?_) (fun q11 => ?_)
            · rw [if_pos q11] at h
              refine v_iconst G (1 : Int32) dX6_isKind_69 (by decide) ?_
              refine v_goto 74 G dX6_isKind_70 (by decide) ?_
              cases h
              exact v_zret G F rfl dX6_isKind_74 rfl (Nat.le_refl _)
            · rw [if_neg q11] at h
              refine v_iload_n G dX6_isKind_64 rfl ?_
              refine v_iconst G (5 : Int32) dX6_isKind_65 (by decide) ?_
              refine v_ic_ne 73 G dX6_isKind_66 (by decide) (fun q12 => ?_) (fun q12 => ?_)
              · rw [if_neg q12] at h
                refine v_iconst G (0 : Int32) dX6_isKind_73 (by decide) ?_
                cases h
                exact v_zret G F rfl dX6_isKind_74 rfl (Nat.le_refl _)
              · rw [if_pos q12] at h
                refine v_iconst G (1 : Int32) dX6_isKind_69 (by decide) ?_
                refine v_goto 74 G dX6_isKind_70 (by decide) ?_
                cases h
                exact v_zret G F rfl dX6_isKind_74 rfl (Nat.le_refl _)
          · rw [if_neg q10] at h
            have eq1 : (x1).toInt ≠ 0 := i32_ne q1
            have eq2 : (x1).toInt ≠ 1 := i32_ne q2
            have eq6 : (x1).toInt ≠ 2 := i32_ne q6
            have eq8 : (x1).toInt ≠ 3 := i32_ne q8
            have eq10 : (x1).toInt ≠ 4 := i32_ne q10
            refine v_tabO 75 G dX6_isKind_1 (by omega) (by decide) ?_
            refine v_iload_n G dX6_isKind_75 rfl ?_
            refine v_iload_n G dX6_isKind_76 rfl ?_
            refine v_ic_ne 84 G dX6_isKind_77 (by decide) (fun q13 => ?_) (fun q13 => ?_)
            · rw [if_neg q13] at h
              refine v_iconst G (0 : Int32) dX6_isKind_84 (by decide) ?_
              cases h
              exact v_zret G F rfl dX6_isKind_85 rfl (Nat.le_refl _)
            · rw [if_pos q13] at h
              refine v_iconst G (1 : Int32) dX6_isKind_80 (by decide) ?_
              refine v_goto 85 G dX6_isKind_81 (by decide) ?_
              cases h
              exact v_zret G F rfl dX6_isKind_85 rfl (Nat.le_refl _)
/-! X5_hearsAnyway -/
def m_X5_hearsAnyway (M : mM) (x0 : Nat) (x1 : Int32) (x2 : Int32) : Option Int32 :=
  (gI M x0 5 0).bind fun v1 =>
  if x2 ≤ v1 then (
    some (1 : Int32)
  ) else (
    (gR M x0 5 7).bind fun b4 =>
    (ldI M b4 x1).bind fun v7 =>
    (m_X6_isKind M v7 (4 : Int32)).bind fun v9 =>
    if v9 = (0 : Int32) then (
      some (0 : Int32)
    ) else (
      some (1 : Int32)
    )
  )
theorem e_X5_hearsAnyway {Z : zZ} {M : mM} {x0 : Nat} {x1 : Int32} {x2 : Int32} {r : Int32} (h : m_X5_hearsAnyway M x0 x1 x2 = some r) : EM Z yX5_hearsAnyway cX5_hearsAnyway 3 (some .boolean) 1 0 0 [.ref x0, .int x1, .int x2] M M (some (.int r)) := by
  refine EM_of my_X5_hearsAnyway (Nat.le_of_ble_eq_true rfl) (fun X G F => ?_)
  show V X Z M 0 0 0 [some (.ref x0), some (.int x1), some (.int x2)] []
  unfold m_X5_hearsAnyway at h
  refine v_iload_n G dX5_hearsAnyway_0 rfl ?_
  refine v_aload_n G dX5_hearsAnyway_1 rfl ?_
  obtain ⟨v1, q2, h⟩ := bi_ h
  refine v_getI (f := 0) G cl5 dX5_hearsAnyway_2 w85 (by decide) (by decide) q2 ?_
  refine v_ic_le 21 G dX5_hearsAnyway_5 (by decide) (fun q3 => ?_) (fun q3 => ?_)
  · rw [if_pos q3] at h
    refine v_iconst G (1 : Int32) dX5_hearsAnyway_21 (by decide) ?_
    refine v_goto 26 G dX5_hearsAnyway_22 (by decide) ?_
    cases h
    exact v_zret G F rfl dX5_hearsAnyway_26 rfl (Nat.le_refl _)
  · rw [if_neg q3] at h
    refine v_aload_n G dX5_hearsAnyway_8 rfl ?_
    obtain ⟨b4, q5, h⟩ := bi_ h
    refine v_getR (f := 7) G cl5 dX5_hearsAnyway_9 w110 (by decide) (by decide) q5 ?_
    refine v_iload_n G dX5_hearsAnyway_12 rfl ?_
    obtain ⟨v7, q6, h⟩ := bi_ h
    refine v_iald G dX5_hearsAnyway_13 q6 ?_
    refine v_iconst G (4 : Int32) dX5_hearsAnyway_14 (by decide) ?_
    obtain ⟨v9, q8, h⟩ := bi_ h
    refine v_callSN0 (e_X6_isKind q8) G my_X6_isKind w466 n465 dX5_hearsAnyway_15 rfl (Nat.le_of_ble_eq_true rfl) rfl (Nat.le_of_ble_eq_true rfl) (Nat.zero_le _) (Nat.zero_le _) ?_
    refine v_if_eq 25 G dX5_hearsAnyway_18 (by decide) (fun q10 => ?_) (fun q10 => ?_)
    · rw [if_pos q10] at h
      refine v_iconst G (0 : Int32) dX5_hearsAnyway_25 (by decide) ?_
      cases h
      exact v_zret G F rfl dX5_hearsAnyway_26 rfl (Nat.le_refl _)
    · rw [if_neg q10] at h
      refine v_iconst G (1 : Int32) dX5_hearsAnyway_21 (by decide) ?_
      refine v_goto 26 G dX5_hearsAnyway_22 (by decide) ?_
      cases h
      exact v_zret G F rfl dX5_hearsAnyway_26 rfl (Nat.le_refl _)
/-! X5_knowsIt -/
def m_X5_knowsIt (M : mM) (x0 : Nat) (x1 : Int32) (x2 : Int32) : Option Int32 :=
  (gR M x0 5 8).bind fun b1 =>
  (ldI M b1 x1).bind fun v4 =>
  if ((v4 >>> (x2 &&& 31)) &&& (1 : Int32)) = (0 : Int32) then (
    some (0 : Int32)
  ) else (
    some (1 : Int32)
  )
theorem e_X5_knowsIt {Z : zZ} {M : mM} {x0 : Nat} {x1 : Int32} {x2 : Int32} {r : Int32} (h : m_X5_knowsIt M x0 x1 x2 = some r) : EM Z yX5_knowsIt cX5_knowsIt 3 (some .boolean) 0 0 0 [.ref x0, .int x1, .int x2] M M (some (.int r)) := by
  refine EM_of my_X5_knowsIt (Nat.le_of_ble_eq_true rfl) (fun X G F => ?_)
  show V X Z M 0 0 0 [some (.ref x0), some (.int x1), some (.int x2)] []
  unfold m_X5_knowsIt at h
  refine v_aload_n G dX5_knowsIt_0 rfl ?_
  obtain ⟨b1, q2, h⟩ := bi_ h
  refine v_getR (f := 8) G cl5 dX5_knowsIt_1 w115 (by decide) (by decide) q2 ?_
  refine v_iload_n G dX5_knowsIt_4 rfl ?_
  obtain ⟨v4, q3, h⟩ := bi_ h
  refine v_iald G dX5_knowsIt_5 q3 ?_
  refine v_iload_n G dX5_knowsIt_6 rfl ?_
  refine v_ishr G dX5_knowsIt_7 ?_
  refine v_iconst G (1 : Int32) dX5_knowsIt_8 (by decide) ?_
  refine v_iand G dX5_knowsIt_9 ?_
  refine v_if_eq 17 G dX5_knowsIt_10 (by decide) (fun q5 => ?_) (fun q5 => ?_)
  · rw [if_pos q5] at h
    refine v_iconst G (0 : Int32) dX5_knowsIt_17 (by decide) ?_
    cases h
    exact v_zret G F rfl dX5_knowsIt_18 rfl (Nat.le_refl _)
  · rw [if_neg q5] at h
    refine v_iconst G (1 : Int32) dX5_knowsIt_13 (by decide) ?_
    refine v_goto 18 G dX5_knowsIt_14 (by decide) ?_
    cases h
    exact v_zret G F rfl dX5_knowsIt_18 rfl (Nat.le_refl _)
/-! X5_taughtOn -/
def m_X5_taughtOn (M : mM) (x0 : Nat) (x1 : Int32) : Option Int32 :=
  (gI M x0 5 2).bind fun v1 =>
  if v1 < (1 : Int32) then (
    some (0 : Int32)
  ) else (
    if (0 : Int32) ≤ x1 then (
      (gR M x0 5 6).bind fun b5 =>
      (gI M x0 5 2).bind fun v7 =>
      if v7 = (0 : Int32) then none else
      (ldI M b5 (rm_ x1 v7)).bind fun v11 =>
      some v11
    ) else (
      some (0 : Int32)
    )
  )
theorem e_X5_taughtOn {Z : zZ} {M : mM} {x0 : Nat} {x1 : Int32} {r : Int32} (h : m_X5_taughtOn M x0 x1 = some r) : EM Z yX5_taughtOn cX5_taughtOn 2 (some .int) 0 0 0 [.ref x0, .int x1] M M (some (.int r)) := by
  refine EM_of my_X5_taughtOn (Nat.le_of_ble_eq_true rfl) (fun X G F => ?_)
  show V X Z M 0 0 0 [some (.ref x0), some (.int x1)] []
  unfold m_X5_taughtOn at h
  refine v_aload_n G dX5_taughtOn_0 rfl ?_
  obtain ⟨v1, q2, h⟩ := bi_ h
  refine v_getI (f := 2) G cl5 dX5_taughtOn_1 w92 (by decide) (by decide) q2 ?_
  refine v_iconst G (1 : Int32) dX5_taughtOn_4 (by decide) ?_
  refine v_ic_lt 12 G dX5_taughtOn_5 (by decide) (fun q3 => ?_) (fun q3 => ?_)
  · rw [if_pos q3] at h
    refine v_iconst G (0 : Int32) dX5_taughtOn_12 (by decide) ?_
    refine v_goto 27 G dX5_taughtOn_13 (by decide) ?_
    cases h
    exact v_iret G F dX5_taughtOn_27 rfl (Nat.le_refl _)
  · rw [if_neg q3] at h
    refine v_iload_n G dX5_taughtOn_8 rfl ?_
    refine v_if_ge 16 G dX5_taughtOn_9 (by decide) (fun q4 => ?_) (fun q4 => ?_)
    · rw [if_pos q4] at h
      refine v_aload_n G dX5_taughtOn_16 rfl ?_
      obtain ⟨b5, q6, h⟩ := bi_ h
      refine v_getR (f := 6) G cl5 dX5_taughtOn_17 w106 (by decide) (by decide) q6 ?_
      refine v_iload_n G dX5_taughtOn_20 rfl ?_
      refine v_aload_n G dX5_taughtOn_21 rfl ?_
      obtain ⟨v7, q8, h⟩ := bi_ h
      refine v_getI (f := 2) G cl5 dX5_taughtOn_22 w92 (by decide) (by decide) q8 ?_
      obtain ⟨q9, h⟩ := in_ h
      refine v_irem G dX5_taughtOn_25 q9 ?_
      obtain ⟨v11, q10, h⟩ := bi_ h
      refine v_iald G dX5_taughtOn_26 q10 ?_
      cases h
      exact v_iret G F dX5_taughtOn_27 rfl (Nat.le_refl _)
    · rw [if_neg q4] at h
      refine v_iconst G (0 : Int32) dX5_taughtOn_12 (by decide) ?_
      refine v_goto 27 G dX5_taughtOn_13 (by decide) ?_
      cases h
      exact v_iret G F dX5_taughtOn_27 rfl (Nat.le_refl _)
/-! X5_passDay -/
def m_X5_passDay_L13 {ρ : Type} (k0 : mM → Option ρ) (x0 : Nat) (x1 : Int32) : Nat → mM → Int32 → Int32 → Option ρ
  | 0, _, _, _ => none
  | n + 1, M, x2, x3 =>
    (gI M x0 5 3).bind fun v5 =>
    if v5 ≤ x3 then (
      k0 M
    ) else (
      (gR M x0 5 9).bind fun b8 =>
      (ldI M b8 x3).bind fun v11 =>
      if x2 = (0 : Int32) then (
        if isO M x0 5 = true then
        (m_X5_hearsAnyway M x0 v11 x3).bind fun v21 =>
        if v21 = (0 : Int32) then (
          if isO M x0 5 = true then
          (m_X5_knowsIt M x0 v11 x1).bind fun v24 =>
          if (0 : Int32) = (0 : Int32) then (
            m_X5_passDay_L13 k0 x0 x1 n M v24 (x3 + (1 : Int32))
          ) else (
            if isO M x0 5 = true then
            (m_X5_hearLesson M x0 v11 x1).bind fun M27 =>
            m_X5_passDay_L13 k0 x0 x1 n M27 v24 (x3 + (1 : Int32))
            else none
          )
          else none
        ) else (
          if isO M x0 5 = true then
          (m_X5_knowsIt M x0 v11 x1).bind fun v31 =>
          if (1 : Int32) = (0 : Int32) then (
            m_X5_passDay_L13 k0 x0 x1 n M v31 (x3 + (1 : Int32))
          ) else (
            if isO M x0 5 = true then
            (m_X5_hearLesson M x0 v11 x1).bind fun M34 =>
            m_X5_passDay_L13 k0 x0 x1 n M34 v31 (x3 + (1 : Int32))
            else none
          )
          else none
        )
        else none
      ) else (
        if isO M x0 5 = true then
        (m_X5_knowsIt M x0 v11 x1).bind fun v14 =>
        if (1 : Int32) = (0 : Int32) then (
          m_X5_passDay_L13 k0 x0 x1 n M v14 (x3 + (1 : Int32))
        ) else (
          if isO M x0 5 = true then
          (m_X5_hearLesson M x0 v11 x1).bind fun M17 =>
          m_X5_passDay_L13 k0 x0 x1 n M17 v14 (x3 + (1 : Int32))
          else none
        )
        else none
      )
    )
theorem e_X5_passDay_L13 {X : xX} {Z : zZ} {cn sn : Nat} {ρ : Type} {r : ρ} {k0 : mM → Option ρ} (G : ok_ X Z yX5_passDay cX5_passDay 6 4 0 0) (hcn : cn ≤ 0) (hsn : sn ≤ 0) (x0 : Nat) (x1 : Int32)
    (hx0 : ∀ (N : mM), k0 N = some r → V X Z N cn sn 76 [some (.ref x0), none, none, none, none, none] []) :
    ∀ (n : Nat) (M : mM) (x2 : Int32) (x3 : Int32), m_X5_passDay_L13 k0 x0 x1 n M x2 x3 = some r → V X Z M cn sn 13 [some (.ref x0), some (.int x1), some (.int x2), some (.int x3), none, none] [] := by
  intro n
  induction n with
  | zero => intro M x2 x3 h; rw [m_X5_passDay_L13] at h; cases h
  | succ n ih =>
    intro M x2 x3 h
    rw [m_X5_passDay_L13] at h
    refine v_iload_n G dX5_passDay_13 rfl ?_
    refine v_aload_n G dX5_passDay_14 rfl ?_
    obtain ⟨v5, q6, h⟩ := bi_ h
    refine v_getI (f := 3) G cl5 dX5_passDay_15 w96 (by decide) (by decide) q6 ?_
    refine v_ic_ge 76 G dX5_passDay_18 (by decide) (fun q7 => ?_) (fun q7 => ?_)
    · rw [if_pos q7] at h
      exact v_mask [true, false, false, false, false, false] rfl (hx0 _ h)
    · rw [if_neg q7] at h
      refine v_aload_n G dX5_passDay_21 rfl ?_
      obtain ⟨b8, q9, h⟩ := bi_ h
      refine v_getR (f := 9) G cl5 dX5_passDay_22 w119 (by decide) (by decide) q9 ?_
      refine v_iload_n G dX5_passDay_25 rfl ?_
      obtain ⟨v11, q10, h⟩ := bi_ h
      refine v_iald G dX5_passDay_26 q10 ?_
      refine v_istore [some (.ref x0), some (.int x1), some (.int x2), some (.int x3), some (.int v11), none] G dX5_passDay_27 (Nat.le_of_ble_eq_true rfl) rfl rfl ?_
      refine v_iload_n G dX5_passDay_29 rfl ?_
      refine v_if_ne 43 G dX5_passDay_30 (by decide) (fun q12 => ?_) (fun q12 => ?_)
      · rw [if_neg q12] at h
        refine v_iconst G (1 : Int32) dX5_passDay_43 (by decide) ?_
        refine v_goto 48 G dX5_passDay_44 (by decide) ?_
        refine v_istore [some (.ref x0), some (.int x1), some (.int x2), some (.int x3), some (.int v11), some (.int (1 : Int32))] G dX5_passDay_48 (Nat.le_of_ble_eq_true rfl) rfl rfl ?_
        refine v_aload_n G dX5_passDay_50 rfl ?_
        refine v_iload G dX5_passDay_51 rfl ?_
        refine v_iload_n G dX5_passDay_53 rfl ?_
        obtain ⟨q19, h⟩ := if_s h
        obtain ⟨v14, q13, h⟩ := bi_ h
        refine v_callV0 (e_X5_knowsIt q13) G cl5 my_X5_knowsIt rfl w469 w470 w468 dX5_passDay_54 q19 rfl (Nat.le_of_ble_eq_true rfl) rfl (Nat.le_of_ble_eq_true rfl) hcn hsn ?_
        refine v_istore_n [some (.ref x0), some (.int x1), some (.int v14), some (.int x3), some (.int v11), some (.int (1 : Int32))] G dX5_passDay_57 (Nat.le_of_ble_eq_true rfl) rfl rfl ?_
        refine v_iload G dX5_passDay_58 rfl ?_
        refine v_if_eq 70 G dX5_passDay_60 (by decide) (fun q15 => ?_) (fun q15 => ?_)
        · rw [if_pos q15] at h
          refine v_iinc (x3 + (1 : Int32)) [some (.ref x0), some (.int x1), some (.int v14), some (.int (x3 + (1 : Int32))), some (.int v11), some (.int (1 : Int32))] G dX5_passDay_70 rfl rfl (Nat.le_of_ble_eq_true rfl) rfl rfl ?_
          refine v_goto 13 G dX5_passDay_73 (by decide) ?_
          exact v_mask [true, true, true, true, false, false] rfl (ih _ _ _ h)
        · rw [if_neg q15] at h
          refine v_aload_n G dX5_passDay_63 rfl ?_
          refine v_iload G dX5_passDay_64 rfl ?_
          refine v_iload_n G dX5_passDay_66 rfl ?_
          obtain ⟨q18, h⟩ := if_s h
          obtain ⟨M17, q16, h⟩ := bi_ h
          refine v_callV0 (e_X5_hearLesson q16) G cl5 my_X5_hearLesson rfl w473 w474 w472 dX5_passDay_67 q18 rfl (Nat.le_of_ble_eq_true rfl) rfl (Nat.le_of_ble_eq_true rfl) hcn hsn ?_
          refine v_iinc (x3 + (1 : Int32)) [some (.ref x0), some (.int x1), some (.int v14), some (.int (x3 + (1 : Int32))), some (.int v11), some (.int (1 : Int32))] G dX5_passDay_70 rfl rfl (Nat.le_of_ble_eq_true rfl) rfl rfl ?_
          refine v_goto 13 G dX5_passDay_73 (by decide) ?_
          exact v_mask [true, true, true, true, false, false] rfl (ih _ _ _ h)
      · rw [if_pos q12] at h
        refine v_aload_n G dX5_passDay_33 rfl ?_
        refine v_iload G dX5_passDay_34 rfl ?_
        refine v_iload_n G dX5_passDay_36 rfl ?_
        obtain ⟨q37, h⟩ := if_s h
        obtain ⟨v21, q20, h⟩ := bi_ h
        refine v_callV0 (e_X5_hearsAnyway q20) G cl5 my_X5_hearsAnyway rfl w462 w463 w461 dX5_passDay_37 q37 rfl (Nat.le_of_ble_eq_true rfl) rfl (Nat.le_of_ble_eq_true rfl) hcn hsn ?_
        refine v_if_eq 47 G dX5_passDay_40 (by decide) (fun q22 => ?_) (fun q22 => ?_)
        · rw [if_pos q22] at h
          refine v_iconst G (0 : Int32) dX5_passDay_47 (by decide) ?_
          refine v_istore [some (.ref x0), some (.int x1), some (.int x2), some (.int x3), some (.int v11), some (.int (0 : Int32))] G dX5_passDay_48 (Nat.le_of_ble_eq_true rfl) rfl rfl ?_
          refine v_aload_n G dX5_passDay_50 rfl ?_
          refine v_iload G dX5_passDay_51 rfl ?_
          refine v_iload_n G dX5_passDay_53 rfl ?_
          obtain ⟨q29, h⟩ := if_s h
          obtain ⟨v24, q23, h⟩ := bi_ h
          refine v_callV0 (e_X5_knowsIt q23) G cl5 my_X5_knowsIt rfl w469 w470 w468 dX5_passDay_54 q29 rfl (Nat.le_of_ble_eq_true rfl) rfl (Nat.le_of_ble_eq_true rfl) hcn hsn ?_
          refine v_istore_n [some (.ref x0), some (.int x1), some (.int v24), some (.int x3), some (.int v11), some (.int (0 : Int32))] G dX5_passDay_57 (Nat.le_of_ble_eq_true rfl) rfl rfl ?_
          refine v_iload G dX5_passDay_58 rfl ?_
          refine v_if_eq 70 G dX5_passDay_60 (by decide) (fun q25 => ?_) (fun q25 => ?_)
          · rw [if_pos q25] at h
            refine v_iinc (x3 + (1 : Int32)) [some (.ref x0), some (.int x1), some (.int v24), some (.int (x3 + (1 : Int32))), some (.int v11), some (.int (0 : Int32))] G dX5_passDay_70 rfl rfl (Nat.le_of_ble_eq_true rfl) rfl rfl ?_
            refine v_goto 13 G dX5_passDay_73 (by decide) ?_
            exact v_mask [true, true, true, true, false, false] rfl (ih _ _ _ h)
          · rw [if_neg q25] at h
            refine v_aload_n G dX5_passDay_63 rfl ?_
            refine v_iload G dX5_passDay_64 rfl ?_
            refine v_iload_n G dX5_passDay_66 rfl ?_
            obtain ⟨q28, h⟩ := if_s h
            obtain ⟨M27, q26, h⟩ := bi_ h
            refine v_callV0 (e_X5_hearLesson q26) G cl5 my_X5_hearLesson rfl w473 w474 w472 dX5_passDay_67 q28 rfl (Nat.le_of_ble_eq_true rfl) rfl (Nat.le_of_ble_eq_true rfl) hcn hsn ?_
            refine v_iinc (x3 + (1 : Int32)) [some (.ref x0), some (.int x1), some (.int v24), some (.int (x3 + (1 : Int32))), some (.int v11), some (.int (0 : Int32))] G dX5_passDay_70 rfl rfl (Nat.le_of_ble_eq_true rfl) rfl rfl ?_
            refine v_goto 13 G dX5_passDay_73 (by decide) ?_
            exact v_mask [true, true, true, true, false, false] rfl (ih _ _ _ h)
        · rw [if_neg q22] at h
          refine v_iconst G (1 : Int32) dX5_passDay_43 (by decide) ?_
          refine v_goto 48 G dX5_passDay_44 (by decide) ?_
          refine v_istore [some (.ref x0), some (.int x1), some (.int x2), some (.int x3), some (.int v11), some (.int (1 : Int32))] G dX5_passDay_48 (Nat.le_of_ble_eq_true rfl) rfl rfl ?_
          refine v_aload_n G dX5_passDay_50 rfl ?_
          refine v_iload G dX5_passDay_51 rfl ?_
          refine v_iload_n G dX5_passDay_53 rfl ?_
          obtain ⟨q36, h⟩ := if_s h
          obtain ⟨v31, q30, h⟩ := bi_ h
          refine v_callV0 (e_X5_knowsIt q30) G cl5 my_X5_knowsIt rfl w469 w470 w468 dX5_passDay_54 q36 rfl (Nat.le_of_ble_eq_true rfl) rfl (Nat.le_of_ble_eq_true rfl) hcn hsn ?_
          refine v_istore_n [some (.ref x0), some (.int x1), some (.int v31), some (.int x3), some (.int v11), some (.int (1 : Int32))] G dX5_passDay_57 (Nat.le_of_ble_eq_true rfl) rfl rfl ?_
          refine v_iload G dX5_passDay_58 rfl ?_
          refine v_if_eq 70 G dX5_passDay_60 (by decide) (fun q32 => ?_) (fun q32 => ?_)
          · rw [if_pos q32] at h
            refine v_iinc (x3 + (1 : Int32)) [some (.ref x0), some (.int x1), some (.int v31), some (.int (x3 + (1 : Int32))), some (.int v11), some (.int (1 : Int32))] G dX5_passDay_70 rfl rfl (Nat.le_of_ble_eq_true rfl) rfl rfl ?_
            refine v_goto 13 G dX5_passDay_73 (by decide) ?_
            exact v_mask [true, true, true, true, false, false] rfl (ih _ _ _ h)
          · rw [if_neg q32] at h
            refine v_aload_n G dX5_passDay_63 rfl ?_
            refine v_iload G dX5_passDay_64 rfl ?_
            refine v_iload_n G dX5_passDay_66 rfl ?_
            obtain ⟨q35, h⟩ := if_s h
            obtain ⟨M34, q33, h⟩ := bi_ h
            refine v_callV0 (e_X5_hearLesson q33) G cl5 my_X5_hearLesson rfl w473 w474 w472 dX5_passDay_67 q35 rfl (Nat.le_of_ble_eq_true rfl) rfl (Nat.le_of_ble_eq_true rfl) hcn hsn ?_
            refine v_iinc (x3 + (1 : Int32)) [some (.ref x0), some (.int x1), some (.int v31), some (.int (x3 + (1 : Int32))), some (.int v11), some (.int (1 : Int32))] G dX5_passDay_70 rfl rfl (Nat.le_of_ble_eq_true rfl) rfl rfl ?_
            refine v_goto 13 G dX5_passDay_73 (by decide) ?_
            exact v_mask [true, true, true, true, false, false] rfl (ih _ _ _ h)
def m_X5_passDay (M : mM) (x0 : Nat) : Option mM :=
  (gI M x0 5 4).bind fun v1 =>
  if isO M x0 5 = true then
  (m_X5_taughtOn M x0 v1).bind fun v4 =>
  m_X5_passDay_L13
    (fun M38 =>
      (gI M38 x0 5 4).bind fun v39 =>
      (pI M38 x0 5 4 (v39 + (1 : Int32))).bind fun M41 =>
      some M41)
    x0 v4 FU M (0 : Int32) (0 : Int32)
  else none
theorem e_X5_passDay {Z : zZ} {M : mM} {N : mM} {x0 : Nat} (h : m_X5_passDay M x0 = some N) : EM Z yX5_passDay cX5_passDay 6 none 4 0 0 [.ref x0] M N none := by
  refine EM_of my_X5_passDay (Nat.le_of_ble_eq_true rfl) (fun X G F => ?_)
  show V X Z M 0 0 0 [some (.ref x0), none, none, none, none, none] []
  unfold m_X5_passDay at h
  refine v_aload_n G dX5_passDay_0 rfl ?_
  refine v_aload_n G dX5_passDay_1 rfl ?_
  obtain ⟨v1, q2, h⟩ := bi_ h
  refine v_getI (f := 4) G cl5 dX5_passDay_2 w100 (by decide) (by decide) q2 ?_
  obtain ⟨q43, h⟩ := if_s h
  obtain ⟨v4, q3, h⟩ := bi_ h
  refine v_callV0 (e_X5_taughtOn q3) G cl5 my_X5_taughtOn rfl w458 w459 w457 dX5_passDay_5 q43 rfl (Nat.le_of_ble_eq_true rfl) rfl (Nat.le_of_ble_eq_true rfl) (Nat.zero_le _) (Nat.zero_le _) ?_
  refine v_istore_n [some (.ref x0), some (.int v4), none, none, none, none] G dX5_passDay_8 (Nat.le_of_ble_eq_true rfl) rfl rfl ?_
  refine v_iconst G (0 : Int32) dX5_passDay_9 (by decide) ?_
  refine v_istore_n [some (.ref x0), some (.int v4), some (.int (0 : Int32)), none, none, none] G dX5_passDay_10 (Nat.le_of_ble_eq_true rfl) rfl rfl ?_
  refine v_iconst G (0 : Int32) dX5_passDay_11 (by decide) ?_
  refine v_istore_n [some (.ref x0), some (.int v4), some (.int (0 : Int32)), some (.int (0 : Int32)), none, none] G dX5_passDay_12 (Nat.le_of_ble_eq_true rfl) rfl rfl ?_
  refine v_mask [true, true, true, true, false, false] rfl ?_
  refine e_X5_passDay_L13 G (Nat.zero_le _) (Nat.zero_le _) _ _ (fun M38 h => ?_) FU _ _ _ h
  refine v_aload_n G dX5_passDay_76 rfl ?_
  refine v_dup G dX5_passDay_77 rfl ?_
  obtain ⟨v39, q40, h⟩ := bi_ h
  refine v_getI (f := 4) G cl5 dX5_passDay_78 w100 (by decide) (by decide) q40 ?_
  refine v_iconst G (1 : Int32) dX5_passDay_81 (by decide) ?_
  refine v_iadd G dX5_passDay_82 ?_
  obtain ⟨M41, q42, h⟩ := bi_ h
  refine v_putI (f := 4) G cl5 dX5_passDay_83 w100 (by decide) (by decide) (by decide) rfl rfl q42 ?_
  cases h
  exact v_vret G F dX5_passDay_86 rfl (Nat.le_refl _)
/-! X2_after -/
def m_X2_after_L10 {ρ : Type} (k0 : mM → Option ρ) (x0 : Nat) (x2 : Int32) : Nat → mM → Int32 → Option ρ
  | 0, _, _ => none
  | n + 1, M, x3 =>
    if x2 ≤ x3 then (
      k0 M
    ) else (
      (gR M x0 2 0).bind fun b6 =>
      if isO M b6 5 = true then
      (m_X5_passDay M b6).bind fun M9 =>
      m_X2_after_L10 k0 x0 x2 n M9 (x3 + (1 : Int32))
      else none
    )
theorem e_X2_after_L10 {X : xX} {Z : zZ} {cn sn : Nat} {ρ : Type} {r : ρ} {k0 : mM → Option ρ} (G : ok_ X Z yX2_after cX2_after 4 5 0 0) (hcn : cn ≤ 0) (hsn : sn ≤ 0) (x0 : Nat) (x2 : Int32)
    (hx0 : ∀ (N : mM), k0 N = some r → V X Z N cn sn 28 [some (.ref x0), none, none, none] []) :
    ∀ (n : Nat) (M : mM) (x3 : Int32), m_X2_after_L10 k0 x0 x2 n M x3 = some r → V X Z M cn sn 10 [some (.ref x0), none, some (.int x2), some (.int x3)] [] := by
  intro n
  induction n with
  | zero => intro M x3 h; rw [m_X2_after_L10] at h; cases h
  | succ n ih =>
    intro M x3 h
    rw [m_X2_after_L10] at h
    refine v_iload_n G dX2_after_10 rfl ?_
    refine v_iload_n G dX2_after_11 rfl ?_
    refine v_ic_ge 28 G dX2_after_12 (by decide) (fun q5 => ?_) (fun q5 => ?_)
    · rw [if_pos q5] at h
      exact v_mask [true, false, false, false] rfl (hx0 _ h)
    · rw [if_neg q5] at h
      refine v_aload_n G dX2_after_15 rfl ?_
      obtain ⟨b6, q7, h⟩ := bi_ h
      refine v_getR (f := 0) G cl2 dX2_after_16 w211 (by decide) (by decide) q7 ?_
      obtain ⟨q10, h⟩ := if_s h
      obtain ⟨M9, q8, h⟩ := bi_ h
      refine v_callV0 (e_X5_passDay q8) G cl5 my_X5_passDay rfl w454 w455 w580 dX2_after_19 q10 rfl (Nat.le_of_ble_eq_true rfl) rfl (Nat.le_of_ble_eq_true rfl) hcn hsn ?_
      refine v_iinc (x3 + (1 : Int32)) [some (.ref x0), none, some (.int x2), some (.int (x3 + (1 : Int32)))] G dX2_after_22 rfl rfl (Nat.le_of_ble_eq_true rfl) rfl rfl ?_
      refine v_goto 10 G dX2_after_25 (by decide) ?_
      exact v_mask [true, false, true, true] rfl (ih _ _ h)
def m_X2_after (M : mM) (x0 : Nat) (x1 : Nat) (x2 : Int32) : Option (mM × Nat) :=
  (gR M x0 2 0).bind fun b1 =>
  if isO M b1 5 = true then
  (m_X5_become M b1 x1).bind fun M4 =>
  m_X2_after_L10
    (fun M11 =>
      (gR M11 x0 2 0).bind fun b12 =>
      some (M11, b12))
    x0 x2 FU M4 (0 : Int32)
  else none
theorem e_X2_after {Z : zZ} {M : mM} {N : mM} {x0 : Nat} {x1 : Nat} {x2 : Int32} {r : Nat} (h : m_X2_after M x0 x1 x2 = some (N, r)) : EM Z yX2_after cX2_after 4 (some (.object "SnakeRoll$School")) 5 0 0 [.ref x0, .ref x1, .int x2] M N (some (.ref r)) := by
  refine EM_of my_X2_after (Nat.le_of_ble_eq_true rfl) (fun X G F => ?_)
  show V X Z M 0 0 0 [some (.ref x0), some (.ref x1), some (.int x2), none] []
  unfold m_X2_after at h
  refine v_aload_n G dX2_after_0 rfl ?_
  obtain ⟨b1, q2, h⟩ := bi_ h
  refine v_getR (f := 0) G cl2 dX2_after_1 w211 (by decide) (by decide) q2 ?_
  refine v_aload_n G dX2_after_4 rfl ?_
  obtain ⟨q14, h⟩ := if_s h
  obtain ⟨M4, q3, h⟩ := bi_ h
  refine v_callV0 (e_X5_become q3) G cl5 my_X5_become rfl w423 w424 w579 dX2_after_5 q14 rfl (Nat.le_of_ble_eq_true rfl) rfl (Nat.le_of_ble_eq_true rfl) (Nat.zero_le _) (Nat.zero_le _) ?_
  refine v_iconst G (0 : Int32) dX2_after_8 (by decide) ?_
  refine v_istore_n [some (.ref x0), some (.ref x1), some (.int x2), some (.int (0 : Int32))] G dX2_after_9 (Nat.le_of_ble_eq_true rfl) rfl rfl ?_
  refine v_mask [true, false, true, true] rfl ?_
  refine e_X2_after_L10 G (Nat.zero_le _) (Nat.zero_le _) _ _ (fun M11 h => ?_) FU _ _ h
  refine v_aload_n G dX2_after_28 rfl ?_
  obtain ⟨b12, q13, h⟩ := bi_ h
  refine v_getR (f := 0) G cl2 dX2_after_29 w211 (by decide) (by decide) q13 ?_
  cases h
  exact v_aret G F dX2_after_32 rfl (Nat.le_refl _)
/-! X2_firstKnown -/
def m_X2_firstKnown_L11 {ρ : Type} (k0 : mM → Option ρ) (k1 : mM → Int32 → Option ρ) (x0 : Nat) (x2 : Int32) (x3 : Int32) : Nat → mM → Int32 → Option ρ
  | 0, _, _ => none
  | n + 1, M, x4 =>
    if (60 : Int32) < x4 then (
      k0 M
    ) else (
      (gR M x0 2 0).bind fun b6 =>
      if isO M b6 5 = true then
      (m_X5_knowsIt M b6 x2 x3).bind fun v9 =>
      if v9 = (0 : Int32) then (
        (gR M x0 2 0).bind fun b11 =>
        if isO M b11 5 = true then
        (m_X5_passDay M b11).bind fun M14 =>
        m_X2_firstKnown_L11 k0 k1 x0 x2 x3 n M14 (x4 + (1 : Int32))
        else none
      ) else (
        k1 M x4
      )
      else none
    )
theorem e_X2_firstKnown_L11 {X : xX} {Z : zZ} {cn sn : Nat} {ρ : Type} {r : ρ} {k0 : mM → Option ρ} {k1 : mM → Int32 → Option ρ} (G : ok_ X Z yX2_firstKnown cX2_firstKnown 5 5 0 0) (hcn : cn ≤ 0) (hsn : sn ≤ 0) (x0 : Nat) (x2 : Int32) (x3 : Int32)
    (hx0 : ∀ (N : mM), k0 N = some r → V X Z N cn sn 46 [none, none, none, none, none] [])
    (hx1 : ∀ (N : mM) (z4 : Int32), k1 N z4 = some r → V X Z N cn sn 30 [none, none, none, none, some (.int z4)] []) :
    ∀ (n : Nat) (M : mM) (x4 : Int32), m_X2_firstKnown_L11 k0 k1 x0 x2 x3 n M x4 = some r → V X Z M cn sn 11 [some (.ref x0), none, some (.int x2), some (.int x3), some (.int x4)] [] := by
  intro n
  induction n with
  | zero => intro M x4 h; rw [m_X2_firstKnown_L11] at h; cases h
  | succ n ih =>
    intro M x4 h
    rw [m_X2_firstKnown_L11] at h
    refine v_iload G dX2_firstKnown_11 rfl ?_
    refine v_bipush G (60 : Int32) dX2_firstKnown_13 (by decide) ?_
    refine v_ic_gt 46 G dX2_firstKnown_15 (by decide) (fun q5 => ?_) (fun q5 => ?_)
    · rw [if_pos q5] at h
      exact v_mask [false, false, false, false, false] rfl (hx0 _ h)
    · rw [if_neg q5] at h
      refine v_aload_n G dX2_firstKnown_18 rfl ?_
      obtain ⟨b6, q7, h⟩ := bi_ h
      refine v_getR (f := 0) G cl2 dX2_firstKnown_19 w211 (by decide) (by decide) q7 ?_
      refine v_iload_n G dX2_firstKnown_22 rfl ?_
      refine v_iload_n G dX2_firstKnown_23 rfl ?_
      obtain ⟨q16, h⟩ := if_s h
      obtain ⟨v9, q8, h⟩ := bi_ h
      refine v_callV0 (e_X5_knowsIt q8) G cl5 my_X5_knowsIt rfl w469 w470 w589 dX2_firstKnown_24 q16 rfl (Nat.le_of_ble_eq_true rfl) rfl (Nat.le_of_ble_eq_true rfl) hcn hsn ?_
      refine v_if_eq 33 G dX2_firstKnown_27 (by decide) (fun q10 => ?_) (fun q10 => ?_)
      · rw [if_pos q10] at h
        refine v_aload_n G dX2_firstKnown_33 rfl ?_
        obtain ⟨b11, q12, h⟩ := bi_ h
        refine v_getR (f := 0) G cl2 dX2_firstKnown_34 w211 (by decide) (by decide) q12 ?_
        obtain ⟨q15, h⟩ := if_s h
        obtain ⟨M14, q13, h⟩ := bi_ h
        refine v_callV0 (e_X5_passDay q13) G cl5 my_X5_passDay rfl w454 w455 w580 dX2_firstKnown_37 q15 rfl (Nat.le_of_ble_eq_true rfl) rfl (Nat.le_of_ble_eq_true rfl) hcn hsn ?_
        refine v_iinc (x4 + (1 : Int32)) [some (.ref x0), none, some (.int x2), some (.int x3), some (.int (x4 + (1 : Int32)))] G dX2_firstKnown_40 rfl rfl (Nat.le_of_ble_eq_true rfl) rfl rfl ?_
        refine v_goto 11 G dX2_firstKnown_43 (by decide) ?_
        exact v_mask [true, false, true, true, true] rfl (ih _ _ h)
      · rw [if_neg q10] at h
        exact v_mask [false, false, false, false, true] rfl (hx1 _ _ h)
def m_X2_firstKnown (M : mM) (x0 : Nat) (x1 : Nat) (x2 : Int32) (x3 : Int32) : Option (mM × Int32) :=
  (gR M x0 2 0).bind fun b1 =>
  if isO M b1 5 = true then
  (m_X5_become M b1 x1).bind fun M4 =>
  m_X2_firstKnown_L11
    (fun M17 =>
      some (M17, (-1000000 : Int32)))
    (fun M18 v19 =>
      some (M18, v19))
    x0 x2 x3 FU M4 (0 : Int32)
  else none
theorem e_X2_firstKnown {Z : zZ} {M : mM} {N : mM} {x0 : Nat} {x1 : Nat} {x2 : Int32} {x3 : Int32} {r : Int32} (h : m_X2_firstKnown M x0 x1 x2 x3 = some (N, r)) : EM Z yX2_firstKnown cX2_firstKnown 5 (some .int) 5 0 0 [.ref x0, .ref x1, .int x2, .int x3] M N (some (.int r)) := by
  refine EM_of my_X2_firstKnown (Nat.le_of_ble_eq_true rfl) (fun X G F => ?_)
  show V X Z M 0 0 0 [some (.ref x0), some (.ref x1), some (.int x2), some (.int x3), none] []
  unfold m_X2_firstKnown at h
  refine v_aload_n G dX2_firstKnown_0 rfl ?_
  obtain ⟨b1, q2, h⟩ := bi_ h
  refine v_getR (f := 0) G cl2 dX2_firstKnown_1 w211 (by decide) (by decide) q2 ?_
  refine v_aload_n G dX2_firstKnown_4 rfl ?_
  obtain ⟨q20, h⟩ := if_s h
  obtain ⟨M4, q3, h⟩ := bi_ h
  refine v_callV0 (e_X5_become q3) G cl5 my_X5_become rfl w423 w424 w579 dX2_firstKnown_5 q20 rfl (Nat.le_of_ble_eq_true rfl) rfl (Nat.le_of_ble_eq_true rfl) (Nat.zero_le _) (Nat.zero_le _) ?_
  refine v_iconst G (0 : Int32) dX2_firstKnown_8 (by decide) ?_
  refine v_istore [some (.ref x0), some (.ref x1), some (.int x2), some (.int x3), some (.int (0 : Int32))] G dX2_firstKnown_9 (Nat.le_of_ble_eq_true rfl) rfl rfl ?_
  refine v_mask [true, false, true, true, true] rfl ?_
  refine e_X2_firstKnown_L11 G (Nat.zero_le _) (Nat.zero_le _) _ _ _ (fun M17 h => ?_) (fun M18 v19 h => ?_) FU _ _ h
  · refine v_ldc G (-1000000 : Int32) dX2_firstKnown_46 w590 ?_
    cases h
    exact v_iret G F dX2_firstKnown_48 rfl (Nat.le_refl _)
  · refine v_iload G dX2_firstKnown_30 rfl ?_
    cases h
    exact v_iret G F dX2_firstKnown_32 rfl (Nat.le_refl _)
/-! X5_becomePupil -/
def m_X5_becomePupil (M : mM) (x0 : Nat) (x1 : Nat) (x2 : Int32) : Option mM :=
  (gR M x0 5 8).bind fun b1 =>
  (gR M x1 5 8).bind fun b3 =>
  (ldI M b3 x2).bind fun v6 =>
  (stI M b1 x2 v6).bind fun M7 =>
  (gR M7 x1 5 10).bind fun b9 =>
  (gR M7 x0 5 10).bind fun b11 =>
  (cpI M7 b9 (x2 * (6 : Int32)) b11 (x2 * (6 : Int32)) (6 : Int32)).bind fun M13 =>
  some M13
theorem e_X5_becomePupil {Z : zZ} {M : mM} {N : mM} {x0 : Nat} {x1 : Nat} {x2 : Int32} (h : m_X5_becomePupil M x0 x1 x2 = some N) : EM Z yX5_becomePupil cX5_becomePupil 3 none 1 0 0 [.ref x0, .ref x1, .int x2] M N none := by
  refine EM_of my_X5_becomePupil (Nat.le_of_ble_eq_true rfl) (fun X G F => ?_)
  show V X Z M 0 0 0 [some (.ref x0), some (.ref x1), some (.int x2)] []
  unfold m_X5_becomePupil at h
  refine v_aload_n G dX5_becomePupil_0 rfl ?_
  obtain ⟨b1, q2, h⟩ := bi_ h
  refine v_getR (f := 8) G cl5 dX5_becomePupil_1 w115 (by decide) (by decide) q2 ?_
  refine v_iload_n G dX5_becomePupil_4 rfl ?_
  refine v_aload_n G dX5_becomePupil_5 rfl ?_
  obtain ⟨b3, q4, h⟩ := bi_ h
  refine v_getR (f := 8) G cl5 dX5_becomePupil_6 w115 (by decide) (by decide) q4 ?_
  refine v_iload_n G dX5_becomePupil_9 rfl ?_
  obtain ⟨v6, q5, h⟩ := bi_ h
  refine v_iald G dX5_becomePupil_10 q5 ?_
  obtain ⟨M7, q8, h⟩ := bi_ h
  refine v_iast G dX5_becomePupil_11 q8 ?_
  refine v_aload_n G dX5_becomePupil_12 rfl ?_
  obtain ⟨b9, q10, h⟩ := bi_ h
  refine v_getR (f := 10) G cl5 dX5_becomePupil_13 w121 (by decide) (by decide) q10 ?_
  refine v_iload_n G dX5_becomePupil_16 rfl ?_
  refine v_bipush G (6 : Int32) dX5_becomePupil_17 (by decide) ?_
  refine v_imul G dX5_becomePupil_19 ?_
  refine v_aload_n G dX5_becomePupil_20 rfl ?_
  obtain ⟨b11, q12, h⟩ := bi_ h
  refine v_getR (f := 10) G cl5 dX5_becomePupil_21 w121 (by decide) (by decide) q12 ?_
  refine v_iload_n G dX5_becomePupil_24 rfl ?_
  refine v_bipush G (6 : Int32) dX5_becomePupil_25 (by decide) ?_
  refine v_imul G dX5_becomePupil_27 ?_
  refine v_bipush G (6 : Int32) dX5_becomePupil_28 (by decide) ?_
  obtain ⟨M13, q14, h⟩ := bi_ h
  refine v_copy G w426 w362 w361 w67 dX5_becomePupil_30 q14 (Nat.le_of_ble_eq_true rfl) rfl (by decide) ?_
  cases h
  exact v_vret G F dX5_becomePupil_33 rfl (Nat.le_refl _)
/-! X2_goThrough -/
def m_X2_goThrough_L17 {ρ : Type} (k0 : mM → Int32 → Option ρ) (x0 : Nat) (x1 : Int32) (x2 : Int32) : Nat → mM → Int32 → Int32 → Option ρ
  | 0, _, _, _ => none
  | n + 1, M, x3, x4 =>
    (gI M x0 2 2).bind fun v7 =>
    if v7 ≤ x4 then (
      k0 M x3
    ) else (
      (gR M x0 2 0).bind fun b10 =>
      (gR M x0 2 1).bind fun b12 =>
      (gI M b12 5 4).bind fun v14 =>
      if isO M b10 5 = true then
      (m_X5_taughtOn M b10 (v14 + x4)).bind fun v17 =>
      (gR M x0 2 0).bind fun b18 =>
      if isO M b18 5 = true then
      (m_X5_knowsIt M b18 x1 v17).bind fun v21 =>
      if v21 = (0 : Int32) then (
        if ((x2 >>> (x4 &&& 31)) &&& (1 : Int32)) = (0 : Int32) then (
          m_X2_goThrough_L17 k0 x0 x1 x2 n M x3 (x4 + (1 : Int32))
        ) else (
          (gR M x0 2 0).bind fun b24 =>
          if isO M b24 5 = true then
          (m_X5_hearLesson M b24 x1 v17).bind fun M27 =>
          m_X2_goThrough_L17 k0 x0 x1 x2 n M27 x3 (x4 + (1 : Int32))
          else none
        )
      ) else (
        if ((x2 >>> (x4 &&& 31)) &&& (1 : Int32)) = (0 : Int32) then (
          m_X2_goThrough_L17 k0 x0 x1 x2 n M (x3 ||| ((1 : Int32) <<< (x4 &&& 31))) (x4 + (1 : Int32))
        ) else (
          (gR M x0 2 0).bind fun b30 =>
          if isO M b30 5 = true then
          (m_X5_hearLesson M b30 x1 v17).bind fun M33 =>
          m_X2_goThrough_L17 k0 x0 x1 x2 n M33 (x3 ||| ((1 : Int32) <<< (x4 &&& 31))) (x4 + (1 : Int32))
          else none
        )
      )
      else none
      else none
    )
theorem e_X2_goThrough_L17 {X : xX} {Z : zZ} {cn sn : Nat} {ρ : Type} {r : ρ} {k0 : mM → Int32 → Option ρ} (G : ok_ X Z yX2_goThrough cX2_goThrough 6 4 0 0) (hcn : cn ≤ 0) (hsn : sn ≤ 0) (x0 : Nat) (x1 : Int32) (x2 : Int32)
    (hx0 : ∀ (N : mM) (z3 : Int32), k0 N z3 = some r → V X Z N cn sn 90 [none, none, none, some (.int z3), none, none] []) :
    ∀ (n : Nat) (M : mM) (x3 : Int32) (x4 : Int32), m_X2_goThrough_L17 k0 x0 x1 x2 n M x3 x4 = some r → V X Z M cn sn 17 [some (.ref x0), some (.int x1), some (.int x2), some (.int x3), some (.int x4), none] [] := by
  intro n
  induction n with
  | zero => intro M x3 x4 h; rw [m_X2_goThrough_L17] at h; cases h
  | succ n ih =>
    intro M x3 x4 h
    rw [m_X2_goThrough_L17] at h
    refine v_iload G dX2_goThrough_17 rfl ?_
    refine v_aload_n G dX2_goThrough_19 rfl ?_
    obtain ⟨v7, q8, h⟩ := bi_ h
    refine v_getI (f := 2) G cl2 dX2_goThrough_20 w213 (by decide) (by decide) q8 ?_
    refine v_ic_ge 90 G dX2_goThrough_23 (by decide) (fun q9 => ?_) (fun q9 => ?_)
    · rw [if_pos q9] at h
      exact v_mask [false, false, false, true, false, false] rfl (hx0 _ _ h)
    · rw [if_neg q9] at h
      refine v_aload_n G dX2_goThrough_26 rfl ?_
      obtain ⟨b10, q11, h⟩ := bi_ h
      refine v_getR (f := 0) G cl2 dX2_goThrough_27 w211 (by decide) (by decide) q11 ?_
      refine v_aload_n G dX2_goThrough_30 rfl ?_
      obtain ⟨b12, q13, h⟩ := bi_ h
      refine v_getR (f := 1) G cl2 dX2_goThrough_31 w212 (by decide) (by decide) q13 ?_
      obtain ⟨v14, q15, h⟩ := bi_ h
      refine v_getI (f := 4) G cl5 dX2_goThrough_34 w101 (by decide) (by decide) q15 ?_
      refine v_iload G dX2_goThrough_37 rfl ?_
      refine v_iadd G dX2_goThrough_39 ?_
      obtain ⟨q36, h⟩ := if_s h
      obtain ⟨v17, q16, h⟩ := bi_ h
      refine v_callV0 (e_X5_taughtOn q16) G cl5 my_X5_taughtOn rfl w458 w459 w654 dX2_goThrough_40 q36 rfl (Nat.le_of_ble_eq_true rfl) rfl (Nat.le_of_ble_eq_true rfl) hcn hsn ?_
      refine v_istore [some (.ref x0), some (.int x1), some (.int x2), some (.int x3), some (.int x4), some (.int v17)] G dX2_goThrough_43 (Nat.le_of_ble_eq_true rfl) rfl rfl ?_
      refine v_aload_n G dX2_goThrough_45 rfl ?_
      obtain ⟨b18, q19, h⟩ := bi_ h
      refine v_getR (f := 0) G cl2 dX2_goThrough_46 w211 (by decide) (by decide) q19 ?_
      refine v_iload_n G dX2_goThrough_49 rfl ?_
      refine v_iload G dX2_goThrough_50 rfl ?_
      obtain ⟨q35, h⟩ := if_s h
      obtain ⟨v21, q20, h⟩ := bi_ h
      refine v_callV0 (e_X5_knowsIt q20) G cl5 my_X5_knowsIt rfl w469 w470 w589 dX2_goThrough_52 q35 rfl (Nat.le_of_ble_eq_true rfl) rfl (Nat.le_of_ble_eq_true rfl) hcn hsn ?_
      refine v_if_eq 65 G dX2_goThrough_55 (by decide) (fun q22 => ?_) (fun q22 => ?_)
      · rw [if_pos q22] at h
        refine v_iload_n G dX2_goThrough_65 rfl ?_
        refine v_iload G dX2_goThrough_66 rfl ?_
        refine v_ishr G dX2_goThrough_68 ?_
        refine v_iconst G (1 : Int32) dX2_goThrough_69 (by decide) ?_
        refine v_iand G dX2_goThrough_70 ?_
        refine v_if_eq 84 G dX2_goThrough_71 (by decide) (fun q23 => ?_) (fun q23 => ?_)
        · rw [if_pos q23] at h
          refine v_iinc (x4 + (1 : Int32)) [some (.ref x0), some (.int x1), some (.int x2), some (.int x3), some (.int (x4 + (1 : Int32))), some (.int v17)] G dX2_goThrough_84 rfl rfl (Nat.le_of_ble_eq_true rfl) rfl rfl ?_
          refine v_goto 17 G dX2_goThrough_87 (by decide) ?_
          exact v_mask [true, true, true, true, true, false] rfl (ih _ _ _ h)
        · rw [if_neg q23] at h
          refine v_aload_n G dX2_goThrough_74 rfl ?_
          obtain ⟨b24, q25, h⟩ := bi_ h
          refine v_getR (f := 0) G cl2 dX2_goThrough_75 w211 (by decide) (by decide) q25 ?_
          refine v_iload_n G dX2_goThrough_78 rfl ?_
          refine v_iload G dX2_goThrough_79 rfl ?_
          obtain ⟨q28, h⟩ := if_s h
          obtain ⟨M27, q26, h⟩ := bi_ h
          refine v_callV0 (e_X5_hearLesson q26) G cl5 my_X5_hearLesson rfl w473 w474 w655 dX2_goThrough_81 q28 rfl (Nat.le_of_ble_eq_true rfl) rfl (Nat.le_of_ble_eq_true rfl) hcn hsn ?_
          refine v_iinc (x4 + (1 : Int32)) [some (.ref x0), some (.int x1), some (.int x2), some (.int x3), some (.int (x4 + (1 : Int32))), some (.int v17)] G dX2_goThrough_84 rfl rfl (Nat.le_of_ble_eq_true rfl) rfl rfl ?_
          refine v_goto 17 G dX2_goThrough_87 (by decide) ?_
          exact v_mask [true, true, true, true, true, false] rfl (ih _ _ _ h)
      · rw [if_neg q22] at h
        refine v_iload_n G dX2_goThrough_58 rfl ?_
        refine v_iconst G (1 : Int32) dX2_goThrough_59 (by decide) ?_
        refine v_iload G dX2_goThrough_60 rfl ?_
        refine v_ishl G dX2_goThrough_62 ?_
        refine v_ior G dX2_goThrough_63 ?_
        refine v_istore_n [some (.ref x0), some (.int x1), some (.int x2), some (.int (x3 ||| ((1 : Int32) <<< (x4 &&& 31)))), some (.int x4), some (.int v17)] G dX2_goThrough_64 (Nat.le_of_ble_eq_true rfl) rfl rfl ?_
        refine v_iload_n G dX2_goThrough_65 rfl ?_
        refine v_iload G dX2_goThrough_66 rfl ?_
        refine v_ishr G dX2_goThrough_68 ?_
        refine v_iconst G (1 : Int32) dX2_goThrough_69 (by decide) ?_
        refine v_iand G dX2_goThrough_70 ?_
        refine v_if_eq 84 G dX2_goThrough_71 (by decide) (fun q29 => ?_) (fun q29 => ?_)
        · rw [if_pos q29] at h
          refine v_iinc (x4 + (1 : Int32)) [some (.ref x0), some (.int x1), some (.int x2), some (.int (x3 ||| ((1 : Int32) <<< (x4 &&& 31)))), some (.int (x4 + (1 : Int32))), some (.int v17)] G dX2_goThrough_84 rfl rfl (Nat.le_of_ble_eq_true rfl) rfl rfl ?_
          refine v_goto 17 G dX2_goThrough_87 (by decide) ?_
          exact v_mask [true, true, true, true, true, false] rfl (ih _ _ _ h)
        · rw [if_neg q29] at h
          refine v_aload_n G dX2_goThrough_74 rfl ?_
          obtain ⟨b30, q31, h⟩ := bi_ h
          refine v_getR (f := 0) G cl2 dX2_goThrough_75 w211 (by decide) (by decide) q31 ?_
          refine v_iload_n G dX2_goThrough_78 rfl ?_
          refine v_iload G dX2_goThrough_79 rfl ?_
          obtain ⟨q34, h⟩ := if_s h
          obtain ⟨M33, q32, h⟩ := bi_ h
          refine v_callV0 (e_X5_hearLesson q32) G cl5 my_X5_hearLesson rfl w473 w474 w655 dX2_goThrough_81 q34 rfl (Nat.le_of_ble_eq_true rfl) rfl (Nat.le_of_ble_eq_true rfl) hcn hsn ?_
          refine v_iinc (x4 + (1 : Int32)) [some (.ref x0), some (.int x1), some (.int x2), some (.int (x3 ||| ((1 : Int32) <<< (x4 &&& 31)))), some (.int (x4 + (1 : Int32))), some (.int v17)] G dX2_goThrough_84 rfl rfl (Nat.le_of_ble_eq_true rfl) rfl rfl ?_
          refine v_goto 17 G dX2_goThrough_87 (by decide) ?_
          exact v_mask [true, true, true, true, true, false] rfl (ih _ _ _ h)
def m_X2_goThrough (M : mM) (x0 : Nat) (x1 : Int32) (x2 : Int32) : Option (mM × Int32) :=
  (gR M x0 2 0).bind fun b1 =>
  (gR M x0 2 1).bind fun b3 =>
  if isO M b1 5 = true then
  (m_X5_becomePupil M b1 b3 x1).bind fun M6 =>
  m_X2_goThrough_L17
    (fun M37 v38 =>
      some (M37, v38))
    x0 x1 x2 FU M6 (0 : Int32) (0 : Int32)
  else none
theorem e_X2_goThrough {Z : zZ} {M : mM} {N : mM} {x0 : Nat} {x1 : Int32} {x2 : Int32} {r : Int32} (h : m_X2_goThrough M x0 x1 x2 = some (N, r)) : EM Z yX2_goThrough cX2_goThrough 6 (some .int) 4 0 0 [.ref x0, .int x1, .int x2] M N (some (.int r)) := by
  refine EM_of my_X2_goThrough (Nat.le_of_ble_eq_true rfl) (fun X G F => ?_)
  show V X Z M 0 0 0 [some (.ref x0), some (.int x1), some (.int x2), none, none, none] []
  unfold m_X2_goThrough at h
  refine v_aload_n G dX2_goThrough_0 rfl ?_
  obtain ⟨b1, q2, h⟩ := bi_ h
  refine v_getR (f := 0) G cl2 dX2_goThrough_1 w211 (by decide) (by decide) q2 ?_
  refine v_aload_n G dX2_goThrough_4 rfl ?_
  obtain ⟨b3, q4, h⟩ := bi_ h
  refine v_getR (f := 1) G cl2 dX2_goThrough_5 w212 (by decide) (by decide) q4 ?_
  refine v_iload_n G dX2_goThrough_8 rfl ?_
  obtain ⟨q39, h⟩ := if_s h
  obtain ⟨M6, q5, h⟩ := bi_ h
  refine v_callV0 (e_X5_becomePupil q5) G cl5 my_X5_becomePupil rfl w651 w652 w650 dX2_goThrough_9 q39 rfl (Nat.le_of_ble_eq_true rfl) rfl (Nat.le_of_ble_eq_true rfl) (Nat.zero_le _) (Nat.zero_le _) ?_
  refine v_iconst G (0 : Int32) dX2_goThrough_12 (by decide) ?_
  refine v_istore_n [some (.ref x0), some (.int x1), some (.int x2), some (.int (0 : Int32)), none, none] G dX2_goThrough_13 (Nat.le_of_ble_eq_true rfl) rfl rfl ?_
  refine v_iconst G (0 : Int32) dX2_goThrough_14 (by decide) ?_
  refine v_istore [some (.ref x0), some (.int x1), some (.int x2), some (.int (0 : Int32)), some (.int (0 : Int32)), none] G dX2_goThrough_15 (Nat.le_of_ble_eq_true rfl) rfl rfl ?_
  refine v_mask [true, true, true, true, true, false] rfl ?_
  refine e_X2_goThrough_L17 G (Nat.zero_le _) (Nat.zero_le _) _ _ _ (fun M37 v38 h => ?_) FU _ _ _ h
  refine v_iload_n G dX2_goThrough_90 rfl ?_
  cases h
  exact v_iret G F dX2_goThrough_91 rfl (Nat.le_refl _)
/-! X2_weigh -/
def m_X2_weigh (M : mM) (x0 : Nat) (x1 : Int32) : Option mM :=
  (gI M x0 2 3).bind fun v1 =>
  if x1 ≤ v1 then (
    some M
  ) else (
    (pI M x0 2 3 x1).bind fun M4 =>
    (gR M4 x0 2 5).bind fun b6 =>
    (gR M4 x0 2 4).bind fun b8 =>
    (cpI M4 b6 (0 : Int32) b8 (0 : Int32) (6 : Int32)).bind fun M10 =>
    some M10
  )
theorem e_X2_weigh {Z : zZ} {M : mM} {N : mM} {x0 : Nat} {x1 : Int32} (h : m_X2_weigh M x0 x1 = some N) : EM Z yX2_weigh cX2_weigh 2 none 1 0 0 [.ref x0, .int x1] M N none := by
  refine EM_of my_X2_weigh (Nat.le_of_ble_eq_true rfl) (fun X G F => ?_)
  show V X Z M 0 0 0 [some (.ref x0), some (.int x1)] []
  unfold m_X2_weigh at h
  refine v_iload_n G dX2_weigh_0 rfl ?_
  refine v_aload_n G dX2_weigh_1 rfl ?_
  obtain ⟨v1, q2, h⟩ := bi_ h
  refine v_getI (f := 3) G cl2 dX2_weigh_2 w214 (by decide) (by decide) q2 ?_
  refine v_ic_le 28 G dX2_weigh_5 (by decide) (fun q3 => ?_) (fun q3 => ?_)
  · rw [if_pos q3] at h
    cases h
    exact v_vret G F dX2_weigh_28 rfl (Nat.le_refl _)
  · rw [if_neg q3] at h
    refine v_aload_n G dX2_weigh_8 rfl ?_
    refine v_iload_n G dX2_weigh_9 rfl ?_
    obtain ⟨M4, q5, h⟩ := bi_ h
    refine v_putI (f := 3) G cl2 dX2_weigh_10 w214 (by decide) (by decide) (by decide) rfl rfl q5 ?_
    refine v_aload_n G dX2_weigh_13 rfl ?_
    obtain ⟨b6, q7, h⟩ := bi_ h
    refine v_getR (f := 5) G cl2 dX2_weigh_14 w218 (by decide) (by decide) q7 ?_
    refine v_iconst G (0 : Int32) dX2_weigh_17 (by decide) ?_
    refine v_aload_n G dX2_weigh_18 rfl ?_
    obtain ⟨b8, q9, h⟩ := bi_ h
    refine v_getR (f := 4) G cl2 dX2_weigh_19 w216 (by decide) (by decide) q9 ?_
    refine v_iconst G (0 : Int32) dX2_weigh_22 (by decide) ?_
    refine v_bipush G (6 : Int32) dX2_weigh_23 (by decide) ?_
    obtain ⟨M10, q11, h⟩ := bi_ h
    refine v_copy G w644 w362 w361 w67 dX2_weigh_25 q11 (Nat.le_of_ble_eq_true rfl) rfl (by decide) ?_
    cases h
    exact v_vret G F dX2_weigh_28 rfl (Nat.le_refl _)
/-! X2_fillSeat -/
def m_X2_fillSeat_L27 {ρ : Type} (k0 : mM → Option ρ) (rc : mM → Nat → Int32 → Int32 → Int32 → Int32 → Option mM) (x0 : Nat) (x1 : Int32) (x2 : Int32) (x3 : Int32) (x4 : Int32) : Nat → mM → Int32 → Option ρ
  | 0, _, _ => none
  | n + 1, M, x5 =>
    (gR M x0 2 0).bind fun b10 =>
    (gI M b10 5 3).bind fun v12 =>
    if v12 ≤ x5 then (
      k0 M
    ) else (
      if ((x2 >>> (x5 &&& 31)) &&& (1 : Int32)) = (0 : Int32) then (
        (gR M x0 2 5).bind fun b16 =>
        (stI M b16 x1 x5).bind fun M18 =>
        (gR M18 x0 2 0).bind fun b20 =>
        if isO M18 b20 5 = true then
        (m_X5_hearsAnyway M18 b20 x5 x1).bind fun v23 =>
        if v23 = (0 : Int32) then (
          if isO M18 x0 2 = true then
          bd2 (m_X2_goThrough M18 x0 x5 x3) fun M26 v27 =>
          (gR M26 x0 2 0).bind fun b28 =>
          if isO M26 b28 5 = true then
          (m_X5_form M26 b28 x5).bind fun v31 =>
          (rc M26 x0 (x1 + (1 : Int32)) (x2 ||| ((1 : Int32) <<< (x5 &&& 31))) v27 (x4 + v31)).bind fun M33 =>
          m_X2_fillSeat_L27 k0 rc x0 x1 x2 x3 x4 n M33 (x5 + (1 : Int32))
          else none
          else none
        ) else (
          if isO M18 x0 2 = true then
          bd2 (m_X2_goThrough M18 x0 x5 (-1 : Int32)) fun M37 v38 =>
          (gR M37 x0 2 0).bind fun b39 =>
          if isO M37 b39 5 = true then
          (m_X5_form M37 b39 x5).bind fun v42 =>
          (rc M37 x0 (x1 + (1 : Int32)) (x2 ||| ((1 : Int32) <<< (x5 &&& 31))) v38 (x4 + v42)).bind fun M44 =>
          m_X2_fillSeat_L27 k0 rc x0 x1 x2 x3 x4 n M44 (x5 + (1 : Int32))
          else none
          else none
        )
        else none
      ) else (
        m_X2_fillSeat_L27 k0 rc x0 x1 x2 x3 x4 n M (x5 + (1 : Int32))
      )
    )
theorem e_X2_fillSeat_L27 {X : xX} {Z : zZ} {cn sn : Nat} {d d1 : Nat} {rc : mM → Nat → Int32 → Int32 → Int32 → Int32 → Option mM} {ρ : Type} {r : ρ} {k0 : mM → Option ρ} (G : ok_ X Z yX2_fillSeat cX2_fillSeat 8 d 0 0) (hdl : 5 ≤ d) (hd1 : d1 + 1 ≤ d) (hrc : ∀ (M N : mM) (x0 : Nat) (x1 : Int32) (x2 : Int32) (x3 : Int32) (x4 : Int32), rc M x0 x1 x2 x3 x4 = some N → EM Z yX2_fillSeat cX2_fillSeat 8 none d1 0 0 [.ref x0, .int x1, .int x2, .int x3, .int x4] M N none) (hcn : cn ≤ 0) (hsn : sn ≤ 0) (x0 : Nat) (x1 : Int32) (x2 : Int32) (x3 : Int32) (x4 : Int32)
    (hx0 : ∀ (N : mM), k0 N = some r → V X Z N cn sn 119 [none, none, none, none, none, none, none, none] []) :
    ∀ (n : Nat) (M : mM) (x5 : Int32), m_X2_fillSeat_L27 k0 rc x0 x1 x2 x3 x4 n M x5 = some r → V X Z M cn sn 27 [some (.ref x0), some (.int x1), some (.int x2), some (.int x3), some (.int x4), some (.int x5), none, none] [] := by
  intro n
  induction n with
  | zero => intro M x5 h; rw [m_X2_fillSeat_L27] at h; cases h
  | succ n ih =>
    intro M x5 h
    rw [m_X2_fillSeat_L27] at h
    refine v_iload G dX2_fillSeat_27 rfl ?_
    refine v_aload_n G dX2_fillSeat_29 rfl ?_
    obtain ⟨b10, q11, h⟩ := bi_ h
    refine v_getR (f := 0) G cl2 dX2_fillSeat_30 w211 (by decide) (by decide) q11 ?_
    obtain ⟨v12, q13, h⟩ := bi_ h
    refine v_getI (f := 3) G cl5 dX2_fillSeat_33 w97 (by decide) (by decide) q13 ?_
    refine v_ic_ge 119 G dX2_fillSeat_36 (by decide) (fun q14 => ?_) (fun q14 => ?_)
    · rw [if_pos q14] at h
      exact v_mask [false, false, false, false, false, false, false, false] rfl (hx0 _ h)
    · rw [if_neg q14] at h
      refine v_iload_n G dX2_fillSeat_39 rfl ?_
      refine v_iload G dX2_fillSeat_40 rfl ?_
      refine v_ishr G dX2_fillSeat_42 ?_
      refine v_iconst G (1 : Int32) dX2_fillSeat_43 (by decide) ?_
      refine v_iand G dX2_fillSeat_44 ?_
      refine v_if_ne 113 G dX2_fillSeat_45 (by decide) (fun q15 => ?_) (fun q15 => ?_)
      · rw [if_neg q15] at h
        refine v_iinc (x5 + (1 : Int32)) [some (.ref x0), some (.int x1), some (.int x2), some (.int x3), some (.int x4), some (.int (x5 + (1 : Int32))), none, none] G dX2_fillSeat_113 rfl rfl (Nat.le_of_ble_eq_true rfl) rfl rfl ?_
        refine v_goto 27 G dX2_fillSeat_116 (by decide) ?_
        exact v_mask [true, true, true, true, true, true, false, false] rfl (ih _ _ h)
      · rw [if_pos q15] at h
        refine v_aload_n G dX2_fillSeat_48 rfl ?_
        obtain ⟨b16, q17, h⟩ := bi_ h
        refine v_getR (f := 5) G cl2 dX2_fillSeat_49 w218 (by decide) (by decide) q17 ?_
        refine v_iload_n G dX2_fillSeat_52 rfl ?_
        refine v_iload G dX2_fillSeat_53 rfl ?_
        obtain ⟨M18, q19, h⟩ := bi_ h
        refine v_iast G dX2_fillSeat_55 q19 ?_
        refine v_aload_n G dX2_fillSeat_56 rfl ?_
        obtain ⟨b20, q21, h⟩ := bi_ h
        refine v_getR (f := 0) G cl2 dX2_fillSeat_57 w211 (by decide) (by decide) q21 ?_
        refine v_iload G dX2_fillSeat_60 rfl ?_
        refine v_iload_n G dX2_fillSeat_62 rfl ?_
        obtain ⟨q47, h⟩ := if_s h
        obtain ⟨v23, q22, h⟩ := bi_ h
        refine v_callV0 (e_X5_hearsAnyway q22) G cl5 my_X5_hearsAnyway rfl w462 w463 w645 dX2_fillSeat_63 q47 rfl (Nat.le_of_ble_eq_true rfl) rfl (by omega) hcn hsn ?_
        refine v_if_eq 73 G dX2_fillSeat_66 (by decide) (fun q24 => ?_) (fun q24 => ?_)
        · rw [if_pos q24] at h
          refine v_iload_n G dX2_fillSeat_73 rfl ?_
          refine v_istore [some (.ref x0), some (.int x1), some (.int x2), some (.int x3), some (.int x4), some (.int x5), some (.int x3), none] G dX2_fillSeat_74 (Nat.le_of_ble_eq_true rfl) rfl rfl ?_
          refine v_aload_n G dX2_fillSeat_76 rfl ?_
          refine v_iload G dX2_fillSeat_77 rfl ?_
          refine v_iload G dX2_fillSeat_79 rfl ?_
          obtain ⟨q35, h⟩ := if_s h
          obtain ⟨M26, v27, q25, h⟩ := bi2_ h
          refine v_callV0 (e_X2_goThrough q25) G cl2 my_X2_goThrough rfl w648 w17 w646 dX2_fillSeat_81 q35 rfl (Nat.le_of_ble_eq_true rfl) rfl (by omega) hcn hsn ?_
          refine v_istore [some (.ref x0), some (.int x1), some (.int x2), some (.int x3), some (.int x4), some (.int x5), some (.int x3), some (.int v27)] G dX2_fillSeat_84 (Nat.le_of_ble_eq_true rfl) rfl rfl ?_
          refine v_aload_n G dX2_fillSeat_86 rfl ?_
          refine v_iload_n G dX2_fillSeat_87 rfl ?_
          refine v_iconst G (1 : Int32) dX2_fillSeat_88 (by decide) ?_
          refine v_iadd G dX2_fillSeat_89 ?_
          refine v_iload_n G dX2_fillSeat_90 rfl ?_
          refine v_iconst G (1 : Int32) dX2_fillSeat_91 (by decide) ?_
          refine v_iload G dX2_fillSeat_92 rfl ?_
          refine v_ishl G dX2_fillSeat_94 ?_
          refine v_ior G dX2_fillSeat_95 ?_
          refine v_iload G dX2_fillSeat_96 rfl ?_
          refine v_iload G dX2_fillSeat_98 rfl ?_
          refine v_aload_n G dX2_fillSeat_100 rfl ?_
          obtain ⟨b28, q29, h⟩ := bi_ h
          refine v_getR (f := 0) G cl2 dX2_fillSeat_101 w211 (by decide) (by decide) q29 ?_
          refine v_iload G dX2_fillSeat_104 rfl ?_
          obtain ⟨q34, h⟩ := if_s h
          obtain ⟨v31, q30, h⟩ := bi_ h
          refine v_callV0 (e_X5_form q30) G cl5 my_X5_form rfl w499 w500 w656 dX2_fillSeat_106 q34 rfl (Nat.le_of_ble_eq_true rfl) rfl (by omega) hcn hsn ?_
          refine v_iadd G dX2_fillSeat_109 ?_
          obtain ⟨M33, q32, h⟩ := bi_ h
          refine v_callS0 (hrc _ _ _ _ _ _ _ q32) G my_X2_fillSeat w638 w637 dX2_fillSeat_110 rfl (Nat.le_of_ble_eq_true rfl) rfl hd1 hcn hsn ?_
          refine v_iinc (x5 + (1 : Int32)) [some (.ref x0), some (.int x1), some (.int x2), some (.int x3), some (.int x4), some (.int (x5 + (1 : Int32))), some (.int x3), some (.int v27)] G dX2_fillSeat_113 rfl rfl (Nat.le_of_ble_eq_true rfl) rfl rfl ?_
          refine v_goto 27 G dX2_fillSeat_116 (by decide) ?_
          exact v_mask [true, true, true, true, true, true, false, false] rfl (ih _ _ h)
        · rw [if_neg q24] at h
          refine v_iconst G (-1 : Int32) dX2_fillSeat_69 (by decide) ?_
          refine v_goto 74 G dX2_fillSeat_70 (by decide) ?_
          refine v_istore [some (.ref x0), some (.int x1), some (.int x2), some (.int x3), some (.int x4), some (.int x5), some (.int (-1 : Int32)), none] G dX2_fillSeat_74 (Nat.le_of_ble_eq_true rfl) rfl rfl ?_
          refine v_aload_n G dX2_fillSeat_76 rfl ?_
          refine v_iload G dX2_fillSeat_77 rfl ?_
          refine v_iload G dX2_fillSeat_79 rfl ?_
          obtain ⟨q46, h⟩ := if_s h
          obtain ⟨M37, v38, q36, h⟩ := bi2_ h
          refine v_callV0 (e_X2_goThrough q36) G cl2 my_X2_goThrough rfl w648 w17 w646 dX2_fillSeat_81 q46 rfl (Nat.le_of_ble_eq_true rfl) rfl (by omega) hcn hsn ?_
          refine v_istore [some (.ref x0), some (.int x1), some (.int x2), some (.int x3), some (.int x4), some (.int x5), some (.int (-1 : Int32)), some (.int v38)] G dX2_fillSeat_84 (Nat.le_of_ble_eq_true rfl) rfl rfl ?_
          refine v_aload_n G dX2_fillSeat_86 rfl ?_
          refine v_iload_n G dX2_fillSeat_87 rfl ?_
          refine v_iconst G (1 : Int32) dX2_fillSeat_88 (by decide) ?_
          refine v_iadd G dX2_fillSeat_89 ?_
          refine v_iload_n G dX2_fillSeat_90 rfl ?_
          refine v_iconst G (1 : Int32) dX2_fillSeat_91 (by decide) ?_
          refine v_iload G dX2_fillSeat_92 rfl ?_
          refine v_ishl G dX2_fillSeat_94 ?_
          refine v_ior G dX2_fillSeat_95 ?_
          refine v_iload G dX2_fillSeat_96 rfl ?_
          refine v_iload G dX2_fillSeat_98 rfl ?_
          refine v_aload_n G dX2_fillSeat_100 rfl ?_
          obtain ⟨b39, q40, h⟩ := bi_ h
          refine v_getR (f := 0) G cl2 dX2_fillSeat_101 w211 (by decide) (by decide) q40 ?_
          refine v_iload G dX2_fillSeat_104 rfl ?_
          obtain ⟨q45, h⟩ := if_s h
          obtain ⟨v42, q41, h⟩ := bi_ h
          refine v_callV0 (e_X5_form q41) G cl5 my_X5_form rfl w499 w500 w656 dX2_fillSeat_106 q45 rfl (Nat.le_of_ble_eq_true rfl) rfl (by omega) hcn hsn ?_
          refine v_iadd G dX2_fillSeat_109 ?_
          obtain ⟨M44, q43, h⟩ := bi_ h
          refine v_callS0 (hrc _ _ _ _ _ _ _ q43) G my_X2_fillSeat w638 w637 dX2_fillSeat_110 rfl (Nat.le_of_ble_eq_true rfl) rfl hd1 hcn hsn ?_
          refine v_iinc (x5 + (1 : Int32)) [some (.ref x0), some (.int x1), some (.int x2), some (.int x3), some (.int x4), some (.int (x5 + (1 : Int32))), some (.int (-1 : Int32)), some (.int v38)] G dX2_fillSeat_113 rfl rfl (Nat.le_of_ble_eq_true rfl) rfl rfl ?_
          refine v_goto 27 G dX2_fillSeat_116 (by decide) ?_
          exact v_mask [true, true, true, true, true, true, false, false] rfl (ih _ _ h)
def m_X2_fillSeat : Nat → mM → Nat → Int32 → Int32 → Int32 → Int32 → Option mM
  | 0, _, _, _, _, _, _ => none
  | n + 1, M, x0, x1, x2, x3, x4 =>
    (gR M x0 2 0).bind fun b1 =>
    (gI M b1 5 3).bind fun v3 =>
    if v3 ≤ x1 then (
      if isO M x0 2 = true then
      (m_X2_weigh M x0 x4).bind fun M7 =>
      some M7
      else none
    ) else (
      if x1 < (6 : Int32) then (
        m_X2_fillSeat_L27
          (fun M48 =>
            some M48)
          (m_X2_fillSeat n) x0 x1 x2 x3 x4 FU M (0 : Int32)
      ) else (
        if isO M x0 2 = true then
        (m_X2_weigh M x0 x4).bind fun M50 =>
        some M50
        else none
      )
    )
theorem e_X2_fillSeata {Z : zZ} : ∀ {n : Nat} {M N : mM} {x0 : Nat} {x1 : Int32} {x2 : Int32} {x3 : Int32} {x4 : Int32} (h : m_X2_fillSeat n M x0 x1 x2 x3 x4 = some N), EM Z yX2_fillSeat cX2_fillSeat 8 none (5 + n) 0 0 [.ref x0, .int x1, .int x2, .int x3, .int x4] M N none := by
  intro n
  induction n with
  | zero => intro M N x0 x1 x2 x3 x4 h; rw [m_X2_fillSeat] at h; cases h
  | succ n ih =>
    intro M N x0 x1 x2 x3 x4 h
    refine EM_of my_X2_fillSeat (Nat.le_of_ble_eq_true rfl) (fun X G F => ?_)
    show V X Z M 0 0 0 [some (.ref x0), some (.int x1), some (.int x2), some (.int x3), some (.int x4), none, none, none] []
    have hdl : 5 ≤ 5 + (n + 1) := by omega
    have hd1 : (5 + n) + 1 ≤ 5 + (n + 1) := by omega
    have hrc : ∀ (M N : mM) (x0 : Nat) (x1 : Int32) (x2 : Int32) (x3 : Int32) (x4 : Int32), m_X2_fillSeat n M x0 x1 x2 x3 x4 = some N → EM Z yX2_fillSeat cX2_fillSeat 8 none (5 + n) 0 0 [.ref x0, .int x1, .int x2, .int x3, .int x4] M N none := fun M N x0 x1 x2 x3 x4 h => ih h
    rw [m_X2_fillSeat] at h
    refine v_iload_n G dX2_fillSeat_0 rfl ?_
    refine v_aload_n G dX2_fillSeat_1 rfl ?_
    obtain ⟨b1, q2, h⟩ := bi_ h
    refine v_getR (f := 0) G cl2 dX2_fillSeat_2 w211 (by decide) (by decide) q2 ?_
    obtain ⟨v3, q4, h⟩ := bi_ h
    refine v_getI (f := 3) G cl5 dX2_fillSeat_5 w97 (by decide) (by decide) q4 ?_
    refine v_ic_ge 17 G dX2_fillSeat_8 (by decide) (fun q5 => ?_) (fun q5 => ?_)
    · rw [if_pos q5] at h
      refine v_aload_n G dX2_fillSeat_17 rfl ?_
      refine v_iload G dX2_fillSeat_18 rfl ?_
      obtain ⟨q8, h⟩ := if_s h
      obtain ⟨M7, q6, h⟩ := bi_ h
      refine v_callV0 (e_X2_weigh q6) G cl2 my_X2_weigh rfl w642 w16 w640 dX2_fillSeat_20 q8 rfl (Nat.le_of_ble_eq_true rfl) rfl (by omega) (Nat.zero_le _) (Nat.zero_le _) ?_
      cases h
      exact v_vret G F dX2_fillSeat_23 rfl (Nat.le_refl _)
    · rw [if_neg q5] at h
      refine v_iload_n G dX2_fillSeat_11 rfl ?_
      refine v_bipush G (6 : Int32) dX2_fillSeat_12 (by decide) ?_
      refine v_ic_lt 24 G dX2_fillSeat_14 (by decide) (fun q9 => ?_) (fun q9 => ?_)
      · rw [if_pos q9] at h
        refine v_iconst G (0 : Int32) dX2_fillSeat_24 (by decide) ?_
        refine v_istore [some (.ref x0), some (.int x1), some (.int x2), some (.int x3), some (.int x4), some (.int (0 : Int32)), none, none] G dX2_fillSeat_25 (Nat.le_of_ble_eq_true rfl) rfl rfl ?_
        refine v_mask [true, true, true, true, true, true, false, false] rfl ?_
        refine e_X2_fillSeat_L27 G hdl hd1 hrc (Nat.zero_le _) (Nat.zero_le _) _ _ _ _ _ (fun M48 h => ?_) FU _ _ h
        cases h
        exact v_vret G F dX2_fillSeat_119 rfl (Nat.le_refl _)
      · rw [if_neg q9] at h
        refine v_aload_n G dX2_fillSeat_17 rfl ?_
        refine v_iload G dX2_fillSeat_18 rfl ?_
        obtain ⟨q51, h⟩ := if_s h
        obtain ⟨M50, q49, h⟩ := bi_ h
        refine v_callV0 (e_X2_weigh q49) G cl2 my_X2_weigh rfl w642 w16 w640 dX2_fillSeat_20 q51 rfl (Nat.le_of_ble_eq_true rfl) rfl (by omega) (Nat.zero_le _) (Nat.zero_le _) ?_
        cases h
        exact v_vret G F dX2_fillSeat_23 rfl (Nat.le_refl _)
theorem e_X2_fillSeat {Z : zZ} {M N : mM} {x0 : Nat} {x1 : Int32} {x2 : Int32} {x3 : Int32} {x4 : Int32} (h : m_X2_fillSeat 8 M x0 x1 x2 x3 x4 = some N) : EM Z yX2_fillSeat cX2_fillSeat 8 none (5 + 8) 0 0 [.ref x0, .int x1, .int x2, .int x3, .int x4] M N none := e_X2_fillSeata h
