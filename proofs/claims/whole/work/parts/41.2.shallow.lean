/-! X7_days -/
def m_X7_days_L49 {ρ : Type} (k0 : mM → Option ρ) (x0 : Nat) (x1 : Int32) : Nat → mM → Int32 → Option ρ
  | 0, _, _ => none
  | n + 1, M, x2 =>
    if x1 ≤ x2 then (
      k0 M
    ) else (
      if isO M x0 7 = true then
      (m_X7_keep M x0).bind fun M16 =>
      (gR M16 x0 7 5).bind fun b17 =>
      if isO M16 x0 7 = true then
      (m_X7_dayBy M16 x0 b17 (0 : Int32)).bind fun M20 =>
      m_X7_days_L49 k0 x0 x1 n M20 (x2 + (1 : Int32))
      else none
      else none
    )
theorem e_X7_days_L49 {X : xX} {Z : zZ} {cn sn : Nat} {ρ : Type} {r : ρ} {k0 : mM → Option ρ} (G : ok_ X Z yX7_days cX7_days 3 4 0 0) (hcn : cn ≤ 0) (hsn : sn ≤ 0) (x0 : Nat) (x1 : Int32)
    (hx0 : ∀ (N : mM), k0 N = some r → V X Z N cn sn 73 [some (.ref x0), none, none] []) :
    ∀ (n : Nat) (M : mM) (x2 : Int32), m_X7_days_L49 k0 x0 x1 n M x2 = some r → V X Z M cn sn 49 [some (.ref x0), some (.int x1), some (.int x2)] [] := by
  intro n
  induction n with
  | zero => intro M x2 h; rw [m_X7_days_L49] at h; cases h
  | succ n ih =>
    intro M x2 h
    rw [m_X7_days_L49] at h
    refine v_iload_n G dX7_days_49 rfl ?_
    refine v_iload_n G dX7_days_50 rfl ?_
    refine v_ic_ge 73 G dX7_days_51 (by decide) (fun q14 => ?_) (fun q14 => ?_)
    · rw [if_pos q14] at h
      exact v_mask [true, false, false] rfl (hx0 _ h)
    · rw [if_neg q14] at h
      refine v_aload_n G dX7_days_54 rfl ?_
      obtain ⟨q22, h⟩ := if_s h
      obtain ⟨M16, q15, h⟩ := bi_ h
      refine v_callV0 (e_X7_keep q15) G cl7 my_X7_keep rfl w1032 w39 w1030 dX7_days_55 q22 rfl (Nat.le_of_ble_eq_true rfl) rfl (Nat.le_of_ble_eq_true rfl) hcn hsn ?_
      refine v_aload_n G dX7_days_58 rfl ?_
      refine v_aload_n G dX7_days_59 rfl ?_
      obtain ⟨b17, q18, h⟩ := bi_ h
      refine v_getR (f := 5) G cl7 dX7_days_60 w844 (by decide) (by decide) q18 ?_
      refine v_iconst G (0 : Int32) dX7_days_63 (by decide) ?_
      obtain ⟨q21, h⟩ := if_s h
      obtain ⟨M20, q19, h⟩ := bi_ h
      refine v_callV0 (e_X7_dayBy q19) G cl7 my_X7_dayBy rfl w1036 w40 w1034 dX7_days_64 q21 rfl (Nat.le_of_ble_eq_true rfl) rfl (Nat.le_of_ble_eq_true rfl) hcn hsn ?_
      refine v_iinc (x2 + (1 : Int32)) [some (.ref x0), some (.int x1), some (.int (x2 + (1 : Int32)))] G dX7_days_67 rfl rfl (Nat.le_of_ble_eq_true rfl) rfl rfl ?_
      refine v_goto 49 G dX7_days_70 (by decide) ?_
      exact v_mask [true, true, true] rfl (ih _ _ h)
def m_X7_days (M : mM) (x0 : Nat) (x1 : Int32) : Option (mM × Int32) :=
  (pI M x0 7 0 (0 : Int32)).bind fun M1 =>
  if isO M1 x0 7 = true then
  (m_X7_isThere M1 x0).bind fun v4 =>
  if v4 = (0 : Int32) then (
    some (M1, (-1000002 : Int32))
  ) else (
    (m_X7_in M1 (Int32.toInt64 x1) (1 : Int64) (24 : Int64)).bind fun v7 =>
    if v7 = (0 : Int32) then (
      some (M1, (-1000001 : Int32))
    ) else (
      (gR M1 x0 7 5).bind fun b9 =>
      (ldI M1 b9 (3 : Int32)).bind fun v12 =>
      if (v12 + x1) ≤ (999 : Int32) then (
        m_X7_days_L49
          (fun M23 =>
            (gR M23 x0 7 5).bind fun b24 =>
            (m_X7_known M23 b24).bind fun v27 =>
            some (M23, v27))
          x0 x1 FU M1 (0 : Int32)
      ) else (
        some (M1, (-1000003 : Int32))
      )
    )
  )
  else none
theorem e_X7_days {Z : zZ} {M : mM} {N : mM} {x0 : Nat} {x1 : Int32} {r : Int32} (h : m_X7_days M x0 x1 = some (N, r)) : EM Z yX7_days cX7_days 3 (some .int) 4 0 0 [.ref x0, .int x1] M N (some (.int r)) := by
  refine EM_of my_X7_days (Nat.le_of_ble_eq_true rfl) (fun X G F => ?_)
  show V X Z M 0 0 0 [some (.ref x0), some (.int x1), none] []
  unfold m_X7_days at h
  refine v_aload_n G dX7_days_0 rfl ?_
  refine v_iconst G (0 : Int32) dX7_days_1 (by decide) ?_
  obtain ⟨M1, q2, h⟩ := bi_ h
  refine v_putI (f := 0) G cl7 dX7_days_2 w839 (by decide) (by decide) (by decide) rfl rfl q2 ?_
  refine v_aload_n G dX7_days_5 rfl ?_
  obtain ⟨q28, h⟩ := if_s h
  obtain ⟨v4, q3, h⟩ := bi_ h
  refine v_callV0 (e_X7_isThere q3) G cl7 my_X7_isThere rfl w1026 w38 w1024 dX7_days_6 q28 rfl (Nat.le_of_ble_eq_true rfl) rfl (Nat.le_of_ble_eq_true rfl) (Nat.zero_le _) (Nat.zero_le _) ?_
  refine v_if_ne 15 G dX7_days_9 (by decide) (fun q5 => ?_) (fun q5 => ?_)
  · rw [if_neg q5] at h
    refine v_iload_n G dX7_days_15 rfl ?_
    refine v_i2l G dX7_days_16 ?_
    refine v_lconst G (1 : Int64) dX7_days_17 (by decide) ?_
    refine v_ldc2 G (24 : Int64) dX7_days_18 w1029 ?_
    obtain ⟨v7, q6, h⟩ := bi_ h
    refine v_callS0 (e_X7_in q6) G my_X7_in w928 w927 dX7_days_21 rfl (Nat.le_of_ble_eq_true rfl) rfl (Nat.le_of_ble_eq_true rfl) (Nat.zero_le _) (Nat.zero_le _) ?_
    refine v_if_ne 30 G dX7_days_24 (by decide) (fun q8 => ?_) (fun q8 => ?_)
    · rw [if_neg q8] at h
      refine v_aload_n G dX7_days_30 rfl ?_
      obtain ⟨b9, q10, h⟩ := bi_ h
      refine v_getR (f := 5) G cl7 dX7_days_31 w844 (by decide) (by decide) q10 ?_
      refine v_iconst G (3 : Int32) dX7_days_34 (by decide) ?_
      obtain ⟨v12, q11, h⟩ := bi_ h
      refine v_iald G dX7_days_35 q11 ?_
      refine v_iload_n G dX7_days_36 rfl ?_
      refine v_iadd G dX7_days_37 ?_
      refine v_sipush G (999 : Int32) dX7_days_38 (by decide) ?_
      refine v_ic_le 47 G dX7_days_41 (by decide) (fun q13 => ?_) (fun q13 => ?_)
      · rw [if_pos q13] at h
        refine v_iconst G (0 : Int32) dX7_days_47 (by decide) ?_
        refine v_istore_n [some (.ref x0), some (.int x1), some (.int (0 : Int32))] G dX7_days_48 (Nat.le_of_ble_eq_true rfl) rfl rfl ?_
        refine v_mask [true, true, true] rfl ?_
        refine e_X7_days_L49 G (Nat.zero_le _) (Nat.zero_le _) _ _ (fun M23 h => ?_) FU _ _ h
        refine v_aload_n G dX7_days_73 rfl ?_
        obtain ⟨b24, q25, h⟩ := bi_ h
        refine v_getR (f := 5) G cl7 dX7_days_74 w844 (by decide) (by decide) q25 ?_
        obtain ⟨v27, q26, h⟩ := bi_ h
        refine v_callS0 (e_X7_known q26) G my_X7_known w1066 w1065 dX7_days_77 rfl (Nat.le_of_ble_eq_true rfl) rfl (Nat.le_of_ble_eq_true rfl) (Nat.zero_le _) (Nat.zero_le _) ?_
        cases h
        exact v_iret G F dX7_days_80 rfl (Nat.le_refl _)
      · rw [if_neg q13] at h
        refine v_ldc G (-1000003 : Int32) dX7_days_44 w954 ?_
        cases h
        exact v_iret G F dX7_days_46 rfl (Nat.le_refl _)
    · rw [if_pos q8] at h
      refine v_ldc G (-1000001 : Int32) dX7_days_27 w931 ?_
      cases h
      exact v_iret G F dX7_days_29 rfl (Nat.le_refl _)
  · rw [if_pos q5] at h
    refine v_ldc G (-1000002 : Int32) dX7_days_12 w1028 ?_
    cases h
    exact v_iret G F dX7_days_14 rfl (Nat.le_refl _)
/-! X7_change -/
def m_X7_change (M : mM) (x0 : Nat) (x1 : Int32) (x2 : Int32) : Option (mM × Int32) :=
  (pI M x0 7 0 (0 : Int32)).bind fun M1 =>
  if isO M1 x0 7 = true then
  (m_X7_isPupil M1 x0 x1).bind fun v4 =>
  if v4 = (0 : Int32) then (
    some (M1, (-1000001 : Int32))
  ) else (
    if isO M1 x0 7 = true then
    (m_X7_isPupil M1 x0 x2).bind fun v7 =>
    if v7 = (0 : Int32) then (
      some (M1, (-1000001 : Int32))
    ) else (
      if x1 = x2 then (
        some (M1, (-1000001 : Int32))
      ) else (
        if isO M1 x0 7 = true then
        (m_X7_keep M1 x0).bind fun M11 =>
        (gR M11 x0 7 5).bind fun b12 =>
        (m_X7_exchange M11 b12 x1 x2).bind fun M15 =>
        (gR M15 x0 7 5).bind fun b16 =>
        (m_X7_of M15 b16 x1 (1 : Int32)).bind fun v19 =>
        some (M15, v19)
        else none
      )
    )
    else none
  )
  else none
theorem e_X7_change {Z : zZ} {M : mM} {N : mM} {x0 : Nat} {x1 : Int32} {x2 : Int32} {r : Int32} (h : m_X7_change M x0 x1 x2 = some (N, r)) : EM Z yX7_change cX7_change 3 (some .int) 2 0 0 [.ref x0, .int x1, .int x2] M N (some (.int r)) := by
  refine EM_of my_X7_change (Nat.le_of_ble_eq_true rfl) (fun X G F => ?_)
  show V X Z M 0 0 0 [some (.ref x0), some (.int x1), some (.int x2)] []
  unfold m_X7_change at h
  refine v_aload_n G dX7_change_0 rfl ?_
  refine v_iconst G (0 : Int32) dX7_change_1 (by decide) ?_
  obtain ⟨M1, q2, h⟩ := bi_ h
  refine v_putI (f := 0) G cl7 dX7_change_2 w839 (by decide) (by decide) (by decide) rfl rfl q2 ?_
  refine v_aload_n G dX7_change_5 rfl ?_
  refine v_iload_n G dX7_change_6 rfl ?_
  obtain ⟨q22, h⟩ := if_s h
  obtain ⟨v4, q3, h⟩ := bi_ h
  refine v_callV0 (e_X7_isPupil q3) G cl7 my_X7_isPupil rfl w1074 w41 w1072 dX7_change_7 q22 rfl (Nat.le_of_ble_eq_true rfl) rfl (Nat.le_of_ble_eq_true rfl) (Nat.zero_le _) (Nat.zero_le _) ?_
  refine v_if_eq 26 G dX7_change_10 (by decide) (fun q5 => ?_) (fun q5 => ?_)
  · rw [if_pos q5] at h
    refine v_ldc G (-1000001 : Int32) dX7_change_26 w931 ?_
    cases h
    exact v_iret G F dX7_change_28 rfl (Nat.le_refl _)
  · rw [if_neg q5] at h
    refine v_aload_n G dX7_change_13 rfl ?_
    refine v_iload_n G dX7_change_14 rfl ?_
    obtain ⟨q21, h⟩ := if_s h
    obtain ⟨v7, q6, h⟩ := bi_ h
    refine v_callV0 (e_X7_isPupil q6) G cl7 my_X7_isPupil rfl w1074 w41 w1072 dX7_change_15 q21 rfl (Nat.le_of_ble_eq_true rfl) rfl (Nat.le_of_ble_eq_true rfl) (Nat.zero_le _) (Nat.zero_le _) ?_
    refine v_if_eq 26 G dX7_change_18 (by decide) (fun q8 => ?_) (fun q8 => ?_)
    · rw [if_pos q8] at h
      refine v_ldc G (-1000001 : Int32) dX7_change_26 w931 ?_
      cases h
      exact v_iret G F dX7_change_28 rfl (Nat.le_refl _)
    · rw [if_neg q8] at h
      refine v_iload_n G dX7_change_21 rfl ?_
      refine v_iload_n G dX7_change_22 rfl ?_
      refine v_ic_ne 29 G dX7_change_23 (by decide) (fun q9 => ?_) (fun q9 => ?_)
      · rw [if_neg q9] at h
        refine v_aload_n G dX7_change_29 rfl ?_
        obtain ⟨q20, h⟩ := if_s h
        obtain ⟨M11, q10, h⟩ := bi_ h
        refine v_callV0 (e_X7_keep q10) G cl7 my_X7_keep rfl w1032 w39 w1030 dX7_change_30 q20 rfl (Nat.le_of_ble_eq_true rfl) rfl (Nat.le_of_ble_eq_true rfl) (Nat.zero_le _) (Nat.zero_le _) ?_
        refine v_aload_n G dX7_change_33 rfl ?_
        obtain ⟨b12, q13, h⟩ := bi_ h
        refine v_getR (f := 5) G cl7 dX7_change_34 w844 (by decide) (by decide) q13 ?_
        refine v_iload_n G dX7_change_37 rfl ?_
        refine v_iload_n G dX7_change_38 rfl ?_
        obtain ⟨M15, q14, h⟩ := bi_ h
        refine v_callS0 (e_X7_exchange q14) G my_X7_exchange w1077 w1076 dX7_change_39 rfl (Nat.le_of_ble_eq_true rfl) rfl (Nat.le_of_ble_eq_true rfl) (Nat.zero_le _) (Nat.zero_le _) ?_
        refine v_aload_n G dX7_change_42 rfl ?_
        obtain ⟨b16, q17, h⟩ := bi_ h
        refine v_getR (f := 5) G cl7 dX7_change_43 w844 (by decide) (by decide) q17 ?_
        refine v_iload_n G dX7_change_46 rfl ?_
        refine v_iconst G (1 : Int32) dX7_change_47 (by decide) ?_
        obtain ⟨v19, q18, h⟩ := bi_ h
        refine v_callS0 (e_X7_of q18) G my_X7_of w1045 w1044 dX7_change_48 rfl (Nat.le_of_ble_eq_true rfl) rfl (Nat.le_of_ble_eq_true rfl) (Nat.zero_le _) (Nat.zero_le _) ?_
        cases h
        exact v_iret G F dX7_change_51 rfl (Nat.le_refl _)
      · rw [if_pos q9] at h
        refine v_ldc G (-1000001 : Int32) dX7_change_26 w931 ?_
        cases h
        exact v_iret G F dX7_change_28 rfl (Nat.le_refl _)
/-! X7_teach -/
def m_X7_teach (M : mM) (x0 : Nat) (x1 : Int32) (x2 : Int32) : Option (mM × Int32) :=
  (pI M x0 7 0 (0 : Int32)).bind fun M1 =>
  if isO M1 x0 7 = true then
  (m_X7_isLesson M1 x0 x1).bind fun v4 =>
  if v4 = (0 : Int32) then (
    some (M1, (-1000001 : Int32))
  ) else (
    if isO M1 x0 7 = true then
    (m_X7_isSubject M1 x0 x2).bind fun v7 =>
    if v7 = (0 : Int32) then (
      some (M1, (-1000001 : Int32))
    ) else (
      if isO M1 x0 7 = true then
      (m_X7_keep M1 x0).bind fun M10 =>
      (gR M10 x0 7 5).bind fun b11 =>
      (ldI M10 b11 ((11 : Int32) + x1)).bind fun v14 =>
      (gR M10 x0 7 5).bind fun b15 =>
      (stI M10 b15 ((11 : Int32) + x1) x2).bind fun M17 =>
      some (M17, v14)
      else none
    )
    else none
  )
  else none
theorem e_X7_teach {Z : zZ} {M : mM} {N : mM} {x0 : Nat} {x1 : Int32} {x2 : Int32} {r : Int32} (h : m_X7_teach M x0 x1 x2 = some (N, r)) : EM Z yX7_teach cX7_teach 4 (some .int) 2 0 0 [.ref x0, .int x1, .int x2] M N (some (.int r)) := by
  refine EM_of my_X7_teach (Nat.le_of_ble_eq_true rfl) (fun X G F => ?_)
  show V X Z M 0 0 0 [some (.ref x0), some (.int x1), some (.int x2), none] []
  unfold m_X7_teach at h
  refine v_aload_n G dX7_teach_0 rfl ?_
  refine v_iconst G (0 : Int32) dX7_teach_1 (by decide) ?_
  obtain ⟨M1, q2, h⟩ := bi_ h
  refine v_putI (f := 0) G cl7 dX7_teach_2 w839 (by decide) (by decide) (by decide) rfl rfl q2 ?_
  refine v_aload_n G dX7_teach_5 rfl ?_
  refine v_iload_n G dX7_teach_6 rfl ?_
  obtain ⟨q21, h⟩ := if_s h
  obtain ⟨v4, q3, h⟩ := bi_ h
  refine v_callV0 (e_X7_isLesson q3) G cl7 my_X7_isLesson rfl w1085 w42 w1083 dX7_teach_7 q21 rfl (Nat.le_of_ble_eq_true rfl) rfl (Nat.le_of_ble_eq_true rfl) (Nat.zero_le _) (Nat.zero_le _) ?_
  refine v_if_eq 21 G dX7_teach_10 (by decide) (fun q5 => ?_) (fun q5 => ?_)
  · rw [if_pos q5] at h
    refine v_ldc G (-1000001 : Int32) dX7_teach_21 w931 ?_
    cases h
    exact v_iret G F dX7_teach_23 rfl (Nat.le_refl _)
  · rw [if_neg q5] at h
    refine v_aload_n G dX7_teach_13 rfl ?_
    refine v_iload_n G dX7_teach_14 rfl ?_
    obtain ⟨q20, h⟩ := if_s h
    obtain ⟨v7, q6, h⟩ := bi_ h
    refine v_callV0 (e_X7_isSubject q6) G cl7 my_X7_isSubject rfl w1089 w43 w1087 dX7_teach_15 q20 rfl (Nat.le_of_ble_eq_true rfl) rfl (Nat.le_of_ble_eq_true rfl) (Nat.zero_le _) (Nat.zero_le _) ?_
    refine v_if_ne 24 G dX7_teach_18 (by decide) (fun q8 => ?_) (fun q8 => ?_)
    · rw [if_neg q8] at h
      refine v_aload_n G dX7_teach_24 rfl ?_
      obtain ⟨q19, h⟩ := if_s h
      obtain ⟨M10, q9, h⟩ := bi_ h
      refine v_callV0 (e_X7_keep q9) G cl7 my_X7_keep rfl w1032 w39 w1030 dX7_teach_25 q19 rfl (Nat.le_of_ble_eq_true rfl) rfl (Nat.le_of_ble_eq_true rfl) (Nat.zero_le _) (Nat.zero_le _) ?_
      refine v_aload_n G dX7_teach_28 rfl ?_
      obtain ⟨b11, q12, h⟩ := bi_ h
      refine v_getR (f := 5) G cl7 dX7_teach_29 w844 (by decide) (by decide) q12 ?_
      refine v_bipush G (11 : Int32) dX7_teach_32 (by decide) ?_
      refine v_iload_n G dX7_teach_34 rfl ?_
      refine v_iadd G dX7_teach_35 ?_
      obtain ⟨v14, q13, h⟩ := bi_ h
      refine v_iald G dX7_teach_36 q13 ?_
      refine v_istore_n [some (.ref x0), some (.int x1), some (.int x2), some (.int v14)] G dX7_teach_37 (Nat.le_of_ble_eq_true rfl) rfl rfl ?_
      refine v_aload_n G dX7_teach_38 rfl ?_
      obtain ⟨b15, q16, h⟩ := bi_ h
      refine v_getR (f := 5) G cl7 dX7_teach_39 w844 (by decide) (by decide) q16 ?_
      refine v_bipush G (11 : Int32) dX7_teach_42 (by decide) ?_
      refine v_iload_n G dX7_teach_44 rfl ?_
      refine v_iadd G dX7_teach_45 ?_
      refine v_iload_n G dX7_teach_46 rfl ?_
      obtain ⟨M17, q18, h⟩ := bi_ h
      refine v_iast G dX7_teach_47 q18 ?_
      refine v_iload_n G dX7_teach_48 rfl ?_
      cases h
      exact v_iret G F dX7_teach_49 rfl (Nat.le_refl _)
    · rw [if_pos q8] at h
      refine v_ldc G (-1000001 : Int32) dX7_teach_21 w931 ?_
      cases h
      exact v_iret G F dX7_teach_23 rfl (Nat.le_refl _)
/-! X7_turned -/
def m_X7_turned (M : mM) (x0 : Nat) (x1 : Int32) (x2 : Int32) (x3 : Int32) : Option (mM × Int32) :=
  if isO M x0 7 = true then
  (m_X7_isPupil M x0 x1).bind fun v2 =>
  if v2 = (0 : Int32) then (
    some (M, (-1000001 : Int32))
  ) else (
    if isO M x0 7 = true then
    (m_X7_isSubject M x0 x2).bind fun v5 =>
    if v5 = (0 : Int32) then (
      some (M, (-1000001 : Int32))
    ) else (
      (gR M x0 7 5).bind fun b7 =>
      (m_X7_of M b7 x1 (2 : Int32)).bind fun v10 =>
      (m_X7_has M v10 x2).bind fun v12 =>
      if v12 = x3 then (
        some (M, (-1000002 : Int32))
      ) else (
        if isO M x0 7 = true then
        (m_X7_keep M x0).bind fun M15 =>
        (gR M15 x0 7 5).bind fun b16 =>
        (gR M15 x0 7 5).bind fun b18 =>
        (m_X7_of M15 b18 x1 (2 : Int32)).bind fun v21 =>
        (m_X7_be M15 b16 x1 (2 : Int32) (v21 ^^^ ((1 : Int32) <<< (x2 &&& 31)))).bind fun M23 =>
        (gR M23 x0 7 5).bind fun b24 =>
        (m_X7_of M23 b24 x1 (2 : Int32)).bind fun v27 =>
        some (M23, v27)
        else none
      )
    )
    else none
  )
  else none
theorem e_X7_turned {Z : zZ} {M : mM} {N : mM} {x0 : Nat} {x1 : Int32} {x2 : Int32} {x3 : Int32} {r : Int32} (h : m_X7_turned M x0 x1 x2 x3 = some (N, r)) : EM Z yX7_turned cX7_turned 4 (some .int) 2 0 0 [.ref x0, .int x1, .int x2, .int x3] M N (some (.int r)) := by
  refine EM_of my_X7_turned (Nat.le_of_ble_eq_true rfl) (fun X G F => ?_)
  show V X Z M 0 0 0 [some (.ref x0), some (.int x1), some (.int x2), some (.int x3)] []
  unfold m_X7_turned at h
  refine v_aload_n G dX7_turned_0 rfl ?_
  refine v_iload_n G dX7_turned_1 rfl ?_
  obtain ⟨q30, h⟩ := if_s h
  obtain ⟨v2, q1, h⟩ := bi_ h
  refine v_callV0 (e_X7_isPupil q1) G cl7 my_X7_isPupil rfl w1074 w41 w1072 dX7_turned_2 q30 rfl (Nat.le_of_ble_eq_true rfl) rfl (Nat.le_of_ble_eq_true rfl) (Nat.zero_le _) (Nat.zero_le _) ?_
  refine v_if_eq 16 G dX7_turned_5 (by decide) (fun q3 => ?_) (fun q3 => ?_)
  · rw [if_pos q3] at h
    refine v_ldc G (-1000001 : Int32) dX7_turned_16 w931 ?_
    cases h
    exact v_iret G F dX7_turned_18 rfl (Nat.le_refl _)
  · rw [if_neg q3] at h
    refine v_aload_n G dX7_turned_8 rfl ?_
    refine v_iload_n G dX7_turned_9 rfl ?_
    obtain ⟨q29, h⟩ := if_s h
    obtain ⟨v5, q4, h⟩ := bi_ h
    refine v_callV0 (e_X7_isSubject q4) G cl7 my_X7_isSubject rfl w1089 w43 w1087 dX7_turned_10 q29 rfl (Nat.le_of_ble_eq_true rfl) rfl (Nat.le_of_ble_eq_true rfl) (Nat.zero_le _) (Nat.zero_le _) ?_
    refine v_if_ne 19 G dX7_turned_13 (by decide) (fun q6 => ?_) (fun q6 => ?_)
    · rw [if_neg q6] at h
      refine v_aload_n G dX7_turned_19 rfl ?_
      obtain ⟨b7, q8, h⟩ := bi_ h
      refine v_getR (f := 5) G cl7 dX7_turned_20 w844 (by decide) (by decide) q8 ?_
      refine v_iload_n G dX7_turned_23 rfl ?_
      refine v_iconst G (2 : Int32) dX7_turned_24 (by decide) ?_
      obtain ⟨v10, q9, h⟩ := bi_ h
      refine v_callS0 (e_X7_of q9) G my_X7_of w1045 w1044 dX7_turned_25 rfl (Nat.le_of_ble_eq_true rfl) rfl (Nat.le_of_ble_eq_true rfl) (Nat.zero_le _) (Nat.zero_le _) ?_
      refine v_iload_n G dX7_turned_28 rfl ?_
      obtain ⟨v12, q11, h⟩ := bi_ h
      refine v_callS0 (e_X7_has q11) G my_X7_has w1051 w1050 dX7_turned_29 rfl (Nat.le_of_ble_eq_true rfl) rfl (Nat.le_of_ble_eq_true rfl) (Nat.zero_le _) (Nat.zero_le _) ?_
      refine v_iload_n G dX7_turned_32 rfl ?_
      refine v_ic_ne 39 G dX7_turned_33 (by decide) (fun q13 => ?_) (fun q13 => ?_)
      · rw [if_neg q13] at h
        refine v_aload_n G dX7_turned_39 rfl ?_
        obtain ⟨q28, h⟩ := if_s h
        obtain ⟨M15, q14, h⟩ := bi_ h
        refine v_callV0 (e_X7_keep q14) G cl7 my_X7_keep rfl w1032 w39 w1030 dX7_turned_40 q28 rfl (Nat.le_of_ble_eq_true rfl) rfl (Nat.le_of_ble_eq_true rfl) (Nat.zero_le _) (Nat.zero_le _) ?_
        refine v_aload_n G dX7_turned_43 rfl ?_
        obtain ⟨b16, q17, h⟩ := bi_ h
        refine v_getR (f := 5) G cl7 dX7_turned_44 w844 (by decide) (by decide) q17 ?_
        refine v_iload_n G dX7_turned_47 rfl ?_
        refine v_iconst G (2 : Int32) dX7_turned_48 (by decide) ?_
        refine v_aload_n G dX7_turned_49 rfl ?_
        obtain ⟨b18, q19, h⟩ := bi_ h
        refine v_getR (f := 5) G cl7 dX7_turned_50 w844 (by decide) (by decide) q19 ?_
        refine v_iload_n G dX7_turned_53 rfl ?_
        refine v_iconst G (2 : Int32) dX7_turned_54 (by decide) ?_
        obtain ⟨v21, q20, h⟩ := bi_ h
        refine v_callS0 (e_X7_of q20) G my_X7_of w1045 w1044 dX7_turned_55 rfl (Nat.le_of_ble_eq_true rfl) rfl (Nat.le_of_ble_eq_true rfl) (Nat.zero_le _) (Nat.zero_le _) ?_
        refine v_iconst G (1 : Int32) dX7_turned_58 (by decide) ?_
        refine v_iload_n G dX7_turned_59 rfl ?_
        refine v_ishl G dX7_turned_60 ?_
        refine v_ixor G dX7_turned_61 ?_
        obtain ⟨M23, q22, h⟩ := bi_ h
        refine v_callS0 (e_X7_be q22) G my_X7_be w1054 w1053 dX7_turned_62 rfl (Nat.le_of_ble_eq_true rfl) rfl (Nat.le_of_ble_eq_true rfl) (Nat.zero_le _) (Nat.zero_le _) ?_
        refine v_aload_n G dX7_turned_65 rfl ?_
        obtain ⟨b24, q25, h⟩ := bi_ h
        refine v_getR (f := 5) G cl7 dX7_turned_66 w844 (by decide) (by decide) q25 ?_
        refine v_iload_n G dX7_turned_69 rfl ?_
        refine v_iconst G (2 : Int32) dX7_turned_70 (by decide) ?_
        obtain ⟨v27, q26, h⟩ := bi_ h
        refine v_callS0 (e_X7_of q26) G my_X7_of w1045 w1044 dX7_turned_71 rfl (Nat.le_of_ble_eq_true rfl) rfl (Nat.le_of_ble_eq_true rfl) (Nat.zero_le _) (Nat.zero_le _) ?_
        cases h
        exact v_iret G F dX7_turned_74 rfl (Nat.le_refl _)
      · rw [if_pos q13] at h
        refine v_ldc G (-1000002 : Int32) dX7_turned_36 w1028 ?_
        cases h
        exact v_iret G F dX7_turned_38 rfl (Nat.le_refl _)
    · rw [if_pos q6] at h
      refine v_ldc G (-1000001 : Int32) dX7_turned_16 w931 ?_
      cases h
      exact v_iret G F dX7_turned_18 rfl (Nat.le_refl _)
/-! X7_forget -/
def m_X7_forget (M : mM) (x0 : Nat) (x1 : Int32) (x2 : Int32) : Option (mM × Int32) :=
  (pI M x0 7 0 (0 : Int32)).bind fun M1 =>
  if isO M1 x0 7 = true then
  bd2 (m_X7_turned M1 x0 x1 x2 (0 : Int32)) fun M4 v5 =>
  some (M4, v5)
  else none
theorem e_X7_forget {Z : zZ} {M : mM} {N : mM} {x0 : Nat} {x1 : Int32} {x2 : Int32} {r : Int32} (h : m_X7_forget M x0 x1 x2 = some (N, r)) : EM Z yX7_forget cX7_forget 3 (some .int) 3 0 0 [.ref x0, .int x1, .int x2] M N (some (.int r)) := by
  refine EM_of my_X7_forget (Nat.le_of_ble_eq_true rfl) (fun X G F => ?_)
  show V X Z M 0 0 0 [some (.ref x0), some (.int x1), some (.int x2)] []
  unfold m_X7_forget at h
  refine v_aload_n G dX7_forget_0 rfl ?_
  refine v_iconst G (0 : Int32) dX7_forget_1 (by decide) ?_
  obtain ⟨M1, q2, h⟩ := bi_ h
  refine v_putI (f := 0) G cl7 dX7_forget_2 w839 (by decide) (by decide) (by decide) rfl rfl q2 ?_
  refine v_aload_n G dX7_forget_5 rfl ?_
  refine v_iload_n G dX7_forget_6 rfl ?_
  refine v_iload_n G dX7_forget_7 rfl ?_
  refine v_iconst G (0 : Int32) dX7_forget_8 (by decide) ?_
  obtain ⟨q6, h⟩ := if_s h
  obtain ⟨M4, v5, q3, h⟩ := bi2_ h
  refine v_callV0 (e_X7_turned q3) G cl7 my_X7_turned rfl w1097 w44 w1095 dX7_forget_9 q6 rfl (Nat.le_of_ble_eq_true rfl) rfl (Nat.le_of_ble_eq_true rfl) (Nat.zero_le _) (Nat.zero_le _) ?_
  cases h
  exact v_iret G F dX7_forget_12 rfl (Nat.le_refl _)
/-! X7_tell -/
def m_X7_tell (M : mM) (x0 : Nat) (x1 : Int32) (x2 : Int32) : Option (mM × Int32) :=
  (pI M x0 7 0 (0 : Int32)).bind fun M1 =>
  if isO M1 x0 7 = true then
  bd2 (m_X7_turned M1 x0 x1 x2 (1 : Int32)) fun M4 v5 =>
  some (M4, v5)
  else none
theorem e_X7_tell {Z : zZ} {M : mM} {N : mM} {x0 : Nat} {x1 : Int32} {x2 : Int32} {r : Int32} (h : m_X7_tell M x0 x1 x2 = some (N, r)) : EM Z yX7_tell cX7_tell 3 (some .int) 3 0 0 [.ref x0, .int x1, .int x2] M N (some (.int r)) := by
  refine EM_of my_X7_tell (Nat.le_of_ble_eq_true rfl) (fun X G F => ?_)
  show V X Z M 0 0 0 [some (.ref x0), some (.int x1), some (.int x2)] []
  unfold m_X7_tell at h
  refine v_aload_n G dX7_tell_0 rfl ?_
  refine v_iconst G (0 : Int32) dX7_tell_1 (by decide) ?_
  obtain ⟨M1, q2, h⟩ := bi_ h
  refine v_putI (f := 0) G cl7 dX7_tell_2 w839 (by decide) (by decide) (by decide) rfl rfl q2 ?_
  refine v_aload_n G dX7_tell_5 rfl ?_
  refine v_iload_n G dX7_tell_6 rfl ?_
  refine v_iload_n G dX7_tell_7 rfl ?_
  refine v_iconst G (1 : Int32) dX7_tell_8 (by decide) ?_
  obtain ⟨q6, h⟩ := if_s h
  obtain ⟨M4, v5, q3, h⟩ := bi2_ h
  refine v_callV0 (e_X7_turned q3) G cl7 my_X7_turned rfl w1097 w44 w1095 dX7_tell_9 q6 rfl (Nat.le_of_ble_eq_true rfl) rfl (Nat.le_of_ble_eq_true rfl) (Nat.zero_le _) (Nat.zero_le _) ?_
  cases h
  exact v_iret G F dX7_tell_12 rfl (Nat.le_refl _)
/-! X7_undo -/
def m_X7_undo_L27 {ρ : Type} (k0 : mM → Option ρ) (x0 : Nat) : Nat → mM → Int32 → Option ρ
  | 0, _, _ => none
  | n + 1, M, x1 =>
    if (73 : Int32) ≤ x1 then (
      k0 M
    ) else (
      (gR M x0 7 5).bind fun b11 =>
      (gR M x0 7 8).bind fun b13 =>
      (gI M x0 7 9).bind fun v15 =>
      (ldI M b13 (((73 : Int32) * v15) + x1)).bind fun v18 =>
      (stI M b11 x1 v18).bind fun M19 =>
      m_X7_undo_L27 k0 x0 n M19 (x1 + (1 : Int32))
    )
theorem e_X7_undo_L27 {X : xX} {Z : zZ} {cn sn : Nat} {ρ : Type} {r : ρ} {k0 : mM → Option ρ} (G : ok_ X Z yX7_undo cX7_undo 2 0 0 0) (hcn : cn ≤ 0) (hsn : sn ≤ 0) (x0 : Nat)
    (hx0 : ∀ (N : mM), k0 N = some r → V X Z N cn sn 59 [some (.ref x0), none] []) :
    ∀ (n : Nat) (M : mM) (x1 : Int32), m_X7_undo_L27 k0 x0 n M x1 = some r → V X Z M cn sn 27 [some (.ref x0), some (.int x1)] [] := by
  intro n
  induction n with
  | zero => intro M x1 h; rw [m_X7_undo_L27] at h; cases h
  | succ n ih =>
    intro M x1 h
    rw [m_X7_undo_L27] at h
    refine v_iload_n G dX7_undo_27 rfl ?_
    refine v_bipush G (73 : Int32) dX7_undo_28 (by decide) ?_
    refine v_ic_ge 59 G dX7_undo_30 (by decide) (fun q10 => ?_) (fun q10 => ?_)
    · rw [if_pos q10] at h
      exact v_mask [true, false] rfl (hx0 _ h)
    · rw [if_neg q10] at h
      refine v_aload_n G dX7_undo_33 rfl ?_
      obtain ⟨b11, q12, h⟩ := bi_ h
      refine v_getR (f := 5) G cl7 dX7_undo_34 w844 (by decide) (by decide) q12 ?_
      refine v_iload_n G dX7_undo_37 rfl ?_
      refine v_aload_n G dX7_undo_38 rfl ?_
      obtain ⟨b13, q14, h⟩ := bi_ h
      refine v_getR (f := 8) G cl7 dX7_undo_39 w847 (by decide) (by decide) q14 ?_
      refine v_bipush G (73 : Int32) dX7_undo_42 (by decide) ?_
      refine v_aload_n G dX7_undo_44 rfl ?_
      obtain ⟨v15, q16, h⟩ := bi_ h
      refine v_getI (f := 9) G cl7 dX7_undo_45 w848 (by decide) (by decide) q16 ?_
      refine v_imul G dX7_undo_48 ?_
      refine v_iload_n G dX7_undo_49 rfl ?_
      refine v_iadd G dX7_undo_50 ?_
      obtain ⟨v18, q17, h⟩ := bi_ h
      refine v_iald G dX7_undo_51 q17 ?_
      obtain ⟨M19, q20, h⟩ := bi_ h
      refine v_iast G dX7_undo_52 q20 ?_
      refine v_iinc (x1 + (1 : Int32)) [some (.ref x0), some (.int (x1 + (1 : Int32)))] G dX7_undo_53 rfl rfl (Nat.le_of_ble_eq_true rfl) rfl rfl ?_
      refine v_goto 27 G dX7_undo_56 (by decide) ?_
      exact v_mask [true, true] rfl (ih _ _ h)
def m_X7_undo (M : mM) (x0 : Nat) : Option (mM × Int32) :=
  (pI M x0 7 0 (0 : Int32)).bind fun M1 =>
  (gI M1 x0 7 9).bind fun v3 =>
  if v3 = (0 : Int32) then (
    some (M1, (-1000002 : Int32))
  ) else (
    (gI M1 x0 7 9).bind fun v6 =>
    (pI M1 x0 7 9 (v6 - (1 : Int32))).bind fun M8 =>
    m_X7_undo_L27
      (fun M21 =>
        (gI M21 x0 7 9).bind fun v22 =>
        some (M21, v22))
      x0 FU M8 (0 : Int32)
  )
theorem e_X7_undo {Z : zZ} {M : mM} {N : mM} {x0 : Nat} {r : Int32} (h : m_X7_undo M x0 = some (N, r)) : EM Z yX7_undo cX7_undo 2 (some .int) 0 0 0 [.ref x0] M N (some (.int r)) := by
  refine EM_of my_X7_undo (Nat.le_of_ble_eq_true rfl) (fun X G F => ?_)
  show V X Z M 0 0 0 [some (.ref x0), none] []
  unfold m_X7_undo at h
  refine v_aload_n G dX7_undo_0 rfl ?_
  refine v_iconst G (0 : Int32) dX7_undo_1 (by decide) ?_
  obtain ⟨M1, q2, h⟩ := bi_ h
  refine v_putI (f := 0) G cl7 dX7_undo_2 w839 (by decide) (by decide) (by decide) rfl rfl q2 ?_
  refine v_aload_n G dX7_undo_5 rfl ?_
  obtain ⟨v3, q4, h⟩ := bi_ h
  refine v_getI (f := 9) G cl7 dX7_undo_6 w848 (by decide) (by decide) q4 ?_
  refine v_if_ne 15 G dX7_undo_9 (by decide) (fun q5 => ?_) (fun q5 => ?_)
  · rw [if_neg q5] at h
    refine v_aload_n G dX7_undo_15 rfl ?_
    refine v_dup G dX7_undo_16 rfl ?_
    obtain ⟨v6, q7, h⟩ := bi_ h
    refine v_getI (f := 9) G cl7 dX7_undo_17 w848 (by decide) (by decide) q7 ?_
    refine v_iconst G (1 : Int32) dX7_undo_20 (by decide) ?_
    refine v_isub G dX7_undo_21 ?_
    obtain ⟨M8, q9, h⟩ := bi_ h
    refine v_putI (f := 9) G cl7 dX7_undo_22 w848 (by decide) (by decide) (by decide) rfl rfl q9 ?_
    refine v_iconst G (0 : Int32) dX7_undo_25 (by decide) ?_
    refine v_istore_n [some (.ref x0), some (.int (0 : Int32))] G dX7_undo_26 (Nat.le_of_ble_eq_true rfl) rfl rfl ?_
    refine v_mask [true, true] rfl ?_
    refine e_X7_undo_L27 G (Nat.zero_le _) (Nat.zero_le _) _ (fun M21 h => ?_) FU _ _ h
    refine v_aload_n G dX7_undo_59 rfl ?_
    obtain ⟨v22, q23, h⟩ := bi_ h
    refine v_getI (f := 9) G cl7 dX7_undo_60 w848 (by decide) (by decide) q23 ?_
    cases h
    exact v_iret G F dX7_undo_63 rfl (Nat.le_refl _)
  · rw [if_pos q5] at h
    refine v_ldc G (-1000002 : Int32) dX7_undo_12 w1028 ?_
    cases h
    exact v_iret G F dX7_undo_14 rfl (Nat.le_refl _)
/-! X7_graspable -/
def m_X7_graspable_L4 {ρ : Type} (k0 : Int32 → Option ρ) (M : mM) (x0 : Nat) (x1 : Int32) : Nat → Int32 → Int32 → Option ρ
  | 0, _, _ => none
  | n + 1, x2, x3 =>
    (gR M x0 7 5).bind fun b1 =>
    (ldI M b1 (1 : Int32)).bind fun v4 =>
    if v4 ≤ x3 then (
      k0 x2
    ) else (
      (gR M x0 7 5).bind fun b6 =>
      (m_X7_canGrasp M b6 x3 x1).bind fun v9 =>
      if v9 = (0 : Int32) then (
        m_X7_graspable_L4 k0 M x0 x1 n (x2 ||| (0 : Int32)) (x3 + (1 : Int32))
      ) else (
        m_X7_graspable_L4 k0 M x0 x1 n (x2 ||| ((1 : Int32) <<< (x3 &&& 31))) (x3 + (1 : Int32))
      )
    )
theorem e_X7_graspable_L4 {X : xX} {Z : zZ} {cn sn : Nat} {ρ : Type} {r : ρ} {k0 : Int32 → Option ρ} (G : ok_ X Z yX7_graspable cX7_graspable 4 1 0 0) (hcn : cn ≤ 0) (hsn : sn ≤ 0) (M : mM) (x0 : Nat) (x1 : Int32)
    (hx0 : ∀ (z2 : Int32), k0 z2 = some r → V X Z M cn sn 42 [none, none, some (.int z2), none] []) :
    ∀ (n : Nat) (x2 : Int32) (x3 : Int32), m_X7_graspable_L4 k0 M x0 x1 n x2 x3 = some r → V X Z M cn sn 4 [some (.ref x0), some (.int x1), some (.int x2), some (.int x3)] [] := by
  intro n
  induction n with
  | zero => intro x2 x3 h; rw [m_X7_graspable_L4] at h; cases h
  | succ n ih =>
    intro x2 x3 h
    rw [m_X7_graspable_L4] at h
    refine v_iload_n G dX7_graspable_4 rfl ?_
    refine v_aload_n G dX7_graspable_5 rfl ?_
    obtain ⟨b1, q2, h⟩ := bi_ h
    refine v_getR (f := 5) G cl7 dX7_graspable_6 w844 (by decide) (by decide) q2 ?_
    refine v_iconst G (1 : Int32) dX7_graspable_9 (by decide) ?_
    obtain ⟨v4, q3, h⟩ := bi_ h
    refine v_iald G dX7_graspable_10 q3 ?_
    refine v_ic_ge 42 G dX7_graspable_11 (by decide) (fun q5 => ?_) (fun q5 => ?_)
    · rw [if_pos q5] at h
      exact v_mask [false, false, true, false] rfl (hx0 _ h)
    · rw [if_neg q5] at h
      refine v_iload_n G dX7_graspable_14 rfl ?_
      refine v_aload_n G dX7_graspable_15 rfl ?_
      obtain ⟨b6, q7, h⟩ := bi_ h
      refine v_getR (f := 5) G cl7 dX7_graspable_16 w844 (by decide) (by decide) q7 ?_
      refine v_iload_n G dX7_graspable_19 rfl ?_
      refine v_iload_n G dX7_graspable_20 rfl ?_
      obtain ⟨v9, q8, h⟩ := bi_ h
      refine v_callS0 (e_X7_canGrasp q8) G my_X7_canGrasp w1060 w1059 dX7_graspable_21 rfl (Nat.le_of_ble_eq_true rfl) rfl (Nat.le_of_ble_eq_true rfl) hcn hsn ?_
      refine v_if_eq 33 G dX7_graspable_24 (by decide) (fun q10 => ?_) (fun q10 => ?_)
      · rw [if_pos q10] at h
        refine v_iconst G (0 : Int32) dX7_graspable_33 (by decide) ?_
        refine v_ior G dX7_graspable_34 ?_
        refine v_istore_n [some (.ref x0), some (.int x1), some (.int (x2 ||| (0 : Int32))), some (.int x3)] G dX7_graspable_35 (Nat.le_of_ble_eq_true rfl) rfl rfl ?_
        refine v_iinc (x3 + (1 : Int32)) [some (.ref x0), some (.int x1), some (.int (x2 ||| (0 : Int32))), some (.int (x3 + (1 : Int32)))] G dX7_graspable_36 rfl rfl (Nat.le_of_ble_eq_true rfl) rfl rfl ?_
        refine v_goto 4 G dX7_graspable_39 (by decide) ?_
        exact v_mask [true, true, true, true] rfl (ih _ _ h)
      · rw [if_neg q10] at h
        refine v_iconst G (1 : Int32) dX7_graspable_27 (by decide) ?_
        refine v_iload_n G dX7_graspable_28 rfl ?_
        refine v_ishl G dX7_graspable_29 ?_
        refine v_goto 34 G dX7_graspable_30 (by decide) ?_
        refine v_ior G dX7_graspable_34 ?_
        refine v_istore_n [some (.ref x0), some (.int x1), some (.int (x2 ||| ((1 : Int32) <<< (x3 &&& 31)))), some (.int x3)] G dX7_graspable_35 (Nat.le_of_ble_eq_true rfl) rfl rfl ?_
        refine v_iinc (x3 + (1 : Int32)) [some (.ref x0), some (.int x1), some (.int (x2 ||| ((1 : Int32) <<< (x3 &&& 31)))), some (.int (x3 + (1 : Int32)))] G dX7_graspable_36 rfl rfl (Nat.le_of_ble_eq_true rfl) rfl rfl ?_
        refine v_goto 4 G dX7_graspable_39 (by decide) ?_
        exact v_mask [true, true, true, true] rfl (ih _ _ h)
def m_X7_graspable (M : mM) (x0 : Nat) (x1 : Int32) : Option Int32 :=
  m_X7_graspable_L4
    (fun v11 =>
      some v11)
    M x0 x1 FU (0 : Int32) (0 : Int32)
theorem e_X7_graspable {Z : zZ} {M : mM} {x0 : Nat} {x1 : Int32} {r : Int32} (h : m_X7_graspable M x0 x1 = some r) : EM Z yX7_graspable cX7_graspable 4 (some .int) 1 0 0 [.ref x0, .int x1] M M (some (.int r)) := by
  refine EM_of my_X7_graspable (Nat.le_of_ble_eq_true rfl) (fun X G F => ?_)
  show V X Z M 0 0 0 [some (.ref x0), some (.int x1), none, none] []
  unfold m_X7_graspable at h
  refine v_iconst G (0 : Int32) dX7_graspable_0 (by decide) ?_
  refine v_istore_n [some (.ref x0), some (.int x1), some (.int (0 : Int32)), none] G dX7_graspable_1 (Nat.le_of_ble_eq_true rfl) rfl rfl ?_
  refine v_iconst G (0 : Int32) dX7_graspable_2 (by decide) ?_
  refine v_istore_n [some (.ref x0), some (.int x1), some (.int (0 : Int32)), some (.int (0 : Int32))] G dX7_graspable_3 (Nat.le_of_ble_eq_true rfl) rfl rfl ?_
  refine v_mask [true, true, true, true] rfl ?_
  refine e_X7_graspable_L4 G (Nat.zero_le _) (Nat.zero_le _) _ _ _ (fun v11 h => ?_) FU _ _ h
  refine v_iload_n G dX7_graspable_42 rfl ?_
  cases h
  exact v_iret G F dX7_graspable_43 rfl (Nat.le_refl _)
/-! X7_pupil -/
def m_X7_pupil (M : mM) (x0 : Nat) (x1 : Int32) (x2 : Int32) : Option (mM × Int32) :=
  (pI M x0 7 0 (0 : Int32)).bind fun M1 =>
  if isO M1 x0 7 = true then
  (m_X7_isPupil M1 x0 x1).bind fun v4 =>
  if v4 = (0 : Int32) then (
    some (M1, (-1000001 : Int32))
  ) else (
    if x2 = (0 : Int32) then (
      (gR M1 x0 7 5).bind fun b7 =>
      (m_X7_of M1 b7 x1 (2 : Int32)).bind fun v10 =>
      some (M1, v10)
    ) else
    if x2 = (1 : Int32) then (
      (gR M1 x0 7 5).bind fun b12 =>
      (m_X7_of M1 b12 x1 (1 : Int32)).bind fun v15 =>
      some (M1, v15)
    ) else
    if x2 = (2 : Int32) then (
      (gR M1 x0 7 5).bind fun b17 =>
      (m_X7_of M1 b17 x1 (2 : Int32)).bind fun v20 =>
      (m_X7_bits M1 v20).bind fun v22 =>
      some (M1, v22)
    ) else
    if x2 = (3 : Int32) then (
      (gR M1 x0 7 5).bind fun b24 =>
      (m_X7_hears M1 b24 x1).bind fun v27 =>
      if v27 = (0 : Int32) then (
        some (M1, (0 : Int32))
      ) else (
        some (M1, (1 : Int32))
      )
    ) else
    if x2 = (4 : Int32) then (
      (gR M1 x0 7 5).bind fun b30 =>
      (m_X7_of M1 b30 x1 (2 : Int32)).bind fun v33 =>
      if isO M1 x0 7 = true then
      (m_X7_graspable M1 x0 v33).bind fun v35 =>
      some (M1, v35)
      else none
    ) else
    (
      some (M1, (-1000001 : Int32))
    )
  )
  else none
theorem e_X7_pupil {Z : zZ} {M : mM} {N : mM} {x0 : Nat} {x1 : Int32} {x2 : Int32} {r : Int32} (h : m_X7_pupil M x0 x1 x2 = some (N, r)) : EM Z yX7_pupil cX7_pupil 3 (some .int) 3 0 0 [.ref x0, .int x1, .int x2] M N (some (.int r)) := by
  refine EM_of my_X7_pupil (Nat.le_of_ble_eq_true rfl) (fun X G F => ?_)
  show V X Z M 0 0 0 [some (.ref x0), some (.int x1), some (.int x2)] []
  unfold m_X7_pupil at h
  refine v_aload_n G dX7_pupil_0 rfl ?_
  refine v_iconst G (0 : Int32) dX7_pupil_1 (by decide) ?_
  obtain ⟨M1, q2, h⟩ := bi_ h
  refine v_putI (f := 0) G cl7 dX7_pupil_2 w839 (by decide) (by decide) (by decide) rfl rfl q2 ?_
  refine v_aload_n G dX7_pupil_5 rfl ?_
  refine v_iload_n G dX7_pupil_6 rfl ?_
  obtain ⟨q37, h⟩ := if_s h
  obtain ⟨v4, q3, h⟩ := bi_ h
  refine v_callV0 (e_X7_isPupil q3) G cl7 my_X7_isPupil rfl w1074 w41 w1072 dX7_pupil_7 q37 rfl (Nat.le_of_ble_eq_true rfl) rfl (Nat.le_of_ble_eq_true rfl) (Nat.zero_le _) (Nat.zero_le _) ?_
  refine v_if_ne 16 G dX7_pupil_10 (by decide) (fun q5 => ?_) (fun q5 => ?_)
  · rw [if_neg q5] at h
    refine v_iload_n G dX7_pupil_16 rfl ?_
    rcases Decidable.em (x2 = (0 : Int32)) with q6 | q6
    · rw [if_pos q6] at h
      refine v_tabI (off := 35) 52 G dX7_pupil_17 (by rw [q6]; decide) (by rw [q6]; decide) (by rw [q6]; rfl) (by decide) ?_
      refine v_aload_n G dX7_pupil_52 rfl ?_
      obtain ⟨b7, q8, h⟩ := bi_ h
      refine v_getR (f := 5) G cl7 dX7_pupil_53 w844 (by decide) (by decide) q8 ?_
      refine v_iload_n G dX7_pupil_56 rfl ?_
      refine v_iconst G (2 : Int32) dX7_pupil_57 (by decide) ?_
      obtain ⟨v10, q9, h⟩ := bi_ h
      refine v_callS0 (e_X7_of q9) G my_X7_of w1045 w1044 dX7_pupil_58 rfl (Nat.le_of_ble_eq_true rfl) rfl (Nat.le_of_ble_eq_true rfl) (Nat.zero_le _) (Nat.zero_le _) ?_
      cases h
      exact v_iret G F dX7_pupil_61 rfl (Nat.le_refl _)
    · rw [if_neg q6] at h
      rcases Decidable.em (x2 = (1 : Int32)) with q11 | q11
      · rw [if_pos q11] at h
        refine v_tabI (off := 45) 62 G dX7_pupil_17 (by rw [q11]; decide) (by rw [q11]; decide) (by rw [q11]; rfl) (by decide) ?_
        refine v_aload_n G dX7_pupil_62 rfl ?_
        obtain ⟨b12, q13, h⟩ := bi_ h
        refine v_getR (f := 5) G cl7 dX7_pupil_63 w844 (by decide) (by decide) q13 ?_
        refine v_iload_n G dX7_pupil_66 rfl ?_
        refine v_iconst G (1 : Int32) dX7_pupil_67 (by decide) ?_
        obtain ⟨v15, q14, h⟩ := bi_ h
        refine v_callS0 (e_X7_of q14) G my_X7_of w1045 w1044 dX7_pupil_68 rfl (Nat.le_of_ble_eq_true rfl) rfl (Nat.le_of_ble_eq_true rfl) (Nat.zero_le _) (Nat.zero_le _) ?_
        cases h
        exact v_iret G F dX7_pupil_71 rfl (Nat.le_refl _)
      · rw [if_neg q11] at h
        rcases Decidable.em (x2 = (2 : Int32)) with q16 | q16
        · rw [if_pos q16] at h
          refine v_tabI (off := 55) 72 G dX7_pupil_17 (by rw [q16]; decide) (by rw [q16]; decide) (by rw [q16]; rfl) (by decide) ?_
          refine v_aload_n G dX7_pupil_72 rfl ?_
          obtain ⟨b17, q18, h⟩ := bi_ h
          refine v_getR (f := 5) G cl7 dX7_pupil_73 w844 (by decide) (by decide) q18 ?_
          refine v_iload_n G dX7_pupil_76 rfl ?_
          refine v_iconst G (2 : Int32) dX7_pupil_77 (by decide) ?_
          obtain ⟨v20, q19, h⟩ := bi_ h
          refine v_callS0 (e_X7_of q19) G my_X7_of w1045 w1044 dX7_pupil_78 rfl (Nat.le_of_ble_eq_true rfl) rfl (Nat.le_of_ble_eq_true rfl) (Nat.zero_le _) (Nat.zero_le _) ?_
          obtain ⟨v22, q21, h⟩ := bi_ h
          refine v_callS0 (e_X7_bits q21) G my_X7_bits w1063 w1062 dX7_pupil_81 rfl (Nat.le_of_ble_eq_true rfl) rfl (Nat.le_of_ble_eq_true rfl) (Nat.zero_le _) (Nat.zero_le _) ?_
          cases h
          exact v_iret G F dX7_pupil_84 rfl (Nat.le_refl _)
        · rw [if_neg q16] at h
          rcases Decidable.em (x2 = (3 : Int32)) with q23 | q23
          · rw [if_pos q23] at h
            refine v_tabI (off := 68) 85 G dX7_pupil_17 (by rw [q23]; decide) (by rw [q23]; decide) (by rw [q23]; rfl) (by decide) ?_
            refine v_aload_n G dX7_pupil_85 rfl ?_
            obtain ⟨b24, q25, h⟩ := bi_ h
            refine v_getR (f := 5) G cl7 dX7_pupil_86 w844 (by decide) (by decide) q25 ?_
            refine v_iload_n G dX7_pupil_89 rfl ?_
            obtain ⟨v27, q26, h⟩ := bi_ h
            refine v_callS0 (e_X7_hears q26) G my_X7_hears w1042 w1041 dX7_pupil_90 rfl (Nat.le_of_ble_eq_true rfl) rfl (Nat.le_of_ble_eq_true rfl) (Nat.zero_le _) (Nat.zero_le _) ?_
            refine v_if_eq 100 G dX7_pupil_93 (by decide) (fun q28 => ?_) (fun q28 => ?_)
            · rw [if_pos q28] at h
              refine v_iconst G (0 : Int32) dX7_pupil_100 (by decide) ?_
              cases h
              exact v_iret G F dX7_pupil_101 rfl (Nat.le_refl _)
            · rw [if_neg q28] at h
              refine v_iconst G (1 : Int32) dX7_pupil_96 (by decide) ?_
              refine v_goto 101 G dX7_pupil_97 (by decide) ?_
              cases h
              exact v_iret G F dX7_pupil_101 rfl (Nat.le_refl _)
          · rw [if_neg q23] at h
            rcases Decidable.em (x2 = (4 : Int32)) with q29 | q29
            · rw [if_pos q29] at h
              refine v_tabI (off := 85) 102 G dX7_pupil_17 (by rw [q29]; decide) (by rw [q29]; decide) (by rw [q29]; rfl) (by decide) ?_
              refine v_aload_n G dX7_pupil_102 rfl ?_
              refine v_aload_n G dX7_pupil_103 rfl ?_
              obtain ⟨b30, q31, h⟩ := bi_ h
              refine v_getR (f := 5) G cl7 dX7_pupil_104 w844 (by decide) (by decide) q31 ?_
              refine v_iload_n G dX7_pupil_107 rfl ?_
              refine v_iconst G (2 : Int32) dX7_pupil_108 (by decide) ?_
              obtain ⟨v33, q32, h⟩ := bi_ h
              refine v_callS0 (e_X7_of q32) G my_X7_of w1045 w1044 dX7_pupil_109 rfl (Nat.le_of_ble_eq_true rfl) rfl (Nat.le_of_ble_eq_true rfl) (Nat.zero_le _) (Nat.zero_le _) ?_
              obtain ⟨q36, h⟩ := if_s h
              obtain ⟨v35, q34, h⟩ := bi_ h
              refine v_callV0 (e_X7_graspable q34) G cl7 my_X7_graspable rfl w1113 w45 w1111 dX7_pupil_112 q36 rfl (Nat.le_of_ble_eq_true rfl) rfl (Nat.le_of_ble_eq_true rfl) (Nat.zero_le _) (Nat.zero_le _) ?_
              cases h
              exact v_iret G F dX7_pupil_115 rfl (Nat.le_refl _)
            · rw [if_neg q29] at h
              have eq6 : (x2).toInt ≠ 0 := i32_ne q6
              have eq11 : (x2).toInt ≠ 1 := i32_ne q11
              have eq16 : (x2).toInt ≠ 2 := i32_ne q16
              have eq23 : (x2).toInt ≠ 3 := i32_ne q23
              have eq29 : (x2).toInt ≠ 4 := i32_ne q29
              refine v_tabO 116 G dX7_pupil_17 (by omega) (by decide) ?_
              refine v_ldc G (-1000001 : Int32) dX7_pupil_116 w931 ?_
              cases h
              exact v_iret G F dX7_pupil_118 rfl (Nat.le_refl _)
  · rw [if_pos q5] at h
    refine v_ldc G (-1000001 : Int32) dX7_pupil_13 w931 ?_
    cases h
    exact v_iret G F dX7_pupil_15 rfl (Nat.le_refl _)
/-! X7_heard -/
def m_X7_heard (M : mM) (x0 : Nat) (x1 : Int32) (x2 : Int32) : Option (mM × Int32) :=
  (pI M x0 7 0 (0 : Int32)).bind fun M1 =>
  if isO M1 x0 7 = true then
  (m_X7_isPupil M1 x0 x1).bind fun v4 =>
  if v4 = (0 : Int32) then (
    some (M1, (-1000001 : Int32))
  ) else (
    if isO M1 x0 7 = true then
    (m_X7_isSubject M1 x0 x2).bind fun v7 =>
    if v7 = (0 : Int32) then (
      some (M1, (-1000001 : Int32))
    ) else (
      (gR M1 x0 7 5).bind fun b9 =>
      (m_X7_of M1 b9 x1 ((3 : Int32) + x2)).bind fun v12 =>
      some (M1, v12)
    )
    else none
  )
  else none
theorem e_X7_heard {Z : zZ} {M : mM} {N : mM} {x0 : Nat} {x1 : Int32} {x2 : Int32} {r : Int32} (h : m_X7_heard M x0 x1 x2 = some (N, r)) : EM Z yX7_heard cX7_heard 3 (some .int) 2 0 0 [.ref x0, .int x1, .int x2] M N (some (.int r)) := by
  refine EM_of my_X7_heard (Nat.le_of_ble_eq_true rfl) (fun X G F => ?_)
  show V X Z M 0 0 0 [some (.ref x0), some (.int x1), some (.int x2)] []
  unfold m_X7_heard at h
  refine v_aload_n G dX7_heard_0 rfl ?_
  refine v_iconst G (0 : Int32) dX7_heard_1 (by decide) ?_
  obtain ⟨M1, q2, h⟩ := bi_ h
  refine v_putI (f := 0) G cl7 dX7_heard_2 w839 (by decide) (by decide) (by decide) rfl rfl q2 ?_
  refine v_aload_n G dX7_heard_5 rfl ?_
  refine v_iload_n G dX7_heard_6 rfl ?_
  obtain ⟨q14, h⟩ := if_s h
  obtain ⟨v4, q3, h⟩ := bi_ h
  refine v_callV0 (e_X7_isPupil q3) G cl7 my_X7_isPupil rfl w1074 w41 w1072 dX7_heard_7 q14 rfl (Nat.le_of_ble_eq_true rfl) rfl (Nat.le_of_ble_eq_true rfl) (Nat.zero_le _) (Nat.zero_le _) ?_
  refine v_if_eq 35 G dX7_heard_10 (by decide) (fun q5 => ?_) (fun q5 => ?_)
  · rw [if_pos q5] at h
    refine v_ldc G (-1000001 : Int32) dX7_heard_35 w931 ?_
    cases h
    exact v_iret G F dX7_heard_37 rfl (Nat.le_refl _)
  · rw [if_neg q5] at h
    refine v_aload_n G dX7_heard_13 rfl ?_
    refine v_iload_n G dX7_heard_14 rfl ?_
    obtain ⟨q13, h⟩ := if_s h
    obtain ⟨v7, q6, h⟩ := bi_ h
    refine v_callV0 (e_X7_isSubject q6) G cl7 my_X7_isSubject rfl w1089 w43 w1087 dX7_heard_15 q13 rfl (Nat.le_of_ble_eq_true rfl) rfl (Nat.le_of_ble_eq_true rfl) (Nat.zero_le _) (Nat.zero_le _) ?_
    refine v_if_eq 35 G dX7_heard_18 (by decide) (fun q8 => ?_) (fun q8 => ?_)
    · rw [if_pos q8] at h
      refine v_ldc G (-1000001 : Int32) dX7_heard_35 w931 ?_
      cases h
      exact v_iret G F dX7_heard_37 rfl (Nat.le_refl _)
    · rw [if_neg q8] at h
      refine v_aload_n G dX7_heard_21 rfl ?_
      obtain ⟨b9, q10, h⟩ := bi_ h
      refine v_getR (f := 5) G cl7 dX7_heard_22 w844 (by decide) (by decide) q10 ?_
      refine v_iload_n G dX7_heard_25 rfl ?_
      refine v_iconst G (3 : Int32) dX7_heard_26 (by decide) ?_
      refine v_iload_n G dX7_heard_27 rfl ?_
      refine v_iadd G dX7_heard_28 ?_
      obtain ⟨v12, q11, h⟩ := bi_ h
      refine v_callS0 (e_X7_of q11) G my_X7_of w1045 w1044 dX7_heard_29 rfl (Nat.le_of_ble_eq_true rfl) rfl (Nat.le_of_ble_eq_true rfl) (Nat.zero_le _) (Nat.zero_le _) ?_
      refine v_goto 37 G dX7_heard_32 (by decide) ?_
      cases h
      exact v_iret G F dX7_heard_37 rfl (Nat.le_refl _)
/-! X7_subject -/
def m_X7_subject (M : mM) (x0 : Nat) (x1 : Int32) : Option (mM × Int32) :=
  (pI M x0 7 0 (0 : Int32)).bind fun M1 =>
  if isO M1 x0 7 = true then
  (m_X7_isSubject M1 x0 x1).bind fun v4 =>
  if v4 = (0 : Int32) then (
    some (M1, (-1000001 : Int32))
  ) else (
    (gR M1 x0 7 5).bind fun b6 =>
    (ldI M1 b6 ((5 : Int32) + x1)).bind fun v9 =>
    some (M1, v9)
  )
  else none
theorem e_X7_subject {Z : zZ} {M : mM} {N : mM} {x0 : Nat} {x1 : Int32} {r : Int32} (h : m_X7_subject M x0 x1 = some (N, r)) : EM Z yX7_subject cX7_subject 2 (some .int) 2 0 0 [.ref x0, .int x1] M N (some (.int r)) := by
  refine EM_of my_X7_subject (Nat.le_of_ble_eq_true rfl) (fun X G F => ?_)
  show V X Z M 0 0 0 [some (.ref x0), some (.int x1)] []
  unfold m_X7_subject at h
  refine v_aload_n G dX7_subject_0 rfl ?_
  refine v_iconst G (0 : Int32) dX7_subject_1 (by decide) ?_
  obtain ⟨M1, q2, h⟩ := bi_ h
  refine v_putI (f := 0) G cl7 dX7_subject_2 w839 (by decide) (by decide) (by decide) rfl rfl q2 ?_
  refine v_aload_n G dX7_subject_5 rfl ?_
  refine v_iload_n G dX7_subject_6 rfl ?_
  obtain ⟨q10, h⟩ := if_s h
  obtain ⟨v4, q3, h⟩ := bi_ h
  refine v_callV0 (e_X7_isSubject q3) G cl7 my_X7_isSubject rfl w1089 w43 w1087 dX7_subject_7 q10 rfl (Nat.le_of_ble_eq_true rfl) rfl (Nat.le_of_ble_eq_true rfl) (Nat.zero_le _) (Nat.zero_le _) ?_
  refine v_if_eq 24 G dX7_subject_10 (by decide) (fun q5 => ?_) (fun q5 => ?_)
  · rw [if_pos q5] at h
    refine v_ldc G (-1000001 : Int32) dX7_subject_24 w931 ?_
    cases h
    exact v_iret G F dX7_subject_26 rfl (Nat.le_refl _)
  · rw [if_neg q5] at h
    refine v_aload_n G dX7_subject_13 rfl ?_
    obtain ⟨b6, q7, h⟩ := bi_ h
    refine v_getR (f := 5) G cl7 dX7_subject_14 w844 (by decide) (by decide) q7 ?_
    refine v_iconst G (5 : Int32) dX7_subject_17 (by decide) ?_
    refine v_iload_n G dX7_subject_18 rfl ?_
    refine v_iadd G dX7_subject_19 ?_
    obtain ⟨v9, q8, h⟩ := bi_ h
    refine v_iald G dX7_subject_20 q8 ?_
    refine v_goto 26 G dX7_subject_21 (by decide) ?_
    cases h
    exact v_iret G F dX7_subject_26 rfl (Nat.le_refl _)
/-! X7_lesson -/
def m_X7_lesson (M : mM) (x0 : Nat) (x1 : Int32) : Option (mM × Int32) :=
  (pI M x0 7 0 (0 : Int32)).bind fun M1 =>
  if isO M1 x0 7 = true then
  (m_X7_isThere M1 x0).bind fun v4 =>
  if v4 = (0 : Int32) then (
    some (M1, (-1000002 : Int32))
  ) else (
    (m_X7_in M1 (Int32.toInt64 x1) (0 : Int64) (60 : Int64)).bind fun v7 =>
    if v7 = (0 : Int32) then (
      some (M1, (-1000001 : Int32))
    ) else (
      (gR M1 x0 7 5).bind fun b9 =>
      (gR M1 x0 7 5).bind fun b11 =>
      (ldI M1 b11 (3 : Int32)).bind fun v14 =>
      (m_X7_subjectOf M1 b9 (v14 + x1)).bind fun v16 =>
      some (M1, v16)
    )
  )
  else none
theorem e_X7_lesson {Z : zZ} {M : mM} {N : mM} {x0 : Nat} {x1 : Int32} {r : Int32} (h : m_X7_lesson M x0 x1 = some (N, r)) : EM Z yX7_lesson cX7_lesson 2 (some .int) 1 0 0 [.ref x0, .int x1] M N (some (.int r)) := by
  refine EM_of my_X7_lesson (Nat.le_of_ble_eq_true rfl) (fun X G F => ?_)
  show V X Z M 0 0 0 [some (.ref x0), some (.int x1)] []
  unfold m_X7_lesson at h
  refine v_aload_n G dX7_lesson_0 rfl ?_
  refine v_iconst G (0 : Int32) dX7_lesson_1 (by decide) ?_
  obtain ⟨M1, q2, h⟩ := bi_ h
  refine v_putI (f := 0) G cl7 dX7_lesson_2 w839 (by decide) (by decide) (by decide) rfl rfl q2 ?_
  refine v_aload_n G dX7_lesson_5 rfl ?_
  obtain ⟨q17, h⟩ := if_s h
  obtain ⟨v4, q3, h⟩ := bi_ h
  refine v_callV0 (e_X7_isThere q3) G cl7 my_X7_isThere rfl w1026 w38 w1024 dX7_lesson_6 q17 rfl (Nat.le_of_ble_eq_true rfl) rfl (Nat.le_of_ble_eq_true rfl) (Nat.zero_le _) (Nat.zero_le _) ?_
  refine v_if_ne 15 G dX7_lesson_9 (by decide) (fun q5 => ?_) (fun q5 => ?_)
  · rw [if_neg q5] at h
    refine v_iload_n G dX7_lesson_15 rfl ?_
    refine v_i2l G dX7_lesson_16 ?_
    refine v_lconst G (0 : Int64) dX7_lesson_17 (by decide) ?_
    refine v_ldc2 G (60 : Int64) dX7_lesson_18 w1127 ?_
    obtain ⟨v7, q6, h⟩ := bi_ h
    refine v_callS0 (e_X7_in q6) G my_X7_in w928 w927 dX7_lesson_21 rfl (Nat.le_of_ble_eq_true rfl) rfl (Nat.le_of_ble_eq_true rfl) (Nat.zero_le _) (Nat.zero_le _) ?_
    refine v_if_eq 45 G dX7_lesson_24 (by decide) (fun q8 => ?_) (fun q8 => ?_)
    · rw [if_pos q8] at h
      refine v_ldc G (-1000001 : Int32) dX7_lesson_45 w931 ?_
      cases h
      exact v_iret G F dX7_lesson_47 rfl (Nat.le_refl _)
    · rw [if_neg q8] at h
      refine v_aload_n G dX7_lesson_27 rfl ?_
      obtain ⟨b9, q10, h⟩ := bi_ h
      refine v_getR (f := 5) G cl7 dX7_lesson_28 w844 (by decide) (by decide) q10 ?_
      refine v_aload_n G dX7_lesson_31 rfl ?_
      obtain ⟨b11, q12, h⟩ := bi_ h
      refine v_getR (f := 5) G cl7 dX7_lesson_32 w844 (by decide) (by decide) q12 ?_
      refine v_iconst G (3 : Int32) dX7_lesson_35 (by decide) ?_
      obtain ⟨v14, q13, h⟩ := bi_ h
      refine v_iald G dX7_lesson_36 q13 ?_
      refine v_iload_n G dX7_lesson_37 rfl ?_
      refine v_iadd G dX7_lesson_38 ?_
      obtain ⟨v16, q15, h⟩ := bi_ h
      refine v_callS0 (e_X7_subjectOf q15) G my_X7_subjectOf w1039 w1038 dX7_lesson_39 rfl (Nat.le_of_ble_eq_true rfl) rfl (Nat.le_of_ble_eq_true rfl) (Nat.zero_le _) (Nat.zero_le _) ?_
      refine v_goto 47 G dX7_lesson_42 (by decide) ?_
      cases h
      exact v_iret G F dX7_lesson_47 rfl (Nat.le_refl _)
  · rw [if_pos q5] at h
    refine v_ldc G (-1000002 : Int32) dX7_lesson_12 w1028 ?_
    cases h
    exact v_iret G F dX7_lesson_14 rfl (Nat.le_refl _)
/-! X7_ahead -/
def m_X7_ahead (M : mM) (x0 : Nat) (x1 : Int32) (x2 : Int32) (x3 : Int32) : Option (mM × Int32) :=
  (pI M x0 7 0 (0 : Int32)).bind fun M1 =>
  if isO M1 x0 7 = true then
  (m_X7_isPupil M1 x0 x1).bind fun v4 =>
  if v4 = (0 : Int32) then (
    some (M1, (-1000001 : Int32))
  ) else (
    (m_X7_in M1 (Int32.toInt64 x2) (0 : Int64) (60 : Int64)).bind fun v7 =>
    if v7 = (0 : Int32) then (
      some (M1, (-1000001 : Int32))
    ) else (
      if x3 = (-1 : Int32) then (
        if isO M1 x0 7 = true then
        (m_X7_layThen M1 x0).bind fun M11 =>
        (gR M11 x0 7 7).bind fun b12 =>
        if isO M11 x0 7 = true then
        (m_X7_daysOf M11 x0 b12 x2).bind fun M15 =>
        (gR M15 x0 7 7).bind fun b16 =>
        if x3 = (-1 : Int32) then (
          (m_X7_of M15 b16 x1 (2 : Int32)).bind fun v22 =>
          some (M15, v22)
        ) else (
          (m_X7_of M15 b16 x1 ((3 : Int32) + x3)).bind fun v20 =>
          some (M15, v20)
        )
        else none
        else none
      ) else (
        if isO M1 x0 7 = true then
        (m_X7_isSubject M1 x0 x3).bind fun v26 =>
        if v26 = (0 : Int32) then (
          some (M1, (-1000001 : Int32))
        ) else (
          if isO M1 x0 7 = true then
          (m_X7_layThen M1 x0).bind fun M29 =>
          (gR M29 x0 7 7).bind fun b30 =>
          if isO M29 x0 7 = true then
          (m_X7_daysOf M29 x0 b30 x2).bind fun M33 =>
          (gR M33 x0 7 7).bind fun b34 =>
          if x3 = (-1 : Int32) then (
            (m_X7_of M33 b34 x1 (2 : Int32)).bind fun v40 =>
            some (M33, v40)
          ) else (
            (m_X7_of M33 b34 x1 ((3 : Int32) + x3)).bind fun v38 =>
            some (M33, v38)
          )
          else none
          else none
        )
        else none
      )
    )
  )
  else none
theorem e_X7_ahead {Z : zZ} {M : mM} {N : mM} {x0 : Nat} {x1 : Int32} {x2 : Int32} {x3 : Int32} {r : Int32} (h : m_X7_ahead M x0 x1 x2 x3 = some (N, r)) : EM Z yX7_ahead cX7_ahead 4 (some .int) 5 0 0 [.ref x0, .int x1, .int x2, .int x3] M N (some (.int r)) := by
  refine EM_of my_X7_ahead (Nat.le_of_ble_eq_true rfl) (fun X G F => ?_)
  show V X Z M 0 0 0 [some (.ref x0), some (.int x1), some (.int x2), some (.int x3)] []
  unfold m_X7_ahead at h
  refine v_aload_n G dX7_ahead_0 rfl ?_
  refine v_iconst G (0 : Int32) dX7_ahead_1 (by decide) ?_
  obtain ⟨M1, q2, h⟩ := bi_ h
  refine v_putI (f := 0) G cl7 dX7_ahead_2 w839 (by decide) (by decide) (by decide) rfl rfl q2 ?_
  refine v_aload_n G dX7_ahead_5 rfl ?_
  refine v_iload_n G dX7_ahead_6 rfl ?_
  obtain ⟨q44, h⟩ := if_s h
  obtain ⟨v4, q3, h⟩ := bi_ h
  refine v_callV0 (e_X7_isPupil q3) G cl7 my_X7_isPupil rfl w1074 w41 w1072 dX7_ahead_7 q44 rfl (Nat.le_of_ble_eq_true rfl) rfl (Nat.le_of_ble_eq_true rfl) (Nat.zero_le _) (Nat.zero_le _) ?_
  refine v_if_eq 38 G dX7_ahead_10 (by decide) (fun q5 => ?_) (fun q5 => ?_)
  · rw [if_pos q5] at h
    refine v_ldc G (-1000001 : Int32) dX7_ahead_38 w931 ?_
    cases h
    exact v_iret G F dX7_ahead_40 rfl (Nat.le_refl _)
  · rw [if_neg q5] at h
    refine v_iload_n G dX7_ahead_13 rfl ?_
    refine v_i2l G dX7_ahead_14 ?_
    refine v_lconst G (0 : Int64) dX7_ahead_15 (by decide) ?_
    refine v_ldc2 G (60 : Int64) dX7_ahead_16 w1127 ?_
    obtain ⟨v7, q6, h⟩ := bi_ h
    refine v_callS0 (e_X7_in q6) G my_X7_in w928 w927 dX7_ahead_19 rfl (Nat.le_of_ble_eq_true rfl) rfl (Nat.le_of_ble_eq_true rfl) (Nat.zero_le _) (Nat.zero_le _) ?_
    refine v_if_eq 38 G dX7_ahead_22 (by decide) (fun q8 => ?_) (fun q8 => ?_)
    · rw [if_pos q8] at h
      refine v_ldc G (-1000001 : Int32) dX7_ahead_38 w931 ?_
      cases h
      exact v_iret G F dX7_ahead_40 rfl (Nat.le_refl _)
    · rw [if_neg q8] at h
      refine v_iload_n G dX7_ahead_25 rfl ?_
      refine v_iconst G (-1 : Int32) dX7_ahead_26 (by decide) ?_
      refine v_ic_eq 41 G dX7_ahead_27 (by decide) (fun q9 => ?_) (fun q9 => ?_)
      · rw [if_pos q9] at h
        refine v_aload_n G dX7_ahead_41 rfl ?_
        obtain ⟨q24, h⟩ := if_s h
        obtain ⟨M11, q10, h⟩ := bi_ h
        refine v_callV0 (e_X7_layThen q10) G cl7 my_X7_layThen rfl w1134 w46 w1132 dX7_ahead_42 q24 rfl (Nat.le_of_ble_eq_true rfl) rfl (Nat.le_of_ble_eq_true rfl) (Nat.zero_le _) (Nat.zero_le _) ?_
        refine v_aload_n G dX7_ahead_45 rfl ?_
        refine v_aload_n G dX7_ahead_46 rfl ?_
        obtain ⟨b12, q13, h⟩ := bi_ h
        refine v_getR (f := 7) G cl7 dX7_ahead_47 w846 (by decide) (by decide) q13 ?_
        refine v_iload_n G dX7_ahead_50 rfl ?_
        obtain ⟨q23, h⟩ := if_s h
        obtain ⟨M15, q14, h⟩ := bi_ h
        refine v_callV0 (e_X7_daysOf q14) G cl7 my_X7_daysOf rfl w1138 w47 w1136 dX7_ahead_51 q23 rfl (Nat.le_of_ble_eq_true rfl) rfl (Nat.le_of_ble_eq_true rfl) (Nat.zero_le _) (Nat.zero_le _) ?_
        refine v_aload_n G dX7_ahead_54 rfl ?_
        obtain ⟨b16, q17, h⟩ := bi_ h
        refine v_getR (f := 7) G cl7 dX7_ahead_55 w846 (by decide) (by decide) q17 ?_
        refine v_iload_n G dX7_ahead_58 rfl ?_
        refine v_iload_n G dX7_ahead_59 rfl ?_
        refine v_iconst G (-1 : Int32) dX7_ahead_60 (by decide) ?_
        refine v_ic_ne 68 G dX7_ahead_61 (by decide) (fun q18 => ?_) (fun q18 => ?_)
        · rw [if_neg q18] at h
          refine v_iconst G (3 : Int32) dX7_ahead_68 (by decide) ?_
          refine v_iload_n G dX7_ahead_69 rfl ?_
          refine v_iadd G dX7_ahead_70 ?_
          obtain ⟨v20, q19, h⟩ := bi_ h
          refine v_callS0 (e_X7_of q19) G my_X7_of w1045 w1044 dX7_ahead_71 rfl (Nat.le_of_ble_eq_true rfl) rfl (Nat.le_of_ble_eq_true rfl) (Nat.zero_le _) (Nat.zero_le _) ?_
          cases h
          exact v_iret G F dX7_ahead_74 rfl (Nat.le_refl _)
        · rw [if_pos q18] at h
          refine v_iconst G (2 : Int32) dX7_ahead_64 (by decide) ?_
          refine v_goto 71 G dX7_ahead_65 (by decide) ?_
          obtain ⟨v22, q21, h⟩ := bi_ h
          refine v_callS0 (e_X7_of q21) G my_X7_of w1045 w1044 dX7_ahead_71 rfl (Nat.le_of_ble_eq_true rfl) rfl (Nat.le_of_ble_eq_true rfl) (Nat.zero_le _) (Nat.zero_le _) ?_
          cases h
          exact v_iret G F dX7_ahead_74 rfl (Nat.le_refl _)
      · rw [if_neg q9] at h
        refine v_aload_n G dX7_ahead_30 rfl ?_
        refine v_iload_n G dX7_ahead_31 rfl ?_
        obtain ⟨q43, h⟩ := if_s h
        obtain ⟨v26, q25, h⟩ := bi_ h
        refine v_callV0 (e_X7_isSubject q25) G cl7 my_X7_isSubject rfl w1089 w43 w1087 dX7_ahead_32 q43 rfl (Nat.le_of_ble_eq_true rfl) rfl (Nat.le_of_ble_eq_true rfl) (Nat.zero_le _) (Nat.zero_le _) ?_
        refine v_if_ne 41 G dX7_ahead_35 (by decide) (fun q27 => ?_) (fun q27 => ?_)
        · rw [if_neg q27] at h
          refine v_aload_n G dX7_ahead_41 rfl ?_
          obtain ⟨q42, h⟩ := if_s h
          obtain ⟨M29, q28, h⟩ := bi_ h
          refine v_callV0 (e_X7_layThen q28) G cl7 my_X7_layThen rfl w1134 w46 w1132 dX7_ahead_42 q42 rfl (Nat.le_of_ble_eq_true rfl) rfl (Nat.le_of_ble_eq_true rfl) (Nat.zero_le _) (Nat.zero_le _) ?_
          refine v_aload_n G dX7_ahead_45 rfl ?_
          refine v_aload_n G dX7_ahead_46 rfl ?_
          obtain ⟨b30, q31, h⟩ := bi_ h
          refine v_getR (f := 7) G cl7 dX7_ahead_47 w846 (by decide) (by decide) q31 ?_
          refine v_iload_n G dX7_ahead_50 rfl ?_
          obtain ⟨q41, h⟩ := if_s h
          obtain ⟨M33, q32, h⟩ := bi_ h
          refine v_callV0 (e_X7_daysOf q32) G cl7 my_X7_daysOf rfl w1138 w47 w1136 dX7_ahead_51 q41 rfl (Nat.le_of_ble_eq_true rfl) rfl (Nat.le_of_ble_eq_true rfl) (Nat.zero_le _) (Nat.zero_le _) ?_
          refine v_aload_n G dX7_ahead_54 rfl ?_
          obtain ⟨b34, q35, h⟩ := bi_ h
          refine v_getR (f := 7) G cl7 dX7_ahead_55 w846 (by decide) (by decide) q35 ?_
          refine v_iload_n G dX7_ahead_58 rfl ?_
          refine v_iload_n G dX7_ahead_59 rfl ?_
          refine v_iconst G (-1 : Int32) dX7_ahead_60 (by decide) ?_
          refine v_ic_ne 68 G dX7_ahead_61 (by decide) (fun q36 => ?_) (fun q36 => ?_)
          · rw [if_neg q36] at h
            refine v_iconst G (3 : Int32) dX7_ahead_68 (by decide) ?_
            refine v_iload_n G dX7_ahead_69 rfl ?_
            refine v_iadd G dX7_ahead_70 ?_
            obtain ⟨v38, q37, h⟩ := bi_ h
            refine v_callS0 (e_X7_of q37) G my_X7_of w1045 w1044 dX7_ahead_71 rfl (Nat.le_of_ble_eq_true rfl) rfl (Nat.le_of_ble_eq_true rfl) (Nat.zero_le _) (Nat.zero_le _) ?_
            cases h
            exact v_iret G F dX7_ahead_74 rfl (Nat.le_refl _)
          · rw [if_pos q36] at h
            refine v_iconst G (2 : Int32) dX7_ahead_64 (by decide) ?_
            refine v_goto 71 G dX7_ahead_65 (by decide) ?_
            obtain ⟨v40, q39, h⟩ := bi_ h
            refine v_callS0 (e_X7_of q39) G my_X7_of w1045 w1044 dX7_ahead_71 rfl (Nat.le_of_ble_eq_true rfl) rfl (Nat.le_of_ble_eq_true rfl) (Nat.zero_le _) (Nat.zero_le _) ?_
            cases h
            exact v_iret G F dX7_ahead_74 rfl (Nat.le_refl _)
        · rw [if_pos q27] at h
          refine v_ldc G (-1000001 : Int32) dX7_ahead_38 w931 ?_
          cases h
          exact v_iret G F dX7_ahead_40 rfl (Nat.le_refl _)
/-! X7_when -/
def m_X7_when_L30 {ρ : Type} (k0 : mM → Option ρ) (k1 : mM → Int32 → Option ρ) (x0 : Nat) (x1 : Int32) (x2 : Int32) : Nat → mM → Int32 → Option ρ
  | 0, _, _ => none
  | n + 1, M, x3 =>
    if (60 : Int32) < x3 then (
      k0 M
    ) else (
      (gR M x0 7 7).bind fun b12 =>
      (m_X7_of M b12 x1 (2 : Int32)).bind fun v15 =>
      (m_X7_has M v15 x2).bind fun v17 =>
      if v17 = (0 : Int32) then (
        (gR M x0 7 7).bind fun b19 =>
        if isO M x0 7 = true then
        (m_X7_dayBy M x0 b19 (0 : Int32)).bind fun M22 =>
        m_X7_when_L30 k0 k1 x0 x1 x2 n M22 (x3 + (1 : Int32))
        else none
      ) else (
        k1 M x3
      )
    )
theorem e_X7_when_L30 {X : xX} {Z : zZ} {cn sn : Nat} {ρ : Type} {r : ρ} {k0 : mM → Option ρ} {k1 : mM → Int32 → Option ρ} (G : ok_ X Z yX7_when cX7_when 4 4 0 0) (hcn : cn ≤ 0) (hsn : sn ≤ 0) (x0 : Nat) (x1 : Int32) (x2 : Int32)
    (hx0 : ∀ (N : mM), k0 N = some r → V X Z N cn sn 69 [none, none, none, none] [])
    (hx1 : ∀ (N : mM) (z3 : Int32), k1 N z3 = some r → V X Z N cn sn 52 [none, none, none, some (.int z3)] []) :
    ∀ (n : Nat) (M : mM) (x3 : Int32), m_X7_when_L30 k0 k1 x0 x1 x2 n M x3 = some r → V X Z M cn sn 30 [some (.ref x0), some (.int x1), some (.int x2), some (.int x3)] [] := by
  intro n
  induction n with
  | zero => intro M x3 h; rw [m_X7_when_L30] at h; cases h
  | succ n ih =>
    intro M x3 h
    rw [m_X7_when_L30] at h
    refine v_iload_n G dX7_when_30 rfl ?_
    refine v_bipush G (60 : Int32) dX7_when_31 (by decide) ?_
    refine v_ic_gt 69 G dX7_when_33 (by decide) (fun q11 => ?_) (fun q11 => ?_)
    · rw [if_pos q11] at h
      exact v_mask [false, false, false, false] rfl (hx0 _ h)
    · rw [if_neg q11] at h
      refine v_aload_n G dX7_when_36 rfl ?_
      obtain ⟨b12, q13, h⟩ := bi_ h
      refine v_getR (f := 7) G cl7 dX7_when_37 w846 (by decide) (by decide) q13 ?_
      refine v_iload_n G dX7_when_40 rfl ?_
      refine v_iconst G (2 : Int32) dX7_when_41 (by decide) ?_
      obtain ⟨v15, q14, h⟩ := bi_ h
      refine v_callS0 (e_X7_of q14) G my_X7_of w1045 w1044 dX7_when_42 rfl (Nat.le_of_ble_eq_true rfl) rfl (Nat.le_of_ble_eq_true rfl) hcn hsn ?_
      refine v_iload_n G dX7_when_45 rfl ?_
      obtain ⟨v17, q16, h⟩ := bi_ h
      refine v_callS0 (e_X7_has q16) G my_X7_has w1051 w1050 dX7_when_46 rfl (Nat.le_of_ble_eq_true rfl) rfl (Nat.le_of_ble_eq_true rfl) hcn hsn ?_
      refine v_if_eq 54 G dX7_when_49 (by decide) (fun q18 => ?_) (fun q18 => ?_)
      · rw [if_pos q18] at h
        refine v_aload_n G dX7_when_54 rfl ?_
        refine v_aload_n G dX7_when_55 rfl ?_
        obtain ⟨b19, q20, h⟩ := bi_ h
        refine v_getR (f := 7) G cl7 dX7_when_56 w846 (by decide) (by decide) q20 ?_
        refine v_iconst G (0 : Int32) dX7_when_59 (by decide) ?_
        obtain ⟨q23, h⟩ := if_s h
        obtain ⟨M22, q21, h⟩ := bi_ h
        refine v_callV0 (e_X7_dayBy q21) G cl7 my_X7_dayBy rfl w1036 w40 w1034 dX7_when_60 q23 rfl (Nat.le_of_ble_eq_true rfl) rfl (Nat.le_of_ble_eq_true rfl) hcn hsn ?_
        refine v_iinc (x3 + (1 : Int32)) [some (.ref x0), some (.int x1), some (.int x2), some (.int (x3 + (1 : Int32)))] G dX7_when_63 rfl rfl (Nat.le_of_ble_eq_true rfl) rfl rfl ?_
        refine v_goto 30 G dX7_when_66 (by decide) ?_
        exact v_mask [true, true, true, true] rfl (ih _ _ h)
      · rw [if_neg q18] at h
        exact v_mask [false, false, false, true] rfl (hx1 _ _ h)
def m_X7_when (M : mM) (x0 : Nat) (x1 : Int32) (x2 : Int32) : Option (mM × Int32) :=
  (pI M x0 7 0 (0 : Int32)).bind fun M1 =>
  if isO M1 x0 7 = true then
  (m_X7_isPupil M1 x0 x1).bind fun v4 =>
  if v4 = (0 : Int32) then (
    some (M1, (-1000001 : Int32))
  ) else (
    if isO M1 x0 7 = true then
    (m_X7_isSubject M1 x0 x2).bind fun v7 =>
    if v7 = (0 : Int32) then (
      some (M1, (-1000001 : Int32))
    ) else (
      if isO M1 x0 7 = true then
      (m_X7_layThen M1 x0).bind fun M10 =>
      m_X7_when_L30
        (fun M24 =>
          some (M24, (-1000000 : Int32)))
        (fun M25 v26 =>
          some (M25, v26))
        x0 x1 x2 FU M10 (0 : Int32)
      else none
    )
    else none
  )
  else none
theorem e_X7_when {Z : zZ} {M : mM} {N : mM} {x0 : Nat} {x1 : Int32} {x2 : Int32} {r : Int32} (h : m_X7_when M x0 x1 x2 = some (N, r)) : EM Z yX7_when cX7_when 4 (some .int) 4 0 0 [.ref x0, .int x1, .int x2] M N (some (.int r)) := by
  refine EM_of my_X7_when (Nat.le_of_ble_eq_true rfl) (fun X G F => ?_)
  show V X Z M 0 0 0 [some (.ref x0), some (.int x1), some (.int x2), none] []
  unfold m_X7_when at h
  refine v_aload_n G dX7_when_0 rfl ?_
  refine v_iconst G (0 : Int32) dX7_when_1 (by decide) ?_
  obtain ⟨M1, q2, h⟩ := bi_ h
  refine v_putI (f := 0) G cl7 dX7_when_2 w839 (by decide) (by decide) (by decide) rfl rfl q2 ?_
  refine v_aload_n G dX7_when_5 rfl ?_
  refine v_iload_n G dX7_when_6 rfl ?_
  obtain ⟨q29, h⟩ := if_s h
  obtain ⟨v4, q3, h⟩ := bi_ h
  refine v_callV0 (e_X7_isPupil q3) G cl7 my_X7_isPupil rfl w1074 w41 w1072 dX7_when_7 q29 rfl (Nat.le_of_ble_eq_true rfl) rfl (Nat.le_of_ble_eq_true rfl) (Nat.zero_le _) (Nat.zero_le _) ?_
  refine v_if_eq 21 G dX7_when_10 (by decide) (fun q5 => ?_) (fun q5 => ?_)
  · rw [if_pos q5] at h
    refine v_ldc G (-1000001 : Int32) dX7_when_21 w931 ?_
    cases h
    exact v_iret G F dX7_when_23 rfl (Nat.le_refl _)
  · rw [if_neg q5] at h
    refine v_aload_n G dX7_when_13 rfl ?_
    refine v_iload_n G dX7_when_14 rfl ?_
    obtain ⟨q28, h⟩ := if_s h
    obtain ⟨v7, q6, h⟩ := bi_ h
    refine v_callV0 (e_X7_isSubject q6) G cl7 my_X7_isSubject rfl w1089 w43 w1087 dX7_when_15 q28 rfl (Nat.le_of_ble_eq_true rfl) rfl (Nat.le_of_ble_eq_true rfl) (Nat.zero_le _) (Nat.zero_le _) ?_
    refine v_if_ne 24 G dX7_when_18 (by decide) (fun q8 => ?_) (fun q8 => ?_)
    · rw [if_neg q8] at h
      refine v_aload_n G dX7_when_24 rfl ?_
      obtain ⟨q27, h⟩ := if_s h
      obtain ⟨M10, q9, h⟩ := bi_ h
      refine v_callV0 (e_X7_layThen q9) G cl7 my_X7_layThen rfl w1134 w46 w1132 dX7_when_25 q27 rfl (Nat.le_of_ble_eq_true rfl) rfl (Nat.le_of_ble_eq_true rfl) (Nat.zero_le _) (Nat.zero_le _) ?_
      refine v_iconst G (0 : Int32) dX7_when_28 (by decide) ?_
      refine v_istore_n [some (.ref x0), some (.int x1), some (.int x2), some (.int (0 : Int32))] G dX7_when_29 (Nat.le_of_ble_eq_true rfl) rfl rfl ?_
      refine v_mask [true, true, true, true] rfl ?_
      refine e_X7_when_L30 G (Nat.zero_le _) (Nat.zero_le _) _ _ _ (fun M24 h => ?_) (fun M25 v26 h => ?_) FU _ _ h
      · refine v_ldc G (-1000000 : Int32) dX7_when_69 w971 ?_
        cases h
        exact v_iret G F dX7_when_71 rfl (Nat.le_refl _)
      · refine v_iload_n G dX7_when_52 rfl ?_
        cases h
        exact v_iret G F dX7_when_53 rfl (Nat.le_refl _)
    · rw [if_pos q8] at h
      refine v_ldc G (-1000001 : Int32) dX7_when_21 w931 ?_
      cases h
      exact v_iret G F dX7_when_23 rfl (Nat.le_refl _)
/-! X7_all -/
def m_X7_all (M : mM) (x0 : Nat) (x1 : Int32) : Option (mM × Int32) :=
  (pI M x0 7 0 (0 : Int32)).bind fun M1 =>
  if isO M1 x0 7 = true then
  (m_X7_isThere M1 x0).bind fun v4 =>
  if v4 = (0 : Int32) then (
    some (M1, (-1000002 : Int32))
  ) else (
    (m_X7_in M1 (Int32.toInt64 x1) (0 : Int64) (1 : Int64)).bind fun v7 =>
    if v7 = (0 : Int32) then (
      some (M1, (-1000001 : Int32))
    ) else (
      (gR M1 x0 7 5).bind fun b9 =>
      if x1 = (0 : Int32) then (
        (m_X7_knownBy M1 b9 (1 : Int32)).bind fun v15 =>
        some (M1, v15)
      ) else (
        (m_X7_knownBy M1 b9 (0 : Int32)).bind fun v13 =>
        some (M1, v13)
      )
    )
  )
  else none
theorem e_X7_all {Z : zZ} {M : mM} {N : mM} {x0 : Nat} {x1 : Int32} {r : Int32} (h : m_X7_all M x0 x1 = some (N, r)) : EM Z yX7_all cX7_all 2 (some .int) 2 0 0 [.ref x0, .int x1] M N (some (.int r)) := by
  refine EM_of my_X7_all (Nat.le_of_ble_eq_true rfl) (fun X G F => ?_)
  show V X Z M 0 0 0 [some (.ref x0), some (.int x1)] []
  unfold m_X7_all at h
  refine v_aload_n G dX7_all_0 rfl ?_
  refine v_iconst G (0 : Int32) dX7_all_1 (by decide) ?_
  obtain ⟨M1, q2, h⟩ := bi_ h
  refine v_putI (f := 0) G cl7 dX7_all_2 w839 (by decide) (by decide) (by decide) rfl rfl q2 ?_
  refine v_aload_n G dX7_all_5 rfl ?_
  obtain ⟨q16, h⟩ := if_s h
  obtain ⟨v4, q3, h⟩ := bi_ h
  refine v_callV0 (e_X7_isThere q3) G cl7 my_X7_isThere rfl w1026 w38 w1024 dX7_all_6 q16 rfl (Nat.le_of_ble_eq_true rfl) rfl (Nat.le_of_ble_eq_true rfl) (Nat.zero_le _) (Nat.zero_le _) ?_
  refine v_if_ne 15 G dX7_all_9 (by decide) (fun q5 => ?_) (fun q5 => ?_)
  · rw [if_neg q5] at h
    refine v_iload_n G dX7_all_15 rfl ?_
    refine v_i2l G dX7_all_16 ?_
    refine v_lconst G (0 : Int64) dX7_all_17 (by decide) ?_
    refine v_lconst G (1 : Int64) dX7_all_18 (by decide) ?_
    obtain ⟨v7, q6, h⟩ := bi_ h
    refine v_callS0 (e_X7_in q6) G my_X7_in w928 w927 dX7_all_19 rfl (Nat.le_of_ble_eq_true rfl) rfl (Nat.le_of_ble_eq_true rfl) (Nat.zero_le _) (Nat.zero_le _) ?_
    refine v_if_eq 44 G dX7_all_22 (by decide) (fun q8 => ?_) (fun q8 => ?_)
    · rw [if_pos q8] at h
      refine v_ldc G (-1000001 : Int32) dX7_all_44 w931 ?_
      cases h
      exact v_iret G F dX7_all_46 rfl (Nat.le_refl _)
    · rw [if_neg q8] at h
      refine v_aload_n G dX7_all_25 rfl ?_
      obtain ⟨b9, q10, h⟩ := bi_ h
      refine v_getR (f := 5) G cl7 dX7_all_26 w844 (by decide) (by decide) q10 ?_
      refine v_iload_n G dX7_all_29 rfl ?_
      refine v_if_ne 37 G dX7_all_30 (by decide) (fun q11 => ?_) (fun q11 => ?_)
      · rw [if_neg q11] at h
        refine v_iconst G (0 : Int32) dX7_all_37 (by decide) ?_
        obtain ⟨v13, q12, h⟩ := bi_ h
        refine v_callS0 (e_X7_knownBy q12) G my_X7_knownBy w1149 w1148 dX7_all_38 rfl (Nat.le_of_ble_eq_true rfl) rfl (Nat.le_of_ble_eq_true rfl) (Nat.zero_le _) (Nat.zero_le _) ?_
        refine v_goto 46 G dX7_all_41 (by decide) ?_
        cases h
        exact v_iret G F dX7_all_46 rfl (Nat.le_refl _)
      · rw [if_pos q11] at h
        refine v_iconst G (1 : Int32) dX7_all_33 (by decide) ?_
        refine v_goto 38 G dX7_all_34 (by decide) ?_
        obtain ⟨v15, q14, h⟩ := bi_ h
        refine v_callS0 (e_X7_knownBy q14) G my_X7_knownBy w1149 w1148 dX7_all_38 rfl (Nat.le_of_ble_eq_true rfl) rfl (Nat.le_of_ble_eq_true rfl) (Nat.zero_le _) (Nat.zero_le _) ?_
        refine v_goto 46 G dX7_all_41 (by decide) ?_
        cases h
        exact v_iret G F dX7_all_46 rfl (Nat.le_refl _)
  · rw [if_pos q5] at h
    refine v_ldc G (-1000002 : Int32) dX7_all_12 w1028 ?_
    cases h
    exact v_iret G F dX7_all_14 rfl (Nat.le_refl _)
/-! X7_follows -/
def m_X7_follows_L28 {ρ : Type} (k0 : Int32 → Option ρ) (M : mM) (x0 : Nat) : Nat → Int32 → Int32 → Option ρ
  | 0, _, _ => none
  | n + 1, x2, x3 =>
    (gR M x0 7 5).bind fun b10 =>
    (ldI M b10 (1 : Int32)).bind fun v13 =>
    if v13 ≤ x3 then (
      k0 x2
    ) else (
      (gR M x0 7 5).bind fun b15 =>
      (m_X7_canGrasp M b15 x3 x2).bind fun v18 =>
      if v18 = (0 : Int32) then (
        m_X7_follows_L28 k0 M x0 n (x2 ||| (0 : Int32)) (x3 + (1 : Int32))
      ) else (
        m_X7_follows_L28 k0 M x0 n (x2 ||| ((1 : Int32) <<< (x3 &&& 31))) (x3 + (1 : Int32))
      )
    )
theorem e_X7_follows_L28 {X : xX} {Z : zZ} {cn sn : Nat} {ρ : Type} {r : ρ} {k0 : Int32 → Option ρ} (G : ok_ X Z yX7_follows cX7_follows 4 2 0 0) (hcn : cn ≤ 0) (hsn : sn ≤ 0) (M : mM) (x0 : Nat)
    (hx0 : ∀ (z2 : Int32), k0 z2 = some r → V X Z M cn sn 66 [none, none, some (.int z2), none] []) :
    ∀ (n : Nat) (x2 : Int32) (x3 : Int32), m_X7_follows_L28 k0 M x0 n x2 x3 = some r → V X Z M cn sn 28 [some (.ref x0), none, some (.int x2), some (.int x3)] [] := by
  intro n
  induction n with
  | zero => intro x2 x3 h; rw [m_X7_follows_L28] at h; cases h
  | succ n ih =>
    intro x2 x3 h
    rw [m_X7_follows_L28] at h
    refine v_iload_n G dX7_follows_28 rfl ?_
    refine v_aload_n G dX7_follows_29 rfl ?_
    obtain ⟨b10, q11, h⟩ := bi_ h
    refine v_getR (f := 5) G cl7 dX7_follows_30 w844 (by decide) (by decide) q11 ?_
    refine v_iconst G (1 : Int32) dX7_follows_33 (by decide) ?_
    obtain ⟨v13, q12, h⟩ := bi_ h
    refine v_iald G dX7_follows_34 q12 ?_
    refine v_ic_ge 66 G dX7_follows_35 (by decide) (fun q14 => ?_) (fun q14 => ?_)
    · rw [if_pos q14] at h
      exact v_mask [false, false, true, false] rfl (hx0 _ h)
    · rw [if_neg q14] at h
      refine v_iload_n G dX7_follows_38 rfl ?_
      refine v_aload_n G dX7_follows_39 rfl ?_
      obtain ⟨b15, q16, h⟩ := bi_ h
      refine v_getR (f := 5) G cl7 dX7_follows_40 w844 (by decide) (by decide) q16 ?_
      refine v_iload_n G dX7_follows_43 rfl ?_
      refine v_iload_n G dX7_follows_44 rfl ?_
      obtain ⟨v18, q17, h⟩ := bi_ h
      refine v_callS0 (e_X7_canGrasp q17) G my_X7_canGrasp w1060 w1059 dX7_follows_45 rfl (Nat.le_of_ble_eq_true rfl) rfl (Nat.le_of_ble_eq_true rfl) hcn hsn ?_
      refine v_if_eq 57 G dX7_follows_48 (by decide) (fun q19 => ?_) (fun q19 => ?_)
      · rw [if_pos q19] at h
        refine v_iconst G (0 : Int32) dX7_follows_57 (by decide) ?_
        refine v_ior G dX7_follows_58 ?_
        refine v_istore_n [some (.ref x0), none, some (.int (x2 ||| (0 : Int32))), some (.int x3)] G dX7_follows_59 (Nat.le_of_ble_eq_true rfl) rfl rfl ?_
        refine v_iinc (x3 + (1 : Int32)) [some (.ref x0), none, some (.int (x2 ||| (0 : Int32))), some (.int (x3 + (1 : Int32)))] G dX7_follows_60 rfl rfl (Nat.le_of_ble_eq_true rfl) rfl rfl ?_
        refine v_goto 28 G dX7_follows_63 (by decide) ?_
        exact v_mask [true, false, true, true] rfl (ih _ _ h)
      · rw [if_neg q19] at h
        refine v_iconst G (1 : Int32) dX7_follows_51 (by decide) ?_
        refine v_iload_n G dX7_follows_52 rfl ?_
        refine v_ishl G dX7_follows_53 ?_
        refine v_goto 58 G dX7_follows_54 (by decide) ?_
        refine v_ior G dX7_follows_58 ?_
        refine v_istore_n [some (.ref x0), none, some (.int (x2 ||| ((1 : Int32) <<< (x3 &&& 31)))), some (.int x3)] G dX7_follows_59 (Nat.le_of_ble_eq_true rfl) rfl rfl ?_
        refine v_iinc (x3 + (1 : Int32)) [some (.ref x0), none, some (.int (x2 ||| ((1 : Int32) <<< (x3 &&& 31)))), some (.int (x3 + (1 : Int32)))] G dX7_follows_60 rfl rfl (Nat.le_of_ble_eq_true rfl) rfl rfl ?_
        refine v_goto 28 G dX7_follows_63 (by decide) ?_
        exact v_mask [true, false, true, true] rfl (ih _ _ h)
def m_X7_follows (M : mM) (x0 : Nat) (x1 : Int32) : Option (mM × Int32) :=
  (pI M x0 7 0 (0 : Int32)).bind fun M1 =>
  if isO M1 x0 7 = true then
  (m_X7_isPupil M1 x0 x1).bind fun v4 =>
  if v4 = (0 : Int32) then (
    some (M1, (-1000001 : Int32))
  ) else (
    (gR M1 x0 7 5).bind fun b6 =>
    (m_X7_of M1 b6 x1 (2 : Int32)).bind fun v9 =>
    m_X7_follows_L28
      (fun v20 =>
        some (M1, v20))
      M1 x0 FU v9 (0 : Int32)
  )
  else none
theorem e_X7_follows {Z : zZ} {M : mM} {N : mM} {x0 : Nat} {x1 : Int32} {r : Int32} (h : m_X7_follows M x0 x1 = some (N, r)) : EM Z yX7_follows cX7_follows 4 (some .int) 2 0 0 [.ref x0, .int x1] M N (some (.int r)) := by
  refine EM_of my_X7_follows (Nat.le_of_ble_eq_true rfl) (fun X G F => ?_)
  show V X Z M 0 0 0 [some (.ref x0), some (.int x1), none, none] []
  unfold m_X7_follows at h
  refine v_aload_n G dX7_follows_0 rfl ?_
  refine v_iconst G (0 : Int32) dX7_follows_1 (by decide) ?_
  obtain ⟨M1, q2, h⟩ := bi_ h
  refine v_putI (f := 0) G cl7 dX7_follows_2 w839 (by decide) (by decide) (by decide) rfl rfl q2 ?_
  refine v_aload_n G dX7_follows_5 rfl ?_
  refine v_iload_n G dX7_follows_6 rfl ?_
  obtain ⟨q21, h⟩ := if_s h
  obtain ⟨v4, q3, h⟩ := bi_ h
  refine v_callV0 (e_X7_isPupil q3) G cl7 my_X7_isPupil rfl w1074 w41 w1072 dX7_follows_7 q21 rfl (Nat.le_of_ble_eq_true rfl) rfl (Nat.le_of_ble_eq_true rfl) (Nat.zero_le _) (Nat.zero_le _) ?_
  refine v_if_ne 16 G dX7_follows_10 (by decide) (fun q5 => ?_) (fun q5 => ?_)
  · rw [if_neg q5] at h
    refine v_aload_n G dX7_follows_16 rfl ?_
    obtain ⟨b6, q7, h⟩ := bi_ h
    refine v_getR (f := 5) G cl7 dX7_follows_17 w844 (by decide) (by decide) q7 ?_
    refine v_iload_n G dX7_follows_20 rfl ?_
    refine v_iconst G (2 : Int32) dX7_follows_21 (by decide) ?_
    obtain ⟨v9, q8, h⟩ := bi_ h
    refine v_callS0 (e_X7_of q8) G my_X7_of w1045 w1044 dX7_follows_22 rfl (Nat.le_of_ble_eq_true rfl) rfl (Nat.le_of_ble_eq_true rfl) (Nat.zero_le _) (Nat.zero_le _) ?_
    refine v_istore_n [some (.ref x0), some (.int x1), some (.int v9), none] G dX7_follows_25 (Nat.le_of_ble_eq_true rfl) rfl rfl ?_
    refine v_iconst G (0 : Int32) dX7_follows_26 (by decide) ?_
    refine v_istore_n [some (.ref x0), some (.int x1), some (.int v9), some (.int (0 : Int32))] G dX7_follows_27 (Nat.le_of_ble_eq_true rfl) rfl rfl ?_
    refine v_mask [true, false, true, true] rfl ?_
    refine e_X7_follows_L28 G (Nat.zero_le _) (Nat.zero_le _) _ _ (fun v20 h => ?_) FU _ _ h
    refine v_iload_n G dX7_follows_66 rfl ?_
    cases h
    exact v_iret G F dX7_follows_67 rfl (Nat.le_refl _)
  · rw [if_pos q5] at h
    refine v_ldc G (-1000001 : Int32) dX7_follows_13 w931 ?_
    cases h
    exact v_iret G F dX7_follows_15 rfl (Nat.le_refl _)
/-! X7_needed -/
def m_X7_needed_L7 {ρ : Type} (k0 : Int32 → Option ρ) (M : mM) (x0 : Nat) (x2 : Int32) : Nat → Int32 → Int32 → Option ρ
  | 0, _, _ => none
  | n + 1, x3, x4 =>
    if x4 < (0 : Int32) then (
      k0 x3
    ) else (
      (m_X7_has M x3 x4).bind fun v3 =>
      if v3 = (0 : Int32) then (
        m_X7_needed_L7 k0 M x0 x2 n (x3 ||| (0 : Int32)) (x4 + (-1 : Int32))
      ) else (
        (m_X7_has M x2 x4).bind fun v6 =>
        if v6 = (0 : Int32) then (
          (gR M x0 7 5).bind fun b8 =>
          (ldI M b8 ((5 : Int32) + x4)).bind fun v11 =>
          m_X7_needed_L7 k0 M x0 x2 n (x3 ||| v11) (x4 + (-1 : Int32))
        ) else (
          m_X7_needed_L7 k0 M x0 x2 n (x3 ||| (0 : Int32)) (x4 + (-1 : Int32))
        )
      )
    )
theorem e_X7_needed_L7 {X : xX} {Z : zZ} {cn sn : Nat} {ρ : Type} {r : ρ} {k0 : Int32 → Option ρ} (G : ok_ X Z yX7_needed cX7_needed 5 1 0 0) (hcn : cn ≤ 0) (hsn : sn ≤ 0) (M : mM) (x0 : Nat) (x2 : Int32)
    (hx0 : ∀ (z3 : Int32), k0 z3 = some r → V X Z M cn sn 52 [none, none, none, some (.int z3), none] []) :
    ∀ (n : Nat) (x3 : Int32) (x4 : Int32), m_X7_needed_L7 k0 M x0 x2 n x3 x4 = some r → V X Z M cn sn 7 [some (.ref x0), none, some (.int x2), some (.int x3), some (.int x4)] [] := by
  intro n
  induction n with
  | zero => intro x3 x4 h; rw [m_X7_needed_L7] at h; cases h
  | succ n ih =>
    intro x3 x4 h
    rw [m_X7_needed_L7] at h
    refine v_iload G dX7_needed_7 rfl ?_
    refine v_if_lt 52 G dX7_needed_9 (by decide) (fun q1 => ?_) (fun q1 => ?_)
    · rw [if_pos q1] at h
      exact v_mask [false, false, false, true, false] rfl (hx0 _ h)
    · rw [if_neg q1] at h
      refine v_iload_n G dX7_needed_12 rfl ?_
      refine v_iload_n G dX7_needed_13 rfl ?_
      refine v_iload G dX7_needed_14 rfl ?_
      obtain ⟨v3, q2, h⟩ := bi_ h
      refine v_callS0 (e_X7_has q2) G my_X7_has w1051 w1050 dX7_needed_16 rfl (Nat.le_of_ble_eq_true rfl) rfl (Nat.le_of_ble_eq_true rfl) hcn hsn ?_
      refine v_if_eq 43 G dX7_needed_19 (by decide) (fun q4 => ?_) (fun q4 => ?_)
      · rw [if_pos q4] at h
        refine v_iconst G (0 : Int32) dX7_needed_43 (by decide) ?_
        refine v_ior G dX7_needed_44 ?_
        refine v_istore_n [some (.ref x0), none, some (.int x2), some (.int (x3 ||| (0 : Int32))), some (.int x4)] G dX7_needed_45 (Nat.le_of_ble_eq_true rfl) rfl rfl ?_
        refine v_iinc (x4 + (-1 : Int32)) [some (.ref x0), none, some (.int x2), some (.int (x3 ||| (0 : Int32))), some (.int (x4 + (-1 : Int32)))] G dX7_needed_46 rfl rfl (Nat.le_of_ble_eq_true rfl) rfl rfl ?_
        refine v_goto 7 G dX7_needed_49 (by decide) ?_
        exact v_mask [true, false, true, true, true] rfl (ih _ _ h)
      · rw [if_neg q4] at h
        refine v_iload_n G dX7_needed_22 rfl ?_
        refine v_iload G dX7_needed_23 rfl ?_
        obtain ⟨v6, q5, h⟩ := bi_ h
        refine v_callS0 (e_X7_has q5) G my_X7_has w1051 w1050 dX7_needed_25 rfl (Nat.le_of_ble_eq_true rfl) rfl (Nat.le_of_ble_eq_true rfl) hcn hsn ?_
        refine v_if_ne 43 G dX7_needed_28 (by decide) (fun q7 => ?_) (fun q7 => ?_)
        · rw [if_neg q7] at h
          refine v_iconst G (0 : Int32) dX7_needed_43 (by decide) ?_
          refine v_ior G dX7_needed_44 ?_
          refine v_istore_n [some (.ref x0), none, some (.int x2), some (.int (x3 ||| (0 : Int32))), some (.int x4)] G dX7_needed_45 (Nat.le_of_ble_eq_true rfl) rfl rfl ?_
          refine v_iinc (x4 + (-1 : Int32)) [some (.ref x0), none, some (.int x2), some (.int (x3 ||| (0 : Int32))), some (.int (x4 + (-1 : Int32)))] G dX7_needed_46 rfl rfl (Nat.le_of_ble_eq_true rfl) rfl rfl ?_
          refine v_goto 7 G dX7_needed_49 (by decide) ?_
          exact v_mask [true, false, true, true, true] rfl (ih _ _ h)
        · rw [if_pos q7] at h
          refine v_aload_n G dX7_needed_31 rfl ?_
          obtain ⟨b8, q9, h⟩ := bi_ h
          refine v_getR (f := 5) G cl7 dX7_needed_32 w844 (by decide) (by decide) q9 ?_
          refine v_iconst G (5 : Int32) dX7_needed_35 (by decide) ?_
          refine v_iload G dX7_needed_36 rfl ?_
          refine v_iadd G dX7_needed_38 ?_
          obtain ⟨v11, q10, h⟩ := bi_ h
          refine v_iald G dX7_needed_39 q10 ?_
          refine v_goto 44 G dX7_needed_40 (by decide) ?_
          refine v_ior G dX7_needed_44 ?_
          refine v_istore_n [some (.ref x0), none, some (.int x2), some (.int (x3 ||| v11)), some (.int x4)] G dX7_needed_45 (Nat.le_of_ble_eq_true rfl) rfl rfl ?_
          refine v_iinc (x4 + (-1 : Int32)) [some (.ref x0), none, some (.int x2), some (.int (x3 ||| v11)), some (.int (x4 + (-1 : Int32)))] G dX7_needed_46 rfl rfl (Nat.le_of_ble_eq_true rfl) rfl rfl ?_
          refine v_goto 7 G dX7_needed_49 (by decide) ?_
          exact v_mask [true, false, true, true, true] rfl (ih _ _ h)
def m_X7_needed (M : mM) (x0 : Nat) (x1 : Int32) (x2 : Int32) : Option Int32 :=
  m_X7_needed_L7
    (fun v12 =>
      some v12)
    M x0 x2 FU ((1 : Int32) <<< (x1 &&& 31)) x1
theorem e_X7_needed {Z : zZ} {M : mM} {x0 : Nat} {x1 : Int32} {x2 : Int32} {r : Int32} (h : m_X7_needed M x0 x1 x2 = some r) : EM Z yX7_needed cX7_needed 5 (some .int) 1 0 0 [.ref x0, .int x1, .int x2] M M (some (.int r)) := by
  refine EM_of my_X7_needed (Nat.le_of_ble_eq_true rfl) (fun X G F => ?_)
  show V X Z M 0 0 0 [some (.ref x0), some (.int x1), some (.int x2), none, none] []
  unfold m_X7_needed at h
  refine v_iconst G (1 : Int32) dX7_needed_0 (by decide) ?_
  refine v_iload_n G dX7_needed_1 rfl ?_
  refine v_ishl G dX7_needed_2 ?_
  refine v_istore_n [some (.ref x0), some (.int x1), some (.int x2), some (.int ((1 : Int32) <<< (x1 &&& 31))), none] G dX7_needed_3 (Nat.le_of_ble_eq_true rfl) rfl rfl ?_
  refine v_iload_n G dX7_needed_4 rfl ?_
  refine v_istore [some (.ref x0), some (.int x1), some (.int x2), some (.int ((1 : Int32) <<< (x1 &&& 31))), some (.int x1)] G dX7_needed_5 (Nat.le_of_ble_eq_true rfl) rfl rfl ?_
  refine v_mask [true, false, true, true, true] rfl ?_
  refine e_X7_needed_L7 G (Nat.zero_le _) (Nat.zero_le _) _ _ _ (fun v12 h => ?_) FU _ _ h
  refine v_iload_n G dX7_needed_52 rfl ?_
  cases h
  exact v_iret G F dX7_needed_53 rfl (Nat.le_refl _)
/-! X7_lacks -/
def m_X7_lacks (M : mM) (x0 : Nat) (x1 : Int32) (x2 : Int32) : Option (mM × Int32) :=
  (pI M x0 7 0 (0 : Int32)).bind fun M1 =>
  if isO M1 x0 7 = true then
  (m_X7_isPupil M1 x0 x1).bind fun v4 =>
  if v4 = (0 : Int32) then (
    some (M1, (-1000001 : Int32))
  ) else (
    if isO M1 x0 7 = true then
    (m_X7_isSubject M1 x0 x2).bind fun v7 =>
    if v7 = (0 : Int32) then (
      some (M1, (-1000001 : Int32))
    ) else (
      if isO M1 x0 7 = true then
      (m_X7_needed M1 x0 x2 (0 : Int32)).bind fun v10 =>
      (gR M1 x0 7 5).bind fun b11 =>
      (m_X7_of M1 b11 x1 (2 : Int32)).bind fun v14 =>
      some (M1, (v10 &&& (v14 ^^^ (-1 : Int32))))
      else none
    )
    else none
  )
  else none
theorem e_X7_lacks {Z : zZ} {M : mM} {N : mM} {x0 : Nat} {x1 : Int32} {x2 : Int32} {r : Int32} (h : m_X7_lacks M x0 x1 x2 = some (N, r)) : EM Z yX7_lacks cX7_lacks 3 (some .int) 2 0 0 [.ref x0, .int x1, .int x2] M N (some (.int r)) := by
  refine EM_of my_X7_lacks (Nat.le_of_ble_eq_true rfl) (fun X G F => ?_)
  show V X Z M 0 0 0 [some (.ref x0), some (.int x1), some (.int x2)] []
  unfold m_X7_lacks at h
  refine v_aload_n G dX7_lacks_0 rfl ?_
  refine v_iconst G (0 : Int32) dX7_lacks_1 (by decide) ?_
  obtain ⟨M1, q2, h⟩ := bi_ h
  refine v_putI (f := 0) G cl7 dX7_lacks_2 w839 (by decide) (by decide) (by decide) rfl rfl q2 ?_
  refine v_aload_n G dX7_lacks_5 rfl ?_
  refine v_iload_n G dX7_lacks_6 rfl ?_
  obtain ⟨q17, h⟩ := if_s h
  obtain ⟨v4, q3, h⟩ := bi_ h
  refine v_callV0 (e_X7_isPupil q3) G cl7 my_X7_isPupil rfl w1074 w41 w1072 dX7_lacks_7 q17 rfl (Nat.le_of_ble_eq_true rfl) rfl (Nat.le_of_ble_eq_true rfl) (Nat.zero_le _) (Nat.zero_le _) ?_
  refine v_if_eq 21 G dX7_lacks_10 (by decide) (fun q5 => ?_) (fun q5 => ?_)
  · rw [if_pos q5] at h
    refine v_ldc G (-1000001 : Int32) dX7_lacks_21 w931 ?_
    cases h
    exact v_iret G F dX7_lacks_23 rfl (Nat.le_refl _)
  · rw [if_neg q5] at h
    refine v_aload_n G dX7_lacks_13 rfl ?_
    refine v_iload_n G dX7_lacks_14 rfl ?_
    obtain ⟨q16, h⟩ := if_s h
    obtain ⟨v7, q6, h⟩ := bi_ h
    refine v_callV0 (e_X7_isSubject q6) G cl7 my_X7_isSubject rfl w1089 w43 w1087 dX7_lacks_15 q16 rfl (Nat.le_of_ble_eq_true rfl) rfl (Nat.le_of_ble_eq_true rfl) (Nat.zero_le _) (Nat.zero_le _) ?_
    refine v_if_ne 24 G dX7_lacks_18 (by decide) (fun q8 => ?_) (fun q8 => ?_)
    · rw [if_neg q8] at h
      refine v_aload_n G dX7_lacks_24 rfl ?_
      refine v_iload_n G dX7_lacks_25 rfl ?_
      refine v_iconst G (0 : Int32) dX7_lacks_26 (by decide) ?_
      obtain ⟨q15, h⟩ := if_s h
      obtain ⟨v10, q9, h⟩ := bi_ h
      refine v_callV0 (e_X7_needed q9) G cl7 my_X7_needed rfl w1161 w48 w1159 dX7_lacks_27 q15 rfl (Nat.le_of_ble_eq_true rfl) rfl (Nat.le_of_ble_eq_true rfl) (Nat.zero_le _) (Nat.zero_le _) ?_
      refine v_aload_n G dX7_lacks_30 rfl ?_
      obtain ⟨b11, q12, h⟩ := bi_ h
      refine v_getR (f := 5) G cl7 dX7_lacks_31 w844 (by decide) (by decide) q12 ?_
      refine v_iload_n G dX7_lacks_34 rfl ?_
      refine v_iconst G (2 : Int32) dX7_lacks_35 (by decide) ?_
      obtain ⟨v14, q13, h⟩ := bi_ h
      refine v_callS0 (e_X7_of q13) G my_X7_of w1045 w1044 dX7_lacks_36 rfl (Nat.le_of_ble_eq_true rfl) rfl (Nat.le_of_ble_eq_true rfl) (Nat.zero_le _) (Nat.zero_le _) ?_
      refine v_iconst G (-1 : Int32) dX7_lacks_39 (by decide) ?_
      refine v_ixor G dX7_lacks_40 ?_
      refine v_iand G dX7_lacks_41 ?_
      cases h
      exact v_iret G F dX7_lacks_42 rfl (Nat.le_refl _)
    · rw [if_pos q8] at h
      refine v_ldc G (-1000001 : Int32) dX7_lacks_21 w931 ?_
      cases h
      exact v_iret G F dX7_lacks_23 rfl (Nat.le_refl _)
