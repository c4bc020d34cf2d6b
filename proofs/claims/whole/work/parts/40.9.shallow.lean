/-! X7_must -/
def m_X7_must (M : mM) (x0 : Nat) (x1 : Int32) : Option mM :=
  if x1 = (0 : Int32) then (
    if isO M x0 7 = true then
    (m_X7_bad M x0 (1 : Int32)).bind fun M9 =>
    (gI M9 x0 7 16).bind fun v10 =>
    if v10 = (0 : Int32) then (
      if isO M9 x0 7 = true then
      (m_X7_nextToken M9 x0).bind fun M14 =>
      some M14
      else none
    ) else (
      some M9
    )
    else none
  ) else (
    (gI M x0 7 16).bind fun v2 =>
    if v2 = (0 : Int32) then (
      if isO M x0 7 = true then
      (m_X7_nextToken M x0).bind fun M6 =>
      some M6
      else none
    ) else (
      some M
    )
  )
theorem e_X7_must {Z : zZ} {M : mM} {N : mM} {x0 : Nat} {x1 : Int32} (h : m_X7_must M x0 x1 = some N) : EM Z yX7_must cX7_must 2 none 2 0 0 [.ref x0, .int x1] M N none := by
  refine EM_of my_X7_must (Nat.le_of_ble_eq_true rfl) (fun X G F => ?_)
  show V X Z M 0 0 0 [some (.ref x0), some (.int x1)] []
  unfold m_X7_must at h
  refine v_iload_n G dX7_must_0 rfl ?_
  refine v_if_ne 9 G dX7_must_1 (by decide) (fun q1 => ?_) (fun q1 => ?_)
  · rw [if_neg q1] at h
    refine v_aload_n G dX7_must_9 rfl ?_
    obtain ⟨v2, q3, h⟩ := bi_ h
    refine v_getI (f := 16) G cl7 dX7_must_10 w855 (by decide) (by decide) q3 ?_
    refine v_if_ne 20 G dX7_must_13 (by decide) (fun q4 => ?_) (fun q4 => ?_)
    · rw [if_neg q4] at h
      cases h
      exact v_vret G F dX7_must_20 rfl (Nat.le_refl _)
    · rw [if_pos q4] at h
      refine v_aload_n G dX7_must_16 rfl ?_
      obtain ⟨q7, h⟩ := if_s h
      obtain ⟨M6, q5, h⟩ := bi_ h
      refine v_callV0 (e_X7_nextToken q5) G cl7 my_X7_nextToken rfl w969 w27 w967 dX7_must_17 q7 rfl (Nat.le_of_ble_eq_true rfl) rfl (Nat.le_of_ble_eq_true rfl) (Nat.zero_le _) (Nat.zero_le _) ?_
      cases h
      exact v_vret G F dX7_must_20 rfl (Nat.le_refl _)
  · rw [if_pos q1] at h
    refine v_aload_n G dX7_must_4 rfl ?_
    refine v_iconst G (1 : Int32) dX7_must_5 (by decide) ?_
    obtain ⟨q16, h⟩ := if_s h
    obtain ⟨M9, q8, h⟩ := bi_ h
    refine v_callV0 (e_X7_bad q8) G cl7 my_X7_bad rfl w986 w30 w984 dX7_must_6 q16 rfl (Nat.le_of_ble_eq_true rfl) rfl (Nat.le_of_ble_eq_true rfl) (Nat.zero_le _) (Nat.zero_le _) ?_
    refine v_aload_n G dX7_must_9 rfl ?_
    obtain ⟨v10, q11, h⟩ := bi_ h
    refine v_getI (f := 16) G cl7 dX7_must_10 w855 (by decide) (by decide) q11 ?_
    refine v_if_ne 20 G dX7_must_13 (by decide) (fun q12 => ?_) (fun q12 => ?_)
    · rw [if_neg q12] at h
      cases h
      exact v_vret G F dX7_must_20 rfl (Nat.le_refl _)
    · rw [if_pos q12] at h
      refine v_aload_n G dX7_must_16 rfl ?_
      obtain ⟨q15, h⟩ := if_s h
      obtain ⟨M14, q13, h⟩ := bi_ h
      refine v_callV0 (e_X7_nextToken q13) G cl7 my_X7_nextToken rfl w969 w27 w967 dX7_must_17 q15 rfl (Nat.le_of_ble_eq_true rfl) rfl (Nat.le_of_ble_eq_true rfl) (Nat.zero_le _) (Nat.zero_le _) ?_
      cases h
      exact v_vret G F dX7_must_20 rfl (Nat.le_refl _)
/-! X7_isLetter -/
def m_X7_isLetter (M : mM) (x0 : Nat) (x1 : Int32) : Option Int32 :=
  (gI M x0 7 16).bind fun v1 =>
  if v1 = (0 : Int32) then (
    (gI M x0 7 14).bind fun v4 =>
    if v4 = (2 : Int32) then (
      (gI M x0 7 15).bind fun v7 =>
      if v7 = x1 then (
        some (1 : Int32)
      ) else (
        some (0 : Int32)
      )
    ) else (
      some (0 : Int32)
    )
  ) else (
    some (0 : Int32)
  )
theorem e_X7_isLetter {Z : zZ} {M : mM} {x0 : Nat} {x1 : Int32} {r : Int32} (h : m_X7_isLetter M x0 x1 = some r) : EM Z yX7_isLetter cX7_isLetter 2 (some .boolean) 0 0 0 [.ref x0, .int x1] M M (some (.int r)) := by
  refine EM_of my_X7_isLetter (Nat.le_of_ble_eq_true rfl) (fun X G F => ?_)
  show V X Z M 0 0 0 [some (.ref x0), some (.int x1)] []
  unfold m_X7_isLetter at h
  refine v_aload_n G dX7_isLetter_0 rfl ?_
  obtain ⟨v1, q2, h⟩ := bi_ h
  refine v_getI (f := 16) G cl7 dX7_isLetter_1 w855 (by decide) (by decide) q2 ?_
  refine v_if_ne 27 G dX7_isLetter_4 (by decide) (fun q3 => ?_) (fun q3 => ?_)
  · rw [if_neg q3] at h
    refine v_iconst G (0 : Int32) dX7_isLetter_27 (by decide) ?_
    cases h
    exact v_zret G F rfl dX7_isLetter_28 rfl (Nat.le_refl _)
  · rw [if_pos q3] at h
    refine v_aload_n G dX7_isLetter_7 rfl ?_
    obtain ⟨v4, q5, h⟩ := bi_ h
    refine v_getI (f := 14) G cl7 dX7_isLetter_8 w853 (by decide) (by decide) q5 ?_
    refine v_iconst G (2 : Int32) dX7_isLetter_11 (by decide) ?_
    refine v_ic_ne 27 G dX7_isLetter_12 (by decide) (fun q6 => ?_) (fun q6 => ?_)
    · rw [if_neg q6] at h
      refine v_iconst G (0 : Int32) dX7_isLetter_27 (by decide) ?_
      cases h
      exact v_zret G F rfl dX7_isLetter_28 rfl (Nat.le_refl _)
    · rw [if_pos q6] at h
      refine v_aload_n G dX7_isLetter_15 rfl ?_
      obtain ⟨v7, q8, h⟩ := bi_ h
      refine v_getI (f := 15) G cl7 dX7_isLetter_16 w854 (by decide) (by decide) q8 ?_
      refine v_iload_n G dX7_isLetter_19 rfl ?_
      refine v_ic_ne 27 G dX7_isLetter_20 (by decide) (fun q9 => ?_) (fun q9 => ?_)
      · rw [if_neg q9] at h
        refine v_iconst G (0 : Int32) dX7_isLetter_27 (by decide) ?_
        cases h
        exact v_zret G F rfl dX7_isLetter_28 rfl (Nat.le_refl _)
      · rw [if_pos q9] at h
        refine v_iconst G (1 : Int32) dX7_isLetter_23 (by decide) ?_
        refine v_goto 28 G dX7_isLetter_24 (by decide) ?_
        cases h
        exact v_zret G F rfl dX7_isLetter_28 rfl (Nat.le_refl _)
/-! X7_number -/
def m_X7_number (M : mM) (x0 : Nat) (x1 : Int32) (x2 : Int32) : Option (mM × Int32) :=
  (gI M x0 7 16).bind fun v1 =>
  if v1 = (0 : Int32) then (
    (gI M x0 7 14).bind fun v48 =>
    if v48 = (3 : Int32) then (
      (gI M x0 7 16).bind fun v51 =>
      if v51 = (0 : Int32) then (
        (gI M x0 7 15).bind fun v65 =>
        (m_X7_in M (Int32.toInt64 v65) (Int32.toInt64 x1) (Int32.toInt64 x2)).bind fun v68 =>
        if v68 = (0 : Int32) then (
          if isO M x0 7 = true then
          (m_X7_bad M x0 (2 : Int32)).bind fun M82 =>
          (gI M82 x0 7 16).bind fun v83 =>
          if v83 = (0 : Int32) then (
            (gI M82 x0 7 15).bind fun v89 =>
            if isO M82 x0 7 = true then
            (m_X7_must M82 x0 (1 : Int32)).bind fun M92 =>
            some (M92, v89)
            else none
          ) else (
            if isO M82 x0 7 = true then
            (m_X7_must M82 x0 (1 : Int32)).bind fun M87 =>
            some (M87, x1)
            else none
          )
          else none
        ) else (
          (gI M x0 7 16).bind fun v70 =>
          if v70 = (0 : Int32) then (
            (gI M x0 7 15).bind fun v76 =>
            if isO M x0 7 = true then
            (m_X7_must M x0 (1 : Int32)).bind fun M79 =>
            some (M79, v76)
            else none
          ) else (
            if isO M x0 7 = true then
            (m_X7_must M x0 (1 : Int32)).bind fun M74 =>
            some (M74, x1)
            else none
          )
        )
      ) else (
        (gI M x0 7 16).bind fun v54 =>
        if v54 = (0 : Int32) then (
          (gI M x0 7 15).bind fun v60 =>
          if isO M x0 7 = true then
          (m_X7_must M x0 (1 : Int32)).bind fun M63 =>
          some (M63, v60)
          else none
        ) else (
          if isO M x0 7 = true then
          (m_X7_must M x0 (1 : Int32)).bind fun M58 =>
          some (M58, x1)
          else none
        )
      )
    ) else (
      if isO M x0 7 = true then
      (m_X7_bad M x0 (1 : Int32)).bind fun M96 =>
      (gI M96 x0 7 16).bind fun v97 =>
      if v97 = (0 : Int32) then (
        (gI M96 x0 7 15).bind fun v111 =>
        (m_X7_in M96 (Int32.toInt64 v111) (Int32.toInt64 x1) (Int32.toInt64 x2)).bind fun v114 =>
        if v114 = (0 : Int32) then (
          if isO M96 x0 7 = true then
          (m_X7_bad M96 x0 (2 : Int32)).bind fun M128 =>
          (gI M128 x0 7 16).bind fun v129 =>
          if v129 = (0 : Int32) then (
            (gI M128 x0 7 15).bind fun v135 =>
            if isO M128 x0 7 = true then
            (m_X7_must M128 x0 (1 : Int32)).bind fun M138 =>
            some (M138, v135)
            else none
          ) else (
            if isO M128 x0 7 = true then
            (m_X7_must M128 x0 (1 : Int32)).bind fun M133 =>
            some (M133, x1)
            else none
          )
          else none
        ) else (
          (gI M96 x0 7 16).bind fun v116 =>
          if v116 = (0 : Int32) then (
            (gI M96 x0 7 15).bind fun v122 =>
            if isO M96 x0 7 = true then
            (m_X7_must M96 x0 (1 : Int32)).bind fun M125 =>
            some (M125, v122)
            else none
          ) else (
            if isO M96 x0 7 = true then
            (m_X7_must M96 x0 (1 : Int32)).bind fun M120 =>
            some (M120, x1)
            else none
          )
        )
      ) else (
        (gI M96 x0 7 16).bind fun v100 =>
        if v100 = (0 : Int32) then (
          (gI M96 x0 7 15).bind fun v106 =>
          if isO M96 x0 7 = true then
          (m_X7_must M96 x0 (1 : Int32)).bind fun M109 =>
          some (M109, v106)
          else none
        ) else (
          if isO M96 x0 7 = true then
          (m_X7_must M96 x0 (1 : Int32)).bind fun M104 =>
          some (M104, x1)
          else none
        )
      )
      else none
    )
  ) else (
    (gI M x0 7 16).bind fun v4 =>
    if v4 = (0 : Int32) then (
      (gI M x0 7 15).bind fun v18 =>
      (m_X7_in M (Int32.toInt64 v18) (Int32.toInt64 x1) (Int32.toInt64 x2)).bind fun v21 =>
      if v21 = (0 : Int32) then (
        if isO M x0 7 = true then
        (m_X7_bad M x0 (2 : Int32)).bind fun M35 =>
        (gI M35 x0 7 16).bind fun v36 =>
        if v36 = (0 : Int32) then (
          (gI M35 x0 7 15).bind fun v42 =>
          if isO M35 x0 7 = true then
          (m_X7_must M35 x0 (1 : Int32)).bind fun M45 =>
          some (M45, v42)
          else none
        ) else (
          if isO M35 x0 7 = true then
          (m_X7_must M35 x0 (1 : Int32)).bind fun M40 =>
          some (M40, x1)
          else none
        )
        else none
      ) else (
        (gI M x0 7 16).bind fun v23 =>
        if v23 = (0 : Int32) then (
          (gI M x0 7 15).bind fun v29 =>
          if isO M x0 7 = true then
          (m_X7_must M x0 (1 : Int32)).bind fun M32 =>
          some (M32, v29)
          else none
        ) else (
          if isO M x0 7 = true then
          (m_X7_must M x0 (1 : Int32)).bind fun M27 =>
          some (M27, x1)
          else none
        )
      )
    ) else (
      (gI M x0 7 16).bind fun v7 =>
      if v7 = (0 : Int32) then (
        (gI M x0 7 15).bind fun v13 =>
        if isO M x0 7 = true then
        (m_X7_must M x0 (1 : Int32)).bind fun M16 =>
        some (M16, v13)
        else none
      ) else (
        if isO M x0 7 = true then
        (m_X7_must M x0 (1 : Int32)).bind fun M11 =>
        some (M11, x1)
        else none
      )
    )
  )
theorem e_X7_number {Z : zZ} {M : mM} {N : mM} {x0 : Nat} {x1 : Int32} {x2 : Int32} {r : Int32} (h : m_X7_number M x0 x1 x2 = some (N, r)) : EM Z yX7_number cX7_number 4 (some .int) 3 0 0 [.ref x0, .int x1, .int x2] M N (some (.int r)) := by
  refine EM_of my_X7_number (Nat.le_of_ble_eq_true rfl) (fun X G F => ?_)
  show V X Z M 0 0 0 [some (.ref x0), some (.int x1), some (.int x2), none] []
  unfold m_X7_number at h
  refine v_aload_n G dX7_number_0 rfl ?_
  obtain ⟨v1, q2, h⟩ := bi_ h
  refine v_getI (f := 16) G cl7 dX7_number_1 w855 (by decide) (by decide) q2 ?_
  refine v_if_ne 20 G dX7_number_4 (by decide) (fun q3 => ?_) (fun q3 => ?_)
  · rw [if_neg q3] at h
    refine v_aload_n G dX7_number_20 rfl ?_
    obtain ⟨v4, q5, h⟩ := bi_ h
    refine v_getI (f := 16) G cl7 dX7_number_21 w855 (by decide) (by decide) q5 ?_
    refine v_if_ne 47 G dX7_number_24 (by decide) (fun q6 => ?_) (fun q6 => ?_)
    · rw [if_neg q6] at h
      refine v_aload_n G dX7_number_47 rfl ?_
      obtain ⟨v7, q8, h⟩ := bi_ h
      refine v_getI (f := 16) G cl7 dX7_number_48 w855 (by decide) (by decide) q8 ?_
      refine v_if_ne 61 G dX7_number_51 (by decide) (fun q9 => ?_) (fun q9 => ?_)
      · rw [if_neg q9] at h
        refine v_iload_n G dX7_number_61 rfl ?_
        refine v_istore_n [some (.ref x0), some (.int x1), some (.int x2), some (.int x1)] G dX7_number_62 (Nat.le_of_ble_eq_true rfl) rfl rfl ?_
        refine v_aload_n G dX7_number_63 rfl ?_
        refine v_iconst G (1 : Int32) dX7_number_64 (by decide) ?_
        obtain ⟨q12, h⟩ := if_s h
        obtain ⟨M11, q10, h⟩ := bi_ h
        refine v_callV0 (e_X7_must q10) G cl7 my_X7_must rfl w982 w29 w980 dX7_number_65 q12 rfl (Nat.le_of_ble_eq_true rfl) rfl (Nat.le_of_ble_eq_true rfl) (Nat.zero_le _) (Nat.zero_le _) ?_
        refine v_iload_n G dX7_number_68 rfl ?_
        cases h
        exact v_iret G F dX7_number_69 rfl (Nat.le_refl _)
      · rw [if_pos q9] at h
        refine v_aload_n G dX7_number_54 rfl ?_
        obtain ⟨v13, q14, h⟩ := bi_ h
        refine v_getI (f := 15) G cl7 dX7_number_55 w854 (by decide) (by decide) q14 ?_
        refine v_goto 62 G dX7_number_58 (by decide) ?_
        refine v_istore_n [some (.ref x0), some (.int x1), some (.int x2), some (.int v13)] G dX7_number_62 (Nat.le_of_ble_eq_true rfl) rfl rfl ?_
        refine v_aload_n G dX7_number_63 rfl ?_
        refine v_iconst G (1 : Int32) dX7_number_64 (by decide) ?_
        obtain ⟨q17, h⟩ := if_s h
        obtain ⟨M16, q15, h⟩ := bi_ h
        refine v_callV0 (e_X7_must q15) G cl7 my_X7_must rfl w982 w29 w980 dX7_number_65 q17 rfl (Nat.le_of_ble_eq_true rfl) rfl (Nat.le_of_ble_eq_true rfl) (Nat.zero_le _) (Nat.zero_le _) ?_
        refine v_iload_n G dX7_number_68 rfl ?_
        cases h
        exact v_iret G F dX7_number_69 rfl (Nat.le_refl _)
    · rw [if_pos q6] at h
      refine v_aload_n G dX7_number_27 rfl ?_
      obtain ⟨v18, q19, h⟩ := bi_ h
      refine v_getI (f := 15) G cl7 dX7_number_28 w854 (by decide) (by decide) q19 ?_
      refine v_i2l G dX7_number_31 ?_
      refine v_iload_n G dX7_number_32 rfl ?_
      refine v_i2l G dX7_number_33 ?_
      refine v_iload_n G dX7_number_34 rfl ?_
      refine v_i2l G dX7_number_35 ?_
      obtain ⟨v21, q20, h⟩ := bi_ h
      refine v_callS0 (e_X7_in q20) G my_X7_in w928 w927 dX7_number_36 rfl (Nat.le_of_ble_eq_true rfl) rfl (Nat.le_of_ble_eq_true rfl) (Nat.zero_le _) (Nat.zero_le _) ?_
      refine v_if_ne 47 G dX7_number_39 (by decide) (fun q22 => ?_) (fun q22 => ?_)
      · rw [if_neg q22] at h
        refine v_aload_n G dX7_number_47 rfl ?_
        obtain ⟨v23, q24, h⟩ := bi_ h
        refine v_getI (f := 16) G cl7 dX7_number_48 w855 (by decide) (by decide) q24 ?_
        refine v_if_ne 61 G dX7_number_51 (by decide) (fun q25 => ?_) (fun q25 => ?_)
        · rw [if_neg q25] at h
          refine v_iload_n G dX7_number_61 rfl ?_
          refine v_istore_n [some (.ref x0), some (.int x1), some (.int x2), some (.int x1)] G dX7_number_62 (Nat.le_of_ble_eq_true rfl) rfl rfl ?_
          refine v_aload_n G dX7_number_63 rfl ?_
          refine v_iconst G (1 : Int32) dX7_number_64 (by decide) ?_
          obtain ⟨q28, h⟩ := if_s h
          obtain ⟨M27, q26, h⟩ := bi_ h
          refine v_callV0 (e_X7_must q26) G cl7 my_X7_must rfl w982 w29 w980 dX7_number_65 q28 rfl (Nat.le_of_ble_eq_true rfl) rfl (Nat.le_of_ble_eq_true rfl) (Nat.zero_le _) (Nat.zero_le _) ?_
          refine v_iload_n G dX7_number_68 rfl ?_
          cases h
          exact v_iret G F dX7_number_69 rfl (Nat.le_refl _)
        · rw [if_pos q25] at h
          refine v_aload_n G dX7_number_54 rfl ?_
          obtain ⟨v29, q30, h⟩ := bi_ h
          refine v_getI (f := 15) G cl7 dX7_number_55 w854 (by decide) (by decide) q30 ?_
          refine v_goto 62 G dX7_number_58 (by decide) ?_
          refine v_istore_n [some (.ref x0), some (.int x1), some (.int x2), some (.int v29)] G dX7_number_62 (Nat.le_of_ble_eq_true rfl) rfl rfl ?_
          refine v_aload_n G dX7_number_63 rfl ?_
          refine v_iconst G (1 : Int32) dX7_number_64 (by decide) ?_
          obtain ⟨q33, h⟩ := if_s h
          obtain ⟨M32, q31, h⟩ := bi_ h
          refine v_callV0 (e_X7_must q31) G cl7 my_X7_must rfl w982 w29 w980 dX7_number_65 q33 rfl (Nat.le_of_ble_eq_true rfl) rfl (Nat.le_of_ble_eq_true rfl) (Nat.zero_le _) (Nat.zero_le _) ?_
          refine v_iload_n G dX7_number_68 rfl ?_
          cases h
          exact v_iret G F dX7_number_69 rfl (Nat.le_refl _)
      · rw [if_pos q22] at h
        refine v_aload_n G dX7_number_42 rfl ?_
        refine v_iconst G (2 : Int32) dX7_number_43 (by decide) ?_
        obtain ⟨q47, h⟩ := if_s h
        obtain ⟨M35, q34, h⟩ := bi_ h
        refine v_callV0 (e_X7_bad q34) G cl7 my_X7_bad rfl w986 w30 w984 dX7_number_44 q47 rfl (Nat.le_of_ble_eq_true rfl) rfl (Nat.le_of_ble_eq_true rfl) (Nat.zero_le _) (Nat.zero_le _) ?_
        refine v_aload_n G dX7_number_47 rfl ?_
        obtain ⟨v36, q37, h⟩ := bi_ h
        refine v_getI (f := 16) G cl7 dX7_number_48 w855 (by decide) (by decide) q37 ?_
        refine v_if_ne 61 G dX7_number_51 (by decide) (fun q38 => ?_) (fun q38 => ?_)
        · rw [if_neg q38] at h
          refine v_iload_n G dX7_number_61 rfl ?_
          refine v_istore_n [some (.ref x0), some (.int x1), some (.int x2), some (.int x1)] G dX7_number_62 (Nat.le_of_ble_eq_true rfl) rfl rfl ?_
          refine v_aload_n G dX7_number_63 rfl ?_
          refine v_iconst G (1 : Int32) dX7_number_64 (by decide) ?_
          obtain ⟨q41, h⟩ := if_s h
          obtain ⟨M40, q39, h⟩ := bi_ h
          refine v_callV0 (e_X7_must q39) G cl7 my_X7_must rfl w982 w29 w980 dX7_number_65 q41 rfl (Nat.le_of_ble_eq_true rfl) rfl (Nat.le_of_ble_eq_true rfl) (Nat.zero_le _) (Nat.zero_le _) ?_
          refine v_iload_n G dX7_number_68 rfl ?_
          cases h
          exact v_iret G F dX7_number_69 rfl (Nat.le_refl _)
        · rw [if_pos q38] at h
          refine v_aload_n G dX7_number_54 rfl ?_
          obtain ⟨v42, q43, h⟩ := bi_ h
          refine v_getI (f := 15) G cl7 dX7_number_55 w854 (by decide) (by decide) q43 ?_
          refine v_goto 62 G dX7_number_58 (by decide) ?_
          refine v_istore_n [some (.ref x0), some (.int x1), some (.int x2), some (.int v42)] G dX7_number_62 (Nat.le_of_ble_eq_true rfl) rfl rfl ?_
          refine v_aload_n G dX7_number_63 rfl ?_
          refine v_iconst G (1 : Int32) dX7_number_64 (by decide) ?_
          obtain ⟨q46, h⟩ := if_s h
          obtain ⟨M45, q44, h⟩ := bi_ h
          refine v_callV0 (e_X7_must q44) G cl7 my_X7_must rfl w982 w29 w980 dX7_number_65 q46 rfl (Nat.le_of_ble_eq_true rfl) rfl (Nat.le_of_ble_eq_true rfl) (Nat.zero_le _) (Nat.zero_le _) ?_
          refine v_iload_n G dX7_number_68 rfl ?_
          cases h
          exact v_iret G F dX7_number_69 rfl (Nat.le_refl _)
  · rw [if_pos q3] at h
    refine v_aload_n G dX7_number_7 rfl ?_
    obtain ⟨v48, q49, h⟩ := bi_ h
    refine v_getI (f := 14) G cl7 dX7_number_8 w853 (by decide) (by decide) q49 ?_
    refine v_iconst G (3 : Int32) dX7_number_11 (by decide) ?_
    refine v_ic_eq 20 G dX7_number_12 (by decide) (fun q50 => ?_) (fun q50 => ?_)
    · rw [if_pos q50] at h
      refine v_aload_n G dX7_number_20 rfl ?_
      obtain ⟨v51, q52, h⟩ := bi_ h
      refine v_getI (f := 16) G cl7 dX7_number_21 w855 (by decide) (by decide) q52 ?_
      refine v_if_ne 47 G dX7_number_24 (by decide) (fun q53 => ?_) (fun q53 => ?_)
      · rw [if_neg q53] at h
        refine v_aload_n G dX7_number_47 rfl ?_
        obtain ⟨v54, q55, h⟩ := bi_ h
        refine v_getI (f := 16) G cl7 dX7_number_48 w855 (by decide) (by decide) q55 ?_
        refine v_if_ne 61 G dX7_number_51 (by decide) (fun q56 => ?_) (fun q56 => ?_)
        · rw [if_neg q56] at h
          refine v_iload_n G dX7_number_61 rfl ?_
          refine v_istore_n [some (.ref x0), some (.int x1), some (.int x2), some (.int x1)] G dX7_number_62 (Nat.le_of_ble_eq_true rfl) rfl rfl ?_
          refine v_aload_n G dX7_number_63 rfl ?_
          refine v_iconst G (1 : Int32) dX7_number_64 (by decide) ?_
          obtain ⟨q59, h⟩ := if_s h
          obtain ⟨M58, q57, h⟩ := bi_ h
          refine v_callV0 (e_X7_must q57) G cl7 my_X7_must rfl w982 w29 w980 dX7_number_65 q59 rfl (Nat.le_of_ble_eq_true rfl) rfl (Nat.le_of_ble_eq_true rfl) (Nat.zero_le _) (Nat.zero_le _) ?_
          refine v_iload_n G dX7_number_68 rfl ?_
          cases h
          exact v_iret G F dX7_number_69 rfl (Nat.le_refl _)
        · rw [if_pos q56] at h
          refine v_aload_n G dX7_number_54 rfl ?_
          obtain ⟨v60, q61, h⟩ := bi_ h
          refine v_getI (f := 15) G cl7 dX7_number_55 w854 (by decide) (by decide) q61 ?_
          refine v_goto 62 G dX7_number_58 (by decide) ?_
          refine v_istore_n [some (.ref x0), some (.int x1), some (.int x2), some (.int v60)] G dX7_number_62 (Nat.le_of_ble_eq_true rfl) rfl rfl ?_
          refine v_aload_n G dX7_number_63 rfl ?_
          refine v_iconst G (1 : Int32) dX7_number_64 (by decide) ?_
          obtain ⟨q64, h⟩ := if_s h
          obtain ⟨M63, q62, h⟩ := bi_ h
          refine v_callV0 (e_X7_must q62) G cl7 my_X7_must rfl w982 w29 w980 dX7_number_65 q64 rfl (Nat.le_of_ble_eq_true rfl) rfl (Nat.le_of_ble_eq_true rfl) (Nat.zero_le _) (Nat.zero_le _) ?_
          refine v_iload_n G dX7_number_68 rfl ?_
          cases h
          exact v_iret G F dX7_number_69 rfl (Nat.le_refl _)
      · rw [if_pos q53] at h
        refine v_aload_n G dX7_number_27 rfl ?_
        obtain ⟨v65, q66, h⟩ := bi_ h
        refine v_getI (f := 15) G cl7 dX7_number_28 w854 (by decide) (by decide) q66 ?_
        refine v_i2l G dX7_number_31 ?_
        refine v_iload_n G dX7_number_32 rfl ?_
        refine v_i2l G dX7_number_33 ?_
        refine v_iload_n G dX7_number_34 rfl ?_
        refine v_i2l G dX7_number_35 ?_
        obtain ⟨v68, q67, h⟩ := bi_ h
        refine v_callS0 (e_X7_in q67) G my_X7_in w928 w927 dX7_number_36 rfl (Nat.le_of_ble_eq_true rfl) rfl (Nat.le_of_ble_eq_true rfl) (Nat.zero_le _) (Nat.zero_le _) ?_
        refine v_if_ne 47 G dX7_number_39 (by decide) (fun q69 => ?_) (fun q69 => ?_)
        · rw [if_neg q69] at h
          refine v_aload_n G dX7_number_47 rfl ?_
          obtain ⟨v70, q71, h⟩ := bi_ h
          refine v_getI (f := 16) G cl7 dX7_number_48 w855 (by decide) (by decide) q71 ?_
          refine v_if_ne 61 G dX7_number_51 (by decide) (fun q72 => ?_) (fun q72 => ?_)
          · rw [if_neg q72] at h
            refine v_iload_n G dX7_number_61 rfl ?_
            refine v_istore_n [some (.ref x0), some (.int x1), some (.int x2), some (.int x1)] G dX7_number_62 (Nat.le_of_ble_eq_true rfl) rfl rfl ?_
            refine v_aload_n G dX7_number_63 rfl ?_
            refine v_iconst G (1 : Int32) dX7_number_64 (by decide) ?_
            obtain ⟨q75, h⟩ := if_s h
            obtain ⟨M74, q73, h⟩ := bi_ h
            refine v_callV0 (e_X7_must q73) G cl7 my_X7_must rfl w982 w29 w980 dX7_number_65 q75 rfl (Nat.le_of_ble_eq_true rfl) rfl (Nat.le_of_ble_eq_true rfl) (Nat.zero_le _) (Nat.zero_le _) ?_
            refine v_iload_n G dX7_number_68 rfl ?_
            cases h
            exact v_iret G F dX7_number_69 rfl (Nat.le_refl _)
          · rw [if_pos q72] at h
            refine v_aload_n G dX7_number_54 rfl ?_
            obtain ⟨v76, q77, h⟩ := bi_ h
            refine v_getI (f := 15) G cl7 dX7_number_55 w854 (by decide) (by decide) q77 ?_
            refine v_goto 62 G dX7_number_58 (by decide) ?_
            refine v_istore_n [some (.ref x0), some (.int x1), some (.int x2), some (.int v76)] G dX7_number_62 (Nat.le_of_ble_eq_true rfl) rfl rfl ?_
            refine v_aload_n G dX7_number_63 rfl ?_
            refine v_iconst G (1 : Int32) dX7_number_64 (by decide) ?_
            obtain ⟨q80, h⟩ := if_s h
            obtain ⟨M79, q78, h⟩ := bi_ h
            refine v_callV0 (e_X7_must q78) G cl7 my_X7_must rfl w982 w29 w980 dX7_number_65 q80 rfl (Nat.le_of_ble_eq_true rfl) rfl (Nat.le_of_ble_eq_true rfl) (Nat.zero_le _) (Nat.zero_le _) ?_
            refine v_iload_n G dX7_number_68 rfl ?_
            cases h
            exact v_iret G F dX7_number_69 rfl (Nat.le_refl _)
        · rw [if_pos q69] at h
          refine v_aload_n G dX7_number_42 rfl ?_
          refine v_iconst G (2 : Int32) dX7_number_43 (by decide) ?_
          obtain ⟨q94, h⟩ := if_s h
          obtain ⟨M82, q81, h⟩ := bi_ h
          refine v_callV0 (e_X7_bad q81) G cl7 my_X7_bad rfl w986 w30 w984 dX7_number_44 q94 rfl (Nat.le_of_ble_eq_true rfl) rfl (Nat.le_of_ble_eq_true rfl) (Nat.zero_le _) (Nat.zero_le _) ?_
          refine v_aload_n G dX7_number_47 rfl ?_
          obtain ⟨v83, q84, h⟩ := bi_ h
          refine v_getI (f := 16) G cl7 dX7_number_48 w855 (by decide) (by decide) q84 ?_
          refine v_if_ne 61 G dX7_number_51 (by decide) (fun q85 => ?_) (fun q85 => ?_)
          · rw [if_neg q85] at h
            refine v_iload_n G dX7_number_61 rfl ?_
            refine v_istore_n [some (.ref x0), some (.int x1), some (.int x2), some (.int x1)] G dX7_number_62 (Nat.le_of_ble_eq_true rfl) rfl rfl ?_
            refine v_aload_n G dX7_number_63 rfl ?_
            refine v_iconst G (1 : Int32) dX7_number_64 (by decide) ?_
            obtain ⟨q88, h⟩ := if_s h
            obtain ⟨M87, q86, h⟩ := bi_ h
            refine v_callV0 (e_X7_must q86) G cl7 my_X7_must rfl w982 w29 w980 dX7_number_65 q88 rfl (Nat.le_of_ble_eq_true rfl) rfl (Nat.le_of_ble_eq_true rfl) (Nat.zero_le _) (Nat.zero_le _) ?_
            refine v_iload_n G dX7_number_68 rfl ?_
            cases h
            exact v_iret G F dX7_number_69 rfl (Nat.le_refl _)
          · rw [if_pos q85] at h
            refine v_aload_n G dX7_number_54 rfl ?_
            obtain ⟨v89, q90, h⟩ := bi_ h
            refine v_getI (f := 15) G cl7 dX7_number_55 w854 (by decide) (by decide) q90 ?_
            refine v_goto 62 G dX7_number_58 (by decide) ?_
            refine v_istore_n [some (.ref x0), some (.int x1), some (.int x2), some (.int v89)] G dX7_number_62 (Nat.le_of_ble_eq_true rfl) rfl rfl ?_
            refine v_aload_n G dX7_number_63 rfl ?_
            refine v_iconst G (1 : Int32) dX7_number_64 (by decide) ?_
            obtain ⟨q93, h⟩ := if_s h
            obtain ⟨M92, q91, h⟩ := bi_ h
            refine v_callV0 (e_X7_must q91) G cl7 my_X7_must rfl w982 w29 w980 dX7_number_65 q93 rfl (Nat.le_of_ble_eq_true rfl) rfl (Nat.le_of_ble_eq_true rfl) (Nat.zero_le _) (Nat.zero_le _) ?_
            refine v_iload_n G dX7_number_68 rfl ?_
            cases h
            exact v_iret G F dX7_number_69 rfl (Nat.le_refl _)
    · rw [if_neg q50] at h
      refine v_aload_n G dX7_number_15 rfl ?_
      refine v_iconst G (1 : Int32) dX7_number_16 (by decide) ?_
      obtain ⟨q141, h⟩ := if_s h
      obtain ⟨M96, q95, h⟩ := bi_ h
      refine v_callV0 (e_X7_bad q95) G cl7 my_X7_bad rfl w986 w30 w984 dX7_number_17 q141 rfl (Nat.le_of_ble_eq_true rfl) rfl (Nat.le_of_ble_eq_true rfl) (Nat.zero_le _) (Nat.zero_le _) ?_
      refine v_aload_n G dX7_number_20 rfl ?_
      obtain ⟨v97, q98, h⟩ := bi_ h
      refine v_getI (f := 16) G cl7 dX7_number_21 w855 (by decide) (by decide) q98 ?_
      refine v_if_ne 47 G dX7_number_24 (by decide) (fun q99 => ?_) (fun q99 => ?_)
      · rw [if_neg q99] at h
        refine v_aload_n G dX7_number_47 rfl ?_
        obtain ⟨v100, q101, h⟩ := bi_ h
        refine v_getI (f := 16) G cl7 dX7_number_48 w855 (by decide) (by decide) q101 ?_
        refine v_if_ne 61 G dX7_number_51 (by decide) (fun q102 => ?_) (fun q102 => ?_)
        · rw [if_neg q102] at h
          refine v_iload_n G dX7_number_61 rfl ?_
          refine v_istore_n [some (.ref x0), some (.int x1), some (.int x2), some (.int x1)] G dX7_number_62 (Nat.le_of_ble_eq_true rfl) rfl rfl ?_
          refine v_aload_n G dX7_number_63 rfl ?_
          refine v_iconst G (1 : Int32) dX7_number_64 (by decide) ?_
          obtain ⟨q105, h⟩ := if_s h
          obtain ⟨M104, q103, h⟩ := bi_ h
          refine v_callV0 (e_X7_must q103) G cl7 my_X7_must rfl w982 w29 w980 dX7_number_65 q105 rfl (Nat.le_of_ble_eq_true rfl) rfl (Nat.le_of_ble_eq_true rfl) (Nat.zero_le _) (Nat.zero_le _) ?_
          refine v_iload_n G dX7_number_68 rfl ?_
          cases h
          exact v_iret G F dX7_number_69 rfl (Nat.le_refl _)
        · rw [if_pos q102] at h
          refine v_aload_n G dX7_number_54 rfl ?_
          obtain ⟨v106, q107, h⟩ := bi_ h
          refine v_getI (f := 15) G cl7 dX7_number_55 w854 (by decide) (by decide) q107 ?_
          refine v_goto 62 G dX7_number_58 (by decide) ?_
          refine v_istore_n [some (.ref x0), some (.int x1), some (.int x2), some (.int v106)] G dX7_number_62 (Nat.le_of_ble_eq_true rfl) rfl rfl ?_
          refine v_aload_n G dX7_number_63 rfl ?_
          refine v_iconst G (1 : Int32) dX7_number_64 (by decide) ?_
          obtain ⟨q110, h⟩ := if_s h
          obtain ⟨M109, q108, h⟩ := bi_ h
          refine v_callV0 (e_X7_must q108) G cl7 my_X7_must rfl w982 w29 w980 dX7_number_65 q110 rfl (Nat.le_of_ble_eq_true rfl) rfl (Nat.le_of_ble_eq_true rfl) (Nat.zero_le _) (Nat.zero_le _) ?_
          refine v_iload_n G dX7_number_68 rfl ?_
          cases h
          exact v_iret G F dX7_number_69 rfl (Nat.le_refl _)
      · rw [if_pos q99] at h
        refine v_aload_n G dX7_number_27 rfl ?_
        obtain ⟨v111, q112, h⟩ := bi_ h
        refine v_getI (f := 15) G cl7 dX7_number_28 w854 (by decide) (by decide) q112 ?_
        refine v_i2l G dX7_number_31 ?_
        refine v_iload_n G dX7_number_32 rfl ?_
        refine v_i2l G dX7_number_33 ?_
        refine v_iload_n G dX7_number_34 rfl ?_
        refine v_i2l G dX7_number_35 ?_
        obtain ⟨v114, q113, h⟩ := bi_ h
        refine v_callS0 (e_X7_in q113) G my_X7_in w928 w927 dX7_number_36 rfl (Nat.le_of_ble_eq_true rfl) rfl (Nat.le_of_ble_eq_true rfl) (Nat.zero_le _) (Nat.zero_le _) ?_
        refine v_if_ne 47 G dX7_number_39 (by decide) (fun q115 => ?_) (fun q115 => ?_)
        · rw [if_neg q115] at h
          refine v_aload_n G dX7_number_47 rfl ?_
          obtain ⟨v116, q117, h⟩ := bi_ h
          refine v_getI (f := 16) G cl7 dX7_number_48 w855 (by decide) (by decide) q117 ?_
          refine v_if_ne 61 G dX7_number_51 (by decide) (fun q118 => ?_) (fun q118 => ?_)
          · rw [if_neg q118] at h
            refine v_iload_n G dX7_number_61 rfl ?_
            refine v_istore_n [some (.ref x0), some (.int x1), some (.int x2), some (.int x1)] G dX7_number_62 (Nat.le_of_ble_eq_true rfl) rfl rfl ?_
            refine v_aload_n G dX7_number_63 rfl ?_
            refine v_iconst G (1 : Int32) dX7_number_64 (by decide) ?_
            obtain ⟨q121, h⟩ := if_s h
            obtain ⟨M120, q119, h⟩ := bi_ h
            refine v_callV0 (e_X7_must q119) G cl7 my_X7_must rfl w982 w29 w980 dX7_number_65 q121 rfl (Nat.le_of_ble_eq_true rfl) rfl (Nat.le_of_ble_eq_true rfl) (Nat.zero_le _) (Nat.zero_le _) ?_
            refine v_iload_n G dX7_number_68 rfl ?_
            cases h
            exact v_iret G F dX7_number_69 rfl (Nat.le_refl _)
          · rw [if_pos q118] at h
            refine v_aload_n G dX7_number_54 rfl ?_
            obtain ⟨v122, q123, h⟩ := bi_ h
            refine v_getI (f := 15) G cl7 dX7_number_55 w854 (by decide) (by decide) q123 ?_
            refine v_goto 62 G dX7_number_58 (by decide) ?_
            refine v_istore_n [some (.ref x0), some (.int x1), some (.int x2), some (.int v122)] G dX7_number_62 (Nat.le_of_ble_eq_true rfl) rfl rfl ?_
            refine v_aload_n G dX7_number_63 rfl ?_
            refine v_iconst G (1 : Int32) dX7_number_64 (by decide) ?_
            obtain ⟨q126, h⟩ := if_s h
            obtain ⟨M125, q124, h⟩ := bi_ h
            refine v_callV0 (e_X7_must q124) G cl7 my_X7_must rfl w982 w29 w980 dX7_number_65 q126 rfl (Nat.le_of_ble_eq_true rfl) rfl (Nat.le_of_ble_eq_true rfl) (Nat.zero_le _) (Nat.zero_le _) ?_
            refine v_iload_n G dX7_number_68 rfl ?_
            cases h
            exact v_iret G F dX7_number_69 rfl (Nat.le_refl _)
        · rw [if_pos q115] at h
          refine v_aload_n G dX7_number_42 rfl ?_
          refine v_iconst G (2 : Int32) dX7_number_43 (by decide) ?_
          obtain ⟨q140, h⟩ := if_s h
          obtain ⟨M128, q127, h⟩ := bi_ h
          refine v_callV0 (e_X7_bad q127) G cl7 my_X7_bad rfl w986 w30 w984 dX7_number_44 q140 rfl (Nat.le_of_ble_eq_true rfl) rfl (Nat.le_of_ble_eq_true rfl) (Nat.zero_le _) (Nat.zero_le _) ?_
          refine v_aload_n G dX7_number_47 rfl ?_
          obtain ⟨v129, q130, h⟩ := bi_ h
          refine v_getI (f := 16) G cl7 dX7_number_48 w855 (by decide) (by decide) q130 ?_
          refine v_if_ne 61 G dX7_number_51 (by decide) (fun q131 => ?_) (fun q131 => ?_)
          · rw [if_neg q131] at h
            refine v_iload_n G dX7_number_61 rfl ?_
            refine v_istore_n [some (.ref x0), some (.int x1), some (.int x2), some (.int x1)] G dX7_number_62 (Nat.le_of_ble_eq_true rfl) rfl rfl ?_
            refine v_aload_n G dX7_number_63 rfl ?_
            refine v_iconst G (1 : Int32) dX7_number_64 (by decide) ?_
            obtain ⟨q134, h⟩ := if_s h
            obtain ⟨M133, q132, h⟩ := bi_ h
            refine v_callV0 (e_X7_must q132) G cl7 my_X7_must rfl w982 w29 w980 dX7_number_65 q134 rfl (Nat.le_of_ble_eq_true rfl) rfl (Nat.le_of_ble_eq_true rfl) (Nat.zero_le _) (Nat.zero_le _) ?_
            refine v_iload_n G dX7_number_68 rfl ?_
            cases h
            exact v_iret G F dX7_number_69 rfl (Nat.le_refl _)
          · rw [if_pos q131] at h
            refine v_aload_n G dX7_number_54 rfl ?_
            obtain ⟨v135, q136, h⟩ := bi_ h
            refine v_getI (f := 15) G cl7 dX7_number_55 w854 (by decide) (by decide) q136 ?_
            refine v_goto 62 G dX7_number_58 (by decide) ?_
            refine v_istore_n [some (.ref x0), some (.int x1), some (.int x2), some (.int v135)] G dX7_number_62 (Nat.le_of_ble_eq_true rfl) rfl rfl ?_
            refine v_aload_n G dX7_number_63 rfl ?_
            refine v_iconst G (1 : Int32) dX7_number_64 (by decide) ?_
            obtain ⟨q139, h⟩ := if_s h
            obtain ⟨M138, q137, h⟩ := bi_ h
            refine v_callV0 (e_X7_must q137) G cl7 my_X7_must rfl w982 w29 w980 dX7_number_65 q139 rfl (Nat.le_of_ble_eq_true rfl) rfl (Nat.le_of_ble_eq_true rfl) (Nat.zero_le _) (Nat.zero_le _) ?_
            refine v_iload_n G dX7_number_68 rfl ?_
            cases h
            exact v_iret G F dX7_number_69 rfl (Nat.le_refl _)
/-! X7_mustSign -/
def m_X7_mustSign (M : mM) (x0 : Nat) (x1 : Int32) : Option mM :=
  (gI M x0 7 14).bind fun v1 =>
  if v1 = (4 : Int32) then (
    (gI M x0 7 15).bind fun v7 =>
    if v7 = x1 then (
      if isO M x0 7 = true then
      (m_X7_must M x0 (1 : Int32)).bind fun M14 =>
      some M14
      else none
    ) else (
      if isO M x0 7 = true then
      (m_X7_must M x0 (0 : Int32)).bind fun M11 =>
      some M11
      else none
    )
  ) else (
    if isO M x0 7 = true then
    (m_X7_must M x0 (0 : Int32)).bind fun M5 =>
    some M5
    else none
  )
theorem e_X7_mustSign {Z : zZ} {M : mM} {N : mM} {x0 : Nat} {x1 : Int32} (h : m_X7_mustSign M x0 x1 = some N) : EM Z yX7_mustSign cX7_mustSign 2 none 3 0 0 [.ref x0, .int x1] M N none := by
  refine EM_of my_X7_mustSign (Nat.le_of_ble_eq_true rfl) (fun X G F => ?_)
  show V X Z M 0 0 0 [some (.ref x0), some (.int x1)] []
  unfold m_X7_mustSign at h
  refine v_aload_n G dX7_mustSign_0 rfl ?_
  refine v_aload_n G dX7_mustSign_1 rfl ?_
  obtain ⟨v1, q2, h⟩ := bi_ h
  refine v_getI (f := 14) G cl7 dX7_mustSign_2 w853 (by decide) (by decide) q2 ?_
  refine v_iconst G (4 : Int32) dX7_mustSign_5 (by decide) ?_
  refine v_ic_ne 21 G dX7_mustSign_6 (by decide) (fun q3 => ?_) (fun q3 => ?_)
  · rw [if_neg q3] at h
    refine v_iconst G (0 : Int32) dX7_mustSign_21 (by decide) ?_
    obtain ⟨q6, h⟩ := if_s h
    obtain ⟨M5, q4, h⟩ := bi_ h
    refine v_callV0 (e_X7_must q4) G cl7 my_X7_must rfl w982 w29 w980 dX7_mustSign_22 q6 rfl (Nat.le_of_ble_eq_true rfl) rfl (Nat.le_of_ble_eq_true rfl) (Nat.zero_le _) (Nat.zero_le _) ?_
    cases h
    exact v_vret G F dX7_mustSign_25 rfl (Nat.le_refl _)
  · rw [if_pos q3] at h
    refine v_aload_n G dX7_mustSign_9 rfl ?_
    obtain ⟨v7, q8, h⟩ := bi_ h
    refine v_getI (f := 15) G cl7 dX7_mustSign_10 w854 (by decide) (by decide) q8 ?_
    refine v_iload_n G dX7_mustSign_13 rfl ?_
    refine v_ic_ne 21 G dX7_mustSign_14 (by decide) (fun q9 => ?_) (fun q9 => ?_)
    · rw [if_neg q9] at h
      refine v_iconst G (0 : Int32) dX7_mustSign_21 (by decide) ?_
      obtain ⟨q12, h⟩ := if_s h
      obtain ⟨M11, q10, h⟩ := bi_ h
      refine v_callV0 (e_X7_must q10) G cl7 my_X7_must rfl w982 w29 w980 dX7_mustSign_22 q12 rfl (Nat.le_of_ble_eq_true rfl) rfl (Nat.le_of_ble_eq_true rfl) (Nat.zero_le _) (Nat.zero_le _) ?_
      cases h
      exact v_vret G F dX7_mustSign_25 rfl (Nat.le_refl _)
    · rw [if_pos q9] at h
      refine v_iconst G (1 : Int32) dX7_mustSign_17 (by decide) ?_
      refine v_goto 22 G dX7_mustSign_18 (by decide) ?_
      obtain ⟨q15, h⟩ := if_s h
      obtain ⟨M14, q13, h⟩ := bi_ h
      refine v_callV0 (e_X7_must q13) G cl7 my_X7_must rfl w982 w29 w980 dX7_mustSign_22 q15 rfl (Nat.le_of_ble_eq_true rfl) rfl (Nat.le_of_ble_eq_true rfl) (Nat.zero_le _) (Nat.zero_le _) ?_
      cases h
      exact v_vret G F dX7_mustSign_25 rfl (Nat.le_refl _)
/-! X7_begin -/
def m_X7_begin (M : mM) (x0 : Nat) : Option mM :=
  (pI M x0 7 12 (0 : Int32)).bind fun M1 =>
  (pI M1 x0 7 16 (0 : Int32)).bind fun M3 =>
  if isO M3 x0 7 = true then
  (m_X7_nextToken M3 x0).bind fun M6 =>
  some M6
  else none
theorem e_X7_begin {Z : zZ} {M : mM} {N : mM} {x0 : Nat} (h : m_X7_begin M x0 = some N) : EM Z yX7_begin cX7_begin 1 none 2 0 0 [.ref x0] M N none := by
  refine EM_of my_X7_begin (Nat.le_of_ble_eq_true rfl) (fun X G F => ?_)
  show V X Z M 0 0 0 [some (.ref x0)] []
  unfold m_X7_begin at h
  refine v_aload_n G dX7_begin_0 rfl ?_
  refine v_iconst G (0 : Int32) dX7_begin_1 (by decide) ?_
  obtain ⟨M1, q2, h⟩ := bi_ h
  refine v_putI (f := 12) G cl7 dX7_begin_2 w851 (by decide) (by decide) (by decide) rfl rfl q2 ?_
  refine v_aload_n G dX7_begin_5 rfl ?_
  refine v_iconst G (0 : Int32) dX7_begin_6 (by decide) ?_
  obtain ⟨M3, q4, h⟩ := bi_ h
  refine v_putI (f := 16) G cl7 dX7_begin_7 w855 (by decide) (by decide) (by decide) rfl rfl q4 ?_
  refine v_aload_n G dX7_begin_10 rfl ?_
  obtain ⟨q7, h⟩ := if_s h
  obtain ⟨M6, q5, h⟩ := bi_ h
  refine v_callV0 (e_X7_nextToken q5) G cl7 my_X7_nextToken rfl w969 w27 w967 dX7_begin_11 q7 rfl (Nat.le_of_ble_eq_true rfl) rfl (Nat.le_of_ble_eq_true rfl) (Nat.zero_le _) (Nat.zero_le _) ?_
  cases h
  exact v_vret G F dX7_begin_14 rfl (Nat.le_refl _)
/-! X7_failed -/
def m_X7_failed (M : mM) (x0 : Nat) : Option (mM × Int32) :=
  (gI M x0 7 16).bind fun v1 =>
  if v1 = (0 : Int32) then (
    (gI M x0 7 14).bind fun v23 =>
    if v23 = (1 : Int32) then (
      (pI M x0 7 11 (0 : Int32)).bind fun M26 =>
      (gI M26 x0 7 16).bind fun v28 =>
      if v28 ≤ (0 : Int32) then (
        (gI M26 x0 7 18).bind fun v31 =>
        (pI M26 x0 7 18 v31).bind fun M33 =>
        (gI M33 x0 7 16).bind fun v35 =>
        if v35 ≤ (0 : Int32) then (
          some (M33, (0 : Int32))
        ) else (
          some (M33, (1 : Int32))
        )
      ) else (
        (gI M26 x0 7 16).bind fun v38 =>
        (pI M26 x0 7 18 v38).bind fun M40 =>
        (gI M40 x0 7 16).bind fun v42 =>
        if v42 ≤ (0 : Int32) then (
          some (M40, (0 : Int32))
        ) else (
          some (M40, (1 : Int32))
        )
      )
    ) else (
      if isO M x0 7 = true then
      (m_X7_bad M x0 (1 : Int32)).bind fun M46 =>
      (pI M46 x0 7 11 (0 : Int32)).bind fun M47 =>
      (gI M47 x0 7 16).bind fun v49 =>
      if v49 ≤ (0 : Int32) then (
        (gI M47 x0 7 18).bind fun v52 =>
        (pI M47 x0 7 18 v52).bind fun M54 =>
        (gI M54 x0 7 16).bind fun v56 =>
        if v56 ≤ (0 : Int32) then (
          some (M54, (0 : Int32))
        ) else (
          some (M54, (1 : Int32))
        )
      ) else (
        (gI M47 x0 7 16).bind fun v59 =>
        (pI M47 x0 7 18 v59).bind fun M61 =>
        (gI M61 x0 7 16).bind fun v63 =>
        if v63 ≤ (0 : Int32) then (
          some (M61, (0 : Int32))
        ) else (
          some (M61, (1 : Int32))
        )
      )
      else none
    )
  ) else (
    (pI M x0 7 11 (0 : Int32)).bind fun M4 =>
    (gI M4 x0 7 16).bind fun v6 =>
    if v6 ≤ (0 : Int32) then (
      (gI M4 x0 7 18).bind fun v9 =>
      (pI M4 x0 7 18 v9).bind fun M11 =>
      (gI M11 x0 7 16).bind fun v13 =>
      if v13 ≤ (0 : Int32) then (
        some (M11, (0 : Int32))
      ) else (
        some (M11, (1 : Int32))
      )
    ) else (
      (gI M4 x0 7 16).bind fun v16 =>
      (pI M4 x0 7 18 v16).bind fun M18 =>
      (gI M18 x0 7 16).bind fun v20 =>
      if v20 ≤ (0 : Int32) then (
        some (M18, (0 : Int32))
      ) else (
        some (M18, (1 : Int32))
      )
    )
  )
theorem e_X7_failed {Z : zZ} {M : mM} {N : mM} {x0 : Nat} {r : Int32} (h : m_X7_failed M x0 = some (N, r)) : EM Z yX7_failed cX7_failed 1 (some .boolean) 1 0 0 [.ref x0] M N (some (.int r)) := by
  refine EM_of my_X7_failed (Nat.le_of_ble_eq_true rfl) (fun X G F => ?_)
  show V X Z M 0 0 0 [some (.ref x0)] []
  unfold m_X7_failed at h
  refine v_aload_n G dX7_failed_0 rfl ?_
  obtain ⟨v1, q2, h⟩ := bi_ h
  refine v_getI (f := 16) G cl7 dX7_failed_1 w855 (by decide) (by decide) q2 ?_
  refine v_if_ne 20 G dX7_failed_4 (by decide) (fun q3 => ?_) (fun q3 => ?_)
  · rw [if_neg q3] at h
    refine v_aload_n G dX7_failed_20 rfl ?_
    refine v_iconst G (0 : Int32) dX7_failed_21 (by decide) ?_
    obtain ⟨M4, q5, h⟩ := bi_ h
    refine v_putI (f := 11) G cl7 dX7_failed_22 w850 (by decide) (by decide) (by decide) rfl rfl q5 ?_
    refine v_aload_n G dX7_failed_25 rfl ?_
    refine v_aload_n G dX7_failed_26 rfl ?_
    obtain ⟨v6, q7, h⟩ := bi_ h
    refine v_getI (f := 16) G cl7 dX7_failed_27 w855 (by decide) (by decide) q7 ?_
    refine v_if_le 40 G dX7_failed_30 (by decide) (fun q8 => ?_) (fun q8 => ?_)
    · rw [if_pos q8] at h
      refine v_aload_n G dX7_failed_40 rfl ?_
      obtain ⟨v9, q10, h⟩ := bi_ h
      refine v_getI (f := 18) G cl7 dX7_failed_41 w857 (by decide) (by decide) q10 ?_
      obtain ⟨M11, q12, h⟩ := bi_ h
      refine v_putI (f := 18) G cl7 dX7_failed_44 w857 (by decide) (by decide) (by decide) rfl rfl q12 ?_
      refine v_aload_n G dX7_failed_47 rfl ?_
      obtain ⟨v13, q14, h⟩ := bi_ h
      refine v_getI (f := 16) G cl7 dX7_failed_48 w855 (by decide) (by decide) q14 ?_
      refine v_if_le 58 G dX7_failed_51 (by decide) (fun q15 => ?_) (fun q15 => ?_)
      · rw [if_pos q15] at h
        refine v_iconst G (0 : Int32) dX7_failed_58 (by decide) ?_
        cases h
        exact v_zret G F rfl dX7_failed_59 rfl (Nat.le_refl _)
      · rw [if_neg q15] at h
        refine v_iconst G (1 : Int32) dX7_failed_54 (by decide) ?_
        refine v_goto 59 G dX7_failed_55 (by decide) ?_
        cases h
        exact v_zret G F rfl dX7_failed_59 rfl (Nat.le_refl _)
    · rw [if_neg q8] at h
      refine v_aload_n G dX7_failed_33 rfl ?_
      obtain ⟨v16, q17, h⟩ := bi_ h
      refine v_getI (f := 16) G cl7 dX7_failed_34 w855 (by decide) (by decide) q17 ?_
      refine v_goto 44 G dX7_failed_37 (by decide) ?_
      obtain ⟨M18, q19, h⟩ := bi_ h
      refine v_putI (f := 18) G cl7 dX7_failed_44 w857 (by decide) (by decide) (by decide) rfl rfl q19 ?_
      refine v_aload_n G dX7_failed_47 rfl ?_
      obtain ⟨v20, q21, h⟩ := bi_ h
      refine v_getI (f := 16) G cl7 dX7_failed_48 w855 (by decide) (by decide) q21 ?_
      refine v_if_le 58 G dX7_failed_51 (by decide) (fun q22 => ?_) (fun q22 => ?_)
      · rw [if_pos q22] at h
        refine v_iconst G (0 : Int32) dX7_failed_58 (by decide) ?_
        cases h
        exact v_zret G F rfl dX7_failed_59 rfl (Nat.le_refl _)
      · rw [if_neg q22] at h
        refine v_iconst G (1 : Int32) dX7_failed_54 (by decide) ?_
        refine v_goto 59 G dX7_failed_55 (by decide) ?_
        cases h
        exact v_zret G F rfl dX7_failed_59 rfl (Nat.le_refl _)
  · rw [if_pos q3] at h
    refine v_aload_n G dX7_failed_7 rfl ?_
    obtain ⟨v23, q24, h⟩ := bi_ h
    refine v_getI (f := 14) G cl7 dX7_failed_8 w853 (by decide) (by decide) q24 ?_
    refine v_iconst G (1 : Int32) dX7_failed_11 (by decide) ?_
    refine v_ic_eq 20 G dX7_failed_12 (by decide) (fun q25 => ?_) (fun q25 => ?_)
    · rw [if_pos q25] at h
      refine v_aload_n G dX7_failed_20 rfl ?_
      refine v_iconst G (0 : Int32) dX7_failed_21 (by decide) ?_
      obtain ⟨M26, q27, h⟩ := bi_ h
      refine v_putI (f := 11) G cl7 dX7_failed_22 w850 (by decide) (by decide) (by decide) rfl rfl q27 ?_
      refine v_aload_n G dX7_failed_25 rfl ?_
      refine v_aload_n G dX7_failed_26 rfl ?_
      obtain ⟨v28, q29, h⟩ := bi_ h
      refine v_getI (f := 16) G cl7 dX7_failed_27 w855 (by decide) (by decide) q29 ?_
      refine v_if_le 40 G dX7_failed_30 (by decide) (fun q30 => ?_) (fun q30 => ?_)
      · rw [if_pos q30] at h
        refine v_aload_n G dX7_failed_40 rfl ?_
        obtain ⟨v31, q32, h⟩ := bi_ h
        refine v_getI (f := 18) G cl7 dX7_failed_41 w857 (by decide) (by decide) q32 ?_
        obtain ⟨M33, q34, h⟩ := bi_ h
        refine v_putI (f := 18) G cl7 dX7_failed_44 w857 (by decide) (by decide) (by decide) rfl rfl q34 ?_
        refine v_aload_n G dX7_failed_47 rfl ?_
        obtain ⟨v35, q36, h⟩ := bi_ h
        refine v_getI (f := 16) G cl7 dX7_failed_48 w855 (by decide) (by decide) q36 ?_
        refine v_if_le 58 G dX7_failed_51 (by decide) (fun q37 => ?_) (fun q37 => ?_)
        · rw [if_pos q37] at h
          refine v_iconst G (0 : Int32) dX7_failed_58 (by decide) ?_
          cases h
          exact v_zret G F rfl dX7_failed_59 rfl (Nat.le_refl _)
        · rw [if_neg q37] at h
          refine v_iconst G (1 : Int32) dX7_failed_54 (by decide) ?_
          refine v_goto 59 G dX7_failed_55 (by decide) ?_
          cases h
          exact v_zret G F rfl dX7_failed_59 rfl (Nat.le_refl _)
      · rw [if_neg q30] at h
        refine v_aload_n G dX7_failed_33 rfl ?_
        obtain ⟨v38, q39, h⟩ := bi_ h
        refine v_getI (f := 16) G cl7 dX7_failed_34 w855 (by decide) (by decide) q39 ?_
        refine v_goto 44 G dX7_failed_37 (by decide) ?_
        obtain ⟨M40, q41, h⟩ := bi_ h
        refine v_putI (f := 18) G cl7 dX7_failed_44 w857 (by decide) (by decide) (by decide) rfl rfl q41 ?_
        refine v_aload_n G dX7_failed_47 rfl ?_
        obtain ⟨v42, q43, h⟩ := bi_ h
        refine v_getI (f := 16) G cl7 dX7_failed_48 w855 (by decide) (by decide) q43 ?_
        refine v_if_le 58 G dX7_failed_51 (by decide) (fun q44 => ?_) (fun q44 => ?_)
        · rw [if_pos q44] at h
          refine v_iconst G (0 : Int32) dX7_failed_58 (by decide) ?_
          cases h
          exact v_zret G F rfl dX7_failed_59 rfl (Nat.le_refl _)
        · rw [if_neg q44] at h
          refine v_iconst G (1 : Int32) dX7_failed_54 (by decide) ?_
          refine v_goto 59 G dX7_failed_55 (by decide) ?_
          cases h
          exact v_zret G F rfl dX7_failed_59 rfl (Nat.le_refl _)
    · rw [if_neg q25] at h
      refine v_aload_n G dX7_failed_15 rfl ?_
      refine v_iconst G (1 : Int32) dX7_failed_16 (by decide) ?_
      obtain ⟨q66, h⟩ := if_s h
      obtain ⟨M46, q45, h⟩ := bi_ h
      refine v_callV0 (e_X7_bad q45) G cl7 my_X7_bad rfl w986 w30 w984 dX7_failed_17 q66 rfl (Nat.le_of_ble_eq_true rfl) rfl (Nat.le_of_ble_eq_true rfl) (Nat.zero_le _) (Nat.zero_le _) ?_
      refine v_aload_n G dX7_failed_20 rfl ?_
      refine v_iconst G (0 : Int32) dX7_failed_21 (by decide) ?_
      obtain ⟨M47, q48, h⟩ := bi_ h
      refine v_putI (f := 11) G cl7 dX7_failed_22 w850 (by decide) (by decide) (by decide) rfl rfl q48 ?_
      refine v_aload_n G dX7_failed_25 rfl ?_
      refine v_aload_n G dX7_failed_26 rfl ?_
      obtain ⟨v49, q50, h⟩ := bi_ h
      refine v_getI (f := 16) G cl7 dX7_failed_27 w855 (by decide) (by decide) q50 ?_
      refine v_if_le 40 G dX7_failed_30 (by decide) (fun q51 => ?_) (fun q51 => ?_)
      · rw [if_pos q51] at h
        refine v_aload_n G dX7_failed_40 rfl ?_
        obtain ⟨v52, q53, h⟩ := bi_ h
        refine v_getI (f := 18) G cl7 dX7_failed_41 w857 (by decide) (by decide) q53 ?_
        obtain ⟨M54, q55, h⟩ := bi_ h
        refine v_putI (f := 18) G cl7 dX7_failed_44 w857 (by decide) (by decide) (by decide) rfl rfl q55 ?_
        refine v_aload_n G dX7_failed_47 rfl ?_
        obtain ⟨v56, q57, h⟩ := bi_ h
        refine v_getI (f := 16) G cl7 dX7_failed_48 w855 (by decide) (by decide) q57 ?_
        refine v_if_le 58 G dX7_failed_51 (by decide) (fun q58 => ?_) (fun q58 => ?_)
        · rw [if_pos q58] at h
          refine v_iconst G (0 : Int32) dX7_failed_58 (by decide) ?_
          cases h
          exact v_zret G F rfl dX7_failed_59 rfl (Nat.le_refl _)
        · rw [if_neg q58] at h
          refine v_iconst G (1 : Int32) dX7_failed_54 (by decide) ?_
          refine v_goto 59 G dX7_failed_55 (by decide) ?_
          cases h
          exact v_zret G F rfl dX7_failed_59 rfl (Nat.le_refl _)
      · rw [if_neg q51] at h
        refine v_aload_n G dX7_failed_33 rfl ?_
        obtain ⟨v59, q60, h⟩ := bi_ h
        refine v_getI (f := 16) G cl7 dX7_failed_34 w855 (by decide) (by decide) q60 ?_
        refine v_goto 44 G dX7_failed_37 (by decide) ?_
        obtain ⟨M61, q62, h⟩ := bi_ h
        refine v_putI (f := 18) G cl7 dX7_failed_44 w857 (by decide) (by decide) (by decide) rfl rfl q62 ?_
        refine v_aload_n G dX7_failed_47 rfl ?_
        obtain ⟨v63, q64, h⟩ := bi_ h
        refine v_getI (f := 16) G cl7 dX7_failed_48 w855 (by decide) (by decide) q64 ?_
        refine v_if_le 58 G dX7_failed_51 (by decide) (fun q65 => ?_) (fun q65 => ?_)
        · rw [if_pos q65] at h
          refine v_iconst G (0 : Int32) dX7_failed_58 (by decide) ?_
          cases h
          exact v_zret G F rfl dX7_failed_59 rfl (Nat.le_refl _)
        · rw [if_neg q65] at h
          refine v_iconst G (1 : Int32) dX7_failed_54 (by decide) ?_
          refine v_goto 59 G dX7_failed_55 (by decide) ?_
          cases h
          exact v_zret G F rfl dX7_failed_59 rfl (Nat.le_refl _)
/-! X7_fault -/
def m_X7_fault (M : mM) (x0 : Nat) : Option (mM × Int32) :=
  (pI M x0 7 0 (0 : Int32)).bind fun M1 =>
  (gI M1 x0 7 18).bind fun v3 =>
  some (M1, v3)
theorem e_X7_fault {Z : zZ} {M : mM} {N : mM} {x0 : Nat} {r : Int32} (h : m_X7_fault M x0 = some (N, r)) : EM Z yX7_fault cX7_fault 1 (some .int) 0 0 0 [.ref x0] M N (some (.int r)) := by
  refine EM_of my_X7_fault (Nat.le_of_ble_eq_true rfl) (fun X G F => ?_)
  show V X Z M 0 0 0 [some (.ref x0)] []
  unfold m_X7_fault at h
  refine v_aload_n G dX7_fault_0 rfl ?_
  refine v_iconst G (0 : Int32) dX7_fault_1 (by decide) ?_
  obtain ⟨M1, q2, h⟩ := bi_ h
  refine v_putI (f := 0) G cl7 dX7_fault_2 w839 (by decide) (by decide) (by decide) rfl rfl q2 ?_
  refine v_aload_n G dX7_fault_5 rfl ?_
  obtain ⟨v3, q4, h⟩ := bi_ h
  refine v_getI (f := 18) G cl7 dX7_fault_6 w857 (by decide) (by decide) q4 ?_
  cases h
  exact v_iret G F dX7_fault_9 rfl (Nat.le_refl _)
/-! X7_kindBy -/
def m_X7_kindBy (M : mM) (x0 : Int32) : Option Int32 :=
  if x0 = (99 : Int32) then (
    some (1 : Int32)
  ) else (
    if x0 = (113 : Int32) then (
      some (2 : Int32)
    ) else (
      if x0 = (119 : Int32) then (
        some (3 : Int32)
      ) else (
        if x0 = (115 : Int32) then (
          some (4 : Int32)
        ) else (
          if x0 = (111 : Int32) then (
            some (5 : Int32)
          ) else (
            some (-1000000 : Int32)
          )
        )
      )
    )
  )
theorem e_X7_kindBy {Z : zZ} {M : mM} {x0 : Int32} {r : Int32} (h : m_X7_kindBy M x0 = some r) : EM Z yX7_kindBy cX7_kindBy 1 (some .int) 0 0 0 [.int x0] M M (some (.int r)) := by
  refine EM_of my_X7_kindBy (Nat.le_of_ble_eq_true rfl) (fun X G F => ?_)
  show V X Z M 0 0 0 [some (.int x0)] []
  unfold m_X7_kindBy at h
  refine v_iload_n G dX7_kindBy_0 rfl ?_
  refine v_bipush G (99 : Int32) dX7_kindBy_1 (by decide) ?_
  refine v_ic_ne 10 G dX7_kindBy_3 (by decide) (fun q1 => ?_) (fun q1 => ?_)
  · rw [if_neg q1] at h
    refine v_iload_n G dX7_kindBy_10 rfl ?_
    refine v_bipush G (113 : Int32) dX7_kindBy_11 (by decide) ?_
    refine v_ic_ne 20 G dX7_kindBy_13 (by decide) (fun q2 => ?_) (fun q2 => ?_)
    · rw [if_neg q2] at h
      refine v_iload_n G dX7_kindBy_20 rfl ?_
      refine v_bipush G (119 : Int32) dX7_kindBy_21 (by decide) ?_
      refine v_ic_ne 30 G dX7_kindBy_23 (by decide) (fun q3 => ?_) (fun q3 => ?_)
      · rw [if_neg q3] at h
        refine v_iload_n G dX7_kindBy_30 rfl ?_
        refine v_bipush G (115 : Int32) dX7_kindBy_31 (by decide) ?_
        refine v_ic_ne 40 G dX7_kindBy_33 (by decide) (fun q4 => ?_) (fun q4 => ?_)
        · rw [if_neg q4] at h
          refine v_iload_n G dX7_kindBy_40 rfl ?_
          refine v_bipush G (111 : Int32) dX7_kindBy_41 (by decide) ?_
          refine v_ic_ne 50 G dX7_kindBy_43 (by decide) (fun q5 => ?_) (fun q5 => ?_)
          · rw [if_neg q5] at h
            refine v_ldc G (-1000000 : Int32) dX7_kindBy_50 w971 ?_
            cases h
            exact v_iret G F dX7_kindBy_52 rfl (Nat.le_refl _)
          · rw [if_pos q5] at h
            refine v_iconst G (5 : Int32) dX7_kindBy_46 (by decide) ?_
            refine v_goto 52 G dX7_kindBy_47 (by decide) ?_
            cases h
            exact v_iret G F dX7_kindBy_52 rfl (Nat.le_refl _)
        · rw [if_pos q4] at h
          refine v_iconst G (4 : Int32) dX7_kindBy_36 (by decide) ?_
          refine v_goto 52 G dX7_kindBy_37 (by decide) ?_
          cases h
          exact v_iret G F dX7_kindBy_52 rfl (Nat.le_refl _)
      · rw [if_pos q3] at h
        refine v_iconst G (3 : Int32) dX7_kindBy_26 (by decide) ?_
        refine v_goto 52 G dX7_kindBy_27 (by decide) ?_
        cases h
        exact v_iret G F dX7_kindBy_52 rfl (Nat.le_refl _)
    · rw [if_pos q2] at h
      refine v_iconst G (2 : Int32) dX7_kindBy_16 (by decide) ?_
      refine v_goto 52 G dX7_kindBy_17 (by decide) ?_
      cases h
      exact v_iret G F dX7_kindBy_52 rfl (Nat.le_refl _)
  · rw [if_pos q1] at h
    refine v_iconst G (1 : Int32) dX7_kindBy_6 (by decide) ?_
    refine v_goto 52 G dX7_kindBy_7 (by decide) ?_
    cases h
    exact v_iret G F dX7_kindBy_52 rfl (Nat.le_refl _)
/-! X7_isSort -/
def m_X7_isSort (M : mM) (x0 : Nat) : Option Int32 :=
  (gI M x0 7 16).bind fun v1 =>
  if v1 = (0 : Int32) then (
    (gI M x0 7 14).bind fun v4 =>
    if v4 = (2 : Int32) then (
      (gI M x0 7 15).bind fun v7 =>
      (m_X7_kindBy M v7).bind fun v10 =>
      if v10 = (-1000000 : Int32) then (
        some (0 : Int32)
      ) else (
        some (1 : Int32)
      )
    ) else (
      some (0 : Int32)
    )
  ) else (
    some (0 : Int32)
  )
theorem e_X7_isSort {Z : zZ} {M : mM} {x0 : Nat} {r : Int32} (h : m_X7_isSort M x0 = some r) : EM Z yX7_isSort cX7_isSort 1 (some .boolean) 1 0 0 [.ref x0] M M (some (.int r)) := by
  refine EM_of my_X7_isSort (Nat.le_of_ble_eq_true rfl) (fun X G F => ?_)
  show V X Z M 0 0 0 [some (.ref x0)] []
  unfold m_X7_isSort at h
  refine v_aload_n G dX7_isSort_0 rfl ?_
  obtain ⟨v1, q2, h⟩ := bi_ h
  refine v_getI (f := 16) G cl7 dX7_isSort_1 w855 (by decide) (by decide) q2 ?_
  refine v_if_ne 31 G dX7_isSort_4 (by decide) (fun q3 => ?_) (fun q3 => ?_)
  · rw [if_neg q3] at h
    refine v_iconst G (0 : Int32) dX7_isSort_31 (by decide) ?_
    cases h
    exact v_zret G F rfl dX7_isSort_32 rfl (Nat.le_refl _)
  · rw [if_pos q3] at h
    refine v_aload_n G dX7_isSort_7 rfl ?_
    obtain ⟨v4, q5, h⟩ := bi_ h
    refine v_getI (f := 14) G cl7 dX7_isSort_8 w853 (by decide) (by decide) q5 ?_
    refine v_iconst G (2 : Int32) dX7_isSort_11 (by decide) ?_
    refine v_ic_ne 31 G dX7_isSort_12 (by decide) (fun q6 => ?_) (fun q6 => ?_)
    · rw [if_neg q6] at h
      refine v_iconst G (0 : Int32) dX7_isSort_31 (by decide) ?_
      cases h
      exact v_zret G F rfl dX7_isSort_32 rfl (Nat.le_refl _)
    · rw [if_pos q6] at h
      refine v_aload_n G dX7_isSort_15 rfl ?_
      obtain ⟨v7, q8, h⟩ := bi_ h
      refine v_getI (f := 15) G cl7 dX7_isSort_16 w854 (by decide) (by decide) q8 ?_
      obtain ⟨v10, q9, h⟩ := bi_ h
      refine v_callS0 (e_X7_kindBy q9) G my_X7_kindBy w1009 w1008 dX7_isSort_19 rfl (Nat.le_of_ble_eq_true rfl) rfl (Nat.le_of_ble_eq_true rfl) (Nat.zero_le _) (Nat.zero_le _) ?_
      refine v_ldc G (-1000000 : Int32) dX7_isSort_22 w971 ?_
      refine v_ic_eq 31 G dX7_isSort_24 (by decide) (fun q11 => ?_) (fun q11 => ?_)
      · rw [if_pos q11] at h
        refine v_iconst G (0 : Int32) dX7_isSort_31 (by decide) ?_
        cases h
        exact v_zret G F rfl dX7_isSort_32 rfl (Nat.le_refl _)
      · rw [if_neg q11] at h
        refine v_iconst G (1 : Int32) dX7_isSort_27 (by decide) ?_
        refine v_goto 32 G dX7_isSort_28 (by decide) ?_
        cases h
        exact v_zret G F rfl dX7_isSort_32 rfl (Nat.le_refl _)
/-! X7_readSubject -/
def m_X7_readSubject (M : mM) (x0 : Nat) : Option mM :=
  if isO M x0 7 = true then
  (m_X7_isLetter M x0 (106 : Int32)).bind fun v2 =>
  if v2 = (0 : Int32) then (
    if isO M x0 7 = true then
    (m_X7_isLetter M x0 (106 : Int32)).bind fun v5 =>
    if isO M x0 7 = true then
    (m_X7_must M x0 v5).bind fun M7 =>
    (gR M7 x0 7 6).bind fun b8 =>
    (ldI M7 b8 (1 : Int32)).bind fun v11 =>
    if isO M7 x0 7 = true then
    bd2 (m_X7_number M7 x0 (0 : Int32) (((1 : Int32) <<< (v11 &&& 31)) - (1 : Int32))) fun M13 v14 =>
    if isO M13 x0 7 = true then
    (m_X7_mustSign M13 x0 (59 : Int32)).bind fun M16 =>
    (gI M16 x0 7 16).bind fun v17 =>
    if v17 = (0 : Int32) then (
      (gR M16 x0 7 6).bind fun b20 =>
      (gR M16 x0 7 6).bind fun b22 =>
      (ldI M16 b22 (1 : Int32)).bind fun v25 =>
      (stI M16 b20 ((5 : Int32) + v25) v14).bind fun M26 =>
      (gR M26 x0 7 6).bind fun b28 =>
      (ldI M26 b28 (1 : Int32)).bind fun v31 =>
      (stI M26 b28 (1 : Int32) (v31 + (1 : Int32))).bind fun M32 =>
      some M32
    ) else (
      some M16
    )
    else none
    else none
    else none
    else none
  ) else (
    (gR M x0 7 6).bind fun b38 =>
    (ldI M b38 (1 : Int32)).bind fun v41 =>
    if v41 = (6 : Int32) then (
      if isO M x0 7 = true then
      (m_X7_bad M x0 (3 : Int32)).bind fun M78 =>
      if isO M78 x0 7 = true then
      (m_X7_isLetter M78 x0 (106 : Int32)).bind fun v80 =>
      if isO M78 x0 7 = true then
      (m_X7_must M78 x0 v80).bind fun M82 =>
      (gR M82 x0 7 6).bind fun b83 =>
      (ldI M82 b83 (1 : Int32)).bind fun v86 =>
      if isO M82 x0 7 = true then
      bd2 (m_X7_number M82 x0 (0 : Int32) (((1 : Int32) <<< (v86 &&& 31)) - (1 : Int32))) fun M88 v89 =>
      if isO M88 x0 7 = true then
      (m_X7_mustSign M88 x0 (59 : Int32)).bind fun M91 =>
      (gI M91 x0 7 16).bind fun v92 =>
      if v92 = (0 : Int32) then (
        (gR M91 x0 7 6).bind fun b95 =>
        (gR M91 x0 7 6).bind fun b97 =>
        (ldI M91 b97 (1 : Int32)).bind fun v100 =>
        (stI M91 b95 ((5 : Int32) + v100) v89).bind fun M101 =>
        (gR M101 x0 7 6).bind fun b103 =>
        (ldI M101 b103 (1 : Int32)).bind fun v106 =>
        (stI M101 b103 (1 : Int32) (v106 + (1 : Int32))).bind fun M107 =>
        some M107
      ) else (
        some M91
      )
      else none
      else none
      else none
      else none
      else none
    ) else (
      if isO M x0 7 = true then
      (m_X7_isLetter M x0 (106 : Int32)).bind fun v44 =>
      if isO M x0 7 = true then
      (m_X7_must M x0 v44).bind fun M46 =>
      (gR M46 x0 7 6).bind fun b47 =>
      (ldI M46 b47 (1 : Int32)).bind fun v50 =>
      if isO M46 x0 7 = true then
      bd2 (m_X7_number M46 x0 (0 : Int32) (((1 : Int32) <<< (v50 &&& 31)) - (1 : Int32))) fun M52 v53 =>
      if isO M52 x0 7 = true then
      (m_X7_mustSign M52 x0 (59 : Int32)).bind fun M55 =>
      (gI M55 x0 7 16).bind fun v56 =>
      if v56 = (0 : Int32) then (
        (gR M55 x0 7 6).bind fun b59 =>
        (gR M55 x0 7 6).bind fun b61 =>
        (ldI M55 b61 (1 : Int32)).bind fun v64 =>
        (stI M55 b59 ((5 : Int32) + v64) v53).bind fun M65 =>
        (gR M65 x0 7 6).bind fun b67 =>
        (ldI M65 b67 (1 : Int32)).bind fun v70 =>
        (stI M65 b67 (1 : Int32) (v70 + (1 : Int32))).bind fun M71 =>
        some M71
      ) else (
        some M55
      )
      else none
      else none
      else none
      else none
    )
  )
  else none
theorem e_X7_readSubject {Z : zZ} {M : mM} {N : mM} {x0 : Nat} (h : m_X7_readSubject M x0 = some N) : EM Z yX7_readSubject cX7_readSubject 2 none 4 0 0 [.ref x0] M N none := by
  refine EM_of my_X7_readSubject (Nat.le_of_ble_eq_true rfl) (fun X G F => ?_)
  show V X Z M 0 0 0 [some (.ref x0), none] []
  unfold m_X7_readSubject at h
  refine v_aload_n G dX7_readSubject_0 rfl ?_
  refine v_bipush G (106 : Int32) dX7_readSubject_1 (by decide) ?_
  obtain ⟨q114, h⟩ := if_s h
  obtain ⟨v2, q1, h⟩ := bi_ h
  refine v_callV0 (e_X7_isLetter q1) G cl7 my_X7_isLetter rfl w978 w28 w976 dX7_readSubject_3 q114 rfl (Nat.le_of_ble_eq_true rfl) rfl (Nat.le_of_ble_eq_true rfl) (Nat.zero_le _) (Nat.zero_le _) ?_
  refine v_if_eq 25 G dX7_readSubject_6 (by decide) (fun q3 => ?_) (fun q3 => ?_)
  · rw [if_pos q3] at h
    refine v_aload_n G dX7_readSubject_25 rfl ?_
    refine v_aload_n G dX7_readSubject_26 rfl ?_
    refine v_bipush G (106 : Int32) dX7_readSubject_27 (by decide) ?_
    obtain ⟨q37, h⟩ := if_s h
    obtain ⟨v5, q4, h⟩ := bi_ h
    refine v_callV0 (e_X7_isLetter q4) G cl7 my_X7_isLetter rfl w978 w28 w976 dX7_readSubject_29 q37 rfl (Nat.le_of_ble_eq_true rfl) rfl (Nat.le_of_ble_eq_true rfl) (Nat.zero_le _) (Nat.zero_le _) ?_
    obtain ⟨q36, h⟩ := if_s h
    obtain ⟨M7, q6, h⟩ := bi_ h
    refine v_callV0 (e_X7_must q6) G cl7 my_X7_must rfl w982 w29 w980 dX7_readSubject_32 q36 rfl (Nat.le_of_ble_eq_true rfl) rfl (Nat.le_of_ble_eq_true rfl) (Nat.zero_le _) (Nat.zero_le _) ?_
    refine v_aload_n G dX7_readSubject_35 rfl ?_
    refine v_iconst G (0 : Int32) dX7_readSubject_36 (by decide) ?_
    refine v_iconst G (1 : Int32) dX7_readSubject_37 (by decide) ?_
    refine v_aload_n G dX7_readSubject_38 rfl ?_
    obtain ⟨b8, q9, h⟩ := bi_ h
    refine v_getR (f := 6) G cl7 dX7_readSubject_39 w845 (by decide) (by decide) q9 ?_
    refine v_iconst G (1 : Int32) dX7_readSubject_42 (by decide) ?_
    obtain ⟨v11, q10, h⟩ := bi_ h
    refine v_iald G dX7_readSubject_43 q10 ?_
    refine v_ishl G dX7_readSubject_44 ?_
    refine v_iconst G (1 : Int32) dX7_readSubject_45 (by decide) ?_
    refine v_isub G dX7_readSubject_46 ?_
    obtain ⟨q35, h⟩ := if_s h
    obtain ⟨M13, v14, q12, h⟩ := bi2_ h
    refine v_callV0 (e_X7_number q12) G cl7 my_X7_number rfl w990 w31 w988 dX7_readSubject_47 q35 rfl (Nat.le_of_ble_eq_true rfl) rfl (Nat.le_of_ble_eq_true rfl) (Nat.zero_le _) (Nat.zero_le _) ?_
    refine v_istore_n [some (.ref x0), some (.int v14)] G dX7_readSubject_50 (Nat.le_of_ble_eq_true rfl) rfl rfl ?_
    refine v_aload_n G dX7_readSubject_51 rfl ?_
    refine v_bipush G (59 : Int32) dX7_readSubject_52 (by decide) ?_
    obtain ⟨q34, h⟩ := if_s h
    obtain ⟨M16, q15, h⟩ := bi_ h
    refine v_callV0 (e_X7_mustSign q15) G cl7 my_X7_mustSign rfl w994 w32 w992 dX7_readSubject_54 q34 rfl (Nat.le_of_ble_eq_true rfl) rfl (Nat.le_of_ble_eq_true rfl) (Nat.zero_le _) (Nat.zero_le _) ?_
    refine v_aload_n G dX7_readSubject_57 rfl ?_
    obtain ⟨v17, q18, h⟩ := bi_ h
    refine v_getI (f := 16) G cl7 dX7_readSubject_58 w855 (by decide) (by decide) q18 ?_
    refine v_if_ne 88 G dX7_readSubject_61 (by decide) (fun q19 => ?_) (fun q19 => ?_)
    · rw [if_neg q19] at h
      cases h
      exact v_vret G F dX7_readSubject_88 rfl (Nat.le_refl _)
    · rw [if_pos q19] at h
      refine v_aload_n G dX7_readSubject_64 rfl ?_
      obtain ⟨b20, q21, h⟩ := bi_ h
      refine v_getR (f := 6) G cl7 dX7_readSubject_65 w845 (by decide) (by decide) q21 ?_
      refine v_iconst G (5 : Int32) dX7_readSubject_68 (by decide) ?_
      refine v_aload_n G dX7_readSubject_69 rfl ?_
      obtain ⟨b22, q23, h⟩ := bi_ h
      refine v_getR (f := 6) G cl7 dX7_readSubject_70 w845 (by decide) (by decide) q23 ?_
      refine v_iconst G (1 : Int32) dX7_readSubject_73 (by decide) ?_
      obtain ⟨v25, q24, h⟩ := bi_ h
      refine v_iald G dX7_readSubject_74 q24 ?_
      refine v_iadd G dX7_readSubject_75 ?_
      refine v_iload_n G dX7_readSubject_76 rfl ?_
      obtain ⟨M26, q27, h⟩ := bi_ h
      refine v_iast G dX7_readSubject_77 q27 ?_
      refine v_aload_n G dX7_readSubject_78 rfl ?_
      obtain ⟨b28, q29, h⟩ := bi_ h
      refine v_getR (f := 6) G cl7 dX7_readSubject_79 w845 (by decide) (by decide) q29 ?_
      refine v_iconst G (1 : Int32) dX7_readSubject_82 (by decide) ?_
      refine v_dup2 G dX7_readSubject_83 rfl rfl ?_
      obtain ⟨v31, q30, h⟩ := bi_ h
      refine v_iald G dX7_readSubject_84 q30 ?_
      refine v_iconst G (1 : Int32) dX7_readSubject_85 (by decide) ?_
      refine v_iadd G dX7_readSubject_86 ?_
      obtain ⟨M32, q33, h⟩ := bi_ h
      refine v_iast G dX7_readSubject_87 q33 ?_
      cases h
      exact v_vret G F dX7_readSubject_88 rfl (Nat.le_refl _)
  · rw [if_neg q3] at h
    refine v_aload_n G dX7_readSubject_9 rfl ?_
    obtain ⟨b38, q39, h⟩ := bi_ h
    refine v_getR (f := 6) G cl7 dX7_readSubject_10 w845 (by decide) (by decide) q39 ?_
    refine v_iconst G (1 : Int32) dX7_readSubject_13 (by decide) ?_
    obtain ⟨v41, q40, h⟩ := bi_ h
    refine v_iald G dX7_readSubject_14 q40 ?_
    refine v_bipush G (6 : Int32) dX7_readSubject_15 (by decide) ?_
    refine v_ic_ne 25 G dX7_readSubject_17 (by decide) (fun q42 => ?_) (fun q42 => ?_)
    · rw [if_neg q42] at h
      refine v_aload_n G dX7_readSubject_25 rfl ?_
      refine v_aload_n G dX7_readSubject_26 rfl ?_
      refine v_bipush G (106 : Int32) dX7_readSubject_27 (by decide) ?_
      obtain ⟨q76, h⟩ := if_s h
      obtain ⟨v44, q43, h⟩ := bi_ h
      refine v_callV0 (e_X7_isLetter q43) G cl7 my_X7_isLetter rfl w978 w28 w976 dX7_readSubject_29 q76 rfl (Nat.le_of_ble_eq_true rfl) rfl (Nat.le_of_ble_eq_true rfl) (Nat.zero_le _) (Nat.zero_le _) ?_
      obtain ⟨q75, h⟩ := if_s h
      obtain ⟨M46, q45, h⟩ := bi_ h
      refine v_callV0 (e_X7_must q45) G cl7 my_X7_must rfl w982 w29 w980 dX7_readSubject_32 q75 rfl (Nat.le_of_ble_eq_true rfl) rfl (Nat.le_of_ble_eq_true rfl) (Nat.zero_le _) (Nat.zero_le _) ?_
      refine v_aload_n G dX7_readSubject_35 rfl ?_
      refine v_iconst G (0 : Int32) dX7_readSubject_36 (by decide) ?_
      refine v_iconst G (1 : Int32) dX7_readSubject_37 (by decide) ?_
      refine v_aload_n G dX7_readSubject_38 rfl ?_
      obtain ⟨b47, q48, h⟩ := bi_ h
      refine v_getR (f := 6) G cl7 dX7_readSubject_39 w845 (by decide) (by decide) q48 ?_
      refine v_iconst G (1 : Int32) dX7_readSubject_42 (by decide) ?_
      obtain ⟨v50, q49, h⟩ := bi_ h
      refine v_iald G dX7_readSubject_43 q49 ?_
      refine v_ishl G dX7_readSubject_44 ?_
      refine v_iconst G (1 : Int32) dX7_readSubject_45 (by decide) ?_
      refine v_isub G dX7_readSubject_46 ?_
      obtain ⟨q74, h⟩ := if_s h
      obtain ⟨M52, v53, q51, h⟩ := bi2_ h
      refine v_callV0 (e_X7_number q51) G cl7 my_X7_number rfl w990 w31 w988 dX7_readSubject_47 q74 rfl (Nat.le_of_ble_eq_true rfl) rfl (Nat.le_of_ble_eq_true rfl) (Nat.zero_le _) (Nat.zero_le _) ?_
      refine v_istore_n [some (.ref x0), some (.int v53)] G dX7_readSubject_50 (Nat.le_of_ble_eq_true rfl) rfl rfl ?_
      refine v_aload_n G dX7_readSubject_51 rfl ?_
      refine v_bipush G (59 : Int32) dX7_readSubject_52 (by decide) ?_
      obtain ⟨q73, h⟩ := if_s h
      obtain ⟨M55, q54, h⟩ := bi_ h
      refine v_callV0 (e_X7_mustSign q54) G cl7 my_X7_mustSign rfl w994 w32 w992 dX7_readSubject_54 q73 rfl (Nat.le_of_ble_eq_true rfl) rfl (Nat.le_of_ble_eq_true rfl) (Nat.zero_le _) (Nat.zero_le _) ?_
      refine v_aload_n G dX7_readSubject_57 rfl ?_
      obtain ⟨v56, q57, h⟩ := bi_ h
      refine v_getI (f := 16) G cl7 dX7_readSubject_58 w855 (by decide) (by decide) q57 ?_
      refine v_if_ne 88 G dX7_readSubject_61 (by decide) (fun q58 => ?_) (fun q58 => ?_)
      · rw [if_neg q58] at h
        cases h
        exact v_vret G F dX7_readSubject_88 rfl (Nat.le_refl _)
      · rw [if_pos q58] at h
        refine v_aload_n G dX7_readSubject_64 rfl ?_
        obtain ⟨b59, q60, h⟩ := bi_ h
        refine v_getR (f := 6) G cl7 dX7_readSubject_65 w845 (by decide) (by decide) q60 ?_
        refine v_iconst G (5 : Int32) dX7_readSubject_68 (by decide) ?_
        refine v_aload_n G dX7_readSubject_69 rfl ?_
        obtain ⟨b61, q62, h⟩ := bi_ h
        refine v_getR (f := 6) G cl7 dX7_readSubject_70 w845 (by decide) (by decide) q62 ?_
        refine v_iconst G (1 : Int32) dX7_readSubject_73 (by decide) ?_
        obtain ⟨v64, q63, h⟩ := bi_ h
        refine v_iald G dX7_readSubject_74 q63 ?_
        refine v_iadd G dX7_readSubject_75 ?_
        refine v_iload_n G dX7_readSubject_76 rfl ?_
        obtain ⟨M65, q66, h⟩ := bi_ h
        refine v_iast G dX7_readSubject_77 q66 ?_
        refine v_aload_n G dX7_readSubject_78 rfl ?_
        obtain ⟨b67, q68, h⟩ := bi_ h
        refine v_getR (f := 6) G cl7 dX7_readSubject_79 w845 (by decide) (by decide) q68 ?_
        refine v_iconst G (1 : Int32) dX7_readSubject_82 (by decide) ?_
        refine v_dup2 G dX7_readSubject_83 rfl rfl ?_
        obtain ⟨v70, q69, h⟩ := bi_ h
        refine v_iald G dX7_readSubject_84 q69 ?_
        refine v_iconst G (1 : Int32) dX7_readSubject_85 (by decide) ?_
        refine v_iadd G dX7_readSubject_86 ?_
        obtain ⟨M71, q72, h⟩ := bi_ h
        refine v_iast G dX7_readSubject_87 q72 ?_
        cases h
        exact v_vret G F dX7_readSubject_88 rfl (Nat.le_refl _)
    · rw [if_pos q42] at h
      refine v_aload_n G dX7_readSubject_20 rfl ?_
      refine v_iconst G (3 : Int32) dX7_readSubject_21 (by decide) ?_
      obtain ⟨q113, h⟩ := if_s h
      obtain ⟨M78, q77, h⟩ := bi_ h
      refine v_callV0 (e_X7_bad q77) G cl7 my_X7_bad rfl w986 w30 w984 dX7_readSubject_22 q113 rfl (Nat.le_of_ble_eq_true rfl) rfl (Nat.le_of_ble_eq_true rfl) (Nat.zero_le _) (Nat.zero_le _) ?_
      refine v_aload_n G dX7_readSubject_25 rfl ?_
      refine v_aload_n G dX7_readSubject_26 rfl ?_
      refine v_bipush G (106 : Int32) dX7_readSubject_27 (by decide) ?_
      obtain ⟨q112, h⟩ := if_s h
      obtain ⟨v80, q79, h⟩ := bi_ h
      refine v_callV0 (e_X7_isLetter q79) G cl7 my_X7_isLetter rfl w978 w28 w976 dX7_readSubject_29 q112 rfl (Nat.le_of_ble_eq_true rfl) rfl (Nat.le_of_ble_eq_true rfl) (Nat.zero_le _) (Nat.zero_le _) ?_
      obtain ⟨q111, h⟩ := if_s h
      obtain ⟨M82, q81, h⟩ := bi_ h
      refine v_callV0 (e_X7_must q81) G cl7 my_X7_must rfl w982 w29 w980 dX7_readSubject_32 q111 rfl (Nat.le_of_ble_eq_true rfl) rfl (Nat.le_of_ble_eq_true rfl) (Nat.zero_le _) (Nat.zero_le _) ?_
      refine v_aload_n G dX7_readSubject_35 rfl ?_
      refine v_iconst G (0 : Int32) dX7_readSubject_36 (by decide) ?_
      refine v_iconst G (1 : Int32) dX7_readSubject_37 (by decide) ?_
      refine v_aload_n G dX7_readSubject_38 rfl ?_
      obtain ⟨b83, q84, h⟩ := bi_ h
      refine v_getR (f := 6) G cl7 dX7_readSubject_39 w845 (by decide) (by decide) q84 ?_
      refine v_iconst G (1 : Int32) dX7_readSubject_42 (by decide) ?_
      obtain ⟨v86, q85, h⟩ := bi_ h
      refine v_iald G dX7_readSubject_43 q85 ?_
      refine v_ishl G dX7_readSubject_44 ?_
      refine v_iconst G (1 : Int32) dX7_readSubject_45 (by decide) ?_
      refine v_isub G dX7_readSubject_46 ?_
      obtain ⟨q110, h⟩ := if_s h
      obtain ⟨M88, v89, q87, h⟩ := bi2_ h
      refine v_callV0 (e_X7_number q87) G cl7 my_X7_number rfl w990 w31 w988 dX7_readSubject_47 q110 rfl (Nat.le_of_ble_eq_true rfl) rfl (Nat.le_of_ble_eq_true rfl) (Nat.zero_le _) (Nat.zero_le _) ?_
      refine v_istore_n [some (.ref x0), some (.int v89)] G dX7_readSubject_50 (Nat.le_of_ble_eq_true rfl) rfl rfl ?_
      refine v_aload_n G dX7_readSubject_51 rfl ?_
      refine v_bipush G (59 : Int32) dX7_readSubject_52 (by decide) ?_
      obtain ⟨q109, h⟩ := if_s h
      obtain ⟨M91, q90, h⟩ := bi_ h
      refine v_callV0 (e_X7_mustSign q90) G cl7 my_X7_mustSign rfl w994 w32 w992 dX7_readSubject_54 q109 rfl (Nat.le_of_ble_eq_true rfl) rfl (Nat.le_of_ble_eq_true rfl) (Nat.zero_le _) (Nat.zero_le _) ?_
      refine v_aload_n G dX7_readSubject_57 rfl ?_
      obtain ⟨v92, q93, h⟩ := bi_ h
      refine v_getI (f := 16) G cl7 dX7_readSubject_58 w855 (by decide) (by decide) q93 ?_
      refine v_if_ne 88 G dX7_readSubject_61 (by decide) (fun q94 => ?_) (fun q94 => ?_)
      · rw [if_neg q94] at h
        cases h
        exact v_vret G F dX7_readSubject_88 rfl (Nat.le_refl _)
      · rw [if_pos q94] at h
        refine v_aload_n G dX7_readSubject_64 rfl ?_
        obtain ⟨b95, q96, h⟩ := bi_ h
        refine v_getR (f := 6) G cl7 dX7_readSubject_65 w845 (by decide) (by decide) q96 ?_
        refine v_iconst G (5 : Int32) dX7_readSubject_68 (by decide) ?_
        refine v_aload_n G dX7_readSubject_69 rfl ?_
        obtain ⟨b97, q98, h⟩ := bi_ h
        refine v_getR (f := 6) G cl7 dX7_readSubject_70 w845 (by decide) (by decide) q98 ?_
        refine v_iconst G (1 : Int32) dX7_readSubject_73 (by decide) ?_
        obtain ⟨v100, q99, h⟩ := bi_ h
        refine v_iald G dX7_readSubject_74 q99 ?_
        refine v_iadd G dX7_readSubject_75 ?_
        refine v_iload_n G dX7_readSubject_76 rfl ?_
        obtain ⟨M101, q102, h⟩ := bi_ h
        refine v_iast G dX7_readSubject_77 q102 ?_
        refine v_aload_n G dX7_readSubject_78 rfl ?_
        obtain ⟨b103, q104, h⟩ := bi_ h
        refine v_getR (f := 6) G cl7 dX7_readSubject_79 w845 (by decide) (by decide) q104 ?_
        refine v_iconst G (1 : Int32) dX7_readSubject_82 (by decide) ?_
        refine v_dup2 G dX7_readSubject_83 rfl rfl ?_
        obtain ⟨v106, q105, h⟩ := bi_ h
        refine v_iald G dX7_readSubject_84 q105 ?_
        refine v_iconst G (1 : Int32) dX7_readSubject_85 (by decide) ?_
        refine v_iadd G dX7_readSubject_86 ?_
        obtain ⟨M107, q108, h⟩ := bi_ h
        refine v_iast G dX7_readSubject_87 q108 ?_
        cases h
        exact v_vret G F dX7_readSubject_88 rfl (Nat.le_refl _)
/-! X7_readLesson -/
def m_X7_readLesson (M : mM) (x0 : Nat) : Option mM :=
  if isO M x0 7 = true then
  (m_X7_isLetter M x0 (100 : Int32)).bind fun v2 =>
  if v2 = (0 : Int32) then (
    if isO M x0 7 = true then
    (m_X7_isLetter M x0 (100 : Int32)).bind fun v5 =>
    if isO M x0 7 = true then
    (m_X7_must M x0 v5).bind fun M7 =>
    (gR M7 x0 7 6).bind fun b8 =>
    (ldI M7 b8 (1 : Int32)).bind fun v11 =>
    if isO M7 x0 7 = true then
    bd2 (m_X7_number M7 x0 (0 : Int32) (v11 - (1 : Int32))) fun M13 v14 =>
    if isO M13 x0 7 = true then
    (m_X7_mustSign M13 x0 (59 : Int32)).bind fun M16 =>
    (gI M16 x0 7 16).bind fun v17 =>
    if v17 = (0 : Int32) then (
      (gR M16 x0 7 6).bind fun b20 =>
      (gR M16 x0 7 6).bind fun b22 =>
      (ldI M16 b22 (2 : Int32)).bind fun v25 =>
      (stI M16 b20 ((11 : Int32) + v25) v14).bind fun M26 =>
      (gR M26 x0 7 6).bind fun b28 =>
      (ldI M26 b28 (2 : Int32)).bind fun v31 =>
      (stI M26 b28 (2 : Int32) (v31 + (1 : Int32))).bind fun M32 =>
      some M32
    ) else (
      some M16
    )
    else none
    else none
    else none
    else none
  ) else (
    (gR M x0 7 6).bind fun b38 =>
    (ldI M b38 (2 : Int32)).bind fun v41 =>
    if v41 = (8 : Int32) then (
      if isO M x0 7 = true then
      (m_X7_bad M x0 (3 : Int32)).bind fun M78 =>
      if isO M78 x0 7 = true then
      (m_X7_isLetter M78 x0 (100 : Int32)).bind fun v80 =>
      if isO M78 x0 7 = true then
      (m_X7_must M78 x0 v80).bind fun M82 =>
      (gR M82 x0 7 6).bind fun b83 =>
      (ldI M82 b83 (1 : Int32)).bind fun v86 =>
      if isO M82 x0 7 = true then
      bd2 (m_X7_number M82 x0 (0 : Int32) (v86 - (1 : Int32))) fun M88 v89 =>
      if isO M88 x0 7 = true then
      (m_X7_mustSign M88 x0 (59 : Int32)).bind fun M91 =>
      (gI M91 x0 7 16).bind fun v92 =>
      if v92 = (0 : Int32) then (
        (gR M91 x0 7 6).bind fun b95 =>
        (gR M91 x0 7 6).bind fun b97 =>
        (ldI M91 b97 (2 : Int32)).bind fun v100 =>
        (stI M91 b95 ((11 : Int32) + v100) v89).bind fun M101 =>
        (gR M101 x0 7 6).bind fun b103 =>
        (ldI M101 b103 (2 : Int32)).bind fun v106 =>
        (stI M101 b103 (2 : Int32) (v106 + (1 : Int32))).bind fun M107 =>
        some M107
      ) else (
        some M91
      )
      else none
      else none
      else none
      else none
      else none
    ) else (
      if isO M x0 7 = true then
      (m_X7_isLetter M x0 (100 : Int32)).bind fun v44 =>
      if isO M x0 7 = true then
      (m_X7_must M x0 v44).bind fun M46 =>
      (gR M46 x0 7 6).bind fun b47 =>
      (ldI M46 b47 (1 : Int32)).bind fun v50 =>
      if isO M46 x0 7 = true then
      bd2 (m_X7_number M46 x0 (0 : Int32) (v50 - (1 : Int32))) fun M52 v53 =>
      if isO M52 x0 7 = true then
      (m_X7_mustSign M52 x0 (59 : Int32)).bind fun M55 =>
      (gI M55 x0 7 16).bind fun v56 =>
      if v56 = (0 : Int32) then (
        (gR M55 x0 7 6).bind fun b59 =>
        (gR M55 x0 7 6).bind fun b61 =>
        (ldI M55 b61 (2 : Int32)).bind fun v64 =>
        (stI M55 b59 ((11 : Int32) + v64) v53).bind fun M65 =>
        (gR M65 x0 7 6).bind fun b67 =>
        (ldI M65 b67 (2 : Int32)).bind fun v70 =>
        (stI M65 b67 (2 : Int32) (v70 + (1 : Int32))).bind fun M71 =>
        some M71
      ) else (
        some M55
      )
      else none
      else none
      else none
      else none
    )
  )
  else none
theorem e_X7_readLesson {Z : zZ} {M : mM} {N : mM} {x0 : Nat} (h : m_X7_readLesson M x0 = some N) : EM Z yX7_readLesson cX7_readLesson 2 none 4 0 0 [.ref x0] M N none := by
  refine EM_of my_X7_readLesson (Nat.le_of_ble_eq_true rfl) (fun X G F => ?_)
  show V X Z M 0 0 0 [some (.ref x0), none] []
  unfold m_X7_readLesson at h
  refine v_aload_n G dX7_readLesson_0 rfl ?_
  refine v_bipush G (100 : Int32) dX7_readLesson_1 (by decide) ?_
  obtain ⟨q114, h⟩ := if_s h
  obtain ⟨v2, q1, h⟩ := bi_ h
  refine v_callV0 (e_X7_isLetter q1) G cl7 my_X7_isLetter rfl w978 w28 w976 dX7_readLesson_3 q114 rfl (Nat.le_of_ble_eq_true rfl) rfl (Nat.le_of_ble_eq_true rfl) (Nat.zero_le _) (Nat.zero_le _) ?_
  refine v_if_eq 25 G dX7_readLesson_6 (by decide) (fun q3 => ?_) (fun q3 => ?_)
  · rw [if_pos q3] at h
    refine v_aload_n G dX7_readLesson_25 rfl ?_
    refine v_aload_n G dX7_readLesson_26 rfl ?_
    refine v_bipush G (100 : Int32) dX7_readLesson_27 (by decide) ?_
    obtain ⟨q37, h⟩ := if_s h
    obtain ⟨v5, q4, h⟩ := bi_ h
    refine v_callV0 (e_X7_isLetter q4) G cl7 my_X7_isLetter rfl w978 w28 w976 dX7_readLesson_29 q37 rfl (Nat.le_of_ble_eq_true rfl) rfl (Nat.le_of_ble_eq_true rfl) (Nat.zero_le _) (Nat.zero_le _) ?_
    obtain ⟨q36, h⟩ := if_s h
    obtain ⟨M7, q6, h⟩ := bi_ h
    refine v_callV0 (e_X7_must q6) G cl7 my_X7_must rfl w982 w29 w980 dX7_readLesson_32 q36 rfl (Nat.le_of_ble_eq_true rfl) rfl (Nat.le_of_ble_eq_true rfl) (Nat.zero_le _) (Nat.zero_le _) ?_
    refine v_aload_n G dX7_readLesson_35 rfl ?_
    refine v_iconst G (0 : Int32) dX7_readLesson_36 (by decide) ?_
    refine v_aload_n G dX7_readLesson_37 rfl ?_
    obtain ⟨b8, q9, h⟩ := bi_ h
    refine v_getR (f := 6) G cl7 dX7_readLesson_38 w845 (by decide) (by decide) q9 ?_
    refine v_iconst G (1 : Int32) dX7_readLesson_41 (by decide) ?_
    obtain ⟨v11, q10, h⟩ := bi_ h
    refine v_iald G dX7_readLesson_42 q10 ?_
    refine v_iconst G (1 : Int32) dX7_readLesson_43 (by decide) ?_
    refine v_isub G dX7_readLesson_44 ?_
    obtain ⟨q35, h⟩ := if_s h
    obtain ⟨M13, v14, q12, h⟩ := bi2_ h
    refine v_callV0 (e_X7_number q12) G cl7 my_X7_number rfl w990 w31 w988 dX7_readLesson_45 q35 rfl (Nat.le_of_ble_eq_true rfl) rfl (Nat.le_of_ble_eq_true rfl) (Nat.zero_le _) (Nat.zero_le _) ?_
    refine v_istore_n [some (.ref x0), some (.int v14)] G dX7_readLesson_48 (Nat.le_of_ble_eq_true rfl) rfl rfl ?_
    refine v_aload_n G dX7_readLesson_49 rfl ?_
    refine v_bipush G (59 : Int32) dX7_readLesson_50 (by decide) ?_
    obtain ⟨q34, h⟩ := if_s h
    obtain ⟨M16, q15, h⟩ := bi_ h
    refine v_callV0 (e_X7_mustSign q15) G cl7 my_X7_mustSign rfl w994 w32 w992 dX7_readLesson_52 q34 rfl (Nat.le_of_ble_eq_true rfl) rfl (Nat.le_of_ble_eq_true rfl) (Nat.zero_le _) (Nat.zero_le _) ?_
    refine v_aload_n G dX7_readLesson_55 rfl ?_
    obtain ⟨v17, q18, h⟩ := bi_ h
    refine v_getI (f := 16) G cl7 dX7_readLesson_56 w855 (by decide) (by decide) q18 ?_
    refine v_if_ne 87 G dX7_readLesson_59 (by decide) (fun q19 => ?_) (fun q19 => ?_)
    · rw [if_neg q19] at h
      cases h
      exact v_vret G F dX7_readLesson_87 rfl (Nat.le_refl _)
    · rw [if_pos q19] at h
      refine v_aload_n G dX7_readLesson_62 rfl ?_
      obtain ⟨b20, q21, h⟩ := bi_ h
      refine v_getR (f := 6) G cl7 dX7_readLesson_63 w845 (by decide) (by decide) q21 ?_
      refine v_bipush G (11 : Int32) dX7_readLesson_66 (by decide) ?_
      refine v_aload_n G dX7_readLesson_68 rfl ?_
      obtain ⟨b22, q23, h⟩ := bi_ h
      refine v_getR (f := 6) G cl7 dX7_readLesson_69 w845 (by decide) (by decide) q23 ?_
      refine v_iconst G (2 : Int32) dX7_readLesson_72 (by decide) ?_
      obtain ⟨v25, q24, h⟩ := bi_ h
      refine v_iald G dX7_readLesson_73 q24 ?_
      refine v_iadd G dX7_readLesson_74 ?_
      refine v_iload_n G dX7_readLesson_75 rfl ?_
      obtain ⟨M26, q27, h⟩ := bi_ h
      refine v_iast G dX7_readLesson_76 q27 ?_
      refine v_aload_n G dX7_readLesson_77 rfl ?_
      obtain ⟨b28, q29, h⟩ := bi_ h
      refine v_getR (f := 6) G cl7 dX7_readLesson_78 w845 (by decide) (by decide) q29 ?_
      refine v_iconst G (2 : Int32) dX7_readLesson_81 (by decide) ?_
      refine v_dup2 G dX7_readLesson_82 rfl rfl ?_
      obtain ⟨v31, q30, h⟩ := bi_ h
      refine v_iald G dX7_readLesson_83 q30 ?_
      refine v_iconst G (1 : Int32) dX7_readLesson_84 (by decide) ?_
      refine v_iadd G dX7_readLesson_85 ?_
      obtain ⟨M32, q33, h⟩ := bi_ h
      refine v_iast G dX7_readLesson_86 q33 ?_
      cases h
      exact v_vret G F dX7_readLesson_87 rfl (Nat.le_refl _)
  · rw [if_neg q3] at h
    refine v_aload_n G dX7_readLesson_9 rfl ?_
    obtain ⟨b38, q39, h⟩ := bi_ h
    refine v_getR (f := 6) G cl7 dX7_readLesson_10 w845 (by decide) (by decide) q39 ?_
    refine v_iconst G (2 : Int32) dX7_readLesson_13 (by decide) ?_
    obtain ⟨v41, q40, h⟩ := bi_ h
    refine v_iald G dX7_readLesson_14 q40 ?_
    refine v_bipush G (8 : Int32) dX7_readLesson_15 (by decide) ?_
    refine v_ic_ne 25 G dX7_readLesson_17 (by decide) (fun q42 => ?_) (fun q42 => ?_)
    · rw [if_neg q42] at h
      refine v_aload_n G dX7_readLesson_25 rfl ?_
      refine v_aload_n G dX7_readLesson_26 rfl ?_
      refine v_bipush G (100 : Int32) dX7_readLesson_27 (by decide) ?_
      obtain ⟨q76, h⟩ := if_s h
      obtain ⟨v44, q43, h⟩ := bi_ h
      refine v_callV0 (e_X7_isLetter q43) G cl7 my_X7_isLetter rfl w978 w28 w976 dX7_readLesson_29 q76 rfl (Nat.le_of_ble_eq_true rfl) rfl (Nat.le_of_ble_eq_true rfl) (Nat.zero_le _) (Nat.zero_le _) ?_
      obtain ⟨q75, h⟩ := if_s h
      obtain ⟨M46, q45, h⟩ := bi_ h
      refine v_callV0 (e_X7_must q45) G cl7 my_X7_must rfl w982 w29 w980 dX7_readLesson_32 q75 rfl (Nat.le_of_ble_eq_true rfl) rfl (Nat.le_of_ble_eq_true rfl) (Nat.zero_le _) (Nat.zero_le _) ?_
      refine v_aload_n G dX7_readLesson_35 rfl ?_
      refine v_iconst G (0 : Int32) dX7_readLesson_36 (by decide) ?_
      refine v_aload_n G dX7_readLesson_37 rfl ?_
      obtain ⟨b47, q48, h⟩ := bi_ h
      refine v_getR (f := 6) G cl7 dX7_readLesson_38 w845 (by decide) (by decide) q48 ?_
      refine v_iconst G (1 : Int32) dX7_readLesson_41 (by decide) ?_
      obtain ⟨v50, q49, h⟩ := bi_ h
      refine v_iald G dX7_readLesson_42 q49 ?_
      refine v_iconst G (1 : Int32) dX7_readLesson_43 (by decide) ?_
      refine v_isub G dX7_readLesson_44 ?_
      obtain ⟨q74, h⟩ := if_s h
      obtain ⟨M52, v53, q51, h⟩ := bi2_ h
      refine v_callV0 (e_X7_number q51) G cl7 my_X7_number rfl w990 w31 w988 dX7_readLesson_45 q74 rfl (Nat.le_of_ble_eq_true rfl) rfl (Nat.le_of_ble_eq_true rfl) (Nat.zero_le _) (Nat.zero_le _) ?_
      refine v_istore_n [some (.ref x0), some (.int v53)] G dX7_readLesson_48 (Nat.le_of_ble_eq_true rfl) rfl rfl ?_
      refine v_aload_n G dX7_readLesson_49 rfl ?_
      refine v_bipush G (59 : Int32) dX7_readLesson_50 (by decide) ?_
      obtain ⟨q73, h⟩ := if_s h
      obtain ⟨M55, q54, h⟩ := bi_ h
      refine v_callV0 (e_X7_mustSign q54) G cl7 my_X7_mustSign rfl w994 w32 w992 dX7_readLesson_52 q73 rfl (Nat.le_of_ble_eq_true rfl) rfl (Nat.le_of_ble_eq_true rfl) (Nat.zero_le _) (Nat.zero_le _) ?_
      refine v_aload_n G dX7_readLesson_55 rfl ?_
      obtain ⟨v56, q57, h⟩ := bi_ h
      refine v_getI (f := 16) G cl7 dX7_readLesson_56 w855 (by decide) (by decide) q57 ?_
      refine v_if_ne 87 G dX7_readLesson_59 (by decide) (fun q58 => ?_) (fun q58 => ?_)
      · rw [if_neg q58] at h
        cases h
        exact v_vret G F dX7_readLesson_87 rfl (Nat.le_refl _)
      · rw [if_pos q58] at h
        refine v_aload_n G dX7_readLesson_62 rfl ?_
        obtain ⟨b59, q60, h⟩ := bi_ h
        refine v_getR (f := 6) G cl7 dX7_readLesson_63 w845 (by decide) (by decide) q60 ?_
        refine v_bipush G (11 : Int32) dX7_readLesson_66 (by decide) ?_
        refine v_aload_n G dX7_readLesson_68 rfl ?_
        obtain ⟨b61, q62, h⟩ := bi_ h
        refine v_getR (f := 6) G cl7 dX7_readLesson_69 w845 (by decide) (by decide) q62 ?_
        refine v_iconst G (2 : Int32) dX7_readLesson_72 (by decide) ?_
        obtain ⟨v64, q63, h⟩ := bi_ h
        refine v_iald G dX7_readLesson_73 q63 ?_
        refine v_iadd G dX7_readLesson_74 ?_
        refine v_iload_n G dX7_readLesson_75 rfl ?_
        obtain ⟨M65, q66, h⟩ := bi_ h
        refine v_iast G dX7_readLesson_76 q66 ?_
        refine v_aload_n G dX7_readLesson_77 rfl ?_
        obtain ⟨b67, q68, h⟩ := bi_ h
        refine v_getR (f := 6) G cl7 dX7_readLesson_78 w845 (by decide) (by decide) q68 ?_
        refine v_iconst G (2 : Int32) dX7_readLesson_81 (by decide) ?_
        refine v_dup2 G dX7_readLesson_82 rfl rfl ?_
        obtain ⟨v70, q69, h⟩ := bi_ h
        refine v_iald G dX7_readLesson_83 q69 ?_
        refine v_iconst G (1 : Int32) dX7_readLesson_84 (by decide) ?_
        refine v_iadd G dX7_readLesson_85 ?_
        obtain ⟨M71, q72, h⟩ := bi_ h
        refine v_iast G dX7_readLesson_86 q72 ?_
        cases h
        exact v_vret G F dX7_readLesson_87 rfl (Nat.le_refl _)
    · rw [if_pos q42] at h
      refine v_aload_n G dX7_readLesson_20 rfl ?_
      refine v_iconst G (3 : Int32) dX7_readLesson_21 (by decide) ?_
      obtain ⟨q113, h⟩ := if_s h
      obtain ⟨M78, q77, h⟩ := bi_ h
      refine v_callV0 (e_X7_bad q77) G cl7 my_X7_bad rfl w986 w30 w984 dX7_readLesson_22 q113 rfl (Nat.le_of_ble_eq_true rfl) rfl (Nat.le_of_ble_eq_true rfl) (Nat.zero_le _) (Nat.zero_le _) ?_
      refine v_aload_n G dX7_readLesson_25 rfl ?_
      refine v_aload_n G dX7_readLesson_26 rfl ?_
      refine v_bipush G (100 : Int32) dX7_readLesson_27 (by decide) ?_
      obtain ⟨q112, h⟩ := if_s h
      obtain ⟨v80, q79, h⟩ := bi_ h
      refine v_callV0 (e_X7_isLetter q79) G cl7 my_X7_isLetter rfl w978 w28 w976 dX7_readLesson_29 q112 rfl (Nat.le_of_ble_eq_true rfl) rfl (Nat.le_of_ble_eq_true rfl) (Nat.zero_le _) (Nat.zero_le _) ?_
      obtain ⟨q111, h⟩ := if_s h
      obtain ⟨M82, q81, h⟩ := bi_ h
      refine v_callV0 (e_X7_must q81) G cl7 my_X7_must rfl w982 w29 w980 dX7_readLesson_32 q111 rfl (Nat.le_of_ble_eq_true rfl) rfl (Nat.le_of_ble_eq_true rfl) (Nat.zero_le _) (Nat.zero_le _) ?_
      refine v_aload_n G dX7_readLesson_35 rfl ?_
      refine v_iconst G (0 : Int32) dX7_readLesson_36 (by decide) ?_
      refine v_aload_n G dX7_readLesson_37 rfl ?_
      obtain ⟨b83, q84, h⟩ := bi_ h
      refine v_getR (f := 6) G cl7 dX7_readLesson_38 w845 (by decide) (by decide) q84 ?_
      refine v_iconst G (1 : Int32) dX7_readLesson_41 (by decide) ?_
      obtain ⟨v86, q85, h⟩ := bi_ h
      refine v_iald G dX7_readLesson_42 q85 ?_
      refine v_iconst G (1 : Int32) dX7_readLesson_43 (by decide) ?_
      refine v_isub G dX7_readLesson_44 ?_
      obtain ⟨q110, h⟩ := if_s h
      obtain ⟨M88, v89, q87, h⟩ := bi2_ h
      refine v_callV0 (e_X7_number q87) G cl7 my_X7_number rfl w990 w31 w988 dX7_readLesson_45 q110 rfl (Nat.le_of_ble_eq_true rfl) rfl (Nat.le_of_ble_eq_true rfl) (Nat.zero_le _) (Nat.zero_le _) ?_
      refine v_istore_n [some (.ref x0), some (.int v89)] G dX7_readLesson_48 (Nat.le_of_ble_eq_true rfl) rfl rfl ?_
      refine v_aload_n G dX7_readLesson_49 rfl ?_
      refine v_bipush G (59 : Int32) dX7_readLesson_50 (by decide) ?_
      obtain ⟨q109, h⟩ := if_s h
      obtain ⟨M91, q90, h⟩ := bi_ h
      refine v_callV0 (e_X7_mustSign q90) G cl7 my_X7_mustSign rfl w994 w32 w992 dX7_readLesson_52 q109 rfl (Nat.le_of_ble_eq_true rfl) rfl (Nat.le_of_ble_eq_true rfl) (Nat.zero_le _) (Nat.zero_le _) ?_
      refine v_aload_n G dX7_readLesson_55 rfl ?_
      obtain ⟨v92, q93, h⟩ := bi_ h
      refine v_getI (f := 16) G cl7 dX7_readLesson_56 w855 (by decide) (by decide) q93 ?_
      refine v_if_ne 87 G dX7_readLesson_59 (by decide) (fun q94 => ?_) (fun q94 => ?_)
      · rw [if_neg q94] at h
        cases h
        exact v_vret G F dX7_readLesson_87 rfl (Nat.le_refl _)
      · rw [if_pos q94] at h
        refine v_aload_n G dX7_readLesson_62 rfl ?_
        obtain ⟨b95, q96, h⟩ := bi_ h
        refine v_getR (f := 6) G cl7 dX7_readLesson_63 w845 (by decide) (by decide) q96 ?_
        refine v_bipush G (11 : Int32) dX7_readLesson_66 (by decide) ?_
        refine v_aload_n G dX7_readLesson_68 rfl ?_
        obtain ⟨b97, q98, h⟩ := bi_ h
        refine v_getR (f := 6) G cl7 dX7_readLesson_69 w845 (by decide) (by decide) q98 ?_
        refine v_iconst G (2 : Int32) dX7_readLesson_72 (by decide) ?_
        obtain ⟨v100, q99, h⟩ := bi_ h
        refine v_iald G dX7_readLesson_73 q99 ?_
        refine v_iadd G dX7_readLesson_74 ?_
        refine v_iload_n G dX7_readLesson_75 rfl ?_
        obtain ⟨M101, q102, h⟩ := bi_ h
        refine v_iast G dX7_readLesson_76 q102 ?_
        refine v_aload_n G dX7_readLesson_77 rfl ?_
        obtain ⟨b103, q104, h⟩ := bi_ h
        refine v_getR (f := 6) G cl7 dX7_readLesson_78 w845 (by decide) (by decide) q104 ?_
        refine v_iconst G (2 : Int32) dX7_readLesson_81 (by decide) ?_
        refine v_dup2 G dX7_readLesson_82 rfl rfl ?_
        obtain ⟨v106, q105, h⟩ := bi_ h
        refine v_iald G dX7_readLesson_83 q105 ?_
        refine v_iconst G (1 : Int32) dX7_readLesson_84 (by decide) ?_
        refine v_iadd G dX7_readLesson_85 ?_
        obtain ⟨M107, q108, h⟩ := bi_ h
        refine v_iast G dX7_readLesson_86 q108 ?_
        cases h
        exact v_vret G F dX7_readLesson_87 rfl (Nat.le_refl _)
