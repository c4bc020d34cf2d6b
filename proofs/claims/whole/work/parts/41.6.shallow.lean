/-! X7_markOf -/
def m_X7_markOf (M : mM) (x0 : Nat) (x1 : Int32) : Option (mM × Int32) :=
  (gR M x0 7 5).bind fun b1 =>
  (m_X7_of M b1 x1 (0 : Int32)).bind fun v4 =>
  if v4 < (4 : Int32) then (
    if v4 = (1 : Int32) then (
      if isO M x0 7 = true then
      (m_X7_began M x0 (21 : Int32)).bind fun M8 =>
      if isO M8 x0 7 = true then
      (m_X7_began M8 x0 (20 : Int32)).bind fun M10 =>
      (gR M10 x0 7 5).bind fun b11 =>
      (m_X7_of M10 b11 x1 (1 : Int32)).bind fun v14 =>
      if v4 = (1 : Int32) then (
        some (M10, (x1 + v14))
      ) else (
        if v4 = (3 : Int32) then (
          some (M10, ((x1 + v14) - (1000 : Int32)))
        ) else (
          some (M10, ((2 : Int32) * (x1 + v14)))
        )
      )
      else none
      else none
    ) else (
      if v4 = (3 : Int32) then (
        if isO M x0 7 = true then
        (m_X7_began M x0 (22 : Int32)).bind fun M36 =>
        if isO M36 x0 7 = true then
        (m_X7_began M36 x0 (21 : Int32)).bind fun M38 =>
        if isO M38 x0 7 = true then
        (m_X7_began M38 x0 (20 : Int32)).bind fun M40 =>
        (gR M40 x0 7 5).bind fun b41 =>
        (m_X7_of M40 b41 x1 (1 : Int32)).bind fun v44 =>
        if v4 = (1 : Int32) then (
          some (M40, (x1 + v44))
        ) else (
          if v4 = (3 : Int32) then (
            some (M40, ((x1 + v44) - (1000 : Int32)))
          ) else (
            some (M40, ((2 : Int32) * (x1 + v44)))
          )
        )
        else none
        else none
        else none
      ) else (
        if isO M x0 7 = true then
        (m_X7_began M x0 (24 : Int32)).bind fun M21 =>
        if isO M21 x0 7 = true then
        (m_X7_began M21 x0 (21 : Int32)).bind fun M23 =>
        if isO M23 x0 7 = true then
        (m_X7_began M23 x0 (20 : Int32)).bind fun M25 =>
        (gR M25 x0 7 5).bind fun b26 =>
        (m_X7_of M25 b26 x1 (1 : Int32)).bind fun v29 =>
        if v4 = (1 : Int32) then (
          some (M25, (x1 + v29))
        ) else (
          if v4 = (3 : Int32) then (
            some (M25, ((x1 + v29) - (1000 : Int32)))
          ) else (
            some (M25, ((2 : Int32) * (x1 + v29)))
          )
        )
        else none
        else none
        else none
      )
    )
  ) else (
    if isO M x0 7 = true then
    (m_X7_began M x0 (23 : Int32)).bind fun M51 =>
    if isO M51 x0 7 = true then
    (m_X7_began M51 x0 (20 : Int32)).bind fun M53 =>
    if isO M53 x0 7 = true then
    bd2 (m_X7_snakeSize M53 x0 x1) fun M55 v56 =>
    some (M55, (x1 - v56))
    else none
    else none
    else none
  )
theorem e_X7_markOf {Z : zZ} {M : mM} {N : mM} {x0 : Nat} {x1 : Int32} {r : Int32} (h : m_X7_markOf M x0 x1 = some (N, r)) : EM Z yX7_markOf cX7_markOf 4 (some .int) 3 0 0 [.ref x0, .int x1] M N (some (.int r)) := by
  refine EM_of my_X7_markOf (Nat.le_of_ble_eq_true rfl) (fun X G F => ?_)
  show V X Z M 0 0 0 [some (.ref x0), some (.int x1), none, none] []
  unfold m_X7_markOf at h
  refine v_aload_n G dX7_markOf_0 rfl ?_
  obtain ⟨b1, q2, h⟩ := bi_ h
  refine v_getR (f := 5) G cl7 dX7_markOf_1 w844 (by decide) (by decide) q2 ?_
  refine v_iload_n G dX7_markOf_4 rfl ?_
  refine v_iconst G (0 : Int32) dX7_markOf_5 (by decide) ?_
  obtain ⟨v4, q3, h⟩ := bi_ h
  refine v_callS0 (e_X7_of q3) G my_X7_of w1045 w1044 dX7_markOf_6 rfl (Nat.le_of_ble_eq_true rfl) rfl (Nat.le_of_ble_eq_true rfl) (Nat.zero_le _) (Nat.zero_le _) ?_
  refine v_istore_n [some (.ref x0), some (.int x1), some (.int v4), none] G dX7_markOf_9 (Nat.le_of_ble_eq_true rfl) rfl rfl ?_
  refine v_iload_n G dX7_markOf_10 rfl ?_
  refine v_iconst G (4 : Int32) dX7_markOf_11 (by decide) ?_
  refine v_ic_lt 35 G dX7_markOf_12 (by decide) (fun q5 => ?_) (fun q5 => ?_)
  · rw [if_pos q5] at h
    refine v_iload_n G dX7_markOf_35 rfl ?_
    refine v_iconst G (1 : Int32) dX7_markOf_36 (by decide) ?_
    refine v_ic_eq 56 G dX7_markOf_37 (by decide) (fun q6 => ?_) (fun q6 => ?_)
    · rw [if_pos q6] at h
      refine v_aload_n G dX7_markOf_56 rfl ?_
      refine v_bipush G (21 : Int32) dX7_markOf_57 (by decide) ?_
      obtain ⟨q18, h⟩ := if_s h
      obtain ⟨M8, q7, h⟩ := bi_ h
      refine v_callV0 (e_X7_began q7) G cl7 my_X7_began rfl w1266 w55 w1264 dX7_markOf_59 q18 rfl (Nat.le_of_ble_eq_true rfl) rfl (Nat.le_of_ble_eq_true rfl) (Nat.zero_le _) (Nat.zero_le _) ?_
      refine v_aload_n G dX7_markOf_62 rfl ?_
      refine v_bipush G (20 : Int32) dX7_markOf_63 (by decide) ?_
      obtain ⟨q17, h⟩ := if_s h
      obtain ⟨M10, q9, h⟩ := bi_ h
      refine v_callV0 (e_X7_began q9) G cl7 my_X7_began rfl w1266 w55 w1264 dX7_markOf_65 q17 rfl (Nat.le_of_ble_eq_true rfl) rfl (Nat.le_of_ble_eq_true rfl) (Nat.zero_le _) (Nat.zero_le _) ?_
      refine v_iload_n G dX7_markOf_68 rfl ?_
      refine v_aload_n G dX7_markOf_69 rfl ?_
      obtain ⟨b11, q12, h⟩ := bi_ h
      refine v_getR (f := 5) G cl7 dX7_markOf_70 w844 (by decide) (by decide) q12 ?_
      refine v_iload_n G dX7_markOf_73 rfl ?_
      refine v_iconst G (1 : Int32) dX7_markOf_74 (by decide) ?_
      obtain ⟨v14, q13, h⟩ := bi_ h
      refine v_callS0 (e_X7_of q13) G my_X7_of w1045 w1044 dX7_markOf_75 rfl (Nat.le_of_ble_eq_true rfl) rfl (Nat.le_of_ble_eq_true rfl) (Nat.zero_le _) (Nat.zero_le _) ?_
      refine v_iadd G dX7_markOf_78 ?_
      refine v_istore_n [some (.ref x0), some (.int x1), some (.int v4), some (.int (x1 + v14))] G dX7_markOf_79 (Nat.le_of_ble_eq_true rfl) rfl rfl ?_
      refine v_iload_n G dX7_markOf_80 rfl ?_
      refine v_iconst G (1 : Int32) dX7_markOf_81 (by decide) ?_
      refine v_ic_ne 89 G dX7_markOf_82 (by decide) (fun q15 => ?_) (fun q15 => ?_)
      · rw [if_neg q15] at h
        refine v_iload_n G dX7_markOf_89 rfl ?_
        refine v_iconst G (3 : Int32) dX7_markOf_90 (by decide) ?_
        refine v_ic_ne 102 G dX7_markOf_91 (by decide) (fun q16 => ?_) (fun q16 => ?_)
        · rw [if_neg q16] at h
          refine v_iconst G (2 : Int32) dX7_markOf_102 (by decide) ?_
          refine v_iload_n G dX7_markOf_103 rfl ?_
          refine v_imul G dX7_markOf_104 ?_
          cases h
          exact v_iret G F dX7_markOf_105 rfl (Nat.le_refl _)
        · rw [if_pos q16] at h
          refine v_iload_n G dX7_markOf_94 rfl ?_
          refine v_sipush G (1000 : Int32) dX7_markOf_95 (by decide) ?_
          refine v_isub G dX7_markOf_98 ?_
          refine v_goto 105 G dX7_markOf_99 (by decide) ?_
          cases h
          exact v_iret G F dX7_markOf_105 rfl (Nat.le_refl _)
      · rw [if_pos q15] at h
        refine v_iload_n G dX7_markOf_85 rfl ?_
        refine v_goto 105 G dX7_markOf_86 (by decide) ?_
        cases h
        exact v_iret G F dX7_markOf_105 rfl (Nat.le_refl _)
    · rw [if_neg q6] at h
      refine v_aload_n G dX7_markOf_40 rfl ?_
      refine v_iload_n G dX7_markOf_41 rfl ?_
      refine v_iconst G (3 : Int32) dX7_markOf_42 (by decide) ?_
      refine v_ic_ne 51 G dX7_markOf_43 (by decide) (fun q19 => ?_) (fun q19 => ?_)
      · rw [if_neg q19] at h
        refine v_bipush G (24 : Int32) dX7_markOf_51 (by decide) ?_
        obtain ⟨q34, h⟩ := if_s h
        obtain ⟨M21, q20, h⟩ := bi_ h
        refine v_callV0 (e_X7_began q20) G cl7 my_X7_began rfl w1266 w55 w1264 dX7_markOf_53 q34 rfl (Nat.le_of_ble_eq_true rfl) rfl (Nat.le_of_ble_eq_true rfl) (Nat.zero_le _) (Nat.zero_le _) ?_
        refine v_aload_n G dX7_markOf_56 rfl ?_
        refine v_bipush G (21 : Int32) dX7_markOf_57 (by decide) ?_
        obtain ⟨q33, h⟩ := if_s h
        obtain ⟨M23, q22, h⟩ := bi_ h
        refine v_callV0 (e_X7_began q22) G cl7 my_X7_began rfl w1266 w55 w1264 dX7_markOf_59 q33 rfl (Nat.le_of_ble_eq_true rfl) rfl (Nat.le_of_ble_eq_true rfl) (Nat.zero_le _) (Nat.zero_le _) ?_
        refine v_aload_n G dX7_markOf_62 rfl ?_
        refine v_bipush G (20 : Int32) dX7_markOf_63 (by decide) ?_
        obtain ⟨q32, h⟩ := if_s h
        obtain ⟨M25, q24, h⟩ := bi_ h
        refine v_callV0 (e_X7_began q24) G cl7 my_X7_began rfl w1266 w55 w1264 dX7_markOf_65 q32 rfl (Nat.le_of_ble_eq_true rfl) rfl (Nat.le_of_ble_eq_true rfl) (Nat.zero_le _) (Nat.zero_le _) ?_
        refine v_iload_n G dX7_markOf_68 rfl ?_
        refine v_aload_n G dX7_markOf_69 rfl ?_
        obtain ⟨b26, q27, h⟩ := bi_ h
        refine v_getR (f := 5) G cl7 dX7_markOf_70 w844 (by decide) (by decide) q27 ?_
        refine v_iload_n G dX7_markOf_73 rfl ?_
        refine v_iconst G (1 : Int32) dX7_markOf_74 (by decide) ?_
        obtain ⟨v29, q28, h⟩ := bi_ h
        refine v_callS0 (e_X7_of q28) G my_X7_of w1045 w1044 dX7_markOf_75 rfl (Nat.le_of_ble_eq_true rfl) rfl (Nat.le_of_ble_eq_true rfl) (Nat.zero_le _) (Nat.zero_le _) ?_
        refine v_iadd G dX7_markOf_78 ?_
        refine v_istore_n [some (.ref x0), some (.int x1), some (.int v4), some (.int (x1 + v29))] G dX7_markOf_79 (Nat.le_of_ble_eq_true rfl) rfl rfl ?_
        refine v_iload_n G dX7_markOf_80 rfl ?_
        refine v_iconst G (1 : Int32) dX7_markOf_81 (by decide) ?_
        refine v_ic_ne 89 G dX7_markOf_82 (by decide) (fun q30 => ?_) (fun q30 => ?_)
        · rw [if_neg q30] at h
          refine v_iload_n G dX7_markOf_89 rfl ?_
          refine v_iconst G (3 : Int32) dX7_markOf_90 (by decide) ?_
          refine v_ic_ne 102 G dX7_markOf_91 (by decide) (fun q31 => ?_) (fun q31 => ?_)
          · rw [if_neg q31] at h
            refine v_iconst G (2 : Int32) dX7_markOf_102 (by decide) ?_
            refine v_iload_n G dX7_markOf_103 rfl ?_
            refine v_imul G dX7_markOf_104 ?_
            cases h
            exact v_iret G F dX7_markOf_105 rfl (Nat.le_refl _)
          · rw [if_pos q31] at h
            refine v_iload_n G dX7_markOf_94 rfl ?_
            refine v_sipush G (1000 : Int32) dX7_markOf_95 (by decide) ?_
            refine v_isub G dX7_markOf_98 ?_
            refine v_goto 105 G dX7_markOf_99 (by decide) ?_
            cases h
            exact v_iret G F dX7_markOf_105 rfl (Nat.le_refl _)
        · rw [if_pos q30] at h
          refine v_iload_n G dX7_markOf_85 rfl ?_
          refine v_goto 105 G dX7_markOf_86 (by decide) ?_
          cases h
          exact v_iret G F dX7_markOf_105 rfl (Nat.le_refl _)
      · rw [if_pos q19] at h
        refine v_bipush G (22 : Int32) dX7_markOf_46 (by decide) ?_
        refine v_goto 53 G dX7_markOf_48 (by decide) ?_
        obtain ⟨q49, h⟩ := if_s h
        obtain ⟨M36, q35, h⟩ := bi_ h
        refine v_callV0 (e_X7_began q35) G cl7 my_X7_began rfl w1266 w55 w1264 dX7_markOf_53 q49 rfl (Nat.le_of_ble_eq_true rfl) rfl (Nat.le_of_ble_eq_true rfl) (Nat.zero_le _) (Nat.zero_le _) ?_
        refine v_aload_n G dX7_markOf_56 rfl ?_
        refine v_bipush G (21 : Int32) dX7_markOf_57 (by decide) ?_
        obtain ⟨q48, h⟩ := if_s h
        obtain ⟨M38, q37, h⟩ := bi_ h
        refine v_callV0 (e_X7_began q37) G cl7 my_X7_began rfl w1266 w55 w1264 dX7_markOf_59 q48 rfl (Nat.le_of_ble_eq_true rfl) rfl (Nat.le_of_ble_eq_true rfl) (Nat.zero_le _) (Nat.zero_le _) ?_
        refine v_aload_n G dX7_markOf_62 rfl ?_
        refine v_bipush G (20 : Int32) dX7_markOf_63 (by decide) ?_
        obtain ⟨q47, h⟩ := if_s h
        obtain ⟨M40, q39, h⟩ := bi_ h
        refine v_callV0 (e_X7_began q39) G cl7 my_X7_began rfl w1266 w55 w1264 dX7_markOf_65 q47 rfl (Nat.le_of_ble_eq_true rfl) rfl (Nat.le_of_ble_eq_true rfl) (Nat.zero_le _) (Nat.zero_le _) ?_
        refine v_iload_n G dX7_markOf_68 rfl ?_
        refine v_aload_n G dX7_markOf_69 rfl ?_
        obtain ⟨b41, q42, h⟩ := bi_ h
        refine v_getR (f := 5) G cl7 dX7_markOf_70 w844 (by decide) (by decide) q42 ?_
        refine v_iload_n G dX7_markOf_73 rfl ?_
        refine v_iconst G (1 : Int32) dX7_markOf_74 (by decide) ?_
        obtain ⟨v44, q43, h⟩ := bi_ h
        refine v_callS0 (e_X7_of q43) G my_X7_of w1045 w1044 dX7_markOf_75 rfl (Nat.le_of_ble_eq_true rfl) rfl (Nat.le_of_ble_eq_true rfl) (Nat.zero_le _) (Nat.zero_le _) ?_
        refine v_iadd G dX7_markOf_78 ?_
        refine v_istore_n [some (.ref x0), some (.int x1), some (.int v4), some (.int (x1 + v44))] G dX7_markOf_79 (Nat.le_of_ble_eq_true rfl) rfl rfl ?_
        refine v_iload_n G dX7_markOf_80 rfl ?_
        refine v_iconst G (1 : Int32) dX7_markOf_81 (by decide) ?_
        refine v_ic_ne 89 G dX7_markOf_82 (by decide) (fun q45 => ?_) (fun q45 => ?_)
        · rw [if_neg q45] at h
          refine v_iload_n G dX7_markOf_89 rfl ?_
          refine v_iconst G (3 : Int32) dX7_markOf_90 (by decide) ?_
          refine v_ic_ne 102 G dX7_markOf_91 (by decide) (fun q46 => ?_) (fun q46 => ?_)
          · rw [if_neg q46] at h
            refine v_iconst G (2 : Int32) dX7_markOf_102 (by decide) ?_
            refine v_iload_n G dX7_markOf_103 rfl ?_
            refine v_imul G dX7_markOf_104 ?_
            cases h
            exact v_iret G F dX7_markOf_105 rfl (Nat.le_refl _)
          · rw [if_pos q46] at h
            refine v_iload_n G dX7_markOf_94 rfl ?_
            refine v_sipush G (1000 : Int32) dX7_markOf_95 (by decide) ?_
            refine v_isub G dX7_markOf_98 ?_
            refine v_goto 105 G dX7_markOf_99 (by decide) ?_
            cases h
            exact v_iret G F dX7_markOf_105 rfl (Nat.le_refl _)
        · rw [if_pos q45] at h
          refine v_iload_n G dX7_markOf_85 rfl ?_
          refine v_goto 105 G dX7_markOf_86 (by decide) ?_
          cases h
          exact v_iret G F dX7_markOf_105 rfl (Nat.le_refl _)
  · rw [if_neg q5] at h
    refine v_aload_n G dX7_markOf_15 rfl ?_
    refine v_bipush G (23 : Int32) dX7_markOf_16 (by decide) ?_
    obtain ⟨q59, h⟩ := if_s h
    obtain ⟨M51, q50, h⟩ := bi_ h
    refine v_callV0 (e_X7_began q50) G cl7 my_X7_began rfl w1266 w55 w1264 dX7_markOf_18 q59 rfl (Nat.le_of_ble_eq_true rfl) rfl (Nat.le_of_ble_eq_true rfl) (Nat.zero_le _) (Nat.zero_le _) ?_
    refine v_aload_n G dX7_markOf_21 rfl ?_
    refine v_bipush G (20 : Int32) dX7_markOf_22 (by decide) ?_
    obtain ⟨q58, h⟩ := if_s h
    obtain ⟨M53, q52, h⟩ := bi_ h
    refine v_callV0 (e_X7_began q52) G cl7 my_X7_began rfl w1266 w55 w1264 dX7_markOf_24 q58 rfl (Nat.le_of_ble_eq_true rfl) rfl (Nat.le_of_ble_eq_true rfl) (Nat.zero_le _) (Nat.zero_le _) ?_
    refine v_iload_n G dX7_markOf_27 rfl ?_
    refine v_aload_n G dX7_markOf_28 rfl ?_
    refine v_iload_n G dX7_markOf_29 rfl ?_
    obtain ⟨q57, h⟩ := if_s h
    obtain ⟨M55, v56, q54, h⟩ := bi2_ h
    refine v_callV0 (e_X7_snakeSize q54) G cl7 my_X7_snakeSize rfl w1262 w54 w1260 dX7_markOf_30 q57 rfl (Nat.le_of_ble_eq_true rfl) rfl (Nat.le_of_ble_eq_true rfl) (Nat.zero_le _) (Nat.zero_le _) ?_
    refine v_isub G dX7_markOf_33 ?_
    cases h
    exact v_iret G F dX7_markOf_34 rfl (Nat.le_refl _)
/-! X7_sizeOf -/
def m_X7_sizeOf (M : mM) (x0 : Nat) (x1 : Int32) : Option (mM × Int32) :=
  (gR M x0 7 5).bind fun b1 =>
  (m_X7_of M b1 x1 (0 : Int32)).bind fun v4 =>
  if v4 < (4 : Int32) then (
    if v4 = (2 : Int32) then (
      if isO M x0 7 = true then
      (m_X7_began M x0 (12 : Int32)).bind fun M20 =>
      if isO M20 x0 7 = true then
      (m_X7_began M20 x0 (11 : Int32)).bind fun M22 =>
      if isO M22 x0 7 = true then
      bd2 (m_X7_plainSize M22 x0 x1) fun M24 v25 =>
      if isO M24 x0 7 = true then
      bd2 (m_X7_markOf M24 x0 x1) fun M27 v28 =>
      if v4 = (2 : Int32) then (
        some (M27, (-(v25 + v28)))
      ) else (
        some (M27, (v25 + v28))
      )
      else none
      else none
      else none
      else none
    ) else (
      if isO M x0 7 = true then
      (m_X7_began M x0 (11 : Int32)).bind fun M8 =>
      if isO M8 x0 7 = true then
      bd2 (m_X7_plainSize M8 x0 x1) fun M10 v11 =>
      if isO M10 x0 7 = true then
      bd2 (m_X7_markOf M10 x0 x1) fun M13 v14 =>
      if v4 = (2 : Int32) then (
        some (M13, (-(v11 + v14)))
      ) else (
        some (M13, (v11 + v14))
      )
      else none
      else none
      else none
    )
  ) else (
    if isO M x0 7 = true then
    bd2 (m_X7_snakeSize M x0 x1) fun M35 v36 =>
    some (M35, v36)
    else none
  )
theorem e_X7_sizeOf {Z : zZ} {M : mM} {N : mM} {x0 : Nat} {x1 : Int32} {r : Int32} (h : m_X7_sizeOf M x0 x1 = some (N, r)) : EM Z yX7_sizeOf cX7_sizeOf 4 (some .int) 4 0 0 [.ref x0, .int x1] M N (some (.int r)) := by
  refine EM_of my_X7_sizeOf (Nat.le_of_ble_eq_true rfl) (fun X G F => ?_)
  show V X Z M 0 0 0 [some (.ref x0), some (.int x1), none, none] []
  unfold m_X7_sizeOf at h
  refine v_aload_n G dX7_sizeOf_0 rfl ?_
  obtain ⟨b1, q2, h⟩ := bi_ h
  refine v_getR (f := 5) G cl7 dX7_sizeOf_1 w844 (by decide) (by decide) q2 ?_
  refine v_iload_n G dX7_sizeOf_4 rfl ?_
  refine v_iconst G (0 : Int32) dX7_sizeOf_5 (by decide) ?_
  obtain ⟨v4, q3, h⟩ := bi_ h
  refine v_callS0 (e_X7_of q3) G my_X7_of w1045 w1044 dX7_sizeOf_6 rfl (Nat.le_of_ble_eq_true rfl) rfl (Nat.le_of_ble_eq_true rfl) (Nat.zero_le _) (Nat.zero_le _) ?_
  refine v_istore_n [some (.ref x0), some (.int x1), some (.int v4), none] G dX7_sizeOf_9 (Nat.le_of_ble_eq_true rfl) rfl rfl ?_
  refine v_iload_n G dX7_sizeOf_10 rfl ?_
  refine v_iconst G (4 : Int32) dX7_sizeOf_11 (by decide) ?_
  refine v_ic_lt 21 G dX7_sizeOf_12 (by decide) (fun q5 => ?_) (fun q5 => ?_)
  · rw [if_pos q5] at h
    refine v_iload_n G dX7_sizeOf_21 rfl ?_
    refine v_iconst G (2 : Int32) dX7_sizeOf_22 (by decide) ?_
    refine v_ic_ne 32 G dX7_sizeOf_23 (by decide) (fun q6 => ?_) (fun q6 => ?_)
    · rw [if_neg q6] at h
      refine v_aload_n G dX7_sizeOf_32 rfl ?_
      refine v_bipush G (11 : Int32) dX7_sizeOf_33 (by decide) ?_
      obtain ⟨q18, h⟩ := if_s h
      obtain ⟨M8, q7, h⟩ := bi_ h
      refine v_callV0 (e_X7_began q7) G cl7 my_X7_began rfl w1266 w55 w1264 dX7_sizeOf_35 q18 rfl (Nat.le_of_ble_eq_true rfl) rfl (Nat.le_of_ble_eq_true rfl) (Nat.zero_le _) (Nat.zero_le _) ?_
      refine v_aload_n G dX7_sizeOf_38 rfl ?_
      refine v_iload_n G dX7_sizeOf_39 rfl ?_
      obtain ⟨q17, h⟩ := if_s h
      obtain ⟨M10, v11, q9, h⟩ := bi2_ h
      refine v_callV0 (e_X7_plainSize q9) G cl7 my_X7_plainSize rfl w1270 w56 w1268 dX7_sizeOf_40 q17 rfl (Nat.le_of_ble_eq_true rfl) rfl (Nat.le_of_ble_eq_true rfl) (Nat.zero_le _) (Nat.zero_le _) ?_
      refine v_istore_n [some (.ref x0), some (.int x1), some (.int v4), some (.int v11)] G dX7_sizeOf_43 (Nat.le_of_ble_eq_true rfl) rfl rfl ?_
      refine v_iload_n G dX7_sizeOf_44 rfl ?_
      refine v_aload_n G dX7_sizeOf_45 rfl ?_
      refine v_iload_n G dX7_sizeOf_46 rfl ?_
      obtain ⟨q16, h⟩ := if_s h
      obtain ⟨M13, v14, q12, h⟩ := bi2_ h
      refine v_callV0 (e_X7_markOf q12) G cl7 my_X7_markOf rfl w1274 w57 w1272 dX7_sizeOf_47 q16 rfl (Nat.le_of_ble_eq_true rfl) rfl (Nat.le_of_ble_eq_true rfl) (Nat.zero_le _) (Nat.zero_le _) ?_
      refine v_iadd G dX7_sizeOf_50 ?_
      refine v_istore_n [some (.ref x0), some (.int x1), some (.int v4), some (.int (v11 + v14))] G dX7_sizeOf_51 (Nat.le_of_ble_eq_true rfl) rfl rfl ?_
      refine v_iload_n G dX7_sizeOf_52 rfl ?_
      refine v_iconst G (2 : Int32) dX7_sizeOf_53 (by decide) ?_
      refine v_ic_ne 62 G dX7_sizeOf_54 (by decide) (fun q15 => ?_) (fun q15 => ?_)
      · rw [if_neg q15] at h
        refine v_iload_n G dX7_sizeOf_62 rfl ?_
        cases h
        exact v_iret G F dX7_sizeOf_63 rfl (Nat.le_refl _)
      · rw [if_pos q15] at h
        refine v_iload_n G dX7_sizeOf_57 rfl ?_
        refine v_ineg G dX7_sizeOf_58 ?_
        refine v_goto 63 G dX7_sizeOf_59 (by decide) ?_
        cases h
        exact v_iret G F dX7_sizeOf_63 rfl (Nat.le_refl _)
    · rw [if_pos q6] at h
      refine v_aload_n G dX7_sizeOf_26 rfl ?_
      refine v_bipush G (12 : Int32) dX7_sizeOf_27 (by decide) ?_
      obtain ⟨q33, h⟩ := if_s h
      obtain ⟨M20, q19, h⟩ := bi_ h
      refine v_callV0 (e_X7_began q19) G cl7 my_X7_began rfl w1266 w55 w1264 dX7_sizeOf_29 q33 rfl (Nat.le_of_ble_eq_true rfl) rfl (Nat.le_of_ble_eq_true rfl) (Nat.zero_le _) (Nat.zero_le _) ?_
      refine v_aload_n G dX7_sizeOf_32 rfl ?_
      refine v_bipush G (11 : Int32) dX7_sizeOf_33 (by decide) ?_
      obtain ⟨q32, h⟩ := if_s h
      obtain ⟨M22, q21, h⟩ := bi_ h
      refine v_callV0 (e_X7_began q21) G cl7 my_X7_began rfl w1266 w55 w1264 dX7_sizeOf_35 q32 rfl (Nat.le_of_ble_eq_true rfl) rfl (Nat.le_of_ble_eq_true rfl) (Nat.zero_le _) (Nat.zero_le _) ?_
      refine v_aload_n G dX7_sizeOf_38 rfl ?_
      refine v_iload_n G dX7_sizeOf_39 rfl ?_
      obtain ⟨q31, h⟩ := if_s h
      obtain ⟨M24, v25, q23, h⟩ := bi2_ h
      refine v_callV0 (e_X7_plainSize q23) G cl7 my_X7_plainSize rfl w1270 w56 w1268 dX7_sizeOf_40 q31 rfl (Nat.le_of_ble_eq_true rfl) rfl (Nat.le_of_ble_eq_true rfl) (Nat.zero_le _) (Nat.zero_le _) ?_
      refine v_istore_n [some (.ref x0), some (.int x1), some (.int v4), some (.int v25)] G dX7_sizeOf_43 (Nat.le_of_ble_eq_true rfl) rfl rfl ?_
      refine v_iload_n G dX7_sizeOf_44 rfl ?_
      refine v_aload_n G dX7_sizeOf_45 rfl ?_
      refine v_iload_n G dX7_sizeOf_46 rfl ?_
      obtain ⟨q30, h⟩ := if_s h
      obtain ⟨M27, v28, q26, h⟩ := bi2_ h
      refine v_callV0 (e_X7_markOf q26) G cl7 my_X7_markOf rfl w1274 w57 w1272 dX7_sizeOf_47 q30 rfl (Nat.le_of_ble_eq_true rfl) rfl (Nat.le_of_ble_eq_true rfl) (Nat.zero_le _) (Nat.zero_le _) ?_
      refine v_iadd G dX7_sizeOf_50 ?_
      refine v_istore_n [some (.ref x0), some (.int x1), some (.int v4), some (.int (v25 + v28))] G dX7_sizeOf_51 (Nat.le_of_ble_eq_true rfl) rfl rfl ?_
      refine v_iload_n G dX7_sizeOf_52 rfl ?_
      refine v_iconst G (2 : Int32) dX7_sizeOf_53 (by decide) ?_
      refine v_ic_ne 62 G dX7_sizeOf_54 (by decide) (fun q29 => ?_) (fun q29 => ?_)
      · rw [if_neg q29] at h
        refine v_iload_n G dX7_sizeOf_62 rfl ?_
        cases h
        exact v_iret G F dX7_sizeOf_63 rfl (Nat.le_refl _)
      · rw [if_pos q29] at h
        refine v_iload_n G dX7_sizeOf_57 rfl ?_
        refine v_ineg G dX7_sizeOf_58 ?_
        refine v_goto 63 G dX7_sizeOf_59 (by decide) ?_
        cases h
        exact v_iret G F dX7_sizeOf_63 rfl (Nat.le_refl _)
  · rw [if_neg q5] at h
    refine v_aload_n G dX7_sizeOf_15 rfl ?_
    refine v_iload_n G dX7_sizeOf_16 rfl ?_
    obtain ⟨q37, h⟩ := if_s h
    obtain ⟨M35, v36, q34, h⟩ := bi2_ h
    refine v_callV0 (e_X7_snakeSize q34) G cl7 my_X7_snakeSize rfl w1262 w54 w1260 dX7_sizeOf_17 q37 rfl (Nat.le_of_ble_eq_true rfl) rfl (Nat.le_of_ble_eq_true rfl) (Nat.zero_le _) (Nat.zero_le _) ?_
    cases h
    exact v_iret G F dX7_sizeOf_20 rfl (Nat.le_refl _)
/-! X7_ask -/
def m_X7_ask (M : mM) (x0 : Nat) (x1 : Int32) (x2 : Int32) : Option (mM × Int32) :=
  (pI M x0 7 0 (0 : Int32)).bind fun M1 =>
  if isO M1 x0 7 = true then
  (m_X7_isPupil M1 x0 x1).bind fun v4 =>
  if v4 = (0 : Int32) then (
    some (M1, (-1000001 : Int32))
  ) else (
    (m_X7_in M1 (Int32.toInt64 x2) (0 : Int64) (1 : Int64)).bind fun v7 =>
    if v7 = (0 : Int32) then (
      some (M1, (-1000001 : Int32))
    ) else (
      (pI M1 x0 7 25 (0 : Int32)).bind fun M9 =>
      if x2 = (0 : Int32) then (
        if isO M9 x0 7 = true then
        bd2 (m_X7_sizeOf M9 x0 x1) fun M17 v18 =>
        some (M17, v18)
        else none
      ) else (
        if isO M9 x0 7 = true then
        bd2 (m_X7_markOf M9 x0 x1) fun M13 v14 =>
        some (M13, v14)
        else none
      )
    )
  )
  else none
theorem e_X7_ask {Z : zZ} {M : mM} {N : mM} {x0 : Nat} {x1 : Int32} {x2 : Int32} {r : Int32} (h : m_X7_ask M x0 x1 x2 = some (N, r)) : EM Z yX7_ask cX7_ask 3 (some .int) 5 0 0 [.ref x0, .int x1, .int x2] M N (some (.int r)) := by
  refine EM_of my_X7_ask (Nat.le_of_ble_eq_true rfl) (fun X G F => ?_)
  show V X Z M 0 0 0 [some (.ref x0), some (.int x1), some (.int x2)] []
  unfold m_X7_ask at h
  refine v_aload_n G dX7_ask_0 rfl ?_
  refine v_iconst G (0 : Int32) dX7_ask_1 (by decide) ?_
  obtain ⟨M1, q2, h⟩ := bi_ h
  refine v_putI (f := 0) G cl7 dX7_ask_2 w839 (by decide) (by decide) (by decide) rfl rfl q2 ?_
  refine v_aload_n G dX7_ask_5 rfl ?_
  refine v_iload_n G dX7_ask_6 rfl ?_
  obtain ⟨q20, h⟩ := if_s h
  obtain ⟨v4, q3, h⟩ := bi_ h
  refine v_callV0 (e_X7_isPupil q3) G cl7 my_X7_isPupil rfl w1074 w41 w1072 dX7_ask_7 q20 rfl (Nat.le_of_ble_eq_true rfl) rfl (Nat.le_of_ble_eq_true rfl) (Nat.zero_le _) (Nat.zero_le _) ?_
  refine v_if_eq 23 G dX7_ask_10 (by decide) (fun q5 => ?_) (fun q5 => ?_)
  · rw [if_pos q5] at h
    refine v_ldc G (-1000001 : Int32) dX7_ask_23 w931 ?_
    cases h
    exact v_iret G F dX7_ask_25 rfl (Nat.le_refl _)
  · rw [if_neg q5] at h
    refine v_iload_n G dX7_ask_13 rfl ?_
    refine v_i2l G dX7_ask_14 ?_
    refine v_lconst G (0 : Int64) dX7_ask_15 (by decide) ?_
    refine v_lconst G (1 : Int64) dX7_ask_16 (by decide) ?_
    obtain ⟨v7, q6, h⟩ := bi_ h
    refine v_callS0 (e_X7_in q6) G my_X7_in w928 w927 dX7_ask_17 rfl (Nat.le_of_ble_eq_true rfl) rfl (Nat.le_of_ble_eq_true rfl) (Nat.zero_le _) (Nat.zero_le _) ?_
    refine v_if_ne 26 G dX7_ask_20 (by decide) (fun q8 => ?_) (fun q8 => ?_)
    · rw [if_neg q8] at h
      refine v_aload_n G dX7_ask_26 rfl ?_
      refine v_iconst G (0 : Int32) dX7_ask_27 (by decide) ?_
      obtain ⟨M9, q10, h⟩ := bi_ h
      refine v_putI (f := 25) G cl7 dX7_ask_28 w864 (by decide) (by decide) (by decide) rfl rfl q10 ?_
      refine v_iload_n G dX7_ask_31 rfl ?_
      refine v_if_ne 43 G dX7_ask_32 (by decide) (fun q11 => ?_) (fun q11 => ?_)
      · rw [if_neg q11] at h
        refine v_aload_n G dX7_ask_43 rfl ?_
        refine v_iload_n G dX7_ask_44 rfl ?_
        obtain ⟨q15, h⟩ := if_s h
        obtain ⟨M13, v14, q12, h⟩ := bi2_ h
        refine v_callV0 (e_X7_markOf q12) G cl7 my_X7_markOf rfl w1274 w57 w1272 dX7_ask_45 q15 rfl (Nat.le_of_ble_eq_true rfl) rfl (Nat.le_of_ble_eq_true rfl) (Nat.zero_le _) (Nat.zero_le _) ?_
        cases h
        exact v_iret G F dX7_ask_48 rfl (Nat.le_refl _)
      · rw [if_pos q11] at h
        refine v_aload_n G dX7_ask_35 rfl ?_
        refine v_iload_n G dX7_ask_36 rfl ?_
        obtain ⟨q19, h⟩ := if_s h
        obtain ⟨M17, v18, q16, h⟩ := bi2_ h
        refine v_callV0 (e_X7_sizeOf q16) G cl7 my_X7_sizeOf rfl w1258 w53 w1256 dX7_ask_37 q19 rfl (Nat.le_of_ble_eq_true rfl) rfl (Nat.le_of_ble_eq_true rfl) (Nat.zero_le _) (Nat.zero_le _) ?_
        refine v_goto 48 G dX7_ask_40 (by decide) ?_
        cases h
        exact v_iret G F dX7_ask_48 rfl (Nat.le_refl _)
    · rw [if_pos q8] at h
      refine v_ldc G (-1000001 : Int32) dX7_ask_23 w931 ?_
      cases h
      exact v_iret G F dX7_ask_25 rfl (Nat.le_refl _)
/-! X7_trace -/
def m_X7_trace (M : mM) (x0 : Nat) (x1 : Int32) : Option (mM × Int32) :=
  (pI M x0 7 0 (0 : Int32)).bind fun M1 =>
  (gI M1 x0 7 25).bind fun v3 =>
  (m_X7_in M1 (Int32.toInt64 x1) (0 : Int64) (Int32.toInt64 (v3 - (1 : Int32)))).bind fun v6 =>
  if v6 = (0 : Int32) then (
    some (M1, (-1000000 : Int32))
  ) else (
    (gR M1 x0 7 24).bind fun b8 =>
    (ldI M1 b8 x1).bind fun v11 =>
    some (M1, v11)
  )
theorem e_X7_trace {Z : zZ} {M : mM} {N : mM} {x0 : Nat} {x1 : Int32} {r : Int32} (h : m_X7_trace M x0 x1 = some (N, r)) : EM Z yX7_trace cX7_trace 2 (some .int) 1 0 0 [.ref x0, .int x1] M N (some (.int r)) := by
  refine EM_of my_X7_trace (Nat.le_of_ble_eq_true rfl) (fun X G F => ?_)
  show V X Z M 0 0 0 [some (.ref x0), some (.int x1)] []
  unfold m_X7_trace at h
  refine v_aload_n G dX7_trace_0 rfl ?_
  refine v_iconst G (0 : Int32) dX7_trace_1 (by decide) ?_
  obtain ⟨M1, q2, h⟩ := bi_ h
  refine v_putI (f := 0) G cl7 dX7_trace_2 w839 (by decide) (by decide) (by decide) rfl rfl q2 ?_
  refine v_iload_n G dX7_trace_5 rfl ?_
  refine v_i2l G dX7_trace_6 ?_
  refine v_lconst G (0 : Int64) dX7_trace_7 (by decide) ?_
  refine v_aload_n G dX7_trace_8 rfl ?_
  obtain ⟨v3, q4, h⟩ := bi_ h
  refine v_getI (f := 25) G cl7 dX7_trace_9 w864 (by decide) (by decide) q4 ?_
  refine v_iconst G (1 : Int32) dX7_trace_12 (by decide) ?_
  refine v_isub G dX7_trace_13 ?_
  refine v_i2l G dX7_trace_14 ?_
  obtain ⟨v6, q5, h⟩ := bi_ h
  refine v_callS0 (e_X7_in q5) G my_X7_in w928 w927 dX7_trace_15 rfl (Nat.le_of_ble_eq_true rfl) rfl (Nat.le_of_ble_eq_true rfl) (Nat.zero_le _) (Nat.zero_le _) ?_
  refine v_if_eq 30 G dX7_trace_18 (by decide) (fun q7 => ?_) (fun q7 => ?_)
  · rw [if_pos q7] at h
    refine v_ldc G (-1000000 : Int32) dX7_trace_30 w971 ?_
    cases h
    exact v_iret G F dX7_trace_32 rfl (Nat.le_refl _)
  · rw [if_neg q7] at h
    refine v_aload_n G dX7_trace_21 rfl ?_
    obtain ⟨b8, q9, h⟩ := bi_ h
    refine v_getR (f := 24) G cl7 dX7_trace_22 w863 (by decide) (by decide) q9 ?_
    refine v_iload_n G dX7_trace_25 rfl ?_
    obtain ⟨v11, q10, h⟩ := bi_ h
    refine v_iald G dX7_trace_26 q10 ?_
    refine v_goto 32 G dX7_trace_27 (by decide) ?_
    cases h
    exact v_iret G F dX7_trace_32 rfl (Nat.le_refl _)
/-! X7_count -/
def m_X7_count_L58 {ρ : Type} (k0 : Int32 → Option ρ) (M : mM) (x0 : Nat) : Nat → Int32 → Int32 → Option ρ
  | 0, _, _ => none
  | n + 1, x2, x3 =>
    if (8 : Int32) ≤ x3 then (
      k0 x2
    ) else (
      (gR M x0 7 2).bind fun b5 =>
      (ldI M b5 x3).bind fun v8 =>
      if v8 < (0 : Int32) then (
        m_X7_count_L58 k0 M x0 n (x2 + (0 : Int32)) (x3 + (1 : Int32))
      ) else (
        m_X7_count_L58 k0 M x0 n (x2 + (1 : Int32)) (x3 + (1 : Int32))
      )
    )
theorem e_X7_count_L58 {X : xX} {Z : zZ} {cn sn : Nat} {ρ : Type} {r : ρ} {k0 : Int32 → Option ρ} (G : ok_ X Z yX7_count cX7_count 4 2 0 0) (hcn : cn ≤ 0) (hsn : sn ≤ 0) (M : mM) (x0 : Nat)
    (hx0 : ∀ (z2 : Int32), k0 z2 = some r → V X Z M cn sn 87 [none, none, some (.int z2), none] []) :
    ∀ (n : Nat) (x2 : Int32) (x3 : Int32), m_X7_count_L58 k0 M x0 n x2 x3 = some r → V X Z M cn sn 58 [some (.ref x0), none, some (.int x2), some (.int x3)] [] := by
  intro n
  induction n with
  | zero => intro x2 x3 h; rw [m_X7_count_L58] at h; cases h
  | succ n ih =>
    intro x2 x3 h
    rw [m_X7_count_L58] at h
    refine v_iload_n G dX7_count_58 rfl ?_
    refine v_bipush G (8 : Int32) dX7_count_59 (by decide) ?_
    refine v_ic_ge 87 G dX7_count_61 (by decide) (fun q4 => ?_) (fun q4 => ?_)
    · rw [if_pos q4] at h
      exact v_mask [false, false, true, false] rfl (hx0 _ h)
    · rw [if_neg q4] at h
      refine v_iload_n G dX7_count_64 rfl ?_
      refine v_aload_n G dX7_count_65 rfl ?_
      obtain ⟨b5, q6, h⟩ := bi_ h
      refine v_getR (f := 2) G cl7 dX7_count_66 w841 (by decide) (by decide) q6 ?_
      refine v_iload_n G dX7_count_69 rfl ?_
      obtain ⟨v8, q7, h⟩ := bi_ h
      refine v_iald G dX7_count_70 q7 ?_
      refine v_if_lt 78 G dX7_count_71 (by decide) (fun q9 => ?_) (fun q9 => ?_)
      · rw [if_pos q9] at h
        refine v_iconst G (0 : Int32) dX7_count_78 (by decide) ?_
        refine v_iadd G dX7_count_79 ?_
        refine v_istore_n [some (.ref x0), none, some (.int (x2 + (0 : Int32))), some (.int x3)] G dX7_count_80 (Nat.le_of_ble_eq_true rfl) rfl rfl ?_
        refine v_iinc (x3 + (1 : Int32)) [some (.ref x0), none, some (.int (x2 + (0 : Int32))), some (.int (x3 + (1 : Int32)))] G dX7_count_81 rfl rfl (Nat.le_of_ble_eq_true rfl) rfl rfl ?_
        refine v_goto 58 G dX7_count_84 (by decide) ?_
        exact v_mask [true, false, true, true] rfl (ih _ _ h)
      · rw [if_neg q9] at h
        refine v_iconst G (1 : Int32) dX7_count_74 (by decide) ?_
        refine v_goto 79 G dX7_count_75 (by decide) ?_
        refine v_iadd G dX7_count_79 ?_
        refine v_istore_n [some (.ref x0), none, some (.int (x2 + (1 : Int32))), some (.int x3)] G dX7_count_80 (Nat.le_of_ble_eq_true rfl) rfl rfl ?_
        refine v_iinc (x3 + (1 : Int32)) [some (.ref x0), none, some (.int (x2 + (1 : Int32))), some (.int (x3 + (1 : Int32)))] G dX7_count_81 rfl rfl (Nat.le_of_ble_eq_true rfl) rfl rfl ?_
        refine v_goto 58 G dX7_count_84 (by decide) ?_
        exact v_mask [true, false, true, true] rfl (ih _ _ h)
def m_X7_count (M : mM) (x0 : Nat) (x1 : Int32) : Option (mM × Int32) :=
  (pI M x0 7 0 (0 : Int32)).bind fun M1 =>
  if x1 = (0 : Int32) then (
    m_X7_count_L58
      (fun v10 =>
        some (M1, v10))
      M1 x0 FU (0 : Int32) (0 : Int32)
  ) else
  if x1 = (1 : Int32) then (
    (gR M1 x0 7 5).bind fun b12 =>
    (ldI M1 b12 (0 : Int32)).bind fun v15 =>
    some (M1, v15)
  ) else
  if x1 = (2 : Int32) then (
    (gR M1 x0 7 5).bind fun b17 =>
    (ldI M1 b17 (1 : Int32)).bind fun v20 =>
    some (M1, v20)
  ) else
  if x1 = (3 : Int32) then (
    (gR M1 x0 7 5).bind fun b22 =>
    (ldI M1 b22 (2 : Int32)).bind fun v25 =>
    some (M1, v25)
  ) else
  if x1 = (4 : Int32) then (
    (gR M1 x0 7 5).bind fun b27 =>
    (ldI M1 b27 (3 : Int32)).bind fun v30 =>
    some (M1, v30)
  ) else
  if x1 = (5 : Int32) then (
    (gR M1 x0 7 5).bind fun b32 =>
    (m_X7_known M1 b32).bind fun v35 =>
    some (M1, v35)
  ) else
  if x1 = (6 : Int32) then (
    (gI M1 x0 7 9).bind fun v37 =>
    some (M1, v37)
  ) else
  if x1 = (7 : Int32) then (
    (gI M1 x0 7 11).bind fun v40 =>
    some (M1, v40)
  ) else
  (
    some (M1, (-1000001 : Int32))
  )
theorem e_X7_count {Z : zZ} {M : mM} {N : mM} {x0 : Nat} {x1 : Int32} {r : Int32} (h : m_X7_count M x0 x1 = some (N, r)) : EM Z yX7_count cX7_count 4 (some .int) 2 0 0 [.ref x0, .int x1] M N (some (.int r)) := by
  refine EM_of my_X7_count (Nat.le_of_ble_eq_true rfl) (fun X G F => ?_)
  show V X Z M 0 0 0 [some (.ref x0), some (.int x1), none, none] []
  unfold m_X7_count at h
  refine v_aload_n G dX7_count_0 rfl ?_
  refine v_iconst G (0 : Int32) dX7_count_1 (by decide) ?_
  obtain ⟨M1, q2, h⟩ := bi_ h
  refine v_putI (f := 0) G cl7 dX7_count_2 w839 (by decide) (by decide) (by decide) rfl rfl q2 ?_
  refine v_iconst G (0 : Int32) dX7_count_5 (by decide) ?_
  refine v_istore_n [some (.ref x0), some (.int x1), some (.int (0 : Int32)), none] G dX7_count_6 (Nat.le_of_ble_eq_true rfl) rfl rfl ?_
  refine v_iload_n G dX7_count_7 rfl ?_
  rcases Decidable.em (x1 = (0 : Int32)) with q3 | q3
  · rw [if_pos q3] at h
    refine v_tabI (off := 48) 56 G dX7_count_8 (by rw [q3]; decide) (by rw [q3]; decide) (by rw [q3]; rfl) (by decide) ?_
    refine v_iconst G (0 : Int32) dX7_count_56 (by decide) ?_
    refine v_istore_n [some (.ref x0), some (.int x1), some (.int (0 : Int32)), some (.int (0 : Int32))] G dX7_count_57 (Nat.le_of_ble_eq_true rfl) rfl rfl ?_
    refine v_mask [true, false, true, true] rfl ?_
    refine e_X7_count_L58 G (Nat.zero_le _) (Nat.zero_le _) _ _ (fun v10 h => ?_) FU _ _ h
    refine v_iload_n G dX7_count_87 rfl ?_
    cases h
    exact v_iret G F dX7_count_88 rfl (Nat.le_refl _)
  · rw [if_neg q3] at h
    rcases Decidable.em (x1 = (1 : Int32)) with q11 | q11
    · rw [if_pos q11] at h
      refine v_tabI (off := 81) 89 G dX7_count_8 (by rw [q11]; decide) (by rw [q11]; decide) (by rw [q11]; rfl) (by decide) ?_
      refine v_aload_n G dX7_count_89 rfl ?_
      obtain ⟨b12, q13, h⟩ := bi_ h
      refine v_getR (f := 5) G cl7 dX7_count_90 w844 (by decide) (by decide) q13 ?_
      refine v_iconst G (0 : Int32) dX7_count_93 (by decide) ?_
      obtain ⟨v15, q14, h⟩ := bi_ h
      refine v_iald G dX7_count_94 q14 ?_
      cases h
      exact v_iret G F dX7_count_95 rfl (Nat.le_refl _)
    · rw [if_neg q11] at h
      rcases Decidable.em (x1 = (2 : Int32)) with q16 | q16
      · rw [if_pos q16] at h
        refine v_tabI (off := 88) 96 G dX7_count_8 (by rw [q16]; decide) (by rw [q16]; decide) (by rw [q16]; rfl) (by decide) ?_
        refine v_aload_n G dX7_count_96 rfl ?_
        obtain ⟨b17, q18, h⟩ := bi_ h
        refine v_getR (f := 5) G cl7 dX7_count_97 w844 (by decide) (by decide) q18 ?_
        refine v_iconst G (1 : Int32) dX7_count_100 (by decide) ?_
        obtain ⟨v20, q19, h⟩ := bi_ h
        refine v_iald G dX7_count_101 q19 ?_
        cases h
        exact v_iret G F dX7_count_102 rfl (Nat.le_refl _)
      · rw [if_neg q16] at h
        rcases Decidable.em (x1 = (3 : Int32)) with q21 | q21
        · rw [if_pos q21] at h
          refine v_tabI (off := 95) 103 G dX7_count_8 (by rw [q21]; decide) (by rw [q21]; decide) (by rw [q21]; rfl) (by decide) ?_
          refine v_aload_n G dX7_count_103 rfl ?_
          obtain ⟨b22, q23, h⟩ := bi_ h
          refine v_getR (f := 5) G cl7 dX7_count_104 w844 (by decide) (by decide) q23 ?_
          refine v_iconst G (2 : Int32) dX7_count_107 (by decide) ?_
          obtain ⟨v25, q24, h⟩ := bi_ h
          refine v_iald G dX7_count_108 q24 ?_
          cases h
          exact v_iret G F dX7_count_109 rfl (Nat.le_refl _)
        · rw [if_neg q21] at h
          rcases Decidable.em (x1 = (4 : Int32)) with q26 | q26
          · rw [if_pos q26] at h
            refine v_tabI (off := 102) 110 G dX7_count_8 (by rw [q26]; decide) (by rw [q26]; decide) (by rw [q26]; rfl) (by decide) ?_
            refine v_aload_n G dX7_count_110 rfl ?_
            obtain ⟨b27, q28, h⟩ := bi_ h
            refine v_getR (f := 5) G cl7 dX7_count_111 w844 (by decide) (by decide) q28 ?_
            refine v_iconst G (3 : Int32) dX7_count_114 (by decide) ?_
            obtain ⟨v30, q29, h⟩ := bi_ h
            refine v_iald G dX7_count_115 q29 ?_
            cases h
            exact v_iret G F dX7_count_116 rfl (Nat.le_refl _)
          · rw [if_neg q26] at h
            rcases Decidable.em (x1 = (5 : Int32)) with q31 | q31
            · rw [if_pos q31] at h
              refine v_tabI (off := 109) 117 G dX7_count_8 (by rw [q31]; decide) (by rw [q31]; decide) (by rw [q31]; rfl) (by decide) ?_
              refine v_aload_n G dX7_count_117 rfl ?_
              obtain ⟨b32, q33, h⟩ := bi_ h
              refine v_getR (f := 5) G cl7 dX7_count_118 w844 (by decide) (by decide) q33 ?_
              obtain ⟨v35, q34, h⟩ := bi_ h
              refine v_callS0 (e_X7_known q34) G my_X7_known w1066 w1065 dX7_count_121 rfl (Nat.le_of_ble_eq_true rfl) rfl (Nat.le_of_ble_eq_true rfl) (Nat.zero_le _) (Nat.zero_le _) ?_
              cases h
              exact v_iret G F dX7_count_124 rfl (Nat.le_refl _)
            · rw [if_neg q31] at h
              rcases Decidable.em (x1 = (6 : Int32)) with q36 | q36
              · rw [if_pos q36] at h
                refine v_tabI (off := 117) 125 G dX7_count_8 (by rw [q36]; decide) (by rw [q36]; decide) (by rw [q36]; rfl) (by decide) ?_
                refine v_aload_n G dX7_count_125 rfl ?_
                obtain ⟨v37, q38, h⟩ := bi_ h
                refine v_getI (f := 9) G cl7 dX7_count_126 w848 (by decide) (by decide) q38 ?_
                cases h
                exact v_iret G F dX7_count_129 rfl (Nat.le_refl _)
              · rw [if_neg q36] at h
                rcases Decidable.em (x1 = (7 : Int32)) with q39 | q39
                · rw [if_pos q39] at h
                  refine v_tabI (off := 122) 130 G dX7_count_8 (by rw [q39]; decide) (by rw [q39]; decide) (by rw [q39]; rfl) (by decide) ?_
                  refine v_aload_n G dX7_count_130 rfl ?_
                  obtain ⟨v40, q41, h⟩ := bi_ h
                  refine v_getI (f := 11) G cl7 dX7_count_131 w850 (by decide) (by decide) q41 ?_
                  cases h
                  exact v_iret G F dX7_count_134 rfl (Nat.le_refl _)
                · rw [if_neg q39] at h
                  have eq3 : (x1).toInt ≠ 0 := i32_ne q3
                  have eq11 : (x1).toInt ≠ 1 := i32_ne q11
                  have eq16 : (x1).toInt ≠ 2 := i32_ne q16
                  have eq21 : (x1).toInt ≠ 3 := i32_ne q21
                  have eq26 : (x1).toInt ≠ 4 := i32_ne q26
                  have eq31 : (x1).toInt ≠ 5 := i32_ne q31
                  have eq36 : (x1).toInt ≠ 6 := i32_ne q36
                  have eq39 : (x1).toInt ≠ 7 := i32_ne q39
                  refine v_tabO 135 G dX7_count_8 (by omega) (by decide) ?_
                  refine v_ldc G (-1000001 : Int32) dX7_count_135 w931 ?_
                  cases h
                  exact v_iret G F dX7_count_137 rfl (Nat.le_refl _)
/-! X7_status -/
def m_X7_status (M : mM) (x0 : Nat) : Option (mM × Int32) :=
  (pI M x0 7 0 (0 : Int32)).bind fun M1 =>
  (gI M1 x0 7 1).bind fun v3 =>
  some (M1, v3)
theorem e_X7_status {Z : zZ} {M : mM} {N : mM} {x0 : Nat} {r : Int32} (h : m_X7_status M x0 = some (N, r)) : EM Z yX7_status cX7_status 1 (some .int) 0 0 0 [.ref x0] M N (some (.int r)) := by
  refine EM_of my_X7_status (Nat.le_of_ble_eq_true rfl) (fun X G F => ?_)
  show V X Z M 0 0 0 [some (.ref x0)] []
  unfold m_X7_status at h
  refine v_aload_n G dX7_status_0 rfl ?_
  refine v_iconst G (0 : Int32) dX7_status_1 (by decide) ?_
  obtain ⟨M1, q2, h⟩ := bi_ h
  refine v_putI (f := 0) G cl7 dX7_status_2 w839 (by decide) (by decide) (by decide) rfl rfl q2 ?_
  refine v_aload_n G dX7_status_5 rfl ?_
  obtain ⟨v3, q4, h⟩ := bi_ h
  refine v_getI (f := 1) G cl7 dX7_status_6 w840 (by decide) (by decide) q4 ?_
  cases h
  exact v_iret G F dX7_status_9 rfl (Nat.le_refl _)
