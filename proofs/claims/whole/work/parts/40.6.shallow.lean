/-! X6_who -/
def m_X6_who (M : mM) (x0 : Nat) (x1 : Int32) (x2 : Int32) (x3 : Int32) (x4 : Int32) (x5 : Int32) : Option (mM × Int32) :=
  if isO M x0 6 = true then
  (m_X6_noPupil M x0 x1).bind fun v2 =>
  if v2 = (0 : Int32) then (
    (m_X6_outside M x2 (0 : Int32) (1 : Int32)).bind fun v5 =>
    if v5 = (0 : Int32) then (
      (m_X6_noRow M x3).bind fun v8 =>
      if v8 = (0 : Int32) then (
        (m_X6_outside M x5 (1 : Int32) (12 : Int32)).bind fun v11 =>
        if v11 = (0 : Int32) then (
          if isO M x0 6 = true then
          (m_X6_wrongPlace M x0 x3 x4 x5).bind fun v14 =>
          if v14 = (0 : Int32) then (
            (gR M x0 6 5).bind fun b16 =>
            (gR M x0 6 0).bind fun b18 =>
            (ldR M b18 3 x3).bind fun b21 =>
            if isO M b16 2 = true then
            (m_X2_believe M b16 b21 x4 x5).bind fun M23 =>
            if x2 = (0 : Int32) then (
              (gR M23 x0 6 5).bind fun b37 =>
              (gR M23 x0 6 1).bind fun b39 =>
              if isO M23 b37 2 = true then
              bd2 (m_X2_kindsThatFit M23 b37 b39 x1) fun M42 v43 =>
              if isO M42 x0 6 = true then
              bd2 (m_X6_fine M42 x0 v43) fun M45 v46 =>
              some (M45, v46)
              else none
              else none
            ) else (
              (gR M23 x0 6 5).bind fun b25 =>
              (gR M23 x0 6 1).bind fun b27 =>
              if isO M23 b25 2 = true then
              bd2 (m_X2_seatsThatFit M23 b25 b27 x1) fun M30 v31 =>
              if isO M30 x0 6 = true then
              bd2 (m_X6_fine M30 x0 v31) fun M33 v34 =>
              some (M33, v34)
              else none
              else none
            )
            else none
          ) else (
            if isO M x0 6 = true then
            bd2 (m_X6_found M x0 v14) fun M51 v52 =>
            some (M51, v52)
            else none
          )
          else none
        ) else (
          some (M, (-1000001 : Int32))
        )
      ) else (
        some (M, (-1000001 : Int32))
      )
    ) else (
      some (M, (-1000001 : Int32))
    )
  ) else (
    some (M, (-1000001 : Int32))
  )
  else none
theorem e_X6_who {Z : zZ} {M : mM} {N : mM} {x0 : Nat} {x1 : Int32} {x2 : Int32} {x3 : Int32} {x4 : Int32} {x5 : Int32} {r : Int32} (h : m_X6_who M x0 x1 x2 x3 x4 x5 = some (N, r)) : EM Z yX6_who cX6_who 7 (some .int) 7 0 0 [.ref x0, .int x1, .int x2, .int x3, .int x4, .int x5] M N (some (.int r)) := by
  refine EM_of my_X6_who (Nat.le_of_ble_eq_true rfl) (fun X G F => ?_)
  show V X Z M 0 0 0 [some (.ref x0), some (.int x1), some (.int x2), some (.int x3), some (.int x4), some (.int x5), none] []
  unfold m_X6_who at h
  refine v_aload_n G dX6_who_0 rfl ?_
  refine v_iload_n G dX6_who_1 rfl ?_
  obtain ⟨q55, h⟩ := if_s h
  obtain ⟨v2, q1, h⟩ := bi_ h
  refine v_callV0 (e_X6_noPupil q1) G cl6 my_X6_noPupil rfl w512 w13 w510 dX6_who_2 q55 rfl (Nat.le_of_ble_eq_true rfl) rfl (Nat.le_of_ble_eq_true rfl) (Nat.zero_le _) (Nat.zero_le _) ?_
  refine v_if_ne 35 G dX6_who_5 (by decide) (fun q3 => ?_) (fun q3 => ?_)
  · rw [if_neg q3] at h
    refine v_ldc G (-1000001 : Int32) dX6_who_35 w326 ?_
    cases h
    exact v_iret G F dX6_who_37 rfl (Nat.le_refl _)
  · rw [if_pos q3] at h
    refine v_iload_n G dX6_who_8 rfl ?_
    refine v_iconst G (0 : Int32) dX6_who_9 (by decide) ?_
    refine v_iconst G (1 : Int32) dX6_who_10 (by decide) ?_
    obtain ⟨v5, q4, h⟩ := bi_ h
    refine v_callS0 (e_X6_outside q4) G my_X6_outside w324 w323 dX6_who_11 rfl (Nat.le_of_ble_eq_true rfl) rfl (Nat.le_of_ble_eq_true rfl) (Nat.zero_le _) (Nat.zero_le _) ?_
    refine v_if_ne 35 G dX6_who_14 (by decide) (fun q6 => ?_) (fun q6 => ?_)
    · rw [if_neg q6] at h
      refine v_ldc G (-1000001 : Int32) dX6_who_35 w326 ?_
      cases h
      exact v_iret G F dX6_who_37 rfl (Nat.le_refl _)
    · rw [if_pos q6] at h
      refine v_iload_n G dX6_who_17 rfl ?_
      obtain ⟨v8, q7, h⟩ := bi_ h
      refine v_callS0 (e_X6_noRow q7) G my_X6_noRow w321 w320 dX6_who_18 rfl (Nat.le_of_ble_eq_true rfl) rfl (Nat.le_of_ble_eq_true rfl) (Nat.zero_le _) (Nat.zero_le _) ?_
      refine v_if_ne 35 G dX6_who_21 (by decide) (fun q9 => ?_) (fun q9 => ?_)
      · rw [if_neg q9] at h
        refine v_ldc G (-1000001 : Int32) dX6_who_35 w326 ?_
        cases h
        exact v_iret G F dX6_who_37 rfl (Nat.le_refl _)
      · rw [if_pos q9] at h
        refine v_iload G dX6_who_24 rfl ?_
        refine v_iconst G (1 : Int32) dX6_who_26 (by decide) ?_
        refine v_bipush G (12 : Int32) dX6_who_27 (by decide) ?_
        obtain ⟨v11, q10, h⟩ := bi_ h
        refine v_callS0 (e_X6_outside q10) G my_X6_outside w324 w323 dX6_who_29 rfl (Nat.le_of_ble_eq_true rfl) rfl (Nat.le_of_ble_eq_true rfl) (Nat.zero_le _) (Nat.zero_le _) ?_
        refine v_if_eq 38 G dX6_who_32 (by decide) (fun q12 => ?_) (fun q12 => ?_)
        · rw [if_pos q12] at h
          refine v_aload_n G dX6_who_38 rfl ?_
          refine v_iload_n G dX6_who_39 rfl ?_
          refine v_iload G dX6_who_40 rfl ?_
          refine v_iload G dX6_who_42 rfl ?_
          obtain ⟨q54, h⟩ := if_s h
          obtain ⟨v14, q13, h⟩ := bi_ h
          refine v_callV0 (e_X6_wrongPlace q13) G cl6 my_X6_wrongPlace rfl w346 w2 w344 dX6_who_44 q54 rfl (Nat.le_of_ble_eq_true rfl) rfl (Nat.le_of_ble_eq_true rfl) (Nat.zero_le _) (Nat.zero_le _) ?_
          refine v_istore [some (.ref x0), some (.int x1), some (.int x2), some (.int x3), some (.int x4), some (.int x5), some (.int v14)] G dX6_who_47 (Nat.le_of_ble_eq_true rfl) rfl rfl ?_
          refine v_iload G dX6_who_49 rfl ?_
          refine v_if_eq 61 G dX6_who_51 (by decide) (fun q15 => ?_) (fun q15 => ?_)
          · rw [if_pos q15] at h
            refine v_aload_n G dX6_who_61 rfl ?_
            obtain ⟨b16, q17, h⟩ := bi_ h
            refine v_getR (f := 5) G cl6 dX6_who_62 w296 (by decide) (by decide) q17 ?_
            refine v_aload_n G dX6_who_65 rfl ?_
            obtain ⟨b18, q19, h⟩ := bi_ h
            refine v_getR (f := 0) G cl6 dX6_who_66 w291 (by decide) (by decide) q19 ?_
            refine v_iload_n G dX6_who_69 rfl ?_
            obtain ⟨b21, q20, h⟩ := bi_ h
            refine v_aald3 G dX6_who_70 q20 ?_
            refine v_iload G dX6_who_71 rfl ?_
            refine v_iload G dX6_who_73 rfl ?_
            obtain ⟨q49, h⟩ := if_s h
            obtain ⟨M23, q22, h⟩ := bi_ h
            refine v_callV0 (e_X2_believe q22) G cl2 my_X2_believe rfl w708 w709 w707 dX6_who_75 q49 rfl (Nat.le_of_ble_eq_true rfl) rfl (Nat.le_of_ble_eq_true rfl) (Nat.zero_le _) (Nat.zero_le _) ?_
            refine v_aload_n G dX6_who_78 rfl ?_
            refine v_iload_n G dX6_who_79 rfl ?_
            refine v_if_ne 98 G dX6_who_80 (by decide) (fun q24 => ?_) (fun q24 => ?_)
            · rw [if_neg q24] at h
              refine v_aload_n G dX6_who_98 rfl ?_
              obtain ⟨b25, q26, h⟩ := bi_ h
              refine v_getR (f := 5) G cl6 dX6_who_99 w296 (by decide) (by decide) q26 ?_
              refine v_aload_n G dX6_who_102 rfl ?_
              obtain ⟨b27, q28, h⟩ := bi_ h
              refine v_getR (f := 1) G cl6 dX6_who_103 w292 (by decide) (by decide) q28 ?_
              refine v_iload_n G dX6_who_106 rfl ?_
              obtain ⟨q36, h⟩ := if_s h
              obtain ⟨M30, v31, q29, h⟩ := bi2_ h
              refine v_callV0 (e_X2_seatsThatFit q29) G cl2 my_X2_seatsThatFit rfl w721 w722 w720 dX6_who_107 q36 rfl (Nat.le_of_ble_eq_true rfl) rfl (Nat.le_of_ble_eq_true rfl) (Nat.zero_le _) (Nat.zero_le _) ?_
              obtain ⟨q35, h⟩ := if_s h
              obtain ⟨M33, v34, q32, h⟩ := bi2_ h
              refine v_callV0 (e_X6_fine q32) G cl6 my_X6_fine rfl w338 w1 w336 dX6_who_110 q35 rfl (Nat.le_of_ble_eq_true rfl) rfl (Nat.le_of_ble_eq_true rfl) (Nat.zero_le _) (Nat.zero_le _) ?_
              cases h
              exact v_iret G F dX6_who_113 rfl (Nat.le_refl _)
            · rw [if_pos q24] at h
              refine v_aload_n G dX6_who_83 rfl ?_
              obtain ⟨b37, q38, h⟩ := bi_ h
              refine v_getR (f := 5) G cl6 dX6_who_84 w296 (by decide) (by decide) q38 ?_
              refine v_aload_n G dX6_who_87 rfl ?_
              obtain ⟨b39, q40, h⟩ := bi_ h
              refine v_getR (f := 1) G cl6 dX6_who_88 w292 (by decide) (by decide) q40 ?_
              refine v_iload_n G dX6_who_91 rfl ?_
              obtain ⟨q48, h⟩ := if_s h
              obtain ⟨M42, v43, q41, h⟩ := bi2_ h
              refine v_callV0 (e_X2_kindsThatFit q41) G cl2 my_X2_kindsThatFit rfl w712 w713 w711 dX6_who_92 q48 rfl (Nat.le_of_ble_eq_true rfl) rfl (Nat.le_of_ble_eq_true rfl) (Nat.zero_le _) (Nat.zero_le _) ?_
              refine v_goto 110 G dX6_who_95 (by decide) ?_
              obtain ⟨q47, h⟩ := if_s h
              obtain ⟨M45, v46, q44, h⟩ := bi2_ h
              refine v_callV0 (e_X6_fine q44) G cl6 my_X6_fine rfl w338 w1 w336 dX6_who_110 q47 rfl (Nat.le_of_ble_eq_true rfl) rfl (Nat.le_of_ble_eq_true rfl) (Nat.zero_le _) (Nat.zero_le _) ?_
              cases h
              exact v_iret G F dX6_who_113 rfl (Nat.le_refl _)
          · rw [if_neg q15] at h
            refine v_aload_n G dX6_who_54 rfl ?_
            refine v_iload G dX6_who_55 rfl ?_
            obtain ⟨q53, h⟩ := if_s h
            obtain ⟨M51, v52, q50, h⟩ := bi2_ h
            refine v_callV0 (e_X6_found q50) G cl6 my_X6_found rfl w329 w0 w327 dX6_who_57 q53 rfl (Nat.le_of_ble_eq_true rfl) rfl (Nat.le_of_ble_eq_true rfl) (Nat.zero_le _) (Nat.zero_le _) ?_
            cases h
            exact v_iret G F dX6_who_60 rfl (Nat.le_refl _)
        · rw [if_neg q12] at h
          refine v_ldc G (-1000001 : Int32) dX6_who_35 w326 ?_
          cases h
          exact v_iret G F dX6_who_37 rfl (Nat.le_refl _)
/-! X6_what -/
def m_X6_what (M : mM) (x0 : Nat) (x1 : Int32) (x2 : Int32) (x3 : Int32) (x4 : Int32) (x5 : Int32) : Option (mM × Int32) :=
  (gR M x0 6 1).bind fun b1 =>
  (gI M b1 5 2).bind fun v3 =>
  (m_X6_outside M x1 (-1 : Int32) (v3 - (1 : Int32))).bind fun v6 =>
  if v6 = (0 : Int32) then (
    if isO M x0 6 = true then
    (m_X6_noPupil M x0 x2).bind fun v9 =>
    if v9 = (0 : Int32) then (
      (m_X6_noRow M x3).bind fun v12 =>
      if v12 = (0 : Int32) then (
        (m_X6_outside M x5 (1 : Int32) (12 : Int32)).bind fun v15 =>
        if v15 = (0 : Int32) then (
          if isO M x0 6 = true then
          (m_X6_wrongPlace M x0 x3 x4 x5).bind fun v18 =>
          if v18 = (0 : Int32) then (
            (gR M x0 6 5).bind fun b20 =>
            (gR M x0 6 0).bind fun b22 =>
            (ldR M b22 3 x3).bind fun b25 =>
            if isO M b20 2 = true then
            (m_X2_believe M b20 b25 x4 x5).bind fun M27 =>
            if (0 : Int32) ≤ x1 then (
              (gR M27 x0 6 5).bind fun b29 =>
              (gR M27 x0 6 1).bind fun b31 =>
              if isO M27 b29 2 = true then
              bd2 (m_X2_subjectsThatFit M27 b29 b31 x2 x1) fun M34 v35 =>
              if isO M34 x0 6 = true then
              bd2 (m_X6_fine M34 x0 v35) fun M37 v38 =>
              some (M37, v38)
              else none
              else none
            ) else (
              (gR M27 x0 6 5).bind fun b41 =>
              (gR M27 x0 6 1).bind fun b43 =>
              if isO M27 b41 2 = true then
              bd2 (m_X2_reachesThatFit M27 b41 b43 x2) fun M46 v47 =>
              if isO M46 x0 6 = true then
              bd2 (m_X6_fine M46 x0 v47) fun M49 v50 =>
              some (M49, v50)
              else none
              else none
            )
            else none
          ) else (
            if isO M x0 6 = true then
            bd2 (m_X6_found M x0 v18) fun M55 v56 =>
            some (M55, v56)
            else none
          )
          else none
        ) else (
          some (M, (-1000001 : Int32))
        )
      ) else (
        some (M, (-1000001 : Int32))
      )
    ) else (
      some (M, (-1000001 : Int32))
    )
    else none
  ) else (
    some (M, (-1000001 : Int32))
  )
theorem e_X6_what {Z : zZ} {M : mM} {N : mM} {x0 : Nat} {x1 : Int32} {x2 : Int32} {x3 : Int32} {x4 : Int32} {x5 : Int32} {r : Int32} (h : m_X6_what M x0 x1 x2 x3 x4 x5 = some (N, r)) : EM Z yX6_what cX6_what 7 (some .int) 7 0 0 [.ref x0, .int x1, .int x2, .int x3, .int x4, .int x5] M N (some (.int r)) := by
  refine EM_of my_X6_what (Nat.le_of_ble_eq_true rfl) (fun X G F => ?_)
  show V X Z M 0 0 0 [some (.ref x0), some (.int x1), some (.int x2), some (.int x3), some (.int x4), some (.int x5), none] []
  unfold m_X6_what at h
  refine v_iload_n G dX6_what_0 rfl ?_
  refine v_iconst G (-1 : Int32) dX6_what_1 (by decide) ?_
  refine v_aload_n G dX6_what_2 rfl ?_
  obtain ⟨b1, q2, h⟩ := bi_ h
  refine v_getR (f := 1) G cl6 dX6_what_3 w292 (by decide) (by decide) q2 ?_
  obtain ⟨v3, q4, h⟩ := bi_ h
  refine v_getI (f := 2) G cl5 dX6_what_6 w95 (by decide) (by decide) q4 ?_
  refine v_iconst G (1 : Int32) dX6_what_9 (by decide) ?_
  refine v_isub G dX6_what_10 ?_
  obtain ⟨v6, q5, h⟩ := bi_ h
  refine v_callS0 (e_X6_outside q5) G my_X6_outside w324 w323 dX6_what_11 rfl (Nat.le_of_ble_eq_true rfl) rfl (Nat.le_of_ble_eq_true rfl) (Nat.zero_le _) (Nat.zero_le _) ?_
  refine v_if_ne 43 G dX6_what_14 (by decide) (fun q7 => ?_) (fun q7 => ?_)
  · rw [if_neg q7] at h
    refine v_ldc G (-1000001 : Int32) dX6_what_43 w326 ?_
    cases h
    exact v_iret G F dX6_what_45 rfl (Nat.le_refl _)
  · rw [if_pos q7] at h
    refine v_aload_n G dX6_what_17 rfl ?_
    refine v_iload_n G dX6_what_18 rfl ?_
    obtain ⟨q59, h⟩ := if_s h
    obtain ⟨v9, q8, h⟩ := bi_ h
    refine v_callV0 (e_X6_noPupil q8) G cl6 my_X6_noPupil rfl w512 w13 w510 dX6_what_19 q59 rfl (Nat.le_of_ble_eq_true rfl) rfl (Nat.le_of_ble_eq_true rfl) (Nat.zero_le _) (Nat.zero_le _) ?_
    refine v_if_ne 43 G dX6_what_22 (by decide) (fun q10 => ?_) (fun q10 => ?_)
    · rw [if_neg q10] at h
      refine v_ldc G (-1000001 : Int32) dX6_what_43 w326 ?_
      cases h
      exact v_iret G F dX6_what_45 rfl (Nat.le_refl _)
    · rw [if_pos q10] at h
      refine v_iload_n G dX6_what_25 rfl ?_
      obtain ⟨v12, q11, h⟩ := bi_ h
      refine v_callS0 (e_X6_noRow q11) G my_X6_noRow w321 w320 dX6_what_26 rfl (Nat.le_of_ble_eq_true rfl) rfl (Nat.le_of_ble_eq_true rfl) (Nat.zero_le _) (Nat.zero_le _) ?_
      refine v_if_ne 43 G dX6_what_29 (by decide) (fun q13 => ?_) (fun q13 => ?_)
      · rw [if_neg q13] at h
        refine v_ldc G (-1000001 : Int32) dX6_what_43 w326 ?_
        cases h
        exact v_iret G F dX6_what_45 rfl (Nat.le_refl _)
      · rw [if_pos q13] at h
        refine v_iload G dX6_what_32 rfl ?_
        refine v_iconst G (1 : Int32) dX6_what_34 (by decide) ?_
        refine v_bipush G (12 : Int32) dX6_what_35 (by decide) ?_
        obtain ⟨v15, q14, h⟩ := bi_ h
        refine v_callS0 (e_X6_outside q14) G my_X6_outside w324 w323 dX6_what_37 rfl (Nat.le_of_ble_eq_true rfl) rfl (Nat.le_of_ble_eq_true rfl) (Nat.zero_le _) (Nat.zero_le _) ?_
        refine v_if_eq 46 G dX6_what_40 (by decide) (fun q16 => ?_) (fun q16 => ?_)
        · rw [if_pos q16] at h
          refine v_aload_n G dX6_what_46 rfl ?_
          refine v_iload_n G dX6_what_47 rfl ?_
          refine v_iload G dX6_what_48 rfl ?_
          refine v_iload G dX6_what_50 rfl ?_
          obtain ⟨q58, h⟩ := if_s h
          obtain ⟨v18, q17, h⟩ := bi_ h
          refine v_callV0 (e_X6_wrongPlace q17) G cl6 my_X6_wrongPlace rfl w346 w2 w344 dX6_what_52 q58 rfl (Nat.le_of_ble_eq_true rfl) rfl (Nat.le_of_ble_eq_true rfl) (Nat.zero_le _) (Nat.zero_le _) ?_
          refine v_istore [some (.ref x0), some (.int x1), some (.int x2), some (.int x3), some (.int x4), some (.int x5), some (.int v18)] G dX6_what_55 (Nat.le_of_ble_eq_true rfl) rfl rfl ?_
          refine v_iload G dX6_what_57 rfl ?_
          refine v_if_eq 69 G dX6_what_59 (by decide) (fun q19 => ?_) (fun q19 => ?_)
          · rw [if_pos q19] at h
            refine v_aload_n G dX6_what_69 rfl ?_
            obtain ⟨b20, q21, h⟩ := bi_ h
            refine v_getR (f := 5) G cl6 dX6_what_70 w296 (by decide) (by decide) q21 ?_
            refine v_aload_n G dX6_what_73 rfl ?_
            obtain ⟨b22, q23, h⟩ := bi_ h
            refine v_getR (f := 0) G cl6 dX6_what_74 w291 (by decide) (by decide) q23 ?_
            refine v_iload_n G dX6_what_77 rfl ?_
            obtain ⟨b25, q24, h⟩ := bi_ h
            refine v_aald3 G dX6_what_78 q24 ?_
            refine v_iload G dX6_what_79 rfl ?_
            refine v_iload G dX6_what_81 rfl ?_
            obtain ⟨q53, h⟩ := if_s h
            obtain ⟨M27, q26, h⟩ := bi_ h
            refine v_callV0 (e_X2_believe q26) G cl2 my_X2_believe rfl w708 w709 w707 dX6_what_83 q53 rfl (Nat.le_of_ble_eq_true rfl) rfl (Nat.le_of_ble_eq_true rfl) (Nat.zero_le _) (Nat.zero_le _) ?_
            refine v_aload_n G dX6_what_86 rfl ?_
            refine v_iload_n G dX6_what_87 rfl ?_
            refine v_if_ge 106 G dX6_what_88 (by decide) (fun q28 => ?_) (fun q28 => ?_)
            · rw [if_pos q28] at h
              refine v_aload_n G dX6_what_106 rfl ?_
              obtain ⟨b29, q30, h⟩ := bi_ h
              refine v_getR (f := 5) G cl6 dX6_what_107 w296 (by decide) (by decide) q30 ?_
              refine v_aload_n G dX6_what_110 rfl ?_
              obtain ⟨b31, q32, h⟩ := bi_ h
              refine v_getR (f := 1) G cl6 dX6_what_111 w292 (by decide) (by decide) q32 ?_
              refine v_iload_n G dX6_what_114 rfl ?_
              refine v_iload_n G dX6_what_115 rfl ?_
              obtain ⟨q40, h⟩ := if_s h
              obtain ⟨M34, v35, q33, h⟩ := bi2_ h
              refine v_callV0 (e_X2_subjectsThatFit q33) G cl2 my_X2_subjectsThatFit rfl w735 w736 w734 dX6_what_116 q40 rfl (Nat.le_of_ble_eq_true rfl) rfl (Nat.le_of_ble_eq_true rfl) (Nat.zero_le _) (Nat.zero_le _) ?_
              obtain ⟨q39, h⟩ := if_s h
              obtain ⟨M37, v38, q36, h⟩ := bi2_ h
              refine v_callV0 (e_X6_fine q36) G cl6 my_X6_fine rfl w338 w1 w336 dX6_what_119 q39 rfl (Nat.le_of_ble_eq_true rfl) rfl (Nat.le_of_ble_eq_true rfl) (Nat.zero_le _) (Nat.zero_le _) ?_
              cases h
              exact v_iret G F dX6_what_122 rfl (Nat.le_refl _)
            · rw [if_neg q28] at h
              refine v_aload_n G dX6_what_91 rfl ?_
              obtain ⟨b41, q42, h⟩ := bi_ h
              refine v_getR (f := 5) G cl6 dX6_what_92 w296 (by decide) (by decide) q42 ?_
              refine v_aload_n G dX6_what_95 rfl ?_
              obtain ⟨b43, q44, h⟩ := bi_ h
              refine v_getR (f := 1) G cl6 dX6_what_96 w292 (by decide) (by decide) q44 ?_
              refine v_iload_n G dX6_what_99 rfl ?_
              obtain ⟨q52, h⟩ := if_s h
              obtain ⟨M46, v47, q45, h⟩ := bi2_ h
              refine v_callV0 (e_X2_reachesThatFit q45) G cl2 my_X2_reachesThatFit rfl w731 w732 w730 dX6_what_100 q52 rfl (Nat.le_of_ble_eq_true rfl) rfl (Nat.le_of_ble_eq_true rfl) (Nat.zero_le _) (Nat.zero_le _) ?_
              refine v_goto 119 G dX6_what_103 (by decide) ?_
              obtain ⟨q51, h⟩ := if_s h
              obtain ⟨M49, v50, q48, h⟩ := bi2_ h
              refine v_callV0 (e_X6_fine q48) G cl6 my_X6_fine rfl w338 w1 w336 dX6_what_119 q51 rfl (Nat.le_of_ble_eq_true rfl) rfl (Nat.le_of_ble_eq_true rfl) (Nat.zero_le _) (Nat.zero_le _) ?_
              cases h
              exact v_iret G F dX6_what_122 rfl (Nat.le_refl _)
          · rw [if_neg q19] at h
            refine v_aload_n G dX6_what_62 rfl ?_
            refine v_iload G dX6_what_63 rfl ?_
            obtain ⟨q57, h⟩ := if_s h
            obtain ⟨M55, v56, q54, h⟩ := bi2_ h
            refine v_callV0 (e_X6_found q54) G cl6 my_X6_found rfl w329 w0 w327 dX6_what_65 q57 rfl (Nat.le_of_ble_eq_true rfl) rfl (Nat.le_of_ble_eq_true rfl) (Nat.zero_le _) (Nat.zero_le _) ?_
            cases h
            exact v_iret G F dX6_what_68 rfl (Nat.le_refl _)
        · rw [if_neg q16] at h
          refine v_ldc G (-1000001 : Int32) dX6_what_43 w326 ?_
          cases h
          exact v_iret G F dX6_what_45 rfl (Nat.le_refl _)
/-! X6_commonDivisor -/
def m_X6_commonDivisor_L3 {ρ : Type} (k0 : Int64 → Option ρ) (M : mM) : Nat → Int64 → Int64 → Int32 → Option ρ
  | 0, _, _, _ => none
  | n + 1, x0, x2, x4 =>
    if (60 : Int32) ≤ x4 then (
      k0 x0
    ) else (
      if (lg_cmp x2 (0 : Int64)) = (0 : Int32) then (
        k0 x0
      ) else (
        if x2 = (0 : Int64) then none else
        m_X6_commonDivisor_L3 k0 M n x2 (lr_ x0 x2) (x4 + (1 : Int32))
      )
    )
theorem e_X6_commonDivisor_L3 {X : xX} {Z : zZ} {cn sn : Nat} {ρ : Type} {r : ρ} {k0 : Int64 → Option ρ} (G : ok_ X Z yX6_commonDivisor cX6_commonDivisor 7 0 0 0) (hcn : cn ≤ 0) (hsn : sn ≤ 0) (M : mM)
    (hx0 : ∀ (z0 : Int64), k0 z0 = some r → V X Z M cn sn 32 [some (.long z0), none, none, none, none, none, none] []) :
    ∀ (n : Nat) (x0 : Int64) (x2 : Int64) (x4 : Int32), m_X6_commonDivisor_L3 k0 M n x0 x2 x4 = some r → V X Z M cn sn 3 [some (.long x0), none, some (.long x2), none, some (.int x4), none, none] [] := by
  intro n
  induction n with
  | zero => intro x0 x2 x4 h; rw [m_X6_commonDivisor_L3] at h; cases h
  | succ n ih =>
    intro x0 x2 x4 h
    rw [m_X6_commonDivisor_L3] at h
    refine v_iload G dX6_commonDivisor_3 rfl ?_
    refine v_bipush G (60 : Int32) dX6_commonDivisor_5 (by decide) ?_
    refine v_ic_ge 32 G dX6_commonDivisor_7 (by decide) (fun q1 => ?_) (fun q1 => ?_)
    · rw [if_pos q1] at h
      exact v_mask [true, false, false, false, false, false, false] rfl (hx0 _ h)
    · rw [if_neg q1] at h
      refine v_lload_n G dX6_commonDivisor_10 rfl ?_
      refine v_lconst G (0 : Int64) dX6_commonDivisor_11 (by decide) ?_
      refine v_lcmp G dX6_commonDivisor_12 ?_
      refine v_if_eq 32 G dX6_commonDivisor_13 (by decide) (fun q2 => ?_) (fun q2 => ?_)
      · rw [if_pos q2] at h
        exact v_mask [true, false, false, false, false, false, false] rfl (hx0 _ h)
      · rw [if_neg q2] at h
        refine v_lload_n G dX6_commonDivisor_16 rfl ?_
        refine v_lload_n G dX6_commonDivisor_17 rfl ?_
        obtain ⟨q3, h⟩ := in_ h
        refine v_lrem G dX6_commonDivisor_18 q3 ?_
        refine v_lstore [some (.long x0), none, some (.long x2), none, some (.int x4), some (.long (lr_ x0 x2)), none] G dX6_commonDivisor_19 (Nat.le_of_ble_eq_true rfl) rfl rfl ?_
        refine v_lload_n G dX6_commonDivisor_21 rfl ?_
        refine v_lstore_n [some (.long x2), none, some (.long x2), none, some (.int x4), some (.long (lr_ x0 x2)), none] G dX6_commonDivisor_22 (Nat.le_of_ble_eq_true rfl) rfl rfl ?_
        refine v_lload G dX6_commonDivisor_23 rfl ?_
        refine v_lstore_n [some (.long x2), none, some (.long (lr_ x0 x2)), none, some (.int x4), some (.long (lr_ x0 x2)), none] G dX6_commonDivisor_25 (Nat.le_of_ble_eq_true rfl) rfl rfl ?_
        refine v_iinc (x4 + (1 : Int32)) [some (.long x2), none, some (.long (lr_ x0 x2)), none, some (.int (x4 + (1 : Int32))), some (.long (lr_ x0 x2)), none] G dX6_commonDivisor_26 rfl rfl (Nat.le_of_ble_eq_true rfl) rfl rfl ?_
        refine v_goto 3 G dX6_commonDivisor_29 (by decide) ?_
        exact v_mask [true, false, true, false, true, false, false] rfl (ih _ _ _ h)
def m_X6_commonDivisor (M : mM) (x0 : Int64) (x2 : Int64) : Option Int64 :=
  m_X6_commonDivisor_L3
    (fun v4 =>
      some v4)
    M FU x0 x2 (0 : Int32)
theorem e_X6_commonDivisor {Z : zZ} {M : mM} {x0 : Int64} {x2 : Int64} {r : Int64} (h : m_X6_commonDivisor M x0 x2 = some r) : EM Z yX6_commonDivisor cX6_commonDivisor 7 (some .long) 0 0 0 [.long x0, .long x2] M M (some (.long r)) := by
  refine EM_of my_X6_commonDivisor (Nat.le_of_ble_eq_true rfl) (fun X G F => ?_)
  show V X Z M 0 0 0 [some (.long x0), none, some (.long x2), none, none, none, none] []
  unfold m_X6_commonDivisor at h
  refine v_iconst G (0 : Int32) dX6_commonDivisor_0 (by decide) ?_
  refine v_istore [some (.long x0), none, some (.long x2), none, some (.int (0 : Int32)), none, none] G dX6_commonDivisor_1 (Nat.le_of_ble_eq_true rfl) rfl rfl ?_
  refine v_mask [true, false, true, false, true, false, false] rfl ?_
  refine e_X6_commonDivisor_L3 G (Nat.zero_le _) (Nat.zero_le _) _ (fun v4 h => ?_) FU _ _ _ h
  refine v_lload_n G dX6_commonDivisor_32 rfl ?_
  cases h
  exact v_lret G F dX6_commonDivisor_33 rfl (Nat.le_refl _)
/-! X6_thought -/
def m_X6_thought (M : mM) (x0 : Nat) (x1 : Int32) (x2 : Int32) (x3 : Int32) (x4 : Int32) (x5 : Int32) : Option (mM × Int64) :=
  if isO M x0 6 = true then
  (m_X6_noPupil M x0 x1).bind fun v2 =>
  if v2 = (0 : Int32) then (
    if isO M x0 6 = true then
    (m_X6_noSubject M x0 x2).bind fun v5 =>
    if v5 = (0 : Int32) then (
      (m_X6_outside M x3 (0 : Int32) (8 : Int32)).bind fun v8 =>
      if v8 = (0 : Int32) then (
        (m_X6_outside M x4 (0 : Int32) (10 : Int32)).bind fun v11 =>
        if v11 = (0 : Int32) then (
          (m_X6_outside M x5 (0 : Int32) (1 : Int32)).bind fun v14 =>
          if v14 = (0 : Int32) then (
            (gR M x0 6 5).bind fun b16 =>
            (gR M x0 6 1).bind fun b18 =>
            if isO M b16 2 = true then
            bd2 (m_X2_casesKnown M b16 b18 x1 x2 x3 x4) fun M21 v22 =>
            (m_X6_power M21 (10 : Int64) x3).bind fun v24 =>
            (m_X6_commonDivisor M21 v22 v24).bind fun v26 =>
            if (0 : Int32) ≤ (lg_cmp v26 (1 : Int64)) then (
              if x5 = (0 : Int32) then (
                if v26 = (0 : Int64) then none else
                some (M21, (v22 / v26))
              ) else (
                if v26 = (0 : Int64) then none else
                some (M21, (v24 / v26))
              )
            ) else (
              some (M21, (-1000001 : Int64))
            )
            else none
          ) else (
            some (M, (-1000001 : Int64))
          )
        ) else (
          some (M, (-1000001 : Int64))
        )
      ) else (
        some (M, (-1000001 : Int64))
      )
    ) else (
      some (M, (-1000001 : Int64))
    )
    else none
  ) else (
    some (M, (-1000001 : Int64))
  )
  else none
theorem e_X6_thought {Z : zZ} {M : mM} {N : mM} {x0 : Nat} {x1 : Int32} {x2 : Int32} {x3 : Int32} {x4 : Int32} {x5 : Int32} {r : Int64} (h : m_X6_thought M x0 x1 x2 x3 x4 x5 = some (N, r)) : EM Z yX6_thought cX6_thought 12 (some .long) 7 0 0 [.ref x0, .int x1, .int x2, .int x3, .int x4, .int x5] M N (some (.long r)) := by
  refine EM_of my_X6_thought (Nat.le_of_ble_eq_true rfl) (fun X G F => ?_)
  show V X Z M 0 0 0 [some (.ref x0), some (.int x1), some (.int x2), some (.int x3), some (.int x4), some (.int x5), none, none, none, none, none, none] []
  unfold m_X6_thought at h
  refine v_aload_n G dX6_thought_0 rfl ?_
  refine v_iload_n G dX6_thought_1 rfl ?_
  obtain ⟨q33, h⟩ := if_s h
  obtain ⟨v2, q1, h⟩ := bi_ h
  refine v_callV0 (e_X6_noPupil q1) G cl6 my_X6_noPupil rfl w512 w13 w510 dX6_thought_2 q33 rfl (Nat.le_of_ble_eq_true rfl) rfl (Nat.le_of_ble_eq_true rfl) (Nat.zero_le _) (Nat.zero_le _) ?_
  refine v_if_ne 47 G dX6_thought_5 (by decide) (fun q3 => ?_) (fun q3 => ?_)
  · rw [if_neg q3] at h
    refine v_ldc2 G (-1000001 : Int64) dX6_thought_47 w742 ?_
    cases h
    exact v_lret G F dX6_thought_50 rfl (Nat.le_refl _)
  · rw [if_pos q3] at h
    refine v_aload_n G dX6_thought_8 rfl ?_
    refine v_iload_n G dX6_thought_9 rfl ?_
    obtain ⟨q32, h⟩ := if_s h
    obtain ⟨v5, q4, h⟩ := bi_ h
    refine v_callV0 (e_X6_noSubject q4) G cl6 my_X6_noSubject rfl w532 w15 w530 dX6_thought_10 q32 rfl (Nat.le_of_ble_eq_true rfl) rfl (Nat.le_of_ble_eq_true rfl) (Nat.zero_le _) (Nat.zero_le _) ?_
    refine v_if_ne 47 G dX6_thought_13 (by decide) (fun q6 => ?_) (fun q6 => ?_)
    · rw [if_neg q6] at h
      refine v_ldc2 G (-1000001 : Int64) dX6_thought_47 w742 ?_
      cases h
      exact v_lret G F dX6_thought_50 rfl (Nat.le_refl _)
    · rw [if_pos q6] at h
      refine v_iload_n G dX6_thought_16 rfl ?_
      refine v_iconst G (0 : Int32) dX6_thought_17 (by decide) ?_
      refine v_bipush G (8 : Int32) dX6_thought_18 (by decide) ?_
      obtain ⟨v8, q7, h⟩ := bi_ h
      refine v_callS0 (e_X6_outside q7) G my_X6_outside w324 w323 dX6_thought_20 rfl (Nat.le_of_ble_eq_true rfl) rfl (Nat.le_of_ble_eq_true rfl) (Nat.zero_le _) (Nat.zero_le _) ?_
      refine v_if_ne 47 G dX6_thought_23 (by decide) (fun q9 => ?_) (fun q9 => ?_)
      · rw [if_neg q9] at h
        refine v_ldc2 G (-1000001 : Int64) dX6_thought_47 w742 ?_
        cases h
        exact v_lret G F dX6_thought_50 rfl (Nat.le_refl _)
      · rw [if_pos q9] at h
        refine v_iload G dX6_thought_26 rfl ?_
        refine v_iconst G (0 : Int32) dX6_thought_28 (by decide) ?_
        refine v_bipush G (10 : Int32) dX6_thought_29 (by decide) ?_
        obtain ⟨v11, q10, h⟩ := bi_ h
        refine v_callS0 (e_X6_outside q10) G my_X6_outside w324 w323 dX6_thought_31 rfl (Nat.le_of_ble_eq_true rfl) rfl (Nat.le_of_ble_eq_true rfl) (Nat.zero_le _) (Nat.zero_le _) ?_
        refine v_if_ne 47 G dX6_thought_34 (by decide) (fun q12 => ?_) (fun q12 => ?_)
        · rw [if_neg q12] at h
          refine v_ldc2 G (-1000001 : Int64) dX6_thought_47 w742 ?_
          cases h
          exact v_lret G F dX6_thought_50 rfl (Nat.le_refl _)
        · rw [if_pos q12] at h
          refine v_iload G dX6_thought_37 rfl ?_
          refine v_iconst G (0 : Int32) dX6_thought_39 (by decide) ?_
          refine v_iconst G (1 : Int32) dX6_thought_40 (by decide) ?_
          obtain ⟨v14, q13, h⟩ := bi_ h
          refine v_callS0 (e_X6_outside q13) G my_X6_outside w324 w323 dX6_thought_41 rfl (Nat.le_of_ble_eq_true rfl) rfl (Nat.le_of_ble_eq_true rfl) (Nat.zero_le _) (Nat.zero_le _) ?_
          refine v_if_eq 51 G dX6_thought_44 (by decide) (fun q15 => ?_) (fun q15 => ?_)
          · rw [if_pos q15] at h
            refine v_aload_n G dX6_thought_51 rfl ?_
            obtain ⟨b16, q17, h⟩ := bi_ h
            refine v_getR (f := 5) G cl6 dX6_thought_52 w296 (by decide) (by decide) q17 ?_
            refine v_aload_n G dX6_thought_55 rfl ?_
            obtain ⟨b18, q19, h⟩ := bi_ h
            refine v_getR (f := 1) G cl6 dX6_thought_56 w292 (by decide) (by decide) q19 ?_
            refine v_iload_n G dX6_thought_59 rfl ?_
            refine v_iload_n G dX6_thought_60 rfl ?_
            refine v_iload_n G dX6_thought_61 rfl ?_
            refine v_iload G dX6_thought_62 rfl ?_
            obtain ⟨q31, h⟩ := if_s h
            obtain ⟨M21, v22, q20, h⟩ := bi2_ h
            refine v_callV0 (e_X2_casesKnown q20) G cl2 my_X2_casesKnown rfl w744 w745 w743 dX6_thought_64 q31 rfl (Nat.le_of_ble_eq_true rfl) rfl (Nat.le_of_ble_eq_true rfl) (Nat.zero_le _) (Nat.zero_le _) ?_
            refine v_lstore [some (.ref x0), some (.int x1), some (.int x2), some (.int x3), some (.int x4), some (.int x5), some (.long v22), none, none, none, none, none] G dX6_thought_67 (Nat.le_of_ble_eq_true rfl) rfl rfl ?_
            refine v_ldc2 G (10 : Int64) dX6_thought_69 w755 ?_
            refine v_iload_n G dX6_thought_72 rfl ?_
            obtain ⟨v24, q23, h⟩ := bi_ h
            refine v_callS0 (e_X6_power q23) G my_X6_power w749 w756 dX6_thought_73 rfl (Nat.le_of_ble_eq_true rfl) rfl (Nat.le_of_ble_eq_true rfl) (Nat.zero_le _) (Nat.zero_le _) ?_
            refine v_lstore [some (.ref x0), some (.int x1), some (.int x2), some (.int x3), some (.int x4), some (.int x5), some (.long v22), none, some (.long v24), none, none, none] G dX6_thought_76 (Nat.le_of_ble_eq_true rfl) rfl rfl ?_
            refine v_lload G dX6_thought_78 rfl ?_
            refine v_lload G dX6_thought_80 rfl ?_
            obtain ⟨v26, q25, h⟩ := bi_ h
            refine v_callS0 (e_X6_commonDivisor q25) G my_X6_commonDivisor w758 w757 dX6_thought_82 rfl (Nat.le_of_ble_eq_true rfl) rfl (Nat.le_of_ble_eq_true rfl) (Nat.zero_le _) (Nat.zero_le _) ?_
            refine v_lstore [some (.ref x0), some (.int x1), some (.int x2), some (.int x3), some (.int x4), some (.int x5), some (.long v22), none, some (.long v24), none, some (.long v26), none] G dX6_thought_85 (Nat.le_of_ble_eq_true rfl) rfl rfl ?_
            refine v_lload G dX6_thought_87 rfl ?_
            refine v_lconst G (1 : Int64) dX6_thought_89 (by decide) ?_
            refine v_lcmp G dX6_thought_90 ?_
            refine v_if_ge 100 G dX6_thought_91 (by decide) (fun q27 => ?_) (fun q27 => ?_)
            · rw [if_pos q27] at h
              refine v_iload G dX6_thought_100 rfl ?_
              refine v_if_ne 110 G dX6_thought_102 (by decide) (fun q28 => ?_) (fun q28 => ?_)
              · rw [if_neg q28] at h
                refine v_lload G dX6_thought_110 rfl ?_
                refine v_lload G dX6_thought_112 rfl ?_
                obtain ⟨q29, h⟩ := in_ h
                refine v_ldiv G dX6_thought_114 q29 ?_
                cases h
                exact v_lret G F dX6_thought_115 rfl (Nat.le_refl _)
              · rw [if_pos q28] at h
                refine v_lload G dX6_thought_105 rfl ?_
                refine v_goto 112 G dX6_thought_107 (by decide) ?_
                refine v_lload G dX6_thought_112 rfl ?_
                obtain ⟨q30, h⟩ := in_ h
                refine v_ldiv G dX6_thought_114 q30 ?_
                cases h
                exact v_lret G F dX6_thought_115 rfl (Nat.le_refl _)
            · rw [if_neg q27] at h
              refine v_ldc2 G (-1000001 : Int64) dX6_thought_94 w742 ?_
              refine v_goto 115 G dX6_thought_97 (by decide) ?_
              cases h
              exact v_lret G F dX6_thought_115 rfl (Nat.le_refl _)
          · rw [if_neg q15] at h
            refine v_ldc2 G (-1000001 : Int64) dX6_thought_47 w742 ?_
            cases h
            exact v_lret G F dX6_thought_50 rfl (Nat.le_refl _)
/-! X6_drawn -/
def m_X6_drawn (M : mM) (x0 : Nat) (x1 : Int32) (x2 : Int32) (x3 : Int32) : Option (mM × Int32) :=
  if isO M x0 6 = true then
  (m_X6_noSchool M x0).bind fun v2 =>
  if v2 = (0 : Int32) then (
    (m_X6_outside M x1 (0 : Int32) (60 : Int32)).bind fun v5 =>
    if v5 = (0 : Int32) then (
      (m_X6_outside M x2 (1 : Int32) (999999 : Int32)).bind fun v8 =>
      if v8 = (0 : Int32) then (
        (m_X6_outside M x3 (0 : Int32) (1 : Int32)).bind fun v11 =>
        if v11 = (0 : Int32) then (
          (gR M x0 6 5).bind fun b13 =>
          (gR M x0 6 1).bind fun b15 =>
          if isO M b13 2 = true then
          bd2 (m_X2_afterDraws M b13 b15 x1 x2) fun M18 b19 =>
          if x3 = (0 : Int32) then (
            if isO M18 b19 5 = true then
            (m_X5_known M18 b19).bind fun v25 =>
            some (M18, v25)
            else none
          ) else (
            if isO M18 b19 5 = true then
            (m_X5_knownByAll M18 b19).bind fun v22 =>
            some (M18, v22)
            else none
          )
          else none
        ) else (
          some (M, (-1000001 : Int32))
        )
      ) else (
        some (M, (-1000001 : Int32))
      )
    ) else (
      some (M, (-1000001 : Int32))
    )
  ) else (
    some (M, (-1000002 : Int32))
  )
  else none
theorem e_X6_drawn {Z : zZ} {M : mM} {N : mM} {x0 : Nat} {x1 : Int32} {x2 : Int32} {x3 : Int32} {r : Int32} (h : m_X6_drawn M x0 x1 x2 x3 = some (N, r)) : EM Z yX6_drawn cX6_drawn 5 (some .int) 6 0 0 [.ref x0, .int x1, .int x2, .int x3] M N (some (.int r)) := by
  refine EM_of my_X6_drawn (Nat.le_of_ble_eq_true rfl) (fun X G F => ?_)
  show V X Z M 0 0 0 [some (.ref x0), some (.int x1), some (.int x2), some (.int x3), none] []
  unfold m_X6_drawn at h
  refine v_aload_n G dX6_drawn_0 rfl ?_
  obtain ⟨q28, h⟩ := if_s h
  obtain ⟨v2, q1, h⟩ := bi_ h
  refine v_callV0 (e_X6_noSchool q1) G cl6 my_X6_noSchool rfl w447 w9 w445 dX6_drawn_1 q28 rfl (Nat.le_of_ble_eq_true rfl) rfl (Nat.le_of_ble_eq_true rfl) (Nat.zero_le _) (Nat.zero_le _) ?_
  refine v_if_eq 10 G dX6_drawn_4 (by decide) (fun q3 => ?_) (fun q3 => ?_)
  · rw [if_pos q3] at h
    refine v_iload_n G dX6_drawn_10 rfl ?_
    refine v_iconst G (0 : Int32) dX6_drawn_11 (by decide) ?_
    refine v_bipush G (60 : Int32) dX6_drawn_12 (by decide) ?_
    obtain ⟨v5, q4, h⟩ := bi_ h
    refine v_callS0 (e_X6_outside q4) G my_X6_outside w324 w323 dX6_drawn_14 rfl (Nat.le_of_ble_eq_true rfl) rfl (Nat.le_of_ble_eq_true rfl) (Nat.zero_le _) (Nat.zero_le _) ?_
    refine v_if_ne 40 G dX6_drawn_17 (by decide) (fun q6 => ?_) (fun q6 => ?_)
    · rw [if_neg q6] at h
      refine v_ldc G (-1000001 : Int32) dX6_drawn_40 w326 ?_
      cases h
      exact v_iret G F dX6_drawn_42 rfl (Nat.le_refl _)
    · rw [if_pos q6] at h
      refine v_iload_n G dX6_drawn_20 rfl ?_
      refine v_iconst G (1 : Int32) dX6_drawn_21 (by decide) ?_
      refine v_ldcw G (999999 : Int32) dX6_drawn_22 w764 ?_
      obtain ⟨v8, q7, h⟩ := bi_ h
      refine v_callS0 (e_X6_outside q7) G my_X6_outside w324 w323 dX6_drawn_25 rfl (Nat.le_of_ble_eq_true rfl) rfl (Nat.le_of_ble_eq_true rfl) (Nat.zero_le _) (Nat.zero_le _) ?_
      refine v_if_ne 40 G dX6_drawn_28 (by decide) (fun q9 => ?_) (fun q9 => ?_)
      · rw [if_neg q9] at h
        refine v_ldc G (-1000001 : Int32) dX6_drawn_40 w326 ?_
        cases h
        exact v_iret G F dX6_drawn_42 rfl (Nat.le_refl _)
      · rw [if_pos q9] at h
        refine v_iload_n G dX6_drawn_31 rfl ?_
        refine v_iconst G (0 : Int32) dX6_drawn_32 (by decide) ?_
        refine v_iconst G (1 : Int32) dX6_drawn_33 (by decide) ?_
        obtain ⟨v11, q10, h⟩ := bi_ h
        refine v_callS0 (e_X6_outside q10) G my_X6_outside w324 w323 dX6_drawn_34 rfl (Nat.le_of_ble_eq_true rfl) rfl (Nat.le_of_ble_eq_true rfl) (Nat.zero_le _) (Nat.zero_le _) ?_
        refine v_if_eq 43 G dX6_drawn_37 (by decide) (fun q12 => ?_) (fun q12 => ?_)
        · rw [if_pos q12] at h
          refine v_aload_n G dX6_drawn_43 rfl ?_
          obtain ⟨b13, q14, h⟩ := bi_ h
          refine v_getR (f := 5) G cl6 dX6_drawn_44 w296 (by decide) (by decide) q14 ?_
          refine v_aload_n G dX6_drawn_47 rfl ?_
          obtain ⟨b15, q16, h⟩ := bi_ h
          refine v_getR (f := 1) G cl6 dX6_drawn_48 w292 (by decide) (by decide) q16 ?_
          refine v_iload_n G dX6_drawn_51 rfl ?_
          refine v_iload_n G dX6_drawn_52 rfl ?_
          obtain ⟨q27, h⟩ := if_s h
          obtain ⟨M18, b19, q17, h⟩ := bi2_ h
          refine v_callV0 (e_X2_afterDraws q17) G cl2 my_X2_afterDraws rfl w766 w767 w765 dX6_drawn_53 q27 rfl (Nat.le_of_ble_eq_true rfl) rfl (Nat.le_of_ble_eq_true rfl) (Nat.zero_le _) (Nat.zero_le _) ?_
          refine v_astore [some (.ref x0), some (.int x1), some (.int x2), some (.int x3), some (.ref b19)] G dX6_drawn_56 (Nat.le_of_ble_eq_true rfl) rfl rfl ?_
          refine v_iload_n G dX6_drawn_58 rfl ?_
          refine v_if_ne 70 G dX6_drawn_59 (by decide) (fun q20 => ?_) (fun q20 => ?_)
          · rw [if_neg q20] at h
            refine v_aload G dX6_drawn_70 rfl ?_
            obtain ⟨q23, h⟩ := if_s h
            obtain ⟨v22, q21, h⟩ := bi_ h
            refine v_callV0 (e_X5_knownByAll q21) G cl5 my_X5_knownByAll rfl w596 w597 w595 dX6_drawn_72 q23 rfl (Nat.le_of_ble_eq_true rfl) rfl (Nat.le_of_ble_eq_true rfl) (Nat.zero_le _) (Nat.zero_le _) ?_
            cases h
            exact v_iret G F dX6_drawn_75 rfl (Nat.le_refl _)
          · rw [if_pos q20] at h
            refine v_aload G dX6_drawn_62 rfl ?_
            obtain ⟨q26, h⟩ := if_s h
            obtain ⟨v25, q24, h⟩ := bi_ h
            refine v_callV0 (e_X5_known q24) G cl5 my_X5_known rfl w503 w504 w502 dX6_drawn_64 q26 rfl (Nat.le_of_ble_eq_true rfl) rfl (Nat.le_of_ble_eq_true rfl) (Nat.zero_le _) (Nat.zero_le _) ?_
            refine v_goto 75 G dX6_drawn_67 (by decide) ?_
            cases h
            exact v_iret G F dX6_drawn_75 rfl (Nat.le_refl _)
        · rw [if_neg q12] at h
          refine v_ldc G (-1000001 : Int32) dX6_drawn_40 w326 ?_
          cases h
          exact v_iret G F dX6_drawn_42 rfl (Nat.le_refl _)
  · rw [if_neg q3] at h
    refine v_ldc G (-1000002 : Int32) dX6_drawn_7 w440 ?_
    cases h
    exact v_iret G F dX6_drawn_9 rfl (Nat.le_refl _)
/-! X6_image -/
def m_X6_image (M : mM) (x0 : Nat) (x1 : Int32) : Option (mM × Int32) :=
  (m_X6_outside M x1 (0 : Int32) (1 : Int32)).bind fun v2 =>
  if v2 = (0 : Int32) then (
    if isO M x0 6 = true then
    (m_X6_noSchool M x0).bind fun v5 =>
    if v5 = (0 : Int32) then (
      (gR M x0 6 2).bind fun b7 =>
      (ldR M b7 4 x1).bind fun b10 =>
      (gR M x0 6 1).bind fun b11 =>
      if isO M b10 5 = true then
      (m_X5_become M b10 b11).bind fun M14 =>
      some (M14, (1 : Int32))
      else none
    ) else (
      some (M, (-1000002 : Int32))
    )
    else none
  ) else (
    some (M, (-1000001 : Int32))
  )
theorem e_X6_image {Z : zZ} {M : mM} {N : mM} {x0 : Nat} {x1 : Int32} {r : Int32} (h : m_X6_image M x0 x1 = some (N, r)) : EM Z yX6_image cX6_image 2 (some .int) 2 0 0 [.ref x0, .int x1] M N (some (.int r)) := by
  refine EM_of my_X6_image (Nat.le_of_ble_eq_true rfl) (fun X G F => ?_)
  show V X Z M 0 0 0 [some (.ref x0), some (.int x1)] []
  unfold m_X6_image at h
  refine v_iload_n G dX6_image_0 rfl ?_
  refine v_iconst G (0 : Int32) dX6_image_1 (by decide) ?_
  refine v_iconst G (1 : Int32) dX6_image_2 (by decide) ?_
  obtain ⟨v2, q1, h⟩ := bi_ h
  refine v_callS0 (e_X6_outside q1) G my_X6_outside w324 w323 dX6_image_3 rfl (Nat.le_of_ble_eq_true rfl) rfl (Nat.le_of_ble_eq_true rfl) (Nat.zero_le _) (Nat.zero_le _) ?_
  refine v_if_eq 12 G dX6_image_6 (by decide) (fun q3 => ?_) (fun q3 => ?_)
  · rw [if_pos q3] at h
    refine v_aload_n G dX6_image_12 rfl ?_
    obtain ⟨q16, h⟩ := if_s h
    obtain ⟨v5, q4, h⟩ := bi_ h
    refine v_callV0 (e_X6_noSchool q4) G cl6 my_X6_noSchool rfl w447 w9 w445 dX6_image_13 q16 rfl (Nat.le_of_ble_eq_true rfl) rfl (Nat.le_of_ble_eq_true rfl) (Nat.zero_le _) (Nat.zero_le _) ?_
    refine v_if_eq 22 G dX6_image_16 (by decide) (fun q6 => ?_) (fun q6 => ?_)
    · rw [if_pos q6] at h
      refine v_aload_n G dX6_image_22 rfl ?_
      obtain ⟨b7, q8, h⟩ := bi_ h
      refine v_getR (f := 2) G cl6 dX6_image_23 w293 (by decide) (by decide) q8 ?_
      refine v_iload_n G dX6_image_26 rfl ?_
      obtain ⟨b10, q9, h⟩ := bi_ h
      refine v_aald4 G dX6_image_27 q9 ?_
      refine v_aload_n G dX6_image_28 rfl ?_
      obtain ⟨b11, q12, h⟩ := bi_ h
      refine v_getR (f := 1) G cl6 dX6_image_29 w292 (by decide) (by decide) q12 ?_
      obtain ⟨q15, h⟩ := if_s h
      obtain ⟨M14, q13, h⟩ := bi_ h
      refine v_callV0 (e_X5_become q13) G cl5 my_X5_become rfl w423 w424 w422 dX6_image_32 q15 rfl (Nat.le_of_ble_eq_true rfl) rfl (Nat.le_of_ble_eq_true rfl) (Nat.zero_le _) (Nat.zero_le _) ?_
      refine v_iconst G (1 : Int32) dX6_image_35 (by decide) ?_
      cases h
      exact v_iret G F dX6_image_36 rfl (Nat.le_refl _)
    · rw [if_neg q6] at h
      refine v_ldc G (-1000002 : Int32) dX6_image_19 w440 ?_
      cases h
      exact v_iret G F dX6_image_21 rfl (Nat.le_refl _)
  · rw [if_neg q3] at h
    refine v_ldc G (-1000001 : Int32) dX6_image_9 w326 ?_
    cases h
    exact v_iret G F dX6_image_11 rfl (Nat.le_refl _)
/-! X6_restore -/
def m_X6_restore (M : mM) (x0 : Nat) (x1 : Int32) : Option (mM × Int32) :=
  (m_X6_outside M x1 (0 : Int32) (1 : Int32)).bind fun v2 =>
  if v2 = (0 : Int32) then (
    (gR M x0 6 2).bind fun b4 =>
    (ldR M b4 4 x1).bind fun b7 =>
    (gI M b7 5 3).bind fun v8 =>
    if v8 = (0 : Int32) then (
      some (M, (-1000002 : Int32))
    ) else (
      (gR M x0 6 1).bind fun b11 =>
      (gR M x0 6 2).bind fun b13 =>
      (ldR M b13 4 x1).bind fun b16 =>
      if isO M b11 5 = true then
      (m_X5_become M b11 b16).bind fun M18 =>
      (gR M18 x0 6 3).bind fun b19 =>
      (pI M18 b19 0 2 (0 : Int32)).bind fun M21 =>
      some (M21, (1 : Int32))
      else none
    )
  ) else (
    some (M, (-1000001 : Int32))
  )
theorem e_X6_restore {Z : zZ} {M : mM} {N : mM} {x0 : Nat} {x1 : Int32} {r : Int32} (h : m_X6_restore M x0 x1 = some (N, r)) : EM Z yX6_restore cX6_restore 2 (some .int) 2 0 0 [.ref x0, .int x1] M N (some (.int r)) := by
  refine EM_of my_X6_restore (Nat.le_of_ble_eq_true rfl) (fun X G F => ?_)
  show V X Z M 0 0 0 [some (.ref x0), some (.int x1)] []
  unfold m_X6_restore at h
  refine v_iload_n G dX6_restore_0 rfl ?_
  refine v_iconst G (0 : Int32) dX6_restore_1 (by decide) ?_
  refine v_iconst G (1 : Int32) dX6_restore_2 (by decide) ?_
  obtain ⟨v2, q1, h⟩ := bi_ h
  refine v_callS0 (e_X6_outside q1) G my_X6_outside w324 w323 dX6_restore_3 rfl (Nat.le_of_ble_eq_true rfl) rfl (Nat.le_of_ble_eq_true rfl) (Nat.zero_le _) (Nat.zero_le _) ?_
  refine v_if_eq 12 G dX6_restore_6 (by decide) (fun q3 => ?_) (fun q3 => ?_)
  · rw [if_pos q3] at h
    refine v_aload_n G dX6_restore_12 rfl ?_
    obtain ⟨b4, q5, h⟩ := bi_ h
    refine v_getR (f := 2) G cl6 dX6_restore_13 w293 (by decide) (by decide) q5 ?_
    refine v_iload_n G dX6_restore_16 rfl ?_
    obtain ⟨b7, q6, h⟩ := bi_ h
    refine v_aald4 G dX6_restore_17 q6 ?_
    obtain ⟨v8, q9, h⟩ := bi_ h
    refine v_getI (f := 3) G cl5 dX6_restore_18 w98 (by decide) (by decide) q9 ?_
    refine v_if_ne 27 G dX6_restore_21 (by decide) (fun q10 => ?_) (fun q10 => ?_)
    · rw [if_neg q10] at h
      refine v_aload_n G dX6_restore_27 rfl ?_
      obtain ⟨b11, q12, h⟩ := bi_ h
      refine v_getR (f := 1) G cl6 dX6_restore_28 w292 (by decide) (by decide) q12 ?_
      refine v_aload_n G dX6_restore_31 rfl ?_
      obtain ⟨b13, q14, h⟩ := bi_ h
      refine v_getR (f := 2) G cl6 dX6_restore_32 w293 (by decide) (by decide) q14 ?_
      refine v_iload_n G dX6_restore_35 rfl ?_
      obtain ⟨b16, q15, h⟩ := bi_ h
      refine v_aald4 G dX6_restore_36 q15 ?_
      obtain ⟨q23, h⟩ := if_s h
      obtain ⟨M18, q17, h⟩ := bi_ h
      refine v_callV0 (e_X5_become q17) G cl5 my_X5_become rfl w423 w424 w422 dX6_restore_37 q23 rfl (Nat.le_of_ble_eq_true rfl) rfl (Nat.le_of_ble_eq_true rfl) (Nat.zero_le _) (Nat.zero_le _) ?_
      refine v_aload_n G dX6_restore_40 rfl ?_
      obtain ⟨b19, q20, h⟩ := bi_ h
      refine v_getR (f := 3) G cl6 dX6_restore_41 w294 (by decide) (by decide) q20 ?_
      refine v_iconst G (0 : Int32) dX6_restore_44 (by decide) ?_
      obtain ⟨M21, q22, h⟩ := bi_ h
      refine v_putI (f := 2) G cl0 dX6_restore_45 w158 (by decide) (by decide) (by decide) rfl rfl q22 ?_
      refine v_iconst G (1 : Int32) dX6_restore_48 (by decide) ?_
      cases h
      exact v_iret G F dX6_restore_49 rfl (Nat.le_refl _)
    · rw [if_pos q10] at h
      refine v_ldc G (-1000002 : Int32) dX6_restore_24 w440 ?_
      cases h
      exact v_iret G F dX6_restore_26 rfl (Nat.le_refl _)
  · rw [if_neg q3] at h
    refine v_ldc G (-1000001 : Int32) dX6_restore_9 w326 ?_
    cases h
    exact v_iret G F dX6_restore_11 rfl (Nat.le_refl _)
/-! X6_kind -/
def m_X6_kind (M : mM) (x0 : Nat) (x1 : Int32) : Option Int32 :=
  if isO M x0 6 = true then
  (m_X6_noPupil M x0 x1).bind fun v2 =>
  if v2 = (0 : Int32) then (
    (gR M x0 6 1).bind fun b4 =>
    (gR M b4 5 7).bind fun b6 =>
    (ldI M b6 x1).bind fun v9 =>
    some v9
  ) else (
    some (-1000001 : Int32)
  )
  else none
theorem e_X6_kind {Z : zZ} {M : mM} {x0 : Nat} {x1 : Int32} {r : Int32} (h : m_X6_kind M x0 x1 = some r) : EM Z yX6_kind cX6_kind 2 (some .int) 2 0 0 [.ref x0, .int x1] M M (some (.int r)) := by
  refine EM_of my_X6_kind (Nat.le_of_ble_eq_true rfl) (fun X G F => ?_)
  show V X Z M 0 0 0 [some (.ref x0), some (.int x1)] []
  unfold m_X6_kind at h
  refine v_aload_n G dX6_kind_0 rfl ?_
  refine v_iload_n G dX6_kind_1 rfl ?_
  obtain ⟨q10, h⟩ := if_s h
  obtain ⟨v2, q1, h⟩ := bi_ h
  refine v_callV0 (e_X6_noPupil q1) G cl6 my_X6_noPupil rfl w512 w13 w510 dX6_kind_2 q10 rfl (Nat.le_of_ble_eq_true rfl) rfl (Nat.le_of_ble_eq_true rfl) (Nat.zero_le _) (Nat.zero_le _) ?_
  refine v_if_eq 13 G dX6_kind_5 (by decide) (fun q3 => ?_) (fun q3 => ?_)
  · rw [if_pos q3] at h
    refine v_aload_n G dX6_kind_13 rfl ?_
    obtain ⟨b4, q5, h⟩ := bi_ h
    refine v_getR (f := 1) G cl6 dX6_kind_14 w292 (by decide) (by decide) q5 ?_
    obtain ⟨b6, q7, h⟩ := bi_ h
    refine v_getR (f := 7) G cl5 dX6_kind_17 w114 (by decide) (by decide) q7 ?_
    refine v_iload_n G dX6_kind_20 rfl ?_
    obtain ⟨v9, q8, h⟩ := bi_ h
    refine v_iald G dX6_kind_21 q8 ?_
    cases h
    exact v_iret G F dX6_kind_22 rfl (Nat.le_refl _)
  · rw [if_neg q3] at h
    refine v_ldc G (-1000001 : Int32) dX6_kind_8 w326 ?_
    refine v_goto 22 G dX6_kind_10 (by decide) ?_
    cases h
    exact v_iret G F dX6_kind_22 rfl (Nat.le_refl _)
/-! X6_as -/
def m_X6_as (M : mM) (x0 : Nat) (x1 : Int32) (x2 : Int32) : Option (mM × Int32) :=
  if isO M x0 6 = true then
  (m_X6_noPupil M x0 x1).bind fun v2 =>
  if v2 = (0 : Int32) then (
    (m_X6_outside M x2 (0 : Int32) (5 : Int32)).bind fun v5 =>
    if v5 = (0 : Int32) then (
      (gR M x0 6 1).bind fun b7 =>
      (gR M b7 5 7).bind fun b9 =>
      (ldI M b9 x1).bind fun v12 =>
      (m_X6_isKind M v12 x2).bind fun v14 =>
      if v14 = (0 : Int32) then (
        if isO M x0 6 = true then
        bd2 (m_X6_found M x0 (3 : Int32)) fun M17 v18 =>
        some (M17, v18)
        else none
      ) else (
        if isO M x0 6 = true then
        bd2 (m_X6_fine M x0 x1) fun M21 v22 =>
        some (M21, v22)
        else none
      )
    ) else (
      some (M, (-1000001 : Int32))
    )
  ) else (
    some (M, (-1000001 : Int32))
  )
  else none
theorem e_X6_as {Z : zZ} {M : mM} {N : mM} {x0 : Nat} {x1 : Int32} {x2 : Int32} {r : Int32} (h : m_X6_as M x0 x1 x2 = some (N, r)) : EM Z yX6_as cX6_as 3 (some .int) 2 0 0 [.ref x0, .int x1, .int x2] M N (some (.int r)) := by
  refine EM_of my_X6_as (Nat.le_of_ble_eq_true rfl) (fun X G F => ?_)
  show V X Z M 0 0 0 [some (.ref x0), some (.int x1), some (.int x2)] []
  unfold m_X6_as at h
  refine v_aload_n G dX6_as_0 rfl ?_
  refine v_iload_n G dX6_as_1 rfl ?_
  obtain ⟨q24, h⟩ := if_s h
  obtain ⟨v2, q1, h⟩ := bi_ h
  refine v_callV0 (e_X6_noPupil q1) G cl6 my_X6_noPupil rfl w512 w13 w510 dX6_as_2 q24 rfl (Nat.le_of_ble_eq_true rfl) rfl (Nat.le_of_ble_eq_true rfl) (Nat.zero_le _) (Nat.zero_le _) ?_
  refine v_if_ne 17 G dX6_as_5 (by decide) (fun q3 => ?_) (fun q3 => ?_)
  · rw [if_neg q3] at h
    refine v_ldc G (-1000001 : Int32) dX6_as_17 w326 ?_
    cases h
    exact v_iret G F dX6_as_19 rfl (Nat.le_refl _)
  · rw [if_pos q3] at h
    refine v_iload_n G dX6_as_8 rfl ?_
    refine v_iconst G (0 : Int32) dX6_as_9 (by decide) ?_
    refine v_iconst G (5 : Int32) dX6_as_10 (by decide) ?_
    obtain ⟨v5, q4, h⟩ := bi_ h
    refine v_callS0 (e_X6_outside q4) G my_X6_outside w324 w323 dX6_as_11 rfl (Nat.le_of_ble_eq_true rfl) rfl (Nat.le_of_ble_eq_true rfl) (Nat.zero_le _) (Nat.zero_le _) ?_
    refine v_if_eq 20 G dX6_as_14 (by decide) (fun q6 => ?_) (fun q6 => ?_)
    · rw [if_pos q6] at h
      refine v_aload_n G dX6_as_20 rfl ?_
      obtain ⟨b7, q8, h⟩ := bi_ h
      refine v_getR (f := 1) G cl6 dX6_as_21 w292 (by decide) (by decide) q8 ?_
      obtain ⟨b9, q10, h⟩ := bi_ h
      refine v_getR (f := 7) G cl5 dX6_as_24 w114 (by decide) (by decide) q10 ?_
      refine v_iload_n G dX6_as_27 rfl ?_
      obtain ⟨v12, q11, h⟩ := bi_ h
      refine v_iald G dX6_as_28 q11 ?_
      refine v_iload_n G dX6_as_29 rfl ?_
      obtain ⟨v14, q13, h⟩ := bi_ h
      refine v_callS0 (e_X6_isKind q13) G my_X6_isKind w466 w793 dX6_as_30 rfl (Nat.le_of_ble_eq_true rfl) rfl (Nat.le_of_ble_eq_true rfl) (Nat.zero_le _) (Nat.zero_le _) ?_
      refine v_if_eq 44 G dX6_as_33 (by decide) (fun q15 => ?_) (fun q15 => ?_)
      · rw [if_pos q15] at h
        refine v_aload_n G dX6_as_44 rfl ?_
        refine v_iconst G (3 : Int32) dX6_as_45 (by decide) ?_
        obtain ⟨q19, h⟩ := if_s h
        obtain ⟨M17, v18, q16, h⟩ := bi2_ h
        refine v_callV0 (e_X6_found q16) G cl6 my_X6_found rfl w329 w0 w327 dX6_as_46 q19 rfl (Nat.le_of_ble_eq_true rfl) rfl (Nat.le_of_ble_eq_true rfl) (Nat.zero_le _) (Nat.zero_le _) ?_
        cases h
        exact v_iret G F dX6_as_49 rfl (Nat.le_refl _)
      · rw [if_neg q15] at h
        refine v_aload_n G dX6_as_36 rfl ?_
        refine v_iload_n G dX6_as_37 rfl ?_
        obtain ⟨q23, h⟩ := if_s h
        obtain ⟨M21, v22, q20, h⟩ := bi2_ h
        refine v_callV0 (e_X6_fine q20) G cl6 my_X6_fine rfl w338 w1 w336 dX6_as_38 q23 rfl (Nat.le_of_ble_eq_true rfl) rfl (Nat.le_of_ble_eq_true rfl) (Nat.zero_le _) (Nat.zero_le _) ?_
        refine v_goto 49 G dX6_as_41 (by decide) ?_
        cases h
        exact v_iret G F dX6_as_49 rfl (Nat.le_refl _)
    · rw [if_neg q6] at h
      refine v_ldc G (-1000001 : Int32) dX6_as_17 w326 ?_
      cases h
      exact v_iret G F dX6_as_19 rfl (Nat.le_refl _)
/-! X6_ask -/
def m_X6_ask (M : mM) (x0 : Nat) (x1 : Int32) (x2 : Int32) : Option (mM × Int32) :=
  if isO M x0 6 = true then
  (m_X6_noPupil M x0 x1).bind fun v2 =>
  if v2 = (0 : Int32) then (
    (m_X6_outside M x2 (0 : Int32) (1 : Int32)).bind fun v5 =>
    if v5 = (0 : Int32) then (
      (gR M x0 6 6).bind fun b7 =>
      (gR M x0 6 1).bind fun b9 =>
      if isO M b7 1 = true then
      bd2 (m_X1_answer M b7 b9 x1 x2) fun M12 v13 =>
      some (M12, v13)
      else none
    ) else (
      some (M, (-1000001 : Int32))
    )
  ) else (
    some (M, (-1000001 : Int32))
  )
  else none
theorem e_X6_ask {Z : zZ} {M : mM} {N : mM} {x0 : Nat} {x1 : Int32} {x2 : Int32} {r : Int32} (h : m_X6_ask M x0 x1 x2 = some (N, r)) : EM Z yX6_ask cX6_ask 3 (some .int) 23 0 0 [.ref x0, .int x1, .int x2] M N (some (.int r)) := by
  refine EM_of my_X6_ask (Nat.le_of_ble_eq_true rfl) (fun X G F => ?_)
  show V X Z M 0 0 0 [some (.ref x0), some (.int x1), some (.int x2)] []
  unfold m_X6_ask at h
  refine v_aload_n G dX6_ask_0 rfl ?_
  refine v_iload_n G dX6_ask_1 rfl ?_
  obtain ⟨q15, h⟩ := if_s h
  obtain ⟨v2, q1, h⟩ := bi_ h
  refine v_callV0 (e_X6_noPupil q1) G cl6 my_X6_noPupil rfl w512 w13 w510 dX6_ask_2 q15 rfl (Nat.le_of_ble_eq_true rfl) rfl (Nat.le_of_ble_eq_true rfl) (Nat.zero_le _) (Nat.zero_le _) ?_
  refine v_if_ne 17 G dX6_ask_5 (by decide) (fun q3 => ?_) (fun q3 => ?_)
  · rw [if_neg q3] at h
    refine v_ldc G (-1000001 : Int32) dX6_ask_17 w326 ?_
    cases h
    exact v_iret G F dX6_ask_19 rfl (Nat.le_refl _)
  · rw [if_pos q3] at h
    refine v_iload_n G dX6_ask_8 rfl ?_
    refine v_iconst G (0 : Int32) dX6_ask_9 (by decide) ?_
    refine v_iconst G (1 : Int32) dX6_ask_10 (by decide) ?_
    obtain ⟨v5, q4, h⟩ := bi_ h
    refine v_callS0 (e_X6_outside q4) G my_X6_outside w324 w323 dX6_ask_11 rfl (Nat.le_of_ble_eq_true rfl) rfl (Nat.le_of_ble_eq_true rfl) (Nat.zero_le _) (Nat.zero_le _) ?_
    refine v_if_eq 20 G dX6_ask_14 (by decide) (fun q6 => ?_) (fun q6 => ?_)
    · rw [if_pos q6] at h
      refine v_aload_n G dX6_ask_20 rfl ?_
      obtain ⟨b7, q8, h⟩ := bi_ h
      refine v_getR (f := 6) G cl6 dX6_ask_21 w297 (by decide) (by decide) q8 ?_
      refine v_aload_n G dX6_ask_24 rfl ?_
      obtain ⟨b9, q10, h⟩ := bi_ h
      refine v_getR (f := 1) G cl6 dX6_ask_25 w292 (by decide) (by decide) q10 ?_
      refine v_iload_n G dX6_ask_28 rfl ?_
      refine v_iload_n G dX6_ask_29 rfl ?_
      obtain ⟨q14, h⟩ := if_s h
      obtain ⟨M12, v13, q11, h⟩ := bi2_ h
      refine v_callV0 (e_X1_answer q11) G cl1 my_X1_answer rfl w799 w800 w798 dX6_ask_30 q14 rfl (Nat.le_of_ble_eq_true rfl) rfl (Nat.le_of_ble_eq_true rfl) (Nat.zero_le _) (Nat.zero_le _) ?_
      cases h
      exact v_iret G F dX6_ask_33 rfl (Nat.le_refl _)
    · rw [if_neg q6] at h
      refine v_ldc G (-1000001 : Int32) dX6_ask_17 w326 ?_
      cases h
      exact v_iret G F dX6_ask_19 rfl (Nat.le_refl _)
/-! X6_trace -/
def m_X6_trace (M : mM) (x0 : Nat) (x1 : Int32) : Option Int32 :=
  (gR M x0 6 6).bind fun b1 =>
  (gI M b1 1 1).bind fun v3 =>
  (m_X6_outside M x1 (0 : Int32) (v3 - (1 : Int32))).bind fun v6 =>
  if v6 = (0 : Int32) then (
    (gR M x0 6 6).bind fun b8 =>
    (gR M b8 1 0).bind fun b10 =>
    (ldI M b10 x1).bind fun v13 =>
    some v13
  ) else (
    some (-1000000 : Int32)
  )
theorem e_X6_trace {Z : zZ} {M : mM} {x0 : Nat} {x1 : Int32} {r : Int32} (h : m_X6_trace M x0 x1 = some r) : EM Z yX6_trace cX6_trace 2 (some .int) 1 0 0 [.ref x0, .int x1] M M (some (.int r)) := by
  refine EM_of my_X6_trace (Nat.le_of_ble_eq_true rfl) (fun X G F => ?_)
  show V X Z M 0 0 0 [some (.ref x0), some (.int x1)] []
  unfold m_X6_trace at h
  refine v_iload_n G dX6_trace_0 rfl ?_
  refine v_iconst G (0 : Int32) dX6_trace_1 (by decide) ?_
  refine v_aload_n G dX6_trace_2 rfl ?_
  obtain ⟨b1, q2, h⟩ := bi_ h
  refine v_getR (f := 6) G cl6 dX6_trace_3 w297 (by decide) (by decide) q2 ?_
  obtain ⟨v3, q4, h⟩ := bi_ h
  refine v_getI (f := 1) G cl1 dX6_trace_6 w247 (by decide) (by decide) q4 ?_
  refine v_iconst G (1 : Int32) dX6_trace_9 (by decide) ?_
  refine v_isub G dX6_trace_10 ?_
  obtain ⟨v6, q5, h⟩ := bi_ h
  refine v_callS0 (e_X6_outside q5) G my_X6_outside w324 w323 dX6_trace_11 rfl (Nat.le_of_ble_eq_true rfl) rfl (Nat.le_of_ble_eq_true rfl) (Nat.zero_le _) (Nat.zero_le _) ?_
  refine v_if_eq 23 G dX6_trace_14 (by decide) (fun q7 => ?_) (fun q7 => ?_)
  · rw [if_pos q7] at h
    refine v_aload_n G dX6_trace_23 rfl ?_
    obtain ⟨b8, q9, h⟩ := bi_ h
    refine v_getR (f := 6) G cl6 dX6_trace_24 w297 (by decide) (by decide) q9 ?_
    obtain ⟨b10, q11, h⟩ := bi_ h
    refine v_getR (f := 0) G cl1 dX6_trace_27 w245 (by decide) (by decide) q11 ?_
    refine v_iload_n G dX6_trace_30 rfl ?_
    obtain ⟨v13, q12, h⟩ := bi_ h
    refine v_iald G dX6_trace_31 q12 ?_
    cases h
    exact v_iret G F dX6_trace_32 rfl (Nat.le_refl _)
  · rw [if_neg q7] at h
    refine v_ldcw G (-1000000 : Int32) dX6_trace_17 w628 ?_
    refine v_goto 32 G dX6_trace_20 (by decide) ?_
    cases h
    exact v_iret G F dX6_trace_32 rfl (Nat.le_refl _)
/-! X6_rowsThere -/
def m_X6_rowsThere_L4 {ρ : Type} (k0 : Int32 → Option ρ) (M : mM) (x0 : Nat) : Nat → Int32 → Int32 → Option ρ
  | 0, _, _ => none
  | n + 1, x1, x2 =>
    if (8 : Int32) ≤ x2 then (
      k0 x1
    ) else (
      (gR M x0 6 0).bind fun b2 =>
      (ldR M b2 3 x2).bind fun b5 =>
      (gI M b5 4 1).bind fun v6 =>
      if v6 = (0 : Int32) then (
        m_X6_rowsThere_L4 k0 M x0 n x1 (x2 + (1 : Int32))
      ) else (
        m_X6_rowsThere_L4 k0 M x0 n (x1 + (1 : Int32)) (x2 + (1 : Int32))
      )
    )
theorem e_X6_rowsThere_L4 {X : xX} {Z : zZ} {cn sn : Nat} {ρ : Type} {r : ρ} {k0 : Int32 → Option ρ} (G : ok_ X Z yX6_rowsThere cX6_rowsThere 3 0 0 0) (hcn : cn ≤ 0) (hsn : sn ≤ 0) (M : mM) (x0 : Nat)
    (hx0 : ∀ (z1 : Int32), k0 z1 = some r → V X Z M cn sn 31 [none, some (.int z1), none] []) :
    ∀ (n : Nat) (x1 : Int32) (x2 : Int32), m_X6_rowsThere_L4 k0 M x0 n x1 x2 = some r → V X Z M cn sn 4 [some (.ref x0), some (.int x1), some (.int x2)] [] := by
  intro n
  induction n with
  | zero => intro x1 x2 h; rw [m_X6_rowsThere_L4] at h; cases h
  | succ n ih =>
    intro x1 x2 h
    rw [m_X6_rowsThere_L4] at h
    refine v_iload_n G dX6_rowsThere_4 rfl ?_
    refine v_bipush G (8 : Int32) dX6_rowsThere_5 (by decide) ?_
    refine v_ic_ge 31 G dX6_rowsThere_7 (by decide) (fun q1 => ?_) (fun q1 => ?_)
    · rw [if_pos q1] at h
      exact v_mask [false, true, false] rfl (hx0 _ h)
    · rw [if_neg q1] at h
      refine v_aload_n G dX6_rowsThere_10 rfl ?_
      obtain ⟨b2, q3, h⟩ := bi_ h
      refine v_getR (f := 0) G cl6 dX6_rowsThere_11 w291 (by decide) (by decide) q3 ?_
      refine v_iload_n G dX6_rowsThere_14 rfl ?_
      obtain ⟨b5, q4, h⟩ := bi_ h
      refine v_aald3 G dX6_rowsThere_15 q4 ?_
      obtain ⟨v6, q7, h⟩ := bi_ h
      refine v_getI (f := 1) G cl4 dX6_rowsThere_16 w277 (by decide) (by decide) q7 ?_
      refine v_if_eq 25 G dX6_rowsThere_19 (by decide) (fun q8 => ?_) (fun q8 => ?_)
      · rw [if_pos q8] at h
        refine v_iinc (x2 + (1 : Int32)) [some (.ref x0), some (.int x1), some (.int (x2 + (1 : Int32)))] G dX6_rowsThere_25 rfl rfl (Nat.le_of_ble_eq_true rfl) rfl rfl ?_
        refine v_goto 4 G dX6_rowsThere_28 (by decide) ?_
        exact v_mask [true, true, true] rfl (ih _ _ h)
      · rw [if_neg q8] at h
        refine v_iinc (x1 + (1 : Int32)) [some (.ref x0), some (.int (x1 + (1 : Int32))), some (.int x2)] G dX6_rowsThere_22 rfl rfl (Nat.le_of_ble_eq_true rfl) rfl rfl ?_
        refine v_iinc (x2 + (1 : Int32)) [some (.ref x0), some (.int (x1 + (1 : Int32))), some (.int (x2 + (1 : Int32)))] G dX6_rowsThere_25 rfl rfl (Nat.le_of_ble_eq_true rfl) rfl rfl ?_
        refine v_goto 4 G dX6_rowsThere_28 (by decide) ?_
        exact v_mask [true, true, true] rfl (ih _ _ h)
def m_X6_rowsThere (M : mM) (x0 : Nat) : Option Int32 :=
  m_X6_rowsThere_L4
    (fun v9 =>
      some v9)
    M x0 FU (0 : Int32) (0 : Int32)
theorem e_X6_rowsThere {Z : zZ} {M : mM} {x0 : Nat} {r : Int32} (h : m_X6_rowsThere M x0 = some r) : EM Z yX6_rowsThere cX6_rowsThere 3 (some .int) 0 0 0 [.ref x0] M M (some (.int r)) := by
  refine EM_of my_X6_rowsThere (Nat.le_of_ble_eq_true rfl) (fun X G F => ?_)
  show V X Z M 0 0 0 [some (.ref x0), none, none] []
  unfold m_X6_rowsThere at h
  refine v_iconst G (0 : Int32) dX6_rowsThere_0 (by decide) ?_
  refine v_istore_n [some (.ref x0), some (.int (0 : Int32)), none] G dX6_rowsThere_1 (Nat.le_of_ble_eq_true rfl) rfl rfl ?_
  refine v_iconst G (0 : Int32) dX6_rowsThere_2 (by decide) ?_
  refine v_istore_n [some (.ref x0), some (.int (0 : Int32)), some (.int (0 : Int32))] G dX6_rowsThere_3 (Nat.le_of_ble_eq_true rfl) rfl rfl ?_
  refine v_mask [true, true, true] rfl ?_
  refine e_X6_rowsThere_L4 G (Nat.zero_le _) (Nat.zero_le _) _ _ (fun v9 h => ?_) FU _ _ h
  refine v_iload_n G dX6_rowsThere_31 rfl ?_
  cases h
  exact v_iret G F dX6_rowsThere_32 rfl (Nat.le_refl _)
/-! X6_count -/
def m_X6_count (M : mM) (x0 : Nat) (x1 : Int32) : Option Int32 :=
  if x1 = (0 : Int32) then (
    if isO M x0 6 = true then
    (m_X6_rowsThere M x0).bind fun v3 =>
    some v3
    else none
  ) else
  if x1 = (1 : Int32) then (
    (gR M x0 6 1).bind fun b6 =>
    (gI M b6 5 3).bind fun v8 =>
    some v8
  ) else
  if x1 = (2 : Int32) then (
    (gR M x0 6 1).bind fun b11 =>
    (gI M b11 5 1).bind fun v13 =>
    some v13
  ) else
  if x1 = (3 : Int32) then (
    (gR M x0 6 1).bind fun b16 =>
    (gI M b16 5 2).bind fun v18 =>
    some v18
  ) else
  if x1 = (4 : Int32) then (
    (gR M x0 6 1).bind fun b21 =>
    (gI M b21 5 4).bind fun v23 =>
    some v23
  ) else
  if x1 = (5 : Int32) then (
    (gR M x0 6 1).bind fun b26 =>
    if isO M b26 5 = true then
    (m_X5_known M b26).bind fun v29 =>
    some v29
    else none
  ) else
  if x1 = (6 : Int32) then (
    (gR M x0 6 3).bind fun b32 =>
    (gI M b32 0 2).bind fun v34 =>
    some v34
  ) else
  if x1 = (7 : Int32) then (
    (gR M x0 6 4).bind fun b37 =>
    (gI M b37 3 2).bind fun v39 =>
    some v39
  ) else
  (
    some (-1000001 : Int32)
  )
theorem e_X6_count {Z : zZ} {M : mM} {x0 : Nat} {x1 : Int32} {r : Int32} (h : m_X6_count M x0 x1 = some r) : EM Z yX6_count cX6_count 2 (some .int) 3 0 0 [.ref x0, .int x1] M M (some (.int r)) := by
  refine EM_of my_X6_count (Nat.le_of_ble_eq_true rfl) (fun X G F => ?_)
  show V X Z M 0 0 0 [some (.ref x0), some (.int x1)] []
  unfold m_X6_count at h
  refine v_iload_n G dX6_count_0 rfl ?_
  rcases Decidable.em (x1 = (0 : Int32)) with q1 | q1
  · rw [if_pos q1] at h
    refine v_tabI (off := 47) 48 G dX6_count_1 (by rw [q1]; decide) (by rw [q1]; decide) (by rw [q1]; rfl) (by decide) ?_
    refine v_aload_n G dX6_count_48 rfl ?_
    obtain ⟨q4, h⟩ := if_s h
    obtain ⟨v3, q2, h⟩ := bi_ h
    refine v_callV0 (e_X6_rowsThere q2) G cl6 my_X6_rowsThere rfl w827 w24 w825 dX6_count_49 q4 rfl (Nat.le_of_ble_eq_true rfl) rfl (Nat.le_of_ble_eq_true rfl) (Nat.zero_le _) (Nat.zero_le _) ?_
    cases h
    exact v_iret G F dX6_count_52 rfl (Nat.le_refl _)
  · rw [if_neg q1] at h
    rcases Decidable.em (x1 = (1 : Int32)) with q5 | q5
    · rw [if_pos q5] at h
      refine v_tabI (off := 52) 53 G dX6_count_1 (by rw [q5]; decide) (by rw [q5]; decide) (by rw [q5]; rfl) (by decide) ?_
      refine v_aload_n G dX6_count_53 rfl ?_
      obtain ⟨b6, q7, h⟩ := bi_ h
      refine v_getR (f := 1) G cl6 dX6_count_54 w292 (by decide) (by decide) q7 ?_
      obtain ⟨v8, q9, h⟩ := bi_ h
      refine v_getI (f := 3) G cl5 dX6_count_57 w98 (by decide) (by decide) q9 ?_
      cases h
      exact v_iret G F dX6_count_60 rfl (Nat.le_refl _)
    · rw [if_neg q5] at h
      rcases Decidable.em (x1 = (2 : Int32)) with q10 | q10
      · rw [if_pos q10] at h
        refine v_tabI (off := 60) 61 G dX6_count_1 (by rw [q10]; decide) (by rw [q10]; decide) (by rw [q10]; rfl) (by decide) ?_
        refine v_aload_n G dX6_count_61 rfl ?_
        obtain ⟨b11, q12, h⟩ := bi_ h
        refine v_getR (f := 1) G cl6 dX6_count_62 w292 (by decide) (by decide) q12 ?_
        obtain ⟨v13, q14, h⟩ := bi_ h
        refine v_getI (f := 1) G cl5 dX6_count_65 w91 (by decide) (by decide) q14 ?_
        cases h
        exact v_iret G F dX6_count_68 rfl (Nat.le_refl _)
      · rw [if_neg q10] at h
        rcases Decidable.em (x1 = (3 : Int32)) with q15 | q15
        · rw [if_pos q15] at h
          refine v_tabI (off := 68) 69 G dX6_count_1 (by rw [q15]; decide) (by rw [q15]; decide) (by rw [q15]; rfl) (by decide) ?_
          refine v_aload_n G dX6_count_69 rfl ?_
          obtain ⟨b16, q17, h⟩ := bi_ h
          refine v_getR (f := 1) G cl6 dX6_count_70 w292 (by decide) (by decide) q17 ?_
          obtain ⟨v18, q19, h⟩ := bi_ h
          refine v_getI (f := 2) G cl5 dX6_count_73 w95 (by decide) (by decide) q19 ?_
          cases h
          exact v_iret G F dX6_count_76 rfl (Nat.le_refl _)
        · rw [if_neg q15] at h
          rcases Decidable.em (x1 = (4 : Int32)) with q20 | q20
          · rw [if_pos q20] at h
            refine v_tabI (off := 76) 77 G dX6_count_1 (by rw [q20]; decide) (by rw [q20]; decide) (by rw [q20]; rfl) (by decide) ?_
            refine v_aload_n G dX6_count_77 rfl ?_
            obtain ⟨b21, q22, h⟩ := bi_ h
            refine v_getR (f := 1) G cl6 dX6_count_78 w292 (by decide) (by decide) q22 ?_
            obtain ⟨v23, q24, h⟩ := bi_ h
            refine v_getI (f := 4) G cl5 dX6_count_81 w102 (by decide) (by decide) q24 ?_
            cases h
            exact v_iret G F dX6_count_84 rfl (Nat.le_refl _)
          · rw [if_neg q20] at h
            rcases Decidable.em (x1 = (5 : Int32)) with q25 | q25
            · rw [if_pos q25] at h
              refine v_tabI (off := 84) 85 G dX6_count_1 (by rw [q25]; decide) (by rw [q25]; decide) (by rw [q25]; rfl) (by decide) ?_
              refine v_aload_n G dX6_count_85 rfl ?_
              obtain ⟨b26, q27, h⟩ := bi_ h
              refine v_getR (f := 1) G cl6 dX6_count_86 w292 (by decide) (by decide) q27 ?_
              obtain ⟨q30, h⟩ := if_s h
              obtain ⟨v29, q28, h⟩ := bi_ h
              refine v_callV0 (e_X5_known q28) G cl5 my_X5_known rfl w503 w504 w502 dX6_count_89 q30 rfl (Nat.le_of_ble_eq_true rfl) rfl (Nat.le_of_ble_eq_true rfl) (Nat.zero_le _) (Nat.zero_le _) ?_
              cases h
              exact v_iret G F dX6_count_92 rfl (Nat.le_refl _)
            · rw [if_neg q25] at h
              rcases Decidable.em (x1 = (6 : Int32)) with q31 | q31
              · rw [if_pos q31] at h
                refine v_tabI (off := 92) 93 G dX6_count_1 (by rw [q31]; decide) (by rw [q31]; decide) (by rw [q31]; rfl) (by decide) ?_
                refine v_aload_n G dX6_count_93 rfl ?_
                obtain ⟨b32, q33, h⟩ := bi_ h
                refine v_getR (f := 3) G cl6 dX6_count_94 w294 (by decide) (by decide) q33 ?_
                obtain ⟨v34, q35, h⟩ := bi_ h
                refine v_getI (f := 2) G cl0 dX6_count_97 w158 (by decide) (by decide) q35 ?_
                cases h
                exact v_iret G F dX6_count_100 rfl (Nat.le_refl _)
              · rw [if_neg q31] at h
                rcases Decidable.em (x1 = (7 : Int32)) with q36 | q36
                · rw [if_pos q36] at h
                  refine v_tabI (off := 100) 101 G dX6_count_1 (by rw [q36]; decide) (by rw [q36]; decide) (by rw [q36]; rfl) (by decide) ?_
                  refine v_aload_n G dX6_count_101 rfl ?_
                  obtain ⟨b37, q38, h⟩ := bi_ h
                  refine v_getR (f := 4) G cl6 dX6_count_102 w295 (by decide) (by decide) q38 ?_
                  obtain ⟨v39, q40, h⟩ := bi_ h
                  refine v_getI (f := 2) G cl3 dX6_count_105 w178 (by decide) (by decide) q40 ?_
                  cases h
                  exact v_iret G F dX6_count_108 rfl (Nat.le_refl _)
                · rw [if_neg q36] at h
                  have eq1 : (x1).toInt ≠ 0 := i32_ne q1
                  have eq5 : (x1).toInt ≠ 1 := i32_ne q5
                  have eq10 : (x1).toInt ≠ 2 := i32_ne q10
                  have eq15 : (x1).toInt ≠ 3 := i32_ne q15
                  have eq20 : (x1).toInt ≠ 4 := i32_ne q20
                  have eq25 : (x1).toInt ≠ 5 := i32_ne q25
                  have eq31 : (x1).toInt ≠ 6 := i32_ne q31
                  have eq36 : (x1).toInt ≠ 7 := i32_ne q36
                  refine v_tabO 109 G dX6_count_1 (by omega) (by decide) ?_
                  refine v_ldc G (-1000001 : Int32) dX6_count_109 w326 ?_
                  cases h
                  exact v_iret G F dX6_count_111 rfl (Nat.le_refl _)
/-! X6_status -/
def m_X6_status (M : mM) (x0 : Nat) : Option Int32 :=
  (gI M x0 6 7).bind fun v1 =>
  some v1
theorem e_X6_status {Z : zZ} {M : mM} {x0 : Nat} {r : Int32} (h : m_X6_status M x0 = some r) : EM Z yX6_status cX6_status 1 (some .int) 0 0 0 [.ref x0] M M (some (.int r)) := by
  refine EM_of my_X6_status (Nat.le_of_ble_eq_true rfl) (fun X G F => ?_)
  show V X Z M 0 0 0 [some (.ref x0)] []
  unfold m_X6_status at h
  refine v_aload_n G dX6_status_0 rfl ?_
  obtain ⟨v1, q2, h⟩ := bi_ h
  refine v_getI (f := 7) G cl6 dX6_status_1 w298 (by decide) (by decide) q2 ?_
  cases h
  exact v_iret G F dX6_status_4 rfl (Nat.le_refl _)
/-! X7_init -/
def m_X7_init (M : mM) (x0 : Nat) : Option mM :=
  nw_b M (1, 8) fun M1 =>
  (stI M1 (mz M) (0 : Int32) (-1 : Int32)).bind fun M2 =>
  (stI M2 (mz M) (1 : Int32) (-1 : Int32)).bind fun M4 =>
  (stI M4 (mz M) (2 : Int32) (-1 : Int32)).bind fun M6 =>
  (stI M6 (mz M) (3 : Int32) (-1 : Int32)).bind fun M8 =>
  (stI M8 (mz M) (4 : Int32) (-1 : Int32)).bind fun M10 =>
  (stI M10 (mz M) (5 : Int32) (-1 : Int32)).bind fun M12 =>
  (stI M12 (mz M) (6 : Int32) (-1 : Int32)).bind fun M14 =>
  (stI M14 (mz M) (7 : Int32) (-1 : Int32)).bind fun M16 =>
  (pR M16 x0 7 2 (mz M)).bind fun M18 =>
  nw_b M18 (1, 8) fun M20 =>
  (pR M20 x0 7 3 (mz M18)).bind fun M21 =>
  nw_b M21 (1, 320) fun M23 =>
  (pR M23 x0 7 4 (mz M21)).bind fun M24 =>
  nw_b M24 (1, 73) fun M26 =>
  (pR M26 x0 7 5 (mz M24)).bind fun M27 =>
  nw_b M27 (1, 73) fun M29 =>
  (pR M29 x0 7 6 (mz M27)).bind fun M30 =>
  nw_b M30 (1, 73) fun M32 =>
  (pR M32 x0 7 7 (mz M30)).bind fun M33 =>
  nw_b M33 (1, 1752) fun M35 =>
  (pR M35 x0 7 8 (mz M33)).bind fun M36 =>
  nw_b M36 (1, 120) fun M38 =>
  (pR M38 x0 7 10 (mz M36)).bind fun M39 =>
  nw_b M39 (2, 6) fun M41 =>
  (pR M41 x0 7 19 (mz M39)).bind fun M42 =>
  nw_b M42 (1, 6) fun M44 =>
  (pR M44 x0 7 20 (mz M42)).bind fun M45 =>
  nw_b M45 (1, 6) fun M47 =>
  (pR M47 x0 7 21 (mz M45)).bind fun M48 =>
  nw_b M48 (2, 2) fun M50 =>
  (pR M50 x0 7 22 (mz M48)).bind fun M51 =>
  nw_b M51 (1, 146) fun M53 =>
  (pR M53 x0 7 23 (mz M51)).bind fun M54 =>
  nw_b M54 (1, 16) fun M56 =>
  (pR M56 x0 7 24 (mz M54)).bind fun M57 =>
  some M57
theorem e_X7_init {Z : zZ} {M : mM} {N : mM} {x0 : Nat} (h : m_X7_init M x0 = some N) : EM Z yX7_init cX7_init 1 none 1 14 2609 [.ref x0] M N none := by
  refine EM_of my_X7_init (Nat.le_of_ble_eq_true rfl) (fun X G F => ?_)
  show V X Z M 0 0 0 [some (.ref x0)] []
  unfold m_X7_init at h
  refine v_aload_n G dX7_init_0 rfl ?_
  refine v_obj G w838 w75 w76 dX7_init_1 (Nat.le_of_ble_eq_true rfl) rfl (by decide) ?_
  refine v_aload_n G dX7_init_4 rfl ?_
  refine v_bipush G (8 : Int32) dX7_init_5 (by decide) ?_
  obtain ⟨M1, eM1, h⟩ := nb_ h
  refine v_newI (n' := 8) G dX7_init_7 w145 (by decide) (by decide) (by decide) (Nat.le_of_ble_eq_true rfl) (Nat.le_of_ble_eq_true rfl) ?_
  rw [← eM1]
  refine v_dup G dX7_init_9 rfl ?_
  refine v_iconst G (0 : Int32) dX7_init_10 (by decide) ?_
  refine v_iconst G (-1 : Int32) dX7_init_11 (by decide) ?_
  obtain ⟨M2, q3, h⟩ := bi_ h
  refine v_iast G dX7_init_12 q3 ?_
  refine v_dup G dX7_init_13 rfl ?_
  refine v_iconst G (1 : Int32) dX7_init_14 (by decide) ?_
  refine v_iconst G (-1 : Int32) dX7_init_15 (by decide) ?_
  obtain ⟨M4, q5, h⟩ := bi_ h
  refine v_iast G dX7_init_16 q5 ?_
  refine v_dup G dX7_init_17 rfl ?_
  refine v_iconst G (2 : Int32) dX7_init_18 (by decide) ?_
  refine v_iconst G (-1 : Int32) dX7_init_19 (by decide) ?_
  obtain ⟨M6, q7, h⟩ := bi_ h
  refine v_iast G dX7_init_20 q7 ?_
  refine v_dup G dX7_init_21 rfl ?_
  refine v_iconst G (3 : Int32) dX7_init_22 (by decide) ?_
  refine v_iconst G (-1 : Int32) dX7_init_23 (by decide) ?_
  obtain ⟨M8, q9, h⟩ := bi_ h
  refine v_iast G dX7_init_24 q9 ?_
  refine v_dup G dX7_init_25 rfl ?_
  refine v_iconst G (4 : Int32) dX7_init_26 (by decide) ?_
  refine v_iconst G (-1 : Int32) dX7_init_27 (by decide) ?_
  obtain ⟨M10, q11, h⟩ := bi_ h
  refine v_iast G dX7_init_28 q11 ?_
  refine v_dup G dX7_init_29 rfl ?_
  refine v_iconst G (5 : Int32) dX7_init_30 (by decide) ?_
  refine v_iconst G (-1 : Int32) dX7_init_31 (by decide) ?_
  obtain ⟨M12, q13, h⟩ := bi_ h
  refine v_iast G dX7_init_32 q13 ?_
  refine v_dup G dX7_init_33 rfl ?_
  refine v_bipush G (6 : Int32) dX7_init_34 (by decide) ?_
  refine v_iconst G (-1 : Int32) dX7_init_36 (by decide) ?_
  obtain ⟨M14, q15, h⟩ := bi_ h
  refine v_iast G dX7_init_37 q15 ?_
  refine v_dup G dX7_init_38 rfl ?_
  refine v_bipush G (7 : Int32) dX7_init_39 (by decide) ?_
  refine v_iconst G (-1 : Int32) dX7_init_41 (by decide) ?_
  obtain ⟨M16, q17, h⟩ := bi_ h
  refine v_iast G dX7_init_42 q17 ?_
  obtain ⟨M18, q19, h⟩ := bi_ h
  refine v_putF (f := 2) G cl7 dX7_init_43 w841 (by decide) (by decide) (by decide) rfl rfl (fun _ => rfl) (fun _ => rfl) q19 ?_
  refine v_aload_n G dX7_init_46 rfl ?_
  refine v_bipush G (8 : Int32) dX7_init_47 (by decide) ?_
  obtain ⟨M20, eM20, h⟩ := nb_ h
  refine v_newI (n' := 8) G dX7_init_49 w145 (by decide) (by decide) (by decide) (Nat.le_of_ble_eq_true rfl) (Nat.le_of_ble_eq_true rfl) ?_
  rw [← eM20]
  obtain ⟨M21, q22, h⟩ := bi_ h
  refine v_putF (f := 3) G cl7 dX7_init_51 w842 (by decide) (by decide) (by decide) rfl rfl (fun _ => rfl) (fun _ => rfl) q22 ?_
  refine v_aload_n G dX7_init_54 rfl ?_
  refine v_sipush G (320 : Int32) dX7_init_55 (by decide) ?_
  obtain ⟨M23, eM23, h⟩ := nb_ h
  refine v_newI (n' := 320) G dX7_init_58 w145 (by decide) (by decide) (by decide) (Nat.le_of_ble_eq_true rfl) (Nat.le_of_ble_eq_true rfl) ?_
  rw [← eM23]
  obtain ⟨M24, q25, h⟩ := bi_ h
  refine v_putF (f := 4) G cl7 dX7_init_60 w843 (by decide) (by decide) (by decide) rfl rfl (fun _ => rfl) (fun _ => rfl) q25 ?_
  refine v_aload_n G dX7_init_63 rfl ?_
  refine v_bipush G (73 : Int32) dX7_init_64 (by decide) ?_
  obtain ⟨M26, eM26, h⟩ := nb_ h
  refine v_newI (n' := 73) G dX7_init_66 w145 (by decide) (by decide) (by decide) (Nat.le_of_ble_eq_true rfl) (Nat.le_of_ble_eq_true rfl) ?_
  rw [← eM26]
  obtain ⟨M27, q28, h⟩ := bi_ h
  refine v_putF (f := 5) G cl7 dX7_init_68 w844 (by decide) (by decide) (by decide) rfl rfl (fun _ => rfl) (fun _ => rfl) q28 ?_
  refine v_aload_n G dX7_init_71 rfl ?_
  refine v_bipush G (73 : Int32) dX7_init_72 (by decide) ?_
  obtain ⟨M29, eM29, h⟩ := nb_ h
  refine v_newI (n' := 73) G dX7_init_74 w145 (by decide) (by decide) (by decide) (Nat.le_of_ble_eq_true rfl) (Nat.le_of_ble_eq_true rfl) ?_
  rw [← eM29]
  obtain ⟨M30, q31, h⟩ := bi_ h
  refine v_putF (f := 6) G cl7 dX7_init_76 w845 (by decide) (by decide) (by decide) rfl rfl (fun _ => rfl) (fun _ => rfl) q31 ?_
  refine v_aload_n G dX7_init_79 rfl ?_
  refine v_bipush G (73 : Int32) dX7_init_80 (by decide) ?_
  obtain ⟨M32, eM32, h⟩ := nb_ h
  refine v_newI (n' := 73) G dX7_init_82 w145 (by decide) (by decide) (by decide) (Nat.le_of_ble_eq_true rfl) (Nat.le_of_ble_eq_true rfl) ?_
  rw [← eM32]
  obtain ⟨M33, q34, h⟩ := bi_ h
  refine v_putF (f := 7) G cl7 dX7_init_84 w846 (by decide) (by decide) (by decide) rfl rfl (fun _ => rfl) (fun _ => rfl) q34 ?_
  refine v_aload_n G dX7_init_87 rfl ?_
  refine v_sipush G (1752 : Int32) dX7_init_88 (by decide) ?_
  obtain ⟨M35, eM35, h⟩ := nb_ h
  refine v_newI (n' := 1752) G dX7_init_91 w145 (by decide) (by decide) (by decide) (Nat.le_of_ble_eq_true rfl) (Nat.le_of_ble_eq_true rfl) ?_
  rw [← eM35]
  obtain ⟨M36, q37, h⟩ := bi_ h
  refine v_putF (f := 8) G cl7 dX7_init_93 w847 (by decide) (by decide) (by decide) rfl rfl (fun _ => rfl) (fun _ => rfl) q37 ?_
  refine v_aload_n G dX7_init_96 rfl ?_
  refine v_bipush G (120 : Int32) dX7_init_97 (by decide) ?_
  obtain ⟨M38, eM38, h⟩ := nb_ h
  refine v_newI (n' := 120) G dX7_init_99 w145 (by decide) (by decide) (by decide) (Nat.le_of_ble_eq_true rfl) (Nat.le_of_ble_eq_true rfl) ?_
  rw [← eM38]
  obtain ⟨M39, q40, h⟩ := bi_ h
  refine v_putF (f := 10) G cl7 dX7_init_101 w849 (by decide) (by decide) (by decide) rfl rfl (fun _ => rfl) (fun _ => rfl) q40 ?_
  refine v_aload_n G dX7_init_104 rfl ?_
  refine v_bipush G (6 : Int32) dX7_init_105 (by decide) ?_
  obtain ⟨M41, eM41, h⟩ := nb_ h
  refine v_newZ (n' := 6) G dX7_init_107 w918 (by decide) (by decide) (by decide) (Nat.le_of_ble_eq_true rfl) (Nat.le_of_ble_eq_true rfl) ?_
  rw [← eM41]
  obtain ⟨M42, q43, h⟩ := bi_ h
  refine v_putF (f := 19) G cl7 dX7_init_109 w858 (by decide) (by decide) (by decide) rfl rfl (fun _ => rfl) (fun _ => rfl) q43 ?_
  refine v_aload_n G dX7_init_112 rfl ?_
  refine v_bipush G (6 : Int32) dX7_init_113 (by decide) ?_
  obtain ⟨M44, eM44, h⟩ := nb_ h
  refine v_newI (n' := 6) G dX7_init_115 w145 (by decide) (by decide) (by decide) (Nat.le_of_ble_eq_true rfl) (Nat.le_of_ble_eq_true rfl) ?_
  rw [← eM44]
  obtain ⟨M45, q46, h⟩ := bi_ h
  refine v_putF (f := 20) G cl7 dX7_init_117 w859 (by decide) (by decide) (by decide) rfl rfl (fun _ => rfl) (fun _ => rfl) q46 ?_
  refine v_aload_n G dX7_init_120 rfl ?_
  refine v_bipush G (6 : Int32) dX7_init_121 (by decide) ?_
  obtain ⟨M47, eM47, h⟩ := nb_ h
  refine v_newI (n' := 6) G dX7_init_123 w145 (by decide) (by decide) (by decide) (Nat.le_of_ble_eq_true rfl) (Nat.le_of_ble_eq_true rfl) ?_
  rw [← eM47]
  obtain ⟨M48, q49, h⟩ := bi_ h
  refine v_putF (f := 21) G cl7 dX7_init_125 w860 (by decide) (by decide) (by decide) rfl rfl (fun _ => rfl) (fun _ => rfl) q49 ?_
  refine v_aload_n G dX7_init_128 rfl ?_
  refine v_iconst G (2 : Int32) dX7_init_129 (by decide) ?_
  obtain ⟨M50, eM50, h⟩ := nb_ h
  refine v_newZ (n' := 2) G dX7_init_130 w918 (by decide) (by decide) (by decide) (Nat.le_of_ble_eq_true rfl) (Nat.le_of_ble_eq_true rfl) ?_
  rw [← eM50]
  obtain ⟨M51, q52, h⟩ := bi_ h
  refine v_putF (f := 22) G cl7 dX7_init_132 w861 (by decide) (by decide) (by decide) rfl rfl (fun _ => rfl) (fun _ => rfl) q52 ?_
  refine v_aload_n G dX7_init_135 rfl ?_
  refine v_sipush G (146 : Int32) dX7_init_136 (by decide) ?_
  obtain ⟨M53, eM53, h⟩ := nb_ h
  refine v_newI (n' := 146) G dX7_init_139 w145 (by decide) (by decide) (by decide) (Nat.le_of_ble_eq_true rfl) (Nat.le_of_ble_eq_true rfl) ?_
  rw [← eM53]
  obtain ⟨M54, q55, h⟩ := bi_ h
  refine v_putF (f := 23) G cl7 dX7_init_141 w862 (by decide) (by decide) (by decide) rfl rfl (fun _ => rfl) (fun _ => rfl) q55 ?_
  refine v_aload_n G dX7_init_144 rfl ?_
  refine v_bipush G (16 : Int32) dX7_init_145 (by decide) ?_
  obtain ⟨M56, eM56, h⟩ := nb_ h
  refine v_newI (n' := 16) G dX7_init_147 w145 (by decide) (by decide) (by decide) (Nat.le_of_ble_eq_true rfl) (Nat.le_of_ble_eq_true rfl) ?_
  rw [← eM56]
  obtain ⟨M57, q58, h⟩ := bi_ h
  refine v_putF (f := 24) G cl7 dX7_init_149 w863 (by decide) (by decide) (by decide) rfl rfl (fun _ => rfl) (fun _ => rfl) q58 ?_
  cases h
  exact v_vret G F dX7_init_152 rfl (Nat.le_of_ble_eq_true rfl)
/-! X7_in -/
def m_X7_in (M : mM) (x0 : Int64) (x2 : Int64) (x4 : Int64) : Option Int32 :=
  if (lg_cmp x0 x2) < (0 : Int32) then (
    some (0 : Int32)
  ) else (
    if (0 : Int32) < (lg_cmp x0 x4) then (
      some (0 : Int32)
    ) else (
      some (1 : Int32)
    )
  )
theorem e_X7_in {Z : zZ} {M : mM} {x0 : Int64} {x2 : Int64} {x4 : Int64} {r : Int32} (h : m_X7_in M x0 x2 x4 = some r) : EM Z yX7_in cX7_in 6 (some .boolean) 0 0 0 [.long x0, .long x2, .long x4] M M (some (.int r)) := by
  refine EM_of my_X7_in (Nat.le_of_ble_eq_true rfl) (fun X G F => ?_)
  show V X Z M 0 0 0 [some (.long x0), none, some (.long x2), none, some (.long x4), none] []
  unfold m_X7_in at h
  refine v_lload_n G dX7_in_0 rfl ?_
  refine v_lload_n G dX7_in_1 rfl ?_
  refine v_lcmp G dX7_in_2 ?_
  refine v_if_lt 17 G dX7_in_3 (by decide) (fun q1 => ?_) (fun q1 => ?_)
  · rw [if_pos q1] at h
    refine v_iconst G (0 : Int32) dX7_in_17 (by decide) ?_
    cases h
    exact v_zret G F rfl dX7_in_18 rfl (Nat.le_refl _)
  · rw [if_neg q1] at h
    refine v_lload_n G dX7_in_6 rfl ?_
    refine v_lload G dX7_in_7 rfl ?_
    refine v_lcmp G dX7_in_9 ?_
    refine v_if_gt 17 G dX7_in_10 (by decide) (fun q2 => ?_) (fun q2 => ?_)
    · rw [if_pos q2] at h
      refine v_iconst G (0 : Int32) dX7_in_17 (by decide) ?_
      cases h
      exact v_zret G F rfl dX7_in_18 rfl (Nat.le_refl _)
    · rw [if_neg q2] at h
      refine v_iconst G (1 : Int32) dX7_in_13 (by decide) ?_
      refine v_goto 18 G dX7_in_14 (by decide) ?_
      cases h
      exact v_zret G F rfl dX7_in_18 rfl (Nat.le_refl _)
/-! X7_finding -/
def m_X7_finding (M : mM) (x0 : Nat) (x1 : Int32) : Option (mM × Int32) :=
  (pI M x0 7 1 x1).bind fun M1 =>
  some (M1, ((-1000010 : Int32) - x1))
theorem e_X7_finding {Z : zZ} {M : mM} {N : mM} {x0 : Nat} {x1 : Int32} {r : Int32} (h : m_X7_finding M x0 x1 = some (N, r)) : EM Z yX7_finding cX7_finding 2 (some .int) 0 0 0 [.ref x0, .int x1] M N (some (.int r)) := by
  refine EM_of my_X7_finding (Nat.le_of_ble_eq_true rfl) (fun X G F => ?_)
  show V X Z M 0 0 0 [some (.ref x0), some (.int x1)] []
  unfold m_X7_finding at h
  refine v_aload_n G dX7_finding_0 rfl ?_
  refine v_iload_n G dX7_finding_1 rfl ?_
  obtain ⟨M1, q2, h⟩ := bi_ h
  refine v_putI (f := 1) G cl7 dX7_finding_2 w840 (by decide) (by decide) (by decide) rfl rfl q2 ?_
  refine v_ldc G (-1000010 : Int32) dX7_finding_5 w936 ?_
  refine v_iload_n G dX7_finding_7 rfl ?_
  refine v_isub G dX7_finding_8 ?_
  cases h
  exact v_iret G F dX7_finding_9 rfl (Nat.le_refl _)
/-! X7_isRow -/
def m_X7_isRow (M : mM) (x0 : Int32) : Option Int32 :=
  (m_X7_in M (Int32.toInt64 x0) (0 : Int64) (7 : Int64)).bind fun v2 =>
  if (v2 == 0 || v2 == 1) = true then some v2 else none
theorem e_X7_isRow {Z : zZ} {M : mM} {x0 : Int32} {r : Int32} (h : m_X7_isRow M x0 = some r) : EM Z yX7_isRow cX7_isRow 1 (some .boolean) 1 0 0 [.int x0] M M (some (.int r)) := by
  refine EM_of my_X7_isRow (Nat.le_of_ble_eq_true rfl) (fun X G F => ?_)
  show V X Z M 0 0 0 [some (.int x0)] []
  unfold m_X7_isRow at h
  refine v_iload_n G dX7_isRow_0 rfl ?_
  refine v_i2l G dX7_isRow_1 ?_
  refine v_lconst G (0 : Int64) dX7_isRow_2 (by decide) ?_
  refine v_ldc2 G (7 : Int64) dX7_isRow_3 w926 ?_
  obtain ⟨v2, q1, h⟩ := bi_ h
  refine v_callS0 (e_X7_in q1) G my_X7_in w928 w927 dX7_isRow_6 rfl (Nat.le_of_ble_eq_true rfl) rfl (Nat.le_of_ble_eq_true rfl) (Nat.zero_le _) (Nat.zero_le _) ?_
  obtain ⟨q3, h⟩ := if_s h
  cases h
  exact v_zret G F q3 dX7_isRow_9 rfl (Nat.le_refl _)
/-! X7_row -/
def m_X7_row_L65 {ρ : Type} (k0 : mM → Option ρ) (x0 : Nat) (x1 : Int32) (x3 : Int32) : Nat → mM → Int32 → Option ρ
  | 0, _, _ => none
  | n + 1, M, x4 =>
    if (40 : Int32) ≤ x4 then (
      k0 M
    ) else (
      (gR M x0 7 4).bind fun b22 =>
      (stI M b22 (((40 : Int32) * x1) + x4) (0 : Int32)).bind fun M24 =>
      m_X7_row_L65 k0 x0 x1 x3 n M24 (x4 + (1 : Int32))
    )
theorem e_X7_row_L65 {X : xX} {Z : zZ} {cn sn : Nat} {ρ : Type} {r : ρ} {k0 : mM → Option ρ} (G : ok_ X Z yX7_row cX7_row 5 2 0 0) (hcn : cn ≤ 0) (hsn : sn ≤ 0) (x0 : Nat) (x1 : Int32) (x3 : Int32)
    (hx0 : ∀ (N : mM), k0 N = some r → V X Z N cn sn 91 [none, none, none, some (.int x3), none] []) :
    ∀ (n : Nat) (M : mM) (x4 : Int32), m_X7_row_L65 k0 x0 x1 x3 n M x4 = some r → V X Z M cn sn 65 [some (.ref x0), some (.int x1), none, some (.int x3), some (.int x4)] [] := by
  intro n
  induction n with
  | zero => intro M x4 h; rw [m_X7_row_L65] at h; cases h
  | succ n ih =>
    intro M x4 h
    rw [m_X7_row_L65] at h
    refine v_iload G dX7_row_65 rfl ?_
    refine v_bipush G (40 : Int32) dX7_row_67 (by decide) ?_
    refine v_ic_ge 91 G dX7_row_69 (by decide) (fun q21 => ?_) (fun q21 => ?_)
    · rw [if_pos q21] at h
      exact v_mask [false, false, false, true, false] rfl (hx0 _ h)
    · rw [if_neg q21] at h
      refine v_aload_n G dX7_row_72 rfl ?_
      obtain ⟨b22, q23, h⟩ := bi_ h
      refine v_getR (f := 4) G cl7 dX7_row_73 w843 (by decide) (by decide) q23 ?_
      refine v_bipush G (40 : Int32) dX7_row_76 (by decide) ?_
      refine v_iload_n G dX7_row_78 rfl ?_
      refine v_imul G dX7_row_79 ?_
      refine v_iload G dX7_row_80 rfl ?_
      refine v_iadd G dX7_row_82 ?_
      refine v_iconst G (0 : Int32) dX7_row_83 (by decide) ?_
      obtain ⟨M24, q25, h⟩ := bi_ h
      refine v_iast G dX7_row_84 q25 ?_
      refine v_iinc (x4 + (1 : Int32)) [some (.ref x0), some (.int x1), none, some (.int x3), some (.int (x4 + (1 : Int32)))] G dX7_row_85 rfl rfl (Nat.le_of_ble_eq_true rfl) rfl rfl ?_
      refine v_goto 65 G dX7_row_88 (by decide) ?_
      exact v_mask [true, true, false, true, true] rfl (ih _ _ h)
def m_X7_row (M : mM) (x0 : Nat) (x1 : Int32) (x2 : Int32) (x3 : Int32) : Option (mM × Int32) :=
  (pI M x0 7 0 (0 : Int32)).bind fun M1 =>
  (m_X7_isRow M1 x1).bind fun v4 =>
  if v4 = (0 : Int32) then (
    some (M1, (-1000001 : Int32))
  ) else (
    (m_X7_in M1 (Int32.toInt64 x2) (0 : Int64) (2 : Int64)).bind fun v7 =>
    if v7 = (0 : Int32) then (
      some (M1, (-1000001 : Int32))
    ) else (
      if x3 ≤ (40 : Int32) then (
        (pI M1 x0 7 1 (0 : Int32)).bind fun M10 =>
        if (0 : Int32) ≤ x3 then (
          (gR M10 x0 7 2).bind fun b13 =>
          (stI M10 b13 x1 x2).bind fun M15 =>
          (gR M15 x0 7 3).bind fun b17 =>
          (stI M15 b17 x1 x3).bind fun M19 =>
          m_X7_row_L65
            (fun M26 =>
              some (M26, x3))
            x0 x1 x3 FU M19 (0 : Int32)
        ) else (
          if isO M10 x0 7 = true then
          bd2 (m_X7_finding M10 x0 (4 : Int32)) fun M28 v29 =>
          some (M28, v29)
          else none
        )
      ) else (
        some (M1, (-1000001 : Int32))
      )
    )
  )
theorem e_X7_row {Z : zZ} {M : mM} {N : mM} {x0 : Nat} {x1 : Int32} {x2 : Int32} {x3 : Int32} {r : Int32} (h : m_X7_row M x0 x1 x2 x3 = some (N, r)) : EM Z yX7_row cX7_row 5 (some .int) 2 0 0 [.ref x0, .int x1, .int x2, .int x3] M N (some (.int r)) := by
  refine EM_of my_X7_row (Nat.le_of_ble_eq_true rfl) (fun X G F => ?_)
  show V X Z M 0 0 0 [some (.ref x0), some (.int x1), some (.int x2), some (.int x3), none] []
  unfold m_X7_row at h
  refine v_aload_n G dX7_row_0 rfl ?_
  refine v_iconst G (0 : Int32) dX7_row_1 (by decide) ?_
  obtain ⟨M1, q2, h⟩ := bi_ h
  refine v_putI (f := 0) G cl7 dX7_row_2 w839 (by decide) (by decide) (by decide) rfl rfl q2 ?_
  refine v_iload_n G dX7_row_5 rfl ?_
  obtain ⟨v4, q3, h⟩ := bi_ h
  refine v_callS0 (e_X7_isRow q3) G my_X7_isRow w924 w923 dX7_row_6 rfl (Nat.le_of_ble_eq_true rfl) rfl (Nat.le_of_ble_eq_true rfl) (Nat.zero_le _) (Nat.zero_le _) ?_
  refine v_if_eq 30 G dX7_row_9 (by decide) (fun q5 => ?_) (fun q5 => ?_)
  · rw [if_pos q5] at h
    refine v_ldc G (-1000001 : Int32) dX7_row_30 w931 ?_
    cases h
    exact v_iret G F dX7_row_32 rfl (Nat.le_refl _)
  · rw [if_neg q5] at h
    refine v_iload_n G dX7_row_12 rfl ?_
    refine v_i2l G dX7_row_13 ?_
    refine v_lconst G (0 : Int64) dX7_row_14 (by decide) ?_
    refine v_ldc2 G (2 : Int64) dX7_row_15 w930 ?_
    obtain ⟨v7, q6, h⟩ := bi_ h
    refine v_callS0 (e_X7_in q6) G my_X7_in w928 w927 dX7_row_18 rfl (Nat.le_of_ble_eq_true rfl) rfl (Nat.le_of_ble_eq_true rfl) (Nat.zero_le _) (Nat.zero_le _) ?_
    refine v_if_eq 30 G dX7_row_21 (by decide) (fun q8 => ?_) (fun q8 => ?_)
    · rw [if_pos q8] at h
      refine v_ldc G (-1000001 : Int32) dX7_row_30 w931 ?_
      cases h
      exact v_iret G F dX7_row_32 rfl (Nat.le_refl _)
    · rw [if_neg q8] at h
      refine v_iload_n G dX7_row_24 rfl ?_
      refine v_bipush G (40 : Int32) dX7_row_25 (by decide) ?_
      refine v_ic_le 33 G dX7_row_27 (by decide) (fun q9 => ?_) (fun q9 => ?_)
      · rw [if_pos q9] at h
        refine v_aload_n G dX7_row_33 rfl ?_
        refine v_iconst G (0 : Int32) dX7_row_34 (by decide) ?_
        obtain ⟨M10, q11, h⟩ := bi_ h
        refine v_putI (f := 1) G cl7 dX7_row_35 w840 (by decide) (by decide) (by decide) rfl rfl q11 ?_
        refine v_iload_n G dX7_row_38 rfl ?_
        refine v_if_ge 48 G dX7_row_39 (by decide) (fun q12 => ?_) (fun q12 => ?_)
        · rw [if_pos q12] at h
          refine v_aload_n G dX7_row_48 rfl ?_
          obtain ⟨b13, q14, h⟩ := bi_ h
          refine v_getR (f := 2) G cl7 dX7_row_49 w841 (by decide) (by decide) q14 ?_
          refine v_iload_n G dX7_row_52 rfl ?_
          refine v_iload_n G dX7_row_53 rfl ?_
          obtain ⟨M15, q16, h⟩ := bi_ h
          refine v_iast G dX7_row_54 q16 ?_
          refine v_aload_n G dX7_row_55 rfl ?_
          obtain ⟨b17, q18, h⟩ := bi_ h
          refine v_getR (f := 3) G cl7 dX7_row_56 w842 (by decide) (by decide) q18 ?_
          refine v_iload_n G dX7_row_59 rfl ?_
          refine v_iload_n G dX7_row_60 rfl ?_
          obtain ⟨M19, q20, h⟩ := bi_ h
          refine v_iast G dX7_row_61 q20 ?_
          refine v_iconst G (0 : Int32) dX7_row_62 (by decide) ?_
          refine v_istore [some (.ref x0), some (.int x1), some (.int x2), some (.int x3), some (.int (0 : Int32))] G dX7_row_63 (Nat.le_of_ble_eq_true rfl) rfl rfl ?_
          refine v_mask [true, true, false, true, true] rfl ?_
          refine e_X7_row_L65 G (Nat.zero_le _) (Nat.zero_le _) _ _ _ (fun M26 h => ?_) FU _ _ h
          refine v_iload_n G dX7_row_91 rfl ?_
          cases h
          exact v_iret G F dX7_row_92 rfl (Nat.le_refl _)
        · rw [if_neg q12] at h
          refine v_aload_n G dX7_row_42 rfl ?_
          refine v_iconst G (4 : Int32) dX7_row_43 (by decide) ?_
          obtain ⟨q30, h⟩ := if_s h
          obtain ⟨M28, v29, q27, h⟩ := bi2_ h
          refine v_callV0 (e_X7_finding q27) G cl7 my_X7_finding rfl w934 w25 w932 dX7_row_44 q30 rfl (Nat.le_of_ble_eq_true rfl) rfl (Nat.le_of_ble_eq_true rfl) (Nat.zero_le _) (Nat.zero_le _) ?_
          cases h
          exact v_iret G F dX7_row_47 rfl (Nat.le_refl _)
      · rw [if_neg q9] at h
        refine v_ldc G (-1000001 : Int32) dX7_row_30 w931 ?_
        cases h
        exact v_iret G F dX7_row_32 rfl (Nat.le_refl _)
