/-! X6_change -/
def m_X6_change (M : mM) (x0 : Nat) (x1 : Int32) (x2 : Int32) : Option (mM × Int32) :=
  if isO M x0 6 = true then
  (m_X6_noPupil M x0 x1).bind fun v2 =>
  if v2 = (0 : Int32) then (
    if isO M x0 6 = true then
    (m_X6_noPupil M x0 x2).bind fun v5 =>
    if v5 = (0 : Int32) then (
      if x1 = x2 then (
        some (M, (-1000001 : Int32))
      ) else (
        (gR M x0 6 3).bind fun b8 =>
        (gR M x0 6 1).bind fun b10 =>
        if isO M b8 0 = true then
        (m_X0_keep M b8 b10).bind fun M13 =>
        (gR M13 x0 6 1).bind fun b14 =>
        (gR M13 x0 6 1).bind fun b16 =>
        if isO M13 b16 5 = true then
        (m_X5_seatOf M13 b16 x1).bind fun v19 =>
        (gR M13 x0 6 1).bind fun b20 =>
        if isO M13 b20 5 = true then
        (m_X5_seatOf M13 b20 x2).bind fun v23 =>
        if isO M13 b14 5 = true then
        (m_X5_swapSeats M13 b14 v19 v23).bind fun M25 =>
        (gR M25 x0 6 1).bind fun b26 =>
        if isO M25 b26 5 = true then
        (m_X5_seatOf M25 b26 x1).bind fun v29 =>
        some (M25, v29)
        else none
        else none
        else none
        else none
        else none
      )
    ) else (
      some (M, (-1000001 : Int32))
    )
    else none
  ) else (
    some (M, (-1000001 : Int32))
  )
  else none
theorem e_X6_change {Z : zZ} {M : mM} {N : mM} {x0 : Nat} {x1 : Int32} {x2 : Int32} {r : Int32} (h : m_X6_change M x0 x1 x2 = some (N, r)) : EM Z yX6_change cX6_change 3 (some .int) 3 0 0 [.ref x0, .int x1, .int x2] M N (some (.int r)) := by
  refine EM_of my_X6_change (Nat.le_of_ble_eq_true rfl) (fun X G F => ?_)
  show V X Z M 0 0 0 [some (.ref x0), some (.int x1), some (.int x2)] []
  unfold m_X6_change at h
  refine v_aload_n G dX6_change_0 rfl ?_
  refine v_iload_n G dX6_change_1 rfl ?_
  obtain ⟨q36, h⟩ := if_s h
  obtain ⟨v2, q1, h⟩ := bi_ h
  refine v_callV0 (e_X6_noPupil q1) G cl6 my_X6_noPupil rfl w512 w13 w510 dX6_change_2 q36 rfl (Nat.le_of_ble_eq_true rfl) rfl (Nat.le_of_ble_eq_true rfl) (Nat.zero_le _) (Nat.zero_le _) ?_
  refine v_if_ne 21 G dX6_change_5 (by decide) (fun q3 => ?_) (fun q3 => ?_)
  · rw [if_neg q3] at h
    refine v_ldc G (-1000001 : Int32) dX6_change_21 w326 ?_
    cases h
    exact v_iret G F dX6_change_23 rfl (Nat.le_refl _)
  · rw [if_pos q3] at h
    refine v_aload_n G dX6_change_8 rfl ?_
    refine v_iload_n G dX6_change_9 rfl ?_
    obtain ⟨q35, h⟩ := if_s h
    obtain ⟨v5, q4, h⟩ := bi_ h
    refine v_callV0 (e_X6_noPupil q4) G cl6 my_X6_noPupil rfl w512 w13 w510 dX6_change_10 q35 rfl (Nat.le_of_ble_eq_true rfl) rfl (Nat.le_of_ble_eq_true rfl) (Nat.zero_le _) (Nat.zero_le _) ?_
    refine v_if_ne 21 G dX6_change_13 (by decide) (fun q6 => ?_) (fun q6 => ?_)
    · rw [if_neg q6] at h
      refine v_ldc G (-1000001 : Int32) dX6_change_21 w326 ?_
      cases h
      exact v_iret G F dX6_change_23 rfl (Nat.le_refl _)
    · rw [if_pos q6] at h
      refine v_iload_n G dX6_change_16 rfl ?_
      refine v_iload_n G dX6_change_17 rfl ?_
      refine v_ic_ne 24 G dX6_change_18 (by decide) (fun q7 => ?_) (fun q7 => ?_)
      · rw [if_neg q7] at h
        refine v_aload_n G dX6_change_24 rfl ?_
        obtain ⟨b8, q9, h⟩ := bi_ h
        refine v_getR (f := 3) G cl6 dX6_change_25 w294 (by decide) (by decide) q9 ?_
        refine v_aload_n G dX6_change_28 rfl ?_
        obtain ⟨b10, q11, h⟩ := bi_ h
        refine v_getR (f := 1) G cl6 dX6_change_29 w292 (by decide) (by decide) q11 ?_
        obtain ⟨q34, h⟩ := if_s h
        obtain ⟨M13, q12, h⟩ := bi_ h
        refine v_callV0 (e_X0_keep q12) G cl0 my_X0_keep rfl w450 w451 w449 dX6_change_32 q34 rfl (Nat.le_of_ble_eq_true rfl) rfl (Nat.le_of_ble_eq_true rfl) (Nat.zero_le _) (Nat.zero_le _) ?_
        refine v_aload_n G dX6_change_35 rfl ?_
        obtain ⟨b14, q15, h⟩ := bi_ h
        refine v_getR (f := 1) G cl6 dX6_change_36 w292 (by decide) (by decide) q15 ?_
        refine v_aload_n G dX6_change_39 rfl ?_
        obtain ⟨b16, q17, h⟩ := bi_ h
        refine v_getR (f := 1) G cl6 dX6_change_40 w292 (by decide) (by decide) q17 ?_
        refine v_iload_n G dX6_change_43 rfl ?_
        obtain ⟨q33, h⟩ := if_s h
        obtain ⟨v19, q18, h⟩ := bi_ h
        refine v_callV0 (e_X5_seatOf q18) G cl5 my_X5_seatOf rfl w515 w516 w514 dX6_change_44 q33 rfl (Nat.le_of_ble_eq_true rfl) rfl (Nat.le_of_ble_eq_true rfl) (Nat.zero_le _) (Nat.zero_le _) ?_
        refine v_aload_n G dX6_change_47 rfl ?_
        obtain ⟨b20, q21, h⟩ := bi_ h
        refine v_getR (f := 1) G cl6 dX6_change_48 w292 (by decide) (by decide) q21 ?_
        refine v_iload_n G dX6_change_51 rfl ?_
        obtain ⟨q32, h⟩ := if_s h
        obtain ⟨v23, q22, h⟩ := bi_ h
        refine v_callV0 (e_X5_seatOf q22) G cl5 my_X5_seatOf rfl w515 w516 w514 dX6_change_52 q32 rfl (Nat.le_of_ble_eq_true rfl) rfl (Nat.le_of_ble_eq_true rfl) (Nat.zero_le _) (Nat.zero_le _) ?_
        obtain ⟨q31, h⟩ := if_s h
        obtain ⟨M25, q24, h⟩ := bi_ h
        refine v_callV0 (e_X5_swapSeats q24) G cl5 my_X5_swapSeats rfl w519 w520 w518 dX6_change_55 q31 rfl (Nat.le_of_ble_eq_true rfl) rfl (Nat.le_of_ble_eq_true rfl) (Nat.zero_le _) (Nat.zero_le _) ?_
        refine v_aload_n G dX6_change_58 rfl ?_
        obtain ⟨b26, q27, h⟩ := bi_ h
        refine v_getR (f := 1) G cl6 dX6_change_59 w292 (by decide) (by decide) q27 ?_
        refine v_iload_n G dX6_change_62 rfl ?_
        obtain ⟨q30, h⟩ := if_s h
        obtain ⟨v29, q28, h⟩ := bi_ h
        refine v_callV0 (e_X5_seatOf q28) G cl5 my_X5_seatOf rfl w515 w516 w514 dX6_change_63 q30 rfl (Nat.le_of_ble_eq_true rfl) rfl (Nat.le_of_ble_eq_true rfl) (Nat.zero_le _) (Nat.zero_le _) ?_
        cases h
        exact v_iret G F dX6_change_66 rfl (Nat.le_refl _)
      · rw [if_pos q7] at h
        refine v_ldc G (-1000001 : Int32) dX6_change_21 w326 ?_
        cases h
        exact v_iret G F dX6_change_23 rfl (Nat.le_refl _)
/-! X6_noLesson -/
def m_X6_noLesson (M : mM) (x0 : Nat) (x1 : Int32) : Option Int32 :=
  (gR M x0 6 1).bind fun b1 =>
  (gI M b1 5 2).bind fun v3 =>
  (m_X6_outside M x1 (0 : Int32) (v3 - (1 : Int32))).bind fun v6 =>
  if (v6 == 0 || v6 == 1) = true then some v6 else none
theorem e_X6_noLesson {Z : zZ} {M : mM} {x0 : Nat} {x1 : Int32} {r : Int32} (h : m_X6_noLesson M x0 x1 = some r) : EM Z yX6_noLesson cX6_noLesson 2 (some .boolean) 1 0 0 [.ref x0, .int x1] M M (some (.int r)) := by
  refine EM_of my_X6_noLesson (Nat.le_of_ble_eq_true rfl) (fun X G F => ?_)
  show V X Z M 0 0 0 [some (.ref x0), some (.int x1)] []
  unfold m_X6_noLesson at h
  refine v_iload_n G dX6_noLesson_0 rfl ?_
  refine v_iconst G (0 : Int32) dX6_noLesson_1 (by decide) ?_
  refine v_aload_n G dX6_noLesson_2 rfl ?_
  obtain ⟨b1, q2, h⟩ := bi_ h
  refine v_getR (f := 1) G cl6 dX6_noLesson_3 w292 (by decide) (by decide) q2 ?_
  obtain ⟨v3, q4, h⟩ := bi_ h
  refine v_getI (f := 2) G cl5 dX6_noLesson_6 w95 (by decide) (by decide) q4 ?_
  refine v_iconst G (1 : Int32) dX6_noLesson_9 (by decide) ?_
  refine v_isub G dX6_noLesson_10 ?_
  obtain ⟨v6, q5, h⟩ := bi_ h
  refine v_callS0 (e_X6_outside q5) G my_X6_outside w324 w323 dX6_noLesson_11 rfl (Nat.le_of_ble_eq_true rfl) rfl (Nat.le_of_ble_eq_true rfl) (Nat.zero_le _) (Nat.zero_le _) ?_
  obtain ⟨q7, h⟩ := if_s h
  cases h
  exact v_zret G F q7 dX6_noLesson_14 rfl (Nat.le_refl _)
/-! X6_noSubject -/
def m_X6_noSubject (M : mM) (x0 : Nat) (x1 : Int32) : Option Int32 :=
  (gR M x0 6 1).bind fun b1 =>
  (gI M b1 5 1).bind fun v3 =>
  (m_X6_outside M x1 (0 : Int32) (v3 - (1 : Int32))).bind fun v6 =>
  if (v6 == 0 || v6 == 1) = true then some v6 else none
theorem e_X6_noSubject {Z : zZ} {M : mM} {x0 : Nat} {x1 : Int32} {r : Int32} (h : m_X6_noSubject M x0 x1 = some r) : EM Z yX6_noSubject cX6_noSubject 2 (some .boolean) 1 0 0 [.ref x0, .int x1] M M (some (.int r)) := by
  refine EM_of my_X6_noSubject (Nat.le_of_ble_eq_true rfl) (fun X G F => ?_)
  show V X Z M 0 0 0 [some (.ref x0), some (.int x1)] []
  unfold m_X6_noSubject at h
  refine v_iload_n G dX6_noSubject_0 rfl ?_
  refine v_iconst G (0 : Int32) dX6_noSubject_1 (by decide) ?_
  refine v_aload_n G dX6_noSubject_2 rfl ?_
  obtain ⟨b1, q2, h⟩ := bi_ h
  refine v_getR (f := 1) G cl6 dX6_noSubject_3 w292 (by decide) (by decide) q2 ?_
  obtain ⟨v3, q4, h⟩ := bi_ h
  refine v_getI (f := 1) G cl5 dX6_noSubject_6 w91 (by decide) (by decide) q4 ?_
  refine v_iconst G (1 : Int32) dX6_noSubject_9 (by decide) ?_
  refine v_isub G dX6_noSubject_10 ?_
  obtain ⟨v6, q5, h⟩ := bi_ h
  refine v_callS0 (e_X6_outside q5) G my_X6_outside w324 w323 dX6_noSubject_11 rfl (Nat.le_of_ble_eq_true rfl) rfl (Nat.le_of_ble_eq_true rfl) (Nat.zero_le _) (Nat.zero_le _) ?_
  obtain ⟨q7, h⟩ := if_s h
  cases h
  exact v_zret G F q7 dX6_noSubject_14 rfl (Nat.le_refl _)
/-! X6_teach -/
def m_X6_teach (M : mM) (x0 : Nat) (x1 : Int32) (x2 : Int32) : Option (mM × Int32) :=
  if isO M x0 6 = true then
  (m_X6_noLesson M x0 x1).bind fun v2 =>
  if v2 = (0 : Int32) then (
    if isO M x0 6 = true then
    (m_X6_noSubject M x0 x2).bind fun v5 =>
    if v5 = (0 : Int32) then (
      (gR M x0 6 3).bind fun b7 =>
      (gR M x0 6 1).bind fun b9 =>
      if isO M b7 0 = true then
      (m_X0_keep M b7 b9).bind fun M12 =>
      (gR M12 x0 6 1).bind fun b13 =>
      (gR M12 b13 5 6).bind fun b15 =>
      (ldI M12 b15 x1).bind fun v18 =>
      (gR M12 x0 6 1).bind fun b19 =>
      (gR M12 b19 5 6).bind fun b21 =>
      (stI M12 b21 x1 x2).bind fun M23 =>
      some (M23, v18)
      else none
    ) else (
      some (M, (-1000001 : Int32))
    )
    else none
  ) else (
    some (M, (-1000001 : Int32))
  )
  else none
theorem e_X6_teach {Z : zZ} {M : mM} {N : mM} {x0 : Nat} {x1 : Int32} {x2 : Int32} {r : Int32} (h : m_X6_teach M x0 x1 x2 = some (N, r)) : EM Z yX6_teach cX6_teach 4 (some .int) 3 0 0 [.ref x0, .int x1, .int x2] M N (some (.int r)) := by
  refine EM_of my_X6_teach (Nat.le_of_ble_eq_true rfl) (fun X G F => ?_)
  show V X Z M 0 0 0 [some (.ref x0), some (.int x1), some (.int x2), none] []
  unfold m_X6_teach at h
  refine v_aload_n G dX6_teach_0 rfl ?_
  refine v_iload_n G dX6_teach_1 rfl ?_
  obtain ⟨q27, h⟩ := if_s h
  obtain ⟨v2, q1, h⟩ := bi_ h
  refine v_callV0 (e_X6_noLesson q1) G cl6 my_X6_noLesson rfl w528 w14 w526 dX6_teach_2 q27 rfl (Nat.le_of_ble_eq_true rfl) rfl (Nat.le_of_ble_eq_true rfl) (Nat.zero_le _) (Nat.zero_le _) ?_
  refine v_if_ne 16 G dX6_teach_5 (by decide) (fun q3 => ?_) (fun q3 => ?_)
  · rw [if_neg q3] at h
    refine v_ldc G (-1000001 : Int32) dX6_teach_16 w326 ?_
    cases h
    exact v_iret G F dX6_teach_18 rfl (Nat.le_refl _)
  · rw [if_pos q3] at h
    refine v_aload_n G dX6_teach_8 rfl ?_
    refine v_iload_n G dX6_teach_9 rfl ?_
    obtain ⟨q26, h⟩ := if_s h
    obtain ⟨v5, q4, h⟩ := bi_ h
    refine v_callV0 (e_X6_noSubject q4) G cl6 my_X6_noSubject rfl w532 w15 w530 dX6_teach_10 q26 rfl (Nat.le_of_ble_eq_true rfl) rfl (Nat.le_of_ble_eq_true rfl) (Nat.zero_le _) (Nat.zero_le _) ?_
    refine v_if_eq 19 G dX6_teach_13 (by decide) (fun q6 => ?_) (fun q6 => ?_)
    · rw [if_pos q6] at h
      refine v_aload_n G dX6_teach_19 rfl ?_
      obtain ⟨b7, q8, h⟩ := bi_ h
      refine v_getR (f := 3) G cl6 dX6_teach_20 w294 (by decide) (by decide) q8 ?_
      refine v_aload_n G dX6_teach_23 rfl ?_
      obtain ⟨b9, q10, h⟩ := bi_ h
      refine v_getR (f := 1) G cl6 dX6_teach_24 w292 (by decide) (by decide) q10 ?_
      obtain ⟨q25, h⟩ := if_s h
      obtain ⟨M12, q11, h⟩ := bi_ h
      refine v_callV0 (e_X0_keep q11) G cl0 my_X0_keep rfl w450 w451 w449 dX6_teach_27 q25 rfl (Nat.le_of_ble_eq_true rfl) rfl (Nat.le_of_ble_eq_true rfl) (Nat.zero_le _) (Nat.zero_le _) ?_
      refine v_aload_n G dX6_teach_30 rfl ?_
      obtain ⟨b13, q14, h⟩ := bi_ h
      refine v_getR (f := 1) G cl6 dX6_teach_31 w292 (by decide) (by decide) q14 ?_
      obtain ⟨b15, q16, h⟩ := bi_ h
      refine v_getR (f := 6) G cl5 dX6_teach_34 w108 (by decide) (by decide) q16 ?_
      refine v_iload_n G dX6_teach_37 rfl ?_
      obtain ⟨v18, q17, h⟩ := bi_ h
      refine v_iald G dX6_teach_38 q17 ?_
      refine v_istore_n [some (.ref x0), some (.int x1), some (.int x2), some (.int v18)] G dX6_teach_39 (Nat.le_of_ble_eq_true rfl) rfl rfl ?_
      refine v_aload_n G dX6_teach_40 rfl ?_
      obtain ⟨b19, q20, h⟩ := bi_ h
      refine v_getR (f := 1) G cl6 dX6_teach_41 w292 (by decide) (by decide) q20 ?_
      obtain ⟨b21, q22, h⟩ := bi_ h
      refine v_getR (f := 6) G cl5 dX6_teach_44 w108 (by decide) (by decide) q22 ?_
      refine v_iload_n G dX6_teach_47 rfl ?_
      refine v_iload_n G dX6_teach_48 rfl ?_
      obtain ⟨M23, q24, h⟩ := bi_ h
      refine v_iast G dX6_teach_49 q24 ?_
      refine v_iload_n G dX6_teach_50 rfl ?_
      cases h
      exact v_iret G F dX6_teach_51 rfl (Nat.le_refl _)
    · rw [if_neg q6] at h
      refine v_ldc G (-1000001 : Int32) dX6_teach_16 w326 ?_
      cases h
      exact v_iret G F dX6_teach_18 rfl (Nat.le_refl _)
/-! X6_forget -/
def m_X6_forget (M : mM) (x0 : Nat) (x1 : Int32) (x2 : Int32) : Option (mM × Int32) :=
  if isO M x0 6 = true then
  (m_X6_noPupil M x0 x1).bind fun v2 =>
  if v2 = (0 : Int32) then (
    if isO M x0 6 = true then
    (m_X6_noSubject M x0 x2).bind fun v5 =>
    if v5 = (0 : Int32) then (
      (gR M x0 6 1).bind fun b7 =>
      if isO M b7 5 = true then
      (m_X5_knowsIt M b7 x1 x2).bind fun v10 =>
      if v10 = (0 : Int32) then (
        some (M, (-1000002 : Int32))
      ) else (
        (gR M x0 6 3).bind fun b12 =>
        (gR M x0 6 1).bind fun b14 =>
        if isO M b12 0 = true then
        (m_X0_keep M b12 b14).bind fun M17 =>
        (gR M17 x0 6 1).bind fun b18 =>
        (gR M17 b18 5 8).bind fun b20 =>
        (ldI M17 b20 x1).bind fun v23 =>
        (stI M17 b20 x1 (v23 &&& (((1 : Int32) <<< (x2 &&& 31)) ^^^ (-1 : Int32)))).bind fun M24 =>
        (gR M24 x0 6 1).bind fun b26 =>
        (gR M24 b26 5 8).bind fun b28 =>
        (ldI M24 b28 x1).bind fun v31 =>
        some (M24, v31)
        else none
      )
      else none
    ) else (
      some (M, (-1000001 : Int32))
    )
    else none
  ) else (
    some (M, (-1000001 : Int32))
  )
  else none
theorem e_X6_forget {Z : zZ} {M : mM} {N : mM} {x0 : Nat} {x1 : Int32} {x2 : Int32} {r : Int32} (h : m_X6_forget M x0 x1 x2 = some (N, r)) : EM Z yX6_forget cX6_forget 3 (some .int) 3 0 0 [.ref x0, .int x1, .int x2] M N (some (.int r)) := by
  refine EM_of my_X6_forget (Nat.le_of_ble_eq_true rfl) (fun X G F => ?_)
  show V X Z M 0 0 0 [some (.ref x0), some (.int x1), some (.int x2)] []
  unfold m_X6_forget at h
  refine v_aload_n G dX6_forget_0 rfl ?_
  refine v_iload_n G dX6_forget_1 rfl ?_
  obtain ⟨q35, h⟩ := if_s h
  obtain ⟨v2, q1, h⟩ := bi_ h
  refine v_callV0 (e_X6_noPupil q1) G cl6 my_X6_noPupil rfl w512 w13 w510 dX6_forget_2 q35 rfl (Nat.le_of_ble_eq_true rfl) rfl (Nat.le_of_ble_eq_true rfl) (Nat.zero_le _) (Nat.zero_le _) ?_
  refine v_if_ne 16 G dX6_forget_5 (by decide) (fun q3 => ?_) (fun q3 => ?_)
  · rw [if_neg q3] at h
    refine v_ldc G (-1000001 : Int32) dX6_forget_16 w326 ?_
    cases h
    exact v_iret G F dX6_forget_18 rfl (Nat.le_refl _)
  · rw [if_pos q3] at h
    refine v_aload_n G dX6_forget_8 rfl ?_
    refine v_iload_n G dX6_forget_9 rfl ?_
    obtain ⟨q34, h⟩ := if_s h
    obtain ⟨v5, q4, h⟩ := bi_ h
    refine v_callV0 (e_X6_noSubject q4) G cl6 my_X6_noSubject rfl w532 w15 w530 dX6_forget_10 q34 rfl (Nat.le_of_ble_eq_true rfl) rfl (Nat.le_of_ble_eq_true rfl) (Nat.zero_le _) (Nat.zero_le _) ?_
    refine v_if_eq 19 G dX6_forget_13 (by decide) (fun q6 => ?_) (fun q6 => ?_)
    · rw [if_pos q6] at h
      refine v_aload_n G dX6_forget_19 rfl ?_
      obtain ⟨b7, q8, h⟩ := bi_ h
      refine v_getR (f := 1) G cl6 dX6_forget_20 w292 (by decide) (by decide) q8 ?_
      refine v_iload_n G dX6_forget_23 rfl ?_
      refine v_iload_n G dX6_forget_24 rfl ?_
      obtain ⟨q33, h⟩ := if_s h
      obtain ⟨v10, q9, h⟩ := bi_ h
      refine v_callV0 (e_X5_knowsIt q9) G cl5 my_X5_knowsIt rfl w469 w470 w538 dX6_forget_25 q33 rfl (Nat.le_of_ble_eq_true rfl) rfl (Nat.le_of_ble_eq_true rfl) (Nat.zero_le _) (Nat.zero_le _) ?_
      refine v_if_ne 34 G dX6_forget_28 (by decide) (fun q11 => ?_) (fun q11 => ?_)
      · rw [if_neg q11] at h
        refine v_aload_n G dX6_forget_34 rfl ?_
        obtain ⟨b12, q13, h⟩ := bi_ h
        refine v_getR (f := 3) G cl6 dX6_forget_35 w294 (by decide) (by decide) q13 ?_
        refine v_aload_n G dX6_forget_38 rfl ?_
        obtain ⟨b14, q15, h⟩ := bi_ h
        refine v_getR (f := 1) G cl6 dX6_forget_39 w292 (by decide) (by decide) q15 ?_
        obtain ⟨q32, h⟩ := if_s h
        obtain ⟨M17, q16, h⟩ := bi_ h
        refine v_callV0 (e_X0_keep q16) G cl0 my_X0_keep rfl w450 w451 w449 dX6_forget_42 q32 rfl (Nat.le_of_ble_eq_true rfl) rfl (Nat.le_of_ble_eq_true rfl) (Nat.zero_le _) (Nat.zero_le _) ?_
        refine v_aload_n G dX6_forget_45 rfl ?_
        obtain ⟨b18, q19, h⟩ := bi_ h
        refine v_getR (f := 1) G cl6 dX6_forget_46 w292 (by decide) (by decide) q19 ?_
        obtain ⟨b20, q21, h⟩ := bi_ h
        refine v_getR (f := 8) G cl5 dX6_forget_49 w117 (by decide) (by decide) q21 ?_
        refine v_iload_n G dX6_forget_52 rfl ?_
        refine v_dup2 G dX6_forget_53 rfl rfl ?_
        obtain ⟨v23, q22, h⟩ := bi_ h
        refine v_iald G dX6_forget_54 q22 ?_
        refine v_iconst G (1 : Int32) dX6_forget_55 (by decide) ?_
        refine v_iload_n G dX6_forget_56 rfl ?_
        refine v_ishl G dX6_forget_57 ?_
        refine v_iconst G (-1 : Int32) dX6_forget_58 (by decide) ?_
        refine v_ixor G dX6_forget_59 ?_
        refine v_iand G dX6_forget_60 ?_
        obtain ⟨M24, q25, h⟩ := bi_ h
        refine v_iast G dX6_forget_61 q25 ?_
        refine v_aload_n G dX6_forget_62 rfl ?_
        obtain ⟨b26, q27, h⟩ := bi_ h
        refine v_getR (f := 1) G cl6 dX6_forget_63 w292 (by decide) (by decide) q27 ?_
        obtain ⟨b28, q29, h⟩ := bi_ h
        refine v_getR (f := 8) G cl5 dX6_forget_66 w117 (by decide) (by decide) q29 ?_
        refine v_iload_n G dX6_forget_69 rfl ?_
        obtain ⟨v31, q30, h⟩ := bi_ h
        refine v_iald G dX6_forget_70 q30 ?_
        cases h
        exact v_iret G F dX6_forget_71 rfl (Nat.le_refl _)
      · rw [if_pos q11] at h
        refine v_ldc G (-1000002 : Int32) dX6_forget_31 w440 ?_
        cases h
        exact v_iret G F dX6_forget_33 rfl (Nat.le_refl _)
    · rw [if_neg q6] at h
      refine v_ldc G (-1000001 : Int32) dX6_forget_16 w326 ?_
      cases h
      exact v_iret G F dX6_forget_18 rfl (Nat.le_refl _)
/-! X6_tell -/
def m_X6_tell (M : mM) (x0 : Nat) (x1 : Int32) (x2 : Int32) : Option (mM × Int32) :=
  if isO M x0 6 = true then
  (m_X6_noPupil M x0 x1).bind fun v2 =>
  if v2 = (0 : Int32) then (
    if isO M x0 6 = true then
    (m_X6_noSubject M x0 x2).bind fun v5 =>
    if v5 = (0 : Int32) then (
      (gR M x0 6 1).bind fun b7 =>
      if isO M b7 5 = true then
      (m_X5_knowsIt M b7 x1 x2).bind fun v10 =>
      if v10 = (0 : Int32) then (
        (gR M x0 6 3).bind fun b12 =>
        (gR M x0 6 1).bind fun b14 =>
        if isO M b12 0 = true then
        (m_X0_keep M b12 b14).bind fun M17 =>
        (gR M17 x0 6 1).bind fun b18 =>
        (gR M17 b18 5 8).bind fun b20 =>
        (ldI M17 b20 x1).bind fun v23 =>
        (stI M17 b20 x1 (v23 ||| ((1 : Int32) <<< (x2 &&& 31)))).bind fun M24 =>
        (gR M24 x0 6 1).bind fun b26 =>
        (gR M24 b26 5 8).bind fun b28 =>
        (ldI M24 b28 x1).bind fun v31 =>
        some (M24, v31)
        else none
      ) else (
        some (M, (-1000002 : Int32))
      )
      else none
    ) else (
      some (M, (-1000001 : Int32))
    )
    else none
  ) else (
    some (M, (-1000001 : Int32))
  )
  else none
theorem e_X6_tell {Z : zZ} {M : mM} {N : mM} {x0 : Nat} {x1 : Int32} {x2 : Int32} {r : Int32} (h : m_X6_tell M x0 x1 x2 = some (N, r)) : EM Z yX6_tell cX6_tell 3 (some .int) 3 0 0 [.ref x0, .int x1, .int x2] M N (some (.int r)) := by
  refine EM_of my_X6_tell (Nat.le_of_ble_eq_true rfl) (fun X G F => ?_)
  show V X Z M 0 0 0 [some (.ref x0), some (.int x1), some (.int x2)] []
  unfold m_X6_tell at h
  refine v_aload_n G dX6_tell_0 rfl ?_
  refine v_iload_n G dX6_tell_1 rfl ?_
  obtain ⟨q35, h⟩ := if_s h
  obtain ⟨v2, q1, h⟩ := bi_ h
  refine v_callV0 (e_X6_noPupil q1) G cl6 my_X6_noPupil rfl w512 w13 w510 dX6_tell_2 q35 rfl (Nat.le_of_ble_eq_true rfl) rfl (Nat.le_of_ble_eq_true rfl) (Nat.zero_le _) (Nat.zero_le _) ?_
  refine v_if_ne 16 G dX6_tell_5 (by decide) (fun q3 => ?_) (fun q3 => ?_)
  · rw [if_neg q3] at h
    refine v_ldc G (-1000001 : Int32) dX6_tell_16 w326 ?_
    cases h
    exact v_iret G F dX6_tell_18 rfl (Nat.le_refl _)
  · rw [if_pos q3] at h
    refine v_aload_n G dX6_tell_8 rfl ?_
    refine v_iload_n G dX6_tell_9 rfl ?_
    obtain ⟨q34, h⟩ := if_s h
    obtain ⟨v5, q4, h⟩ := bi_ h
    refine v_callV0 (e_X6_noSubject q4) G cl6 my_X6_noSubject rfl w532 w15 w530 dX6_tell_10 q34 rfl (Nat.le_of_ble_eq_true rfl) rfl (Nat.le_of_ble_eq_true rfl) (Nat.zero_le _) (Nat.zero_le _) ?_
    refine v_if_eq 19 G dX6_tell_13 (by decide) (fun q6 => ?_) (fun q6 => ?_)
    · rw [if_pos q6] at h
      refine v_aload_n G dX6_tell_19 rfl ?_
      obtain ⟨b7, q8, h⟩ := bi_ h
      refine v_getR (f := 1) G cl6 dX6_tell_20 w292 (by decide) (by decide) q8 ?_
      refine v_iload_n G dX6_tell_23 rfl ?_
      refine v_iload_n G dX6_tell_24 rfl ?_
      obtain ⟨q33, h⟩ := if_s h
      obtain ⟨v10, q9, h⟩ := bi_ h
      refine v_callV0 (e_X5_knowsIt q9) G cl5 my_X5_knowsIt rfl w469 w470 w538 dX6_tell_25 q33 rfl (Nat.le_of_ble_eq_true rfl) rfl (Nat.le_of_ble_eq_true rfl) (Nat.zero_le _) (Nat.zero_le _) ?_
      refine v_if_eq 34 G dX6_tell_28 (by decide) (fun q11 => ?_) (fun q11 => ?_)
      · rw [if_pos q11] at h
        refine v_aload_n G dX6_tell_34 rfl ?_
        obtain ⟨b12, q13, h⟩ := bi_ h
        refine v_getR (f := 3) G cl6 dX6_tell_35 w294 (by decide) (by decide) q13 ?_
        refine v_aload_n G dX6_tell_38 rfl ?_
        obtain ⟨b14, q15, h⟩ := bi_ h
        refine v_getR (f := 1) G cl6 dX6_tell_39 w292 (by decide) (by decide) q15 ?_
        obtain ⟨q32, h⟩ := if_s h
        obtain ⟨M17, q16, h⟩ := bi_ h
        refine v_callV0 (e_X0_keep q16) G cl0 my_X0_keep rfl w450 w451 w449 dX6_tell_42 q32 rfl (Nat.le_of_ble_eq_true rfl) rfl (Nat.le_of_ble_eq_true rfl) (Nat.zero_le _) (Nat.zero_le _) ?_
        refine v_aload_n G dX6_tell_45 rfl ?_
        obtain ⟨b18, q19, h⟩ := bi_ h
        refine v_getR (f := 1) G cl6 dX6_tell_46 w292 (by decide) (by decide) q19 ?_
        obtain ⟨b20, q21, h⟩ := bi_ h
        refine v_getR (f := 8) G cl5 dX6_tell_49 w117 (by decide) (by decide) q21 ?_
        refine v_iload_n G dX6_tell_52 rfl ?_
        refine v_dup2 G dX6_tell_53 rfl rfl ?_
        obtain ⟨v23, q22, h⟩ := bi_ h
        refine v_iald G dX6_tell_54 q22 ?_
        refine v_iconst G (1 : Int32) dX6_tell_55 (by decide) ?_
        refine v_iload_n G dX6_tell_56 rfl ?_
        refine v_ishl G dX6_tell_57 ?_
        refine v_ior G dX6_tell_58 ?_
        obtain ⟨M24, q25, h⟩ := bi_ h
        refine v_iast G dX6_tell_59 q25 ?_
        refine v_aload_n G dX6_tell_60 rfl ?_
        obtain ⟨b26, q27, h⟩ := bi_ h
        refine v_getR (f := 1) G cl6 dX6_tell_61 w292 (by decide) (by decide) q27 ?_
        obtain ⟨b28, q29, h⟩ := bi_ h
        refine v_getR (f := 8) G cl5 dX6_tell_64 w117 (by decide) (by decide) q29 ?_
        refine v_iload_n G dX6_tell_67 rfl ?_
        obtain ⟨v31, q30, h⟩ := bi_ h
        refine v_iald G dX6_tell_68 q30 ?_
        cases h
        exact v_iret G F dX6_tell_69 rfl (Nat.le_refl _)
      · rw [if_neg q11] at h
        refine v_ldc G (-1000002 : Int32) dX6_tell_31 w440 ?_
        cases h
        exact v_iret G F dX6_tell_33 rfl (Nat.le_refl _)
    · rw [if_neg q6] at h
      refine v_ldc G (-1000001 : Int32) dX6_tell_16 w326 ?_
      cases h
      exact v_iret G F dX6_tell_18 rfl (Nat.le_refl _)
/-! X6_pupil -/
def m_X6_pupil (M : mM) (x0 : Nat) (x1 : Int32) (x2 : Int32) : Option Int32 :=
  if isO M x0 6 = true then
  (m_X6_noPupil M x0 x1).bind fun v2 =>
  if v2 = (0 : Int32) then (
    if x2 = (0 : Int32) then (
      (gR M x0 6 1).bind fun b5 =>
      (gR M b5 5 8).bind fun b7 =>
      (ldI M b7 x1).bind fun v10 =>
      some v10
    ) else
    if x2 = (1 : Int32) then (
      (gR M x0 6 1).bind fun b12 =>
      if isO M b12 5 = true then
      (m_X5_seatOf M b12 x1).bind fun v15 =>
      some v15
      else none
    ) else
    if x2 = (2 : Int32) then (
      (gR M x0 6 1).bind fun b18 =>
      if isO M b18 5 = true then
      (m_X5_form M b18 x1).bind fun v21 =>
      some v21
      else none
    ) else
    if x2 = (3 : Int32) then (
      (gR M x0 6 1).bind fun b24 =>
      if isO M b24 5 = true then
      (m_X5_hears M b24 x1).bind fun v27 =>
      if v27 = (0 : Int32) then (
        some (0 : Int32)
      ) else (
        some (1 : Int32)
      )
      else none
    ) else
    if x2 = (4 : Int32) then (
      (gR M x0 6 1).bind fun b31 =>
      (gR M x0 6 1).bind fun b33 =>
      (gR M b33 5 8).bind fun b35 =>
      (ldI M b35 x1).bind fun v38 =>
      if isO M b31 5 = true then
      (m_X5_graspable M b31 v38).bind fun v40 =>
      some v40
      else none
    ) else
    (
      some (-1000001 : Int32)
    )
  ) else (
    some (-1000001 : Int32)
  )
  else none
theorem e_X6_pupil {Z : zZ} {M : mM} {x0 : Nat} {x1 : Int32} {x2 : Int32} {r : Int32} (h : m_X6_pupil M x0 x1 x2 = some r) : EM Z yX6_pupil cX6_pupil 3 (some .int) 3 0 0 [.ref x0, .int x1, .int x2] M M (some (.int r)) := by
  refine EM_of my_X6_pupil (Nat.le_of_ble_eq_true rfl) (fun X G F => ?_)
  show V X Z M 0 0 0 [some (.ref x0), some (.int x1), some (.int x2)] []
  unfold m_X6_pupil at h
  refine v_aload_n G dX6_pupil_0 rfl ?_
  refine v_iload_n G dX6_pupil_1 rfl ?_
  obtain ⟨q42, h⟩ := if_s h
  obtain ⟨v2, q1, h⟩ := bi_ h
  refine v_callV0 (e_X6_noPupil q1) G cl6 my_X6_noPupil rfl w512 w13 w510 dX6_pupil_2 q42 rfl (Nat.le_of_ble_eq_true rfl) rfl (Nat.le_of_ble_eq_true rfl) (Nat.zero_le _) (Nat.zero_le _) ?_
  refine v_if_eq 11 G dX6_pupil_5 (by decide) (fun q3 => ?_) (fun q3 => ?_)
  · rw [if_pos q3] at h
    refine v_iload_n G dX6_pupil_11 rfl ?_
    rcases Decidable.em (x2 = (0 : Int32)) with q4 | q4
    · rw [if_pos q4] at h
      refine v_tabI (off := 36) 48 G dX6_pupil_12 (by rw [q4]; decide) (by rw [q4]; decide) (by rw [q4]; rfl) (by decide) ?_
      refine v_aload_n G dX6_pupil_48 rfl ?_
      obtain ⟨b5, q6, h⟩ := bi_ h
      refine v_getR (f := 1) G cl6 dX6_pupil_49 w292 (by decide) (by decide) q6 ?_
      obtain ⟨b7, q8, h⟩ := bi_ h
      refine v_getR (f := 8) G cl5 dX6_pupil_52 w117 (by decide) (by decide) q8 ?_
      refine v_iload_n G dX6_pupil_55 rfl ?_
      obtain ⟨v10, q9, h⟩ := bi_ h
      refine v_iald G dX6_pupil_56 q9 ?_
      cases h
      exact v_iret G F dX6_pupil_57 rfl (Nat.le_refl _)
    · rw [if_neg q4] at h
      rcases Decidable.em (x2 = (1 : Int32)) with q11 | q11
      · rw [if_pos q11] at h
        refine v_tabI (off := 46) 58 G dX6_pupil_12 (by rw [q11]; decide) (by rw [q11]; decide) (by rw [q11]; rfl) (by decide) ?_
        refine v_aload_n G dX6_pupil_58 rfl ?_
        obtain ⟨b12, q13, h⟩ := bi_ h
        refine v_getR (f := 1) G cl6 dX6_pupil_59 w292 (by decide) (by decide) q13 ?_
        refine v_iload_n G dX6_pupil_62 rfl ?_
        obtain ⟨q16, h⟩ := if_s h
        obtain ⟨v15, q14, h⟩ := bi_ h
        refine v_callV0 (e_X5_seatOf q14) G cl5 my_X5_seatOf rfl w515 w516 w514 dX6_pupil_63 q16 rfl (Nat.le_of_ble_eq_true rfl) rfl (Nat.le_of_ble_eq_true rfl) (Nat.zero_le _) (Nat.zero_le _) ?_
        cases h
        exact v_iret G F dX6_pupil_66 rfl (Nat.le_refl _)
      · rw [if_neg q11] at h
        rcases Decidable.em (x2 = (2 : Int32)) with q17 | q17
        · rw [if_pos q17] at h
          refine v_tabI (off := 55) 67 G dX6_pupil_12 (by rw [q17]; decide) (by rw [q17]; decide) (by rw [q17]; rfl) (by decide) ?_
          refine v_aload_n G dX6_pupil_67 rfl ?_
          obtain ⟨b18, q19, h⟩ := bi_ h
          refine v_getR (f := 1) G cl6 dX6_pupil_68 w292 (by decide) (by decide) q19 ?_
          refine v_iload_n G dX6_pupil_71 rfl ?_
          obtain ⟨q22, h⟩ := if_s h
          obtain ⟨v21, q20, h⟩ := bi_ h
          refine v_callV0 (e_X5_form q20) G cl5 my_X5_form rfl w499 w500 w547 dX6_pupil_72 q22 rfl (Nat.le_of_ble_eq_true rfl) rfl (Nat.le_of_ble_eq_true rfl) (Nat.zero_le _) (Nat.zero_le _) ?_
          cases h
          exact v_iret G F dX6_pupil_75 rfl (Nat.le_refl _)
        · rw [if_neg q17] at h
          rcases Decidable.em (x2 = (3 : Int32)) with q23 | q23
          · rw [if_pos q23] at h
            refine v_tabI (off := 64) 76 G dX6_pupil_12 (by rw [q23]; decide) (by rw [q23]; decide) (by rw [q23]; rfl) (by decide) ?_
            refine v_aload_n G dX6_pupil_76 rfl ?_
            obtain ⟨b24, q25, h⟩ := bi_ h
            refine v_getR (f := 1) G cl6 dX6_pupil_77 w292 (by decide) (by decide) q25 ?_
            refine v_iload_n G dX6_pupil_80 rfl ?_
            obtain ⟨q29, h⟩ := if_s h
            obtain ⟨v27, q26, h⟩ := bi_ h
            refine v_callV0 (e_X5_hears q26) G cl5 my_X5_hears rfl w549 w550 w548 dX6_pupil_81 q29 rfl (Nat.le_of_ble_eq_true rfl) rfl (Nat.le_of_ble_eq_true rfl) (Nat.zero_le _) (Nat.zero_le _) ?_
            refine v_if_eq 91 G dX6_pupil_84 (by decide) (fun q28 => ?_) (fun q28 => ?_)
            · rw [if_pos q28] at h
              refine v_iconst G (0 : Int32) dX6_pupil_91 (by decide) ?_
              cases h
              exact v_iret G F dX6_pupil_92 rfl (Nat.le_refl _)
            · rw [if_neg q28] at h
              refine v_iconst G (1 : Int32) dX6_pupil_87 (by decide) ?_
              refine v_goto 92 G dX6_pupil_88 (by decide) ?_
              cases h
              exact v_iret G F dX6_pupil_92 rfl (Nat.le_refl _)
          · rw [if_neg q23] at h
            rcases Decidable.em (x2 = (4 : Int32)) with q30 | q30
            · rw [if_pos q30] at h
              refine v_tabI (off := 81) 93 G dX6_pupil_12 (by rw [q30]; decide) (by rw [q30]; decide) (by rw [q30]; rfl) (by decide) ?_
              refine v_aload_n G dX6_pupil_93 rfl ?_
              obtain ⟨b31, q32, h⟩ := bi_ h
              refine v_getR (f := 1) G cl6 dX6_pupil_94 w292 (by decide) (by decide) q32 ?_
              refine v_aload_n G dX6_pupil_97 rfl ?_
              obtain ⟨b33, q34, h⟩ := bi_ h
              refine v_getR (f := 1) G cl6 dX6_pupil_98 w292 (by decide) (by decide) q34 ?_
              obtain ⟨b35, q36, h⟩ := bi_ h
              refine v_getR (f := 8) G cl5 dX6_pupil_101 w117 (by decide) (by decide) q36 ?_
              refine v_iload_n G dX6_pupil_104 rfl ?_
              obtain ⟨v38, q37, h⟩ := bi_ h
              refine v_iald G dX6_pupil_105 q37 ?_
              obtain ⟨q41, h⟩ := if_s h
              obtain ⟨v40, q39, h⟩ := bi_ h
              refine v_callV0 (e_X5_graspable q39) G cl5 my_X5_graspable rfl w554 w555 w553 dX6_pupil_106 q41 rfl (Nat.le_of_ble_eq_true rfl) rfl (Nat.le_of_ble_eq_true rfl) (Nat.zero_le _) (Nat.zero_le _) ?_
              cases h
              exact v_iret G F dX6_pupil_109 rfl (Nat.le_refl _)
            · rw [if_neg q30] at h
              have eq4 : (x2).toInt ≠ 0 := i32_ne q4
              have eq11 : (x2).toInt ≠ 1 := i32_ne q11
              have eq17 : (x2).toInt ≠ 2 := i32_ne q17
              have eq23 : (x2).toInt ≠ 3 := i32_ne q23
              have eq30 : (x2).toInt ≠ 4 := i32_ne q30
              refine v_tabO 110 G dX6_pupil_12 (by omega) (by decide) ?_
              refine v_ldc G (-1000001 : Int32) dX6_pupil_110 w326 ?_
              cases h
              exact v_iret G F dX6_pupil_112 rfl (Nat.le_refl _)
  · rw [if_neg q3] at h
    refine v_ldc G (-1000001 : Int32) dX6_pupil_8 w326 ?_
    cases h
    exact v_iret G F dX6_pupil_10 rfl (Nat.le_refl _)
/-! X6_heard -/
def m_X6_heard (M : mM) (x0 : Nat) (x1 : Int32) (x2 : Int32) : Option Int32 :=
  if isO M x0 6 = true then
  (m_X6_noPupil M x0 x1).bind fun v2 =>
  if v2 = (0 : Int32) then (
    if isO M x0 6 = true then
    (m_X6_noSubject M x0 x2).bind fun v5 =>
    if v5 = (0 : Int32) then (
      (gR M x0 6 1).bind fun b7 =>
      if isO M b7 5 = true then
      (m_X5_timesHeard M b7 x1 x2).bind fun v10 =>
      some v10
      else none
    ) else (
      some (-1000001 : Int32)
    )
    else none
  ) else (
    some (-1000001 : Int32)
  )
  else none
theorem e_X6_heard {Z : zZ} {M : mM} {x0 : Nat} {x1 : Int32} {x2 : Int32} {r : Int32} (h : m_X6_heard M x0 x1 x2 = some r) : EM Z yX6_heard cX6_heard 3 (some .int) 2 0 0 [.ref x0, .int x1, .int x2] M M (some (.int r)) := by
  refine EM_of my_X6_heard (Nat.le_of_ble_eq_true rfl) (fun X G F => ?_)
  show V X Z M 0 0 0 [some (.ref x0), some (.int x1), some (.int x2)] []
  unfold m_X6_heard at h
  refine v_aload_n G dX6_heard_0 rfl ?_
  refine v_iload_n G dX6_heard_1 rfl ?_
  obtain ⟨q13, h⟩ := if_s h
  obtain ⟨v2, q1, h⟩ := bi_ h
  refine v_callV0 (e_X6_noPupil q1) G cl6 my_X6_noPupil rfl w512 w13 w510 dX6_heard_2 q13 rfl (Nat.le_of_ble_eq_true rfl) rfl (Nat.le_of_ble_eq_true rfl) (Nat.zero_le _) (Nat.zero_le _) ?_
  refine v_if_ne 16 G dX6_heard_5 (by decide) (fun q3 => ?_) (fun q3 => ?_)
  · rw [if_neg q3] at h
    refine v_ldc G (-1000001 : Int32) dX6_heard_16 w326 ?_
    cases h
    exact v_iret G F dX6_heard_18 rfl (Nat.le_refl _)
  · rw [if_pos q3] at h
    refine v_aload_n G dX6_heard_8 rfl ?_
    refine v_iload_n G dX6_heard_9 rfl ?_
    obtain ⟨q12, h⟩ := if_s h
    obtain ⟨v5, q4, h⟩ := bi_ h
    refine v_callV0 (e_X6_noSubject q4) G cl6 my_X6_noSubject rfl w532 w15 w530 dX6_heard_10 q12 rfl (Nat.le_of_ble_eq_true rfl) rfl (Nat.le_of_ble_eq_true rfl) (Nat.zero_le _) (Nat.zero_le _) ?_
    refine v_if_eq 19 G dX6_heard_13 (by decide) (fun q6 => ?_) (fun q6 => ?_)
    · rw [if_pos q6] at h
      refine v_aload_n G dX6_heard_19 rfl ?_
      obtain ⟨b7, q8, h⟩ := bi_ h
      refine v_getR (f := 1) G cl6 dX6_heard_20 w292 (by decide) (by decide) q8 ?_
      refine v_iload_n G dX6_heard_23 rfl ?_
      refine v_iload_n G dX6_heard_24 rfl ?_
      obtain ⟨q11, h⟩ := if_s h
      obtain ⟨v10, q9, h⟩ := bi_ h
      refine v_callV0 (e_X5_timesHeard q9) G cl5 my_X5_timesHeard rfl w489 w490 w561 dX6_heard_25 q11 rfl (Nat.le_of_ble_eq_true rfl) rfl (Nat.le_of_ble_eq_true rfl) (Nat.zero_le _) (Nat.zero_le _) ?_
      cases h
      exact v_iret G F dX6_heard_28 rfl (Nat.le_refl _)
    · rw [if_neg q6] at h
      refine v_ldc G (-1000001 : Int32) dX6_heard_16 w326 ?_
      cases h
      exact v_iret G F dX6_heard_18 rfl (Nat.le_refl _)
/-! X6_subject -/
def m_X6_subject (M : mM) (x0 : Nat) (x1 : Int32) : Option Int32 :=
  if isO M x0 6 = true then
  (m_X6_noSubject M x0 x1).bind fun v2 =>
  if v2 = (0 : Int32) then (
    (gR M x0 6 1).bind fun b4 =>
    (gR M b4 5 5).bind fun b6 =>
    (ldI M b6 x1).bind fun v9 =>
    some v9
  ) else (
    some (-1000001 : Int32)
  )
  else none
theorem e_X6_subject {Z : zZ} {M : mM} {x0 : Nat} {x1 : Int32} {r : Int32} (h : m_X6_subject M x0 x1 = some r) : EM Z yX6_subject cX6_subject 2 (some .int) 2 0 0 [.ref x0, .int x1] M M (some (.int r)) := by
  refine EM_of my_X6_subject (Nat.le_of_ble_eq_true rfl) (fun X G F => ?_)
  show V X Z M 0 0 0 [some (.ref x0), some (.int x1)] []
  unfold m_X6_subject at h
  refine v_aload_n G dX6_subject_0 rfl ?_
  refine v_iload_n G dX6_subject_1 rfl ?_
  obtain ⟨q10, h⟩ := if_s h
  obtain ⟨v2, q1, h⟩ := bi_ h
  refine v_callV0 (e_X6_noSubject q1) G cl6 my_X6_noSubject rfl w532 w15 w530 dX6_subject_2 q10 rfl (Nat.le_of_ble_eq_true rfl) rfl (Nat.le_of_ble_eq_true rfl) (Nat.zero_le _) (Nat.zero_le _) ?_
  refine v_if_eq 13 G dX6_subject_5 (by decide) (fun q3 => ?_) (fun q3 => ?_)
  · rw [if_pos q3] at h
    refine v_aload_n G dX6_subject_13 rfl ?_
    obtain ⟨b4, q5, h⟩ := bi_ h
    refine v_getR (f := 1) G cl6 dX6_subject_14 w292 (by decide) (by decide) q5 ?_
    obtain ⟨b6, q7, h⟩ := bi_ h
    refine v_getR (f := 5) G cl5 dX6_subject_17 w105 (by decide) (by decide) q7 ?_
    refine v_iload_n G dX6_subject_20 rfl ?_
    obtain ⟨v9, q8, h⟩ := bi_ h
    refine v_iald G dX6_subject_21 q8 ?_
    cases h
    exact v_iret G F dX6_subject_22 rfl (Nat.le_refl _)
  · rw [if_neg q3] at h
    refine v_ldc G (-1000001 : Int32) dX6_subject_8 w326 ?_
    refine v_goto 22 G dX6_subject_10 (by decide) ?_
    cases h
    exact v_iret G F dX6_subject_22 rfl (Nat.le_refl _)
/-! X6_lesson -/
def m_X6_lesson (M : mM) (x0 : Nat) (x1 : Int32) : Option Int32 :=
  if isO M x0 6 = true then
  (m_X6_noSchool M x0).bind fun v2 =>
  if v2 = (0 : Int32) then (
    (m_X6_outside M x1 (0 : Int32) (60 : Int32)).bind fun v5 =>
    if v5 = (0 : Int32) then (
      (gR M x0 6 1).bind fun b7 =>
      (gR M x0 6 1).bind fun b9 =>
      (gI M b9 5 4).bind fun v11 =>
      if isO M b7 5 = true then
      (m_X5_taughtOn M b7 (v11 + x1)).bind fun v14 =>
      some v14
      else none
    ) else (
      some (-1000001 : Int32)
    )
  ) else (
    some (-1000002 : Int32)
  )
  else none
theorem e_X6_lesson {Z : zZ} {M : mM} {x0 : Nat} {x1 : Int32} {r : Int32} (h : m_X6_lesson M x0 x1 = some r) : EM Z yX6_lesson cX6_lesson 2 (some .int) 1 0 0 [.ref x0, .int x1] M M (some (.int r)) := by
  refine EM_of my_X6_lesson (Nat.le_of_ble_eq_true rfl) (fun X G F => ?_)
  show V X Z M 0 0 0 [some (.ref x0), some (.int x1)] []
  unfold m_X6_lesson at h
  refine v_aload_n G dX6_lesson_0 rfl ?_
  obtain ⟨q16, h⟩ := if_s h
  obtain ⟨v2, q1, h⟩ := bi_ h
  refine v_callV0 (e_X6_noSchool q1) G cl6 my_X6_noSchool rfl w447 w9 w445 dX6_lesson_1 q16 rfl (Nat.le_of_ble_eq_true rfl) rfl (Nat.le_of_ble_eq_true rfl) (Nat.zero_le _) (Nat.zero_le _) ?_
  refine v_if_eq 10 G dX6_lesson_4 (by decide) (fun q3 => ?_) (fun q3 => ?_)
  · rw [if_pos q3] at h
    refine v_iload_n G dX6_lesson_10 rfl ?_
    refine v_iconst G (0 : Int32) dX6_lesson_11 (by decide) ?_
    refine v_bipush G (60 : Int32) dX6_lesson_12 (by decide) ?_
    obtain ⟨v5, q4, h⟩ := bi_ h
    refine v_callS0 (e_X6_outside q4) G my_X6_outside w324 w323 dX6_lesson_14 rfl (Nat.le_of_ble_eq_true rfl) rfl (Nat.le_of_ble_eq_true rfl) (Nat.zero_le _) (Nat.zero_le _) ?_
    refine v_if_eq 25 G dX6_lesson_17 (by decide) (fun q6 => ?_) (fun q6 => ?_)
    · rw [if_pos q6] at h
      refine v_aload_n G dX6_lesson_25 rfl ?_
      obtain ⟨b7, q8, h⟩ := bi_ h
      refine v_getR (f := 1) G cl6 dX6_lesson_26 w292 (by decide) (by decide) q8 ?_
      refine v_aload_n G dX6_lesson_29 rfl ?_
      obtain ⟨b9, q10, h⟩ := bi_ h
      refine v_getR (f := 1) G cl6 dX6_lesson_30 w292 (by decide) (by decide) q10 ?_
      obtain ⟨v11, q12, h⟩ := bi_ h
      refine v_getI (f := 4) G cl5 dX6_lesson_33 w102 (by decide) (by decide) q12 ?_
      refine v_iload_n G dX6_lesson_36 rfl ?_
      refine v_iadd G dX6_lesson_37 ?_
      obtain ⟨q15, h⟩ := if_s h
      obtain ⟨v14, q13, h⟩ := bi_ h
      refine v_callV0 (e_X5_taughtOn q13) G cl5 my_X5_taughtOn rfl w458 w459 w570 dX6_lesson_38 q15 rfl (Nat.le_of_ble_eq_true rfl) rfl (Nat.le_of_ble_eq_true rfl) (Nat.zero_le _) (Nat.zero_le _) ?_
      cases h
      exact v_iret G F dX6_lesson_41 rfl (Nat.le_refl _)
    · rw [if_neg q6] at h
      refine v_ldc G (-1000001 : Int32) dX6_lesson_20 w326 ?_
      refine v_goto 41 G dX6_lesson_22 (by decide) ?_
      cases h
      exact v_iret G F dX6_lesson_41 rfl (Nat.le_refl _)
  · rw [if_neg q3] at h
    refine v_ldc G (-1000002 : Int32) dX6_lesson_7 w440 ?_
    cases h
    exact v_iret G F dX6_lesson_9 rfl (Nat.le_refl _)
/-! X6_ahead -/
def m_X6_ahead (M : mM) (x0 : Nat) (x1 : Int32) (x2 : Int32) (x3 : Int32) : Option (mM × Int32) :=
  if isO M x0 6 = true then
  (m_X6_noPupil M x0 x1).bind fun v2 =>
  if v2 = (0 : Int32) then (
    (m_X6_outside M x2 (0 : Int32) (60 : Int32)).bind fun v5 =>
    if v5 = (0 : Int32) then (
      (gR M x0 6 1).bind fun b7 =>
      (gI M b7 5 1).bind fun v9 =>
      (m_X6_outside M x3 (-1 : Int32) (v9 - (1 : Int32))).bind fun v12 =>
      if v12 = (0 : Int32) then (
        (gR M x0 6 5).bind fun b14 =>
        (gR M x0 6 1).bind fun b16 =>
        if isO M b14 2 = true then
        bd2 (m_X2_after M b14 b16 x2) fun M19 b20 =>
        if (0 : Int32) ≤ x3 then (
          if isO M19 b20 5 = true then
          (m_X5_timesHeard M19 b20 x1 x3).bind fun v23 =>
          some (M19, v23)
          else none
        ) else (
          (gR M19 b20 5 8).bind fun b25 =>
          (ldI M19 b25 x1).bind fun v28 =>
          some (M19, v28)
        )
        else none
      ) else (
        some (M, (-1000001 : Int32))
      )
    ) else (
      some (M, (-1000001 : Int32))
    )
  ) else (
    some (M, (-1000001 : Int32))
  )
  else none
theorem e_X6_ahead {Z : zZ} {M : mM} {N : mM} {x0 : Nat} {x1 : Int32} {x2 : Int32} {x3 : Int32} {r : Int32} (h : m_X6_ahead M x0 x1 x2 x3 = some (N, r)) : EM Z yX6_ahead cX6_ahead 5 (some .int) 6 0 0 [.ref x0, .int x1, .int x2, .int x3] M N (some (.int r)) := by
  refine EM_of my_X6_ahead (Nat.le_of_ble_eq_true rfl) (fun X G F => ?_)
  show V X Z M 0 0 0 [some (.ref x0), some (.int x1), some (.int x2), some (.int x3), none] []
  unfold m_X6_ahead at h
  refine v_aload_n G dX6_ahead_0 rfl ?_
  refine v_iload_n G dX6_ahead_1 rfl ?_
  obtain ⟨q30, h⟩ := if_s h
  obtain ⟨v2, q1, h⟩ := bi_ h
  refine v_callV0 (e_X6_noPupil q1) G cl6 my_X6_noPupil rfl w512 w13 w510 dX6_ahead_2 q30 rfl (Nat.le_of_ble_eq_true rfl) rfl (Nat.le_of_ble_eq_true rfl) (Nat.zero_le _) (Nat.zero_le _) ?_
  refine v_if_ne 35 G dX6_ahead_5 (by decide) (fun q3 => ?_) (fun q3 => ?_)
  · rw [if_neg q3] at h
    refine v_ldc G (-1000001 : Int32) dX6_ahead_35 w326 ?_
    cases h
    exact v_iret G F dX6_ahead_37 rfl (Nat.le_refl _)
  · rw [if_pos q3] at h
    refine v_iload_n G dX6_ahead_8 rfl ?_
    refine v_iconst G (0 : Int32) dX6_ahead_9 (by decide) ?_
    refine v_bipush G (60 : Int32) dX6_ahead_10 (by decide) ?_
    obtain ⟨v5, q4, h⟩ := bi_ h
    refine v_callS0 (e_X6_outside q4) G my_X6_outside w324 w323 dX6_ahead_12 rfl (Nat.le_of_ble_eq_true rfl) rfl (Nat.le_of_ble_eq_true rfl) (Nat.zero_le _) (Nat.zero_le _) ?_
    refine v_if_ne 35 G dX6_ahead_15 (by decide) (fun q6 => ?_) (fun q6 => ?_)
    · rw [if_neg q6] at h
      refine v_ldc G (-1000001 : Int32) dX6_ahead_35 w326 ?_
      cases h
      exact v_iret G F dX6_ahead_37 rfl (Nat.le_refl _)
    · rw [if_pos q6] at h
      refine v_iload_n G dX6_ahead_18 rfl ?_
      refine v_iconst G (-1 : Int32) dX6_ahead_19 (by decide) ?_
      refine v_aload_n G dX6_ahead_20 rfl ?_
      obtain ⟨b7, q8, h⟩ := bi_ h
      refine v_getR (f := 1) G cl6 dX6_ahead_21 w292 (by decide) (by decide) q8 ?_
      obtain ⟨v9, q10, h⟩ := bi_ h
      refine v_getI (f := 1) G cl5 dX6_ahead_24 w91 (by decide) (by decide) q10 ?_
      refine v_iconst G (1 : Int32) dX6_ahead_27 (by decide) ?_
      refine v_isub G dX6_ahead_28 ?_
      obtain ⟨v12, q11, h⟩ := bi_ h
      refine v_callS0 (e_X6_outside q11) G my_X6_outside w324 w323 dX6_ahead_29 rfl (Nat.le_of_ble_eq_true rfl) rfl (Nat.le_of_ble_eq_true rfl) (Nat.zero_le _) (Nat.zero_le _) ?_
      refine v_if_eq 38 G dX6_ahead_32 (by decide) (fun q13 => ?_) (fun q13 => ?_)
      · rw [if_pos q13] at h
        refine v_aload_n G dX6_ahead_38 rfl ?_
        obtain ⟨b14, q15, h⟩ := bi_ h
        refine v_getR (f := 5) G cl6 dX6_ahead_39 w296 (by decide) (by decide) q15 ?_
        refine v_aload_n G dX6_ahead_42 rfl ?_
        obtain ⟨b16, q17, h⟩ := bi_ h
        refine v_getR (f := 1) G cl6 dX6_ahead_43 w292 (by decide) (by decide) q17 ?_
        refine v_iload_n G dX6_ahead_46 rfl ?_
        obtain ⟨q29, h⟩ := if_s h
        obtain ⟨M19, b20, q18, h⟩ := bi2_ h
        refine v_callV0 (e_X2_after q18) G cl2 my_X2_after rfl w576 w577 w575 dX6_ahead_47 q29 rfl (Nat.le_of_ble_eq_true rfl) rfl (Nat.le_of_ble_eq_true rfl) (Nat.zero_le _) (Nat.zero_le _) ?_
        refine v_astore [some (.ref x0), some (.int x1), some (.int x2), some (.int x3), some (.ref b20)] G dX6_ahead_50 (Nat.le_of_ble_eq_true rfl) rfl rfl ?_
        refine v_iload_n G dX6_ahead_52 rfl ?_
        refine v_if_ge 66 G dX6_ahead_53 (by decide) (fun q21 => ?_) (fun q21 => ?_)
        · rw [if_pos q21] at h
          refine v_aload G dX6_ahead_66 rfl ?_
          refine v_iload_n G dX6_ahead_68 rfl ?_
          refine v_iload_n G dX6_ahead_69 rfl ?_
          obtain ⟨q24, h⟩ := if_s h
          obtain ⟨v23, q22, h⟩ := bi_ h
          refine v_callV0 (e_X5_timesHeard q22) G cl5 my_X5_timesHeard rfl w489 w490 w561 dX6_ahead_70 q24 rfl (Nat.le_of_ble_eq_true rfl) rfl (Nat.le_of_ble_eq_true rfl) (Nat.zero_le _) (Nat.zero_le _) ?_
          cases h
          exact v_iret G F dX6_ahead_73 rfl (Nat.le_refl _)
        · rw [if_neg q21] at h
          refine v_aload G dX6_ahead_56 rfl ?_
          obtain ⟨b25, q26, h⟩ := bi_ h
          refine v_getR (f := 8) G cl5 dX6_ahead_58 w117 (by decide) (by decide) q26 ?_
          refine v_iload_n G dX6_ahead_61 rfl ?_
          obtain ⟨v28, q27, h⟩ := bi_ h
          refine v_iald G dX6_ahead_62 q27 ?_
          refine v_goto 73 G dX6_ahead_63 (by decide) ?_
          cases h
          exact v_iret G F dX6_ahead_73 rfl (Nat.le_refl _)
      · rw [if_neg q13] at h
        refine v_ldc G (-1000001 : Int32) dX6_ahead_35 w326 ?_
        cases h
        exact v_iret G F dX6_ahead_37 rfl (Nat.le_refl _)
/-! X6_when -/
def m_X6_when (M : mM) (x0 : Nat) (x1 : Int32) (x2 : Int32) : Option (mM × Int32) :=
  if isO M x0 6 = true then
  (m_X6_noPupil M x0 x1).bind fun v2 =>
  if v2 = (0 : Int32) then (
    if isO M x0 6 = true then
    (m_X6_noSubject M x0 x2).bind fun v5 =>
    if v5 = (0 : Int32) then (
      (gR M x0 6 5).bind fun b7 =>
      (gR M x0 6 1).bind fun b9 =>
      if isO M b7 2 = true then
      bd2 (m_X2_firstKnown M b7 b9 x1 x2) fun M12 v13 =>
      some (M12, v13)
      else none
    ) else (
      some (M, (-1000001 : Int32))
    )
    else none
  ) else (
    some (M, (-1000001 : Int32))
  )
  else none
theorem e_X6_when {Z : zZ} {M : mM} {N : mM} {x0 : Nat} {x1 : Int32} {x2 : Int32} {r : Int32} (h : m_X6_when M x0 x1 x2 = some (N, r)) : EM Z yX6_when cX6_when 3 (some .int) 6 0 0 [.ref x0, .int x1, .int x2] M N (some (.int r)) := by
  refine EM_of my_X6_when (Nat.le_of_ble_eq_true rfl) (fun X G F => ?_)
  show V X Z M 0 0 0 [some (.ref x0), some (.int x1), some (.int x2)] []
  unfold m_X6_when at h
  refine v_aload_n G dX6_when_0 rfl ?_
  refine v_iload_n G dX6_when_1 rfl ?_
  obtain ⟨q16, h⟩ := if_s h
  obtain ⟨v2, q1, h⟩ := bi_ h
  refine v_callV0 (e_X6_noPupil q1) G cl6 my_X6_noPupil rfl w512 w13 w510 dX6_when_2 q16 rfl (Nat.le_of_ble_eq_true rfl) rfl (Nat.le_of_ble_eq_true rfl) (Nat.zero_le _) (Nat.zero_le _) ?_
  refine v_if_ne 16 G dX6_when_5 (by decide) (fun q3 => ?_) (fun q3 => ?_)
  · rw [if_neg q3] at h
    refine v_ldc G (-1000001 : Int32) dX6_when_16 w326 ?_
    cases h
    exact v_iret G F dX6_when_18 rfl (Nat.le_refl _)
  · rw [if_pos q3] at h
    refine v_aload_n G dX6_when_8 rfl ?_
    refine v_iload_n G dX6_when_9 rfl ?_
    obtain ⟨q15, h⟩ := if_s h
    obtain ⟨v5, q4, h⟩ := bi_ h
    refine v_callV0 (e_X6_noSubject q4) G cl6 my_X6_noSubject rfl w532 w15 w530 dX6_when_10 q15 rfl (Nat.le_of_ble_eq_true rfl) rfl (Nat.le_of_ble_eq_true rfl) (Nat.zero_le _) (Nat.zero_le _) ?_
    refine v_if_eq 19 G dX6_when_13 (by decide) (fun q6 => ?_) (fun q6 => ?_)
    · rw [if_pos q6] at h
      refine v_aload_n G dX6_when_19 rfl ?_
      obtain ⟨b7, q8, h⟩ := bi_ h
      refine v_getR (f := 5) G cl6 dX6_when_20 w296 (by decide) (by decide) q8 ?_
      refine v_aload_n G dX6_when_23 rfl ?_
      obtain ⟨b9, q10, h⟩ := bi_ h
      refine v_getR (f := 1) G cl6 dX6_when_24 w292 (by decide) (by decide) q10 ?_
      refine v_iload_n G dX6_when_27 rfl ?_
      refine v_iload_n G dX6_when_28 rfl ?_
      obtain ⟨q14, h⟩ := if_s h
      obtain ⟨M12, v13, q11, h⟩ := bi2_ h
      refine v_callV0 (e_X2_firstKnown q11) G cl2 my_X2_firstKnown rfl w586 w587 w585 dX6_when_29 q14 rfl (Nat.le_of_ble_eq_true rfl) rfl (Nat.le_of_ble_eq_true rfl) (Nat.zero_le _) (Nat.zero_le _) ?_
      cases h
      exact v_iret G F dX6_when_32 rfl (Nat.le_refl _)
    · rw [if_neg q6] at h
      refine v_ldc G (-1000001 : Int32) dX6_when_16 w326 ?_
      cases h
      exact v_iret G F dX6_when_18 rfl (Nat.le_refl _)
/-! X6_all -/
def m_X6_all (M : mM) (x0 : Nat) (x1 : Int32) : Option Int32 :=
  if isO M x0 6 = true then
  (m_X6_noSchool M x0).bind fun v2 =>
  if v2 = (0 : Int32) then (
    (m_X6_outside M x1 (0 : Int32) (1 : Int32)).bind fun v5 =>
    if v5 = (0 : Int32) then (
      if x1 = (0 : Int32) then (
        (gR M x0 6 1).bind fun b13 =>
        if isO M b13 5 = true then
        (m_X5_knownByAll M b13).bind fun v16 =>
        some v16
        else none
      ) else (
        (gR M x0 6 1).bind fun b8 =>
        if isO M b8 5 = true then
        (m_X5_knownByAny M b8).bind fun v11 =>
        some v11
        else none
      )
    ) else (
      some (-1000001 : Int32)
    )
  ) else (
    some (-1000002 : Int32)
  )
  else none
theorem e_X6_all {Z : zZ} {M : mM} {x0 : Nat} {x1 : Int32} {r : Int32} (h : m_X6_all M x0 x1 = some r) : EM Z yX6_all cX6_all 2 (some .int) 1 0 0 [.ref x0, .int x1] M M (some (.int r)) := by
  refine EM_of my_X6_all (Nat.le_of_ble_eq_true rfl) (fun X G F => ?_)
  show V X Z M 0 0 0 [some (.ref x0), some (.int x1)] []
  unfold m_X6_all at h
  refine v_aload_n G dX6_all_0 rfl ?_
  obtain ⟨q18, h⟩ := if_s h
  obtain ⟨v2, q1, h⟩ := bi_ h
  refine v_callV0 (e_X6_noSchool q1) G cl6 my_X6_noSchool rfl w447 w9 w445 dX6_all_1 q18 rfl (Nat.le_of_ble_eq_true rfl) rfl (Nat.le_of_ble_eq_true rfl) (Nat.zero_le _) (Nat.zero_le _) ?_
  refine v_if_eq 10 G dX6_all_4 (by decide) (fun q3 => ?_) (fun q3 => ?_)
  · rw [if_pos q3] at h
    refine v_iload_n G dX6_all_10 rfl ?_
    refine v_iconst G (0 : Int32) dX6_all_11 (by decide) ?_
    refine v_iconst G (1 : Int32) dX6_all_12 (by decide) ?_
    obtain ⟨v5, q4, h⟩ := bi_ h
    refine v_callS0 (e_X6_outside q4) G my_X6_outside w324 w323 dX6_all_13 rfl (Nat.le_of_ble_eq_true rfl) rfl (Nat.le_of_ble_eq_true rfl) (Nat.zero_le _) (Nat.zero_le _) ?_
    refine v_if_eq 22 G dX6_all_16 (by decide) (fun q6 => ?_) (fun q6 => ?_)
    · rw [if_pos q6] at h
      refine v_iload_n G dX6_all_22 rfl ?_
      refine v_if_ne 36 G dX6_all_23 (by decide) (fun q7 => ?_) (fun q7 => ?_)
      · rw [if_neg q7] at h
        refine v_aload_n G dX6_all_36 rfl ?_
        obtain ⟨b8, q9, h⟩ := bi_ h
        refine v_getR (f := 1) G cl6 dX6_all_37 w292 (by decide) (by decide) q9 ?_
        obtain ⟨q12, h⟩ := if_s h
        obtain ⟨v11, q10, h⟩ := bi_ h
        refine v_callV0 (e_X5_knownByAny q10) G cl5 my_X5_knownByAny rfl w600 w601 w599 dX6_all_40 q12 rfl (Nat.le_of_ble_eq_true rfl) rfl (Nat.le_of_ble_eq_true rfl) (Nat.zero_le _) (Nat.zero_le _) ?_
        cases h
        exact v_iret G F dX6_all_43 rfl (Nat.le_refl _)
      · rw [if_pos q7] at h
        refine v_aload_n G dX6_all_26 rfl ?_
        obtain ⟨b13, q14, h⟩ := bi_ h
        refine v_getR (f := 1) G cl6 dX6_all_27 w292 (by decide) (by decide) q14 ?_
        obtain ⟨q17, h⟩ := if_s h
        obtain ⟨v16, q15, h⟩ := bi_ h
        refine v_callV0 (e_X5_knownByAll q15) G cl5 my_X5_knownByAll rfl w596 w597 w595 dX6_all_30 q17 rfl (Nat.le_of_ble_eq_true rfl) rfl (Nat.le_of_ble_eq_true rfl) (Nat.zero_le _) (Nat.zero_le _) ?_
        refine v_goto 43 G dX6_all_33 (by decide) ?_
        cases h
        exact v_iret G F dX6_all_43 rfl (Nat.le_refl _)
    · rw [if_neg q6] at h
      refine v_ldc G (-1000001 : Int32) dX6_all_19 w326 ?_
      cases h
      exact v_iret G F dX6_all_21 rfl (Nat.le_refl _)
  · rw [if_neg q3] at h
    refine v_ldc G (-1000002 : Int32) dX6_all_7 w440 ?_
    cases h
    exact v_iret G F dX6_all_9 rfl (Nat.le_refl _)
/-! X6_follows -/
def m_X6_follows (M : mM) (x0 : Nat) (x1 : Int32) : Option Int32 :=
  if isO M x0 6 = true then
  (m_X6_noPupil M x0 x1).bind fun v2 =>
  if v2 = (0 : Int32) then (
    (gR M x0 6 1).bind fun b4 =>
    (gR M x0 6 1).bind fun b6 =>
    (gR M b6 5 8).bind fun b8 =>
    (ldI M b8 x1).bind fun v11 =>
    if isO M b4 5 = true then
    (m_X5_closure M b4 v11).bind fun v13 =>
    some v13
    else none
  ) else (
    some (-1000001 : Int32)
  )
  else none
theorem e_X6_follows {Z : zZ} {M : mM} {x0 : Nat} {x1 : Int32} {r : Int32} (h : m_X6_follows M x0 x1 = some r) : EM Z yX6_follows cX6_follows 2 (some .int) 2 0 0 [.ref x0, .int x1] M M (some (.int r)) := by
  refine EM_of my_X6_follows (Nat.le_of_ble_eq_true rfl) (fun X G F => ?_)
  show V X Z M 0 0 0 [some (.ref x0), some (.int x1)] []
  unfold m_X6_follows at h
  refine v_aload_n G dX6_follows_0 rfl ?_
  refine v_iload_n G dX6_follows_1 rfl ?_
  obtain ⟨q15, h⟩ := if_s h
  obtain ⟨v2, q1, h⟩ := bi_ h
  refine v_callV0 (e_X6_noPupil q1) G cl6 my_X6_noPupil rfl w512 w13 w510 dX6_follows_2 q15 rfl (Nat.le_of_ble_eq_true rfl) rfl (Nat.le_of_ble_eq_true rfl) (Nat.zero_le _) (Nat.zero_le _) ?_
  refine v_if_eq 13 G dX6_follows_5 (by decide) (fun q3 => ?_) (fun q3 => ?_)
  · rw [if_pos q3] at h
    refine v_aload_n G dX6_follows_13 rfl ?_
    obtain ⟨b4, q5, h⟩ := bi_ h
    refine v_getR (f := 1) G cl6 dX6_follows_14 w292 (by decide) (by decide) q5 ?_
    refine v_aload_n G dX6_follows_17 rfl ?_
    obtain ⟨b6, q7, h⟩ := bi_ h
    refine v_getR (f := 1) G cl6 dX6_follows_18 w292 (by decide) (by decide) q7 ?_
    obtain ⟨b8, q9, h⟩ := bi_ h
    refine v_getR (f := 8) G cl5 dX6_follows_21 w117 (by decide) (by decide) q9 ?_
    refine v_iload_n G dX6_follows_24 rfl ?_
    obtain ⟨v11, q10, h⟩ := bi_ h
    refine v_iald G dX6_follows_25 q10 ?_
    obtain ⟨q14, h⟩ := if_s h
    obtain ⟨v13, q12, h⟩ := bi_ h
    refine v_callV0 (e_X5_closure q12) G cl5 my_X5_closure rfl w608 w609 w607 dX6_follows_26 q14 rfl (Nat.le_of_ble_eq_true rfl) rfl (Nat.le_of_ble_eq_true rfl) (Nat.zero_le _) (Nat.zero_le _) ?_
    cases h
    exact v_iret G F dX6_follows_29 rfl (Nat.le_refl _)
  · rw [if_neg q3] at h
    refine v_ldc G (-1000001 : Int32) dX6_follows_8 w326 ?_
    refine v_goto 29 G dX6_follows_10 (by decide) ?_
    cases h
    exact v_iret G F dX6_follows_29 rfl (Nat.le_refl _)
/-! X6_lacks -/
def m_X6_lacks (M : mM) (x0 : Nat) (x1 : Int32) (x2 : Int32) : Option Int32 :=
  if isO M x0 6 = true then
  (m_X6_noPupil M x0 x1).bind fun v2 =>
  if v2 = (0 : Int32) then (
    if isO M x0 6 = true then
    (m_X6_noSubject M x0 x2).bind fun v5 =>
    if v5 = (0 : Int32) then (
      (gR M x0 6 1).bind fun b7 =>
      if isO M b7 5 = true then
      (m_X5_needed M b7 x2 (0 : Int32)).bind fun v10 =>
      (gR M x0 6 1).bind fun b11 =>
      (gR M b11 5 8).bind fun b13 =>
      (ldI M b13 x1).bind fun v16 =>
      some (v10 &&& (v16 ^^^ (-1 : Int32)))
      else none
    ) else (
      some (-1000001 : Int32)
    )
    else none
  ) else (
    some (-1000001 : Int32)
  )
  else none
theorem e_X6_lacks {Z : zZ} {M : mM} {x0 : Nat} {x1 : Int32} {x2 : Int32} {r : Int32} (h : m_X6_lacks M x0 x1 x2 = some r) : EM Z yX6_lacks cX6_lacks 3 (some .int) 2 0 0 [.ref x0, .int x1, .int x2] M M (some (.int r)) := by
  refine EM_of my_X6_lacks (Nat.le_of_ble_eq_true rfl) (fun X G F => ?_)
  show V X Z M 0 0 0 [some (.ref x0), some (.int x1), some (.int x2)] []
  unfold m_X6_lacks at h
  refine v_aload_n G dX6_lacks_0 rfl ?_
  refine v_iload_n G dX6_lacks_1 rfl ?_
  obtain ⟨q19, h⟩ := if_s h
  obtain ⟨v2, q1, h⟩ := bi_ h
  refine v_callV0 (e_X6_noPupil q1) G cl6 my_X6_noPupil rfl w512 w13 w510 dX6_lacks_2 q19 rfl (Nat.le_of_ble_eq_true rfl) rfl (Nat.le_of_ble_eq_true rfl) (Nat.zero_le _) (Nat.zero_le _) ?_
  refine v_if_ne 16 G dX6_lacks_5 (by decide) (fun q3 => ?_) (fun q3 => ?_)
  · rw [if_neg q3] at h
    refine v_ldc G (-1000001 : Int32) dX6_lacks_16 w326 ?_
    cases h
    exact v_iret G F dX6_lacks_18 rfl (Nat.le_refl _)
  · rw [if_pos q3] at h
    refine v_aload_n G dX6_lacks_8 rfl ?_
    refine v_iload_n G dX6_lacks_9 rfl ?_
    obtain ⟨q18, h⟩ := if_s h
    obtain ⟨v5, q4, h⟩ := bi_ h
    refine v_callV0 (e_X6_noSubject q4) G cl6 my_X6_noSubject rfl w532 w15 w530 dX6_lacks_10 q18 rfl (Nat.le_of_ble_eq_true rfl) rfl (Nat.le_of_ble_eq_true rfl) (Nat.zero_le _) (Nat.zero_le _) ?_
    refine v_if_eq 19 G dX6_lacks_13 (by decide) (fun q6 => ?_) (fun q6 => ?_)
    · rw [if_pos q6] at h
      refine v_aload_n G dX6_lacks_19 rfl ?_
      obtain ⟨b7, q8, h⟩ := bi_ h
      refine v_getR (f := 1) G cl6 dX6_lacks_20 w292 (by decide) (by decide) q8 ?_
      refine v_iload_n G dX6_lacks_23 rfl ?_
      refine v_iconst G (0 : Int32) dX6_lacks_24 (by decide) ?_
      obtain ⟨q17, h⟩ := if_s h
      obtain ⟨v10, q9, h⟩ := bi_ h
      refine v_callV0 (e_X5_needed q9) G cl5 my_X5_needed rfl w617 w618 w616 dX6_lacks_25 q17 rfl (Nat.le_of_ble_eq_true rfl) rfl (Nat.le_of_ble_eq_true rfl) (Nat.zero_le _) (Nat.zero_le _) ?_
      refine v_aload_n G dX6_lacks_28 rfl ?_
      obtain ⟨b11, q12, h⟩ := bi_ h
      refine v_getR (f := 1) G cl6 dX6_lacks_29 w292 (by decide) (by decide) q12 ?_
      obtain ⟨b13, q14, h⟩ := bi_ h
      refine v_getR (f := 8) G cl5 dX6_lacks_32 w117 (by decide) (by decide) q14 ?_
      refine v_iload_n G dX6_lacks_35 rfl ?_
      obtain ⟨v16, q15, h⟩ := bi_ h
      refine v_iald G dX6_lacks_36 q15 ?_
      refine v_iconst G (-1 : Int32) dX6_lacks_37 (by decide) ?_
      refine v_ixor G dX6_lacks_38 ?_
      refine v_iand G dX6_lacks_39 ?_
      cases h
      exact v_iret G F dX6_lacks_40 rfl (Nat.le_refl _)
    · rw [if_neg q6] at h
      refine v_ldc G (-1000001 : Int32) dX6_lacks_16 w326 ?_
      cases h
      exact v_iret G F dX6_lacks_18 rfl (Nat.le_refl _)
/-! X6_bitNumber -/
def m_X6_bitNumber_L4 {ρ : Type} (k0 : Option ρ) (k1 : Int32 → Option ρ) (M : mM) (x0 : Int32) (x1 : Int32) : Nat → Int32 → Int32 → Option ρ
  | 0, _, _ => none
  | n + 1, x2, x3 =>
    if (6 : Int32) ≤ x3 then (
      k0
    ) else (
      if ((x0 >>> (x3 &&& 31)) &&& (1 : Int32)) = (0 : Int32) then (
        m_X6_bitNumber_L4 k0 k1 M x0 x1 n x2 (x3 + (1 : Int32))
      ) else (
        if x2 = x1 then (
          k1 x3
        ) else (
          m_X6_bitNumber_L4 k0 k1 M x0 x1 n (x2 + (1 : Int32)) (x3 + (1 : Int32))
        )
      )
    )
theorem e_X6_bitNumber_L4 {X : xX} {Z : zZ} {cn sn : Nat} {ρ : Type} {r : ρ} {k0 : Option ρ} {k1 : Int32 → Option ρ} (G : ok_ X Z yX6_bitNumber cX6_bitNumber 4 0 0 0) (hcn : cn ≤ 0) (hsn : sn ≤ 0) (M : mM) (x0 : Int32) (x1 : Int32)
    (hx0 : k0 = some r → V X Z M cn sn 34 [none, none, none, none] [])
    (hx1 : ∀ (z3 : Int32), k1 z3 = some r → V X Z M cn sn 23 [none, none, none, some (.int z3)] []) :
    ∀ (n : Nat) (x2 : Int32) (x3 : Int32), m_X6_bitNumber_L4 k0 k1 M x0 x1 n x2 x3 = some r → V X Z M cn sn 4 [some (.int x0), some (.int x1), some (.int x2), some (.int x3)] [] := by
  intro n
  induction n with
  | zero => intro x2 x3 h; rw [m_X6_bitNumber_L4] at h; cases h
  | succ n ih =>
    intro x2 x3 h
    rw [m_X6_bitNumber_L4] at h
    refine v_iload_n G dX6_bitNumber_4 rfl ?_
    refine v_bipush G (6 : Int32) dX6_bitNumber_5 (by decide) ?_
    refine v_ic_ge 34 G dX6_bitNumber_7 (by decide) (fun q1 => ?_) (fun q1 => ?_)
    · rw [if_pos q1] at h
      exact v_mask [false, false, false, false] rfl (hx0 h)
    · rw [if_neg q1] at h
      refine v_iload_n G dX6_bitNumber_10 rfl ?_
      refine v_iload_n G dX6_bitNumber_11 rfl ?_
      refine v_ishr G dX6_bitNumber_12 ?_
      refine v_iconst G (1 : Int32) dX6_bitNumber_13 (by decide) ?_
      refine v_iand G dX6_bitNumber_14 ?_
      refine v_if_eq 28 G dX6_bitNumber_15 (by decide) (fun q2 => ?_) (fun q2 => ?_)
      · rw [if_pos q2] at h
        refine v_iinc (x3 + (1 : Int32)) [some (.int x0), some (.int x1), some (.int x2), some (.int (x3 + (1 : Int32)))] G dX6_bitNumber_28 rfl rfl (Nat.le_of_ble_eq_true rfl) rfl rfl ?_
        refine v_goto 4 G dX6_bitNumber_31 (by decide) ?_
        exact v_mask [true, true, true, true] rfl (ih _ _ h)
      · rw [if_neg q2] at h
        refine v_iload_n G dX6_bitNumber_18 rfl ?_
        refine v_iload_n G dX6_bitNumber_19 rfl ?_
        refine v_ic_ne 25 G dX6_bitNumber_20 (by decide) (fun q3 => ?_) (fun q3 => ?_)
        · rw [if_neg q3] at h
          refine v_iinc (x2 + (1 : Int32)) [some (.int x0), some (.int x1), some (.int (x2 + (1 : Int32))), some (.int x3)] G dX6_bitNumber_25 rfl rfl (Nat.le_of_ble_eq_true rfl) rfl rfl ?_
          refine v_iinc (x3 + (1 : Int32)) [some (.int x0), some (.int x1), some (.int (x2 + (1 : Int32))), some (.int (x3 + (1 : Int32)))] G dX6_bitNumber_28 rfl rfl (Nat.le_of_ble_eq_true rfl) rfl rfl ?_
          refine v_goto 4 G dX6_bitNumber_31 (by decide) ?_
          exact v_mask [true, true, true, true] rfl (ih _ _ h)
        · rw [if_pos q3] at h
          exact v_mask [false, false, false, true] rfl (hx1 _ h)
def m_X6_bitNumber (M : mM) (x0 : Int32) (x1 : Int32) : Option Int32 :=
  m_X6_bitNumber_L4
    (
      some (-1000000 : Int32)
    )
    (fun v4 =>
      some v4)
    M x0 x1 FU (0 : Int32) (0 : Int32)
theorem e_X6_bitNumber {Z : zZ} {M : mM} {x0 : Int32} {x1 : Int32} {r : Int32} (h : m_X6_bitNumber M x0 x1 = some r) : EM Z yX6_bitNumber cX6_bitNumber 4 (some .int) 0 0 0 [.int x0, .int x1] M M (some (.int r)) := by
  refine EM_of my_X6_bitNumber (Nat.le_of_ble_eq_true rfl) (fun X G F => ?_)
  show V X Z M 0 0 0 [some (.int x0), some (.int x1), none, none] []
  unfold m_X6_bitNumber at h
  refine v_iconst G (0 : Int32) dX6_bitNumber_0 (by decide) ?_
  refine v_istore_n [some (.int x0), some (.int x1), some (.int (0 : Int32)), none] G dX6_bitNumber_1 (Nat.le_of_ble_eq_true rfl) rfl rfl ?_
  refine v_iconst G (0 : Int32) dX6_bitNumber_2 (by decide) ?_
  refine v_istore_n [some (.int x0), some (.int x1), some (.int (0 : Int32)), some (.int (0 : Int32))] G dX6_bitNumber_3 (Nat.le_of_ble_eq_true rfl) rfl rfl ?_
  refine v_mask [true, true, true, true] rfl ?_
  refine e_X6_bitNumber_L4 G (Nat.zero_le _) (Nat.zero_le _) _ _ _ (fun h => ?_) (fun v4 h => ?_) FU _ _ h
  · refine v_ldcw G (-1000000 : Int32) dX6_bitNumber_34 w628 ?_
    cases h
    exact v_iret G F dX6_bitNumber_37 rfl (Nat.le_refl _)
  · refine v_iload_n G dX6_bitNumber_23 rfl ?_
    cases h
    exact v_iret G F dX6_bitNumber_24 rfl (Nat.le_refl _)
/-! X6_shortest -/
def m_X6_shortest (M : mM) (x0 : Nat) (x1 : Int32) (x2 : Int32) (x3 : Int32) : Option Int32 :=
  if isO M x0 6 = true then
  (m_X6_noPupil M x0 x1).bind fun v2 =>
  if v2 = (0 : Int32) then (
    if isO M x0 6 = true then
    (m_X6_noSubject M x0 x2).bind fun v5 =>
    if v5 = (0 : Int32) then (
      if (-1 : Int32) ≤ x3 then (
        (gR M x0 6 1).bind fun b8 =>
        (gR M x0 6 1).bind fun b10 =>
        (gR M b10 5 8).bind fun b12 =>
        (ldI M b12 x1).bind fun v15 =>
        if isO M b8 5 = true then
        (m_X5_needed M b8 x2 v15).bind fun v17 =>
        if (0 : Int32) ≤ x3 then (
          (m_X6_bitNumber M v17 x3).bind fun v20 =>
          some v20
        ) else (
          (m_J6_bitCount_0f7a4 M v17).bind fun v22 =>
          some v22
        )
        else none
      ) else (
        some (-1000001 : Int32)
      )
    ) else (
      some (-1000001 : Int32)
    )
    else none
  ) else (
    some (-1000001 : Int32)
  )
  else none
theorem e_X6_shortest {Z : zZ} {M : mM} {x0 : Nat} {x1 : Int32} {x2 : Int32} {x3 : Int32} {r : Int32} (h : m_X6_shortest M x0 x1 x2 x3 = some r) : EM Z yX6_shortest cX6_shortest 5 (some .int) 2 0 0 [.ref x0, .int x1, .int x2, .int x3] M M (some (.int r)) := by
  refine EM_of my_X6_shortest (Nat.le_of_ble_eq_true rfl) (fun X G F => ?_)
  show V X Z M 0 0 0 [some (.ref x0), some (.int x1), some (.int x2), some (.int x3), none] []
  unfold m_X6_shortest at h
  refine v_aload_n G dX6_shortest_0 rfl ?_
  refine v_iload_n G dX6_shortest_1 rfl ?_
  obtain ⟨q25, h⟩ := if_s h
  obtain ⟨v2, q1, h⟩ := bi_ h
  refine v_callV0 (e_X6_noPupil q1) G cl6 my_X6_noPupil rfl w512 w13 w510 dX6_shortest_2 q25 rfl (Nat.le_of_ble_eq_true rfl) rfl (Nat.le_of_ble_eq_true rfl) (Nat.zero_le _) (Nat.zero_le _) ?_
  refine v_if_ne 21 G dX6_shortest_5 (by decide) (fun q3 => ?_) (fun q3 => ?_)
  · rw [if_neg q3] at h
    refine v_ldc G (-1000001 : Int32) dX6_shortest_21 w326 ?_
    cases h
    exact v_iret G F dX6_shortest_23 rfl (Nat.le_refl _)
  · rw [if_pos q3] at h
    refine v_aload_n G dX6_shortest_8 rfl ?_
    refine v_iload_n G dX6_shortest_9 rfl ?_
    obtain ⟨q24, h⟩ := if_s h
    obtain ⟨v5, q4, h⟩ := bi_ h
    refine v_callV0 (e_X6_noSubject q4) G cl6 my_X6_noSubject rfl w532 w15 w530 dX6_shortest_10 q24 rfl (Nat.le_of_ble_eq_true rfl) rfl (Nat.le_of_ble_eq_true rfl) (Nat.zero_le _) (Nat.zero_le _) ?_
    refine v_if_ne 21 G dX6_shortest_13 (by decide) (fun q6 => ?_) (fun q6 => ?_)
    · rw [if_neg q6] at h
      refine v_ldc G (-1000001 : Int32) dX6_shortest_21 w326 ?_
      cases h
      exact v_iret G F dX6_shortest_23 rfl (Nat.le_refl _)
    · rw [if_pos q6] at h
      refine v_iload_n G dX6_shortest_16 rfl ?_
      refine v_iconst G (-1 : Int32) dX6_shortest_17 (by decide) ?_
      refine v_ic_ge 24 G dX6_shortest_18 (by decide) (fun q7 => ?_) (fun q7 => ?_)
      · rw [if_pos q7] at h
        refine v_aload_n G dX6_shortest_24 rfl ?_
        obtain ⟨b8, q9, h⟩ := bi_ h
        refine v_getR (f := 1) G cl6 dX6_shortest_25 w292 (by decide) (by decide) q9 ?_
        refine v_iload_n G dX6_shortest_28 rfl ?_
        refine v_aload_n G dX6_shortest_29 rfl ?_
        obtain ⟨b10, q11, h⟩ := bi_ h
        refine v_getR (f := 1) G cl6 dX6_shortest_30 w292 (by decide) (by decide) q11 ?_
        obtain ⟨b12, q13, h⟩ := bi_ h
        refine v_getR (f := 8) G cl5 dX6_shortest_33 w117 (by decide) (by decide) q13 ?_
        refine v_iload_n G dX6_shortest_36 rfl ?_
        obtain ⟨v15, q14, h⟩ := bi_ h
        refine v_iald G dX6_shortest_37 q14 ?_
        obtain ⟨q23, h⟩ := if_s h
        obtain ⟨v17, q16, h⟩ := bi_ h
        refine v_callV0 (e_X5_needed q16) G cl5 my_X5_needed rfl w617 w618 w616 dX6_shortest_38 q23 rfl (Nat.le_of_ble_eq_true rfl) rfl (Nat.le_of_ble_eq_true rfl) (Nat.zero_le _) (Nat.zero_le _) ?_
        refine v_istore [some (.ref x0), some (.int x1), some (.int x2), some (.int x3), some (.int v17)] G dX6_shortest_41 (Nat.le_of_ble_eq_true rfl) rfl rfl ?_
        refine v_iload_n G dX6_shortest_43 rfl ?_
        refine v_if_ge 55 G dX6_shortest_44 (by decide) (fun q18 => ?_) (fun q18 => ?_)
        · rw [if_pos q18] at h
          refine v_iload G dX6_shortest_55 rfl ?_
          refine v_iload_n G dX6_shortest_57 rfl ?_
          obtain ⟨v20, q19, h⟩ := bi_ h
          refine v_callS0 (e_X6_bitNumber q19) G my_X6_bitNumber w626 w625 dX6_shortest_58 rfl (Nat.le_of_ble_eq_true rfl) rfl (Nat.le_of_ble_eq_true rfl) (Nat.zero_le _) (Nat.zero_le _) ?_
          cases h
          exact v_iret G F dX6_shortest_61 rfl (Nat.le_refl _)
        · rw [if_neg q18] at h
          refine v_iload G dX6_shortest_47 rfl ?_
          obtain ⟨v22, q21, h⟩ := bi_ h
          refine v_callS0 (e_J6_bitCount_0f7a4 q21) G my_J6_bitCount_0f7a4 w493 w624 dX6_shortest_49 rfl (Nat.le_of_ble_eq_true rfl) rfl (Nat.le_of_ble_eq_true rfl) (Nat.zero_le _) (Nat.zero_le _) ?_
          refine v_goto 61 G dX6_shortest_52 (by decide) ?_
          cases h
          exact v_iret G F dX6_shortest_61 rfl (Nat.le_refl _)
      · rw [if_neg q7] at h
        refine v_ldc G (-1000001 : Int32) dX6_shortest_21 w326 ?_
        cases h
        exact v_iret G F dX6_shortest_23 rfl (Nat.le_refl _)
/-! X6_seating -/
def m_X6_seating (M : mM) (x0 : Nat) (x1 : Int32) (x2 : Int32) : Option (mM × Int32) :=
  if isO M x0 6 = true then
  (m_X6_noSchool M x0).bind fun v2 =>
  if v2 = (0 : Int32) then (
    (m_X6_outside M x1 (1 : Int32) (12 : Int32)).bind fun v5 =>
    if v5 = (0 : Int32) then (
      (gR M x0 6 1).bind fun b7 =>
      (gI M b7 5 3).bind fun v9 =>
      (m_X6_outside M x2 (-1 : Int32) (v9 - (1 : Int32))).bind fun v12 =>
      if v12 = (0 : Int32) then (
        (gR M x0 6 5).bind fun b14 =>
        (gR M x0 6 1).bind fun b16 =>
        if isO M b14 2 = true then
        (m_X2_seatBest M b14 b16 x1).bind fun M19 =>
        if (0 : Int32) ≤ x2 then (
          (gR M19 x0 6 5).bind fun b21 =>
          (gR M19 b21 2 4).bind fun b23 =>
          (ldI M19 b23 x2).bind fun v26 =>
          some (M19, v26)
        ) else (
          (gR M19 x0 6 5).bind fun b27 =>
          (gI M19 b27 2 3).bind fun v29 =>
          some (M19, v29)
        )
        else none
      ) else (
        some (M, (-1000001 : Int32))
      )
    ) else (
      some (M, (-1000001 : Int32))
    )
  ) else (
    some (M, (-1000002 : Int32))
  )
  else none
theorem e_X6_seating {Z : zZ} {M : mM} {N : mM} {x0 : Nat} {x1 : Int32} {x2 : Int32} {r : Int32} (h : m_X6_seating M x0 x1 x2 = some (N, r)) : EM Z yX6_seating cX6_seating 3 (some .int) 15 0 0 [.ref x0, .int x1, .int x2] M N (some (.int r)) := by
  refine EM_of my_X6_seating (Nat.le_of_ble_eq_true rfl) (fun X G F => ?_)
  show V X Z M 0 0 0 [some (.ref x0), some (.int x1), some (.int x2)] []
  unfold m_X6_seating at h
  refine v_aload_n G dX6_seating_0 rfl ?_
  obtain ⟨q32, h⟩ := if_s h
  obtain ⟨v2, q1, h⟩ := bi_ h
  refine v_callV0 (e_X6_noSchool q1) G cl6 my_X6_noSchool rfl w447 w9 w445 dX6_seating_1 q32 rfl (Nat.le_of_ble_eq_true rfl) rfl (Nat.le_of_ble_eq_true rfl) (Nat.zero_le _) (Nat.zero_le _) ?_
  refine v_if_eq 10 G dX6_seating_4 (by decide) (fun q3 => ?_) (fun q3 => ?_)
  · rw [if_pos q3] at h
    refine v_iload_n G dX6_seating_10 rfl ?_
    refine v_iconst G (1 : Int32) dX6_seating_11 (by decide) ?_
    refine v_bipush G (12 : Int32) dX6_seating_12 (by decide) ?_
    obtain ⟨v5, q4, h⟩ := bi_ h
    refine v_callS0 (e_X6_outside q4) G my_X6_outside w324 w323 dX6_seating_14 rfl (Nat.le_of_ble_eq_true rfl) rfl (Nat.le_of_ble_eq_true rfl) (Nat.zero_le _) (Nat.zero_le _) ?_
    refine v_if_ne 37 G dX6_seating_17 (by decide) (fun q6 => ?_) (fun q6 => ?_)
    · rw [if_neg q6] at h
      refine v_ldc G (-1000001 : Int32) dX6_seating_37 w326 ?_
      cases h
      exact v_iret G F dX6_seating_39 rfl (Nat.le_refl _)
    · rw [if_pos q6] at h
      refine v_iload_n G dX6_seating_20 rfl ?_
      refine v_iconst G (-1 : Int32) dX6_seating_21 (by decide) ?_
      refine v_aload_n G dX6_seating_22 rfl ?_
      obtain ⟨b7, q8, h⟩ := bi_ h
      refine v_getR (f := 1) G cl6 dX6_seating_23 w292 (by decide) (by decide) q8 ?_
      obtain ⟨v9, q10, h⟩ := bi_ h
      refine v_getI (f := 3) G cl5 dX6_seating_26 w98 (by decide) (by decide) q10 ?_
      refine v_iconst G (1 : Int32) dX6_seating_29 (by decide) ?_
      refine v_isub G dX6_seating_30 ?_
      obtain ⟨v12, q11, h⟩ := bi_ h
      refine v_callS0 (e_X6_outside q11) G my_X6_outside w324 w323 dX6_seating_31 rfl (Nat.le_of_ble_eq_true rfl) rfl (Nat.le_of_ble_eq_true rfl) (Nat.zero_le _) (Nat.zero_le _) ?_
      refine v_if_eq 40 G dX6_seating_34 (by decide) (fun q13 => ?_) (fun q13 => ?_)
      · rw [if_pos q13] at h
        refine v_aload_n G dX6_seating_40 rfl ?_
        obtain ⟨b14, q15, h⟩ := bi_ h
        refine v_getR (f := 5) G cl6 dX6_seating_41 w296 (by decide) (by decide) q15 ?_
        refine v_aload_n G dX6_seating_44 rfl ?_
        obtain ⟨b16, q17, h⟩ := bi_ h
        refine v_getR (f := 1) G cl6 dX6_seating_45 w292 (by decide) (by decide) q17 ?_
        refine v_iload_n G dX6_seating_48 rfl ?_
        obtain ⟨q31, h⟩ := if_s h
        obtain ⟨M19, q18, h⟩ := bi_ h
        refine v_callV0 (e_X2_seatBest q18) G cl2 my_X2_seatBest rfl w634 w635 w633 dX6_seating_49 q31 rfl (Nat.le_of_ble_eq_true rfl) rfl (Nat.le_of_ble_eq_true rfl) (Nat.zero_le _) (Nat.zero_le _) ?_
        refine v_iload_n G dX6_seating_52 rfl ?_
        refine v_if_ge 66 G dX6_seating_53 (by decide) (fun q20 => ?_) (fun q20 => ?_)
        · rw [if_pos q20] at h
          refine v_aload_n G dX6_seating_66 rfl ?_
          obtain ⟨b21, q22, h⟩ := bi_ h
          refine v_getR (f := 5) G cl6 dX6_seating_67 w296 (by decide) (by decide) q22 ?_
          obtain ⟨b23, q24, h⟩ := bi_ h
          refine v_getR (f := 4) G cl2 dX6_seating_70 w217 (by decide) (by decide) q24 ?_
          refine v_iload_n G dX6_seating_73 rfl ?_
          obtain ⟨v26, q25, h⟩ := bi_ h
          refine v_iald G dX6_seating_74 q25 ?_
          cases h
          exact v_iret G F dX6_seating_75 rfl (Nat.le_refl _)
        · rw [if_neg q20] at h
          refine v_aload_n G dX6_seating_56 rfl ?_
          obtain ⟨b27, q28, h⟩ := bi_ h
          refine v_getR (f := 5) G cl6 dX6_seating_57 w296 (by decide) (by decide) q28 ?_
          obtain ⟨v29, q30, h⟩ := bi_ h
          refine v_getI (f := 3) G cl2 dX6_seating_60 w215 (by decide) (by decide) q30 ?_
          refine v_goto 75 G dX6_seating_63 (by decide) ?_
          cases h
          exact v_iret G F dX6_seating_75 rfl (Nat.le_refl _)
      · rw [if_neg q13] at h
        refine v_ldc G (-1000001 : Int32) dX6_seating_37 w326 ?_
        cases h
        exact v_iret G F dX6_seating_39 rfl (Nat.le_refl _)
  · rw [if_neg q3] at h
    refine v_ldc G (-1000002 : Int32) dX6_seating_7 w440 ?_
    cases h
    exact v_iret G F dX6_seating_9 rfl (Nat.le_refl _)
/-! X6_table -/
def m_X6_table (M : mM) (x0 : Nat) (x1 : Int32) (x2 : Int32) : Option (mM × Int32) :=
  if isO M x0 6 = true then
  (m_X6_noSchool M x0).bind fun v2 =>
  if v2 = (0 : Int32) then (
    (m_X6_outside M x1 (1 : Int32) (30 : Int32)).bind fun v5 =>
    if v5 = (0 : Int32) then (
      (m_X6_outside M x2 (0 : Int32) (1 : Int32)).bind fun v8 =>
      if v8 = (0 : Int32) then (
        (gR M x0 6 5).bind fun b10 =>
        (gR M x0 6 1).bind fun b12 =>
        if isO M b10 2 = true then
        bd2 (m_X2_bestExchange M b10 b12 x1) fun M15 v16 =>
        if v16 < (0 : Int32) then (
          some (M15, v16)
        ) else (
          if x2 = (0 : Int32) then (
            some (M15, v16)
          ) else (
            (gR M15 x0 6 5).bind fun b19 =>
            (gI M15 b19 2 3).bind fun v21 =>
            some (M15, v21)
          )
        )
        else none
      ) else (
        some (M, (-1000001 : Int32))
      )
    ) else (
      some (M, (-1000001 : Int32))
    )
  ) else (
    some (M, (-1000002 : Int32))
  )
  else none
theorem e_X6_table {Z : zZ} {M : mM} {N : mM} {x0 : Nat} {x1 : Int32} {x2 : Int32} {r : Int32} (h : m_X6_table M x0 x1 x2 = some (N, r)) : EM Z yX6_table cX6_table 4 (some .int) 7 0 0 [.ref x0, .int x1, .int x2] M N (some (.int r)) := by
  refine EM_of my_X6_table (Nat.le_of_ble_eq_true rfl) (fun X G F => ?_)
  show V X Z M 0 0 0 [some (.ref x0), some (.int x1), some (.int x2), none] []
  unfold m_X6_table at h
  refine v_aload_n G dX6_table_0 rfl ?_
  obtain ⟨q24, h⟩ := if_s h
  obtain ⟨v2, q1, h⟩ := bi_ h
  refine v_callV0 (e_X6_noSchool q1) G cl6 my_X6_noSchool rfl w447 w9 w445 dX6_table_1 q24 rfl (Nat.le_of_ble_eq_true rfl) rfl (Nat.le_of_ble_eq_true rfl) (Nat.zero_le _) (Nat.zero_le _) ?_
  refine v_if_eq 10 G dX6_table_4 (by decide) (fun q3 => ?_) (fun q3 => ?_)
  · rw [if_pos q3] at h
    refine v_iload_n G dX6_table_10 rfl ?_
    refine v_iconst G (1 : Int32) dX6_table_11 (by decide) ?_
    refine v_bipush G (30 : Int32) dX6_table_12 (by decide) ?_
    obtain ⟨v5, q4, h⟩ := bi_ h
    refine v_callS0 (e_X6_outside q4) G my_X6_outside w324 w323 dX6_table_14 rfl (Nat.le_of_ble_eq_true rfl) rfl (Nat.le_of_ble_eq_true rfl) (Nat.zero_le _) (Nat.zero_le _) ?_
    refine v_if_ne 29 G dX6_table_17 (by decide) (fun q6 => ?_) (fun q6 => ?_)
    · rw [if_neg q6] at h
      refine v_ldc G (-1000001 : Int32) dX6_table_29 w326 ?_
      cases h
      exact v_iret G F dX6_table_31 rfl (Nat.le_refl _)
    · rw [if_pos q6] at h
      refine v_iload_n G dX6_table_20 rfl ?_
      refine v_iconst G (0 : Int32) dX6_table_21 (by decide) ?_
      refine v_iconst G (1 : Int32) dX6_table_22 (by decide) ?_
      obtain ⟨v8, q7, h⟩ := bi_ h
      refine v_callS0 (e_X6_outside q7) G my_X6_outside w324 w323 dX6_table_23 rfl (Nat.le_of_ble_eq_true rfl) rfl (Nat.le_of_ble_eq_true rfl) (Nat.zero_le _) (Nat.zero_le _) ?_
      refine v_if_eq 32 G dX6_table_26 (by decide) (fun q9 => ?_) (fun q9 => ?_)
      · rw [if_pos q9] at h
        refine v_aload_n G dX6_table_32 rfl ?_
        obtain ⟨b10, q11, h⟩ := bi_ h
        refine v_getR (f := 5) G cl6 dX6_table_33 w296 (by decide) (by decide) q11 ?_
        refine v_aload_n G dX6_table_36 rfl ?_
        obtain ⟨b12, q13, h⟩ := bi_ h
        refine v_getR (f := 1) G cl6 dX6_table_37 w292 (by decide) (by decide) q13 ?_
        refine v_iload_n G dX6_table_40 rfl ?_
        obtain ⟨q23, h⟩ := if_s h
        obtain ⟨M15, v16, q14, h⟩ := bi2_ h
        refine v_callV0 (e_X2_bestExchange q14) G cl2 my_X2_bestExchange rfl w662 w663 w661 dX6_table_41 q23 rfl (Nat.le_of_ble_eq_true rfl) rfl (Nat.le_of_ble_eq_true rfl) (Nat.zero_le _) (Nat.zero_le _) ?_
        refine v_istore_n [some (.ref x0), some (.int x1), some (.int x2), some (.int v16)] G dX6_table_44 (Nat.le_of_ble_eq_true rfl) rfl rfl ?_
        refine v_iload_n G dX6_table_45 rfl ?_
        refine v_if_lt 53 G dX6_table_46 (by decide) (fun q17 => ?_) (fun q17 => ?_)
        · rw [if_pos q17] at h
          refine v_iload_n G dX6_table_53 rfl ?_
          refine v_goto 64 G dX6_table_54 (by decide) ?_
          cases h
          exact v_iret G F dX6_table_64 rfl (Nat.le_refl _)
        · rw [if_neg q17] at h
          refine v_iload_n G dX6_table_49 rfl ?_
          refine v_if_ne 57 G dX6_table_50 (by decide) (fun q18 => ?_) (fun q18 => ?_)
          · rw [if_neg q18] at h
            refine v_aload_n G dX6_table_57 rfl ?_
            obtain ⟨b19, q20, h⟩ := bi_ h
            refine v_getR (f := 5) G cl6 dX6_table_58 w296 (by decide) (by decide) q20 ?_
            obtain ⟨v21, q22, h⟩ := bi_ h
            refine v_getI (f := 3) G cl2 dX6_table_61 w215 (by decide) (by decide) q22 ?_
            cases h
            exact v_iret G F dX6_table_64 rfl (Nat.le_refl _)
          · rw [if_pos q18] at h
            refine v_iload_n G dX6_table_53 rfl ?_
            refine v_goto 64 G dX6_table_54 (by decide) ?_
            cases h
            exact v_iret G F dX6_table_64 rfl (Nat.le_refl _)
      · rw [if_neg q9] at h
        refine v_ldc G (-1000001 : Int32) dX6_table_29 w326 ?_
        cases h
        exact v_iret G F dX6_table_31 rfl (Nat.le_refl _)
  · rw [if_neg q3] at h
    refine v_ldc G (-1000002 : Int32) dX6_table_7 w440 ?_
    cases h
    exact v_iret G F dX6_table_9 rfl (Nat.le_refl _)
/-! X6_questions -/
def m_X6_questions (M : mM) (x0 : Nat) (x1 : Int32) : Option Int32 :=
  if isO M x0 6 = true then
  (m_X6_noSchool M x0).bind fun v2 =>
  if v2 = (0 : Int32) then (
    (m_X6_outside M x1 (0 : Int32) (1 : Int32)).bind fun v5 =>
    if v5 = (0 : Int32) then (
      (gR M x0 6 1).bind fun b7 =>
      if isO M b7 5 = true then
      (m_X5_fewestQuestions M b7).bind fun v10 =>
      if x1 = (0 : Int32) then (
        (m_J6_bitCount_0f7a4 M v10).bind fun v13 =>
        some v13
      ) else (
        some v10
      )
      else none
    ) else (
      some (-1000001 : Int32)
    )
  ) else (
    some (-1000002 : Int32)
  )
  else none
theorem e_X6_questions {Z : zZ} {M : mM} {x0 : Nat} {x1 : Int32} {r : Int32} (h : m_X6_questions M x0 x1 = some r) : EM Z yX6_questions cX6_questions 3 (some .int) 2 0 0 [.ref x0, .int x1] M M (some (.int r)) := by
  refine EM_of my_X6_questions (Nat.le_of_ble_eq_true rfl) (fun X G F => ?_)
  show V X Z M 0 0 0 [some (.ref x0), some (.int x1), none] []
  unfold m_X6_questions at h
  refine v_aload_n G dX6_questions_0 rfl ?_
  obtain ⟨q15, h⟩ := if_s h
  obtain ⟨v2, q1, h⟩ := bi_ h
  refine v_callV0 (e_X6_noSchool q1) G cl6 my_X6_noSchool rfl w447 w9 w445 dX6_questions_1 q15 rfl (Nat.le_of_ble_eq_true rfl) rfl (Nat.le_of_ble_eq_true rfl) (Nat.zero_le _) (Nat.zero_le _) ?_
  refine v_if_eq 10 G dX6_questions_4 (by decide) (fun q3 => ?_) (fun q3 => ?_)
  · rw [if_pos q3] at h
    refine v_iload_n G dX6_questions_10 rfl ?_
    refine v_iconst G (0 : Int32) dX6_questions_11 (by decide) ?_
    refine v_iconst G (1 : Int32) dX6_questions_12 (by decide) ?_
    obtain ⟨v5, q4, h⟩ := bi_ h
    refine v_callS0 (e_X6_outside q4) G my_X6_outside w324 w323 dX6_questions_13 rfl (Nat.le_of_ble_eq_true rfl) rfl (Nat.le_of_ble_eq_true rfl) (Nat.zero_le _) (Nat.zero_le _) ?_
    refine v_if_eq 22 G dX6_questions_16 (by decide) (fun q6 => ?_) (fun q6 => ?_)
    · rw [if_pos q6] at h
      refine v_aload_n G dX6_questions_22 rfl ?_
      obtain ⟨b7, q8, h⟩ := bi_ h
      refine v_getR (f := 1) G cl6 dX6_questions_23 w292 (by decide) (by decide) q8 ?_
      obtain ⟨q14, h⟩ := if_s h
      obtain ⟨v10, q9, h⟩ := bi_ h
      refine v_callV0 (e_X5_fewestQuestions q9) G cl5 my_X5_fewestQuestions rfl w680 w681 w679 dX6_questions_26 q14 rfl (Nat.le_of_ble_eq_true rfl) rfl (Nat.le_of_ble_eq_true rfl) (Nat.zero_le _) (Nat.zero_le _) ?_
      refine v_istore_n [some (.ref x0), some (.int x1), some (.int v10)] G dX6_questions_29 (Nat.le_of_ble_eq_true rfl) rfl rfl ?_
      refine v_iload_n G dX6_questions_30 rfl ?_
      refine v_if_ne 41 G dX6_questions_31 (by decide) (fun q11 => ?_) (fun q11 => ?_)
      · rw [if_neg q11] at h
        refine v_iload_n G dX6_questions_41 rfl ?_
        cases h
        exact v_iret G F dX6_questions_42 rfl (Nat.le_refl _)
      · rw [if_pos q11] at h
        refine v_iload_n G dX6_questions_34 rfl ?_
        obtain ⟨v13, q12, h⟩ := bi_ h
        refine v_callS0 (e_J6_bitCount_0f7a4 q12) G my_J6_bitCount_0f7a4 w493 w624 dX6_questions_35 rfl (Nat.le_of_ble_eq_true rfl) rfl (Nat.le_of_ble_eq_true rfl) (Nat.zero_le _) (Nat.zero_le _) ?_
        refine v_goto 42 G dX6_questions_38 (by decide) ?_
        cases h
        exact v_iret G F dX6_questions_42 rfl (Nat.le_refl _)
    · rw [if_neg q6] at h
      refine v_ldc G (-1000001 : Int32) dX6_questions_19 w326 ?_
      cases h
      exact v_iret G F dX6_questions_21 rfl (Nat.le_refl _)
  · rw [if_neg q3] at h
    refine v_ldc G (-1000002 : Int32) dX6_questions_7 w440 ?_
    cases h
    exact v_iret G F dX6_questions_9 rfl (Nat.le_refl _)
/-! X6_top -/
def m_X6_top (M : mM) (x0 : Nat) (x1 : Int32) : Option Int32 :=
  if isO M x0 6 = true then
  (m_X6_noSchool M x0).bind fun v2 =>
  if v2 = (0 : Int32) then (
    (m_X6_outside M x1 (0 : Int32) (1 : Int32)).bind fun v5 =>
    if v5 = (0 : Int32) then (
      (gR M x0 6 1).bind fun b7 =>
      if isO M b7 5 = true then
      (m_X5_bestPupil M b7).bind fun v10 =>
      if x1 = (0 : Int32) then (
        some v10
      ) else (
        (gR M x0 6 1).bind fun b12 =>
        if isO M b12 5 = true then
        (m_X5_form M b12 v10).bind fun v15 =>
        some v15
        else none
      )
      else none
    ) else (
      some (-1000001 : Int32)
    )
  ) else (
    some (-1000002 : Int32)
  )
  else none
theorem e_X6_top {Z : zZ} {M : mM} {x0 : Nat} {x1 : Int32} {r : Int32} (h : m_X6_top M x0 x1 = some r) : EM Z yX6_top cX6_top 3 (some .int) 3 0 0 [.ref x0, .int x1] M M (some (.int r)) := by
  refine EM_of my_X6_top (Nat.le_of_ble_eq_true rfl) (fun X G F => ?_)
  show V X Z M 0 0 0 [some (.ref x0), some (.int x1), none] []
  unfold m_X6_top at h
  refine v_aload_n G dX6_top_0 rfl ?_
  obtain ⟨q18, h⟩ := if_s h
  obtain ⟨v2, q1, h⟩ := bi_ h
  refine v_callV0 (e_X6_noSchool q1) G cl6 my_X6_noSchool rfl w447 w9 w445 dX6_top_1 q18 rfl (Nat.le_of_ble_eq_true rfl) rfl (Nat.le_of_ble_eq_true rfl) (Nat.zero_le _) (Nat.zero_le _) ?_
  refine v_if_eq 10 G dX6_top_4 (by decide) (fun q3 => ?_) (fun q3 => ?_)
  · rw [if_pos q3] at h
    refine v_iload_n G dX6_top_10 rfl ?_
    refine v_iconst G (0 : Int32) dX6_top_11 (by decide) ?_
    refine v_iconst G (1 : Int32) dX6_top_12 (by decide) ?_
    obtain ⟨v5, q4, h⟩ := bi_ h
    refine v_callS0 (e_X6_outside q4) G my_X6_outside w324 w323 dX6_top_13 rfl (Nat.le_of_ble_eq_true rfl) rfl (Nat.le_of_ble_eq_true rfl) (Nat.zero_le _) (Nat.zero_le _) ?_
    refine v_if_eq 22 G dX6_top_16 (by decide) (fun q6 => ?_) (fun q6 => ?_)
    · rw [if_pos q6] at h
      refine v_aload_n G dX6_top_22 rfl ?_
      obtain ⟨b7, q8, h⟩ := bi_ h
      refine v_getR (f := 1) G cl6 dX6_top_23 w292 (by decide) (by decide) q8 ?_
      obtain ⟨q17, h⟩ := if_s h
      obtain ⟨v10, q9, h⟩ := bi_ h
      refine v_callV0 (e_X5_bestPupil q9) G cl5 my_X5_bestPupil rfl w692 w693 w691 dX6_top_26 q17 rfl (Nat.le_of_ble_eq_true rfl) rfl (Nat.le_of_ble_eq_true rfl) (Nat.zero_le _) (Nat.zero_le _) ?_
      refine v_istore_n [some (.ref x0), some (.int x1), some (.int v10)] G dX6_top_29 (Nat.le_of_ble_eq_true rfl) rfl rfl ?_
      refine v_iload_n G dX6_top_30 rfl ?_
      refine v_if_ne 38 G dX6_top_31 (by decide) (fun q11 => ?_) (fun q11 => ?_)
      · rw [if_neg q11] at h
        refine v_aload_n G dX6_top_38 rfl ?_
        obtain ⟨b12, q13, h⟩ := bi_ h
        refine v_getR (f := 1) G cl6 dX6_top_39 w292 (by decide) (by decide) q13 ?_
        refine v_iload_n G dX6_top_42 rfl ?_
        obtain ⟨q16, h⟩ := if_s h
        obtain ⟨v15, q14, h⟩ := bi_ h
        refine v_callV0 (e_X5_form q14) G cl5 my_X5_form rfl w499 w500 w547 dX6_top_43 q16 rfl (Nat.le_of_ble_eq_true rfl) rfl (Nat.le_of_ble_eq_true rfl) (Nat.zero_le _) (Nat.zero_le _) ?_
        cases h
        exact v_iret G F dX6_top_46 rfl (Nat.le_refl _)
      · rw [if_pos q11] at h
        refine v_iload_n G dX6_top_34 rfl ?_
        refine v_goto 46 G dX6_top_35 (by decide) ?_
        cases h
        exact v_iret G F dX6_top_46 rfl (Nat.le_refl _)
    · rw [if_neg q6] at h
      refine v_ldc G (-1000001 : Int32) dX6_top_19 w326 ?_
      cases h
      exact v_iret G F dX6_top_21 rfl (Nat.le_refl _)
  · rw [if_neg q3] at h
    refine v_ldc G (-1000002 : Int32) dX6_top_7 w440 ?_
    cases h
    exact v_iret G F dX6_top_9 rfl (Nat.le_refl _)
/-! X6_fellows -/
def m_X6_fellows (M : mM) (x0 : Nat) (x1 : Int32) : Option Int32 :=
  if isO M x0 6 = true then
  (m_X6_noPupil M x0 x1).bind fun v2 =>
  if v2 = (0 : Int32) then (
    (gR M x0 6 1).bind fun b4 =>
    if isO M b4 5 = true then
    (m_X5_alike M b4 x1).bind fun v7 =>
    some v7
    else none
  ) else (
    some (-1000001 : Int32)
  )
  else none
theorem e_X6_fellows {Z : zZ} {M : mM} {x0 : Nat} {x1 : Int32} {r : Int32} (h : m_X6_fellows M x0 x1 = some r) : EM Z yX6_fellows cX6_fellows 2 (some .int) 2 0 0 [.ref x0, .int x1] M M (some (.int r)) := by
  refine EM_of my_X6_fellows (Nat.le_of_ble_eq_true rfl) (fun X G F => ?_)
  show V X Z M 0 0 0 [some (.ref x0), some (.int x1)] []
  unfold m_X6_fellows at h
  refine v_aload_n G dX6_fellows_0 rfl ?_
  refine v_iload_n G dX6_fellows_1 rfl ?_
  obtain ⟨q9, h⟩ := if_s h
  obtain ⟨v2, q1, h⟩ := bi_ h
  refine v_callV0 (e_X6_noPupil q1) G cl6 my_X6_noPupil rfl w512 w13 w510 dX6_fellows_2 q9 rfl (Nat.le_of_ble_eq_true rfl) rfl (Nat.le_of_ble_eq_true rfl) (Nat.zero_le _) (Nat.zero_le _) ?_
  refine v_if_eq 13 G dX6_fellows_5 (by decide) (fun q3 => ?_) (fun q3 => ?_)
  · rw [if_pos q3] at h
    refine v_aload_n G dX6_fellows_13 rfl ?_
    obtain ⟨b4, q5, h⟩ := bi_ h
    refine v_getR (f := 1) G cl6 dX6_fellows_14 w292 (by decide) (by decide) q5 ?_
    refine v_iload_n G dX6_fellows_17 rfl ?_
    obtain ⟨q8, h⟩ := if_s h
    obtain ⟨v7, q6, h⟩ := bi_ h
    refine v_callV0 (e_X5_alike q6) G cl5 my_X5_alike rfl w700 w701 w699 dX6_fellows_18 q8 rfl (Nat.le_of_ble_eq_true rfl) rfl (Nat.le_of_ble_eq_true rfl) (Nat.zero_le _) (Nat.zero_le _) ?_
    cases h
    exact v_iret G F dX6_fellows_21 rfl (Nat.le_refl _)
  · rw [if_neg q3] at h
    refine v_ldc G (-1000001 : Int32) dX6_fellows_8 w326 ?_
    refine v_goto 21 G dX6_fellows_10 (by decide) ?_
    cases h
    exact v_iret G F dX6_fellows_21 rfl (Nat.le_refl _)
