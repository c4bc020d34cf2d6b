/-! X7_readPupil -/
def m_X7_readPupil (M : mM) (x0 : Nat) : Option mM :=
  (gI M x0 7 15).bind fun v1 =>
  (m_X7_kindBy M v1).bind fun v4 =>
  (gR M x0 7 6).bind fun b5 =>
  (ldI M b5 (0 : Int32)).bind fun v8 =>
  if v8 = (6 : Int32) then (
    if isO M x0 7 = true then
    (m_X7_bad M x0 (3 : Int32)).bind fun M54 =>
    if isO M54 x0 7 = true then
    (m_X7_must M54 x0 (1 : Int32)).bind fun M56 =>
    (gR M56 x0 7 6).bind fun b57 =>
    (ldI M56 b57 (1 : Int32)).bind fun v60 =>
    if isO M56 x0 7 = true then
    bd2 (m_X7_number M56 x0 (0 : Int32) (((1 : Int32) <<< (v60 &&& 31)) - (1 : Int32))) fun M62 v63 =>
    if isO M62 x0 7 = true then
    (m_X7_mustSign M62 x0 (59 : Int32)).bind fun M65 =>
    (gI M65 x0 7 16).bind fun v66 =>
    if v66 = (0 : Int32) then (
      (gR M65 x0 7 6).bind fun b69 =>
      (ldI M65 b69 (0 : Int32)).bind fun v72 =>
      (gR M65 x0 7 6).bind fun b73 =>
      (stI M65 b73 ((19 : Int32) + ((9 : Int32) * v72)) v4).bind fun M75 =>
      (gR M75 x0 7 6).bind fun b77 =>
      (gR M75 x0 7 6).bind fun b79 =>
      (ldI M75 b79 (0 : Int32)).bind fun v82 =>
      (stI M75 b77 (((19 : Int32) + ((9 : Int32) * v72)) + (1 : Int32)) v82).bind fun M83 =>
      (gR M83 x0 7 6).bind fun b85 =>
      (stI M83 b85 (((19 : Int32) + ((9 : Int32) * v72)) + (2 : Int32)) v63).bind fun M87 =>
      (gR M87 x0 7 6).bind fun b89 =>
      (ldI M87 b89 (0 : Int32)).bind fun v92 =>
      (stI M87 b89 (0 : Int32) (v92 + (1 : Int32))).bind fun M93 =>
      some M93
    ) else (
      some M65
    )
    else none
    else none
    else none
    else none
  ) else (
    if isO M x0 7 = true then
    (m_X7_must M x0 (1 : Int32)).bind fun M11 =>
    (gR M11 x0 7 6).bind fun b12 =>
    (ldI M11 b12 (1 : Int32)).bind fun v15 =>
    if isO M11 x0 7 = true then
    bd2 (m_X7_number M11 x0 (0 : Int32) (((1 : Int32) <<< (v15 &&& 31)) - (1 : Int32))) fun M17 v18 =>
    if isO M17 x0 7 = true then
    (m_X7_mustSign M17 x0 (59 : Int32)).bind fun M20 =>
    (gI M20 x0 7 16).bind fun v21 =>
    if v21 = (0 : Int32) then (
      (gR M20 x0 7 6).bind fun b24 =>
      (ldI M20 b24 (0 : Int32)).bind fun v27 =>
      (gR M20 x0 7 6).bind fun b28 =>
      (stI M20 b28 ((19 : Int32) + ((9 : Int32) * v27)) v4).bind fun M30 =>
      (gR M30 x0 7 6).bind fun b32 =>
      (gR M30 x0 7 6).bind fun b34 =>
      (ldI M30 b34 (0 : Int32)).bind fun v37 =>
      (stI M30 b32 (((19 : Int32) + ((9 : Int32) * v27)) + (1 : Int32)) v37).bind fun M38 =>
      (gR M38 x0 7 6).bind fun b40 =>
      (stI M38 b40 (((19 : Int32) + ((9 : Int32) * v27)) + (2 : Int32)) v18).bind fun M42 =>
      (gR M42 x0 7 6).bind fun b44 =>
      (ldI M42 b44 (0 : Int32)).bind fun v47 =>
      (stI M42 b44 (0 : Int32) (v47 + (1 : Int32))).bind fun M48 =>
      some M48
    ) else (
      some M20
    )
    else none
    else none
    else none
  )
theorem e_X7_readPupil {Z : zZ} {M : mM} {N : mM} {x0 : Nat} (h : m_X7_readPupil M x0 = some N) : EM Z yX7_readPupil cX7_readPupil 4 none 4 0 0 [.ref x0] M N none := by
  refine EM_of my_X7_readPupil (Nat.le_of_ble_eq_true rfl) (fun X G F => ?_)
  show V X Z M 0 0 0 [some (.ref x0), none, none, none] []
  unfold m_X7_readPupil at h
  refine v_aload_n G dX7_readPupil_0 rfl ?_
  obtain ⟨v1, q2, h⟩ := bi_ h
  refine v_getI (f := 15) G cl7 dX7_readPupil_1 w854 (by decide) (by decide) q2 ?_
  obtain ⟨v4, q3, h⟩ := bi_ h
  refine v_callS0 (e_X7_kindBy q3) G my_X7_kindBy w1009 w1008 dX7_readPupil_4 rfl (Nat.le_of_ble_eq_true rfl) rfl (Nat.le_of_ble_eq_true rfl) (Nat.zero_le _) (Nat.zero_le _) ?_
  refine v_istore_n [some (.ref x0), some (.int v4), none, none] G dX7_readPupil_7 (Nat.le_of_ble_eq_true rfl) rfl rfl ?_
  refine v_aload_n G dX7_readPupil_8 rfl ?_
  obtain ⟨b5, q6, h⟩ := bi_ h
  refine v_getR (f := 6) G cl7 dX7_readPupil_9 w845 (by decide) (by decide) q6 ?_
  refine v_iconst G (0 : Int32) dX7_readPupil_12 (by decide) ?_
  obtain ⟨v8, q7, h⟩ := bi_ h
  refine v_iald G dX7_readPupil_13 q7 ?_
  refine v_bipush G (6 : Int32) dX7_readPupil_14 (by decide) ?_
  refine v_ic_ne 24 G dX7_readPupil_16 (by decide) (fun q9 => ?_) (fun q9 => ?_)
  · rw [if_neg q9] at h
    refine v_aload_n G dX7_readPupil_24 rfl ?_
    refine v_iconst G (1 : Int32) dX7_readPupil_25 (by decide) ?_
    obtain ⟨q52, h⟩ := if_s h
    obtain ⟨M11, q10, h⟩ := bi_ h
    refine v_callV0 (e_X7_must q10) G cl7 my_X7_must rfl w982 w29 w980 dX7_readPupil_26 q52 rfl (Nat.le_of_ble_eq_true rfl) rfl (Nat.le_of_ble_eq_true rfl) (Nat.zero_le _) (Nat.zero_le _) ?_
    refine v_aload_n G dX7_readPupil_29 rfl ?_
    refine v_iconst G (0 : Int32) dX7_readPupil_30 (by decide) ?_
    refine v_iconst G (1 : Int32) dX7_readPupil_31 (by decide) ?_
    refine v_aload_n G dX7_readPupil_32 rfl ?_
    obtain ⟨b12, q13, h⟩ := bi_ h
    refine v_getR (f := 6) G cl7 dX7_readPupil_33 w845 (by decide) (by decide) q13 ?_
    refine v_iconst G (1 : Int32) dX7_readPupil_36 (by decide) ?_
    obtain ⟨v15, q14, h⟩ := bi_ h
    refine v_iald G dX7_readPupil_37 q14 ?_
    refine v_ishl G dX7_readPupil_38 ?_
    refine v_iconst G (1 : Int32) dX7_readPupil_39 (by decide) ?_
    refine v_isub G dX7_readPupil_40 ?_
    obtain ⟨q51, h⟩ := if_s h
    obtain ⟨M17, v18, q16, h⟩ := bi2_ h
    refine v_callV0 (e_X7_number q16) G cl7 my_X7_number rfl w990 w31 w988 dX7_readPupil_41 q51 rfl (Nat.le_of_ble_eq_true rfl) rfl (Nat.le_of_ble_eq_true rfl) (Nat.zero_le _) (Nat.zero_le _) ?_
    refine v_istore_n [some (.ref x0), some (.int v4), some (.int v18), none] G dX7_readPupil_44 (Nat.le_of_ble_eq_true rfl) rfl rfl ?_
    refine v_aload_n G dX7_readPupil_45 rfl ?_
    refine v_bipush G (59 : Int32) dX7_readPupil_46 (by decide) ?_
    obtain ⟨q50, h⟩ := if_s h
    obtain ⟨M20, q19, h⟩ := bi_ h
    refine v_callV0 (e_X7_mustSign q19) G cl7 my_X7_mustSign rfl w994 w32 w992 dX7_readPupil_48 q50 rfl (Nat.le_of_ble_eq_true rfl) rfl (Nat.le_of_ble_eq_true rfl) (Nat.zero_le _) (Nat.zero_le _) ?_
    refine v_aload_n G dX7_readPupil_51 rfl ?_
    obtain ⟨v21, q22, h⟩ := bi_ h
    refine v_getI (f := 16) G cl7 dX7_readPupil_52 w855 (by decide) (by decide) q22 ?_
    refine v_if_ne 111 G dX7_readPupil_55 (by decide) (fun q23 => ?_) (fun q23 => ?_)
    · rw [if_neg q23] at h
      cases h
      exact v_vret G F dX7_readPupil_111 rfl (Nat.le_refl _)
    · rw [if_pos q23] at h
      refine v_bipush G (19 : Int32) dX7_readPupil_58 (by decide) ?_
      refine v_bipush G (9 : Int32) dX7_readPupil_60 (by decide) ?_
      refine v_aload_n G dX7_readPupil_62 rfl ?_
      obtain ⟨b24, q25, h⟩ := bi_ h
      refine v_getR (f := 6) G cl7 dX7_readPupil_63 w845 (by decide) (by decide) q25 ?_
      refine v_iconst G (0 : Int32) dX7_readPupil_66 (by decide) ?_
      obtain ⟨v27, q26, h⟩ := bi_ h
      refine v_iald G dX7_readPupil_67 q26 ?_
      refine v_imul G dX7_readPupil_68 ?_
      refine v_iadd G dX7_readPupil_69 ?_
      refine v_istore_n [some (.ref x0), some (.int v4), some (.int v18), some (.int ((19 : Int32) + ((9 : Int32) * v27)))] G dX7_readPupil_70 (Nat.le_of_ble_eq_true rfl) rfl rfl ?_
      refine v_aload_n G dX7_readPupil_71 rfl ?_
      obtain ⟨b28, q29, h⟩ := bi_ h
      refine v_getR (f := 6) G cl7 dX7_readPupil_72 w845 (by decide) (by decide) q29 ?_
      refine v_iload_n G dX7_readPupil_75 rfl ?_
      refine v_iload_n G dX7_readPupil_76 rfl ?_
      obtain ⟨M30, q31, h⟩ := bi_ h
      refine v_iast G dX7_readPupil_77 q31 ?_
      refine v_aload_n G dX7_readPupil_78 rfl ?_
      obtain ⟨b32, q33, h⟩ := bi_ h
      refine v_getR (f := 6) G cl7 dX7_readPupil_79 w845 (by decide) (by decide) q33 ?_
      refine v_iload_n G dX7_readPupil_82 rfl ?_
      refine v_iconst G (1 : Int32) dX7_readPupil_83 (by decide) ?_
      refine v_iadd G dX7_readPupil_84 ?_
      refine v_aload_n G dX7_readPupil_85 rfl ?_
      obtain ⟨b34, q35, h⟩ := bi_ h
      refine v_getR (f := 6) G cl7 dX7_readPupil_86 w845 (by decide) (by decide) q35 ?_
      refine v_iconst G (0 : Int32) dX7_readPupil_89 (by decide) ?_
      obtain ⟨v37, q36, h⟩ := bi_ h
      refine v_iald G dX7_readPupil_90 q36 ?_
      obtain ⟨M38, q39, h⟩ := bi_ h
      refine v_iast G dX7_readPupil_91 q39 ?_
      refine v_aload_n G dX7_readPupil_92 rfl ?_
      obtain ⟨b40, q41, h⟩ := bi_ h
      refine v_getR (f := 6) G cl7 dX7_readPupil_93 w845 (by decide) (by decide) q41 ?_
      refine v_iload_n G dX7_readPupil_96 rfl ?_
      refine v_iconst G (2 : Int32) dX7_readPupil_97 (by decide) ?_
      refine v_iadd G dX7_readPupil_98 ?_
      refine v_iload_n G dX7_readPupil_99 rfl ?_
      obtain ⟨M42, q43, h⟩ := bi_ h
      refine v_iast G dX7_readPupil_100 q43 ?_
      refine v_aload_n G dX7_readPupil_101 rfl ?_
      obtain ⟨b44, q45, h⟩ := bi_ h
      refine v_getR (f := 6) G cl7 dX7_readPupil_102 w845 (by decide) (by decide) q45 ?_
      refine v_iconst G (0 : Int32) dX7_readPupil_105 (by decide) ?_
      refine v_dup2 G dX7_readPupil_106 rfl rfl ?_
      obtain ⟨v47, q46, h⟩ := bi_ h
      refine v_iald G dX7_readPupil_107 q46 ?_
      refine v_iconst G (1 : Int32) dX7_readPupil_108 (by decide) ?_
      refine v_iadd G dX7_readPupil_109 ?_
      obtain ⟨M48, q49, h⟩ := bi_ h
      refine v_iast G dX7_readPupil_110 q49 ?_
      cases h
      exact v_vret G F dX7_readPupil_111 rfl (Nat.le_refl _)
  · rw [if_pos q9] at h
    refine v_aload_n G dX7_readPupil_19 rfl ?_
    refine v_iconst G (3 : Int32) dX7_readPupil_20 (by decide) ?_
    obtain ⟨q98, h⟩ := if_s h
    obtain ⟨M54, q53, h⟩ := bi_ h
    refine v_callV0 (e_X7_bad q53) G cl7 my_X7_bad rfl w986 w30 w984 dX7_readPupil_21 q98 rfl (Nat.le_of_ble_eq_true rfl) rfl (Nat.le_of_ble_eq_true rfl) (Nat.zero_le _) (Nat.zero_le _) ?_
    refine v_aload_n G dX7_readPupil_24 rfl ?_
    refine v_iconst G (1 : Int32) dX7_readPupil_25 (by decide) ?_
    obtain ⟨q97, h⟩ := if_s h
    obtain ⟨M56, q55, h⟩ := bi_ h
    refine v_callV0 (e_X7_must q55) G cl7 my_X7_must rfl w982 w29 w980 dX7_readPupil_26 q97 rfl (Nat.le_of_ble_eq_true rfl) rfl (Nat.le_of_ble_eq_true rfl) (Nat.zero_le _) (Nat.zero_le _) ?_
    refine v_aload_n G dX7_readPupil_29 rfl ?_
    refine v_iconst G (0 : Int32) dX7_readPupil_30 (by decide) ?_
    refine v_iconst G (1 : Int32) dX7_readPupil_31 (by decide) ?_
    refine v_aload_n G dX7_readPupil_32 rfl ?_
    obtain ⟨b57, q58, h⟩ := bi_ h
    refine v_getR (f := 6) G cl7 dX7_readPupil_33 w845 (by decide) (by decide) q58 ?_
    refine v_iconst G (1 : Int32) dX7_readPupil_36 (by decide) ?_
    obtain ⟨v60, q59, h⟩ := bi_ h
    refine v_iald G dX7_readPupil_37 q59 ?_
    refine v_ishl G dX7_readPupil_38 ?_
    refine v_iconst G (1 : Int32) dX7_readPupil_39 (by decide) ?_
    refine v_isub G dX7_readPupil_40 ?_
    obtain ⟨q96, h⟩ := if_s h
    obtain ⟨M62, v63, q61, h⟩ := bi2_ h
    refine v_callV0 (e_X7_number q61) G cl7 my_X7_number rfl w990 w31 w988 dX7_readPupil_41 q96 rfl (Nat.le_of_ble_eq_true rfl) rfl (Nat.le_of_ble_eq_true rfl) (Nat.zero_le _) (Nat.zero_le _) ?_
    refine v_istore_n [some (.ref x0), some (.int v4), some (.int v63), none] G dX7_readPupil_44 (Nat.le_of_ble_eq_true rfl) rfl rfl ?_
    refine v_aload_n G dX7_readPupil_45 rfl ?_
    refine v_bipush G (59 : Int32) dX7_readPupil_46 (by decide) ?_
    obtain ⟨q95, h⟩ := if_s h
    obtain ⟨M65, q64, h⟩ := bi_ h
    refine v_callV0 (e_X7_mustSign q64) G cl7 my_X7_mustSign rfl w994 w32 w992 dX7_readPupil_48 q95 rfl (Nat.le_of_ble_eq_true rfl) rfl (Nat.le_of_ble_eq_true rfl) (Nat.zero_le _) (Nat.zero_le _) ?_
    refine v_aload_n G dX7_readPupil_51 rfl ?_
    obtain ⟨v66, q67, h⟩ := bi_ h
    refine v_getI (f := 16) G cl7 dX7_readPupil_52 w855 (by decide) (by decide) q67 ?_
    refine v_if_ne 111 G dX7_readPupil_55 (by decide) (fun q68 => ?_) (fun q68 => ?_)
    · rw [if_neg q68] at h
      cases h
      exact v_vret G F dX7_readPupil_111 rfl (Nat.le_refl _)
    · rw [if_pos q68] at h
      refine v_bipush G (19 : Int32) dX7_readPupil_58 (by decide) ?_
      refine v_bipush G (9 : Int32) dX7_readPupil_60 (by decide) ?_
      refine v_aload_n G dX7_readPupil_62 rfl ?_
      obtain ⟨b69, q70, h⟩ := bi_ h
      refine v_getR (f := 6) G cl7 dX7_readPupil_63 w845 (by decide) (by decide) q70 ?_
      refine v_iconst G (0 : Int32) dX7_readPupil_66 (by decide) ?_
      obtain ⟨v72, q71, h⟩ := bi_ h
      refine v_iald G dX7_readPupil_67 q71 ?_
      refine v_imul G dX7_readPupil_68 ?_
      refine v_iadd G dX7_readPupil_69 ?_
      refine v_istore_n [some (.ref x0), some (.int v4), some (.int v63), some (.int ((19 : Int32) + ((9 : Int32) * v72)))] G dX7_readPupil_70 (Nat.le_of_ble_eq_true rfl) rfl rfl ?_
      refine v_aload_n G dX7_readPupil_71 rfl ?_
      obtain ⟨b73, q74, h⟩ := bi_ h
      refine v_getR (f := 6) G cl7 dX7_readPupil_72 w845 (by decide) (by decide) q74 ?_
      refine v_iload_n G dX7_readPupil_75 rfl ?_
      refine v_iload_n G dX7_readPupil_76 rfl ?_
      obtain ⟨M75, q76, h⟩ := bi_ h
      refine v_iast G dX7_readPupil_77 q76 ?_
      refine v_aload_n G dX7_readPupil_78 rfl ?_
      obtain ⟨b77, q78, h⟩ := bi_ h
      refine v_getR (f := 6) G cl7 dX7_readPupil_79 w845 (by decide) (by decide) q78 ?_
      refine v_iload_n G dX7_readPupil_82 rfl ?_
      refine v_iconst G (1 : Int32) dX7_readPupil_83 (by decide) ?_
      refine v_iadd G dX7_readPupil_84 ?_
      refine v_aload_n G dX7_readPupil_85 rfl ?_
      obtain ⟨b79, q80, h⟩ := bi_ h
      refine v_getR (f := 6) G cl7 dX7_readPupil_86 w845 (by decide) (by decide) q80 ?_
      refine v_iconst G (0 : Int32) dX7_readPupil_89 (by decide) ?_
      obtain ⟨v82, q81, h⟩ := bi_ h
      refine v_iald G dX7_readPupil_90 q81 ?_
      obtain ⟨M83, q84, h⟩ := bi_ h
      refine v_iast G dX7_readPupil_91 q84 ?_
      refine v_aload_n G dX7_readPupil_92 rfl ?_
      obtain ⟨b85, q86, h⟩ := bi_ h
      refine v_getR (f := 6) G cl7 dX7_readPupil_93 w845 (by decide) (by decide) q86 ?_
      refine v_iload_n G dX7_readPupil_96 rfl ?_
      refine v_iconst G (2 : Int32) dX7_readPupil_97 (by decide) ?_
      refine v_iadd G dX7_readPupil_98 ?_
      refine v_iload_n G dX7_readPupil_99 rfl ?_
      obtain ⟨M87, q88, h⟩ := bi_ h
      refine v_iast G dX7_readPupil_100 q88 ?_
      refine v_aload_n G dX7_readPupil_101 rfl ?_
      obtain ⟨b89, q90, h⟩ := bi_ h
      refine v_getR (f := 6) G cl7 dX7_readPupil_102 w845 (by decide) (by decide) q90 ?_
      refine v_iconst G (0 : Int32) dX7_readPupil_105 (by decide) ?_
      refine v_dup2 G dX7_readPupil_106 rfl rfl ?_
      obtain ⟨v92, q91, h⟩ := bi_ h
      refine v_iald G dX7_readPupil_107 q91 ?_
      refine v_iconst G (1 : Int32) dX7_readPupil_108 (by decide) ?_
      refine v_iadd G dX7_readPupil_109 ?_
      obtain ⟨M93, q94, h⟩ := bi_ h
      refine v_iast G dX7_readPupil_110 q94 ?_
      cases h
      exact v_vret G F dX7_readPupil_111 rfl (Nat.le_refl _)
/-! X7_school -/
def m_X7_school_L11 {ρ : Type} (k0 : mM → Option ρ) (x0 : Nat) : Nat → mM → Int32 → Option ρ
  | 0, _, _ => none
  | n + 1, M, x1 =>
    if (73 : Int32) ≤ x1 then (
      k0 M
    ) else (
      (gR M x0 7 6).bind fun b6 =>
      (stI M b6 x1 (0 : Int32)).bind fun M8 =>
      m_X7_school_L11 k0 x0 n M8 (x1 + (1 : Int32))
    )
theorem e_X7_school_L11 {X : xX} {Z : zZ} {cn sn : Nat} {ρ : Type} {r : ρ} {k0 : mM → Option ρ} (G : ok_ X Z yX7_school cX7_school 2 5 0 0) (hcn : cn ≤ 0) (hsn : sn ≤ 0) (x0 : Nat)
    (hx0 : ∀ (N : mM), k0 N = some r → V X Z N cn sn 30 [some (.ref x0), none] []) :
    ∀ (n : Nat) (M : mM) (x1 : Int32), m_X7_school_L11 k0 x0 n M x1 = some r → V X Z M cn sn 11 [some (.ref x0), some (.int x1)] [] := by
  intro n
  induction n with
  | zero => intro M x1 h; rw [m_X7_school_L11] at h; cases h
  | succ n ih =>
    intro M x1 h
    rw [m_X7_school_L11] at h
    refine v_iload_n G dX7_school_11 rfl ?_
    refine v_bipush G (73 : Int32) dX7_school_12 (by decide) ?_
    refine v_ic_ge 30 G dX7_school_14 (by decide) (fun q5 => ?_) (fun q5 => ?_)
    · rw [if_pos q5] at h
      exact v_mask [true, false] rfl (hx0 _ h)
    · rw [if_neg q5] at h
      refine v_aload_n G dX7_school_17 rfl ?_
      obtain ⟨b6, q7, h⟩ := bi_ h
      refine v_getR (f := 6) G cl7 dX7_school_18 w845 (by decide) (by decide) q7 ?_
      refine v_iload_n G dX7_school_21 rfl ?_
      refine v_iconst G (0 : Int32) dX7_school_22 (by decide) ?_
      obtain ⟨M8, q9, h⟩ := bi_ h
      refine v_iast G dX7_school_23 q9 ?_
      refine v_iinc (x1 + (1 : Int32)) [some (.ref x0), some (.int (x1 + (1 : Int32)))] G dX7_school_24 rfl rfl (Nat.le_of_ble_eq_true rfl) rfl rfl ?_
      refine v_goto 11 G dX7_school_27 (by decide) ?_
      exact v_mask [true, true] rfl (ih _ _ h)
def m_X7_school_L63 {ρ : Type} (k0 : mM → Option ρ) (x0 : Nat) : Nat → mM → Option ρ
  | 0, _ => none
  | n + 1, M =>
    if isO M x0 7 = true then
    (m_X7_isLetter M x0 (106 : Int32)).bind fun v27 =>
    if v27 = (0 : Int32) then (
      k0 M
    ) else (
      if isO M x0 7 = true then
      (m_X7_readSubject M x0).bind fun M30 =>
      m_X7_school_L63 k0 x0 n M30
      else none
    )
    else none
theorem e_X7_school_L63 {X : xX} {Z : zZ} {cn sn : Nat} {ρ : Type} {r : ρ} {k0 : mM → Option ρ} (G : ok_ X Z yX7_school cX7_school 2 5 0 0) (hcn : cn ≤ 0) (hsn : sn ≤ 0) (x0 : Nat)
    (hx0 : ∀ (N : mM), k0 N = some r → V X Z N cn sn 79 [some (.ref x0), none] []) :
    ∀ (n : Nat) (M : mM), m_X7_school_L63 k0 x0 n M = some r → V X Z M cn sn 63 [some (.ref x0), none] [] := by
  intro n
  induction n with
  | zero => intro M h; rw [m_X7_school_L63] at h; cases h
  | succ n ih =>
    intro M h
    rw [m_X7_school_L63] at h
    refine v_aload_n G dX7_school_63 rfl ?_
    refine v_bipush G (106 : Int32) dX7_school_64 (by decide) ?_
    obtain ⟨q32, h⟩ := if_s h
    obtain ⟨v27, q26, h⟩ := bi_ h
    refine v_callV0 (e_X7_isLetter q26) G cl7 my_X7_isLetter rfl w978 w28 w976 dX7_school_66 q32 rfl (Nat.le_of_ble_eq_true rfl) rfl (Nat.le_of_ble_eq_true rfl) hcn hsn ?_
    refine v_if_eq 79 G dX7_school_69 (by decide) (fun q28 => ?_) (fun q28 => ?_)
    · rw [if_pos q28] at h
      exact v_mask [true, false] rfl (hx0 _ h)
    · rw [if_neg q28] at h
      refine v_aload_n G dX7_school_72 rfl ?_
      obtain ⟨q31, h⟩ := if_s h
      obtain ⟨M30, q29, h⟩ := bi_ h
      refine v_callV0 (e_X7_readSubject q29) G cl7 my_X7_readSubject rfl w998 w33 w996 dX7_school_73 q31 rfl (Nat.le_of_ble_eq_true rfl) rfl (Nat.le_of_ble_eq_true rfl) hcn hsn ?_
      refine v_goto 63 G dX7_school_76 (by decide) ?_
      exact v_mask [true, false] rfl (ih _ h)
def m_X7_school_L83 {ρ : Type} (k0 : mM → Option ρ) (x0 : Nat) : Nat → mM → Option ρ
  | 0, _ => none
  | n + 1, M =>
    if isO M x0 7 = true then
    (m_X7_isLetter M x0 (100 : Int32)).bind fun v37 =>
    if v37 = (0 : Int32) then (
      k0 M
    ) else (
      if isO M x0 7 = true then
      (m_X7_readLesson M x0).bind fun M40 =>
      m_X7_school_L83 k0 x0 n M40
      else none
    )
    else none
theorem e_X7_school_L83 {X : xX} {Z : zZ} {cn sn : Nat} {ρ : Type} {r : ρ} {k0 : mM → Option ρ} (G : ok_ X Z yX7_school cX7_school 2 5 0 0) (hcn : cn ≤ 0) (hsn : sn ≤ 0) (x0 : Nat)
    (hx0 : ∀ (N : mM), k0 N = some r → V X Z N cn sn 99 [some (.ref x0), none] []) :
    ∀ (n : Nat) (M : mM), m_X7_school_L83 k0 x0 n M = some r → V X Z M cn sn 83 [some (.ref x0), none] [] := by
  intro n
  induction n with
  | zero => intro M h; rw [m_X7_school_L83] at h; cases h
  | succ n ih =>
    intro M h
    rw [m_X7_school_L83] at h
    refine v_aload_n G dX7_school_83 rfl ?_
    refine v_bipush G (100 : Int32) dX7_school_84 (by decide) ?_
    obtain ⟨q42, h⟩ := if_s h
    obtain ⟨v37, q36, h⟩ := bi_ h
    refine v_callV0 (e_X7_isLetter q36) G cl7 my_X7_isLetter rfl w978 w28 w976 dX7_school_86 q42 rfl (Nat.le_of_ble_eq_true rfl) rfl (Nat.le_of_ble_eq_true rfl) hcn hsn ?_
    refine v_if_eq 99 G dX7_school_89 (by decide) (fun q38 => ?_) (fun q38 => ?_)
    · rw [if_pos q38] at h
      exact v_mask [true, false] rfl (hx0 _ h)
    · rw [if_neg q38] at h
      refine v_aload_n G dX7_school_92 rfl ?_
      obtain ⟨q41, h⟩ := if_s h
      obtain ⟨M40, q39, h⟩ := bi_ h
      refine v_callV0 (e_X7_readLesson q39) G cl7 my_X7_readLesson rfl w1002 w34 w1000 dX7_school_93 q41 rfl (Nat.le_of_ble_eq_true rfl) rfl (Nat.le_of_ble_eq_true rfl) hcn hsn ?_
      refine v_goto 83 G dX7_school_96 (by decide) ?_
      exact v_mask [true, false] rfl (ih _ h)
def m_X7_school_L111 {ρ : Type} (k0 : mM → Option ρ) (x0 : Nat) : Nat → mM → Option ρ
  | 0, _ => none
  | n + 1, M =>
    if isO M x0 7 = true then
    (m_X7_isSort M x0).bind fun v48 =>
    if v48 = (0 : Int32) then (
      k0 M
    ) else (
      if isO M x0 7 = true then
      (m_X7_readPupil M x0).bind fun M51 =>
      m_X7_school_L111 k0 x0 n M51
      else none
    )
    else none
theorem e_X7_school_L111 {X : xX} {Z : zZ} {cn sn : Nat} {ρ : Type} {r : ρ} {k0 : mM → Option ρ} (G : ok_ X Z yX7_school cX7_school 2 5 0 0) (hcn : cn ≤ 0) (hsn : sn ≤ 0) (x0 : Nat)
    (hx0 : ∀ (N : mM), k0 N = some r → V X Z N cn sn 125 [some (.ref x0), none] []) :
    ∀ (n : Nat) (M : mM), m_X7_school_L111 k0 x0 n M = some r → V X Z M cn sn 111 [some (.ref x0), none] [] := by
  intro n
  induction n with
  | zero => intro M h; rw [m_X7_school_L111] at h; cases h
  | succ n ih =>
    intro M h
    rw [m_X7_school_L111] at h
    refine v_aload_n G dX7_school_111 rfl ?_
    obtain ⟨q53, h⟩ := if_s h
    obtain ⟨v48, q47, h⟩ := bi_ h
    refine v_callV0 (e_X7_isSort q47) G cl7 my_X7_isSort rfl w1006 w35 w1004 dX7_school_112 q53 rfl (Nat.le_of_ble_eq_true rfl) rfl (Nat.le_of_ble_eq_true rfl) hcn hsn ?_
    refine v_if_eq 125 G dX7_school_115 (by decide) (fun q49 => ?_) (fun q49 => ?_)
    · rw [if_pos q49] at h
      exact v_mask [true, false] rfl (hx0 _ h)
    · rw [if_neg q49] at h
      refine v_aload_n G dX7_school_118 rfl ?_
      obtain ⟨q52, h⟩ := if_s h
      obtain ⟨M51, q50, h⟩ := bi_ h
      refine v_callV0 (e_X7_readPupil q50) G cl7 my_X7_readPupil rfl w1013 w36 w1011 dX7_school_119 q52 rfl (Nat.le_of_ble_eq_true rfl) rfl (Nat.le_of_ble_eq_true rfl) hcn hsn ?_
      refine v_goto 111 G dX7_school_122 (by decide) ?_
      exact v_mask [true, false] rfl (ih _ h)
def m_X7_school_L147 {ρ : Type} (k0 : mM → Option ρ) (x0 : Nat) : Nat → mM → Int32 → Option ρ
  | 0, _, _ => none
  | n + 1, M, x1 =>
    if (73 : Int32) ≤ x1 then (
      k0 M
    ) else (
      (gR M x0 7 5).bind fun b62 =>
      (gR M x0 7 6).bind fun b64 =>
      (ldI M b64 x1).bind fun v67 =>
      (stI M b62 x1 v67).bind fun M68 =>
      m_X7_school_L147 k0 x0 n M68 (x1 + (1 : Int32))
    )
theorem e_X7_school_L147 {X : xX} {Z : zZ} {cn sn : Nat} {ρ : Type} {r : ρ} {k0 : mM → Option ρ} (G : ok_ X Z yX7_school cX7_school 2 5 0 0) (hcn : cn ≤ 0) (hsn : sn ≤ 0) (x0 : Nat)
    (hx0 : ∀ (N : mM), k0 N = some r → V X Z N cn sn 171 [some (.ref x0), none] []) :
    ∀ (n : Nat) (M : mM) (x1 : Int32), m_X7_school_L147 k0 x0 n M x1 = some r → V X Z M cn sn 147 [some (.ref x0), some (.int x1)] [] := by
  intro n
  induction n with
  | zero => intro M x1 h; rw [m_X7_school_L147] at h; cases h
  | succ n ih =>
    intro M x1 h
    rw [m_X7_school_L147] at h
    refine v_iload_n G dX7_school_147 rfl ?_
    refine v_bipush G (73 : Int32) dX7_school_148 (by decide) ?_
    refine v_ic_ge 171 G dX7_school_150 (by decide) (fun q61 => ?_) (fun q61 => ?_)
    · rw [if_pos q61] at h
      exact v_mask [true, false] rfl (hx0 _ h)
    · rw [if_neg q61] at h
      refine v_aload_n G dX7_school_153 rfl ?_
      obtain ⟨b62, q63, h⟩ := bi_ h
      refine v_getR (f := 5) G cl7 dX7_school_154 w844 (by decide) (by decide) q63 ?_
      refine v_iload_n G dX7_school_157 rfl ?_
      refine v_aload_n G dX7_school_158 rfl ?_
      obtain ⟨b64, q65, h⟩ := bi_ h
      refine v_getR (f := 6) G cl7 dX7_school_159 w845 (by decide) (by decide) q65 ?_
      refine v_iload_n G dX7_school_162 rfl ?_
      obtain ⟨v67, q66, h⟩ := bi_ h
      refine v_iald G dX7_school_163 q66 ?_
      obtain ⟨M68, q69, h⟩ := bi_ h
      refine v_iast G dX7_school_164 q69 ?_
      refine v_iinc (x1 + (1 : Int32)) [some (.ref x0), some (.int (x1 + (1 : Int32)))] G dX7_school_165 rfl rfl (Nat.le_of_ble_eq_true rfl) rfl rfl ?_
      refine v_goto 147 G dX7_school_168 (by decide) ?_
      exact v_mask [true, true] rfl (ih _ _ h)
def m_X7_school (M : mM) (x0 : Nat) : Option (mM × Int32) :=
  (pI M x0 7 0 (0 : Int32)).bind fun M1 =>
  if isO M1 x0 7 = true then
  (m_X7_begin M1 x0).bind fun M4 =>
  m_X7_school_L11
    (fun M10 =>
      if isO M10 x0 7 = true then
      (m_X7_isLetter M10 x0 (114 : Int32)).bind fun v12 =>
      if isO M10 x0 7 = true then
      (m_X7_must M10 x0 v12).bind fun M14 =>
      (gR M14 x0 7 6).bind fun b15 =>
      if isO M14 x0 7 = true then
      bd2 (m_X7_number M14 x0 (0 : Int32) (6 : Int32)) fun M18 v19 =>
      (stI M18 b15 (4 : Int32) v19).bind fun M20 =>
      if isO M20 x0 7 = true then
      (m_X7_mustSign M20 x0 (59 : Int32)).bind fun M23 =>
      if isO M23 x0 7 = true then
      (m_X7_readSubject M23 x0).bind fun M25 =>
      m_X7_school_L63
        (fun M33 =>
          if isO M33 x0 7 = true then
          (m_X7_readLesson M33 x0).bind fun M35 =>
          m_X7_school_L83
            (fun M43 =>
              if isO M43 x0 7 = true then
              (m_X7_isSort M43 x0).bind fun v45 =>
              if v45 = (0 : Int32) then (
                if isO M43 x0 7 = true then
                (m_X7_bad M43 x0 (1 : Int32)).bind fun M79 =>
                m_X7_school_L111
                  (fun M80 =>
                    if isO M80 x0 7 = true then
                    bd2 (m_X7_failed M80 x0) fun M82 v83 =>
                    if v83 = (0 : Int32) then (
                      (pI M82 x0 7 9 (0 : Int32)).bind fun M85 =>
                      m_X7_school_L147
                        (fun M87 =>
                          (gR M87 x0 7 5).bind fun b88 =>
                          (ldI M87 b88 (0 : Int32)).bind fun v91 =>
                          some (M87, v91))
                        x0 FU M85 (0 : Int32)
                    ) else (
                      (gI M82 x0 7 17).bind fun v92 =>
                      some (M82, ((-1000100 : Int32) - v92))
                    )
                    else none)
                  x0 FU M79
                else none
              ) else (
                m_X7_school_L111
                  (fun M54 =>
                    if isO M54 x0 7 = true then
                    bd2 (m_X7_failed M54 x0) fun M56 v57 =>
                    if v57 = (0 : Int32) then (
                      (pI M56 x0 7 9 (0 : Int32)).bind fun M59 =>
                      m_X7_school_L147
                        (fun M70 =>
                          (gR M70 x0 7 5).bind fun b71 =>
                          (ldI M70 b71 (0 : Int32)).bind fun v74 =>
                          some (M70, v74))
                        x0 FU M59 (0 : Int32)
                    ) else (
                      (gI M56 x0 7 17).bind fun v75 =>
                      some (M56, ((-1000100 : Int32) - v75))
                    )
                    else none)
                  x0 FU M43
              )
              else none)
            x0 FU M35
          else none)
        x0 FU M25
      else none
      else none
      else none
      else none
      else none)
    x0 FU M4 (0 : Int32)
  else none
theorem e_X7_school {Z : zZ} {M : mM} {N : mM} {x0 : Nat} {r : Int32} (h : m_X7_school M x0 = some (N, r)) : EM Z yX7_school cX7_school 2 (some .int) 5 0 0 [.ref x0] M N (some (.int r)) := by
  refine EM_of my_X7_school (Nat.le_of_ble_eq_true rfl) (fun X G F => ?_)
  show V X Z M 0 0 0 [some (.ref x0), none] []
  unfold m_X7_school at h
  refine v_aload_n G dX7_school_0 rfl ?_
  refine v_iconst G (0 : Int32) dX7_school_1 (by decide) ?_
  obtain ⟨M1, q2, h⟩ := bi_ h
  refine v_putI (f := 0) G cl7 dX7_school_2 w839 (by decide) (by decide) (by decide) rfl rfl q2 ?_
  refine v_aload_n G dX7_school_5 rfl ?_
  obtain ⟨q103, h⟩ := if_s h
  obtain ⟨M4, q3, h⟩ := bi_ h
  refine v_callV0 (e_X7_begin q3) G cl7 my_X7_begin rfl w965 w26 w963 dX7_school_6 q103 rfl (Nat.le_of_ble_eq_true rfl) rfl (Nat.le_of_ble_eq_true rfl) (Nat.zero_le _) (Nat.zero_le _) ?_
  refine v_iconst G (0 : Int32) dX7_school_9 (by decide) ?_
  refine v_istore_n [some (.ref x0), some (.int (0 : Int32))] G dX7_school_10 (Nat.le_of_ble_eq_true rfl) rfl rfl ?_
  refine v_mask [true, true] rfl ?_
  refine e_X7_school_L11 G (Nat.zero_le _) (Nat.zero_le _) _ (fun M10 h => ?_) FU _ _ h
  refine v_aload_n G dX7_school_30 rfl ?_
  refine v_aload_n G dX7_school_31 rfl ?_
  refine v_bipush G (114 : Int32) dX7_school_32 (by decide) ?_
  obtain ⟨q102, h⟩ := if_s h
  obtain ⟨v12, q11, h⟩ := bi_ h
  refine v_callV0 (e_X7_isLetter q11) G cl7 my_X7_isLetter rfl w978 w28 w976 dX7_school_34 q102 rfl (Nat.le_of_ble_eq_true rfl) rfl (Nat.le_of_ble_eq_true rfl) (Nat.zero_le _) (Nat.zero_le _) ?_
  obtain ⟨q101, h⟩ := if_s h
  obtain ⟨M14, q13, h⟩ := bi_ h
  refine v_callV0 (e_X7_must q13) G cl7 my_X7_must rfl w982 w29 w980 dX7_school_37 q101 rfl (Nat.le_of_ble_eq_true rfl) rfl (Nat.le_of_ble_eq_true rfl) (Nat.zero_le _) (Nat.zero_le _) ?_
  refine v_aload_n G dX7_school_40 rfl ?_
  obtain ⟨b15, q16, h⟩ := bi_ h
  refine v_getR (f := 6) G cl7 dX7_school_41 w845 (by decide) (by decide) q16 ?_
  refine v_iconst G (4 : Int32) dX7_school_44 (by decide) ?_
  refine v_aload_n G dX7_school_45 rfl ?_
  refine v_iconst G (0 : Int32) dX7_school_46 (by decide) ?_
  refine v_bipush G (6 : Int32) dX7_school_47 (by decide) ?_
  obtain ⟨q100, h⟩ := if_s h
  obtain ⟨M18, v19, q17, h⟩ := bi2_ h
  refine v_callV0 (e_X7_number q17) G cl7 my_X7_number rfl w990 w31 w988 dX7_school_49 q100 rfl (Nat.le_of_ble_eq_true rfl) rfl (Nat.le_of_ble_eq_true rfl) (Nat.zero_le _) (Nat.zero_le _) ?_
  obtain ⟨M20, q21, h⟩ := bi_ h
  refine v_iast G dX7_school_52 q21 ?_
  refine v_aload_n G dX7_school_53 rfl ?_
  refine v_bipush G (59 : Int32) dX7_school_54 (by decide) ?_
  obtain ⟨q99, h⟩ := if_s h
  obtain ⟨M23, q22, h⟩ := bi_ h
  refine v_callV0 (e_X7_mustSign q22) G cl7 my_X7_mustSign rfl w994 w32 w992 dX7_school_56 q99 rfl (Nat.le_of_ble_eq_true rfl) rfl (Nat.le_of_ble_eq_true rfl) (Nat.zero_le _) (Nat.zero_le _) ?_
  refine v_aload_n G dX7_school_59 rfl ?_
  obtain ⟨q98, h⟩ := if_s h
  obtain ⟨M25, q24, h⟩ := bi_ h
  refine v_callV0 (e_X7_readSubject q24) G cl7 my_X7_readSubject rfl w998 w33 w996 dX7_school_60 q98 rfl (Nat.le_of_ble_eq_true rfl) rfl (Nat.le_of_ble_eq_true rfl) (Nat.zero_le _) (Nat.zero_le _) ?_
  refine v_mask [true, false] rfl ?_
  refine e_X7_school_L63 G (Nat.zero_le _) (Nat.zero_le _) _ (fun M33 h => ?_) FU _ h
  refine v_aload_n G dX7_school_79 rfl ?_
  obtain ⟨q97, h⟩ := if_s h
  obtain ⟨M35, q34, h⟩ := bi_ h
  refine v_callV0 (e_X7_readLesson q34) G cl7 my_X7_readLesson rfl w1002 w34 w1000 dX7_school_80 q97 rfl (Nat.le_of_ble_eq_true rfl) rfl (Nat.le_of_ble_eq_true rfl) (Nat.zero_le _) (Nat.zero_le _) ?_
  refine v_mask [true, false] rfl ?_
  refine e_X7_school_L83 G (Nat.zero_le _) (Nat.zero_le _) _ (fun M43 h => ?_) FU _ h
  refine v_aload_n G dX7_school_99 rfl ?_
  obtain ⟨q96, h⟩ := if_s h
  obtain ⟨v45, q44, h⟩ := bi_ h
  refine v_callV0 (e_X7_isSort q44) G cl7 my_X7_isSort rfl w1006 w35 w1004 dX7_school_100 q96 rfl (Nat.le_of_ble_eq_true rfl) rfl (Nat.le_of_ble_eq_true rfl) (Nat.zero_le _) (Nat.zero_le _) ?_
  refine v_if_ne 111 G dX7_school_103 (by decide) (fun q46 => ?_) (fun q46 => ?_)
  · rw [if_neg q46] at h
    refine v_mask [true, false] rfl ?_
    refine e_X7_school_L111 G (Nat.zero_le _) (Nat.zero_le _) _ (fun M54 h => ?_) FU _ h
    refine v_aload_n G dX7_school_125 rfl ?_
    obtain ⟨q77, h⟩ := if_s h
    obtain ⟨M56, v57, q55, h⟩ := bi2_ h
    refine v_callV0 (e_X7_failed q55) G cl7 my_X7_failed rfl w1017 w37 w1015 dX7_school_126 q77 rfl (Nat.le_of_ble_eq_true rfl) rfl (Nat.le_of_ble_eq_true rfl) (Nat.zero_le _) (Nat.zero_le _) ?_
    refine v_if_eq 140 G dX7_school_129 (by decide) (fun q58 => ?_) (fun q58 => ?_)
    · rw [if_pos q58] at h
      refine v_aload_n G dX7_school_140 rfl ?_
      refine v_iconst G (0 : Int32) dX7_school_141 (by decide) ?_
      obtain ⟨M59, q60, h⟩ := bi_ h
      refine v_putI (f := 9) G cl7 dX7_school_142 w848 (by decide) (by decide) (by decide) rfl rfl q60 ?_
      refine v_iconst G (0 : Int32) dX7_school_145 (by decide) ?_
      refine v_istore_n [some (.ref x0), some (.int (0 : Int32))] G dX7_school_146 (Nat.le_of_ble_eq_true rfl) rfl rfl ?_
      refine v_mask [true, true] rfl ?_
      refine e_X7_school_L147 G (Nat.zero_le _) (Nat.zero_le _) _ (fun M70 h => ?_) FU _ _ h
      refine v_aload_n G dX7_school_171 rfl ?_
      obtain ⟨b71, q72, h⟩ := bi_ h
      refine v_getR (f := 5) G cl7 dX7_school_172 w844 (by decide) (by decide) q72 ?_
      refine v_iconst G (0 : Int32) dX7_school_175 (by decide) ?_
      obtain ⟨v74, q73, h⟩ := bi_ h
      refine v_iald G dX7_school_176 q73 ?_
      cases h
      exact v_iret G F dX7_school_177 rfl (Nat.le_refl _)
    · rw [if_neg q58] at h
      refine v_ldc G (-1000100 : Int32) dX7_school_132 w1019 ?_
      refine v_aload_n G dX7_school_134 rfl ?_
      obtain ⟨v75, q76, h⟩ := bi_ h
      refine v_getI (f := 17) G cl7 dX7_school_135 w856 (by decide) (by decide) q76 ?_
      refine v_isub G dX7_school_138 ?_
      cases h
      exact v_iret G F dX7_school_139 rfl (Nat.le_refl _)
  · rw [if_pos q46] at h
    refine v_aload_n G dX7_school_106 rfl ?_
    refine v_iconst G (1 : Int32) dX7_school_107 (by decide) ?_
    obtain ⟨q95, h⟩ := if_s h
    obtain ⟨M79, q78, h⟩ := bi_ h
    refine v_callV0 (e_X7_bad q78) G cl7 my_X7_bad rfl w986 w30 w984 dX7_school_108 q95 rfl (Nat.le_of_ble_eq_true rfl) rfl (Nat.le_of_ble_eq_true rfl) (Nat.zero_le _) (Nat.zero_le _) ?_
    refine v_mask [true, false] rfl ?_
    refine e_X7_school_L111 G (Nat.zero_le _) (Nat.zero_le _) _ (fun M80 h => ?_) FU _ h
    refine v_aload_n G dX7_school_125 rfl ?_
    obtain ⟨q94, h⟩ := if_s h
    obtain ⟨M82, v83, q81, h⟩ := bi2_ h
    refine v_callV0 (e_X7_failed q81) G cl7 my_X7_failed rfl w1017 w37 w1015 dX7_school_126 q94 rfl (Nat.le_of_ble_eq_true rfl) rfl (Nat.le_of_ble_eq_true rfl) (Nat.zero_le _) (Nat.zero_le _) ?_
    refine v_if_eq 140 G dX7_school_129 (by decide) (fun q84 => ?_) (fun q84 => ?_)
    · rw [if_pos q84] at h
      refine v_aload_n G dX7_school_140 rfl ?_
      refine v_iconst G (0 : Int32) dX7_school_141 (by decide) ?_
      obtain ⟨M85, q86, h⟩ := bi_ h
      refine v_putI (f := 9) G cl7 dX7_school_142 w848 (by decide) (by decide) (by decide) rfl rfl q86 ?_
      refine v_iconst G (0 : Int32) dX7_school_145 (by decide) ?_
      refine v_istore_n [some (.ref x0), some (.int (0 : Int32))] G dX7_school_146 (Nat.le_of_ble_eq_true rfl) rfl rfl ?_
      refine v_mask [true, true] rfl ?_
      refine e_X7_school_L147 G (Nat.zero_le _) (Nat.zero_le _) _ (fun M87 h => ?_) FU _ _ h
      refine v_aload_n G dX7_school_171 rfl ?_
      obtain ⟨b88, q89, h⟩ := bi_ h
      refine v_getR (f := 5) G cl7 dX7_school_172 w844 (by decide) (by decide) q89 ?_
      refine v_iconst G (0 : Int32) dX7_school_175 (by decide) ?_
      obtain ⟨v91, q90, h⟩ := bi_ h
      refine v_iald G dX7_school_176 q90 ?_
      cases h
      exact v_iret G F dX7_school_177 rfl (Nat.le_refl _)
    · rw [if_neg q84] at h
      refine v_ldc G (-1000100 : Int32) dX7_school_132 w1019 ?_
      refine v_aload_n G dX7_school_134 rfl ?_
      obtain ⟨v92, q93, h⟩ := bi_ h
      refine v_getI (f := 17) G cl7 dX7_school_135 w856 (by decide) (by decide) q93 ?_
      refine v_isub G dX7_school_138 ?_
      cases h
      exact v_iret G F dX7_school_139 rfl (Nat.le_refl _)
/-! X7_isThere -/
def m_X7_isThere (M : mM) (x0 : Nat) : Option Int32 :=
  (gR M x0 7 5).bind fun b1 =>
  (ldI M b1 (0 : Int32)).bind fun v4 =>
  if v4 ≤ (0 : Int32) then (
    some (0 : Int32)
  ) else (
    some (1 : Int32)
  )
theorem e_X7_isThere {Z : zZ} {M : mM} {x0 : Nat} {r : Int32} (h : m_X7_isThere M x0 = some r) : EM Z yX7_isThere cX7_isThere 1 (some .boolean) 0 0 0 [.ref x0] M M (some (.int r)) := by
  refine EM_of my_X7_isThere (Nat.le_of_ble_eq_true rfl) (fun X G F => ?_)
  show V X Z M 0 0 0 [some (.ref x0)] []
  unfold m_X7_isThere at h
  refine v_aload_n G dX7_isThere_0 rfl ?_
  obtain ⟨b1, q2, h⟩ := bi_ h
  refine v_getR (f := 5) G cl7 dX7_isThere_1 w844 (by decide) (by decide) q2 ?_
  refine v_iconst G (0 : Int32) dX7_isThere_4 (by decide) ?_
  obtain ⟨v4, q3, h⟩ := bi_ h
  refine v_iald G dX7_isThere_5 q3 ?_
  refine v_if_le 13 G dX7_isThere_6 (by decide) (fun q5 => ?_) (fun q5 => ?_)
  · rw [if_pos q5] at h
    refine v_iconst G (0 : Int32) dX7_isThere_13 (by decide) ?_
    cases h
    exact v_zret G F rfl dX7_isThere_14 rfl (Nat.le_refl _)
  · rw [if_neg q5] at h
    refine v_iconst G (1 : Int32) dX7_isThere_9 (by decide) ?_
    refine v_goto 14 G dX7_isThere_10 (by decide) ?_
    cases h
    exact v_zret G F rfl dX7_isThere_14 rfl (Nat.le_refl _)
/-! X7_isPupil -/
def m_X7_isPupil (M : mM) (x0 : Nat) (x1 : Int32) : Option Int32 :=
  (gR M x0 7 5).bind fun b1 =>
  (ldI M b1 (0 : Int32)).bind fun v4 =>
  (m_X7_in M (Int32.toInt64 x1) (0 : Int64) (Int32.toInt64 (v4 - (1 : Int32)))).bind fun v6 =>
  if (v6 == 0 || v6 == 1) = true then some v6 else none
theorem e_X7_isPupil {Z : zZ} {M : mM} {x0 : Nat} {x1 : Int32} {r : Int32} (h : m_X7_isPupil M x0 x1 = some r) : EM Z yX7_isPupil cX7_isPupil 2 (some .boolean) 1 0 0 [.ref x0, .int x1] M M (some (.int r)) := by
  refine EM_of my_X7_isPupil (Nat.le_of_ble_eq_true rfl) (fun X G F => ?_)
  show V X Z M 0 0 0 [some (.ref x0), some (.int x1)] []
  unfold m_X7_isPupil at h
  refine v_iload_n G dX7_isPupil_0 rfl ?_
  refine v_i2l G dX7_isPupil_1 ?_
  refine v_lconst G (0 : Int64) dX7_isPupil_2 (by decide) ?_
  refine v_aload_n G dX7_isPupil_3 rfl ?_
  obtain ⟨b1, q2, h⟩ := bi_ h
  refine v_getR (f := 5) G cl7 dX7_isPupil_4 w844 (by decide) (by decide) q2 ?_
  refine v_iconst G (0 : Int32) dX7_isPupil_7 (by decide) ?_
  obtain ⟨v4, q3, h⟩ := bi_ h
  refine v_iald G dX7_isPupil_8 q3 ?_
  refine v_iconst G (1 : Int32) dX7_isPupil_9 (by decide) ?_
  refine v_isub G dX7_isPupil_10 ?_
  refine v_i2l G dX7_isPupil_11 ?_
  obtain ⟨v6, q5, h⟩ := bi_ h
  refine v_callS0 (e_X7_in q5) G my_X7_in w928 w927 dX7_isPupil_12 rfl (Nat.le_of_ble_eq_true rfl) rfl (Nat.le_of_ble_eq_true rfl) (Nat.zero_le _) (Nat.zero_le _) ?_
  obtain ⟨q7, h⟩ := if_s h
  cases h
  exact v_zret G F q7 dX7_isPupil_15 rfl (Nat.le_refl _)
/-! X7_isSubject -/
def m_X7_isSubject (M : mM) (x0 : Nat) (x1 : Int32) : Option Int32 :=
  (gR M x0 7 5).bind fun b1 =>
  (ldI M b1 (1 : Int32)).bind fun v4 =>
  (m_X7_in M (Int32.toInt64 x1) (0 : Int64) (Int32.toInt64 (v4 - (1 : Int32)))).bind fun v6 =>
  if (v6 == 0 || v6 == 1) = true then some v6 else none
theorem e_X7_isSubject {Z : zZ} {M : mM} {x0 : Nat} {x1 : Int32} {r : Int32} (h : m_X7_isSubject M x0 x1 = some r) : EM Z yX7_isSubject cX7_isSubject 2 (some .boolean) 1 0 0 [.ref x0, .int x1] M M (some (.int r)) := by
  refine EM_of my_X7_isSubject (Nat.le_of_ble_eq_true rfl) (fun X G F => ?_)
  show V X Z M 0 0 0 [some (.ref x0), some (.int x1)] []
  unfold m_X7_isSubject at h
  refine v_iload_n G dX7_isSubject_0 rfl ?_
  refine v_i2l G dX7_isSubject_1 ?_
  refine v_lconst G (0 : Int64) dX7_isSubject_2 (by decide) ?_
  refine v_aload_n G dX7_isSubject_3 rfl ?_
  obtain ⟨b1, q2, h⟩ := bi_ h
  refine v_getR (f := 5) G cl7 dX7_isSubject_4 w844 (by decide) (by decide) q2 ?_
  refine v_iconst G (1 : Int32) dX7_isSubject_7 (by decide) ?_
  obtain ⟨v4, q3, h⟩ := bi_ h
  refine v_iald G dX7_isSubject_8 q3 ?_
  refine v_iconst G (1 : Int32) dX7_isSubject_9 (by decide) ?_
  refine v_isub G dX7_isSubject_10 ?_
  refine v_i2l G dX7_isSubject_11 ?_
  obtain ⟨v6, q5, h⟩ := bi_ h
  refine v_callS0 (e_X7_in q5) G my_X7_in w928 w927 dX7_isSubject_12 rfl (Nat.le_of_ble_eq_true rfl) rfl (Nat.le_of_ble_eq_true rfl) (Nat.zero_le _) (Nat.zero_le _) ?_
  obtain ⟨q7, h⟩ := if_s h
  cases h
  exact v_zret G F q7 dX7_isSubject_15 rfl (Nat.le_refl _)
/-! X7_isLesson -/
def m_X7_isLesson (M : mM) (x0 : Nat) (x1 : Int32) : Option Int32 :=
  (gR M x0 7 5).bind fun b1 =>
  (ldI M b1 (2 : Int32)).bind fun v4 =>
  (m_X7_in M (Int32.toInt64 x1) (0 : Int64) (Int32.toInt64 (v4 - (1 : Int32)))).bind fun v6 =>
  if (v6 == 0 || v6 == 1) = true then some v6 else none
theorem e_X7_isLesson {Z : zZ} {M : mM} {x0 : Nat} {x1 : Int32} {r : Int32} (h : m_X7_isLesson M x0 x1 = some r) : EM Z yX7_isLesson cX7_isLesson 2 (some .boolean) 1 0 0 [.ref x0, .int x1] M M (some (.int r)) := by
  refine EM_of my_X7_isLesson (Nat.le_of_ble_eq_true rfl) (fun X G F => ?_)
  show V X Z M 0 0 0 [some (.ref x0), some (.int x1)] []
  unfold m_X7_isLesson at h
  refine v_iload_n G dX7_isLesson_0 rfl ?_
  refine v_i2l G dX7_isLesson_1 ?_
  refine v_lconst G (0 : Int64) dX7_isLesson_2 (by decide) ?_
  refine v_aload_n G dX7_isLesson_3 rfl ?_
  obtain ⟨b1, q2, h⟩ := bi_ h
  refine v_getR (f := 5) G cl7 dX7_isLesson_4 w844 (by decide) (by decide) q2 ?_
  refine v_iconst G (2 : Int32) dX7_isLesson_7 (by decide) ?_
  obtain ⟨v4, q3, h⟩ := bi_ h
  refine v_iald G dX7_isLesson_8 q3 ?_
  refine v_iconst G (1 : Int32) dX7_isLesson_9 (by decide) ?_
  refine v_isub G dX7_isLesson_10 ?_
  refine v_i2l G dX7_isLesson_11 ?_
  obtain ⟨v6, q5, h⟩ := bi_ h
  refine v_callS0 (e_X7_in q5) G my_X7_in w928 w927 dX7_isLesson_12 rfl (Nat.le_of_ble_eq_true rfl) rfl (Nat.le_of_ble_eq_true rfl) (Nat.zero_le _) (Nat.zero_le _) ?_
  obtain ⟨q7, h⟩ := if_s h
  cases h
  exact v_zret G F q7 dX7_isLesson_15 rfl (Nat.le_refl _)
/-! X7_bits -/
def m_X7_bits_L4 {ρ : Type} (k0 : Int32 → Option ρ) (M : mM) (x0 : Int32) : Nat → Int32 → Int32 → Option ρ
  | 0, _, _ => none
  | n + 1, x1, x2 =>
    if (6 : Int32) ≤ x2 then (
      k0 x1
    ) else (
      m_X7_bits_L4 k0 M x0 n (x1 + ((x0 >>> (x2 &&& 31)) &&& (1 : Int32))) (x2 + (1 : Int32))
    )
theorem e_X7_bits_L4 {X : xX} {Z : zZ} {cn sn : Nat} {ρ : Type} {r : ρ} {k0 : Int32 → Option ρ} (G : ok_ X Z yX7_bits cX7_bits 3 0 0 0) (hcn : cn ≤ 0) (hsn : sn ≤ 0) (M : mM) (x0 : Int32)
    (hx0 : ∀ (z1 : Int32), k0 z1 = some r → V X Z M cn sn 24 [none, some (.int z1), none] []) :
    ∀ (n : Nat) (x1 : Int32) (x2 : Int32), m_X7_bits_L4 k0 M x0 n x1 x2 = some r → V X Z M cn sn 4 [some (.int x0), some (.int x1), some (.int x2)] [] := by
  intro n
  induction n with
  | zero => intro x1 x2 h; rw [m_X7_bits_L4] at h; cases h
  | succ n ih =>
    intro x1 x2 h
    rw [m_X7_bits_L4] at h
    refine v_iload_n G dX7_bits_4 rfl ?_
    refine v_bipush G (6 : Int32) dX7_bits_5 (by decide) ?_
    refine v_ic_ge 24 G dX7_bits_7 (by decide) (fun q1 => ?_) (fun q1 => ?_)
    · rw [if_pos q1] at h
      exact v_mask [false, true, false] rfl (hx0 _ h)
    · rw [if_neg q1] at h
      refine v_iload_n G dX7_bits_10 rfl ?_
      refine v_iload_n G dX7_bits_11 rfl ?_
      refine v_iload_n G dX7_bits_12 rfl ?_
      refine v_ishr G dX7_bits_13 ?_
      refine v_iconst G (1 : Int32) dX7_bits_14 (by decide) ?_
      refine v_iand G dX7_bits_15 ?_
      refine v_iadd G dX7_bits_16 ?_
      refine v_istore_n [some (.int x0), some (.int (x1 + ((x0 >>> (x2 &&& 31)) &&& (1 : Int32)))), some (.int x2)] G dX7_bits_17 (Nat.le_of_ble_eq_true rfl) rfl rfl ?_
      refine v_iinc (x2 + (1 : Int32)) [some (.int x0), some (.int (x1 + ((x0 >>> (x2 &&& 31)) &&& (1 : Int32)))), some (.int (x2 + (1 : Int32)))] G dX7_bits_18 rfl rfl (Nat.le_of_ble_eq_true rfl) rfl rfl ?_
      refine v_goto 4 G dX7_bits_21 (by decide) ?_
      exact v_mask [true, true, true] rfl (ih _ _ h)
def m_X7_bits (M : mM) (x0 : Int32) : Option Int32 :=
  m_X7_bits_L4
    (fun v2 =>
      some v2)
    M x0 FU (0 : Int32) (0 : Int32)
theorem e_X7_bits {Z : zZ} {M : mM} {x0 : Int32} {r : Int32} (h : m_X7_bits M x0 = some r) : EM Z yX7_bits cX7_bits 3 (some .int) 0 0 0 [.int x0] M M (some (.int r)) := by
  refine EM_of my_X7_bits (Nat.le_of_ble_eq_true rfl) (fun X G F => ?_)
  show V X Z M 0 0 0 [some (.int x0), none, none] []
  unfold m_X7_bits at h
  refine v_iconst G (0 : Int32) dX7_bits_0 (by decide) ?_
  refine v_istore_n [some (.int x0), some (.int (0 : Int32)), none] G dX7_bits_1 (Nat.le_of_ble_eq_true rfl) rfl rfl ?_
  refine v_iconst G (0 : Int32) dX7_bits_2 (by decide) ?_
  refine v_istore_n [some (.int x0), some (.int (0 : Int32)), some (.int (0 : Int32))] G dX7_bits_3 (Nat.le_of_ble_eq_true rfl) rfl rfl ?_
  refine v_mask [true, true, true] rfl ?_
  refine e_X7_bits_L4 G (Nat.zero_le _) (Nat.zero_le _) _ _ (fun v2 h => ?_) FU _ _ h
  refine v_iload_n G dX7_bits_24 rfl ?_
  cases h
  exact v_iret G F dX7_bits_25 rfl (Nat.le_refl _)
/-! X7_has -/
def m_X7_has (M : mM) (x0 : Int32) (x1 : Int32) : Option Int32 :=
  if ((x0 >>> (x1 &&& 31)) &&& (1 : Int32)) = (1 : Int32) then (
    some (1 : Int32)
  ) else (
    some (0 : Int32)
  )
theorem e_X7_has {Z : zZ} {M : mM} {x0 : Int32} {x1 : Int32} {r : Int32} (h : m_X7_has M x0 x1 = some r) : EM Z yX7_has cX7_has 2 (some .boolean) 0 0 0 [.int x0, .int x1] M M (some (.int r)) := by
  refine EM_of my_X7_has (Nat.le_of_ble_eq_true rfl) (fun X G F => ?_)
  show V X Z M 0 0 0 [some (.int x0), some (.int x1)] []
  unfold m_X7_has at h
  refine v_iload_n G dX7_has_0 rfl ?_
  refine v_iload_n G dX7_has_1 rfl ?_
  refine v_ishr G dX7_has_2 ?_
  refine v_iconst G (1 : Int32) dX7_has_3 (by decide) ?_
  refine v_iand G dX7_has_4 ?_
  refine v_iconst G (1 : Int32) dX7_has_5 (by decide) ?_
  refine v_ic_ne 13 G dX7_has_6 (by decide) (fun q1 => ?_) (fun q1 => ?_)
  · rw [if_neg q1] at h
    refine v_iconst G (0 : Int32) dX7_has_13 (by decide) ?_
    cases h
    exact v_zret G F rfl dX7_has_14 rfl (Nat.le_refl _)
  · rw [if_pos q1] at h
    refine v_iconst G (1 : Int32) dX7_has_9 (by decide) ?_
    refine v_goto 14 G dX7_has_10 (by decide) ?_
    cases h
    exact v_zret G F rfl dX7_has_14 rfl (Nat.le_refl _)
/-! X7_of -/
def m_X7_of (M : mM) (x0 : Nat) (x1 : Int32) (x2 : Int32) : Option Int32 :=
  (ldI M x0 (((19 : Int32) + ((9 : Int32) * x1)) + x2)).bind fun v2 =>
  some v2
theorem e_X7_of {Z : zZ} {M : mM} {x0 : Nat} {x1 : Int32} {x2 : Int32} {r : Int32} (h : m_X7_of M x0 x1 x2 = some r) : EM Z yX7_of cX7_of 3 (some .int) 0 0 0 [.ref x0, .int x1, .int x2] M M (some (.int r)) := by
  refine EM_of my_X7_of (Nat.le_of_ble_eq_true rfl) (fun X G F => ?_)
  show V X Z M 0 0 0 [some (.ref x0), some (.int x1), some (.int x2)] []
  unfold m_X7_of at h
  refine v_aload_n G dX7_of_0 rfl ?_
  refine v_bipush G (19 : Int32) dX7_of_1 (by decide) ?_
  refine v_bipush G (9 : Int32) dX7_of_3 (by decide) ?_
  refine v_iload_n G dX7_of_5 rfl ?_
  refine v_imul G dX7_of_6 ?_
  refine v_iadd G dX7_of_7 ?_
  refine v_iload_n G dX7_of_8 rfl ?_
  refine v_iadd G dX7_of_9 ?_
  obtain ⟨v2, q1, h⟩ := bi_ h
  refine v_iald G dX7_of_10 q1 ?_
  cases h
  exact v_iret G F dX7_of_11 rfl (Nat.le_refl _)
/-! X7_be -/
def m_X7_be (M : mM) (x0 : Nat) (x1 : Int32) (x2 : Int32) (x3 : Int32) : Option mM :=
  (stI M x0 (((19 : Int32) + ((9 : Int32) * x1)) + x2) x3).bind fun M1 =>
  some M1
theorem e_X7_be {Z : zZ} {M : mM} {N : mM} {x0 : Nat} {x1 : Int32} {x2 : Int32} {x3 : Int32} (h : m_X7_be M x0 x1 x2 x3 = some N) : EM Z yX7_be cX7_be 4 none 0 0 0 [.ref x0, .int x1, .int x2, .int x3] M N none := by
  refine EM_of my_X7_be (Nat.le_of_ble_eq_true rfl) (fun X G F => ?_)
  show V X Z M 0 0 0 [some (.ref x0), some (.int x1), some (.int x2), some (.int x3)] []
  unfold m_X7_be at h
  refine v_aload_n G dX7_be_0 rfl ?_
  refine v_bipush G (19 : Int32) dX7_be_1 (by decide) ?_
  refine v_bipush G (9 : Int32) dX7_be_3 (by decide) ?_
  refine v_iload_n G dX7_be_5 rfl ?_
  refine v_imul G dX7_be_6 ?_
  refine v_iadd G dX7_be_7 ?_
  refine v_iload_n G dX7_be_8 rfl ?_
  refine v_iadd G dX7_be_9 ?_
  refine v_iload_n G dX7_be_10 rfl ?_
  obtain ⟨M1, q2, h⟩ := bi_ h
  refine v_iast G dX7_be_11 q2 ?_
  cases h
  exact v_vret G F dX7_be_12 rfl (Nat.le_refl _)
/-! X7_subjectOf -/
def m_X7_subjectOf (M : mM) (x0 : Nat) (x1 : Int32) : Option Int32 :=
  (ldI M x0 (2 : Int32)).bind fun v2 =>
  if v2 = (0 : Int32) then none else
  (ldI M x0 ((11 : Int32) + (rm_ x1 v2))).bind fun v5 =>
  some v5
theorem e_X7_subjectOf {Z : zZ} {M : mM} {x0 : Nat} {x1 : Int32} {r : Int32} (h : m_X7_subjectOf M x0 x1 = some r) : EM Z yX7_subjectOf cX7_subjectOf 2 (some .int) 0 0 0 [.ref x0, .int x1] M M (some (.int r)) := by
  refine EM_of my_X7_subjectOf (Nat.le_of_ble_eq_true rfl) (fun X G F => ?_)
  show V X Z M 0 0 0 [some (.ref x0), some (.int x1)] []
  unfold m_X7_subjectOf at h
  refine v_aload_n G dX7_subjectOf_0 rfl ?_
  refine v_bipush G (11 : Int32) dX7_subjectOf_1 (by decide) ?_
  refine v_iload_n G dX7_subjectOf_3 rfl ?_
  refine v_aload_n G dX7_subjectOf_4 rfl ?_
  refine v_iconst G (2 : Int32) dX7_subjectOf_5 (by decide) ?_
  obtain ⟨v2, q1, h⟩ := bi_ h
  refine v_iald G dX7_subjectOf_6 q1 ?_
  obtain ⟨q3, h⟩ := in_ h
  refine v_irem G dX7_subjectOf_7 q3 ?_
  refine v_iadd G dX7_subjectOf_8 ?_
  obtain ⟨v5, q4, h⟩ := bi_ h
  refine v_iald G dX7_subjectOf_9 q4 ?_
  cases h
  exact v_iret G F dX7_subjectOf_10 rfl (Nat.le_refl _)
/-! X7_canGrasp -/
def m_X7_canGrasp (M : mM) (x0 : Nat) (x1 : Int32) (x2 : Int32) : Option Int32 :=
  (ldI M x0 ((5 : Int32) + x1)).bind fun v2 =>
  if (v2 &&& (x2 ^^^ (-1 : Int32))) = (0 : Int32) then (
    some (1 : Int32)
  ) else (
    some (0 : Int32)
  )
theorem e_X7_canGrasp {Z : zZ} {M : mM} {x0 : Nat} {x1 : Int32} {x2 : Int32} {r : Int32} (h : m_X7_canGrasp M x0 x1 x2 = some r) : EM Z yX7_canGrasp cX7_canGrasp 3 (some .boolean) 0 0 0 [.ref x0, .int x1, .int x2] M M (some (.int r)) := by
  refine EM_of my_X7_canGrasp (Nat.le_of_ble_eq_true rfl) (fun X G F => ?_)
  show V X Z M 0 0 0 [some (.ref x0), some (.int x1), some (.int x2)] []
  unfold m_X7_canGrasp at h
  refine v_aload_n G dX7_canGrasp_0 rfl ?_
  refine v_iconst G (5 : Int32) dX7_canGrasp_1 (by decide) ?_
  refine v_iload_n G dX7_canGrasp_2 rfl ?_
  refine v_iadd G dX7_canGrasp_3 ?_
  obtain ⟨v2, q1, h⟩ := bi_ h
  refine v_iald G dX7_canGrasp_4 q1 ?_
  refine v_iload_n G dX7_canGrasp_5 rfl ?_
  refine v_iconst G (-1 : Int32) dX7_canGrasp_6 (by decide) ?_
  refine v_ixor G dX7_canGrasp_7 ?_
  refine v_iand G dX7_canGrasp_8 ?_
  refine v_if_ne 16 G dX7_canGrasp_9 (by decide) (fun q3 => ?_) (fun q3 => ?_)
  · rw [if_neg q3] at h
    refine v_iconst G (0 : Int32) dX7_canGrasp_16 (by decide) ?_
    cases h
    exact v_zret G F rfl dX7_canGrasp_17 rfl (Nat.le_refl _)
  · rw [if_pos q3] at h
    refine v_iconst G (1 : Int32) dX7_canGrasp_12 (by decide) ?_
    refine v_goto 17 G dX7_canGrasp_13 (by decide) ?_
    cases h
    exact v_zret G F rfl dX7_canGrasp_17 rfl (Nat.le_refl _)
/-! X7_inSeat -/
def m_X7_inSeat_L2 {ρ : Type} (k0 : Option ρ) (k1 : Int32 → Option ρ) (M : mM) (x0 : Nat) (x1 : Int32) : Nat → Int32 → Option ρ
  | 0, _ => none
  | n + 1, x2 =>
    (ldI M x0 (0 : Int32)).bind fun v2 =>
    if v2 ≤ x2 then (
      k0
    ) else (
      (m_X7_of M x0 x2 (1 : Int32)).bind fun v5 =>
      if v5 = x1 then (
        k1 x2
      ) else (
        m_X7_inSeat_L2 k0 k1 M x0 x1 n (x2 + (1 : Int32))
      )
    )
theorem e_X7_inSeat_L2 {X : xX} {Z : zZ} {cn sn : Nat} {ρ : Type} {r : ρ} {k0 : Option ρ} {k1 : Int32 → Option ρ} (G : ok_ X Z yX7_inSeat cX7_inSeat 3 1 0 0) (hcn : cn ≤ 0) (hsn : sn ≤ 0) (M : mM) (x0 : Nat) (x1 : Int32)
    (hx0 : k0 = some r → V X Z M cn sn 27 [none, none, none] [])
    (hx1 : ∀ (z2 : Int32), k1 z2 = some r → V X Z M cn sn 19 [none, none, some (.int z2)] []) :
    ∀ (n : Nat) (x2 : Int32), m_X7_inSeat_L2 k0 k1 M x0 x1 n x2 = some r → V X Z M cn sn 2 [some (.ref x0), some (.int x1), some (.int x2)] [] := by
  intro n
  induction n with
  | zero => intro x2 h; rw [m_X7_inSeat_L2] at h; cases h
  | succ n ih =>
    intro x2 h
    rw [m_X7_inSeat_L2] at h
    refine v_iload_n G dX7_inSeat_2 rfl ?_
    refine v_aload_n G dX7_inSeat_3 rfl ?_
    refine v_iconst G (0 : Int32) dX7_inSeat_4 (by decide) ?_
    obtain ⟨v2, q1, h⟩ := bi_ h
    refine v_iald G dX7_inSeat_5 q1 ?_
    refine v_ic_ge 27 G dX7_inSeat_6 (by decide) (fun q3 => ?_) (fun q3 => ?_)
    · rw [if_pos q3] at h
      exact v_mask [false, false, false] rfl (hx0 h)
    · rw [if_neg q3] at h
      refine v_aload_n G dX7_inSeat_9 rfl ?_
      refine v_iload_n G dX7_inSeat_10 rfl ?_
      refine v_iconst G (1 : Int32) dX7_inSeat_11 (by decide) ?_
      obtain ⟨v5, q4, h⟩ := bi_ h
      refine v_callS0 (e_X7_of q4) G my_X7_of w1045 w1044 dX7_inSeat_12 rfl (Nat.le_of_ble_eq_true rfl) rfl (Nat.le_of_ble_eq_true rfl) hcn hsn ?_
      refine v_iload_n G dX7_inSeat_15 rfl ?_
      refine v_ic_ne 21 G dX7_inSeat_16 (by decide) (fun q6 => ?_) (fun q6 => ?_)
      · rw [if_neg q6] at h
        refine v_iinc (x2 + (1 : Int32)) [some (.ref x0), some (.int x1), some (.int (x2 + (1 : Int32)))] G dX7_inSeat_21 rfl rfl (Nat.le_of_ble_eq_true rfl) rfl rfl ?_
        refine v_goto 2 G dX7_inSeat_24 (by decide) ?_
        exact v_mask [true, true, true] rfl (ih _ h)
      · rw [if_pos q6] at h
        exact v_mask [false, false, true] rfl (hx1 _ h)
def m_X7_inSeat (M : mM) (x0 : Nat) (x1 : Int32) : Option Int32 :=
  m_X7_inSeat_L2
    (
      some (-1000000 : Int32)
    )
    (fun v7 =>
      some v7)
    M x0 x1 FU (0 : Int32)
theorem e_X7_inSeat {Z : zZ} {M : mM} {x0 : Nat} {x1 : Int32} {r : Int32} (h : m_X7_inSeat M x0 x1 = some r) : EM Z yX7_inSeat cX7_inSeat 3 (some .int) 1 0 0 [.ref x0, .int x1] M M (some (.int r)) := by
  refine EM_of my_X7_inSeat (Nat.le_of_ble_eq_true rfl) (fun X G F => ?_)
  show V X Z M 0 0 0 [some (.ref x0), some (.int x1), none] []
  unfold m_X7_inSeat at h
  refine v_iconst G (0 : Int32) dX7_inSeat_0 (by decide) ?_
  refine v_istore_n [some (.ref x0), some (.int x1), some (.int (0 : Int32))] G dX7_inSeat_1 (Nat.le_of_ble_eq_true rfl) rfl rfl ?_
  refine v_mask [true, true, true] rfl ?_
  refine e_X7_inSeat_L2 G (Nat.zero_le _) (Nat.zero_le _) _ _ _ (fun h => ?_) (fun v7 h => ?_) FU _ h
  · refine v_ldc G (-1000000 : Int32) dX7_inSeat_27 w971 ?_
    cases h
    exact v_iret G F dX7_inSeat_29 rfl (Nat.le_refl _)
  · refine v_iload_n G dX7_inSeat_19 rfl ?_
    cases h
    exact v_iret G F dX7_inSeat_20 rfl (Nat.le_refl _)
/-! X7_hears -/
def m_X7_hears (M : mM) (x0 : Nat) (x1 : Int32) : Option Int32 :=
  (m_X7_of M x0 x1 (1 : Int32)).bind fun v2 =>
  (ldI M x0 (4 : Int32)).bind fun v4 =>
  if v2 ≤ v4 then (
    some (1 : Int32)
  ) else (
    (m_X7_of M x0 x1 (0 : Int32)).bind fun v7 =>
    if v7 < (4 : Int32) then (
      (m_X7_inSeat M x0 (v2 - (1 : Int32))).bind fun v10 =>
      (m_X7_of M x0 v10 (2 : Int32)).bind fun v12 =>
      (ldI M x0 (3 : Int32)).bind fun v14 =>
      (m_X7_subjectOf M x0 v14).bind fun v16 =>
      (m_X7_has M v12 v16).bind fun v18 =>
      if (v18 == 0 || v18 == 1) = true then some v18 else none
    ) else (
      some (1 : Int32)
    )
  )
theorem e_X7_hears {Z : zZ} {M : mM} {x0 : Nat} {x1 : Int32} {r : Int32} (h : m_X7_hears M x0 x1 = some r) : EM Z yX7_hears cX7_hears 3 (some .boolean) 2 0 0 [.ref x0, .int x1] M M (some (.int r)) := by
  refine EM_of my_X7_hears (Nat.le_of_ble_eq_true rfl) (fun X G F => ?_)
  show V X Z M 0 0 0 [some (.ref x0), some (.int x1), none] []
  unfold m_X7_hears at h
  refine v_aload_n G dX7_hears_0 rfl ?_
  refine v_iload_n G dX7_hears_1 rfl ?_
  refine v_iconst G (1 : Int32) dX7_hears_2 (by decide) ?_
  obtain ⟨v2, q1, h⟩ := bi_ h
  refine v_callS0 (e_X7_of q1) G my_X7_of w1045 w1044 dX7_hears_3 rfl (Nat.le_of_ble_eq_true rfl) rfl (Nat.le_of_ble_eq_true rfl) (Nat.zero_le _) (Nat.zero_le _) ?_
  refine v_istore_n [some (.ref x0), some (.int x1), some (.int v2)] G dX7_hears_6 (Nat.le_of_ble_eq_true rfl) rfl rfl ?_
  refine v_iload_n G dX7_hears_7 rfl ?_
  refine v_aload_n G dX7_hears_8 rfl ?_
  refine v_iconst G (4 : Int32) dX7_hears_9 (by decide) ?_
  obtain ⟨v4, q3, h⟩ := bi_ h
  refine v_iald G dX7_hears_10 q3 ?_
  refine v_ic_le 24 G dX7_hears_11 (by decide) (fun q5 => ?_) (fun q5 => ?_)
  · rw [if_pos q5] at h
    refine v_iconst G (1 : Int32) dX7_hears_24 (by decide) ?_
    cases h
    exact v_zret G F rfl dX7_hears_25 rfl (Nat.le_refl _)
  · rw [if_neg q5] at h
    refine v_aload_n G dX7_hears_14 rfl ?_
    refine v_iload_n G dX7_hears_15 rfl ?_
    refine v_iconst G (0 : Int32) dX7_hears_16 (by decide) ?_
    obtain ⟨v7, q6, h⟩ := bi_ h
    refine v_callS0 (e_X7_of q6) G my_X7_of w1045 w1044 dX7_hears_17 rfl (Nat.le_of_ble_eq_true rfl) rfl (Nat.le_of_ble_eq_true rfl) (Nat.zero_le _) (Nat.zero_le _) ?_
    refine v_iconst G (4 : Int32) dX7_hears_20 (by decide) ?_
    refine v_ic_lt 26 G dX7_hears_21 (by decide) (fun q8 => ?_) (fun q8 => ?_)
    · rw [if_pos q8] at h
      refine v_aload_n G dX7_hears_26 rfl ?_
      refine v_aload_n G dX7_hears_27 rfl ?_
      refine v_iload_n G dX7_hears_28 rfl ?_
      refine v_iconst G (1 : Int32) dX7_hears_29 (by decide) ?_
      refine v_isub G dX7_hears_30 ?_
      obtain ⟨v10, q9, h⟩ := bi_ h
      refine v_callS0 (e_X7_inSeat q9) G my_X7_inSeat w1048 w1047 dX7_hears_31 rfl (Nat.le_of_ble_eq_true rfl) rfl (Nat.le_of_ble_eq_true rfl) (Nat.zero_le _) (Nat.zero_le _) ?_
      refine v_iconst G (2 : Int32) dX7_hears_34 (by decide) ?_
      obtain ⟨v12, q11, h⟩ := bi_ h
      refine v_callS0 (e_X7_of q11) G my_X7_of w1045 w1044 dX7_hears_35 rfl (Nat.le_of_ble_eq_true rfl) rfl (Nat.le_of_ble_eq_true rfl) (Nat.zero_le _) (Nat.zero_le _) ?_
      refine v_aload_n G dX7_hears_38 rfl ?_
      refine v_aload_n G dX7_hears_39 rfl ?_
      refine v_iconst G (3 : Int32) dX7_hears_40 (by decide) ?_
      obtain ⟨v14, q13, h⟩ := bi_ h
      refine v_iald G dX7_hears_41 q13 ?_
      obtain ⟨v16, q15, h⟩ := bi_ h
      refine v_callS0 (e_X7_subjectOf q15) G my_X7_subjectOf w1039 w1038 dX7_hears_42 rfl (Nat.le_of_ble_eq_true rfl) rfl (Nat.le_of_ble_eq_true rfl) (Nat.zero_le _) (Nat.zero_le _) ?_
      obtain ⟨v18, q17, h⟩ := bi_ h
      refine v_callS0 (e_X7_has q17) G my_X7_has w1051 w1050 dX7_hears_45 rfl (Nat.le_of_ble_eq_true rfl) rfl (Nat.le_of_ble_eq_true rfl) (Nat.zero_le _) (Nat.zero_le _) ?_
      obtain ⟨q19, h⟩ := if_s h
      cases h
      exact v_zret G F q19 dX7_hears_48 rfl (Nat.le_refl _)
    · rw [if_neg q8] at h
      refine v_iconst G (1 : Int32) dX7_hears_24 (by decide) ?_
      cases h
      exact v_zret G F rfl dX7_hears_25 rfl (Nat.le_refl _)
