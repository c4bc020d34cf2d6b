/-! X7_set -/
def m_X7_set (M : mM) (x0 : Nat) (x1 : Int32) (x2 : Int32) (x3 : Int32) : Option (mM × Int32) :=
  (pI M x0 7 0 (0 : Int32)).bind fun M1 =>
  (m_X7_isRow M1 x1).bind fun v4 =>
  if v4 = (0 : Int32) then (
    some (M1, (-1000001 : Int32))
  ) else (
    (pI M1 x0 7 1 (0 : Int32)).bind fun M6 =>
    (gR M6 x0 7 2).bind fun b8 =>
    (ldI M6 b8 x1).bind fun v11 =>
    if (0 : Int32) ≤ v11 then (
      (gR M6 x0 7 3).bind fun b13 =>
      (ldI M6 b13 x1).bind fun v16 =>
      (m_X7_in M6 (Int32.toInt64 x2) (0 : Int64) (Int32.toInt64 (v16 - (1 : Int32)))).bind fun v18 =>
      if v18 = (0 : Int32) then (
        if isO M6 x0 7 = true then
        bd2 (m_X7_finding M6 x0 (2 : Int32)) fun M51 v52 =>
        some (M51, v52)
        else none
      ) else (
        (gR M6 x0 7 4).bind fun b20 =>
        (gR M6 x0 7 2).bind fun b22 =>
        (ldI M6 b22 x1).bind fun v25 =>
        if v25 = (0 : Int32) then (
          (stI M6 b20 (((40 : Int32) * x1) + x2) (i8_ x3)).bind fun M44 =>
          (gR M44 x0 7 4).bind fun b46 =>
          (ldI M44 b46 (((40 : Int32) * x1) + x2)).bind fun v49 =>
          some (M44, v49)
        ) else (
          (gR M6 x0 7 2).bind fun b27 =>
          (ldI M6 b27 x1).bind fun v30 =>
          if v30 = (1 : Int32) then (
            (stI M6 b20 (((40 : Int32) * x1) + x2) (i16_ x3)).bind fun M38 =>
            (gR M38 x0 7 4).bind fun b40 =>
            (ldI M38 b40 (((40 : Int32) * x1) + x2)).bind fun v43 =>
            some (M38, v43)
          ) else (
            (stI M6 b20 (((40 : Int32) * x1) + x2) x3).bind fun M32 =>
            (gR M32 x0 7 4).bind fun b34 =>
            (ldI M32 b34 (((40 : Int32) * x1) + x2)).bind fun v37 =>
            some (M32, v37)
          )
        )
      )
    ) else (
      if isO M6 x0 7 = true then
      bd2 (m_X7_finding M6 x0 (1 : Int32)) fun M55 v56 =>
      some (M55, v56)
      else none
    )
  )
theorem e_X7_set {Z : zZ} {M : mM} {N : mM} {x0 : Nat} {x1 : Int32} {x2 : Int32} {x3 : Int32} {r : Int32} (h : m_X7_set M x0 x1 x2 x3 = some (N, r)) : EM Z yX7_set cX7_set 4 (some .int) 2 0 0 [.ref x0, .int x1, .int x2, .int x3] M N (some (.int r)) := by
  refine EM_of my_X7_set (Nat.le_of_ble_eq_true rfl) (fun X G F => ?_)
  show V X Z M 0 0 0 [some (.ref x0), some (.int x1), some (.int x2), some (.int x3)] []
  unfold m_X7_set at h
  refine v_aload_n G dX7_set_0 rfl ?_
  refine v_iconst G (0 : Int32) dX7_set_1 (by decide) ?_
  obtain ⟨M1, q2, h⟩ := bi_ h
  refine v_putI (f := 0) G cl7 dX7_set_2 w839 (by decide) (by decide) (by decide) rfl rfl q2 ?_
  refine v_iload_n G dX7_set_5 rfl ?_
  obtain ⟨v4, q3, h⟩ := bi_ h
  refine v_callS0 (e_X7_isRow q3) G my_X7_isRow w924 w923 dX7_set_6 rfl (Nat.le_of_ble_eq_true rfl) rfl (Nat.le_of_ble_eq_true rfl) (Nat.zero_le _) (Nat.zero_le _) ?_
  refine v_if_ne 15 G dX7_set_9 (by decide) (fun q5 => ?_) (fun q5 => ?_)
  · rw [if_neg q5] at h
    refine v_aload_n G dX7_set_15 rfl ?_
    refine v_iconst G (0 : Int32) dX7_set_16 (by decide) ?_
    obtain ⟨M6, q7, h⟩ := bi_ h
    refine v_putI (f := 1) G cl7 dX7_set_17 w840 (by decide) (by decide) (by decide) rfl rfl q7 ?_
    refine v_aload_n G dX7_set_20 rfl ?_
    obtain ⟨b8, q9, h⟩ := bi_ h
    refine v_getR (f := 2) G cl7 dX7_set_21 w841 (by decide) (by decide) q9 ?_
    refine v_iload_n G dX7_set_24 rfl ?_
    obtain ⟨v11, q10, h⟩ := bi_ h
    refine v_iald G dX7_set_25 q10 ?_
    refine v_if_ge 35 G dX7_set_26 (by decide) (fun q12 => ?_) (fun q12 => ?_)
    · rw [if_pos q12] at h
      refine v_iload_n G dX7_set_35 rfl ?_
      refine v_i2l G dX7_set_36 ?_
      refine v_lconst G (0 : Int64) dX7_set_37 (by decide) ?_
      refine v_aload_n G dX7_set_38 rfl ?_
      obtain ⟨b13, q14, h⟩ := bi_ h
      refine v_getR (f := 3) G cl7 dX7_set_39 w842 (by decide) (by decide) q14 ?_
      refine v_iload_n G dX7_set_42 rfl ?_
      obtain ⟨v16, q15, h⟩ := bi_ h
      refine v_iald G dX7_set_43 q15 ?_
      refine v_iconst G (1 : Int32) dX7_set_44 (by decide) ?_
      refine v_isub G dX7_set_45 ?_
      refine v_i2l G dX7_set_46 ?_
      obtain ⟨v18, q17, h⟩ := bi_ h
      refine v_callS0 (e_X7_in q17) G my_X7_in w928 w927 dX7_set_47 rfl (Nat.le_of_ble_eq_true rfl) rfl (Nat.le_of_ble_eq_true rfl) (Nat.zero_le _) (Nat.zero_le _) ?_
      refine v_if_ne 59 G dX7_set_50 (by decide) (fun q19 => ?_) (fun q19 => ?_)
      · rw [if_neg q19] at h
        refine v_aload_n G dX7_set_59 rfl ?_
        obtain ⟨b20, q21, h⟩ := bi_ h
        refine v_getR (f := 4) G cl7 dX7_set_60 w843 (by decide) (by decide) q21 ?_
        refine v_bipush G (40 : Int32) dX7_set_63 (by decide) ?_
        refine v_iload_n G dX7_set_65 rfl ?_
        refine v_imul G dX7_set_66 ?_
        refine v_iload_n G dX7_set_67 rfl ?_
        refine v_iadd G dX7_set_68 ?_
        refine v_aload_n G dX7_set_69 rfl ?_
        obtain ⟨b22, q23, h⟩ := bi_ h
        refine v_getR (f := 2) G cl7 dX7_set_70 w841 (by decide) (by decide) q23 ?_
        refine v_iload_n G dX7_set_73 rfl ?_
        obtain ⟨v25, q24, h⟩ := bi_ h
        refine v_iald G dX7_set_74 q24 ?_
        refine v_if_ne 83 G dX7_set_75 (by decide) (fun q26 => ?_) (fun q26 => ?_)
        · rw [if_neg q26] at h
          refine v_aload_n G dX7_set_83 rfl ?_
          obtain ⟨b27, q28, h⟩ := bi_ h
          refine v_getR (f := 2) G cl7 dX7_set_84 w841 (by decide) (by decide) q28 ?_
          refine v_iload_n G dX7_set_87 rfl ?_
          obtain ⟨v30, q29, h⟩ := bi_ h
          refine v_iald G dX7_set_88 q29 ?_
          refine v_iconst G (1 : Int32) dX7_set_89 (by decide) ?_
          refine v_ic_ne 98 G dX7_set_90 (by decide) (fun q31 => ?_) (fun q31 => ?_)
          · rw [if_neg q31] at h
            refine v_iload_n G dX7_set_98 rfl ?_
            obtain ⟨M32, q33, h⟩ := bi_ h
            refine v_iast G dX7_set_99 q33 ?_
            refine v_aload_n G dX7_set_100 rfl ?_
            obtain ⟨b34, q35, h⟩ := bi_ h
            refine v_getR (f := 4) G cl7 dX7_set_101 w843 (by decide) (by decide) q35 ?_
            refine v_bipush G (40 : Int32) dX7_set_104 (by decide) ?_
            refine v_iload_n G dX7_set_106 rfl ?_
            refine v_imul G dX7_set_107 ?_
            refine v_iload_n G dX7_set_108 rfl ?_
            refine v_iadd G dX7_set_109 ?_
            obtain ⟨v37, q36, h⟩ := bi_ h
            refine v_iald G dX7_set_110 q36 ?_
            cases h
            exact v_iret G F dX7_set_111 rfl (Nat.le_refl _)
          · rw [if_pos q31] at h
            refine v_iload_n G dX7_set_93 rfl ?_
            refine v_i2s G dX7_set_94 ?_
            refine v_goto 99 G dX7_set_95 (by decide) ?_
            obtain ⟨M38, q39, h⟩ := bi_ h
            refine v_iast G dX7_set_99 q39 ?_
            refine v_aload_n G dX7_set_100 rfl ?_
            obtain ⟨b40, q41, h⟩ := bi_ h
            refine v_getR (f := 4) G cl7 dX7_set_101 w843 (by decide) (by decide) q41 ?_
            refine v_bipush G (40 : Int32) dX7_set_104 (by decide) ?_
            refine v_iload_n G dX7_set_106 rfl ?_
            refine v_imul G dX7_set_107 ?_
            refine v_iload_n G dX7_set_108 rfl ?_
            refine v_iadd G dX7_set_109 ?_
            obtain ⟨v43, q42, h⟩ := bi_ h
            refine v_iald G dX7_set_110 q42 ?_
            cases h
            exact v_iret G F dX7_set_111 rfl (Nat.le_refl _)
        · rw [if_pos q26] at h
          refine v_iload_n G dX7_set_78 rfl ?_
          refine v_i2b G dX7_set_79 ?_
          refine v_goto 99 G dX7_set_80 (by decide) ?_
          obtain ⟨M44, q45, h⟩ := bi_ h
          refine v_iast G dX7_set_99 q45 ?_
          refine v_aload_n G dX7_set_100 rfl ?_
          obtain ⟨b46, q47, h⟩ := bi_ h
          refine v_getR (f := 4) G cl7 dX7_set_101 w843 (by decide) (by decide) q47 ?_
          refine v_bipush G (40 : Int32) dX7_set_104 (by decide) ?_
          refine v_iload_n G dX7_set_106 rfl ?_
          refine v_imul G dX7_set_107 ?_
          refine v_iload_n G dX7_set_108 rfl ?_
          refine v_iadd G dX7_set_109 ?_
          obtain ⟨v49, q48, h⟩ := bi_ h
          refine v_iald G dX7_set_110 q48 ?_
          cases h
          exact v_iret G F dX7_set_111 rfl (Nat.le_refl _)
      · rw [if_pos q19] at h
        refine v_aload_n G dX7_set_53 rfl ?_
        refine v_iconst G (2 : Int32) dX7_set_54 (by decide) ?_
        obtain ⟨q53, h⟩ := if_s h
        obtain ⟨M51, v52, q50, h⟩ := bi2_ h
        refine v_callV0 (e_X7_finding q50) G cl7 my_X7_finding rfl w934 w25 w932 dX7_set_55 q53 rfl (Nat.le_of_ble_eq_true rfl) rfl (Nat.le_of_ble_eq_true rfl) (Nat.zero_le _) (Nat.zero_le _) ?_
        cases h
        exact v_iret G F dX7_set_58 rfl (Nat.le_refl _)
    · rw [if_neg q12] at h
      refine v_aload_n G dX7_set_29 rfl ?_
      refine v_iconst G (1 : Int32) dX7_set_30 (by decide) ?_
      obtain ⟨q57, h⟩ := if_s h
      obtain ⟨M55, v56, q54, h⟩ := bi2_ h
      refine v_callV0 (e_X7_finding q54) G cl7 my_X7_finding rfl w934 w25 w932 dX7_set_31 q57 rfl (Nat.le_of_ble_eq_true rfl) rfl (Nat.le_of_ble_eq_true rfl) (Nat.zero_le _) (Nat.zero_le _) ?_
      cases h
      exact v_iret G F dX7_set_34 rfl (Nat.le_refl _)
  · rw [if_pos q5] at h
    refine v_ldc G (-1000001 : Int32) dX7_set_12 w931 ?_
    cases h
    exact v_iret G F dX7_set_14 rfl (Nat.le_refl _)
/-! X7_copy -/
def m_X7_copy_L143 {ρ : Type} (k0 : mM → Option ρ) (x0 : Nat) (x1 : Int32) (x2 : Int32) (x3 : Int32) (x4 : Int32) (x5 : Int32) (x6 : Int32) : Nat → mM → Int32 → Option ρ
  | 0, _, _ => none
  | n + 1, M, x7 =>
    if x5 ≤ x7 then (
      k0 M
    ) else (
      if x6 = (0 : Int32) then (
        (gR M x0 7 4).bind fun b66 =>
        (gR M x0 7 4).bind fun b68 =>
        (ldI M b68 ((((40 : Int32) * x1) + x2) + ((x5 - (1 : Int32)) - x7))).bind fun v71 =>
        (stI M b66 ((((40 : Int32) * x3) + x4) + ((x5 - (1 : Int32)) - x7)) v71).bind fun M72 =>
        m_X7_copy_L143 k0 x0 x1 x2 x3 x4 x5 x6 n M72 (x7 + (1 : Int32))
      ) else (
        (gR M x0 7 4).bind fun b74 =>
        (gR M x0 7 4).bind fun b76 =>
        (ldI M b76 ((((40 : Int32) * x1) + x2) + x7)).bind fun v79 =>
        (stI M b74 ((((40 : Int32) * x3) + x4) + x7) v79).bind fun M80 =>
        m_X7_copy_L143 k0 x0 x1 x2 x3 x4 x5 x6 n M80 (x7 + (1 : Int32))
      )
    )
theorem e_X7_copy_L143 {X : xX} {Z : zZ} {cn sn : Nat} {ρ : Type} {r : ρ} {k0 : mM → Option ρ} (G : ok_ X Z yX7_copy cX7_copy 9 2 0 0) (hcn : cn ≤ 0) (hsn : sn ≤ 0) (x0 : Nat) (x1 : Int32) (x2 : Int32) (x3 : Int32) (x4 : Int32) (x5 : Int32) (x6 : Int32)
    (hx0 : ∀ (N : mM), k0 N = some r → V X Z N cn sn 204 [none, none, none, none, none, some (.int x5), none, none, none] []) :
    ∀ (n : Nat) (M : mM) (x7 : Int32), m_X7_copy_L143 k0 x0 x1 x2 x3 x4 x5 x6 n M x7 = some r → V X Z M cn sn 143 [some (.ref x0), some (.int x1), some (.int x2), some (.int x3), some (.int x4), some (.int x5), some (.int x6), some (.int x7), none] [] := by
  intro n
  induction n with
  | zero => intro M x7 h; rw [m_X7_copy_L143] at h; cases h
  | succ n ih =>
    intro M x7 h
    rw [m_X7_copy_L143] at h
    refine v_iload G dX7_copy_143 rfl ?_
    refine v_iload G dX7_copy_145 rfl ?_
    refine v_ic_ge 204 G dX7_copy_147 (by decide) (fun q64 => ?_) (fun q64 => ?_)
    · rw [if_pos q64] at h
      exact v_mask [false, false, false, false, false, true, false, false, false] rfl (hx0 _ h)
    · rw [if_neg q64] at h
      refine v_iload G dX7_copy_150 rfl ?_
      refine v_if_eq 160 G dX7_copy_152 (by decide) (fun q65 => ?_) (fun q65 => ?_)
      · rw [if_pos q65] at h
        refine v_iload G dX7_copy_160 rfl ?_
        refine v_iconst G (1 : Int32) dX7_copy_162 (by decide) ?_
        refine v_isub G dX7_copy_163 ?_
        refine v_iload G dX7_copy_164 rfl ?_
        refine v_isub G dX7_copy_166 ?_
        refine v_istore [some (.ref x0), some (.int x1), some (.int x2), some (.int x3), some (.int x4), some (.int x5), some (.int x6), some (.int x7), some (.int ((x5 - (1 : Int32)) - x7))] G dX7_copy_167 (Nat.le_of_ble_eq_true rfl) rfl rfl ?_
        refine v_aload_n G dX7_copy_169 rfl ?_
        obtain ⟨b66, q67, h⟩ := bi_ h
        refine v_getR (f := 4) G cl7 dX7_copy_170 w843 (by decide) (by decide) q67 ?_
        refine v_bipush G (40 : Int32) dX7_copy_173 (by decide) ?_
        refine v_iload_n G dX7_copy_175 rfl ?_
        refine v_imul G dX7_copy_176 ?_
        refine v_iload G dX7_copy_177 rfl ?_
        refine v_iadd G dX7_copy_179 ?_
        refine v_iload G dX7_copy_180 rfl ?_
        refine v_iadd G dX7_copy_182 ?_
        refine v_aload_n G dX7_copy_183 rfl ?_
        obtain ⟨b68, q69, h⟩ := bi_ h
        refine v_getR (f := 4) G cl7 dX7_copy_184 w843 (by decide) (by decide) q69 ?_
        refine v_bipush G (40 : Int32) dX7_copy_187 (by decide) ?_
        refine v_iload_n G dX7_copy_189 rfl ?_
        refine v_imul G dX7_copy_190 ?_
        refine v_iload_n G dX7_copy_191 rfl ?_
        refine v_iadd G dX7_copy_192 ?_
        refine v_iload G dX7_copy_193 rfl ?_
        refine v_iadd G dX7_copy_195 ?_
        obtain ⟨v71, q70, h⟩ := bi_ h
        refine v_iald G dX7_copy_196 q70 ?_
        obtain ⟨M72, q73, h⟩ := bi_ h
        refine v_iast G dX7_copy_197 q73 ?_
        refine v_iinc (x7 + (1 : Int32)) [some (.ref x0), some (.int x1), some (.int x2), some (.int x3), some (.int x4), some (.int x5), some (.int x6), some (.int (x7 + (1 : Int32))), some (.int ((x5 - (1 : Int32)) - x7))] G dX7_copy_198 rfl rfl (Nat.le_of_ble_eq_true rfl) rfl rfl ?_
        refine v_goto 143 G dX7_copy_201 (by decide) ?_
        exact v_mask [true, true, true, true, true, true, true, true, false] rfl (ih _ _ h)
      · rw [if_neg q65] at h
        refine v_iload G dX7_copy_155 rfl ?_
        refine v_goto 167 G dX7_copy_157 (by decide) ?_
        refine v_istore [some (.ref x0), some (.int x1), some (.int x2), some (.int x3), some (.int x4), some (.int x5), some (.int x6), some (.int x7), some (.int x7)] G dX7_copy_167 (Nat.le_of_ble_eq_true rfl) rfl rfl ?_
        refine v_aload_n G dX7_copy_169 rfl ?_
        obtain ⟨b74, q75, h⟩ := bi_ h
        refine v_getR (f := 4) G cl7 dX7_copy_170 w843 (by decide) (by decide) q75 ?_
        refine v_bipush G (40 : Int32) dX7_copy_173 (by decide) ?_
        refine v_iload_n G dX7_copy_175 rfl ?_
        refine v_imul G dX7_copy_176 ?_
        refine v_iload G dX7_copy_177 rfl ?_
        refine v_iadd G dX7_copy_179 ?_
        refine v_iload G dX7_copy_180 rfl ?_
        refine v_iadd G dX7_copy_182 ?_
        refine v_aload_n G dX7_copy_183 rfl ?_
        obtain ⟨b76, q77, h⟩ := bi_ h
        refine v_getR (f := 4) G cl7 dX7_copy_184 w843 (by decide) (by decide) q77 ?_
        refine v_bipush G (40 : Int32) dX7_copy_187 (by decide) ?_
        refine v_iload_n G dX7_copy_189 rfl ?_
        refine v_imul G dX7_copy_190 ?_
        refine v_iload_n G dX7_copy_191 rfl ?_
        refine v_iadd G dX7_copy_192 ?_
        refine v_iload G dX7_copy_193 rfl ?_
        refine v_iadd G dX7_copy_195 ?_
        obtain ⟨v79, q78, h⟩ := bi_ h
        refine v_iald G dX7_copy_196 q78 ?_
        obtain ⟨M80, q81, h⟩ := bi_ h
        refine v_iast G dX7_copy_197 q81 ?_
        refine v_iinc (x7 + (1 : Int32)) [some (.ref x0), some (.int x1), some (.int x2), some (.int x3), some (.int x4), some (.int x5), some (.int x6), some (.int (x7 + (1 : Int32))), some (.int x7)] G dX7_copy_198 rfl rfl (Nat.le_of_ble_eq_true rfl) rfl rfl ?_
        refine v_goto 143 G dX7_copy_201 (by decide) ?_
        exact v_mask [true, true, true, true, true, true, true, true, false] rfl (ih _ _ h)
def m_X7_copy (M : mM) (x0 : Nat) (x1 : Int32) (x2 : Int32) (x3 : Int32) (x4 : Int32) (x5 : Int32) : Option (mM × Int32) :=
  (pI M x0 7 0 (0 : Int32)).bind fun M1 =>
  (m_X7_isRow M1 x1).bind fun v4 =>
  if v4 = (0 : Int32) then (
    some (M1, (-1000001 : Int32))
  ) else (
    (m_X7_isRow M1 x3).bind fun v7 =>
    if v7 = (0 : Int32) then (
      some (M1, (-1000001 : Int32))
    ) else (
      (pI M1 x0 7 1 (0 : Int32)).bind fun M9 =>
      (gR M9 x0 7 2).bind fun b11 =>
      (ldI M9 b11 x1).bind fun v14 =>
      if v14 < (0 : Int32) then (
        if isO M9 x0 7 = true then
        bd2 (m_X7_finding M9 x0 (1 : Int32)) fun M17 v18 =>
        some (M17, v18)
        else none
      ) else (
        (gR M9 x0 7 2).bind fun b20 =>
        (ldI M9 b20 x3).bind fun v23 =>
        if (0 : Int32) ≤ v23 then (
          (gR M9 x0 7 2).bind fun b25 =>
          (ldI M9 b25 x1).bind fun v28 =>
          (gR M9 x0 7 2).bind fun b29 =>
          (ldI M9 b29 x3).bind fun v32 =>
          if v28 = v32 then (
            if x2 < (0 : Int32) then (
              if isO M9 x0 7 = true then
              bd2 (m_X7_finding M9 x0 (2 : Int32)) fun M36 v37 =>
              some (M36, v37)
              else none
            ) else (
              if x4 < (0 : Int32) then (
                if isO M9 x0 7 = true then
                bd2 (m_X7_finding M9 x0 (2 : Int32)) fun M41 v42 =>
                some (M41, v42)
                else none
              ) else (
                if x5 < (0 : Int32) then (
                  if isO M9 x0 7 = true then
                  bd2 (m_X7_finding M9 x0 (2 : Int32)) fun M46 v47 =>
                  some (M46, v47)
                  else none
                ) else (
                  (gR M9 x0 7 3).bind fun b49 =>
                  (ldI M9 b49 x1).bind fun v52 =>
                  if (0 : Int32) < (lg_cmp ((Int32.toInt64 x2) + (Int32.toInt64 x5)) (Int32.toInt64 v52)) then (
                    if isO M9 x0 7 = true then
                    bd2 (m_X7_finding M9 x0 (2 : Int32)) fun M55 v56 =>
                    some (M55, v56)
                    else none
                  ) else (
                    (gR M9 x0 7 3).bind fun b58 =>
                    (ldI M9 b58 x3).bind fun v61 =>
                    if (lg_cmp ((Int32.toInt64 x4) + (Int32.toInt64 x5)) (Int32.toInt64 v61)) ≤ (0 : Int32) then (
                      if x2 < x4 then (
                        m_X7_copy_L143
                          (fun M82 =>
                            some (M82, x5))
                          x0 x1 x2 x3 x4 x5 (0 : Int32) FU M9 (0 : Int32)
                      ) else (
                        m_X7_copy_L143
                          (fun M83 =>
                            some (M83, x5))
                          x0 x1 x2 x3 x4 x5 (1 : Int32) FU M9 (0 : Int32)
                      )
                    ) else (
                      if isO M9 x0 7 = true then
                      bd2 (m_X7_finding M9 x0 (2 : Int32)) fun M85 v86 =>
                      some (M85, v86)
                      else none
                    )
                  )
                )
              )
            )
          ) else (
            if isO M9 x0 7 = true then
            bd2 (m_X7_finding M9 x0 (5 : Int32)) fun M89 v90 =>
            some (M89, v90)
            else none
          )
        ) else (
          if isO M9 x0 7 = true then
          bd2 (m_X7_finding M9 x0 (1 : Int32)) fun M93 v94 =>
          some (M93, v94)
          else none
        )
      )
    )
  )
theorem e_X7_copy {Z : zZ} {M : mM} {N : mM} {x0 : Nat} {x1 : Int32} {x2 : Int32} {x3 : Int32} {x4 : Int32} {x5 : Int32} {r : Int32} (h : m_X7_copy M x0 x1 x2 x3 x4 x5 = some (N, r)) : EM Z yX7_copy cX7_copy 9 (some .int) 2 0 0 [.ref x0, .int x1, .int x2, .int x3, .int x4, .int x5] M N (some (.int r)) := by
  refine EM_of my_X7_copy (Nat.le_of_ble_eq_true rfl) (fun X G F => ?_)
  show V X Z M 0 0 0 [some (.ref x0), some (.int x1), some (.int x2), some (.int x3), some (.int x4), some (.int x5), none, none, none] []
  unfold m_X7_copy at h
  refine v_aload_n G dX7_copy_0 rfl ?_
  refine v_iconst G (0 : Int32) dX7_copy_1 (by decide) ?_
  obtain ⟨M1, q2, h⟩ := bi_ h
  refine v_putI (f := 0) G cl7 dX7_copy_2 w839 (by decide) (by decide) (by decide) rfl rfl q2 ?_
  refine v_iload_n G dX7_copy_5 rfl ?_
  obtain ⟨v4, q3, h⟩ := bi_ h
  refine v_callS0 (e_X7_isRow q3) G my_X7_isRow w924 w923 dX7_copy_6 rfl (Nat.le_of_ble_eq_true rfl) rfl (Nat.le_of_ble_eq_true rfl) (Nat.zero_le _) (Nat.zero_le _) ?_
  refine v_if_eq 19 G dX7_copy_9 (by decide) (fun q5 => ?_) (fun q5 => ?_)
  · rw [if_pos q5] at h
    refine v_ldc G (-1000001 : Int32) dX7_copy_19 w931 ?_
    cases h
    exact v_iret G F dX7_copy_21 rfl (Nat.le_refl _)
  · rw [if_neg q5] at h
    refine v_iload_n G dX7_copy_12 rfl ?_
    obtain ⟨v7, q6, h⟩ := bi_ h
    refine v_callS0 (e_X7_isRow q6) G my_X7_isRow w924 w923 dX7_copy_13 rfl (Nat.le_of_ble_eq_true rfl) rfl (Nat.le_of_ble_eq_true rfl) (Nat.zero_le _) (Nat.zero_le _) ?_
    refine v_if_ne 22 G dX7_copy_16 (by decide) (fun q8 => ?_) (fun q8 => ?_)
    · rw [if_neg q8] at h
      refine v_aload_n G dX7_copy_22 rfl ?_
      refine v_iconst G (0 : Int32) dX7_copy_23 (by decide) ?_
      obtain ⟨M9, q10, h⟩ := bi_ h
      refine v_putI (f := 1) G cl7 dX7_copy_24 w840 (by decide) (by decide) (by decide) rfl rfl q10 ?_
      refine v_aload_n G dX7_copy_27 rfl ?_
      obtain ⟨b11, q12, h⟩ := bi_ h
      refine v_getR (f := 2) G cl7 dX7_copy_28 w841 (by decide) (by decide) q12 ?_
      refine v_iload_n G dX7_copy_31 rfl ?_
      obtain ⟨v14, q13, h⟩ := bi_ h
      refine v_iald G dX7_copy_32 q13 ?_
      refine v_if_lt 45 G dX7_copy_33 (by decide) (fun q15 => ?_) (fun q15 => ?_)
      · rw [if_pos q15] at h
        refine v_aload_n G dX7_copy_45 rfl ?_
        refine v_iconst G (1 : Int32) dX7_copy_46 (by decide) ?_
        obtain ⟨q19, h⟩ := if_s h
        obtain ⟨M17, v18, q16, h⟩ := bi2_ h
        refine v_callV0 (e_X7_finding q16) G cl7 my_X7_finding rfl w934 w25 w932 dX7_copy_47 q19 rfl (Nat.le_of_ble_eq_true rfl) rfl (Nat.le_of_ble_eq_true rfl) (Nat.zero_le _) (Nat.zero_le _) ?_
        cases h
        exact v_iret G F dX7_copy_50 rfl (Nat.le_refl _)
      · rw [if_neg q15] at h
        refine v_aload_n G dX7_copy_36 rfl ?_
        obtain ⟨b20, q21, h⟩ := bi_ h
        refine v_getR (f := 2) G cl7 dX7_copy_37 w841 (by decide) (by decide) q21 ?_
        refine v_iload_n G dX7_copy_40 rfl ?_
        obtain ⟨v23, q22, h⟩ := bi_ h
        refine v_iald G dX7_copy_41 q22 ?_
        refine v_if_ge 51 G dX7_copy_42 (by decide) (fun q24 => ?_) (fun q24 => ?_)
        · rw [if_pos q24] at h
          refine v_aload_n G dX7_copy_51 rfl ?_
          obtain ⟨b25, q26, h⟩ := bi_ h
          refine v_getR (f := 2) G cl7 dX7_copy_52 w841 (by decide) (by decide) q26 ?_
          refine v_iload_n G dX7_copy_55 rfl ?_
          obtain ⟨v28, q27, h⟩ := bi_ h
          refine v_iald G dX7_copy_56 q27 ?_
          refine v_aload_n G dX7_copy_57 rfl ?_
          obtain ⟨b29, q30, h⟩ := bi_ h
          refine v_getR (f := 2) G cl7 dX7_copy_58 w841 (by decide) (by decide) q30 ?_
          refine v_iload_n G dX7_copy_61 rfl ?_
          obtain ⟨v32, q31, h⟩ := bi_ h
          refine v_iald G dX7_copy_62 q31 ?_
          refine v_ic_eq 72 G dX7_copy_63 (by decide) (fun q33 => ?_) (fun q33 => ?_)
          · rw [if_pos q33] at h
            refine v_iload_n G dX7_copy_72 rfl ?_
            refine v_if_lt 121 G dX7_copy_73 (by decide) (fun q34 => ?_) (fun q34 => ?_)
            · rw [if_pos q34] at h
              refine v_aload_n G dX7_copy_121 rfl ?_
              refine v_iconst G (2 : Int32) dX7_copy_122 (by decide) ?_
              obtain ⟨q38, h⟩ := if_s h
              obtain ⟨M36, v37, q35, h⟩ := bi2_ h
              refine v_callV0 (e_X7_finding q35) G cl7 my_X7_finding rfl w934 w25 w932 dX7_copy_123 q38 rfl (Nat.le_of_ble_eq_true rfl) rfl (Nat.le_of_ble_eq_true rfl) (Nat.zero_le _) (Nat.zero_le _) ?_
              cases h
              exact v_iret G F dX7_copy_126 rfl (Nat.le_refl _)
            · rw [if_neg q34] at h
              refine v_iload G dX7_copy_76 rfl ?_
              refine v_if_lt 121 G dX7_copy_78 (by decide) (fun q39 => ?_) (fun q39 => ?_)
              · rw [if_pos q39] at h
                refine v_aload_n G dX7_copy_121 rfl ?_
                refine v_iconst G (2 : Int32) dX7_copy_122 (by decide) ?_
                obtain ⟨q43, h⟩ := if_s h
                obtain ⟨M41, v42, q40, h⟩ := bi2_ h
                refine v_callV0 (e_X7_finding q40) G cl7 my_X7_finding rfl w934 w25 w932 dX7_copy_123 q43 rfl (Nat.le_of_ble_eq_true rfl) rfl (Nat.le_of_ble_eq_true rfl) (Nat.zero_le _) (Nat.zero_le _) ?_
                cases h
                exact v_iret G F dX7_copy_126 rfl (Nat.le_refl _)
              · rw [if_neg q39] at h
                refine v_iload G dX7_copy_81 rfl ?_
                refine v_if_lt 121 G dX7_copy_83 (by decide) (fun q44 => ?_) (fun q44 => ?_)
                · rw [if_pos q44] at h
                  refine v_aload_n G dX7_copy_121 rfl ?_
                  refine v_iconst G (2 : Int32) dX7_copy_122 (by decide) ?_
                  obtain ⟨q48, h⟩ := if_s h
                  obtain ⟨M46, v47, q45, h⟩ := bi2_ h
                  refine v_callV0 (e_X7_finding q45) G cl7 my_X7_finding rfl w934 w25 w932 dX7_copy_123 q48 rfl (Nat.le_of_ble_eq_true rfl) rfl (Nat.le_of_ble_eq_true rfl) (Nat.zero_le _) (Nat.zero_le _) ?_
                  cases h
                  exact v_iret G F dX7_copy_126 rfl (Nat.le_refl _)
                · rw [if_neg q44] at h
                  refine v_iload_n G dX7_copy_86 rfl ?_
                  refine v_i2l G dX7_copy_87 ?_
                  refine v_iload G dX7_copy_88 rfl ?_
                  refine v_i2l G dX7_copy_90 ?_
                  refine v_ladd G dX7_copy_91 ?_
                  refine v_aload_n G dX7_copy_92 rfl ?_
                  obtain ⟨b49, q50, h⟩ := bi_ h
                  refine v_getR (f := 3) G cl7 dX7_copy_93 w842 (by decide) (by decide) q50 ?_
                  refine v_iload_n G dX7_copy_96 rfl ?_
                  obtain ⟨v52, q51, h⟩ := bi_ h
                  refine v_iald G dX7_copy_97 q51 ?_
                  refine v_i2l G dX7_copy_98 ?_
                  refine v_lcmp G dX7_copy_99 ?_
                  refine v_if_gt 121 G dX7_copy_100 (by decide) (fun q53 => ?_) (fun q53 => ?_)
                  · rw [if_pos q53] at h
                    refine v_aload_n G dX7_copy_121 rfl ?_
                    refine v_iconst G (2 : Int32) dX7_copy_122 (by decide) ?_
                    obtain ⟨q57, h⟩ := if_s h
                    obtain ⟨M55, v56, q54, h⟩ := bi2_ h
                    refine v_callV0 (e_X7_finding q54) G cl7 my_X7_finding rfl w934 w25 w932 dX7_copy_123 q57 rfl (Nat.le_of_ble_eq_true rfl) rfl (Nat.le_of_ble_eq_true rfl) (Nat.zero_le _) (Nat.zero_le _) ?_
                    cases h
                    exact v_iret G F dX7_copy_126 rfl (Nat.le_refl _)
                  · rw [if_neg q53] at h
                    refine v_iload G dX7_copy_103 rfl ?_
                    refine v_i2l G dX7_copy_105 ?_
                    refine v_iload G dX7_copy_106 rfl ?_
                    refine v_i2l G dX7_copy_108 ?_
                    refine v_ladd G dX7_copy_109 ?_
                    refine v_aload_n G dX7_copy_110 rfl ?_
                    obtain ⟨b58, q59, h⟩ := bi_ h
                    refine v_getR (f := 3) G cl7 dX7_copy_111 w842 (by decide) (by decide) q59 ?_
                    refine v_iload_n G dX7_copy_114 rfl ?_
                    obtain ⟨v61, q60, h⟩ := bi_ h
                    refine v_iald G dX7_copy_115 q60 ?_
                    refine v_i2l G dX7_copy_116 ?_
                    refine v_lcmp G dX7_copy_117 ?_
                    refine v_if_le 127 G dX7_copy_118 (by decide) (fun q62 => ?_) (fun q62 => ?_)
                    · rw [if_pos q62] at h
                      refine v_iload_n G dX7_copy_127 rfl ?_
                      refine v_iload G dX7_copy_128 rfl ?_
                      refine v_ic_lt 137 G dX7_copy_130 (by decide) (fun q63 => ?_) (fun q63 => ?_)
                      · rw [if_pos q63] at h
                        refine v_iconst G (0 : Int32) dX7_copy_137 (by decide) ?_
                        refine v_istore [some (.ref x0), some (.int x1), some (.int x2), some (.int x3), some (.int x4), some (.int x5), some (.int (0 : Int32)), none, none] G dX7_copy_138 (Nat.le_of_ble_eq_true rfl) rfl rfl ?_
                        refine v_iconst G (0 : Int32) dX7_copy_140 (by decide) ?_
                        refine v_istore [some (.ref x0), some (.int x1), some (.int x2), some (.int x3), some (.int x4), some (.int x5), some (.int (0 : Int32)), some (.int (0 : Int32)), none] G dX7_copy_141 (Nat.le_of_ble_eq_true rfl) rfl rfl ?_
                        refine v_mask [true, true, true, true, true, true, true, true, false] rfl ?_
                        refine e_X7_copy_L143 G (Nat.zero_le _) (Nat.zero_le _) _ _ _ _ _ _ _ (fun M82 h => ?_) FU _ _ h
                        refine v_iload G dX7_copy_204 rfl ?_
                        cases h
                        exact v_iret G F dX7_copy_206 rfl (Nat.le_refl _)
                      · rw [if_neg q63] at h
                        refine v_iconst G (1 : Int32) dX7_copy_133 (by decide) ?_
                        refine v_goto 138 G dX7_copy_134 (by decide) ?_
                        refine v_istore [some (.ref x0), some (.int x1), some (.int x2), some (.int x3), some (.int x4), some (.int x5), some (.int (1 : Int32)), none, none] G dX7_copy_138 (Nat.le_of_ble_eq_true rfl) rfl rfl ?_
                        refine v_iconst G (0 : Int32) dX7_copy_140 (by decide) ?_
                        refine v_istore [some (.ref x0), some (.int x1), some (.int x2), some (.int x3), some (.int x4), some (.int x5), some (.int (1 : Int32)), some (.int (0 : Int32)), none] G dX7_copy_141 (Nat.le_of_ble_eq_true rfl) rfl rfl ?_
                        refine v_mask [true, true, true, true, true, true, true, true, false] rfl ?_
                        refine e_X7_copy_L143 G (Nat.zero_le _) (Nat.zero_le _) _ _ _ _ _ _ _ (fun M83 h => ?_) FU _ _ h
                        refine v_iload G dX7_copy_204 rfl ?_
                        cases h
                        exact v_iret G F dX7_copy_206 rfl (Nat.le_refl _)
                    · rw [if_neg q62] at h
                      refine v_aload_n G dX7_copy_121 rfl ?_
                      refine v_iconst G (2 : Int32) dX7_copy_122 (by decide) ?_
                      obtain ⟨q87, h⟩ := if_s h
                      obtain ⟨M85, v86, q84, h⟩ := bi2_ h
                      refine v_callV0 (e_X7_finding q84) G cl7 my_X7_finding rfl w934 w25 w932 dX7_copy_123 q87 rfl (Nat.le_of_ble_eq_true rfl) rfl (Nat.le_of_ble_eq_true rfl) (Nat.zero_le _) (Nat.zero_le _) ?_
                      cases h
                      exact v_iret G F dX7_copy_126 rfl (Nat.le_refl _)
          · rw [if_neg q33] at h
            refine v_aload_n G dX7_copy_66 rfl ?_
            refine v_iconst G (5 : Int32) dX7_copy_67 (by decide) ?_
            obtain ⟨q91, h⟩ := if_s h
            obtain ⟨M89, v90, q88, h⟩ := bi2_ h
            refine v_callV0 (e_X7_finding q88) G cl7 my_X7_finding rfl w934 w25 w932 dX7_copy_68 q91 rfl (Nat.le_of_ble_eq_true rfl) rfl (Nat.le_of_ble_eq_true rfl) (Nat.zero_le _) (Nat.zero_le _) ?_
            cases h
            exact v_iret G F dX7_copy_71 rfl (Nat.le_refl _)
        · rw [if_neg q24] at h
          refine v_aload_n G dX7_copy_45 rfl ?_
          refine v_iconst G (1 : Int32) dX7_copy_46 (by decide) ?_
          obtain ⟨q95, h⟩ := if_s h
          obtain ⟨M93, v94, q92, h⟩ := bi2_ h
          refine v_callV0 (e_X7_finding q92) G cl7 my_X7_finding rfl w934 w25 w932 dX7_copy_47 q95 rfl (Nat.le_of_ble_eq_true rfl) rfl (Nat.le_of_ble_eq_true rfl) (Nat.zero_le _) (Nat.zero_le _) ?_
          cases h
          exact v_iret G F dX7_copy_50 rfl (Nat.le_refl _)
    · rw [if_pos q8] at h
      refine v_ldc G (-1000001 : Int32) dX7_copy_19 w931 ?_
      cases h
      exact v_iret G F dX7_copy_21 rfl (Nat.le_refl _)
/-! X7_drop -/
def m_X7_drop (M : mM) (x0 : Nat) (x1 : Int32) : Option (mM × Int32) :=
  (pI M x0 7 0 (0 : Int32)).bind fun M1 =>
  (m_X7_isRow M1 x1).bind fun v4 =>
  if v4 = (0 : Int32) then (
    some (M1, (-1000001 : Int32))
  ) else (
    (pI M1 x0 7 1 (0 : Int32)).bind fun M6 =>
    (gR M6 x0 7 2).bind fun b8 =>
    (ldI M6 b8 x1).bind fun v11 =>
    if (0 : Int32) ≤ v11 then (
      (gR M6 x0 7 2).bind fun b13 =>
      (stI M6 b13 x1 (-1 : Int32)).bind fun M15 =>
      (gR M15 x0 7 3).bind fun b17 =>
      (ldI M15 b17 x1).bind fun v20 =>
      some (M15, v20)
    ) else (
      if isO M6 x0 7 = true then
      bd2 (m_X7_finding M6 x0 (1 : Int32)) fun M22 v23 =>
      some (M22, v23)
      else none
    )
  )
theorem e_X7_drop {Z : zZ} {M : mM} {N : mM} {x0 : Nat} {x1 : Int32} {r : Int32} (h : m_X7_drop M x0 x1 = some (N, r)) : EM Z yX7_drop cX7_drop 2 (some .int) 2 0 0 [.ref x0, .int x1] M N (some (.int r)) := by
  refine EM_of my_X7_drop (Nat.le_of_ble_eq_true rfl) (fun X G F => ?_)
  show V X Z M 0 0 0 [some (.ref x0), some (.int x1)] []
  unfold m_X7_drop at h
  refine v_aload_n G dX7_drop_0 rfl ?_
  refine v_iconst G (0 : Int32) dX7_drop_1 (by decide) ?_
  obtain ⟨M1, q2, h⟩ := bi_ h
  refine v_putI (f := 0) G cl7 dX7_drop_2 w839 (by decide) (by decide) (by decide) rfl rfl q2 ?_
  refine v_iload_n G dX7_drop_5 rfl ?_
  obtain ⟨v4, q3, h⟩ := bi_ h
  refine v_callS0 (e_X7_isRow q3) G my_X7_isRow w924 w923 dX7_drop_6 rfl (Nat.le_of_ble_eq_true rfl) rfl (Nat.le_of_ble_eq_true rfl) (Nat.zero_le _) (Nat.zero_le _) ?_
  refine v_if_ne 15 G dX7_drop_9 (by decide) (fun q5 => ?_) (fun q5 => ?_)
  · rw [if_neg q5] at h
    refine v_aload_n G dX7_drop_15 rfl ?_
    refine v_iconst G (0 : Int32) dX7_drop_16 (by decide) ?_
    obtain ⟨M6, q7, h⟩ := bi_ h
    refine v_putI (f := 1) G cl7 dX7_drop_17 w840 (by decide) (by decide) (by decide) rfl rfl q7 ?_
    refine v_aload_n G dX7_drop_20 rfl ?_
    obtain ⟨b8, q9, h⟩ := bi_ h
    refine v_getR (f := 2) G cl7 dX7_drop_21 w841 (by decide) (by decide) q9 ?_
    refine v_iload_n G dX7_drop_24 rfl ?_
    obtain ⟨v11, q10, h⟩ := bi_ h
    refine v_iald G dX7_drop_25 q10 ?_
    refine v_if_ge 35 G dX7_drop_26 (by decide) (fun q12 => ?_) (fun q12 => ?_)
    · rw [if_pos q12] at h
      refine v_aload_n G dX7_drop_35 rfl ?_
      obtain ⟨b13, q14, h⟩ := bi_ h
      refine v_getR (f := 2) G cl7 dX7_drop_36 w841 (by decide) (by decide) q14 ?_
      refine v_iload_n G dX7_drop_39 rfl ?_
      refine v_iconst G (-1 : Int32) dX7_drop_40 (by decide) ?_
      obtain ⟨M15, q16, h⟩ := bi_ h
      refine v_iast G dX7_drop_41 q16 ?_
      refine v_aload_n G dX7_drop_42 rfl ?_
      obtain ⟨b17, q18, h⟩ := bi_ h
      refine v_getR (f := 3) G cl7 dX7_drop_43 w842 (by decide) (by decide) q18 ?_
      refine v_iload_n G dX7_drop_46 rfl ?_
      obtain ⟨v20, q19, h⟩ := bi_ h
      refine v_iald G dX7_drop_47 q19 ?_
      cases h
      exact v_iret G F dX7_drop_48 rfl (Nat.le_refl _)
    · rw [if_neg q12] at h
      refine v_aload_n G dX7_drop_29 rfl ?_
      refine v_iconst G (1 : Int32) dX7_drop_30 (by decide) ?_
      obtain ⟨q24, h⟩ := if_s h
      obtain ⟨M22, v23, q21, h⟩ := bi2_ h
      refine v_callV0 (e_X7_finding q21) G cl7 my_X7_finding rfl w934 w25 w932 dX7_drop_31 q24 rfl (Nat.le_of_ble_eq_true rfl) rfl (Nat.le_of_ble_eq_true rfl) (Nat.zero_le _) (Nat.zero_le _) ?_
      cases h
      exact v_iret G F dX7_drop_34 rfl (Nat.le_refl _)
  · rw [if_pos q5] at h
    refine v_ldc G (-1000001 : Int32) dX7_drop_12 w931 ?_
    cases h
    exact v_iret G F dX7_drop_14 rfl (Nat.le_refl _)
/-! X7_feed -/
def m_X7_feed (M : mM) (x0 : Nat) (x1 : Int32) : Option (mM × Int32) :=
  (pI M x0 7 0 (0 : Int32)).bind fun M1 =>
  (m_X7_in M1 (Int32.toInt64 x1) (0 : Int64) (255 : Int64)).bind fun v4 =>
  if v4 = (0 : Int32) then (
    some (M1, (-1000001 : Int32))
  ) else (
    (gI M1 x0 7 11).bind fun v6 =>
    if v6 = (120 : Int32) then (
      some (M1, (-1000003 : Int32))
    ) else (
      (gR M1 x0 7 10).bind fun b9 =>
      (gI M1 x0 7 11).bind fun v11 =>
      (stI M1 b9 v11 x1).bind fun M13 =>
      (gI M13 x0 7 11).bind fun v15 =>
      (pI M13 x0 7 11 (v15 + (1 : Int32))).bind fun M17 =>
      (gI M17 x0 7 11).bind fun v19 =>
      some (M17, v19)
    )
  )
theorem e_X7_feed {Z : zZ} {M : mM} {N : mM} {x0 : Nat} {x1 : Int32} {r : Int32} (h : m_X7_feed M x0 x1 = some (N, r)) : EM Z yX7_feed cX7_feed 2 (some .int) 1 0 0 [.ref x0, .int x1] M N (some (.int r)) := by
  refine EM_of my_X7_feed (Nat.le_of_ble_eq_true rfl) (fun X G F => ?_)
  show V X Z M 0 0 0 [some (.ref x0), some (.int x1)] []
  unfold m_X7_feed at h
  refine v_aload_n G dX7_feed_0 rfl ?_
  refine v_iconst G (0 : Int32) dX7_feed_1 (by decide) ?_
  obtain ⟨M1, q2, h⟩ := bi_ h
  refine v_putI (f := 0) G cl7 dX7_feed_2 w839 (by decide) (by decide) (by decide) rfl rfl q2 ?_
  refine v_iload_n G dX7_feed_5 rfl ?_
  refine v_i2l G dX7_feed_6 ?_
  refine v_lconst G (0 : Int64) dX7_feed_7 (by decide) ?_
  refine v_ldc2 G (255 : Int64) dX7_feed_8 w953 ?_
  obtain ⟨v4, q3, h⟩ := bi_ h
  refine v_callS0 (e_X7_in q3) G my_X7_in w928 w927 dX7_feed_11 rfl (Nat.le_of_ble_eq_true rfl) rfl (Nat.le_of_ble_eq_true rfl) (Nat.zero_le _) (Nat.zero_le _) ?_
  refine v_if_ne 20 G dX7_feed_14 (by decide) (fun q5 => ?_) (fun q5 => ?_)
  · rw [if_neg q5] at h
    refine v_aload_n G dX7_feed_20 rfl ?_
    obtain ⟨v6, q7, h⟩ := bi_ h
    refine v_getI (f := 11) G cl7 dX7_feed_21 w850 (by decide) (by decide) q7 ?_
    refine v_bipush G (120 : Int32) dX7_feed_24 (by decide) ?_
    refine v_ic_ne 32 G dX7_feed_26 (by decide) (fun q8 => ?_) (fun q8 => ?_)
    · rw [if_neg q8] at h
      refine v_aload_n G dX7_feed_32 rfl ?_
      obtain ⟨b9, q10, h⟩ := bi_ h
      refine v_getR (f := 10) G cl7 dX7_feed_33 w849 (by decide) (by decide) q10 ?_
      refine v_aload_n G dX7_feed_36 rfl ?_
      obtain ⟨v11, q12, h⟩ := bi_ h
      refine v_getI (f := 11) G cl7 dX7_feed_37 w850 (by decide) (by decide) q12 ?_
      refine v_iload_n G dX7_feed_40 rfl ?_
      obtain ⟨M13, q14, h⟩ := bi_ h
      refine v_iast G dX7_feed_41 q14 ?_
      refine v_aload_n G dX7_feed_42 rfl ?_
      refine v_dup G dX7_feed_43 rfl ?_
      obtain ⟨v15, q16, h⟩ := bi_ h
      refine v_getI (f := 11) G cl7 dX7_feed_44 w850 (by decide) (by decide) q16 ?_
      refine v_iconst G (1 : Int32) dX7_feed_47 (by decide) ?_
      refine v_iadd G dX7_feed_48 ?_
      obtain ⟨M17, q18, h⟩ := bi_ h
      refine v_putI (f := 11) G cl7 dX7_feed_49 w850 (by decide) (by decide) (by decide) rfl rfl q18 ?_
      refine v_aload_n G dX7_feed_52 rfl ?_
      obtain ⟨v19, q20, h⟩ := bi_ h
      refine v_getI (f := 11) G cl7 dX7_feed_53 w850 (by decide) (by decide) q20 ?_
      cases h
      exact v_iret G F dX7_feed_56 rfl (Nat.le_refl _)
    · rw [if_pos q8] at h
      refine v_ldc G (-1000003 : Int32) dX7_feed_29 w954 ?_
      cases h
      exact v_iret G F dX7_feed_31 rfl (Nat.le_refl _)
  · rw [if_pos q5] at h
    refine v_ldc G (-1000001 : Int32) dX7_feed_17 w931 ?_
    cases h
    exact v_iret G F dX7_feed_19 rfl (Nat.le_refl _)
/-! X7_bad -/
def m_X7_bad (M : mM) (x0 : Nat) (x1 : Int32) : Option mM :=
  (gI M x0 7 16).bind fun v1 =>
  if v1 = (0 : Int32) then (
    (pI M x0 7 16 x1).bind fun M4 =>
    (gI M4 x0 7 13).bind fun v6 =>
    (pI M4 x0 7 17 v6).bind fun M8 =>
    some M8
  ) else (
    some M
  )
theorem e_X7_bad {Z : zZ} {M : mM} {N : mM} {x0 : Nat} {x1 : Int32} (h : m_X7_bad M x0 x1 = some N) : EM Z yX7_bad cX7_bad 2 none 0 0 0 [.ref x0, .int x1] M N none := by
  refine EM_of my_X7_bad (Nat.le_of_ble_eq_true rfl) (fun X G F => ?_)
  show V X Z M 0 0 0 [some (.ref x0), some (.int x1)] []
  unfold m_X7_bad at h
  refine v_aload_n G dX7_bad_0 rfl ?_
  obtain ⟨v1, q2, h⟩ := bi_ h
  refine v_getI (f := 16) G cl7 dX7_bad_1 w855 (by decide) (by decide) q2 ?_
  refine v_if_ne 20 G dX7_bad_4 (by decide) (fun q3 => ?_) (fun q3 => ?_)
  · rw [if_neg q3] at h
    cases h
    exact v_vret G F dX7_bad_20 rfl (Nat.le_refl _)
  · rw [if_pos q3] at h
    refine v_aload_n G dX7_bad_7 rfl ?_
    refine v_iload_n G dX7_bad_8 rfl ?_
    obtain ⟨M4, q5, h⟩ := bi_ h
    refine v_putI (f := 16) G cl7 dX7_bad_9 w855 (by decide) (by decide) (by decide) rfl rfl q5 ?_
    refine v_aload_n G dX7_bad_12 rfl ?_
    refine v_aload_n G dX7_bad_13 rfl ?_
    obtain ⟨v6, q7, h⟩ := bi_ h
    refine v_getI (f := 13) G cl7 dX7_bad_14 w852 (by decide) (by decide) q7 ?_
    obtain ⟨M8, q9, h⟩ := bi_ h
    refine v_putI (f := 17) G cl7 dX7_bad_17 w856 (by decide) (by decide) (by decide) rfl rfl q9 ?_
    cases h
    exact v_vret G F dX7_bad_20 rfl (Nat.le_refl _)
