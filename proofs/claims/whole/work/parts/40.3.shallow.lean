/-! X3_take -/
def m_X3_take (M : mM) (x0 : Nat) (x1 : Int32) : Option (mM × Int32) :=
  (gI M x0 3 2).bind fun v1 =>
  if v1 < (120 : Int32) then (
    (gR M x0 3 0).bind fun b4 =>
    (gI M x0 3 2).bind fun v6 =>
    (stI M b4 v6 x1).bind fun M8 =>
    (gI M8 x0 3 2).bind fun v10 =>
    (pI M8 x0 3 2 (v10 + (1 : Int32))).bind fun M12 =>
    some (M12, (1 : Int32))
  ) else (
    some (M, (0 : Int32))
  )
theorem e_X3_take {Z : zZ} {M : mM} {N : mM} {x0 : Nat} {x1 : Int32} {r : Int32} (h : m_X3_take M x0 x1 = some (N, r)) : EM Z yX3_take cX3_take 2 (some .boolean) 0 0 0 [.ref x0, .int x1] M N (some (.int r)) := by
  refine EM_of my_X3_take (Nat.le_of_ble_eq_true rfl) (fun X G F => ?_)
  show V X Z M 0 0 0 [some (.ref x0), some (.int x1)] []
  unfold m_X3_take at h
  refine v_aload_n G dX3_take_0 rfl ?_
  obtain ⟨v1, q2, h⟩ := bi_ h
  refine v_getI (f := 2) G cl3 dX3_take_1 w177 (by decide) (by decide) q2 ?_
  refine v_bipush G (120 : Int32) dX3_take_4 (by decide) ?_
  refine v_ic_lt 11 G dX3_take_6 (by decide) (fun q3 => ?_) (fun q3 => ?_)
  · rw [if_pos q3] at h
    refine v_aload_n G dX3_take_11 rfl ?_
    obtain ⟨b4, q5, h⟩ := bi_ h
    refine v_getR (f := 0) G cl3 dX3_take_12 w174 (by decide) (by decide) q5 ?_
    refine v_aload_n G dX3_take_15 rfl ?_
    obtain ⟨v6, q7, h⟩ := bi_ h
    refine v_getI (f := 2) G cl3 dX3_take_16 w177 (by decide) (by decide) q7 ?_
    refine v_iload_n G dX3_take_19 rfl ?_
    obtain ⟨M8, q9, h⟩ := bi_ h
    refine v_iast G dX3_take_20 q9 ?_
    refine v_aload_n G dX3_take_21 rfl ?_
    refine v_dup G dX3_take_22 rfl ?_
    obtain ⟨v10, q11, h⟩ := bi_ h
    refine v_getI (f := 2) G cl3 dX3_take_23 w177 (by decide) (by decide) q11 ?_
    refine v_iconst G (1 : Int32) dX3_take_26 (by decide) ?_
    refine v_iadd G dX3_take_27 ?_
    obtain ⟨M12, q13, h⟩ := bi_ h
    refine v_putI (f := 2) G cl3 dX3_take_28 w177 (by decide) (by decide) (by decide) rfl rfl q13 ?_
    refine v_iconst G (1 : Int32) dX3_take_31 (by decide) ?_
    cases h
    exact v_zret G F rfl dX3_take_32 rfl (Nat.le_refl _)
  · rw [if_neg q3] at h
    refine v_iconst G (0 : Int32) dX3_take_9 (by decide) ?_
    cases h
    exact v_zret G F rfl dX3_take_10 rfl (Nat.le_refl _)
/-! X3_isFigure -/
def m_X3_isFigure (M : mM) (x0 : Int32) : Option Int32 :=
  if x0 < (48 : Int32) then (
    some (0 : Int32)
  ) else (
    if (57 : Int32) < x0 then (
      some (0 : Int32)
    ) else (
      some (1 : Int32)
    )
  )
theorem e_X3_isFigure {Z : zZ} {M : mM} {x0 : Int32} {r : Int32} (h : m_X3_isFigure M x0 = some r) : EM Z yX3_isFigure cX3_isFigure 1 (some .boolean) 0 0 0 [.int x0] M M (some (.int r)) := by
  refine EM_of my_X3_isFigure (Nat.le_of_ble_eq_true rfl) (fun X G F => ?_)
  show V X Z M 0 0 0 [some (.int x0)] []
  unfold m_X3_isFigure at h
  refine v_iload_n G dX3_isFigure_0 rfl ?_
  refine v_bipush G (48 : Int32) dX3_isFigure_1 (by decide) ?_
  refine v_ic_lt 16 G dX3_isFigure_3 (by decide) (fun q1 => ?_) (fun q1 => ?_)
  · rw [if_pos q1] at h
    refine v_iconst G (0 : Int32) dX3_isFigure_16 (by decide) ?_
    cases h
    exact v_zret G F rfl dX3_isFigure_17 rfl (Nat.le_refl _)
  · rw [if_neg q1] at h
    refine v_iload_n G dX3_isFigure_6 rfl ?_
    refine v_bipush G (57 : Int32) dX3_isFigure_7 (by decide) ?_
    refine v_ic_gt 16 G dX3_isFigure_9 (by decide) (fun q2 => ?_) (fun q2 => ?_)
    · rw [if_pos q2] at h
      refine v_iconst G (0 : Int32) dX3_isFigure_16 (by decide) ?_
      cases h
      exact v_zret G F rfl dX3_isFigure_17 rfl (Nat.le_refl _)
    · rw [if_neg q2] at h
      refine v_iconst G (1 : Int32) dX3_isFigure_12 (by decide) ?_
      refine v_goto 17 G dX3_isFigure_13 (by decide) ?_
      cases h
      exact v_zret G F rfl dX3_isFigure_17 rfl (Nat.le_refl _)
/-! X3_takeNumber -/
def m_X3_takeNumber_L5 {ρ : Type} (k0 : mM → Option ρ) (x0 : Nat) : Nat → mM → Option ρ
  | 0, _ => none
  | n + 1, M =>
    (gI M x0 3 7).bind fun v3 =>
    (gI M x0 3 2).bind fun v5 =>
    if v5 ≤ v3 then (
      k0 M
    ) else (
      (gR M x0 3 0).bind fun b8 =>
      (gI M x0 3 7).bind fun v10 =>
      (ldI M b8 v10).bind fun v13 =>
      (m_X3_isFigure M v13).bind fun v15 =>
      if v15 = (0 : Int32) then (
        k0 M
      ) else (
        (gI M x0 3 7).bind fun v17 =>
        (gI M x0 3 5).bind fun v19 =>
        if (2 : Int32) ≤ (v17 - v19) then (
          (gI M x0 3 7).bind fun v22 =>
          (pI M x0 3 7 (v22 + (1 : Int32))).bind fun M24 =>
          m_X3_takeNumber_L5 k0 x0 n M24
        ) else (
          (gI M x0 3 6).bind fun v26 =>
          (gR M x0 3 0).bind fun b28 =>
          (gI M x0 3 7).bind fun v30 =>
          (ldI M b28 v30).bind fun v33 =>
          (pI M x0 3 6 (((v26 * (10 : Int32)) + v33) - (48 : Int32))).bind fun M34 =>
          (gI M34 x0 3 7).bind fun v36 =>
          (pI M34 x0 3 7 (v36 + (1 : Int32))).bind fun M38 =>
          m_X3_takeNumber_L5 k0 x0 n M38
        )
      )
    )
theorem e_X3_takeNumber_L5 {X : xX} {Z : zZ} {cn sn : Nat} {ρ : Type} {r : ρ} {k0 : mM → Option ρ} (G : ok_ X Z yX3_takeNumber cX3_takeNumber 1 1 0 0) (hcn : cn ≤ 0) (hsn : sn ≤ 0) (x0 : Nat)
    (hx0 : ∀ (N : mM), k0 N = some r → V X Z N cn sn 81 [some (.ref x0)] []) :
    ∀ (n : Nat) (M : mM), m_X3_takeNumber_L5 k0 x0 n M = some r → V X Z M cn sn 5 [some (.ref x0)] [] := by
  intro n
  induction n with
  | zero => intro M h; rw [m_X3_takeNumber_L5] at h; cases h
  | succ n ih =>
    intro M h
    rw [m_X3_takeNumber_L5] at h
    refine v_aload_n G dX3_takeNumber_5 rfl ?_
    obtain ⟨v3, q4, h⟩ := bi_ h
    refine v_getI (f := 7) G cl3 dX3_takeNumber_6 w185 (by decide) (by decide) q4 ?_
    refine v_aload_n G dX3_takeNumber_9 rfl ?_
    obtain ⟨v5, q6, h⟩ := bi_ h
    refine v_getI (f := 2) G cl3 dX3_takeNumber_10 w177 (by decide) (by decide) q6 ?_
    refine v_ic_ge 81 G dX3_takeNumber_13 (by decide) (fun q7 => ?_) (fun q7 => ?_)
    · rw [if_pos q7] at h
      exact v_mask [true] rfl (hx0 _ h)
    · rw [if_neg q7] at h
      refine v_aload_n G dX3_takeNumber_16 rfl ?_
      obtain ⟨b8, q9, h⟩ := bi_ h
      refine v_getR (f := 0) G cl3 dX3_takeNumber_17 w174 (by decide) (by decide) q9 ?_
      refine v_aload_n G dX3_takeNumber_20 rfl ?_
      obtain ⟨v10, q11, h⟩ := bi_ h
      refine v_getI (f := 7) G cl3 dX3_takeNumber_21 w185 (by decide) (by decide) q11 ?_
      obtain ⟨v13, q12, h⟩ := bi_ h
      refine v_iald G dX3_takeNumber_24 q12 ?_
      obtain ⟨v15, q14, h⟩ := bi_ h
      refine v_callS0 (e_X3_isFigure q14) G my_X3_isFigure w393 w392 dX3_takeNumber_25 rfl (Nat.le_of_ble_eq_true rfl) rfl (Nat.le_of_ble_eq_true rfl) hcn hsn ?_
      refine v_if_eq 81 G dX3_takeNumber_28 (by decide) (fun q16 => ?_) (fun q16 => ?_)
      · rw [if_pos q16] at h
        exact v_mask [true] rfl (hx0 _ h)
      · rw [if_neg q16] at h
        refine v_aload_n G dX3_takeNumber_31 rfl ?_
        obtain ⟨v17, q18, h⟩ := bi_ h
        refine v_getI (f := 7) G cl3 dX3_takeNumber_32 w185 (by decide) (by decide) q18 ?_
        refine v_aload_n G dX3_takeNumber_35 rfl ?_
        obtain ⟨v19, q20, h⟩ := bi_ h
        refine v_getI (f := 5) G cl3 dX3_takeNumber_36 w183 (by decide) (by decide) q20 ?_
        refine v_isub G dX3_takeNumber_39 ?_
        refine v_iconst G (2 : Int32) dX3_takeNumber_40 (by decide) ?_
        refine v_ic_ge 68 G dX3_takeNumber_41 (by decide) (fun q21 => ?_) (fun q21 => ?_)
        · rw [if_pos q21] at h
          refine v_aload_n G dX3_takeNumber_68 rfl ?_
          refine v_dup G dX3_takeNumber_69 rfl ?_
          obtain ⟨v22, q23, h⟩ := bi_ h
          refine v_getI (f := 7) G cl3 dX3_takeNumber_70 w185 (by decide) (by decide) q23 ?_
          refine v_iconst G (1 : Int32) dX3_takeNumber_73 (by decide) ?_
          refine v_iadd G dX3_takeNumber_74 ?_
          obtain ⟨M24, q25, h⟩ := bi_ h
          refine v_putI (f := 7) G cl3 dX3_takeNumber_75 w185 (by decide) (by decide) (by decide) rfl rfl q25 ?_
          refine v_goto 5 G dX3_takeNumber_78 (by decide) ?_
          exact v_mask [true] rfl (ih _ h)
        · rw [if_neg q21] at h
          refine v_aload_n G dX3_takeNumber_44 rfl ?_
          refine v_aload_n G dX3_takeNumber_45 rfl ?_
          obtain ⟨v26, q27, h⟩ := bi_ h
          refine v_getI (f := 6) G cl3 dX3_takeNumber_46 w184 (by decide) (by decide) q27 ?_
          refine v_bipush G (10 : Int32) dX3_takeNumber_49 (by decide) ?_
          refine v_imul G dX3_takeNumber_51 ?_
          refine v_aload_n G dX3_takeNumber_52 rfl ?_
          obtain ⟨b28, q29, h⟩ := bi_ h
          refine v_getR (f := 0) G cl3 dX3_takeNumber_53 w174 (by decide) (by decide) q29 ?_
          refine v_aload_n G dX3_takeNumber_56 rfl ?_
          obtain ⟨v30, q31, h⟩ := bi_ h
          refine v_getI (f := 7) G cl3 dX3_takeNumber_57 w185 (by decide) (by decide) q31 ?_
          obtain ⟨v33, q32, h⟩ := bi_ h
          refine v_iald G dX3_takeNumber_60 q32 ?_
          refine v_iadd G dX3_takeNumber_61 ?_
          refine v_bipush G (48 : Int32) dX3_takeNumber_62 (by decide) ?_
          refine v_isub G dX3_takeNumber_64 ?_
          obtain ⟨M34, q35, h⟩ := bi_ h
          refine v_putI (f := 6) G cl3 dX3_takeNumber_65 w184 (by decide) (by decide) (by decide) rfl rfl q35 ?_
          refine v_aload_n G dX3_takeNumber_68 rfl ?_
          refine v_dup G dX3_takeNumber_69 rfl ?_
          obtain ⟨v36, q37, h⟩ := bi_ h
          refine v_getI (f := 7) G cl3 dX3_takeNumber_70 w185 (by decide) (by decide) q37 ?_
          refine v_iconst G (1 : Int32) dX3_takeNumber_73 (by decide) ?_
          refine v_iadd G dX3_takeNumber_74 ?_
          obtain ⟨M38, q39, h⟩ := bi_ h
          refine v_putI (f := 7) G cl3 dX3_takeNumber_75 w185 (by decide) (by decide) (by decide) rfl rfl q39 ?_
          refine v_goto 5 G dX3_takeNumber_78 (by decide) ?_
          exact v_mask [true] rfl (ih _ h)
def m_X3_takeNumber (M : mM) (x0 : Nat) : Option mM :=
  (pI M x0 3 6 (0 : Int32)).bind fun M1 =>
  m_X3_takeNumber_L5
    (fun M40 =>
      (gI M40 x0 3 7).bind fun v41 =>
      (gI M40 x0 3 5).bind fun v43 =>
      if (v41 - v43) ≤ (2 : Int32) then (
        (pI M40 x0 3 4 (-2 : Int32)).bind fun M46 =>
        some M46
      ) else (
        (pI M40 x0 3 4 (-3 : Int32)).bind fun M48 =>
        some M48
      ))
    x0 FU M1
theorem e_X3_takeNumber {Z : zZ} {M : mM} {N : mM} {x0 : Nat} (h : m_X3_takeNumber M x0 = some N) : EM Z yX3_takeNumber cX3_takeNumber 1 none 1 0 0 [.ref x0] M N none := by
  refine EM_of my_X3_takeNumber (Nat.le_of_ble_eq_true rfl) (fun X G F => ?_)
  show V X Z M 0 0 0 [some (.ref x0)] []
  unfold m_X3_takeNumber at h
  refine v_aload_n G dX3_takeNumber_0 rfl ?_
  refine v_iconst G (0 : Int32) dX3_takeNumber_1 (by decide) ?_
  obtain ⟨M1, q2, h⟩ := bi_ h
  refine v_putI (f := 6) G cl3 dX3_takeNumber_2 w184 (by decide) (by decide) (by decide) rfl rfl q2 ?_
  refine v_mask [true] rfl ?_
  refine e_X3_takeNumber_L5 G (Nat.zero_le _) (Nat.zero_le _) _ (fun M40 h => ?_) FU _ h
  refine v_aload_n G dX3_takeNumber_81 rfl ?_
  refine v_aload_n G dX3_takeNumber_82 rfl ?_
  obtain ⟨v41, q42, h⟩ := bi_ h
  refine v_getI (f := 7) G cl3 dX3_takeNumber_83 w185 (by decide) (by decide) q42 ?_
  refine v_aload_n G dX3_takeNumber_86 rfl ?_
  obtain ⟨v43, q44, h⟩ := bi_ h
  refine v_getI (f := 5) G cl3 dX3_takeNumber_87 w183 (by decide) (by decide) q44 ?_
  refine v_isub G dX3_takeNumber_90 ?_
  refine v_iconst G (2 : Int32) dX3_takeNumber_91 (by decide) ?_
  refine v_ic_le 100 G dX3_takeNumber_92 (by decide) (fun q45 => ?_) (fun q45 => ?_)
  · rw [if_pos q45] at h
    refine v_bipush G (-2 : Int32) dX3_takeNumber_100 (by decide) ?_
    obtain ⟨M46, q47, h⟩ := bi_ h
    refine v_putI (f := 4) G cl3 dX3_takeNumber_102 w181 (by decide) (by decide) (by decide) rfl rfl q47 ?_
    cases h
    exact v_vret G F dX3_takeNumber_105 rfl (Nat.le_refl _)
  · rw [if_neg q45] at h
    refine v_bipush G (-3 : Int32) dX3_takeNumber_95 (by decide) ?_
    refine v_goto 102 G dX3_takeNumber_97 (by decide) ?_
    obtain ⟨M48, q49, h⟩ := bi_ h
    refine v_putI (f := 4) G cl3 dX3_takeNumber_102 w181 (by decide) (by decide) (by decide) rfl rfl q49 ?_
    cases h
    exact v_vret G F dX3_takeNumber_105 rfl (Nat.le_refl _)
/-! X3_goOn -/
def m_X3_goOn (M : mM) (x0 : Nat) : Option mM :=
  (gI M x0 3 7).bind fun v1 =>
  (pI M x0 3 5 v1).bind fun M3 =>
  (gI M3 x0 3 7).bind fun v5 =>
  (gI M3 x0 3 2).bind fun v7 =>
  if v5 < v7 then (
    (gR M3 x0 3 0).bind fun b10 =>
    (gI M3 x0 3 7).bind fun v12 =>
    (ldI M3 b10 v12).bind fun v15 =>
    (m_X3_isFigure M3 v15).bind fun v17 =>
    if v17 = (0 : Int32) then (
      (gI M3 x0 3 7).bind fun v19 =>
      (pI M3 x0 3 7 (v19 + (1 : Int32))).bind fun M21 =>
      (pI M21 x0 3 4 v15).bind fun M23 =>
      some M23
    ) else (
      if isO M3 x0 3 = true then
      (m_X3_takeNumber M3 x0).bind fun M26 =>
      some M26
      else none
    )
  ) else (
    (pI M3 x0 3 4 (-1 : Int32)).bind fun M28 =>
    some M28
  )
theorem e_X3_goOn {Z : zZ} {M : mM} {N : mM} {x0 : Nat} (h : m_X3_goOn M x0 = some N) : EM Z yX3_goOn cX3_goOn 2 none 2 0 0 [.ref x0] M N none := by
  refine EM_of my_X3_goOn (Nat.le_of_ble_eq_true rfl) (fun X G F => ?_)
  show V X Z M 0 0 0 [some (.ref x0), none] []
  unfold m_X3_goOn at h
  refine v_aload_n G dX3_goOn_0 rfl ?_
  refine v_aload_n G dX3_goOn_1 rfl ?_
  obtain ⟨v1, q2, h⟩ := bi_ h
  refine v_getI (f := 7) G cl3 dX3_goOn_2 w185 (by decide) (by decide) q2 ?_
  obtain ⟨M3, q4, h⟩ := bi_ h
  refine v_putI (f := 5) G cl3 dX3_goOn_5 w183 (by decide) (by decide) (by decide) rfl rfl q4 ?_
  refine v_aload_n G dX3_goOn_8 rfl ?_
  obtain ⟨v5, q6, h⟩ := bi_ h
  refine v_getI (f := 7) G cl3 dX3_goOn_9 w185 (by decide) (by decide) q6 ?_
  refine v_aload_n G dX3_goOn_12 rfl ?_
  obtain ⟨v7, q8, h⟩ := bi_ h
  refine v_getI (f := 2) G cl3 dX3_goOn_13 w177 (by decide) (by decide) q8 ?_
  refine v_ic_lt 25 G dX3_goOn_16 (by decide) (fun q9 => ?_) (fun q9 => ?_)
  · rw [if_pos q9] at h
    refine v_aload_n G dX3_goOn_25 rfl ?_
    obtain ⟨b10, q11, h⟩ := bi_ h
    refine v_getR (f := 0) G cl3 dX3_goOn_26 w174 (by decide) (by decide) q11 ?_
    refine v_aload_n G dX3_goOn_29 rfl ?_
    obtain ⟨v12, q13, h⟩ := bi_ h
    refine v_getI (f := 7) G cl3 dX3_goOn_30 w185 (by decide) (by decide) q13 ?_
    obtain ⟨v15, q14, h⟩ := bi_ h
    refine v_iald G dX3_goOn_33 q14 ?_
    refine v_istore_n [some (.ref x0), some (.int v15)] G dX3_goOn_34 (Nat.le_of_ble_eq_true rfl) rfl rfl ?_
    refine v_iload_n G dX3_goOn_35 rfl ?_
    obtain ⟨v17, q16, h⟩ := bi_ h
    refine v_callS0 (e_X3_isFigure q16) G my_X3_isFigure w393 w392 dX3_goOn_36 rfl (Nat.le_of_ble_eq_true rfl) rfl (Nat.le_of_ble_eq_true rfl) (Nat.zero_le _) (Nat.zero_le _) ?_
    refine v_if_eq 47 G dX3_goOn_39 (by decide) (fun q18 => ?_) (fun q18 => ?_)
    · rw [if_pos q18] at h
      refine v_aload_n G dX3_goOn_47 rfl ?_
      refine v_dup G dX3_goOn_48 rfl ?_
      obtain ⟨v19, q20, h⟩ := bi_ h
      refine v_getI (f := 7) G cl3 dX3_goOn_49 w185 (by decide) (by decide) q20 ?_
      refine v_iconst G (1 : Int32) dX3_goOn_52 (by decide) ?_
      refine v_iadd G dX3_goOn_53 ?_
      obtain ⟨M21, q22, h⟩ := bi_ h
      refine v_putI (f := 7) G cl3 dX3_goOn_54 w185 (by decide) (by decide) (by decide) rfl rfl q22 ?_
      refine v_aload_n G dX3_goOn_57 rfl ?_
      refine v_iload_n G dX3_goOn_58 rfl ?_
      obtain ⟨M23, q24, h⟩ := bi_ h
      refine v_putI (f := 4) G cl3 dX3_goOn_59 w181 (by decide) (by decide) (by decide) rfl rfl q24 ?_
      cases h
      exact v_vret G F dX3_goOn_62 rfl (Nat.le_refl _)
    · rw [if_neg q18] at h
      refine v_aload_n G dX3_goOn_42 rfl ?_
      obtain ⟨q27, h⟩ := if_s h
      obtain ⟨M26, q25, h⟩ := bi_ h
      refine v_callV0 (e_X3_takeNumber q25) G cl3 my_X3_takeNumber rfl w397 w4 w395 dX3_goOn_43 q27 rfl (Nat.le_of_ble_eq_true rfl) rfl (Nat.le_of_ble_eq_true rfl) (Nat.zero_le _) (Nat.zero_le _) ?_
      cases h
      exact v_vret G F dX3_goOn_46 rfl (Nat.le_refl _)
  · rw [if_neg q9] at h
    refine v_aload_n G dX3_goOn_19 rfl ?_
    refine v_iconst G (-1 : Int32) dX3_goOn_20 (by decide) ?_
    obtain ⟨M28, q29, h⟩ := bi_ h
    refine v_putI (f := 4) G cl3 dX3_goOn_21 w181 (by decide) (by decide) (by decide) rfl rfl q29 ?_
    cases h
    exact v_vret G F dX3_goOn_24 rfl (Nat.le_refl _)
/-! X3_kindOf -/
def m_X3_kindOf (M : mM) (x0 : Int32) : Option Int32 :=
  if x0 = (99 : Int32) then (
    some (1 : Int32)
  ) else
  if x0 = (111 : Int32) then (
    some (5 : Int32)
  ) else
  if x0 = (113 : Int32) then (
    some (2 : Int32)
  ) else
  if x0 = (115 : Int32) then (
    some (4 : Int32)
  ) else
  if x0 = (119 : Int32) then (
    some (3 : Int32)
  ) else
  (
    some (0 : Int32)
  )
theorem e_X3_kindOf {Z : zZ} {M : mM} {x0 : Int32} {r : Int32} (h : m_X3_kindOf M x0 = some r) : EM Z yX3_kindOf cX3_kindOf 1 (some .int) 0 0 0 [.int x0] M M (some (.int r)) := by
  refine EM_of my_X3_kindOf (Nat.le_of_ble_eq_true rfl) (fun X G F => ?_)
  show V X Z M 0 0 0 [some (.int x0)] []
  unfold m_X3_kindOf at h
  refine v_iload_n G dX3_kindOf_0 rfl ?_
  rcases Decidable.em (x0 = (99 : Int32)) with q1 | q1
  · rw [if_pos q1] at h
    refine v_look (off := 51) 52 G dX3_kindOf_1 (by decide) (by rw [q1]; rfl) (by decide) ?_
    refine v_iconst G (1 : Int32) dX3_kindOf_52 (by decide) ?_
    cases h
    exact v_iret G F dX3_kindOf_53 rfl (Nat.le_refl _)
  · rw [if_neg q1] at h
    rcases Decidable.em (x0 = (111 : Int32)) with q2 | q2
    · rw [if_pos q2] at h
      refine v_look (off := 59) 60 G dX3_kindOf_1 (by decide) (by rw [q2]; rfl) (by decide) ?_
      refine v_iconst G (5 : Int32) dX3_kindOf_60 (by decide) ?_
      cases h
      exact v_iret G F dX3_kindOf_61 rfl (Nat.le_refl _)
    · rw [if_neg q2] at h
      rcases Decidable.em (x0 = (113 : Int32)) with q3 | q3
      · rw [if_pos q3] at h
        refine v_look (off := 53) 54 G dX3_kindOf_1 (by decide) (by rw [q3]; rfl) (by decide) ?_
        refine v_iconst G (2 : Int32) dX3_kindOf_54 (by decide) ?_
        cases h
        exact v_iret G F dX3_kindOf_55 rfl (Nat.le_refl _)
      · rw [if_neg q3] at h
        rcases Decidable.em (x0 = (115 : Int32)) with q4 | q4
        · rw [if_pos q4] at h
          refine v_look (off := 57) 58 G dX3_kindOf_1 (by decide) (by rw [q4]; rfl) (by decide) ?_
          refine v_iconst G (4 : Int32) dX3_kindOf_58 (by decide) ?_
          cases h
          exact v_iret G F dX3_kindOf_59 rfl (Nat.le_refl _)
        · rw [if_neg q4] at h
          rcases Decidable.em (x0 = (119 : Int32)) with q5 | q5
          · rw [if_pos q5] at h
            refine v_look (off := 55) 56 G dX3_kindOf_1 (by decide) (by rw [q5]; rfl) (by decide) ?_
            refine v_iconst G (3 : Int32) dX3_kindOf_56 (by decide) ?_
            cases h
            exact v_iret G F dX3_kindOf_57 rfl (Nat.le_refl _)
          · rw [if_neg q5] at h
            have eq1 : (x0).toInt ≠ 99 := i32_ne q1
            have eq2 : (x0).toInt ≠ 111 := i32_ne q2
            have eq3 : (x0).toInt ≠ 113 := i32_ne q3
            have eq4 : (x0).toInt ≠ 115 := i32_ne q4
            have eq5 : (x0).toInt ≠ 119 := i32_ne q5
            refine v_look (off := 61) 62 G dX3_kindOf_1 (by decide) (by simp [Op.lookupswitch.offset, eq1, eq2, eq3, eq4, eq5, Ne.symm eq1, Ne.symm eq2, Ne.symm eq3, Ne.symm eq4, Ne.symm eq5]) (by decide) ?_
            refine v_iconst G (0 : Int32) dX3_kindOf_62 (by decide) ?_
            cases h
            exact v_iret G F dX3_kindOf_63 rfl (Nat.le_refl _)
/-! X3_partOf -/
def m_X3_partOf (M : mM) (x0 : Int32) : Option Int32 :=
  if x0 = (100 : Int32) then (
    some (2 : Int32)
  ) else
  if x0 = (106 : Int32) then (
    some (1 : Int32)
  ) else
  if x0 = (114 : Int32) then (
    some (0 : Int32)
  ) else
  (
    (m_X3_kindOf M x0).bind fun v5 =>
    if v5 = (0 : Int32) then (
      some (-1 : Int32)
    ) else (
      some (3 : Int32)
    )
  )
theorem e_X3_partOf {Z : zZ} {M : mM} {x0 : Int32} {r : Int32} (h : m_X3_partOf M x0 = some r) : EM Z yX3_partOf cX3_partOf 1 (some .int) 1 0 0 [.int x0] M M (some (.int r)) := by
  refine EM_of my_X3_partOf (Nat.le_of_ble_eq_true rfl) (fun X G F => ?_)
  show V X Z M 0 0 0 [some (.int x0)] []
  unfold m_X3_partOf at h
  refine v_iload_n G dX3_partOf_0 rfl ?_
  rcases Decidable.em (x0 = (100 : Int32)) with q1 | q1
  · rw [if_pos q1] at h
    refine v_look (off := 39) 40 G dX3_partOf_1 (by decide) (by rw [q1]; rfl) (by decide) ?_
    refine v_iconst G (2 : Int32) dX3_partOf_40 (by decide) ?_
    cases h
    exact v_iret G F dX3_partOf_41 rfl (Nat.le_refl _)
  · rw [if_neg q1] at h
    rcases Decidable.em (x0 = (106 : Int32)) with q2 | q2
    · rw [if_pos q2] at h
      refine v_look (off := 37) 38 G dX3_partOf_1 (by decide) (by rw [q2]; rfl) (by decide) ?_
      refine v_iconst G (1 : Int32) dX3_partOf_38 (by decide) ?_
      cases h
      exact v_iret G F dX3_partOf_39 rfl (Nat.le_refl _)
    · rw [if_neg q2] at h
      rcases Decidable.em (x0 = (114 : Int32)) with q3 | q3
      · rw [if_pos q3] at h
        refine v_look (off := 35) 36 G dX3_partOf_1 (by decide) (by rw [q3]; rfl) (by decide) ?_
        refine v_iconst G (0 : Int32) dX3_partOf_36 (by decide) ?_
        cases h
        exact v_iret G F dX3_partOf_37 rfl (Nat.le_refl _)
      · rw [if_neg q3] at h
        have eq1 : (x0).toInt ≠ 100 := i32_ne q1
        have eq2 : (x0).toInt ≠ 106 := i32_ne q2
        have eq3 : (x0).toInt ≠ 114 := i32_ne q3
        refine v_look (off := 41) 42 G dX3_partOf_1 (by decide) (by simp [Op.lookupswitch.offset, eq1, eq2, eq3, Ne.symm eq1, Ne.symm eq2, Ne.symm eq3]) (by decide) ?_
        refine v_iload_n G dX3_partOf_42 rfl ?_
        obtain ⟨v5, q4, h⟩ := bi_ h
        refine v_callS0 (e_X3_kindOf q4) G my_X3_kindOf w403 w402 dX3_partOf_43 rfl (Nat.le_of_ble_eq_true rfl) rfl (Nat.le_of_ble_eq_true rfl) (Nat.zero_le _) (Nat.zero_le _) ?_
        refine v_if_ne 53 G dX3_partOf_46 (by decide) (fun q6 => ?_) (fun q6 => ?_)
        · rw [if_neg q6] at h
          refine v_iconst G (3 : Int32) dX3_partOf_53 (by decide) ?_
          cases h
          exact v_iret G F dX3_partOf_54 rfl (Nat.le_refl _)
        · rw [if_pos q6] at h
          refine v_iconst G (-1 : Int32) dX3_partOf_49 (by decide) ?_
          refine v_goto 54 G dX3_partOf_50 (by decide) ?_
          cases h
          exact v_iret G F dX3_partOf_54 rfl (Nat.le_refl _)
/-! X3_add -/
def m_X3_add (M : mM) (x0 : Nat) (x1 : Int32) (x2 : Int32) : Option mM :=
  if x1 = (0 : Int32) then (
    (gR M x0 3 1).bind fun b2 =>
    (gI M x0 3 6).bind fun v4 =>
    (pI M b2 5 0 v4).bind fun M6 =>
    some M6
  ) else
  if x1 = (1 : Int32) then (
    (gR M x0 3 1).bind fun b9 =>
    (gR M b9 5 5).bind fun b11 =>
    (gR M x0 3 1).bind fun b13 =>
    (gI M b13 5 1).bind fun v15 =>
    (gI M x0 3 6).bind fun v17 =>
    (stI M b11 v15 v17).bind fun M19 =>
    (gR M19 x0 3 1).bind fun b21 =>
    (gI M19 b21 5 1).bind fun v23 =>
    (pI M19 b21 5 1 (v23 + (1 : Int32))).bind fun M25 =>
    some M25
  ) else
  if x1 = (2 : Int32) then (
    (gR M x0 3 1).bind fun b28 =>
    (gR M b28 5 6).bind fun b30 =>
    (gR M x0 3 1).bind fun b32 =>
    (gI M b32 5 2).bind fun v34 =>
    (gI M x0 3 6).bind fun v36 =>
    (stI M b30 v34 v36).bind fun M38 =>
    (gR M38 x0 3 1).bind fun b40 =>
    (gI M38 b40 5 2).bind fun v42 =>
    (pI M38 b40 5 2 (v42 + (1 : Int32))).bind fun M44 =>
    some M44
  ) else
  (
    (gR M x0 3 1).bind fun b46 =>
    (gR M b46 5 7).bind fun b48 =>
    (gR M x0 3 1).bind fun b50 =>
    (gI M b50 5 3).bind fun v52 =>
    (m_X3_kindOf M x2).bind fun v55 =>
    (stI M b48 v52 v55).bind fun M56 =>
    (gR M56 x0 3 1).bind fun b58 =>
    (gR M56 b58 5 8).bind fun b60 =>
    (gR M56 x0 3 1).bind fun b62 =>
    (gI M56 b62 5 3).bind fun v64 =>
    (gI M56 x0 3 6).bind fun v66 =>
    (stI M56 b60 v64 v66).bind fun M68 =>
    (gR M68 x0 3 1).bind fun b70 =>
    (gR M68 b70 5 9).bind fun b72 =>
    (gR M68 x0 3 1).bind fun b74 =>
    (gI M68 b74 5 3).bind fun v76 =>
    (gR M68 x0 3 1).bind fun b78 =>
    (gI M68 b78 5 3).bind fun v80 =>
    (stI M68 b72 v76 v80).bind fun M82 =>
    (gR M82 x0 3 1).bind fun b84 =>
    (gI M82 b84 5 3).bind fun v86 =>
    (pI M82 b84 5 3 (v86 + (1 : Int32))).bind fun M88 =>
    some M88
  )
theorem e_X3_add {Z : zZ} {M : mM} {N : mM} {x0 : Nat} {x1 : Int32} {x2 : Int32} (h : m_X3_add M x0 x1 x2 = some N) : EM Z yX3_add cX3_add 3 none 1 0 0 [.ref x0, .int x1, .int x2] M N none := by
  refine EM_of my_X3_add (Nat.le_of_ble_eq_true rfl) (fun X G F => ?_)
  show V X Z M 0 0 0 [some (.ref x0), some (.int x1), some (.int x2)] []
  unfold m_X3_add at h
  refine v_iload_n G dX3_add_0 rfl ?_
  rcases Decidable.em (x1 = (0 : Int32)) with q1 | q1
  · rw [if_pos q1] at h
    refine v_tabI (off := 27) 28 G dX3_add_1 (by rw [q1]; decide) (by rw [q1]; decide) (by rw [q1]; rfl) (by decide) ?_
    refine v_aload_n G dX3_add_28 rfl ?_
    obtain ⟨b2, q3, h⟩ := bi_ h
    refine v_getR (f := 1) G cl3 dX3_add_29 w175 (by decide) (by decide) q3 ?_
    refine v_aload_n G dX3_add_32 rfl ?_
    obtain ⟨v4, q5, h⟩ := bi_ h
    refine v_getI (f := 6) G cl3 dX3_add_33 w184 (by decide) (by decide) q5 ?_
    obtain ⟨M6, q7, h⟩ := bi_ h
    refine v_putI (f := 0) G cl5 dX3_add_36 w86 (by decide) (by decide) (by decide) rfl rfl q7 ?_
    refine v_goto 185 G dX3_add_39 (by decide) ?_
    cases h
    exact v_vret G F dX3_add_185 rfl (Nat.le_refl _)
  · rw [if_neg q1] at h
    rcases Decidable.em (x1 = (1 : Int32)) with q8 | q8
    · rw [if_pos q8] at h
      refine v_tabI (off := 41) 42 G dX3_add_1 (by rw [q8]; decide) (by rw [q8]; decide) (by rw [q8]; rfl) (by decide) ?_
      refine v_aload_n G dX3_add_42 rfl ?_
      obtain ⟨b9, q10, h⟩ := bi_ h
      refine v_getR (f := 1) G cl3 dX3_add_43 w175 (by decide) (by decide) q10 ?_
      obtain ⟨b11, q12, h⟩ := bi_ h
      refine v_getR (f := 5) G cl5 dX3_add_46 w104 (by decide) (by decide) q12 ?_
      refine v_aload_n G dX3_add_49 rfl ?_
      obtain ⟨b13, q14, h⟩ := bi_ h
      refine v_getR (f := 1) G cl3 dX3_add_50 w175 (by decide) (by decide) q14 ?_
      obtain ⟨v15, q16, h⟩ := bi_ h
      refine v_getI (f := 1) G cl5 dX3_add_53 w89 (by decide) (by decide) q16 ?_
      refine v_aload_n G dX3_add_56 rfl ?_
      obtain ⟨v17, q18, h⟩ := bi_ h
      refine v_getI (f := 6) G cl3 dX3_add_57 w184 (by decide) (by decide) q18 ?_
      obtain ⟨M19, q20, h⟩ := bi_ h
      refine v_iast G dX3_add_60 q20 ?_
      refine v_aload_n G dX3_add_61 rfl ?_
      obtain ⟨b21, q22, h⟩ := bi_ h
      refine v_getR (f := 1) G cl3 dX3_add_62 w175 (by decide) (by decide) q22 ?_
      refine v_dup G dX3_add_65 rfl ?_
      obtain ⟨v23, q24, h⟩ := bi_ h
      refine v_getI (f := 1) G cl5 dX3_add_66 w89 (by decide) (by decide) q24 ?_
      refine v_iconst G (1 : Int32) dX3_add_69 (by decide) ?_
      refine v_iadd G dX3_add_70 ?_
      obtain ⟨M25, q26, h⟩ := bi_ h
      refine v_putI (f := 1) G cl5 dX3_add_71 w89 (by decide) (by decide) (by decide) rfl rfl q26 ?_
      refine v_goto 185 G dX3_add_74 (by decide) ?_
      cases h
      exact v_vret G F dX3_add_185 rfl (Nat.le_refl _)
    · rw [if_neg q8] at h
      rcases Decidable.em (x1 = (2 : Int32)) with q27 | q27
      · rw [if_pos q27] at h
        refine v_tabI (off := 76) 77 G dX3_add_1 (by rw [q27]; decide) (by rw [q27]; decide) (by rw [q27]; rfl) (by decide) ?_
        refine v_aload_n G dX3_add_77 rfl ?_
        obtain ⟨b28, q29, h⟩ := bi_ h
        refine v_getR (f := 1) G cl3 dX3_add_78 w175 (by decide) (by decide) q29 ?_
        obtain ⟨b30, q31, h⟩ := bi_ h
        refine v_getR (f := 6) G cl5 dX3_add_81 w107 (by decide) (by decide) q31 ?_
        refine v_aload_n G dX3_add_84 rfl ?_
        obtain ⟨b32, q33, h⟩ := bi_ h
        refine v_getR (f := 1) G cl3 dX3_add_85 w175 (by decide) (by decide) q33 ?_
        obtain ⟨v34, q35, h⟩ := bi_ h
        refine v_getI (f := 2) G cl5 dX3_add_88 w93 (by decide) (by decide) q35 ?_
        refine v_aload_n G dX3_add_91 rfl ?_
        obtain ⟨v36, q37, h⟩ := bi_ h
        refine v_getI (f := 6) G cl3 dX3_add_92 w184 (by decide) (by decide) q37 ?_
        obtain ⟨M38, q39, h⟩ := bi_ h
        refine v_iast G dX3_add_95 q39 ?_
        refine v_aload_n G dX3_add_96 rfl ?_
        obtain ⟨b40, q41, h⟩ := bi_ h
        refine v_getR (f := 1) G cl3 dX3_add_97 w175 (by decide) (by decide) q41 ?_
        refine v_dup G dX3_add_100 rfl ?_
        obtain ⟨v42, q43, h⟩ := bi_ h
        refine v_getI (f := 2) G cl5 dX3_add_101 w93 (by decide) (by decide) q43 ?_
        refine v_iconst G (1 : Int32) dX3_add_104 (by decide) ?_
        refine v_iadd G dX3_add_105 ?_
        obtain ⟨M44, q45, h⟩ := bi_ h
        refine v_putI (f := 2) G cl5 dX3_add_106 w93 (by decide) (by decide) (by decide) rfl rfl q45 ?_
        refine v_goto 185 G dX3_add_109 (by decide) ?_
        cases h
        exact v_vret G F dX3_add_185 rfl (Nat.le_refl _)
      · rw [if_neg q27] at h
        have eq1 : (x1).toInt ≠ 0 := i32_ne q1
        have eq8 : (x1).toInt ≠ 1 := i32_ne q8
        have eq27 : (x1).toInt ≠ 2 := i32_ne q27
        refine v_tabO 112 G dX3_add_1 (by omega) (by decide) ?_
        refine v_aload_n G dX3_add_112 rfl ?_
        obtain ⟨b46, q47, h⟩ := bi_ h
        refine v_getR (f := 1) G cl3 dX3_add_113 w175 (by decide) (by decide) q47 ?_
        obtain ⟨b48, q49, h⟩ := bi_ h
        refine v_getR (f := 7) G cl5 dX3_add_116 w112 (by decide) (by decide) q49 ?_
        refine v_aload_n G dX3_add_119 rfl ?_
        obtain ⟨b50, q51, h⟩ := bi_ h
        refine v_getR (f := 1) G cl3 dX3_add_120 w175 (by decide) (by decide) q51 ?_
        obtain ⟨v52, q53, h⟩ := bi_ h
        refine v_getI (f := 3) G cl5 dX3_add_123 w99 (by decide) (by decide) q53 ?_
        refine v_iload_n G dX3_add_126 rfl ?_
        obtain ⟨v55, q54, h⟩ := bi_ h
        refine v_callS0 (e_X3_kindOf q54) G my_X3_kindOf w403 w402 dX3_add_127 rfl (Nat.le_of_ble_eq_true rfl) rfl (Nat.le_of_ble_eq_true rfl) (Nat.zero_le _) (Nat.zero_le _) ?_
        obtain ⟨M56, q57, h⟩ := bi_ h
        refine v_iast G dX3_add_130 q57 ?_
        refine v_aload_n G dX3_add_131 rfl ?_
        obtain ⟨b58, q59, h⟩ := bi_ h
        refine v_getR (f := 1) G cl3 dX3_add_132 w175 (by decide) (by decide) q59 ?_
        obtain ⟨b60, q61, h⟩ := bi_ h
        refine v_getR (f := 8) G cl5 dX3_add_135 w116 (by decide) (by decide) q61 ?_
        refine v_aload_n G dX3_add_138 rfl ?_
        obtain ⟨b62, q63, h⟩ := bi_ h
        refine v_getR (f := 1) G cl3 dX3_add_139 w175 (by decide) (by decide) q63 ?_
        obtain ⟨v64, q65, h⟩ := bi_ h
        refine v_getI (f := 3) G cl5 dX3_add_142 w99 (by decide) (by decide) q65 ?_
        refine v_aload_n G dX3_add_145 rfl ?_
        obtain ⟨v66, q67, h⟩ := bi_ h
        refine v_getI (f := 6) G cl3 dX3_add_146 w184 (by decide) (by decide) q67 ?_
        obtain ⟨M68, q69, h⟩ := bi_ h
        refine v_iast G dX3_add_149 q69 ?_
        refine v_aload_n G dX3_add_150 rfl ?_
        obtain ⟨b70, q71, h⟩ := bi_ h
        refine v_getR (f := 1) G cl3 dX3_add_151 w175 (by decide) (by decide) q71 ?_
        obtain ⟨b72, q73, h⟩ := bi_ h
        refine v_getR (f := 9) G cl5 dX3_add_154 w120 (by decide) (by decide) q73 ?_
        refine v_aload_n G dX3_add_157 rfl ?_
        obtain ⟨b74, q75, h⟩ := bi_ h
        refine v_getR (f := 1) G cl3 dX3_add_158 w175 (by decide) (by decide) q75 ?_
        obtain ⟨v76, q77, h⟩ := bi_ h
        refine v_getI (f := 3) G cl5 dX3_add_161 w99 (by decide) (by decide) q77 ?_
        refine v_aload_n G dX3_add_164 rfl ?_
        obtain ⟨b78, q79, h⟩ := bi_ h
        refine v_getR (f := 1) G cl3 dX3_add_165 w175 (by decide) (by decide) q79 ?_
        obtain ⟨v80, q81, h⟩ := bi_ h
        refine v_getI (f := 3) G cl5 dX3_add_168 w99 (by decide) (by decide) q81 ?_
        obtain ⟨M82, q83, h⟩ := bi_ h
        refine v_iast G dX3_add_171 q83 ?_
        refine v_aload_n G dX3_add_172 rfl ?_
        obtain ⟨b84, q85, h⟩ := bi_ h
        refine v_getR (f := 1) G cl3 dX3_add_173 w175 (by decide) (by decide) q85 ?_
        refine v_dup G dX3_add_176 rfl ?_
        obtain ⟨v86, q87, h⟩ := bi_ h
        refine v_getI (f := 3) G cl5 dX3_add_177 w99 (by decide) (by decide) q87 ?_
        refine v_iconst G (1 : Int32) dX3_add_180 (by decide) ?_
        refine v_iadd G dX3_add_181 ?_
        obtain ⟨M88, q89, h⟩ := bi_ h
        refine v_putI (f := 3) G cl5 dX3_add_182 w99 (by decide) (by decide) (by decide) rfl rfl q89 ?_
        cases h
        exact v_vret G F dX3_add_185 rfl (Nat.le_refl _)
/-! X3_isFull -/
def m_X3_isFull (M : mM) (x0 : Nat) (x1 : Int32) : Option Int32 :=
  if x1 = (1 : Int32) then (
    (gR M x0 3 1).bind fun b2 =>
    (gI M b2 5 1).bind fun v4 =>
    if v4 < (6 : Int32) then (
      some (0 : Int32)
    ) else (
      some (1 : Int32)
    )
  ) else
  if x1 = (2 : Int32) then (
    (gR M x0 3 1).bind fun b8 =>
    (gI M b8 5 2).bind fun v10 =>
    if v10 < (8 : Int32) then (
      some (0 : Int32)
    ) else (
      some (1 : Int32)
    )
  ) else
  if x1 = (3 : Int32) then (
    (gR M x0 3 1).bind fun b14 =>
    (gI M b14 5 3).bind fun v16 =>
    if v16 < (6 : Int32) then (
      some (0 : Int32)
    ) else (
      some (1 : Int32)
    )
  ) else
  (
    some (0 : Int32)
  )
theorem e_X3_isFull {Z : zZ} {M : mM} {x0 : Nat} {x1 : Int32} {r : Int32} (h : m_X3_isFull M x0 x1 = some r) : EM Z yX3_isFull cX3_isFull 2 (some .boolean) 0 0 0 [.ref x0, .int x1] M M (some (.int r)) := by
  refine EM_of my_X3_isFull (Nat.le_of_ble_eq_true rfl) (fun X G F => ?_)
  show V X Z M 0 0 0 [some (.ref x0), some (.int x1)] []
  unfold m_X3_isFull at h
  refine v_iload_n G dX3_isFull_0 rfl ?_
  rcases Decidable.em (x1 = (1 : Int32)) with q1 | q1
  · rw [if_pos q1] at h
    refine v_tabI (off := 27) 28 G dX3_isFull_1 (by rw [q1]; decide) (by rw [q1]; decide) (by rw [q1]; rfl) (by decide) ?_
    refine v_aload_n G dX3_isFull_28 rfl ?_
    obtain ⟨b2, q3, h⟩ := bi_ h
    refine v_getR (f := 1) G cl3 dX3_isFull_29 w175 (by decide) (by decide) q3 ?_
    obtain ⟨v4, q5, h⟩ := bi_ h
    refine v_getI (f := 1) G cl5 dX3_isFull_32 w89 (by decide) (by decide) q5 ?_
    refine v_bipush G (6 : Int32) dX3_isFull_35 (by decide) ?_
    refine v_ic_lt 44 G dX3_isFull_37 (by decide) (fun q6 => ?_) (fun q6 => ?_)
    · rw [if_pos q6] at h
      refine v_iconst G (0 : Int32) dX3_isFull_44 (by decide) ?_
      cases h
      exact v_zret G F rfl dX3_isFull_45 rfl (Nat.le_refl _)
    · rw [if_neg q6] at h
      refine v_iconst G (1 : Int32) dX3_isFull_40 (by decide) ?_
      refine v_goto 45 G dX3_isFull_41 (by decide) ?_
      cases h
      exact v_zret G F rfl dX3_isFull_45 rfl (Nat.le_refl _)
  · rw [if_neg q1] at h
    rcases Decidable.em (x1 = (2 : Int32)) with q7 | q7
    · rw [if_pos q7] at h
      refine v_tabI (off := 45) 46 G dX3_isFull_1 (by rw [q7]; decide) (by rw [q7]; decide) (by rw [q7]; rfl) (by decide) ?_
      refine v_aload_n G dX3_isFull_46 rfl ?_
      obtain ⟨b8, q9, h⟩ := bi_ h
      refine v_getR (f := 1) G cl3 dX3_isFull_47 w175 (by decide) (by decide) q9 ?_
      obtain ⟨v10, q11, h⟩ := bi_ h
      refine v_getI (f := 2) G cl5 dX3_isFull_50 w93 (by decide) (by decide) q11 ?_
      refine v_bipush G (8 : Int32) dX3_isFull_53 (by decide) ?_
      refine v_ic_lt 62 G dX3_isFull_55 (by decide) (fun q12 => ?_) (fun q12 => ?_)
      · rw [if_pos q12] at h
        refine v_iconst G (0 : Int32) dX3_isFull_62 (by decide) ?_
        cases h
        exact v_zret G F rfl dX3_isFull_63 rfl (Nat.le_refl _)
      · rw [if_neg q12] at h
        refine v_iconst G (1 : Int32) dX3_isFull_58 (by decide) ?_
        refine v_goto 63 G dX3_isFull_59 (by decide) ?_
        cases h
        exact v_zret G F rfl dX3_isFull_63 rfl (Nat.le_refl _)
    · rw [if_neg q7] at h
      rcases Decidable.em (x1 = (3 : Int32)) with q13 | q13
      · rw [if_pos q13] at h
        refine v_tabI (off := 63) 64 G dX3_isFull_1 (by rw [q13]; decide) (by rw [q13]; decide) (by rw [q13]; rfl) (by decide) ?_
        refine v_aload_n G dX3_isFull_64 rfl ?_
        obtain ⟨b14, q15, h⟩ := bi_ h
        refine v_getR (f := 1) G cl3 dX3_isFull_65 w175 (by decide) (by decide) q15 ?_
        obtain ⟨v16, q17, h⟩ := bi_ h
        refine v_getI (f := 3) G cl5 dX3_isFull_68 w99 (by decide) (by decide) q17 ?_
        refine v_bipush G (6 : Int32) dX3_isFull_71 (by decide) ?_
        refine v_ic_lt 80 G dX3_isFull_73 (by decide) (fun q18 => ?_) (fun q18 => ?_)
        · rw [if_pos q18] at h
          refine v_iconst G (0 : Int32) dX3_isFull_80 (by decide) ?_
          cases h
          exact v_zret G F rfl dX3_isFull_81 rfl (Nat.le_refl _)
        · rw [if_neg q18] at h
          refine v_iconst G (1 : Int32) dX3_isFull_76 (by decide) ?_
          refine v_goto 81 G dX3_isFull_77 (by decide) ?_
          cases h
          exact v_zret G F rfl dX3_isFull_81 rfl (Nat.le_refl _)
      · rw [if_neg q13] at h
        have eq1 : (x1).toInt ≠ 1 := i32_ne q1
        have eq7 : (x1).toInt ≠ 2 := i32_ne q7
        have eq13 : (x1).toInt ≠ 3 := i32_ne q13
        refine v_tabO 82 G dX3_isFull_1 (by omega) (by decide) ?_
        refine v_iconst G (0 : Int32) dX3_isFull_82 (by decide) ?_
        cases h
        exact v_zret G F rfl dX3_isFull_83 rfl (Nat.le_refl _)
/-! X3_limit -/
def m_X3_limit (M : mM) (x0 : Nat) (x1 : Int32) : Option Int32 :=
  if x1 = (0 : Int32) then (
    some (7 : Int32)
  ) else
  if x1 = (2 : Int32) then (
    (gR M x0 3 1).bind fun b3 =>
    (gI M b3 5 1).bind fun v5 =>
    some v5
  ) else
  (
    (gR M x0 3 1).bind fun b7 =>
    (gI M b7 5 1).bind fun v9 =>
    some ((1 : Int32) <<< (v9 &&& 31))
  )
theorem e_X3_limit {Z : zZ} {M : mM} {x0 : Nat} {x1 : Int32} {r : Int32} (h : m_X3_limit M x0 x1 = some r) : EM Z yX3_limit cX3_limit 2 (some .int) 0 0 0 [.ref x0, .int x1] M M (some (.int r)) := by
  refine EM_of my_X3_limit (Nat.le_of_ble_eq_true rfl) (fun X G F => ?_)
  show V X Z M 0 0 0 [some (.ref x0), some (.int x1)] []
  unfold m_X3_limit at h
  refine v_iload_n G dX3_limit_0 rfl ?_
  rcases Decidable.em (x1 = (0 : Int32)) with q1 | q1
  · rw [if_pos q1] at h
    refine v_look (off := 27) 28 G dX3_limit_1 (by decide) (by rw [q1]; rfl) (by decide) ?_
    refine v_bipush G (7 : Int32) dX3_limit_28 (by decide) ?_
    cases h
    exact v_iret G F dX3_limit_30 rfl (Nat.le_refl _)
  · rw [if_neg q1] at h
    rcases Decidable.em (x1 = (2 : Int32)) with q2 | q2
    · rw [if_pos q2] at h
      refine v_look (off := 30) 31 G dX3_limit_1 (by decide) (by rw [q2]; rfl) (by decide) ?_
      refine v_aload_n G dX3_limit_31 rfl ?_
      obtain ⟨b3, q4, h⟩ := bi_ h
      refine v_getR (f := 1) G cl3 dX3_limit_32 w175 (by decide) (by decide) q4 ?_
      obtain ⟨v5, q6, h⟩ := bi_ h
      refine v_getI (f := 1) G cl5 dX3_limit_35 w89 (by decide) (by decide) q6 ?_
      cases h
      exact v_iret G F dX3_limit_38 rfl (Nat.le_refl _)
    · rw [if_neg q2] at h
      have eq1 : (x1).toInt ≠ 0 := i32_ne q1
      have eq2 : (x1).toInt ≠ 2 := i32_ne q2
      refine v_look (off := 38) 39 G dX3_limit_1 (by decide) (by simp [Op.lookupswitch.offset, eq1, eq2, Ne.symm eq1, Ne.symm eq2]) (by decide) ?_
      refine v_iconst G (1 : Int32) dX3_limit_39 (by decide) ?_
      refine v_aload_n G dX3_limit_40 rfl ?_
      obtain ⟨b7, q8, h⟩ := bi_ h
      refine v_getR (f := 1) G cl3 dX3_limit_41 w175 (by decide) (by decide) q8 ?_
      obtain ⟨v9, q10, h⟩ := bi_ h
      refine v_getI (f := 1) G cl5 dX3_limit_44 w89 (by decide) (by decide) q10 ?_
      refine v_ishl G dX3_limit_47 ?_
      cases h
      exact v_iret G F dX3_limit_48 rfl (Nat.le_refl _)
/-! X3_readPart -/
def m_X3_readPart (M : mM) (x0 : Nat) (x1 : Int32) (x2 : Int32) : Option (mM × Int32) :=
  if x1 = (-1 : Int32) then (
    some (M, (1 : Int32))
  ) else (
    if x1 = (x2 + (1 : Int32)) then (
      (gI M x0 3 4).bind fun v3 =>
      if isO M x0 3 = true then
      (m_X3_isFull M x0 x1).bind fun v6 =>
      if v6 = (0 : Int32) then (
        if isO M x0 3 = true then
        (m_X3_goOn M x0).bind fun M9 =>
        (gI M9 x0 3 4).bind fun v10 =>
        if v10 = (-2 : Int32) then (
          (gI M9 x0 3 6).bind fun v13 =>
          if isO M9 x0 3 = true then
          (m_X3_limit M9 x0 x1).bind fun v16 =>
          if v13 < v16 then (
            if isO M9 x0 3 = true then
            (m_X3_add M9 x0 x1 v3).bind fun M19 =>
            if isO M19 x0 3 = true then
            (m_X3_goOn M19 x0).bind fun M21 =>
            (gI M21 x0 3 4).bind fun v22 =>
            if v22 = (59 : Int32) then (
              some (M21, (0 : Int32))
            ) else (
              some (M21, (1 : Int32))
            )
            else none
            else none
          ) else (
            some (M9, (2 : Int32))
          )
          else none
        ) else (
          some (M9, (1 : Int32))
        )
        else none
      ) else (
        some (M, (3 : Int32))
      )
      else none
    ) else (
      if x1 = x2 then (
        if x1 = (0 : Int32) then (
          some (M, (1 : Int32))
        ) else (
          (gI M x0 3 4).bind fun v32 =>
          if isO M x0 3 = true then
          (m_X3_isFull M x0 x1).bind fun v35 =>
          if v35 = (0 : Int32) then (
            if isO M x0 3 = true then
            (m_X3_goOn M x0).bind fun M38 =>
            (gI M38 x0 3 4).bind fun v39 =>
            if v39 = (-2 : Int32) then (
              (gI M38 x0 3 6).bind fun v42 =>
              if isO M38 x0 3 = true then
              (m_X3_limit M38 x0 x1).bind fun v45 =>
              if v42 < v45 then (
                if isO M38 x0 3 = true then
                (m_X3_add M38 x0 x1 v32).bind fun M48 =>
                if isO M48 x0 3 = true then
                (m_X3_goOn M48 x0).bind fun M50 =>
                (gI M50 x0 3 4).bind fun v51 =>
                if v51 = (59 : Int32) then (
                  some (M50, (0 : Int32))
                ) else (
                  some (M50, (1 : Int32))
                )
                else none
                else none
              ) else (
                some (M38, (2 : Int32))
              )
              else none
            ) else (
              some (M38, (1 : Int32))
            )
            else none
          ) else (
            some (M, (3 : Int32))
          )
          else none
        )
      ) else (
        some (M, (1 : Int32))
      )
    )
  )
theorem e_X3_readPart {Z : zZ} {M : mM} {N : mM} {x0 : Nat} {x1 : Int32} {x2 : Int32} {r : Int32} (h : m_X3_readPart M x0 x1 x2 = some (N, r)) : EM Z yX3_readPart cX3_readPart 4 (some .int) 3 0 0 [.ref x0, .int x1, .int x2] M N (some (.int r)) := by
  refine EM_of my_X3_readPart (Nat.le_of_ble_eq_true rfl) (fun X G F => ?_)
  show V X Z M 0 0 0 [some (.ref x0), some (.int x1), some (.int x2), none] []
  unfold m_X3_readPart at h
  refine v_iload_n G dX3_readPart_0 rfl ?_
  refine v_iconst G (-1 : Int32) dX3_readPart_1 (by decide) ?_
  refine v_ic_eq 21 G dX3_readPart_2 (by decide) (fun q1 => ?_) (fun q1 => ?_)
  · rw [if_pos q1] at h
    refine v_iconst G (1 : Int32) dX3_readPart_21 (by decide) ?_
    cases h
    exact v_iret G F dX3_readPart_22 rfl (Nat.le_refl _)
  · rw [if_neg q1] at h
    refine v_iload_n G dX3_readPart_5 rfl ?_
    refine v_iload_n G dX3_readPart_6 rfl ?_
    refine v_iconst G (1 : Int32) dX3_readPart_7 (by decide) ?_
    refine v_iadd G dX3_readPart_8 ?_
    refine v_ic_eq 23 G dX3_readPart_9 (by decide) (fun q2 => ?_) (fun q2 => ?_)
    · rw [if_pos q2] at h
      refine v_aload_n G dX3_readPart_23 rfl ?_
      obtain ⟨v3, q4, h⟩ := bi_ h
      refine v_getI (f := 4) G cl3 dX3_readPart_24 w181 (by decide) (by decide) q4 ?_
      refine v_istore_n [some (.ref x0), some (.int x1), some (.int x2), some (.int v3)] G dX3_readPart_27 (Nat.le_of_ble_eq_true rfl) rfl rfl ?_
      refine v_aload_n G dX3_readPart_28 rfl ?_
      refine v_iload_n G dX3_readPart_29 rfl ?_
      obtain ⟨q29, h⟩ := if_s h
      obtain ⟨v6, q5, h⟩ := bi_ h
      refine v_callV0 (e_X3_isFull q5) G cl3 my_X3_isFull rfl w411 w6 w409 dX3_readPart_30 q29 rfl (Nat.le_of_ble_eq_true rfl) rfl (Nat.le_of_ble_eq_true rfl) (Nat.zero_le _) (Nat.zero_le _) ?_
      refine v_if_eq 38 G dX3_readPart_33 (by decide) (fun q7 => ?_) (fun q7 => ?_)
      · rw [if_pos q7] at h
        refine v_aload_n G dX3_readPart_38 rfl ?_
        obtain ⟨q28, h⟩ := if_s h
        obtain ⟨M9, q8, h⟩ := bi_ h
        refine v_callV0 (e_X3_goOn q8) G cl3 my_X3_goOn rfl w390 w3 w388 dX3_readPart_39 q28 rfl (Nat.le_of_ble_eq_true rfl) rfl (Nat.le_of_ble_eq_true rfl) (Nat.zero_le _) (Nat.zero_le _) ?_
        refine v_aload_n G dX3_readPart_42 rfl ?_
        obtain ⟨v10, q11, h⟩ := bi_ h
        refine v_getI (f := 4) G cl3 dX3_readPart_43 w181 (by decide) (by decide) q11 ?_
        refine v_bipush G (-2 : Int32) dX3_readPart_46 (by decide) ?_
        refine v_ic_eq 53 G dX3_readPart_48 (by decide) (fun q12 => ?_) (fun q12 => ?_)
        · rw [if_pos q12] at h
          refine v_aload_n G dX3_readPart_53 rfl ?_
          obtain ⟨v13, q14, h⟩ := bi_ h
          refine v_getI (f := 6) G cl3 dX3_readPart_54 w184 (by decide) (by decide) q14 ?_
          refine v_aload_n G dX3_readPart_57 rfl ?_
          refine v_iload_n G dX3_readPart_58 rfl ?_
          obtain ⟨q27, h⟩ := if_s h
          obtain ⟨v16, q15, h⟩ := bi_ h
          refine v_callV0 (e_X3_limit q15) G cl3 my_X3_limit rfl w415 w7 w413 dX3_readPart_59 q27 rfl (Nat.le_of_ble_eq_true rfl) rfl (Nat.le_of_ble_eq_true rfl) (Nat.zero_le _) (Nat.zero_le _) ?_
          refine v_ic_lt 67 G dX3_readPart_62 (by decide) (fun q17 => ?_) (fun q17 => ?_)
          · rw [if_pos q17] at h
            refine v_aload_n G dX3_readPart_67 rfl ?_
            refine v_iload_n G dX3_readPart_68 rfl ?_
            refine v_iload_n G dX3_readPart_69 rfl ?_
            obtain ⟨q26, h⟩ := if_s h
            obtain ⟨M19, q18, h⟩ := bi_ h
            refine v_callV0 (e_X3_add q18) G cl3 my_X3_add rfl w419 w8 w417 dX3_readPart_70 q26 rfl (Nat.le_of_ble_eq_true rfl) rfl (Nat.le_of_ble_eq_true rfl) (Nat.zero_le _) (Nat.zero_le _) ?_
            refine v_aload_n G dX3_readPart_73 rfl ?_
            obtain ⟨q25, h⟩ := if_s h
            obtain ⟨M21, q20, h⟩ := bi_ h
            refine v_callV0 (e_X3_goOn q20) G cl3 my_X3_goOn rfl w390 w3 w388 dX3_readPart_74 q25 rfl (Nat.le_of_ble_eq_true rfl) rfl (Nat.le_of_ble_eq_true rfl) (Nat.zero_le _) (Nat.zero_le _) ?_
            refine v_aload_n G dX3_readPart_77 rfl ?_
            obtain ⟨v22, q23, h⟩ := bi_ h
            refine v_getI (f := 4) G cl3 dX3_readPart_78 w181 (by decide) (by decide) q23 ?_
            refine v_bipush G (59 : Int32) dX3_readPart_81 (by decide) ?_
            refine v_ic_ne 90 G dX3_readPart_83 (by decide) (fun q24 => ?_) (fun q24 => ?_)
            · rw [if_neg q24] at h
              refine v_iconst G (1 : Int32) dX3_readPart_90 (by decide) ?_
              cases h
              exact v_iret G F dX3_readPart_91 rfl (Nat.le_refl _)
            · rw [if_pos q24] at h
              refine v_iconst G (0 : Int32) dX3_readPart_86 (by decide) ?_
              refine v_goto 91 G dX3_readPart_87 (by decide) ?_
              cases h
              exact v_iret G F dX3_readPart_91 rfl (Nat.le_refl _)
          · rw [if_neg q17] at h
            refine v_iconst G (2 : Int32) dX3_readPart_65 (by decide) ?_
            cases h
            exact v_iret G F dX3_readPart_66 rfl (Nat.le_refl _)
        · rw [if_neg q12] at h
          refine v_iconst G (1 : Int32) dX3_readPart_51 (by decide) ?_
          cases h
          exact v_iret G F dX3_readPart_52 rfl (Nat.le_refl _)
      · rw [if_neg q7] at h
        refine v_iconst G (3 : Int32) dX3_readPart_36 (by decide) ?_
        cases h
        exact v_iret G F dX3_readPart_37 rfl (Nat.le_refl _)
    · rw [if_neg q2] at h
      refine v_iload_n G dX3_readPart_12 rfl ?_
      refine v_iload_n G dX3_readPart_13 rfl ?_
      refine v_ic_ne 21 G dX3_readPart_14 (by decide) (fun q30 => ?_) (fun q30 => ?_)
      · rw [if_neg q30] at h
        refine v_iconst G (1 : Int32) dX3_readPart_21 (by decide) ?_
        cases h
        exact v_iret G F dX3_readPart_22 rfl (Nat.le_refl _)
      · rw [if_pos q30] at h
        refine v_iload_n G dX3_readPart_17 rfl ?_
        refine v_if_ne 23 G dX3_readPart_18 (by decide) (fun q31 => ?_) (fun q31 => ?_)
        · rw [if_neg q31] at h
          refine v_aload_n G dX3_readPart_23 rfl ?_
          obtain ⟨v32, q33, h⟩ := bi_ h
          refine v_getI (f := 4) G cl3 dX3_readPart_24 w181 (by decide) (by decide) q33 ?_
          refine v_istore_n [some (.ref x0), some (.int x1), some (.int x2), some (.int v32)] G dX3_readPart_27 (Nat.le_of_ble_eq_true rfl) rfl rfl ?_
          refine v_aload_n G dX3_readPart_28 rfl ?_
          refine v_iload_n G dX3_readPart_29 rfl ?_
          obtain ⟨q58, h⟩ := if_s h
          obtain ⟨v35, q34, h⟩ := bi_ h
          refine v_callV0 (e_X3_isFull q34) G cl3 my_X3_isFull rfl w411 w6 w409 dX3_readPart_30 q58 rfl (Nat.le_of_ble_eq_true rfl) rfl (Nat.le_of_ble_eq_true rfl) (Nat.zero_le _) (Nat.zero_le _) ?_
          refine v_if_eq 38 G dX3_readPart_33 (by decide) (fun q36 => ?_) (fun q36 => ?_)
          · rw [if_pos q36] at h
            refine v_aload_n G dX3_readPart_38 rfl ?_
            obtain ⟨q57, h⟩ := if_s h
            obtain ⟨M38, q37, h⟩ := bi_ h
            refine v_callV0 (e_X3_goOn q37) G cl3 my_X3_goOn rfl w390 w3 w388 dX3_readPart_39 q57 rfl (Nat.le_of_ble_eq_true rfl) rfl (Nat.le_of_ble_eq_true rfl) (Nat.zero_le _) (Nat.zero_le _) ?_
            refine v_aload_n G dX3_readPart_42 rfl ?_
            obtain ⟨v39, q40, h⟩ := bi_ h
            refine v_getI (f := 4) G cl3 dX3_readPart_43 w181 (by decide) (by decide) q40 ?_
            refine v_bipush G (-2 : Int32) dX3_readPart_46 (by decide) ?_
            refine v_ic_eq 53 G dX3_readPart_48 (by decide) (fun q41 => ?_) (fun q41 => ?_)
            · rw [if_pos q41] at h
              refine v_aload_n G dX3_readPart_53 rfl ?_
              obtain ⟨v42, q43, h⟩ := bi_ h
              refine v_getI (f := 6) G cl3 dX3_readPart_54 w184 (by decide) (by decide) q43 ?_
              refine v_aload_n G dX3_readPart_57 rfl ?_
              refine v_iload_n G dX3_readPart_58 rfl ?_
              obtain ⟨q56, h⟩ := if_s h
              obtain ⟨v45, q44, h⟩ := bi_ h
              refine v_callV0 (e_X3_limit q44) G cl3 my_X3_limit rfl w415 w7 w413 dX3_readPart_59 q56 rfl (Nat.le_of_ble_eq_true rfl) rfl (Nat.le_of_ble_eq_true rfl) (Nat.zero_le _) (Nat.zero_le _) ?_
              refine v_ic_lt 67 G dX3_readPart_62 (by decide) (fun q46 => ?_) (fun q46 => ?_)
              · rw [if_pos q46] at h
                refine v_aload_n G dX3_readPart_67 rfl ?_
                refine v_iload_n G dX3_readPart_68 rfl ?_
                refine v_iload_n G dX3_readPart_69 rfl ?_
                obtain ⟨q55, h⟩ := if_s h
                obtain ⟨M48, q47, h⟩ := bi_ h
                refine v_callV0 (e_X3_add q47) G cl3 my_X3_add rfl w419 w8 w417 dX3_readPart_70 q55 rfl (Nat.le_of_ble_eq_true rfl) rfl (Nat.le_of_ble_eq_true rfl) (Nat.zero_le _) (Nat.zero_le _) ?_
                refine v_aload_n G dX3_readPart_73 rfl ?_
                obtain ⟨q54, h⟩ := if_s h
                obtain ⟨M50, q49, h⟩ := bi_ h
                refine v_callV0 (e_X3_goOn q49) G cl3 my_X3_goOn rfl w390 w3 w388 dX3_readPart_74 q54 rfl (Nat.le_of_ble_eq_true rfl) rfl (Nat.le_of_ble_eq_true rfl) (Nat.zero_le _) (Nat.zero_le _) ?_
                refine v_aload_n G dX3_readPart_77 rfl ?_
                obtain ⟨v51, q52, h⟩ := bi_ h
                refine v_getI (f := 4) G cl3 dX3_readPart_78 w181 (by decide) (by decide) q52 ?_
                refine v_bipush G (59 : Int32) dX3_readPart_81 (by decide) ?_
                refine v_ic_ne 90 G dX3_readPart_83 (by decide) (fun q53 => ?_) (fun q53 => ?_)
                · rw [if_neg q53] at h
                  refine v_iconst G (1 : Int32) dX3_readPart_90 (by decide) ?_
                  cases h
                  exact v_iret G F dX3_readPart_91 rfl (Nat.le_refl _)
                · rw [if_pos q53] at h
                  refine v_iconst G (0 : Int32) dX3_readPart_86 (by decide) ?_
                  refine v_goto 91 G dX3_readPart_87 (by decide) ?_
                  cases h
                  exact v_iret G F dX3_readPart_91 rfl (Nat.le_refl _)
              · rw [if_neg q46] at h
                refine v_iconst G (2 : Int32) dX3_readPart_65 (by decide) ?_
                cases h
                exact v_iret G F dX3_readPart_66 rfl (Nat.le_refl _)
            · rw [if_neg q41] at h
              refine v_iconst G (1 : Int32) dX3_readPart_51 (by decide) ?_
              cases h
              exact v_iret G F dX3_readPart_52 rfl (Nat.le_refl _)
          · rw [if_neg q36] at h
            refine v_iconst G (3 : Int32) dX3_readPart_36 (by decide) ?_
            cases h
            exact v_iret G F dX3_readPart_37 rfl (Nat.le_refl _)
        · rw [if_pos q31] at h
          refine v_iconst G (1 : Int32) dX3_readPart_21 (by decide) ?_
          cases h
          exact v_iret G F dX3_readPart_22 rfl (Nat.le_refl _)
/-! X5_empty -/
def m_X5_empty_L27 {ρ : Type} (k0 : mM → Option ρ) (x0 : Nat) : Nat → mM → Int32 → Option ρ
  | 0, _, _ => none
  | n + 1, M, x1 =>
    if (36 : Int32) ≤ x1 then (
      k0 M
    ) else (
      (gR M x0 5 10).bind fun b12 =>
      (stI M b12 x1 (0 : Int32)).bind fun M14 =>
      m_X5_empty_L27 k0 x0 n M14 (x1 + (1 : Int32))
    )
theorem e_X5_empty_L27 {X : xX} {Z : zZ} {cn sn : Nat} {ρ : Type} {r : ρ} {k0 : mM → Option ρ} (G : ok_ X Z yX5_empty cX5_empty 2 0 0 0) (hcn : cn ≤ 0) (hsn : sn ≤ 0) (x0 : Nat)
    (hx0 : ∀ (N : mM), k0 N = some r → V X Z N cn sn 46 [none, none] []) :
    ∀ (n : Nat) (M : mM) (x1 : Int32), m_X5_empty_L27 k0 x0 n M x1 = some r → V X Z M cn sn 27 [some (.ref x0), some (.int x1)] [] := by
  intro n
  induction n with
  | zero => intro M x1 h; rw [m_X5_empty_L27] at h; cases h
  | succ n ih =>
    intro M x1 h
    rw [m_X5_empty_L27] at h
    refine v_iload_n G dX5_empty_27 rfl ?_
    refine v_bipush G (36 : Int32) dX5_empty_28 (by decide) ?_
    refine v_ic_ge 46 G dX5_empty_30 (by decide) (fun q11 => ?_) (fun q11 => ?_)
    · rw [if_pos q11] at h
      exact v_mask [false, false] rfl (hx0 _ h)
    · rw [if_neg q11] at h
      refine v_aload_n G dX5_empty_33 rfl ?_
      obtain ⟨b12, q13, h⟩ := bi_ h
      refine v_getR (f := 10) G cl5 dX5_empty_34 w121 (by decide) (by decide) q13 ?_
      refine v_iload_n G dX5_empty_37 rfl ?_
      refine v_iconst G (0 : Int32) dX5_empty_38 (by decide) ?_
      obtain ⟨M14, q15, h⟩ := bi_ h
      refine v_iast G dX5_empty_39 q15 ?_
      refine v_iinc (x1 + (1 : Int32)) [some (.ref x0), some (.int (x1 + (1 : Int32)))] G dX5_empty_40 rfl rfl (Nat.le_of_ble_eq_true rfl) rfl rfl ?_
      refine v_goto 27 G dX5_empty_43 (by decide) ?_
      exact v_mask [true, true] rfl (ih _ _ h)
def m_X5_empty (M : mM) (x0 : Nat) : Option mM :=
  (pI M x0 5 0 (0 : Int32)).bind fun M1 =>
  (pI M1 x0 5 1 (0 : Int32)).bind fun M3 =>
  (pI M3 x0 5 2 (0 : Int32)).bind fun M5 =>
  (pI M5 x0 5 3 (0 : Int32)).bind fun M7 =>
  (pI M7 x0 5 4 (0 : Int32)).bind fun M9 =>
  m_X5_empty_L27
    (fun M16 =>
      some M16)
    x0 FU M9 (0 : Int32)
theorem e_X5_empty {Z : zZ} {M : mM} {N : mM} {x0 : Nat} (h : m_X5_empty M x0 = some N) : EM Z yX5_empty cX5_empty 2 none 0 0 0 [.ref x0] M N none := by
  refine EM_of my_X5_empty (Nat.le_of_ble_eq_true rfl) (fun X G F => ?_)
  show V X Z M 0 0 0 [some (.ref x0), none] []
  unfold m_X5_empty at h
  refine v_aload_n G dX5_empty_0 rfl ?_
  refine v_iconst G (0 : Int32) dX5_empty_1 (by decide) ?_
  obtain ⟨M1, q2, h⟩ := bi_ h
  refine v_putI (f := 0) G cl5 dX5_empty_2 w85 (by decide) (by decide) (by decide) rfl rfl q2 ?_
  refine v_aload_n G dX5_empty_5 rfl ?_
  refine v_iconst G (0 : Int32) dX5_empty_6 (by decide) ?_
  obtain ⟨M3, q4, h⟩ := bi_ h
  refine v_putI (f := 1) G cl5 dX5_empty_7 w88 (by decide) (by decide) (by decide) rfl rfl q4 ?_
  refine v_aload_n G dX5_empty_10 rfl ?_
  refine v_iconst G (0 : Int32) dX5_empty_11 (by decide) ?_
  obtain ⟨M5, q6, h⟩ := bi_ h
  refine v_putI (f := 2) G cl5 dX5_empty_12 w92 (by decide) (by decide) (by decide) rfl rfl q6 ?_
  refine v_aload_n G dX5_empty_15 rfl ?_
  refine v_iconst G (0 : Int32) dX5_empty_16 (by decide) ?_
  obtain ⟨M7, q8, h⟩ := bi_ h
  refine v_putI (f := 3) G cl5 dX5_empty_17 w96 (by decide) (by decide) (by decide) rfl rfl q8 ?_
  refine v_aload_n G dX5_empty_20 rfl ?_
  refine v_iconst G (0 : Int32) dX5_empty_21 (by decide) ?_
  obtain ⟨M9, q10, h⟩ := bi_ h
  refine v_putI (f := 4) G cl5 dX5_empty_22 w100 (by decide) (by decide) (by decide) rfl rfl q10 ?_
  refine v_iconst G (0 : Int32) dX5_empty_25 (by decide) ?_
  refine v_istore_n [some (.ref x0), some (.int (0 : Int32))] G dX5_empty_26 (Nat.le_of_ble_eq_true rfl) rfl rfl ?_
  refine v_mask [true, true] rfl ?_
  refine e_X5_empty_L27 G (Nat.zero_le _) (Nat.zero_le _) _ (fun M16 h => ?_) FU _ _ h
  cases h
  exact v_vret G F dX5_empty_46 rfl (Nat.le_refl _)
/-! X3_readTape -/
def m_X3_readTape_L16 {ρ : Type} (k0 : mM → Option ρ) (k1 : mM → Int32 → Option ρ) (k2 : mM → Option ρ) (x0 : Nat) : Nat → mM → Int32 → Int32 → Option ρ
  | 0, _, _, _ => none
  | n + 1, M, x1, x2 =>
    if (120 : Int32) < x2 then (
      k0 M
    ) else (
      if isO M x0 3 = true then
      (m_X3_goOn M x0).bind fun M9 =>
      (gI M9 x0 3 4).bind fun v10 =>
      if v10 = (-1 : Int32) then (
        if x1 = (3 : Int32) then (
          k2 M9
        ) else (
          (gI M9 x0 3 4).bind fun v23 =>
          (m_X3_partOf M9 v23).bind fun v26 =>
          if isO M9 x0 3 = true then
          bd2 (m_X3_readPart M9 x0 v26 x1) fun M28 v29 =>
          if v29 = (0 : Int32) then (
            m_X3_readTape_L16 k0 k1 k2 x0 n M28 v26 (x2 + (1 : Int32))
          ) else (
            k1 M28 v29
          )
          else none
        )
      ) else (
        (gI M9 x0 3 4).bind fun v13 =>
        (m_X3_partOf M9 v13).bind fun v16 =>
        if isO M9 x0 3 = true then
        bd2 (m_X3_readPart M9 x0 v16 x1) fun M18 v19 =>
        if v19 = (0 : Int32) then (
          m_X3_readTape_L16 k0 k1 k2 x0 n M18 v16 (x2 + (1 : Int32))
        ) else (
          k1 M18 v19
        )
        else none
      )
      else none
    )
theorem e_X3_readTape_L16 {X : xX} {Z : zZ} {cn sn : Nat} {ρ : Type} {r : ρ} {k0 : mM → Option ρ} {k1 : mM → Int32 → Option ρ} {k2 : mM → Option ρ} (G : ok_ X Z yX3_readTape cX3_readTape 5 4 0 0) (hcn : cn ≤ 0) (hsn : sn ≤ 0) (x0 : Nat)
    (hx0 : ∀ (N : mM), k0 N = some r → V X Z N cn sn 78 [none, none, none, none, none] [])
    (hx1 : ∀ (N : mM) (z4 : Int32), k1 N z4 = some r → V X Z N cn sn 62 [some (.ref x0), none, none, none, some (.int z4)] [])
    (hx2 : ∀ (N : mM), k2 N = some r → V X Z N cn sn 39 [none, none, none, none, none] []) :
    ∀ (n : Nat) (M : mM) (x1 : Int32) (x2 : Int32), m_X3_readTape_L16 k0 k1 k2 x0 n M x1 x2 = some r → V X Z M cn sn 16 [some (.ref x0), some (.int x1), some (.int x2), none, none] [] := by
  intro n
  induction n with
  | zero => intro M x1 x2 h; rw [m_X3_readTape_L16] at h; cases h
  | succ n ih =>
    intro M x1 x2 h
    rw [m_X3_readTape_L16] at h
    refine v_iload_n G dX3_readTape_16 rfl ?_
    refine v_bipush G (120 : Int32) dX3_readTape_17 (by decide) ?_
    refine v_ic_gt 78 G dX3_readTape_19 (by decide) (fun q7 => ?_) (fun q7 => ?_)
    · rw [if_pos q7] at h
      exact v_mask [false, false, false, false, false] rfl (hx0 _ h)
    · rw [if_neg q7] at h
      refine v_aload_n G dX3_readTape_22 rfl ?_
      obtain ⟨q32, h⟩ := if_s h
      obtain ⟨M9, q8, h⟩ := bi_ h
      refine v_callV0 (e_X3_goOn q8) G cl3 my_X3_goOn rfl w390 w3 w388 dX3_readTape_23 q32 rfl (Nat.le_of_ble_eq_true rfl) rfl (Nat.le_of_ble_eq_true rfl) hcn hsn ?_
      refine v_aload_n G dX3_readTape_26 rfl ?_
      obtain ⟨v10, q11, h⟩ := bi_ h
      refine v_getI (f := 4) G cl3 dX3_readTape_27 w181 (by decide) (by decide) q11 ?_
      refine v_iconst G (-1 : Int32) dX3_readTape_30 (by decide) ?_
      refine v_ic_ne 41 G dX3_readTape_31 (by decide) (fun q12 => ?_) (fun q12 => ?_)
      · rw [if_neg q12] at h
        refine v_aload_n G dX3_readTape_41 rfl ?_
        obtain ⟨v13, q14, h⟩ := bi_ h
        refine v_getI (f := 4) G cl3 dX3_readTape_42 w181 (by decide) (by decide) q14 ?_
        obtain ⟨v16, q15, h⟩ := bi_ h
        refine v_callS0 (e_X3_partOf q15) G my_X3_partOf w400 w399 dX3_readTape_45 rfl (Nat.le_of_ble_eq_true rfl) rfl (Nat.le_of_ble_eq_true rfl) hcn hsn ?_
        refine v_istore_n [some (.ref x0), some (.int x1), some (.int x2), some (.int v16), none] G dX3_readTape_48 (Nat.le_of_ble_eq_true rfl) rfl rfl ?_
        refine v_aload_n G dX3_readTape_49 rfl ?_
        refine v_iload_n G dX3_readTape_50 rfl ?_
        refine v_iload_n G dX3_readTape_51 rfl ?_
        obtain ⟨q21, h⟩ := if_s h
        obtain ⟨M18, v19, q17, h⟩ := bi2_ h
        refine v_callV0 (e_X3_readPart q17) G cl3 my_X3_readPart rfl w407 w5 w405 dX3_readTape_52 q21 rfl (Nat.le_of_ble_eq_true rfl) rfl (Nat.le_of_ble_eq_true rfl) hcn hsn ?_
        refine v_istore [some (.ref x0), some (.int x1), some (.int x2), some (.int v16), some (.int v19)] G dX3_readTape_55 (Nat.le_of_ble_eq_true rfl) rfl rfl ?_
        refine v_iload G dX3_readTape_57 rfl ?_
        refine v_if_eq 70 G dX3_readTape_59 (by decide) (fun q20 => ?_) (fun q20 => ?_)
        · rw [if_pos q20] at h
          refine v_iload_n G dX3_readTape_70 rfl ?_
          refine v_istore_n [some (.ref x0), some (.int v16), some (.int x2), some (.int v16), some (.int v19)] G dX3_readTape_71 (Nat.le_of_ble_eq_true rfl) rfl rfl ?_
          refine v_iinc (x2 + (1 : Int32)) [some (.ref x0), some (.int v16), some (.int (x2 + (1 : Int32))), some (.int v16), some (.int v19)] G dX3_readTape_72 rfl rfl (Nat.le_of_ble_eq_true rfl) rfl rfl ?_
          refine v_goto 16 G dX3_readTape_75 (by decide) ?_
          exact v_mask [true, true, true, false, false] rfl (ih _ _ _ h)
        · rw [if_neg q20] at h
          exact v_mask [true, false, false, false, true] rfl (hx1 _ _ h)
      · rw [if_pos q12] at h
        refine v_iload_n G dX3_readTape_34 rfl ?_
        refine v_iconst G (3 : Int32) dX3_readTape_35 (by decide) ?_
        refine v_ic_ne 41 G dX3_readTape_36 (by decide) (fun q22 => ?_) (fun q22 => ?_)
        · rw [if_neg q22] at h
          refine v_aload_n G dX3_readTape_41 rfl ?_
          obtain ⟨v23, q24, h⟩ := bi_ h
          refine v_getI (f := 4) G cl3 dX3_readTape_42 w181 (by decide) (by decide) q24 ?_
          obtain ⟨v26, q25, h⟩ := bi_ h
          refine v_callS0 (e_X3_partOf q25) G my_X3_partOf w400 w399 dX3_readTape_45 rfl (Nat.le_of_ble_eq_true rfl) rfl (Nat.le_of_ble_eq_true rfl) hcn hsn ?_
          refine v_istore_n [some (.ref x0), some (.int x1), some (.int x2), some (.int v26), none] G dX3_readTape_48 (Nat.le_of_ble_eq_true rfl) rfl rfl ?_
          refine v_aload_n G dX3_readTape_49 rfl ?_
          refine v_iload_n G dX3_readTape_50 rfl ?_
          refine v_iload_n G dX3_readTape_51 rfl ?_
          obtain ⟨q31, h⟩ := if_s h
          obtain ⟨M28, v29, q27, h⟩ := bi2_ h
          refine v_callV0 (e_X3_readPart q27) G cl3 my_X3_readPart rfl w407 w5 w405 dX3_readTape_52 q31 rfl (Nat.le_of_ble_eq_true rfl) rfl (Nat.le_of_ble_eq_true rfl) hcn hsn ?_
          refine v_istore [some (.ref x0), some (.int x1), some (.int x2), some (.int v26), some (.int v29)] G dX3_readTape_55 (Nat.le_of_ble_eq_true rfl) rfl rfl ?_
          refine v_iload G dX3_readTape_57 rfl ?_
          refine v_if_eq 70 G dX3_readTape_59 (by decide) (fun q30 => ?_) (fun q30 => ?_)
          · rw [if_pos q30] at h
            refine v_iload_n G dX3_readTape_70 rfl ?_
            refine v_istore_n [some (.ref x0), some (.int v26), some (.int x2), some (.int v26), some (.int v29)] G dX3_readTape_71 (Nat.le_of_ble_eq_true rfl) rfl rfl ?_
            refine v_iinc (x2 + (1 : Int32)) [some (.ref x0), some (.int v26), some (.int (x2 + (1 : Int32))), some (.int v26), some (.int v29)] G dX3_readTape_72 rfl rfl (Nat.le_of_ble_eq_true rfl) rfl rfl ?_
            refine v_goto 16 G dX3_readTape_75 (by decide) ?_
            exact v_mask [true, true, true, false, false] rfl (ih _ _ _ h)
          · rw [if_neg q30] at h
            exact v_mask [true, false, false, false, true] rfl (hx1 _ _ h)
        · rw [if_pos q22] at h
          exact v_mask [false, false, false, false, false] rfl (hx2 _ h)
def m_X3_readTape (M : mM) (x0 : Nat) : Option (mM × Int32) :=
  (gR M x0 3 1).bind fun b1 =>
  if isO M b1 5 = true then
  (m_X5_empty M b1).bind fun M4 =>
  (pI M4 x0 3 7 (0 : Int32)).bind fun M5 =>
  m_X3_readTape_L16
    (fun M33 =>
      some (M33, (0 : Int32)))
    (fun M34 v35 =>
      (pI M34 x0 3 3 v35).bind fun M36 =>
      some (M36, (0 : Int32)))
    (fun M38 =>
      some (M38, (1 : Int32)))
    x0 FU M5 (-1 : Int32) (0 : Int32)
  else none
theorem e_X3_readTape {Z : zZ} {M : mM} {N : mM} {x0 : Nat} {r : Int32} (h : m_X3_readTape M x0 = some (N, r)) : EM Z yX3_readTape cX3_readTape 5 (some .boolean) 4 0 0 [.ref x0] M N (some (.int r)) := by
  refine EM_of my_X3_readTape (Nat.le_of_ble_eq_true rfl) (fun X G F => ?_)
  show V X Z M 0 0 0 [some (.ref x0), none, none, none, none] []
  unfold m_X3_readTape at h
  refine v_aload_n G dX3_readTape_0 rfl ?_
  obtain ⟨b1, q2, h⟩ := bi_ h
  refine v_getR (f := 1) G cl3 dX3_readTape_1 w175 (by decide) (by decide) q2 ?_
  obtain ⟨q39, h⟩ := if_s h
  obtain ⟨M4, q3, h⟩ := bi_ h
  refine v_callV0 (e_X5_empty q3) G cl5 my_X5_empty rfl w385 w386 w384 dX3_readTape_4 q39 rfl (Nat.le_of_ble_eq_true rfl) rfl (Nat.le_of_ble_eq_true rfl) (Nat.zero_le _) (Nat.zero_le _) ?_
  refine v_aload_n G dX3_readTape_7 rfl ?_
  refine v_iconst G (0 : Int32) dX3_readTape_8 (by decide) ?_
  obtain ⟨M5, q6, h⟩ := bi_ h
  refine v_putI (f := 7) G cl3 dX3_readTape_9 w185 (by decide) (by decide) (by decide) rfl rfl q6 ?_
  refine v_iconst G (-1 : Int32) dX3_readTape_12 (by decide) ?_
  refine v_istore_n [some (.ref x0), some (.int (-1 : Int32)), none, none, none] G dX3_readTape_13 (Nat.le_of_ble_eq_true rfl) rfl rfl ?_
  refine v_iconst G (0 : Int32) dX3_readTape_14 (by decide) ?_
  refine v_istore_n [some (.ref x0), some (.int (-1 : Int32)), some (.int (0 : Int32)), none, none] G dX3_readTape_15 (Nat.le_of_ble_eq_true rfl) rfl rfl ?_
  refine v_mask [true, true, true, false, false] rfl ?_
  refine e_X3_readTape_L16 G (Nat.zero_le _) (Nat.zero_le _) _ (fun M33 h => ?_) (fun M34 v35 h => ?_) (fun M38 h => ?_) FU _ _ _ h
  · refine v_iconst G (0 : Int32) dX3_readTape_78 (by decide) ?_
    cases h
    exact v_zret G F rfl dX3_readTape_79 rfl (Nat.le_refl _)
  · refine v_aload_n G dX3_readTape_62 rfl ?_
    refine v_iload G dX3_readTape_63 rfl ?_
    obtain ⟨M36, q37, h⟩ := bi_ h
    refine v_putI (f := 3) G cl3 dX3_readTape_65 w179 (by decide) (by decide) (by decide) rfl rfl q37 ?_
    refine v_iconst G (0 : Int32) dX3_readTape_68 (by decide) ?_
    cases h
    exact v_zret G F rfl dX3_readTape_69 rfl (Nat.le_refl _)
  · refine v_iconst G (1 : Int32) dX3_readTape_39 (by decide) ?_
    cases h
    exact v_zret G F rfl dX3_readTape_40 rfl (Nat.le_refl _)
/-! X4_init -/
def m_X4_init (M : mM) (x0 : Nat) : Option mM :=
  nw_b M (1, 40) fun M1 =>
  (pR M1 x0 4 0 (mz M)).bind fun M2 =>
  some M2
theorem e_X4_init {Z : zZ} {M : mM} {N : mM} {x0 : Nat} (h : m_X4_init M x0 = some N) : EM Z yX4_init cX4_init 1 none 1 1 40 [.ref x0] M N none := by
  refine EM_of my_X4_init (Nat.le_of_ble_eq_true rfl) (fun X G F => ?_)
  show V X Z M 0 0 0 [some (.ref x0)] []
  unfold m_X4_init at h
  refine v_aload_n G dX4_init_0 rfl ?_
  refine v_obj G w272 w75 w76 dX4_init_1 (Nat.le_of_ble_eq_true rfl) rfl (by decide) ?_
  refine v_aload_n G dX4_init_4 rfl ?_
  refine v_bipush G (40 : Int32) dX4_init_5 (by decide) ?_
  obtain ⟨M1, eM1, h⟩ := nb_ h
  refine v_newI (n' := 40) G dX4_init_7 w145 (by decide) (by decide) (by decide) (Nat.le_of_ble_eq_true rfl) (Nat.le_of_ble_eq_true rfl) ?_
  rw [← eM1]
  obtain ⟨M2, q3, h⟩ := bi_ h
  refine v_putF (f := 0) G cl4 dX4_init_9 w273 (by decide) (by decide) (by decide) rfl rfl (fun _ => rfl) (fun _ => rfl) q3 ?_
  cases h
  exact v_vret G F dX4_init_12 rfl (Nat.le_of_ble_eq_true rfl)
/-! X4_begin -/
def m_X4_begin_L17 {ρ : Type} (k0 : mM → Option ρ) (x0 : Nat) : Nat → mM → Int32 → Option ρ
  | 0, _, _ => none
  | n + 1, M, x3 =>
    if (40 : Int32) ≤ x3 then (
      k0 M
    ) else (
      (gR M x0 4 0).bind fun b8 =>
      (stI M b8 x3 (0 : Int32)).bind fun M10 =>
      m_X4_begin_L17 k0 x0 n M10 (x3 + (1 : Int32))
    )
theorem e_X4_begin_L17 {X : xX} {Z : zZ} {cn sn : Nat} {ρ : Type} {r : ρ} {k0 : mM → Option ρ} (G : ok_ X Z yX4_begin cX4_begin 4 0 0 0) (hcn : cn ≤ 0) (hsn : sn ≤ 0) (x0 : Nat)
    (hx0 : ∀ (N : mM), k0 N = some r → V X Z N cn sn 36 [none, none, none, none] []) :
    ∀ (n : Nat) (M : mM) (x3 : Int32), m_X4_begin_L17 k0 x0 n M x3 = some r → V X Z M cn sn 17 [some (.ref x0), none, none, some (.int x3)] [] := by
  intro n
  induction n with
  | zero => intro M x3 h; rw [m_X4_begin_L17] at h; cases h
  | succ n ih =>
    intro M x3 h
    rw [m_X4_begin_L17] at h
    refine v_iload_n G dX4_begin_17 rfl ?_
    refine v_bipush G (40 : Int32) dX4_begin_18 (by decide) ?_
    refine v_ic_ge 36 G dX4_begin_20 (by decide) (fun q7 => ?_) (fun q7 => ?_)
    · rw [if_pos q7] at h
      exact v_mask [false, false, false, false] rfl (hx0 _ h)
    · rw [if_neg q7] at h
      refine v_aload_n G dX4_begin_23 rfl ?_
      obtain ⟨b8, q9, h⟩ := bi_ h
      refine v_getR (f := 0) G cl4 dX4_begin_24 w273 (by decide) (by decide) q9 ?_
      refine v_iload_n G dX4_begin_27 rfl ?_
      refine v_iconst G (0 : Int32) dX4_begin_28 (by decide) ?_
      obtain ⟨M10, q11, h⟩ := bi_ h
      refine v_iast G dX4_begin_29 q11 ?_
      refine v_iinc (x3 + (1 : Int32)) [some (.ref x0), none, none, some (.int (x3 + (1 : Int32)))] G dX4_begin_30 rfl rfl (Nat.le_of_ble_eq_true rfl) rfl rfl ?_
      refine v_goto 17 G dX4_begin_33 (by decide) ?_
      exact v_mask [true, false, false, true] rfl (ih _ _ h)
def m_X4_begin (M : mM) (x0 : Nat) (x1 : Int32) (x2 : Int32) : Option mM :=
  (pI M x0 4 1 (1 : Int32)).bind fun M1 =>
  (pI M1 x0 4 2 x1).bind fun M3 =>
  (pI M3 x0 4 3 x2).bind fun M5 =>
  m_X4_begin_L17
    (fun M12 =>
      some M12)
    x0 FU M5 (0 : Int32)
theorem e_X4_begin {Z : zZ} {M : mM} {N : mM} {x0 : Nat} {x1 : Int32} {x2 : Int32} (h : m_X4_begin M x0 x1 x2 = some N) : EM Z yX4_begin cX4_begin 4 none 0 0 0 [.ref x0, .int x1, .int x2] M N none := by
  refine EM_of my_X4_begin (Nat.le_of_ble_eq_true rfl) (fun X G F => ?_)
  show V X Z M 0 0 0 [some (.ref x0), some (.int x1), some (.int x2), none] []
  unfold m_X4_begin at h
  refine v_aload_n G dX4_begin_0 rfl ?_
  refine v_iconst G (1 : Int32) dX4_begin_1 (by decide) ?_
  obtain ⟨M1, q2, h⟩ := bi_ h
  refine v_putI (f := 1) G cl4 dX4_begin_2 w276 (by decide) (by decide) (by decide) (by decide) (by decide) q2 ?_
  refine v_aload_n G dX4_begin_5 rfl ?_
  refine v_iload_n G dX4_begin_6 rfl ?_
  obtain ⟨M3, q4, h⟩ := bi_ h
  refine v_putI (f := 2) G cl4 dX4_begin_7 w278 (by decide) (by decide) (by decide) rfl rfl q4 ?_
  refine v_aload_n G dX4_begin_10 rfl ?_
  refine v_iload_n G dX4_begin_11 rfl ?_
  obtain ⟨M5, q6, h⟩ := bi_ h
  refine v_putI (f := 3) G cl4 dX4_begin_12 w280 (by decide) (by decide) (by decide) rfl rfl q6 ?_
  refine v_iconst G (0 : Int32) dX4_begin_15 (by decide) ?_
  refine v_istore_n [some (.ref x0), some (.int x1), some (.int x2), some (.int (0 : Int32))] G dX4_begin_16 (Nat.le_of_ble_eq_true rfl) rfl rfl ?_
  refine v_mask [true, false, false, true] rfl ?_
  refine e_X4_begin_L17 G (Nat.zero_le _) (Nat.zero_le _) _ (fun M12 h => ?_) FU _ _ h
  cases h
  exact v_vret G F dX4_begin_36 rfl (Nat.le_refl _)
/-! X4_put -/
def m_X4_put (M : mM) (x0 : Nat) (x1 : Int32) (x2 : Int32) : Option (mM × Int32) :=
  (gR M x0 4 0).bind fun b1 =>
  (gI M x0 4 2).bind fun v3 =>
  if v3 = (0 : Int32) then (
    (stI M b1 x1 (i8_ x2)).bind fun M21 =>
    (gR M21 x0 4 0).bind fun b23 =>
    (ldI M21 b23 x1).bind fun v26 =>
    some (M21, v26)
  ) else (
    (gI M x0 4 2).bind fun v6 =>
    if v6 = (1 : Int32) then (
      (stI M b1 x1 (i16_ x2)).bind fun M15 =>
      (gR M15 x0 4 0).bind fun b17 =>
      (ldI M15 b17 x1).bind fun v20 =>
      some (M15, v20)
    ) else (
      (stI M b1 x1 x2).bind fun M9 =>
      (gR M9 x0 4 0).bind fun b11 =>
      (ldI M9 b11 x1).bind fun v14 =>
      some (M9, v14)
    )
  )
theorem e_X4_put {Z : zZ} {M : mM} {N : mM} {x0 : Nat} {x1 : Int32} {x2 : Int32} {r : Int32} (h : m_X4_put M x0 x1 x2 = some (N, r)) : EM Z yX4_put cX4_put 3 (some .int) 0 0 0 [.ref x0, .int x1, .int x2] M N (some (.int r)) := by
  refine EM_of my_X4_put (Nat.le_of_ble_eq_true rfl) (fun X G F => ?_)
  show V X Z M 0 0 0 [some (.ref x0), some (.int x1), some (.int x2)] []
  unfold m_X4_put at h
  refine v_aload_n G dX4_put_0 rfl ?_
  obtain ⟨b1, q2, h⟩ := bi_ h
  refine v_getR (f := 0) G cl4 dX4_put_1 w273 (by decide) (by decide) q2 ?_
  refine v_iload_n G dX4_put_4 rfl ?_
  refine v_aload_n G dX4_put_5 rfl ?_
  obtain ⟨v3, q4, h⟩ := bi_ h
  refine v_getI (f := 2) G cl4 dX4_put_6 w278 (by decide) (by decide) q4 ?_
  refine v_if_ne 17 G dX4_put_9 (by decide) (fun q5 => ?_) (fun q5 => ?_)
  · rw [if_neg q5] at h
    refine v_aload_n G dX4_put_17 rfl ?_
    obtain ⟨v6, q7, h⟩ := bi_ h
    refine v_getI (f := 2) G cl4 dX4_put_18 w278 (by decide) (by decide) q7 ?_
    refine v_iconst G (1 : Int32) dX4_put_21 (by decide) ?_
    refine v_ic_ne 30 G dX4_put_22 (by decide) (fun q8 => ?_) (fun q8 => ?_)
    · rw [if_neg q8] at h
      refine v_iload_n G dX4_put_30 rfl ?_
      obtain ⟨M9, q10, h⟩ := bi_ h
      refine v_iast G dX4_put_31 q10 ?_
      refine v_aload_n G dX4_put_32 rfl ?_
      obtain ⟨b11, q12, h⟩ := bi_ h
      refine v_getR (f := 0) G cl4 dX4_put_33 w273 (by decide) (by decide) q12 ?_
      refine v_iload_n G dX4_put_36 rfl ?_
      obtain ⟨v14, q13, h⟩ := bi_ h
      refine v_iald G dX4_put_37 q13 ?_
      cases h
      exact v_iret G F dX4_put_38 rfl (Nat.le_refl _)
    · rw [if_pos q8] at h
      refine v_iload_n G dX4_put_25 rfl ?_
      refine v_i2s G dX4_put_26 ?_
      refine v_goto 31 G dX4_put_27 (by decide) ?_
      obtain ⟨M15, q16, h⟩ := bi_ h
      refine v_iast G dX4_put_31 q16 ?_
      refine v_aload_n G dX4_put_32 rfl ?_
      obtain ⟨b17, q18, h⟩ := bi_ h
      refine v_getR (f := 0) G cl4 dX4_put_33 w273 (by decide) (by decide) q18 ?_
      refine v_iload_n G dX4_put_36 rfl ?_
      obtain ⟨v20, q19, h⟩ := bi_ h
      refine v_iald G dX4_put_37 q19 ?_
      cases h
      exact v_iret G F dX4_put_38 rfl (Nat.le_refl _)
  · rw [if_pos q5] at h
    refine v_iload_n G dX4_put_12 rfl ?_
    refine v_i2b G dX4_put_13 ?_
    refine v_goto 31 G dX4_put_14 (by decide) ?_
    obtain ⟨M21, q22, h⟩ := bi_ h
    refine v_iast G dX4_put_31 q22 ?_
    refine v_aload_n G dX4_put_32 rfl ?_
    obtain ⟨b23, q24, h⟩ := bi_ h
    refine v_getR (f := 0) G cl4 dX4_put_33 w273 (by decide) (by decide) q24 ?_
    refine v_iload_n G dX4_put_36 rfl ?_
    obtain ⟨v26, q25, h⟩ := bi_ h
    refine v_iald G dX4_put_37 q25 ?_
    cases h
    exact v_iret G F dX4_put_38 rfl (Nat.le_refl _)
/-! X5_hears -/
def m_X5_hears (M : mM) (x0 : Nat) (x1 : Int32) : Option Int32 :=
  if isO M x0 5 = true then
  (m_X5_seatOf M x0 x1).bind fun v2 =>
  if isO M x0 5 = true then
  (m_X5_hearsAnyway M x0 x1 v2).bind fun v4 =>
  if v4 = (0 : Int32) then (
    if v2 ≤ (0 : Int32) then (
      some (0 : Int32)
    ) else (
      (gR M x0 5 9).bind fun b7 =>
      (ldI M b7 (v2 - (1 : Int32))).bind fun v10 =>
      (gI M x0 5 4).bind fun v11 =>
      if isO M x0 5 = true then
      (m_X5_taughtOn M x0 v11).bind fun v14 =>
      if isO M x0 5 = true then
      (m_X5_knowsIt M x0 v10 v14).bind fun v16 =>
      if v16 = (0 : Int32) then (
        some (0 : Int32)
      ) else (
        some (1 : Int32)
      )
      else none
      else none
    )
  ) else (
    some (1 : Int32)
  )
  else none
  else none
theorem e_X5_hears {Z : zZ} {M : mM} {x0 : Nat} {x1 : Int32} {r : Int32} (h : m_X5_hears M x0 x1 = some r) : EM Z yX5_hears cX5_hears 3 (some .boolean) 2 0 0 [.ref x0, .int x1] M M (some (.int r)) := by
  refine EM_of my_X5_hears (Nat.le_of_ble_eq_true rfl) (fun X G F => ?_)
  show V X Z M 0 0 0 [some (.ref x0), some (.int x1), none] []
  unfold m_X5_hears at h
  refine v_aload_n G dX5_hears_0 rfl ?_
  refine v_iload_n G dX5_hears_1 rfl ?_
  obtain ⟨q21, h⟩ := if_s h
  obtain ⟨v2, q1, h⟩ := bi_ h
  refine v_callV0 (e_X5_seatOf q1) G cl5 my_X5_seatOf rfl w515 w516 w552 dX5_hears_2 q21 rfl (Nat.le_of_ble_eq_true rfl) rfl (Nat.le_of_ble_eq_true rfl) (Nat.zero_le _) (Nat.zero_le _) ?_
  refine v_istore_n [some (.ref x0), some (.int x1), some (.int v2)] G dX5_hears_5 (Nat.le_of_ble_eq_true rfl) rfl rfl ?_
  refine v_aload_n G dX5_hears_6 rfl ?_
  refine v_iload_n G dX5_hears_7 rfl ?_
  refine v_iload_n G dX5_hears_8 rfl ?_
  obtain ⟨q20, h⟩ := if_s h
  obtain ⟨v4, q3, h⟩ := bi_ h
  refine v_callV0 (e_X5_hearsAnyway q3) G cl5 my_X5_hearsAnyway rfl w462 w463 w461 dX5_hears_9 q20 rfl (Nat.le_of_ble_eq_true rfl) rfl (Nat.le_of_ble_eq_true rfl) (Nat.zero_le _) (Nat.zero_le _) ?_
  refine v_if_ne 42 G dX5_hears_12 (by decide) (fun q5 => ?_) (fun q5 => ?_)
  · rw [if_neg q5] at h
    refine v_iconst G (1 : Int32) dX5_hears_42 (by decide) ?_
    refine v_goto 47 G dX5_hears_43 (by decide) ?_
    cases h
    exact v_zret G F rfl dX5_hears_47 rfl (Nat.le_refl _)
  · rw [if_pos q5] at h
    refine v_iload_n G dX5_hears_15 rfl ?_
    refine v_if_le 46 G dX5_hears_16 (by decide) (fun q6 => ?_) (fun q6 => ?_)
    · rw [if_pos q6] at h
      refine v_iconst G (0 : Int32) dX5_hears_46 (by decide) ?_
      cases h
      exact v_zret G F rfl dX5_hears_47 rfl (Nat.le_refl _)
    · rw [if_neg q6] at h
      refine v_aload_n G dX5_hears_19 rfl ?_
      refine v_aload_n G dX5_hears_20 rfl ?_
      obtain ⟨b7, q8, h⟩ := bi_ h
      refine v_getR (f := 9) G cl5 dX5_hears_21 w119 (by decide) (by decide) q8 ?_
      refine v_iload_n G dX5_hears_24 rfl ?_
      refine v_iconst G (1 : Int32) dX5_hears_25 (by decide) ?_
      refine v_isub G dX5_hears_26 ?_
      obtain ⟨v10, q9, h⟩ := bi_ h
      refine v_iald G dX5_hears_27 q9 ?_
      refine v_aload_n G dX5_hears_28 rfl ?_
      refine v_aload_n G dX5_hears_29 rfl ?_
      obtain ⟨v11, q12, h⟩ := bi_ h
      refine v_getI (f := 4) G cl5 dX5_hears_30 w100 (by decide) (by decide) q12 ?_
      obtain ⟨q19, h⟩ := if_s h
      obtain ⟨v14, q13, h⟩ := bi_ h
      refine v_callV0 (e_X5_taughtOn q13) G cl5 my_X5_taughtOn rfl w458 w459 w457 dX5_hears_33 q19 rfl (Nat.le_of_ble_eq_true rfl) rfl (Nat.le_of_ble_eq_true rfl) (Nat.zero_le _) (Nat.zero_le _) ?_
      obtain ⟨q18, h⟩ := if_s h
      obtain ⟨v16, q15, h⟩ := bi_ h
      refine v_callV0 (e_X5_knowsIt q15) G cl5 my_X5_knowsIt rfl w469 w470 w468 dX5_hears_36 q18 rfl (Nat.le_of_ble_eq_true rfl) rfl (Nat.le_of_ble_eq_true rfl) (Nat.zero_le _) (Nat.zero_le _) ?_
      refine v_if_eq 46 G dX5_hears_39 (by decide) (fun q17 => ?_) (fun q17 => ?_)
      · rw [if_pos q17] at h
        refine v_iconst G (0 : Int32) dX5_hears_46 (by decide) ?_
        cases h
        exact v_zret G F rfl dX5_hears_47 rfl (Nat.le_refl _)
      · rw [if_neg q17] at h
        refine v_iconst G (1 : Int32) dX5_hears_42 (by decide) ?_
        refine v_goto 47 G dX5_hears_43 (by decide) ?_
        cases h
        exact v_zret G F rfl dX5_hears_47 rfl (Nat.le_refl _)
/-! X5_knownByAll -/
def m_X5_knownByAll_L11 {ρ : Type} (k0 : Int32 → Option ρ) (M : mM) (x0 : Nat) : Nat → Int32 → Int32 → Option ρ
  | 0, _, _ => none
  | n + 1, x1, x2 =>
    (gI M x0 5 3).bind fun v3 =>
    if v3 ≤ x2 then (
      k0 x1
    ) else (
      (gR M x0 5 8).bind fun b6 =>
      (ldI M b6 x2).bind fun v9 =>
      m_X5_knownByAll_L11 k0 M x0 n (x1 &&& v9) (x2 + (1 : Int32))
    )
theorem e_X5_knownByAll_L11 {X : xX} {Z : zZ} {cn sn : Nat} {ρ : Type} {r : ρ} {k0 : Int32 → Option ρ} (G : ok_ X Z yX5_knownByAll cX5_knownByAll 3 0 0 0) (hcn : cn ≤ 0) (hsn : sn ≤ 0) (M : mM) (x0 : Nat)
    (hx0 : ∀ (z1 : Int32), k0 z1 = some r → V X Z M cn sn 34 [none, some (.int z1), none] []) :
    ∀ (n : Nat) (x1 : Int32) (x2 : Int32), m_X5_knownByAll_L11 k0 M x0 n x1 x2 = some r → V X Z M cn sn 11 [some (.ref x0), some (.int x1), some (.int x2)] [] := by
  intro n
  induction n with
  | zero => intro x1 x2 h; rw [m_X5_knownByAll_L11] at h; cases h
  | succ n ih =>
    intro x1 x2 h
    rw [m_X5_knownByAll_L11] at h
    refine v_iload_n G dX5_knownByAll_11 rfl ?_
    refine v_aload_n G dX5_knownByAll_12 rfl ?_
    obtain ⟨v3, q4, h⟩ := bi_ h
    refine v_getI (f := 3) G cl5 dX5_knownByAll_13 w96 (by decide) (by decide) q4 ?_
    refine v_ic_ge 34 G dX5_knownByAll_16 (by decide) (fun q5 => ?_) (fun q5 => ?_)
    · rw [if_pos q5] at h
      exact v_mask [false, true, false] rfl (hx0 _ h)
    · rw [if_neg q5] at h
      refine v_iload_n G dX5_knownByAll_19 rfl ?_
      refine v_aload_n G dX5_knownByAll_20 rfl ?_
      obtain ⟨b6, q7, h⟩ := bi_ h
      refine v_getR (f := 8) G cl5 dX5_knownByAll_21 w115 (by decide) (by decide) q7 ?_
      refine v_iload_n G dX5_knownByAll_24 rfl ?_
      obtain ⟨v9, q8, h⟩ := bi_ h
      refine v_iald G dX5_knownByAll_25 q8 ?_
      refine v_iand G dX5_knownByAll_26 ?_
      refine v_istore_n [some (.ref x0), some (.int (x1 &&& v9)), some (.int x2)] G dX5_knownByAll_27 (Nat.le_of_ble_eq_true rfl) rfl rfl ?_
      refine v_iinc (x2 + (1 : Int32)) [some (.ref x0), some (.int (x1 &&& v9)), some (.int (x2 + (1 : Int32)))] G dX5_knownByAll_28 rfl rfl (Nat.le_of_ble_eq_true rfl) rfl rfl ?_
      refine v_goto 11 G dX5_knownByAll_31 (by decide) ?_
      exact v_mask [true, true, true] rfl (ih _ _ h)
def m_X5_knownByAll (M : mM) (x0 : Nat) : Option Int32 :=
  (gI M x0 5 1).bind fun v1 =>
  m_X5_knownByAll_L11
    (fun v10 =>
      some v10)
    M x0 FU (((1 : Int32) <<< (v1 &&& 31)) - (1 : Int32)) (0 : Int32)
theorem e_X5_knownByAll {Z : zZ} {M : mM} {x0 : Nat} {r : Int32} (h : m_X5_knownByAll M x0 = some r) : EM Z yX5_knownByAll cX5_knownByAll 3 (some .int) 0 0 0 [.ref x0] M M (some (.int r)) := by
  refine EM_of my_X5_knownByAll (Nat.le_of_ble_eq_true rfl) (fun X G F => ?_)
  show V X Z M 0 0 0 [some (.ref x0), none, none] []
  unfold m_X5_knownByAll at h
  refine v_iconst G (1 : Int32) dX5_knownByAll_0 (by decide) ?_
  refine v_aload_n G dX5_knownByAll_1 rfl ?_
  obtain ⟨v1, q2, h⟩ := bi_ h
  refine v_getI (f := 1) G cl5 dX5_knownByAll_2 w88 (by decide) (by decide) q2 ?_
  refine v_ishl G dX5_knownByAll_5 ?_
  refine v_iconst G (1 : Int32) dX5_knownByAll_6 (by decide) ?_
  refine v_isub G dX5_knownByAll_7 ?_
  refine v_istore_n [some (.ref x0), some (.int (((1 : Int32) <<< (v1 &&& 31)) - (1 : Int32))), none] G dX5_knownByAll_8 (Nat.le_of_ble_eq_true rfl) rfl rfl ?_
  refine v_iconst G (0 : Int32) dX5_knownByAll_9 (by decide) ?_
  refine v_istore_n [some (.ref x0), some (.int (((1 : Int32) <<< (v1 &&& 31)) - (1 : Int32))), some (.int (0 : Int32))] G dX5_knownByAll_10 (Nat.le_of_ble_eq_true rfl) rfl rfl ?_
  refine v_mask [true, true, true] rfl ?_
  refine e_X5_knownByAll_L11 G (Nat.zero_le _) (Nat.zero_le _) _ _ (fun v10 h => ?_) FU _ _ h
  refine v_iload_n G dX5_knownByAll_34 rfl ?_
  cases h
  exact v_iret G F dX5_knownByAll_35 rfl (Nat.le_refl _)
/-! X5_knownByAny -/
def m_X5_knownByAny_L4 {ρ : Type} (k0 : Int32 → Option ρ) (M : mM) (x0 : Nat) : Nat → Int32 → Int32 → Option ρ
  | 0, _, _ => none
  | n + 1, x1, x2 =>
    (gI M x0 5 3).bind fun v1 =>
    if v1 ≤ x2 then (
      k0 x1
    ) else (
      (gR M x0 5 8).bind fun b4 =>
      (ldI M b4 x2).bind fun v7 =>
      m_X5_knownByAny_L4 k0 M x0 n (x1 ||| v7) (x2 + (1 : Int32))
    )
theorem e_X5_knownByAny_L4 {X : xX} {Z : zZ} {cn sn : Nat} {ρ : Type} {r : ρ} {k0 : Int32 → Option ρ} (G : ok_ X Z yX5_knownByAny cX5_knownByAny 3 0 0 0) (hcn : cn ≤ 0) (hsn : sn ≤ 0) (M : mM) (x0 : Nat)
    (hx0 : ∀ (z1 : Int32), k0 z1 = some r → V X Z M cn sn 27 [none, some (.int z1), none] []) :
    ∀ (n : Nat) (x1 : Int32) (x2 : Int32), m_X5_knownByAny_L4 k0 M x0 n x1 x2 = some r → V X Z M cn sn 4 [some (.ref x0), some (.int x1), some (.int x2)] [] := by
  intro n
  induction n with
  | zero => intro x1 x2 h; rw [m_X5_knownByAny_L4] at h; cases h
  | succ n ih =>
    intro x1 x2 h
    rw [m_X5_knownByAny_L4] at h
    refine v_iload_n G dX5_knownByAny_4 rfl ?_
    refine v_aload_n G dX5_knownByAny_5 rfl ?_
    obtain ⟨v1, q2, h⟩ := bi_ h
    refine v_getI (f := 3) G cl5 dX5_knownByAny_6 w96 (by decide) (by decide) q2 ?_
    refine v_ic_ge 27 G dX5_knownByAny_9 (by decide) (fun q3 => ?_) (fun q3 => ?_)
    · rw [if_pos q3] at h
      exact v_mask [false, true, false] rfl (hx0 _ h)
    · rw [if_neg q3] at h
      refine v_iload_n G dX5_knownByAny_12 rfl ?_
      refine v_aload_n G dX5_knownByAny_13 rfl ?_
      obtain ⟨b4, q5, h⟩ := bi_ h
      refine v_getR (f := 8) G cl5 dX5_knownByAny_14 w115 (by decide) (by decide) q5 ?_
      refine v_iload_n G dX5_knownByAny_17 rfl ?_
      obtain ⟨v7, q6, h⟩ := bi_ h
      refine v_iald G dX5_knownByAny_18 q6 ?_
      refine v_ior G dX5_knownByAny_19 ?_
      refine v_istore_n [some (.ref x0), some (.int (x1 ||| v7)), some (.int x2)] G dX5_knownByAny_20 (Nat.le_of_ble_eq_true rfl) rfl rfl ?_
      refine v_iinc (x2 + (1 : Int32)) [some (.ref x0), some (.int (x1 ||| v7)), some (.int (x2 + (1 : Int32)))] G dX5_knownByAny_21 rfl rfl (Nat.le_of_ble_eq_true rfl) rfl rfl ?_
      refine v_goto 4 G dX5_knownByAny_24 (by decide) ?_
      exact v_mask [true, true, true] rfl (ih _ _ h)
def m_X5_knownByAny (M : mM) (x0 : Nat) : Option Int32 :=
  m_X5_knownByAny_L4
    (fun v8 =>
      some v8)
    M x0 FU (0 : Int32) (0 : Int32)
theorem e_X5_knownByAny {Z : zZ} {M : mM} {x0 : Nat} {r : Int32} (h : m_X5_knownByAny M x0 = some r) : EM Z yX5_knownByAny cX5_knownByAny 3 (some .int) 0 0 0 [.ref x0] M M (some (.int r)) := by
  refine EM_of my_X5_knownByAny (Nat.le_of_ble_eq_true rfl) (fun X G F => ?_)
  show V X Z M 0 0 0 [some (.ref x0), none, none] []
  unfold m_X5_knownByAny at h
  refine v_iconst G (0 : Int32) dX5_knownByAny_0 (by decide) ?_
  refine v_istore_n [some (.ref x0), some (.int (0 : Int32)), none] G dX5_knownByAny_1 (Nat.le_of_ble_eq_true rfl) rfl rfl ?_
  refine v_iconst G (0 : Int32) dX5_knownByAny_2 (by decide) ?_
  refine v_istore_n [some (.ref x0), some (.int (0 : Int32)), some (.int (0 : Int32))] G dX5_knownByAny_3 (Nat.le_of_ble_eq_true rfl) rfl rfl ?_
  refine v_mask [true, true, true] rfl ?_
  refine e_X5_knownByAny_L4 G (Nat.zero_le _) (Nat.zero_le _) _ _ (fun v8 h => ?_) FU _ _ h
  refine v_iload_n G dX5_knownByAny_27 rfl ?_
  cases h
  exact v_iret G F dX5_knownByAny_28 rfl (Nat.le_refl _)
/-! X5_graspable -/
def m_X5_graspable_L4 {ρ : Type} (k0 : Int32 → Option ρ) (M : mM) (x0 : Nat) (x1 : Int32) : Nat → Int32 → Int32 → Option ρ
  | 0, _, _ => none
  | n + 1, x2, x3 =>
    (gI M x0 5 1).bind fun v1 =>
    if v1 ≤ x3 then (
      k0 x2
    ) else (
      (gR M x0 5 5).bind fun b4 =>
      (ldI M b4 x3).bind fun v7 =>
      if (v7 &&& (x1 ^^^ (-1 : Int32))) = (0 : Int32) then (
        m_X5_graspable_L4 k0 M x0 x1 n (x2 ||| ((1 : Int32) <<< (x3 &&& 31))) (x3 + (1 : Int32))
      ) else (
        m_X5_graspable_L4 k0 M x0 x1 n x2 (x3 + (1 : Int32))
      )
    )
theorem e_X5_graspable_L4 {X : xX} {Z : zZ} {cn sn : Nat} {ρ : Type} {r : ρ} {k0 : Int32 → Option ρ} (G : ok_ X Z yX5_graspable cX5_graspable 4 0 0 0) (hcn : cn ≤ 0) (hsn : sn ≤ 0) (M : mM) (x0 : Nat) (x1 : Int32)
    (hx0 : ∀ (z2 : Int32), k0 z2 = some r → V X Z M cn sn 37 [none, none, some (.int z2), none] []) :
    ∀ (n : Nat) (x2 : Int32) (x3 : Int32), m_X5_graspable_L4 k0 M x0 x1 n x2 x3 = some r → V X Z M cn sn 4 [some (.ref x0), some (.int x1), some (.int x2), some (.int x3)] [] := by
  intro n
  induction n with
  | zero => intro x2 x3 h; rw [m_X5_graspable_L4] at h; cases h
  | succ n ih =>
    intro x2 x3 h
    rw [m_X5_graspable_L4] at h
    refine v_iload_n G dX5_graspable_4 rfl ?_
    refine v_aload_n G dX5_graspable_5 rfl ?_
    obtain ⟨v1, q2, h⟩ := bi_ h
    refine v_getI (f := 1) G cl5 dX5_graspable_6 w88 (by decide) (by decide) q2 ?_
    refine v_ic_ge 37 G dX5_graspable_9 (by decide) (fun q3 => ?_) (fun q3 => ?_)
    · rw [if_pos q3] at h
      exact v_mask [false, false, true, false] rfl (hx0 _ h)
    · rw [if_neg q3] at h
      refine v_aload_n G dX5_graspable_12 rfl ?_
      obtain ⟨b4, q5, h⟩ := bi_ h
      refine v_getR (f := 5) G cl5 dX5_graspable_13 w103 (by decide) (by decide) q5 ?_
      refine v_iload_n G dX5_graspable_16 rfl ?_
      obtain ⟨v7, q6, h⟩ := bi_ h
      refine v_iald G dX5_graspable_17 q6 ?_
      refine v_iload_n G dX5_graspable_18 rfl ?_
      refine v_iconst G (-1 : Int32) dX5_graspable_19 (by decide) ?_
      refine v_ixor G dX5_graspable_20 ?_
      refine v_iand G dX5_graspable_21 ?_
      refine v_if_ne 31 G dX5_graspable_22 (by decide) (fun q8 => ?_) (fun q8 => ?_)
      · rw [if_neg q8] at h
        refine v_iinc (x3 + (1 : Int32)) [some (.ref x0), some (.int x1), some (.int x2), some (.int (x3 + (1 : Int32)))] G dX5_graspable_31 rfl rfl (Nat.le_of_ble_eq_true rfl) rfl rfl ?_
        refine v_goto 4 G dX5_graspable_34 (by decide) ?_
        exact v_mask [true, true, true, true] rfl (ih _ _ h)
      · rw [if_pos q8] at h
        refine v_iload_n G dX5_graspable_25 rfl ?_
        refine v_iconst G (1 : Int32) dX5_graspable_26 (by decide) ?_
        refine v_iload_n G dX5_graspable_27 rfl ?_
        refine v_ishl G dX5_graspable_28 ?_
        refine v_ior G dX5_graspable_29 ?_
        refine v_istore_n [some (.ref x0), some (.int x1), some (.int (x2 ||| ((1 : Int32) <<< (x3 &&& 31)))), some (.int x3)] G dX5_graspable_30 (Nat.le_of_ble_eq_true rfl) rfl rfl ?_
        refine v_iinc (x3 + (1 : Int32)) [some (.ref x0), some (.int x1), some (.int (x2 ||| ((1 : Int32) <<< (x3 &&& 31)))), some (.int (x3 + (1 : Int32)))] G dX5_graspable_31 rfl rfl (Nat.le_of_ble_eq_true rfl) rfl rfl ?_
        refine v_goto 4 G dX5_graspable_34 (by decide) ?_
        exact v_mask [true, true, true, true] rfl (ih _ _ h)
def m_X5_graspable (M : mM) (x0 : Nat) (x1 : Int32) : Option Int32 :=
  m_X5_graspable_L4
    (fun v9 =>
      some v9)
    M x0 x1 FU (0 : Int32) (0 : Int32)
theorem e_X5_graspable {Z : zZ} {M : mM} {x0 : Nat} {x1 : Int32} {r : Int32} (h : m_X5_graspable M x0 x1 = some r) : EM Z yX5_graspable cX5_graspable 4 (some .int) 0 0 0 [.ref x0, .int x1] M M (some (.int r)) := by
  refine EM_of my_X5_graspable (Nat.le_of_ble_eq_true rfl) (fun X G F => ?_)
  show V X Z M 0 0 0 [some (.ref x0), some (.int x1), none, none] []
  unfold m_X5_graspable at h
  refine v_iconst G (0 : Int32) dX5_graspable_0 (by decide) ?_
  refine v_istore_n [some (.ref x0), some (.int x1), some (.int (0 : Int32)), none] G dX5_graspable_1 (Nat.le_of_ble_eq_true rfl) rfl rfl ?_
  refine v_iconst G (0 : Int32) dX5_graspable_2 (by decide) ?_
  refine v_istore_n [some (.ref x0), some (.int x1), some (.int (0 : Int32)), some (.int (0 : Int32))] G dX5_graspable_3 (Nat.le_of_ble_eq_true rfl) rfl rfl ?_
  refine v_mask [true, true, true, true] rfl ?_
  refine e_X5_graspable_L4 G (Nat.zero_le _) (Nat.zero_le _) _ _ _ (fun v9 h => ?_) FU _ _ h
  refine v_iload_n G dX5_graspable_37 rfl ?_
  cases h
  exact v_iret G F dX5_graspable_38 rfl (Nat.le_refl _)
/-! X5_closure -/
def m_X5_closure_L4 {ρ : Type} (k0 : Int32 → Option ρ) (M : mM) (x0 : Nat) : Nat → Int32 → Int32 → Option ρ
  | 0, _, _ => none
  | n + 1, x2, x3 =>
    (gI M x0 5 1).bind fun v1 =>
    if v1 ≤ x3 then (
      k0 x2
    ) else (
      if isO M x0 5 = true then
      (m_X5_graspable M x0 x2).bind fun v5 =>
      m_X5_closure_L4 k0 M x0 n (x2 ||| v5) (x3 + (1 : Int32))
      else none
    )
theorem e_X5_closure_L4 {X : xX} {Z : zZ} {cn sn : Nat} {ρ : Type} {r : ρ} {k0 : Int32 → Option ρ} (G : ok_ X Z yX5_closure cX5_closure 4 1 0 0) (hcn : cn ≤ 0) (hsn : sn ≤ 0) (M : mM) (x0 : Nat)
    (hx0 : ∀ (z2 : Int32), k0 z2 = some r → V X Z M cn sn 26 [none, none, some (.int z2), none] []) :
    ∀ (n : Nat) (x2 : Int32) (x3 : Int32), m_X5_closure_L4 k0 M x0 n x2 x3 = some r → V X Z M cn sn 4 [some (.ref x0), none, some (.int x2), some (.int x3)] [] := by
  intro n
  induction n with
  | zero => intro x2 x3 h; rw [m_X5_closure_L4] at h; cases h
  | succ n ih =>
    intro x2 x3 h
    rw [m_X5_closure_L4] at h
    refine v_iload_n G dX5_closure_4 rfl ?_
    refine v_aload_n G dX5_closure_5 rfl ?_
    obtain ⟨v1, q2, h⟩ := bi_ h
    refine v_getI (f := 1) G cl5 dX5_closure_6 w88 (by decide) (by decide) q2 ?_
    refine v_ic_ge 26 G dX5_closure_9 (by decide) (fun q3 => ?_) (fun q3 => ?_)
    · rw [if_pos q3] at h
      exact v_mask [false, false, true, false] rfl (hx0 _ h)
    · rw [if_neg q3] at h
      refine v_iload_n G dX5_closure_12 rfl ?_
      refine v_aload_n G dX5_closure_13 rfl ?_
      refine v_iload_n G dX5_closure_14 rfl ?_
      obtain ⟨q6, h⟩ := if_s h
      obtain ⟨v5, q4, h⟩ := bi_ h
      refine v_callV0 (e_X5_graspable q4) G cl5 my_X5_graspable rfl w554 w555 w611 dX5_closure_15 q6 rfl (Nat.le_of_ble_eq_true rfl) rfl (Nat.le_of_ble_eq_true rfl) hcn hsn ?_
      refine v_ior G dX5_closure_18 ?_
      refine v_istore_n [some (.ref x0), none, some (.int (x2 ||| v5)), some (.int x3)] G dX5_closure_19 (Nat.le_of_ble_eq_true rfl) rfl rfl ?_
      refine v_iinc (x3 + (1 : Int32)) [some (.ref x0), none, some (.int (x2 ||| v5)), some (.int (x3 + (1 : Int32)))] G dX5_closure_20 rfl rfl (Nat.le_of_ble_eq_true rfl) rfl rfl ?_
      refine v_goto 4 G dX5_closure_23 (by decide) ?_
      exact v_mask [true, false, true, true] rfl (ih _ _ h)
def m_X5_closure (M : mM) (x0 : Nat) (x1 : Int32) : Option Int32 :=
  m_X5_closure_L4
    (fun v7 =>
      some v7)
    M x0 FU x1 (0 : Int32)
theorem e_X5_closure {Z : zZ} {M : mM} {x0 : Nat} {x1 : Int32} {r : Int32} (h : m_X5_closure M x0 x1 = some r) : EM Z yX5_closure cX5_closure 4 (some .int) 1 0 0 [.ref x0, .int x1] M M (some (.int r)) := by
  refine EM_of my_X5_closure (Nat.le_of_ble_eq_true rfl) (fun X G F => ?_)
  show V X Z M 0 0 0 [some (.ref x0), some (.int x1), none, none] []
  unfold m_X5_closure at h
  refine v_iload_n G dX5_closure_0 rfl ?_
  refine v_istore_n [some (.ref x0), some (.int x1), some (.int x1), none] G dX5_closure_1 (Nat.le_of_ble_eq_true rfl) rfl rfl ?_
  refine v_iconst G (0 : Int32) dX5_closure_2 (by decide) ?_
  refine v_istore_n [some (.ref x0), some (.int x1), some (.int x1), some (.int (0 : Int32))] G dX5_closure_3 (Nat.le_of_ble_eq_true rfl) rfl rfl ?_
  refine v_mask [true, false, true, true] rfl ?_
  refine e_X5_closure_L4 G (Nat.zero_le _) (Nat.zero_le _) _ _ (fun v7 h => ?_) FU _ _ h
  refine v_iload_n G dX5_closure_26 rfl ?_
  cases h
  exact v_iret G F dX5_closure_27 rfl (Nat.le_refl _)
