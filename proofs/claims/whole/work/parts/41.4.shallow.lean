/-! X7_fellows -/
def m_X7_fellows_L20 {ρ : Type} (k0 : Int32 → Option ρ) (M : mM) (x0 : Nat) (x1 : Int32) : Nat → Int32 → Int32 → Option ρ
  | 0, _, _ => none
  | n + 1, x2, x3 =>
    (gR M x0 7 5).bind fun b6 =>
    (ldI M b6 (0 : Int32)).bind fun v9 =>
    if v9 ≤ x3 then (
      k0 x2
    ) else (
      if x3 = x1 then (
        m_X7_fellows_L20 k0 M x0 x1 n (x2 ||| (0 : Int32)) (x3 + (1 : Int32))
      ) else (
        (gR M x0 7 5).bind fun b12 =>
        (m_X7_of M b12 x3 (2 : Int32)).bind fun v15 =>
        (gR M x0 7 5).bind fun b16 =>
        (m_X7_of M b16 x1 (2 : Int32)).bind fun v19 =>
        if v15 = v19 then (
          m_X7_fellows_L20 k0 M x0 x1 n (x2 ||| ((1 : Int32) <<< (x3 &&& 31))) (x3 + (1 : Int32))
        ) else (
          m_X7_fellows_L20 k0 M x0 x1 n (x2 ||| (0 : Int32)) (x3 + (1 : Int32))
        )
      )
    )
theorem e_X7_fellows_L20 {X : xX} {Z : zZ} {cn sn : Nat} {ρ : Type} {r : ρ} {k0 : Int32 → Option ρ} (G : ok_ X Z yX7_fellows cX7_fellows 4 2 0 0) (hcn : cn ≤ 0) (hsn : sn ≤ 0) (M : mM) (x0 : Nat) (x1 : Int32)
    (hx0 : ∀ (z2 : Int32), k0 z2 = some r → V X Z M cn sn 72 [none, none, some (.int z2), none] []) :
    ∀ (n : Nat) (x2 : Int32) (x3 : Int32), m_X7_fellows_L20 k0 M x0 x1 n x2 x3 = some r → V X Z M cn sn 20 [some (.ref x0), some (.int x1), some (.int x2), some (.int x3)] [] := by
  intro n
  induction n with
  | zero => intro x2 x3 h; rw [m_X7_fellows_L20] at h; cases h
  | succ n ih =>
    intro x2 x3 h
    rw [m_X7_fellows_L20] at h
    refine v_iload_n G dX7_fellows_20 rfl ?_
    refine v_aload_n G dX7_fellows_21 rfl ?_
    obtain ⟨b6, q7, h⟩ := bi_ h
    refine v_getR (f := 5) G cl7 dX7_fellows_22 w844 (by decide) (by decide) q7 ?_
    refine v_iconst G (0 : Int32) dX7_fellows_25 (by decide) ?_
    obtain ⟨v9, q8, h⟩ := bi_ h
    refine v_iald G dX7_fellows_26 q8 ?_
    refine v_ic_ge 72 G dX7_fellows_27 (by decide) (fun q10 => ?_) (fun q10 => ?_)
    · rw [if_pos q10] at h
      exact v_mask [false, false, true, false] rfl (hx0 _ h)
    · rw [if_neg q10] at h
      refine v_iload_n G dX7_fellows_30 rfl ?_
      refine v_iload_n G dX7_fellows_31 rfl ?_
      refine v_iload_n G dX7_fellows_32 rfl ?_
      refine v_ic_eq 63 G dX7_fellows_33 (by decide) (fun q11 => ?_) (fun q11 => ?_)
      · rw [if_pos q11] at h
        refine v_iconst G (0 : Int32) dX7_fellows_63 (by decide) ?_
        refine v_ior G dX7_fellows_64 ?_
        refine v_istore_n [some (.ref x0), some (.int x1), some (.int (x2 ||| (0 : Int32))), some (.int x3)] G dX7_fellows_65 (Nat.le_of_ble_eq_true rfl) rfl rfl ?_
        refine v_iinc (x3 + (1 : Int32)) [some (.ref x0), some (.int x1), some (.int (x2 ||| (0 : Int32))), some (.int (x3 + (1 : Int32)))] G dX7_fellows_66 rfl rfl (Nat.le_of_ble_eq_true rfl) rfl rfl ?_
        refine v_goto 20 G dX7_fellows_69 (by decide) ?_
        exact v_mask [true, true, true, true] rfl (ih _ _ h)
      · rw [if_neg q11] at h
        refine v_aload_n G dX7_fellows_36 rfl ?_
        obtain ⟨b12, q13, h⟩ := bi_ h
        refine v_getR (f := 5) G cl7 dX7_fellows_37 w844 (by decide) (by decide) q13 ?_
        refine v_iload_n G dX7_fellows_40 rfl ?_
        refine v_iconst G (2 : Int32) dX7_fellows_41 (by decide) ?_
        obtain ⟨v15, q14, h⟩ := bi_ h
        refine v_callS0 (e_X7_of q14) G my_X7_of w1045 w1044 dX7_fellows_42 rfl (Nat.le_of_ble_eq_true rfl) rfl (Nat.le_of_ble_eq_true rfl) hcn hsn ?_
        refine v_aload_n G dX7_fellows_45 rfl ?_
        obtain ⟨b16, q17, h⟩ := bi_ h
        refine v_getR (f := 5) G cl7 dX7_fellows_46 w844 (by decide) (by decide) q17 ?_
        refine v_iload_n G dX7_fellows_49 rfl ?_
        refine v_iconst G (2 : Int32) dX7_fellows_50 (by decide) ?_
        obtain ⟨v19, q18, h⟩ := bi_ h
        refine v_callS0 (e_X7_of q18) G my_X7_of w1045 w1044 dX7_fellows_51 rfl (Nat.le_of_ble_eq_true rfl) rfl (Nat.le_of_ble_eq_true rfl) hcn hsn ?_
        refine v_ic_ne 63 G dX7_fellows_54 (by decide) (fun q20 => ?_) (fun q20 => ?_)
        · rw [if_neg q20] at h
          refine v_iconst G (0 : Int32) dX7_fellows_63 (by decide) ?_
          refine v_ior G dX7_fellows_64 ?_
          refine v_istore_n [some (.ref x0), some (.int x1), some (.int (x2 ||| (0 : Int32))), some (.int x3)] G dX7_fellows_65 (Nat.le_of_ble_eq_true rfl) rfl rfl ?_
          refine v_iinc (x3 + (1 : Int32)) [some (.ref x0), some (.int x1), some (.int (x2 ||| (0 : Int32))), some (.int (x3 + (1 : Int32)))] G dX7_fellows_66 rfl rfl (Nat.le_of_ble_eq_true rfl) rfl rfl ?_
          refine v_goto 20 G dX7_fellows_69 (by decide) ?_
          exact v_mask [true, true, true, true] rfl (ih _ _ h)
        · rw [if_pos q20] at h
          refine v_iconst G (1 : Int32) dX7_fellows_57 (by decide) ?_
          refine v_iload_n G dX7_fellows_58 rfl ?_
          refine v_ishl G dX7_fellows_59 ?_
          refine v_goto 64 G dX7_fellows_60 (by decide) ?_
          refine v_ior G dX7_fellows_64 ?_
          refine v_istore_n [some (.ref x0), some (.int x1), some (.int (x2 ||| ((1 : Int32) <<< (x3 &&& 31)))), some (.int x3)] G dX7_fellows_65 (Nat.le_of_ble_eq_true rfl) rfl rfl ?_
          refine v_iinc (x3 + (1 : Int32)) [some (.ref x0), some (.int x1), some (.int (x2 ||| ((1 : Int32) <<< (x3 &&& 31)))), some (.int (x3 + (1 : Int32)))] G dX7_fellows_66 rfl rfl (Nat.le_of_ble_eq_true rfl) rfl rfl ?_
          refine v_goto 20 G dX7_fellows_69 (by decide) ?_
          exact v_mask [true, true, true, true] rfl (ih _ _ h)
def m_X7_fellows (M : mM) (x0 : Nat) (x1 : Int32) : Option (mM × Int32) :=
  (pI M x0 7 0 (0 : Int32)).bind fun M1 =>
  if isO M1 x0 7 = true then
  (m_X7_isPupil M1 x0 x1).bind fun v4 =>
  if v4 = (0 : Int32) then (
    some (M1, (-1000001 : Int32))
  ) else (
    m_X7_fellows_L20
      (fun v21 =>
        some (M1, v21))
      M1 x0 x1 FU (0 : Int32) (0 : Int32)
  )
  else none
theorem e_X7_fellows {Z : zZ} {M : mM} {N : mM} {x0 : Nat} {x1 : Int32} {r : Int32} (h : m_X7_fellows M x0 x1 = some (N, r)) : EM Z yX7_fellows cX7_fellows 4 (some .int) 2 0 0 [.ref x0, .int x1] M N (some (.int r)) := by
  refine EM_of my_X7_fellows (Nat.le_of_ble_eq_true rfl) (fun X G F => ?_)
  show V X Z M 0 0 0 [some (.ref x0), some (.int x1), none, none] []
  unfold m_X7_fellows at h
  refine v_aload_n G dX7_fellows_0 rfl ?_
  refine v_iconst G (0 : Int32) dX7_fellows_1 (by decide) ?_
  obtain ⟨M1, q2, h⟩ := bi_ h
  refine v_putI (f := 0) G cl7 dX7_fellows_2 w839 (by decide) (by decide) (by decide) rfl rfl q2 ?_
  refine v_aload_n G dX7_fellows_5 rfl ?_
  refine v_iload_n G dX7_fellows_6 rfl ?_
  obtain ⟨q22, h⟩ := if_s h
  obtain ⟨v4, q3, h⟩ := bi_ h
  refine v_callV0 (e_X7_isPupil q3) G cl7 my_X7_isPupil rfl w1074 w41 w1072 dX7_fellows_7 q22 rfl (Nat.le_of_ble_eq_true rfl) rfl (Nat.le_of_ble_eq_true rfl) (Nat.zero_le _) (Nat.zero_le _) ?_
  refine v_if_ne 16 G dX7_fellows_10 (by decide) (fun q5 => ?_) (fun q5 => ?_)
  · rw [if_neg q5] at h
    refine v_iconst G (0 : Int32) dX7_fellows_16 (by decide) ?_
    refine v_istore_n [some (.ref x0), some (.int x1), some (.int (0 : Int32)), none] G dX7_fellows_17 (Nat.le_of_ble_eq_true rfl) rfl rfl ?_
    refine v_iconst G (0 : Int32) dX7_fellows_18 (by decide) ?_
    refine v_istore_n [some (.ref x0), some (.int x1), some (.int (0 : Int32)), some (.int (0 : Int32))] G dX7_fellows_19 (Nat.le_of_ble_eq_true rfl) rfl rfl ?_
    refine v_mask [true, true, true, true] rfl ?_
    refine e_X7_fellows_L20 G (Nat.zero_le _) (Nat.zero_le _) _ _ _ (fun v21 h => ?_) FU _ _ h
    refine v_iload_n G dX7_fellows_72 rfl ?_
    cases h
    exact v_iret G F dX7_fellows_73 rfl (Nat.le_refl _)
  · rw [if_pos q5] at h
    refine v_ldc G (-1000001 : Int32) dX7_fellows_13 w931 ?_
    cases h
    exact v_iret G F dX7_fellows_15 rfl (Nat.le_refl _)
/-! X7_isSo -/
def m_X7_isSo_L6 {ρ : Type} (k0 : mM → Int32 → Option ρ) (x0 : Nat) (x1 : Int32) (x2 : Int32) (x3 : Int32) : Nat → mM → Int32 → Int32 → Option ρ
  | 0, _, _, _ => none
  | n + 1, M, x4, x5 =>
    if x3 ≤ x5 then (
      k0 M x4
    ) else (
      (gR M x0 7 7).bind fun b2 =>
      if isO M x0 7 = true then
      (m_X7_dayBy M x0 b2 (0 : Int32)).bind fun M5 =>
      if x4 = (0 : Int32) then (
        m_X7_isSo_L6 k0 x0 x1 x2 x3 n M5 (0 : Int32) (x5 + (1 : Int32))
      ) else (
        (gR M5 x0 7 7).bind fun b7 =>
        (m_X7_of M5 b7 x1 (2 : Int32)).bind fun v10 =>
        (m_X7_bits M5 v10).bind fun v12 =>
        (gR M5 x0 7 4).bind fun b13 =>
        (ldI M5 b13 (x2 + x5)).bind fun v16 =>
        if v12 = v16 then (
          m_X7_isSo_L6 k0 x0 x1 x2 x3 n M5 (1 : Int32) (x5 + (1 : Int32))
        ) else (
          m_X7_isSo_L6 k0 x0 x1 x2 x3 n M5 (0 : Int32) (x5 + (1 : Int32))
        )
      )
      else none
    )
theorem e_X7_isSo_L6 {X : xX} {Z : zZ} {cn sn : Nat} {ρ : Type} {r : ρ} {k0 : mM → Int32 → Option ρ} (G : ok_ X Z yX7_isSo cX7_isSo 6 4 0 0) (hcn : cn ≤ 0) (hsn : sn ≤ 0) (x0 : Nat) (x1 : Int32) (x2 : Int32) (x3 : Int32)
    (hx0 : ∀ (N : mM) (z4 : Int32), k0 N z4 = some r → V X Z N cn sn 63 [none, none, none, none, some (.int z4), none] []) :
    ∀ (n : Nat) (M : mM) (x4 : Int32) (x5 : Int32), m_X7_isSo_L6 k0 x0 x1 x2 x3 n M x4 x5 = some r → V X Z M cn sn 6 [some (.ref x0), some (.int x1), some (.int x2), some (.int x3), some (.int x4), some (.int x5)] [] := by
  intro n
  induction n with
  | zero => intro M x4 x5 h; rw [m_X7_isSo_L6] at h; cases h
  | succ n ih =>
    intro M x4 x5 h
    rw [m_X7_isSo_L6] at h
    refine v_iload G dX7_isSo_6 rfl ?_
    refine v_iload_n G dX7_isSo_8 rfl ?_
    refine v_ic_ge 63 G dX7_isSo_9 (by decide) (fun q1 => ?_) (fun q1 => ?_)
    · rw [if_pos q1] at h
      exact v_mask [false, false, false, false, true, false] rfl (hx0 _ _ h)
    · rw [if_neg q1] at h
      refine v_aload_n G dX7_isSo_12 rfl ?_
      refine v_aload_n G dX7_isSo_13 rfl ?_
      obtain ⟨b2, q3, h⟩ := bi_ h
      refine v_getR (f := 7) G cl7 dX7_isSo_14 w846 (by decide) (by decide) q3 ?_
      refine v_iconst G (0 : Int32) dX7_isSo_17 (by decide) ?_
      obtain ⟨q18, h⟩ := if_s h
      obtain ⟨M5, q4, h⟩ := bi_ h
      refine v_callV0 (e_X7_dayBy q4) G cl7 my_X7_dayBy rfl w1036 w40 w1034 dX7_isSo_18 q18 rfl (Nat.le_of_ble_eq_true rfl) rfl (Nat.le_of_ble_eq_true rfl) hcn hsn ?_
      refine v_iload G dX7_isSo_21 rfl ?_
      refine v_if_eq 54 G dX7_isSo_23 (by decide) (fun q6 => ?_) (fun q6 => ?_)
      · rw [if_pos q6] at h
        refine v_iconst G (0 : Int32) dX7_isSo_54 (by decide) ?_
        refine v_istore [some (.ref x0), some (.int x1), some (.int x2), some (.int x3), some (.int (0 : Int32)), some (.int x5)] G dX7_isSo_55 (Nat.le_of_ble_eq_true rfl) rfl rfl ?_
        refine v_iinc (x5 + (1 : Int32)) [some (.ref x0), some (.int x1), some (.int x2), some (.int x3), some (.int (0 : Int32)), some (.int (x5 + (1 : Int32)))] G dX7_isSo_57 rfl rfl (Nat.le_of_ble_eq_true rfl) rfl rfl ?_
        refine v_goto 6 G dX7_isSo_60 (by decide) ?_
        exact v_mask [true, true, true, true, true, true] rfl (ih _ _ _ h)
      · rw [if_neg q6] at h
        refine v_aload_n G dX7_isSo_26 rfl ?_
        obtain ⟨b7, q8, h⟩ := bi_ h
        refine v_getR (f := 7) G cl7 dX7_isSo_27 w846 (by decide) (by decide) q8 ?_
        refine v_iload_n G dX7_isSo_30 rfl ?_
        refine v_iconst G (2 : Int32) dX7_isSo_31 (by decide) ?_
        obtain ⟨v10, q9, h⟩ := bi_ h
        refine v_callS0 (e_X7_of q9) G my_X7_of w1045 w1044 dX7_isSo_32 rfl (Nat.le_of_ble_eq_true rfl) rfl (Nat.le_of_ble_eq_true rfl) hcn hsn ?_
        obtain ⟨v12, q11, h⟩ := bi_ h
        refine v_callS0 (e_X7_bits q11) G my_X7_bits w1063 w1062 dX7_isSo_35 rfl (Nat.le_of_ble_eq_true rfl) rfl (Nat.le_of_ble_eq_true rfl) hcn hsn ?_
        refine v_aload_n G dX7_isSo_38 rfl ?_
        obtain ⟨b13, q14, h⟩ := bi_ h
        refine v_getR (f := 4) G cl7 dX7_isSo_39 w843 (by decide) (by decide) q14 ?_
        refine v_iload_n G dX7_isSo_42 rfl ?_
        refine v_iload G dX7_isSo_43 rfl ?_
        refine v_iadd G dX7_isSo_45 ?_
        obtain ⟨v16, q15, h⟩ := bi_ h
        refine v_iald G dX7_isSo_46 q15 ?_
        refine v_ic_ne 54 G dX7_isSo_47 (by decide) (fun q17 => ?_) (fun q17 => ?_)
        · rw [if_neg q17] at h
          refine v_iconst G (0 : Int32) dX7_isSo_54 (by decide) ?_
          refine v_istore [some (.ref x0), some (.int x1), some (.int x2), some (.int x3), some (.int (0 : Int32)), some (.int x5)] G dX7_isSo_55 (Nat.le_of_ble_eq_true rfl) rfl rfl ?_
          refine v_iinc (x5 + (1 : Int32)) [some (.ref x0), some (.int x1), some (.int x2), some (.int x3), some (.int (0 : Int32)), some (.int (x5 + (1 : Int32)))] G dX7_isSo_57 rfl rfl (Nat.le_of_ble_eq_true rfl) rfl rfl ?_
          refine v_goto 6 G dX7_isSo_60 (by decide) ?_
          exact v_mask [true, true, true, true, true, true] rfl (ih _ _ _ h)
        · rw [if_pos q17] at h
          refine v_iconst G (1 : Int32) dX7_isSo_50 (by decide) ?_
          refine v_goto 55 G dX7_isSo_51 (by decide) ?_
          refine v_istore [some (.ref x0), some (.int x1), some (.int x2), some (.int x3), some (.int (1 : Int32)), some (.int x5)] G dX7_isSo_55 (Nat.le_of_ble_eq_true rfl) rfl rfl ?_
          refine v_iinc (x5 + (1 : Int32)) [some (.ref x0), some (.int x1), some (.int x2), some (.int x3), some (.int (1 : Int32)), some (.int (x5 + (1 : Int32)))] G dX7_isSo_57 rfl rfl (Nat.le_of_ble_eq_true rfl) rfl rfl ?_
          refine v_goto 6 G dX7_isSo_60 (by decide) ?_
          exact v_mask [true, true, true, true, true, true] rfl (ih _ _ _ h)
def m_X7_isSo (M : mM) (x0 : Nat) (x1 : Int32) (x2 : Int32) (x3 : Int32) : Option (mM × Int32) :=
  m_X7_isSo_L6
    (fun M19 v20 =>
      if (v20 == 0 || v20 == 1) = true then some (M19, v20) else none)
    x0 x1 x2 x3 FU M (1 : Int32) (0 : Int32)
theorem e_X7_isSo {Z : zZ} {M : mM} {N : mM} {x0 : Nat} {x1 : Int32} {x2 : Int32} {x3 : Int32} {r : Int32} (h : m_X7_isSo M x0 x1 x2 x3 = some (N, r)) : EM Z yX7_isSo cX7_isSo 6 (some .boolean) 4 0 0 [.ref x0, .int x1, .int x2, .int x3] M N (some (.int r)) := by
  refine EM_of my_X7_isSo (Nat.le_of_ble_eq_true rfl) (fun X G F => ?_)
  show V X Z M 0 0 0 [some (.ref x0), some (.int x1), some (.int x2), some (.int x3), none, none] []
  unfold m_X7_isSo at h
  refine v_iconst G (1 : Int32) dX7_isSo_0 (by decide) ?_
  refine v_istore [some (.ref x0), some (.int x1), some (.int x2), some (.int x3), some (.int (1 : Int32)), none] G dX7_isSo_1 (Nat.le_of_ble_eq_true rfl) rfl rfl ?_
  refine v_iconst G (0 : Int32) dX7_isSo_3 (by decide) ?_
  refine v_istore [some (.ref x0), some (.int x1), some (.int x2), some (.int x3), some (.int (1 : Int32)), some (.int (0 : Int32))] G dX7_isSo_4 (Nat.le_of_ble_eq_true rfl) rfl rfl ?_
  refine v_mask [true, true, true, true, true, true] rfl ?_
  refine e_X7_isSo_L6 G (Nat.zero_le _) (Nat.zero_le _) _ _ _ _ (fun M19 v20 h => ?_) FU _ _ _ h
  refine v_iload G dX7_isSo_63 rfl ?_
  obtain ⟨q21, h⟩ := if_s h
  cases h
  exact v_zret G F q21 dX7_isSo_65 rfl (Nat.le_refl _)
/-! X7_rowFound -/
def m_X7_rowFound (M : mM) (x0 : Nat) (x1 : Int32) (x2 : Int32) (x3 : Int32) : Option (mM × Int32) :=
  (gR M x0 7 2).bind fun b1 =>
  (ldI M b1 x1).bind fun v4 =>
  if (0 : Int32) ≤ v4 then (
    if x2 < (0 : Int32) then (
      if isO M x0 7 = true then
      bd2 (m_X7_finding M x0 (2 : Int32)) fun M8 v9 =>
      some (M8, v9)
      else none
    ) else (
      (gR M x0 7 3).bind fun b11 =>
      (ldI M b11 x1).bind fun v14 =>
      if (lg_cmp ((Int32.toInt64 x2) + (Int32.toInt64 x3)) (Int32.toInt64 v14)) ≤ (0 : Int32) then (
        (pI M x0 7 1 (0 : Int32)).bind fun M16 =>
        some (M16, (0 : Int32))
      ) else (
        if isO M x0 7 = true then
        bd2 (m_X7_finding M x0 (2 : Int32)) fun M19 v20 =>
        some (M19, v20)
        else none
      )
    )
  ) else (
    if isO M x0 7 = true then
    bd2 (m_X7_finding M x0 (1 : Int32)) fun M23 v24 =>
    some (M23, v24)
    else none
  )
theorem e_X7_rowFound {Z : zZ} {M : mM} {N : mM} {x0 : Nat} {x1 : Int32} {x2 : Int32} {x3 : Int32} {r : Int32} (h : m_X7_rowFound M x0 x1 x2 x3 = some (N, r)) : EM Z yX7_rowFound cX7_rowFound 4 (some .int) 1 0 0 [.ref x0, .int x1, .int x2, .int x3] M N (some (.int r)) := by
  refine EM_of my_X7_rowFound (Nat.le_of_ble_eq_true rfl) (fun X G F => ?_)
  show V X Z M 0 0 0 [some (.ref x0), some (.int x1), some (.int x2), some (.int x3)] []
  unfold m_X7_rowFound at h
  refine v_aload_n G dX7_rowFound_0 rfl ?_
  obtain ⟨b1, q2, h⟩ := bi_ h
  refine v_getR (f := 2) G cl7 dX7_rowFound_1 w841 (by decide) (by decide) q2 ?_
  refine v_iload_n G dX7_rowFound_4 rfl ?_
  obtain ⟨v4, q3, h⟩ := bi_ h
  refine v_iald G dX7_rowFound_5 q3 ?_
  refine v_if_ge 15 G dX7_rowFound_6 (by decide) (fun q5 => ?_) (fun q5 => ?_)
  · rw [if_pos q5] at h
    refine v_iload_n G dX7_rowFound_15 rfl ?_
    refine v_if_lt 35 G dX7_rowFound_16 (by decide) (fun q6 => ?_) (fun q6 => ?_)
    · rw [if_pos q6] at h
      refine v_aload_n G dX7_rowFound_35 rfl ?_
      refine v_iconst G (2 : Int32) dX7_rowFound_36 (by decide) ?_
      obtain ⟨q10, h⟩ := if_s h
      obtain ⟨M8, v9, q7, h⟩ := bi2_ h
      refine v_callV0 (e_X7_finding q7) G cl7 my_X7_finding rfl w934 w25 w932 dX7_rowFound_37 q10 rfl (Nat.le_of_ble_eq_true rfl) rfl (Nat.le_of_ble_eq_true rfl) (Nat.zero_le _) (Nat.zero_le _) ?_
      cases h
      exact v_iret G F dX7_rowFound_40 rfl (Nat.le_refl _)
    · rw [if_neg q6] at h
      refine v_iload_n G dX7_rowFound_19 rfl ?_
      refine v_i2l G dX7_rowFound_20 ?_
      refine v_iload_n G dX7_rowFound_21 rfl ?_
      refine v_i2l G dX7_rowFound_22 ?_
      refine v_ladd G dX7_rowFound_23 ?_
      refine v_aload_n G dX7_rowFound_24 rfl ?_
      obtain ⟨b11, q12, h⟩ := bi_ h
      refine v_getR (f := 3) G cl7 dX7_rowFound_25 w842 (by decide) (by decide) q12 ?_
      refine v_iload_n G dX7_rowFound_28 rfl ?_
      obtain ⟨v14, q13, h⟩ := bi_ h
      refine v_iald G dX7_rowFound_29 q13 ?_
      refine v_i2l G dX7_rowFound_30 ?_
      refine v_lcmp G dX7_rowFound_31 ?_
      refine v_if_le 41 G dX7_rowFound_32 (by decide) (fun q15 => ?_) (fun q15 => ?_)
      · rw [if_pos q15] at h
        refine v_aload_n G dX7_rowFound_41 rfl ?_
        refine v_iconst G (0 : Int32) dX7_rowFound_42 (by decide) ?_
        obtain ⟨M16, q17, h⟩ := bi_ h
        refine v_putI (f := 1) G cl7 dX7_rowFound_43 w840 (by decide) (by decide) (by decide) rfl rfl q17 ?_
        refine v_iconst G (0 : Int32) dX7_rowFound_46 (by decide) ?_
        cases h
        exact v_iret G F dX7_rowFound_47 rfl (Nat.le_refl _)
      · rw [if_neg q15] at h
        refine v_aload_n G dX7_rowFound_35 rfl ?_
        refine v_iconst G (2 : Int32) dX7_rowFound_36 (by decide) ?_
        obtain ⟨q21, h⟩ := if_s h
        obtain ⟨M19, v20, q18, h⟩ := bi2_ h
        refine v_callV0 (e_X7_finding q18) G cl7 my_X7_finding rfl w934 w25 w932 dX7_rowFound_37 q21 rfl (Nat.le_of_ble_eq_true rfl) rfl (Nat.le_of_ble_eq_true rfl) (Nat.zero_le _) (Nat.zero_le _) ?_
        cases h
        exact v_iret G F dX7_rowFound_40 rfl (Nat.le_refl _)
  · rw [if_neg q5] at h
    refine v_aload_n G dX7_rowFound_9 rfl ?_
    refine v_iconst G (1 : Int32) dX7_rowFound_10 (by decide) ?_
    obtain ⟨q25, h⟩ := if_s h
    obtain ⟨M23, v24, q22, h⟩ := bi2_ h
    refine v_callV0 (e_X7_finding q22) G cl7 my_X7_finding rfl w934 w25 w932 dX7_rowFound_11 q25 rfl (Nat.le_of_ble_eq_true rfl) rfl (Nat.le_of_ble_eq_true rfl) (Nat.zero_le _) (Nat.zero_le _) ?_
    cases h
    exact v_iret G F dX7_rowFound_14 rfl (Nat.le_refl _)
/-! X7_isMany -/
def m_X7_isMany (M : mM) (x0 : Int32) (x1 : Int32) : Option Int32 :=
  (m_X7_isRow M x0).bind fun v2 =>
  if v2 = (0 : Int32) then (
    some (0 : Int32)
  ) else (
    (m_X7_in M (Int32.toInt64 x1) (1 : Int64) (12 : Int64)).bind fun v5 =>
    if v5 = (0 : Int32) then (
      some (0 : Int32)
    ) else (
      some (1 : Int32)
    )
  )
theorem e_X7_isMany {Z : zZ} {M : mM} {x0 : Int32} {x1 : Int32} {r : Int32} (h : m_X7_isMany M x0 x1 = some r) : EM Z yX7_isMany cX7_isMany 2 (some .boolean) 2 0 0 [.int x0, .int x1] M M (some (.int r)) := by
  refine EM_of my_X7_isMany (Nat.le_of_ble_eq_true rfl) (fun X G F => ?_)
  show V X Z M 0 0 0 [some (.int x0), some (.int x1)] []
  unfold m_X7_isMany at h
  refine v_iload_n G dX7_isMany_0 rfl ?_
  obtain ⟨v2, q1, h⟩ := bi_ h
  refine v_callS0 (e_X7_isRow q1) G my_X7_isRow w924 w923 dX7_isMany_1 rfl (Nat.le_of_ble_eq_true rfl) rfl (Nat.le_of_ble_eq_true rfl) (Nat.zero_le _) (Nat.zero_le _) ?_
  refine v_if_eq 23 G dX7_isMany_4 (by decide) (fun q3 => ?_) (fun q3 => ?_)
  · rw [if_pos q3] at h
    refine v_iconst G (0 : Int32) dX7_isMany_23 (by decide) ?_
    cases h
    exact v_zret G F rfl dX7_isMany_24 rfl (Nat.le_refl _)
  · rw [if_neg q3] at h
    refine v_iload_n G dX7_isMany_7 rfl ?_
    refine v_i2l G dX7_isMany_8 ?_
    refine v_lconst G (1 : Int64) dX7_isMany_9 (by decide) ?_
    refine v_ldc2 G (12 : Int64) dX7_isMany_10 w1171 ?_
    obtain ⟨v5, q4, h⟩ := bi_ h
    refine v_callS0 (e_X7_in q4) G my_X7_in w928 w927 dX7_isMany_13 rfl (Nat.le_of_ble_eq_true rfl) rfl (Nat.le_of_ble_eq_true rfl) (Nat.zero_le _) (Nat.zero_le _) ?_
    refine v_if_eq 23 G dX7_isMany_16 (by decide) (fun q6 => ?_) (fun q6 => ?_)
    · rw [if_pos q6] at h
      refine v_iconst G (0 : Int32) dX7_isMany_23 (by decide) ?_
      cases h
      exact v_zret G F rfl dX7_isMany_24 rfl (Nat.le_refl _)
    · rw [if_neg q6] at h
      refine v_iconst G (1 : Int32) dX7_isMany_19 (by decide) ?_
      refine v_goto 24 G dX7_isMany_20 (by decide) ?_
      cases h
      exact v_zret G F rfl dX7_isMany_24 rfl (Nat.le_refl _)
/-! X7_who -/
def m_X7_who_L68 {ρ : Type} (k0 : mM → Int32 → Option ρ) (x0 : Nat) (x1 : Int32) (x2 : Int32) (x3 : Int32) (x4 : Int32) (x5 : Int32) : Nat → mM → Int32 → Int32 → Option ρ
  | 0, _, _, _ => none
  | n + 1, M, x7, x8 =>
    if x2 = (0 : Int32) then (
      if (5 : Int32) < x8 then (
        k0 M x7
      ) else (
        if isO M x0 7 = true then
        (m_X7_layThen M x0).bind fun M51 =>
        if x2 = (0 : Int32) then (
          (gR M51 x0 7 7).bind fun b66 =>
          (m_X7_be M51 b66 x1 (0 : Int32) x8).bind fun M69 =>
          if isO M69 x0 7 = true then
          bd2 (m_X7_isSo M69 x0 x1 (((40 : Int32) * x3) + x4) x5) fun M71 v72 =>
          if v72 = (0 : Int32) then (
            m_X7_who_L68 k0 x0 x1 x2 x3 x4 x5 n M71 (x7 ||| (0 : Int32)) (x8 + (1 : Int32))
          ) else (
            m_X7_who_L68 k0 x0 x1 x2 x3 x4 x5 n M71 (x7 ||| ((1 : Int32) <<< (x8 &&& 31))) (x8 + (1 : Int32))
          )
          else none
        ) else (
          (gR M51 x0 7 7).bind fun b53 =>
          (gR M51 x0 7 7).bind fun b55 =>
          (m_X7_inSeat M51 b55 x8).bind fun v58 =>
          (m_X7_exchange M51 b53 x1 v58).bind fun M60 =>
          if isO M60 x0 7 = true then
          bd2 (m_X7_isSo M60 x0 x1 (((40 : Int32) * x3) + x4) x5) fun M62 v63 =>
          if v63 = (0 : Int32) then (
            m_X7_who_L68 k0 x0 x1 x2 x3 x4 x5 n M62 (x7 ||| (0 : Int32)) (x8 + (1 : Int32))
          ) else (
            m_X7_who_L68 k0 x0 x1 x2 x3 x4 x5 n M62 (x7 ||| ((1 : Int32) <<< (x8 &&& 31))) (x8 + (1 : Int32))
          )
          else none
        )
        else none
      )
    ) else (
      (gR M x0 7 5).bind fun b18 =>
      (ldI M b18 (0 : Int32)).bind fun v21 =>
      if (v21 - (1 : Int32)) < x8 then (
        k0 M x7
      ) else (
        if isO M x0 7 = true then
        (m_X7_layThen M x0).bind fun M24 =>
        if x2 = (0 : Int32) then (
          (gR M24 x0 7 7).bind fun b39 =>
          (m_X7_be M24 b39 x1 (0 : Int32) x8).bind fun M42 =>
          if isO M42 x0 7 = true then
          bd2 (m_X7_isSo M42 x0 x1 (((40 : Int32) * x3) + x4) x5) fun M44 v45 =>
          if v45 = (0 : Int32) then (
            m_X7_who_L68 k0 x0 x1 x2 x3 x4 x5 n M44 (x7 ||| (0 : Int32)) (x8 + (1 : Int32))
          ) else (
            m_X7_who_L68 k0 x0 x1 x2 x3 x4 x5 n M44 (x7 ||| ((1 : Int32) <<< (x8 &&& 31))) (x8 + (1 : Int32))
          )
          else none
        ) else (
          (gR M24 x0 7 7).bind fun b26 =>
          (gR M24 x0 7 7).bind fun b28 =>
          (m_X7_inSeat M24 b28 x8).bind fun v31 =>
          (m_X7_exchange M24 b26 x1 v31).bind fun M33 =>
          if isO M33 x0 7 = true then
          bd2 (m_X7_isSo M33 x0 x1 (((40 : Int32) * x3) + x4) x5) fun M35 v36 =>
          if v36 = (0 : Int32) then (
            m_X7_who_L68 k0 x0 x1 x2 x3 x4 x5 n M35 (x7 ||| (0 : Int32)) (x8 + (1 : Int32))
          ) else (
            m_X7_who_L68 k0 x0 x1 x2 x3 x4 x5 n M35 (x7 ||| ((1 : Int32) <<< (x8 &&& 31))) (x8 + (1 : Int32))
          )
          else none
        )
        else none
      )
    )
theorem e_X7_who_L68 {X : xX} {Z : zZ} {cn sn : Nat} {ρ : Type} {r : ρ} {k0 : mM → Int32 → Option ρ} (G : ok_ X Z yX7_who cX7_who 9 5 0 0) (hcn : cn ≤ 0) (hsn : sn ≤ 0) (x0 : Nat) (x1 : Int32) (x2 : Int32) (x3 : Int32) (x4 : Int32) (x5 : Int32)
    (hx0 : ∀ (N : mM) (z7 : Int32), k0 N z7 = some r → V X Z N cn sn 164 [none, none, none, none, none, none, none, some (.int z7), none] []) :
    ∀ (n : Nat) (M : mM) (x7 : Int32) (x8 : Int32), m_X7_who_L68 k0 x0 x1 x2 x3 x4 x5 n M x7 x8 = some r → V X Z M cn sn 68 [some (.ref x0), some (.int x1), some (.int x2), some (.int x3), some (.int x4), some (.int x5), none, some (.int x7), some (.int x8)] [] := by
  intro n
  induction n with
  | zero => intro M x7 x8 h; rw [m_X7_who_L68] at h; cases h
  | succ n ih =>
    intro M x7 x8 h
    rw [m_X7_who_L68] at h
    refine v_iload G dX7_who_68 rfl ?_
    refine v_iload_n G dX7_who_70 rfl ?_
    refine v_if_ne 78 G dX7_who_71 (by decide) (fun q17 => ?_) (fun q17 => ?_)
    · rw [if_neg q17] at h
      refine v_aload_n G dX7_who_78 rfl ?_
      obtain ⟨b18, q19, h⟩ := bi_ h
      refine v_getR (f := 5) G cl7 dX7_who_79 w844 (by decide) (by decide) q19 ?_
      refine v_iconst G (0 : Int32) dX7_who_82 (by decide) ?_
      obtain ⟨v21, q20, h⟩ := bi_ h
      refine v_iald G dX7_who_83 q20 ?_
      refine v_iconst G (1 : Int32) dX7_who_84 (by decide) ?_
      refine v_isub G dX7_who_85 ?_
      refine v_ic_gt 164 G dX7_who_86 (by decide) (fun q22 => ?_) (fun q22 => ?_)
      · rw [if_pos q22] at h
        exact v_mask [false, false, false, false, false, false, false, true, false] rfl (hx0 _ _ h)
      · rw [if_neg q22] at h
        refine v_aload_n G dX7_who_89 rfl ?_
        obtain ⟨q48, h⟩ := if_s h
        obtain ⟨M24, q23, h⟩ := bi_ h
        refine v_callV0 (e_X7_layThen q23) G cl7 my_X7_layThen rfl w1134 w46 w1132 dX7_who_90 q48 rfl (Nat.le_of_ble_eq_true rfl) rfl (Nat.le_of_ble_eq_true rfl) hcn hsn ?_
        refine v_iload_n G dX7_who_93 rfl ?_
        refine v_if_ne 111 G dX7_who_94 (by decide) (fun q25 => ?_) (fun q25 => ?_)
        · rw [if_neg q25] at h
          refine v_aload_n G dX7_who_111 rfl ?_
          obtain ⟨b26, q27, h⟩ := bi_ h
          refine v_getR (f := 7) G cl7 dX7_who_112 w846 (by decide) (by decide) q27 ?_
          refine v_iload_n G dX7_who_115 rfl ?_
          refine v_aload_n G dX7_who_116 rfl ?_
          obtain ⟨b28, q29, h⟩ := bi_ h
          refine v_getR (f := 7) G cl7 dX7_who_117 w846 (by decide) (by decide) q29 ?_
          refine v_iload G dX7_who_120 rfl ?_
          obtain ⟨v31, q30, h⟩ := bi_ h
          refine v_callS0 (e_X7_inSeat q30) G my_X7_inSeat w1048 w1047 dX7_who_122 rfl (Nat.le_of_ble_eq_true rfl) rfl (Nat.le_of_ble_eq_true rfl) hcn hsn ?_
          obtain ⟨M33, q32, h⟩ := bi_ h
          refine v_callS0 (e_X7_exchange q32) G my_X7_exchange w1077 w1076 dX7_who_125 rfl (Nat.le_of_ble_eq_true rfl) rfl (Nat.le_of_ble_eq_true rfl) hcn hsn ?_
          refine v_iload G dX7_who_128 rfl ?_
          refine v_aload_n G dX7_who_130 rfl ?_
          refine v_iload_n G dX7_who_131 rfl ?_
          refine v_bipush G (40 : Int32) dX7_who_132 (by decide) ?_
          refine v_iload_n G dX7_who_134 rfl ?_
          refine v_imul G dX7_who_135 ?_
          refine v_iload G dX7_who_136 rfl ?_
          refine v_iadd G dX7_who_138 ?_
          refine v_iload G dX7_who_139 rfl ?_
          obtain ⟨q38, h⟩ := if_s h
          obtain ⟨M35, v36, q34, h⟩ := bi2_ h
          refine v_callV0 (e_X7_isSo q34) G cl7 my_X7_isSo rfl w1210 w52 w1208 dX7_who_141 q38 rfl (Nat.le_of_ble_eq_true rfl) rfl (Nat.le_of_ble_eq_true rfl) hcn hsn ?_
          refine v_if_eq 154 G dX7_who_144 (by decide) (fun q37 => ?_) (fun q37 => ?_)
          · rw [if_pos q37] at h
            refine v_iconst G (0 : Int32) dX7_who_154 (by decide) ?_
            refine v_ior G dX7_who_155 ?_
            refine v_istore [some (.ref x0), some (.int x1), some (.int x2), some (.int x3), some (.int x4), some (.int x5), none, some (.int (x7 ||| (0 : Int32))), some (.int x8)] G dX7_who_156 (Nat.le_of_ble_eq_true rfl) rfl rfl ?_
            refine v_iinc (x8 + (1 : Int32)) [some (.ref x0), some (.int x1), some (.int x2), some (.int x3), some (.int x4), some (.int x5), none, some (.int (x7 ||| (0 : Int32))), some (.int (x8 + (1 : Int32)))] G dX7_who_158 rfl rfl (Nat.le_of_ble_eq_true rfl) rfl rfl ?_
            refine v_goto 68 G dX7_who_161 (by decide) ?_
            exact v_mask [true, true, true, true, true, true, false, true, true] rfl (ih _ _ _ h)
          · rw [if_neg q37] at h
            refine v_iconst G (1 : Int32) dX7_who_147 (by decide) ?_
            refine v_iload G dX7_who_148 rfl ?_
            refine v_ishl G dX7_who_150 ?_
            refine v_goto 155 G dX7_who_151 (by decide) ?_
            refine v_ior G dX7_who_155 ?_
            refine v_istore [some (.ref x0), some (.int x1), some (.int x2), some (.int x3), some (.int x4), some (.int x5), none, some (.int (x7 ||| ((1 : Int32) <<< (x8 &&& 31)))), some (.int x8)] G dX7_who_156 (Nat.le_of_ble_eq_true rfl) rfl rfl ?_
            refine v_iinc (x8 + (1 : Int32)) [some (.ref x0), some (.int x1), some (.int x2), some (.int x3), some (.int x4), some (.int x5), none, some (.int (x7 ||| ((1 : Int32) <<< (x8 &&& 31)))), some (.int (x8 + (1 : Int32)))] G dX7_who_158 rfl rfl (Nat.le_of_ble_eq_true rfl) rfl rfl ?_
            refine v_goto 68 G dX7_who_161 (by decide) ?_
            exact v_mask [true, true, true, true, true, true, false, true, true] rfl (ih _ _ _ h)
        · rw [if_pos q25] at h
          refine v_aload_n G dX7_who_97 rfl ?_
          obtain ⟨b39, q40, h⟩ := bi_ h
          refine v_getR (f := 7) G cl7 dX7_who_98 w846 (by decide) (by decide) q40 ?_
          refine v_iload_n G dX7_who_101 rfl ?_
          refine v_iconst G (0 : Int32) dX7_who_102 (by decide) ?_
          refine v_iload G dX7_who_103 rfl ?_
          obtain ⟨M42, q41, h⟩ := bi_ h
          refine v_callS0 (e_X7_be q41) G my_X7_be w1054 w1053 dX7_who_105 rfl (Nat.le_of_ble_eq_true rfl) rfl (Nat.le_of_ble_eq_true rfl) hcn hsn ?_
          refine v_goto 128 G dX7_who_108 (by decide) ?_
          refine v_iload G dX7_who_128 rfl ?_
          refine v_aload_n G dX7_who_130 rfl ?_
          refine v_iload_n G dX7_who_131 rfl ?_
          refine v_bipush G (40 : Int32) dX7_who_132 (by decide) ?_
          refine v_iload_n G dX7_who_134 rfl ?_
          refine v_imul G dX7_who_135 ?_
          refine v_iload G dX7_who_136 rfl ?_
          refine v_iadd G dX7_who_138 ?_
          refine v_iload G dX7_who_139 rfl ?_
          obtain ⟨q47, h⟩ := if_s h
          obtain ⟨M44, v45, q43, h⟩ := bi2_ h
          refine v_callV0 (e_X7_isSo q43) G cl7 my_X7_isSo rfl w1210 w52 w1208 dX7_who_141 q47 rfl (Nat.le_of_ble_eq_true rfl) rfl (Nat.le_of_ble_eq_true rfl) hcn hsn ?_
          refine v_if_eq 154 G dX7_who_144 (by decide) (fun q46 => ?_) (fun q46 => ?_)
          · rw [if_pos q46] at h
            refine v_iconst G (0 : Int32) dX7_who_154 (by decide) ?_
            refine v_ior G dX7_who_155 ?_
            refine v_istore [some (.ref x0), some (.int x1), some (.int x2), some (.int x3), some (.int x4), some (.int x5), none, some (.int (x7 ||| (0 : Int32))), some (.int x8)] G dX7_who_156 (Nat.le_of_ble_eq_true rfl) rfl rfl ?_
            refine v_iinc (x8 + (1 : Int32)) [some (.ref x0), some (.int x1), some (.int x2), some (.int x3), some (.int x4), some (.int x5), none, some (.int (x7 ||| (0 : Int32))), some (.int (x8 + (1 : Int32)))] G dX7_who_158 rfl rfl (Nat.le_of_ble_eq_true rfl) rfl rfl ?_
            refine v_goto 68 G dX7_who_161 (by decide) ?_
            exact v_mask [true, true, true, true, true, true, false, true, true] rfl (ih _ _ _ h)
          · rw [if_neg q46] at h
            refine v_iconst G (1 : Int32) dX7_who_147 (by decide) ?_
            refine v_iload G dX7_who_148 rfl ?_
            refine v_ishl G dX7_who_150 ?_
            refine v_goto 155 G dX7_who_151 (by decide) ?_
            refine v_ior G dX7_who_155 ?_
            refine v_istore [some (.ref x0), some (.int x1), some (.int x2), some (.int x3), some (.int x4), some (.int x5), none, some (.int (x7 ||| ((1 : Int32) <<< (x8 &&& 31)))), some (.int x8)] G dX7_who_156 (Nat.le_of_ble_eq_true rfl) rfl rfl ?_
            refine v_iinc (x8 + (1 : Int32)) [some (.ref x0), some (.int x1), some (.int x2), some (.int x3), some (.int x4), some (.int x5), none, some (.int (x7 ||| ((1 : Int32) <<< (x8 &&& 31)))), some (.int (x8 + (1 : Int32)))] G dX7_who_158 rfl rfl (Nat.le_of_ble_eq_true rfl) rfl rfl ?_
            refine v_goto 68 G dX7_who_161 (by decide) ?_
            exact v_mask [true, true, true, true, true, true, false, true, true] rfl (ih _ _ _ h)
    · rw [if_pos q17] at h
      refine v_iconst G (5 : Int32) dX7_who_74 (by decide) ?_
      refine v_goto 86 G dX7_who_75 (by decide) ?_
      refine v_ic_gt 164 G dX7_who_86 (by decide) (fun q49 => ?_) (fun q49 => ?_)
      · rw [if_pos q49] at h
        exact v_mask [false, false, false, false, false, false, false, true, false] rfl (hx0 _ _ h)
      · rw [if_neg q49] at h
        refine v_aload_n G dX7_who_89 rfl ?_
        obtain ⟨q75, h⟩ := if_s h
        obtain ⟨M51, q50, h⟩ := bi_ h
        refine v_callV0 (e_X7_layThen q50) G cl7 my_X7_layThen rfl w1134 w46 w1132 dX7_who_90 q75 rfl (Nat.le_of_ble_eq_true rfl) rfl (Nat.le_of_ble_eq_true rfl) hcn hsn ?_
        refine v_iload_n G dX7_who_93 rfl ?_
        refine v_if_ne 111 G dX7_who_94 (by decide) (fun q52 => ?_) (fun q52 => ?_)
        · rw [if_neg q52] at h
          refine v_aload_n G dX7_who_111 rfl ?_
          obtain ⟨b53, q54, h⟩ := bi_ h
          refine v_getR (f := 7) G cl7 dX7_who_112 w846 (by decide) (by decide) q54 ?_
          refine v_iload_n G dX7_who_115 rfl ?_
          refine v_aload_n G dX7_who_116 rfl ?_
          obtain ⟨b55, q56, h⟩ := bi_ h
          refine v_getR (f := 7) G cl7 dX7_who_117 w846 (by decide) (by decide) q56 ?_
          refine v_iload G dX7_who_120 rfl ?_
          obtain ⟨v58, q57, h⟩ := bi_ h
          refine v_callS0 (e_X7_inSeat q57) G my_X7_inSeat w1048 w1047 dX7_who_122 rfl (Nat.le_of_ble_eq_true rfl) rfl (Nat.le_of_ble_eq_true rfl) hcn hsn ?_
          obtain ⟨M60, q59, h⟩ := bi_ h
          refine v_callS0 (e_X7_exchange q59) G my_X7_exchange w1077 w1076 dX7_who_125 rfl (Nat.le_of_ble_eq_true rfl) rfl (Nat.le_of_ble_eq_true rfl) hcn hsn ?_
          refine v_iload G dX7_who_128 rfl ?_
          refine v_aload_n G dX7_who_130 rfl ?_
          refine v_iload_n G dX7_who_131 rfl ?_
          refine v_bipush G (40 : Int32) dX7_who_132 (by decide) ?_
          refine v_iload_n G dX7_who_134 rfl ?_
          refine v_imul G dX7_who_135 ?_
          refine v_iload G dX7_who_136 rfl ?_
          refine v_iadd G dX7_who_138 ?_
          refine v_iload G dX7_who_139 rfl ?_
          obtain ⟨q65, h⟩ := if_s h
          obtain ⟨M62, v63, q61, h⟩ := bi2_ h
          refine v_callV0 (e_X7_isSo q61) G cl7 my_X7_isSo rfl w1210 w52 w1208 dX7_who_141 q65 rfl (Nat.le_of_ble_eq_true rfl) rfl (Nat.le_of_ble_eq_true rfl) hcn hsn ?_
          refine v_if_eq 154 G dX7_who_144 (by decide) (fun q64 => ?_) (fun q64 => ?_)
          · rw [if_pos q64] at h
            refine v_iconst G (0 : Int32) dX7_who_154 (by decide) ?_
            refine v_ior G dX7_who_155 ?_
            refine v_istore [some (.ref x0), some (.int x1), some (.int x2), some (.int x3), some (.int x4), some (.int x5), none, some (.int (x7 ||| (0 : Int32))), some (.int x8)] G dX7_who_156 (Nat.le_of_ble_eq_true rfl) rfl rfl ?_
            refine v_iinc (x8 + (1 : Int32)) [some (.ref x0), some (.int x1), some (.int x2), some (.int x3), some (.int x4), some (.int x5), none, some (.int (x7 ||| (0 : Int32))), some (.int (x8 + (1 : Int32)))] G dX7_who_158 rfl rfl (Nat.le_of_ble_eq_true rfl) rfl rfl ?_
            refine v_goto 68 G dX7_who_161 (by decide) ?_
            exact v_mask [true, true, true, true, true, true, false, true, true] rfl (ih _ _ _ h)
          · rw [if_neg q64] at h
            refine v_iconst G (1 : Int32) dX7_who_147 (by decide) ?_
            refine v_iload G dX7_who_148 rfl ?_
            refine v_ishl G dX7_who_150 ?_
            refine v_goto 155 G dX7_who_151 (by decide) ?_
            refine v_ior G dX7_who_155 ?_
            refine v_istore [some (.ref x0), some (.int x1), some (.int x2), some (.int x3), some (.int x4), some (.int x5), none, some (.int (x7 ||| ((1 : Int32) <<< (x8 &&& 31)))), some (.int x8)] G dX7_who_156 (Nat.le_of_ble_eq_true rfl) rfl rfl ?_
            refine v_iinc (x8 + (1 : Int32)) [some (.ref x0), some (.int x1), some (.int x2), some (.int x3), some (.int x4), some (.int x5), none, some (.int (x7 ||| ((1 : Int32) <<< (x8 &&& 31)))), some (.int (x8 + (1 : Int32)))] G dX7_who_158 rfl rfl (Nat.le_of_ble_eq_true rfl) rfl rfl ?_
            refine v_goto 68 G dX7_who_161 (by decide) ?_
            exact v_mask [true, true, true, true, true, true, false, true, true] rfl (ih _ _ _ h)
        · rw [if_pos q52] at h
          refine v_aload_n G dX7_who_97 rfl ?_
          obtain ⟨b66, q67, h⟩ := bi_ h
          refine v_getR (f := 7) G cl7 dX7_who_98 w846 (by decide) (by decide) q67 ?_
          refine v_iload_n G dX7_who_101 rfl ?_
          refine v_iconst G (0 : Int32) dX7_who_102 (by decide) ?_
          refine v_iload G dX7_who_103 rfl ?_
          obtain ⟨M69, q68, h⟩ := bi_ h
          refine v_callS0 (e_X7_be q68) G my_X7_be w1054 w1053 dX7_who_105 rfl (Nat.le_of_ble_eq_true rfl) rfl (Nat.le_of_ble_eq_true rfl) hcn hsn ?_
          refine v_goto 128 G dX7_who_108 (by decide) ?_
          refine v_iload G dX7_who_128 rfl ?_
          refine v_aload_n G dX7_who_130 rfl ?_
          refine v_iload_n G dX7_who_131 rfl ?_
          refine v_bipush G (40 : Int32) dX7_who_132 (by decide) ?_
          refine v_iload_n G dX7_who_134 rfl ?_
          refine v_imul G dX7_who_135 ?_
          refine v_iload G dX7_who_136 rfl ?_
          refine v_iadd G dX7_who_138 ?_
          refine v_iload G dX7_who_139 rfl ?_
          obtain ⟨q74, h⟩ := if_s h
          obtain ⟨M71, v72, q70, h⟩ := bi2_ h
          refine v_callV0 (e_X7_isSo q70) G cl7 my_X7_isSo rfl w1210 w52 w1208 dX7_who_141 q74 rfl (Nat.le_of_ble_eq_true rfl) rfl (Nat.le_of_ble_eq_true rfl) hcn hsn ?_
          refine v_if_eq 154 G dX7_who_144 (by decide) (fun q73 => ?_) (fun q73 => ?_)
          · rw [if_pos q73] at h
            refine v_iconst G (0 : Int32) dX7_who_154 (by decide) ?_
            refine v_ior G dX7_who_155 ?_
            refine v_istore [some (.ref x0), some (.int x1), some (.int x2), some (.int x3), some (.int x4), some (.int x5), none, some (.int (x7 ||| (0 : Int32))), some (.int x8)] G dX7_who_156 (Nat.le_of_ble_eq_true rfl) rfl rfl ?_
            refine v_iinc (x8 + (1 : Int32)) [some (.ref x0), some (.int x1), some (.int x2), some (.int x3), some (.int x4), some (.int x5), none, some (.int (x7 ||| (0 : Int32))), some (.int (x8 + (1 : Int32)))] G dX7_who_158 rfl rfl (Nat.le_of_ble_eq_true rfl) rfl rfl ?_
            refine v_goto 68 G dX7_who_161 (by decide) ?_
            exact v_mask [true, true, true, true, true, true, false, true, true] rfl (ih _ _ _ h)
          · rw [if_neg q73] at h
            refine v_iconst G (1 : Int32) dX7_who_147 (by decide) ?_
            refine v_iload G dX7_who_148 rfl ?_
            refine v_ishl G dX7_who_150 ?_
            refine v_goto 155 G dX7_who_151 (by decide) ?_
            refine v_ior G dX7_who_155 ?_
            refine v_istore [some (.ref x0), some (.int x1), some (.int x2), some (.int x3), some (.int x4), some (.int x5), none, some (.int (x7 ||| ((1 : Int32) <<< (x8 &&& 31)))), some (.int x8)] G dX7_who_156 (Nat.le_of_ble_eq_true rfl) rfl rfl ?_
            refine v_iinc (x8 + (1 : Int32)) [some (.ref x0), some (.int x1), some (.int x2), some (.int x3), some (.int x4), some (.int x5), none, some (.int (x7 ||| ((1 : Int32) <<< (x8 &&& 31)))), some (.int (x8 + (1 : Int32)))] G dX7_who_158 rfl rfl (Nat.le_of_ble_eq_true rfl) rfl rfl ?_
            refine v_goto 68 G dX7_who_161 (by decide) ?_
            exact v_mask [true, true, true, true, true, true, false, true, true] rfl (ih _ _ _ h)
def m_X7_who (M : mM) (x0 : Nat) (x1 : Int32) (x2 : Int32) (x3 : Int32) (x4 : Int32) (x5 : Int32) : Option (mM × Int32) :=
  (pI M x0 7 0 (0 : Int32)).bind fun M1 =>
  if isO M1 x0 7 = true then
  (m_X7_isPupil M1 x0 x1).bind fun v4 =>
  if v4 = (0 : Int32) then (
    some (M1, (-1000001 : Int32))
  ) else (
    (m_X7_in M1 (Int32.toInt64 x2) (0 : Int64) (1 : Int64)).bind fun v7 =>
    if v7 = (0 : Int32) then (
      some (M1, (-1000001 : Int32))
    ) else (
      (m_X7_isMany M1 x3 x5).bind fun v10 =>
      if v10 = (0 : Int32) then (
        some (M1, (-1000001 : Int32))
      ) else (
        if isO M1 x0 7 = true then
        bd2 (m_X7_rowFound M1 x0 x3 x4 x5) fun M13 v14 =>
        if v14 = (0 : Int32) then (
          if x2 = (0 : Int32) then (
            m_X7_who_L68
              (fun M78 v79 =>
                some (M78, v79))
              x0 x1 x2 x3 x4 x5 FU M13 (0 : Int32) (1 : Int32)
          ) else (
            m_X7_who_L68
              (fun M76 v77 =>
                some (M76, v77))
              x0 x1 x2 x3 x4 x5 FU M13 (0 : Int32) (0 : Int32)
          )
        ) else (
          some (M13, v14)
        )
        else none
      )
    )
  )
  else none
theorem e_X7_who {Z : zZ} {M : mM} {N : mM} {x0 : Nat} {x1 : Int32} {x2 : Int32} {x3 : Int32} {x4 : Int32} {x5 : Int32} {r : Int32} (h : m_X7_who M x0 x1 x2 x3 x4 x5 = some (N, r)) : EM Z yX7_who cX7_who 9 (some .int) 5 0 0 [.ref x0, .int x1, .int x2, .int x3, .int x4, .int x5] M N (some (.int r)) := by
  refine EM_of my_X7_who (Nat.le_of_ble_eq_true rfl) (fun X G F => ?_)
  show V X Z M 0 0 0 [some (.ref x0), some (.int x1), some (.int x2), some (.int x3), some (.int x4), some (.int x5), none, none, none] []
  unfold m_X7_who at h
  refine v_aload_n G dX7_who_0 rfl ?_
  refine v_iconst G (0 : Int32) dX7_who_1 (by decide) ?_
  obtain ⟨M1, q2, h⟩ := bi_ h
  refine v_putI (f := 0) G cl7 dX7_who_2 w839 (by decide) (by decide) (by decide) rfl rfl q2 ?_
  refine v_aload_n G dX7_who_5 rfl ?_
  refine v_iload_n G dX7_who_6 rfl ?_
  obtain ⟨q81, h⟩ := if_s h
  obtain ⟨v4, q3, h⟩ := bi_ h
  refine v_callV0 (e_X7_isPupil q3) G cl7 my_X7_isPupil rfl w1074 w41 w1072 dX7_who_7 q81 rfl (Nat.le_of_ble_eq_true rfl) rfl (Nat.le_of_ble_eq_true rfl) (Nat.zero_le _) (Nat.zero_le _) ?_
  refine v_if_eq 32 G dX7_who_10 (by decide) (fun q5 => ?_) (fun q5 => ?_)
  · rw [if_pos q5] at h
    refine v_ldc G (-1000001 : Int32) dX7_who_32 w931 ?_
    cases h
    exact v_iret G F dX7_who_34 rfl (Nat.le_refl _)
  · rw [if_neg q5] at h
    refine v_iload_n G dX7_who_13 rfl ?_
    refine v_i2l G dX7_who_14 ?_
    refine v_lconst G (0 : Int64) dX7_who_15 (by decide) ?_
    refine v_lconst G (1 : Int64) dX7_who_16 (by decide) ?_
    obtain ⟨v7, q6, h⟩ := bi_ h
    refine v_callS0 (e_X7_in q6) G my_X7_in w928 w927 dX7_who_17 rfl (Nat.le_of_ble_eq_true rfl) rfl (Nat.le_of_ble_eq_true rfl) (Nat.zero_le _) (Nat.zero_le _) ?_
    refine v_if_eq 32 G dX7_who_20 (by decide) (fun q8 => ?_) (fun q8 => ?_)
    · rw [if_pos q8] at h
      refine v_ldc G (-1000001 : Int32) dX7_who_32 w931 ?_
      cases h
      exact v_iret G F dX7_who_34 rfl (Nat.le_refl _)
    · rw [if_neg q8] at h
      refine v_iload_n G dX7_who_23 rfl ?_
      refine v_iload G dX7_who_24 rfl ?_
      obtain ⟨v10, q9, h⟩ := bi_ h
      refine v_callS0 (e_X7_isMany q9) G my_X7_isMany w1202 w1201 dX7_who_26 rfl (Nat.le_of_ble_eq_true rfl) rfl (Nat.le_of_ble_eq_true rfl) (Nat.zero_le _) (Nat.zero_le _) ?_
      refine v_if_ne 35 G dX7_who_29 (by decide) (fun q11 => ?_) (fun q11 => ?_)
      · rw [if_neg q11] at h
        refine v_aload_n G dX7_who_35 rfl ?_
        refine v_iload_n G dX7_who_36 rfl ?_
        refine v_iload G dX7_who_37 rfl ?_
        refine v_iload G dX7_who_39 rfl ?_
        obtain ⟨q80, h⟩ := if_s h
        obtain ⟨M13, v14, q12, h⟩ := bi2_ h
        refine v_callV0 (e_X7_rowFound q12) G cl7 my_X7_rowFound rfl w1206 w51 w1204 dX7_who_41 q80 rfl (Nat.le_of_ble_eq_true rfl) rfl (Nat.le_of_ble_eq_true rfl) (Nat.zero_le _) (Nat.zero_le _) ?_
        refine v_istore [some (.ref x0), some (.int x1), some (.int x2), some (.int x3), some (.int x4), some (.int x5), some (.int v14), none, none] G dX7_who_44 (Nat.le_of_ble_eq_true rfl) rfl rfl ?_
        refine v_iload G dX7_who_46 rfl ?_
        refine v_if_eq 54 G dX7_who_48 (by decide) (fun q15 => ?_) (fun q15 => ?_)
        · rw [if_pos q15] at h
          refine v_iconst G (0 : Int32) dX7_who_54 (by decide) ?_
          refine v_istore [some (.ref x0), some (.int x1), some (.int x2), some (.int x3), some (.int x4), some (.int x5), some (.int v14), some (.int (0 : Int32)), none] G dX7_who_55 (Nat.le_of_ble_eq_true rfl) rfl rfl ?_
          refine v_iload_n G dX7_who_57 rfl ?_
          refine v_if_ne 65 G dX7_who_58 (by decide) (fun q16 => ?_) (fun q16 => ?_)
          · rw [if_neg q16] at h
            refine v_iconst G (0 : Int32) dX7_who_65 (by decide) ?_
            refine v_istore [some (.ref x0), some (.int x1), some (.int x2), some (.int x3), some (.int x4), some (.int x5), some (.int v14), some (.int (0 : Int32)), some (.int (0 : Int32))] G dX7_who_66 (Nat.le_of_ble_eq_true rfl) rfl rfl ?_
            refine v_mask [true, true, true, true, true, true, false, true, true] rfl ?_
            refine e_X7_who_L68 G (Nat.zero_le _) (Nat.zero_le _) _ _ _ _ _ _ (fun M76 v77 h => ?_) FU _ _ _ h
            refine v_iload G dX7_who_164 rfl ?_
            cases h
            exact v_iret G F dX7_who_166 rfl (Nat.le_refl _)
          · rw [if_pos q16] at h
            refine v_iconst G (1 : Int32) dX7_who_61 (by decide) ?_
            refine v_goto 66 G dX7_who_62 (by decide) ?_
            refine v_istore [some (.ref x0), some (.int x1), some (.int x2), some (.int x3), some (.int x4), some (.int x5), some (.int v14), some (.int (0 : Int32)), some (.int (1 : Int32))] G dX7_who_66 (Nat.le_of_ble_eq_true rfl) rfl rfl ?_
            refine v_mask [true, true, true, true, true, true, false, true, true] rfl ?_
            refine e_X7_who_L68 G (Nat.zero_le _) (Nat.zero_le _) _ _ _ _ _ _ (fun M78 v79 h => ?_) FU _ _ _ h
            refine v_iload G dX7_who_164 rfl ?_
            cases h
            exact v_iret G F dX7_who_166 rfl (Nat.le_refl _)
        · rw [if_neg q15] at h
          refine v_iload G dX7_who_51 rfl ?_
          cases h
          exact v_iret G F dX7_who_53 rfl (Nat.le_refl _)
      · rw [if_pos q11] at h
        refine v_ldc G (-1000001 : Int32) dX7_who_32 w931 ?_
        cases h
        exact v_iret G F dX7_who_34 rfl (Nat.le_refl _)
/-! X7_what -/
def m_X7_what_L63 {ρ : Type} (k0 : mM → Int32 → Option ρ) (x0 : Nat) (x1 : Int32) (x2 : Int32) (x3 : Int32) (x4 : Int32) (x5 : Int32) : Nat → mM → Int32 → Int32 → Option ρ
  | 0, _, _, _ => none
  | n + 1, M, x7, x8 =>
    if x1 = (-1 : Int32) then (
      if (6 : Int32) < x8 then (
        k0 M x7
      ) else (
        if isO M x0 7 = true then
        (m_X7_layThen M x0).bind fun M42 =>
        (gR M42 x0 7 7).bind fun b43 =>
        if x1 = (-1 : Int32) then (
          (stI M42 b43 (4 : Int32) x8).bind fun M53 =>
          if isO M53 x0 7 = true then
          bd2 (m_X7_isSo M53 x0 x2 (((40 : Int32) * x3) + x4) x5) fun M56 v57 =>
          if v57 = (0 : Int32) then (
            m_X7_what_L63 k0 x0 x1 x2 x3 x4 x5 n M56 (x7 ||| (0 : Int32)) (x8 + (1 : Int32))
          ) else (
            m_X7_what_L63 k0 x0 x1 x2 x3 x4 x5 n M56 (x7 ||| ((1 : Int32) <<< (x8 &&& 31))) (x8 + (1 : Int32))
          )
          else none
        ) else (
          (stI M42 b43 ((11 : Int32) + x1) x8).bind fun M46 =>
          if isO M46 x0 7 = true then
          bd2 (m_X7_isSo M46 x0 x2 (((40 : Int32) * x3) + x4) x5) fun M49 v50 =>
          if v50 = (0 : Int32) then (
            m_X7_what_L63 k0 x0 x1 x2 x3 x4 x5 n M49 (x7 ||| (0 : Int32)) (x8 + (1 : Int32))
          ) else (
            m_X7_what_L63 k0 x0 x1 x2 x3 x4 x5 n M49 (x7 ||| ((1 : Int32) <<< (x8 &&& 31))) (x8 + (1 : Int32))
          )
          else none
        )
        else none
      )
    ) else (
      (gR M x0 7 5).bind fun b15 =>
      (ldI M b15 (1 : Int32)).bind fun v18 =>
      if (v18 - (1 : Int32)) < x8 then (
        k0 M x7
      ) else (
        if isO M x0 7 = true then
        (m_X7_layThen M x0).bind fun M21 =>
        (gR M21 x0 7 7).bind fun b22 =>
        if x1 = (-1 : Int32) then (
          (stI M21 b22 (4 : Int32) x8).bind fun M32 =>
          if isO M32 x0 7 = true then
          bd2 (m_X7_isSo M32 x0 x2 (((40 : Int32) * x3) + x4) x5) fun M35 v36 =>
          if v36 = (0 : Int32) then (
            m_X7_what_L63 k0 x0 x1 x2 x3 x4 x5 n M35 (x7 ||| (0 : Int32)) (x8 + (1 : Int32))
          ) else (
            m_X7_what_L63 k0 x0 x1 x2 x3 x4 x5 n M35 (x7 ||| ((1 : Int32) <<< (x8 &&& 31))) (x8 + (1 : Int32))
          )
          else none
        ) else (
          (stI M21 b22 ((11 : Int32) + x1) x8).bind fun M25 =>
          if isO M25 x0 7 = true then
          bd2 (m_X7_isSo M25 x0 x2 (((40 : Int32) * x3) + x4) x5) fun M28 v29 =>
          if v29 = (0 : Int32) then (
            m_X7_what_L63 k0 x0 x1 x2 x3 x4 x5 n M28 (x7 ||| (0 : Int32)) (x8 + (1 : Int32))
          ) else (
            m_X7_what_L63 k0 x0 x1 x2 x3 x4 x5 n M28 (x7 ||| ((1 : Int32) <<< (x8 &&& 31))) (x8 + (1 : Int32))
          )
          else none
        )
        else none
      )
    )
theorem e_X7_what_L63 {X : xX} {Z : zZ} {cn sn : Nat} {ρ : Type} {r : ρ} {k0 : mM → Int32 → Option ρ} (G : ok_ X Z yX7_what cX7_what 9 5 0 0) (hcn : cn ≤ 0) (hsn : sn ≤ 0) (x0 : Nat) (x1 : Int32) (x2 : Int32) (x3 : Int32) (x4 : Int32) (x5 : Int32)
    (hx0 : ∀ (N : mM) (z7 : Int32), k0 N z7 = some r → V X Z N cn sn 146 [none, none, none, none, none, none, none, some (.int z7), none] []) :
    ∀ (n : Nat) (M : mM) (x7 : Int32) (x8 : Int32), m_X7_what_L63 k0 x0 x1 x2 x3 x4 x5 n M x7 x8 = some r → V X Z M cn sn 63 [some (.ref x0), some (.int x1), some (.int x2), some (.int x3), some (.int x4), some (.int x5), none, some (.int x7), some (.int x8)] [] := by
  intro n
  induction n with
  | zero => intro M x7 x8 h; rw [m_X7_what_L63] at h; cases h
  | succ n ih =>
    intro M x7 x8 h
    rw [m_X7_what_L63] at h
    refine v_iload G dX7_what_63 rfl ?_
    refine v_iload_n G dX7_what_65 rfl ?_
    refine v_iconst G (-1 : Int32) dX7_what_66 (by decide) ?_
    refine v_ic_ne 75 G dX7_what_67 (by decide) (fun q14 => ?_) (fun q14 => ?_)
    · rw [if_neg q14] at h
      refine v_aload_n G dX7_what_75 rfl ?_
      obtain ⟨b15, q16, h⟩ := bi_ h
      refine v_getR (f := 5) G cl7 dX7_what_76 w844 (by decide) (by decide) q16 ?_
      refine v_iconst G (1 : Int32) dX7_what_79 (by decide) ?_
      obtain ⟨v18, q17, h⟩ := bi_ h
      refine v_iald G dX7_what_80 q17 ?_
      refine v_iconst G (1 : Int32) dX7_what_81 (by decide) ?_
      refine v_isub G dX7_what_82 ?_
      refine v_ic_gt 146 G dX7_what_83 (by decide) (fun q19 => ?_) (fun q19 => ?_)
      · rw [if_pos q19] at h
        exact v_mask [false, false, false, false, false, false, false, true, false] rfl (hx0 _ _ h)
      · rw [if_neg q19] at h
        refine v_aload_n G dX7_what_86 rfl ?_
        obtain ⟨q39, h⟩ := if_s h
        obtain ⟨M21, q20, h⟩ := bi_ h
        refine v_callV0 (e_X7_layThen q20) G cl7 my_X7_layThen rfl w1134 w46 w1132 dX7_what_87 q39 rfl (Nat.le_of_ble_eq_true rfl) rfl (Nat.le_of_ble_eq_true rfl) hcn hsn ?_
        refine v_aload_n G dX7_what_90 rfl ?_
        obtain ⟨b22, q23, h⟩ := bi_ h
        refine v_getR (f := 7) G cl7 dX7_what_91 w846 (by decide) (by decide) q23 ?_
        refine v_iload_n G dX7_what_94 rfl ?_
        refine v_iconst G (-1 : Int32) dX7_what_95 (by decide) ?_
        refine v_ic_ne 103 G dX7_what_96 (by decide) (fun q24 => ?_) (fun q24 => ?_)
        · rw [if_neg q24] at h
          refine v_bipush G (11 : Int32) dX7_what_103 (by decide) ?_
          refine v_iload_n G dX7_what_105 rfl ?_
          refine v_iadd G dX7_what_106 ?_
          refine v_iload G dX7_what_107 rfl ?_
          obtain ⟨M25, q26, h⟩ := bi_ h
          refine v_iast G dX7_what_109 q26 ?_
          refine v_iload G dX7_what_110 rfl ?_
          refine v_aload_n G dX7_what_112 rfl ?_
          refine v_iload_n G dX7_what_113 rfl ?_
          refine v_bipush G (40 : Int32) dX7_what_114 (by decide) ?_
          refine v_iload_n G dX7_what_116 rfl ?_
          refine v_imul G dX7_what_117 ?_
          refine v_iload G dX7_what_118 rfl ?_
          refine v_iadd G dX7_what_120 ?_
          refine v_iload G dX7_what_121 rfl ?_
          obtain ⟨q31, h⟩ := if_s h
          obtain ⟨M28, v29, q27, h⟩ := bi2_ h
          refine v_callV0 (e_X7_isSo q27) G cl7 my_X7_isSo rfl w1210 w52 w1208 dX7_what_123 q31 rfl (Nat.le_of_ble_eq_true rfl) rfl (Nat.le_of_ble_eq_true rfl) hcn hsn ?_
          refine v_if_eq 136 G dX7_what_126 (by decide) (fun q30 => ?_) (fun q30 => ?_)
          · rw [if_pos q30] at h
            refine v_iconst G (0 : Int32) dX7_what_136 (by decide) ?_
            refine v_ior G dX7_what_137 ?_
            refine v_istore [some (.ref x0), some (.int x1), some (.int x2), some (.int x3), some (.int x4), some (.int x5), none, some (.int (x7 ||| (0 : Int32))), some (.int x8)] G dX7_what_138 (Nat.le_of_ble_eq_true rfl) rfl rfl ?_
            refine v_iinc (x8 + (1 : Int32)) [some (.ref x0), some (.int x1), some (.int x2), some (.int x3), some (.int x4), some (.int x5), none, some (.int (x7 ||| (0 : Int32))), some (.int (x8 + (1 : Int32)))] G dX7_what_140 rfl rfl (Nat.le_of_ble_eq_true rfl) rfl rfl ?_
            refine v_goto 63 G dX7_what_143 (by decide) ?_
            exact v_mask [true, true, true, true, true, true, false, true, true] rfl (ih _ _ _ h)
          · rw [if_neg q30] at h
            refine v_iconst G (1 : Int32) dX7_what_129 (by decide) ?_
            refine v_iload G dX7_what_130 rfl ?_
            refine v_ishl G dX7_what_132 ?_
            refine v_goto 137 G dX7_what_133 (by decide) ?_
            refine v_ior G dX7_what_137 ?_
            refine v_istore [some (.ref x0), some (.int x1), some (.int x2), some (.int x3), some (.int x4), some (.int x5), none, some (.int (x7 ||| ((1 : Int32) <<< (x8 &&& 31)))), some (.int x8)] G dX7_what_138 (Nat.le_of_ble_eq_true rfl) rfl rfl ?_
            refine v_iinc (x8 + (1 : Int32)) [some (.ref x0), some (.int x1), some (.int x2), some (.int x3), some (.int x4), some (.int x5), none, some (.int (x7 ||| ((1 : Int32) <<< (x8 &&& 31)))), some (.int (x8 + (1 : Int32)))] G dX7_what_140 rfl rfl (Nat.le_of_ble_eq_true rfl) rfl rfl ?_
            refine v_goto 63 G dX7_what_143 (by decide) ?_
            exact v_mask [true, true, true, true, true, true, false, true, true] rfl (ih _ _ _ h)
        · rw [if_pos q24] at h
          refine v_iconst G (4 : Int32) dX7_what_99 (by decide) ?_
          refine v_goto 107 G dX7_what_100 (by decide) ?_
          refine v_iload G dX7_what_107 rfl ?_
          obtain ⟨M32, q33, h⟩ := bi_ h
          refine v_iast G dX7_what_109 q33 ?_
          refine v_iload G dX7_what_110 rfl ?_
          refine v_aload_n G dX7_what_112 rfl ?_
          refine v_iload_n G dX7_what_113 rfl ?_
          refine v_bipush G (40 : Int32) dX7_what_114 (by decide) ?_
          refine v_iload_n G dX7_what_116 rfl ?_
          refine v_imul G dX7_what_117 ?_
          refine v_iload G dX7_what_118 rfl ?_
          refine v_iadd G dX7_what_120 ?_
          refine v_iload G dX7_what_121 rfl ?_
          obtain ⟨q38, h⟩ := if_s h
          obtain ⟨M35, v36, q34, h⟩ := bi2_ h
          refine v_callV0 (e_X7_isSo q34) G cl7 my_X7_isSo rfl w1210 w52 w1208 dX7_what_123 q38 rfl (Nat.le_of_ble_eq_true rfl) rfl (Nat.le_of_ble_eq_true rfl) hcn hsn ?_
          refine v_if_eq 136 G dX7_what_126 (by decide) (fun q37 => ?_) (fun q37 => ?_)
          · rw [if_pos q37] at h
            refine v_iconst G (0 : Int32) dX7_what_136 (by decide) ?_
            refine v_ior G dX7_what_137 ?_
            refine v_istore [some (.ref x0), some (.int x1), some (.int x2), some (.int x3), some (.int x4), some (.int x5), none, some (.int (x7 ||| (0 : Int32))), some (.int x8)] G dX7_what_138 (Nat.le_of_ble_eq_true rfl) rfl rfl ?_
            refine v_iinc (x8 + (1 : Int32)) [some (.ref x0), some (.int x1), some (.int x2), some (.int x3), some (.int x4), some (.int x5), none, some (.int (x7 ||| (0 : Int32))), some (.int (x8 + (1 : Int32)))] G dX7_what_140 rfl rfl (Nat.le_of_ble_eq_true rfl) rfl rfl ?_
            refine v_goto 63 G dX7_what_143 (by decide) ?_
            exact v_mask [true, true, true, true, true, true, false, true, true] rfl (ih _ _ _ h)
          · rw [if_neg q37] at h
            refine v_iconst G (1 : Int32) dX7_what_129 (by decide) ?_
            refine v_iload G dX7_what_130 rfl ?_
            refine v_ishl G dX7_what_132 ?_
            refine v_goto 137 G dX7_what_133 (by decide) ?_
            refine v_ior G dX7_what_137 ?_
            refine v_istore [some (.ref x0), some (.int x1), some (.int x2), some (.int x3), some (.int x4), some (.int x5), none, some (.int (x7 ||| ((1 : Int32) <<< (x8 &&& 31)))), some (.int x8)] G dX7_what_138 (Nat.le_of_ble_eq_true rfl) rfl rfl ?_
            refine v_iinc (x8 + (1 : Int32)) [some (.ref x0), some (.int x1), some (.int x2), some (.int x3), some (.int x4), some (.int x5), none, some (.int (x7 ||| ((1 : Int32) <<< (x8 &&& 31)))), some (.int (x8 + (1 : Int32)))] G dX7_what_140 rfl rfl (Nat.le_of_ble_eq_true rfl) rfl rfl ?_
            refine v_goto 63 G dX7_what_143 (by decide) ?_
            exact v_mask [true, true, true, true, true, true, false, true, true] rfl (ih _ _ _ h)
    · rw [if_pos q14] at h
      refine v_bipush G (6 : Int32) dX7_what_70 (by decide) ?_
      refine v_goto 83 G dX7_what_72 (by decide) ?_
      refine v_ic_gt 146 G dX7_what_83 (by decide) (fun q40 => ?_) (fun q40 => ?_)
      · rw [if_pos q40] at h
        exact v_mask [false, false, false, false, false, false, false, true, false] rfl (hx0 _ _ h)
      · rw [if_neg q40] at h
        refine v_aload_n G dX7_what_86 rfl ?_
        obtain ⟨q60, h⟩ := if_s h
        obtain ⟨M42, q41, h⟩ := bi_ h
        refine v_callV0 (e_X7_layThen q41) G cl7 my_X7_layThen rfl w1134 w46 w1132 dX7_what_87 q60 rfl (Nat.le_of_ble_eq_true rfl) rfl (Nat.le_of_ble_eq_true rfl) hcn hsn ?_
        refine v_aload_n G dX7_what_90 rfl ?_
        obtain ⟨b43, q44, h⟩ := bi_ h
        refine v_getR (f := 7) G cl7 dX7_what_91 w846 (by decide) (by decide) q44 ?_
        refine v_iload_n G dX7_what_94 rfl ?_
        refine v_iconst G (-1 : Int32) dX7_what_95 (by decide) ?_
        refine v_ic_ne 103 G dX7_what_96 (by decide) (fun q45 => ?_) (fun q45 => ?_)
        · rw [if_neg q45] at h
          refine v_bipush G (11 : Int32) dX7_what_103 (by decide) ?_
          refine v_iload_n G dX7_what_105 rfl ?_
          refine v_iadd G dX7_what_106 ?_
          refine v_iload G dX7_what_107 rfl ?_
          obtain ⟨M46, q47, h⟩ := bi_ h
          refine v_iast G dX7_what_109 q47 ?_
          refine v_iload G dX7_what_110 rfl ?_
          refine v_aload_n G dX7_what_112 rfl ?_
          refine v_iload_n G dX7_what_113 rfl ?_
          refine v_bipush G (40 : Int32) dX7_what_114 (by decide) ?_
          refine v_iload_n G dX7_what_116 rfl ?_
          refine v_imul G dX7_what_117 ?_
          refine v_iload G dX7_what_118 rfl ?_
          refine v_iadd G dX7_what_120 ?_
          refine v_iload G dX7_what_121 rfl ?_
          obtain ⟨q52, h⟩ := if_s h
          obtain ⟨M49, v50, q48, h⟩ := bi2_ h
          refine v_callV0 (e_X7_isSo q48) G cl7 my_X7_isSo rfl w1210 w52 w1208 dX7_what_123 q52 rfl (Nat.le_of_ble_eq_true rfl) rfl (Nat.le_of_ble_eq_true rfl) hcn hsn ?_
          refine v_if_eq 136 G dX7_what_126 (by decide) (fun q51 => ?_) (fun q51 => ?_)
          · rw [if_pos q51] at h
            refine v_iconst G (0 : Int32) dX7_what_136 (by decide) ?_
            refine v_ior G dX7_what_137 ?_
            refine v_istore [some (.ref x0), some (.int x1), some (.int x2), some (.int x3), some (.int x4), some (.int x5), none, some (.int (x7 ||| (0 : Int32))), some (.int x8)] G dX7_what_138 (Nat.le_of_ble_eq_true rfl) rfl rfl ?_
            refine v_iinc (x8 + (1 : Int32)) [some (.ref x0), some (.int x1), some (.int x2), some (.int x3), some (.int x4), some (.int x5), none, some (.int (x7 ||| (0 : Int32))), some (.int (x8 + (1 : Int32)))] G dX7_what_140 rfl rfl (Nat.le_of_ble_eq_true rfl) rfl rfl ?_
            refine v_goto 63 G dX7_what_143 (by decide) ?_
            exact v_mask [true, true, true, true, true, true, false, true, true] rfl (ih _ _ _ h)
          · rw [if_neg q51] at h
            refine v_iconst G (1 : Int32) dX7_what_129 (by decide) ?_
            refine v_iload G dX7_what_130 rfl ?_
            refine v_ishl G dX7_what_132 ?_
            refine v_goto 137 G dX7_what_133 (by decide) ?_
            refine v_ior G dX7_what_137 ?_
            refine v_istore [some (.ref x0), some (.int x1), some (.int x2), some (.int x3), some (.int x4), some (.int x5), none, some (.int (x7 ||| ((1 : Int32) <<< (x8 &&& 31)))), some (.int x8)] G dX7_what_138 (Nat.le_of_ble_eq_true rfl) rfl rfl ?_
            refine v_iinc (x8 + (1 : Int32)) [some (.ref x0), some (.int x1), some (.int x2), some (.int x3), some (.int x4), some (.int x5), none, some (.int (x7 ||| ((1 : Int32) <<< (x8 &&& 31)))), some (.int (x8 + (1 : Int32)))] G dX7_what_140 rfl rfl (Nat.le_of_ble_eq_true rfl) rfl rfl ?_
            refine v_goto 63 G dX7_what_143 (by decide) ?_
            exact v_mask [true, true, true, true, true, true, false, true, true] rfl (ih _ _ _ h)
        · rw [if_pos q45] at h
          refine v_iconst G (4 : Int32) dX7_what_99 (by decide) ?_
          refine v_goto 107 G dX7_what_100 (by decide) ?_
          refine v_iload G dX7_what_107 rfl ?_
          obtain ⟨M53, q54, h⟩ := bi_ h
          refine v_iast G dX7_what_109 q54 ?_
          refine v_iload G dX7_what_110 rfl ?_
          refine v_aload_n G dX7_what_112 rfl ?_
          refine v_iload_n G dX7_what_113 rfl ?_
          refine v_bipush G (40 : Int32) dX7_what_114 (by decide) ?_
          refine v_iload_n G dX7_what_116 rfl ?_
          refine v_imul G dX7_what_117 ?_
          refine v_iload G dX7_what_118 rfl ?_
          refine v_iadd G dX7_what_120 ?_
          refine v_iload G dX7_what_121 rfl ?_
          obtain ⟨q59, h⟩ := if_s h
          obtain ⟨M56, v57, q55, h⟩ := bi2_ h
          refine v_callV0 (e_X7_isSo q55) G cl7 my_X7_isSo rfl w1210 w52 w1208 dX7_what_123 q59 rfl (Nat.le_of_ble_eq_true rfl) rfl (Nat.le_of_ble_eq_true rfl) hcn hsn ?_
          refine v_if_eq 136 G dX7_what_126 (by decide) (fun q58 => ?_) (fun q58 => ?_)
          · rw [if_pos q58] at h
            refine v_iconst G (0 : Int32) dX7_what_136 (by decide) ?_
            refine v_ior G dX7_what_137 ?_
            refine v_istore [some (.ref x0), some (.int x1), some (.int x2), some (.int x3), some (.int x4), some (.int x5), none, some (.int (x7 ||| (0 : Int32))), some (.int x8)] G dX7_what_138 (Nat.le_of_ble_eq_true rfl) rfl rfl ?_
            refine v_iinc (x8 + (1 : Int32)) [some (.ref x0), some (.int x1), some (.int x2), some (.int x3), some (.int x4), some (.int x5), none, some (.int (x7 ||| (0 : Int32))), some (.int (x8 + (1 : Int32)))] G dX7_what_140 rfl rfl (Nat.le_of_ble_eq_true rfl) rfl rfl ?_
            refine v_goto 63 G dX7_what_143 (by decide) ?_
            exact v_mask [true, true, true, true, true, true, false, true, true] rfl (ih _ _ _ h)
          · rw [if_neg q58] at h
            refine v_iconst G (1 : Int32) dX7_what_129 (by decide) ?_
            refine v_iload G dX7_what_130 rfl ?_
            refine v_ishl G dX7_what_132 ?_
            refine v_goto 137 G dX7_what_133 (by decide) ?_
            refine v_ior G dX7_what_137 ?_
            refine v_istore [some (.ref x0), some (.int x1), some (.int x2), some (.int x3), some (.int x4), some (.int x5), none, some (.int (x7 ||| ((1 : Int32) <<< (x8 &&& 31)))), some (.int x8)] G dX7_what_138 (Nat.le_of_ble_eq_true rfl) rfl rfl ?_
            refine v_iinc (x8 + (1 : Int32)) [some (.ref x0), some (.int x1), some (.int x2), some (.int x3), some (.int x4), some (.int x5), none, some (.int (x7 ||| ((1 : Int32) <<< (x8 &&& 31)))), some (.int (x8 + (1 : Int32)))] G dX7_what_140 rfl rfl (Nat.le_of_ble_eq_true rfl) rfl rfl ?_
            refine v_goto 63 G dX7_what_143 (by decide) ?_
            exact v_mask [true, true, true, true, true, true, false, true, true] rfl (ih _ _ _ h)
def m_X7_what (M : mM) (x0 : Nat) (x1 : Int32) (x2 : Int32) (x3 : Int32) (x4 : Int32) (x5 : Int32) : Option (mM × Int32) :=
  (pI M x0 7 0 (0 : Int32)).bind fun M1 =>
  if x1 = (-1 : Int32) then (
    if isO M1 x0 7 = true then
    (m_X7_isPupil M1 x0 x2).bind fun v5 =>
    if v5 = (0 : Int32) then (
      some (M1, (-1000001 : Int32))
    ) else (
      (m_X7_isMany M1 x3 x5).bind fun v8 =>
      if v8 = (0 : Int32) then (
        some (M1, (-1000001 : Int32))
      ) else (
        if isO M1 x0 7 = true then
        bd2 (m_X7_rowFound M1 x0 x3 x4 x5) fun M11 v12 =>
        if v12 = (0 : Int32) then (
          m_X7_what_L63
            (fun M61 v62 =>
              some (M61, v62))
            x0 x1 x2 x3 x4 x5 FU M11 (0 : Int32) (0 : Int32)
        ) else (
          some (M11, v12)
        )
        else none
      )
    )
    else none
  ) else (
    if isO M1 x0 7 = true then
    (m_X7_isLesson M1 x0 x1).bind fun v66 =>
    if v66 = (0 : Int32) then (
      some (M1, (-1000001 : Int32))
    ) else (
      if isO M1 x0 7 = true then
      (m_X7_isPupil M1 x0 x2).bind fun v69 =>
      if v69 = (0 : Int32) then (
        some (M1, (-1000001 : Int32))
      ) else (
        (m_X7_isMany M1 x3 x5).bind fun v72 =>
        if v72 = (0 : Int32) then (
          some (M1, (-1000001 : Int32))
        ) else (
          if isO M1 x0 7 = true then
          bd2 (m_X7_rowFound M1 x0 x3 x4 x5) fun M75 v76 =>
          if v76 = (0 : Int32) then (
            m_X7_what_L63
              (fun M78 v79 =>
                some (M78, v79))
              x0 x1 x2 x3 x4 x5 FU M75 (0 : Int32) (0 : Int32)
          ) else (
            some (M75, v76)
          )
          else none
        )
      )
      else none
    )
    else none
  )
theorem e_X7_what {Z : zZ} {M : mM} {N : mM} {x0 : Nat} {x1 : Int32} {x2 : Int32} {x3 : Int32} {x4 : Int32} {x5 : Int32} {r : Int32} (h : m_X7_what M x0 x1 x2 x3 x4 x5 = some (N, r)) : EM Z yX7_what cX7_what 9 (some .int) 5 0 0 [.ref x0, .int x1, .int x2, .int x3, .int x4, .int x5] M N (some (.int r)) := by
  refine EM_of my_X7_what (Nat.le_of_ble_eq_true rfl) (fun X G F => ?_)
  show V X Z M 0 0 0 [some (.ref x0), some (.int x1), some (.int x2), some (.int x3), some (.int x4), some (.int x5), none, none, none] []
  unfold m_X7_what at h
  refine v_aload_n G dX7_what_0 rfl ?_
  refine v_iconst G (0 : Int32) dX7_what_1 (by decide) ?_
  obtain ⟨M1, q2, h⟩ := bi_ h
  refine v_putI (f := 0) G cl7 dX7_what_2 w839 (by decide) (by decide) (by decide) rfl rfl q2 ?_
  refine v_iload_n G dX7_what_5 rfl ?_
  refine v_iconst G (-1 : Int32) dX7_what_6 (by decide) ?_
  refine v_ic_eq 18 G dX7_what_7 (by decide) (fun q3 => ?_) (fun q3 => ?_)
  · rw [if_pos q3] at h
    refine v_aload_n G dX7_what_18 rfl ?_
    refine v_iload_n G dX7_what_19 rfl ?_
    obtain ⟨q64, h⟩ := if_s h
    obtain ⟨v5, q4, h⟩ := bi_ h
    refine v_callV0 (e_X7_isPupil q4) G cl7 my_X7_isPupil rfl w1074 w41 w1072 dX7_what_20 q64 rfl (Nat.le_of_ble_eq_true rfl) rfl (Nat.le_of_ble_eq_true rfl) (Nat.zero_le _) (Nat.zero_le _) ?_
    refine v_if_eq 35 G dX7_what_23 (by decide) (fun q6 => ?_) (fun q6 => ?_)
    · rw [if_pos q6] at h
      refine v_ldc G (-1000001 : Int32) dX7_what_35 w931 ?_
      cases h
      exact v_iret G F dX7_what_37 rfl (Nat.le_refl _)
    · rw [if_neg q6] at h
      refine v_iload_n G dX7_what_26 rfl ?_
      refine v_iload G dX7_what_27 rfl ?_
      obtain ⟨v8, q7, h⟩ := bi_ h
      refine v_callS0 (e_X7_isMany q7) G my_X7_isMany w1202 w1201 dX7_what_29 rfl (Nat.le_of_ble_eq_true rfl) rfl (Nat.le_of_ble_eq_true rfl) (Nat.zero_le _) (Nat.zero_le _) ?_
      refine v_if_ne 38 G dX7_what_32 (by decide) (fun q9 => ?_) (fun q9 => ?_)
      · rw [if_neg q9] at h
        refine v_aload_n G dX7_what_38 rfl ?_
        refine v_iload_n G dX7_what_39 rfl ?_
        refine v_iload G dX7_what_40 rfl ?_
        refine v_iload G dX7_what_42 rfl ?_
        obtain ⟨q63, h⟩ := if_s h
        obtain ⟨M11, v12, q10, h⟩ := bi2_ h
        refine v_callV0 (e_X7_rowFound q10) G cl7 my_X7_rowFound rfl w1206 w51 w1204 dX7_what_44 q63 rfl (Nat.le_of_ble_eq_true rfl) rfl (Nat.le_of_ble_eq_true rfl) (Nat.zero_le _) (Nat.zero_le _) ?_
        refine v_istore [some (.ref x0), some (.int x1), some (.int x2), some (.int x3), some (.int x4), some (.int x5), some (.int v12), none, none] G dX7_what_47 (Nat.le_of_ble_eq_true rfl) rfl rfl ?_
        refine v_iload G dX7_what_49 rfl ?_
        refine v_if_eq 57 G dX7_what_51 (by decide) (fun q13 => ?_) (fun q13 => ?_)
        · rw [if_pos q13] at h
          refine v_iconst G (0 : Int32) dX7_what_57 (by decide) ?_
          refine v_istore [some (.ref x0), some (.int x1), some (.int x2), some (.int x3), some (.int x4), some (.int x5), some (.int v12), some (.int (0 : Int32)), none] G dX7_what_58 (Nat.le_of_ble_eq_true rfl) rfl rfl ?_
          refine v_iconst G (0 : Int32) dX7_what_60 (by decide) ?_
          refine v_istore [some (.ref x0), some (.int x1), some (.int x2), some (.int x3), some (.int x4), some (.int x5), some (.int v12), some (.int (0 : Int32)), some (.int (0 : Int32))] G dX7_what_61 (Nat.le_of_ble_eq_true rfl) rfl rfl ?_
          refine v_mask [true, true, true, true, true, true, false, true, true] rfl ?_
          refine e_X7_what_L63 G (Nat.zero_le _) (Nat.zero_le _) _ _ _ _ _ _ (fun M61 v62 h => ?_) FU _ _ _ h
          refine v_iload G dX7_what_146 rfl ?_
          cases h
          exact v_iret G F dX7_what_148 rfl (Nat.le_refl _)
        · rw [if_neg q13] at h
          refine v_iload G dX7_what_54 rfl ?_
          cases h
          exact v_iret G F dX7_what_56 rfl (Nat.le_refl _)
      · rw [if_pos q9] at h
        refine v_ldc G (-1000001 : Int32) dX7_what_35 w931 ?_
        cases h
        exact v_iret G F dX7_what_37 rfl (Nat.le_refl _)
  · rw [if_neg q3] at h
    refine v_aload_n G dX7_what_10 rfl ?_
    refine v_iload_n G dX7_what_11 rfl ?_
    obtain ⟨q82, h⟩ := if_s h
    obtain ⟨v66, q65, h⟩ := bi_ h
    refine v_callV0 (e_X7_isLesson q65) G cl7 my_X7_isLesson rfl w1085 w42 w1083 dX7_what_12 q82 rfl (Nat.le_of_ble_eq_true rfl) rfl (Nat.le_of_ble_eq_true rfl) (Nat.zero_le _) (Nat.zero_le _) ?_
    refine v_if_eq 35 G dX7_what_15 (by decide) (fun q67 => ?_) (fun q67 => ?_)
    · rw [if_pos q67] at h
      refine v_ldc G (-1000001 : Int32) dX7_what_35 w931 ?_
      cases h
      exact v_iret G F dX7_what_37 rfl (Nat.le_refl _)
    · rw [if_neg q67] at h
      refine v_aload_n G dX7_what_18 rfl ?_
      refine v_iload_n G dX7_what_19 rfl ?_
      obtain ⟨q81, h⟩ := if_s h
      obtain ⟨v69, q68, h⟩ := bi_ h
      refine v_callV0 (e_X7_isPupil q68) G cl7 my_X7_isPupil rfl w1074 w41 w1072 dX7_what_20 q81 rfl (Nat.le_of_ble_eq_true rfl) rfl (Nat.le_of_ble_eq_true rfl) (Nat.zero_le _) (Nat.zero_le _) ?_
      refine v_if_eq 35 G dX7_what_23 (by decide) (fun q70 => ?_) (fun q70 => ?_)
      · rw [if_pos q70] at h
        refine v_ldc G (-1000001 : Int32) dX7_what_35 w931 ?_
        cases h
        exact v_iret G F dX7_what_37 rfl (Nat.le_refl _)
      · rw [if_neg q70] at h
        refine v_iload_n G dX7_what_26 rfl ?_
        refine v_iload G dX7_what_27 rfl ?_
        obtain ⟨v72, q71, h⟩ := bi_ h
        refine v_callS0 (e_X7_isMany q71) G my_X7_isMany w1202 w1201 dX7_what_29 rfl (Nat.le_of_ble_eq_true rfl) rfl (Nat.le_of_ble_eq_true rfl) (Nat.zero_le _) (Nat.zero_le _) ?_
        refine v_if_ne 38 G dX7_what_32 (by decide) (fun q73 => ?_) (fun q73 => ?_)
        · rw [if_neg q73] at h
          refine v_aload_n G dX7_what_38 rfl ?_
          refine v_iload_n G dX7_what_39 rfl ?_
          refine v_iload G dX7_what_40 rfl ?_
          refine v_iload G dX7_what_42 rfl ?_
          obtain ⟨q80, h⟩ := if_s h
          obtain ⟨M75, v76, q74, h⟩ := bi2_ h
          refine v_callV0 (e_X7_rowFound q74) G cl7 my_X7_rowFound rfl w1206 w51 w1204 dX7_what_44 q80 rfl (Nat.le_of_ble_eq_true rfl) rfl (Nat.le_of_ble_eq_true rfl) (Nat.zero_le _) (Nat.zero_le _) ?_
          refine v_istore [some (.ref x0), some (.int x1), some (.int x2), some (.int x3), some (.int x4), some (.int x5), some (.int v76), none, none] G dX7_what_47 (Nat.le_of_ble_eq_true rfl) rfl rfl ?_
          refine v_iload G dX7_what_49 rfl ?_
          refine v_if_eq 57 G dX7_what_51 (by decide) (fun q77 => ?_) (fun q77 => ?_)
          · rw [if_pos q77] at h
            refine v_iconst G (0 : Int32) dX7_what_57 (by decide) ?_
            refine v_istore [some (.ref x0), some (.int x1), some (.int x2), some (.int x3), some (.int x4), some (.int x5), some (.int v76), some (.int (0 : Int32)), none] G dX7_what_58 (Nat.le_of_ble_eq_true rfl) rfl rfl ?_
            refine v_iconst G (0 : Int32) dX7_what_60 (by decide) ?_
            refine v_istore [some (.ref x0), some (.int x1), some (.int x2), some (.int x3), some (.int x4), some (.int x5), some (.int v76), some (.int (0 : Int32)), some (.int (0 : Int32))] G dX7_what_61 (Nat.le_of_ble_eq_true rfl) rfl rfl ?_
            refine v_mask [true, true, true, true, true, true, false, true, true] rfl ?_
            refine e_X7_what_L63 G (Nat.zero_le _) (Nat.zero_le _) _ _ _ _ _ _ (fun M78 v79 h => ?_) FU _ _ _ h
            refine v_iload G dX7_what_146 rfl ?_
            cases h
            exact v_iret G F dX7_what_148 rfl (Nat.le_refl _)
          · rw [if_neg q77] at h
            refine v_iload G dX7_what_54 rfl ?_
            cases h
            exact v_iret G F dX7_what_56 rfl (Nat.le_refl _)
        · rw [if_pos q73] at h
          refine v_ldc G (-1000001 : Int32) dX7_what_35 w931 ?_
          cases h
          exact v_iret G F dX7_what_37 rfl (Nat.le_refl _)
