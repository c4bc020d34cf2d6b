/-! X7_shortest -/
def m_X7_shortest_L71 {ρ : Type} (k0 : Option ρ) (k1 : Int32 → Option ρ) (M : mM) (x0 : Nat) (x3 : Int32) (x5 : Int32) : Nat → Int32 → Int32 → Option ρ
  | 0, _, _ => none
  | n + 1, x6, x7 =>
    (gR M x0 7 5).bind fun b17 =>
    (ldI M b17 (1 : Int32)).bind fun v20 =>
    if v20 ≤ x7 then (
      k0
    ) else (
      (m_X7_has M x5 x7).bind fun v23 =>
      if v23 = (0 : Int32) then (
        m_X7_shortest_L71 k0 k1 M x0 x3 x5 n x6 (x7 + (1 : Int32))
      ) else (
        if x6 = x3 then (
          k1 x7
        ) else (
          m_X7_shortest_L71 k0 k1 M x0 x3 x5 n (x6 + (1 : Int32)) (x7 + (1 : Int32))
        )
      )
    )
theorem e_X7_shortest_L71 {X : xX} {Z : zZ} {cn sn : Nat} {ρ : Type} {r : ρ} {k0 : Option ρ} {k1 : Int32 → Option ρ} (G : ok_ X Z yX7_shortest cX7_shortest 8 2 0 0) (hcn : cn ≤ 0) (hsn : sn ≤ 0) (M : mM) (x0 : Nat) (x3 : Int32) (x5 : Int32)
    (hx0 : k0 = some r → V X Z M cn sn 110 [none, none, none, none, none, none, none, none] [])
    (hx1 : ∀ (z7 : Int32), k1 z7 = some r → V X Z M cn sn 98 [none, none, none, none, none, none, none, some (.int z7)] []) :
    ∀ (n : Nat) (x6 : Int32) (x7 : Int32), m_X7_shortest_L71 k0 k1 M x0 x3 x5 n x6 x7 = some r → V X Z M cn sn 71 [some (.ref x0), none, none, some (.int x3), none, some (.int x5), some (.int x6), some (.int x7)] [] := by
  intro n
  induction n with
  | zero => intro x6 x7 h; rw [m_X7_shortest_L71] at h; cases h
  | succ n ih =>
    intro x6 x7 h
    rw [m_X7_shortest_L71] at h
    refine v_iload G dX7_shortest_71 rfl ?_
    refine v_aload_n G dX7_shortest_73 rfl ?_
    obtain ⟨b17, q18, h⟩ := bi_ h
    refine v_getR (f := 5) G cl7 dX7_shortest_74 w844 (by decide) (by decide) q18 ?_
    refine v_iconst G (1 : Int32) dX7_shortest_77 (by decide) ?_
    obtain ⟨v20, q19, h⟩ := bi_ h
    refine v_iald G dX7_shortest_78 q19 ?_
    refine v_ic_ge 110 G dX7_shortest_79 (by decide) (fun q21 => ?_) (fun q21 => ?_)
    · rw [if_pos q21] at h
      exact v_mask [false, false, false, false, false, false, false, false] rfl (hx0 h)
    · rw [if_neg q21] at h
      refine v_iload G dX7_shortest_82 rfl ?_
      refine v_iload G dX7_shortest_84 rfl ?_
      obtain ⟨v23, q22, h⟩ := bi_ h
      refine v_callS0 (e_X7_has q22) G my_X7_has w1051 w1050 dX7_shortest_86 rfl (Nat.le_of_ble_eq_true rfl) rfl (Nat.le_of_ble_eq_true rfl) hcn hsn ?_
      refine v_if_eq 104 G dX7_shortest_89 (by decide) (fun q24 => ?_) (fun q24 => ?_)
      · rw [if_pos q24] at h
        refine v_iinc (x7 + (1 : Int32)) [some (.ref x0), none, none, some (.int x3), none, some (.int x5), some (.int x6), some (.int (x7 + (1 : Int32)))] G dX7_shortest_104 rfl rfl (Nat.le_of_ble_eq_true rfl) rfl rfl ?_
        refine v_goto 71 G dX7_shortest_107 (by decide) ?_
        exact v_mask [true, false, false, true, false, true, true, true] rfl (ih _ _ h)
      · rw [if_neg q24] at h
        refine v_iload G dX7_shortest_92 rfl ?_
        refine v_iload_n G dX7_shortest_94 rfl ?_
        refine v_ic_ne 101 G dX7_shortest_95 (by decide) (fun q25 => ?_) (fun q25 => ?_)
        · rw [if_neg q25] at h
          refine v_iinc (x6 + (1 : Int32)) [some (.ref x0), none, none, some (.int x3), none, some (.int x5), some (.int (x6 + (1 : Int32))), some (.int x7)] G dX7_shortest_101 rfl rfl (Nat.le_of_ble_eq_true rfl) rfl rfl ?_
          refine v_iinc (x7 + (1 : Int32)) [some (.ref x0), none, none, some (.int x3), none, some (.int x5), some (.int (x6 + (1 : Int32))), some (.int (x7 + (1 : Int32)))] G dX7_shortest_104 rfl rfl (Nat.le_of_ble_eq_true rfl) rfl rfl ?_
          refine v_goto 71 G dX7_shortest_107 (by decide) ?_
          exact v_mask [true, false, false, true, false, true, true, true] rfl (ih _ _ h)
        · rw [if_pos q25] at h
          exact v_mask [false, false, false, false, false, false, false, true] rfl (hx1 _ h)
def m_X7_shortest (M : mM) (x0 : Nat) (x1 : Int32) (x2 : Int32) (x3 : Int32) : Option (mM × Int32) :=
  (pI M x0 7 0 (0 : Int32)).bind fun M1 =>
  if isO M1 x0 7 = true then
  (m_X7_isPupil M1 x0 x1).bind fun v4 =>
  if v4 = (0 : Int32) then (
    some (M1, (-1000001 : Int32))
  ) else (
    if isO M1 x0 7 = true then
    (m_X7_isSubject M1 x0 x2).bind fun v7 =>
    if v7 = (0 : Int32) then (
      some (M1, (-1000001 : Int32))
    ) else (
      if (-1 : Int32) ≤ x3 then (
        (gR M1 x0 7 5).bind fun b10 =>
        (m_X7_of M1 b10 x1 (2 : Int32)).bind fun v13 =>
        if isO M1 x0 7 = true then
        (m_X7_needed M1 x0 x2 v13).bind fun v15 =>
        if x3 = (-1 : Int32) then (
          (m_X7_bits M1 (v15 &&& (v13 ^^^ (-1 : Int32)))).bind fun v28 =>
          some (M1, v28)
        ) else (
          m_X7_shortest_L71
            (
              some (M1, (-1000000 : Int32))
            )
            (fun v26 =>
              some (M1, v26))
            M1 x0 x3 (v15 &&& (v13 ^^^ (-1 : Int32))) FU (0 : Int32) (0 : Int32)
        )
        else none
      ) else (
        some (M1, (-1000001 : Int32))
      )
    )
    else none
  )
  else none
theorem e_X7_shortest {Z : zZ} {M : mM} {N : mM} {x0 : Nat} {x1 : Int32} {x2 : Int32} {x3 : Int32} {r : Int32} (h : m_X7_shortest M x0 x1 x2 x3 = some (N, r)) : EM Z yX7_shortest cX7_shortest 8 (some .int) 2 0 0 [.ref x0, .int x1, .int x2, .int x3] M N (some (.int r)) := by
  refine EM_of my_X7_shortest (Nat.le_of_ble_eq_true rfl) (fun X G F => ?_)
  show V X Z M 0 0 0 [some (.ref x0), some (.int x1), some (.int x2), some (.int x3), none, none, none, none] []
  unfold m_X7_shortest at h
  refine v_aload_n G dX7_shortest_0 rfl ?_
  refine v_iconst G (0 : Int32) dX7_shortest_1 (by decide) ?_
  obtain ⟨M1, q2, h⟩ := bi_ h
  refine v_putI (f := 0) G cl7 dX7_shortest_2 w839 (by decide) (by decide) (by decide) rfl rfl q2 ?_
  refine v_aload_n G dX7_shortest_5 rfl ?_
  refine v_iload_n G dX7_shortest_6 rfl ?_
  obtain ⟨q31, h⟩ := if_s h
  obtain ⟨v4, q3, h⟩ := bi_ h
  refine v_callV0 (e_X7_isPupil q3) G cl7 my_X7_isPupil rfl w1074 w41 w1072 dX7_shortest_7 q31 rfl (Nat.le_of_ble_eq_true rfl) rfl (Nat.le_of_ble_eq_true rfl) (Nat.zero_le _) (Nat.zero_le _) ?_
  refine v_if_eq 26 G dX7_shortest_10 (by decide) (fun q5 => ?_) (fun q5 => ?_)
  · rw [if_pos q5] at h
    refine v_ldc G (-1000001 : Int32) dX7_shortest_26 w931 ?_
    cases h
    exact v_iret G F dX7_shortest_28 rfl (Nat.le_refl _)
  · rw [if_neg q5] at h
    refine v_aload_n G dX7_shortest_13 rfl ?_
    refine v_iload_n G dX7_shortest_14 rfl ?_
    obtain ⟨q30, h⟩ := if_s h
    obtain ⟨v7, q6, h⟩ := bi_ h
    refine v_callV0 (e_X7_isSubject q6) G cl7 my_X7_isSubject rfl w1089 w43 w1087 dX7_shortest_15 q30 rfl (Nat.le_of_ble_eq_true rfl) rfl (Nat.le_of_ble_eq_true rfl) (Nat.zero_le _) (Nat.zero_le _) ?_
    refine v_if_eq 26 G dX7_shortest_18 (by decide) (fun q8 => ?_) (fun q8 => ?_)
    · rw [if_pos q8] at h
      refine v_ldc G (-1000001 : Int32) dX7_shortest_26 w931 ?_
      cases h
      exact v_iret G F dX7_shortest_28 rfl (Nat.le_refl _)
    · rw [if_neg q8] at h
      refine v_iload_n G dX7_shortest_21 rfl ?_
      refine v_iconst G (-1 : Int32) dX7_shortest_22 (by decide) ?_
      refine v_ic_ge 29 G dX7_shortest_23 (by decide) (fun q9 => ?_) (fun q9 => ?_)
      · rw [if_pos q9] at h
        refine v_aload_n G dX7_shortest_29 rfl ?_
        obtain ⟨b10, q11, h⟩ := bi_ h
        refine v_getR (f := 5) G cl7 dX7_shortest_30 w844 (by decide) (by decide) q11 ?_
        refine v_iload_n G dX7_shortest_33 rfl ?_
        refine v_iconst G (2 : Int32) dX7_shortest_34 (by decide) ?_
        obtain ⟨v13, q12, h⟩ := bi_ h
        refine v_callS0 (e_X7_of q12) G my_X7_of w1045 w1044 dX7_shortest_35 rfl (Nat.le_of_ble_eq_true rfl) rfl (Nat.le_of_ble_eq_true rfl) (Nat.zero_le _) (Nat.zero_le _) ?_
        refine v_istore [some (.ref x0), some (.int x1), some (.int x2), some (.int x3), some (.int v13), none, none, none] G dX7_shortest_38 (Nat.le_of_ble_eq_true rfl) rfl rfl ?_
        refine v_aload_n G dX7_shortest_40 rfl ?_
        refine v_iload_n G dX7_shortest_41 rfl ?_
        refine v_iload G dX7_shortest_42 rfl ?_
        obtain ⟨q29, h⟩ := if_s h
        obtain ⟨v15, q14, h⟩ := bi_ h
        refine v_callV0 (e_X7_needed q14) G cl7 my_X7_needed rfl w1161 w48 w1159 dX7_shortest_44 q29 rfl (Nat.le_of_ble_eq_true rfl) rfl (Nat.le_of_ble_eq_true rfl) (Nat.zero_le _) (Nat.zero_le _) ?_
        refine v_iload G dX7_shortest_47 rfl ?_
        refine v_iconst G (-1 : Int32) dX7_shortest_49 (by decide) ?_
        refine v_ixor G dX7_shortest_50 ?_
        refine v_iand G dX7_shortest_51 ?_
        refine v_istore [some (.ref x0), some (.int x1), some (.int x2), some (.int x3), some (.int v13), some (.int (v15 &&& (v13 ^^^ (-1 : Int32)))), none, none] G dX7_shortest_52 (Nat.le_of_ble_eq_true rfl) rfl rfl ?_
        refine v_iload_n G dX7_shortest_54 rfl ?_
        refine v_iconst G (-1 : Int32) dX7_shortest_55 (by decide) ?_
        refine v_ic_ne 65 G dX7_shortest_56 (by decide) (fun q16 => ?_) (fun q16 => ?_)
        · rw [if_neg q16] at h
          refine v_iconst G (0 : Int32) dX7_shortest_65 (by decide) ?_
          refine v_istore [some (.ref x0), some (.int x1), some (.int x2), some (.int x3), some (.int v13), some (.int (v15 &&& (v13 ^^^ (-1 : Int32)))), some (.int (0 : Int32)), none] G dX7_shortest_66 (Nat.le_of_ble_eq_true rfl) rfl rfl ?_
          refine v_iconst G (0 : Int32) dX7_shortest_68 (by decide) ?_
          refine v_istore [some (.ref x0), some (.int x1), some (.int x2), some (.int x3), some (.int v13), some (.int (v15 &&& (v13 ^^^ (-1 : Int32)))), some (.int (0 : Int32)), some (.int (0 : Int32))] G dX7_shortest_69 (Nat.le_of_ble_eq_true rfl) rfl rfl ?_
          refine v_mask [true, false, false, true, false, true, true, true] rfl ?_
          refine e_X7_shortest_L71 G (Nat.zero_le _) (Nat.zero_le _) _ _ _ _ (fun h => ?_) (fun v26 h => ?_) FU _ _ h
          · refine v_ldc G (-1000000 : Int32) dX7_shortest_110 w971 ?_
            cases h
            exact v_iret G F dX7_shortest_112 rfl (Nat.le_refl _)
          · refine v_iload G dX7_shortest_98 rfl ?_
            cases h
            exact v_iret G F dX7_shortest_100 rfl (Nat.le_refl _)
        · rw [if_pos q16] at h
          refine v_iload G dX7_shortest_59 rfl ?_
          obtain ⟨v28, q27, h⟩ := bi_ h
          refine v_callS0 (e_X7_bits q27) G my_X7_bits w1063 w1062 dX7_shortest_61 rfl (Nat.le_of_ble_eq_true rfl) rfl (Nat.le_of_ble_eq_true rfl) (Nat.zero_le _) (Nat.zero_le _) ?_
          cases h
          exact v_iret G F dX7_shortest_64 rfl (Nat.le_refl _)
      · rw [if_neg q9] at h
        refine v_ldc G (-1000001 : Int32) dX7_shortest_26 w931 ?_
        cases h
        exact v_iret G F dX7_shortest_28 rfl (Nat.le_refl _)
/-! X7_nextOrder -/
def m_X7_nextOrder_L4 {ρ : Type} (k0 : Int32 → Option ρ) (M : mM) (x0 : Nat) (x1 : Int32) : Nat → Int32 → Option ρ
  | 0, _ => none
  | n + 1, x2 =>
    if x2 < (0 : Int32) then (
      k0 x2
    ) else (
      (gR M x0 7 20).bind fun b2 =>
      (ldI M b2 x2).bind fun v5 =>
      (gR M x0 7 20).bind fun b6 =>
      (ldI M b6 (x2 + (1 : Int32))).bind fun v9 =>
      if v5 ≤ v9 then (
        k0 x2
      ) else (
        m_X7_nextOrder_L4 k0 M x0 x1 n (x2 + (-1 : Int32))
      )
    )
theorem e_X7_nextOrder_L4 {X : xX} {Z : zZ} {cn sn : Nat} {ρ : Type} {r : ρ} {k0 : Int32 → Option ρ} (G : ok_ X Z yX7_nextOrder cX7_nextOrder 7 0 0 0) (hcn : cn ≤ 0) (hsn : sn ≤ 0) (M : mM) (x0 : Nat) (x1 : Int32)
    (hx0 : ∀ (z2 : Int32), k0 z2 = some r → V X Z M cn sn 31 [some (.ref x0), some (.int x1), some (.int z2), none, none, none, none] []) :
    ∀ (n : Nat) (x2 : Int32), m_X7_nextOrder_L4 k0 M x0 x1 n x2 = some r → V X Z M cn sn 4 [some (.ref x0), some (.int x1), some (.int x2), none, none, none, none] [] := by
  intro n
  induction n with
  | zero => intro x2 h; rw [m_X7_nextOrder_L4] at h; cases h
  | succ n ih =>
    intro x2 h
    rw [m_X7_nextOrder_L4] at h
    refine v_iload_n G dX7_nextOrder_4 rfl ?_
    refine v_if_lt 31 G dX7_nextOrder_5 (by decide) (fun q1 => ?_) (fun q1 => ?_)
    · rw [if_pos q1] at h
      exact v_mask [true, true, true, false, false, false, false] rfl (hx0 _ h)
    · rw [if_neg q1] at h
      refine v_aload_n G dX7_nextOrder_8 rfl ?_
      obtain ⟨b2, q3, h⟩ := bi_ h
      refine v_getR (f := 20) G cl7 dX7_nextOrder_9 w859 (by decide) (by decide) q3 ?_
      refine v_iload_n G dX7_nextOrder_12 rfl ?_
      obtain ⟨v5, q4, h⟩ := bi_ h
      refine v_iald G dX7_nextOrder_13 q4 ?_
      refine v_aload_n G dX7_nextOrder_14 rfl ?_
      obtain ⟨b6, q7, h⟩ := bi_ h
      refine v_getR (f := 20) G cl7 dX7_nextOrder_15 w859 (by decide) (by decide) q7 ?_
      refine v_iload_n G dX7_nextOrder_18 rfl ?_
      refine v_iconst G (1 : Int32) dX7_nextOrder_19 (by decide) ?_
      refine v_iadd G dX7_nextOrder_20 ?_
      obtain ⟨v9, q8, h⟩ := bi_ h
      refine v_iald G dX7_nextOrder_21 q8 ?_
      refine v_ic_le 31 G dX7_nextOrder_22 (by decide) (fun q10 => ?_) (fun q10 => ?_)
      · rw [if_pos q10] at h
        exact v_mask [true, true, true, false, false, false, false] rfl (hx0 _ h)
      · rw [if_neg q10] at h
        refine v_iinc (x2 + (-1 : Int32)) [some (.ref x0), some (.int x1), some (.int (x2 + (-1 : Int32))), none, none, none, none] G dX7_nextOrder_25 rfl rfl (Nat.le_of_ble_eq_true rfl) rfl rfl ?_
        refine v_goto 4 G dX7_nextOrder_28 (by decide) ?_
        exact v_mask [true, true, true, false, false, false, false] rfl (ih _ h)
def m_X7_nextOrder_L41 {ρ : Type} (k0 : Int32 → Option ρ) (M : mM) (x0 : Nat) (x1 : Int32) (x2 : Int32) : Nat → Int32 → Option ρ
  | 0, _ => none
  | n + 1, x3 =>
    (gR M x0 7 20).bind fun b13 =>
    (ldI M b13 x3).bind fun v16 =>
    (gR M x0 7 20).bind fun b17 =>
    (ldI M b17 x2).bind fun v20 =>
    if v20 ≤ v16 then (
      k0 x3
    ) else (
      m_X7_nextOrder_L41 k0 M x0 x1 x2 n (x3 + (-1 : Int32))
    )
theorem e_X7_nextOrder_L41 {X : xX} {Z : zZ} {cn sn : Nat} {ρ : Type} {r : ρ} {k0 : Int32 → Option ρ} (G : ok_ X Z yX7_nextOrder cX7_nextOrder 7 0 0 0) (hcn : cn ≤ 0) (hsn : sn ≤ 0) (M : mM) (x0 : Nat) (x1 : Int32) (x2 : Int32)
    (hx0 : ∀ (z3 : Int32), k0 z3 = some r → V X Z M cn sn 62 [some (.ref x0), some (.int x1), some (.int x2), some (.int z3), none, none, none] []) :
    ∀ (n : Nat) (x3 : Int32), m_X7_nextOrder_L41 k0 M x0 x1 x2 n x3 = some r → V X Z M cn sn 41 [some (.ref x0), some (.int x1), some (.int x2), some (.int x3), none, none, none] [] := by
  intro n
  induction n with
  | zero => intro x3 h; rw [m_X7_nextOrder_L41] at h; cases h
  | succ n ih =>
    intro x3 h
    rw [m_X7_nextOrder_L41] at h
    refine v_aload_n G dX7_nextOrder_41 rfl ?_
    obtain ⟨b13, q14, h⟩ := bi_ h
    refine v_getR (f := 20) G cl7 dX7_nextOrder_42 w859 (by decide) (by decide) q14 ?_
    refine v_iload_n G dX7_nextOrder_45 rfl ?_
    obtain ⟨v16, q15, h⟩ := bi_ h
    refine v_iald G dX7_nextOrder_46 q15 ?_
    refine v_aload_n G dX7_nextOrder_47 rfl ?_
    obtain ⟨b17, q18, h⟩ := bi_ h
    refine v_getR (f := 20) G cl7 dX7_nextOrder_48 w859 (by decide) (by decide) q18 ?_
    refine v_iload_n G dX7_nextOrder_51 rfl ?_
    obtain ⟨v20, q19, h⟩ := bi_ h
    refine v_iald G dX7_nextOrder_52 q19 ?_
    refine v_ic_ge 62 G dX7_nextOrder_53 (by decide) (fun q21 => ?_) (fun q21 => ?_)
    · rw [if_pos q21] at h
      exact v_mask [true, true, true, true, false, false, false] rfl (hx0 _ h)
    · rw [if_neg q21] at h
      refine v_iinc (x3 + (-1 : Int32)) [some (.ref x0), some (.int x1), some (.int x2), some (.int (x3 + (-1 : Int32))), none, none, none] G dX7_nextOrder_56 rfl rfl (Nat.le_of_ble_eq_true rfl) rfl rfl ?_
      refine v_goto 41 G dX7_nextOrder_59 (by decide) ?_
      exact v_mask [true, true, true, true, false, false, false] rfl (ih _ h)
def m_X7_nextOrder_L100 {ρ : Type} (k0 : mM → Option ρ) (x0 : Nat) : Nat → mM → Int32 → Int32 → Option ρ
  | 0, _, _, _ => none
  | n + 1, M, x5, x6 =>
    if x6 ≤ x5 then (
      k0 M
    ) else (
      (gR M x0 7 20).bind fun b40 =>
      (ldI M b40 x5).bind fun v43 =>
      (gR M x0 7 20).bind fun b44 =>
      (gR M x0 7 20).bind fun b46 =>
      (ldI M b46 x6).bind fun v49 =>
      (stI M b44 x5 v49).bind fun M50 =>
      (gR M50 x0 7 20).bind fun b52 =>
      (stI M50 b52 x6 v43).bind fun M54 =>
      m_X7_nextOrder_L100 k0 x0 n M54 (x5 + (1 : Int32)) (x6 + (-1 : Int32))
    )
theorem e_X7_nextOrder_L100 {X : xX} {Z : zZ} {cn sn : Nat} {ρ : Type} {r : ρ} {k0 : mM → Option ρ} (G : ok_ X Z yX7_nextOrder cX7_nextOrder 7 0 0 0) (hcn : cn ≤ 0) (hsn : sn ≤ 0) (x0 : Nat)
    (hx0 : ∀ (N : mM), k0 N = some r → V X Z N cn sn 148 [none, none, none, none, none, none, none] []) :
    ∀ (n : Nat) (M : mM) (x5 : Int32) (x6 : Int32), m_X7_nextOrder_L100 k0 x0 n M x5 x6 = some r → V X Z M cn sn 100 [some (.ref x0), none, none, none, none, some (.int x5), some (.int x6)] [] := by
  intro n
  induction n with
  | zero => intro M x5 x6 h; rw [m_X7_nextOrder_L100] at h; cases h
  | succ n ih =>
    intro M x5 x6 h
    rw [m_X7_nextOrder_L100] at h
    refine v_iload G dX7_nextOrder_100 rfl ?_
    refine v_iload G dX7_nextOrder_102 rfl ?_
    refine v_ic_le 148 G dX7_nextOrder_104 (by decide) (fun q39 => ?_) (fun q39 => ?_)
    · rw [if_pos q39] at h
      exact v_mask [false, false, false, false, false, false, false] rfl (hx0 _ h)
    · rw [if_neg q39] at h
      refine v_aload_n G dX7_nextOrder_107 rfl ?_
      obtain ⟨b40, q41, h⟩ := bi_ h
      refine v_getR (f := 20) G cl7 dX7_nextOrder_108 w859 (by decide) (by decide) q41 ?_
      refine v_iload G dX7_nextOrder_111 rfl ?_
      obtain ⟨v43, q42, h⟩ := bi_ h
      refine v_iald G dX7_nextOrder_113 q42 ?_
      refine v_istore [some (.ref x0), none, none, none, some (.int v43), some (.int x5), some (.int x6)] G dX7_nextOrder_114 (Nat.le_of_ble_eq_true rfl) rfl rfl ?_
      refine v_aload_n G dX7_nextOrder_116 rfl ?_
      obtain ⟨b44, q45, h⟩ := bi_ h
      refine v_getR (f := 20) G cl7 dX7_nextOrder_117 w859 (by decide) (by decide) q45 ?_
      refine v_iload G dX7_nextOrder_120 rfl ?_
      refine v_aload_n G dX7_nextOrder_122 rfl ?_
      obtain ⟨b46, q47, h⟩ := bi_ h
      refine v_getR (f := 20) G cl7 dX7_nextOrder_123 w859 (by decide) (by decide) q47 ?_
      refine v_iload G dX7_nextOrder_126 rfl ?_
      obtain ⟨v49, q48, h⟩ := bi_ h
      refine v_iald G dX7_nextOrder_128 q48 ?_
      obtain ⟨M50, q51, h⟩ := bi_ h
      refine v_iast G dX7_nextOrder_129 q51 ?_
      refine v_aload_n G dX7_nextOrder_130 rfl ?_
      obtain ⟨b52, q53, h⟩ := bi_ h
      refine v_getR (f := 20) G cl7 dX7_nextOrder_131 w859 (by decide) (by decide) q53 ?_
      refine v_iload G dX7_nextOrder_134 rfl ?_
      refine v_iload G dX7_nextOrder_136 rfl ?_
      obtain ⟨M54, q55, h⟩ := bi_ h
      refine v_iast G dX7_nextOrder_138 q55 ?_
      refine v_iinc (x5 + (1 : Int32)) [some (.ref x0), none, none, none, some (.int v43), some (.int (x5 + (1 : Int32))), some (.int x6)] G dX7_nextOrder_139 rfl rfl (Nat.le_of_ble_eq_true rfl) rfl rfl ?_
      refine v_iinc (x6 + (-1 : Int32)) [some (.ref x0), none, none, none, some (.int v43), some (.int (x5 + (1 : Int32))), some (.int (x6 + (-1 : Int32)))] G dX7_nextOrder_142 rfl rfl (Nat.le_of_ble_eq_true rfl) rfl rfl ?_
      refine v_goto 100 G dX7_nextOrder_145 (by decide) ?_
      exact v_mask [true, false, false, false, false, true, true] rfl (ih _ _ _ h)
def m_X7_nextOrder (M : mM) (x0 : Nat) (x1 : Int32) : Option (mM × Int32) :=
  m_X7_nextOrder_L4
    (fun v11 =>
      if (0 : Int32) ≤ v11 then (
        m_X7_nextOrder_L41
          (fun v22 =>
            (gR M x0 7 20).bind fun b23 =>
            (ldI M b23 v11).bind fun v26 =>
            (gR M x0 7 20).bind fun b27 =>
            (gR M x0 7 20).bind fun b29 =>
            (ldI M b29 v22).bind fun v32 =>
            (stI M b27 v11 v32).bind fun M33 =>
            (gR M33 x0 7 20).bind fun b35 =>
            (stI M33 b35 v22 v26).bind fun M37 =>
            m_X7_nextOrder_L100
              (fun M56 =>
                some (M56, (1 : Int32)))
              x0 FU M37 (v11 + (1 : Int32)) (x1 - (1 : Int32)))
          M x0 x1 v11 FU (x1 - (1 : Int32))
      ) else (
        some (M, (0 : Int32))
      ))
    M x0 x1 FU (x1 - (2 : Int32))
theorem e_X7_nextOrder {Z : zZ} {M : mM} {N : mM} {x0 : Nat} {x1 : Int32} {r : Int32} (h : m_X7_nextOrder M x0 x1 = some (N, r)) : EM Z yX7_nextOrder cX7_nextOrder 7 (some .boolean) 0 0 0 [.ref x0, .int x1] M N (some (.int r)) := by
  refine EM_of my_X7_nextOrder (Nat.le_of_ble_eq_true rfl) (fun X G F => ?_)
  show V X Z M 0 0 0 [some (.ref x0), some (.int x1), none, none, none, none, none] []
  unfold m_X7_nextOrder at h
  refine v_iload_n G dX7_nextOrder_0 rfl ?_
  refine v_iconst G (2 : Int32) dX7_nextOrder_1 (by decide) ?_
  refine v_isub G dX7_nextOrder_2 ?_
  refine v_istore_n [some (.ref x0), some (.int x1), some (.int (x1 - (2 : Int32))), none, none, none, none] G dX7_nextOrder_3 (Nat.le_of_ble_eq_true rfl) rfl rfl ?_
  refine v_mask [true, true, true, false, false, false, false] rfl ?_
  refine e_X7_nextOrder_L4 G (Nat.zero_le _) (Nat.zero_le _) _ _ _ (fun v11 h => ?_) FU _ h
  refine v_iload_n G dX7_nextOrder_31 rfl ?_
  refine v_if_ge 37 G dX7_nextOrder_32 (by decide) (fun q12 => ?_) (fun q12 => ?_)
  · rw [if_pos q12] at h
    refine v_iload_n G dX7_nextOrder_37 rfl ?_
    refine v_iconst G (1 : Int32) dX7_nextOrder_38 (by decide) ?_
    refine v_isub G dX7_nextOrder_39 ?_
    refine v_istore_n [some (.ref x0), some (.int x1), some (.int v11), some (.int (x1 - (1 : Int32))), none, none, none] G dX7_nextOrder_40 (Nat.le_of_ble_eq_true rfl) rfl rfl ?_
    refine v_mask [true, true, true, true, false, false, false] rfl ?_
    refine e_X7_nextOrder_L41 G (Nat.zero_le _) (Nat.zero_le _) _ _ _ _ (fun v22 h => ?_) FU _ h
    refine v_aload_n G dX7_nextOrder_62 rfl ?_
    obtain ⟨b23, q24, h⟩ := bi_ h
    refine v_getR (f := 20) G cl7 dX7_nextOrder_63 w859 (by decide) (by decide) q24 ?_
    refine v_iload_n G dX7_nextOrder_66 rfl ?_
    obtain ⟨v26, q25, h⟩ := bi_ h
    refine v_iald G dX7_nextOrder_67 q25 ?_
    refine v_istore [some (.ref x0), some (.int x1), some (.int v11), some (.int v22), some (.int v26), none, none] G dX7_nextOrder_68 (Nat.le_of_ble_eq_true rfl) rfl rfl ?_
    refine v_aload_n G dX7_nextOrder_70 rfl ?_
    obtain ⟨b27, q28, h⟩ := bi_ h
    refine v_getR (f := 20) G cl7 dX7_nextOrder_71 w859 (by decide) (by decide) q28 ?_
    refine v_iload_n G dX7_nextOrder_74 rfl ?_
    refine v_aload_n G dX7_nextOrder_75 rfl ?_
    obtain ⟨b29, q30, h⟩ := bi_ h
    refine v_getR (f := 20) G cl7 dX7_nextOrder_76 w859 (by decide) (by decide) q30 ?_
    refine v_iload_n G dX7_nextOrder_79 rfl ?_
    obtain ⟨v32, q31, h⟩ := bi_ h
    refine v_iald G dX7_nextOrder_80 q31 ?_
    obtain ⟨M33, q34, h⟩ := bi_ h
    refine v_iast G dX7_nextOrder_81 q34 ?_
    refine v_aload_n G dX7_nextOrder_82 rfl ?_
    obtain ⟨b35, q36, h⟩ := bi_ h
    refine v_getR (f := 20) G cl7 dX7_nextOrder_83 w859 (by decide) (by decide) q36 ?_
    refine v_iload_n G dX7_nextOrder_86 rfl ?_
    refine v_iload G dX7_nextOrder_87 rfl ?_
    obtain ⟨M37, q38, h⟩ := bi_ h
    refine v_iast G dX7_nextOrder_89 q38 ?_
    refine v_iload_n G dX7_nextOrder_90 rfl ?_
    refine v_iconst G (1 : Int32) dX7_nextOrder_91 (by decide) ?_
    refine v_iadd G dX7_nextOrder_92 ?_
    refine v_istore [some (.ref x0), some (.int x1), some (.int v11), some (.int v22), some (.int v26), some (.int (v11 + (1 : Int32))), none] G dX7_nextOrder_93 (Nat.le_of_ble_eq_true rfl) rfl rfl ?_
    refine v_iload_n G dX7_nextOrder_95 rfl ?_
    refine v_iconst G (1 : Int32) dX7_nextOrder_96 (by decide) ?_
    refine v_isub G dX7_nextOrder_97 ?_
    refine v_istore [some (.ref x0), some (.int x1), some (.int v11), some (.int v22), some (.int v26), some (.int (v11 + (1 : Int32))), some (.int (x1 - (1 : Int32)))] G dX7_nextOrder_98 (Nat.le_of_ble_eq_true rfl) rfl rfl ?_
    refine v_mask [true, false, false, false, false, true, true] rfl ?_
    refine e_X7_nextOrder_L100 G (Nat.zero_le _) (Nat.zero_le _) _ (fun M56 h => ?_) FU _ _ _ h
    refine v_iconst G (1 : Int32) dX7_nextOrder_148 (by decide) ?_
    cases h
    exact v_zret G F rfl dX7_nextOrder_149 rfl (Nat.le_refl _)
  · rw [if_neg q12] at h
    refine v_iconst G (0 : Int32) dX7_nextOrder_35 (by decide) ?_
    cases h
    exact v_zret G F rfl dX7_nextOrder_36 rfl (Nat.le_refl _)
/-! X7_seating -/
def m_X7_seating_L48 {ρ : Type} (k0 : mM → Option ρ) (x0 : Nat) (x1 : Int32) (x2 : Int32) (x3 : Int32) : Nat → mM → Int32 → Option ρ
  | 0, _, _ => none
  | n + 1, M, x4 =>
    if (6 : Int32) ≤ x4 then (
      k0 M
    ) else (
      (gR M x0 7 20).bind fun b11 =>
      (stI M b11 x4 x4).bind fun M13 =>
      m_X7_seating_L48 k0 x0 x1 x2 x3 n M13 (x4 + (1 : Int32))
    )
theorem e_X7_seating_L48 {X : xX} {Z : zZ} {cn sn : Nat} {ρ : Type} {r : ρ} {k0 : mM → Option ρ} (G : ok_ X Z yX7_seating cX7_seating 7 5 0 0) (hcn : cn ≤ 0) (hsn : sn ≤ 0) (x0 : Nat) (x1 : Int32) (x2 : Int32) (x3 : Int32)
    (hx0 : ∀ (N : mM), k0 N = some r → V X Z N cn sn 70 [some (.ref x0), some (.int x1), some (.int x2), some (.int x3), none, none, none] []) :
    ∀ (n : Nat) (M : mM) (x4 : Int32), m_X7_seating_L48 k0 x0 x1 x2 x3 n M x4 = some r → V X Z M cn sn 48 [some (.ref x0), some (.int x1), some (.int x2), some (.int x3), some (.int x4), none, none] [] := by
  intro n
  induction n with
  | zero => intro M x4 h; rw [m_X7_seating_L48] at h; cases h
  | succ n ih =>
    intro M x4 h
    rw [m_X7_seating_L48] at h
    refine v_iload G dX7_seating_48 rfl ?_
    refine v_bipush G (6 : Int32) dX7_seating_50 (by decide) ?_
    refine v_ic_ge 70 G dX7_seating_52 (by decide) (fun q10 => ?_) (fun q10 => ?_)
    · rw [if_pos q10] at h
      exact v_mask [true, true, true, true, false, false, false] rfl (hx0 _ h)
    · rw [if_neg q10] at h
      refine v_aload_n G dX7_seating_55 rfl ?_
      obtain ⟨b11, q12, h⟩ := bi_ h
      refine v_getR (f := 20) G cl7 dX7_seating_56 w859 (by decide) (by decide) q12 ?_
      refine v_iload G dX7_seating_59 rfl ?_
      refine v_iload G dX7_seating_61 rfl ?_
      obtain ⟨M13, q14, h⟩ := bi_ h
      refine v_iast G dX7_seating_63 q14 ?_
      refine v_iinc (x4 + (1 : Int32)) [some (.ref x0), some (.int x1), some (.int x2), some (.int x3), some (.int (x4 + (1 : Int32))), none, none] G dX7_seating_64 rfl rfl (Nat.le_of_ble_eq_true rfl) rfl rfl ?_
      refine v_goto 48 G dX7_seating_67 (by decide) ?_
      exact v_mask [true, true, true, true, true, false, false] rfl (ih _ _ h)
def m_X7_seating_L85 {ρ : Type} (k0 : mM → Option ρ) (x0 : Nat) (x1 : Int32) (x2 : Int32) (x3 : Int32) : Nat → mM → Int32 → Option ρ
  | 0, _, _ => none
  | n + 1, M, x5 =>
    (gR M x0 7 5).bind fun b19 =>
    (ldI M b19 (0 : Int32)).bind fun v22 =>
    if v22 ≤ x5 then (
      k0 M
    ) else (
      (gR M x0 7 7).bind fun b24 =>
      (gR M x0 7 20).bind fun b26 =>
      (ldI M b26 x5).bind fun v29 =>
      (m_X7_be M b24 v29 (1 : Int32) x5).bind fun M31 =>
      m_X7_seating_L85 k0 x0 x1 x2 x3 n M31 (x5 + (1 : Int32))
    )
theorem e_X7_seating_L85 {X : xX} {Z : zZ} {cn sn : Nat} {ρ : Type} {r : ρ} {k0 : mM → Option ρ} (G : ok_ X Z yX7_seating cX7_seating 7 5 0 0) (hcn : cn ≤ 0) (hsn : sn ≤ 0) (x0 : Nat) (x1 : Int32) (x2 : Int32) (x3 : Int32)
    (hx0 : ∀ (N : mM), k0 N = some r → V X Z N cn sn 119 [some (.ref x0), some (.int x1), some (.int x2), some (.int x3), none, none, none] []) :
    ∀ (n : Nat) (M : mM) (x5 : Int32), m_X7_seating_L85 k0 x0 x1 x2 x3 n M x5 = some r → V X Z M cn sn 85 [some (.ref x0), some (.int x1), some (.int x2), some (.int x3), none, some (.int x5), none] [] := by
  intro n
  induction n with
  | zero => intro M x5 h; rw [m_X7_seating_L85] at h; cases h
  | succ n ih =>
    intro M x5 h
    rw [m_X7_seating_L85] at h
    refine v_iload G dX7_seating_85 rfl ?_
    refine v_aload_n G dX7_seating_87 rfl ?_
    obtain ⟨b19, q20, h⟩ := bi_ h
    refine v_getR (f := 5) G cl7 dX7_seating_88 w844 (by decide) (by decide) q20 ?_
    refine v_iconst G (0 : Int32) dX7_seating_91 (by decide) ?_
    obtain ⟨v22, q21, h⟩ := bi_ h
    refine v_iald G dX7_seating_92 q21 ?_
    refine v_ic_ge 119 G dX7_seating_93 (by decide) (fun q23 => ?_) (fun q23 => ?_)
    · rw [if_pos q23] at h
      exact v_mask [true, true, true, true, false, false, false] rfl (hx0 _ h)
    · rw [if_neg q23] at h
      refine v_aload_n G dX7_seating_96 rfl ?_
      obtain ⟨b24, q25, h⟩ := bi_ h
      refine v_getR (f := 7) G cl7 dX7_seating_97 w846 (by decide) (by decide) q25 ?_
      refine v_aload_n G dX7_seating_100 rfl ?_
      obtain ⟨b26, q27, h⟩ := bi_ h
      refine v_getR (f := 20) G cl7 dX7_seating_101 w859 (by decide) (by decide) q27 ?_
      refine v_iload G dX7_seating_104 rfl ?_
      obtain ⟨v29, q28, h⟩ := bi_ h
      refine v_iald G dX7_seating_106 q28 ?_
      refine v_iconst G (1 : Int32) dX7_seating_107 (by decide) ?_
      refine v_iload G dX7_seating_108 rfl ?_
      obtain ⟨M31, q30, h⟩ := bi_ h
      refine v_callS0 (e_X7_be q30) G my_X7_be w1054 w1053 dX7_seating_110 rfl (Nat.le_of_ble_eq_true rfl) rfl (Nat.le_of_ble_eq_true rfl) hcn hsn ?_
      refine v_iinc (x5 + (1 : Int32)) [some (.ref x0), some (.int x1), some (.int x2), some (.int x3), none, some (.int (x5 + (1 : Int32))), none] G dX7_seating_113 rfl rfl (Nat.le_of_ble_eq_true rfl) rfl rfl ?_
      refine v_goto 85 G dX7_seating_116 (by decide) ?_
      exact v_mask [true, true, true, true, false, true, false] rfl (ih _ _ h)
def m_X7_seating_L149 {ρ : Type} (k0 : mM → Option ρ) (x0 : Nat) (x1 : Int32) (x2 : Int32) (x3 : Int32) : Nat → mM → Int32 → Option ρ
  | 0, _, _ => none
  | n + 1, M, x6 =>
    if (6 : Int32) ≤ x6 then (
      k0 M
    ) else (
      (gR M x0 7 21).bind fun b51 =>
      (gR M x0 7 20).bind fun b53 =>
      (ldI M b53 x6).bind fun v56 =>
      (stI M b51 x6 v56).bind fun M57 =>
      m_X7_seating_L149 k0 x0 x1 x2 x3 n M57 (x6 + (1 : Int32))
    )
theorem e_X7_seating_L149 {X : xX} {Z : zZ} {cn sn : Nat} {ρ : Type} {r : ρ} {k0 : mM → Option ρ} (G : ok_ X Z yX7_seating cX7_seating 7 5 0 0) (hcn : cn ≤ 0) (hsn : sn ≤ 0) (x0 : Nat) (x1 : Int32) (x2 : Int32) (x3 : Int32)
    (hx0 : ∀ (N : mM), k0 N = some r → V X Z N cn sn 176 [some (.ref x0), some (.int x1), some (.int x2), some (.int x3), none, none, none] []) :
    ∀ (n : Nat) (M : mM) (x6 : Int32), m_X7_seating_L149 k0 x0 x1 x2 x3 n M x6 = some r → V X Z M cn sn 149 [some (.ref x0), some (.int x1), some (.int x2), some (.int x3), none, none, some (.int x6)] [] := by
  intro n
  induction n with
  | zero => intro M x6 h; rw [m_X7_seating_L149] at h; cases h
  | succ n ih =>
    intro M x6 h
    rw [m_X7_seating_L149] at h
    refine v_iload G dX7_seating_149 rfl ?_
    refine v_bipush G (6 : Int32) dX7_seating_151 (by decide) ?_
    refine v_ic_ge 176 G dX7_seating_153 (by decide) (fun q50 => ?_) (fun q50 => ?_)
    · rw [if_pos q50] at h
      exact v_mask [true, true, true, true, false, false, false] rfl (hx0 _ h)
    · rw [if_neg q50] at h
      refine v_aload_n G dX7_seating_156 rfl ?_
      obtain ⟨b51, q52, h⟩ := bi_ h
      refine v_getR (f := 21) G cl7 dX7_seating_157 w860 (by decide) (by decide) q52 ?_
      refine v_iload G dX7_seating_160 rfl ?_
      refine v_aload_n G dX7_seating_162 rfl ?_
      obtain ⟨b53, q54, h⟩ := bi_ h
      refine v_getR (f := 20) G cl7 dX7_seating_163 w859 (by decide) (by decide) q54 ?_
      refine v_iload G dX7_seating_166 rfl ?_
      obtain ⟨v56, q55, h⟩ := bi_ h
      refine v_iald G dX7_seating_168 q55 ?_
      obtain ⟨M57, q58, h⟩ := bi_ h
      refine v_iast G dX7_seating_169 q58 ?_
      refine v_iinc (x6 + (1 : Int32)) [some (.ref x0), some (.int x1), some (.int x2), some (.int x3), none, none, some (.int (x6 + (1 : Int32)))] G dX7_seating_170 rfl rfl (Nat.le_of_ble_eq_true rfl) rfl rfl ?_
      refine v_goto 149 G dX7_seating_173 (by decide) ?_
      exact v_mask [true, true, true, true, false, false, true] rfl (ih _ _ h)
def m_X7_seating_L73 {ρ : Type} (k0 : mM → Int32 → Option ρ) (x0 : Nat) (x1 : Int32) (x2 : Int32) : Nat → mM → Int32 → Int32 → Option ρ
  | 0, _, _, _ => none
  | n + 1, M, x3, x4 =>
    if x4 = (0 : Int32) then (
      k0 M x3
    ) else (
      if isO M x0 7 = true then
      (m_X7_layThen M x0).bind fun M18 =>
      m_X7_seating_L85
        (fun M19 =>
          (gR M19 x0 7 7).bind fun b20 =>
          if isO M19 x0 7 = true then
          (m_X7_daysOf M19 x0 b20 x1).bind fun M23 =>
          (gR M23 x0 7 7).bind fun b24 =>
          (m_X7_known M23 b24).bind fun v27 =>
          if v27 ≤ x3 then (
            (gR M23 x0 7 5).bind fun b29 =>
            (ldI M23 b29 (0 : Int32)).bind fun v32 =>
            if isO M23 x0 7 = true then
            bd2 (m_X7_nextOrder M23 x0 v32) fun M34 v35 =>
            m_X7_seating_L73 k0 x0 x1 x2 n M34 x3 v35
            else none
          ) else (
            m_X7_seating_L149
              (fun M37 =>
                (gR M37 x0 7 5).bind fun b38 =>
                (ldI M37 b38 (0 : Int32)).bind fun v41 =>
                if isO M37 x0 7 = true then
                bd2 (m_X7_nextOrder M37 x0 v41) fun M43 v44 =>
                m_X7_seating_L73 k0 x0 x1 x2 n M43 v27 v44
                else none)
              x0 x1 x2 v27 FU M23 (0 : Int32)
          )
          else none)
        x0 x1 x2 x3 FU M18 (0 : Int32)
      else none
    )
theorem e_X7_seating_L73 {X : xX} {Z : zZ} {cn sn : Nat} {ρ : Type} {r : ρ} {k0 : mM → Int32 → Option ρ} (G : ok_ X Z yX7_seating cX7_seating 7 5 0 0) (hcn : cn ≤ 0) (hsn : sn ≤ 0) (x0 : Nat) (x1 : Int32) (x2 : Int32)
    (hx0 : ∀ (N : mM) (z3 : Int32), k0 N z3 = some r → V X Z N cn sn 191 [some (.ref x0), none, some (.int x2), some (.int z3), none, none, none] []) :
    ∀ (n : Nat) (M : mM) (x3 : Int32) (x4 : Int32), m_X7_seating_L73 k0 x0 x1 x2 n M x3 x4 = some r → V X Z M cn sn 73 [some (.ref x0), some (.int x1), some (.int x2), some (.int x3), some (.int x4), none, none] [] := by
  intro n
  induction n with
  | zero => intro M x3 x4 h; rw [m_X7_seating_L73] at h; cases h
  | succ n ih =>
    intro M x3 x4 h
    rw [m_X7_seating_L73] at h
    refine v_iload G dX7_seating_73 rfl ?_
    refine v_if_eq 191 G dX7_seating_75 (by decide) (fun q16 => ?_) (fun q16 => ?_)
    · rw [if_pos q16] at h
      exact v_mask [true, false, true, true, false, false, false] rfl (hx0 _ _ h)
    · rw [if_neg q16] at h
      refine v_aload_n G dX7_seating_78 rfl ?_
      obtain ⟨q47, h⟩ := if_s h
      obtain ⟨M18, q17, h⟩ := bi_ h
      refine v_callV0 (e_X7_layThen q17) G cl7 my_X7_layThen rfl w1134 w46 w1132 dX7_seating_79 q47 rfl (Nat.le_of_ble_eq_true rfl) rfl (Nat.le_of_ble_eq_true rfl) hcn hsn ?_
      refine v_iconst G (0 : Int32) dX7_seating_82 (by decide) ?_
      refine v_istore [some (.ref x0), some (.int x1), some (.int x2), some (.int x3), some (.int x4), some (.int (0 : Int32)), none] G dX7_seating_83 (Nat.le_of_ble_eq_true rfl) rfl rfl ?_
      refine v_mask [true, true, true, true, false, true, false] rfl ?_
      refine e_X7_seating_L85 G hcn hsn _ _ _ _ (fun M19 h => ?_) FU _ _ h
      refine v_aload_n G dX7_seating_119 rfl ?_
      refine v_aload_n G dX7_seating_120 rfl ?_
      obtain ⟨b20, q21, h⟩ := bi_ h
      refine v_getR (f := 7) G cl7 dX7_seating_121 w846 (by decide) (by decide) q21 ?_
      refine v_iload_n G dX7_seating_124 rfl ?_
      obtain ⟨q46, h⟩ := if_s h
      obtain ⟨M23, q22, h⟩ := bi_ h
      refine v_callV0 (e_X7_daysOf q22) G cl7 my_X7_daysOf rfl w1138 w47 w1136 dX7_seating_125 q46 rfl (Nat.le_of_ble_eq_true rfl) rfl (Nat.le_of_ble_eq_true rfl) hcn hsn ?_
      refine v_aload_n G dX7_seating_128 rfl ?_
      obtain ⟨b24, q25, h⟩ := bi_ h
      refine v_getR (f := 7) G cl7 dX7_seating_129 w846 (by decide) (by decide) q25 ?_
      obtain ⟨v27, q26, h⟩ := bi_ h
      refine v_callS0 (e_X7_known q26) G my_X7_known w1066 w1065 dX7_seating_132 rfl (Nat.le_of_ble_eq_true rfl) rfl (Nat.le_of_ble_eq_true rfl) hcn hsn ?_
      refine v_istore [some (.ref x0), some (.int x1), some (.int x2), some (.int x3), none, some (.int v27), none] G dX7_seating_135 (Nat.le_of_ble_eq_true rfl) rfl rfl ?_
      refine v_iload G dX7_seating_137 rfl ?_
      refine v_iload_n G dX7_seating_139 rfl ?_
      refine v_ic_le 176 G dX7_seating_140 (by decide) (fun q28 => ?_) (fun q28 => ?_)
      · rw [if_pos q28] at h
        refine v_aload_n G dX7_seating_176 rfl ?_
        refine v_aload_n G dX7_seating_177 rfl ?_
        obtain ⟨b29, q30, h⟩ := bi_ h
        refine v_getR (f := 5) G cl7 dX7_seating_178 w844 (by decide) (by decide) q30 ?_
        refine v_iconst G (0 : Int32) dX7_seating_181 (by decide) ?_
        obtain ⟨v32, q31, h⟩ := bi_ h
        refine v_iald G dX7_seating_182 q31 ?_
        obtain ⟨q36, h⟩ := if_s h
        obtain ⟨M34, v35, q33, h⟩ := bi2_ h
        refine v_callV0 (e_X7_nextOrder q33) G cl7 my_X7_nextOrder rfl w1174 w49 w1172 dX7_seating_183 q36 rfl (Nat.le_of_ble_eq_true rfl) rfl (Nat.le_of_ble_eq_true rfl) hcn hsn ?_
        refine v_istore [some (.ref x0), some (.int x1), some (.int x2), some (.int x3), some (.int v35), some (.int v27), none] G dX7_seating_186 (Nat.le_of_ble_eq_true rfl) rfl rfl ?_
        refine v_goto 73 G dX7_seating_188 (by decide) ?_
        exact v_mask [true, true, true, true, true, false, false] rfl (ih _ _ _ h)
      · rw [if_neg q28] at h
        refine v_iload G dX7_seating_143 rfl ?_
        refine v_istore_n [some (.ref x0), some (.int x1), some (.int x2), some (.int v27), none, some (.int v27), none] G dX7_seating_145 (Nat.le_of_ble_eq_true rfl) rfl rfl ?_
        refine v_iconst G (0 : Int32) dX7_seating_146 (by decide) ?_
        refine v_istore [some (.ref x0), some (.int x1), some (.int x2), some (.int v27), none, some (.int v27), some (.int (0 : Int32))] G dX7_seating_147 (Nat.le_of_ble_eq_true rfl) rfl rfl ?_
        refine v_mask [true, true, true, true, false, false, true] rfl ?_
        refine e_X7_seating_L149 G hcn hsn _ _ _ _ (fun M37 h => ?_) FU _ _ h
        refine v_aload_n G dX7_seating_176 rfl ?_
        refine v_aload_n G dX7_seating_177 rfl ?_
        obtain ⟨b38, q39, h⟩ := bi_ h
        refine v_getR (f := 5) G cl7 dX7_seating_178 w844 (by decide) (by decide) q39 ?_
        refine v_iconst G (0 : Int32) dX7_seating_181 (by decide) ?_
        obtain ⟨v41, q40, h⟩ := bi_ h
        refine v_iald G dX7_seating_182 q40 ?_
        obtain ⟨q45, h⟩ := if_s h
        obtain ⟨M43, v44, q42, h⟩ := bi2_ h
        refine v_callV0 (e_X7_nextOrder q42) G cl7 my_X7_nextOrder rfl w1174 w49 w1172 dX7_seating_183 q45 rfl (Nat.le_of_ble_eq_true rfl) rfl (Nat.le_of_ble_eq_true rfl) hcn hsn ?_
        refine v_istore [some (.ref x0), some (.int x1), some (.int x2), some (.int v27), some (.int v44), none, none] G dX7_seating_186 (Nat.le_of_ble_eq_true rfl) rfl rfl ?_
        refine v_goto 73 G dX7_seating_188 (by decide) ?_
        exact v_mask [true, true, true, true, true, false, false] rfl (ih _ _ _ h)
def m_X7_seating (M : mM) (x0 : Nat) (x1 : Int32) (x2 : Int32) : Option (mM × Int32) :=
  (pI M x0 7 0 (0 : Int32)).bind fun M1 =>
  if isO M1 x0 7 = true then
  (m_X7_isThere M1 x0).bind fun v4 =>
  if v4 = (0 : Int32) then (
    some (M1, (-1000002 : Int32))
  ) else (
    (m_X7_in M1 (Int32.toInt64 x1) (1 : Int64) (12 : Int64)).bind fun v7 =>
    if v7 = (0 : Int32) then (
      some (M1, (-1000001 : Int32))
    ) else (
      if x2 = (-1 : Int32) then (
        m_X7_seating_L48
          (fun M15 =>
            m_X7_seating_L73
              (fun M48 v49 =>
                if x2 = (-1 : Int32) then (
                  some (M48, v49)
                ) else (
                  (gR M48 x0 7 21).bind fun b51 =>
                  (ldI M48 b51 x2).bind fun v54 =>
                  some (M48, v54)
                ))
              x0 x1 x2 FU M15 (-1 : Int32) (1 : Int32))
          x0 x1 x2 (-1 : Int32) FU M1 (0 : Int32)
      ) else (
        if isO M1 x0 7 = true then
        (m_X7_isPupil M1 x0 x2).bind fun v56 =>
        if v56 = (0 : Int32) then (
          some (M1, (-1000001 : Int32))
        ) else (
          m_X7_seating_L48
            (fun M58 =>
              m_X7_seating_L73
                (fun M59 v60 =>
                  if x2 = (-1 : Int32) then (
                    some (M59, v60)
                  ) else (
                    (gR M59 x0 7 21).bind fun b62 =>
                    (ldI M59 b62 x2).bind fun v65 =>
                    some (M59, v65)
                  ))
                x0 x1 x2 FU M58 (-1 : Int32) (1 : Int32))
            x0 x1 x2 (-1 : Int32) FU M1 (0 : Int32)
        )
        else none
      )
    )
  )
  else none
theorem e_X7_seating {Z : zZ} {M : mM} {N : mM} {x0 : Nat} {x1 : Int32} {x2 : Int32} {r : Int32} (h : m_X7_seating M x0 x1 x2 = some (N, r)) : EM Z yX7_seating cX7_seating 7 (some .int) 5 0 0 [.ref x0, .int x1, .int x2] M N (some (.int r)) := by
  refine EM_of my_X7_seating (Nat.le_of_ble_eq_true rfl) (fun X G F => ?_)
  show V X Z M 0 0 0 [some (.ref x0), some (.int x1), some (.int x2), none, none, none, none] []
  unfold m_X7_seating at h
  refine v_aload_n G dX7_seating_0 rfl ?_
  refine v_iconst G (0 : Int32) dX7_seating_1 (by decide) ?_
  obtain ⟨M1, q2, h⟩ := bi_ h
  refine v_putI (f := 0) G cl7 dX7_seating_2 w839 (by decide) (by decide) (by decide) rfl rfl q2 ?_
  refine v_aload_n G dX7_seating_5 rfl ?_
  obtain ⟨q67, h⟩ := if_s h
  obtain ⟨v4, q3, h⟩ := bi_ h
  refine v_callV0 (e_X7_isThere q3) G cl7 my_X7_isThere rfl w1026 w38 w1024 dX7_seating_6 q67 rfl (Nat.le_of_ble_eq_true rfl) rfl (Nat.le_of_ble_eq_true rfl) (Nat.zero_le _) (Nat.zero_le _) ?_
  refine v_if_ne 15 G dX7_seating_9 (by decide) (fun q5 => ?_) (fun q5 => ?_)
  · rw [if_neg q5] at h
    refine v_iload_n G dX7_seating_15 rfl ?_
    refine v_i2l G dX7_seating_16 ?_
    refine v_lconst G (1 : Int64) dX7_seating_17 (by decide) ?_
    refine v_ldc2 G (12 : Int64) dX7_seating_18 w1171 ?_
    obtain ⟨v7, q6, h⟩ := bi_ h
    refine v_callS0 (e_X7_in q6) G my_X7_in w928 w927 dX7_seating_21 rfl (Nat.le_of_ble_eq_true rfl) rfl (Nat.le_of_ble_eq_true rfl) (Nat.zero_le _) (Nat.zero_le _) ?_
    refine v_if_eq 40 G dX7_seating_24 (by decide) (fun q8 => ?_) (fun q8 => ?_)
    · rw [if_pos q8] at h
      refine v_ldc G (-1000001 : Int32) dX7_seating_40 w931 ?_
      cases h
      exact v_iret G F dX7_seating_42 rfl (Nat.le_refl _)
    · rw [if_neg q8] at h
      refine v_iload_n G dX7_seating_27 rfl ?_
      refine v_iconst G (-1 : Int32) dX7_seating_28 (by decide) ?_
      refine v_ic_eq 43 G dX7_seating_29 (by decide) (fun q9 => ?_) (fun q9 => ?_)
      · rw [if_pos q9] at h
        refine v_iconst G (-1 : Int32) dX7_seating_43 (by decide) ?_
        refine v_istore_n [some (.ref x0), some (.int x1), some (.int x2), some (.int (-1 : Int32)), none, none, none] G dX7_seating_44 (Nat.le_of_ble_eq_true rfl) rfl rfl ?_
        refine v_iconst G (0 : Int32) dX7_seating_45 (by decide) ?_
        refine v_istore [some (.ref x0), some (.int x1), some (.int x2), some (.int (-1 : Int32)), some (.int (0 : Int32)), none, none] G dX7_seating_46 (Nat.le_of_ble_eq_true rfl) rfl rfl ?_
        refine v_mask [true, true, true, true, true, false, false] rfl ?_
        refine e_X7_seating_L48 G (Nat.zero_le _) (Nat.zero_le _) _ _ _ _ (fun M15 h => ?_) FU _ _ h
        refine v_iconst G (1 : Int32) dX7_seating_70 (by decide) ?_
        refine v_istore [some (.ref x0), some (.int x1), some (.int x2), some (.int (-1 : Int32)), some (.int (1 : Int32)), none, none] G dX7_seating_71 (Nat.le_of_ble_eq_true rfl) rfl rfl ?_
        refine v_mask [true, true, true, true, true, false, false] rfl ?_
        refine e_X7_seating_L73 G (Nat.zero_le _) (Nat.zero_le _) _ _ _ (fun M48 v49 h => ?_) FU _ _ _ h
        refine v_iload_n G dX7_seating_191 rfl ?_
        refine v_iconst G (-1 : Int32) dX7_seating_192 (by decide) ?_
        refine v_ic_ne 200 G dX7_seating_193 (by decide) (fun q50 => ?_) (fun q50 => ?_)
        · rw [if_neg q50] at h
          refine v_aload_n G dX7_seating_200 rfl ?_
          obtain ⟨b51, q52, h⟩ := bi_ h
          refine v_getR (f := 21) G cl7 dX7_seating_201 w860 (by decide) (by decide) q52 ?_
          refine v_iload_n G dX7_seating_204 rfl ?_
          obtain ⟨v54, q53, h⟩ := bi_ h
          refine v_iald G dX7_seating_205 q53 ?_
          cases h
          exact v_iret G F dX7_seating_206 rfl (Nat.le_refl _)
        · rw [if_pos q50] at h
          refine v_iload_n G dX7_seating_196 rfl ?_
          refine v_goto 206 G dX7_seating_197 (by decide) ?_
          cases h
          exact v_iret G F dX7_seating_206 rfl (Nat.le_refl _)
      · rw [if_neg q9] at h
        refine v_aload_n G dX7_seating_32 rfl ?_
        refine v_iload_n G dX7_seating_33 rfl ?_
        obtain ⟨q66, h⟩ := if_s h
        obtain ⟨v56, q55, h⟩ := bi_ h
        refine v_callV0 (e_X7_isPupil q55) G cl7 my_X7_isPupil rfl w1074 w41 w1072 dX7_seating_34 q66 rfl (Nat.le_of_ble_eq_true rfl) rfl (Nat.le_of_ble_eq_true rfl) (Nat.zero_le _) (Nat.zero_le _) ?_
        refine v_if_ne 43 G dX7_seating_37 (by decide) (fun q57 => ?_) (fun q57 => ?_)
        · rw [if_neg q57] at h
          refine v_iconst G (-1 : Int32) dX7_seating_43 (by decide) ?_
          refine v_istore_n [some (.ref x0), some (.int x1), some (.int x2), some (.int (-1 : Int32)), none, none, none] G dX7_seating_44 (Nat.le_of_ble_eq_true rfl) rfl rfl ?_
          refine v_iconst G (0 : Int32) dX7_seating_45 (by decide) ?_
          refine v_istore [some (.ref x0), some (.int x1), some (.int x2), some (.int (-1 : Int32)), some (.int (0 : Int32)), none, none] G dX7_seating_46 (Nat.le_of_ble_eq_true rfl) rfl rfl ?_
          refine v_mask [true, true, true, true, true, false, false] rfl ?_
          refine e_X7_seating_L48 G (Nat.zero_le _) (Nat.zero_le _) _ _ _ _ (fun M58 h => ?_) FU _ _ h
          refine v_iconst G (1 : Int32) dX7_seating_70 (by decide) ?_
          refine v_istore [some (.ref x0), some (.int x1), some (.int x2), some (.int (-1 : Int32)), some (.int (1 : Int32)), none, none] G dX7_seating_71 (Nat.le_of_ble_eq_true rfl) rfl rfl ?_
          refine v_mask [true, true, true, true, true, false, false] rfl ?_
          refine e_X7_seating_L73 G (Nat.zero_le _) (Nat.zero_le _) _ _ _ (fun M59 v60 h => ?_) FU _ _ _ h
          refine v_iload_n G dX7_seating_191 rfl ?_
          refine v_iconst G (-1 : Int32) dX7_seating_192 (by decide) ?_
          refine v_ic_ne 200 G dX7_seating_193 (by decide) (fun q61 => ?_) (fun q61 => ?_)
          · rw [if_neg q61] at h
            refine v_aload_n G dX7_seating_200 rfl ?_
            obtain ⟨b62, q63, h⟩ := bi_ h
            refine v_getR (f := 21) G cl7 dX7_seating_201 w860 (by decide) (by decide) q63 ?_
            refine v_iload_n G dX7_seating_204 rfl ?_
            obtain ⟨v65, q64, h⟩ := bi_ h
            refine v_iald G dX7_seating_205 q64 ?_
            cases h
            exact v_iret G F dX7_seating_206 rfl (Nat.le_refl _)
          · rw [if_pos q61] at h
            refine v_iload_n G dX7_seating_196 rfl ?_
            refine v_goto 206 G dX7_seating_197 (by decide) ?_
            cases h
            exact v_iret G F dX7_seating_206 rfl (Nat.le_refl _)
        · rw [if_pos q57] at h
          refine v_ldc G (-1000001 : Int32) dX7_seating_40 w931 ?_
          cases h
          exact v_iret G F dX7_seating_42 rfl (Nat.le_refl _)
  · rw [if_pos q5] at h
    refine v_ldc G (-1000002 : Int32) dX7_seating_12 w1028 ?_
    cases h
    exact v_iret G F dX7_seating_14 rfl (Nat.le_refl _)
/-! X7_table -/
def m_X7_table_L85 {ρ : Type} (k0 : mM → Int32 → Int32 → Option ρ) (x0 : Nat) (x1 : Int32) (x2 : Int32) (x5 : Int32) : Nat → mM → Int32 → Int32 → Int32 → Option ρ
  | 0, _, _, _, _ => none
  | n + 1, M, x3, x4, x6 =>
    (gR M x0 7 5).bind fun b27 =>
    (ldI M b27 (2 : Int32)).bind fun v30 =>
    if v30 ≤ x6 then (
      k0 M x3 x4
    ) else (
      if isO M x0 7 = true then
      (m_X7_layThen M x0).bind fun M33 =>
      (gR M33 x0 7 7).bind fun b34 =>
      (gR M33 x0 7 5).bind fun b36 =>
      (ldI M33 b36 ((11 : Int32) + x6)).bind fun v39 =>
      (stI M33 b34 ((11 : Int32) + x5) v39).bind fun M40 =>
      (gR M40 x0 7 7).bind fun b42 =>
      (gR M40 x0 7 5).bind fun b44 =>
      (ldI M40 b44 ((11 : Int32) + x5)).bind fun v47 =>
      (stI M40 b42 ((11 : Int32) + x6) v47).bind fun M48 =>
      (gR M48 x0 7 7).bind fun b50 =>
      if isO M48 x0 7 = true then
      (m_X7_daysOf M48 x0 b50 x1).bind fun M53 =>
      (gR M53 x0 7 7).bind fun b54 =>
      (m_X7_known M53 b54).bind fun v57 =>
      if v57 ≤ x3 then (
        m_X7_table_L85 k0 x0 x1 x2 x5 n M53 x3 x4 (x6 + (1 : Int32))
      ) else (
        m_X7_table_L85 k0 x0 x1 x2 x5 n M53 v57 (((10 : Int32) * x5) + x6) (x6 + (1 : Int32))
      )
      else none
      else none
    )
theorem e_X7_table_L85 {X : xX} {Z : zZ} {cn sn : Nat} {ρ : Type} {r : ρ} {k0 : mM → Int32 → Int32 → Option ρ} (G : ok_ X Z yX7_table cX7_table 8 5 0 0) (hcn : cn ≤ 0) (hsn : sn ≤ 0) (x0 : Nat) (x1 : Int32) (x2 : Int32) (x5 : Int32)
    (hx0 : ∀ (N : mM) (z3 : Int32) (z4 : Int32), k0 N z3 z4 = some r → V X Z N cn sn 183 [some (.ref x0), some (.int x1), some (.int x2), some (.int z3), some (.int z4), some (.int x5), none, none] []) :
    ∀ (n : Nat) (M : mM) (x3 : Int32) (x4 : Int32) (x6 : Int32), m_X7_table_L85 k0 x0 x1 x2 x5 n M x3 x4 x6 = some r → V X Z M cn sn 85 [some (.ref x0), some (.int x1), some (.int x2), some (.int x3), some (.int x4), some (.int x5), some (.int x6), none] [] := by
  intro n
  induction n with
  | zero => intro M x3 x4 x6 h; rw [m_X7_table_L85] at h; cases h
  | succ n ih =>
    intro M x3 x4 x6 h
    rw [m_X7_table_L85] at h
    refine v_iload G dX7_table_85 rfl ?_
    refine v_aload_n G dX7_table_87 rfl ?_
    obtain ⟨b27, q28, h⟩ := bi_ h
    refine v_getR (f := 5) G cl7 dX7_table_88 w844 (by decide) (by decide) q28 ?_
    refine v_iconst G (2 : Int32) dX7_table_91 (by decide) ?_
    obtain ⟨v30, q29, h⟩ := bi_ h
    refine v_iald G dX7_table_92 q29 ?_
    refine v_ic_ge 183 G dX7_table_93 (by decide) (fun q31 => ?_) (fun q31 => ?_)
    · rw [if_pos q31] at h
      exact v_mask [true, true, true, true, true, true, false, false] rfl (hx0 _ _ _ h)
    · rw [if_neg q31] at h
      refine v_aload_n G dX7_table_96 rfl ?_
      obtain ⟨q60, h⟩ := if_s h
      obtain ⟨M33, q32, h⟩ := bi_ h
      refine v_callV0 (e_X7_layThen q32) G cl7 my_X7_layThen rfl w1134 w46 w1132 dX7_table_97 q60 rfl (Nat.le_of_ble_eq_true rfl) rfl (Nat.le_of_ble_eq_true rfl) hcn hsn ?_
      refine v_aload_n G dX7_table_100 rfl ?_
      obtain ⟨b34, q35, h⟩ := bi_ h
      refine v_getR (f := 7) G cl7 dX7_table_101 w846 (by decide) (by decide) q35 ?_
      refine v_bipush G (11 : Int32) dX7_table_104 (by decide) ?_
      refine v_iload G dX7_table_106 rfl ?_
      refine v_iadd G dX7_table_108 ?_
      refine v_aload_n G dX7_table_109 rfl ?_
      obtain ⟨b36, q37, h⟩ := bi_ h
      refine v_getR (f := 5) G cl7 dX7_table_110 w844 (by decide) (by decide) q37 ?_
      refine v_bipush G (11 : Int32) dX7_table_113 (by decide) ?_
      refine v_iload G dX7_table_115 rfl ?_
      refine v_iadd G dX7_table_117 ?_
      obtain ⟨v39, q38, h⟩ := bi_ h
      refine v_iald G dX7_table_118 q38 ?_
      obtain ⟨M40, q41, h⟩ := bi_ h
      refine v_iast G dX7_table_119 q41 ?_
      refine v_aload_n G dX7_table_120 rfl ?_
      obtain ⟨b42, q43, h⟩ := bi_ h
      refine v_getR (f := 7) G cl7 dX7_table_121 w846 (by decide) (by decide) q43 ?_
      refine v_bipush G (11 : Int32) dX7_table_124 (by decide) ?_
      refine v_iload G dX7_table_126 rfl ?_
      refine v_iadd G dX7_table_128 ?_
      refine v_aload_n G dX7_table_129 rfl ?_
      obtain ⟨b44, q45, h⟩ := bi_ h
      refine v_getR (f := 5) G cl7 dX7_table_130 w844 (by decide) (by decide) q45 ?_
      refine v_bipush G (11 : Int32) dX7_table_133 (by decide) ?_
      refine v_iload G dX7_table_135 rfl ?_
      refine v_iadd G dX7_table_137 ?_
      obtain ⟨v47, q46, h⟩ := bi_ h
      refine v_iald G dX7_table_138 q46 ?_
      obtain ⟨M48, q49, h⟩ := bi_ h
      refine v_iast G dX7_table_139 q49 ?_
      refine v_aload_n G dX7_table_140 rfl ?_
      refine v_aload_n G dX7_table_141 rfl ?_
      obtain ⟨b50, q51, h⟩ := bi_ h
      refine v_getR (f := 7) G cl7 dX7_table_142 w846 (by decide) (by decide) q51 ?_
      refine v_iload_n G dX7_table_145 rfl ?_
      obtain ⟨q59, h⟩ := if_s h
      obtain ⟨M53, q52, h⟩ := bi_ h
      refine v_callV0 (e_X7_daysOf q52) G cl7 my_X7_daysOf rfl w1138 w47 w1136 dX7_table_146 q59 rfl (Nat.le_of_ble_eq_true rfl) rfl (Nat.le_of_ble_eq_true rfl) hcn hsn ?_
      refine v_aload_n G dX7_table_149 rfl ?_
      obtain ⟨b54, q55, h⟩ := bi_ h
      refine v_getR (f := 7) G cl7 dX7_table_150 w846 (by decide) (by decide) q55 ?_
      obtain ⟨v57, q56, h⟩ := bi_ h
      refine v_callS0 (e_X7_known q56) G my_X7_known w1066 w1065 dX7_table_153 rfl (Nat.le_of_ble_eq_true rfl) rfl (Nat.le_of_ble_eq_true rfl) hcn hsn ?_
      refine v_istore [some (.ref x0), some (.int x1), some (.int x2), some (.int x3), some (.int x4), some (.int x5), some (.int x6), some (.int v57)] G dX7_table_156 (Nat.le_of_ble_eq_true rfl) rfl rfl ?_
      refine v_iload G dX7_table_158 rfl ?_
      refine v_iload_n G dX7_table_160 rfl ?_
      refine v_ic_le 177 G dX7_table_161 (by decide) (fun q58 => ?_) (fun q58 => ?_)
      · rw [if_pos q58] at h
        refine v_iinc (x6 + (1 : Int32)) [some (.ref x0), some (.int x1), some (.int x2), some (.int x3), some (.int x4), some (.int x5), some (.int (x6 + (1 : Int32))), some (.int v57)] G dX7_table_177 rfl rfl (Nat.le_of_ble_eq_true rfl) rfl rfl ?_
        refine v_goto 85 G dX7_table_180 (by decide) ?_
        exact v_mask [true, true, true, true, true, true, true, false] rfl (ih _ _ _ _ h)
      · rw [if_neg q58] at h
        refine v_iload G dX7_table_164 rfl ?_
        refine v_istore_n [some (.ref x0), some (.int x1), some (.int x2), some (.int v57), some (.int x4), some (.int x5), some (.int x6), some (.int v57)] G dX7_table_166 (Nat.le_of_ble_eq_true rfl) rfl rfl ?_
        refine v_bipush G (10 : Int32) dX7_table_167 (by decide) ?_
        refine v_iload G dX7_table_169 rfl ?_
        refine v_imul G dX7_table_171 ?_
        refine v_iload G dX7_table_172 rfl ?_
        refine v_iadd G dX7_table_174 ?_
        refine v_istore [some (.ref x0), some (.int x1), some (.int x2), some (.int v57), some (.int (((10 : Int32) * x5) + x6)), some (.int x5), some (.int x6), some (.int v57)] G dX7_table_175 (Nat.le_of_ble_eq_true rfl) rfl rfl ?_
        refine v_iinc (x6 + (1 : Int32)) [some (.ref x0), some (.int x1), some (.int x2), some (.int v57), some (.int (((10 : Int32) * x5) + x6)), some (.int x5), some (.int (x6 + (1 : Int32))), some (.int v57)] G dX7_table_177 rfl rfl (Nat.le_of_ble_eq_true rfl) rfl rfl ?_
        refine v_goto 85 G dX7_table_180 (by decide) ?_
        exact v_mask [true, true, true, true, true, true, true, false] rfl (ih _ _ _ _ h)
def m_X7_table_L68 {ρ : Type} (k0 : mM → Int32 → Int32 → Option ρ) (x0 : Nat) (x1 : Int32) (x2 : Int32) : Nat → mM → Int32 → Int32 → Int32 → Option ρ
  | 0, _, _, _, _ => none
  | n + 1, M, x3, x4, x5 =>
    (gR M x0 7 5).bind fun b22 =>
    (ldI M b22 (2 : Int32)).bind fun v25 =>
    if v25 ≤ x5 then (
      k0 M x3 x4
    ) else (
      m_X7_table_L85
        (fun M27 v28 v29 =>
          m_X7_table_L68 k0 x0 x1 x2 n M27 v28 v29 (x5 + (1 : Int32)))
        x0 x1 x2 x5 FU M x3 x4 (x5 + (1 : Int32))
    )
theorem e_X7_table_L68 {X : xX} {Z : zZ} {cn sn : Nat} {ρ : Type} {r : ρ} {k0 : mM → Int32 → Int32 → Option ρ} (G : ok_ X Z yX7_table cX7_table 8 5 0 0) (hcn : cn ≤ 0) (hsn : sn ≤ 0) (x0 : Nat) (x1 : Int32) (x2 : Int32)
    (hx0 : ∀ (N : mM) (z3 : Int32) (z4 : Int32), k0 N z3 z4 = some r → V X Z N cn sn 189 [none, none, some (.int x2), some (.int z3), some (.int z4), none, none, none] []) :
    ∀ (n : Nat) (M : mM) (x3 : Int32) (x4 : Int32) (x5 : Int32), m_X7_table_L68 k0 x0 x1 x2 n M x3 x4 x5 = some r → V X Z M cn sn 68 [some (.ref x0), some (.int x1), some (.int x2), some (.int x3), some (.int x4), some (.int x5), none, none] [] := by
  intro n
  induction n with
  | zero => intro M x3 x4 x5 h; rw [m_X7_table_L68] at h; cases h
  | succ n ih =>
    intro M x3 x4 x5 h
    rw [m_X7_table_L68] at h
    refine v_iload G dX7_table_68 rfl ?_
    refine v_aload_n G dX7_table_70 rfl ?_
    obtain ⟨b22, q23, h⟩ := bi_ h
    refine v_getR (f := 5) G cl7 dX7_table_71 w844 (by decide) (by decide) q23 ?_
    refine v_iconst G (2 : Int32) dX7_table_74 (by decide) ?_
    obtain ⟨v25, q24, h⟩ := bi_ h
    refine v_iald G dX7_table_75 q24 ?_
    refine v_ic_ge 189 G dX7_table_76 (by decide) (fun q26 => ?_) (fun q26 => ?_)
    · rw [if_pos q26] at h
      exact v_mask [false, false, true, true, true, false, false, false] rfl (hx0 _ _ _ h)
    · rw [if_neg q26] at h
      refine v_iload G dX7_table_79 rfl ?_
      refine v_iconst G (1 : Int32) dX7_table_81 (by decide) ?_
      refine v_iadd G dX7_table_82 ?_
      refine v_istore [some (.ref x0), some (.int x1), some (.int x2), some (.int x3), some (.int x4), some (.int x5), some (.int (x5 + (1 : Int32))), none] G dX7_table_83 (Nat.le_of_ble_eq_true rfl) rfl rfl ?_
      refine v_mask [true, true, true, true, true, true, true, false] rfl ?_
      refine e_X7_table_L85 G hcn hsn _ _ _ _ (fun M27 v28 v29 h => ?_) FU _ _ _ _ h
      refine v_iinc (x5 + (1 : Int32)) [some (.ref x0), some (.int x1), some (.int x2), some (.int v28), some (.int v29), some (.int (x5 + (1 : Int32))), none, none] G dX7_table_183 rfl rfl (Nat.le_of_ble_eq_true rfl) rfl rfl ?_
      refine v_goto 68 G dX7_table_186 (by decide) ?_
      exact v_mask [true, true, true, true, true, true, false, false] rfl (ih _ _ _ _ h)
def m_X7_table (M : mM) (x0 : Nat) (x1 : Int32) (x2 : Int32) : Option (mM × Int32) :=
  (pI M x0 7 0 (0 : Int32)).bind fun M1 =>
  if isO M1 x0 7 = true then
  (m_X7_isThere M1 x0).bind fun v4 =>
  if v4 = (0 : Int32) then (
    some (M1, (-1000002 : Int32))
  ) else (
    (m_X7_in M1 (Int32.toInt64 x1) (1 : Int64) (30 : Int64)).bind fun v7 =>
    if v7 = (0 : Int32) then (
      some (M1, (-1000001 : Int32))
    ) else (
      (m_X7_in M1 (Int32.toInt64 x2) (0 : Int64) (1 : Int64)).bind fun v10 =>
      if v10 = (0 : Int32) then (
        some (M1, (-1000001 : Int32))
      ) else (
        if isO M1 x0 7 = true then
        (m_X7_layThen M1 x0).bind fun M13 =>
        (gR M13 x0 7 7).bind fun b14 =>
        if isO M13 x0 7 = true then
        (m_X7_daysOf M13 x0 b14 x1).bind fun M17 =>
        (gR M17 x0 7 7).bind fun b18 =>
        (m_X7_known M17 b18).bind fun v21 =>
        m_X7_table_L68
          (fun M30 v31 v32 =>
            if v32 = (-1000000 : Int32) then (
              some (M30, v32)
            ) else (
              if x2 = (0 : Int32) then (
                some (M30, v32)
              ) else (
                some (M30, v31)
              )
            ))
          x0 x1 x2 FU M17 v21 (-1000000 : Int32) (0 : Int32)
        else none
        else none
      )
    )
  )
  else none
theorem e_X7_table {Z : zZ} {M : mM} {N : mM} {x0 : Nat} {x1 : Int32} {x2 : Int32} {r : Int32} (h : m_X7_table M x0 x1 x2 = some (N, r)) : EM Z yX7_table cX7_table 8 (some .int) 5 0 0 [.ref x0, .int x1, .int x2] M N (some (.int r)) := by
  refine EM_of my_X7_table (Nat.le_of_ble_eq_true rfl) (fun X G F => ?_)
  show V X Z M 0 0 0 [some (.ref x0), some (.int x1), some (.int x2), none, none, none, none, none] []
  unfold m_X7_table at h
  refine v_aload_n G dX7_table_0 rfl ?_
  refine v_iconst G (0 : Int32) dX7_table_1 (by decide) ?_
  obtain ⟨M1, q2, h⟩ := bi_ h
  refine v_putI (f := 0) G cl7 dX7_table_2 w839 (by decide) (by decide) (by decide) rfl rfl q2 ?_
  refine v_aload_n G dX7_table_5 rfl ?_
  obtain ⟨q37, h⟩ := if_s h
  obtain ⟨v4, q3, h⟩ := bi_ h
  refine v_callV0 (e_X7_isThere q3) G cl7 my_X7_isThere rfl w1026 w38 w1024 dX7_table_6 q37 rfl (Nat.le_of_ble_eq_true rfl) rfl (Nat.le_of_ble_eq_true rfl) (Nat.zero_le _) (Nat.zero_le _) ?_
  refine v_if_ne 15 G dX7_table_9 (by decide) (fun q5 => ?_) (fun q5 => ?_)
  · rw [if_neg q5] at h
    refine v_iload_n G dX7_table_15 rfl ?_
    refine v_i2l G dX7_table_16 ?_
    refine v_lconst G (1 : Int64) dX7_table_17 (by decide) ?_
    refine v_ldc2 G (30 : Int64) dX7_table_18 w1180 ?_
    obtain ⟨v7, q6, h⟩ := bi_ h
    refine v_callS0 (e_X7_in q6) G my_X7_in w928 w927 dX7_table_21 rfl (Nat.le_of_ble_eq_true rfl) rfl (Nat.le_of_ble_eq_true rfl) (Nat.zero_le _) (Nat.zero_le _) ?_
    refine v_if_eq 37 G dX7_table_24 (by decide) (fun q8 => ?_) (fun q8 => ?_)
    · rw [if_pos q8] at h
      refine v_ldc G (-1000001 : Int32) dX7_table_37 w931 ?_
      cases h
      exact v_iret G F dX7_table_39 rfl (Nat.le_refl _)
    · rw [if_neg q8] at h
      refine v_iload_n G dX7_table_27 rfl ?_
      refine v_i2l G dX7_table_28 ?_
      refine v_lconst G (0 : Int64) dX7_table_29 (by decide) ?_
      refine v_lconst G (1 : Int64) dX7_table_30 (by decide) ?_
      obtain ⟨v10, q9, h⟩ := bi_ h
      refine v_callS0 (e_X7_in q9) G my_X7_in w928 w927 dX7_table_31 rfl (Nat.le_of_ble_eq_true rfl) rfl (Nat.le_of_ble_eq_true rfl) (Nat.zero_le _) (Nat.zero_le _) ?_
      refine v_if_ne 40 G dX7_table_34 (by decide) (fun q11 => ?_) (fun q11 => ?_)
      · rw [if_neg q11] at h
        refine v_aload_n G dX7_table_40 rfl ?_
        obtain ⟨q36, h⟩ := if_s h
        obtain ⟨M13, q12, h⟩ := bi_ h
        refine v_callV0 (e_X7_layThen q12) G cl7 my_X7_layThen rfl w1134 w46 w1132 dX7_table_41 q36 rfl (Nat.le_of_ble_eq_true rfl) rfl (Nat.le_of_ble_eq_true rfl) (Nat.zero_le _) (Nat.zero_le _) ?_
        refine v_aload_n G dX7_table_44 rfl ?_
        refine v_aload_n G dX7_table_45 rfl ?_
        obtain ⟨b14, q15, h⟩ := bi_ h
        refine v_getR (f := 7) G cl7 dX7_table_46 w846 (by decide) (by decide) q15 ?_
        refine v_iload_n G dX7_table_49 rfl ?_
        obtain ⟨q35, h⟩ := if_s h
        obtain ⟨M17, q16, h⟩ := bi_ h
        refine v_callV0 (e_X7_daysOf q16) G cl7 my_X7_daysOf rfl w1138 w47 w1136 dX7_table_50 q35 rfl (Nat.le_of_ble_eq_true rfl) rfl (Nat.le_of_ble_eq_true rfl) (Nat.zero_le _) (Nat.zero_le _) ?_
        refine v_aload_n G dX7_table_53 rfl ?_
        obtain ⟨b18, q19, h⟩ := bi_ h
        refine v_getR (f := 7) G cl7 dX7_table_54 w846 (by decide) (by decide) q19 ?_
        obtain ⟨v21, q20, h⟩ := bi_ h
        refine v_callS0 (e_X7_known q20) G my_X7_known w1066 w1065 dX7_table_57 rfl (Nat.le_of_ble_eq_true rfl) rfl (Nat.le_of_ble_eq_true rfl) (Nat.zero_le _) (Nat.zero_le _) ?_
        refine v_istore_n [some (.ref x0), some (.int x1), some (.int x2), some (.int v21), none, none, none, none] G dX7_table_60 (Nat.le_of_ble_eq_true rfl) rfl rfl ?_
        refine v_ldc G (-1000000 : Int32) dX7_table_61 w971 ?_
        refine v_istore [some (.ref x0), some (.int x1), some (.int x2), some (.int v21), some (.int (-1000000 : Int32)), none, none, none] G dX7_table_63 (Nat.le_of_ble_eq_true rfl) rfl rfl ?_
        refine v_iconst G (0 : Int32) dX7_table_65 (by decide) ?_
        refine v_istore [some (.ref x0), some (.int x1), some (.int x2), some (.int v21), some (.int (-1000000 : Int32)), some (.int (0 : Int32)), none, none] G dX7_table_66 (Nat.le_of_ble_eq_true rfl) rfl rfl ?_
        refine v_mask [true, true, true, true, true, true, false, false] rfl ?_
        refine e_X7_table_L68 G (Nat.zero_le _) (Nat.zero_le _) _ _ _ (fun M30 v31 v32 h => ?_) FU _ _ _ _ h
        refine v_iload G dX7_table_189 rfl ?_
        refine v_ldc G (-1000000 : Int32) dX7_table_191 w971 ?_
        refine v_ic_eq 200 G dX7_table_193 (by decide) (fun q33 => ?_) (fun q33 => ?_)
        · rw [if_pos q33] at h
          refine v_iload G dX7_table_200 rfl ?_
          refine v_goto 206 G dX7_table_202 (by decide) ?_
          cases h
          exact v_iret G F dX7_table_206 rfl (Nat.le_refl _)
        · rw [if_neg q33] at h
          refine v_iload_n G dX7_table_196 rfl ?_
          refine v_if_ne 205 G dX7_table_197 (by decide) (fun q34 => ?_) (fun q34 => ?_)
          · rw [if_neg q34] at h
            refine v_iload_n G dX7_table_205 rfl ?_
            cases h
            exact v_iret G F dX7_table_206 rfl (Nat.le_refl _)
          · rw [if_pos q34] at h
            refine v_iload G dX7_table_200 rfl ?_
            refine v_goto 206 G dX7_table_202 (by decide) ?_
            cases h
            exact v_iret G F dX7_table_206 rfl (Nat.le_refl _)
      · rw [if_pos q11] at h
        refine v_ldc G (-1000001 : Int32) dX7_table_37 w931 ?_
        cases h
        exact v_iret G F dX7_table_39 rfl (Nat.le_refl _)
  · rw [if_pos q5] at h
    refine v_ldc G (-1000002 : Int32) dX7_table_12 w1028 ?_
    cases h
    exact v_iret G F dX7_table_14 rfl (Nat.le_refl _)
/-! X7_tellsApart -/
def m_X7_tellsApart_L17 {ρ : Type} (k0 : Int32 → Option ρ) (M : mM) (x0 : Nat) (x1 : Int32) (x3 : Int32) : Nat → Int32 → Int32 → Option ρ
  | 0, _, _ => none
  | n + 1, x2, x4 =>
    if x3 ≤ x4 then (
      k0 x2
    ) else (
      (gR M x0 7 5).bind fun b7 =>
      (m_X7_of M b7 x3 (2 : Int32)).bind fun v10 =>
      (gR M x0 7 5).bind fun b11 =>
      (m_X7_of M b11 x4 (2 : Int32)).bind fun v14 =>
      if x2 = (0 : Int32) then (
        m_X7_tellsApart_L17 k0 M x0 x1 x3 n (0 : Int32) (x4 + (1 : Int32))
      ) else (
        if (v10 ^^^ v14) = (0 : Int32) then (
          m_X7_tellsApart_L17 k0 M x0 x1 x3 n (1 : Int32) (x4 + (1 : Int32))
        ) else (
          if ((v10 ^^^ v14) &&& x1) = (0 : Int32) then (
            m_X7_tellsApart_L17 k0 M x0 x1 x3 n (0 : Int32) (x4 + (1 : Int32))
          ) else (
            m_X7_tellsApart_L17 k0 M x0 x1 x3 n (1 : Int32) (x4 + (1 : Int32))
          )
        )
      )
    )
theorem e_X7_tellsApart_L17 {X : xX} {Z : zZ} {cn sn : Nat} {ρ : Type} {r : ρ} {k0 : Int32 → Option ρ} (G : ok_ X Z yX7_tellsApart cX7_tellsApart 6 1 0 0) (hcn : cn ≤ 0) (hsn : sn ≤ 0) (M : mM) (x0 : Nat) (x1 : Int32) (x3 : Int32)
    (hx0 : ∀ (z2 : Int32), k0 z2 = some r → V X Z M cn sn 73 [some (.ref x0), some (.int x1), some (.int z2), some (.int x3), none, none] []) :
    ∀ (n : Nat) (x2 : Int32) (x4 : Int32), m_X7_tellsApart_L17 k0 M x0 x1 x3 n x2 x4 = some r → V X Z M cn sn 17 [some (.ref x0), some (.int x1), some (.int x2), some (.int x3), some (.int x4), none] [] := by
  intro n
  induction n with
  | zero => intro x2 x4 h; rw [m_X7_tellsApart_L17] at h; cases h
  | succ n ih =>
    intro x2 x4 h
    rw [m_X7_tellsApart_L17] at h
    refine v_iload G dX7_tellsApart_17 rfl ?_
    refine v_iload_n G dX7_tellsApart_19 rfl ?_
    refine v_ic_ge 73 G dX7_tellsApart_20 (by decide) (fun q6 => ?_) (fun q6 => ?_)
    · rw [if_pos q6] at h
      exact v_mask [true, true, true, true, false, false] rfl (hx0 _ h)
    · rw [if_neg q6] at h
      refine v_aload_n G dX7_tellsApart_23 rfl ?_
      obtain ⟨b7, q8, h⟩ := bi_ h
      refine v_getR (f := 5) G cl7 dX7_tellsApart_24 w844 (by decide) (by decide) q8 ?_
      refine v_iload_n G dX7_tellsApart_27 rfl ?_
      refine v_iconst G (2 : Int32) dX7_tellsApart_28 (by decide) ?_
      obtain ⟨v10, q9, h⟩ := bi_ h
      refine v_callS0 (e_X7_of q9) G my_X7_of w1045 w1044 dX7_tellsApart_29 rfl (Nat.le_of_ble_eq_true rfl) rfl (Nat.le_of_ble_eq_true rfl) hcn hsn ?_
      refine v_aload_n G dX7_tellsApart_32 rfl ?_
      obtain ⟨b11, q12, h⟩ := bi_ h
      refine v_getR (f := 5) G cl7 dX7_tellsApart_33 w844 (by decide) (by decide) q12 ?_
      refine v_iload G dX7_tellsApart_36 rfl ?_
      refine v_iconst G (2 : Int32) dX7_tellsApart_38 (by decide) ?_
      obtain ⟨v14, q13, h⟩ := bi_ h
      refine v_callS0 (e_X7_of q13) G my_X7_of w1045 w1044 dX7_tellsApart_39 rfl (Nat.le_of_ble_eq_true rfl) rfl (Nat.le_of_ble_eq_true rfl) hcn hsn ?_
      refine v_ixor G dX7_tellsApart_42 ?_
      refine v_istore [some (.ref x0), some (.int x1), some (.int x2), some (.int x3), some (.int x4), some (.int (v10 ^^^ v14))] G dX7_tellsApart_43 (Nat.le_of_ble_eq_true rfl) rfl rfl ?_
      refine v_iload_n G dX7_tellsApart_45 rfl ?_
      refine v_if_eq 65 G dX7_tellsApart_46 (by decide) (fun q15 => ?_) (fun q15 => ?_)
      · rw [if_pos q15] at h
        refine v_iconst G (0 : Int32) dX7_tellsApart_65 (by decide) ?_
        refine v_istore_n [some (.ref x0), some (.int x1), some (.int (0 : Int32)), some (.int x3), some (.int x4), some (.int (v10 ^^^ v14))] G dX7_tellsApart_66 (Nat.le_of_ble_eq_true rfl) rfl rfl ?_
        refine v_iinc (x4 + (1 : Int32)) [some (.ref x0), some (.int x1), some (.int (0 : Int32)), some (.int x3), some (.int (x4 + (1 : Int32))), some (.int (v10 ^^^ v14))] G dX7_tellsApart_67 rfl rfl (Nat.le_of_ble_eq_true rfl) rfl rfl ?_
        refine v_goto 17 G dX7_tellsApart_70 (by decide) ?_
        exact v_mask [true, true, true, true, true, false] rfl (ih _ _ h)
      · rw [if_neg q15] at h
        refine v_iload G dX7_tellsApart_49 rfl ?_
        refine v_if_eq 61 G dX7_tellsApart_51 (by decide) (fun q16 => ?_) (fun q16 => ?_)
        · rw [if_pos q16] at h
          refine v_iconst G (1 : Int32) dX7_tellsApart_61 (by decide) ?_
          refine v_goto 66 G dX7_tellsApart_62 (by decide) ?_
          refine v_istore_n [some (.ref x0), some (.int x1), some (.int (1 : Int32)), some (.int x3), some (.int x4), some (.int (v10 ^^^ v14))] G dX7_tellsApart_66 (Nat.le_of_ble_eq_true rfl) rfl rfl ?_
          refine v_iinc (x4 + (1 : Int32)) [some (.ref x0), some (.int x1), some (.int (1 : Int32)), some (.int x3), some (.int (x4 + (1 : Int32))), some (.int (v10 ^^^ v14))] G dX7_tellsApart_67 rfl rfl (Nat.le_of_ble_eq_true rfl) rfl rfl ?_
          refine v_goto 17 G dX7_tellsApart_70 (by decide) ?_
          exact v_mask [true, true, true, true, true, false] rfl (ih _ _ h)
        · rw [if_neg q16] at h
          refine v_iload G dX7_tellsApart_54 rfl ?_
          refine v_iload_n G dX7_tellsApart_56 rfl ?_
          refine v_iand G dX7_tellsApart_57 ?_
          refine v_if_eq 65 G dX7_tellsApart_58 (by decide) (fun q17 => ?_) (fun q17 => ?_)
          · rw [if_pos q17] at h
            refine v_iconst G (0 : Int32) dX7_tellsApart_65 (by decide) ?_
            refine v_istore_n [some (.ref x0), some (.int x1), some (.int (0 : Int32)), some (.int x3), some (.int x4), some (.int (v10 ^^^ v14))] G dX7_tellsApart_66 (Nat.le_of_ble_eq_true rfl) rfl rfl ?_
            refine v_iinc (x4 + (1 : Int32)) [some (.ref x0), some (.int x1), some (.int (0 : Int32)), some (.int x3), some (.int (x4 + (1 : Int32))), some (.int (v10 ^^^ v14))] G dX7_tellsApart_67 rfl rfl (Nat.le_of_ble_eq_true rfl) rfl rfl ?_
            refine v_goto 17 G dX7_tellsApart_70 (by decide) ?_
            exact v_mask [true, true, true, true, true, false] rfl (ih _ _ h)
          · rw [if_neg q17] at h
            refine v_iconst G (1 : Int32) dX7_tellsApart_61 (by decide) ?_
            refine v_goto 66 G dX7_tellsApart_62 (by decide) ?_
            refine v_istore_n [some (.ref x0), some (.int x1), some (.int (1 : Int32)), some (.int x3), some (.int x4), some (.int (v10 ^^^ v14))] G dX7_tellsApart_66 (Nat.le_of_ble_eq_true rfl) rfl rfl ?_
            refine v_iinc (x4 + (1 : Int32)) [some (.ref x0), some (.int x1), some (.int (1 : Int32)), some (.int x3), some (.int (x4 + (1 : Int32))), some (.int (v10 ^^^ v14))] G dX7_tellsApart_67 rfl rfl (Nat.le_of_ble_eq_true rfl) rfl rfl ?_
            refine v_goto 17 G dX7_tellsApart_70 (by decide) ?_
            exact v_mask [true, true, true, true, true, false] rfl (ih _ _ h)
def m_X7_tellsApart_L4 {ρ : Type} (k0 : Int32 → Option ρ) (M : mM) (x0 : Nat) (x1 : Int32) : Nat → Int32 → Int32 → Option ρ
  | 0, _, _ => none
  | n + 1, x2, x3 =>
    (gR M x0 7 5).bind fun b1 =>
    (ldI M b1 (0 : Int32)).bind fun v4 =>
    if v4 ≤ x3 then (
      k0 x2
    ) else (
      m_X7_tellsApart_L17
        (fun v6 =>
          m_X7_tellsApart_L4 k0 M x0 x1 n v6 (x3 + (1 : Int32)))
        M x0 x1 x3 FU x2 (0 : Int32)
    )
theorem e_X7_tellsApart_L4 {X : xX} {Z : zZ} {cn sn : Nat} {ρ : Type} {r : ρ} {k0 : Int32 → Option ρ} (G : ok_ X Z yX7_tellsApart cX7_tellsApart 6 1 0 0) (hcn : cn ≤ 0) (hsn : sn ≤ 0) (M : mM) (x0 : Nat) (x1 : Int32)
    (hx0 : ∀ (z2 : Int32), k0 z2 = some r → V X Z M cn sn 79 [none, none, some (.int z2), none, none, none] []) :
    ∀ (n : Nat) (x2 : Int32) (x3 : Int32), m_X7_tellsApart_L4 k0 M x0 x1 n x2 x3 = some r → V X Z M cn sn 4 [some (.ref x0), some (.int x1), some (.int x2), some (.int x3), none, none] [] := by
  intro n
  induction n with
  | zero => intro x2 x3 h; rw [m_X7_tellsApart_L4] at h; cases h
  | succ n ih =>
    intro x2 x3 h
    rw [m_X7_tellsApart_L4] at h
    refine v_iload_n G dX7_tellsApart_4 rfl ?_
    refine v_aload_n G dX7_tellsApart_5 rfl ?_
    obtain ⟨b1, q2, h⟩ := bi_ h
    refine v_getR (f := 5) G cl7 dX7_tellsApart_6 w844 (by decide) (by decide) q2 ?_
    refine v_iconst G (0 : Int32) dX7_tellsApart_9 (by decide) ?_
    obtain ⟨v4, q3, h⟩ := bi_ h
    refine v_iald G dX7_tellsApart_10 q3 ?_
    refine v_ic_ge 79 G dX7_tellsApart_11 (by decide) (fun q5 => ?_) (fun q5 => ?_)
    · rw [if_pos q5] at h
      exact v_mask [false, false, true, false, false, false] rfl (hx0 _ h)
    · rw [if_neg q5] at h
      refine v_iconst G (0 : Int32) dX7_tellsApart_14 (by decide) ?_
      refine v_istore [some (.ref x0), some (.int x1), some (.int x2), some (.int x3), some (.int (0 : Int32)), none] G dX7_tellsApart_15 (Nat.le_of_ble_eq_true rfl) rfl rfl ?_
      refine v_mask [true, true, true, true, true, false] rfl ?_
      refine e_X7_tellsApart_L17 G hcn hsn _ _ _ _ (fun v6 h => ?_) FU _ _ h
      refine v_iinc (x3 + (1 : Int32)) [some (.ref x0), some (.int x1), some (.int v6), some (.int (x3 + (1 : Int32))), none, none] G dX7_tellsApart_73 rfl rfl (Nat.le_of_ble_eq_true rfl) rfl rfl ?_
      refine v_goto 4 G dX7_tellsApart_76 (by decide) ?_
      exact v_mask [true, true, true, true, false, false] rfl (ih _ _ h)
def m_X7_tellsApart (M : mM) (x0 : Nat) (x1 : Int32) : Option Int32 :=
  m_X7_tellsApart_L4
    (fun v7 =>
      if (v7 == 0 || v7 == 1) = true then some v7 else none)
    M x0 x1 FU (1 : Int32) (0 : Int32)
theorem e_X7_tellsApart {Z : zZ} {M : mM} {x0 : Nat} {x1 : Int32} {r : Int32} (h : m_X7_tellsApart M x0 x1 = some r) : EM Z yX7_tellsApart cX7_tellsApart 6 (some .boolean) 1 0 0 [.ref x0, .int x1] M M (some (.int r)) := by
  refine EM_of my_X7_tellsApart (Nat.le_of_ble_eq_true rfl) (fun X G F => ?_)
  show V X Z M 0 0 0 [some (.ref x0), some (.int x1), none, none, none, none] []
  unfold m_X7_tellsApart at h
  refine v_iconst G (1 : Int32) dX7_tellsApart_0 (by decide) ?_
  refine v_istore_n [some (.ref x0), some (.int x1), some (.int (1 : Int32)), none, none, none] G dX7_tellsApart_1 (Nat.le_of_ble_eq_true rfl) rfl rfl ?_
  refine v_iconst G (0 : Int32) dX7_tellsApart_2 (by decide) ?_
  refine v_istore_n [some (.ref x0), some (.int x1), some (.int (1 : Int32)), some (.int (0 : Int32)), none, none] G dX7_tellsApart_3 (Nat.le_of_ble_eq_true rfl) rfl rfl ?_
  refine v_mask [true, true, true, true, false, false] rfl ?_
  refine e_X7_tellsApart_L4 G (Nat.zero_le _) (Nat.zero_le _) _ _ _ (fun v7 h => ?_) FU _ _ h
  refine v_iload_n G dX7_tellsApart_79 rfl ?_
  obtain ⟨q8, h⟩ := if_s h
  cases h
  exact v_zret G F q8 dX7_tellsApart_80 rfl (Nat.le_refl _)
/-! X7_questions -/
def m_X7_questions_L33 {ρ : Type} (k0 : Int32 → Option ρ) (M : mM) (x0 : Nat) (x1 : Int32) : Nat → Int32 → Int32 → Option ρ
  | 0, _, _ => none
  | n + 1, x2, x3 =>
    (gR M x0 7 5).bind fun b9 =>
    (ldI M b9 (1 : Int32)).bind fun v12 =>
    if ((1 : Int32) <<< (v12 &&& 31)) ≤ x3 then (
      k0 x2
    ) else (
      if x2 = (-1000000 : Int32) then (
        if isO M x0 7 = true then
        (m_X7_tellsApart M x0 x3).bind fun v16 =>
        if v16 = (0 : Int32) then (
          m_X7_questions_L33 k0 M x0 x1 n x2 (x3 + (1 : Int32))
        ) else (
          m_X7_questions_L33 k0 M x0 x1 n x3 (x3 + (1 : Int32))
        )
        else none
      ) else (
        (m_X7_bits M x3).bind fun v20 =>
        (m_X7_bits M x2).bind fun v22 =>
        if v22 ≤ v20 then (
          m_X7_questions_L33 k0 M x0 x1 n x2 (x3 + (1 : Int32))
        ) else (
          if isO M x0 7 = true then
          (m_X7_tellsApart M x0 x3).bind fun v25 =>
          if v25 = (0 : Int32) then (
            m_X7_questions_L33 k0 M x0 x1 n x2 (x3 + (1 : Int32))
          ) else (
            m_X7_questions_L33 k0 M x0 x1 n x3 (x3 + (1 : Int32))
          )
          else none
        )
      )
    )
theorem e_X7_questions_L33 {X : xX} {Z : zZ} {cn sn : Nat} {ρ : Type} {r : ρ} {k0 : Int32 → Option ρ} (G : ok_ X Z yX7_questions cX7_questions 4 2 0 0) (hcn : cn ≤ 0) (hsn : sn ≤ 0) (M : mM) (x0 : Nat) (x1 : Int32)
    (hx0 : ∀ (z2 : Int32), k0 z2 = some r → V X Z M cn sn 78 [none, some (.int x1), some (.int z2), none] []) :
    ∀ (n : Nat) (x2 : Int32) (x3 : Int32), m_X7_questions_L33 k0 M x0 x1 n x2 x3 = some r → V X Z M cn sn 33 [some (.ref x0), some (.int x1), some (.int x2), some (.int x3)] [] := by
  intro n
  induction n with
  | zero => intro x2 x3 h; rw [m_X7_questions_L33] at h; cases h
  | succ n ih =>
    intro x2 x3 h
    rw [m_X7_questions_L33] at h
    refine v_iload_n G dX7_questions_33 rfl ?_
    refine v_iconst G (1 : Int32) dX7_questions_34 (by decide) ?_
    refine v_aload_n G dX7_questions_35 rfl ?_
    obtain ⟨b9, q10, h⟩ := bi_ h
    refine v_getR (f := 5) G cl7 dX7_questions_36 w844 (by decide) (by decide) q10 ?_
    refine v_iconst G (1 : Int32) dX7_questions_39 (by decide) ?_
    obtain ⟨v12, q11, h⟩ := bi_ h
    refine v_iald G dX7_questions_40 q11 ?_
    refine v_ishl G dX7_questions_41 ?_
    refine v_ic_ge 78 G dX7_questions_42 (by decide) (fun q13 => ?_) (fun q13 => ?_)
    · rw [if_pos q13] at h
      exact v_mask [false, true, true, false] rfl (hx0 _ h)
    · rw [if_neg q13] at h
      refine v_iload_n G dX7_questions_45 rfl ?_
      refine v_ldc G (-1000000 : Int32) dX7_questions_46 w971 ?_
      refine v_ic_eq 62 G dX7_questions_48 (by decide) (fun q14 => ?_) (fun q14 => ?_)
      · rw [if_pos q14] at h
        refine v_aload_n G dX7_questions_62 rfl ?_
        refine v_iload_n G dX7_questions_63 rfl ?_
        obtain ⟨q18, h⟩ := if_s h
        obtain ⟨v16, q15, h⟩ := bi_ h
        refine v_callV0 (e_X7_tellsApart q15) G cl7 my_X7_tellsApart rfl w1187 w50 w1185 dX7_questions_64 q18 rfl (Nat.le_of_ble_eq_true rfl) rfl (Nat.le_of_ble_eq_true rfl) hcn hsn ?_
        refine v_if_eq 72 G dX7_questions_67 (by decide) (fun q17 => ?_) (fun q17 => ?_)
        · rw [if_pos q17] at h
          refine v_iinc (x3 + (1 : Int32)) [some (.ref x0), some (.int x1), some (.int x2), some (.int (x3 + (1 : Int32)))] G dX7_questions_72 rfl rfl (Nat.le_of_ble_eq_true rfl) rfl rfl ?_
          refine v_goto 33 G dX7_questions_75 (by decide) ?_
          exact v_mask [true, true, true, true] rfl (ih _ _ h)
        · rw [if_neg q17] at h
          refine v_iload_n G dX7_questions_70 rfl ?_
          refine v_istore_n [some (.ref x0), some (.int x1), some (.int x3), some (.int x3)] G dX7_questions_71 (Nat.le_of_ble_eq_true rfl) rfl rfl ?_
          refine v_iinc (x3 + (1 : Int32)) [some (.ref x0), some (.int x1), some (.int x3), some (.int (x3 + (1 : Int32)))] G dX7_questions_72 rfl rfl (Nat.le_of_ble_eq_true rfl) rfl rfl ?_
          refine v_goto 33 G dX7_questions_75 (by decide) ?_
          exact v_mask [true, true, true, true] rfl (ih _ _ h)
      · rw [if_neg q14] at h
        refine v_iload_n G dX7_questions_51 rfl ?_
        obtain ⟨v20, q19, h⟩ := bi_ h
        refine v_callS0 (e_X7_bits q19) G my_X7_bits w1063 w1062 dX7_questions_52 rfl (Nat.le_of_ble_eq_true rfl) rfl (Nat.le_of_ble_eq_true rfl) hcn hsn ?_
        refine v_iload_n G dX7_questions_55 rfl ?_
        obtain ⟨v22, q21, h⟩ := bi_ h
        refine v_callS0 (e_X7_bits q21) G my_X7_bits w1063 w1062 dX7_questions_56 rfl (Nat.le_of_ble_eq_true rfl) rfl (Nat.le_of_ble_eq_true rfl) hcn hsn ?_
        refine v_ic_ge 72 G dX7_questions_59 (by decide) (fun q23 => ?_) (fun q23 => ?_)
        · rw [if_pos q23] at h
          refine v_iinc (x3 + (1 : Int32)) [some (.ref x0), some (.int x1), some (.int x2), some (.int (x3 + (1 : Int32)))] G dX7_questions_72 rfl rfl (Nat.le_of_ble_eq_true rfl) rfl rfl ?_
          refine v_goto 33 G dX7_questions_75 (by decide) ?_
          exact v_mask [true, true, true, true] rfl (ih _ _ h)
        · rw [if_neg q23] at h
          refine v_aload_n G dX7_questions_62 rfl ?_
          refine v_iload_n G dX7_questions_63 rfl ?_
          obtain ⟨q27, h⟩ := if_s h
          obtain ⟨v25, q24, h⟩ := bi_ h
          refine v_callV0 (e_X7_tellsApart q24) G cl7 my_X7_tellsApart rfl w1187 w50 w1185 dX7_questions_64 q27 rfl (Nat.le_of_ble_eq_true rfl) rfl (Nat.le_of_ble_eq_true rfl) hcn hsn ?_
          refine v_if_eq 72 G dX7_questions_67 (by decide) (fun q26 => ?_) (fun q26 => ?_)
          · rw [if_pos q26] at h
            refine v_iinc (x3 + (1 : Int32)) [some (.ref x0), some (.int x1), some (.int x2), some (.int (x3 + (1 : Int32)))] G dX7_questions_72 rfl rfl (Nat.le_of_ble_eq_true rfl) rfl rfl ?_
            refine v_goto 33 G dX7_questions_75 (by decide) ?_
            exact v_mask [true, true, true, true] rfl (ih _ _ h)
          · rw [if_neg q26] at h
            refine v_iload_n G dX7_questions_70 rfl ?_
            refine v_istore_n [some (.ref x0), some (.int x1), some (.int x3), some (.int x3)] G dX7_questions_71 (Nat.le_of_ble_eq_true rfl) rfl rfl ?_
            refine v_iinc (x3 + (1 : Int32)) [some (.ref x0), some (.int x1), some (.int x3), some (.int (x3 + (1 : Int32)))] G dX7_questions_72 rfl rfl (Nat.le_of_ble_eq_true rfl) rfl rfl ?_
            refine v_goto 33 G dX7_questions_75 (by decide) ?_
            exact v_mask [true, true, true, true] rfl (ih _ _ h)
def m_X7_questions (M : mM) (x0 : Nat) (x1 : Int32) : Option (mM × Int32) :=
  (pI M x0 7 0 (0 : Int32)).bind fun M1 =>
  if isO M1 x0 7 = true then
  (m_X7_isThere M1 x0).bind fun v4 =>
  if v4 = (0 : Int32) then (
    some (M1, (-1000002 : Int32))
  ) else (
    (m_X7_in M1 (Int32.toInt64 x1) (0 : Int64) (1 : Int64)).bind fun v7 =>
    if v7 = (0 : Int32) then (
      some (M1, (-1000001 : Int32))
    ) else (
      m_X7_questions_L33
        (fun v28 =>
          if x1 = (0 : Int32) then (
            (m_X7_bits M1 v28).bind fun v31 =>
            some (M1, v31)
          ) else (
            some (M1, v28)
          ))
        M1 x0 x1 FU (-1000000 : Int32) (0 : Int32)
    )
  )
  else none
theorem e_X7_questions {Z : zZ} {M : mM} {N : mM} {x0 : Nat} {x1 : Int32} {r : Int32} (h : m_X7_questions M x0 x1 = some (N, r)) : EM Z yX7_questions cX7_questions 4 (some .int) 2 0 0 [.ref x0, .int x1] M N (some (.int r)) := by
  refine EM_of my_X7_questions (Nat.le_of_ble_eq_true rfl) (fun X G F => ?_)
  show V X Z M 0 0 0 [some (.ref x0), some (.int x1), none, none] []
  unfold m_X7_questions at h
  refine v_aload_n G dX7_questions_0 rfl ?_
  refine v_iconst G (0 : Int32) dX7_questions_1 (by decide) ?_
  obtain ⟨M1, q2, h⟩ := bi_ h
  refine v_putI (f := 0) G cl7 dX7_questions_2 w839 (by decide) (by decide) (by decide) rfl rfl q2 ?_
  refine v_aload_n G dX7_questions_5 rfl ?_
  obtain ⟨q32, h⟩ := if_s h
  obtain ⟨v4, q3, h⟩ := bi_ h
  refine v_callV0 (e_X7_isThere q3) G cl7 my_X7_isThere rfl w1026 w38 w1024 dX7_questions_6 q32 rfl (Nat.le_of_ble_eq_true rfl) rfl (Nat.le_of_ble_eq_true rfl) (Nat.zero_le _) (Nat.zero_le _) ?_
  refine v_if_ne 15 G dX7_questions_9 (by decide) (fun q5 => ?_) (fun q5 => ?_)
  · rw [if_neg q5] at h
    refine v_iload_n G dX7_questions_15 rfl ?_
    refine v_i2l G dX7_questions_16 ?_
    refine v_lconst G (0 : Int64) dX7_questions_17 (by decide) ?_
    refine v_lconst G (1 : Int64) dX7_questions_18 (by decide) ?_
    obtain ⟨v7, q6, h⟩ := bi_ h
    refine v_callS0 (e_X7_in q6) G my_X7_in w928 w927 dX7_questions_19 rfl (Nat.le_of_ble_eq_true rfl) rfl (Nat.le_of_ble_eq_true rfl) (Nat.zero_le _) (Nat.zero_le _) ?_
    refine v_if_ne 28 G dX7_questions_22 (by decide) (fun q8 => ?_) (fun q8 => ?_)
    · rw [if_neg q8] at h
      refine v_ldc G (-1000000 : Int32) dX7_questions_28 w971 ?_
      refine v_istore_n [some (.ref x0), some (.int x1), some (.int (-1000000 : Int32)), none] G dX7_questions_30 (Nat.le_of_ble_eq_true rfl) rfl rfl ?_
      refine v_iconst G (0 : Int32) dX7_questions_31 (by decide) ?_
      refine v_istore_n [some (.ref x0), some (.int x1), some (.int (-1000000 : Int32)), some (.int (0 : Int32))] G dX7_questions_32 (Nat.le_of_ble_eq_true rfl) rfl rfl ?_
      refine v_mask [true, true, true, true] rfl ?_
      refine e_X7_questions_L33 G (Nat.zero_le _) (Nat.zero_le _) _ _ _ (fun v28 h => ?_) FU _ _ h
      refine v_iload_n G dX7_questions_78 rfl ?_
      refine v_if_ne 89 G dX7_questions_79 (by decide) (fun q29 => ?_) (fun q29 => ?_)
      · rw [if_neg q29] at h
        refine v_iload_n G dX7_questions_89 rfl ?_
        cases h
        exact v_iret G F dX7_questions_90 rfl (Nat.le_refl _)
      · rw [if_pos q29] at h
        refine v_iload_n G dX7_questions_82 rfl ?_
        obtain ⟨v31, q30, h⟩ := bi_ h
        refine v_callS0 (e_X7_bits q30) G my_X7_bits w1063 w1062 dX7_questions_83 rfl (Nat.le_of_ble_eq_true rfl) rfl (Nat.le_of_ble_eq_true rfl) (Nat.zero_le _) (Nat.zero_le _) ?_
        refine v_goto 90 G dX7_questions_86 (by decide) ?_
        cases h
        exact v_iret G F dX7_questions_90 rfl (Nat.le_refl _)
    · rw [if_pos q8] at h
      refine v_ldc G (-1000001 : Int32) dX7_questions_25 w931 ?_
      cases h
      exact v_iret G F dX7_questions_27 rfl (Nat.le_refl _)
  · rw [if_pos q5] at h
    refine v_ldc G (-1000002 : Int32) dX7_questions_12 w1028 ?_
    cases h
    exact v_iret G F dX7_questions_14 rfl (Nat.le_refl _)
/-! X7_top -/
def m_X7_top_L32 {ρ : Type} (k0 : Int32 → Option ρ) (M : mM) (x0 : Nat) (x1 : Int32) : Nat → Int32 → Int32 → Option ρ
  | 0, _, _ => none
  | n + 1, x2, x3 =>
    (gR M x0 7 5).bind fun b9 =>
    (ldI M b9 (0 : Int32)).bind fun v12 =>
    if v12 ≤ x3 then (
      k0 x2
    ) else (
      (gR M x0 7 5).bind fun b14 =>
      (m_X7_of M b14 x3 (2 : Int32)).bind fun v17 =>
      (m_X7_bits M v17).bind fun v19 =>
      (gR M x0 7 5).bind fun b20 =>
      (m_X7_of M b20 x2 (2 : Int32)).bind fun v23 =>
      (m_X7_bits M v23).bind fun v25 =>
      if v19 ≤ v25 then (
        m_X7_top_L32 k0 M x0 x1 n x2 (x3 + (1 : Int32))
      ) else (
        m_X7_top_L32 k0 M x0 x1 n x3 (x3 + (1 : Int32))
      )
    )
theorem e_X7_top_L32 {X : xX} {Z : zZ} {cn sn : Nat} {ρ : Type} {r : ρ} {k0 : Int32 → Option ρ} (G : ok_ X Z yX7_top cX7_top 4 1 0 0) (hcn : cn ≤ 0) (hsn : sn ≤ 0) (M : mM) (x0 : Nat) (x1 : Int32)
    (hx0 : ∀ (z2 : Int32), k0 z2 = some r → V X Z M cn sn 81 [some (.ref x0), some (.int x1), some (.int z2), none] []) :
    ∀ (n : Nat) (x2 : Int32) (x3 : Int32), m_X7_top_L32 k0 M x0 x1 n x2 x3 = some r → V X Z M cn sn 32 [some (.ref x0), some (.int x1), some (.int x2), some (.int x3)] [] := by
  intro n
  induction n with
  | zero => intro x2 x3 h; rw [m_X7_top_L32] at h; cases h
  | succ n ih =>
    intro x2 x3 h
    rw [m_X7_top_L32] at h
    refine v_iload_n G dX7_top_32 rfl ?_
    refine v_aload_n G dX7_top_33 rfl ?_
    obtain ⟨b9, q10, h⟩ := bi_ h
    refine v_getR (f := 5) G cl7 dX7_top_34 w844 (by decide) (by decide) q10 ?_
    refine v_iconst G (0 : Int32) dX7_top_37 (by decide) ?_
    obtain ⟨v12, q11, h⟩ := bi_ h
    refine v_iald G dX7_top_38 q11 ?_
    refine v_ic_ge 81 G dX7_top_39 (by decide) (fun q13 => ?_) (fun q13 => ?_)
    · rw [if_pos q13] at h
      exact v_mask [true, true, true, false] rfl (hx0 _ h)
    · rw [if_neg q13] at h
      refine v_aload_n G dX7_top_42 rfl ?_
      obtain ⟨b14, q15, h⟩ := bi_ h
      refine v_getR (f := 5) G cl7 dX7_top_43 w844 (by decide) (by decide) q15 ?_
      refine v_iload_n G dX7_top_46 rfl ?_
      refine v_iconst G (2 : Int32) dX7_top_47 (by decide) ?_
      obtain ⟨v17, q16, h⟩ := bi_ h
      refine v_callS0 (e_X7_of q16) G my_X7_of w1045 w1044 dX7_top_48 rfl (Nat.le_of_ble_eq_true rfl) rfl (Nat.le_of_ble_eq_true rfl) hcn hsn ?_
      obtain ⟨v19, q18, h⟩ := bi_ h
      refine v_callS0 (e_X7_bits q18) G my_X7_bits w1063 w1062 dX7_top_51 rfl (Nat.le_of_ble_eq_true rfl) rfl (Nat.le_of_ble_eq_true rfl) hcn hsn ?_
      refine v_aload_n G dX7_top_54 rfl ?_
      obtain ⟨b20, q21, h⟩ := bi_ h
      refine v_getR (f := 5) G cl7 dX7_top_55 w844 (by decide) (by decide) q21 ?_
      refine v_iload_n G dX7_top_58 rfl ?_
      refine v_iconst G (2 : Int32) dX7_top_59 (by decide) ?_
      obtain ⟨v23, q22, h⟩ := bi_ h
      refine v_callS0 (e_X7_of q22) G my_X7_of w1045 w1044 dX7_top_60 rfl (Nat.le_of_ble_eq_true rfl) rfl (Nat.le_of_ble_eq_true rfl) hcn hsn ?_
      obtain ⟨v25, q24, h⟩ := bi_ h
      refine v_callS0 (e_X7_bits q24) G my_X7_bits w1063 w1062 dX7_top_63 rfl (Nat.le_of_ble_eq_true rfl) rfl (Nat.le_of_ble_eq_true rfl) hcn hsn ?_
      refine v_ic_le 73 G dX7_top_66 (by decide) (fun q26 => ?_) (fun q26 => ?_)
      · rw [if_pos q26] at h
        refine v_iload_n G dX7_top_73 rfl ?_
        refine v_istore_n [some (.ref x0), some (.int x1), some (.int x2), some (.int x3)] G dX7_top_74 (Nat.le_of_ble_eq_true rfl) rfl rfl ?_
        refine v_iinc (x3 + (1 : Int32)) [some (.ref x0), some (.int x1), some (.int x2), some (.int (x3 + (1 : Int32)))] G dX7_top_75 rfl rfl (Nat.le_of_ble_eq_true rfl) rfl rfl ?_
        refine v_goto 32 G dX7_top_78 (by decide) ?_
        exact v_mask [true, true, true, true] rfl (ih _ _ h)
      · rw [if_neg q26] at h
        refine v_iload_n G dX7_top_69 rfl ?_
        refine v_goto 74 G dX7_top_70 (by decide) ?_
        refine v_istore_n [some (.ref x0), some (.int x1), some (.int x3), some (.int x3)] G dX7_top_74 (Nat.le_of_ble_eq_true rfl) rfl rfl ?_
        refine v_iinc (x3 + (1 : Int32)) [some (.ref x0), some (.int x1), some (.int x3), some (.int (x3 + (1 : Int32)))] G dX7_top_75 rfl rfl (Nat.le_of_ble_eq_true rfl) rfl rfl ?_
        refine v_goto 32 G dX7_top_78 (by decide) ?_
        exact v_mask [true, true, true, true] rfl (ih _ _ h)
def m_X7_top (M : mM) (x0 : Nat) (x1 : Int32) : Option (mM × Int32) :=
  (pI M x0 7 0 (0 : Int32)).bind fun M1 =>
  if isO M1 x0 7 = true then
  (m_X7_isThere M1 x0).bind fun v4 =>
  if v4 = (0 : Int32) then (
    some (M1, (-1000002 : Int32))
  ) else (
    (m_X7_in M1 (Int32.toInt64 x1) (0 : Int64) (1 : Int64)).bind fun v7 =>
    if v7 = (0 : Int32) then (
      some (M1, (-1000001 : Int32))
    ) else (
      m_X7_top_L32
        (fun v27 =>
          if x1 = (0 : Int32) then (
            some (M1, v27)
          ) else (
            (gR M1 x0 7 5).bind fun b29 =>
            (m_X7_of M1 b29 v27 (2 : Int32)).bind fun v32 =>
            (m_X7_bits M1 v32).bind fun v34 =>
            some (M1, v34)
          ))
        M1 x0 x1 FU (0 : Int32) (1 : Int32)
    )
  )
  else none
theorem e_X7_top {Z : zZ} {M : mM} {N : mM} {x0 : Nat} {x1 : Int32} {r : Int32} (h : m_X7_top M x0 x1 = some (N, r)) : EM Z yX7_top cX7_top 4 (some .int) 1 0 0 [.ref x0, .int x1] M N (some (.int r)) := by
  refine EM_of my_X7_top (Nat.le_of_ble_eq_true rfl) (fun X G F => ?_)
  show V X Z M 0 0 0 [some (.ref x0), some (.int x1), none, none] []
  unfold m_X7_top at h
  refine v_aload_n G dX7_top_0 rfl ?_
  refine v_iconst G (0 : Int32) dX7_top_1 (by decide) ?_
  obtain ⟨M1, q2, h⟩ := bi_ h
  refine v_putI (f := 0) G cl7 dX7_top_2 w839 (by decide) (by decide) (by decide) rfl rfl q2 ?_
  refine v_aload_n G dX7_top_5 rfl ?_
  obtain ⟨q35, h⟩ := if_s h
  obtain ⟨v4, q3, h⟩ := bi_ h
  refine v_callV0 (e_X7_isThere q3) G cl7 my_X7_isThere rfl w1026 w38 w1024 dX7_top_6 q35 rfl (Nat.le_of_ble_eq_true rfl) rfl (Nat.le_of_ble_eq_true rfl) (Nat.zero_le _) (Nat.zero_le _) ?_
  refine v_if_ne 15 G dX7_top_9 (by decide) (fun q5 => ?_) (fun q5 => ?_)
  · rw [if_neg q5] at h
    refine v_iload_n G dX7_top_15 rfl ?_
    refine v_i2l G dX7_top_16 ?_
    refine v_lconst G (0 : Int64) dX7_top_17 (by decide) ?_
    refine v_lconst G (1 : Int64) dX7_top_18 (by decide) ?_
    obtain ⟨v7, q6, h⟩ := bi_ h
    refine v_callS0 (e_X7_in q6) G my_X7_in w928 w927 dX7_top_19 rfl (Nat.le_of_ble_eq_true rfl) rfl (Nat.le_of_ble_eq_true rfl) (Nat.zero_le _) (Nat.zero_le _) ?_
    refine v_if_ne 28 G dX7_top_22 (by decide) (fun q8 => ?_) (fun q8 => ?_)
    · rw [if_neg q8] at h
      refine v_iconst G (0 : Int32) dX7_top_28 (by decide) ?_
      refine v_istore_n [some (.ref x0), some (.int x1), some (.int (0 : Int32)), none] G dX7_top_29 (Nat.le_of_ble_eq_true rfl) rfl rfl ?_
      refine v_iconst G (1 : Int32) dX7_top_30 (by decide) ?_
      refine v_istore_n [some (.ref x0), some (.int x1), some (.int (0 : Int32)), some (.int (1 : Int32))] G dX7_top_31 (Nat.le_of_ble_eq_true rfl) rfl rfl ?_
      refine v_mask [true, true, true, true] rfl ?_
      refine e_X7_top_L32 G (Nat.zero_le _) (Nat.zero_le _) _ _ _ (fun v27 h => ?_) FU _ _ h
      refine v_iload_n G dX7_top_81 rfl ?_
      refine v_if_ne 89 G dX7_top_82 (by decide) (fun q28 => ?_) (fun q28 => ?_)
      · rw [if_neg q28] at h
        refine v_aload_n G dX7_top_89 rfl ?_
        obtain ⟨b29, q30, h⟩ := bi_ h
        refine v_getR (f := 5) G cl7 dX7_top_90 w844 (by decide) (by decide) q30 ?_
        refine v_iload_n G dX7_top_93 rfl ?_
        refine v_iconst G (2 : Int32) dX7_top_94 (by decide) ?_
        obtain ⟨v32, q31, h⟩ := bi_ h
        refine v_callS0 (e_X7_of q31) G my_X7_of w1045 w1044 dX7_top_95 rfl (Nat.le_of_ble_eq_true rfl) rfl (Nat.le_of_ble_eq_true rfl) (Nat.zero_le _) (Nat.zero_le _) ?_
        obtain ⟨v34, q33, h⟩ := bi_ h
        refine v_callS0 (e_X7_bits q33) G my_X7_bits w1063 w1062 dX7_top_98 rfl (Nat.le_of_ble_eq_true rfl) rfl (Nat.le_of_ble_eq_true rfl) (Nat.zero_le _) (Nat.zero_le _) ?_
        cases h
        exact v_iret G F dX7_top_101 rfl (Nat.le_refl _)
      · rw [if_pos q28] at h
        refine v_iload_n G dX7_top_85 rfl ?_
        refine v_goto 101 G dX7_top_86 (by decide) ?_
        cases h
        exact v_iret G F dX7_top_101 rfl (Nat.le_refl _)
    · rw [if_pos q8] at h
      refine v_ldc G (-1000001 : Int32) dX7_top_25 w931 ?_
      cases h
      exact v_iret G F dX7_top_27 rfl (Nat.le_refl _)
  · rw [if_pos q5] at h
    refine v_ldc G (-1000002 : Int32) dX7_top_12 w1028 ?_
    cases h
    exact v_iret G F dX7_top_14 rfl (Nat.le_refl _)
