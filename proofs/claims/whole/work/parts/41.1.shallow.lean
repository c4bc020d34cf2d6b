/-! X7_learned -/
def m_X7_learned_L100 {ρ : Type} (k0 : Int32 → Option ρ) (M : mM) (x0 : Nat) (x5 : Int32) : Nat → Int32 → Int32 → Option ρ
  | 0, _, _ => none
  | n + 1, x3, x7 =>
    (ldI M x0 (1 : Int32)).bind fun v15 =>
    if v15 ≤ x7 then (
      k0 x3
    ) else (
      if x5 = (2 : Int32) then (
        (ldI M x0 ((5 : Int32) + x7)).bind fun v19 =>
        if v19 = (0 : Int32) then (
          m_X7_learned_L100 k0 M x0 x5 n (x3 ||| (0 : Int32)) (x7 + (1 : Int32))
        ) else (
          (m_X7_canGrasp M x0 x7 x3).bind fun v22 =>
          if v22 = (0 : Int32) then (
            m_X7_learned_L100 k0 M x0 x5 n (x3 ||| (0 : Int32)) (x7 + (1 : Int32))
          ) else (
            m_X7_learned_L100 k0 M x0 x5 n (x3 ||| ((1 : Int32) <<< (x7 &&& 31))) (x7 + (1 : Int32))
          )
        )
      ) else (
        k0 x3
      )
    )
theorem e_X7_learned_L100 {X : xX} {Z : zZ} {cn sn : Nat} {ρ : Type} {r : ρ} {k0 : Int32 → Option ρ} (G : ok_ X Z yX7_learned cX7_learned 8 1 0 0) (hcn : cn ≤ 0) (hsn : sn ≤ 0) (M : mM) (x0 : Nat) (x5 : Int32)
    (hx0 : ∀ (z3 : Int32), k0 z3 = some r → V X Z M cn sn 150 [none, none, none, some (.int z3), none, some (.int x5), none, none] []) :
    ∀ (n : Nat) (x3 : Int32) (x7 : Int32), m_X7_learned_L100 k0 M x0 x5 n x3 x7 = some r → V X Z M cn sn 100 [some (.ref x0), none, none, some (.int x3), none, some (.int x5), none, some (.int x7)] [] := by
  intro n
  induction n with
  | zero => intro x3 x7 h; rw [m_X7_learned_L100] at h; cases h
  | succ n ih =>
    intro x3 x7 h
    rw [m_X7_learned_L100] at h
    refine v_iload G dX7_learned_100 rfl ?_
    refine v_aload_n G dX7_learned_102 rfl ?_
    refine v_iconst G (1 : Int32) dX7_learned_103 (by decide) ?_
    obtain ⟨v15, q14, h⟩ := bi_ h
    refine v_iald G dX7_learned_104 q14 ?_
    refine v_ic_ge 150 G dX7_learned_105 (by decide) (fun q16 => ?_) (fun q16 => ?_)
    · rw [if_pos q16] at h
      exact v_mask [false, false, false, true, false, true, false, false] rfl (hx0 _ h)
    · rw [if_neg q16] at h
      refine v_iload G dX7_learned_108 rfl ?_
      refine v_iconst G (2 : Int32) dX7_learned_110 (by decide) ?_
      refine v_ic_ne 150 G dX7_learned_111 (by decide) (fun q17 => ?_) (fun q17 => ?_)
      · rw [if_neg q17] at h
        exact v_mask [false, false, false, true, false, true, false, false] rfl (hx0 _ h)
      · rw [if_pos q17] at h
        refine v_iload_n G dX7_learned_114 rfl ?_
        refine v_aload_n G dX7_learned_115 rfl ?_
        refine v_iconst G (5 : Int32) dX7_learned_116 (by decide) ?_
        refine v_iload G dX7_learned_117 rfl ?_
        refine v_iadd G dX7_learned_119 ?_
        obtain ⟨v19, q18, h⟩ := bi_ h
        refine v_iald G dX7_learned_120 q18 ?_
        refine v_if_eq 141 G dX7_learned_121 (by decide) (fun q20 => ?_) (fun q20 => ?_)
        · rw [if_pos q20] at h
          refine v_iconst G (0 : Int32) dX7_learned_141 (by decide) ?_
          refine v_ior G dX7_learned_142 ?_
          refine v_istore_n [some (.ref x0), none, none, some (.int (x3 ||| (0 : Int32))), none, some (.int x5), none, some (.int x7)] G dX7_learned_143 (Nat.le_of_ble_eq_true rfl) rfl rfl ?_
          refine v_iinc (x7 + (1 : Int32)) [some (.ref x0), none, none, some (.int (x3 ||| (0 : Int32))), none, some (.int x5), none, some (.int (x7 + (1 : Int32)))] G dX7_learned_144 rfl rfl (Nat.le_of_ble_eq_true rfl) rfl rfl ?_
          refine v_goto 100 G dX7_learned_147 (by decide) ?_
          exact v_mask [true, false, false, true, false, true, false, true] rfl (ih _ _ h)
        · rw [if_neg q20] at h
          refine v_aload_n G dX7_learned_124 rfl ?_
          refine v_iload G dX7_learned_125 rfl ?_
          refine v_iload_n G dX7_learned_127 rfl ?_
          obtain ⟨v22, q21, h⟩ := bi_ h
          refine v_callS0 (e_X7_canGrasp q21) G my_X7_canGrasp w1060 w1059 dX7_learned_128 rfl (Nat.le_of_ble_eq_true rfl) rfl (Nat.le_of_ble_eq_true rfl) hcn hsn ?_
          refine v_if_eq 141 G dX7_learned_131 (by decide) (fun q23 => ?_) (fun q23 => ?_)
          · rw [if_pos q23] at h
            refine v_iconst G (0 : Int32) dX7_learned_141 (by decide) ?_
            refine v_ior G dX7_learned_142 ?_
            refine v_istore_n [some (.ref x0), none, none, some (.int (x3 ||| (0 : Int32))), none, some (.int x5), none, some (.int x7)] G dX7_learned_143 (Nat.le_of_ble_eq_true rfl) rfl rfl ?_
            refine v_iinc (x7 + (1 : Int32)) [some (.ref x0), none, none, some (.int (x3 ||| (0 : Int32))), none, some (.int x5), none, some (.int (x7 + (1 : Int32)))] G dX7_learned_144 rfl rfl (Nat.le_of_ble_eq_true rfl) rfl rfl ?_
            refine v_goto 100 G dX7_learned_147 (by decide) ?_
            exact v_mask [true, false, false, true, false, true, false, true] rfl (ih _ _ h)
          · rw [if_neg q23] at h
            refine v_iconst G (1 : Int32) dX7_learned_134 (by decide) ?_
            refine v_iload G dX7_learned_135 rfl ?_
            refine v_ishl G dX7_learned_137 ?_
            refine v_goto 142 G dX7_learned_138 (by decide) ?_
            refine v_ior G dX7_learned_142 ?_
            refine v_istore_n [some (.ref x0), none, none, some (.int (x3 ||| ((1 : Int32) <<< (x7 &&& 31)))), none, some (.int x5), none, some (.int x7)] G dX7_learned_143 (Nat.le_of_ble_eq_true rfl) rfl rfl ?_
            refine v_iinc (x7 + (1 : Int32)) [some (.ref x0), none, none, some (.int (x3 ||| ((1 : Int32) <<< (x7 &&& 31)))), none, some (.int x5), none, some (.int (x7 + (1 : Int32)))] G dX7_learned_144 rfl rfl (Nat.le_of_ble_eq_true rfl) rfl rfl ?_
            refine v_goto 100 G dX7_learned_147 (by decide) ?_
            exact v_mask [true, false, false, true, false, true, false, true] rfl (ih _ _ h)
def m_X7_learned (M : mM) (x0 : Nat) (x1 : Int32) (x2 : Int32) : Option Int32 :=
  (m_X7_of M x0 x1 (2 : Int32)).bind fun v2 =>
  (m_X7_of M x0 x1 ((3 : Int32) + x2)).bind fun v4 =>
  (m_X7_of M x0 x1 (0 : Int32)).bind fun v6 =>
  if (4 : Int32) ≤ v6 then (
    (ldI M x0 ((5 : Int32) + x2)).bind fun v9 =>
    (m_X7_bits M v9).bind fun v11 =>
    if v4 < v11 then (
      if (0 : Int32) = (0 : Int32) then (
        m_X7_learned_L100
          (fun v24 =>
            if v6 = (5 : Int32) then (
              (m_X7_bits M v24).bind fun v27 =>
              if v27 ≤ (4 : Int32) then (
                some v24
              ) else (
                some (v24 &&& (v24 - (1 : Int32)))
              )
            ) else (
              some v24
            ))
          M x0 v6 FU (v2 ||| (0 : Int32)) (x2 + (1 : Int32))
      ) else (
        m_X7_learned_L100
          (fun v29 =>
            if v6 = (5 : Int32) then (
              (m_X7_bits M v29).bind fun v32 =>
              if v32 ≤ (4 : Int32) then (
                some v29
              ) else (
                some (v29 &&& (v29 - (1 : Int32)))
              )
            ) else (
              some v29
            ))
          M x0 v6 FU (v2 ||| ((1 : Int32) <<< (x2 &&& 31))) (x2 + (1 : Int32))
      )
    ) else (
      if (1 : Int32) = (0 : Int32) then (
        m_X7_learned_L100
          (fun v35 =>
            if v6 = (5 : Int32) then (
              (m_X7_bits M v35).bind fun v38 =>
              if v38 ≤ (4 : Int32) then (
                some v35
              ) else (
                some (v35 &&& (v35 - (1 : Int32)))
              )
            ) else (
              some v35
            ))
          M x0 v6 FU (v2 ||| (0 : Int32)) (x2 + (1 : Int32))
      ) else (
        m_X7_learned_L100
          (fun v40 =>
            if v6 = (5 : Int32) then (
              (m_X7_bits M v40).bind fun v43 =>
              if v43 ≤ (4 : Int32) then (
                some v40
              ) else (
                some (v40 &&& (v40 - (1 : Int32)))
              )
            ) else (
              some v40
            ))
          M x0 v6 FU (v2 ||| ((1 : Int32) <<< (x2 &&& 31))) (x2 + (1 : Int32))
      )
    )
  ) else (
    (m_X7_canGrasp M x0 x2 v2).bind fun v46 =>
    if v46 = (0 : Int32) then (
      if (0 : Int32) = (0 : Int32) then (
        m_X7_learned_L100
          (fun v49 =>
            if v6 = (5 : Int32) then (
              (m_X7_bits M v49).bind fun v52 =>
              if v52 ≤ (4 : Int32) then (
                some v49
              ) else (
                some (v49 &&& (v49 - (1 : Int32)))
              )
            ) else (
              some v49
            ))
          M x0 v6 FU (v2 ||| (0 : Int32)) (x2 + (1 : Int32))
      ) else (
        m_X7_learned_L100
          (fun v54 =>
            if v6 = (5 : Int32) then (
              (m_X7_bits M v54).bind fun v57 =>
              if v57 ≤ (4 : Int32) then (
                some v54
              ) else (
                some (v54 &&& (v54 - (1 : Int32)))
              )
            ) else (
              some v54
            ))
          M x0 v6 FU (v2 ||| ((1 : Int32) <<< (x2 &&& 31))) (x2 + (1 : Int32))
      )
    ) else (
      if v6 = (3 : Int32) then (
        if v4 < (2 : Int32) then (
          if (0 : Int32) = (0 : Int32) then (
            m_X7_learned_L100
              (fun v73 =>
                if v6 = (5 : Int32) then (
                  (m_X7_bits M v73).bind fun v76 =>
                  if v76 ≤ (4 : Int32) then (
                    some v73
                  ) else (
                    some (v73 &&& (v73 - (1 : Int32)))
                  )
                ) else (
                  some v73
                ))
              M x0 v6 FU (v2 ||| (0 : Int32)) (x2 + (1 : Int32))
          ) else (
            m_X7_learned_L100
              (fun v78 =>
                if v6 = (5 : Int32) then (
                  (m_X7_bits M v78).bind fun v81 =>
                  if v81 ≤ (4 : Int32) then (
                    some v78
                  ) else (
                    some (v78 &&& (v78 - (1 : Int32)))
                  )
                ) else (
                  some v78
                ))
              M x0 v6 FU (v2 ||| ((1 : Int32) <<< (x2 &&& 31))) (x2 + (1 : Int32))
          )
        ) else (
          if (1 : Int32) = (0 : Int32) then (
            m_X7_learned_L100
              (fun v84 =>
                if v6 = (5 : Int32) then (
                  (m_X7_bits M v84).bind fun v87 =>
                  if v87 ≤ (4 : Int32) then (
                    some v84
                  ) else (
                    some (v84 &&& (v84 - (1 : Int32)))
                  )
                ) else (
                  some v84
                ))
              M x0 v6 FU (v2 ||| (0 : Int32)) (x2 + (1 : Int32))
          ) else (
            m_X7_learned_L100
              (fun v89 =>
                if v6 = (5 : Int32) then (
                  (m_X7_bits M v89).bind fun v92 =>
                  if v92 ≤ (4 : Int32) then (
                    some v89
                  ) else (
                    some (v89 &&& (v89 - (1 : Int32)))
                  )
                ) else (
                  some v89
                ))
              M x0 v6 FU (v2 ||| ((1 : Int32) <<< (x2 &&& 31))) (x2 + (1 : Int32))
          )
        )
      ) else (
        if (1 : Int32) = (0 : Int32) then (
          m_X7_learned_L100
            (fun v61 =>
              if v6 = (5 : Int32) then (
                (m_X7_bits M v61).bind fun v64 =>
                if v64 ≤ (4 : Int32) then (
                  some v61
                ) else (
                  some (v61 &&& (v61 - (1 : Int32)))
                )
              ) else (
                some v61
              ))
            M x0 v6 FU (v2 ||| (0 : Int32)) (x2 + (1 : Int32))
        ) else (
          m_X7_learned_L100
            (fun v66 =>
              if v6 = (5 : Int32) then (
                (m_X7_bits M v66).bind fun v69 =>
                if v69 ≤ (4 : Int32) then (
                  some v66
                ) else (
                  some (v66 &&& (v66 - (1 : Int32)))
                )
              ) else (
                some v66
              ))
            M x0 v6 FU (v2 ||| ((1 : Int32) <<< (x2 &&& 31))) (x2 + (1 : Int32))
        )
      )
    )
  )
theorem e_X7_learned {Z : zZ} {M : mM} {x0 : Nat} {x1 : Int32} {x2 : Int32} {r : Int32} (h : m_X7_learned M x0 x1 x2 = some r) : EM Z yX7_learned cX7_learned 8 (some .int) 1 0 0 [.ref x0, .int x1, .int x2] M M (some (.int r)) := by
  refine EM_of my_X7_learned (Nat.le_of_ble_eq_true rfl) (fun X G F => ?_)
  show V X Z M 0 0 0 [some (.ref x0), some (.int x1), some (.int x2), none, none, none, none, none] []
  unfold m_X7_learned at h
  refine v_aload_n G dX7_learned_0 rfl ?_
  refine v_iload_n G dX7_learned_1 rfl ?_
  refine v_iconst G (2 : Int32) dX7_learned_2 (by decide) ?_
  obtain ⟨v2, q1, h⟩ := bi_ h
  refine v_callS0 (e_X7_of q1) G my_X7_of w1045 w1044 dX7_learned_3 rfl (Nat.le_of_ble_eq_true rfl) rfl (Nat.le_of_ble_eq_true rfl) (Nat.zero_le _) (Nat.zero_le _) ?_
  refine v_istore_n [some (.ref x0), some (.int x1), some (.int x2), some (.int v2), none, none, none, none] G dX7_learned_6 (Nat.le_of_ble_eq_true rfl) rfl rfl ?_
  refine v_aload_n G dX7_learned_7 rfl ?_
  refine v_iload_n G dX7_learned_8 rfl ?_
  refine v_iconst G (3 : Int32) dX7_learned_9 (by decide) ?_
  refine v_iload_n G dX7_learned_10 rfl ?_
  refine v_iadd G dX7_learned_11 ?_
  obtain ⟨v4, q3, h⟩ := bi_ h
  refine v_callS0 (e_X7_of q3) G my_X7_of w1045 w1044 dX7_learned_12 rfl (Nat.le_of_ble_eq_true rfl) rfl (Nat.le_of_ble_eq_true rfl) (Nat.zero_le _) (Nat.zero_le _) ?_
  refine v_istore [some (.ref x0), some (.int x1), some (.int x2), some (.int v2), some (.int v4), none, none, none] G dX7_learned_15 (Nat.le_of_ble_eq_true rfl) rfl rfl ?_
  refine v_aload_n G dX7_learned_17 rfl ?_
  refine v_iload_n G dX7_learned_18 rfl ?_
  refine v_iconst G (0 : Int32) dX7_learned_19 (by decide) ?_
  obtain ⟨v6, q5, h⟩ := bi_ h
  refine v_callS0 (e_X7_of q5) G my_X7_of w1045 w1044 dX7_learned_20 rfl (Nat.le_of_ble_eq_true rfl) rfl (Nat.le_of_ble_eq_true rfl) (Nat.zero_le _) (Nat.zero_le _) ?_
  refine v_istore [some (.ref x0), some (.int x1), some (.int x2), some (.int v2), some (.int v4), some (.int v6), none, none] G dX7_learned_23 (Nat.le_of_ble_eq_true rfl) rfl rfl ?_
  refine v_iload G dX7_learned_25 rfl ?_
  refine v_iconst G (4 : Int32) dX7_learned_27 (by decide) ?_
  refine v_ic_ge 60 G dX7_learned_28 (by decide) (fun q7 => ?_) (fun q7 => ?_)
  · rw [if_pos q7] at h
    refine v_iload G dX7_learned_60 rfl ?_
    refine v_aload_n G dX7_learned_62 rfl ?_
    refine v_iconst G (5 : Int32) dX7_learned_63 (by decide) ?_
    refine v_iload_n G dX7_learned_64 rfl ?_
    refine v_iadd G dX7_learned_65 ?_
    obtain ⟨v9, q8, h⟩ := bi_ h
    refine v_iald G dX7_learned_66 q8 ?_
    obtain ⟨v11, q10, h⟩ := bi_ h
    refine v_callS0 (e_X7_bits q10) G my_X7_bits w1063 w1062 dX7_learned_67 rfl (Nat.le_of_ble_eq_true rfl) rfl (Nat.le_of_ble_eq_true rfl) (Nat.zero_le _) (Nat.zero_le _) ?_
    refine v_ic_lt 77 G dX7_learned_70 (by decide) (fun q12 => ?_) (fun q12 => ?_)
    · rw [if_pos q12] at h
      refine v_iconst G (0 : Int32) dX7_learned_77 (by decide) ?_
      refine v_istore [some (.ref x0), some (.int x1), some (.int x2), some (.int v2), some (.int v4), some (.int v6), some (.int (0 : Int32)), none] G dX7_learned_78 (Nat.le_of_ble_eq_true rfl) rfl rfl ?_
      refine v_iload_n G dX7_learned_80 rfl ?_
      refine v_iload G dX7_learned_81 rfl ?_
      refine v_if_eq 92 G dX7_learned_83 (by decide) (fun q13 => ?_) (fun q13 => ?_)
      · rw [if_pos q13] at h
        refine v_iconst G (0 : Int32) dX7_learned_92 (by decide) ?_
        refine v_ior G dX7_learned_93 ?_
        refine v_istore_n [some (.ref x0), some (.int x1), some (.int x2), some (.int (v2 ||| (0 : Int32))), some (.int v4), some (.int v6), some (.int (0 : Int32)), none] G dX7_learned_94 (Nat.le_of_ble_eq_true rfl) rfl rfl ?_
        refine v_iload_n G dX7_learned_95 rfl ?_
        refine v_iconst G (1 : Int32) dX7_learned_96 (by decide) ?_
        refine v_iadd G dX7_learned_97 ?_
        refine v_istore [some (.ref x0), some (.int x1), some (.int x2), some (.int (v2 ||| (0 : Int32))), some (.int v4), some (.int v6), some (.int (0 : Int32)), some (.int (x2 + (1 : Int32)))] G dX7_learned_98 (Nat.le_of_ble_eq_true rfl) rfl rfl ?_
        refine v_mask [true, false, false, true, false, true, false, true] rfl ?_
        refine e_X7_learned_L100 G (Nat.zero_le _) (Nat.zero_le _) _ _ _ (fun v24 h => ?_) FU _ _ h
        refine v_iload G dX7_learned_150 rfl ?_
        refine v_iconst G (5 : Int32) dX7_learned_152 (by decide) ?_
        refine v_ic_ne 172 G dX7_learned_153 (by decide) (fun q25 => ?_) (fun q25 => ?_)
        · rw [if_neg q25] at h
          refine v_iload_n G dX7_learned_172 rfl ?_
          cases h
          exact v_iret G F dX7_learned_173 rfl (Nat.le_refl _)
        · rw [if_pos q25] at h
          refine v_iload_n G dX7_learned_156 rfl ?_
          obtain ⟨v27, q26, h⟩ := bi_ h
          refine v_callS0 (e_X7_bits q26) G my_X7_bits w1063 w1062 dX7_learned_157 rfl (Nat.le_of_ble_eq_true rfl) rfl (Nat.le_of_ble_eq_true rfl) (Nat.zero_le _) (Nat.zero_le _) ?_
          refine v_iconst G (4 : Int32) dX7_learned_160 (by decide) ?_
          refine v_ic_le 172 G dX7_learned_161 (by decide) (fun q28 => ?_) (fun q28 => ?_)
          · rw [if_pos q28] at h
            refine v_iload_n G dX7_learned_172 rfl ?_
            cases h
            exact v_iret G F dX7_learned_173 rfl (Nat.le_refl _)
          · rw [if_neg q28] at h
            refine v_iload_n G dX7_learned_164 rfl ?_
            refine v_iload_n G dX7_learned_165 rfl ?_
            refine v_iconst G (1 : Int32) dX7_learned_166 (by decide) ?_
            refine v_isub G dX7_learned_167 ?_
            refine v_iand G dX7_learned_168 ?_
            refine v_goto 173 G dX7_learned_169 (by decide) ?_
            cases h
            exact v_iret G F dX7_learned_173 rfl (Nat.le_refl _)
      · rw [if_neg q13] at h
        refine v_iconst G (1 : Int32) dX7_learned_86 (by decide) ?_
        refine v_iload_n G dX7_learned_87 rfl ?_
        refine v_ishl G dX7_learned_88 ?_
        refine v_goto 93 G dX7_learned_89 (by decide) ?_
        refine v_ior G dX7_learned_93 ?_
        refine v_istore_n [some (.ref x0), some (.int x1), some (.int x2), some (.int (v2 ||| ((1 : Int32) <<< (x2 &&& 31)))), some (.int v4), some (.int v6), some (.int (0 : Int32)), none] G dX7_learned_94 (Nat.le_of_ble_eq_true rfl) rfl rfl ?_
        refine v_iload_n G dX7_learned_95 rfl ?_
        refine v_iconst G (1 : Int32) dX7_learned_96 (by decide) ?_
        refine v_iadd G dX7_learned_97 ?_
        refine v_istore [some (.ref x0), some (.int x1), some (.int x2), some (.int (v2 ||| ((1 : Int32) <<< (x2 &&& 31)))), some (.int v4), some (.int v6), some (.int (0 : Int32)), some (.int (x2 + (1 : Int32)))] G dX7_learned_98 (Nat.le_of_ble_eq_true rfl) rfl rfl ?_
        refine v_mask [true, false, false, true, false, true, false, true] rfl ?_
        refine e_X7_learned_L100 G (Nat.zero_le _) (Nat.zero_le _) _ _ _ (fun v29 h => ?_) FU _ _ h
        refine v_iload G dX7_learned_150 rfl ?_
        refine v_iconst G (5 : Int32) dX7_learned_152 (by decide) ?_
        refine v_ic_ne 172 G dX7_learned_153 (by decide) (fun q30 => ?_) (fun q30 => ?_)
        · rw [if_neg q30] at h
          refine v_iload_n G dX7_learned_172 rfl ?_
          cases h
          exact v_iret G F dX7_learned_173 rfl (Nat.le_refl _)
        · rw [if_pos q30] at h
          refine v_iload_n G dX7_learned_156 rfl ?_
          obtain ⟨v32, q31, h⟩ := bi_ h
          refine v_callS0 (e_X7_bits q31) G my_X7_bits w1063 w1062 dX7_learned_157 rfl (Nat.le_of_ble_eq_true rfl) rfl (Nat.le_of_ble_eq_true rfl) (Nat.zero_le _) (Nat.zero_le _) ?_
          refine v_iconst G (4 : Int32) dX7_learned_160 (by decide) ?_
          refine v_ic_le 172 G dX7_learned_161 (by decide) (fun q33 => ?_) (fun q33 => ?_)
          · rw [if_pos q33] at h
            refine v_iload_n G dX7_learned_172 rfl ?_
            cases h
            exact v_iret G F dX7_learned_173 rfl (Nat.le_refl _)
          · rw [if_neg q33] at h
            refine v_iload_n G dX7_learned_164 rfl ?_
            refine v_iload_n G dX7_learned_165 rfl ?_
            refine v_iconst G (1 : Int32) dX7_learned_166 (by decide) ?_
            refine v_isub G dX7_learned_167 ?_
            refine v_iand G dX7_learned_168 ?_
            refine v_goto 173 G dX7_learned_169 (by decide) ?_
            cases h
            exact v_iret G F dX7_learned_173 rfl (Nat.le_refl _)
    · rw [if_neg q12] at h
      refine v_iconst G (1 : Int32) dX7_learned_73 (by decide) ?_
      refine v_goto 78 G dX7_learned_74 (by decide) ?_
      refine v_istore [some (.ref x0), some (.int x1), some (.int x2), some (.int v2), some (.int v4), some (.int v6), some (.int (1 : Int32)), none] G dX7_learned_78 (Nat.le_of_ble_eq_true rfl) rfl rfl ?_
      refine v_iload_n G dX7_learned_80 rfl ?_
      refine v_iload G dX7_learned_81 rfl ?_
      refine v_if_eq 92 G dX7_learned_83 (by decide) (fun q34 => ?_) (fun q34 => ?_)
      · rw [if_pos q34] at h
        refine v_iconst G (0 : Int32) dX7_learned_92 (by decide) ?_
        refine v_ior G dX7_learned_93 ?_
        refine v_istore_n [some (.ref x0), some (.int x1), some (.int x2), some (.int (v2 ||| (0 : Int32))), some (.int v4), some (.int v6), some (.int (1 : Int32)), none] G dX7_learned_94 (Nat.le_of_ble_eq_true rfl) rfl rfl ?_
        refine v_iload_n G dX7_learned_95 rfl ?_
        refine v_iconst G (1 : Int32) dX7_learned_96 (by decide) ?_
        refine v_iadd G dX7_learned_97 ?_
        refine v_istore [some (.ref x0), some (.int x1), some (.int x2), some (.int (v2 ||| (0 : Int32))), some (.int v4), some (.int v6), some (.int (1 : Int32)), some (.int (x2 + (1 : Int32)))] G dX7_learned_98 (Nat.le_of_ble_eq_true rfl) rfl rfl ?_
        refine v_mask [true, false, false, true, false, true, false, true] rfl ?_
        refine e_X7_learned_L100 G (Nat.zero_le _) (Nat.zero_le _) _ _ _ (fun v35 h => ?_) FU _ _ h
        refine v_iload G dX7_learned_150 rfl ?_
        refine v_iconst G (5 : Int32) dX7_learned_152 (by decide) ?_
        refine v_ic_ne 172 G dX7_learned_153 (by decide) (fun q36 => ?_) (fun q36 => ?_)
        · rw [if_neg q36] at h
          refine v_iload_n G dX7_learned_172 rfl ?_
          cases h
          exact v_iret G F dX7_learned_173 rfl (Nat.le_refl _)
        · rw [if_pos q36] at h
          refine v_iload_n G dX7_learned_156 rfl ?_
          obtain ⟨v38, q37, h⟩ := bi_ h
          refine v_callS0 (e_X7_bits q37) G my_X7_bits w1063 w1062 dX7_learned_157 rfl (Nat.le_of_ble_eq_true rfl) rfl (Nat.le_of_ble_eq_true rfl) (Nat.zero_le _) (Nat.zero_le _) ?_
          refine v_iconst G (4 : Int32) dX7_learned_160 (by decide) ?_
          refine v_ic_le 172 G dX7_learned_161 (by decide) (fun q39 => ?_) (fun q39 => ?_)
          · rw [if_pos q39] at h
            refine v_iload_n G dX7_learned_172 rfl ?_
            cases h
            exact v_iret G F dX7_learned_173 rfl (Nat.le_refl _)
          · rw [if_neg q39] at h
            refine v_iload_n G dX7_learned_164 rfl ?_
            refine v_iload_n G dX7_learned_165 rfl ?_
            refine v_iconst G (1 : Int32) dX7_learned_166 (by decide) ?_
            refine v_isub G dX7_learned_167 ?_
            refine v_iand G dX7_learned_168 ?_
            refine v_goto 173 G dX7_learned_169 (by decide) ?_
            cases h
            exact v_iret G F dX7_learned_173 rfl (Nat.le_refl _)
      · rw [if_neg q34] at h
        refine v_iconst G (1 : Int32) dX7_learned_86 (by decide) ?_
        refine v_iload_n G dX7_learned_87 rfl ?_
        refine v_ishl G dX7_learned_88 ?_
        refine v_goto 93 G dX7_learned_89 (by decide) ?_
        refine v_ior G dX7_learned_93 ?_
        refine v_istore_n [some (.ref x0), some (.int x1), some (.int x2), some (.int (v2 ||| ((1 : Int32) <<< (x2 &&& 31)))), some (.int v4), some (.int v6), some (.int (1 : Int32)), none] G dX7_learned_94 (Nat.le_of_ble_eq_true rfl) rfl rfl ?_
        refine v_iload_n G dX7_learned_95 rfl ?_
        refine v_iconst G (1 : Int32) dX7_learned_96 (by decide) ?_
        refine v_iadd G dX7_learned_97 ?_
        refine v_istore [some (.ref x0), some (.int x1), some (.int x2), some (.int (v2 ||| ((1 : Int32) <<< (x2 &&& 31)))), some (.int v4), some (.int v6), some (.int (1 : Int32)), some (.int (x2 + (1 : Int32)))] G dX7_learned_98 (Nat.le_of_ble_eq_true rfl) rfl rfl ?_
        refine v_mask [true, false, false, true, false, true, false, true] rfl ?_
        refine e_X7_learned_L100 G (Nat.zero_le _) (Nat.zero_le _) _ _ _ (fun v40 h => ?_) FU _ _ h
        refine v_iload G dX7_learned_150 rfl ?_
        refine v_iconst G (5 : Int32) dX7_learned_152 (by decide) ?_
        refine v_ic_ne 172 G dX7_learned_153 (by decide) (fun q41 => ?_) (fun q41 => ?_)
        · rw [if_neg q41] at h
          refine v_iload_n G dX7_learned_172 rfl ?_
          cases h
          exact v_iret G F dX7_learned_173 rfl (Nat.le_refl _)
        · rw [if_pos q41] at h
          refine v_iload_n G dX7_learned_156 rfl ?_
          obtain ⟨v43, q42, h⟩ := bi_ h
          refine v_callS0 (e_X7_bits q42) G my_X7_bits w1063 w1062 dX7_learned_157 rfl (Nat.le_of_ble_eq_true rfl) rfl (Nat.le_of_ble_eq_true rfl) (Nat.zero_le _) (Nat.zero_le _) ?_
          refine v_iconst G (4 : Int32) dX7_learned_160 (by decide) ?_
          refine v_ic_le 172 G dX7_learned_161 (by decide) (fun q44 => ?_) (fun q44 => ?_)
          · rw [if_pos q44] at h
            refine v_iload_n G dX7_learned_172 rfl ?_
            cases h
            exact v_iret G F dX7_learned_173 rfl (Nat.le_refl _)
          · rw [if_neg q44] at h
            refine v_iload_n G dX7_learned_164 rfl ?_
            refine v_iload_n G dX7_learned_165 rfl ?_
            refine v_iconst G (1 : Int32) dX7_learned_166 (by decide) ?_
            refine v_isub G dX7_learned_167 ?_
            refine v_iand G dX7_learned_168 ?_
            refine v_goto 173 G dX7_learned_169 (by decide) ?_
            cases h
            exact v_iret G F dX7_learned_173 rfl (Nat.le_refl _)
  · rw [if_neg q7] at h
    refine v_aload_n G dX7_learned_31 rfl ?_
    refine v_iload_n G dX7_learned_32 rfl ?_
    refine v_iload_n G dX7_learned_33 rfl ?_
    obtain ⟨v46, q45, h⟩ := bi_ h
    refine v_callS0 (e_X7_canGrasp q45) G my_X7_canGrasp w1060 w1059 dX7_learned_34 rfl (Nat.le_of_ble_eq_true rfl) rfl (Nat.le_of_ble_eq_true rfl) (Nat.zero_le _) (Nat.zero_le _) ?_
    refine v_if_eq 56 G dX7_learned_37 (by decide) (fun q47 => ?_) (fun q47 => ?_)
    · rw [if_pos q47] at h
      refine v_iconst G (0 : Int32) dX7_learned_56 (by decide) ?_
      refine v_goto 78 G dX7_learned_57 (by decide) ?_
      refine v_istore [some (.ref x0), some (.int x1), some (.int x2), some (.int v2), some (.int v4), some (.int v6), some (.int (0 : Int32)), none] G dX7_learned_78 (Nat.le_of_ble_eq_true rfl) rfl rfl ?_
      refine v_iload_n G dX7_learned_80 rfl ?_
      refine v_iload G dX7_learned_81 rfl ?_
      refine v_if_eq 92 G dX7_learned_83 (by decide) (fun q48 => ?_) (fun q48 => ?_)
      · rw [if_pos q48] at h
        refine v_iconst G (0 : Int32) dX7_learned_92 (by decide) ?_
        refine v_ior G dX7_learned_93 ?_
        refine v_istore_n [some (.ref x0), some (.int x1), some (.int x2), some (.int (v2 ||| (0 : Int32))), some (.int v4), some (.int v6), some (.int (0 : Int32)), none] G dX7_learned_94 (Nat.le_of_ble_eq_true rfl) rfl rfl ?_
        refine v_iload_n G dX7_learned_95 rfl ?_
        refine v_iconst G (1 : Int32) dX7_learned_96 (by decide) ?_
        refine v_iadd G dX7_learned_97 ?_
        refine v_istore [some (.ref x0), some (.int x1), some (.int x2), some (.int (v2 ||| (0 : Int32))), some (.int v4), some (.int v6), some (.int (0 : Int32)), some (.int (x2 + (1 : Int32)))] G dX7_learned_98 (Nat.le_of_ble_eq_true rfl) rfl rfl ?_
        refine v_mask [true, false, false, true, false, true, false, true] rfl ?_
        refine e_X7_learned_L100 G (Nat.zero_le _) (Nat.zero_le _) _ _ _ (fun v49 h => ?_) FU _ _ h
        refine v_iload G dX7_learned_150 rfl ?_
        refine v_iconst G (5 : Int32) dX7_learned_152 (by decide) ?_
        refine v_ic_ne 172 G dX7_learned_153 (by decide) (fun q50 => ?_) (fun q50 => ?_)
        · rw [if_neg q50] at h
          refine v_iload_n G dX7_learned_172 rfl ?_
          cases h
          exact v_iret G F dX7_learned_173 rfl (Nat.le_refl _)
        · rw [if_pos q50] at h
          refine v_iload_n G dX7_learned_156 rfl ?_
          obtain ⟨v52, q51, h⟩ := bi_ h
          refine v_callS0 (e_X7_bits q51) G my_X7_bits w1063 w1062 dX7_learned_157 rfl (Nat.le_of_ble_eq_true rfl) rfl (Nat.le_of_ble_eq_true rfl) (Nat.zero_le _) (Nat.zero_le _) ?_
          refine v_iconst G (4 : Int32) dX7_learned_160 (by decide) ?_
          refine v_ic_le 172 G dX7_learned_161 (by decide) (fun q53 => ?_) (fun q53 => ?_)
          · rw [if_pos q53] at h
            refine v_iload_n G dX7_learned_172 rfl ?_
            cases h
            exact v_iret G F dX7_learned_173 rfl (Nat.le_refl _)
          · rw [if_neg q53] at h
            refine v_iload_n G dX7_learned_164 rfl ?_
            refine v_iload_n G dX7_learned_165 rfl ?_
            refine v_iconst G (1 : Int32) dX7_learned_166 (by decide) ?_
            refine v_isub G dX7_learned_167 ?_
            refine v_iand G dX7_learned_168 ?_
            refine v_goto 173 G dX7_learned_169 (by decide) ?_
            cases h
            exact v_iret G F dX7_learned_173 rfl (Nat.le_refl _)
      · rw [if_neg q48] at h
        refine v_iconst G (1 : Int32) dX7_learned_86 (by decide) ?_
        refine v_iload_n G dX7_learned_87 rfl ?_
        refine v_ishl G dX7_learned_88 ?_
        refine v_goto 93 G dX7_learned_89 (by decide) ?_
        refine v_ior G dX7_learned_93 ?_
        refine v_istore_n [some (.ref x0), some (.int x1), some (.int x2), some (.int (v2 ||| ((1 : Int32) <<< (x2 &&& 31)))), some (.int v4), some (.int v6), some (.int (0 : Int32)), none] G dX7_learned_94 (Nat.le_of_ble_eq_true rfl) rfl rfl ?_
        refine v_iload_n G dX7_learned_95 rfl ?_
        refine v_iconst G (1 : Int32) dX7_learned_96 (by decide) ?_
        refine v_iadd G dX7_learned_97 ?_
        refine v_istore [some (.ref x0), some (.int x1), some (.int x2), some (.int (v2 ||| ((1 : Int32) <<< (x2 &&& 31)))), some (.int v4), some (.int v6), some (.int (0 : Int32)), some (.int (x2 + (1 : Int32)))] G dX7_learned_98 (Nat.le_of_ble_eq_true rfl) rfl rfl ?_
        refine v_mask [true, false, false, true, false, true, false, true] rfl ?_
        refine e_X7_learned_L100 G (Nat.zero_le _) (Nat.zero_le _) _ _ _ (fun v54 h => ?_) FU _ _ h
        refine v_iload G dX7_learned_150 rfl ?_
        refine v_iconst G (5 : Int32) dX7_learned_152 (by decide) ?_
        refine v_ic_ne 172 G dX7_learned_153 (by decide) (fun q55 => ?_) (fun q55 => ?_)
        · rw [if_neg q55] at h
          refine v_iload_n G dX7_learned_172 rfl ?_
          cases h
          exact v_iret G F dX7_learned_173 rfl (Nat.le_refl _)
        · rw [if_pos q55] at h
          refine v_iload_n G dX7_learned_156 rfl ?_
          obtain ⟨v57, q56, h⟩ := bi_ h
          refine v_callS0 (e_X7_bits q56) G my_X7_bits w1063 w1062 dX7_learned_157 rfl (Nat.le_of_ble_eq_true rfl) rfl (Nat.le_of_ble_eq_true rfl) (Nat.zero_le _) (Nat.zero_le _) ?_
          refine v_iconst G (4 : Int32) dX7_learned_160 (by decide) ?_
          refine v_ic_le 172 G dX7_learned_161 (by decide) (fun q58 => ?_) (fun q58 => ?_)
          · rw [if_pos q58] at h
            refine v_iload_n G dX7_learned_172 rfl ?_
            cases h
            exact v_iret G F dX7_learned_173 rfl (Nat.le_refl _)
          · rw [if_neg q58] at h
            refine v_iload_n G dX7_learned_164 rfl ?_
            refine v_iload_n G dX7_learned_165 rfl ?_
            refine v_iconst G (1 : Int32) dX7_learned_166 (by decide) ?_
            refine v_isub G dX7_learned_167 ?_
            refine v_iand G dX7_learned_168 ?_
            refine v_goto 173 G dX7_learned_169 (by decide) ?_
            cases h
            exact v_iret G F dX7_learned_173 rfl (Nat.le_refl _)
    · rw [if_neg q47] at h
      refine v_iload G dX7_learned_40 rfl ?_
      refine v_iconst G (3 : Int32) dX7_learned_42 (by decide) ?_
      refine v_ic_ne 52 G dX7_learned_43 (by decide) (fun q59 => ?_) (fun q59 => ?_)
      · rw [if_neg q59] at h
        refine v_iconst G (1 : Int32) dX7_learned_52 (by decide) ?_
        refine v_goto 78 G dX7_learned_53 (by decide) ?_
        refine v_istore [some (.ref x0), some (.int x1), some (.int x2), some (.int v2), some (.int v4), some (.int v6), some (.int (1 : Int32)), none] G dX7_learned_78 (Nat.le_of_ble_eq_true rfl) rfl rfl ?_
        refine v_iload_n G dX7_learned_80 rfl ?_
        refine v_iload G dX7_learned_81 rfl ?_
        refine v_if_eq 92 G dX7_learned_83 (by decide) (fun q60 => ?_) (fun q60 => ?_)
        · rw [if_pos q60] at h
          refine v_iconst G (0 : Int32) dX7_learned_92 (by decide) ?_
          refine v_ior G dX7_learned_93 ?_
          refine v_istore_n [some (.ref x0), some (.int x1), some (.int x2), some (.int (v2 ||| (0 : Int32))), some (.int v4), some (.int v6), some (.int (1 : Int32)), none] G dX7_learned_94 (Nat.le_of_ble_eq_true rfl) rfl rfl ?_
          refine v_iload_n G dX7_learned_95 rfl ?_
          refine v_iconst G (1 : Int32) dX7_learned_96 (by decide) ?_
          refine v_iadd G dX7_learned_97 ?_
          refine v_istore [some (.ref x0), some (.int x1), some (.int x2), some (.int (v2 ||| (0 : Int32))), some (.int v4), some (.int v6), some (.int (1 : Int32)), some (.int (x2 + (1 : Int32)))] G dX7_learned_98 (Nat.le_of_ble_eq_true rfl) rfl rfl ?_
          refine v_mask [true, false, false, true, false, true, false, true] rfl ?_
          refine e_X7_learned_L100 G (Nat.zero_le _) (Nat.zero_le _) _ _ _ (fun v61 h => ?_) FU _ _ h
          refine v_iload G dX7_learned_150 rfl ?_
          refine v_iconst G (5 : Int32) dX7_learned_152 (by decide) ?_
          refine v_ic_ne 172 G dX7_learned_153 (by decide) (fun q62 => ?_) (fun q62 => ?_)
          · rw [if_neg q62] at h
            refine v_iload_n G dX7_learned_172 rfl ?_
            cases h
            exact v_iret G F dX7_learned_173 rfl (Nat.le_refl _)
          · rw [if_pos q62] at h
            refine v_iload_n G dX7_learned_156 rfl ?_
            obtain ⟨v64, q63, h⟩ := bi_ h
            refine v_callS0 (e_X7_bits q63) G my_X7_bits w1063 w1062 dX7_learned_157 rfl (Nat.le_of_ble_eq_true rfl) rfl (Nat.le_of_ble_eq_true rfl) (Nat.zero_le _) (Nat.zero_le _) ?_
            refine v_iconst G (4 : Int32) dX7_learned_160 (by decide) ?_
            refine v_ic_le 172 G dX7_learned_161 (by decide) (fun q65 => ?_) (fun q65 => ?_)
            · rw [if_pos q65] at h
              refine v_iload_n G dX7_learned_172 rfl ?_
              cases h
              exact v_iret G F dX7_learned_173 rfl (Nat.le_refl _)
            · rw [if_neg q65] at h
              refine v_iload_n G dX7_learned_164 rfl ?_
              refine v_iload_n G dX7_learned_165 rfl ?_
              refine v_iconst G (1 : Int32) dX7_learned_166 (by decide) ?_
              refine v_isub G dX7_learned_167 ?_
              refine v_iand G dX7_learned_168 ?_
              refine v_goto 173 G dX7_learned_169 (by decide) ?_
              cases h
              exact v_iret G F dX7_learned_173 rfl (Nat.le_refl _)
        · rw [if_neg q60] at h
          refine v_iconst G (1 : Int32) dX7_learned_86 (by decide) ?_
          refine v_iload_n G dX7_learned_87 rfl ?_
          refine v_ishl G dX7_learned_88 ?_
          refine v_goto 93 G dX7_learned_89 (by decide) ?_
          refine v_ior G dX7_learned_93 ?_
          refine v_istore_n [some (.ref x0), some (.int x1), some (.int x2), some (.int (v2 ||| ((1 : Int32) <<< (x2 &&& 31)))), some (.int v4), some (.int v6), some (.int (1 : Int32)), none] G dX7_learned_94 (Nat.le_of_ble_eq_true rfl) rfl rfl ?_
          refine v_iload_n G dX7_learned_95 rfl ?_
          refine v_iconst G (1 : Int32) dX7_learned_96 (by decide) ?_
          refine v_iadd G dX7_learned_97 ?_
          refine v_istore [some (.ref x0), some (.int x1), some (.int x2), some (.int (v2 ||| ((1 : Int32) <<< (x2 &&& 31)))), some (.int v4), some (.int v6), some (.int (1 : Int32)), some (.int (x2 + (1 : Int32)))] G dX7_learned_98 (Nat.le_of_ble_eq_true rfl) rfl rfl ?_
          refine v_mask [true, false, false, true, false, true, false, true] rfl ?_
          refine e_X7_learned_L100 G (Nat.zero_le _) (Nat.zero_le _) _ _ _ (fun v66 h => ?_) FU _ _ h
          refine v_iload G dX7_learned_150 rfl ?_
          refine v_iconst G (5 : Int32) dX7_learned_152 (by decide) ?_
          refine v_ic_ne 172 G dX7_learned_153 (by decide) (fun q67 => ?_) (fun q67 => ?_)
          · rw [if_neg q67] at h
            refine v_iload_n G dX7_learned_172 rfl ?_
            cases h
            exact v_iret G F dX7_learned_173 rfl (Nat.le_refl _)
          · rw [if_pos q67] at h
            refine v_iload_n G dX7_learned_156 rfl ?_
            obtain ⟨v69, q68, h⟩ := bi_ h
            refine v_callS0 (e_X7_bits q68) G my_X7_bits w1063 w1062 dX7_learned_157 rfl (Nat.le_of_ble_eq_true rfl) rfl (Nat.le_of_ble_eq_true rfl) (Nat.zero_le _) (Nat.zero_le _) ?_
            refine v_iconst G (4 : Int32) dX7_learned_160 (by decide) ?_
            refine v_ic_le 172 G dX7_learned_161 (by decide) (fun q70 => ?_) (fun q70 => ?_)
            · rw [if_pos q70] at h
              refine v_iload_n G dX7_learned_172 rfl ?_
              cases h
              exact v_iret G F dX7_learned_173 rfl (Nat.le_refl _)
            · rw [if_neg q70] at h
              refine v_iload_n G dX7_learned_164 rfl ?_
              refine v_iload_n G dX7_learned_165 rfl ?_
              refine v_iconst G (1 : Int32) dX7_learned_166 (by decide) ?_
              refine v_isub G dX7_learned_167 ?_
              refine v_iand G dX7_learned_168 ?_
              refine v_goto 173 G dX7_learned_169 (by decide) ?_
              cases h
              exact v_iret G F dX7_learned_173 rfl (Nat.le_refl _)
      · rw [if_pos q59] at h
        refine v_iload G dX7_learned_46 rfl ?_
        refine v_iconst G (2 : Int32) dX7_learned_48 (by decide) ?_
        refine v_ic_lt 56 G dX7_learned_49 (by decide) (fun q71 => ?_) (fun q71 => ?_)
        · rw [if_pos q71] at h
          refine v_iconst G (0 : Int32) dX7_learned_56 (by decide) ?_
          refine v_goto 78 G dX7_learned_57 (by decide) ?_
          refine v_istore [some (.ref x0), some (.int x1), some (.int x2), some (.int v2), some (.int v4), some (.int v6), some (.int (0 : Int32)), none] G dX7_learned_78 (Nat.le_of_ble_eq_true rfl) rfl rfl ?_
          refine v_iload_n G dX7_learned_80 rfl ?_
          refine v_iload G dX7_learned_81 rfl ?_
          refine v_if_eq 92 G dX7_learned_83 (by decide) (fun q72 => ?_) (fun q72 => ?_)
          · rw [if_pos q72] at h
            refine v_iconst G (0 : Int32) dX7_learned_92 (by decide) ?_
            refine v_ior G dX7_learned_93 ?_
            refine v_istore_n [some (.ref x0), some (.int x1), some (.int x2), some (.int (v2 ||| (0 : Int32))), some (.int v4), some (.int v6), some (.int (0 : Int32)), none] G dX7_learned_94 (Nat.le_of_ble_eq_true rfl) rfl rfl ?_
            refine v_iload_n G dX7_learned_95 rfl ?_
            refine v_iconst G (1 : Int32) dX7_learned_96 (by decide) ?_
            refine v_iadd G dX7_learned_97 ?_
            refine v_istore [some (.ref x0), some (.int x1), some (.int x2), some (.int (v2 ||| (0 : Int32))), some (.int v4), some (.int v6), some (.int (0 : Int32)), some (.int (x2 + (1 : Int32)))] G dX7_learned_98 (Nat.le_of_ble_eq_true rfl) rfl rfl ?_
            refine v_mask [true, false, false, true, false, true, false, true] rfl ?_
            refine e_X7_learned_L100 G (Nat.zero_le _) (Nat.zero_le _) _ _ _ (fun v73 h => ?_) FU _ _ h
            refine v_iload G dX7_learned_150 rfl ?_
            refine v_iconst G (5 : Int32) dX7_learned_152 (by decide) ?_
            refine v_ic_ne 172 G dX7_learned_153 (by decide) (fun q74 => ?_) (fun q74 => ?_)
            · rw [if_neg q74] at h
              refine v_iload_n G dX7_learned_172 rfl ?_
              cases h
              exact v_iret G F dX7_learned_173 rfl (Nat.le_refl _)
            · rw [if_pos q74] at h
              refine v_iload_n G dX7_learned_156 rfl ?_
              obtain ⟨v76, q75, h⟩ := bi_ h
              refine v_callS0 (e_X7_bits q75) G my_X7_bits w1063 w1062 dX7_learned_157 rfl (Nat.le_of_ble_eq_true rfl) rfl (Nat.le_of_ble_eq_true rfl) (Nat.zero_le _) (Nat.zero_le _) ?_
              refine v_iconst G (4 : Int32) dX7_learned_160 (by decide) ?_
              refine v_ic_le 172 G dX7_learned_161 (by decide) (fun q77 => ?_) (fun q77 => ?_)
              · rw [if_pos q77] at h
                refine v_iload_n G dX7_learned_172 rfl ?_
                cases h
                exact v_iret G F dX7_learned_173 rfl (Nat.le_refl _)
              · rw [if_neg q77] at h
                refine v_iload_n G dX7_learned_164 rfl ?_
                refine v_iload_n G dX7_learned_165 rfl ?_
                refine v_iconst G (1 : Int32) dX7_learned_166 (by decide) ?_
                refine v_isub G dX7_learned_167 ?_
                refine v_iand G dX7_learned_168 ?_
                refine v_goto 173 G dX7_learned_169 (by decide) ?_
                cases h
                exact v_iret G F dX7_learned_173 rfl (Nat.le_refl _)
          · rw [if_neg q72] at h
            refine v_iconst G (1 : Int32) dX7_learned_86 (by decide) ?_
            refine v_iload_n G dX7_learned_87 rfl ?_
            refine v_ishl G dX7_learned_88 ?_
            refine v_goto 93 G dX7_learned_89 (by decide) ?_
            refine v_ior G dX7_learned_93 ?_
            refine v_istore_n [some (.ref x0), some (.int x1), some (.int x2), some (.int (v2 ||| ((1 : Int32) <<< (x2 &&& 31)))), some (.int v4), some (.int v6), some (.int (0 : Int32)), none] G dX7_learned_94 (Nat.le_of_ble_eq_true rfl) rfl rfl ?_
            refine v_iload_n G dX7_learned_95 rfl ?_
            refine v_iconst G (1 : Int32) dX7_learned_96 (by decide) ?_
            refine v_iadd G dX7_learned_97 ?_
            refine v_istore [some (.ref x0), some (.int x1), some (.int x2), some (.int (v2 ||| ((1 : Int32) <<< (x2 &&& 31)))), some (.int v4), some (.int v6), some (.int (0 : Int32)), some (.int (x2 + (1 : Int32)))] G dX7_learned_98 (Nat.le_of_ble_eq_true rfl) rfl rfl ?_
            refine v_mask [true, false, false, true, false, true, false, true] rfl ?_
            refine e_X7_learned_L100 G (Nat.zero_le _) (Nat.zero_le _) _ _ _ (fun v78 h => ?_) FU _ _ h
            refine v_iload G dX7_learned_150 rfl ?_
            refine v_iconst G (5 : Int32) dX7_learned_152 (by decide) ?_
            refine v_ic_ne 172 G dX7_learned_153 (by decide) (fun q79 => ?_) (fun q79 => ?_)
            · rw [if_neg q79] at h
              refine v_iload_n G dX7_learned_172 rfl ?_
              cases h
              exact v_iret G F dX7_learned_173 rfl (Nat.le_refl _)
            · rw [if_pos q79] at h
              refine v_iload_n G dX7_learned_156 rfl ?_
              obtain ⟨v81, q80, h⟩ := bi_ h
              refine v_callS0 (e_X7_bits q80) G my_X7_bits w1063 w1062 dX7_learned_157 rfl (Nat.le_of_ble_eq_true rfl) rfl (Nat.le_of_ble_eq_true rfl) (Nat.zero_le _) (Nat.zero_le _) ?_
              refine v_iconst G (4 : Int32) dX7_learned_160 (by decide) ?_
              refine v_ic_le 172 G dX7_learned_161 (by decide) (fun q82 => ?_) (fun q82 => ?_)
              · rw [if_pos q82] at h
                refine v_iload_n G dX7_learned_172 rfl ?_
                cases h
                exact v_iret G F dX7_learned_173 rfl (Nat.le_refl _)
              · rw [if_neg q82] at h
                refine v_iload_n G dX7_learned_164 rfl ?_
                refine v_iload_n G dX7_learned_165 rfl ?_
                refine v_iconst G (1 : Int32) dX7_learned_166 (by decide) ?_
                refine v_isub G dX7_learned_167 ?_
                refine v_iand G dX7_learned_168 ?_
                refine v_goto 173 G dX7_learned_169 (by decide) ?_
                cases h
                exact v_iret G F dX7_learned_173 rfl (Nat.le_refl _)
        · rw [if_neg q71] at h
          refine v_iconst G (1 : Int32) dX7_learned_52 (by decide) ?_
          refine v_goto 78 G dX7_learned_53 (by decide) ?_
          refine v_istore [some (.ref x0), some (.int x1), some (.int x2), some (.int v2), some (.int v4), some (.int v6), some (.int (1 : Int32)), none] G dX7_learned_78 (Nat.le_of_ble_eq_true rfl) rfl rfl ?_
          refine v_iload_n G dX7_learned_80 rfl ?_
          refine v_iload G dX7_learned_81 rfl ?_
          refine v_if_eq 92 G dX7_learned_83 (by decide) (fun q83 => ?_) (fun q83 => ?_)
          · rw [if_pos q83] at h
            refine v_iconst G (0 : Int32) dX7_learned_92 (by decide) ?_
            refine v_ior G dX7_learned_93 ?_
            refine v_istore_n [some (.ref x0), some (.int x1), some (.int x2), some (.int (v2 ||| (0 : Int32))), some (.int v4), some (.int v6), some (.int (1 : Int32)), none] G dX7_learned_94 (Nat.le_of_ble_eq_true rfl) rfl rfl ?_
            refine v_iload_n G dX7_learned_95 rfl ?_
            refine v_iconst G (1 : Int32) dX7_learned_96 (by decide) ?_
            refine v_iadd G dX7_learned_97 ?_
            refine v_istore [some (.ref x0), some (.int x1), some (.int x2), some (.int (v2 ||| (0 : Int32))), some (.int v4), some (.int v6), some (.int (1 : Int32)), some (.int (x2 + (1 : Int32)))] G dX7_learned_98 (Nat.le_of_ble_eq_true rfl) rfl rfl ?_
            refine v_mask [true, false, false, true, false, true, false, true] rfl ?_
            refine e_X7_learned_L100 G (Nat.zero_le _) (Nat.zero_le _) _ _ _ (fun v84 h => ?_) FU _ _ h
            refine v_iload G dX7_learned_150 rfl ?_
            refine v_iconst G (5 : Int32) dX7_learned_152 (by decide) ?_
            refine v_ic_ne 172 G dX7_learned_153 (by decide) (fun q85 => ?_) (fun q85 => ?_)
            · rw [if_neg q85] at h
              refine v_iload_n G dX7_learned_172 rfl ?_
              cases h
              exact v_iret G F dX7_learned_173 rfl (Nat.le_refl _)
            · rw [if_pos q85] at h
              refine v_iload_n G dX7_learned_156 rfl ?_
              obtain ⟨v87, q86, h⟩ := bi_ h
              refine v_callS0 (e_X7_bits q86) G my_X7_bits w1063 w1062 dX7_learned_157 rfl (Nat.le_of_ble_eq_true rfl) rfl (Nat.le_of_ble_eq_true rfl) (Nat.zero_le _) (Nat.zero_le _) ?_
              refine v_iconst G (4 : Int32) dX7_learned_160 (by decide) ?_
              refine v_ic_le 172 G dX7_learned_161 (by decide) (fun q88 => ?_) (fun q88 => ?_)
              · rw [if_pos q88] at h
                refine v_iload_n G dX7_learned_172 rfl ?_
                cases h
                exact v_iret G F dX7_learned_173 rfl (Nat.le_refl _)
              · rw [if_neg q88] at h
                refine v_iload_n G dX7_learned_164 rfl ?_
                refine v_iload_n G dX7_learned_165 rfl ?_
                refine v_iconst G (1 : Int32) dX7_learned_166 (by decide) ?_
                refine v_isub G dX7_learned_167 ?_
                refine v_iand G dX7_learned_168 ?_
                refine v_goto 173 G dX7_learned_169 (by decide) ?_
                cases h
                exact v_iret G F dX7_learned_173 rfl (Nat.le_refl _)
          · rw [if_neg q83] at h
            refine v_iconst G (1 : Int32) dX7_learned_86 (by decide) ?_
            refine v_iload_n G dX7_learned_87 rfl ?_
            refine v_ishl G dX7_learned_88 ?_
            refine v_goto 93 G dX7_learned_89 (by decide) ?_
            refine v_ior G dX7_learned_93 ?_
            refine v_istore_n [some (.ref x0), some (.int x1), some (.int x2), some (.int (v2 ||| ((1 : Int32) <<< (x2 &&& 31)))), some (.int v4), some (.int v6), some (.int (1 : Int32)), none] G dX7_learned_94 (Nat.le_of_ble_eq_true rfl) rfl rfl ?_
            refine v_iload_n G dX7_learned_95 rfl ?_
            refine v_iconst G (1 : Int32) dX7_learned_96 (by decide) ?_
            refine v_iadd G dX7_learned_97 ?_
            refine v_istore [some (.ref x0), some (.int x1), some (.int x2), some (.int (v2 ||| ((1 : Int32) <<< (x2 &&& 31)))), some (.int v4), some (.int v6), some (.int (1 : Int32)), some (.int (x2 + (1 : Int32)))] G dX7_learned_98 (Nat.le_of_ble_eq_true rfl) rfl rfl ?_
            refine v_mask [true, false, false, true, false, true, false, true] rfl ?_
            refine e_X7_learned_L100 G (Nat.zero_le _) (Nat.zero_le _) _ _ _ (fun v89 h => ?_) FU _ _ h
            refine v_iload G dX7_learned_150 rfl ?_
            refine v_iconst G (5 : Int32) dX7_learned_152 (by decide) ?_
            refine v_ic_ne 172 G dX7_learned_153 (by decide) (fun q90 => ?_) (fun q90 => ?_)
            · rw [if_neg q90] at h
              refine v_iload_n G dX7_learned_172 rfl ?_
              cases h
              exact v_iret G F dX7_learned_173 rfl (Nat.le_refl _)
            · rw [if_pos q90] at h
              refine v_iload_n G dX7_learned_156 rfl ?_
              obtain ⟨v92, q91, h⟩ := bi_ h
              refine v_callS0 (e_X7_bits q91) G my_X7_bits w1063 w1062 dX7_learned_157 rfl (Nat.le_of_ble_eq_true rfl) rfl (Nat.le_of_ble_eq_true rfl) (Nat.zero_le _) (Nat.zero_le _) ?_
              refine v_iconst G (4 : Int32) dX7_learned_160 (by decide) ?_
              refine v_ic_le 172 G dX7_learned_161 (by decide) (fun q93 => ?_) (fun q93 => ?_)
              · rw [if_pos q93] at h
                refine v_iload_n G dX7_learned_172 rfl ?_
                cases h
                exact v_iret G F dX7_learned_173 rfl (Nat.le_refl _)
              · rw [if_neg q93] at h
                refine v_iload_n G dX7_learned_164 rfl ?_
                refine v_iload_n G dX7_learned_165 rfl ?_
                refine v_iconst G (1 : Int32) dX7_learned_166 (by decide) ?_
                refine v_isub G dX7_learned_167 ?_
                refine v_iand G dX7_learned_168 ?_
                refine v_goto 173 G dX7_learned_169 (by decide) ?_
                cases h
                exact v_iret G F dX7_learned_173 rfl (Nat.le_refl _)
/-! X7_dayBy -/
def m_X7_dayBy_L11 {ρ : Type} (k0 : mM → Option ρ) (x0 : Nat) (x1 : Nat) (x2 : Int32) (x3 : Int32) : Nat → mM → Int32 → Option ρ
  | 0, _, _ => none
  | n + 1, M, x4 =>
    (ldI M x1 (0 : Int32)).bind fun v6 =>
    if v6 ≤ x4 then (
      k0 M
    ) else (
      (gR M x0 7 19).bind fun b8 =>
      if x2 = (0 : Int32) then (
        (m_X7_hears M x1 x4).bind fun v14 =>
        if v14 = (0 : Int32) then (
          (stZ M b8 x4 (0 : Int32)).bind fun M16 =>
          m_X7_dayBy_L11 k0 x0 x1 x2 x3 n M16 (x4 + (1 : Int32))
        ) else (
          (stZ M b8 x4 (1 : Int32)).bind fun M18 =>
          m_X7_dayBy_L11 k0 x0 x1 x2 x3 n M18 (x4 + (1 : Int32))
        )
      ) else (
        (stZ M b8 x4 (0 : Int32)).bind fun M11 =>
        m_X7_dayBy_L11 k0 x0 x1 x2 x3 n M11 (x4 + (1 : Int32))
      )
    )
theorem e_X7_dayBy_L11 {X : xX} {Z : zZ} {cn sn : Nat} {ρ : Type} {r : ρ} {k0 : mM → Option ρ} (G : ok_ X Z yX7_dayBy cX7_dayBy 6 3 0 0) (hcn : cn ≤ 0) (hsn : sn ≤ 0) (x0 : Nat) (x1 : Nat) (x2 : Int32) (x3 : Int32)
    (hx0 : ∀ (N : mM), k0 N = some r → V X Z N cn sn 50 [some (.ref x0), some (.ref x1), none, some (.int x3), none, none] []) :
    ∀ (n : Nat) (M : mM) (x4 : Int32), m_X7_dayBy_L11 k0 x0 x1 x2 x3 n M x4 = some r → V X Z M cn sn 11 [some (.ref x0), some (.ref x1), some (.int x2), some (.int x3), some (.int x4), none] [] := by
  intro n
  induction n with
  | zero => intro M x4 h; rw [m_X7_dayBy_L11] at h; cases h
  | succ n ih =>
    intro M x4 h
    rw [m_X7_dayBy_L11] at h
    refine v_iload G dX7_dayBy_11 rfl ?_
    refine v_aload_n G dX7_dayBy_13 rfl ?_
    refine v_iconst G (0 : Int32) dX7_dayBy_14 (by decide) ?_
    obtain ⟨v6, q5, h⟩ := bi_ h
    refine v_iald G dX7_dayBy_15 q5 ?_
    refine v_ic_ge 50 G dX7_dayBy_16 (by decide) (fun q7 => ?_) (fun q7 => ?_)
    · rw [if_pos q7] at h
      exact v_mask [true, true, false, true, false, false] rfl (hx0 _ h)
    · rw [if_neg q7] at h
      refine v_aload_n G dX7_dayBy_19 rfl ?_
      obtain ⟨b8, q9, h⟩ := bi_ h
      refine v_getR (f := 19) G cl7 dX7_dayBy_20 w858 (by decide) (by decide) q9 ?_
      refine v_iload G dX7_dayBy_23 rfl ?_
      refine v_iload_n G dX7_dayBy_25 rfl ?_
      refine v_if_ne 42 G dX7_dayBy_26 (by decide) (fun q10 => ?_) (fun q10 => ?_)
      · rw [if_neg q10] at h
        refine v_iconst G (0 : Int32) dX7_dayBy_42 (by decide) ?_
        obtain ⟨M11, q12, h⟩ := bi_ h
        refine v_zast G dX7_dayBy_43 q12 ?_
        refine v_iinc (x4 + (1 : Int32)) [some (.ref x0), some (.ref x1), some (.int x2), some (.int x3), some (.int (x4 + (1 : Int32))), none] G dX7_dayBy_44 rfl rfl (Nat.le_of_ble_eq_true rfl) rfl rfl ?_
        refine v_goto 11 G dX7_dayBy_47 (by decide) ?_
        exact v_mask [true, true, true, true, true, false] rfl (ih _ _ h)
      · rw [if_pos q10] at h
        refine v_aload_n G dX7_dayBy_29 rfl ?_
        refine v_iload G dX7_dayBy_30 rfl ?_
        obtain ⟨v14, q13, h⟩ := bi_ h
        refine v_callS0 (e_X7_hears q13) G my_X7_hears w1042 w1041 dX7_dayBy_32 rfl (Nat.le_of_ble_eq_true rfl) rfl (Nat.le_of_ble_eq_true rfl) hcn hsn ?_
        refine v_if_eq 42 G dX7_dayBy_35 (by decide) (fun q15 => ?_) (fun q15 => ?_)
        · rw [if_pos q15] at h
          refine v_iconst G (0 : Int32) dX7_dayBy_42 (by decide) ?_
          obtain ⟨M16, q17, h⟩ := bi_ h
          refine v_zast G dX7_dayBy_43 q17 ?_
          refine v_iinc (x4 + (1 : Int32)) [some (.ref x0), some (.ref x1), some (.int x2), some (.int x3), some (.int (x4 + (1 : Int32))), none] G dX7_dayBy_44 rfl rfl (Nat.le_of_ble_eq_true rfl) rfl rfl ?_
          refine v_goto 11 G dX7_dayBy_47 (by decide) ?_
          exact v_mask [true, true, true, true, true, false] rfl (ih _ _ h)
        · rw [if_neg q15] at h
          refine v_iconst G (1 : Int32) dX7_dayBy_38 (by decide) ?_
          refine v_goto 43 G dX7_dayBy_39 (by decide) ?_
          obtain ⟨M18, q19, h⟩ := bi_ h
          refine v_zast G dX7_dayBy_43 q19 ?_
          refine v_iinc (x4 + (1 : Int32)) [some (.ref x0), some (.ref x1), some (.int x2), some (.int x3), some (.int (x4 + (1 : Int32))), none] G dX7_dayBy_44 rfl rfl (Nat.le_of_ble_eq_true rfl) rfl rfl ?_
          refine v_goto 11 G dX7_dayBy_47 (by decide) ?_
          exact v_mask [true, true, true, true, true, false] rfl (ih _ _ h)
def m_X7_dayBy_L53 {ρ : Type} (k0 : mM → Option ρ) (x0 : Nat) (x1 : Nat) (x3 : Int32) : Nat → mM → Int32 → Option ρ
  | 0, _, _ => none
  | n + 1, M, x4 =>
    (ldI M x1 (0 : Int32)).bind fun v22 =>
    if v22 ≤ x4 then (
      k0 M
    ) else (
      (gR M x0 7 19).bind fun b24 =>
      (ldZ M b24 x4).bind fun v27 =>
      if v27 = (0 : Int32) then (
        m_X7_dayBy_L53 k0 x0 x1 x3 n M (x4 + (1 : Int32))
      ) else (
        (m_X7_of M x1 x4 ((3 : Int32) + x3)).bind fun v30 =>
        if (99 : Int32) ≤ v30 then (
          (m_X7_be M x1 x4 ((3 : Int32) + x3) (99 : Int32)).bind fun M33 =>
          (m_X7_learned M33 x1 x4 x3).bind fun v35 =>
          (m_X7_be M33 x1 x4 (2 : Int32) v35).bind fun M37 =>
          m_X7_dayBy_L53 k0 x0 x1 x3 n M37 (x4 + (1 : Int32))
        ) else (
          (m_X7_be M x1 x4 ((3 : Int32) + x3) (v30 + (1 : Int32))).bind fun M39 =>
          (m_X7_learned M39 x1 x4 x3).bind fun v41 =>
          (m_X7_be M39 x1 x4 (2 : Int32) v41).bind fun M43 =>
          m_X7_dayBy_L53 k0 x0 x1 x3 n M43 (x4 + (1 : Int32))
        )
      )
    )
theorem e_X7_dayBy_L53 {X : xX} {Z : zZ} {cn sn : Nat} {ρ : Type} {r : ρ} {k0 : mM → Option ρ} (G : ok_ X Z yX7_dayBy cX7_dayBy 6 3 0 0) (hcn : cn ≤ 0) (hsn : sn ≤ 0) (x0 : Nat) (x1 : Nat) (x3 : Int32)
    (hx0 : ∀ (N : mM), k0 N = some r → V X Z N cn sn 127 [none, some (.ref x1), none, none, none, none] []) :
    ∀ (n : Nat) (M : mM) (x4 : Int32), m_X7_dayBy_L53 k0 x0 x1 x3 n M x4 = some r → V X Z M cn sn 53 [some (.ref x0), some (.ref x1), none, some (.int x3), some (.int x4), none] [] := by
  intro n
  induction n with
  | zero => intro M x4 h; rw [m_X7_dayBy_L53] at h; cases h
  | succ n ih =>
    intro M x4 h
    rw [m_X7_dayBy_L53] at h
    refine v_iload G dX7_dayBy_53 rfl ?_
    refine v_aload_n G dX7_dayBy_55 rfl ?_
    refine v_iconst G (0 : Int32) dX7_dayBy_56 (by decide) ?_
    obtain ⟨v22, q21, h⟩ := bi_ h
    refine v_iald G dX7_dayBy_57 q21 ?_
    refine v_ic_ge 127 G dX7_dayBy_58 (by decide) (fun q23 => ?_) (fun q23 => ?_)
    · rw [if_pos q23] at h
      exact v_mask [false, true, false, false, false, false] rfl (hx0 _ h)
    · rw [if_neg q23] at h
      refine v_aload_n G dX7_dayBy_61 rfl ?_
      obtain ⟨b24, q25, h⟩ := bi_ h
      refine v_getR (f := 19) G cl7 dX7_dayBy_62 w858 (by decide) (by decide) q25 ?_
      refine v_iload G dX7_dayBy_65 rfl ?_
      obtain ⟨v27, q26, h⟩ := bi_ h
      refine v_zald G dX7_dayBy_67 q26 ?_
      refine v_if_eq 121 G dX7_dayBy_68 (by decide) (fun q28 => ?_) (fun q28 => ?_)
      · rw [if_pos q28] at h
        refine v_iinc (x4 + (1 : Int32)) [some (.ref x0), some (.ref x1), none, some (.int x3), some (.int (x4 + (1 : Int32))), none] G dX7_dayBy_121 rfl rfl (Nat.le_of_ble_eq_true rfl) rfl rfl ?_
        refine v_goto 53 G dX7_dayBy_124 (by decide) ?_
        exact v_mask [true, true, false, true, true, false] rfl (ih _ _ h)
      · rw [if_neg q28] at h
        refine v_aload_n G dX7_dayBy_71 rfl ?_
        refine v_iload G dX7_dayBy_72 rfl ?_
        refine v_iconst G (3 : Int32) dX7_dayBy_74 (by decide) ?_
        refine v_iload_n G dX7_dayBy_75 rfl ?_
        refine v_iadd G dX7_dayBy_76 ?_
        obtain ⟨v30, q29, h⟩ := bi_ h
        refine v_callS0 (e_X7_of q29) G my_X7_of w1045 w1044 dX7_dayBy_77 rfl (Nat.le_of_ble_eq_true rfl) rfl (Nat.le_of_ble_eq_true rfl) hcn hsn ?_
        refine v_istore [some (.ref x0), some (.ref x1), none, some (.int x3), some (.int x4), some (.int v30)] G dX7_dayBy_80 (Nat.le_of_ble_eq_true rfl) rfl rfl ?_
        refine v_aload_n G dX7_dayBy_82 rfl ?_
        refine v_iload G dX7_dayBy_83 rfl ?_
        refine v_iconst G (3 : Int32) dX7_dayBy_85 (by decide) ?_
        refine v_iload_n G dX7_dayBy_86 rfl ?_
        refine v_iadd G dX7_dayBy_87 ?_
        refine v_iload G dX7_dayBy_88 rfl ?_
        refine v_bipush G (99 : Int32) dX7_dayBy_90 (by decide) ?_
        refine v_ic_ge 102 G dX7_dayBy_92 (by decide) (fun q31 => ?_) (fun q31 => ?_)
        · rw [if_pos q31] at h
          refine v_bipush G (99 : Int32) dX7_dayBy_102 (by decide) ?_
          obtain ⟨M33, q32, h⟩ := bi_ h
          refine v_callS0 (e_X7_be q32) G my_X7_be w1054 w1053 dX7_dayBy_104 rfl (Nat.le_of_ble_eq_true rfl) rfl (Nat.le_of_ble_eq_true rfl) hcn hsn ?_
          refine v_aload_n G dX7_dayBy_107 rfl ?_
          refine v_iload G dX7_dayBy_108 rfl ?_
          refine v_iconst G (2 : Int32) dX7_dayBy_110 (by decide) ?_
          refine v_aload_n G dX7_dayBy_111 rfl ?_
          refine v_iload G dX7_dayBy_112 rfl ?_
          refine v_iload_n G dX7_dayBy_114 rfl ?_
          obtain ⟨v35, q34, h⟩ := bi_ h
          refine v_callS0 (e_X7_learned q34) G my_X7_learned w1057 w1056 dX7_dayBy_115 rfl (Nat.le_of_ble_eq_true rfl) rfl (Nat.le_of_ble_eq_true rfl) hcn hsn ?_
          obtain ⟨M37, q36, h⟩ := bi_ h
          refine v_callS0 (e_X7_be q36) G my_X7_be w1054 w1053 dX7_dayBy_118 rfl (Nat.le_of_ble_eq_true rfl) rfl (Nat.le_of_ble_eq_true rfl) hcn hsn ?_
          refine v_iinc (x4 + (1 : Int32)) [some (.ref x0), some (.ref x1), none, some (.int x3), some (.int (x4 + (1 : Int32))), some (.int v30)] G dX7_dayBy_121 rfl rfl (Nat.le_of_ble_eq_true rfl) rfl rfl ?_
          refine v_goto 53 G dX7_dayBy_124 (by decide) ?_
          exact v_mask [true, true, false, true, true, false] rfl (ih _ _ h)
        · rw [if_neg q31] at h
          refine v_iload G dX7_dayBy_95 rfl ?_
          refine v_iconst G (1 : Int32) dX7_dayBy_97 (by decide) ?_
          refine v_iadd G dX7_dayBy_98 ?_
          refine v_goto 104 G dX7_dayBy_99 (by decide) ?_
          obtain ⟨M39, q38, h⟩ := bi_ h
          refine v_callS0 (e_X7_be q38) G my_X7_be w1054 w1053 dX7_dayBy_104 rfl (Nat.le_of_ble_eq_true rfl) rfl (Nat.le_of_ble_eq_true rfl) hcn hsn ?_
          refine v_aload_n G dX7_dayBy_107 rfl ?_
          refine v_iload G dX7_dayBy_108 rfl ?_
          refine v_iconst G (2 : Int32) dX7_dayBy_110 (by decide) ?_
          refine v_aload_n G dX7_dayBy_111 rfl ?_
          refine v_iload G dX7_dayBy_112 rfl ?_
          refine v_iload_n G dX7_dayBy_114 rfl ?_
          obtain ⟨v41, q40, h⟩ := bi_ h
          refine v_callS0 (e_X7_learned q40) G my_X7_learned w1057 w1056 dX7_dayBy_115 rfl (Nat.le_of_ble_eq_true rfl) rfl (Nat.le_of_ble_eq_true rfl) hcn hsn ?_
          obtain ⟨M43, q42, h⟩ := bi_ h
          refine v_callS0 (e_X7_be q42) G my_X7_be w1054 w1053 dX7_dayBy_118 rfl (Nat.le_of_ble_eq_true rfl) rfl (Nat.le_of_ble_eq_true rfl) hcn hsn ?_
          refine v_iinc (x4 + (1 : Int32)) [some (.ref x0), some (.ref x1), none, some (.int x3), some (.int (x4 + (1 : Int32))), some (.int v30)] G dX7_dayBy_121 rfl rfl (Nat.le_of_ble_eq_true rfl) rfl rfl ?_
          refine v_goto 53 G dX7_dayBy_124 (by decide) ?_
          exact v_mask [true, true, false, true, true, false] rfl (ih _ _ h)
def m_X7_dayBy (M : mM) (x0 : Nat) (x1 : Nat) (x2 : Int32) : Option mM :=
  (ldI M x1 (3 : Int32)).bind fun v2 =>
  (m_X7_subjectOf M x1 v2).bind fun v4 =>
  m_X7_dayBy_L11
    (fun M20 =>
      m_X7_dayBy_L53
        (fun M44 =>
          (ldI M44 x1 (3 : Int32)).bind fun v46 =>
          (stI M44 x1 (3 : Int32) (v46 + (1 : Int32))).bind fun M47 =>
          some M47)
        x0 x1 v4 FU M20 (0 : Int32))
    x0 x1 x2 v4 FU M (0 : Int32)
theorem e_X7_dayBy {Z : zZ} {M : mM} {N : mM} {x0 : Nat} {x1 : Nat} {x2 : Int32} (h : m_X7_dayBy M x0 x1 x2 = some N) : EM Z yX7_dayBy cX7_dayBy 6 none 3 0 0 [.ref x0, .ref x1, .int x2] M N none := by
  refine EM_of my_X7_dayBy (Nat.le_of_ble_eq_true rfl) (fun X G F => ?_)
  show V X Z M 0 0 0 [some (.ref x0), some (.ref x1), some (.int x2), none, none, none] []
  unfold m_X7_dayBy at h
  refine v_aload_n G dX7_dayBy_0 rfl ?_
  refine v_aload_n G dX7_dayBy_1 rfl ?_
  refine v_iconst G (3 : Int32) dX7_dayBy_2 (by decide) ?_
  obtain ⟨v2, q1, h⟩ := bi_ h
  refine v_iald G dX7_dayBy_3 q1 ?_
  obtain ⟨v4, q3, h⟩ := bi_ h
  refine v_callS0 (e_X7_subjectOf q3) G my_X7_subjectOf w1039 w1038 dX7_dayBy_4 rfl (Nat.le_of_ble_eq_true rfl) rfl (Nat.le_of_ble_eq_true rfl) (Nat.zero_le _) (Nat.zero_le _) ?_
  refine v_istore_n [some (.ref x0), some (.ref x1), some (.int x2), some (.int v4), none, none] G dX7_dayBy_7 (Nat.le_of_ble_eq_true rfl) rfl rfl ?_
  refine v_iconst G (0 : Int32) dX7_dayBy_8 (by decide) ?_
  refine v_istore [some (.ref x0), some (.ref x1), some (.int x2), some (.int v4), some (.int (0 : Int32)), none] G dX7_dayBy_9 (Nat.le_of_ble_eq_true rfl) rfl rfl ?_
  refine v_mask [true, true, true, true, true, false] rfl ?_
  refine e_X7_dayBy_L11 G (Nat.zero_le _) (Nat.zero_le _) _ _ _ _ (fun M20 h => ?_) FU _ _ h
  refine v_iconst G (0 : Int32) dX7_dayBy_50 (by decide) ?_
  refine v_istore [some (.ref x0), some (.ref x1), none, some (.int v4), some (.int (0 : Int32)), none] G dX7_dayBy_51 (Nat.le_of_ble_eq_true rfl) rfl rfl ?_
  refine v_mask [true, true, false, true, true, false] rfl ?_
  refine e_X7_dayBy_L53 G (Nat.zero_le _) (Nat.zero_le _) _ _ _ (fun M44 h => ?_) FU _ _ h
  refine v_aload_n G dX7_dayBy_127 rfl ?_
  refine v_iconst G (3 : Int32) dX7_dayBy_128 (by decide) ?_
  refine v_dup2 G dX7_dayBy_129 rfl rfl ?_
  obtain ⟨v46, q45, h⟩ := bi_ h
  refine v_iald G dX7_dayBy_130 q45 ?_
  refine v_iconst G (1 : Int32) dX7_dayBy_131 (by decide) ?_
  refine v_iadd G dX7_dayBy_132 ?_
  obtain ⟨M47, q48, h⟩ := bi_ h
  refine v_iast G dX7_dayBy_133 q48 ?_
  cases h
  exact v_vret G F dX7_dayBy_134 rfl (Nat.le_refl _)
/-! X7_daysOf -/
def m_X7_daysOf_L2 {ρ : Type} (k0 : mM → Option ρ) (x0 : Nat) (x1 : Nat) (x2 : Int32) : Nat → mM → Int32 → Option ρ
  | 0, _, _ => none
  | n + 1, M, x3 =>
    if x2 ≤ x3 then (
      k0 M
    ) else (
      if isO M x0 7 = true then
      (m_X7_dayBy M x0 x1 (0 : Int32)).bind fun M3 =>
      m_X7_daysOf_L2 k0 x0 x1 x2 n M3 (x3 + (1 : Int32))
      else none
    )
theorem e_X7_daysOf_L2 {X : xX} {Z : zZ} {cn sn : Nat} {ρ : Type} {r : ρ} {k0 : mM → Option ρ} (G : ok_ X Z yX7_daysOf cX7_daysOf 4 4 0 0) (hcn : cn ≤ 0) (hsn : sn ≤ 0) (x0 : Nat) (x1 : Nat) (x2 : Int32)
    (hx0 : ∀ (N : mM), k0 N = some r → V X Z N cn sn 19 [none, none, none, none] []) :
    ∀ (n : Nat) (M : mM) (x3 : Int32), m_X7_daysOf_L2 k0 x0 x1 x2 n M x3 = some r → V X Z M cn sn 2 [some (.ref x0), some (.ref x1), some (.int x2), some (.int x3)] [] := by
  intro n
  induction n with
  | zero => intro M x3 h; rw [m_X7_daysOf_L2] at h; cases h
  | succ n ih =>
    intro M x3 h
    rw [m_X7_daysOf_L2] at h
    refine v_iload_n G dX7_daysOf_2 rfl ?_
    refine v_iload_n G dX7_daysOf_3 rfl ?_
    refine v_ic_ge 19 G dX7_daysOf_4 (by decide) (fun q1 => ?_) (fun q1 => ?_)
    · rw [if_pos q1] at h
      exact v_mask [false, false, false, false] rfl (hx0 _ h)
    · rw [if_neg q1] at h
      refine v_aload_n G dX7_daysOf_7 rfl ?_
      refine v_aload_n G dX7_daysOf_8 rfl ?_
      refine v_iconst G (0 : Int32) dX7_daysOf_9 (by decide) ?_
      obtain ⟨q4, h⟩ := if_s h
      obtain ⟨M3, q2, h⟩ := bi_ h
      refine v_callV0 (e_X7_dayBy q2) G cl7 my_X7_dayBy rfl w1036 w40 w1034 dX7_daysOf_10 q4 rfl (Nat.le_of_ble_eq_true rfl) rfl (Nat.le_of_ble_eq_true rfl) hcn hsn ?_
      refine v_iinc (x3 + (1 : Int32)) [some (.ref x0), some (.ref x1), some (.int x2), some (.int (x3 + (1 : Int32)))] G dX7_daysOf_13 rfl rfl (Nat.le_of_ble_eq_true rfl) rfl rfl ?_
      refine v_goto 2 G dX7_daysOf_16 (by decide) ?_
      exact v_mask [true, true, true, true] rfl (ih _ _ h)
def m_X7_daysOf (M : mM) (x0 : Nat) (x1 : Nat) (x2 : Int32) : Option mM :=
  m_X7_daysOf_L2
    (fun M5 =>
      some M5)
    x0 x1 x2 FU M (0 : Int32)
theorem e_X7_daysOf {Z : zZ} {M : mM} {N : mM} {x0 : Nat} {x1 : Nat} {x2 : Int32} (h : m_X7_daysOf M x0 x1 x2 = some N) : EM Z yX7_daysOf cX7_daysOf 4 none 4 0 0 [.ref x0, .ref x1, .int x2] M N none := by
  refine EM_of my_X7_daysOf (Nat.le_of_ble_eq_true rfl) (fun X G F => ?_)
  show V X Z M 0 0 0 [some (.ref x0), some (.ref x1), some (.int x2), none] []
  unfold m_X7_daysOf at h
  refine v_iconst G (0 : Int32) dX7_daysOf_0 (by decide) ?_
  refine v_istore_n [some (.ref x0), some (.ref x1), some (.int x2), some (.int (0 : Int32))] G dX7_daysOf_1 (Nat.le_of_ble_eq_true rfl) rfl rfl ?_
  refine v_mask [true, true, true, true] rfl ?_
  refine e_X7_daysOf_L2 G (Nat.zero_le _) (Nat.zero_le _) _ _ _ (fun M5 h => ?_) FU _ _ h
  cases h
  exact v_vret G F dX7_daysOf_19 rfl (Nat.le_refl _)
/-! X7_known -/
def m_X7_known_L4 {ρ : Type} (k0 : Int32 → Option ρ) (M : mM) (x0 : Nat) : Nat → Int32 → Int32 → Option ρ
  | 0, _, _ => none
  | n + 1, x1, x2 =>
    (ldI M x0 (0 : Int32)).bind fun v2 =>
    if v2 ≤ x2 then (
      k0 x1
    ) else (
      (m_X7_of M x0 x2 (2 : Int32)).bind fun v5 =>
      (m_X7_bits M v5).bind fun v7 =>
      m_X7_known_L4 k0 M x0 n (x1 + v7) (x2 + (1 : Int32))
    )
theorem e_X7_known_L4 {X : xX} {Z : zZ} {cn sn : Nat} {ρ : Type} {r : ρ} {k0 : Int32 → Option ρ} (G : ok_ X Z yX7_known cX7_known 3 1 0 0) (hcn : cn ≤ 0) (hsn : sn ≤ 0) (M : mM) (x0 : Nat)
    (hx0 : ∀ (z1 : Int32), k0 z1 = some r → V X Z M cn sn 29 [none, some (.int z1), none] []) :
    ∀ (n : Nat) (x1 : Int32) (x2 : Int32), m_X7_known_L4 k0 M x0 n x1 x2 = some r → V X Z M cn sn 4 [some (.ref x0), some (.int x1), some (.int x2)] [] := by
  intro n
  induction n with
  | zero => intro x1 x2 h; rw [m_X7_known_L4] at h; cases h
  | succ n ih =>
    intro x1 x2 h
    rw [m_X7_known_L4] at h
    refine v_iload_n G dX7_known_4 rfl ?_
    refine v_aload_n G dX7_known_5 rfl ?_
    refine v_iconst G (0 : Int32) dX7_known_6 (by decide) ?_
    obtain ⟨v2, q1, h⟩ := bi_ h
    refine v_iald G dX7_known_7 q1 ?_
    refine v_ic_ge 29 G dX7_known_8 (by decide) (fun q3 => ?_) (fun q3 => ?_)
    · rw [if_pos q3] at h
      exact v_mask [false, true, false] rfl (hx0 _ h)
    · rw [if_neg q3] at h
      refine v_iload_n G dX7_known_11 rfl ?_
      refine v_aload_n G dX7_known_12 rfl ?_
      refine v_iload_n G dX7_known_13 rfl ?_
      refine v_iconst G (2 : Int32) dX7_known_14 (by decide) ?_
      obtain ⟨v5, q4, h⟩ := bi_ h
      refine v_callS0 (e_X7_of q4) G my_X7_of w1045 w1044 dX7_known_15 rfl (Nat.le_of_ble_eq_true rfl) rfl (Nat.le_of_ble_eq_true rfl) hcn hsn ?_
      obtain ⟨v7, q6, h⟩ := bi_ h
      refine v_callS0 (e_X7_bits q6) G my_X7_bits w1063 w1062 dX7_known_18 rfl (Nat.le_of_ble_eq_true rfl) rfl (Nat.le_of_ble_eq_true rfl) hcn hsn ?_
      refine v_iadd G dX7_known_21 ?_
      refine v_istore_n [some (.ref x0), some (.int (x1 + v7)), some (.int x2)] G dX7_known_22 (Nat.le_of_ble_eq_true rfl) rfl rfl ?_
      refine v_iinc (x2 + (1 : Int32)) [some (.ref x0), some (.int (x1 + v7)), some (.int (x2 + (1 : Int32)))] G dX7_known_23 rfl rfl (Nat.le_of_ble_eq_true rfl) rfl rfl ?_
      refine v_goto 4 G dX7_known_26 (by decide) ?_
      exact v_mask [true, true, true] rfl (ih _ _ h)
def m_X7_known (M : mM) (x0 : Nat) : Option Int32 :=
  m_X7_known_L4
    (fun v8 =>
      some v8)
    M x0 FU (0 : Int32) (0 : Int32)
theorem e_X7_known {Z : zZ} {M : mM} {x0 : Nat} {r : Int32} (h : m_X7_known M x0 = some r) : EM Z yX7_known cX7_known 3 (some .int) 1 0 0 [.ref x0] M M (some (.int r)) := by
  refine EM_of my_X7_known (Nat.le_of_ble_eq_true rfl) (fun X G F => ?_)
  show V X Z M 0 0 0 [some (.ref x0), none, none] []
  unfold m_X7_known at h
  refine v_iconst G (0 : Int32) dX7_known_0 (by decide) ?_
  refine v_istore_n [some (.ref x0), some (.int (0 : Int32)), none] G dX7_known_1 (Nat.le_of_ble_eq_true rfl) rfl rfl ?_
  refine v_iconst G (0 : Int32) dX7_known_2 (by decide) ?_
  refine v_istore_n [some (.ref x0), some (.int (0 : Int32)), some (.int (0 : Int32))] G dX7_known_3 (Nat.le_of_ble_eq_true rfl) rfl rfl ?_
  refine v_mask [true, true, true] rfl ?_
  refine e_X7_known_L4 G (Nat.zero_le _) (Nat.zero_le _) _ _ (fun v8 h => ?_) FU _ _ h
  refine v_iload_n G dX7_known_29 rfl ?_
  cases h
  exact v_iret G F dX7_known_30 rfl (Nat.le_refl _)
/-! X7_knownBy -/
def m_X7_knownBy_L18 {ρ : Type} (k0 : Int32 → Option ρ) (M : mM) (x0 : Nat) (x1 : Int32) : Nat → Int32 → Int32 → Option ρ
  | 0, _, _ => none
  | n + 1, x2, x3 =>
    (ldI M x0 (0 : Int32)).bind fun v3 =>
    if v3 ≤ x3 then (
      k0 x2
    ) else (
      if x1 = (0 : Int32) then (
        (m_X7_of M x0 x3 (2 : Int32)).bind fun v7 =>
        m_X7_knownBy_L18 k0 M x0 x1 n (x2 ||| v7) (x3 + (1 : Int32))
      ) else (
        (m_X7_of M x0 x3 (2 : Int32)).bind fun v9 =>
        m_X7_knownBy_L18 k0 M x0 x1 n (x2 &&& v9) (x3 + (1 : Int32))
      )
    )
theorem e_X7_knownBy_L18 {X : xX} {Z : zZ} {cn sn : Nat} {ρ : Type} {r : ρ} {k0 : Int32 → Option ρ} (G : ok_ X Z yX7_knownBy cX7_knownBy 4 1 0 0) (hcn : cn ≤ 0) (hsn : sn ≤ 0) (M : mM) (x0 : Nat) (x1 : Int32)
    (hx0 : ∀ (z2 : Int32), k0 z2 = some r → V X Z M cn sn 55 [none, none, some (.int z2), none] []) :
    ∀ (n : Nat) (x2 : Int32) (x3 : Int32), m_X7_knownBy_L18 k0 M x0 x1 n x2 x3 = some r → V X Z M cn sn 18 [some (.ref x0), some (.int x1), some (.int x2), some (.int x3)] [] := by
  intro n
  induction n with
  | zero => intro x2 x3 h; rw [m_X7_knownBy_L18] at h; cases h
  | succ n ih =>
    intro x2 x3 h
    rw [m_X7_knownBy_L18] at h
    refine v_iload_n G dX7_knownBy_18 rfl ?_
    refine v_aload_n G dX7_knownBy_19 rfl ?_
    refine v_iconst G (0 : Int32) dX7_knownBy_20 (by decide) ?_
    obtain ⟨v3, q2, h⟩ := bi_ h
    refine v_iald G dX7_knownBy_21 q2 ?_
    refine v_ic_ge 55 G dX7_knownBy_22 (by decide) (fun q4 => ?_) (fun q4 => ?_)
    · rw [if_pos q4] at h
      exact v_mask [false, false, true, false] rfl (hx0 _ h)
    · rw [if_neg q4] at h
      refine v_iload_n G dX7_knownBy_25 rfl ?_
      refine v_if_eq 40 G dX7_knownBy_26 (by decide) (fun q5 => ?_) (fun q5 => ?_)
      · rw [if_pos q5] at h
        refine v_iload_n G dX7_knownBy_40 rfl ?_
        refine v_aload_n G dX7_knownBy_41 rfl ?_
        refine v_iload_n G dX7_knownBy_42 rfl ?_
        refine v_iconst G (2 : Int32) dX7_knownBy_43 (by decide) ?_
        obtain ⟨v7, q6, h⟩ := bi_ h
        refine v_callS0 (e_X7_of q6) G my_X7_of w1045 w1044 dX7_knownBy_44 rfl (Nat.le_of_ble_eq_true rfl) rfl (Nat.le_of_ble_eq_true rfl) hcn hsn ?_
        refine v_ior G dX7_knownBy_47 ?_
        refine v_istore_n [some (.ref x0), some (.int x1), some (.int (x2 ||| v7)), some (.int x3)] G dX7_knownBy_48 (Nat.le_of_ble_eq_true rfl) rfl rfl ?_
        refine v_iinc (x3 + (1 : Int32)) [some (.ref x0), some (.int x1), some (.int (x2 ||| v7)), some (.int (x3 + (1 : Int32)))] G dX7_knownBy_49 rfl rfl (Nat.le_of_ble_eq_true rfl) rfl rfl ?_
        refine v_goto 18 G dX7_knownBy_52 (by decide) ?_
        exact v_mask [true, true, true, true] rfl (ih _ _ h)
      · rw [if_neg q5] at h
        refine v_iload_n G dX7_knownBy_29 rfl ?_
        refine v_aload_n G dX7_knownBy_30 rfl ?_
        refine v_iload_n G dX7_knownBy_31 rfl ?_
        refine v_iconst G (2 : Int32) dX7_knownBy_32 (by decide) ?_
        obtain ⟨v9, q8, h⟩ := bi_ h
        refine v_callS0 (e_X7_of q8) G my_X7_of w1045 w1044 dX7_knownBy_33 rfl (Nat.le_of_ble_eq_true rfl) rfl (Nat.le_of_ble_eq_true rfl) hcn hsn ?_
        refine v_iand G dX7_knownBy_36 ?_
        refine v_goto 48 G dX7_knownBy_37 (by decide) ?_
        refine v_istore_n [some (.ref x0), some (.int x1), some (.int (x2 &&& v9)), some (.int x3)] G dX7_knownBy_48 (Nat.le_of_ble_eq_true rfl) rfl rfl ?_
        refine v_iinc (x3 + (1 : Int32)) [some (.ref x0), some (.int x1), some (.int (x2 &&& v9)), some (.int (x3 + (1 : Int32)))] G dX7_knownBy_49 rfl rfl (Nat.le_of_ble_eq_true rfl) rfl rfl ?_
        refine v_goto 18 G dX7_knownBy_52 (by decide) ?_
        exact v_mask [true, true, true, true] rfl (ih _ _ h)
def m_X7_knownBy (M : mM) (x0 : Nat) (x1 : Int32) : Option Int32 :=
  if x1 = (0 : Int32) then (
    m_X7_knownBy_L18
      (fun v10 =>
        some v10)
      M x0 x1 FU (0 : Int32) (0 : Int32)
  ) else (
    (ldI M x0 (1 : Int32)).bind fun v12 =>
    m_X7_knownBy_L18
      (fun v13 =>
        some v13)
      M x0 x1 FU (((1 : Int32) <<< (v12 &&& 31)) - (1 : Int32)) (0 : Int32)
  )
theorem e_X7_knownBy {Z : zZ} {M : mM} {x0 : Nat} {x1 : Int32} {r : Int32} (h : m_X7_knownBy M x0 x1 = some r) : EM Z yX7_knownBy cX7_knownBy 4 (some .int) 1 0 0 [.ref x0, .int x1] M M (some (.int r)) := by
  refine EM_of my_X7_knownBy (Nat.le_of_ble_eq_true rfl) (fun X G F => ?_)
  show V X Z M 0 0 0 [some (.ref x0), some (.int x1), none, none] []
  unfold m_X7_knownBy at h
  refine v_iload_n G dX7_knownBy_0 rfl ?_
  refine v_if_eq 14 G dX7_knownBy_1 (by decide) (fun q1 => ?_) (fun q1 => ?_)
  · rw [if_pos q1] at h
    refine v_iconst G (0 : Int32) dX7_knownBy_14 (by decide) ?_
    refine v_istore_n [some (.ref x0), some (.int x1), some (.int (0 : Int32)), none] G dX7_knownBy_15 (Nat.le_of_ble_eq_true rfl) rfl rfl ?_
    refine v_iconst G (0 : Int32) dX7_knownBy_16 (by decide) ?_
    refine v_istore_n [some (.ref x0), some (.int x1), some (.int (0 : Int32)), some (.int (0 : Int32))] G dX7_knownBy_17 (Nat.le_of_ble_eq_true rfl) rfl rfl ?_
    refine v_mask [true, true, true, true] rfl ?_
    refine e_X7_knownBy_L18 G (Nat.zero_le _) (Nat.zero_le _) _ _ _ (fun v10 h => ?_) FU _ _ h
    refine v_iload_n G dX7_knownBy_55 rfl ?_
    cases h
    exact v_iret G F dX7_knownBy_56 rfl (Nat.le_refl _)
  · rw [if_neg q1] at h
    refine v_iconst G (1 : Int32) dX7_knownBy_4 (by decide) ?_
    refine v_aload_n G dX7_knownBy_5 rfl ?_
    refine v_iconst G (1 : Int32) dX7_knownBy_6 (by decide) ?_
    obtain ⟨v12, q11, h⟩ := bi_ h
    refine v_iald G dX7_knownBy_7 q11 ?_
    refine v_ishl G dX7_knownBy_8 ?_
    refine v_iconst G (1 : Int32) dX7_knownBy_9 (by decide) ?_
    refine v_isub G dX7_knownBy_10 ?_
    refine v_goto 15 G dX7_knownBy_11 (by decide) ?_
    refine v_istore_n [some (.ref x0), some (.int x1), some (.int (((1 : Int32) <<< (v12 &&& 31)) - (1 : Int32))), none] G dX7_knownBy_15 (Nat.le_of_ble_eq_true rfl) rfl rfl ?_
    refine v_iconst G (0 : Int32) dX7_knownBy_16 (by decide) ?_
    refine v_istore_n [some (.ref x0), some (.int x1), some (.int (((1 : Int32) <<< (v12 &&& 31)) - (1 : Int32))), some (.int (0 : Int32))] G dX7_knownBy_17 (Nat.le_of_ble_eq_true rfl) rfl rfl ?_
    refine v_mask [true, true, true, true] rfl ?_
    refine e_X7_knownBy_L18 G (Nat.zero_le _) (Nat.zero_le _) _ _ _ (fun v13 h => ?_) FU _ _ h
    refine v_iload_n G dX7_knownBy_55 rfl ?_
    cases h
    exact v_iret G F dX7_knownBy_56 rfl (Nat.le_refl _)
/-! X7_exchange -/
def m_X7_exchange (M : mM) (x0 : Nat) (x1 : Int32) (x2 : Int32) : Option mM :=
  (m_X7_of M x0 x1 (1 : Int32)).bind fun v2 =>
  (m_X7_of M x0 x2 (1 : Int32)).bind fun v4 =>
  (m_X7_be M x0 x1 (1 : Int32) v4).bind fun M6 =>
  (m_X7_be M6 x0 x2 (1 : Int32) v2).bind fun M8 =>
  some M8
theorem e_X7_exchange {Z : zZ} {M : mM} {N : mM} {x0 : Nat} {x1 : Int32} {x2 : Int32} (h : m_X7_exchange M x0 x1 x2 = some N) : EM Z yX7_exchange cX7_exchange 4 none 1 0 0 [.ref x0, .int x1, .int x2] M N none := by
  refine EM_of my_X7_exchange (Nat.le_of_ble_eq_true rfl) (fun X G F => ?_)
  show V X Z M 0 0 0 [some (.ref x0), some (.int x1), some (.int x2), none] []
  unfold m_X7_exchange at h
  refine v_aload_n G dX7_exchange_0 rfl ?_
  refine v_iload_n G dX7_exchange_1 rfl ?_
  refine v_iconst G (1 : Int32) dX7_exchange_2 (by decide) ?_
  obtain ⟨v2, q1, h⟩ := bi_ h
  refine v_callS0 (e_X7_of q1) G my_X7_of w1045 w1044 dX7_exchange_3 rfl (Nat.le_of_ble_eq_true rfl) rfl (Nat.le_of_ble_eq_true rfl) (Nat.zero_le _) (Nat.zero_le _) ?_
  refine v_istore_n [some (.ref x0), some (.int x1), some (.int x2), some (.int v2)] G dX7_exchange_6 (Nat.le_of_ble_eq_true rfl) rfl rfl ?_
  refine v_aload_n G dX7_exchange_7 rfl ?_
  refine v_iload_n G dX7_exchange_8 rfl ?_
  refine v_iconst G (1 : Int32) dX7_exchange_9 (by decide) ?_
  refine v_aload_n G dX7_exchange_10 rfl ?_
  refine v_iload_n G dX7_exchange_11 rfl ?_
  refine v_iconst G (1 : Int32) dX7_exchange_12 (by decide) ?_
  obtain ⟨v4, q3, h⟩ := bi_ h
  refine v_callS0 (e_X7_of q3) G my_X7_of w1045 w1044 dX7_exchange_13 rfl (Nat.le_of_ble_eq_true rfl) rfl (Nat.le_of_ble_eq_true rfl) (Nat.zero_le _) (Nat.zero_le _) ?_
  obtain ⟨M6, q5, h⟩ := bi_ h
  refine v_callS0 (e_X7_be q5) G my_X7_be w1054 w1053 dX7_exchange_16 rfl (Nat.le_of_ble_eq_true rfl) rfl (Nat.le_of_ble_eq_true rfl) (Nat.zero_le _) (Nat.zero_le _) ?_
  refine v_aload_n G dX7_exchange_19 rfl ?_
  refine v_iload_n G dX7_exchange_20 rfl ?_
  refine v_iconst G (1 : Int32) dX7_exchange_21 (by decide) ?_
  refine v_iload_n G dX7_exchange_22 rfl ?_
  obtain ⟨M8, q7, h⟩ := bi_ h
  refine v_callS0 (e_X7_be q7) G my_X7_be w1054 w1053 dX7_exchange_23 rfl (Nat.le_of_ble_eq_true rfl) rfl (Nat.le_of_ble_eq_true rfl) (Nat.zero_le _) (Nat.zero_le _) ?_
  cases h
  exact v_vret G F dX7_exchange_26 rfl (Nat.le_refl _)
/-! X7_layThen -/
def m_X7_layThen_L2 {ρ : Type} (k0 : mM → Option ρ) (x0 : Nat) : Nat → mM → Int32 → Option ρ
  | 0, _, _ => none
  | n + 1, M, x1 =>
    if (73 : Int32) ≤ x1 then (
      k0 M
    ) else (
      (gR M x0 7 7).bind fun b2 =>
      (gR M x0 7 5).bind fun b4 =>
      (ldI M b4 x1).bind fun v7 =>
      (stI M b2 x1 v7).bind fun M8 =>
      m_X7_layThen_L2 k0 x0 n M8 (x1 + (1 : Int32))
    )
theorem e_X7_layThen_L2 {X : xX} {Z : zZ} {cn sn : Nat} {ρ : Type} {r : ρ} {k0 : mM → Option ρ} (G : ok_ X Z yX7_layThen cX7_layThen 2 0 0 0) (hcn : cn ≤ 0) (hsn : sn ≤ 0) (x0 : Nat)
    (hx0 : ∀ (N : mM), k0 N = some r → V X Z N cn sn 26 [none, none] []) :
    ∀ (n : Nat) (M : mM) (x1 : Int32), m_X7_layThen_L2 k0 x0 n M x1 = some r → V X Z M cn sn 2 [some (.ref x0), some (.int x1)] [] := by
  intro n
  induction n with
  | zero => intro M x1 h; rw [m_X7_layThen_L2] at h; cases h
  | succ n ih =>
    intro M x1 h
    rw [m_X7_layThen_L2] at h
    refine v_iload_n G dX7_layThen_2 rfl ?_
    refine v_bipush G (73 : Int32) dX7_layThen_3 (by decide) ?_
    refine v_ic_ge 26 G dX7_layThen_5 (by decide) (fun q1 => ?_) (fun q1 => ?_)
    · rw [if_pos q1] at h
      exact v_mask [false, false] rfl (hx0 _ h)
    · rw [if_neg q1] at h
      refine v_aload_n G dX7_layThen_8 rfl ?_
      obtain ⟨b2, q3, h⟩ := bi_ h
      refine v_getR (f := 7) G cl7 dX7_layThen_9 w846 (by decide) (by decide) q3 ?_
      refine v_iload_n G dX7_layThen_12 rfl ?_
      refine v_aload_n G dX7_layThen_13 rfl ?_
      obtain ⟨b4, q5, h⟩ := bi_ h
      refine v_getR (f := 5) G cl7 dX7_layThen_14 w844 (by decide) (by decide) q5 ?_
      refine v_iload_n G dX7_layThen_17 rfl ?_
      obtain ⟨v7, q6, h⟩ := bi_ h
      refine v_iald G dX7_layThen_18 q6 ?_
      obtain ⟨M8, q9, h⟩ := bi_ h
      refine v_iast G dX7_layThen_19 q9 ?_
      refine v_iinc (x1 + (1 : Int32)) [some (.ref x0), some (.int (x1 + (1 : Int32)))] G dX7_layThen_20 rfl rfl (Nat.le_of_ble_eq_true rfl) rfl rfl ?_
      refine v_goto 2 G dX7_layThen_23 (by decide) ?_
      exact v_mask [true, true] rfl (ih _ _ h)
def m_X7_layThen (M : mM) (x0 : Nat) : Option mM :=
  m_X7_layThen_L2
    (fun M10 =>
      some M10)
    x0 FU M (0 : Int32)
theorem e_X7_layThen {Z : zZ} {M : mM} {N : mM} {x0 : Nat} (h : m_X7_layThen M x0 = some N) : EM Z yX7_layThen cX7_layThen 2 none 0 0 0 [.ref x0] M N none := by
  refine EM_of my_X7_layThen (Nat.le_of_ble_eq_true rfl) (fun X G F => ?_)
  show V X Z M 0 0 0 [some (.ref x0), none] []
  unfold m_X7_layThen at h
  refine v_iconst G (0 : Int32) dX7_layThen_0 (by decide) ?_
  refine v_istore_n [some (.ref x0), some (.int (0 : Int32))] G dX7_layThen_1 (Nat.le_of_ble_eq_true rfl) rfl rfl ?_
  refine v_mask [true, true] rfl ?_
  refine e_X7_layThen_L2 G (Nat.zero_le _) (Nat.zero_le _) _ (fun M10 h => ?_) FU _ _ h
  cases h
  exact v_vret G F dX7_layThen_26 rfl (Nat.le_refl _)
/-! X7_keep -/
def m_X7_keep_L51 {ρ : Type} (k0 : mM → Option ρ) (x0 : Nat) : Nat → mM → Int32 → Option ρ
  | 0, _, _ => none
  | n + 1, M, x1 =>
    if (73 : Int32) ≤ x1 then (
      k0 M
    ) else (
      (gR M x0 7 8).bind fun b5 =>
      (gI M x0 7 9).bind fun v7 =>
      (gR M x0 7 5).bind fun b9 =>
      (ldI M b9 x1).bind fun v12 =>
      (stI M b5 (((73 : Int32) * v7) + x1) v12).bind fun M13 =>
      m_X7_keep_L51 k0 x0 n M13 (x1 + (1 : Int32))
    )
theorem e_X7_keep_L51 {X : xX} {Z : zZ} {cn sn : Nat} {ρ : Type} {r : ρ} {k0 : mM → Option ρ} (G : ok_ X Z yX7_keep cX7_keep 2 0 0 0) (hcn : cn ≤ 0) (hsn : sn ≤ 0) (x0 : Nat)
    (hx0 : ∀ (N : mM), k0 N = some r → V X Z N cn sn 83 [some (.ref x0), none] []) :
    ∀ (n : Nat) (M : mM) (x1 : Int32), m_X7_keep_L51 k0 x0 n M x1 = some r → V X Z M cn sn 51 [some (.ref x0), some (.int x1)] [] := by
  intro n
  induction n with
  | zero => intro M x1 h; rw [m_X7_keep_L51] at h; cases h
  | succ n ih =>
    intro M x1 h
    rw [m_X7_keep_L51] at h
    refine v_iload_n G dX7_keep_51 rfl ?_
    refine v_bipush G (73 : Int32) dX7_keep_52 (by decide) ?_
    refine v_ic_ge 83 G dX7_keep_54 (by decide) (fun q4 => ?_) (fun q4 => ?_)
    · rw [if_pos q4] at h
      exact v_mask [true, false] rfl (hx0 _ h)
    · rw [if_neg q4] at h
      refine v_aload_n G dX7_keep_57 rfl ?_
      obtain ⟨b5, q6, h⟩ := bi_ h
      refine v_getR (f := 8) G cl7 dX7_keep_58 w847 (by decide) (by decide) q6 ?_
      refine v_bipush G (73 : Int32) dX7_keep_61 (by decide) ?_
      refine v_aload_n G dX7_keep_63 rfl ?_
      obtain ⟨v7, q8, h⟩ := bi_ h
      refine v_getI (f := 9) G cl7 dX7_keep_64 w848 (by decide) (by decide) q8 ?_
      refine v_imul G dX7_keep_67 ?_
      refine v_iload_n G dX7_keep_68 rfl ?_
      refine v_iadd G dX7_keep_69 ?_
      refine v_aload_n G dX7_keep_70 rfl ?_
      obtain ⟨b9, q10, h⟩ := bi_ h
      refine v_getR (f := 5) G cl7 dX7_keep_71 w844 (by decide) (by decide) q10 ?_
      refine v_iload_n G dX7_keep_74 rfl ?_
      obtain ⟨v12, q11, h⟩ := bi_ h
      refine v_iald G dX7_keep_75 q11 ?_
      obtain ⟨M13, q14, h⟩ := bi_ h
      refine v_iast G dX7_keep_76 q14 ?_
      refine v_iinc (x1 + (1 : Int32)) [some (.ref x0), some (.int (x1 + (1 : Int32)))] G dX7_keep_77 rfl rfl (Nat.le_of_ble_eq_true rfl) rfl rfl ?_
      refine v_goto 51 G dX7_keep_80 (by decide) ?_
      exact v_mask [true, true] rfl (ih _ _ h)
def m_X7_keep_L11 {ρ : Type} (k0 : mM → Option ρ) (x0 : Nat) : Nat → mM → Int32 → Option ρ
  | 0, _, _ => none
  | n + 1, M, x1 =>
    if (1679 : Int32) ≤ x1 then (
      k0 M
    ) else (
      (gR M x0 7 8).bind fun b21 =>
      (gR M x0 7 8).bind fun b23 =>
      (ldI M b23 (x1 + (73 : Int32))).bind fun v26 =>
      (stI M b21 x1 v26).bind fun M27 =>
      m_X7_keep_L11 k0 x0 n M27 (x1 + (1 : Int32))
    )
theorem e_X7_keep_L11 {X : xX} {Z : zZ} {cn sn : Nat} {ρ : Type} {r : ρ} {k0 : mM → Option ρ} (G : ok_ X Z yX7_keep cX7_keep 2 0 0 0) (hcn : cn ≤ 0) (hsn : sn ≤ 0) (x0 : Nat)
    (hx0 : ∀ (N : mM), k0 N = some r → V X Z N cn sn 39 [some (.ref x0), none] []) :
    ∀ (n : Nat) (M : mM) (x1 : Int32), m_X7_keep_L11 k0 x0 n M x1 = some r → V X Z M cn sn 11 [some (.ref x0), some (.int x1)] [] := by
  intro n
  induction n with
  | zero => intro M x1 h; rw [m_X7_keep_L11] at h; cases h
  | succ n ih =>
    intro M x1 h
    rw [m_X7_keep_L11] at h
    refine v_iload_n G dX7_keep_11 rfl ?_
    refine v_sipush G (1679 : Int32) dX7_keep_12 (by decide) ?_
    refine v_ic_ge 39 G dX7_keep_15 (by decide) (fun q20 => ?_) (fun q20 => ?_)
    · rw [if_pos q20] at h
      exact v_mask [true, false] rfl (hx0 _ h)
    · rw [if_neg q20] at h
      refine v_aload_n G dX7_keep_18 rfl ?_
      obtain ⟨b21, q22, h⟩ := bi_ h
      refine v_getR (f := 8) G cl7 dX7_keep_19 w847 (by decide) (by decide) q22 ?_
      refine v_iload_n G dX7_keep_22 rfl ?_
      refine v_aload_n G dX7_keep_23 rfl ?_
      obtain ⟨b23, q24, h⟩ := bi_ h
      refine v_getR (f := 8) G cl7 dX7_keep_24 w847 (by decide) (by decide) q24 ?_
      refine v_iload_n G dX7_keep_27 rfl ?_
      refine v_bipush G (73 : Int32) dX7_keep_28 (by decide) ?_
      refine v_iadd G dX7_keep_30 ?_
      obtain ⟨v26, q25, h⟩ := bi_ h
      refine v_iald G dX7_keep_31 q25 ?_
      obtain ⟨M27, q28, h⟩ := bi_ h
      refine v_iast G dX7_keep_32 q28 ?_
      refine v_iinc (x1 + (1 : Int32)) [some (.ref x0), some (.int (x1 + (1 : Int32)))] G dX7_keep_33 rfl rfl (Nat.le_of_ble_eq_true rfl) rfl rfl ?_
      refine v_goto 11 G dX7_keep_36 (by decide) ?_
      exact v_mask [true, true] rfl (ih _ _ h)
def m_X7_keep (M : mM) (x0 : Nat) : Option mM :=
  (gI M x0 7 9).bind fun v1 =>
  if v1 = (24 : Int32) then (
    m_X7_keep_L11
      (fun M29 =>
        (gI M29 x0 7 9).bind fun v30 =>
        (pI M29 x0 7 9 (v30 - (1 : Int32))).bind fun M32 =>
        m_X7_keep_L51
          (fun M34 =>
            (gI M34 x0 7 9).bind fun v35 =>
            (pI M34 x0 7 9 (v35 + (1 : Int32))).bind fun M37 =>
            some M37)
          x0 FU M32 (0 : Int32))
      x0 FU M (0 : Int32)
  ) else (
    m_X7_keep_L51
      (fun M15 =>
        (gI M15 x0 7 9).bind fun v16 =>
        (pI M15 x0 7 9 (v16 + (1 : Int32))).bind fun M18 =>
        some M18)
      x0 FU M (0 : Int32)
  )
theorem e_X7_keep {Z : zZ} {M : mM} {N : mM} {x0 : Nat} (h : m_X7_keep M x0 = some N) : EM Z yX7_keep cX7_keep 2 none 0 0 0 [.ref x0] M N none := by
  refine EM_of my_X7_keep (Nat.le_of_ble_eq_true rfl) (fun X G F => ?_)
  show V X Z M 0 0 0 [some (.ref x0), none] []
  unfold m_X7_keep at h
  refine v_aload_n G dX7_keep_0 rfl ?_
  obtain ⟨v1, q2, h⟩ := bi_ h
  refine v_getI (f := 9) G cl7 dX7_keep_1 w848 (by decide) (by decide) q2 ?_
  refine v_bipush G (24 : Int32) dX7_keep_4 (by decide) ?_
  refine v_ic_ne 49 G dX7_keep_6 (by decide) (fun q3 => ?_) (fun q3 => ?_)
  · rw [if_neg q3] at h
    refine v_iconst G (0 : Int32) dX7_keep_49 (by decide) ?_
    refine v_istore_n [some (.ref x0), some (.int (0 : Int32))] G dX7_keep_50 (Nat.le_of_ble_eq_true rfl) rfl rfl ?_
    refine v_mask [true, true] rfl ?_
    refine e_X7_keep_L51 G (Nat.zero_le _) (Nat.zero_le _) _ (fun M15 h => ?_) FU _ _ h
    refine v_aload_n G dX7_keep_83 rfl ?_
    refine v_dup G dX7_keep_84 rfl ?_
    obtain ⟨v16, q17, h⟩ := bi_ h
    refine v_getI (f := 9) G cl7 dX7_keep_85 w848 (by decide) (by decide) q17 ?_
    refine v_iconst G (1 : Int32) dX7_keep_88 (by decide) ?_
    refine v_iadd G dX7_keep_89 ?_
    obtain ⟨M18, q19, h⟩ := bi_ h
    refine v_putI (f := 9) G cl7 dX7_keep_90 w848 (by decide) (by decide) (by decide) rfl rfl q19 ?_
    cases h
    exact v_vret G F dX7_keep_93 rfl (Nat.le_refl _)
  · rw [if_pos q3] at h
    refine v_iconst G (0 : Int32) dX7_keep_9 (by decide) ?_
    refine v_istore_n [some (.ref x0), some (.int (0 : Int32))] G dX7_keep_10 (Nat.le_of_ble_eq_true rfl) rfl rfl ?_
    refine v_mask [true, true] rfl ?_
    refine e_X7_keep_L11 G (Nat.zero_le _) (Nat.zero_le _) _ (fun M29 h => ?_) FU _ _ h
    refine v_aload_n G dX7_keep_39 rfl ?_
    refine v_dup G dX7_keep_40 rfl ?_
    obtain ⟨v30, q31, h⟩ := bi_ h
    refine v_getI (f := 9) G cl7 dX7_keep_41 w848 (by decide) (by decide) q31 ?_
    refine v_iconst G (1 : Int32) dX7_keep_44 (by decide) ?_
    refine v_isub G dX7_keep_45 ?_
    obtain ⟨M32, q33, h⟩ := bi_ h
    refine v_putI (f := 9) G cl7 dX7_keep_46 w848 (by decide) (by decide) (by decide) rfl rfl q33 ?_
    refine v_iconst G (0 : Int32) dX7_keep_49 (by decide) ?_
    refine v_istore_n [some (.ref x0), some (.int (0 : Int32))] G dX7_keep_50 (Nat.le_of_ble_eq_true rfl) rfl rfl ?_
    refine v_mask [true, true] rfl ?_
    refine e_X7_keep_L51 G (Nat.zero_le _) (Nat.zero_le _) _ (fun M34 h => ?_) FU _ _ h
    refine v_aload_n G dX7_keep_83 rfl ?_
    refine v_dup G dX7_keep_84 rfl ?_
    obtain ⟨v35, q36, h⟩ := bi_ h
    refine v_getI (f := 9) G cl7 dX7_keep_85 w848 (by decide) (by decide) q36 ?_
    refine v_iconst G (1 : Int32) dX7_keep_88 (by decide) ?_
    refine v_iadd G dX7_keep_89 ?_
    obtain ⟨M37, q38, h⟩ := bi_ h
    refine v_putI (f := 9) G cl7 dX7_keep_90 w848 (by decide) (by decide) (by decide) rfl rfl q38 ?_
    cases h
    exact v_vret G F dX7_keep_93 rfl (Nat.le_refl _)
