/-! X7_thought -/
def m_X7_thought_L88 {ρ : Type} (k0 : mM → Int64 → Option ρ) (x0 : Nat) (x1 : Int32) (x2 : Int32) (x3 : Int32) (x4 : Int32) (x5 : Int32) (x6 : Int64) (x8 : Int64) (x10 : Int32) : Nat → mM → Int64 → Int32 → Option ρ
  | 0, _, _, _ => none
  | n + 1, M, x11, x13 =>
    if x3 ≤ x13 then (
      k0 M x11
    ) else (
      if ((x10 >>> (x13 &&& 31)) &&& (1 : Int32)) = (1 : Int32) then (
        if (1 : Int32) = (0 : Int32) then (
          (gR M x0 7 7).bind fun b35 =>
          if isO M x0 7 = true then
          (m_X7_dayBy M x0 b35 (1 : Int32)).bind fun M38 =>
          m_X7_thought_L88 k0 x0 x1 x2 x3 x4 x5 x6 x8 x10 n M38 (x11 * ((10 : Int64) - (Int32.toInt64 x4))) (x13 + (1 : Int32))
          else none
        ) else (
          (gR M x0 7 7).bind fun b40 =>
          if isO M x0 7 = true then
          (m_X7_dayBy M x0 b40 (1 : Int32)).bind fun M43 =>
          m_X7_thought_L88 k0 x0 x1 x2 x3 x4 x5 x6 x8 x10 n M43 (x11 * (Int32.toInt64 x4)) (x13 + (1 : Int32))
          else none
        )
      ) else (
        if (0 : Int32) = (0 : Int32) then (
          (gR M x0 7 7).bind fun b24 =>
          if isO M x0 7 = true then
          (m_X7_dayBy M x0 b24 (0 : Int32)).bind fun M27 =>
          m_X7_thought_L88 k0 x0 x1 x2 x3 x4 x5 x6 x8 x10 n M27 (x11 * ((10 : Int64) - (Int32.toInt64 x4))) (x13 + (1 : Int32))
          else none
        ) else (
          (gR M x0 7 7).bind fun b29 =>
          if isO M x0 7 = true then
          (m_X7_dayBy M x0 b29 (0 : Int32)).bind fun M32 =>
          m_X7_thought_L88 k0 x0 x1 x2 x3 x4 x5 x6 x8 x10 n M32 (x11 * (Int32.toInt64 x4)) (x13 + (1 : Int32))
          else none
        )
      )
    )
theorem e_X7_thought_L88 {X : xX} {Z : zZ} {cn sn : Nat} {ρ : Type} {r : ρ} {k0 : mM → Int64 → Option ρ} (G : ok_ X Z yX7_thought cX7_thought 16 4 0 0) (hcn : cn ≤ 0) (hsn : sn ≤ 0) (x0 : Nat) (x1 : Int32) (x2 : Int32) (x3 : Int32) (x4 : Int32) (x5 : Int32) (x6 : Int64) (x8 : Int64) (x10 : Int32)
    (hx0 : ∀ (N : mM) (z11 : Int64), k0 N z11 = some r → V X Z N cn sn 151 [some (.ref x0), some (.int x1), some (.int x2), some (.int x3), some (.int x4), some (.int x5), some (.long x6), none, some (.long x8), none, some (.int x10), some (.long z11), none, none, none, none] []) :
    ∀ (n : Nat) (M : mM) (x11 : Int64) (x13 : Int32), m_X7_thought_L88 k0 x0 x1 x2 x3 x4 x5 x6 x8 x10 n M x11 x13 = some r → V X Z M cn sn 88 [some (.ref x0), some (.int x1), some (.int x2), some (.int x3), some (.int x4), some (.int x5), some (.long x6), none, some (.long x8), none, some (.int x10), some (.long x11), none, some (.int x13), none, none] [] := by
  intro n
  induction n with
  | zero => intro M x11 x13 h; rw [m_X7_thought_L88] at h; cases h
  | succ n ih =>
    intro M x11 x13 h
    rw [m_X7_thought_L88] at h
    refine v_iload G dX7_thought_88 rfl ?_
    refine v_iload_n G dX7_thought_90 rfl ?_
    refine v_ic_ge 151 G dX7_thought_91 (by decide) (fun q21 => ?_) (fun q21 => ?_)
    · rw [if_pos q21] at h
      exact v_mask [true, true, true, true, true, true, true, false, true, false, true, true, false, false, false, false] rfl (hx0 _ _ h)
    · rw [if_neg q21] at h
      refine v_iload G dX7_thought_94 rfl ?_
      refine v_iload G dX7_thought_96 rfl ?_
      refine v_ishr G dX7_thought_98 ?_
      refine v_iconst G (1 : Int32) dX7_thought_99 (by decide) ?_
      refine v_iand G dX7_thought_100 ?_
      refine v_iconst G (1 : Int32) dX7_thought_101 (by decide) ?_
      refine v_ic_ne 109 G dX7_thought_102 (by decide) (fun q22 => ?_) (fun q22 => ?_)
      · rw [if_neg q22] at h
        refine v_iconst G (0 : Int32) dX7_thought_109 (by decide) ?_
        refine v_istore [some (.ref x0), some (.int x1), some (.int x2), some (.int x3), some (.int x4), some (.int x5), some (.long x6), none, some (.long x8), none, some (.int x10), some (.long x11), none, some (.int x13), some (.int (0 : Int32)), none] G dX7_thought_110 (Nat.le_of_ble_eq_true rfl) rfl rfl ?_
        refine v_lload G dX7_thought_112 rfl ?_
        refine v_iload G dX7_thought_114 rfl ?_
        refine v_if_eq 125 G dX7_thought_116 (by decide) (fun q23 => ?_) (fun q23 => ?_)
        · rw [if_pos q23] at h
          refine v_ldc2 G (10 : Int64) dX7_thought_125 w1221 ?_
          refine v_iload G dX7_thought_128 rfl ?_
          refine v_i2l G dX7_thought_130 ?_
          refine v_lsub G dX7_thought_131 ?_
          refine v_lmul G dX7_thought_132 ?_
          refine v_lstore [some (.ref x0), some (.int x1), some (.int x2), some (.int x3), some (.int x4), some (.int x5), some (.long x6), none, some (.long x8), none, some (.int x10), some (.long (x11 * ((10 : Int64) - (Int32.toInt64 x4)))), none, some (.int x13), some (.int (0 : Int32)), none] G dX7_thought_133 (Nat.le_of_ble_eq_true rfl) rfl rfl ?_
          refine v_aload_n G dX7_thought_135 rfl ?_
          refine v_aload_n G dX7_thought_136 rfl ?_
          obtain ⟨b24, q25, h⟩ := bi_ h
          refine v_getR (f := 7) G cl7 dX7_thought_137 w846 (by decide) (by decide) q25 ?_
          refine v_iload G dX7_thought_140 rfl ?_
          obtain ⟨q28, h⟩ := if_s h
          obtain ⟨M27, q26, h⟩ := bi_ h
          refine v_callV0 (e_X7_dayBy q26) G cl7 my_X7_dayBy rfl w1036 w40 w1034 dX7_thought_142 q28 rfl (Nat.le_of_ble_eq_true rfl) rfl (Nat.le_of_ble_eq_true rfl) hcn hsn ?_
          refine v_iinc (x13 + (1 : Int32)) [some (.ref x0), some (.int x1), some (.int x2), some (.int x3), some (.int x4), some (.int x5), some (.long x6), none, some (.long x8), none, some (.int x10), some (.long (x11 * ((10 : Int64) - (Int32.toInt64 x4)))), none, some (.int (x13 + (1 : Int32))), some (.int (0 : Int32)), none] G dX7_thought_145 rfl rfl (Nat.le_of_ble_eq_true rfl) rfl rfl ?_
          refine v_goto 88 G dX7_thought_148 (by decide) ?_
          exact v_mask [true, true, true, true, true, true, true, false, true, false, true, true, false, true, false, false] rfl (ih _ _ _ h)
        · rw [if_neg q23] at h
          refine v_iload G dX7_thought_119 rfl ?_
          refine v_i2l G dX7_thought_121 ?_
          refine v_goto 132 G dX7_thought_122 (by decide) ?_
          refine v_lmul G dX7_thought_132 ?_
          refine v_lstore [some (.ref x0), some (.int x1), some (.int x2), some (.int x3), some (.int x4), some (.int x5), some (.long x6), none, some (.long x8), none, some (.int x10), some (.long (x11 * (Int32.toInt64 x4))), none, some (.int x13), some (.int (0 : Int32)), none] G dX7_thought_133 (Nat.le_of_ble_eq_true rfl) rfl rfl ?_
          refine v_aload_n G dX7_thought_135 rfl ?_
          refine v_aload_n G dX7_thought_136 rfl ?_
          obtain ⟨b29, q30, h⟩ := bi_ h
          refine v_getR (f := 7) G cl7 dX7_thought_137 w846 (by decide) (by decide) q30 ?_
          refine v_iload G dX7_thought_140 rfl ?_
          obtain ⟨q33, h⟩ := if_s h
          obtain ⟨M32, q31, h⟩ := bi_ h
          refine v_callV0 (e_X7_dayBy q31) G cl7 my_X7_dayBy rfl w1036 w40 w1034 dX7_thought_142 q33 rfl (Nat.le_of_ble_eq_true rfl) rfl (Nat.le_of_ble_eq_true rfl) hcn hsn ?_
          refine v_iinc (x13 + (1 : Int32)) [some (.ref x0), some (.int x1), some (.int x2), some (.int x3), some (.int x4), some (.int x5), some (.long x6), none, some (.long x8), none, some (.int x10), some (.long (x11 * (Int32.toInt64 x4))), none, some (.int (x13 + (1 : Int32))), some (.int (0 : Int32)), none] G dX7_thought_145 rfl rfl (Nat.le_of_ble_eq_true rfl) rfl rfl ?_
          refine v_goto 88 G dX7_thought_148 (by decide) ?_
          exact v_mask [true, true, true, true, true, true, true, false, true, false, true, true, false, true, false, false] rfl (ih _ _ _ h)
      · rw [if_pos q22] at h
        refine v_iconst G (1 : Int32) dX7_thought_105 (by decide) ?_
        refine v_goto 110 G dX7_thought_106 (by decide) ?_
        refine v_istore [some (.ref x0), some (.int x1), some (.int x2), some (.int x3), some (.int x4), some (.int x5), some (.long x6), none, some (.long x8), none, some (.int x10), some (.long x11), none, some (.int x13), some (.int (1 : Int32)), none] G dX7_thought_110 (Nat.le_of_ble_eq_true rfl) rfl rfl ?_
        refine v_lload G dX7_thought_112 rfl ?_
        refine v_iload G dX7_thought_114 rfl ?_
        refine v_if_eq 125 G dX7_thought_116 (by decide) (fun q34 => ?_) (fun q34 => ?_)
        · rw [if_pos q34] at h
          refine v_ldc2 G (10 : Int64) dX7_thought_125 w1221 ?_
          refine v_iload G dX7_thought_128 rfl ?_
          refine v_i2l G dX7_thought_130 ?_
          refine v_lsub G dX7_thought_131 ?_
          refine v_lmul G dX7_thought_132 ?_
          refine v_lstore [some (.ref x0), some (.int x1), some (.int x2), some (.int x3), some (.int x4), some (.int x5), some (.long x6), none, some (.long x8), none, some (.int x10), some (.long (x11 * ((10 : Int64) - (Int32.toInt64 x4)))), none, some (.int x13), some (.int (1 : Int32)), none] G dX7_thought_133 (Nat.le_of_ble_eq_true rfl) rfl rfl ?_
          refine v_aload_n G dX7_thought_135 rfl ?_
          refine v_aload_n G dX7_thought_136 rfl ?_
          obtain ⟨b35, q36, h⟩ := bi_ h
          refine v_getR (f := 7) G cl7 dX7_thought_137 w846 (by decide) (by decide) q36 ?_
          refine v_iload G dX7_thought_140 rfl ?_
          obtain ⟨q39, h⟩ := if_s h
          obtain ⟨M38, q37, h⟩ := bi_ h
          refine v_callV0 (e_X7_dayBy q37) G cl7 my_X7_dayBy rfl w1036 w40 w1034 dX7_thought_142 q39 rfl (Nat.le_of_ble_eq_true rfl) rfl (Nat.le_of_ble_eq_true rfl) hcn hsn ?_
          refine v_iinc (x13 + (1 : Int32)) [some (.ref x0), some (.int x1), some (.int x2), some (.int x3), some (.int x4), some (.int x5), some (.long x6), none, some (.long x8), none, some (.int x10), some (.long (x11 * ((10 : Int64) - (Int32.toInt64 x4)))), none, some (.int (x13 + (1 : Int32))), some (.int (1 : Int32)), none] G dX7_thought_145 rfl rfl (Nat.le_of_ble_eq_true rfl) rfl rfl ?_
          refine v_goto 88 G dX7_thought_148 (by decide) ?_
          exact v_mask [true, true, true, true, true, true, true, false, true, false, true, true, false, true, false, false] rfl (ih _ _ _ h)
        · rw [if_neg q34] at h
          refine v_iload G dX7_thought_119 rfl ?_
          refine v_i2l G dX7_thought_121 ?_
          refine v_goto 132 G dX7_thought_122 (by decide) ?_
          refine v_lmul G dX7_thought_132 ?_
          refine v_lstore [some (.ref x0), some (.int x1), some (.int x2), some (.int x3), some (.int x4), some (.int x5), some (.long x6), none, some (.long x8), none, some (.int x10), some (.long (x11 * (Int32.toInt64 x4))), none, some (.int x13), some (.int (1 : Int32)), none] G dX7_thought_133 (Nat.le_of_ble_eq_true rfl) rfl rfl ?_
          refine v_aload_n G dX7_thought_135 rfl ?_
          refine v_aload_n G dX7_thought_136 rfl ?_
          obtain ⟨b40, q41, h⟩ := bi_ h
          refine v_getR (f := 7) G cl7 dX7_thought_137 w846 (by decide) (by decide) q41 ?_
          refine v_iload G dX7_thought_140 rfl ?_
          obtain ⟨q44, h⟩ := if_s h
          obtain ⟨M43, q42, h⟩ := bi_ h
          refine v_callV0 (e_X7_dayBy q42) G cl7 my_X7_dayBy rfl w1036 w40 w1034 dX7_thought_142 q44 rfl (Nat.le_of_ble_eq_true rfl) rfl (Nat.le_of_ble_eq_true rfl) hcn hsn ?_
          refine v_iinc (x13 + (1 : Int32)) [some (.ref x0), some (.int x1), some (.int x2), some (.int x3), some (.int x4), some (.int x5), some (.long x6), none, some (.long x8), none, some (.int x10), some (.long (x11 * (Int32.toInt64 x4))), none, some (.int (x13 + (1 : Int32))), some (.int (1 : Int32)), none] G dX7_thought_145 rfl rfl (Nat.le_of_ble_eq_true rfl) rfl rfl ?_
          refine v_goto 88 G dX7_thought_148 (by decide) ?_
          exact v_mask [true, true, true, true, true, true, true, false, true, false, true, true, false, true, false, false] rfl (ih _ _ _ h)
def m_X7_thought_L70 {ρ : Type} (k0 : mM → Int64 → Int64 → Option ρ) (x0 : Nat) (x1 : Int32) (x2 : Int32) (x3 : Int32) (x4 : Int32) (x5 : Int32) : Nat → mM → Int64 → Int64 → Int32 → Option ρ
  | 0, _, _, _, _ => none
  | n + 1, M, x6, x8, x10 =>
    if ((1 : Int32) <<< (x3 &&& 31)) ≤ x10 then (
      k0 M x6 x8
    ) else (
      if isO M x0 7 = true then
      (m_X7_layThen M x0).bind fun M20 =>
      m_X7_thought_L88
        (fun M21 v22 =>
          (gR M21 x0 7 7).bind fun b23 =>
          (m_X7_of M21 b23 x1 (2 : Int32)).bind fun v26 =>
          (m_X7_has M21 v26 x2).bind fun v28 =>
          if v28 = (0 : Int32) then (
            m_X7_thought_L70 k0 x0 x1 x2 x3 x4 x5 n M21 (x6 + (0 : Int64)) (x8 + v22) (x10 + (1 : Int32))
          ) else (
            m_X7_thought_L70 k0 x0 x1 x2 x3 x4 x5 n M21 (x6 + v22) (x8 + v22) (x10 + (1 : Int32))
          ))
        x0 x1 x2 x3 x4 x5 x6 x8 x10 FU M20 (1 : Int64) (0 : Int32)
      else none
    )
theorem e_X7_thought_L70 {X : xX} {Z : zZ} {cn sn : Nat} {ρ : Type} {r : ρ} {k0 : mM → Int64 → Int64 → Option ρ} (G : ok_ X Z yX7_thought cX7_thought 16 4 0 0) (hcn : cn ≤ 0) (hsn : sn ≤ 0) (x0 : Nat) (x1 : Int32) (x2 : Int32) (x3 : Int32) (x4 : Int32) (x5 : Int32)
    (hx0 : ∀ (N : mM) (z6 : Int64) (z8 : Int64), k0 N z6 z8 = some r → V X Z N cn sn 191 [none, none, none, none, none, some (.int x5), some (.long z6), none, some (.long z8), none, none, none, none, none, none, none] []) :
    ∀ (n : Nat) (M : mM) (x6 : Int64) (x8 : Int64) (x10 : Int32), m_X7_thought_L70 k0 x0 x1 x2 x3 x4 x5 n M x6 x8 x10 = some r → V X Z M cn sn 70 [some (.ref x0), some (.int x1), some (.int x2), some (.int x3), some (.int x4), some (.int x5), some (.long x6), none, some (.long x8), none, some (.int x10), none, none, none, none, none] [] := by
  intro n
  induction n with
  | zero => intro M x6 x8 x10 h; rw [m_X7_thought_L70] at h; cases h
  | succ n ih =>
    intro M x6 x8 x10 h
    rw [m_X7_thought_L70] at h
    refine v_iload G dX7_thought_70 rfl ?_
    refine v_iconst G (1 : Int32) dX7_thought_72 (by decide) ?_
    refine v_iload_n G dX7_thought_73 rfl ?_
    refine v_ishl G dX7_thought_74 ?_
    refine v_ic_ge 191 G dX7_thought_75 (by decide) (fun q18 => ?_) (fun q18 => ?_)
    · rw [if_pos q18] at h
      exact v_mask [false, false, false, false, false, true, true, false, true, false, false, false, false, false, false, false] rfl (hx0 _ _ _ h)
    · rw [if_neg q18] at h
      refine v_lconst G (1 : Int64) dX7_thought_78 (by decide) ?_
      refine v_lstore [some (.ref x0), some (.int x1), some (.int x2), some (.int x3), some (.int x4), some (.int x5), some (.long x6), none, some (.long x8), none, some (.int x10), some (.long (1 : Int64)), none, none, none, none] G dX7_thought_79 (Nat.le_of_ble_eq_true rfl) rfl rfl ?_
      refine v_aload_n G dX7_thought_81 rfl ?_
      obtain ⟨q30, h⟩ := if_s h
      obtain ⟨M20, q19, h⟩ := bi_ h
      refine v_callV0 (e_X7_layThen q19) G cl7 my_X7_layThen rfl w1134 w46 w1132 dX7_thought_82 q30 rfl (Nat.le_of_ble_eq_true rfl) rfl (Nat.le_of_ble_eq_true rfl) hcn hsn ?_
      refine v_iconst G (0 : Int32) dX7_thought_85 (by decide) ?_
      refine v_istore [some (.ref x0), some (.int x1), some (.int x2), some (.int x3), some (.int x4), some (.int x5), some (.long x6), none, some (.long x8), none, some (.int x10), some (.long (1 : Int64)), none, some (.int (0 : Int32)), none, none] G dX7_thought_86 (Nat.le_of_ble_eq_true rfl) rfl rfl ?_
      refine v_mask [true, true, true, true, true, true, true, false, true, false, true, true, false, true, false, false] rfl ?_
      refine e_X7_thought_L88 G hcn hsn _ _ _ _ _ _ _ _ _ (fun M21 v22 h => ?_) FU _ _ _ h
      refine v_lload G dX7_thought_151 rfl ?_
      refine v_lload G dX7_thought_153 rfl ?_
      refine v_ladd G dX7_thought_155 ?_
      refine v_lstore [some (.ref x0), some (.int x1), some (.int x2), some (.int x3), some (.int x4), some (.int x5), some (.long x6), none, some (.long (x8 + v22)), none, some (.int x10), some (.long v22), none, none, none, none] G dX7_thought_156 (Nat.le_of_ble_eq_true rfl) rfl rfl ?_
      refine v_lload G dX7_thought_158 rfl ?_
      refine v_aload_n G dX7_thought_160 rfl ?_
      obtain ⟨b23, q24, h⟩ := bi_ h
      refine v_getR (f := 7) G cl7 dX7_thought_161 w846 (by decide) (by decide) q24 ?_
      refine v_iload_n G dX7_thought_164 rfl ?_
      refine v_iconst G (2 : Int32) dX7_thought_165 (by decide) ?_
      obtain ⟨v26, q25, h⟩ := bi_ h
      refine v_callS0 (e_X7_of q25) G my_X7_of w1045 w1044 dX7_thought_166 rfl (Nat.le_of_ble_eq_true rfl) rfl (Nat.le_of_ble_eq_true rfl) hcn hsn ?_
      refine v_iload_n G dX7_thought_169 rfl ?_
      obtain ⟨v28, q27, h⟩ := bi_ h
      refine v_callS0 (e_X7_has q27) G my_X7_has w1051 w1050 dX7_thought_170 rfl (Nat.le_of_ble_eq_true rfl) rfl (Nat.le_of_ble_eq_true rfl) hcn hsn ?_
      refine v_if_eq 181 G dX7_thought_173 (by decide) (fun q29 => ?_) (fun q29 => ?_)
      · rw [if_pos q29] at h
        refine v_lconst G (0 : Int64) dX7_thought_181 (by decide) ?_
        refine v_ladd G dX7_thought_182 ?_
        refine v_lstore [some (.ref x0), some (.int x1), some (.int x2), some (.int x3), some (.int x4), some (.int x5), some (.long (x6 + (0 : Int64))), none, some (.long (x8 + v22)), none, some (.int x10), some (.long v22), none, none, none, none] G dX7_thought_183 (Nat.le_of_ble_eq_true rfl) rfl rfl ?_
        refine v_iinc (x10 + (1 : Int32)) [some (.ref x0), some (.int x1), some (.int x2), some (.int x3), some (.int x4), some (.int x5), some (.long (x6 + (0 : Int64))), none, some (.long (x8 + v22)), none, some (.int (x10 + (1 : Int32))), some (.long v22), none, none, none, none] G dX7_thought_185 rfl rfl (Nat.le_of_ble_eq_true rfl) rfl rfl ?_
        refine v_goto 70 G dX7_thought_188 (by decide) ?_
        exact v_mask [true, true, true, true, true, true, true, false, true, false, true, false, false, false, false, false] rfl (ih _ _ _ _ h)
      · rw [if_neg q29] at h
        refine v_lload G dX7_thought_176 rfl ?_
        refine v_goto 182 G dX7_thought_178 (by decide) ?_
        refine v_ladd G dX7_thought_182 ?_
        refine v_lstore [some (.ref x0), some (.int x1), some (.int x2), some (.int x3), some (.int x4), some (.int x5), some (.long (x6 + v22)), none, some (.long (x8 + v22)), none, some (.int x10), some (.long v22), none, none, none, none] G dX7_thought_183 (Nat.le_of_ble_eq_true rfl) rfl rfl ?_
        refine v_iinc (x10 + (1 : Int32)) [some (.ref x0), some (.int x1), some (.int x2), some (.int x3), some (.int x4), some (.int x5), some (.long (x6 + v22)), none, some (.long (x8 + v22)), none, some (.int (x10 + (1 : Int32))), some (.long v22), none, none, none, none] G dX7_thought_185 rfl rfl (Nat.le_of_ble_eq_true rfl) rfl rfl ?_
        refine v_goto 70 G dX7_thought_188 (by decide) ?_
        exact v_mask [true, true, true, true, true, true, true, false, true, false, true, false, false, false, false, false] rfl (ih _ _ _ _ h)
def m_X7_thought_L199 {ρ : Type} (k0 : Int64 → Option ρ) (M : mM) (x5 : Int32) (x6 : Int64) (x8 : Int64) : Nat → Int64 → Int64 → Option ρ
  | 0, _, _ => none
  | n + 1, x10, x12 =>
    if (lg_cmp x12 (0 : Int64)) = (0 : Int32) then (
      k0 x10
    ) else (
      if x12 = (0 : Int64) then none else
      m_X7_thought_L199 k0 M x5 x6 x8 n x12 (lr_ x10 x12)
    )
theorem e_X7_thought_L199 {X : xX} {Z : zZ} {cn sn : Nat} {ρ : Type} {r : ρ} {k0 : Int64 → Option ρ} (G : ok_ X Z yX7_thought cX7_thought 16 4 0 0) (hcn : cn ≤ 0) (hsn : sn ≤ 0) (M : mM) (x5 : Int32) (x6 : Int64) (x8 : Int64)
    (hx0 : ∀ (z10 : Int64), k0 z10 = some r → V X Z M cn sn 224 [none, none, none, none, none, some (.int x5), some (.long x6), none, some (.long x8), none, some (.long z10), none, none, none, none, none] []) :
    ∀ (n : Nat) (x10 : Int64) (x12 : Int64), m_X7_thought_L199 k0 M x5 x6 x8 n x10 x12 = some r → V X Z M cn sn 199 [none, none, none, none, none, some (.int x5), some (.long x6), none, some (.long x8), none, some (.long x10), none, some (.long x12), none, none, none] [] := by
  intro n
  induction n with
  | zero => intro x10 x12 h; rw [m_X7_thought_L199] at h; cases h
  | succ n ih =>
    intro x10 x12 h
    rw [m_X7_thought_L199] at h
    refine v_lload G dX7_thought_199 rfl ?_
    refine v_lconst G (0 : Int64) dX7_thought_201 (by decide) ?_
    refine v_lcmp G dX7_thought_202 ?_
    refine v_if_eq 224 G dX7_thought_203 (by decide) (fun q34 => ?_) (fun q34 => ?_)
    · rw [if_pos q34] at h
      exact v_mask [false, false, false, false, false, true, true, false, true, false, true, false, false, false, false, false] rfl (hx0 _ h)
    · rw [if_neg q34] at h
      refine v_lload G dX7_thought_206 rfl ?_
      refine v_lload G dX7_thought_208 rfl ?_
      obtain ⟨q35, h⟩ := in_ h
      refine v_lrem G dX7_thought_210 q35 ?_
      refine v_lstore [none, none, none, none, none, some (.int x5), some (.long x6), none, some (.long x8), none, some (.long x10), none, some (.long x12), none, some (.long (lr_ x10 x12)), none] G dX7_thought_211 (Nat.le_of_ble_eq_true rfl) rfl rfl ?_
      refine v_lload G dX7_thought_213 rfl ?_
      refine v_lstore [none, none, none, none, none, some (.int x5), some (.long x6), none, some (.long x8), none, some (.long x12), none, some (.long x12), none, some (.long (lr_ x10 x12)), none] G dX7_thought_215 (Nat.le_of_ble_eq_true rfl) rfl rfl ?_
      refine v_lload G dX7_thought_217 rfl ?_
      refine v_lstore [none, none, none, none, none, some (.int x5), some (.long x6), none, some (.long x8), none, some (.long x12), none, some (.long (lr_ x10 x12)), none, some (.long (lr_ x10 x12)), none] G dX7_thought_219 (Nat.le_of_ble_eq_true rfl) rfl rfl ?_
      refine v_goto 199 G dX7_thought_221 (by decide) ?_
      exact v_mask [false, false, false, false, false, true, true, false, true, false, true, false, true, false, false, false] rfl (ih _ _ h)
def m_X7_thought (M : mM) (x0 : Nat) (x1 : Int32) (x2 : Int32) (x3 : Int32) (x4 : Int32) (x5 : Int32) : Option (mM × Int64) :=
  (pI M x0 7 0 (0 : Int32)).bind fun M1 =>
  if isO M1 x0 7 = true then
  (m_X7_isPupil M1 x0 x1).bind fun v4 =>
  if v4 = (0 : Int32) then (
    some (M1, (-1000001 : Int64))
  ) else (
    if isO M1 x0 7 = true then
    (m_X7_isSubject M1 x0 x2).bind fun v7 =>
    if v7 = (0 : Int32) then (
      some (M1, (-1000001 : Int64))
    ) else (
      (m_X7_in M1 (Int32.toInt64 x3) (0 : Int64) (8 : Int64)).bind fun v10 =>
      if v10 = (0 : Int32) then (
        some (M1, (-1000001 : Int64))
      ) else (
        (m_X7_in M1 (Int32.toInt64 x4) (0 : Int64) (10 : Int64)).bind fun v13 =>
        if v13 = (0 : Int32) then (
          some (M1, (-1000001 : Int64))
        ) else (
          (m_X7_in M1 (Int32.toInt64 x5) (0 : Int64) (1 : Int64)).bind fun v16 =>
          if v16 = (0 : Int32) then (
            some (M1, (-1000001 : Int64))
          ) else (
            m_X7_thought_L70
              (fun M31 v32 v33 =>
                m_X7_thought_L199
                  (fun v36 =>
                    if x5 = (0 : Int32) then (
                      if v36 = (0 : Int64) then none else
                      some (M31, (v32 / v36))
                    ) else (
                      if v36 = (0 : Int64) then none else
                      some (M31, (v33 / v36))
                    ))
                  M31 x5 v32 v33 FU v32 v33)
              x0 x1 x2 x3 x4 x5 FU M1 (0 : Int64) (0 : Int64) (0 : Int32)
          )
        )
      )
    )
    else none
  )
  else none
theorem e_X7_thought {Z : zZ} {M : mM} {N : mM} {x0 : Nat} {x1 : Int32} {x2 : Int32} {x3 : Int32} {x4 : Int32} {x5 : Int32} {r : Int64} (h : m_X7_thought M x0 x1 x2 x3 x4 x5 = some (N, r)) : EM Z yX7_thought cX7_thought 16 (some .long) 4 0 0 [.ref x0, .int x1, .int x2, .int x3, .int x4, .int x5] M N (some (.long r)) := by
  refine EM_of my_X7_thought (Nat.le_of_ble_eq_true rfl) (fun X G F => ?_)
  show V X Z M 0 0 0 [some (.ref x0), some (.int x1), some (.int x2), some (.int x3), some (.int x4), some (.int x5), none, none, none, none, none, none, none, none, none, none] []
  unfold m_X7_thought at h
  refine v_aload_n G dX7_thought_0 rfl ?_
  refine v_iconst G (0 : Int32) dX7_thought_1 (by decide) ?_
  obtain ⟨M1, q2, h⟩ := bi_ h
  refine v_putI (f := 0) G cl7 dX7_thought_2 w839 (by decide) (by decide) (by decide) rfl rfl q2 ?_
  refine v_aload_n G dX7_thought_5 rfl ?_
  refine v_iload_n G dX7_thought_6 rfl ?_
  obtain ⟨q41, h⟩ := if_s h
  obtain ⟨v4, q3, h⟩ := bi_ h
  refine v_callV0 (e_X7_isPupil q3) G cl7 my_X7_isPupil rfl w1074 w41 w1072 dX7_thought_7 q41 rfl (Nat.le_of_ble_eq_true rfl) rfl (Nat.le_of_ble_eq_true rfl) (Nat.zero_le _) (Nat.zero_le _) ?_
  refine v_if_eq 57 G dX7_thought_10 (by decide) (fun q5 => ?_) (fun q5 => ?_)
  · rw [if_pos q5] at h
    refine v_ldc2 G (-1000001 : Int64) dX7_thought_57 w1222 ?_
    cases h
    exact v_lret G F dX7_thought_60 rfl (Nat.le_refl _)
  · rw [if_neg q5] at h
    refine v_aload_n G dX7_thought_13 rfl ?_
    refine v_iload_n G dX7_thought_14 rfl ?_
    obtain ⟨q40, h⟩ := if_s h
    obtain ⟨v7, q6, h⟩ := bi_ h
    refine v_callV0 (e_X7_isSubject q6) G cl7 my_X7_isSubject rfl w1089 w43 w1087 dX7_thought_15 q40 rfl (Nat.le_of_ble_eq_true rfl) rfl (Nat.le_of_ble_eq_true rfl) (Nat.zero_le _) (Nat.zero_le _) ?_
    refine v_if_eq 57 G dX7_thought_18 (by decide) (fun q8 => ?_) (fun q8 => ?_)
    · rw [if_pos q8] at h
      refine v_ldc2 G (-1000001 : Int64) dX7_thought_57 w1222 ?_
      cases h
      exact v_lret G F dX7_thought_60 rfl (Nat.le_refl _)
    · rw [if_neg q8] at h
      refine v_iload_n G dX7_thought_21 rfl ?_
      refine v_i2l G dX7_thought_22 ?_
      refine v_lconst G (0 : Int64) dX7_thought_23 (by decide) ?_
      refine v_ldc2 G (8 : Int64) dX7_thought_24 w1220 ?_
      obtain ⟨v10, q9, h⟩ := bi_ h
      refine v_callS0 (e_X7_in q9) G my_X7_in w928 w927 dX7_thought_27 rfl (Nat.le_of_ble_eq_true rfl) rfl (Nat.le_of_ble_eq_true rfl) (Nat.zero_le _) (Nat.zero_le _) ?_
      refine v_if_eq 57 G dX7_thought_30 (by decide) (fun q11 => ?_) (fun q11 => ?_)
      · rw [if_pos q11] at h
        refine v_ldc2 G (-1000001 : Int64) dX7_thought_57 w1222 ?_
        cases h
        exact v_lret G F dX7_thought_60 rfl (Nat.le_refl _)
      · rw [if_neg q11] at h
        refine v_iload G dX7_thought_33 rfl ?_
        refine v_i2l G dX7_thought_35 ?_
        refine v_lconst G (0 : Int64) dX7_thought_36 (by decide) ?_
        refine v_ldc2 G (10 : Int64) dX7_thought_37 w1221 ?_
        obtain ⟨v13, q12, h⟩ := bi_ h
        refine v_callS0 (e_X7_in q12) G my_X7_in w928 w927 dX7_thought_40 rfl (Nat.le_of_ble_eq_true rfl) rfl (Nat.le_of_ble_eq_true rfl) (Nat.zero_le _) (Nat.zero_le _) ?_
        refine v_if_eq 57 G dX7_thought_43 (by decide) (fun q14 => ?_) (fun q14 => ?_)
        · rw [if_pos q14] at h
          refine v_ldc2 G (-1000001 : Int64) dX7_thought_57 w1222 ?_
          cases h
          exact v_lret G F dX7_thought_60 rfl (Nat.le_refl _)
        · rw [if_neg q14] at h
          refine v_iload G dX7_thought_46 rfl ?_
          refine v_i2l G dX7_thought_48 ?_
          refine v_lconst G (0 : Int64) dX7_thought_49 (by decide) ?_
          refine v_lconst G (1 : Int64) dX7_thought_50 (by decide) ?_
          obtain ⟨v16, q15, h⟩ := bi_ h
          refine v_callS0 (e_X7_in q15) G my_X7_in w928 w927 dX7_thought_51 rfl (Nat.le_of_ble_eq_true rfl) rfl (Nat.le_of_ble_eq_true rfl) (Nat.zero_le _) (Nat.zero_le _) ?_
          refine v_if_ne 61 G dX7_thought_54 (by decide) (fun q17 => ?_) (fun q17 => ?_)
          · rw [if_neg q17] at h
            refine v_lconst G (0 : Int64) dX7_thought_61 (by decide) ?_
            refine v_lstore [some (.ref x0), some (.int x1), some (.int x2), some (.int x3), some (.int x4), some (.int x5), some (.long (0 : Int64)), none, none, none, none, none, none, none, none, none] G dX7_thought_62 (Nat.le_of_ble_eq_true rfl) rfl rfl ?_
            refine v_lconst G (0 : Int64) dX7_thought_64 (by decide) ?_
            refine v_lstore [some (.ref x0), some (.int x1), some (.int x2), some (.int x3), some (.int x4), some (.int x5), some (.long (0 : Int64)), none, some (.long (0 : Int64)), none, none, none, none, none, none, none] G dX7_thought_65 (Nat.le_of_ble_eq_true rfl) rfl rfl ?_
            refine v_iconst G (0 : Int32) dX7_thought_67 (by decide) ?_
            refine v_istore [some (.ref x0), some (.int x1), some (.int x2), some (.int x3), some (.int x4), some (.int x5), some (.long (0 : Int64)), none, some (.long (0 : Int64)), none, some (.int (0 : Int32)), none, none, none, none, none] G dX7_thought_68 (Nat.le_of_ble_eq_true rfl) rfl rfl ?_
            refine v_mask [true, true, true, true, true, true, true, false, true, false, true, false, false, false, false, false] rfl ?_
            refine e_X7_thought_L70 G (Nat.zero_le _) (Nat.zero_le _) _ _ _ _ _ _ (fun M31 v32 v33 h => ?_) FU _ _ _ _ h
            refine v_lload G dX7_thought_191 rfl ?_
            refine v_lstore [none, none, none, none, none, some (.int x5), some (.long v32), none, some (.long v33), none, some (.long v32), none, none, none, none, none] G dX7_thought_193 (Nat.le_of_ble_eq_true rfl) rfl rfl ?_
            refine v_lload G dX7_thought_195 rfl ?_
            refine v_lstore [none, none, none, none, none, some (.int x5), some (.long v32), none, some (.long v33), none, some (.long v32), none, some (.long v33), none, none, none] G dX7_thought_197 (Nat.le_of_ble_eq_true rfl) rfl rfl ?_
            refine v_mask [false, false, false, false, false, true, true, false, true, false, true, false, true, false, false, false] rfl ?_
            refine e_X7_thought_L199 G (Nat.zero_le _) (Nat.zero_le _) _ _ _ _ (fun v36 h => ?_) FU _ _ h
            refine v_iload G dX7_thought_224 rfl ?_
            refine v_if_ne 234 G dX7_thought_226 (by decide) (fun q37 => ?_) (fun q37 => ?_)
            · rw [if_neg q37] at h
              refine v_lload G dX7_thought_234 rfl ?_
              refine v_lload G dX7_thought_236 rfl ?_
              obtain ⟨q38, h⟩ := in_ h
              refine v_ldiv G dX7_thought_238 q38 ?_
              cases h
              exact v_lret G F dX7_thought_239 rfl (Nat.le_refl _)
            · rw [if_pos q37] at h
              refine v_lload G dX7_thought_229 rfl ?_
              refine v_goto 236 G dX7_thought_231 (by decide) ?_
              refine v_lload G dX7_thought_236 rfl ?_
              obtain ⟨q39, h⟩ := in_ h
              refine v_ldiv G dX7_thought_238 q39 ?_
              cases h
              exact v_lret G F dX7_thought_239 rfl (Nat.le_refl _)
          · rw [if_pos q17] at h
            refine v_ldc2 G (-1000001 : Int64) dX7_thought_57 w1222 ?_
            cases h
            exact v_lret G F dX7_thought_60 rfl (Nat.le_refl _)
/-! X7_drawn -/
def m_X7_drawn_L63 {ρ : Type} (k0 : mM → Option ρ) (x0 : Nat) (x1 : Int32) (x3 : Int32) : Nat → mM → Int64 → Int32 → Option ρ
  | 0, _, _, _ => none
  | n + 1, M, x4, x6 =>
    if x1 ≤ x6 then (
      k0 M
    ) else (
      (gR M x0 7 7).bind fun b18 =>
      (ldI M b18 (1 : Int32)).bind fun v21 =>
      if (Int32.toInt64 v21) = (0 : Int64) then none else
      if (lg_cmp (lr_ (lr_ (x4 * (16807 : Int64)) (2147483647 : Int64)) (3 : Int64)) (0 : Int64)) = (0 : Int32) then (
        (gR M x0 7 7).bind fun b48 =>
        (gR M x0 7 7).bind fun b50 =>
        (ldI M b50 (2 : Int32)).bind fun v53 =>
        if (Int32.toInt64 v53) = (0 : Int64) then none else
        (stI M b48 ((11 : Int32) + (Int64.toInt32 (lr_ (lr_ (x4 * (16807 : Int64)) (2147483647 : Int64)) (Int32.toInt64 v53)))) (Int64.toInt32 (lr_ (lr_ (x4 * (16807 : Int64)) (2147483647 : Int64)) (Int32.toInt64 v21)))).bind fun M55 =>
        if (lg_cmp (lr_ (lr_ (x4 * (16807 : Int64)) (2147483647 : Int64)) (4 : Int64)) (0 : Int64)) = (0 : Int32) then (
          (gR M55 x0 7 7).bind fun b63 =>
          (ldI M55 b63 (0 : Int32)).bind fun v66 =>
          if (Int32.toInt64 v66) = (0 : Int64) then none else
          (gR M55 x0 7 7).bind fun b68 =>
          (gR M55 x0 7 7).bind fun b70 =>
          (m_X7_of M55 b70 (Int64.toInt32 (lr_ (lr_ (x4 * (16807 : Int64)) (2147483647 : Int64)) (Int32.toInt64 v66))) (2 : Int32)).bind fun v73 =>
          (m_X7_be M55 b68 (Int64.toInt32 (lr_ (lr_ (x4 * (16807 : Int64)) (2147483647 : Int64)) (Int32.toInt64 v66))) (2 : Int32) (v73 &&& (((1 : Int32) <<< ((Int64.toInt32 (lr_ (lr_ (x4 * (16807 : Int64)) (2147483647 : Int64)) (Int32.toInt64 v21))) &&& 31)) ^^^ (-1 : Int32)))).bind fun M75 =>
          (gR M75 x0 7 7).bind fun b76 =>
          if isO M75 x0 7 = true then
          (m_X7_dayBy M75 x0 b76 (0 : Int32)).bind fun M79 =>
          m_X7_drawn_L63 k0 x0 x1 x3 n M79 (lr_ (x4 * (16807 : Int64)) (2147483647 : Int64)) (x6 + (1 : Int32))
          else none
        ) else (
          (gR M55 x0 7 7).bind fun b58 =>
          if isO M55 x0 7 = true then
          (m_X7_dayBy M55 x0 b58 (0 : Int32)).bind fun M61 =>
          m_X7_drawn_L63 k0 x0 x1 x3 n M61 (lr_ (x4 * (16807 : Int64)) (2147483647 : Int64)) (x6 + (1 : Int32))
          else none
        )
      ) else (
        if (lg_cmp (lr_ (lr_ (x4 * (16807 : Int64)) (2147483647 : Int64)) (4 : Int64)) (0 : Int64)) = (0 : Int32) then (
          (gR M x0 7 7).bind fun b30 =>
          (ldI M b30 (0 : Int32)).bind fun v33 =>
          if (Int32.toInt64 v33) = (0 : Int64) then none else
          (gR M x0 7 7).bind fun b35 =>
          (gR M x0 7 7).bind fun b37 =>
          (m_X7_of M b37 (Int64.toInt32 (lr_ (lr_ (x4 * (16807 : Int64)) (2147483647 : Int64)) (Int32.toInt64 v33))) (2 : Int32)).bind fun v40 =>
          (m_X7_be M b35 (Int64.toInt32 (lr_ (lr_ (x4 * (16807 : Int64)) (2147483647 : Int64)) (Int32.toInt64 v33))) (2 : Int32) (v40 &&& (((1 : Int32) <<< ((Int64.toInt32 (lr_ (lr_ (x4 * (16807 : Int64)) (2147483647 : Int64)) (Int32.toInt64 v21))) &&& 31)) ^^^ (-1 : Int32)))).bind fun M42 =>
          (gR M42 x0 7 7).bind fun b43 =>
          if isO M42 x0 7 = true then
          (m_X7_dayBy M42 x0 b43 (0 : Int32)).bind fun M46 =>
          m_X7_drawn_L63 k0 x0 x1 x3 n M46 (lr_ (x4 * (16807 : Int64)) (2147483647 : Int64)) (x6 + (1 : Int32))
          else none
        ) else (
          (gR M x0 7 7).bind fun b25 =>
          if isO M x0 7 = true then
          (m_X7_dayBy M x0 b25 (0 : Int32)).bind fun M28 =>
          m_X7_drawn_L63 k0 x0 x1 x3 n M28 (lr_ (x4 * (16807 : Int64)) (2147483647 : Int64)) (x6 + (1 : Int32))
          else none
        )
      )
    )
theorem e_X7_drawn_L63 {X : xX} {Z : zZ} {cn sn : Nat} {ρ : Type} {r : ρ} {k0 : mM → Option ρ} (G : ok_ X Z yX7_drawn cX7_drawn 9 4 0 0) (hcn : cn ≤ 0) (hsn : sn ≤ 0) (x0 : Nat) (x1 : Int32) (x3 : Int32)
    (hx0 : ∀ (N : mM), k0 N = some r → V X Z N cn sn 192 [some (.ref x0), none, none, some (.int x3), none, none, none, none, none] []) :
    ∀ (n : Nat) (M : mM) (x4 : Int64) (x6 : Int32), m_X7_drawn_L63 k0 x0 x1 x3 n M x4 x6 = some r → V X Z M cn sn 63 [some (.ref x0), some (.int x1), none, some (.int x3), some (.long x4), none, some (.int x6), none, none] [] := by
  intro n
  induction n with
  | zero => intro M x4 x6 h; rw [m_X7_drawn_L63] at h; cases h
  | succ n ih =>
    intro M x4 x6 h
    rw [m_X7_drawn_L63] at h
    refine v_iload G dX7_drawn_63 rfl ?_
    refine v_iload_n G dX7_drawn_65 rfl ?_
    refine v_ic_ge 192 G dX7_drawn_66 (by decide) (fun q17 => ?_) (fun q17 => ?_)
    · rw [if_pos q17] at h
      exact v_mask [true, false, false, true, false, false, false, false, false] rfl (hx0 _ h)
    · rw [if_neg q17] at h
      refine v_lload G dX7_drawn_69 rfl ?_
      refine v_ldc2 G (16807 : Int64) dX7_drawn_71 w1228 ?_
      refine v_lmul G dX7_drawn_74 ?_
      refine v_ldc2 G (2147483647 : Int64) dX7_drawn_75 w1229 ?_
      refine v_lrem G dX7_drawn_78 (by decide) ?_
      refine v_lstore [some (.ref x0), some (.int x1), none, some (.int x3), some (.long (lr_ (x4 * (16807 : Int64)) (2147483647 : Int64))), none, some (.int x6), none, none] G dX7_drawn_79 (Nat.le_of_ble_eq_true rfl) rfl rfl ?_
      refine v_lload G dX7_drawn_81 rfl ?_
      refine v_aload_n G dX7_drawn_83 rfl ?_
      obtain ⟨b18, q19, h⟩ := bi_ h
      refine v_getR (f := 7) G cl7 dX7_drawn_84 w846 (by decide) (by decide) q19 ?_
      refine v_iconst G (1 : Int32) dX7_drawn_87 (by decide) ?_
      obtain ⟨v21, q20, h⟩ := bi_ h
      refine v_iald G dX7_drawn_88 q20 ?_
      refine v_i2l G dX7_drawn_89 ?_
      obtain ⟨q22, h⟩ := in_ h
      refine v_lrem G dX7_drawn_90 q22 ?_
      refine v_l2i G dX7_drawn_91 ?_
      refine v_istore [some (.ref x0), some (.int x1), none, some (.int x3), some (.long (lr_ (x4 * (16807 : Int64)) (2147483647 : Int64))), none, some (.int x6), some (.int (Int64.toInt32 (lr_ (lr_ (x4 * (16807 : Int64)) (2147483647 : Int64)) (Int32.toInt64 v21)))), none] G dX7_drawn_92 (Nat.le_of_ble_eq_true rfl) rfl rfl ?_
      refine v_lload G dX7_drawn_94 rfl ?_
      refine v_ldc2 G (3 : Int64) dX7_drawn_96 w1230 ?_
      refine v_lrem G dX7_drawn_99 (by decide) ?_
      refine v_lconst G (0 : Int64) dX7_drawn_100 (by decide) ?_
      refine v_lcmp G dX7_drawn_101 ?_
      refine v_if_ne 126 G dX7_drawn_102 (by decide) (fun q23 => ?_) (fun q23 => ?_)
      · rw [if_neg q23] at h
        refine v_lload G dX7_drawn_126 rfl ?_
        refine v_ldc2 G (4 : Int64) dX7_drawn_128 w1231 ?_
        refine v_lrem G dX7_drawn_131 (by decide) ?_
        refine v_lconst G (0 : Int64) dX7_drawn_132 (by decide) ?_
        refine v_lcmp G dX7_drawn_133 ?_
        refine v_if_ne 177 G dX7_drawn_134 (by decide) (fun q24 => ?_) (fun q24 => ?_)
        · rw [if_neg q24] at h
          refine v_aload_n G dX7_drawn_177 rfl ?_
          refine v_aload_n G dX7_drawn_178 rfl ?_
          obtain ⟨b25, q26, h⟩ := bi_ h
          refine v_getR (f := 7) G cl7 dX7_drawn_179 w846 (by decide) (by decide) q26 ?_
          refine v_iconst G (0 : Int32) dX7_drawn_182 (by decide) ?_
          obtain ⟨q29, h⟩ := if_s h
          obtain ⟨M28, q27, h⟩ := bi_ h
          refine v_callV0 (e_X7_dayBy q27) G cl7 my_X7_dayBy rfl w1036 w40 w1034 dX7_drawn_183 q29 rfl (Nat.le_of_ble_eq_true rfl) rfl (Nat.le_of_ble_eq_true rfl) hcn hsn ?_
          refine v_iinc (x6 + (1 : Int32)) [some (.ref x0), some (.int x1), none, some (.int x3), some (.long (lr_ (x4 * (16807 : Int64)) (2147483647 : Int64))), none, some (.int (x6 + (1 : Int32))), some (.int (Int64.toInt32 (lr_ (lr_ (x4 * (16807 : Int64)) (2147483647 : Int64)) (Int32.toInt64 v21)))), none] G dX7_drawn_186 rfl rfl (Nat.le_of_ble_eq_true rfl) rfl rfl ?_
          refine v_goto 63 G dX7_drawn_189 (by decide) ?_
          exact v_mask [true, true, false, true, true, false, true, false, false] rfl (ih _ _ _ h)
        · rw [if_pos q24] at h
          refine v_lload G dX7_drawn_137 rfl ?_
          refine v_aload_n G dX7_drawn_139 rfl ?_
          obtain ⟨b30, q31, h⟩ := bi_ h
          refine v_getR (f := 7) G cl7 dX7_drawn_140 w846 (by decide) (by decide) q31 ?_
          refine v_iconst G (0 : Int32) dX7_drawn_143 (by decide) ?_
          obtain ⟨v33, q32, h⟩ := bi_ h
          refine v_iald G dX7_drawn_144 q32 ?_
          refine v_i2l G dX7_drawn_145 ?_
          obtain ⟨q34, h⟩ := in_ h
          refine v_lrem G dX7_drawn_146 q34 ?_
          refine v_l2i G dX7_drawn_147 ?_
          refine v_istore [some (.ref x0), some (.int x1), none, some (.int x3), some (.long (lr_ (x4 * (16807 : Int64)) (2147483647 : Int64))), none, some (.int x6), some (.int (Int64.toInt32 (lr_ (lr_ (x4 * (16807 : Int64)) (2147483647 : Int64)) (Int32.toInt64 v21)))), some (.int (Int64.toInt32 (lr_ (lr_ (x4 * (16807 : Int64)) (2147483647 : Int64)) (Int32.toInt64 v33))))] G dX7_drawn_148 (Nat.le_of_ble_eq_true rfl) rfl rfl ?_
          refine v_aload_n G dX7_drawn_150 rfl ?_
          obtain ⟨b35, q36, h⟩ := bi_ h
          refine v_getR (f := 7) G cl7 dX7_drawn_151 w846 (by decide) (by decide) q36 ?_
          refine v_iload G dX7_drawn_154 rfl ?_
          refine v_iconst G (2 : Int32) dX7_drawn_156 (by decide) ?_
          refine v_aload_n G dX7_drawn_157 rfl ?_
          obtain ⟨b37, q38, h⟩ := bi_ h
          refine v_getR (f := 7) G cl7 dX7_drawn_158 w846 (by decide) (by decide) q38 ?_
          refine v_iload G dX7_drawn_161 rfl ?_
          refine v_iconst G (2 : Int32) dX7_drawn_163 (by decide) ?_
          obtain ⟨v40, q39, h⟩ := bi_ h
          refine v_callS0 (e_X7_of q39) G my_X7_of w1045 w1044 dX7_drawn_164 rfl (Nat.le_of_ble_eq_true rfl) rfl (Nat.le_of_ble_eq_true rfl) hcn hsn ?_
          refine v_iconst G (1 : Int32) dX7_drawn_167 (by decide) ?_
          refine v_iload G dX7_drawn_168 rfl ?_
          refine v_ishl G dX7_drawn_170 ?_
          refine v_iconst G (-1 : Int32) dX7_drawn_171 (by decide) ?_
          refine v_ixor G dX7_drawn_172 ?_
          refine v_iand G dX7_drawn_173 ?_
          obtain ⟨M42, q41, h⟩ := bi_ h
          refine v_callS0 (e_X7_be q41) G my_X7_be w1054 w1053 dX7_drawn_174 rfl (Nat.le_of_ble_eq_true rfl) rfl (Nat.le_of_ble_eq_true rfl) hcn hsn ?_
          refine v_aload_n G dX7_drawn_177 rfl ?_
          refine v_aload_n G dX7_drawn_178 rfl ?_
          obtain ⟨b43, q44, h⟩ := bi_ h
          refine v_getR (f := 7) G cl7 dX7_drawn_179 w846 (by decide) (by decide) q44 ?_
          refine v_iconst G (0 : Int32) dX7_drawn_182 (by decide) ?_
          obtain ⟨q47, h⟩ := if_s h
          obtain ⟨M46, q45, h⟩ := bi_ h
          refine v_callV0 (e_X7_dayBy q45) G cl7 my_X7_dayBy rfl w1036 w40 w1034 dX7_drawn_183 q47 rfl (Nat.le_of_ble_eq_true rfl) rfl (Nat.le_of_ble_eq_true rfl) hcn hsn ?_
          refine v_iinc (x6 + (1 : Int32)) [some (.ref x0), some (.int x1), none, some (.int x3), some (.long (lr_ (x4 * (16807 : Int64)) (2147483647 : Int64))), none, some (.int (x6 + (1 : Int32))), some (.int (Int64.toInt32 (lr_ (lr_ (x4 * (16807 : Int64)) (2147483647 : Int64)) (Int32.toInt64 v21)))), some (.int (Int64.toInt32 (lr_ (lr_ (x4 * (16807 : Int64)) (2147483647 : Int64)) (Int32.toInt64 v33))))] G dX7_drawn_186 rfl rfl (Nat.le_of_ble_eq_true rfl) rfl rfl ?_
          refine v_goto 63 G dX7_drawn_189 (by decide) ?_
          exact v_mask [true, true, false, true, true, false, true, false, false] rfl (ih _ _ _ h)
      · rw [if_pos q23] at h
        refine v_aload_n G dX7_drawn_105 rfl ?_
        obtain ⟨b48, q49, h⟩ := bi_ h
        refine v_getR (f := 7) G cl7 dX7_drawn_106 w846 (by decide) (by decide) q49 ?_
        refine v_bipush G (11 : Int32) dX7_drawn_109 (by decide) ?_
        refine v_lload G dX7_drawn_111 rfl ?_
        refine v_aload_n G dX7_drawn_113 rfl ?_
        obtain ⟨b50, q51, h⟩ := bi_ h
        refine v_getR (f := 7) G cl7 dX7_drawn_114 w846 (by decide) (by decide) q51 ?_
        refine v_iconst G (2 : Int32) dX7_drawn_117 (by decide) ?_
        obtain ⟨v53, q52, h⟩ := bi_ h
        refine v_iald G dX7_drawn_118 q52 ?_
        refine v_i2l G dX7_drawn_119 ?_
        obtain ⟨q54, h⟩ := in_ h
        refine v_lrem G dX7_drawn_120 q54 ?_
        refine v_l2i G dX7_drawn_121 ?_
        refine v_iadd G dX7_drawn_122 ?_
        refine v_iload G dX7_drawn_123 rfl ?_
        obtain ⟨M55, q56, h⟩ := bi_ h
        refine v_iast G dX7_drawn_125 q56 ?_
        refine v_lload G dX7_drawn_126 rfl ?_
        refine v_ldc2 G (4 : Int64) dX7_drawn_128 w1231 ?_
        refine v_lrem G dX7_drawn_131 (by decide) ?_
        refine v_lconst G (0 : Int64) dX7_drawn_132 (by decide) ?_
        refine v_lcmp G dX7_drawn_133 ?_
        refine v_if_ne 177 G dX7_drawn_134 (by decide) (fun q57 => ?_) (fun q57 => ?_)
        · rw [if_neg q57] at h
          refine v_aload_n G dX7_drawn_177 rfl ?_
          refine v_aload_n G dX7_drawn_178 rfl ?_
          obtain ⟨b58, q59, h⟩ := bi_ h
          refine v_getR (f := 7) G cl7 dX7_drawn_179 w846 (by decide) (by decide) q59 ?_
          refine v_iconst G (0 : Int32) dX7_drawn_182 (by decide) ?_
          obtain ⟨q62, h⟩ := if_s h
          obtain ⟨M61, q60, h⟩ := bi_ h
          refine v_callV0 (e_X7_dayBy q60) G cl7 my_X7_dayBy rfl w1036 w40 w1034 dX7_drawn_183 q62 rfl (Nat.le_of_ble_eq_true rfl) rfl (Nat.le_of_ble_eq_true rfl) hcn hsn ?_
          refine v_iinc (x6 + (1 : Int32)) [some (.ref x0), some (.int x1), none, some (.int x3), some (.long (lr_ (x4 * (16807 : Int64)) (2147483647 : Int64))), none, some (.int (x6 + (1 : Int32))), some (.int (Int64.toInt32 (lr_ (lr_ (x4 * (16807 : Int64)) (2147483647 : Int64)) (Int32.toInt64 v21)))), none] G dX7_drawn_186 rfl rfl (Nat.le_of_ble_eq_true rfl) rfl rfl ?_
          refine v_goto 63 G dX7_drawn_189 (by decide) ?_
          exact v_mask [true, true, false, true, true, false, true, false, false] rfl (ih _ _ _ h)
        · rw [if_pos q57] at h
          refine v_lload G dX7_drawn_137 rfl ?_
          refine v_aload_n G dX7_drawn_139 rfl ?_
          obtain ⟨b63, q64, h⟩ := bi_ h
          refine v_getR (f := 7) G cl7 dX7_drawn_140 w846 (by decide) (by decide) q64 ?_
          refine v_iconst G (0 : Int32) dX7_drawn_143 (by decide) ?_
          obtain ⟨v66, q65, h⟩ := bi_ h
          refine v_iald G dX7_drawn_144 q65 ?_
          refine v_i2l G dX7_drawn_145 ?_
          obtain ⟨q67, h⟩ := in_ h
          refine v_lrem G dX7_drawn_146 q67 ?_
          refine v_l2i G dX7_drawn_147 ?_
          refine v_istore [some (.ref x0), some (.int x1), none, some (.int x3), some (.long (lr_ (x4 * (16807 : Int64)) (2147483647 : Int64))), none, some (.int x6), some (.int (Int64.toInt32 (lr_ (lr_ (x4 * (16807 : Int64)) (2147483647 : Int64)) (Int32.toInt64 v21)))), some (.int (Int64.toInt32 (lr_ (lr_ (x4 * (16807 : Int64)) (2147483647 : Int64)) (Int32.toInt64 v66))))] G dX7_drawn_148 (Nat.le_of_ble_eq_true rfl) rfl rfl ?_
          refine v_aload_n G dX7_drawn_150 rfl ?_
          obtain ⟨b68, q69, h⟩ := bi_ h
          refine v_getR (f := 7) G cl7 dX7_drawn_151 w846 (by decide) (by decide) q69 ?_
          refine v_iload G dX7_drawn_154 rfl ?_
          refine v_iconst G (2 : Int32) dX7_drawn_156 (by decide) ?_
          refine v_aload_n G dX7_drawn_157 rfl ?_
          obtain ⟨b70, q71, h⟩ := bi_ h
          refine v_getR (f := 7) G cl7 dX7_drawn_158 w846 (by decide) (by decide) q71 ?_
          refine v_iload G dX7_drawn_161 rfl ?_
          refine v_iconst G (2 : Int32) dX7_drawn_163 (by decide) ?_
          obtain ⟨v73, q72, h⟩ := bi_ h
          refine v_callS0 (e_X7_of q72) G my_X7_of w1045 w1044 dX7_drawn_164 rfl (Nat.le_of_ble_eq_true rfl) rfl (Nat.le_of_ble_eq_true rfl) hcn hsn ?_
          refine v_iconst G (1 : Int32) dX7_drawn_167 (by decide) ?_
          refine v_iload G dX7_drawn_168 rfl ?_
          refine v_ishl G dX7_drawn_170 ?_
          refine v_iconst G (-1 : Int32) dX7_drawn_171 (by decide) ?_
          refine v_ixor G dX7_drawn_172 ?_
          refine v_iand G dX7_drawn_173 ?_
          obtain ⟨M75, q74, h⟩ := bi_ h
          refine v_callS0 (e_X7_be q74) G my_X7_be w1054 w1053 dX7_drawn_174 rfl (Nat.le_of_ble_eq_true rfl) rfl (Nat.le_of_ble_eq_true rfl) hcn hsn ?_
          refine v_aload_n G dX7_drawn_177 rfl ?_
          refine v_aload_n G dX7_drawn_178 rfl ?_
          obtain ⟨b76, q77, h⟩ := bi_ h
          refine v_getR (f := 7) G cl7 dX7_drawn_179 w846 (by decide) (by decide) q77 ?_
          refine v_iconst G (0 : Int32) dX7_drawn_182 (by decide) ?_
          obtain ⟨q80, h⟩ := if_s h
          obtain ⟨M79, q78, h⟩ := bi_ h
          refine v_callV0 (e_X7_dayBy q78) G cl7 my_X7_dayBy rfl w1036 w40 w1034 dX7_drawn_183 q80 rfl (Nat.le_of_ble_eq_true rfl) rfl (Nat.le_of_ble_eq_true rfl) hcn hsn ?_
          refine v_iinc (x6 + (1 : Int32)) [some (.ref x0), some (.int x1), none, some (.int x3), some (.long (lr_ (x4 * (16807 : Int64)) (2147483647 : Int64))), none, some (.int (x6 + (1 : Int32))), some (.int (Int64.toInt32 (lr_ (lr_ (x4 * (16807 : Int64)) (2147483647 : Int64)) (Int32.toInt64 v21)))), some (.int (Int64.toInt32 (lr_ (lr_ (x4 * (16807 : Int64)) (2147483647 : Int64)) (Int32.toInt64 v66))))] G dX7_drawn_186 rfl rfl (Nat.le_of_ble_eq_true rfl) rfl rfl ?_
          refine v_goto 63 G dX7_drawn_189 (by decide) ?_
          exact v_mask [true, true, false, true, true, false, true, false, false] rfl (ih _ _ _ h)
def m_X7_drawn (M : mM) (x0 : Nat) (x1 : Int32) (x2 : Int32) (x3 : Int32) : Option (mM × Int32) :=
  (pI M x0 7 0 (0 : Int32)).bind fun M1 =>
  if isO M1 x0 7 = true then
  (m_X7_isThere M1 x0).bind fun v4 =>
  if v4 = (0 : Int32) then (
    some (M1, (-1000002 : Int32))
  ) else (
    (m_X7_in M1 (Int32.toInt64 x1) (0 : Int64) (60 : Int64)).bind fun v7 =>
    if v7 = (0 : Int32) then (
      some (M1, (-1000001 : Int32))
    ) else (
      (m_X7_in M1 (Int32.toInt64 x2) (1 : Int64) (999999 : Int64)).bind fun v10 =>
      if v10 = (0 : Int32) then (
        some (M1, (-1000001 : Int32))
      ) else (
        (m_X7_in M1 (Int32.toInt64 x3) (0 : Int64) (1 : Int64)).bind fun v13 =>
        if v13 = (0 : Int32) then (
          some (M1, (-1000001 : Int32))
        ) else (
          if isO M1 x0 7 = true then
          (m_X7_layThen M1 x0).bind fun M16 =>
          m_X7_drawn_L63
            (fun M81 =>
              if x3 = (0 : Int32) then (
                (gR M81 x0 7 7).bind fun b87 =>
                (m_X7_known M81 b87).bind fun v90 =>
                some (M81, v90)
              ) else (
                (gR M81 x0 7 7).bind fun b83 =>
                (m_X7_knownBy M81 b83 (1 : Int32)).bind fun v86 =>
                some (M81, v86)
              ))
            x0 x1 x3 FU M16 (Int32.toInt64 x2) (0 : Int32)
          else none
        )
      )
    )
  )
  else none
theorem e_X7_drawn {Z : zZ} {M : mM} {N : mM} {x0 : Nat} {x1 : Int32} {x2 : Int32} {x3 : Int32} {r : Int32} (h : m_X7_drawn M x0 x1 x2 x3 = some (N, r)) : EM Z yX7_drawn cX7_drawn 9 (some .int) 4 0 0 [.ref x0, .int x1, .int x2, .int x3] M N (some (.int r)) := by
  refine EM_of my_X7_drawn (Nat.le_of_ble_eq_true rfl) (fun X G F => ?_)
  show V X Z M 0 0 0 [some (.ref x0), some (.int x1), some (.int x2), some (.int x3), none, none, none, none, none] []
  unfold m_X7_drawn at h
  refine v_aload_n G dX7_drawn_0 rfl ?_
  refine v_iconst G (0 : Int32) dX7_drawn_1 (by decide) ?_
  obtain ⟨M1, q2, h⟩ := bi_ h
  refine v_putI (f := 0) G cl7 dX7_drawn_2 w839 (by decide) (by decide) (by decide) rfl rfl q2 ?_
  refine v_aload_n G dX7_drawn_5 rfl ?_
  obtain ⟨q92, h⟩ := if_s h
  obtain ⟨v4, q3, h⟩ := bi_ h
  refine v_callV0 (e_X7_isThere q3) G cl7 my_X7_isThere rfl w1026 w38 w1024 dX7_drawn_6 q92 rfl (Nat.le_of_ble_eq_true rfl) rfl (Nat.le_of_ble_eq_true rfl) (Nat.zero_le _) (Nat.zero_le _) ?_
  refine v_if_ne 15 G dX7_drawn_9 (by decide) (fun q5 => ?_) (fun q5 => ?_)
  · rw [if_neg q5] at h
    refine v_iload_n G dX7_drawn_15 rfl ?_
    refine v_i2l G dX7_drawn_16 ?_
    refine v_lconst G (0 : Int64) dX7_drawn_17 (by decide) ?_
    refine v_ldc2 G (60 : Int64) dX7_drawn_18 w1127 ?_
    obtain ⟨v7, q6, h⟩ := bi_ h
    refine v_callS0 (e_X7_in q6) G my_X7_in w928 w927 dX7_drawn_21 rfl (Nat.le_of_ble_eq_true rfl) rfl (Nat.le_of_ble_eq_true rfl) (Nat.zero_le _) (Nat.zero_le _) ?_
    refine v_if_eq 49 G dX7_drawn_24 (by decide) (fun q8 => ?_) (fun q8 => ?_)
    · rw [if_pos q8] at h
      refine v_ldc G (-1000001 : Int32) dX7_drawn_49 w931 ?_
      cases h
      exact v_iret G F dX7_drawn_51 rfl (Nat.le_refl _)
    · rw [if_neg q8] at h
      refine v_iload_n G dX7_drawn_27 rfl ?_
      refine v_i2l G dX7_drawn_28 ?_
      refine v_lconst G (1 : Int64) dX7_drawn_29 (by decide) ?_
      refine v_ldc2 G (999999 : Int64) dX7_drawn_30 w1227 ?_
      obtain ⟨v10, q9, h⟩ := bi_ h
      refine v_callS0 (e_X7_in q9) G my_X7_in w928 w927 dX7_drawn_33 rfl (Nat.le_of_ble_eq_true rfl) rfl (Nat.le_of_ble_eq_true rfl) (Nat.zero_le _) (Nat.zero_le _) ?_
      refine v_if_eq 49 G dX7_drawn_36 (by decide) (fun q11 => ?_) (fun q11 => ?_)
      · rw [if_pos q11] at h
        refine v_ldc G (-1000001 : Int32) dX7_drawn_49 w931 ?_
        cases h
        exact v_iret G F dX7_drawn_51 rfl (Nat.le_refl _)
      · rw [if_neg q11] at h
        refine v_iload_n G dX7_drawn_39 rfl ?_
        refine v_i2l G dX7_drawn_40 ?_
        refine v_lconst G (0 : Int64) dX7_drawn_41 (by decide) ?_
        refine v_lconst G (1 : Int64) dX7_drawn_42 (by decide) ?_
        obtain ⟨v13, q12, h⟩ := bi_ h
        refine v_callS0 (e_X7_in q12) G my_X7_in w928 w927 dX7_drawn_43 rfl (Nat.le_of_ble_eq_true rfl) rfl (Nat.le_of_ble_eq_true rfl) (Nat.zero_le _) (Nat.zero_le _) ?_
        refine v_if_ne 52 G dX7_drawn_46 (by decide) (fun q14 => ?_) (fun q14 => ?_)
        · rw [if_neg q14] at h
          refine v_aload_n G dX7_drawn_52 rfl ?_
          obtain ⟨q91, h⟩ := if_s h
          obtain ⟨M16, q15, h⟩ := bi_ h
          refine v_callV0 (e_X7_layThen q15) G cl7 my_X7_layThen rfl w1134 w46 w1132 dX7_drawn_53 q91 rfl (Nat.le_of_ble_eq_true rfl) rfl (Nat.le_of_ble_eq_true rfl) (Nat.zero_le _) (Nat.zero_le _) ?_
          refine v_iload_n G dX7_drawn_56 rfl ?_
          refine v_i2l G dX7_drawn_57 ?_
          refine v_lstore [some (.ref x0), some (.int x1), some (.int x2), some (.int x3), some (.long (Int32.toInt64 x2)), none, none, none, none] G dX7_drawn_58 (Nat.le_of_ble_eq_true rfl) rfl rfl ?_
          refine v_iconst G (0 : Int32) dX7_drawn_60 (by decide) ?_
          refine v_istore [some (.ref x0), some (.int x1), some (.int x2), some (.int x3), some (.long (Int32.toInt64 x2)), none, some (.int (0 : Int32)), none, none] G dX7_drawn_61 (Nat.le_of_ble_eq_true rfl) rfl rfl ?_
          refine v_mask [true, true, false, true, true, false, true, false, false] rfl ?_
          refine e_X7_drawn_L63 G (Nat.zero_le _) (Nat.zero_le _) _ _ _ (fun M81 h => ?_) FU _ _ _ h
          refine v_iload_n G dX7_drawn_192 rfl ?_
          refine v_if_ne 206 G dX7_drawn_193 (by decide) (fun q82 => ?_) (fun q82 => ?_)
          · rw [if_neg q82] at h
            refine v_aload_n G dX7_drawn_206 rfl ?_
            obtain ⟨b83, q84, h⟩ := bi_ h
            refine v_getR (f := 7) G cl7 dX7_drawn_207 w846 (by decide) (by decide) q84 ?_
            refine v_iconst G (1 : Int32) dX7_drawn_210 (by decide) ?_
            obtain ⟨v86, q85, h⟩ := bi_ h
            refine v_callS0 (e_X7_knownBy q85) G my_X7_knownBy w1149 w1148 dX7_drawn_211 rfl (Nat.le_of_ble_eq_true rfl) rfl (Nat.le_of_ble_eq_true rfl) (Nat.zero_le _) (Nat.zero_le _) ?_
            cases h
            exact v_iret G F dX7_drawn_214 rfl (Nat.le_refl _)
          · rw [if_pos q82] at h
            refine v_aload_n G dX7_drawn_196 rfl ?_
            obtain ⟨b87, q88, h⟩ := bi_ h
            refine v_getR (f := 7) G cl7 dX7_drawn_197 w846 (by decide) (by decide) q88 ?_
            obtain ⟨v90, q89, h⟩ := bi_ h
            refine v_callS0 (e_X7_known q89) G my_X7_known w1066 w1065 dX7_drawn_200 rfl (Nat.le_of_ble_eq_true rfl) rfl (Nat.le_of_ble_eq_true rfl) (Nat.zero_le _) (Nat.zero_le _) ?_
            refine v_goto 214 G dX7_drawn_203 (by decide) ?_
            cases h
            exact v_iret G F dX7_drawn_214 rfl (Nat.le_refl _)
        · rw [if_pos q14] at h
          refine v_ldc G (-1000001 : Int32) dX7_drawn_49 w931 ?_
          cases h
          exact v_iret G F dX7_drawn_51 rfl (Nat.le_refl _)
  · rw [if_pos q5] at h
    refine v_ldc G (-1000002 : Int32) dX7_drawn_12 w1028 ?_
    cases h
    exact v_iret G F dX7_drawn_14 rfl (Nat.le_refl _)
/-! X7_image -/
def m_X7_image_L30 {ρ : Type} (k0 : mM → Option ρ) (x0 : Nat) (x1 : Int32) : Nat → mM → Int32 → Option ρ
  | 0, _, _ => none
  | n + 1, M, x2 =>
    if (73 : Int32) ≤ x2 then (
      k0 M
    ) else (
      (gR M x0 7 23).bind fun b10 =>
      (gR M x0 7 5).bind fun b12 =>
      (ldI M b12 x2).bind fun v15 =>
      (stI M b10 (((73 : Int32) * x1) + x2) v15).bind fun M16 =>
      m_X7_image_L30 k0 x0 x1 n M16 (x2 + (1 : Int32))
    )
theorem e_X7_image_L30 {X : xX} {Z : zZ} {cn sn : Nat} {ρ : Type} {r : ρ} {k0 : mM → Option ρ} (G : ok_ X Z yX7_image cX7_image 3 1 0 0) (hcn : cn ≤ 0) (hsn : sn ≤ 0) (x0 : Nat) (x1 : Int32)
    (hx0 : ∀ (N : mM), k0 N = some r → V X Z N cn sn 59 [some (.ref x0), some (.int x1), none] []) :
    ∀ (n : Nat) (M : mM) (x2 : Int32), m_X7_image_L30 k0 x0 x1 n M x2 = some r → V X Z M cn sn 30 [some (.ref x0), some (.int x1), some (.int x2)] [] := by
  intro n
  induction n with
  | zero => intro M x2 h; rw [m_X7_image_L30] at h; cases h
  | succ n ih =>
    intro M x2 h
    rw [m_X7_image_L30] at h
    refine v_iload_n G dX7_image_30 rfl ?_
    refine v_bipush G (73 : Int32) dX7_image_31 (by decide) ?_
    refine v_ic_ge 59 G dX7_image_33 (by decide) (fun q9 => ?_) (fun q9 => ?_)
    · rw [if_pos q9] at h
      exact v_mask [true, true, false] rfl (hx0 _ h)
    · rw [if_neg q9] at h
      refine v_aload_n G dX7_image_36 rfl ?_
      obtain ⟨b10, q11, h⟩ := bi_ h
      refine v_getR (f := 23) G cl7 dX7_image_37 w862 (by decide) (by decide) q11 ?_
      refine v_bipush G (73 : Int32) dX7_image_40 (by decide) ?_
      refine v_iload_n G dX7_image_42 rfl ?_
      refine v_imul G dX7_image_43 ?_
      refine v_iload_n G dX7_image_44 rfl ?_
      refine v_iadd G dX7_image_45 ?_
      refine v_aload_n G dX7_image_46 rfl ?_
      obtain ⟨b12, q13, h⟩ := bi_ h
      refine v_getR (f := 5) G cl7 dX7_image_47 w844 (by decide) (by decide) q13 ?_
      refine v_iload_n G dX7_image_50 rfl ?_
      obtain ⟨v15, q14, h⟩ := bi_ h
      refine v_iald G dX7_image_51 q14 ?_
      obtain ⟨M16, q17, h⟩ := bi_ h
      refine v_iast G dX7_image_52 q17 ?_
      refine v_iinc (x2 + (1 : Int32)) [some (.ref x0), some (.int x1), some (.int (x2 + (1 : Int32)))] G dX7_image_53 rfl rfl (Nat.le_of_ble_eq_true rfl) rfl rfl ?_
      refine v_goto 30 G dX7_image_56 (by decide) ?_
      exact v_mask [true, true, true] rfl (ih _ _ h)
def m_X7_image (M : mM) (x0 : Nat) (x1 : Int32) : Option (mM × Int32) :=
  (pI M x0 7 0 (0 : Int32)).bind fun M1 =>
  (m_X7_in M1 (Int32.toInt64 x1) (0 : Int64) (1 : Int64)).bind fun v4 =>
  if v4 = (0 : Int32) then (
    some (M1, (-1000001 : Int32))
  ) else (
    if isO M1 x0 7 = true then
    (m_X7_isThere M1 x0).bind fun v7 =>
    if v7 = (0 : Int32) then (
      some (M1, (-1000002 : Int32))
    ) else (
      m_X7_image_L30
        (fun M18 =>
          (gR M18 x0 7 22).bind fun b19 =>
          (stZ M18 b19 x1 (1 : Int32)).bind fun M21 =>
          some (M21, (1 : Int32)))
        x0 x1 FU M1 (0 : Int32)
    )
    else none
  )
theorem e_X7_image {Z : zZ} {M : mM} {N : mM} {x0 : Nat} {x1 : Int32} {r : Int32} (h : m_X7_image M x0 x1 = some (N, r)) : EM Z yX7_image cX7_image 3 (some .int) 1 0 0 [.ref x0, .int x1] M N (some (.int r)) := by
  refine EM_of my_X7_image (Nat.le_of_ble_eq_true rfl) (fun X G F => ?_)
  show V X Z M 0 0 0 [some (.ref x0), some (.int x1), none] []
  unfold m_X7_image at h
  refine v_aload_n G dX7_image_0 rfl ?_
  refine v_iconst G (0 : Int32) dX7_image_1 (by decide) ?_
  obtain ⟨M1, q2, h⟩ := bi_ h
  refine v_putI (f := 0) G cl7 dX7_image_2 w839 (by decide) (by decide) (by decide) rfl rfl q2 ?_
  refine v_iload_n G dX7_image_5 rfl ?_
  refine v_i2l G dX7_image_6 ?_
  refine v_lconst G (0 : Int64) dX7_image_7 (by decide) ?_
  refine v_lconst G (1 : Int64) dX7_image_8 (by decide) ?_
  obtain ⟨v4, q3, h⟩ := bi_ h
  refine v_callS0 (e_X7_in q3) G my_X7_in w928 w927 dX7_image_9 rfl (Nat.le_of_ble_eq_true rfl) rfl (Nat.le_of_ble_eq_true rfl) (Nat.zero_le _) (Nat.zero_le _) ?_
  refine v_if_ne 18 G dX7_image_12 (by decide) (fun q5 => ?_) (fun q5 => ?_)
  · rw [if_neg q5] at h
    refine v_aload_n G dX7_image_18 rfl ?_
    obtain ⟨q23, h⟩ := if_s h
    obtain ⟨v7, q6, h⟩ := bi_ h
    refine v_callV0 (e_X7_isThere q6) G cl7 my_X7_isThere rfl w1026 w38 w1024 dX7_image_19 q23 rfl (Nat.le_of_ble_eq_true rfl) rfl (Nat.le_of_ble_eq_true rfl) (Nat.zero_le _) (Nat.zero_le _) ?_
    refine v_if_ne 28 G dX7_image_22 (by decide) (fun q8 => ?_) (fun q8 => ?_)
    · rw [if_neg q8] at h
      refine v_iconst G (0 : Int32) dX7_image_28 (by decide) ?_
      refine v_istore_n [some (.ref x0), some (.int x1), some (.int (0 : Int32))] G dX7_image_29 (Nat.le_of_ble_eq_true rfl) rfl rfl ?_
      refine v_mask [true, true, true] rfl ?_
      refine e_X7_image_L30 G (Nat.zero_le _) (Nat.zero_le _) _ _ (fun M18 h => ?_) FU _ _ h
      refine v_aload_n G dX7_image_59 rfl ?_
      obtain ⟨b19, q20, h⟩ := bi_ h
      refine v_getR (f := 22) G cl7 dX7_image_60 w861 (by decide) (by decide) q20 ?_
      refine v_iload_n G dX7_image_63 rfl ?_
      refine v_iconst G (1 : Int32) dX7_image_64 (by decide) ?_
      obtain ⟨M21, q22, h⟩ := bi_ h
      refine v_zast G dX7_image_65 q22 ?_
      refine v_iconst G (1 : Int32) dX7_image_66 (by decide) ?_
      cases h
      exact v_iret G F dX7_image_67 rfl (Nat.le_refl _)
    · rw [if_pos q8] at h
      refine v_ldc G (-1000002 : Int32) dX7_image_25 w1028 ?_
      cases h
      exact v_iret G F dX7_image_27 rfl (Nat.le_refl _)
  · rw [if_pos q5] at h
    refine v_ldc G (-1000001 : Int32) dX7_image_15 w931 ?_
    cases h
    exact v_iret G F dX7_image_17 rfl (Nat.le_refl _)
/-! X7_restore -/
def m_X7_restore_L32 {ρ : Type} (k0 : mM → Option ρ) (x0 : Nat) (x1 : Int32) : Nat → mM → Int32 → Option ρ
  | 0, _, _ => none
  | n + 1, M, x2 =>
    if (73 : Int32) ≤ x2 then (
      k0 M
    ) else (
      (gR M x0 7 5).bind fun b12 =>
      (gR M x0 7 23).bind fun b14 =>
      (ldI M b14 (((73 : Int32) * x1) + x2)).bind fun v17 =>
      (stI M b12 x2 v17).bind fun M18 =>
      m_X7_restore_L32 k0 x0 x1 n M18 (x2 + (1 : Int32))
    )
theorem e_X7_restore_L32 {X : xX} {Z : zZ} {cn sn : Nat} {ρ : Type} {r : ρ} {k0 : mM → Option ρ} (G : ok_ X Z yX7_restore cX7_restore 3 1 0 0) (hcn : cn ≤ 0) (hsn : sn ≤ 0) (x0 : Nat) (x1 : Int32)
    (hx0 : ∀ (N : mM), k0 N = some r → V X Z N cn sn 61 [some (.ref x0), none, none] []) :
    ∀ (n : Nat) (M : mM) (x2 : Int32), m_X7_restore_L32 k0 x0 x1 n M x2 = some r → V X Z M cn sn 32 [some (.ref x0), some (.int x1), some (.int x2)] [] := by
  intro n
  induction n with
  | zero => intro M x2 h; rw [m_X7_restore_L32] at h; cases h
  | succ n ih =>
    intro M x2 h
    rw [m_X7_restore_L32] at h
    refine v_iload_n G dX7_restore_32 rfl ?_
    refine v_bipush G (73 : Int32) dX7_restore_33 (by decide) ?_
    refine v_ic_ge 61 G dX7_restore_35 (by decide) (fun q11 => ?_) (fun q11 => ?_)
    · rw [if_pos q11] at h
      exact v_mask [true, false, false] rfl (hx0 _ h)
    · rw [if_neg q11] at h
      refine v_aload_n G dX7_restore_38 rfl ?_
      obtain ⟨b12, q13, h⟩ := bi_ h
      refine v_getR (f := 5) G cl7 dX7_restore_39 w844 (by decide) (by decide) q13 ?_
      refine v_iload_n G dX7_restore_42 rfl ?_
      refine v_aload_n G dX7_restore_43 rfl ?_
      obtain ⟨b14, q15, h⟩ := bi_ h
      refine v_getR (f := 23) G cl7 dX7_restore_44 w862 (by decide) (by decide) q15 ?_
      refine v_bipush G (73 : Int32) dX7_restore_47 (by decide) ?_
      refine v_iload_n G dX7_restore_49 rfl ?_
      refine v_imul G dX7_restore_50 ?_
      refine v_iload_n G dX7_restore_51 rfl ?_
      refine v_iadd G dX7_restore_52 ?_
      obtain ⟨v17, q16, h⟩ := bi_ h
      refine v_iald G dX7_restore_53 q16 ?_
      obtain ⟨M18, q19, h⟩ := bi_ h
      refine v_iast G dX7_restore_54 q19 ?_
      refine v_iinc (x2 + (1 : Int32)) [some (.ref x0), some (.int x1), some (.int (x2 + (1 : Int32)))] G dX7_restore_55 rfl rfl (Nat.le_of_ble_eq_true rfl) rfl rfl ?_
      refine v_goto 32 G dX7_restore_58 (by decide) ?_
      exact v_mask [true, true, true] rfl (ih _ _ h)
def m_X7_restore (M : mM) (x0 : Nat) (x1 : Int32) : Option (mM × Int32) :=
  (pI M x0 7 0 (0 : Int32)).bind fun M1 =>
  (m_X7_in M1 (Int32.toInt64 x1) (0 : Int64) (1 : Int64)).bind fun v4 =>
  if v4 = (0 : Int32) then (
    some (M1, (-1000001 : Int32))
  ) else (
    (gR M1 x0 7 22).bind fun b6 =>
    (ldZ M1 b6 x1).bind fun v9 =>
    if v9 = (0 : Int32) then (
      some (M1, (-1000002 : Int32))
    ) else (
      m_X7_restore_L32
        (fun M20 =>
          (pI M20 x0 7 9 (0 : Int32)).bind fun M21 =>
          some (M21, (1 : Int32)))
        x0 x1 FU M1 (0 : Int32)
    )
  )
theorem e_X7_restore {Z : zZ} {M : mM} {N : mM} {x0 : Nat} {x1 : Int32} {r : Int32} (h : m_X7_restore M x0 x1 = some (N, r)) : EM Z yX7_restore cX7_restore 3 (some .int) 1 0 0 [.ref x0, .int x1] M N (some (.int r)) := by
  refine EM_of my_X7_restore (Nat.le_of_ble_eq_true rfl) (fun X G F => ?_)
  show V X Z M 0 0 0 [some (.ref x0), some (.int x1), none] []
  unfold m_X7_restore at h
  refine v_aload_n G dX7_restore_0 rfl ?_
  refine v_iconst G (0 : Int32) dX7_restore_1 (by decide) ?_
  obtain ⟨M1, q2, h⟩ := bi_ h
  refine v_putI (f := 0) G cl7 dX7_restore_2 w839 (by decide) (by decide) (by decide) rfl rfl q2 ?_
  refine v_iload_n G dX7_restore_5 rfl ?_
  refine v_i2l G dX7_restore_6 ?_
  refine v_lconst G (0 : Int64) dX7_restore_7 (by decide) ?_
  refine v_lconst G (1 : Int64) dX7_restore_8 (by decide) ?_
  obtain ⟨v4, q3, h⟩ := bi_ h
  refine v_callS0 (e_X7_in q3) G my_X7_in w928 w927 dX7_restore_9 rfl (Nat.le_of_ble_eq_true rfl) rfl (Nat.le_of_ble_eq_true rfl) (Nat.zero_le _) (Nat.zero_le _) ?_
  refine v_if_ne 18 G dX7_restore_12 (by decide) (fun q5 => ?_) (fun q5 => ?_)
  · rw [if_neg q5] at h
    refine v_aload_n G dX7_restore_18 rfl ?_
    obtain ⟨b6, q7, h⟩ := bi_ h
    refine v_getR (f := 22) G cl7 dX7_restore_19 w861 (by decide) (by decide) q7 ?_
    refine v_iload_n G dX7_restore_22 rfl ?_
    obtain ⟨v9, q8, h⟩ := bi_ h
    refine v_zald G dX7_restore_23 q8 ?_
    refine v_if_ne 30 G dX7_restore_24 (by decide) (fun q10 => ?_) (fun q10 => ?_)
    · rw [if_neg q10] at h
      refine v_iconst G (0 : Int32) dX7_restore_30 (by decide) ?_
      refine v_istore_n [some (.ref x0), some (.int x1), some (.int (0 : Int32))] G dX7_restore_31 (Nat.le_of_ble_eq_true rfl) rfl rfl ?_
      refine v_mask [true, true, true] rfl ?_
      refine e_X7_restore_L32 G (Nat.zero_le _) (Nat.zero_le _) _ _ (fun M20 h => ?_) FU _ _ h
      refine v_aload_n G dX7_restore_61 rfl ?_
      refine v_iconst G (0 : Int32) dX7_restore_62 (by decide) ?_
      obtain ⟨M21, q22, h⟩ := bi_ h
      refine v_putI (f := 9) G cl7 dX7_restore_63 w848 (by decide) (by decide) (by decide) rfl rfl q22 ?_
      refine v_iconst G (1 : Int32) dX7_restore_66 (by decide) ?_
      cases h
      exact v_iret G F dX7_restore_67 rfl (Nat.le_refl _)
    · rw [if_pos q10] at h
      refine v_ldc G (-1000002 : Int32) dX7_restore_27 w1028 ?_
      cases h
      exact v_iret G F dX7_restore_29 rfl (Nat.le_refl _)
  · rw [if_pos q5] at h
    refine v_ldc G (-1000001 : Int32) dX7_restore_15 w931 ?_
    cases h
    exact v_iret G F dX7_restore_17 rfl (Nat.le_refl _)
/-! X7_isOf -/
def m_X7_isOf (M : mM) (x0 : Int32) (x1 : Int32) : Option Int32 :=
  if x1 = (0 : Int32) then (
    some (1 : Int32)
  ) else (
    if x0 = x1 then (
      some (1 : Int32)
    ) else (
      if x1 = (1 : Int32) then (
        if x0 < (4 : Int32) then (
          some (1 : Int32)
        ) else (
          if x1 = (4 : Int32) then (
            if x0 = (5 : Int32) then (
              some (1 : Int32)
            ) else (
              some (0 : Int32)
            )
          ) else (
            some (0 : Int32)
          )
        )
      ) else (
        if x1 = (4 : Int32) then (
          if x0 = (5 : Int32) then (
            some (1 : Int32)
          ) else (
            some (0 : Int32)
          )
        ) else (
          some (0 : Int32)
        )
      )
    )
  )
theorem e_X7_isOf {Z : zZ} {M : mM} {x0 : Int32} {x1 : Int32} {r : Int32} (h : m_X7_isOf M x0 x1 = some r) : EM Z yX7_isOf cX7_isOf 2 (some .boolean) 0 0 0 [.int x0, .int x1] M M (some (.int r)) := by
  refine EM_of my_X7_isOf (Nat.le_of_ble_eq_true rfl) (fun X G F => ?_)
  show V X Z M 0 0 0 [some (.int x0), some (.int x1)] []
  unfold m_X7_isOf at h
  refine v_iload_n G dX7_isOf_0 rfl ?_
  refine v_if_eq 29 G dX7_isOf_1 (by decide) (fun q1 => ?_) (fun q1 => ?_)
  · rw [if_pos q1] at h
    refine v_iconst G (1 : Int32) dX7_isOf_29 (by decide) ?_
    refine v_goto 34 G dX7_isOf_30 (by decide) ?_
    cases h
    exact v_zret G F rfl dX7_isOf_34 rfl (Nat.le_refl _)
  · rw [if_neg q1] at h
    refine v_iload_n G dX7_isOf_4 rfl ?_
    refine v_iload_n G dX7_isOf_5 rfl ?_
    refine v_ic_eq 29 G dX7_isOf_6 (by decide) (fun q2 => ?_) (fun q2 => ?_)
    · rw [if_pos q2] at h
      refine v_iconst G (1 : Int32) dX7_isOf_29 (by decide) ?_
      refine v_goto 34 G dX7_isOf_30 (by decide) ?_
      cases h
      exact v_zret G F rfl dX7_isOf_34 rfl (Nat.le_refl _)
    · rw [if_neg q2] at h
      refine v_iload_n G dX7_isOf_9 rfl ?_
      refine v_iconst G (1 : Int32) dX7_isOf_10 (by decide) ?_
      refine v_ic_ne 19 G dX7_isOf_11 (by decide) (fun q3 => ?_) (fun q3 => ?_)
      · rw [if_neg q3] at h
        refine v_iload_n G dX7_isOf_19 rfl ?_
        refine v_iconst G (4 : Int32) dX7_isOf_20 (by decide) ?_
        refine v_ic_ne 33 G dX7_isOf_21 (by decide) (fun q4 => ?_) (fun q4 => ?_)
        · rw [if_neg q4] at h
          refine v_iconst G (0 : Int32) dX7_isOf_33 (by decide) ?_
          cases h
          exact v_zret G F rfl dX7_isOf_34 rfl (Nat.le_refl _)
        · rw [if_pos q4] at h
          refine v_iload_n G dX7_isOf_24 rfl ?_
          refine v_iconst G (5 : Int32) dX7_isOf_25 (by decide) ?_
          refine v_ic_ne 33 G dX7_isOf_26 (by decide) (fun q5 => ?_) (fun q5 => ?_)
          · rw [if_neg q5] at h
            refine v_iconst G (0 : Int32) dX7_isOf_33 (by decide) ?_
            cases h
            exact v_zret G F rfl dX7_isOf_34 rfl (Nat.le_refl _)
          · rw [if_pos q5] at h
            refine v_iconst G (1 : Int32) dX7_isOf_29 (by decide) ?_
            refine v_goto 34 G dX7_isOf_30 (by decide) ?_
            cases h
            exact v_zret G F rfl dX7_isOf_34 rfl (Nat.le_refl _)
      · rw [if_pos q3] at h
        refine v_iload_n G dX7_isOf_14 rfl ?_
        refine v_iconst G (4 : Int32) dX7_isOf_15 (by decide) ?_
        refine v_ic_lt 29 G dX7_isOf_16 (by decide) (fun q6 => ?_) (fun q6 => ?_)
        · rw [if_pos q6] at h
          refine v_iconst G (1 : Int32) dX7_isOf_29 (by decide) ?_
          refine v_goto 34 G dX7_isOf_30 (by decide) ?_
          cases h
          exact v_zret G F rfl dX7_isOf_34 rfl (Nat.le_refl _)
        · rw [if_neg q6] at h
          refine v_iload_n G dX7_isOf_19 rfl ?_
          refine v_iconst G (4 : Int32) dX7_isOf_20 (by decide) ?_
          refine v_ic_ne 33 G dX7_isOf_21 (by decide) (fun q7 => ?_) (fun q7 => ?_)
          · rw [if_neg q7] at h
            refine v_iconst G (0 : Int32) dX7_isOf_33 (by decide) ?_
            cases h
            exact v_zret G F rfl dX7_isOf_34 rfl (Nat.le_refl _)
          · rw [if_pos q7] at h
            refine v_iload_n G dX7_isOf_24 rfl ?_
            refine v_iconst G (5 : Int32) dX7_isOf_25 (by decide) ?_
            refine v_ic_ne 33 G dX7_isOf_26 (by decide) (fun q8 => ?_) (fun q8 => ?_)
            · rw [if_neg q8] at h
              refine v_iconst G (0 : Int32) dX7_isOf_33 (by decide) ?_
              cases h
              exact v_zret G F rfl dX7_isOf_34 rfl (Nat.le_refl _)
            · rw [if_pos q8] at h
              refine v_iconst G (1 : Int32) dX7_isOf_29 (by decide) ?_
              refine v_goto 34 G dX7_isOf_30 (by decide) ?_
              cases h
              exact v_zret G F rfl dX7_isOf_34 rfl (Nat.le_refl _)
/-! X7_kind -/
def m_X7_kind (M : mM) (x0 : Nat) (x1 : Int32) : Option (mM × Int32) :=
  (pI M x0 7 0 (0 : Int32)).bind fun M1 =>
  if isO M1 x0 7 = true then
  (m_X7_isPupil M1 x0 x1).bind fun v4 =>
  if v4 = (0 : Int32) then (
    some (M1, (-1000001 : Int32))
  ) else (
    (gR M1 x0 7 5).bind fun b6 =>
    (m_X7_of M1 b6 x1 (0 : Int32)).bind fun v9 =>
    some (M1, v9)
  )
  else none
theorem e_X7_kind {Z : zZ} {M : mM} {N : mM} {x0 : Nat} {x1 : Int32} {r : Int32} (h : m_X7_kind M x0 x1 = some (N, r)) : EM Z yX7_kind cX7_kind 2 (some .int) 2 0 0 [.ref x0, .int x1] M N (some (.int r)) := by
  refine EM_of my_X7_kind (Nat.le_of_ble_eq_true rfl) (fun X G F => ?_)
  show V X Z M 0 0 0 [some (.ref x0), some (.int x1)] []
  unfold m_X7_kind at h
  refine v_aload_n G dX7_kind_0 rfl ?_
  refine v_iconst G (0 : Int32) dX7_kind_1 (by decide) ?_
  obtain ⟨M1, q2, h⟩ := bi_ h
  refine v_putI (f := 0) G cl7 dX7_kind_2 w839 (by decide) (by decide) (by decide) rfl rfl q2 ?_
  refine v_aload_n G dX7_kind_5 rfl ?_
  refine v_iload_n G dX7_kind_6 rfl ?_
  obtain ⟨q10, h⟩ := if_s h
  obtain ⟨v4, q3, h⟩ := bi_ h
  refine v_callV0 (e_X7_isPupil q3) G cl7 my_X7_isPupil rfl w1074 w41 w1072 dX7_kind_7 q10 rfl (Nat.le_of_ble_eq_true rfl) rfl (Nat.le_of_ble_eq_true rfl) (Nat.zero_le _) (Nat.zero_le _) ?_
  refine v_if_eq 25 G dX7_kind_10 (by decide) (fun q5 => ?_) (fun q5 => ?_)
  · rw [if_pos q5] at h
    refine v_ldc G (-1000001 : Int32) dX7_kind_25 w931 ?_
    cases h
    exact v_iret G F dX7_kind_27 rfl (Nat.le_refl _)
  · rw [if_neg q5] at h
    refine v_aload_n G dX7_kind_13 rfl ?_
    obtain ⟨b6, q7, h⟩ := bi_ h
    refine v_getR (f := 5) G cl7 dX7_kind_14 w844 (by decide) (by decide) q7 ?_
    refine v_iload_n G dX7_kind_17 rfl ?_
    refine v_iconst G (0 : Int32) dX7_kind_18 (by decide) ?_
    obtain ⟨v9, q8, h⟩ := bi_ h
    refine v_callS0 (e_X7_of q8) G my_X7_of w1045 w1044 dX7_kind_19 rfl (Nat.le_of_ble_eq_true rfl) rfl (Nat.le_of_ble_eq_true rfl) (Nat.zero_le _) (Nat.zero_le _) ?_
    refine v_goto 27 G dX7_kind_22 (by decide) ?_
    cases h
    exact v_iret G F dX7_kind_27 rfl (Nat.le_refl _)
/-! X7_as -/
def m_X7_as (M : mM) (x0 : Nat) (x1 : Int32) (x2 : Int32) : Option (mM × Int32) :=
  (pI M x0 7 0 (0 : Int32)).bind fun M1 =>
  if isO M1 x0 7 = true then
  (m_X7_isPupil M1 x0 x1).bind fun v4 =>
  if v4 = (0 : Int32) then (
    some (M1, (-1000001 : Int32))
  ) else (
    (m_X7_in M1 (Int32.toInt64 x2) (0 : Int64) (5 : Int64)).bind fun v7 =>
    if v7 = (0 : Int32) then (
      some (M1, (-1000001 : Int32))
    ) else (
      (pI M1 x0 7 1 (0 : Int32)).bind fun M9 =>
      (gR M9 x0 7 5).bind fun b11 =>
      (m_X7_of M9 b11 x1 (0 : Int32)).bind fun v14 =>
      (m_X7_isOf M9 v14 x2).bind fun v16 =>
      if v16 = (0 : Int32) then (
        if isO M9 x0 7 = true then
        bd2 (m_X7_finding M9 x0 (3 : Int32)) fun M19 v20 =>
        some (M19, v20)
        else none
      ) else (
        some (M9, x1)
      )
    )
  )
  else none
theorem e_X7_as {Z : zZ} {M : mM} {N : mM} {x0 : Nat} {x1 : Int32} {x2 : Int32} {r : Int32} (h : m_X7_as M x0 x1 x2 = some (N, r)) : EM Z yX7_as cX7_as 3 (some .int) 2 0 0 [.ref x0, .int x1, .int x2] M N (some (.int r)) := by
  refine EM_of my_X7_as (Nat.le_of_ble_eq_true rfl) (fun X G F => ?_)
  show V X Z M 0 0 0 [some (.ref x0), some (.int x1), some (.int x2)] []
  unfold m_X7_as at h
  refine v_aload_n G dX7_as_0 rfl ?_
  refine v_iconst G (0 : Int32) dX7_as_1 (by decide) ?_
  obtain ⟨M1, q2, h⟩ := bi_ h
  refine v_putI (f := 0) G cl7 dX7_as_2 w839 (by decide) (by decide) (by decide) rfl rfl q2 ?_
  refine v_aload_n G dX7_as_5 rfl ?_
  refine v_iload_n G dX7_as_6 rfl ?_
  obtain ⟨q22, h⟩ := if_s h
  obtain ⟨v4, q3, h⟩ := bi_ h
  refine v_callV0 (e_X7_isPupil q3) G cl7 my_X7_isPupil rfl w1074 w41 w1072 dX7_as_7 q22 rfl (Nat.le_of_ble_eq_true rfl) rfl (Nat.le_of_ble_eq_true rfl) (Nat.zero_le _) (Nat.zero_le _) ?_
  refine v_if_eq 25 G dX7_as_10 (by decide) (fun q5 => ?_) (fun q5 => ?_)
  · rw [if_pos q5] at h
    refine v_ldc G (-1000001 : Int32) dX7_as_25 w931 ?_
    cases h
    exact v_iret G F dX7_as_27 rfl (Nat.le_refl _)
  · rw [if_neg q5] at h
    refine v_iload_n G dX7_as_13 rfl ?_
    refine v_i2l G dX7_as_14 ?_
    refine v_lconst G (0 : Int64) dX7_as_15 (by decide) ?_
    refine v_ldc2 G (5 : Int64) dX7_as_16 w1248 ?_
    obtain ⟨v7, q6, h⟩ := bi_ h
    refine v_callS0 (e_X7_in q6) G my_X7_in w928 w927 dX7_as_19 rfl (Nat.le_of_ble_eq_true rfl) rfl (Nat.le_of_ble_eq_true rfl) (Nat.zero_le _) (Nat.zero_le _) ?_
    refine v_if_ne 28 G dX7_as_22 (by decide) (fun q8 => ?_) (fun q8 => ?_)
    · rw [if_neg q8] at h
      refine v_aload_n G dX7_as_28 rfl ?_
      refine v_iconst G (0 : Int32) dX7_as_29 (by decide) ?_
      obtain ⟨M9, q10, h⟩ := bi_ h
      refine v_putI (f := 1) G cl7 dX7_as_30 w840 (by decide) (by decide) (by decide) rfl rfl q10 ?_
      refine v_aload_n G dX7_as_33 rfl ?_
      obtain ⟨b11, q12, h⟩ := bi_ h
      refine v_getR (f := 5) G cl7 dX7_as_34 w844 (by decide) (by decide) q12 ?_
      refine v_iload_n G dX7_as_37 rfl ?_
      refine v_iconst G (0 : Int32) dX7_as_38 (by decide) ?_
      obtain ⟨v14, q13, h⟩ := bi_ h
      refine v_callS0 (e_X7_of q13) G my_X7_of w1045 w1044 dX7_as_39 rfl (Nat.le_of_ble_eq_true rfl) rfl (Nat.le_of_ble_eq_true rfl) (Nat.zero_le _) (Nat.zero_le _) ?_
      refine v_iload_n G dX7_as_42 rfl ?_
      obtain ⟨v16, q15, h⟩ := bi_ h
      refine v_callS0 (e_X7_isOf q15) G my_X7_isOf w1250 w1249 dX7_as_43 rfl (Nat.le_of_ble_eq_true rfl) rfl (Nat.le_of_ble_eq_true rfl) (Nat.zero_le _) (Nat.zero_le _) ?_
      refine v_if_eq 53 G dX7_as_46 (by decide) (fun q17 => ?_) (fun q17 => ?_)
      · rw [if_pos q17] at h
        refine v_aload_n G dX7_as_53 rfl ?_
        refine v_iconst G (3 : Int32) dX7_as_54 (by decide) ?_
        obtain ⟨q21, h⟩ := if_s h
        obtain ⟨M19, v20, q18, h⟩ := bi2_ h
        refine v_callV0 (e_X7_finding q18) G cl7 my_X7_finding rfl w934 w25 w932 dX7_as_55 q21 rfl (Nat.le_of_ble_eq_true rfl) rfl (Nat.le_of_ble_eq_true rfl) (Nat.zero_le _) (Nat.zero_le _) ?_
        cases h
        exact v_iret G F dX7_as_58 rfl (Nat.le_refl _)
      · rw [if_neg q17] at h
        refine v_iload_n G dX7_as_49 rfl ?_
        refine v_goto 58 G dX7_as_50 (by decide) ?_
        cases h
        exact v_iret G F dX7_as_58 rfl (Nat.le_refl _)
    · rw [if_pos q8] at h
      refine v_ldc G (-1000001 : Int32) dX7_as_25 w931 ?_
      cases h
      exact v_iret G F dX7_as_27 rfl (Nat.le_refl _)
/-! X7_began -/
def m_X7_began (M : mM) (x0 : Nat) (x1 : Int32) : Option mM :=
  (gI M x0 7 25).bind fun v1 =>
  if (16 : Int32) ≤ v1 then (
    some M
  ) else (
    (gR M x0 7 24).bind fun b4 =>
    (gI M x0 7 25).bind fun v6 =>
    (stI M b4 v6 x1).bind fun M8 =>
    (gI M8 x0 7 25).bind fun v10 =>
    (pI M8 x0 7 25 (v10 + (1 : Int32))).bind fun M12 =>
    some M12
  )
theorem e_X7_began {Z : zZ} {M : mM} {N : mM} {x0 : Nat} {x1 : Int32} (h : m_X7_began M x0 x1 = some N) : EM Z yX7_began cX7_began 2 none 0 0 0 [.ref x0, .int x1] M N none := by
  refine EM_of my_X7_began (Nat.le_of_ble_eq_true rfl) (fun X G F => ?_)
  show V X Z M 0 0 0 [some (.ref x0), some (.int x1)] []
  unfold m_X7_began at h
  refine v_aload_n G dX7_began_0 rfl ?_
  obtain ⟨v1, q2, h⟩ := bi_ h
  refine v_getI (f := 25) G cl7 dX7_began_1 w864 (by decide) (by decide) q2 ?_
  refine v_bipush G (16 : Int32) dX7_began_4 (by decide) ?_
  refine v_ic_ge 29 G dX7_began_6 (by decide) (fun q3 => ?_) (fun q3 => ?_)
  · rw [if_pos q3] at h
    cases h
    exact v_vret G F dX7_began_29 rfl (Nat.le_refl _)
  · rw [if_neg q3] at h
    refine v_aload_n G dX7_began_9 rfl ?_
    obtain ⟨b4, q5, h⟩ := bi_ h
    refine v_getR (f := 24) G cl7 dX7_began_10 w863 (by decide) (by decide) q5 ?_
    refine v_aload_n G dX7_began_13 rfl ?_
    obtain ⟨v6, q7, h⟩ := bi_ h
    refine v_getI (f := 25) G cl7 dX7_began_14 w864 (by decide) (by decide) q7 ?_
    refine v_iload_n G dX7_began_17 rfl ?_
    obtain ⟨M8, q9, h⟩ := bi_ h
    refine v_iast G dX7_began_18 q9 ?_
    refine v_aload_n G dX7_began_19 rfl ?_
    refine v_dup G dX7_began_20 rfl ?_
    obtain ⟨v10, q11, h⟩ := bi_ h
    refine v_getI (f := 25) G cl7 dX7_began_21 w864 (by decide) (by decide) q11 ?_
    refine v_iconst G (1 : Int32) dX7_began_24 (by decide) ?_
    refine v_iadd G dX7_began_25 ?_
    obtain ⟨M12, q13, h⟩ := bi_ h
    refine v_putI (f := 25) G cl7 dX7_began_26 w864 (by decide) (by decide) (by decide) rfl rfl q13 ?_
    cases h
    exact v_vret G F dX7_began_29 rfl (Nat.le_refl _)
/-! X7_plainSize -/
def m_X7_plainSize (M : mM) (x0 : Nat) (x1 : Int32) : Option (mM × Int32) :=
  if isO M x0 7 = true then
  (m_X7_began M x0 (10 : Int32)).bind fun M2 =>
  (gR M2 x0 7 5).bind fun b3 =>
  (m_X7_of M2 b3 x1 (2 : Int32)).bind fun v6 =>
  (m_X7_bits M2 v6).bind fun v8 =>
  some (M2, v8)
  else none
theorem e_X7_plainSize {Z : zZ} {M : mM} {N : mM} {x0 : Nat} {x1 : Int32} {r : Int32} (h : m_X7_plainSize M x0 x1 = some (N, r)) : EM Z yX7_plainSize cX7_plainSize 2 (some .int) 1 0 0 [.ref x0, .int x1] M N (some (.int r)) := by
  refine EM_of my_X7_plainSize (Nat.le_of_ble_eq_true rfl) (fun X G F => ?_)
  show V X Z M 0 0 0 [some (.ref x0), some (.int x1)] []
  unfold m_X7_plainSize at h
  refine v_aload_n G dX7_plainSize_0 rfl ?_
  refine v_bipush G (10 : Int32) dX7_plainSize_1 (by decide) ?_
  obtain ⟨q9, h⟩ := if_s h
  obtain ⟨M2, q1, h⟩ := bi_ h
  refine v_callV0 (e_X7_began q1) G cl7 my_X7_began rfl w1266 w55 w1264 dX7_plainSize_3 q9 rfl (Nat.le_of_ble_eq_true rfl) rfl (Nat.le_of_ble_eq_true rfl) (Nat.zero_le _) (Nat.zero_le _) ?_
  refine v_aload_n G dX7_plainSize_6 rfl ?_
  obtain ⟨b3, q4, h⟩ := bi_ h
  refine v_getR (f := 5) G cl7 dX7_plainSize_7 w844 (by decide) (by decide) q4 ?_
  refine v_iload_n G dX7_plainSize_10 rfl ?_
  refine v_iconst G (2 : Int32) dX7_plainSize_11 (by decide) ?_
  obtain ⟨v6, q5, h⟩ := bi_ h
  refine v_callS0 (e_X7_of q5) G my_X7_of w1045 w1044 dX7_plainSize_12 rfl (Nat.le_of_ble_eq_true rfl) rfl (Nat.le_of_ble_eq_true rfl) (Nat.zero_le _) (Nat.zero_le _) ?_
  obtain ⟨v8, q7, h⟩ := bi_ h
  refine v_callS0 (e_X7_bits q7) G my_X7_bits w1063 w1062 dX7_plainSize_15 rfl (Nat.le_of_ble_eq_true rfl) rfl (Nat.le_of_ble_eq_true rfl) (Nat.zero_le _) (Nat.zero_le _) ?_
  cases h
  exact v_iret G F dX7_plainSize_18 rfl (Nat.le_refl _)
/-! X7_snakeSize -/
def m_X7_snakeSize (M : mM) (x0 : Nat) (x1 : Int32) : Option (mM × Int32) :=
  (gR M x0 7 5).bind fun b1 =>
  (m_X7_of M b1 x1 (0 : Int32)).bind fun v4 =>
  if v4 = (5 : Int32) then (
    if (1 : Int32) = (0 : Int32) then (
      if isO M x0 7 = true then
      (m_X7_began M x0 (13 : Int32)).bind fun M28 =>
      if isO M28 x0 7 = true then
      bd2 (m_X7_plainSize M28 x0 x1) fun M30 v31 =>
      if (1 : Int32) = (0 : Int32) then (
        some (M30, (v31 - (100 : Int32)))
      ) else (
        some (M30, ((2 : Int32) * (v31 - (100 : Int32))))
      )
      else none
      else none
    ) else (
      if isO M x0 7 = true then
      (m_X7_began M x0 (14 : Int32)).bind fun M36 =>
      if isO M36 x0 7 = true then
      (m_X7_began M36 x0 (13 : Int32)).bind fun M38 =>
      if isO M38 x0 7 = true then
      bd2 (m_X7_plainSize M38 x0 x1) fun M40 v41 =>
      if (1 : Int32) = (0 : Int32) then (
        some (M40, (v41 - (100 : Int32)))
      ) else (
        some (M40, ((2 : Int32) * (v41 - (100 : Int32))))
      )
      else none
      else none
      else none
    )
  ) else (
    if (0 : Int32) = (0 : Int32) then (
      if isO M x0 7 = true then
      (m_X7_began M x0 (13 : Int32)).bind fun M8 =>
      if isO M8 x0 7 = true then
      bd2 (m_X7_plainSize M8 x0 x1) fun M10 v11 =>
      if (0 : Int32) = (0 : Int32) then (
        some (M10, (v11 - (100 : Int32)))
      ) else (
        some (M10, ((2 : Int32) * (v11 - (100 : Int32))))
      )
      else none
      else none
    ) else (
      if isO M x0 7 = true then
      (m_X7_began M x0 (14 : Int32)).bind fun M16 =>
      if isO M16 x0 7 = true then
      (m_X7_began M16 x0 (13 : Int32)).bind fun M18 =>
      if isO M18 x0 7 = true then
      bd2 (m_X7_plainSize M18 x0 x1) fun M20 v21 =>
      if (0 : Int32) = (0 : Int32) then (
        some (M20, (v21 - (100 : Int32)))
      ) else (
        some (M20, ((2 : Int32) * (v21 - (100 : Int32))))
      )
      else none
      else none
      else none
    )
  )
theorem e_X7_snakeSize {Z : zZ} {M : mM} {N : mM} {x0 : Nat} {x1 : Int32} {r : Int32} (h : m_X7_snakeSize M x0 x1 = some (N, r)) : EM Z yX7_snakeSize cX7_snakeSize 4 (some .int) 2 0 0 [.ref x0, .int x1] M N (some (.int r)) := by
  refine EM_of my_X7_snakeSize (Nat.le_of_ble_eq_true rfl) (fun X G F => ?_)
  show V X Z M 0 0 0 [some (.ref x0), some (.int x1), none, none] []
  unfold m_X7_snakeSize at h
  refine v_aload_n G dX7_snakeSize_0 rfl ?_
  obtain ⟨b1, q2, h⟩ := bi_ h
  refine v_getR (f := 5) G cl7 dX7_snakeSize_1 w844 (by decide) (by decide) q2 ?_
  refine v_iload_n G dX7_snakeSize_4 rfl ?_
  refine v_iconst G (0 : Int32) dX7_snakeSize_5 (by decide) ?_
  obtain ⟨v4, q3, h⟩ := bi_ h
  refine v_callS0 (e_X7_of q3) G my_X7_of w1045 w1044 dX7_snakeSize_6 rfl (Nat.le_of_ble_eq_true rfl) rfl (Nat.le_of_ble_eq_true rfl) (Nat.zero_le _) (Nat.zero_le _) ?_
  refine v_iconst G (5 : Int32) dX7_snakeSize_9 (by decide) ?_
  refine v_ic_ne 17 G dX7_snakeSize_10 (by decide) (fun q5 => ?_) (fun q5 => ?_)
  · rw [if_neg q5] at h
    refine v_iconst G (0 : Int32) dX7_snakeSize_17 (by decide) ?_
    refine v_istore_n [some (.ref x0), some (.int x1), some (.int (0 : Int32)), none] G dX7_snakeSize_18 (Nat.le_of_ble_eq_true rfl) rfl rfl ?_
    refine v_iload_n G dX7_snakeSize_19 rfl ?_
    refine v_if_eq 29 G dX7_snakeSize_20 (by decide) (fun q6 => ?_) (fun q6 => ?_)
    · rw [if_pos q6] at h
      refine v_aload_n G dX7_snakeSize_29 rfl ?_
      refine v_bipush G (13 : Int32) dX7_snakeSize_30 (by decide) ?_
      obtain ⟨q14, h⟩ := if_s h
      obtain ⟨M8, q7, h⟩ := bi_ h
      refine v_callV0 (e_X7_began q7) G cl7 my_X7_began rfl w1266 w55 w1264 dX7_snakeSize_32 q14 rfl (Nat.le_of_ble_eq_true rfl) rfl (Nat.le_of_ble_eq_true rfl) (Nat.zero_le _) (Nat.zero_le _) ?_
      refine v_aload_n G dX7_snakeSize_35 rfl ?_
      refine v_iload_n G dX7_snakeSize_36 rfl ?_
      obtain ⟨q13, h⟩ := if_s h
      obtain ⟨M10, v11, q9, h⟩ := bi2_ h
      refine v_callV0 (e_X7_plainSize q9) G cl7 my_X7_plainSize rfl w1270 w56 w1268 dX7_snakeSize_37 q13 rfl (Nat.le_of_ble_eq_true rfl) rfl (Nat.le_of_ble_eq_true rfl) (Nat.zero_le _) (Nat.zero_le _) ?_
      refine v_bipush G (100 : Int32) dX7_snakeSize_40 (by decide) ?_
      refine v_isub G dX7_snakeSize_42 ?_
      refine v_istore_n [some (.ref x0), some (.int x1), some (.int (0 : Int32)), some (.int (v11 - (100 : Int32)))] G dX7_snakeSize_43 (Nat.le_of_ble_eq_true rfl) rfl rfl ?_
      refine v_iload_n G dX7_snakeSize_44 rfl ?_
      refine v_if_eq 54 G dX7_snakeSize_45 (by decide) (fun q12 => ?_) (fun q12 => ?_)
      · rw [if_pos q12] at h
        refine v_iload_n G dX7_snakeSize_54 rfl ?_
        cases h
        exact v_iret G F dX7_snakeSize_55 rfl (Nat.le_refl _)
      · rw [if_neg q12] at h
        refine v_iconst G (2 : Int32) dX7_snakeSize_48 (by decide) ?_
        refine v_iload_n G dX7_snakeSize_49 rfl ?_
        refine v_imul G dX7_snakeSize_50 ?_
        refine v_goto 55 G dX7_snakeSize_51 (by decide) ?_
        cases h
        exact v_iret G F dX7_snakeSize_55 rfl (Nat.le_refl _)
    · rw [if_neg q6] at h
      refine v_aload_n G dX7_snakeSize_23 rfl ?_
      refine v_bipush G (14 : Int32) dX7_snakeSize_24 (by decide) ?_
      obtain ⟨q25, h⟩ := if_s h
      obtain ⟨M16, q15, h⟩ := bi_ h
      refine v_callV0 (e_X7_began q15) G cl7 my_X7_began rfl w1266 w55 w1264 dX7_snakeSize_26 q25 rfl (Nat.le_of_ble_eq_true rfl) rfl (Nat.le_of_ble_eq_true rfl) (Nat.zero_le _) (Nat.zero_le _) ?_
      refine v_aload_n G dX7_snakeSize_29 rfl ?_
      refine v_bipush G (13 : Int32) dX7_snakeSize_30 (by decide) ?_
      obtain ⟨q24, h⟩ := if_s h
      obtain ⟨M18, q17, h⟩ := bi_ h
      refine v_callV0 (e_X7_began q17) G cl7 my_X7_began rfl w1266 w55 w1264 dX7_snakeSize_32 q24 rfl (Nat.le_of_ble_eq_true rfl) rfl (Nat.le_of_ble_eq_true rfl) (Nat.zero_le _) (Nat.zero_le _) ?_
      refine v_aload_n G dX7_snakeSize_35 rfl ?_
      refine v_iload_n G dX7_snakeSize_36 rfl ?_
      obtain ⟨q23, h⟩ := if_s h
      obtain ⟨M20, v21, q19, h⟩ := bi2_ h
      refine v_callV0 (e_X7_plainSize q19) G cl7 my_X7_plainSize rfl w1270 w56 w1268 dX7_snakeSize_37 q23 rfl (Nat.le_of_ble_eq_true rfl) rfl (Nat.le_of_ble_eq_true rfl) (Nat.zero_le _) (Nat.zero_le _) ?_
      refine v_bipush G (100 : Int32) dX7_snakeSize_40 (by decide) ?_
      refine v_isub G dX7_snakeSize_42 ?_
      refine v_istore_n [some (.ref x0), some (.int x1), some (.int (0 : Int32)), some (.int (v21 - (100 : Int32)))] G dX7_snakeSize_43 (Nat.le_of_ble_eq_true rfl) rfl rfl ?_
      refine v_iload_n G dX7_snakeSize_44 rfl ?_
      refine v_if_eq 54 G dX7_snakeSize_45 (by decide) (fun q22 => ?_) (fun q22 => ?_)
      · rw [if_pos q22] at h
        refine v_iload_n G dX7_snakeSize_54 rfl ?_
        cases h
        exact v_iret G F dX7_snakeSize_55 rfl (Nat.le_refl _)
      · rw [if_neg q22] at h
        refine v_iconst G (2 : Int32) dX7_snakeSize_48 (by decide) ?_
        refine v_iload_n G dX7_snakeSize_49 rfl ?_
        refine v_imul G dX7_snakeSize_50 ?_
        refine v_goto 55 G dX7_snakeSize_51 (by decide) ?_
        cases h
        exact v_iret G F dX7_snakeSize_55 rfl (Nat.le_refl _)
  · rw [if_pos q5] at h
    refine v_iconst G (1 : Int32) dX7_snakeSize_13 (by decide) ?_
    refine v_goto 18 G dX7_snakeSize_14 (by decide) ?_
    refine v_istore_n [some (.ref x0), some (.int x1), some (.int (1 : Int32)), none] G dX7_snakeSize_18 (Nat.le_of_ble_eq_true rfl) rfl rfl ?_
    refine v_iload_n G dX7_snakeSize_19 rfl ?_
    refine v_if_eq 29 G dX7_snakeSize_20 (by decide) (fun q26 => ?_) (fun q26 => ?_)
    · rw [if_pos q26] at h
      refine v_aload_n G dX7_snakeSize_29 rfl ?_
      refine v_bipush G (13 : Int32) dX7_snakeSize_30 (by decide) ?_
      obtain ⟨q34, h⟩ := if_s h
      obtain ⟨M28, q27, h⟩ := bi_ h
      refine v_callV0 (e_X7_began q27) G cl7 my_X7_began rfl w1266 w55 w1264 dX7_snakeSize_32 q34 rfl (Nat.le_of_ble_eq_true rfl) rfl (Nat.le_of_ble_eq_true rfl) (Nat.zero_le _) (Nat.zero_le _) ?_
      refine v_aload_n G dX7_snakeSize_35 rfl ?_
      refine v_iload_n G dX7_snakeSize_36 rfl ?_
      obtain ⟨q33, h⟩ := if_s h
      obtain ⟨M30, v31, q29, h⟩ := bi2_ h
      refine v_callV0 (e_X7_plainSize q29) G cl7 my_X7_plainSize rfl w1270 w56 w1268 dX7_snakeSize_37 q33 rfl (Nat.le_of_ble_eq_true rfl) rfl (Nat.le_of_ble_eq_true rfl) (Nat.zero_le _) (Nat.zero_le _) ?_
      refine v_bipush G (100 : Int32) dX7_snakeSize_40 (by decide) ?_
      refine v_isub G dX7_snakeSize_42 ?_
      refine v_istore_n [some (.ref x0), some (.int x1), some (.int (1 : Int32)), some (.int (v31 - (100 : Int32)))] G dX7_snakeSize_43 (Nat.le_of_ble_eq_true rfl) rfl rfl ?_
      refine v_iload_n G dX7_snakeSize_44 rfl ?_
      refine v_if_eq 54 G dX7_snakeSize_45 (by decide) (fun q32 => ?_) (fun q32 => ?_)
      · rw [if_pos q32] at h
        refine v_iload_n G dX7_snakeSize_54 rfl ?_
        cases h
        exact v_iret G F dX7_snakeSize_55 rfl (Nat.le_refl _)
      · rw [if_neg q32] at h
        refine v_iconst G (2 : Int32) dX7_snakeSize_48 (by decide) ?_
        refine v_iload_n G dX7_snakeSize_49 rfl ?_
        refine v_imul G dX7_snakeSize_50 ?_
        refine v_goto 55 G dX7_snakeSize_51 (by decide) ?_
        cases h
        exact v_iret G F dX7_snakeSize_55 rfl (Nat.le_refl _)
    · rw [if_neg q26] at h
      refine v_aload_n G dX7_snakeSize_23 rfl ?_
      refine v_bipush G (14 : Int32) dX7_snakeSize_24 (by decide) ?_
      obtain ⟨q45, h⟩ := if_s h
      obtain ⟨M36, q35, h⟩ := bi_ h
      refine v_callV0 (e_X7_began q35) G cl7 my_X7_began rfl w1266 w55 w1264 dX7_snakeSize_26 q45 rfl (Nat.le_of_ble_eq_true rfl) rfl (Nat.le_of_ble_eq_true rfl) (Nat.zero_le _) (Nat.zero_le _) ?_
      refine v_aload_n G dX7_snakeSize_29 rfl ?_
      refine v_bipush G (13 : Int32) dX7_snakeSize_30 (by decide) ?_
      obtain ⟨q44, h⟩ := if_s h
      obtain ⟨M38, q37, h⟩ := bi_ h
      refine v_callV0 (e_X7_began q37) G cl7 my_X7_began rfl w1266 w55 w1264 dX7_snakeSize_32 q44 rfl (Nat.le_of_ble_eq_true rfl) rfl (Nat.le_of_ble_eq_true rfl) (Nat.zero_le _) (Nat.zero_le _) ?_
      refine v_aload_n G dX7_snakeSize_35 rfl ?_
      refine v_iload_n G dX7_snakeSize_36 rfl ?_
      obtain ⟨q43, h⟩ := if_s h
      obtain ⟨M40, v41, q39, h⟩ := bi2_ h
      refine v_callV0 (e_X7_plainSize q39) G cl7 my_X7_plainSize rfl w1270 w56 w1268 dX7_snakeSize_37 q43 rfl (Nat.le_of_ble_eq_true rfl) rfl (Nat.le_of_ble_eq_true rfl) (Nat.zero_le _) (Nat.zero_le _) ?_
      refine v_bipush G (100 : Int32) dX7_snakeSize_40 (by decide) ?_
      refine v_isub G dX7_snakeSize_42 ?_
      refine v_istore_n [some (.ref x0), some (.int x1), some (.int (1 : Int32)), some (.int (v41 - (100 : Int32)))] G dX7_snakeSize_43 (Nat.le_of_ble_eq_true rfl) rfl rfl ?_
      refine v_iload_n G dX7_snakeSize_44 rfl ?_
      refine v_if_eq 54 G dX7_snakeSize_45 (by decide) (fun q42 => ?_) (fun q42 => ?_)
      · rw [if_pos q42] at h
        refine v_iload_n G dX7_snakeSize_54 rfl ?_
        cases h
        exact v_iret G F dX7_snakeSize_55 rfl (Nat.le_refl _)
      · rw [if_neg q42] at h
        refine v_iconst G (2 : Int32) dX7_snakeSize_48 (by decide) ?_
        refine v_iload_n G dX7_snakeSize_49 rfl ?_
        refine v_imul G dX7_snakeSize_50 ?_
        refine v_goto 55 G dX7_snakeSize_51 (by decide) ?_
        cases h
        exact v_iret G F dX7_snakeSize_55 rfl (Nat.le_refl _)
