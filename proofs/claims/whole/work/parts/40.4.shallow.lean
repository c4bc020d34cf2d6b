/-! X5_needed -/
def m_X5_needed_L11 {ρ : Type} (k0 : Int32 → Option ρ) (M : mM) (x0 : Nat) (x2 : Int32) : Nat → Int32 → Int32 → Option ρ
  | 0, _, _ => none
  | n + 1, x3, x4 =>
    if x4 < (0 : Int32) then (
      k0 x3
    ) else (
      if ((x3 >>> (x4 &&& 31)) &&& (1 : Int32)) = (0 : Int32) then (
        m_X5_needed_L11 k0 M x0 x2 n x3 (x4 + (-1 : Int32))
      ) else (
        (gR M x0 5 5).bind fun b3 =>
        (ldI M b3 x4).bind fun v6 =>
        m_X5_needed_L11 k0 M x0 x2 n (x3 ||| (v6 &&& (x2 ^^^ (-1 : Int32)))) (x4 + (-1 : Int32))
      )
    )
theorem e_X5_needed_L11 {X : xX} {Z : zZ} {cn sn : Nat} {ρ : Type} {r : ρ} {k0 : Int32 → Option ρ} (G : ok_ X Z yX5_needed cX5_needed 5 0 0 0) (hcn : cn ≤ 0) (hsn : sn ≤ 0) (M : mM) (x0 : Nat) (x2 : Int32)
    (hx0 : ∀ (z3 : Int32), k0 z3 = some r → V X Z M cn sn 45 [none, none, none, some (.int z3), none] []) :
    ∀ (n : Nat) (x3 : Int32) (x4 : Int32), m_X5_needed_L11 k0 M x0 x2 n x3 x4 = some r → V X Z M cn sn 11 [some (.ref x0), none, some (.int x2), some (.int x3), some (.int x4)] [] := by
  intro n
  induction n with
  | zero => intro x3 x4 h; rw [m_X5_needed_L11] at h; cases h
  | succ n ih =>
    intro x3 x4 h
    rw [m_X5_needed_L11] at h
    refine v_iload G dX5_needed_11 rfl ?_
    refine v_if_lt 45 G dX5_needed_13 (by decide) (fun q1 => ?_) (fun q1 => ?_)
    · rw [if_pos q1] at h
      exact v_mask [false, false, false, true, false] rfl (hx0 _ h)
    · rw [if_neg q1] at h
      refine v_iload_n G dX5_needed_16 rfl ?_
      refine v_iload G dX5_needed_17 rfl ?_
      refine v_ishr G dX5_needed_19 ?_
      refine v_iconst G (1 : Int32) dX5_needed_20 (by decide) ?_
      refine v_iand G dX5_needed_21 ?_
      refine v_if_eq 39 G dX5_needed_22 (by decide) (fun q2 => ?_) (fun q2 => ?_)
      · rw [if_pos q2] at h
        refine v_iinc (x4 + (-1 : Int32)) [some (.ref x0), none, some (.int x2), some (.int x3), some (.int (x4 + (-1 : Int32)))] G dX5_needed_39 rfl rfl (Nat.le_of_ble_eq_true rfl) rfl rfl ?_
        refine v_goto 11 G dX5_needed_42 (by decide) ?_
        exact v_mask [true, false, true, true, true] rfl (ih _ _ h)
      · rw [if_neg q2] at h
        refine v_iload_n G dX5_needed_25 rfl ?_
        refine v_aload_n G dX5_needed_26 rfl ?_
        obtain ⟨b3, q4, h⟩ := bi_ h
        refine v_getR (f := 5) G cl5 dX5_needed_27 w103 (by decide) (by decide) q4 ?_
        refine v_iload G dX5_needed_30 rfl ?_
        obtain ⟨v6, q5, h⟩ := bi_ h
        refine v_iald G dX5_needed_32 q5 ?_
        refine v_iload_n G dX5_needed_33 rfl ?_
        refine v_iconst G (-1 : Int32) dX5_needed_34 (by decide) ?_
        refine v_ixor G dX5_needed_35 ?_
        refine v_iand G dX5_needed_36 ?_
        refine v_ior G dX5_needed_37 ?_
        refine v_istore_n [some (.ref x0), none, some (.int x2), some (.int (x3 ||| (v6 &&& (x2 ^^^ (-1 : Int32))))), some (.int x4)] G dX5_needed_38 (Nat.le_of_ble_eq_true rfl) rfl rfl ?_
        refine v_iinc (x4 + (-1 : Int32)) [some (.ref x0), none, some (.int x2), some (.int (x3 ||| (v6 &&& (x2 ^^^ (-1 : Int32))))), some (.int (x4 + (-1 : Int32)))] G dX5_needed_39 rfl rfl (Nat.le_of_ble_eq_true rfl) rfl rfl ?_
        refine v_goto 11 G dX5_needed_42 (by decide) ?_
        exact v_mask [true, false, true, true, true] rfl (ih _ _ h)
def m_X5_needed (M : mM) (x0 : Nat) (x1 : Int32) (x2 : Int32) : Option Int32 :=
  m_X5_needed_L11
    (fun v7 =>
      some v7)
    M x0 x2 FU (((1 : Int32) <<< (x1 &&& 31)) &&& (x2 ^^^ (-1 : Int32))) x1
theorem e_X5_needed {Z : zZ} {M : mM} {x0 : Nat} {x1 : Int32} {x2 : Int32} {r : Int32} (h : m_X5_needed M x0 x1 x2 = some r) : EM Z yX5_needed cX5_needed 5 (some .int) 0 0 0 [.ref x0, .int x1, .int x2] M M (some (.int r)) := by
  refine EM_of my_X5_needed (Nat.le_of_ble_eq_true rfl) (fun X G F => ?_)
  show V X Z M 0 0 0 [some (.ref x0), some (.int x1), some (.int x2), none, none] []
  unfold m_X5_needed at h
  refine v_iconst G (1 : Int32) dX5_needed_0 (by decide) ?_
  refine v_iload_n G dX5_needed_1 rfl ?_
  refine v_ishl G dX5_needed_2 ?_
  refine v_iload_n G dX5_needed_3 rfl ?_
  refine v_iconst G (-1 : Int32) dX5_needed_4 (by decide) ?_
  refine v_ixor G dX5_needed_5 ?_
  refine v_iand G dX5_needed_6 ?_
  refine v_istore_n [some (.ref x0), some (.int x1), some (.int x2), some (.int (((1 : Int32) <<< (x1 &&& 31)) &&& (x2 ^^^ (-1 : Int32)))), none] G dX5_needed_7 (Nat.le_of_ble_eq_true rfl) rfl rfl ?_
  refine v_iload_n G dX5_needed_8 rfl ?_
  refine v_istore [some (.ref x0), some (.int x1), some (.int x2), some (.int (((1 : Int32) <<< (x1 &&& 31)) &&& (x2 ^^^ (-1 : Int32)))), some (.int x1)] G dX5_needed_9 (Nat.le_of_ble_eq_true rfl) rfl rfl ?_
  refine v_mask [true, false, true, true, true] rfl ?_
  refine e_X5_needed_L11 G (Nat.zero_le _) (Nat.zero_le _) _ _ _ (fun v7 h => ?_) FU _ _ h
  refine v_iload_n G dX5_needed_45 rfl ?_
  cases h
  exact v_iret G F dX5_needed_46 rfl (Nat.le_refl _)
/-! X5_bestPupil -/
def m_X5_bestPupil_L4 {ρ : Type} (k0 : Int32 → Option ρ) (M : mM) (x0 : Nat) : Nat → Int32 → Int32 → Option ρ
  | 0, _, _ => none
  | n + 1, x1, x2 =>
    (gI M x0 5 3).bind fun v1 =>
    if v1 ≤ x2 then (
      k0 x1
    ) else (
      if isO M x0 5 = true then
      (m_X5_form M x0 x2).bind fun v5 =>
      if isO M x0 5 = true then
      (m_X5_form M x0 x1).bind fun v7 =>
      if v5 ≤ v7 then (
        m_X5_bestPupil_L4 k0 M x0 n x1 (x2 + (1 : Int32))
      ) else (
        m_X5_bestPupil_L4 k0 M x0 n x2 (x2 + (1 : Int32))
      )
      else none
      else none
    )
theorem e_X5_bestPupil_L4 {X : xX} {Z : zZ} {cn sn : Nat} {ρ : Type} {r : ρ} {k0 : Int32 → Option ρ} (G : ok_ X Z yX5_bestPupil cX5_bestPupil 3 2 0 0) (hcn : cn ≤ 0) (hsn : sn ≤ 0) (M : mM) (x0 : Nat)
    (hx0 : ∀ (z1 : Int32), k0 z1 = some r → V X Z M cn sn 33 [none, some (.int z1), none] []) :
    ∀ (n : Nat) (x1 : Int32) (x2 : Int32), m_X5_bestPupil_L4 k0 M x0 n x1 x2 = some r → V X Z M cn sn 4 [some (.ref x0), some (.int x1), some (.int x2)] [] := by
  intro n
  induction n with
  | zero => intro x1 x2 h; rw [m_X5_bestPupil_L4] at h; cases h
  | succ n ih =>
    intro x1 x2 h
    rw [m_X5_bestPupil_L4] at h
    refine v_iload_n G dX5_bestPupil_4 rfl ?_
    refine v_aload_n G dX5_bestPupil_5 rfl ?_
    obtain ⟨v1, q2, h⟩ := bi_ h
    refine v_getI (f := 3) G cl5 dX5_bestPupil_6 w96 (by decide) (by decide) q2 ?_
    refine v_ic_ge 33 G dX5_bestPupil_9 (by decide) (fun q3 => ?_) (fun q3 => ?_)
    · rw [if_pos q3] at h
      exact v_mask [false, true, false] rfl (hx0 _ h)
    · rw [if_neg q3] at h
      refine v_aload_n G dX5_bestPupil_12 rfl ?_
      refine v_iload_n G dX5_bestPupil_13 rfl ?_
      obtain ⟨q10, h⟩ := if_s h
      obtain ⟨v5, q4, h⟩ := bi_ h
      refine v_callV0 (e_X5_form q4) G cl5 my_X5_form rfl w499 w500 w498 dX5_bestPupil_14 q10 rfl (Nat.le_of_ble_eq_true rfl) rfl (Nat.le_of_ble_eq_true rfl) hcn hsn ?_
      refine v_aload_n G dX5_bestPupil_17 rfl ?_
      refine v_iload_n G dX5_bestPupil_18 rfl ?_
      obtain ⟨q9, h⟩ := if_s h
      obtain ⟨v7, q6, h⟩ := bi_ h
      refine v_callV0 (e_X5_form q6) G cl5 my_X5_form rfl w499 w500 w498 dX5_bestPupil_19 q9 rfl (Nat.le_of_ble_eq_true rfl) rfl (Nat.le_of_ble_eq_true rfl) hcn hsn ?_
      refine v_ic_le 27 G dX5_bestPupil_22 (by decide) (fun q8 => ?_) (fun q8 => ?_)
      · rw [if_pos q8] at h
        refine v_iinc (x2 + (1 : Int32)) [some (.ref x0), some (.int x1), some (.int (x2 + (1 : Int32)))] G dX5_bestPupil_27 rfl rfl (Nat.le_of_ble_eq_true rfl) rfl rfl ?_
        refine v_goto 4 G dX5_bestPupil_30 (by decide) ?_
        exact v_mask [true, true, true] rfl (ih _ _ h)
      · rw [if_neg q8] at h
        refine v_iload_n G dX5_bestPupil_25 rfl ?_
        refine v_istore_n [some (.ref x0), some (.int x2), some (.int x2)] G dX5_bestPupil_26 (Nat.le_of_ble_eq_true rfl) rfl rfl ?_
        refine v_iinc (x2 + (1 : Int32)) [some (.ref x0), some (.int x2), some (.int (x2 + (1 : Int32)))] G dX5_bestPupil_27 rfl rfl (Nat.le_of_ble_eq_true rfl) rfl rfl ?_
        refine v_goto 4 G dX5_bestPupil_30 (by decide) ?_
        exact v_mask [true, true, true] rfl (ih _ _ h)
def m_X5_bestPupil (M : mM) (x0 : Nat) : Option Int32 :=
  m_X5_bestPupil_L4
    (fun v11 =>
      some v11)
    M x0 FU (0 : Int32) (1 : Int32)
theorem e_X5_bestPupil {Z : zZ} {M : mM} {x0 : Nat} {r : Int32} (h : m_X5_bestPupil M x0 = some r) : EM Z yX5_bestPupil cX5_bestPupil 3 (some .int) 2 0 0 [.ref x0] M M (some (.int r)) := by
  refine EM_of my_X5_bestPupil (Nat.le_of_ble_eq_true rfl) (fun X G F => ?_)
  show V X Z M 0 0 0 [some (.ref x0), none, none] []
  unfold m_X5_bestPupil at h
  refine v_iconst G (0 : Int32) dX5_bestPupil_0 (by decide) ?_
  refine v_istore_n [some (.ref x0), some (.int (0 : Int32)), none] G dX5_bestPupil_1 (Nat.le_of_ble_eq_true rfl) rfl rfl ?_
  refine v_iconst G (1 : Int32) dX5_bestPupil_2 (by decide) ?_
  refine v_istore_n [some (.ref x0), some (.int (0 : Int32)), some (.int (1 : Int32))] G dX5_bestPupil_3 (Nat.le_of_ble_eq_true rfl) rfl rfl ?_
  refine v_mask [true, true, true] rfl ?_
  refine e_X5_bestPupil_L4 G (Nat.zero_le _) (Nat.zero_le _) _ _ (fun v11 h => ?_) FU _ _ h
  refine v_iload_n G dX5_bestPupil_33 rfl ?_
  cases h
  exact v_iret G F dX5_bestPupil_34 rfl (Nat.le_refl _)
/-! X5_alike -/
def m_X5_alike_L4 {ρ : Type} (k0 : Int32 → Option ρ) (M : mM) (x0 : Nat) (x1 : Int32) : Nat → Int32 → Int32 → Option ρ
  | 0, _, _ => none
  | n + 1, x2, x3 =>
    (gI M x0 5 3).bind fun v1 =>
    if v1 ≤ x3 then (
      k0 x2
    ) else (
      if x3 = x1 then (
        m_X5_alike_L4 k0 M x0 x1 n x2 (x3 + (1 : Int32))
      ) else (
        (gR M x0 5 8).bind fun b5 =>
        (ldI M b5 x3).bind fun v8 =>
        (gR M x0 5 8).bind fun b9 =>
        (ldI M b9 x1).bind fun v12 =>
        if v8 = v12 then (
          m_X5_alike_L4 k0 M x0 x1 n (x2 ||| ((1 : Int32) <<< (x3 &&& 31))) (x3 + (1 : Int32))
        ) else (
          m_X5_alike_L4 k0 M x0 x1 n x2 (x3 + (1 : Int32))
        )
      )
    )
theorem e_X5_alike_L4 {X : xX} {Z : zZ} {cn sn : Nat} {ρ : Type} {r : ρ} {k0 : Int32 → Option ρ} (G : ok_ X Z yX5_alike cX5_alike 4 0 0 0) (hcn : cn ≤ 0) (hsn : sn ≤ 0) (M : mM) (x0 : Nat) (x1 : Int32)
    (hx0 : ∀ (z2 : Int32), k0 z2 = some r → V X Z M cn sn 44 [none, none, some (.int z2), none] []) :
    ∀ (n : Nat) (x2 : Int32) (x3 : Int32), m_X5_alike_L4 k0 M x0 x1 n x2 x3 = some r → V X Z M cn sn 4 [some (.ref x0), some (.int x1), some (.int x2), some (.int x3)] [] := by
  intro n
  induction n with
  | zero => intro x2 x3 h; rw [m_X5_alike_L4] at h; cases h
  | succ n ih =>
    intro x2 x3 h
    rw [m_X5_alike_L4] at h
    refine v_iload_n G dX5_alike_4 rfl ?_
    refine v_aload_n G dX5_alike_5 rfl ?_
    obtain ⟨v1, q2, h⟩ := bi_ h
    refine v_getI (f := 3) G cl5 dX5_alike_6 w96 (by decide) (by decide) q2 ?_
    refine v_ic_ge 44 G dX5_alike_9 (by decide) (fun q3 => ?_) (fun q3 => ?_)
    · rw [if_pos q3] at h
      exact v_mask [false, false, true, false] rfl (hx0 _ h)
    · rw [if_neg q3] at h
      refine v_iload_n G dX5_alike_12 rfl ?_
      refine v_iload_n G dX5_alike_13 rfl ?_
      refine v_ic_eq 38 G dX5_alike_14 (by decide) (fun q4 => ?_) (fun q4 => ?_)
      · rw [if_pos q4] at h
        refine v_iinc (x3 + (1 : Int32)) [some (.ref x0), some (.int x1), some (.int x2), some (.int (x3 + (1 : Int32)))] G dX5_alike_38 rfl rfl (Nat.le_of_ble_eq_true rfl) rfl rfl ?_
        refine v_goto 4 G dX5_alike_41 (by decide) ?_
        exact v_mask [true, true, true, true] rfl (ih _ _ h)
      · rw [if_neg q4] at h
        refine v_aload_n G dX5_alike_17 rfl ?_
        obtain ⟨b5, q6, h⟩ := bi_ h
        refine v_getR (f := 8) G cl5 dX5_alike_18 w115 (by decide) (by decide) q6 ?_
        refine v_iload_n G dX5_alike_21 rfl ?_
        obtain ⟨v8, q7, h⟩ := bi_ h
        refine v_iald G dX5_alike_22 q7 ?_
        refine v_aload_n G dX5_alike_23 rfl ?_
        obtain ⟨b9, q10, h⟩ := bi_ h
        refine v_getR (f := 8) G cl5 dX5_alike_24 w115 (by decide) (by decide) q10 ?_
        refine v_iload_n G dX5_alike_27 rfl ?_
        obtain ⟨v12, q11, h⟩ := bi_ h
        refine v_iald G dX5_alike_28 q11 ?_
        refine v_ic_ne 38 G dX5_alike_29 (by decide) (fun q13 => ?_) (fun q13 => ?_)
        · rw [if_neg q13] at h
          refine v_iinc (x3 + (1 : Int32)) [some (.ref x0), some (.int x1), some (.int x2), some (.int (x3 + (1 : Int32)))] G dX5_alike_38 rfl rfl (Nat.le_of_ble_eq_true rfl) rfl rfl ?_
          refine v_goto 4 G dX5_alike_41 (by decide) ?_
          exact v_mask [true, true, true, true] rfl (ih _ _ h)
        · rw [if_pos q13] at h
          refine v_iload_n G dX5_alike_32 rfl ?_
          refine v_iconst G (1 : Int32) dX5_alike_33 (by decide) ?_
          refine v_iload_n G dX5_alike_34 rfl ?_
          refine v_ishl G dX5_alike_35 ?_
          refine v_ior G dX5_alike_36 ?_
          refine v_istore_n [some (.ref x0), some (.int x1), some (.int (x2 ||| ((1 : Int32) <<< (x3 &&& 31)))), some (.int x3)] G dX5_alike_37 (Nat.le_of_ble_eq_true rfl) rfl rfl ?_
          refine v_iinc (x3 + (1 : Int32)) [some (.ref x0), some (.int x1), some (.int (x2 ||| ((1 : Int32) <<< (x3 &&& 31)))), some (.int (x3 + (1 : Int32)))] G dX5_alike_38 rfl rfl (Nat.le_of_ble_eq_true rfl) rfl rfl ?_
          refine v_goto 4 G dX5_alike_41 (by decide) ?_
          exact v_mask [true, true, true, true] rfl (ih _ _ h)
def m_X5_alike (M : mM) (x0 : Nat) (x1 : Int32) : Option Int32 :=
  m_X5_alike_L4
    (fun v14 =>
      some v14)
    M x0 x1 FU (0 : Int32) (0 : Int32)
theorem e_X5_alike {Z : zZ} {M : mM} {x0 : Nat} {x1 : Int32} {r : Int32} (h : m_X5_alike M x0 x1 = some r) : EM Z yX5_alike cX5_alike 4 (some .int) 0 0 0 [.ref x0, .int x1] M M (some (.int r)) := by
  refine EM_of my_X5_alike (Nat.le_of_ble_eq_true rfl) (fun X G F => ?_)
  show V X Z M 0 0 0 [some (.ref x0), some (.int x1), none, none] []
  unfold m_X5_alike at h
  refine v_iconst G (0 : Int32) dX5_alike_0 (by decide) ?_
  refine v_istore_n [some (.ref x0), some (.int x1), some (.int (0 : Int32)), none] G dX5_alike_1 (Nat.le_of_ble_eq_true rfl) rfl rfl ?_
  refine v_iconst G (0 : Int32) dX5_alike_2 (by decide) ?_
  refine v_istore_n [some (.ref x0), some (.int x1), some (.int (0 : Int32)), some (.int (0 : Int32))] G dX5_alike_3 (Nat.le_of_ble_eq_true rfl) rfl rfl ?_
  refine v_mask [true, true, true, true] rfl ?_
  refine e_X5_alike_L4 G (Nat.zero_le _) (Nat.zero_le _) _ _ _ (fun v14 h => ?_) FU _ _ h
  refine v_iload_n G dX5_alike_44 rfl ?_
  cases h
  exact v_iret G F dX5_alike_45 rfl (Nat.le_refl _)
/-! X5_tellsApart -/
def m_X5_tellsApart_L12 {ρ : Type} (k0 : Option ρ) (k1 : Option ρ) (M : mM) (x0 : Nat) (x1 : Int32) (x2 : Int32) : Nat → Int32 → Option ρ
  | 0, _ => none
  | n + 1, x3 =>
    if x2 ≤ x3 then (
      k0
    ) else (
      (gR M x0 5 8).bind fun b5 =>
      (ldI M b5 x2).bind fun v8 =>
      (gR M x0 5 8).bind fun b9 =>
      (ldI M b9 x3).bind fun v12 =>
      if (v8 ^^^ v12) = (0 : Int32) then (
        m_X5_tellsApart_L12 k0 k1 M x0 x1 x2 n (x3 + (1 : Int32))
      ) else (
        if ((v8 ^^^ v12) &&& x1) = (0 : Int32) then (
          k1
        ) else (
          m_X5_tellsApart_L12 k0 k1 M x0 x1 x2 n (x3 + (1 : Int32))
        )
      )
    )
theorem e_X5_tellsApart_L12 {X : xX} {Z : zZ} {cn sn : Nat} {ρ : Type} {r : ρ} {k0 : Option ρ} {k1 : Option ρ} (G : ok_ X Z yX5_tellsApart cX5_tellsApart 5 0 0 0) (hcn : cn ≤ 0) (hsn : sn ≤ 0) (M : mM) (x0 : Nat) (x1 : Int32) (x2 : Int32)
    (hx0 : k0 = some r → V X Z M cn sn 52 [some (.ref x0), some (.int x1), some (.int x2), none, none] [])
    (hx1 : k1 = some r → V X Z M cn sn 44 [none, none, none, none, none] []) :
    ∀ (n : Nat) (x3 : Int32), m_X5_tellsApart_L12 k0 k1 M x0 x1 x2 n x3 = some r → V X Z M cn sn 12 [some (.ref x0), some (.int x1), some (.int x2), some (.int x3), none] [] := by
  intro n
  induction n with
  | zero => intro x3 h; rw [m_X5_tellsApart_L12] at h; cases h
  | succ n ih =>
    intro x3 h
    rw [m_X5_tellsApart_L12] at h
    refine v_iload_n G dX5_tellsApart_12 rfl ?_
    refine v_iload_n G dX5_tellsApart_13 rfl ?_
    refine v_ic_ge 52 G dX5_tellsApart_14 (by decide) (fun q4 => ?_) (fun q4 => ?_)
    · rw [if_pos q4] at h
      exact v_mask [true, true, true, false, false] rfl (hx0 h)
    · rw [if_neg q4] at h
      refine v_aload_n G dX5_tellsApart_17 rfl ?_
      obtain ⟨b5, q6, h⟩ := bi_ h
      refine v_getR (f := 8) G cl5 dX5_tellsApart_18 w115 (by decide) (by decide) q6 ?_
      refine v_iload_n G dX5_tellsApart_21 rfl ?_
      obtain ⟨v8, q7, h⟩ := bi_ h
      refine v_iald G dX5_tellsApart_22 q7 ?_
      refine v_aload_n G dX5_tellsApart_23 rfl ?_
      obtain ⟨b9, q10, h⟩ := bi_ h
      refine v_getR (f := 8) G cl5 dX5_tellsApart_24 w115 (by decide) (by decide) q10 ?_
      refine v_iload_n G dX5_tellsApart_27 rfl ?_
      obtain ⟨v12, q11, h⟩ := bi_ h
      refine v_iald G dX5_tellsApart_28 q11 ?_
      refine v_ixor G dX5_tellsApart_29 ?_
      refine v_istore [some (.ref x0), some (.int x1), some (.int x2), some (.int x3), some (.int (v8 ^^^ v12))] G dX5_tellsApart_30 (Nat.le_of_ble_eq_true rfl) rfl rfl ?_
      refine v_iload G dX5_tellsApart_32 rfl ?_
      refine v_if_eq 46 G dX5_tellsApart_34 (by decide) (fun q13 => ?_) (fun q13 => ?_)
      · rw [if_pos q13] at h
        refine v_iinc (x3 + (1 : Int32)) [some (.ref x0), some (.int x1), some (.int x2), some (.int (x3 + (1 : Int32))), some (.int (v8 ^^^ v12))] G dX5_tellsApart_46 rfl rfl (Nat.le_of_ble_eq_true rfl) rfl rfl ?_
        refine v_goto 12 G dX5_tellsApart_49 (by decide) ?_
        exact v_mask [true, true, true, true, false] rfl (ih _ h)
      · rw [if_neg q13] at h
        refine v_iload G dX5_tellsApart_37 rfl ?_
        refine v_iload_n G dX5_tellsApart_39 rfl ?_
        refine v_iand G dX5_tellsApart_40 ?_
        refine v_if_ne 46 G dX5_tellsApart_41 (by decide) (fun q14 => ?_) (fun q14 => ?_)
        · rw [if_neg q14] at h
          refine v_iinc (x3 + (1 : Int32)) [some (.ref x0), some (.int x1), some (.int x2), some (.int (x3 + (1 : Int32))), some (.int (v8 ^^^ v12))] G dX5_tellsApart_46 rfl rfl (Nat.le_of_ble_eq_true rfl) rfl rfl ?_
          refine v_goto 12 G dX5_tellsApart_49 (by decide) ?_
          exact v_mask [true, true, true, true, false] rfl (ih _ h)
        · rw [if_pos q14] at h
          exact v_mask [false, false, false, false, false] rfl (hx1 h)
def m_X5_tellsApart_L2 {ρ : Type} (k0 : Option ρ) (k1 : Option ρ) (M : mM) (x0 : Nat) (x1 : Int32) : Nat → Int32 → Option ρ
  | 0, _ => none
  | n + 1, x2 =>
    (gI M x0 5 3).bind fun v1 =>
    if v1 ≤ x2 then (
      k0
    ) else (
      m_X5_tellsApart_L12
        (
          m_X5_tellsApart_L2 k0 k1 M x0 x1 n (x2 + (1 : Int32))
        )
        (
          k1
        )
        M x0 x1 x2 FU (0 : Int32)
    )
theorem e_X5_tellsApart_L2 {X : xX} {Z : zZ} {cn sn : Nat} {ρ : Type} {r : ρ} {k0 : Option ρ} {k1 : Option ρ} (G : ok_ X Z yX5_tellsApart cX5_tellsApart 5 0 0 0) (hcn : cn ≤ 0) (hsn : sn ≤ 0) (M : mM) (x0 : Nat) (x1 : Int32)
    (hx0 : k0 = some r → V X Z M cn sn 58 [none, none, none, none, none] [])
    (hx1 : k1 = some r → V X Z M cn sn 44 [none, none, none, none, none] []) :
    ∀ (n : Nat) (x2 : Int32), m_X5_tellsApart_L2 k0 k1 M x0 x1 n x2 = some r → V X Z M cn sn 2 [some (.ref x0), some (.int x1), some (.int x2), none, none] [] := by
  intro n
  induction n with
  | zero => intro x2 h; rw [m_X5_tellsApart_L2] at h; cases h
  | succ n ih =>
    intro x2 h
    rw [m_X5_tellsApart_L2] at h
    refine v_iload_n G dX5_tellsApart_2 rfl ?_
    refine v_aload_n G dX5_tellsApart_3 rfl ?_
    obtain ⟨v1, q2, h⟩ := bi_ h
    refine v_getI (f := 3) G cl5 dX5_tellsApart_4 w96 (by decide) (by decide) q2 ?_
    refine v_ic_ge 58 G dX5_tellsApart_7 (by decide) (fun q3 => ?_) (fun q3 => ?_)
    · rw [if_pos q3] at h
      exact v_mask [false, false, false, false, false] rfl (hx0 h)
    · rw [if_neg q3] at h
      refine v_iconst G (0 : Int32) dX5_tellsApart_10 (by decide) ?_
      refine v_istore_n [some (.ref x0), some (.int x1), some (.int x2), some (.int (0 : Int32)), none] G dX5_tellsApart_11 (Nat.le_of_ble_eq_true rfl) rfl rfl ?_
      refine v_mask [true, true, true, true, false] rfl ?_
      refine e_X5_tellsApart_L12 G hcn hsn _ _ _ _ (fun h => ?_) (fun h => ?_) FU _ h
      · refine v_iinc (x2 + (1 : Int32)) [some (.ref x0), some (.int x1), some (.int (x2 + (1 : Int32))), none, none] G dX5_tellsApart_52 rfl rfl (Nat.le_of_ble_eq_true rfl) rfl rfl ?_
        refine v_goto 2 G dX5_tellsApart_55 (by decide) ?_
        exact v_mask [true, true, true, false, false] rfl (ih _ h)
      · exact v_mask [false, false, false, false, false] rfl (hx1 h)
def m_X5_tellsApart (M : mM) (x0 : Nat) (x1 : Int32) : Option Int32 :=
  m_X5_tellsApart_L2
    (
      some (1 : Int32)
    )
    (
      some (0 : Int32)
    )
    M x0 x1 FU (0 : Int32)
theorem e_X5_tellsApart {Z : zZ} {M : mM} {x0 : Nat} {x1 : Int32} {r : Int32} (h : m_X5_tellsApart M x0 x1 = some r) : EM Z yX5_tellsApart cX5_tellsApart 5 (some .boolean) 0 0 0 [.ref x0, .int x1] M M (some (.int r)) := by
  refine EM_of my_X5_tellsApart (Nat.le_of_ble_eq_true rfl) (fun X G F => ?_)
  show V X Z M 0 0 0 [some (.ref x0), some (.int x1), none, none, none] []
  unfold m_X5_tellsApart at h
  refine v_iconst G (0 : Int32) dX5_tellsApart_0 (by decide) ?_
  refine v_istore_n [some (.ref x0), some (.int x1), some (.int (0 : Int32)), none, none] G dX5_tellsApart_1 (Nat.le_of_ble_eq_true rfl) rfl rfl ?_
  refine v_mask [true, true, true, false, false] rfl ?_
  refine e_X5_tellsApart_L2 G (Nat.zero_le _) (Nat.zero_le _) _ _ _ (fun h => ?_) (fun h => ?_) FU _ h
  · refine v_iconst G (1 : Int32) dX5_tellsApart_58 (by decide) ?_
    cases h
    exact v_zret G F rfl dX5_tellsApart_59 rfl (Nat.le_refl _)
  · refine v_iconst G (0 : Int32) dX5_tellsApart_44 (by decide) ?_
    cases h
    exact v_zret G F rfl dX5_tellsApart_45 rfl (Nat.le_refl _)
/-! X5_fewestQuestions -/
def m_X5_fewestQuestions_L11 {ρ : Type} (k0 : Int32 → Option ρ) (M : mM) (x0 : Nat) : Nat → Int32 → Int32 → Option ρ
  | 0, _, _ => none
  | n + 1, x1, x2 =>
    (gI M x0 5 1).bind fun v3 =>
    if ((1 : Int32) <<< (v3 &&& 31)) ≤ x2 then (
      k0 x1
    ) else (
      (m_J6_bitCount_0f7a4 M x2).bind fun v7 =>
      (m_J6_bitCount_0f7a4 M x1).bind fun v9 =>
      if v9 ≤ v7 then (
        m_X5_fewestQuestions_L11 k0 M x0 n x1 (x2 + (1 : Int32))
      ) else (
        if isO M x0 5 = true then
        (m_X5_tellsApart M x0 x2).bind fun v12 =>
        if v12 = (0 : Int32) then (
          m_X5_fewestQuestions_L11 k0 M x0 n x1 (x2 + (1 : Int32))
        ) else (
          m_X5_fewestQuestions_L11 k0 M x0 n x2 (x2 + (1 : Int32))
        )
        else none
      )
    )
theorem e_X5_fewestQuestions_L11 {X : xX} {Z : zZ} {cn sn : Nat} {ρ : Type} {r : ρ} {k0 : Int32 → Option ρ} (G : ok_ X Z yX5_fewestQuestions cX5_fewestQuestions 3 1 0 0) (hcn : cn ≤ 0) (hsn : sn ≤ 0) (M : mM) (x0 : Nat)
    (hx0 : ∀ (z1 : Int32), k0 z1 = some r → V X Z M cn sn 48 [none, some (.int z1), none] []) :
    ∀ (n : Nat) (x1 : Int32) (x2 : Int32), m_X5_fewestQuestions_L11 k0 M x0 n x1 x2 = some r → V X Z M cn sn 11 [some (.ref x0), some (.int x1), some (.int x2)] [] := by
  intro n
  induction n with
  | zero => intro x1 x2 h; rw [m_X5_fewestQuestions_L11] at h; cases h
  | succ n ih =>
    intro x1 x2 h
    rw [m_X5_fewestQuestions_L11] at h
    refine v_iload_n G dX5_fewestQuestions_11 rfl ?_
    refine v_iconst G (1 : Int32) dX5_fewestQuestions_12 (by decide) ?_
    refine v_aload_n G dX5_fewestQuestions_13 rfl ?_
    obtain ⟨v3, q4, h⟩ := bi_ h
    refine v_getI (f := 1) G cl5 dX5_fewestQuestions_14 w88 (by decide) (by decide) q4 ?_
    refine v_ishl G dX5_fewestQuestions_17 ?_
    refine v_ic_ge 48 G dX5_fewestQuestions_18 (by decide) (fun q5 => ?_) (fun q5 => ?_)
    · rw [if_pos q5] at h
      exact v_mask [false, true, false] rfl (hx0 _ h)
    · rw [if_neg q5] at h
      refine v_iload_n G dX5_fewestQuestions_21 rfl ?_
      obtain ⟨v7, q6, h⟩ := bi_ h
      refine v_callS0 (e_J6_bitCount_0f7a4 q6) G my_J6_bitCount_0f7a4 w493 w492 dX5_fewestQuestions_22 rfl (Nat.le_of_ble_eq_true rfl) rfl (Nat.le_of_ble_eq_true rfl) hcn hsn ?_
      refine v_iload_n G dX5_fewestQuestions_25 rfl ?_
      obtain ⟨v9, q8, h⟩ := bi_ h
      refine v_callS0 (e_J6_bitCount_0f7a4 q8) G my_J6_bitCount_0f7a4 w493 w492 dX5_fewestQuestions_26 rfl (Nat.le_of_ble_eq_true rfl) rfl (Nat.le_of_ble_eq_true rfl) hcn hsn ?_
      refine v_ic_ge 42 G dX5_fewestQuestions_29 (by decide) (fun q10 => ?_) (fun q10 => ?_)
      · rw [if_pos q10] at h
        refine v_iinc (x2 + (1 : Int32)) [some (.ref x0), some (.int x1), some (.int (x2 + (1 : Int32)))] G dX5_fewestQuestions_42 rfl rfl (Nat.le_of_ble_eq_true rfl) rfl rfl ?_
        refine v_goto 11 G dX5_fewestQuestions_45 (by decide) ?_
        exact v_mask [true, true, true] rfl (ih _ _ h)
      · rw [if_neg q10] at h
        refine v_aload_n G dX5_fewestQuestions_32 rfl ?_
        refine v_iload_n G dX5_fewestQuestions_33 rfl ?_
        obtain ⟨q14, h⟩ := if_s h
        obtain ⟨v12, q11, h⟩ := bi_ h
        refine v_callV0 (e_X5_tellsApart q11) G cl5 my_X5_tellsApart rfl w685 w19 w683 dX5_fewestQuestions_34 q14 rfl (Nat.le_of_ble_eq_true rfl) rfl (Nat.le_of_ble_eq_true rfl) hcn hsn ?_
        refine v_if_eq 42 G dX5_fewestQuestions_37 (by decide) (fun q13 => ?_) (fun q13 => ?_)
        · rw [if_pos q13] at h
          refine v_iinc (x2 + (1 : Int32)) [some (.ref x0), some (.int x1), some (.int (x2 + (1 : Int32)))] G dX5_fewestQuestions_42 rfl rfl (Nat.le_of_ble_eq_true rfl) rfl rfl ?_
          refine v_goto 11 G dX5_fewestQuestions_45 (by decide) ?_
          exact v_mask [true, true, true] rfl (ih _ _ h)
        · rw [if_neg q13] at h
          refine v_iload_n G dX5_fewestQuestions_40 rfl ?_
          refine v_istore_n [some (.ref x0), some (.int x2), some (.int x2)] G dX5_fewestQuestions_41 (Nat.le_of_ble_eq_true rfl) rfl rfl ?_
          refine v_iinc (x2 + (1 : Int32)) [some (.ref x0), some (.int x2), some (.int (x2 + (1 : Int32)))] G dX5_fewestQuestions_42 rfl rfl (Nat.le_of_ble_eq_true rfl) rfl rfl ?_
          refine v_goto 11 G dX5_fewestQuestions_45 (by decide) ?_
          exact v_mask [true, true, true] rfl (ih _ _ h)
def m_X5_fewestQuestions (M : mM) (x0 : Nat) : Option Int32 :=
  (gI M x0 5 1).bind fun v1 =>
  m_X5_fewestQuestions_L11
    (fun v15 =>
      some v15)
    M x0 FU (((1 : Int32) <<< (v1 &&& 31)) - (1 : Int32)) (0 : Int32)
theorem e_X5_fewestQuestions {Z : zZ} {M : mM} {x0 : Nat} {r : Int32} (h : m_X5_fewestQuestions M x0 = some r) : EM Z yX5_fewestQuestions cX5_fewestQuestions 3 (some .int) 1 0 0 [.ref x0] M M (some (.int r)) := by
  refine EM_of my_X5_fewestQuestions (Nat.le_of_ble_eq_true rfl) (fun X G F => ?_)
  show V X Z M 0 0 0 [some (.ref x0), none, none] []
  unfold m_X5_fewestQuestions at h
  refine v_iconst G (1 : Int32) dX5_fewestQuestions_0 (by decide) ?_
  refine v_aload_n G dX5_fewestQuestions_1 rfl ?_
  obtain ⟨v1, q2, h⟩ := bi_ h
  refine v_getI (f := 1) G cl5 dX5_fewestQuestions_2 w88 (by decide) (by decide) q2 ?_
  refine v_ishl G dX5_fewestQuestions_5 ?_
  refine v_iconst G (1 : Int32) dX5_fewestQuestions_6 (by decide) ?_
  refine v_isub G dX5_fewestQuestions_7 ?_
  refine v_istore_n [some (.ref x0), some (.int (((1 : Int32) <<< (v1 &&& 31)) - (1 : Int32))), none] G dX5_fewestQuestions_8 (Nat.le_of_ble_eq_true rfl) rfl rfl ?_
  refine v_iconst G (0 : Int32) dX5_fewestQuestions_9 (by decide) ?_
  refine v_istore_n [some (.ref x0), some (.int (((1 : Int32) <<< (v1 &&& 31)) - (1 : Int32))), some (.int (0 : Int32))] G dX5_fewestQuestions_10 (Nat.le_of_ble_eq_true rfl) rfl rfl ?_
  refine v_mask [true, true, true] rfl ?_
  refine e_X5_fewestQuestions_L11 G (Nat.zero_le _) (Nat.zero_le _) _ _ (fun v15 h => ?_) FU _ _ h
  refine v_iload_n G dX5_fewestQuestions_48 rfl ?_
  cases h
  exact v_iret G F dX5_fewestQuestions_49 rfl (Nat.le_refl _)
/-! X6_init -/
def m_X6_init (M : mM) (x0 : Nat) : Option mM :=
  nw_b M (3, 8) fun M1 =>
  (pR M1 x0 6 0 (mz M)).bind fun M2 =>
  nw_b M2 (0, 5) fun M4 =>
  (m_X5_init M4 (mz M2)).bind fun M6 =>
  (pR M6 x0 6 1 (mz M2)).bind fun M7 =>
  nw_b M7 (4, 2) fun M9 =>
  (pR M9 x0 6 2 (mz M7)).bind fun M10 =>
  nw_b M10 (0, 0) fun M12 =>
  (m_X0_init M12 (mz M10)).bind fun M14 =>
  (pR M14 x0 6 3 (mz M10)).bind fun M15 =>
  nw_b M15 (0, 3) fun M17 =>
  (m_X3_init M17 (mz M15)).bind fun M19 =>
  (pR M19 x0 6 4 (mz M15)).bind fun M20 =>
  nw_b M20 (0, 2) fun M22 =>
  (m_X2_init M22 (mz M20)).bind fun M24 =>
  (pR M24 x0 6 5 (mz M20)).bind fun M25 =>
  nw_b M25 (0, 1) fun M27 =>
  (m_X1_init M27 (mz M25)).bind fun M29 =>
  (pR M29 x0 6 6 (mz M25)).bind fun M30 =>
  (gR M30 x0 6 0).bind fun b32 =>
  nw_b M30 (0, 4) fun M34 =>
  (m_X4_init M34 (mz M30)).bind fun M36 =>
  (stR M36 b32 3 4 (0 : Int32) (mz M30)).bind fun M37 =>
  (gR M37 x0 6 0).bind fun b39 =>
  nw_b M37 (0, 4) fun M41 =>
  (m_X4_init M41 (mz M37)).bind fun M43 =>
  (stR M43 b39 3 4 (1 : Int32) (mz M37)).bind fun M44 =>
  (gR M44 x0 6 0).bind fun b46 =>
  nw_b M44 (0, 4) fun M48 =>
  (m_X4_init M48 (mz M44)).bind fun M50 =>
  (stR M50 b46 3 4 (2 : Int32) (mz M44)).bind fun M51 =>
  (gR M51 x0 6 0).bind fun b53 =>
  nw_b M51 (0, 4) fun M55 =>
  (m_X4_init M55 (mz M51)).bind fun M57 =>
  (stR M57 b53 3 4 (3 : Int32) (mz M51)).bind fun M58 =>
  (gR M58 x0 6 0).bind fun b60 =>
  nw_b M58 (0, 4) fun M62 =>
  (m_X4_init M62 (mz M58)).bind fun M64 =>
  (stR M64 b60 3 4 (4 : Int32) (mz M58)).bind fun M65 =>
  (gR M65 x0 6 0).bind fun b67 =>
  nw_b M65 (0, 4) fun M69 =>
  (m_X4_init M69 (mz M65)).bind fun M71 =>
  (stR M71 b67 3 4 (5 : Int32) (mz M65)).bind fun M72 =>
  (gR M72 x0 6 0).bind fun b74 =>
  nw_b M72 (0, 4) fun M76 =>
  (m_X4_init M76 (mz M72)).bind fun M78 =>
  (stR M78 b74 3 4 (6 : Int32) (mz M72)).bind fun M79 =>
  (gR M79 x0 6 0).bind fun b81 =>
  nw_b M79 (0, 4) fun M83 =>
  (m_X4_init M83 (mz M79)).bind fun M85 =>
  (stR M85 b81 3 4 (7 : Int32) (mz M79)).bind fun M86 =>
  (gR M86 x0 6 2).bind fun b88 =>
  nw_b M86 (0, 5) fun M90 =>
  (m_X5_init M90 (mz M86)).bind fun M92 =>
  (stR M92 b88 4 5 (0 : Int32) (mz M86)).bind fun M93 =>
  (gR M93 x0 6 2).bind fun b95 =>
  nw_b M93 (0, 5) fun M97 =>
  (m_X5_init M97 (mz M93)).bind fun M99 =>
  (stR M99 b95 4 5 (1 : Int32) (mz M93)).bind fun M100 =>
  some M100
theorem e_X6_init {Z : zZ} {M : mM} {N : mM} {x0 : Nat} (h : m_X6_init M x0 = some N) : EM Z yX6_init cX6_init 2 none 3 230 2851 [.ref x0] M N none := by
  refine EM_of my_X6_init (Nat.le_of_ble_eq_true rfl) (fun X G F => ?_)
  show V X Z M 0 0 0 [some (.ref x0), none] []
  unfold m_X6_init at h
  refine v_aload_n G dX6_init_0 rfl ?_
  refine v_obj G w74 w75 w76 dX6_init_1 (Nat.le_of_ble_eq_true rfl) rfl (by decide) ?_
  refine v_aload_n G dX6_init_4 rfl ?_
  refine v_bipush G (8 : Int32) dX6_init_5 (by decide) ?_
  obtain ⟨M1, eM1, h⟩ := nb_ h
  refine v_new3 (n' := 8) G dX6_init_7 w77 (by decide) (by decide) (by decide) (Nat.le_of_ble_eq_true rfl) (Nat.le_of_ble_eq_true rfl) ?_
  rw [← eM1]
  obtain ⟨M2, q3, h⟩ := bi_ h
  refine v_putF (f := 0) G cl6 dX6_init_10 w291 (by decide) (by decide) (by decide) rfl rfl (fun _ => rfl) (fun _ => rfl) q3 ?_
  refine v_aload_n G dX6_init_13 rfl ?_
  obtain ⟨M4, eM4, h⟩ := nb_ h
  refine v_new G cl5 dX6_init_14 w79 (Nat.le_of_ble_eq_true rfl) (Nat.le_of_ble_eq_true rfl) ?_
  rw [← eM4]
  refine v_dup G dX6_init_17 rfl ?_
  obtain ⟨M6, q5, h⟩ := bi_ h
  refine v_callIN (e_X5_init q5) G my_X5_init rfl w82 n81 dX6_init_18 rfl (Nat.le_of_ble_eq_true rfl) rfl (Nat.le_of_ble_eq_true rfl) (Nat.le_of_ble_eq_true rfl) (Nat.le_of_ble_eq_true rfl) ?_
  obtain ⟨M7, q8, h⟩ := bi_ h
  refine v_putF (f := 1) G cl6 dX6_init_21 w292 (by decide) (by decide) (by decide) rfl rfl (fun _ => rfl) (fun _ => rfl) q8 ?_
  refine v_aload_n G dX6_init_24 rfl ?_
  refine v_iconst G (2 : Int32) dX6_init_25 (by decide) ?_
  obtain ⟨M9, eM9, h⟩ := nb_ h
  refine v_new4 (n' := 2) G dX6_init_26 w79 (by decide) (by decide) (by decide) (Nat.le_of_ble_eq_true rfl) (Nat.le_of_ble_eq_true rfl) ?_
  rw [← eM9]
  obtain ⟨M10, q11, h⟩ := bi_ h
  refine v_putF (f := 2) G cl6 dX6_init_29 w293 (by decide) (by decide) (by decide) rfl rfl (fun _ => rfl) (fun _ => rfl) q11 ?_
  refine v_aload_n G dX6_init_32 rfl ?_
  obtain ⟨M12, eM12, h⟩ := nb_ h
  refine v_new G cl0 dX6_init_33 w147 (Nat.le_of_ble_eq_true rfl) (Nat.le_of_ble_eq_true rfl) ?_
  rw [← eM12]
  refine v_dup G dX6_init_36 rfl ?_
  obtain ⟨M14, q13, h⟩ := bi_ h
  refine v_callI (e_X0_init q13) G my_X0_init rfl w150 w149 dX6_init_37 rfl (Nat.le_of_ble_eq_true rfl) rfl (Nat.le_of_ble_eq_true rfl) (Nat.le_of_ble_eq_true rfl) (Nat.le_of_ble_eq_true rfl) ?_
  obtain ⟨M15, q16, h⟩ := bi_ h
  refine v_putF (f := 3) G cl6 dX6_init_40 w294 (by decide) (by decide) (by decide) rfl rfl (fun _ => rfl) (fun _ => rfl) q16 ?_
  refine v_aload_n G dX6_init_43 rfl ?_
  obtain ⟨M17, eM17, h⟩ := nb_ h
  refine v_new G cl3 dX6_init_44 w166 (Nat.le_of_ble_eq_true rfl) (Nat.le_of_ble_eq_true rfl) ?_
  rw [← eM17]
  refine v_dup G dX6_init_47 rfl ?_
  obtain ⟨M19, q18, h⟩ := bi_ h
  refine v_callIN (e_X3_init q18) G my_X3_init rfl w169 n168 dX6_init_48 rfl (Nat.le_of_ble_eq_true rfl) rfl (Nat.le_of_ble_eq_true rfl) (Nat.le_of_ble_eq_true rfl) (Nat.le_of_ble_eq_true rfl) ?_
  obtain ⟨M20, q21, h⟩ := bi_ h
  refine v_putF (f := 4) G cl6 dX6_init_51 w295 (by decide) (by decide) (by decide) rfl rfl (fun _ => rfl) (fun _ => rfl) q21 ?_
  refine v_aload_n G dX6_init_54 rfl ?_
  obtain ⟨M22, eM22, h⟩ := nb_ h
  refine v_new G cl2 dX6_init_55 w203 (Nat.le_of_ble_eq_true rfl) (Nat.le_of_ble_eq_true rfl) ?_
  rw [← eM22]
  refine v_dup G dX6_init_58 rfl ?_
  obtain ⟨M24, q23, h⟩ := bi_ h
  refine v_callIN (e_X2_init q23) G my_X2_init rfl w206 n205 dX6_init_59 rfl (Nat.le_of_ble_eq_true rfl) rfl (Nat.le_of_ble_eq_true rfl) (Nat.le_of_ble_eq_true rfl) (Nat.le_of_ble_eq_true rfl) ?_
  obtain ⟨M25, q26, h⟩ := bi_ h
  refine v_putF (f := 5) G cl6 dX6_init_62 w296 (by decide) (by decide) (by decide) rfl rfl (fun _ => rfl) (fun _ => rfl) q26 ?_
  refine v_aload_n G dX6_init_65 rfl ?_
  obtain ⟨M27, eM27, h⟩ := nb_ h
  refine v_new G cl1 dX6_init_66 w238 (Nat.le_of_ble_eq_true rfl) (Nat.le_of_ble_eq_true rfl) ?_
  rw [← eM27]
  refine v_dup G dX6_init_69 rfl ?_
  obtain ⟨M29, q28, h⟩ := bi_ h
  refine v_callIN (e_X1_init q28) G my_X1_init rfl w241 n240 dX6_init_70 rfl (Nat.le_of_ble_eq_true rfl) rfl (Nat.le_of_ble_eq_true rfl) (Nat.le_of_ble_eq_true rfl) (Nat.le_of_ble_eq_true rfl) ?_
  obtain ⟨M30, q31, h⟩ := bi_ h
  refine v_putF (f := 6) G cl6 dX6_init_73 w297 (by decide) (by decide) (by decide) rfl rfl (fun _ => rfl) (fun _ => rfl) q31 ?_
  refine v_iconst G (0 : Int32) dX6_init_76 (by decide) ?_
  refine v_istore_n [some (.ref x0), some (.int (0 : Int32))] G dX6_init_77 (Nat.le_of_ble_eq_true rfl) rfl rfl ?_
  refine v_iload_n G dX6_init_78 rfl ?_
  refine v_bipush G (8 : Int32) dX6_init_79 (by decide) ?_
  refine v_ic_ge 103 G dX6_init_81 (by decide) (fun q => absurd q (by decide)) (fun _ => ?_)
  refine v_aload_n G dX6_init_84 rfl ?_
  obtain ⟨b32, q33, h⟩ := bi_ h
  refine v_getR (f := 0) G cl6 dX6_init_85 w291 (by decide) (by decide) q33 ?_
  refine v_iload_n G dX6_init_88 rfl ?_
  obtain ⟨M34, eM34, h⟩ := nb_ h
  refine v_new G cl4 dX6_init_89 w77 (Nat.le_of_ble_eq_true rfl) (Nat.le_of_ble_eq_true rfl) ?_
  rw [← eM34]
  refine v_dup G dX6_init_92 rfl ?_
  obtain ⟨M36, q35, h⟩ := bi_ h
  refine v_callIN (e_X4_init q35) G my_X4_init rfl w270 n269 dX6_init_93 rfl (Nat.le_of_ble_eq_true rfl) rfl (Nat.le_of_ble_eq_true rfl) (Nat.le_of_ble_eq_true rfl) (Nat.le_of_ble_eq_true rfl) ?_
  obtain ⟨M37, q38, h⟩ := bi_ h
  refine v_aast3 G dX6_init_96 q38 ?_
  refine v_iinc (1 : Int32) [some (.ref x0), some (.int (1 : Int32))] G dX6_init_97 rfl (by decide) (Nat.le_of_ble_eq_true rfl) rfl rfl ?_
  refine v_goto 78 G dX6_init_100 (by decide) ?_
  refine v_iload_n G dX6_init_78 rfl ?_
  refine v_bipush G (8 : Int32) dX6_init_79 (by decide) ?_
  refine v_ic_ge 103 G dX6_init_81 (by decide) (fun q => absurd q (by decide)) (fun _ => ?_)
  refine v_aload_n G dX6_init_84 rfl ?_
  obtain ⟨b39, q40, h⟩ := bi_ h
  refine v_getR (f := 0) G cl6 dX6_init_85 w291 (by decide) (by decide) q40 ?_
  refine v_iload_n G dX6_init_88 rfl ?_
  obtain ⟨M41, eM41, h⟩ := nb_ h
  refine v_new G cl4 dX6_init_89 w77 (Nat.le_of_ble_eq_true rfl) (Nat.le_of_ble_eq_true rfl) ?_
  rw [← eM41]
  refine v_dup G dX6_init_92 rfl ?_
  obtain ⟨M43, q42, h⟩ := bi_ h
  refine v_callIN (e_X4_init q42) G my_X4_init rfl w270 n269 dX6_init_93 rfl (Nat.le_of_ble_eq_true rfl) rfl (Nat.le_of_ble_eq_true rfl) (Nat.le_of_ble_eq_true rfl) (Nat.le_of_ble_eq_true rfl) ?_
  obtain ⟨M44, q45, h⟩ := bi_ h
  refine v_aast3 G dX6_init_96 q45 ?_
  refine v_iinc (2 : Int32) [some (.ref x0), some (.int (2 : Int32))] G dX6_init_97 rfl (by decide) (Nat.le_of_ble_eq_true rfl) rfl rfl ?_
  refine v_goto 78 G dX6_init_100 (by decide) ?_
  refine v_iload_n G dX6_init_78 rfl ?_
  refine v_bipush G (8 : Int32) dX6_init_79 (by decide) ?_
  refine v_ic_ge 103 G dX6_init_81 (by decide) (fun q => absurd q (by decide)) (fun _ => ?_)
  refine v_aload_n G dX6_init_84 rfl ?_
  obtain ⟨b46, q47, h⟩ := bi_ h
  refine v_getR (f := 0) G cl6 dX6_init_85 w291 (by decide) (by decide) q47 ?_
  refine v_iload_n G dX6_init_88 rfl ?_
  obtain ⟨M48, eM48, h⟩ := nb_ h
  refine v_new G cl4 dX6_init_89 w77 (Nat.le_of_ble_eq_true rfl) (Nat.le_of_ble_eq_true rfl) ?_
  rw [← eM48]
  refine v_dup G dX6_init_92 rfl ?_
  obtain ⟨M50, q49, h⟩ := bi_ h
  refine v_callIN (e_X4_init q49) G my_X4_init rfl w270 n269 dX6_init_93 rfl (Nat.le_of_ble_eq_true rfl) rfl (Nat.le_of_ble_eq_true rfl) (Nat.le_of_ble_eq_true rfl) (Nat.le_of_ble_eq_true rfl) ?_
  obtain ⟨M51, q52, h⟩ := bi_ h
  refine v_aast3 G dX6_init_96 q52 ?_
  refine v_iinc (3 : Int32) [some (.ref x0), some (.int (3 : Int32))] G dX6_init_97 rfl (by decide) (Nat.le_of_ble_eq_true rfl) rfl rfl ?_
  refine v_goto 78 G dX6_init_100 (by decide) ?_
  refine v_iload_n G dX6_init_78 rfl ?_
  refine v_bipush G (8 : Int32) dX6_init_79 (by decide) ?_
  refine v_ic_ge 103 G dX6_init_81 (by decide) (fun q => absurd q (by decide)) (fun _ => ?_)
  refine v_aload_n G dX6_init_84 rfl ?_
  obtain ⟨b53, q54, h⟩ := bi_ h
  refine v_getR (f := 0) G cl6 dX6_init_85 w291 (by decide) (by decide) q54 ?_
  refine v_iload_n G dX6_init_88 rfl ?_
  obtain ⟨M55, eM55, h⟩ := nb_ h
  refine v_new G cl4 dX6_init_89 w77 (Nat.le_of_ble_eq_true rfl) (Nat.le_of_ble_eq_true rfl) ?_
  rw [← eM55]
  refine v_dup G dX6_init_92 rfl ?_
  obtain ⟨M57, q56, h⟩ := bi_ h
  refine v_callIN (e_X4_init q56) G my_X4_init rfl w270 n269 dX6_init_93 rfl (Nat.le_of_ble_eq_true rfl) rfl (Nat.le_of_ble_eq_true rfl) (Nat.le_of_ble_eq_true rfl) (Nat.le_of_ble_eq_true rfl) ?_
  obtain ⟨M58, q59, h⟩ := bi_ h
  refine v_aast3 G dX6_init_96 q59 ?_
  refine v_iinc (4 : Int32) [some (.ref x0), some (.int (4 : Int32))] G dX6_init_97 rfl (by decide) (Nat.le_of_ble_eq_true rfl) rfl rfl ?_
  refine v_goto 78 G dX6_init_100 (by decide) ?_
  refine v_iload_n G dX6_init_78 rfl ?_
  refine v_bipush G (8 : Int32) dX6_init_79 (by decide) ?_
  refine v_ic_ge 103 G dX6_init_81 (by decide) (fun q => absurd q (by decide)) (fun _ => ?_)
  refine v_aload_n G dX6_init_84 rfl ?_
  obtain ⟨b60, q61, h⟩ := bi_ h
  refine v_getR (f := 0) G cl6 dX6_init_85 w291 (by decide) (by decide) q61 ?_
  refine v_iload_n G dX6_init_88 rfl ?_
  obtain ⟨M62, eM62, h⟩ := nb_ h
  refine v_new G cl4 dX6_init_89 w77 (Nat.le_of_ble_eq_true rfl) (Nat.le_of_ble_eq_true rfl) ?_
  rw [← eM62]
  refine v_dup G dX6_init_92 rfl ?_
  obtain ⟨M64, q63, h⟩ := bi_ h
  refine v_callIN (e_X4_init q63) G my_X4_init rfl w270 n269 dX6_init_93 rfl (Nat.le_of_ble_eq_true rfl) rfl (Nat.le_of_ble_eq_true rfl) (Nat.le_of_ble_eq_true rfl) (Nat.le_of_ble_eq_true rfl) ?_
  obtain ⟨M65, q66, h⟩ := bi_ h
  refine v_aast3 G dX6_init_96 q66 ?_
  refine v_iinc (5 : Int32) [some (.ref x0), some (.int (5 : Int32))] G dX6_init_97 rfl (by decide) (Nat.le_of_ble_eq_true rfl) rfl rfl ?_
  refine v_goto 78 G dX6_init_100 (by decide) ?_
  refine v_iload_n G dX6_init_78 rfl ?_
  refine v_bipush G (8 : Int32) dX6_init_79 (by decide) ?_
  refine v_ic_ge 103 G dX6_init_81 (by decide) (fun q => absurd q (by decide)) (fun _ => ?_)
  refine v_aload_n G dX6_init_84 rfl ?_
  obtain ⟨b67, q68, h⟩ := bi_ h
  refine v_getR (f := 0) G cl6 dX6_init_85 w291 (by decide) (by decide) q68 ?_
  refine v_iload_n G dX6_init_88 rfl ?_
  obtain ⟨M69, eM69, h⟩ := nb_ h
  refine v_new G cl4 dX6_init_89 w77 (Nat.le_of_ble_eq_true rfl) (Nat.le_of_ble_eq_true rfl) ?_
  rw [← eM69]
  refine v_dup G dX6_init_92 rfl ?_
  obtain ⟨M71, q70, h⟩ := bi_ h
  refine v_callIN (e_X4_init q70) G my_X4_init rfl w270 n269 dX6_init_93 rfl (Nat.le_of_ble_eq_true rfl) rfl (Nat.le_of_ble_eq_true rfl) (Nat.le_of_ble_eq_true rfl) (Nat.le_of_ble_eq_true rfl) ?_
  obtain ⟨M72, q73, h⟩ := bi_ h
  refine v_aast3 G dX6_init_96 q73 ?_
  refine v_iinc (6 : Int32) [some (.ref x0), some (.int (6 : Int32))] G dX6_init_97 rfl (by decide) (Nat.le_of_ble_eq_true rfl) rfl rfl ?_
  refine v_goto 78 G dX6_init_100 (by decide) ?_
  refine v_iload_n G dX6_init_78 rfl ?_
  refine v_bipush G (8 : Int32) dX6_init_79 (by decide) ?_
  refine v_ic_ge 103 G dX6_init_81 (by decide) (fun q => absurd q (by decide)) (fun _ => ?_)
  refine v_aload_n G dX6_init_84 rfl ?_
  obtain ⟨b74, q75, h⟩ := bi_ h
  refine v_getR (f := 0) G cl6 dX6_init_85 w291 (by decide) (by decide) q75 ?_
  refine v_iload_n G dX6_init_88 rfl ?_
  obtain ⟨M76, eM76, h⟩ := nb_ h
  refine v_new G cl4 dX6_init_89 w77 (Nat.le_of_ble_eq_true rfl) (Nat.le_of_ble_eq_true rfl) ?_
  rw [← eM76]
  refine v_dup G dX6_init_92 rfl ?_
  obtain ⟨M78, q77, h⟩ := bi_ h
  refine v_callIN (e_X4_init q77) G my_X4_init rfl w270 n269 dX6_init_93 rfl (Nat.le_of_ble_eq_true rfl) rfl (Nat.le_of_ble_eq_true rfl) (Nat.le_of_ble_eq_true rfl) (Nat.le_of_ble_eq_true rfl) ?_
  obtain ⟨M79, q80, h⟩ := bi_ h
  refine v_aast3 G dX6_init_96 q80 ?_
  refine v_iinc (7 : Int32) [some (.ref x0), some (.int (7 : Int32))] G dX6_init_97 rfl (by decide) (Nat.le_of_ble_eq_true rfl) rfl rfl ?_
  refine v_goto 78 G dX6_init_100 (by decide) ?_
  refine v_iload_n G dX6_init_78 rfl ?_
  refine v_bipush G (8 : Int32) dX6_init_79 (by decide) ?_
  refine v_ic_ge 103 G dX6_init_81 (by decide) (fun q => absurd q (by decide)) (fun _ => ?_)
  refine v_aload_n G dX6_init_84 rfl ?_
  obtain ⟨b81, q82, h⟩ := bi_ h
  refine v_getR (f := 0) G cl6 dX6_init_85 w291 (by decide) (by decide) q82 ?_
  refine v_iload_n G dX6_init_88 rfl ?_
  obtain ⟨M83, eM83, h⟩ := nb_ h
  refine v_new G cl4 dX6_init_89 w77 (Nat.le_of_ble_eq_true rfl) (Nat.le_of_ble_eq_true rfl) ?_
  rw [← eM83]
  refine v_dup G dX6_init_92 rfl ?_
  obtain ⟨M85, q84, h⟩ := bi_ h
  refine v_callIN (e_X4_init q84) G my_X4_init rfl w270 n269 dX6_init_93 rfl (Nat.le_of_ble_eq_true rfl) rfl (Nat.le_of_ble_eq_true rfl) (Nat.le_of_ble_eq_true rfl) (Nat.le_of_ble_eq_true rfl) ?_
  obtain ⟨M86, q87, h⟩ := bi_ h
  refine v_aast3 G dX6_init_96 q87 ?_
  refine v_iinc (8 : Int32) [some (.ref x0), some (.int (8 : Int32))] G dX6_init_97 rfl (by decide) (Nat.le_of_ble_eq_true rfl) rfl rfl ?_
  refine v_goto 78 G dX6_init_100 (by decide) ?_
  refine v_iload_n G dX6_init_78 rfl ?_
  refine v_bipush G (8 : Int32) dX6_init_79 (by decide) ?_
  refine v_ic_ge 103 G dX6_init_81 (by decide) (fun _ => ?_) (fun q => absurd (by decide) q)
  refine v_iconst G (0 : Int32) dX6_init_103 (by decide) ?_
  refine v_istore_n [some (.ref x0), some (.int (0 : Int32))] G dX6_init_104 (Nat.le_of_ble_eq_true rfl) rfl rfl ?_
  refine v_iload_n G dX6_init_105 rfl ?_
  refine v_iconst G (2 : Int32) dX6_init_106 (by decide) ?_
  refine v_ic_ge 129 G dX6_init_107 (by decide) (fun q => absurd q (by decide)) (fun _ => ?_)
  refine v_aload_n G dX6_init_110 rfl ?_
  obtain ⟨b88, q89, h⟩ := bi_ h
  refine v_getR (f := 2) G cl6 dX6_init_111 w293 (by decide) (by decide) q89 ?_
  refine v_iload_n G dX6_init_114 rfl ?_
  obtain ⟨M90, eM90, h⟩ := nb_ h
  refine v_new G cl5 dX6_init_115 w79 (Nat.le_of_ble_eq_true rfl) (Nat.le_of_ble_eq_true rfl) ?_
  rw [← eM90]
  refine v_dup G dX6_init_118 rfl ?_
  obtain ⟨M92, q91, h⟩ := bi_ h
  refine v_callIN (e_X5_init q91) G my_X5_init rfl w82 n81 dX6_init_119 rfl (Nat.le_of_ble_eq_true rfl) rfl (Nat.le_of_ble_eq_true rfl) (Nat.le_of_ble_eq_true rfl) (Nat.le_of_ble_eq_true rfl) ?_
  obtain ⟨M93, q94, h⟩ := bi_ h
  refine v_aast4 G dX6_init_122 q94 ?_
  refine v_iinc (1 : Int32) [some (.ref x0), some (.int (1 : Int32))] G dX6_init_123 rfl (by decide) (Nat.le_of_ble_eq_true rfl) rfl rfl ?_
  refine v_goto 105 G dX6_init_126 (by decide) ?_
  refine v_iload_n G dX6_init_105 rfl ?_
  refine v_iconst G (2 : Int32) dX6_init_106 (by decide) ?_
  refine v_ic_ge 129 G dX6_init_107 (by decide) (fun q => absurd q (by decide)) (fun _ => ?_)
  refine v_aload_n G dX6_init_110 rfl ?_
  obtain ⟨b95, q96, h⟩ := bi_ h
  refine v_getR (f := 2) G cl6 dX6_init_111 w293 (by decide) (by decide) q96 ?_
  refine v_iload_n G dX6_init_114 rfl ?_
  obtain ⟨M97, eM97, h⟩ := nb_ h
  refine v_new G cl5 dX6_init_115 w79 (Nat.le_of_ble_eq_true rfl) (Nat.le_of_ble_eq_true rfl) ?_
  rw [← eM97]
  refine v_dup G dX6_init_118 rfl ?_
  obtain ⟨M99, q98, h⟩ := bi_ h
  refine v_callIN (e_X5_init q98) G my_X5_init rfl w82 n81 dX6_init_119 rfl (Nat.le_of_ble_eq_true rfl) rfl (Nat.le_of_ble_eq_true rfl) (Nat.le_of_ble_eq_true rfl) (Nat.le_of_ble_eq_true rfl) ?_
  obtain ⟨M100, q101, h⟩ := bi_ h
  refine v_aast4 G dX6_init_122 q101 ?_
  refine v_iinc (2 : Int32) [some (.ref x0), some (.int (2 : Int32))] G dX6_init_123 rfl (by decide) (Nat.le_of_ble_eq_true rfl) rfl rfl ?_
  refine v_goto 105 G dX6_init_126 (by decide) ?_
  refine v_iload_n G dX6_init_105 rfl ?_
  refine v_iconst G (2 : Int32) dX6_init_106 (by decide) ?_
  refine v_ic_ge 129 G dX6_init_107 (by decide) (fun _ => ?_) (fun q => absurd (by decide) q)
  cases h
  exact v_vret G F dX6_init_129 rfl (Nat.le_of_ble_eq_true rfl)
/-! X6_fine -/
def m_X6_fine (M : mM) (x0 : Nat) (x1 : Int32) : Option (mM × Int32) :=
  (pI M x0 6 7 (0 : Int32)).bind fun M1 =>
  some (M1, x1)
theorem e_X6_fine {Z : zZ} {M : mM} {N : mM} {x0 : Nat} {x1 : Int32} {r : Int32} (h : m_X6_fine M x0 x1 = some (N, r)) : EM Z yX6_fine cX6_fine 2 (some .int) 0 0 0 [.ref x0, .int x1] M N (some (.int r)) := by
  refine EM_of my_X6_fine (Nat.le_of_ble_eq_true rfl) (fun X G F => ?_)
  show V X Z M 0 0 0 [some (.ref x0), some (.int x1)] []
  unfold m_X6_fine at h
  refine v_aload_n G dX6_fine_0 rfl ?_
  refine v_iconst G (0 : Int32) dX6_fine_1 (by decide) ?_
  obtain ⟨M1, q2, h⟩ := bi_ h
  refine v_putI (f := 7) G cl6 dX6_fine_2 w298 (by decide) (by decide) (by decide) rfl rfl q2 ?_
  refine v_iload_n G dX6_fine_5 rfl ?_
  cases h
  exact v_iret G F dX6_fine_6 rfl (Nat.le_refl _)
/-! X6_found -/
def m_X6_found (M : mM) (x0 : Nat) (x1 : Int32) : Option (mM × Int32) :=
  (pI M x0 6 7 x1).bind fun M1 =>
  some (M1, ((-1000010 : Int32) - x1))
theorem e_X6_found {Z : zZ} {M : mM} {N : mM} {x0 : Nat} {x1 : Int32} {r : Int32} (h : m_X6_found M x0 x1 = some (N, r)) : EM Z yX6_found cX6_found 2 (some .int) 0 0 0 [.ref x0, .int x1] M N (some (.int r)) := by
  refine EM_of my_X6_found (Nat.le_of_ble_eq_true rfl) (fun X G F => ?_)
  show V X Z M 0 0 0 [some (.ref x0), some (.int x1)] []
  unfold m_X6_found at h
  refine v_aload_n G dX6_found_0 rfl ?_
  refine v_iload_n G dX6_found_1 rfl ?_
  obtain ⟨M1, q2, h⟩ := bi_ h
  refine v_putI (f := 7) G cl6 dX6_found_2 w298 (by decide) (by decide) (by decide) rfl rfl q2 ?_
  refine v_ldcw G (-1000010 : Int32) dX6_found_5 w331 ?_
  refine v_iload_n G dX6_found_8 rfl ?_
  refine v_isub G dX6_found_9 ?_
  cases h
  exact v_iret G F dX6_found_10 rfl (Nat.le_refl _)
/-! X6_noRow -/
def m_X6_noRow (M : mM) (x0 : Int32) : Option Int32 :=
  (m_X6_outside M x0 (0 : Int32) (7 : Int32)).bind fun v2 =>
  if (v2 == 0 || v2 == 1) = true then some v2 else none
theorem e_X6_noRow {Z : zZ} {M : mM} {x0 : Int32} {r : Int32} (h : m_X6_noRow M x0 = some r) : EM Z yX6_noRow cX6_noRow 1 (some .boolean) 1 0 0 [.int x0] M M (some (.int r)) := by
  refine EM_of my_X6_noRow (Nat.le_of_ble_eq_true rfl) (fun X G F => ?_)
  show V X Z M 0 0 0 [some (.int x0)] []
  unfold m_X6_noRow at h
  refine v_iload_n G dX6_noRow_0 rfl ?_
  refine v_iconst G (0 : Int32) dX6_noRow_1 (by decide) ?_
  refine v_bipush G (7 : Int32) dX6_noRow_2 (by decide) ?_
  obtain ⟨v2, q1, h⟩ := bi_ h
  refine v_callS0 (e_X6_outside q1) G my_X6_outside w324 w323 dX6_noRow_4 rfl (Nat.le_of_ble_eq_true rfl) rfl (Nat.le_of_ble_eq_true rfl) (Nat.zero_le _) (Nat.zero_le _) ?_
  obtain ⟨q3, h⟩ := if_s h
  cases h
  exact v_zret G F q3 dX6_noRow_7 rfl (Nat.le_refl _)
/-! X6_row -/
def m_X6_row (M : mM) (x0 : Nat) (x1 : Int32) (x2 : Int32) (x3 : Int32) : Option (mM × Int32) :=
  (m_X6_noRow M x1).bind fun v2 =>
  if v2 = (0 : Int32) then (
    (m_X6_outside M x2 (0 : Int32) (2 : Int32)).bind fun v5 =>
    if v5 = (0 : Int32) then (
      if x3 ≤ (40 : Int32) then (
        if (0 : Int32) ≤ x3 then (
          (gR M x0 6 0).bind fun b9 =>
          (ldR M b9 3 x1).bind fun b12 =>
          if isO M b12 4 = true then
          (m_X4_begin M b12 x2 x3).bind fun M14 =>
          if isO M14 x0 6 = true then
          bd2 (m_X6_fine M14 x0 x3) fun M16 v17 =>
          some (M16, v17)
          else none
          else none
        ) else (
          if isO M x0 6 = true then
          bd2 (m_X6_found M x0 (4 : Int32)) fun M21 v22 =>
          some (M21, v22)
          else none
        )
      ) else (
        some (M, (-1000001 : Int32))
      )
    ) else (
      some (M, (-1000001 : Int32))
    )
  ) else (
    some (M, (-1000001 : Int32))
  )
theorem e_X6_row {Z : zZ} {M : mM} {N : mM} {x0 : Nat} {x1 : Int32} {x2 : Int32} {x3 : Int32} {r : Int32} (h : m_X6_row M x0 x1 x2 x3 = some (N, r)) : EM Z yX6_row cX6_row 4 (some .int) 2 0 0 [.ref x0, .int x1, .int x2, .int x3] M N (some (.int r)) := by
  refine EM_of my_X6_row (Nat.le_of_ble_eq_true rfl) (fun X G F => ?_)
  show V X Z M 0 0 0 [some (.ref x0), some (.int x1), some (.int x2), some (.int x3)] []
  unfold m_X6_row at h
  refine v_iload_n G dX6_row_0 rfl ?_
  obtain ⟨v2, q1, h⟩ := bi_ h
  refine v_callS0 (e_X6_noRow q1) G my_X6_noRow w321 w320 dX6_row_1 rfl (Nat.le_of_ble_eq_true rfl) rfl (Nat.le_of_ble_eq_true rfl) (Nat.zero_le _) (Nat.zero_le _) ?_
  refine v_if_ne 22 G dX6_row_4 (by decide) (fun q3 => ?_) (fun q3 => ?_)
  · rw [if_neg q3] at h
    refine v_ldc G (-1000001 : Int32) dX6_row_22 w326 ?_
    cases h
    exact v_iret G F dX6_row_24 rfl (Nat.le_refl _)
  · rw [if_pos q3] at h
    refine v_iload_n G dX6_row_7 rfl ?_
    refine v_iconst G (0 : Int32) dX6_row_8 (by decide) ?_
    refine v_iconst G (2 : Int32) dX6_row_9 (by decide) ?_
    obtain ⟨v5, q4, h⟩ := bi_ h
    refine v_callS0 (e_X6_outside q4) G my_X6_outside w324 w323 dX6_row_10 rfl (Nat.le_of_ble_eq_true rfl) rfl (Nat.le_of_ble_eq_true rfl) (Nat.zero_le _) (Nat.zero_le _) ?_
    refine v_if_ne 22 G dX6_row_13 (by decide) (fun q6 => ?_) (fun q6 => ?_)
    · rw [if_neg q6] at h
      refine v_ldc G (-1000001 : Int32) dX6_row_22 w326 ?_
      cases h
      exact v_iret G F dX6_row_24 rfl (Nat.le_refl _)
    · rw [if_pos q6] at h
      refine v_iload_n G dX6_row_16 rfl ?_
      refine v_bipush G (40 : Int32) dX6_row_17 (by decide) ?_
      refine v_ic_le 25 G dX6_row_19 (by decide) (fun q7 => ?_) (fun q7 => ?_)
      · rw [if_pos q7] at h
        refine v_iload_n G dX6_row_25 rfl ?_
        refine v_if_ge 35 G dX6_row_26 (by decide) (fun q8 => ?_) (fun q8 => ?_)
        · rw [if_pos q8] at h
          refine v_aload_n G dX6_row_35 rfl ?_
          obtain ⟨b9, q10, h⟩ := bi_ h
          refine v_getR (f := 0) G cl6 dX6_row_36 w291 (by decide) (by decide) q10 ?_
          refine v_iload_n G dX6_row_39 rfl ?_
          obtain ⟨b12, q11, h⟩ := bi_ h
          refine v_aald3 G dX6_row_40 q11 ?_
          refine v_iload_n G dX6_row_41 rfl ?_
          refine v_iload_n G dX6_row_42 rfl ?_
          obtain ⟨q19, h⟩ := if_s h
          obtain ⟨M14, q13, h⟩ := bi_ h
          refine v_callV0 (e_X4_begin q13) G cl4 my_X4_begin rfl w333 w334 w332 dX6_row_43 q19 rfl (Nat.le_of_ble_eq_true rfl) rfl (Nat.le_of_ble_eq_true rfl) (Nat.zero_le _) (Nat.zero_le _) ?_
          refine v_aload_n G dX6_row_46 rfl ?_
          refine v_iload_n G dX6_row_47 rfl ?_
          obtain ⟨q18, h⟩ := if_s h
          obtain ⟨M16, v17, q15, h⟩ := bi2_ h
          refine v_callV0 (e_X6_fine q15) G cl6 my_X6_fine rfl w338 w1 w336 dX6_row_48 q18 rfl (Nat.le_of_ble_eq_true rfl) rfl (Nat.le_of_ble_eq_true rfl) (Nat.zero_le _) (Nat.zero_le _) ?_
          cases h
          exact v_iret G F dX6_row_51 rfl (Nat.le_refl _)
        · rw [if_neg q8] at h
          refine v_aload_n G dX6_row_29 rfl ?_
          refine v_iconst G (4 : Int32) dX6_row_30 (by decide) ?_
          obtain ⟨q23, h⟩ := if_s h
          obtain ⟨M21, v22, q20, h⟩ := bi2_ h
          refine v_callV0 (e_X6_found q20) G cl6 my_X6_found rfl w329 w0 w327 dX6_row_31 q23 rfl (Nat.le_of_ble_eq_true rfl) rfl (Nat.le_of_ble_eq_true rfl) (Nat.zero_le _) (Nat.zero_le _) ?_
          cases h
          exact v_iret G F dX6_row_34 rfl (Nat.le_refl _)
      · rw [if_neg q7] at h
        refine v_ldc G (-1000001 : Int32) dX6_row_22 w326 ?_
        cases h
        exact v_iret G F dX6_row_24 rfl (Nat.le_refl _)
/-! X6_wrongPlace -/
def m_X6_wrongPlace (M : mM) (x0 : Nat) (x1 : Int32) (x2 : Int32) (x3 : Int32) : Option Int32 :=
  (gR M x0 6 0).bind fun b1 =>
  (ldR M b1 3 x1).bind fun b4 =>
  (gI M b4 4 1).bind fun v5 =>
  if v5 = (0 : Int32) then (
    some (1 : Int32)
  ) else (
    (gR M x0 6 0).bind fun b8 =>
    (ldR M b8 3 x1).bind fun b11 =>
    if isO M b11 4 = true then
    (m_X4_has M b11 x2 x3).bind fun v13 =>
    if v13 = (0 : Int32) then (
      some (2 : Int32)
    ) else (
      some (0 : Int32)
    )
    else none
  )
theorem e_X6_wrongPlace {Z : zZ} {M : mM} {x0 : Nat} {x1 : Int32} {x2 : Int32} {x3 : Int32} {r : Int32} (h : m_X6_wrongPlace M x0 x1 x2 x3 = some r) : EM Z yX6_wrongPlace cX6_wrongPlace 4 (some .int) 1 0 0 [.ref x0, .int x1, .int x2, .int x3] M M (some (.int r)) := by
  refine EM_of my_X6_wrongPlace (Nat.le_of_ble_eq_true rfl) (fun X G F => ?_)
  show V X Z M 0 0 0 [some (.ref x0), some (.int x1), some (.int x2), some (.int x3)] []
  unfold m_X6_wrongPlace at h
  refine v_aload_n G dX6_wrongPlace_0 rfl ?_
  obtain ⟨b1, q2, h⟩ := bi_ h
  refine v_getR (f := 0) G cl6 dX6_wrongPlace_1 w291 (by decide) (by decide) q2 ?_
  refine v_iload_n G dX6_wrongPlace_4 rfl ?_
  obtain ⟨b4, q3, h⟩ := bi_ h
  refine v_aald3 G dX6_wrongPlace_5 q3 ?_
  obtain ⟨v5, q6, h⟩ := bi_ h
  refine v_getI (f := 1) G cl4 dX6_wrongPlace_6 w277 (by decide) (by decide) q6 ?_
  refine v_if_ne 14 G dX6_wrongPlace_9 (by decide) (fun q7 => ?_) (fun q7 => ?_)
  · rw [if_neg q7] at h
    refine v_aload_n G dX6_wrongPlace_14 rfl ?_
    obtain ⟨b8, q9, h⟩ := bi_ h
    refine v_getR (f := 0) G cl6 dX6_wrongPlace_15 w291 (by decide) (by decide) q9 ?_
    refine v_iload_n G dX6_wrongPlace_18 rfl ?_
    obtain ⟨b11, q10, h⟩ := bi_ h
    refine v_aald3 G dX6_wrongPlace_19 q10 ?_
    refine v_iload_n G dX6_wrongPlace_20 rfl ?_
    refine v_iload_n G dX6_wrongPlace_21 rfl ?_
    obtain ⟨q15, h⟩ := if_s h
    obtain ⟨v13, q12, h⟩ := bi_ h
    refine v_callV0 (e_X4_has q12) G cl4 my_X4_has rfl w349 w350 w348 dX6_wrongPlace_22 q15 rfl (Nat.le_of_ble_eq_true rfl) rfl (Nat.le_of_ble_eq_true rfl) (Nat.zero_le _) (Nat.zero_le _) ?_
    refine v_if_eq 32 G dX6_wrongPlace_25 (by decide) (fun q14 => ?_) (fun q14 => ?_)
    · rw [if_pos q14] at h
      refine v_iconst G (2 : Int32) dX6_wrongPlace_32 (by decide) ?_
      cases h
      exact v_iret G F dX6_wrongPlace_33 rfl (Nat.le_refl _)
    · rw [if_neg q14] at h
      refine v_iconst G (0 : Int32) dX6_wrongPlace_28 (by decide) ?_
      refine v_goto 33 G dX6_wrongPlace_29 (by decide) ?_
      cases h
      exact v_iret G F dX6_wrongPlace_33 rfl (Nat.le_refl _)
  · rw [if_pos q7] at h
    refine v_iconst G (1 : Int32) dX6_wrongPlace_12 (by decide) ?_
    cases h
    exact v_iret G F dX6_wrongPlace_13 rfl (Nat.le_refl _)
/-! X6_set -/
def m_X6_set (M : mM) (x0 : Nat) (x1 : Int32) (x2 : Int32) (x3 : Int32) : Option (mM × Int32) :=
  (m_X6_noRow M x1).bind fun v2 =>
  if v2 = (0 : Int32) then (
    if isO M x0 6 = true then
    (m_X6_wrongPlace M x0 x1 x2 (1 : Int32)).bind fun v5 =>
    if v5 = (0 : Int32) then (
      (gR M x0 6 0).bind fun b7 =>
      (ldR M b7 3 x1).bind fun b10 =>
      if isO M b10 4 = true then
      bd2 (m_X4_put M b10 x2 x3) fun M12 v13 =>
      if isO M12 x0 6 = true then
      bd2 (m_X6_fine M12 x0 v13) fun M15 v16 =>
      some (M15, v16)
      else none
      else none
    ) else (
      if isO M x0 6 = true then
      bd2 (m_X6_found M x0 v5) fun M20 v21 =>
      some (M20, v21)
      else none
    )
    else none
  ) else (
    some (M, (-1000001 : Int32))
  )
theorem e_X6_set {Z : zZ} {M : mM} {N : mM} {x0 : Nat} {x1 : Int32} {x2 : Int32} {x3 : Int32} {r : Int32} (h : m_X6_set M x0 x1 x2 x3 = some (N, r)) : EM Z yX6_set cX6_set 5 (some .int) 2 0 0 [.ref x0, .int x1, .int x2, .int x3] M N (some (.int r)) := by
  refine EM_of my_X6_set (Nat.le_of_ble_eq_true rfl) (fun X G F => ?_)
  show V X Z M 0 0 0 [some (.ref x0), some (.int x1), some (.int x2), some (.int x3), none] []
  unfold m_X6_set at h
  refine v_iload_n G dX6_set_0 rfl ?_
  obtain ⟨v2, q1, h⟩ := bi_ h
  refine v_callS0 (e_X6_noRow q1) G my_X6_noRow w321 w320 dX6_set_1 rfl (Nat.le_of_ble_eq_true rfl) rfl (Nat.le_of_ble_eq_true rfl) (Nat.zero_le _) (Nat.zero_le _) ?_
  refine v_if_eq 10 G dX6_set_4 (by decide) (fun q3 => ?_) (fun q3 => ?_)
  · rw [if_pos q3] at h
    refine v_aload_n G dX6_set_10 rfl ?_
    refine v_iload_n G dX6_set_11 rfl ?_
    refine v_iload_n G dX6_set_12 rfl ?_
    refine v_iconst G (1 : Int32) dX6_set_13 (by decide) ?_
    obtain ⟨q23, h⟩ := if_s h
    obtain ⟨v5, q4, h⟩ := bi_ h
    refine v_callV0 (e_X6_wrongPlace q4) G cl6 my_X6_wrongPlace rfl w346 w2 w344 dX6_set_14 q23 rfl (Nat.le_of_ble_eq_true rfl) rfl (Nat.le_of_ble_eq_true rfl) (Nat.zero_le _) (Nat.zero_le _) ?_
    refine v_istore [some (.ref x0), some (.int x1), some (.int x2), some (.int x3), some (.int v5)] G dX6_set_17 (Nat.le_of_ble_eq_true rfl) rfl rfl ?_
    refine v_iload G dX6_set_19 rfl ?_
    refine v_if_eq 33 G dX6_set_21 (by decide) (fun q6 => ?_) (fun q6 => ?_)
    · rw [if_pos q6] at h
      refine v_aload_n G dX6_set_33 rfl ?_
      refine v_aload_n G dX6_set_34 rfl ?_
      obtain ⟨b7, q8, h⟩ := bi_ h
      refine v_getR (f := 0) G cl6 dX6_set_35 w291 (by decide) (by decide) q8 ?_
      refine v_iload_n G dX6_set_38 rfl ?_
      obtain ⟨b10, q9, h⟩ := bi_ h
      refine v_aald3 G dX6_set_39 q9 ?_
      refine v_iload_n G dX6_set_40 rfl ?_
      refine v_iload_n G dX6_set_41 rfl ?_
      obtain ⟨q18, h⟩ := if_s h
      obtain ⟨M12, v13, q11, h⟩ := bi2_ h
      refine v_callV0 (e_X4_put q11) G cl4 my_X4_put rfl w353 w354 w352 dX6_set_42 q18 rfl (Nat.le_of_ble_eq_true rfl) rfl (Nat.le_of_ble_eq_true rfl) (Nat.zero_le _) (Nat.zero_le _) ?_
      obtain ⟨q17, h⟩ := if_s h
      obtain ⟨M15, v16, q14, h⟩ := bi2_ h
      refine v_callV0 (e_X6_fine q14) G cl6 my_X6_fine rfl w338 w1 w336 dX6_set_45 q17 rfl (Nat.le_of_ble_eq_true rfl) rfl (Nat.le_of_ble_eq_true rfl) (Nat.zero_le _) (Nat.zero_le _) ?_
      cases h
      exact v_iret G F dX6_set_48 rfl (Nat.le_refl _)
    · rw [if_neg q6] at h
      refine v_aload_n G dX6_set_24 rfl ?_
      refine v_iload G dX6_set_25 rfl ?_
      obtain ⟨q22, h⟩ := if_s h
      obtain ⟨M20, v21, q19, h⟩ := bi2_ h
      refine v_callV0 (e_X6_found q19) G cl6 my_X6_found rfl w329 w0 w327 dX6_set_27 q22 rfl (Nat.le_of_ble_eq_true rfl) rfl (Nat.le_of_ble_eq_true rfl) (Nat.zero_le _) (Nat.zero_le _) ?_
      refine v_goto 48 G dX6_set_30 (by decide) ?_
      cases h
      exact v_iret G F dX6_set_48 rfl (Nat.le_refl _)
  · rw [if_neg q3] at h
    refine v_ldc G (-1000001 : Int32) dX6_set_7 w326 ?_
    cases h
    exact v_iret G F dX6_set_9 rfl (Nat.le_refl _)
/-! X6_copy -/
def m_X6_copy (M : mM) (x0 : Nat) (x1 : Int32) (x2 : Int32) (x3 : Int32) (x4 : Int32) (x5 : Int32) : Option (mM × Int32) :=
  (m_X6_noRow M x1).bind fun v2 =>
  if v2 = (0 : Int32) then (
    (m_X6_noRow M x3).bind fun v5 =>
    if v5 = (0 : Int32) then (
      (gR M x0 6 0).bind fun b7 =>
      (ldR M b7 3 x1).bind fun b10 =>
      (gR M x0 6 0).bind fun b11 =>
      (ldR M b11 3 x3).bind fun b14 =>
      (gI M b10 4 1).bind fun v15 =>
      if v15 = (0 : Int32) then (
        if isO M x0 6 = true then
        bd2 (m_X6_found M x0 (1 : Int32)) fun M19 v20 =>
        some (M19, v20)
        else none
      ) else (
        (gI M b14 4 1).bind fun v22 =>
        if v22 = (0 : Int32) then (
          if isO M x0 6 = true then
          bd2 (m_X6_found M x0 (1 : Int32)) fun M61 v62 =>
          some (M61, v62)
          else none
        ) else (
          (gI M b10 4 2).bind fun v25 =>
          (gI M b14 4 2).bind fun v27 =>
          if v25 = v27 then (
            if isO M b10 4 = true then
            (m_X4_has M b10 x2 x5).bind fun v31 =>
            if v31 = (0 : Int32) then (
              if isO M x0 6 = true then
              bd2 (m_X6_found M x0 (2 : Int32)) fun M34 v35 =>
              some (M34, v35)
              else none
            ) else (
              if isO M b14 4 = true then
              (m_X4_has M b14 x4 x5).bind fun v38 =>
              if v38 = (0 : Int32) then (
                if isO M x0 6 = true then
                bd2 (m_X6_found M x0 (2 : Int32)) fun M51 v52 =>
                some (M51, v52)
                else none
              ) else (
                (gR M b10 4 0).bind fun b40 =>
                (gR M b14 4 0).bind fun b42 =>
                (cpI M b40 x2 b42 x4 x5).bind fun M44 =>
                if isO M44 x0 6 = true then
                bd2 (m_X6_fine M44 x0 x5) fun M47 v48 =>
                some (M47, v48)
                else none
              )
              else none
            )
            else none
          ) else (
            if isO M x0 6 = true then
            bd2 (m_X6_found M x0 (5 : Int32)) fun M57 v58 =>
            some (M57, v58)
            else none
          )
        )
      )
    ) else (
      some (M, (-1000001 : Int32))
    )
  ) else (
    some (M, (-1000001 : Int32))
  )
theorem e_X6_copy {Z : zZ} {M : mM} {N : mM} {x0 : Nat} {x1 : Int32} {x2 : Int32} {x3 : Int32} {x4 : Int32} {x5 : Int32} {r : Int32} (h : m_X6_copy M x0 x1 x2 x3 x4 x5 = some (N, r)) : EM Z yX6_copy cX6_copy 8 (some .int) 2 0 0 [.ref x0, .int x1, .int x2, .int x3, .int x4, .int x5] M N (some (.int r)) := by
  refine EM_of my_X6_copy (Nat.le_of_ble_eq_true rfl) (fun X G F => ?_)
  show V X Z M 0 0 0 [some (.ref x0), some (.int x1), some (.int x2), some (.int x3), some (.int x4), some (.int x5), none, none] []
  unfold m_X6_copy at h
  refine v_iload_n G dX6_copy_0 rfl ?_
  obtain ⟨v2, q1, h⟩ := bi_ h
  refine v_callS0 (e_X6_noRow q1) G my_X6_noRow w321 w320 dX6_copy_1 rfl (Nat.le_of_ble_eq_true rfl) rfl (Nat.le_of_ble_eq_true rfl) (Nat.zero_le _) (Nat.zero_le _) ?_
  refine v_if_ne 14 G dX6_copy_4 (by decide) (fun q3 => ?_) (fun q3 => ?_)
  · rw [if_neg q3] at h
    refine v_ldc G (-1000001 : Int32) dX6_copy_14 w326 ?_
    cases h
    exact v_iret G F dX6_copy_16 rfl (Nat.le_refl _)
  · rw [if_pos q3] at h
    refine v_iload_n G dX6_copy_7 rfl ?_
    obtain ⟨v5, q4, h⟩ := bi_ h
    refine v_callS0 (e_X6_noRow q4) G my_X6_noRow w321 w320 dX6_copy_8 rfl (Nat.le_of_ble_eq_true rfl) rfl (Nat.le_of_ble_eq_true rfl) (Nat.zero_le _) (Nat.zero_le _) ?_
    refine v_if_eq 17 G dX6_copy_11 (by decide) (fun q6 => ?_) (fun q6 => ?_)
    · rw [if_pos q6] at h
      refine v_aload_n G dX6_copy_17 rfl ?_
      obtain ⟨b7, q8, h⟩ := bi_ h
      refine v_getR (f := 0) G cl6 dX6_copy_18 w291 (by decide) (by decide) q8 ?_
      refine v_iload_n G dX6_copy_21 rfl ?_
      obtain ⟨b10, q9, h⟩ := bi_ h
      refine v_aald3 G dX6_copy_22 q9 ?_
      refine v_astore [some (.ref x0), some (.int x1), some (.int x2), some (.int x3), some (.int x4), some (.int x5), some (.ref b10), none] G dX6_copy_23 (Nat.le_of_ble_eq_true rfl) rfl rfl ?_
      refine v_aload_n G dX6_copy_25 rfl ?_
      obtain ⟨b11, q12, h⟩ := bi_ h
      refine v_getR (f := 0) G cl6 dX6_copy_26 w291 (by decide) (by decide) q12 ?_
      refine v_iload_n G dX6_copy_29 rfl ?_
      obtain ⟨b14, q13, h⟩ := bi_ h
      refine v_aald3 G dX6_copy_30 q13 ?_
      refine v_astore [some (.ref x0), some (.int x1), some (.int x2), some (.int x3), some (.int x4), some (.int x5), some (.ref b10), some (.ref b14)] G dX6_copy_31 (Nat.le_of_ble_eq_true rfl) rfl rfl ?_
      refine v_aload G dX6_copy_33 rfl ?_
      obtain ⟨v15, q16, h⟩ := bi_ h
      refine v_getI (f := 1) G cl4 dX6_copy_35 w277 (by decide) (by decide) q16 ?_
      refine v_if_eq 49 G dX6_copy_38 (by decide) (fun q17 => ?_) (fun q17 => ?_)
      · rw [if_pos q17] at h
        refine v_aload_n G dX6_copy_49 rfl ?_
        refine v_iconst G (1 : Int32) dX6_copy_50 (by decide) ?_
        obtain ⟨q21, h⟩ := if_s h
        obtain ⟨M19, v20, q18, h⟩ := bi2_ h
        refine v_callV0 (e_X6_found q18) G cl6 my_X6_found rfl w329 w0 w327 dX6_copy_51 q21 rfl (Nat.le_of_ble_eq_true rfl) rfl (Nat.le_of_ble_eq_true rfl) (Nat.zero_le _) (Nat.zero_le _) ?_
        cases h
        exact v_iret G F dX6_copy_54 rfl (Nat.le_refl _)
      · rw [if_neg q17] at h
        refine v_aload G dX6_copy_41 rfl ?_
        obtain ⟨v22, q23, h⟩ := bi_ h
        refine v_getI (f := 1) G cl4 dX6_copy_43 w277 (by decide) (by decide) q23 ?_
        refine v_if_ne 55 G dX6_copy_46 (by decide) (fun q24 => ?_) (fun q24 => ?_)
        · rw [if_neg q24] at h
          refine v_aload G dX6_copy_55 rfl ?_
          obtain ⟨v25, q26, h⟩ := bi_ h
          refine v_getI (f := 2) G cl4 dX6_copy_57 w279 (by decide) (by decide) q26 ?_
          refine v_aload G dX6_copy_60 rfl ?_
          obtain ⟨v27, q28, h⟩ := bi_ h
          refine v_getI (f := 2) G cl4 dX6_copy_62 w279 (by decide) (by decide) q28 ?_
          refine v_ic_eq 74 G dX6_copy_65 (by decide) (fun q29 => ?_) (fun q29 => ?_)
          · rw [if_pos q29] at h
            refine v_aload G dX6_copy_74 rfl ?_
            refine v_iload_n G dX6_copy_76 rfl ?_
            refine v_iload G dX6_copy_77 rfl ?_
            obtain ⟨q55, h⟩ := if_s h
            obtain ⟨v31, q30, h⟩ := bi_ h
            refine v_callV0 (e_X4_has q30) G cl4 my_X4_has rfl w349 w350 w348 dX6_copy_79 q55 rfl (Nat.le_of_ble_eq_true rfl) rfl (Nat.le_of_ble_eq_true rfl) (Nat.zero_le _) (Nat.zero_le _) ?_
            refine v_if_eq 97 G dX6_copy_82 (by decide) (fun q32 => ?_) (fun q32 => ?_)
            · rw [if_pos q32] at h
              refine v_aload_n G dX6_copy_97 rfl ?_
              refine v_iconst G (2 : Int32) dX6_copy_98 (by decide) ?_
              obtain ⟨q36, h⟩ := if_s h
              obtain ⟨M34, v35, q33, h⟩ := bi2_ h
              refine v_callV0 (e_X6_found q33) G cl6 my_X6_found rfl w329 w0 w327 dX6_copy_99 q36 rfl (Nat.le_of_ble_eq_true rfl) rfl (Nat.le_of_ble_eq_true rfl) (Nat.zero_le _) (Nat.zero_le _) ?_
              cases h
              exact v_iret G F dX6_copy_102 rfl (Nat.le_refl _)
            · rw [if_neg q32] at h
              refine v_aload G dX6_copy_85 rfl ?_
              refine v_iload G dX6_copy_87 rfl ?_
              refine v_iload G dX6_copy_89 rfl ?_
              obtain ⟨q54, h⟩ := if_s h
              obtain ⟨v38, q37, h⟩ := bi_ h
              refine v_callV0 (e_X4_has q37) G cl4 my_X4_has rfl w349 w350 w348 dX6_copy_91 q54 rfl (Nat.le_of_ble_eq_true rfl) rfl (Nat.le_of_ble_eq_true rfl) (Nat.zero_le _) (Nat.zero_le _) ?_
              refine v_if_ne 103 G dX6_copy_94 (by decide) (fun q39 => ?_) (fun q39 => ?_)
              · rw [if_neg q39] at h
                refine v_aload G dX6_copy_103 rfl ?_
                obtain ⟨b40, q41, h⟩ := bi_ h
                refine v_getR (f := 0) G cl4 dX6_copy_105 w274 (by decide) (by decide) q41 ?_
                refine v_iload_n G dX6_copy_108 rfl ?_
                refine v_aload G dX6_copy_109 rfl ?_
                obtain ⟨b42, q43, h⟩ := bi_ h
                refine v_getR (f := 0) G cl4 dX6_copy_111 w274 (by decide) (by decide) q43 ?_
                refine v_iload G dX6_copy_114 rfl ?_
                refine v_iload G dX6_copy_116 rfl ?_
                obtain ⟨M44, q45, h⟩ := bi_ h
                refine v_copy G w360 w362 w361 w67 dX6_copy_118 q45 (Nat.le_of_ble_eq_true rfl) rfl (by decide) ?_
                refine v_aload_n G dX6_copy_121 rfl ?_
                refine v_iload G dX6_copy_122 rfl ?_
                obtain ⟨q49, h⟩ := if_s h
                obtain ⟨M47, v48, q46, h⟩ := bi2_ h
                refine v_callV0 (e_X6_fine q46) G cl6 my_X6_fine rfl w338 w1 w336 dX6_copy_124 q49 rfl (Nat.le_of_ble_eq_true rfl) rfl (Nat.le_of_ble_eq_true rfl) (Nat.zero_le _) (Nat.zero_le _) ?_
                cases h
                exact v_iret G F dX6_copy_127 rfl (Nat.le_refl _)
              · rw [if_pos q39] at h
                refine v_aload_n G dX6_copy_97 rfl ?_
                refine v_iconst G (2 : Int32) dX6_copy_98 (by decide) ?_
                obtain ⟨q53, h⟩ := if_s h
                obtain ⟨M51, v52, q50, h⟩ := bi2_ h
                refine v_callV0 (e_X6_found q50) G cl6 my_X6_found rfl w329 w0 w327 dX6_copy_99 q53 rfl (Nat.le_of_ble_eq_true rfl) rfl (Nat.le_of_ble_eq_true rfl) (Nat.zero_le _) (Nat.zero_le _) ?_
                cases h
                exact v_iret G F dX6_copy_102 rfl (Nat.le_refl _)
          · rw [if_neg q29] at h
            refine v_aload_n G dX6_copy_68 rfl ?_
            refine v_iconst G (5 : Int32) dX6_copy_69 (by decide) ?_
            obtain ⟨q59, h⟩ := if_s h
            obtain ⟨M57, v58, q56, h⟩ := bi2_ h
            refine v_callV0 (e_X6_found q56) G cl6 my_X6_found rfl w329 w0 w327 dX6_copy_70 q59 rfl (Nat.le_of_ble_eq_true rfl) rfl (Nat.le_of_ble_eq_true rfl) (Nat.zero_le _) (Nat.zero_le _) ?_
            cases h
            exact v_iret G F dX6_copy_73 rfl (Nat.le_refl _)
        · rw [if_pos q24] at h
          refine v_aload_n G dX6_copy_49 rfl ?_
          refine v_iconst G (1 : Int32) dX6_copy_50 (by decide) ?_
          obtain ⟨q63, h⟩ := if_s h
          obtain ⟨M61, v62, q60, h⟩ := bi2_ h
          refine v_callV0 (e_X6_found q60) G cl6 my_X6_found rfl w329 w0 w327 dX6_copy_51 q63 rfl (Nat.le_of_ble_eq_true rfl) rfl (Nat.le_of_ble_eq_true rfl) (Nat.zero_le _) (Nat.zero_le _) ?_
          cases h
          exact v_iret G F dX6_copy_54 rfl (Nat.le_refl _)
    · rw [if_neg q6] at h
      refine v_ldc G (-1000001 : Int32) dX6_copy_14 w326 ?_
      cases h
      exact v_iret G F dX6_copy_16 rfl (Nat.le_refl _)
/-! X6_drop -/
def m_X6_drop (M : mM) (x0 : Nat) (x1 : Int32) : Option (mM × Int32) :=
  (m_X6_noRow M x1).bind fun v2 =>
  if v2 = (0 : Int32) then (
    (gR M x0 6 0).bind fun b4 =>
    (ldR M b4 3 x1).bind fun b7 =>
    (gI M b7 4 1).bind fun v8 =>
    if v8 = (0 : Int32) then (
      if isO M x0 6 = true then
      bd2 (m_X6_found M x0 (1 : Int32)) fun M28 v29 =>
      some (M28, v29)
      else none
    ) else (
      (gR M x0 6 0).bind fun b11 =>
      (ldR M b11 3 x1).bind fun b14 =>
      (pI M b14 4 1 (0 : Int32)).bind fun M15 =>
      (gR M15 x0 6 0).bind fun b17 =>
      (ldR M15 b17 3 x1).bind fun b20 =>
      (gI M15 b20 4 3).bind fun v21 =>
      if isO M15 x0 6 = true then
      bd2 (m_X6_fine M15 x0 v21) fun M24 v25 =>
      some (M24, v25)
      else none
    )
  ) else (
    some (M, (-1000001 : Int32))
  )
theorem e_X6_drop {Z : zZ} {M : mM} {N : mM} {x0 : Nat} {x1 : Int32} {r : Int32} (h : m_X6_drop M x0 x1 = some (N, r)) : EM Z yX6_drop cX6_drop 2 (some .int) 2 0 0 [.ref x0, .int x1] M N (some (.int r)) := by
  refine EM_of my_X6_drop (Nat.le_of_ble_eq_true rfl) (fun X G F => ?_)
  show V X Z M 0 0 0 [some (.ref x0), some (.int x1)] []
  unfold m_X6_drop at h
  refine v_iload_n G dX6_drop_0 rfl ?_
  obtain ⟨v2, q1, h⟩ := bi_ h
  refine v_callS0 (e_X6_noRow q1) G my_X6_noRow w321 w320 dX6_drop_1 rfl (Nat.le_of_ble_eq_true rfl) rfl (Nat.le_of_ble_eq_true rfl) (Nat.zero_le _) (Nat.zero_le _) ?_
  refine v_if_eq 10 G dX6_drop_4 (by decide) (fun q3 => ?_) (fun q3 => ?_)
  · rw [if_pos q3] at h
    refine v_aload_n G dX6_drop_10 rfl ?_
    obtain ⟨b4, q5, h⟩ := bi_ h
    refine v_getR (f := 0) G cl6 dX6_drop_11 w291 (by decide) (by decide) q5 ?_
    refine v_iload_n G dX6_drop_14 rfl ?_
    obtain ⟨b7, q6, h⟩ := bi_ h
    refine v_aald3 G dX6_drop_15 q6 ?_
    obtain ⟨v8, q9, h⟩ := bi_ h
    refine v_getI (f := 1) G cl4 dX6_drop_16 w277 (by decide) (by decide) q9 ?_
    refine v_if_ne 28 G dX6_drop_19 (by decide) (fun q10 => ?_) (fun q10 => ?_)
    · rw [if_neg q10] at h
      refine v_aload_n G dX6_drop_28 rfl ?_
      obtain ⟨b11, q12, h⟩ := bi_ h
      refine v_getR (f := 0) G cl6 dX6_drop_29 w291 (by decide) (by decide) q12 ?_
      refine v_iload_n G dX6_drop_32 rfl ?_
      obtain ⟨b14, q13, h⟩ := bi_ h
      refine v_aald3 G dX6_drop_33 q13 ?_
      refine v_iconst G (0 : Int32) dX6_drop_34 (by decide) ?_
      obtain ⟨M15, q16, h⟩ := bi_ h
      refine v_putI (f := 1) G cl4 dX6_drop_35 w277 (by decide) (by decide) (by decide) (by decide) (by decide) q16 ?_
      refine v_aload_n G dX6_drop_38 rfl ?_
      refine v_aload_n G dX6_drop_39 rfl ?_
      obtain ⟨b17, q18, h⟩ := bi_ h
      refine v_getR (f := 0) G cl6 dX6_drop_40 w291 (by decide) (by decide) q18 ?_
      refine v_iload_n G dX6_drop_43 rfl ?_
      obtain ⟨b20, q19, h⟩ := bi_ h
      refine v_aald3 G dX6_drop_44 q19 ?_
      obtain ⟨v21, q22, h⟩ := bi_ h
      refine v_getI (f := 3) G cl4 dX6_drop_45 w281 (by decide) (by decide) q22 ?_
      obtain ⟨q26, h⟩ := if_s h
      obtain ⟨M24, v25, q23, h⟩ := bi2_ h
      refine v_callV0 (e_X6_fine q23) G cl6 my_X6_fine rfl w338 w1 w336 dX6_drop_48 q26 rfl (Nat.le_of_ble_eq_true rfl) rfl (Nat.le_of_ble_eq_true rfl) (Nat.zero_le _) (Nat.zero_le _) ?_
      cases h
      exact v_iret G F dX6_drop_51 rfl (Nat.le_refl _)
    · rw [if_pos q10] at h
      refine v_aload_n G dX6_drop_22 rfl ?_
      refine v_iconst G (1 : Int32) dX6_drop_23 (by decide) ?_
      obtain ⟨q30, h⟩ := if_s h
      obtain ⟨M28, v29, q27, h⟩ := bi2_ h
      refine v_callV0 (e_X6_found q27) G cl6 my_X6_found rfl w329 w0 w327 dX6_drop_24 q30 rfl (Nat.le_of_ble_eq_true rfl) rfl (Nat.le_of_ble_eq_true rfl) (Nat.zero_le _) (Nat.zero_le _) ?_
      cases h
      exact v_iret G F dX6_drop_27 rfl (Nat.le_refl _)
  · rw [if_neg q3] at h
    refine v_ldc G (-1000001 : Int32) dX6_drop_7 w326 ?_
    cases h
    exact v_iret G F dX6_drop_9 rfl (Nat.le_refl _)
/-! X6_feed -/
def m_X6_feed (M : mM) (x0 : Nat) (x1 : Int32) : Option (mM × Int32) :=
  (m_X6_outside M x1 (0 : Int32) (255 : Int32)).bind fun v2 =>
  if v2 = (0 : Int32) then (
    (gR M x0 6 4).bind fun b4 =>
    if isO M b4 3 = true then
    bd2 (m_X3_take M b4 x1) fun M7 v8 =>
    if v8 = (0 : Int32) then (
      some (M7, (-1000003 : Int32))
    ) else (
      (gR M7 x0 6 4).bind fun b10 =>
      (gI M7 b10 3 2).bind fun v12 =>
      some (M7, v12)
    )
    else none
  ) else (
    some (M, (-1000001 : Int32))
  )
theorem e_X6_feed {Z : zZ} {M : mM} {N : mM} {x0 : Nat} {x1 : Int32} {r : Int32} (h : m_X6_feed M x0 x1 = some (N, r)) : EM Z yX6_feed cX6_feed 2 (some .int) 1 0 0 [.ref x0, .int x1] M N (some (.int r)) := by
  refine EM_of my_X6_feed (Nat.le_of_ble_eq_true rfl) (fun X G F => ?_)
  show V X Z M 0 0 0 [some (.ref x0), some (.int x1)] []
  unfold m_X6_feed at h
  refine v_iload_n G dX6_feed_0 rfl ?_
  refine v_iconst G (0 : Int32) dX6_feed_1 (by decide) ?_
  refine v_sipush G (255 : Int32) dX6_feed_2 (by decide) ?_
  obtain ⟨v2, q1, h⟩ := bi_ h
  refine v_callS0 (e_X6_outside q1) G my_X6_outside w324 w323 dX6_feed_5 rfl (Nat.le_of_ble_eq_true rfl) rfl (Nat.le_of_ble_eq_true rfl) (Nat.zero_le _) (Nat.zero_le _) ?_
  refine v_if_eq 14 G dX6_feed_8 (by decide) (fun q3 => ?_) (fun q3 => ?_)
  · rw [if_pos q3] at h
    refine v_aload_n G dX6_feed_14 rfl ?_
    obtain ⟨b4, q5, h⟩ := bi_ h
    refine v_getR (f := 4) G cl6 dX6_feed_15 w295 (by decide) (by decide) q5 ?_
    refine v_iload_n G dX6_feed_18 rfl ?_
    obtain ⟨q14, h⟩ := if_s h
    obtain ⟨M7, v8, q6, h⟩ := bi2_ h
    refine v_callV0 (e_X3_take q6) G cl3 my_X3_take rfl w372 w373 w371 dX6_feed_19 q14 rfl (Nat.le_of_ble_eq_true rfl) rfl (Nat.le_of_ble_eq_true rfl) (Nat.zero_le _) (Nat.zero_le _) ?_
    refine v_if_eq 35 G dX6_feed_22 (by decide) (fun q9 => ?_) (fun q9 => ?_)
    · rw [if_pos q9] at h
      refine v_ldc G (-1000003 : Int32) dX6_feed_35 w375 ?_
      cases h
      exact v_iret G F dX6_feed_37 rfl (Nat.le_refl _)
    · rw [if_neg q9] at h
      refine v_aload_n G dX6_feed_25 rfl ?_
      obtain ⟨b10, q11, h⟩ := bi_ h
      refine v_getR (f := 4) G cl6 dX6_feed_26 w295 (by decide) (by decide) q11 ?_
      obtain ⟨v12, q13, h⟩ := bi_ h
      refine v_getI (f := 2) G cl3 dX6_feed_29 w178 (by decide) (by decide) q13 ?_
      refine v_goto 37 G dX6_feed_32 (by decide) ?_
      cases h
      exact v_iret G F dX6_feed_37 rfl (Nat.le_refl _)
  · rw [if_neg q3] at h
    refine v_ldc G (-1000001 : Int32) dX6_feed_11 w326 ?_
    cases h
    exact v_iret G F dX6_feed_13 rfl (Nat.le_refl _)
/-! X6_school -/
def m_X6_school (M : mM) (x0 : Nat) : Option (mM × Int32) :=
  (gR M x0 6 4).bind fun b1 =>
  if isO M b1 3 = true then
  bd2 (m_X3_readTape M b1) fun M4 v5 =>
  (gR M4 x0 6 4).bind fun b6 =>
  (pI M4 b6 3 2 (0 : Int32)).bind fun M8 =>
  if v5 = (0 : Int32) then (
    (gR M8 x0 6 4).bind fun b28 =>
    (gI M8 b28 3 5).bind fun v30 =>
    some (M8, ((-1000100 : Int32) - v30))
  ) else (
    (gR M8 x0 6 1).bind fun b11 =>
    (gR M8 x0 6 4).bind fun b13 =>
    (gR M8 b13 3 1).bind fun b15 =>
    if isO M8 b11 5 = true then
    (m_X5_become M8 b11 b15).bind fun M18 =>
    (gR M18 x0 6 3).bind fun b19 =>
    (pI M18 b19 0 2 (0 : Int32)).bind fun M21 =>
    (gR M21 x0 6 1).bind fun b23 =>
    (gI M21 b23 5 3).bind fun v25 =>
    some (M21, v25)
    else none
  )
  else none
theorem e_X6_school {Z : zZ} {M : mM} {N : mM} {x0 : Nat} {r : Int32} (h : m_X6_school M x0 = some (N, r)) : EM Z yX6_school cX6_school 2 (some .int) 5 0 0 [.ref x0] M N (some (.int r)) := by
  refine EM_of my_X6_school (Nat.le_of_ble_eq_true rfl) (fun X G F => ?_)
  show V X Z M 0 0 0 [some (.ref x0), none] []
  unfold m_X6_school at h
  refine v_aload_n G dX6_school_0 rfl ?_
  obtain ⟨b1, q2, h⟩ := bi_ h
  refine v_getR (f := 4) G cl6 dX6_school_1 w295 (by decide) (by decide) q2 ?_
  obtain ⟨q32, h⟩ := if_s h
  obtain ⟨M4, v5, q3, h⟩ := bi2_ h
  refine v_callV0 (e_X3_readTape q3) G cl3 my_X3_readTape rfl w381 w382 w380 dX6_school_4 q32 rfl (Nat.le_of_ble_eq_true rfl) rfl (Nat.le_of_ble_eq_true rfl) (Nat.zero_le _) (Nat.zero_le _) ?_
  refine v_istore_n [some (.ref x0), some (.int v5)] G dX6_school_7 (Nat.le_of_ble_eq_true rfl) rfl rfl ?_
  refine v_aload_n G dX6_school_8 rfl ?_
  obtain ⟨b6, q7, h⟩ := bi_ h
  refine v_getR (f := 4) G cl6 dX6_school_9 w295 (by decide) (by decide) q7 ?_
  refine v_iconst G (0 : Int32) dX6_school_12 (by decide) ?_
  obtain ⟨M8, q9, h⟩ := bi_ h
  refine v_putI (f := 2) G cl3 dX6_school_13 w178 (by decide) (by decide) (by decide) rfl rfl q9 ?_
  refine v_iload_n G dX6_school_16 rfl ?_
  refine v_if_ne 31 G dX6_school_17 (by decide) (fun q10 => ?_) (fun q10 => ?_)
  · rw [if_neg q10] at h
    refine v_aload_n G dX6_school_31 rfl ?_
    obtain ⟨b11, q12, h⟩ := bi_ h
    refine v_getR (f := 1) G cl6 dX6_school_32 w292 (by decide) (by decide) q12 ?_
    refine v_aload_n G dX6_school_35 rfl ?_
    obtain ⟨b13, q14, h⟩ := bi_ h
    refine v_getR (f := 4) G cl6 dX6_school_36 w295 (by decide) (by decide) q14 ?_
    obtain ⟨b15, q16, h⟩ := bi_ h
    refine v_getR (f := 1) G cl3 dX6_school_39 w176 (by decide) (by decide) q16 ?_
    obtain ⟨q27, h⟩ := if_s h
    obtain ⟨M18, q17, h⟩ := bi_ h
    refine v_callV0 (e_X5_become q17) G cl5 my_X5_become rfl w423 w424 w422 dX6_school_42 q27 rfl (Nat.le_of_ble_eq_true rfl) rfl (Nat.le_of_ble_eq_true rfl) (Nat.zero_le _) (Nat.zero_le _) ?_
    refine v_aload_n G dX6_school_45 rfl ?_
    obtain ⟨b19, q20, h⟩ := bi_ h
    refine v_getR (f := 3) G cl6 dX6_school_46 w294 (by decide) (by decide) q20 ?_
    refine v_iconst G (0 : Int32) dX6_school_49 (by decide) ?_
    obtain ⟨M21, q22, h⟩ := bi_ h
    refine v_putI (f := 2) G cl0 dX6_school_50 w158 (by decide) (by decide) (by decide) rfl rfl q22 ?_
    refine v_aload_n G dX6_school_53 rfl ?_
    obtain ⟨b23, q24, h⟩ := bi_ h
    refine v_getR (f := 1) G cl6 dX6_school_54 w292 (by decide) (by decide) q24 ?_
    obtain ⟨v25, q26, h⟩ := bi_ h
    refine v_getI (f := 3) G cl5 dX6_school_57 w98 (by decide) (by decide) q26 ?_
    cases h
    exact v_iret G F dX6_school_60 rfl (Nat.le_refl _)
  · rw [if_pos q10] at h
    refine v_ldc G (-1000100 : Int32) dX6_school_20 w421 ?_
    refine v_aload_n G dX6_school_22 rfl ?_
    obtain ⟨b28, q29, h⟩ := bi_ h
    refine v_getR (f := 4) G cl6 dX6_school_23 w295 (by decide) (by decide) q29 ?_
    obtain ⟨v30, q31, h⟩ := bi_ h
    refine v_getI (f := 5) G cl3 dX6_school_26 w182 (by decide) (by decide) q31 ?_
    refine v_isub G dX6_school_29 ?_
    cases h
    exact v_iret G F dX6_school_30 rfl (Nat.le_refl _)
/-! X6_fault -/
def m_X6_fault (M : mM) (x0 : Nat) : Option Int32 :=
  (gR M x0 6 4).bind fun b1 =>
  (gI M b1 3 3).bind fun v3 =>
  some v3
theorem e_X6_fault {Z : zZ} {M : mM} {x0 : Nat} {r : Int32} (h : m_X6_fault M x0 = some r) : EM Z yX6_fault cX6_fault 1 (some .int) 0 0 0 [.ref x0] M M (some (.int r)) := by
  refine EM_of my_X6_fault (Nat.le_of_ble_eq_true rfl) (fun X G F => ?_)
  show V X Z M 0 0 0 [some (.ref x0)] []
  unfold m_X6_fault at h
  refine v_aload_n G dX6_fault_0 rfl ?_
  obtain ⟨b1, q2, h⟩ := bi_ h
  refine v_getR (f := 4) G cl6 dX6_fault_1 w295 (by decide) (by decide) q2 ?_
  obtain ⟨v3, q4, h⟩ := bi_ h
  refine v_getI (f := 3) G cl3 dX6_fault_4 w180 (by decide) (by decide) q4 ?_
  cases h
  exact v_iret G F dX6_fault_7 rfl (Nat.le_refl _)
/-! X6_undo -/
def m_X6_undo (M : mM) (x0 : Nat) : Option (mM × Int32) :=
  (gR M x0 6 3).bind fun b1 =>
  (gR M x0 6 1).bind fun b3 =>
  if isO M b1 0 = true then
  bd2 (m_X0_takeBack M b1 b3) fun M6 v7 =>
  if v7 = (0 : Int32) then (
    some (M6, (-1000002 : Int32))
  ) else (
    (gR M6 x0 6 3).bind fun b9 =>
    (gI M6 b9 0 2).bind fun v11 =>
    some (M6, v11)
  )
  else none
theorem e_X6_undo {Z : zZ} {M : mM} {N : mM} {x0 : Nat} {r : Int32} (h : m_X6_undo M x0 = some (N, r)) : EM Z yX6_undo cX6_undo 1 (some .int) 3 0 0 [.ref x0] M N (some (.int r)) := by
  refine EM_of my_X6_undo (Nat.le_of_ble_eq_true rfl) (fun X G F => ?_)
  show V X Z M 0 0 0 [some (.ref x0)] []
  unfold m_X6_undo at h
  refine v_aload_n G dX6_undo_0 rfl ?_
  obtain ⟨b1, q2, h⟩ := bi_ h
  refine v_getR (f := 3) G cl6 dX6_undo_1 w294 (by decide) (by decide) q2 ?_
  refine v_aload_n G dX6_undo_4 rfl ?_
  obtain ⟨b3, q4, h⟩ := bi_ h
  refine v_getR (f := 1) G cl6 dX6_undo_5 w292 (by decide) (by decide) q4 ?_
  obtain ⟨q13, h⟩ := if_s h
  obtain ⟨M6, v7, q5, h⟩ := bi2_ h
  refine v_callV0 (e_X0_takeBack q5) G cl0 my_X0_takeBack rfl w436 w437 w435 dX6_undo_8 q13 rfl (Nat.le_of_ble_eq_true rfl) rfl (Nat.le_of_ble_eq_true rfl) (Nat.zero_le _) (Nat.zero_le _) ?_
  refine v_if_eq 24 G dX6_undo_11 (by decide) (fun q8 => ?_) (fun q8 => ?_)
  · rw [if_pos q8] at h
    refine v_ldc G (-1000002 : Int32) dX6_undo_24 w440 ?_
    cases h
    exact v_iret G F dX6_undo_26 rfl (Nat.le_refl _)
  · rw [if_neg q8] at h
    refine v_aload_n G dX6_undo_14 rfl ?_
    obtain ⟨b9, q10, h⟩ := bi_ h
    refine v_getR (f := 3) G cl6 dX6_undo_15 w294 (by decide) (by decide) q10 ?_
    obtain ⟨v11, q12, h⟩ := bi_ h
    refine v_getI (f := 2) G cl0 dX6_undo_18 w158 (by decide) (by decide) q12 ?_
    refine v_goto 26 G dX6_undo_21 (by decide) ?_
    cases h
    exact v_iret G F dX6_undo_26 rfl (Nat.le_refl _)
/-! X6_noSchool -/
def m_X6_noSchool (M : mM) (x0 : Nat) : Option Int32 :=
  (gR M x0 6 1).bind fun b1 =>
  (gI M b1 5 3).bind fun v3 =>
  if v3 = (0 : Int32) then (
    some (1 : Int32)
  ) else (
    some (0 : Int32)
  )
theorem e_X6_noSchool {Z : zZ} {M : mM} {x0 : Nat} {r : Int32} (h : m_X6_noSchool M x0 = some r) : EM Z yX6_noSchool cX6_noSchool 1 (some .boolean) 0 0 0 [.ref x0] M M (some (.int r)) := by
  refine EM_of my_X6_noSchool (Nat.le_of_ble_eq_true rfl) (fun X G F => ?_)
  show V X Z M 0 0 0 [some (.ref x0)] []
  unfold m_X6_noSchool at h
  refine v_aload_n G dX6_noSchool_0 rfl ?_
  obtain ⟨b1, q2, h⟩ := bi_ h
  refine v_getR (f := 1) G cl6 dX6_noSchool_1 w292 (by decide) (by decide) q2 ?_
  obtain ⟨v3, q4, h⟩ := bi_ h
  refine v_getI (f := 3) G cl5 dX6_noSchool_4 w98 (by decide) (by decide) q4 ?_
  refine v_if_ne 14 G dX6_noSchool_7 (by decide) (fun q5 => ?_) (fun q5 => ?_)
  · rw [if_neg q5] at h
    refine v_iconst G (0 : Int32) dX6_noSchool_14 (by decide) ?_
    cases h
    exact v_zret G F rfl dX6_noSchool_15 rfl (Nat.le_refl _)
  · rw [if_pos q5] at h
    refine v_iconst G (1 : Int32) dX6_noSchool_10 (by decide) ?_
    refine v_goto 15 G dX6_noSchool_11 (by decide) ?_
    cases h
    exact v_zret G F rfl dX6_noSchool_15 rfl (Nat.le_refl _)
/-! X6_days -/
def m_X6_days_L43 {ρ : Type} (k0 : mM → Option ρ) (x0 : Nat) (x1 : Int32) : Nat → mM → Int32 → Option ρ
  | 0, _, _ => none
  | n + 1, M, x2 =>
    if x1 ≤ x2 then (
      k0 M
    ) else (
      (gR M x0 6 3).bind fun b13 =>
      (gR M x0 6 1).bind fun b15 =>
      if isO M b13 0 = true then
      (m_X0_keep M b13 b15).bind fun M18 =>
      (gR M18 x0 6 1).bind fun b19 =>
      if isO M18 b19 5 = true then
      (m_X5_passDay M18 b19).bind fun M22 =>
      m_X6_days_L43 k0 x0 x1 n M22 (x2 + (1 : Int32))
      else none
      else none
    )
theorem e_X6_days_L43 {X : xX} {Z : zZ} {cn sn : Nat} {ρ : Type} {r : ρ} {k0 : mM → Option ρ} (G : ok_ X Z yX6_days cX6_days 3 5 0 0) (hcn : cn ≤ 0) (hsn : sn ≤ 0) (x0 : Nat) (x1 : Int32)
    (hx0 : ∀ (N : mM), k0 N = some r → V X Z N cn sn 72 [some (.ref x0), none, none] []) :
    ∀ (n : Nat) (M : mM) (x2 : Int32), m_X6_days_L43 k0 x0 x1 n M x2 = some r → V X Z M cn sn 43 [some (.ref x0), some (.int x1), some (.int x2)] [] := by
  intro n
  induction n with
  | zero => intro M x2 h; rw [m_X6_days_L43] at h; cases h
  | succ n ih =>
    intro M x2 h
    rw [m_X6_days_L43] at h
    refine v_iload_n G dX6_days_43 rfl ?_
    refine v_iload_n G dX6_days_44 rfl ?_
    refine v_ic_ge 72 G dX6_days_45 (by decide) (fun q12 => ?_) (fun q12 => ?_)
    · rw [if_pos q12] at h
      exact v_mask [true, false, false] rfl (hx0 _ h)
    · rw [if_neg q12] at h
      refine v_aload_n G dX6_days_48 rfl ?_
      obtain ⟨b13, q14, h⟩ := bi_ h
      refine v_getR (f := 3) G cl6 dX6_days_49 w294 (by decide) (by decide) q14 ?_
      refine v_aload_n G dX6_days_52 rfl ?_
      obtain ⟨b15, q16, h⟩ := bi_ h
      refine v_getR (f := 1) G cl6 dX6_days_53 w292 (by decide) (by decide) q16 ?_
      obtain ⟨q24, h⟩ := if_s h
      obtain ⟨M18, q17, h⟩ := bi_ h
      refine v_callV0 (e_X0_keep q17) G cl0 my_X0_keep rfl w450 w451 w449 dX6_days_56 q24 rfl (Nat.le_of_ble_eq_true rfl) rfl (Nat.le_of_ble_eq_true rfl) hcn hsn ?_
      refine v_aload_n G dX6_days_59 rfl ?_
      obtain ⟨b19, q20, h⟩ := bi_ h
      refine v_getR (f := 1) G cl6 dX6_days_60 w292 (by decide) (by decide) q20 ?_
      obtain ⟨q23, h⟩ := if_s h
      obtain ⟨M22, q21, h⟩ := bi_ h
      refine v_callV0 (e_X5_passDay q21) G cl5 my_X5_passDay rfl w454 w455 w453 dX6_days_63 q23 rfl (Nat.le_of_ble_eq_true rfl) rfl (Nat.le_of_ble_eq_true rfl) hcn hsn ?_
      refine v_iinc (x2 + (1 : Int32)) [some (.ref x0), some (.int x1), some (.int (x2 + (1 : Int32)))] G dX6_days_66 rfl rfl (Nat.le_of_ble_eq_true rfl) rfl rfl ?_
      refine v_goto 43 G dX6_days_69 (by decide) ?_
      exact v_mask [true, true, true] rfl (ih _ _ h)
def m_X6_days (M : mM) (x0 : Nat) (x1 : Int32) : Option (mM × Int32) :=
  if isO M x0 6 = true then
  (m_X6_noSchool M x0).bind fun v2 =>
  if v2 = (0 : Int32) then (
    (m_X6_outside M x1 (1 : Int32) (24 : Int32)).bind fun v5 =>
    if v5 = (0 : Int32) then (
      (gR M x0 6 1).bind fun b7 =>
      (gI M b7 5 4).bind fun v9 =>
      if (v9 + x1) ≤ (999 : Int32) then (
        m_X6_days_L43
          (fun M25 =>
            (gR M25 x0 6 1).bind fun b26 =>
            if isO M25 b26 5 = true then
            (m_X5_known M25 b26).bind fun v29 =>
            some (M25, v29)
            else none)
          x0 x1 FU M (0 : Int32)
      ) else (
        some (M, (-1000003 : Int32))
      )
    ) else (
      some (M, (-1000001 : Int32))
    )
  ) else (
    some (M, (-1000002 : Int32))
  )
  else none
theorem e_X6_days {Z : zZ} {M : mM} {N : mM} {x0 : Nat} {x1 : Int32} {r : Int32} (h : m_X6_days M x0 x1 = some (N, r)) : EM Z yX6_days cX6_days 3 (some .int) 5 0 0 [.ref x0, .int x1] M N (some (.int r)) := by
  refine EM_of my_X6_days (Nat.le_of_ble_eq_true rfl) (fun X G F => ?_)
  show V X Z M 0 0 0 [some (.ref x0), some (.int x1), none] []
  unfold m_X6_days at h
  refine v_aload_n G dX6_days_0 rfl ?_
  obtain ⟨q31, h⟩ := if_s h
  obtain ⟨v2, q1, h⟩ := bi_ h
  refine v_callV0 (e_X6_noSchool q1) G cl6 my_X6_noSchool rfl w447 w9 w445 dX6_days_1 q31 rfl (Nat.le_of_ble_eq_true rfl) rfl (Nat.le_of_ble_eq_true rfl) (Nat.zero_le _) (Nat.zero_le _) ?_
  refine v_if_eq 10 G dX6_days_4 (by decide) (fun q3 => ?_) (fun q3 => ?_)
  · rw [if_pos q3] at h
    refine v_iload_n G dX6_days_10 rfl ?_
    refine v_iconst G (1 : Int32) dX6_days_11 (by decide) ?_
    refine v_bipush G (24 : Int32) dX6_days_12 (by decide) ?_
    obtain ⟨v5, q4, h⟩ := bi_ h
    refine v_callS0 (e_X6_outside q4) G my_X6_outside w324 w323 dX6_days_14 rfl (Nat.le_of_ble_eq_true rfl) rfl (Nat.le_of_ble_eq_true rfl) (Nat.zero_le _) (Nat.zero_le _) ?_
    refine v_if_eq 23 G dX6_days_17 (by decide) (fun q6 => ?_) (fun q6 => ?_)
    · rw [if_pos q6] at h
      refine v_aload_n G dX6_days_23 rfl ?_
      obtain ⟨b7, q8, h⟩ := bi_ h
      refine v_getR (f := 1) G cl6 dX6_days_24 w292 (by decide) (by decide) q8 ?_
      obtain ⟨v9, q10, h⟩ := bi_ h
      refine v_getI (f := 4) G cl5 dX6_days_27 w102 (by decide) (by decide) q10 ?_
      refine v_iload_n G dX6_days_30 rfl ?_
      refine v_iadd G dX6_days_31 ?_
      refine v_sipush G (999 : Int32) dX6_days_32 (by decide) ?_
      refine v_ic_le 41 G dX6_days_35 (by decide) (fun q11 => ?_) (fun q11 => ?_)
      · rw [if_pos q11] at h
        refine v_iconst G (0 : Int32) dX6_days_41 (by decide) ?_
        refine v_istore_n [some (.ref x0), some (.int x1), some (.int (0 : Int32))] G dX6_days_42 (Nat.le_of_ble_eq_true rfl) rfl rfl ?_
        refine v_mask [true, true, true] rfl ?_
        refine e_X6_days_L43 G (Nat.zero_le _) (Nat.zero_le _) _ _ (fun M25 h => ?_) FU _ _ h
        refine v_aload_n G dX6_days_72 rfl ?_
        obtain ⟨b26, q27, h⟩ := bi_ h
        refine v_getR (f := 1) G cl6 dX6_days_73 w292 (by decide) (by decide) q27 ?_
        obtain ⟨q30, h⟩ := if_s h
        obtain ⟨v29, q28, h⟩ := bi_ h
        refine v_callV0 (e_X5_known q28) G cl5 my_X5_known rfl w503 w504 w502 dX6_days_76 q30 rfl (Nat.le_of_ble_eq_true rfl) rfl (Nat.le_of_ble_eq_true rfl) (Nat.zero_le _) (Nat.zero_le _) ?_
        cases h
        exact v_iret G F dX6_days_79 rfl (Nat.le_refl _)
      · rw [if_neg q11] at h
        refine v_ldc G (-1000003 : Int32) dX6_days_38 w375 ?_
        cases h
        exact v_iret G F dX6_days_40 rfl (Nat.le_refl _)
    · rw [if_neg q6] at h
      refine v_ldc G (-1000001 : Int32) dX6_days_20 w326 ?_
      cases h
      exact v_iret G F dX6_days_22 rfl (Nat.le_refl _)
  · rw [if_neg q3] at h
    refine v_ldc G (-1000002 : Int32) dX6_days_7 w440 ?_
    cases h
    exact v_iret G F dX6_days_9 rfl (Nat.le_refl _)
/-! X6_noPupil -/
def m_X6_noPupil (M : mM) (x0 : Nat) (x1 : Int32) : Option Int32 :=
  (gR M x0 6 1).bind fun b1 =>
  (gI M b1 5 3).bind fun v3 =>
  (m_X6_outside M x1 (0 : Int32) (v3 - (1 : Int32))).bind fun v6 =>
  if (v6 == 0 || v6 == 1) = true then some v6 else none
theorem e_X6_noPupil {Z : zZ} {M : mM} {x0 : Nat} {x1 : Int32} {r : Int32} (h : m_X6_noPupil M x0 x1 = some r) : EM Z yX6_noPupil cX6_noPupil 2 (some .boolean) 1 0 0 [.ref x0, .int x1] M M (some (.int r)) := by
  refine EM_of my_X6_noPupil (Nat.le_of_ble_eq_true rfl) (fun X G F => ?_)
  show V X Z M 0 0 0 [some (.ref x0), some (.int x1)] []
  unfold m_X6_noPupil at h
  refine v_iload_n G dX6_noPupil_0 rfl ?_
  refine v_iconst G (0 : Int32) dX6_noPupil_1 (by decide) ?_
  refine v_aload_n G dX6_noPupil_2 rfl ?_
  obtain ⟨b1, q2, h⟩ := bi_ h
  refine v_getR (f := 1) G cl6 dX6_noPupil_3 w292 (by decide) (by decide) q2 ?_
  obtain ⟨v3, q4, h⟩ := bi_ h
  refine v_getI (f := 3) G cl5 dX6_noPupil_6 w98 (by decide) (by decide) q4 ?_
  refine v_iconst G (1 : Int32) dX6_noPupil_9 (by decide) ?_
  refine v_isub G dX6_noPupil_10 ?_
  obtain ⟨v6, q5, h⟩ := bi_ h
  refine v_callS0 (e_X6_outside q5) G my_X6_outside w324 w323 dX6_noPupil_11 rfl (Nat.le_of_ble_eq_true rfl) rfl (Nat.le_of_ble_eq_true rfl) (Nat.zero_le _) (Nat.zero_le _) ?_
  obtain ⟨q7, h⟩ := if_s h
  cases h
  exact v_zret G F q7 dX6_noPupil_14 rfl (Nat.le_refl _)
