/-! X5_init -/
def m_X5_init (M : mM) (x0 : Nat) : Option mM :=
  nw_b M (1, 6) fun M1 =>
  (pR M1 x0 5 5 (mz M)).bind fun M2 =>
  nw_b M2 (1, 8) fun M4 =>
  (pR M4 x0 5 6 (mz M2)).bind fun M5 =>
  nw_b M5 (1, 6) fun M7 =>
  (pR M7 x0 5 7 (mz M5)).bind fun M8 =>
  nw_b M8 (1, 6) fun M10 =>
  (pR M10 x0 5 8 (mz M8)).bind fun M11 =>
  nw_b M11 (1, 6) fun M13 =>
  (pR M13 x0 5 9 (mz M11)).bind fun M14 =>
  nw_b M14 (1, 36) fun M16 =>
  (pR M16 x0 5 10 (mz M14)).bind fun M17 =>
  some M17
theorem e_X5_init {Z : zZ} {M : mM} {N : mM} {x0 : Nat} (h : m_X5_init M x0 = some N) : EM Z yX5_init cX5_init 1 none 1 6 68 [.ref x0] M N none := by
  refine EM_of my_X5_init (Nat.le_of_ble_eq_true rfl) (fun X G F => ?_)
  show V X Z M 0 0 0 [some (.ref x0)] []
  unfold m_X5_init at h
  refine v_aload_n G dX5_init_0 rfl ?_
  refine v_obj G w84 w75 w76 dX5_init_1 (Nat.le_of_ble_eq_true rfl) rfl (by decide) ?_
  refine v_aload_n G dX5_init_4 rfl ?_
  refine v_bipush G (6 : Int32) dX5_init_5 (by decide) ?_
  obtain ⟨M1, eM1, h⟩ := nb_ h
  refine v_newI (n' := 6) G dX5_init_7 w145 (by decide) (by decide) (by decide) (Nat.le_of_ble_eq_true rfl) (Nat.le_of_ble_eq_true rfl) ?_
  rw [← eM1]
  obtain ⟨M2, q3, h⟩ := bi_ h
  refine v_putF (f := 5) G cl5 dX5_init_9 w103 (by decide) (by decide) (by decide) rfl rfl (fun _ => rfl) (fun _ => rfl) q3 ?_
  refine v_aload_n G dX5_init_12 rfl ?_
  refine v_bipush G (8 : Int32) dX5_init_13 (by decide) ?_
  obtain ⟨M4, eM4, h⟩ := nb_ h
  refine v_newI (n' := 8) G dX5_init_15 w145 (by decide) (by decide) (by decide) (Nat.le_of_ble_eq_true rfl) (Nat.le_of_ble_eq_true rfl) ?_
  rw [← eM4]
  obtain ⟨M5, q6, h⟩ := bi_ h
  refine v_putF (f := 6) G cl5 dX5_init_17 w106 (by decide) (by decide) (by decide) rfl rfl (fun _ => rfl) (fun _ => rfl) q6 ?_
  refine v_aload_n G dX5_init_20 rfl ?_
  refine v_bipush G (6 : Int32) dX5_init_21 (by decide) ?_
  obtain ⟨M7, eM7, h⟩ := nb_ h
  refine v_newI (n' := 6) G dX5_init_23 w145 (by decide) (by decide) (by decide) (Nat.le_of_ble_eq_true rfl) (Nat.le_of_ble_eq_true rfl) ?_
  rw [← eM7]
  obtain ⟨M8, q9, h⟩ := bi_ h
  refine v_putF (f := 7) G cl5 dX5_init_25 w110 (by decide) (by decide) (by decide) rfl rfl (fun _ => rfl) (fun _ => rfl) q9 ?_
  refine v_aload_n G dX5_init_28 rfl ?_
  refine v_bipush G (6 : Int32) dX5_init_29 (by decide) ?_
  obtain ⟨M10, eM10, h⟩ := nb_ h
  refine v_newI (n' := 6) G dX5_init_31 w145 (by decide) (by decide) (by decide) (Nat.le_of_ble_eq_true rfl) (Nat.le_of_ble_eq_true rfl) ?_
  rw [← eM10]
  obtain ⟨M11, q12, h⟩ := bi_ h
  refine v_putF (f := 8) G cl5 dX5_init_33 w115 (by decide) (by decide) (by decide) rfl rfl (fun _ => rfl) (fun _ => rfl) q12 ?_
  refine v_aload_n G dX5_init_36 rfl ?_
  refine v_bipush G (6 : Int32) dX5_init_37 (by decide) ?_
  obtain ⟨M13, eM13, h⟩ := nb_ h
  refine v_newI (n' := 6) G dX5_init_39 w145 (by decide) (by decide) (by decide) (Nat.le_of_ble_eq_true rfl) (Nat.le_of_ble_eq_true rfl) ?_
  rw [← eM13]
  obtain ⟨M14, q15, h⟩ := bi_ h
  refine v_putF (f := 9) G cl5 dX5_init_41 w119 (by decide) (by decide) (by decide) rfl rfl (fun _ => rfl) (fun _ => rfl) q15 ?_
  refine v_aload_n G dX5_init_44 rfl ?_
  refine v_bipush G (36 : Int32) dX5_init_45 (by decide) ?_
  obtain ⟨M16, eM16, h⟩ := nb_ h
  refine v_newI (n' := 36) G dX5_init_47 w145 (by decide) (by decide) (by decide) (Nat.le_of_ble_eq_true rfl) (Nat.le_of_ble_eq_true rfl) ?_
  rw [← eM16]
  obtain ⟨M17, q18, h⟩ := bi_ h
  refine v_putF (f := 10) G cl5 dX5_init_49 w121 (by decide) (by decide) (by decide) rfl rfl (fun _ => rfl) (fun _ => rfl) q18 ?_
  cases h
  exact v_vret G F dX5_init_52 rfl (Nat.le_of_ble_eq_true rfl)
/-! X0_init -/
def m_X0_init (M : mM) (x0 : Nat) : Option mM :=
  nw_b M (4, 24) fun M1 =>
  (pR M1 x0 0 0 (mz M)).bind fun M2 =>
  (gR M2 x0 0 0).bind fun b4 =>
  nw_b M2 (0, 5) fun M6 =>
  (m_X5_init M6 (mz M2)).bind fun M8 =>
  (stR M8 b4 4 5 (0 : Int32) (mz M2)).bind fun M9 =>
  (gR M9 x0 0 0).bind fun b11 =>
  nw_b M9 (0, 5) fun M13 =>
  (m_X5_init M13 (mz M9)).bind fun M15 =>
  (stR M15 b11 4 5 (1 : Int32) (mz M9)).bind fun M16 =>
  (gR M16 x0 0 0).bind fun b18 =>
  nw_b M16 (0, 5) fun M20 =>
  (m_X5_init M20 (mz M16)).bind fun M22 =>
  (stR M22 b18 4 5 (2 : Int32) (mz M16)).bind fun M23 =>
  (gR M23 x0 0 0).bind fun b25 =>
  nw_b M23 (0, 5) fun M27 =>
  (m_X5_init M27 (mz M23)).bind fun M29 =>
  (stR M29 b25 4 5 (3 : Int32) (mz M23)).bind fun M30 =>
  (gR M30 x0 0 0).bind fun b32 =>
  nw_b M30 (0, 5) fun M34 =>
  (m_X5_init M34 (mz M30)).bind fun M36 =>
  (stR M36 b32 4 5 (4 : Int32) (mz M30)).bind fun M37 =>
  (gR M37 x0 0 0).bind fun b39 =>
  nw_b M37 (0, 5) fun M41 =>
  (m_X5_init M41 (mz M37)).bind fun M43 =>
  (stR M43 b39 4 5 (5 : Int32) (mz M37)).bind fun M44 =>
  (gR M44 x0 0 0).bind fun b46 =>
  nw_b M44 (0, 5) fun M48 =>
  (m_X5_init M48 (mz M44)).bind fun M50 =>
  (stR M50 b46 4 5 (6 : Int32) (mz M44)).bind fun M51 =>
  (gR M51 x0 0 0).bind fun b53 =>
  nw_b M51 (0, 5) fun M55 =>
  (m_X5_init M55 (mz M51)).bind fun M57 =>
  (stR M57 b53 4 5 (7 : Int32) (mz M51)).bind fun M58 =>
  (gR M58 x0 0 0).bind fun b60 =>
  nw_b M58 (0, 5) fun M62 =>
  (m_X5_init M62 (mz M58)).bind fun M64 =>
  (stR M64 b60 4 5 (8 : Int32) (mz M58)).bind fun M65 =>
  (gR M65 x0 0 0).bind fun b67 =>
  nw_b M65 (0, 5) fun M69 =>
  (m_X5_init M69 (mz M65)).bind fun M71 =>
  (stR M71 b67 4 5 (9 : Int32) (mz M65)).bind fun M72 =>
  (gR M72 x0 0 0).bind fun b74 =>
  nw_b M72 (0, 5) fun M76 =>
  (m_X5_init M76 (mz M72)).bind fun M78 =>
  (stR M78 b74 4 5 (10 : Int32) (mz M72)).bind fun M79 =>
  (gR M79 x0 0 0).bind fun b81 =>
  nw_b M79 (0, 5) fun M83 =>
  (m_X5_init M83 (mz M79)).bind fun M85 =>
  (stR M85 b81 4 5 (11 : Int32) (mz M79)).bind fun M86 =>
  (gR M86 x0 0 0).bind fun b88 =>
  nw_b M86 (0, 5) fun M90 =>
  (m_X5_init M90 (mz M86)).bind fun M92 =>
  (stR M92 b88 4 5 (12 : Int32) (mz M86)).bind fun M93 =>
  (gR M93 x0 0 0).bind fun b95 =>
  nw_b M93 (0, 5) fun M97 =>
  (m_X5_init M97 (mz M93)).bind fun M99 =>
  (stR M99 b95 4 5 (13 : Int32) (mz M93)).bind fun M100 =>
  (gR M100 x0 0 0).bind fun b102 =>
  nw_b M100 (0, 5) fun M104 =>
  (m_X5_init M104 (mz M100)).bind fun M106 =>
  (stR M106 b102 4 5 (14 : Int32) (mz M100)).bind fun M107 =>
  (gR M107 x0 0 0).bind fun b109 =>
  nw_b M107 (0, 5) fun M111 =>
  (m_X5_init M111 (mz M107)).bind fun M113 =>
  (stR M113 b109 4 5 (15 : Int32) (mz M107)).bind fun M114 =>
  (gR M114 x0 0 0).bind fun b116 =>
  nw_b M114 (0, 5) fun M118 =>
  (m_X5_init M118 (mz M114)).bind fun M120 =>
  (stR M120 b116 4 5 (16 : Int32) (mz M114)).bind fun M121 =>
  (gR M121 x0 0 0).bind fun b123 =>
  nw_b M121 (0, 5) fun M125 =>
  (m_X5_init M125 (mz M121)).bind fun M127 =>
  (stR M127 b123 4 5 (17 : Int32) (mz M121)).bind fun M128 =>
  (gR M128 x0 0 0).bind fun b130 =>
  nw_b M128 (0, 5) fun M132 =>
  (m_X5_init M132 (mz M128)).bind fun M134 =>
  (stR M134 b130 4 5 (18 : Int32) (mz M128)).bind fun M135 =>
  (gR M135 x0 0 0).bind fun b137 =>
  nw_b M135 (0, 5) fun M139 =>
  (m_X5_init M139 (mz M135)).bind fun M141 =>
  (stR M141 b137 4 5 (19 : Int32) (mz M135)).bind fun M142 =>
  (gR M142 x0 0 0).bind fun b144 =>
  nw_b M142 (0, 5) fun M146 =>
  (m_X5_init M146 (mz M142)).bind fun M148 =>
  (stR M148 b144 4 5 (20 : Int32) (mz M142)).bind fun M149 =>
  (gR M149 x0 0 0).bind fun b151 =>
  nw_b M149 (0, 5) fun M153 =>
  (m_X5_init M153 (mz M149)).bind fun M155 =>
  (stR M155 b151 4 5 (21 : Int32) (mz M149)).bind fun M156 =>
  (gR M156 x0 0 0).bind fun b158 =>
  nw_b M156 (0, 5) fun M160 =>
  (m_X5_init M160 (mz M156)).bind fun M162 =>
  (stR M162 b158 4 5 (22 : Int32) (mz M156)).bind fun M163 =>
  (gR M163 x0 0 0).bind fun b165 =>
  nw_b M163 (0, 5) fun M167 =>
  (m_X5_init M167 (mz M163)).bind fun M169 =>
  (stR M169 b165 4 5 (23 : Int32) (mz M163)).bind fun M170 =>
  some M170
theorem e_X0_init {Z : zZ} {M : mM} {N : mM} {x0 : Nat} (h : m_X0_init M x0 = some N) : EM Z yX0_init cX0_init 2 none 2 169 1920 [.ref x0] M N none := by
  refine EM_of my_X0_init (Nat.le_of_ble_eq_true rfl) (fun X G F => ?_)
  show V X Z M 0 0 0 [some (.ref x0), none] []
  unfold m_X0_init at h
  refine v_aload_n G dX0_init_0 rfl ?_
  refine v_obj G w152 w75 w76 dX0_init_1 (Nat.le_of_ble_eq_true rfl) rfl (by decide) ?_
  refine v_aload_n G dX0_init_4 rfl ?_
  refine v_bipush G (24 : Int32) dX0_init_5 (by decide) ?_
  obtain ⟨M1, eM1, h⟩ := nb_ h
  refine v_new4 (n' := 24) G dX0_init_7 w153 (by decide) (by decide) (by decide) (Nat.le_of_ble_eq_true rfl) (Nat.le_of_ble_eq_true rfl) ?_
  rw [← eM1]
  obtain ⟨M2, q3, h⟩ := bi_ h
  refine v_putF (f := 0) G cl0 dX0_init_10 w155 (by decide) (by decide) (by decide) rfl rfl (fun _ => rfl) (fun _ => rfl) q3 ?_
  refine v_iconst G (0 : Int32) dX0_init_13 (by decide) ?_
  refine v_istore_n [some (.ref x0), some (.int (0 : Int32))] G dX0_init_14 (Nat.le_of_ble_eq_true rfl) rfl rfl ?_
  refine v_iload_n G dX0_init_15 rfl ?_
  refine v_bipush G (24 : Int32) dX0_init_16 (by decide) ?_
  refine v_ic_ge 40 G dX0_init_18 (by decide) (fun q => absurd q (by decide)) (fun _ => ?_)
  refine v_aload_n G dX0_init_21 rfl ?_
  obtain ⟨b4, q5, h⟩ := bi_ h
  refine v_getR (f := 0) G cl0 dX0_init_22 w155 (by decide) (by decide) q5 ?_
  refine v_iload_n G dX0_init_25 rfl ?_
  obtain ⟨M6, eM6, h⟩ := nb_ h
  refine v_new G cl5 dX0_init_26 w153 (Nat.le_of_ble_eq_true rfl) (Nat.le_of_ble_eq_true rfl) ?_
  rw [← eM6]
  refine v_dup G dX0_init_29 rfl ?_
  obtain ⟨M8, q7, h⟩ := bi_ h
  refine v_callIN (e_X5_init q7) G my_X5_init rfl w82 n154 dX0_init_30 rfl (Nat.le_of_ble_eq_true rfl) rfl (Nat.le_of_ble_eq_true rfl) (Nat.le_of_ble_eq_true rfl) (Nat.le_of_ble_eq_true rfl) ?_
  obtain ⟨M9, q10, h⟩ := bi_ h
  refine v_aast4 G dX0_init_33 q10 ?_
  refine v_iinc (1 : Int32) [some (.ref x0), some (.int (1 : Int32))] G dX0_init_34 rfl (by decide) (Nat.le_of_ble_eq_true rfl) rfl rfl ?_
  refine v_goto 15 G dX0_init_37 (by decide) ?_
  refine v_iload_n G dX0_init_15 rfl ?_
  refine v_bipush G (24 : Int32) dX0_init_16 (by decide) ?_
  refine v_ic_ge 40 G dX0_init_18 (by decide) (fun q => absurd q (by decide)) (fun _ => ?_)
  refine v_aload_n G dX0_init_21 rfl ?_
  obtain ⟨b11, q12, h⟩ := bi_ h
  refine v_getR (f := 0) G cl0 dX0_init_22 w155 (by decide) (by decide) q12 ?_
  refine v_iload_n G dX0_init_25 rfl ?_
  obtain ⟨M13, eM13, h⟩ := nb_ h
  refine v_new G cl5 dX0_init_26 w153 (Nat.le_of_ble_eq_true rfl) (Nat.le_of_ble_eq_true rfl) ?_
  rw [← eM13]
  refine v_dup G dX0_init_29 rfl ?_
  obtain ⟨M15, q14, h⟩ := bi_ h
  refine v_callIN (e_X5_init q14) G my_X5_init rfl w82 n154 dX0_init_30 rfl (Nat.le_of_ble_eq_true rfl) rfl (Nat.le_of_ble_eq_true rfl) (Nat.le_of_ble_eq_true rfl) (Nat.le_of_ble_eq_true rfl) ?_
  obtain ⟨M16, q17, h⟩ := bi_ h
  refine v_aast4 G dX0_init_33 q17 ?_
  refine v_iinc (2 : Int32) [some (.ref x0), some (.int (2 : Int32))] G dX0_init_34 rfl (by decide) (Nat.le_of_ble_eq_true rfl) rfl rfl ?_
  refine v_goto 15 G dX0_init_37 (by decide) ?_
  refine v_iload_n G dX0_init_15 rfl ?_
  refine v_bipush G (24 : Int32) dX0_init_16 (by decide) ?_
  refine v_ic_ge 40 G dX0_init_18 (by decide) (fun q => absurd q (by decide)) (fun _ => ?_)
  refine v_aload_n G dX0_init_21 rfl ?_
  obtain ⟨b18, q19, h⟩ := bi_ h
  refine v_getR (f := 0) G cl0 dX0_init_22 w155 (by decide) (by decide) q19 ?_
  refine v_iload_n G dX0_init_25 rfl ?_
  obtain ⟨M20, eM20, h⟩ := nb_ h
  refine v_new G cl5 dX0_init_26 w153 (Nat.le_of_ble_eq_true rfl) (Nat.le_of_ble_eq_true rfl) ?_
  rw [← eM20]
  refine v_dup G dX0_init_29 rfl ?_
  obtain ⟨M22, q21, h⟩ := bi_ h
  refine v_callIN (e_X5_init q21) G my_X5_init rfl w82 n154 dX0_init_30 rfl (Nat.le_of_ble_eq_true rfl) rfl (Nat.le_of_ble_eq_true rfl) (Nat.le_of_ble_eq_true rfl) (Nat.le_of_ble_eq_true rfl) ?_
  obtain ⟨M23, q24, h⟩ := bi_ h
  refine v_aast4 G dX0_init_33 q24 ?_
  refine v_iinc (3 : Int32) [some (.ref x0), some (.int (3 : Int32))] G dX0_init_34 rfl (by decide) (Nat.le_of_ble_eq_true rfl) rfl rfl ?_
  refine v_goto 15 G dX0_init_37 (by decide) ?_
  refine v_iload_n G dX0_init_15 rfl ?_
  refine v_bipush G (24 : Int32) dX0_init_16 (by decide) ?_
  refine v_ic_ge 40 G dX0_init_18 (by decide) (fun q => absurd q (by decide)) (fun _ => ?_)
  refine v_aload_n G dX0_init_21 rfl ?_
  obtain ⟨b25, q26, h⟩ := bi_ h
  refine v_getR (f := 0) G cl0 dX0_init_22 w155 (by decide) (by decide) q26 ?_
  refine v_iload_n G dX0_init_25 rfl ?_
  obtain ⟨M27, eM27, h⟩ := nb_ h
  refine v_new G cl5 dX0_init_26 w153 (Nat.le_of_ble_eq_true rfl) (Nat.le_of_ble_eq_true rfl) ?_
  rw [← eM27]
  refine v_dup G dX0_init_29 rfl ?_
  obtain ⟨M29, q28, h⟩ := bi_ h
  refine v_callIN (e_X5_init q28) G my_X5_init rfl w82 n154 dX0_init_30 rfl (Nat.le_of_ble_eq_true rfl) rfl (Nat.le_of_ble_eq_true rfl) (Nat.le_of_ble_eq_true rfl) (Nat.le_of_ble_eq_true rfl) ?_
  obtain ⟨M30, q31, h⟩ := bi_ h
  refine v_aast4 G dX0_init_33 q31 ?_
  refine v_iinc (4 : Int32) [some (.ref x0), some (.int (4 : Int32))] G dX0_init_34 rfl (by decide) (Nat.le_of_ble_eq_true rfl) rfl rfl ?_
  refine v_goto 15 G dX0_init_37 (by decide) ?_
  refine v_iload_n G dX0_init_15 rfl ?_
  refine v_bipush G (24 : Int32) dX0_init_16 (by decide) ?_
  refine v_ic_ge 40 G dX0_init_18 (by decide) (fun q => absurd q (by decide)) (fun _ => ?_)
  refine v_aload_n G dX0_init_21 rfl ?_
  obtain ⟨b32, q33, h⟩ := bi_ h
  refine v_getR (f := 0) G cl0 dX0_init_22 w155 (by decide) (by decide) q33 ?_
  refine v_iload_n G dX0_init_25 rfl ?_
  obtain ⟨M34, eM34, h⟩ := nb_ h
  refine v_new G cl5 dX0_init_26 w153 (Nat.le_of_ble_eq_true rfl) (Nat.le_of_ble_eq_true rfl) ?_
  rw [← eM34]
  refine v_dup G dX0_init_29 rfl ?_
  obtain ⟨M36, q35, h⟩ := bi_ h
  refine v_callIN (e_X5_init q35) G my_X5_init rfl w82 n154 dX0_init_30 rfl (Nat.le_of_ble_eq_true rfl) rfl (Nat.le_of_ble_eq_true rfl) (Nat.le_of_ble_eq_true rfl) (Nat.le_of_ble_eq_true rfl) ?_
  obtain ⟨M37, q38, h⟩ := bi_ h
  refine v_aast4 G dX0_init_33 q38 ?_
  refine v_iinc (5 : Int32) [some (.ref x0), some (.int (5 : Int32))] G dX0_init_34 rfl (by decide) (Nat.le_of_ble_eq_true rfl) rfl rfl ?_
  refine v_goto 15 G dX0_init_37 (by decide) ?_
  refine v_iload_n G dX0_init_15 rfl ?_
  refine v_bipush G (24 : Int32) dX0_init_16 (by decide) ?_
  refine v_ic_ge 40 G dX0_init_18 (by decide) (fun q => absurd q (by decide)) (fun _ => ?_)
  refine v_aload_n G dX0_init_21 rfl ?_
  obtain ⟨b39, q40, h⟩ := bi_ h
  refine v_getR (f := 0) G cl0 dX0_init_22 w155 (by decide) (by decide) q40 ?_
  refine v_iload_n G dX0_init_25 rfl ?_
  obtain ⟨M41, eM41, h⟩ := nb_ h
  refine v_new G cl5 dX0_init_26 w153 (Nat.le_of_ble_eq_true rfl) (Nat.le_of_ble_eq_true rfl) ?_
  rw [← eM41]
  refine v_dup G dX0_init_29 rfl ?_
  obtain ⟨M43, q42, h⟩ := bi_ h
  refine v_callIN (e_X5_init q42) G my_X5_init rfl w82 n154 dX0_init_30 rfl (Nat.le_of_ble_eq_true rfl) rfl (Nat.le_of_ble_eq_true rfl) (Nat.le_of_ble_eq_true rfl) (Nat.le_of_ble_eq_true rfl) ?_
  obtain ⟨M44, q45, h⟩ := bi_ h
  refine v_aast4 G dX0_init_33 q45 ?_
  refine v_iinc (6 : Int32) [some (.ref x0), some (.int (6 : Int32))] G dX0_init_34 rfl (by decide) (Nat.le_of_ble_eq_true rfl) rfl rfl ?_
  refine v_goto 15 G dX0_init_37 (by decide) ?_
  refine v_iload_n G dX0_init_15 rfl ?_
  refine v_bipush G (24 : Int32) dX0_init_16 (by decide) ?_
  refine v_ic_ge 40 G dX0_init_18 (by decide) (fun q => absurd q (by decide)) (fun _ => ?_)
  refine v_aload_n G dX0_init_21 rfl ?_
  obtain ⟨b46, q47, h⟩ := bi_ h
  refine v_getR (f := 0) G cl0 dX0_init_22 w155 (by decide) (by decide) q47 ?_
  refine v_iload_n G dX0_init_25 rfl ?_
  obtain ⟨M48, eM48, h⟩ := nb_ h
  refine v_new G cl5 dX0_init_26 w153 (Nat.le_of_ble_eq_true rfl) (Nat.le_of_ble_eq_true rfl) ?_
  rw [← eM48]
  refine v_dup G dX0_init_29 rfl ?_
  obtain ⟨M50, q49, h⟩ := bi_ h
  refine v_callIN (e_X5_init q49) G my_X5_init rfl w82 n154 dX0_init_30 rfl (Nat.le_of_ble_eq_true rfl) rfl (Nat.le_of_ble_eq_true rfl) (Nat.le_of_ble_eq_true rfl) (Nat.le_of_ble_eq_true rfl) ?_
  obtain ⟨M51, q52, h⟩ := bi_ h
  refine v_aast4 G dX0_init_33 q52 ?_
  refine v_iinc (7 : Int32) [some (.ref x0), some (.int (7 : Int32))] G dX0_init_34 rfl (by decide) (Nat.le_of_ble_eq_true rfl) rfl rfl ?_
  refine v_goto 15 G dX0_init_37 (by decide) ?_
  refine v_iload_n G dX0_init_15 rfl ?_
  refine v_bipush G (24 : Int32) dX0_init_16 (by decide) ?_
  refine v_ic_ge 40 G dX0_init_18 (by decide) (fun q => absurd q (by decide)) (fun _ => ?_)
  refine v_aload_n G dX0_init_21 rfl ?_
  obtain ⟨b53, q54, h⟩ := bi_ h
  refine v_getR (f := 0) G cl0 dX0_init_22 w155 (by decide) (by decide) q54 ?_
  refine v_iload_n G dX0_init_25 rfl ?_
  obtain ⟨M55, eM55, h⟩ := nb_ h
  refine v_new G cl5 dX0_init_26 w153 (Nat.le_of_ble_eq_true rfl) (Nat.le_of_ble_eq_true rfl) ?_
  rw [← eM55]
  refine v_dup G dX0_init_29 rfl ?_
  obtain ⟨M57, q56, h⟩ := bi_ h
  refine v_callIN (e_X5_init q56) G my_X5_init rfl w82 n154 dX0_init_30 rfl (Nat.le_of_ble_eq_true rfl) rfl (Nat.le_of_ble_eq_true rfl) (Nat.le_of_ble_eq_true rfl) (Nat.le_of_ble_eq_true rfl) ?_
  obtain ⟨M58, q59, h⟩ := bi_ h
  refine v_aast4 G dX0_init_33 q59 ?_
  refine v_iinc (8 : Int32) [some (.ref x0), some (.int (8 : Int32))] G dX0_init_34 rfl (by decide) (Nat.le_of_ble_eq_true rfl) rfl rfl ?_
  refine v_goto 15 G dX0_init_37 (by decide) ?_
  refine v_iload_n G dX0_init_15 rfl ?_
  refine v_bipush G (24 : Int32) dX0_init_16 (by decide) ?_
  refine v_ic_ge 40 G dX0_init_18 (by decide) (fun q => absurd q (by decide)) (fun _ => ?_)
  refine v_aload_n G dX0_init_21 rfl ?_
  obtain ⟨b60, q61, h⟩ := bi_ h
  refine v_getR (f := 0) G cl0 dX0_init_22 w155 (by decide) (by decide) q61 ?_
  refine v_iload_n G dX0_init_25 rfl ?_
  obtain ⟨M62, eM62, h⟩ := nb_ h
  refine v_new G cl5 dX0_init_26 w153 (Nat.le_of_ble_eq_true rfl) (Nat.le_of_ble_eq_true rfl) ?_
  rw [← eM62]
  refine v_dup G dX0_init_29 rfl ?_
  obtain ⟨M64, q63, h⟩ := bi_ h
  refine v_callIN (e_X5_init q63) G my_X5_init rfl w82 n154 dX0_init_30 rfl (Nat.le_of_ble_eq_true rfl) rfl (Nat.le_of_ble_eq_true rfl) (Nat.le_of_ble_eq_true rfl) (Nat.le_of_ble_eq_true rfl) ?_
  obtain ⟨M65, q66, h⟩ := bi_ h
  refine v_aast4 G dX0_init_33 q66 ?_
  refine v_iinc (9 : Int32) [some (.ref x0), some (.int (9 : Int32))] G dX0_init_34 rfl (by decide) (Nat.le_of_ble_eq_true rfl) rfl rfl ?_
  refine v_goto 15 G dX0_init_37 (by decide) ?_
  refine v_iload_n G dX0_init_15 rfl ?_
  refine v_bipush G (24 : Int32) dX0_init_16 (by decide) ?_
  refine v_ic_ge 40 G dX0_init_18 (by decide) (fun q => absurd q (by decide)) (fun _ => ?_)
  refine v_aload_n G dX0_init_21 rfl ?_
  obtain ⟨b67, q68, h⟩ := bi_ h
  refine v_getR (f := 0) G cl0 dX0_init_22 w155 (by decide) (by decide) q68 ?_
  refine v_iload_n G dX0_init_25 rfl ?_
  obtain ⟨M69, eM69, h⟩ := nb_ h
  refine v_new G cl5 dX0_init_26 w153 (Nat.le_of_ble_eq_true rfl) (Nat.le_of_ble_eq_true rfl) ?_
  rw [← eM69]
  refine v_dup G dX0_init_29 rfl ?_
  obtain ⟨M71, q70, h⟩ := bi_ h
  refine v_callIN (e_X5_init q70) G my_X5_init rfl w82 n154 dX0_init_30 rfl (Nat.le_of_ble_eq_true rfl) rfl (Nat.le_of_ble_eq_true rfl) (Nat.le_of_ble_eq_true rfl) (Nat.le_of_ble_eq_true rfl) ?_
  obtain ⟨M72, q73, h⟩ := bi_ h
  refine v_aast4 G dX0_init_33 q73 ?_
  refine v_iinc (10 : Int32) [some (.ref x0), some (.int (10 : Int32))] G dX0_init_34 rfl (by decide) (Nat.le_of_ble_eq_true rfl) rfl rfl ?_
  refine v_goto 15 G dX0_init_37 (by decide) ?_
  refine v_iload_n G dX0_init_15 rfl ?_
  refine v_bipush G (24 : Int32) dX0_init_16 (by decide) ?_
  refine v_ic_ge 40 G dX0_init_18 (by decide) (fun q => absurd q (by decide)) (fun _ => ?_)
  refine v_aload_n G dX0_init_21 rfl ?_
  obtain ⟨b74, q75, h⟩ := bi_ h
  refine v_getR (f := 0) G cl0 dX0_init_22 w155 (by decide) (by decide) q75 ?_
  refine v_iload_n G dX0_init_25 rfl ?_
  obtain ⟨M76, eM76, h⟩ := nb_ h
  refine v_new G cl5 dX0_init_26 w153 (Nat.le_of_ble_eq_true rfl) (Nat.le_of_ble_eq_true rfl) ?_
  rw [← eM76]
  refine v_dup G dX0_init_29 rfl ?_
  obtain ⟨M78, q77, h⟩ := bi_ h
  refine v_callIN (e_X5_init q77) G my_X5_init rfl w82 n154 dX0_init_30 rfl (Nat.le_of_ble_eq_true rfl) rfl (Nat.le_of_ble_eq_true rfl) (Nat.le_of_ble_eq_true rfl) (Nat.le_of_ble_eq_true rfl) ?_
  obtain ⟨M79, q80, h⟩ := bi_ h
  refine v_aast4 G dX0_init_33 q80 ?_
  refine v_iinc (11 : Int32) [some (.ref x0), some (.int (11 : Int32))] G dX0_init_34 rfl (by decide) (Nat.le_of_ble_eq_true rfl) rfl rfl ?_
  refine v_goto 15 G dX0_init_37 (by decide) ?_
  refine v_iload_n G dX0_init_15 rfl ?_
  refine v_bipush G (24 : Int32) dX0_init_16 (by decide) ?_
  refine v_ic_ge 40 G dX0_init_18 (by decide) (fun q => absurd q (by decide)) (fun _ => ?_)
  refine v_aload_n G dX0_init_21 rfl ?_
  obtain ⟨b81, q82, h⟩ := bi_ h
  refine v_getR (f := 0) G cl0 dX0_init_22 w155 (by decide) (by decide) q82 ?_
  refine v_iload_n G dX0_init_25 rfl ?_
  obtain ⟨M83, eM83, h⟩ := nb_ h
  refine v_new G cl5 dX0_init_26 w153 (Nat.le_of_ble_eq_true rfl) (Nat.le_of_ble_eq_true rfl) ?_
  rw [← eM83]
  refine v_dup G dX0_init_29 rfl ?_
  obtain ⟨M85, q84, h⟩ := bi_ h
  refine v_callIN (e_X5_init q84) G my_X5_init rfl w82 n154 dX0_init_30 rfl (Nat.le_of_ble_eq_true rfl) rfl (Nat.le_of_ble_eq_true rfl) (Nat.le_of_ble_eq_true rfl) (Nat.le_of_ble_eq_true rfl) ?_
  obtain ⟨M86, q87, h⟩ := bi_ h
  refine v_aast4 G dX0_init_33 q87 ?_
  refine v_iinc (12 : Int32) [some (.ref x0), some (.int (12 : Int32))] G dX0_init_34 rfl (by decide) (Nat.le_of_ble_eq_true rfl) rfl rfl ?_
  refine v_goto 15 G dX0_init_37 (by decide) ?_
  refine v_iload_n G dX0_init_15 rfl ?_
  refine v_bipush G (24 : Int32) dX0_init_16 (by decide) ?_
  refine v_ic_ge 40 G dX0_init_18 (by decide) (fun q => absurd q (by decide)) (fun _ => ?_)
  refine v_aload_n G dX0_init_21 rfl ?_
  obtain ⟨b88, q89, h⟩ := bi_ h
  refine v_getR (f := 0) G cl0 dX0_init_22 w155 (by decide) (by decide) q89 ?_
  refine v_iload_n G dX0_init_25 rfl ?_
  obtain ⟨M90, eM90, h⟩ := nb_ h
  refine v_new G cl5 dX0_init_26 w153 (Nat.le_of_ble_eq_true rfl) (Nat.le_of_ble_eq_true rfl) ?_
  rw [← eM90]
  refine v_dup G dX0_init_29 rfl ?_
  obtain ⟨M92, q91, h⟩ := bi_ h
  refine v_callIN (e_X5_init q91) G my_X5_init rfl w82 n154 dX0_init_30 rfl (Nat.le_of_ble_eq_true rfl) rfl (Nat.le_of_ble_eq_true rfl) (Nat.le_of_ble_eq_true rfl) (Nat.le_of_ble_eq_true rfl) ?_
  obtain ⟨M93, q94, h⟩ := bi_ h
  refine v_aast4 G dX0_init_33 q94 ?_
  refine v_iinc (13 : Int32) [some (.ref x0), some (.int (13 : Int32))] G dX0_init_34 rfl (by decide) (Nat.le_of_ble_eq_true rfl) rfl rfl ?_
  refine v_goto 15 G dX0_init_37 (by decide) ?_
  refine v_iload_n G dX0_init_15 rfl ?_
  refine v_bipush G (24 : Int32) dX0_init_16 (by decide) ?_
  refine v_ic_ge 40 G dX0_init_18 (by decide) (fun q => absurd q (by decide)) (fun _ => ?_)
  refine v_aload_n G dX0_init_21 rfl ?_
  obtain ⟨b95, q96, h⟩ := bi_ h
  refine v_getR (f := 0) G cl0 dX0_init_22 w155 (by decide) (by decide) q96 ?_
  refine v_iload_n G dX0_init_25 rfl ?_
  obtain ⟨M97, eM97, h⟩ := nb_ h
  refine v_new G cl5 dX0_init_26 w153 (Nat.le_of_ble_eq_true rfl) (Nat.le_of_ble_eq_true rfl) ?_
  rw [← eM97]
  refine v_dup G dX0_init_29 rfl ?_
  obtain ⟨M99, q98, h⟩ := bi_ h
  refine v_callIN (e_X5_init q98) G my_X5_init rfl w82 n154 dX0_init_30 rfl (Nat.le_of_ble_eq_true rfl) rfl (Nat.le_of_ble_eq_true rfl) (Nat.le_of_ble_eq_true rfl) (Nat.le_of_ble_eq_true rfl) ?_
  obtain ⟨M100, q101, h⟩ := bi_ h
  refine v_aast4 G dX0_init_33 q101 ?_
  refine v_iinc (14 : Int32) [some (.ref x0), some (.int (14 : Int32))] G dX0_init_34 rfl (by decide) (Nat.le_of_ble_eq_true rfl) rfl rfl ?_
  refine v_goto 15 G dX0_init_37 (by decide) ?_
  refine v_iload_n G dX0_init_15 rfl ?_
  refine v_bipush G (24 : Int32) dX0_init_16 (by decide) ?_
  refine v_ic_ge 40 G dX0_init_18 (by decide) (fun q => absurd q (by decide)) (fun _ => ?_)
  refine v_aload_n G dX0_init_21 rfl ?_
  obtain ⟨b102, q103, h⟩ := bi_ h
  refine v_getR (f := 0) G cl0 dX0_init_22 w155 (by decide) (by decide) q103 ?_
  refine v_iload_n G dX0_init_25 rfl ?_
  obtain ⟨M104, eM104, h⟩ := nb_ h
  refine v_new G cl5 dX0_init_26 w153 (Nat.le_of_ble_eq_true rfl) (Nat.le_of_ble_eq_true rfl) ?_
  rw [← eM104]
  refine v_dup G dX0_init_29 rfl ?_
  obtain ⟨M106, q105, h⟩ := bi_ h
  refine v_callIN (e_X5_init q105) G my_X5_init rfl w82 n154 dX0_init_30 rfl (Nat.le_of_ble_eq_true rfl) rfl (Nat.le_of_ble_eq_true rfl) (Nat.le_of_ble_eq_true rfl) (Nat.le_of_ble_eq_true rfl) ?_
  obtain ⟨M107, q108, h⟩ := bi_ h
  refine v_aast4 G dX0_init_33 q108 ?_
  refine v_iinc (15 : Int32) [some (.ref x0), some (.int (15 : Int32))] G dX0_init_34 rfl (by decide) (Nat.le_of_ble_eq_true rfl) rfl rfl ?_
  refine v_goto 15 G dX0_init_37 (by decide) ?_
  refine v_iload_n G dX0_init_15 rfl ?_
  refine v_bipush G (24 : Int32) dX0_init_16 (by decide) ?_
  refine v_ic_ge 40 G dX0_init_18 (by decide) (fun q => absurd q (by decide)) (fun _ => ?_)
  refine v_aload_n G dX0_init_21 rfl ?_
  obtain ⟨b109, q110, h⟩ := bi_ h
  refine v_getR (f := 0) G cl0 dX0_init_22 w155 (by decide) (by decide) q110 ?_
  refine v_iload_n G dX0_init_25 rfl ?_
  obtain ⟨M111, eM111, h⟩ := nb_ h
  refine v_new G cl5 dX0_init_26 w153 (Nat.le_of_ble_eq_true rfl) (Nat.le_of_ble_eq_true rfl) ?_
  rw [← eM111]
  refine v_dup G dX0_init_29 rfl ?_
  obtain ⟨M113, q112, h⟩ := bi_ h
  refine v_callIN (e_X5_init q112) G my_X5_init rfl w82 n154 dX0_init_30 rfl (Nat.le_of_ble_eq_true rfl) rfl (Nat.le_of_ble_eq_true rfl) (Nat.le_of_ble_eq_true rfl) (Nat.le_of_ble_eq_true rfl) ?_
  obtain ⟨M114, q115, h⟩ := bi_ h
  refine v_aast4 G dX0_init_33 q115 ?_
  refine v_iinc (16 : Int32) [some (.ref x0), some (.int (16 : Int32))] G dX0_init_34 rfl (by decide) (Nat.le_of_ble_eq_true rfl) rfl rfl ?_
  refine v_goto 15 G dX0_init_37 (by decide) ?_
  refine v_iload_n G dX0_init_15 rfl ?_
  refine v_bipush G (24 : Int32) dX0_init_16 (by decide) ?_
  refine v_ic_ge 40 G dX0_init_18 (by decide) (fun q => absurd q (by decide)) (fun _ => ?_)
  refine v_aload_n G dX0_init_21 rfl ?_
  obtain ⟨b116, q117, h⟩ := bi_ h
  refine v_getR (f := 0) G cl0 dX0_init_22 w155 (by decide) (by decide) q117 ?_
  refine v_iload_n G dX0_init_25 rfl ?_
  obtain ⟨M118, eM118, h⟩ := nb_ h
  refine v_new G cl5 dX0_init_26 w153 (Nat.le_of_ble_eq_true rfl) (Nat.le_of_ble_eq_true rfl) ?_
  rw [← eM118]
  refine v_dup G dX0_init_29 rfl ?_
  obtain ⟨M120, q119, h⟩ := bi_ h
  refine v_callIN (e_X5_init q119) G my_X5_init rfl w82 n154 dX0_init_30 rfl (Nat.le_of_ble_eq_true rfl) rfl (Nat.le_of_ble_eq_true rfl) (Nat.le_of_ble_eq_true rfl) (Nat.le_of_ble_eq_true rfl) ?_
  obtain ⟨M121, q122, h⟩ := bi_ h
  refine v_aast4 G dX0_init_33 q122 ?_
  refine v_iinc (17 : Int32) [some (.ref x0), some (.int (17 : Int32))] G dX0_init_34 rfl (by decide) (Nat.le_of_ble_eq_true rfl) rfl rfl ?_
  refine v_goto 15 G dX0_init_37 (by decide) ?_
  refine v_iload_n G dX0_init_15 rfl ?_
  refine v_bipush G (24 : Int32) dX0_init_16 (by decide) ?_
  refine v_ic_ge 40 G dX0_init_18 (by decide) (fun q => absurd q (by decide)) (fun _ => ?_)
  refine v_aload_n G dX0_init_21 rfl ?_
  obtain ⟨b123, q124, h⟩ := bi_ h
  refine v_getR (f := 0) G cl0 dX0_init_22 w155 (by decide) (by decide) q124 ?_
  refine v_iload_n G dX0_init_25 rfl ?_
  obtain ⟨M125, eM125, h⟩ := nb_ h
  refine v_new G cl5 dX0_init_26 w153 (Nat.le_of_ble_eq_true rfl) (Nat.le_of_ble_eq_true rfl) ?_
  rw [← eM125]
  refine v_dup G dX0_init_29 rfl ?_
  obtain ⟨M127, q126, h⟩ := bi_ h
  refine v_callIN (e_X5_init q126) G my_X5_init rfl w82 n154 dX0_init_30 rfl (Nat.le_of_ble_eq_true rfl) rfl (Nat.le_of_ble_eq_true rfl) (Nat.le_of_ble_eq_true rfl) (Nat.le_of_ble_eq_true rfl) ?_
  obtain ⟨M128, q129, h⟩ := bi_ h
  refine v_aast4 G dX0_init_33 q129 ?_
  refine v_iinc (18 : Int32) [some (.ref x0), some (.int (18 : Int32))] G dX0_init_34 rfl (by decide) (Nat.le_of_ble_eq_true rfl) rfl rfl ?_
  refine v_goto 15 G dX0_init_37 (by decide) ?_
  refine v_iload_n G dX0_init_15 rfl ?_
  refine v_bipush G (24 : Int32) dX0_init_16 (by decide) ?_
  refine v_ic_ge 40 G dX0_init_18 (by decide) (fun q => absurd q (by decide)) (fun _ => ?_)
  refine v_aload_n G dX0_init_21 rfl ?_
  obtain ⟨b130, q131, h⟩ := bi_ h
  refine v_getR (f := 0) G cl0 dX0_init_22 w155 (by decide) (by decide) q131 ?_
  refine v_iload_n G dX0_init_25 rfl ?_
  obtain ⟨M132, eM132, h⟩ := nb_ h
  refine v_new G cl5 dX0_init_26 w153 (Nat.le_of_ble_eq_true rfl) (Nat.le_of_ble_eq_true rfl) ?_
  rw [← eM132]
  refine v_dup G dX0_init_29 rfl ?_
  obtain ⟨M134, q133, h⟩ := bi_ h
  refine v_callIN (e_X5_init q133) G my_X5_init rfl w82 n154 dX0_init_30 rfl (Nat.le_of_ble_eq_true rfl) rfl (Nat.le_of_ble_eq_true rfl) (Nat.le_of_ble_eq_true rfl) (Nat.le_of_ble_eq_true rfl) ?_
  obtain ⟨M135, q136, h⟩ := bi_ h
  refine v_aast4 G dX0_init_33 q136 ?_
  refine v_iinc (19 : Int32) [some (.ref x0), some (.int (19 : Int32))] G dX0_init_34 rfl (by decide) (Nat.le_of_ble_eq_true rfl) rfl rfl ?_
  refine v_goto 15 G dX0_init_37 (by decide) ?_
  refine v_iload_n G dX0_init_15 rfl ?_
  refine v_bipush G (24 : Int32) dX0_init_16 (by decide) ?_
  refine v_ic_ge 40 G dX0_init_18 (by decide) (fun q => absurd q (by decide)) (fun _ => ?_)
  refine v_aload_n G dX0_init_21 rfl ?_
  obtain ⟨b137, q138, h⟩ := bi_ h
  refine v_getR (f := 0) G cl0 dX0_init_22 w155 (by decide) (by decide) q138 ?_
  refine v_iload_n G dX0_init_25 rfl ?_
  obtain ⟨M139, eM139, h⟩ := nb_ h
  refine v_new G cl5 dX0_init_26 w153 (Nat.le_of_ble_eq_true rfl) (Nat.le_of_ble_eq_true rfl) ?_
  rw [← eM139]
  refine v_dup G dX0_init_29 rfl ?_
  obtain ⟨M141, q140, h⟩ := bi_ h
  refine v_callIN (e_X5_init q140) G my_X5_init rfl w82 n154 dX0_init_30 rfl (Nat.le_of_ble_eq_true rfl) rfl (Nat.le_of_ble_eq_true rfl) (Nat.le_of_ble_eq_true rfl) (Nat.le_of_ble_eq_true rfl) ?_
  obtain ⟨M142, q143, h⟩ := bi_ h
  refine v_aast4 G dX0_init_33 q143 ?_
  refine v_iinc (20 : Int32) [some (.ref x0), some (.int (20 : Int32))] G dX0_init_34 rfl (by decide) (Nat.le_of_ble_eq_true rfl) rfl rfl ?_
  refine v_goto 15 G dX0_init_37 (by decide) ?_
  refine v_iload_n G dX0_init_15 rfl ?_
  refine v_bipush G (24 : Int32) dX0_init_16 (by decide) ?_
  refine v_ic_ge 40 G dX0_init_18 (by decide) (fun q => absurd q (by decide)) (fun _ => ?_)
  refine v_aload_n G dX0_init_21 rfl ?_
  obtain ⟨b144, q145, h⟩ := bi_ h
  refine v_getR (f := 0) G cl0 dX0_init_22 w155 (by decide) (by decide) q145 ?_
  refine v_iload_n G dX0_init_25 rfl ?_
  obtain ⟨M146, eM146, h⟩ := nb_ h
  refine v_new G cl5 dX0_init_26 w153 (Nat.le_of_ble_eq_true rfl) (Nat.le_of_ble_eq_true rfl) ?_
  rw [← eM146]
  refine v_dup G dX0_init_29 rfl ?_
  obtain ⟨M148, q147, h⟩ := bi_ h
  refine v_callIN (e_X5_init q147) G my_X5_init rfl w82 n154 dX0_init_30 rfl (Nat.le_of_ble_eq_true rfl) rfl (Nat.le_of_ble_eq_true rfl) (Nat.le_of_ble_eq_true rfl) (Nat.le_of_ble_eq_true rfl) ?_
  obtain ⟨M149, q150, h⟩ := bi_ h
  refine v_aast4 G dX0_init_33 q150 ?_
  refine v_iinc (21 : Int32) [some (.ref x0), some (.int (21 : Int32))] G dX0_init_34 rfl (by decide) (Nat.le_of_ble_eq_true rfl) rfl rfl ?_
  refine v_goto 15 G dX0_init_37 (by decide) ?_
  refine v_iload_n G dX0_init_15 rfl ?_
  refine v_bipush G (24 : Int32) dX0_init_16 (by decide) ?_
  refine v_ic_ge 40 G dX0_init_18 (by decide) (fun q => absurd q (by decide)) (fun _ => ?_)
  refine v_aload_n G dX0_init_21 rfl ?_
  obtain ⟨b151, q152, h⟩ := bi_ h
  refine v_getR (f := 0) G cl0 dX0_init_22 w155 (by decide) (by decide) q152 ?_
  refine v_iload_n G dX0_init_25 rfl ?_
  obtain ⟨M153, eM153, h⟩ := nb_ h
  refine v_new G cl5 dX0_init_26 w153 (Nat.le_of_ble_eq_true rfl) (Nat.le_of_ble_eq_true rfl) ?_
  rw [← eM153]
  refine v_dup G dX0_init_29 rfl ?_
  obtain ⟨M155, q154, h⟩ := bi_ h
  refine v_callIN (e_X5_init q154) G my_X5_init rfl w82 n154 dX0_init_30 rfl (Nat.le_of_ble_eq_true rfl) rfl (Nat.le_of_ble_eq_true rfl) (Nat.le_of_ble_eq_true rfl) (Nat.le_of_ble_eq_true rfl) ?_
  obtain ⟨M156, q157, h⟩ := bi_ h
  refine v_aast4 G dX0_init_33 q157 ?_
  refine v_iinc (22 : Int32) [some (.ref x0), some (.int (22 : Int32))] G dX0_init_34 rfl (by decide) (Nat.le_of_ble_eq_true rfl) rfl rfl ?_
  refine v_goto 15 G dX0_init_37 (by decide) ?_
  refine v_iload_n G dX0_init_15 rfl ?_
  refine v_bipush G (24 : Int32) dX0_init_16 (by decide) ?_
  refine v_ic_ge 40 G dX0_init_18 (by decide) (fun q => absurd q (by decide)) (fun _ => ?_)
  refine v_aload_n G dX0_init_21 rfl ?_
  obtain ⟨b158, q159, h⟩ := bi_ h
  refine v_getR (f := 0) G cl0 dX0_init_22 w155 (by decide) (by decide) q159 ?_
  refine v_iload_n G dX0_init_25 rfl ?_
  obtain ⟨M160, eM160, h⟩ := nb_ h
  refine v_new G cl5 dX0_init_26 w153 (Nat.le_of_ble_eq_true rfl) (Nat.le_of_ble_eq_true rfl) ?_
  rw [← eM160]
  refine v_dup G dX0_init_29 rfl ?_
  obtain ⟨M162, q161, h⟩ := bi_ h
  refine v_callIN (e_X5_init q161) G my_X5_init rfl w82 n154 dX0_init_30 rfl (Nat.le_of_ble_eq_true rfl) rfl (Nat.le_of_ble_eq_true rfl) (Nat.le_of_ble_eq_true rfl) (Nat.le_of_ble_eq_true rfl) ?_
  obtain ⟨M163, q164, h⟩ := bi_ h
  refine v_aast4 G dX0_init_33 q164 ?_
  refine v_iinc (23 : Int32) [some (.ref x0), some (.int (23 : Int32))] G dX0_init_34 rfl (by decide) (Nat.le_of_ble_eq_true rfl) rfl rfl ?_
  refine v_goto 15 G dX0_init_37 (by decide) ?_
  refine v_iload_n G dX0_init_15 rfl ?_
  refine v_bipush G (24 : Int32) dX0_init_16 (by decide) ?_
  refine v_ic_ge 40 G dX0_init_18 (by decide) (fun q => absurd q (by decide)) (fun _ => ?_)
  refine v_aload_n G dX0_init_21 rfl ?_
  obtain ⟨b165, q166, h⟩ := bi_ h
  refine v_getR (f := 0) G cl0 dX0_init_22 w155 (by decide) (by decide) q166 ?_
  refine v_iload_n G dX0_init_25 rfl ?_
  obtain ⟨M167, eM167, h⟩ := nb_ h
  refine v_new G cl5 dX0_init_26 w153 (Nat.le_of_ble_eq_true rfl) (Nat.le_of_ble_eq_true rfl) ?_
  rw [← eM167]
  refine v_dup G dX0_init_29 rfl ?_
  obtain ⟨M169, q168, h⟩ := bi_ h
  refine v_callIN (e_X5_init q168) G my_X5_init rfl w82 n154 dX0_init_30 rfl (Nat.le_of_ble_eq_true rfl) rfl (Nat.le_of_ble_eq_true rfl) (Nat.le_of_ble_eq_true rfl) (Nat.le_of_ble_eq_true rfl) ?_
  obtain ⟨M170, q171, h⟩ := bi_ h
  refine v_aast4 G dX0_init_33 q171 ?_
  refine v_iinc (24 : Int32) [some (.ref x0), some (.int (24 : Int32))] G dX0_init_34 rfl (by decide) (Nat.le_of_ble_eq_true rfl) rfl rfl ?_
  refine v_goto 15 G dX0_init_37 (by decide) ?_
  refine v_iload_n G dX0_init_15 rfl ?_
  refine v_bipush G (24 : Int32) dX0_init_16 (by decide) ?_
  refine v_ic_ge 40 G dX0_init_18 (by decide) (fun _ => ?_) (fun q => absurd (by decide) q)
  cases h
  exact v_vret G F dX0_init_40 rfl (Nat.le_of_ble_eq_true rfl)
/-! X5_become -/
def m_X5_become (M : mM) (x0 : Nat) (x1 : Nat) : Option mM :=
  (gI M x1 5 0).bind fun v1 =>
  (pI M x0 5 0 v1).bind fun M3 =>
  (gI M3 x1 5 1).bind fun v5 =>
  (pI M3 x0 5 1 v5).bind fun M7 =>
  (gI M7 x1 5 2).bind fun v9 =>
  (pI M7 x0 5 2 v9).bind fun M11 =>
  (gI M11 x1 5 3).bind fun v13 =>
  (pI M11 x0 5 3 v13).bind fun M15 =>
  (gI M15 x1 5 4).bind fun v17 =>
  (pI M15 x0 5 4 v17).bind fun M19 =>
  (gR M19 x1 5 5).bind fun b21 =>
  (gR M19 x0 5 5).bind fun b23 =>
  (cpI M19 b21 (0 : Int32) b23 (0 : Int32) (6 : Int32)).bind fun M25 =>
  (gR M25 x1 5 6).bind fun b27 =>
  (gR M25 x0 5 6).bind fun b29 =>
  (cpI M25 b27 (0 : Int32) b29 (0 : Int32) (8 : Int32)).bind fun M31 =>
  (gR M31 x1 5 7).bind fun b33 =>
  (gR M31 x0 5 7).bind fun b35 =>
  (cpI M31 b33 (0 : Int32) b35 (0 : Int32) (6 : Int32)).bind fun M37 =>
  (gR M37 x1 5 8).bind fun b39 =>
  (gR M37 x0 5 8).bind fun b41 =>
  (cpI M37 b39 (0 : Int32) b41 (0 : Int32) (6 : Int32)).bind fun M43 =>
  (gR M43 x1 5 9).bind fun b45 =>
  (gR M43 x0 5 9).bind fun b47 =>
  (cpI M43 b45 (0 : Int32) b47 (0 : Int32) (6 : Int32)).bind fun M49 =>
  (gR M49 x1 5 10).bind fun b51 =>
  (gR M49 x0 5 10).bind fun b53 =>
  (cpI M49 b51 (0 : Int32) b53 (0 : Int32) (36 : Int32)).bind fun M55 =>
  some M55
theorem e_X5_become {Z : zZ} {M : mM} {N : mM} {x0 : Nat} {x1 : Nat} (h : m_X5_become M x0 x1 = some N) : EM Z yX5_become cX5_become 2 none 1 0 0 [.ref x0, .ref x1] M N none := by
  refine EM_of my_X5_become (Nat.le_of_ble_eq_true rfl) (fun X G F => ?_)
  show V X Z M 0 0 0 [some (.ref x0), some (.ref x1)] []
  unfold m_X5_become at h
  refine v_aload_n G dX5_become_0 rfl ?_
  refine v_aload_n G dX5_become_1 rfl ?_
  obtain ⟨v1, q2, h⟩ := bi_ h
  refine v_getI (f := 0) G cl5 dX5_become_2 w85 (by decide) (by decide) q2 ?_
  obtain ⟨M3, q4, h⟩ := bi_ h
  refine v_putI (f := 0) G cl5 dX5_become_5 w85 (by decide) (by decide) (by decide) rfl rfl q4 ?_
  refine v_aload_n G dX5_become_8 rfl ?_
  refine v_aload_n G dX5_become_9 rfl ?_
  obtain ⟨v5, q6, h⟩ := bi_ h
  refine v_getI (f := 1) G cl5 dX5_become_10 w88 (by decide) (by decide) q6 ?_
  obtain ⟨M7, q8, h⟩ := bi_ h
  refine v_putI (f := 1) G cl5 dX5_become_13 w88 (by decide) (by decide) (by decide) rfl rfl q8 ?_
  refine v_aload_n G dX5_become_16 rfl ?_
  refine v_aload_n G dX5_become_17 rfl ?_
  obtain ⟨v9, q10, h⟩ := bi_ h
  refine v_getI (f := 2) G cl5 dX5_become_18 w92 (by decide) (by decide) q10 ?_
  obtain ⟨M11, q12, h⟩ := bi_ h
  refine v_putI (f := 2) G cl5 dX5_become_21 w92 (by decide) (by decide) (by decide) rfl rfl q12 ?_
  refine v_aload_n G dX5_become_24 rfl ?_
  refine v_aload_n G dX5_become_25 rfl ?_
  obtain ⟨v13, q14, h⟩ := bi_ h
  refine v_getI (f := 3) G cl5 dX5_become_26 w96 (by decide) (by decide) q14 ?_
  obtain ⟨M15, q16, h⟩ := bi_ h
  refine v_putI (f := 3) G cl5 dX5_become_29 w96 (by decide) (by decide) (by decide) rfl rfl q16 ?_
  refine v_aload_n G dX5_become_32 rfl ?_
  refine v_aload_n G dX5_become_33 rfl ?_
  obtain ⟨v17, q18, h⟩ := bi_ h
  refine v_getI (f := 4) G cl5 dX5_become_34 w100 (by decide) (by decide) q18 ?_
  obtain ⟨M19, q20, h⟩ := bi_ h
  refine v_putI (f := 4) G cl5 dX5_become_37 w100 (by decide) (by decide) (by decide) rfl rfl q20 ?_
  refine v_aload_n G dX5_become_40 rfl ?_
  obtain ⟨b21, q22, h⟩ := bi_ h
  refine v_getR (f := 5) G cl5 dX5_become_41 w103 (by decide) (by decide) q22 ?_
  refine v_iconst G (0 : Int32) dX5_become_44 (by decide) ?_
  refine v_aload_n G dX5_become_45 rfl ?_
  obtain ⟨b23, q24, h⟩ := bi_ h
  refine v_getR (f := 5) G cl5 dX5_become_46 w103 (by decide) (by decide) q24 ?_
  refine v_iconst G (0 : Int32) dX5_become_49 (by decide) ?_
  refine v_bipush G (6 : Int32) dX5_become_50 (by decide) ?_
  obtain ⟨M25, q26, h⟩ := bi_ h
  refine v_copy G w426 w362 w361 w67 dX5_become_52 q26 (Nat.le_of_ble_eq_true rfl) rfl (by decide) ?_
  refine v_aload_n G dX5_become_55 rfl ?_
  obtain ⟨b27, q28, h⟩ := bi_ h
  refine v_getR (f := 6) G cl5 dX5_become_56 w106 (by decide) (by decide) q28 ?_
  refine v_iconst G (0 : Int32) dX5_become_59 (by decide) ?_
  refine v_aload_n G dX5_become_60 rfl ?_
  obtain ⟨b29, q30, h⟩ := bi_ h
  refine v_getR (f := 6) G cl5 dX5_become_61 w106 (by decide) (by decide) q30 ?_
  refine v_iconst G (0 : Int32) dX5_become_64 (by decide) ?_
  refine v_bipush G (8 : Int32) dX5_become_65 (by decide) ?_
  obtain ⟨M31, q32, h⟩ := bi_ h
  refine v_copy G w426 w362 w361 w67 dX5_become_67 q32 (Nat.le_of_ble_eq_true rfl) rfl (by decide) ?_
  refine v_aload_n G dX5_become_70 rfl ?_
  obtain ⟨b33, q34, h⟩ := bi_ h
  refine v_getR (f := 7) G cl5 dX5_become_71 w110 (by decide) (by decide) q34 ?_
  refine v_iconst G (0 : Int32) dX5_become_74 (by decide) ?_
  refine v_aload_n G dX5_become_75 rfl ?_
  obtain ⟨b35, q36, h⟩ := bi_ h
  refine v_getR (f := 7) G cl5 dX5_become_76 w110 (by decide) (by decide) q36 ?_
  refine v_iconst G (0 : Int32) dX5_become_79 (by decide) ?_
  refine v_bipush G (6 : Int32) dX5_become_80 (by decide) ?_
  obtain ⟨M37, q38, h⟩ := bi_ h
  refine v_copy G w426 w362 w361 w67 dX5_become_82 q38 (Nat.le_of_ble_eq_true rfl) rfl (by decide) ?_
  refine v_aload_n G dX5_become_85 rfl ?_
  obtain ⟨b39, q40, h⟩ := bi_ h
  refine v_getR (f := 8) G cl5 dX5_become_86 w115 (by decide) (by decide) q40 ?_
  refine v_iconst G (0 : Int32) dX5_become_89 (by decide) ?_
  refine v_aload_n G dX5_become_90 rfl ?_
  obtain ⟨b41, q42, h⟩ := bi_ h
  refine v_getR (f := 8) G cl5 dX5_become_91 w115 (by decide) (by decide) q42 ?_
  refine v_iconst G (0 : Int32) dX5_become_94 (by decide) ?_
  refine v_bipush G (6 : Int32) dX5_become_95 (by decide) ?_
  obtain ⟨M43, q44, h⟩ := bi_ h
  refine v_copy G w426 w362 w361 w67 dX5_become_97 q44 (Nat.le_of_ble_eq_true rfl) rfl (by decide) ?_
  refine v_aload_n G dX5_become_100 rfl ?_
  obtain ⟨b45, q46, h⟩ := bi_ h
  refine v_getR (f := 9) G cl5 dX5_become_101 w119 (by decide) (by decide) q46 ?_
  refine v_iconst G (0 : Int32) dX5_become_104 (by decide) ?_
  refine v_aload_n G dX5_become_105 rfl ?_
  obtain ⟨b47, q48, h⟩ := bi_ h
  refine v_getR (f := 9) G cl5 dX5_become_106 w119 (by decide) (by decide) q48 ?_
  refine v_iconst G (0 : Int32) dX5_become_109 (by decide) ?_
  refine v_bipush G (6 : Int32) dX5_become_110 (by decide) ?_
  obtain ⟨M49, q50, h⟩ := bi_ h
  refine v_copy G w426 w362 w361 w67 dX5_become_112 q50 (Nat.le_of_ble_eq_true rfl) rfl (by decide) ?_
  refine v_aload_n G dX5_become_115 rfl ?_
  obtain ⟨b51, q52, h⟩ := bi_ h
  refine v_getR (f := 10) G cl5 dX5_become_116 w121 (by decide) (by decide) q52 ?_
  refine v_iconst G (0 : Int32) dX5_become_119 (by decide) ?_
  refine v_aload_n G dX5_become_120 rfl ?_
  obtain ⟨b53, q54, h⟩ := bi_ h
  refine v_getR (f := 10) G cl5 dX5_become_121 w121 (by decide) (by decide) q54 ?_
  refine v_iconst G (0 : Int32) dX5_become_124 (by decide) ?_
  refine v_bipush G (36 : Int32) dX5_become_125 (by decide) ?_
  obtain ⟨M55, q56, h⟩ := bi_ h
  refine v_copy G w426 w362 w361 w67 dX5_become_127 q56 (Nat.le_of_ble_eq_true rfl) rfl (by decide) ?_
  cases h
  exact v_vret G F dX5_become_130 rfl (Nat.le_refl _)
/-! X0_keep -/
def m_X0_keep (M : mM) (x0 : Nat) (x1 : Nat) : Option mM :=
  (gI M x0 0 1).bind fun v1 =>
  (pI M x0 0 1 (rm_ (v1 + (1 : Int32)) (24 : Int32))).bind fun M3 =>
  (gR M3 x0 0 0).bind fun b5 =>
  (gI M3 x0 0 1).bind fun v7 =>
  (ldR M3 b5 4 v7).bind fun b10 =>
  if isO M3 b10 5 = true then
  (m_X5_become M3 b10 x1).bind fun M12 =>
  (gI M12 x0 0 2).bind fun v13 =>
  if (24 : Int32) ≤ v13 then (
    some M12
  ) else (
    (gI M12 x0 0 2).bind fun v16 =>
    (pI M12 x0 0 2 (v16 + (1 : Int32))).bind fun M18 =>
    some M18
  )
  else none
theorem e_X0_keep {Z : zZ} {M : mM} {N : mM} {x0 : Nat} {x1 : Nat} (h : m_X0_keep M x0 x1 = some N) : EM Z yX0_keep cX0_keep 2 none 2 0 0 [.ref x0, .ref x1] M N none := by
  refine EM_of my_X0_keep (Nat.le_of_ble_eq_true rfl) (fun X G F => ?_)
  show V X Z M 0 0 0 [some (.ref x0), some (.ref x1)] []
  unfold m_X0_keep at h
  refine v_aload_n G dX0_keep_0 rfl ?_
  refine v_aload_n G dX0_keep_1 rfl ?_
  obtain ⟨v1, q2, h⟩ := bi_ h
  refine v_getI (f := 1) G cl0 dX0_keep_2 w156 (by decide) (by decide) q2 ?_
  refine v_iconst G (1 : Int32) dX0_keep_5 (by decide) ?_
  refine v_iadd G dX0_keep_6 ?_
  refine v_bipush G (24 : Int32) dX0_keep_7 (by decide) ?_
  refine v_irem G dX0_keep_9 (by decide) ?_
  obtain ⟨M3, q4, h⟩ := bi_ h
  refine v_putI (f := 1) G cl0 dX0_keep_10 w156 (by decide) (by decide) (by decide) rfl rfl q4 ?_
  refine v_aload_n G dX0_keep_13 rfl ?_
  obtain ⟨b5, q6, h⟩ := bi_ h
  refine v_getR (f := 0) G cl0 dX0_keep_14 w155 (by decide) (by decide) q6 ?_
  refine v_aload_n G dX0_keep_17 rfl ?_
  obtain ⟨v7, q8, h⟩ := bi_ h
  refine v_getI (f := 1) G cl0 dX0_keep_18 w156 (by decide) (by decide) q8 ?_
  obtain ⟨b10, q9, h⟩ := bi_ h
  refine v_aald4 G dX0_keep_21 q9 ?_
  refine v_aload_n G dX0_keep_22 rfl ?_
  obtain ⟨q20, h⟩ := if_s h
  obtain ⟨M12, q11, h⟩ := bi_ h
  refine v_callV0 (e_X5_become q11) G cl5 my_X5_become rfl w423 w424 w439 dX0_keep_23 q20 rfl (Nat.le_of_ble_eq_true rfl) rfl (Nat.le_of_ble_eq_true rfl) (Nat.zero_le _) (Nat.zero_le _) ?_
  refine v_aload_n G dX0_keep_26 rfl ?_
  obtain ⟨v13, q14, h⟩ := bi_ h
  refine v_getI (f := 2) G cl0 dX0_keep_27 w157 (by decide) (by decide) q14 ?_
  refine v_bipush G (24 : Int32) dX0_keep_30 (by decide) ?_
  refine v_ic_ge 45 G dX0_keep_32 (by decide) (fun q15 => ?_) (fun q15 => ?_)
  · rw [if_pos q15] at h
    cases h
    exact v_vret G F dX0_keep_45 rfl (Nat.le_refl _)
  · rw [if_neg q15] at h
    refine v_aload_n G dX0_keep_35 rfl ?_
    refine v_dup G dX0_keep_36 rfl ?_
    obtain ⟨v16, q17, h⟩ := bi_ h
    refine v_getI (f := 2) G cl0 dX0_keep_37 w157 (by decide) (by decide) q17 ?_
    refine v_iconst G (1 : Int32) dX0_keep_40 (by decide) ?_
    refine v_iadd G dX0_keep_41 ?_
    obtain ⟨M18, q19, h⟩ := bi_ h
    refine v_putI (f := 2) G cl0 dX0_keep_42 w157 (by decide) (by decide) (by decide) rfl rfl q19 ?_
    cases h
    exact v_vret G F dX0_keep_45 rfl (Nat.le_refl _)
/-! X0_takeBack -/
def m_X0_takeBack (M : mM) (x0 : Nat) (x1 : Nat) : Option (mM × Int32) :=
  (gI M x0 0 2).bind fun v1 =>
  if v1 = (0 : Int32) then (
    some (M, (0 : Int32))
  ) else (
    (gR M x0 0 0).bind fun b4 =>
    (gI M x0 0 1).bind fun v6 =>
    (ldR M b4 4 v6).bind fun b9 =>
    if isO M x1 5 = true then
    (m_X5_become M x1 b9).bind fun M11 =>
    (gI M11 x0 0 1).bind fun v12 =>
    (pI M11 x0 0 1 (rm_ ((v12 + (24 : Int32)) - (1 : Int32)) (24 : Int32))).bind fun M14 =>
    (gI M14 x0 0 2).bind fun v16 =>
    (pI M14 x0 0 2 (v16 - (1 : Int32))).bind fun M18 =>
    some (M18, (1 : Int32))
    else none
  )
theorem e_X0_takeBack {Z : zZ} {M : mM} {N : mM} {x0 : Nat} {x1 : Nat} {r : Int32} (h : m_X0_takeBack M x0 x1 = some (N, r)) : EM Z yX0_takeBack cX0_takeBack 2 (some .boolean) 2 0 0 [.ref x0, .ref x1] M N (some (.int r)) := by
  refine EM_of my_X0_takeBack (Nat.le_of_ble_eq_true rfl) (fun X G F => ?_)
  show V X Z M 0 0 0 [some (.ref x0), some (.ref x1)] []
  unfold m_X0_takeBack at h
  refine v_aload_n G dX0_takeBack_0 rfl ?_
  obtain ⟨v1, q2, h⟩ := bi_ h
  refine v_getI (f := 2) G cl0 dX0_takeBack_1 w157 (by decide) (by decide) q2 ?_
  refine v_if_ne 9 G dX0_takeBack_4 (by decide) (fun q3 => ?_) (fun q3 => ?_)
  · rw [if_neg q3] at h
    refine v_aload_n G dX0_takeBack_9 rfl ?_
    refine v_aload_n G dX0_takeBack_10 rfl ?_
    obtain ⟨b4, q5, h⟩ := bi_ h
    refine v_getR (f := 0) G cl0 dX0_takeBack_11 w155 (by decide) (by decide) q5 ?_
    refine v_aload_n G dX0_takeBack_14 rfl ?_
    obtain ⟨v6, q7, h⟩ := bi_ h
    refine v_getI (f := 1) G cl0 dX0_takeBack_15 w156 (by decide) (by decide) q7 ?_
    obtain ⟨b9, q8, h⟩ := bi_ h
    refine v_aald4 G dX0_takeBack_18 q8 ?_
    obtain ⟨q20, h⟩ := if_s h
    obtain ⟨M11, q10, h⟩ := bi_ h
    refine v_callV0 (e_X5_become q10) G cl5 my_X5_become rfl w423 w424 w439 dX0_takeBack_19 q20 rfl (Nat.le_of_ble_eq_true rfl) rfl (Nat.le_of_ble_eq_true rfl) (Nat.zero_le _) (Nat.zero_le _) ?_
    refine v_aload_n G dX0_takeBack_22 rfl ?_
    refine v_aload_n G dX0_takeBack_23 rfl ?_
    obtain ⟨v12, q13, h⟩ := bi_ h
    refine v_getI (f := 1) G cl0 dX0_takeBack_24 w156 (by decide) (by decide) q13 ?_
    refine v_bipush G (24 : Int32) dX0_takeBack_27 (by decide) ?_
    refine v_iadd G dX0_takeBack_29 ?_
    refine v_iconst G (1 : Int32) dX0_takeBack_30 (by decide) ?_
    refine v_isub G dX0_takeBack_31 ?_
    refine v_bipush G (24 : Int32) dX0_takeBack_32 (by decide) ?_
    refine v_irem G dX0_takeBack_34 (by decide) ?_
    obtain ⟨M14, q15, h⟩ := bi_ h
    refine v_putI (f := 1) G cl0 dX0_takeBack_35 w156 (by decide) (by decide) (by decide) rfl rfl q15 ?_
    refine v_aload_n G dX0_takeBack_38 rfl ?_
    refine v_dup G dX0_takeBack_39 rfl ?_
    obtain ⟨v16, q17, h⟩ := bi_ h
    refine v_getI (f := 2) G cl0 dX0_takeBack_40 w157 (by decide) (by decide) q17 ?_
    refine v_iconst G (1 : Int32) dX0_takeBack_43 (by decide) ?_
    refine v_isub G dX0_takeBack_44 ?_
    obtain ⟨M18, q19, h⟩ := bi_ h
    refine v_putI (f := 2) G cl0 dX0_takeBack_45 w157 (by decide) (by decide) (by decide) rfl rfl q19 ?_
    refine v_iconst G (1 : Int32) dX0_takeBack_48 (by decide) ?_
    cases h
    exact v_zret G F rfl dX0_takeBack_49 rfl (Nat.le_refl _)
  · rw [if_pos q3] at h
    refine v_iconst G (0 : Int32) dX0_takeBack_7 (by decide) ?_
    cases h
    exact v_zret G F rfl dX0_takeBack_8 rfl (Nat.le_refl _)
/-! X1_init -/
def m_X1_init (M : mM) (x0 : Nat) : Option mM :=
  nw_b M (1, 16) fun M1 =>
  (pR M1 x0 1 0 (mz M)).bind fun M2 =>
  some M2
theorem e_X1_init {Z : zZ} {M : mM} {N : mM} {x0 : Nat} (h : m_X1_init M x0 = some N) : EM Z yX1_init cX1_init 1 none 1 1 16 [.ref x0] M N none := by
  refine EM_of my_X1_init (Nat.le_of_ble_eq_true rfl) (fun X G F => ?_)
  show V X Z M 0 0 0 [some (.ref x0)] []
  unfold m_X1_init at h
  refine v_aload_n G dX1_init_0 rfl ?_
  refine v_obj G w243 w75 w76 dX1_init_1 (Nat.le_of_ble_eq_true rfl) rfl (by decide) ?_
  refine v_aload_n G dX1_init_4 rfl ?_
  refine v_bipush G (16 : Int32) dX1_init_5 (by decide) ?_
  obtain ⟨M1, eM1, h⟩ := nb_ h
  refine v_newI (n' := 16) G dX1_init_7 w145 (by decide) (by decide) (by decide) (Nat.le_of_ble_eq_true rfl) (Nat.le_of_ble_eq_true rfl) ?_
  rw [← eM1]
  obtain ⟨M2, q3, h⟩ := bi_ h
  refine v_putF (f := 0) G cl1 dX1_init_9 w244 (by decide) (by decide) (by decide) rfl rfl (fun _ => rfl) (fun _ => rfl) q3 ?_
  cases h
  exact v_vret G F dX1_init_12 rfl (Nat.le_of_ble_eq_true rfl)
/-! X1_leave -/
def m_X1_leave (M : mM) (x0 : Nat) (x1 : Int32) : Option mM :=
  (gI M x0 1 1).bind fun v1 =>
  if (16 : Int32) ≤ v1 then (
    some M
  ) else (
    (gR M x0 1 0).bind fun b4 =>
    (gI M x0 1 1).bind fun v6 =>
    (stI M b4 v6 x1).bind fun M8 =>
    (gI M8 x0 1 1).bind fun v10 =>
    (pI M8 x0 1 1 (v10 + (1 : Int32))).bind fun M12 =>
    some M12
  )
theorem e_X1_leave {Z : zZ} {M : mM} {N : mM} {x0 : Nat} {x1 : Int32} (h : m_X1_leave M x0 x1 = some N) : EM Z yX1_leave cX1_leave 2 none 0 0 0 [.ref x0, .int x1] M N none := by
  refine EM_of my_X1_leave (Nat.le_of_ble_eq_true rfl) (fun X G F => ?_)
  show V X Z M 0 0 0 [some (.ref x0), some (.int x1)] []
  unfold m_X1_leave at h
  refine v_aload_n G dX1_leave_0 rfl ?_
  obtain ⟨v1, q2, h⟩ := bi_ h
  refine v_getI (f := 1) G cl1 dX1_leave_1 w246 (by decide) (by decide) q2 ?_
  refine v_bipush G (16 : Int32) dX1_leave_4 (by decide) ?_
  refine v_ic_ge 29 G dX1_leave_6 (by decide) (fun q3 => ?_) (fun q3 => ?_)
  · rw [if_pos q3] at h
    cases h
    exact v_vret G F dX1_leave_29 rfl (Nat.le_refl _)
  · rw [if_neg q3] at h
    refine v_aload_n G dX1_leave_9 rfl ?_
    obtain ⟨b4, q5, h⟩ := bi_ h
    refine v_getR (f := 0) G cl1 dX1_leave_10 w244 (by decide) (by decide) q5 ?_
    refine v_aload_n G dX1_leave_13 rfl ?_
    obtain ⟨v6, q7, h⟩ := bi_ h
    refine v_getI (f := 1) G cl1 dX1_leave_14 w246 (by decide) (by decide) q7 ?_
    refine v_iload_n G dX1_leave_17 rfl ?_
    obtain ⟨M8, q9, h⟩ := bi_ h
    refine v_iast G dX1_leave_18 q9 ?_
    refine v_aload_n G dX1_leave_19 rfl ?_
    refine v_dup G dX1_leave_20 rfl ?_
    obtain ⟨v10, q11, h⟩ := bi_ h
    refine v_getI (f := 1) G cl1 dX1_leave_21 w246 (by decide) (by decide) q11 ?_
    refine v_iconst G (1 : Int32) dX1_leave_24 (by decide) ?_
    refine v_iadd G dX1_leave_25 ?_
    obtain ⟨M12, q13, h⟩ := bi_ h
    refine v_putI (f := 1) G cl1 dX1_leave_26 w246 (by decide) (by decide) (by decide) rfl rfl q13 ?_
    cases h
    exact v_vret G F dX1_leave_29 rfl (Nat.le_refl _)
/-! X1_begin -/
def m_X1_begin : Nat → mM → Nat → Int32 → Int32 → Option (mM × Int32)
  | 0, _, _, _, _ => none
  | n + 1, M, x0, x1, x2 =>
    if x2 ≤ (16 : Int32) then (
      if isO M x0 1 = true then
      (m_X1_leave M x0 x1).bind fun M3 =>
      if x1 = (10 : Int32) then (
        (gI M3 x0 1 4).bind fun v5 =>
        some (M3, v5)
      ) else
      if x1 = (11 : Int32) then (
        bd2 (m_X1_begin n M3 x0 (10 : Int32) (x2 + (1 : Int32))) fun M9 v10 =>
        (gI M9 x0 1 6).bind fun v11 =>
        bd2 (m_X1_begin n M9 x0 v11 (x2 + (1 : Int32))) fun M14 v15 =>
        some (M14, (v10 + v15))
      ) else
      if x1 = (12 : Int32) then (
        bd2 (m_X1_begin n M3 x0 (11 : Int32) (x2 + (1 : Int32))) fun M18 v19 =>
        some (M18, (-v19))
      ) else
      if x1 = (13 : Int32) then (
        bd2 (m_X1_begin n M3 x0 (10 : Int32) (x2 + (1 : Int32))) fun M22 v23 =>
        some (M22, (v23 - (100 : Int32)))
      ) else
      if x1 = (14 : Int32) then (
        bd2 (m_X1_begin n M3 x0 (13 : Int32) (x2 + (1 : Int32))) fun M26 v27 =>
        some (M26, ((2 : Int32) * v27))
      ) else
      if x1 = (15 : Int32) then (
        some (M3, (0 : Int32))
      ) else
      if x1 = (16 : Int32) then (
        some (M3, (0 : Int32))
      ) else
      if x1 = (17 : Int32) then (
        some (M3, (0 : Int32))
      ) else
      if x1 = (18 : Int32) then (
        some (M3, (0 : Int32))
      ) else
      if x1 = (19 : Int32) then (
        some (M3, (0 : Int32))
      ) else
      if x1 = (20 : Int32) then (
        (gI M3 x0 1 2).bind fun v34 =>
        some (M3, v34)
      ) else
      if x1 = (21 : Int32) then (
        bd2 (m_X1_begin n M3 x0 (20 : Int32) (x2 + (1 : Int32))) fun M38 v39 =>
        (gI M38 x0 1 3).bind fun v40 =>
        some (M38, (v39 + v40))
      ) else
      if x1 = (22 : Int32) then (
        bd2 (m_X1_begin n M3 x0 (21 : Int32) (x2 + (1 : Int32))) fun M44 v45 =>
        some (M44, (v45 - (1000 : Int32)))
      ) else
      if x1 = (23 : Int32) then (
        bd2 (m_X1_begin n M3 x0 (20 : Int32) (x2 + (1 : Int32))) fun M48 v49 =>
        (gI M48 x0 1 5).bind fun v50 =>
        bd2 (m_X1_begin n M48 x0 v50 (x2 + (1 : Int32))) fun M53 v54 =>
        some (M53, (v49 - v54))
      ) else
      if x1 = (24 : Int32) then (
        bd2 (m_X1_begin n M3 x0 (21 : Int32) (x2 + (1 : Int32))) fun M57 v58 =>
        some (M57, ((2 : Int32) * v58))
      ) else
      (
        some (M3, (0 : Int32))
      )
      else none
    ) else (
      some (M, (0 : Int32))
    )
theorem e_X1_begina {Z : zZ} : ∀ {n : Nat} {M N : mM} {x0 : Nat} {x1 : Int32} {x2 : Int32} {r : Int32} (h : m_X1_begin n M x0 x1 x2 = some (N, r)), EM Z yX1_begin cX1_begin 4 (some .int) (1 + n) 0 0 [.ref x0, .int x1, .int x2] M N (some (.int r)) := by
  intro n
  induction n with
  | zero => intro M N x0 x1 x2 r h; rw [m_X1_begin] at h; cases h
  | succ n ih =>
    intro M N x0 x1 x2 r h
    refine EM_of my_X1_begin (Nat.le_of_ble_eq_true rfl) (fun X G F => ?_)
    show V X Z M 0 0 0 [some (.ref x0), some (.int x1), some (.int x2), none] []
    have hdl : 1 ≤ 1 + (n + 1) := by omega
    have hd1 : (1 + n) + 1 ≤ 1 + (n + 1) := by omega
    have hrc : ∀ (M N : mM) (x0 : Nat) (x1 : Int32) (x2 : Int32) (r : Int32), m_X1_begin n M x0 x1 x2 = some (N, r) → EM Z yX1_begin cX1_begin 4 (some .int) (1 + n) 0 0 [.ref x0, .int x1, .int x2] M N (some (.int r)) := fun M N x0 x1 x2 r h => ih h
    rw [m_X1_begin] at h
    refine v_iload_n G dX1_begin_0 rfl ?_
    refine v_bipush G (16 : Int32) dX1_begin_1 (by decide) ?_
    refine v_ic_le 8 G dX1_begin_3 (by decide) (fun q1 => ?_) (fun q1 => ?_)
    · rw [if_pos q1] at h
      refine v_aload_n G dX1_begin_8 rfl ?_
      refine v_iload_n G dX1_begin_9 rfl ?_
      obtain ⟨q59, h⟩ := if_s h
      obtain ⟨M3, q2, h⟩ := bi_ h
      refine v_callV0 (e_X1_leave q2) G cl1 my_X1_leave rfl w815 w23 w813 dX1_begin_10 q59 rfl (Nat.le_of_ble_eq_true rfl) rfl (by omega) (Nat.zero_le _) (Nat.zero_le _) ?_
      refine v_iload_n G dX1_begin_13 rfl ?_
      refine v_iconst G (1 : Int32) dX1_begin_14 (by decide) ?_
      refine v_iadd G dX1_begin_15 ?_
      refine v_istore_n [some (.ref x0), some (.int x1), some (.int x2), some (.int (x2 + (1 : Int32)))] G dX1_begin_16 (Nat.le_of_ble_eq_true rfl) rfl rfl ?_
      refine v_iload_n G dX1_begin_17 rfl ?_
      rcases Decidable.em (x1 = (10 : Int32)) with q4 | q4
      · rw [if_pos q4] at h
        refine v_tabI (off := 74) 92 G dX1_begin_18 (by rw [q4]; decide) (by rw [q4]; decide) (by rw [q4]; rfl) (by decide) ?_
        refine v_aload_n G dX1_begin_92 rfl ?_
        obtain ⟨v5, q6, h⟩ := bi_ h
        refine v_getI (f := 4) G cl1 dX1_begin_93 w250 (by decide) (by decide) q6 ?_
        cases h
        exact v_iret G F dX1_begin_96 rfl (Nat.le_refl _)
      · rw [if_neg q4] at h
        rcases Decidable.em (x1 = (11 : Int32)) with q7 | q7
        · rw [if_pos q7] at h
          refine v_tabI (off := 79) 97 G dX1_begin_18 (by rw [q7]; decide) (by rw [q7]; decide) (by rw [q7]; rfl) (by decide) ?_
          refine v_aload_n G dX1_begin_97 rfl ?_
          refine v_bipush G (10 : Int32) dX1_begin_98 (by decide) ?_
          refine v_iload_n G dX1_begin_100 rfl ?_
          obtain ⟨M9, v10, q8, h⟩ := bi2_ h
          refine v_callS0 (ih q8) G my_X1_begin w811 w810 dX1_begin_101 rfl (Nat.le_of_ble_eq_true rfl) rfl hd1 (Nat.zero_le _) (Nat.zero_le _) ?_
          refine v_aload_n G dX1_begin_104 rfl ?_
          refine v_aload_n G dX1_begin_105 rfl ?_
          obtain ⟨v11, q12, h⟩ := bi_ h
          refine v_getI (f := 6) G cl1 dX1_begin_106 w252 (by decide) (by decide) q12 ?_
          refine v_iload_n G dX1_begin_109 rfl ?_
          obtain ⟨M14, v15, q13, h⟩ := bi2_ h
          refine v_callS0 (ih q13) G my_X1_begin w811 w810 dX1_begin_110 rfl (Nat.le_of_ble_eq_true rfl) rfl hd1 (Nat.zero_le _) (Nat.zero_le _) ?_
          refine v_iadd G dX1_begin_113 ?_
          cases h
          exact v_iret G F dX1_begin_114 rfl (Nat.le_refl _)
        · rw [if_neg q7] at h
          rcases Decidable.em (x1 = (12 : Int32)) with q16 | q16
          · rw [if_pos q16] at h
            refine v_tabI (off := 97) 115 G dX1_begin_18 (by rw [q16]; decide) (by rw [q16]; decide) (by rw [q16]; rfl) (by decide) ?_
            refine v_aload_n G dX1_begin_115 rfl ?_
            refine v_bipush G (11 : Int32) dX1_begin_116 (by decide) ?_
            refine v_iload_n G dX1_begin_118 rfl ?_
            obtain ⟨M18, v19, q17, h⟩ := bi2_ h
            refine v_callS0 (ih q17) G my_X1_begin w811 w810 dX1_begin_119 rfl (Nat.le_of_ble_eq_true rfl) rfl hd1 (Nat.zero_le _) (Nat.zero_le _) ?_
            refine v_ineg G dX1_begin_122 ?_
            cases h
            exact v_iret G F dX1_begin_123 rfl (Nat.le_refl _)
          · rw [if_neg q16] at h
            rcases Decidable.em (x1 = (13 : Int32)) with q20 | q20
            · rw [if_pos q20] at h
              refine v_tabI (off := 106) 124 G dX1_begin_18 (by rw [q20]; decide) (by rw [q20]; decide) (by rw [q20]; rfl) (by decide) ?_
              refine v_aload_n G dX1_begin_124 rfl ?_
              refine v_bipush G (10 : Int32) dX1_begin_125 (by decide) ?_
              refine v_iload_n G dX1_begin_127 rfl ?_
              obtain ⟨M22, v23, q21, h⟩ := bi2_ h
              refine v_callS0 (ih q21) G my_X1_begin w811 w810 dX1_begin_128 rfl (Nat.le_of_ble_eq_true rfl) rfl hd1 (Nat.zero_le _) (Nat.zero_le _) ?_
              refine v_bipush G (100 : Int32) dX1_begin_131 (by decide) ?_
              refine v_isub G dX1_begin_133 ?_
              cases h
              exact v_iret G F dX1_begin_134 rfl (Nat.le_refl _)
            · rw [if_neg q20] at h
              rcases Decidable.em (x1 = (14 : Int32)) with q24 | q24
              · rw [if_pos q24] at h
                refine v_tabI (off := 117) 135 G dX1_begin_18 (by rw [q24]; decide) (by rw [q24]; decide) (by rw [q24]; rfl) (by decide) ?_
                refine v_iconst G (2 : Int32) dX1_begin_135 (by decide) ?_
                refine v_aload_n G dX1_begin_136 rfl ?_
                refine v_bipush G (13 : Int32) dX1_begin_137 (by decide) ?_
                refine v_iload_n G dX1_begin_139 rfl ?_
                obtain ⟨M26, v27, q25, h⟩ := bi2_ h
                refine v_callS0 (ih q25) G my_X1_begin w811 w810 dX1_begin_140 rfl (Nat.le_of_ble_eq_true rfl) rfl hd1 (Nat.zero_le _) (Nat.zero_le _) ?_
                refine v_imul G dX1_begin_143 ?_
                cases h
                exact v_iret G F dX1_begin_144 rfl (Nat.le_refl _)
              · rw [if_neg q24] at h
                rcases Decidable.em (x1 = (15 : Int32)) with q28 | q28
                · rw [if_pos q28] at h
                  refine v_tabI (off := 185) 203 G dX1_begin_18 (by rw [q28]; decide) (by rw [q28]; decide) (by rw [q28]; rfl) (by decide) ?_
                  refine v_iconst G (0 : Int32) dX1_begin_203 (by decide) ?_
                  cases h
                  exact v_iret G F dX1_begin_204 rfl (Nat.le_refl _)
                · rw [if_neg q28] at h
                  rcases Decidable.em (x1 = (16 : Int32)) with q29 | q29
                  · rw [if_pos q29] at h
                    refine v_tabI (off := 185) 203 G dX1_begin_18 (by rw [q29]; decide) (by rw [q29]; decide) (by rw [q29]; rfl) (by decide) ?_
                    refine v_iconst G (0 : Int32) dX1_begin_203 (by decide) ?_
                    cases h
                    exact v_iret G F dX1_begin_204 rfl (Nat.le_refl _)
                  · rw [if_neg q29] at h
                    rcases Decidable.em (x1 = (17 : Int32)) with q30 | q30
                    · rw [if_pos q30] at h
                      refine v_tabI (off := 185) 203 G dX1_begin_18 (by rw [q30]; decide) (by rw [q30]; decide) (by rw [q30]; rfl) (by decide) ?_
                      refine v_iconst G (0 : Int32) dX1_begin_203 (by decide) ?_
                      cases h
                      exact v_iret G F dX1_begin_204 rfl (Nat.le_refl _)
                    · rw [if_neg q30] at h
                      rcases Decidable.em (x1 = (18 : Int32)) with q31 | q31
                      · rw [if_pos q31] at h
                        refine v_tabI (off := 185) 203 G dX1_begin_18 (by rw [q31]; decide) (by rw [q31]; decide) (by rw [q31]; rfl) (by decide) ?_
                        refine v_iconst G (0 : Int32) dX1_begin_203 (by decide) ?_
                        cases h
                        exact v_iret G F dX1_begin_204 rfl (Nat.le_refl _)
                      · rw [if_neg q31] at h
                        rcases Decidable.em (x1 = (19 : Int32)) with q32 | q32
                        · rw [if_pos q32] at h
                          refine v_tabI (off := 185) 203 G dX1_begin_18 (by rw [q32]; decide) (by rw [q32]; decide) (by rw [q32]; rfl) (by decide) ?_
                          refine v_iconst G (0 : Int32) dX1_begin_203 (by decide) ?_
                          cases h
                          exact v_iret G F dX1_begin_204 rfl (Nat.le_refl _)
                        · rw [if_neg q32] at h
                          rcases Decidable.em (x1 = (20 : Int32)) with q33 | q33
                          · rw [if_pos q33] at h
                            refine v_tabI (off := 127) 145 G dX1_begin_18 (by rw [q33]; decide) (by rw [q33]; decide) (by rw [q33]; rfl) (by decide) ?_
                            refine v_aload_n G dX1_begin_145 rfl ?_
                            obtain ⟨v34, q35, h⟩ := bi_ h
                            refine v_getI (f := 2) G cl1 dX1_begin_146 w248 (by decide) (by decide) q35 ?_
                            cases h
                            exact v_iret G F dX1_begin_149 rfl (Nat.le_refl _)
                          · rw [if_neg q33] at h
                            rcases Decidable.em (x1 = (21 : Int32)) with q36 | q36
                            · rw [if_pos q36] at h
                              refine v_tabI (off := 132) 150 G dX1_begin_18 (by rw [q36]; decide) (by rw [q36]; decide) (by rw [q36]; rfl) (by decide) ?_
                              refine v_aload_n G dX1_begin_150 rfl ?_
                              refine v_bipush G (20 : Int32) dX1_begin_151 (by decide) ?_
                              refine v_iload_n G dX1_begin_153 rfl ?_
                              obtain ⟨M38, v39, q37, h⟩ := bi2_ h
                              refine v_callS0 (ih q37) G my_X1_begin w811 w810 dX1_begin_154 rfl (Nat.le_of_ble_eq_true rfl) rfl hd1 (Nat.zero_le _) (Nat.zero_le _) ?_
                              refine v_aload_n G dX1_begin_157 rfl ?_
                              obtain ⟨v40, q41, h⟩ := bi_ h
                              refine v_getI (f := 3) G cl1 dX1_begin_158 w249 (by decide) (by decide) q41 ?_
                              refine v_iadd G dX1_begin_161 ?_
                              cases h
                              exact v_iret G F dX1_begin_162 rfl (Nat.le_refl _)
                            · rw [if_neg q36] at h
                              rcases Decidable.em (x1 = (22 : Int32)) with q42 | q42
                              · rw [if_pos q42] at h
                                refine v_tabI (off := 145) 163 G dX1_begin_18 (by rw [q42]; decide) (by rw [q42]; decide) (by rw [q42]; rfl) (by decide) ?_
                                refine v_aload_n G dX1_begin_163 rfl ?_
                                refine v_bipush G (21 : Int32) dX1_begin_164 (by decide) ?_
                                refine v_iload_n G dX1_begin_166 rfl ?_
                                obtain ⟨M44, v45, q43, h⟩ := bi2_ h
                                refine v_callS0 (ih q43) G my_X1_begin w811 w810 dX1_begin_167 rfl (Nat.le_of_ble_eq_true rfl) rfl hd1 (Nat.zero_le _) (Nat.zero_le _) ?_
                                refine v_sipush G (1000 : Int32) dX1_begin_170 (by decide) ?_
                                refine v_isub G dX1_begin_173 ?_
                                cases h
                                exact v_iret G F dX1_begin_174 rfl (Nat.le_refl _)
                              · rw [if_neg q42] at h
                                rcases Decidable.em (x1 = (23 : Int32)) with q46 | q46
                                · rw [if_pos q46] at h
                                  refine v_tabI (off := 157) 175 G dX1_begin_18 (by rw [q46]; decide) (by rw [q46]; decide) (by rw [q46]; rfl) (by decide) ?_
                                  refine v_aload_n G dX1_begin_175 rfl ?_
                                  refine v_bipush G (20 : Int32) dX1_begin_176 (by decide) ?_
                                  refine v_iload_n G dX1_begin_178 rfl ?_
                                  obtain ⟨M48, v49, q47, h⟩ := bi2_ h
                                  refine v_callS0 (ih q47) G my_X1_begin w811 w810 dX1_begin_179 rfl (Nat.le_of_ble_eq_true rfl) rfl hd1 (Nat.zero_le _) (Nat.zero_le _) ?_
                                  refine v_aload_n G dX1_begin_182 rfl ?_
                                  refine v_aload_n G dX1_begin_183 rfl ?_
                                  obtain ⟨v50, q51, h⟩ := bi_ h
                                  refine v_getI (f := 5) G cl1 dX1_begin_184 w251 (by decide) (by decide) q51 ?_
                                  refine v_iload_n G dX1_begin_187 rfl ?_
                                  obtain ⟨M53, v54, q52, h⟩ := bi2_ h
                                  refine v_callS0 (ih q52) G my_X1_begin w811 w810 dX1_begin_188 rfl (Nat.le_of_ble_eq_true rfl) rfl hd1 (Nat.zero_le _) (Nat.zero_le _) ?_
                                  refine v_isub G dX1_begin_191 ?_
                                  cases h
                                  exact v_iret G F dX1_begin_192 rfl (Nat.le_refl _)
                                · rw [if_neg q46] at h
                                  rcases Decidable.em (x1 = (24 : Int32)) with q55 | q55
                                  · rw [if_pos q55] at h
                                    refine v_tabI (off := 175) 193 G dX1_begin_18 (by rw [q55]; decide) (by rw [q55]; decide) (by rw [q55]; rfl) (by decide) ?_
                                    refine v_iconst G (2 : Int32) dX1_begin_193 (by decide) ?_
                                    refine v_aload_n G dX1_begin_194 rfl ?_
                                    refine v_bipush G (21 : Int32) dX1_begin_195 (by decide) ?_
                                    refine v_iload_n G dX1_begin_197 rfl ?_
                                    obtain ⟨M57, v58, q56, h⟩ := bi2_ h
                                    refine v_callS0 (ih q56) G my_X1_begin w811 w810 dX1_begin_198 rfl (Nat.le_of_ble_eq_true rfl) rfl hd1 (Nat.zero_le _) (Nat.zero_le _) ?_
                                    refine v_imul G dX1_begin_201 ?_
                                    cases h
                                    exact v_iret G F dX1_begin_202 rfl (Nat.le_refl _)
                                  · rw [if_neg q55] at h
                                    have eq4 : (x1).toInt ≠ 10 := i32_ne q4
                                    have eq7 : (x1).toInt ≠ 11 := i32_ne q7
                                    have eq16 : (x1).toInt ≠ 12 := i32_ne q16
                                    have eq20 : (x1).toInt ≠ 13 := i32_ne q20
                                    have eq24 : (x1).toInt ≠ 14 := i32_ne q24
                                    have eq28 : (x1).toInt ≠ 15 := i32_ne q28
                                    have eq29 : (x1).toInt ≠ 16 := i32_ne q29
                                    have eq30 : (x1).toInt ≠ 17 := i32_ne q30
                                    have eq31 : (x1).toInt ≠ 18 := i32_ne q31
                                    have eq32 : (x1).toInt ≠ 19 := i32_ne q32
                                    have eq33 : (x1).toInt ≠ 20 := i32_ne q33
                                    have eq36 : (x1).toInt ≠ 21 := i32_ne q36
                                    have eq42 : (x1).toInt ≠ 22 := i32_ne q42
                                    have eq46 : (x1).toInt ≠ 23 := i32_ne q46
                                    have eq55 : (x1).toInt ≠ 24 := i32_ne q55
                                    refine v_tabO 203 G dX1_begin_18 (by omega) (by decide) ?_
                                    refine v_iconst G (0 : Int32) dX1_begin_203 (by decide) ?_
                                    cases h
                                    exact v_iret G F dX1_begin_204 rfl (Nat.le_refl _)
    · rw [if_neg q1] at h
      refine v_iconst G (0 : Int32) dX1_begin_6 (by decide) ?_
      cases h
      exact v_iret G F dX1_begin_7 rfl (Nat.le_refl _)
theorem e_X1_begin {Z : zZ} {M N : mM} {x0 : Nat} {x1 : Int32} {x2 : Int32} {r : Int32} (h : m_X1_begin 20 M x0 x1 x2 = some (N, r)) : EM Z yX1_begin cX1_begin 4 (some .int) (1 + 20) 0 0 [.ref x0, .int x1, .int x2] M N (some (.int r)) := e_X1_begina h
/-! J6_bitCount_0f7a4 -/
def m_J6_bitCount_0f7a4 (M : mM) (x0 : Int32) : Option Int32 :=
  some ((((((((x0 - ((us_ x0 (1 : Int32)) &&& (1431655765 : Int32))) &&& (858993459 : Int32)) + ((us_ (x0 - ((us_ x0 (1 : Int32)) &&& (1431655765 : Int32))) (2 : Int32)) &&& (858993459 : Int32))) + (us_ (((x0 - ((us_ x0 (1 : Int32)) &&& (1431655765 : Int32))) &&& (858993459 : Int32)) + ((us_ (x0 - ((us_ x0 (1 : Int32)) &&& (1431655765 : Int32))) (2 : Int32)) &&& (858993459 : Int32))) (4 : Int32))) &&& (252645135 : Int32)) + (us_ (((((x0 - ((us_ x0 (1 : Int32)) &&& (1431655765 : Int32))) &&& (858993459 : Int32)) + ((us_ (x0 - ((us_ x0 (1 : Int32)) &&& (1431655765 : Int32))) (2 : Int32)) &&& (858993459 : Int32))) + (us_ (((x0 - ((us_ x0 (1 : Int32)) &&& (1431655765 : Int32))) &&& (858993459 : Int32)) + ((us_ (x0 - ((us_ x0 (1 : Int32)) &&& (1431655765 : Int32))) (2 : Int32)) &&& (858993459 : Int32))) (4 : Int32))) &&& (252645135 : Int32)) (8 : Int32))) + (us_ ((((((x0 - ((us_ x0 (1 : Int32)) &&& (1431655765 : Int32))) &&& (858993459 : Int32)) + ((us_ (x0 - ((us_ x0 (1 : Int32)) &&& (1431655765 : Int32))) (2 : Int32)) &&& (858993459 : Int32))) + (us_ (((x0 - ((us_ x0 (1 : Int32)) &&& (1431655765 : Int32))) &&& (858993459 : Int32)) + ((us_ (x0 - ((us_ x0 (1 : Int32)) &&& (1431655765 : Int32))) (2 : Int32)) &&& (858993459 : Int32))) (4 : Int32))) &&& (252645135 : Int32)) + (us_ (((((x0 - ((us_ x0 (1 : Int32)) &&& (1431655765 : Int32))) &&& (858993459 : Int32)) + ((us_ (x0 - ((us_ x0 (1 : Int32)) &&& (1431655765 : Int32))) (2 : Int32)) &&& (858993459 : Int32))) + (us_ (((x0 - ((us_ x0 (1 : Int32)) &&& (1431655765 : Int32))) &&& (858993459 : Int32)) + ((us_ (x0 - ((us_ x0 (1 : Int32)) &&& (1431655765 : Int32))) (2 : Int32)) &&& (858993459 : Int32))) (4 : Int32))) &&& (252645135 : Int32)) (8 : Int32))) (16 : Int32))) &&& (63 : Int32))
theorem e_J6_bitCount_0f7a4 {Z : zZ} {M : mM} {x0 : Int32} {r : Int32} (h : m_J6_bitCount_0f7a4 M x0 = some r) : EM Z yJ6_bitCount_0f7a4 cJ6_bitCount_0f7a4 1 (some .int) 0 0 0 [.int x0] M M (some (.int r)) := by
  refine EM_of my_J6_bitCount_0f7a4 (Nat.le_of_ble_eq_true rfl) (fun X G F => ?_)
  show V X Z M 0 0 0 [some (.int x0)] []
  unfold m_J6_bitCount_0f7a4 at h
  refine v_iload_n G dJ6_bitCount_0f7a4_0 rfl ?_
  refine v_iload_n G dJ6_bitCount_0f7a4_1 rfl ?_
  refine v_iconst G (1 : Int32) dJ6_bitCount_0f7a4_2 (by decide) ?_
  refine v_iushr G dJ6_bitCount_0f7a4_3 ?_
  refine v_ldcw G (1431655765 : Int32) dJ6_bitCount_0f7a4_4 w495 ?_
  refine v_iand G dJ6_bitCount_0f7a4_7 ?_
  refine v_isub G dJ6_bitCount_0f7a4_8 ?_
  refine v_istore_n [some (.int (x0 - ((us_ x0 (1 : Int32)) &&& (1431655765 : Int32))))] G dJ6_bitCount_0f7a4_9 (Nat.le_of_ble_eq_true rfl) rfl rfl ?_
  refine v_iload_n G dJ6_bitCount_0f7a4_10 rfl ?_
  refine v_ldcw G (858993459 : Int32) dJ6_bitCount_0f7a4_11 w496 ?_
  refine v_iand G dJ6_bitCount_0f7a4_14 ?_
  refine v_iload_n G dJ6_bitCount_0f7a4_15 rfl ?_
  refine v_iconst G (2 : Int32) dJ6_bitCount_0f7a4_16 (by decide) ?_
  refine v_iushr G dJ6_bitCount_0f7a4_17 ?_
  refine v_ldcw G (858993459 : Int32) dJ6_bitCount_0f7a4_18 w496 ?_
  refine v_iand G dJ6_bitCount_0f7a4_21 ?_
  refine v_iadd G dJ6_bitCount_0f7a4_22 ?_
  refine v_istore_n [some (.int (((x0 - ((us_ x0 (1 : Int32)) &&& (1431655765 : Int32))) &&& (858993459 : Int32)) + ((us_ (x0 - ((us_ x0 (1 : Int32)) &&& (1431655765 : Int32))) (2 : Int32)) &&& (858993459 : Int32))))] G dJ6_bitCount_0f7a4_23 (Nat.le_of_ble_eq_true rfl) rfl rfl ?_
  refine v_iload_n G dJ6_bitCount_0f7a4_24 rfl ?_
  refine v_iload_n G dJ6_bitCount_0f7a4_25 rfl ?_
  refine v_iconst G (4 : Int32) dJ6_bitCount_0f7a4_26 (by decide) ?_
  refine v_iushr G dJ6_bitCount_0f7a4_27 ?_
  refine v_iadd G dJ6_bitCount_0f7a4_28 ?_
  refine v_ldcw G (252645135 : Int32) dJ6_bitCount_0f7a4_29 w497 ?_
  refine v_iand G dJ6_bitCount_0f7a4_32 ?_
  refine v_istore_n [some (.int (((((x0 - ((us_ x0 (1 : Int32)) &&& (1431655765 : Int32))) &&& (858993459 : Int32)) + ((us_ (x0 - ((us_ x0 (1 : Int32)) &&& (1431655765 : Int32))) (2 : Int32)) &&& (858993459 : Int32))) + (us_ (((x0 - ((us_ x0 (1 : Int32)) &&& (1431655765 : Int32))) &&& (858993459 : Int32)) + ((us_ (x0 - ((us_ x0 (1 : Int32)) &&& (1431655765 : Int32))) (2 : Int32)) &&& (858993459 : Int32))) (4 : Int32))) &&& (252645135 : Int32)))] G dJ6_bitCount_0f7a4_33 (Nat.le_of_ble_eq_true rfl) rfl rfl ?_
  refine v_iload_n G dJ6_bitCount_0f7a4_34 rfl ?_
  refine v_iload_n G dJ6_bitCount_0f7a4_35 rfl ?_
  refine v_bipush G (8 : Int32) dJ6_bitCount_0f7a4_36 (by decide) ?_
  refine v_iushr G dJ6_bitCount_0f7a4_38 ?_
  refine v_iadd G dJ6_bitCount_0f7a4_39 ?_
  refine v_istore_n [some (.int ((((((x0 - ((us_ x0 (1 : Int32)) &&& (1431655765 : Int32))) &&& (858993459 : Int32)) + ((us_ (x0 - ((us_ x0 (1 : Int32)) &&& (1431655765 : Int32))) (2 : Int32)) &&& (858993459 : Int32))) + (us_ (((x0 - ((us_ x0 (1 : Int32)) &&& (1431655765 : Int32))) &&& (858993459 : Int32)) + ((us_ (x0 - ((us_ x0 (1 : Int32)) &&& (1431655765 : Int32))) (2 : Int32)) &&& (858993459 : Int32))) (4 : Int32))) &&& (252645135 : Int32)) + (us_ (((((x0 - ((us_ x0 (1 : Int32)) &&& (1431655765 : Int32))) &&& (858993459 : Int32)) + ((us_ (x0 - ((us_ x0 (1 : Int32)) &&& (1431655765 : Int32))) (2 : Int32)) &&& (858993459 : Int32))) + (us_ (((x0 - ((us_ x0 (1 : Int32)) &&& (1431655765 : Int32))) &&& (858993459 : Int32)) + ((us_ (x0 - ((us_ x0 (1 : Int32)) &&& (1431655765 : Int32))) (2 : Int32)) &&& (858993459 : Int32))) (4 : Int32))) &&& (252645135 : Int32)) (8 : Int32))))] G dJ6_bitCount_0f7a4_40 (Nat.le_of_ble_eq_true rfl) rfl rfl ?_
  refine v_iload_n G dJ6_bitCount_0f7a4_41 rfl ?_
  refine v_iload_n G dJ6_bitCount_0f7a4_42 rfl ?_
  refine v_bipush G (16 : Int32) dJ6_bitCount_0f7a4_43 (by decide) ?_
  refine v_iushr G dJ6_bitCount_0f7a4_45 ?_
  refine v_iadd G dJ6_bitCount_0f7a4_46 ?_
  refine v_istore_n [some (.int (((((((x0 - ((us_ x0 (1 : Int32)) &&& (1431655765 : Int32))) &&& (858993459 : Int32)) + ((us_ (x0 - ((us_ x0 (1 : Int32)) &&& (1431655765 : Int32))) (2 : Int32)) &&& (858993459 : Int32))) + (us_ (((x0 - ((us_ x0 (1 : Int32)) &&& (1431655765 : Int32))) &&& (858993459 : Int32)) + ((us_ (x0 - ((us_ x0 (1 : Int32)) &&& (1431655765 : Int32))) (2 : Int32)) &&& (858993459 : Int32))) (4 : Int32))) &&& (252645135 : Int32)) + (us_ (((((x0 - ((us_ x0 (1 : Int32)) &&& (1431655765 : Int32))) &&& (858993459 : Int32)) + ((us_ (x0 - ((us_ x0 (1 : Int32)) &&& (1431655765 : Int32))) (2 : Int32)) &&& (858993459 : Int32))) + (us_ (((x0 - ((us_ x0 (1 : Int32)) &&& (1431655765 : Int32))) &&& (858993459 : Int32)) + ((us_ (x0 - ((us_ x0 (1 : Int32)) &&& (1431655765 : Int32))) (2 : Int32)) &&& (858993459 : Int32))) (4 : Int32))) &&& (252645135 : Int32)) (8 : Int32))) + (us_ ((((((x0 - ((us_ x0 (1 : Int32)) &&& (1431655765 : Int32))) &&& (858993459 : Int32)) + ((us_ (x0 - ((us_ x0 (1 : Int32)) &&& (1431655765 : Int32))) (2 : Int32)) &&& (858993459 : Int32))) + (us_ (((x0 - ((us_ x0 (1 : Int32)) &&& (1431655765 : Int32))) &&& (858993459 : Int32)) + ((us_ (x0 - ((us_ x0 (1 : Int32)) &&& (1431655765 : Int32))) (2 : Int32)) &&& (858993459 : Int32))) (4 : Int32))) &&& (252645135 : Int32)) + (us_ (((((x0 - ((us_ x0 (1 : Int32)) &&& (1431655765 : Int32))) &&& (858993459 : Int32)) + ((us_ (x0 - ((us_ x0 (1 : Int32)) &&& (1431655765 : Int32))) (2 : Int32)) &&& (858993459 : Int32))) + (us_ (((x0 - ((us_ x0 (1 : Int32)) &&& (1431655765 : Int32))) &&& (858993459 : Int32)) + ((us_ (x0 - ((us_ x0 (1 : Int32)) &&& (1431655765 : Int32))) (2 : Int32)) &&& (858993459 : Int32))) (4 : Int32))) &&& (252645135 : Int32)) (8 : Int32))) (16 : Int32))))] G dJ6_bitCount_0f7a4_47 (Nat.le_of_ble_eq_true rfl) rfl rfl ?_
  refine v_iload_n G dJ6_bitCount_0f7a4_48 rfl ?_
  refine v_bipush G (63 : Int32) dJ6_bitCount_0f7a4_49 (by decide) ?_
  refine v_iand G dJ6_bitCount_0f7a4_51 ?_
  cases h
  exact v_iret G F dJ6_bitCount_0f7a4_52 rfl (Nat.le_refl _)
/-! X5_form -/
def m_X5_form (M : mM) (x0 : Nat) (x1 : Int32) : Option Int32 :=
  (gR M x0 5 8).bind fun b1 =>
  (ldI M b1 x1).bind fun v4 =>
  (m_J6_bitCount_0f7a4 M v4).bind fun v6 =>
  some v6
theorem e_X5_form {Z : zZ} {M : mM} {x0 : Nat} {x1 : Int32} {r : Int32} (h : m_X5_form M x0 x1 = some r) : EM Z yX5_form cX5_form 2 (some .int) 1 0 0 [.ref x0, .int x1] M M (some (.int r)) := by
  refine EM_of my_X5_form (Nat.le_of_ble_eq_true rfl) (fun X G F => ?_)
  show V X Z M 0 0 0 [some (.ref x0), some (.int x1)] []
  unfold m_X5_form at h
  refine v_aload_n G dX5_form_0 rfl ?_
  obtain ⟨b1, q2, h⟩ := bi_ h
  refine v_getR (f := 8) G cl5 dX5_form_1 w115 (by decide) (by decide) q2 ?_
  refine v_iload_n G dX5_form_4 rfl ?_
  obtain ⟨v4, q3, h⟩ := bi_ h
  refine v_iald G dX5_form_5 q3 ?_
  obtain ⟨v6, q5, h⟩ := bi_ h
  refine v_callS0 (e_J6_bitCount_0f7a4 q5) G my_J6_bitCount_0f7a4 w493 w492 dX5_form_6 rfl (Nat.le_of_ble_eq_true rfl) rfl (Nat.le_of_ble_eq_true rfl) (Nat.zero_le _) (Nat.zero_le _) ?_
  cases h
  exact v_iret G F dX5_form_9 rfl (Nat.le_refl _)
/-! X5_seatOf -/
def m_X5_seatOf_L2 {ρ : Type} (k0 : Option ρ) (k1 : Int32 → Option ρ) (M : mM) (x0 : Nat) (x1 : Int32) : Nat → Int32 → Option ρ
  | 0, _ => none
  | n + 1, x2 =>
    (gI M x0 5 3).bind fun v1 =>
    if v1 ≤ x2 then (
      k0
    ) else (
      (gR M x0 5 9).bind fun b4 =>
      (ldI M b4 x2).bind fun v7 =>
      if v7 = x1 then (
        k1 x2
      ) else (
        m_X5_seatOf_L2 k0 k1 M x0 x1 n (x2 + (1 : Int32))
      )
    )
theorem e_X5_seatOf_L2 {X : xX} {Z : zZ} {cn sn : Nat} {ρ : Type} {r : ρ} {k0 : Option ρ} {k1 : Int32 → Option ρ} (G : ok_ X Z yX5_seatOf cX5_seatOf 3 0 0 0) (hcn : cn ≤ 0) (hsn : sn ≤ 0) (M : mM) (x0 : Nat) (x1 : Int32)
    (hx0 : k0 = some r → V X Z M cn sn 28 [none, none, none] [])
    (hx1 : ∀ (z2 : Int32), k1 z2 = some r → V X Z M cn sn 20 [none, none, some (.int z2)] []) :
    ∀ (n : Nat) (x2 : Int32), m_X5_seatOf_L2 k0 k1 M x0 x1 n x2 = some r → V X Z M cn sn 2 [some (.ref x0), some (.int x1), some (.int x2)] [] := by
  intro n
  induction n with
  | zero => intro x2 h; rw [m_X5_seatOf_L2] at h; cases h
  | succ n ih =>
    intro x2 h
    rw [m_X5_seatOf_L2] at h
    refine v_iload_n G dX5_seatOf_2 rfl ?_
    refine v_aload_n G dX5_seatOf_3 rfl ?_
    obtain ⟨v1, q2, h⟩ := bi_ h
    refine v_getI (f := 3) G cl5 dX5_seatOf_4 w96 (by decide) (by decide) q2 ?_
    refine v_ic_ge 28 G dX5_seatOf_7 (by decide) (fun q3 => ?_) (fun q3 => ?_)
    · rw [if_pos q3] at h
      exact v_mask [false, false, false] rfl (hx0 h)
    · rw [if_neg q3] at h
      refine v_aload_n G dX5_seatOf_10 rfl ?_
      obtain ⟨b4, q5, h⟩ := bi_ h
      refine v_getR (f := 9) G cl5 dX5_seatOf_11 w119 (by decide) (by decide) q5 ?_
      refine v_iload_n G dX5_seatOf_14 rfl ?_
      obtain ⟨v7, q6, h⟩ := bi_ h
      refine v_iald G dX5_seatOf_15 q6 ?_
      refine v_iload_n G dX5_seatOf_16 rfl ?_
      refine v_ic_ne 22 G dX5_seatOf_17 (by decide) (fun q8 => ?_) (fun q8 => ?_)
      · rw [if_neg q8] at h
        refine v_iinc (x2 + (1 : Int32)) [some (.ref x0), some (.int x1), some (.int (x2 + (1 : Int32)))] G dX5_seatOf_22 rfl rfl (Nat.le_of_ble_eq_true rfl) rfl rfl ?_
        refine v_goto 2 G dX5_seatOf_25 (by decide) ?_
        exact v_mask [true, true, true] rfl (ih _ h)
      · rw [if_pos q8] at h
        exact v_mask [false, false, true] rfl (hx1 _ h)
def m_X5_seatOf (M : mM) (x0 : Nat) (x1 : Int32) : Option Int32 :=
  m_X5_seatOf_L2
    (
      some (0 : Int32)
    )
    (fun v9 =>
      some v9)
    M x0 x1 FU (0 : Int32)
theorem e_X5_seatOf {Z : zZ} {M : mM} {x0 : Nat} {x1 : Int32} {r : Int32} (h : m_X5_seatOf M x0 x1 = some r) : EM Z yX5_seatOf cX5_seatOf 3 (some .int) 0 0 0 [.ref x0, .int x1] M M (some (.int r)) := by
  refine EM_of my_X5_seatOf (Nat.le_of_ble_eq_true rfl) (fun X G F => ?_)
  show V X Z M 0 0 0 [some (.ref x0), some (.int x1), none] []
  unfold m_X5_seatOf at h
  refine v_iconst G (0 : Int32) dX5_seatOf_0 (by decide) ?_
  refine v_istore_n [some (.ref x0), some (.int x1), some (.int (0 : Int32))] G dX5_seatOf_1 (Nat.le_of_ble_eq_true rfl) rfl rfl ?_
  refine v_mask [true, true, true] rfl ?_
  refine e_X5_seatOf_L2 G (Nat.zero_le _) (Nat.zero_le _) _ _ _ (fun h => ?_) (fun v9 h => ?_) FU _ h
  · refine v_iconst G (0 : Int32) dX5_seatOf_28 (by decide) ?_
    cases h
    exact v_iret G F dX5_seatOf_29 rfl (Nat.le_refl _)
  · refine v_iload_n G dX5_seatOf_20 rfl ?_
    cases h
    exact v_iret G F dX5_seatOf_21 rfl (Nat.le_refl _)
/-! X6_outside -/
def m_X6_outside (M : mM) (x0 : Int32) (x1 : Int32) (x2 : Int32) : Option Int32 :=
  if x0 < x1 then (
    some (1 : Int32)
  ) else (
    if x0 ≤ x2 then (
      some (0 : Int32)
    ) else (
      some (1 : Int32)
    )
  )
theorem e_X6_outside {Z : zZ} {M : mM} {x0 : Int32} {x1 : Int32} {x2 : Int32} {r : Int32} (h : m_X6_outside M x0 x1 x2 = some r) : EM Z yX6_outside cX6_outside 3 (some .boolean) 0 0 0 [.int x0, .int x1, .int x2] M M (some (.int r)) := by
  refine EM_of my_X6_outside (Nat.le_of_ble_eq_true rfl) (fun X G F => ?_)
  show V X Z M 0 0 0 [some (.int x0), some (.int x1), some (.int x2)] []
  unfold m_X6_outside at h
  refine v_iload_n G dX6_outside_0 rfl ?_
  refine v_iload_n G dX6_outside_1 rfl ?_
  refine v_ic_lt 10 G dX6_outside_2 (by decide) (fun q1 => ?_) (fun q1 => ?_)
  · rw [if_pos q1] at h
    refine v_iconst G (1 : Int32) dX6_outside_10 (by decide) ?_
    refine v_goto 15 G dX6_outside_11 (by decide) ?_
    cases h
    exact v_zret G F rfl dX6_outside_15 rfl (Nat.le_refl _)
  · rw [if_neg q1] at h
    refine v_iload_n G dX6_outside_5 rfl ?_
    refine v_iload_n G dX6_outside_6 rfl ?_
    refine v_ic_le 14 G dX6_outside_7 (by decide) (fun q2 => ?_) (fun q2 => ?_)
    · rw [if_pos q2] at h
      refine v_iconst G (0 : Int32) dX6_outside_14 (by decide) ?_
      cases h
      exact v_zret G F rfl dX6_outside_15 rfl (Nat.le_refl _)
    · rw [if_neg q2] at h
      refine v_iconst G (1 : Int32) dX6_outside_10 (by decide) ?_
      refine v_goto 15 G dX6_outside_11 (by decide) ?_
      cases h
      exact v_zret G F rfl dX6_outside_15 rfl (Nat.le_refl _)
/-! X1_answer -/
def m_X1_answer (M : mM) (x0 : Nat) (x1 : Nat) (x2 : Int32) (x3 : Int32) : Option (mM × Int32) :=
  (pI M x0 1 1 (0 : Int32)).bind fun M1 =>
  (pI M1 x0 1 2 x2).bind fun M3 =>
  if isO M3 x1 5 = true then
  (m_X5_seatOf M3 x1 x2).bind fun v6 =>
  (pI M3 x0 1 3 v6).bind fun M7 =>
  if isO M7 x1 5 = true then
  (m_X5_form M7 x1 x2).bind fun v10 =>
  (pI M7 x0 1 4 v10).bind fun M11 =>
  (gR M11 x1 5 7).bind fun b13 =>
  (ldI M11 b13 x2).bind fun v16 =>
  (m_X6_outside M11 v16 (0 : Int32) (5 : Int32)).bind fun v18 =>
  if v18 = (0 : Int32) then (
    (ldS v16).bind fun v21 =>
    (pI M11 x0 1 5 v21).bind fun M22 =>
    (ldM v16).bind fun v25 =>
    (pI M22 x0 1 6 v25).bind fun M26 =>
    if x3 = (0 : Int32) then (
      (gI M26 x0 1 5).bind fun v34 =>
      bd2 (m_X1_begin 20 M26 x0 v34 (0 : Int32)) fun M37 v38 =>
      some (M37, v38)
    ) else (
      (gI M26 x0 1 6).bind fun v29 =>
      bd2 (m_X1_begin 20 M26 x0 v29 (0 : Int32)) fun M32 v33 =>
      some (M32, v33)
    )
  ) else (
    some (M11, (-1000001 : Int32))
  )
  else none
  else none
theorem e_X1_answer {Z : zZ} {M : mM} {N : mM} {x0 : Nat} {x1 : Nat} {x2 : Int32} {x3 : Int32} {r : Int32} (h : m_X1_answer M x0 x1 x2 x3 = some (N, r)) : EM Z yX1_answer cX1_answer 5 (some .int) 22 0 0 [.ref x0, .ref x1, .int x2, .int x3] M N (some (.int r)) := by
  refine EM_of my_X1_answer (Nat.le_of_ble_eq_true rfl) (fun X G F => ?_)
  show V X Z M 0 0 0 [some (.ref x0), some (.ref x1), some (.int x2), some (.int x3), none] []
  unfold m_X1_answer at h
  refine v_aload_n G dX1_answer_0 rfl ?_
  refine v_iconst G (0 : Int32) dX1_answer_1 (by decide) ?_
  obtain ⟨M1, q2, h⟩ := bi_ h
  refine v_putI (f := 1) G cl1 dX1_answer_2 w246 (by decide) (by decide) (by decide) rfl rfl q2 ?_
  refine v_aload_n G dX1_answer_5 rfl ?_
  refine v_iload_n G dX1_answer_6 rfl ?_
  obtain ⟨M3, q4, h⟩ := bi_ h
  refine v_putI (f := 2) G cl1 dX1_answer_7 w248 (by decide) (by decide) (by decide) rfl rfl q4 ?_
  refine v_aload_n G dX1_answer_10 rfl ?_
  refine v_aload_n G dX1_answer_11 rfl ?_
  refine v_iload_n G dX1_answer_12 rfl ?_
  obtain ⟨q40, h⟩ := if_s h
  obtain ⟨v6, q5, h⟩ := bi_ h
  refine v_callV0 (e_X5_seatOf q5) G cl5 my_X5_seatOf rfl w515 w516 w802 dX1_answer_13 q40 rfl (Nat.le_of_ble_eq_true rfl) rfl (Nat.le_of_ble_eq_true rfl) (Nat.zero_le _) (Nat.zero_le _) ?_
  obtain ⟨M7, q8, h⟩ := bi_ h
  refine v_putI (f := 3) G cl1 dX1_answer_16 w249 (by decide) (by decide) (by decide) rfl rfl q8 ?_
  refine v_aload_n G dX1_answer_19 rfl ?_
  refine v_aload_n G dX1_answer_20 rfl ?_
  refine v_iload_n G dX1_answer_21 rfl ?_
  obtain ⟨q39, h⟩ := if_s h
  obtain ⟨v10, q9, h⟩ := bi_ h
  refine v_callV0 (e_X5_form q9) G cl5 my_X5_form rfl w499 w500 w803 dX1_answer_22 q39 rfl (Nat.le_of_ble_eq_true rfl) rfl (Nat.le_of_ble_eq_true rfl) (Nat.zero_le _) (Nat.zero_le _) ?_
  obtain ⟨M11, q12, h⟩ := bi_ h
  refine v_putI (f := 4) G cl1 dX1_answer_25 w250 (by decide) (by decide) (by decide) rfl rfl q12 ?_
  refine v_aload_n G dX1_answer_28 rfl ?_
  obtain ⟨b13, q14, h⟩ := bi_ h
  refine v_getR (f := 7) G cl5 dX1_answer_29 w111 (by decide) (by decide) q14 ?_
  refine v_iload_n G dX1_answer_32 rfl ?_
  obtain ⟨v16, q15, h⟩ := bi_ h
  refine v_iald G dX1_answer_33 q15 ?_
  refine v_istore [some (.ref x0), some (.ref x1), some (.int x2), some (.int x3), some (.int v16)] G dX1_answer_34 (Nat.le_of_ble_eq_true rfl) rfl rfl ?_
  refine v_iload G dX1_answer_36 rfl ?_
  refine v_iconst G (0 : Int32) dX1_answer_38 (by decide) ?_
  refine v_iconst G (5 : Int32) dX1_answer_39 (by decide) ?_
  obtain ⟨v18, q17, h⟩ := bi_ h
  refine v_callSN0 (e_X6_outside q17) G my_X6_outside w324 n804 dX1_answer_40 rfl (Nat.le_of_ble_eq_true rfl) rfl (Nat.le_of_ble_eq_true rfl) (Nat.zero_le _) (Nat.zero_le _) ?_
  refine v_if_eq 49 G dX1_answer_43 (by decide) (fun q19 => ?_) (fun q19 => ?_)
  · rw [if_pos q19] at h
    refine v_aload_n G dX1_answer_49 rfl ?_
    refine v_gets0 G dX1_answer_50 w806 ?_
    refine v_iload G dX1_answer_53 rfl ?_
    obtain ⟨v21, q20, h⟩ := bi_ h
    refine v_tal0 G dX1_answer_55 q20 ?_
    obtain ⟨M22, q23, h⟩ := bi_ h
    refine v_putI (f := 5) G cl1 dX1_answer_56 w251 (by decide) (by decide) (by decide) rfl rfl q23 ?_
    refine v_aload_n G dX1_answer_59 rfl ?_
    refine v_gets1 G dX1_answer_60 w808 ?_
    refine v_iload G dX1_answer_63 rfl ?_
    obtain ⟨v25, q24, h⟩ := bi_ h
    refine v_tal1 G dX1_answer_65 q24 ?_
    obtain ⟨M26, q27, h⟩ := bi_ h
    refine v_putI (f := 6) G cl1 dX1_answer_66 w252 (by decide) (by decide) (by decide) rfl rfl q27 ?_
    refine v_aload_n G dX1_answer_69 rfl ?_
    refine v_iload_n G dX1_answer_70 rfl ?_
    refine v_if_ne 81 G dX1_answer_71 (by decide) (fun q28 => ?_) (fun q28 => ?_)
    · rw [if_neg q28] at h
      refine v_aload_n G dX1_answer_81 rfl ?_
      obtain ⟨v29, q30, h⟩ := bi_ h
      refine v_getI (f := 6) G cl1 dX1_answer_82 w252 (by decide) (by decide) q30 ?_
      refine v_iconst G (0 : Int32) dX1_answer_85 (by decide) ?_
      obtain ⟨M32, v33, q31, h⟩ := bi2_ h
      refine v_callS0 (e_X1_begin q31) G my_X1_begin w811 w810 dX1_answer_86 rfl (Nat.le_of_ble_eq_true rfl) rfl (Nat.le_of_ble_eq_true rfl) (Nat.zero_le _) (Nat.zero_le _) ?_
      cases h
      exact v_iret G F dX1_answer_89 rfl (Nat.le_refl _)
    · rw [if_pos q28] at h
      refine v_aload_n G dX1_answer_74 rfl ?_
      obtain ⟨v34, q35, h⟩ := bi_ h
      refine v_getI (f := 5) G cl1 dX1_answer_75 w251 (by decide) (by decide) q35 ?_
      refine v_goto 85 G dX1_answer_78 (by decide) ?_
      refine v_iconst G (0 : Int32) dX1_answer_85 (by decide) ?_
      obtain ⟨M37, v38, q36, h⟩ := bi2_ h
      refine v_callS0 (e_X1_begin q36) G my_X1_begin w811 w810 dX1_answer_86 rfl (Nat.le_of_ble_eq_true rfl) rfl (Nat.le_of_ble_eq_true rfl) (Nat.zero_le _) (Nat.zero_le _) ?_
      cases h
      exact v_iret G F dX1_answer_89 rfl (Nat.le_refl _)
  · rw [if_neg q19] at h
    refine v_ldc G (-1000001 : Int32) dX1_answer_46 w805 ?_
    cases h
    exact v_iret G F dX1_answer_48 rfl (Nat.le_refl _)
/-! X2_init -/
def m_X2_init (M : mM) (x0 : Nat) : Option mM :=
  nw_b M (0, 5) fun M1 =>
  (m_X5_init M1 (mz M)).bind fun M3 =>
  (pR M3 x0 2 0 (mz M)).bind fun M4 =>
  nw_b M4 (1, 6) fun M6 =>
  (pR M6 x0 2 4 (mz M4)).bind fun M7 =>
  nw_b M7 (1, 6) fun M9 =>
  (pR M9 x0 2 5 (mz M7)).bind fun M10 =>
  some M10
theorem e_X2_init {Z : zZ} {M : mM} {N : mM} {x0 : Nat} (h : m_X2_init M x0 = some N) : EM Z yX2_init cX2_init 1 none 2 9 91 [.ref x0] M N none := by
  refine EM_of my_X2_init (Nat.le_of_ble_eq_true rfl) (fun X G F => ?_)
  show V X Z M 0 0 0 [some (.ref x0)] []
  unfold m_X2_init at h
  refine v_aload_n G dX2_init_0 rfl ?_
  refine v_obj G w208 w75 w76 dX2_init_1 (Nat.le_of_ble_eq_true rfl) rfl (by decide) ?_
  refine v_aload_n G dX2_init_4 rfl ?_
  obtain ⟨M1, eM1, h⟩ := nb_ h
  refine v_new G cl5 dX2_init_5 w209 (Nat.le_of_ble_eq_true rfl) (Nat.le_of_ble_eq_true rfl) ?_
  rw [← eM1]
  refine v_dup G dX2_init_8 rfl ?_
  obtain ⟨M3, q2, h⟩ := bi_ h
  refine v_callIN (e_X5_init q2) G my_X5_init rfl w82 n210 dX2_init_9 rfl (Nat.le_of_ble_eq_true rfl) rfl (Nat.le_of_ble_eq_true rfl) (Nat.le_of_ble_eq_true rfl) (Nat.le_of_ble_eq_true rfl) ?_
  obtain ⟨M4, q5, h⟩ := bi_ h
  refine v_putF (f := 0) G cl2 dX2_init_12 w211 (by decide) (by decide) (by decide) rfl rfl (fun _ => rfl) (fun _ => rfl) q5 ?_
  refine v_aload_n G dX2_init_15 rfl ?_
  refine v_bipush G (6 : Int32) dX2_init_16 (by decide) ?_
  obtain ⟨M6, eM6, h⟩ := nb_ h
  refine v_newI (n' := 6) G dX2_init_18 w145 (by decide) (by decide) (by decide) (Nat.le_of_ble_eq_true rfl) (Nat.le_of_ble_eq_true rfl) ?_
  rw [← eM6]
  obtain ⟨M7, q8, h⟩ := bi_ h
  refine v_putF (f := 4) G cl2 dX2_init_20 w216 (by decide) (by decide) (by decide) rfl rfl (fun _ => rfl) (fun _ => rfl) q8 ?_
  refine v_aload_n G dX2_init_23 rfl ?_
  refine v_bipush G (6 : Int32) dX2_init_24 (by decide) ?_
  obtain ⟨M9, eM9, h⟩ := nb_ h
  refine v_newI (n' := 6) G dX2_init_26 w145 (by decide) (by decide) (by decide) (Nat.le_of_ble_eq_true rfl) (Nat.le_of_ble_eq_true rfl) ?_
  rw [← eM9]
  obtain ⟨M10, q11, h⟩ := bi_ h
  refine v_putF (f := 5) G cl2 dX2_init_28 w218 (by decide) (by decide) (by decide) rfl rfl (fun _ => rfl) (fun _ => rfl) q11 ?_
  cases h
  exact v_vret G F dX2_init_31 rfl (Nat.le_of_ble_eq_true rfl)
/-! X5_timesHeard -/
def m_X5_timesHeard (M : mM) (x0 : Nat) (x1 : Int32) (x2 : Int32) : Option Int32 :=
  (gR M x0 5 10).bind fun b1 =>
  (ldI M b1 ((x1 * (6 : Int32)) + x2)).bind fun v4 =>
  some v4
theorem e_X5_timesHeard {Z : zZ} {M : mM} {x0 : Nat} {x1 : Int32} {x2 : Int32} {r : Int32} (h : m_X5_timesHeard M x0 x1 x2 = some r) : EM Z yX5_timesHeard cX5_timesHeard 3 (some .int) 0 0 0 [.ref x0, .int x1, .int x2] M M (some (.int r)) := by
  refine EM_of my_X5_timesHeard (Nat.le_of_ble_eq_true rfl) (fun X G F => ?_)
  show V X Z M 0 0 0 [some (.ref x0), some (.int x1), some (.int x2)] []
  unfold m_X5_timesHeard at h
  refine v_aload_n G dX5_timesHeard_0 rfl ?_
  obtain ⟨b1, q2, h⟩ := bi_ h
  refine v_getR (f := 10) G cl5 dX5_timesHeard_1 w121 (by decide) (by decide) q2 ?_
  refine v_iload_n G dX5_timesHeard_4 rfl ?_
  refine v_bipush G (6 : Int32) dX5_timesHeard_5 (by decide) ?_
  refine v_imul G dX5_timesHeard_7 ?_
  refine v_iload_n G dX5_timesHeard_8 rfl ?_
  refine v_iadd G dX5_timesHeard_9 ?_
  obtain ⟨v4, q3, h⟩ := bi_ h
  refine v_iald G dX5_timesHeard_10 q3 ?_
  cases h
  exact v_iret G F dX5_timesHeard_11 rfl (Nat.le_refl _)
