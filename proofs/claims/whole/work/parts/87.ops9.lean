/-! ===== what ===== -/
section OE
variable (A : aS)
theorem o_what (x y z u v : Int32) : both A (fun M => m_X6_what M 0 x y z u v) (fun M => m_X7_what M 231 x y z u v) := by
  intro M G h
  have hn := h.1
  have hb := vs_b hn.2
  have eL : (nI (aN A 0 2) - (1 : Int32)).toInt = (aN A 0 2 : Int) - 1 := sb_t (by omega)
  have e1 : (-1 : Int32).toInt = -1 := by decide
  have hL1 : (-1 : Int) ≤ (aN A 0 2 : Int) - 1 := by omega
  cases hx : rg x (-1) ((aN A 0 2 : Int) - 1) with
  | false =>
    obtain ⟨z1, z2⟩ := rg_m0 hL1 hx
    refine ⟨A, -1000001, ?_, fun M' G' h' => ?_⟩
    · show opX (m_X6_what M 0 x y z u v) _ _ _
      rw [m_X6_what, R6n G, Option.bind_some, g_s (Sn G) hn.1 (j := 2) (by decide), Option.bind_some, n_out (b := false) (by rw [eL, e1]; exact hx), Option.bind_some, if_neg (by decide)]
      exact px0 G h
    · show opM (m_X7_what M' 231 x y z u v) _ _ _
      rw [m_X7_what]
      refine q2 G' h' (fun M1 G1 h1 => ?_)
      rw [if_neg z1, if_pos (O7 G1), m_isD G1 h1.1, z2, Option.bind_some, if_pos (by decide)]
      exact pm0 G1 h1
  | true =>
  have nx : ∀ {M1 : mM}, GS M1 → CM A M1 → ∀ {B : Option (mM × Int32)}, (if x = (-1 : Int32) then B else (if isO M1 231 7 = true then (m_X7_isLesson M1 231 x).bind fun v66 => if v66 = (0 : Int32) then some (M1, (-1000001 : Int32)) else B else none)) = B := by
    intro M1 G1 h1 B
    rcases rg_m1 hx with ⟨z1, z2⟩ | ⟨z1, z2, z3⟩
    · rw [if_pos z1]
    · rw [if_neg z1, if_pos (O7 G1), m_isD G1 h1.1, z3, Option.bind_some, if_neg (by decide)]
  have em : ∀ M1, GS M1 → CM A M1 → (if x = (-1 : Int32) then (
    if isO M1 231 7 = true then
    (m_X7_isPupil M1 231 y).bind fun v5 =>
    if v5 = (0 : Int32) then (
      some (M1, (-1000001 : Int32))
    ) else (
      (m_X7_isMany M1 z v).bind fun v8 =>
      if v8 = (0 : Int32) then (
        some (M1, (-1000001 : Int32))
      ) else (
        if isO M1 231 7 = true then
        bd2 (m_X7_rowFound M1 231 z u v) fun M11 v12 =>
        if v12 = (0 : Int32) then (
          m_X7_what_L63
            (fun M61 v62 =>
              some (M61, v62))
            231 x y z u v FU M11 (0 : Int32) (0 : Int32)
        ) else (
          some (M11, v12)
        )
        else none
      )
    )
    else none
  ) else (
    if isO M1 231 7 = true then
    (m_X7_isLesson M1 231 x).bind fun v66 =>
    if v66 = (0 : Int32) then (
      some (M1, (-1000001 : Int32))
    ) else (
      if isO M1 231 7 = true then
      (m_X7_isPupil M1 231 y).bind fun v69 =>
      if v69 = (0 : Int32) then (
        some (M1, (-1000001 : Int32))
      ) else (
        (m_X7_isMany M1 z v).bind fun v72 =>
        if v72 = (0 : Int32) then (
          some (M1, (-1000001 : Int32))
        ) else (
          if isO M1 231 7 = true then
          bd2 (m_X7_rowFound M1 231 z u v) fun M75 v76 =>
          if v76 = (0 : Int32) then (
            m_X7_what_L63
              (fun M78 v79 =>
                some (M78, v79))
              231 x y z u v FU M75 (0 : Int32) (0 : Int32)
          ) else (
            some (M75, v76)
          )
          else none
        )
      )
      else none
    )
    else none
  )) = (if isO M1 231 7 = true then
    (m_X7_isPupil M1 231 y).bind fun v5 =>
    if v5 = (0 : Int32) then (
      some (M1, (-1000001 : Int32))
    ) else (
      (m_X7_isMany M1 z v).bind fun v8 =>
      if v8 = (0 : Int32) then (
        some (M1, (-1000001 : Int32))
      ) else (
        if isO M1 231 7 = true then
        bd2 (m_X7_rowFound M1 231 z u v) fun M11 v12 =>
        if v12 = (0 : Int32) then (
          m_X7_what_L63
            (fun M61 v62 =>
              some (M61, v62))
            231 x y z u v FU M11 (0 : Int32) (0 : Int32)
        ) else (
          some (M11, v12)
        )
        else none
      )
    )
    else none) := fun M1 G1 h1 => nx G1 h1
  cases hr : rg y 0 ((aN A 0 3 : Int) - 1) with
  | false =>
    refine ⟨A, -1000001, ?_, fun M' G' h' => ?_⟩
    · show opX (m_X6_what M 0 x y z u v) _ _ _
      rw [m_X6_what, R6n G, Option.bind_some, g_s (Sn G) hn.1 (j := 2) (by decide), Option.bind_some, n_out (b := true) (by rw [eL, e1]; exact hx), Option.bind_some, if_pos (by decide), if_pos (O6 G), m_noP G hn, hr, Option.bind_some, if_neg (by decide)]
      exact px0 G h
    · show opM (m_X7_what M' 231 x y z u v) _ _ _
      rw [m_X7_what]
      refine q2 G' h' (fun M1 G1 h1 => ?_)
      rw [em M1 G1 h1, if_pos (O7 G1), m_isP G1 h1.1, hr, Option.bind_some, if_pos (by decide)]
      exact pm0 G1 h1
  | true =>
  cases hm : (rg z 0 7 && rg v 1 12) with
  | false =>
    refine ⟨A, -1000001, ?_, fun M' G' h' => ?_⟩
    · show opX (m_X6_what M 0 x y z u v) _ _ _
      rw [m_X6_what, R6n G, Option.bind_some, g_s (Sn G) hn.1 (j := 2) (by decide), Option.bind_some, n_out (b := true) (by rw [eL, e1]; exact hx), Option.bind_some, if_pos (by decide), if_pos (O6 G), m_noP G hn, hr, Option.bind_some, if_pos (by decide), m_noR, Option.bind_some]
      cases hz : rg z 0 7 with
      | false =>
        rw [if_neg (by decide)]
        exact px0 G h
      | true =>
        rw [hz, Bool.true_and] at hm
        rw [if_pos (by decide), n_out (b := false) hm, Option.bind_some, if_neg (by decide)]
        exact px0 G h
    · show opM (m_X7_what M' 231 x y z u v) _ _ _
      rw [m_X7_what]
      refine q2 G' h' (fun M1 G1 h1 => ?_)
      rw [em M1 G1 h1, if_pos (O7 G1), m_isP G1 h1.1, hr, Option.bind_some, if_neg (by decide), m_many, hm, Option.bind_some, if_pos (by decide)]
      exact pm0 G1 h1
  | true =>
  have hm' := hm
  rw [Bool.and_eq_true] at hm'
  obtain ⟨hz, hv⟩ := hm'
  obtain ⟨p, hp, rfl⟩ := rg_s hr
  obtain ⟨k, hk, rfl⟩ := rg_n (n := 7) hz
  have hk8 : k < 8 := by omega
  have hv0 : 1 ≤ v.toInt ∧ v.toInt ≤ 12 := by
    simp only [rg, Bool.and_eq_true, decide_eq_true_eq] at hv
    exact hv
  obtain ⟨w, i7, hd⟩ := vs_w hn.2 (j := 3) (by decide) (by omega)
  have hJ6 := w.2.1.2
  have wp := m_wp G h.2.2.2.1 hk8 u v
  have X0 : m_X6_what M 0 x (nI p) (nI k) u v = (if nI (wpq (aR A).1 (aR A).2.1 k u v) = (0 : Int32) then ((m_X2_believe M 189 (201 + 2 * k) u v).bind fun M27 =>
            if (0 : Int32) ≤ x then (
              (gR M27 0 6 5).bind fun b29 =>
              (gR M27 0 6 1).bind fun b31 =>
              if isO M27 b29 2 = true then
              bd2 (m_X2_subjectsThatFit M27 b29 b31 (nI p) x) fun M34 v35 =>
              if isO M34 0 6 = true then
              bd2 (m_X6_fine M34 0 v35) fun M37 v38 =>
              some (M37, v38)
              else none
              else none
            ) else (
              (gR M27 0 6 5).bind fun b41 =>
              (gR M27 0 6 1).bind fun b43 =>
              if isO M27 b41 2 = true then
              bd2 (m_X2_reachesThatFit M27 b41 b43 (nI p)) fun M46 v47 =>
              if isO M46 0 6 = true then
              bd2 (m_X6_fine M46 0 v47) fun M49 v50 =>
              some (M49, v50)
              else none
              else none
            )) else (if isO M 0 6 = true then bd2 (m_X6_found M 0 (nI (wpq (aR A).1 (aR A).2.1 k u v))) fun M51 v52 => some (M51, v52) else none)) := by
    rw [m_X6_what, R6n G, Option.bind_some, g_s (Sn G) hn.1 (j := 2) (by decide), Option.bind_some, n_out (b := true) (by rw [eL, e1]; exact hx), Option.bind_some, if_pos (by decide), if_pos (O6 G), m_noP G hn, hr, Option.bind_some, if_pos (by decide), m_noR, hz, Option.bind_some, if_pos (by decide), n_out (b := true) hv, Option.bind_some, if_pos (by decide), if_pos (O6 G), wp, Option.bind_some, R6f G, Option.bind_some, R6w G, Option.bind_some, rowR G hk8, Option.bind_some, if_pos (FO G)]
  by_cases hw0 : wpq (aR A).1 (aR A).2.1 k u v = 0
  · obtain ⟨h0, hq⟩ := wpq_0 hw0
    have hz' := (h.2.2.2.1 k hk8).2 h0
    obtain ⟨j, m, rfl, rfl, hjm⟩ := hasq_n hz'.2.1 hq
    have hm12 : m ≤ 12 := by
      rw [nI_toInt (by omega)] at hv0
      omega
    obtain ⟨N, n1, n2, n3⟩ := m_bel G h hk8 h0 hjm
    rcases rg_m1 hx with ⟨z1, z2⟩ | ⟨z1, z2, z3⟩
    · subst z1
      refine ⟨sU A 0, nI (fs_ p (fun i => (aR A).2.2 k (j + i)) m (fun q => up2 (aN A) 0 0 q) 0 7 0), ?_, fun M' G' h' => ?_⟩
      · show opX (m_X6_what M 0 (-1) (nI p) (nI k) (nI j) (nI m)) _ _ _
        obtain ⟨K, k1, k2⟩ := m_raX (p := p) w hp (by omega) hk8 hz'.2.1 hjm (fun M17 v18 => some (M17, v18)) 7 0 FU N 0 n3 (by decide) (by decide) (by decide)
        have WK : WY M K := WY_t n2 (WY_f n2.1 k2)
        rw [X0, hw0, if_pos (by decide), n1, Option.bind_some, if_neg z2, R6f n2.1, Option.bind_some, R6n n2.1, Option.bind_some, if_pos (FO n2.1), m_X2_reachesThatFit, show m_X2_reachesThatFit_L5 _ 189 2 (nI p) FU N (0 : Int32) (0 : Int32) = _ from k1, bd2_s]
        exact opX_t WK.h (fin6 WK.1 (WK.cx h) _)
      · show opM (m_X7_what M' 231 (-1) (nI p) (nI k) (nI j) (nI m)) _ _ _
        rw [m_X7_what]
        refine q2 G' h' (fun M1 G1 h1 => ?_)
        rw [em M1 G1 h1, if_pos (O7 G1), m_isP G1 h1.1, hr, Option.bind_some, if_neg (by decide), m_many, hm, Option.bind_some, if_neg (by decide), if_pos (O7 G1), m_rf G1 h1.2.2.2.1 hk8 _ _ (by omega), hw0, bd2_s, if_pos rfl, if_pos rfl]
        have C2 := CMu h1 0
        have hd2 := (CMrU C2 k hk8).2 h0
        obtain ⟨K, k1, k2⟩ := m_raM (p := p) (r := k) (j := j) (it := fun i => (aR A).2.2 k (j + i)) w i7 hp (show aN A 0 4 + m ≤ 2000 by omega) (by omega) (by omega) (fun M78 v79 => some (M78, v79)) 7 0 FU (wI M1 231 1 (nI 0)) 0 ⟨GS_w G1, fun i hi => by rw [Nat.add_assoc]; exact hd2.2.2.2 _ (by omega), C2.1.1⟩ (by decide) (by decide) (by decide)
        rw [show m_X7_what_L63 _ 231 (-1 : Int32) (nI p) (nI k) (nI j) (nI m) FU (wI M1 231 1 (nI 0)) (0 : Int32) (0 : Int32) = _ from k1]
        exact opM_t (lo_w (by decide)) (pmW k2 C2)
    · obtain ⟨l, hl, rfl⟩ := rg_s z3
      refine ⟨sU A 0, nI (fs_ p (fun i => (aR A).2.2 k (j + i)) m (fun q => up2 (aN A) 2 l q) 0 (aN A 0 1) 0), ?_, fun M' G' h' => ?_⟩
      · show opX (m_X6_what M 0 (nI l) (nI p) (nI k) (nI j) (nI m)) _ _ _
        obtain ⟨K, k1, k2⟩ := m_suX (p := p) w hl hp (by omega) hk8 hz'.2.1 hjm (fun M17 v18 => some (M17, v18)) (aN A 0 1) 0 FU N 0 n3 (by decide) (by omega) (by unfold FU; omega)
        have WK : WY M K := WY_t n2 (WY_f n2.1 k2)
        rw [X0, hw0, if_pos (by decide), n1, Option.bind_some, if_pos z2, R6f n2.1, Option.bind_some, R6n n2.1, Option.bind_some, if_pos (FO n2.1), m_X2_subjectsThatFit, show m_X2_subjectsThatFit_L6 _ 189 2 (nI p) (nI l) FU N (0 : Int32) (0 : Int32) = _ from k1, bd2_s]
        exact opX_t WK.h (fin6 WK.1 (WK.cx h) _)
      · show opM (m_X7_what M' 231 (nI l) (nI p) (nI k) (nI j) (nI m)) _ _ _
        rw [m_X7_what]
        refine q2 G' h' (fun M1 G1 h1 => ?_)
        rw [em M1 G1 h1, if_pos (O7 G1), m_isP G1 h1.1, hr, Option.bind_some, if_neg (by decide), m_many, hm, Option.bind_some, if_neg (by decide), if_pos (O7 G1), m_rf G1 h1.2.2.2.1 hk8 _ _ (by omega), hw0, bd2_s, if_pos rfl, if_pos rfl]
        have C2 := CMu h1 0
        have hd2 := (CMrU C2 k hk8).2 h0
        obtain ⟨K, k1, k2⟩ := m_suM (p := p) (r := k) (j := j) (it := fun i => (aR A).2.2 k (j + i)) w i7 hl hp (show aN A 0 4 + m ≤ 2000 by omega) (by omega) (by omega) (fun M78 v79 => some (M78, v79)) (aN A 0 1) 0 FU (wI M1 231 1 (nI 0)) 0 ⟨GS_w G1, fun i hi => by rw [Nat.add_assoc]; exact hd2.2.2.2 _ (by omega), C2.1.1⟩ (by decide) (by omega) (by unfold FU; omega)
        rw [show m_X7_what_L63 _ 231 (nI l) (nI p) (nI k) (nI j) (nI m) FU (wI M1 231 1 (nI 0)) (0 : Int32) (0 : Int32) = _ from k1]
        exact opM_t (lo_w (by decide)) (pmW k2 C2)
  · refine ⟨sU A (wpq (aR A).1 (aR A).2.1 k u v), -1000010 - nI (wpq (aR A).1 (aR A).2.1 k u v), ?_, fun M' G' h' => ?_⟩
    · show opX (m_X6_what M 0 x (nI p) (nI k) u v) _ _ _
      rw [X0, if_neg (by rcases wpq_c (rl := (aR A).1) (rs := (aR A).2.1) (k := k) (i := u) (n := v) with e | e | e; exact absurd e hw0; rw [e]; decide; rw [e]; decide)]
      exact fnd6 G h _
    · show opM (m_X7_what M' 231 x (nI p) (nI k) u v) _ _ _
      rw [m_X7_what]
      refine q2 G' h' (fun M1 G1 h1 => ?_)
      rw [em M1 G1 h1, if_pos (O7 G1), m_isP G1 h1.1, hr, Option.bind_some, if_neg (by decide), m_many, hm, Option.bind_some, if_neg (by decide), if_pos (O7 G1), m_rf G1 h1.2.2.2.1 hk8 _ _ (by omega), bd2_s, if_neg hw0, if_neg (by rcases wpq_c (rl := (aR A).1) (rs := (aR A).2.1) (k := k) (i := u) (n := v) with e | e | e; exact absurd e hw0; rw [e]; decide; rw [e]; decide)]
      exact pm (GS_w G1) (CMu h1 _) (lo_w (by decide))
end OE
