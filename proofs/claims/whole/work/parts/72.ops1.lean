/-! ===== calls that only ask ===== -/
def bothP (A : aS) (ox : mM → Option Int32) (om : mM → Option (mM × Int32)) : Prop := ∀ M, GS M → CX A M → ∃ r, ox M = some r ∧ ∀ M', GS M' → CM A M' → opM (om M') M' A r
theorem q_ {M : mM} {A : aS} (G : GS M) (h : CM A M) {g : mM → Option (mM × Int32)} {r : Int32} (e : ∀ M1, GS M1 → CM A M1 → g M1 = some (M1, r)) : opM ((pI M 231 7 0 (0 : Int32)).bind g) M A r := ⟨_, by rw [thr G, e _ (thr_G G) (thr_M h)], thr_G G, thr_M h, thr_l⟩
section O1
variable (A : aS)
theorem o_status : bothP A (fun M => m_X6_status M 0) (fun M => m_X7_status M 231) := by
  intro M G h
  refine ⟨nI (aU A), ?_, fun M' G' h' => ?_⟩
  · show m_X6_status M 0 = _
    rw [m_X6_status, gI_ (O6 G), Option.bind_some, h.2.2.2.2.2.2.2]
  · show opM (m_X7_status M' 231) _ _ _
    rw [m_X7_status]
    exact q_ G' h' (fun M1 G1 h1 => by rw [gI_ (O7 G1), Option.bind_some, h1.2.2.2.2.2.2.2])
theorem o_fault : bothP A (fun M => m_X6_fault M 0) (fun M => m_X7_fault M 231) := by
  intro M G h
  have hO : isO M 180 3 = true := G.o (by decide) (by decide +kernel)
  refine ⟨nI (aF A), ?_, fun M' G' h' => ?_⟩
  · show m_X6_fault M 0 = _
    rw [m_X6_fault, R6r G, Option.bind_some, gI_ hO, Option.bind_some, h.2.2.2.2.2.1.2]
  · show opM (m_X7_fault M' 231) _ _ _
    rw [m_X7_fault]
    exact q_ G' h' (fun M1 G1 h1 => by rw [gI_ (O7 G1), Option.bind_some, h1.2.2.2.2.2.1.2])
theorem o_kind (x : Int32) : bothP A (fun M => m_X6_kind M 0 x) (fun M => m_X7_kind M 231 x) := by
  intro M G h
  have hn := h.1
  cases hr : rg x 0 ((aN A 0 3 : Int) - 1) with
  | false =>
    refine ⟨-1000001, ?_, fun M' G' h' => ?_⟩
    · show m_X6_kind M 0 x = _
      rw [m_X6_kind, if_pos (O6 G), m_noP G hn, hr, Option.bind_some, if_neg (by decide)]
    · show opM (m_X7_kind M' 231 x) _ _ _
      rw [m_X7_kind]
      exact q_ G' h' (fun M1 G1 h1 => by rw [if_pos (O7 G1), m_isP G1 h1.1, hr, Option.bind_some, if_pos (by decide)])
  | true =>
    obtain ⟨p, hp, rfl⟩ := rg_s hr
    have hw := vs_w hn.2 (j := 3) (by decide) (by omega)
    refine ⟨nI (aN A 3 p), ?_, fun M' G' h' => ?_⟩
    · show m_X6_kind M 0 (nI p) = _
      rw [m_X6_kind, if_pos (O6 G), m_noP G hn, hr, Option.bind_some, if_pos (by decide), R6n G, Option.bind_some, r_3 (Sn G), Option.bind_some, a_3 (Sn G) hw.1 hn.1 hp, Option.bind_some]
    · show opM (m_X7_kind M' 231 (nI p)) _ _ _
      rw [m_X7_kind]
      exact q_ G' h' (fun M1 G1 h1 => by rw [if_pos (O7 G1), m_isP G1 h1.1, hr, Option.bind_some, if_neg (by decide), R7s G1, Option.bind_some, o_0 (A7s G1) hw.1 h1.1.1 hp, Option.bind_some])
theorem o_subject (x : Int32) : bothP A (fun M => m_X6_subject M 0 x) (fun M => m_X7_subject M 231 x) := by
  intro M G h
  have hn := h.1
  cases hr : rg x 0 ((aN A 0 1 : Int) - 1) with
  | false =>
    refine ⟨-1000001, ?_, fun M' G' h' => ?_⟩
    · show m_X6_subject M 0 x = _
      rw [m_X6_subject, if_pos (O6 G), m_noJ G hn, hr, Option.bind_some, if_neg (by decide)]
    · show opM (m_X7_subject M' 231 x) _ _ _
      rw [m_X7_subject]
      exact q_ G' h' (fun M1 G1 h1 => by rw [if_pos (O7 G1), m_isJ G1 h1.1, hr, Option.bind_some, if_pos (by decide)])
  | true =>
    obtain ⟨s, hs, rfl⟩ := rg_s hr
    have hw := vs_w hn.2 (j := 1) (by decide) (by omega)
    refine ⟨nI (aN A 1 s), ?_, fun M' G' h' => ?_⟩
    · show m_X6_subject M 0 (nI s) = _
      rw [m_X6_subject, if_pos (O6 G), m_noJ G hn, hr, Option.bind_some, if_pos (by decide), R6n G, Option.bind_some, r_1 (Sn G), Option.bind_some, a_1 (Sn G) hw.1 hn.1 hs, Option.bind_some]
    · show opM (m_X7_subject M' 231 (nI s)) _ _ _
      rw [m_X7_subject]
      exact q_ G' h' (fun M1 G1 h1 => by rw [if_pos (O7 G1), m_isJ G1 h1.1, hr, Option.bind_some, if_neg (by decide), R7s G1, Option.bind_some, l_nd (A7s G1) hw.1 h1.1.1 hs, Option.bind_some])
theorem o_heard (x z : Int32) : bothP A (fun M => m_X6_heard M 0 x z) (fun M => m_X7_heard M 231 x z) := by
  intro M G h
  have hn := h.1
  cases hr : rg x 0 ((aN A 0 3 : Int) - 1) with
  | false =>
    refine ⟨-1000001, ?_, fun M' G' h' => ?_⟩
    · show m_X6_heard M 0 x z = _
      rw [m_X6_heard, if_pos (O6 G), m_noP G hn, hr, Option.bind_some, if_neg (by decide)]
    · show opM (m_X7_heard M' 231 x z) _ _ _
      rw [m_X7_heard]
      exact q_ G' h' (fun M1 G1 h1 => by rw [if_pos (O7 G1), m_isP G1 h1.1, hr, Option.bind_some, if_pos (by decide)])
  | true =>
    cases hz : rg z 0 ((aN A 0 1 : Int) - 1) with
    | false =>
      refine ⟨-1000001, ?_, fun M' G' h' => ?_⟩
      · show m_X6_heard M 0 x z = _
        rw [m_X6_heard, if_pos (O6 G), m_noP G hn, hr, Option.bind_some, if_pos (by decide), if_pos (O6 G), m_noJ G hn, hz, Option.bind_some, if_neg (by decide)]
      · show opM (m_X7_heard M' 231 x z) _ _ _
        rw [m_X7_heard]
        exact q_ G' h' (fun M1 G1 h1 => by rw [if_pos (O7 G1), m_isP G1 h1.1, hr, Option.bind_some, if_neg (by decide), if_pos (O7 G1), m_isJ G1 h1.1, hz, Option.bind_some, if_pos (by decide)])
    | true =>
      obtain ⟨p, hp, rfl⟩ := rg_s hr
      obtain ⟨s, hs, rfl⟩ := rg_s hz
      have hw := vs_w hn.2 (j := 3) (by decide) (by omega)
      refine ⟨nI (aN A 6 (p * 6 + s)), ?_, fun M' G' h' => ?_⟩
      · show m_X6_heard M 0 (nI p) (nI s) = _
        rw [m_X6_heard, if_pos (O6 G), m_noP G hn, hr, Option.bind_some, if_pos (by decide), if_pos (O6 G), m_noJ G hn, hz, Option.bind_some, if_pos (by decide), R6n G, Option.bind_some, if_pos (Sn G).1, m_times (Sn G) hw.1 hn.1 hp hs, Option.bind_some]
      · show opM (m_X7_heard M' 231 (nI p) (nI s)) _ _ _
        rw [m_X7_heard]
        exact q_ G' h' (fun M1 G1 h1 => by rw [if_pos (O7 G1), m_isP G1 h1.1, hr, Option.bind_some, if_neg (by decide), if_pos (O7 G1), m_isJ G1 h1.1, hz, Option.bind_some, if_neg (by decide), R7s G1, Option.bind_some, o_3 (A7s G1) hw.1 h1.1.1 hp hs, Option.bind_some])
theorem o_lesson (x : Int32) : bothP A (fun M => m_X6_lesson M 0 x) (fun M => m_X7_lesson M 231 x) := by
  intro M G h
  have hn := h.1
  by_cases h0 : aN A 0 3 = 0
  · refine ⟨-1000002, ?_, fun M' G' h' => ?_⟩
    · show m_X6_lesson M 0 x = _
      rw [m_X6_lesson, if_pos (O6 G), m_noS G hn, Option.bind_some, if_neg (by simp [h0, b2])]
    · show opM (m_X7_lesson M' 231 x) _ _ _
      rw [m_X7_lesson]
      exact q_ G' h' (fun M1 G1 h1 => by rw [if_pos (O7 G1), m_isT G1 h1.1, Option.bind_some, if_pos (by simp [h0, b2])])
  · have hw := vs_w hn.2 (j := 3) (by decide) h0
    cases hr : rg x 0 60 with
    | false =>
      refine ⟨-1000001, ?_, fun M' G' h' => ?_⟩
      · show m_X6_lesson M 0 x = _
        rw [m_X6_lesson, if_pos (O6 G), m_noS G hn, Option.bind_some, if_pos (by simp [h0, b2]), m_out, Option.bind_some, if_neg (by rw [show rg x (Int32.toInt 0) (Int32.toInt 60) = false from hr]; decide)]
      · show opM (m_X7_lesson M' 231 x) _ _ _
        rw [m_X7_lesson]
        exact q_ G' h' (fun M1 G1 h1 => by rw [if_pos (O7 G1), m_isT G1 h1.1, Option.bind_some, if_neg (by simp [h0, b2]), m_in7, Option.bind_some, if_pos (by rw [show rg x (Int64.toInt 0) (Int64.toInt 60) = false from hr]; decide)])
    | true =>
      obtain ⟨n, hn6, rfl⟩ := rg_n (n := 60) hr
      refine ⟨nI (taught (aN A) (aN A 0 4 + n)), ?_, fun M' G' h' => ?_⟩
      · show m_X6_lesson M 0 (nI n) = _
        rw [m_X6_lesson, if_pos (O6 G), m_noS G hn, Option.bind_some, if_pos (by simp [h0, b2]), m_out, Option.bind_some, if_pos (by rw [show rg (nI n) (Int32.toInt 0) (Int32.toInt 60) = true from hr]; decide), R6n G, Option.bind_some, Option.bind_some, g_s (Sn G) hn.1 (j := 4) (by decide), Option.bind_some, if_pos (Sn G).1, nI_add, m_taught (Sn G) hw.1 hn.1 (by omega), Option.bind_some]
      · show opM (m_X7_lesson M' 231 (nI n)) _ _ _
        rw [m_X7_lesson]
        exact q_ G' h' (fun M1 G1 h1 => by rw [if_pos (O7 G1), m_isT G1 h1.1, Option.bind_some, if_neg (by simp [h0, b2]), m_in7, Option.bind_some, if_neg (by rw [show rg (nI n) (Int64.toInt 0) (Int64.toInt 60) = true from hr]; decide), R7s G1, Option.bind_some, Option.bind_some, l_Y (A7s G1) h1.1.1, Option.bind_some, nI_add, m_subj (A7s G1) hw.1 h1.1.1 (by omega), Option.bind_some])
theorem o_all (x : Int32) : bothP A (fun M => m_X6_all M 0 x) (fun M => m_X7_all M 231 x) := by
  intro M G h
  have hn := h.1
  by_cases h0 : aN A 0 3 = 0
  · refine ⟨-1000002, ?_, fun M' G' h' => ?_⟩
    · show m_X6_all M 0 x = _
      rw [m_X6_all, if_pos (O6 G), m_noS G hn, Option.bind_some, if_neg (by simp [h0, b2])]
    · show opM (m_X7_all M' 231 x) _ _ _
      rw [m_X7_all]
      exact q_ G' h' (fun M1 G1 h1 => by rw [if_pos (O7 G1), m_isT G1 h1.1, Option.bind_some, if_pos (by simp [h0, b2])])
  · have hw := vs_w hn.2 (j := 3) (by decide) h0
    cases hr : rg x 0 1 with
    | false =>
      refine ⟨-1000001, ?_, fun M' G' h' => ?_⟩
      · show m_X6_all M 0 x = _
        rw [m_X6_all, if_pos (O6 G), m_noS G hn, Option.bind_some, if_pos (by simp [h0, b2]), m_out, Option.bind_some, if_neg (by rw [show rg x (Int32.toInt 0) (Int32.toInt 1) = false from hr]; decide)]
      · show opM (m_X7_all M' 231 x) _ _ _
        rw [m_X7_all]
        exact q_ G' h' (fun M1 G1 h1 => by rw [if_pos (O7 G1), m_isT G1 h1.1, Option.bind_some, if_neg (by simp [h0, b2]), m_in7, Option.bind_some, if_pos (by rw [show rg x (Int64.toInt 0) (Int64.toInt 1) = false from hr]; decide)])
    | true =>
      by_cases hx : x = 0
      · refine ⟨nI (kall (aN A)), ?_, fun M' G' h' => ?_⟩
        · show m_X6_all M 0 x = _
          rw [m_X6_all, if_pos (O6 G), m_noS G hn, Option.bind_some, if_pos (by simp [h0, b2]), m_out, Option.bind_some, if_pos (by rw [show rg x (Int32.toInt 0) (Int32.toInt 1) = true from hr]; decide), if_pos hx, R6n G, Option.bind_some, if_pos (Sn G).1, m_kall (Sn G) hw.1 hn.1, Option.bind_some]
        · show opM (m_X7_all M' 231 x) _ _ _
          rw [m_X7_all]
          exact q_ G' h' (fun M1 G1 h1 => by rw [if_pos (O7 G1), m_isT G1 h1.1, Option.bind_some, if_neg (by simp [h0, b2]), m_in7, Option.bind_some, if_neg (by rw [show rg x (Int64.toInt 0) (Int64.toInt 1) = true from hr]; decide), R7s G1, Option.bind_some, if_pos hx, m_ka7 (A7s G1) hw.1 h1.1.1, Option.bind_some])
      · refine ⟨nI (kany (aN A)), ?_, fun M' G' h' => ?_⟩
        · show m_X6_all M 0 x = _
          rw [m_X6_all, if_pos (O6 G), m_noS G hn, Option.bind_some, if_pos (by simp [h0, b2]), m_out, Option.bind_some, if_pos (by rw [show rg x (Int32.toInt 0) (Int32.toInt 1) = true from hr]; decide), if_neg hx, R6n G, Option.bind_some, if_pos (Sn G).1, m_kany (Sn G) hw.1 hn.1, Option.bind_some]
        · show opM (m_X7_all M' 231 x) _ _ _
          rw [m_X7_all]
          exact q_ G' h' (fun M1 G1 h1 => by rw [if_pos (O7 G1), m_isT G1 h1.1, Option.bind_some, if_neg (by simp [h0, b2]), m_in7, Option.bind_some, if_neg (by rw [show rg x (Int64.toInt 0) (Int64.toInt 1) = true from hr]; decide), R7s G1, Option.bind_some, if_neg hx, m_ky7 (A7s G1) hw.1 h1.1.1, Option.bind_some])
theorem o_trace (x : Int32) : bothP A (fun M => m_X6_trace M 0 x) (fun M => m_X7_trace M 231 x) := by
  intro M G h
  have hb := h.2.2.2.2.2.2.1
  have hO : isO M 199 1 = true := G.o (by decide) (by decide +kernel)
  have hr2 : gR M 199 1 0 = some 200 := gR_ hO (G.r (by decide +kernel))
  have ha := G.a (k := 200) (n := 16) (by decide) (by decide +kernel)
  cases hr : rg x 0 (((aB A).2 : Int) - 1) with
  | false =>
    refine ⟨-1000000, ?_, fun M' G' h' => ?_⟩
    · show m_X6_trace M 0 x = _
      rw [m_X6_trace, R6k G, Option.bind_some, gI_ hO, Option.bind_some, hb.2.1, m_out, Option.bind_some, sb_t (by have := hb.1; omega), if_neg (by rw [show rg x (Int32.toInt 0) _ = false from hr]; decide)]
    · show opM (m_X7_trace M' 231 x) _ _ _
      rw [m_X7_trace]
      exact q_ G' h' (fun M1 G1 h1 => by
        have hb1 := h1.2.2.2.2.2.2.1
        rw [gI_ (O7 G1), Option.bind_some, hb1.2.1, m_in7, Option.bind_some, Int32.toInt_toInt64, sb_t (by have := hb1.1; omega), if_pos (by rw [show rg x (Int64.toInt 0) _ = false from hr]; decide)])
  | true =>
    obtain ⟨p, hp, rfl⟩ := rg_s hr
    have h16 := hb.1
    refine ⟨nI ((aB A).1 p), ?_, fun M' G' h' => ?_⟩
    · show m_X6_trace M 0 (nI p) = _
      rw [m_X6_trace, R6k G, Option.bind_some, gI_ hO, Option.bind_some, hb.2.1, m_out, Option.bind_some, sb_t (by omega), if_pos (by rw [show rg (nI p) (Int32.toInt 0) _ = true from hr]; decide), Option.bind_some, hr2, Option.bind_some, ld_ ha.1 ha.2 (by omega) (by decide), Option.bind_some, hb.2.2 p hp]
    · show opM (m_X7_trace M' 231 (nI p)) _ _ _
      rw [m_X7_trace]
      exact q_ G' h' (fun M1 G1 h1 => by
        have hb1 := h1.2.2.2.2.2.2.1
        have ha1 := G1.a (k := 245) (n := 16) (by decide) (by decide +kernel)
        rw [gI_ (O7 G1), Option.bind_some, hb1.2.1, m_in7, Option.bind_some, Int32.toInt_toInt64, sb_t (by omega), if_neg (by rw [show rg (nI p) (Int64.toInt 0) _ = true from hr]; decide), gR_ (O7 G1) (G1.r (b := 245) (by decide +kernel)), Option.bind_some, ld_ ha1.1 ha1.2 (by omega) (by decide), Option.bind_some, hb1.2.2 p hp])
end O1
