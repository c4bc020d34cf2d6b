/-! ===== thought ===== -/
section OG
variable (A : aS)
theorem o_thought (x y z u v : Int32) : bothL A (fun M => m_X6_thought M 0 x y z u v) (fun M => m_X7_thought M 231 x y z u v) := by
  intro M G h
  have hn := h.1
  cases hr : rg x 0 ((aN A 0 3 : Int) - 1) with
  | false =>
    refine ⟨A, -1000001, ?_, fun M' G' h' => ?_⟩
    · show opXL (m_X6_thought M 0 x y z u v) _ _ _
      rw [m_X6_thought, if_pos (O6 G), m_noP G hn, hr, Option.bind_some, if_neg (by decide)]
      exact px0L G h
    · show opML (m_X7_thought M' 231 x y z u v) _ _ _
      rw [m_X7_thought]
      refine q2L G' h' (fun M1 G1 h1 => ?_)
      rw [if_pos (O7 G1), m_isP G1 h1.1, hr, Option.bind_some, if_pos (by decide)]
      exact pm0L G1 h1
  | true =>
  cases hy : rg y 0 ((aN A 0 1 : Int) - 1) with
  | false =>
    refine ⟨A, -1000001, ?_, fun M' G' h' => ?_⟩
    · show opXL (m_X6_thought M 0 x y z u v) _ _ _
      rw [m_X6_thought, if_pos (O6 G), m_noP G hn, hr, Option.bind_some, if_pos (by decide), if_pos (O6 G), m_noJ G hn, hy, Option.bind_some, if_neg (by decide)]
      exact px0L G h
    · show opML (m_X7_thought M' 231 x y z u v) _ _ _
      rw [m_X7_thought]
      refine q2L G' h' (fun M1 G1 h1 => ?_)
      rw [if_pos (O7 G1), m_isP G1 h1.1, hr, Option.bind_some, if_neg (by decide), if_pos (O7 G1), m_isJ G1 h1.1, hy, Option.bind_some, if_pos (by decide)]
      exact pm0L G1 h1
  | true =>
  cases hz : rg z 0 8 with
  | false =>
    refine ⟨A, -1000001, ?_, fun M' G' h' => ?_⟩
    · show opXL (m_X6_thought M 0 x y z u v) _ _ _
      rw [m_X6_thought, if_pos (O6 G), m_noP G hn, hr, Option.bind_some, if_pos (by decide), if_pos (O6 G), m_noJ G hn, hy, Option.bind_some, if_pos (by decide), n_out (b := false) hz, Option.bind_some, if_neg (by decide)]
      exact px0L G h
    · show opML (m_X7_thought M' 231 x y z u v) _ _ _
      rw [m_X7_thought]
      refine q2L G' h' (fun M1 G1 h1 => ?_)
      rw [if_pos (O7 G1), m_isP G1 h1.1, hr, Option.bind_some, if_neg (by decide), if_pos (O7 G1), m_isJ G1 h1.1, hy, Option.bind_some, if_neg (by decide), n_in (b := false) hz, Option.bind_some, if_pos (by decide)]
      exact pm0L G1 h1
  | true =>
  cases hu : rg u 0 10 with
  | false =>
    refine ⟨A, -1000001, ?_, fun M' G' h' => ?_⟩
    · show opXL (m_X6_thought M 0 x y z u v) _ _ _
      rw [m_X6_thought, if_pos (O6 G), m_noP G hn, hr, Option.bind_some, if_pos (by decide), if_pos (O6 G), m_noJ G hn, hy, Option.bind_some, if_pos (by decide), n_out (b := true) hz, Option.bind_some, if_pos (by decide), n_out (b := false) hu, Option.bind_some, if_neg (by decide)]
      exact px0L G h
    · show opML (m_X7_thought M' 231 x y z u v) _ _ _
      rw [m_X7_thought]
      refine q2L G' h' (fun M1 G1 h1 => ?_)
      rw [if_pos (O7 G1), m_isP G1 h1.1, hr, Option.bind_some, if_neg (by decide), if_pos (O7 G1), m_isJ G1 h1.1, hy, Option.bind_some, if_neg (by decide), n_in (b := true) hz, Option.bind_some, if_neg (by decide), n_in (b := false) hu, Option.bind_some, if_pos (by decide)]
      exact pm0L G1 h1
  | true =>
  cases hv : rg v 0 1 with
  | false =>
    refine ⟨A, -1000001, ?_, fun M' G' h' => ?_⟩
    · show opXL (m_X6_thought M 0 x y z u v) _ _ _
      rw [m_X6_thought, if_pos (O6 G), m_noP G hn, hr, Option.bind_some, if_pos (by decide), if_pos (O6 G), m_noJ G hn, hy, Option.bind_some, if_pos (by decide), n_out (b := true) hz, Option.bind_some, if_pos (by decide), n_out (b := true) hu, Option.bind_some, if_pos (by decide), n_out (b := false) hv, Option.bind_some, if_neg (by decide)]
      exact px0L G h
    · show opML (m_X7_thought M' 231 x y z u v) _ _ _
      rw [m_X7_thought]
      refine q2L G' h' (fun M1 G1 h1 => ?_)
      rw [if_pos (O7 G1), m_isP G1 h1.1, hr, Option.bind_some, if_neg (by decide), if_pos (O7 G1), m_isJ G1 h1.1, hy, Option.bind_some, if_neg (by decide), n_in (b := true) hz, Option.bind_some, if_neg (by decide), n_in (b := true) hu, Option.bind_some, if_neg (by decide), n_in (b := false) hv, Option.bind_some, if_pos (by decide)]
      exact pm0L G1 h1
  | true =>
  obtain ⟨p, hp, rfl⟩ := rg_s hr
  obtain ⟨s, hs, rfl⟩ := rg_s hy
  obtain ⟨m, hm, rfl⟩ := rg_n (n := 8) hz
  obtain ⟨q, hq, rfl⟩ := rg_n (n := 10) hu
  obtain ⟨w, i7, hd⟩ := vs_w hn.2 (j := 3) (by decide) (by omega)
  have hpm : 2 ^ m ≤ 256 := Nat.pow_le_pow_right (n := 2) (by decide) (show m ≤ 8 from hm)
  have es := f_sm q (by omega) m (by omega)
  have h10 : 10 ^ m ≤ 100000000 := Nat.pow_le_pow_right (n := 10) (by decide) (show m ≤ 8 from hm)
  have h10p : 0 < 10 ^ m := Nat.pow_pos (by decide)
  have hca : ca_ (aN A) p s m q 0 (2 ^ m) 0 ≤ 10 ^ m := by rw [← es]; exact ca_le _ _ _ _ (Nat.le_refl _)
  generalize hca' : ca_ (aN A) p s m q 0 (2 ^ m) 0 = a at hca
  have ht : tm_ 54 a (10 ^ m) := tm_2 27 a (10 ^ m) (by omega)
  have hg := eu_pos 54 a (10 ^ m) ht (by omega)
  have hgl := eu_le 54 a (10 ^ m) 100000000 (by omega) h10
  have hg0 : ¬ lN (eu_ 54 a (10 ^ m)) = (0 : Int64) := l0_ (by omega) (by omega)
  refine ⟨A, if v = 0 then lN a / lN (eu_ 54 a (10 ^ m)) else lN (10 ^ m) / lN (eu_ 54 a (10 ^ m)), ?_, fun M' G' h' => ?_⟩
  · show opXL (m_X6_thought M 0 (nI p) (nI s) (nI m) (nI q) v) _ _ _
    obtain ⟨N, n1, n2⟩ := m_caX w i7 hm hq (by omega) hp hs (fun M14 v15 => some (M14, v15)) (2 ^ m) 0 FU M 0 G hn.1 (by omega) (by unfold FU; omega)
    rw [hca'] at n1
    have e : m_X2_casesKnown M 189 2 (nI p) (nI s) (nI m) (nI q) = some (N, lN a) := n1
    have eg : m_X6_commonDivisor N (lN a) (lN (10 ^ m)) = some (lN (eu_ 54 a (10 ^ m))) := m_cdX (fun v4 => some v4) 54 0 FU a (10 ^ m) ht (by omega) (by omega) (by decide) (by decide)
    have g1 : (0 : Int32) ≤ lg_cmp (lN (eu_ 54 a (10 ^ m))) (1 : Int64) := by
      rw [← Int32.not_lt, lc_lt]
      exact fun z => absurd ((pk_lLT (b := 1) (by omega) (by decide)).mp z) (by omega)
    rw [m_X6_thought, if_pos (O6 G), m_noP G hn, hr, Option.bind_some, if_pos (by decide), if_pos (O6 G), m_noJ G hn, hy, Option.bind_some, if_pos (by decide), n_out (b := true) hz, Option.bind_some, if_pos (by decide), n_out (b := true) hu, Option.bind_some, if_pos (by decide), n_out (b := true) hv, Option.bind_some, if_pos (by decide), R6f G, Option.bind_some, R6n G, Option.bind_some, if_pos (FO G), e, bd2_s, show m_X6_power N (10 : Int64) (nI m) = _ from m_pow (b := 10) hm, Option.bind_some, eg, Option.bind_some, if_pos g1, if_neg hg0, if_neg hg0]
    by_cases hv0 : v = 0
    · rw [if_pos hv0, if_pos hv0]
      exact pxWL n2 h
    · rw [if_neg hv0, if_neg hv0]
      exact pxWL n2 h
  · show opML (m_X7_thought M' 231 (nI p) (nI s) (nI m) (nI q) v) _ _ _
    rw [m_X7_thought]
    refine q2L G' h' (fun M1 G1 h1 => ?_)
    obtain ⟨N, n1, n2⟩ := m_caM w i7 hm hq (by omega) hp hs v (fun M31 v32 v33 => m_X7_thought_L199 (fun v36 => if v = (0 : Int32) then (if v36 = (0 : Int64) then none else some (M31, (v32 / v36))) else (if v36 = (0 : Int64) then none else some (M31, (v33 / v36)))) M31 v v32 v33 FU v32 v33) (2 ^ m) 0 FU M1 0 0 G1 h1.1.1 (by omega) (by unfold FU; omega)
    rw [hca', es] at n1
    have eg := m_cdM (M := N) v (lN a) (lN (10 ^ m)) (fun v36 => if v = (0 : Int32) then (if v36 = (0 : Int64) then none else some (N, (lN a / v36))) else (if v36 = (0 : Int64) then none else some (N, (lN (10 ^ m) / v36)))) 54 FU a (10 ^ m) ht (by omega) (by omega) (by decide)
    rw [if_pos (O7 G1), m_isP G1 h1.1, hr, Option.bind_some, if_neg (by decide), if_pos (O7 G1), m_isJ G1 h1.1, hy, Option.bind_some, if_neg (by decide), n_in (b := true) hz, Option.bind_some, if_neg (by decide), n_in (b := true) hu, Option.bind_some, if_neg (by decide), n_in (b := true) hv, Option.bind_some, if_neg (by decide), show m_X7_thought_L70 _ 231 (nI p) (nI s) (nI m) (nI q) v FU M1 (0 : Int64) (0 : Int64) (0 : Int32) = _ from n1]
    rw [eg, if_neg hg0, if_neg hg0]
    by_cases hv0 : v = 0
    · rw [if_pos hv0, if_pos hv0]
      exact pmWL n2 h1
    · rw [if_neg hv0, if_neg hv0]
      exact pmWL n2 h1
end OG
