/-! ===== who, what ===== -/
section OD
theorem m_many (M : mM) (x n : Int32) : m_X7_isMany M x n = some (b2 (rg x 0 7 && rg n 1 12)) := by
  rw [m_X7_isMany, m_isR, Option.bind_some, n_in (b := rg n 1 12) rfl, Option.bind_some]
  cases rg x 0 7 <;> cases rg n 1 12 <;> rfl
theorem m_rf {M : mM} {rl rs : Nat → Nat} {ri : Nat → Nat → Int32} (G : GS M) (h : Dr M rl rs ri) {k : Nat} (hk : k < 8) (i n : Int32) (hn : 0 ≤ n.toInt) : m_X7_rowFound M 231 (nI k) i n = some (wI M 231 1 (nI (wpq rl rs k i n)), if wpq rl rs k i n = 0 then 0 else -1000010 - nI (wpq rl rs k i n)) := by
  unfold wpq
  have hd := h k hk
  rw [m_X7_rowFound, R7l G, Option.bind_some, ld_ (A7l G).1 (A7l G).2 hk (by decide), Option.bind_some, hd.1, R7m G, Option.bind_some, ld_ (A7m G).1 (A7m G).2 hk (by decide), Option.bind_some]
  have fd : ∀ z : Nat, (if isO M 231 7 = true then bd2 (m_X7_finding M 231 (nI z)) (fun a b => some (a, b)) else none) = some (wI M 231 1 (nI z), -1000010 - nI z) := by
    intro z
    rw [if_pos (O7 G), m_X7_finding, pI_ (O7 G), Option.bind_some, bd2_s]
  by_cases h0 : rl k = 0
  · rw [if_pos h0, if_neg (by decide), if_pos h0, if_neg (show ¬ (1 = 0) by decide)]
    exact fd 1
  · have hz := hd.2 h0
    rw [if_neg h0, if_pos (nI_pos' (by omega)), if_neg h0, hz.2.2.1]
    by_cases hi : i < 0
    · have hq : hasq i n (rs k) = false := by
        unfold hasq
        rw [decide_eq_false_iff_not]
        have := lt0.mp hi
        omega
      rw [if_pos hi, hq, if_neg (show ¬ false = true by decide), if_neg (show ¬ (2 = 0) by decide)]
      exact fd 2
    · rw [if_neg hi]
      have hi0 : 0 ≤ i.toInt := by
        have : ¬ i.toInt < 0 := fun q => hi (lt0.mpr q)
        omega
      cases hq : hasq i n (rs k) with
      | true =>
        have c2 : lg_cmp (Int32.toInt64 i + Int32.toInt64 n) (Int32.toInt64 (nI (rs k))) ≤ (0 : Int32) := by
          rw [lc_le, Int64.lt_iff_toInt_lt, l64a, Int32.toInt_toInt64, nI_toInt (by omega)]
          unfold hasq at hq
          rw [decide_eq_true_iff] at hq
          omega
        rw [if_pos c2, pI_ (O7 G), Option.bind_some, if_pos rfl, if_pos rfl]
        rfl
      | false =>
        have c2 : ¬ lg_cmp (Int32.toInt64 i + Int32.toInt64 n) (Int32.toInt64 (nI (rs k))) ≤ (0 : Int32) := by
          rw [lc_le, Int64.lt_iff_toInt_lt, l64a, Int32.toInt_toInt64, nI_toInt (by omega)]
          unfold hasq at hq
          rw [decide_eq_false_iff_not] at hq
          omega
        rw [if_neg c2, if_neg (show ¬ false = true by decide), if_neg (show ¬ (2 = 0) by decide)]
        exact fd 2
theorem wpq_c {rl rs : Nat → Nat} {k : Nat} {i n : Int32} : wpq rl rs k i n = 0 ∨ wpq rl rs k i n = 1 ∨ wpq rl rs k i n = 2 := by
  unfold wpq
  split
  · exact Or.inr (Or.inl rfl)
  · split
    · exact Or.inl rfl
    · exact Or.inr (Or.inr rfl)
theorem wpq_0 {rl rs : Nat → Nat} {k : Nat} {i n : Int32} (h : wpq rl rs k i n = 0) : rl k ≠ 0 ∧ hasq i n (rs k) = true := by
  unfold wpq at h
  by_cases h0 : rl k = 0
  · rw [if_pos h0] at h; omega
  · rw [if_neg h0] at h
    refine ⟨h0, ?_⟩
    cases hq : hasq i n (rs k)
    · rw [hq] at h; exact absurd h (by decide)
    · rfl
theorem m_bel {M : mM} {A : aS} (G : GS M) (h : CX A M) {r j m : Nat} (hr : r < 8) (h0 : (aR A).1 r ≠ 0) (hjm : j + m ≤ (aR A).2.1 r) : ∃ N, m_X2_believe M 189 (201 + 2 * r) (nI j) (nI m) = some N ∧ WY M N ∧ HX N r j m ((aR A).2.1 r) (fun k => (aR A).2.2 r (j + k)) (aN A) := by
  have hz := (h.2.2.2.1 r hr).2 h0
  have G1 : GS (wR M 189 6 (201 + 2 * r)) := GS_r G (Or.inl rfl)
  have ov : ∀ b, b ≠ 189 → mi_ (wI (wI (wR M 189 6 (201 + 2 * r)) 189 7 (nI j)) 189 2 (nI m)) b = mi_ M b := fun b hb => by rw [wI_o hb, wI_o hb]; rfl
  refine ⟨wI (wI (wR M 189 6 (201 + 2 * r)) 189 7 (nI j)) 189 2 (nI m), ?_, ⟨GS_w (GS_w G1), fun b hb => ov b (by omega)⟩, GS_w (GS_w G1), ⟨?_, by rw [wI_s, if_neg (by decide), wI_s, if_pos rfl], by rw [wI_s, if_pos rfl]⟩, ?_, fun k hk => ?_, h.1.1.o (fun a ha => ov _ (by omega))⟩
  · rw [m_X2_believe, pR_ (FO G), Option.bind_some, pI_ (FO G1), Option.bind_some, pI_ (FO (GS_w G1)), Option.bind_some]
  · show up2 (mr_ M) 189 6 (some (201 + 2 * r)) 189 6 = _
    simp [up2]
  · rw [ov _ (by omega)]
    exact hz.2.2.2.1
  · rw [ov _ (by omega)]
    exact hz.2.2.2.2 _ (by omega)
variable (A : aS)
theorem o_who (x y z u v : Int32) : both A (fun M => m_X6_who M 0 x y z u v) (fun M => m_X7_who M 231 x y z u v) := by
  intro M G h
  have hn := h.1
  cases hr : rg x 0 ((aN A 0 3 : Int) - 1) with
  | false =>
    refine ⟨A, -1000001, ?_, fun M' G' h' => ?_⟩
    · show opX (m_X6_who M 0 x y z u v) _ _ _
      rw [m_X6_who, if_pos (O6 G), m_noP G hn, hr, Option.bind_some, if_neg (by decide)]
      exact px0 G h
    · show opM (m_X7_who M' 231 x y z u v) _ _ _
      rw [m_X7_who]
      refine q2 G' h' (fun M1 G1 h1 => ?_)
      rw [if_pos (O7 G1), m_isP G1 h1.1, hr, Option.bind_some, if_pos (by decide)]
      exact pm0 G1 h1
  | true =>
  cases hy : rg y 0 1 with
  | false =>
    refine ⟨A, -1000001, ?_, fun M' G' h' => ?_⟩
    · show opX (m_X6_who M 0 x y z u v) _ _ _
      rw [m_X6_who, if_pos (O6 G), m_noP G hn, hr, Option.bind_some, if_pos (by decide), n_out (b := false) hy, Option.bind_some, if_neg (by decide)]
      exact px0 G h
    · show opM (m_X7_who M' 231 x y z u v) _ _ _
      rw [m_X7_who]
      refine q2 G' h' (fun M1 G1 h1 => ?_)
      rw [if_pos (O7 G1), m_isP G1 h1.1, hr, Option.bind_some, if_neg (by decide), n_in (b := false) hy, Option.bind_some, if_pos (by decide)]
      exact pm0 G1 h1
  | true =>
  cases hm : (rg z 0 7 && rg v 1 12) with
  | false =>
    refine ⟨A, -1000001, ?_, fun M' G' h' => ?_⟩
    · show opX (m_X6_who M 0 x y z u v) _ _ _
      rw [m_X6_who, if_pos (O6 G), m_noP G hn, hr, Option.bind_some, if_pos (by decide), n_out (b := true) hy, Option.bind_some, if_pos (by decide), m_noR, Option.bind_some]
      cases hz : rg z 0 7 with
      | false =>
        rw [if_neg (by decide)]
        exact px0 G h
      | true =>
        rw [hz, Bool.true_and] at hm
        rw [if_pos (by decide), n_out (b := false) hm, Option.bind_some, if_neg (by decide)]
        exact px0 G h
    · show opM (m_X7_who M' 231 x y z u v) _ _ _
      rw [m_X7_who]
      refine q2 G' h' (fun M1 G1 h1 => ?_)
      rw [if_pos (O7 G1), m_isP G1 h1.1, hr, Option.bind_some, if_neg (by decide), n_in (b := true) hy, Option.bind_some, if_neg (by decide), m_many, hm, Option.bind_some, if_pos (by decide)]
      exact pm0 G1 h1
  | true =>
  have hm' := hm
  rw [Bool.and_eq_true] at hm'
  obtain ⟨hz, hv⟩ := hm'
  obtain ⟨p, hp, rfl⟩ := rg_s hr
  obtain ⟨k, hk, rfl⟩ := rg_n (n := 7) hz
  have hk8 : k < 8 := by omega
  have hv0 : 1 ≤ v.toInt ∧ v.toInt ≤ 12 := by
    simp only [rg, Bool.and_eq_true, decide_eq_true_eq] at hv
    exact hv
  obtain ⟨w, i7, hd⟩ := vs_w hn.2 (j := 3) (by decide) (by omega)
  have wp := m_wp G h.2.2.2.1 hk8 u v
  have X0 : m_X6_who M 0 (nI p) y (nI k) u v = (if nI (wpq (aR A).1 (aR A).2.1 k u v) = (0 : Int32) then ((m_X2_believe M 189 (201 + 2 * k) u v).bind fun M23 =>
            if y = (0 : Int32) then (
              (gR M23 0 6 5).bind fun b37 =>
              (gR M23 0 6 1).bind fun b39 =>
              if isO M23 b37 2 = true then
              bd2 (m_X2_kindsThatFit M23 b37 b39 (nI p)) fun M42 v43 =>
              if isO M42 0 6 = true then
              bd2 (m_X6_fine M42 0 v43) fun M45 v46 =>
              some (M45, v46)
              else none
              else none
            ) else (
              (gR M23 0 6 5).bind fun b25 =>
              (gR M23 0 6 1).bind fun b27 =>
              if isO M23 b25 2 = true then
              bd2 (m_X2_seatsThatFit M23 b25 b27 (nI p)) fun M30 v31 =>
              if isO M30 0 6 = true then
              bd2 (m_X6_fine M30 0 v31) fun M33 v34 =>
              some (M33, v34)
              else none
              else none
            )) else (if isO M 0 6 = true then bd2 (m_X6_found M 0 (nI (wpq (aR A).1 (aR A).2.1 k u v))) fun M51 v52 => some (M51, v52) else none)) := by
    rw [m_X6_who, if_pos (O6 G), m_noP G hn, hr, Option.bind_some, if_pos (by decide), n_out (b := true) hy, Option.bind_some, if_pos (by decide), m_noR, hz, Option.bind_some, if_pos (by decide), n_out (b := true) hv, Option.bind_some, if_pos (by decide), if_pos (O6 G), wp, Option.bind_some, R6f G, Option.bind_some, R6w G, Option.bind_some, rowR G hk8, Option.bind_some, if_pos (FO G)]
  have M0' : ∀ M1, GS M1 → CM A M1 → (if isO M1 231 7 = true then (m_X7_isPupil M1 231 (nI p)).bind fun v4 => if v4 = (0 : Int32) then some (M1, (-1000001 : Int32)) else (m_X7_in M1 (Int32.toInt64 y) (0 : Int64) (1 : Int64)).bind fun v7 => if v7 = (0 : Int32) then some (M1, (-1000001 : Int32)) else (m_X7_isMany M1 (nI k) v).bind fun v10 => if v10 = (0 : Int32) then some (M1, (-1000001 : Int32)) else if isO M1 231 7 = true then bd2 (m_X7_rowFound M1 231 (nI k) u v) fun M13 v14 => if v14 = (0 : Int32) then (if y = (0 : Int32) then m_X7_who_L68 (fun M78 v79 => some (M78, v79)) 231 (nI p) y (nI k) u v FU M13 (0 : Int32) (1 : Int32) else m_X7_who_L68 (fun M76 v77 => some (M76, v77)) 231 (nI p) y (nI k) u v FU M13 (0 : Int32) (0 : Int32)) else some (M13, v14) else none else none) = bd2 (m_X7_rowFound M1 231 (nI k) u v) fun M13 v14 => if v14 = (0 : Int32) then (if y = (0 : Int32) then m_X7_who_L68 (fun M78 v79 => some (M78, v79)) 231 (nI p) y (nI k) u v FU M13 (0 : Int32) (1 : Int32) else m_X7_who_L68 (fun M76 v77 => some (M76, v77)) 231 (nI p) y (nI k) u v FU M13 (0 : Int32) (0 : Int32)) else some (M13, v14) := by
    intro M1 G1 h1
    rw [if_pos (O7 G1), m_isP G1 h1.1, hr, Option.bind_some, if_neg (by decide), n_in (b := true) hy, Option.bind_some, if_neg (by decide), m_many, hm, Option.bind_some, if_neg (by decide), if_pos (O7 G1)]
  by_cases hw0 : wpq (aR A).1 (aR A).2.1 k u v = 0
  · obtain ⟨h0, hq⟩ := wpq_0 hw0
    have hz' := (h.2.2.2.1 k hk8).2 h0
    obtain ⟨j, m, rfl, rfl, hjm⟩ := hasq_n hz'.2.1 hq
    have hm12 : m ≤ 12 := by
      rw [nI_toInt (by omega)] at hv0
      omega
    obtain ⟨N, n1, n2, n3⟩ := m_bel G h hk8 h0 hjm
    rcases (show y = 0 ∨ y = 1 by
      obtain ⟨q, hq, rfl⟩ := rg_n (n := 1) hy
      rcases (show q = 0 ∨ q = 1 by omega) with rfl | rfl
      · exact Or.inl rfl
      · exact Or.inr rfl) with rfl | rfl
    · refine ⟨sU A 0, nI (fs_ p (fun i => (aR A).2.2 k (j + i)) m (fun q => up2 (aN A) 3 p q) 1 5 0), ?_, fun M' G' h' => ?_⟩
      · show opX (m_X6_who M 0 (nI p) 0 (nI k) (nI j) (nI m)) _ _ _
        obtain ⟨K, k1, k2⟩ := m_kiX (p := p) w hp (by omega) hk8 hz'.2.1 hjm (fun M17 v18 => some (M17, v18)) 5 1 FU N 0 n3 (by decide) (by decide) (by decide) (by decide)
        have WK : WY M K := WY_t n2 (WY_f n2.1 k2)
        rw [X0, hw0, if_pos (by decide), n1, Option.bind_some, if_pos rfl, R6f n2.1, Option.bind_some, R6n n2.1, Option.bind_some, if_pos (FO n2.1), m_X2_kindsThatFit, show m_X2_kindsThatFit_L5 _ 189 2 (nI p) FU N (0 : Int32) (1 : Int32) = _ from k1, bd2_s]
        exact opX_t WK.h (fin6 WK.1 (WK.cx h) _)
      · show opM (m_X7_who M' 231 (nI p) 0 (nI k) (nI j) (nI m)) _ _ _
        rw [m_X7_who]
        refine q2 G' h' (fun M1 G1 h1 => ?_)
        rw [M0' M1 G1 h1, m_rf G1 h1.2.2.2.1 hk8 _ _ (by omega), hw0, bd2_s, if_pos rfl, if_pos rfl, if_pos rfl]
        have C2 := CMu h1 0
        have hd2 := (CMrU C2 k hk8).2 h0
        obtain ⟨K, k1, k2⟩ := m_kiM (p := p) (r := k) (j := j) (it := fun i => (aR A).2.2 k (j + i)) w i7 hp (show aN A 0 4 + m ≤ 2000 by omega) (by omega) (by omega) (fun M78 v79 => some (M78, v79)) 5 1 FU (wI M1 231 1 (nI 0)) 0 ⟨GS_w G1, fun i hi => by rw [Nat.add_assoc]; exact hd2.2.2.2 _ (by omega), C2.1.1⟩ (by decide) (by decide) (by decide) (by decide)
        rw [show m_X7_who_L68 _ 231 (nI p) (0 : Int32) (nI k) (nI j) (nI m) FU (wI M1 231 1 (nI 0)) (0 : Int32) (1 : Int32) = _ from k1]
        exact opM_t (lo_w (by decide)) (pmW k2 C2)
    · refine ⟨sU A 0, nI (fs_ p (fun i => (aR A).2.2 k (j + i)) m (fun q => chg (aN A) p (aN A 5 q)) 0 (aN A 0 3) 0), ?_, fun M' G' h' => ?_⟩
      · show opX (m_X6_who M 0 (nI p) 1 (nI k) (nI j) (nI m)) _ _ _
        obtain ⟨K, k1, k2⟩ := m_seX (p := p) w i7 hp (by omega) hk8 hz'.2.1 hjm (fun M17 v18 => some (M17, v18)) (aN A 0 3) 0 FU N 0 n3 (by decide) (by omega) (by have := w.2.2.2.1.2; unfold FU; omega)
        have WK : WY M K := WY_t n2 (WY_f n2.1 k2)
        rw [X0, hw0, if_pos (by decide), n1, Option.bind_some, if_neg (by decide), R6f n2.1, Option.bind_some, R6n n2.1, Option.bind_some, if_pos (FO n2.1), m_X2_seatsThatFit, show m_X2_seatsThatFit_L5 _ 189 2 (nI p) FU N (0 : Int32) (0 : Int32) = _ from k1, bd2_s]
        exact opX_t WK.h (fin6 WK.1 (WK.cx h) _)
      · show opM (m_X7_who M' 231 (nI p) 1 (nI k) (nI j) (nI m)) _ _ _
        rw [m_X7_who]
        refine q2 G' h' (fun M1 G1 h1 => ?_)
        rw [M0' M1 G1 h1, m_rf G1 h1.2.2.2.1 hk8 _ _ (by omega), hw0, bd2_s, if_pos rfl, if_pos rfl, if_neg (by decide)]
        have C2 := CMu h1 0
        have hd2 := (CMrU C2 k hk8).2 h0
        obtain ⟨K, k1, k2⟩ := m_seM (p := p) (r := k) (j := j) (it := fun i => (aR A).2.2 k (j + i)) w i7 hp (show aN A 0 4 + m ≤ 2000 by omega) (by omega) (by omega) (fun M78 v79 => some (M78, v79)) (aN A 0 3) 0 FU (wI M1 231 1 (nI 0)) 0 ⟨GS_w G1, fun i hi => by rw [Nat.add_assoc]; exact hd2.2.2.2 _ (by omega), C2.1.1⟩ (by decide) (by omega) (by have := w.2.2.2.1.2; unfold FU; omega)
        rw [show m_X7_who_L68 _ 231 (nI p) (1 : Int32) (nI k) (nI j) (nI m) FU (wI M1 231 1 (nI 0)) (0 : Int32) (0 : Int32) = _ from k1]
        exact opM_t (lo_w (by decide)) (pmW k2 C2)
  · refine ⟨sU A (wpq (aR A).1 (aR A).2.1 k u v), -1000010 - nI (wpq (aR A).1 (aR A).2.1 k u v), ?_, fun M' G' h' => ?_⟩
    · show opX (m_X6_who M 0 (nI p) y (nI k) u v) _ _ _
      rw [X0, if_neg (by rcases wpq_c (rl := (aR A).1) (rs := (aR A).2.1) (k := k) (i := u) (n := v) with e | e | e; exact absurd e hw0; rw [e]; decide; rw [e]; decide)]
      exact fnd6 G h _
    · show opM (m_X7_who M' 231 (nI p) y (nI k) u v) _ _ _
      rw [m_X7_who]
      refine q2 G' h' (fun M1 G1 h1 => ?_)
      rw [M0' M1 G1 h1, m_rf G1 h1.2.2.2.1 hk8 _ _ (by omega), bd2_s, if_neg hw0, if_neg (by rcases wpq_c (rl := (aR A).1) (rs := (aR A).2.1) (k := k) (i := u) (n := v) with e | e | e; exact absurd e hw0; rw [e]; decide; rw [e]; decide)]
      exact pm (GS_w G1) (CMu h1 _) (lo_w (by decide))
end OD
