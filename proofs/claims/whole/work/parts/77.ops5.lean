/-! ===== set, drop, copy, feed ===== -/
theorem l64a (i n : Int32) : (Int32.toInt64 i + Int32.toInt64 n).toInt = i.toInt + n.toInt := by
  rw [Int64.toInt_add, Int32.toInt_toInt64, Int32.toInt_toInt64]
  have h1 := Int32.le_toInt i
  have h2 := Int32.toInt_lt i
  have h3 := Int32.le_toInt n
  have h4 := Int32.toInt_lt n
  exact Int.bmod_eq_of_le (by omega) (by omega)
theorem lc_le {x y : Int64} : lg_cmp x y ≤ 0 ↔ ¬ y < x := by
  rw [← lc_gt]
  exact Int32.not_lt.symm
theorem hasq_1 {i : Int32} {sz : Nat} : hasq i 1 sz = rg i 0 ((sz : Int) - 1) := by
  unfold hasq rg
  rw [show (1 : Int32).toInt = 1 from by decide]
  rw [← Bool.decide_and]
  apply decide_eq_decide.mpr
  omega
def lv (l : Nat) (v : Int32) : Int32 := if l = 1 then i8_ v else if l = 2 then i16_ v else v
/-- an item set -/
def se_ (x : (Nat → Nat) × (Nat → Nat) × (Nat → Nat → Int32)) (k a : Nat) (v : Int32) : (Nat → Nat) × (Nat → Nat) × (Nat → Nat → Int32) := (x.1, x.2.1, up1 x.2.2 k (up1 (x.2.2 k) a v))
theorem CMrU {M : mM} {A : aS} {u : Nat} (h : CM (sU A u) M) : Dr M (aR A).1 (aR A).2.1 (aR A).2.2 := h.2.2.2.1
section O7
variable (A : aS)
theorem CXse {M : mM} {A : aS} (h : CX A M) {k a : Nat} (hk : k < 8) (v : Int32) : CX (sR A (se_ (aR A) k a v)) (wI M (202 + 2 * k) a v) := by
  refine CXr h (fun q _ hq => wI_o (by omega)) (fun r hr8 => ?_)
  have hd := h.2.2.2.1 r hr8
  rw [wI_o (show 201 + 2 * r ≠ 202 + 2 * k by omega)]
  refine ⟨hd.1, fun hz => ⟨(hd.2 hz).1, (hd.2 hz).2.1, (hd.2 hz).2.2.1, (hd.2 hz).2.2.2.1, fun i hi => ?_⟩⟩
  show _ = up1 (aR A).2.2 k (up1 ((aR A).2.2 k) a v) r i
  by_cases hrk : r = k
  · subst hrk
    rw [up1_s, wI_s]
    by_cases hia : i = a
    · rw [if_pos hia, hia, up1_s]
    · rw [if_neg hia, up1_o hia]
      exact (hd.2 hz).2.2.2.2 i hi
  · rw [up1_o hrk, wI_o (by omega)]
    exact (hd.2 hz).2.2.2.2 i hi
theorem CMse {M : mM} {A : aS} (h : CM A M) {k a : Nat} (hk : k < 8) (ha : a < 40) (v : Int32) : CM (sR A (se_ (aR A) k a v)) (wI M 234 (40 * k + a) v) := by
  refine CMr h (fun q _ q1 q2 q3 => wI_o q3) (fun r hr8 => ?_)
  have hd := h.2.2.2.1 r hr8
  rw [wI_o (show 232 ≠ 234 by decide), wI_o (show 233 ≠ 234 by decide)]
  refine ⟨hd.1, fun hz => ⟨(hd.2 hz).1, (hd.2 hz).2.1, (hd.2 hz).2.2.1, fun i hi => ?_⟩⟩
  show _ = up1 (aR A).2.2 k (up1 ((aR A).2.2 k) a v) r i
  rw [wI_s]
  by_cases hrk : r = k
  · subst hrk
    rw [up1_s]
    by_cases hia : i = a
    · rw [if_pos (by omega), hia, up1_s]
    · rw [if_neg (by omega), up1_o hia]
      exact (hd.2 hz).2.2.2 i hi
  · rw [up1_o hrk, if_neg (by omega)]
    exact (hd.2 hz).2.2.2 i hi
theorem m_put {M : mM} {A : aS} (G : GS M) (h : CX A M) {k a : Nat} (hk : k < 8) (hz : (aR A).1 k ≠ 0) (ha : a < 40) (v : Int32) : m_X4_put M (201 + 2 * k) (nI a) v = some (wI M (202 + 2 * k) a (lv ((aR A).1 k) v), lv ((aR A).1 k) v) := by
  have hd := (h.2.2.2.1 k hk).2 hz
  rw [m_X4_put, rowI G hk, Option.bind_some, gI_ (rowO G hk), Option.bind_some, Option.bind_some, hd.2.2.1]
  have st : ∀ u, ((stI M (202 + 2 * k) (nI a) u).bind fun M9 => (gR M9 (201 + 2 * k) 4 0).bind fun b11 => (ldI M9 b11 (nI a)).bind fun v14 => some (M9, v14)) = some (wI M (202 + 2 * k) a u, u) := by
    intro u
    rw [st_ (rowA G hk).1 (rowA G hk).2 ha (by decide), Option.bind_some, rowI (GS_w G) hk, Option.bind_some, ld_ (rowA (GS_w G) hk).1 (rowA (GS_w G) hk).2 ha (by decide), Option.bind_some, wI_s, if_pos rfl]
  unfold lv
  have : (aR A).1 k = 1 ∨ (aR A).1 k = 2 ∨ (aR A).1 k = 3 := by omega
  rcases this with e | e | e <;> rw [e]
  · rw [if_pos (show nI (1 - 1) = 0 from rfl), if_pos rfl]
    exact st _
  · rw [if_neg (show ¬ nI (2 - 1) = 0 by decide), if_pos (show nI (2 - 1) = 1 from rfl), if_neg (show ¬ (2 = 1) by decide), if_pos rfl]
    exact st _
  · rw [if_neg (show ¬ nI (3 - 1) = 0 by decide), if_neg (show ¬ nI (3 - 1) = 1 by decide), if_neg (show ¬ (3 = 1) by decide), if_neg (show ¬ (3 = 2) by decide)]
    exact st _
theorem o_set (x i v : Int32) : both A (fun M => m_X6_set M 0 x i v) (fun M => m_X7_set M 231 x i v) := by
  intro M G h
  cases hr : rg x 0 7 with
  | false =>
    refine ⟨A, -1000001, ?_, fun M' G' h' => ?_⟩
    · show opX (m_X6_set M 0 x i v) _ _ _
      rw [m_X6_set, m_noR, hr, Option.bind_some, if_neg (by decide)]
      exact px0 G h
    · show opM (m_X7_set M' 231 x i v) _ _ _
      rw [m_X7_set]
      refine q2 G' h' (fun M1 G1 h1 => ?_)
      rw [m_isR, hr, Option.bind_some, if_pos (by decide)]
      exact pm0 G1 h1
  | true =>
    obtain ⟨k, hk, rfl⟩ := rg_n (n := 7) hr
    have hk8 : k < 8 := by omega
    have wp := m_wp G h.2.2.2.1 hk8 i 1
    by_cases h0 : (aR A).1 k = 0
    · have w1 : wpq (aR A).1 (aR A).2.1 k i 1 = 1 := by unfold wpq; rw [if_pos h0]
      refine ⟨sU A 1, -1000010 - nI 1, ?_, fun M' G' h' => ?_⟩
      · show opX (m_X6_set M 0 (nI k) i v) _ _ _
        rw [m_X6_set, m_noR, hr, Option.bind_some, if_pos (by decide), if_pos (O6 G), wp, w1, Option.bind_some, if_neg (by decide)]
        exact fnd6 G h 1
      · show opM (m_X7_set M' 231 (nI k) i v) _ _ _
        rw [m_X7_set]
        refine q2 G' h' (fun M1 G1 h1 => ?_)
        rw [m_isR, hr, Option.bind_some, if_neg (by decide)]
        refine q3 G1 h1 (fun M2 G2 h2 => ?_)
        have hd := (CMrU h2) k hk8
        rw [R7l G2, Option.bind_some, ld_ (A7l G2).1 (A7l G2).2 hk8 (by decide), Option.bind_some, hd.1, if_pos h0, if_neg (by decide)]
        exact fnd7 G2 h2 1
    · have hz := (h.2.2.2.1 k hk8).2 h0
      have w1 : wpq (aR A).1 (aR A).2.1 k i 1 = if hasq i 1 ((aR A).2.1 k) then 0 else 2 := by unfold wpq; rw [if_neg h0]
      have hin : ∀ M2, m_X7_in M2 (Int32.toInt64 i) (0 : Int64) (Int32.toInt64 (nI ((aR A).2.1 k) - (1 : Int32))) = some (b2 (hasq i 1 ((aR A).2.1 k))) := by
        intro M2
        rw [m_in7, Int32.toInt_toInt64, sb_t (by omega), hasq_1]
        rfl
      have lne : (0 : Int32) ≤ nI ((aR A).1 k - 1) := nI_pos' (by omega)
      cases hq : hasq i 1 ((aR A).2.1 k) with
      | false =>
        rw [hq] at w1 hin
        refine ⟨sU A 2, -1000010 - nI 2, ?_, fun M' G' h' => ?_⟩
        · show opX (m_X6_set M 0 (nI k) i v) _ _ _
          rw [m_X6_set, m_noR, hr, Option.bind_some, if_pos (by decide), if_pos (O6 G), wp, w1, Option.bind_some, if_neg (by decide)]
          exact fnd6 G h 2
        · show opM (m_X7_set M' 231 (nI k) i v) _ _ _
          rw [m_X7_set]
          refine q2 G' h' (fun M1 G1 h1 => ?_)
          rw [m_isR, hr, Option.bind_some, if_neg (by decide)]
          refine q3 G1 h1 (fun M2 G2 h2 => ?_)
          have hd := (CMrU h2) k hk8
          rw [R7l G2, Option.bind_some, ld_ (A7l G2).1 (A7l G2).2 hk8 (by decide), Option.bind_some, hd.1, if_neg h0, if_pos lne, R7m G2, Option.bind_some, ld_ (A7m G2).1 (A7m G2).2 hk8 (by decide), Option.bind_some, (hd.2 h0).2.2.1]
          have e := hin M2
          rw [show m_X7_in M2 (Int32.toInt64 i) (0 : Int64) (Int32.toInt64 (nI ((aR A).2.1 k) - (1 : Int32))) = _ from e, Option.bind_some, if_pos (by decide)]
          exact fnd7 G2 h2 2
      | true =>
        obtain ⟨a, m, rfl, e1, ham⟩ := hasq_n hz.2.1 hq
        rw [hq] at w1 hin
        have hm1 : m = 1 ∨ m = 0 ∨ 1 < m := by omega
        have ha : a < 40 := by
          have := (show rg (nI a) 0 (((aR A).2.1 k : Int) - 1) = true by rw [← hasq_1]; exact hq)
          simp only [rg, Bool.and_eq_true, decide_eq_true_eq] at this
          rw [nI_toInt (by omega)] at this
          omega
        refine ⟨sU (sR A (se_ (aR A) k a (lv ((aR A).1 k) v))) 0, lv ((aR A).1 k) v, ?_, fun M' G' h' => ?_⟩
        · show opX (m_X6_set M 0 (nI k) (nI a) v) _ _ _
          rw [m_X6_set, m_noR, hr, Option.bind_some, if_pos (by decide), if_pos (O6 G), wp, w1, Option.bind_some, if_pos (by decide), R6w G, Option.bind_some, rowR G hk8, Option.bind_some, if_pos (rowO G hk8), m_put G h hk8 h0 ha v, bd2_s]
          exact opX_t (hi_w (by omega)) (fin6 (GS_w G) (CXse h hk8 _) _)
        · show opM (m_X7_set M' 231 (nI k) (nI a) v) _ _ _
          rw [m_X7_set]
          refine q2 G' h' (fun M1 G1 h1 => ?_)
          rw [m_isR, hr, Option.bind_some, if_neg (by decide)]
          refine q3 G1 h1 (fun M2 G2 h2 => ?_)
          have hd := (CMrU h2) k hk8
          have hd1 : mi_ M2 232 k = nI ((aR A).1 k - 1) := hd.1.trans (if_neg h0)
          have e := hin M2
          have st : ∀ u, opM ((stI M2 234 ((40 : Int32) * nI k + nI a) u).bind fun M32 => (gR M32 231 7 4).bind fun b34 => (ldI M32 b34 ((40 : Int32) * nI k + nI a)).bind fun v37 => some (M32, v37)) M2 (sU (sR A (se_ (aR A) k a u)) 0) u := by
            intro u
            rw [c40, st_ (A7e G2).1 (A7e G2).2 (by omega) (by decide), Option.bind_some, R7e (GS_w G2), Option.bind_some, ld_ (A7e (GS_w G2)).1 (A7e (GS_w G2)).2 (by omega) (by decide), Option.bind_some, wI_s, if_pos rfl]
            exact pm (GS_w G2) (CMse h2 hk8 ha u) (lo_w (by decide))
          rw [R7l G2, Option.bind_some, ld_ (A7l G2).1 (A7l G2).2 hk8 (by decide), Option.bind_some, hd1, if_pos lne, R7m G2, Option.bind_some, ld_ (A7m G2).1 (A7m G2).2 hk8 (by decide), Option.bind_some, (hd.2 h0).2.2.1, show m_X7_in M2 (Int32.toInt64 (nI a)) (0 : Int64) (Int32.toInt64 (nI ((aR A).2.1 k) - (1 : Int32))) = _ from e, Option.bind_some, if_neg (by decide), R7e G2, Option.bind_some, Option.bind_some, ld_ (A7l G2).1 (A7l G2).2 hk8 (by decide), Option.bind_some, hd1, Option.bind_some, ld_ (A7l G2).1 (A7l G2).2 hk8 (by decide), Option.bind_some, hd1]
          have : (aR A).1 k = 1 ∨ (aR A).1 k = 2 ∨ (aR A).1 k = 3 := by omega
          unfold lv
          rcases this with e | e | e <;> rw [e]
          · rw [if_pos (show nI (1 - 1) = 0 from rfl), if_pos rfl]
            exact st _
          · rw [if_neg (show ¬ nI (2 - 1) = 0 by decide), if_pos (show nI (2 - 1) = 1 from rfl), if_neg (show ¬ (2 = 1) by decide), if_pos rfl]
            exact st _
          · rw [if_neg (show ¬ nI (3 - 1) = 0 by decide), if_neg (show ¬ nI (3 - 1) = 1 by decide), if_neg (show ¬ (3 = 1) by decide), if_neg (show ¬ (3 = 2) by decide)]
            exact st _
theorem o_drop (x : Int32) : both A (fun M => m_X6_drop M 0 x) (fun M => m_X7_drop M 231 x) := by
  intro M G h
  cases hr : rg x 0 7 with
  | false =>
    refine ⟨A, -1000001, ?_, fun M' G' h' => ?_⟩
    · show opX (m_X6_drop M 0 x) _ _ _
      rw [m_X6_drop, m_noR, hr, Option.bind_some, if_neg (by decide)]
      exact px0 G h
    · show opM (m_X7_drop M' 231 x) _ _ _
      rw [m_X7_drop]
      refine q2 G' h' (fun M1 G1 h1 => ?_)
      rw [m_isR, hr, Option.bind_some, if_pos (by decide)]
      exact pm0 G1 h1
  | true =>
    obtain ⟨k, hk, rfl⟩ := rg_n (n := 7) hr
    have hk8 : k < 8 := by omega
    have hd := h.2.2.2.1 k hk8
    by_cases h0 : (aR A).1 k = 0
    · refine ⟨sU A 1, -1000010 - nI 1, ?_, fun M' G' h' => ?_⟩
      · show opX (m_X6_drop M 0 (nI k)) _ _ _
        rw [m_X6_drop, m_noR, hr, Option.bind_some, if_pos (by decide), R6w G, Option.bind_some, rowR G hk8, Option.bind_some, gI_ (rowO G hk8), Option.bind_some, hd.1, if_pos (by simp [h0, b2])]
        exact fnd6 G h 1
      · show opM (m_X7_drop M' 231 (nI k)) _ _ _
        rw [m_X7_drop]
        refine q2 G' h' (fun M1 G1 h1 => ?_)
        rw [m_isR, hr, Option.bind_some, if_neg (by decide)]
        refine q3 G1 h1 (fun M2 G2 h2 => ?_)
        rw [R7l G2, Option.bind_some, ld_ (A7l G2).1 (A7l G2).2 hk8 (by decide), Option.bind_some, ((CMrU h2) k hk8).1, if_pos h0, if_neg (by decide)]
        exact fnd7 G2 h2 1
    · have hz := hd.2 h0
      have lne : (0 : Int32) ≤ nI ((aR A).1 k - 1) := nI_pos' (by omega)
      refine ⟨sU (sR A (up1 (aR A).1 k 0, (aR A).2)) 0, nI ((aR A).2.1 k), ?_, fun M' G' h' => ?_⟩
      · show opX (m_X6_drop M 0 (nI k)) _ _ _
        rw [m_X6_drop, m_noR, hr, Option.bind_some, if_pos (by decide), R6w G, Option.bind_some, rowR G hk8, Option.bind_some, gI_ (rowO G hk8), Option.bind_some, hd.1, if_neg (by simp [h0, b2]), Option.bind_some, rowR G hk8, Option.bind_some, pI_ (rowO G hk8), Option.bind_some, R6w (GS_w G), Option.bind_some, rowR (GS_w G) hk8, Option.bind_some, gI_ (rowO (GS_w G) hk8), Option.bind_some, wI_s, if_neg (show ¬ (3 = 1) by decide), hz.2.2.2.1]
        refine opX_t (hi_w (by omega)) (fin6 (GS_w G) (CXr h (fun q _ hq => wI_o (by omega)) (fun r hr8 => ?_)) _)
        have hdr := h.2.2.2.1 r hr8
        show _ = b2 (decide (up1 (aR A).1 k 0 r ≠ 0)) ∧ (up1 (aR A).1 k 0 r ≠ 0 → up1 (aR A).1 k 0 r ≤ 3 ∧ (aR A).2.1 r ≤ 40 ∧ _ = nI (up1 (aR A).1 k 0 r - 1) ∧ _ = nI ((aR A).2.1 r) ∧ ∀ i, i < 40 → _ = (aR A).2.2 r i)
        by_cases hrk : r = k
        · subst hrk
          rw [up1_s]
          refine ⟨by rw [wI_s, if_pos rfl]; rfl, fun q => absurd rfl q⟩
        · rw [up1_o hrk, wI_o (by omega), wI_o (by omega)]
          exact hdr
      · show opM (m_X7_drop M' 231 (nI k)) _ _ _
        rw [m_X7_drop]
        refine q2 G' h' (fun M1 G1 h1 => ?_)
        rw [m_isR, hr, Option.bind_some, if_neg (by decide)]
        refine q3 G1 h1 (fun M2 G2 h2 => ?_)
        have hd2 := (CMrU h2) k hk8
        rw [R7l G2, Option.bind_some, ld_ (A7l G2).1 (A7l G2).2 hk8 (by decide), Option.bind_some, hd2.1, if_neg h0, if_pos lne, Option.bind_some, st_ (A7l G2).1 (A7l G2).2 hk8 (by decide), Option.bind_some, R7m (GS_w G2), Option.bind_some, ld_ (A7m (GS_w G2)).1 (A7m (GS_w G2)).2 hk8 (by decide), Option.bind_some, wI_o (show 233 ≠ 232 by decide), (hd2.2 h0).2.2.1]
        refine pm (GS_w G2) (CMr h2 (fun q _ q1 q2 q3 => wI_o q1) (fun r hr8 => ?_)) (lo_w (by decide))
        have hdr := h2.2.2.2.1 r hr8
        show _ = (if up1 (aR A).1 k 0 r = 0 then -1 else nI (up1 (aR A).1 k 0 r - 1)) ∧ (up1 (aR A).1 k 0 r ≠ 0 → up1 (aR A).1 k 0 r ≤ 3 ∧ (aR A).2.1 r ≤ 40 ∧ _ = nI ((aR A).2.1 r) ∧ ∀ i, i < 40 → _ = (aR A).2.2 r i)
        rw [wI_s, wI_o (show 233 ≠ 232 by decide), wI_o (show 234 ≠ 232 by decide)]
        by_cases hrk : r = k
        · subst hrk
          rw [up1_s]
          exact ⟨by rw [if_pos rfl, if_pos rfl], fun q => absurd rfl q⟩
        · rw [up1_o hrk, if_neg hrk]
          exact hdr
theorem o_feed (x : Int32) : both A (fun M => m_X6_feed M 0 x) (fun M => m_X7_feed M 231 x) := by
  intro M G h
  have ht := h.2.2.2.2.1
  have hO : isO M 180 3 = true := G.o (by decide) (by decide +kernel)
  cases hr : rg x 0 255 with
  | false =>
    refine ⟨A, -1000001, ?_, fun M' G' h' => ?_⟩
    · show opX (m_X6_feed M 0 x) _ _ _
      rw [m_X6_feed, m_out, show rg x (Int32.toInt 0) (Int32.toInt 255) = false from hr, Option.bind_some, if_neg (by decide)]
      exact px0 G h
    · show opM (m_X7_feed M' 231 x) _ _ _
      rw [m_X7_feed]
      refine q2 G' h' (fun M1 G1 h1 => ?_)
      rw [m_in7, show rg x (Int64.toInt 0) (Int64.toInt 255) = false from hr, Option.bind_some, if_pos (by decide)]
      exact pm0 G1 h1
  | true =>
    obtain ⟨v, hv, rfl⟩ := rg_n (n := 255) hr
    by_cases hf : (aT A).2 = 120
    · refine ⟨A, -1000003, ?_, fun M' G' h' => ?_⟩
      · show opX (m_X6_feed M 0 (nI v)) _ _ _
        have e : m_X3_take M 180 (nI v) = some (M, 0) := by rw [m_X3_take, gI_ hO, Option.bind_some, ht.2.1, hf, if_neg (by decide)]
        rw [m_X6_feed, m_out, show rg (nI v) (Int32.toInt 0) (Int32.toInt 255) = true from hr, Option.bind_some, if_pos (by decide), R6r G, Option.bind_some, if_pos hO, e, bd2_s, if_pos rfl]
        exact px0 G h
      · show opM (m_X7_feed M' 231 (nI v)) _ _ _
        rw [m_X7_feed]
        refine q2 G' h' (fun M1 G1 h1 => ?_)
        rw [m_in7, show rg (nI v) (Int64.toInt 0) (Int64.toInt 255) = true from hr, Option.bind_some, if_neg (by decide), gI_ (O7 G1), Option.bind_some, h1.2.2.2.2.1.2.1, hf, if_pos (by decide)]
        exact pm0 G1 h1
    · have hl : (aT A).2 < 120 := by have := ht.1; omega
      refine ⟨sF (sT' A (up1 (aT A).1 (aT A).2 v, (aT A).2 + 1)) (aF A), nI ((aT A).2 + 1), ?_, fun M' G' h' => ?_⟩
      · show opX (m_X6_feed M 0 (nI v)) _ _ _
        have ha := G.a (k := 181) (n := 120) (by decide) (by decide +kernel)
        have hO2 : isO (wI M 181 (aT A).2 (nI v)) 180 3 = true := (isO_sh (sh_w _ _ _ _) _ _).trans hO
        have e : m_X3_take M 180 (nI v) = some (wI (wI M 181 (aT A).2 (nI v)) 180 2 (nI ((aT A).2 + 1)), 1) := by
          rw [m_X3_take, gI_ hO, Option.bind_some, ht.2.1, if_pos (show nI (aT A).2 < (120 : Int32) from (nI_lt hl (by decide) : _ < nI 120)), gR_ hO (G.r (b := 181) (by decide +kernel)), Option.bind_some, Option.bind_some, st_ ha.1 ha.2 hl (by decide), Option.bind_some, gI_ hO2, Option.bind_some, wI_o (show 180 ≠ 181 by decide), ht.2.1, pI_ hO2, Option.bind_some, nI_1]
        have hO3 : isO (wI (wI M 181 (aT A).2 (nI v)) 180 2 (nI ((aT A).2 + 1))) 180 3 = true := (isO_sh (sh_w _ _ _ _) _ _).trans hO2
        rw [m_X6_feed, m_out, show rg (nI v) (Int32.toInt 0) (Int32.toInt 255) = true from hr, Option.bind_some, if_pos (by decide), R6r G, Option.bind_some, if_pos hO, e, bd2_s, if_neg (by decide), R6r (GS_w (GS_w G)), Option.bind_some, gI_ hO3, Option.bind_some, wI_s, if_pos rfl]
        refine px (GS_w (GS_w G)) (CXt h (fun b _ hb => by rw [wI_o (by omega), wI_o (by omega)]) ⟨by show (aT A).2 + 1 ≤ 120; omega, by rw [wI_s, if_pos rfl], fun j hj => ?_⟩ ⟨h.2.2.2.2.2.1.1, by rw [wI_s, if_neg (by decide), wI_o (by decide)]; exact h.2.2.2.2.2.1.2⟩) (hi_t (hi_w (by decide)) (hi_w (by decide)))
        show _ = nI (up1 (aT A).1 (aT A).2 v j) ∧ up1 (aT A).1 (aT A).2 v j < 256
        have hj' : j < (aT A).2 + 1 := hj
        rw [wI_o (show 181 ≠ 180 by decide), wI_s]
        by_cases hjt : j = (aT A).2
        · rw [if_pos hjt, hjt, up1_s]
          exact ⟨rfl, by omega⟩
        · rw [if_neg hjt, up1_o hjt]
          exact ht.2.2 j (by omega)
      · show opM (m_X7_feed M' 231 (nI v)) _ _ _
        rw [m_X7_feed]
        refine q2 G' h' (fun M1 G1 h1 => ?_)
        have ht1 := h1.2.2.2.2.1
        have ha := G1.a (k := 239) (n := 120) (by decide) (by decide +kernel)
        rw [m_in7, show rg (nI v) (Int64.toInt 0) (Int64.toInt 255) = true from hr, Option.bind_some, if_neg (by decide), gI_ (O7 G1), Option.bind_some, ht1.2.1, if_neg (show ¬ nI (aT A).2 = (120 : Int32) from (ne_lit (by omega) (by decide) hf : ¬ _ = nI 120)), gR_ (O7 G1) (G1.r (b := 239) (by decide +kernel)), Option.bind_some, Option.bind_some, st_ ha.1 ha.2 hl (by decide), Option.bind_some, gI_ (O7 (GS_w G1)), Option.bind_some, wI_o (show 231 ≠ 239 by decide), ht1.2.1, pI_ (O7 (GS_w G1)), Option.bind_some, gI_ (O7 (GS_w (GS_w G1))), Option.bind_some, wI_s, if_pos rfl, nI_1]
        refine pm (GS_w (GS_w G1)) (CMt h1 (fun b _ b1 b2 b3 => by rw [wI_o b1, wI_o b2]) (by rw [wI_s, if_neg (by decide), wI_o (by decide)]) (by rw [wI_s, if_neg (by decide), wI_o (by decide)]) (by rw [wI_s, if_neg (by decide), wI_o (by decide)]) ⟨by show (aT A).2 + 1 ≤ 120; omega, by rw [wI_s, if_pos rfl], fun j hj => ?_⟩ ⟨h1.2.2.2.2.2.1.1, by rw [wI_s, if_neg (by decide), wI_o (by decide)]; exact h1.2.2.2.2.2.1.2⟩) (lo_t (lo_w (by decide)) (lo_w (by decide)))
        show _ = nI (up1 (aT A).1 (aT A).2 v j) ∧ up1 (aT A).1 (aT A).2 v j < 256
        have hj' : j < (aT A).2 + 1 := hj
        rw [wI_o (show 239 ≠ 231 by decide), wI_s]
        by_cases hjt : j = (aT A).2
        · rw [if_pos hjt, hjt, up1_s]
          exact ⟨rfl, by omega⟩
        · rw [if_neg hjt, up1_o hjt]
          exact ht1.2.2 j (by omega)
end O7
