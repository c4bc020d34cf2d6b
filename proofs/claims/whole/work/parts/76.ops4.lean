/-! ===== as, row, set, drop, copy, feed ===== -/
def isk (k w : Nat) : Bool := decide (w = 0) || decide (k = w) || (decide (w = 1) && decide (k < 4)) || (decide (w = 4) && decide (k = 5))
theorem f_isk : ∀ k, k < 6 → 1 ≤ k → ∀ w, w < 6 → m_X6_isKind ME (nI k) (nI w) = some (b2 (isk k w)) ∧ m_X7_isOf ME (nI k) (nI w) = some (b2 (isk k w)) := by decide +kernel
theorem c40 (k i : Nat) : (40 : Int32) * nI k + nI i = nI (40 * k + i) := by rw [show (40 : Int32) = nI 40 from rfl, pk_mul, nI_add]
section O6
variable (A : aS)
theorem o_as (x z : Int32) : both A (fun M => m_X6_as M 0 x z) (fun M => m_X7_as M 231 x z) := by
  intro M G h
  have hn := h.1
  cases hr : rg x 0 ((aN A 0 3 : Int) - 1) with
  | false =>
    refine ⟨A, -1000001, ?_, fun M' G' h' => ?_⟩
    · show opX (m_X6_as M 0 x z) _ _ _
      rw [m_X6_as, if_pos (O6 G), m_noP G hn, hr, Option.bind_some, if_neg (by decide)]
      exact px0 G h
    · show opM (m_X7_as M' 231 x z) _ _ _
      rw [m_X7_as]
      refine q2 G' h' (fun M1 G1 h1 => ?_)
      rw [if_pos (O7 G1), m_isP G1 h1.1, hr, Option.bind_some, if_pos (by decide)]
      exact pm0 G1 h1
  | true =>
    obtain ⟨p, hp, rfl⟩ := rg_s hr
    have hw := vs_w hn.2 (j := 3) (by decide) (by omega)
    have hk := hw.1.2.2.2.2.2.2.2.1 p hp
    cases hz : rg z 0 5 with
    | false =>
      refine ⟨A, -1000001, ?_, fun M' G' h' => ?_⟩
      · show opX (m_X6_as M 0 (nI p) z) _ _ _
        rw [m_X6_as, if_pos (O6 G), m_noP G hn, hr, Option.bind_some, if_pos (by decide), m_out, Option.bind_some, if_neg (by rw [show rg z (Int32.toInt 0) (Int32.toInt 5) = false from hz]; decide)]
        exact px0 G h
      · show opM (m_X7_as M' 231 (nI p) z) _ _ _
        rw [m_X7_as]
        refine q2 G' h' (fun M1 G1 h1 => ?_)
        rw [if_pos (O7 G1), m_isP G1 h1.1, hr, Option.bind_some, if_neg (by decide), m_in7, Option.bind_some, if_pos (by rw [show rg z (Int64.toInt 0) (Int64.toInt 5) = false from hz]; decide)]
        exact pm0 G1 h1
    | true =>
      obtain ⟨w, hw5, rfl⟩ := rg_n (n := 5) hz
      obtain ⟨f1, f2⟩ := f_isk (aN A 3 p) (by omega) hk.1 w (by omega)
      cases hi : isk (aN A 3 p) w with
      | true =>
        rw [hi] at f1 f2
        refine ⟨sU A 0, nI p, ?_, fun M' G' h' => ?_⟩
        · show opX (m_X6_as M 0 (nI p) (nI w)) _ _ _
          rw [m_X6_as, if_pos (O6 G), m_noP G hn, hr, Option.bind_some, if_pos (by decide), m_out, Option.bind_some, if_pos (by rw [show rg (nI w) (Int32.toInt 0) (Int32.toInt 5) = true from hz]; decide), R6n G, Option.bind_some, r_3 (Sn G), Option.bind_some, a_3 (Sn G) hw.1 hn.1 hp, Option.bind_some, show m_X6_isKind M (nI (aN A 3 p)) (nI w) = _ from f1, Option.bind_some, if_neg (by decide)]
          exact fin6 G h _
        · show opM (m_X7_as M' 231 (nI p) (nI w)) _ _ _
          rw [m_X7_as]
          refine q2 G' h' (fun M1 G1 h1 => ?_)
          rw [if_pos (O7 G1), m_isP G1 h1.1, hr, Option.bind_some, if_neg (by decide), m_in7, Option.bind_some, if_neg (by rw [show rg (nI w) (Int64.toInt 0) (Int64.toInt 5) = true from hz]; decide)]
          refine q3 G1 h1 (fun M2 G2 h2 => ?_)
          rw [R7s G2, Option.bind_some, o_0 (A7s G2) hw.1 h2.1.1 hp, Option.bind_some, show m_X7_isOf M2 (nI (aN A 3 p)) (nI w) = _ from f2, Option.bind_some, if_neg (by decide)]
          exact pm0 G2 h2
      | false =>
        rw [hi] at f1 f2
        refine ⟨sU A 3, -1000010 - nI 3, ?_, fun M' G' h' => ?_⟩
        · show opX (m_X6_as M 0 (nI p) (nI w)) _ _ _
          rw [m_X6_as, if_pos (O6 G), m_noP G hn, hr, Option.bind_some, if_pos (by decide), m_out, Option.bind_some, if_pos (by rw [show rg (nI w) (Int32.toInt 0) (Int32.toInt 5) = true from hz]; decide), R6n G, Option.bind_some, r_3 (Sn G), Option.bind_some, a_3 (Sn G) hw.1 hn.1 hp, Option.bind_some, show m_X6_isKind M (nI (aN A 3 p)) (nI w) = _ from f1, Option.bind_some, if_pos (by decide)]
          exact fnd6 G h 3
        · show opM (m_X7_as M' 231 (nI p) (nI w)) _ _ _
          rw [m_X7_as]
          refine q2 G' h' (fun M1 G1 h1 => ?_)
          rw [if_pos (O7 G1), m_isP G1 h1.1, hr, Option.bind_some, if_neg (by decide), m_in7, Option.bind_some, if_neg (by rw [show rg (nI w) (Int64.toInt 0) (Int64.toInt 5) = true from hz]; decide)]
          refine q3 G1 h1 (fun M2 G2 h2 => ?_)
          rw [R7s G2, Option.bind_some, o_0 (A7s G2) hw.1 h2.1.1 hp, Option.bind_some, show m_X7_isOf M2 (nI (aN A 3 p)) (nI w) = _ from f2, Option.bind_some, if_pos (by decide)]
          exact fnd7 G2 h2 3
/-- a row begun -/
def rw_ (x : (Nat → Nat) × (Nat → Nat) × (Nat → Nat → Int32)) (k l m : Nat) : (Nat → Nat) × (Nat → Nat) × (Nat → Nat → Int32) := (up1 x.1 k (l + 1), up1 x.2.1 k m, up1 x.2.2 k (fun _ => 0))
theorem o_row (x l n : Int32) : both A (fun M => m_X6_row M 0 x l n) (fun M => m_X7_row M 231 x l n) := by
  intro M G h
  cases hr : rg x 0 7 with
  | false =>
    refine ⟨A, -1000001, ?_, fun M' G' h' => ?_⟩
    · show opX (m_X6_row M 0 x l n) _ _ _
      rw [m_X6_row, m_noR, hr, Option.bind_some, if_neg (by decide)]
      exact px0 G h
    · show opM (m_X7_row M' 231 x l n) _ _ _
      rw [m_X7_row]
      refine q2 G' h' (fun M1 G1 h1 => ?_)
      rw [m_isR, hr, Option.bind_some, if_pos (by decide)]
      exact pm0 G1 h1
  | true =>
    obtain ⟨k, hk, rfl⟩ := rg_n (n := 7) hr
    have hk8 : k < 8 := by omega
    cases hl : rg l 0 2 with
    | false =>
      refine ⟨A, -1000001, ?_, fun M' G' h' => ?_⟩
      · show opX (m_X6_row M 0 (nI k) l n) _ _ _
        rw [m_X6_row, m_noR, hr, Option.bind_some, if_pos (by decide), m_out, Option.bind_some, if_neg (by rw [show rg l (Int32.toInt 0) (Int32.toInt 2) = false from hl]; decide)]
        exact px0 G h
      · show opM (m_X7_row M' 231 (nI k) l n) _ _ _
        rw [m_X7_row]
        refine q2 G' h' (fun M1 G1 h1 => ?_)
        rw [m_isR, hr, Option.bind_some, if_neg (by decide), m_in7, Option.bind_some, if_pos (by rw [show rg l (Int64.toInt 0) (Int64.toInt 2) = false from hl]; decide)]
        exact pm0 G1 h1
    | true =>
      obtain ⟨b, hb, rfl⟩ := rg_n (n := 2) hl
      by_cases hn : n ≤ (40 : Int32)
      · by_cases h0 : (0 : Int32) ≤ n
        · obtain ⟨m, hm, rfl⟩ := nI_of2 (x := n) (M := 40) (n := 40) (by decide) (by rw [Int32.not_lt]; exact h0) hn
          refine ⟨sU (sR A (rw_ (aR A) k b m)) 0, nI m, ?_, fun M' G' h' => ?_⟩
          · show opX (m_X6_row M 0 (nI k) (nI b) (nI m)) _ _ _
            have O := rowO G hk8
            obtain ⟨N, e1, e2, e3⟩ := m_beL hk8 (fun M12 => some M12) 40 0 FU (wI (wI (wI M (201 + 2 * k) 1 1) (201 + 2 * k) 2 (nI b)) (201 + 2 * k) 3 (nI m)) (GS_w (GS_w (GS_w G))) (by decide) (by decide)
            have eb : m_X4_begin M (201 + 2 * k) (nI b) (nI m) = some N := by
              rw [m_X4_begin, pI_ O, Option.bind_some, pI_ (rowO (GS_w G) hk8), Option.bind_some, pI_ (rowO (GS_w (GS_w G)) hk8), Option.bind_some]
              exact e1
            rw [m_X6_row, m_noR, hr, Option.bind_some, if_pos (by decide), m_out, Option.bind_some, if_pos (by rw [show rg (nI b) (Int32.toInt 0) (Int32.toInt 2) = true from hl]; decide), if_pos hn, if_pos h0, R6w G, Option.bind_some, rowR G hk8, Option.bind_some, if_pos O, eb, Option.bind_some]
            have GN : GS N := (GS_w (GS_w (GS_w G))).sh e2.1
            have ov : ∀ q, q ≠ 201 + 2 * k → q ≠ 202 + 2 * k → mi_ N q = mi_ M q := fun q h1 h2 => by rw [e2.2 q h2, wI_o h1, wI_o h1, wI_o h1]
            have CN : CX (sR A (rw_ (aR A) k b m)) N := by
              refine CXr h (fun q _ hq => ov q (by omega) (by omega)) (fun r hr8 => ?_)
              by_cases hrk : r = k
              · subst hrk
                have e5 : mi_ N (201 + 2 * r) = mi_ (wI (wI (wI M (201 + 2 * r) 1 1) (201 + 2 * r) 2 (nI b)) (201 + 2 * r) 3 (nI m)) (201 + 2 * r) := e2.2 _ (by omega)
                rw [e5, e3]
                show _ = b2 (decide (up1 _ r (b + 1) r ≠ 0)) ∧ (up1 _ r (b + 1) r ≠ 0 → up1 _ r (b + 1) r ≤ 3 ∧ up1 _ r m r ≤ 40 ∧ _ = nI (up1 _ r (b + 1) r - 1) ∧ _ = nI (up1 _ r m r) ∧ ∀ i, i < 40 → _ = up1 _ r (fun _ => (0 : Int32)) r i)
                rw [up1_s, up1_s, up1_s]
                refine ⟨?_, fun _ => ⟨by omega, hm, ?_, ?_, fun i hi => ?_⟩⟩
                · simp [wI_s, b2]
                · simp [wI_s]
                · simp [wI_s]
                · simp [fil, hi]
              · rw [ov _ (by omega) (by omega), ov _ (by omega) (by omega)]
                show _ = b2 (decide (up1 _ k (b + 1) r ≠ 0)) ∧ (up1 _ k (b + 1) r ≠ 0 → up1 _ k (b + 1) r ≤ 3 ∧ up1 _ k m r ≤ 40 ∧ _ = nI (up1 _ k (b + 1) r - 1) ∧ _ = nI (up1 _ k m r) ∧ ∀ i, i < 40 → _ = up1 _ k (fun _ => (0 : Int32)) r i)
                rw [up1_o hrk, up1_o hrk, up1_o hrk]
                exact h.2.2.2.1 r hr8
            exact opX_t (fun q hq => ov q (by omega) (by omega)) (fin6 GN CN _)
          · show opM (m_X7_row M' 231 (nI k) (nI b) (nI m)) _ _ _
            rw [m_X7_row]
            refine q2 G' h' (fun M1 G1 h1 => ?_)
            rw [m_isR, hr, Option.bind_some, if_neg (by decide), m_in7, Option.bind_some, if_neg (by rw [show rg (nI b) (Int64.toInt 0) (Int64.toInt 2) = true from hl]; decide), if_pos hn]
            refine q3 G1 h1 (fun M2 G2 h2 => ?_)
            obtain ⟨N, e1, e2, e3⟩ := m_roL hk8 (nI m) (fun M26 => some (M26, nI m)) 40 0 FU (wI (wI M2 232 k (nI b)) 233 k (nI m)) (GS_w (GS_w G2)) (by decide) (by decide)
            rw [if_pos h0, R7l G2, Option.bind_some, st_ (A7l G2).1 (A7l G2).2 hk8 (by decide), Option.bind_some, R7m (GS_w G2), Option.bind_some, st_ (A7m (GS_w G2)).1 (A7m (GS_w G2)).2 hk8 (by decide), Option.bind_some, show m_X7_row_L65 (fun M26 => some (M26, nI m)) 231 (nI k) (nI m) FU (wI (wI M2 232 k (nI b)) 233 k (nI m)) (0 : Int32) = _ from e1]
            have ov : ∀ q, q ≠ 232 → q ≠ 233 → q ≠ 234 → mi_ N q = mi_ M2 q := fun q h1 h2 h3 => by rw [e2.2 q h3, wI_o h2, wI_o h1]
            refine pm ((GS_w (GS_w G2)).sh e2.1) (CMr h2 (fun q _ q1 q2 q3 => ov q q1 q2 q3) (fun r hr8 => ?_)) (fun q hq => ov q (by omega) (by omega) (by omega))
            rw [e2.2 232 (by decide), e2.2 233 (by decide), e3, wI_o (show 232 ≠ 233 by decide), wI_s, wI_s, wI_o (show 233 ≠ 232 by decide), wI_o (show 234 ≠ 233 by decide), wI_o (show 234 ≠ 232 by decide)]
            have hd := h2.2.2.2.1 r hr8
            by_cases hrk : r = k
            · subst hrk
              show _ = (if up1 _ r (b + 1) r = 0 then -1 else nI (up1 _ r (b + 1) r - 1)) ∧ (up1 _ r (b + 1) r ≠ 0 → up1 _ r (b + 1) r ≤ 3 ∧ up1 _ r m r ≤ 40 ∧ _ = nI (up1 _ r m r) ∧ ∀ i, i < 40 → _ = up1 _ r (fun _ => (0 : Int32)) r i)
              rw [up1_s, up1_s, up1_s]
              refine ⟨?_, fun _ => ⟨by omega, hm, ?_, fun i hi => ?_⟩⟩
              · simp
              · simp
              · have : 40 * r + 0 ≤ 40 * r + i ∧ 40 * r + i < 40 * r + 40 := by omega
                simp only [fil]
                rw [if_pos this]
            · show _ = (if up1 _ k (b + 1) r = 0 then -1 else nI (up1 _ k (b + 1) r - 1)) ∧ (up1 _ k (b + 1) r ≠ 0 → up1 _ k (b + 1) r ≤ 3 ∧ up1 _ k m r ≤ 40 ∧ _ = nI (up1 _ k m r) ∧ ∀ i, i < 40 → _ = up1 _ k (fun _ => (0 : Int32)) r i)
              rw [up1_o hrk, up1_o hrk, up1_o hrk, if_neg hrk, if_neg hrk]
              refine ⟨hd.1, fun hz => ⟨(hd.2 hz).1, (hd.2 hz).2.1, (hd.2 hz).2.2.1, fun i hi => ?_⟩⟩
              have : ¬ (40 * k + 0 ≤ 40 * r + i ∧ 40 * r + i < 40 * k + 40) := by omega
              simp only [fil]
              rw [if_neg this]
              exact (hd.2 hz).2.2.2 i hi
        · refine ⟨sU A 4, -1000010 - nI 4, ?_, fun M' G' h' => ?_⟩
          · show opX (m_X6_row M 0 (nI k) (nI b) n) _ _ _
            rw [m_X6_row, m_noR, hr, Option.bind_some, if_pos (by decide), m_out, Option.bind_some, if_pos (by rw [show rg (nI b) (Int32.toInt 0) (Int32.toInt 2) = true from hl]; decide), if_pos hn, if_neg h0]
            exact fnd6 G h 4
          · show opM (m_X7_row M' 231 (nI k) (nI b) n) _ _ _
            rw [m_X7_row]
            refine q2 G' h' (fun M1 G1 h1 => ?_)
            rw [m_isR, hr, Option.bind_some, if_neg (by decide), m_in7, Option.bind_some, if_neg (by rw [show rg (nI b) (Int64.toInt 0) (Int64.toInt 2) = true from hl]; decide), if_pos hn]
            refine q3 G1 h1 (fun M2 G2 h2 => ?_)
            rw [if_neg h0]
            exact fnd7 G2 h2 4
      · refine ⟨A, -1000001, ?_, fun M' G' h' => ?_⟩
        · show opX (m_X6_row M 0 (nI k) (nI b) n) _ _ _
          rw [m_X6_row, m_noR, hr, Option.bind_some, if_pos (by decide), m_out, Option.bind_some, if_pos (by rw [show rg (nI b) (Int32.toInt 0) (Int32.toInt 2) = true from hl]; decide), if_neg hn]
          exact px0 G h
        · show opM (m_X7_row M' 231 (nI k) (nI b) n) _ _ _
          rw [m_X7_row]
          refine q2 G' h' (fun M1 G1 h1 => ?_)
          rw [m_isR, hr, Option.bind_some, if_neg (by decide), m_in7, Option.bind_some, if_neg (by rw [show rg (nI b) (Int64.toInt 0) (Int64.toInt 2) = true from hl]; decide), if_neg hn]
          exact pm0 G1 h1
end O6
