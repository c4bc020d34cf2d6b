/-! ===== copy ===== -/
/-- items copied -/
def cy_ (x : (Nat → Nat) × (Nat → Nat) × (Nat → Nat → Int32)) (a i b j m : Nat) : (Nat → Nat) × (Nat → Nat) × (Nat → Nat → Int32) := (x.1, x.2.1, up1 x.2.2 b (va_cpy (x.2.2 a) (x.2.2 b) i j m))
theorem m_cpU {a i b j m : Nat} {f0 : Nat → Int32} (ha : 40 * a + i + m ≤ 320) (hb : 40 * b + j + m ≤ 320) (sp : ∀ k, k < m → ¬ (40 * b + j ≤ 40 * a + i + k ∧ 40 * a + i + k < 40 * b + j + k)) {ρ : Type} (k0 : mM → Option ρ) : ∀ (d k n : Nat) (M : mM), GS M → mi_ M 234 = va_cpy f0 f0 (40 * a + i) (40 * b + j) k → k + d = m → d < n → ∃ N, m_X7_copy_L143 k0 231 (nI a) (nI i) (nI b) (nI j) (nI m) (1 : Int32) n M (nI k) = k0 N ∧ f1_ 234 M N ∧ mi_ N 234 = va_cpy f0 f0 (40 * a + i) (40 * b + j) m := by
  intro d
  induction d with
  | zero =>
    intro k n M G e hk hn
    obtain ⟨n, rfl⟩ : ∃ z, n = z + 1 := ⟨n - 1, by omega⟩
    have : k = m := by omega
    subst this
    exact ⟨M, by rw [m_X7_copy_L143, if_pos (nI_le (Nat.le_refl k) (by omega))], f1_r _ _, e⟩
  | succ d ih =>
    intro k n M G e hk hn
    obtain ⟨n, rfl⟩ : ∃ z, n = z + 1 := ⟨n - 1, by omega⟩
    have hr : mi_ M 234 (40 * a + i + k) = f0 (40 * a + i + k) := by rw [e]; exact if_neg (sp k (by omega))
    obtain ⟨N, e1, e2, e3⟩ := ih (k + 1) n (wI M 234 (40 * b + j + k) (f0 (40 * a + i + k))) (GS_w G) (by
      funext q
      rw [wI_s, e]
      unfold va_cpy
      by_cases h1 : q = 40 * b + j + k
      · rw [if_pos h1, if_pos (by omega)]
        congr 1
        omega
      · rw [if_neg h1]
        by_cases h2 : 40 * b + j ≤ q ∧ q < 40 * b + j + k
        · rw [if_pos h2, if_pos (by omega)]
        · rw [if_neg h2, if_neg (by omega)]) (by omega) (by omega)
    refine ⟨N, ?_, f1_t f1_w e2, e3⟩
    rw [m_X7_copy_L143, if_neg (nI_ge (by omega) (by omega)), if_neg (by decide), R7e G, Option.bind_some, Option.bind_some, c40, c40, nI_add, nI_add, ld_ (A7e G).1 (A7e G).2 (by omega) (by decide), Option.bind_some, hr, st_ (A7e G).1 (A7e G).2 (by omega) (by decide), Option.bind_some, nI_1]
    exact e1
theorem m_cpD {a i b j m : Nat} {f0 : Nat → Int32} (ha : 40 * a + i + m ≤ 320) (hb : 40 * b + j + m ≤ 320) (sp : ∀ k, k < m → ¬ (40 * b + j + (m - k) ≤ 40 * a + i + (m - 1 - k) ∧ 40 * a + i + (m - 1 - k) < 40 * b + j + m)) {ρ : Type} (k0 : mM → Option ρ) : ∀ (d k n : Nat) (M : mM), GS M → mi_ M 234 = va_cpy f0 f0 (40 * a + i + (m - k)) (40 * b + j + (m - k)) k → k + d = m → d < n → ∃ N, m_X7_copy_L143 k0 231 (nI a) (nI i) (nI b) (nI j) (nI m) (0 : Int32) n M (nI k) = k0 N ∧ f1_ 234 M N ∧ mi_ N 234 = va_cpy f0 f0 (40 * a + i) (40 * b + j) m := by
  intro d
  induction d with
  | zero =>
    intro k n M G e hk hn
    obtain ⟨n, rfl⟩ : ∃ z, n = z + 1 := ⟨n - 1, by omega⟩
    have : k = m := by omega
    subst this
    refine ⟨M, by rw [m_X7_copy_L143, if_pos (nI_le (Nat.le_refl k) (by omega))], f1_r _ _, ?_⟩
    rw [e, Nat.sub_self]
    rfl
  | succ d ih =>
    intro k n M G e hk hn
    obtain ⟨n, rfl⟩ : ∃ z, n = z + 1 := ⟨n - 1, by omega⟩
    have hr : mi_ M 234 (40 * a + i + (m - 1 - k)) = f0 (40 * a + i + (m - 1 - k)) := by
      rw [e]
      have := sp k (by omega)
      exact if_neg (by omega)
    obtain ⟨N, e1, e2, e3⟩ := ih (k + 1) n (wI M 234 (40 * b + j + (m - 1 - k)) (f0 (40 * a + i + (m - 1 - k)))) (GS_w G) (by
      funext q
      rw [wI_s, e]
      unfold va_cpy
      by_cases h1 : q = 40 * b + j + (m - 1 - k)
      · rw [if_pos h1, if_pos (by omega)]
        congr 1
        omega
      · rw [if_neg h1]
        by_cases h2 : 40 * b + j + (m - k) ≤ q ∧ q < 40 * b + j + (m - k) + k
        · rw [if_pos h2, if_pos (by omega)]
          congr 1
          omega
        · rw [if_neg h2, if_neg (by omega)]) (by omega) (by omega)
    refine ⟨N, ?_, f1_t f1_w e2, e3⟩
    have ek : (nI m - (1 : Int32)) - nI k = nI (m - 1 - k) := by rw [show (1 : Int32) = nI 1 from rfl, pk_sub (by omega), pk_sub (by omega)]
    rw [m_X7_copy_L143, if_neg (nI_ge (by omega) (by omega)), if_pos rfl, R7e G, Option.bind_some, Option.bind_some, ek, c40, c40, nI_add, nI_add, ld_ (A7e G).1 (A7e G).2 (by omega) (by decide), Option.bind_some, hr, st_ (A7e G).1 (A7e G).2 (by omega) (by decide), Option.bind_some, nI_1]
    exact e1
section O8
variable (A : aS)
theorem o_copy (x i y j n : Int32) : both A (fun M => m_X6_copy M 0 x i y j n) (fun M => m_X7_copy M 231 x i y j n) := by
  intro M G h
  cases hr : rg x 0 7 with
  | false =>
    refine ⟨A, -1000001, ?_, fun M' G' h' => ?_⟩
    · show opX (m_X6_copy M 0 x i y j n) _ _ _
      rw [m_X6_copy, m_noR, hr, Option.bind_some, if_neg (by decide)]
      exact px0 G h
    · show opM (m_X7_copy M' 231 x i y j n) _ _ _
      rw [m_X7_copy]
      refine q2 G' h' (fun M1 G1 h1 => ?_)
      rw [m_isR, hr, Option.bind_some, if_pos (by decide)]
      exact pm0 G1 h1
  | true =>
  cases hy : rg y 0 7 with
  | false =>
    refine ⟨A, -1000001, ?_, fun M' G' h' => ?_⟩
    · show opX (m_X6_copy M 0 x i y j n) _ _ _
      rw [m_X6_copy, m_noR, hr, Option.bind_some, if_pos (by decide), m_noR, hy, Option.bind_some, if_neg (by decide)]
      exact px0 G h
    · show opM (m_X7_copy M' 231 x i y j n) _ _ _
      rw [m_X7_copy]
      refine q2 G' h' (fun M1 G1 h1 => ?_)
      rw [m_isR, hr, Option.bind_some, if_neg (by decide), m_isR, hy, Option.bind_some, if_pos (by decide)]
      exact pm0 G1 h1
  | true =>
    obtain ⟨a, ha, rfl⟩ := rg_n (n := 7) hr
    obtain ⟨b, hb, rfl⟩ := rg_n (n := 7) hy
    have ha8 : a < 8 := by omega
    have hb8 : b < 8 := by omega
    have da := h.2.2.2.1 a ha8
    have db := h.2.2.2.1 b hb8
    have X0 : m_X6_copy M 0 (nI a) i (nI b) j n = (if b2 (decide ((aR A).1 a ≠ 0)) = 0 then (if isO M 0 6 = true then bd2 (m_X6_found M 0 (1 : Int32)) fun M19 v20 => some (M19, v20) else none) else (if b2 (decide ((aR A).1 b ≠ 0)) = 0 then (if isO M 0 6 = true then bd2 (m_X6_found M 0 (1 : Int32)) fun M19 v20 => some (M19, v20) else none) else (if mi_ M (201 + 2 * a) 2 = mi_ M (201 + 2 * b) 2 then (if isO M (201 + 2 * a) 4 = true then
            (m_X4_has M (201 + 2 * a) i n).bind fun v31 =>
            if v31 = (0 : Int32) then (
              if isO M 0 6 = true then
              bd2 (m_X6_found M 0 (2 : Int32)) fun M34 v35 =>
              some (M34, v35)
              else none
            ) else (
              if isO M (201 + 2 * b) 4 = true then
              (m_X4_has M (201 + 2 * b) j n).bind fun v38 =>
              if v38 = (0 : Int32) then (
                if isO M 0 6 = true then
                bd2 (m_X6_found M 0 (2 : Int32)) fun M51 v52 =>
                some (M51, v52)
                else none
              ) else (
                (gR M (201 + 2 * a) 4 0).bind fun b40 =>
                (gR M (201 + 2 * b) 4 0).bind fun b42 =>
                (cpI M b40 i b42 j n).bind fun M44 =>
                if isO M44 0 6 = true then
                bd2 (m_X6_fine M44 0 n) fun M47 v48 =>
                some (M47, v48)
                else none
              )
              else none
            )
            else none) else (if isO M 0 6 = true then bd2 (m_X6_found M 0 (5 : Int32)) fun M19 v20 => some (M19, v20) else none)))) := by
      rw [m_X6_copy, m_noR, hr, Option.bind_some, if_pos (by decide), m_noR, hy, Option.bind_some, if_pos (by decide), R6w G, Option.bind_some, rowR G ha8, Option.bind_some, Option.bind_some, rowR G hb8, Option.bind_some, gI_ (rowO G ha8), Option.bind_some, gI_ (rowO G hb8), Option.bind_some, gI_ (rowO G ha8), Option.bind_some, gI_ (rowO G hb8), Option.bind_some, da.1, db.1]
    by_cases a0 : (aR A).1 a = 0
    · refine ⟨sU A 1, -1000010 - nI 1, ?_, fun M' G' h' => ?_⟩
      · show opX (m_X6_copy M 0 (nI a) i (nI b) j n) _ _ _
        rw [X0, if_pos (by simp [a0, b2])]
        exact fnd6 G h 1
      · show opM (m_X7_copy M' 231 (nI a) i (nI b) j n) _ _ _
        rw [m_X7_copy]
        refine q2 G' h' (fun M1 G1 h1 => ?_)
        rw [m_isR, hr, Option.bind_some, if_neg (by decide), m_isR, hy, Option.bind_some, if_neg (by decide)]
        refine q3 G1 h1 (fun M2 G2 h2 => ?_)
        rw [R7l G2, Option.bind_some, ld_ (A7l G2).1 (A7l G2).2 ha8 (by decide), Option.bind_some, ((CMrU h2) a ha8).1, if_pos a0, if_pos (by decide)]
        exact fnd7 G2 h2 1
    by_cases b0 : (aR A).1 b = 0
    · refine ⟨sU A 1, -1000010 - nI 1, ?_, fun M' G' h' => ?_⟩
      · show opX (m_X6_copy M 0 (nI a) i (nI b) j n) _ _ _
        rw [X0, if_neg (by simp [a0, b2]), if_pos (by simp [b0, b2])]
        exact fnd6 G h 1
      · show opM (m_X7_copy M' 231 (nI a) i (nI b) j n) _ _ _
        rw [m_X7_copy]
        refine q2 G' h' (fun M1 G1 h1 => ?_)
        rw [m_isR, hr, Option.bind_some, if_neg (by decide), m_isR, hy, Option.bind_some, if_neg (by decide)]
        refine q3 G1 h1 (fun M2 G2 h2 => ?_)
        have za := ((CMrU h2) a ha8).2 a0
        rw [R7l G2, Option.bind_some, ld_ (A7l G2).1 (A7l G2).2 ha8 (by decide), Option.bind_some, ((CMrU h2) a ha8).1, if_neg a0, if_neg (nI_pos (by omega)), Option.bind_some, ld_ (A7l G2).1 (A7l G2).2 hb8 (by decide), Option.bind_some, ((CMrU h2) b hb8).1, if_pos b0, if_neg (by decide)]
        exact fnd7 G2 h2 1
    have za := da.2 a0
    have zb := db.2 b0
    have X1 : (aR A).1 a = (aR A).1 b ↔ mi_ M (201 + 2 * a) 2 = mi_ M (201 + 2 * b) 2 := by
      rw [za.2.2.1, zb.2.2.1, nI_eq (by omega) (by omega)]
      omega
    by_cases el : (aR A).1 a = (aR A).1 b
    · by_cases hh : hasq i n ((aR A).2.1 a) = true ∧ hasq j n ((aR A).2.1 b) = true
      · obtain ⟨i, n, rfl, rfl, him⟩ := hasq_n za.2.1 hh.1
        obtain ⟨j, n', rfl, en, hjm⟩ := hasq_n zb.2.1 hh.2
        have hnn : n = n' := by
          have h1 := hh.2
          unfold hasq at h1
          rw [decide_eq_true_iff, nI_toInt (show n < 2 ^ 31 by omega)] at h1
          have h2 : (nI n).toInt = (n : Int) := nI_toInt (by omega)
          by_cases hb' : n' < 2 ^ 31
          · exact (nI_eq (by omega) hb').mp en
          · omega
        subst hnn
        refine ⟨sU (sR A (cy_ (aR A) a i b j n)) 0, nI n, ?_, fun M' G' h' => ?_⟩
        · show opX (m_X6_copy M 0 (nI a) (nI i) (nI b) (nI j) (nI n)) _ _ _
          rw [X0, if_neg (by simp [a0, b2]), if_neg (by simp [b0, b2]), if_pos (X1.mp el), if_pos (rowO G ha8), m_has4 G ha8 za.2.1 za.2.2.2.1, Option.bind_some, hh.1, if_neg (by decide), if_pos (rowO G hb8), m_has4 G hb8 zb.2.1 zb.2.2.2.1, Option.bind_some, hh.2, if_neg (by decide), rowI G ha8, Option.bind_some, rowI G hb8, Option.bind_some, cp_ (rowA G ha8).1 (rowA G ha8).2 (rowA G hb8).1 (rowA G hb8).2 (by omega) (by omega) (by decide) (by decide), Option.bind_some]
          refine opX_t (fun q hq => wC_o (by omega)) (fin6 (G.sh (sh_c _ _ _ _ _ _)) (CXr h (fun q _ hq => wC_o (by omega)) (fun r hr8 => ?_)) _)
          have hd := h.2.2.2.1 r hr8
          rw [wC_o (show 201 + 2 * r ≠ 202 + 2 * b by omega)]
          refine ⟨hd.1, fun hz => ⟨(hd.2 hz).1, (hd.2 hz).2.1, (hd.2 hz).2.2.1, (hd.2 hz).2.2.2.1, fun q hq => ?_⟩⟩
          show _ = up1 (aR A).2.2 b (va_cpy ((aR A).2.2 a) ((aR A).2.2 b) i j n) r q
          by_cases hrb : r = b
          · subst hrb
            rw [up1_s, wC_s]
            unfold va_cpy
            by_cases hc : j ≤ q ∧ q < j + n
            · rw [if_pos hc, if_pos hc]
              exact za.2.2.2.2 _ (by omega)
            · rw [if_neg hc, if_neg hc]
              exact zb.2.2.2.2 q hq
          · rw [up1_o hrb, wC_o (by omega)]
            exact (hd.2 hz).2.2.2.2 q hq
        · show opM (m_X7_copy M' 231 (nI a) (nI i) (nI b) (nI j) (nI n)) _ _ _
          rw [m_X7_copy]
          refine q2 G' h' (fun M1 G1 h1 => ?_)
          rw [m_isR, hr, Option.bind_some, if_neg (by decide), m_isR, hy, Option.bind_some, if_neg (by decide)]
          refine q3 G1 h1 (fun M2 G2 h2 => ?_)
          have ya := (CMrU h2) a ha8
          have yb := (CMrU h2) b hb8
          have fa : mi_ M2 232 a = nI ((aR A).1 a - 1) := ya.1.trans (if_neg a0)
          have fb : mi_ M2 232 b = nI ((aR A).1 b - 1) := yb.1.trans (if_neg b0)
          have ga := (ya.2 a0).2.2.1
          have gb := (yb.2 b0).2.2.1
          have c1 : ¬ (0 : Int32) < lg_cmp (Int32.toInt64 (nI i) + Int32.toInt64 (nI n)) (Int32.toInt64 (nI ((aR A).2.1 a))) := by
            rw [lc_gt, Int64.lt_iff_toInt_lt, l64a, Int32.toInt_toInt64, nI_toInt (by omega), nI_toInt (by omega), nI_toInt (by omega)]
            omega
          have c2 : lg_cmp (Int32.toInt64 (nI j) + Int32.toInt64 (nI n)) (Int32.toInt64 (nI ((aR A).2.1 b))) ≤ (0 : Int32) := by
            rw [lc_le, Int64.lt_iff_toInt_lt, l64a, Int32.toInt_toInt64, nI_toInt (by omega), nI_toInt (by omega), nI_toInt (by omega)]
            omega
          rw [R7l G2, Option.bind_some, ld_ (A7l G2).1 (A7l G2).2 ha8 (by decide), Option.bind_some, fa, if_neg (nI_pos (by omega)), Option.bind_some, ld_ (A7l G2).1 (A7l G2).2 hb8 (by decide), Option.bind_some, fb, if_pos (nI_pos' (by omega)), Option.bind_some, ld_ (A7l G2).1 (A7l G2).2 ha8 (by decide), Option.bind_some, fa, Option.bind_some, ld_ (A7l G2).1 (A7l G2).2 hb8 (by decide), Option.bind_some, fb, if_pos (by rw [el]), if_neg (nI_pos (by omega)), if_neg (nI_pos (by omega)), if_neg (nI_pos (by omega)), R7m G2, Option.bind_some, ld_ (A7m G2).1 (A7m G2).2 ha8 (by decide), Option.bind_some, ga, if_neg c1, Option.bind_some, ld_ (A7m G2).1 (A7m G2).2 hb8 (by decide), Option.bind_some, gb, if_pos c2]
          have fin : ∀ N, f1_ 234 M2 N → mi_ N 234 = va_cpy (mi_ M2 234) (mi_ M2 234) (40 * a + i) (40 * b + j) n → opM (some (N, nI n)) M2 (sU (sR A (cy_ (aR A) a i b j n)) 0) (nI n) := by
            intro N e2 e3
            refine pm (G2.sh e2.1) (CMr h2 (fun q _ q1 q2 q3 => e2.2 q q3) (fun r hr8 => ?_)) (fun q hq => e2.2 q (by omega))
            have hd := (CMrU h2) r hr8
            rw [e2.2 232 (by decide), e2.2 233 (by decide), e3]
            refine ⟨hd.1, fun hz => ⟨(hd.2 hz).1, (hd.2 hz).2.1, (hd.2 hz).2.2.1, fun q hq => ?_⟩⟩
            show _ = up1 (aR A).2.2 b (va_cpy ((aR A).2.2 a) ((aR A).2.2 b) i j n) r q
            by_cases hrb : r = b
            · subst hrb
              rw [up1_s]
              unfold va_cpy
              by_cases hc : j ≤ q ∧ q < j + n
              · rw [if_pos hc, if_pos (by omega), show 40 * a + i + (40 * r + q - (40 * r + j)) = 40 * a + (i + (q - j)) by omega]
                exact (ya.2 a0).2.2.2 _ (by omega)
              · rw [if_neg hc, if_neg (by omega)]
                exact (yb.2 b0).2.2.2 q hq
            · rw [up1_o hrb]
              unfold va_cpy
              rw [if_neg (by omega)]
              exact (hd.2 hz).2.2.2 q hq
          by_cases hij : i < j
          · rw [if_pos (nI_lt hij (by omega))]
            obtain ⟨N, e1, e2, e3⟩ := m_cpD (a := a) (i := i) (b := b) (j := j) (m := n) (f0 := mi_ M2 234) (by omega) (by omega) (fun k hk => by
              by_cases hab : a = b
              · subst hab; omega
              · omega) (fun M82 => some (M82, nI n)) n 0 FU M2 G2 (by
              funext q
              unfold va_cpy
              rw [if_neg (by omega)]) (by omega) (by unfold FU; omega)
            rw [show m_X7_copy_L143 (fun M82 => some (M82, nI n)) 231 (nI a) (nI i) (nI b) (nI j) (nI n) (0 : Int32) FU M2 (0 : Int32) = _ from e1]
            exact fin N e2 e3
          · rw [if_neg (nI_nlt (by omega) (by omega))]
            obtain ⟨N, e1, e2, e3⟩ := m_cpU (a := a) (i := i) (b := b) (j := j) (m := n) (f0 := mi_ M2 234) (by omega) (by omega) (fun k hk => by
              by_cases hab : a = b
              · subst hab; omega
              · omega) (fun M82 => some (M82, nI n)) n 0 FU M2 G2 (by
              funext q
              unfold va_cpy
              rw [if_neg (by omega)]) (by omega) (by unfold FU; omega)
            rw [show m_X7_copy_L143 (fun M82 => some (M82, nI n)) 231 (nI a) (nI i) (nI b) (nI j) (nI n) (1 : Int32) FU M2 (0 : Int32) = _ from e1]
            exact fin N e2 e3
      · refine ⟨sU A 2, -1000010 - nI 2, ?_, fun M' G' h' => ?_⟩
        · show opX (m_X6_copy M 0 (nI a) i (nI b) j n) _ _ _
          rw [X0, if_neg (by simp [a0, b2]), if_neg (by simp [b0, b2]), if_pos (X1.mp el), if_pos (rowO G ha8), m_has4 G ha8 za.2.1 za.2.2.2.1, Option.bind_some]
          cases h1 : hasq i n ((aR A).2.1 a) with
          | false =>
            rw [if_pos (by decide)]
            exact fnd6 G h 2
          | true =>
            rw [if_neg (by decide), if_pos (rowO G hb8), m_has4 G hb8 zb.2.1 zb.2.2.2.1, Option.bind_some]
            have h2 : hasq j n ((aR A).2.1 b) = false := by
              cases h2 : hasq j n ((aR A).2.1 b)
              · rfl
              · exact absurd ⟨h1, h2⟩ hh
            rw [h2, if_pos (by decide)]
            exact fnd6 G h 2
        · show opM (m_X7_copy M' 231 (nI a) i (nI b) j n) _ _ _
          rw [m_X7_copy]
          refine q2 G' h' (fun M1 G1 h1 => ?_)
          rw [m_isR, hr, Option.bind_some, if_neg (by decide), m_isR, hy, Option.bind_some, if_neg (by decide)]
          refine q3 G1 h1 (fun M2 G2 h2 => ?_)
          have ya := (CMrU h2) a ha8
          have yb := (CMrU h2) b hb8
          have fa : mi_ M2 232 a = nI ((aR A).1 a - 1) := ya.1.trans (if_neg a0)
          have fb : mi_ M2 232 b = nI ((aR A).1 b - 1) := yb.1.trans (if_neg b0)
          have ga := (ya.2 a0).2.2.1
          have gb := (yb.2 b0).2.2.1
          rw [R7l G2, Option.bind_some, ld_ (A7l G2).1 (A7l G2).2 ha8 (by decide), Option.bind_some, fa, if_neg (nI_pos (by omega)), Option.bind_some, ld_ (A7l G2).1 (A7l G2).2 hb8 (by decide), Option.bind_some, fb, if_pos (nI_pos' (by omega)), Option.bind_some, ld_ (A7l G2).1 (A7l G2).2 ha8 (by decide), Option.bind_some, fa, Option.bind_some, ld_ (A7l G2).1 (A7l G2).2 hb8 (by decide), Option.bind_some, fb, if_pos (by rw [el])]
          by_cases hi0 : i < 0
          · rw [if_pos hi0]
            exact fnd7 G2 h2 2
          rw [if_neg hi0]
          by_cases hj0 : j < 0
          · rw [if_pos hj0]
            exact fnd7 G2 h2 2
          rw [if_neg hj0]
          by_cases hn0 : n < 0
          · rw [if_pos hn0]
            exact fnd7 G2 h2 2
          rw [if_neg hn0, R7m G2, Option.bind_some, ld_ (A7m G2).1 (A7m G2).2 ha8 (by decide), Option.bind_some, ga]
          by_cases c1 : (0 : Int32) < lg_cmp (Int32.toInt64 i + Int32.toInt64 n) (Int32.toInt64 (nI ((aR A).2.1 a)))
          · rw [if_pos c1]
            exact fnd7 G2 h2 2
          rw [if_neg c1, Option.bind_some, ld_ (A7m G2).1 (A7m G2).2 hb8 (by decide), Option.bind_some, gb]
          rw [if_neg (show ¬ lg_cmp (Int32.toInt64 j + Int32.toInt64 n) (Int32.toInt64 (nI ((aR A).2.1 b))) ≤ (0 : Int32) from fun c2 => hh (by
            rw [lc_gt, Int64.lt_iff_toInt_lt, l64a, Int32.toInt_toInt64, nI_toInt (by omega)] at c1
            rw [lc_le, Int64.lt_iff_toInt_lt, l64a, Int32.toInt_toInt64, nI_toInt (by omega)] at c2
            rw [lt0] at hi0 hj0 hn0
            unfold hasq
            rw [decide_eq_true_iff, decide_eq_true_iff]
            omega))]
          exact fnd7 G2 h2 2
    · refine ⟨sU A 5, -1000010 - nI 5, ?_, fun M' G' h' => ?_⟩
      · show opX (m_X6_copy M 0 (nI a) i (nI b) j n) _ _ _
        rw [X0, if_neg (by simp [a0, b2]), if_neg (by simp [b0, b2]), if_neg (fun q => el (X1.mpr q))]
        exact fnd6 G h 5
      · show opM (m_X7_copy M' 231 (nI a) i (nI b) j n) _ _ _
        rw [m_X7_copy]
        refine q2 G' h' (fun M1 G1 h1 => ?_)
        rw [m_isR, hr, Option.bind_some, if_neg (by decide), m_isR, hy, Option.bind_some, if_neg (by decide)]
        refine q3 G1 h1 (fun M2 G2 h2 => ?_)
        have ya := (CMrU h2) a ha8
        have yb := (CMrU h2) b hb8
        have fa : mi_ M2 232 a = nI ((aR A).1 a - 1) := ya.1.trans (if_neg a0)
        have fb : mi_ M2 232 b = nI ((aR A).1 b - 1) := yb.1.trans (if_neg b0)
        rw [R7l G2, Option.bind_some, ld_ (A7l G2).1 (A7l G2).2 ha8 (by decide), Option.bind_some, fa, if_neg (nI_pos (by omega)), Option.bind_some, ld_ (A7l G2).1 (A7l G2).2 hb8 (by decide), Option.bind_some, fb, if_pos (nI_pos' (by omega)), Option.bind_some, ld_ (A7l G2).1 (A7l G2).2 ha8 (by decide), Option.bind_some, fa, Option.bind_some, ld_ (A7l G2).1 (A7l G2).2 hb8 (by decide), Option.bind_some, fb, if_neg (by rw [nI_eq (by omega) (by omega)]; omega)]
        exact fnd7 G2 h2 5
end O8
