/-! ===== undo, days, change, teach, forget, tell, image, restore ===== -/
def dA : Nat → aS → aS
  | 0, A => A
  | n + 1, A => dA n (sN (sK A (ka_ (aK A) (aN A))) (dayS (aN A)))
theorem n_out {M : mM} {x : Int32} {l h : Int32} {b : Bool} (e : rg x l.toInt h.toInt = b) : m_X6_outside M x l h = some (b2 (!b)) := by rw [m_out, e]
theorem n_in {M : mM} {x : Int32} {l h : Int64} {b : Bool} (e : rg x l.toInt h.toInt = b) : m_X7_in M (Int32.toInt64 x) l h = some (b2 b) := by rw [m_in7, e]
theorem dA_ok : ∀ (d : Nat) (A : aS), wf (aN A) → iv (aN A) → aN A 0 4 + d ≤ 999 → wf (aN (dA d A)) ∧ iv (aN (dA d A)) ∧ aN (dA d A) 0 4 ≤ 999
  | 0, A, w, i7, hd => ⟨w, i7, by have : aN A 0 4 ≤ 999 := by omega
                                  exact this⟩
  | d + 1, A, w, i7, hd => dA_ok d (sN (sK A (ka_ (aK A) (aN A))) (dayS (aN A))) (wf_day w (by omega)) (iv_day w i7) (by show dayS (aN A) 0 4 + d ≤ 999; rw [dayS_4]; omega)
section O9
theorem X_day {M : mM} {A : aS} (G : GS M) (h : CX A M) (w : wf (aN A)) (i7 : iv (aN A)) (hd : aN A 0 4 < 999) : ∃ N, m_X5_passDay M 2 = some N ∧ GS N ∧ CX (sN A (dayS (aN A))) N ∧ hi_ M N := by
  obtain ⟨N, n1, n2, n3, n4⟩ := m_day (Sn G) w h.1.1 (by omega)
  exact ⟨N, n1, G.sh n3.1, CXn h (fun b _ hb => n3.2 b (by omega)) ⟨n2, Or.inr ⟨n4, iv_day w i7, by rw [dayS_4]; omega⟩⟩, fun b hb => n3.2 b (by omega)⟩
theorem M_day {M : mM} {A : aS} (G : GS M) (h : CM A M) (w : wf (aN A)) (i7 : iv (aN A)) (hd : aN A 0 4 < 999) : ∃ N, m_X7_dayBy M 231 235 (0 : Int32) = some N ∧ GS N ∧ CM (sN A (dayS (aN A))) N ∧ lo_ M N := by
  obtain ⟨N, n1, n2, n3, n4, n5⟩ := m_db G.mh (A7s G) w i7 h.1.1 (by decide) (by omega) 0
  rw [show dayB (decide ((0 : Int32) = 0)) (aN A) = dayS (aN A) from rfl] at n3 n4 n5
  exact ⟨N, n1, G.sh n2.1, CMn h (fun b _ h1 h2 => n2.2 b h1 h2) ⟨n3, Or.inr ⟨n4, n5, by rw [dayS_4]; omega⟩⟩, fun b hb => n2.2 b (by omega) (by omega)⟩
theorem m_dXL {m : Nat} (hm : m ≤ 24) {ρ : Type} (k0 : mM → Option ρ) : ∀ (d i n : Nat) (M : mM) (A : aS), GS M → CX A M → wf (aN A) → iv (aN A) → aN A 0 4 + d ≤ 999 → i + d = m → d < n → ∃ N, m_X6_days_L43 k0 0 (nI m) n M (nI i) = k0 N ∧ GS N ∧ CX (dA d A) N ∧ hi_ M N := by
  intro d
  induction d with
  | zero =>
    intro i n M A G h w i7 hd hi hn
    obtain ⟨n, rfl⟩ : ∃ z, n = z + 1 := ⟨n - 1, by omega⟩
    exact ⟨M, by rw [m_X6_days_L43, if_pos (nI_le (by omega) (by omega))], G, h, hi_r⟩
  | succ d ih =>
    intro i n M A G h w i7 hd hi hn
    obtain ⟨n, rfl⟩ : ∃ z, n = z + 1 := ⟨n - 1, by omega⟩
    obtain ⟨K, k1, k2, k3, k4⟩ := keepX G h w i7 (by omega)
    obtain ⟨L, l1, l2, l3, l4⟩ := X_day (A := sK A (ka_ (aK A) (aN A))) k2 k3 w i7 (by show aN A 0 4 < 999; omega)
    obtain ⟨N, n1, n2, n3, n4⟩ := ih (i + 1) n L (sN (sK A (ka_ (aK A) (aN A))) (dayS (aN A))) l2 l3 (wf_day w (by omega)) (iv_day w i7) (by show dayS (aN A) 0 4 + d ≤ 999; rw [dayS_4]; omega) (by omega) (by omega)
    refine ⟨N, ?_, n2, n3, hi_t k4 (hi_t l4 n4)⟩
    rw [m_X6_days_L43, if_neg (nI_ge (by omega) (by omega)), R6a G, Option.bind_some, R6n G, Option.bind_some, if_pos (actO G), k1, Option.bind_some, R6n k2, Option.bind_some, if_pos (Sn k2).1, l1, Option.bind_some, nI_1]
    exact n1
theorem m_dML {m : Nat} (hm : m ≤ 24) {ρ : Type} (k0 : mM → Option ρ) : ∀ (d i n : Nat) (M : mM) (A : aS), GS M → CM A M → wf (aN A) → iv (aN A) → aN A 0 4 + d ≤ 999 → i + d = m → d < n → ∃ N, m_X7_days_L49 k0 231 (nI m) n M (nI i) = k0 N ∧ GS N ∧ CM (dA d A) N ∧ lo_ M N := by
  intro d
  induction d with
  | zero =>
    intro i n M A G h w i7 hd hi hn
    obtain ⟨n, rfl⟩ : ∃ z, n = z + 1 := ⟨n - 1, by omega⟩
    exact ⟨M, by rw [m_X7_days_L49, if_pos (nI_le (by omega) (by omega))], G, h, lo_r⟩
  | succ d ih =>
    intro i n M A G h w i7 hd hi hn
    obtain ⟨n, rfl⟩ : ∃ z, n = z + 1 := ⟨n - 1, by omega⟩
    obtain ⟨K, k1, k2, k3, k4⟩ := keepM G h w i7 (by omega)
    obtain ⟨L, l1, l2, l3, l4⟩ := M_day (A := sK A (ka_ (aK A) (aN A))) k2 k3 w i7 (by show aN A 0 4 < 999; omega)
    obtain ⟨N, n1, n2, n3, n4⟩ := ih (i + 1) n L (sN (sK A (ka_ (aK A) (aN A))) (dayS (aN A))) l2 l3 (wf_day w (by omega)) (iv_day w i7) (by show dayS (aN A) 0 4 + d ≤ 999; rw [dayS_4]; omega) (by omega) (by omega)
    refine ⟨N, ?_, n2, n3, lo_t k4 (lo_t l4 n4)⟩
    rw [m_X7_days_L49, if_neg (nI_ge (by omega) (by omega)), if_pos (O7 G), k1, Option.bind_some, R7s k2, Option.bind_some, if_pos (O7 k2), l1, Option.bind_some, nI_1]
    exact n1
variable (A : aS)
theorem o_days (x : Int32) : both A (fun M => m_X6_days M 0 x) (fun M => m_X7_days M 231 x) := by
  intro M G h
  have hn := h.1
  by_cases h0 : aN A 0 3 = 0
  · refine ⟨A, -1000002, ?_, fun M' G' h' => ?_⟩
    · show opX (m_X6_days M 0 x) _ _ _
      rw [m_X6_days, if_pos (O6 G), m_noS G hn, Option.bind_some, if_neg (by simp [h0, b2])]
      exact px0 G h
    · show opM (m_X7_days M' 231 x) _ _ _
      rw [m_X7_days]
      refine q2 G' h' (fun M1 G1 h1 => ?_)
      rw [if_pos (O7 G1), m_isT G1 h1.1, Option.bind_some, if_pos (by simp [h0, b2])]
      exact pm0 G1 h1
  · obtain ⟨w, i7, hd⟩ := vs_w hn.2 (j := 3) (by decide) h0
    cases hr : rg x 1 24 with
    | false =>
      refine ⟨A, -1000001, ?_, fun M' G' h' => ?_⟩
      · show opX (m_X6_days M 0 x) _ _ _
        rw [m_X6_days, if_pos (O6 G), m_noS G hn, Option.bind_some, if_pos (by simp [h0, b2]), n_out (b := false) hr, Option.bind_some, if_neg (by decide)]
        exact px0 G h
      · show opM (m_X7_days M' 231 x) _ _ _
        rw [m_X7_days]
        refine q2 G' h' (fun M1 G1 h1 => ?_)
        rw [if_pos (O7 G1), m_isT G1 h1.1, Option.bind_some, if_neg (by simp [h0, b2]), n_in (b := false) hr, Option.bind_some, if_pos (by decide)]
        exact pm0 G1 h1
    | true =>
      obtain ⟨m, hm, rfl⟩ : ∃ m, m ≤ 24 ∧ x = nI m := rg_n (n := 24) (by
        simp only [rg, Bool.and_eq_true, decide_eq_true_eq] at hr ⊢
        omega)
      by_cases hf : aN A 0 4 + m ≤ 999
      · have dk := dA_ok m A w i7 hf
        refine ⟨dA m A, nI (known (aN (dA m A))), ?_, fun M' G' h' => ?_⟩
        · show opX (m_X6_days M 0 (nI m)) _ _ _
          obtain ⟨N, n1, n2, n3, n4⟩ := m_dXL hm (fun M25 => (gR M25 0 6 1).bind fun b26 => if isO M25 b26 5 = true then (m_X5_known M25 b26).bind fun v29 => some (M25, v29) else none) m 0 FU M A G h w i7 hf (by omega) (by unfold FU; omega)
          rw [m_X6_days, if_pos (O6 G), m_noS G hn, Option.bind_some, if_pos (by simp [h0, b2]), n_out (b := true) hr, Option.bind_some, if_pos (by decide), R6n G, Option.bind_some, g_s (Sn G) hn.1 (j := 4) (by decide), Option.bind_some, nI_add, if_pos (show nI (aN A 0 4 + m) ≤ (999 : Int32) from (nI_le hf (by decide) : _ ≤ nI 999))]
          rw [show m_X6_days_L43 _ 0 (nI m) FU M (0 : Int32) = _ from n1, R6n n2, Option.bind_some, if_pos (Sn n2).1, m_known (Sn n2) dk.1 n3.1.1, Option.bind_some]
          exact px n2 n3 n4
        · show opM (m_X7_days M' 231 (nI m)) _ _ _
          rw [m_X7_days]
          refine q2 G' h' (fun M1 G1 h1 => ?_)
          obtain ⟨N, n1, n2, n3, n4⟩ := m_dML hm (fun M23 => (gR M23 231 7 5).bind fun b24 => (m_X7_known M23 b24).bind fun v27 => some (M23, v27)) m 0 FU M1 A G1 h1 w i7 hf (by omega) (by unfold FU; omega)
          rw [if_pos (O7 G1), m_isT G1 h1.1, Option.bind_some, if_neg (by simp [h0, b2]), n_in (b := true) hr, Option.bind_some, if_neg (by decide), R7s G1, Option.bind_some, l_Y (A7s G1) h1.1.1, Option.bind_some, nI_add, if_pos (show nI (aN A 0 4 + m) ≤ (999 : Int32) from (nI_le hf (by decide) : _ ≤ nI 999))]
          rw [show m_X7_days_L49 _ 231 (nI m) FU M1 (0 : Int32) = _ from n1, R7s n2, Option.bind_some, m_kn7 (A7s n2) dk.1 n3.1.1, Option.bind_some]
          exact pm n2 n3 n4
      · refine ⟨A, -1000003, ?_, fun M' G' h' => ?_⟩
        · show opX (m_X6_days M 0 (nI m)) _ _ _
          rw [m_X6_days, if_pos (O6 G), m_noS G hn, Option.bind_some, if_pos (by simp [h0, b2]), n_out (b := true) hr, Option.bind_some, if_pos (by decide), R6n G, Option.bind_some, g_s (Sn G) hn.1 (j := 4) (by decide), Option.bind_some, nI_add, if_neg (show ¬ nI (aN A 0 4 + m) ≤ (999 : Int32) from (nI_ge (by omega) (by omega) : ¬ _ ≤ nI 999))]
          exact px0 G h
        · show opM (m_X7_days M' 231 (nI m)) _ _ _
          rw [m_X7_days]
          refine q2 G' h' (fun M1 G1 h1 => ?_)
          rw [if_pos (O7 G1), m_isT G1 h1.1, Option.bind_some, if_neg (by simp [h0, b2]), n_in (b := true) hr, Option.bind_some, if_neg (by decide), R7s G1, Option.bind_some, l_Y (A7s G1) h1.1.1, Option.bind_some, nI_add, if_neg (show ¬ nI (aN A 0 4 + m) ≤ (999 : Int32) from (nI_ge (by omega) (by omega) : ¬ _ ≤ nI 999))]
          exact pm0 G1 h1
theorem m_unL {a : Nat} {g f0 : Nat → Int32} (ha : a < 24) {ρ : Type} (k0 : mM → Option ρ) : ∀ (d k n : Nat) (M : mM), GS M → mi_ M 231 9 = nI a → mi_ M 238 = g → mi_ M 235 = va_cpy g f0 (73 * a) 0 k → k + d = 73 → d < n → ∃ N, m_X7_undo_L27 k0 231 n M (nI k) = k0 N ∧ f1_ 235 M N ∧ mi_ N 235 = va_cpy g f0 (73 * a) 0 73 := by
  intro d
  induction d with
  | zero =>
    intro k n M G e1 e2 e3 hk hn
    obtain ⟨n, rfl⟩ : ∃ z, n = z + 1 := ⟨n - 1, by omega⟩
    have : k = 73 := by omega
    subst this
    exact ⟨M, by rw [m_X7_undo_L27, if_pos (by decide)], f1_r _ _, e3⟩
  | succ d ih =>
    intro k n M G e1 e2 e3 hk hn
    obtain ⟨n, rfl⟩ : ∃ z, n = z + 1 := ⟨n - 1, by omega⟩
    obtain ⟨N, r1, r2, r3⟩ := ih (k + 1) n (wI M 235 k (g (73 * a + k))) (GS_w G) (by rw [wI_o (by decide)]; exact e1) (by rw [wI_o (by decide)]; exact e2) (by rw [wI_a, e3, cpy_s, Nat.zero_add]) (by omega) (by omega)
    refine ⟨N, ?_, f1_t f1_w r2, r3⟩
    rw [m_X7_undo_L27, if_neg (show ¬ (73 : Int32) ≤ nI k from (nI_ge (by omega) (by decide) : ¬ nI 73 ≤ nI k)), R7s G, Option.bind_some, R7w G, Option.bind_some, gI_ (O7 G), Option.bind_some, e1, c73, ld_ (A7w G).1 (A7w G).2 (by omega) (by decide), Option.bind_some, e2, st_ (A7s G).1 (A7s G).2 (by omega) (by decide), Option.bind_some, nI_1]
    exact r1
theorem o_undo : both A (fun M => m_X6_undo M 0) (fun M => m_X7_undo M 231) := by
  intro M G h
  obtain ⟨a1, lt, l1, l2, l3, l4⟩ := h.2.2.1
  by_cases h0 : (aK A).1 = 0
  · refine ⟨A, -1000002, ?_, fun M' G' h' => ?_⟩
    · show opX (m_X6_undo M 0) _ _ _
      have e : m_X0_takeBack M 10 2 = some (M, 0) := by rw [m_X0_takeBack, gI_ (actO G), Option.bind_some, l3, h0, if_pos (by decide)]
      rw [m_X6_undo, R6a G, Option.bind_some, R6n G, Option.bind_some, if_pos (actO G), e, bd2_s, if_pos rfl]
      exact px0 G h
    · show opM (m_X7_undo M' 231) _ _ _
      rw [m_X7_undo]
      refine q2 G' h' (fun M1 G1 h1 => ?_)
      rw [gI_ (O7 G1), Option.bind_some, h1.2.2.1.2.1, h0, if_pos (by decide)]
      exact pm0 G1 h1
  · have y := l4 0 (by omega)
    rw [show (lt + 24 - 0) % 24 = lt by omega] at y
    have vv : vs ((aK A).2 0) := Or.inr ⟨y.2.1, y.2.2.1, y.2.2.2⟩
    refine ⟨sN (sK A ((aK A).1 - 1, fun j => (aK A).2 (j + 1))) ((aK A).2 0), nI ((aK A).1 - 1), ?_, fun M' G' h' => ?_⟩
    · show opX (m_X6_undo M 0) _ _ _
      obtain ⟨K, k1, k2, k3⟩ := m_be (c := (aK A).2 0) (Sn G) (actS G l1) (Or.inl (by omega)) (wf_b y.2.1) y.1
      have GK : GS K := G.sh k3.1
      have hl : (lt + 24 - 1) % 24 < 24 := Nat.mod_lt _ (by decide)
      have er : rm_ ((nI lt + (24 : Int32)) - (1 : Int32)) (24 : Int32) = nI ((lt + 24 - 1) % 24) := by
        rw [show nI lt + (24 : Int32) = nI (lt + 24) from nI_add lt 24, show (1 : Int32) = nI 1 from rfl, pk_sub (by omega)]
        exact pk_rem (by omega) (by decide) (by decide)
      have e10 : mi_ K 10 = mi_ M 10 := k3.2 10 (by decide)
      have e : m_X0_takeBack M 10 2 = some (wI (wI K 10 1 (nI ((lt + 24 - 1) % 24))) 10 2 (nI ((aK A).1 - 1)), 1) := by
        rw [m_X0_takeBack, gI_ (actO G), Option.bind_some, l3, if_neg (nI_ne0 (by omega) (by omega)), actB G, Option.bind_some, gI_ (actO G), Option.bind_some, l2, actR G l1, Option.bind_some, if_pos (Sn G).1, k1, Option.bind_some, gI_ (actO GK), Option.bind_some, e10, l2, er, pI_ (actO GK), Option.bind_some, gI_ (actO (GS_w GK)), Option.bind_some, wI_s, if_neg (show ¬ (2 = 1) by decide), e10, l3, pI_ (actO (GS_w GK)), Option.bind_some, show (1 : Int32) = nI 1 from rfl, pk_sub (by omega)]
      rw [m_X6_undo, R6a G, Option.bind_some, R6n G, Option.bind_some, if_pos (actO G), e, bd2_s, if_neg (by decide), R6a (GS_w (GS_w GK)), Option.bind_some, gI_ (actO (GS_w (GS_w GK))), Option.bind_some, wI_s, if_pos rfl]
      have CK : CX (sN A ((aK A).2 0)) K := CXn h (fun b _ hb => k3.2 b (by omega)) ⟨k2, vv⟩
      refine px (GS_w (GS_w GK)) ?_ (fun q hq => by rw [wI_o (by omega), wI_o (by omega), k3.2 q (by omega)])
      refine CXa (A := sN A ((aK A).2 0)) CK (fun q _ hq => by rw [wI_o (by omega), wI_o (by omega)]) ⟨by show (aK A).1 - 1 ≤ 24; omega, (lt + 24 - 1) % 24, hl, by rw [wI_s, if_neg (by decide), wI_s, if_pos rfl], by rw [wI_s, if_pos rfl], fun j hj => ?_⟩
      have hj' : j < (aK A).1 - 1 := hj
      have yj := l4 (j + 1) (by omega)
      rw [show ((lt + 24 - 1) % 24 + 24 - j) % 24 = (lt + 24 - (j + 1)) % 24 by omega]
      have hx : (lt + 24 - (j + 1)) % 24 < 24 := Nat.mod_lt _ (by decide)
      refine ⟨yj.1.o (fun a ha => ?_), yj.2⟩
      rw [wI_o (by omega), wI_o (by omega), k3.2 _ (by omega)]
    · show opM (m_X7_undo M' 231) _ _ _
      rw [m_X7_undo]
      refine q2 G' h' (fun M1 G1 h1 => ?_)
      obtain ⟨d1, d2, d3⟩ := h1.2.2.1
      obtain ⟨N, n1, n2, n3⟩ := m_unL (a := (aK A).1 - 1) (g := mi_ M1 238) (f0 := mi_ M1 235) (by omega) (fun M21 => (gI M21 231 7 9).bind fun v22 => some (M21, v22)) 73 0 FU (wI M1 231 9 (nI ((aK A).1 - 1))) (GS_w G1) (by rw [wI_s, if_pos rfl]) (wI_o (by decide)) (by rw [cpy_0]; exact wI_o (by decide)) (by decide) (by decide)
      have GN : GS N := (GS_w G1).sh n2.1
      rw [gI_ (O7 G1), Option.bind_some, d2, if_neg (nI_ne0 (by omega) (by omega)), Option.bind_some, pI_ (O7 G1), Option.bind_some, show nI (aK A).1 - (1 : Int32) = nI ((aK A).1 - 1) from pk_sub (b := 1) (by omega), show m_X7_undo_L27 _ 231 FU (wI M1 231 9 (nI ((aK A).1 - 1))) (0 : Int32) = _ from n1, gI_ (O7 GN), Option.bind_some, n2.2 231 (by decide), wI_s, if_pos rfl]
      have y0 := d3 0 (by omega)
      have DN : Dn N ((aK A).2 0) := ⟨RC_cg (wf_b y0.2.1) (fun q hq => by
        rw [n3]
        unfold va_cpy
        rw [if_pos (by omega)]
        exact congrArg _ (by omega)) y0.1, vv⟩
      have C1 : CM (sK A ((aK A).1 - 1, fun j => (aK A).2 (j + 1))) (wI M1 231 9 (nI ((aK A).1 - 1))) := by
        refine CMa h1 (fun q _ q1 q2 => wI_o q1) (fun q hq => by rw [wI_s, if_neg hq]) ⟨by show (aK A).1 - 1 ≤ 24; omega, by rw [wI_s, if_pos rfl], fun j hj => ?_⟩
        have hj' : j < (aK A).1 - 1 := hj
        have yj := d3 (j + 1) (by omega)
        rw [wI_o (show 238 ≠ 231 by decide)]
        refine ⟨RC_cg (wf_b yj.2.1) (fun q hq => congrArg _ ?_) yj.1, yj.2⟩
        show 73 * ((aK A).1 - 1 - 1 - j) + q = _
        omega
      exact pm GN (CMn C1 (fun q _ q1 q2 => n2.2 q q1) DN) (fun q hq => by rw [n2.2 q (by omega), wI_o (by omega)])
theorem o_change (x y : Int32) : both A (fun M => m_X6_change M 0 x y) (fun M => m_X7_change M 231 x y) := by
  intro M G h
  have hn := h.1
  cases hr : rg x 0 ((aN A 0 3 : Int) - 1) with
  | false =>
    refine ⟨A, -1000001, ?_, fun M' G' h' => ?_⟩
    · show opX (m_X6_change M 0 x y) _ _ _
      rw [m_X6_change, if_pos (O6 G), m_noP G hn, hr, Option.bind_some, if_neg (by decide)]
      exact px0 G h
    · show opM (m_X7_change M' 231 x y) _ _ _
      rw [m_X7_change]
      refine q2 G' h' (fun M1 G1 h1 => ?_)
      rw [if_pos (O7 G1), m_isP G1 h1.1, hr, Option.bind_some, if_pos (by decide)]
      exact pm0 G1 h1
  | true =>
  cases hy : rg y 0 ((aN A 0 3 : Int) - 1) with
  | false =>
    refine ⟨A, -1000001, ?_, fun M' G' h' => ?_⟩
    · show opX (m_X6_change M 0 x y) _ _ _
      rw [m_X6_change, if_pos (O6 G), m_noP G hn, hr, Option.bind_some, if_pos (by decide), if_pos (O6 G), m_noP G hn, hy, Option.bind_some, if_neg (by decide)]
      exact px0 G h
    · show opM (m_X7_change M' 231 x y) _ _ _
      rw [m_X7_change]
      refine q2 G' h' (fun M1 G1 h1 => ?_)
      rw [if_pos (O7 G1), m_isP G1 h1.1, hr, Option.bind_some, if_neg (by decide), if_pos (O7 G1), m_isP G1 h1.1, hy, Option.bind_some, if_pos (by decide)]
      exact pm0 G1 h1
  | true =>
  by_cases hxy : x = y
  · refine ⟨A, -1000001, ?_, fun M' G' h' => ?_⟩
    · show opX (m_X6_change M 0 x y) _ _ _
      rw [m_X6_change, if_pos (O6 G), m_noP G hn, hr, Option.bind_some, if_pos (by decide), if_pos (O6 G), m_noP G hn, hy, Option.bind_some, if_pos (by decide), if_pos hxy]
      exact px0 G h
    · show opM (m_X7_change M' 231 x y) _ _ _
      rw [m_X7_change]
      refine q2 G' h' (fun M1 G1 h1 => ?_)
      rw [if_pos (O7 G1), m_isP G1 h1.1, hr, Option.bind_some, if_neg (by decide), if_pos (O7 G1), m_isP G1 h1.1, hy, Option.bind_some, if_neg (by decide), if_pos hxy]
      exact pm0 G1 h1
  obtain ⟨p, hp, rfl⟩ := rg_s hr
  obtain ⟨q, hq, rfl⟩ := rg_s hy
  have hpq : p ≠ q := fun e => hxy (by rw [e])
  obtain ⟨w, i7, hd⟩ := vs_w hn.2 (j := 3) (by decide) (by omega)
  have ep := i7.1 p hp
  have eq := i7.1 q hq
  have wc := wf_chg w i7 hp hq
  have ic := iv_chg w i7 hp hq
  have e0 : chg (aN A) p q 0 = aN A 0 := chg_o (by decide) (by decide)
  have vc : vs (chg (aN A) p q) := Or.inr ⟨wc, ic, by rw [e0]; exact hd⟩
  have c7 : chg (aN A) p q 7 p = aN A 7 q := by rw [chg_7, if_neg hpq, if_pos rfl]
  refine ⟨sN (sK A (ka_ (aK A) (aN A))) (chg (aN A) p q), nI (aN A 7 q), ?_, fun M' G' h' => ?_⟩
  · show opX (m_X6_change M 0 (nI p) (nI q)) _ _ _
    obtain ⟨K, k1, k2, k3, k4⟩ := keepX G h w i7 hd
    obtain ⟨N, n1, n2, n3⟩ := m_swS (Sn k2) w k3.1.1 ep.1 eq.1
    have GN : GS N := k2.sh n3.1
    have sp := m_seat (Sn k2) w k3.1.1 ep.1
    have sq := m_seat (Sn k2) w k3.1.1 eq.1
    have SN : SA N 2 (chg (aN A) p q) := n2
    have s3 := m_seat (Sn GN) wc SN (t := aN A 7 q) (by rw [e0]; exact eq.1)
    rw [show chg (aN A) p q 5 (aN A 7 q) = p by rw [chg_5, if_pos rfl, ep.2]] at s3
    rw [ep.2] at sp
    rw [eq.2] at sq
    rw [m_X6_change, if_pos (O6 G), m_noP G hn, hr, Option.bind_some, if_pos (by decide), if_pos (O6 G), m_noP G hn, hy, Option.bind_some, if_pos (by decide), if_neg hxy, R6a G, Option.bind_some, R6n G, Option.bind_some, if_pos (actO G), k1, Option.bind_some, R6n k2, Option.bind_some, Option.bind_some, if_pos (Sn k2).1, sp, Option.bind_some, Option.bind_some, if_pos (Sn k2).1, sq, Option.bind_some, if_pos (Sn k2).1, n1, Option.bind_some, R6n GN, Option.bind_some, if_pos (Sn GN).1, s3, Option.bind_some]
    exact px GN (CXn k3 (fun b _ hb => n3.2 b (by omega)) ⟨SN, vc⟩) (hi_t k4 (fun b hb => n3.2 b (by omega)))
  · show opM (m_X7_change M' 231 (nI p) (nI q)) _ _ _
    rw [m_X7_change]
    refine q2 G' h' (fun M1 G1 h1 => ?_)
    obtain ⟨K, k1, k2, k3, k4⟩ := keepM G1 h1 w i7 hd
    have RK : RC_ (mi_ K 235) (aN A) := k3.1.1
    have hP := w.2.2.2.1.2
    have AK1 : AK (wI K 235 (19 + 9 * p + 1) (nI (aN A 7 q))) 235 := A7s (GS_w k2)
    have ex : m_X7_exchange K 235 (nI p) (nI q) = some (wI (wI K 235 (19 + 9 * p + 1) (nI (aN A 7 q))) 235 (19 + 9 * q + 1) (nI (aN A 7 p))) := by
      rw [m_X7_exchange, o_1 (A7s k2) w RK hp, Option.bind_some, o_1 (A7s k2) w RK hq, Option.bind_some, show m_X7_be K 235 (nI p) (1 : Int32) (nI (aN A 7 q)) = _ from m_be9 (A7s k2) (p := p) (q := 1) (by omega), Option.bind_some, show m_X7_be _ 235 (nI q) (1 : Int32) (nI (aN A 7 p)) = _ from m_be9 AK1 (p := q) (q := 1) (by omega), Option.bind_some]
    have RN : RC_ (mi_ (wI (wI K 235 (19 + 9 * p + 1) (nI (aN A 7 q))) 235 (19 + 9 * q + 1) (nI (aN A 7 p))) 235) (chg (aN A) p q) := by
      rw [wI_a, wI_a]
      have bb := wf_b w
      have RK' : RC_ (mi_ K 235) (sw (aN A) 5 (aN A 7 p) (aN A 7 q)) := RK
      exact RC_7 (c := up2 (sw (aN A) 5 (aN A 7 p) (aN A 7 q)) 7 p (aN A 7 q)) bb (RC_7 (c := sw (aN A) 5 (aN A 7 p) (aN A 7 q)) bb RK')
    have GN : GS (wI (wI K 235 (19 + 9 * p + 1) (nI (aN A 7 q))) 235 (19 + 9 * q + 1) (nI (aN A 7 p))) := GS_w (GS_w k2)
    rw [if_pos (O7 G1), m_isP G1 h1.1, hr, Option.bind_some, if_neg (by decide), if_pos (O7 G1), m_isP G1 h1.1, hy, Option.bind_some, if_neg (by decide), if_neg hxy, if_pos (O7 G1), k1, Option.bind_some, R7s k2, Option.bind_some, ex, Option.bind_some, R7s GN, Option.bind_some, o_1 (A7s GN) wc RN (by rw [e0]; exact hp), Option.bind_some, c7]
    exact pm GN (CMn k3 (fun b _ b1 b2 => by rw [wI_o b1, wI_o b1]) ⟨RN, vc⟩) (lo_t k4 (fun b hb => by rw [wI_o (by omega), wI_o (by omega)]))
end O9
