/-! ===== pupil, top, fellows, count ===== -/
section O2
variable {M : mM} {c : sT}
theorem m_g7L (G : GS M) (w : wf c) (R : RC_ (mi_ M 235) c) {m : Nat} (hm : m < 64) {ρ : Type} (k0 : Int32 → Option ρ) : ∀ (d i n x : Nat), i + d = c 0 1 → d < n → x < 64 → m_X7_graspable_L4 k0 M 231 (nI m) n (nI x) (nI i) = k0 (nI (fo (fun s r => if grasp c s m then r ||| 2 ^ s else r) i d x)) := by
  have hJ := w.2.1.2
  intro d
  induction d with
  | zero =>
    intro i n x hi hn _
    obtain ⟨n, rfl⟩ : ∃ z, n = z + 1 := ⟨n - 1, by omega⟩
    rw [m_X7_graspable_L4, R7s G, Option.bind_some, l_J (A7s G) R, Option.bind_some, if_pos (nI_le (show c 0 1 ≤ i by omega) (by omega))]
    rfl
  | succ d ih =>
    intro i n x hi hn hx
    obtain ⟨n, rfl⟩ : ∃ z, n = z + 1 := ⟨n - 1, by omega⟩
    have hi' : i < c 0 1 := by omega
    rw [m_X7_graspable_L4, R7s G, Option.bind_some, l_J (A7s G) R, Option.bind_some, if_neg (nI_ge hi' (by omega)), Option.bind_some, m_can (A7s G) w R hi' hm, Option.bind_some, or_0 hx, f_or x hx i (by omega), nI_1, ih (i + 1) n x (by omega) (by omega) hx, ih (i + 1) n _ (by omega) (by omega) (o_lt hx (p2_lt (by omega)))]
    cases hg : grasp c i m with
    | true =>
      rw [if_neg (by decide)]
      simp only [fo, hg, if_true]
    | false =>
      rw [if_pos (by decide)]
      simp only [fo, hg, if_false, Bool.false_eq_true]
theorem m_g7 (G : GS M) (w : wf c) (R : RC_ (mi_ M 235) c) {m : Nat} (hm : m < 64) : m_X7_graspable M 231 (nI m) = some (nI (gset c m)) := by
  have hJ := w.2.1.2
  exact m_g7L G w R hm _ (c 0 1) 0 FU 0 (by omega) (by unfold FU; omega) (by decide)
theorem m_t7L (G : GS M) (w : wf c) (R : RC_ (mi_ M 235) c) (y : Int32) {ρ : Type} (k0 : Int32 → Option ρ) : ∀ (d i n x : Nat), i + d = c 0 3 → d < n → x < c 0 3 → m_X7_top_L32 k0 M 231 y n (nI x) (nI i) = k0 (nI (fo (fun p b => if bc (c 4 p) ≤ bc (c 4 b) then b else p) i d x)) := by
  have hP := w.2.2.2.1.2
  intro d
  induction d with
  | zero =>
    intro i n x hi hn _
    obtain ⟨n, rfl⟩ : ∃ z, n = z + 1 := ⟨n - 1, by omega⟩
    rw [m_X7_top_L32, R7s G, Option.bind_some, l_P (A7s G) R, Option.bind_some, if_pos (nI_le (show c 0 3 ≤ i by omega) (by omega))]
    rfl
  | succ d ih =>
    intro i n x hi hn hx
    obtain ⟨n, rfl⟩ : ∃ z, n = z + 1 := ⟨n - 1, by omega⟩
    have hi' : i < c 0 3 := by omega
    have b1 := f_bcl _ (q_knows w hi')
    have b3 := f_bcl _ (q_knows w hx)
    rw [m_X7_top_L32, R7s G, Option.bind_some, l_P (A7s G) R, Option.bind_some, if_neg (nI_ge hi' (by omega)), Option.bind_some, o_2 (A7s G) w R hi', Option.bind_some, m_bits (q_knows w hi'), Option.bind_some, Option.bind_some, o_2 (A7s G) w R hx, Option.bind_some, m_bits (q_knows w hx), Option.bind_some, nI_1, ih (i + 1) n x (by omega) (by omega) hx, ih (i + 1) n i (by omega) (by omega) hi']
    by_cases h : bc (c 4 i) ≤ bc (c 4 x)
    · rw [if_pos (nI_le h (by omega))]
      simp only [fo, h, if_true]
    · rw [if_neg (nI_ge (by omega) (by omega))]
      simp only [fo, h, if_false]
theorem m_f7L (G : GS M) (w : wf c) (R : RC_ (mi_ M 235) c) {p : Nat} (hp : p < c 0 3) {ρ : Type} (k0 : Int32 → Option ρ) : ∀ (d i n x : Nat), i + d = c 0 3 → d < n → x < 64 → m_X7_fellows_L20 k0 M 231 (nI p) n (nI x) (nI i) = k0 (nI (fo (fun q r => if q = p then r else if c 4 q = c 4 p then r ||| 2 ^ q else r) i d x)) := by
  have hP := w.2.2.2.1.2
  intro d
  induction d with
  | zero =>
    intro i n x hi hn _
    obtain ⟨n, rfl⟩ : ∃ z, n = z + 1 := ⟨n - 1, by omega⟩
    rw [m_X7_fellows_L20, R7s G, Option.bind_some, l_P (A7s G) R, Option.bind_some, if_pos (nI_le (show c 0 3 ≤ i by omega) (by omega))]
    rfl
  | succ d ih =>
    intro i n x hi hn hx
    obtain ⟨n, rfl⟩ : ∃ z, n = z + 1 := ⟨n - 1, by omega⟩
    have hi' : i < c 0 3 := by omega
    have k1 := q_knows w hi'
    have k2 := q_knows w hp
    rw [m_X7_fellows_L20, R7s G, Option.bind_some, l_P (A7s G) R, Option.bind_some, if_neg (nI_ge hi' (by omega)), Option.bind_some, o_2 (A7s G) w R hi', Option.bind_some, Option.bind_some, o_2 (A7s G) w R hp, Option.bind_some, or_0 hx, f_or x hx i (by omega), nI_1, ih (i + 1) n x (by omega) (by omega) hx, ih (i + 1) n _ (by omega) (by omega) (o_lt hx (p2_lt (by omega)))]
    by_cases h : i = p
    · rw [if_pos (by rw [h])]
      simp only [fo, h, if_true]
    · rw [if_neg (ne_lit (by omega) (by omega) h)]
      by_cases h2 : c 4 i = c 4 p
      · rw [if_pos (by rw [h2])]
        simp only [fo, h, h2, if_true, if_false]
      · rw [if_neg (ne_lit (by omega) (by omega) h2)]
        simp only [fo, h, h2, if_false]
def rcnt (rl : Nat → Nat) : Nat → Nat → Nat → Nat := fun i d x => fo (fun r n => if rl r = 0 then n else n + 1) i d x
theorem m_rcX {rl rs : Nat → Nat} {ri : Nat → Nat → Int32} (G : GS M) (h : Cr M rl rs ri) {ρ : Type} (k0 : Int32 → Option ρ) : ∀ (d i n x : Nat), i + d = 8 → d < n → m_X6_rowsThere_L4 k0 M 0 n (nI x) (nI i) = k0 (nI (rcnt rl i d x)) := by
  have ha : 1 < mz M ∧ mk_ M 1 = (3, 8) := ⟨by rw [G.1]; decide, G.k (by decide) (by decide +kernel)⟩
  intro d
  induction d with
  | zero =>
    intro i n x hi hn
    obtain ⟨n, rfl⟩ : ∃ z, n = z + 1 := ⟨n - 1, by omega⟩
    rw [m_X6_rowsThere_L4, if_pos (show (8 : Int32) ≤ nI i from (nI_le (by omega) (by omega) : nI 8 ≤ nI i))]
    rfl
  | succ d ih =>
    intro i n x hi hn
    obtain ⟨n, rfl⟩ : ∃ z, n = z + 1 := ⟨n - 1, by omega⟩
    have hi' : i < 8 := by omega
    obtain ⟨s1, -, -, s4⟩ := sk_row i hi'
    rw [m_X6_rowsThere_L4, if_neg (show ¬ (8 : Int32) ≤ nI i from (nI_ge (by omega) (by decide) : ¬ nI 8 ≤ nI i)), R6w G, Option.bind_some, ldR_ ha.1 ha.2 hi' (by decide) (G.r s4), Option.bind_some, gI_ (G.o (by omega) s1), Option.bind_some, (h i hi').1, nI_1, nI_1, ih (i + 1) n x (by omega) (by omega), ih (i + 1) n (x + 1) (by omega) (by omega)]
    by_cases h0 : rl i = 0
    · rw [if_pos (by simp [h0, b2])]
      simp only [rcnt, fo, h0, if_true]
    · rw [if_neg (by simp [h0, b2])]
      simp only [rcnt, fo, h0, if_false]
theorem m_rcM {rl rs : Nat → Nat} {ri : Nat → Nat → Int32} (G : GS M) (h : Dr M rl rs ri) {ρ : Type} (k0 : Int32 → Option ρ) : ∀ (d i n x : Nat), i + d = 8 → d < n → m_X7_count_L58 k0 M 231 n (nI x) (nI i) = k0 (nI (rcnt rl i d x)) := by
  have ha := G.a (k := 232) (n := 8) (by decide) (by decide +kernel)
  intro d
  induction d with
  | zero =>
    intro i n x hi hn
    obtain ⟨n, rfl⟩ : ∃ z, n = z + 1 := ⟨n - 1, by omega⟩
    rw [m_X7_count_L58, if_pos (show (8 : Int32) ≤ nI i from (nI_le (by omega) (by omega) : nI 8 ≤ nI i))]
    rfl
  | succ d ih =>
    intro i n x hi hn
    obtain ⟨n, rfl⟩ : ∃ z, n = z + 1 := ⟨n - 1, by omega⟩
    have hi' : i < 8 := by omega
    have e0 : nI x + (0 : Int32) = nI x := (nI_add x 0).trans rfl
    rw [m_X7_count_L58, if_neg (show ¬ (8 : Int32) ≤ nI i from (nI_ge (by omega) (by decide) : ¬ nI 8 ≤ nI i)), gR_ (O7 G) (G.r (b := 232) (by decide +kernel)), Option.bind_some, ld_ ha.1 ha.2 hi' (by decide), Option.bind_some, (h i hi').1, e0, nI_1, nI_1, ih (i + 1) n x (by omega) (by omega), ih (i + 1) n (x + 1) (by omega) (by omega)]
    by_cases h0 : rl i = 0
    · rw [if_pos h0, if_pos (by decide)]
      simp only [rcnt, fo, h0, if_true]
    · rw [if_neg h0, if_neg (nI_pos (by have := (h i hi').2 h0; omega))]
      simp only [rcnt, fo, h0, if_false]
theorem m_knX (G : GS M) (h : Cn M c) : m_X5_known M 2 = some (nI (known c)) := by
  rcases h.2 with q | q
  · have e := g_s (Sn G) h.1 (j := 3) (by decide)
    rw [m_X5_known, show FU = 4999 + 1 from rfl, m_X5_known_L4, e, Option.bind_some, q 3 (by decide), if_pos (by decide)]
    unfold known
    rw [q 3 (by decide)]
    rfl
  · exact m_known (Sn G) q.1 h.1
theorem m_knM (G : GS M) (h : Dn M c) : m_X7_known M 235 = some (nI (known c)) := by
  rcases h.2 with q | q
  · rw [m_X7_known, show FU = 4999 + 1 from rfl, m_X7_known_L4, l_P (A7s G) h.1, Option.bind_some, q 3 (by decide), if_pos (by decide)]
    unfold known
    rw [q 3 (by decide)]
    rfl
  · exact m_kn7 (A7s G) q.1 h.1
end O2
section O3
variable (A : aS)
theorem o_pupil (x z : Int32) : bothP A (fun M => m_X6_pupil M 0 x z) (fun M => m_X7_pupil M 231 x z) := by
  intro M G h
  have hn := h.1
  cases hr : rg x 0 ((aN A 0 3 : Int) - 1) with
  | false =>
    refine ⟨-1000001, ?_, fun M' G' h' => ?_⟩
    · show m_X6_pupil M 0 x z = _
      rw [m_X6_pupil, if_pos (O6 G), m_noP G hn, hr, Option.bind_some, if_neg (by decide)]
    · show opM (m_X7_pupil M' 231 x z) _ _ _
      rw [m_X7_pupil]
      exact q_ G' h' (fun M1 G1 h1 => by rw [if_pos (O7 G1), m_isP G1 h1.1, hr, Option.bind_some, if_pos (by decide)])
  | true =>
    obtain ⟨p, hp, rfl⟩ := rg_s hr
    obtain ⟨w, i7, -⟩ := vs_w hn.2 (j := 3) (by decide) (by omega)
    have h7 := i7.1 p hp
    by_cases z0 : z = 0
    · refine ⟨nI (aN A 4 p), ?_, fun M' G' h' => ?_⟩
      · show m_X6_pupil M 0 (nI p) z = _
        rw [m_X6_pupil, if_pos (O6 G), m_noP G hn, hr, Option.bind_some, if_pos (by decide), if_pos z0, R6n G, Option.bind_some, r_4 (Sn G), Option.bind_some, a_4 (Sn G) w hn.1 hp, Option.bind_some]
      · show opM (m_X7_pupil M' 231 (nI p) z) _ _ _
        rw [m_X7_pupil]
        exact q_ G' h' (fun M1 G1 h1 => by rw [if_pos (O7 G1), m_isP G1 h1.1, hr, Option.bind_some, if_neg (by decide), if_pos z0, R7s G1, Option.bind_some, o_2 (A7s G1) w h1.1.1 hp, Option.bind_some])
    by_cases z1 : z = 1
    · refine ⟨nI (aN A 7 p), ?_, fun M' G' h' => ?_⟩
      · show m_X6_pupil M 0 (nI p) z = _
        have e := m_seat (Sn G) w hn.1 h7.1
        rw [h7.2] at e
        rw [m_X6_pupil, if_pos (O6 G), m_noP G hn, hr, Option.bind_some, if_pos (by decide), if_neg z0, if_pos z1, R6n G, Option.bind_some, if_pos (Sn G).1, e, Option.bind_some]
      · show opM (m_X7_pupil M' 231 (nI p) z) _ _ _
        rw [m_X7_pupil]
        exact q_ G' h' (fun M1 G1 h1 => by rw [if_pos (O7 G1), m_isP G1 h1.1, hr, Option.bind_some, if_neg (by decide), if_neg z0, if_pos z1, R7s G1, Option.bind_some, o_1 (A7s G1) w h1.1.1 hp, Option.bind_some])
    by_cases z2 : z = 2
    · refine ⟨nI (bc (aN A 4 p)), ?_, fun M' G' h' => ?_⟩
      · show m_X6_pupil M 0 (nI p) z = _
        rw [m_X6_pupil, if_pos (O6 G), m_noP G hn, hr, Option.bind_some, if_pos (by decide), if_neg z0, if_neg z1, if_pos z2, R6n G, Option.bind_some, if_pos (Sn G).1, m_form (Sn G) w hn.1 hp, Option.bind_some]
      · show opM (m_X7_pupil M' 231 (nI p) z) _ _ _
        rw [m_X7_pupil]
        exact q_ G' h' (fun M1 G1 h1 => by rw [if_pos (O7 G1), m_isP G1 h1.1, hr, Option.bind_some, if_neg (by decide), if_neg z0, if_neg z1, if_pos z2, R7s G1, Option.bind_some, o_2 (A7s G1) w h1.1.1 hp, Option.bind_some, m_bits (q_knows w hp), Option.bind_some])
    by_cases z3 : z = 3
    · refine ⟨b2 (hc (aN A) (taught (aN A) (aN A 0 4)) (aN A 7 p)), ?_, fun M' G' h' => ?_⟩
      · show m_X6_pupil M 0 (nI p) z = _
        have e := m_hears (Sn G) w hn.1 h7.1
        rw [h7.2] at e
        rw [m_X6_pupil, if_pos (O6 G), m_noP G hn, hr, Option.bind_some, if_pos (by decide), if_neg z0, if_neg z1, if_neg z2, if_pos z3, R6n G, Option.bind_some, if_pos (Sn G).1, e, Option.bind_some]
        cases hc (aN A) (taught (aN A) (aN A 0 4)) (aN A 7 p) <;> rfl
      · show opM (m_X7_pupil M' 231 (nI p) z) _ _ _
        rw [m_X7_pupil]
        exact q_ G' h' (fun M1 G1 h1 => by
          rw [if_pos (O7 G1), m_isP G1 h1.1, hr, Option.bind_some, if_neg (by decide), if_neg z0, if_neg z1, if_neg z2, if_pos z3, R7s G1, Option.bind_some, m_hears7 (A7s G1) w i7 h1.1.1 hp, Option.bind_some]
          cases hc (aN A) (taught (aN A) (aN A 0 4)) (aN A 7 p) <;> rfl)
    by_cases z4 : z = 4
    · refine ⟨nI (gset (aN A) (aN A 4 p)), ?_, fun M' G' h' => ?_⟩
      · show m_X6_pupil M 0 (nI p) z = _
        rw [m_X6_pupil, if_pos (O6 G), m_noP G hn, hr, Option.bind_some, if_pos (by decide), if_neg z0, if_neg z1, if_neg z2, if_neg z3, if_pos z4, R6n G, Option.bind_some, Option.bind_some, r_4 (Sn G), Option.bind_some, a_4 (Sn G) w hn.1 hp, Option.bind_some, if_pos (Sn G).1, m_gset (Sn G) w hn.1 (q_knows w hp), Option.bind_some]
      · show opM (m_X7_pupil M' 231 (nI p) z) _ _ _
        rw [m_X7_pupil]
        exact q_ G' h' (fun M1 G1 h1 => by rw [if_pos (O7 G1), m_isP G1 h1.1, hr, Option.bind_some, if_neg (by decide), if_neg z0, if_neg z1, if_neg z2, if_neg z3, if_pos z4, R7s G1, Option.bind_some, o_2 (A7s G1) w h1.1.1 hp, Option.bind_some, if_pos (O7 G1), m_g7 G1 w h1.1.1 (q_knows w hp), Option.bind_some])
    refine ⟨-1000001, ?_, fun M' G' h' => ?_⟩
    · show m_X6_pupil M 0 (nI p) z = _
      rw [m_X6_pupil, if_pos (O6 G), m_noP G hn, hr, Option.bind_some, if_pos (by decide), if_neg z0, if_neg z1, if_neg z2, if_neg z3, if_neg z4]
    · show opM (m_X7_pupil M' 231 (nI p) z) _ _ _
      rw [m_X7_pupil]
      exact q_ G' h' (fun M1 G1 h1 => by rw [if_pos (O7 G1), m_isP G1 h1.1, hr, Option.bind_some, if_neg (by decide), if_neg z0, if_neg z1, if_neg z2, if_neg z3, if_neg z4])
theorem o_top (x : Int32) : bothP A (fun M => m_X6_top M 0 x) (fun M => m_X7_top M 231 x) := by
  intro M G h
  have hn := h.1
  by_cases h0 : aN A 0 3 = 0
  · refine ⟨-1000002, ?_, fun M' G' h' => ?_⟩
    · show m_X6_top M 0 x = _
      rw [m_X6_top, if_pos (O6 G), m_noS G hn, Option.bind_some, if_neg (by simp [h0, b2])]
    · show opM (m_X7_top M' 231 x) _ _ _
      rw [m_X7_top]
      exact q_ G' h' (fun M1 G1 h1 => by rw [if_pos (O7 G1), m_isT G1 h1.1, Option.bind_some, if_pos (by simp [h0, b2])])
  · have hw := vs_w hn.2 (j := 3) (by decide) h0
    have hP := hw.1.2.2.2.1
    cases hr : rg x 0 1 with
    | false =>
      refine ⟨-1000001, ?_, fun M' G' h' => ?_⟩
      · show m_X6_top M 0 x = _
        rw [m_X6_top, if_pos (O6 G), m_noS G hn, Option.bind_some, if_pos (by simp [h0, b2]), m_out, Option.bind_some, if_neg (by rw [show rg x (Int32.toInt 0) (Int32.toInt 1) = false from hr]; decide)]
      · show opM (m_X7_top M' 231 x) _ _ _
        rw [m_X7_top]
        exact q_ G' h' (fun M1 G1 h1 => by rw [if_pos (O7 G1), m_isT G1 h1.1, Option.bind_some, if_neg (by simp [h0, b2]), m_in7, Option.bind_some, if_pos (by rw [show rg x (Int64.toInt 0) (Int64.toInt 1) = false from hr]; decide)])
    | true =>
      have hb := best_lt hw.1
      refine ⟨if x = 0 then nI (best (aN A)) else nI (bc (aN A 4 (best (aN A)))), ?_, fun M' G' h' => ?_⟩
      · show m_X6_top M 0 x = _
        rw [m_X6_top, if_pos (O6 G), m_noS G hn, Option.bind_some, if_pos (by simp [h0, b2]), m_out, Option.bind_some, if_pos (by rw [show rg x (Int32.toInt 0) (Int32.toInt 1) = true from hr]; decide), R6n G, Option.bind_some, if_pos (Sn G).1, m_best (Sn G) hw.1 hn.1, Option.bind_some]
        by_cases hx : x = 0
        · rw [if_pos hx, if_pos hx]
        · rw [if_neg hx, if_neg hx, Option.bind_some, if_pos (Sn G).1, m_form (Sn G) hw.1 hn.1 hb, Option.bind_some]
      · show opM (m_X7_top M' 231 x) _ _ _
        rw [m_X7_top]
        exact q_ G' h' (fun M1 G1 h1 => by
          rw [if_pos (O7 G1), m_isT G1 h1.1, Option.bind_some, if_neg (by simp [h0, b2]), m_in7, Option.bind_some, if_neg (by rw [show rg x (Int64.toInt 0) (Int64.toInt 1) = true from hr]; decide)]
          have t := m_t7L G1 hw.1 h1.1.1 x (fun v27 => if x = (0 : Int32) then some (M1, v27) else (gR M1 231 7 5).bind fun b29 => (m_X7_of M1 b29 v27 (2 : Int32)).bind fun v32 => (m_X7_bits M1 v32).bind fun v34 => some (M1, v34)) (aN A 0 3 - 1) 1 FU 0 (by omega) (by unfold FU; omega) (by omega)
          refine t.trans ?_
          show (if x = (0 : Int32) then some (M1, nI (best (aN A))) else (gR M1 231 7 5).bind fun b29 => (m_X7_of M1 b29 (nI (best (aN A))) (2 : Int32)).bind fun v32 => (m_X7_bits M1 v32).bind fun v34 => some (M1, v34)) = _
          by_cases hx : x = 0
          · rw [if_pos hx, if_pos hx]
          · rw [if_neg hx, if_neg hx, R7s G1, Option.bind_some, o_2 (A7s G1) hw.1 h1.1.1 hb, Option.bind_some, m_bits (q_knows hw.1 hb), Option.bind_some])
theorem o_fellows (x : Int32) : bothP A (fun M => m_X6_fellows M 0 x) (fun M => m_X7_fellows M 231 x) := by
  intro M G h
  have hn := h.1
  cases hr : rg x 0 ((aN A 0 3 : Int) - 1) with
  | false =>
    refine ⟨-1000001, ?_, fun M' G' h' => ?_⟩
    · show m_X6_fellows M 0 x = _
      rw [m_X6_fellows, if_pos (O6 G), m_noP G hn, hr, Option.bind_some, if_neg (by decide)]
    · show opM (m_X7_fellows M' 231 x) _ _ _
      rw [m_X7_fellows]
      exact q_ G' h' (fun M1 G1 h1 => by rw [if_pos (O7 G1), m_isP G1 h1.1, hr, Option.bind_some, if_pos (by decide)])
  | true =>
    obtain ⟨p, hp, rfl⟩ := rg_s hr
    have hw := vs_w hn.2 (j := 3) (by decide) (by omega)
    have hP := hw.1.2.2.2.1
    refine ⟨nI (alik (aN A) p), ?_, fun M' G' h' => ?_⟩
    · show m_X6_fellows M 0 (nI p) = _
      rw [m_X6_fellows, if_pos (O6 G), m_noP G hn, hr, Option.bind_some, if_pos (by decide), R6n G, Option.bind_some, if_pos (Sn G).1, m_alik (Sn G) hw.1 hn.1 hp, Option.bind_some]
    · show opM (m_X7_fellows M' 231 (nI p)) _ _ _
      rw [m_X7_fellows]
      exact q_ G' h' (fun M1 G1 h1 => by
        rw [if_pos (O7 G1), m_isP G1 h1.1, hr, Option.bind_some, if_neg (by decide)]
        exact m_f7L G1 hw.1 h1.1.1 hp (fun v21 => some (M1, v21)) (aN A 0 3) 0 FU 0 (by omega) (by unfold FU; omega) (by decide))
theorem o_count (x : Int32) : bothP A (fun M => m_X6_count M 0 x) (fun M => m_X7_count M 231 x) := by
  intro M G h
  have hn := h.1
  have ha : isO M 10 0 = true := G.o (by decide) (by decide +kernel)
  have hd : isO M 180 3 = true := G.o (by decide) (by decide +kernel)
  obtain ⟨-, lt, -, -, hk, -⟩ := h.2.2.1
  by_cases x0 : x = 0
  · refine ⟨nI (rcnt (aR A).1 0 8 0), ?_, fun M' G' h' => ?_⟩
    · show m_X6_count M 0 x = _
      rw [m_X6_count, if_pos x0, if_pos (O6 G)]
      have e : m_X6_rowsThere M 0 = some (nI (rcnt (aR A).1 0 8 0)) := m_rcX G h.2.2.2.1 _ 8 0 FU 0 (by decide) (by decide)
      rw [e, Option.bind_some]
    · show opM (m_X7_count M' 231 x) _ _ _
      rw [m_X7_count]
      exact q_ G' h' (fun M1 G1 h1 => by
        rw [if_pos x0]
        exact m_rcM G1 h1.2.2.2.1 (fun v10 => some (M1, v10)) 8 0 FU 0 (by decide) (by decide))
  by_cases x1 : x = 1
  · refine ⟨nI (aN A 0 3), ?_, fun M' G' h' => ?_⟩
    · show m_X6_count M 0 x = _
      rw [m_X6_count, if_neg x0, if_pos x1, R6n G, Option.bind_some, g_s (Sn G) hn.1 (j := 3) (by decide), Option.bind_some]
    · show opM (m_X7_count M' 231 x) _ _ _
      rw [m_X7_count]
      exact q_ G' h' (fun M1 G1 h1 => by rw [if_neg x0, if_pos x1, R7s G1, Option.bind_some, l_P (A7s G1) h1.1.1, Option.bind_some])
  by_cases x2 : x = 2
  · refine ⟨nI (aN A 0 1), ?_, fun M' G' h' => ?_⟩
    · show m_X6_count M 0 x = _
      rw [m_X6_count, if_neg x0, if_neg x1, if_pos x2, R6n G, Option.bind_some, g_s (Sn G) hn.1 (j := 1) (by decide), Option.bind_some]
    · show opM (m_X7_count M' 231 x) _ _ _
      rw [m_X7_count]
      exact q_ G' h' (fun M1 G1 h1 => by rw [if_neg x0, if_neg x1, if_pos x2, R7s G1, Option.bind_some, l_J (A7s G1) h1.1.1, Option.bind_some])
  by_cases x3 : x = 3
  · refine ⟨nI (aN A 0 2), ?_, fun M' G' h' => ?_⟩
    · show m_X6_count M 0 x = _
      rw [m_X6_count, if_neg x0, if_neg x1, if_neg x2, if_pos x3, R6n G, Option.bind_some, g_s (Sn G) hn.1 (j := 2) (by decide), Option.bind_some]
    · show opM (m_X7_count M' 231 x) _ _ _
      rw [m_X7_count]
      exact q_ G' h' (fun M1 G1 h1 => by rw [if_neg x0, if_neg x1, if_neg x2, if_pos x3, R7s G1, Option.bind_some, l_D (A7s G1) h1.1.1, Option.bind_some])
  by_cases x4 : x = 4
  · refine ⟨nI (aN A 0 4), ?_, fun M' G' h' => ?_⟩
    · show m_X6_count M 0 x = _
      rw [m_X6_count, if_neg x0, if_neg x1, if_neg x2, if_neg x3, if_pos x4, R6n G, Option.bind_some, g_s (Sn G) hn.1 (j := 4) (by decide), Option.bind_some]
    · show opM (m_X7_count M' 231 x) _ _ _
      rw [m_X7_count]
      exact q_ G' h' (fun M1 G1 h1 => by rw [if_neg x0, if_neg x1, if_neg x2, if_neg x3, if_pos x4, R7s G1, Option.bind_some, l_Y (A7s G1) h1.1.1, Option.bind_some])
  by_cases x5 : x = 5
  · refine ⟨nI (known (aN A)), ?_, fun M' G' h' => ?_⟩
    · show m_X6_count M 0 x = _
      rw [m_X6_count, if_neg x0, if_neg x1, if_neg x2, if_neg x3, if_neg x4, if_pos x5, R6n G, Option.bind_some, if_pos (Sn G).1, m_knX G hn, Option.bind_some]
    · show opM (m_X7_count M' 231 x) _ _ _
      rw [m_X7_count]
      exact q_ G' h' (fun M1 G1 h1 => by rw [if_neg x0, if_neg x1, if_neg x2, if_neg x3, if_neg x4, if_pos x5, R7s G1, Option.bind_some, m_knM G1 h1.1, Option.bind_some])
  by_cases x6 : x = 6
  · refine ⟨nI (aK A).1, ?_, fun M' G' h' => ?_⟩
    · show m_X6_count M 0 x = _
      rw [m_X6_count, if_neg x0, if_neg x1, if_neg x2, if_neg x3, if_neg x4, if_neg x5, if_pos x6, R6a G, Option.bind_some, gI_ ha, Option.bind_some, hk]
    · show opM (m_X7_count M' 231 x) _ _ _
      rw [m_X7_count]
      exact q_ G' h' (fun M1 G1 h1 => by rw [if_neg x0, if_neg x1, if_neg x2, if_neg x3, if_neg x4, if_neg x5, if_pos x6, gI_ (O7 G1), Option.bind_some, h1.2.2.1.2.1])
  by_cases x7 : x = 7
  · refine ⟨nI (aT A).2, ?_, fun M' G' h' => ?_⟩
    · show m_X6_count M 0 x = _
      rw [m_X6_count, if_neg x0, if_neg x1, if_neg x2, if_neg x3, if_neg x4, if_neg x5, if_neg x6, if_pos x7, R6r G, Option.bind_some, gI_ hd, Option.bind_some, h.2.2.2.2.1.2.1]
    · show opM (m_X7_count M' 231 x) _ _ _
      rw [m_X7_count]
      exact q_ G' h' (fun M1 G1 h1 => by rw [if_neg x0, if_neg x1, if_neg x2, if_neg x3, if_neg x4, if_neg x5, if_neg x6, if_pos x7, gI_ (O7 G1), Option.bind_some, h1.2.2.2.2.1.2.1])
  refine ⟨-1000001, ?_, fun M' G' h' => ?_⟩
  · show m_X6_count M 0 x = _
    rw [m_X6_count, if_neg x0, if_neg x1, if_neg x2, if_neg x3, if_neg x4, if_neg x5, if_neg x6, if_neg x7]
  · show opM (m_X7_count M' 231 x) _ _ _
    rw [m_X7_count]
    exact q_ G' h' (fun M1 G1 h1 => by rw [if_neg x0, if_neg x1, if_neg x2, if_neg x3, if_neg x4, if_neg x5, if_neg x6, if_neg x7])
end O3
