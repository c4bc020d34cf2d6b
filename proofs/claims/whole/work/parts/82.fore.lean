/-! ===== what is only thought of: ahead, when, table ===== -/
def WY (M N : mM) : Prop := GS N ∧ ∀ b, (b < 189 ∨ 198 < b) → mi_ N b = mi_ M b
def WZ (M N : mM) : Prop := GS N ∧ ∀ b, b ≠ 237 → b ≠ 240 → b ≠ 241 → b ≠ 242 → mi_ N b = mi_ M b
section WK
variable {M N K : mM} {A : aS} {c : sT}
theorem WY_r (G : GS M) : WY M M := ⟨G, fun _ _ => rfl⟩
theorem WZ_r (G : GS M) : WZ M M := ⟨G, fun _ _ _ _ _ => rfl⟩
theorem WY_t (h : WY M N) (g : WY N K) : WY M K := ⟨g.1, fun b hb => (g.2 b hb).trans (h.2 b hb)⟩
theorem WZ_t (h : WZ M N) (g : WZ N K) : WZ M K := ⟨g.1, fun b h1 h2 h3 h4 => (g.2 b h1 h2 h3 h4).trans (h.2 b h1 h2 h3 h4)⟩
theorem WY.cx (w : WY M N) (h : CX A M) : CX A N := CXw h (fun b _ hb => w.2 b hb)
theorem WZ.cm (w : WZ M N) (h : CM A M) : CM A N := CMw h (fun b _ h1 h2 h3 h4 => w.2 b h1 h2 h3 h4)
theorem WY.h (w : WY M N) : hi_ M N := fun b hb => w.2 b (Or.inr (by omega))
theorem WZ.l (w : WZ M N) : lo_ M N := fun b hb => w.2 b (by omega) (by omega) (by omega) (by omega)
theorem WY_f (G : GS M) (f : fr 190 M N) : WY M N := ⟨G.sh f.1, fun b hb => f.2 b (by omega)⟩
theorem WY_w (G : GS M) {a j : Nat} {v : Int32} (h1 : 189 ≤ a) (h2 : a ≤ 198) : WY M (wI M a j v) := ⟨GS_w G, fun b hb => wI_o (by omega)⟩
theorem WZ_w (G : GS M) {a j : Nat} {v : Int32} (h : a = 237 ∨ a = 241 ∨ a = 242) : WZ M (wI M a j v) := ⟨GS_w G, fun b h1 h2 h3 h4 => wI_o (by omega)⟩
theorem WZ_f (G : GS M) (f : fm 237 240 M N) : WZ M N := ⟨G.sh f.1, fun b h1 h2 _ _ => f.2 b h1 h2⟩
theorem WY.s {c : sT} (w : WY M N) (h : SA M 2 c) : SA N 2 c := h.o (fun a ha => w.2 _ (by omega))
theorem WZ.s {c : sT} (w : WZ M N) (h : RC_ (mi_ M 235) c) : RC_ (mi_ N 235) c := by rw [w.2 235 (by decide) (by decide) (by decide) (by decide)]; exact h
theorem pxW (w : WY M N) (h : CX A M) {r : Int32} : opX (some (N, r)) M A r := px w.1 (w.cx h) w.h
theorem pmW (w : WZ M N) (h : CM A M) {r : Int32} : opM (some (N, r)) M A r := pm w.1 (w.cm h) w.l
theorem FO (G : GS M) : isO M 189 2 = true := G.o (by decide) (by decide +kernel)
theorem FW (G : GS M) : gR M 189 2 0 = some 190 := gR_ (FO G) (G.r (by decide +kernel))
theorem wbe (G : GS M) (h : SA M 2 c) (b : c 0 1 ≤ 6 ∧ c 0 2 ≤ 8 ∧ c 0 3 ≤ 6) : ∃ N, m_X5_become M 190 2 = some N ∧ SA N 190 c ∧ WY M N := by
  obtain ⟨N, n1, n2, n3⟩ := m_be (Sw G) (Sn G) (Or.inr (by decide)) b h
  exact ⟨N, n1, n2, WY_f G n3⟩
theorem wday (G : GS M) (h : SA M 190 c) (w : wf c) (hd : c 0 4 < 2000) : ∃ N, m_X5_passDay M 190 = some N ∧ SA N 190 (dayS c) ∧ WY M N := by
  obtain ⟨N, n1, n2, n3, n4⟩ := m_day (Sw G) w h hd
  exact ⟨N, n1, n2, WY_f G n3⟩
theorem dN_ok : ∀ (n : Nat) (c : sT), wf c → iv c → c 0 4 + n ≤ 2000 → wf (dN n c) ∧ iv (dN n c)
  | 0, _, w, i7, _ => ⟨w, i7⟩
  | n + 1, c, w, i7, h => dN_ok n (dayS c) (wf_day w (by omega)) (iv_day w i7) (by rw [dayS_4]; omega)
theorem dN_0 : ∀ (n : Nat) (c : sT), wf c → c 0 4 + n ≤ 2000 → ∀ j, j ≠ 4 → dN n c 0 j = c 0 j
  | 0, _, _, _, _, _ => rfl
  | n + 1, c, w, h, j, hj => (dN_0 n (dayS c) (wf_day w (by omega)) (by rw [dayS_4]; omega) j hj).trans (dayS_0 w hj)
theorem m_afL {m : Nat} (hm : m ≤ 60) {ρ : Type} (k0 : mM → Option ρ) : ∀ (d i n : Nat) (M : mM) (c : sT), GS M → SA M 190 c → wf c → c 0 4 + d ≤ 2000 → i + d = m → d < n → ∃ N, m_X2_after_L10 k0 189 (nI m) n M (nI i) = k0 N ∧ SA N 190 (dN d c) ∧ WY M N := by
  intro d
  induction d with
  | zero =>
    intro i n M c G h w hd hi hn
    obtain ⟨n, rfl⟩ : ∃ z, n = z + 1 := ⟨n - 1, by omega⟩
    exact ⟨M, by rw [m_X2_after_L10, if_pos (nI_le (by omega) (by omega))], h, WY_r G⟩
  | succ d ih =>
    intro i n M c G h w hd hi hn
    obtain ⟨n, rfl⟩ : ∃ z, n = z + 1 := ⟨n - 1, by omega⟩
    obtain ⟨K, k1, k2, k3⟩ := wday G h w (by omega)
    obtain ⟨N, n1, n2, n3⟩ := ih (i + 1) n K (dayS c) k3.1 k2 (wf_day w (by omega)) (by rw [dayS_4]; omega) (by omega) (by omega)
    refine ⟨N, ?_, n2, WY_t k3 n3⟩
    rw [m_X2_after_L10, if_neg (nI_ge (by omega) (by omega)), FW G, Option.bind_some, if_pos (Sw G).1, k1, Option.bind_some, nI_1]
    exact n1
theorem m_after (G : GS M) (h : SA M 2 c) (w : wf c) {m : Nat} (hm : m ≤ 60) (hd : c 0 4 + m ≤ 2000) : ∃ N, m_X2_after M 189 2 (nI m) = some (N, 190) ∧ SA N 190 (dN m c) ∧ WY M N := by
  obtain ⟨K, k1, k2, k3⟩ := wbe G h (wf_b w)
  obtain ⟨N, n1, n2, n3⟩ := m_afL hm (fun M11 => (gR M11 189 2 0).bind fun b12 => some (M11, b12)) m 0 FU K c k3.1 k2 w hd (by omega) (by unfold FU; omega)
  refine ⟨N, ?_, n2, WY_t k3 n3⟩
  rw [m_X2_after, FW G, Option.bind_some, if_pos (Sw G).1, k1, Option.bind_some, show m_X2_after_L10 _ 189 (nI m) FU K (0 : Int32) = _ from n1, FW n3.1, Option.bind_some]
theorem wlay (G : GS M) (R : RC_ (mi_ M 235) c) (b : c 0 1 ≤ 6 ∧ c 0 2 ≤ 8 ∧ c 0 3 ≤ 6) : ∃ N, m_X7_layThen M 231 = some N ∧ RC_ (mi_ N 237) c ∧ WZ M N := by
  obtain ⟨N, n1, n2, n3⟩ := m_lay (t := 237) (s := 235) (by decide) (O7 G) (G.r (by decide +kernel)) (G.r (by decide +kernel)) (A7t G) (A7s G) b R
  exact ⟨N, n1, n3, ⟨G.sh n2.1, fun b h1 _ _ _ => n2.2 b h1⟩⟩
theorem wdays (G : GS M) (R : RC_ (mi_ M 237) c) (w : wf c) (i7 : iv c) {m : Nat} (hm : m ≤ 60) (hd : c 0 4 + m ≤ 2000) : ∃ N, m_X7_daysOf M 231 237 (nI m) = some N ∧ RC_ (mi_ N 237) (dN m c) ∧ WZ M N := by
  obtain ⟨N, n1, n2, n3, n4, n5⟩ := m_dO G.mh (A7t G) w i7 R (by decide) hm hd
  exact ⟨N, n1, n3, WZ_f G n2⟩
theorem wdayM (G : GS M) (R : RC_ (mi_ M 237) c) (w : wf c) (i7 : iv c) (hd : c 0 4 < 2000) : ∃ N, m_X7_dayBy M 231 237 (0 : Int32) = some N ∧ RC_ (mi_ N 237) (dayS c) ∧ WZ M N := by
  obtain ⟨N, n1, n2, n3, n4, n5⟩ := m_db G.mh (A7t G) w i7 R (by decide) hd 0
  exact ⟨N, n1, n3, WZ_f G n2⟩
theorem rg_m1 {x : Int32} {h : Int} : rg x (-1) h = true → (x = -1 ∧ ¬ (0 : Int32) ≤ x) ∨ (¬ x = -1 ∧ (0 : Int32) ≤ x ∧ rg x 0 h = true) := by
  intro e
  simp only [rg, Bool.and_eq_true, decide_eq_true_eq] at e ⊢
  by_cases hx : x = -1
  · exact Or.inl ⟨hx, by rw [hx]; decide⟩
  · have h2 : x.toInt ≠ -1 := fun q => hx (Int32.toInt_inj.mp q)
    have h3 : (0 : Int32).toInt = 0 := by decide
    refine Or.inr ⟨hx, ?_, by omega, e.2⟩
    rw [Int32.le_iff_toInt_le]
    omega
theorem rg_m0 {x : Int32} {h : Int} (hh : -1 ≤ h) : rg x (-1) h = false → ¬ x = -1 ∧ rg x 0 h = false := by
  intro e
  have h1 : (-1 : Int32).toInt = -1 := by decide
  refine ⟨fun q => ?_, ?_⟩
  · rw [q] at e
    simp only [rg, Bool.and_eq_false_iff, decide_eq_false_iff_not] at e
    omega
  · simp only [rg, Bool.and_eq_false_iff, decide_eq_false_iff_not] at e ⊢
    omega
end WK
section OB
variable (A : aS)
theorem o_ahead (x y z : Int32) : both A (fun M => m_X6_ahead M 0 x y z) (fun M => m_X7_ahead M 231 x y z) := by
  intro M G h
  have hn := h.1
  cases hr : rg x 0 ((aN A 0 3 : Int) - 1) with
  | false =>
    refine ⟨A, -1000001, ?_, fun M' G' h' => ?_⟩
    · show opX (m_X6_ahead M 0 x y z) _ _ _
      rw [m_X6_ahead, if_pos (O6 G), m_noP G hn, hr, Option.bind_some, if_neg (by decide)]
      exact px0 G h
    · show opM (m_X7_ahead M' 231 x y z) _ _ _
      rw [m_X7_ahead]
      refine q2 G' h' (fun M1 G1 h1 => ?_)
      rw [if_pos (O7 G1), m_isP G1 h1.1, hr, Option.bind_some, if_pos (by decide)]
      exact pm0 G1 h1
  | true =>
  cases hy : rg y 0 60 with
  | false =>
    refine ⟨A, -1000001, ?_, fun M' G' h' => ?_⟩
    · show opX (m_X6_ahead M 0 x y z) _ _ _
      rw [m_X6_ahead, if_pos (O6 G), m_noP G hn, hr, Option.bind_some, if_pos (by decide), n_out (b := false) hy, Option.bind_some, if_neg (by decide)]
      exact px0 G h
    · show opM (m_X7_ahead M' 231 x y z) _ _ _
      rw [m_X7_ahead]
      refine q2 G' h' (fun M1 G1 h1 => ?_)
      rw [if_pos (O7 G1), m_isP G1 h1.1, hr, Option.bind_some, if_neg (by decide), n_in (b := false) hy, Option.bind_some, if_pos (by decide)]
      exact pm0 G1 h1
  | true =>
  obtain ⟨p, hp, rfl⟩ := rg_s hr
  obtain ⟨m, hm, rfl⟩ := rg_n (n := 60) hy
  obtain ⟨w, i7, hd⟩ := vs_w hn.2 (j := 3) (by decide) (by omega)
  have hJ := w.2.1
  have eJ : (nI (aN A 0 1) - (1 : Int32)).toInt = (aN A 0 1 : Int) - 1 := sb_t (by omega)
  have e1 : (-1 : Int32).toInt = -1 := by decide
  cases hz : rg z (-1) ((aN A 0 1 : Int) - 1) with
  | false =>
    obtain ⟨z1, z2⟩ := rg_m0 (by omega) hz
    refine ⟨A, -1000001, ?_, fun M' G' h' => ?_⟩
    · show opX (m_X6_ahead M 0 (nI p) (nI m) z) _ _ _
      rw [m_X6_ahead, if_pos (O6 G), m_noP G hn, hr, Option.bind_some, if_pos (by decide), n_out (b := true) hy, Option.bind_some, if_pos (by decide), R6n G, Option.bind_some, g_s (Sn G) hn.1 (j := 1) (by decide), Option.bind_some, n_out (b := false) (by rw [eJ, e1]; exact hz), Option.bind_some, if_neg (by decide)]
      exact px0 G h
    · show opM (m_X7_ahead M' 231 (nI p) (nI m) z) _ _ _
      rw [m_X7_ahead]
      refine q2 G' h' (fun M1 G1 h1 => ?_)
      rw [if_pos (O7 G1), m_isP G1 h1.1, hr, Option.bind_some, if_neg (by decide), n_in (b := true) hy, Option.bind_some, if_neg (by decide), if_neg z1, if_pos (O7 G1), m_isJ G1 h1.1, z2, Option.bind_some, if_pos (by decide)]
      exact pm0 G1 h1
  | true =>
  have dk := dN_ok m (aN A) w i7 (by omega)
  have d0 := dN_0 m (aN A) w (by omega)
  have X0 : ∀ N, m_X2_after M 189 2 (nI m) = some (N, 190) → m_X6_ahead M 0 (nI p) (nI m) z = if (0 : Int32) ≤ z then (if isO N 190 5 = true then (m_X5_timesHeard N 190 (nI p) z).bind fun v23 => some (N, v23) else none) else ((gR N 190 5 8).bind fun b25 => (ldI N b25 (nI p)).bind fun v28 => some (N, v28)) := by
    intro N n1
    rw [m_X6_ahead, if_pos (O6 G), m_noP G hn, hr, Option.bind_some, if_pos (by decide), n_out (b := true) hy, Option.bind_some, if_pos (by decide), R6n G, Option.bind_some, g_s (Sn G) hn.1 (j := 1) (by decide), Option.bind_some, n_out (b := true) (by rw [eJ, e1]; exact hz), Option.bind_some, if_pos (by decide), R6f G, Option.bind_some, Option.bind_some, if_pos (FO G), n1, bd2_s]
  obtain ⟨N, n1, n2, n3⟩ := m_after G hn.1 w hm (by omega)
  rcases rg_m1 hz with ⟨z1, z2⟩ | ⟨z1, z2, z3⟩
  · refine ⟨A, nI (dN m (aN A) 4 p), ?_, fun M' G' h' => ?_⟩
    · show opX (m_X6_ahead M 0 (nI p) (nI m) z) _ _ _
      rw [X0 N n1, if_neg z2, r_4 (Sw n3.1), Option.bind_some, a_4 (Sw n3.1) dk.1 n2 (by rw [d0 3 (by decide)]; exact hp), Option.bind_some]
      exact pxW n3 h
    · show opM (m_X7_ahead M' 231 (nI p) (nI m) z) _ _ _
      rw [m_X7_ahead]
      refine q2 G' h' (fun M1 G1 h1 => ?_)
      obtain ⟨K, k1, k2, k3⟩ := wlay G1 h1.1.1 (wf_b w)
      obtain ⟨L, l1, l2, l3⟩ := wdays k3.1 k2 w i7 hm (by omega)
      rw [if_pos (O7 G1), m_isP G1 h1.1, hr, Option.bind_some, if_neg (by decide), n_in (b := true) hy, Option.bind_some, if_neg (by decide), if_pos z1, if_pos (O7 G1), k1, Option.bind_some, R7t k3.1, Option.bind_some, if_pos (O7 k3.1), l1, Option.bind_some, R7t l3.1, Option.bind_some, if_pos z1, o_2 (A7t l3.1) dk.1 l2 (by rw [d0 3 (by decide)]; exact hp), Option.bind_some]
      exact pmW (WZ_t k3 l3) h1
  · obtain ⟨s, hs, rfl⟩ := rg_s z3
    refine ⟨A, nI (dN m (aN A) 6 (p * 6 + s)), ?_, fun M' G' h' => ?_⟩
    · show opX (m_X6_ahead M 0 (nI p) (nI m) (nI s)) _ _ _
      rw [X0 N n1, if_pos z2, if_pos (Sw n3.1).1, m_times (Sw n3.1) dk.1 n2 (by rw [d0 3 (by decide)]; exact hp) (by rw [d0 1 (by decide)]; exact hs), Option.bind_some]
      exact pxW n3 h
    · show opM (m_X7_ahead M' 231 (nI p) (nI m) (nI s)) _ _ _
      rw [m_X7_ahead]
      refine q2 G' h' (fun M1 G1 h1 => ?_)
      obtain ⟨K, k1, k2, k3⟩ := wlay G1 h1.1.1 (wf_b w)
      obtain ⟨L, l1, l2, l3⟩ := wdays k3.1 k2 w i7 hm (by omega)
      rw [if_pos (O7 G1), m_isP G1 h1.1, hr, Option.bind_some, if_neg (by decide), n_in (b := true) hy, Option.bind_some, if_neg (by decide), if_neg z1, if_pos (O7 G1), m_isJ G1 h1.1, z3, Option.bind_some, if_neg (by decide), if_pos (O7 G1), k1, Option.bind_some, R7t k3.1, Option.bind_some, if_pos (O7 k3.1), l1, Option.bind_some, R7t l3.1, Option.bind_some, if_neg z1, o_3 (A7t l3.1) dk.1 l2 (by rw [d0 3 (by decide)]; exact hp) (by rw [d0 1 (by decide)]; exact hs), Option.bind_some]
      exact pmW (WZ_t k3 l3) h1
/-- behind how many days a thing is known -/
def wh_ (p s : Nat) : Nat → Nat → sT → Option Nat
  | 0, _, _ => none
  | d + 1, i, c => if (c 4 p).testBit s then some i else wh_ p s d (i + 1) (dayS c)
theorem m_whX {p s : Nat} {ρ : Type} (k0 : mM → Option ρ) (k1 : mM → Int32 → Option ρ) : ∀ (d i n : Nat) (M : mM) (c : sT), GS M → SA M 190 c → wf c → p < c 0 3 → s < c 0 1 → c 0 4 + d ≤ 2000 → i + d = 61 → d < n → ∃ N, m_X2_firstKnown_L11 k0 k1 189 (nI p) (nI s) n M (nI i) = (match wh_ p s d i c with | none => k0 N | some t => k1 N (nI t)) ∧ WY M N := by
  intro d
  induction d with
  | zero =>
    intro i n M c G h w hp hs hd hi hn
    obtain ⟨n, rfl⟩ : ∃ z, n = z + 1 := ⟨n - 1, by omega⟩
    exact ⟨M, by rw [m_X2_firstKnown_L11, if_pos (show (60 : Int32) < nI i from (nI_lt (by omega) (by omega) : nI 60 < nI i))]; rfl, WY_r G⟩
  | succ d ih =>
    intro i n M c G h w hp hs hd hi hn
    obtain ⟨n, rfl⟩ : ∃ z, n = z + 1 := ⟨n - 1, by omega⟩
    rw [m_X2_firstKnown_L11, if_neg (show ¬ (60 : Int32) < nI i from (nI_nlt (by omega) (by decide) : ¬ nI 60 < nI i)), FW G, Option.bind_some, if_pos (Sw G).1, m_knows (Sw G) w h hp hs, Option.bind_some, Option.bind_some, if_pos (Sw G).1]
    rw [show wh_ p s (d + 1) i c = if (c 4 p).testBit s then some i else wh_ p s d (i + 1) (dayS c) from rfl]
    cases (c 4 p).testBit s
    · obtain ⟨K, k1', k2, k3⟩ := wday G h w (by omega)
      obtain ⟨N, n1, n2⟩ := ih (i + 1) n K (dayS c) k3.1 k2 (wf_day w (by omega)) (by rw [dayS_0 w (by decide)]; exact hp) (by rw [dayS_0 w (by decide)]; exact hs) (by rw [dayS_4]; omega) (by omega) (by omega)
      refine ⟨N, ?_, WY_t k3 n2⟩
      rw [if_pos (show b2 false = 0 from rfl), if_neg (show ¬ false = true by decide), k1', Option.bind_some, nI_1]
      exact n1
    · exact ⟨M, by rw [if_neg (show ¬ b2 true = 0 by decide), if_pos (show true = true from rfl)], WY_r G⟩
theorem m_whM {p s : Nat} {ρ : Type} (k0 : mM → Option ρ) (k1 : mM → Int32 → Option ρ) : ∀ (d i n : Nat) (M : mM) (c : sT), GS M → RC_ (mi_ M 237) c → wf c → iv c → p < c 0 3 → s < c 0 1 → c 0 4 + d ≤ 2000 → i + d = 61 → d < n → ∃ N, m_X7_when_L30 k0 k1 231 (nI p) (nI s) n M (nI i) = (match wh_ p s d i c with | none => k0 N | some t => k1 N (nI t)) ∧ WZ M N := by
  intro d
  induction d with
  | zero =>
    intro i n M c G h w i7 hp hs hd hi hn
    obtain ⟨n, rfl⟩ : ∃ z, n = z + 1 := ⟨n - 1, by omega⟩
    exact ⟨M, by rw [m_X7_when_L30, if_pos (show (60 : Int32) < nI i from (nI_lt (by omega) (by omega) : nI 60 < nI i))]; rfl, WZ_r G⟩
  | succ d ih =>
    intro i n M c G h w i7 hp hs hd hi hn
    obtain ⟨n, rfl⟩ : ∃ z, n = z + 1 := ⟨n - 1, by omega⟩
    have hJ := w.2.1.2
    rw [m_X7_when_L30, if_neg (show ¬ (60 : Int32) < nI i from (nI_nlt (by omega) (by decide) : ¬ nI 60 < nI i)), R7t G, Option.bind_some, o_2 (A7t G) w h hp, Option.bind_some, m_has (q_knows w hp) (by omega), Option.bind_some, Option.bind_some, if_pos (O7 G)]
    rw [show wh_ p s (d + 1) i c = if (c 4 p).testBit s then some i else wh_ p s d (i + 1) (dayS c) from rfl]
    cases (c 4 p).testBit s
    · obtain ⟨K, k1', k2, k3⟩ := wdayM G h w i7 (by omega)
      obtain ⟨N, n1, n2⟩ := ih (i + 1) n K (dayS c) k3.1 k2 (wf_day w (by omega)) (iv_day w i7) (by rw [dayS_0 w (by decide)]; exact hp) (by rw [dayS_0 w (by decide)]; exact hs) (by rw [dayS_4]; omega) (by omega) (by omega)
      refine ⟨N, ?_, WZ_t k3 n2⟩
      rw [if_pos (show b2 false = 0 from rfl), if_neg (show ¬ false = true by decide), k1', Option.bind_some, nI_1]
      exact n1
    · exact ⟨M, by rw [if_neg (show ¬ b2 true = 0 by decide), if_pos (show true = true from rfl)], WZ_r G⟩
theorem o_when (x y : Int32) : both A (fun M => m_X6_when M 0 x y) (fun M => m_X7_when M 231 x y) := by
  intro M G h
  have hn := h.1
  cases hr : rg x 0 ((aN A 0 3 : Int) - 1) with
  | false =>
    refine ⟨A, -1000001, ?_, fun M' G' h' => ?_⟩
    · show opX (m_X6_when M 0 x y) _ _ _
      rw [m_X6_when, if_pos (O6 G), m_noP G hn, hr, Option.bind_some, if_neg (by decide)]
      exact px0 G h
    · show opM (m_X7_when M' 231 x y) _ _ _
      rw [m_X7_when]
      refine q2 G' h' (fun M1 G1 h1 => ?_)
      rw [if_pos (O7 G1), m_isP G1 h1.1, hr, Option.bind_some, if_pos (by decide)]
      exact pm0 G1 h1
  | true =>
  cases hy : rg y 0 ((aN A 0 1 : Int) - 1) with
  | false =>
    refine ⟨A, -1000001, ?_, fun M' G' h' => ?_⟩
    · show opX (m_X6_when M 0 x y) _ _ _
      rw [m_X6_when, if_pos (O6 G), m_noP G hn, hr, Option.bind_some, if_pos (by decide), if_pos (O6 G), m_noJ G hn, hy, Option.bind_some, if_neg (by decide)]
      exact px0 G h
    · show opM (m_X7_when M' 231 x y) _ _ _
      rw [m_X7_when]
      refine q2 G' h' (fun M1 G1 h1 => ?_)
      rw [if_pos (O7 G1), m_isP G1 h1.1, hr, Option.bind_some, if_neg (by decide), if_pos (O7 G1), m_isJ G1 h1.1, hy, Option.bind_some, if_pos (by decide)]
      exact pm0 G1 h1
  | true =>
  obtain ⟨p, hp, rfl⟩ := rg_s hr
  obtain ⟨s, hs, rfl⟩ := rg_s hy
  obtain ⟨w, i7, hd⟩ := vs_w hn.2 (j := 3) (by decide) (by omega)
  refine ⟨A, oI (wh_ p s 61 0 (aN A)), ?_, fun M' G' h' => ?_⟩
  · show opX (m_X6_when M 0 (nI p) (nI s)) _ _ _
    obtain ⟨K, k1, k2, k3⟩ := wbe G hn.1 (wf_b w)
    obtain ⟨N, n1, n2⟩ := m_whX (p := p) (s := s) (fun M17 => some (M17, (-1000000 : Int32))) (fun M18 v19 => some (M18, v19)) 61 0 FU K (aN A) k3.1 k2 w hp hs (by omega) (by decide) (by decide)
    have e : m_X2_firstKnown M 189 2 (nI p) (nI s) = some (N, oI (wh_ p s 61 0 (aN A))) := by
      rw [m_X2_firstKnown, FW G, Option.bind_some, if_pos (Sw G).1, k1, Option.bind_some, show m_X2_firstKnown_L11 _ _ 189 (nI p) (nI s) FU K (0 : Int32) = _ from n1]
      cases wh_ p s 61 0 (aN A) <;> rfl
    rw [m_X6_when, if_pos (O6 G), m_noP G hn, hr, Option.bind_some, if_pos (by decide), if_pos (O6 G), m_noJ G hn, hy, Option.bind_some, if_pos (by decide), R6f G, Option.bind_some, R6n G, Option.bind_some, if_pos (FO G), e, bd2_s]
    exact pxW (WY_t k3 n2) h
  · show opM (m_X7_when M' 231 (nI p) (nI s)) _ _ _
    rw [m_X7_when]
    refine q2 G' h' (fun M1 G1 h1 => ?_)
    obtain ⟨K, k1, k2, k3⟩ := wlay G1 h1.1.1 (wf_b w)
    obtain ⟨N, n1, n2⟩ := m_whM (p := p) (s := s) (fun M24 => some (M24, (-1000000 : Int32))) (fun M25 v26 => some (M25, v26)) 61 0 FU K (aN A) k3.1 k2 w i7 hp hs (by omega) (by decide) (by decide)
    rw [if_pos (O7 G1), m_isP G1 h1.1, hr, Option.bind_some, if_neg (by decide), if_pos (O7 G1), m_isJ G1 h1.1, hy, Option.bind_some, if_neg (by decide), if_pos (O7 G1), k1, Option.bind_some, show m_X7_when_L30 _ _ 231 (nI p) (nI s) FU K (0 : Int32) = _ from n1]
    have e : (match wh_ p s 61 0 (aN A) with | none => some (N, (-1000000 : Int32)) | some t => some (N, nI t)) = some (N, oI (wh_ p s 61 0 (aN A))) := by cases wh_ p s 61 0 (aN A) <;> rfl
    rw [e]
    exact pmW (WZ_t k3 n2) h1
end OB
