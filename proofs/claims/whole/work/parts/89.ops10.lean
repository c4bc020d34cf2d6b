/-! ===== drawn, thought ===== -/
section OF
variable (A : aS)
theorem o_drawn (x y z : Int32) : both A (fun M => m_X6_drawn M 0 x y z) (fun M => m_X7_drawn M 231 x y z) := by
  intro M G h
  have hn := h.1
  by_cases h0 : aN A 0 3 = 0
  · refine ⟨A, -1000002, ?_, fun M' G' h' => ?_⟩
    · show opX (m_X6_drawn M 0 x y z) _ _ _
      rw [m_X6_drawn, if_pos (O6 G), m_noS G hn, Option.bind_some, if_neg (by simp [h0, b2])]
      exact px0 G h
    · show opM (m_X7_drawn M' 231 x y z) _ _ _
      rw [m_X7_drawn]
      refine q2 G' h' (fun M1 G1 h1 => ?_)
      rw [if_pos (O7 G1), m_isT G1 h1.1, Option.bind_some, if_pos (by simp [h0, b2])]
      exact pm0 G1 h1
  obtain ⟨w, i7, hd⟩ := vs_w hn.2 (j := 3) (by decide) h0
  cases hx : rg x 0 60 with
  | false =>
    refine ⟨A, -1000001, ?_, fun M' G' h' => ?_⟩
    · show opX (m_X6_drawn M 0 x y z) _ _ _
      rw [m_X6_drawn, if_pos (O6 G), m_noS G hn, Option.bind_some, if_pos (by simp [h0, b2]), n_out (b := false) hx, Option.bind_some, if_neg (by decide)]
      exact px0 G h
    · show opM (m_X7_drawn M' 231 x y z) _ _ _
      rw [m_X7_drawn]
      refine q2 G' h' (fun M1 G1 h1 => ?_)
      rw [if_pos (O7 G1), m_isT G1 h1.1, Option.bind_some, if_neg (by simp [h0, b2]), n_in (b := false) hx, Option.bind_some, if_pos (by decide)]
      exact pm0 G1 h1
  | true =>
  cases hy : rg y 1 999999 with
  | false =>
    refine ⟨A, -1000001, ?_, fun M' G' h' => ?_⟩
    · show opX (m_X6_drawn M 0 x y z) _ _ _
      rw [m_X6_drawn, if_pos (O6 G), m_noS G hn, Option.bind_some, if_pos (by simp [h0, b2]), n_out (b := true) hx, Option.bind_some, if_pos (by decide), n_out (b := false) hy, Option.bind_some, if_neg (by decide)]
      exact px0 G h
    · show opM (m_X7_drawn M' 231 x y z) _ _ _
      rw [m_X7_drawn]
      refine q2 G' h' (fun M1 G1 h1 => ?_)
      rw [if_pos (O7 G1), m_isT G1 h1.1, Option.bind_some, if_neg (by simp [h0, b2]), n_in (b := true) hx, Option.bind_some, if_neg (by decide), n_in (b := false) hy, Option.bind_some, if_pos (by decide)]
      exact pm0 G1 h1
  | true =>
  cases hz : rg z 0 1 with
  | false =>
    refine ⟨A, -1000001, ?_, fun M' G' h' => ?_⟩
    · show opX (m_X6_drawn M 0 x y z) _ _ _
      rw [m_X6_drawn, if_pos (O6 G), m_noS G hn, Option.bind_some, if_pos (by simp [h0, b2]), n_out (b := true) hx, Option.bind_some, if_pos (by decide), n_out (b := true) hy, Option.bind_some, if_pos (by decide), n_out (b := false) hz, Option.bind_some, if_neg (by decide)]
      exact px0 G h
    · show opM (m_X7_drawn M' 231 x y z) _ _ _
      rw [m_X7_drawn]
      refine q2 G' h' (fun M1 G1 h1 => ?_)
      rw [if_pos (O7 G1), m_isT G1 h1.1, Option.bind_some, if_neg (by simp [h0, b2]), n_in (b := true) hx, Option.bind_some, if_neg (by decide), n_in (b := true) hy, Option.bind_some, if_neg (by decide), n_in (b := false) hz, Option.bind_some, if_pos (by decide)]
      exact pm0 G1 h1
  | true =>
  obtain ⟨m, hm, rfl⟩ := rg_n (n := 60) hx
  obtain ⟨s, hs, rfl⟩ : ∃ s, s ≤ 999999 ∧ y = nI s := rg_n (n := 999999) (by
    simp only [rg, Bool.and_eq_true, decide_eq_true_eq] at hy ⊢
    omega)
  have dk := dz_ok m s (aN A) w i7 (by omega)
  have es : Int32.toInt64 (nI s) = lN s := nI_l (by omega)
  refine ⟨A, if z = 0 then nI (known (dz_ m s (aN A))) else nI (kall (dz_ m s (aN A))), ?_, fun M' G' h' => ?_⟩
  · show opX (m_X6_drawn M 0 (nI m) (nI s) z) _ _ _
    obtain ⟨K, k1, k2, k3⟩ := m_be (Sw G) (Sn G) (Or.inr (by decide)) (wf_b w) hn.1
    have GK : GS K := G.sh k3.1
    obtain ⟨N, n1, n2, n3⟩ := m_dzX hm (fun M14 => (gR M14 189 2 0).bind fun b15 => some (M14, b15)) m 0 FU K (aN A) s GK k2 w i7 (by omega) (by omega) (by omega) (by unfold FU; omega)
    have GN : GS N := GK.sh n3.1
    have e : m_X2_afterDraws M 189 2 (nI m) (nI s) = some (N, 190) := by
      rw [m_X2_afterDraws, FW G, Option.bind_some, if_pos (Sw G).1, k1, Option.bind_some, es, show m_X2_afterDraws_L15 _ 189 (nI m) FU K (lN s) (0 : Int32) = _ from n1, FW GN, Option.bind_some]
    rw [m_X6_drawn, if_pos (O6 G), m_noS G hn, Option.bind_some, if_pos (by simp [h0, b2]), n_out (b := true) hx, Option.bind_some, if_pos (by decide), n_out (b := true) hy, Option.bind_some, if_pos (by decide), n_out (b := true) hz, Option.bind_some, if_pos (by decide), R6f G, Option.bind_some, R6n G, Option.bind_some, if_pos (FO G), e, bd2_s, if_pos (Sw GN).1, m_known (Sw GN) dk.1 n2, Option.bind_some, if_pos (Sw GN).1, m_kall (Sw GN) dk.1 n2, Option.bind_some]
    by_cases hz0 : z = 0
    · rw [if_pos hz0, if_pos hz0]
      exact pxW (WY_f G (fr_t k3 n3)) h
    · rw [if_neg hz0, if_neg hz0]
      exact pxW (WY_f G (fr_t k3 n3)) h
  · show opM (m_X7_drawn M' 231 (nI m) (nI s) z) _ _ _
    rw [m_X7_drawn]
    refine q2 G' h' (fun M1 G1 h1 => ?_)
    obtain ⟨K, k1, k2, k3⟩ := wlay G1 h1.1.1 (wf_b w)
    obtain ⟨N, n1, n2, n3⟩ := m_dzM hm z (fun M81 => if z = (0 : Int32) then ((gR M81 231 7 7).bind fun b87 => (m_X7_known M81 b87).bind fun v90 => some (M81, v90)) else ((gR M81 231 7 7).bind fun b83 => (m_X7_knownBy M81 b83 (1 : Int32)).bind fun v86 => some (M81, v86))) m 0 FU K (aN A) s k3.1 k2 w i7 (by omega) (by omega) (by omega) (by unfold FU; omega)
    rw [if_pos (O7 G1), m_isT G1 h1.1, Option.bind_some, if_neg (by simp [h0, b2]), n_in (b := true) hx, Option.bind_some, if_neg (by decide), n_in (b := true) hy, Option.bind_some, if_neg (by decide), n_in (b := true) hz, Option.bind_some, if_neg (by decide), if_pos (O7 G1), k1, Option.bind_some, es, show m_X7_drawn_L63 _ 231 (nI m) z FU K (lN s) (0 : Int32) = _ from n1]
    rw [R7t n3.1, Option.bind_some, m_kn7 (A7t n3.1) dk.1 n2, Option.bind_some, Option.bind_some, m_ka7 (A7t n3.1) dk.1 n2, Option.bind_some]
    by_cases hz0 : z = 0
    · rw [if_pos hz0, if_pos hz0]
      exact pmW (WZ_t k3 n3) h1
    · rw [if_neg hz0, if_neg hz0]
      exact pmW (WZ_t k3 n3) h1
end OF
/-! thought: longs -/
def opXL (o : Option (mM × Int64)) (M : mM) (A : aS) (r : Int64) : Prop := ∃ N, o = some (N, r) ∧ GS N ∧ CX A N ∧ hi_ M N
def opML (o : Option (mM × Int64)) (M : mM) (A : aS) (r : Int64) : Prop := ∃ N, o = some (N, r) ∧ GS N ∧ CM A N ∧ lo_ M N
def bothL (A : aS) (ox om : mM → Option (mM × Int64)) : Prop := ∀ M, GS M → CX A M → ∃ A' r, opXL (ox M) M A' r ∧ ∀ M', GS M' → CM A M' → opML (om M') M' A' r
section TH
variable {M N : mM} {A A' : aS} {r : Int64} {c : sT}
theorem px0L (G : GS M) (h : CX A M) : opXL (some (M, r)) M A r := ⟨M, rfl, G, h, hi_r⟩
theorem pm0L (G : GS M) (h : CM A M) : opML (some (M, r)) M A r := ⟨M, rfl, G, h, lo_r⟩
theorem pxWL (w : WY M N) (h : CX A M) : opXL (some (N, r)) M A r := ⟨N, rfl, w.1, w.cx h, w.h⟩
theorem pmWL (w : WZ M N) (h : CM A M) : opML (some (N, r)) M A r := ⟨N, rfl, w.1, w.cm h, w.l⟩
theorem q2L (G : GS M) (h : CM A M) {g : mM → Option (mM × Int64)} (e : ∀ M1, GS M1 → CM A M1 → opML (g M1) M1 A' r) : opML ((pI M 231 7 0 (0 : Int32)).bind g) M A' r := by
  rw [thr G]
  obtain ⟨K, h1, h2, h3, h4⟩ := e _ (thr_G G) (thr_M h)
  exact ⟨K, h1, h2, h3, fun b hb => (h4 b hb).trans (thr_l b hb)⟩
def bc8 (n : Nat) : Nat := n % 2 + n / 2 % 2 + n / 4 % 2 + n / 8 % 2 + n / 16 % 2 + n / 32 % 2 + n / 64 % 2 + n / 128 % 2
theorem f_bc8 : ∀ n, n < 256 → m_J6_bitCount_0f7a4 ME (nI n) = some (nI (bc8 n)) := by decide +kernel
theorem f_bi8 : ∀ n, n < 256 → ∀ k, k < 8 → ((nI n >>> (nI k &&& 31)) &&& (1 : Int32)) = b2 (n.testBit k) := by decide +kernel
theorem f_sh8 : ∀ s, s < 9 → (1 : Int32) <<< (nI s &&& 31) = nI (2 ^ s) := by decide +kernel
/-- the ways of a set of thoughtful days -/
def wy_ (q z : Nat) (i d x : Nat) : Nat := fo (fun k x => x * (if z.testBit k then q else 10 - q)) i d x
theorem f_wy : ∀ q, q < 11 → ∀ n, n < 9 → ∀ z, z < 2 ^ n → wy_ q z 0 n 1 = q ^ bc8 z * (10 - q) ^ (n - bc8 z) ∧ bc8 z ≤ n := by decide +kernel
def sm_ (f : Nat → Nat) (i d x : Nat) : Nat := fo (fun z x => x + f z) i d x
theorem f_sm : ∀ q, q < 11 → ∀ n, n < 9 → sm_ (fun z => wy_ q z 0 n 1) 0 (2 ^ n) 0 = 10 ^ n := by decide +kernel
/-- days by a set -/
def kd_ (z : Nat) (i d : Nat) (c : sT) : sT := fo (fun k c => dayB (!z.testBit k) c) i d c
theorem dB_4 {b : Bool} : dayB b c 0 4 = c 0 4 + 1 := by
  cases b
  · show up2 c 0 4 (c 0 4 + 1) 0 4 = _
    exact up_s
  · exact dayS_4
theorem dB_0 (w : wf c) {b : Bool} {j : Nat} (hj : j ≠ 4) : dayB b c 0 j = c 0 j := by
  cases b
  · show up2 c 0 4 (c 0 4 + 1) 0 j = _
    exact up_q hj
  · exact dayS_0 w hj
theorem dB_ok (w : wf c) (i7 : iv c) (hd : c 0 4 < 2000) {b : Bool} : wf (dayB b c) ∧ iv (dayB b c) := by
  cases b
  · exact ⟨wf_d w (by omega), i7⟩
  · exact ⟨wf_day w hd, iv_day w i7⟩
theorem kd_ok (z : Nat) : ∀ (d i : Nat) (c : sT), wf c → iv c → c 0 4 + d ≤ 2000 → wf (kd_ z i d c) ∧ iv (kd_ z i d c) ∧ ∀ j, j ≠ 4 → kd_ z i d c 0 j = c 0 j
  | 0, _, _, w, i7, _ => ⟨w, i7, fun _ _ => rfl⟩
  | d + 1, i, c, w, i7, h => by
    have k := dB_ok w i7 (show c 0 4 < 2000 by omega) (b := !z.testBit i)
    have := kd_ok z d (i + 1) (dayB (!z.testBit i) c) k.1 k.2 (by rw [dB_4]; omega)
    exact ⟨this.1, this.2.1, fun j hj => (this.2.2 j hj).trans (dB_0 w hj)⟩
theorem m_kdX {z m : Nat} (hz : z < 256) (hm : m ≤ 8) (x y : Int32) {ρ : Type} (k0 : mM → Option ρ) : ∀ (d i n : Nat) (M : mM) (c : sT), GS M → SA M 190 c → wf c → iv c → c 0 4 + d ≤ 2000 → i + d = m → d < n → ∃ N, m_X2_knownDespite_L11 k0 189 x y (nI m) (nI z) n M (nI i) = k0 N ∧ SA N 190 (kd_ z i d c) ∧ fr 190 M N := by
  intro d
  induction d with
  | zero =>
    intro i n M c G h w i7 hd hi hn
    obtain ⟨n, rfl⟩ : ∃ z, n = z + 1 := ⟨n - 1, by omega⟩
    exact ⟨M, by rw [m_X2_knownDespite_L11, if_pos (nI_le (by omega) (by omega))], h, fr_r _ _⟩
  | succ d ih =>
    intro i n M c G h w i7 hd hi hn
    obtain ⟨n, rfl⟩ : ∃ z, n = z + 1 := ⟨n - 1, by omega⟩
    have k := dB_ok w i7 (show c 0 4 < 2000 by omega) (b := !z.testBit i)
    rw [m_X2_knownDespite_L11, if_neg (nI_ge (by omega) (by omega)), f_bi8 z hz i (by omega), FW G, Option.bind_some, if_pos (Sw G).1, Option.bind_some, g_s (Sw G) h (j := 4) (by decide), Option.bind_some, pI_ (Sw G).1, Option.bind_some, nI_1, nI_1]
    rw [show kd_ z i (d + 1) c = kd_ z (i + 1) d (dayB (!z.testBit i) c) from rfl]
    cases hb : z.testBit i with
    | true =>
      rw [hb] at k
      rw [if_neg (show ¬ b2 true = 0 by decide)]
      have s1 : SA (wI M 190 4 (nI (c 0 4 + 1))) 190 (dayB (!true) c) := SA_w0 h (Or.inr rfl)
      obtain ⟨N, n1, n2, n3⟩ := ih (i + 1) n (wI M 190 4 (nI (c 0 4 + 1))) (dayB (!true) c) (GS_w G) s1 k.1 k.2 (by rw [dB_4]; omega) (by omega) (by omega)
      exact ⟨N, n1, n2, fr_t fr_w0 n3⟩
    | false =>
      rw [hb] at k
      rw [if_pos (show b2 false = 0 from rfl)]
      obtain ⟨L, l1, l2, l3, l4⟩ := m_day (Sw G) w h (by omega)
      obtain ⟨N, n1, n2, n3⟩ := ih (i + 1) n L (dayB (!false) c) (G.sh l3.1) l2 k.1 k.2 (by rw [dB_4]; omega) (by omega) (by omega)
      refine ⟨N, ?_, n2, fr_t l3 n3⟩
      rw [l1, Option.bind_some]
      exact n1
theorem m_ksX (G : GS M) (h : SA M 2 c) (w : wf c) (i7 : iv c) {z m p s : Nat} (hz : z < 256) (hm : m ≤ 8) (hd : c 0 4 + m ≤ 2000) (hp : p < c 0 3) (hs : s < c 0 1) : ∃ N, m_X2_knownDespite M 189 2 (nI p) (nI s) (nI m) (nI z) = some (N, b2 ((kd_ z 0 m c 4 p).testBit s)) ∧ fr 190 M N := by
  obtain ⟨K, k1, k2, k3⟩ := m_be (Sw G) (Sn G) (Or.inr (by decide)) (wf_b w) h
  have GK : GS K := G.sh k3.1
  obtain ⟨N, n1, n2, n3⟩ := m_kdX hz hm (nI p) (nI s) (fun M18 => (gR M18 189 2 0).bind fun b19 => if isO M18 b19 5 = true then (m_X5_knowsIt M18 b19 (nI p) (nI s)).bind fun v22 => if (v22 == 0 || v22 == 1) = true then some (M18, v22) else none else none) m 0 FU K c GK k2 w i7 hd (by omega) (by unfold FU; omega)
  have GN : GS N := GK.sh n3.1
  obtain ⟨q1, q2, q3⟩ := kd_ok z m 0 c w i7 hd
  refine ⟨N, ?_, fr_t k3 n3⟩
  rw [m_X2_knownDespite, FW G, Option.bind_some, if_pos (Sw G).1, k1, Option.bind_some, show m_X2_knownDespite_L11 _ 189 (nI p) (nI s) (nI m) (nI z) FU K (0 : Int32) = _ from n1, FW GN, Option.bind_some, if_pos (Sw GN).1, m_knows (Sw GN) q1 n2 (by rw [q3 3 (by decide)]; exact hp) (by rw [q3 1 (by decide)]; exact hs), Option.bind_some, if_pos (b2_01 _)]
theorem m_pw {b m : Nat} (hm : m ≤ 8) {ρ : Type} (k0 : Int64 → Option ρ) : ∀ (d i n x : Nat), i + d = m → d < n → m_X6_power_L5 k0 M (lN b) (nI m) n (lN x) (nI i) = k0 (lN (x * b ^ d)) := by
  intro d
  induction d with
  | zero =>
    intro i n x hi hn
    obtain ⟨n, rfl⟩ : ∃ z, n = z + 1 := ⟨n - 1, by omega⟩
    rw [m_X6_power_L5, if_pos (nI_le (by omega) (by omega)), Nat.pow_zero, Nat.mul_one]
  | succ d ih =>
    intro i n x hi hn
    obtain ⟨n, rfl⟩ : ∃ z, n = z + 1 := ⟨n - 1, by omega⟩
    rw [m_X6_power_L5, if_neg (nI_ge (by omega) (by omega)), lN_mul, nI_1, ih (i + 1) n (x * b) (by omega) (by omega), Nat.mul_assoc, ← Nat.pow_succ']
theorem m_pow {b m : Nat} (hm : m ≤ 8) : m_X6_power M (lN b) (nI m) = some (lN (b ^ m)) := by
  refine (m_pw (M := M) (b := b) hm (fun v2 => some v2) m 0 FU 1 (by omega) (by unfold FU; omega)).trans ?_
  rw [Nat.one_mul]
/-- in how many cases it is known -/
def ca_ (c : sT) (p s n q : Nat) (i d x : Nat) : Nat := sm_ (fun z => if (kd_ z 0 n c 4 p).testBit s then wy_ q z 0 n 1 else 0) i d x
theorem wy_b {q n z : Nat} (hq : q < 11) (hn : n < 9) (hz : z < 2 ^ n) : wy_ q z 0 n 1 ≤ 100000000 := by
  have : ∀ (d i x : Nat), wy_ q z i d x ≤ x * 10 ^ d := by
    intro d
    induction d with
    | zero => intro i x; show x ≤ x * 1; omega
    | succ d ih =>
      intro i x
      have h1 := ih (i + 1) (x * (if z.testBit i then q else 10 - q))
      have h2 : (if z.testBit i then q else 10 - q) ≤ 10 := by split <;> omega
      calc wy_ q z i (d + 1) x ≤ (x * (if z.testBit i then q else 10 - q)) * 10 ^ d := h1
        _ ≤ (x * 10) * 10 ^ d := Nat.mul_le_mul_right _ (Nat.mul_le_mul_left _ h2)
        _ = x * 10 ^ (d + 1) := by rw [Nat.mul_assoc, ← Nat.pow_succ']
  have h := this n 0 1
  rw [Nat.one_mul] at h
  exact Nat.le_trans h (Nat.pow_le_pow_right (n := 10) (by decide) (show n ≤ 8 by omega))
theorem m_caX (w : wf c) (i7 : iv c) {m p s q : Nat} (hm : m ≤ 8) (hq : q ≤ 10) (hd : c 0 4 + m ≤ 2000) (hp : p < c 0 3) (hs : s < c 0 1) {ρ : Type} (k0 : mM → Int64 → Option ρ) : ∀ (d i n : Nat) (M : mM) (x : Nat), GS M → SA M 2 c → i + d = 2 ^ m → d < n → ∃ N, m_X2_casesKnown_L6 k0 189 2 (nI p) (nI s) (nI m) (nI q) n M (lN x) (nI i) = k0 N (lN (ca_ c p s m q i d x)) ∧ WY M N := by
  have hpm : 2 ^ m ≤ 256 := Nat.pow_le_pow_right (n := 2) (by decide) (show m ≤ 8 from hm)
  intro d
  induction d with
  | zero =>
    intro i n M x G h hi hn
    obtain ⟨n, rfl⟩ : ∃ z, n = z + 1 := ⟨n - 1, by omega⟩
    exact ⟨M, by rw [m_X2_casesKnown_L6, f_sh8 m (by omega), if_pos (nI_le (by omega) (by omega))]; rfl, WY_r G⟩
  | succ d ih =>
    intro i n M x G h hi hn
    obtain ⟨n, rfl⟩ : ∃ z, n = z + 1 := ⟨n - 1, by omega⟩
    obtain ⟨e1, e2⟩ := f_wy q (by omega) m (by omega) i (by omega)
    have hb := wy_b (q := q) (n := m) (z := i) (by omega) (by omega) (by omega)
    have eq10 : Int32.toInt64 ((10 : Int32) - nI q) = lN (10 - q) := by
      rw [show (10 : Int32) - nI q = nI (10 - q) from pk_sub (a := 10) hq, nI_l (by omega)]
    rw [m_X2_casesKnown_L6, f_sh8 m (by omega), if_neg (nI_ge (by omega) (by omega)), show m_J6_bitCount_0f7a4 M (nI i) = _ from f_bc8 i (by omega), Option.bind_some, nI_l (by omega), m_pow (by omega), Option.bind_some, eq10, pk_sub e2, m_pow (by omega), Option.bind_some, lN_mul, ← e1, nI_1]
    rw [show ca_ c p s m q i (d + 1) x = ca_ c p s m q (i + 1) d (x + if (kd_ i 0 m c 4 p).testBit s then wy_ q i 0 m 1 else 0) from rfl]
    by_cases hw0 : wy_ q i 0 m 1 = 0
    · rw [if_pos ((lc_0 (by omega)).mpr hw0), hw0, show (if (kd_ i 0 m c 4 p).testBit s then 0 else 0) = 0 from by split <;> rfl, Nat.add_zero]
      exact ih (i + 1) n M x G h (by omega) (by omega)
    · obtain ⟨K, k1, k2⟩ := m_ksX G h w i7 (show i < 256 by omega) hm hd hp hs
      have GK : GS K := G.sh k2.1
      have hK : SA K 2 c := h.o (fun a ha => k2.2 _ (by omega))
      rw [if_neg (fun z => hw0 ((lc_0 (by omega)).mp z)), if_pos (FO G), k1, bd2_s, lN_add]
      cases (kd_ i 0 m c 4 p).testBit s with
      | false =>
        rw [if_pos (show b2 false = 0 from rfl), if_neg (show ¬ false = true by decide), Nat.add_zero]
        obtain ⟨N, n1, n2⟩ := ih (i + 1) n K x GK hK (by omega) (by omega)
        exact ⟨N, n1, WY_t (WY_f G k2) n2⟩
      | true =>
        rw [if_neg (show ¬ b2 true = 0 by decide), if_pos (show true = true from rfl)]
        obtain ⟨N, n1, n2⟩ := ih (i + 1) n K (x + wy_ q i 0 m 1) GK hK (by omega) (by omega)
        exact ⟨N, n1, WY_t (WY_f G k2) n2⟩
theorem m_kdM {z m q : Nat} (hz : z < 256) (hm : m ≤ 8) (hq : q ≤ 10) (x y u : Int32) (a b : Int64) {ρ : Type} (k0 : mM → Int64 → Option ρ) : ∀ (d i n : Nat) (M : mM) (c : sT) (v : Nat), GS M → RC_ (mi_ M 237) c → wf c → iv c → c 0 4 + d ≤ 2000 → i + d = m → d < n → ∃ N, m_X7_thought_L88 k0 231 x y (nI m) (nI q) u a b (nI z) n M (lN v) (nI i) = k0 N (lN (wy_ q z i d v)) ∧ RC_ (mi_ N 237) (kd_ z i d c) ∧ WZ M N := by
  intro d
  induction d with
  | zero =>
    intro i n M c v G h w i7 hd hi hn
    obtain ⟨n, rfl⟩ : ∃ z, n = z + 1 := ⟨n - 1, by omega⟩
    exact ⟨M, by rw [m_X7_thought_L88, if_pos (nI_le (by omega) (by omega))]; rfl, h, WZ_r G⟩
  | succ d ih =>
    intro i n M c v G h w i7 hd hi hn
    obtain ⟨n, rfl⟩ : ∃ z, n = z + 1 := ⟨n - 1, by omega⟩
    have k := dB_ok w i7 (show c 0 4 < 2000 by omega) (b := !z.testBit i)
    have eq10 : (10 : Int64) - Int32.toInt64 (nI q) = lN (10 - q) := by rw [nI_l (by omega), show (10 : Int64) = lN 10 from rfl, lN_sub hq]
    rw [m_X7_thought_L88, if_neg (nI_ge (by omega) (by omega)), f_bi8 z hz i (by omega), if_neg (show ¬ (1 : Int32) = (0 : Int32) by decide), if_pos (show (0 : Int32) = (0 : Int32) from rfl), R7t G, Option.bind_some, Option.bind_some, if_pos (O7 G), if_pos (O7 G), eq10, nI_l (by omega), lN_mul, lN_mul, nI_1]
    rw [show kd_ z i (d + 1) c = kd_ z (i + 1) d (dayB (!z.testBit i) c) from rfl, show wy_ q z i (d + 1) v = wy_ q z (i + 1) d (v * (if z.testBit i then q else 10 - q)) from rfl]
    cases hb : z.testBit i with
    | true =>
      rw [hb] at k
      rw [if_pos (show b2 true = 1 from rfl), if_pos (show true = true from rfl)]
      obtain ⟨L, l1, l2, l3, l4, l5⟩ := m_db G.mh (A7t G) w i7 h (by decide) (by omega) 1
      have WL := WZ_f G l2
      obtain ⟨N, n1, n2, n3⟩ := ih (i + 1) n L (dayB (!true) c) (v * q) WL.1 l3 k.1 k.2 (by rw [dB_4]; omega) (by omega) (by omega)
      refine ⟨N, ?_, n2, WZ_t WL n3⟩
      rw [l1, Option.bind_some]
      exact n1
    | false =>
      rw [hb] at k
      rw [if_neg (show ¬ b2 false = 1 by decide), if_neg (show ¬ false = true by decide)]
      obtain ⟨L, l1, l2, l3, l4, l5⟩ := m_db G.mh (A7t G) w i7 h (by decide) (by omega) 0
      have WL := WZ_f G l2
      obtain ⟨N, n1, n2, n3⟩ := ih (i + 1) n L (dayB (!false) c) (v * (10 - q)) WL.1 l3 k.1 k.2 (by rw [dB_4]; omega) (by omega) (by omega)
      refine ⟨N, ?_, n2, WZ_t WL n3⟩
      rw [l1, Option.bind_some]
      exact n1
theorem m_caM (w : wf c) (i7 : iv c) {m p s q : Nat} (hm : m ≤ 8) (hq : q ≤ 10) (hd : c 0 4 + m ≤ 2000) (hp : p < c 0 3) (hs : s < c 0 1) (u : Int32) {ρ : Type} (k0 : mM → Int64 → Int64 → Option ρ) : ∀ (d i n : Nat) (M : mM) (x y : Nat), GS M → RC_ (mi_ M 235) c → i + d = 2 ^ m → d < n → ∃ N, m_X7_thought_L70 k0 231 (nI p) (nI s) (nI m) (nI q) u n M (lN x) (lN y) (nI i) = k0 N (lN (ca_ c p s m q i d x)) (lN (sm_ (fun z => wy_ q z 0 m 1) i d y)) ∧ WZ M N := by
  have hpm : 2 ^ m ≤ 256 := Nat.pow_le_pow_right (n := 2) (by decide) (show m ≤ 8 from hm)
  have hJ := w.2.1.2
  intro d
  induction d with
  | zero =>
    intro i n M x y G h hi hn
    obtain ⟨n, rfl⟩ : ∃ z, n = z + 1 := ⟨n - 1, by omega⟩
    exact ⟨M, by rw [m_X7_thought_L70, f_sh8 m (by omega), if_pos (nI_le (by omega) (by omega))]; rfl, WZ_r G⟩
  | succ d ih =>
    intro i n M x y G h hi hn
    obtain ⟨n, rfl⟩ : ∃ z, n = z + 1 := ⟨n - 1, by omega⟩
    obtain ⟨K, k1, k2, k3⟩ := wlay G h (wf_b w)
    obtain ⟨L, l1, l2, l3⟩ := m_kdM (z := i) (show i < 256 by omega) hm hq (nI p) (nI s) u (lN x) (lN y) (fun M21 v22 => (gR M21 231 7 7).bind fun b23 => (m_X7_of M21 b23 (nI p) (2 : Int32)).bind fun v26 => (m_X7_has M21 v26 (nI s)).bind fun v28 => if v28 = (0 : Int32) then m_X7_thought_L70 k0 231 (nI p) (nI s) (nI m) (nI q) u n M21 (lN x + (0 : Int64)) (lN y + v22) (nI i + (1 : Int32)) else m_X7_thought_L70 k0 231 (nI p) (nI s) (nI m) (nI q) u n M21 (lN x + v22) (lN y + v22) (nI i + (1 : Int32))) m 0 FU K c 1 k3.1 k2 w i7 hd (by omega) (by unfold FU; omega)
    obtain ⟨q1, q2, q3⟩ := kd_ok i m 0 c w i7 hd
    have WL := WZ_t k3 l3
    have hp' : p < kd_ i 0 m c 0 3 := by rw [q3 3 (by decide)]; exact hp
    rw [m_X7_thought_L70, f_sh8 m (by omega), if_neg (nI_ge (by omega) (by omega)), if_pos (O7 G), k1, Option.bind_some]
    rw [show m_X7_thought_L88 _ 231 (nI p) (nI s) (nI m) (nI q) u (lN x) (lN y) (nI i) FU K (1 : Int64) (0 : Int32) = _ from l1]
    rw [R7t WL.1, Option.bind_some, o_2 (A7t WL.1) q1 l2 hp', Option.bind_some, m_has (q_knows q1 hp') (by omega), Option.bind_some, show lN x + (0 : Int64) = lN x from lN_add x 0, lN_add, lN_add, nI_1]
    rw [show ca_ c p s m q i (d + 1) x = ca_ c p s m q (i + 1) d (x + if (kd_ i 0 m c 4 p).testBit s then wy_ q i 0 m 1 else 0) from rfl, show sm_ (fun z => wy_ q z 0 m 1) i (d + 1) y = sm_ (fun z => wy_ q z 0 m 1) (i + 1) d (y + wy_ q i 0 m 1) from rfl]
    cases (kd_ i 0 m c 4 p).testBit s with
    | false =>
      rw [if_pos (show b2 false = 0 from rfl), if_neg (show ¬ false = true by decide), Nat.add_zero]
      obtain ⟨N, n1, n2⟩ := ih (i + 1) n L x (y + wy_ q i 0 m 1) WL.1 (WL.s h) (by omega) (by omega)
      exact ⟨N, n1, WZ_t WL n2⟩
    | true =>
      rw [if_neg (show ¬ b2 true = 0 by decide), if_pos (show true = true from rfl)]
      obtain ⟨N, n1, n2⟩ := ih (i + 1) n L (x + wy_ q i 0 m 1) (y + wy_ q i 0 m 1) WL.1 (WL.s h) (by omega) (by omega)
      exact ⟨N, n1, WZ_t WL n2⟩
theorem ca_le {p s m q : Nat} : ∀ (d i x y : Nat), x ≤ y → ca_ c p s m q i d x ≤ sm_ (fun z => wy_ q z 0 m 1) i d y
  | 0, _, _, _, h => h
  | d + 1, i, x, y, h => by
    show ca_ c p s m q (i + 1) d (x + if (kd_ i 0 m c 4 p).testBit s then wy_ q i 0 m 1 else 0) ≤ sm_ (fun z => wy_ q z 0 m 1) (i + 1) d (y + wy_ q i 0 m 1)
    refine ca_le d (i + 1) _ _ ?_
    split <;> omega
/-! the greatest common divisor -/
def eu_ : Nat → Nat → Nat → Nat
  | 0, a, _ => a
  | k + 1, a, b => if b = 0 then a else eu_ k b (a % b)
def tm_ : Nat → Nat → Nat → Prop
  | 0, _, b => b = 0
  | k + 1, a, b => b = 0 ∨ tm_ k b (a % b)
theorem tm_0 : ∀ (k a : Nat), tm_ k a 0
  | 0, _ => rfl
  | k + 1, _ => Or.inl rfl
theorem tm_2 : ∀ (m a b : Nat), b < 2 ^ m → tm_ (2 * m) a b
  | 0, a, b, h => by
    show b = 0
    simpa using h
  | m + 1, a, b, h => by
    show tm_ (2 * m + 2) a b
    by_cases h0 : b = 0
    · exact Or.inl h0
    · refine Or.inr ?_
      by_cases h1 : a % b = 0
      · rw [h1]
        exact Or.inl rfl
      · refine Or.inr (tm_2 m _ _ ?_)
        have hr : a % b < b := Nat.mod_lt _ (by omega)
        have hs : b % (a % b) < a % b := Nat.mod_lt _ (by omega)
        have hd : (a % b) * (b / (a % b)) + b % (a % b) = b := Nat.div_add_mod b (a % b)
        have hq : 1 ≤ b / (a % b) := (Nat.le_div_iff_mul_le (by omega)).mpr (by omega)
        have hm : a % b ≤ (a % b) * (b / (a % b)) := Nat.le_mul_of_pos_right _ hq
        rw [Nat.pow_succ] at h
        omega
theorem eu_pos : ∀ (k a b : Nat), tm_ k a b → 0 < a + b → 0 < eu_ k a b
  | 0, a, b, h, hp => by
    have : b = 0 := h
    show 0 < a
    omega
  | k + 1, a, b, h, hp => by
    unfold eu_
    by_cases h0 : b = 0
    · rw [if_pos h0]
      omega
    · rw [if_neg h0]
      exact eu_pos k b (a % b) (h.resolve_left h0) (by omega)
theorem eu_le : ∀ (k a b z : Nat), a ≤ z → b ≤ z → eu_ k a b ≤ z
  | 0, a, b, z, h, _ => h
  | k + 1, a, b, z, h, g => by
    unfold eu_
    split
    · exact h
    · exact eu_le k b (a % b) z g (Nat.le_trans (Nat.mod_le _ _) h)
theorem l0_ {b : Nat} (hb : b < 2 ^ 63) (h : b ≠ 0) : ¬ lN b = (0 : Int64) := fun q => h ((pk_lEQ (a := b) (b := 0) hb (by decide)).mp q)
theorem m_cdX {ρ : Type} (k0 : Int64 → Option ρ) : ∀ (k i n a b : Nat), tm_ k a b → a < 2 ^ 63 → b < 2 ^ 63 → i + k < 60 → k < n → m_X6_commonDivisor_L3 k0 M n (lN a) (lN b) (nI i) = k0 (lN (eu_ k a b)) := by
  intro k
  induction k with
  | zero =>
    intro i n a b t ha hb hi hn
    obtain ⟨n, rfl⟩ : ∃ z, n = z + 1 := ⟨n - 1, by omega⟩
    have hb0 : b = 0 := t
    subst hb0
    rw [m_X6_commonDivisor_L3, if_neg (show ¬ (60 : Int32) ≤ nI i from (nI_ge (by omega) (by decide) : ¬ nI 60 ≤ nI i)), if_pos ((lc_0 hb).mpr rfl)]
    rfl
  | succ k ih =>
    intro i n a b t ha hb hi hn
    obtain ⟨n, rfl⟩ : ∃ z, n = z + 1 := ⟨n - 1, by omega⟩
    rw [m_X6_commonDivisor_L3, if_neg (show ¬ (60 : Int32) ≤ nI i from (nI_ge (by omega) (by decide) : ¬ nI 60 ≤ nI i))]
    unfold eu_
    by_cases h0 : b = 0
    · rw [if_pos ((lc_0 hb).mpr h0), if_pos h0]
    · rw [if_neg (fun q => h0 ((lc_0 hb).mp q)), if_neg (l0_ hb h0), if_neg h0, lr_n ha (by omega) hb, nI_1]
      exact ih (i + 1) n b (a % b) (t.resolve_left h0) hb (Nat.lt_of_le_of_lt (Nat.mod_le _ _) ha) (by omega) (by omega)
theorem m_cdM (u : Int32) (v z : Int64) {ρ : Type} (k0 : Int64 → Option ρ) : ∀ (k n a b : Nat), tm_ k a b → a < 2 ^ 63 → b < 2 ^ 63 → k < n → m_X7_thought_L199 k0 M u v z n (lN a) (lN b) = k0 (lN (eu_ k a b)) := by
  intro k
  induction k with
  | zero =>
    intro n a b t ha hb hn
    obtain ⟨n, rfl⟩ : ∃ z, n = z + 1 := ⟨n - 1, by omega⟩
    have hb0 : b = 0 := t
    subst hb0
    rw [m_X7_thought_L199, if_pos ((lc_0 hb).mpr rfl)]
    rfl
  | succ k ih =>
    intro n a b t ha hb hn
    obtain ⟨n, rfl⟩ : ∃ z, n = z + 1 := ⟨n - 1, by omega⟩
    rw [m_X7_thought_L199]
    unfold eu_
    by_cases h0 : b = 0
    · rw [if_pos ((lc_0 hb).mpr h0), if_pos h0]
    · rw [if_neg (fun q => h0 ((lc_0 hb).mp q)), if_neg (l0_ hb h0), if_neg h0, lr_n ha (by omega) hb]
      exact ih n b (a % b) (t.resolve_left h0) hb (Nat.lt_of_le_of_lt (Nat.mod_le _ _) ha) (by omega)
end TH
