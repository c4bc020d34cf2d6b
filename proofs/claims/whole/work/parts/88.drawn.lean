/-! ===== drawn ===== -/
def dw_ (x : Nat) (c : sT) : sT :=
  let c1 := if x % 3 = 0 then up2 c 2 (x % c 0 2) (x % c 0 1) else c
  if x % 4 = 0 then up2 c1 4 (x % c 0 3) (c 4 (x % c 0 3) &&& (63 ^^^ 2 ^ (x % c 0 1))) else c1
def dz_ : Nat → Nat → sT → sT
  | 0, _, c => c
  | d + 1, x, c => dz_ d (x * 16807 % 2147483647) (dayS (dw_ (x * 16807 % 2147483647) c))
theorem lr_n {a b : Nat} (ha : a < 2 ^ 63) (h0 : 0 < b) (hb : b < 2 ^ 63) : lr_ (lN a) (lN b) = lN (a % b) := pk_lRem ha h0 hb
theorem lc_0 {a : Nat} (ha : a < 2 ^ 63) : lg_cmp (lN a) (0 : Int64) = (0 : Int32) ↔ a = 0 := by
  unfold lg_cmp
  by_cases h : a = 0
  · subst h
    exact ⟨fun _ => rfl, fun _ => by decide⟩
  · have h1 : (0 : Int64) < lN a := show lN 0 < lN a from (pk_lLT (by decide) ha).mpr (by omega)
    rw [if_pos h1]
    exact ⟨fun q => absurd q (by decide), fun q => absurd q h⟩
section DW
variable {M : mM} {c : sT}
theorem dw_r {x : Nat} {b : Nat} (h2 : b ≠ 2) (h4 : b ≠ 4) : dw_ x c b = c b := by
  unfold dw_
  split
  · rw [up_or h4]
    split
    · rw [up_or h2]
    · rfl
  · split
    · rw [up_or h2]
    · rfl
theorem dw_ok (w : wf c) (i7 : iv c) {x : Nat} : wf (dw_ x c) ∧ iv (dw_ x c) := by
  have hJ := w.2.1
  have hL := w.2.2.1
  have hP := w.2.2.2.1
  have w1 : wf (if x % 3 = 0 then up2 c 2 (x % c 0 2) (x % c 0 1) else c) := by
    split
    · exact wf_2 w (Nat.mod_lt _ (by omega))
    · exact w
  refine ⟨?_, iv_o (by rw [dw_r (by decide) (by decide)]) (dw_r (by decide) (by decide)) (dw_r (by decide) (by decide)) i7⟩
  unfold dw_
  simp only
  split
  · refine wf_4 w1 ?_
    have e : (if x % 3 = 0 then up2 c 2 (x % c 0 2) (x % c 0 1) else c) 0 1 = c 0 1 := by split <;> rfl
    rw [e]
    exact Nat.lt_of_le_of_lt Nat.and_le_left (w.2.2.2.2.2.2.2.2.1 _ (Nat.mod_lt _ (by omega)))
  · exact w1
theorem m_dw (G : GS M) (h : SA M 190 c) (w : wf c) {x : Nat} (hx : x < 2147483647) : ∃ N, m_X2_drawOnce M 189 (lN x) = some N ∧ SA N 190 (dw_ x c) ∧ fr 190 M N := by
  have hJ := w.2.1
  have hL := w.2.2.1
  have hP := w.2.2.2.1
  have hs : x % c 0 1 < c 0 1 := Nat.mod_lt _ (by omega)
  have hl : x % c 0 2 < c 0 2 := Nat.mod_lt _ (by omega)
  have hp : x % c 0 3 < c 0 3 := Nat.mod_lt _ (by omega)
  have n1 : ∀ z : Nat, 1 ≤ z → z ≤ 8 → ¬ Int32.toInt64 (nI z) = (0 : Int64) := by
    intro z h1 h8
    rw [nI_l (by omega)]
    exact fun q => absurd ((pk_lEQ (a := z) (b := 0) (by omega) (by decide)).mp q) (by omega)
  have rm : ∀ z : Nat, 1 ≤ z → z ≤ 8 → Int64.toInt32 (lr_ (lN x) (Int32.toInt64 (nI z))) = nI (x % z) := by
    intro z h1 h8
    rw [nI_l (by omega), lr_n (by omega) (by omega) (by omega), lN_i]
  have e3 : lg_cmp (lr_ (lN x) (3 : Int64)) (0 : Int64) = (0 : Int32) ↔ x % 3 = 0 := by
    rw [show lr_ (lN x) (3 : Int64) = lN (x % 3) from lr_n (b := 3) (by omega) (by decide) (by decide), lc_0 (by omega)]
  have e4 : lg_cmp (lr_ (lN x) (4 : Int64)) (0 : Int64) = (0 : Int32) ↔ x % 4 = 0 := by
    rw [show lr_ (lN x) (4 : Int64) = lN (x % 4) from lr_n (b := 4) (by omega) (by decide) (by decide), lc_0 (by omega)]
  have hk := q_knows w hp
  have pre : m_X2_drawOnce M 189 (lN x) = (if lg_cmp (lr_ (lN x) (3 : Int64)) (0 : Int64) = (0 : Int32) then ((stI M (190 + 2) (nI (x % c 0 2)) (nI (x % c 0 1))).bind fun M45 => if lg_cmp (lr_ (lN x) (4 : Int64)) (0 : Int64) = (0 : Int32) then ((gR M45 189 2 0).bind fun b48 => (gR M45 b48 5 8).bind fun b50 => (gR M45 189 2 0).bind fun b52 => (gI M45 b52 5 3).bind fun v54 => if Int32.toInt64 v54 = (0 : Int64) then none else (ldI M45 b50 (Int64.toInt32 (lr_ (lN x) (Int32.toInt64 v54)))).bind fun v58 => (stI M45 b50 (Int64.toInt32 (lr_ (lN x) (Int32.toInt64 v54))) (v58 &&& (((1 : Int32) <<< (nI (x % c 0 1) &&& 31)) ^^^ (-1 : Int32)))).bind fun M59 => some M59) else some M45) else (if lg_cmp (lr_ (lN x) (4 : Int64)) (0 : Int64) = (0 : Int32) then ((ldI M (190 + 4) (nI (x % c 0 3))).bind fun v33 => (stI M (190 + 4) (nI (x % c 0 3)) (v33 &&& (((1 : Int32) <<< (nI (x % c 0 1) &&& 31)) ^^^ (-1 : Int32)))).bind fun M34 => some M34) else some M)) := by
    rw [m_X2_drawOnce, FW G, Option.bind_some, g_s (Sw G) h (j := 1) (by decide), Option.bind_some, if_neg (show ¬ nI (c 0 1) < (1 : Int32) from (nI_nlt (by omega) (by omega) : ¬ _ < nI 1)), Option.bind_some, g_s (Sw G) h (j := 2) (by decide), Option.bind_some, if_neg (show ¬ nI (c 0 2) < (1 : Int32) from (nI_nlt (by omega) (by omega) : ¬ _ < nI 1)), Option.bind_some, g_s (Sw G) h (j := 3) (by decide), Option.bind_some, if_pos (show (1 : Int32) ≤ nI (c 0 3) from (nI_le (by omega) (by omega) : nI 1 ≤ _)), Option.bind_some, g_s (Sw G) h (j := 1) (by decide), Option.bind_some, if_neg (n1 _ (by omega) (by omega)), Option.bind_some, r_2 (Sw G), Option.bind_some, Option.bind_some, g_s (Sw G) h (j := 2) (by decide), Option.bind_some, if_neg (n1 _ (by omega) (by omega)), Option.bind_some, r_4 (Sw G), Option.bind_some, Option.bind_some, g_s (Sw G) h (j := 3) (by decide), Option.bind_some, if_neg (n1 _ (by omega) (by omega)), rm _ (by omega) (by omega), rm _ (by omega) (by omega), rm _ (by omega) (by omega)]
  rw [pre]
  have fk : (nI (c 4 (x % c 0 3)) &&& (((1 : Int32) <<< (nI (x % c 0 1) &&& 31)) ^^^ (-1 : Int32))) = nI (c 4 (x % c 0 3) &&& (63 ^^^ 2 ^ (x % c 0 1))) := by rw [f_shl _ (by omega), f_an _ hk _ (p2_lt (by omega))]
  by_cases h3 : x % 3 = 0
  · have A1 : SA (wI M (190 + 2) (x % c 0 2) (nI (x % c 0 1))) 190 (up2 c 2 (x % c 0 2) (x % c 0 1)) := SA_w h (by decide) (by decide)
    have G1 : GS (wI M (190 + 2) (x % c 0 2) (nI (x % c 0 1))) := GS_w G
    have f1 : fr 190 M (wI M (190 + 2) (x % c 0 2) (nI (x % c 0 1))) := fr_w (by decide)
    have w1 : wf (up2 c 2 (x % c 0 2) (x % c 0 1)) := wf_2 w hs
    rw [if_pos (e3.mpr h3), s_2 (Sw G) (by omega), Option.bind_some]
    by_cases h4 : x % 4 = 0
    · have l4 := a_4 (Sw G1) w1 A1 (j := x % c 0 3) hp
      have ed : dw_ x c = up2 (up2 c 2 (x % c 0 2) (x % c 0 1)) 4 (x % c 0 3) (c 4 (x % c 0 3) &&& (63 ^^^ 2 ^ (x % c 0 1))) := by
        unfold dw_
        simp only
        rw [if_pos h4, if_pos h3]
      refine ⟨wI (wI M (190 + 2) (x % c 0 2) (nI (x % c 0 1))) (190 + 4) (x % c 0 3) (nI (c 4 (x % c 0 3) &&& (63 ^^^ 2 ^ (x % c 0 1)))), ?_, ?_, fr_t f1 (fr_w (by decide))⟩
      · rw [if_pos (e4.mpr h4), FW G1, Option.bind_some, r_4 (Sw G1), Option.bind_some, Option.bind_some, show gI (wI M (190 + 2) (x % c 0 2) (nI (x % c 0 1))) 190 5 3 = some (nI (c 0 3)) from g_s (Sw G1) A1 (j := 3) (by decide), Option.bind_some, if_neg (n1 _ (by omega) (by omega)), rm _ (by omega) (by omega), show ldI (wI M (190 + 2) (x % c 0 2) (nI (x % c 0 1))) (190 + 4) (nI (x % c 0 3)) = some (nI (c 4 (x % c 0 3))) from l4, Option.bind_some, fk, s_4 (Sw G1) (by omega), Option.bind_some]
      · rw [ed]
        exact SA_w A1 (by decide) (by decide)
    · have ed : dw_ x c = up2 c 2 (x % c 0 2) (x % c 0 1) := by
        unfold dw_
        simp only
        rw [if_neg h4, if_pos h3]
      refine ⟨_, by rw [if_neg (fun q => h4 (e4.mp q))], ?_, f1⟩
      rw [ed]
      exact A1
  · rw [if_neg (fun q => h3 (e3.mp q))]
    by_cases h4 : x % 4 = 0
    · have ed : dw_ x c = up2 c 4 (x % c 0 3) (c 4 (x % c 0 3) &&& (63 ^^^ 2 ^ (x % c 0 1))) := by
        unfold dw_
        simp only
        rw [if_pos h4, if_neg h3]
      refine ⟨wI M (190 + 4) (x % c 0 3) (nI (c 4 (x % c 0 3) &&& (63 ^^^ 2 ^ (x % c 0 1)))), ?_, ?_, fr_w (by decide)⟩
      · rw [if_pos (e4.mpr h4), a_4 (Sw G) w h hp, Option.bind_some, fk, s_4 (Sw G) (by omega), Option.bind_some]
      · rw [ed]
        exact SA_w h (by decide) (by decide)
    · have ed : dw_ x c = c := by
        unfold dw_
        simp only
        rw [if_neg h4, if_neg h3]
      refine ⟨M, by rw [if_neg (fun q => h4 (e4.mp q))], ?_, fr_r _ _⟩
      rw [ed]
      exact h
theorem lx_ {x : Nat} (hx : x < 2147483647) : lr_ (lN x * (16807 : Int64)) (2147483647 : Int64) = lN (x * 16807 % 2147483647) := by
  rw [show (16807 : Int64) = lN 16807 from rfl, lN_mul, show (2147483647 : Int64) = lN 2147483647 from rfl, lr_n (by omega) (by decide) (by decide)]
theorem m_dzX {m : Nat} (hm : m ≤ 60) {ρ : Type} (k0 : mM → Option ρ) : ∀ (d i n : Nat) (M : mM) (c : sT) (x : Nat), GS M → SA M 190 c → wf c → iv c → c 0 4 + d ≤ 2000 → x < 2147483647 → i + d = m → d < n → ∃ N, m_X2_afterDraws_L15 k0 189 (nI m) n M (lN x) (nI i) = k0 N ∧ SA N 190 (dz_ d x c) ∧ fr 190 M N := by
  intro d
  induction d with
  | zero =>
    intro i n M c x G h w i7 hd hx hi hn
    obtain ⟨n, rfl⟩ : ∃ z, n = z + 1 := ⟨n - 1, by omega⟩
    exact ⟨M, by rw [m_X2_afterDraws_L15, if_pos (nI_le (by omega) (by omega))], h, fr_r _ _⟩
  | succ d ih =>
    intro i n M c x G h w i7 hd hx hi hn
    obtain ⟨n, rfl⟩ : ∃ z, n = z + 1 := ⟨n - 1, by omega⟩
    have hx' : x * 16807 % 2147483647 < 2147483647 := Nat.mod_lt _ (by decide)
    obtain ⟨K, k1, k2, k3⟩ := m_dw G h w hx'
    have GK : GS K := G.sh k3.1
    have wk := dw_ok w i7 (x := x * 16807 % 2147483647)
    have e0 : dw_ (x * 16807 % 2147483647) c 0 = c 0 := dw_r (by decide) (by decide)
    obtain ⟨L, l1, l2, l3, l4⟩ := m_day (Sw GK) wk.1 k2 (by rw [e0]; omega)
    obtain ⟨N, n1, n2, n3⟩ := ih (i + 1) n L (dayS (dw_ (x * 16807 % 2147483647) c)) (x * 16807 % 2147483647) (GK.sh l3.1) l2 l4 (iv_day wk.1 wk.2) (by rw [dayS_4, e0]; omega) hx' (by omega) (by omega)
    refine ⟨N, ?_, n2, fr_t k3 (fr_t l3 n3)⟩
    rw [m_X2_afterDraws_L15, if_neg (nI_ge (by omega) (by omega)), if_pos (FO G), lx_ hx, k1, Option.bind_some, FW GK, Option.bind_some, if_pos (Sw GK).1, l1, Option.bind_some, nI_1]
    exact n1
theorem dz_ok : ∀ (d x : Nat) (c : sT), wf c → iv c → c 0 4 + d ≤ 2000 → wf (dz_ d x c) ∧ iv (dz_ d x c)
  | 0, _, _, w, i7, _ => ⟨w, i7⟩
  | d + 1, x, c, w, i7, h => by
    have wk := dw_ok w i7 (x := x * 16807 % 2147483647)
    have e0 : dw_ (x * 16807 % 2147483647) c 0 = c 0 := dw_r (by decide) (by decide)
    exact dz_ok d _ _ (wf_day wk.1 (by rw [e0]; omega)) (iv_day wk.1 wk.2) (by rw [dayS_4, e0]; omega)
theorem m_dzM {m : Nat} (hm : m ≤ 60) (y : Int32) {ρ : Type} (k0 : mM → Option ρ) : ∀ (d i n : Nat) (M : mM) (c : sT) (x : Nat), GS M → RC_ (mi_ M 237) c → wf c → iv c → c 0 4 + d ≤ 2000 → x < 2147483647 → i + d = m → d < n → ∃ N, m_X7_drawn_L63 k0 231 (nI m) y n M (lN x) (nI i) = k0 N ∧ RC_ (mi_ N 237) (dz_ d x c) ∧ WZ M N := by
  intro d
  induction d with
  | zero =>
    intro i n M c x G h w i7 hd hx hi hn
    obtain ⟨n, rfl⟩ : ∃ z, n = z + 1 := ⟨n - 1, by omega⟩
    exact ⟨M, by rw [m_X7_drawn_L63, if_pos (nI_le (by omega) (by omega))], h, WZ_r G⟩
  | succ d ih =>
    intro i n M c x0 G h w i7 hd hx0 hi hn
    obtain ⟨n, rfl⟩ : ∃ z, n = z + 1 := ⟨n - 1, by omega⟩
    have hx' : x0 * 16807 % 2147483647 < 2147483647 := Nat.mod_lt _ (by decide)
    rw [m_X7_drawn_L63, if_neg (nI_ge (by omega) (by omega)), lx_ hx0, show dz_ (d + 1) x0 c = dz_ d (x0 * 16807 % 2147483647) (dayS (dw_ (x0 * 16807 % 2147483647) c)) from rfl]
    generalize x0 * 16807 % 2147483647 = x at hx'
    have hJ := w.2.1
    have hL := w.2.2.1
    have hP := w.2.2.2.1
    have hs : x % c 0 1 < c 0 1 := Nat.mod_lt _ (by omega)
    have hl : x % c 0 2 < c 0 2 := Nat.mod_lt _ (by omega)
    have hp : x % c 0 3 < c 0 3 := Nat.mod_lt _ (by omega)
    have n1 : ∀ z : Nat, 1 ≤ z → z ≤ 8 → ¬ Int32.toInt64 (nI z) = (0 : Int64) := by
      intro z h1 h8
      rw [nI_l (by omega)]
      exact fun q => absurd ((pk_lEQ (a := z) (b := 0) (by omega) (by decide)).mp q) (by omega)
    have rm : ∀ z : Nat, 1 ≤ z → z ≤ 8 → Int64.toInt32 (lr_ (lN x) (Int32.toInt64 (nI z))) = nI (x % z) := by
      intro z h1 h8
      rw [nI_l (by omega), lr_n (by omega) (by omega) (by omega), lN_i]
    have e3 : lg_cmp (lr_ (lN x) (3 : Int64)) (0 : Int64) = (0 : Int32) ↔ x % 3 = 0 := by
      rw [show lr_ (lN x) (3 : Int64) = lN (x % 3) from lr_n (b := 3) (by omega) (by decide) (by decide), lc_0 (by omega)]
    have e4 : lg_cmp (lr_ (lN x) (4 : Int64)) (0 : Int64) = (0 : Int32) ↔ x % 4 = 0 := by
      rw [show lr_ (lN x) (4 : Int64) = lN (x % 4) from lr_n (b := 4) (by omega) (by decide) (by decide), lc_0 (by omega)]
    have wk := dw_ok w i7 (x := x)
    have e0 : dw_ x c 0 = c 0 := dw_r (by decide) (by decide)
    have hk := q_knows w hp
    have fk : (nI (c 4 (x % c 0 3)) &&& (((1 : Int32) <<< (nI (x % c 0 1) &&& 31)) ^^^ (-1 : Int32))) = nI (c 4 (x % c 0 3) &&& (63 ^^^ 2 ^ (x % c 0 1))) := by rw [f_shl _ (by omega), f_an _ hk _ (p2_lt (by omega))]
    have go : ∀ K, WZ M K → RC_ (mi_ K 237) (dw_ x c) → ∃ N, ((gR K 231 7 7).bind fun b76 => if isO K 231 7 = true then (m_X7_dayBy K 231 b76 (0 : Int32)).bind fun M79 => m_X7_drawn_L63 k0 231 (nI m) y n M79 (lN x) (nI (i + 1)) else none) = k0 N ∧ RC_ (mi_ N 237) (dz_ d x (dayS (dw_ x c))) ∧ WZ M N := by
      intro K WK RK
      obtain ⟨L, l1, l2, l3⟩ := wdayM WK.1 RK wk.1 wk.2 (by rw [e0]; omega)
      obtain ⟨N, n1, n2, n3⟩ := ih (i + 1) n L (dayS (dw_ x c)) x l3.1 l2 (wf_day wk.1 (by rw [e0]; omega)) (iv_day wk.1 wk.2) (by rw [dayS_4, e0]; omega) hx' (by omega) (by omega)
      refine ⟨N, ?_, n2, WZ_t WK (WZ_t l3 n3)⟩
      rw [R7t WK.1, Option.bind_some, if_pos (O7 WK.1), l1, Option.bind_some]
      exact n1
    rw [R7t G, Option.bind_some, l_J (A7t G) h, Option.bind_some, if_neg (n1 _ (by omega) (by omega)), rm _ (by omega) (by omega), nI_1]
    by_cases h3 : x % 3 = 0
    · have R1 : RC_ (mi_ (wI M 237 (11 + x % c 0 2) (nI (x % c 0 1))) 237) (up2 c 2 (x % c 0 2) (x % c 0 1)) := by rw [wI_a]; exact RC_2 (wf_b w) h (by omega)
      have G1 : GS (wI M 237 (11 + x % c 0 2) (nI (x % c 0 1))) := GS_w G
      have W1 : WZ M (wI M 237 (11 + x % c 0 2) (nI (x % c 0 1))) := WZ_w G (Or.inl rfl)
      have w1 : wf (up2 c 2 (x % c 0 2) (x % c 0 1)) := wf_2 w hs
      rw [if_pos (e3.mpr h3), Option.bind_some, Option.bind_some, l_D (A7t G) h, Option.bind_some, if_neg (n1 _ (by omega) (by omega)), rm _ (by omega) (by omega), show (11 : Int32) + nI (x % c 0 2) = nI (11 + x % c 0 2) from nI_add 11 _, st_ (A7t G).1 (A7t G).2 (by omega) (by decide), Option.bind_some]
      by_cases h4 : x % 4 = 0
      · have ed : dw_ x c = up2 (up2 c 2 (x % c 0 2) (x % c 0 1)) 4 (x % c 0 3) (c 4 (x % c 0 3) &&& (63 ^^^ 2 ^ (x % c 0 1))) := by
          unfold dw_
          simp only
          rw [if_pos h4, if_pos h3]
        have R2 : RC_ (mi_ (wI (wI M 237 (11 + x % c 0 2) (nI (x % c 0 1))) 237 (19 + 9 * (x % c 0 3) + 2) (nI (c 4 (x % c 0 3) &&& (63 ^^^ 2 ^ (x % c 0 1))))) 237) (dw_ x c) := by
          rw [ed, wI_a]
          exact RC_4 (wf_b w1) R1
        obtain ⟨N, q1, q2, q3⟩ := go _ (WZ_t W1 (WZ_w G1 (Or.inl rfl))) R2
        refine ⟨N, ?_, q2, q3⟩
        rw [if_pos (e4.mpr h4), R7t G1, Option.bind_some, show ldI (wI M 237 (11 + x % c 0 2) (nI (x % c 0 1))) 237 (0 : Int32) = some (nI (c 0 3)) from l_P (c := up2 c 2 (x % c 0 2) (x % c 0 1)) (A7t G1) R1, Option.bind_some, if_neg (n1 _ (by omega) (by omega)), Option.bind_some, Option.bind_some, rm _ (by omega) (by omega), show m_X7_of (wI M 237 (11 + x % c 0 2) (nI (x % c 0 1))) 237 (nI (x % c 0 3)) (2 : Int32) = some (nI (c 4 (x % c 0 3))) from o_2 (c := up2 c 2 (x % c 0 2) (x % c 0 1)) (A7t G1) w1 R1 hp, Option.bind_some, fk, show m_X7_be (wI M 237 (11 + x % c 0 2) (nI (x % c 0 1))) 237 (nI (x % c 0 3)) (2 : Int32) (nI (c 4 (x % c 0 3) &&& (63 ^^^ 2 ^ (x % c 0 1)))) = _ from m_be9 (A7t G1) (p := x % c 0 3) (q := 2) (by omega), Option.bind_some]
        exact q1
      · have ed : dw_ x c = up2 c 2 (x % c 0 2) (x % c 0 1) := by
          unfold dw_
          simp only
          rw [if_neg h4, if_pos h3]
        obtain ⟨N, q1, q2, q3⟩ := go _ W1 (by rw [ed]; exact R1)
        refine ⟨N, ?_, q2, q3⟩
        rw [if_neg (fun q => h4 (e4.mp q))]
        exact q1
    · rw [if_neg (fun q => h3 (e3.mp q))]
      by_cases h4 : x % 4 = 0
      · have ed : dw_ x c = up2 c 4 (x % c 0 3) (c 4 (x % c 0 3) &&& (63 ^^^ 2 ^ (x % c 0 1))) := by
          unfold dw_
          simp only
          rw [if_pos h4, if_neg h3]
        have R2 : RC_ (mi_ (wI M 237 (19 + 9 * (x % c 0 3) + 2) (nI (c 4 (x % c 0 3) &&& (63 ^^^ 2 ^ (x % c 0 1))))) 237) (dw_ x c) := by
          rw [ed, wI_a]
          exact RC_4 (wf_b w) h
        obtain ⟨N, q1, q2, q3⟩ := go _ (WZ_w G (Or.inl rfl)) R2
        refine ⟨N, ?_, q2, q3⟩
        rw [if_pos (e4.mpr h4), Option.bind_some, l_P (A7t G) h, Option.bind_some, if_neg (n1 _ (by omega) (by omega)), Option.bind_some, Option.bind_some, rm _ (by omega) (by omega), o_2 (A7t G) w h hp, Option.bind_some, fk, show m_X7_be M 237 (nI (x % c 0 3)) (2 : Int32) (nI (c 4 (x % c 0 3) &&& (63 ^^^ 2 ^ (x % c 0 1)))) = _ from m_be9 (A7t G) (p := x % c 0 3) (q := 2) (by omega), Option.bind_some]
        exact q1
      · have ed : dw_ x c = c := by
          unfold dw_
          simp only
          rw [if_neg h4, if_neg h3]
        obtain ⟨N, q1, q2, q3⟩ := go M (WZ_r G) (by rw [ed]; exact h)
        refine ⟨N, ?_, q2, q3⟩
        rw [if_neg (fun q => h4 (e4.mp q)), ← R7t G]
        exact q1
end DW
