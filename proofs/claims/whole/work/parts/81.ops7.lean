/-! ===== teach, forget, tell, image, restore ===== -/
theorem f_fg : ∀ n, n < 64 → ∀ s, s < 6 → n.testBit s = true → n &&& (63 ^^^ 2 ^ s) = n ^^^ 2 ^ s := by decide +kernel
theorem f_tl : ∀ n, n < 64 → ∀ s, s < 6 → n.testBit s = false → n ||| 2 ^ s = n ^^^ 2 ^ s := by decide +kernel
section OA
variable (A : aS)
theorem o_teach (x y : Int32) : both A (fun M => m_X6_teach M 0 x y) (fun M => m_X7_teach M 231 x y) := by
  intro M G h
  have hn := h.1
  cases hr : rg x 0 ((aN A 0 2 : Int) - 1) with
  | false =>
    refine ⟨A, -1000001, ?_, fun M' G' h' => ?_⟩
    · show opX (m_X6_teach M 0 x y) _ _ _
      rw [m_X6_teach, if_pos (O6 G), m_noD G hn, hr, Option.bind_some, if_neg (by decide)]
      exact px0 G h
    · show opM (m_X7_teach M' 231 x y) _ _ _
      rw [m_X7_teach]
      refine q2 G' h' (fun M1 G1 h1 => ?_)
      rw [if_pos (O7 G1), m_isD G1 h1.1, hr, Option.bind_some, if_pos (by decide)]
      exact pm0 G1 h1
  | true =>
  cases hy : rg y 0 ((aN A 0 1 : Int) - 1) with
  | false =>
    refine ⟨A, -1000001, ?_, fun M' G' h' => ?_⟩
    · show opX (m_X6_teach M 0 x y) _ _ _
      rw [m_X6_teach, if_pos (O6 G), m_noD G hn, hr, Option.bind_some, if_pos (by decide), if_pos (O6 G), m_noJ G hn, hy, Option.bind_some, if_neg (by decide)]
      exact px0 G h
    · show opM (m_X7_teach M' 231 x y) _ _ _
      rw [m_X7_teach]
      refine q2 G' h' (fun M1 G1 h1 => ?_)
      rw [if_pos (O7 G1), m_isD G1 h1.1, hr, Option.bind_some, if_neg (by decide), if_pos (O7 G1), m_isJ G1 h1.1, hy, Option.bind_some, if_pos (by decide)]
      exact pm0 G1 h1
  | true =>
  obtain ⟨l, hl, rfl⟩ := rg_s hr
  obtain ⟨s, hs, rfl⟩ := rg_s hy
  obtain ⟨w, i7, hd⟩ := vs_w hn.2 (j := 2) (by decide) (by omega)
  have hL := w.2.2.1.2
  have vc : vs (up2 (aN A) 2 l s) := Or.inr ⟨wf_2 w hs, i7, hd⟩
  refine ⟨sN (sK A (ka_ (aK A) (aN A))) (up2 (aN A) 2 l s), nI (aN A 2 l), ?_, fun M' G' h' => ?_⟩
  · show opX (m_X6_teach M 0 (nI l) (nI s)) _ _ _
    obtain ⟨K, k1, k2, k3, k4⟩ := keepX G h w i7 hd
    have SK' : SA K 2 (aN A) := k3.1.1
    rw [m_X6_teach, if_pos (O6 G), m_noD G hn, hr, Option.bind_some, if_pos (by decide), if_pos (O6 G), m_noJ G hn, hy, Option.bind_some, if_pos (by decide), R6a G, Option.bind_some, R6n G, Option.bind_some, if_pos (actO G), k1, Option.bind_some, R6n k2, Option.bind_some, r_2 (Sn k2), Option.bind_some, a_2 (Sn k2) w SK' hl, Option.bind_some, Option.bind_some, r_2 (Sn k2), Option.bind_some, s_2 (Sn k2) (by omega), Option.bind_some]
    exact px (GS_w k2) (CXn k3 (fun b _ hb => wI_o (by omega)) ⟨SA_w SK' (by decide) (by decide), vc⟩) (hi_t k4 (hi_w (by decide)))
  · show opM (m_X7_teach M' 231 (nI l) (nI s)) _ _ _
    rw [m_X7_teach]
    refine q2 G' h' (fun M1 G1 h1 => ?_)
    obtain ⟨K, k1, k2, k3, k4⟩ := keepM G1 h1 w i7 hd
    have RK : RC_ (mi_ K 235) (aN A) := k3.1.1
    rw [if_pos (O7 G1), m_isD G1 h1.1, hr, Option.bind_some, if_neg (by decide), if_pos (O7 G1), m_isJ G1 h1.1, hy, Option.bind_some, if_neg (by decide), if_pos (O7 G1), k1, Option.bind_some, R7s k2, Option.bind_some, l_pl (A7s k2) w RK hl, Option.bind_some, Option.bind_some, show (11 : Int32) + nI l = nI (11 + l) from nI_add 11 l, st_ (A7s k2).1 (A7s k2).2 (by omega) (by decide), Option.bind_some]
    exact pm (GS_w k2) (CMn k3 (fun b _ b1 b2 => wI_o b1) ⟨by rw [wI_a]; exact RC_2 (wf_b w) RK (by omega), vc⟩) (lo_t k4 (lo_w (by decide)))
theorem tn_M (x y : Int32) (b : Bool) {A' : aS} {r : Int32} {M' : mM} (G' : GS M') (h' : CM A M')
    (e : ∀ M1, GS M1 → CM A M1 → opM (m_X7_turned M1 231 x y (b2 b)) M1 A' r) : opM ((pI M' 231 7 0 (0 : Int32)).bind fun M1 => if isO M1 231 7 = true then bd2 (m_X7_turned M1 231 x y (b2 b)) (fun M4 v5 => some (M4, v5)) else none) M' A' r := by
  refine q2 G' h' (fun M1 G1 h1 => ?_)
  rw [if_pos (O7 G1)]
  obtain ⟨N, n1, n2, n3, n4⟩ := e M1 G1 h1
  exact ⟨N, by rw [n1, bd2_s], n2, n3, n4⟩
theorem o_turn (x y : Int32) (b : Bool) : both A (fun M => if b then m_X6_tell M 0 x y else m_X6_forget M 0 x y) (fun M => if b then m_X7_tell M 231 x y else m_X7_forget M 231 x y) := by
  intro M G h
  have hn := h.1
  have em : ∀ M', (if b then m_X7_tell M' 231 x y else m_X7_forget M' 231 x y) = ((pI M' 231 7 0 (0 : Int32)).bind fun M1 => if isO M1 231 7 = true then bd2 (m_X7_turned M1 231 x y (b2 b)) (fun M4 v5 => some (M4, v5)) else none) := by
    intro M'
    cases b <;> rfl
  cases hr : rg x 0 ((aN A 0 3 : Int) - 1) with
  | false =>
    refine ⟨A, -1000001, ?_, fun M' G' h' => ?_⟩
    · show opX (if b then m_X6_tell M 0 x y else m_X6_forget M 0 x y) _ _ _
      cases b with
      | true =>
        rw [if_pos rfl, m_X6_tell, if_pos (O6 G), m_noP G hn, hr, Option.bind_some, if_neg (show ¬ b2 (!false) = 0 by decide)]
        exact px0 G h
      | false =>
        rw [if_neg (by decide), m_X6_forget, if_pos (O6 G), m_noP G hn, hr, Option.bind_some, if_neg (show ¬ b2 (!false) = 0 by decide)]
        exact px0 G h
    · show opM (if b then m_X7_tell M' 231 x y else m_X7_forget M' 231 x y) _ _ _
      rw [em]
      refine tn_M A x y b G' h' (fun M1 G1 h1 => ?_)
      rw [m_X7_turned, if_pos (O7 G1), m_isP G1 h1.1, hr, Option.bind_some, if_pos (by decide)]
      exact pm0 G1 h1
  | true =>
  cases hy : rg y 0 ((aN A 0 1 : Int) - 1) with
  | false =>
    refine ⟨A, -1000001, ?_, fun M' G' h' => ?_⟩
    · show opX (if b then m_X6_tell M 0 x y else m_X6_forget M 0 x y) _ _ _
      cases b with
      | true =>
        rw [if_pos rfl, m_X6_tell, if_pos (O6 G), m_noP G hn, hr, Option.bind_some, if_pos (show b2 (!true) = 0 by decide), if_pos (O6 G), m_noJ G hn, hy, Option.bind_some, if_neg (show ¬ b2 (!false) = 0 by decide)]
        exact px0 G h
      | false =>
        rw [if_neg (by decide), m_X6_forget, if_pos (O6 G), m_noP G hn, hr, Option.bind_some, if_pos (show b2 (!true) = 0 by decide), if_pos (O6 G), m_noJ G hn, hy, Option.bind_some, if_neg (show ¬ b2 (!false) = 0 by decide)]
        exact px0 G h
    · show opM (if b then m_X7_tell M' 231 x y else m_X7_forget M' 231 x y) _ _ _
      rw [em]
      refine tn_M A x y b G' h' (fun M1 G1 h1 => ?_)
      rw [m_X7_turned, if_pos (O7 G1), m_isP G1 h1.1, hr, Option.bind_some, if_neg (by decide), if_pos (O7 G1), m_isJ G1 h1.1, hy, Option.bind_some, if_pos (by decide)]
      exact pm0 G1 h1
  | true =>
  obtain ⟨p, hp, rfl⟩ := rg_s hr
  obtain ⟨s, hs, rfl⟩ := rg_s hy
  obtain ⟨w, i7, hd⟩ := vs_w hn.2 (j := 3) (by decide) (by omega)
  have hP := w.2.2.2.1.2
  have hJ := w.2.1.2
  have hk := q_knows w hp
  by_cases ht : (aN A 4 p).testBit s = b
  · refine ⟨A, -1000002, ?_, fun M' G' h' => ?_⟩
    · show opX (if b then m_X6_tell M 0 (nI p) (nI s) else m_X6_forget M 0 (nI p) (nI s)) _ _ _
      cases b with
      | true =>
        rw [if_pos rfl, m_X6_tell, if_pos (O6 G), m_noP G hn, hr, Option.bind_some, if_pos (by decide), if_pos (O6 G), m_noJ G hn, hy, Option.bind_some, if_pos (by decide), R6n G, Option.bind_some, if_pos (Sn G).1, m_knows (Sn G) w hn.1 hp hs, Option.bind_some, ht, if_neg (by decide)]
        exact px0 G h
      | false =>
        rw [if_neg (by decide), m_X6_forget, if_pos (O6 G), m_noP G hn, hr, Option.bind_some, if_pos (by decide), if_pos (O6 G), m_noJ G hn, hy, Option.bind_some, if_pos (by decide), R6n G, Option.bind_some, if_pos (Sn G).1, m_knows (Sn G) w hn.1 hp hs, Option.bind_some, ht, if_pos (by decide)]
        exact px0 G h
    · show opM (if b then m_X7_tell M' 231 (nI p) (nI s) else m_X7_forget M' 231 (nI p) (nI s)) _ _ _
      rw [em]
      refine tn_M A (nI p) (nI s) b G' h' (fun M1 G1 h1 => ?_)
      rw [m_X7_turned, if_pos (O7 G1), m_isP G1 h1.1, hr, Option.bind_some, if_neg (by decide), if_pos (O7 G1), m_isJ G1 h1.1, hy, Option.bind_some, if_neg (by decide), R7s G1, Option.bind_some, o_2 (A7s G1) w h1.1.1 hp, Option.bind_some, m_has hk (by omega), Option.bind_some, ht, if_pos rfl]
      exact pm0 G1 h1
  · have hl : aN A 4 p ^^^ 2 ^ s < 2 ^ aN A 0 1 := Nat.xor_lt_two_pow (w.2.2.2.2.2.2.2.2.1 p hp) (Nat.pow_lt_pow_right (by decide) hs)
    have hs6 : s < 6 := by omega
    have hb2 : ∀ a c : Bool, ¬ a = c → ¬ b2 a = b2 c := by decide
    have vc : vs (up2 (aN A) 4 p (aN A 4 p ^^^ 2 ^ s)) := Or.inr ⟨wf_4 w hl, i7, hd⟩
    refine ⟨sN (sK A (ka_ (aK A) (aN A))) (up2 (aN A) 4 p (aN A 4 p ^^^ 2 ^ s)), nI (aN A 4 p ^^^ 2 ^ s), ?_, fun M' G' h' => ?_⟩
    · show opX (if b then m_X6_tell M 0 (nI p) (nI s) else m_X6_forget M 0 (nI p) (nI s)) _ _ _
      obtain ⟨K, k1, k2, k3, k4⟩ := keepX G h w i7 hd
      have SK' : SA K 2 (aN A) := k3.1.1
      have SN : SA (wI K (2 + 4) p (nI (aN A 4 p ^^^ 2 ^ s))) 2 (up2 (aN A) 4 p (aN A 4 p ^^^ 2 ^ s)) := SA_w SK' (by decide) (by decide)
      have fin : opX (some (wI K (2 + 4) p (nI (aN A 4 p ^^^ 2 ^ s)), nI (aN A 4 p ^^^ 2 ^ s))) M (sN (sK A (ka_ (aK A) (aN A))) (up2 (aN A) 4 p (aN A 4 p ^^^ 2 ^ s))) (nI (aN A 4 p ^^^ 2 ^ s)) := px (GS_w k2) (CXn k3 (fun b _ hb => wI_o (by omega)) ⟨SN, vc⟩) (hi_t k4 (hi_w (by decide)))
      have l4 := a_4 (Sn (GS_w k2)) (wf_4 w hl) SN (j := p) hp
      rw [up_s] at l4
      cases b with
      | true =>
        have ht' : (aN A 4 p).testBit s = false := by cases q : (aN A 4 p).testBit s; rfl; exact absurd q ht
        rw [if_pos rfl, m_X6_tell, if_pos (O6 G), m_noP G hn, hr, Option.bind_some, if_pos (by decide), if_pos (O6 G), m_noJ G hn, hy, Option.bind_some, if_pos (by decide), R6n G, Option.bind_some, if_pos (Sn G).1, m_knows (Sn G) w hn.1 hp hs, Option.bind_some, ht', if_pos (by decide), R6a G, Option.bind_some, Option.bind_some, if_pos (actO G), k1, Option.bind_some, R6n k2, Option.bind_some, r_4 (Sn k2), Option.bind_some, a_4 (Sn k2) w SK' hp, Option.bind_some, f_or _ hk s hs6, f_tl _ hk s hs6 ht', s_4 (Sn k2) (by omega), Option.bind_some, R6n (GS_w k2), Option.bind_some, r_4 (Sn (GS_w k2)), Option.bind_some, l4, Option.bind_some]
        exact fin
      | false =>
        have ht' : (aN A 4 p).testBit s = true := by cases q : (aN A 4 p).testBit s; exact absurd q ht; rfl
        rw [if_neg (by decide), m_X6_forget, if_pos (O6 G), m_noP G hn, hr, Option.bind_some, if_pos (by decide), if_pos (O6 G), m_noJ G hn, hy, Option.bind_some, if_pos (by decide), R6n G, Option.bind_some, if_pos (Sn G).1, m_knows (Sn G) w hn.1 hp hs, Option.bind_some, ht', if_neg (by decide), R6a G, Option.bind_some, Option.bind_some, if_pos (actO G), k1, Option.bind_some, R6n k2, Option.bind_some, r_4 (Sn k2), Option.bind_some, a_4 (Sn k2) w SK' hp, Option.bind_some, f_shl s (by omega), f_an _ hk _ (p2_lt hs6), f_fg _ hk s hs6 ht', s_4 (Sn k2) (by omega), Option.bind_some, R6n (GS_w k2), Option.bind_some, r_4 (Sn (GS_w k2)), Option.bind_some, l4, Option.bind_some]
        exact fin
    · show opM (if b then m_X7_tell M' 231 (nI p) (nI s) else m_X7_forget M' 231 (nI p) (nI s)) _ _ _
      rw [em]
      refine tn_M A (nI p) (nI s) b G' h' (fun M1 G1 h1 => ?_)
      obtain ⟨K, k1, k2, k3, k4⟩ := keepM G1 h1 w i7 hd
      have RK : RC_ (mi_ K 235) (aN A) := k3.1.1
      have RN : RC_ (mi_ (wI K 235 (19 + 9 * p + 2) (nI (aN A 4 p ^^^ 2 ^ s))) 235) (up2 (aN A) 4 p (aN A 4 p ^^^ 2 ^ s)) := by rw [wI_a]; exact RC_4 (wf_b w) RK
      have l2 := o_2 (A7s (GS_w k2)) (wf_4 w hl) RN (p := p) hp
      rw [up_s] at l2
      rw [m_X7_turned, if_pos (O7 G1), m_isP G1 h1.1, hr, Option.bind_some, if_neg (by decide), if_pos (O7 G1), m_isJ G1 h1.1, hy, Option.bind_some, if_neg (by decide), R7s G1, Option.bind_some, o_2 (A7s G1) w h1.1.1 hp, Option.bind_some, m_has hk (by omega), Option.bind_some, if_neg (hb2 _ _ ht), if_pos (O7 G1), k1, Option.bind_some, R7s k2, Option.bind_some, Option.bind_some, o_2 (A7s k2) w RK hp, Option.bind_some, f_shl s (by omega), f_xors _ hk _ (p2_lt hs6), show m_X7_be K 235 (nI p) (2 : Int32) (nI (aN A 4 p ^^^ 2 ^ s)) = _ from m_be9 (A7s k2) (p := p) (q := 2) (by omega), Option.bind_some, R7s (GS_w k2), Option.bind_some, l2, Option.bind_some]
      exact pm (GS_w k2) (CMn k3 (fun b _ b1 b2 => wI_o b1) ⟨RN, vc⟩) (lo_t k4 (lo_w (by decide)))
theorem o_forget (x y : Int32) : both A (fun M => m_X6_forget M 0 x y) (fun M => m_X7_forget M 231 x y) := o_turn A x y false
theorem o_tell (x y : Int32) : both A (fun M => m_X6_tell M 0 x y) (fun M => m_X7_tell M 231 x y) := o_turn A x y true
theorem imgR {M : mM} (G : GS M) {i : Nat} (hi : i < 2) : ldR M 9 4 (nI i) = some (217 + 7 * i) := ldR_ (by rw [G.1]; decide) (G.k (by decide) (by decide +kernel) : mk_ M 9 = (4, 2)) hi (by decide) (G.r (sk_img i hi).2)
theorem imgS {M : mM} (G : GS M) {i : Nat} (hi : i < 2) : SK M (217 + 7 * i) := G.s (sk_img i hi).1
theorem m_imL {a : Nat} {g f0 : Nat → Int32} (ha : a < 2) {ρ : Type} (k0 : mM → Option ρ) : ∀ (d k n : Nat) (M : mM), GS M → mi_ M 235 = g → mi_ M 244 = va_cpy g f0 0 (73 * a) k → k + d = 73 → d < n → ∃ N, m_X7_image_L30 k0 231 (nI a) n M (nI k) = k0 N ∧ f1_ 244 M N ∧ mi_ N 244 = va_cpy g f0 0 (73 * a) 73 := by
  intro d
  induction d with
  | zero =>
    intro k n M G e2 e3 hk hn
    obtain ⟨n, rfl⟩ : ∃ z, n = z + 1 := ⟨n - 1, by omega⟩
    have : k = 73 := by omega
    subst this
    exact ⟨M, by rw [m_X7_image_L30, if_pos (by decide)], f1_r _ _, e3⟩
  | succ d ih =>
    intro k n M G e2 e3 hk hn
    obtain ⟨n, rfl⟩ : ∃ z, n = z + 1 := ⟨n - 1, by omega⟩
    obtain ⟨N, r1, r2, r3⟩ := ih (k + 1) n (wI M 244 (73 * a + k) (g k)) (GS_w G) (by rw [wI_o (by decide)]; exact e2) (by rw [wI_a, e3, cpy_s, Nat.zero_add]) (by omega) (by omega)
    refine ⟨N, ?_, f1_t f1_w r2, r3⟩
    rw [m_X7_image_L30, if_neg (show ¬ (73 : Int32) ≤ nI k from (nI_ge (by omega) (by decide) : ¬ nI 73 ≤ nI k)), R7k G, Option.bind_some, R7s G, Option.bind_some, ld_ (A7s G).1 (A7s G).2 (by omega) (by decide), Option.bind_some, c73, st_ (A7k G).1 (A7k G).2 (by omega) (by decide), Option.bind_some, e2, nI_1]
    exact r1
theorem m_reL {a : Nat} {g f0 : Nat → Int32} (ha : a < 2) {ρ : Type} (k0 : mM → Option ρ) : ∀ (d k n : Nat) (M : mM), GS M → mi_ M 244 = g → mi_ M 235 = va_cpy g f0 (73 * a) 0 k → k + d = 73 → d < n → ∃ N, m_X7_restore_L32 k0 231 (nI a) n M (nI k) = k0 N ∧ f1_ 235 M N ∧ mi_ N 235 = va_cpy g f0 (73 * a) 0 73 := by
  intro d
  induction d with
  | zero =>
    intro k n M G e2 e3 hk hn
    obtain ⟨n, rfl⟩ : ∃ z, n = z + 1 := ⟨n - 1, by omega⟩
    have : k = 73 := by omega
    subst this
    exact ⟨M, by rw [m_X7_restore_L32, if_pos (by decide)], f1_r _ _, e3⟩
  | succ d ih =>
    intro k n M G e2 e3 hk hn
    obtain ⟨n, rfl⟩ : ∃ z, n = z + 1 := ⟨n - 1, by omega⟩
    obtain ⟨N, r1, r2, r3⟩ := ih (k + 1) n (wI M 235 k (g (73 * a + k))) (GS_w G) (by rw [wI_o (by decide)]; exact e2) (by rw [wI_a, e3, cpy_s, Nat.zero_add]) (by omega) (by omega)
    refine ⟨N, ?_, f1_t f1_w r2, r3⟩
    rw [m_X7_restore_L32, if_neg (show ¬ (73 : Int32) ≤ nI k from (nI_ge (by omega) (by decide) : ¬ nI 73 ≤ nI k)), R7s G, Option.bind_some, R7k G, Option.bind_some, c73, ld_ (A7k G).1 (A7k G).2 (by omega) (by decide), Option.bind_some, e2, st_ (A7s G).1 (A7s G).2 (by omega) (by decide), Option.bind_some, nI_1]
    exact r1
theorem o_image (x : Int32) : both A (fun M => m_X6_image M 0 x) (fun M => m_X7_image M 231 x) := by
  intro M G h
  have hn := h.1
  cases hr : rg x 0 1 with
  | false =>
    refine ⟨A, -1000001, ?_, fun M' G' h' => ?_⟩
    · show opX (m_X6_image M 0 x) _ _ _
      rw [m_X6_image, n_out (b := false) hr, Option.bind_some, if_neg (by decide)]
      exact px0 G h
    · show opM (m_X7_image M' 231 x) _ _ _
      rw [m_X7_image]
      refine q2 G' h' (fun M1 G1 h1 => ?_)
      rw [n_in (b := false) hr, Option.bind_some, if_pos (by decide)]
      exact pm0 G1 h1
  | true =>
  obtain ⟨a, ha1, rfl⟩ := rg_n (n := 1) hr
  have ha : a < 2 := by omega
  by_cases h0 : aN A 0 3 = 0
  · refine ⟨A, -1000002, ?_, fun M' G' h' => ?_⟩
    · show opX (m_X6_image M 0 (nI a)) _ _ _
      rw [m_X6_image, n_out (b := true) hr, Option.bind_some, if_pos (by decide), if_pos (O6 G), m_noS G hn, Option.bind_some, if_neg (by simp [h0, b2])]
      exact px0 G h
    · show opM (m_X7_image M' 231 (nI a)) _ _ _
      rw [m_X7_image]
      refine q2 G' h' (fun M1 G1 h1 => ?_)
      rw [n_in (b := true) hr, Option.bind_some, if_neg (by decide), if_pos (O7 G1), m_isT G1 h1.1, Option.bind_some, if_pos (by simp [h0, b2])]
      exact pm0 G1 h1
  · obtain ⟨w, i7, hd⟩ := vs_w hn.2 (j := 3) (by decide) h0
    have eu : ∀ k, k ≠ a → up1 (aI A) a (aN A) k = aI A k := fun k hk => up1_o hk
    refine ⟨sI A (up1 (aI A) a (aN A)), 1, ?_, fun M' G' h' => ?_⟩
    · show opX (m_X6_image M 0 (nI a)) _ _ _
      obtain ⟨N, n1, n2, n3⟩ := m_be (c := aN A) (imgS G ha) (Sn G) (Or.inr (by omega)) (wf_b w) hn.1
      rw [m_X6_image, n_out (b := true) hr, Option.bind_some, if_pos (by decide), if_pos (O6 G), m_noS G hn, Option.bind_some, if_pos (by simp [h0, b2]), R6i G, Option.bind_some, imgR G ha, Option.bind_some, R6n G, Option.bind_some, if_pos (imgS G ha).1, n1, Option.bind_some]
      refine px (G.sh n3.1) (CXi h (fun b hb => n3.2 b (by omega)) (fun k hk => ?_)) (fun b hb => n3.2 b (by omega))
      by_cases hka : k = a
      · subst hka
        rw [up1_s]
        exact ⟨n2, hn.2⟩
      · rw [eu k hka]
        exact ⟨(h.2.1 k hk).1.o (fun z hz => n3.2 _ (by omega)), (h.2.1 k hk).2⟩
    · show opM (m_X7_image M' 231 (nI a)) _ _ _
      rw [m_X7_image]
      refine q2 G' h' (fun M1 G1 h1 => ?_)
      obtain ⟨N, n1, n2, n3⟩ := m_imL (a := a) (g := mi_ M1 235) (f0 := mi_ M1 244) ha (fun M18 => (gR M18 231 7 22).bind fun b19 => (stZ M18 b19 (nI a) (1 : Int32)).bind fun M21 => some (M21, (1 : Int32))) 73 0 FU M1 G1 rfl cpy_0.symm (by decide) (by decide)
      have GN : GS N := G1.sh n2.1
      rw [n_in (b := true) hr, Option.bind_some, if_neg (by decide), if_pos (O7 G1), m_isT G1 h1.1, Option.bind_some, if_neg (by simp [h0, b2]), show m_X7_image_L30 _ 231 (nI a) FU M1 (0 : Int32) = _ from n1, R7i GN, Option.bind_some, stz_ (Z7i GN).1 (Z7i GN).2 ha (by decide) (Or.inr rfl), Option.bind_some]
      refine pm (GS_w GN) (CMi h1 (fun b _ b1 b2 => by rw [wI_o b1, n2.2 b b2]) (fun k hk => ?_)) (fun b hb => by rw [wI_o (by omega), n2.2 b (by omega)])
      have hdk := h1.2.1 k hk
      rw [wI_s, wI_o (show 244 ≠ 243 by decide), n3, n2.2 243 (by decide)]
      by_cases hka : k = a
      · subst hka
        rw [up1_s, if_pos rfl]
        refine ⟨by simp [h0, b2], hn.2, fun _ => RC_cg (wf_b w) (fun q hq => ?_) h1.1.1⟩
        unfold va_cpy
        rw [if_pos (by omega)]
        exact congrArg _ (by omega)
      · rw [eu k hka, if_neg hka]
        refine ⟨hdk.1, hdk.2.1, fun hz => RC_cg (vs_b hdk.2.1) (fun q hq => ?_) (hdk.2.2 hz)⟩
        unfold va_cpy
        rw [if_neg (by omega)]
theorem o_restore (x : Int32) : both A (fun M => m_X6_restore M 0 x) (fun M => m_X7_restore M 231 x) := by
  intro M G h
  have hn := h.1
  cases hr : rg x 0 1 with
  | false =>
    refine ⟨A, -1000001, ?_, fun M' G' h' => ?_⟩
    · show opX (m_X6_restore M 0 x) _ _ _
      rw [m_X6_restore, n_out (b := false) hr, Option.bind_some, if_neg (by decide)]
      exact px0 G h
    · show opM (m_X7_restore M' 231 x) _ _ _
      rw [m_X7_restore]
      refine q2 G' h' (fun M1 G1 h1 => ?_)
      rw [n_in (b := false) hr, Option.bind_some, if_pos (by decide)]
      exact pm0 G1 h1
  | true =>
  obtain ⟨a, ha1, rfl⟩ := rg_n (n := 1) hr
  have ha : a < 2 := by omega
  have hi := h.2.1 a ha
  have hb := vs_b hi.2
  obtain ⟨a1, lt, l1, l2, l3, l4⟩ := h.2.2.1
  by_cases h0 : aI A a 0 3 = 0
  · refine ⟨A, -1000002, ?_, fun M' G' h' => ?_⟩
    · show opX (m_X6_restore M 0 (nI a)) _ _ _
      rw [m_X6_restore, n_out (b := true) hr, Option.bind_some, if_pos (by decide), R6i G, Option.bind_some, imgR G ha, Option.bind_some, g_s (imgS G ha) hi.1 (j := 3) (by decide), Option.bind_some, h0, if_pos (by decide)]
      exact px0 G h
    · show opM (m_X7_restore M' 231 (nI a)) _ _ _
      rw [m_X7_restore]
      refine q2 G' h' (fun M1 G1 h1 => ?_)
      rw [n_in (b := true) hr, Option.bind_some, if_neg (by decide), R7i G1, Option.bind_some, ldz_ (Z7i G1).1 (Z7i G1).2 ha (by decide), Option.bind_some, (h1.2.1 a ha).1, if_pos (by simp [h0, b2])]
      exact pm0 G1 h1
  · refine ⟨sN (sK A (0, (aK A).2)) (aI A a), 1, ?_, fun M' G' h' => ?_⟩
    · show opX (m_X6_restore M 0 (nI a)) _ _ _
      obtain ⟨N, n1, n2, n3⟩ := m_be (c := aI A a) (Sn G) (imgS G ha) (Or.inl (by omega)) hb hi.1
      have GN : GS N := G.sh n3.1
      rw [m_X6_restore, n_out (b := true) hr, Option.bind_some, if_pos (by decide), R6i G, Option.bind_some, imgR G ha, Option.bind_some, g_s (imgS G ha) hi.1 (j := 3) (by decide), Option.bind_some, if_neg (nI_ne0 (by omega) (by omega)), R6n G, Option.bind_some, Option.bind_some, imgR G ha, Option.bind_some, if_pos (Sn G).1, n1, Option.bind_some, R6a GN, Option.bind_some, pI_ (actO GN), Option.bind_some]
      have CK : CX (sN A (aI A a)) N := CXn h (fun b _ hb => n3.2 b (by omega)) ⟨n2, hi.2⟩
      refine px (GS_w GN) (CXa (A := sN A (aI A a)) CK (fun q _ hq => wI_o (by omega)) ⟨Nat.zero_le _, lt, l1, by rw [wI_s, if_neg (by decide), n3.2 10 (by decide)]; exact l2, by rw [wI_s, if_pos rfl]; rfl, fun j hj => absurd hj (Nat.not_lt_zero _)⟩) (fun b hb => by rw [wI_o (by omega), n3.2 b (by omega)])
    · show opM (m_X7_restore M' 231 (nI a)) _ _ _
      rw [m_X7_restore]
      refine q2 G' h' (fun M1 G1 h1 => ?_)
      have hd1 := h1.2.1 a ha
      obtain ⟨N, n1, n2, n3⟩ := m_reL (a := a) (g := mi_ M1 244) (f0 := mi_ M1 235) ha (fun M20 => (pI M20 231 7 9 (0 : Int32)).bind fun M21 => some (M21, (1 : Int32))) 73 0 FU M1 G1 rfl cpy_0.symm (by decide) (by decide)
      have GN : GS N := G1.sh n2.1
      rw [n_in (b := true) hr, Option.bind_some, if_neg (by decide), R7i G1, Option.bind_some, ldz_ (Z7i G1).1 (Z7i G1).2 ha (by decide), Option.bind_some, hd1.1, if_neg (by simp [h0, b2]), show m_X7_restore_L32 _ 231 (nI a) FU M1 (0 : Int32) = _ from n1, pI_ (O7 GN), Option.bind_some]
      have CK : CM (sN A (aI A a)) N := CMn h1 (fun q _ q1 q2 => n2.2 q q1) ⟨RC_cg hb (fun q hq => by
        rw [n3]
        unfold va_cpy
        rw [if_pos (by omega)]
        exact congrArg _ (by omega)) (hd1.2.2 h0), hi.2⟩
      exact pm (GS_w GN) (CMa (A := sN A (aI A a)) CK (fun q _ q1 q2 => wI_o q1) (fun q hq => by rw [wI_s, if_neg hq]) ⟨Nat.zero_le _, by rw [wI_s, if_pos rfl]; rfl, fun j hj => absurd hj (Nat.not_lt_zero _)⟩) (fun b hb => by rw [wI_o (by omega), n2.2 b (by omega)])
end OA
