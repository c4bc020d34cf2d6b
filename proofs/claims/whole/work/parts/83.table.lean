/-! ===== table ===== -/
theorem known_le {c : sT} (w : wf c) : known c ≤ 36 := by
  have : ∀ (d i x : Nat), i + d ≤ c 0 3 → fo (fun p s => s + bc (c 4 p)) i d x ≤ x + 6 * d := by
    intro d
    induction d with
    | zero => intro i x _; exact Nat.le_refl _
    | succ d ih =>
      intro i x h
      have := ih (i + 1) (x + bc (c 4 i)) (by omega)
      have h2 := f_bcl _ (q_knows w (show i < c 0 3 by omega))
      show fo _ (i + 1) d (x + bc (c 4 i)) ≤ _
      omega
  have h := this (c 0 3) 0 0 (by omega)
  have hP := w.2.2.2.1.2
  unfold known
  omega
def tI_ (c : sT) (n a b : Nat) (st : Nat × Option Nat) : Nat × Option Nat := if known (dN n (sw c 2 a b)) ≤ st.1 then st else (known (dN n (sw c 2 a b)), some (10 * a + b))
def tO_ (c : sT) (n a : Nat) (st : Nat × Option Nat) : Nat × Option Nat := fo (tI_ c n a) (a + 1) (c 0 2 - (a + 1)) st
def tb_ (c : sT) (n : Nat) : Nat × Option Nat := fo (tO_ c n) 0 (c 0 2) (known (dN n c), none)
section TB
variable {M N : mM} {c : sT}
theorem sw2_ok (w : wf c) {a b : Nat} (ha : a < c 0 2) (hb : b < c 0 2) : wf (sw c 2 a b) := wf_2 (wf_2 w (w.2.2.2.2.2.2.1 b hb)) (w.2.2.2.2.2.2.1 a ha)
theorem FW' (G : GS M) (f : fr 190 M N) : GS N := G.sh f.1
theorem m_kxL {m : Nat} (hm : m ≤ 60) {ρ : Type} (k0 : mM → Option ρ) : ∀ (d i n : Nat) (M : mM) (c : sT), GS M → SA M 190 c → wf c → c 0 4 + d ≤ 2000 → i + d = m → d < n → ∃ N, m_X2_knownExchanged_L21 k0 189 (nI m) n M (nI i) = k0 N ∧ SA N 190 (dN d c) ∧ fr 190 M N := by
  intro d
  induction d with
  | zero =>
    intro i n M c G h w hd hi hn
    obtain ⟨n, rfl⟩ : ∃ z, n = z + 1 := ⟨n - 1, by omega⟩
    exact ⟨M, by rw [m_X2_knownExchanged_L21, if_pos (nI_le (by omega) (by omega))], h, fr_r _ _⟩
  | succ d ih =>
    intro i n M c G h w hd hi hn
    obtain ⟨n, rfl⟩ : ∃ z, n = z + 1 := ⟨n - 1, by omega⟩
    obtain ⟨K, k1, k2, k3, k4⟩ := m_day (Sw G) w h (by omega)
    obtain ⟨N, n1, n2, n3⟩ := ih (i + 1) n K (dayS c) (G.sh k3.1) k2 k4 (by rw [dayS_4]; omega) (by omega) (by omega)
    refine ⟨N, ?_, n2, fr_t k3 n3⟩
    rw [m_X2_knownExchanged_L21, if_neg (nI_ge (by omega) (by omega)), FW G, Option.bind_some, if_pos (Sw G).1, k1, Option.bind_some, nI_1]
    exact n1
theorem m_kx (G : GS M) (h : SA M 2 c) (w : wf c) (i7 : iv c) {m a b : Nat} (hm : m ≤ 60) (hd : c 0 4 + m ≤ 2000) (ha : a < c 0 2) (hb : b < c 0 2) : ∃ N, m_X2_knownExchanged M 189 2 (nI m) (nI a) (nI b) = some (N, nI (known (dN m (sw c 2 a b)))) ∧ fr 190 M N := by
  obtain ⟨K, k1, k2, k3⟩ := m_be (Sw G) (Sn G) (Or.inr (by decide)) (wf_b w) h
  have GK := FW' G k3
  obtain ⟨L, l1, l2, l3⟩ := m_swL (Sw GK) w k2 ha hb
  have GL := FW' GK l3
  have ws := sw2_ok w ha hb
  obtain ⟨N, n1, n2, n3⟩ := m_kxL hm (fun M15 => (gR M15 189 2 0).bind fun b16 => if isO M15 b16 5 = true then (m_X5_known M15 b16).bind fun v19 => some (M15, v19) else none) m 0 FU L (sw c 2 a b) GL l2 ws hd (by omega) (by unfold FU; omega)
  have GN := FW' GL n3
  refine ⟨N, ?_, fr_t k3 (fr_t l3 n3)⟩
  rw [m_X2_knownExchanged, FW G, Option.bind_some, if_pos (Sw G).1, k1, Option.bind_some, FW GK, Option.bind_some, if_pos (Sw GK).1, l1, Option.bind_some, show m_X2_knownExchanged_L21 _ 189 (nI m) FU L (0 : Int32) = _ from n1, FW GN, Option.bind_some, if_pos (Sw GN).1, m_known (Sw GN) (dN_ok m _ ws i7 hd).1 n2, Option.bind_some]
theorem tI_le (w : wf c) (i7 : iv c) {n a b : Nat} (hd : c 0 4 + n ≤ 2000) (ha : a < c 0 2) (hb : b < c 0 2) {st : Nat × Option Nat} (h : st.1 ≤ 36) : (tI_ c n a b st).1 ≤ 36 := by
  unfold tI_
  split
  · exact h
  · exact known_le (dN_ok n _ (sw2_ok w ha hb) i7 hd).1
theorem m_teX (w : wf c) (i7 : iv c) {m a : Nat} (hm : m ≤ 60) (hd : c 0 4 + m ≤ 2000) (ha : a < c 0 2) {ρ : Type} (k0 : mM → Int32 → Option ρ) : ∀ (d i n : Nat) (M : mM) (st : Nat × Option Nat), GS M → SA M 2 c → mi_ M 189 3 = nI st.1 → st.1 ≤ 36 → i + d = c 0 2 → d < n → ∃ N, m_X2_bestExchange_L34 k0 189 2 (nI m) (nI a) n M (oI st.2) (nI i) = k0 N (oI (fo (tI_ c m a) i d st).2) ∧ mi_ N 189 3 = nI (fo (tI_ c m a) i d st).1 ∧ (fo (tI_ c m a) i d st).1 ≤ 36 ∧ WY M N := by
  have hL := w.2.2.1.2
  intro d
  induction d with
  | zero =>
    intro i n M st G h hs hl hi hn
    obtain ⟨n, rfl⟩ : ∃ z, n = z + 1 := ⟨n - 1, by omega⟩
    exact ⟨M, by rw [m_X2_bestExchange_L34, g_s (Sn G) h (j := 2) (by decide), Option.bind_some, if_pos (nI_le (by omega) (by omega))]; rfl, hs, hl, WY_r G⟩
  | succ d ih =>
    intro i n M st G h hs hl hi hn
    obtain ⟨n, rfl⟩ : ∃ z, n = z + 1 := ⟨n - 1, by omega⟩
    have hi' : i < c 0 2 := by omega
    obtain ⟨K, k1, k2⟩ := m_kx G h w i7 hm hd ha hi'
    have GK := FW' G k2
    have kl := known_le (dN_ok m _ (sw2_ok w ha hi') i7 hd).1
    have e3 : mi_ K 189 3 = nI st.1 := by rw [k2.2 189 (by decide)]; exact hs
    rw [m_X2_bestExchange_L34, g_s (Sn G) h (j := 2) (by decide), Option.bind_some, if_neg (nI_ge hi' (by omega)), if_pos (FO G), k1, bd2_s, gI_ (FO GK), Option.bind_some, e3, pI_ (FO GK), Option.bind_some, nI_1]
    rw [show fo (tI_ c m a) i (d + 1) st = fo (tI_ c m a) (i + 1) d (tI_ c m a i st) from rfl]
    by_cases hk : known (dN m (sw c 2 a i)) ≤ st.1
    · have e : tI_ c m a i st = st := if_pos hk
      rw [e, if_pos (nI_le hk (by omega))]
      obtain ⟨N, n1, n2, n3, n4⟩ := ih (i + 1) n K st GK (h.o (fun z hz => k2.2 _ (by omega))) e3 hl (by omega) (by omega)
      exact ⟨N, n1, n2, n3, WY_t (WY_f G k2) n4⟩
    · have e : tI_ c m a i st = (known (dN m (sw c 2 a i)), some (10 * a + i)) := if_neg hk
      rw [e, if_neg (nI_ge (by omega) (by omega))]
      obtain ⟨N, n1, n2, n3, n4⟩ := ih (i + 1) n (wI K 189 3 (nI (known (dN m (sw c 2 a i))))) (known (dN m (sw c 2 a i)), some (10 * a + i)) (GS_w GK) (h.o (fun z hz => by rw [wI_o (by omega), k2.2 _ (by omega)])) (by rw [wI_s, if_pos rfl]) kl (by omega) (by omega)
      refine ⟨N, ?_, n2, n3, WY_t (WY_f G k2) (WY_t (WY_w GK (by decide) (by decide)) n4)⟩
      rw [show ((10 : Int32) * nI a) + nI i = nI (10 * a + i) by rw [show (10 : Int32) = nI 10 from rfl, pk_mul, nI_add]]
      exact n1
theorem m_toX (w : wf c) (i7 : iv c) {m : Nat} (hm : m ≤ 60) (hd : c 0 4 + m ≤ 2000) {ρ : Type} (k0 : mM → Int32 → Option ρ) : ∀ (d i n : Nat) (M : mM) (st : Nat × Option Nat), GS M → SA M 2 c → mi_ M 189 3 = nI st.1 → st.1 ≤ 36 → i + d = c 0 2 → d < n → ∃ N, m_X2_bestExchange_L19 k0 189 2 (nI m) n M (oI st.2) (nI i) = k0 N (oI (fo (tO_ c m) i d st).2) ∧ mi_ N 189 3 = nI (fo (tO_ c m) i d st).1 ∧ (fo (tO_ c m) i d st).1 ≤ 36 ∧ WY M N := by
  have hL := w.2.2.1.2
  intro d
  induction d with
  | zero =>
    intro i n M st G h hs hl hi hn
    obtain ⟨n, rfl⟩ : ∃ z, n = z + 1 := ⟨n - 1, by omega⟩
    exact ⟨M, by rw [m_X2_bestExchange_L19, g_s (Sn G) h (j := 2) (by decide), Option.bind_some, if_pos (nI_le (by omega) (by omega))]; rfl, hs, hl, WY_r G⟩
  | succ d ih =>
    intro i n M st G h hs hl hi hn
    obtain ⟨n, rfl⟩ : ∃ z, n = z + 1 := ⟨n - 1, by omega⟩
    have hi' : i < c 0 2 := by omega
    obtain ⟨K, k1, k2, k3, k4⟩ := m_teX w i7 hm hd hi' (fun M11 v12 => m_X2_bestExchange_L19 k0 189 2 (nI m) n M11 v12 (nI (i + 1))) (c 0 2 - (i + 1)) (i + 1) FU M st G h hs hl (by omega) (by unfold FU; omega)
    obtain ⟨N, n1, n2, n3, n4⟩ := ih (i + 1) n K (tO_ c m i st) k4.1 (k4.s h) k2 k3 (by omega) (by omega)
    refine ⟨N, ?_, n2, n3, WY_t k4 n4⟩
    rw [m_X2_bestExchange_L19, g_s (Sn G) h (j := 2) (by decide), Option.bind_some, if_neg (nI_ge hi' (by omega)), nI_1]
    exact k1.trans n1
theorem m_bx (G : GS M) (h : SA M 2 c) (w : wf c) (i7 : iv c) {m : Nat} (hm : m ≤ 60) (hd : c 0 4 + m ≤ 2000) : ∃ N, m_X2_bestExchange M 189 2 (nI m) = some (N, oI (tb_ c m).2) ∧ mi_ N 189 3 = nI (tb_ c m).1 ∧ WY M N := by
  obtain ⟨K, k1, k2, k3⟩ := m_after G h w hm hd
  have kw := (dN_ok m c w i7 hd).1
  obtain ⟨N, n1, n2, n3, n4⟩ := m_toX w i7 hm hd (fun M13 v14 => some (M13, v14)) (c 0 2) 0 FU (wI K 189 3 (nI (known (dN m c)))) (known (dN m c), none) (GS_w k3.1) ((k3.s h).o (fun z hz => wI_o (by omega))) (by rw [wI_s, if_pos rfl]) (known_le kw) (by omega) (by have := w.2.2.1.2; unfold FU; omega)
  refine ⟨N, ?_, n2, WY_t k3 (WY_t (WY_w k3.1 (by decide) (by decide)) n4)⟩
  rw [m_X2_bestExchange, if_pos (FO G), k1, bd2_s, if_pos (Sw k3.1).1, m_known (Sw k3.1) kw k2, Option.bind_some, pI_ (FO k3.1), Option.bind_some]
  exact n1
theorem m_teM (w : wf c) (i7 : iv c) (y : Int32) {m a : Nat} (hm : m ≤ 60) (hd : c 0 4 + m ≤ 2000) (ha : a < c 0 2) {ρ : Type} (k0 : mM → Int32 → Int32 → Option ρ) : ∀ (d i n : Nat) (M : mM) (st : Nat × Option Nat), GS M → RC_ (mi_ M 235) c → st.1 ≤ 36 → i + d = c 0 2 → d < n → ∃ N, m_X7_table_L85 k0 231 (nI m) y (nI a) n M (nI st.1) (oI st.2) (nI i) = k0 N (nI (fo (tI_ c m a) i d st).1) (oI (fo (tI_ c m a) i d st).2) ∧ (fo (tI_ c m a) i d st).1 ≤ 36 ∧ WZ M N := by
  have hL := w.2.2.1.2
  intro d
  induction d with
  | zero =>
    intro i n M st G h hl hi hn
    obtain ⟨n, rfl⟩ : ∃ z, n = z + 1 := ⟨n - 1, by omega⟩
    exact ⟨M, by rw [m_X7_table_L85, R7s G, Option.bind_some, l_D (A7s G) h, Option.bind_some, if_pos (nI_le (by omega) (by omega))]; rfl, hl, WZ_r G⟩
  | succ d ih =>
    intro i n M st G h hl hi hn
    obtain ⟨n, rfl⟩ : ∃ z, n = z + 1 := ⟨n - 1, by omega⟩
    have hi' : i < c 0 2 := by omega
    obtain ⟨K, k1, k2, k3⟩ := wlay G h (wf_b w)
    have RK := k3.s h
    have G1 : GS (wI K 237 (11 + a) (nI (c 2 i))) := GS_w k3.1
    have R1 : RC_ (mi_ (wI K 237 (11 + a) (nI (c 2 i))) 237) (up2 c 2 a (c 2 i)) := by rw [wI_a]; exact RC_2 (wf_b w) k2 (by omega)
    have W1 : WZ K (wI K 237 (11 + a) (nI (c 2 i))) := WZ_w k3.1 (Or.inl rfl)
    have G2 : GS (wI (wI K 237 (11 + a) (nI (c 2 i))) 237 (11 + i) (nI (c 2 a))) := GS_w G1
    have bb := wf_b w
    have b2' : up2 c 2 a (c 2 i) 0 1 ≤ 6 ∧ up2 c 2 a (c 2 i) 0 2 ≤ 8 ∧ up2 c 2 a (c 2 i) 0 3 ≤ 6 := bb
    have lp := l_pl (A7s G1) w (W1.s RK) ha
    rw [show (11 : Int32) + nI a = nI (11 + a) from nI_add 11 a] at lp
    have R2 : RC_ (mi_ (wI (wI K 237 (11 + a) (nI (c 2 i))) 237 (11 + i) (nI (c 2 a))) 237) (sw c 2 a i) := by rw [wI_a]; exact RC_2 b2' R1 (by omega)
    have W2 : WZ (wI K 237 (11 + a) (nI (c 2 i))) (wI (wI K 237 (11 + a) (nI (c 2 i))) 237 (11 + i) (nI (c 2 a))) := WZ_w G1 (Or.inl rfl)
    have ws := sw2_ok w ha hi'
    obtain ⟨L, l1, l2, l3⟩ := wdays G2 R2 ws i7 hm hd
    have dk := (dN_ok m _ ws i7 hd).1
    have kl := known_le dk
    have WL : WZ M L := WZ_t k3 (WZ_t W1 (WZ_t W2 l3))
    rw [m_X7_table_L85, R7s G, Option.bind_some, l_D (A7s G) h, Option.bind_some, if_neg (nI_ge hi' (by omega)), if_pos (O7 G), k1, Option.bind_some, R7t k3.1, Option.bind_some, R7s k3.1, Option.bind_some, l_pl (A7s k3.1) w RK hi', Option.bind_some, show (11 : Int32) + nI a = nI (11 + a) from nI_add 11 a, st_ (A7t k3.1).1 (A7t k3.1).2 (by omega) (by decide), Option.bind_some, R7t G1, Option.bind_some, R7s G1, Option.bind_some, lp, Option.bind_some, show (11 : Int32) + nI i = nI (11 + i) from nI_add 11 i, st_ (A7t G1).1 (A7t G1).2 (by omega) (by decide), Option.bind_some, R7t G2, Option.bind_some, if_pos (O7 G2), l1, Option.bind_some, R7t l3.1, Option.bind_some, m_kn7 (A7t l3.1) dk l2, Option.bind_some, nI_1]
    rw [show fo (tI_ c m a) i (d + 1) st = fo (tI_ c m a) (i + 1) d (tI_ c m a i st) from rfl]
    by_cases hk : known (dN m (sw c 2 a i)) ≤ st.1
    · have e : tI_ c m a i st = st := if_pos hk
      rw [e, if_pos (nI_le hk (by omega))]
      obtain ⟨N, n1, n2, n3⟩ := ih (i + 1) n L st l3.1 (WL.s h) hl (by omega) (by omega)
      exact ⟨N, n1, n2, WZ_t WL n3⟩
    · have e : tI_ c m a i st = (known (dN m (sw c 2 a i)), some (10 * a + i)) := if_neg hk
      rw [e, if_neg (nI_ge (by omega) (by omega))]
      obtain ⟨N, n1, n2, n3⟩ := ih (i + 1) n L (known (dN m (sw c 2 a i)), some (10 * a + i)) l3.1 (WL.s h) kl (by omega) (by omega)
      refine ⟨N, ?_, n2, WZ_t WL n3⟩
      rw [show ((10 : Int32) * nI a) + nI i = nI (10 * a + i) by rw [show (10 : Int32) = nI 10 from rfl, pk_mul, nI_add]]
      exact n1
theorem m_toM (w : wf c) (i7 : iv c) (y : Int32) {m : Nat} (hm : m ≤ 60) (hd : c 0 4 + m ≤ 2000) {ρ : Type} (k0 : mM → Int32 → Int32 → Option ρ) : ∀ (d i n : Nat) (M : mM) (st : Nat × Option Nat), GS M → RC_ (mi_ M 235) c → st.1 ≤ 36 → i + d = c 0 2 → d < n → ∃ N, m_X7_table_L68 k0 231 (nI m) y n M (nI st.1) (oI st.2) (nI i) = k0 N (nI (fo (tO_ c m) i d st).1) (oI (fo (tO_ c m) i d st).2) ∧ WZ M N := by
  have hL := w.2.2.1.2
  intro d
  induction d with
  | zero =>
    intro i n M st G h hl hi hn
    obtain ⟨n, rfl⟩ : ∃ z, n = z + 1 := ⟨n - 1, by omega⟩
    exact ⟨M, by rw [m_X7_table_L68, R7s G, Option.bind_some, l_D (A7s G) h, Option.bind_some, if_pos (nI_le (by omega) (by omega))]; rfl, WZ_r G⟩
  | succ d ih =>
    intro i n M st G h hl hi hn
    obtain ⟨n, rfl⟩ : ∃ z, n = z + 1 := ⟨n - 1, by omega⟩
    have hi' : i < c 0 2 := by omega
    obtain ⟨K, k1, k2, k3⟩ := m_teM w i7 y hm hd hi' (fun M27 v28 v29 => m_X7_table_L68 k0 231 (nI m) y n M27 v28 v29 (nI (i + 1))) (c 0 2 - (i + 1)) (i + 1) FU M st G h hl (by omega) (by unfold FU; omega)
    obtain ⟨N, n1, n2⟩ := ih (i + 1) n K (tO_ c m i st) k3.1 (k3.s h) k2 (by omega) (by omega)
    refine ⟨N, ?_, WZ_t k3 n2⟩
    rw [m_X7_table_L68, R7s G, Option.bind_some, l_D (A7s G) h, Option.bind_some, if_neg (nI_ge hi' (by omega)), nI_1]
    exact k1.trans n1
end TB
section OC
variable (A : aS)
theorem tb_2 {c : sT} (w : wf c) {n v : Nat} (h : (tb_ c n).2 = some v) : v < 100 := by
  have hL := w.2.2.1.2
  have : ∀ v, (tb_ c n).2 = some v → v < 100 := by
    unfold tb_
    refine fo_inv (P := fun st : Nat × Option Nat => ∀ v, st.2 = some v → v < 100) _ 0 _ (fun v hv => by cases hv) (fun a st _ ha hst => ?_)
    refine fo_inv (P := fun st : Nat × Option Nat => ∀ v, st.2 = some v → v < 100) _ (a + 1) st hst (fun b st' h1 hb hst' => ?_)
    unfold tI_
    split
    · exact hst'
    · intro v hv
      cases hv
      show 10 * a + b < 100
      omega
  exact this v h
theorem o_table (x y : Int32) : both A (fun M => m_X6_table M 0 x y) (fun M => m_X7_table M 231 x y) := by
  intro M G h
  have hn := h.1
  by_cases h0 : aN A 0 3 = 0
  · refine ⟨A, -1000002, ?_, fun M' G' h' => ?_⟩
    · show opX (m_X6_table M 0 x y) _ _ _
      rw [m_X6_table, if_pos (O6 G), m_noS G hn, Option.bind_some, if_neg (by simp [h0, b2])]
      exact px0 G h
    · show opM (m_X7_table M' 231 x y) _ _ _
      rw [m_X7_table]
      refine q2 G' h' (fun M1 G1 h1 => ?_)
      rw [if_pos (O7 G1), m_isT G1 h1.1, Option.bind_some, if_pos (by simp [h0, b2])]
      exact pm0 G1 h1
  obtain ⟨w, i7, hd⟩ := vs_w hn.2 (j := 3) (by decide) h0
  cases hr : rg x 1 30 with
  | false =>
    refine ⟨A, -1000001, ?_, fun M' G' h' => ?_⟩
    · show opX (m_X6_table M 0 x y) _ _ _
      rw [m_X6_table, if_pos (O6 G), m_noS G hn, Option.bind_some, if_pos (by simp [h0, b2]), n_out (b := false) hr, Option.bind_some, if_neg (by decide)]
      exact px0 G h
    · show opM (m_X7_table M' 231 x y) _ _ _
      rw [m_X7_table]
      refine q2 G' h' (fun M1 G1 h1 => ?_)
      rw [if_pos (O7 G1), m_isT G1 h1.1, Option.bind_some, if_neg (by simp [h0, b2]), n_in (b := false) hr, Option.bind_some, if_pos (by decide)]
      exact pm0 G1 h1
  | true =>
  cases hy : rg y 0 1 with
  | false =>
    refine ⟨A, -1000001, ?_, fun M' G' h' => ?_⟩
    · show opX (m_X6_table M 0 x y) _ _ _
      rw [m_X6_table, if_pos (O6 G), m_noS G hn, Option.bind_some, if_pos (by simp [h0, b2]), n_out (b := true) hr, Option.bind_some, if_pos (by decide), n_out (b := false) hy, Option.bind_some, if_neg (by decide)]
      exact px0 G h
    · show opM (m_X7_table M' 231 x y) _ _ _
      rw [m_X7_table]
      refine q2 G' h' (fun M1 G1 h1 => ?_)
      rw [if_pos (O7 G1), m_isT G1 h1.1, Option.bind_some, if_neg (by simp [h0, b2]), n_in (b := true) hr, Option.bind_some, if_neg (by decide), n_in (b := false) hy, Option.bind_some, if_pos (by decide)]
      exact pm0 G1 h1
  | true =>
  obtain ⟨m, hm, rfl⟩ : ∃ m, m ≤ 30 ∧ x = nI m := rg_n (n := 30) (by
    simp only [rg, Bool.and_eq_true, decide_eq_true_eq] at hr ⊢
    omega)
  refine ⟨A, if y = 0 then oI (tb_ (aN A) m).2 else (match (tb_ (aN A) m).2 with | none => -1000000 | some _ => nI (tb_ (aN A) m).1), ?_, fun M' G' h' => ?_⟩
  · show opX (m_X6_table M 0 (nI m) y) _ _ _
    obtain ⟨N, n1, n2, n3⟩ := m_bx G hn.1 w i7 (m := m) (by omega) (by omega)
    rw [m_X6_table, if_pos (O6 G), m_noS G hn, Option.bind_some, if_pos (by simp [h0, b2]), n_out (b := true) hr, Option.bind_some, if_pos (by decide), n_out (b := true) hy, Option.bind_some, if_pos (by decide), R6f G, Option.bind_some, R6n G, Option.bind_some, if_pos (FO G), n1, bd2_s, R6f n3.1, Option.bind_some, gI_ (FO n3.1), Option.bind_some, n2]
    cases ht : (tb_ (aN A) m).2 with
    | none =>
      rw [if_pos (show oI none < 0 by decide)]
      by_cases hy0 : y = 0
      · rw [if_pos hy0]
        exact pxW n3 h
      · rw [if_neg hy0]
        exact pxW n3 h
    | some v =>
      have hv := tb_2 w ht
      rw [if_neg (show ¬ oI (some v) < 0 from nI_pos (by omega))]
      by_cases hy0 : y = 0
      · rw [if_pos hy0, if_pos hy0]
        exact pxW n3 h
      · rw [if_neg hy0, if_neg hy0]
        exact pxW n3 h
  · show opM (m_X7_table M' 231 (nI m) y) _ _ _
    rw [m_X7_table]
    refine q2 G' h' (fun M1 G1 h1 => ?_)
    obtain ⟨K, k1, k2, k3⟩ := wlay G1 h1.1.1 (wf_b w)
    obtain ⟨L, l1, l2, l3⟩ := wdays k3.1 k2 w i7 (m := m) (by omega) (by omega)
    have dk := (dN_ok m _ w i7 (by omega)).1
    have WL := WZ_t k3 l3
    obtain ⟨N, n1, n2⟩ := m_toM w i7 y (m := m) (by omega) (by omega) (fun M30 v31 v32 => if v32 = (-1000000 : Int32) then some (M30, v32) else if y = (0 : Int32) then some (M30, v32) else some (M30, v31)) (aN A 0 2) 0 FU L (known (dN m (aN A)), none) l3.1 (WL.s h1.1.1) (known_le dk) (by omega) (by have := w.2.2.1.2; unfold FU; omega)
    rw [if_pos (O7 G1), m_isT G1 h1.1, Option.bind_some, if_neg (by simp [h0, b2]), n_in (b := true) hr, Option.bind_some, if_neg (by decide), n_in (b := true) hy, Option.bind_some, if_neg (by decide), if_pos (O7 G1), k1, Option.bind_some, R7t k3.1, Option.bind_some, if_pos (O7 k3.1), l1, Option.bind_some, R7t l3.1, Option.bind_some, m_kn7 (A7t l3.1) dk l2, Option.bind_some, show m_X7_table_L68 _ 231 (nI m) y FU L (nI (known (dN m (aN A)))) (-1000000 : Int32) (0 : Int32) = _ from n1]
    show opM (if oI (tb_ (aN A) m).2 = (-1000000 : Int32) then some (N, oI (tb_ (aN A) m).2) else if y = (0 : Int32) then some (N, oI (tb_ (aN A) m).2) else some (N, nI (tb_ (aN A) m).1)) _ _ _
    cases ht : (tb_ (aN A) m).2 with
    | none =>
      rw [if_pos (show oI none = -1000000 from rfl)]
      by_cases hy0 : y = 0
      · rw [if_pos hy0]
        exact pmW (WZ_t WL n2) h1
      · rw [if_neg hy0]
        exact pmW (WZ_t WL n2) h1
    | some v =>
      have hv := tb_2 w ht
      rw [if_neg (show ¬ oI (some v) = -1000000 from fun q => nI_pos (n := v) (by omega) (by rw [show nI v = -1000000 from q]; decide))]
      by_cases hy0 : y = 0
      · rw [if_pos hy0, if_pos hy0]
        exact pmW (WZ_t WL n2) h1
      · rw [if_neg hy0, if_neg hy0]
        exact pmW (WZ_t WL n2) h1
end OC
