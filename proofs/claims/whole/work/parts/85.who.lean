/-! ===== who, what: the loops ===== -/
section WL
variable {M N : mM} {c e : sT} {p r j m sz : Nat} {it : Nat → Int32}
def HX (M : mM) (r j m sz : Nat) (it : Nat → Int32) (c : sT) : Prop := GS M ∧ FT_ M r j m ∧ mi_ M (201 + 2 * r) 3 = nI sz ∧ (∀ k, k < m → mi_ M (202 + 2 * r) (j + k) = it k) ∧ SA M 2 c
theorem HX_f (h : HX M r j m sz it c) (hr : r < 8) (f : fr 190 M N) : HX N r j m sz it c := ⟨h.1.sh f.1, FT_f h.2.1 f, by rw [f.2 _ (by omega)]; exact h.2.2.1, fun k hk => by rw [f.2 _ (by omega)]; exact h.2.2.2.1 k hk, h.2.2.2.2.o (fun a ha => f.2 _ (by omega))⟩
theorem HX_fit (h : HX M r j m sz it c) (hr : r < 8) (hz : sz ≤ 40) (hjm : j + m ≤ sz) (f : fr 190 M N) (s : SA N 190 e) (w : wf e) (hp : p < e 0 3) (hd : e 0 4 + m ≤ 2000) : ∃ K, m_X2_fits N 189 (nI p) = some (K, b2 (so_ p it m 0 e)) ∧ fr 190 M K := by
  have g := HX_f h hr f
  obtain ⟨K, k1, k2⟩ := m_fitX g.1 hr hz g.2.2.1 hjm g.2.1 g.2.2.2.1 s w hp hd
  exact ⟨K, k1, fr_t f k2⟩
theorem fs_s {cand : Nat → sT} {v d x : Nat} : fs_ p it m cand v (d + 1) x = fs_ p it m cand (v + 1) d (if so_ p it m 0 (cand v) then x ||| 2 ^ v else x) := rfl
theorem m_kiX (w : wf c) (hp : p < c 0 3) (hd : c 0 4 + m ≤ 2000) (hr : r < 8) (hz : sz ≤ 40) (hjm : j + m ≤ sz) {ρ : Type} (k0 : mM → Int32 → Option ρ) : ∀ (d i n : Nat) (M : mM) (s : Nat), HX M r j m sz it c → s < 128 → 1 ≤ i → i + d = 6 → d < n → ∃ N, m_X2_kindsThatFit_L5 k0 189 2 (nI p) n M (nI s) (nI i) = k0 N (nI (fs_ p it m (fun v => up2 c 3 p v) i d s)) ∧ fr 190 M N := by
  have hP := w.2.2.2.1.2
  intro d
  induction d with
  | zero =>
    intro i n M s H hs h1 hi hn
    obtain ⟨n, rfl⟩ : ∃ z, n = z + 1 := ⟨n - 1, by omega⟩
    exact ⟨M, by rw [m_X2_kindsThatFit_L5, if_pos (show (5 : Int32) < nI i from (nI_lt (by omega) (by omega) : nI 5 < nI i))]; rfl, fr_r _ _⟩
  | succ d ih =>
    intro i n M s H hs h1 hi hn
    obtain ⟨n, rfl⟩ : ∃ z, n = z + 1 := ⟨n - 1, by omega⟩
    have G := H.1
    obtain ⟨K, k1, k2, k3⟩ := m_be (Sw G) (Sn G) (Or.inr (by decide)) (wf_b w) H.2.2.2.2
    have GK : GS K := G.sh k3.1
    have s3 : SA (wI K (190 + 3) p (nI i)) 190 (up2 c 3 p i) := SA_w k2 (by decide) (by decide)
    have f3 : fr 190 M (wI K (190 + 3) p (nI i)) := fr_t k3 (fr_w (by decide))
    obtain ⟨L, l1, l2⟩ := HX_fit (p := p) H hr hz hjm f3 s3 (wf_3 w h1 (by omega)) hp hd
    obtain ⟨N, n1, n2⟩ := ih (i + 1) n L _ (HX_f H hr l2) (or_128 (b := so_ p it m 0 (up2 c 3 p i)) hs (show i < 7 by omega)) (by omega) (by omega) (by omega)
    refine ⟨N, ?_, fr_t l2 n2⟩
    rw [m_X2_kindsThatFit_L5, if_neg (show ¬ (5 : Int32) < nI i from (nI_nlt (by omega) (by decide) : ¬ nI 5 < nI i)), FW G, Option.bind_some, if_pos (Sw G).1, k1, Option.bind_some, FW GK, Option.bind_some, r_3 (Sw GK), Option.bind_some, s_3 (Sw GK) (by omega), Option.bind_some, if_pos (FO (GS_w GK)), l1, bd2_s, xsb_ hs (by omega), nI_1]
    exact n1
theorem m_seX (w : wf c) (i7 : iv c) (hp : p < c 0 3) (hd : c 0 4 + m ≤ 2000) (hr : r < 8) (hz : sz ≤ 40) (hjm : j + m ≤ sz) {ρ : Type} (k0 : mM → Int32 → Option ρ) : ∀ (d i n : Nat) (M : mM) (s : Nat), HX M r j m sz it c → s < 128 → i + d = c 0 3 → d < n → ∃ N, m_X2_seatsThatFit_L5 k0 189 2 (nI p) n M (nI s) (nI i) = k0 N (nI (fs_ p it m (fun v => chg c p (c 5 v)) i d s)) ∧ fr 190 M N := by
  have hP := w.2.2.2.1.2
  have ep := i7.1 p hp
  intro d
  induction d with
  | zero =>
    intro i n M s H hs hi hn
    obtain ⟨n, rfl⟩ : ∃ z, n = z + 1 := ⟨n - 1, by omega⟩
    exact ⟨M, by rw [m_X2_seatsThatFit_L5, g_s (Sn H.1) H.2.2.2.2 (j := 3) (by decide), Option.bind_some, if_pos (nI_le (by omega) (by omega))]; rfl, fr_r _ _⟩
  | succ d ih =>
    intro i n M s H hs hi hn
    obtain ⟨n, rfl⟩ : ∃ z, n = z + 1 := ⟨n - 1, by omega⟩
    have hi' : i < c 0 3 := by omega
    have G := H.1
    have h5 := w.2.2.2.2.2.2.2.2.2.1 i hi'
    obtain ⟨K, k1, k2, k3⟩ := m_be (Sw G) (Sn G) (Or.inr (by decide)) (wf_b w) H.2.2.2.2
    have GK : GS K := G.sh k3.1
    have sp := m_seat (Sw GK) w k2 ep.1
    rw [ep.2] at sp
    obtain ⟨Q, q1, q2, q3⟩ := m_swS (Sw GK) w k2 ep.1 hi'
    have GQ : GS Q := GK.sh q3.1
    have s3 : SA Q 190 (chg c p (c 5 i)) := by
      unfold chg
      rw [i7.2 i hi']
      exact q2
    have e0 : chg c p (c 5 i) 0 = c 0 := chg_o (by decide) (by decide)
    obtain ⟨L, l1, l2⟩ := HX_fit (p := p) H hr hz hjm (fr_t k3 q3) s3 (wf_chg w i7 hp h5) (by rw [e0]; exact hp) (by rw [e0]; exact hd)
    obtain ⟨N, n1, n2⟩ := ih (i + 1) n L _ (HX_f H hr l2) (or_128 (b := so_ p it m 0 (chg c p (c 5 i))) hs (show i < 7 by omega)) (by omega) (by omega)
    refine ⟨N, ?_, fr_t l2 n2⟩
    rw [m_X2_seatsThatFit_L5, g_s (Sn G) H.2.2.2.2 (j := 3) (by decide), Option.bind_some, if_neg (nI_ge hi' (by omega)), FW G, Option.bind_some, if_pos (Sw G).1, k1, Option.bind_some, FW GK, Option.bind_some, Option.bind_some, if_pos (Sw GK).1, sp, Option.bind_some, if_pos (Sw GK).1, q1, Option.bind_some, if_pos (FO GQ), l1, bd2_s, xsb_ hs (by omega), nI_1]
    exact n1
theorem m_raX (w : wf c) (hp : p < c 0 3) (hd : c 0 4 + m ≤ 2000) (hr : r < 8) (hz : sz ≤ 40) (hjm : j + m ≤ sz) {ρ : Type} (k0 : mM → Int32 → Option ρ) : ∀ (d i n : Nat) (M : mM) (s : Nat), HX M r j m sz it c → s < 128 → i + d = 7 → d < n → ∃ N, m_X2_reachesThatFit_L5 k0 189 2 (nI p) n M (nI s) (nI i) = k0 N (nI (fs_ p it m (fun v => up2 c 0 0 v) i d s)) ∧ fr 190 M N := by
  intro d
  induction d with
  | zero =>
    intro i n M s H hs hi hn
    obtain ⟨n, rfl⟩ : ∃ z, n = z + 1 := ⟨n - 1, by omega⟩
    exact ⟨M, by rw [m_X2_reachesThatFit_L5, if_pos (show (7 : Int32) ≤ nI i from (nI_le (by omega) (by omega) : nI 7 ≤ nI i))]; rfl, fr_r _ _⟩
  | succ d ih =>
    intro i n M s H hs hi hn
    obtain ⟨n, rfl⟩ : ∃ z, n = z + 1 := ⟨n - 1, by omega⟩
    have G := H.1
    obtain ⟨K, k1, k2, k3⟩ := m_be (Sw G) (Sn G) (Or.inr (by decide)) (wf_b w) H.2.2.2.2
    have GK : GS K := G.sh k3.1
    have s3 : SA (wI K 190 0 (nI i)) 190 (up2 c 0 0 i) := SA_w0 k2 (Or.inl rfl)
    have f3 : fr 190 M (wI K 190 0 (nI i)) := fr_t k3 fr_w0
    obtain ⟨L, l1, l2⟩ := HX_fit (p := p) H hr hz hjm f3 s3 (wf_r w (by omega)) hp hd
    obtain ⟨N, n1, n2⟩ := ih (i + 1) n L _ (HX_f H hr l2) (or_128 (b := so_ p it m 0 (up2 c 0 0 i)) hs (show i < 7 by omega)) (by omega) (by omega)
    refine ⟨N, ?_, fr_t l2 n2⟩
    rw [m_X2_reachesThatFit_L5, if_neg (show ¬ (7 : Int32) ≤ nI i from (nI_ge (by omega) (by decide) : ¬ nI 7 ≤ nI i)), FW G, Option.bind_some, if_pos (Sw G).1, k1, Option.bind_some, FW GK, Option.bind_some, pI_ (Sw GK).1, Option.bind_some, if_pos (FO (GS_w GK)), l1, bd2_s, xsb_ hs (by omega), nI_1]
    exact n1
theorem m_suX {l : Nat} (w : wf c) (hl : l < c 0 2) (hp : p < c 0 3) (hd : c 0 4 + m ≤ 2000) (hr : r < 8) (hz : sz ≤ 40) (hjm : j + m ≤ sz) {ρ : Type} (k0 : mM → Int32 → Option ρ) : ∀ (d i n : Nat) (M : mM) (s : Nat), HX M r j m sz it c → s < 128 → i + d = c 0 1 → d < n → ∃ N, m_X2_subjectsThatFit_L6 k0 189 2 (nI p) (nI l) n M (nI s) (nI i) = k0 N (nI (fs_ p it m (fun v => up2 c 2 l v) i d s)) ∧ fr 190 M N := by
  have hJ := w.2.1.2
  have hL := w.2.2.1.2
  intro d
  induction d with
  | zero =>
    intro i n M s H hs hi hn
    obtain ⟨n, rfl⟩ : ∃ z, n = z + 1 := ⟨n - 1, by omega⟩
    exact ⟨M, by rw [m_X2_subjectsThatFit_L6, g_s (Sn H.1) H.2.2.2.2 (j := 1) (by decide), Option.bind_some, if_pos (nI_le (by omega) (by omega))]; rfl, fr_r _ _⟩
  | succ d ih =>
    intro i n M s H hs hi hn
    obtain ⟨n, rfl⟩ : ∃ z, n = z + 1 := ⟨n - 1, by omega⟩
    have hi' : i < c 0 1 := by omega
    have G := H.1
    obtain ⟨K, k1, k2, k3⟩ := m_be (Sw G) (Sn G) (Or.inr (by decide)) (wf_b w) H.2.2.2.2
    have GK : GS K := G.sh k3.1
    have s3 : SA (wI K (190 + 2) l (nI i)) 190 (up2 c 2 l i) := SA_w k2 (by decide) (by decide)
    have f3 : fr 190 M (wI K (190 + 2) l (nI i)) := fr_t k3 (fr_w (by decide))
    obtain ⟨L, l1, l2⟩ := HX_fit (p := p) H hr hz hjm f3 s3 (wf_2 w hi') hp hd
    obtain ⟨N, n1, n2⟩ := ih (i + 1) n L _ (HX_f H hr l2) (or_128 (b := so_ p it m 0 (up2 c 2 l i)) hs (show i < 7 by omega)) (by omega) (by omega)
    refine ⟨N, ?_, fr_t l2 n2⟩
    rw [m_X2_subjectsThatFit_L6, g_s (Sn G) H.2.2.2.2 (j := 1) (by decide), Option.bind_some, if_neg (nI_ge hi' (by omega)), FW G, Option.bind_some, if_pos (Sw G).1, k1, Option.bind_some, FW GK, Option.bind_some, r_2 (Sw GK), Option.bind_some, s_2 (Sw GK) (by omega), Option.bind_some, if_pos (FO (GS_w GK)), l1, bd2_s, xsb_ hs (by omega), nI_1]
    exact n1
/-! the model's -/
def HM (M : mM) (b m : Nat) (it : Nat → Int32) (c : sT) : Prop := GS M ∧ (∀ k, k < m → mi_ M 234 (b + k) = it k) ∧ RC_ (mi_ M 235) c
theorem HM_f {b : Nat} (h : HM M b m it c) (f : WZ M N) : HM N b m it c := ⟨f.1, fun k hk => by rw [f.2 234 (by decide) (by decide) (by decide) (by decide)]; exact h.2.1 k hk, f.s h.2.2⟩
theorem HM_so {b : Nat} (h : HM M b m it c) (hbm : b + m ≤ 320) (hm : m ≤ 60) (f : WZ M N) (s : RC_ (mi_ N 237) e) (w : wf e) (i7 : iv e) (hp : p < e 0 3) (hd : e 0 4 + m ≤ 2000) : ∃ K, m_X7_isSo N 231 (nI p) (nI b) (nI m) = some (K, b2 (so_ p it m 0 e)) ∧ WZ M K := by
  have g := HM_f h f
  obtain ⟨K, k1, k2⟩ := m_so g.1 hbm hm g.2.1 s w i7 hp hd
  exact ⟨K, k1, WZ_t f k2⟩
theorem m_kiM (w : wf c) (i7 : iv c) (hp : p < c 0 3) (hd : c 0 4 + m ≤ 2000) (hm : m ≤ 60) (hrm : 40 * r + j + m ≤ 320) {ρ : Type} (k0 : mM → Int32 → Option ρ) : ∀ (d i n : Nat) (M : mM) (s : Nat), HM M (40 * r + j) m it c → s < 128 → 1 ≤ i → i + d = 6 → d < n → ∃ N, m_X7_who_L68 k0 231 (nI p) (0 : Int32) (nI r) (nI j) (nI m) n M (nI s) (nI i) = k0 N (nI (fs_ p it m (fun v => up2 c 3 p v) i d s)) ∧ WZ M N := by
  have hP := w.2.2.2.1.2
  intro d
  induction d with
  | zero =>
    intro i n M s H hs h1 hi hn
    obtain ⟨n, rfl⟩ : ∃ z, n = z + 1 := ⟨n - 1, by omega⟩
    exact ⟨M, by rw [m_X7_who_L68, if_pos rfl, if_pos (show (5 : Int32) < nI i from (nI_lt (by omega) (by omega) : nI 5 < nI i))]; rfl, WZ_r H.1⟩
  | succ d ih =>
    intro i n M s H hs h1 hi hn
    obtain ⟨n, rfl⟩ : ∃ z, n = z + 1 := ⟨n - 1, by omega⟩
    have G := H.1
    obtain ⟨K, k1, k2, k3⟩ := wlay G H.2.2 (wf_b w)
    have GK := k3.1
    have R3 : RC_ (mi_ (wI K 237 (19 + 9 * p + 0) (nI i)) 237) (up2 c 3 p i) := by rw [wI_a]; exact RC_3 (wf_b w) k2
    have W3 : WZ M (wI K 237 (19 + 9 * p + 0) (nI i)) := WZ_t k3 (WZ_w GK (Or.inl rfl))
    obtain ⟨L, l1, l2⟩ := HM_so (p := p) H hrm hm W3 R3 (wf_3 w h1 (by omega)) i7 hp hd
    obtain ⟨N, n1, n2⟩ := ih (i + 1) n L _ (HM_f H l2) (or_128 (b := so_ p it m 0 (up2 c 3 p i)) hs (show i < 7 by omega)) (by omega) (by omega) (by omega)
    refine ⟨N, ?_, WZ_t l2 n2⟩
    rw [m_X7_who_L68, if_pos rfl, if_neg (show ¬ (5 : Int32) < nI i from (nI_nlt (by omega) (by decide) : ¬ nI 5 < nI i)), if_pos (O7 G), k1, Option.bind_some, if_pos rfl, R7t GK, Option.bind_some, show m_X7_be K 237 (nI p) (0 : Int32) (nI i) = _ from m_be9 (A7t GK) (p := p) (q := 0) (by omega), Option.bind_some, if_pos (O7 W3.1), c40, l1, bd2_s, nI_1]
    refine Eq.trans (msb_ (fun z => m_X7_who_L68 k0 231 (nI p) (0 : Int32) (nI r) (nI j) (nI m) n L z (nI (i + 1))) hs (by omega)) n1
theorem m_seM (w : wf c) (i7 : iv c) (hp : p < c 0 3) (hd : c 0 4 + m ≤ 2000) (hm : m ≤ 60) (hrm : 40 * r + j + m ≤ 320) {ρ : Type} (k0 : mM → Int32 → Option ρ) : ∀ (d i n : Nat) (M : mM) (s : Nat), HM M (40 * r + j) m it c → s < 128 → i + d = c 0 3 → d < n → ∃ N, m_X7_who_L68 k0 231 (nI p) (1 : Int32) (nI r) (nI j) (nI m) n M (nI s) (nI i) = k0 N (nI (fs_ p it m (fun v => chg c p (c 5 v)) i d s)) ∧ WZ M N := by
  have hP := w.2.2.2.1
  have eP : nI (c 0 3) - (1 : Int32) = nI (c 0 3 - 1) := pk_sub (b := 1) (by omega)
  intro d
  induction d with
  | zero =>
    intro i n M s H hs hi hn
    obtain ⟨n, rfl⟩ : ∃ z, n = z + 1 := ⟨n - 1, by omega⟩
    exact ⟨M, by rw [m_X7_who_L68, if_neg (by decide), R7s H.1, Option.bind_some, l_P (A7s H.1) H.2.2, Option.bind_some, eP, if_pos (nI_lt (by omega) (by omega))]; rfl, WZ_r H.1⟩
  | succ d ih =>
    intro i n M s H hs hi hn
    obtain ⟨n, rfl⟩ : ∃ z, n = z + 1 := ⟨n - 1, by omega⟩
    have hi' : i < c 0 3 := by omega
    have h5 := w.2.2.2.2.2.2.2.2.2.1 i hi'
    have G := H.1
    obtain ⟨K, k1, k2, k3⟩ := wlay G H.2.2 (wf_b w)
    have GK := k3.1
    have AK1 : AK (wI K 237 (19 + 9 * p + 1) (nI (c 7 (c 5 i)))) 237 := A7t (GS_w GK)
    have ex : m_X7_exchange K 237 (nI p) (nI (c 5 i)) = some (wI (wI K 237 (19 + 9 * p + 1) (nI (c 7 (c 5 i)))) 237 (19 + 9 * c 5 i + 1) (nI (c 7 p))) := by
      rw [m_X7_exchange, o_1 (A7t GK) w k2 hp, Option.bind_some, o_1 (A7t GK) w k2 h5, Option.bind_some, show m_X7_be K 237 (nI p) (1 : Int32) (nI (c 7 (c 5 i))) = _ from m_be9 (A7t GK) (p := p) (q := 1) (by omega), Option.bind_some, show m_X7_be _ 237 (nI (c 5 i)) (1 : Int32) (nI (c 7 p)) = _ from m_be9 AK1 (p := c 5 i) (q := 1) (by omega), Option.bind_some]
    have R3 : RC_ (mi_ (wI (wI K 237 (19 + 9 * p + 1) (nI (c 7 (c 5 i)))) 237 (19 + 9 * c 5 i + 1) (nI (c 7 p))) 237) (chg c p (c 5 i)) := by
      rw [wI_a, wI_a]
      have bb := wf_b w
      have RK' : RC_ (mi_ K 237) (sw c 5 (c 7 p) (c 7 (c 5 i))) := k2
      exact RC_7 (c := up2 (sw c 5 (c 7 p) (c 7 (c 5 i))) 7 p (c 7 (c 5 i))) bb (RC_7 (c := sw c 5 (c 7 p) (c 7 (c 5 i))) bb RK')
    have W3 : WZ M (wI (wI K 237 (19 + 9 * p + 1) (nI (c 7 (c 5 i)))) 237 (19 + 9 * c 5 i + 1) (nI (c 7 p))) := WZ_t k3 (WZ_t (WZ_w GK (Or.inl rfl)) (WZ_w (GS_w GK) (Or.inl rfl)))
    have e0 : chg c p (c 5 i) 0 = c 0 := chg_o (by decide) (by decide)
    obtain ⟨L, l1, l2⟩ := HM_so (p := p) H hrm hm W3 R3 (wf_chg w i7 hp h5) (iv_chg w i7 hp h5) (by rw [e0]; exact hp) (by rw [e0]; exact hd)
    obtain ⟨N, n1, n2⟩ := ih (i + 1) n L _ (HM_f H l2) (or_128 (b := so_ p it m 0 (chg c p (c 5 i))) hs (show i < 7 by omega)) (by omega) (by omega)
    refine ⟨N, ?_, WZ_t l2 n2⟩
    rw [m_X7_who_L68, if_neg (by decide), R7s G, Option.bind_some, l_P (A7s G) H.2.2, Option.bind_some, eP, if_neg (nI_nlt (by omega) (by omega)), if_pos (O7 G), k1, Option.bind_some, if_neg (by decide), R7t GK, Option.bind_some, Option.bind_some, m_in (A7t GK) w i7 k2 hi', Option.bind_some, ex, Option.bind_some, if_pos (O7 W3.1), c40, l1, bd2_s, nI_1]
    refine Eq.trans (msb_ (fun z => m_X7_who_L68 k0 231 (nI p) (1 : Int32) (nI r) (nI j) (nI m) n L z (nI (i + 1))) hs (by omega)) n1
theorem m_raM (w : wf c) (i7 : iv c) (hp : p < c 0 3) (hd : c 0 4 + m ≤ 2000) (hm : m ≤ 60) (hrm : 40 * r + j + m ≤ 320) {ρ : Type} (k0 : mM → Int32 → Option ρ) : ∀ (d i n : Nat) (M : mM) (s : Nat), HM M (40 * r + j) m it c → s < 128 → i + d = 7 → d < n → ∃ N, m_X7_what_L63 k0 231 (-1 : Int32) (nI p) (nI r) (nI j) (nI m) n M (nI s) (nI i) = k0 N (nI (fs_ p it m (fun v => up2 c 0 0 v) i d s)) ∧ WZ M N := by
  intro d
  induction d with
  | zero =>
    intro i n M s H hs hi hn
    obtain ⟨n, rfl⟩ : ∃ z, n = z + 1 := ⟨n - 1, by omega⟩
    exact ⟨M, by rw [m_X7_what_L63, if_pos rfl, if_pos (show (6 : Int32) < nI i from (nI_lt (by omega) (by omega) : nI 6 < nI i))]; rfl, WZ_r H.1⟩
  | succ d ih =>
    intro i n M s H hs hi hn
    obtain ⟨n, rfl⟩ : ∃ z, n = z + 1 := ⟨n - 1, by omega⟩
    have G := H.1
    obtain ⟨K, k1, k2, k3⟩ := wlay G H.2.2 (wf_b w)
    have GK := k3.1
    have R3 : RC_ (mi_ (wI K 237 4 (nI i)) 237) (up2 c 0 0 i) := by rw [wI_a]; exact RC_r k2
    have W3 : WZ M (wI K 237 4 (nI i)) := WZ_t k3 (WZ_w GK (Or.inl rfl))
    obtain ⟨L, l1, l2⟩ := HM_so (p := p) H hrm hm W3 R3 (wf_r w (by omega)) i7 hp hd
    obtain ⟨N, n1, n2⟩ := ih (i + 1) n L _ (HM_f H l2) (or_128 (b := so_ p it m 0 (up2 c 0 0 i)) hs (show i < 7 by omega)) (by omega) (by omega)
    refine ⟨N, ?_, WZ_t l2 n2⟩
    rw [m_X7_what_L63, if_pos rfl, if_neg (show ¬ (6 : Int32) < nI i from (nI_nlt (by omega) (by decide) : ¬ nI 6 < nI i)), if_pos (O7 G), k1, Option.bind_some, R7t GK, Option.bind_some, if_pos rfl, show stI K 237 (4 : Int32) (nI i) = _ from st_ (p := 4) (A7t GK).1 (A7t GK).2 (by decide) (by decide), Option.bind_some, if_pos (O7 W3.1), c40, l1, bd2_s, nI_1]
    refine Eq.trans (msb_ (fun z => m_X7_what_L63 k0 231 (-1 : Int32) (nI p) (nI r) (nI j) (nI m) n L z (nI (i + 1))) hs (by omega)) n1
theorem m_suM {l : Nat} (w : wf c) (i7 : iv c) (hl : l < c 0 2) (hp : p < c 0 3) (hd : c 0 4 + m ≤ 2000) (hm : m ≤ 60) (hrm : 40 * r + j + m ≤ 320) {ρ : Type} (k0 : mM → Int32 → Option ρ) : ∀ (d i n : Nat) (M : mM) (s : Nat), HM M (40 * r + j) m it c → s < 128 → i + d = c 0 1 → d < n → ∃ N, m_X7_what_L63 k0 231 (nI l) (nI p) (nI r) (nI j) (nI m) n M (nI s) (nI i) = k0 N (nI (fs_ p it m (fun v => up2 c 2 l v) i d s)) ∧ WZ M N := by
  have hJ := w.2.1
  have hL := w.2.2.1.2
  have eJ : nI (c 0 1) - (1 : Int32) = nI (c 0 1 - 1) := pk_sub (b := 1) (by omega)
  have ne : ¬ nI l = (-1 : Int32) := fun q => nI_pos (n := l) (by omega) (by rw [q]; decide)
  intro d
  induction d with
  | zero =>
    intro i n M s H hs hi hn
    obtain ⟨n, rfl⟩ : ∃ z, n = z + 1 := ⟨n - 1, by omega⟩
    exact ⟨M, by rw [m_X7_what_L63, if_neg ne, R7s H.1, Option.bind_some, l_J (A7s H.1) H.2.2, Option.bind_some, eJ, if_pos (nI_lt (by omega) (by omega))]; rfl, WZ_r H.1⟩
  | succ d ih =>
    intro i n M s H hs hi hn
    obtain ⟨n, rfl⟩ : ∃ z, n = z + 1 := ⟨n - 1, by omega⟩
    have hi' : i < c 0 1 := by omega
    have G := H.1
    obtain ⟨K, k1, k2, k3⟩ := wlay G H.2.2 (wf_b w)
    have GK := k3.1
    have R3 : RC_ (mi_ (wI K 237 (11 + l) (nI i)) 237) (up2 c 2 l i) := by rw [wI_a]; exact RC_2 (wf_b w) k2 (by omega)
    have W3 : WZ M (wI K 237 (11 + l) (nI i)) := WZ_t k3 (WZ_w GK (Or.inl rfl))
    obtain ⟨L, l1, l2⟩ := HM_so (p := p) H hrm hm W3 R3 (wf_2 w hi') i7 hp hd
    obtain ⟨N, n1, n2⟩ := ih (i + 1) n L _ (HM_f H l2) (or_128 (b := so_ p it m 0 (up2 c 2 l i)) hs (show i < 7 by omega)) (by omega) (by omega)
    refine ⟨N, ?_, WZ_t l2 n2⟩
    rw [m_X7_what_L63, if_neg ne, R7s G, Option.bind_some, l_J (A7s G) H.2.2, Option.bind_some, eJ, if_neg (nI_nlt (by omega) (by omega)), if_pos (O7 G), k1, Option.bind_some, R7t GK, Option.bind_some, if_neg ne, show (11 : Int32) + nI l = nI (11 + l) from nI_add 11 l, st_ (A7t GK).1 (A7t GK).2 (by omega) (by decide), Option.bind_some, if_pos (O7 W3.1), c40, l1, bd2_s, nI_1]
    refine Eq.trans (msb_ (fun z => m_X7_what_L63 k0 231 (nI l) (nI p) (nI r) (nI j) (nI m) n L z (nI (i + 1))) hs (by omega)) n1
end WL
