/-! ===== the school's changes ===== -/
def fr (k : Nat) (M N : mM) : Prop := sh M N ∧ ∀ b, (b < k ∨ k + 6 < b) → mi_ N b = mi_ M b
theorem fr_r (k : Nat) (M : mM) : fr k M M := ⟨sh_r M, fun _ _ => rfl⟩
theorem fr_t {k : Nat} {A B C : mM} (h : fr k A B) (g : fr k B C) : fr k A C := ⟨sh_t h.1 g.1, fun b hb => (g.2 b hb).trans (h.2 b hb)⟩
theorem fr_w {k a j : Nat} {M : mM} {v : Int32} (ha : a ≤ 6) : fr k M (wI M (k + a) j v) := ⟨sh_w _ _ _ _, fun b hb => wI_o (by omega)⟩
theorem fr_w0 {k j : Nat} {M : mM} {v : Int32} : fr k M (wI M k j v) := fr_w (a := 0) (by decide)
theorem SA.o {M N : mM} {k : Nat} {c : sT} (A : SA M k c) (h : ∀ a, a ≤ 6 → mi_ N (k + a) = mi_ M (k + a)) : SA N k c := by
  have h0 := h 0 (by decide)
  rw [Nat.add_zero] at h0
  unfold SA
  rw [h0, h 1 (by decide), h 2 (by decide), h 3 (by decide), h 4 (by decide), h 5 (by decide), h 6 (by decide)]
  exact A
/-- another school, apart, stays -/
theorem SA.f {M N : mM} {k j : Nat} {c : sT} (A : SA M k c) (f : fr j M N) (h : k + 6 < j ∨ j + 6 < k) : SA N k c := A.o (fun a ha => f.2 (k + a) (by omega))
theorem SA_w {M : mM} {k a j v : Nat} {c : sT} (A : SA M k c) (h1 : 1 ≤ a) (h6 : a ≤ 6) : SA (wI M (k + a) j (nI v)) k (up2 c a j v) := by
  obtain ⟨A0, A1, A2, A3, A4, A5, A6⟩ := A
  have e : ∀ b q, b ≠ a → (up2 c a j v) b q = c b q := fun b q h => by simp [up2, h]
  have key : ∀ b q, 1 ≤ b → b ≤ 6 → mi_ M (k + b) q = nI (c b q) → mi_ (wI M (k + a) j (nI v)) (k + b) q = nI (up2 c a j v b q) := by
    intro b q hb1 hb6 hq
    rw [wI_i]
    by_cases hb : b = a
    · subst hb
      by_cases hj : q = j
      · simp [up2, hj]
      · simp [up2, hj, hq]
    · rw [if_neg (by omega), e b q hb]
      exact hq
  refine ⟨fun q hq => ?_, ?_, ?_, ?_, ?_, ?_, ?_⟩
  · rw [wI_i, if_neg (by omega), e 0 q (by omega)]
    exact A0 q hq
  · rw [e 0 1 (by omega)]
    exact fun q hq => key 1 q (by decide) (by decide) (A1 q hq)
  · rw [e 0 2 (by omega)]
    exact fun q hq => key 2 q (by decide) (by decide) (A2 q hq)
  · rw [e 0 3 (by omega)]
    exact fun q hq => key 3 q (by decide) (by decide) (A3 q hq)
  · rw [e 0 3 (by omega)]
    exact fun q hq => key 4 q (by decide) (by decide) (A4 q hq)
  · rw [e 0 3 (by omega)]
    exact fun q hq => key 5 q (by decide) (by decide) (A5 q hq)
  · rw [e 0 3 (by omega), e 0 1 (by omega)]
    exact fun p hp s hs => key 6 _ (by decide) (by decide) (A6 p hp s hs)
theorem SA_w0 {M : mM} {k j v : Nat} {c : sT} (A : SA M k c) (hj : j = 0 ∨ j = 4) : SA (wI M k j (nI v)) k (up2 c 0 j v) := by
  obtain ⟨A0, A1, A2, A3, A4, A5, A6⟩ := A
  have e : ∀ q, q ≠ j → (up2 c 0 j v) 0 q = c 0 q := fun q h => by simp [up2, h]
  have e2 : ∀ b q, b ≠ 0 → (up2 c 0 j v) b q = c b q := fun b q h => by simp [up2, h]
  have o : ∀ b q, 1 ≤ b → mi_ (wI M k j (nI v)) (k + b) q = mi_ M (k + b) q := fun b q hb => by rw [wI_i, if_neg (by omega)]
  refine ⟨fun q hq => ?_, ?_, ?_, ?_, ?_, ?_, ?_⟩
  · rw [wI_i, if_pos rfl]
    by_cases h : q = j
    · simp [up2, h]
    · rw [if_neg h, e q h]
      exact A0 q hq
  · rw [e 1 (by omega)]
    exact fun q hq => by rw [o 1 q (by decide), e2 1 q (by decide)]; exact A1 q hq
  · rw [e 2 (by omega)]
    exact fun q hq => by rw [o 2 q (by decide), e2 2 q (by decide)]; exact A2 q hq
  · rw [e 3 (by omega)]
    exact fun q hq => by rw [o 3 q (by decide), e2 3 q (by decide)]; exact A3 q hq
  · rw [e 3 (by omega)]
    exact fun q hq => by rw [o 4 q (by decide), e2 4 q (by decide)]; exact A4 q hq
  · rw [e 3 (by omega)]
    exact fun q hq => by rw [o 5 q (by decide), e2 5 q (by decide)]; exact A5 q hq
  · rw [e 3 (by omega), e 1 (by omega)]
    exact fun p hp s hs => by rw [o 6 _ (by decide), e2 6 _ (by decide)]; exact A6 p hp s hs
/-! what a pupil learns: as numbers -/
def kg (c : sT) (s n : Nat) : Nat := if grasp c s n then n ||| 2 ^ s else n
def ko (c : sT) (s n : Nat) : Nat := fo (fun q m => if c 1 q = 0 then m else kg c q m) (s + 1) (c 0 1 - (s + 1)) n
def k1_ (c : sT) (s h n : Nat) : Nat := if h < bc (c 1 s) then n else n ||| 2 ^ s
def k2_ (n : Nat) : Nat := if bc n ≤ 4 then n else n &&& (n - 1)
def nk (c : sT) (t s h n : Nat) : Nat := if t = 1 then kg c s n else if t = 2 then ko c s (kg c s n) else if t = 3 then (if h < 2 then n else kg c s n) else if t = 5 then k2_ (k1_ c s h n) else k1_ c s h n
def h1_ (h : Nat) : Nat := if 99 ≤ h then h else h + 1
theorem up_id {c : sT} {a j : Nat} : up2 c a j (c a j) = c := by
  funext b q
  simp only [up2]
  split
  · split
    · subst_vars; rfl
    · rfl
  · rfl
theorem up_s {c : sT} {a j v : Nat} : up2 c a j v a j = v := by simp [up2]
theorem up_o {c : sT} {a j v b q : Nat} (h : b ≠ a) : up2 c a j v b q = c b q := by simp [up2, h]
theorem up_or {c : sT} {a j v b : Nat} (h : b ≠ a) : up2 c a j v b = c b := by funext q; simp [up2, h]
theorem up_q {c : sT} {a j v q : Nat} (h : q ≠ j) : up2 c a j v a q = c a q := by simp [up2, h]
theorem up_up {c : sT} {a j v u : Nat} : up2 (up2 c a j v) a j u = up2 c a j u := by
  funext b q
  simp only [up2]
  split
  · split
    · rfl
    · rfl
  · rfl
theorem wf_4 {c : sT} (w : wf c) {p n : Nat} (hn : n < 2 ^ c 0 1) : wf (up2 c 4 p n) := by
  obtain ⟨w0, w1, w2, w3, w4, w5, w6, w7, w8, w9, w10, w11⟩ := w
  refine ⟨w0, w1, w2, w3, w4, w5, w6, w7, fun q hq => ?_, w9, w10, w11⟩
  show up2 c 4 p n 4 q < 2 ^ c 0 1
  simp only [up2, if_true]
  split
  · exact hn
  · exact w8 q hq
theorem wf_6 {c : sT} (w : wf c) {j n : Nat} (hn : n ≤ 99) : wf (up2 c 6 j n) := by
  obtain ⟨w0, w1, w2, w3, w4, w5, w6, w7, w8, w9, w10, w11⟩ := w
  refine ⟨w0, w1, w2, w3, w4, w5, w6, w7, w8, w9, w10, fun p hp s hs => ?_⟩
  show up2 c 6 j n 6 (p * 6 + s) ≤ 99
  simp only [up2, if_true]
  split
  · exact hn
  · exact w11 p hp s hs
theorem wf_d {c : sT} (w : wf c) {n : Nat} (hn : n ≤ 2000) : wf (up2 c 0 4 n) := by
  obtain ⟨w0, w1, w2, w3, w4, w5, w6, w7, w8, w9, w10, w11⟩ := w
  exact ⟨w0, w1, w2, w3, hn, w5, w6, w7, w8, w9, w10, w11⟩
theorem or_lt' {a b n : Nat} (h : a < 2 ^ n) (g : b < n) : a ||| 2 ^ b < 2 ^ n := Nat.or_lt_two_pow h (Nat.pow_lt_pow_right (by decide) g)
theorem kg_lt {c : sT} {s n J : Nat} (h : n < 2 ^ J) (hs : s < J) : kg c s n < 2 ^ J := by
  unfold kg
  split
  · exact or_lt' h hs
  · exact h
theorem ko_lt {c : sT} {s n : Nat} (h : n < 2 ^ c 0 1) : ko c s n < 2 ^ c 0 1 := by
  unfold ko
  refine fo_inv (P := fun m => m < 2 ^ c 0 1) _ _ _ h (fun j y h1 h2 hy => ?_)
  split
  · exact hy
  · exact kg_lt hy (by omega)
theorem k1_lt {c : sT} {s h n J : Nat} (hn : n < 2 ^ J) (hs : s < J) : k1_ c s h n < 2 ^ J := by
  unfold k1_
  split
  · exact hn
  · exact or_lt' hn hs
theorem k2b_lt {n J : Nat} (hn : n < 2 ^ J) : k2_ n < 2 ^ J := by
  unfold k2_
  split
  · exact hn
  · exact Nat.lt_of_le_of_lt Nat.and_le_left hn
theorem nk_lt {c : sT} {t s h n : Nat} (hn : n < 2 ^ c 0 1) (hs : s < c 0 1) : nk c t s h n < 2 ^ c 0 1 := by
  unfold nk
  split
  · exact kg_lt hn hs
  · split
    · exact ko_lt (kg_lt hn hs)
    · split
      · split
        · exact hn
        · exact kg_lt hn hs
      · split
        · exact k2b_lt (k1_lt hn hs)
        · exact k1_lt hn hs
section SW
variable {M : mM} {k : Nat} {c : sT}
theorem s_4 (K : SK M k) {p : Nat} (hp : p < 6) (v : Int32) : stI M (k + 4) (nI p) v = some (wI M (k + 4) p v) := st_ (by have := K.2.1; omega) K.2.2.1.2.2.2.1 hp (by decide)
theorem s_6 (K : SK M k) {j : Nat} (hj : j < 36) (v : Int32) : stI M (k + 6) (nI j) v = some (wI M (k + 6) j v) := st_ (by have := K.2.1; omega) K.2.2.1.2.2.2.2.2 hj (by decide)
theorem m_lgr (K : SK M k) (w : wf c) {p s n : Nat} (hn : n < 2 ^ c 0 1) (A : SA M k (up2 c 4 p n)) (hp : p < c 0 3) (hs : s < c 0 1) : ∃ N, m_X5_learnByGrasp M k (nI p) (nI s) = some N ∧ SA N k (up2 c 4 p (kg c s n)) ∧ fr k M N := by
  have hP := w.2.2.2.1.2
  have hJ := w.2.1.2
  have w' := wf_4 w (p := p) hn
  have hn6 : n < 64 := Nat.lt_of_lt_of_le hn (p2_64 hJ)
  have e4 := a_4 K w' A (j := p) hp
  have e1 := a_1 K w' A (j := s) hs
  rw [up_s] at e4
  rw [up_o (by decide)] at e1
  simp only [m_X5_learnByGrasp, r_1 K, e1, r_4 K, e4, Option.bind_some, f_or _ hn6 s (by omega), s_4 K (show p < 6 by omega)]
  by_cases hg : grasp c s n = true
  · rw [if_pos ((g_iff (q_needs w hs) hn6).mpr hg)]
    refine ⟨_, rfl, ?_, fr_w (by decide)⟩
    have := SA_w (j := p) (v := n ||| 2 ^ s) A (by decide : 1 ≤ 4) (by decide)
    rw [up_up] at this
    simpa only [kg, hg, if_true] using this
  · rw [if_neg (fun q => hg ((g_iff (q_needs w hs) hn6).mp q))]
    refine ⟨_, rfl, ?_, fr_r k M⟩
    simpa only [kg, hg, if_false, Bool.false_eq_true] using A
theorem m_lonL (w : wf c) {p : Nat} (hp : p < c 0 3) {ρ : Type} (k0 : mM → Option ρ) : ∀ (d i n : Nat) (M : mM) (x : Nat), SK M k → x < 2 ^ c 0 1 → SA M k (up2 c 4 p x) → i + d = c 0 1 → d < n →
    ∃ N, m_X5_learnOnwards_L4 k0 k (nI p) n M (nI i) = k0 N ∧ SA N k (up2 c 4 p (fo (fun q m => if c 1 q = 0 then m else kg c q m) i d x)) ∧ fr k M N := by
  have hJ := w.2.1.2
  intro d
  induction d with
  | zero =>
    intro i n M x K hx A hi hn
    obtain ⟨n, rfl⟩ : ∃ z, n = z + 1 := ⟨n - 1, by omega⟩
    refine ⟨M, ?_, A, fr_r k M⟩
    have e := g_s K A (j := 1) (by decide)
    rw [up_o (by decide)] at e
    simp only [m_X5_learnOnwards_L4, e, Option.bind_some, if_pos (nI_le (show c 0 1 ≤ i by omega) (by omega))]
  | succ d ih =>
    intro i n M x K hx A hi hn
    obtain ⟨n, rfl⟩ : ∃ z, n = z + 1 := ⟨n - 1, by omega⟩
    have hi' : i < c 0 1 := by omega
    have hnd := q_needs w hi'
    have w' := wf_4 w (p := p) hx
    have e := g_s K A (j := 1) (by decide)
    rw [up_o (by decide)] at e
    have e1 := a_1 K w' A (j := i) hi'
    rw [up_o (by decide)] at e1
    simp only [m_X5_learnOnwards_L4, e, Option.bind_some, if_neg (nI_ge hi' (show c 0 1 < 2 ^ 31 by omega)), r_1 K, e1, K.1, if_true, nI_1]
    by_cases h0 : c 1 i = 0
    · rw [if_pos ((nI_e0 (by omega)).mpr h0)]
      obtain ⟨N, e1, e2, e3⟩ := ih (i + 1) n M x K hx A (by omega) (by omega)
      refine ⟨N, e1, ?_, e3⟩
      simpa only [fo, h0, if_true] using e2
    · rw [if_neg (fun q => h0 ((nI_e0 (by omega)).mp q))]
      obtain ⟨N1, g1, g2, g3⟩ := m_lgr K w hx A hp hi'
      rw [g1]
      simp only [Option.bind_some]
      obtain ⟨N, e1, e2, e3⟩ := ih (i + 1) n N1 (kg c i x) (K.sh g3.1) (kg_lt hx hi') g2 (by omega) (by omega)
      refine ⟨N, e1, ?_, fr_t g3 e3⟩
      simpa only [fo, h0, if_false] using e2
theorem m_lon (K : SK M k) (w : wf c) {p s x : Nat} (hx : x < 2 ^ c 0 1) (A : SA M k (up2 c 4 p x)) (hp : p < c 0 3) (hs : s < c 0 1) : ∃ N, m_X5_learnOnwards M k (nI p) (nI s) = some N ∧ SA N k (up2 c 4 p (ko c s x)) ∧ fr k M N := by
  have hJ := w.2.1.2
  unfold m_X5_learnOnwards
  rw [nI_1]
  exact m_lonL w hp _ (c 0 1 - (s + 1)) (s + 1) FU M x K hx A (by omega) (by unfold FU; omega)
/-- the snake's second step -/
theorem m_ls2 (K : SK M k) (w : wf c) {p x : Nat} (hx : x < 2 ^ c 0 1) (A : SA M k (up2 c 4 p x)) (hp : p < c 0 3) : ∃ N, (if nI (c 3 p) = (5 : Int32) then (if isO M k 5 = true then (m_X5_form M k (nI p)).bind fun v41 => if v41 ≤ (4 : Int32) then some M else (gR M k 5 8).bind fun b43 => (ldI M b43 (nI p)).bind fun v46 => (gR M k 5 8).bind fun b47 => (ldI M b47 (nI p)).bind fun v50 => (stI M b43 (nI p) (v46 &&& (v50 - (1 : Int32)))).bind fun M51 => some M51 else none) else some M) = some N ∧ SA N k (up2 c 4 p (if c 3 p = 5 then k2_ x else x)) ∧ fr k M N := by
  have hP := w.2.2.2.1.2
  have w' := wf_4 w (p := p) hx
  have hx6 : x < 64 := Nat.lt_of_lt_of_le hx (p2_64 w.2.1.2)
  have hk := w.2.2.2.2.2.2.2.1 p hp
  have e4 := a_4 K w' A (j := p) hp
  rw [up_s] at e4
  have ef := m_form K w' A (p := p) hp
  rw [up_s] at ef
  have hb := f_bcl x hx6
  by_cases h5 : c 3 p = 5
  · rw [if_pos (by rw [h5]; rfl), if_pos K.1, ef]
    simp only [Option.bind_some, r_4 K, e4, f_low x hx6, s_4 K (show p < 6 by omega), h5, if_true, k2_]
    by_cases h : bc x ≤ 4
    · rw [if_pos (show nI (bc x) ≤ (4 : Int32) from (nI_le h (by decide) : nI (bc x) ≤ nI 4))]
      refine ⟨_, rfl, ?_, fr_r k M⟩
      simpa only [h, if_true] using A
    · rw [if_neg (show ¬ nI (bc x) ≤ (4 : Int32) from (nI_ge (by omega) (by omega) : ¬ nI (bc x) ≤ nI 4))]
      refine ⟨_, rfl, ?_, fr_w (by decide)⟩
      have := SA_w (j := p) (v := x &&& (x - 1)) A (by decide : 1 ≤ 4) (by decide)
      rw [up_up] at this
      simpa only [h, if_false] using this
  · rw [if_neg (show ¬ nI (c 3 p) = (5 : Int32) from fun q => h5 ((nI_eq (by omega) (by decide)).mp (q : nI (c 3 p) = nI 5)))]
    refine ⟨_, rfl, ?_, fr_r k M⟩
    simpa only [h5, if_false] using A
theorem m_ls (K : SK M k) (w : wf c) {p s x : Nat} (hx : x < 2 ^ c 0 1) (A : SA M k (up2 c 4 p x)) (hp : p < c 0 3) (hs : s < c 0 1) : ∃ N, m_X5_learnAsSnake M k (nI p) (nI s) = some N ∧ SA N k (up2 c 4 p (if c 3 p = 5 then k2_ (k1_ c s (c 6 (p * 6 + s)) x) else k1_ c s (c 6 (p * 6 + s)) x)) ∧ fr k M N := by
  have hP := w.2.2.2.1.2
  have hJ := w.2.1.2
  have w' := wf_4 w (p := p) hx
  have hx6 : x < 64 := Nat.lt_of_lt_of_le hx (p2_64 w.2.1.2)
  have e4 := a_4 K w' A (j := p) hp
  rw [up_s] at e4
  have e3 := a_3 K w' A (j := p) hp
  rw [up_o (by decide)] at e3
  have e1 := a_1 K w' A (j := s) hs
  rw [up_o (by decide)] at e1
  have et := m_times K w' A (p := p) (s := s) hp hs
  rw [up_o (by decide)] at et
  have hh := w.2.2.2.2.2.2.2.2.2.2.2 p hp s hs
  have hb := f_bcl (c 1 s) (q_needs w hs)
  rw [m_X5_learnAsSnake, if_pos K.1, et, Option.bind_some, r_1 K, Option.bind_some, e1, Option.bind_some, f_bc (q_needs w hs), Option.bind_some]
  by_cases h : c 6 (p * 6 + s) < bc (c 1 s)
  · rw [if_pos (nI_lt h (by omega))]
    rw [r_3 K, Option.bind_some, e3, Option.bind_some]
    obtain ⟨N, g1, g2, g3⟩ := m_ls2 K w hx A hp
    exact ⟨N, g1, by simpa only [k1_, h, if_true] using g2, g3⟩
  · rw [if_neg (nI_nlt (by omega) (by omega))]
    have A2 := SA_w (j := p) (v := x ||| 2 ^ s) A (by decide : 1 ≤ 4) (by decide)
    rw [up_up] at A2
    have f2 : fr k M (wI M (k + 4) p (nI (x ||| 2 ^ s))) := fr_w (by decide)
    have K2 := K.sh f2.1
    have hx2 := or_lt' hx hs
    have w2 := wf_4 w (p := p) hx2
    have e32 := a_3 K2 w2 A2 (j := p) hp
    rw [up_o (by decide)] at e32
    rw [r_4 K, Option.bind_some, e4, Option.bind_some, f_or x hx6 s (by omega), s_4 K (show p < 6 by omega), Option.bind_some, r_3 K2, Option.bind_some, e32, Option.bind_some]
    obtain ⟨N, g1, g2, g3⟩ := m_ls2 K2 w hx2 A2 hp
    exact ⟨N, g1, by simpa only [k1_, h, if_false] using g2, fr_t f2 g3⟩
end SW
