/-! ===== acts kept and taken back; images ===== -/
section RCX
variable {f : Nat → Int32} {c : sT}
theorem RC_2 (b : c 0 1 ≤ 6 ∧ c 0 2 ≤ 8 ∧ c 0 3 ≤ 6) (R : RC_ f c) {l v : Nat} (h : l < 8) : RC_ (ff f (11 + l) (nI v)) (up2 c 2 l v) := by
  obtain ⟨⟨r0, r1, r2, r3, r4⟩, R1, R2, R3, R4, R5, R6⟩ := R
  obtain ⟨b1, b2, b3⟩ := b
  refine ⟨⟨(ff_o (by omega)).trans r0, (ff_o (by omega)).trans r1, (ff_o (by omega)).trans r2, (ff_o (by omega)).trans r3, (ff_o (by omega)).trans r4⟩, fun s hs => (ff_o ?_).trans (R1 s hs), fun q hq => ?_, fun q hq => (ff_o (by omega)).trans (R3 q hq), fun q hq => (ff_o (by omega)).trans (R4 q hq), fun q hq => (ff_o (by omega)).trans (R5 q hq), fun q hq s hs => (ff_o (by omega)).trans (R6 q hq s hs)⟩
  · have : s < c 0 1 := hs
    omega
  · by_cases e : q = l
    · subst e
      rw [ff_s, up_s]
    · rw [ff_o (by omega), up_q e]
      exact R2 q hq
theorem RC_3 (b : c 0 1 ≤ 6 ∧ c 0 2 ≤ 8 ∧ c 0 3 ≤ 6) (R : RC_ f c) {p v : Nat} : RC_ (ff f (19 + 9 * p + 0) (nI v)) (up2 c 3 p v) := by
  obtain ⟨⟨r0, r1, r2, r3, r4⟩, R1, R2, R3, R4, R5, R6⟩ := R
  obtain ⟨b1, b2, b3⟩ := b
  refine ⟨⟨(ff_o (by omega)).trans r0, (ff_o (by omega)).trans r1, (ff_o (by omega)).trans r2, (ff_o (by omega)).trans r3, (ff_o (by omega)).trans r4⟩, fun s hs => (ff_o ?_).trans (R1 s hs), fun l hl => (ff_o ?_).trans (R2 l hl), fun q hq => ?_, fun q hq => (ff_o (by omega)).trans (R4 q hq), fun q hq => (ff_o (by omega)).trans (R5 q hq), fun q hq s hs => (ff_o ?_).trans (R6 q hq s hs)⟩
  · have : s < c 0 1 := hs
    omega
  · have : l < c 0 2 := hl
    omega
  · by_cases h : q = p
    · subst h
      rw [ff_s, up_s]
    · rw [ff_o (by omega), up_q h]
      exact R3 q hq
  · have : s < c 0 1 := hs
    omega
theorem RC_7 (b : c 0 1 ≤ 6 ∧ c 0 2 ≤ 8 ∧ c 0 3 ≤ 6) (R : RC_ f c) {p v : Nat} : RC_ (ff f (19 + 9 * p + 1) (nI v)) (up2 c 7 p v) := by
  obtain ⟨⟨r0, r1, r2, r3, r4⟩, R1, R2, R3, R4, R5, R6⟩ := R
  obtain ⟨b1, b2, b3⟩ := b
  refine ⟨⟨(ff_o (by omega)).trans r0, (ff_o (by omega)).trans r1, (ff_o (by omega)).trans r2, (ff_o (by omega)).trans r3, (ff_o (by omega)).trans r4⟩, fun s hs => (ff_o ?_).trans (R1 s hs), fun l hl => (ff_o ?_).trans (R2 l hl), fun q hq => (ff_o (by omega)).trans (R3 q hq), fun q hq => ?_, fun q hq => (ff_o (by omega)).trans (R5 q hq), fun q hq s hs => (ff_o ?_).trans (R6 q hq s hs)⟩
  · have : s < c 0 1 := hs
    omega
  · have : l < c 0 2 := hl
    omega
  · by_cases h : q = p
    · subst h
      rw [ff_s, up_s]
    · rw [ff_o (by omega), up_q h]
      exact R4 q hq
  · have : s < c 0 1 := hs
    omega
theorem RC_r (R : RC_ f c) {v : Nat} : RC_ (ff f 4 (nI v)) (up2 c 0 0 v) := by
  obtain ⟨⟨r0, r1, r2, r3, r4⟩, R1, R2, R3, R4, R5, R6⟩ := R
  refine ⟨⟨(ff_o (by omega)).trans r0, (ff_o (by omega)).trans r1, (ff_o (by omega)).trans r2, (ff_o (by omega)).trans r3, ?_⟩, fun s hs => (ff_o (by omega)).trans (R1 s hs), fun l hl => (ff_o (by omega)).trans (R2 l hl), fun q hq => (ff_o (by omega)).trans (R3 q hq), fun q hq => (ff_o (by omega)).trans (R4 q hq), fun q hq => (ff_o (by omega)).trans (R5 q hq), fun q hq s hs => (ff_o (by omega)).trans (R6 q hq s hs)⟩
  rw [ff_s, up_s]
theorem RC_5 {b : Nat → Nat} (R : RC_ f c) : RC_ f (fun a => if a = 5 then b else c a) := R
theorem wf_2 (w : wf c) {l v : Nat} (hv : v < c 0 1) : wf (up2 c 2 l v) := by
  obtain ⟨w1, w2, w3, w4, w5, w6, w7, w8, w9, w10, w11, w12⟩ := w
  refine ⟨w1, w2, w3, w4, w5, w6, fun q hq => ?_, w8, w9, w10, w11, w12⟩
  show up2 c 2 l v 2 q < c 0 1
  by_cases h : q = l
  · rw [h, up_s]; exact hv
  · rw [up_q h]; exact w7 q hq
theorem wf_3 (w : wf c) {p v : Nat} (h1 : 1 ≤ v) (h5 : v ≤ 5) : wf (up2 c 3 p v) := by
  obtain ⟨w1, w2, w3, w4, w5, w6, w7, w8, w9, w10, w11, w12⟩ := w
  refine ⟨w1, w2, w3, w4, w5, w6, w7, fun q hq => ?_, w9, w10, w11, w12⟩
  show 1 ≤ up2 c 3 p v 3 q ∧ up2 c 3 p v 3 q ≤ 5
  by_cases h : q = p
  · rw [h, up_s]; exact ⟨h1, h5⟩
  · rw [up_q h]; exact w8 q hq
theorem wf_r (w : wf c) {v : Nat} (hv : v ≤ 6) : wf (up2 c 0 0 v) := by
  obtain ⟨w1, w2, w3, w4, w5, w6, w7, w8, w9, w10, w11, w12⟩ := w
  exact ⟨by rw [up_s]; exact hv, w2, w3, w4, w5, w6, w7, w8, w9, w10, w11, w12⟩
theorem wf_7 (w : wf c) {p v : Nat} : wf (up2 c 7 p v) := w
/-- two pupils change their seats -/
def chg (c : sT) (p q : Nat) : sT := up2 (up2 (sw c 5 (c 7 p) (c 7 q)) 7 p (c 7 q)) 7 q (c 7 p)
theorem chg_5 {p q t : Nat} : chg c p q 5 t = if t = c 7 q then c 5 (c 7 p) else if t = c 7 p then c 5 (c 7 q) else c 5 t := by
  unfold chg
  rw [up_o (by decide), up_o (by decide)]
  unfold sw
  by_cases h : t = c 7 q
  · rw [if_pos h, h, up_s]
  · rw [if_neg h, up_q h]
    by_cases h2 : t = c 7 p
    · rw [if_pos h2, h2, up_s]
    · rw [if_neg h2, up_q h2]
theorem chg_7 {p q t : Nat} : chg c p q 7 t = if t = q then c 7 p else if t = p then c 7 q else c 7 t := by
  unfold chg
  by_cases h : t = q
  · rw [if_pos h, h, up_s]
  · rw [if_neg h, up_q h]
    by_cases h2 : t = p
    · rw [if_pos h2, h2, up_s]
    · rw [if_neg h2, up_q h2]
      unfold sw
      rw [up_o (by decide), up_o (by decide)]
theorem chg_o {p q b : Nat} (h5 : b ≠ 5) (h7 : b ≠ 7) : chg c p q b = c b := by
  unfold chg sw
  rw [up_or h7, up_or h7, up_or h5, up_or h5]
theorem iv_chg (w : wf c) (i7 : iv c) {p q : Nat} (hp : p < c 0 3) (hq : q < c 0 3) : iv (chg c p q) := by
  have ep := i7.1 p hp
  have eq := i7.1 q hq
  have e0 : chg c p q 0 3 = c 0 3 := by rw [chg_o (by decide) (by decide)]
  have n7 : ∀ t, t < c 0 3 → t ≠ p → c 7 t ≠ c 7 p := fun t ht hn h => hn (by rw [← (i7.1 t ht).2, h, ep.2])
  have m7 : ∀ t, t < c 0 3 → t ≠ q → c 7 t ≠ c 7 q := fun t ht hn h => hn (by rw [← (i7.1 t ht).2, h, eq.2])
  refine ⟨fun t ht => ?_, fun t ht => ?_⟩
  · rw [e0] at ht ⊢
    rw [chg_7, chg_5]
    by_cases h1 : t = q
    · rw [if_pos h1]
      refine ⟨ep.1, ?_⟩
      by_cases h2 : c 7 p = c 7 q
      · rw [if_pos h2, h1, h2, eq.2]
      · rw [if_neg h2, if_pos rfl, eq.2, h1]
    · rw [if_neg h1]
      by_cases h2 : t = p
      · rw [if_pos h2, if_pos rfl]
        exact ⟨eq.1, by rw [ep.2, h2]⟩
      · rw [if_neg h2, if_neg (m7 t ht h1), if_neg (n7 t ht h2)]
        exact i7.1 t ht
  · rw [e0] at ht
    rw [chg_5, chg_7]
    by_cases h1 : t = c 7 q
    · rw [if_pos h1, ep.2]
      by_cases h2 : p = q
      · rw [if_pos h2, h1, h2]
      · rw [if_neg h2, if_pos rfl, h1]
    · rw [if_neg h1]
      by_cases h2 : t = c 7 p
      · rw [if_pos h2, eq.2, if_pos rfl, h2]
      · rw [if_neg h2]
        have t7 := i7.2 t ht
        rw [if_neg (fun h => h1 (by rw [← t7, h])), if_neg (fun h => h2 (by rw [← t7, h]))]
        exact t7
theorem wf_perm {e : sT} (i7 : iv e) (w1 : e 0 0 ≤ 6) (w2 : 1 ≤ e 0 1 ∧ e 0 1 ≤ 6) (w3 : 1 ≤ e 0 2 ∧ e 0 2 ≤ 8) (w4 : 1 ≤ e 0 3 ∧ e 0 3 ≤ 6) (w5 : e 0 4 ≤ 2000) (w6 : ∀ s, s < e 0 1 → e 1 s < 2 ^ s) (w7 : ∀ l, l < e 0 2 → e 2 l < e 0 1) (w8 : ∀ p, p < e 0 3 → 1 ≤ e 3 p ∧ e 3 p ≤ 5) (w9 : ∀ p, p < e 0 3 → e 4 p < 2 ^ e 0 1) (w10 : ∀ t, t < e 0 3 → e 5 t < e 0 3) (w12 : ∀ p, p < e 0 3 → ∀ s, s < e 0 1 → e 6 (p * 6 + s) ≤ 99) : wf e :=
  ⟨w1, w2, w3, w4, w5, w6, w7, w8, w9, w10, fun t u ht hu h => by rw [← i7.2 t ht, h, i7.2 u hu], w12⟩
theorem wf_chg (w : wf c) (i7 : iv c) {p q : Nat} (hp : p < c 0 3) (hq : q < c 0 3) : wf (chg c p q) := by
  have iv' := iv_chg w i7 hp hq
  have ep := i7.1 p hp
  have eq := i7.1 q hq
  obtain ⟨w1, w2, w3, w4, w5, w6, w7, w8, w9, w10, w11, w12⟩ := w
  have e : ∀ b, b ≠ 5 → b ≠ 7 → chg c p q b = c b := fun b h1 h2 => chg_o h1 h2
  refine wf_perm iv' ?_ ?_ ?_ ?_ ?_ ?_ ?_ ?_ ?_ ?_ ?_
  all_goals simp only [e 0 (by decide) (by decide), e 1 (by decide) (by decide), e 2 (by decide) (by decide), e 3 (by decide) (by decide), e 4 (by decide) (by decide), e 6 (by decide) (by decide)]
  · exact w1
  · exact w2
  · exact w3
  · exact w4
  · exact w5
  · exact w6
  · exact w7
  · exact w8
  · exact w9
  · intro t ht
    rw [chg_5]
    split
    · exact w10 _ ep.1
    · split
      · exact w10 _ eq.1
      · exact w10 t ht
  · exact w12
end RCX
theorem cpy_s {g f0 : Nat → Int32} {so d k : Nat} : va_cpy g f0 so d (k + 1) = ff (va_cpy g f0 so d k) (d + k) (g (so + k)) := by
  funext q
  unfold va_cpy ff
  by_cases h : q = d + k
  · rw [if_pos h, if_pos (by omega), h]
    congr 1
    omega
  · rw [if_neg h]
    show (if d ≤ q ∧ q < d + (k + 1) then g (so + (q - d)) else f0 q) = (if d ≤ q ∧ q < d + k then g (so + (q - d)) else f0 q)
    by_cases h2 : d ≤ q ∧ q < d + k
    · rw [if_pos h2, if_pos (by omega)]
    · rw [if_neg h2, if_neg (by omega)]
theorem cpy_0 {g f0 : Nat → Int32} {so d : Nat} : va_cpy g f0 so d 0 = f0 := by
  funext q
  unfold va_cpy
  rw [if_neg (by omega)]
theorem c73 (k i : Nat) : (73 : Int32) * nI k + nI i = nI (73 * k + i) := by rw [show (73 : Int32) = nI 73 from rfl, pk_mul, nI_add]
section KP
variable {M : mM} {A : aS}
theorem R7w (G : GS M) : gR M 231 7 8 = some 238 := gR_ (O7 G) (G.r (by decide +kernel))
theorem A7w (G : GS M) : 238 < mz M ∧ mk_ M 238 = (1, 1752) := G.a (by decide) (by decide +kernel)
theorem R7k (G : GS M) : gR M 231 7 23 = some 244 := gR_ (O7 G) (G.r (by decide +kernel))
theorem A7k (G : GS M) : 244 < mz M ∧ mk_ M 244 = (1, 146) := G.a (by decide) (by decide +kernel)
theorem R7i (G : GS M) : gR M 231 7 22 = some 243 := gR_ (O7 G) (G.r (by decide +kernel))
theorem Z7i (G : GS M) : 243 < mz M ∧ mk_ M 243 = (2, 2) := ⟨by rw [G.1]; decide, G.k (by decide) (by decide +kernel)⟩
theorem m_keL {a : Nat} {g f0 : Nat → Int32} (ha : a < 24) {ρ : Type} (k0 : mM → Option ρ) : ∀ (d k n : Nat) (M : mM), GS M → mi_ M 231 9 = nI a → mi_ M 235 = g → mi_ M 238 = va_cpy g f0 0 (73 * a) k → k + d = 73 → d < n → ∃ N, m_X7_keep_L51 k0 231 n M (nI k) = k0 N ∧ f1_ 238 M N ∧ mi_ N 238 = va_cpy g f0 0 (73 * a) 73 := by
  intro d
  induction d with
  | zero =>
    intro k n M G e1 e2 e3 hk hn
    obtain ⟨n, rfl⟩ : ∃ z, n = z + 1 := ⟨n - 1, by omega⟩
    have : k = 73 := by omega
    subst this
    exact ⟨M, by rw [m_X7_keep_L51, if_pos (by decide)], f1_r _ _, e3⟩
  | succ d ih =>
    intro k n M G e1 e2 e3 hk hn
    obtain ⟨n, rfl⟩ : ∃ z, n = z + 1 := ⟨n - 1, by omega⟩
    obtain ⟨N, r1, r2, r3⟩ := ih (k + 1) n (wI M 238 (73 * a + k) (g k)) (GS_w G) (by rw [wI_o (by decide)]; exact e1) (by rw [wI_o (by decide)]; exact e2) (by rw [wI_a, e3, cpy_s, Nat.zero_add]) (by omega) (by omega)
    refine ⟨N, ?_, f1_t f1_w r2, r3⟩
    rw [m_X7_keep_L51, if_neg (show ¬ (73 : Int32) ≤ nI k from (nI_ge (by omega) (by decide) : ¬ nI 73 ≤ nI k)), R7w G, Option.bind_some, gI_ (O7 G), Option.bind_some, R7s G, Option.bind_some, ld_ (A7s G).1 (A7s G).2 (by omega) (by decide), Option.bind_some, e1, c73, st_ (A7w G).1 (A7w G).2 (by omega) (by decide), Option.bind_some, e2, nI_1]
    exact r1
theorem m_ksL {f0 : Nat → Int32} {ρ : Type} (k0 : mM → Option ρ) : ∀ (d k n : Nat) (M : mM), GS M → mi_ M 238 = va_cpy f0 f0 73 0 k → k + d = 1679 → d < n → ∃ N, m_X7_keep_L11 k0 231 n M (nI k) = k0 N ∧ f1_ 238 M N ∧ mi_ N 238 = va_cpy f0 f0 73 0 1679 := by
  intro d
  induction d with
  | zero =>
    intro k n M G e3 hk hn
    obtain ⟨n, rfl⟩ : ∃ z, n = z + 1 := ⟨n - 1, by omega⟩
    have : k = 1679 := by omega
    subst this
    exact ⟨M, by rw [m_X7_keep_L11, if_pos (show (1679 : Int32) ≤ nI 1679 from (nI_le (by omega) (by decide) : nI 1679 ≤ nI 1679))], f1_r _ _, e3⟩
  | succ d ih =>
    intro k n M G e3 hk hn
    obtain ⟨n, rfl⟩ : ∃ z, n = z + 1 := ⟨n - 1, by omega⟩
    have hr : mi_ M 238 (k + 73) = f0 (73 + k) := by
      rw [e3]
      unfold va_cpy
      rw [if_neg (by omega), Nat.add_comm]
    obtain ⟨N, r1, r2, r3⟩ := ih (k + 1) n (wI M 238 k (f0 (73 + k))) (GS_w G) (by rw [wI_a, e3, cpy_s, Nat.zero_add]) (by omega) (by omega)
    refine ⟨N, ?_, f1_t f1_w r2, r3⟩
    rw [m_X7_keep_L11, if_neg (show ¬ (1679 : Int32) ≤ nI k from (nI_ge (by omega) (by decide) : ¬ nI 1679 ≤ nI k)), R7w G, Option.bind_some, Option.bind_some, show nI k + (73 : Int32) = nI (k + 73) from nI_add k 73, ld_ (A7w G).1 (A7w G).2 (by omega) (by decide), Option.bind_some, hr, st_ (A7w G).1 (A7w G).2 (by omega) (by decide), Option.bind_some, nI_1]
    exact r1
/-- an act kept -/
def ka_ (k : Nat × (Nat → sT)) (c : sT) : Nat × (Nat → sT) := (if 24 ≤ k.1 then k.1 else k.1 + 1, fun j => if j = 0 then c else k.2 (j - 1))
theorem keepM (G : GS M) (h : CM A M) (w : wf (aN A)) (i7 : iv (aN A)) (hd : aN A 0 4 ≤ 999) : ∃ N, m_X7_keep M 231 = some N ∧ GS N ∧ CM (sK A (ka_ (aK A) (aN A))) N ∧ lo_ M N := by
  obtain ⟨a1, a2, a3⟩ := h.2.2.1
  have R := h.1.1
  have b := wf_b w
  by_cases hf : 24 ≤ (aK A).1
  · have h24 : (aK A).1 = 24 := by omega
    obtain ⟨N, r1, r2, r3⟩ := m_ksL (f0 := mi_ M 238) (fun M29 => (gI M29 231 7 9).bind fun v30 => (pI M29 231 7 9 (v30 - (1 : Int32))).bind fun M32 => m_X7_keep_L51 (fun M34 => (gI M34 231 7 9).bind fun v35 => (pI M34 231 7 9 (v35 + (1 : Int32))).bind fun M37 => some M37) 231 FU M32 (0 : Int32)) 1679 0 FU M G cpy_0.symm (by decide) (by decide)
    have GN : GS N := G.sh r2.1
    have GN2 : GS (wI N 231 9 (nI 23)) := GS_w GN
    obtain ⟨K, s1, s2, s3⟩ := m_keL (a := 23) (g := mi_ M 235) (f0 := mi_ N 238) (by decide) (fun M34 => (gI M34 231 7 9).bind fun v35 => (pI M34 231 7 9 (v35 + (1 : Int32))).bind fun M37 => some M37) 73 0 FU (wI N 231 9 (nI 23)) GN2 (by rw [wI_s, if_pos rfl]) (by rw [wI_o (by decide), r2.2 _ (by decide)]) (by rw [wI_o (by decide), cpy_0]) (by decide) (by decide)
    have GK : GS K := GN2.sh s2.1
    have e9 : mi_ K 231 9 = nI 23 := by rw [s2.2 231 (by decide), wI_s, if_pos rfl]
    have ov : ∀ q, q ≠ 231 → q ≠ 238 → mi_ (wI K 231 9 (nI 24)) q = mi_ M q := fun q h1 h2 => by rw [wI_o h1, s2.2 q h2, wI_o h1, r2.2 q h2]
    refine ⟨wI K 231 9 (nI 24), ?_, GS_w GK, ?_, fun q hq => ov q (by omega) (by omega)⟩
    · rw [m_X7_keep, gI_ (O7 G), Option.bind_some, a2, h24, if_pos (by decide)]
      refine Eq.trans r1 ?_
      show ((gI N 231 7 9).bind fun v30 => (pI N 231 7 9 (v30 - (1 : Int32))).bind fun M32 => m_X7_keep_L51 (fun M34 => (gI M34 231 7 9).bind fun v35 => (pI M34 231 7 9 (v35 + (1 : Int32))).bind fun M37 => some M37) 231 FU M32 (0 : Int32)) = _
      rw [gI_ (O7 GN), Option.bind_some, r2.2 231 (by decide), a2, h24, pI_ (O7 GN), Option.bind_some, show nI 24 - (1 : Int32) = nI 23 from rfl]
      refine Eq.trans s1 ?_
      show ((gI K 231 7 9).bind fun v35 => (pI K 231 7 9 (v35 + (1 : Int32))).bind fun M37 => some M37) = _
      rw [gI_ (O7 GK), Option.bind_some, e9, pI_ (O7 GK), Option.bind_some]
      rfl
    · refine CMa h (fun q _ q1 q2 => ov q q1 q2) (fun q hq => by rw [wI_s, if_neg hq, s2.2 231 (by decide), wI_s, if_neg hq, r2.2 231 (by decide)]) ?_
      have ek : (ka_ (aK A) (aN A)).1 = 24 := by show (if 24 ≤ (aK A).1 then (aK A).1 else (aK A).1 + 1) = 24; rw [if_pos hf, h24]
      rw [ek]
      refine ⟨by decide, by rw [wI_s, if_pos rfl], fun j hj => ?_⟩
      rw [wI_o (show 238 ≠ 231 by decide), s3]
      show RC_ _ (if j = 0 then aN A else (aK A).2 (j - 1)) ∧ wf (if j = 0 then aN A else (aK A).2 (j - 1)) ∧ iv (if j = 0 then aN A else (aK A).2 (j - 1)) ∧ (if j = 0 then aN A else (aK A).2 (j - 1)) 0 4 ≤ 999
      by_cases hj0 : j = 0
      · rw [if_pos hj0]
        refine ⟨RC_cg b (fun q hq => ?_) R, w, i7, hd⟩
        unfold va_cpy
        rw [if_pos (by omega)]
        exact congrArg _ (by omega)
      · rw [if_neg hj0]
        have y := a3 (j - 1) (by omega)
        refine ⟨RC_cg (wf_b y.2.1) (fun q hq => ?_) y.1, y.2⟩
        show va_cpy _ _ _ _ _ _ = _
        unfold va_cpy
        rw [if_neg (by omega), r3]
        unfold va_cpy
        rw [if_pos (by omega)]
        exact congrArg _ (by omega)
  · obtain ⟨K, s1, s2, s3⟩ := m_keL (a := (aK A).1) (g := mi_ M 235) (f0 := mi_ M 238) (by omega) (fun M34 => (gI M34 231 7 9).bind fun v35 => (pI M34 231 7 9 (v35 + (1 : Int32))).bind fun M37 => some M37) 73 0 FU M G a2 rfl cpy_0.symm (by decide) (by decide)
    have GK : GS K := G.sh s2.1
    have e9 : mi_ K 231 9 = nI (aK A).1 := by rw [s2.2 231 (by decide)]; exact a2
    have ov : ∀ q, q ≠ 231 → q ≠ 238 → mi_ (wI K 231 9 (nI ((aK A).1 + 1))) q = mi_ M q := fun q h1 h2 => by rw [wI_o h1, s2.2 q h2]
    refine ⟨wI K 231 9 (nI ((aK A).1 + 1)), ?_, GS_w GK, ?_, fun q hq => ov q (by omega) (by omega)⟩
    · rw [m_X7_keep, gI_ (O7 G), Option.bind_some, a2, if_neg (show ¬ nI (aK A).1 = (24 : Int32) from (ne_lit (by omega) (by decide) (by omega) : ¬ _ = nI 24))]
      refine Eq.trans s1 ?_
      show ((gI K 231 7 9).bind fun v35 => (pI K 231 7 9 (v35 + (1 : Int32))).bind fun M37 => some M37) = _
      rw [gI_ (O7 GK), Option.bind_some, e9, pI_ (O7 GK), Option.bind_some, nI_1]
    · refine CMa h (fun q _ q1 q2 => ov q q1 q2) (fun q hq => by rw [wI_s, if_neg hq, s2.2 231 (by decide)]) ?_
      have ek : (ka_ (aK A) (aN A)).1 = (aK A).1 + 1 := by show (if 24 ≤ (aK A).1 then (aK A).1 else (aK A).1 + 1) = _; rw [if_neg hf]
      rw [ek]
      refine ⟨by omega, by rw [wI_s, if_pos rfl], fun j hj => ?_⟩
      rw [wI_o (show 238 ≠ 231 by decide), s3]
      show RC_ _ (if j = 0 then aN A else (aK A).2 (j - 1)) ∧ wf (if j = 0 then aN A else (aK A).2 (j - 1)) ∧ iv (if j = 0 then aN A else (aK A).2 (j - 1)) ∧ (if j = 0 then aN A else (aK A).2 (j - 1)) 0 4 ≤ 999
      by_cases hj0 : j = 0
      · rw [if_pos hj0]
        refine ⟨RC_cg b (fun q hq => ?_) R, w, i7, hd⟩
        unfold va_cpy
        rw [if_pos (by omega)]
        exact congrArg _ (by omega)
      · rw [if_neg hj0]
        have y := a3 (j - 1) (by omega)
        refine ⟨RC_cg (wf_b y.2.1) (fun q hq => ?_) y.1, y.2⟩
        show va_cpy _ _ _ _ _ _ = _
        unfold va_cpy
        rw [if_neg (by omega)]
        exact congrArg _ (by omega)
theorem actR (G : GS M) {i : Nat} (hi : i < 24) : ldR M 11 4 (nI i) = some (12 + 7 * i) := ldR_ (by rw [G.1]; decide) (G.k (by decide) (by decide +kernel) : mk_ M 11 = (4, 24)) hi (by decide) (G.r (sk_acts i hi).2)
theorem actS (G : GS M) {i : Nat} (hi : i < 24) : SK M (12 + 7 * i) := G.s (sk_acts i hi).1
theorem actO (G : GS M) : isO M 10 0 = true := G.o (by decide) (by decide +kernel)
theorem actB (G : GS M) : gR M 10 0 0 = some 11 := gR_ (actO G) (G.r (by decide +kernel))
theorem keepX (G : GS M) (h : CX A M) (w : wf (aN A)) (i7 : iv (aN A)) (hd : aN A 0 4 ≤ 999) : ∃ N, m_X0_keep M 10 2 = some N ∧ GS N ∧ CX (sK A (ka_ (aK A) (aN A))) N ∧ hi_ M N := by
  obtain ⟨a1, lt, l1, l2, l3, l4⟩ := h.2.2.1
  have hlt : (lt + 1) % 24 < 24 := Nat.mod_lt _ (by decide)
  have G1 : GS (wI M 10 1 (nI ((lt + 1) % 24))) := GS_w G
  have hn : SA (wI M 10 1 (nI ((lt + 1) % 24))) 2 (aN A) := h.1.1.o (fun a ha => wI_o (by omega))
  obtain ⟨N, n1, n2, n3⟩ := m_be (c := aN A) (actS G1 hlt) (Sn G1) (Or.inr (by omega)) (wf_b w) hn
  have GN : GS N := G1.sh n3.1
  have e10 : mi_ N 10 = mi_ (wI M 10 1 (nI ((lt + 1) % 24))) 10 := n3.2 10 (by omega)
  have er : rm_ (nI lt + (1 : Int32)) (24 : Int32) = nI ((lt + 1) % 24) := by
    rw [nI_1]
    exact pk_rem (by omega) (by decide) (by decide)
  have ek : (ka_ (aK A) (aN A)).1 = if 24 ≤ (aK A).1 then (aK A).1 else (aK A).1 + 1 := rfl
  have pre : ∀ K, (∀ q, q ≠ 10 → mi_ K q = mi_ N q) → mi_ K 10 1 = nI ((lt + 1) % 24) → mi_ K 10 2 = nI (ka_ (aK A) (aN A)).1 → CX (sK A (ka_ (aK A) (aN A))) K := by
    intro K k1 k2 k3
    refine CXa h (fun q _ hq => by rw [k1 q (by omega), n3.2 q (by omega), wI_o (by omega)]) ⟨by rw [ek]; split <;> omega, (lt + 1) % 24, hlt, k2, k3, fun j hj => ?_⟩
    rw [ek] at hj
    show SA K _ (if j = 0 then aN A else (aK A).2 (j - 1)) ∧ wf (if j = 0 then aN A else (aK A).2 (j - 1)) ∧ iv (if j = 0 then aN A else (aK A).2 (j - 1)) ∧ (if j = 0 then aN A else (aK A).2 (j - 1)) 0 4 ≤ 999
    by_cases hj0 : j = 0
    · rw [if_pos hj0, hj0, show ((lt + 1) % 24 + 24 - 0) % 24 = (lt + 1) % 24 by omega]
      exact ⟨n2.o (fun a ha => k1 _ (by omega)), w, i7, hd⟩
    · rw [if_neg hj0]
      have hjk : j - 1 < (aK A).1 ∧ j < 24 := by split at hj <;> omega
      have y := l4 (j - 1) hjk.1
      rw [show ((lt + 1) % 24 + 24 - j) % 24 = (lt + 24 - (j - 1)) % 24 by omega]
      have hx : (lt + 24 - (j - 1)) % 24 < 24 := Nat.mod_lt _ (by decide)
      refine ⟨y.1.o (fun a ha => ?_), y.2⟩
      rw [k1 _ (by omega), n3.2 _ (by omega), wI_o (by omega)]
  by_cases hf : 24 ≤ (aK A).1
  · have h24 : (aK A).1 = 24 := by omega
    refine ⟨N, ?_, GN, pre N (fun _ _ => rfl) (by rw [e10, wI_s, if_pos rfl]) (by rw [e10, wI_s, if_neg (by decide), ek, if_pos hf]; exact l3), fun q hq => by rw [n3.2 q (by omega), wI_o (by omega)]⟩
    rw [m_X0_keep, gI_ (actO G), Option.bind_some, l2, er, pI_ (actO G), Option.bind_some, actB G1, Option.bind_some, gI_ (actO G1), Option.bind_some, wI_s, if_pos rfl, actR G1 hlt, Option.bind_some, if_pos (actS G1 hlt).1, n1, Option.bind_some, gI_ (actO GN), Option.bind_some, e10, wI_s, if_neg (show ¬ (2 = 1) by decide), l3, if_pos (show (24 : Int32) ≤ nI (aK A).1 from (nI_le hf (by omega) : nI 24 ≤ _))]
  · refine ⟨wI N 10 2 (nI ((aK A).1 + 1)), ?_, GS_w GN, pre _ (fun q hq => wI_o hq) (by rw [wI_s, if_neg (by decide), e10, wI_s, if_pos rfl]) (by rw [wI_s, if_pos rfl, ek, if_neg hf]), fun q hq => by rw [wI_o (by omega), n3.2 q (by omega), wI_o (by omega)]⟩
    rw [m_X0_keep, gI_ (actO G), Option.bind_some, l2, er, pI_ (actO G), Option.bind_some, actB G1, Option.bind_some, gI_ (actO G1), Option.bind_some, wI_s, if_pos rfl, actR G1 hlt, Option.bind_some, if_pos (actS G1 hlt).1, n1, Option.bind_some, gI_ (actO GN), Option.bind_some, e10, wI_s, if_neg (show ¬ (2 = 1) by decide), l3, if_neg (show ¬ (24 : Int32) ≤ nI (aK A).1 from (nI_ge (by omega) (by decide) : ¬ nI 24 ≤ _)), Option.bind_some, pI_ (actO GN), Option.bind_some, nI_1]
end KP
