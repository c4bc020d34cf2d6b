/-! ===== seating: the component's side ===== -/
theorem nI_or (a b : Nat) : nI a ||| nI b = nI (a ||| b) := by
  apply Int32.toBitVec_inj.mp
  show BitVec.ofNat 32 a ||| BitVec.ofNat 32 b = BitVec.ofNat 32 (a ||| b)
  rw [BitVec.ofNat_or]
theorem f_shl12 : ∀ s, s < 12 → (1 : Int32) <<< (nI s &&& 31) = nI (2 ^ s) := by decide +kernel
theorem f_m12 : ∀ s, s < 12 → (((-1 : Int32) >>> (nI s &&& 31)) &&& (1 : Int32)) = 1 := by decide +kernel
theorem f_s12 : ∀ s, s < 12 → ((nI s &&& 31).toBitVec.smod 32).toNat = s := by decide +kernel
theorem f_b12 {k s : Nat} (hk : k < 2 ^ 31) (hs : s < 12) : ((nI k >>> (nI s &&& 31)) &&& (1 : Int32)) = b2 (k.testBit s) := by
  rw [pk_shrN hk _ s (f_s12 s hs), pk_andN (m := 1) (Nat.lt_of_le_of_lt (Nat.div_le_self _ _) (by omega)) 1 (by decide), Nat.testBit_eq_decide_div_mod_eq]
  have := Nat.mod_lt (k / 2 ^ s) (show 0 < 2 by decide)
  rcases (show k / 2 ^ s % 2 = 0 ∨ k / 2 ^ s % 2 = 1 by omega) with h | h
  · rw [show k / 2 ^ s % 2 ^ 1 = 0 from h]
    rfl
  · rw [show k / 2 ^ s % 2 ^ 1 = 1 from h]
    rfl
theorem kb_bit (Q : Nat → Bool) : ∀ (d i x j : Nat), (fo (fun d x => if Q d then x ||| 2 ^ d else x) i d x).testBit j = (x.testBit j || (decide (i ≤ j) && decide (j < i + d) && Q j))
  | 0, i, x, j => by
    show x.testBit j = _
    by_cases h : i ≤ j
    · rw [show decide (j < i + 0) = false from decide_eq_false (by omega)]
      simp
    · simp [h]
  | d + 1, i, x, j => by
    show (fo _ (i + 1) d (if Q i then x ||| 2 ^ i else x)).testBit j = _
    rw [kb_bit Q d (i + 1)]
    by_cases hij : i = j
    · subst hij
      cases hq : Q i
      · simp
      · simp [Nat.testBit_or, Nat.testBit_two_pow_self]
    · have h1 : (if Q i then x ||| 2 ^ i else x).testBit j = x.testBit j := by
        split
        · rw [Nat.testBit_or, Nat.testBit_two_pow_of_ne hij, Bool.or_false]
        · rfl
      rw [h1, show decide (i + 1 ≤ j) = decide (i ≤ j) from decide_eq_decide.mpr (by omega), show decide (j < i + 1 + d) = decide (j < i + (d + 1)) from decide_eq_decide.mpr (by omega)]
def kq_ (c : sT) (p : Nat) (h : Nat → Bool) (d : Nat) : Bool := ((pj_ c p h d).1).testBit (taught c (c 0 4 + d))
def kb_ (c : sT) (p : Nat) (h : Nat → Bool) (i d x : Nat) : Nat := fo (fun d x => if kq_ c p h d then x ||| 2 ^ d else x) i d x
theorem kb_lt {c : sT} {p : Nat} {h : Nat → Bool} : ∀ (d i x : Nat), x < 2 ^ i → kb_ c p h i d x < 2 ^ (i + d)
  | 0, i, x, hx => hx
  | d + 1, i, x, hx => by
    have : kb_ c p h i (d + 1) x = kb_ c p h (i + 1) d (if kq_ c p h i then x ||| 2 ^ i else x) := rfl
    rw [this, show i + (d + 1) = (i + 1) + d by omega]
    refine kb_lt d (i + 1) _ ?_
    have h2 : x < 2 ^ (i + 1) := Nat.lt_of_lt_of_le hx (Nat.pow_le_pow_right (by decide) (by omega))
    split
    · exact or_lt' h2 (by omega)
    · exact h2
def EO_ (c e : sT) : Prop := ∀ b, b ≠ 4 → b ≠ 6 → e b = c b
theorem EO_h {c e : sT} (h : EO_ c e) (p s : Nat) : EO_ c (hear1 e p s) := fun b h4 h6 => by
  rw [← h b h4 h6]
  funext q
  exact hear_o (fun z => h4 z.1) (fun z => h6 z.1)
theorem pj_t {c : sT} {p d : Nat} {h : Nat → Bool} (hh : h d = true) : pj_ c p h (d + 1) = st1_ c p (taught c (c 0 4 + d)) (pj_ c p h d) := by
  show (if h d then _ else _) = _
  rw [hh, if_pos rfl]
theorem pj_f {c : sT} {p d : Nat} {h : Nat → Bool} (hh : h d = false) : pj_ c p h (d + 1) = pj_ c p h d := by
  show (if h d then _ else _) = _
  rw [hh, if_neg (by decide)]
def bp_ (c e : sT) (p : Nat) : sT := fun b q => if b = 6 then (if p * 6 ≤ q ∧ q < p * 6 + 6 then c 6 q else e 6 q) else up2 e 4 p (c 4 p) b q
section GT
variable {M : mM} {c e : sT} {p n : Nat} {h : Nat → Bool}
theorem SA_6' {N : mM} {k : Nat} {e' : sT} (A : SA M k e) (h : ∀ a, a ≤ 5 → mi_ N (k + a) = mi_ M (k + a)) (he : ∀ b, b ≠ 6 → e' b = e b) (h6 : ∀ p, p < e 0 3 → ∀ s, s < e 0 1 → mi_ N (k + 6) (p * 6 + s) = nI (e' 6 (p * 6 + s))) : SA N k e' := by
  have h0 := h 0 (by decide)
  rw [Nat.add_zero] at h0
  obtain ⟨A0, A1, A2, A3, A4, A5, A6⟩ := A
  unfold SA
  rw [h0, h 1 (by decide), h 2 (by decide), h 3 (by decide), h 4 (by decide), h 5 (by decide), he 0 (by decide), he 1 (by decide), he 2 (by decide), he 3 (by decide), he 4 (by decide), he 5 (by decide)]
  exact ⟨A0, A1, A2, A3, A4, A5, h6⟩
theorem bp_o {b : Nat} (h4 : b ≠ 4) (h6 : b ≠ 6) : bp_ c e p b = e b := by
  funext q
  simp only [bp_, if_neg h6]
  exact up_o h4
theorem m_bp (G : GS M) (w : wf c) (A2 : SA M 2 c) (A : SA M 190 e) (we : wf e) (eo : EO_ c e) (hp : p < c 0 3) : ∃ N, m_X5_becomePupil M 190 2 (nI p) = some N ∧ SA N 190 (bp_ c e p) ∧ fr 190 M N ∧ wf (bp_ c e p) ∧ EO_ c (bp_ c e p) ∧ isP_ c (bp_ c e p) p (pj_ c p h 0) := by
  have hP := w.2.2.2.1.2
  have hJ := w.2.1.2
  have e0 : e 0 = c 0 := eo 0 (by decide) (by decide)
  have K := Sw G
  have f1 : fr 190 M (wI M (190 + 4) p (nI (c 4 p))) := fr_w (by decide)
  have G1 : GS (wI M (190 + 4) p (nI (c 4 p))) := G.sh f1.1
  have A1 := SA_w (j := p) (v := c 4 p) A (show 1 ≤ 4 by decide) (by decide)
  have A21 : SA (wI M (190 + 4) p (nI (c 4 p))) 2 c := A2.f f1 (by decide)
  have hs := s_4 K (show p < 6 by omega) (nI (c 4 p))
  have hc6 := cp_ (M := wI M (190 + 4) p (nI (c 4 p))) (a := 2 + 6) (b := 190 + 6) (i := p * 6) (j := p * 6) (n := 6) (by have := (Sn G1).2.1; omega) (Sn G1).2.2.1.2.2.2.2.2 (by have := (Sw G1).2.1; omega) (Sw G1).2.2.1.2.2.2.2.2 (by omega) (by omega) (by decide) (by decide)
  refine ⟨wC (wI M (190 + 4) p (nI (c 4 p))) (2 + 6) (190 + 6) (p * 6) (p * 6) 6, ?_, ?_, ?_, ?_, ?_, ?_, fun s hs => ?_⟩
  · rw [m_X5_becomePupil, r_4 K, Option.bind_some, r_4 (Sn G), Option.bind_some, a_4 (Sn G) w A2 hp, Option.bind_some, hs, Option.bind_some, r_6 (Sn G1), Option.bind_some, r_6 (Sw G1), Option.bind_some, show (6 : Int32) = nI 6 from rfl, pk_mul, hc6, Option.bind_some]
  · refine SA_6' A1 (fun a ha => wC_o (by omega)) (fun b hb => ?_) (fun q hq s hs => ?_)
    · funext z
      simp only [bp_, if_neg hb]
    · have hq' : q < c 0 3 := by rw [← e0]; exact hq
      have hs' : s < c 0 1 := by rw [← e0]; exact hs
      rw [wC_s]
      simp only [bp_, if_true]
      by_cases hqp : q = p
      · rw [pk_cpy_in (by omega) (by omega), if_pos (by omega), hqp, show p * 6 + (p * 6 + s - p * 6) = p * 6 + s by omega]
        exact A21.2.2.2.2.2.2 p hp s hs'
      · rw [pk_cpy_out (by omega), if_neg (by omega)]
        have := A1.2.2.2.2.2.2 q hq s hs
        rw [up_o (show (6 : Nat) ≠ 4 by decide)] at this
        exact this
  · exact fr_t f1 ⟨sh_c _ _ _ _ _ _, fun b hb => wC_o (by omega)⟩
  · have w4 := wf_4 we (p := p) (n := c 4 p) (by rw [e0]; exact w.2.2.2.2.2.2.2.2.1 p hp)
    obtain ⟨w0, w1, w2, w3, w4, w5, w6, w7, w8, w9, w10, w11⟩ := w4
    refine ⟨w0, w1, w2, w3, w4, w5, w6, w7, w8, w9, w10, fun q hq s hs => ?_⟩
    show bp_ c e p 6 (q * 6 + s) ≤ 99
    have hq' : q < c 0 3 := by rw [← e0]; exact hq
    have hs' : s < c 0 1 := by rw [← e0]; exact hs
    simp only [bp_, if_true]
    split
    · rename_i hr
      have : q = p := by omega
      rw [this]
      exact w.2.2.2.2.2.2.2.2.2.2.2 p hp s hs'
    · exact we.2.2.2.2.2.2.2.2.2.2.2 q hq s hs
  · exact fun b h4 h6 => (bp_o h4 h6).trans (eo b h4 h6)
  · show up2 e 4 p (c 4 p) 4 p = c 4 p
    exact up_s
  · have hs' : s < c 0 1 := hs
    show bp_ c e p 6 (p * 6 + s) = c 6 (p * 6 + s)
    simp only [bp_, if_true]
    rw [if_pos (by omega)]
theorem m_gtL (w : wf c) (hp : p < c 0 3) (hn : n ≤ 12) (hd : c 0 4 ≤ 999) {x2 : Int32} (hx : ∀ d, d < n → ((x2 >>> (nI d &&& 31)) &&& (1 : Int32)) = b2 (h d)) {ρ : Type} (k0 : mM → Int32 → Option ρ) : ∀ (d i m : Nat) (M : mM) (e : sT) (x : Nat), GS M → mr_ M 189 1 = some 2 → SA M 2 c → mi_ M 189 2 = nI n → SA M 190 e → wf e → EO_ c e → isP_ c e p (pj_ c p h i) → i + d = n → d < m →
    ∃ N e', m_X2_goThrough_L17 k0 189 (nI p) x2 m M (nI x) (nI i) = k0 N (nI (kb_ c p h i d x)) ∧ SA N 190 e' ∧ wf e' ∧ EO_ c e' ∧ isP_ c e' p (pj_ c p h n) ∧ fr 190 M N := by
  intro d
  induction d with
  | zero =>
    intro i m M e x G r1 A2 f2 A we eo ip hi hm
    obtain ⟨m, rfl⟩ : ∃ z, m = z + 1 := ⟨m - 1, by omega⟩
    have hin : i = n := by omega
    subst hin
    refine ⟨M, e, ?_, A, we, eo, ip, fr_r _ _⟩
    rw [m_X2_goThrough_L17, gI_ (FO G), Option.bind_some, f2, if_pos (nI_le (Nat.le_refl _) (by omega))]
    rfl
  | succ d ih =>
    intro i m M e x G r1 A2 f2 A we eo ip hi hm
    obtain ⟨m, rfl⟩ : ∃ z, m = z + 1 := ⟨m - 1, by omega⟩
    have e0 : e 0 = c 0 := eo 0 (by decide) (by decide)
    have hs := tau_lt w (c 0 4 + i)
    have et : taught e (c 0 4 + i) = taught c (c 0 4 + i) := by
      unfold taught
      rw [eo 2 (by decide) (by decide), e0]
    have ht := m_taught (Sw G) we A (d := c 0 4 + i) (by omega)
    rw [et] at ht
    have hpe : p < e 0 3 := by rw [e0]; exact hp
    have hse : taught c (c 0 4 + i) < e 0 1 := by rw [e0]; exact hs
    have hk := m_knows (Sw G) we A hpe hse
    rw [ip.1] at hk
    obtain ⟨N1, a1, a2, a3⟩ := m_hear (Sw G) we A hpe hse
    have G1 : GS N1 := G.sh a3.1
    have o1 : mi_ N1 189 = mi_ M 189 := a3.2 189 (by decide)
    have r1' : mr_ N1 189 1 = some 2 := by rw [a3.1.2.2]; exact r1
    have hxi := hx i (by omega)
    have hor : (nI x ||| ((1 : Int32) <<< (nI i &&& 31))) = nI (x ||| 2 ^ i) := by rw [f_shl12 i (by omega), nI_or]
    rw [m_X2_goThrough_L17, gI_ (FO G), Option.bind_some, f2, if_neg (nI_ge (by omega) (by omega)), FW G, Option.bind_some, gR_ (FO G) r1, Option.bind_some, g_s (Sn G) A2 (j := 4) (by decide), Option.bind_some, nI_add, if_pos (Sw G).1, ht, Option.bind_some, Option.bind_some, if_pos (Sw G).1, hk, Option.bind_some, hxi, nI_1, hor]
    have on : ∀ x', ∃ N e', m_X2_goThrough_L17 k0 189 (nI p) x2 m M (nI x') (nI (i + 1)) = k0 N (nI (kb_ c p h (i + 1) d x')) ∧ SA N 190 e' ∧ wf e' ∧ EO_ c e' ∧ isP_ c e' p (pj_ c p h n) ∧ fr 190 M N ∨ h i = true := by
      intro x'
      cases hh : h i with
      | true => exact ⟨M, e, Or.inr rfl⟩
      | false =>
        obtain ⟨N, e', q1, q2, q3, q4, q5, q6⟩ := ih (i + 1) m M e x' G r1 A2 f2 A we eo (by rw [pj_f hh]; exact ip) (by omega) (by omega)
        exact ⟨N, e', Or.inl ⟨q1, q2, q3, q4, q5, q6⟩⟩
    have oy : h i = true → ∀ x', ∃ N e', m_X2_goThrough_L17 k0 189 (nI p) x2 m N1 (nI x') (nI (i + 1)) = k0 N (nI (kb_ c p h (i + 1) d x')) ∧ SA N 190 e' ∧ wf e' ∧ EO_ c e' ∧ isP_ c e' p (pj_ c p h n) ∧ fr 190 M N := by
      intro hh x'
      obtain ⟨N, e', q1, q2, q3, q4, q5, q6⟩ := ih (i + 1) m N1 (hear1 e p (taught c (c 0 4 + i))) x' G1 r1' (A2.f a3 (by decide)) (by rw [o1]; exact f2) a2 (wf_hear we hpe hse) (EO_h eo _ _) (by rw [pj_t hh]; exact hear_pj (by rw [e0]) (eo 1 (by decide) (by decide)) (eo 3 (by decide) (by decide)) hs ip) (by omega) (by omega)
      exact ⟨N, e', q1, q2, q3, q4, q5, fr_t a3 q6⟩
    have kbs : kb_ c p h i (d + 1) x = kb_ c p h (i + 1) d (if kq_ c p h i then x ||| 2 ^ i else x) := rfl
    rw [kbs]
    unfold kq_
    cases hb : ((pj_ c p h i).1).testBit (taught c (c 0 4 + i)) with
    | false =>
      rw [if_pos (by decide), if_neg (show ¬ false = true by decide)]
      cases hh : h i with
      | false =>
        rw [if_pos (by decide)]
        obtain ⟨N, e', q | q⟩ := on x
        · exact ⟨N, e', q⟩
        · rw [hh] at q; cases q
      | true =>
        rw [if_neg (by decide), Option.bind_some, if_pos (Sw G).1, a1, Option.bind_some]
        exact oy hh x
    | true =>
      rw [if_neg (by decide), if_pos rfl]
      cases hh : h i with
      | false =>
        rw [if_pos (by decide)]
        obtain ⟨N, e', q | q⟩ := on (x ||| 2 ^ i)
        · exact ⟨N, e', q⟩
        · rw [hh] at q; cases q
      | true =>
        rw [if_neg (by decide), Option.bind_some, if_pos (Sw G).1, a1, Option.bind_some]
        exact oy hh (x ||| 2 ^ i)
theorem m_gt (G : GS M) (w : wf c) (hp : p < c 0 3) (hn : n ≤ 12) (hd : c 0 4 ≤ 999) {x2 : Int32} (hx : ∀ d, d < n → ((x2 >>> (nI d &&& 31)) &&& (1 : Int32)) = b2 (h d)) (r1 : mr_ M 189 1 = some 2) (A2 : SA M 2 c) (f2 : mi_ M 189 2 = nI n) (A : SA M 190 e) (we : wf e) (eo : EO_ c e) : ∃ N e', m_X2_goThrough M 189 (nI p) x2 = some (N, nI (kb_ c p h 0 n 0)) ∧ SA N 190 e' ∧ wf e' ∧ EO_ c e' ∧ isP_ c e' p (pj_ c p h n) ∧ fr 190 M N := by
  obtain ⟨K, k1, k2, k3, k4, k5, k6⟩ := m_bp (h := h) G w A2 A we eo hp
  have GK : GS K := G.sh k3.1
  obtain ⟨N, e', q1, q2, q3, q4, q5, q6⟩ := m_gtL w hp hn hd hx (fun M37 v38 => some (M37, v38)) n 0 FU K _ 0 GK (by rw [k3.1.2.2]; exact r1) (A2.f k3 (by decide)) (by rw [k3.2 189 (by decide)]; exact f2) k2 k4 k5 k6 (by omega) (by unfold FU; omega)
  refine ⟨N, e', ?_, q2, q3, q4, q5, fr_t k3 q6⟩
  rw [m_X2_goThrough, FW G, Option.bind_some, gR_ (FO G) r1, Option.bind_some, if_pos (Sw G).1, k1, Option.bind_some]
  exact q1
end GT
