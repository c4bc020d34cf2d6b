/-! ===== school: the component's reader ===== -/
def ct_ (t : Nat × Nat) : Int32 := if t.1 = 2 then nI t.2 else if t.1 = 1 then -1 else if t.1 = 3 then -2 else -3
def np_ (p : Nat) : Int32 := nI p - 1
theorem f_fig : ∀ b, b < 256 → m_X3_isFigure ME (nI b) = some (b2 (dg_ b)) := by decide +kernel
theorem f_kz : ∀ b, b < 256 → m_X3_kindOf ME (nI b) = some (nI (kz_ b)) := by decide +kernel
theorem f_ptb : ∀ b, b < 256 → m_X3_partOf ME (nI b) = some (np_ (pt_ (2, b))) := by decide +kernel
theorem f_np : ∀ p, p < 5 → ∀ l, l < 5 → ((np_ p = np_ l + 1 ↔ p = l + 1) ∧ (np_ p = np_ l ↔ p = l) ∧ (np_ p = -1 ↔ p = 0) ∧ (np_ p = 0 ↔ p = 1) ∧ (np_ p = 3 ↔ p = 4)) := by decide +kernel
theorem vt_i (tp : Nat → Nat) (i : Nat) : vt_ tp i i = 0 := by simp [vt_]
theorem vt_1 (tp : Nat → Nat) (i : Nat) : vt_ tp i (i + 1) = tp i - 48 := by
  unfold vt_
  rw [if_neg (by omega), if_pos rfl]
theorem vt_2 (tp : Nat → Nat) {i j : Nat} (h : i + 2 ≤ j) : vt_ tp i j = 10 * (tp i - 48) + (tp (i + 1) - 48) := by
  unfold vt_
  rw [if_neg (by omega), if_neg (by omega)]
theorem dg_s {b : Nat} (h : dg_ b = true) : 48 ≤ b ∧ b ≤ 57 := by simpa [dg_] using h
theorem vt_n {tp : Nat → Nat} {i j : Nat} (hij : i ≤ j) (h : j - i < 2) (g : dg_ (tp j) = true) : vt_ tp i j * 10 + tp j - 48 = vt_ tp i (j + 1) := by
  have := dg_s g
  rcases (show j = i ∨ j = i + 1 by omega) with rfl | rfl
  · rw [vt_i, vt_1]
    omega
  · rw [vt_1, vt_2 tp (Nat.le_refl _)]
    omega
def f7_ (M N : mM) : Prop := sh M N ∧ (∀ b, b ≠ 180 → mi_ N b = mi_ M b) ∧ ∀ f, f < 4 → mi_ N 180 f = mi_ M 180 f
def TK_ (M : mM) (tp : Nat → Nat) (tn i : Nat) : Prop := mi_ M 180 5 = nI i ∧ mi_ M 180 7 = nI (tx_ tp tn i) ∧ mi_ M 180 4 = ct_ (tk_ tp tn i) ∧ ((tk_ tp tn i).1 = 3 → mi_ M 180 6 = nI (tk_ tp tn i).2)
section RD
variable {M N : mM} {tp : Nat → Nat} {tn i : Nat} {c : sT} {ρ : Type}
theorem f7_r (M : mM) : f7_ M M := ⟨sh_r M, fun _ _ => rfl, fun _ _ => rfl⟩
theorem f7_t {A B C : mM} (f : f7_ A B) (g : f7_ B C) : f7_ A C := ⟨sh_t f.1 g.1, fun b h => (g.2.1 b h).trans (f.2.1 b h), fun b h => (g.2.2 b h).trans (f.2.2 b h)⟩
theorem f7_w {M : mM} {f : Nat} {v : Int32} (h : 4 ≤ f) : f7_ M (wI M 180 f v) := ⟨sh_w _ _ _ _, fun b hb => wI_o hb, fun q hq => by rw [wI_s, if_neg (by omega)]⟩
theorem f7_C (f : f7_ M N) (T : Ct M tp tn) : Ct N tp tn := T.o (f.2.2 2 (by decide)) (f.2.1 181 (by decide))
theorem RO (G : GS M) : isO M 180 3 = true := G.o (by decide) (by decide +kernel)
theorem Rt (G : GS M) : gR M 180 3 0 = some 181 := gR_ (RO G) (G.r (by decide +kernel))
theorem Rs (G : GS M) : gR M 180 3 1 = some 182 := gR_ (RO G) (G.r (by decide +kernel))
theorem RA (G : GS M) : 181 < mz M ∧ mk_ M 181 = (1, 120) := G.a (by decide) (by decide +kernel)
theorem SKr (G : GS M) : SK M 182 := G.s sk_read
theorem s_1 {k : Nat} (K : SK M k) {p : Nat} (hp : p < 6) (v : Int32) : stI M (k + 1) (nI p) v = some (wI M (k + 1) p v) := st_ (by have := K.2.1; omega) K.2.2.1.1 hp (by decide)
theorem ld_t (G : GS M) (T : Ct M tp tn) {j : Nat} (hj : j < tn) : ldI M 181 (nI j) = some (nI (tp j)) := by
  have := T.1
  rw [ld_ (RA G).1 (RA G).2 (by omega) (by decide), (T.2.2 j hj).1]
theorem m_tnL : ∀ (d j m : Nat) (M : mM), GS M → Ct M tp tn → mi_ M 180 5 = nI i → mi_ M 180 7 = nI j → mi_ M 180 6 = nI (vt_ tp i j) → i ≤ j → j + d = tn → d < m → ∃ N, (∀ k0 : mM → Option ρ, m_X3_takeNumber_L5 k0 180 m M = k0 N) ∧ f7_ M N ∧ mi_ N 180 5 = nI i ∧ mi_ N 180 7 = nI (rn_ tp d j) ∧ mi_ N 180 6 = nI (vt_ tp i (rn_ tp d j)) := by
  intro d
  induction d with
  | zero =>
    intro j m M G T h5 h7 h6 hij hj hm
    obtain ⟨m, rfl⟩ : ∃ z, m = z + 1 := ⟨m - 1, by omega⟩
    have := T.1
    exact ⟨M, fun k0 => by rw [m_X3_takeNumber_L5, gI_ (RO G) (f := 7), Option.bind_some, gI_ (RO G) (f := 2), Option.bind_some, h7, T.2.1, if_pos (nI_le (by omega) (by omega))], f7_r M, h5, h7, h6⟩
  | succ d ih =>
    intro j m M G T h5 h7 h6 hij hj hm
    obtain ⟨m, rfl⟩ : ∃ z, m = z + 1 := ⟨m - 1, by omega⟩
    have h120 := T.1
    have hjt : j < tn := by omega
    have tb := (T.2.2 j hjt).2
    have ld := ld_t G T hjt
    have fg : m_X3_isFigure M (nI (tp j)) = some (b2 (dg_ (tp j))) := f_fig _ tb
    cases hg : dg_ (tp j) with
    | false =>
      rw [rn_0 hg]
      exact ⟨M, fun k0 => by rw [m_X3_takeNumber_L5, gI_ (RO G) (f := 7), Option.bind_some, gI_ (RO G) (f := 2), Option.bind_some, h7, T.2.1, if_neg (nI_ge hjt (by omega)), Rt G, Option.bind_some, Option.bind_some, ld, Option.bind_some, fg, hg, Option.bind_some, if_pos (by decide)], f7_r M, h5, h7, h6⟩
    | true =>
      rw [rn_1 hg]
      by_cases h2 : 2 ≤ j - i
      · have f1 : f7_ M (wI M 180 7 (nI (j + 1))) := f7_w (by decide)
        obtain ⟨N, n1, n2, n3⟩ := ih (j + 1) m (wI M 180 7 (nI (j + 1))) (GS_w G) (f7_C f1 T) (by rw [wI_s, if_neg (by decide)]; exact h5) (by rw [wI_s, if_pos rfl]) (by rw [wI_s, if_neg (by decide), h6, vt_2 tp (by omega), vt_2 tp (by omega)]) (by omega) (by omega) (by omega)
        refine ⟨N, fun k0 => ?_, f7_t f1 n2, n3⟩
        rw [m_X3_takeNumber_L5, gI_ (RO G) (f := 7), Option.bind_some, gI_ (RO G) (f := 2), Option.bind_some, h7, T.2.1, if_neg (nI_ge hjt (by omega)), Rt G, Option.bind_some, Option.bind_some, ld, Option.bind_some, fg, hg, Option.bind_some, if_neg (by decide), Option.bind_some, gI_ (RO G) (f := 5), Option.bind_some, h5, pk_sub hij, if_pos (show (2 : Int32) ≤ nI (j - i) from (nI_le h2 (by omega) : nI 2 ≤ nI (j - i))), Option.bind_some, pI_ (RO G), Option.bind_some, nI_1]
        exact n1 k0
      · have f1 : f7_ M (wI M 180 6 (nI (vt_ tp i (j + 1)))) := f7_w (by decide)
        have f2 : f7_ (wI M 180 6 (nI (vt_ tp i (j + 1)))) (wI (wI M 180 6 (nI (vt_ tp i (j + 1)))) 180 7 (nI (j + 1))) := f7_w (by decide)
        have G1 : GS (wI M 180 6 (nI (vt_ tp i (j + 1)))) := GS_w G
        have e7 : mi_ (wI M 180 6 (nI (vt_ tp i (j + 1)))) 180 7 = nI j := by rw [wI_s, if_neg (by decide)]; exact h7
        have hv : (nI (vt_ tp i j) * (10 : Int32) + nI (tp j)) - (48 : Int32) = nI (vt_ tp i (j + 1)) := by
          have := dg_s hg
          rw [show (10 : Int32) = nI 10 from rfl, show (48 : Int32) = nI 48 from rfl, pk_mul, nI_add, pk_sub (by omega), vt_n hij (by omega) hg]
        obtain ⟨N, n1, n2, n3⟩ := ih (j + 1) m _ (GS_w G1) (f7_C (f7_t f1 f2) T) (by rw [wI_s, if_neg (by decide), wI_s, if_neg (by decide)]; exact h5) (by rw [wI_s, if_pos rfl]) (by rw [wI_s, if_neg (by decide), wI_s, if_pos rfl]) (by omega) (by omega) (by omega)
        refine ⟨N, fun k0 => ?_, f7_t (f7_t f1 f2) n2, n3⟩
        rw [m_X3_takeNumber_L5, gI_ (RO G) (f := 7), Option.bind_some, gI_ (RO G) (f := 2), Option.bind_some, h7, T.2.1, if_neg (nI_ge hjt (by omega)), Rt G, Option.bind_some, Option.bind_some, ld, Option.bind_some, fg, hg, Option.bind_some, if_neg (by decide), Option.bind_some, gI_ (RO G) (f := 5), Option.bind_some, h5, pk_sub hij, if_neg (show ¬ (2 : Int32) ≤ nI (j - i) from (nI_ge (by omega) (by decide) : ¬ nI 2 ≤ nI (j - i))), gI_ (RO G) (f := 6), Option.bind_some, h6, Option.bind_some, Option.bind_some, ld, Option.bind_some, hv, pI_ (RO G), Option.bind_some, gI_ (RO G1) (f := 7), Option.bind_some, e7, pI_ (RO G1), Option.bind_some, nI_1]
        exact n1 k0
theorem m_goOn (G : GS M) (T : Ct M tp tn) (hi : i ≤ tn) (h7 : mi_ M 180 7 = nI i) : ∃ N, m_X3_goOn M 180 = some N ∧ f7_ M N ∧ TK_ N tp tn i := by
  have h120 := T.1
  have f3 : f7_ M (wI M 180 5 (nI i)) := f7_w (by decide)
  have G3 : GS (wI M 180 5 (nI i)) := GS_w G
  have T3 : Ct (wI M 180 5 (nI i)) tp tn := f7_C f3 T
  have e7 : mi_ (wI M 180 5 (nI i)) 180 7 = nI i := by rw [wI_s, if_neg (by decide)]; exact h7
  have e5 : mi_ (wI M 180 5 (nI i)) 180 5 = nI i := by rw [wI_s, if_pos rfl]
  rw [m_X3_goOn, gI_ (RO G) (f := 7), Option.bind_some, h7, pI_ (RO G), Option.bind_some, gI_ (RO G3) (f := 7), Option.bind_some, gI_ (RO G3) (f := 2), Option.bind_some, e7, T3.2.1]
  by_cases hl : i < tn
  · have tb := (T.2.2 i hl).2
    have fg : m_X3_isFigure (wI M 180 5 (nI i)) (nI (tp i)) = some (b2 (dg_ (tp i))) := f_fig _ tb
    rw [if_pos (nI_lt hl (by omega)), Rt G3, Option.bind_some, Option.bind_some, ld_t G3 T3 hl, Option.bind_some, fg]
    cases hg : dg_ (tp i) with
    | false =>
      have G4 : GS (wI (wI M 180 5 (nI i)) 180 7 (nI (i + 1))) := GS_w G3
      rw [Option.bind_some, if_pos (by decide), Option.bind_some, nI_1, pI_ (RO G3), Option.bind_some, pI_ (RO G4), Option.bind_some]
      refine ⟨_, rfl, f7_t f3 (f7_t (f7_w (by decide)) (f7_w (by decide))), ?_, ?_, ?_, fun q => ?_⟩
      · rw [wI_s, if_neg (by decide), wI_s, if_neg (by decide)]
        exact e5
      · rw [wI_s, if_neg (by decide), wI_s, if_pos rfl, tx_b hl hg]
      · rw [wI_s, if_pos rfl, tk_b hl hg]
        rfl
      · rw [tk_b hl hg] at q
        exact absurd q (show ¬ (2 : Nat) = 3 by decide)
    | true =>
      have f4 : f7_ (wI M 180 5 (nI i)) (wI (wI M 180 5 (nI i)) 180 6 0) := f7_w (by decide)
      have G4 : GS (wI (wI M 180 5 (nI i)) 180 6 0) := GS_w G3
      obtain ⟨N, n1, n2, n3, n4, n5⟩ := m_tnL (ρ := mM) (i := i) (tn - i) i FU _ G4 (f7_C f4 T3) (by rw [wI_s, if_neg (by decide)]; exact e5) (by rw [wI_s, if_neg (by decide)]; exact e7) (by rw [wI_s, if_pos rfl, vt_i]; rfl) (Nat.le_refl _) (by omega) (by unfold FU; omega)
      have et : rn_ tp (tn - i) i = tx_ tp tn i := by
        rw [tx_d hl hg, show tn - i = (tn - (i + 1)) + 1 by omega, rn_1 hg]
      rw [et] at n4 n5
      have GN : GS N := G4.sh n2.1
      have tg := tx_gt (tp := tp) hl
      rw [Option.bind_some, if_neg (by decide), if_pos (RO G3), m_X3_takeNumber, pI_ (RO G3), Option.bind_some, n1, gI_ (RO GN) (f := 7), Option.bind_some, gI_ (RO GN) (f := 5), Option.bind_some, n3, n4, pk_sub (by omega)]
      by_cases h2 : tx_ tp tn i - i ≤ 2
      · rw [if_pos (show nI (tx_ tp tn i - i) ≤ (2 : Int32) from (nI_le h2 (by decide) : _ ≤ nI 2)), pI_ (RO GN), Option.bind_some, Option.bind_some]
        refine ⟨_, rfl, f7_t f3 (f7_t f4 (f7_t n2 (f7_w (by decide)))), ?_, ?_, ?_, fun _ => ?_⟩
        · rw [wI_s, if_neg (by decide)]
          exact n3
        · rw [wI_s, if_neg (by decide)]
          exact n4
        · rw [wI_s, if_pos rfl, tk_n hl hg h2]
          rfl
        · rw [wI_s, if_neg (by decide), tk_n hl hg h2]
          exact n5
      · rw [if_neg (show ¬ nI (tx_ tp tn i - i) ≤ (2 : Int32) from (nI_ge (by omega) (by omega) : ¬ _ ≤ nI 2)), pI_ (RO GN), Option.bind_some, Option.bind_some]
        refine ⟨_, rfl, f7_t f3 (f7_t f4 (f7_t n2 (f7_w (by decide)))), ?_, ?_, ?_, fun q => ?_⟩
        · rw [wI_s, if_neg (by decide)]
          exact n3
        · rw [wI_s, if_neg (by decide)]
          exact n4
        · rw [wI_s, if_pos rfl, tk_o hl hg h2]
          rfl
        · rw [tk_o hl hg h2] at q
          exact absurd q (by decide)
  · rw [if_neg (nI_nlt (by omega) (by omega)), pI_ (RO G3), Option.bind_some]
    refine ⟨_, rfl, f7_t f3 (f7_w (by decide)), ?_, ?_, ?_, fun q => ?_⟩
    · rw [wI_s, if_neg (by decide)]
      exact e5
    · rw [wI_s, if_neg (by decide), tx_e hl]
      exact e7
    · rw [wI_s, if_pos rfl, tk_e hl]
      rfl
    · rw [tk_e hl] at q
      exact absurd q (by decide)
/-- the school that is being read -/
def SZ_ (M : mM) (c : sT) : Prop := SA M 182 c ∧ ∀ q, q < 36 → mi_ M (182 + 6) q = 0
theorem SZ_mk {l : Nat} {c' : sT} (w : pw_ l c') (h0 : ∀ j, j < 5 → mi_ N 182 j = nI (c' 0 j)) (h1 : ∀ j, j < c' 0 1 → mi_ N (182 + 1) j = nI (c' 1 j)) (h2 : ∀ j, j < c' 0 2 → mi_ N (182 + 2) j = nI (c' 2 j)) (h3 : ∀ j, j < c' 0 3 → mi_ N (182 + 3) j = nI (c' 3 j)) (h4 : ∀ j, j < c' 0 3 → mi_ N (182 + 4) j = nI (c' 4 j)) (h5 : ∀ j, j < c' 0 3 → mi_ N (182 + 5) j = nI (c' 5 j)) (hz : ∀ q, q < 36 → mi_ N (182 + 6) q = 0) : SZ_ N c' := ⟨⟨h0, h1, h2, h3, h4, h5, fun p hp s hs => by
  have := w.1
  rw [hz _ (by omega), w.2.1]
  rfl⟩, hz⟩
theorem SZ_o (h : SZ_ M c) (e : ∀ a, a ≤ 6 → mi_ N (182 + a) = mi_ M (182 + a)) : SZ_ N c := ⟨h.1.o e, fun q hq => by rw [e 6 (by decide)]; exact h.2 q hq⟩
theorem SZ_7 (h : SZ_ M c) (f : f7_ M N) : SZ_ N c := SZ_o h (fun a _ => f.2.1 _ (by omega))
theorem m_full (G : GS M) (S : SZ_ M c) {l p : Nat} (w : pw_ l c) (h1 : 1 ≤ p) (h4 : p ≤ 4) : m_X3_isFull M 180 (np_ p) = some (b2 (fu_ p c)) := by
  have hw := w.1
  rcases (show p = 1 ∨ p = 2 ∨ p = 3 ∨ p = 4 by omega) with rfl | rfl | rfl | rfl
  · rw [show np_ 1 = (0 : Int32) from rfl, m_X3_isFull, if_neg (by decide), if_neg (by decide), if_neg (by decide)]
    rfl
  · rw [show np_ 2 = (1 : Int32) from rfl, m_X3_isFull, if_pos rfl, Rs G, Option.bind_some, g_s (SKr G) S.1 (j := 1) (by decide), Option.bind_some]
    show _ = some (b2 (decide (6 ≤ c 0 1)))
    by_cases h : c 0 1 < 6
    · rw [if_pos (show nI (c 0 1) < (6 : Int32) from (nI_lt h (by decide) : _ < nI 6)), decide_eq_false (by omega)]
      rfl
    · rw [if_neg (show ¬ nI (c 0 1) < (6 : Int32) from (nI_nlt (by omega) (by omega) : ¬ _ < nI 6)), decide_eq_true (by omega)]
      rfl
  · rw [show np_ 3 = (2 : Int32) from rfl, m_X3_isFull, if_neg (by decide), if_pos rfl, Rs G, Option.bind_some, g_s (SKr G) S.1 (j := 2) (by decide), Option.bind_some]
    show _ = some (b2 (decide (8 ≤ c 0 2)))
    by_cases h : c 0 2 < 8
    · rw [if_pos (show nI (c 0 2) < (8 : Int32) from (nI_lt h (by decide) : _ < nI 8)), decide_eq_false (by omega)]
      rfl
    · rw [if_neg (show ¬ nI (c 0 2) < (8 : Int32) from (nI_nlt (by omega) (by omega) : ¬ _ < nI 8)), decide_eq_true (by omega)]
      rfl
  · rw [show np_ 4 = (3 : Int32) from rfl, m_X3_isFull, if_neg (by decide), if_neg (by decide), if_pos rfl, Rs G, Option.bind_some, g_s (SKr G) S.1 (j := 3) (by decide), Option.bind_some]
    show _ = some (b2 (decide (6 ≤ c 0 3)))
    by_cases h : c 0 3 < 6
    · rw [if_pos (show nI (c 0 3) < (6 : Int32) from (nI_lt h (by decide) : _ < nI 6)), decide_eq_false (by omega)]
      rfl
    · rw [if_neg (show ¬ nI (c 0 3) < (6 : Int32) from (nI_nlt (by omega) (by omega) : ¬ _ < nI 6)), decide_eq_true (by omega)]
      rfl
theorem m_lim (G : GS M) (S : SZ_ M c) {l p : Nat} (w : pw_ l c) (h1 : 1 ≤ p) (h4 : p ≤ 4) : m_X3_limit M 180 (np_ p) = some (nI (lm_ p c)) := by
  have hw := w.1
  have sl := f_shl (c 0 1) (by omega)
  rcases (show p = 1 ∨ p = 2 ∨ p = 3 ∨ p = 4 by omega) with rfl | rfl | rfl | rfl
  · rw [show np_ 1 = (0 : Int32) from rfl, m_X3_limit, if_pos rfl]
    rfl
  · rw [show np_ 2 = (1 : Int32) from rfl, m_X3_limit, if_neg (by decide), if_neg (by decide), Rs G, Option.bind_some, g_s (SKr G) S.1 (j := 1) (by decide), Option.bind_some, sl]
    rfl
  · rw [show np_ 3 = (2 : Int32) from rfl, m_X3_limit, if_neg (by decide), if_pos rfl, Rs G, Option.bind_some, g_s (SKr G) S.1 (j := 1) (by decide), Option.bind_some]
    rfl
  · rw [show np_ 4 = (3 : Int32) from rfl, m_X3_limit, if_neg (by decide), if_neg (by decide), Rs G, Option.bind_some, g_s (SKr G) S.1 (j := 1) (by decide), Option.bind_some, sl]
    rfl
/-- only the school that is being read changes -/
def f8_ (M N : mM) : Prop := sh M N ∧ ∀ b, (b < 182 ∨ 188 < b) → mi_ N b = mi_ M b
theorem f8_w {a f : Nat} {v : Int32} (h1 : 182 ≤ a) (h2 : a ≤ 188) : f8_ M (wI M a f v) := ⟨sh_w _ _ _ _, fun b hb => wI_o (by omega)⟩
theorem f8_t {A B C : mM} (f : f8_ A B) (g : f8_ B C) : f8_ A C := ⟨sh_t f.1 g.1, fun b h => (g.2 b h).trans (f.2 b h)⟩
theorem m_addP (G : GS M) (S : SZ_ M c) {l p v b : Nat} (w : pw_ l c) (w' : pw_ p (adp_ p (kz_ b) v c)) (h1 : 1 ≤ p) (h4 : p ≤ 4) (hf : fu_ p c = false) (hv : mi_ M 180 6 = nI v) (hb : b < 256) : ∃ N, m_X3_add M 180 (np_ p) (nI b) = some N ∧ f8_ M N ∧ SZ_ N (adp_ p (kz_ b) v c) := by
  have hw := w.1
  obtain ⟨⟨S0, S1, S2, S3, S4, S5, S6⟩, S7⟩ := S
  have SS : SA M 182 c := ⟨S0, S1, S2, S3, S4, S5, S6⟩
  rcases (show p = 1 ∨ p = 2 ∨ p = 3 ∨ p = 4 by omega) with rfl | rfl | rfl | rfl
  · obtain ⟨e0, ej, eb⟩ := adp1 (kz_ b) v c
    rw [show np_ 1 = (0 : Int32) from rfl, m_X3_add, if_pos rfl, Rs G, Option.bind_some, gI_ (RO G) (f := 6), Option.bind_some, hv, pI_ (SKr G).1, Option.bind_some]
    refine ⟨_, rfl, f8_w (by decide) (by decide), SZ_mk w' (fun j hj => ?_) ?_ ?_ ?_ ?_ ?_ ?_⟩
    · rw [wI_s]
      by_cases h : j = 0
      · rw [if_pos h, h, e0]
      · rw [if_neg h, ej j h]
        exact S0 j hj
    · rw [wI_o (by decide), ej 1 (by decide), eb 1 (by decide)]
      exact S1
    · rw [wI_o (by decide), ej 2 (by decide), eb 2 (by decide)]
      exact S2
    · rw [wI_o (by decide), ej 3 (by decide), eb 3 (by decide)]
      exact S3
    · rw [wI_o (by decide), ej 3 (by decide), eb 4 (by decide)]
      exact S4
    · rw [wI_o (by decide), ej 3 (by decide), eb 5 (by decide)]
      exact S5
    · rw [wI_o (by decide)]
      exact S7
  · obtain ⟨e0, ej, e1, eb⟩ := adp2 (kz_ b) v c
    have hf' : c 0 1 < 6 := by
      have : decide (6 ≤ c 0 1) = false := hf
      have := of_decide_eq_false this
      omega
    have G1 : GS (wI M (182 + 1) (c 0 1) (nI v)) := GS_w G
    have g1 : gI (wI M (182 + 1) (c 0 1) (nI v)) 182 5 1 = some (nI (c 0 1)) := by rw [gI_ (SKr G1).1, wI_o (by decide), S0 1 (by decide)]
    rw [show np_ 2 = (1 : Int32) from rfl, m_X3_add, if_neg (by decide), if_pos rfl, Rs G, Option.bind_some, r_1 (SKr G), Option.bind_some, Option.bind_some, g_s (SKr G) SS (j := 1) (by decide), Option.bind_some, gI_ (RO G) (f := 6), Option.bind_some, hv, s_1 (SKr G) hf', Option.bind_some, Rs G1, Option.bind_some, g1, Option.bind_some, pI_ (SKr G1).1, Option.bind_some, nI_1]
    refine ⟨_, rfl, f8_t (f8_w (by decide) (by decide)) (f8_w (by decide) (by decide)), SZ_mk w' (fun j hj => ?_) (fun j hj => ?_) ?_ ?_ ?_ ?_ ?_⟩
    · rw [wI_s]
      by_cases h : j = 1
      · rw [if_pos h, h, e0]
      · rw [if_neg h, ej j h, wI_o (by decide)]
        exact S0 j hj
    · rw [e0] at hj
      rw [wI_o (by decide), wI_s, e1]
      by_cases h : j = c 0 1
      · rw [if_pos h, if_pos h]
      · rw [if_neg h, if_neg h]
        exact S1 j (by omega)
    · rw [wI_o (by decide), wI_o (by decide), ej 2 (by decide), eb 2 (by decide) (by decide)]
      exact S2
    · rw [wI_o (by decide), wI_o (by decide), ej 3 (by decide), eb 3 (by decide) (by decide)]
      exact S3
    · rw [wI_o (by decide), wI_o (by decide), ej 3 (by decide), eb 4 (by decide) (by decide)]
      exact S4
    · rw [wI_o (by decide), wI_o (by decide), ej 3 (by decide), eb 5 (by decide) (by decide)]
      exact S5
    · rw [wI_o (by decide), wI_o (by decide)]
      exact S7
  · obtain ⟨e0, ej, e1, eb⟩ := adp3 (kz_ b) v c
    have hf' : c 0 2 < 8 := by
      have : decide (8 ≤ c 0 2) = false := hf
      have := of_decide_eq_false this
      omega
    have G1 : GS (wI M (182 + 2) (c 0 2) (nI v)) := GS_w G
    have g1 : gI (wI M (182 + 2) (c 0 2) (nI v)) 182 5 2 = some (nI (c 0 2)) := by rw [gI_ (SKr G1).1, wI_o (by decide), S0 2 (by decide)]
    rw [show np_ 3 = (2 : Int32) from rfl, m_X3_add, if_neg (by decide), if_neg (by decide), if_pos rfl, Rs G, Option.bind_some, r_2 (SKr G), Option.bind_some, Option.bind_some, g_s (SKr G) SS (j := 2) (by decide), Option.bind_some, gI_ (RO G) (f := 6), Option.bind_some, hv, s_2 (SKr G) hf', Option.bind_some, Rs G1, Option.bind_some, g1, Option.bind_some, pI_ (SKr G1).1, Option.bind_some, nI_1]
    refine ⟨_, rfl, f8_t (f8_w (by decide) (by decide)) (f8_w (by decide) (by decide)), SZ_mk w' (fun j hj => ?_) ?_ (fun j hj => ?_) ?_ ?_ ?_ ?_⟩
    · rw [wI_s]
      by_cases h : j = 2
      · rw [if_pos h, h, e0]
      · rw [if_neg h, ej j h, wI_o (by decide)]
        exact S0 j hj
    · rw [wI_o (by decide), wI_o (by decide), ej 1 (by decide), eb 1 (by decide) (by decide)]
      exact S1
    · rw [e0] at hj
      rw [wI_o (by decide), wI_s, e1]
      by_cases h : j = c 0 2
      · rw [if_pos h, if_pos h]
      · rw [if_neg h, if_neg h]
        exact S2 j (by omega)
    · rw [wI_o (by decide), wI_o (by decide), ej 3 (by decide), eb 3 (by decide) (by decide)]
      exact S3
    · rw [wI_o (by decide), wI_o (by decide), ej 3 (by decide), eb 4 (by decide) (by decide)]
      exact S4
    · rw [wI_o (by decide), wI_o (by decide), ej 3 (by decide), eb 5 (by decide) (by decide)]
      exact S5
    · rw [wI_o (by decide), wI_o (by decide)]
      exact S7
  · obtain ⟨e0, ej, e3, e4, e5, e7, f1, f2, f6⟩ := adp4 (kz_ b) v c
    have hf' : c 0 3 < 6 := by
      have : decide (6 ≤ c 0 3) = false := hf
      have := of_decide_eq_false this
      omega
    have hk : m_X3_kindOf M (nI b) = some (nI (kz_ b)) := f_kz b hb
    have G1 : GS (wI M (182 + 3) (c 0 3) (nI (kz_ b))) := GS_w G
    have G2 : GS (wI (wI M (182 + 3) (c 0 3) (nI (kz_ b))) (182 + 4) (c 0 3) (nI v)) := GS_w G1
    have G3 : GS (wI (wI (wI M (182 + 3) (c 0 3) (nI (kz_ b))) (182 + 4) (c 0 3) (nI v)) (182 + 5) (c 0 3) (nI (c 0 3))) := GS_w G2
    have g1 : gI (wI M (182 + 3) (c 0 3) (nI (kz_ b))) 182 5 3 = some (nI (c 0 3)) := by rw [gI_ (SKr G1).1, wI_o (by decide), S0 3 (by decide)]
    have v1 : gI (wI M (182 + 3) (c 0 3) (nI (kz_ b))) 180 3 6 = some (nI v) := by rw [gI_ (RO G1), wI_o (by decide), hv]
    have g2 : gI (wI (wI M (182 + 3) (c 0 3) (nI (kz_ b))) (182 + 4) (c 0 3) (nI v)) 182 5 3 = some (nI (c 0 3)) := by rw [gI_ (SKr G2).1, wI_o (by decide), wI_o (by decide), S0 3 (by decide)]
    have g3 : gI (wI (wI (wI M (182 + 3) (c 0 3) (nI (kz_ b))) (182 + 4) (c 0 3) (nI v)) (182 + 5) (c 0 3) (nI (c 0 3))) 182 5 3 = some (nI (c 0 3)) := by rw [gI_ (SKr G3).1, wI_o (by decide), wI_o (by decide), wI_o (by decide), S0 3 (by decide)]
    rw [show np_ 4 = (3 : Int32) from rfl, m_X3_add, if_neg (by decide), if_neg (by decide), if_neg (by decide), Rs G, Option.bind_some, r_3 (SKr G), Option.bind_some, Option.bind_some, g_s (SKr G) SS (j := 3) (by decide), Option.bind_some, hk, Option.bind_some, s_3 (SKr G) hf', Option.bind_some, Rs G1, Option.bind_some, r_4 (SKr G1), Option.bind_some, Option.bind_some, g1, Option.bind_some, v1, Option.bind_some, s_4 (SKr G1) hf', Option.bind_some, Rs G2, Option.bind_some, r_5 (SKr G2), Option.bind_some, Option.bind_some, g2, Option.bind_some, Option.bind_some, g2, Option.bind_some, s_5 (SKr G2) hf', Option.bind_some, Rs G3, Option.bind_some, g3, Option.bind_some, pI_ (SKr G3).1, Option.bind_some, nI_1]
    refine ⟨_, rfl, f8_t (f8_w (by decide) (by decide)) (f8_t (f8_w (by decide) (by decide)) (f8_t (f8_w (by decide) (by decide)) (f8_w (by decide) (by decide)))), SZ_mk w' (fun j hj => ?_) ?_ ?_ (fun j hj => ?_) (fun j hj => ?_) (fun j hj => ?_) ?_⟩
    · rw [wI_s]
      by_cases h : j = 3
      · rw [if_pos h, h, e0]
      · rw [if_neg h, ej j h, wI_o (by decide), wI_o (by decide), wI_o (by decide)]
        exact S0 j hj
    · rw [wI_o (by decide), wI_o (by decide), wI_o (by decide), wI_o (by decide), ej 1 (by decide), f1]
      exact S1
    · rw [wI_o (by decide), wI_o (by decide), wI_o (by decide), wI_o (by decide), ej 2 (by decide), f2]
      exact S2
    · rw [e0] at hj
      rw [wI_o (by decide), wI_o (by decide), wI_o (by decide), wI_s, e3]
      by_cases h : j = c 0 3
      · rw [if_pos h, if_pos h]
      · rw [if_neg h, if_neg h]
        exact S3 j (by omega)
    · rw [e0] at hj
      rw [wI_o (by decide), wI_o (by decide), wI_s, e4]
      by_cases h : j = c 0 3
      · rw [if_pos h, if_pos h]
      · rw [if_neg h, if_neg h, wI_o (by decide)]
        exact S4 j (by omega)
    · rw [e0] at hj
      rw [wI_o (by decide), wI_s, e5]
      by_cases h : j = c 0 3
      · rw [if_pos h, if_pos h]
      · rw [if_neg h, if_neg h, wI_o (by decide), wI_o (by decide)]
        exact S5 j (by omega)
    · rw [wI_o (by decide), wI_o (by decide), wI_o (by decide), wI_o (by decide)]
      exact S7
end RD
