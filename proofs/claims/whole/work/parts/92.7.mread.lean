/-! ===== school: the model's tokens ===== -/
def mn_ (t : Nat × Nat) : Nat := if t.1 = 2 then (if 97 ≤ t.2 ∧ t.2 ≤ 122 then 2 else if t.2 = 44 ∨ t.2 = 59 then 4 else 0) else if t.1 = 1 then 1 else if t.1 = 3 then 3 else 0
theorem mn_cs (t : Nat × Nat) : (mn_ t = 1 ↔ t.1 = 1) ∧ (mn_ t = 3 ↔ t.1 = 3) ∧ (mn_ t = 2 ↔ t.1 = 2 ∧ 97 ≤ t.2 ∧ t.2 ≤ 122) ∧ (mn_ t = 4 ↔ t.1 = 2 ∧ (t.2 = 44 ∨ t.2 = 59)) ∧ mn_ t ≤ 4 := by
  by_cases h2 : t.1 = 2
  · by_cases ha : 97 ≤ t.2 ∧ t.2 ≤ 122
    · have e : mn_ t = 2 := by
        unfold mn_
        rw [if_pos h2, if_pos ha]
      rw [e]
      omega
    · by_cases hb : t.2 = 44 ∨ t.2 = 59
      · have e : mn_ t = 4 := by
          unfold mn_
          rw [if_pos h2, if_neg ha, if_pos hb]
        rw [e]
        omega
      · have e : mn_ t = 0 := by
          unfold mn_
          rw [if_pos h2, if_neg ha, if_neg hb]
        rw [e]
        omega
  · by_cases h1 : t.1 = 1
    · have e : mn_ t = 1 := by
        unfold mn_
        rw [if_neg h2, if_pos h1]
      rw [e]
      omega
    · by_cases h3 : t.1 = 3
      · have e : mn_ t = 3 := by
          unfold mn_
          rw [if_neg h2, if_neg h1, if_pos h3]
        rw [e]
        omega
      · have e : mn_ t = 0 := by
          unfold mn_
          rw [if_neg h2, if_neg h1, if_neg h3]
        rw [e]
        omega
/-- the next token, cut into its pieces -/
def nt_d (x0 : Nat) (M : mM) : Option mM := (gI M x0 7 14).bind fun v => if v = (3 : Int32) then ((gI M x0 7 15).bind fun u => (pI M x0 7 15 (u - (48 : Int32))).bind fun M1 => m_X7_nextToken_L165 (fun M2 => (gI M2 x0 7 12).bind fun a => (gI M2 x0 7 13).bind fun b => if (a - b) ≤ (2 : Int32) then ((pI M2 x0 7 14 (3 : Int32)).bind fun M3 => some M3) else ((pI M2 x0 7 14 (0 : Int32)).bind fun M3 => some M3)) x0 FU M1) else some M
def nt_c (x0 : Nat) (M : mM) : Option mM := (gI M x0 7 12).bind fun v => (gI M x0 7 12).bind fun u => (gI M x0 7 11).bind fun t => if t ≤ u then ((pI M x0 7 12 (v + (0 : Int32))).bind fun M1 => nt_d x0 M1) else ((pI M x0 7 12 (v + (1 : Int32))).bind fun M1 => nt_d x0 M1)
def nt_b (x0 : Nat) (M : mM) : Option mM := (gI M x0 7 12).bind fun v => (gI M x0 7 11).bind fun u => if v = u then ((pI M x0 7 14 (1 : Int32)).bind fun M1 => nt_c x0 M1) else ((gI M x0 7 15).bind fun a => (m_X7_in M (Int32.toInt64 a) (97 : Int64) (122 : Int64)).bind fun b => if b = (0 : Int32) then ((gI M x0 7 15).bind fun a => (m_X7_in M (Int32.toInt64 a) (48 : Int64) (57 : Int64)).bind fun b => if b = (0 : Int32) then ((gI M x0 7 15).bind fun a => if a = (44 : Int32) then ((pI M x0 7 14 (4 : Int32)).bind fun M1 => nt_c x0 M1) else ((gI M x0 7 15).bind fun a => if a = (59 : Int32) then ((pI M x0 7 14 (4 : Int32)).bind fun M1 => nt_c x0 M1) else ((pI M x0 7 14 (0 : Int32)).bind fun M1 => nt_c x0 M1))) else ((pI M x0 7 14 (3 : Int32)).bind fun M1 => nt_c x0 M1)) else ((pI M x0 7 14 (2 : Int32)).bind fun M1 => nt_c x0 M1))
theorem nt_eq (M : mM) (x0 : Nat) : m_X7_nextToken M x0 = ((gI M x0 7 12).bind fun v1 => (pI M x0 7 13 v1).bind fun M3 => (gI M3 x0 7 12).bind fun v5 => (gI M3 x0 7 11).bind fun v7 => if v7 ≤ v5 then ((pI M3 x0 7 15 (-1000000 : Int32)).bind fun M10 => nt_b x0 M10) else ((gR M3 x0 7 10).bind fun b => (gI M3 x0 7 12).bind fun v => (ldI M3 b v).bind fun v => (pI M3 x0 7 15 v).bind fun M10 => nt_b x0 M10)) := rfl
theorem f_rg : ∀ b, b < 256 → rg (nI b) 97 122 = (decide (97 ≤ b) && decide (b ≤ 122)) ∧ rg (nI b) 48 57 = dg_ b := by decide +kernel
/-- only fields 12 to 15 of the model change -/
def fn_ (M N : mM) : Prop := sh M N ∧ (∀ b, b ≠ 231 → mi_ N b = mi_ M b) ∧ ∀ f, (f < 12 ∨ 15 < f) → mi_ N 231 f = mi_ M 231 f
def TM_ (M : mM) (tp : Nat → Nat) (tn i : Nat) : Prop := mi_ M 231 13 = nI i ∧ mi_ M 231 12 = nI (tx_ tp tn i) ∧ mi_ M 231 14 = nI (mn_ (tk_ tp tn i)) ∧ ((tk_ tp tn i).1 = 2 ∨ (tk_ tp tn i).1 = 3 → mi_ M 231 15 = nI (tk_ tp tn i).2)
section MN
variable {M N : mM} {tp : Nat → Nat} {tn i : Nat} {c : sT} {ρ : Type}
theorem fn_r (M : mM) : fn_ M M := ⟨sh_r M, fun _ _ => rfl, fun _ _ => rfl⟩
theorem fn_t {A B C : mM} (f : fn_ A B) (g : fn_ B C) : fn_ A C := ⟨sh_t f.1 g.1, fun b h => (g.2.1 b h).trans (f.2.1 b h), fun b h => (g.2.2 b h).trans (f.2.2 b h)⟩
theorem fn_w {M : mM} {f : Nat} {v : Int32} (h : 12 ≤ f) (h' : f ≤ 15) : fn_ M (wI M 231 f v) := ⟨sh_w _ _ _ _, fun b hb => wI_o hb, fun q hq => by rw [wI_s, if_neg (by omega)]⟩
theorem fn_D (f : fn_ M N) (T : Dt M tp tn) : Dt N tp tn := T.o (f.2.2 11 (by decide)) (f.2.1 239 (by decide))
theorem Rtp (G : GS M) : gR M 231 7 10 = some 239 := gR_ (O7 G) (G.r (by decide +kernel))
theorem Rf (G : GS M) : gR M 231 7 6 = some 236 := gR_ (O7 G) (G.r (by decide +kernel))
theorem AF (G : GS M) : AK M 236 := G.ak (by decide) (by decide +kernel)
theorem AT7 (G : GS M) : 239 < mz M ∧ mk_ M 239 = (1, 120) := G.a (by decide) (by decide +kernel)
theorem ld_m (G : GS M) (T : Dt M tp tn) {j : Nat} (hj : j < tn) : ldI M 239 (nI j) = some (nI (tp j)) := by
  have := T.1
  rw [ld_ (AT7 G).1 (AT7 G).2 (by omega) (by decide), (T.2.2 j hj).1]
theorem m_ntL : ∀ (d j m : Nat) (M : mM), GS M → Dt M tp tn → mi_ M 231 13 = nI i → mi_ M 231 12 = nI j → mi_ M 231 15 = nI (vt_ tp i j) → i ≤ j → j + d = tn → d < m → ∃ N, (∀ k0 : mM → Option ρ, m_X7_nextToken_L165 k0 231 m M = k0 N) ∧ fn_ M N ∧ mi_ N 231 13 = nI i ∧ mi_ N 231 12 = nI (rn_ tp d j) ∧ mi_ N 231 15 = nI (vt_ tp i (rn_ tp d j)) := by
  intro d
  induction d with
  | zero =>
    intro j m M G T h5 h7 h6 hij hj hm
    obtain ⟨m, rfl⟩ : ∃ z, m = z + 1 := ⟨m - 1, by omega⟩
    have := T.1
    exact ⟨M, fun k0 => by rw [m_X7_nextToken_L165, gI_ (O7 G) (f := 12), Option.bind_some, gI_ (O7 G) (f := 11), Option.bind_some, h7, T.2.1, if_pos (nI_le (by omega) (by omega))], fn_r M, h5, h7, h6⟩
  | succ d ih =>
    intro j m M G T h5 h7 h6 hij hj hm
    obtain ⟨m, rfl⟩ : ∃ z, m = z + 1 := ⟨m - 1, by omega⟩
    have h120 := T.1
    have hjt : j < tn := by omega
    have tb := (T.2.2 j hjt).2
    have ld := ld_m G T hjt
    have fg : m_X7_in M (Int32.toInt64 (nI (tp j))) (48 : Int64) (57 : Int64) = some (b2 (dg_ (tp j))) := n_in (b := dg_ (tp j)) (f_rg _ tb).2
    cases hg : dg_ (tp j) with
    | false =>
      rw [rn_0 hg]
      exact ⟨M, fun k0 => by rw [m_X7_nextToken_L165, gI_ (O7 G) (f := 12), Option.bind_some, gI_ (O7 G) (f := 11), Option.bind_some, h7, T.2.1, if_neg (nI_ge hjt (by omega)), Rtp G, Option.bind_some, Option.bind_some, ld, Option.bind_some, fg, hg, Option.bind_some, if_pos (by decide)], fn_r M, h5, h7, h6⟩
    | true =>
      rw [rn_1 hg]
      by_cases h2 : 2 ≤ j - i
      · have f1 : fn_ M (wI M 231 15 (nI (vt_ tp i j))) := fn_w (by decide) (by decide)
        have G1 : GS (wI M 231 15 (nI (vt_ tp i j))) := GS_w G
        have f2 : fn_ (wI M 231 15 (nI (vt_ tp i j))) (wI (wI M 231 15 (nI (vt_ tp i j))) 231 12 (nI (j + 1))) := fn_w (by decide) (by decide)
        have e7 : mi_ (wI M 231 15 (nI (vt_ tp i j))) 231 12 = nI j := by rw [wI_s, if_neg (by decide)]; exact h7
        obtain ⟨N, n1, n2, n3⟩ := ih (j + 1) m _ (GS_w G1) (fn_D (fn_t f1 f2) T) (by rw [wI_s, if_neg (by decide), wI_s, if_neg (by decide)]; exact h5) (by rw [wI_s, if_pos rfl]) (by rw [wI_s, if_neg (by decide), wI_s, if_pos rfl, vt_2 tp (by omega), vt_2 tp (by omega)]) (by omega) (by omega) (by omega)
        refine ⟨N, fun k0 => ?_, fn_t (fn_t f1 f2) n2, n3⟩
        rw [m_X7_nextToken_L165, gI_ (O7 G) (f := 12), Option.bind_some, gI_ (O7 G) (f := 11), Option.bind_some, h7, T.2.1, if_neg (nI_ge hjt (by omega)), Rtp G, Option.bind_some, Option.bind_some, ld, Option.bind_some, fg, hg, Option.bind_some, if_neg (by decide), Option.bind_some, gI_ (O7 G) (f := 13), Option.bind_some, h5, pk_sub hij, if_pos (show (2 : Int32) ≤ nI (j - i) from (nI_le h2 (by omega) : nI 2 ≤ nI (j - i))), gI_ (O7 G) (f := 15), Option.bind_some, h6, pI_ (O7 G), Option.bind_some, gI_ (O7 G1) (f := 12), Option.bind_some, e7, pI_ (O7 G1), Option.bind_some, nI_1]
        exact n1 k0
      · have f1 : fn_ M (wI M 231 15 (nI (vt_ tp i (j + 1)))) := fn_w (by decide) (by decide)
        have f2 : fn_ (wI M 231 15 (nI (vt_ tp i (j + 1)))) (wI (wI M 231 15 (nI (vt_ tp i (j + 1)))) 231 12 (nI (j + 1))) := fn_w (by decide) (by decide)
        have G1 : GS (wI M 231 15 (nI (vt_ tp i (j + 1)))) := GS_w G
        have e7 : mi_ (wI M 231 15 (nI (vt_ tp i (j + 1)))) 231 12 = nI j := by rw [wI_s, if_neg (by decide)]; exact h7
        have hv : ((10 : Int32) * nI (vt_ tp i j) + nI (tp j)) - (48 : Int32) = nI (vt_ tp i (j + 1)) := by
          have := dg_s hg
          rw [show (10 : Int32) = nI 10 from rfl, show (48 : Int32) = nI 48 from rfl, pk_mul, nI_add, pk_sub (by omega), Nat.mul_comm 10, vt_n hij (by omega) hg]
        obtain ⟨N, n1, n2, n3⟩ := ih (j + 1) m _ (GS_w G1) (fn_D (fn_t f1 f2) T) (by rw [wI_s, if_neg (by decide), wI_s, if_neg (by decide)]; exact h5) (by rw [wI_s, if_pos rfl]) (by rw [wI_s, if_neg (by decide), wI_s, if_pos rfl]) (by omega) (by omega) (by omega)
        refine ⟨N, fun k0 => ?_, fn_t (fn_t f1 f2) n2, n3⟩
        rw [m_X7_nextToken_L165, gI_ (O7 G) (f := 12), Option.bind_some, gI_ (O7 G) (f := 11), Option.bind_some, h7, T.2.1, if_neg (nI_ge hjt (by omega)), Rtp G, Option.bind_some, Option.bind_some, ld, Option.bind_some, fg, hg, Option.bind_some, if_neg (by decide), Option.bind_some, gI_ (O7 G) (f := 13), Option.bind_some, h5, pk_sub hij, if_neg (show ¬ (2 : Int32) ≤ nI (j - i) from (nI_ge (by omega) (by decide) : ¬ nI 2 ≤ nI (j - i))), gI_ (O7 G) (f := 15), Option.bind_some, h6, Option.bind_some, Option.bind_some, ld, Option.bind_some, hv, pI_ (O7 G), Option.bind_some, gI_ (O7 G1) (f := 12), Option.bind_some, e7, pI_ (O7 G1), Option.bind_some, nI_1]
        exact n1 k0
theorem ntc_lt (G : GS M) (T : Dt M tp tn) (hi : i < tn) (h12 : mi_ M 231 12 = nI i) : nt_c 231 M = nt_d 231 (wI M 231 12 (nI (i + 1))) := by
  have h120 := T.1
  rw [nt_c, gI_ (O7 G) (f := 12), Option.bind_some, Option.bind_some, gI_ (O7 G) (f := 11), Option.bind_some, h12, T.2.1, if_neg (nI_ge hi (by omega)), nI_1, pI_ (O7 G), Option.bind_some]
theorem ntb_b (G : GS M) (T : Dt M tp tn) (hi : i < tn) (h12 : mi_ M 231 12 = nI i) {b : Nat} (hb : b < 256) (h15 : mi_ M 231 15 = nI b) (hg : dg_ b = false) : nt_b 231 M = nt_c 231 (wI M 231 14 (nI (mn_ (2, b)))) := by
  have h120 := T.1
  obtain ⟨r1, r2⟩ := f_rg b hb
  rw [nt_b, gI_ (O7 G) (f := 12), Option.bind_some, gI_ (O7 G) (f := 11), Option.bind_some, h12, T.2.1, if_neg (ne_lit (by omega) (by omega) (by omega)), gI_ (O7 G) (f := 15), Option.bind_some, h15, n_in (b := decide (97 ≤ b) && decide (b ≤ 122)) r1, Option.bind_some]
  by_cases ha : 97 ≤ b ∧ b ≤ 122
  · have e : mn_ (2, b) = 2 := (mn_cs (2, b)).2.2.1.mpr ⟨rfl, ha⟩
    rw [decide_eq_true ha.1, decide_eq_true ha.2, if_neg (by decide), pI_ (O7 G), Option.bind_some, e]
    rfl
  · have hd : (decide (97 ≤ b) && decide (b ≤ 122)) = false := by
      rw [Bool.and_eq_false_iff, decide_eq_false_iff_not, decide_eq_false_iff_not]
      omega
    rw [hd, if_pos (by decide), Option.bind_some, n_in (b := dg_ b) r2, hg, Option.bind_some, if_pos (by decide), Option.bind_some]
    by_cases h44 : b = 44
    · have e : mn_ (2, b) = 4 := (mn_cs (2, b)).2.2.2.1.mpr ⟨rfl, Or.inl h44⟩
      rw [if_pos (show nI b = (44 : Int32) by rw [h44]; rfl), pI_ (O7 G), Option.bind_some, e]
      rfl
    · rw [if_neg (show ¬ nI b = (44 : Int32) from (ne_lit (by omega) (by decide) h44 : ¬ nI b = nI 44)), Option.bind_some]
      by_cases h59 : b = 59
      · have e : mn_ (2, b) = 4 := (mn_cs (2, b)).2.2.2.1.mpr ⟨rfl, Or.inr h59⟩
        rw [if_pos (show nI b = (59 : Int32) by rw [h59]; rfl), pI_ (O7 G), Option.bind_some, e]
        rfl
      · have e : mn_ (2, b) = 0 := by
          unfold mn_
          rw [if_pos rfl, if_neg ha, if_neg (by show ¬ (b = 44 ∨ b = 59); omega)]
        rw [if_neg (show ¬ nI b = (59 : Int32) from (ne_lit (by omega) (by decide) h59 : ¬ nI b = nI 59)), pI_ (O7 G), Option.bind_some, e]
        rfl
theorem m_nt (G : GS M) (T : Dt M tp tn) (hi : i ≤ tn) (h12 : mi_ M 231 12 = nI i) : ∃ N, m_X7_nextToken M 231 = some N ∧ fn_ M N ∧ TM_ N tp tn i := by
  have h120 := T.1
  have f3 : fn_ M (wI M 231 13 (nI i)) := fn_w (by decide) (by decide)
  have G3 : GS (wI M 231 13 (nI i)) := GS_w G
  have T3 : Dt (wI M 231 13 (nI i)) tp tn := fn_D f3 T
  have e12 : mi_ (wI M 231 13 (nI i)) 231 12 = nI i := by rw [wI_s, if_neg (by decide)]; exact h12
  have e13 : mi_ (wI M 231 13 (nI i)) 231 13 = nI i := by rw [wI_s, if_pos rfl]
  rw [nt_eq, gI_ (O7 G) (f := 12), Option.bind_some, h12, pI_ (O7 G), Option.bind_some, gI_ (O7 G3) (f := 12), Option.bind_some, gI_ (O7 G3) (f := 11), Option.bind_some, e12, T3.2.1]
  generalize hM3 : wI M 231 13 (nI i) = M3 at f3 G3 T3 e12 e13
  by_cases hl : i < tn
  · have tb := (T.2.2 i hl).2
    rw [if_neg (nI_ge hl (by omega)), Rtp G3, Option.bind_some, Option.bind_some, ld_m G3 T3 hl, Option.bind_some, pI_ (O7 G3), Option.bind_some]
    have f4 : fn_ M3 (wI M3 231 15 (nI (tp i))) := fn_w (by decide) (by decide)
    have G4 : GS (wI M3 231 15 (nI (tp i))) := GS_w G3
    have T4 := fn_D f4 T3
    have a12 : mi_ (wI M3 231 15 (nI (tp i))) 231 12 = nI i := by rw [wI_s, if_neg (by decide)]; exact e12
    have a13 : mi_ (wI M3 231 15 (nI (tp i))) 231 13 = nI i := by rw [wI_s, if_neg (by decide)]; exact e13
    have a15 : mi_ (wI M3 231 15 (nI (tp i))) 231 15 = nI (tp i) := by rw [wI_s, if_pos rfl]
    generalize hM4 : wI M3 231 15 (nI (tp i)) = M4 at f4 G4 T4 a12 a13 a15
    cases hg : dg_ (tp i) with
    | false =>
      have f5 : fn_ M4 (wI M4 231 14 (nI (mn_ (2, tp i)))) := fn_w (by decide) (by decide)
      have G5 : GS (wI M4 231 14 (nI (mn_ (2, tp i)))) := GS_w G4
      have f6 : fn_ (wI M4 231 14 (nI (mn_ (2, tp i)))) (wI (wI M4 231 14 (nI (mn_ (2, tp i)))) 231 12 (nI (i + 1))) := fn_w (by decide) (by decide)
      have G6 : GS (wI (wI M4 231 14 (nI (mn_ (2, tp i)))) 231 12 (nI (i + 1))) := GS_w G5
      have e14 : mi_ (wI (wI M4 231 14 (nI (mn_ (2, tp i)))) 231 12 (nI (i + 1))) 231 14 = nI (mn_ (2, tp i)) := by rw [wI_s, if_neg (by decide), wI_s, if_pos rfl]
      have mc := mn_cs (2, tp i)
      have hn3 : mn_ (2, tp i) ≠ 3 := fun q => absurd (show (2 : Nat) = 3 from mc.2.1.mp q) (by decide)
      rw [ntb_b G4 T4 hl a12 tb a15 hg, ntc_lt G5 (fn_D f5 T4) hl (by rw [wI_s, if_neg (by decide)]; exact a12), nt_d, gI_ (O7 G6) (f := 14), Option.bind_some, e14, if_neg (show ¬ nI (mn_ (2, tp i)) = (3 : Int32) from (ne_lit (by omega) (by decide) hn3 : ¬ _ = nI 3))]
      refine ⟨_, rfl, fn_t f3 (fn_t f4 (fn_t f5 f6)), ?_, ?_, ?_, fun _ => ?_⟩
      · rw [wI_s, if_neg (by decide), wI_s, if_neg (by decide)]
        exact a13
      · rw [wI_s, if_pos rfl, tx_b hl hg]
      · rw [e14, tk_b hl hg]
      · rw [wI_s, if_neg (by decide), wI_s, if_neg (by decide), tk_b hl hg]
        exact a15
    | true =>
      obtain ⟨r1, r2⟩ := f_rg (tp i) tb
      have dg := dg_s hg
      have hd : (decide (97 ≤ tp i) && decide (tp i ≤ 122)) = false := by
        rw [Bool.and_eq_false_iff, decide_eq_false_iff_not, decide_eq_false_iff_not]
        omega
      have f5 : fn_ M4 (wI M4 231 14 3) := fn_w (by decide) (by decide)
      have G5 : GS (wI M4 231 14 3) := GS_w G4
      have f6 : fn_ (wI M4 231 14 3) (wI (wI M4 231 14 3) 231 12 (nI (i + 1))) := fn_w (by decide) (by decide)
      have G6 : GS (wI (wI M4 231 14 3) 231 12 (nI (i + 1))) := GS_w G5
      have e14 : mi_ (wI (wI M4 231 14 3) 231 12 (nI (i + 1))) 231 14 = 3 := by rw [wI_s, if_neg (by decide), wI_s, if_pos rfl]
      have e15 : mi_ (wI (wI M4 231 14 3) 231 12 (nI (i + 1))) 231 15 = nI (tp i) := by rw [wI_s, if_neg (by decide), wI_s, if_neg (by decide)]; exact a15
      have ev : nI (tp i) - (48 : Int32) = nI (vt_ tp i (i + 1)) := by
        rw [show (48 : Int32) = nI 48 from rfl, pk_sub (by omega), vt_1]
      have f7 : fn_ (wI (wI M4 231 14 3) 231 12 (nI (i + 1))) (wI (wI (wI M4 231 14 3) 231 12 (nI (i + 1))) 231 15 (nI (vt_ tp i (i + 1)))) := fn_w (by decide) (by decide)
      have G7 : GS (wI (wI (wI M4 231 14 3) 231 12 (nI (i + 1))) 231 15 (nI (vt_ tp i (i + 1)))) := GS_w G6
      have F7 := fn_t f5 (fn_t f6 f7)
      obtain ⟨N, n1, n2, n3, n4, n5⟩ := m_ntL (ρ := mM) (i := i) (tn - (i + 1)) (i + 1) FU _ G7 (fn_D F7 T4) (by rw [wI_s, if_neg (by decide), wI_s, if_neg (by decide), wI_s, if_neg (by decide)]; exact a13) (by rw [wI_s, if_neg (by decide), wI_s, if_pos rfl]) (by rw [wI_s, if_pos rfl]) (by omega) (by omega) (by unfold FU; omega)
      rw [← tx_d hl hg] at n4 n5
      have GN : GS N := G7.sh n2.1
      have tg := tx_gt (tp := tp) hl
      have FN : fn_ M N := fn_t f3 (fn_t f4 (fn_t F7 n2))
      rw [nt_b, gI_ (O7 G4) (f := 12), Option.bind_some, gI_ (O7 G4) (f := 11), Option.bind_some, a12, T4.2.1, if_neg (ne_lit (by omega) (by omega) (by omega)), gI_ (O7 G4) (f := 15), Option.bind_some, a15, n_in (b := decide (97 ≤ tp i) && decide (tp i ≤ 122)) r1, hd, Option.bind_some, if_pos (by decide), Option.bind_some, n_in (b := dg_ (tp i)) r2, hg, Option.bind_some, if_neg (by decide), pI_ (O7 G4), Option.bind_some, ntc_lt G5 (fn_D f5 T4) hl (by rw [wI_s, if_neg (by decide)]; exact a12), nt_d, gI_ (O7 G6) (f := 14), Option.bind_some, e14, if_pos rfl, gI_ (O7 G6) (f := 15), Option.bind_some, e15, ev, pI_ (O7 G6), Option.bind_some, n1, gI_ (O7 GN) (f := 12), Option.bind_some, gI_ (O7 GN) (f := 13), Option.bind_some, n3, n4, pk_sub (by omega)]
      by_cases h2 : tx_ tp tn i - i ≤ 2
      · rw [if_pos (show nI (tx_ tp tn i - i) ≤ (2 : Int32) from (nI_le h2 (by decide) : _ ≤ nI 2)), pI_ (O7 GN), Option.bind_some]
        refine ⟨_, rfl, fn_t FN (fn_w (by decide) (by decide)), ?_, ?_, ?_, fun _ => ?_⟩
        · rw [wI_s, if_neg (by decide)]
          exact n3
        · rw [wI_s, if_neg (by decide)]
          exact n4
        · rw [wI_s, if_pos rfl, tk_n hl hg h2]
          rfl
        · rw [wI_s, if_neg (by decide), tk_n hl hg h2]
          exact n5
      · rw [if_neg (show ¬ nI (tx_ tp tn i - i) ≤ (2 : Int32) from (nI_ge (by omega) (by omega) : ¬ _ ≤ nI 2)), pI_ (O7 GN), Option.bind_some]
        refine ⟨_, rfl, fn_t FN (fn_w (by decide) (by decide)), ?_, ?_, ?_, fun q => ?_⟩
        · rw [wI_s, if_neg (by decide)]
          exact n3
        · rw [wI_s, if_neg (by decide)]
          exact n4
        · rw [wI_s, if_pos rfl, tk_o hl hg h2]
          rfl
        · rw [tk_o hl hg h2] at q
          exact absurd q (by decide)
  · have hit : i = tn := by omega
    have f4 : fn_ M3 (wI M3 231 15 (-1000000)) := fn_w (by decide) (by decide)
    have G4 : GS (wI M3 231 15 (-1000000)) := GS_w G3
    have T4 := fn_D f4 T3
    have a12 : mi_ (wI M3 231 15 (-1000000)) 231 12 = nI i := by rw [wI_s, if_neg (by decide)]; exact e12
    have a13 : mi_ (wI M3 231 15 (-1000000)) 231 13 = nI i := by rw [wI_s, if_neg (by decide)]; exact e13
    rw [if_pos (nI_le (by omega) (by omega)), pI_ (O7 G3), Option.bind_some]
    generalize hM4 : wI M3 231 15 (-1000000) = M4 at f4 G4 T4 a12 a13
    have f5 : fn_ M4 (wI M4 231 14 1) := fn_w (by decide) (by decide)
    have G5 : GS (wI M4 231 14 1) := GS_w G4
    have T5 := fn_D f5 T4
    have b12 : mi_ (wI M4 231 14 1) 231 12 = nI i := by rw [wI_s, if_neg (by decide)]; exact a12
    have f6 : fn_ (wI M4 231 14 1) (wI (wI M4 231 14 1) 231 12 (nI i)) := fn_w (by decide) (by decide)
    have G6 : GS (wI (wI M4 231 14 1) 231 12 (nI i)) := GS_w G5
    have e14 : mi_ (wI (wI M4 231 14 1) 231 12 (nI i)) 231 14 = 1 := by rw [wI_s, if_neg (by decide), wI_s, if_pos rfl]
    rw [nt_b, gI_ (O7 G4) (f := 12), Option.bind_some, gI_ (O7 G4) (f := 11), Option.bind_some, a12, T4.2.1, if_pos (by rw [hit]), pI_ (O7 G4), Option.bind_some, nt_c, gI_ (O7 G5) (f := 12), Option.bind_some, Option.bind_some, gI_ (O7 G5) (f := 11), Option.bind_some, b12, T5.2.1, if_pos (nI_le (by omega) (by omega)), show nI i + (0 : Int32) = nI i from nI_add i 0, pI_ (O7 G5), Option.bind_some, nt_d, gI_ (O7 G6) (f := 14), Option.bind_some, e14, if_neg (by decide)]
    refine ⟨_, rfl, fn_t f3 (fn_t f4 (fn_t f5 f6)), ?_, ?_, ?_, fun q => ?_⟩
    · rw [wI_s, if_neg (by decide), wI_s, if_neg (by decide)]
      exact a13
    · rw [wI_s, if_pos rfl, tx_e hl]
    · rw [e14, tk_e hl]
      rfl
    · rw [tk_e hl] at q
      exact absurd q (by decide)
end MN
