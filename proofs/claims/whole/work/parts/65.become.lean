/-! ===== copies, changes of seats and lessons ===== -/
def wC (M : mM) (a b i j n : Nat) : mM := (M.1, M.2.1, fun q => if q = b then va_cpy (mi_ M a) (mi_ M b) i j n else mi_ M q, mr_ M)
theorem sh_c (M : mM) (a b i j n : Nat) : sh M (wC M a b i j n) := ⟨rfl, rfl, rfl⟩
theorem wC_o {M : mM} {a b i j n q : Nat} (h : q ≠ b) : mi_ (wC M a b i j n) q = mi_ M q := by simp [mi_, wC, h]
theorem wC_s {M : mM} {a b i j n : Nat} : mi_ (wC M a b i j n) b = va_cpy (mi_ M a) (mi_ M b) i j n := by simp [mi_, wC]
theorem wI_s {M : mM} {a p : Nat} {v : Int32} {q : Nat} : mi_ (wI M a p v) a q = if q = p then v else mi_ M a q := by rw [wI_i, if_pos rfl]
theorem cp_ {M : mM} {a b i j n x z : Nat} (ha : a < mz M) (hk : mk_ M a = (1, x)) (hb : b < mz M) (hl : mk_ M b = (1, z)) (h1 : i + n ≤ x) (h2 : j + n ≤ z) (hx : x < 2 ^ 31) (hz : z < 2 ^ 31) : cpI M a (nI i) b (nI j) (nI n) = some (wC M a b i j n) := by
  have c1 : (nI i).toNatClampNeg = i := nI_clamp (by omega)
  have c2 : (nI j).toNatClampNeg = j := nI_clamp (by omega)
  have c3 : (nI n).toNatClampNeg = n := nI_clamp (by omega)
  have p1 : ¬ nI i < 0 := nI_pos (by omega)
  have p2 : ¬ nI j < 0 := nI_pos (by omega)
  have p3 : ¬ nI n < 0 := nI_pos (by omega)
  unfold cpI
  rw [c1, c2, c3, hk, hl]
  rw [if_pos (by simp [ha, hb, p1, p2, p3, h1, h2])]
  rfl
def ln_ (a : Nat) : Nat := [0, 6, 8, 6, 6, 6, 36].getD a 0
theorem SK_a {M : mM} {k : Nat} (K : SK M k) {a : Nat} (h1 : 1 ≤ a) (h6 : a ≤ 6) : gR M k 5 (4 + a) = some (k + a) ∧ mk_ M (k + a) = (1, ln_ a) ∧ k + a < mz M := by
  have h := K.2.1
  rcases (show a = 1 ∨ a = 2 ∨ a = 3 ∨ a = 4 ∨ a = 5 ∨ a = 6 by omega) with rfl | rfl | rfl | rfl | rfl | rfl
  · exact ⟨r_1 K, K.2.2.1.1, by omega⟩
  · exact ⟨r_2 K, K.2.2.1.2.1, by omega⟩
  · exact ⟨r_3 K, K.2.2.1.2.2.1, by omega⟩
  · exact ⟨r_4 K, K.2.2.1.2.2.2.1, by omega⟩
  · exact ⟨r_5 K, K.2.2.1.2.2.2.2.1, by omega⟩
  · exact ⟨r_6 K, K.2.2.1.2.2.2.2.2, by omega⟩
section SB
variable {M : mM} {k j : Nat} {c : sT}
theorem be_f {ρ : Type} (Kk : SK M k) (Kj : SK M j) (f : Nat) (g : mM → Option ρ) : ((gI M j 5 f).bind fun v => (pI M k 5 f v).bind g) = g (wI M k f (mi_ M j f)) := by
  rw [gI_ Kj.1, Option.bind_some, pI_ Kk.1, Option.bind_some]
theorem be_a {ρ : Type} (Kk : SK M k) (Kj : SK M j) (a : Nat) (h1 : 1 ≤ a) (h6 : a ≤ 6) (g : mM → Option ρ) : ((gR M j 5 (4 + a)).bind fun b => (gR M k 5 (4 + a)).bind fun b' => (cpI M b (nI 0) b' (nI 0) (nI (ln_ a))).bind g) = g (wC M (j + a) (k + a) 0 0 (ln_ a)) := by
  obtain ⟨e1, e2, e3⟩ := SK_a Kk h1 h6
  obtain ⟨d1, d2, d3⟩ := SK_a Kj h1 h6
  have hl : ln_ a < 2 ^ 31 := by
    rcases (show a = 1 ∨ a = 2 ∨ a = 3 ∨ a = 4 ∨ a = 5 ∨ a = 6 by omega) with rfl | rfl | rfl | rfl | rfl | rfl <;> decide
  rw [d1, Option.bind_some, e1, Option.bind_some, cp_ d3 d2 e3 e2 (by omega) (by omega) hl hl, Option.bind_some]
theorem m_become (Kk : SK M k) (Kj : SK M j) (ap : k + 6 < j ∨ j + 6 < k) : ∃ N, m_X5_become M k j = some N ∧ fr k M N ∧ (∀ f, f < 5 → mi_ N k f = mi_ M j f) ∧ (∀ a, 1 ≤ a → a ≤ 6 → ∀ q, q < ln_ a → mi_ N (k + a) q = mi_ M (j + a) q) := by
  let M1 := wI M k 0 (mi_ M j 0)
  let M2 := wI M1 k 1 (mi_ M1 j 1)
  let M3 := wI M2 k 2 (mi_ M2 j 2)
  let M4 := wI M3 k 3 (mi_ M3 j 3)
  let M5 := wI M4 k 4 (mi_ M4 j 4)
  let N1 := wC M5 (j + 1) (k + 1) 0 0 6
  let N2 := wC N1 (j + 2) (k + 2) 0 0 8
  let N3 := wC N2 (j + 3) (k + 3) 0 0 6
  let N4 := wC N3 (j + 4) (k + 4) 0 0 6
  let N5 := wC N4 (j + 5) (k + 5) 0 0 6
  let N6 := wC N5 (j + 6) (k + 6) 0 0 36
  have s1 : sh M M1 := sh_w _ _ _ _
  have s2 : sh M M2 := sh_t s1 (sh_w _ _ _ _)
  have s3 : sh M M3 := sh_t s2 (sh_w _ _ _ _)
  have s4 : sh M M4 := sh_t s3 (sh_w _ _ _ _)
  have s5 : sh M M5 := sh_t s4 (sh_w _ _ _ _)
  have t1 : sh M N1 := sh_t s5 (sh_c _ _ _ _ _ _)
  have t2 : sh M N2 := sh_t t1 (sh_c _ _ _ _ _ _)
  have t3 : sh M N3 := sh_t t2 (sh_c _ _ _ _ _ _)
  have t4 : sh M N4 := sh_t t3 (sh_c _ _ _ _ _ _)
  have t5 : sh M N5 := sh_t t4 (sh_c _ _ _ _ _ _)
  have t6 : sh M N6 := sh_t t5 (sh_c _ _ _ _ _ _)
  -- the other school's cells stay
  have oj : ∀ a, a ≤ 6 → mi_ M1 (j + a) = mi_ M (j + a) ∧ mi_ M2 (j + a) = mi_ M (j + a) ∧ mi_ M3 (j + a) = mi_ M (j + a) ∧ mi_ M4 (j + a) = mi_ M (j + a) ∧ mi_ M5 (j + a) = mi_ M (j + a) := by
    intro a ha
    have e1 : mi_ M1 (j + a) = mi_ M (j + a) := wI_o (by omega)
    have e2 : mi_ M2 (j + a) = mi_ M1 (j + a) := wI_o (by omega)
    have e3 : mi_ M3 (j + a) = mi_ M2 (j + a) := wI_o (by omega)
    have e4 : mi_ M4 (j + a) = mi_ M3 (j + a) := wI_o (by omega)
    have e5 : mi_ M5 (j + a) = mi_ M4 (j + a) := wI_o (by omega)
    exact ⟨e1, e2.trans e1, e3.trans (e2.trans e1), e4.trans (e3.trans (e2.trans e1)), e5.trans (e4.trans (e3.trans (e2.trans e1)))⟩
  have on : ∀ a, a ≤ 6 → mi_ N1 (j + a) = mi_ M (j + a) ∧ mi_ N2 (j + a) = mi_ M (j + a) ∧ mi_ N3 (j + a) = mi_ M (j + a) ∧ mi_ N4 (j + a) = mi_ M (j + a) ∧ mi_ N5 (j + a) = mi_ M (j + a) := by
    intro a ha
    have e0 := (oj a ha).2.2.2.2
    have e1 : mi_ N1 (j + a) = mi_ M5 (j + a) := wC_o (by omega)
    have e2 : mi_ N2 (j + a) = mi_ N1 (j + a) := wC_o (by omega)
    have e3 : mi_ N3 (j + a) = mi_ N2 (j + a) := wC_o (by omega)
    have e4 : mi_ N4 (j + a) = mi_ N3 (j + a) := wC_o (by omega)
    have e5 : mi_ N5 (j + a) = mi_ N4 (j + a) := wC_o (by omega)
    rw [e0] at e1
    rw [e1] at e2
    rw [e2] at e3
    rw [e3] at e4
    rw [e4] at e5
    exact ⟨e1, e2, e3, e4, e5⟩
  have j0 := oj 0 (by decide)
  simp only [Nat.add_zero] at j0
  refine ⟨N6, ?_, ⟨t6, fun b hb => ?_⟩, fun f hf => ?_, fun a h1 h6 q hq => ?_⟩
  · rw [m_X5_become, be_f Kk Kj, be_f (Kk.sh s1) (Kj.sh s1), be_f (Kk.sh s2) (Kj.sh s2), be_f (Kk.sh s3) (Kj.sh s3), be_f (Kk.sh s4) (Kj.sh s4)]
    have b1 := fun g => be_a (ρ := mM) (Kk.sh s5) (Kj.sh s5) 1 (by decide) (by decide) g
    have b2 := fun g => be_a (ρ := mM) (Kk.sh t1) (Kj.sh t1) 2 (by decide) (by decide) g
    have b3 := fun g => be_a (ρ := mM) (Kk.sh t2) (Kj.sh t2) 3 (by decide) (by decide) g
    have b4 := fun g => be_a (ρ := mM) (Kk.sh t3) (Kj.sh t3) 4 (by decide) (by decide) g
    have b5 := fun g => be_a (ρ := mM) (Kk.sh t4) (Kj.sh t4) 5 (by decide) (by decide) g
    have b6 := fun g => be_a (ρ := mM) (Kk.sh t5) (Kj.sh t5) 6 (by decide) (by decide) g
    refine (b1 _).trans ?_
    refine (b2 _).trans ?_
    refine (b3 _).trans ?_
    refine (b4 _).trans ?_
    refine (b5 _).trans ?_
    exact b6 _
  · have e1 : mi_ M1 b = mi_ M b := wI_o (by omega)
    have e2 : mi_ M2 b = mi_ M1 b := wI_o (by omega)
    have e3 : mi_ M3 b = mi_ M2 b := wI_o (by omega)
    have e4 : mi_ M4 b = mi_ M3 b := wI_o (by omega)
    have e5 : mi_ M5 b = mi_ M4 b := wI_o (by omega)
    have d1 : mi_ N1 b = mi_ M5 b := wC_o (by omega)
    have d2 : mi_ N2 b = mi_ N1 b := wC_o (by omega)
    have d3 : mi_ N3 b = mi_ N2 b := wC_o (by omega)
    have d4 : mi_ N4 b = mi_ N3 b := wC_o (by omega)
    have d5 : mi_ N5 b = mi_ N4 b := wC_o (by omega)
    have d6 : mi_ N6 b = mi_ N5 b := wC_o (by omega)
    rw [d6, d5, d4, d3, d2, d1, e5, e4, e3, e2, e1]
  · have d1 : mi_ N1 k = mi_ M5 k := wC_o (by omega)
    have d2 : mi_ N2 k = mi_ N1 k := wC_o (by omega)
    have d3 : mi_ N3 k = mi_ N2 k := wC_o (by omega)
    have d4 : mi_ N4 k = mi_ N3 k := wC_o (by omega)
    have d5 : mi_ N5 k = mi_ N4 k := wC_o (by omega)
    have d6 : mi_ N6 k = mi_ N5 k := wC_o (by omega)
    rw [d6, d5, d4, d3, d2, d1]
    have f5 : mi_ M5 k f = if f = 4 then mi_ M4 j 4 else mi_ M4 k f := wI_s
    have f4 : mi_ M4 k f = if f = 3 then mi_ M3 j 3 else mi_ M3 k f := wI_s
    have f3 : mi_ M3 k f = if f = 2 then mi_ M2 j 2 else mi_ M2 k f := wI_s
    have f2 : mi_ M2 k f = if f = 1 then mi_ M1 j 1 else mi_ M1 k f := wI_s
    have f1 : mi_ M1 k f = if f = 0 then mi_ M j 0 else mi_ M k f := wI_s
    rw [f5, f4, f3, f2, f1, j0.1, j0.2.1, j0.2.2.1, j0.2.2.2.1]
    rcases (show f = 0 ∨ f = 1 ∨ f = 2 ∨ f = 3 ∨ f = 4 by omega) with rfl | rfl | rfl | rfl | rfl <;> rfl
  · have cp : ∀ (f g : Nat → Int32) (n q : Nat), q < n → va_cpy f g 0 0 n q = f q := fun f g n q h => by rw [pk_cpy_in (Nat.zero_le _) (by omega)]; congr 1; omega
    rcases (show a = 1 ∨ a = 2 ∨ a = 3 ∨ a = 4 ∨ a = 5 ∨ a = 6 by omega) with rfl | rfl | rfl | rfl | rfl | rfl
    · have e6 : mi_ N6 (k + 1) = mi_ N5 (k + 1) := wC_o (by omega)
      have e5 : mi_ N5 (k + 1) = mi_ N4 (k + 1) := wC_o (by omega)
      have e4 : mi_ N4 (k + 1) = mi_ N3 (k + 1) := wC_o (by omega)
      have e3 : mi_ N3 (k + 1) = mi_ N2 (k + 1) := wC_o (by omega)
      have e2 : mi_ N2 (k + 1) = mi_ N1 (k + 1) := wC_o (by omega)
      have e1 : mi_ N1 (k + 1) = va_cpy (mi_ M5 (j + 1)) (mi_ M5 (k + 1)) 0 0 6 := wC_s
      rw [e6, e5, e4, e3, e2, e1, cp _ _ 6 _ hq, (oj 1 (by decide)).2.2.2.2]
    · have e6 : mi_ N6 (k + 2) = mi_ N5 (k + 2) := wC_o (by omega)
      have e5 : mi_ N5 (k + 2) = mi_ N4 (k + 2) := wC_o (by omega)
      have e4 : mi_ N4 (k + 2) = mi_ N3 (k + 2) := wC_o (by omega)
      have e3 : mi_ N3 (k + 2) = mi_ N2 (k + 2) := wC_o (by omega)
      have e1 : mi_ N2 (k + 2) = va_cpy (mi_ N1 (j + 2)) (mi_ N1 (k + 2)) 0 0 8 := wC_s
      rw [e6, e5, e4, e3, e1, cp _ _ 8 _ hq, (on 2 (by decide)).1]
    · have e6 : mi_ N6 (k + 3) = mi_ N5 (k + 3) := wC_o (by omega)
      have e5 : mi_ N5 (k + 3) = mi_ N4 (k + 3) := wC_o (by omega)
      have e4 : mi_ N4 (k + 3) = mi_ N3 (k + 3) := wC_o (by omega)
      have e1 : mi_ N3 (k + 3) = va_cpy (mi_ N2 (j + 3)) (mi_ N2 (k + 3)) 0 0 6 := wC_s
      rw [e6, e5, e4, e1, cp _ _ 6 _ hq, (on 3 (by decide)).2.1]
    · have e6 : mi_ N6 (k + 4) = mi_ N5 (k + 4) := wC_o (by omega)
      have e5 : mi_ N5 (k + 4) = mi_ N4 (k + 4) := wC_o (by omega)
      have e1 : mi_ N4 (k + 4) = va_cpy (mi_ N3 (j + 4)) (mi_ N3 (k + 4)) 0 0 6 := wC_s
      rw [e6, e5, e1, cp _ _ 6 _ hq, (on 4 (by decide)).2.2.1]
    · have e6 : mi_ N6 (k + 5) = mi_ N5 (k + 5) := wC_o (by omega)
      have e1 : mi_ N5 (k + 5) = va_cpy (mi_ N4 (j + 5)) (mi_ N4 (k + 5)) 0 0 6 := wC_s
      rw [e6, e1, cp _ _ 6 _ hq, (on 5 (by decide)).2.2.2.1]
    · have e1 : mi_ N6 (k + 6) = va_cpy (mi_ N5 (j + 6)) (mi_ N5 (k + 6)) 0 0 36 := wC_s
      rw [e1, cp _ _ 36 _ hq, (on 6 (by decide)).2.2.2.2]
theorem SA_cp {N : mM} (w : c 0 1 ≤ 6 ∧ c 0 2 ≤ 8 ∧ c 0 3 ≤ 6) (A : SA M j c) (h0 : ∀ f, f < 5 → mi_ N k f = mi_ M j f) (ha : ∀ a, 1 ≤ a → a ≤ 6 → ∀ q, q < ln_ a → mi_ N (k + a) q = mi_ M (j + a) q) : SA N k c := by
  obtain ⟨A0, A1, A2, A3, A4, A5, A6⟩ := A
  obtain ⟨w1, w2, w3⟩ := w
  exact ⟨fun q hq => (h0 q hq).trans (A0 q hq), fun q hq => (ha 1 (by decide) (by decide) q (show q < 6 by omega)).trans (A1 q hq), fun q hq => (ha 2 (by decide) (by decide) q (show q < 8 by omega)).trans (A2 q hq), fun q hq => (ha 3 (by decide) (by decide) q (show q < 6 by omega)).trans (A3 q hq), fun q hq => (ha 4 (by decide) (by decide) q (show q < 6 by omega)).trans (A4 q hq), fun q hq => (ha 5 (by decide) (by decide) q (show q < 6 by omega)).trans (A5 q hq), fun p hp s hs => (ha 6 (by decide) (by decide) _ (show p * 6 + s < 36 by omega)).trans (A6 p hp s hs)⟩
theorem m_be (Kk : SK M k) (Kj : SK M j) (ap : k + 6 < j ∨ j + 6 < k) (w : c 0 1 ≤ 6 ∧ c 0 2 ≤ 8 ∧ c 0 3 ≤ 6) (A : SA M j c) : ∃ N, m_X5_become M k j = some N ∧ SA N k c ∧ fr k M N := by
  obtain ⟨N, g1, g2, g3, g4⟩ := m_become Kk Kj ap
  exact ⟨N, g1, SA_cp w A g3 g4, g2⟩
theorem wf_b (w : wf c) : c 0 1 ≤ 6 ∧ c 0 2 ≤ 8 ∧ c 0 3 ≤ 6 := ⟨w.2.1.2, w.2.2.1.2, w.2.2.2.1.2⟩
end SB
