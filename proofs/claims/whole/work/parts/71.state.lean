/-! ===== one state for both sides ===== -/
/-- a school that is none (all counts 0), or a sound one -/
def vs (c : sT) : Prop := (∀ j, j < 5 → c 0 j = 0) ∨ (wf c ∧ iv c ∧ c 0 4 ≤ 999)
def Cn (M : mM) (c : sT) : Prop := SA M 2 c ∧ vs c
def Ci (M : mM) (g : Nat → sT) : Prop := ∀ k, k < 2 → SA M (217 + 7 * k) (g k) ∧ vs (g k)
def Ca (M : mM) (kp : Nat) (hs : Nat → sT) : Prop := kp ≤ 24 ∧ ∃ lt, lt < 24 ∧ mi_ M 10 1 = nI lt ∧ mi_ M 10 2 = nI kp ∧ ∀ j, j < kp → SA M (12 + 7 * ((lt + 24 - j) % 24)) (hs j) ∧ wf (hs j) ∧ iv (hs j) ∧ hs j 0 4 ≤ 999
def Cr (M : mM) (rl rs : Nat → Nat) (ri : Nat → Nat → Int32) : Prop := ∀ r, r < 8 → mi_ M (201 + 2 * r) 1 = b2 (decide (rl r ≠ 0)) ∧ (rl r ≠ 0 → rl r ≤ 3 ∧ rs r ≤ 40 ∧ mi_ M (201 + 2 * r) 2 = nI (rl r - 1) ∧ mi_ M (201 + 2 * r) 3 = nI (rs r) ∧ ∀ i, i < 40 → mi_ M (202 + 2 * r) i = ri r i)
def Ct (M : mM) (tp : Nat → Nat) (tn : Nat) : Prop := tn ≤ 120 ∧ mi_ M 180 2 = nI tn ∧ ∀ j, j < tn → mi_ M 181 j = nI (tp j) ∧ tp j < 256
def Cf (M : mM) (f : Nat) : Prop := f ≤ 3 ∧ mi_ M 180 3 = nI f
def Cb (M : mM) (tr : Nat → Nat) (tc : Nat) : Prop := tc ≤ 16 ∧ mi_ M 199 1 = nI tc ∧ ∀ j, j < tc → mi_ M 200 j = nI (tr j)
def Cs (M : mM) (su : Nat) : Prop := mi_ M 0 7 = nI su
def Dn (M : mM) (c : sT) : Prop := RC_ (mi_ M 235) c ∧ vs c
def Di (M : mM) (g : Nat → sT) : Prop := ∀ k, k < 2 → mi_ M 243 k = b2 (decide (g k 0 3 ≠ 0)) ∧ vs (g k) ∧ (g k 0 3 ≠ 0 → RC_ (fun q => mi_ M 244 (73 * k + q)) (g k))
def Da (M : mM) (kp : Nat) (hs : Nat → sT) : Prop := kp ≤ 24 ∧ mi_ M 231 9 = nI kp ∧ ∀ j, j < kp → RC_ (fun q => mi_ M 238 (73 * (kp - 1 - j) + q)) (hs j) ∧ wf (hs j) ∧ iv (hs j) ∧ hs j 0 4 ≤ 999
def Dr (M : mM) (rl rs : Nat → Nat) (ri : Nat → Nat → Int32) : Prop := ∀ r, r < 8 → mi_ M 232 r = (if rl r = 0 then -1 else nI (rl r - 1)) ∧ (rl r ≠ 0 → rl r ≤ 3 ∧ rs r ≤ 40 ∧ mi_ M 233 r = nI (rs r) ∧ ∀ i, i < 40 → mi_ M 234 (40 * r + i) = ri r i)
def Dt (M : mM) (tp : Nat → Nat) (tn : Nat) : Prop := tn ≤ 120 ∧ mi_ M 231 11 = nI tn ∧ ∀ j, j < tn → mi_ M 239 j = nI (tp j) ∧ tp j < 256
def Df (M : mM) (f : Nat) : Prop := f ≤ 3 ∧ mi_ M 231 18 = nI f
def Db (M : mM) (tr : Nat → Nat) (tc : Nat) : Prop := tc ≤ 16 ∧ mi_ M 231 25 = nI tc ∧ ∀ j, j < tc → mi_ M 245 j = nI (tr j)
def Ds (M : mM) (su : Nat) : Prop := mi_ M 231 1 = nI su
/-- the state: school, images, acts (how many, the latest first), rows (lane and 1, or 0; sizes; items), tape, latest fault, trace, status -/
abbrev aS : Type := sT × (Nat → sT) × (Nat × (Nat → sT)) × ((Nat → Nat) × (Nat → Nat) × (Nat → Nat → Int32)) × ((Nat → Nat) × Nat) × Nat × ((Nat → Nat) × Nat) × Nat
abbrev aN (A : aS) : sT := A.1
abbrev aI (A : aS) : Nat → sT := A.2.1
abbrev aK (A : aS) : Nat × (Nat → sT) := A.2.2.1
abbrev aR (A : aS) : (Nat → Nat) × (Nat → Nat) × (Nat → Nat → Int32) := A.2.2.2.1
abbrev aT (A : aS) : (Nat → Nat) × Nat := A.2.2.2.2.1
abbrev aF (A : aS) : Nat := A.2.2.2.2.2.1
abbrev aB (A : aS) : (Nat → Nat) × Nat := A.2.2.2.2.2.2.1
abbrev aU (A : aS) : Nat := A.2.2.2.2.2.2.2
def CX (A : aS) (M : mM) : Prop := Cn M (aN A) ∧ Ci M (aI A) ∧ Ca M (aK A).1 (aK A).2 ∧ Cr M (aR A).1 (aR A).2.1 (aR A).2.2 ∧ Ct M (aT A).1 (aT A).2 ∧ Cf M (aF A) ∧ Cb M (aB A).1 (aB A).2 ∧ Cs M (aU A)
def CM (A : aS) (M : mM) : Prop := Dn M (aN A) ∧ Di M (aI A) ∧ Da M (aK A).1 (aK A).2 ∧ Dr M (aR A).1 (aR A).2.1 (aR A).2.2 ∧ Dt M (aT A).1 (aT A).2 ∧ Df M (aF A) ∧ Db M (aB A).1 (aB A).2 ∧ Ds M (aU A)
def lo_ (M N : mM) : Prop := ∀ b, b < 231 → mi_ N b = mi_ M b
def hi_ (M N : mM) : Prop := ∀ b, 231 ≤ b → mi_ N b = mi_ M b
/-- what an answer on the component's side is, and the state behind it -/
def opX (o : Option (mM × Int32)) (M : mM) (A : aS) (r : Int32) : Prop := ∃ N, o = some (N, r) ∧ GS N ∧ CX A N ∧ hi_ M N
def opM (o : Option (mM × Int32)) (M : mM) (A : aS) (r : Int32) : Prop := ∃ N, o = some (N, r) ∧ GS N ∧ CM A N ∧ lo_ M N
section ST
variable {M N : mM}
theorem Cn.o {c : sT} (h : Cn M c) (e : ∀ b, 2 ≤ b → b ≤ 8 → mi_ N b = mi_ M b) : Cn N c := ⟨h.1.o (fun a ha => e (2 + a) (by omega) (by omega)), h.2⟩
theorem Ci.o {g : Nat → sT} (h : Ci M g) (e : ∀ b, 217 ≤ b → b ≤ 230 → mi_ N b = mi_ M b) : Ci N g := fun k hk => ⟨(h k hk).1.o (fun a ha => e _ (by omega) (by omega)), (h k hk).2⟩
theorem Ca.o {kp : Nat} {hs : Nat → sT} (h : Ca M kp hs) (e1 : mi_ N 10 1 = mi_ M 10 1) (e2 : mi_ N 10 2 = mi_ M 10 2) (e : ∀ b, 12 ≤ b → b ≤ 179 → mi_ N b = mi_ M b) : Ca N kp hs := by
  obtain ⟨h0, lt, h1, h2, h3, h4⟩ := h
  refine ⟨h0, lt, h1, e1.trans h2, e2.trans h3, fun j hj => ⟨(h4 j hj).1.o (fun a ha => e _ (by omega) ?_), (h4 j hj).2⟩⟩
  have : (lt + 24 - j) % 24 < 24 := Nat.mod_lt _ (by decide)
  omega
theorem Cr.o {rl rs : Nat → Nat} {ri : Nat → Nat → Int32} (h : Cr M rl rs ri) (e : ∀ b, 201 ≤ b → b ≤ 216 → mi_ N b = mi_ M b) : Cr N rl rs ri := fun r hr => by
  rw [e _ (by omega) (by omega), e (202 + 2 * r) (by omega) (by omega)]
  exact h r hr
theorem Ct.o {tp : Nat → Nat} {tn : Nat} (h : Ct M tp tn) (e1 : mi_ N 180 2 = mi_ M 180 2) (e2 : mi_ N 181 = mi_ M 181) : Ct N tp tn := ⟨h.1, e1.trans h.2.1, fun j hj => by rw [e2]; exact h.2.2 j hj⟩
theorem Cf.o {f : Nat} (h : Cf M f) (e : mi_ N 180 3 = mi_ M 180 3) : Cf N f := ⟨h.1, e.trans h.2⟩
theorem Cb.o {tr : Nat → Nat} {tc : Nat} (h : Cb M tr tc) (e1 : mi_ N 199 1 = mi_ M 199 1) (e2 : mi_ N 200 = mi_ M 200) : Cb N tr tc := ⟨h.1, e1.trans h.2.1, fun j hj => by rw [e2]; exact h.2.2 j hj⟩
theorem Cs.o {u : Nat} (h : Cs M u) (e : mi_ N 0 7 = mi_ M 0 7) : Cs N u := e.trans h
theorem Dn.o {c : sT} (h : Dn M c) (e : mi_ N 235 = mi_ M 235) : Dn N c := ⟨by rw [e]; exact h.1, h.2⟩
theorem Di.o {g : Nat → sT} (h : Di M g) (e1 : mi_ N 243 = mi_ M 243) (e2 : mi_ N 244 = mi_ M 244) : Di N g := fun k hk => by rw [e1, e2]; exact h k hk
theorem Da.o {kp : Nat} {hs : Nat → sT} (h : Da M kp hs) (e1 : mi_ N 231 9 = mi_ M 231 9) (e2 : mi_ N 238 = mi_ M 238) : Da N kp hs := ⟨h.1, e1.trans h.2.1, fun j hj => by rw [e2]; exact h.2.2 j hj⟩
theorem Dr.o {rl rs : Nat → Nat} {ri : Nat → Nat → Int32} (h : Dr M rl rs ri) (e1 : mi_ N 232 = mi_ M 232) (e2 : mi_ N 233 = mi_ M 233) (e3 : mi_ N 234 = mi_ M 234) : Dr N rl rs ri := fun r hr => by rw [e1, e2, e3]; exact h r hr
theorem Dt.o {tp : Nat → Nat} {tn : Nat} (h : Dt M tp tn) (e1 : mi_ N 231 11 = mi_ M 231 11) (e2 : mi_ N 239 = mi_ M 239) : Dt N tp tn := ⟨h.1, e1.trans h.2.1, fun j hj => by rw [e2]; exact h.2.2 j hj⟩
theorem Df.o {f : Nat} (h : Df M f) (e : mi_ N 231 18 = mi_ M 231 18) : Df N f := ⟨h.1, e.trans h.2⟩
theorem Db.o {tr : Nat → Nat} {tc : Nat} (h : Db M tr tc) (e1 : mi_ N 231 25 = mi_ M 231 25) (e2 : mi_ N 245 = mi_ M 245) : Db N tr tc := ⟨h.1, e1.trans h.2.1, fun j hj => by rw [e2]; exact h.2.2 j hj⟩
theorem Ds.o {u : Nat} (h : Ds M u) (e : mi_ N 231 1 = mi_ M 231 1) : Ds N u := e.trans h
theorem CX_lo {A : aS} (h : CX A M) (e : lo_ M N) : CX A N := by
  obtain ⟨h1, h2, h3, h4, h5, h6, h7, h8⟩ := h
  exact ⟨h1.o (fun b _ _ => e b (by omega)), h2.o (fun b _ _ => e b (by omega)), h3.o (by rw [e 10 (by decide)]) (by rw [e 10 (by decide)]) (fun b _ _ => e b (by omega)), h4.o (fun b _ _ => e b (by omega)), h5.o (by rw [e 180 (by decide)]) (e 181 (by decide)), h6.o (by rw [e 180 (by decide)]), h7.o (by rw [e 199 (by decide)]) (e 200 (by decide)), h8.o (by rw [e 0 (by decide)])⟩
theorem CM_hi {A : aS} (h : CM A M) (e : hi_ M N) : CM A N := by
  obtain ⟨h1, h2, h3, h4, h5, h6, h7, h8⟩ := h
  exact ⟨h1.o (e _ (by decide)), h2.o (e _ (by decide)) (e _ (by decide)), h3.o (by rw [e 231 (by decide)]) (e _ (by decide)), h4.o (e _ (by decide)) (e _ (by decide)) (e _ (by decide)), h5.o (by rw [e 231 (by decide)]) (e _ (by decide)), h6.o (by rw [e 231 (by decide)]), h7.o (by rw [e 231 (by decide)]) (e _ (by decide)), h8.o (by rw [e 231 (by decide)])⟩
/-- the model's first act of each call: thrown = 0 -/
theorem thr {ρ : Type} (G : GS M) (g : mM → Option ρ) : ((pI M 231 7 0 (0 : Int32)).bind g) = g (wI M 231 0 0) := by
  rw [pI_ (G.o (by decide) (by decide +kernel)), Option.bind_some]
theorem thr_M {A : aS} (h : CM A M) : CM A (wI M 231 0 0) := by
  obtain ⟨h1, h2, h3, h4, h5, h6, h7, h8⟩ := h
  have o : ∀ b, b ≠ 231 → mi_ (wI M 231 0 0) b = mi_ M b := fun b hb => wI_o hb
  have f : ∀ q, q ≠ 0 → mi_ (wI M 231 0 0) 231 q = mi_ M 231 q := fun q hq => by rw [wI_s, if_neg hq]
  exact ⟨h1.o (o _ (by decide)), h2.o (o _ (by decide)) (o _ (by decide)), h3.o (f _ (by decide)) (o _ (by decide)), h4.o (o _ (by decide)) (o _ (by decide)) (o _ (by decide)), h5.o (f _ (by decide)) (o _ (by decide)), h6.o (f _ (by decide)), h7.o (f _ (by decide)) (o _ (by decide)), h8.o (f _ (by decide))⟩
theorem thr_G (G : GS M) : GS (wI M 231 0 0) := G.sh (sh_w _ _ _ _)
theorem thr_l : lo_ M (wI M 231 0 0) := fun b hb => wI_o (by omega)
theorem hi_r : hi_ M M := fun _ _ => rfl
theorem lo_r : lo_ M M := fun _ _ => rfl
theorem O6 (G : GS M) : isO M 0 6 = true := G.o (by decide) (by decide +kernel)
theorem O7 (G : GS M) : isO M 231 7 = true := G.o (by decide) (by decide +kernel)
theorem R6n (G : GS M) : gR M 0 6 1 = some 2 := gR_ (O6 G) (G.r (by decide +kernel))
theorem R6a (G : GS M) : gR M 0 6 3 = some 10 := gR_ (O6 G) (G.r (by decide +kernel))
theorem R6r (G : GS M) : gR M 0 6 4 = some 180 := gR_ (O6 G) (G.r (by decide +kernel))
theorem R6f (G : GS M) : gR M 0 6 5 = some 189 := gR_ (O6 G) (G.r (by decide +kernel))
theorem R6k (G : GS M) : gR M 0 6 6 = some 199 := gR_ (O6 G) (G.r (by decide +kernel))
theorem R6w (G : GS M) : gR M 0 6 0 = some 1 := gR_ (O6 G) (G.r (by decide +kernel))
theorem R6i (G : GS M) : gR M 0 6 2 = some 9 := gR_ (O6 G) (G.r (by decide +kernel))
theorem R7s (G : GS M) : gR M 231 7 5 = some 235 := gR_ (O7 G) (G.r (by decide +kernel))
theorem R7t (G : GS M) : gR M 231 7 7 = some 237 := gR_ (O7 G) (G.r (by decide +kernel))
theorem A7s (G : GS M) : AK M 235 := G.ak (by decide) (by decide +kernel)
theorem A7t (G : GS M) : AK M 237 := G.ak (by decide) (by decide +kernel)
theorem Sn (G : GS M) : SK M 2 := G.s sk_now
theorem Sw (G : GS M) : SK M 190 := G.s sk_work
/-- whether there is such a pupil, subject, lesson -/
theorem sb_t {P : Nat} (hP : P ≤ 100) : (nI P - 1).toInt = (P : Int) - 1 := pk_sub_toInt (a := P) (b := 1) (by omega) (by decide)
theorem vs_b {c : sT} (v : vs c) : c 0 1 ≤ 6 ∧ c 0 2 ≤ 8 ∧ c 0 3 ≤ 6 := by
  rcases v with h | h
  · rw [h 1 (by decide), h 2 (by decide), h 3 (by decide)]
    decide
  · exact wf_b h.1
theorem vs_w {c : sT} (v : vs c) {j : Nat} (hj : j < 5) (h : c 0 j ≠ 0) : wf c ∧ iv c ∧ c 0 4 ≤ 999 := by
  rcases v with q | q
  · exact absurd (q j hj) h
  · exact q
theorem m_noP {c : sT} (G : GS M) (h : Cn M c) (x : Int32) : m_X6_noPupil M 0 x = some (b2 (!rg x 0 ((c 0 3 : Int) - 1))) := by
  have b := vs_b h.2
  rw [m_X6_noPupil, R6n G, Option.bind_some, g_s (Sn G) h.1 (j := 3) (by decide), Option.bind_some, m_out, Option.bind_some, if_pos (b2_01 _), sb_t (by omega)]
  rfl
theorem m_noJ {c : sT} (G : GS M) (h : Cn M c) (x : Int32) : m_X6_noSubject M 0 x = some (b2 (!rg x 0 ((c 0 1 : Int) - 1))) := by
  have b := vs_b h.2
  rw [m_X6_noSubject, R6n G, Option.bind_some, g_s (Sn G) h.1 (j := 1) (by decide), Option.bind_some, m_out, Option.bind_some, if_pos (b2_01 _), sb_t (by omega)]
  rfl
theorem m_noD {c : sT} (G : GS M) (h : Cn M c) (x : Int32) : m_X6_noLesson M 0 x = some (b2 (!rg x 0 ((c 0 2 : Int) - 1))) := by
  have b := vs_b h.2
  rw [m_X6_noLesson, R6n G, Option.bind_some, g_s (Sn G) h.1 (j := 2) (by decide), Option.bind_some, m_out, Option.bind_some, if_pos (b2_01 _), sb_t (by omega)]
  rfl
theorem m_noS {c : sT} (G : GS M) (h : Cn M c) : m_X6_noSchool M 0 = some (b2 (decide (c 0 3 = 0))) := by
  have b := vs_b h.2
  rw [m_X6_noSchool, R6n G, Option.bind_some, g_s (Sn G) h.1 (j := 3) (by decide), Option.bind_some]
  by_cases q : c 0 3 = 0
  · rw [if_pos ((nI_e0 (by omega)).mpr q)]
    simp [q, b2]
  · rw [if_neg (fun z => q ((nI_e0 (by omega)).mp z))]
    simp [q, b2]
theorem m_isP {c : sT} (G : GS M) (h : Dn M c) (x : Int32) : m_X7_isPupil M 231 x = some (b2 (rg x 0 ((c 0 3 : Int) - 1))) := by
  have b := vs_b h.2
  rw [m_X7_isPupil, R7s G, Option.bind_some, l_P (A7s G) h.1, Option.bind_some, m_in7, Option.bind_some, if_pos (b2_01 _), Int32.toInt_toInt64, sb_t (by omega)]
  rfl
theorem m_isJ {c : sT} (G : GS M) (h : Dn M c) (x : Int32) : m_X7_isSubject M 231 x = some (b2 (rg x 0 ((c 0 1 : Int) - 1))) := by
  have b := vs_b h.2
  rw [m_X7_isSubject, R7s G, Option.bind_some, l_J (A7s G) h.1, Option.bind_some, m_in7, Option.bind_some, if_pos (b2_01 _), Int32.toInt_toInt64, sb_t (by omega)]
  rfl
theorem m_isD {c : sT} (G : GS M) (h : Dn M c) (x : Int32) : m_X7_isLesson M 231 x = some (b2 (rg x 0 ((c 0 2 : Int) - 1))) := by
  have b := vs_b h.2
  rw [m_X7_isLesson, R7s G, Option.bind_some, l_D (A7s G) h.1, Option.bind_some, m_in7, Option.bind_some, if_pos (b2_01 _), Int32.toInt_toInt64, sb_t (by omega)]
  rfl
theorem m_isT {c : sT} (G : GS M) (h : Dn M c) : m_X7_isThere M 231 = some (b2 (decide (c 0 3 ≠ 0))) := by
  have b := vs_b h.2
  rw [m_X7_isThere, R7s G, Option.bind_some, l_P (A7s G) h.1, Option.bind_some]
  by_cases q : c 0 3 = 0
  · rw [if_pos (show nI (c 0 3) ≤ (0 : Int32) from (nI_le (by omega) (by decide) : _ ≤ nI 0))]
    simp [q, b2]
  · rw [if_neg (show ¬ nI (c 0 3) ≤ (0 : Int32) from (nI_ge (by omega) (by omega) : ¬ _ ≤ nI 0))]
    simp [q, b2]
theorem rg_s {x : Int32} {P : Nat} (h : rg x 0 ((P : Int) - 1) = true) : ∃ p, p < P ∧ x = nI p := by
  cases P with
  | zero =>
    simp only [rg, Bool.and_eq_true, decide_eq_true_eq] at h
    omega
  | succ n =>
    rw [show ((n + 1 : Nat) : Int) - 1 = (n : Int) by omega] at h
    obtain ⟨p, hp, e⟩ := rg_n h
    exact ⟨p, by omega, e⟩
end ST
/-! the beginning -/
def A0 : aS := ((fun _ _ => 0), (fun _ _ _ => 0), (0, fun _ _ _ => 0), ((fun _ => 0), (fun _ => 0), (fun _ _ => 0)), ((fun _ => 0), 0), 0, ((fun _ => 0), 0), 0)
theorem CX_0 : CX A0 M0 := by
  refine ⟨⟨⟨?_, fun j h => absurd h (Nat.not_lt_zero _), fun j h => absurd h (Nat.not_lt_zero _), fun j h => absurd h (Nat.not_lt_zero _), fun j h => absurd h (Nat.not_lt_zero _), fun j h => absurd h (Nat.not_lt_zero _), fun j h => absurd h (Nat.not_lt_zero _)⟩, Or.inl (fun _ _ => rfl)⟩, fun k hk => ⟨⟨?_, fun j h => absurd h (Nat.not_lt_zero _), fun j h => absurd h (Nat.not_lt_zero _), fun j h => absurd h (Nat.not_lt_zero _), fun j h => absurd h (Nat.not_lt_zero _), fun j h => absurd h (Nat.not_lt_zero _), fun j h => absurd h (Nat.not_lt_zero _)⟩, Or.inl (fun _ _ => rfl)⟩, ⟨by decide, 0, by decide, by decide +kernel, by decide +kernel, fun j h => absurd h (Nat.not_lt_zero _)⟩, fun r hr => ⟨?_, fun h => absurd rfl h⟩, ⟨by decide, by decide +kernel, fun j h => absurd h (Nat.not_lt_zero _)⟩, ⟨by decide, by decide +kernel⟩, ⟨by decide, by decide +kernel, fun j h => absurd h (Nat.not_lt_zero _)⟩, by show mi_ M0 0 7 = nI 0; decide +kernel⟩
  · show ∀ j, j < 5 → mi_ M0 2 j = nI 0
    decide +kernel
  · have : ∀ k, k < 2 → ∀ j, j < 5 → mi_ M0 (217 + 7 * k) j = nI 0 := by decide +kernel
    exact this k hk
  · have : ∀ r, r < 8 → mi_ M0 (201 + 2 * r) 1 = b2 false := by decide +kernel
    exact this r hr
theorem CM_0 : CM A0 M0 := by
  refine ⟨⟨⟨⟨by decide +kernel, by decide +kernel, by decide +kernel, by decide +kernel, by decide +kernel⟩, fun j h => absurd h (Nat.not_lt_zero _), fun j h => absurd h (Nat.not_lt_zero _), fun j h => absurd h (Nat.not_lt_zero _), fun j h => absurd h (Nat.not_lt_zero _), fun j h => absurd h (Nat.not_lt_zero _), fun j h => absurd h (Nat.not_lt_zero _)⟩, Or.inl (fun _ _ => rfl)⟩, fun k hk => ⟨?_, Or.inl (fun _ _ => rfl), fun h => absurd rfl h⟩, ⟨by decide, by decide +kernel, fun j h => absurd h (Nat.not_lt_zero _)⟩, fun r hr => ⟨?_, fun h => absurd rfl h⟩, ⟨by decide, by decide +kernel, fun j h => absurd h (Nat.not_lt_zero _)⟩, ⟨by decide, by decide +kernel⟩, ⟨by decide, by decide +kernel, fun j h => absurd h (Nat.not_lt_zero _)⟩, by show mi_ M0 231 1 = nI 0; decide +kernel⟩
  · have : ∀ k, k < 2 → mi_ M0 243 k = b2 false := by decide +kernel
    exact this k hk
  · have : ∀ r, r < 8 → mi_ M0 232 r = -1 := by decide +kernel
    exact this r hr
