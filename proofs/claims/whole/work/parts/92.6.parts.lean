/-! ===== school: the component's parts, the whole tape ===== -/
def rpT_ (M : mM) (x0 : Nat) (x1 : Int32) : Option (mM × Int32) :=
  (gI M x0 3 4).bind fun v3 => if isO M x0 3 = true then (m_X3_isFull M x0 x1).bind fun v6 => if v6 = (0 : Int32) then (if isO M x0 3 = true then (m_X3_goOn M x0).bind fun M9 => (gI M9 x0 3 4).bind fun v10 => if v10 = (-2 : Int32) then ((gI M9 x0 3 6).bind fun v13 => if isO M9 x0 3 = true then (m_X3_limit M9 x0 x1).bind fun v16 => if v13 < v16 then (if isO M9 x0 3 = true then (m_X3_add M9 x0 x1 v3).bind fun M19 => if isO M19 x0 3 = true then (m_X3_goOn M19 x0).bind fun M21 => (gI M21 x0 3 4).bind fun v22 => if v22 = (59 : Int32) then some (M21, (0 : Int32)) else some (M21, (1 : Int32)) else none else none) else some (M9, (2 : Int32)) else none) else some (M9, (1 : Int32)) else none) else some (M, (3 : Int32)) else none
theorem rp_eq (M : mM) (x0 : Nat) (x1 x2 : Int32) : m_X3_readPart M x0 x1 x2 = if x1 = (-1 : Int32) then some (M, (1 : Int32)) else if x1 = x2 + (1 : Int32) then rpT_ M x0 x1 else if x1 = x2 then (if x1 = (0 : Int32) then some (M, (1 : Int32)) else rpT_ M x0 x1) else some (M, (1 : Int32)) := rfl
theorem okp_s {l p : Nat} (h : okp_ l p = true) : p ≠ 0 ∧ (p = l + 1 ∨ (p = l ∧ p ≠ 1)) := by
  simpa [okp_] using h
theorem okp_n {l p : Nat} (h : okp_ l p = false) : p = 0 ∨ (p ≠ l + 1 ∧ (p ≠ l ∨ p = 1)) := by
  by_cases h0 : p = 0
  · exact Or.inl h0
  · right
    by_cases h1 : p = l + 1
    · simp [okp_, h1] at h
    · refine ⟨h1, ?_⟩
      by_cases h2 : p = l
      · right
        by_cases h3 : p = 1
        · exact h3
        · have : okp_ l p = true := by
            unfold okp_
            rw [decide_eq_true h0, decide_eq_true h2, decide_eq_true h3]
            simp
          rw [this] at h
          cases h
      · exact Or.inl h2
theorem m_rP0 {M : mM} {l p : Nat} (hp : p < 5) (hl : l < 5) (h : okp_ l p = false) : m_X3_readPart M 180 (np_ p) (np_ l) = some (M, (1 : Int32)) := by
  obtain ⟨f1, f2, f3, f4, -⟩ := f_np p hp l hl
  rw [rp_eq]
  rcases okp_n h with h0 | ⟨h1, h2⟩
  · rw [if_pos (f3.mpr h0)]
  · by_cases h0 : p = 0
    · rw [if_pos (f3.mpr h0)]
    · rw [if_neg (fun q => h0 (f3.mp q)), if_neg (fun q => h1 (f1.mp q))]
      by_cases h3 : p = l
      · rw [if_pos (f2.mpr h3), if_pos (f4.mpr (by omega))]
      · rw [if_neg (fun q => h3 (f2.mp q))]
theorem m_rP1 {M : mM} {l p : Nat} (hp : p < 5) (hl : l < 5) (h : okp_ l p = true) : m_X3_readPart M 180 (np_ p) (np_ l) = rpT_ M 180 (np_ p) := by
  obtain ⟨f1, f2, f3, f4, -⟩ := f_np p hp l hl
  obtain ⟨h0, h1⟩ := okp_s h
  rw [rp_eq, if_neg (fun q => h0 (f3.mp q))]
  by_cases h2 : p = l + 1
  · rw [if_pos (f1.mpr h2)]
  · rw [if_neg (fun q => h2 (f1.mp q)), if_pos (f2.mpr (by omega)), if_neg (fun q => by have := f4.mp q; omega)]
theorem ct_cs {t : Nat × Nat} (hb : t.1 = 2 → t.2 < 256) : (ct_ t = -2 ↔ t.1 = 3) ∧ (ct_ t = 59 ↔ t = (2, 59)) ∧ (ct_ t = -1 ↔ t.1 = 1) := by
  obtain ⟨a, b⟩ := t
  by_cases h2 : a = 2
  · subst h2
    have hb' : b < 256 := hb rfl
    have hn : ¬ nI b < 0 := nI_pos (by omega)
    refine ⟨⟨fun h => ?_, fun h => absurd (show (2 : Nat) = 3 from h) (by decide)⟩, ⟨fun h => ?_, fun h => ?_⟩, ⟨fun h => ?_, fun h => absurd (show (2 : Nat) = 1 from h) (by decide)⟩⟩
    · exact absurd (show nI b < 0 by rw [show nI b = -2 from h]; decide) hn
    · have := (nI_eq (by omega) (by decide)).mp (show nI b = nI 59 from h)
      rw [this]
    · have : b = 59 := congrArg Prod.snd h
      rw [this]
      rfl
    · exact absurd (show nI b < 0 by rw [show nI b = -1 from h]; decide) hn
  · by_cases h1 : a = 1
    · subst h1
      exact ⟨⟨fun h => absurd (show (-1 : Int32) = -2 from h) (by decide), fun h => absurd (show (1 : Nat) = 3 from h) (by decide)⟩, ⟨fun h => absurd (show (-1 : Int32) = 59 from h) (by decide), fun h => absurd (show (1 : Nat) = 2 from congrArg Prod.fst h) (by decide)⟩, ⟨fun _ => rfl, fun _ => rfl⟩⟩
    · by_cases h3 : a = 3
      · subst h3
        exact ⟨⟨fun _ => rfl, fun _ => rfl⟩, ⟨fun h => absurd (show (-2 : Int32) = 59 from h) (by decide), fun h => absurd (show (3 : Nat) = 2 from congrArg Prod.fst h) (by decide)⟩, ⟨fun h => absurd (show (-2 : Int32) = -1 from h) (by decide), fun h => absurd (show (3 : Nat) = 1 from h) (by decide)⟩⟩
      · have e : ct_ (a, b) = -3 := by
          unfold ct_
          rw [if_neg h2, if_neg h1, if_neg h3]
        rw [e]
        exact ⟨⟨fun h => absurd h (by decide), fun h => absurd h h3⟩, ⟨fun h => absurd h (by decide), fun h => absurd (show a = 2 from congrArg Prod.fst h) h2⟩, ⟨fun h => absurd h (by decide), fun h => absurd h h1⟩⟩
theorem f_pt3 : m_X3_partOf ME (-1) = some (np_ 0) ∧ m_X3_partOf ME (-2) = some (np_ 0) ∧ m_X3_partOf ME (-3) = some (np_ 0) := by decide +kernel
theorem m_part (M : mM) {t : Nat × Nat} (hb : t.1 = 2 → t.2 < 256) : m_X3_partOf M (ct_ t) = some (np_ (pt_ t)) := by
  obtain ⟨a, b⟩ := t
  by_cases h2 : a = 2
  · subst h2
    exact f_ptb b (hb rfl)
  · have e : pt_ (a, b) = 0 := if_neg h2
    rw [e]
    by_cases h1 : a = 1
    · subst h1
      exact f_pt3.1
    · by_cases h3 : a = 3
      · subst h3
        exact f_pt3.2.1
      · have e : ct_ (a, b) = -3 := by
          unfold ct_
          rw [if_neg h2, if_neg h1, if_neg h3]
        rw [e]
        exact f_pt3.2.2
theorem lm_le {l p : Nat} {c : sT} (w : pw_ l c) : lm_ p c ≤ 64 := by
  have hw := w.1
  unfold lm_
  split
  · omega
  · split
    · omega
    · exact p2_64 hw.2.1
/-- what a part's reading changes -/
def fp_ (M N : mM) : Prop := sh M N ∧ (∀ b, (b < 180 ∨ 188 < b) → mi_ N b = mi_ M b) ∧ mi_ N 181 = mi_ M 181 ∧ ∀ f, f < 4 → mi_ N 180 f = mi_ M 180 f
section PA
variable {M N : mM} {tp : Nat → Nat} {tn i : Nat} {c : sT} {ρ : Type}
theorem fp_r (M : mM) : fp_ M M := ⟨sh_r M, fun _ _ => rfl, rfl, fun _ _ => rfl⟩
theorem fp_t {A B C : mM} (f : fp_ A B) (g : fp_ B C) : fp_ A C := ⟨sh_t f.1 g.1, fun b h => (g.2.1 b h).trans (f.2.1 b h), g.2.2.1.trans f.2.2.1, fun b h => (g.2.2.2 b h).trans (f.2.2.2 b h)⟩
theorem fp_7 (f : f7_ M N) : fp_ M N := ⟨f.1, fun b hb => f.2.1 b (by omega), f.2.1 181 (by decide), f.2.2⟩
theorem fp_8 (f : f8_ M N) : fp_ M N := ⟨f.1, fun b hb => f.2 b (by omega), f.2 181 (by decide), fun q _ => by rw [f.2 180 (by decide)]⟩
theorem fp_C (f : fp_ M N) (T : Ct M tp tn) : Ct N tp tn := T.o (f.2.2.2 2 (by decide)) f.2.2.1
theorem m_rpT (G : GS M) (T : Ct M tp tn) (hi : i < tn) (K : TK_ M tp tn i) (S : SZ_ M c) {l p : Nat} (w : pw_ l c) (hp : p = pt_ (tk_ tp tn i)) (ho : okp_ l p = true) : ∃ N, rpT_ M 180 (np_ p) = some (N, nI (sq_ tp tn p (tk_ tp tn i).2 i c).1) ∧ fp_ M N ∧ ((sq_ tp tn p (tk_ tp tn i).2 i c).1 = 0 → mi_ N 180 7 = nI (sq_ tp tn p (tk_ tp tn i).2 i c).2.1 ∧ SZ_ N (sq_ tp tn p (tk_ tp tn i).2 i c).2.2.2) ∧ ((sq_ tp tn p (tk_ tp tn i).2 i c).1 ≠ 0 → mi_ N 180 5 = nI (sq_ tp tn p (tk_ tp tn i).2 i c).2.1) := by
  have hbt : ∀ j, j < tn → tp j < 256 := fun j hj => (T.2.2 j hj).2
  have h0 := (okp_s ho).1
  have hp4 : p ≤ 4 := by rw [hp]; exact pt_le _
  have hp1 : 1 ≤ p := by omega
  have h2 : (tk_ tp tn i).1 = 2 := pt_2 (by rw [← hp]; exact h0)
  have hb := (tk_2 hbt h2).1
  have a1' := tx_gt (tp := tp) hi
  have a2' := tx_le (tp := tp) a1'.2
  have e4 : mi_ M 180 4 = nI (tk_ tp tn i).2 := by
    rw [K.2.2.1]
    unfold ct_
    rw [if_pos h2]
  rw [rpT_, gI_ (RO G) (f := 4), Option.bind_some, e4, if_pos (RO G), m_full G S w hp1 hp4, Option.bind_some]
  cases hf : fu_ p c with
  | true =>
    have e : sq_ tp tn p (tk_ tp tn i).2 i c = (3, i, 0, c) := by
      unfold sq_
      rw [hf, if_pos rfl]
    rw [if_neg (by decide), e]
    exact ⟨M, rfl, fp_r M, fun q => absurd q (show ¬ (3 : Nat) = 0 by decide), fun _ => K.1⟩
  | false =>
    obtain ⟨M9, a1, a2, a3⟩ := m_goOn G T a1'.2 K.2.1
    have G9 : GS M9 := G.sh a2.1
    have T9 := f7_C a2 T
    have S9 := SZ_7 S a2
    have cc := ct_cs (t := tk_ tp tn (tx_ tp tn i)) (fun q => (tk_2 hbt q).1)
    rw [if_pos (by decide), if_pos (RO G), a1, Option.bind_some, gI_ (RO G9) (f := 4), Option.bind_some, a3.2.2.1]
    by_cases q1 : (tk_ tp tn (tx_ tp tn i)).1 = 3
    · have hv3 := tk_v (tp := tp) (i := tx_ tp tn i) hbt
      have lml := lm_le (p := p) w
      rw [if_pos (cc.1.mpr q1), gI_ (RO G9) (f := 6), Option.bind_some, a3.2.2.2 q1, if_pos (RO G9), m_lim G9 S9 w hp1 hp4, Option.bind_some]
      by_cases q2 : (tk_ tp tn (tx_ tp tn i)).2 < lm_ p c
      · have w' : pw_ p (adp_ p (kz_ (tk_ tp tn i).2) (tk_ tp tn (tx_ tp tn i)).2 c) := pw_ad w ho hf q2 hp4 (fun e => ⟨by have := pt_4 (t := tk_ tp tn i) (by rw [← hp]; exact e); omega, kz_le _⟩)
        obtain ⟨M19, b1, b2, b3⟩ := m_addP G9 S9 w w' hp1 hp4 hf (a3.2.2.2 q1) hb
        have G19 : GS M19 := G9.sh b2.1
        have T19 : Ct M19 tp tn := fp_C (fp_8 b2) T9
        obtain ⟨M21, d1, d2, d3⟩ := m_goOn G19 T19 a2'.2 (by rw [b2.2 180 (by decide)]; exact a3.2.1)
        have G21 : GS M21 := G19.sh d2.1
        have cc' := ct_cs (t := tk_ tp tn (tx_ tp tn (tx_ tp tn i))) (fun q => (tk_2 hbt q).1)
        have ff : fp_ M M21 := fp_t (fp_7 a2) (fp_t (fp_8 b2) (fp_7 d2))
        rw [if_pos (nI_lt q2 (by omega)), if_pos (RO G9), b1, Option.bind_some, if_pos (RO G19), d1, Option.bind_some, gI_ (RO G21) (f := 4), Option.bind_some, d3.2.2.1]
        by_cases q3 : tk_ tp tn (tx_ tp tn (tx_ tp tn i)) = (2, 59)
        · have e : sq_ tp tn p (tk_ tp tn i).2 i c = (0, tx_ tp tn (tx_ tp tn (tx_ tp tn i)), p, adp_ p (kz_ (tk_ tp tn i).2) (tk_ tp tn (tx_ tp tn i)).2 c) := by
            unfold sq_
            rw [hf, if_neg (by decide), if_pos q1, if_pos q2, if_pos q3]
          rw [if_pos (cc'.2.1.mpr q3), e]
          exact ⟨M21, rfl, ff, fun _ => ⟨d3.2.1, SZ_7 b3 d2⟩, fun z => absurd rfl z⟩
        · have e : sq_ tp tn p (tk_ tp tn i).2 i c = (1, tx_ tp tn (tx_ tp tn i), 0, c) := by
            unfold sq_
            rw [hf, if_neg (by decide), if_pos q1, if_pos q2, if_neg q3]
          rw [if_neg (fun z => q3 (cc'.2.1.mp z)), e]
          exact ⟨M21, rfl, ff, fun q => absurd q (show ¬ (1 : Nat) = 0 by decide), fun _ => d3.1⟩
      · have e : sq_ tp tn p (tk_ tp tn i).2 i c = (2, tx_ tp tn i, 0, c) := by
          unfold sq_
          rw [hf, if_neg (by decide), if_pos q1, if_neg q2]
        rw [if_neg (nI_nlt (by omega) (by omega)), e]
        exact ⟨M9, rfl, fp_7 a2, fun q => absurd q (show ¬ (2 : Nat) = 0 by decide), fun _ => a3.1⟩
    · have e : sq_ tp tn p (tk_ tp tn i).2 i c = (1, tx_ tp tn i, 0, c) := by
        unfold sq_
        rw [hf, if_neg (by decide), if_neg q1]
      rw [if_neg (fun z => q1 (cc.1.mp z)), e]
      exact ⟨M9, rfl, fp_7 a2, fun q => absurd q (show ¬ (1 : Nat) = 0 by decide), fun _ => a3.1⟩
theorem m_rtL : ∀ (d l i x m : Nat) (M : mM) (c : sT), GS M → Ct M tp tn → SZ_ M c → pw_ l c → mi_ M 180 7 = nI i → i ≤ tn → tn < i + d → x ≤ i → d < m → ∃ N, (∀ (k0 : mM → Option ρ) (k1 : mM → Int32 → Option ρ) (k2 : mM → Option ρ), m_X3_readTape_L16 k0 k1 k2 180 m M (np_ l) (nI x) = if (pp_ tp tn d l i c).1 = 0 then k2 N else k1 N (nI (pp_ tp tn d l i c).1)) ∧ fp_ M N ∧ ((pp_ tp tn d l i c).1 = 0 → SZ_ N (pp_ tp tn d l i c).2.2) ∧ ((pp_ tp tn d l i c).1 ≠ 0 → mi_ N 180 5 = nI (pp_ tp tn d l i c).2.1) := by
  intro d
  induction d with
  | zero =>
    intro l i x m M c G T S w h7 hi hd hx hm
    omega
  | succ d ih =>
    intro l i x m M c G T S w h7 hi hd hx hm
    obtain ⟨m, rfl⟩ : ∃ z, m = z + 1 := ⟨m - 1, by omega⟩
    have h120 := T.1
    have hbt : ∀ j, j < tn → tp j < 256 := fun j hj => (T.2.2 j hj).2
    have hl4 : l ≤ 4 := w.2.2.2.2.2.2.2.2.2.2.2.2.2.2
    obtain ⟨M9, a1, a2, a3⟩ := m_goOn G T hi h7
    have G9 : GS M9 := G.sh a2.1
    have T9 := f7_C a2 T
    have S9 := SZ_7 S a2
    have cc := ct_cs (t := tk_ tp tn i) (fun q => (tk_2 hbt q).1)
    have hpl := pt_le (tk_ tp tn i)
    have tail : ¬ ((tk_ tp tn i).1 = 1 ∧ l = 4) → ∃ N, (∀ (k0 : mM → Option ρ) (k1 : mM → Int32 → Option ρ) (k2 : mM → Option ρ), ((m_X3_partOf M9 (ct_ (tk_ tp tn i))).bind fun v26 => if isO M9 180 3 = true then bd2 (m_X3_readPart M9 180 v26 (np_ l)) fun M28 v29 => if v29 = (0 : Int32) then m_X3_readTape_L16 k0 k1 k2 180 m M28 v26 (nI x + (1 : Int32)) else k1 M28 v29 else none) = if (pp_ tp tn (d + 1) l i c).1 = 0 then k2 N else k1 N (nI (pp_ tp tn (d + 1) l i c).1)) ∧ fp_ M9 N ∧ ((pp_ tp tn (d + 1) l i c).1 = 0 → SZ_ N (pp_ tp tn (d + 1) l i c).2.2) ∧ ((pp_ tp tn (d + 1) l i c).1 ≠ 0 → mi_ N 180 5 = nI (pp_ tp tn (d + 1) l i c).2.1) := by
      intro he
      have mp := m_part M9 (t := tk_ tp tn i) (fun q => (tk_2 hbt q).1)
      cases ho : okp_ l (pt_ (tk_ tp tn i)) with
      | false =>
        have e : pp_ tp tn (d + 1) l i c = (1, i, c) := by
          rw [pp_f he (by rw [sp_n ho]; exact (show ¬ (1 : Nat) = 0 by decide)), sp_n ho]
        rw [e]
        refine ⟨M9, fun k0 k1 k2 => ?_, fp_r _, fun q => absurd q (show ¬ (1 : Nat) = 0 by decide), fun _ => a3.1⟩
        rw [mp, Option.bind_some, if_pos (RO G9), m_rP0 (by omega) (by omega) ho, bd2_s, if_neg (by decide), if_neg (show ¬ (1, i, c).1 = 0 from (show ¬ (1 : Nat) = 0 by decide))]
        rfl
      | true =>
        have h0 := (okp_s ho).1
        have hit : i < tn := tk_lt hi (by rw [pt_2 h0]; decide)
        obtain ⟨N1, r1, r2, r3, r4⟩ := m_rpT G9 T9 hit a3 S9 w rfl ho
        rw [← sp_t ho] at r1 r3 r4
        have hsp3 := sp_3 (tp := tp) (tn := tn) (l := l) (i := i) (c := c)
        have G1 : GS N1 := G9.sh r2.1
        by_cases hs : (sp_ tp tn l i c).1 = 0
        · obtain ⟨-, b2, b3, b4, b5⟩ := sp_0 hs hi w
          obtain ⟨N, n1, n2, n3, n4⟩ := ih (pt_ (tk_ tp tn i)) (sp_ tp tn l i c).2.1 (x + 1) m N1 (sp_ tp tn l i c).2.2.2 G1 (fp_C r2 T9) (r3 hs).2 b5 (r3 hs).1 b4 (by omega) (by omega) (by omega)
          rw [pp_0 he hs, b2]
          refine ⟨N, fun k0 k1 k2 => ?_, fp_t r2 n2, n3, n4⟩
          rw [mp, Option.bind_some, if_pos (RO G9), m_rP1 (by omega) (by omega) ho, r1, bd2_s, hs, if_pos (by decide), nI_1]
          exact n1 k0 k1 k2
        · rw [pp_f he hs]
          refine ⟨N1, fun k0 k1 k2 => ?_, r2, fun q => absurd q hs, fun _ => r4 hs⟩
          rw [mp, Option.bind_some, if_pos (RO G9), m_rP1 (by omega) (by omega) ho, r1, bd2_s, if_neg (nI_ne0 (by omega) (by omega)), if_neg hs]
    have hx120 : ¬ (120 : Int32) < nI x := (nI_nlt (by omega) (by decide) : ¬ nI 120 < nI x)
    by_cases he1 : (tk_ tp tn i).1 = 1
    · by_cases he2 : l = 4
      · rw [pp_e he1 he2]
        refine ⟨M9, fun k0 k1 k2 => ?_, fp_7 a2, fun _ => S9, fun q => absurd rfl q⟩
        rw [m_X3_readTape_L16, if_neg hx120, if_pos (RO G), a1, Option.bind_some, gI_ (RO G9) (f := 4), Option.bind_some, a3.2.2.1, if_pos (cc.2.2.mpr he1), if_pos (by rw [he2]; rfl), if_pos rfl]
      · obtain ⟨N, n1, n2, n3, n4⟩ := tail (fun q => he2 q.2)
        refine ⟨N, fun k0 k1 k2 => ?_, fp_t (fp_7 a2) n2, n3, n4⟩
        rw [m_X3_readTape_L16, if_neg hx120, if_pos (RO G), a1, Option.bind_some, gI_ (RO G9) (f := 4), Option.bind_some, a3.2.2.1, if_pos (cc.2.2.mpr he1), if_neg (fun q => he2 ((f_np l (by omega) l (by omega)).2.2.2.2.mp q)), Option.bind_some]
        exact n1 k0 k1 k2
    · obtain ⟨N, n1, n2, n3, n4⟩ := tail (fun q => he1 q.1)
      refine ⟨N, fun k0 k1 k2 => ?_, fp_t (fp_7 a2) n2, n3, n4⟩
      rw [m_X3_readTape_L16, if_neg hx120, if_pos (RO G), a1, Option.bind_some, gI_ (RO G9) (f := 4), Option.bind_some, a3.2.2.1, if_neg (fun q => he1 (cc.2.2.mp q)), Option.bind_some]
      exact n1 k0 k1 k2
theorem m_emL : ∀ (d j m : Nat) (M : mM), GS M → j + d = 36 → d < m → ∃ N, (∀ k0 : mM → Option ρ, m_X5_empty_L27 k0 182 m M (nI j) = k0 N) ∧ f1_ (182 + 6) M N ∧ (∀ q, q < j → mi_ N (182 + 6) q = mi_ M (182 + 6) q) ∧ ∀ q, j ≤ q → q < 36 → mi_ N (182 + 6) q = 0 := by
  intro d
  induction d with
  | zero =>
    intro j m M G hj hm
    obtain ⟨m, rfl⟩ : ∃ z, m = z + 1 := ⟨m - 1, by omega⟩
    exact ⟨M, fun k0 => by rw [m_X5_empty_L27, if_pos (show (36 : Int32) ≤ nI j from (nI_le (by omega) (by omega) : nI 36 ≤ nI j))], f1_r _ _, fun _ _ => rfl, fun q h1 h2 => by omega⟩
  | succ d ih =>
    intro j m M G hj hm
    obtain ⟨m, rfl⟩ : ∃ z, m = z + 1 := ⟨m - 1, by omega⟩
    obtain ⟨N, n1, n2, n3, n4⟩ := ih (j + 1) m (wI M (182 + 6) j 0) (GS_w G) (by omega) (by omega)
    refine ⟨N, fun k0 => ?_, f1_t f1_w n2, fun q hq => ?_, fun q h1 h2 => ?_⟩
    · rw [m_X5_empty_L27, if_neg (show ¬ (36 : Int32) ≤ nI j from (nI_ge (by omega) (by decide) : ¬ nI 36 ≤ nI j)), r_6 (SKr G), Option.bind_some, s_6 (SKr G) (by omega), Option.bind_some, nI_1]
      exact n1 k0
    · rw [n3 q (by omega), wI_s, if_neg (by omega)]
    · by_cases hq : q = j
      · rw [n3 q (by omega), wI_s, if_pos hq]
      · exact n4 q (by omega) h2
theorem m_emp (G : GS M) : ∃ N, m_X5_empty M 182 = some N ∧ f8_ M N ∧ SZ_ N c0_ := by
  have G1 : GS (wI M 182 0 0) := GS_w G
  have G2 : GS (wI (wI M 182 0 0) 182 1 0) := GS_w G1
  have G3 : GS (wI (wI (wI M 182 0 0) 182 1 0) 182 2 0) := GS_w G2
  have G4 : GS (wI (wI (wI (wI M 182 0 0) 182 1 0) 182 2 0) 182 3 0) := GS_w G3
  have G5 : GS (wI (wI (wI (wI (wI M 182 0 0) 182 1 0) 182 2 0) 182 3 0) 182 4 0) := GS_w G4
  obtain ⟨N, n1, n2, n3, n4⟩ := m_emL (ρ := mM) 36 0 FU _ G5 (by omega) (by unfold FU; omega)
  have n1' : ∀ k0 : mM → Option mM, m_X5_empty_L27 k0 182 FU (wI (wI (wI (wI (wI M 182 0 0) 182 1 0) 182 2 0) 182 3 0) 182 4 0) (0 : Int32) = k0 N := n1
  refine ⟨N, ?_, f8_t (f8_t (f8_t (f8_t (f8_t (f8_w (by decide) (by decide)) (f8_w (by decide) (by decide))) (f8_w (by decide) (by decide))) (f8_w (by decide) (by decide))) (f8_w (by decide) (by decide))) ⟨n2.1, fun b hb => n2.2 b (by omega)⟩, SZ_mk pw_00 (fun j hj => ?_) (fun j hj => absurd hj (Nat.not_lt_zero _)) (fun j hj => absurd hj (Nat.not_lt_zero _)) (fun j hj => absurd hj (Nat.not_lt_zero _)) (fun j hj => absurd hj (Nat.not_lt_zero _)) (fun j hj => absurd hj (Nat.not_lt_zero _)) (fun q hq => n4 q (Nat.zero_le _) hq)⟩
  · rw [m_X5_empty, pI_ (SKr G).1, Option.bind_some, pI_ (SKr G1).1, Option.bind_some, pI_ (SKr G2).1, Option.bind_some, pI_ (SKr G3).1, Option.bind_some, pI_ (SKr G4).1, Option.bind_some, n1']
  · rw [n2.2 182 (by decide)]
    rcases (show j = 0 ∨ j = 1 ∨ j = 2 ∨ j = 3 ∨ j = 4 by omega) with rfl | rfl | rfl | rfl | rfl
    · rw [wI_s, if_neg (by decide), wI_s, if_neg (by decide), wI_s, if_neg (by decide), wI_s, if_neg (by decide), wI_s, if_pos rfl]
      rfl
    · rw [wI_s, if_neg (by decide), wI_s, if_neg (by decide), wI_s, if_neg (by decide), wI_s, if_pos rfl]
      rfl
    · rw [wI_s, if_neg (by decide), wI_s, if_neg (by decide), wI_s, if_pos rfl]
      rfl
    · rw [wI_s, if_neg (by decide), wI_s, if_pos rfl]
      rfl
    · rw [wI_s, if_pos rfl]
      rfl
/-- what the whole tape comes to -/
def pr_ (tp : Nat → Nat) (tn : Nat) : Nat × Nat × sT := pp_ tp tn (tn + 1) 0 0 c0_
theorem pr_w (tp : Nat → Nat) (tn : Nat) (h : (pr_ tp tn).1 = 0) : pw_ 4 (pr_ tp tn).2.2 := pp_w _ _ _ _ pw_00 (Nat.zero_le _) (by omega) h
theorem m_rtX (G : GS M) (T : Ct M tp tn) : ∃ N, sh M N ∧ (∀ b, (b < 180 ∨ 188 < b) → mi_ N b = mi_ M b) ∧ mi_ N 181 = mi_ M 181 ∧ (((pr_ tp tn).1 = 0 ∧ m_X3_readTape M 180 = some (N, (1 : Int32)) ∧ mi_ N 180 3 = mi_ M 180 3 ∧ SZ_ N (pr_ tp tn).2.2) ∨ ((pr_ tp tn).1 ≠ 0 ∧ m_X3_readTape M 180 = some (N, (0 : Int32)) ∧ mi_ N 180 3 = nI (pr_ tp tn).1 ∧ mi_ N 180 5 = nI (pr_ tp tn).2.1)) := by
  have h120 := T.1
  obtain ⟨K, k1, k2, k3⟩ := m_emp G
  have GK : GS K := G.sh k2.1
  have f1 : f7_ K (wI K 180 7 0) := f7_w (by decide)
  have G1 : GS (wI K 180 7 0) := GS_w GK
  obtain ⟨N, n1, n2, n3, n4⟩ := m_rtL (ρ := mM × Int32) (tn + 1) 0 0 0 FU (wI K 180 7 0) c0_ G1 (f7_C f1 (fp_C (fp_8 k2) T)) (SZ_7 k3 f1) pw_00 (by rw [wI_s, if_pos rfl]; rfl) (Nat.zero_le _) (by omega) (Nat.le_refl _) (by unfold FU; omega)
  have n1' : ∀ (k0 : mM → Option (mM × Int32)) (k1 : mM → Int32 → Option (mM × Int32)) (k2 : mM → Option (mM × Int32)), m_X3_readTape_L16 k0 k1 k2 180 FU (wI K 180 7 0) (-1 : Int32) (0 : Int32) = if (pr_ tp tn).1 = 0 then k2 N else k1 N (nI (pr_ tp tn).1) := n1
  have ff : fp_ M N := fp_t (fp_8 k2) (fp_t (fp_7 f1) n2)
  have GN : GS N := G.sh ff.1
  by_cases h : (pr_ tp tn).1 = 0
  · refine ⟨N, ff.1, ff.2.1, ff.2.2.1, Or.inl ⟨h, ?_, ff.2.2.2 3 (by decide), n3 h⟩⟩
    rw [m_X3_readTape, Rs G, Option.bind_some, if_pos (SKr G).1, k1, Option.bind_some, pI_ (RO GK), Option.bind_some, n1', if_pos h]
  · refine ⟨wI N 180 3 (nI (pr_ tp tn).1), sh_t ff.1 (sh_w _ _ _ _), fun b hb => by rw [wI_o (by omega)]; exact ff.2.1 b hb, by rw [wI_o (by decide)]; exact ff.2.2.1, Or.inr ⟨h, ?_, by rw [wI_s, if_pos rfl], by rw [wI_s, if_neg (by decide)]; exact n4 h⟩⟩
    rw [m_X3_readTape, Rs G, Option.bind_some, if_pos (SKr G).1, k1, Option.bind_some, pI_ (RO GK), Option.bind_some, n1', if_neg h, pI_ (RO GN), Option.bind_some]
/-- the state behind school(): by a text without a fault, with one -/
def sG_ (A : aS) : aS := sK (sN (sF (sT' A ((aT A).1, 0)) (aF A)) (pr_ (aT A).1 (aT A).2).2.2) (0, (aK A).2)
def sH_ (A : aS) : aS := sF (sT' A ((aT A).1, 0)) (pr_ (aT A).1 (aT A).2).1
theorem pr_3 (tp : Nat → Nat) (tn : Nat) : (pr_ tp tn).1 ≤ 3 := pp_3 _ _ _ _
theorem x_school {A : aS} (G : GS M) (h : CX A M) : ((pr_ (aT A).1 (aT A).2).1 = 0 → opX (m_X6_school M 0) M (sG_ A) (nI ((pr_ (aT A).1 (aT A).2).2.2 0 3))) ∧ ((pr_ (aT A).1 (aT A).2).1 ≠ 0 → opX (m_X6_school M 0) M (sH_ A) (-1000100 - nI (pr_ (aT A).1 (aT A).2).2.1)) := by
  have T : Ct M (aT A).1 (aT A).2 := h.2.2.2.2.1
  obtain ⟨N, n1, n2, n3, n4⟩ := m_rtX G T
  have GN : GS N := G.sh n1
  have G2 : GS (wI N 180 2 0) := GS_w GN
  rcases n4 with ⟨p0, p1, p2, p3⟩ | ⟨p0, p1, p2, p3⟩
  · refine ⟨fun _ => ?_, fun q => absurd p0 q⟩
    have pw := pr_w _ _ p0
    obtain ⟨w, i7, hd⟩ := pw_wf pw
    have C2 : CX (sF (sT' A ((aT A).1, 0)) (aF A)) (wI N 180 2 0) := CXt h (fun b _ hb => by rw [wI_o (by omega)]; exact n2 b hb) ⟨Nat.zero_le _, by rw [wI_s, if_pos rfl]; rfl, fun j hj => absurd hj (Nat.not_lt_zero _)⟩ ⟨h.2.2.2.2.2.1.1, by rw [wI_s, if_neg (by decide), p2]; exact h.2.2.2.2.2.1.2⟩
    have S2 : SA (wI N 180 2 0) 182 (pr_ (aT A).1 (aT A).2).2.2 := p3.1.o (fun a ha => wI_o (by omega))
    obtain ⟨K, k1, k2, k3⟩ := m_be (c := (pr_ (aT A).1 (aT A).2).2.2) (Sn G2) (SKr G2) (Or.inl (by decide)) (wf_b w) S2
    have GK : GS K := G2.sh k3.1
    obtain ⟨a1, lt, l1, l2, l3, l4⟩ := C2.2.2.1
    have CK : CX (sN (sF (sT' A ((aT A).1, 0)) (aF A)) (pr_ (aT A).1 (aT A).2).2.2) K := CXn C2 (fun b _ hb => k3.2 b (by omega)) ⟨k2, Or.inr ⟨w, i7, hd⟩⟩
    have G3 : GS (wI K 10 2 0) := GS_w GK
    have e3 : gI (wI K 10 2 0) 2 5 3 = some (nI ((pr_ (aT A).1 (aT A).2).2.2 0 3)) := by rw [gI_ (Sn G3).1, wI_o (by decide), k2.1 3 (by decide)]
    rw [m_X6_school, R6r G, Option.bind_some, if_pos (RO G), p1, bd2_s, R6r GN, Option.bind_some, pI_ (RO GN), Option.bind_some, if_neg (by decide), R6n G2, Option.bind_some, R6r G2, Option.bind_some, Rs G2, Option.bind_some, if_pos (Sn G2).1, k1, Option.bind_some, R6a GK, Option.bind_some, pI_ (actO GK), Option.bind_some, R6n G3, Option.bind_some, e3, Option.bind_some]
    exact px G3 (CXa CK (fun q _ hq => wI_o (by omega)) ⟨Nat.zero_le _, lt, l1, by rw [wI_s, if_neg (by decide), k3.2 10 (by decide)]; exact l2, by rw [wI_s, if_pos rfl]; rfl, fun j hj => absurd hj (Nat.not_lt_zero _)⟩) (fun b hb => by rw [wI_o (by omega), k3.2 b (by omega), wI_o (by omega), n2 b (by omega)])
  · refine ⟨fun q => absurd q p0, fun _ => ?_⟩
    have e5 : mi_ (wI N 180 2 0) 180 5 = nI (pr_ (aT A).1 (aT A).2).2.1 := by rw [wI_s, if_neg (by decide)]; exact p3
    rw [m_X6_school, R6r G, Option.bind_some, if_pos (RO G), p1, bd2_s, R6r GN, Option.bind_some, pI_ (RO GN), Option.bind_some, if_pos rfl, R6r G2, Option.bind_some, gI_ (RO G2) (f := 5), Option.bind_some, e5]
    exact px G2 (CXt h (fun b _ hb => by rw [wI_o (by omega)]; exact n2 b hb) ⟨Nat.zero_le _, by rw [wI_s, if_pos rfl]; rfl, fun j hj => absurd hj (Nat.not_lt_zero _)⟩ ⟨pr_3 _ _, by rw [wI_s, if_neg (by decide)]; exact p2⟩) (fun b hb => by rw [wI_o (by omega), n2 b (by omega)])
end PA
