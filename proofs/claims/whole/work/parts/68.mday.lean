/-! ===== the model's day ===== -/
def ff (f : Nat → Int32) (j : Nat) (v : Int32) : Nat → Int32 := fun q => if q = j then v else f q
theorem wI_a {M : mM} {a j : Nat} {v : Int32} : mi_ (wI M a j v) a = ff (mi_ M a) j v := by funext q; rw [wI_s]; rfl
theorem ff_o {f : Nat → Int32} {j q : Nat} {v : Int32} (h : q ≠ j) : ff f j v q = f q := by simp [ff, h]
theorem ff_s {f : Nat → Int32} {j : Nat} {v : Int32} : ff f j v j = v := by simp [ff]
section RCW
variable {f : Nat → Int32} {c : sT}
theorem RC_4 (b : c 0 1 ≤ 6 ∧ c 0 2 ≤ 8 ∧ c 0 3 ≤ 6) (R : RC_ f c) {p v : Nat} : RC_ (ff f (19 + 9 * p + 2) (nI v)) (up2 c 4 p v) := by
  obtain ⟨⟨r0, r1, r2, r3, r4⟩, R1, R2, R3, R4, R5, R6⟩ := R
  obtain ⟨b1, b2, b3⟩ := b
  refine ⟨⟨(ff_o (by omega)).trans r0, (ff_o (by omega)).trans r1, (ff_o (by omega)).trans r2, (ff_o (by omega)).trans r3, (ff_o (by omega)).trans r4⟩, fun s hs => (ff_o ?_).trans (R1 s hs), fun l hl => (ff_o ?_).trans (R2 l hl), fun q hq => (ff_o (by omega)).trans (R3 q hq), fun q hq => (ff_o (by omega)).trans (R4 q hq), fun q hq => ?_, fun q hq s hs => (ff_o ?_).trans (R6 q hq s hs)⟩
  · have : s < c 0 1 := hs
    omega
  · have : l < c 0 2 := hl
    omega
  · by_cases h : q = p
    · subst h
      rw [ff_s, up_s]
    · rw [ff_o (by omega), up_q h]
      exact R5 q hq
  · have : s < c 0 1 := hs
    omega
theorem RC_6 (b : c 0 1 ≤ 6 ∧ c 0 2 ≤ 8 ∧ c 0 3 ≤ 6) (R : RC_ f c) {p s v : Nat} (hs0 : s < 6) : RC_ (ff f (19 + 9 * p + (3 + s)) (nI v)) (up2 c 6 (p * 6 + s) v) := by
  obtain ⟨⟨r0, r1, r2, r3, r4⟩, R1, R2, R3, R4, R5, R6⟩ := R
  obtain ⟨b1, b2, b3⟩ := b
  refine ⟨⟨(ff_o (by omega)).trans r0, (ff_o (by omega)).trans r1, (ff_o (by omega)).trans r2, (ff_o (by omega)).trans r3, (ff_o (by omega)).trans r4⟩, fun s hs => (ff_o ?_).trans (R1 s hs), fun l hl => (ff_o ?_).trans (R2 l hl), fun q hq => (ff_o (by omega)).trans (R3 q hq), fun q hq => (ff_o (by omega)).trans (R4 q hq), fun q hq => (ff_o (by omega)).trans (R5 q hq), fun q hq s' hs => ?_⟩
  · have : s < c 0 1 := hs
    omega
  · have : l < c 0 2 := hl
    omega
  · have hs' : s' < c 0 1 := hs
    by_cases h : q = p ∧ s' = s
    · obtain ⟨rfl, rfl⟩ := h
      rw [ff_s, up_s]
    · rw [ff_o (by omega), up_q (by omega)]
      exact R6 q hq s' hs
theorem RC_d (R : RC_ f c) {v : Nat} : RC_ (ff f 3 (nI v)) (up2 c 0 4 v) := by
  obtain ⟨⟨r0, r1, r2, r3, r4⟩, R1, R2, R3, R4, R5, R6⟩ := R
  exact ⟨⟨(ff_o (by omega)).trans r0, (ff_o (by omega)).trans r1, (ff_o (by omega)).trans r2, ff_s, (ff_o (by omega)).trans r4⟩, fun s hs => (ff_o (by omega)).trans (R1 s hs), fun l hl => (ff_o (by omega)).trans (R2 l hl), fun q hq => (ff_o (by omega)).trans (R3 q hq), fun q hq => (ff_o (by omega)).trans (R4 q hq), fun q hq => (ff_o (by omega)).trans (R5 q hq), fun q hq s hs => (ff_o (by omega)).trans (R6 q hq s hs)⟩
end RCW
/-- the model's cells but two stay -/
def fm (a h : Nat) (M N : mM) : Prop := sh M N ∧ ∀ b, b ≠ a → b ≠ h → mi_ N b = mi_ M b
theorem fm_r (a h : Nat) (M : mM) : fm a h M M := ⟨sh_r M, fun _ _ _ => rfl⟩
theorem fm_t {a h : Nat} {A B C : mM} (f : fm a h A B) (g : fm a h B C) : fm a h A C := ⟨sh_t f.1 g.1, fun b h1 h2 => (g.2 b h1 h2).trans (f.2 b h1 h2)⟩
theorem fm_a {a h j : Nat} {M : mM} {v : Int32} : fm a h M (wI M a j v) := ⟨sh_w _ _ _ _, fun b h1 _ => wI_o h1⟩
theorem fm_h {a h j : Nat} {M : mM} {v : Int32} : fm a h M (wI M h j v) := ⟨sh_w _ _ _ _, fun b _ h2 => wI_o h2⟩
/-- the object of the model at x, its row of hearing at h -/
def MH (M : mM) (x h : Nat) : Prop := isO M x 7 = true ∧ mr_ M x 19 = some h ∧ h < mz M ∧ mk_ M h = (2, 6)
theorem MH.sh {M N : mM} {x h : Nat} (H : MH M x h) (g : sh M N) : MH N x h := by
  unfold MH at H ⊢
  rw [isO_sh g, g.1, g.2.1, g.2.2]
  exact H
def dm (c : sT) (s : Nat) : sT := fo (fun p e => if hc c s (c 7 p) then hear1 e p s else e) 0 (c 0 3) c
/-- folding over pupils that are apart, in any order -/
theorem fo_pt {c : sT} {s : Nat} (g : Nat → Bool) (π : Nat → Nat) : ∀ (d i : Nat) (e : sT), (∀ u v, i ≤ u → u < i + d → i ≤ v → v < i + d → π u = π v → u = v) → (∀ b, b ≠ 4 → b ≠ 6 → e b = c b) → (∀ u, i ≤ u → u < i + d → e 4 (π u) = c 4 (π u) ∧ e 6 (π u * 6 + s) = c 6 (π u * 6 + s)) →
    (∀ u, i ≤ u → u < i + d → (fo (fun t e => if g t then hear1 e (π t) s else e) i d e) 4 (π u) = (if g u then nk c (c 3 (π u)) s (h1_ (c 6 (π u * 6 + s))) (c 4 (π u)) else c 4 (π u)) ∧ (fo (fun t e => if g t then hear1 e (π t) s else e) i d e) 6 (π u * 6 + s) = (if g u then h1_ (c 6 (π u * 6 + s)) else c 6 (π u * 6 + s))) ∧
    (∀ b q, (∀ u, i ≤ u → u < i + d → ¬ (b = 4 ∧ q = π u) ∧ ¬ (b = 6 ∧ q = π u * 6 + s)) → (fo (fun t e => if g t then hear1 e (π t) s else e) i d e) b q = e b q)
  | 0, i, e, _, _, _ => ⟨fun u h1 h2 => by omega, fun b q _ => rfl⟩
  | d + 1, i, e, hinj, hrow, hval => by
    have hi := hval i (Nat.le_refl _) (by omega)
    let e1 : sT := if g i then hear1 e (π i) s else e
    have e1o : ∀ b q, ¬ (b = 4 ∧ q = π i) → ¬ (b = 6 ∧ q = π i * 6 + s) → e1 b q = e b q := by
      intro b q h4 h6
      show (if g i then hear1 e (π i) s else e) b q = e b q
      split
      · exact hear_o h4 h6
      · rfl
    have ih := fo_pt (c := c) (s := s) g π d (i + 1) e1 (fun u v a1 a2 a3 a4 h => hinj u v (by omega) (by omega) (by omega) (by omega) h)
      (fun b h4 h6 => by rw [← hrow b h4 h6]; funext q; exact e1o b q (fun z => h4 z.1) (fun z => h6 z.1))
      (fun u a1 a2 => by
        have hne : π u ≠ π i := fun q => by have := hinj u i (by omega) (by omega) (Nat.le_refl _) (by omega) q; omega
        rw [e1o 4 (π u) (fun z => hne z.2) (fun z => by omega), e1o 6 (π u * 6 + s) (fun z => by omega) (fun z => hne (by omega))]
        exact hval u (by omega) (by omega))
    refine ⟨fun u a1 a2 => ?_, fun b q hq => ?_⟩
    · by_cases hu : u = i
      · subst hu
        have k4 := ih.2 4 (π u) (fun v b1 b3 => ⟨fun z => by have := hinj u v (Nat.le_refl _) (by omega) (by omega) (by omega) z.2; omega, fun z => by omega⟩)
        have k6 := ih.2 6 (π u * 6 + s) (fun v b1 b3 => ⟨fun z => by omega, fun z => by have := hinj u v (Nat.le_refl _) (by omega) (by omega) (by omega) (by omega); omega⟩)
        refine ⟨k4.trans ?_, k6.trans ?_⟩
        · show (if g u then hear1 e (π u) s else e) 4 (π u) = _
          cases g u with
          | false => exact hi.1
          | true =>
            show hear1 e (π u) s 4 (π u) = _
            unfold hear1
            rw [up_s, hi.1, hi.2, hrow 3 (by decide) (by decide)]
            unfold nk kg ko kg k1_ grasp
            rw [hrow 1 (by decide) (by decide), hrow 0 (by decide) (by decide)]
            rfl
        · show (if g u then hear1 e (π u) s else e) 6 (π u * 6 + s) = _
          cases g u with
          | false => exact hi.2
          | true =>
            show hear1 e (π u) s 6 (π u * 6 + s) = _
            unfold hear1
            rw [up_o (by decide), up_s, hi.2]
            rfl
      · exact ih.1 u (by omega) (by omega)
    · refine (ih.2 b q (fun u b1 b3 => hq u (by omega) (by omega))).trans ?_
      exact e1o b q (hq i (Nat.le_refl _) (by omega)).1 (hq i (Nat.le_refl _) (by omega)).2
theorem ds_dm {c : sT} (w : wf c) (i7 : iv c) {s : Nat} (hs : s < 6) : dm c s = ds c s := by
  have A := fo_pt (c := c) (s := s) (fun p => hc c s (c 7 p)) (fun p => p) (c 0 3) 0 c (fun u v _ _ _ _ h => h) (fun _ _ _ => rfl) (fun _ _ _ => ⟨rfl, rfl⟩)
  have B := fo_pt (c := c) (s := s) (fun t => hc c s t) (fun t => c 5 t) (c 0 3) 0 c (fun u v a1 a2 a3 a4 h => w.2.2.2.2.2.2.2.2.2.2.1 u v (by omega) (by omega) h) (fun _ _ _ => rfl) (fun _ _ _ => ⟨rfl, rfl⟩)
  funext b q
  by_cases h4 : b = 4 ∧ q < c 0 3
  · obtain ⟨rfl, hq⟩ := h4
    have h7 := i7.1 q hq
    have a := (A.1 q (Nat.zero_le _) (by omega)).1
    have b := (B.1 (c 7 q) (Nat.zero_le _) (by omega)).1
    simp only [h7.2] at b
    exact a.trans b.symm
  · by_cases h6 : b = 6 ∧ ∃ p, p < c 0 3 ∧ q = p * 6 + s
    · obtain ⟨rfl, p, hp, rfl⟩ := h6
      have h7 := i7.1 p hp
      have a := (A.1 p (Nat.zero_le _) (by omega)).2
      have b := (B.1 (c 7 p) (Nat.zero_le _) (by omega)).2
      simp only [h7.2] at b
      exact a.trans b.symm
    · have a := A.2 b q (fun u _ hu => ⟨fun z => h4 ⟨z.1, by omega⟩, fun z => h6 ⟨z.1, u, by omega, z.2⟩⟩)
      have b := B.2 b q (fun u _ hu => ⟨fun z => h4 ⟨z.1, by have := w.2.2.2.2.2.2.2.2.2.1 u (by omega); omega⟩, fun z => h6 ⟨z.1, c 5 u, w.2.2.2.2.2.2.2.2.2.1 u (by omega), z.2⟩⟩)
      exact a.trans b.symm
section MD
variable {M : mM} {x h a : Nat} {c : sT}
theorem m_dbL (w : wf c) (i7 : iv c) (hah : a ≠ h) {fl : Int32} {ρ : Type} (k0 : mM → Option ρ) (x3 : Int32) : ∀ (d i n : Nat) (M : mM), MH M x h → AK M a → RC_ (mi_ M a) c → i + d = c 0 3 → d < n →
    ∃ N, m_X7_dayBy_L11 k0 x a fl x3 n M (nI i) = k0 N ∧ fm a h M N ∧ mi_ N a = mi_ M a ∧ (∀ p, p < i → mi_ N h p = mi_ M h p) ∧ ∀ p, i ≤ p → p < c 0 3 → mi_ N h p = b2 (decide (fl = 0) && hc c (taught c (c 0 4)) (c 7 p)) := by
  have hP := w.2.2.2.1.2
  intro d
  induction d with
  | zero =>
    intro i n M H K R hi hn
    obtain ⟨n, rfl⟩ : ∃ z, n = z + 1 := ⟨n - 1, by omega⟩
    refine ⟨M, ?_, fm_r a h M, rfl, fun _ _ => rfl, fun p h1 h2 => by omega⟩
    rw [m_X7_dayBy_L11, l_P K R, Option.bind_some, if_pos (nI_le (show c 0 3 ≤ i by omega) (by omega))]
  | succ d ih =>
    intro i n M H K R hi hn
    obtain ⟨n, rfl⟩ : ∃ z, n = z + 1 := ⟨n - 1, by omega⟩
    have hi' : i < c 0 3 := by omega
    have key : ∀ v : Bool, v = (decide (fl = 0) && hc c (taught c (c 0 4)) (c 7 i)) → ∃ N, ((stZ M h (nI i) (b2 v)).bind fun M11 => m_X7_dayBy_L11 k0 x a fl x3 n M11 (nI (i + 1))) = k0 N ∧ fm a h M N ∧ mi_ N a = mi_ M a ∧ (∀ p, p < i → mi_ N h p = mi_ M h p) ∧ ∀ p, i ≤ p → p < c 0 3 → mi_ N h p = b2 (decide (fl = 0) && hc c (taught c (c 0 4)) (c 7 p)) := by
      intro v hv
      rw [stz_ H.2.2.1 H.2.2.2 (show i < 6 by omega) (by decide) (by cases v; exact Or.inl rfl; exact Or.inr rfl), Option.bind_some]
      have f1 : fm a h M (wI M h i (b2 v)) := fm_h
      have ea : mi_ (wI M h i (b2 v)) a = mi_ M a := wI_o hah
      obtain ⟨N, g1, g2, g3, g4, g5⟩ := ih (i + 1) n _ (H.sh f1.1) (K.sh f1.1) (by rw [ea]; exact R) (by omega) (by omega)
      refine ⟨N, g1, fm_t f1 g2, g3.trans ea, fun p hp => ?_, fun p hp1 hp2 => ?_⟩
      · rw [g4 p (by omega), wI_s, if_neg (by omega)]
      · by_cases hpi : p = i
        · subst hpi
          rw [g4 p (by omega), wI_s, if_pos rfl, hv]
        · exact g5 p (by omega) hp2
    rw [m_X7_dayBy_L11, l_P K R, Option.bind_some, if_neg (nI_ge hi' (by omega)), gR_ H.1 H.2.1, Option.bind_some, nI_1]
    by_cases hf : fl = 0
    · rw [if_pos hf, m_hears7 K w i7 R hi', Option.bind_some]
      cases hh : hc c (taught c (c 0 4)) (c 7 i) with
      | false =>
        rw [if_pos (by decide)]
        exact key false (by simp [hf, hh])
      | true =>
        rw [if_neg (by decide)]
        exact key true (by simp [hf, hh])
    · rw [if_neg hf]
      exact key false (by simp [hf])
theorem m_dbM (w : wf c) (hah : a ≠ h) {s : Nat} (hs : s < c 0 1) (g : Nat → Bool) {ρ : Type} (k0 : mM → Option ρ) : ∀ (d i n : Nat) (M : mM) (e : sT), MH M x h → AK M a → wf e → RC_ (mi_ M a) e → (∀ b, b ≠ 4 → b ≠ 6 → e b = c b) → (∀ p, i ≤ p → p < c 0 3 → mi_ M h p = b2 (g p)) → i + d = c 0 3 → d < n →
    ∃ N, m_X7_dayBy_L53 k0 x a (nI s) n M (nI i) = k0 N ∧ fm a h M N ∧ RC_ (mi_ N a) (fo (fun p e => if g p then hear1 e p s else e) i d e) ∧ wf (fo (fun p e => if g p then hear1 e p s else e) i d e) ∧ ∀ b, b ≠ 4 → b ≠ 6 → (fo (fun p e => if g p then hear1 e p s else e) i d e) b = c b := by
  have hP := w.2.2.2.1.2
  have hJ := w.2.1.2
  intro d
  induction d with
  | zero =>
    intro i n M e H K we R ha hh hi hn
    obtain ⟨n, rfl⟩ : ∃ z, n = z + 1 := ⟨n - 1, by omega⟩
    have e03 : e 0 3 = c 0 3 := by rw [ha 0 (by decide) (by decide)]
    refine ⟨M, ?_, fm_r a h M, R, we, ha⟩
    rw [m_X7_dayBy_L53, l_P K R, Option.bind_some, if_pos (nI_le (by omega) (by omega))]
  | succ d ih =>
    intro i n M e H K we R ha hh hi hn
    obtain ⟨n, rfl⟩ : ∃ z, n = z + 1 := ⟨n - 1, by omega⟩
    have e03 : e 0 3 = c 0 3 := by rw [ha 0 (by decide) (by decide)]
    have e01 : e 0 1 = c 0 1 := by rw [ha 0 (by decide) (by decide)]
    have hi' : i < e 0 3 := by omega
    have hs' : s < e 0 1 := by omega
    rw [m_X7_dayBy_L53, l_P K R, Option.bind_some, if_neg (nI_ge hi' (by omega)), gR_ H.1 H.2.1, Option.bind_some, ldz_ H.2.2.1 H.2.2.2 (show i < 6 by omega) (by decide), Option.bind_some, hh i (Nat.le_refl _) (by omega), nI_1]
    cases hg : g i with
    | false =>
      rw [if_pos (by decide)]
      obtain ⟨N, g1, g2, g3, g4, g5⟩ := ih (i + 1) n M e H K we R ha (fun p h1 h2 => hh p (by omega) h2) (by omega) (by omega)
      refine ⟨N, g1, g2, ?_, ?_, ?_⟩
      · simpa only [fo, hg, if_false, Bool.false_eq_true] using g3
      · simpa only [fo, hg, if_false, Bool.false_eq_true] using g4
      · simpa only [fo, hg, if_false, Bool.false_eq_true] using g5
    | true =>
      rw [if_neg (by decide), o_3 K we R hi' hs', Option.bind_some]
      have hh99 := we.2.2.2.2.2.2.2.2.2.2.2 i hi' s hs'
      -- the heard count goes to h1_
      have key : ∀ v : Int32, v = nI (h1_ (e 6 (i * 6 + s))) → ∃ N, ((m_X7_be M a (nI i) ((3 : Int32) + nI s) v).bind fun M33 => (m_X7_learned M33 a (nI i) (nI s)).bind fun v35 => (m_X7_be M33 a (nI i) (2 : Int32) v35).bind fun M37 => m_X7_dayBy_L53 k0 x a (nI s) n M37 (nI (i + 1))) = k0 N ∧ fm a h M N ∧ RC_ (mi_ N a) (fo (fun p e => if g p then hear1 e p s else e) i (d + 1) e) ∧ wf (fo (fun p e => if g p then hear1 e p s else e) i (d + 1) e) ∧ ∀ b, b ≠ 4 → b ≠ 6 → (fo (fun p e => if g p then hear1 e p s else e) i (d + 1) e) b = c b := by
        intro v hv
        have b3 : (3 : Int32) + nI s = nI (3 + s) := by rw [show (3 : Int32) = nI 3 from rfl, nI_add]
        rw [b3, m_be9 K (show 19 + 9 * i + (3 + s) < 73 by omega), Option.bind_some, hv]
        have f1 : fm a h M (wI M a (19 + 9 * i + (3 + s)) (nI (h1_ (e 6 (i * 6 + s))))) := fm_a
        have R1 : RC_ (mi_ (wI M a (19 + 9 * i + (3 + s)) (nI (h1_ (e 6 (i * 6 + s))))) a) (up2 e 6 (i * 6 + s) (h1_ (e 6 (i * 6 + s)))) := by
          rw [wI_a]
          exact RC_6 (wf_b we) R (by omega)
        have w1 := wf_6 we (j := i * 6 + s) (h1_le hh99)
        have K1 := K.sh f1.1
        have L := m_lrn K1 w1 R1 (p := i) (s := s) hi' hs'
        rw [up_s, up_o (show (3 : Nat) ≠ 6 by decide), up_o (show (4 : Nat) ≠ 6 by decide), nk_6] at L
        rw [L, Option.bind_some]
        have e2 := m_be9 (M := wI M a (19 + 9 * i + (3 + s)) (nI (h1_ (e 6 (i * 6 + s))))) (p := i) (q := 2) (v := nI (nk e (e 3 i) s (h1_ (e 6 (i * 6 + s))) (e 4 i))) K1 (by omega)
        have e2' : m_X7_be (wI M a (19 + 9 * i + (3 + s)) (nI (h1_ (e 6 (i * 6 + s))))) a (nI i) (2 : Int32) (nI (nk e (e 3 i) s (h1_ (e 6 (i * 6 + s))) (e 4 i))) = _ := e2
        rw [e2', Option.bind_some]
        have f2 : fm a h _ (wI (wI M a (19 + 9 * i + (3 + s)) (nI (h1_ (e 6 (i * 6 + s))))) a (19 + 9 * i + 2) (nI (nk e (e 3 i) s (h1_ (e 6 (i * 6 + s))) (e 4 i)))) := fm_a (a := a) (h := h)
        have R2 : RC_ (mi_ (wI (wI M a (19 + 9 * i + (3 + s)) (nI (h1_ (e 6 (i * 6 + s))))) a (19 + 9 * i + 2) (nI (nk e (e 3 i) s (h1_ (e 6 (i * 6 + s))) (e 4 i)))) a) (hear1 e i s) := by
          rw [wI_a]
          exact RC_4 (wf_b w1) R1
        have f12 := fm_t f1 f2
        obtain ⟨N, g1, g2, g3, g4, g5⟩ := ih (i + 1) n _ (hear1 e i s) (H.sh f12.1) (K.sh f12.1) (wf_hear we hi' hs') R2 (fun b h4 h6 => by rw [← ha b h4 h6]; funext q; exact hear_o (fun z => h4 z.1) (fun z => h6 z.1)) (fun p h1 h2 => by
          have u1 : mi_ (wI (wI M a (19 + 9 * i + (3 + s)) (nI (h1_ (e 6 (i * 6 + s))))) a (19 + 9 * i + 2) (nI (nk e (e 3 i) s (h1_ (e 6 (i * 6 + s))) (e 4 i)))) h = mi_ M h := (wI_o (Ne.symm hah)).trans (wI_o (Ne.symm hah))
          rw [u1]
          exact hh p (by omega) h2) (by omega) (by omega)
        refine ⟨N, g1, fm_t f12 g2, ?_, ?_, ?_⟩
        · simpa only [fo, hg, if_true] using g3
        · simpa only [fo, hg, if_true] using g4
        · simpa only [fo, hg, if_true] using g5
      by_cases h99 : 99 ≤ e 6 (i * 6 + s)
      · rw [if_pos (show (99 : Int32) ≤ nI (e 6 (i * 6 + s)) from (nI_le h99 (by omega) : nI 99 ≤ _))]
        exact key 99 (by rw [show e 6 (i * 6 + s) = 99 by omega]; rfl)
      · rw [if_neg (show ¬ (99 : Int32) ≤ nI (e 6 (i * 6 + s)) from (nI_ge (by omega) (by decide) : ¬ nI 99 ≤ _)), nI_1]
        exact key _ (by simp [h1_, h99])
end MD
