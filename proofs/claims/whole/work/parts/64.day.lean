/-! ===== a day of the school ===== -/
def hear1 (c : sT) (p s : Nat) : sT := up2 (up2 c 6 (p * 6 + s) (h1_ (c 6 (p * 6 + s)))) 4 p (nk c (c 3 p) s (h1_ (c 6 (p * 6 + s))) (c 4 p))
theorem h1_le {h : Nat} (hh : h ≤ 99) : h1_ h ≤ 99 := by
  unfold h1_
  split <;> omega
theorem nk_6 {c : sT} {j v t s h n : Nat} : nk (up2 c 6 j v) t s h n = nk c t s h n := rfl
theorem wf_hear {c : sT} (w : wf c) {p s : Nat} (hp : p < c 0 3) (hs : s < c 0 1) : wf (hear1 c p s) := by
  have w6 := wf_6 w (j := p * 6 + s) (h1_le (w.2.2.2.2.2.2.2.2.2.2.2 p hp s hs))
  exact wf_4 w6 (nk_lt (w.2.2.2.2.2.2.2.2.1 p hp) hs)
theorem hear_o {c : sT} {p s b q : Nat} (h4 : ¬ (b = 4 ∧ q = p)) (h6 : ¬ (b = 6 ∧ q = p * 6 + s)) : hear1 c p s b q = c b q := by
  unfold hear1
  simp only [up2]
  split
  · rename_i hb
    subst hb
    split
    · rename_i hq
      exact absurd ⟨rfl, hq⟩ h4
    · rfl
  · split
    · rename_i hb
      subst hb
      split
      · rename_i hq
        exact absurd ⟨rfl, hq⟩ h6
      · rfl
    · rfl
/-- the tail of hearLesson -/
def hl_t (M : mM) (x0 : Nat) (x1 x2 : Int32) : Option mM :=
  (gR M x0 5 7).bind fun b39 =>
    (ldI M b39 x1).bind fun v42 =>
    if v42 = (1 : Int32) then (
      if isO M x0 5 = true then
      (m_X5_learnByGrasp M x0 x1 x2).bind fun M45 =>
      some M45
      else none
    ) else
    if v42 = (2 : Int32) then (
      if isO M x0 5 = true then
      (m_X5_learnByGrasp M x0 x1 x2).bind fun M49 =>
      if isO M49 x0 5 = true then
      (m_X5_learnOnwards M49 x0 x1 x2).bind fun M51 =>
      some M51
      else none
      else none
    ) else
    if v42 = (3 : Int32) then (
      (gR M x0 5 10).bind fun b55 =>
      (ldI M b55 ((x1 * (6 : Int32)) + x2)).bind fun v58 =>
      if v58 < (2 : Int32) then (
        some M
      ) else (
        if isO M x0 5 = true then
        (m_X5_learnByGrasp M x0 x1 x2).bind fun M61 =>
        some M61
        else none
      )
    ) else
    (
      if isO M x0 5 = true then
      (m_X5_learnAsSnake M x0 x1 x2).bind fun M64 =>
      some M64
      else none
    )
theorem hl_eq (M : mM) (x0 : Nat) (x1 x2 : Int32) : m_X5_hearLesson M x0 x1 x2 = ((gR M x0 5 10).bind fun b1 => (ldI M b1 ((x1 * (6 : Int32)) + x2)).bind fun v4 => if (99 : Int32) ≤ v4 then hl_t M x0 x1 x2 else
    (gR M x0 5 10).bind fun b33 => (ldI M b33 ((x1 * (6 : Int32)) + x2)).bind fun v36 => (stI M b33 ((x1 * (6 : Int32)) + x2) (v36 + (1 : Int32))).bind fun M37 => hl_t M37 x0 x1 x2) := rfl
section SD
variable {M : mM} {k : Nat} {c : sT}
theorem ne_lit {a b : Nat} (ha : a < 2 ^ 31) (hb : b < 2 ^ 31) (h : a ≠ b) : ¬ nI a = nI b := fun q => h ((nI_eq ha hb).mp q)
theorem m_hlt (K : SK M k) (w : wf c) (A : SA M k c) {p s : Nat} (hp : p < c 0 3) (hs : s < c 0 1) : ∃ N, hl_t M k (nI p) (nI s) = some N ∧ SA N k (up2 c 4 p (nk c (c 3 p) s (c 6 (p * 6 + s)) (c 4 p))) ∧ fr k M N := by
  have hk := w.2.2.2.2.2.2.2.1 p hp
  have hx := w.2.2.2.2.2.2.2.2.1 p hp
  have hh := w.2.2.2.2.2.2.2.2.2.2.2 p hp s hs
  have A' : SA M k (up2 c 4 p (c 4 p)) := by rw [up_id]; exact A
  rw [hl_t, r_3 K, Option.bind_some, a_3 K w A hp, Option.bind_some]
  rcases (show c 3 p = 1 ∨ c 3 p = 2 ∨ c 3 p = 3 ∨ c 3 p = 4 ∨ c 3 p = 5 by omega) with h | h | h | h | h
  · rw [h, if_pos (by decide), if_pos K.1]
    obtain ⟨N, g1, g2, g3⟩ := m_lgr K w hx A' hp hs
    rw [g1, Option.bind_some]
    exact ⟨N, rfl, g2, g3⟩
  · rw [h, if_neg (by decide), if_pos (by decide), if_pos K.1]
    obtain ⟨N, g1, g2, g3⟩ := m_lgr K w hx A' hp hs
    rw [g1, Option.bind_some, if_pos (K.sh g3.1).1]
    obtain ⟨N2, f1, f2, f3⟩ := m_lon (K.sh g3.1) w (kg_lt hx hs) g2 hp hs
    rw [f1, Option.bind_some]
    exact ⟨N2, rfl, f2, fr_t g3 f3⟩
  · rw [h, if_neg (by decide), if_neg (by decide), if_pos (by decide), r_6 K, Option.bind_some, a_6 K w A hp hs, Option.bind_some]
    by_cases h2 : c 6 (p * 6 + s) < 2
    · rw [if_pos (show nI (c 6 (p * 6 + s)) < (2 : Int32) from (nI_lt h2 (by decide) : _ < nI 2))]
      refine ⟨M, rfl, ?_, fr_r k M⟩
      have e : nk c 3 s (c 6 (p * 6 + s)) (c 4 p) = c 4 p := by simp [nk, h2]
      rw [e]
      exact A'
    · rw [if_neg (show ¬ nI (c 6 (p * 6 + s)) < (2 : Int32) from (nI_nlt (by omega) (by omega) : ¬ _ < nI 2)), if_pos K.1]
      obtain ⟨N, g1, g2, g3⟩ := m_lgr K w hx A' hp hs
      rw [g1, Option.bind_some]
      have e : nk c 3 s (c 6 (p * 6 + s)) (c 4 p) = kg c s (c 4 p) := by simp [nk, h2]
      rw [e]
      exact ⟨N, rfl, g2, g3⟩
  · rw [h, if_neg (by decide), if_neg (by decide), if_neg (by decide), if_pos K.1]
    obtain ⟨N, g1, g2, g3⟩ := m_ls K w hx A' hp hs
    rw [g1, Option.bind_some]
    refine ⟨N, rfl, ?_, g3⟩
    rw [h] at g2
    exact g2
  · rw [h, if_neg (by decide), if_neg (by decide), if_neg (by decide), if_pos K.1]
    obtain ⟨N, g1, g2, g3⟩ := m_ls K w hx A' hp hs
    rw [g1, Option.bind_some]
    refine ⟨N, rfl, ?_, g3⟩
    rw [h] at g2
    exact g2
theorem m_hear (K : SK M k) (w : wf c) (A : SA M k c) {p s : Nat} (hp : p < c 0 3) (hs : s < c 0 1) : ∃ N, m_X5_hearLesson M k (nI p) (nI s) = some N ∧ SA N k (hear1 c p s) ∧ fr k M N := by
  have hP := w.2.2.2.1.2
  have hJ := w.2.1.2
  have hh := w.2.2.2.2.2.2.2.2.2.2.2 p hp s hs
  rw [hl_eq, r_6 K, Option.bind_some, a_6 K w A hp hs, Option.bind_some]
  by_cases h : 99 ≤ c 6 (p * 6 + s)
  · rw [if_pos (show (99 : Int32) ≤ nI (c 6 (p * 6 + s)) from (nI_le h (by omega) : nI 99 ≤ _))]
    have e : h1_ (c 6 (p * 6 + s)) = c 6 (p * 6 + s) := by simp [h1_, h]
    unfold hear1
    rw [e, up_id]
    exact m_hlt K w A hp hs
  · rw [if_neg (show ¬ (99 : Int32) ≤ nI (c 6 (p * 6 + s)) from (nI_ge (by omega) (by decide) : ¬ nI 99 ≤ _)), Option.bind_some, a_6 K w A hp hs, Option.bind_some, ix_6, s_6 K (by omega), Option.bind_some, nI_1]
    have e : h1_ (c 6 (p * 6 + s)) = c 6 (p * 6 + s) + 1 := by simp [h1_, h]
    have A2 := SA_w (j := p * 6 + s) (v := c 6 (p * 6 + s) + 1) A (by decide : 1 ≤ 6) (by decide)
    have f2 : fr k M (wI M (k + 6) (p * 6 + s) (nI (c 6 (p * 6 + s) + 1))) := fr_w (by decide)
    have w2 := wf_6 w (j := p * 6 + s) (n := c 6 (p * 6 + s) + 1) (by omega)
    obtain ⟨N, g1, g2, g3⟩ := m_hlt (K.sh f2.1) w2 A2 (p := p) (s := s) hp hs
    refine ⟨N, g1, ?_, fr_t f2 g3⟩
    rw [up_s, up_o (show (3 : Nat) ≠ 6 by decide), up_o (show (4 : Nat) ≠ 6 by decide), nk_6] at g2
    unfold hear1
    rw [e]
    exact g2
/-- whether the pupil in seat t hears the lesson s of the day, by what is known as it begins -/
def hc (c : sT) (s t : Nat) : Bool := (decide (0 < t) && (c 4 (c 5 (t - 1))).testBit s) || hany c (c 5 t) t
def ds (c : sT) (s : Nat) : sT := fo (fun t e => if hc c s t then hear1 e (c 5 t) s else e) 0 (c 0 3) c
def dayS (c : sT) : sT := up2 (ds c (taught c (c 0 4))) 0 4 (c 0 4 + 1)
/-- the rows that days leave alone, and pupils in seats from t on -/
def ag (c e : sT) (t : Nat) : Prop := (∀ b, b ≠ 4 → b ≠ 6 → e b = c b) ∧ ∀ u, t ≤ u → u < c 0 3 → e 4 (c 5 u) = c 4 (c 5 u)
theorem ag_s {c e : sT} {t s : Nat} (w : wf c) (ht : t < c 0 3) (h : ag c e t) : ag c (hear1 e (c 5 t) s) (t + 1) := by
  refine ⟨fun b h4 h6 => ?_, fun u hu hP => ?_⟩
  · rw [← h.1 b h4 h6]
    funext q
    exact hear_o (fun z => h4 z.1) (fun z => h6 z.1)
  · rw [hear_o (fun z => ?_) (fun z => by omega)]
    · exact h.2 u (by omega) hP
    · have := w.2.2.2.2.2.2.2.2.2.2.1 u t hP ht z.2
      omega
theorem ag_m {c e : sT} {t : Nat} (h : ag c e t) : ag c e (t + 1) := ⟨h.1, fun u hu hP => h.2 u (by omega) hP⟩
theorem m_dayL (w : wf c) {s : Nat} (hs : s < c 0 1) {ρ : Type} (k0 : mM → Option ρ) : ∀ (d t n : Nat) (M : mM) (e : sT), SK M k → wf e → SA M k e → ag c e t → t + d = c 0 3 → d < n →
    ∃ N, m_X5_passDay_L13 k0 k (nI s) n M (b2 (decide (0 < t) && (c 4 (c 5 (t - 1))).testBit s)) (nI t) = k0 N ∧ SA N k (fo (fun t e => if hc c s t then hear1 e (c 5 t) s else e) t d e) ∧ fr k M N ∧ wf (fo (fun t e => if hc c s t then hear1 e (c 5 t) s else e) t d e) := by
  have hP := w.2.2.2.1.2
  intro d
  induction d with
  | zero =>
    intro t n M e K we A g ht hn
    obtain ⟨n, rfl⟩ : ∃ z, n = z + 1 := ⟨n - 1, by omega⟩
    have e03 : e 0 3 = c 0 3 := by rw [g.1 0 (by decide) (by decide)]
    refine ⟨M, ?_, A, fr_r k M, we⟩
    rw [m_X5_passDay_L13, g_s K A (j := 3) (by decide), Option.bind_some, if_pos (nI_le (by omega) (by omega))]
  | succ d ih =>
    intro t n M e K we A g ht hn
    obtain ⟨n, rfl⟩ : ∃ z, n = z + 1 := ⟨n - 1, by omega⟩
    have e03 : e 0 3 = c 0 3 := by rw [g.1 0 (by decide) (by decide)]
    have e01 : e 0 1 = c 0 1 := by rw [g.1 0 (by decide) (by decide)]
    have e5 : e 5 = c 5 := g.1 5 (by decide) (by decide)
    have ht' : t < e 0 3 := by omega
    have hp : c 5 t < e 0 3 := by rw [e03]; exact w.2.2.2.2.2.2.2.2.2.1 t (by omega)
    have hs' : s < e 0 1 := by omega
    have ea5 := a_5 K we A ht'
    rw [e5] at ea5
    have ek := m_knows K we A hp hs'
    rw [g.2 t (Nat.le_refl _) (by omega)] at ek
    have ea := m_hany K we A hp (t := t) (by omega)
    have eh : hany e (c 5 t) t = hany c (c 5 t) t := by
      unfold hany
      rw [g.1 0 (by decide) (by decide), g.1 3 (by decide) (by decide)]
    rw [eh] at ea
    obtain ⟨N1, h1, h2, h3⟩ := m_hear K we A hp hs'
    -- the two ways on
    have onA : hc c s t = true → ∃ N, m_X5_passDay_L13 k0 k (nI s) n N1 (b2 ((c 4 (c 5 t)).testBit s)) (nI (t + 1)) = k0 N ∧ SA N k (fo (fun t e => if hc c s t then hear1 e (c 5 t) s else e) t (d + 1) e) ∧ fr k M N ∧ wf (fo (fun t e => if hc c s t then hear1 e (c 5 t) s else e) t (d + 1) e) := by
      intro hh
      obtain ⟨N, f1, f2, f3, f4⟩ := ih (t + 1) n N1 (hear1 e (c 5 t) s) (K.sh h3.1) (wf_hear we hp hs') h2 (ag_s w (by omega) g) (by omega) (by omega)
      rw [show t + 1 - 1 = t by omega, show decide (0 < t + 1) = true from decide_eq_true (by omega), Bool.true_and] at f1
      refine ⟨N, f1, ?_, fr_t h3 f3, ?_⟩
      · simpa only [fo, hh, if_true] using f2
      · simpa only [fo, hh, if_true] using f4
    have onB : hc c s t = false → ∃ N, m_X5_passDay_L13 k0 k (nI s) n M (b2 ((c 4 (c 5 t)).testBit s)) (nI (t + 1)) = k0 N ∧ SA N k (fo (fun t e => if hc c s t then hear1 e (c 5 t) s else e) t (d + 1) e) ∧ fr k M N ∧ wf (fo (fun t e => if hc c s t then hear1 e (c 5 t) s else e) t (d + 1) e) := by
      intro hh
      obtain ⟨N, f1, f2, f3, f4⟩ := ih (t + 1) n M e K we A (ag_m g) (by omega) (by omega)
      rw [show t + 1 - 1 = t by omega, show decide (0 < t + 1) = true from decide_eq_true (by omega), Bool.true_and] at f1
      refine ⟨N, f1, ?_, f3, ?_⟩
      · simpa only [fo, hh, if_false, Bool.false_eq_true] using f2
      · simpa only [fo, hh, if_false, Bool.false_eq_true] using f4
    rw [m_X5_passDay_L13, g_s K A (j := 3) (by decide), Option.bind_some, if_neg (nI_ge ht' (by omega)), r_5 K, Option.bind_some, ea5, Option.bind_some, nI_1]
    cases hf : (decide (0 < t) && (c 4 (c 5 (t - 1))).testBit s) with
    | true =>
      rw [if_neg (by decide), if_pos K.1, ek, Option.bind_some, if_neg (by decide), if_pos K.1, h1, Option.bind_some]
      exact onA (by simp [hc, hf])
    | false =>
      rw [if_pos (by decide), if_pos K.1, ea, Option.bind_some]
      cases hy : hany c (c 5 t) t with
      | true =>
        rw [if_neg (by decide), if_pos K.1, ek, Option.bind_some, if_neg (by decide), if_pos K.1, h1, Option.bind_some]
        exact onA (by simp [hc, hf, hy])
      | false =>
        rw [if_pos (by decide), if_pos K.1, ek, Option.bind_some, if_pos (by decide)]
        exact onB (by simp [hc, hf, hy])
theorem wf_ds (w : wf c) {s : Nat} (hs : s < c 0 1) : ∀ (d t : Nat) (e : sT), wf e → ag c e t → t + d = c 0 3 → wf (fo (fun t e => if hc c s t then hear1 e (c 5 t) s else e) t d e) ∧ ag c (fo (fun t e => if hc c s t then hear1 e (c 5 t) s else e) t d e) (c 0 3)
  | 0, t, e, we, g, ht => ⟨we, by rw [show c 0 3 = t by omega]; exact g⟩
  | d + 1, t, e, we, g, ht => by
    have e03 : e 0 3 = c 0 3 := by rw [g.1 0 (by decide) (by decide)]
    have e01 : e 0 1 = c 0 1 := by rw [g.1 0 (by decide) (by decide)]
    have hp : c 5 t < e 0 3 := by rw [e03]; exact w.2.2.2.2.2.2.2.2.2.1 t (by omega)
    simp only [fo]
    split
    · exact wf_ds w hs d (t + 1) _ (wf_hear we hp (by omega)) (ag_s w (by omega) g) (by omega)
    · exact wf_ds w hs d (t + 1) _ we (ag_m g) (by omega)
theorem ag_0 : ag c c 0 := ⟨fun _ _ _ => rfl, fun _ _ _ => rfl⟩
theorem tau_lt (w : wf c) (d : Nat) : taught c d < c 0 1 := w.2.2.2.2.2.2.1 _ (Nat.mod_lt _ (by have := w.2.2.1.1; omega))
theorem m_day (K : SK M k) (w : wf c) (A : SA M k c) (hd : c 0 4 < 2000) : ∃ N, m_X5_passDay M k = some N ∧ SA N k (dayS c) ∧ fr k M N ∧ wf (dayS c) := by
  have hP := w.2.2.2.1.2
  have hs := tau_lt w (c 0 4)
  rw [m_X5_passDay, g_s K A (j := 4) (by decide), Option.bind_some, if_pos K.1, m_taught K w A (by omega), Option.bind_some]
  obtain ⟨N, g1, g2, g3, g4⟩ := m_dayL w hs (fun M38 => (gI M38 k 5 4).bind fun v39 => (pI M38 k 5 4 (v39 + (1 : Int32))).bind fun M41 => some M41) (c 0 3) 0 FU M c K w A ag_0 (by omega) (by unfold FU; omega)
  have hag := (wf_ds w hs (c 0 3) 0 c w ag_0 (by omega)).2
  have e04 : ds c (taught c (c 0 4)) 0 4 = c 0 4 := by
    unfold ds
    rw [hag.1 0 (by decide) (by decide)]
  have g2' : SA N k (ds c (taught c (c 0 4))) := g2
  have K2 := K.sh g3.1
  have e4 := g_s K2 g2' (j := 4) (by decide)
  rw [e04] at e4
  refine ⟨wI N k 4 (nI (c 0 4 + 1)), ?_, SA_w0 g2' (Or.inr rfl), fr_t g3 fr_w0, wf_d g4 (by omega)⟩
  have : b2 (decide (0 < 0) && (c 4 (c 5 (0 - 1))).testBit (taught c (c 0 4))) = 0 := rfl
  rw [this] at g1
  show m_X5_passDay_L13 _ k (nI (taught c (c 0 4))) FU M (0 : Int32) (nI 0) = _
  rw [g1, e4, Option.bind_some, pI_ K2.1, Option.bind_some, nI_1]
end SD
