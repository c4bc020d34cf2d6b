/-! ===== the model: a day whole, days, copies, sums ===== -/
theorem fo_id {α : Type} : ∀ (d i : Nat) (x : α), fo (fun _ e => e) i d x = x
  | 0, _, _ => rfl
  | d + 1, i, x => fo_id d (i + 1) x
def dayB (b : Bool) (c : sT) : sT := if b then dayS c else up2 c 0 4 (c 0 4 + 1)
theorem dayS_r {c : sT} (w : wf c) : ∀ b, b ≠ 4 → b ≠ 6 → b ≠ 0 → dayS c b = c b := by
  intro b h4 h6 h0
  have g := (wf_ds w (tau_lt w (c 0 4)) (c 0 3) 0 c w ag_0 (by omega)).2
  unfold dayS
  rw [up_or h0]
  exact g.1 b h4 h6
theorem dayS_0 {c : sT} (w : wf c) {j : Nat} (hj : j ≠ 4) : dayS c 0 j = c 0 j := by
  have g := (wf_ds w (tau_lt w (c 0 4)) (c 0 3) 0 c w ag_0 (by omega)).2
  unfold dayS
  rw [up_q hj]
  unfold ds
  rw [g.1 0 (by decide) (by decide)]
theorem dayS_4 {c : sT} : dayS c 0 4 = c 0 4 + 1 := by unfold dayS; rw [up_s]
theorem wf_day {c : sT} (w : wf c) (hd : c 0 4 < 2000) : wf (dayS c) := by
  have g := (wf_ds w (tau_lt w (c 0 4)) (c 0 3) 0 c w ag_0 (by omega)).1
  exact wf_d g (by omega)
theorem iv_day {c : sT} (w : wf c) (i7 : iv c) : iv (dayS c) := iv_o (dayS_0 w (by decide)) (dayS_r w 5 (by decide) (by decide) (by decide)) (dayS_r w 7 (by decide) (by decide) (by decide)) i7
section MC1
variable {M : mM} {x h a : Nat} {c : sT}
theorem m_db (H : MH M x h) (K : AK M a) (w : wf c) (i7 : iv c) (R : RC_ (mi_ M a) c) (hah : a ≠ h) (hd : c 0 4 < 2000) (fl : Int32) : ∃ N, m_X7_dayBy M x a fl = some N ∧ fm a h M N ∧ RC_ (mi_ N a) (dayB (decide (fl = 0)) c) ∧ wf (dayB (decide (fl = 0)) c) ∧ iv (dayB (decide (fl = 0)) c) := by
  have hP := w.2.2.2.1.2
  have hJ := w.2.1.2
  have hs := tau_lt w (c 0 4)
  rw [m_X7_dayBy, l_Y K R, Option.bind_some, m_subj K w R (by omega), Option.bind_some]
  obtain ⟨N1, f1, f2, f3, -, f5⟩ := m_dbL (x := x) (h := h) w i7 hah (fl := fl) (fun M20 => m_X7_dayBy_L53 (fun M44 => (ldI M44 a (3 : Int32)).bind fun v46 => (stI M44 a (3 : Int32) (v46 + (1 : Int32))).bind fun M47 => some M47) x a (nI (taught c (c 0 4))) FU M20 (0 : Int32)) (nI (taught c (c 0 4))) (c 0 3) 0 FU M H K R (by omega) (by unfold FU; omega)
  have f1' : m_X7_dayBy_L11 _ x a fl (nI (taught c (c 0 4))) FU M (0 : Int32) = _ := f1
  rw [f1']
  obtain ⟨N2, g1, g2, g3, g4, g5⟩ := m_dbM w hah hs (fun p => decide (fl = 0) && hc c (taught c (c 0 4)) (c 7 p)) (fun M44 => (ldI M44 a (3 : Int32)).bind fun v46 => (stI M44 a (3 : Int32) (v46 + (1 : Int32))).bind fun M47 => some M47) (c 0 3) 0 FU N1 c (H.sh f2.1) (K.sh f2.1) w (by rw [f3]; exact R) (fun _ _ _ => rfl) (fun p h1 h2 => f5 p (Nat.zero_le _) h2) (by omega) (by unfold FU; omega)
  have g1' : m_X7_dayBy_L53 _ x a (nI (taught c (c 0 4))) FU N1 (0 : Int32) = _ := g1
  rw [g1']
  have K2 := K.sh (fm_t f2 g2).1
  -- the fold is the day's
  have e : fo (fun p e => if decide (fl = 0) && hc c (taught c (c 0 4)) (c 7 p) then hear1 e p (taught c (c 0 4)) else e) 0 (c 0 3) c = if decide (fl = 0) then ds c (taught c (c 0 4)) else c := by
    by_cases hf : fl = 0
    · simp only [hf, decide_true, Bool.true_and, if_true]
      exact ds_dm w i7 (by omega)
    · simp only [hf, decide_false, Bool.false_and, if_false, Bool.false_eq_true]
      exact fo_id _ _ _
  rw [e] at g3 g4 g5
  have e4 : (if decide (fl = 0) then ds c (taught c (c 0 4)) else c) 0 4 = c 0 4 := by rw [g5 0 (by decide) (by decide)]
  have e3 : (if decide (fl = 0) then ds c (taught c (c 0 4)) else c) 0 3 = c 0 3 := by rw [g5 0 (by decide) (by decide)]
  have eY := l_Y K2 g3
  rw [e4] at eY
  have eD : dayB (decide (fl = 0)) c = up2 (if decide (fl = 0) then ds c (taught c (c 0 4)) else c) 0 4 (c 0 4 + 1) := by
    unfold dayB dayS
    split <;> rfl
  have st3 : stI N2 a (3 : Int32) (nI (c 0 4 + 1)) = some (wI N2 a 3 (nI (c 0 4 + 1))) := st_ (p := 3) K2.1 K2.2 (by decide) (by decide)
  refine ⟨wI N2 a 3 (nI (c 0 4 + 1)), ?_, fm_t (fm_t f2 g2) fm_a, ?_, ?_, ?_⟩
  · rw [eY, Option.bind_some, nI_1, st3, Option.bind_some]
  · rw [eD, wI_a]
    exact RC_d g3
  · rw [eD]
    exact wf_d g4 (by omega)
  · rw [eD]
    refine iv_o (c := c) ?_ ?_ ?_ i7
    · rw [up_q (by decide)]
      exact e3
    · rw [up_or (by decide)]
      exact g5 5 (by decide) (by decide)
    · rw [up_or (by decide)]
      exact g5 7 (by decide) (by decide)
/-- n days -/
def dN : Nat → sT → sT
  | 0, c => c
  | n + 1, c => dN n (dayS c)
theorem m_dOL (hah : a ≠ h) {ρ : Type} (k0 : mM → Option ρ) {m : Nat} (hm : m ≤ 60) : ∀ (d i n : Nat) (M : mM) (c : sT), MH M x h → AK M a → wf c → iv c → RC_ (mi_ M a) c → c 0 4 + d ≤ 2000 → i + d = m → d < n →
    ∃ N, m_X7_daysOf_L2 k0 x a (nI m) n M (nI i) = k0 N ∧ fm a h M N ∧ RC_ (mi_ N a) (dN d c) ∧ wf (dN d c) ∧ iv (dN d c) := by
  intro d
  induction d with
  | zero =>
    intro i n M c H K w i7 R hd hi hn
    obtain ⟨n, rfl⟩ : ∃ z, n = z + 1 := ⟨n - 1, by omega⟩
    refine ⟨M, ?_, fm_r a h M, R, w, i7⟩
    rw [m_X7_daysOf_L2, if_pos (nI_le (show m ≤ i by omega) (by omega))]
  | succ d ih =>
    intro i n M c H K w i7 R hd hi hn
    obtain ⟨n, rfl⟩ : ∃ z, n = z + 1 := ⟨n - 1, by omega⟩
    obtain ⟨N1, f1, f2, f3, f4, f5⟩ := m_db H K w i7 R hah (by omega) 0
    rw [m_X7_daysOf_L2, if_neg (nI_ge (show i < m by omega) (by omega)), if_pos H.1, f1, Option.bind_some, nI_1]
    have e4 : dayB (decide ((0 : Int32) = 0)) c 0 4 = c 0 4 + 1 := dayS_4
    obtain ⟨N, g1, g2, g3, g4, g5⟩ := ih (i + 1) n N1 _ (H.sh f2.1) (K.sh f2.1) f4 f5 f3 (by rw [e4]; omega) (by omega) (by omega)
    exact ⟨N, g1, fm_t f2 g2, g3, g4, g5⟩
theorem m_dO (H : MH M x h) (K : AK M a) (w : wf c) (i7 : iv c) (R : RC_ (mi_ M a) c) (hah : a ≠ h) {m : Nat} (hm : m ≤ 60) (hd : c 0 4 + m ≤ 2000) : ∃ N, m_X7_daysOf M x a (nI m) = some N ∧ fm a h M N ∧ RC_ (mi_ N a) (dN m c) ∧ wf (dN m c) ∧ iv (dN m c) :=
  m_dOL hah _ hm m 0 FU M c H K w i7 R hd (by omega) (by unfold FU; omega)
theorem m_kn7L (K : AK M a) (w : wf c) (R : RC_ (mi_ M a) c) {ρ : Type} (k0 : Int32 → Option ρ) : ∀ (d i n x : Nat), i + d = c 0 3 → d < n → m_X7_known_L4 k0 M a n (nI x) (nI i) = k0 (nI (fo (fun p s => s + bc (c 4 p)) i d x)) := by
  have hP := w.2.2.2.1.2
  intro d
  induction d with
  | zero =>
    intro i n x hi hn
    obtain ⟨n, rfl⟩ : ∃ z, n = z + 1 := ⟨n - 1, by omega⟩
    rw [m_X7_known_L4, l_P K R, Option.bind_some, if_pos (nI_le (show c 0 3 ≤ i by omega) (by omega))]
    rfl
  | succ d ih =>
    intro i n x hi hn
    obtain ⟨n, rfl⟩ : ∃ z, n = z + 1 := ⟨n - 1, by omega⟩
    have hi' : i < c 0 3 := by omega
    rw [m_X7_known_L4, l_P K R, Option.bind_some, if_neg (nI_ge hi' (by omega)), o_2 K w R hi', Option.bind_some, m_bits (q_knows w hi'), Option.bind_some, nI_add, nI_1, ih (i + 1) n _ (by omega) (by omega)]
    rfl
theorem m_kn7 (K : AK M a) (w : wf c) (R : RC_ (mi_ M a) c) : m_X7_known M a = some (nI (known c)) := by
  have hP := w.2.2.2.1.2
  exact m_kn7L K w R _ (c 0 3) 0 FU 0 (by omega) (by unfold FU; omega)
theorem m_kb7L (K : AK M a) (w : wf c) (R : RC_ (mi_ M a) c) {ρ : Type} (k0 : Int32 → Option ρ) : ∀ (d i n x : Nat), i + d = c 0 3 → d < n → x < 64 → m_X7_knownBy_L18 k0 M a (1 : Int32) n (nI x) (nI i) = k0 (nI (fo (fun p s => s &&& c 4 p) i d x)) ∧ m_X7_knownBy_L18 k0 M a (0 : Int32) n (nI x) (nI i) = k0 (nI (fo (fun p s => s ||| c 4 p) i d x)) := by
  have hP := w.2.2.2.1.2
  intro d
  induction d with
  | zero =>
    intro i n x hi hn _
    obtain ⟨n, rfl⟩ : ∃ z, n = z + 1 := ⟨n - 1, by omega⟩
    constructor
    · rw [m_X7_knownBy_L18, l_P K R, Option.bind_some, if_pos (nI_le (show c 0 3 ≤ i by omega) (by omega))]
      rfl
    · rw [m_X7_knownBy_L18, l_P K R, Option.bind_some, if_pos (nI_le (show c 0 3 ≤ i by omega) (by omega))]
      rfl
  | succ d ih =>
    intro i n x hi hn hx
    obtain ⟨n, rfl⟩ : ∃ z, n = z + 1 := ⟨n - 1, by omega⟩
    have hi' : i < c 0 3 := by omega
    constructor
    · rw [m_X7_knownBy_L18, l_P K R, Option.bind_some, if_neg (nI_ge hi' (by omega)), if_neg (by decide), o_2 K w R hi', Option.bind_some, f_ands x hx _ (q_knows w hi'), nI_1, (ih (i + 1) n _ (by omega) (by omega) (an_lt hx)).1]
      rfl
    · rw [m_X7_knownBy_L18, l_P K R, Option.bind_some, if_neg (nI_ge hi' (by omega)), if_pos rfl, o_2 K w R hi', Option.bind_some, f_ors x hx _ (q_knows w hi'), nI_1, (ih (i + 1) n _ (by omega) (by omega) (o_lt hx (q_knows w hi'))).2]
      rfl
theorem m_ka7 (K : AK M a) (w : wf c) (R : RC_ (mi_ M a) c) : m_X7_knownBy M a (1 : Int32) = some (nI (kall c)) := by
  have hP := w.2.2.2.1.2
  have hJ := w.2.1.2
  have := p2_64 hJ
  rw [m_X7_knownBy, if_neg (by decide), l_J K R, Option.bind_some, f_ful _ (by omega)]
  exact (m_kb7L K w R _ (c 0 3) 0 FU (2 ^ c 0 1 - 1) (by omega) (by unfold FU; omega) (by omega)).1
theorem m_ky7 (K : AK M a) (w : wf c) (R : RC_ (mi_ M a) c) : m_X7_knownBy M a (0 : Int32) = some (nI (kany c)) := by
  have hP := w.2.2.2.1.2
  rw [m_X7_knownBy, if_pos rfl]
  exact (m_kb7L K w R _ (c 0 3) 0 FU 0 (by omega) (by unfold FU; omega) (by decide)).2
theorem RC_cg {f g : Nat → Int32} (b : c 0 1 ≤ 6 ∧ c 0 2 ≤ 8 ∧ c 0 3 ≤ 6) (h : ∀ q, q < 73 → g q = f q) (R : RC_ f c) : RC_ g c := by
  obtain ⟨⟨r0, r1, r2, r3, r4⟩, R1, R2, R3, R4, R5, R6⟩ := R
  obtain ⟨b1, b2, b3⟩ := b
  exact ⟨⟨(h _ (by omega)).trans r0, (h _ (by omega)).trans r1, (h _ (by omega)).trans r2, (h _ (by omega)).trans r3, (h _ (by omega)).trans r4⟩, fun s hs => (h _ (by omega)).trans (R1 s hs), fun l hl => (h _ (by omega)).trans (R2 l hl), fun q hq => (h _ (by omega)).trans (R3 q hq), fun q hq => (h _ (by omega)).trans (R4 q hq), fun q hq => (h _ (by omega)).trans (R5 q hq), fun q hq s hs => (h _ (by omega)).trans (R6 q hq s hs)⟩
/-- only the cell a changes -/
def f1_ (a : Nat) (M N : mM) : Prop := sh M N ∧ ∀ b, b ≠ a → mi_ N b = mi_ M b
theorem f1_r (a : Nat) (M : mM) : f1_ a M M := ⟨sh_r M, fun _ _ => rfl⟩
theorem f1_t {a : Nat} {A B C : mM} (f : f1_ a A B) (g : f1_ a B C) : f1_ a A C := ⟨sh_t f.1 g.1, fun b h => (g.2 b h).trans (f.2 b h)⟩
theorem f1_w {a j : Nat} {M : mM} {v : Int32} : f1_ a M (wI M a j v) := ⟨sh_w _ _ _ _, fun b h => wI_o h⟩
theorem m_layL {t s : Nat} (hts : t ≠ s) {ρ : Type} (k0 : mM → Option ρ) : ∀ (d i n : Nat) (M : mM), isO M x 7 = true → mr_ M x 7 = some t → mr_ M x 5 = some s → AK M t → AK M s → i + d = 73 → d < n →
    ∃ N, m_X7_layThen_L2 k0 x n M (nI i) = k0 N ∧ f1_ t M N ∧ (∀ q, q < i → mi_ N t q = mi_ M t q) ∧ ∀ q, i ≤ q → q < 73 → mi_ N t q = mi_ M s q := by
  intro d
  induction d with
  | zero =>
    intro i n M hO ht hs Kt Ks hi hn
    obtain ⟨n, rfl⟩ : ∃ z, n = z + 1 := ⟨n - 1, by omega⟩
    refine ⟨M, ?_, f1_r t M, fun _ _ => rfl, fun q h1 h2 => by omega⟩
    rw [m_X7_layThen_L2, if_pos (show (73 : Int32) ≤ nI i from (nI_le (by omega) (by omega) : nI 73 ≤ nI i))]
  | succ d ih =>
    intro i n M hO ht hs Kt Ks hi hn
    obtain ⟨n, rfl⟩ : ∃ z, n = z + 1 := ⟨n - 1, by omega⟩
    rw [m_X7_layThen_L2, if_neg (show ¬ (73 : Int32) ≤ nI i from (nI_ge (by omega) (by decide) : ¬ nI 73 ≤ nI i)), gR_ hO ht, Option.bind_some, gR_ hO hs, Option.bind_some, ld_ Ks.1 Ks.2 (show i < 73 by omega) (by decide), Option.bind_some, st_ Kt.1 Kt.2 (show i < 73 by omega) (by decide), Option.bind_some, nI_1]
    have f1 : f1_ t M (wI M t i (mi_ M s i)) := f1_w
    obtain ⟨N, g1, g2, g3, g4⟩ := ih (i + 1) n (wI M t i (mi_ M s i)) (by rw [isO_sh f1.1]; exact hO) ht hs (Kt.sh f1.1) (Ks.sh f1.1) (by omega) (by omega)
    refine ⟨N, g1, f1_t f1 g2, fun q hq => ?_, fun q h1 h2 => ?_⟩
    · rw [g3 q (by omega), wI_s, if_neg (by omega)]
    · by_cases hq : q = i
      · subst hq
        rw [g3 q (by omega), wI_s, if_pos rfl]
      · rw [g4 q (by omega) h2, wI_o (Ne.symm hts)]
theorem m_lay {t s : Nat} (hts : t ≠ s) (hO : isO M x 7 = true) (ht : mr_ M x 7 = some t) (hs : mr_ M x 5 = some s) (Kt : AK M t) (Ks : AK M s) (b : c 0 1 ≤ 6 ∧ c 0 2 ≤ 8 ∧ c 0 3 ≤ 6) (R : RC_ (mi_ M s) c) : ∃ N, m_X7_layThen M x = some N ∧ f1_ t M N ∧ RC_ (mi_ N t) c := by
  obtain ⟨N, g1, g2, g3, g4⟩ := m_layL hts (fun M10 => some M10) 73 0 FU M hO ht hs Kt Ks (by omega) (by decide)
  exact ⟨N, g1, g2, RC_cg b (fun q hq => g4 q (Nat.zero_le _) hq) R⟩
end MC1
