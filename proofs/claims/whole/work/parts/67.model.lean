/-! ===== the model's side: a school in 73 ints; c 7 is the seat of a pupil ===== -/
def RC_ (f : Nat → Int32) (c : sT) : Prop := (f 0 = nI (c 0 3) ∧ f 1 = nI (c 0 1) ∧ f 2 = nI (c 0 2) ∧ f 3 = nI (c 0 4) ∧ f 4 = nI (c 0 0)) ∧ (∀ s, s < c 0 1 → f (5 + s) = nI (c 1 s)) ∧ (∀ l, l < c 0 2 → f (11 + l) = nI (c 2 l)) ∧
  (∀ p, p < c 0 3 → f (19 + 9 * p + 0) = nI (c 3 p)) ∧ (∀ p, p < c 0 3 → f (19 + 9 * p + 1) = nI (c 7 p)) ∧ (∀ p, p < c 0 3 → f (19 + 9 * p + 2) = nI (c 4 p)) ∧ (∀ p, p < c 0 3 → ∀ s, s < c 0 1 → f (19 + 9 * p + (3 + s)) = nI (c 6 (p * 6 + s)))
/-- seats and pupils are each other's -/
def iv (c : sT) : Prop := (∀ p, p < c 0 3 → c 7 p < c 0 3 ∧ c 5 (c 7 p) = p) ∧ ∀ t, t < c 0 3 → c 7 (c 5 t) = t
theorem iv_o {c e : sT} (h0 : e 0 3 = c 0 3) (h5 : e 5 = c 5) (h7 : e 7 = c 7) (h : iv c) : iv e := by
  unfold iv
  rw [h0, h5, h7]
  exact h
/-- an array of 73 ints -/
def AK (M : mM) (a : Nat) : Prop := a < mz M ∧ mk_ M a = (1, 73)
theorem AK.sh {M N : mM} {a : Nat} (h : AK M a) (g : sh M N) : AK N a := ⟨by rw [g.1]; exact h.1, by rw [g.2.1]; exact h.2⟩
theorem ix_9 (p q : Nat) : ((19 : Int32) + ((9 : Int32) * nI p)) + nI q = nI (19 + 9 * p + q) := by rw [show (9 : Int32) = nI 9 from rfl, show (19 : Int32) = nI 19 from rfl, pk_mul, nI_add, nI_add]
theorem f_bits : ∀ n, n < 64 → fo (fun i s => s + (if n.testBit i then 1 else 0)) 0 6 0 = bc n := by decide +kernel
theorem b2_n (b : Bool) : b2 b = nI (if b then 1 else 0) := by cases b <;> rfl
section MQ1
variable {M : mM} {a : Nat} {c : sT}
theorem m_bitsL {x : Nat} (hx : x < 64) {ρ : Type} (k0 : Int32 → Option ρ) : ∀ (d i n r : Nat), i + d = 6 → d < n → m_X7_bits_L4 k0 M (nI x) n (nI r) (nI i) = k0 (nI (fo (fun i s => s + (if x.testBit i then 1 else 0)) i d r)) := by
  intro d
  induction d with
  | zero =>
    intro i n r hi hn
    obtain ⟨n, rfl⟩ : ∃ z, n = z + 1 := ⟨n - 1, by omega⟩
    rw [m_X7_bits_L4, if_pos (show (6 : Int32) ≤ nI i from (nI_le (by omega) (by omega) : nI 6 ≤ nI i))]
    rfl
  | succ d ih =>
    intro i n r hi hn
    obtain ⟨n, rfl⟩ : ∃ z, n = z + 1 := ⟨n - 1, by omega⟩
    rw [m_X7_bits_L4, if_neg (show ¬ (6 : Int32) ≤ nI i from (nI_ge (by omega) (by decide) : ¬ nI 6 ≤ nI i)), f_bit x hx i (by omega), b2_n, nI_add, nI_1, ih (i + 1) n _ (by omega) (by omega)]
    rfl
theorem m_bits {x : Nat} (hx : x < 64) : m_X7_bits M (nI x) = some (nI (bc x)) := by
  rw [← f_bits x hx]
  exact m_bitsL hx _ 6 0 FU 0 (by decide) (by decide)
theorem m_has {x s : Nat} (hx : x < 64) (hs : s < 6) : m_X7_has M (nI x) (nI s) = some (b2 (x.testBit s)) := by
  rw [m_X7_has, f_bit x hx s hs]
  cases x.testBit s <;> rfl
theorem m_of (K : AK M a) {p q : Nat} (h : 19 + 9 * p + q < 73) : m_X7_of M a (nI p) (nI q) = some (mi_ M a (19 + 9 * p + q)) := by
  rw [m_X7_of, ix_9, ld_ K.1 K.2 h (by decide), Option.bind_some]
theorem m_be9 (K : AK M a) {p q : Nat} {v : Int32} (h : 19 + 9 * p + q < 73) : m_X7_be M a (nI p) (nI q) v = some (wI M a (19 + 9 * p + q) v) := by
  rw [m_X7_be, ix_9, st_ K.1 K.2 h (by decide), Option.bind_some]
theorem l_P (K : AK M a) (R : RC_ (mi_ M a) c) : ldI M a (0 : Int32) = some (nI (c 0 3)) := (ld_ (p := 0) K.1 K.2 (by decide) (by decide)).trans (by rw [R.1.1])
theorem l_J (K : AK M a) (R : RC_ (mi_ M a) c) : ldI M a (1 : Int32) = some (nI (c 0 1)) := (ld_ (p := 1) K.1 K.2 (by decide) (by decide)).trans (by rw [R.1.2.1])
theorem l_D (K : AK M a) (R : RC_ (mi_ M a) c) : ldI M a (2 : Int32) = some (nI (c 0 2)) := (ld_ (p := 2) K.1 K.2 (by decide) (by decide)).trans (by rw [R.1.2.2.1])
theorem l_Y (K : AK M a) (R : RC_ (mi_ M a) c) : ldI M a (3 : Int32) = some (nI (c 0 4)) := (ld_ (p := 3) K.1 K.2 (by decide) (by decide)).trans (by rw [R.1.2.2.2.1])
theorem l_R (K : AK M a) (R : RC_ (mi_ M a) c) : ldI M a (4 : Int32) = some (nI (c 0 0)) := (ld_ (p := 4) K.1 K.2 (by decide) (by decide)).trans (by rw [R.1.2.2.2.2])
theorem l_nd (K : AK M a) (w : wf c) (R : RC_ (mi_ M a) c) {s : Nat} (hs : s < c 0 1) : ldI M a ((5 : Int32) + nI s) = some (nI (c 1 s)) := by
  have := w.2.1.2
  rw [show (5 : Int32) = nI 5 from rfl, nI_add, ld_ K.1 K.2 (by omega) (by decide), R.2.1 s hs]
theorem l_pl (K : AK M a) (w : wf c) (R : RC_ (mi_ M a) c) {l : Nat} (hl : l < c 0 2) : ldI M a ((11 : Int32) + nI l) = some (nI (c 2 l)) := by
  have := w.2.2.1.2
  rw [show (11 : Int32) = nI 11 from rfl, nI_add, ld_ K.1 K.2 (by omega) (by decide), R.2.2.1 l hl]
theorem o_0 (K : AK M a) (w : wf c) (R : RC_ (mi_ M a) c) {p : Nat} (hp : p < c 0 3) : m_X7_of M a (nI p) (0 : Int32) = some (nI (c 3 p)) := by
  have := w.2.2.2.1.2
  exact (m_of (q := 0) K (by omega)).trans (by rw [R.2.2.2.1 p hp])
theorem o_1 (K : AK M a) (w : wf c) (R : RC_ (mi_ M a) c) {p : Nat} (hp : p < c 0 3) : m_X7_of M a (nI p) (1 : Int32) = some (nI (c 7 p)) := by
  have := w.2.2.2.1.2
  exact (m_of (q := 1) K (by omega)).trans (by rw [R.2.2.2.2.1 p hp])
theorem o_2 (K : AK M a) (w : wf c) (R : RC_ (mi_ M a) c) {p : Nat} (hp : p < c 0 3) : m_X7_of M a (nI p) (2 : Int32) = some (nI (c 4 p)) := by
  have := w.2.2.2.1.2
  exact (m_of (q := 2) K (by omega)).trans (by rw [R.2.2.2.2.2.1 p hp])
theorem o_3 (K : AK M a) (w : wf c) (R : RC_ (mi_ M a) c) {p s : Nat} (hp : p < c 0 3) (hs : s < c 0 1) : m_X7_of M a (nI p) ((3 : Int32) + nI s) = some (nI (c 6 (p * 6 + s))) := by
  have := w.2.2.2.1.2
  have := w.2.1.2
  rw [show (3 : Int32) = nI 3 from rfl, nI_add]
  exact (m_of (q := 3 + s) K (by omega)).trans (by rw [R.2.2.2.2.2.2 p hp s hs])
theorem m_subj (K : AK M a) (w : wf c) (R : RC_ (mi_ M a) c) {d : Nat} (hd : d < 2 ^ 31) : m_X7_subjectOf M a (nI d) = some (nI (taught c d)) := by
  have hD := w.2.2.1
  have hm : d % c 0 2 < c 0 2 := Nat.mod_lt _ (by omega)
  have hrem : rm_ (nI d) (nI (c 0 2)) = nI (d % c 0 2) := pk_rem hd (by omega) (by omega)
  rw [m_X7_subjectOf, l_D K R, Option.bind_some, if_neg (nI_ne0 (by omega) (by omega)), hrem, l_pl K w R hm, Option.bind_some]
  rfl
theorem m_can (K : AK M a) (w : wf c) (R : RC_ (mi_ M a) c) {s n : Nat} (hs : s < c 0 1) (hn : n < 64) : m_X7_canGrasp M a (nI s) (nI n) = some (b2 (grasp c s n)) := by
  rw [m_X7_canGrasp, l_nd K w R hs, Option.bind_some]
  by_cases hg : grasp c s n = true
  · rw [if_pos ((g_iff (q_needs w hs) hn).mpr hg), hg]
    rfl
  · rw [if_neg (fun q => hg ((g_iff (q_needs w hs) hn).mp q))]
    simp only [Bool.not_eq_true] at hg
    rw [hg]
    rfl
theorem m_inL (K : AK M a) (w : wf c) (i7 : iv c) (R : RC_ (mi_ M a) c) {t : Nat} (ht : t < c 0 3) {ρ : Type} (k0 : Option ρ) (k1 : Int32 → Option ρ) : ∀ (d i n : Nat), i + d = c 5 t → d < n → m_X7_inSeat_L2 k0 k1 M a (nI t) n (nI i) = k1 (nI (c 5 t)) := by
  have hP := w.2.2.2.1.2
  have h5 := w.2.2.2.2.2.2.2.2.2.1 t ht
  intro d
  induction d with
  | zero =>
    intro i n hi hn
    obtain ⟨n, rfl⟩ : ∃ z, n = z + 1 := ⟨n - 1, by omega⟩
    obtain rfl : i = c 5 t := by omega
    rw [m_X7_inSeat_L2, l_P K R, Option.bind_some, if_neg (nI_ge h5 (by omega)), o_1 K w R h5, Option.bind_some, i7.2 t ht, if_pos rfl]
  | succ d ih =>
    intro i n hi hn
    obtain ⟨n, rfl⟩ : ∃ z, n = z + 1 := ⟨n - 1, by omega⟩
    have hi' : i < c 0 3 := by omega
    have h7 := i7.1 i hi'
    have hne : c 7 i ≠ t := fun q => by rw [q] at h7; omega
    rw [m_X7_inSeat_L2, l_P K R, Option.bind_some, if_neg (nI_ge hi' (by omega)), o_1 K w R hi', Option.bind_some, if_neg (ne_lit (by omega) (by omega) hne), nI_1, ih (i + 1) n (by omega) (by omega)]
theorem m_in (K : AK M a) (w : wf c) (i7 : iv c) (R : RC_ (mi_ M a) c) {t : Nat} (ht : t < c 0 3) : m_X7_inSeat M a (nI t) = some (nI (c 5 t)) := by
  have hP := w.2.2.2.1.2
  have h5 := w.2.2.2.2.2.2.2.2.2.1 t ht
  exact m_inL K w i7 R ht _ _ (c 5 t) 0 FU (by omega) (by unfold FU; omega)
theorem m_hears7 (K : AK M a) (w : wf c) (i7 : iv c) (R : RC_ (mi_ M a) c) {p : Nat} (hp : p < c 0 3) : m_X7_hears M a (nI p) = some (b2 (hc c (taught c (c 0 4)) (c 7 p))) := by
  have hP := w.2.2.2.1.2
  have hr := w.1
  have hd := w.2.2.2.2.1
  have h7 := i7.1 p hp
  have hk := w.2.2.2.2.2.2.2.1 p hp
  have hs := tau_lt w (c 0 4)
  have hJ := w.2.1.2
  rw [m_X7_hears, o_1 K w R hp, Option.bind_some, l_R K R, Option.bind_some]
  by_cases h : c 7 p ≤ c 0 0
  · rw [if_pos (nI_le h (by omega))]
    simp [hc, hany, h, b2]
  · rw [if_neg (nI_ge (by omega) (by omega)), o_0 K w R hp, Option.bind_some]
    by_cases h4 : c 3 p < 4
    · rw [if_pos (show nI (c 3 p) < (4 : Int32) from (nI_lt h4 (by decide) : _ < nI 4))]
      obtain ⟨t, ht⟩ : ∃ t, c 7 p = t + 1 := ⟨c 7 p - 1, by omega⟩
      have h5 := w.2.2.2.2.2.2.2.2.2.1 t (by omega)
      rw [ht, nI_pred, m_in K w i7 R (show t < c 0 3 by omega), Option.bind_some, o_2 K w R h5, Option.bind_some, l_Y K R, Option.bind_some, m_subj K w R (by omega), Option.bind_some, m_has (q_knows w h5) (by omega), Option.bind_some]
      have e : hc c (taught c (c 0 4)) (t + 1) = (c 4 (c 5 t)).testBit (taught c (c 0 4)) := by
        have h57 : c 5 (t + 1) = p := by rw [← ht]; exact h7.2
        have : hany c (c 5 (t + 1)) (t + 1) = false := by
          rw [h57]
          simp only [hany, Bool.or_eq_false_iff, decide_eq_false_iff_not]
          omega
        simp [hc, this]
      rw [e]
      cases (c 4 (c 5 t)).testBit (taught c (c 0 4)) <;> rfl
    · rw [if_neg (show ¬ nI (c 3 p) < (4 : Int32) from (nI_nlt (by omega) (by omega) : ¬ _ < nI 4))]
      have : hany c (c 5 (c 7 p)) (c 7 p) = true := by
        rw [h7.2]
        simp only [hany, Bool.or_eq_true, decide_eq_true_eq]
        omega
      simp [hc, this, b2]
/-- the tail of learned -/
def lr_t (M : mM) (x0 : Nat) (v6 v x2 : Int32) : Option Int32 :=
  m_X7_learned_L100 (fun v24 => if v6 = (5 : Int32) then ((m_X7_bits M v24).bind fun v27 => if v27 ≤ (4 : Int32) then (some v24) else (some (v24 &&& (v24 - (1 : Int32))))) else (some v24)) M x0 v6 FU v (x2 + (1 : Int32))
theorem lr_eq (M : mM) (x0 : Nat) (x1 x2 : Int32) : m_X7_learned M x0 x1 x2 = ((m_X7_of M x0 x1 (2 : Int32)).bind fun v2 => (m_X7_of M x0 x1 ((3 : Int32) + x2)).bind fun v4 => (m_X7_of M x0 x1 (0 : Int32)).bind fun v6 =>
    if (4 : Int32) ≤ v6 then ((ldI M x0 ((5 : Int32) + x2)).bind fun v9 => (m_X7_bits M v9).bind fun v11 => if v4 < v11 then (if (0 : Int32) = (0 : Int32) then lr_t M x0 v6 (v2 ||| (0 : Int32)) x2 else lr_t M x0 v6 (v2 ||| ((1 : Int32) <<< (x2 &&& 31))) x2) else (if (1 : Int32) = (0 : Int32) then lr_t M x0 v6 (v2 ||| (0 : Int32)) x2 else lr_t M x0 v6 (v2 ||| ((1 : Int32) <<< (x2 &&& 31))) x2))
    else ((m_X7_canGrasp M x0 x2 v2).bind fun v46 => if v46 = (0 : Int32) then (if (0 : Int32) = (0 : Int32) then lr_t M x0 v6 (v2 ||| (0 : Int32)) x2 else lr_t M x0 v6 (v2 ||| ((1 : Int32) <<< (x2 &&& 31))) x2) else
      (if v6 = (3 : Int32) then (if v4 < (2 : Int32) then (if (0 : Int32) = (0 : Int32) then lr_t M x0 v6 (v2 ||| (0 : Int32)) x2 else lr_t M x0 v6 (v2 ||| ((1 : Int32) <<< (x2 &&& 31))) x2) else (if (1 : Int32) = (0 : Int32) then lr_t M x0 v6 (v2 ||| (0 : Int32)) x2 else lr_t M x0 v6 (v2 ||| ((1 : Int32) <<< (x2 &&& 31))) x2))
      else (if (1 : Int32) = (0 : Int32) then lr_t M x0 v6 (v2 ||| (0 : Int32)) x2 else lr_t M x0 v6 (v2 ||| ((1 : Int32) <<< (x2 &&& 31))) x2)))) := rfl
theorem or_0 {x : Nat} (hx : x < 64) : nI x ||| (0 : Int32) = nI x := (f_ors x hx 0 (by decide)).trans (by rw [Nat.or_zero])
theorem m_lrL (K : AK M a) (w : wf c) (R : RC_ (mi_ M a) c) {ρ : Type} (k0 : Int32 → Option ρ) : ∀ (d i n x : Nat), i + d = c 0 1 → d < n → x < 2 ^ c 0 1 → m_X7_learned_L100 k0 M a (2 : Int32) n (nI x) (nI i) = k0 (nI (fo (fun q m => if c 1 q = 0 then m else kg c q m) i d x)) := by
  have hJ := w.2.1.2
  intro d
  induction d with
  | zero =>
    intro i n x hi hn _
    obtain ⟨n, rfl⟩ : ∃ z, n = z + 1 := ⟨n - 1, by omega⟩
    rw [m_X7_learned_L100, l_J K R, Option.bind_some, if_pos (nI_le (show c 0 1 ≤ i by omega) (by omega))]
    rfl
  | succ d ih =>
    intro i n x hi hn hx
    obtain ⟨n, rfl⟩ : ∃ z, n = z + 1 := ⟨n - 1, by omega⟩
    have hi' : i < c 0 1 := by omega
    have hx6 : x < 64 := Nat.lt_of_lt_of_le hx (p2_64 hJ)
    have hnd := q_needs w hi'
    rw [m_X7_learned_L100, l_J K R, Option.bind_some, if_neg (nI_ge hi' (by omega)), if_pos rfl, l_nd K w R hi', Option.bind_some, m_can K w R hi' hx6, Option.bind_some, or_0 hx6, f_or x hx6 i (by omega), nI_1, ih (i + 1) n x (by omega) (by omega) hx, ih (i + 1) n _ (by omega) (by omega) (or_lt' hx hi')]
    by_cases h0 : c 1 i = 0
    · rw [if_pos ((nI_e0 (by omega)).mpr h0)]
      simp only [fo, h0, if_true]
    · rw [if_neg (fun q => h0 ((nI_e0 (by omega)).mp q))]
      cases hg : grasp c i x with
      | true =>
        rw [if_neg (by decide)]
        simp only [fo, h0, if_false, kg, hg, if_true]
      | false =>
        rw [if_pos (by decide)]
        simp only [fo, h0, if_false, kg, hg, Bool.false_eq_true]
theorem m_lrt (K : AK M a) (w : wf c) (R : RC_ (mi_ M a) c) {t s x : Nat} (h1 : 1 ≤ t) (h5 : t ≤ 5) (hs : s < c 0 1) (hx : x < 2 ^ c 0 1) : lr_t M a (nI t) (nI x) (nI s) = some (nI (if t = 2 then ko c s x else if t = 5 then k2_ x else x)) := by
  have hJ := w.2.1.2
  have hx6 : x < 64 := Nat.lt_of_lt_of_le hx (p2_64 hJ)
  have nk : t ≠ 2 → ∀ (n : Nat) (k0 : Int32 → Option Int32), m_X7_learned_L100 k0 M a (nI t) (n + 1) (nI x) (nI (s + 1)) = k0 (nI x) := by
    intro h n k0
    rw [m_X7_learned_L100, l_J K R, Option.bind_some, if_neg (show ¬ nI t = (2 : Int32) from (ne_lit (by omega) (by decide) h : ¬ nI t = nI 2))]
    split <;> rfl
  unfold lr_t
  rw [nI_1]
  by_cases h2 : t = 2
  · subst h2
    rw [show (nI 2 : Int32) = (2 : Int32) from rfl, m_lrL K w R _ (c 0 1 - (s + 1)) (s + 1) FU x (by omega) (by unfold FU; omega) hx, if_neg (by decide)]
    rfl
  · have := nk h2 4999
    rw [show FU = 4999 + 1 from rfl, this]
    by_cases h : t = 5
    · subst h
      rw [if_pos (by decide), m_bits hx6, Option.bind_some]
      have hb := f_bcl x hx6
      by_cases h4 : bc x ≤ 4
      · rw [if_pos (show nI (bc x) ≤ (4 : Int32) from (nI_le h4 (by decide) : nI (bc x) ≤ nI 4))]
        simp [k2_, h4]
      · rw [if_neg (show ¬ nI (bc x) ≤ (4 : Int32) from (nI_ge (by omega) (by omega) : ¬ nI (bc x) ≤ nI 4)), f_low x hx6]
        simp [k2_, h4]
    · rw [if_neg (show ¬ nI t = (5 : Int32) from (ne_lit (by omega) (by decide) h : ¬ nI t = nI 5))]
      simp [h2, h]
theorem m_lrn (K : AK M a) (w : wf c) (R : RC_ (mi_ M a) c) {p s : Nat} (hp : p < c 0 3) (hs : s < c 0 1) : m_X7_learned M a (nI p) (nI s) = some (nI (nk c (c 3 p) s (c 6 (p * 6 + s)) (c 4 p))) := by
  have hJ := w.2.1.2
  have hk := w.2.2.2.2.2.2.2.1 p hp
  have hx := w.2.2.2.2.2.2.2.2.1 p hp
  have hx6 := q_knows w hp
  have hh := w.2.2.2.2.2.2.2.2.2.2.2 p hp s hs
  have hb := f_bcl _ (q_needs w hs)
  have T := fun y hy => m_lrt K w R (t := c 3 p) (s := s) (x := y) hk.1 hk.2 hs hy
  rw [lr_eq, o_2 K w R hp, Option.bind_some, o_3 K w R hp hs, Option.bind_some, o_0 K w R hp, Option.bind_some, or_0 hx6, f_or _ hx6 s (by omega), T _ hx, T _ (or_lt' hx hs), if_pos (rfl : (0 : Int32) = 0), if_neg (by decide : ¬ (1 : Int32) = 0)]
  by_cases h4 : 4 ≤ c 3 p
  · rw [if_pos (show (4 : Int32) ≤ nI (c 3 p) from (nI_le h4 (by omega) : nI 4 ≤ _)), l_nd K w R hs, Option.bind_some, m_bits (q_needs w hs), Option.bind_some]
    have e2 : c 3 p ≠ 2 := by omega
    have e1 : c 3 p ≠ 1 := by omega
    have e3 : c 3 p ≠ 3 := by omega
    by_cases h : c 6 (p * 6 + s) < bc (c 1 s)
    · rw [if_pos (nI_lt h (by omega))]
      simp [nk, e1, e2, e3, k1_, h]
    · rw [if_neg (nI_nlt (by omega) (by omega))]
      simp [nk, e1, e2, e3, k1_, h]
  · rw [if_neg (show ¬ (4 : Int32) ≤ nI (c 3 p) from (nI_ge (by omega) (by decide) : ¬ nI 4 ≤ _)), m_can K w R hs hx6, Option.bind_some]
    have e5 : c 3 p ≠ 5 := by omega
    cases hg : grasp c s (c 4 p) with
    | false =>
      rw [if_pos (by decide)]
      rcases (show c 3 p = 1 ∨ c 3 p = 2 ∨ c 3 p = 3 by omega) with h | h | h <;> simp [nk, kg, h, hg]
    | true =>
      rw [if_neg (by decide)]
      by_cases h3 : c 3 p = 3
      · rw [if_pos (by rw [h3]; rfl)]
        by_cases h : c 6 (p * 6 + s) < 2
        · rw [if_pos (show nI (c 6 (p * 6 + s)) < (2 : Int32) from (nI_lt h (by decide) : _ < nI 2))]
          simp [nk, h3, h]
        · rw [if_neg (show ¬ nI (c 6 (p * 6 + s)) < (2 : Int32) from (nI_nlt (by omega) (by omega) : ¬ _ < nI 2))]
          simp [nk, kg, h3, h, hg]
      · rw [if_neg (show ¬ nI (c 3 p) = (3 : Int32) from (ne_lit (by omega) (by decide) h3 : ¬ nI (c 3 p) = nI 3))]
        rcases (show c 3 p = 1 ∨ c 3 p = 2 by omega) with h | h <;> simp [nk, kg, h, hg]
end MQ1
