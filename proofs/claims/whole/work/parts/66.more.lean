/-! ===== School: the rest of its questions and changes ===== -/
def sw (c : sT) (b t u : Nat) : sT := up2 (up2 c b t (c b u)) b u (c b t)
def clos (c : sT) (n : Nat) : Nat := fo (fun _ r => r ||| gset c r) 0 (c 0 1) n
def nd_ (c : sT) (kn : Nat) : Nat → Nat → Nat
  | 0, r => r
  | i + 1, r => nd_ c kn i (if r.testBit i then r ||| (c 1 i &&& (63 ^^^ kn)) else r)
def best (c : sT) : Nat := fo (fun p b => if bc (c 4 p) ≤ bc (c 4 b) then b else p) 1 (c 0 3 - 1) 0
def alik (c : sT) (p : Nat) : Nat := fo (fun q r => if q = p then r else if c 4 q = c 4 p then r ||| 2 ^ q else r) 0 (c 0 3) 0
def okq (c : sT) (a p q : Nat) : Bool := decide (c 4 p ^^^ c 4 q = 0) || decide (¬ (c 4 p ^^^ c 4 q) &&& a = 0)
/-- from q on, d of them -/
def allq (f : Nat → Bool) : Nat → Nat → Bool
  | _, 0 => true
  | i, d + 1 => f i && allq f (i + 1) d
def tell (c : sT) (a : Nat) : Bool := allq (fun p => allq (fun q => okq c a p q) 0 p) 0 (c 0 3)
def ques (c : sT) : Nat := fo (fun a f => if bc f ≤ bc a then f else if tell c a then a else f) 0 (2 ^ c 0 1) (2 ^ c 0 1 - 1)
section SM
variable {M : mM} {k : Nat} {c : sT}
theorem s_5 (K : SK M k) {p : Nat} (hp : p < 6) (v : Int32) : stI M (k + 5) (nI p) v = some (wI M (k + 5) p v) := st_ (by have := K.2.1; omega) K.2.2.1.2.2.2.2.1 hp (by decide)
theorem s_2 (K : SK M k) {p : Nat} (hp : p < 8) (v : Int32) : stI M (k + 2) (nI p) v = some (wI M (k + 2) p v) := st_ (by have := K.2.1; omega) K.2.2.1.2.1 hp (by decide)
theorem s_3 (K : SK M k) {p : Nat} (hp : p < 6) (v : Int32) : stI M (k + 3) (nI p) v = some (wI M (k + 3) p v) := st_ (by have := K.2.1; omega) K.2.2.1.2.2.1 hp (by decide)
theorem m_swS (K : SK M k) (w : wf c) (A : SA M k c) {t u : Nat} (ht : t < c 0 3) (hu : u < c 0 3) : ∃ N, m_X5_swapSeats M k (nI t) (nI u) = some N ∧ SA N k (sw c 5 t u) ∧ fr k M N := by
  have hP := w.2.2.2.1.2
  have A1 := SA_w (j := t) (v := c 5 u) A (by decide : 1 ≤ 5) (by decide)
  have f1 : fr k M (wI M (k + 5) t (nI (c 5 u))) := fr_w (by decide)
  have K1 := K.sh f1.1
  refine ⟨_, ?_, SA_w (j := u) (v := c 5 t) A1 (by decide : 1 ≤ 5) (by decide), fr_t f1 (fr_w (by decide))⟩
  rw [m_X5_swapSeats, r_5 K, Option.bind_some, a_5 K w A ht, Option.bind_some, Option.bind_some, Option.bind_some, a_5 K w A hu, Option.bind_some, s_5 K (by omega), Option.bind_some, r_5 K1, Option.bind_some, s_5 K1 (by omega), Option.bind_some]
theorem m_swL (K : SK M k) (w : wf c) (A : SA M k c) {t u : Nat} (ht : t < c 0 2) (hu : u < c 0 2) : ∃ N, m_X5_swapLessons M k (nI t) (nI u) = some N ∧ SA N k (sw c 2 t u) ∧ fr k M N := by
  have hP := w.2.2.1.2
  have A1 := SA_w (j := t) (v := c 2 u) A (by decide : 1 ≤ 2) (by decide)
  have f1 : fr k M (wI M (k + 2) t (nI (c 2 u))) := fr_w (by decide)
  have K1 := K.sh f1.1
  refine ⟨_, ?_, SA_w (j := u) (v := c 2 t) A1 (by decide : 1 ≤ 2) (by decide), fr_t f1 (fr_w (by decide))⟩
  rw [m_X5_swapLessons, r_2 K, Option.bind_some, a_2 K w A ht, Option.bind_some, Option.bind_some, Option.bind_some, a_2 K w A hu, Option.bind_some, s_2 K (by omega), Option.bind_some, r_2 K1, Option.bind_some, s_2 K1 (by omega), Option.bind_some]
theorem m_hears (K : SK M k) (w : wf c) (A : SA M k c) {t : Nat} (ht : t < c 0 3) : m_X5_hears M k (nI (c 5 t)) = some (b2 (hc c (taught c (c 0 4)) t)) := by
  have hP := w.2.2.2.1.2
  have hd := w.2.2.2.2.1
  have hp := w.2.2.2.2.2.2.2.2.2.1 t ht
  rw [m_X5_hears, if_pos K.1, m_seat K w A ht, Option.bind_some, if_pos K.1, m_hany K w A hp (by omega), Option.bind_some]
  cases hy : hany c (c 5 t) t with
  | true =>
    rw [if_neg (by decide)]
    simp [hc, hy, b2]
  | false =>
    rw [if_pos (by decide)]
    by_cases h0 : t = 0
    · rw [if_pos (show nI t ≤ (0 : Int32) from (nI_le (by omega) (by decide) : nI t ≤ nI 0))]
      subst h0
      simp [hc, hy, b2]
    · have hq := w.2.2.2.2.2.2.2.2.2.1 (t - 1) (by omega)
      obtain ⟨t', rfl⟩ : ∃ z, t = z + 1 := ⟨t - 1, by omega⟩
      rw [Nat.add_sub_cancel] at hq
      rw [if_neg (show ¬ nI (t' + 1) ≤ (0 : Int32) from (nI_ge (by omega) (by omega) : ¬ _ ≤ nI 0)), r_5 K, Option.bind_some, nI_pred, a_5 K w A (show t' < c 0 3 by omega), Option.bind_some, g_s K A (j := 4) (by decide), Option.bind_some, if_pos K.1, m_taught K w A (by omega), Option.bind_some, if_pos K.1, m_knows K w A hq (tau_lt w _), Option.bind_some]
      simp only [hc, hy, Nat.add_sub_cancel, Bool.or_false, show decide (0 < t' + 1) = true from decide_eq_true (by omega), Bool.true_and]
      cases (c 4 (c 5 t')).testBit (taught c (c 0 4)) <;> rfl
theorem gset_lt (w : wf c) {m : Nat} : gset c m < 64 := by
  have hJ := w.2.1.2
  unfold gset
  refine fo_inv (P := fun r => r < 64) _ _ _ (by decide) (fun j y h1 h2 hy => ?_)
  split
  · exact o_lt hy (p2_lt (by omega))
  · exact hy
theorem m_closL (K : SK M k) (w : wf c) (A : SA M k c) {ρ : Type} (k0 : Int32 → Option ρ) : ∀ (d i n x : Nat), i + d = c 0 1 → d < n → x < 64 → m_X5_closure_L4 k0 M k n (nI x) (nI i) = k0 (nI (fo (fun _ r => r ||| gset c r) i d x)) := by
  have hJ := w.2.1.2
  intro d
  induction d with
  | zero =>
    intro i n x hi hn _
    obtain ⟨n, rfl⟩ : ∃ z, n = z + 1 := ⟨n - 1, by omega⟩
    rw [m_X5_closure_L4, g_s K A (j := 1) (by decide), Option.bind_some, if_pos (nI_le (show c 0 1 ≤ i by omega) (by omega))]
    rfl
  | succ d ih =>
    intro i n x hi hn hx
    obtain ⟨n, rfl⟩ : ∃ z, n = z + 1 := ⟨n - 1, by omega⟩
    rw [m_X5_closure_L4, g_s K A (j := 1) (by decide), Option.bind_some, if_neg (nI_ge (show i < c 0 1 by omega) (by omega)), if_pos K.1, m_gset K w A hx, Option.bind_some, nI_1, f_ors x hx _ (gset_lt w), ih (i + 1) n _ (by omega) (by omega) (o_lt hx (gset_lt w))]
    rfl
theorem m_clos (K : SK M k) (w : wf c) (A : SA M k c) {x : Nat} (hx : x < 64) : m_X5_closure M k (nI x) = some (nI (clos c x)) := by
  have hJ := w.2.1.2
  exact m_closL K w A _ (c 0 1) 0 FU x (by omega) (by unfold FU; omega) hx
theorem an_lt {a b : Nat} (h : a < 64) : a &&& b < 64 := Nat.lt_of_le_of_lt Nat.and_le_left h
theorem m_ndL (K : SK M k) (w : wf c) (A : SA M k c) {kn : Nat} (hk : kn < 64) {ρ : Type} (k0 : Int32 → Option ρ) : ∀ (i n x : Nat), i < c 0 1 → i + 1 < n → x < 64 → m_X5_needed_L11 k0 M k (nI kn) n (nI x) (nI i) = k0 (nI (nd_ c kn (i + 1) x)) := by
  have hJ := w.2.1.2
  intro i
  induction i with
  | zero =>
    intro n x hi hn hx
    obtain ⟨n, rfl⟩ : ∃ z, n = z + 1 + 1 := ⟨n - 2, by omega⟩
    have key : ∀ r : Nat, m_X5_needed_L11 k0 M k (nI kn) (n + 1) (nI r) (nI 0 + (-1 : Int32)) = k0 (nI r) := fun r => by
      rw [m_X5_needed_L11, if_pos (by decide)]
    rw [m_X5_needed_L11, if_neg (nI_pos (by decide)), f_bit x hx 0 (by decide), r_1 K, Option.bind_some, a_1 K w A hi, Option.bind_some, f_an _ (q_needs w hi) _ hk, f_ors x hx _ (an_lt (q_needs w hi)), key, key]
    cases hb : x.testBit 0 with
    | true => simp [nd_, hb, b2]
    | false => simp [nd_, hb, b2]
  | succ i ih =>
    intro n x hi hn hx
    obtain ⟨n, rfl⟩ : ∃ z, n = z + 1 := ⟨n - 1, by omega⟩
    rw [m_X5_needed_L11, if_neg (nI_pos (by omega)), f_bit x hx (i + 1) (by omega), r_1 K, Option.bind_some, a_1 K w A hi, Option.bind_some, f_an _ (q_needs w hi) _ hk, f_ors x hx _ (an_lt (q_needs w hi)), pk_m1, ih n x (by omega) (by omega) hx, ih n _ (by omega) (by omega) (o_lt hx (an_lt (q_needs w hi)))]
    cases hb : x.testBit (i + 1) with
    | true =>
      rw [if_neg (by decide)]
      conv => rhs; rw [nd_, hb]
      rfl
    | false =>
      rw [if_pos (by decide)]
      conv => rhs; rw [nd_, hb]
      rfl
theorem m_nd (K : SK M k) (w : wf c) (A : SA M k c) {s kn : Nat} (hs : s < c 0 1) (hk : kn < 64) : m_X5_needed M k (nI s) (nI kn) = some (nI (nd_ c kn (s + 1) (2 ^ s &&& (63 ^^^ kn)))) := by
  have hJ := w.2.1.2
  rw [m_X5_needed, f_shl s (by omega), f_an _ (p2_lt (by omega)) _ hk]
  exact m_ndL K w A hk _ s FU _ hs (by unfold FU; omega) (an_lt (p2_lt (by omega)))
theorem m_bestL (K : SK M k) (w : wf c) (A : SA M k c) {ρ : Type} (k0 : Int32 → Option ρ) : ∀ (d i n x : Nat), i + d = c 0 3 → d < n → x < c 0 3 → m_X5_bestPupil_L4 k0 M k n (nI x) (nI i) = k0 (nI (fo (fun p b => if bc (c 4 p) ≤ bc (c 4 b) then b else p) i d x)) := by
  have hP := w.2.2.2.1.2
  intro d
  induction d with
  | zero =>
    intro i n x hi hn _
    obtain ⟨n, rfl⟩ : ∃ z, n = z + 1 := ⟨n - 1, by omega⟩
    rw [m_X5_bestPupil_L4, g_s K A (j := 3) (by decide), Option.bind_some, if_pos (nI_le (show c 0 3 ≤ i by omega) (by omega))]
    rfl
  | succ d ih =>
    intro i n x hi hn hx
    obtain ⟨n, rfl⟩ : ∃ z, n = z + 1 := ⟨n - 1, by omega⟩
    have hi' : i < c 0 3 := by omega
    have b1 := f_bcl _ (q_knows w hi')
    have b3 := f_bcl _ (q_knows w hx)
    rw [m_X5_bestPupil_L4, g_s K A (j := 3) (by decide), Option.bind_some, if_neg (nI_ge hi' (by omega)), if_pos K.1, m_form K w A hi', Option.bind_some, if_pos K.1, m_form K w A hx, Option.bind_some, nI_1, ih (i + 1) n x (by omega) (by omega) hx, ih (i + 1) n i (by omega) (by omega) hi']
    by_cases h : bc (c 4 i) ≤ bc (c 4 x)
    · rw [if_pos (nI_le h (by omega))]
      simp only [fo, h, if_true]
    · rw [if_neg (nI_ge (by omega) (by omega))]
      simp only [fo, h, if_false]
theorem m_best (K : SK M k) (w : wf c) (A : SA M k c) : m_X5_bestPupil M k = some (nI (best c)) := by
  have hP := w.2.2.2.1
  exact m_bestL K w A _ (c 0 3 - 1) 1 FU 0 (by omega) (by unfold FU; omega) (by omega)
theorem best_lt (w : wf c) : best c < c 0 3 := by
  have hP := w.2.2.2.1
  unfold best
  refine fo_inv (P := fun r => r < c 0 3) _ _ _ (by omega) (fun j y h1 h2 hy => ?_)
  split
  · exact hy
  · omega
theorem m_alikL (K : SK M k) (w : wf c) (A : SA M k c) {p : Nat} (hp : p < c 0 3) {ρ : Type} (k0 : Int32 → Option ρ) : ∀ (d i n x : Nat), i + d = c 0 3 → d < n → x < 64 → m_X5_alike_L4 k0 M k (nI p) n (nI x) (nI i) = k0 (nI (fo (fun q r => if q = p then r else if c 4 q = c 4 p then r ||| 2 ^ q else r) i d x)) := by
  have hP := w.2.2.2.1.2
  intro d
  induction d with
  | zero =>
    intro i n x hi hn _
    obtain ⟨n, rfl⟩ : ∃ z, n = z + 1 := ⟨n - 1, by omega⟩
    rw [m_X5_alike_L4, g_s K A (j := 3) (by decide), Option.bind_some, if_pos (nI_le (show c 0 3 ≤ i by omega) (by omega))]
    rfl
  | succ d ih =>
    intro i n x hi hn hx
    obtain ⟨n, rfl⟩ : ∃ z, n = z + 1 := ⟨n - 1, by omega⟩
    have hi' : i < c 0 3 := by omega
    have k1 := q_knows w hi'
    have k2 := q_knows w hp
    rw [m_X5_alike_L4, g_s K A (j := 3) (by decide), Option.bind_some, if_neg (nI_ge hi' (by omega)), r_4 K, Option.bind_some, a_4 K w A hi', Option.bind_some, Option.bind_some, a_4 K w A hp, Option.bind_some, nI_1, f_or x hx i (by omega), ih (i + 1) n x (by omega) (by omega) hx, ih (i + 1) n _ (by omega) (by omega) (o_lt hx (p2_lt (by omega)))]
    by_cases h : i = p
    · rw [if_pos (by rw [h])]
      simp only [fo, h, if_true]
    · rw [if_neg (ne_lit (by omega) (by omega) h)]
      by_cases h2 : c 4 i = c 4 p
      · rw [if_pos (by rw [h2])]
        simp only [fo, h, h2, if_true, if_false]
      · rw [if_neg (ne_lit (by omega) (by omega) h2)]
        simp only [fo, h, h2, if_false]
theorem m_alik (K : SK M k) (w : wf c) (A : SA M k c) {p : Nat} (hp : p < c 0 3) : m_X5_alike M k (nI p) = some (nI (alik c p)) := by
  have hP := w.2.2.2.1.2
  exact m_alikL K w A hp _ (c 0 3) 0 FU 0 (by omega) (by unfold FU; omega) (by decide)
theorem x_lt {a b : Nat} (h : a < 64) (g : b < 64) : a ^^^ b < 64 := Nat.xor_lt_two_pow (n := 6) h g
theorem m_tellI (K : SK M k) (w : wf c) (A : SA M k c) {a p : Nat} (ha : a < 64) (hp : p < c 0 3) {ρ : Type} (k0 k1 : Option ρ) : ∀ (d i n : Nat), i + d = p → d < n → m_X5_tellsApart_L12 k0 k1 M k (nI a) (nI p) n (nI i) = if allq (fun q => okq c a p q) i d then k0 else k1 := by
  have hP := w.2.2.2.1.2
  intro d
  induction d with
  | zero =>
    intro i n hi hn
    obtain ⟨n, rfl⟩ : ∃ z, n = z + 1 := ⟨n - 1, by omega⟩
    rw [m_X5_tellsApart_L12, if_pos (nI_le (show p ≤ i by omega) (by omega))]
    rfl
  | succ d ih =>
    intro i n hi hn
    obtain ⟨n, rfl⟩ : ∃ z, n = z + 1 := ⟨n - 1, by omega⟩
    have hi' : i < c 0 3 := by omega
    have kx := x_lt (q_knows w hp) (q_knows w hi')
    rw [m_X5_tellsApart_L12, if_neg (nI_ge (show i < p by omega) (by omega)), r_4 K, Option.bind_some, a_4 K w A hp, Option.bind_some, Option.bind_some, a_4 K w A hi', Option.bind_some, f_xors _ (q_knows w hp) _ (q_knows w hi'), f_ands _ kx _ ha, nI_1, ih (i + 1) n (by omega) (by omega)]
    by_cases h : c 4 p ^^^ c 4 i = 0
    · rw [if_pos ((nI_e0 (by omega)).mpr h)]
      simp [allq, okq, h]
    · rw [if_neg (fun q => h ((nI_e0 (by omega)).mp q))]
      by_cases h2 : (c 4 p ^^^ c 4 i) &&& a = 0
      · rw [if_pos ((nI_e0 (by have := an_lt (b := a) kx; omega)).mpr h2)]
        simp [allq, okq, h, h2]
      · rw [if_neg (fun q => h2 ((nI_e0 (by have := an_lt (b := a) kx; omega)).mp q))]
        simp [allq, okq, h, h2]
theorem m_tellL (K : SK M k) (w : wf c) (A : SA M k c) {a : Nat} (ha : a < 64) {ρ : Type} (k0 k1 : Option ρ) : ∀ (d i n : Nat), i + d = c 0 3 → d < n → m_X5_tellsApart_L2 k0 k1 M k (nI a) n (nI i) = if allq (fun p => allq (fun q => okq c a p q) 0 p) i d then k0 else k1 := by
  have hP := w.2.2.2.1.2
  intro d
  induction d with
  | zero =>
    intro i n hi hn
    obtain ⟨n, rfl⟩ : ∃ z, n = z + 1 := ⟨n - 1, by omega⟩
    rw [m_X5_tellsApart_L2, g_s K A (j := 3) (by decide), Option.bind_some, if_pos (nI_le (show c 0 3 ≤ i by omega) (by omega))]
    rfl
  | succ d ih =>
    intro i n hi hn
    obtain ⟨n, rfl⟩ : ∃ z, n = z + 1 := ⟨n - 1, by omega⟩
    have hi' : i < c 0 3 := by omega
    rw [m_X5_tellsApart_L2, g_s K A (j := 3) (by decide), Option.bind_some, if_neg (nI_ge hi' (by omega)), nI_1, ih (i + 1) n (by omega) (by omega)]
    have := m_tellI K w A ha hi' (if allq (fun p => allq (fun q => okq c a p q) 0 p) (i + 1) d then k0 else k1) k1 i 0 FU (by omega) (by unfold FU; omega)
    refine this.trans ?_
    cases h : allq (fun q => okq c a i q) 0 i <;> simp [allq, h]
theorem m_tell (K : SK M k) (w : wf c) (A : SA M k c) {a : Nat} (ha : a < 64) : m_X5_tellsApart M k (nI a) = some (b2 (tell c a)) := by
  have hP := w.2.2.2.1.2
  have := m_tellL K w A ha (some (1 : Int32)) (some (0 : Int32)) (c 0 3) 0 FU (by omega) (by unfold FU; omega)
  refine this.trans ?_
  unfold tell b2
  split <;> rfl
theorem m_quesL (K : SK M k) (w : wf c) (A : SA M k c) {ρ : Type} (k0 : Int32 → Option ρ) : ∀ (d i n x : Nat), i + d = 2 ^ c 0 1 → d < n → x < 64 → m_X5_fewestQuestions_L11 k0 M k n (nI x) (nI i) = k0 (nI (fo (fun a f => if bc f ≤ bc a then f else if tell c a then a else f) i d x)) := by
  have hJ := w.2.1.2
  have h64 := p2_64 hJ
  intro d
  induction d with
  | zero =>
    intro i n x hi hn _
    obtain ⟨n, rfl⟩ : ∃ z, n = z + 1 := ⟨n - 1, by omega⟩
    rw [m_X5_fewestQuestions_L11, g_s K A (j := 1) (by decide), Option.bind_some, f_shl _ (by omega), if_pos (nI_le (show 2 ^ c 0 1 ≤ i by omega) (by omega))]
    rfl
  | succ d ih =>
    intro i n x hi hn hx
    obtain ⟨n, rfl⟩ : ∃ z, n = z + 1 := ⟨n - 1, by omega⟩
    have hi' : i < 64 := by omega
    have b1 := f_bcl i hi'
    have b3 := f_bcl x hx
    rw [m_X5_fewestQuestions_L11, g_s K A (j := 1) (by decide), Option.bind_some, f_shl _ (by omega), if_neg (nI_ge (show i < 2 ^ c 0 1 by omega) (by omega)), f_bc hi', Option.bind_some, f_bc hx, Option.bind_some, if_pos K.1, m_tell K w A hi', Option.bind_some, nI_1, ih (i + 1) n x (by omega) (by omega) hx, ih (i + 1) n i (by omega) (by omega) hi']
    by_cases h : bc x ≤ bc i
    · rw [if_pos (nI_le h (by omega))]
      simp only [fo, h, if_true]
    · rw [if_neg (nI_ge (by omega) (by omega))]
      cases ht : tell c i with
      | true =>
        rw [if_neg (by decide)]
        simp only [fo, h, ht, if_false, if_true]
      | false =>
        rw [if_pos (by decide)]
        simp only [fo, h, ht, if_false, Bool.false_eq_true]
theorem m_ques (K : SK M k) (w : wf c) (A : SA M k c) : m_X5_fewestQuestions M k = some (nI (ques c)) := by
  have hJ := w.2.1.2
  have h64 := p2_64 hJ
  have hp : 0 < 2 ^ c 0 1 := Nat.pow_pos (by decide)
  rw [m_X5_fewestQuestions, g_s K A (j := 1) (by decide), Option.bind_some, f_ful _ (by omega)]
  exact m_quesL K w A _ (2 ^ c 0 1) 0 FU (2 ^ c 0 1 - 1) (by omega) (by unfold FU; omega) (by omega)
end SM
