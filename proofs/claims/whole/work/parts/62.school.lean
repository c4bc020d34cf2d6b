/-! ===== the school's questions: each shallow function of School answers what the numbers say ===== -/
def fo {α : Type} (g : Nat → α → α) : Nat → Nat → α → α
  | _, 0, x => x
  | i, d + 1, x => fo g (i + 1) d (g i x)
theorem fo_inv {α : Type} {P : α → Prop} {g : Nat → α → α} : ∀ (d i : Nat) (x : α), P x → (∀ j y, i ≤ j → j < i + d → P y → P (g j y)) → P (fo g i d x)
  | 0, i, x, h, _ => h
  | d + 1, i, x, h, hs => fo_inv d (i + 1) (g i x) (hs i x (by omega) (by omega) h) (fun j y h1 h2 hy => hs j y (by omega) (by omega) hy)
theorem fo_s {α : Type} (g : Nat → α → α) : ∀ (d i : Nat) (x : α), fo g i (d + 1) x = g (i + d) (fo g i d x)
  | 0, i, x => rfl
  | d + 1, i, x => by
    show fo g (i + 1) (d + 1) (g i x) = _
    rw [fo_s g d (i + 1) (g i x), show i + 1 + d = i + (d + 1) by omega]
    rfl
def taught (c : sT) (d : Nat) : Nat := c 2 (d % c 0 2)
def grasp (c : sT) (s n : Nat) : Bool := decide (c 1 s &&& (63 ^^^ n) = 0)
def hany (c : sT) (p t : Nat) : Bool := decide (t ≤ c 0 0) || decide (4 ≤ c 3 p)
def known (c : sT) : Nat := fo (fun p s => s + bc (c 4 p)) 0 (c 0 3) 0
def kall (c : sT) : Nat := fo (fun p s => s &&& c 4 p) 0 (c 0 3) (2 ^ c 0 1 - 1)
def kany (c : sT) : Nat := fo (fun p s => s ||| c 4 p) 0 (c 0 3) 0
def gset (c : sT) (n : Nat) : Nat := fo (fun s r => if grasp c s n then r ||| 2 ^ s else r) 0 (c 0 1) 0
section SQ2
variable {M : mM} {k : Nat} {c : sT}
theorem o_lt {a b : Nat} (h : a < 64) (g : b < 64) : a ||| b < 64 := Nat.or_lt_two_pow (n := 6) h g
theorem p2_lt {s : Nat} (h : s < 6) : 2 ^ s < 64 := show 2 ^ s < 2 ^ 6 from Nat.pow_lt_pow_right (by decide) h
theorem m_form (K : SK M k) (w : wf c) (A : SA M k c) {p : Nat} (hp : p < c 0 3) : m_X5_form M k (nI p) = some (nI (bc (c 4 p))) := by
  simp only [m_X5_form, r_4 K, a_4 K w A hp, f_bc (q_knows w hp), Option.bind_some]
theorem m_seatL (K : SK M k) (w : wf c) (A : SA M k c) {t : Nat} (ht : t < c 0 3) {ρ : Type} (k0 : Option ρ) (k1 : Int32 → Option ρ) : ∀ (d i n : Nat), i + d = t → d < n → m_X5_seatOf_L2 k0 k1 M k (nI (c 5 t)) n (nI i) = k1 (nI t) := by
  have hP := w.2.2.2.1.2
  intro d
  induction d with
  | zero =>
    intro i n hi hn
    obtain ⟨n, rfl⟩ : ∃ z, n = z + 1 := ⟨n - 1, by omega⟩
    have : i = t := by omega
    subst this
    simp only [m_X5_seatOf_L2, g_s K A (j := 3) (by decide), r_5 K, a_5 K w A ht, Option.bind_some, if_neg (nI_ge ht (by omega)), if_true]
  | succ d ih =>
    intro i n hi hn
    obtain ⟨n, rfl⟩ : ∃ z, n = z + 1 := ⟨n - 1, by omega⟩
    have hi' : i < c 0 3 := by omega
    have hne : ¬ nI (c 5 i) = nI (c 5 t) := by
      have h1 := w.2.2.2.2.2.2.2.2.2.1 i hi'
      have h2 := w.2.2.2.2.2.2.2.2.2.1 t ht
      rw [nI_eq (by omega) (by omega)]
      intro h
      have := w.2.2.2.2.2.2.2.2.2.2.1 i t hi' ht h
      omega
    simp only [m_X5_seatOf_L2, g_s K A (j := 3) (by decide), r_5 K, a_5 K w A hi', Option.bind_some, if_neg (nI_ge hi' (by omega)), if_neg hne, nI_1]
    exact ih (i + 1) n (by omega) (by omega)
theorem m_seat (K : SK M k) (w : wf c) (A : SA M k c) {t : Nat} (ht : t < c 0 3) : m_X5_seatOf M k (nI (c 5 t)) = some (nI t) := by
  have hP := w.2.2.2.1.2
  exact m_seatL K w A ht _ _ t 0 FU (by omega) (by unfold FU; omega)
theorem m_isK {n : Nat} (h1 : 1 ≤ n) (h5 : n ≤ 5) : m_X6_isKind M (nI n) 4 = some (b2 (decide (4 ≤ n))) := by
  rcases (show n = 1 ∨ n = 2 ∨ n = 3 ∨ n = 4 ∨ n = 5 by omega) with rfl | rfl | rfl | rfl | rfl <;> rfl
theorem m_hany (K : SK M k) (w : wf c) (A : SA M k c) {p t : Nat} (hp : p < c 0 3) (ht : t < 2 ^ 31) : m_X5_hearsAnyway M k (nI p) (nI t) = some (b2 (hany c p t)) := by
  have hk := w.2.2.2.2.2.2.2.1 p hp
  have hr := w.1
  simp only [m_X5_hearsAnyway, g_s K A (j := 0) (by decide), r_3 K, a_3 K w A hp, m_isK hk.1 hk.2, Option.bind_some]
  by_cases h : t ≤ c 0 0
  · rw [if_pos (nI_le h (by omega))]
    simp [hany, h, b2]
  · rw [if_neg (nI_ge (by omega) ht)]
    by_cases h4 : 4 ≤ c 3 p
    · rw [if_neg (by rw [b2_0]; simp [h4])]
      simp [hany, h, h4, b2]
    · rw [if_pos (by rw [b2_0]; simp [h4])]
      simp [hany, h, h4, b2]
theorem m_knows (K : SK M k) (w : wf c) (A : SA M k c) {p s : Nat} (hp : p < c 0 3) (hs : s < c 0 1) : m_X5_knowsIt M k (nI p) (nI s) = some (b2 ((c 4 p).testBit s)) := by
  have hJ := w.2.1.2
  simp only [m_X5_knowsIt, r_4 K, a_4 K w A hp, Option.bind_some, f_bit _ (q_knows w hp) s (by omega)]
  cases (c 4 p).testBit s <;> rfl
theorem m_taught (K : SK M k) (w : wf c) (A : SA M k c) {d : Nat} (hd : d < 2 ^ 31) : m_X5_taughtOn M k (nI d) = some (nI (taught c d)) := by
  have hD := w.2.2.1
  have hm : d % c 0 2 < c 0 2 := Nat.mod_lt _ (by omega)
  have hrem : rm_ (nI d) (nI (c 0 2)) = nI (d % c 0 2) := pk_rem hd (by omega) (by omega)
  simp only [m_X5_taughtOn, g_s K A (j := 2) (by decide), r_2 K, Option.bind_some, l_1]
  rw [if_neg (nI_nlt (by omega) (by omega)), if_pos (nI_pos' hd), if_neg (nI_ne0 (by omega) (by omega)), hrem, a_2 K w A hm]
  rfl
theorem m_times (K : SK M k) (w : wf c) (A : SA M k c) {p s : Nat} (hp : p < c 0 3) (hs : s < c 0 1) : m_X5_timesHeard M k (nI p) (nI s) = some (nI (c 6 (p * 6 + s))) := by
  simp only [m_X5_timesHeard, r_6 K, a_6 K w A hp hs, Option.bind_some]
theorem m_knownL (K : SK M k) (w : wf c) (A : SA M k c) {ρ : Type} (k0 : Int32 → Option ρ) : ∀ (d i n x : Nat), i + d = c 0 3 → d < n → m_X5_known_L4 k0 M k n (nI x) (nI i) = k0 (nI (fo (fun p s => s + bc (c 4 p)) i d x)) := by
  have hP := w.2.2.2.1.2
  intro d
  induction d with
  | zero =>
    intro i n x hi hn
    obtain ⟨n, rfl⟩ : ∃ z, n = z + 1 := ⟨n - 1, by omega⟩
    simp only [m_X5_known_L4, g_s K A (j := 3) (by decide), Option.bind_some, if_pos (nI_le (show c 0 3 ≤ i by omega) (by omega)), fo]
  | succ d ih =>
    intro i n x hi hn
    obtain ⟨n, rfl⟩ : ∃ z, n = z + 1 := ⟨n - 1, by omega⟩
    have hi' : i < c 0 3 := by omega
    simp only [m_X5_known_L4, g_s K A (j := 3) (by decide), Option.bind_some, if_neg (nI_ge hi' (show c 0 3 < 2 ^ 31 by omega)), K.1, if_true, m_form K w A hi', nI_1, nI_add]
    exact ih (i + 1) n (x + bc (c 4 i)) (by omega) (by omega)
theorem m_known (K : SK M k) (w : wf c) (A : SA M k c) : m_X5_known M k = some (nI (known c)) := by
  have hP := w.2.2.2.1.2
  exact m_knownL K w A _ (c 0 3) 0 FU 0 (by omega) (by unfold FU; omega)
theorem m_kallL (K : SK M k) (w : wf c) (A : SA M k c) {ρ : Type} (k0 : Int32 → Option ρ) : ∀ (d i n x : Nat), i + d = c 0 3 → d < n → x < 64 → m_X5_knownByAll_L11 k0 M k n (nI x) (nI i) = k0 (nI (fo (fun p s => s &&& c 4 p) i d x)) := by
  have hP := w.2.2.2.1.2
  intro d
  induction d with
  | zero =>
    intro i n x hi hn _
    obtain ⟨n, rfl⟩ : ∃ z, n = z + 1 := ⟨n - 1, by omega⟩
    simp only [m_X5_knownByAll_L11, g_s K A (j := 3) (by decide), Option.bind_some, if_pos (nI_le (show c 0 3 ≤ i by omega) (by omega)), fo]
  | succ d ih =>
    intro i n x hi hn hx
    obtain ⟨n, rfl⟩ : ∃ z, n = z + 1 := ⟨n - 1, by omega⟩
    have hi' : i < c 0 3 := by omega
    simp only [m_X5_knownByAll_L11, g_s K A (j := 3) (by decide), Option.bind_some, if_neg (nI_ge hi' (show c 0 3 < 2 ^ 31 by omega)), r_4 K, a_4 K w A hi', nI_1, f_ands x hx _ (q_knows w hi')]
    exact ih (i + 1) n (x &&& c 4 i) (by omega) (by omega) (Nat.lt_of_le_of_lt Nat.and_le_left hx)
theorem f_ful : ∀ s, s < 7 → ((1 : Int32) <<< (nI s &&& 31)) - (1 : Int32) = nI (2 ^ s - 1) := by decide +kernel
theorem m_kall (K : SK M k) (w : wf c) (A : SA M k c) : m_X5_knownByAll M k = some (nI (kall c)) := by
  have hP := w.2.2.2.1.2
  have hJ := w.2.1.2
  have := p2_64 hJ
  simp only [m_X5_knownByAll, g_s K A (j := 1) (by decide), Option.bind_some, f_ful (c 0 1) (by omega)]
  exact m_kallL K w A _ (c 0 3) 0 FU (2 ^ c 0 1 - 1) (by omega) (by unfold FU; omega) (by omega)
theorem m_kanyL (K : SK M k) (w : wf c) (A : SA M k c) {ρ : Type} (k0 : Int32 → Option ρ) : ∀ (d i n x : Nat), i + d = c 0 3 → d < n → x < 64 → m_X5_knownByAny_L4 k0 M k n (nI x) (nI i) = k0 (nI (fo (fun p s => s ||| c 4 p) i d x)) := by
  have hP := w.2.2.2.1.2
  intro d
  induction d with
  | zero =>
    intro i n x hi hn _
    obtain ⟨n, rfl⟩ : ∃ z, n = z + 1 := ⟨n - 1, by omega⟩
    simp only [m_X5_knownByAny_L4, g_s K A (j := 3) (by decide), Option.bind_some, if_pos (nI_le (show c 0 3 ≤ i by omega) (by omega)), fo]
  | succ d ih =>
    intro i n x hi hn hx
    obtain ⟨n, rfl⟩ : ∃ z, n = z + 1 := ⟨n - 1, by omega⟩
    have hi' : i < c 0 3 := by omega
    simp only [m_X5_knownByAny_L4, g_s K A (j := 3) (by decide), Option.bind_some, if_neg (nI_ge hi' (show c 0 3 < 2 ^ 31 by omega)), r_4 K, a_4 K w A hi', nI_1, f_ors x hx _ (q_knows w hi')]
    exact ih (i + 1) n (x ||| c 4 i) (by omega) (by omega) (o_lt hx (q_knows w hi'))
theorem m_kany (K : SK M k) (w : wf c) (A : SA M k c) : m_X5_knownByAny M k = some (nI (kany c)) := by
  have hP := w.2.2.2.1.2
  exact m_kanyL K w A _ (c 0 3) 0 FU 0 (by omega) (by unfold FU; omega) (by decide)
theorem x63 {n : Nat} (h : n < 64) : 63 ^^^ n < 64 := Nat.xor_lt_two_pow (n := 6) (by decide) h
theorem g_iff {s n : Nat} (hs : c 1 s < 64) (hn : n < 64) : (nI (c 1 s) &&& (nI n ^^^ (-1 : Int32))) = 0 ↔ grasp c s n = true := by
  have : c 1 s &&& (63 ^^^ n) < 64 := Nat.lt_of_le_of_lt Nat.and_le_left hs
  rw [f_an _ hs _ hn, nI_e0 (by omega)]
  simp [grasp]
theorem m_gsetL (K : SK M k) (w : wf c) (A : SA M k c) {m : Nat} (hm : m < 64) {ρ : Type} (k0 : Int32 → Option ρ) : ∀ (d i n x : Nat), i + d = c 0 1 → d < n → x < 64 → m_X5_graspable_L4 k0 M k (nI m) n (nI x) (nI i) = k0 (nI (fo (fun s r => if grasp c s m then r ||| 2 ^ s else r) i d x)) := by
  have hJ := w.2.1.2
  intro d
  induction d with
  | zero =>
    intro i n x hi hn _
    obtain ⟨n, rfl⟩ : ∃ z, n = z + 1 := ⟨n - 1, by omega⟩
    simp only [m_X5_graspable_L4, g_s K A (j := 1) (by decide), Option.bind_some, if_pos (nI_le (show c 0 1 ≤ i by omega) (by omega)), fo]
  | succ d ih =>
    intro i n x hi hn hx
    obtain ⟨n, rfl⟩ : ∃ z, n = z + 1 := ⟨n - 1, by omega⟩
    have hi' : i < c 0 1 := by omega
    simp only [m_X5_graspable_L4, g_s K A (j := 1) (by decide), Option.bind_some, if_neg (nI_ge hi' (show c 0 1 < 2 ^ 31 by omega)), r_1 K, a_1 K w A hi', nI_1, f_or x hx i (by omega)]
    by_cases hg : grasp c i m = true
    · rw [if_pos ((g_iff (q_needs w hi') hm).mpr hg), ih (i + 1) n (x ||| 2 ^ i) (by omega) (by omega) (o_lt hx (p2_lt (by omega)))]
      simp only [fo, hg, if_true]
    · rw [if_neg (fun q => hg ((g_iff (q_needs w hi') hm).mp q)), ih (i + 1) n x (by omega) (by omega) hx]
      simp only [fo, hg, if_false, Bool.false_eq_true]
theorem m_gset (K : SK M k) (w : wf c) (A : SA M k c) {m : Nat} (hm : m < 64) : m_X5_graspable M k (nI m) = some (nI (gset c m)) := by
  have hJ := w.2.1.2
  exact m_gsetL K w A hm _ (c 0 1) 0 FU 0 (by omega) (by unfold FU; omega) (by decide)
end SQ2
