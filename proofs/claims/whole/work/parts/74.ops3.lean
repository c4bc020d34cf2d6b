/-! ===== follows, lacks, shortest, questions ===== -/
def pass (c : sT) (i d n : Nat) : Nat := fo (fun s r => if grasp c s r then r ||| 2 ^ s else r) i d n
theorem tb_or {x s j : Nat} : (x ||| 2 ^ s).testBit j = (x.testBit j || decide (s = j)) := by rw [Nat.testBit_or, Nat.testBit_two_pow]
theorem gr_iff {c : sT} {s n : Nat} (h : c 1 s < 64) : grasp c s n = true ↔ ∀ i, (c 1 s).testBit i = true → n.testBit i = true := by
  unfold grasp
  rw [decide_eq_true_iff]
  constructor
  · intro e i hi
    have h6 : i < 6 := by
      refine Nat.lt_of_not_le (fun q => ?_)
      rw [Nat.testBit_lt_two_pow (Nat.lt_of_lt_of_le h (Nat.pow_le_pow_right (by decide) q : 2 ^ 6 ≤ 2 ^ i))] at hi
      exact absurd hi (by decide)
    have : (c 1 s &&& (63 ^^^ n)).testBit i = false := by rw [e, Nat.zero_testBit]
    rw [Nat.testBit_and, Nat.testBit_xor, hi, show (63 : Nat) = 2 ^ 6 - 1 from rfl, Nat.testBit_two_pow_sub_one] at this
    cases hn : n.testBit i
    · rw [hn] at this
      simp [h6] at this
    · rfl
  · intro e
    refine Nat.eq_of_testBit_eq (fun i => ?_)
    rw [Nat.testBit_and, Nat.testBit_xor, Nat.zero_testBit]
    cases hi : (c 1 s).testBit i
    · rfl
    · have h6 : i < 6 := by
        refine Nat.lt_of_not_le (fun q => ?_)
        rw [Nat.testBit_lt_two_pow (Nat.lt_of_lt_of_le h (Nat.pow_le_pow_right (by decide) q : 2 ^ 6 ≤ 2 ^ i))] at hi
        exact absurd hi (by decide)
      rw [e i hi, show (63 : Nat) = 2 ^ 6 - 1 from rfl, Nat.testBit_two_pow_sub_one]
      simp [h6]
theorem fo_tb (f : Nat → Bool) (j : Nat) : ∀ (d i x : Nat), (fo (fun s r => if f s then r ||| 2 ^ s else r) i d x).testBit j = (x.testBit j || (decide (i ≤ j) && decide (j < i + d) && f j))
  | 0, i, x => by
    have : ¬ (i ≤ j ∧ j < i + 0) := by omega
    have e : (decide (i ≤ j) && decide (j < i + 0)) = false := by simp
    rw [e]
    simp [fo]
  | d + 1, i, x => by
    show (fo _ (i + 1) d (if f i then x ||| 2 ^ i else x)).testBit j = _
    rw [fo_tb f j d (i + 1)]
    have hx : (if f i then x ||| 2 ^ i else x).testBit j = (x.testBit j || (decide (i = j) && f j)) := by
      by_cases h : i = j
      · subst h
        cases hf : f i
        · simp
        · rw [if_pos rfl, tb_or]
          simp
      · cases hf : f i
        · simp [h]
        · rw [if_pos rfl, tb_or]
          simp [h]
    rw [hx]
    have e : ((decide (i = j)) || (decide (i + 1 ≤ j) && decide (j < i + 1 + d))) = (decide (i ≤ j) && decide (j < i + (d + 1))) := by
      by_cases h : i = j
      · subst h; simp
      · by_cases h1 : i + 1 ≤ j
        · have : i ≤ j := by omega
          have e2 : (j < i + 1 + d) = (j < i + (d + 1)) := by apply propext; omega
          simp only [h, h1, this, e2, decide_true, decide_false, Bool.false_or, Bool.true_and]
        · have : ¬ i ≤ j := by omega
          simp [h, h1, this]
    rw [← e]
    cases x.testBit j <;> cases f j <;> simp
theorem gs_tb {c : sT} {n j : Nat} : (gset c n).testBit j = (decide (j < c 0 1) && grasp c j n) := by
  unfold gset
  rw [fo_tb (fun s => grasp c s n) j]
  simp
theorem pa_lo {c : sT} {j : Nat} : ∀ (d i x : Nat), j < i → (pass c i d x).testBit j = x.testBit j
  | 0, _, _, _ => rfl
  | d + 1, i, x, h => by
    show (pass c (i + 1) d (if grasp c i x then x ||| 2 ^ i else x)).testBit j = _
    rw [pa_lo d (i + 1) _ (by omega)]
    split
    · rw [tb_or]
      have : ¬ i = j := by omega
      simp [this]
    · rfl
theorem gr_cg {c : sT} {s n m : Nat} (h : c 1 s < 64) (hs : c 1 s < 2 ^ s) (e : ∀ i, i < s → n.testBit i = m.testBit i) : grasp c s n = grasp c s m := by
  have lt : ∀ i, (c 1 s).testBit i = true → i < s := by
    intro i hi
    refine Nat.lt_of_not_le (fun q => ?_)
    rw [Nat.testBit_lt_two_pow (Nat.lt_of_lt_of_le hs (Nat.pow_le_pow_right (by decide) q))] at hi
    exact absurd hi (by decide)
  rw [Bool.eq_iff_iff, gr_iff h, gr_iff h]
  exact ⟨fun q i hi => by rw [← e i (lt i hi)]; exact q i hi, fun q i hi => by rw [e i (lt i hi)]; exact q i hi⟩
theorem pa_hi {c : sT} (w : wf c) {j : Nat} : ∀ (d i x : Nat), i ≤ j → j < i + d → i + d ≤ c 0 1 → (pass c i d x).testBit j = (x.testBit j || grasp c j (pass c i d x))
  | 0, i, x, h1, h2, _ => by omega
  | d + 1, i, x, h1, h2, h3 => by
    have e : pass c i (d + 1) x = pass c (i + 1) d (if grasp c i x then x ||| 2 ^ i else x) := rfl
    rw [e]
    by_cases h : i = j
    · subst h
      rw [pa_lo d (i + 1) _ (by omega)]
      have g : grasp c i (pass c (i + 1) d (if grasp c i x then x ||| 2 ^ i else x)) = grasp c i x := gr_cg (q_needs w (by omega)) (w.2.2.2.2.2.1 i (by omega)) (fun q hq => by
        rw [pa_lo d (i + 1) _ (by omega)]
        split
        · rw [tb_or]
          have : ¬ i = q := by omega
          simp [this]
        · rfl)
      rw [g]
      cases hg : grasp c i x
      · simp
      · rw [if_pos rfl, tb_or]
        simp
    · rw [pa_hi w d (i + 1) _ (by omega) (by omega) (by omega)]
      congr 1
      split
      · rw [tb_or]
        simp [h]
      · rfl
theorem gr_mo {c : sT} {s n m : Nat} (h : c 1 s < 64) (e : ∀ i, n.testBit i = true → m.testBit i = true) (g : grasp c s n = true) : grasp c s m = true := (gr_iff h).mpr (fun i hi => e i ((gr_iff h).mp g i hi))
theorem cl_eq {c : sT} (w : wf c) {n : Nat} (hn : n < 2 ^ c 0 1) : clos c n = pass c 0 (c 0 1) n := by
  have R : ∀ j, (pass c 0 (c 0 1) n).testBit j = (n.testBit j || (decide (j < c 0 1) && grasp c j (pass c 0 (c 0 1) n))) := by
    intro j
    by_cases h : j < c 0 1
    · rw [pa_hi w (c 0 1) 0 n (by omega) (by omega) (by omega)]
      simp [h]
    · have : pass c 0 (c 0 1) n < 2 ^ c 0 1 := by
        refine fo_inv (P := fun x => x < 2 ^ c 0 1) _ 0 n hn (fun i y _ h2 hy => ?_)
        show (if grasp c i y then y ||| 2 ^ i else y) < _
        split
        · exact or_lt' hy (by omega)
        · exact hy
      rw [Nat.testBit_lt_two_pow (Nat.lt_of_lt_of_le this (Nat.pow_le_pow_right (by decide) (by omega))), Nat.testBit_lt_two_pow (Nat.lt_of_lt_of_le hn (Nat.pow_le_pow_right (by decide) (by omega)))]
      simp [h]
  have st : ∀ k j, (fo (fun _ r => r ||| gset c r) 0 (k + 1) n).testBit j = ((fo (fun _ r => r ||| gset c r) 0 k n).testBit j || (decide (j < c 0 1) && grasp c j (fo (fun _ r => r ||| gset c r) 0 k n))) := by
    intro k j
    rw [fo_s, Nat.testBit_or, gs_tb]
  have up : ∀ k j, (fo (fun _ r => r ||| gset c r) 0 k n).testBit j = true → (pass c 0 (c 0 1) n).testBit j = true := by
    intro k
    induction k with
    | zero =>
      intro j hj
      rw [R, show n.testBit j = true from hj]
      rfl
    | succ k ih =>
      intro j hj
      rw [st] at hj
      cases h1 : (fo (fun _ r => r ||| gset c r) 0 k n).testBit j
      · rw [h1, Bool.false_or, Bool.and_eq_true, decide_eq_true_iff] at hj
        rw [R, gr_mo (q_needs w hj.1) ih hj.2]
        simp [hj.1]
      · exact ih j h1
  have mo : ∀ j k d, (fo (fun _ r => r ||| gset c r) 0 k n).testBit j = true → (fo (fun _ r => r ||| gset c r) 0 (k + d) n).testBit j = true := by
    intro j k d hj
    induction d with
    | zero => exact hj
    | succ d ih => rw [← Nat.add_assoc, st, ih]; rfl
  have dn : ∀ j, (pass c 0 (c 0 1) n).testBit j = true → (fo (fun _ r => r ||| gset c r) 0 (j + 1) n).testBit j = true := by
    intro j
    induction j using Nat.strongRecOn with
    | _ j ih =>
      intro hj
      rw [R] at hj
      cases h1 : n.testBit j
      · rw [h1, Bool.false_or, Bool.and_eq_true, decide_eq_true_iff] at hj
        rw [st]
        have g : grasp c j (fo (fun _ r => r ||| gset c r) 0 j n) = true := by
          refine (gr_iff (q_needs w hj.1)).mpr (fun i hi => ?_)
          have hl : i < j := by
            refine Nat.lt_of_not_le (fun q => ?_)
            rw [Nat.testBit_lt_two_pow (Nat.lt_of_lt_of_le (w.2.2.2.2.2.1 j hj.1) (Nat.pow_le_pow_right (by decide) q))] at hi
            exact absurd hi (by decide)
          have := mo i (i + 1) (j - (i + 1)) (ih i hl ((gr_iff (q_needs w hj.1)).mp hj.2 i hi))
          rw [show i + 1 + (j - (i + 1)) = j by omega] at this
          exact this
        rw [g]
        simp [hj.1]
      · exact (by have := mo j 0 (j + 1) h1; rw [Nat.zero_add] at this; exact this)
  refine Nat.eq_of_testBit_eq (fun j => ?_)
  rw [Bool.eq_iff_iff]
  refine ⟨up _ j, fun h => ?_⟩
  by_cases hJ : j < c 0 1
  · have := mo j (j + 1) (c 0 1 - (j + 1)) (dn j h)
    rw [show j + 1 + (c 0 1 - (j + 1)) = c 0 1 by omega] at this
    exact this
  · have := dn j h
    rw [R] at h
    cases h1 : n.testBit j
    · rw [h1] at h
      simp [hJ] at h
    · exact (by have := mo j 0 (c 0 1) h1; rw [Nat.zero_add] at this; exact this)
/-! needed -/
def nm_ (c : sT) (kn : Nat) : Nat → Nat → Nat
  | 0, r => r
  | i + 1, r => nm_ c kn i (if r.testBit i && !kn.testBit i then r ||| c 1 i else r)
theorem nd_nm {c : sT} (w : wf c) {kn : Nat} : ∀ (i r : Nat), i ≤ c 0 1 → nd_ c kn i (r &&& (63 ^^^ kn)) = nm_ c kn i r &&& (63 ^^^ kn)
  | 0, r, _ => rfl
  | i + 1, r, h => by
    have hJ := w.2.1.2
    have e : (r &&& (63 ^^^ kn)).testBit i = (r.testBit i && !kn.testBit i) := by
      rw [Nat.testBit_and, Nat.testBit_xor, show (63 : Nat) = 2 ^ 6 - 1 from rfl, Nat.testBit_two_pow_sub_one]
      have : i < 6 := by omega
      simp [this]
    unfold nd_ nm_
    rw [e, ← nd_nm w i _ (by omega)]
    congr 1
    split
    · rw [Nat.and_or_distrib_right]
    · rfl
theorem nm_lt {c : sT} (w : wf c) {kn : Nat} : ∀ (i r : Nat), i ≤ c 0 1 → r < 2 ^ c 0 1 → nm_ c kn i r < 2 ^ c 0 1
  | 0, r, _, hr => hr
  | i + 1, r, h, hr => by
    unfold nm_
    refine nm_lt w i _ (by omega) ?_
    split
    · exact Nat.or_lt_two_pow hr (Nat.lt_of_lt_of_le (w.2.2.2.2.2.1 i (by omega)) (Nat.pow_le_pow_right (by decide) (by omega)))
    · exact hr
def bnf (x : Nat) (k : Int32) : Nat → Nat → Nat → Option Nat
  | 0, _, _ => none
  | d + 1, i, b => if x.testBit i then (if nI b = k then some i else bnf x k d (i + 1) (b + 1)) else bnf x k d (i + 1) b
theorem bnf_s {x : Nat} {k : Int32} {d i b : Nat} : bnf x k (d + 1) i b = if x.testBit i then (if nI b = k then some i else bnf x k d (i + 1) (b + 1)) else bnf x k d (i + 1) b := rfl
theorem bnf_e {x J : Nat} (hx : x < 2 ^ J) (k : Int32) : ∀ (d e i b : Nat), J ≤ i + d → bnf x k (d + e) i b = bnf x k d i b
  | 0, e, i, b, h => by
    rw [Nat.zero_add]
    have : ∀ e i, J ≤ i → bnf x k e i b = none := by
      intro e
      induction e with
      | zero => intro i _; rfl
      | succ e ih =>
        intro i hi
        unfold bnf
        rw [Nat.testBit_lt_two_pow (Nat.lt_of_lt_of_le hx (Nat.pow_le_pow_right (by decide) hi)), if_neg (by decide)]
        exact ih (i + 1) (by omega)
    rw [this e i (by omega)]
    rfl
  | d + 1, e, i, b, h => by
    rw [show d + 1 + e = (d + e) + 1 by omega]
    unfold bnf
    rw [bnf_e hx k d e (i + 1) (b + 1) (by omega), bnf_e hx k d e (i + 1) b (by omega)]
section O4
variable {M : mM} {c : sT}
theorem m_fo7L (G : GS M) (w : wf c) (R : RC_ (mi_ M 235) c) {ρ : Type} (k0 : Int32 → Option ρ) : ∀ (d i n x : Nat), i + d = c 0 1 → d < n → x < 64 → m_X7_follows_L28 k0 M 231 n (nI x) (nI i) = k0 (nI (pass c i d x)) := by
  have hJ := w.2.1.2
  intro d
  induction d with
  | zero =>
    intro i n x hi hn _
    obtain ⟨n, rfl⟩ : ∃ z, n = z + 1 := ⟨n - 1, by omega⟩
    rw [m_X7_follows_L28, R7s G, Option.bind_some, l_J (A7s G) R, Option.bind_some, if_pos (nI_le (show c 0 1 ≤ i by omega) (by omega))]
    rfl
  | succ d ih =>
    intro i n x hi hn hx
    obtain ⟨n, rfl⟩ : ∃ z, n = z + 1 := ⟨n - 1, by omega⟩
    have hi' : i < c 0 1 := by omega
    rw [m_X7_follows_L28, R7s G, Option.bind_some, l_J (A7s G) R, Option.bind_some, if_neg (nI_ge hi' (by omega)), Option.bind_some, m_can (A7s G) w R hi' hx, Option.bind_some, or_0 hx, f_or x hx i (by omega), nI_1, ih (i + 1) n x (by omega) (by omega) hx, ih (i + 1) n _ (by omega) (by omega) (o_lt hx (p2_lt (by omega)))]
    have e : pass c i (d + 1) x = pass c (i + 1) d (if grasp c i x then x ||| 2 ^ i else x) := rfl
    rw [e]
    cases hg : grasp c i x with
    | true =>
      rw [if_neg (by decide)]
      simp only [if_true]
    | false =>
      rw [if_pos (by decide)]
      simp only [if_false, Bool.false_eq_true]
theorem m_ne7L (G : GS M) (w : wf c) (R : RC_ (mi_ M 235) c) {kn : Nat} (hk : kn < 64) {ρ : Type} (k0 : Int32 → Option ρ) : ∀ (i n x : Nat), i < c 0 1 → i + 1 < n → x < 64 → m_X7_needed_L7 k0 M 231 (nI kn) n (nI x) (nI i) = k0 (nI (nm_ c kn (i + 1) x)) := by
  have hJ := w.2.1.2
  have lst : ∀ (n x : Nat), 0 < n → m_X7_needed_L7 k0 M 231 (nI kn) n (nI x) (-1) = k0 (nI x) := by
    intro n x hn
    obtain ⟨n, rfl⟩ : ∃ z, n = z + 1 := ⟨n - 1, by omega⟩
    rw [m_X7_needed_L7, if_pos (by decide)]
  intro i
  induction i with
  | zero =>
    intro n x h0 hn hx
    obtain ⟨n, rfl⟩ : ∃ z, n = z + 1 := ⟨n - 1, by omega⟩
    have q := q_needs w h0
    have e : nI 0 + (-1 : Int32) = -1 := by decide
    rw [m_X7_needed_L7, if_neg (nI_pos (by omega)), m_has hx (by decide), Option.bind_some, m_has hk (by decide), Option.bind_some, R7s G, Option.bind_some, l_nd (A7s G) w R h0, Option.bind_some, or_0 hx, f_ors x hx _ q, e, lst n x (by omega), lst n _ (by omega)]
    simp only [nm_]
    cases x.testBit 0 <;> cases kn.testBit 0 <;> rfl
  | succ i ih =>
    intro n x h0 hn hx
    obtain ⟨n, rfl⟩ : ∃ z, n = z + 1 := ⟨n - 1, by omega⟩
    have q := q_needs w h0
    have e : nI (i + 1) + (-1 : Int32) = nI i := by
      rw [← nI_1, show (1 : Int32) = 1 from rfl, Int32.add_assoc]
      have : (1 : Int32) + -1 = 0 := by decide
      rw [this, Int32.add_zero]
    rw [m_X7_needed_L7, if_neg (nI_pos (by omega)), m_has hx (by omega), Option.bind_some, m_has hk (by omega), Option.bind_some, R7s G, Option.bind_some, l_nd (A7s G) w R h0, Option.bind_some, or_0 hx, f_ors x hx _ q, e, ih n x (by omega) (by omega) hx, ih n _ (by omega) (by omega) (o_lt hx q)]
    rw [show nm_ c kn (i + 1 + 1) x = nm_ c kn (i + 1) (if x.testBit (i + 1) && !kn.testBit (i + 1) then x ||| c 1 (i + 1) else x) from rfl]
    cases x.testBit (i + 1) <;> cases kn.testBit (i + 1) <;> rfl
theorem m_ne7 (G : GS M) (w : wf c) (R : RC_ (mi_ M 235) c) {s kn : Nat} (hs : s < c 0 1) (hk : kn < 64) : m_X7_needed M 231 (nI s) (nI kn) = some (nI (nm_ c kn (s + 1) (2 ^ s))) := by
  have hJ := w.2.1.2
  rw [m_X7_needed, f_shl s (by omega)]
  exact m_ne7L G w R hk _ s FU _ hs (by unfold FU; omega) (p2_lt (by omega))
theorem m_bnX {x : Nat} (hx : x < 64) (k : Int32) {ρ : Type} (k0 : Option ρ) (k1 : Int32 → Option ρ) : ∀ (d i n b : Nat), i + d = 6 → d < n → m_X6_bitNumber_L4 k0 k1 M (nI x) k n (nI b) (nI i) = match bnf x k d i b with | none => k0 | some t => k1 (nI t) := by
  intro d
  induction d with
  | zero =>
    intro i n b hi hn
    obtain ⟨n, rfl⟩ : ∃ z, n = z + 1 := ⟨n - 1, by omega⟩
    rw [m_X6_bitNumber_L4, if_pos (show (6 : Int32) ≤ nI i from (nI_le (by omega) (by omega) : nI 6 ≤ nI i))]
    rfl
  | succ d ih =>
    intro i n b hi hn
    obtain ⟨n, rfl⟩ : ∃ z, n = z + 1 := ⟨n - 1, by omega⟩
    rw [m_X6_bitNumber_L4, if_neg (show ¬ (6 : Int32) ≤ nI i from (nI_ge (by omega) (by decide) : ¬ nI 6 ≤ nI i)), f_bit x hx i (by omega), nI_1, nI_1, ih (i + 1) n b (by omega) (by omega), ih (i + 1) n (b + 1) (by omega) (by omega)]
    rw [bnf_s]
    cases x.testBit i
    · rw [if_pos (show b2 false = 0 from rfl), if_neg (show ¬ false = true by decide)]
    · rw [if_neg (show ¬ b2 true = 0 by decide), if_pos (show true = true from rfl)]
      by_cases h : nI b = k
      · rw [if_pos h, if_pos h]
      · rw [if_neg h, if_neg h]
theorem m_bnM (G : GS M) (w : wf c) (R : RC_ (mi_ M 235) c) {x : Nat} (hx : x < 64) (k : Int32) {ρ : Type} (k0 : Option ρ) (k1 : Int32 → Option ρ) : ∀ (d i n b : Nat), i + d = c 0 1 → d < n → m_X7_shortest_L71 k0 k1 M 231 k (nI x) n (nI b) (nI i) = match bnf x k d i b with | none => k0 | some t => k1 (nI t) := by
  have hJ := w.2.1.2
  intro d
  induction d with
  | zero =>
    intro i n b hi hn
    obtain ⟨n, rfl⟩ : ∃ z, n = z + 1 := ⟨n - 1, by omega⟩
    rw [m_X7_shortest_L71, R7s G, Option.bind_some, l_J (A7s G) R, Option.bind_some, if_pos (nI_le (by omega) (by omega))]
    rfl
  | succ d ih =>
    intro i n b hi hn
    obtain ⟨n, rfl⟩ : ∃ z, n = z + 1 := ⟨n - 1, by omega⟩
    rw [m_X7_shortest_L71, R7s G, Option.bind_some, l_J (A7s G) R, Option.bind_some, if_neg (nI_ge (by omega) (by omega)), m_has hx (by omega), Option.bind_some, nI_1, nI_1, ih (i + 1) n b (by omega) (by omega), ih (i + 1) n (b + 1) (by omega) (by omega)]
    rw [bnf_s]
    cases x.testBit i
    · rw [if_pos (show b2 false = 0 from rfl), if_neg (show ¬ false = true by decide)]
    · rw [if_neg (show ¬ b2 true = 0 by decide), if_pos (show true = true from rfl)]
      by_cases h : nI b = k
      · rw [if_pos h, if_pos h]
      · rw [if_neg h, if_neg h]
theorem m_te7I (G : GS M) (w : wf c) (R : RC_ (mi_ M 235) c) {a p : Nat} (ha : a < 64) (hp : p < c 0 3) {ρ : Type} (k0 : Int32 → Option ρ) : ∀ (d i n : Nat) (x : Bool), i + d = p → d < n → m_X7_tellsApart_L17 k0 M 231 (nI a) (nI p) n (b2 x) (nI i) = k0 (b2 (x && allq (fun q => okq c a p q) i d)) := by
  have hP := w.2.2.2.1.2
  intro d
  induction d with
  | zero =>
    intro i n x hi hn
    obtain ⟨n, rfl⟩ : ∃ z, n = z + 1 := ⟨n - 1, by omega⟩
    rw [m_X7_tellsApart_L17, if_pos (nI_le (by omega) (by omega))]
    simp [allq]
  | succ d ih =>
    intro i n x hi hn
    obtain ⟨n, rfl⟩ : ∃ z, n = z + 1 := ⟨n - 1, by omega⟩
    have k1 := q_knows w hp
    have k2 := q_knows w (show i < c 0 3 by omega)
    have kx := x_lt k1 k2
    have ka := an_lt (b := a) kx
    rw [m_X7_tellsApart_L17, if_neg (nI_ge (by omega) (by omega)), R7s G, Option.bind_some, o_2 (A7s G) w R hp, Option.bind_some, Option.bind_some, o_2 (A7s G) w R (by omega), Option.bind_some, f_xors _ k1 _ k2, f_ands _ kx _ ha, nI_1, show (0 : Int32) = b2 false from rfl, show (1 : Int32) = b2 true from rfl, ih (i + 1) n true (by omega) (by omega), ih (i + 1) n false (by omega) (by omega)]
    rw [show allq (fun q => okq c a p q) i (d + 1) = (okq c a p i && allq (fun q => okq c a p q) (i + 1) d) from rfl]
    have oe : okq c a p i = (decide (c 4 p ^^^ c 4 i = 0) || decide (¬ (c 4 p ^^^ c 4 i) &&& a = 0)) := rfl
    rw [oe]
    cases x
    · rw [if_pos rfl]
      simp
    · rw [if_neg (by decide)]
      by_cases h1 : c 4 p ^^^ c 4 i = 0
      · rw [if_pos (show nI (c 4 p ^^^ c 4 i) = b2 false from (nI_e0 (by omega)).mpr h1)]
        simp [h1]
      · rw [if_neg (show ¬ nI (c 4 p ^^^ c 4 i) = b2 false from fun q => h1 ((nI_e0 (by omega)).mp q))]
        by_cases h2 : (c 4 p ^^^ c 4 i) &&& a = 0
        · rw [if_pos (show nI ((c 4 p ^^^ c 4 i) &&& a) = b2 false from (nI_e0 (by omega)).mpr h2)]
          simp [h1, h2]
        · rw [if_neg (show ¬ nI ((c 4 p ^^^ c 4 i) &&& a) = b2 false from fun q => h2 ((nI_e0 (by omega)).mp q))]
          simp [h1, h2]
theorem m_te7L (G : GS M) (w : wf c) (R : RC_ (mi_ M 235) c) {a : Nat} (ha : a < 64) {ρ : Type} (k0 : Int32 → Option ρ) : ∀ (d i n : Nat) (x : Bool), i + d = c 0 3 → d < n → m_X7_tellsApart_L4 k0 M 231 (nI a) n (b2 x) (nI i) = k0 (b2 (x && allq (fun p => allq (fun q => okq c a p q) 0 p) i d)) := by
  have hP := w.2.2.2.1.2
  intro d
  induction d with
  | zero =>
    intro i n x hi hn
    obtain ⟨n, rfl⟩ : ∃ z, n = z + 1 := ⟨n - 1, by omega⟩
    rw [m_X7_tellsApart_L4, R7s G, Option.bind_some, l_P (A7s G) R, Option.bind_some, if_pos (nI_le (by omega) (by omega))]
    simp [allq]
  | succ d ih =>
    intro i n x hi hn
    obtain ⟨n, rfl⟩ : ∃ z, n = z + 1 := ⟨n - 1, by omega⟩
    rw [m_X7_tellsApart_L4, R7s G, Option.bind_some, l_P (A7s G) R, Option.bind_some, if_neg (nI_ge (by omega) (by omega)), show (0 : Int32) = nI 0 from rfl, m_te7I G w R ha (by omega) _ i 0 FU x (by omega) (by unfold FU; omega), nI_1, ih (i + 1) n _ (by omega) (by omega)]
    rw [show allq (fun p => allq (fun q => okq c a p q) 0 p) i (d + 1) = (allq (fun q => okq c a i q) 0 i && allq (fun p => allq (fun q => okq c a p q) 0 p) (i + 1) d) from rfl, Bool.and_assoc]
theorem m_te7 (G : GS M) (w : wf c) (R : RC_ (mi_ M 235) c) {a : Nat} (ha : a < 64) : m_X7_tellsApart M 231 (nI a) = some (b2 (tell c a)) := by
  have hP := w.2.2.2.1.2
  rw [m_X7_tellsApart]
  refine (m_te7L G w R ha _ (c 0 3) 0 FU true (by omega) (by unfold FU; omega)).trans ?_
  show (if (b2 _ == 0 || b2 _ == 1) = true then some (b2 _) else none) = _
  rw [if_pos (b2_01 _)]
  rfl
/-- the model's search: none as yet, or the fewest as yet -/
def qm_ (c : sT) (a : Nat) : Option Nat → Option Nat
  | none => if tell c a then some a else none
  | some f => some (if bc f ≤ bc a then f else if tell c a then a else f)
def oI : Option Nat → Int32
  | none => -1000000
  | some f => nI f
theorem m_qu7L (G : GS M) (w : wf c) (R : RC_ (mi_ M 235) c) (y : Int32) {ρ : Type} (k0 : Int32 → Option ρ) : ∀ (d i n : Nat) (x : Option Nat), i + d = 2 ^ c 0 1 → d < n → (∀ f, x = some f → f < 64) → m_X7_questions_L33 k0 M 231 y n (oI x) (nI i) = k0 (oI (fo (qm_ c) i d x)) := by
  have hJ := w.2.1.2
  have h64 := p2_64 hJ
  intro d
  induction d with
  | zero =>
    intro i n x hi hn _
    obtain ⟨n, rfl⟩ : ∃ z, n = z + 1 := ⟨n - 1, by omega⟩
    rw [m_X7_questions_L33, R7s G, Option.bind_some, l_J (A7s G) R, Option.bind_some, f_shl _ (by omega), if_pos (nI_le (by omega) (by omega))]
    rfl
  | succ d ih =>
    intro i n x hi hn hx
    obtain ⟨n, rfl⟩ : ∃ z, n = z + 1 := ⟨n - 1, by omega⟩
    have hi6 : i < 64 := by omega
    have b1 := f_bcl i hi6
    rw [m_X7_questions_L33, R7s G, Option.bind_some, l_J (A7s G) R, Option.bind_some, f_shl _ (by omega), if_neg (nI_ge (by omega) (by omega)), if_pos (O7 G), m_te7 G w R hi6, Option.bind_some, m_bits hi6, Option.bind_some, nI_1, ih (i + 1) n x (by omega) (by omega) hx, show m_X7_questions_L33 k0 M 231 y n (nI i) (nI (i + 1)) = _ from ih (i + 1) n (some i) (by omega) (by omega) (fun f hf => by cases hf; exact hi6)]
    rw [show fo (qm_ c) i (d + 1) x = fo (qm_ c) (i + 1) d (qm_ c i x) from rfl]
    cases x with
    | none =>
      rw [if_pos (show oI none = -1000000 from rfl)]
      rw [show qm_ c i none = if tell c i then some i else none from rfl]
      cases tell c i
      · rw [if_pos (by decide), if_neg (by decide)]
      · rw [if_neg (by decide), if_pos (by decide)]
    | some f =>
      have hf := hx f rfl
      have b3 := f_bcl f hf
      rw [if_neg (show ¬ oI (some f) = -1000000 from fun q => nI_pos (n := f) (by omega) (by rw [show nI f = -1000000 from q]; decide)), show m_X7_bits M (oI (some f)) = _ from m_bits hf, Option.bind_some]
      rw [show qm_ c i (some f) = some (if bc f ≤ bc i then f else if tell c i then i else f) from rfl]
      by_cases h : bc f ≤ bc i
      · rw [if_pos (nI_le h (by omega)), if_pos h]
      · rw [if_neg (nI_ge (by omega) (by omega)), if_neg h]
        cases tell c i
        · rw [if_pos (by decide), if_neg (by decide)]
        · rw [if_neg (by decide), if_pos (by decide)]
theorem f_bf : ∀ J, J < 7 → bc (2 ^ J - 1) = J ∧ ∀ a, a < 2 ^ J - 1 → bc a < J := by decide +kernel
theorem al_t {f : Nat → Bool} : ∀ (d i : Nat), (∀ j, i ≤ j → j < i + d → f j = true) → allq f i d = true
  | 0, _, _ => rfl
  | d + 1, i, h => by
    unfold allq
    rw [h i (by omega) (by omega), al_t d (i + 1) (fun j h1 h2 => h j (by omega) (by omega))]
    rfl
theorem te_full (w : wf c) : tell c (2 ^ c 0 1 - 1) = true := by
  refine al_t _ _ (fun p _ hp => al_t _ _ (fun q _ hq => ?_))
  unfold okq
  have k1 := w.2.2.2.2.2.2.2.2.1 p (by omega)
  have k2 := w.2.2.2.2.2.2.2.2.1 q (by omega)
  have kx : c 4 p ^^^ c 4 q < 2 ^ c 0 1 := Nat.xor_lt_two_pow k1 k2
  rw [Nat.and_two_pow_sub_one_eq_mod, Nat.mod_eq_of_lt kx]
  by_cases h : c 4 p ^^^ c 4 q = 0 <;> simp [h]
theorem qs_eq (w : wf c) : fo (qm_ c) 0 (2 ^ c 0 1) none = some (ques c) := by
  have hJ := w.2.1.2
  obtain ⟨e1, e2⟩ := f_bf (c 0 1) (by omega)
  have hp : 0 < 2 ^ c 0 1 := Nat.pow_pos (by decide)
  have same : ∀ (d i f : Nat), fo (qm_ c) i d (some f) = some (fo (fun a f => if bc f ≤ bc a then f else if tell c a then a else f) i d f) := by
    intro d
    induction d with
    | zero => intro i f; rfl
    | succ d ih =>
      intro i f
      exact ih (i + 1) _
  have go : ∀ (d i : Nat), i + d = 2 ^ c 0 1 → 0 < d → fo (qm_ c) i d none = some (fo (fun a f => if bc f ≤ bc a then f else if tell c a then a else f) i d (2 ^ c 0 1 - 1)) := by
    intro d
    induction d with
    | zero => intro i _ h; omega
    | succ d ih =>
      intro i hi _
      show fo (qm_ c) (i + 1) d (qm_ c i none) = some (fo _ (i + 1) d (if bc (2 ^ c 0 1 - 1) ≤ bc i then 2 ^ c 0 1 - 1 else if tell c i then i else 2 ^ c 0 1 - 1))
      rw [e1]
      by_cases h : i = 2 ^ c 0 1 - 1
      · rw [h, e1, if_pos (Nat.le_refl _)]
        unfold qm_
        rw [te_full w, if_pos rfl]
        exact same d _ _
      · have := e2 i (by omega)
        rw [if_neg (by omega)]
        unfold qm_
        cases tell c i
        · rw [if_neg (by decide), if_neg (by decide)]
          exact ih (i + 1) (by omega) (by omega)
        · rw [if_pos rfl, if_pos rfl]
          exact same d _ _
  exact go _ 0 (by omega) hp
theorem ques_lt (w : wf c) : ques c < 64 := by
  have h64 := p2_64 w.2.1.2
  refine fo_inv (P := fun x => x < 64) _ 0 _ (by have : 0 < 2 ^ c 0 1 := Nat.pow_pos (by decide); omega) (fun a y _ h2 hy => ?_)
  show (if bc y ≤ bc a then y else if tell c a then a else y) < 64
  split
  · exact hy
  · split
    · omega
    · exact hy
end O4
section O5
variable (A : aS)
theorem o_follows (x : Int32) : bothP A (fun M => m_X6_follows M 0 x) (fun M => m_X7_follows M 231 x) := by
  intro M G h
  have hn := h.1
  cases hr : rg x 0 ((aN A 0 3 : Int) - 1) with
  | false =>
    refine ⟨-1000001, ?_, fun M' G' h' => ?_⟩
    · show m_X6_follows M 0 x = _
      rw [m_X6_follows, if_pos (O6 G), m_noP G hn, hr, Option.bind_some, if_neg (by decide)]
    · show opM (m_X7_follows M' 231 x) _ _ _
      rw [m_X7_follows]
      exact q_ G' h' (fun M1 G1 h1 => by rw [if_pos (O7 G1), m_isP G1 h1.1, hr, Option.bind_some, if_pos (by decide)])
  | true =>
    obtain ⟨p, hp, rfl⟩ := rg_s hr
    have hw := vs_w hn.2 (j := 3) (by decide) (by omega)
    have hJ := hw.1.2.1.2
    refine ⟨nI (pass (aN A) 0 (aN A 0 1) (aN A 4 p)), ?_, fun M' G' h' => ?_⟩
    · show m_X6_follows M 0 (nI p) = _
      rw [m_X6_follows, if_pos (O6 G), m_noP G hn, hr, Option.bind_some, if_pos (by decide), R6n G, Option.bind_some, Option.bind_some, r_4 (Sn G), Option.bind_some, a_4 (Sn G) hw.1 hn.1 hp, Option.bind_some, if_pos (Sn G).1, m_clos (Sn G) hw.1 hn.1 (q_knows hw.1 hp), Option.bind_some, cl_eq hw.1 (hw.1.2.2.2.2.2.2.2.2.1 p hp)]
    · show opM (m_X7_follows M' 231 (nI p)) _ _ _
      rw [m_X7_follows]
      exact q_ G' h' (fun M1 G1 h1 => by
        rw [if_pos (O7 G1), m_isP G1 h1.1, hr, Option.bind_some, if_neg (by decide), R7s G1, Option.bind_some, o_2 (A7s G1) hw.1 h1.1.1 hp, Option.bind_some]
        exact m_fo7L G1 hw.1 h1.1.1 (fun v20 => some (M1, v20)) (aN A 0 1) 0 FU _ (by omega) (by unfold FU; omega) (q_knows hw.1 hp))
theorem o_lacks (x z : Int32) : bothP A (fun M => m_X6_lacks M 0 x z) (fun M => m_X7_lacks M 231 x z) := by
  intro M G h
  have hn := h.1
  cases hr : rg x 0 ((aN A 0 3 : Int) - 1) with
  | false =>
    refine ⟨-1000001, ?_, fun M' G' h' => ?_⟩
    · show m_X6_lacks M 0 x z = _
      rw [m_X6_lacks, if_pos (O6 G), m_noP G hn, hr, Option.bind_some, if_neg (by decide)]
    · show opM (m_X7_lacks M' 231 x z) _ _ _
      rw [m_X7_lacks]
      exact q_ G' h' (fun M1 G1 h1 => by rw [if_pos (O7 G1), m_isP G1 h1.1, hr, Option.bind_some, if_pos (by decide)])
  | true =>
    cases hz : rg z 0 ((aN A 0 1 : Int) - 1) with
    | false =>
      refine ⟨-1000001, ?_, fun M' G' h' => ?_⟩
      · show m_X6_lacks M 0 x z = _
        rw [m_X6_lacks, if_pos (O6 G), m_noP G hn, hr, Option.bind_some, if_pos (by decide), if_pos (O6 G), m_noJ G hn, hz, Option.bind_some, if_neg (by decide)]
      · show opM (m_X7_lacks M' 231 x z) _ _ _
        rw [m_X7_lacks]
        exact q_ G' h' (fun M1 G1 h1 => by rw [if_pos (O7 G1), m_isP G1 h1.1, hr, Option.bind_some, if_neg (by decide), if_pos (O7 G1), m_isJ G1 h1.1, hz, Option.bind_some, if_pos (by decide)])
    | true =>
      obtain ⟨p, hp, rfl⟩ := rg_s hr
      obtain ⟨s, hs, rfl⟩ := rg_s hz
      have hw := vs_w hn.2 (j := 3) (by decide) (by omega)
      have hJ := hw.1.2.1.2
      have h64 := p2_64 hJ
      have hl := nm_lt hw.1 (kn := 0) (s + 1) (2 ^ s) (by omega) (Nat.pow_lt_pow_right (by decide) hs)
      have e63 : nd_ (aN A) 0 (s + 1) (2 ^ s &&& (63 ^^^ 0)) = nm_ (aN A) 0 (s + 1) (2 ^ s) := by
        rw [nd_nm hw.1 _ _ (by omega), show (63 ^^^ 0 : Nat) = 2 ^ 6 - 1 from rfl, Nat.and_two_pow_sub_one_eq_mod, Nat.mod_eq_of_lt (show _ < 64 by omega)]
      refine ⟨nI (nm_ (aN A) 0 (s + 1) (2 ^ s) &&& (63 ^^^ aN A 4 p)), ?_, fun M' G' h' => ?_⟩
      · show m_X6_lacks M 0 (nI p) (nI s) = _
        rw [m_X6_lacks, if_pos (O6 G), m_noP G hn, hr, Option.bind_some, if_pos (by decide), if_pos (O6 G), m_noJ G hn, hz, Option.bind_some, if_pos (by decide), R6n G, Option.bind_some, if_pos (Sn G).1, show m_X5_needed M 2 (nI s) (0 : Int32) = _ from m_nd (Sn G) hw.1 hn.1 (kn := 0) hs (by decide), Option.bind_some, Option.bind_some, r_4 (Sn G), Option.bind_some, a_4 (Sn G) hw.1 hn.1 hp, Option.bind_some, e63, f_an _ (by omega) _ (q_knows hw.1 hp)]
      · show opM (m_X7_lacks M' 231 (nI p) (nI s)) _ _ _
        rw [m_X7_lacks]
        exact q_ G' h' (fun M1 G1 h1 => by rw [if_pos (O7 G1), m_isP G1 h1.1, hr, Option.bind_some, if_neg (by decide), if_pos (O7 G1), m_isJ G1 h1.1, hz, Option.bind_some, if_neg (by decide), if_pos (O7 G1), show m_X7_needed M1 231 (nI s) (0 : Int32) = _ from m_ne7 G1 hw.1 h1.1.1 (kn := 0) hs (by decide), Option.bind_some, R7s G1, Option.bind_some, o_2 (A7s G1) hw.1 h1.1.1 hp, Option.bind_some, f_an _ (by omega) _ (q_knows hw.1 hp)])
theorem o_shortest (x z k : Int32) : bothP A (fun M => m_X6_shortest M 0 x z k) (fun M => m_X7_shortest M 231 x z k) := by
  intro M G h
  have hn := h.1
  cases hr : rg x 0 ((aN A 0 3 : Int) - 1) with
  | false =>
    refine ⟨-1000001, ?_, fun M' G' h' => ?_⟩
    · show m_X6_shortest M 0 x z k = _
      rw [m_X6_shortest, if_pos (O6 G), m_noP G hn, hr, Option.bind_some, if_neg (by decide)]
    · show opM (m_X7_shortest M' 231 x z k) _ _ _
      rw [m_X7_shortest]
      exact q_ G' h' (fun M1 G1 h1 => by rw [if_pos (O7 G1), m_isP G1 h1.1, hr, Option.bind_some, if_pos (by decide)])
  | true =>
    cases hz : rg z 0 ((aN A 0 1 : Int) - 1) with
    | false =>
      refine ⟨-1000001, ?_, fun M' G' h' => ?_⟩
      · show m_X6_shortest M 0 x z k = _
        rw [m_X6_shortest, if_pos (O6 G), m_noP G hn, hr, Option.bind_some, if_pos (by decide), if_pos (O6 G), m_noJ G hn, hz, Option.bind_some, if_neg (by decide)]
      · show opM (m_X7_shortest M' 231 x z k) _ _ _
        rw [m_X7_shortest]
        exact q_ G' h' (fun M1 G1 h1 => by rw [if_pos (O7 G1), m_isP G1 h1.1, hr, Option.bind_some, if_neg (by decide), if_pos (O7 G1), m_isJ G1 h1.1, hz, Option.bind_some, if_pos (by decide)])
    | true =>
      by_cases hk : (-1 : Int32) ≤ k
      · obtain ⟨p, hp, rfl⟩ := rg_s hr
        obtain ⟨s, hs, rfl⟩ := rg_s hz
        have hw := vs_w hn.2 (j := 3) (by decide) (by omega)
        have hJ := hw.1.2.1.2
        have h64 := p2_64 hJ
        have hkn := q_knows hw.1 hp
        have hl := nm_lt hw.1 (kn := aN A 4 p) (s + 1) (2 ^ s) (by omega) (Nat.pow_lt_pow_right (by decide) hs)
        have hl2 : nm_ (aN A) (aN A 4 p) (s + 1) (2 ^ s) &&& (63 ^^^ aN A 4 p) < 2 ^ aN A 0 1 := Nat.lt_of_le_of_lt Nat.and_le_left hl
        have e63 : nd_ (aN A) (aN A 4 p) (s + 1) (2 ^ s &&& (63 ^^^ aN A 4 p)) = nm_ (aN A) (aN A 4 p) (s + 1) (2 ^ s) &&& (63 ^^^ aN A 4 p) := nd_nm hw.1 _ _ (by omega)
        by_cases hk1 : k = -1
        · subst hk1
          refine ⟨nI (bc (nm_ (aN A) (aN A 4 p) (s + 1) (2 ^ s) &&& (63 ^^^ aN A 4 p))), ?_, fun M' G' h' => ?_⟩
          · show m_X6_shortest M 0 (nI p) (nI s) (-1) = _
            rw [m_X6_shortest, if_pos (O6 G), m_noP G hn, hr, Option.bind_some, if_pos (by decide), if_pos (O6 G), m_noJ G hn, hz, Option.bind_some, if_pos (by decide), if_pos hk, R6n G, Option.bind_some, Option.bind_some, r_4 (Sn G), Option.bind_some, a_4 (Sn G) hw.1 hn.1 hp, Option.bind_some, if_pos (Sn G).1, m_nd (Sn G) hw.1 hn.1 hs hkn, Option.bind_some, if_neg (by decide), e63, f_bc (by omega), Option.bind_some]
          · show opM (m_X7_shortest M' 231 (nI p) (nI s) (-1)) _ _ _
            rw [m_X7_shortest]
            exact q_ G' h' (fun M1 G1 h1 => by rw [if_pos (O7 G1), m_isP G1 h1.1, hr, Option.bind_some, if_neg (by decide), if_pos (O7 G1), m_isJ G1 h1.1, hz, Option.bind_some, if_neg (by decide), if_pos hk, R7s G1, Option.bind_some, o_2 (A7s G1) hw.1 h1.1.1 hp, Option.bind_some, if_pos (O7 G1), m_ne7 G1 hw.1 h1.1.1 hs hkn, Option.bind_some, if_pos rfl, f_an _ (by omega) _ hkn, m_bits (by omega), Option.bind_some])
        · have hk0 : (0 : Int32) ≤ k := by
            have := Int32.le_iff_toInt_le.mp hk
            have h2 : k.toInt ≠ -1 := fun q => hk1 (Int32.toInt_inj.mp q)
            rw [Int32.le_iff_toInt_le]
            have e1 : (-1 : Int32).toInt = -1 := by decide
            have e0 : (0 : Int32).toInt = 0 := by decide
            omega
          have eb := bnf_e hl2 k (aN A 0 1) (6 - aN A 0 1) 0 0 (by omega)
          rw [show aN A 0 1 + (6 - aN A 0 1) = 6 by omega] at eb
          refine ⟨match bnf (nm_ (aN A) (aN A 4 p) (s + 1) (2 ^ s) &&& (63 ^^^ aN A 4 p)) k (aN A 0 1) 0 0 with | none => -1000000 | some t => nI t, ?_, fun M' G' h' => ?_⟩
          · show m_X6_shortest M 0 (nI p) (nI s) k = _
            have e := m_bnX (M := M) (x := nm_ (aN A) (aN A 4 p) (s + 1) (2 ^ s) &&& (63 ^^^ aN A 4 p)) (by omega) k (some (-1000000 : Int32)) (fun v4 => some v4) 6 0 FU 0 (by decide) (by decide)
            rw [m_X6_shortest, if_pos (O6 G), m_noP G hn, hr, Option.bind_some, if_pos (by decide), if_pos (O6 G), m_noJ G hn, hz, Option.bind_some, if_pos (by decide), if_pos hk, R6n G, Option.bind_some, Option.bind_some, r_4 (Sn G), Option.bind_some, a_4 (Sn G) hw.1 hn.1 hp, Option.bind_some, if_pos (Sn G).1, m_nd (Sn G) hw.1 hn.1 hs hkn, Option.bind_some, if_pos hk0, e63, m_X6_bitNumber, show (0 : Int32) = nI 0 from rfl, e, eb]
            cases bnf (nm_ (aN A) (aN A 4 p) (s + 1) (2 ^ s) &&& (63 ^^^ aN A 4 p)) k (aN A 0 1) 0 0 <;> rfl
          · show opM (m_X7_shortest M' 231 (nI p) (nI s) k) _ _ _
            rw [m_X7_shortest]
            exact q_ G' h' (fun M1 G1 h1 => by
              rw [if_pos (O7 G1), m_isP G1 h1.1, hr, Option.bind_some, if_neg (by decide), if_pos (O7 G1), m_isJ G1 h1.1, hz, Option.bind_some, if_neg (by decide), if_pos hk, R7s G1, Option.bind_some, o_2 (A7s G1) hw.1 h1.1.1 hp, Option.bind_some, if_pos (O7 G1), m_ne7 G1 hw.1 h1.1.1 hs hkn, Option.bind_some, if_neg hk1, f_an _ (by omega) _ hkn]
              refine (m_bnM G1 hw.1 h1.1.1 (by omega) k _ _ (aN A 0 1) 0 FU 0 (by omega) (by unfold FU; omega)).trans ?_
              cases bnf (nm_ (aN A) (aN A 4 p) (s + 1) (2 ^ s) &&& (63 ^^^ aN A 4 p)) k (aN A 0 1) 0 0 <;> rfl)
      · refine ⟨-1000001, ?_, fun M' G' h' => ?_⟩
        · show m_X6_shortest M 0 x z k = _
          rw [m_X6_shortest, if_pos (O6 G), m_noP G hn, hr, Option.bind_some, if_pos (by decide), if_pos (O6 G), m_noJ G hn, hz, Option.bind_some, if_pos (by decide), if_neg hk]
        · show opM (m_X7_shortest M' 231 x z k) _ _ _
          rw [m_X7_shortest]
          exact q_ G' h' (fun M1 G1 h1 => by rw [if_pos (O7 G1), m_isP G1 h1.1, hr, Option.bind_some, if_neg (by decide), if_pos (O7 G1), m_isJ G1 h1.1, hz, Option.bind_some, if_neg (by decide), if_neg hk])
theorem o_questions (x : Int32) : bothP A (fun M => m_X6_questions M 0 x) (fun M => m_X7_questions M 231 x) := by
  intro M G h
  have hn := h.1
  by_cases h0 : aN A 0 3 = 0
  · refine ⟨-1000002, ?_, fun M' G' h' => ?_⟩
    · show m_X6_questions M 0 x = _
      rw [m_X6_questions, if_pos (O6 G), m_noS G hn, Option.bind_some, if_neg (by simp [h0, b2])]
    · show opM (m_X7_questions M' 231 x) _ _ _
      rw [m_X7_questions]
      exact q_ G' h' (fun M1 G1 h1 => by rw [if_pos (O7 G1), m_isT G1 h1.1, Option.bind_some, if_pos (by simp [h0, b2])])
  · have hw := vs_w hn.2 (j := 3) (by decide) h0
    have hq := ques_lt hw.1
    have h64 := p2_64 hw.1.2.1.2
    cases hr : rg x 0 1 with
    | false =>
      refine ⟨-1000001, ?_, fun M' G' h' => ?_⟩
      · show m_X6_questions M 0 x = _
        rw [m_X6_questions, if_pos (O6 G), m_noS G hn, Option.bind_some, if_pos (by simp [h0, b2]), m_out, Option.bind_some, if_neg (by rw [show rg x (Int32.toInt 0) (Int32.toInt 1) = false from hr]; decide)]
      · show opM (m_X7_questions M' 231 x) _ _ _
        rw [m_X7_questions]
        exact q_ G' h' (fun M1 G1 h1 => by rw [if_pos (O7 G1), m_isT G1 h1.1, Option.bind_some, if_neg (by simp [h0, b2]), m_in7, Option.bind_some, if_pos (by rw [show rg x (Int64.toInt 0) (Int64.toInt 1) = false from hr]; decide)])
    | true =>
      refine ⟨if x = 0 then nI (bc (ques (aN A))) else nI (ques (aN A)), ?_, fun M' G' h' => ?_⟩
      · show m_X6_questions M 0 x = _
        rw [m_X6_questions, if_pos (O6 G), m_noS G hn, Option.bind_some, if_pos (by simp [h0, b2]), m_out, Option.bind_some, if_pos (by rw [show rg x (Int32.toInt 0) (Int32.toInt 1) = true from hr]; decide), R6n G, Option.bind_some, if_pos (Sn G).1, m_ques (Sn G) hw.1 hn.1, Option.bind_some, f_bc hq, Option.bind_some]
        by_cases hx : x = 0
        · rw [if_pos hx, if_pos hx]
        · rw [if_neg hx, if_neg hx]
      · show opM (m_X7_questions M' 231 x) _ _ _
        rw [m_X7_questions]
        exact q_ G' h' (fun M1 G1 h1 => by
          rw [if_pos (O7 G1), m_isT G1 h1.1, Option.bind_some, if_neg (by simp [h0, b2]), m_in7, Option.bind_some, if_neg (by rw [show rg x (Int64.toInt 0) (Int64.toInt 1) = true from hr]; decide)]
          refine (m_qu7L G1 hw.1 h1.1.1 x _ (2 ^ aN A 0 1) 0 FU none (by omega) (by unfold FU; omega) (fun f hf => by cases hf)).trans ?_
          rw [qs_eq hw.1]
          show (if x = (0 : Int32) then (m_X7_bits M1 (nI (ques (aN A)))).bind fun v31 => some (M1, v31) else some (M1, nI (ques (aN A)))) = _
          rw [m_bits hq, Option.bind_some]
          by_cases hx : x = 0
          · rw [if_pos hx, if_pos hx]
          · rw [if_neg hx, if_neg hx])
end O5
