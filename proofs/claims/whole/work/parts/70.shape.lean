/-! ===== the shape of the memory behind the constructors: kinds and references ===== -/
def KD0 : List (Nat × Nat) := [(0, 6), (3, 8), (0, 5), (1, 6), (1, 8), (1, 6), (1, 6), (1, 6), (1, 36), (4, 2), (0, 0), (4, 24), (0, 5), (1, 6), (1, 8), (1, 6), (1, 6), (1, 6), (1, 36), (0, 5), (1, 6), (1, 8), (1, 6), (1, 6), (1, 6), (1, 36), (0, 5), (1, 6), (1, 8), (1, 6), (1, 6), (1, 6), (1, 36), (0, 5), (1, 6), (1, 8), (1, 6), (1, 6), (1, 6), (1, 36), (0, 5), (1, 6), (1, 8), (1, 6), (1, 6), (1, 6), (1, 36), (0, 5), (1, 6), (1, 8), (1, 6), (1, 6), (1, 6), (1, 36), (0, 5), (1, 6), (1, 8), (1, 6), (1, 6), (1, 6), (1, 36), (0, 5), (1, 6), (1, 8), (1, 6), (1, 6), (1, 6), (1, 36), (0, 5), (1, 6), (1, 8), (1, 6), (1, 6), (1, 6), (1, 36), (0, 5), (1, 6), (1, 8), (1, 6), (1, 6), (1, 6), (1, 36), (0, 5), (1, 6), (1, 8), (1, 6), (1, 6), (1, 6), (1, 36), (0, 5), (1, 6), (1, 8), (1, 6), (1, 6), (1, 6), (1, 36), (0, 5), (1, 6), (1, 8), (1, 6), (1, 6), (1, 6), (1, 36), (0, 5), (1, 6), (1, 8), (1, 6), (1, 6), (1, 6), (1, 36), (0, 5), (1, 6), (1, 8), (1, 6), (1, 6), (1, 6), (1, 36), (0, 5), (1, 6), (1, 8), (1, 6), (1, 6), (1, 6), (1, 36), (0, 5), (1, 6), (1, 8), (1, 6), (1, 6), (1, 6), (1, 36), (0, 5), (1, 6), (1, 8), (1, 6), (1, 6), (1, 6), (1, 36), (0, 5), (1, 6), (1, 8), (1, 6), (1, 6), (1, 6), (1, 36), (0, 5), (1, 6), (1, 8), (1, 6), (1, 6), (1, 6), (1, 36), (0, 5), (1, 6), (1, 8), (1, 6), (1, 6), (1, 6), (1, 36), (0, 5), (1, 6), (1, 8), (1, 6), (1, 6), (1, 6), (1, 36), (0, 5), (1, 6), (1, 8), (1, 6), (1, 6), (1, 6), (1, 36), (0, 5), (1, 6), (1, 8), (1, 6), (1, 6), (1, 6), (1, 36), (0, 3), (1, 120), (0, 5), (1, 6), (1, 8), (1, 6), (1, 6), (1, 6), (1, 36), (0, 2), (0, 5), (1, 6), (1, 8), (1, 6), (1, 6), (1, 6), (1, 36), (1, 6), (1, 6), (0, 1), (1, 16), (0, 4), (1, 40), (0, 4), (1, 40), (0, 4), (1, 40), (0, 4), (1, 40), (0, 4), (1, 40), (0, 4), (1, 40), (0, 4), (1, 40), (0, 4), (1, 40), (0, 5), (1, 6), (1, 8), (1, 6), (1, 6), (1, 6), (1, 36), (0, 5), (1, 6), (1, 8), (1, 6), (1, 6), (1, 6), (1, 36), (0, 7), (1, 8), (1, 8), (1, 320), (1, 73), (1, 73), (1, 73), (1, 1752), (1, 120), (2, 6), (1, 6), (1, 6), (2, 2), (1, 146), (1, 16)]
def RL0 : List (Nat × Nat × Nat) := [(2, 5, 3), (2, 6, 4), (2, 7, 5), (2, 8, 6), (2, 9, 7), (2, 10, 8), (12, 5, 13), (12, 6, 14), (12, 7, 15), (12, 8, 16), (12, 9, 17), (12, 10, 18), (11, 0, 12), (19, 5, 20), (19, 6, 21), (19, 7, 22), (19, 8, 23), (19, 9, 24), (19, 10, 25), (11, 1, 19), (26, 5, 27), (26, 6, 28), (26, 7, 29), (26, 8, 30), (26, 9, 31), (26, 10, 32), (11, 2, 26), (33, 5, 34), (33, 6, 35), (33, 7, 36), (33, 8, 37), (33, 9, 38), (33, 10, 39), (11, 3, 33), (40, 5, 41), (40, 6, 42), (40, 7, 43), (40, 8, 44), (40, 9, 45), (40, 10, 46), (11, 4, 40), (47, 5, 48), (47, 6, 49), (47, 7, 50), (47, 8, 51), (47, 9, 52), (47, 10, 53), (11, 5, 47), (54, 5, 55), (54, 6, 56), (54, 7, 57), (54, 8, 58), (54, 9, 59), (54, 10, 60), (11, 6, 54), (61, 5, 62), (61, 6, 63), (61, 7, 64), (61, 8, 65), (61, 9, 66), (61, 10, 67), (11, 7, 61), (68, 5, 69), (68, 6, 70), (68, 7, 71), (68, 8, 72), (68, 9, 73), (68, 10, 74), (11, 8, 68), (75, 5, 76), (75, 6, 77), (75, 7, 78), (75, 8, 79), (75, 9, 80), (75, 10, 81), (11, 9, 75), (82, 5, 83), (82, 6, 84), (82, 7, 85), (82, 8, 86), (82, 9, 87), (82, 10, 88), (11, 10, 82), (89, 5, 90), (89, 6, 91), (89, 7, 92), (89, 8, 93), (89, 9, 94), (89, 10, 95), (11, 11, 89), (96, 5, 97), (96, 6, 98), (96, 7, 99), (96, 8, 100), (96, 9, 101), (96, 10, 102), (11, 12, 96), (103, 5, 104), (103, 6, 105), (103, 7, 106), (103, 8, 107), (103, 9, 108), (103, 10, 109), (11, 13, 103), (110, 5, 111), (110, 6, 112), (110, 7, 113), (110, 8, 114), (110, 9, 115), (110, 10, 116), (11, 14, 110), (117, 5, 118), (117, 6, 119), (117, 7, 120), (117, 8, 121), (117, 9, 122), (117, 10, 123), (11, 15, 117), (124, 5, 125), (124, 6, 126), (124, 7, 127), (124, 8, 128), (124, 9, 129), (124, 10, 130), (11, 16, 124), (131, 5, 132), (131, 6, 133), (131, 7, 134), (131, 8, 135), (131, 9, 136), (131, 10, 137), (11, 17, 131), (138, 5, 139), (138, 6, 140), (138, 7, 141), (138, 8, 142), (138, 9, 143), (138, 10, 144), (11, 18, 138), (145, 5, 146), (145, 6, 147), (145, 7, 148), (145, 8, 149), (145, 9, 150), (145, 10, 151), (11, 19, 145), (152, 5, 153), (152, 6, 154), (152, 7, 155), (152, 8, 156), (152, 9, 157), (152, 10, 158), (11, 20, 152), (159, 5, 160), (159, 6, 161), (159, 7, 162), (159, 8, 163), (159, 9, 164), (159, 10, 165), (11, 21, 159), (166, 5, 167), (166, 6, 168), (166, 7, 169), (166, 8, 170), (166, 9, 171), (166, 10, 172), (11, 22, 166), (173, 5, 174), (173, 6, 175), (173, 7, 176), (173, 8, 177), (173, 9, 178), (173, 10, 179), (11, 23, 173), (10, 0, 11), (182, 5, 183), (182, 6, 184), (182, 7, 185), (182, 8, 186), (182, 9, 187), (182, 10, 188), (180, 0, 181), (180, 1, 182), (190, 5, 191), (190, 6, 192), (190, 7, 193), (190, 8, 194), (190, 9, 195), (190, 10, 196), (189, 0, 190), (189, 4, 197), (189, 5, 198), (199, 0, 200), (201, 0, 202), (1, 0, 201), (203, 0, 204), (1, 1, 203), (205, 0, 206), (1, 2, 205), (207, 0, 208), (1, 3, 207), (209, 0, 210), (1, 4, 209), (211, 0, 212), (1, 5, 211), (213, 0, 214), (1, 6, 213), (215, 0, 216), (1, 7, 215), (217, 5, 218), (217, 6, 219), (217, 7, 220), (217, 8, 221), (217, 9, 222), (217, 10, 223), (9, 0, 217), (224, 5, 225), (224, 6, 226), (224, 7, 227), (224, 8, 228), (224, 9, 229), (224, 10, 230), (9, 1, 224), (0, 0, 1), (0, 1, 2), (0, 2, 9), (0, 3, 10), (0, 4, 180), (0, 5, 189), (0, 6, 199), (231, 2, 232), (231, 3, 233), (231, 4, 234), (231, 5, 235), (231, 6, 236), (231, 7, 237), (231, 8, 238), (231, 10, 239), (231, 19, 240), (231, 20, 241), (231, 21, 242), (231, 22, 243), (231, 23, 244), (231, 24, 245)]
def GS (M : mM) : Prop := mz M = 246 ∧ (∀ k, k < 246 → mk_ M k = KD0.getD k (0, 0)) ∧ ∀ q ∈ RL0, mr_ M q.1 q.2.1 = some q.2.2
theorem GS_0 : GS M0 := ⟨by decide +kernel, by decide +kernel, by decide +kernel⟩
theorem GS.sh {M N : mM} (h : GS M) (g : sh M N) : GS N := by
  unfold GS
  rw [g.1, g.2.1, g.2.2]
  exact h
theorem GS.k {M : mM} (h : GS M) {k : Nat} (hk : k < 246) {q : Nat × Nat} (e : KD0.getD k (0, 0) = q) : mk_ M k = q := (h.2.1 k hk).trans e
theorem GS.r {M : mM} (h : GS M) {a f b : Nat} (e : (a, f, b) ∈ RL0) : mr_ M a f = some b := h.2.2 _ e
theorem GS.o {M : mM} (h : GS M) {k c : Nat} (hk : k < 246) (e : KD0.getD k (0, 0) = (0, c)) : isO M k c = true := by
  unfold isO
  rw [h.1, h.k hk e]
  simp [hk]
def skB (k : Nat) : Bool := decide (k + 6 < 246) && (KD0.getD k (0, 0) == (0, 5)) && (KD0.getD (k + 1) (0, 0) == (1, 6)) && (KD0.getD (k + 2) (0, 0) == (1, 8)) && (KD0.getD (k + 3) (0, 0) == (1, 6)) && (KD0.getD (k + 4) (0, 0) == (1, 6)) && (KD0.getD (k + 5) (0, 0) == (1, 6)) && (KD0.getD (k + 6) (0, 0) == (1, 36)) &&
  decide ((k, 5, k + 1) ∈ RL0) && decide ((k, 6, k + 2) ∈ RL0) && decide ((k, 7, k + 3) ∈ RL0) && decide ((k, 8, k + 4) ∈ RL0) && decide ((k, 9, k + 5) ∈ RL0) && decide ((k, 10, k + 6) ∈ RL0)
theorem GS.s {M : mM} (h : GS M) {k : Nat} (e : skB k = true) : SK M k := by
  simp only [skB, Bool.and_eq_true, decide_eq_true_eq, beq_iff_eq] at e
  obtain ⟨⟨⟨⟨⟨⟨⟨⟨⟨⟨⟨⟨⟨e0, e1⟩, e2⟩, e3⟩, e4⟩, e5⟩, e6⟩, e7⟩, r1⟩, r2⟩, r3⟩, r4⟩, r5⟩, r6⟩ := e
  exact ⟨h.o (by omega) e1, by rw [h.1]; exact e0, ⟨h.k (by omega) e2, h.k (by omega) e3, h.k (by omega) e4, h.k (by omega) e5, h.k (by omega) e6, h.k (by omega) e7⟩, h.r r1, h.r r2, h.r r3, h.r r4, h.r r5, h.r r6⟩
theorem sk_now : skB 2 = true := by decide +kernel
theorem sk_read : skB 182 = true := by decide +kernel
theorem sk_work : skB 190 = true := by decide +kernel
theorem sk_acts : ∀ i, i < 24 → skB (12 + 7 * i) = true ∧ (11, i, 12 + 7 * i) ∈ RL0 := by decide +kernel
theorem sk_img : ∀ i, i < 2 → skB (217 + 7 * i) = true ∧ (9, i, 217 + 7 * i) ∈ RL0 := by decide +kernel
theorem sk_row : ∀ i, i < 8 → KD0.getD (201 + 2 * i) (0, 0) = (0, 4) ∧ KD0.getD (202 + 2 * i) (0, 0) = (1, 40) ∧ (201 + 2 * i, 0, 202 + 2 * i) ∈ RL0 ∧ (1, i, 201 + 2 * i) ∈ RL0 := by decide +kernel
theorem GS.a {M : mM} (h : GS M) {k n : Nat} (hk : k < 246) (e : KD0.getD k (0, 0) = (1, n)) : k < mz M ∧ mk_ M k = (1, n) := ⟨by rw [h.1]; exact hk, h.k hk e⟩
theorem GS.ak {M : mM} (h : GS M) {k : Nat} (hk : k < 246) (e : KD0.getD k (0, 0) = (1, 73)) : AK M k := h.a hk e
theorem GS.mh {M : mM} (h : GS M) : MH M 231 240 := ⟨h.o (by decide) (by decide +kernel), h.r (by decide +kernel), by rw [h.1]; decide, h.k (by decide) (by decide +kernel)⟩
theorem ldR_ {M : mM} {a t n i b : Nat} (ha : a < mz M) (hk : mk_ M a = (t, n)) (hi : i < n) (hn : n < 2 ^ 31) (hr : mr_ M a i = some b) : ldR M a t (nI i) = some b := by
  have hc : (nI i).toNatClampNeg = i := nI_clamp (by omega)
  unfold ldR isA
  rw [hk, inB_nI hi hn, hc, hr]
  simp [ha]
/-! ===== numbers given to a call: within bounds or not ===== -/
def rg (x : Int32) (lo hi : Int) : Bool := decide (lo ≤ x.toInt) && decide (x.toInt ≤ hi)
theorem m_out (M : mM) (x l h : Int32) : m_X6_outside M x l h = some (b2 (!rg x l.toInt h.toInt)) := by
  unfold m_X6_outside rg
  by_cases h1 : x < l
  · have : ¬ l.toInt ≤ x.toInt := by rw [Int.not_le]; exact Int32.lt_iff_toInt_lt.mp h1
    rw [if_pos h1]
    simp [this, b2]
  · have h1' : l.toInt ≤ x.toInt := by
      have := Int32.not_lt.mp h1
      exact Int32.le_iff_toInt_le.mp this
    rw [if_neg h1]
    by_cases h2 : x ≤ h
    · rw [if_pos h2]
      simp [h1', Int32.le_iff_toInt_le.mp h2, b2]
    · have : ¬ x.toInt ≤ h.toInt := fun q => h2 (Int32.le_iff_toInt_le.mpr q)
      rw [if_neg h2]
      simp [h1', this, b2]
theorem lc_lt {x y : Int64} : lg_cmp x y < 0 ↔ x < y := by
  unfold lg_cmp
  by_cases h1 : y < x
  · rw [if_pos h1]
    constructor
    · intro h; exact absurd h (by decide)
    · intro h; exact absurd (Int64.lt_iff_toInt_lt.mp h) (by have := Int64.lt_iff_toInt_lt.mp h1; omega)
  · rw [if_neg h1]
    by_cases h2 : x = y
    · rw [if_pos h2]
      constructor
      · intro h; exact absurd h (by decide)
      · intro h; rw [h2] at h; exact absurd (Int64.lt_iff_toInt_lt.mp h) (by omega)
    · rw [if_neg h2]
      constructor
      · intro _
        rw [Int64.lt_iff_toInt_lt]
        have h3 : ¬ y.toInt < x.toInt := fun q => h1 (Int64.lt_iff_toInt_lt.mpr q)
        have h4 : x.toInt ≠ y.toInt := fun q => h2 (Int64.toInt_inj.mp q)
        omega
      · intro _; decide
theorem lc_gt {x y : Int64} : 0 < lg_cmp x y ↔ y < x := by
  unfold lg_cmp
  by_cases h1 : y < x
  · rw [if_pos h1]
    exact ⟨fun _ => h1, fun _ => by decide⟩
  · rw [if_neg h1]
    constructor
    · intro h
      split at h <;> exact absurd h (by decide)
    · intro h; exact absurd h h1
theorem m_in7 (M : mM) (x : Int32) (l h : Int64) : m_X7_in M (Int32.toInt64 x) l h = some (b2 (rg x l.toInt h.toInt)) := by
  have e : (Int32.toInt64 x).toInt = x.toInt := Int32.toInt_toInt64 x
  unfold m_X7_in rg
  by_cases h1 : Int32.toInt64 x < l
  · rw [if_pos (lc_lt.mpr h1)]
    have := Int64.lt_iff_toInt_lt.mp h1
    rw [e] at this
    have : ¬ l.toInt ≤ x.toInt := by omega
    simp [this, b2]
  · rw [if_neg (fun q => h1 (lc_lt.mp q))]
    have h1' : l.toInt ≤ x.toInt := by
      have : ¬ (Int32.toInt64 x).toInt < l.toInt := fun q => h1 (Int64.lt_iff_toInt_lt.mpr q)
      omega
    by_cases h2 : h < Int32.toInt64 x
    · rw [if_pos (lc_gt.mpr h2)]
      have := Int64.lt_iff_toInt_lt.mp h2
      rw [e] at this
      have : ¬ x.toInt ≤ h.toInt := by omega
      simp [this, b2]
    · rw [if_neg (fun q => h2 (lc_gt.mp q))]
      have : x.toInt ≤ h.toInt := by
        have : ¬ h.toInt < (Int32.toInt64 x).toInt := fun q => h2 (Int64.lt_iff_toInt_lt.mpr q)
        omega
      simp [h1', this, b2]
theorem rg_n {x : Int32} {n : Nat} (h : rg x 0 n = true) : ∃ p, p ≤ n ∧ x = nI p := by
  simp only [rg, Bool.and_eq_true, decide_eq_true_eq] at h
  obtain ⟨p, hp, e⟩ := nI_of (x := x) (fun q => by have := Int32.lt_iff_toInt_lt.mp q; simp at this; omega)
  subst e
  rw [nI_toInt hp] at h
  exact ⟨p, by omega, rfl⟩
theorem b2_01 (b : Bool) : (b2 b == 0 || b2 b == 1) = true := by cases b <;> decide
