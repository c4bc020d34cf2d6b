/-! ===== PURE LAYER: base. From here on nothing speaks of the machine: only of the shallow functions over memories ===== -/
def wI (M : mM) (a p : Nat) (v : Int32) : mM := (M.1, M.2.1, up2 (mi_ M) a p v, mr_ M)
def sh (M N : mM) : Prop := mz N = mz M ∧ mk_ N = mk_ M ∧ mr_ N = mr_ M
theorem sh_r (M : mM) : sh M M := ⟨rfl, rfl, rfl⟩
theorem sh_t {A B C : mM} (h : sh A B) (g : sh B C) : sh A C := ⟨g.1.trans h.1, g.2.1.trans h.2.1, g.2.2.trans h.2.2⟩
theorem sh_s {A B : mM} (h : sh A B) : sh B A := ⟨h.1.symm, h.2.1.symm, h.2.2.symm⟩
theorem sh_w (M : mM) (a p : Nat) (v : Int32) : sh M (wI M a p v) := ⟨rfl, rfl, rfl⟩
theorem wI_i (M : mM) (a p : Nat) (v : Int32) (b q : Nat) : mi_ (wI M a p v) b q = if b = a then (if q = p then v else mi_ M b q) else mi_ M b q := rfl
theorem wI_o {M : mM} {a p : Nat} {v : Int32} {b : Nat} (h : b ≠ a) : mi_ (wI M a p v) b = mi_ M b := by funext q; rw [wI_i, if_neg h]
theorem isO_sh {M N : mM} (h : sh M N) (a c : Nat) : isO N a c = isO M a c := by
  simp only [isO]
  rw [h.1, h.2.1]
theorem inB_nI {p n : Nat} (h : p < n) (hn : n < 2 ^ 31) : inB (nI p) n = true := by
  unfold inB
  exact decide_eq_true (nI_in h hn)
theorem ld_ {M : mM} {a p n : Nat} (ha : a < mz M) (hk : mk_ M a = (1, n)) (hp : p < n) (hn : n < 2 ^ 31) : ldI M a (nI p) = some (mi_ M a p) := by
  have hc : (nI p).toNatClampNeg = p := nI_clamp (by omega)
  unfold ldI isA
  rw [hk, inB_nI hp hn, hc]
  simp [ha]
theorem st_ {M : mM} {a p n : Nat} {v : Int32} (ha : a < mz M) (hk : mk_ M a = (1, n)) (hp : p < n) (hn : n < 2 ^ 31) : stI M a (nI p) v = some (wI M a p v) := by
  have hc : (nI p).toNatClampNeg = p := nI_clamp (by omega)
  unfold stI isA
  rw [hk, inB_nI hp hn, hc]
  simp [ha, wI]
theorem ldz_ {M : mM} {a p n : Nat} (ha : a < mz M) (hk : mk_ M a = (2, n)) (hp : p < n) (hn : n < 2 ^ 31) : ldZ M a (nI p) = some (mi_ M a p) := by
  have hc : (nI p).toNatClampNeg = p := nI_clamp (by omega)
  unfold ldZ isA
  rw [hk, inB_nI hp hn, hc]
  simp [ha]
theorem stz_ {M : mM} {a p n : Nat} {v : Int32} (ha : a < mz M) (hk : mk_ M a = (2, n)) (hp : p < n) (hn : n < 2 ^ 31) (hv : v = 0 ∨ v = 1) : stZ M a (nI p) v = some (wI M a p v) := by
  have hc : (nI p).toNatClampNeg = p := nI_clamp (by omega)
  unfold stZ isA
  rw [hk, inB_nI hp hn, hc]
  rcases hv with rfl | rfl <;> simp [ha, wI]
theorem gI_ {M : mM} {a c f : Nat} (h : isO M a c = true) : gI M a c f = some (mi_ M a f) := by simp [gI, h]
theorem pI_ {M : mM} {a c f : Nat} {v : Int32} (h : isO M a c = true) : pI M a c f v = some (wI M a f v) := by simp [pI, h, wI]
theorem gR_ {M : mM} {a c f b : Nat} (h : isO M a c = true) (hr : mr_ M a f = some b) : gR M a c f = some b := by simp [gR, h, hr]
/-! small numbers -/
def bc (n : Nat) : Nat := n % 2 + n / 2 % 2 + n / 4 % 2 + n / 8 % 2 + n / 16 % 2 + n / 32 % 2
def b2 (b : Bool) : Int32 := if b then 1 else 0
theorem f_or : ∀ k, k < 64 → ∀ s, s < 6 → nI k ||| ((1 : Int32) <<< (nI s &&& 31)) = nI (k ||| 2 ^ s) := by decide +kernel
theorem f_bit : ∀ k, k < 64 → ∀ s, s < 6 → ((nI k >>> (nI s &&& 31)) &&& (1 : Int32)) = b2 (k.testBit s) := by decide +kernel
theorem f_an : ∀ a, a < 64 → ∀ b, b < 64 → (nI a &&& (nI b ^^^ (-1 : Int32))) = nI (a &&& (63 ^^^ b)) := by decide +kernel
theorem f_ors : ∀ a, a < 64 → ∀ b, b < 64 → nI a ||| nI b = nI (a ||| b) := by decide +kernel
theorem f_ands : ∀ a, a < 64 → ∀ b, b < 64 → nI a &&& nI b = nI (a &&& b) := by decide +kernel
theorem f_xors : ∀ a, a < 64 → ∀ b, b < 64 → nI a ^^^ nI b = nI (a ^^^ b) := by decide +kernel
theorem f_bcJ : ∀ n, n < 64 → m_J6_bitCount_0f7a4 ME (nI n) = some (nI (bc n)) := by decide +kernel
theorem f_bc {M : mM} {n : Nat} (h : n < 64) : m_J6_bitCount_0f7a4 M (nI n) = some (nI (bc n)) := f_bcJ n h
theorem f_low : ∀ n, n < 64 → nI n &&& (nI n - 1) = nI (n &&& (n - 1)) := by decide +kernel
theorem f_shl : ∀ s, s < 7 → (1 : Int32) <<< (nI s &&& 31) = nI (2 ^ s) := by decide +kernel
theorem f_bcl : ∀ n, n < 64 → bc n ≤ 6 := by decide +kernel
theorem b2_0 {b : Bool} : b2 b = 0 ↔ b = false := by cases b <;> decide
theorem b2_1 {b : Bool} : b2 b = 1 ↔ b = true := by cases b <;> decide
theorem nI_e0 {n : Nat} (h : n < 2 ^ 31) : nI n = 0 ↔ n = 0 := by
  rw [← nI_0]
  exact nI_eq h (by decide)
/-- literals as numbers -/
theorem l_0 : (0 : Int32) = nI 0 := rfl
theorem l_1 : (1 : Int32) = nI 1 := rfl
theorem l_2 : (2 : Int32) = nI 2 := rfl
theorem l_3 : (3 : Int32) = nI 3 := rfl
theorem l_4 : (4 : Int32) = nI 4 := rfl
theorem l_5 : (5 : Int32) = nI 5 := rfl
theorem l_6 : (6 : Int32) = nI 6 := rfl
/-! a loop that counts up -/
theorem fu_ge {c : Nat} (h : c ≤ 4000) : ∃ m, FU = m + c + 1 := ⟨5000 - c - 1, by unfold FU; omega⟩
/-! ===== a school: its scalars c 0, needs c 1, plan c 2, kinds c 3, knows c 4, order c 5, heard c 6 ===== -/
abbrev sT : Type := Nat → Nat → Nat
/-- the cells of a school object at k -/
def SK (M : mM) (k : Nat) : Prop := isO M k 5 = true ∧ k + 6 < mz M ∧ (mk_ M (k + 1) = (1, 6) ∧ mk_ M (k + 2) = (1, 8) ∧ mk_ M (k + 3) = (1, 6) ∧ mk_ M (k + 4) = (1, 6) ∧ mk_ M (k + 5) = (1, 6) ∧ mk_ M (k + 6) = (1, 36)) ∧
  (mr_ M k 5 = some (k + 1) ∧ mr_ M k 6 = some (k + 2) ∧ mr_ M k 7 = some (k + 3) ∧ mr_ M k 8 = some (k + 4) ∧ mr_ M k 9 = some (k + 5) ∧ mr_ M k 10 = some (k + 6))
theorem SK.sh {M N : mM} {k : Nat} (h : SK M k) (g : sh M N) : SK N k := by
  unfold SK at h ⊢
  rw [isO_sh g, g.1, g.2.1, g.2.2]
  exact h
/-- what the cells hold, within the counts -/
def SA (M : mM) (k : Nat) (c : sT) : Prop := (∀ j, j < 5 → mi_ M k j = nI (c 0 j)) ∧ (∀ j, j < c 0 1 → mi_ M (k + 1) j = nI (c 1 j)) ∧ (∀ j, j < c 0 2 → mi_ M (k + 2) j = nI (c 2 j)) ∧
  (∀ j, j < c 0 3 → mi_ M (k + 3) j = nI (c 3 j)) ∧ (∀ j, j < c 0 3 → mi_ M (k + 4) j = nI (c 4 j)) ∧ (∀ j, j < c 0 3 → mi_ M (k + 5) j = nI (c 5 j)) ∧ (∀ p, p < c 0 3 → ∀ s, s < c 0 1 → mi_ M (k + 6) (p * 6 + s) = nI (c 6 (p * 6 + s)))
/-- sound numbers -/
def wf (c : sT) : Prop := c 0 0 ≤ 6 ∧ (1 ≤ c 0 1 ∧ c 0 1 ≤ 6) ∧ (1 ≤ c 0 2 ∧ c 0 2 ≤ 8) ∧ (1 ≤ c 0 3 ∧ c 0 3 ≤ 6) ∧ c 0 4 ≤ 2000 ∧ (∀ s, s < c 0 1 → c 1 s < 2 ^ s) ∧ (∀ l, l < c 0 2 → c 2 l < c 0 1) ∧ (∀ p, p < c 0 3 → 1 ≤ c 3 p ∧ c 3 p ≤ 5) ∧ (∀ p, p < c 0 3 → c 4 p < 2 ^ c 0 1) ∧
  (∀ t, t < c 0 3 → c 5 t < c 0 3) ∧ (∀ t u, t < c 0 3 → u < c 0 3 → c 5 t = c 5 u → t = u) ∧ (∀ p, p < c 0 3 → ∀ s, s < c 0 1 → c 6 (p * 6 + s) ≤ 99)
theorem p2_64 {n : Nat} (h : n ≤ 6) : 2 ^ n ≤ 64 := Nat.pow_le_pow_right (by decide) h
section SQ
variable {M : mM} {k : Nat} {c : sT}
theorem q_knows (w : wf c) {p : Nat} (hp : p < c 0 3) : c 4 p < 64 := Nat.lt_of_lt_of_le (w.2.2.2.2.2.2.2.2.1 p hp) (p2_64 w.2.1.2)
theorem q_needs (w : wf c) {s : Nat} (hs : s < c 0 1) : c 1 s < 64 := Nat.lt_of_lt_of_le (w.2.2.2.2.2.1 s hs) (p2_64 (by have := w.2.1.2; omega))
theorem g_s (K : SK M k) (A : SA M k c) {j : Nat} (hj : j < 5) : gI M k 5 j = some (nI (c 0 j)) := by rw [gI_ K.1, A.1 j hj]
theorem r_1 (K : SK M k) : gR M k 5 5 = some (k + 1) := gR_ K.1 K.2.2.2.1
theorem r_2 (K : SK M k) : gR M k 5 6 = some (k + 2) := gR_ K.1 K.2.2.2.2.1
theorem r_3 (K : SK M k) : gR M k 5 7 = some (k + 3) := gR_ K.1 K.2.2.2.2.2.1
theorem r_4 (K : SK M k) : gR M k 5 8 = some (k + 4) := gR_ K.1 K.2.2.2.2.2.2.1
theorem r_5 (K : SK M k) : gR M k 5 9 = some (k + 5) := gR_ K.1 K.2.2.2.2.2.2.2.1
theorem r_6 (K : SK M k) : gR M k 5 10 = some (k + 6) := gR_ K.1 K.2.2.2.2.2.2.2.2
theorem a_1 (K : SK M k) (w : wf c) (A : SA M k c) {j : Nat} (hj : j < c 0 1) : ldI M (k + 1) (nI j) = some (nI (c 1 j)) := by
  rw [ld_ (by have := K.2.1; omega) K.2.2.1.1 (by have := w.2.1.2; omega) (by decide), A.2.1 j hj]
theorem a_2 (K : SK M k) (w : wf c) (A : SA M k c) {j : Nat} (hj : j < c 0 2) : ldI M (k + 2) (nI j) = some (nI (c 2 j)) := by
  rw [ld_ (by have := K.2.1; omega) K.2.2.1.2.1 (by have := w.2.2.1.2; omega) (by decide), A.2.2.1 j hj]
theorem a_3 (K : SK M k) (w : wf c) (A : SA M k c) {j : Nat} (hj : j < c 0 3) : ldI M (k + 3) (nI j) = some (nI (c 3 j)) := by
  rw [ld_ (by have := K.2.1; omega) K.2.2.1.2.2.1 (by have := w.2.2.2.1.2; omega) (by decide), A.2.2.2.1 j hj]
theorem a_4 (K : SK M k) (w : wf c) (A : SA M k c) {j : Nat} (hj : j < c 0 3) : ldI M (k + 4) (nI j) = some (nI (c 4 j)) := by
  rw [ld_ (by have := K.2.1; omega) K.2.2.1.2.2.2.1 (by have := w.2.2.2.1.2; omega) (by decide), A.2.2.2.2.1 j hj]
theorem a_5 (K : SK M k) (w : wf c) (A : SA M k c) {j : Nat} (hj : j < c 0 3) : ldI M (k + 5) (nI j) = some (nI (c 5 j)) := by
  rw [ld_ (by have := K.2.1; omega) K.2.2.1.2.2.2.2.1 (by have := w.2.2.2.1.2; omega) (by decide), A.2.2.2.2.2.1 j hj]
theorem ix_6 (p s : Nat) : nI p * (6 : Int32) + nI s = nI (p * 6 + s) := by rw [show (6 : Int32) = nI 6 from rfl, pk_mul, nI_add]
theorem a_6 (K : SK M k) (w : wf c) (A : SA M k c) {p s : Nat} (hp : p < c 0 3) (hs : s < c 0 1) : ldI M (k + 6) (nI p * (6 : Int32) + nI s) = some (nI (c 6 (p * 6 + s))) := by
  rw [ix_6, ld_ (by have := K.2.1; omega) K.2.2.1.2.2.2.2.2 (by have := w.2.2.2.1.2; have := w.2.1.2; omega) (by decide), A.2.2.2.2.2.2 p hp s hs]
end SQ
