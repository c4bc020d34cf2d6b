/-! ===== the law: every call of every script ===== -/
def inv_ (M : mM) : Prop := ∃ A, GS M ∧ CX A M ∧ CM A M
theorem inv_0 : inv_ M0 := ⟨A0, GS_0, CX_0, CM_0⟩
theorem inv_G {M : mM} (I : inv_ M) : GS M := I.choose_spec.1
theorem sP_ {M : mM} {ox : mM → Option Int32} {om : mM → Option (mM × Int32)} (h : ∀ A, bothP A ox om) (I : inv_ M) : ∃ M' r, ox M = some r ∧ om M = some (M', r) ∧ inv_ M' := by
  obtain ⟨A, G, X, Y⟩ := I
  obtain ⟨r, h1, h2⟩ := h A M G X
  obtain ⟨N, n1, n2, n3, n4⟩ := h2 M G Y
  exact ⟨N, r, h1, n1, A, n2, CX_lo X n4, n3⟩
theorem sB_ {M : mM} {ox om : mM → Option (mM × Int32)} (h : ∀ A, both A ox om) (I : inv_ M) : ∃ M1 M2 r, ox M = some (M1, r) ∧ GS M1 ∧ om M1 = some (M2, r) ∧ inv_ M2 := by
  obtain ⟨A, G, X, Y⟩ := I
  obtain ⟨A', r, ⟨N, n1, n2, n3, n4⟩, h2⟩ := h A M G X
  obtain ⟨K, k1, k2, k3, k4⟩ := h2 N n2 (CM_hi Y n4)
  exact ⟨N, K, r, n1, n2, k1, A', k2, CX_lo n3 k4, k3⟩
theorem sL_ {M : mM} {ox om : mM → Option (mM × Int64)} (h : ∀ A, bothL A ox om) (I : inv_ M) : ∃ M1 M2 r, ox M = some (M1, r) ∧ GS M1 ∧ om M1 = some (M2, r) ∧ inv_ M2 := by
  obtain ⟨A, G, X, Y⟩ := I
  obtain ⟨A', r, ⟨N, n1, n2, n3, n4⟩, h2⟩ := h A M G X
  obtain ⟨K, k1, k2, k3, k4⟩ := h2 N n2 (CM_hi Y n4)
  exact ⟨N, K, r, n1, n2, k1, A', k2, CX_lo n3 k4, k3⟩
theorem ite_ex {p : Prop} [Decidable p] {x y : Option mM} (hx : p → ∃ N, x = some N) (hy : ¬ p → ∃ N, y = some N) : ∃ N, (if p then x else y) = some N := by
  by_cases h : p
  · rw [if_pos h]
    exact hx h
  · rw [if_neg h]
    exact hy h
theorem ldx_ {Z : zZ} {j : Nat} (h : j < zL Z) (hL : zL Z ≤ 384) : ldX Z 2 (nI j) = some (zx Z j) := by
  unfold ldX
  rw [show xa Z 2 = some (zL Z, zx Z) from rfl]
  show (if inB (nI j) (zL Z) = true then some (zx Z (nI j).toNatClampNeg) else none) = _
  rw [inB_nI h (by omega), if_pos rfl, nI_clamp (by omega)]
theorem lc_rf (x : Int64) : lg_cmp x x = 0 := by
  unfold lg_cmp
  rw [if_neg (fun q => absurd (Int64.lt_iff_toInt_lt.mp q) (by omega)), if_pos rfl]
theorem law_c {L i : Nat} (hL : L ≤ 384) (hi : i ≤ 400) : (nI L - (6 : Int32) < nI i) ↔ L < i + 6 := by
  rw [Int32.lt_iff_toInt_lt, show (6 : Int32) = nI 6 from rfl, pk_sub_toInt (by omega) (by decide), nI_toInt (by omega)]
  omega
section LW
variable {M : mM} {Z : zZ} {t : Int32}
theorem lB0 (fx : mM → Nat → Option (mM × Int32)) (fm : mM → Nat → Option (mM × Int32)) (h : ∀ A, both A (fun M => fx M 0) (fun M => fm M 231)) (I : inv_ M) (rest : mM → Option mM) (hr : ∀ M2, inv_ M2 → ∃ N, rest M2 = some N) : ∃ N, (if isO M 0 6 = true then bd2 (fx M 0) (fun M1 r1 => if isO M1 231 7 = true then bd2 (fm M1 231) (fun M2 r2 => if r1 = r2 then rest M2 else none) else none) else none) = some N := by
  obtain ⟨M1, M2, r, e1, g1, e2, I2⟩ := sB_ (fun A => h A) I
  have e1' : fx M 0 = some (M1, r) := e1
  have e2' : fm M1 231 = some (M2, r) := e2
  rw [if_pos (O6 (inv_G I)), e1', bd2_s, if_pos (O7 g1), e2', bd2_s, if_pos rfl]
  exact hr M2 I2
theorem lB1 (fx : mM → Nat → Int32 → Option (mM × Int32)) (fm : mM → Nat → Int32 → Option (mM × Int32)) (h : ∀ A x1, both A (fun M => fx M 0 x1) (fun M => fm M 231 x1)) (I : inv_ M) {u1 : Int32} (a1 : ldX Z 2 (t + (1 : Int32)) = some u1) (rest : mM → Option mM) (hr : ∀ M2, inv_ M2 → ∃ N, rest M2 = some N) : ∃ N, ((ldX Z 2 (t + (1 : Int32))).bind fun x1 => if isO M 0 6 = true then bd2 (fx M 0 x1) (fun M1 r1 => (ldX Z 2 (t + (1 : Int32))).bind fun y1 => if isO M1 231 7 = true then bd2 (fm M1 231 y1) (fun M2 r2 => if r1 = r2 then rest M2 else none) else none) else none) = some N := by
  obtain ⟨M1, M2, r, e1, g1, e2, I2⟩ := sB_ (fun A => h A u1) I
  have e1' : fx M 0 u1 = some (M1, r) := e1
  have e2' : fm M1 231 u1 = some (M2, r) := e2
  rw [a1, Option.bind_some, if_pos (O6 (inv_G I)), e1', bd2_s, Option.bind_some, if_pos (O7 g1), e2', bd2_s, if_pos rfl]
  exact hr M2 I2
theorem lB2 (fx : mM → Nat → Int32 → Int32 → Option (mM × Int32)) (fm : mM → Nat → Int32 → Int32 → Option (mM × Int32)) (h : ∀ A x1 x2, both A (fun M => fx M 0 x1 x2) (fun M => fm M 231 x1 x2)) (I : inv_ M) {u1 u2 : Int32} (a1 : ldX Z 2 (t + (1 : Int32)) = some u1) (a2 : ldX Z 2 (t + (2 : Int32)) = some u2) (rest : mM → Option mM) (hr : ∀ M2, inv_ M2 → ∃ N, rest M2 = some N) : ∃ N, ((ldX Z 2 (t + (1 : Int32))).bind fun x1 => (ldX Z 2 (t + (2 : Int32))).bind fun x2 => if isO M 0 6 = true then bd2 (fx M 0 x1 x2) (fun M1 r1 => (ldX Z 2 (t + (1 : Int32))).bind fun y1 => (ldX Z 2 (t + (2 : Int32))).bind fun y2 => if isO M1 231 7 = true then bd2 (fm M1 231 y1 y2) (fun M2 r2 => if r1 = r2 then rest M2 else none) else none) else none) = some N := by
  obtain ⟨M1, M2, r, e1, g1, e2, I2⟩ := sB_ (fun A => h A u1 u2) I
  have e1' : fx M 0 u1 u2 = some (M1, r) := e1
  have e2' : fm M1 231 u1 u2 = some (M2, r) := e2
  rw [a1, Option.bind_some, a2, Option.bind_some, if_pos (O6 (inv_G I)), e1', bd2_s, Option.bind_some, Option.bind_some, if_pos (O7 g1), e2', bd2_s, if_pos rfl]
  exact hr M2 I2
theorem lB3 (fx : mM → Nat → Int32 → Int32 → Int32 → Option (mM × Int32)) (fm : mM → Nat → Int32 → Int32 → Int32 → Option (mM × Int32)) (h : ∀ A x1 x2 x3, both A (fun M => fx M 0 x1 x2 x3) (fun M => fm M 231 x1 x2 x3)) (I : inv_ M) {u1 u2 u3 : Int32} (a1 : ldX Z 2 (t + (1 : Int32)) = some u1) (a2 : ldX Z 2 (t + (2 : Int32)) = some u2) (a3 : ldX Z 2 (t + (3 : Int32)) = some u3) (rest : mM → Option mM) (hr : ∀ M2, inv_ M2 → ∃ N, rest M2 = some N) : ∃ N, ((ldX Z 2 (t + (1 : Int32))).bind fun x1 => (ldX Z 2 (t + (2 : Int32))).bind fun x2 => (ldX Z 2 (t + (3 : Int32))).bind fun x3 => if isO M 0 6 = true then bd2 (fx M 0 x1 x2 x3) (fun M1 r1 => (ldX Z 2 (t + (1 : Int32))).bind fun y1 => (ldX Z 2 (t + (2 : Int32))).bind fun y2 => (ldX Z 2 (t + (3 : Int32))).bind fun y3 => if isO M1 231 7 = true then bd2 (fm M1 231 y1 y2 y3) (fun M2 r2 => if r1 = r2 then rest M2 else none) else none) else none) = some N := by
  obtain ⟨M1, M2, r, e1, g1, e2, I2⟩ := sB_ (fun A => h A u1 u2 u3) I
  have e1' : fx M 0 u1 u2 u3 = some (M1, r) := e1
  have e2' : fm M1 231 u1 u2 u3 = some (M2, r) := e2
  rw [a1, Option.bind_some, a2, Option.bind_some, a3, Option.bind_some, if_pos (O6 (inv_G I)), e1', bd2_s, Option.bind_some, Option.bind_some, Option.bind_some, if_pos (O7 g1), e2', bd2_s, if_pos rfl]
  exact hr M2 I2
theorem lB5 (fx : mM → Nat → Int32 → Int32 → Int32 → Int32 → Int32 → Option (mM × Int32)) (fm : mM → Nat → Int32 → Int32 → Int32 → Int32 → Int32 → Option (mM × Int32)) (h : ∀ A x1 x2 x3 x4 x5, both A (fun M => fx M 0 x1 x2 x3 x4 x5) (fun M => fm M 231 x1 x2 x3 x4 x5)) (I : inv_ M) {u1 u2 u3 u4 u5 : Int32} (a1 : ldX Z 2 (t + (1 : Int32)) = some u1) (a2 : ldX Z 2 (t + (2 : Int32)) = some u2) (a3 : ldX Z 2 (t + (3 : Int32)) = some u3) (a4 : ldX Z 2 (t + (4 : Int32)) = some u4) (a5 : ldX Z 2 (t + (5 : Int32)) = some u5) (rest : mM → Option mM) (hr : ∀ M2, inv_ M2 → ∃ N, rest M2 = some N) : ∃ N, ((ldX Z 2 (t + (1 : Int32))).bind fun x1 => (ldX Z 2 (t + (2 : Int32))).bind fun x2 => (ldX Z 2 (t + (3 : Int32))).bind fun x3 => (ldX Z 2 (t + (4 : Int32))).bind fun x4 => (ldX Z 2 (t + (5 : Int32))).bind fun x5 => if isO M 0 6 = true then bd2 (fx M 0 x1 x2 x3 x4 x5) (fun M1 r1 => (ldX Z 2 (t + (1 : Int32))).bind fun y1 => (ldX Z 2 (t + (2 : Int32))).bind fun y2 => (ldX Z 2 (t + (3 : Int32))).bind fun y3 => (ldX Z 2 (t + (4 : Int32))).bind fun y4 => (ldX Z 2 (t + (5 : Int32))).bind fun y5 => if isO M1 231 7 = true then bd2 (fm M1 231 y1 y2 y3 y4 y5) (fun M2 r2 => if r1 = r2 then rest M2 else none) else none) else none) = some N := by
  obtain ⟨M1, M2, r, e1, g1, e2, I2⟩ := sB_ (fun A => h A u1 u2 u3 u4 u5) I
  have e1' : fx M 0 u1 u2 u3 u4 u5 = some (M1, r) := e1
  have e2' : fm M1 231 u1 u2 u3 u4 u5 = some (M2, r) := e2
  rw [a1, Option.bind_some, a2, Option.bind_some, a3, Option.bind_some, a4, Option.bind_some, a5, Option.bind_some, if_pos (O6 (inv_G I)), e1', bd2_s, Option.bind_some, Option.bind_some, Option.bind_some, Option.bind_some, Option.bind_some, if_pos (O7 g1), e2', bd2_s, if_pos rfl]
  exact hr M2 I2
theorem lL5 (fx : mM → Nat → Int32 → Int32 → Int32 → Int32 → Int32 → Option (mM × Int64)) (fm : mM → Nat → Int32 → Int32 → Int32 → Int32 → Int32 → Option (mM × Int64)) (h : ∀ A x1 x2 x3 x4 x5, bothL A (fun M => fx M 0 x1 x2 x3 x4 x5) (fun M => fm M 231 x1 x2 x3 x4 x5)) (I : inv_ M) {u1 u2 u3 u4 u5 : Int32} (a1 : ldX Z 2 (t + (1 : Int32)) = some u1) (a2 : ldX Z 2 (t + (2 : Int32)) = some u2) (a3 : ldX Z 2 (t + (3 : Int32)) = some u3) (a4 : ldX Z 2 (t + (4 : Int32)) = some u4) (a5 : ldX Z 2 (t + (5 : Int32)) = some u5) (rest : mM → Option mM) (hr : ∀ M2, inv_ M2 → ∃ N, rest M2 = some N) : ∃ N, ((ldX Z 2 (t + (1 : Int32))).bind fun x1 => (ldX Z 2 (t + (2 : Int32))).bind fun x2 => (ldX Z 2 (t + (3 : Int32))).bind fun x3 => (ldX Z 2 (t + (4 : Int32))).bind fun x4 => (ldX Z 2 (t + (5 : Int32))).bind fun x5 => if isO M 0 6 = true then bd2 (fx M 0 x1 x2 x3 x4 x5) (fun M1 r1 => (ldX Z 2 (t + (1 : Int32))).bind fun y1 => (ldX Z 2 (t + (2 : Int32))).bind fun y2 => (ldX Z 2 (t + (3 : Int32))).bind fun y3 => (ldX Z 2 (t + (4 : Int32))).bind fun y4 => (ldX Z 2 (t + (5 : Int32))).bind fun y5 => if isO M1 231 7 = true then bd2 (fm M1 231 y1 y2 y3 y4 y5) (fun M2 r2 => if lg_cmp r1 r2 = (0 : Int32) then rest M2 else none) else none) else none) = some N := by
  obtain ⟨M1, M2, r, e1, g1, e2, I2⟩ := sL_ (fun A => h A u1 u2 u3 u4 u5) I
  have e1' : fx M 0 u1 u2 u3 u4 u5 = some (M1, r) := e1
  have e2' : fm M1 231 u1 u2 u3 u4 u5 = some (M2, r) := e2
  rw [a1, Option.bind_some, a2, Option.bind_some, a3, Option.bind_some, a4, Option.bind_some, a5, Option.bind_some, if_pos (O6 (inv_G I)), e1', bd2_s, Option.bind_some, Option.bind_some, Option.bind_some, Option.bind_some, Option.bind_some, if_pos (O7 g1), e2', bd2_s, if_pos (lc_rf _)]
  exact hr M2 I2
theorem lP0 (fx : mM → Nat → Option Int32) (fm : mM → Nat → Option (mM × Int32)) (h : ∀ A, bothP A (fun M => fx M 0) (fun M => fm M 231)) (I : inv_ M) (rest : mM → Option mM) (hr : ∀ M2, inv_ M2 → ∃ N, rest M2 = some N) : ∃ N, (if isO M 0 6 = true then (fx M 0).bind fun r1 => if isO M 231 7 = true then bd2 (fm M 231) (fun M2 r2 => if r1 = r2 then rest M2 else none) else none else none) = some N := by
  obtain ⟨M2, r, e1, e2, I2⟩ := sP_ (fun A => h A) I
  have e1' : fx M 0 = some r := e1
  have e2' : fm M 231 = some (M2, r) := e2
  rw [if_pos (O6 (inv_G I)), e1', Option.bind_some, if_pos (O7 (inv_G I)), e2', bd2_s, if_pos rfl]
  exact hr M2 I2
theorem lP1 (fx : mM → Nat → Int32 → Option Int32) (fm : mM → Nat → Int32 → Option (mM × Int32)) (h : ∀ A x1, bothP A (fun M => fx M 0 x1) (fun M => fm M 231 x1)) (I : inv_ M) {u1 : Int32} (a1 : ldX Z 2 (t + (1 : Int32)) = some u1) (rest : mM → Option mM) (hr : ∀ M2, inv_ M2 → ∃ N, rest M2 = some N) : ∃ N, ((ldX Z 2 (t + (1 : Int32))).bind fun x1 => if isO M 0 6 = true then (fx M 0 x1).bind fun r1 => (ldX Z 2 (t + (1 : Int32))).bind fun y1 => if isO M 231 7 = true then bd2 (fm M 231 y1) (fun M2 r2 => if r1 = r2 then rest M2 else none) else none else none) = some N := by
  obtain ⟨M2, r, e1, e2, I2⟩ := sP_ (fun A => h A u1) I
  have e1' : fx M 0 u1 = some r := e1
  have e2' : fm M 231 u1 = some (M2, r) := e2
  rw [a1, Option.bind_some, if_pos (O6 (inv_G I)), e1', Option.bind_some, Option.bind_some, if_pos (O7 (inv_G I)), e2', bd2_s, if_pos rfl]
  exact hr M2 I2
theorem lP2 (fx : mM → Nat → Int32 → Int32 → Option Int32) (fm : mM → Nat → Int32 → Int32 → Option (mM × Int32)) (h : ∀ A x1 x2, bothP A (fun M => fx M 0 x1 x2) (fun M => fm M 231 x1 x2)) (I : inv_ M) {u1 u2 : Int32} (a1 : ldX Z 2 (t + (1 : Int32)) = some u1) (a2 : ldX Z 2 (t + (2 : Int32)) = some u2) (rest : mM → Option mM) (hr : ∀ M2, inv_ M2 → ∃ N, rest M2 = some N) : ∃ N, ((ldX Z 2 (t + (1 : Int32))).bind fun x1 => (ldX Z 2 (t + (2 : Int32))).bind fun x2 => if isO M 0 6 = true then (fx M 0 x1 x2).bind fun r1 => (ldX Z 2 (t + (1 : Int32))).bind fun y1 => (ldX Z 2 (t + (2 : Int32))).bind fun y2 => if isO M 231 7 = true then bd2 (fm M 231 y1 y2) (fun M2 r2 => if r1 = r2 then rest M2 else none) else none else none) = some N := by
  obtain ⟨M2, r, e1, e2, I2⟩ := sP_ (fun A => h A u1 u2) I
  have e1' : fx M 0 u1 u2 = some r := e1
  have e2' : fm M 231 u1 u2 = some (M2, r) := e2
  rw [a1, Option.bind_some, a2, Option.bind_some, if_pos (O6 (inv_G I)), e1', Option.bind_some, Option.bind_some, Option.bind_some, if_pos (O7 (inv_G I)), e2', bd2_s, if_pos rfl]
  exact hr M2 I2
theorem lP3 (fx : mM → Nat → Int32 → Int32 → Int32 → Option Int32) (fm : mM → Nat → Int32 → Int32 → Int32 → Option (mM × Int32)) (h : ∀ A x1 x2 x3, bothP A (fun M => fx M 0 x1 x2 x3) (fun M => fm M 231 x1 x2 x3)) (I : inv_ M) {u1 u2 u3 : Int32} (a1 : ldX Z 2 (t + (1 : Int32)) = some u1) (a2 : ldX Z 2 (t + (2 : Int32)) = some u2) (a3 : ldX Z 2 (t + (3 : Int32)) = some u3) (rest : mM → Option mM) (hr : ∀ M2, inv_ M2 → ∃ N, rest M2 = some N) : ∃ N, ((ldX Z 2 (t + (1 : Int32))).bind fun x1 => (ldX Z 2 (t + (2 : Int32))).bind fun x2 => (ldX Z 2 (t + (3 : Int32))).bind fun x3 => if isO M 0 6 = true then (fx M 0 x1 x2 x3).bind fun r1 => (ldX Z 2 (t + (1 : Int32))).bind fun y1 => (ldX Z 2 (t + (2 : Int32))).bind fun y2 => (ldX Z 2 (t + (3 : Int32))).bind fun y3 => if isO M 231 7 = true then bd2 (fm M 231 y1 y2 y3) (fun M2 r2 => if r1 = r2 then rest M2 else none) else none else none) = some N := by
  obtain ⟨M2, r, e1, e2, I2⟩ := sP_ (fun A => h A u1 u2 u3) I
  have e1' : fx M 0 u1 u2 u3 = some r := e1
  have e2' : fm M 231 u1 u2 u3 = some (M2, r) := e2
  rw [a1, Option.bind_some, a2, Option.bind_some, a3, Option.bind_some, if_pos (O6 (inv_G I)), e1', Option.bind_some, Option.bind_some, Option.bind_some, Option.bind_some, if_pos (O7 (inv_G I)), e2', bd2_s, if_pos rfl]
  exact hr M2 I2
end LW
set_option maxHeartbeats 8000000 in
set_option maxRecDepth 20000 in
theorem law_L (Z : zZ) (hL : zL Z ≤ 384) : ∀ (d i n : Nat) (M : mM), inv_ M → zL Z ≤ i + 6 * d → i ≤ 400 → d < n → ∃ N, m_L_law_L18 (fun N => some N) Z 0 231 n M (nI i) = some N := by
  intro d
  induction d with
  | zero =>
    intro i n M I hd hi hn
    obtain ⟨n, rfl⟩ : ∃ z, n = z + 1 := ⟨n - 1, by omega⟩
    exact ⟨M, by rw [m_L_law_L18, if_pos ((law_c hL hi).mpr (by omega))]⟩
  | succ d ih =>
    intro i n M I hd hi hn
    obtain ⟨n, rfl⟩ : ∃ z, n = z + 1 := ⟨n - 1, by omega⟩
    by_cases hc : zL Z < i + 6
    · exact ⟨M, by rw [m_L_law_L18, if_pos ((law_c hL hi).mpr hc)]⟩
    have a1 : ldX Z 2 (nI i + (1 : Int32)) = some (zx Z (i + 1)) := by
      rw [show nI i + (1 : Int32) = nI (i + 1) from nI_add i 1]
      exact ldx_ (by omega) hL
    have a2 : ldX Z 2 (nI i + (2 : Int32)) = some (zx Z (i + 2)) := by
      rw [show nI i + (2 : Int32) = nI (i + 2) from nI_add i 2]
      exact ldx_ (by omega) hL
    have a3 : ldX Z 2 (nI i + (3 : Int32)) = some (zx Z (i + 3)) := by
      rw [show nI i + (3 : Int32) = nI (i + 3) from nI_add i 3]
      exact ldx_ (by omega) hL
    have a4 : ldX Z 2 (nI i + (4 : Int32)) = some (zx Z (i + 4)) := by
      rw [show nI i + (4 : Int32) = nI (i + 4) from nI_add i 4]
      exact ldx_ (by omega) hL
    have a5 : ldX Z 2 (nI i + (5 : Int32)) = some (zx Z (i + 5)) := by
      rw [show nI i + (5 : Int32) = nI (i + 5) from nI_add i 5]
      exact ldx_ (by omega) hL
    have hr : ∀ M2, inv_ M2 → ∃ N, (fun M2 => m_L_law_L18 (fun N => some N) Z 0 231 n M2 (nI i + (6 : Int32))) M2 = some N := fun M2 I2 => by
      show ∃ N, m_L_law_L18 (fun N => some N) Z 0 231 n M2 (nI i + (6 : Int32)) = some N
      rw [show nI i + (6 : Int32) = nI (i + 6) from nI_add i 6]
      exact ih (i + 6) n M2 I2 (by omega) (by omega) (by omega)
    rw [m_L_law_L18, if_neg (fun q => hc ((law_c hL hi).mp q)), ldx_ (by omega) hL, Option.bind_some]
    refine ite_ex (fun _ => lB3 m_X6_row m_X7_row (fun A x1 x2 x3 => o_row A x1 x2 x3) I a1 a2 a3 _ hr) (fun _ => ?_)
    refine ite_ex (fun _ => lB3 m_X6_set m_X7_set (fun A x1 x2 x3 => o_set A x1 x2 x3) I a1 a2 a3 _ hr) (fun _ => ?_)
    refine ite_ex (fun _ => lB5 m_X6_copy m_X7_copy (fun A x1 x2 x3 x4 x5 => o_copy A x1 x2 x3 x4 x5) I a1 a2 a3 a4 a5 _ hr) (fun _ => ?_)
    refine ite_ex (fun _ => lB1 m_X6_drop m_X7_drop (fun A x1 => o_drop A x1) I a1 _ hr) (fun _ => ?_)
    refine ite_ex (fun _ => lB1 m_X6_feed m_X7_feed (fun A x1 => o_feed A x1) I a1 _ hr) (fun _ => ?_)
    refine ite_ex (fun _ => lB0 m_X6_school m_X7_school (fun A => o_school A) I _ hr) (fun _ => ?_)
    refine ite_ex (fun _ => lP0 m_X6_fault m_X7_fault (fun A => o_fault A) I _ hr) (fun _ => ?_)
    refine ite_ex (fun _ => lB0 m_X6_undo m_X7_undo (fun A => o_undo A) I _ hr) (fun _ => ?_)
    refine ite_ex (fun _ => lB1 m_X6_days m_X7_days (fun A x1 => o_days A x1) I a1 _ hr) (fun _ => ?_)
    refine ite_ex (fun _ => lB2 m_X6_change m_X7_change (fun A x1 x2 => o_change A x1 x2) I a1 a2 _ hr) (fun _ => ?_)
    refine ite_ex (fun _ => lB2 m_X6_teach m_X7_teach (fun A x1 x2 => o_teach A x1 x2) I a1 a2 _ hr) (fun _ => ?_)
    refine ite_ex (fun _ => lB2 m_X6_forget m_X7_forget (fun A x1 x2 => o_forget A x1 x2) I a1 a2 _ hr) (fun _ => ?_)
    refine ite_ex (fun _ => lB2 m_X6_tell m_X7_tell (fun A x1 x2 => o_tell A x1 x2) I a1 a2 _ hr) (fun _ => ?_)
    refine ite_ex (fun _ => lP2 m_X6_pupil m_X7_pupil (fun A x1 x2 => o_pupil A x1 x2) I a1 a2 _ hr) (fun _ => ?_)
    refine ite_ex (fun _ => lP2 m_X6_heard m_X7_heard (fun A x1 x2 => o_heard A x1 x2) I a1 a2 _ hr) (fun _ => ?_)
    refine ite_ex (fun _ => lP1 m_X6_subject m_X7_subject (fun A x1 => o_subject A x1) I a1 _ hr) (fun _ => ?_)
    refine ite_ex (fun _ => lP1 m_X6_lesson m_X7_lesson (fun A x1 => o_lesson A x1) I a1 _ hr) (fun _ => ?_)
    refine ite_ex (fun _ => lB3 m_X6_ahead m_X7_ahead (fun A x1 x2 x3 => o_ahead A x1 x2 x3) I a1 a2 a3 _ hr) (fun _ => ?_)
    refine ite_ex (fun _ => lB2 m_X6_when m_X7_when (fun A x1 x2 => o_when A x1 x2) I a1 a2 _ hr) (fun _ => ?_)
    refine ite_ex (fun _ => lP1 m_X6_all m_X7_all (fun A x1 => o_all A x1) I a1 _ hr) (fun _ => ?_)
    refine ite_ex (fun _ => lP1 m_X6_follows m_X7_follows (fun A x1 => o_follows A x1) I a1 _ hr) (fun _ => ?_)
    refine ite_ex (fun _ => lP2 m_X6_lacks m_X7_lacks (fun A x1 x2 => o_lacks A x1 x2) I a1 a2 _ hr) (fun _ => ?_)
    refine ite_ex (fun _ => lP3 m_X6_shortest m_X7_shortest (fun A x1 x2 x3 => o_shortest A x1 x2 x3) I a1 a2 a3 _ hr) (fun _ => ?_)
    refine ite_ex (fun _ => lB2 m_X6_seating m_X7_seating (fun A x1 x2 => o_seating A x1 x2) I a1 a2 _ hr) (fun _ => ?_)
    refine ite_ex (fun _ => lB2 m_X6_table m_X7_table (fun A x1 x2 => o_table A x1 x2) I a1 a2 _ hr) (fun _ => ?_)
    refine ite_ex (fun _ => lP1 m_X6_questions m_X7_questions (fun A x1 => o_questions A x1) I a1 _ hr) (fun _ => ?_)
    refine ite_ex (fun _ => lP1 m_X6_top m_X7_top (fun A x1 => o_top A x1) I a1 _ hr) (fun _ => ?_)
    refine ite_ex (fun _ => lP1 m_X6_fellows m_X7_fellows (fun A x1 => o_fellows A x1) I a1 _ hr) (fun _ => ?_)
    refine ite_ex (fun _ => lB5 m_X6_who m_X7_who (fun A x1 x2 x3 x4 x5 => o_who A x1 x2 x3 x4 x5) I a1 a2 a3 a4 a5 _ hr) (fun _ => ?_)
    refine ite_ex (fun _ => lB5 m_X6_what m_X7_what (fun A x1 x2 x3 x4 x5 => o_what A x1 x2 x3 x4 x5) I a1 a2 a3 a4 a5 _ hr) (fun _ => ?_)
    refine ite_ex (fun _ => lL5 m_X6_thought m_X7_thought (fun A x1 x2 x3 x4 x5 => o_thought A x1 x2 x3 x4 x5) I a1 a2 a3 a4 a5 _ hr) (fun _ => ?_)
    refine ite_ex (fun _ => lB3 m_X6_drawn m_X7_drawn (fun A x1 x2 x3 => o_drawn A x1 x2 x3) I a1 a2 a3 _ hr) (fun _ => ?_)
    refine ite_ex (fun _ => lB1 m_X6_image m_X7_image (fun A x1 => o_image A x1) I a1 _ hr) (fun _ => ?_)
    refine ite_ex (fun _ => lB1 m_X6_restore m_X7_restore (fun A x1 => o_restore A x1) I a1 _ hr) (fun _ => ?_)
    refine ite_ex (fun _ => lP1 m_X6_kind m_X7_kind (fun A x1 => o_kind A x1) I a1 _ hr) (fun _ => ?_)
    refine ite_ex (fun _ => lB2 m_X6_as m_X7_as (fun A x1 x2 => o_as A x1 x2) I a1 a2 _ hr) (fun _ => ?_)
    refine ite_ex (fun _ => lB2 m_X6_ask m_X7_ask (fun A x1 x2 => o_ask A x1 x2) I a1 a2 _ hr) (fun _ => ?_)
    refine ite_ex (fun _ => lP1 m_X6_trace m_X7_trace (fun A x1 => o_trace A x1) I a1 _ hr) (fun _ => ?_)
    refine ite_ex (fun _ => lP1 m_X6_count m_X7_count (fun A x1 => o_count A x1) I a1 _ hr) (fun _ => ?_)
    refine ite_ex (fun _ => lP0 m_X6_status m_X7_status (fun A => o_status A) I _ hr) (fun _ => ?_)
    exact hr M I
theorem law_ok (Z : zZ) (hL : zL Z ≤ 384) : ∃ N : mM, m_L_law_L18 (fun N => some N) Z 0 231 FU M0 0 = some N := law_L Z hL 64 0 FU M0 inv_0 (by omega) (by decide) (by unfold FU; omega)
