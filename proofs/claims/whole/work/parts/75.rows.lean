/-! ===== calls that change the state: the frame; as, rows, feed ===== -/
def sN (A : aS) (c : sT) : aS := (c, A.2)
def sI (A : aS) (g : Nat → sT) : aS := (A.1, g, A.2.2)
def sK (A : aS) (k : Nat × (Nat → sT)) : aS := (A.1, A.2.1, k, A.2.2.2)
def sR (A : aS) (x : (Nat → Nat) × (Nat → Nat) × (Nat → Nat → Int32)) : aS := (A.1, A.2.1, A.2.2.1, x, A.2.2.2.2)
def sT' (A : aS) (x : (Nat → Nat) × Nat) : aS := (A.1, A.2.1, A.2.2.1, A.2.2.2.1, x, A.2.2.2.2.2)
def sF (A : aS) (x : Nat) : aS := (A.1, A.2.1, A.2.2.1, A.2.2.2.1, A.2.2.2.2.1, x, A.2.2.2.2.2.2)
def sB (A : aS) (x : (Nat → Nat) × Nat) : aS := (A.1, A.2.1, A.2.2.1, A.2.2.2.1, A.2.2.2.2.1, A.2.2.2.2.2.1, x, A.2.2.2.2.2.2.2)
def sU (A : aS) (u : Nat) : aS := (A.1, A.2.1, A.2.2.1, A.2.2.2.1, A.2.2.2.2.1, A.2.2.2.2.2.1, A.2.2.2.2.2.2.1, u)
def both (A : aS) (ox om : mM → Option (mM × Int32)) : Prop := ∀ M, GS M → CX A M → ∃ A' r, opX (ox M) M A' r ∧ ∀ M', GS M' → CM A M' → opM (om M') M' A' r
def up1 {α : Type} (f : Nat → α) (r : Nat) (v : α) : Nat → α := fun q => if q = r then v else f q
theorem up1_s {α : Type} {f : Nat → α} {r : Nat} {v : α} : up1 f r v r = v := by simp [up1]
theorem up1_o {α : Type} {f : Nat → α} {r q : Nat} {v : α} (h : q ≠ r) : up1 f r v q = f q := by simp [up1, h]
theorem bd2_s {α β γ : Type} (a : α) (b : β) (f : α → β → Option γ) : bd2 (some (a, b)) f = f a b := rfl
section FR
variable {M N : mM} {A A' : aS} {r : Int32}
theorem px (G : GS N) (h : CX A N) (e : hi_ M N) : opX (some (N, r)) M A r := ⟨N, rfl, G, h, e⟩
theorem pm (G : GS N) (h : CM A N) (e : lo_ M N) : opM (some (N, r)) M A r := ⟨N, rfl, G, h, e⟩
theorem px0 (G : GS M) (h : CX A M) : opX (some (M, r)) M A r := ⟨M, rfl, G, h, hi_r⟩
theorem pm0 (G : GS M) (h : CM A M) : opM (some (M, r)) M A r := ⟨M, rfl, G, h, lo_r⟩
theorem opX_t {o : Option (mM × Int32)} (e : hi_ M N) (h : opX o N A r) : opX o M A r := by
  obtain ⟨K, h1, h2, h3, h4⟩ := h
  exact ⟨K, h1, h2, h3, fun b hb => (h4 b hb).trans (e b hb)⟩
theorem opM_t {o : Option (mM × Int32)} (e : lo_ M N) (h : opM o N A r) : opM o M A r := by
  obtain ⟨K, h1, h2, h3, h4⟩ := h
  exact ⟨K, h1, h2, h3, fun b hb => (h4 b hb).trans (e b hb)⟩
theorem q2 (G : GS M) (h : CM A M) {g : mM → Option (mM × Int32)} (e : ∀ M1, GS M1 → CM A M1 → opM (g M1) M1 A' r) : opM ((pI M 231 7 0 (0 : Int32)).bind g) M A' r := by
  rw [thr G]
  exact opM_t thr_l (e _ (thr_G G) (thr_M h))
theorem CXu (h : CX A M) (u : Nat) : CX (sU A u) (wI M 0 7 (nI u)) := by
  obtain ⟨h1, h2, h3, h4, h5, h6, h7, h8⟩ := h
  have o : ∀ b, b ≠ 0 → mi_ (wI M 0 7 (nI u)) b = mi_ M b := fun b hb => wI_o hb
  exact ⟨h1.o (fun b _ _ => o b (by omega)), h2.o (fun b _ _ => o b (by omega)), h3.o (by rw [o 10 (by decide)]) (by rw [o 10 (by decide)]) (fun b _ _ => o b (by omega)), h4.o (fun b _ _ => o b (by omega)), h5.o (by rw [o 180 (by decide)]) (o 181 (by decide)), h6.o (by rw [o 180 (by decide)]), h7.o (by rw [o 199 (by decide)]) (o 200 (by decide)), by show mi_ (wI M 0 7 (nI u)) 0 7 = _; rw [wI_s, if_pos rfl]; rfl⟩
theorem CMu (h : CM A M) (u : Nat) : CM (sU A u) (wI M 231 1 (nI u)) := by
  obtain ⟨h1, h2, h3, h4, h5, h6, h7, h8⟩ := h
  have o : ∀ b, b ≠ 231 → mi_ (wI M 231 1 (nI u)) b = mi_ M b := fun b hb => wI_o hb
  have f : ∀ q, q ≠ 1 → mi_ (wI M 231 1 (nI u)) 231 q = mi_ M 231 q := fun q hq => by rw [wI_s, if_neg hq]
  exact ⟨h1.o (o _ (by decide)), h2.o (o _ (by decide)) (o _ (by decide)), h3.o (f _ (by decide)) (o _ (by decide)), h4.o (o _ (by decide)) (o _ (by decide)) (o _ (by decide)), h5.o (f _ (by decide)) (o _ (by decide)), h6.o (f _ (by decide)), h7.o (f _ (by decide)) (o _ (by decide)), by show mi_ (wI M 231 1 (nI u)) 231 1 = _; rw [wI_s, if_pos rfl]; rfl⟩
theorem hi_w {a j : Nat} {v : Int32} (ha : a < 231) : hi_ M (wI M a j v) := fun b hb => wI_o (by omega)
theorem lo_w {a j : Nat} {v : Int32} (ha : 231 ≤ a) : lo_ M (wI M a j v) := fun b hb => wI_o (by omega)
theorem hi_t {K : mM} (h : hi_ M N) (g : hi_ N K) : hi_ M K := fun b hb => (g b hb).trans (h b hb)
theorem lo_t {K : mM} (h : lo_ M N) (g : lo_ N K) : lo_ M K := fun b hb => (g b hb).trans (h b hb)
theorem GS_w (G : GS M) {a j : Nat} {v : Int32} : GS (wI M a j v) := G.sh (sh_w _ _ _ _)
theorem q3 (G : GS M) (h : CM A M) {g : mM → Option (mM × Int32)} (e : ∀ M1, GS M1 → CM (sU A 0) M1 → opM (g M1) M1 A' r) : opM ((pI M 231 7 1 (0 : Int32)).bind g) M A' r := by
  rw [pI_ (O7 G), Option.bind_some]
  exact opM_t (lo_w (by decide)) (e _ (GS_w G) (CMu h 0))
theorem fnd7 (G : GS M) (h : CM A M) (k : Nat) : opM (if isO M 231 7 = true then bd2 (m_X7_finding M 231 (nI k)) (fun a b => some (a, b)) else none) M (sU A k) (-1000010 - nI k) := by
  rw [if_pos (O7 G), m_X7_finding, pI_ (O7 G), Option.bind_some, bd2_s]
  exact pm (GS_w G) (CMu h k) (lo_w (by decide))
theorem fnd6 (G : GS M) (h : CX A M) (k : Nat) : opX (if isO M 0 6 = true then bd2 (m_X6_found M 0 (nI k)) (fun a b => some (a, b)) else none) M (sU A k) (-1000010 - nI k) := by
  rw [if_pos (O6 G), m_X6_found, pI_ (O6 G), Option.bind_some, bd2_s]
  exact px (GS_w G) (CXu h k) (hi_w (by decide))
theorem fin6 (G : GS M) (h : CX A M) (v : Int32) : opX (if isO M 0 6 = true then bd2 (m_X6_fine M 0 v) (fun a b => some (a, b)) else none) M (sU A 0) v := by
  rw [if_pos (O6 G), m_X6_fine, pI_ (O6 G), Option.bind_some, bd2_s]
  exact px (GS_w G) (CXu h 0) (hi_w (by decide))
/-! one part of the state anew -/
theorem CXn {c : sT} (h : CX A M) (e : ∀ b, b < 231 → (b < 2 ∨ 8 < b) → mi_ N b = mi_ M b) (hn : Cn N c) : CX (sN A c) N := by
  obtain ⟨h1, h2, h3, h4, h5, h6, h7, h8⟩ := h
  exact ⟨hn, h2.o (fun b _ _ => e b (by omega) (by omega)), h3.o (by rw [e 10 (by decide) (by decide)]) (by rw [e 10 (by decide) (by decide)]) (fun b _ _ => e b (by omega) (by omega)), h4.o (fun b _ _ => e b (by omega) (by omega)), h5.o (by rw [e 180 (by decide) (by decide)]) (e 181 (by decide) (by decide)), h6.o (by rw [e 180 (by decide) (by decide)]), h7.o (by rw [e 199 (by decide) (by decide)]) (e 200 (by decide) (by decide)), h8.o (by rw [e 0 (by decide) (by decide)])⟩
theorem CXi {g : Nat → sT} (h : CX A M) (e : ∀ b, b < 217 → mi_ N b = mi_ M b) (hi : Ci N g) : CX (sI A g) N := by
  obtain ⟨h1, h2, h3, h4, h5, h6, h7, h8⟩ := h
  exact ⟨h1.o (fun b _ _ => e b (by omega)), hi, h3.o (by rw [e 10 (by decide)]) (by rw [e 10 (by decide)]) (fun b _ _ => e b (by omega)), h4.o (fun b _ _ => e b (by omega)), h5.o (by rw [e 180 (by decide)]) (e 181 (by decide)), h6.o (by rw [e 180 (by decide)]), h7.o (by rw [e 199 (by decide)]) (e 200 (by decide)), h8.o (by rw [e 0 (by decide)])⟩
theorem CXa {k : Nat × (Nat → sT)} (h : CX A M) (e : ∀ b, b < 231 → (b < 10 ∨ 179 < b) → mi_ N b = mi_ M b) (ha : Ca N k.1 k.2) : CX (sK A k) N := by
  obtain ⟨h1, h2, h3, h4, h5, h6, h7, h8⟩ := h
  exact ⟨h1.o (fun b _ _ => e b (by omega) (by omega)), h2.o (fun b _ _ => e b (by omega) (by omega)), ha, h4.o (fun b _ _ => e b (by omega) (by omega)), h5.o (by rw [e 180 (by decide) (by decide)]) (e 181 (by decide) (by decide)), h6.o (by rw [e 180 (by decide) (by decide)]), h7.o (by rw [e 199 (by decide) (by decide)]) (e 200 (by decide) (by decide)), h8.o (by rw [e 0 (by decide) (by decide)])⟩
theorem CXr {x : (Nat → Nat) × (Nat → Nat) × (Nat → Nat → Int32)} (h : CX A M) (e : ∀ b, b < 231 → (b < 201 ∨ 216 < b) → mi_ N b = mi_ M b) (hr : Cr N x.1 x.2.1 x.2.2) : CX (sR A x) N := by
  obtain ⟨h1, h2, h3, h4, h5, h6, h7, h8⟩ := h
  exact ⟨h1.o (fun b _ _ => e b (by omega) (by omega)), h2.o (fun b _ _ => e b (by omega) (by omega)), h3.o (by rw [e 10 (by decide) (by decide)]) (by rw [e 10 (by decide) (by decide)]) (fun b _ _ => e b (by omega) (by omega)), hr, h5.o (by rw [e 180 (by decide) (by decide)]) (e 181 (by decide) (by decide)), h6.o (by rw [e 180 (by decide) (by decide)]), h7.o (by rw [e 199 (by decide) (by decide)]) (e 200 (by decide) (by decide)), h8.o (by rw [e 0 (by decide) (by decide)])⟩
theorem CXt {x : (Nat → Nat) × Nat} {f : Nat} (h : CX A M) (e : ∀ b, b < 231 → (b < 180 ∨ 188 < b) → mi_ N b = mi_ M b) (ht : Ct N x.1 x.2) (hf : Cf N f) : CX (sF (sT' A x) f) N := by
  obtain ⟨h1, h2, h3, h4, h5, h6, h7, h8⟩ := h
  exact ⟨h1.o (fun b _ _ => e b (by omega) (by omega)), h2.o (fun b _ _ => e b (by omega) (by omega)), h3.o (by rw [e 10 (by decide) (by decide)]) (by rw [e 10 (by decide) (by decide)]) (fun b _ _ => e b (by omega) (by omega)), h4.o (fun b _ _ => e b (by omega) (by omega)), ht, hf, h7.o (by rw [e 199 (by decide) (by decide)]) (e 200 (by decide) (by decide)), h8.o (by rw [e 0 (by decide) (by decide)])⟩
theorem CXb {x : (Nat → Nat) × Nat} (h : CX A M) (e : ∀ b, b < 231 → (b < 199 ∨ 200 < b) → mi_ N b = mi_ M b) (hb : Cb N x.1 x.2) : CX (sB A x) N := by
  obtain ⟨h1, h2, h3, h4, h5, h6, h7, h8⟩ := h
  exact ⟨h1.o (fun b _ _ => e b (by omega) (by omega)), h2.o (fun b _ _ => e b (by omega) (by omega)), h3.o (by rw [e 10 (by decide) (by decide)]) (by rw [e 10 (by decide) (by decide)]) (fun b _ _ => e b (by omega) (by omega)), h4.o (fun b _ _ => e b (by omega) (by omega)), h5.o (by rw [e 180 (by decide) (by decide)]) (e 181 (by decide) (by decide)), h6.o (by rw [e 180 (by decide) (by decide)]), hb, h8.o (by rw [e 0 (by decide) (by decide)])⟩
/-- what is only thought of -/
theorem CXw (h : CX A M) (e : ∀ b, b < 231 → (b < 189 ∨ 198 < b) → mi_ N b = mi_ M b) : CX A N := by
  obtain ⟨h1, h2, h3, h4, h5, h6, h7, h8⟩ := h
  exact ⟨h1.o (fun b _ _ => e b (by omega) (by omega)), h2.o (fun b _ _ => e b (by omega) (by omega)), h3.o (by rw [e 10 (by decide) (by decide)]) (by rw [e 10 (by decide) (by decide)]) (fun b _ _ => e b (by omega) (by omega)), h4.o (fun b _ _ => e b (by omega) (by omega)), h5.o (by rw [e 180 (by decide) (by decide)]) (e 181 (by decide) (by decide)), h6.o (by rw [e 180 (by decide) (by decide)]), h7.o (by rw [e 199 (by decide) (by decide)]) (e 200 (by decide) (by decide)), h8.o (by rw [e 0 (by decide) (by decide)])⟩
theorem CMn {c : sT} (h : CM A M) (e : ∀ b, 231 ≤ b → b ≠ 235 → b ≠ 240 → mi_ N b = mi_ M b) (hn : Dn N c) : CM (sN A c) N := by
  obtain ⟨h1, h2, h3, h4, h5, h6, h7, h8⟩ := h
  have f : mi_ N 231 = mi_ M 231 := e _ (by decide) (by decide) (by decide)
  exact ⟨hn, h2.o (e _ (by decide) (by decide) (by decide)) (e _ (by decide) (by decide) (by decide)), h3.o (by rw [f]) (e _ (by decide) (by decide) (by decide)), h4.o (e _ (by decide) (by decide) (by decide)) (e _ (by decide) (by decide) (by decide)) (e _ (by decide) (by decide) (by decide)), h5.o (by rw [f]) (e _ (by decide) (by decide) (by decide)), h6.o (by rw [f]), h7.o (by rw [f]) (e _ (by decide) (by decide) (by decide)), h8.o (by rw [f])⟩
theorem CMi {g : Nat → sT} (h : CM A M) (e : ∀ b, 231 ≤ b → b ≠ 243 → b ≠ 244 → mi_ N b = mi_ M b) (hi : Di N g) : CM (sI A g) N := by
  obtain ⟨h1, h2, h3, h4, h5, h6, h7, h8⟩ := h
  have f : mi_ N 231 = mi_ M 231 := e _ (by decide) (by decide) (by decide)
  exact ⟨h1.o (e _ (by decide) (by decide) (by decide)), hi, h3.o (by rw [f]) (e _ (by decide) (by decide) (by decide)), h4.o (e _ (by decide) (by decide) (by decide)) (e _ (by decide) (by decide) (by decide)) (e _ (by decide) (by decide) (by decide)), h5.o (by rw [f]) (e _ (by decide) (by decide) (by decide)), h6.o (by rw [f]), h7.o (by rw [f]) (e _ (by decide) (by decide) (by decide)), h8.o (by rw [f])⟩
theorem CMa {k : Nat × (Nat → sT)} (h : CM A M) (e : ∀ b, 231 ≤ b → b ≠ 231 → b ≠ 238 → mi_ N b = mi_ M b) (f : ∀ q, q ≠ 9 → mi_ N 231 q = mi_ M 231 q) (ha : Da N k.1 k.2) : CM (sK A k) N := by
  obtain ⟨h1, h2, h3, h4, h5, h6, h7, h8⟩ := h
  exact ⟨h1.o (e _ (by decide) (by decide) (by decide)), h2.o (e _ (by decide) (by decide) (by decide)) (e _ (by decide) (by decide) (by decide)), ha, h4.o (e _ (by decide) (by decide) (by decide)) (e _ (by decide) (by decide) (by decide)) (e _ (by decide) (by decide) (by decide)), h5.o (f _ (by decide)) (e _ (by decide) (by decide) (by decide)), h6.o (f _ (by decide)), h7.o (f _ (by decide)) (e _ (by decide) (by decide) (by decide)), h8.o (f _ (by decide))⟩
theorem CMr {x : (Nat → Nat) × (Nat → Nat) × (Nat → Nat → Int32)} (h : CM A M) (e : ∀ b, 231 ≤ b → b ≠ 232 → b ≠ 233 → b ≠ 234 → mi_ N b = mi_ M b) (hr : Dr N x.1 x.2.1 x.2.2) : CM (sR A x) N := by
  obtain ⟨h1, h2, h3, h4, h5, h6, h7, h8⟩ := h
  have f : mi_ N 231 = mi_ M 231 := e _ (by decide) (by decide) (by decide) (by decide)
  exact ⟨h1.o (e _ (by decide) (by decide) (by decide) (by decide)), h2.o (e _ (by decide) (by decide) (by decide) (by decide)) (e _ (by decide) (by decide) (by decide) (by decide)), h3.o (by rw [f]) (e _ (by decide) (by decide) (by decide) (by decide)), hr, h5.o (by rw [f]) (e _ (by decide) (by decide) (by decide) (by decide)), h6.o (by rw [f]), h7.o (by rw [f]) (e _ (by decide) (by decide) (by decide) (by decide)), h8.o (by rw [f])⟩
theorem CMt {x : (Nat → Nat) × Nat} {f : Nat} (h : CM A M) (e : ∀ b, 231 ≤ b → b ≠ 231 → b ≠ 239 → b ≠ 236 → mi_ N b = mi_ M b) (g1 : mi_ N 231 1 = mi_ M 231 1) (g9 : mi_ N 231 9 = mi_ M 231 9) (g25 : mi_ N 231 25 = mi_ M 231 25) (ht : Dt N x.1 x.2) (hf : Df N f) : CM (sF (sT' A x) f) N := by
  obtain ⟨h1, h2, h3, h4, h5, h6, h7, h8⟩ := h
  exact ⟨h1.o (e _ (by decide) (by decide) (by decide) (by decide)), h2.o (e _ (by decide) (by decide) (by decide) (by decide)) (e _ (by decide) (by decide) (by decide) (by decide)), h3.o g9 (e _ (by decide) (by decide) (by decide) (by decide)), h4.o (e _ (by decide) (by decide) (by decide) (by decide)) (e _ (by decide) (by decide) (by decide) (by decide)) (e _ (by decide) (by decide) (by decide) (by decide)), ht, hf, h7.o g25 (e _ (by decide) (by decide) (by decide) (by decide)), h8.o g1⟩
theorem CMb {x : (Nat → Nat) × Nat} (h : CM A M) (e : ∀ b, 231 ≤ b → b ≠ 231 → b ≠ 245 → mi_ N b = mi_ M b) (f : ∀ q, q ≠ 25 → mi_ N 231 q = mi_ M 231 q) (hb : Db N x.1 x.2) : CM (sB A x) N := by
  obtain ⟨h1, h2, h3, h4, h5, h6, h7, h8⟩ := h
  exact ⟨h1.o (e _ (by decide) (by decide) (by decide)), h2.o (e _ (by decide) (by decide) (by decide)) (e _ (by decide) (by decide) (by decide)), h3.o (f _ (by decide)) (e _ (by decide) (by decide) (by decide)), h4.o (e _ (by decide) (by decide) (by decide)) (e _ (by decide) (by decide) (by decide)) (e _ (by decide) (by decide) (by decide)), h5.o (f _ (by decide)) (e _ (by decide) (by decide) (by decide)), h6.o (f _ (by decide)), hb, h8.o (f _ (by decide))⟩
theorem CMw (h : CM A M) (e : ∀ b, 231 ≤ b → b ≠ 237 → b ≠ 240 → b ≠ 241 → b ≠ 242 → mi_ N b = mi_ M b) : CM A N := by
  obtain ⟨h1, h2, h3, h4, h5, h6, h7, h8⟩ := h
  have d : ∀ b, 231 ≤ b → b ≠ 237 → b ≠ 240 → b ≠ 241 → b ≠ 242 → mi_ N b = mi_ M b := e
  have f : mi_ N 231 = mi_ M 231 := e _ (by decide) (by decide) (by decide) (by decide) (by decide)
  exact ⟨h1.o (e _ (by decide) (by decide) (by decide) (by decide) (by decide)), h2.o (e _ (by decide) (by decide) (by decide) (by decide) (by decide)) (e _ (by decide) (by decide) (by decide) (by decide) (by decide)), h3.o (by rw [f]) (e _ (by decide) (by decide) (by decide) (by decide) (by decide)), h4.o (e _ (by decide) (by decide) (by decide) (by decide) (by decide)) (e _ (by decide) (by decide) (by decide) (by decide) (by decide)) (e _ (by decide) (by decide) (by decide) (by decide) (by decide)), h5.o (by rw [f]) (e _ (by decide) (by decide) (by decide) (by decide) (by decide)), h6.o (by rw [f]), h7.o (by rw [f]) (e _ (by decide) (by decide) (by decide) (by decide) (by decide)), h8.o (by rw [f])⟩
/-! rows -/
theorem m_noR (M : mM) (x : Int32) : m_X6_noRow M x = some (b2 (!rg x 0 7)) := by
  rw [m_X6_noRow, m_out, Option.bind_some, if_pos (b2_01 _)]
  rfl
theorem m_isR (M : mM) (x : Int32) : m_X7_isRow M x = some (b2 (rg x 0 7)) := by
  rw [m_X7_isRow, m_in7, Option.bind_some, if_pos (b2_01 _)]
  rfl
theorem rowR (G : GS M) {k : Nat} (hk : k < 8) : ldR M 1 3 (nI k) = some (201 + 2 * k) := ldR_ (by rw [G.1]; decide) (G.k (by decide) (by decide +kernel) : mk_ M 1 = (3, 8)) hk (by decide) (G.r (sk_row k hk).2.2.2)
theorem rowO (G : GS M) {k : Nat} (hk : k < 8) : isO M (201 + 2 * k) 4 = true := G.o (by omega) (sk_row k hk).1
theorem rowI (G : GS M) {k : Nat} (hk : k < 8) : gR M (201 + 2 * k) 4 0 = some (202 + 2 * k) := gR_ (rowO G hk) (G.r (sk_row k hk).2.2.1)
theorem rowA (G : GS M) {k : Nat} (hk : k < 8) : 202 + 2 * k < mz M ∧ mk_ M (202 + 2 * k) = (1, 40) := G.a (by omega) (sk_row k hk).2.1
theorem R7l (G : GS M) : gR M 231 7 2 = some 232 := gR_ (O7 G) (G.r (by decide +kernel))
theorem R7m (G : GS M) : gR M 231 7 3 = some 233 := gR_ (O7 G) (G.r (by decide +kernel))
theorem R7e (G : GS M) : gR M 231 7 4 = some 234 := gR_ (O7 G) (G.r (by decide +kernel))
theorem A7l (G : GS M) : 232 < mz M ∧ mk_ M 232 = (1, 8) := G.a (by decide) (by decide +kernel)
theorem A7m (G : GS M) : 233 < mz M ∧ mk_ M 233 = (1, 8) := G.a (by decide) (by decide +kernel)
theorem A7e (G : GS M) : 234 < mz M ∧ mk_ M 234 = (1, 320) := G.a (by decide) (by decide +kernel)
def hasq (i n : Int32) (sz : Nat) : Bool := decide (0 ≤ i.toInt ∧ 0 ≤ n.toInt ∧ i.toInt + n.toInt ≤ sz)
theorem lt0 {x : Int32} : x < 0 ↔ x.toInt < 0 := by rw [Int32.lt_iff_toInt_lt]; rfl
theorem m_has4 (G : GS M) {k sz : Nat} (hk : k < 8) (hz : sz ≤ 40) (e : mi_ M (201 + 2 * k) 3 = nI sz) (i n : Int32) : m_X4_has M (201 + 2 * k) i n = some (b2 (hasq i n sz)) := by
  unfold m_X4_has hasq
  rw [gI_ (rowO G hk), Option.bind_some, Option.bind_some, e]
  by_cases h1 : i < 0
  · rw [if_pos h1]
    have := lt0.mp h1
    have : ¬ (0 ≤ i.toInt ∧ 0 ≤ n.toInt ∧ i.toInt + n.toInt ≤ sz) := by omega
    rw [decide_eq_false this]
    rfl
  rw [if_neg h1]
  by_cases h2 : n < 0
  · rw [if_pos h2]
    have := lt0.mp h2
    have : ¬ (0 ≤ i.toInt ∧ 0 ≤ n.toInt ∧ i.toInt + n.toInt ≤ sz) := by omega
    rw [decide_eq_false this]
    rfl
  rw [if_neg h2]
  obtain ⟨a, ha, rfl⟩ := nI_of h1
  obtain ⟨m, hm, rfl⟩ := nI_of h2
  rw [nI_toInt ha, nI_toInt hm]
  by_cases h3 : sz < a
  · rw [if_pos (nI_lt h3 ha)]
    have : ¬ (0 ≤ (a : Int) ∧ 0 ≤ (m : Int) ∧ (a : Int) + m ≤ sz) := by omega
    rw [decide_eq_false this]
    rfl
  rw [if_neg (nI_nlt (by omega) (by omega)), pk_sub (by omega)]
  by_cases h4 : sz - a < m
  · rw [if_pos (nI_lt h4 hm)]
    have : ¬ (0 ≤ (a : Int) ∧ 0 ≤ (m : Int) ∧ (a : Int) + m ≤ sz) := by omega
    rw [decide_eq_false this]
    rfl
  · rw [if_neg (nI_nlt (by omega) (by omega))]
    have : 0 ≤ (a : Int) ∧ 0 ≤ (m : Int) ∧ (a : Int) + m ≤ sz := by omega
    rw [decide_eq_true this]
    rfl
theorem hasq_n {i n : Int32} {sz : Nat} (hz : sz ≤ 40) (h : hasq i n sz = true) : ∃ a m, i = nI a ∧ n = nI m ∧ a + m ≤ sz := by
  unfold hasq at h
  rw [decide_eq_true_iff] at h
  obtain ⟨a, ha, rfl⟩ := nI_of (x := i) (fun q => by have := lt0.mp q; omega)
  obtain ⟨m, hm, rfl⟩ := nI_of (x := n) (fun q => by have := lt0.mp q; omega)
  rw [nI_toInt ha, nI_toInt hm] at h
  exact ⟨a, m, rfl, rfl, by omega⟩
def wpq (rl rs : Nat → Nat) (k : Nat) (i n : Int32) : Nat := if rl k = 0 then 1 else if hasq i n (rs k) then 0 else 2
theorem m_wp {rl rs : Nat → Nat} {ri : Nat → Nat → Int32} (G : GS M) (h : Cr M rl rs ri) {k : Nat} (hk : k < 8) (i n : Int32) : m_X6_wrongPlace M 0 (nI k) i n = some (nI (wpq rl rs k i n)) := by
  unfold wpq
  rw [m_X6_wrongPlace, R6w G, Option.bind_some, rowR G hk, Option.bind_some, gI_ (rowO G hk), Option.bind_some, Option.bind_some, rowR G hk, Option.bind_some, (h k hk).1]
  by_cases h0 : rl k = 0
  · rw [if_pos (by simp [h0, b2]), if_pos h0]
    rfl
  · have q := (h k hk).2 h0
    rw [if_neg (by simp [h0, b2]), if_neg h0, if_pos (rowO G hk), m_has4 G hk q.2.1 q.2.2.2.1, Option.bind_some]
    cases hasq i n (rs k) <;> rfl
def fil (f : Nat → Int32) (lo hi : Nat) : Nat → Int32 := fun q => if lo ≤ q ∧ q < hi then 0 else f q
theorem m_beL {k : Nat} (hk : k < 8) {ρ : Type} (k0 : mM → Option ρ) : ∀ (d i n : Nat) (M : mM), GS M → i + d = 40 → d < n → ∃ N, m_X4_begin_L17 k0 (201 + 2 * k) n M (nI i) = k0 N ∧ f1_ (202 + 2 * k) M N ∧ mi_ N (202 + 2 * k) = fil (mi_ M (202 + 2 * k)) i 40 := by
  intro d
  induction d with
  | zero =>
    intro i n M G hi hn
    obtain ⟨n, rfl⟩ : ∃ z, n = z + 1 := ⟨n - 1, by omega⟩
    refine ⟨M, by rw [m_X4_begin_L17, if_pos (show (40 : Int32) ≤ nI i from (nI_le (by omega) (by omega) : nI 40 ≤ nI i))], f1_r _ _, ?_⟩
    funext q
    have : ¬ (i ≤ q ∧ q < 40) := by omega
    simp [fil, this]
  | succ d ih =>
    intro i n M G hi hn
    obtain ⟨n, rfl⟩ : ∃ z, n = z + 1 := ⟨n - 1, by omega⟩
    obtain ⟨N, e1, e2, e3⟩ := ih (i + 1) n (wI M (202 + 2 * k) i 0) (GS_w G) (by omega) (by omega)
    refine ⟨N, ?_, f1_t f1_w e2, ?_⟩
    · rw [m_X4_begin_L17, if_neg (show ¬ (40 : Int32) ≤ nI i from (nI_ge (by omega) (by decide) : ¬ nI 40 ≤ nI i)), rowI G hk, Option.bind_some, st_ (rowA G hk).1 (rowA G hk).2 (by omega) (by decide), Option.bind_some, nI_1]
      exact e1
    · rw [e3]
      funext q
      simp only [fil, wI_s]
      by_cases h1 : i + 1 ≤ q ∧ q < 40
      · rw [if_pos h1, if_pos (by omega)]
      · rw [if_neg h1]
        by_cases h2 : q = i
        · rw [if_pos h2, if_pos (by omega)]
        · rw [if_neg h2, if_neg (by omega)]
theorem m_roL {k : Nat} (hk : k < 8) (x3 : Int32) {ρ : Type} (k0 : mM → Option ρ) : ∀ (d i n : Nat) (M : mM), GS M → i + d = 40 → d < n → ∃ N, m_X7_row_L65 k0 231 (nI k) x3 n M (nI i) = k0 N ∧ f1_ 234 M N ∧ mi_ N 234 = fil (mi_ M 234) (40 * k + i) (40 * k + 40) := by
  intro d
  induction d with
  | zero =>
    intro i n M G hi hn
    obtain ⟨n, rfl⟩ : ∃ z, n = z + 1 := ⟨n - 1, by omega⟩
    refine ⟨M, by rw [m_X7_row_L65, if_pos (show (40 : Int32) ≤ nI i from (nI_le (by omega) (by omega) : nI 40 ≤ nI i))], f1_r _ _, ?_⟩
    funext q
    have : ¬ (40 * k + i ≤ q ∧ q < 40 * k + 40) := by omega
    simp [fil, this]
  | succ d ih =>
    intro i n M G hi hn
    obtain ⟨n, rfl⟩ : ∃ z, n = z + 1 := ⟨n - 1, by omega⟩
    obtain ⟨N, e1, e2, e3⟩ := ih (i + 1) n (wI M 234 (40 * k + i) 0) (GS_w G) (by omega) (by omega)
    refine ⟨N, ?_, f1_t f1_w e2, ?_⟩
    · rw [m_X7_row_L65, if_neg (show ¬ (40 : Int32) ≤ nI i from (nI_ge (by omega) (by decide) : ¬ nI 40 ≤ nI i)), R7e G, Option.bind_some, show (40 : Int32) * nI k + nI i = nI (40 * k + i) by rw [show (40 : Int32) = nI 40 from rfl, pk_mul, nI_add], st_ (A7e G).1 (A7e G).2 (by omega) (by decide), Option.bind_some, nI_1]
      exact e1
    · rw [e3]
      funext q
      simp only [fil, wI_s]
      by_cases h1 : 40 * k + (i + 1) ≤ q ∧ q < 40 * k + 40
      · rw [if_pos h1, if_pos (by omega)]
      · rw [if_neg h1]
        by_cases h2 : q = 40 * k + i
        · rw [if_pos h2, if_pos (by omega)]
        · rw [if_neg h2, if_neg (by omega)]
end FR
