/-! ===== what fits: who, what ===== -/
def so_ (p : Nat) (it : Nat → Int32) : Nat → Nat → sT → Bool
  | 0, _, _ => true
  | d + 1, i, c => decide (nI (bc (dayS c 4 p)) = it i) && so_ p it d (i + 1) (dayS c)
def fs_ (p : Nat) (it : Nat → Int32) (m : Nat) (cand : Nat → sT) (v d x : Nat) : Nat := fo (fun v s => if so_ p it m 0 (cand v) then s ||| 2 ^ v else s) v d x
theorem f_or7 : ∀ k, k < 128 → ∀ s, s < 7 → nI k ||| ((1 : Int32) <<< (nI s &&& 31)) = nI (k ||| 2 ^ s) := by decide +kernel
theorem f_or0 : ∀ k, k < 128 → ∀ s, s < 7 → nI k ||| ((0 : Int32) <<< (nI s &&& 31)) = nI k := by decide +kernel
theorem f_orz : ∀ k, k < 128 → nI k ||| (0 : Int32) = nI k := by decide +kernel
theorem xsb_ {b : Bool} {k s : Nat} (hk : k < 128) (hs : s < 7) : nI k ||| (b2 b <<< (nI s &&& 31)) = nI (if b then k ||| 2 ^ s else k) := by
  cases b
  · exact f_or0 k hk s hs
  · exact f_or7 k hk s hs
theorem msb_ {α : Type} {b : Bool} {k s : Nat} (F : Int32 → α) (hk : k < 128) (hs : s < 7) : (if b2 b = (0 : Int32) then F (nI k ||| (0 : Int32)) else F (nI k ||| ((1 : Int32) <<< (nI s &&& 31)))) = F (nI (if b then k ||| 2 ^ s else k)) := by
  cases b
  · rw [if_pos (show b2 false = 0 from rfl), f_orz k hk]
    rfl
  · rw [if_neg (show ¬ b2 true = 0 by decide), f_or7 k hk s hs]
    rfl
theorem or_128 {b : Bool} {k s : Nat} (hk : k < 128) (hs : s < 7) : (if b then k ||| 2 ^ s else k) < 128 := by
  cases b
  · exact hk
  · exact Nat.or_lt_two_pow (n := 7) hk (show 2 ^ s < 2 ^ 7 from Nat.pow_lt_pow_right (by decide) hs)
def wR (M : mM) (a f v : Nat) : mM := (M.1, M.2.1, mi_ M, up2 (mr_ M) a f (some v))
theorem pR_ {M : mM} {a c f v : Nat} (h : isO M a c = true) : pR M a c f v = some (wR M a f v) := by simp [pR, h, wR]
theorem rl_n : ∀ q ∈ RL0, ¬ (q.1 = 189 ∧ (q.2.1 = 6 ∨ q.2.1 = 1)) := by decide +kernel
theorem GS_r {M : mM} (G : GS M) {f v : Nat} (hf : f = 6 ∨ f = 1) : GS (wR M 189 f v) := by
  refine ⟨G.1, G.2.1, fun q hq => ?_⟩
  have h := rl_n q hq
  have : mr_ (wR M 189 f v) q.1 q.2.1 = mr_ M q.1 q.2.1 := by
    show up2 (mr_ M) 189 f (some v) q.1 q.2.1 = _
    unfold up2
    by_cases h1 : q.1 = 189
    · by_cases h2 : q.2.1 = f
      · exact absurd ⟨h1, by rw [h2]; exact hf⟩ h
      · simp [h2]
    · simp [h1]
  rw [this]
  exact G.2.2 q hq
section FT
variable {M : mM} {c : sT}
/-- what is believed: the row, from where, how many -/
def FT_ (M : mM) (r i m : Nat) : Prop := mr_ M 189 6 = some (201 + 2 * r) ∧ mi_ M 189 7 = nI i ∧ mi_ M 189 2 = nI m
theorem FT_f {M N : mM} {r i m : Nat} (h : FT_ M r i m) (f : fr 190 M N) : FT_ N r i m := ⟨by rw [f.1.2.2]; exact h.1, by rw [f.2 189 (by decide)]; exact h.2.1, by rw [f.2 189 (by decide)]; exact h.2.2⟩
theorem m_fXL {p r j m : Nat} {it : Nat → Int32} (hr : r < 8) (hjm : j + m ≤ 40) {ρ : Type} (k0 k1 : mM → Option ρ) : ∀ (d i n : Nat) (M : mM) (c : sT), GS M → FT_ M r j m → (∀ k, k < m → mi_ M (202 + 2 * r) (j + k) = it k) → SA M 190 c → wf c → p < c 0 3 → c 0 4 + d ≤ 2000 → i + d = m → d < n → ∃ N, m_X2_fits_L29 k0 k1 189 (nI p) n M (nI i) = (if so_ p it d i c then k0 N else k1 N) ∧ fr 190 M N := by
  intro d
  induction d with
  | zero =>
    intro i n M c G F hi h w hp hd hid hn
    obtain ⟨n, rfl⟩ : ∃ z, n = z + 1 := ⟨n - 1, by omega⟩
    exact ⟨M, by rw [m_X2_fits_L29, gI_ (FO G), Option.bind_some, F.2.2, if_pos (nI_le (by omega) (by omega))]; rfl, fr_r _ _⟩
  | succ d ih =>
    intro i n M c G F hi h w hp hd hid hn
    obtain ⟨n, rfl⟩ : ∃ z, n = z + 1 := ⟨n - 1, by omega⟩
    obtain ⟨K, k1', k2, k3, k4⟩ := m_day (Sw G) w h (by omega)
    have GK : GS K := G.sh k3.1
    have FK := FT_f F k3
    have hp' : p < dayS c 0 3 := by rw [dayS_0 w (by decide)]; exact hp
    have eK : mi_ K (202 + 2 * r) = mi_ M (202 + 2 * r) := k3.2 _ (by omega)
    have hK : ∀ k, k < m → mi_ K (202 + 2 * r) (j + k) = it k := fun k hk => by rw [eK]; exact hi k hk
    rw [m_X2_fits_L29, gI_ (FO G), Option.bind_some, F.2.2, if_neg (nI_ge (by omega) (by omega)), FW G, Option.bind_some, if_pos (Sw G).1, k1', Option.bind_some, FW GK, Option.bind_some, if_pos (Sw GK).1, m_form (Sw GK) k4 k2 hp', Option.bind_some, gR_ (FO GK) FK.1, Option.bind_some, rowI GK hr, Option.bind_some, gI_ (FO GK), Option.bind_some, FK.2.1, nI_add, ld_ (rowA GK hr).1 (rowA GK hr).2 (by omega) (by decide), Option.bind_some, hK i (by omega), nI_1]
    rw [show so_ p it (d + 1) i c = (decide (nI (bc (dayS c 4 p)) = it i) && so_ p it d (i + 1) (dayS c)) from rfl]
    by_cases he : nI (bc (dayS c 4 p)) = it i
    · obtain ⟨N, n1, n2⟩ := ih (i + 1) n K (dayS c) GK FK hK k2 k4 hp' (by rw [dayS_4]; omega) (by omega) (by omega)
      refine ⟨N, ?_, fr_t k3 n2⟩
      rw [if_pos he, n1, decide_eq_true he, Bool.true_and]
    · refine ⟨K, ?_, k3⟩
      rw [if_neg he, decide_eq_false he, Bool.false_and, if_neg (by decide)]
theorem m_fitX {p r j m sz : Nat} {it : Nat → Int32} (G : GS M) (hr : r < 8) (hz : sz ≤ 40) (ez : mi_ M (201 + 2 * r) 3 = nI sz) (hjm : j + m ≤ sz) (F : FT_ M r j m) (hi : ∀ k, k < m → mi_ M (202 + 2 * r) (j + k) = it k) (h : SA M 190 c) (w : wf c) (hp : p < c 0 3) (hd : c 0 4 + m ≤ 2000) : ∃ N, m_X2_fits M 189 (nI p) = some (N, b2 (so_ p it m 0 c)) ∧ fr 190 M N := by
  obtain ⟨N, n1, n2⟩ := m_fXL hr (show j + m ≤ 40 by omega) (fun M34 => some (M34, (1 : Int32))) (fun M35 => some (M35, (0 : Int32))) m 0 FU M c G F hi h w hp hd (by omega) (by unfold FU; omega)
  refine ⟨N, ?_, n2⟩
  have hn : ¬ gN M 189 2 6 = true := by simp [gN, F.1]
  have hh : hasq (nI j) (nI m) sz = true := by
    unfold hasq
    rw [decide_eq_true_iff, nI_toInt (by omega), nI_toInt (by omega)]
    omega
  rw [m_X2_fits, if_neg hn, gR_ (FO G) F.1, Option.bind_some, Option.bind_some, gI_ (FO G), Option.bind_some, gI_ (FO G), Option.bind_some, if_pos (rowO G hr), F.2.1, F.2.2, m_has4 G hr hz ez, hh, Option.bind_some, if_neg (by decide), show m_X2_fits_L29 _ _ 189 (nI p) FU M (0 : Int32) = _ from n1]
  cases so_ p it m 0 c <;> rfl
theorem m_soL {p b m : Nat} {it : Nat → Int32} (hbm : b + m ≤ 320) {ρ : Type} (k0 : mM → Int32 → Option ρ) : ∀ (d i n : Nat) (M : mM) (c : sT) (x : Bool), GS M → (∀ k, k < m → mi_ M 234 (b + k) = it k) → RC_ (mi_ M 237) c → wf c → iv c → p < c 0 3 → c 0 4 + d ≤ 2000 → i + d = m → d < n → ∃ N, m_X7_isSo_L6 k0 231 (nI p) (nI b) (nI m) n M (b2 x) (nI i) = k0 N (b2 (x && so_ p it d i c)) ∧ WZ M N := by
  intro d
  induction d with
  | zero =>
    intro i n M c x G hi h w i7 hp hd hid hn
    obtain ⟨n, rfl⟩ : ∃ z, n = z + 1 := ⟨n - 1, by omega⟩
    refine ⟨M, ?_, WZ_r G⟩
    rw [m_X7_isSo_L6, if_pos (nI_le (by omega) (by omega))]
    simp [so_]
  | succ d ih =>
    intro i n M c x G hi h w i7 hp hd hid hn
    obtain ⟨n, rfl⟩ : ∃ z, n = z + 1 := ⟨n - 1, by omega⟩
    obtain ⟨K, k1, k2, k3⟩ := wdayM G h w i7 (by omega)
    have k4 := wf_day w (show c 0 4 < 2000 by omega)
    have hp' : p < dayS c 0 3 := by rw [dayS_0 w (by decide)]; exact hp
    have hK : ∀ k, k < m → mi_ K 234 (b + k) = it k := fun k hk => by rw [k3.2 234 (by decide) (by decide) (by decide) (by decide)]; exact hi k hk
    have go : ∀ y : Bool, ∃ N, m_X7_isSo_L6 k0 231 (nI p) (nI b) (nI m) n K (b2 y) (nI (i + 1)) = k0 N (b2 (y && so_ p it d (i + 1) (dayS c))) ∧ WZ K N := fun y => ih (i + 1) n K (dayS c) y k3.1 hK k2 k4 (iv_day w i7) hp' (by rw [dayS_4]; omega) (by omega) (by omega)
    rw [m_X7_isSo_L6, if_neg (nI_ge (by omega) (by omega)), R7t G, Option.bind_some, if_pos (O7 G), k1, Option.bind_some, R7t k3.1, Option.bind_some, o_2 (A7t k3.1) k4 k2 hp', Option.bind_some, m_bits (q_knows k4 hp'), Option.bind_some, R7e k3.1, Option.bind_some, nI_add, ld_ (A7e k3.1).1 (A7e k3.1).2 (by omega) (by decide), Option.bind_some, hK i (by omega), nI_1]
    rw [show so_ p it (d + 1) i c = (decide (nI (bc (dayS c 4 p)) = it i) && so_ p it d (i + 1) (dayS c)) from rfl]
    cases x
    · obtain ⟨N, n1, n2⟩ := go false
      refine ⟨N, ?_, WZ_t k3 n2⟩
      rw [if_pos (show b2 false = 0 from rfl)]
      exact n1
    · rw [if_neg (show ¬ b2 true = 0 by decide)]
      by_cases he : nI (bc (dayS c 4 p)) = it i
      · obtain ⟨N, n1, n2⟩ := go true
        refine ⟨N, ?_, WZ_t k3 n2⟩
        rw [if_pos he, decide_eq_true he, Bool.true_and]
        exact n1
      · obtain ⟨N, n1, n2⟩ := go false
        refine ⟨N, ?_, WZ_t k3 n2⟩
        rw [if_neg he, decide_eq_false he, Bool.false_and]
        exact n1
theorem m_so {p b m : Nat} {it : Nat → Int32} (G : GS M) (hbm : b + m ≤ 320) (hm : m ≤ 60) (hi : ∀ k, k < m → mi_ M 234 (b + k) = it k) (h : RC_ (mi_ M 237) c) (w : wf c) (i7 : iv c) (hp : p < c 0 3) (hd : c 0 4 + m ≤ 2000) : ∃ N, m_X7_isSo M 231 (nI p) (nI b) (nI m) = some (N, b2 (so_ p it m 0 c)) ∧ WZ M N := by
  obtain ⟨N, n1, n2⟩ := m_soL hbm (fun M19 v20 => if (v20 == 0 || v20 == 1) = true then some (M19, v20) else none) m 0 FU M c true G hi h w i7 hp hd (by omega) (by unfold FU; omega)
  refine ⟨N, ?_, n2⟩
  rw [m_X7_isSo]
  refine Eq.trans n1 ?_
  show (if (b2 _ == 0 || b2 _ == 1) = true then some (N, b2 _) else none) = _
  rw [if_pos (b2_01 _)]
  rfl
end FT
