/-! ===== seating: the model's side ===== -/
def SF_ (M : mM) (f : Nat → Nat) : Prop := ∀ t, t < 6 → mi_ M 241 t = nI (f t) ∧ f t < 6
theorem m1_s (x : Int32) : x + (-1 : Int32) = x - 1 := (Int32.sub_eq_add_neg x 1).symm
theorem n4_le (f : Nat → Nat) : ∀ i, n4_ f i ≤ i
  | 0 => Nat.le_refl _
  | i + 1 => by
    show (if f i ≤ f (i + 1) then i + 1 else n4_ f i) ≤ i + 1
    split
    · exact Nat.le_refl _
    · exact Nat.le_succ_of_le (n4_le f i)
theorem n41_le {f : Nat → Nat} {i r : Nat} : ∀ j, n41_ f i j = some r → r ≤ j
  | 0, h => by
    have h' : (if f i ≤ f 0 then some 0 else none) = some r := h
    by_cases hc : f i ≤ f 0
    · rw [if_pos hc] at h'
      have := Option.some.inj h'
      omega
    · rw [if_neg hc] at h'
      cases h'
  | j + 1, h => by
    have h' : (if f i ≤ f (j + 1) then some (j + 1) else n41_ f i j) = some r := h
    by_cases hc : f i ≤ f (j + 1)
    · rw [if_pos hc] at h'
      have := Option.some.inj h'
      omega
    · rw [if_neg hc] at h'
      have := n41_le j h'
      omega
theorem gl_ls (g : Nat → Nat) : ∀ t, t < 6 → gl_ (ls_ g) t = g t := by
  intro t ht
  rcases (show t = 0 ∨ t = 1 ∨ t = 2 ∨ t = 3 ∨ t = 4 ∨ t = 5 by omega) with rfl | rfl | rfl | rfl | rfl | rfl <;> rfl
theorem nx_0 {P : Nat} {l : List Nat} (h : n4_ (gl_ l) (P - 1) = 0) : nx_ P l = some none := by simp only [nx_, h]
theorem nx_1 {P i : Nat} {l : List Nat} (h : n4_ (gl_ l) (P - 1) = i + 1) (h2 : n41_ (gl_ l) i (P - 1) = none) : nx_ P l = none := by simp only [nx_, h, h2]
theorem nx_2 {P i j : Nat} {l : List Nat} (h : n4_ (gl_ l) (P - 1) = i + 1) (h2 : n41_ (gl_ l) i (P - 1) = some j) : nx_ P l = some (some (ls_ (nr_ 6 (swp_ (gl_ l) i j) (i + 1) (P - 1)))) := by simp only [nx_, h, h2]
theorem f_p2 : ∀ p, p < 6 → nI (p + 1) - 2 = nI p - 1 := by decide +kernel
section NO
variable {M : mM} {f : Nat → Nat}
theorem R720 (G : GS M) : gR M 231 7 20 = some 241 := gR_ (O7 G) (G.r (by decide +kernel))
theorem R721 (G : GS M) : gR M 231 7 21 = some 242 := gR_ (O7 G) (G.r (by decide +kernel))
theorem A41 (G : GS M) : 241 < mz M ∧ mk_ M 241 = (1, 6) := G.a (by decide) (by decide +kernel)
theorem A42 (G : GS M) : 242 < mz M ∧ mk_ M 242 = (1, 6) := G.a (by decide) (by decide +kernel)
theorem l_41 (G : GS M) (S : SF_ M f) {t : Nat} (ht : t < 6) : ldI M 241 (nI t) = some (nI (f t)) := by
  rw [ld_ (A41 G).1 (A41 G).2 ht (by decide), (S t ht).1]
theorem m_nL4 (G : GS M) (S : SF_ M f) {x1 : Int32} {ρ : Type} (k0 : Int32 → Option ρ) : ∀ (i n : Nat), i ≤ 5 → i < n → m_X7_nextOrder_L4 k0 M 231 x1 n (nI i - 1) = k0 (nI (n4_ f i) - 1) := by
  intro i
  induction i with
  | zero =>
    intro n _ hn
    obtain ⟨n, rfl⟩ : ∃ z, n = z + 1 := ⟨n - 1, by omega⟩
    rw [m_X7_nextOrder_L4, if_pos (by decide)]
    rfl
  | succ i ih =>
    intro n hi hn
    obtain ⟨n, rfl⟩ : ∃ z, n = z + 1 := ⟨n - 1, by omega⟩
    have b1 := (S i (by omega)).2
    have b2 := (S (i + 1) (by omega)).2
    rw [nI_pred i, m_X7_nextOrder_L4, if_neg (nI_pos (by omega)), R720 G, Option.bind_some, l_41 G S (by omega), Option.bind_some, Option.bind_some, nI_1, l_41 G S (by omega), Option.bind_some]
    show _ = k0 (nI (if f i ≤ f (i + 1) then i + 1 else n4_ f i) - 1)
    by_cases h : f i ≤ f (i + 1)
    · rw [if_pos (nI_le h (by omega)), if_pos h, nI_pred i]
    · rw [if_neg (nI_ge (by omega) (by omega)), if_neg h, m1_s, ih n (by omega) (by omega)]
theorem m_nL41 (G : GS M) (S : SF_ M f) {x1 : Int32} {i r : Nat} (hi : i < 6) {ρ : Type} (k0 : Int32 → Option ρ) : ∀ (j n : Nat), j < 6 → j < n → n41_ f i j = some r → m_X7_nextOrder_L41 k0 M 231 x1 (nI i) n (nI j) = k0 (nI r) := by
  have bi := (S i hi).2
  intro j
  induction j with
  | zero =>
    intro n hj hn h
    obtain ⟨n, rfl⟩ : ∃ z, n = z + 1 := ⟨n - 1, by omega⟩
    have bj := (S 0 hj).2
    have h' : (if f i ≤ f 0 then some 0 else none) = some r := h
    by_cases hc : f i ≤ f 0
    · rw [if_pos hc] at h'
      rw [m_X7_nextOrder_L41, R720 G, Option.bind_some, l_41 G S hj, Option.bind_some, Option.bind_some, l_41 G S hi, Option.bind_some, if_pos (nI_le hc (by omega)), Option.some.inj h']
    · rw [if_neg hc] at h'
      cases h'
  | succ j ih =>
    intro n hj hn h
    obtain ⟨n, rfl⟩ : ∃ z, n = z + 1 := ⟨n - 1, by omega⟩
    have bj := (S (j + 1) hj).2
    have h' : (if f i ≤ f (j + 1) then some (j + 1) else n41_ f i j) = some r := h
    by_cases hc : f i ≤ f (j + 1)
    · rw [if_pos hc] at h'
      rw [m_X7_nextOrder_L41, R720 G, Option.bind_some, l_41 G S hj, Option.bind_some, Option.bind_some, l_41 G S hi, Option.bind_some, if_pos (nI_le hc (by omega)), Option.some.inj h']
    · rw [if_neg hc] at h'
      rw [m_X7_nextOrder_L41, R720 G, Option.bind_some, l_41 G S hj, Option.bind_some, Option.bind_some, l_41 G S hi, Option.bind_some, if_neg (nI_ge (by omega) (by omega)), pk_m1 j]
      exact ih n (by omega) (by omega) h'
theorem SF_sw (S : SF_ M f) {i j : Nat} (hi : i < 6) (hj : j < 6) : SF_ (wI (wI M 241 i (nI (f j))) 241 j (nI (f i))) (swp_ f i j) := fun t ht => by
  unfold swp_
  rw [wI_s]
  by_cases h1 : t = j
  · rw [if_pos h1, h1, up1_s]
    exact ⟨rfl, (S i hi).2⟩
  · rw [if_neg h1, up1_o h1, wI_s]
    by_cases h2 : t = i
    · rw [if_pos h2, h2, up1_s]
      exact ⟨rfl, (S j hj).2⟩
    · rw [if_neg h2, up1_o h2]
      exact S t ht
theorem m_nL100 {ρ : Type} (k0 : mM → Option ρ) : ∀ (k n : Nat) (M : mM) (f : Nat → Nat) (lo hi : Nat), GS M → SF_ M f → hi ≤ lo + k → hi < 6 → lo < 100 → k < n → ∃ N, m_X7_nextOrder_L100 k0 231 n M (nI lo) (nI hi) = k0 N ∧ SF_ N (nr_ k f lo hi) ∧ f1_ 241 M N := by
  intro k
  induction k with
  | zero =>
    intro n M f lo hi G S h1 h2 h3 hn
    obtain ⟨n, rfl⟩ : ∃ z, n = z + 1 := ⟨n - 1, by omega⟩
    exact ⟨M, by rw [m_X7_nextOrder_L100, if_pos (nI_le (by omega) (by omega))], S, f1_r _ _⟩
  | succ k ih =>
    intro n M f lo hi G S h1 h2 h3 hn
    obtain ⟨n, rfl⟩ : ∃ z, n = z + 1 := ⟨n - 1, by omega⟩
    by_cases h : hi ≤ lo
    · refine ⟨M, by rw [m_X7_nextOrder_L100, if_pos (nI_le h (by omega))], ?_, f1_r _ _⟩
      show SF_ M (if hi ≤ lo then f else nr_ k (swp_ f lo hi) (lo + 1) (hi - 1))
      rw [if_pos h]
      exact S
    · obtain ⟨z, rfl⟩ : ∃ z, hi = z + 1 := ⟨hi - 1, by omega⟩
      have G1 : GS (wI M 241 lo (nI (f (z + 1)))) := GS_w G
      have G2 : GS (wI (wI M 241 lo (nI (f (z + 1)))) 241 (z + 1) (nI (f lo))) := GS_w G1
      obtain ⟨N, n1, n2, n3⟩ := ih n _ (swp_ f lo (z + 1)) (lo + 1) z G2 (SF_sw S (by omega) h2) (by omega) (by omega) (by omega) (by omega)
      refine ⟨N, ?_, ?_, f1_t (f1_t f1_w f1_w) n3⟩
      · rw [m_X7_nextOrder_L100, if_neg (nI_ge (by omega) (by omega)), R720 G, Option.bind_some, l_41 G S (by omega), Option.bind_some, Option.bind_some, Option.bind_some, l_41 G S h2, Option.bind_some, st_ (A41 G).1 (A41 G).2 (show lo < 6 by omega) (by decide), Option.bind_some, R720 G1, Option.bind_some, st_ (A41 G1).1 (A41 G1).2 h2 (by decide), Option.bind_some, nI_1, pk_m1 z]
        exact n1
      · show SF_ N (if z + 1 ≤ lo then f else nr_ k (swp_ f lo (z + 1)) (lo + 1) (z + 1 - 1))
        rw [if_neg h]
        exact n2
theorem m_nx {l : List Nat} (G : GS M) (S : SF_ M (gl_ l)) {P : Nat} (h1 : 1 ≤ P) (h6 : P ≤ 6) {o : Option (List Nat)} (h : nx_ P l = some o) : ∃ N, m_X7_nextOrder M 231 (nI P) = some (N, b2 o.isSome) ∧ f1_ 241 M N ∧ ∀ l', o = some l' → SF_ N (gl_ l') := by
  obtain ⟨p, rfl⟩ : ∃ z, P = z + 1 := ⟨P - 1, by omega⟩
  rw [m_X7_nextOrder, f_p2 p (by omega), nI_pred p, m_nL4 G S _ p FU (by omega) (by unfold FU; omega)]
  cases hn : n4_ (gl_ l) p with
  | zero =>
    rw [nx_0 (show n4_ (gl_ l) (p + 1 - 1) = 0 from hn)] at h
    have := Option.some.inj h
    subst this
    exact ⟨M, by rw [if_neg (by decide)]; rfl, f1_r _ _, fun l' q => by cases q⟩
  | succ i =>
    have hi : i + 1 ≤ p := by rw [← hn]; exact n4_le _ _
    cases hj : n41_ (gl_ l) i p with
    | none =>
      rw [nx_1 (show n4_ (gl_ l) (p + 1 - 1) = i + 1 from hn) (show n41_ (gl_ l) i (p + 1 - 1) = none from hj)] at h
      cases h
    | some j =>
      have hjp := n41_le _ hj
      rw [nx_2 (show n4_ (gl_ l) (p + 1 - 1) = i + 1 from hn) (show n41_ (gl_ l) i (p + 1 - 1) = some j from hj)] at h
      have := Option.some.inj h
      subst this
      have G1 : GS (wI M 241 i (nI (gl_ l j))) := GS_w G
      have G2 : GS (wI (wI M 241 i (nI (gl_ l j))) 241 j (nI (gl_ l i))) := GS_w G1
      obtain ⟨N, n1, n2, n3⟩ := m_nL100 (fun M56 => some (M56, (1 : Int32))) 6 FU _ (swp_ (gl_ l) i j) (i + 1) p G2 (SF_sw S (by omega) (by omega)) (by omega) (by omega) (by omega) (by unfold FU; omega)
      refine ⟨N, ?_, f1_t (f1_t f1_w f1_w) n3, fun l' q => ?_⟩
      · rw [nI_pred i, if_pos (nI_pos' (by omega)), m_nL41 G S (by omega) _ p FU (by omega) (by unfold FU; omega) hj, R720 G, Option.bind_some, l_41 G S (by omega), Option.bind_some, Option.bind_some, Option.bind_some, l_41 G S (by omega), Option.bind_some, st_ (A41 G).1 (A41 G).2 (show i < 6 by omega) (by decide), Option.bind_some, R720 G1, Option.bind_some, st_ (A41 G1).1 (A41 G1).2 (show j < 6 by omega) (by decide), Option.bind_some, nI_1]
        exact n1
      · have e := Option.some.inj q
        subst e
        intro t ht
        rw [gl_ls _ t ht]
        exact n2 t ht
theorem itr_s {P f : Nat} {l : List Nat} {L : List (List Nat)} (h : itr_ P (f + 1) l = some L) : ∃ o L', nx_ P l = some o ∧ L = l :: L' ∧ ((o = none ∧ L' = []) ∨ ∃ l', o = some l' ∧ itr_ P f l' = some L') := by
  cases hx : nx_ P l with
  | none =>
    have e : itr_ P (f + 1) l = none := by simp only [itr_, hx]
    rw [e] at h
    cases h
  | some o =>
    cases o with
    | none =>
      have e : itr_ P (f + 1) l = some [l] := by simp only [itr_, hx]
      rw [e] at h
      exact ⟨none, [], rfl, (Option.some.inj h).symm, Or.inl ⟨rfl, rfl⟩⟩
    | some l' =>
      have e : itr_ P (f + 1) l = (itr_ P f l').map (fun L => l :: L) := by simp only [itr_, hx]
      rw [e] at h
      cases hi : itr_ P f l' with
      | none =>
        rw [hi] at h
        cases h
      | some L' =>
        rw [hi] at h
        exact ⟨some l', L', rfl, (Option.some.inj h).symm, Or.inr ⟨l', rfl, hi⟩⟩
end NO
theorem take_g {l : List Nat} {P k : Nat} (h : k < P) : (l.take P).getD k 0 = l.getD k 0 := by
  simp [List.getD_eq_getElem?_getD, List.getElem?_take, h]
section SM
variable {M : mM} {c : sT} {n : Nat} {ρ : Type}
theorem RC_sS {g g' : Nat → Int32} {l : List Nat} (b : c 0 1 ≤ 6 ∧ c 0 2 ≤ 8 ∧ c 0 3 ≤ 6) (R : RC_ g c) (ok : okl_ (c 0 3) l = true) (h1 : ∀ q, (∀ k, k < c 0 3 → q ≠ 19 + 9 * l.getD k 0 + 1) → g' q = g q) (h2 : ∀ k, k < c 0 3 → g' (19 + 9 * l.getD k 0 + 1) = nI k) : RC_ g' (sS_ c l) := by
  obtain ⟨⟨r0, r1, r2, r3, r4⟩, R1, R2, R3, R4, R5, R6⟩ := R
  obtain ⟨b1, b2, b3⟩ := b
  obtain ⟨q1, q2, q3, q4⟩ := okl_s ok
  refine ⟨⟨(h1 _ (fun k _ => by omega)).trans r0, (h1 _ (fun k _ => by omega)).trans r1, (h1 _ (fun k _ => by omega)).trans r2, (h1 _ (fun k _ => by omega)).trans r3, (h1 _ (fun k _ => by omega)).trans r4⟩, fun s hs => ?_, fun z hz => ?_, fun p hp => (h1 _ (fun k _ => by omega)).trans (R3 p hp), fun p hp => ?_, fun p hp => (h1 _ (fun k _ => by omega)).trans (R5 p hp), fun p hp s hs => ?_⟩
  · have hs' : s < c 0 1 := hs
    exact (h1 _ (fun k _ => by omega)).trans (R1 s hs')
  · have hz' : z < c 0 2 := hz
    exact (h1 _ (fun k _ => by omega)).trans (R2 z hz')
  · show g' (19 + 9 * p + 1) = nI (l.idxOf p)
    have := h2 (l.idxOf p) (q4 p hp).1
    rw [(q4 p hp).2] at this
    exact this
  · have hs' : s < c 0 1 := hs
    exact (h1 _ (fun k _ => by omega)).trans (R6 p hp s hs')
theorem m_sL85 {f : Nat → Nat} {x1 x2 x3 : Int32} (w : wf c) (hf : ∀ k, k < c 0 3 → f k < c 0 3) (hj : ∀ k k', k < c 0 3 → k' < c 0 3 → f k = f k' → k = k') : ∀ (d i m : Nat) (M : mM), GS M → RC_ (mi_ M 235) c → SF_ M f → i + d = c 0 3 → d < m → ∃ N, (∀ k0 : mM → Option ρ, m_X7_seating_L85 k0 231 x1 x2 x3 m M (nI i) = k0 N) ∧ f1_ 237 M N ∧ (∀ q, (∀ k, i ≤ k → k < c 0 3 → q ≠ 19 + 9 * f k + 1) → mi_ N 237 q = mi_ M 237 q) ∧ ∀ k, i ≤ k → k < c 0 3 → mi_ N 237 (19 + 9 * f k + 1) = nI k := by
  have hP := w.2.2.2.1.2
  intro d
  induction d with
  | zero =>
    intro i m M G R S hi hm
    obtain ⟨m, rfl⟩ : ∃ z, m = z + 1 := ⟨m - 1, by omega⟩
    exact ⟨M, fun k0 => by rw [m_X7_seating_L85, R7s G, Option.bind_some, l_P (A7s G) R, Option.bind_some, if_pos (nI_le (by omega) (by omega))], f1_r _ _, fun _ _ => rfl, fun k h1 h2 => by omega⟩
  | succ d ih =>
    intro i m M G R S hi hm
    obtain ⟨m, rfl⟩ : ∃ z, m = z + 1 := ⟨m - 1, by omega⟩
    have hi' : i < c 0 3 := by omega
    have hfi := hf i hi'
    have hb : m_X7_be M 237 (nI (f i)) (1 : Int32) (nI i) = some (wI M 237 (19 + 9 * f i + 1) (nI i)) := m_be9 (q := 1) (A7t G) (by omega)
    obtain ⟨N, n1, n2, n3, n4⟩ := ih (i + 1) m (wI M 237 (19 + 9 * f i + 1) (nI i)) (GS_w G) (by rw [wI_o (by decide)]; exact R) (fun t ht => by rw [wI_o (by decide)]; exact S t ht) (by omega) (by omega)
    refine ⟨N, fun k0 => ?_, f1_t f1_w n2, fun q hq => ?_, fun k h1 h2 => ?_⟩
    · rw [m_X7_seating_L85, R7s G, Option.bind_some, l_P (A7s G) R, Option.bind_some, if_neg (nI_ge hi' (by omega)), R7t G, Option.bind_some, R720 G, Option.bind_some, l_41 G S (by omega), Option.bind_some, hb, Option.bind_some, nI_1]
      exact n1 k0
    · rw [n3 q (fun k a b => hq k (by omega) b), wI_s, if_neg (hq i (Nat.le_refl _) hi')]
    · by_cases hk : k = i
      · subst hk
        rw [n3 _ (fun k' a b e => by
          have : f k = f k' := by omega
          have := hj k k' h2 b this
          omega), wI_s, if_pos rfl]
      · exact n4 k (by omega) h2
theorem m_sL48 {x1 x2 x3 : Int32} : ∀ (d i m : Nat) (M : mM), GS M → i + d = 6 → d < m → (∀ t, t < i → mi_ M 241 t = nI t) → ∃ N, (∀ k0 : mM → Option ρ, m_X7_seating_L48 k0 231 x1 x2 x3 m M (nI i) = k0 N) ∧ f1_ 241 M N ∧ ∀ t, t < 6 → mi_ N 241 t = nI t := by
  intro d
  induction d with
  | zero =>
    intro i m M G hi hm h
    obtain ⟨m, rfl⟩ : ∃ z, m = z + 1 := ⟨m - 1, by omega⟩
    exact ⟨M, fun k0 => by rw [m_X7_seating_L48, if_pos (show (6 : Int32) ≤ nI i from (nI_le (by omega) (by omega) : nI 6 ≤ nI i))], f1_r _ _, fun t ht => h t (by omega)⟩
  | succ d ih =>
    intro i m M G hi hm h
    obtain ⟨m, rfl⟩ : ∃ z, m = z + 1 := ⟨m - 1, by omega⟩
    obtain ⟨N, n1, n2, n3⟩ := ih (i + 1) m (wI M 241 i (nI i)) (GS_w G) (by omega) (by omega) (fun t ht => by
      rw [wI_s]
      by_cases hti : t = i
      · rw [if_pos hti, hti]
      · rw [if_neg hti]
        exact h t (by omega))
    refine ⟨N, fun k0 => ?_, f1_t f1_w n2, n3⟩
    rw [m_X7_seating_L48, if_neg (show ¬ (6 : Int32) ≤ nI i from (nI_ge (by omega) (by decide) : ¬ nI 6 ≤ nI i)), R720 G, Option.bind_some, st_ (A41 G).1 (A41 G).2 (show i < 6 by omega) (by decide), Option.bind_some, nI_1]
    exact n1 k0
theorem m_sL149 {x1 x2 x3 : Int32} : ∀ (d i m : Nat) (M : mM), GS M → i + d = 6 → d < m → ∃ N, (∀ k0 : mM → Option ρ, m_X7_seating_L149 k0 231 x1 x2 x3 m M (nI i) = k0 N) ∧ f1_ 242 M N ∧ (∀ t, t < i → mi_ N 242 t = mi_ M 242 t) ∧ ∀ t, i ≤ t → t < 6 → mi_ N 242 t = mi_ M 241 t := by
  intro d
  induction d with
  | zero =>
    intro i m M G hi hm
    obtain ⟨m, rfl⟩ : ∃ z, m = z + 1 := ⟨m - 1, by omega⟩
    exact ⟨M, fun k0 => by rw [m_X7_seating_L149, if_pos (show (6 : Int32) ≤ nI i from (nI_le (by omega) (by omega) : nI 6 ≤ nI i))], f1_r _ _, fun _ _ => rfl, fun t h1 h2 => by omega⟩
  | succ d ih =>
    intro i m M G hi hm
    obtain ⟨m, rfl⟩ : ∃ z, m = z + 1 := ⟨m - 1, by omega⟩
    obtain ⟨N, n1, n2, n3, n4⟩ := ih (i + 1) m (wI M 242 i (mi_ M 241 i)) (GS_w G) (by omega) (by omega)
    refine ⟨N, fun k0 => ?_, f1_t f1_w n2, fun t ht => ?_, fun t h1 h2 => ?_⟩
    · rw [m_X7_seating_L149, if_neg (show ¬ (6 : Int32) ≤ nI i from (nI_ge (by omega) (by decide) : ¬ nI 6 ≤ nI i)), R721 G, Option.bind_some, R720 G, Option.bind_some, ld_ (A41 G).1 (A41 G).2 (show i < 6 by omega) (by decide), Option.bind_some, st_ (A42 G).1 (A42 G).2 (show i < 6 by omega) (by decide), Option.bind_some, nI_1]
      exact n1 k0
    · rw [n3 t (by omega), wI_s, if_neg (by omega)]
    · by_cases ht : t = i
      · rw [n3 t (by omega), wI_s, if_pos ht, ht]
      · rw [n4 t (by omega) h2, wI_o (by decide)]
theorem WZ_1 {a : Nat} {N : mM} (G : GS M) (h : a = 237 ∨ a = 241 ∨ a = 242) (f : f1_ a M N) : WZ M N := ⟨G.sh f.1, fun b h1 h2 h3 h4 => f.2 b (by omega)⟩
theorem m_sL73 (w : wf c) (hd : c 0 4 ≤ 999) (hn : n ≤ 12) {x2 : Int32} (k0 : mM → Int32 → Option ρ) : ∀ (f : Nat) (l : List Nat) (L : List (List Nat)) (st : Nat × List Nat) (m : Nat) (M : mM), itr_ (c 0 3) f l = some L → (∀ z ∈ L, okl_ (c 0 3) (z.take (c 0 3)) = true) → f < m → GS M → RC_ (mi_ M 235) c → SF_ M (gl_ l) → st.1 ≤ 37 → (st.1 ≠ 0 → ∀ j, j < c 0 3 → mi_ M 242 j = nI (st.2.getD j 0)) →
    ∃ N, m_X7_seating_L73 k0 231 (nI n) x2 m M (nI st.1 - 1) (1 : Int32) = k0 N (nI (L.foldl (fun st z => wg_ (vl_ c n 0 (fun _ => false) 0 (z.take (c 0 3))) (z.take (c 0 3)) st) st).1 - 1) ∧ WZ M N ∧ ((L.foldl (fun st z => wg_ (vl_ c n 0 (fun _ => false) 0 (z.take (c 0 3))) (z.take (c 0 3)) st) st).1 ≠ 0 → ∀ j, j < c 0 3 → mi_ N 242 j = nI ((L.foldl (fun st z => wg_ (vl_ c n 0 (fun _ => false) 0 (z.take (c 0 3))) (z.take (c 0 3)) st) st).2.getD j 0)) := by
  have hP := w.2.2.2.1
  intro f
  induction f with
  | zero =>
    intro l L st m M hit
    cases hit
  | succ f ih =>
    intro l L st m M hit hok hm G R S hst hbs
    obtain ⟨m, rfl⟩ : ∃ z, m = z + 1 := ⟨m - 1, by omega⟩
    obtain ⟨o, L', hx, rfl, hL⟩ := itr_s hit
    have ok := hok l List.mem_cons_self
    obtain ⟨q1, q2, q3, q4⟩ := okl_s ok
    rw [List.foldl_cons]
    obtain ⟨K, k1, k2, k3⟩ := m_lay (t := 237) (s := 235) (by decide) (O7 G) (G.r (by decide +kernel)) (G.r (by decide +kernel)) (A7t G) (A7s G) (wf_b w) R
    have GK : GS K := G.sh k2.1
    have SK' : SF_ K (gl_ l) := fun t ht => by rw [k2.2 241 (by decide)]; exact S t ht
    have RK : RC_ (mi_ K 235) c := by rw [k2.2 235 (by decide)]; exact R
    have g3 : ∀ k, k < c 0 3 → gl_ l k < c 0 3 := fun k hk => by
      have := (q3 k hk).1
      rw [take_g hk] at this
      exact this
    have gj : ∀ k k', k < c 0 3 → k' < c 0 3 → gl_ l k = gl_ l k' → k = k' := fun k k' hk hk' e => by
      have a := (q3 k hk).2
      have b := (q3 k' hk').2
      rw [take_g hk] at a
      rw [take_g hk'] at b
      have e' : l.getD k 0 = l.getD k' 0 := e
      rw [e', b] at a
      exact a.symm
    obtain ⟨K2, l1, l2, l3, l4⟩ := m_sL85 (ρ := ρ) (x1 := nI n) (x2 := x2) (x3 := nI st.1 - 1) w g3 gj (c 0 3) 0 FU K GK RK SK' (by omega) (by unfold FU; omega)
    have l1' : ∀ k0 : mM → Option ρ, m_X7_seating_L85 k0 231 (nI n) x2 (nI st.1 - 1) FU K (0 : Int32) = k0 K2 := l1
    have R2 : RC_ (mi_ K2 237) (sS_ c (l.take (c 0 3))) := RC_sS (wf_b w) k3 ok (fun q hq => l3 q (fun k _ hk => by
      have := hq k hk
      rw [take_g hk] at this
      exact this)) (fun k hk => by
      rw [take_g hk]
      exact l4 k (Nat.zero_le _) hk)
    have ws := wf_sS w ok
    have is7 : iv (sS_ c (l.take (c 0 3))) := iv_sS ok
    have GK2 : GS K2 := GK.sh l2.1
    obtain ⟨K3, d1, d2, d3, d4, d5⟩ := m_dO GK2.mh (A7t GK2) ws is7 R2 (by decide) (m := n) (by omega) (show c 0 4 + n ≤ 2000 by omega)
    have GK3 : GS K3 := GK2.sh d2.1
    have vk := vl_ok (n := n) w ok (by omega)
    have hv36 : vl_ c n 0 (fun _ => false) 0 (l.take (c 0 3)) ≤ 36 := by
      rw [← vk]
      exact known_le d4
    have kn := m_kn7 (A7t GK3) d4 d3
    rw [vk] at kn
    have o1 : ∀ b, b ≠ 237 → b ≠ 240 → mi_ K3 b = mi_ M b := fun b h1 h2 => by rw [d2.2 b h1 h2, l2.2 b h1, k2.2 b h1]
    have S3 : SF_ K3 (gl_ l) := fun t ht => by rw [o1 241 (by decide) (by decide)]; exact S t ht
    have R3 : RC_ (mi_ K3 235) c := by rw [o1 235 (by decide) (by decide)]; exact R
    have W3 : WZ M K3 := ⟨GK3, fun b h1 h2 _ _ => o1 b h1 h2⟩
    have tail : ∀ (K4 : mM) (s4 : Nat × List Nat), WZ K3 K4 → mi_ K4 241 = mi_ K3 241 → s4.1 ≤ 37 → (s4.1 ≠ 0 → ∀ j, j < c 0 3 → mi_ K4 242 j = nI (s4.2.getD j 0)) → ∃ N, ((gR K4 231 7 5).bind fun b => (ldI K4 b (0 : Int32)).bind fun v => if isO K4 231 7 = true then bd2 (m_X7_nextOrder K4 231 v) (fun M34 v35 => m_X7_seating_L73 k0 231 (nI n) x2 m M34 (nI s4.1 - 1) v35) else none) = k0 N (nI (L'.foldl (fun st z => wg_ (vl_ c n 0 (fun _ => false) 0 (z.take (c 0 3))) (z.take (c 0 3)) st) s4).1 - 1) ∧ WZ M N ∧ ((L'.foldl (fun st z => wg_ (vl_ c n 0 (fun _ => false) 0 (z.take (c 0 3))) (z.take (c 0 3)) st) s4).1 ≠ 0 → ∀ j, j < c 0 3 → mi_ N 242 j = nI ((L'.foldl (fun st z => wg_ (vl_ c n 0 (fun _ => false) 0 (z.take (c 0 3))) (z.take (c 0 3)) st) s4).2.getD j 0)) := by
      intro K4 s4 W4 e41 h37 hb4
      have G4 := W4.1
      have S4 : SF_ K4 (gl_ l) := fun t ht => by rw [e41]; exact S3 t ht
      have R4 : RC_ (mi_ K4 235) c := W4.s R3
      obtain ⟨K5, n1, n2, n3⟩ := m_nx G4 S4 hP.1 hP.2 hx
      have G5 : GS K5 := G4.sh n2.1
      rw [R7s G4, Option.bind_some, l_P (A7s G4) R4, Option.bind_some, if_pos (O7 G4), n1, bd2_s]
      have W5 : WZ M K5 := WZ_t W3 (WZ_t W4 (WZ_1 G4 (Or.inr (Or.inl rfl)) n2))
      have b5 : mi_ K5 242 = mi_ K4 242 := n2.2 242 (by decide)
      rcases hL with ⟨rfl, rfl⟩ | ⟨l', rfl, hi'⟩
      · obtain ⟨m, rfl⟩ : ∃ z, m = z + 1 := ⟨m - 1, by omega⟩
        refine ⟨K5, ?_, W5, fun z j hj => by rw [b5]; exact hb4 z j hj⟩
        rw [show b2 (none : Option (List Nat)).isSome = (0 : Int32) from rfl, m_X7_seating_L73, if_pos rfl]
        rfl
      · obtain ⟨N, y1, y2, y3⟩ := ih l' L' s4 m K5 hi' (fun z hz => hok z (List.mem_cons_of_mem _ hz)) (by omega) G5 (by rw [n2.2 235 (by decide)]; exact R4) (n3 l' rfl) h37 (fun z j hj => by rw [b5]; exact hb4 z j hj)
        exact ⟨N, y1, WZ_t W5 y2, y3⟩
    rw [m_X7_seating_L73, if_neg (show ¬ (1 : Int32) = 0 by decide), if_pos (O7 G), k1, Option.bind_some, l1', R7t GK2, Option.bind_some, if_pos (O7 GK2), d1, Option.bind_some, R7t GK3, Option.bind_some, kn, Option.bind_some]
    have hdc := f_wg _ (show vl_ c n 0 (fun _ => false) 0 (l.take (c 0 3)) < 37 by omega) st.1 (by omega)
    generalize vl_ c n 0 (fun _ => false) 0 (l.take (c 0 3)) = v at hdc hv36
    by_cases hlt : v < st.1
    · rw [if_pos (of_decide_eq_true (by rw [hdc]; exact decide_eq_true hlt)), show wg_ v (l.take (c 0 3)) st = st from if_pos hlt]
      exact tail K3 st (WZ_r GK3) rfl hst (fun z j hj => by rw [o1 242 (by decide) (by decide)]; exact hbs z j hj)
    · obtain ⟨K4, u1, u2, u3, u4⟩ := m_sL149 (ρ := ρ) (x1 := nI n) (x2 := x2) (x3 := nI v) 6 0 FU K3 GK3 (by omega) (by unfold FU; omega)
      have u1' : ∀ k0 : mM → Option ρ, m_X7_seating_L149 k0 231 (nI n) x2 (nI v) FU K3 (0 : Int32) = k0 K4 := u1
      rw [if_neg (of_decide_eq_false (by rw [hdc]; exact decide_eq_false hlt)), show wg_ v (l.take (c 0 3)) st = (v + 1, l.take (c 0 3)) from if_neg hlt, u1', ← nI_pred v]
      exact tail K4 (v + 1, l.take (c 0 3)) (WZ_1 GK3 (Or.inr (Or.inr rfl)) u2) (u2.2 241 (by decide)) (by show v + 1 ≤ 37; omega) (fun _ j hj => by
        show mi_ K4 242 j = nI ((l.take (c 0 3)).getD j 0)
        rw [u4 j (Nat.zero_le _) (by omega), (S3 j (by omega)).1, take_g hj]
        rfl)
theorem m_sM (G : GS M) (R : RC_ (mi_ M 235) c) (w : wf c) (hd : c 0 4 ≤ 999) (hn : n ≤ 12) {x2 : Int32} (k0 : mM → Int32 → Option ρ) : ∃ N, m_X7_seating_L48 (fun M15 => m_X7_seating_L73 k0 231 (nI n) x2 FU M15 (-1 : Int32) (1 : Int32)) 231 (nI n) x2 (-1 : Int32) FU M (0 : Int32) = k0 N (nI (sb_ c n).1 - 1) ∧ WZ M N ∧ ∀ j, j < c 0 3 → mi_ N 242 j = nI ((sb_ c n).2.getD j 0) := by
  have hP := w.2.2.2.1
  obtain ⟨K, k1, k2, k3⟩ := m_sL48 (ρ := ρ) (x1 := nI n) (x2 := x2) (x3 := (-1 : Int32)) 6 0 FU M G (by omega) (by unfold FU; omega) (fun t ht => absurd ht (Nat.not_lt_zero _))
  have k1' : ∀ k0 : mM → Option ρ, m_X7_seating_L48 k0 231 (nI n) x2 (-1 : Int32) FU M (0 : Int32) = k0 K := k1
  have GK : GS K := G.sh k2.1
  have io := itr_ok (c 0 3) (by omega) (by omega)
  cases hi : itr_ (c 0 3) 720 [0, 1, 2, 3, 4, 5] with
  | none =>
    rw [hi] at io
    cases io
  | some L =>
    rw [hi] at io
    have eL : L.map (fun l => l.take (c 0 3)) = lvs_ (c 0 3) (c 0 3) 0 := Option.some.inj io
    have hok : ∀ z ∈ L, okl_ (c 0 3) (z.take (c 0 3)) = true := fun z hz => lvs_ok (c 0 3) (by omega) _ (by rw [← eL]; exact List.mem_map_of_mem hz)
    obtain ⟨N, y1, y2, y3⟩ := m_sL73 (n := n) w hd hn (x2 := x2) k0 720 _ L (0, []) FU K hi hok (by unfold FU; omega) GK (by rw [k2.2 235 (by decide)]; exact R) (fun t ht => by
      rw [k3 t ht]
      rcases (show t = 0 ∨ t = 1 ∨ t = 2 ∨ t = 3 ∨ t = 4 ∨ t = 5 by omega) with rfl | rfl | rfl | rfl | rfl | rfl <;> exact ⟨rfl, by decide⟩) (Nat.zero_le _) (fun z => absurd rfl z)
    have es : L.foldl (fun st z => wg_ (vl_ c n 0 (fun _ => false) 0 (z.take (c 0 3))) (z.take (c 0 3)) st) (0, []) = sb_ c n := by
      unfold sb_
      rw [← eL, List.foldl_map]
    rw [es] at y1 y3
    have y1' : m_X7_seating_L73 k0 231 (nI n) x2 FU K (-1 : Int32) (1 : Int32) = k0 N (nI (sb_ c n).1 - 1) := y1
    refine ⟨N, ?_, WZ_t (WZ_1 G (Or.inr (Or.inl rfl)) k2) y2, y3 (sb_pos w n)⟩
    rw [k1', y1']
end SM
section OSE
variable (A : aS)
theorem o_seating (x y : Int32) : both A (fun M => m_X6_seating M 0 x y) (fun M => m_X7_seating M 231 x y) := by
  intro M G h
  have hn := h.1
  by_cases h0 : aN A 0 3 = 0
  · refine ⟨A, -1000002, ?_, fun M' G' h' => ?_⟩
    · show opX (m_X6_seating M 0 x y) _ _ _
      rw [m_X6_seating, if_pos (O6 G), m_noS G hn, Option.bind_some, if_neg (by simp [h0, b2])]
      exact px0 G h
    · show opM (m_X7_seating M' 231 x y) _ _ _
      rw [m_X7_seating]
      refine q2 G' h' (fun M1 G1 h1 => ?_)
      rw [if_pos (O7 G1), m_isT G1 h1.1, Option.bind_some, if_pos (by simp [h0, b2])]
      exact pm0 G1 h1
  obtain ⟨w, i7, hd⟩ := vs_w hn.2 (j := 3) (by decide) h0
  have hP := w.2.2.2.1
  cases hr : rg x 1 12 with
  | false =>
    refine ⟨A, -1000001, ?_, fun M' G' h' => ?_⟩
    · show opX (m_X6_seating M 0 x y) _ _ _
      rw [m_X6_seating, if_pos (O6 G), m_noS G hn, Option.bind_some, if_pos (by simp [h0, b2]), n_out (b := false) hr, Option.bind_some, if_neg (by decide)]
      exact px0 G h
    · show opM (m_X7_seating M' 231 x y) _ _ _
      rw [m_X7_seating]
      refine q2 G' h' (fun M1 G1 h1 => ?_)
      rw [if_pos (O7 G1), m_isT G1 h1.1, Option.bind_some, if_neg (by simp [h0, b2]), n_in (b := false) hr, Option.bind_some, if_pos (by decide)]
      exact pm0 G1 h1
  | true =>
  have eP : (nI (aN A 0 3) - (1 : Int32)).toInt = (aN A 0 3 : Int) - 1 := sb_t (by omega)
  have e1 : (-1 : Int32).toInt = -1 := by decide
  cases hy : rg y (-1) ((aN A 0 3 : Int) - 1) with
  | false =>
    obtain ⟨y1, y2⟩ := rg_m0 (by omega) hy
    refine ⟨A, -1000001, ?_, fun M' G' h' => ?_⟩
    · show opX (m_X6_seating M 0 x y) _ _ _
      rw [m_X6_seating, if_pos (O6 G), m_noS G hn, Option.bind_some, if_pos (by simp [h0, b2]), n_out (b := true) hr, Option.bind_some, if_pos (by decide), R6n G, Option.bind_some, g_s (Sn G) hn.1 (j := 3) (by decide), Option.bind_some, n_out (b := false) (by rw [eP, e1]; exact hy), Option.bind_some, if_neg (by decide)]
      exact px0 G h
    · show opM (m_X7_seating M' 231 x y) _ _ _
      rw [m_X7_seating]
      refine q2 G' h' (fun M1 G1 h1 => ?_)
      rw [if_pos (O7 G1), m_isT G1 h1.1, Option.bind_some, if_neg (by simp [h0, b2]), n_in (b := true) hr, Option.bind_some, if_neg (by decide), if_neg y1, if_pos (O7 G1), m_isP G1 h1.1, y2, Option.bind_some, if_pos (by decide)]
      exact pm0 G1 h1
  | true =>
  obtain ⟨m, hm, rfl⟩ : ∃ m, m ≤ 12 ∧ x = nI m := rg_n (n := 12) (by
    simp only [rg, Bool.and_eq_true, decide_eq_true_eq] at hr ⊢
    omega)
  obtain ⟨N, n1, n2, n3, n4⟩ := m_sbX G hn.1 w hd hm
  have X0 : m_X6_seating M 0 (nI m) y = if (0 : Int32) ≤ y then ((gR N 0 6 5).bind fun b21 => (gR N b21 2 4).bind fun b23 => (ldI N b23 y).bind fun v26 => some (N, v26)) else ((gR N 0 6 5).bind fun b27 => (gI N b27 2 3).bind fun v29 => some (N, v29)) := by
    rw [m_X6_seating, if_pos (O6 G), m_noS G hn, Option.bind_some, if_pos (by simp [h0, b2]), n_out (b := true) hr, Option.bind_some, if_pos (by decide), R6n G, Option.bind_some, g_s (Sn G) hn.1 (j := 3) (by decide), Option.bind_some, n_out (b := true) (by rw [eP, e1]; exact hy), Option.bind_some, if_pos (by decide), R6f G, Option.bind_some, Option.bind_some, if_pos (FO G), n1, Option.bind_some]
  rcases rg_m1 hy with ⟨z1, z2⟩ | ⟨z1, z2, z3⟩
  · refine ⟨A, nI (sb_ (aN A) m).1 - 1, ?_, fun M' G' h' => ?_⟩
    · show opX (m_X6_seating M 0 (nI m) y) _ _ _
      rw [X0, if_neg z2, R6f n2.1, Option.bind_some, gI_ (FO n2.1), Option.bind_some, n3]
      exact pxW n2 h
    · show opM (m_X7_seating M' 231 (nI m) y) _ _ _
      rw [m_X7_seating]
      refine q2 G' h' (fun M1 G1 h1 => ?_)
      obtain ⟨K, k1, k2, k3⟩ := m_sM G1 h1.1.1 w hd hm (x2 := y) (fun M48 v49 => if y = (-1 : Int32) then some (M48, v49) else (gR M48 231 7 21).bind fun b51 => (ldI M48 b51 y).bind fun v54 => some (M48, v54))
      rw [if_pos (O7 G1), m_isT G1 h1.1, Option.bind_some, if_neg (by simp [h0, b2]), n_in (b := true) hr, Option.bind_some, if_neg (by decide), if_pos z1]
      refine (congrArg (fun o => opM o M1 A (nI (sb_ (aN A) m).1 - 1)) k1).mpr ?_
      show opM (if y = (-1 : Int32) then some (K, nI (sb_ (aN A) m).1 - 1) else _) _ _ _
      rw [if_pos z1]
      exact pmW k2 h1
  · obtain ⟨s, hs, rfl⟩ := rg_s z3
    refine ⟨A, nI ((sb_ (aN A) m).2.getD s 0), ?_, fun M' G' h' => ?_⟩
    · show opX (m_X6_seating M 0 (nI m) (nI s)) _ _ _
      rw [X0, if_pos z2, R6f n2.1, Option.bind_some, FR4 n2.1, Option.bind_some, ld_ (FA7 n2.1).1 (FA7 n2.1).2 (show s < 6 by omega) (by decide), Option.bind_some, n4 s hs]
      exact pxW n2 h
    · show opM (m_X7_seating M' 231 (nI m) (nI s)) _ _ _
      rw [m_X7_seating]
      refine q2 G' h' (fun M1 G1 h1 => ?_)
      obtain ⟨K, k1, k2, k3⟩ := m_sM G1 h1.1.1 w hd hm (x2 := nI s) (fun M48 v49 => if nI s = (-1 : Int32) then some (M48, v49) else (gR M48 231 7 21).bind fun b51 => (ldI M48 b51 (nI s)).bind fun v54 => some (M48, v54))
      rw [if_pos (O7 G1), m_isT G1 h1.1, Option.bind_some, if_neg (by simp [h0, b2]), n_in (b := true) hr, Option.bind_some, if_neg (by decide), if_neg z1, if_pos (O7 G1), m_isP G1 h1.1, z3, Option.bind_some, if_neg (by decide)]
      refine (congrArg (fun o => opM o M1 A (nI ((sb_ (aN A) m).2.getD s 0))) k1).mpr ?_
      show opM (if nI s = (-1 : Int32) then some (K, nI (sb_ (aN A) m).1 - 1) else _) _ _ _
      rw [if_neg z1, R721 k2.1, Option.bind_some, ld_ (A42 k2.1).1 (A42 k2.1).2 (show s < 6 by omega) (by decide), Option.bind_some, k3 s hs]
      exact pmW k2 h1
end OSE
