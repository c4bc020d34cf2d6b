/-! ===== seating: seats filled from the front ===== -/
def FZ_ (B : mM) (c : sT) (n : Nat) (st : Nat × List Nat) (M : mM) : Prop := sh B M ∧ (∀ b, (b < 189 ∨ 198 < b) → mi_ M b = mi_ B b) ∧ (∃ e, SA M 190 e ∧ wf e ∧ EO_ c e) ∧ mi_ M 189 2 = nI n ∧ mi_ M 189 3 = nI st.1 - 1 ∧ (st.1 ≠ 0 → ∀ j, j < c 0 3 → mi_ M 197 j = nI (st.2.getD j 0)) ∧ st.1 ≤ 37
section FS
variable {B M : mM} {c : sT} {n : Nat}
theorem FR5 (G : GS M) : gR M 189 2 5 = some 198 := gR_ (FO G) (G.r (by decide +kernel))
theorem FR4 (G : GS M) : gR M 189 2 4 = some 197 := gR_ (FO G) (G.r (by decide +kernel))
theorem FA8 (G : GS M) : 198 < mz M ∧ mk_ M 198 = (1, 6) := G.a (by decide) (by decide +kernel)
theorem FA7 (G : GS M) : 197 < mz M ∧ mk_ M 197 = (1, 6) := G.a (by decide) (by decide +kernel)
theorem m_wg (GB : GS B) (w : wf c) {st : Nat × List Nat} (h : FZ_ B c n st M) {v : Nat} (hv : v ≤ 36) {l : List Nat} (hl : ∀ j, j < c 0 3 → mi_ M 198 j = nI (l.getD j 0)) : ∃ N, m_X2_weigh M 189 (nI v) = some N ∧ FZ_ B c n (wg_ v l st) N ∧ mi_ N 198 = mi_ M 198 := by
  obtain ⟨h1, h2, ⟨e, A, we, eo⟩, h4, h5, h6, h7⟩ := h
  have hP := w.2.2.2.1.2
  have G : GS M := GB.sh h1
  have hd := f_wg v (by omega) st.1 (by omega)
  rw [m_X2_weigh, gI_ (FO G), Option.bind_some, h5]
  by_cases hlt : v < st.1
  · rw [if_pos (by rw [decide_eq_true hlt] at hd; exact of_decide_eq_true hd)]
    refine ⟨M, rfl, ?_, rfl⟩
    rw [show wg_ v l st = st from if_pos hlt]
    exact ⟨h1, h2, ⟨e, A, we, eo⟩, h4, h5, h6, h7⟩
  · rw [if_neg (by rw [decide_eq_false hlt] at hd; exact of_decide_eq_false hd)]
    have G4 : GS (wI M 189 3 (nI v)) := GS_w G
    have hc := cp_ (M := wI M 189 3 (nI v)) (a := 198) (b := 197) (i := 0) (j := 0) (n := 6) (FA8 G4).1 (FA8 G4).2 (FA7 G4).1 (FA7 G4).2 (by decide) (by decide) (by decide) (by decide)
    refine ⟨wC (wI M 189 3 (nI v)) 198 197 0 0 6, ?_, ?_, ?_⟩
    · rw [pI_ (FO G), Option.bind_some, FR5 G4, Option.bind_some, FR4 G4, Option.bind_some, show cpI (wI M 189 3 (nI v)) 198 (0 : Int32) 197 (0 : Int32) (6 : Int32) = _ from hc, Option.bind_some]
    · rw [show wg_ v l st = (v + 1, l) from if_neg hlt]
      refine ⟨sh_t h1 (sh_t (sh_w _ _ _ _) (sh_c _ _ _ _ _ _)), fun b hb => ?_, ⟨e, A.o (fun a ha => ?_), we, eo⟩, ?_, ?_, fun _ j hj => ?_, by show v + 1 ≤ 37; omega⟩
      · rw [wC_o (by omega), wI_o (by omega)]
        exact h2 b hb
      · rw [wC_o (by omega), wI_o (by omega)]
      · rw [wC_o (by decide), wI_s, if_neg (by decide)]
        exact h4
      · rw [wC_o (by decide), wI_s, if_pos rfl]
        exact (nI_pred v).symm
      · rw [wC_s, pk_cpy_in (Nat.zero_le _) (by omega), wI_o (by decide), show 0 + (j - 0) = j by omega]
        exact hl j hj
    · rw [wC_o (by decide), wI_o (by decide)]
/-- what comes behind a pupil's days -/
def fsT_ (rc : mM → Nat → Int32 → Int32 → Int32 → Int32 → Option mM) (seat tk fb s i x2 : Int32) (m : Nat) (M : mM) : Option mM :=
  if isO M 189 2 = true then bd2 (m_X2_goThrough M 189 i x2) fun M26 v27 => (gR M26 189 2 0).bind fun b28 => if isO M26 b28 5 = true then (m_X5_form M26 b28 i).bind fun v31 => (rc M26 189 (seat + (1 : Int32)) (tk ||| ((1 : Int32) <<< (i &&& 31))) v27 (s + v31)).bind fun M33 => m_X2_fillSeat_L27 (fun M48 => some M48) rc 189 seat tk fb s m M33 (i + (1 : Int32)) else none else none
theorem fs_eq (rc : mM → Nat → Int32 → Int32 → Int32 → Int32 → Option mM) (seat tk fb s i : Int32) (m : Nat) (M : mM) : m_X2_fillSeat_L27 (fun M48 => some M48) rc 189 seat tk fb s (m + 1) M i = ((gR M 189 2 0).bind fun b10 => (gI M b10 5 3).bind fun v12 => if v12 ≤ i then some M else if ((tk >>> (i &&& 31)) &&& (1 : Int32)) = (0 : Int32) then ((gR M 189 2 5).bind fun b16 => (stI M b16 seat i).bind fun M18 => (gR M18 189 2 0).bind fun b20 => if isO M18 b20 5 = true then (m_X5_hearsAnyway M18 b20 i seat).bind fun v23 => if v23 = (0 : Int32) then fsT_ rc seat tk fb s i fb m M18 else fsT_ rc seat tk fb s i (-1 : Int32) m M18 else none) else m_X2_fillSeat_L27 (fun M48 => some M48) rc 189 seat tk fb s m M (i + (1 : Int32))) := rfl
theorem m_fs (GB : GS B) (w : wf c) (hn : n ≤ 12) (hd : c 0 4 ≤ 999) (rB : mr_ B 189 1 = some 2) (AB : SA B 2 c) : ∀ (k seat tk fb s m : Nat) (F : Nat → Bool) (pre : List Nat) (st : Nat × List Nat) (M : mM), seat + k = c 0 3 → k < m → tk < 64 → fb < 2 ^ 12 → (∀ d, d < n → fb.testBit d = F d) → s ≤ 6 * seat → pre.length = seat → (∀ j, j < seat → mi_ M 198 j = nI (pre.getD j 0)) → FZ_ B c n st M →
    ∃ N, m_X2_fillSeat m M 189 (nI seat) (nI tk) (nI fb) (nI s) = some N ∧ FZ_ B c n ((lvs_ (c 0 3) k tk).foldl (fun st l => wg_ (vl_ c n seat F s l) (pre ++ l) st) st) N ∧ ∀ j, j < seat → mi_ N 198 j = mi_ M 198 j := by
  have hP := w.2.2.2.1.2
  have hJ := w.2.1.2
  intro k
  induction k with
  | zero =>
    intro seat tk fb s m F pre st M hk hm htk hfb hF hs hpl hpre h
    obtain ⟨m, rfl⟩ : ∃ z, m = z + 1 := ⟨m - 1, by omega⟩
    obtain ⟨h1, h2, ⟨e, A, we, eo⟩, h4, h5, h6, h7⟩ := h
    have G : GS M := GB.sh h1
    have e03 : e 0 3 = c 0 3 := by rw [eo 0 (by decide) (by decide)]
    obtain ⟨N, n1, n2, n3⟩ := m_wg GB w ⟨h1, h2, ⟨e, A, we, eo⟩, h4, h5, h6, h7⟩ (v := s) (by omega) (l := pre ++ []) (fun j hj => by rw [List.append_nil]; exact hpre j (by omega))
    refine ⟨N, ?_, n2, fun j _ => by rw [n3]⟩
    rw [m_X2_fillSeat, FW G, Option.bind_some, g_s (Sw G) A (j := 3) (by decide), Option.bind_some, e03, if_pos (nI_le (by omega) (by omega)), if_pos (FO G), n1, Option.bind_some]
  | succ k ih =>
    intro seat tk fb s m F pre st M hk hm htk hfb hF hs hpl hpre h
    obtain ⟨m, rfl⟩ : ∃ z, m = z + 1 := ⟨m - 1, by omega⟩
    have loop : ∀ (d i m' : Nat) (M : mM) (st : Nat × List Nat), i + d = c 0 3 → d < m' → (∀ j, j < seat → mi_ M 198 j = nI (pre.getD j 0)) → FZ_ B c n st M → ∃ N, m_X2_fillSeat_L27 (fun M48 => some M48) (m_X2_fillSeat m) 189 (nI seat) (nI tk) (nI fb) (nI s) m' M (nI i) = some N ∧ FZ_ B c n ((lvI_ (lvs_ (c 0 3) k) tk i d).foldl (fun st l => wg_ (vl_ c n seat F s l) (pre ++ l) st) st) N ∧ ∀ j, j < seat → mi_ N 198 j = mi_ M 198 j := by
      intro d
      induction d with
      | zero =>
        intro i m' M st hi hm' hpre h
        obtain ⟨m', rfl⟩ : ∃ z, m' = z + 1 := ⟨m' - 1, by omega⟩
        refine ⟨M, ?_, h, fun _ _ => rfl⟩
        obtain ⟨h1, h2, ⟨e, A, we, eo⟩, h4, h5, h6, h7⟩ := h
        have G : GS M := GB.sh h1
        have e03 : e 0 3 = c 0 3 := by rw [eo 0 (by decide) (by decide)]
        rw [fs_eq, FW G, Option.bind_some, g_s (Sw G) A (j := 3) (by decide), Option.bind_some, e03, if_pos (nI_le (by omega) (by omega))]
      | succ d ihd =>
        intro i m' M st hi hm' hpre h
        obtain ⟨m', rfl⟩ : ∃ z, m' = z + 1 := ⟨m' - 1, by omega⟩
        have h0 := h
        obtain ⟨h1, h2, ⟨e, A, we, eo⟩, h4, h5, h6, h7⟩ := h
        have G : GS M := GB.sh h1
        have e03 : e 0 3 = c 0 3 := by rw [eo 0 (by decide) (by decide)]
        have hi' : i < c 0 3 := by omega
        have fbt := f_bit tk htk i (by omega)
        rw [fs_eq, FW G, Option.bind_some, g_s (Sw G) A (j := 3) (by decide), Option.bind_some, e03, if_neg (nI_ge hi' (by omega)), fbt]
        have un : lvI_ (lvs_ (c 0 3) k) tk i (d + 1) = (if tk.testBit i then [] else (lvs_ (c 0 3) k (tk ||| 2 ^ i)).map (fun l => i :: l)) ++ lvI_ (lvs_ (c 0 3) k) tk (i + 1) d := rfl
        rw [un]
        cases htb : tk.testBit i with
        | true =>
          rw [if_neg (by decide), if_pos rfl, List.nil_append, nI_1]
          exact ihd (i + 1) m' M st (by omega) (by omega) hpre h0
        | false =>
          rw [if_pos (by decide), if_neg (by decide), List.foldl_append, List.foldl_map]
          have G8 : GS (wI M 198 seat (nI i)) := GS_w G
          have hst := st_ (v := nI i) (FA8 G).1 (FA8 G).2 (show seat < 6 by omega) (by decide)
          have A8 : SA (wI M 198 seat (nI i)) 190 e := A.o (fun a ha => wI_o (by omega))
          have ea := m_hany (Sw G8) we A8 (p := i) (t := seat) (by omega) (by omega)
          have eh : hany e i seat = hany c i seat := by
            unfold hany
            rw [eo 0 (by decide) (by decide), eo 3 (by decide) (by decide)]
          rw [eh] at ea
          rw [FR5 G, Option.bind_some, hst, Option.bind_some, FW G8, Option.bind_some, if_pos (Sw G8).1, ea, Option.bind_some]
          have tail : ∀ x2 : Int32, (∀ d, d < n → ((x2 >>> (nI d &&& 31)) &&& (1 : Int32)) = b2 (F d || hany c i seat)) → ∃ N, fsT_ (m_X2_fillSeat m) (nI seat) (nI tk) (nI fb) (nI s) (nI i) x2 m' (wI M 198 seat (nI i)) = some N ∧ FZ_ B c n ((lvI_ (lvs_ (c 0 3) k) tk (i + 1) d).foldl (fun st l => wg_ (vl_ c n seat F s l) (pre ++ l) st) ((lvs_ (c 0 3) k (tk ||| 2 ^ i)).foldl (fun st l => wg_ (vl_ c n seat F s (i :: l)) (pre ++ (i :: l)) st) st)) N ∧ ∀ j, j < seat → mi_ N 198 j = mi_ M 198 j := by
            intro x2 hx2
            obtain ⟨N1, e', q1, q2, q3, q4, q5, q6⟩ := m_gt (h := fun d => F d || hany c i seat) G8 w hi' hn hd hx2 (by show mr_ M 189 1 = some 2; rw [h1.2.2]; exact rB) (AB.o (fun a ha => by rw [wI_o (by omega)]; exact h2 _ (by omega))) (by rw [wI_o (by decide)]; exact h4) A8 we eo
            have G1 : GS N1 := G8.sh q6.1
            have e0' : e' 0 = c 0 := q4 0 (by decide) (by decide)
            have ef := m_form (Sw G1) q3 q2 (p := i) (by rw [e0']; exact hi')
            rw [q5.1] at ef
            have o7 : mi_ N1 197 = mi_ M 197 := (q6.2 197 (by decide)).trans (wI_o (by decide))
            have o9 : mi_ N1 189 = mi_ M 189 := (q6.2 189 (by decide)).trans (wI_o (by decide))
            have o8 : mi_ N1 198 = mi_ (wI M 198 seat (nI i)) 198 := q6.2 198 (by decide)
            have Z1 : FZ_ B c n st N1 := ⟨sh_t h1 (sh_t (sh_w _ _ _ _) q6.1), fun b hb => by rw [q6.2 b (by omega), wI_o (by omega)]; exact h2 b hb, ⟨e', q2, q3, q4⟩, by rw [o9]; exact h4, by rw [o9]; exact h5, fun z j hj => by rw [o7]; exact h6 z j hj, h7⟩
            have hbcl := f_bcl _ (Nat.lt_of_lt_of_le (pj_lt w hi' (fun d => F d || hany c i seat) n) (p2_64 hJ))
            have hkl : kb_ c i (fun d => F d || hany c i seat) 0 n 0 < 2 ^ 12 := Nat.lt_of_lt_of_le (kb_lt n 0 0 (by decide)) (Nat.pow_le_pow_right (by decide) (by omega))
            obtain ⟨N2, z1, z2, z3⟩ := ih (seat + 1) (tk ||| 2 ^ i) (kb_ c i (fun d => F d || hany c i seat) 0 n 0) (s + bc (pj_ c i (fun d => F d || hany c i seat) n).1) m (kq_ c i (fun d => F d || hany c i seat)) (pre ++ [i]) st N1 (by omega) (by omega) (o_lt htk (p2_lt (by omega))) hkl (fun d hd => by
              show (fo _ 0 n 0).testBit d = _
              rw [kb_bit, Nat.zero_testBit, Bool.false_or, show decide (0 ≤ d) = true from decide_eq_true (Nat.zero_le _), show decide (d < 0 + n) = true from decide_eq_true (by omega)]
              rfl) (by omega) (by rw [List.length_append, hpl]; rfl) (fun j hj => by
              rw [o8, wI_s]
              by_cases hjs : j = seat
              · rw [if_pos hjs, hjs, List.getD_eq_getElem?_getD, List.getElem?_append_right (by omega), hpl, Nat.sub_self]
                rfl
              · rw [if_neg hjs, hpre j (by omega), List.getD_eq_getElem?_getD, List.getD_eq_getElem?_getD, List.getElem?_append_left (by omega)]) Z1
            have pre2 : ∀ j, j < seat → mi_ N2 198 j = mi_ M 198 j := fun j hj => by
              rw [z3 j (by omega), o8, wI_s, if_neg (by omega)]
            obtain ⟨N3, y1, y2, y3⟩ := ihd (i + 1) m' N2 _ (by omega) (by omega) (fun j hj => by rw [pre2 j hj]; exact hpre j hj) z2
            refine ⟨N3, ?_, ?_, fun j hj => by rw [y3 j hj]; exact pre2 j hj⟩
            · rw [fsT_, if_pos (FO G8), q1, bd2_s, FW G1, Option.bind_some, if_pos (Sw G1).1, ef, Option.bind_some, nI_1, f_or tk htk i (by omega), nI_add, z1, Option.bind_some, nI_1, y1]
            · have efn : (fun (st : Nat × List Nat) (l : List Nat) => wg_ (vl_ c n seat F s (i :: l)) (pre ++ (i :: l)) st) = fun st l => wg_ (vl_ c n (seat + 1) (kq_ c i (fun d => F d || hany c i seat)) (s + bc (pj_ c i (fun d => F d || hany c i seat) n).1) l) (pre ++ [i] ++ l) st := by
                funext st l
                rw [List.append_cons]
                rfl
              rw [efn]
              exact y2
          cases hha : hany c i seat with
          | false =>
            rw [if_pos (by decide)]
            exact tail _ (fun d hd => by rw [f_b12 (by omega) (by omega), hF d hd, hha, Bool.or_false])
          | true =>
            rw [if_neg (by decide)]
            exact tail _ (fun d hd => by rw [f_m12 d (by omega), hha, Bool.or_true]; rfl)
    obtain ⟨h1, h2, ⟨e, A, we, eo⟩, h4, h5, h6, h7⟩ := h
    have G : GS M := GB.sh h1
    have e03 : e 0 3 = c 0 3 := by rw [eo 0 (by decide) (by decide)]
    obtain ⟨N, n1, n2, n3⟩ := loop (c 0 3) 0 FU M st (by omega) (by unfold FU; omega) hpre ⟨h1, h2, ⟨e, A, we, eo⟩, h4, h5, h6, h7⟩
    refine ⟨N, ?_, n2, n3⟩
    rw [m_X2_fillSeat, FW G, Option.bind_some, g_s (Sw G) A (j := 3) (by decide), Option.bind_some, e03, if_neg (nI_ge (by omega) (by omega)), if_pos (show nI seat < (6 : Int32) from (nI_lt (by omega) (by decide) : nI seat < nI 6))]
    exact n1
theorem m_sbX (G : GS M) (h : SA M 2 c) (w : wf c) (hd : c 0 4 ≤ 999) (hn : n ≤ 12) : ∃ N, m_X2_seatBest M 189 2 (nI n) = some N ∧ WY M N ∧ mi_ N 189 3 = nI (sb_ c n).1 - 1 ∧ ∀ j, j < c 0 3 → mi_ N 197 j = nI ((sb_ c n).2.getD j 0) := by
  obtain ⟨K, k1, k2, k3⟩ := wbe G h (wf_b w)
  have wK : GS (wR K 189 1 2) := GS_r k3.1 (Or.inr rfl)
  obtain ⟨N, n1, n2, n3⟩ := m_fs (B := wI (wI (wR K 189 1 2) 189 2 (nI n)) 189 3 (-1)) (n := n) (GS_w (GS_w wK)) w hn hd (by show (wR K 189 1 2).2.2.2 189 1 = some 2; simp [wR, mr_, up2]) (h.o (fun a ha => by rw [wI_o (by omega), wI_o (by omega)]; exact k3.2 _ (by omega))) (c 0 3) 0 0 0 0 8 (fun _ => false) [] (0, []) _ (by omega) (by have := w.2.2.2.1.2; omega) (by decide) (by decide) (fun d _ => Nat.zero_testBit d) (by omega) rfl (fun j hj => absurd hj (Nat.not_lt_zero _)) ⟨sh_r _, fun _ _ => rfl, ⟨c, k2.o (fun a ha => by rw [wI_o (by omega), wI_o (by omega)]; rfl), w, fun _ _ _ => rfl⟩, by rw [wI_s, if_neg (by decide), wI_s, if_pos rfl], by rw [wI_s, if_pos rfl]; rfl, fun z => absurd rfl z, Nat.zero_le _⟩
  have n2' : FZ_ (wI (wI (wR K 189 1 2) 189 2 (nI n)) 189 3 (-1)) c n (sb_ c n) N := n2
  refine ⟨N, ?_, ⟨(GS_w (GS_w wK)).sh n2'.1, fun b hb => ?_⟩, n2'.2.2.2.2.1, n2'.2.2.2.2.2.1 (sb_pos w n)⟩
  · rw [m_X2_seatBest, FW G, Option.bind_some, if_pos (Sw G).1, k1, Option.bind_some, pR_ (FO k3.1), Option.bind_some, pI_ (FO wK), Option.bind_some, pI_ (FO (GS_w wK)), Option.bind_some]
    rw [show m_X2_fillSeat 8 _ 189 (0 : Int32) (0 : Int32) (0 : Int32) (0 : Int32) = _ from n1, Option.bind_some]
  · rw [n2'.2.1 b hb, wI_o (by omega), wI_o (by omega)]
    exact k3.2 b hb
end FS
