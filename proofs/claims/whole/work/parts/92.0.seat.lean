/-! ===== seating: one pupil's days by itself; the orders; pure ===== -/
def st1_ (c : sT) (p s : Nat) (x : Nat × (Nat → Nat)) : Nat × (Nat → Nat) := (nk c (c 3 p) s (h1_ (x.2 s)) x.1, up1 x.2 s (h1_ (x.2 s)))
def pj_ (c : sT) (p : Nat) (h : Nat → Bool) : Nat → Nat × (Nat → Nat)
  | 0 => (c 4 p, fun s => c 6 (p * 6 + s))
  | d + 1 => if h d then st1_ c p (taught c (c 0 4 + d)) (pj_ c p h d) else pj_ c p h d
/-- a pupil as it stands in a school -/
def isP_ (c e : sT) (p : Nat) (x : Nat × (Nat → Nat)) : Prop := e 4 p = x.1 ∧ ∀ s, s < c 0 1 → e 6 (p * 6 + s) = x.2 s
theorem nk_cg {c e : sT} (h0 : e 0 1 = c 0 1) (h1 : e 1 = c 1) (t s h n : Nat) : nk e t s h n = nk c t s h n := by
  unfold nk kg ko kg k1_ grasp
  rw [h1, h0]
theorem hear_pj {c e : sT} {p s : Nat} {x : Nat × (Nat → Nat)} (h0 : e 0 1 = c 0 1) (h1 : e 1 = c 1) (h3 : e 3 = c 3) (hs : s < c 0 1) (h : isP_ c e p x) : isP_ c (hear1 e p s) p (st1_ c p s x) := by
  refine ⟨?_, fun q hq => ?_⟩
  · unfold hear1
    rw [up_s, nk_cg h0 h1, h3, h.1, h.2 s hs]
    rfl
  · unfold hear1
    rw [up_o (by decide)]
    show up2 e 6 (p * 6 + s) _ 6 (p * 6 + q) = up1 x.2 s (h1_ (x.2 s)) q
    by_cases hqs : q = s
    · rw [hqs, up_s, up1_s, h.2 s hs]
    · rw [up_q (by omega), up1_o hqs, h.2 q hq]
theorem day_pj {c e : sT} (w : wf e) (h0 : e 0 1 = c 0 1) (h1 : e 1 = c 1) (h3 : e 3 = c 3) {t : Nat} (ht : t < e 0 3) {x : Nat × (Nat → Nat)} (hx : isP_ c e (e 5 t) x) : isP_ c (dayS e) (e 5 t) (if hc e (taught e (e 0 4)) t then st1_ c (e 5 t) (taught e (e 0 4)) x else x) := by
  have hs := tau_lt w (e 0 4)
  have hJ := w.2.1.2
  have d4 : ∀ b q, b ≠ 0 → dayS e b q = ds e (taught e (e 0 4)) b q := fun b q hb => by
    unfold dayS
    rw [up_o hb]
  generalize taught e (e 0 4) = s at hs d4
  have B := fo_pt (c := e) (s := s) (fun t => hc e s t) (fun t => e 5 t) (e 0 3) 0 e (fun u v a1 a2 a3 a4 h => w.2.2.2.2.2.2.2.2.2.2.1 u v (by omega) (by omega) h) (fun _ _ _ => rfl) (fun _ _ _ => ⟨rfl, rfl⟩)
  have b1 := B.1 t (Nat.zero_le _) (by omega)
  have e4 : ds e s 4 (e 5 t) = if hc e s t then nk e (e 3 (e 5 t)) s (h1_ (e 6 (e 5 t * 6 + s))) (e 4 (e 5 t)) else e 4 (e 5 t) := b1.1
  have e6 : ds e s 6 (e 5 t * 6 + s) = if hc e s t then h1_ (e 6 (e 5 t * 6 + s)) else e 6 (e 5 t * 6 + s) := b1.2
  have o6 : ∀ q, q < 6 → q ≠ s → ds e s 6 (e 5 t * 6 + q) = e 6 (e 5 t * 6 + q) := fun q hq hqs => B.2 6 (e 5 t * 6 + q) (fun u _ hu => ⟨fun z => by omega, fun z => by have z2 : e 5 t * 6 + q = e 5 u * 6 + s := z.2; omega⟩)
  cases hh : hc e s t with
  | true =>
    rw [hh, if_pos rfl] at e4 e6
    rw [if_pos rfl]
    refine ⟨?_, fun q hq => ?_⟩
    · rw [d4 4 _ (by decide), e4, nk_cg h0 h1, h3, hx.1, hx.2 s (by omega)]
      rfl
    · rw [d4 6 _ (by decide)]
      show _ = up1 x.2 s (h1_ (x.2 s)) q
      by_cases hqs : q = s
      · rw [hqs, up1_s, e6, hx.2 s (by omega)]
      · rw [up1_o hqs, o6 q (by omega) hqs, hx.2 q hq]
  | false =>
    rw [hh, if_neg (by decide)] at e4 e6
    rw [if_neg (by decide)]
    refine ⟨?_, fun q hq => ?_⟩
    · rw [d4 4 _ (by decide), e4, hx.1]
    · rw [d4 6 _ (by decide)]
      by_cases hqs : q = s
      · rw [hqs, e6, hx.2 s (by omega)]
      · rw [o6 q (by omega) hqs, hx.2 q hq]
theorem dN_s : ∀ (n : Nat) (c : sT), dN (n + 1) c = dayS (dN n c)
  | 0, _ => rfl
  | n + 1, c => dN_s n (dayS c)
theorem dN_r : ∀ (n : Nat) (c : sT), wf c → c 0 4 + n ≤ 2000 → ∀ b, b ≠ 0 → b ≠ 4 → b ≠ 6 → dN n c b = c b
  | 0, _, _, _, _, _, _, _ => rfl
  | n + 1, c, w, h, b, h0, h4, h6 => (dN_r n (dayS c) (wf_day w (by omega)) (by rw [dayS_4]; omega) b h0 h4 h6).trans (dayS_r w b h4 h6 h0)
theorem dN_4 : ∀ (n : Nat) (c : sT), dN n c 0 4 = c 0 4 + n
  | 0, _ => rfl
  | n + 1, c => by
    show dN n (dayS c) 0 4 = _
    rw [dN_4 n (dayS c), dayS_4]
    omega
/-- another order of seats -/
def sS_ (c : sT) (l : List Nat) : sT := fun b => if b = 5 then (fun t => l.getD t 0) else if b = 7 then (fun p => l.idxOf p) else c b
def okl_ (P : Nat) (l : List Nat) : Bool := (l.length == P) && l.isPerm (List.range P) && (List.range P).all (fun t => decide (l.getD t 0 < P) && (l.idxOf (l.getD t 0) == t) && decide (l.idxOf t < P) && (l.getD (l.idxOf t) 0 == t))
theorem okl_s {P : Nat} {l : List Nat} (h : okl_ P l = true) : l.length = P ∧ l.Perm (List.range P) ∧ (∀ t, t < P → l.getD t 0 < P ∧ l.idxOf (l.getD t 0) = t) ∧ ∀ p, p < P → l.idxOf p < P ∧ l.getD (l.idxOf p) 0 = p := by
  simp only [okl_, Bool.and_eq_true, beq_iff_eq, List.all_eq_true, List.mem_range, decide_eq_true_eq, List.isPerm_iff] at h
  exact ⟨h.1.1, h.1.2, fun t ht => ⟨(h.2 t ht).1.1.1, (h.2 t ht).1.1.2⟩, fun t ht => ⟨(h.2 t ht).1.2, (h.2 t ht).2⟩⟩
theorem wf_sS {c : sT} {l : List Nat} (w : wf c) (h : okl_ (c 0 3) l = true) : wf (sS_ c l) := by
  obtain ⟨w0, w1, w2, w3, w4, w5, w6, w7, w8, w9, w10, w11⟩ := w
  obtain ⟨h1, h2, h3, h4⟩ := okl_s h
  refine ⟨w0, w1, w2, w3, w4, w5, w6, w7, w8, fun t ht => (h3 t ht).1, fun t u ht hu e => ?_, w11⟩
  have e' : l.getD t 0 = l.getD u 0 := e
  have a := (h3 t ht).2
  rw [e', (h3 u hu).2] at a
  exact a.symm
theorem iv_sS {c : sT} {l : List Nat} (h : okl_ (c 0 3) l = true) : iv (sS_ c l) := by
  obtain ⟨h1, h2, h3, h4⟩ := okl_s h
  exact ⟨fun p hp => ⟨(h4 p hp).1, (h4 p hp).2⟩, fun t ht => (h3 t ht).2⟩
theorem hc_dN {c : sT} {l : List Nat} (w : wf (sS_ c l)) {d s t : Nat} (hd : c 0 4 + d ≤ 2000) : hc (dN d (sS_ c l)) s t = ((decide (0 < t) && (dN d (sS_ c l) 4 (l.getD (t - 1) 0)).testBit s) || hany c (l.getD t 0) t) := by
  unfold hc hany
  rw [dN_r d _ w hd 5 (by decide) (by decide) (by decide), dN_r d _ w hd 3 (by decide) (by decide) (by decide), dN_0 d _ w hd 0 (by decide)]
  rfl
theorem dN_pj {c : sT} {l : List Nat} (w : wf (sS_ c l)) (i7 : iv (sS_ c l)) {t : Nat} (ht : t < c 0 3) {h : Nat → Bool} : ∀ d, c 0 4 + d ≤ 2000 → (∀ k, k < d → h k = hc (dN k (sS_ c l)) (taught c (c 0 4 + k)) t) → isP_ c (dN d (sS_ c l)) (l.getD t 0) (pj_ c (l.getD t 0) h d)
  | 0, _, _ => ⟨rfl, fun _ _ => rfl⟩
  | d + 1, hd, hh => by
    have ih := dN_pj w i7 ht d (by omega) (fun k hk => hh k (by omega))
    have wd := (dN_ok d _ w i7 (show c 0 4 + d ≤ 2000 by omega)).1
    have r5 : dN d (sS_ c l) 5 t = l.getD t 0 := by
      rw [dN_r d _ w (show c 0 4 + d ≤ 2000 by omega) 5 (by decide) (by decide) (by decide)]
      rfl
    have r03 : dN d (sS_ c l) 0 3 = c 0 3 := dN_0 d _ w (show c 0 4 + d ≤ 2000 by omega) 3 (by decide)
    have r01 : dN d (sS_ c l) 0 1 = c 0 1 := dN_0 d _ w (show c 0 4 + d ≤ 2000 by omega) 1 (by decide)
    have r02 : dN d (sS_ c l) 0 2 = c 0 2 := dN_0 d _ w (show c 0 4 + d ≤ 2000 by omega) 2 (by decide)
    have r1 : dN d (sS_ c l) 1 = c 1 := dN_r d _ w (show c 0 4 + d ≤ 2000 by omega) 1 (by decide) (by decide) (by decide)
    have r2 : dN d (sS_ c l) 2 = c 2 := dN_r d _ w (show c 0 4 + d ≤ 2000 by omega) 2 (by decide) (by decide) (by decide)
    have r3 : dN d (sS_ c l) 3 = c 3 := dN_r d _ w (show c 0 4 + d ≤ 2000 by omega) 3 (by decide) (by decide) (by decide)
    have tt : taught (dN d (sS_ c l)) (dN d (sS_ c l) 0 4) = taught c (c 0 4 + d) := by
      unfold taught
      rw [r2, r02, dN_4]
      rfl
    have k := day_pj (c := c) wd r01 r1 r3 (t := t) (by omega) (x := pj_ c (l.getD t 0) h d) (by rw [r5]; exact ih)
    rw [r5, tt, ← hh d (by omega)] at k
    rw [dN_s]
    exact k
/-- how much is known behind n days, seats filled from the front -/
def vl_ (c : sT) (n : Nat) : Nat → (Nat → Bool) → Nat → List Nat → Nat
  | _, _, s, [] => s
  | t, F, s, p :: l => vl_ c n (t + 1) (fun d => ((pj_ c p (fun d => F d || hany c p t) d).1).testBit (taught c (c 0 4 + d))) (s + bc (pj_ c p (fun d => F d || hany c p t) n).1) l
theorem drop_c {l : List Nat} {t : Nat} (h : t < l.length) : l.drop t = l.getD t 0 :: l.drop (t + 1) := by
  rw [List.drop_eq_getElem_cons h, List.getD_eq_getElem?_getD, List.getElem?_eq_getElem h]
  rfl
theorem vl_fo {c : sT} {l : List Nat} {n : Nat} (w : wf (sS_ c l)) (i7 : iv (sS_ c l)) (hl : l.length = c 0 3) (hn : c 0 4 + n ≤ 2000) : ∀ (k t s : Nat) (F : Nat → Bool), t + k = c 0 3 → (∀ d, d ≤ n → F d = (decide (0 < t) && (dN d (sS_ c l) 4 (l.getD (t - 1) 0)).testBit (taught c (c 0 4 + d)))) → vl_ c n t F s (l.drop t) = fo (fun u x => x + bc (dN n (sS_ c l) 4 (l.getD u 0))) t k s
  | 0, t, s, F, ht, hF => by
    rw [List.drop_of_length_le (by omega)]
    rfl
  | k + 1, t, s, F, ht, hF => by
    have key : ∀ d, d ≤ n → isP_ c (dN d (sS_ c l)) (l.getD t 0) (pj_ c (l.getD t 0) (fun d => F d || hany c (l.getD t 0) t) d) := fun d hd => dN_pj w i7 (by omega) d (by omega) (fun k hk => by
      rw [hc_dN w (by omega), ← hF k (by omega)])
    rw [drop_c (by omega)]
    show vl_ c n (t + 1) _ _ (l.drop (t + 1)) = fo _ (t + 1) k _
    rw [vl_fo w i7 hl hn k (t + 1) _ _ (by omega) (fun d hd => by
      rw [(key d hd).1.symm, show t + 1 - 1 = t by omega, show decide (0 < t + 1) = true from decide_eq_true (by omega), Bool.true_and]), ← (key n (Nat.le_refl _)).1]
theorem fo_sum (g : Nat → Nat) : ∀ (k t s : Nat), fo (fun u x => x + g u) t k s = s + ((List.range' t k).map g).sum
  | 0, t, s => rfl
  | k + 1, t, s => by
    show fo _ (t + 1) k (s + g t) = _
    rw [fo_sum g k (t + 1) (s + g t), List.range'_succ, List.map_cons, List.sum_cons]
    omega
theorem vl_ok {c : sT} {l : List Nat} {n : Nat} (w : wf c) (h : okl_ (c 0 3) l = true) (hn : c 0 4 + n ≤ 2000) : known (dN n (sS_ c l)) = vl_ c n 0 (fun _ => false) 0 l := by
  obtain ⟨h1, h2, h3, h4⟩ := okl_s h
  have w' := wf_sS w h
  have i7 := iv_sS h
  have a := vl_fo (n := n) w' i7 h1 hn (c 0 3) 0 0 (fun _ => false) (by omega) (fun d _ => rfl)
  rw [List.drop_zero] at a
  have e3 : dN n (sS_ c l) 0 3 = c 0 3 := dN_0 n _ w' hn 3 (by decide)
  rw [a, fo_sum, known, e3, fo_sum (fun p => bc (dN n (sS_ c l) 4 p))]
  have hm : (List.range' 0 (c 0 3)).map (fun u => bc (dN n (sS_ c l) 4 (l.getD u 0))) = l.map (fun p => bc (dN n (sS_ c l) 4 p)) := by
    apply List.ext_getElem
    · simp [h1]
    · intro i q1 q2
      have hi : i < l.length := by simpa using q2
      simp [List.getD_eq_getElem?_getD, hi]
  rw [hm, (h2.map (fun p => bc (dN n (sS_ c l) 4 p))).sum_nat, List.range_eq_range']
/-! the orders, the first of them first -/
def lvI_ (g : Nat → List (List Nat)) (tk : Nat) : Nat → Nat → List (List Nat)
  | _, 0 => []
  | i, d + 1 => (if tk.testBit i then [] else (g (tk ||| 2 ^ i)).map (fun l => i :: l)) ++ lvI_ g tk (i + 1) d
def lvs_ (P : Nat) : Nat → Nat → List (List Nat)
  | 0, _ => [[]]
  | k + 1, tk => lvI_ (lvs_ P k) tk 0 P
theorem lvs_ok : ∀ P, P < 7 → ∀ l ∈ lvs_ P P 0, okl_ P l = true := by decide +kernel
theorem lvs_ne : ∀ P, P < 7 → lvs_ P P 0 ≠ [] := by decide +kernel
/-- the greater one and 1, the earlier of equal ones -/
def wg_ (v : Nat) (l : List Nat) (st : Nat × List Nat) : Nat × List Nat := if v < st.1 then st else (v + 1, l)
theorem wg_pos {f : List Nat → Nat} : ∀ (L : List (List Nat)) (st : Nat × List Nat), (st.1 ≠ 0 ∨ L ≠ []) → (L.foldl (fun st l => wg_ (f l) l st) st).1 ≠ 0
  | [], st, h => by
    rcases h with h | h
    · exact h
    · exact absurd rfl h
  | l :: L, st, _ => by
    rw [List.foldl_cons]
    refine wg_pos L _ (Or.inl ?_)
    unfold wg_
    split
    · omega
    · show f l + 1 ≠ 0
      omega
def sb_ (c : sT) (n : Nat) : Nat × List Nat := (lvs_ (c 0 3) (c 0 3) 0).foldl (fun st l => wg_ (vl_ c n 0 (fun _ => false) 0 l) l st) (0, [])
theorem sb_pos {c : sT} (w : wf c) (n : Nat) : (sb_ c n).1 ≠ 0 := wg_pos _ _ (Or.inr (lvs_ne _ (by have := w.2.2.2.1.2; omega)))
theorem pj_lt {c : sT} (w : wf c) {p : Nat} (hp : p < c 0 3) (h : Nat → Bool) : ∀ d, (pj_ c p h d).1 < 2 ^ c 0 1
  | 0 => w.2.2.2.2.2.2.2.2.1 p hp
  | d + 1 => by
    show (if h d then st1_ c p (taught c (c 0 4 + d)) (pj_ c p h d) else pj_ c p h d).1 < _
    split
    · exact nk_lt (pj_lt w hp h d) (tau_lt w _)
    · exact pj_lt w hp h d
theorem f_wg : ∀ v, v < 37 → ∀ m, m < 38 → decide (nI v ≤ nI m - 1) = decide (v < m) := by decide +kernel
theorem wg_37 {v : Nat} {l : List Nat} {st : Nat × List Nat} (hv : v ≤ 36) (h : st.1 ≤ 37) : (wg_ v l st).1 ≤ 37 := by
  unfold wg_
  split
  · exact h
  · show v + 1 ≤ 37
    omega
/-! the next order -/
def n4_ (f : Nat → Nat) : Nat → Nat
  | 0 => 0
  | i + 1 => if f i ≤ f (i + 1) then i + 1 else n4_ f i
def n41_ (f : Nat → Nat) (i : Nat) : Nat → Option Nat
  | 0 => if f i ≤ f 0 then some 0 else none
  | j + 1 => if f i ≤ f (j + 1) then some (j + 1) else n41_ f i j
def swp_ (f : Nat → Nat) (i j : Nat) : Nat → Nat := up1 (up1 f i (f j)) j (f i)
def nr_ : Nat → (Nat → Nat) → Nat → Nat → (Nat → Nat)
  | 0, f, _, _ => f
  | n + 1, f, lo, hi => if hi ≤ lo then f else nr_ n (swp_ f lo hi) (lo + 1) (hi - 1)
def gl_ (l : List Nat) : Nat → Nat := fun t => l.getD t 0
def ls_ (f : Nat → Nat) : List Nat := [f 0, f 1, f 2, f 3, f 4, f 5]
/-- none: it doesn't come to an end; some none: no next one -/
def nx_ (P : Nat) (l : List Nat) : Option (Option (List Nat)) :=
  match n4_ (gl_ l) (P - 1) with
  | 0 => some none
  | i + 1 => match n41_ (gl_ l) i (P - 1) with
    | none => none
    | some j => some (some (ls_ (nr_ 6 (swp_ (gl_ l) i j) (i + 1) (P - 1))))
def itr_ (P : Nat) : Nat → List Nat → Option (List (List Nat))
  | 0, _ => none
  | f + 1, l => match nx_ P l with
    | none => none
    | some none => some [l]
    | some (some l') => (itr_ P f l').map (fun L => l :: L)
theorem itr_ok : ∀ P, P < 7 → 0 < P → (itr_ P 720 [0, 1, 2, 3, 4, 5]).map (fun L => L.map (fun l => l.take P)) = some (lvs_ P P 0) := by decide +kernel
