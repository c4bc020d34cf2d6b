/-! ===== ask ===== -/
def apn (x : (Nat → Nat) × Nat) (b : Nat) : (Nat → Nat) × Nat := (up1 x.1 x.2 b, x.2 + 1)
section AK
variable {B M : mM} {p t f sb mb : Nat} {x : (Nat → Nat) × Nat}
/-- asking, on the component's side, from memory B on -/
def SX_ (B : mM) (p t f sb mb : Nat) (M : mM) (x : (Nat → Nat) × Nat) : Prop := GS M ∧ Cb M x.1 x.2 ∧ (mi_ M 199 2 = nI p ∧ mi_ M 199 3 = nI t ∧ mi_ M 199 4 = nI f ∧ mi_ M 199 5 = nI sb ∧ mi_ M 199 6 = nI mb) ∧ ∀ b, b ≠ 199 → b ≠ 200 → mi_ M b = mi_ B b
theorem KO (G : GS M) : isO M 199 1 = true := G.o (by decide) (by decide +kernel)
theorem lv_ (h : SX_ B p t f sb mb M x) (hx : x.2 < 16) (b : Nat) : ∃ N, m_X1_leave M 199 (nI b) = some N ∧ SX_ B p t f sb mb N (apn x b) := by
  obtain ⟨G, ⟨c1, c2, c3⟩, ⟨f2, f3, f4, f5, f6⟩, o⟩ := h
  have ha := G.a (k := 200) (n := 16) (by decide) (by decide +kernel)
  have G1 : GS (wI M 200 x.2 (nI b)) := GS_w G
  have e9 : mi_ (wI M 200 x.2 (nI b)) 199 = mi_ M 199 := wI_o (by decide)
  refine ⟨wI (wI M 200 x.2 (nI b)) 199 1 (nI (x.2 + 1)), ?_, GS_w G1, ⟨by show x.2 + 1 ≤ 16; omega, by rw [wI_s, if_pos rfl]; rfl, fun j hj => ?_⟩, ⟨by rw [wI_s, if_neg (by decide), e9]; exact f2, by rw [wI_s, if_neg (by decide), e9]; exact f3, by rw [wI_s, if_neg (by decide), e9]; exact f4, by rw [wI_s, if_neg (by decide), e9]; exact f5, by rw [wI_s, if_neg (by decide), e9]; exact f6⟩, fun z h1 h2 => by rw [wI_o h1, wI_o h2]; exact o z h1 h2⟩
  · rw [m_X1_leave, gI_ (KO G), Option.bind_some, c2, if_neg (show ¬ (16 : Int32) ≤ nI x.2 from (nI_ge hx (by decide) : ¬ nI 16 ≤ nI x.2)), gR_ (KO G) (G.r (b := 200) (by decide +kernel)), Option.bind_some, Option.bind_some, st_ ha.1 ha.2 hx (by decide), Option.bind_some, gI_ (KO G1), Option.bind_some, e9, c2, pI_ (KO G1), Option.bind_some, nI_1]
  · have hj' : j < x.2 + 1 := hj
    show _ = nI (up1 x.1 x.2 b j)
    rw [wI_o (show 200 ≠ 199 by decide), wI_s]
    by_cases hjt : j = x.2
    · rw [if_pos hjt, hjt, up1_s]
    · rw [if_neg hjt, up1_o hjt]
      exact c3 j (by omega)
theorem bo_ {n d : Nat} (h : SX_ B p t f sb mb M x) (hx : x.2 < 16) (hd : d ≤ 16) (b : Nat) : ∃ N, SX_ B p t f sb mb N (apn x b) ∧ m_X1_begin (n + 1) M 199 (nI b) (nI d) = (if nI b = (10 : Int32) then ((gI N 199 1 4).bind fun v5 => some (N, v5)) else if nI b = (11 : Int32) then (bd2 (m_X1_begin n N 199 (10 : Int32) (nI (d + 1))) fun M9 v10 => (gI M9 199 1 6).bind fun v11 => bd2 (m_X1_begin n M9 199 v11 (nI (d + 1))) fun M14 v15 => some (M14, (v10 + v15))) else if nI b = (12 : Int32) then (bd2 (m_X1_begin n N 199 (11 : Int32) (nI (d + 1))) fun M18 v19 => some (M18, (-v19))) else if nI b = (13 : Int32) then (bd2 (m_X1_begin n N 199 (10 : Int32) (nI (d + 1))) fun M22 v23 => some (M22, (v23 - (100 : Int32)))) else if nI b = (14 : Int32) then (bd2 (m_X1_begin n N 199 (13 : Int32) (nI (d + 1))) fun M26 v27 => some (M26, ((2 : Int32) * v27))) else if nI b = (15 : Int32) then some (N, (0 : Int32)) else if nI b = (16 : Int32) then some (N, (0 : Int32)) else if nI b = (17 : Int32) then some (N, (0 : Int32)) else if nI b = (18 : Int32) then some (N, (0 : Int32)) else if nI b = (19 : Int32) then some (N, (0 : Int32)) else if nI b = (20 : Int32) then ((gI N 199 1 2).bind fun v34 => some (N, v34)) else if nI b = (21 : Int32) then (bd2 (m_X1_begin n N 199 (20 : Int32) (nI (d + 1))) fun M38 v39 => (gI M38 199 1 3).bind fun v40 => some (M38, (v39 + v40))) else if nI b = (22 : Int32) then (bd2 (m_X1_begin n N 199 (21 : Int32) (nI (d + 1))) fun M44 v45 => some (M44, (v45 - (1000 : Int32)))) else if nI b = (23 : Int32) then (bd2 (m_X1_begin n N 199 (20 : Int32) (nI (d + 1))) fun M48 v49 => (gI M48 199 1 5).bind fun v50 => bd2 (m_X1_begin n M48 199 v50 (nI (d + 1))) fun M53 v54 => some (M53, (v49 - v54))) else if nI b = (24 : Int32) then (bd2 (m_X1_begin n N 199 (21 : Int32) (nI (d + 1))) fun M57 v58 => some (M57, ((2 : Int32) * v58))) else some (N, (0 : Int32))) := by
  obtain ⟨N, n1, n2⟩ := lv_ h hx b
  refine ⟨N, n2, ?_⟩
  rw [m_X1_begin, if_pos (show nI d ≤ (16 : Int32) from (nI_le hd (by decide) : nI d ≤ nI 16)), if_pos (KO h.1), n1, Option.bind_some, nI_1]
/-- a body that begins: its answer and what it leaves -/
def RX (B : mM) (p t f sb mb : Nat) (n d b : Nat) (v : Int32) (l : List Nat) : Prop := ∀ (M : mM) (x : (Nat → Nat) × Nat), SX_ B p t f sb mb M x → x.2 + l.length ≤ 16 → ∃ N, m_X1_begin n M 199 (nI b) (nI d) = some (N, v) ∧ SX_ B p t f sb mb N (l.foldl apn x)
theorem r10 {n d : Nat} (hd : d ≤ 16) : RX B p t f sb mb (n + 1) d 10 (nI f) [10] := by
  intro M x h hx
  obtain ⟨N, n1, n2⟩ := bo_ (n := n) h (show x.2 < 16 from hx) hd 10
  exact ⟨N, by rw [n2, if_pos (by decide), gI_ (KO n1.1), Option.bind_some, n1.2.2.1.2.2.1], n1⟩
theorem r20 {n d : Nat} (hd : d ≤ 16) : RX B p t f sb mb (n + 1) d 20 (nI p) [20] := by
  intro M x h hx
  obtain ⟨N, n1, n2⟩ := bo_ (n := n) h (show x.2 < 16 from hx) hd 20
  exact ⟨N, by rw [n2, if_neg (by decide), if_neg (by decide), if_neg (by decide), if_neg (by decide), if_neg (by decide), if_neg (by decide), if_neg (by decide), if_neg (by decide), if_neg (by decide), if_neg (by decide), if_pos (by decide), gI_ (KO n1.1), Option.bind_some, n1.2.2.1.1], n1⟩
theorem apl {l : List Nat} {x : (Nat → Nat) × Nat} : (l.foldl apn x).2 = x.2 + l.length := by
  induction l generalizing x with
  | nil => rfl
  | cons a l ih =>
    rw [List.foldl_cons, ih, List.length_cons]
    show x.2 + 1 + _ = _
    omega
theorem r21 {n d : Nat} (hd : d + 1 ≤ 16) : RX B p t f sb mb (n + 2) d 21 (nI p + nI t) [21, 20] := by
  intro M x h hx
  have hx' : x.2 + 2 ≤ 16 := hx
  obtain ⟨N, n1, n2⟩ := bo_ (n := n + 1) h (show x.2 < 16 by omega) (show d ≤ 16 by omega) 21
  obtain ⟨K, k1, k2⟩ := r20 (n := n) hd N (apn x 21) n1 (by show x.2 + 1 + 1 ≤ 16; omega)
  refine ⟨K, ?_, k2⟩
  rw [n2, if_neg (by decide), if_neg (by decide), if_neg (by decide), if_neg (by decide), if_neg (by decide), if_neg (by decide), if_neg (by decide), if_neg (by decide), if_neg (by decide), if_neg (by decide), if_neg (by decide), if_pos (by decide), show m_X1_begin (n + 1) N 199 (20 : Int32) (nI (d + 1)) = _ from k1, bd2_s, gI_ (KO k2.1), Option.bind_some, k2.2.2.1.2.1]
theorem r22 {n d : Nat} (hd : d + 2 ≤ 16) : RX B p t f sb mb (n + 3) d 22 ((nI p + nI t) - (1000 : Int32)) [22, 21, 20] := by
  intro M x h hx
  have hx' : x.2 + 3 ≤ 16 := hx
  obtain ⟨N, n1, n2⟩ := bo_ (n := n + 2) h (show x.2 < 16 by omega) (show d ≤ 16 by omega) 22
  obtain ⟨K, k1, k2⟩ := r21 (n := n) (d := d + 1) (by omega) N (apn x 22) n1 (by show x.2 + 1 + 2 ≤ 16; omega)
  refine ⟨K, ?_, k2⟩
  rw [n2, if_neg (by decide), if_neg (by decide), if_neg (by decide), if_neg (by decide), if_neg (by decide), if_neg (by decide), if_neg (by decide), if_neg (by decide), if_neg (by decide), if_neg (by decide), if_neg (by decide), if_neg (by decide), if_pos (by decide), show m_X1_begin (n + 2) N 199 (21 : Int32) (nI (d + 1)) = _ from k1, bd2_s]
theorem r24 {n d : Nat} (hd : d + 2 ≤ 16) : RX B p t f sb mb (n + 3) d 24 ((2 : Int32) * (nI p + nI t)) [24, 21, 20] := by
  intro M x h hx
  have hx' : x.2 + 3 ≤ 16 := hx
  obtain ⟨N, n1, n2⟩ := bo_ (n := n + 2) h (show x.2 < 16 by omega) (show d ≤ 16 by omega) 24
  obtain ⟨K, k1, k2⟩ := r21 (n := n) (d := d + 1) (by omega) N (apn x 24) n1 (by show x.2 + 1 + 2 ≤ 16; omega)
  refine ⟨K, ?_, k2⟩
  rw [n2, if_neg (by decide), if_neg (by decide), if_neg (by decide), if_neg (by decide), if_neg (by decide), if_neg (by decide), if_neg (by decide), if_neg (by decide), if_neg (by decide), if_neg (by decide), if_neg (by decide), if_neg (by decide), if_neg (by decide), if_neg (by decide), if_pos (by decide), show m_X1_begin (n + 2) N 199 (21 : Int32) (nI (d + 1)) = _ from k1, bd2_s]
theorem r13 {n d : Nat} (hd : d + 1 ≤ 16) : RX B p t f sb mb (n + 2) d 13 (nI f - (100 : Int32)) [13, 10] := by
  intro M x h hx
  have hx' : x.2 + 2 ≤ 16 := hx
  obtain ⟨N, n1, n2⟩ := bo_ (n := n + 1) h (show x.2 < 16 by omega) (show d ≤ 16 by omega) 13
  obtain ⟨K, k1, k2⟩ := r10 (n := n) hd N (apn x 13) n1 (by show x.2 + 1 + 1 ≤ 16; omega)
  refine ⟨K, ?_, k2⟩
  rw [n2, if_neg (by decide), if_neg (by decide), if_neg (by decide), if_pos (by decide), show m_X1_begin (n + 1) N 199 (10 : Int32) (nI (d + 1)) = _ from k1, bd2_s]
theorem r14 {n d : Nat} (hd : d + 2 ≤ 16) : RX B p t f sb mb (n + 3) d 14 ((2 : Int32) * (nI f - (100 : Int32))) [14, 13, 10] := by
  intro M x h hx
  have hx' : x.2 + 3 ≤ 16 := hx
  obtain ⟨N, n1, n2⟩ := bo_ (n := n + 2) h (show x.2 < 16 by omega) (show d ≤ 16 by omega) 14
  obtain ⟨K, k1, k2⟩ := r13 (n := n) (d := d + 1) (by omega) N (apn x 14) n1 (by show x.2 + 1 + 2 ≤ 16; omega)
  refine ⟨K, ?_, k2⟩
  rw [n2, if_neg (by decide), if_neg (by decide), if_neg (by decide), if_neg (by decide), if_pos (by decide), show m_X1_begin (n + 2) N 199 (13 : Int32) (nI (d + 1)) = _ from k1, bd2_s]
theorem r11 {n d : Nat} {v : Int32} {l : List Nat} (hd : d + 1 ≤ 16) (hm : RX B p t f sb mb (n + 1) (d + 1) mb v l) : RX B p t f sb mb (n + 2) d 11 (nI f + v) (11 :: 10 :: l) := by
  intro M x h hx
  have hx' : x.2 + (l.length + 1 + 1) ≤ 16 := hx
  obtain ⟨N, n1, n2⟩ := bo_ (n := n + 1) h (show x.2 < 16 by omega) (show d ≤ 16 by omega) 11
  obtain ⟨K, k1, k2⟩ := r10 (n := n) hd N (apn x 11) n1 (by show x.2 + 1 + 1 ≤ 16; omega)
  obtain ⟨L, l1, l2⟩ := hm K (apn (apn x 11) 10) k2 (by show x.2 + 1 + 1 + l.length ≤ 16; omega)
  refine ⟨L, ?_, l2⟩
  rw [n2, if_neg (by decide), if_pos (by decide), show m_X1_begin (n + 1) N 199 (10 : Int32) (nI (d + 1)) = _ from k1, bd2_s, gI_ (KO k2.1), Option.bind_some, k2.2.2.1.2.2.2.2, l1, bd2_s]
theorem r12 {n d : Nat} {v : Int32} {l : List Nat} (hd : d + 2 ≤ 16) (hm : RX B p t f sb mb (n + 1) (d + 2) mb v l) : RX B p t f sb mb (n + 3) d 12 (-(nI f + v)) (12 :: 11 :: 10 :: l) := by
  intro M x h hx
  have hx' : x.2 + (l.length + 1 + 1 + 1) ≤ 16 := hx
  obtain ⟨N, n1, n2⟩ := bo_ (n := n + 2) h (show x.2 < 16 by omega) (show d ≤ 16 by omega) 12
  obtain ⟨K, k1, k2⟩ := r11 (n := n) (d := d + 1) (by omega) hm N (apn x 12) n1 (by show x.2 + 1 + (l.length + 1 + 1) ≤ 16; omega)
  refine ⟨K, ?_, k2⟩
  rw [n2, if_neg (by decide), if_neg (by decide), if_pos (by decide), show m_X1_begin (n + 2) N 199 (11 : Int32) (nI (d + 1)) = _ from k1, bd2_s]
theorem r23 {n d : Nat} {v : Int32} {l : List Nat} (hd : d + 1 ≤ 16) (hm : RX B p t f sb mb (n + 1) (d + 1) sb v l) : RX B p t f sb mb (n + 2) d 23 (nI p - v) (23 :: 20 :: l) := by
  intro M x h hx
  have hx' : x.2 + (l.length + 1 + 1) ≤ 16 := hx
  obtain ⟨N, n1, n2⟩ := bo_ (n := n + 1) h (show x.2 < 16 by omega) (show d ≤ 16 by omega) 23
  obtain ⟨K, k1, k2⟩ := r20 (n := n) hd N (apn x 23) n1 (by show x.2 + 1 + 1 ≤ 16; omega)
  obtain ⟨L, l1, l2⟩ := hm K (apn (apn x 23) 20) k2 (by show x.2 + 1 + 1 + l.length ≤ 16; omega)
  refine ⟨L, ?_, l2⟩
  rw [n2, if_neg (by decide), if_neg (by decide), if_neg (by decide), if_neg (by decide), if_neg (by decide), if_neg (by decide), if_neg (by decide), if_neg (by decide), if_neg (by decide), if_neg (by decide), if_neg (by decide), if_neg (by decide), if_neg (by decide), if_pos (by decide), show m_X1_begin (n + 1) N 199 (20 : Int32) (nI (d + 1)) = _ from k1, bd2_s, gI_ (KO k2.1), Option.bind_some, k2.2.2.1.2.2.2.1, l1, bd2_s]
/-! the model's -/
def SM_ (B : mM) (M : mM) (x : (Nat → Nat) × Nat) : Prop := GS M ∧ Db M x.1 x.2 ∧ (∀ q, q ≠ 25 → mi_ M 231 q = mi_ B 231 q) ∧ ∀ b, b ≠ 231 → b ≠ 245 → mi_ M b = mi_ B b
theorem bg_ (h : SM_ B M x) (hx : x.2 < 16) (b : Nat) : ∃ N, m_X7_began M 231 (nI b) = some N ∧ SM_ B N (apn x b) := by
  obtain ⟨G, ⟨c1, c2, c3⟩, f, o⟩ := h
  have ha := G.a (k := 245) (n := 16) (by decide) (by decide +kernel)
  have G1 : GS (wI M 245 x.2 (nI b)) := GS_w G
  have e9 : mi_ (wI M 245 x.2 (nI b)) 231 = mi_ M 231 := wI_o (by decide)
  refine ⟨wI (wI M 245 x.2 (nI b)) 231 25 (nI (x.2 + 1)), ?_, GS_w G1, ⟨by show x.2 + 1 ≤ 16; omega, by rw [wI_s, if_pos rfl]; rfl, fun j hj => ?_⟩, fun q hq => by rw [wI_s, if_neg hq, e9]; exact f q hq, fun z h1 h2 => by rw [wI_o h1, wI_o h2]; exact o z h1 h2⟩
  · rw [m_X7_began, gI_ (O7 G), Option.bind_some, c2, if_neg (show ¬ (16 : Int32) ≤ nI x.2 from (nI_ge hx (by decide) : ¬ nI 16 ≤ nI x.2)), gR_ (O7 G) (G.r (b := 245) (by decide +kernel)), Option.bind_some, Option.bind_some, st_ ha.1 ha.2 hx (by decide), Option.bind_some, gI_ (O7 G1), Option.bind_some, e9, c2, pI_ (O7 G1), Option.bind_some, nI_1]
  · have hj' : j < x.2 + 1 := hj
    show _ = nI (up1 x.1 x.2 b j)
    rw [wI_o (show 245 ≠ 231 by decide), wI_s]
    by_cases hjt : j = x.2
    · rw [if_pos hjt, hjt, up1_s]
    · rw [if_neg hjt, up1_o hjt]
      exact c3 j (by omega)
def RM (B : mM) (g : mM → Option (mM × Int32)) (v : Int32) (l : List Nat) : Prop := ∀ (M : mM) (x : (Nat → Nat) × Nat), SM_ B M x → x.2 + l.length ≤ 16 → ∃ N, g M = some (N, v) ∧ SM_ B N (l.foldl apn x)
variable {c : sT}
theorem SM_R (h : SM_ B M x) (R : RC_ (mi_ B 235) c) : RC_ (mi_ M 235) c := by rw [h.2.2.2 235 (by decide) (by decide)]; exact R
theorem RM_b {g : mM → Option (mM × Int32)} {v : Int32} {l : List Nat} (b : Nat) (h : RM B g v l) : RM B (fun M => if isO M 231 7 = true then (m_X7_began M 231 (nI b)).bind fun M1 => g M1 else none) v (b :: l) := by
  intro M x hs hx
  have hx' : x.2 + (l.length + 1) ≤ 16 := hx
  obtain ⟨N, n1, n2⟩ := bg_ hs (by omega) b
  obtain ⟨K, k1, k2⟩ := h N (apn x b) n2 (by show x.2 + 1 + l.length ≤ 16; omega)
  refine ⟨K, ?_, k2⟩
  show (if isO M 231 7 = true then _ else _) = _
  rw [if_pos (O7 hs.1), n1, Option.bind_some]
  exact k1
theorem RM_m {g h : mM → Option (mM × Int32)} {v u : Int32} {l k : List Nat} {z : Int32 → Int32 → Int32} (hg : RM B g v l) (hh : RM B h u k) : RM B (fun M => if isO M 231 7 = true then bd2 (g M) fun M1 a => if isO M1 231 7 = true then bd2 (h M1) fun M2 b => some (M2, z a b) else none else none) (z v u) (l ++ k) := by
  intro M x hs hx
  rw [List.length_append] at hx
  obtain ⟨N, n1, n2⟩ := hg M x hs (by omega)
  obtain ⟨K, k1, k2⟩ := hh N _ n2 (by rw [apl]; omega)
  refine ⟨K, ?_, by rw [List.foldl_append]; exact k2⟩
  show (if isO M 231 7 = true then bd2 (g M) _ else _) = _
  rw [if_pos (O7 hs.1), n1, bd2_s, if_pos (O7 n2.1), k1, bd2_s]
theorem RM_z {g : mM → Option (mM × Int32)} {v : Int32} {l : List Nat} (z : Int32 → Int32) (hg : RM B g v l) : RM B (fun M => if isO M 231 7 = true then bd2 (g M) fun M1 a => some (M1, z a) else none) (z v) l := by
  intro M x hs hx
  obtain ⟨N, n1, n2⟩ := hg M x hs hx
  refine ⟨N, ?_, n2⟩
  show (if isO M 231 7 = true then bd2 (g M) _ else _) = _
  rw [if_pos (O7 hs.1), n1, bd2_s]
theorem s_pl (w : wf c) (R : RC_ (mi_ B 235) c) (hp : p < c 0 3) : RM B (fun M => m_X7_plainSize M 231 (nI p)) (nI (bc (c 4 p))) [10] := by
  intro M x hs hx
  obtain ⟨N, n1, n2⟩ := bg_ hs (show x.2 < 16 from hx) 10
  refine ⟨N, ?_, n2⟩
  show m_X7_plainSize M 231 (nI p) = _
  rw [m_X7_plainSize, if_pos (O7 hs.1), show m_X7_began M 231 (10 : Int32) = _ from n1, Option.bind_some, R7s n2.1, Option.bind_some, o_2 (A7s n2.1) w (SM_R n2 R) hp, Option.bind_some, m_bits (q_knows w hp), Option.bind_some]
theorem s_sn4 (w : wf c) (R : RC_ (mi_ B 235) c) (hp : p < c 0 3) (hk : c 3 p = 4) : RM B (fun M => m_X7_snakeSize M 231 (nI p)) (nI (bc (c 4 p)) - (100 : Int32)) [13, 10] := by
  intro M x hs hx
  obtain ⟨N, n1, n2⟩ := RM_b 13 (RM_z (fun a => a - (100 : Int32)) (s_pl w R hp)) M x hs hx
  refine ⟨N, ?_, n2⟩
  show m_X7_snakeSize M 231 (nI p) = _
  rw [m_X7_snakeSize, R7s hs.1, Option.bind_some, o_0 (A7s hs.1) w (SM_R hs R) hp, Option.bind_some, hk, if_neg (by decide), if_pos rfl]
  exact n1
theorem s_sn5 (w : wf c) (R : RC_ (mi_ B 235) c) (hp : p < c 0 3) (hk : c 3 p = 5) : RM B (fun M => m_X7_snakeSize M 231 (nI p)) ((2 : Int32) * (nI (bc (c 4 p)) - (100 : Int32))) [14, 13, 10] := by
  intro M x hs hx
  obtain ⟨N, n1, n2⟩ := RM_b 14 (RM_b 13 (RM_z (fun a => (2 : Int32) * (a - (100 : Int32))) (s_pl w R hp))) M x hs hx
  refine ⟨N, ?_, n2⟩
  show m_X7_snakeSize M 231 (nI p) = _
  rw [m_X7_snakeSize, R7s hs.1, Option.bind_some, o_0 (A7s hs.1) w (SM_R hs R) hp, Option.bind_some, hk, if_pos (by decide), if_neg (by decide)]
  exact n1
/-- the last of a mark: its seat -/
theorem s_pt (w : wf c) (R : RC_ (mi_ B 235) c) (hp : p < c 0 3) (z : Int32 → Int32) : RM B (fun M => (gR M 231 7 5).bind fun b11 => (m_X7_of M b11 (nI p) (1 : Int32)).bind fun v14 => some (M, z v14)) (z (nI (c 7 p))) [] := by
  intro M x hs hx
  refine ⟨M, ?_, hs⟩
  show ((gR M 231 7 5).bind _) = _
  rw [R7s hs.1, Option.bind_some, o_1 (A7s hs.1) w (SM_R hs R) hp, Option.bind_some]
theorem s_mk1 (w : wf c) (R : RC_ (mi_ B 235) c) (hp : p < c 0 3) (hk : c 3 p = 1) : RM B (fun M => m_X7_markOf M 231 (nI p)) (nI p + nI (c 7 p)) [21, 20] := by
  intro M x hs hx
  obtain ⟨N, n1, n2⟩ := RM_b 21 (RM_b 20 (s_pt w R hp (fun v => nI p + v))) M x hs hx
  refine ⟨N, ?_, n2⟩
  show m_X7_markOf M 231 (nI p) = _
  rw [m_X7_markOf, R7s hs.1, Option.bind_some, o_0 (A7s hs.1) w (SM_R hs R) hp, Option.bind_some, hk, if_pos (by decide), if_pos (by decide)]
  exact n1
theorem s_mk3 (w : wf c) (R : RC_ (mi_ B 235) c) (hp : p < c 0 3) (hk : c 3 p = 3) : RM B (fun M => m_X7_markOf M 231 (nI p)) ((nI p + nI (c 7 p)) - (1000 : Int32)) [22, 21, 20] := by
  intro M x hs hx
  obtain ⟨N, n1, n2⟩ := RM_b 22 (RM_b 21 (RM_b 20 (s_pt w R hp (fun v => (nI p + v) - (1000 : Int32))))) M x hs hx
  refine ⟨N, ?_, n2⟩
  show m_X7_markOf M 231 (nI p) = _
  rw [m_X7_markOf, R7s hs.1, Option.bind_some, o_0 (A7s hs.1) w (SM_R hs R) hp, Option.bind_some, hk, if_pos (by decide), if_neg (by decide), if_pos (by decide)]
  exact n1
theorem s_mk2 (w : wf c) (R : RC_ (mi_ B 235) c) (hp : p < c 0 3) (hk : c 3 p = 2) : RM B (fun M => m_X7_markOf M 231 (nI p)) ((2 : Int32) * (nI p + nI (c 7 p))) [24, 21, 20] := by
  intro M x hs hx
  obtain ⟨N, n1, n2⟩ := RM_b 24 (RM_b 21 (RM_b 20 (s_pt w R hp (fun v => (2 : Int32) * (nI p + v))))) M x hs hx
  refine ⟨N, ?_, n2⟩
  show m_X7_markOf M 231 (nI p) = _
  rw [m_X7_markOf, R7s hs.1, Option.bind_some, o_0 (A7s hs.1) w (SM_R hs R) hp, Option.bind_some, hk, if_pos (by decide), if_neg (by decide), if_neg (by decide)]
  exact n1
theorem s_mkS {v : Int32} {l : List Nat} (w : wf c) (R : RC_ (mi_ B 235) c) (hp : p < c 0 3) (hk : c 3 p = 4 ∨ c 3 p = 5) (hs4 : RM B (fun M => m_X7_snakeSize M 231 (nI p)) v l) : RM B (fun M => m_X7_markOf M 231 (nI p)) (nI p - v) (23 :: 20 :: l) := by
  intro M x hs hx
  obtain ⟨N, n1, n2⟩ := RM_b 23 (RM_b 20 (RM_z (fun a => nI p - a) hs4)) M x hs hx
  refine ⟨N, ?_, n2⟩
  show m_X7_markOf M 231 (nI p) = _
  rw [m_X7_markOf, R7s hs.1, Option.bind_some, o_0 (A7s hs.1) w (SM_R hs R) hp, Option.bind_some, if_neg (by rcases hk with e | e <;> rw [e] <;> decide)]
  exact n1
theorem s_szS {v : Int32} {l : List Nat} (w : wf c) (R : RC_ (mi_ B 235) c) (hp : p < c 0 3) (hk : c 3 p = 4 ∨ c 3 p = 5) (hs4 : RM B (fun M => m_X7_snakeSize M 231 (nI p)) v l) : RM B (fun M => m_X7_sizeOf M 231 (nI p)) v l := by
  intro M x hs hx
  obtain ⟨N, n1, n2⟩ := RM_z (fun a => a) hs4 M x hs hx
  refine ⟨N, ?_, n2⟩
  show m_X7_sizeOf M 231 (nI p) = _
  rw [m_X7_sizeOf, R7s hs.1, Option.bind_some, o_0 (A7s hs.1) w (SM_R hs R) hp, Option.bind_some, if_neg (by rcases hk with e | e <;> rw [e] <;> decide)]
  exact n1
theorem s_szC {v : Int32} {l : List Nat} (w : wf c) (R : RC_ (mi_ B 235) c) (hp : p < c 0 3) (hk : c 3 p = 1 ∨ c 3 p = 3) (hm : RM B (fun M => m_X7_markOf M 231 (nI p)) v l) : RM B (fun M => m_X7_sizeOf M 231 (nI p)) (nI (bc (c 4 p)) + v) (11 :: 10 :: l) := by
  intro M x hs hx
  obtain ⟨N, n1, n2⟩ := RM_b 11 (RM_m (z := fun a b => a + b) (s_pl w R hp) hm) M x hs hx
  refine ⟨N, ?_, n2⟩
  show m_X7_sizeOf M 231 (nI p) = _
  rcases hk with hk | hk
  · rw [m_X7_sizeOf, R7s hs.1, Option.bind_some, o_0 (A7s hs.1) w (SM_R hs R) hp, Option.bind_some, hk, if_pos (by decide), if_neg (by decide)]
    exact n1
  · rw [m_X7_sizeOf, R7s hs.1, Option.bind_some, o_0 (A7s hs.1) w (SM_R hs R) hp, Option.bind_some, hk, if_pos (by decide), if_neg (by decide)]
    exact n1
theorem s_szQ {v : Int32} {l : List Nat} (w : wf c) (R : RC_ (mi_ B 235) c) (hp : p < c 0 3) (hk : c 3 p = 2) (hm : RM B (fun M => m_X7_markOf M 231 (nI p)) v l) : RM B (fun M => m_X7_sizeOf M 231 (nI p)) (-(nI (bc (c 4 p)) + v)) (12 :: 11 :: 10 :: l) := by
  intro M x hs hx
  obtain ⟨N, n1, n2⟩ := RM_b 12 (RM_b 11 (RM_m (z := fun a b => -(a + b)) (s_pl w R hp) hm)) M x hs hx
  refine ⟨N, ?_, n2⟩
  show m_X7_sizeOf M 231 (nI p) = _
  rw [m_X7_sizeOf, R7s hs.1, Option.bind_some, o_0 (A7s hs.1) w (SM_R hs R) hp, Option.bind_some, hk, if_pos (by decide), if_pos (by decide)]
  exact n1
end AK
def sz_ (k : Nat) : Nat := [10, 11, 12, 11, 13, 14].getD k 0
def mk' (k : Nat) : Nat := [20, 21, 24, 22, 23, 23].getD k 0
theorem f_tb : ∀ k, k < 6 → ldS (nI k) = some (nI (sz_ k)) ∧ ldM (nI k) = some (nI (mk' k)) := by decide +kernel
section OH
variable (A : aS)
theorem o_ask (x y : Int32) : both A (fun M => m_X6_ask M 0 x y) (fun M => m_X7_ask M 231 x y) := by
  intro M G h
  have hn := h.1
  cases hr : rg x 0 ((aN A 0 3 : Int) - 1) with
  | false =>
    refine ⟨A, -1000001, ?_, fun M' G' h' => ?_⟩
    · show opX (m_X6_ask M 0 x y) _ _ _
      rw [m_X6_ask, if_pos (O6 G), m_noP G hn, hr, Option.bind_some, if_neg (by decide)]
      exact px0 G h
    · show opM (m_X7_ask M' 231 x y) _ _ _
      rw [m_X7_ask]
      refine q2 G' h' (fun M1 G1 h1 => ?_)
      rw [if_pos (O7 G1), m_isP G1 h1.1, hr, Option.bind_some, if_pos (by decide)]
      exact pm0 G1 h1
  | true =>
  cases hy : rg y 0 1 with
  | false =>
    refine ⟨A, -1000001, ?_, fun M' G' h' => ?_⟩
    · show opX (m_X6_ask M 0 x y) _ _ _
      rw [m_X6_ask, if_pos (O6 G), m_noP G hn, hr, Option.bind_some, if_pos (by decide), n_out (b := false) hy, Option.bind_some, if_neg (by decide)]
      exact px0 G h
    · show opM (m_X7_ask M' 231 x y) _ _ _
      rw [m_X7_ask]
      refine q2 G' h' (fun M1 G1 h1 => ?_)
      rw [if_pos (O7 G1), m_isP G1 h1.1, hr, Option.bind_some, if_neg (by decide), n_in (b := false) hy, Option.bind_some, if_pos (by decide)]
      exact pm0 G1 h1
  | true =>
  obtain ⟨p, hp, rfl⟩ := rg_s hr
  obtain ⟨w, i7, hd⟩ := vs_w hn.2 (j := 3) (by decide) (by omega)
  have ep := i7.1 p hp
  have hk := w.2.2.2.2.2.2.2.1 p hp
  obtain ⟨t1, t2⟩ := f_tb (aN A 3 p) (by omega)
  have fin : ∀ (v : Int32) (l : List Nat), l.length ≤ 16 → (∀ B, RX B p (aN A 7 p) (bc (aN A 4 p)) (sz_ (aN A 3 p)) (mk' (aN A 3 p)) 20 0 (if y = 0 then sz_ (aN A 3 p) else mk' (aN A 3 p)) v l) → (∀ B, RC_ (mi_ B 235) (aN A) → RM B (fun M => if y = 0 then m_X7_sizeOf M 231 (nI p) else m_X7_markOf M 231 (nI p)) v l) → ∃ A' r, opX (m_X6_ask M 0 (nI p) y) M A' r ∧ ∀ M', GS M' → CM A M' → opM (m_X7_ask M' 231 (nI p) y) M' A' r := by
    intro v l hl hX hM
    refine ⟨sB A (l.foldl apn ((aB A).1, 0)), v, ?_, fun M' G' h' => ?_⟩
    · have G1 : GS (wI M 199 1 (nI 0)) := GS_w G
      have G2 : GS (wI (wI M 199 1 (nI 0)) 199 2 (nI p)) := GS_w G1
      have G3 : GS (wI (wI (wI M 199 1 (nI 0)) 199 2 (nI p)) 199 3 (nI (aN A 7 p))) := GS_w G2
      have G4 : GS (wI (wI (wI (wI M 199 1 (nI 0)) 199 2 (nI p)) 199 3 (nI (aN A 7 p))) 199 4 (nI (bc (aN A 4 p)))) := GS_w G3
      have G5 : GS (wI (wI (wI (wI (wI M 199 1 (nI 0)) 199 2 (nI p)) 199 3 (nI (aN A 7 p))) 199 4 (nI (bc (aN A 4 p)))) 199 5 (nI (sz_ (aN A 3 p)))) := GS_w G4
      have G6 : GS (wI (wI (wI (wI (wI (wI M 199 1 (nI 0)) 199 2 (nI p)) 199 3 (nI (aN A 7 p))) 199 4 (nI (bc (aN A 4 p)))) 199 5 (nI (sz_ (aN A 3 p)))) 199 6 (nI (mk' (aN A 3 p)))) := GS_w G5
      have S0 : ∀ {K : mM}, (∀ b, b ≠ 199 → mi_ K b = mi_ M b) → SA K 2 (aN A) := fun e => hn.1.o (fun a ha => e _ (by omega))
      have sp := m_seat (Sn G2) w (S0 (K := wI (wI M 199 1 (nI 0)) 199 2 (nI p)) (fun b hb => by rw [wI_o hb, wI_o hb])) ep.1
      rw [ep.2] at sp
      have sf := m_form (Sn G3) w (S0 (K := wI (wI (wI M 199 1 (nI 0)) 199 2 (nI p)) 199 3 (nI (aN A 7 p))) (fun b hb => by rw [wI_o hb, wI_o hb, wI_o hb])) hp
      have s3 := a_3 (Sn G4) w (S0 (K := wI (wI (wI (wI M 199 1 (nI 0)) 199 2 (nI p)) 199 3 (nI (aN A 7 p))) 199 4 (nI (bc (aN A 4 p)))) (fun b hb => by rw [wI_o hb, wI_o hb, wI_o hb, wI_o hb])) hp
      have H6 : SX_ M p (aN A 7 p) (bc (aN A 4 p)) (sz_ (aN A 3 p)) (mk' (aN A 3 p)) (wI (wI (wI (wI (wI (wI M 199 1 (nI 0)) 199 2 (nI p)) 199 3 (nI (aN A 7 p))) 199 4 (nI (bc (aN A 4 p)))) 199 5 (nI (sz_ (aN A 3 p)))) 199 6 (nI (mk' (aN A 3 p)))) ((aB A).1, 0) := by
        refine ⟨G6, ⟨Nat.zero_le _, by simp [wI_s], fun j hj => absurd hj (Nat.not_lt_zero _)⟩, ⟨by simp [wI_s], by simp [wI_s], by simp [wI_s], by simp [wI_s], by simp [wI_s]⟩, fun b h1 h2 => by rw [wI_o h1, wI_o h1, wI_o h1, wI_o h1, wI_o h1, wI_o h1]⟩
      obtain ⟨N, n1, n2⟩ := hX M _ _ H6 (by show 0 + l.length ≤ 16; omega)
      have ans : m_X1_answer M 199 2 (nI p) y = some (N, v) := by
        rw [m_X1_answer, show pI M 199 1 1 (0 : Int32) = some (wI M 199 1 (nI 0)) from pI_ (KO G), Option.bind_some, pI_ (KO G1), Option.bind_some, if_pos (Sn G2).1, sp, Option.bind_some, pI_ (KO G2), Option.bind_some, if_pos (Sn G3).1, sf, Option.bind_some, pI_ (KO G3), Option.bind_some, r_3 (Sn G4), Option.bind_some, s3, Option.bind_some, n_out (b := true) (by
          simp only [rg, Bool.and_eq_true, decide_eq_true_eq]
          rw [nI_toInt (by omega), show (0 : Int32).toInt = 0 from by decide, show (5 : Int32).toInt = 5 from by decide]
          omega), Option.bind_some, if_pos (by decide), t1, Option.bind_some, pI_ (KO G4), Option.bind_some, t2, Option.bind_some, pI_ (KO G5), Option.bind_some, gI_ (KO G6), Option.bind_some, gI_ (KO G6), Option.bind_some, H6.2.2.1.2.2.2.1, H6.2.2.1.2.2.2.2]
        by_cases hy0 : y = 0
        · rw [if_pos hy0] at n1 ⊢
          rw [show m_X1_begin 20 _ 199 (nI (sz_ (aN A 3 p))) (0 : Int32) = _ from n1, bd2_s]
        · rw [if_neg hy0] at n1 ⊢
          rw [show m_X1_begin 20 _ 199 (nI (mk' (aN A 3 p))) (0 : Int32) = _ from n1, bd2_s]
      rw [m_X6_ask, if_pos (O6 G), m_noP G hn, hr, Option.bind_some, if_pos (by decide), n_out (b := true) hy, Option.bind_some, if_pos (by decide), R6k G, Option.bind_some, R6n G, Option.bind_some, if_pos (KO G), ans, bd2_s]
      exact px n2.1 (CXb h (fun b _ hb => n2.2.2.2 b (by omega) (by omega)) n2.2.1) (fun b hb => n2.2.2.2 b (by omega) (by omega))
    · rw [m_X7_ask]
      refine q2 G' h' (fun M1 G1 h1 => ?_)
      have G2 : GS (wI M1 231 25 (nI 0)) := GS_w G1
      have H : SM_ M1 (wI M1 231 25 (nI 0)) ((aB A).1, 0) := ⟨G2, ⟨Nat.zero_le _, by simp [wI_s], fun j hj => absurd hj (Nat.not_lt_zero _)⟩, fun q hq => by rw [wI_s, if_neg hq], fun b h1 h2 => wI_o h1⟩
      obtain ⟨N, n1, n2⟩ := hM M1 h1.1.1 _ _ H (by show 0 + l.length ≤ 16; omega)
      have n1' : (if y = 0 then m_X7_sizeOf (wI M1 231 25 (nI 0)) 231 (nI p) else m_X7_markOf (wI M1 231 25 (nI 0)) 231 (nI p)) = some (N, v) := n1
      rw [if_pos (O7 G1), m_isP G1 h1.1, hr, Option.bind_some, if_neg (by decide), n_in (b := true) hy, Option.bind_some, if_neg (by decide), show pI M1 231 7 25 (0 : Int32) = some (wI M1 231 25 (nI 0)) from pI_ (O7 G1), Option.bind_some, if_pos (O7 G2), if_pos (O7 G2)]
      have CN : opM (some (N, v)) M1 (sB A (l.foldl apn ((aB A).1, 0))) v := pm n2.1 (CMb h1 (fun b _ b1 b2 => n2.2.2.2 b b1 b2) n2.2.2.1 n2.2.1) (fun b hb => n2.2.2.2 b (by omega) (by omega))
      by_cases hy0 : y = 0
      · rw [if_pos hy0] at n1' ⊢
        rw [n1', bd2_s]
        exact CN
      · rw [if_neg hy0] at n1' ⊢
        rw [n1', bd2_s]
        exact CN
  have kk : aN A 3 p = 1 ∨ aN A 3 p = 2 ∨ aN A 3 p = 3 ∨ aN A 3 p = 4 ∨ aN A 3 p = 5 := by omega
  by_cases hy0 : y = 0
  · simp only [if_pos hy0] at fin
    rcases kk with k | k | k | k | k
    · refine fin _ (11 :: 10 :: [21, 20]) (by decide) (fun B => ?_) (fun B R => s_szC w R hp (Or.inl k) (s_mk1 w R hp k))
      rw [k]
      exact r11 (n := 18) (by decide) (r21 (n := 17) (by decide))
    · refine fin _ (12 :: 11 :: 10 :: [24, 21, 20]) (by decide) (fun B => ?_) (fun B R => s_szQ w R hp k (s_mk2 w R hp k))
      rw [k]
      exact r12 (n := 17) (by decide) (r24 (n := 15) (by decide))
    · refine fin _ (11 :: 10 :: [22, 21, 20]) (by decide) (fun B => ?_) (fun B R => s_szC w R hp (Or.inr k) (s_mk3 w R hp k))
      rw [k]
      exact r11 (n := 18) (by decide) (r22 (n := 16) (by decide))
    · refine fin _ [13, 10] (by decide) (fun B => ?_) (fun B R => s_szS w R hp (Or.inl k) (s_sn4 w R hp k))
      rw [k]
      exact r13 (n := 18) (by decide)
    · refine fin _ [14, 13, 10] (by decide) (fun B => ?_) (fun B R => s_szS w R hp (Or.inr k) (s_sn5 w R hp k))
      rw [k]
      exact r14 (n := 17) (by decide)
  · simp only [if_neg hy0] at fin
    rcases kk with k | k | k | k | k
    · refine fin _ [21, 20] (by decide) (fun B => ?_) (fun B R => s_mk1 w R hp k)
      rw [k]
      exact r21 (n := 18) (by decide)
    · refine fin _ [24, 21, 20] (by decide) (fun B => ?_) (fun B R => s_mk2 w R hp k)
      rw [k]
      exact r24 (n := 17) (by decide)
    · refine fin _ [22, 21, 20] (by decide) (fun B => ?_) (fun B R => s_mk3 w R hp k)
      rw [k]
      exact r22 (n := 17) (by decide)
    · refine fin _ (23 :: 20 :: [13, 10]) (by decide) (fun B => ?_) (fun B R => s_mkS w R hp (Or.inl k) (s_sn4 w R hp k))
      rw [k]
      exact r23 (n := 18) (by decide) (r13 (n := 17) (by decide))
    · refine fin _ (23 :: 20 :: [14, 13, 10]) (by decide) (fun B => ?_) (fun B R => s_mkS w R hp (Or.inr k) (s_sn5 w R hp k))
      rw [k]
      exact r23 (n := 18) (by decide) (r14 (n := 16) (by decide))
end OH
