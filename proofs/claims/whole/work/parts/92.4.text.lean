/-! ===== school: the text, pure ===== -/
def dg_ (b : Nat) : Bool := decide (48 ≤ b) && decide (b ≤ 57)
/-- the end of a run of figures -/
def rn_ (tp : Nat → Nat) : Nat → Nat → Nat
  | 0, j => j
  | d + 1, j => if dg_ (tp j) then rn_ tp d (j + 1) else j
/-- the number of a run from i to j -/
def vt_ (tp : Nat → Nat) (i j : Nat) : Nat := if j ≤ i then 0 else if j = i + 1 then tp i - 48 else 10 * (tp i - 48) + (tp (i + 1) - 48)
/-- where the next token begins -/
def tx_ (tp : Nat → Nat) (tn i : Nat) : Nat := if i < tn then (if dg_ (tp i) then rn_ tp (tn - i) i else i + 1) else i
/-- a token: 0 none, 1 the end, 2 a byte, 3 a number -/
def tk_ (tp : Nat → Nat) (tn i : Nat) : Nat × Nat := if i < tn then (if dg_ (tp i) then (if tx_ tp tn i - i ≤ 2 then (3, vt_ tp i (tx_ tp tn i)) else (0, 0)) else (2, tp i)) else (1, 0)
theorem rn_b (tp : Nat → Nat) : ∀ d j, j ≤ rn_ tp d j ∧ rn_ tp d j ≤ j + d
  | 0, j => ⟨Nat.le_refl _, Nat.le_refl _⟩
  | d + 1, j => by
    show j ≤ (if dg_ (tp j) then rn_ tp d (j + 1) else j) ∧ (if dg_ (tp j) then rn_ tp d (j + 1) else j) ≤ j + (d + 1)
    have := rn_b tp d (j + 1)
    split <;> omega
theorem rn_1 {tp : Nat → Nat} {j : Nat} (h : dg_ (tp j) = true) (d : Nat) : rn_ tp (d + 1) j = rn_ tp d (j + 1) := by
  show (if dg_ (tp j) then rn_ tp d (j + 1) else j) = _
  rw [h, if_pos rfl]
theorem rn_0 {tp : Nat → Nat} {j : Nat} (h : dg_ (tp j) = false) (d : Nat) : rn_ tp (d + 1) j = j := by
  show (if dg_ (tp j) then rn_ tp d (j + 1) else j) = _
  rw [h, if_neg (by decide)]
section TX
variable {tp : Nat → Nat} {tn i : Nat}
theorem tx_e (h : ¬ i < tn) : tx_ tp tn i = i := if_neg h
theorem tx_b (h : i < tn) (g : dg_ (tp i) = false) : tx_ tp tn i = i + 1 := by
  unfold tx_
  rw [if_pos h, g, if_neg (by decide)]
theorem tx_d (h : i < tn) (g : dg_ (tp i) = true) : tx_ tp tn i = rn_ tp (tn - (i + 1)) (i + 1) := by
  unfold tx_
  rw [if_pos h, g, if_pos rfl, show tn - i = (tn - (i + 1)) + 1 by omega, rn_1 g]
theorem tx_gt (h : i < tn) : i < tx_ tp tn i ∧ tx_ tp tn i ≤ tn := by
  cases g : dg_ (tp i) with
  | false => rw [tx_b h g]; omega
  | true =>
    rw [tx_d h g]
    have := rn_b tp (tn - (i + 1)) (i + 1)
    omega
theorem tx_le (h : i ≤ tn) : i ≤ tx_ tp tn i ∧ tx_ tp tn i ≤ tn := by
  by_cases hl : i < tn
  · have := tx_gt (tp := tp) hl
    omega
  · rw [tx_e hl]
    omega
theorem tk_e (h : ¬ i < tn) : tk_ tp tn i = (1, 0) := if_neg h
theorem tk_b (h : i < tn) (g : dg_ (tp i) = false) : tk_ tp tn i = (2, tp i) := by
  unfold tk_
  rw [if_pos h, g, if_neg (by decide)]
theorem tk_n (h : i < tn) (g : dg_ (tp i) = true) (q : tx_ tp tn i - i ≤ 2) : tk_ tp tn i = (3, vt_ tp i (tx_ tp tn i)) := by
  unfold tk_
  rw [if_pos h, g, if_pos rfl, if_pos q]
theorem tk_o (h : i < tn) (g : dg_ (tp i) = true) (q : ¬ tx_ tp tn i - i ≤ 2) : tk_ tp tn i = (0, 0) := by
  unfold tk_
  rw [if_pos h, g, if_pos rfl, if_neg q]
theorem tk_lt (h : i ≤ tn) (g : (tk_ tp tn i).1 ≠ 1) : i < tn := by
  by_cases hl : i < tn
  · exact hl
  · rw [tk_e hl] at g
    exact absurd rfl g
theorem vt_lt (hb : ∀ j, j < tn → tp j < 256) {j : Nat} (hj : j ≤ tn) : vt_ tp i j < 3000 := by
  unfold vt_
  split
  · omega
  · rename_i h1
    have h2 := hb i (by omega)
    split
    · omega
    · have h3 := hb (i + 1) (by omega)
      omega
theorem tk_v (hb : ∀ j, j < tn → tp j < 256) : (tk_ tp tn i).2 < 3000 := by
  by_cases h : i < tn
  · cases g : dg_ (tp i) with
    | false =>
      rw [tk_b h g]
      have := hb i h
      show tp i < 3000
      omega
    | true =>
      by_cases q : tx_ tp tn i - i ≤ 2
      · rw [tk_n h g q]
        exact vt_lt hb (tx_gt h).2
      · rw [tk_o h g q]
        decide
  · rw [tk_e h]
    decide
theorem tk_2 (hb : ∀ j, j < tn → tp j < 256) (h : (tk_ tp tn i).1 = 2) : (tk_ tp tn i).2 < 256 ∧ dg_ (tk_ tp tn i).2 = false := by
  by_cases hl : i < tn
  · cases g : dg_ (tp i) with
    | false =>
      rw [tk_b hl g]
      exact ⟨hb i hl, g⟩
    | true =>
      by_cases q : tx_ tp tn i - i ≤ 2
      · rw [tk_n hl g q] at h
        exact absurd h (show ¬ (3 : Nat) = 2 by decide)
      · rw [tk_o hl g q] at h
        exact absurd h (by decide)
  · rw [tk_e hl] at h
    exact absurd h (by decide)
end TX
def kz_ (b : Nat) : Nat := if b = 99 then 1 else if b = 113 then 2 else if b = 119 then 3 else if b = 115 then 4 else if b = 111 then 5 else 0
/-- of which part a token is the first: 1 law, 2 subject, 3 lesson, 4 pupil -/
def pt_ (t : Nat × Nat) : Nat := if t.1 = 2 then (if t.2 = 114 then 1 else if t.2 = 106 then 2 else if t.2 = 100 then 3 else if kz_ t.2 = 0 then 0 else 4) else 0
def fu_ (p : Nat) (c : sT) : Bool := if p = 2 then decide (6 ≤ c 0 1) else if p = 3 then decide (8 ≤ c 0 2) else if p = 4 then decide (6 ≤ c 0 3) else false
def lm_ (p : Nat) (c : sT) : Nat := if p = 1 then 7 else if p = 3 then c 0 1 else 2 ^ c 0 1
def adp_ (p k v : Nat) (c : sT) : sT := if p = 1 then up2 c 0 0 v else if p = 2 then up2 (up2 c 1 (c 0 1) v) 0 1 (c 0 1 + 1) else if p = 3 then up2 (up2 c 2 (c 0 2) v) 0 2 (c 0 2 + 1) else up2 (up2 (up2 (up2 (up2 c 3 (c 0 3) k) 4 (c 0 3) v) 5 (c 0 3) (c 0 3)) 7 (c 0 3) (c 0 3)) 0 3 (c 0 3 + 1)
def okp_ (l p : Nat) : Bool := decide (p ≠ 0) && (decide (p = l + 1) || (decide (p = l) && decide (p ≠ 1)))
/-- a part from its first token on: fault, where (or where the next one begins), which, the school then -/
def sq_ (tp : Nat → Nat) (tn p b i : Nat) (c : sT) : Nat × Nat × Nat × sT :=
  if fu_ p c then (3, i, 0, c) else if (tk_ tp tn (tx_ tp tn i)).1 = 3 then (if (tk_ tp tn (tx_ tp tn i)).2 < lm_ p c then (if tk_ tp tn (tx_ tp tn (tx_ tp tn i)) = (2, 59) then (0, tx_ tp tn (tx_ tp tn (tx_ tp tn i)), p, adp_ p (kz_ b) (tk_ tp tn (tx_ tp tn i)).2 c) else (1, tx_ tp tn (tx_ tp tn i), 0, c)) else (2, tx_ tp tn i, 0, c)) else (1, tx_ tp tn i, 0, c)
def sp_ (tp : Nat → Nat) (tn l i : Nat) (c : sT) : Nat × Nat × Nat × sT := if okp_ l (pt_ (tk_ tp tn i)) then sq_ tp tn (pt_ (tk_ tp tn i)) (tk_ tp tn i).2 i c else (1, i, 0, c)
/-- the parts from i on, behind one of the kind l -/
def pp_ (tp : Nat → Nat) (tn : Nat) : Nat → Nat → Nat → sT → Nat × Nat × sT
  | 0, _, i, c => (0, i, c)
  | d + 1, l, i, c => if (tk_ tp tn i).1 = 1 ∧ l = 4 then (0, i, c) else if (sp_ tp tn l i c).1 = 0 then pp_ tp tn d (sp_ tp tn l i c).2.2.1 (sp_ tp tn l i c).2.1 (sp_ tp tn l i c).2.2.2 else ((sp_ tp tn l i c).1, (sp_ tp tn l i c).2.1, c)
theorem pp_e {tp : Nat → Nat} {tn d l i : Nat} {c : sT} (h : (tk_ tp tn i).1 = 1) (hl : l = 4) : pp_ tp tn (d + 1) l i c = (0, i, c) := by
  show (if (tk_ tp tn i).1 = 1 ∧ l = 4 then _ else _) = _
  rw [if_pos ⟨h, hl⟩]
theorem pp_0 {tp : Nat → Nat} {tn d l i : Nat} {c : sT} (h : ¬ ((tk_ tp tn i).1 = 1 ∧ l = 4)) (h0 : (sp_ tp tn l i c).1 = 0) : pp_ tp tn (d + 1) l i c = pp_ tp tn d (sp_ tp tn l i c).2.2.1 (sp_ tp tn l i c).2.1 (sp_ tp tn l i c).2.2.2 := by
  show (if (tk_ tp tn i).1 = 1 ∧ l = 4 then _ else if (sp_ tp tn l i c).1 = 0 then _ else _) = _
  rw [if_neg h, if_pos h0]
theorem pp_f {tp : Nat → Nat} {tn d l i : Nat} {c : sT} (h : ¬ ((tk_ tp tn i).1 = 1 ∧ l = 4)) (h0 : (sp_ tp tn l i c).1 ≠ 0) : pp_ tp tn (d + 1) l i c = ((sp_ tp tn l i c).1, (sp_ tp tn l i c).2.1, c) := by
  show (if (tk_ tp tn i).1 = 1 ∧ l = 4 then _ else if (sp_ tp tn l i c).1 = 0 then _ else _) = _
  rw [if_neg h, if_neg h0]
theorem sp_t {tp : Nat → Nat} {tn l i : Nat} {c : sT} (h : okp_ l (pt_ (tk_ tp tn i)) = true) : sp_ tp tn l i c = sq_ tp tn (pt_ (tk_ tp tn i)) (tk_ tp tn i).2 i c := by
  unfold sp_
  rw [h, if_pos rfl]
theorem sp_n {tp : Nat → Nat} {tn l i : Nat} {c : sT} (h : okp_ l (pt_ (tk_ tp tn i)) = false) : sp_ tp tn l i c = (1, i, 0, c) := by
  unfold sp_
  rw [h, if_neg (by decide)]
theorem pt_le (t : Nat × Nat) : pt_ t ≤ 4 := by
  unfold pt_
  split
  · split
    · omega
    · split
      · omega
      · split
        · omega
        · split <;> omega
  · omega
theorem pt_2 {t : Nat × Nat} (h : pt_ t ≠ 0) : t.1 = 2 := by
  by_cases q : t.1 = 2
  · exact q
  · unfold pt_ at h
    rw [if_neg q] at h
    exact absurd rfl h
theorem pt_4 {t : Nat × Nat} (h : pt_ t = 4) : kz_ t.2 ≠ 0 := by
  intro q
  have h2 := pt_2 (t := t) (by omega)
  unfold pt_ at h
  rw [if_pos h2] at h
  split at h
  · omega
  · split at h
    · omega
    · split at h
      · omega
      · omega
theorem kz_le (b : Nat) : kz_ b ≤ 5 := by
  unfold kz_
  split
  · omega
  · split
    · omega
    · split
      · omega
      · split
        · omega
        · split <;> omega
/-- sound so far -/
def pw_ (l : Nat) (c : sT) : Prop := (c 0 0 ≤ 6 ∧ c 0 1 ≤ 6 ∧ c 0 2 ≤ 8 ∧ c 0 3 ≤ 6 ∧ c 0 4 = 0) ∧ (∀ q, c 6 q = 0) ∧ (∀ s, s < c 0 1 → c 1 s < 2 ^ s) ∧ (∀ z, z < c 0 2 → c 2 z < c 0 1) ∧ (∀ p, p < c 0 3 → 1 ≤ c 3 p ∧ c 3 p ≤ 5) ∧ (∀ p, p < c 0 3 → c 4 p < 2 ^ c 0 1) ∧ (∀ t, t < c 0 3 → c 5 t = t) ∧ (∀ p, p < c 0 3 → c 7 p = p) ∧
  ((l ≤ 1 → c 0 1 = 0) ∧ (l ≤ 2 → c 0 2 = 0) ∧ (l ≤ 3 → c 0 3 = 0) ∧ (2 ≤ l → 1 ≤ c 0 1) ∧ (3 ≤ l → 1 ≤ c 0 2) ∧ (4 ≤ l → 1 ≤ c 0 3) ∧ l ≤ 4)
theorem adp1 (k v : Nat) (c : sT) : adp_ 1 k v c 0 0 = v ∧ (∀ j, j ≠ 0 → adp_ 1 k v c 0 j = c 0 j) ∧ ∀ b, b ≠ 0 → adp_ 1 k v c b = c b :=
  ⟨by simp [adp_, up2], fun j hj => by simp [adp_, up2, hj], fun b hb => by funext q; simp [adp_, up2, hb]⟩
theorem adp2 (k v : Nat) (c : sT) : adp_ 2 k v c 0 1 = c 0 1 + 1 ∧ (∀ j, j ≠ 1 → adp_ 2 k v c 0 j = c 0 j) ∧ (∀ s, adp_ 2 k v c 1 s = if s = c 0 1 then v else c 1 s) ∧ ∀ b, b ≠ 0 → b ≠ 1 → adp_ 2 k v c b = c b :=
  ⟨by simp [adp_, up2], fun j hj => by simp [adp_, up2, hj], fun s => by simp [adp_, up2], fun b h0 h1 => by funext q; simp [adp_, up2, h0, h1]⟩
theorem adp3 (k v : Nat) (c : sT) : adp_ 3 k v c 0 2 = c 0 2 + 1 ∧ (∀ j, j ≠ 2 → adp_ 3 k v c 0 j = c 0 j) ∧ (∀ s, adp_ 3 k v c 2 s = if s = c 0 2 then v else c 2 s) ∧ ∀ b, b ≠ 0 → b ≠ 2 → adp_ 3 k v c b = c b :=
  ⟨by simp [adp_, up2], fun j hj => by simp [adp_, up2, hj], fun s => by simp [adp_, up2], fun b h0 h1 => by funext q; simp [adp_, up2, h0, h1]⟩
theorem adp4 (k v : Nat) (c : sT) : adp_ 4 k v c 0 3 = c 0 3 + 1 ∧ (∀ j, j ≠ 3 → adp_ 4 k v c 0 j = c 0 j) ∧ (∀ s, adp_ 4 k v c 3 s = if s = c 0 3 then k else c 3 s) ∧ (∀ s, adp_ 4 k v c 4 s = if s = c 0 3 then v else c 4 s) ∧ (∀ s, adp_ 4 k v c 5 s = if s = c 0 3 then c 0 3 else c 5 s) ∧ (∀ s, adp_ 4 k v c 7 s = if s = c 0 3 then c 0 3 else c 7 s) ∧ adp_ 4 k v c 1 = c 1 ∧ adp_ 4 k v c 2 = c 2 ∧ adp_ 4 k v c 6 = c 6 :=
  ⟨by simp [adp_, up2], fun j hj => by simp [adp_, up2, hj], fun s => by simp [adp_, up2], fun s => by simp [adp_, up2], fun s => by simp [adp_, up2], fun s => by simp [adp_, up2], by funext q; simp [adp_, up2], by funext q; simp [adp_, up2], by funext q; simp [adp_, up2]⟩
theorem pw_ad {l p k v : Nat} {c : sT} (h : pw_ l c) (ho : okp_ l p = true) (hf : fu_ p c = false) (hv : v < lm_ p c) (hp : p ≤ 4) (hk : p = 4 → 1 ≤ k ∧ k ≤ 5) : pw_ p (adp_ p k v c) := by
  obtain ⟨⟨b0, b1, b2, b3, b4⟩, z6, h1, h2, h3, h4, h5, h7, l1, l2, l3, l4, l5, l6, l7⟩ := h
  simp only [okp_, Bool.and_eq_true, Bool.or_eq_true, decide_eq_true_eq] at ho
  rcases (show p = 1 ∨ p = 2 ∨ p = 3 ∨ p = 4 by omega) with rfl | rfl | rfl | rfl
  · obtain ⟨e0, ej, eb⟩ := adp1 k v c
    have hv' : v < 7 := hv
    have f1 := ej 1 (by decide)
    have f2 := ej 2 (by decide)
    have f3 := ej 3 (by decide)
    have f4 := ej 4 (by decide)
    unfold pw_
    rw [e0, f1, f2, f3, f4, eb 1 (by decide), eb 2 (by decide), eb 3 (by decide), eb 4 (by decide), eb 5 (by decide), eb 6 (by decide), eb 7 (by decide)]
    exact ⟨⟨by omega, b1, b2, b3, b4⟩, z6, h1, h2, h3, h4, h5, h7, fun _ => l1 (by omega), fun _ => l2 (by omega), fun _ => l3 (by omega), fun q => by omega, fun q => by omega, fun q => by omega, by omega⟩
  · obtain ⟨e0, ej, e1, eb⟩ := adp2 k v c
    have hv' : v < 2 ^ c 0 1 := hv
    have hf' : c 0 1 < 6 := by
      have : decide (6 ≤ c 0 1) = false := hf
      have := of_decide_eq_false this
      omega
    have g2 := l2 (by omega)
    have g3 := l3 (by omega)
    unfold pw_
    rw [e0, ej 0 (by decide), ej 2 (by decide), ej 3 (by decide), ej 4 (by decide), eb 2 (by decide) (by decide), eb 3 (by decide) (by decide), eb 4 (by decide) (by decide), eb 5 (by decide) (by decide), eb 6 (by decide) (by decide), eb 7 (by decide) (by decide)]
    refine ⟨⟨b0, by omega, b2, b3, b4⟩, z6, fun s hs => ?_, fun z hz => by omega, fun q hq => by omega, fun q hq => by omega, fun q hq => by omega, fun q hq => by omega, fun q => by omega, fun _ => g2, fun _ => g3, fun _ => by omega, fun q => by omega, fun q => by omega, by omega⟩
    rw [e1]
    split
    · rename_i q
      rw [q]
      exact hv'
    · exact h1 s (by omega)
  · obtain ⟨e0, ej, e1, eb⟩ := adp3 k v c
    have hv' : v < c 0 1 := hv
    have hf' : c 0 2 < 8 := by
      have : decide (8 ≤ c 0 2) = false := hf
      have := of_decide_eq_false this
      omega
    have g3 := l3 (by omega)
    have g1 : 1 ≤ c 0 1 := by omega
    unfold pw_
    rw [e0, ej 0 (by decide), ej 1 (by decide), ej 3 (by decide), ej 4 (by decide), eb 1 (by decide) (by decide), eb 3 (by decide) (by decide), eb 4 (by decide) (by decide), eb 5 (by decide) (by decide), eb 6 (by decide) (by decide), eb 7 (by decide) (by decide)]
    refine ⟨⟨b0, b1, by omega, b3, b4⟩, z6, h1, fun z hz => ?_, fun q hq => by omega, fun q hq => by omega, fun q hq => by omega, fun q hq => by omega, fun q => by omega, fun q => by omega, fun _ => g3, fun _ => g1, fun _ => by omega, fun q => by omega, by omega⟩
    rw [e1]
    split
    · exact hv'
    · exact h2 z (by omega)
  · obtain ⟨e0, ej, e3, e4, e5, e7, f1, f2, f6⟩ := adp4 k v c
    have hv' : v < 2 ^ c 0 1 := hv
    have hf' : c 0 3 < 6 := by
      have : decide (6 ≤ c 0 3) = false := hf
      have := of_decide_eq_false this
      omega
    have g1 := l4 (by omega)
    have g2 := l5 (by omega)
    have hk' := hk rfl
    unfold pw_
    rw [e0, ej 0 (by decide), ej 1 (by decide), ej 2 (by decide), ej 4 (by decide), f1, f2, f6]
    refine ⟨⟨b0, b1, b2, by omega, b4⟩, z6, h1, h2, fun q hq => ?_, fun q hq => ?_, fun q hq => ?_, fun q hq => ?_, fun q => by omega, fun q => by omega, fun q => by omega, fun _ => g1, fun _ => g2, fun _ => by omega, by omega⟩
    · rw [e3]
      split
      · exact hk'
      · exact h3 q (by omega)
    · rw [e4]
      split
      · exact hv'
      · exact h4 q (by omega)
    · rw [e5]
      split
      · rename_i z
        exact z.symm
      · exact h5 q (by omega)
    · rw [e7]
      split
      · rename_i z
        exact z.symm
      · exact h7 q (by omega)
theorem pw_wf {c : sT} (h : pw_ 4 c) : wf c ∧ iv c ∧ c 0 4 ≤ 999 := by
  obtain ⟨⟨b0, b1, b2, b3, b4⟩, z6, h1, h2, h3, h4, h5, h7, l1, l2, l3, l4, l5, l6, l7⟩ := h
  refine ⟨⟨b0, ⟨l4 (by omega), b1⟩, ⟨l5 (by omega), b2⟩, ⟨l6 (by omega), b3⟩, by omega, h1, h2, h3, h4, fun t ht => by rw [h5 t ht]; exact ht, fun t u ht hu e => by rw [h5 t ht, h5 u hu] at e; exact e, fun p hp s hs => by rw [z6]; omega⟩, ⟨fun p hp => by rw [h7 p hp]; exact ⟨hp, h5 p hp⟩, fun t ht => by rw [h5 t ht, h7 t ht]⟩, by omega⟩
/-- what a good part comes to -/
theorem sq_0 {tp : Nat → Nat} {tn p b i l : Nat} {c : sT} (h : (sq_ tp tn p b i c).1 = 0) (hi : i < tn) (hp : p ≤ 4) (ho : okp_ l p = true) (w : pw_ l c) (hb : p = 4 → kz_ b ≠ 0) : (sq_ tp tn p b i c).2.2.1 = p ∧ i < (sq_ tp tn p b i c).2.1 ∧ (sq_ tp tn p b i c).2.1 ≤ tn ∧ pw_ p (sq_ tp tn p b i c).2.2.2 := by
  unfold sq_ at h ⊢
  have a1 := tx_gt (tp := tp) hi
  have a2 := tx_le (tp := tp) a1.2
  have a3 := tx_le (tp := tp) a2.2
  cases hf : fu_ p c with
  | true =>
    rw [hf, if_pos rfl] at h
    exact absurd h (show ¬ (3 : Nat) = 0 by decide)
  | false =>
    rw [hf, if_neg (by decide)] at h
    rw [if_neg (by decide)]
    by_cases q1 : (tk_ tp tn (tx_ tp tn i)).1 = 3
    · rw [if_pos q1] at h ⊢
      by_cases q2 : (tk_ tp tn (tx_ tp tn i)).2 < lm_ p c
      · rw [if_pos q2] at h ⊢
        by_cases q3 : tk_ tp tn (tx_ tp tn (tx_ tp tn i)) = (2, 59)
        · rw [if_pos q3]
          refine ⟨rfl, ?_, a3.2, pw_ad w ho hf q2 hp (fun e => ⟨?_, kz_le b⟩)⟩
          · show i < tx_ tp tn (tx_ tp tn (tx_ tp tn i))
            omega
          · have := hb e
            omega
        · rw [if_neg q3] at h
          exact absurd h (show ¬ (1 : Nat) = 0 by decide)
      · rw [if_neg q2] at h
        exact absurd h (show ¬ (2 : Nat) = 0 by decide)
    · rw [if_neg q1] at h
      exact absurd h (show ¬ (1 : Nat) = 0 by decide)
theorem sp_0 {tp : Nat → Nat} {tn i l : Nat} {c : sT} (h : (sp_ tp tn l i c).1 = 0) (hi : i ≤ tn) (w : pw_ l c) : okp_ l (pt_ (tk_ tp tn i)) = true ∧ (sp_ tp tn l i c).2.2.1 = pt_ (tk_ tp tn i) ∧ i < (sp_ tp tn l i c).2.1 ∧ (sp_ tp tn l i c).2.1 ≤ tn ∧ pw_ (pt_ (tk_ tp tn i)) (sp_ tp tn l i c).2.2.2 := by
  cases ho : okp_ l (pt_ (tk_ tp tn i)) with
  | false =>
    rw [sp_n ho] at h
    exact absurd h (show ¬ (1 : Nat) = 0 by decide)
  | true =>
    rw [sp_t ho] at h ⊢
    have h0 : pt_ (tk_ tp tn i) ≠ 0 := by
      simp only [okp_, Bool.and_eq_true, decide_eq_true_eq] at ho
      exact ho.1
    exact ⟨rfl, sq_0 h (tk_lt hi (by rw [pt_2 h0]; decide)) (pt_le _) ho w (fun e => pt_4 e)⟩
theorem sq_3 {tp : Nat → Nat} {tn p b i : Nat} {c : sT} : (sq_ tp tn p b i c).1 ≤ 3 := by
  unfold sq_
  split
  · exact Nat.le_refl _
  · split
    · split
      · split
        · exact Nat.zero_le _
        · show (1 : Nat) ≤ 3
          decide
      · show (2 : Nat) ≤ 3
        decide
    · show (1 : Nat) ≤ 3
      decide
theorem sp_3 {tp : Nat → Nat} {tn l i : Nat} {c : sT} : (sp_ tp tn l i c).1 ≤ 3 := by
  unfold sp_
  split
  · exact sq_3
  · show (1 : Nat) ≤ 3
    decide
theorem pp_3 {tp : Nat → Nat} {tn : Nat} : ∀ (d l i : Nat) (c : sT), (pp_ tp tn d l i c).1 ≤ 3
  | 0, _, _, _ => Nat.zero_le _
  | d + 1, l, i, c => by
    show (if (tk_ tp tn i).1 = 1 ∧ l = 4 then (0, i, c) else if (sp_ tp tn l i c).1 = 0 then pp_ tp tn d (sp_ tp tn l i c).2.2.1 (sp_ tp tn l i c).2.1 (sp_ tp tn l i c).2.2.2 else ((sp_ tp tn l i c).1, (sp_ tp tn l i c).2.1, c)).1 ≤ 3
    split
    · exact Nat.zero_le _
    · split
      · exact pp_3 d _ _ _
      · exact sp_3
theorem pp_w {tp : Nat → Nat} {tn : Nat} : ∀ (d l i : Nat) (c : sT), pw_ l c → i ≤ tn → tn < i + d → (pp_ tp tn d l i c).1 = 0 → pw_ 4 (pp_ tp tn d l i c).2.2
  | 0, l, i, c, w, hi, hd, h => by omega
  | d + 1, l, i, c, w, hi, hd, h => by
    by_cases he : (tk_ tp tn i).1 = 1 ∧ l = 4
    · rw [pp_e he.1 he.2]
      rw [he.2] at w
      exact w
    · by_cases h0 : (sp_ tp tn l i c).1 = 0
      · rw [pp_0 he h0] at h ⊢
        obtain ⟨_, a2, a3, a4, a5⟩ := sp_0 h0 hi w
        exact pp_w d _ _ _ (by rw [a2]; exact a5) a4 (by omega) h
      · rw [pp_f he h0] at h
        exact absurd h h0
def c0_ : sT := fun _ _ => 0
theorem pw_00 : pw_ 0 c0_ := ⟨⟨by decide, by decide, by decide, by decide, rfl⟩, fun _ => rfl, fun s hs => absurd hs (Nat.not_lt_zero _), fun s hs => absurd hs (Nat.not_lt_zero _), fun s hs => absurd hs (Nat.not_lt_zero _), fun s hs => absurd hs (Nat.not_lt_zero _), fun s hs => absurd hs (Nat.not_lt_zero _), fun s hs => absurd hs (Nat.not_lt_zero _), fun _ => rfl, fun _ => rfl, fun _ => rfl, fun h => absurd h (by decide), fun h => absurd h (by decide), fun h => absurd h (by decide), by decide⟩
