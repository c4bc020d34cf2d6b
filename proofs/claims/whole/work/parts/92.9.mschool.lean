/-! ===== school: the model's side, whole ===== -/
section MQ
variable {M N : mM} {tp : Nat → Nat} {tn i : Nat} {c : sT} {f a : Nat} {ρ : Type}
theorem h_adS {l k : Nat} (w : pw_ l c) (hf : c 0 1 < 6) (w' : ∀ v, v < lm_ 2 c → pw_ 2 (adp_ 2 k v c)) : ∀ (K : mM) (v : Nat), GS K → FR_ K c → v < lm_ 2 c → ∃ N, adS_ 231 K (nI v) = some N ∧ f1_ 236 K N ∧ FR_ N (adp_ 2 k v c) := by
  intro K v G F hv
  have hw := w.1
  obtain ⟨⟨⟨r0, r1, r2, r3, r4⟩, R1, R2, R3, R4, R5, R6⟩, Z⟩ := F
  have RR : RC_ (mi_ K 236) c := ⟨⟨r0, r1, r2, r3, r4⟩, R1, R2, R3, R4, R5, R6⟩
  obtain ⟨e0, ej, e1, eb⟩ := adp2 k v c
  have G1 : GS (wI K 236 (5 + c 0 1) (nI v)) := GS_w G
  have l1 : ldI (wI K 236 (5 + c 0 1) (nI v)) 236 (1 : Int32) = some (nI (c 0 1)) := (ld_ (p := 1) (AF G1).1 (AF G1).2 (by decide) (by decide)).trans (by rw [wI_s, if_neg (by omega), r1])
  have s1 : stI (wI K 236 (5 + c 0 1) (nI v)) 236 (1 : Int32) (nI (c 0 1 + 1)) = some (wI (wI K 236 (5 + c 0 1) (nI v)) 236 1 (nI (c 0 1 + 1))) := st_ (p := 1) (AF G1).1 (AF G1).2 (by decide) (by decide)
  have hq : ∀ q, q ≠ 1 → q ≠ 5 + c 0 1 → mi_ (wI (wI K 236 (5 + c 0 1) (nI v)) 236 1 (nI (c 0 1 + 1))) 236 q = mi_ K 236 q := fun q h1 h2 => by rw [wI_s, if_neg h1, wI_s, if_neg h2]
  refine ⟨wI (wI K 236 (5 + c 0 1) (nI v)) 236 1 (nI (c 0 1 + 1)), ?_, f1_t f1_w f1_w, FR_mk (w' v hv) ?_ ?_ ?_ ?_ ?_ (fun s hs => ?_) (fun z hz => ?_) (fun p hp => ?_) (fun p hp => ?_) (fun p hp => ?_) (fun p s hp hs => ?_)⟩
  · rw [adS_, Rf G, Option.bind_some, Option.bind_some, l_J (AF G) RR, Option.bind_some, show (5 : Int32) + nI (c 0 1) = nI (5 + c 0 1) from nI_add 5 _, st_ (AF G).1 (AF G).2 (show 5 + c 0 1 < 73 by omega) (by decide), Option.bind_some, Rf G1, Option.bind_some, l1, Option.bind_some, nI_1, s1, Option.bind_some]
  · rw [hq 0 (by omega) (by omega), r0, ej 3 (by decide)]
  · rw [wI_s, if_pos rfl, e0]
  · rw [hq 2 (by omega) (by omega), r2, ej 2 (by decide)]
  · rw [hq 3 (by omega) (by omega), r3, ej 4 (by decide)]
  · rw [hq 4 (by omega) (by omega), r4, ej 0 (by decide)]
  · rw [e0] at hs
    by_cases h : s = c 0 1
    · rw [wI_s, if_neg (by omega), wI_s, if_pos (by omega), e1, if_pos h]
    · rw [hq _ (by omega) (by omega), R1 s (by omega), e1, if_neg h]
  · rw [ej 2 (by decide)] at hz
    rw [hq _ (by omega) (by omega), R2 z hz, eb 2 (by decide) (by decide)]
  · rw [ej 3 (by decide)] at hp
    rw [hq _ (by omega) (by omega), R3 p hp, eb 3 (by decide) (by decide)]
  · rw [ej 3 (by decide)] at hp
    rw [hq _ (by omega) (by omega), R4 p hp, eb 7 (by decide) (by decide)]
  · rw [ej 3 (by decide)] at hp
    rw [hq _ (by omega) (by omega), R5 p hp, eb 4 (by decide) (by decide)]
  · rw [hq _ (by omega) (by omega)]
    exact Z p s hp hs
theorem h_adL {l k : Nat} (w : pw_ l c) (hf : c 0 2 < 8) (w' : ∀ v, v < lm_ 3 c → pw_ 3 (adp_ 3 k v c)) : ∀ (K : mM) (v : Nat), GS K → FR_ K c → v < lm_ 3 c → ∃ N, adL_ 231 K (nI v) = some N ∧ f1_ 236 K N ∧ FR_ N (adp_ 3 k v c) := by
  intro K v G F hv
  have hw := w.1
  obtain ⟨⟨⟨r0, r1, r2, r3, r4⟩, R1, R2, R3, R4, R5, R6⟩, Z⟩ := F
  have RR : RC_ (mi_ K 236) c := ⟨⟨r0, r1, r2, r3, r4⟩, R1, R2, R3, R4, R5, R6⟩
  obtain ⟨e0, ej, e1, eb⟩ := adp3 k v c
  have G1 : GS (wI K 236 (11 + c 0 2) (nI v)) := GS_w G
  have l1 : ldI (wI K 236 (11 + c 0 2) (nI v)) 236 (2 : Int32) = some (nI (c 0 2)) := (ld_ (p := 2) (AF G1).1 (AF G1).2 (by decide) (by decide)).trans (by rw [wI_s, if_neg (by omega), r2])
  have s1 : stI (wI K 236 (11 + c 0 2) (nI v)) 236 (2 : Int32) (nI (c 0 2 + 1)) = some (wI (wI K 236 (11 + c 0 2) (nI v)) 236 2 (nI (c 0 2 + 1))) := st_ (p := 2) (AF G1).1 (AF G1).2 (by decide) (by decide)
  have hq : ∀ q, q ≠ 2 → q ≠ 11 + c 0 2 → mi_ (wI (wI K 236 (11 + c 0 2) (nI v)) 236 2 (nI (c 0 2 + 1))) 236 q = mi_ K 236 q := fun q h1 h2 => by rw [wI_s, if_neg h1, wI_s, if_neg h2]
  refine ⟨wI (wI K 236 (11 + c 0 2) (nI v)) 236 2 (nI (c 0 2 + 1)), ?_, f1_t f1_w f1_w, FR_mk (w' v hv) ?_ ?_ ?_ ?_ ?_ (fun s hs => ?_) (fun z hz => ?_) (fun p hp => ?_) (fun p hp => ?_) (fun p hp => ?_) (fun p s hp hs => ?_)⟩
  · rw [adL_, Rf G, Option.bind_some, Option.bind_some, l_D (AF G) RR, Option.bind_some, show (11 : Int32) + nI (c 0 2) = nI (11 + c 0 2) from nI_add 11 _, st_ (AF G).1 (AF G).2 (show 11 + c 0 2 < 73 by omega) (by decide), Option.bind_some, Rf G1, Option.bind_some, l1, Option.bind_some, nI_1, s1, Option.bind_some]
  · rw [hq 0 (by omega) (by omega), r0, ej 3 (by decide)]
  · rw [hq 1 (by omega) (by omega), r1, ej 1 (by decide)]
  · rw [wI_s, if_pos rfl, e0]
  · rw [hq 3 (by omega) (by omega), r3, ej 4 (by decide)]
  · rw [hq 4 (by omega) (by omega), r4, ej 0 (by decide)]
  · rw [ej 1 (by decide)] at hs
    rw [hq _ (by omega) (by omega), R1 s hs, eb 1 (by decide) (by decide)]
  · rw [e0] at hz
    by_cases h : z = c 0 2
    · rw [wI_s, if_neg (by omega), wI_s, if_pos (by omega), e1, if_pos h]
    · rw [hq _ (by omega) (by omega), R2 z (by omega), e1, if_neg h]
  · rw [ej 3 (by decide)] at hp
    rw [hq _ (by omega) (by omega), R3 p hp, eb 3 (by decide) (by decide)]
  · rw [ej 3 (by decide)] at hp
    rw [hq _ (by omega) (by omega), R4 p hp, eb 7 (by decide) (by decide)]
  · rw [ej 3 (by decide)] at hp
    rw [hq _ (by omega) (by omega), R5 p hp, eb 4 (by decide) (by decide)]
  · rw [hq _ (by omega) (by omega)]
    exact Z p s hp hs
theorem h_adQ {l k : Nat} (w : pw_ l c) (hf : c 0 3 < 6) (w' : ∀ v, v < lm_ 4 c → pw_ 4 (adp_ 4 k v c)) : ∀ (K : mM) (v : Nat), GS K → FR_ K c → v < lm_ 4 c → ∃ N, adQ_ (nI k) 231 K (nI v) = some N ∧ f1_ 236 K N ∧ FR_ N (adp_ 4 k v c) := by
  intro K v G F hv
  have hw := w.1
  obtain ⟨⟨⟨r0, r1, r2, r3, r4⟩, R1, R2, R3, R4, R5, R6⟩, Z⟩ := F
  have RR : RC_ (mi_ K 236) c := ⟨⟨r0, r1, r2, r3, r4⟩, R1, R2, R3, R4, R5, R6⟩
  obtain ⟨e0, ej, e3, e4, e5, e7, f1, f2, f6⟩ := adp4 k v c
  have ix : (19 : Int32) + (9 : Int32) * nI (c 0 3) = nI (19 + 9 * c 0 3) := by rw [show (9 : Int32) = nI 9 from rfl, show (19 : Int32) = nI 19 from rfl, pk_mul, nI_add]
  obtain ⟨K1, hK1⟩ : ∃ K1, K1 = wI K 236 (19 + 9 * c 0 3) (nI k) := ⟨_, rfl⟩
  obtain ⟨K2, hK2⟩ : ∃ K2, K2 = wI K1 236 (19 + 9 * c 0 3 + 1) (nI (c 0 3)) := ⟨_, rfl⟩
  obtain ⟨K3, hK3⟩ : ∃ K3, K3 = wI K2 236 (19 + 9 * c 0 3 + 2) (nI v) := ⟨_, rfl⟩
  obtain ⟨K4, hK4⟩ : ∃ K4, K4 = wI K3 236 0 (nI (c 0 3 + 1)) := ⟨_, rfl⟩
  have G1 : GS K1 := by rw [hK1]; exact GS_w G
  have G2 : GS K2 := by rw [hK2]; exact GS_w G1
  have G3 : GS K3 := by rw [hK3]; exact GS_w G2
  have l1 : ldI K1 236 (0 : Int32) = some (nI (c 0 3)) := (ld_ (p := 0) (AF G1).1 (AF G1).2 (by decide) (by decide)).trans (by rw [hK1, wI_s, if_neg (by omega), r0])
  have l3 : ldI K3 236 (0 : Int32) = some (nI (c 0 3)) := (ld_ (p := 0) (AF G3).1 (AF G3).2 (by decide) (by decide)).trans (by rw [hK3, wI_s, if_neg (by omega), hK2, wI_s, if_neg (by omega), hK1, wI_s, if_neg (by omega), r0])
  have s1 : stI K 236 (nI (19 + 9 * c 0 3)) (nI k) = some K1 := by rw [hK1]; exact st_ (AF G).1 (AF G).2 (by omega) (by decide)
  have s2 : stI K1 236 (nI (19 + 9 * c 0 3 + 1)) (nI (c 0 3)) = some K2 := by rw [hK2]; exact st_ (AF G1).1 (AF G1).2 (by omega) (by decide)
  have s3 : stI K2 236 (nI (19 + 9 * c 0 3 + 2)) (nI v) = some K3 := by rw [hK3]; exact st_ (AF G2).1 (AF G2).2 (by omega) (by decide)
  have s4 : stI K3 236 (0 : Int32) (nI (c 0 3 + 1)) = some K4 := by rw [hK4]; exact st_ (p := 0) (AF G3).1 (AF G3).2 (by decide) (by decide)
  have hq : ∀ q, q ≠ 0 → q ≠ 19 + 9 * c 0 3 → q ≠ 19 + 9 * c 0 3 + 1 → q ≠ 19 + 9 * c 0 3 + 2 → mi_ K4 236 q = mi_ K 236 q := fun q h0 h1 h2 h3 => by rw [hK4, wI_s, if_neg h0, hK3, wI_s, if_neg h3, hK2, wI_s, if_neg h2, hK1, wI_s, if_neg h1]
  refine ⟨K4, ?_, by rw [hK4, hK3, hK2, hK1]; exact f1_t f1_w (f1_t f1_w (f1_t f1_w f1_w)), FR_mk (w' v hv) ?_ ?_ ?_ ?_ ?_ (fun s hs => ?_) (fun z hz => ?_) (fun p hp => ?_) (fun p hp => ?_) (fun p hp => ?_) (fun p s hp hs => ?_)⟩
  · rw [adQ_, Rf G, Option.bind_some, l_P (AF G) RR, Option.bind_some, Option.bind_some, ix, s1, Option.bind_some, Rf G1, Option.bind_some, Option.bind_some, l1, Option.bind_some, nI_1, s2, Option.bind_some, Rf G2, Option.bind_some, show nI (19 + 9 * c 0 3) + (2 : Int32) = nI (19 + 9 * c 0 3 + 2) from nI_add _ 2, s3, Option.bind_some, Rf G3, Option.bind_some, l3, Option.bind_some, nI_1, s4, Option.bind_some]
  · rw [hK4, wI_s, if_pos rfl, e0]
  · rw [hq 1 (by omega) (by omega) (by omega) (by omega), r1, ej 1 (by decide)]
  · rw [hq 2 (by omega) (by omega) (by omega) (by omega), r2, ej 2 (by decide)]
  · rw [hq 3 (by omega) (by omega) (by omega) (by omega), r3, ej 4 (by decide)]
  · rw [hq 4 (by omega) (by omega) (by omega) (by omega), r4, ej 0 (by decide)]
  · rw [ej 1 (by decide)] at hs
    rw [hq _ (by omega) (by omega) (by omega) (by omega), R1 s hs, f1]
  · rw [ej 2 (by decide)] at hz
    rw [hq _ (by omega) (by omega) (by omega) (by omega), R2 z hz, f2]
  · rw [e0] at hp
    by_cases h : p = c 0 3
    · rw [hK4, wI_s, if_neg (by omega), hK3, wI_s, if_neg (by omega), hK2, wI_s, if_neg (by omega), hK1, wI_s, if_pos (by omega), e3, if_pos h]
    · rw [hq _ (by omega) (by omega) (by omega) (by omega), R3 p (by omega), e3, if_neg h]
  · rw [e0] at hp
    by_cases h : p = c 0 3
    · rw [hK4, wI_s, if_neg (by omega), hK3, wI_s, if_neg (by omega), hK2, wI_s, if_pos (by omega), e7, if_pos h]
    · rw [hq _ (by omega) (by omega) (by omega) (by omega), R4 p (by omega), e7, if_neg h]
  · rw [e0] at hp
    by_cases h : p = c 0 3
    · rw [hK4, wI_s, if_neg (by omega), hK3, wI_s, if_pos (by omega), e4, if_pos h]
    · rw [hq _ (by omega) (by omega) (by omega) (by omega), R5 p (by omega), e4, if_neg h]
  · rw [hq _ (by omega) (by omega) (by omega) (by omega)]
    exact Z p s hp hs
theorem hlxP {l : Nat} (w : pw_ l c) : (lxP_ (nI (c 0 1))).toInt = ((2 ^ c 0 1 : Nat) : Int) - 1 := by
  have hw := w.1
  have := p2_64 (n := c 0 1) hw.2.1
  unfold lxP_
  rw [f_shl _ (by omega), sb_t (by omega)]
theorem m_rS (G : GS M) (T : Dt M tp tn) (K : MT_ M tp tn i) (hi : i ≤ tn) (F : FR_ M c) {l : Nat} (w : pw_ l c) (hl : l = 1 ∨ l = 2) (h1 : l = 2 → tk_ tp tn i = (2, 106)) : ∃ N, m_X7_readSubject M 231 = some N ∧ RS_ tp tn M N (sp_ tp tn l i c) := by
  have hw := w.1
  have ho : okp_ l 2 = true := by
    rcases hl with rfl | rfl <;> decide
  rw [rS_eq]
  exact m_rg3 (b0 := 106) (mxn := 6) (cnt := c 0 1) (p := 2) G T K hi F w (by omega) (by decide) (fun t => (pt_ch t).2.1) (by decide) (l_J (AF G) F.1) (by omega) rfl h1 (fun q => Or.inr (by omega)) (hlxP w) (fun hf => h_adS w (by
    have : decide (6 ≤ c 0 1) = false := hf
    have := of_decide_eq_false this
    omega) (fun v hv => pw_ad w ho hf hv (by decide) (fun e => absurd e (by decide))))
theorem m_rL (G : GS M) (T : Dt M tp tn) (K : MT_ M tp tn i) (hi : i ≤ tn) (F : FR_ M c) {l : Nat} (w : pw_ l c) (hl : l = 2 ∨ l = 3) (h1 : l = 3 → tk_ tp tn i = (2, 100)) (h2 : l = 2 → pt_ (tk_ tp tn i) ≠ 2) : ∃ N, m_X7_readLesson M 231 = some N ∧ RS_ tp tn M N (sp_ tp tn l i c) := by
  have hw := w.1
  have ho : okp_ l 3 = true := by
    rcases hl with rfl | rfl <;> decide
  rw [rL_eq]
  exact m_rg3 (b0 := 100) (mxn := 8) (cnt := c 0 2) (p := 3) G T K hi F w (by omega) (by decide) (fun t => (pt_ch t).2.2.1) (by decide) (l_D (AF G) F.1) (by omega) rfl h1 (fun q => Or.inl (fun z => h2 (by omega) (by omega))) (sb_t (P := c 0 1) (by omega)) (fun hf => h_adL w (by
    have : decide (8 ≤ c 0 2) = false := hf
    have := of_decide_eq_false this
    omega) (fun v hv => pw_ad w ho hf hv (by decide) (fun e => absurd e (by decide))))
theorem m_rQ (G : GS M) (T : Dt M tp tn) (K : MT_ M tp tn i) (hi : i ≤ tn) (F : FR_ M c) {l : Nat} (w : pw_ l c) (hl : l = 3 ∨ l = 4) (h4 : pt_ (tk_ tp tn i) = 4) : ∃ N, m_X7_readPupil M 231 = some N ∧ RS_ tp tn M N (sp_ tp tn l i c) := by
  have hw := w.1
  have hbt : ∀ j, j < tn → tp j < 256 := fun j hj => (T.2.2 j hj).2
  have ho : okp_ l 4 = true := by
    rcases hl with rfl | rfl <;> decide
  obtain ⟨p2, pk⟩ := (pt_ch (tk_ tp tn i)).2.2.2.mp h4
  have hb := (tk_2 hbt p2).1
  have hit : i < tn := tk_lt hi (by rw [p2]; decide)
  have kb : m_X7_kindBy M (nI (tk_ tp tn i).2) = some (if kz_ (tk_ tp tn i).2 = 0 then -1000000 else nI (kz_ (tk_ tp tn i).2)) := f_kB _ hb
  rw [rQ_eq, gI_ (O7 G) (f := 15), Option.bind_some, K.1.2.2.2 (Or.inl p2), kb, if_neg pk, Option.bind_some, Rf G, Option.bind_some, l_P (AF G) F.1, Option.bind_some, sp_t (by rw [h4]; exact ho), h4]
  by_cases hc : c 0 3 = 6
  · have hfu' : fu_ 4 c = true := decide_eq_true (show 6 ≤ c 0 3 by omega)
    obtain ⟨N, n1, n2, n3⟩ := m_bad G K 3
    have n1' : m_X7_bad M 231 (3 : Int32) = some N := n1
    have GN : GS N := G.sh n2.1
    have e : sq_ tp tn 4 (tk_ tp tn i).2 i c = (3, i, 0, c) := by
      unfold sq_
      rw [hfu', if_pos rfl]
    rw [if_pos (show nI (c 0 3) = (6 : Int32) by rw [hc]; rfl), if_pos (O7 G), n1', Option.bind_some, if_pos (O7 GN), gnT_F GN n3 (by decide), e]
    exact ⟨N, rfl, fw_k n2, fun y => absurd y (show ¬ (3 : Nat) = 0 by decide), fun _ => n3⟩
  · have hfu' : fu_ 4 c = false := decide_eq_false (show ¬ 6 ≤ c 0 3 by omega)
    rw [if_neg (show ¬ nI (c 0 3) = (6 : Int32) from (ne_lit (by omega) (by decide) hc : ¬ _ = nI 6)), if_pos (O7 G)]
    exact m_gn G T K hit F w hfu' (hlxP w) (h_adQ w (by omega) (fun v hv => pw_ad w ho hfu' hv (by decide) (fun _ => ⟨by omega, kz_le _⟩)))
/-- what the rest of school() comes to -/
def sc_e (x0 : Nat) (M : mM) : Option (mM × Int32) := if isO M x0 7 = true then bd2 (m_X7_failed M x0) (fun M56 v57 => if v57 = (0 : Int32) then ((pI M56 x0 7 9 (0 : Int32)).bind fun M59 => m_X7_school_L147 (fun M70 => (gR M70 x0 7 5).bind fun b71 => (ldI M70 b71 (0 : Int32)).bind fun v74 => some (M70, v74)) x0 FU M59 (0 : Int32)) else ((gI M56 x0 7 17).bind fun v75 => some (M56, ((-1000100 : Int32) - v75)))) else none
def sc_p (x0 : Nat) (M : mM) : Option (mM × Int32) := if isO M x0 7 = true then (m_X7_isSort M x0).bind fun v45 => if v45 = (0 : Int32) then (if isO M x0 7 = true then (m_X7_bad M x0 (1 : Int32)).bind fun M79 => m_X7_school_L111 (fun M80 => sc_e x0 M80) x0 FU M79 else none) else m_X7_school_L111 (fun M54 => sc_e x0 M54) x0 FU M else none
def sc_d (x0 : Nat) (M : mM) : Option (mM × Int32) := if isO M x0 7 = true then (m_X7_readLesson M x0).bind fun M35 => m_X7_school_L83 (fun M43 => sc_p x0 M43) x0 FU M35 else none
def sc_j (x0 : Nat) (M : mM) : Option (mM × Int32) := if isO M x0 7 = true then (m_X7_readSubject M x0).bind fun M25 => m_X7_school_L63 (fun M33 => sc_d x0 M33) x0 FU M25 else none
def sc_r (x0 : Nat) (M10 : mM) : Option (mM × Int32) := if isO M10 x0 7 = true then (m_X7_isLetter M10 x0 (114 : Int32)).bind fun v12 => if isO M10 x0 7 = true then (m_X7_must M10 x0 v12).bind fun M14 => (gR M14 x0 7 6).bind fun b15 => if isO M14 x0 7 = true then bd2 (m_X7_number M14 x0 (0 : Int32) (6 : Int32)) (fun M18 v19 => (stI M18 b15 (4 : Int32) v19).bind fun M20 => if isO M20 x0 7 = true then (m_X7_mustSign M20 x0 (59 : Int32)).bind fun M23 => sc_j x0 M23 else none) else none else none else none
theorem sch_eq (M : mM) (x0 : Nat) : m_X7_school M x0 = ((pI M x0 7 0 (0 : Int32)).bind fun M1 => if isO M1 x0 7 = true then (m_X7_begin M1 x0).bind fun M4 => m_X7_school_L11 (fun M10 => sc_r x0 M10) x0 FU M4 (0 : Int32) else none) := rfl
theorem m_cpL : ∀ (d j m : Nat) (M : mM), GS M → j + d = 73 → d < m → ∃ N, (∀ k0 : mM → Option ρ, m_X7_school_L147 k0 231 m M (nI j) = k0 N) ∧ f1_ 235 M N ∧ (∀ q, q < j → mi_ N 235 q = mi_ M 235 q) ∧ ∀ q, j ≤ q → q < 73 → mi_ N 235 q = mi_ M 236 q := by
  intro d
  induction d with
  | zero =>
    intro j m M G hj hm
    obtain ⟨m, rfl⟩ : ∃ z, m = z + 1 := ⟨m - 1, by omega⟩
    exact ⟨M, fun k0 => by rw [m_X7_school_L147, if_pos (show (73 : Int32) ≤ nI j from (nI_le (by omega) (by omega) : nI 73 ≤ nI j))], f1_r _ _, fun _ _ => rfl, fun q h1 h2 => by omega⟩
  | succ d ih =>
    intro j m M G hj hm
    obtain ⟨m, rfl⟩ : ∃ z, m = z + 1 := ⟨m - 1, by omega⟩
    obtain ⟨N, n1, n2, n3, n4⟩ := ih (j + 1) m (wI M 235 j (mi_ M 236 j)) (GS_w G) (by omega) (by omega)
    refine ⟨N, fun k0 => ?_, f1_t f1_w n2, fun q hq => ?_, fun q h1 h2 => ?_⟩
    · rw [m_X7_school_L147, if_neg (show ¬ (73 : Int32) ≤ nI j from (nI_ge (by omega) (by decide) : ¬ nI 73 ≤ nI j)), R7s G, Option.bind_some, Rf G, Option.bind_some, ld_ (AF G).1 (AF G).2 (show j < 73 by omega) (by decide), Option.bind_some, st_ (A7s G).1 (A7s G).2 (show j < 73 by omega) (by decide), Option.bind_some, nI_1]
      exact n1 k0
    · rw [n3 q (by omega), wI_s, if_neg (by omega)]
    · by_cases hq : q = j
      · rw [n3 q (by omega), wI_s, if_pos hq, hq]
      · rw [n4 q (by omega) h2, wI_o (by decide)]
theorem m_zrL : ∀ (d j m : Nat) (M : mM), GS M → j + d = 73 → d < m → ∃ N, (∀ k0 : mM → Option ρ, m_X7_school_L11 k0 231 m M (nI j) = k0 N) ∧ f1_ 236 M N ∧ (∀ q, q < j → mi_ N 236 q = mi_ M 236 q) ∧ ∀ q, j ≤ q → q < 73 → mi_ N 236 q = 0 := by
  intro d
  induction d with
  | zero =>
    intro j m M G hj hm
    obtain ⟨m, rfl⟩ : ∃ z, m = z + 1 := ⟨m - 1, by omega⟩
    exact ⟨M, fun k0 => by rw [m_X7_school_L11, if_pos (show (73 : Int32) ≤ nI j from (nI_le (by omega) (by omega) : nI 73 ≤ nI j))], f1_r _ _, fun _ _ => rfl, fun q h1 h2 => by omega⟩
  | succ d ih =>
    intro j m M G hj hm
    obtain ⟨m, rfl⟩ : ∃ z, m = z + 1 := ⟨m - 1, by omega⟩
    obtain ⟨N, n1, n2, n3, n4⟩ := ih (j + 1) m (wI M 236 j 0) (GS_w G) (by omega) (by omega)
    refine ⟨N, fun k0 => ?_, f1_t f1_w n2, fun q hq => ?_, fun q h1 h2 => ?_⟩
    · rw [m_X7_school_L11, if_neg (show ¬ (73 : Int32) ≤ nI j from (nI_ge (by omega) (by decide) : ¬ nI 73 ≤ nI j)), Rf G, Option.bind_some, st_ (AF G).1 (AF G).2 (show j < 73 by omega) (by decide), Option.bind_some, nI_1]
      exact n1 k0
    · rw [n3 q (by omega), wI_s, if_neg (by omega)]
    · by_cases hq : q = j
      · rw [n3 q (by omega), wI_s, if_pos hq]
      · exact n4 q (by omega) h2
end MQ
/-- what the whole comes to, from the memory B on -/
def RE_ (A : aS) (B : mM) (o : Option (mM × Int32)) (R : Nat × Nat × sT) : Prop := (R.1 = 0 → opM o B (sK (sN (sF (sT' A ((aT A).1, 0)) (aF A)) R.2.2) (0, (aK A).2)) (nI (R.2.2 0 3))) ∧ (R.1 ≠ 0 → opM o B (sF (sT' A ((aT A).1, 0)) R.1) (-1000100 - nI R.2.1))
section MR
variable {A : aS} {B M N : mM} {tp : Nat → Nat} {tn i : Nat} {c : sT} {f a : Nat}
theorem e_fault (hB : CM A B) (G : GS M) (fw : fw_ B M) (h : FA_ M f a) (hf : f ≠ 0 ∧ f ≤ 3) : opM (sc_e 231 M) B (sF (sT' A ((aT A).1, 0)) f) (-1000100 - nI a) := by
  have hn := nI_ne0 (n := f) (by omega) (by omega)
  have hn' := nI_nle (n := f) (by omega) (by omega)
  have G1 : GS (wI M 231 11 0) := GS_w G
  have G2 : GS (wI (wI M 231 11 0) 231 18 (nI f)) := GS_w G1
  have a16 : mi_ (wI M 231 11 0) 231 16 = nI f := by rw [wI_s, if_neg (by decide)]; exact h.1
  have b16 : mi_ (wI (wI M 231 11 0) 231 18 (nI f)) 231 16 = nI f := by rw [wI_s, if_neg (by decide)]; exact a16
  have b17 : mi_ (wI (wI M 231 11 0) 231 18 (nI f)) 231 17 = nI a := by rw [wI_s, if_neg (by decide), wI_s, if_neg (by decide)]; exact h.2
  have e : m_X7_failed M 231 = some (wI (wI M 231 11 0) 231 18 (nI f), (1 : Int32)) := by
    rw [m_X7_failed, gI_ (O7 G) (f := 16), Option.bind_some, h.1, if_neg hn, pI_ (O7 G), Option.bind_some, gI_ (O7 G1) (f := 16), Option.bind_some, a16, if_neg hn', Option.bind_some, pI_ (O7 G1), Option.bind_some, gI_ (O7 G2) (f := 16), Option.bind_some, b16, if_neg hn']
  rw [sc_e, if_pos (O7 G), e, bd2_s, if_neg (by decide), gI_ (O7 G2) (f := 17), Option.bind_some, b17]
  have o : ∀ q, q ≠ 11 → q ≠ 18 → (q < 12 ∨ 17 < q) → mi_ (wI (wI M 231 11 0) 231 18 (nI f)) 231 q = mi_ B 231 q := fun q h1 h2 h3 => by rw [wI_s, if_neg h2, wI_s, if_neg h1]; exact fw.2.2 q h3
  refine pm G2 (CMt hB (fun b _ b1 b2 b3 => by rw [wI_o b1, wI_o b1]; exact fw.2.1 b b1 b3) (o 1 (by decide) (by decide) (by decide)) (o 9 (by decide) (by decide) (by decide)) (o 25 (by decide) (by decide) (by decide)) ⟨Nat.zero_le _, by rw [wI_s, if_neg (by decide), wI_s, if_pos rfl]; rfl, fun j hj => absurd hj (Nat.not_lt_zero _)⟩ ⟨hf.2, by rw [wI_s, if_pos rfl]⟩) (fun b hb => by rw [wI_o (by omega), wI_o (by omega)]; exact fw.2.1 b (by omega) (by omega))
theorem e_end (hB : CM A B) (G : GS M) (fw : fw_ B M) (K : MT_ M tp tn i) (F : FR_ M c) (w : pw_ 4 c) (he : (tk_ tp tn i).1 = 1) : opM (sc_e 231 M) B (sK (sN (sF (sT' A ((aT A).1, 0)) (aF A)) c) (0, (aK A).2)) (nI (c 0 3)) := by
  obtain ⟨wc, i7, hd⟩ := pw_wf w
  have m1 := (mn_cs (tk_ tp tn i)).1.mpr he
  have h18 : mi_ M 231 18 = nI (aF A) := by rw [fw.2.2 18 (by decide)]; exact hB.2.2.2.2.2.1.2
  have G1 : GS (wI M 231 11 0) := GS_w G
  have G2 : GS (wI (wI M 231 11 0) 231 18 (nI (aF A))) := GS_w G1
  have G3 : GS (wI (wI (wI M 231 11 0) 231 18 (nI (aF A))) 231 9 0) := GS_w G2
  have a16 : mi_ (wI M 231 11 0) 231 16 = 0 := by rw [wI_s, if_neg (by decide)]; exact K.2
  have a18 : mi_ (wI M 231 11 0) 231 18 = nI (aF A) := by rw [wI_s, if_neg (by decide)]; exact h18
  have b16 : mi_ (wI (wI M 231 11 0) 231 18 (nI (aF A))) 231 16 = 0 := by rw [wI_s, if_neg (by decide)]; exact a16
  have e : m_X7_failed M 231 = some (wI (wI M 231 11 0) 231 18 (nI (aF A)), (0 : Int32)) := by
    rw [m_X7_failed, gI_ (O7 G) (f := 16), Option.bind_some, K.2, if_pos rfl, gI_ (O7 G) (f := 14), Option.bind_some, K.1.2.2.1, if_pos (show nI (mn_ (tk_ tp tn i)) = (1 : Int32) by rw [m1]; rfl), pI_ (O7 G), Option.bind_some, gI_ (O7 G1) (f := 16), Option.bind_some, a16, if_pos (by decide), gI_ (O7 G1) (f := 18), Option.bind_some, a18, pI_ (O7 G1), Option.bind_some, gI_ (O7 G2) (f := 16), Option.bind_some, b16, if_pos (by decide)]
  obtain ⟨N, n1, n2, n3, n4⟩ := m_cpL (ρ := mM × Int32) 73 0 FU _ G3 (by omega) (by unfold FU; omega)
  have n1' : ∀ k0 : mM → Option (mM × Int32), m_X7_school_L147 k0 231 FU (wI (wI (wI M 231 11 0) 231 18 (nI (aF A))) 231 9 0) (0 : Int32) = k0 N := n1
  have GN : GS N := G3.sh n2.1
  have RN : RC_ (mi_ N 235) c := RC_cg (wf_b wc) (fun q hq => by rw [n4 q (Nat.zero_le _) hq, wI_o (by decide), wI_o (by decide), wI_o (by decide)]) F.1
  rw [sc_e, if_pos (O7 G), e, bd2_s, if_pos rfl, pI_ (O7 G2), Option.bind_some, n1', R7s GN, Option.bind_some, l_P (A7s GN) RN, Option.bind_some]
  have o : ∀ q, q ≠ 11 → q ≠ 18 → (q < 12 ∨ 17 < q) → mi_ (wI (wI M 231 11 0) 231 18 (nI (aF A))) 231 q = mi_ B 231 q := fun q h1 h2 h3 => by rw [wI_s, if_neg h2, wI_s, if_neg h1]; exact fw.2.2 q h3
  have C2 : CM (sF (sT' A ((aT A).1, 0)) (aF A)) (wI (wI M 231 11 0) 231 18 (nI (aF A))) := CMt hB (fun b _ b1 b2 b3 => by rw [wI_o b1, wI_o b1]; exact fw.2.1 b b1 b3) (o 1 (by decide) (by decide) (by decide)) (o 9 (by decide) (by decide) (by decide)) (o 25 (by decide) (by decide) (by decide)) ⟨Nat.zero_le _, by rw [wI_s, if_neg (by decide), wI_s, if_pos rfl]; rfl, fun j hj => absurd hj (Nat.not_lt_zero _)⟩ ⟨hB.2.2.2.2.2.1.1, by rw [wI_s, if_pos rfl]⟩
  have C3 : CM (sK (sF (sT' A ((aT A).1, 0)) (aF A)) (0, (aK A).2)) (wI (wI (wI M 231 11 0) 231 18 (nI (aF A))) 231 9 0) := CMa C2 (fun q _ q1 q2 => wI_o q1) (fun q hq => by rw [wI_s, if_neg hq]) ⟨Nat.zero_le _, by rw [wI_s, if_pos rfl]; rfl, fun j hj => absurd hj (Nat.not_lt_zero _)⟩
  have C4 : CM (sN (sK (sF (sT' A ((aT A).1, 0)) (aF A)) (0, (aK A).2)) c) N := CMn C3 (fun q _ q1 q2 => n2.2 q q1) ⟨RN, Or.inr ⟨wc, i7, hd⟩⟩
  exact pm GN C4 (fun b hb => by rw [n2.2 b (by omega), wI_o (by omega), wI_o (by omega), wI_o (by omega)]; exact fw.2.1 b (by omega) (by omega))
theorem e_not (hB : CM A B) (G : GS M) (fw : fw_ B M) (K : MT_ M tp tn i) (he : (tk_ tp tn i).1 ≠ 1) : opM (sc_e 231 M) B (sF (sT' A ((aT A).1, 0)) 1) (-1000100 - nI i) := by
  obtain ⟨N, n1, n2, n3⟩ := m_bad G K 1
  have n1' : m_X7_bad M 231 (1 : Int32) = some N := n1
  have GN : GS N := G.sh n2.1
  have mc := mn_cs (tk_ tp tn i)
  have m1 : mn_ (tk_ tp tn i) ≠ 1 := fun z => he (mc.1.mp z)
  have e : sc_e 231 M = sc_e 231 N := by
    have e1 : m_X7_failed M 231 = m_X7_failed N 231 := by
      rw [m_X7_failed, gI_ (O7 G) (f := 16), Option.bind_some, K.2, if_pos rfl, gI_ (O7 G) (f := 14), Option.bind_some, K.1.2.2.1, if_neg (show ¬ nI (mn_ (tk_ tp tn i)) = (1 : Int32) from (ne_lit (by omega) (by decide) m1 : ¬ _ = nI 1)), if_pos (O7 G), n1', Option.bind_some, m_X7_failed, gI_ (O7 GN) (f := 16), Option.bind_some, n3.1, if_neg (by decide)]
    rw [sc_e, sc_e, if_pos (O7 G), if_pos (O7 GN), e1]
  rw [e]
  exact e_fault hB GN (fw_t fw (fw_k n2)) n3 (by decide)
/-! a fault falls through -/
theorem F111 (G : GS M) (h : FA_ M f a) (hf : f ≠ 0 ∧ f ≤ 3) {ρ : Type} (k0 : mM → Option ρ) (m : Nat) : m_X7_school_L111 k0 231 (m + 1) M = k0 M := by
  rw [m_X7_school_L111, if_pos (O7 G), m_isSF G h hf, Option.bind_some, if_pos rfl]
theorem F83 (G : GS M) (h : FA_ M f a) (hf : f ≠ 0 ∧ f ≤ 3) {ρ : Type} (k0 : mM → Option ρ) (m : Nat) : m_X7_school_L83 k0 231 (m + 1) M = k0 M := by
  rw [m_X7_school_L83, if_pos (O7 G), m_isLF G h hf, Option.bind_some, if_pos rfl]
theorem F63 (G : GS M) (h : FA_ M f a) (hf : f ≠ 0 ∧ f ≤ 3) {ρ : Type} (k0 : mM → Option ρ) (m : Nat) : m_X7_school_L63 k0 231 (m + 1) M = k0 M := by
  rw [m_X7_school_L63, if_pos (O7 G), m_isLF G h hf, Option.bind_some, if_pos rfl]
theorem FFp (G : GS M) (h : FA_ M f a) (hf : f ≠ 0 ∧ f ≤ 3) : sc_p 231 M = sc_e 231 M := by
  rw [sc_p, if_pos (O7 G), m_isSF G h hf, Option.bind_some, if_pos rfl, if_pos (O7 G), m_badF G h hf, Option.bind_some, show FU = 4999 + 1 from rfl, F111 G h hf]
theorem FFd (G : GS M) (h : FA_ M f a) (hf : f ≠ 0 ∧ f ≤ 3) : sc_d 231 M = sc_e 231 M := by
  rw [sc_d, if_pos (O7 G), rL_eq, rg3_F G h hf, Option.bind_some, show FU = 4999 + 1 from rfl, F83 G h hf, FFp G h hf]
theorem FFj (G : GS M) (h : FA_ M f a) (hf : f ≠ 0 ∧ f ≤ 3) : sc_j 231 M = sc_e 231 M := by
  rw [sc_j, if_pos (O7 G), rS_eq, rg3_F G h hf, Option.bind_some, show FU = 4999 + 1 from rfl, F63 G h hf, FFd G h hf]
theorem RE_f {o : Option (mM × Int32)} {R : Nat × Nat × sT} (hR : R.1 ≠ 0) (h : opM o B (sF (sT' A ((aT A).1, 0)) R.1) (-1000100 - nI R.2.1)) : RE_ A B o R := ⟨fun q => absurd q hR, fun _ => h⟩
theorem ph4 (hB : CM A B) (T : Dt B tp tn) : ∀ (d i m : Nat) (M : mM) (c : sT), GS M → fw_ B M → MT_ M tp tn i → FR_ M c → pw_ 4 c → i ≤ tn → tn < i + d → d < m → RE_ A B (m_X7_school_L111 (fun M54 => sc_e 231 M54) 231 m M) (pp_ tp tn d 4 i c) := by
  intro d
  induction d with
  | zero =>
    intro i m M c G fw K F w hi hd hm
    omega
  | succ d ih =>
    intro i m M c G fw K F w hi hd hm
    obtain ⟨m, rfl⟩ : ∃ z, m = z + 1 := ⟨m - 1, by omega⟩
    have TM := fw_D fw T
    have iss := m_isS G TM K
    by_cases h4 : pt_ (tk_ tp tn i) = 4
    · rw [decide_eq_true h4] at iss
      have he : ¬ ((tk_ tp tn i).1 = 1 ∧ (4 : Nat) = 4) := fun q => by
        have := ((pt_ch (tk_ tp tn i)).2.2.2.mp h4).1
        omega
      obtain ⟨N, n1, n2, n3, n4⟩ := m_rQ G TM K hi F w (Or.inr rfl) h4
      have GN : GS N := G.sh n2.1
      have fN := fw_t fw n2
      have hs3 := sp_3 (tp := tp) (tn := tn) (l := 4) (i := i) (c := c)
      rw [m_X7_school_L111, if_pos (O7 G), iss, Option.bind_some, if_neg (by decide), if_pos (O7 G), n1, Option.bind_some]
      by_cases hs : (sp_ tp tn 4 i c).1 = 0
      · obtain ⟨-, b2, b3, b4, b5⟩ := sp_0 hs hi w
        rw [pp_0 he hs, b2, h4]
        rw [h4] at b5
        exact ih _ m N _ GN fN (n3 hs).1 (n3 hs).2 b5 b4 (by omega) (by omega)
      · obtain ⟨m, rfl⟩ : ∃ z, m = z + 1 := ⟨m - 1, by omega⟩
        rw [pp_f he hs, F111 GN (n4 hs) ⟨hs, hs3⟩]
        exact RE_f hs (e_fault hB GN fN (n4 hs) ⟨hs, hs3⟩)
    · rw [decide_eq_false h4] at iss
      rw [m_X7_school_L111, if_pos (O7 G), iss, Option.bind_some, if_pos (by decide)]
      by_cases he : (tk_ tp tn i).1 = 1
      · rw [pp_e he rfl]
        exact ⟨fun _ => e_end hB G fw K F w he, fun q => absurd rfl q⟩
      · have ho : okp_ 4 (pt_ (tk_ tp tn i)) = false := by
          have := pt_le (tk_ tp tn i)
          unfold okp_
          rw [decide_eq_false (show ¬ pt_ (tk_ tp tn i) = 4 + 1 by omega), decide_eq_false h4]
          simp
        have e : pp_ tp tn (d + 1) 4 i c = (1, i, c) := by
          rw [pp_f (fun q => he q.1) (by rw [sp_n ho]; exact (show ¬ (1 : Nat) = 0 by decide)), sp_n ho]
        rw [e]
        exact RE_f (show ¬ (1 : Nat) = 0 by decide) (e_not hB G fw K he)
theorem php (hB : CM A B) (T : Dt B tp tn) {d : Nat} (G : GS M) (fw : fw_ B M) (K : MT_ M tp tn i) (F : FR_ M c) (w : pw_ 3 c) (hi : i ≤ tn) (hd : tn < i + d) (hdm : d ≤ 200) (h3 : pt_ (tk_ tp tn i) ≠ 3) : RE_ A B (sc_p 231 M) (pp_ tp tn d 3 i c) := by
  obtain ⟨d, rfl⟩ : ∃ z, d = z + 1 := ⟨d - 1, by omega⟩
  have TM := fw_D fw T
  have iss := m_isS G TM K
  have he : ¬ ((tk_ tp tn i).1 = 1 ∧ (3 : Nat) = 4) := fun q => absurd q.2 (by decide)
  by_cases h4 : pt_ (tk_ tp tn i) = 4
  · rw [decide_eq_true h4] at iss
    obtain ⟨N, n1, n2, n3, n4⟩ := m_rQ G TM K hi F w (Or.inl rfl) h4
    have GN : GS N := G.sh n2.1
    have fN := fw_t fw n2
    have hs3 := sp_3 (tp := tp) (tn := tn) (l := 3) (i := i) (c := c)
    rw [sc_p, if_pos (O7 G), iss, Option.bind_some, if_neg (by decide), show FU = 4999 + 1 from rfl, m_X7_school_L111, if_pos (O7 G), iss, Option.bind_some, if_neg (by decide), if_pos (O7 G), n1, Option.bind_some]
    by_cases hs : (sp_ tp tn 3 i c).1 = 0
    · obtain ⟨-, b2, b3, b4, b5⟩ := sp_0 hs hi w
      rw [pp_0 he hs, b2, h4]
      rw [h4] at b5
      exact ph4 hB T d _ _ N _ GN fN (n3 hs).1 (n3 hs).2 b5 b4 (by omega) (by omega)
    · rw [pp_f he hs, show 4999 = 4998 + 1 from rfl, F111 GN (n4 hs) ⟨hs, hs3⟩]
      exact RE_f hs (e_fault hB GN fN (n4 hs) ⟨hs, hs3⟩)
  · rw [decide_eq_false h4] at iss
    obtain ⟨N, n1, n2, n3⟩ := m_bad G K 1
    have n1' : m_X7_bad M 231 (1 : Int32) = some N := n1
    have GN : GS N := G.sh n2.1
    have ho : okp_ 3 (pt_ (tk_ tp tn i)) = false := by
      unfold okp_
      rw [decide_eq_false (show ¬ pt_ (tk_ tp tn i) = 3 + 1 from h4), decide_eq_false h3]
      simp
    have e : pp_ tp tn (d + 1) 3 i c = (1, i, c) := by
      rw [pp_f he (by rw [sp_n ho]; exact (show ¬ (1 : Nat) = 0 by decide)), sp_n ho]
    rw [sc_p, if_pos (O7 G), iss, Option.bind_some, if_pos (by decide), if_pos (O7 G), n1', Option.bind_some, show FU = 4999 + 1 from rfl, F111 GN n3 (by decide), e]
    exact RE_f (show ¬ (1 : Nat) = 0 by decide) (e_fault hB GN (fw_t fw (fw_k n2)) n3 (show (1 : Nat) ≠ 0 ∧ (1 : Nat) ≤ 3 by decide))
theorem ph3 (hB : CM A B) (T : Dt B tp tn) : ∀ (d i m : Nat) (M : mM) (c : sT), GS M → fw_ B M → MT_ M tp tn i → FR_ M c → pw_ 3 c → i ≤ tn → tn < i + d → d ≤ 200 → d < m → RE_ A B (m_X7_school_L83 (fun M43 => sc_p 231 M43) 231 m M) (pp_ tp tn d 3 i c) := by
  intro d
  induction d with
  | zero =>
    intro i m M c G fw K F w hi hd h200 hm
    omega
  | succ d ih =>
    intro i m M c G fw K F w hi hd h200 hm
    obtain ⟨m, rfl⟩ : ∃ z, m = z + 1 := ⟨m - 1, by omega⟩
    have TM := fw_D fw T
    have isl : m_X7_isLetter M 231 (100 : Int32) = some (b2 (decide (tk_ tp tn i = (2, 100)))) := m_isL (b := 100) G TM K (by decide)
    have he : ¬ ((tk_ tp tn i).1 = 1 ∧ (3 : Nat) = 4) := fun q => absurd q.2 (by decide)
    by_cases q : tk_ tp tn i = (2, 100)
    · have h3 : pt_ (tk_ tp tn i) = 3 := (pt_ch _).2.2.1.mpr q
      rw [decide_eq_true q] at isl
      obtain ⟨N, n1, n2, n3, n4⟩ := m_rL G TM K hi F w (Or.inr rfl) (fun _ => q) (fun z => absurd z (by decide))
      have GN : GS N := G.sh n2.1
      have fN := fw_t fw n2
      have hs3 := sp_3 (tp := tp) (tn := tn) (l := 3) (i := i) (c := c)
      rw [m_X7_school_L83, if_pos (O7 G), isl, Option.bind_some, if_neg (by decide), if_pos (O7 G), n1, Option.bind_some]
      by_cases hs : (sp_ tp tn 3 i c).1 = 0
      · obtain ⟨-, b2, b3, b4, b5⟩ := sp_0 hs hi w
        rw [pp_0 he hs, b2, h3]
        rw [h3] at b5
        exact ih _ m N _ GN fN (n3 hs).1 (n3 hs).2 b5 b4 (by omega) (by omega) (by omega)
      · obtain ⟨m, rfl⟩ : ∃ z, m = z + 1 := ⟨m - 1, by omega⟩
        rw [pp_f he hs, F83 GN (n4 hs) ⟨hs, hs3⟩, FFp GN (n4 hs) ⟨hs, hs3⟩]
        exact RE_f hs (e_fault hB GN fN (n4 hs) ⟨hs, hs3⟩)
    · rw [decide_eq_false q] at isl
      rw [m_X7_school_L83, if_pos (O7 G), isl, Option.bind_some, if_pos (by decide)]
      exact php hB T G fw K F w hi hd h200 (fun z => q ((pt_ch _).2.2.1.mp z))
theorem phd (hB : CM A B) (T : Dt B tp tn) {d : Nat} (G : GS M) (fw : fw_ B M) (K : MT_ M tp tn i) (F : FR_ M c) (w : pw_ 2 c) (hi : i ≤ tn) (hd : tn < i + d) (hdm : d ≤ 200) (h2 : pt_ (tk_ tp tn i) ≠ 2) : RE_ A B (sc_d 231 M) (pp_ tp tn d 2 i c) := by
  obtain ⟨d, rfl⟩ : ∃ z, d = z + 1 := ⟨d - 1, by omega⟩
  have TM := fw_D fw T
  have he : ¬ ((tk_ tp tn i).1 = 1 ∧ (2 : Nat) = 4) := fun q => absurd q.2 (by decide)
  obtain ⟨N, n1, n2, n3, n4⟩ := m_rL G TM K hi F w (Or.inl rfl) (fun z => absurd z (by decide)) (fun _ => h2)
  have GN : GS N := G.sh n2.1
  have fN := fw_t fw n2
  have hs3 := sp_3 (tp := tp) (tn := tn) (l := 2) (i := i) (c := c)
  rw [sc_d, if_pos (O7 G), n1, Option.bind_some]
  by_cases hs : (sp_ tp tn 2 i c).1 = 0
  · obtain ⟨ho, b2, b3, b4, b5⟩ := sp_0 hs hi w
    have h3 : pt_ (tk_ tp tn i) = 3 := by
      have := okp_s ho
      omega
    rw [pp_0 he hs, b2, h3]
    rw [h3] at b5
    exact ph3 hB T d _ FU N _ GN fN (n3 hs).1 (n3 hs).2 b5 b4 (by omega) (by omega) (by unfold FU; omega)
  · rw [pp_f he hs, show FU = 4999 + 1 from rfl, F83 GN (n4 hs) ⟨hs, hs3⟩, FFp GN (n4 hs) ⟨hs, hs3⟩]
    exact RE_f hs (e_fault hB GN fN (n4 hs) ⟨hs, hs3⟩)
theorem ph2 (hB : CM A B) (T : Dt B tp tn) : ∀ (d i m : Nat) (M : mM) (c : sT), GS M → fw_ B M → MT_ M tp tn i → FR_ M c → pw_ 2 c → i ≤ tn → tn < i + d → d ≤ 200 → d < m → RE_ A B (m_X7_school_L63 (fun M33 => sc_d 231 M33) 231 m M) (pp_ tp tn d 2 i c) := by
  intro d
  induction d with
  | zero =>
    intro i m M c G fw K F w hi hd h200 hm
    omega
  | succ d ih =>
    intro i m M c G fw K F w hi hd h200 hm
    obtain ⟨m, rfl⟩ : ∃ z, m = z + 1 := ⟨m - 1, by omega⟩
    have TM := fw_D fw T
    have isl : m_X7_isLetter M 231 (106 : Int32) = some (b2 (decide (tk_ tp tn i = (2, 106)))) := m_isL (b := 106) G TM K (by decide)
    have he : ¬ ((tk_ tp tn i).1 = 1 ∧ (2 : Nat) = 4) := fun q => absurd q.2 (by decide)
    by_cases q : tk_ tp tn i = (2, 106)
    · have h3 : pt_ (tk_ tp tn i) = 2 := (pt_ch _).2.1.mpr q
      rw [decide_eq_true q] at isl
      obtain ⟨N, n1, n2, n3, n4⟩ := m_rS G TM K hi F w (Or.inr rfl) (fun _ => q)
      have GN : GS N := G.sh n2.1
      have fN := fw_t fw n2
      have hs3 := sp_3 (tp := tp) (tn := tn) (l := 2) (i := i) (c := c)
      rw [m_X7_school_L63, if_pos (O7 G), isl, Option.bind_some, if_neg (by decide), if_pos (O7 G), n1, Option.bind_some]
      by_cases hs : (sp_ tp tn 2 i c).1 = 0
      · obtain ⟨-, b2, b3, b4, b5⟩ := sp_0 hs hi w
        rw [pp_0 he hs, b2, h3]
        rw [h3] at b5
        exact ih _ m N _ GN fN (n3 hs).1 (n3 hs).2 b5 b4 (by omega) (by omega) (by omega)
      · obtain ⟨m, rfl⟩ : ∃ z, m = z + 1 := ⟨m - 1, by omega⟩
        rw [pp_f he hs, F63 GN (n4 hs) ⟨hs, hs3⟩, FFd GN (n4 hs) ⟨hs, hs3⟩]
        exact RE_f hs (e_fault hB GN fN (n4 hs) ⟨hs, hs3⟩)
    · rw [decide_eq_false q] at isl
      rw [m_X7_school_L63, if_pos (O7 G), isl, Option.bind_some, if_pos (by decide)]
      exact phd hB T G fw K F w hi hd h200 (fun z => q ((pt_ch _).2.1.mp z))
theorem phj (hB : CM A B) (T : Dt B tp tn) {d : Nat} (G : GS M) (fw : fw_ B M) (K : MT_ M tp tn i) (F : FR_ M c) (w : pw_ 1 c) (hi : i ≤ tn) (hd : tn < i + d) (hdm : d ≤ 200) : RE_ A B (sc_j 231 M) (pp_ tp tn d 1 i c) := by
  obtain ⟨d, rfl⟩ : ∃ z, d = z + 1 := ⟨d - 1, by omega⟩
  have TM := fw_D fw T
  have he : ¬ ((tk_ tp tn i).1 = 1 ∧ (1 : Nat) = 4) := fun q => absurd q.2 (by decide)
  obtain ⟨N, n1, n2, n3, n4⟩ := m_rS G TM K hi F w (Or.inl rfl) (fun z => absurd z (by decide))
  have GN : GS N := G.sh n2.1
  have fN := fw_t fw n2
  have hs3 := sp_3 (tp := tp) (tn := tn) (l := 1) (i := i) (c := c)
  rw [sc_j, if_pos (O7 G), n1, Option.bind_some]
  by_cases hs : (sp_ tp tn 1 i c).1 = 0
  · obtain ⟨ho, b2, b3, b4, b5⟩ := sp_0 hs hi w
    have h3 : pt_ (tk_ tp tn i) = 2 := by
      have := okp_s ho
      omega
    rw [pp_0 he hs, b2, h3]
    rw [h3] at b5
    exact ph2 hB T d _ FU N _ GN fN (n3 hs).1 (n3 hs).2 b5 b4 (by omega) (by omega) (by unfold FU; omega)
  · rw [pp_f he hs, show FU = 4999 + 1 from rfl, F63 GN (n4 hs) ⟨hs, hs3⟩, FFd GN (n4 hs) ⟨hs, hs3⟩]
    exact RE_f hs (e_fault hB GN fN (n4 hs) ⟨hs, hs3⟩)
theorem FR_4 {l v : Nat} (F : FR_ M c) (w' : pw_ l (adp_ 1 0 v c)) : FR_ (wI M 236 4 (nI v)) (adp_ 1 0 v c) := by
  obtain ⟨⟨⟨r0, r1, r2, r3, r4⟩, R1, R2, R3, R4, R5, R6⟩, Z⟩ := F
  obtain ⟨e0, ej, eb⟩ := adp1 0 v c
  have hw := w'.1
  rw [ej 2 (by decide), ej 3 (by decide), ej 1 (by decide)] at hw
  have hq : ∀ q, q ≠ 4 → mi_ (wI M 236 4 (nI v)) 236 q = mi_ M 236 q := fun q h => by rw [wI_s, if_neg h]
  refine FR_mk w' ?_ ?_ ?_ ?_ ?_ (fun s hs => ?_) (fun z hz => ?_) (fun p hp => ?_) (fun p hp => ?_) (fun p hp => ?_) (fun p s hp hs => ?_)
  · rw [hq 0 (by decide), r0, ej 3 (by decide)]
  · rw [hq 1 (by decide), r1, ej 1 (by decide)]
  · rw [hq 2 (by decide), r2, ej 2 (by decide)]
  · rw [hq 3 (by decide), r3, ej 4 (by decide)]
  · rw [wI_s, if_pos rfl, e0]
  · rw [ej 1 (by decide)] at hs
    rw [hq _ (by omega), R1 s hs, eb 1 (by decide)]
  · rw [ej 2 (by decide)] at hz
    rw [hq _ (by omega), R2 z hz, eb 2 (by decide)]
  · rw [ej 3 (by decide)] at hp
    rw [hq _ (by omega), R3 p hp, eb 3 (by decide)]
  · rw [ej 3 (by decide)] at hp
    rw [hq _ (by omega), R4 p hp, eb 7 (by decide)]
  · rw [ej 3 (by decide)] at hp
    rw [hq _ (by omega), R5 p hp, eb 4 (by decide)]
  · rw [hq _ (by omega)]
    exact Z p s hp hs
theorem adp1k (k v : Nat) (c : sT) : adp_ 1 k v c = adp_ 1 0 v c := rfl
theorem phr (hB : CM A B) (T : Dt B tp tn) {d : Nat} (G : GS M) (fw : fw_ B M) (K : MT_ M tp tn i) (F : FR_ M c) (w : pw_ 0 c) (hi : i ≤ tn) (hd : tn < i + d) (hdm : d ≤ 200) : RE_ A B (sc_r 231 M) (pp_ tp tn d 0 i c) := by
  obtain ⟨d, rfl⟩ : ∃ z, d = z + 1 := ⟨d - 1, by omega⟩
  have TM := fw_D fw T
  have he : ¬ ((tk_ tp tn i).1 = 1 ∧ (0 : Nat) = 4) := fun q => absurd q.2 (by decide)
  have isl : m_X7_isLetter M 231 (114 : Int32) = some (b2 (decide (tk_ tp tn i = (2, 114)))) := m_isL (b := 114) G TM K (by decide)
  have hs3 := sp_3 (tp := tp) (tn := tn) (l := 0) (i := i) (c := c)
  -- a fault behind the store
  have flt : ∀ (M18 : mM) (v : Int32) (q z : Nat), GS M18 → fw_ B M18 → FA_ M18 q z → (q ≠ 0 ∧ q ≤ 3) → pp_ tp tn (d + 1) 0 i c = (q, z, c) → RE_ A B ((stI M18 236 (4 : Int32) v).bind fun M20 => if isO M20 231 7 = true then (m_X7_mustSign M20 231 (59 : Int32)).bind fun M23 => sc_j 231 M23 else none) (pp_ tp tn (d + 1) 0 i c) := by
    intro M18 v q z G18 f18 h hq e
    have s4 : stI M18 236 (4 : Int32) v = some (wI M18 236 4 v) := st_ (p := 4) (AF G18).1 (AF G18).2 (by decide) (by decide)
    have G20 : GS (wI M18 236 4 v) := GS_w G18
    have h20 : FA_ (wI M18 236 4 v) q z := FA_6 h f1_w
    rw [s4, Option.bind_some, if_pos (O7 G20), m_sgF G20 h20 hq, Option.bind_some, FFj G20 h20 hq, e]
    exact RE_f hq.1 (e_fault hB G20 (fw_t f18 (fw_6 f1_w)) h20 hq)
  by_cases q : tk_ tp tn i = (2, 114)
  · have h1 : pt_ (tk_ tp tn i) = 1 := (pt_ch _).1.mpr q
    have ho : okp_ 0 (pt_ (tk_ tp tn i)) = true := by rw [h1]; decide
    have hit : i < tn := tk_lt hi (by rw [q]; exact (show ¬ (2 : Nat) = 1 by decide))
    have a1' := tx_gt (tp := tp) hit
    have a2' := tx_le (tp := tp) a1'.2
    have a3' := tx_le (tp := tp) a2'.2
    have hf : fu_ 1 c = false := rfl
    rw [decide_eq_true q] at isl
    obtain ⟨M14, g1, g2, g3⟩ := m_must1 G TM K hi
    have G14 : GS M14 := G.sh g2.1
    have T14 := fk_D g2 TM
    obtain ⟨M18, v, d1, d2, d3, d4, d5⟩ := m_num (x := (6 : Int32)) (lim := 7) G14 T14 g3 a1'.2 (by decide)
    have G18 : GS M18 := G14.sh d2.1
    have T18 := fk_D d2 T14
    have f18 : fw_ B M18 := fw_t fw (fw_k (fk_t g2 d2))
    rw [sc_r, if_pos (O7 G), isl, Option.bind_some, if_pos (O7 G), show b2 true = (1 : Int32) from rfl, g1, Option.bind_some, Rf G14, Option.bind_some, if_pos (O7 G14), d1, bd2_s]
    have esp : sp_ tp tn 0 i c = sq_ tp tn 1 (tk_ tp tn i).2 i c := by rw [sp_t ho, h1]
    by_cases q1 : (tk_ tp tn (tx_ tp tn i)).1 = 3
    · by_cases q2 : (tk_ tp tn (tx_ tp tn i)).2 < 7
      · obtain ⟨e1, e2⟩ := d3 q1 q2
        have ho1 : okp_ 0 1 = true := by decide
        have w' : pw_ 1 (adp_ 1 0 (tk_ tp tn (tx_ tp tn i)).2 c) := pw_ad w ho1 hf q2 (by decide) (fun e => absurd e (by decide))
        have s4 : stI M18 236 (4 : Int32) v = some (wI M18 236 4 v) := st_ (p := 4) (AF G18).1 (AF G18).2 (by decide) (by decide)
        have G20 : GS (wI M18 236 4 v) := GS_w G18
        have fx : f1_ 236 M18 (wI M18 236 4 v) := f1_w
        have K20 : MT_ (wI M18 236 4 v) tp tn (tx_ tp tn (tx_ tp tn i)) := MT_6 e1 fx
        have F20 : FR_ (wI M18 236 4 v) (adp_ 1 0 (tk_ tp tn (tx_ tp tn i)).2 c) := by
          rw [e2]
          exact FR_4 (FR_k (FR_k F g2) d2) w'
        have T20 := fw_D (fw_6 fx) T18
        obtain ⟨M23, s1, s2, s3, s5⟩ := m_sgn G20 T20 K20 a2'.2
        have G23 : GS M23 := G20.sh s2.1
        have f23 : fw_ B M23 := fw_t f18 (fw_t (fw_6 fx) (fw_k s2))
        rw [s4, Option.bind_some, if_pos (O7 G20), s1, Option.bind_some]
        by_cases q3 : tk_ tp tn (tx_ tp tn (tx_ tp tn i)) = (2, 59)
        · have e : sp_ tp tn 0 i c = (0, tx_ tp tn (tx_ tp tn (tx_ tp tn i)), 1, adp_ 1 (kz_ (tk_ tp tn i).2) (tk_ tp tn (tx_ tp tn i)).2 c) := by
            rw [esp]
            unfold sq_
            rw [hf, if_neg (by decide), if_pos q1, if_pos (show (tk_ tp tn (tx_ tp tn i)).2 < lm_ 1 c from q2), if_pos q3]
          rw [pp_0 he (by rw [e]), e]
          exact phj hB T G23 f23 (s3 q3) (FR_k F20 s2) w' a3'.2 (by show tn < tx_ tp tn (tx_ tp tn (tx_ tp tn i)) + d; omega) (by omega)
        · have e : sp_ tp tn 0 i c = (1, tx_ tp tn (tx_ tp tn i), 0, c) := by
            rw [esp]
            unfold sq_
            rw [hf, if_neg (by decide), if_pos q1, if_pos (show (tk_ tp tn (tx_ tp tn i)).2 < lm_ 1 c from q2), if_neg q3]
          have h23 := s5 q3
          rw [pp_f he (by rw [e]; exact (show ¬ (1 : Nat) = 0 by decide)), e, FFj G23 h23 (by decide)]
          exact RE_f (show ¬ (1 : Nat) = 0 by decide) (e_fault hB G23 f23 h23 (show (1 : Nat) ≠ 0 ∧ (1 : Nat) ≤ 3 by decide))
      · have e : sp_ tp tn 0 i c = (2, tx_ tp tn i, 0, c) := by
          rw [esp]
          unfold sq_
          rw [hf, if_neg (by decide), if_pos q1, if_neg (show ¬ (tk_ tp tn (tx_ tp tn i)).2 < lm_ 1 c from q2)]
        exact flt M18 v 2 (tx_ tp tn i) G18 f18 (d4 q1 q2) (by decide) (by
          rw [pp_f he (by rw [e]; exact (show ¬ (2 : Nat) = 0 by decide)), e])
    · have e : sp_ tp tn 0 i c = (1, tx_ tp tn i, 0, c) := by
        rw [esp]
        unfold sq_
        rw [hf, if_neg (by decide), if_neg q1]
      exact flt M18 v 1 (tx_ tp tn i) G18 f18 (d5 q1) (by decide) (by
        rw [pp_f he (by rw [e]; exact (show ¬ (1 : Nat) = 0 by decide)), e])
  · have ho : okp_ 0 (pt_ (tk_ tp tn i)) = false := by
      have hne : pt_ (tk_ tp tn i) ≠ 1 := fun z => q ((pt_ch _).1.mp z)
      unfold okp_
      rw [decide_eq_false (show ¬ pt_ (tk_ tp tn i) = 0 + 1 from hne)]
      by_cases z : pt_ (tk_ tp tn i) = 0
      · rw [decide_eq_false (show ¬ pt_ (tk_ tp tn i) ≠ 0 from fun y => y z)]
        simp
      · rw [decide_eq_false z]
        simp
    rw [decide_eq_false q] at isl
    obtain ⟨M14, g1, g2, g3⟩ := m_must0 G K
    have G14 : GS M14 := G.sh g2.1
    rw [sc_r, if_pos (O7 G), isl, Option.bind_some, if_pos (O7 G), show b2 false = (0 : Int32) from rfl, g1, Option.bind_some, Rf G14, Option.bind_some, if_pos (O7 G14), m_numF G14 g3 (by decide), bd2_s]
    exact flt M14 0 1 i G14 (fw_t fw (fw_k g2)) g3 (by decide) (by
      rw [pp_f he (by rw [sp_n ho]; exact (show ¬ (1 : Nat) = 0 by decide)), sp_n ho])
theorem m_schM (G : GS M) (h : CM A M) : RE_ A M (m_X7_school M 231) (pr_ (aT A).1 (aT A).2) := by
  have h1 := thr_M h
  have G1 := thr_G G
  have T1 : Dt (wI M 231 0 0) (aT A).1 (aT A).2 := h1.2.2.2.2.1
  have t120 := T1.1
  obtain ⟨M1, hM1⟩ : ∃ M1, M1 = wI M 231 0 0 := ⟨_, rfl⟩
  rw [← hM1] at h1 G1 T1
  have fa : fk_ M1 (wI M1 231 12 0) := fk_w (by decide) (by decide)
  have Ga : GS (wI M1 231 12 0) := GS_w G1
  have fb : fk_ (wI M1 231 12 0) (wI (wI M1 231 12 0) 231 16 0) := fk_w (by decide) (by decide)
  have Gb : GS (wI (wI M1 231 12 0) 231 16 0) := GS_w Ga
  have Tb := fk_D (fk_t fa fb) T1
  obtain ⟨M4, n1, n2, n3⟩ := m_nt (i := 0) Gb Tb (Nat.zero_le _) (by rw [wI_s, if_neg (by decide), wI_s, if_pos rfl]; rfl)
  have G4 : GS M4 := Gb.sh n2.1
  have K4 : MT_ M4 (aT A).1 (aT A).2 0 := ⟨n3, by rw [n2.2.2 16 (by decide), wI_s, if_pos rfl]⟩
  have f4 : fk_ M1 M4 := fk_t (fk_t fa fb) (fk_n n2)
  obtain ⟨M10, z1, z2, z3, z4⟩ := m_zrL (ρ := mM × Int32) 73 0 FU M4 G4 (by omega) (by unfold FU; omega)
  have z1' : ∀ k0 : mM → Option (mM × Int32), m_X7_school_L11 k0 231 FU M4 (0 : Int32) = k0 M10 := z1
  have G10 : GS M10 := G4.sh z2.1
  have F10 : FR_ M10 c0_ := FR_mk pw_00 ((z4 0 (Nat.zero_le _) (by decide)).trans rfl) ((z4 1 (Nat.zero_le _) (by decide)).trans rfl) ((z4 2 (Nat.zero_le _) (by decide)).trans rfl) ((z4 3 (Nat.zero_le _) (by decide)).trans rfl) ((z4 4 (Nat.zero_le _) (by decide)).trans rfl) (fun s hs => absurd hs (Nat.not_lt_zero _)) (fun s hs => absurd hs (Nat.not_lt_zero _)) (fun s hs => absurd hs (Nat.not_lt_zero _)) (fun s hs => absurd hs (Nat.not_lt_zero _)) (fun s hs => absurd hs (Nat.not_lt_zero _)) (fun p s hp hs => z4 _ (Nat.zero_le _) (by omega))
  have main : RE_ A M1 (sc_r 231 M10) (pr_ (aT A).1 (aT A).2) := phr h1 T1 G10 (fw_t (fw_k f4) (fw_6 z2)) (MT_6 K4 z2) F10 pw_00 (Nat.zero_le _) (by omega) (by omega)
  have e : m_X7_school M 231 = sc_r 231 M10 := by
    rw [sch_eq, thr G, ← hM1, if_pos (O7 G1), m_X7_begin, pI_ (O7 G1), Option.bind_some, pI_ (O7 Ga), Option.bind_some, if_pos (O7 Gb), n1, Option.bind_some, Option.bind_some, z1']
  have lo : lo_ M M1 := by rw [hM1]; exact thr_l
  rw [e]
  exact ⟨fun q => opM_t lo (main.1 q), fun q => opM_t lo (main.2 q)⟩
end MR
theorem o_school (A : aS) : both A (fun M => m_X6_school M 0) (fun M => m_X7_school M 231) := by
  intro M G h
  have x := x_school G h
  by_cases hp : (pr_ (aT A).1 (aT A).2).1 = 0
  · exact ⟨sG_ A, _, x.1 hp, fun M' G' h' => (m_schM G' h').1 hp⟩
  · exact ⟨sH_ A, _, x.2 hp, fun M' G' h' => (m_schM G' h').2 hp⟩
