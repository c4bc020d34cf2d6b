/-! ===== school: the model's parts ===== -/
def FA_ (M : mM) (f a : Nat) : Prop := mi_ M 231 16 = nI f ∧ mi_ M 231 17 = nI a
def MT_ (M : mM) (tp : Nat → Nat) (tn i : Nat) : Prop := TM_ M tp tn i ∧ mi_ M 231 16 = 0
def fk_ (M N : mM) : Prop := sh M N ∧ (∀ b, b ≠ 231 → mi_ N b = mi_ M b) ∧ ∀ f, (f < 12 ∨ 17 < f) → mi_ N 231 f = mi_ M 231 f
def fw_ (M N : mM) : Prop := sh M N ∧ (∀ b, b ≠ 231 → b ≠ 236 → mi_ N b = mi_ M b) ∧ ∀ f, (f < 12 ∨ 17 < f) → mi_ N 231 f = mi_ M 231 f
theorem kz_n {b : Nat} (h : kz_ b ≠ 0) : b = 99 ∨ b = 113 ∨ b = 119 ∨ b = 115 ∨ b = 111 := by
  by_cases h1 : b = 99
  · omega
  · by_cases h2 : b = 113
    · omega
    · by_cases h3 : b = 119
      · omega
      · by_cases h4 : b = 115
        · omega
        · by_cases h5 : b = 111
          · omega
          · exact absurd (by unfold kz_; rw [if_neg h1, if_neg h2, if_neg h3, if_neg h4, if_neg h5]) h
theorem pt_cs (a b : Nat) : (pt_ (a, b) = 1 ↔ a = 2 ∧ b = 114) ∧ (pt_ (a, b) = 2 ↔ a = 2 ∧ b = 106) ∧ (pt_ (a, b) = 3 ↔ a = 2 ∧ b = 100) ∧ (pt_ (a, b) = 4 ↔ a = 2 ∧ kz_ b ≠ 0) := by
  by_cases h2 : a = 2
  · by_cases b1 : b = 114
    · have e : pt_ (a, b) = 1 := by
        unfold pt_
        rw [if_pos h2, if_pos b1]
      have k : kz_ b = 0 := by rw [b1]; decide
      rw [e]
      omega
    · by_cases b2 : b = 106
      · have e : pt_ (a, b) = 2 := by
          unfold pt_
          rw [if_pos h2, if_neg b1, if_pos b2]
        have k : kz_ b = 0 := by rw [b2]; decide
        rw [e]
        omega
      · by_cases b3 : b = 100
        · have e : pt_ (a, b) = 3 := by
            unfold pt_
            rw [if_pos h2, if_neg b1, if_neg b2, if_pos b3]
          have k : kz_ b = 0 := by rw [b3]; decide
          rw [e]
          omega
        · by_cases b4 : kz_ b = 0
          · have e : pt_ (a, b) = 0 := by
              unfold pt_
              rw [if_pos h2, if_neg b1, if_neg b2, if_neg b3, if_pos b4]
            rw [e]
            omega
          · have e : pt_ (a, b) = 4 := by
              unfold pt_
              rw [if_pos h2, if_neg b1, if_neg b2, if_neg b3, if_neg b4]
            rw [e]
            omega
  · have e : pt_ (a, b) = 0 := if_neg h2
    rw [e]
    omega
theorem pt_ch (t : Nat × Nat) : (pt_ t = 1 ↔ t = (2, 114)) ∧ (pt_ t = 2 ↔ t = (2, 106)) ∧ (pt_ t = 3 ↔ t = (2, 100)) ∧ (pt_ t = 4 ↔ t.1 = 2 ∧ kz_ t.2 ≠ 0) := by
  obtain ⟨a, b⟩ := t
  have := pt_cs a b
  simp only [Prod.mk.injEq]
  exact this
theorem f_kB : ∀ b, b < 256 → m_X7_kindBy ME (nI b) = some (if kz_ b = 0 then -1000000 else nI (kz_ b)) := by decide +kernel
theorem rg_v {v lim : Nat} (h : v < 2 ^ 31) : rg (nI v) 0 ((lim : Int) - 1) = decide (v < lim) := by
  unfold rg
  rw [nI_toInt h, decide_eq_true (show (0 : Int) ≤ (v : Int) by omega), Bool.true_and]
  exact decide_eq_decide.mpr (by omega)
section MP
variable {M N : mM} {tp : Nat → Nat} {tn i : Nat} {c : sT} {f a : Nat}
theorem fk_r (M : mM) : fk_ M M := ⟨sh_r M, fun _ _ => rfl, fun _ _ => rfl⟩
theorem fk_t {A B C : mM} (f : fk_ A B) (g : fk_ B C) : fk_ A C := ⟨sh_t f.1 g.1, fun b h => (g.2.1 b h).trans (f.2.1 b h), fun b h => (g.2.2 b h).trans (f.2.2 b h)⟩
theorem fk_n (f : fn_ M N) : fk_ M N := ⟨f.1, f.2.1, fun q hq => f.2.2 q (by omega)⟩
theorem fk_w {q : Nat} {v : Int32} (h : 12 ≤ q) (h' : q ≤ 17) : fk_ M (wI M 231 q v) := ⟨sh_w _ _ _ _, fun b hb => wI_o hb, fun p hp => by rw [wI_s, if_neg (by omega)]⟩
theorem fk_D (f : fk_ M N) (T : Dt M tp tn) : Dt N tp tn := T.o (f.2.2 11 (by decide)) (f.2.1 239 (by decide))
theorem fw_r (M : mM) : fw_ M M := ⟨sh_r M, fun _ _ _ => rfl, fun _ _ => rfl⟩
theorem fw_t {A B C : mM} (f : fw_ A B) (g : fw_ B C) : fw_ A C := ⟨sh_t f.1 g.1, fun b h h' => (g.2.1 b h h').trans (f.2.1 b h h'), fun b h => (g.2.2 b h).trans (f.2.2 b h)⟩
theorem fw_k (f : fk_ M N) : fw_ M N := ⟨f.1, fun b h _ => f.2.1 b h, f.2.2⟩
theorem fw_6 (f : f1_ 236 M N) : fw_ M N := ⟨f.1, fun b _ h => f.2 b h, fun q _ => by rw [f.2 231 (by decide)]⟩
theorem fw_D (f : fw_ M N) (T : Dt M tp tn) : Dt N tp tn := T.o (f.2.2 11 (by decide)) (f.2.1 239 (by decide) (by decide))
theorem MT_6 (h : MT_ M tp tn i) (f : f1_ 236 M N) : MT_ N tp tn i := by
  unfold MT_ TM_
  rw [f.2 231 (by decide)]
  exact h
theorem FA_6 {q z : Nat} (h : FA_ M q z) (f : f1_ 236 M N) : FA_ N q z := by
  unfold FA_
  rw [f.2 231 (by decide)]
  exact h
theorem m_bad (G : GS M) (K : MT_ M tp tn i) (k : Nat) : ∃ N, m_X7_bad M 231 (nI k) = some N ∧ fk_ M N ∧ FA_ N k i := by
  have G1 : GS (wI M 231 16 (nI k)) := GS_w G
  have e : mi_ (wI M 231 16 (nI k)) 231 13 = nI i := by rw [wI_s, if_neg (by decide)]; exact K.1.1
  refine ⟨wI (wI M 231 16 (nI k)) 231 17 (nI i), ?_, fk_t (fk_w (by decide) (by decide)) (fk_w (by decide) (by decide)), by rw [wI_s, if_neg (by decide), wI_s, if_pos rfl], by rw [wI_s, if_pos rfl]⟩
  rw [m_X7_bad, gI_ (O7 G) (f := 16), Option.bind_some, K.2, if_pos rfl, pI_ (O7 G), Option.bind_some, gI_ (O7 G1) (f := 13), Option.bind_some, e, pI_ (O7 G1), Option.bind_some]
theorem m_badF (G : GS M) (h : FA_ M f a) (hf : f ≠ 0 ∧ f ≤ 3) (x : Int32) : m_X7_bad M 231 x = some M := by
  rw [m_X7_bad, gI_ (O7 G) (f := 16), Option.bind_some, h.1, if_neg (nI_ne0 (by omega) (by omega))]
theorem m_must1 (G : GS M) (T : Dt M tp tn) (K : MT_ M tp tn i) (hi : i ≤ tn) : ∃ N, m_X7_must M 231 (1 : Int32) = some N ∧ fk_ M N ∧ MT_ N tp tn (tx_ tp tn i) := by
  obtain ⟨N, n1, n2, n3⟩ := m_nt G T (tx_le (tp := tp) hi).2 K.1.2.1
  refine ⟨N, ?_, fk_n n2, n3, by rw [n2.2.2 16 (by decide)]; exact K.2⟩
  rw [m_X7_must, if_neg (by decide), gI_ (O7 G) (f := 16), Option.bind_some, K.2, if_pos rfl, if_pos (O7 G), n1, Option.bind_some]
theorem m_must0 (G : GS M) (K : MT_ M tp tn i) : ∃ N, m_X7_must M 231 (0 : Int32) = some N ∧ fk_ M N ∧ FA_ N 1 i := by
  obtain ⟨N, n1, n2, n3⟩ := m_bad G K 1
  have n1' : m_X7_bad M 231 (1 : Int32) = some N := n1
  have GN : GS N := G.sh n2.1
  refine ⟨N, ?_, n2, n3⟩
  rw [m_X7_must, if_pos rfl, if_pos (O7 G), n1', Option.bind_some, gI_ (O7 GN) (f := 16), Option.bind_some, n3.1, if_neg (by decide)]
theorem m_mustF (G : GS M) (h : FA_ M f a) (hf : f ≠ 0 ∧ f ≤ 3) (x : Int32) : m_X7_must M 231 x = some M := by
  have hn := nI_ne0 (n := f) (by omega) (by omega)
  by_cases hx : x = 0
  · rw [m_X7_must, if_pos hx, if_pos (O7 G), m_badF G h hf, Option.bind_some, gI_ (O7 G) (f := 16), Option.bind_some, h.1, if_neg hn]
  · rw [m_X7_must, if_neg hx, gI_ (O7 G) (f := 16), Option.bind_some, h.1, if_neg hn]
theorem m_isL (G : GS M) (T : Dt M tp tn) (K : MT_ M tp tn i) {b : Nat} (hb : 97 ≤ b ∧ b ≤ 122) : m_X7_isLetter M 231 (nI b) = some (b2 (decide (tk_ tp tn i = (2, b)))) := by
  have hbt : ∀ j, j < tn → tp j < 256 := fun j hj => (T.2.2 j hj).2
  have mc := mn_cs (tk_ tp tn i)
  rw [m_X7_isLetter, gI_ (O7 G) (f := 16), Option.bind_some, K.2, if_pos rfl, gI_ (O7 G) (f := 14), Option.bind_some, K.1.2.2.1]
  by_cases q : tk_ tp tn i = (2, b)
  · have m2 : mn_ (tk_ tp tn i) = 2 := mc.2.2.1.mpr (by rw [q]; exact ⟨rfl, hb⟩)
    have hv : mi_ M 231 15 = nI b := by
      rw [K.1.2.2.2 (Or.inl (by rw [q])), q]
    rw [if_pos (show nI (mn_ (tk_ tp tn i)) = (2 : Int32) by rw [m2]; rfl), gI_ (O7 G) (f := 15), Option.bind_some, hv, if_pos rfl, decide_eq_true q]
    rfl
  · rw [decide_eq_false q]
    by_cases m2 : mn_ (tk_ tp tn i) = 2
    · have h2 := mc.2.2.1.mp m2
      have hv := K.1.2.2.2 (Or.inl h2.1)
      have hne : (tk_ tp tn i).2 ≠ b := fun z => q (Prod.ext h2.1 z)
      rw [if_pos (show nI (mn_ (tk_ tp tn i)) = (2 : Int32) by rw [m2]; rfl), gI_ (O7 G) (f := 15), Option.bind_some, hv, if_neg (ne_lit (by omega) (by omega) hne)]
      rfl
    · rw [if_neg (show ¬ nI (mn_ (tk_ tp tn i)) = (2 : Int32) from (ne_lit (by omega) (by decide) m2 : ¬ _ = nI 2))]
      rfl
theorem m_isLF (G : GS M) (h : FA_ M f a) (hf : f ≠ 0 ∧ f ≤ 3) (x : Int32) : m_X7_isLetter M 231 x = some (0 : Int32) := by
  rw [m_X7_isLetter, gI_ (O7 G) (f := 16), Option.bind_some, h.1, if_neg (nI_ne0 (by omega) (by omega))]
theorem m_isSF (G : GS M) (h : FA_ M f a) (hf : f ≠ 0 ∧ f ≤ 3) : m_X7_isSort M 231 = some (0 : Int32) := by
  rw [m_X7_isSort, gI_ (O7 G) (f := 16), Option.bind_some, h.1, if_neg (nI_ne0 (by omega) (by omega))]
theorem m_isS (G : GS M) (T : Dt M tp tn) (K : MT_ M tp tn i) : m_X7_isSort M 231 = some (b2 (decide (pt_ (tk_ tp tn i) = 4))) := by
  have hbt : ∀ j, j < tn → tp j < 256 := fun j hj => (T.2.2 j hj).2
  have mc := mn_cs (tk_ tp tn i)
  have pc := (pt_ch (tk_ tp tn i)).2.2.2
  rw [m_X7_isSort, gI_ (O7 G) (f := 16), Option.bind_some, K.2, if_pos rfl, gI_ (O7 G) (f := 14), Option.bind_some, K.1.2.2.1]
  by_cases m2 : mn_ (tk_ tp tn i) = 2
  · have h2 := mc.2.2.1.mp m2
    have hb := (tk_2 hbt h2.1).1
    have kb : m_X7_kindBy M (nI (tk_ tp tn i).2) = some (if kz_ (tk_ tp tn i).2 = 0 then -1000000 else nI (kz_ (tk_ tp tn i).2)) := f_kB _ hb
    rw [if_pos (show nI (mn_ (tk_ tp tn i)) = (2 : Int32) by rw [m2]; rfl), gI_ (O7 G) (f := 15), Option.bind_some, K.1.2.2.2 (Or.inl h2.1), kb, Option.bind_some]
    by_cases hk : kz_ (tk_ tp tn i).2 = 0
    · rw [if_pos hk, if_pos rfl, decide_eq_false (fun z => (pc.mp z).2 hk)]
      rfl
    · have hl := kz_le (tk_ tp tn i).2
      rw [if_neg hk, if_neg (fun z => nI_pos (n := kz_ (tk_ tp tn i).2) (by omega) (by rw [z]; decide)), decide_eq_true (pc.mpr ⟨h2.1, hk⟩)]
      rfl
  · rw [if_neg (show ¬ nI (mn_ (tk_ tp tn i)) = (2 : Int32) from (ne_lit (by omega) (by decide) m2 : ¬ _ = nI 2)), decide_eq_false (fun z => m2 (mc.2.2.1.mpr ⟨(pc.mp z).1, by have := kz_n (pc.mp z).2; omega⟩))]
    rfl
theorem m_num (G : GS M) (T : Dt M tp tn) (K : MT_ M tp tn i) (hi : i ≤ tn) {lim : Nat} {x : Int32} (hx : x.toInt = (lim : Int) - 1) : ∃ N v, m_X7_number M 231 (0 : Int32) x = some (N, v) ∧ fk_ M N ∧ ((tk_ tp tn i).1 = 3 → (tk_ tp tn i).2 < lim → MT_ N tp tn (tx_ tp tn i) ∧ v = nI (tk_ tp tn i).2) ∧ ((tk_ tp tn i).1 = 3 → ¬ (tk_ tp tn i).2 < lim → FA_ N 2 i) ∧ ((tk_ tp tn i).1 ≠ 3 → FA_ N 1 i) := by
  have hbt : ∀ j, j < tn → tp j < 256 := fun j hj => (T.2.2 j hj).2
  have hv3 := tk_v (tp := tp) (i := i) hbt
  have mc := mn_cs (tk_ tp tn i)
  rw [m_X7_number, gI_ (O7 G) (f := 16), Option.bind_some, K.2, if_pos rfl, gI_ (O7 G) (f := 14), Option.bind_some, K.1.2.2.1]
  by_cases q1 : (tk_ tp tn i).1 = 3
  · have m3 := mc.2.1.mpr q1
    have ein : m_X7_in M (Int32.toInt64 (nI (tk_ tp tn i).2)) (Int32.toInt64 0) (Int32.toInt64 x) = some (b2 (decide ((tk_ tp tn i).2 < lim))) := n_in (by
      rw [Int32.toInt_toInt64, Int32.toInt_toInt64, hx]
      exact rg_v (by omega))
    rw [if_pos (show nI (mn_ (tk_ tp tn i)) = (3 : Int32) by rw [m3]; rfl), Option.bind_some, if_pos rfl, gI_ (O7 G) (f := 15), Option.bind_some, K.1.2.2.2 (Or.inr q1), ein]
    by_cases q2 : (tk_ tp tn i).2 < lim
    · obtain ⟨N, n1, n2, n3⟩ := m_must1 G T K hi
      rw [decide_eq_true q2, Option.bind_some, if_neg (by decide), Option.bind_some, if_pos rfl, Option.bind_some, if_pos (O7 G), n1, Option.bind_some]
      exact ⟨N, _, rfl, n2, fun _ _ => ⟨n3, rfl⟩, fun _ z => absurd q2 z, fun z => absurd q1 z⟩
    · obtain ⟨N, n1, n2, n3⟩ := m_bad G K 2
      have n1' : m_X7_bad M 231 (2 : Int32) = some N := n1
      have GN : GS N := G.sh n2.1
      rw [decide_eq_false q2, Option.bind_some, if_pos (by decide), if_pos (O7 G), n1', Option.bind_some, gI_ (O7 GN) (f := 16), Option.bind_some, n3.1, if_neg (by decide), if_pos (O7 GN), m_mustF GN n3 (by decide), Option.bind_some]
      exact ⟨N, _, rfl, n2, fun _ z => absurd z q2, fun _ _ => n3, fun z => absurd q1 z⟩
  · obtain ⟨N, n1, n2, n3⟩ := m_bad G K 1
    have n1' : m_X7_bad M 231 (1 : Int32) = some N := n1
    have GN : GS N := G.sh n2.1
    have m3 : mn_ (tk_ tp tn i) ≠ 3 := fun z => q1 (mc.2.1.mp z)
    rw [if_neg (show ¬ nI (mn_ (tk_ tp tn i)) = (3 : Int32) from (ne_lit (by omega) (by decide) m3 : ¬ _ = nI 3)), if_pos (O7 G), n1', Option.bind_some, gI_ (O7 GN) (f := 16), Option.bind_some, n3.1, if_neg (by decide), Option.bind_some, if_neg (by decide), if_pos (O7 GN), m_mustF GN n3 (by decide), Option.bind_some]
    exact ⟨N, _, rfl, n2, fun z => absurd z q1, fun z => absurd z q1, fun _ => n3⟩
theorem m_numF (G : GS M) (h : FA_ M f a) (hf : f ≠ 0 ∧ f ≤ 3) (x : Int32) : m_X7_number M 231 (0 : Int32) x = some (M, (0 : Int32)) := by
  have hn := nI_ne0 (n := f) (by omega) (by omega)
  rw [m_X7_number, gI_ (O7 G) (f := 16), Option.bind_some, h.1, if_neg hn, Option.bind_some, if_neg hn, Option.bind_some, if_neg hn, if_pos (O7 G), m_mustF G h hf, Option.bind_some]
theorem m_sgn (G : GS M) (T : Dt M tp tn) (K : MT_ M tp tn i) (hi : i ≤ tn) : ∃ N, m_X7_mustSign M 231 (59 : Int32) = some N ∧ fk_ M N ∧ (tk_ tp tn i = (2, 59) → MT_ N tp tn (tx_ tp tn i)) ∧ (tk_ tp tn i ≠ (2, 59) → FA_ N 1 i) := by
  have hbt : ∀ j, j < tn → tp j < 256 := fun j hj => (T.2.2 j hj).2
  have mc := mn_cs (tk_ tp tn i)
  rw [m_X7_mustSign, gI_ (O7 G) (f := 14), Option.bind_some, K.1.2.2.1]
  obtain ⟨N0, z1, z2, z3⟩ := m_must0 G K
  by_cases q : tk_ tp tn i = (2, 59)
  · obtain ⟨N, n1, n2, n3⟩ := m_must1 G T K hi
    have m4 : mn_ (tk_ tp tn i) = 4 := mc.2.2.2.1.mpr (by rw [q]; exact ⟨rfl, Or.inr rfl⟩)
    have hv : mi_ M 231 15 = (59 : Int32) := by
      rw [K.1.2.2.2 (Or.inl (by rw [q])), q]
      rfl
    rw [if_pos (show nI (mn_ (tk_ tp tn i)) = (4 : Int32) by rw [m4]; rfl), gI_ (O7 G) (f := 15), Option.bind_some, hv, if_pos rfl, if_pos (O7 G), n1, Option.bind_some]
    exact ⟨N, rfl, n2, fun _ => n3, fun z => absurd q z⟩
  · refine ⟨N0, ?_, z2, fun z => absurd z q, fun _ => z3⟩
    by_cases m4 : mn_ (tk_ tp tn i) = 4
    · have h4 := mc.2.2.2.1.mp m4
      have hne : (tk_ tp tn i).2 ≠ 59 := fun z => q (Prod.ext h4.1 z)
      have hv := K.1.2.2.2 (Or.inl h4.1)
      rw [if_pos (show nI (mn_ (tk_ tp tn i)) = (4 : Int32) by rw [m4]; rfl), gI_ (O7 G) (f := 15), Option.bind_some, hv, if_neg (show ¬ nI (tk_ tp tn i).2 = (59 : Int32) from (ne_lit (by omega) (by decide) hne : ¬ _ = nI 59)), if_pos (O7 G), z1, Option.bind_some]
    · rw [if_neg (show ¬ nI (mn_ (tk_ tp tn i)) = (4 : Int32) from (ne_lit (by omega) (by decide) m4 : ¬ _ = nI 4)), if_pos (O7 G), z1, Option.bind_some]
theorem m_sgF (G : GS M) (h : FA_ M f a) (hf : f ≠ 0 ∧ f ≤ 3) (x : Int32) : m_X7_mustSign M 231 x = some M := by
  rw [m_X7_mustSign, gI_ (O7 G) (f := 14), Option.bind_some]
  split
  · rw [gI_ (O7 G) (f := 15), Option.bind_some]
    split
    · rw [if_pos (O7 G), m_mustF G h hf, Option.bind_some]
    · rw [if_pos (O7 G), m_mustF G h hf, Option.bind_some]
  · rw [if_pos (O7 G), m_mustF G h hf, Option.bind_some]
/-- the school that is being read -/
def FR_ (M : mM) (c : sT) : Prop := RC_ (mi_ M 236) c ∧ ∀ p s, p < 6 → s < 6 → mi_ M 236 (19 + 9 * p + (3 + s)) = 0
theorem FR_k (h : FR_ M c) (f : fk_ M N) : FR_ N c := by
  unfold FR_
  rw [f.2.1 236 (by decide)]
  exact h
theorem FR_mk {l : Nat} {c' : sT} (w : pw_ l c') (h0 : mi_ N 236 0 = nI (c' 0 3)) (h1 : mi_ N 236 1 = nI (c' 0 1)) (h2 : mi_ N 236 2 = nI (c' 0 2)) (h3 : mi_ N 236 3 = nI (c' 0 4)) (h4 : mi_ N 236 4 = nI (c' 0 0)) (hn : ∀ s, s < c' 0 1 → mi_ N 236 (5 + s) = nI (c' 1 s)) (hp : ∀ z, z < c' 0 2 → mi_ N 236 (11 + z) = nI (c' 2 z)) (hk : ∀ p, p < c' 0 3 → mi_ N 236 (19 + 9 * p + 0) = nI (c' 3 p)) (hs : ∀ p, p < c' 0 3 → mi_ N 236 (19 + 9 * p + 1) = nI (c' 7 p)) (hw : ∀ p, p < c' 0 3 → mi_ N 236 (19 + 9 * p + 2) = nI (c' 4 p)) (hz : ∀ p s, p < 6 → s < 6 → mi_ N 236 (19 + 9 * p + (3 + s)) = 0) : FR_ N c' := ⟨⟨⟨h0, h1, h2, h3, h4⟩, hn, hp, hk, hs, hw, fun p hp s hs => by
  have := w.1
  rw [hz p s (by omega) (by omega), w.2.1]
  rfl⟩, hz⟩
/-- a part behind its first token -/
def gnR_ (lx : Int32 → Int32) (ad : Nat → mM → Int32 → Option mM) (M7 : mM) (x0 : Nat) : Option mM := (gR M7 x0 7 6).bind fun b8 => (ldI M7 b8 (1 : Int32)).bind fun v11 => if isO M7 x0 7 = true then bd2 (m_X7_number M7 x0 (0 : Int32) (lx v11)) (fun M13 v14 => if isO M13 x0 7 = true then (m_X7_mustSign M13 x0 (59 : Int32)).bind fun M16 => (gI M16 x0 7 16).bind fun v17 => if v17 = (0 : Int32) then ad x0 M16 v14 else some M16 else none) else none
def gnT_ (lx : Int32 → Int32) (ad : Nat → mM → Int32 → Option mM) (M : mM) (x0 : Nat) (v5 : Int32) : Option mM := (m_X7_must M x0 v5).bind fun M7 => gnR_ lx ad M7 x0
def rgU_ (ch : Int32) (lx : Int32 → Int32) (ad : Nat → mM → Int32 → Option mM) (M : mM) (x0 : Nat) : Option mM := if isO M x0 7 = true then (m_X7_isLetter M x0 ch).bind fun v5 => if isO M x0 7 = true then gnT_ lx ad M x0 v5 else none else none
def rg3_ (ch ix mx : Int32) (lx : Int32 → Int32) (ad : Nat → mM → Int32 → Option mM) (M : mM) (x0 : Nat) : Option mM := if isO M x0 7 = true then (m_X7_isLetter M x0 ch).bind fun v2 => if v2 = (0 : Int32) then rgU_ ch lx ad M x0 else ((gR M x0 7 6).bind fun b38 => (ldI M b38 ix).bind fun v41 => if v41 = mx then (if isO M x0 7 = true then (m_X7_bad M x0 (3 : Int32)).bind fun M78 => rgU_ ch lx ad M78 x0 else none) else rgU_ ch lx ad M x0) else none
def lxP_ (v : Int32) : Int32 := ((1 : Int32) <<< (v &&& 31)) - (1 : Int32)
def lxL_ (v : Int32) : Int32 := v - (1 : Int32)
def adS_ (x0 : Nat) (M16 : mM) (v14 : Int32) : Option mM := (gR M16 x0 7 6).bind fun b20 => (gR M16 x0 7 6).bind fun b22 => (ldI M16 b22 (1 : Int32)).bind fun v25 => (stI M16 b20 ((5 : Int32) + v25) v14).bind fun M26 => (gR M26 x0 7 6).bind fun b28 => (ldI M26 b28 (1 : Int32)).bind fun v31 => (stI M26 b28 (1 : Int32) (v31 + (1 : Int32))).bind fun M32 => some M32
def adL_ (x0 : Nat) (M16 : mM) (v14 : Int32) : Option mM := (gR M16 x0 7 6).bind fun b20 => (gR M16 x0 7 6).bind fun b22 => (ldI M16 b22 (2 : Int32)).bind fun v25 => (stI M16 b20 ((11 : Int32) + v25) v14).bind fun M26 => (gR M26 x0 7 6).bind fun b28 => (ldI M26 b28 (2 : Int32)).bind fun v31 => (stI M26 b28 (2 : Int32) (v31 + (1 : Int32))).bind fun M32 => some M32
def adQ_ (v4 : Int32) (x0 : Nat) (M20 : mM) (v18 : Int32) : Option mM := (gR M20 x0 7 6).bind fun b24 => (ldI M20 b24 (0 : Int32)).bind fun v27 => (gR M20 x0 7 6).bind fun b28 => (stI M20 b28 ((19 : Int32) + ((9 : Int32) * v27)) v4).bind fun M30 => (gR M30 x0 7 6).bind fun b32 => (gR M30 x0 7 6).bind fun b34 => (ldI M30 b34 (0 : Int32)).bind fun v37 => (stI M30 b32 (((19 : Int32) + ((9 : Int32) * v27)) + (1 : Int32)) v37).bind fun M38 => (gR M38 x0 7 6).bind fun b40 => (stI M38 b40 (((19 : Int32) + ((9 : Int32) * v27)) + (2 : Int32)) v18).bind fun M42 => (gR M42 x0 7 6).bind fun b44 => (ldI M42 b44 (0 : Int32)).bind fun v47 => (stI M42 b44 (0 : Int32) (v47 + (1 : Int32))).bind fun M48 => some M48
theorem rS_eq (M : mM) (x0 : Nat) : m_X7_readSubject M x0 = rg3_ (106 : Int32) (1 : Int32) (6 : Int32) lxP_ adS_ M x0 := rfl
theorem rL_eq (M : mM) (x0 : Nat) : m_X7_readLesson M x0 = rg3_ (100 : Int32) (2 : Int32) (8 : Int32) lxL_ adL_ M x0 := rfl
theorem rQ_eq (M : mM) (x0 : Nat) : m_X7_readPupil M x0 = ((gI M x0 7 15).bind fun v1 => (m_X7_kindBy M v1).bind fun v4 => (gR M x0 7 6).bind fun b5 => (ldI M b5 (0 : Int32)).bind fun v8 => if v8 = (6 : Int32) then (if isO M x0 7 = true then (m_X7_bad M x0 (3 : Int32)).bind fun M54 => if isO M54 x0 7 = true then gnT_ lxP_ (adQ_ v4) M54 x0 (1 : Int32) else none else none) else (if isO M x0 7 = true then gnT_ lxP_ (adQ_ v4) M x0 (1 : Int32) else none)) := rfl
/-- what a part's reading comes to -/
def RS_ (tp : Nat → Nat) (tn : Nat) (M N : mM) (r : Nat × Nat × Nat × sT) : Prop := fw_ M N ∧ (r.1 = 0 → MT_ N tp tn r.2.1 ∧ FR_ N r.2.2.2) ∧ (r.1 ≠ 0 → FA_ N r.1 r.2.1)
theorem gnR_F {lx : Int32 → Int32} {ad : Nat → mM → Int32 → Option mM} (G : GS M) (h : FA_ M f a) (hf : f ≠ 0 ∧ f ≤ 3) : gnR_ lx ad M 231 = some M := by
  have l1 : ldI M 236 (1 : Int32) = some (mi_ M 236 1) := ld_ (p := 1) (AF G).1 (AF G).2 (by decide) (by decide)
  rw [gnR_, Rf G, Option.bind_some, l1, Option.bind_some, if_pos (O7 G), m_numF G h hf, bd2_s, if_pos (O7 G), m_sgF G h hf, Option.bind_some, gI_ (O7 G) (f := 16), Option.bind_some, h.1, if_neg (nI_ne0 (by omega) (by omega))]
theorem gnT_F {lx : Int32 → Int32} {ad : Nat → mM → Int32 → Option mM} (G : GS M) (h : FA_ M f a) (hf : f ≠ 0 ∧ f ≤ 3) (x : Int32) : gnT_ lx ad M 231 x = some M := by
  rw [gnT_, m_mustF G h hf, Option.bind_some, gnR_F G h hf]
theorem rgU_F {ch : Int32} {lx : Int32 → Int32} {ad : Nat → mM → Int32 → Option mM} (G : GS M) (h : FA_ M f a) (hf : f ≠ 0 ∧ f ≤ 3) : rgU_ ch lx ad M 231 = some M := by
  rw [rgU_, if_pos (O7 G), m_isLF G h hf, Option.bind_some, if_pos (O7 G), gnT_F G h hf]
theorem rg3_F {ch ix mx : Int32} {lx : Int32 → Int32} {ad : Nat → mM → Int32 → Option mM} (G : GS M) (h : FA_ M f a) (hf : f ≠ 0 ∧ f ≤ 3) : rg3_ ch ix mx lx ad M 231 = some M := by
  rw [rg3_, if_pos (O7 G), m_isLF G h hf, Option.bind_some, if_pos rfl, rgU_F G h hf]
theorem m_gn (G : GS M) (T : Dt M tp tn) (K : MT_ M tp tn i) (hi : i < tn) (F : FR_ M c) {l p b : Nat} (w : pw_ l c) (hf : fu_ p c = false) {lx : Int32 → Int32} {ad : Nat → mM → Int32 → Option mM} (hlx : (lx (nI (c 0 1))).toInt = (lm_ p c : Int) - 1) (had : ∀ (K : mM) (v : Nat), GS K → FR_ K c → v < lm_ p c → ∃ N, ad 231 K (nI v) = some N ∧ f1_ 236 K N ∧ FR_ N (adp_ p (kz_ b) v c)) : ∃ N, gnT_ lx ad M 231 (1 : Int32) = some N ∧ RS_ tp tn M N (sq_ tp tn p b i c) := by
  have a1' := tx_gt (tp := tp) hi
  have a2' := tx_le (tp := tp) a1'.2
  obtain ⟨M7, b1, b2, b3⟩ := m_must1 G T K (by omega)
  have G7 : GS M7 := G.sh b2.1
  have T7 := fk_D b2 T
  have F7 := FR_k F b2
  obtain ⟨M13, v, d1, d2, d3, d4, d5⟩ := m_num G7 T7 b3 a1'.2 hlx
  have G13 : GS M13 := G7.sh d2.1
  have T13 := fk_D d2 T7
  rw [gnT_, b1, Option.bind_some, gnR_, Rf G7, Option.bind_some, l_J (AF G7) F7.1, Option.bind_some, if_pos (O7 G7), d1, bd2_s, if_pos (O7 G13)]
  have flt : ∀ q z, (q ≠ 0 ∧ q ≤ 3) → FA_ M13 q z → sq_ tp tn p b i c = (q, z, 0, c) → ∃ N, ((m_X7_mustSign M13 231 (59 : Int32)).bind fun M16 => (gI M16 231 7 16).bind fun v17 => if v17 = (0 : Int32) then ad 231 M16 v else some M16) = some N ∧ RS_ tp tn M N (sq_ tp tn p b i c) := by
    intro q z hq h e
    rw [m_sgF G13 h hq, Option.bind_some, gI_ (O7 G13) (f := 16), Option.bind_some, h.1, if_neg (nI_ne0 (by omega) (by omega)), e]
    exact ⟨M13, rfl, fw_k (fk_t b2 d2), fun y => absurd y hq.1, fun _ => h⟩
  by_cases q1 : (tk_ tp tn (tx_ tp tn i)).1 = 3
  · by_cases q2 : (tk_ tp tn (tx_ tp tn i)).2 < lm_ p c
    · obtain ⟨e1, e2⟩ := d3 q1 q2
      obtain ⟨M16, s1, s2, s3, s4⟩ := m_sgn G13 T13 e1 a2'.2
      have G16 : GS M16 := G13.sh s2.1
      rw [s1, Option.bind_some, gI_ (O7 G16) (f := 16), Option.bind_some]
      by_cases q3 : tk_ tp tn (tx_ tp tn (tx_ tp tn i)) = (2, 59)
      · have e : sq_ tp tn p b i c = (0, tx_ tp tn (tx_ tp tn (tx_ tp tn i)), p, adp_ p (kz_ b) (tk_ tp tn (tx_ tp tn i)).2 c) := by
          unfold sq_
          rw [hf, if_neg (by decide), if_pos q1, if_pos q2, if_pos q3]
        have k16 := s3 q3
        obtain ⟨N, n1, n2, n3⟩ := had M16 _ G16 (FR_k (FR_k F7 d2) s2) q2
        rw [k16.2, if_pos rfl, e2, n1, e]
        exact ⟨N, rfl, fw_t (fw_k (fk_t b2 (fk_t d2 s2))) (fw_6 n2), fun _ => ⟨MT_6 k16 n2, n3⟩, fun y => absurd rfl y⟩
      · have e : sq_ tp tn p b i c = (1, tx_ tp tn (tx_ tp tn i), 0, c) := by
          unfold sq_
          rw [hf, if_neg (by decide), if_pos q1, if_pos q2, if_neg q3]
        have h16 := s4 q3
        rw [h16.1, if_neg (by decide), e]
        exact ⟨M16, rfl, fw_k (fk_t b2 (fk_t d2 s2)), fun y => absurd y (show ¬ (1 : Nat) = 0 by decide), fun _ => h16⟩
    · exact flt 2 _ (by decide) (d4 q1 q2) (by
        unfold sq_
        rw [hf, if_neg (by decide), if_pos q1, if_neg q2])
  · exact flt 1 _ (by decide) (d5 q1) (by
      unfold sq_
      rw [hf, if_neg (by decide), if_neg q1])
theorem m_rg3 (G : GS M) (T : Dt M tp tn) (K : MT_ M tp tn i) (hi : i ≤ tn) (F : FR_ M c) {l p b0 cnt mxn : Nat} {ix : Int32} (w : pw_ l c) (hl : l + 1 = p ∨ (l = p ∧ p ≠ 1)) (hp : 1 ≤ p) (hch : ∀ t, pt_ t = p ↔ t = (2, b0)) (hb0 : 97 ≤ b0 ∧ b0 ≤ 122) (hix : ldI M 236 ix = some (nI cnt)) (hcm : cnt ≤ mxn ∧ mxn ≤ 8) (hfu : fu_ p c = decide (mxn ≤ cnt)) (h1 : l = p → tk_ tp tn i = (2, b0)) (h2 : l + 1 = p → pt_ (tk_ tp tn i) ≠ l ∨ l ≤ 1) {lx : Int32 → Int32} {ad : Nat → mM → Int32 → Option mM} (hlx : (lx (nI (c 0 1))).toInt = (lm_ p c : Int) - 1)
    (had : fu_ p c = false → ∀ (K : mM) (v : Nat), GS K → FR_ K c → v < lm_ p c → ∃ N, ad 231 K (nI v) = some N ∧ f1_ 236 K N ∧ FR_ N (adp_ p (kz_ b0) v c)) : ∃ N, rg3_ (nI b0) ix (nI mxn) lx ad M 231 = some N ∧ RS_ tp tn M N (sp_ tp tn l i c) := by
  by_cases q : tk_ tp tn i = (2, b0)
  · have hpt : pt_ (tk_ tp tn i) = p := (hch _).mpr q
    have ho : okp_ l (pt_ (tk_ tp tn i)) = true := by
      rw [hpt]
      simp only [okp_, Bool.and_eq_true, Bool.or_eq_true, decide_eq_true_eq]
      omega
    have isl := m_isL G T K hb0
    rw [decide_eq_true q] at isl
    have hit : i < tn := tk_lt hi (by rw [q]; exact (show ¬ (2 : Nat) = 1 by decide))
    have e2 : (tk_ tp tn i).2 = b0 := by rw [q]
    rw [rg3_, if_pos (O7 G), isl, Option.bind_some, if_neg (by decide), Rf G, Option.bind_some, hix, Option.bind_some, sp_t ho, hpt, e2]
    by_cases hc : cnt = mxn
    · have hfu' : fu_ p c = true := by rw [hfu]; exact decide_eq_true (by omega)
      obtain ⟨N, n1, n2, n3⟩ := m_bad G K 3
      have n1' : m_X7_bad M 231 (3 : Int32) = some N := n1
      have GN : GS N := G.sh n2.1
      have e : sq_ tp tn p b0 i c = (3, i, 0, c) := by
        unfold sq_
        rw [hfu', if_pos rfl]
      rw [if_pos (by rw [hc]), if_pos (O7 G), n1', Option.bind_some, rgU_F GN n3 (by decide), e]
      exact ⟨N, rfl, fw_k n2, fun y => absurd y (show ¬ (3 : Nat) = 0 by decide), fun _ => n3⟩
    · have hfu' : fu_ p c = false := by rw [hfu]; exact decide_eq_false (by omega)
      rw [if_neg (ne_lit (by omega) (by omega) hc), rgU_, if_pos (O7 G), isl, Option.bind_some, if_pos (O7 G)]
      exact m_gn G T K hit F w hfu' hlx (had hfu')
  · have ho : okp_ l (pt_ (tk_ tp tn i)) = false := by
      have hne : pt_ (tk_ tp tn i) ≠ p := fun z => q ((hch _).mp z)
      have hl1 : l + 1 = p := by
        rcases hl with h | h
        · exact h
        · exact absurd (h1 h.1) q
      have := h2 hl1
      unfold okp_
      by_cases z : pt_ (tk_ tp tn i) = l
      · rw [decide_eq_false (show ¬ pt_ (tk_ tp tn i) = l + 1 by omega), Bool.false_or, Bool.and_eq_false_iff]
        by_cases z0 : l = 0
        · exact Or.inl (decide_eq_false (by omega))
        · right
          rw [Bool.and_eq_false_iff]
          exact Or.inr (decide_eq_false (by omega))
      · rw [decide_eq_false (show ¬ pt_ (tk_ tp tn i) = l + 1 by omega), decide_eq_false z]
        simp
    have isl := m_isL G T K hb0
    rw [decide_eq_false q] at isl
    obtain ⟨N, n1, n2, n3⟩ := m_must0 G K
    have GN : GS N := G.sh n2.1
    rw [rg3_, if_pos (O7 G), isl, Option.bind_some, if_pos (by decide), rgU_, if_pos (O7 G), isl, Option.bind_some, if_pos (O7 G), gnT_, show b2 false = (0 : Int32) from rfl, n1, Option.bind_some, gnR_F GN n3 (by decide), sp_n ho]
    exact ⟨N, rfl, fw_k n2, fun y => absurd y (show ¬ (1 : Nat) = 0 by decide), fun _ => n3⟩
end MP
