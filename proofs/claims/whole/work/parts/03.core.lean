/-! ===== CORE: a memory as functions over cell numbers; the judgement V over it ===== -/
/-- the memory: how many cells; the kind of each (0, class) (1, length) ints (2, length) booleans (3, length) rows (4, length) schools; ints; references -/
abbrev mM : Type := Nat × (Nat → Nat × Nat) × (Nat → Nat → Int32) × (Nat → Nat → Option Nat)
abbrev mz (M : mM) : Nat := M.1
abbrev mk_ (M : mM) : Nat → Nat × Nat := M.2.1
abbrev mi_ (M : mM) : Nat → Nat → Int32 := M.2.2.1
abbrev mr_ (M : mM) : Nat → Nat → Option Nat := M.2.2.2
def nF_ (c : Nat) : Nat := [3, 7, 8, 8, 4, 11, 8, 26].getD c 0
def rF_ (c j : Nat) : Bool := ([[0], [0], [0, 1, 4, 5, 6], [0, 1], [0], [5, 6, 7, 8, 9, 10], [0, 1, 2, 3, 4, 5, 6], [2, 3, 4, 5, 6, 7, 8, 10, 19, 20, 21, 22, 23, 24]].getD c []).contains j
def up2 {α : Type} (f : Nat → Nat → α) (a j : Nat) (v : α) : Nat → Nat → α := fun b k => if b = a then (if k = j then v else f b k) else f b k
/-- the world's constants: tables, the four array classes, the first address, outer arrays' addresses, the script -/
abbrev zZ : Type := Launch × va_G × (ClassId × ClassId × ClassId × ClassId) × Nat × (UInt32 → Nat) × Nat × (Nat → Int32)
abbrev zl (Z : zZ) : Launch := Z.1
abbrev zD (Z : zZ) : va_G := Z.2.1
abbrev zC (Z : zZ) : ClassId × ClassId × ClassId × ClassId := Z.2.2.1
abbrev zB (Z : zZ) : Nat := Z.2.2.2.1
abbrev zE (Z : zZ) : UInt32 → Nat := Z.2.2.2.2.1
abbrev zL (Z : zZ) : Nat := Z.2.2.2.2.2.1
abbrev zx (Z : zZ) : Nat → Int32 := Z.2.2.2.2.2.2
def zA (Z : zZ) : Nat → Prop := fun q => zB Z ≤ q
def ad (Z : zZ) (k : Nat) : Nat := zB Z + k
/-- an abstract value: a reference by its cell's number; an outer array (a float here) by its own -/
def cv (Z : zZ) : Value → Value
  | .ref k => .ref (ad Z k)
  | .float u => .ref (zE Z u)
  | v => v
theorem cv_cat (Z : zZ) (v : Value) : (cv Z v).category = v.category := by cases v <;> rfl
def tb_s (j : Nat) : Int32 := [10, 11, 12, 11, 13, 14].getD j 0
def tb_m (j : Nat) : Int32 := [20, 21, 24, 22, 23, 23].getD j 0
def xa (Z : zZ) (u : UInt32) : Option (Nat × (Nat → Int32)) := if u = 0 then some (6, tb_s) else if u = 1 then some (6, tb_m) else if u = 2 then some (zL Z, zx Z) else none
def ty_ (Z : zZ) : List (ClassId × FieldType) := [((zC Z).1, .int), ((zC Z).2.1, .boolean), ((zC Z).2.2.1, .object RX4), ((zC Z).2.2.2, .object RX5)]
def ce_ (Z : zZ) (M : mM) (k : Nat) : va_E := match (mk_ M k).1 with
  | 0 => .inr ((mk_ M k).2, (List.range (nF_ (mk_ M k).2)).map (fun j => if rF_ (mk_ M k).2 j then va_rf ((mr_ M k j).map (ad Z)) else .int (mi_ M k j)))
  | 1 => .inl ((zC Z).1, (mk_ M k).2, .inl (mi_ M k))
  | 2 => .inl ((zC Z).2.1, (mk_ M k).2, .inl (mi_ M k))
  | 3 => .inl ((zC Z).2.2.1, (mk_ M k).2, .inr (.inr (.inr (.inr (fun j => (mr_ M k j).map (ad Z))))))
  | _ => .inl ((zC Z).2.2.2, (mk_ M k).2, .inr (.inr (.inr (.inr (fun j => (mr_ M k j).map (ad Z))))))
def ws_ (Z : zZ) (M : mM) : va_W := (List.range (mz M)).map (fun k => (ad Z k, ce_ Z M k))
theorem ws_get {Z : zZ} {M : mM} {k : Nat} (h : k < mz M) : (ws_ Z M)[k]? = some (ad Z k, ce_ Z M k) := by
  simp [ws_, List.getElem?_map, List.getElem?_range h]
theorem ws_some {Z : zZ} {M : mM} {k : Nat} {q : Nat × va_E} (h : (ws_ Z M)[k]? = some q) : k < mz M ∧ q = (ad Z k, ce_ Z M k) := by
  have hk : k < mz M := by
    have := (List.getElem?_eq_some_iff.mp h).1
    simpa [ws_] using this
  rw [ws_get hk] at h
  exact ⟨hk, (Option.some.inj h).symm⟩
theorem ws_D (Z : zZ) (M : mM) : va_D (zA Z) (ws_ Z M) := by
  refine ⟨fun i j p q hi hj h => ?_, fun k q hk => ?_⟩
  · obtain ⟨-, rfl⟩ := ws_some hi
    obtain ⟨-, rfl⟩ := ws_some hj
    simp only [ad] at h
    omega
  · obtain ⟨-, rfl⟩ := ws_some hk
    exact Nat.le_add_right _ _
theorem ws_set {Z : zZ} {M M' : mM} {k : Nat} {e : va_E} (hz : mz M' = mz M) (hk : k < mz M) (he : ce_ Z M' k = e) (ho : ∀ j, j ≠ k → ce_ Z M' j = ce_ Z M j) : (ws_ Z M).set k (ad Z k, e) = ws_ Z M' := by
  apply List.ext_getElem?
  intro j
  by_cases hj : j = k
  · subst hj
    rw [List.getElem?_set_self (by simpa [ws_] using hk), ws_get (by rw [hz]; exact hk), he]
  · rw [List.getElem?_set_ne (Ne.symm hj)]
    by_cases hl : j < mz M
    · rw [ws_get hl, ws_get (by rw [hz]; exact hl), ho j hj]
    · rw [List.getElem?_eq_none (by simp [ws_]; omega), List.getElem?_eq_none (by simp [ws_]; omega)]
theorem ws_push {Z : zZ} {M M' : mM} {e : va_E} (hz : mz M' = mz M + 1) (he : ce_ Z M' (mz M) = e) (ho : ∀ j, j < mz M → ce_ Z M' j = ce_ Z M j) : ws_ Z M ++ [(ad Z (mz M), e)] = ws_ Z M' := by
  unfold ws_
  rw [hz, List.range_succ, List.map_append, ← he]
  congr 1
  apply List.map_congr_left
  intro j hj
  rw [ho j (List.mem_range.mp hj)]
/-! the words -/
def TT : List Cond := lw_tbl.filter goodWord
theorem tt_of {w : Cond} (i : Nat) (h : lw_tbl[i]? = some w) (g : goodWord w = true) : w ∈ TT := List.mem_filter.mpr ⟨List.mem_of_getElem? h, g⟩
theorem tt_good {big ws : List Cond} (hw : ∀ w ∈ ws, w ∈ TT) (hb : ∀ w ∈ TT, w ∈ big) : GoodIn big ws := fun w h => ⟨hb w (hw w h), good_of_word (List.mem_filter.mp (hw w h)).2⟩
/-- the nest mates' links -/
def ne_w : Cond → Bool
  | .methodLinkNest _ _ _ _ => true
  | _ => false
def nw_ : List Cond := lw_tbl.filter ne_w
theorem nw_of {w : Cond} (i : Nat) (h : lw_tbl[i]? = some w) (g : ne_w w = true) : w ∈ nw_ := List.mem_filter.mpr ⟨List.mem_of_getElem? h, g⟩
/-- what a state must know: tables, nest mates, arrays of references, statics, outer arrays -/
def KK (Z : zZ) (U : State) : Prop := va_K (zD Z) vwCl (ty_ Z) U ∧ (∀ w ∈ nw_, va_Nw w U) ∧ va_AO RX4 U ∧ va_AO RX5 U ∧
  va_Z RX1 "SIZE_BODIES" "[I" (.ref (zE Z 0)) (zA Z) U U.heap ∧ va_Z RX1 "MARK_BODIES" "[I" (.ref (zE Z 1)) (zA Z) U U.heap ∧
  ∀ (u : UInt32) (n : Nat) (f : Nat → Int32), xa Z u = some (n, f) → va_T .int (zE Z u) n (fun j => .int (f j)) (zA Z) U U.heap
theorem KK.moved {Z : zZ} {s U : State} (h : KK Z s) (hW : s.WarmedH U.vm) (hq : ∀ a : Nat, a < s.heap.size → ¬ zA Z a → U.heap[a]? = s.heap[a]?) : KK Z U := by
  obtain ⟨h1, h2, h3, h4, h5, h6, h7⟩ := h
  refine ⟨va_K.moved hW.alike h1, fun w hw => ?_, va_AO.moved hW.alike h3, va_AO.moved hW.alike h4, (h5.moved hW.alike).kept hq, (h6.moved hW.alike).kept hq, fun u n f hu => ((h7 u n f hu).moved hW.alike).kept hq⟩
  have hk := h2 w hw
  have hf := (List.mem_filter.mp hw).2
  cases w with
  | methodLinkNest a i x h => exact va_Nw.warmM hW hk
  | _ => simp [ne_w] at hf
theorem KK.calling {Z : zZ} {U : State} {g : JFrame} {mk : MethodId} {a : Array Value} (h : KK Z U) : KK Z (U.calling g mk a) := by
  obtain ⟨h1, h2, h3, h4, h5, h6, h7⟩ := h
  have hv : U.vm.Alike (U.calling g mk a).vm := Vm.Alike.refl U.vm
  refine ⟨va_K.moved hv h1, fun w hw => ?_, va_AO.moved hv h3, va_AO.moved hv h4, h5.moved hv, h6.moved hv, fun u n f hu => (h7 u n f hu).moved hv⟩
  have hk := h2 w hw
  have hf := (List.mem_filter.mp hw).2
  cases w with
  | methodLinkNest a i x h => exact va_Nw.same rfl (U := U.calling _ _ _) rfl hk
  | _ => simp [ne_w] at hf
/-! locals -/
def lvh (Z : zZ) (ls : Array Slot) (L : List (Option Value)) : Prop := ls.size = L.length ∧ lv_wf ls ∧ ∀ (i : Nat) (v : Value), L[i]? = some (some v) → ls[i]? = some (.val (cv Z v))
def prs (Z : zZ) (L : List (Option Value)) : List (Nat × Value) := L.zipIdx.filterMap (fun q => q.1.map (fun v => (q.2, cv Z v)))
theorem prs_mem {Z : zZ} {L : List (Option Value)} {q : Nat × Value} : q ∈ prs Z L ↔ ∃ w, L[q.1]? = some (some w) ∧ q.2 = cv Z w := by
  unfold prs
  constructor
  · intro h
    obtain ⟨⟨o, i⟩, h1, h2⟩ := List.mem_filterMap.mp h
    have h3 := List.mem_zipIdx_iff_getElem?.mp h1
    cases o with
    | none => simp at h2
    | some w =>
      simp at h2
      subst h2
      exact ⟨w, h3, rfl⟩
  · rintro ⟨w, h1, h2⟩
    refine List.mem_filterMap.mpr ⟨(some w, q.1), List.mem_zipIdx_iff_getElem?.mpr h1, ?_⟩
    simp [← h2]
theorem lvh_has {Z : zZ} {ls : Array Slot} {L : List (Option Value)} (h : lvh Z ls L) : lv_has ls L.length (prs Z L) := ⟨h.1, h.2.1, fun q hq => by
  obtain ⟨w, h1, h2⟩ := prs_mem.mp hq
  rw [h2]
  exact h.2.2 q.1 w h1⟩
/-- no long stands just before place i -/
def c1_ (L : List (Option Value)) (i : Nat) : Bool := match i with
  | 0 => true
  | j + 1 => match L[j]? with
    | some (some w) => w.category == 1
    | _ => true
theorem lvh_s1 {Z : zZ} {ls' : Array Slot} {L : List (Option Value)} {i : Nat} {v : Value} (hi : i < L.length) (hc : c1_ L i = true)
    (h' : lv_has ls' L.length ((i, cv Z v) :: (prs Z L).filter (fun q => !(q.1 == i) && !(q.1 + 1 == i && q.2.category == 2)))) : lvh Z ls' (L.set i (some v)) := by
  refine ⟨by rw [List.length_set]; exact h'.1, h'.2.1, fun j w hj => ?_⟩
  by_cases hji : j = i
  · subst hji
    rw [List.getElem?_set_self hi] at hj
    cases hj
    exact h'.2.2 (j, cv Z v) List.mem_cons_self
  · rw [List.getElem?_set_ne (Ne.symm hji)] at hj
    refine h'.2.2 (j, cv Z w) (List.mem_cons_of_mem _ (List.mem_filter.mpr ⟨prs_mem.mpr ⟨w, hj, rfl⟩, ?_⟩))
    simp only [Bool.and_eq_true, Bool.not_eq_true', beq_eq_false_iff_ne, ne_eq, Bool.and_eq_false_iff]
    refine ⟨hji, ?_⟩
    by_cases h1 : j + 1 = i
    · right
      subst h1
      simp only [c1_, hj, beq_iff_eq] at hc
      rw [cv_cat, hc]
      decide
    · exact Or.inl h1
theorem lvh_s2 {Z : zZ} {ls' : Array Slot} {L : List (Option Value)} {i : Nat} {v : Value} (hi : i + 1 < L.length) (hc : c1_ L i = true)
    (h' : lv_has ls' L.length ((i, cv Z v) :: (prs Z L).filter (fun q => !(q.1 == i) && (!(q.1 == i + 1) && !(q.1 + 1 == i && q.2.category == 2))))) : lvh Z ls' ((L.set i (some v)).set (i + 1) none) := by
  refine ⟨by rw [List.length_set, List.length_set]; exact h'.1, h'.2.1, fun j w hj => ?_⟩
  by_cases hj2 : j = i + 1
  · subst hj2
    rw [List.getElem?_set_self (by rw [List.length_set]; exact hi)] at hj
    cases hj
  · rw [List.getElem?_set_ne (Ne.symm hj2)] at hj
    by_cases hji : j = i
    · subst hji
      rw [List.getElem?_set_self (by omega)] at hj
      cases hj
      exact h'.2.2 (j, cv Z v) List.mem_cons_self
    · rw [List.getElem?_set_ne (Ne.symm hji)] at hj
      refine h'.2.2 (j, cv Z w) (List.mem_cons_of_mem _ (List.mem_filter.mpr ⟨prs_mem.mpr ⟨w, hj, rfl⟩, ?_⟩))
      simp only [Bool.and_eq_true, Bool.not_eq_true', beq_eq_false_iff_ne, ne_eq, Bool.and_eq_false_iff]
      refine ⟨hji, hj2, ?_⟩
      by_cases h1 : j + 1 = i
      · right
        subst h1
        simp only [c1_, hj, beq_iff_eq] at hc
        rw [cv_cat, hc]
        decide
      · exact Or.inl h1
/-! the machine's side, as one thing -/
abbrev xX : Type := Program × Env × Room × State × MethodId × Array Value × List Frame × Method × Code × (State → Prop)
abbrev xp (X : xX) : Program := X.1
abbrev xe (X : xX) : Env := X.2.1
abbrev xR (X : xX) : Room := X.2.2.1
abbrev xs_ (X : xX) : State := X.2.2.2.1
abbrev xm (X : xX) : MethodId := X.2.2.2.2.1
abbrev xa_ (X : xX) : Array Value := X.2.2.2.2.2.1
abbrev xb (X : xX) : List Frame := X.2.2.2.2.2.2.1
abbrev xt (X : xX) : Method := X.2.2.2.2.2.2.2.1
abbrev xc (X : xX) : Code := X.2.2.2.2.2.2.2.2.1
abbrev xQ (X : xX) : State → Prop := X.2.2.2.2.2.2.2.2.2
def WX (X : xX) (Z : zZ) (H : Heap) (locs : List Loc) (cn sn : Nat) (g : JFrame) : Prop := W (xp X) (zl Z) (xe X) (xR X) (xs_ X) (xm X) (xa_ X) (xb X) (xt X) (xc X) H locs cn sn (xQ X) g
/-- V: with the memory M, cn cells and sn slots made so far, at pc with locals L and stack st, the machine comes to its end -/
def V (X : xX) (Z : zZ) (M : mM) (cn sn pc : Nat) (L : List (Option Value)) (st : List Value) : Prop :=
  ∀ (H : Heap) (locs : List Loc) (ls : Array Slot), zB Z + mz M = (xs_ X).heap.size + cn → va_P (zD Z) vwCl (ws_ Z M) H → va_S (zA Z) (xs_ X).heap H locs → lvh Z ls L →
    W (xp X) (zl Z) (xe X) (xR X) (xs_ X) (xm X) (xa_ X) (xb X) (xt X) (xc X) H locs cn sn (xQ X) (F0 (xm X) pc ls (st.map (cv Z)))
def ok_ (X : xX) (Z : zZ) (y : MethodName) (cc : ByteArray) (nL d mc ms : Nat) : Prop :=
  (xp X).tables.exec = Jvm.exec ∧ (xc X).code = cc ∧ (xc X).maxLocals = nL ∧ (xs_ X).vm.findClass y.cls = some (xm X).cls ∧ (∀ w ∈ TT, w.before (xa_ X) (xs_ X) = true) ∧ KK Z (xs_ X) ∧ zB Z ≤ (xs_ X).heap.size ∧
  (d ≤ (xR X).frames ∧ mc ≤ (xR X).cells ∧ ms ≤ (xR X).slots ∧ 64 * d ≤ (xR X).locals) ∧ (y.name = "<init>" → (xt X).name = "<init>")
