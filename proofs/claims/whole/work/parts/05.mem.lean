/-! ===== MEMORY: what the shallow functions do to it, and the rules of V for it ===== -/
def inB (i : Int32) (n : Nat) : Bool := decide (¬ (i < 0 ∨ n ≤ i.toNatClampNeg))
theorem inB_in {i : Int32} {n : Nat} (h : inB i n = true) : vp_in i n := by
  unfold inB at h
  unfold vp_in
  exact of_decide_eq_true h
def isO (M : mM) (a c : Nat) : Bool := decide (a < mz M) && decide (mk_ M a = (0, c))
def gI (M : mM) (a c f : Nat) : Option Int32 := if isO M a c then some (mi_ M a f) else none
def gR (M : mM) (a c f : Nat) : Option Nat := if isO M a c then mr_ M a f else none
def gN (M : mM) (a c f : Nat) : Bool := isO M a c && decide (mr_ M a f = none)
def pI (M : mM) (a c f : Nat) (v : Int32) : Option mM := if isO M a c then some (M.1, M.2.1, up2 (mi_ M) a f v, mr_ M) else none
def pR (M : mM) (a c f : Nat) (v : Nat) : Option mM := if isO M a c then some (M.1, M.2.1, mi_ M, up2 (mr_ M) a f (some v)) else none
def isA (M : mM) (a t : Nat) (i : Int32) : Bool := decide (a < mz M) && decide ((mk_ M a).1 = t) && inB i (mk_ M a).2
def ldI (M : mM) (a : Nat) (i : Int32) : Option Int32 := if isA M a 1 i then some (mi_ M a i.toNatClampNeg) else none
def stI (M : mM) (a : Nat) (i v : Int32) : Option mM := if isA M a 1 i then some (M.1, M.2.1, up2 (mi_ M) a i.toNatClampNeg v, mr_ M) else none
def ldZ (M : mM) (a : Nat) (i : Int32) : Option Int32 := if isA M a 2 i then some (mi_ M a i.toNatClampNeg) else none
def stZ (M : mM) (a : Nat) (i v : Int32) : Option mM := if isA M a 2 i && (v == 0 || v == 1) then some (M.1, M.2.1, up2 (mi_ M) a i.toNatClampNeg v, mr_ M) else none
def ldR (M : mM) (a t : Nat) (i : Int32) : Option Nat := if isA M a t i then mr_ M a i.toNatClampNeg else none
def stR (M : mM) (a t c : Nat) (i : Int32) (b : Nat) : Option mM := if isA M a t i && isO M b c then some (M.1, M.2.1, mi_ M, up2 (mr_ M) a i.toNatClampNeg (some b)) else none
def ldX (Z : zZ) (u : UInt32) (i : Int32) : Option Int32 := match xa Z u with
  | some q => if inB i q.1 then some (q.2 i.toNatClampNeg) else none
  | none => none
def cpI (M : mM) (a : Nat) (i : Int32) (b : Nat) (j n : Int32) : Option mM :=
  if decide (a < mz M) && decide ((mk_ M a).1 = 1) && decide (b < mz M) && decide ((mk_ M b).1 = 1) && decide (¬ i < 0) && decide (¬ j < 0) && decide (¬ n < 0) && decide (i.toNatClampNeg + n.toNatClampNeg ≤ (mk_ M a).2) && decide (j.toNatClampNeg + n.toNatClampNeg ≤ (mk_ M b).2)
  then some (M.1, M.2.1, fun k => if k = b then va_cpy (mi_ M a) (mi_ M b) i.toNatClampNeg j.toNatClampNeg n.toNatClampNeg else mi_ M k, mr_ M) else none
def nwC (M : mM) (k : Nat × Nat) : mM := (M.1 + 1, va_up (mk_ M) M.1 k, va_up (mi_ M) M.1 (fun _ => 0), va_up (mr_ M) M.1 (fun _ => none))
theorem isO_s {M : mM} {a c : Nat} (h : isO M a c = true) : a < mz M ∧ mk_ M a = (0, c) := by simpa [isO] using h
theorem isA_s {M : mM} {a t : Nat} {i : Int32} (h : isA M a t i = true) : a < mz M ∧ (mk_ M a).1 = t ∧ vp_in i (mk_ M a).2 := by
  simp only [isA, Bool.and_eq_true, decide_eq_true_eq] at h
  exact ⟨h.1.1, h.1.2, inB_in h.2⟩
theorem if_s {α : Type} {c : Prop} [Decidable c] {x : Option α} {v : α} (h : (if c then x else none) = some v) : c ∧ x = some v := by
  by_cases hc : c
  · rw [if_pos hc] at h; exact ⟨hc, h⟩
  · rw [if_neg hc] at h; cases h
def fl_ (Z : zZ) (M : mM) (c a : Nat) : List Value := (List.range (nF_ c)).map (fun j => if rF_ c j then va_rf ((mr_ M a j).map (ad Z)) else .int (mi_ M a j))
theorem ce_O {Z : zZ} {M : mM} {a c : Nat} (h : mk_ M a = (0, c)) : ce_ Z M a = .inr (c, fl_ Z M c a) := by
  unfold ce_ fl_
  rw [h]
  rfl
theorem ce_1 {Z : zZ} {M : mM} {a : Nat} (h : (mk_ M a).1 = 1) : ce_ Z M a = .inl ((zC Z).1, (mk_ M a).2, .inl (mi_ M a)) := by
  unfold ce_
  rw [h]
  rfl
theorem ce_2 {Z : zZ} {M : mM} {a : Nat} (h : (mk_ M a).1 = 2) : ce_ Z M a = .inl ((zC Z).2.1, (mk_ M a).2, .inl (mi_ M a)) := by
  unfold ce_
  rw [h]
  rfl
theorem ce_3 {Z : zZ} {M : mM} {a : Nat} (h : (mk_ M a).1 = 3) : ce_ Z M a = .inl ((zC Z).2.2.1, (mk_ M a).2, .inr (.inr (.inr (.inr (fun j => (mr_ M a j).map (ad Z)))))) := by
  unfold ce_
  rw [h]
  rfl
theorem ce_4 {Z : zZ} {M : mM} {a : Nat} (h : (mk_ M a).1 = 4) : ce_ Z M a = .inl ((zC Z).2.2.2, (mk_ M a).2, .inr (.inr (.inr (.inr (fun j => (mr_ M a j).map (ad Z)))))) := by
  unfold ce_
  rw [h]
  rfl
theorem ce_eq {Z : zZ} {M M' : mM} {j : Nat} (hk : mk_ M' j = mk_ M j) (hi : mi_ M' j = mi_ M j) (hr : mr_ M' j = mr_ M j) : ce_ Z M' j = ce_ Z M j := by
  unfold ce_
  rw [hk, hi, hr]
theorem fl_get {Z : zZ} {M : mM} {c a f : Nat} (hf : f < nF_ c) : (fl_ Z M c a)[f]? = some (if rF_ c f then va_rf ((mr_ M a f).map (ad Z)) else .int (mi_ M a f)) := by
  simp [fl_, List.getElem?_map, List.getElem?_range hf]
theorem fl_len {Z : zZ} {M : mM} {c a : Nat} : (fl_ Z M c a).length = nF_ c := by simp [fl_]
theorem fl_set {Z : zZ} {M M' : mM} {c a f : Nat} {v : Value} (hf : f < nF_ c) (hv : (if rF_ c f then va_rf ((mr_ M' a f).map (ad Z)) else .int (mi_ M' a f)) = v)
    (hi : ∀ j, j ≠ f → mi_ M' a j = mi_ M a j) (hr : ∀ j, j ≠ f → mr_ M' a j = mr_ M a j) : (fl_ Z M c a).set f v = fl_ Z M' c a := by
  apply List.ext_getElem?
  intro j
  by_cases hj : j = f
  · subst hj
    rw [List.getElem?_set_self (by rw [fl_len]; exact hf), fl_get hf, hv]
  · rw [List.getElem?_set_ne (Ne.symm hj)]
    by_cases hl : j < nF_ c
    · rw [fl_get hl, fl_get hl, hi j hj, hr j hj]
    · rw [List.getElem?_eq_none (by rw [fl_len]; omega), List.getElem?_eq_none (by rw [fl_len]; omega)]
theorem W_sz {p : Program} {l : Launch} {e : Env} {R : Room} {s : State} {m : MethodId} {args : Array Value} {below : List Frame} {meth : Method} {c : Code} {H : Heap} {locs : List Loc} {cells slots : Nat} {Q : State → Prop} {g : JFrame}
    (k : H.size ≤ s.heap.size + cells → W p l e R s m args below meth c H locs cells slots Q g) : W p l e R s m args below meth c H locs cells slots Q g :=
  fun T hT X => k (by rw [← hT]; exact X.heapSize) T hT X
/-- a class of the pool: its number, name, fields, what the tables say of it -/
def cls_ (ci : Nat) (C : String) (T : u_T) (N : Nat) (ty : Nat → FieldType) : Prop := vwCl[ci]? = some (C, T, N) ∧ nF_ ci = N ∧ (∀ w ∈ u_ws C T N, w ∈ TT) ∧ (∀ k, k < N → parseFieldDescriptor (T k).2.2.1 = some (ty k)) ∧
  (∀ a, a < N → ∀ b, b < N → a ≠ b → (T a).2.1 ≠ (T b).2.1) ∧ (∀ j, j < N → defaultValue (ty j) = if rF_ ci j then .null else .int 0) ∧ Cond.instantiable C N ∈ TT ∧ Cond.initialized C ∈ TT
section RL2
variable {X : xX} {Z : zZ} {M M' : mM} {y : MethodName} {cc : ByteArray} {nL d mc ms cn sn pc : Nat} {L : List (Option Value)} {st : List Value} {ci N : Nat} {C : String} {T : u_T} {ty : Nat → FieldType}
theorem v_getI {a i f : Nat} {v : Int32} (G : ok_ X Z y cc nL d mc ms) (B : cls_ ci C T N ty) (hd : decode cc pc = .ok (.getfield i, 3)) (hw : Cond.fieldLink y.cls i (T f).1 (T f).2.1 (T f).2.2.1 ∈ TT) (hf : f < N) (hr : rF_ ci f = false) (hg : gI M a ci f = some v) (k : V X Z M cn sn (pc + 3) L (.int v :: st)) : V X Z M cn sn pc L (.ref a :: st) := by
  intro H locs ls h1 h2 h3 h4
  obtain ⟨hO, hv⟩ := if_s hg
  obtain ⟨ha, hk⟩ := isO_s hO
  cases hv
  refine va_get (D := zD Z) (ci := ci) (v := .int (mi_ M a f)) (C := C) (T := T) (N := N) (ws := ws_ Z M) (a := ad Z a) (fs := fl_ Z M ci a) G.1 G.2.1 G.2.2.2.2.1 B.2.2.1 G.2.2.2.1 G.2.2.2.2.2.1.1 h2 a (by rw [ws_get ha, ce_O hk]) B.1 f hf (G.2.2.2.2.1 _ hw) (fun _ h => h) ?_ hd (k H locs ls h1 h2 h3 h4)
  rw [fl_get (by rw [B.2.1]; exact hf), hr]
  rfl
theorem v_getR {a i f b : Nat} (G : ok_ X Z y cc nL d mc ms) (B : cls_ ci C T N ty) (hd : decode cc pc = .ok (.getfield i, 3)) (hw : Cond.fieldLink y.cls i (T f).1 (T f).2.1 (T f).2.2.1 ∈ TT) (hf : f < N) (hr : rF_ ci f = true) (hg : gR M a ci f = some b) (k : V X Z M cn sn (pc + 3) L (.ref b :: st)) : V X Z M cn sn pc L (.ref a :: st) := by
  intro H locs ls h1 h2 h3 h4
  obtain ⟨hO, hv⟩ := if_s hg
  obtain ⟨ha, hk⟩ := isO_s hO
  refine va_get (D := zD Z) (ci := ci) (v := .ref (ad Z b)) (C := C) (T := T) (N := N) (ws := ws_ Z M) (a := ad Z a) (fs := fl_ Z M ci a) G.1 G.2.1 G.2.2.2.2.1 B.2.2.1 G.2.2.2.1 G.2.2.2.2.2.1.1 h2 a (by rw [ws_get ha, ce_O hk]) B.1 f hf (G.2.2.2.2.1 _ hw) (fun _ h => h) ?_ hd (k H locs ls h1 h2 h3 h4)
  rw [fl_get (by rw [B.2.1]; exact hf), hr, hv]
  rfl
theorem v_getN {a i f : Nat} (G : ok_ X Z y cc nL d mc ms) (B : cls_ ci C T N ty) (hd : decode cc pc = .ok (.getfield i, 3)) (hw : Cond.fieldLink y.cls i (T f).1 (T f).2.1 (T f).2.2.1 ∈ TT) (hf : f < N) (hr : rF_ ci f = true) (hg : gN M a ci f = true) (k : V X Z M cn sn (pc + 3) L (.null :: st)) : V X Z M cn sn pc L (.ref a :: st) := by
  intro H locs ls h1 h2 h3 h4
  simp only [gN, Bool.and_eq_true, decide_eq_true_eq] at hg
  obtain ⟨hO, hv⟩ := hg
  obtain ⟨ha, hk⟩ := isO_s hO
  refine va_get (D := zD Z) (ci := ci) (v := .null) (C := C) (T := T) (N := N) (ws := ws_ Z M) (a := ad Z a) (fs := fl_ Z M ci a) G.1 G.2.1 G.2.2.2.2.1 B.2.2.1 G.2.2.2.1 G.2.2.2.2.2.1.1 h2 a (by rw [ws_get ha, ce_O hk]) B.1 f hf (G.2.2.2.2.1 _ hw) (fun _ h => h) ?_ hd (k H locs ls h1 h2 h3 h4)
  rw [fl_get (by rw [B.2.1]; exact hf), hr, hv]
  rfl
theorem v_putI {a i f : Nat} {v : Int32} (G : ok_ X Z y cc nL d mc ms) (B : cls_ ci C T N ty) (hd : decode cc pc = .ok (.putfield i, 3)) (hw : Cond.fieldLink y.cls i (T f).1 (T f).2.1 (T f).2.2.1 ∈ TT) (hf : f < N) (hr : rF_ ci f = false) (hfin : (T f).2.2.2 = false) (hn : narrow (ty f) (.int v) = .int v) (hfit : fits (ty f) (.int v) = true) (hg : pI M a ci f v = some M') (k : V X Z M' cn sn (pc + 3) L st) : V X Z M cn sn pc L (.int v :: .ref a :: st) := by
  intro H locs ls h1 h2 h3 h4
  obtain ⟨hO, hv⟩ := if_s hg
  obtain ⟨ha, hk⟩ := isO_s hO
  have hM := Option.some.inj hv
  have hf' : f < nF_ ci := by rw [B.2.1]; exact hf
  have hset : (ws_ Z M).set a (ad Z a, .inr (ci, (fl_ Z M ci a).set f (.int v))) = ws_ Z M' := by
    refine ws_set (by rw [← hM]) ha ?_ (fun j hj => ?_)
    · rw [ce_O (c := ci) (by rw [← hM]; exact hk), fl_set (M' := M') hf' (by rw [hr, ← hM]; simp [mi_, mr_, up2]) (fun j hj => by rw [← hM]; simp [mi_, mr_, up2, hj]) (fun j hj => by rw [← hM])]
    · exact ce_eq (by rw [← hM]) (by rw [← hM]; funext q; simp [mi_, mr_, up2, hj]) (by rw [← hM])
  refine va_put (D := zD Z) (ci := ci) (v := .int v) (ty := ty f) (C := C) (T := T) (N := N) (ws := ws_ Z M) (a := ad Z a) (fs := fl_ Z M ci a) G.1 G.2.1 G.2.2.2.2.1 B.2.2.1 ty B.2.2.2.1 B.2.2.2.2.1 G.2.2.2.1 G.2.2.2.2.2.1.1 h2 (ws_D Z M) h3 a (by rw [ws_get ha, ce_O hk]) B.1 f hf (G.2.2.2.2.1 _ hw) (fun _ h => h) hfin (B.2.2.2.1 f hf) hn hfit (by rw [fl_len]; exact hf') hd (fun H1 locs1 q1 q2 q3 => ?_)
  rw [hset] at q1
  exact k H1 locs1 ls (by rw [← hM]; exact h1) q1 q3 h4
theorem v_putR {a i f b : Nat} (G : ok_ X Z y cc nL d mc ms) (B : cls_ ci C T N ty) (hd : decode cc pc = .ok (.putfield i, 3)) (hw : Cond.fieldLink y.cls i (T f).1 (T f).2.1 (T f).2.2.1 ∈ TT) (hf : f < N) (hr : rF_ ci f = true) (hfin : (T f).2.2.2 = false) (hn : ∀ q, narrow (ty f) (.ref q) = .ref q) (hfit : ∀ q, fits (ty f) (.ref q) = true) (hg : pR M a ci f b = some M') (k : V X Z M' cn sn (pc + 3) L st) : V X Z M cn sn pc L (.ref b :: .ref a :: st) := by
  intro H locs ls h1 h2 h3 h4
  obtain ⟨hO, hv⟩ := if_s hg
  obtain ⟨ha, hk⟩ := isO_s hO
  have hM := Option.some.inj hv
  have hf' : f < nF_ ci := by rw [B.2.1]; exact hf
  have hset : (ws_ Z M).set a (ad Z a, .inr (ci, (fl_ Z M ci a).set f (.ref (ad Z b)))) = ws_ Z M' := by
    refine ws_set (by rw [← hM]) ha ?_ (fun j hj => ?_)
    · rw [ce_O (c := ci) (by rw [← hM]; exact hk), fl_set (M' := M') hf' (by rw [hr, ← hM]; simp [mi_, mr_, up2, va_rf]) (fun j hj => by rw [← hM]) (fun j hj => by rw [← hM]; simp [mi_, mr_, up2, hj])]
    · exact ce_eq (by rw [← hM]) (by rw [← hM]) (by rw [← hM]; funext q; simp [mi_, mr_, up2, hj])
  refine va_put (D := zD Z) (ci := ci) (v := .ref (ad Z b)) (ty := ty f) (C := C) (T := T) (N := N) (ws := ws_ Z M) (a := ad Z a) (fs := fl_ Z M ci a) G.1 G.2.1 G.2.2.2.2.1 B.2.2.1 ty B.2.2.2.1 B.2.2.2.2.1 G.2.2.2.1 G.2.2.2.2.2.1.1 h2 (ws_D Z M) h3 a (by rw [ws_get ha, ce_O hk]) B.1 f hf (G.2.2.2.2.1 _ hw) (fun _ h => h) hfin (B.2.2.2.1 f hf) (hn _) (hfit _) (by rw [fl_len]; exact hf') hd (fun H1 locs1 q1 q2 q3 => ?_)
  rw [hset] at q1
  exact k H1 locs1 ls (by rw [← hM]; exact h1) q1 q3 h4
theorem v_putF {a i f b : Nat} (G : ok_ X Z y cc nL d mc ms) (B : cls_ ci C T N ty) (hd : decode cc pc = .ok (.putfield i, 3)) (hw : Cond.fieldLink y.cls i (T f).1 (T f).2.1 (T f).2.2.1 ∈ TT) (hf : f < N) (hr : rF_ ci f = true) (hfin : (T f).2.2.2 = true) (hin : y.name = "<init>") (hdc : (T f).1 = y.cls) (hn : ∀ q, narrow (ty f) (.ref q) = .ref q) (hfit : ∀ q, fits (ty f) (.ref q) = true) (hg : pR M a ci f b = some M') (k : V X Z M' cn sn (pc + 3) L st) : V X Z M cn sn pc L (.ref b :: .ref a :: st) := by
  intro H locs ls h1 h2 h3 h4
  obtain ⟨hO, hv⟩ := if_s hg
  obtain ⟨ha, hk⟩ := isO_s hO
  have hM := Option.some.inj hv
  have hf' : f < nF_ ci := by rw [B.2.1]; exact hf
  have hset : (ws_ Z M).set a (ad Z a, .inr (ci, (fl_ Z M ci a).set f (.ref (ad Z b)))) = ws_ Z M' := by
    refine ws_set (by rw [← hM]) ha ?_ (fun j hj => ?_)
    · rw [ce_O (c := ci) (by rw [← hM]; exact hk), fl_set (M' := M') hf' (by rw [hr, ← hM]; simp [mi_, mr_, up2, va_rf]) (fun j hj => by rw [← hM]) (fun j hj => by rw [← hM]; simp [mi_, mr_, up2, hj])]
    · exact ce_eq (by rw [← hM]) (by rw [← hM]) (by rw [← hM]; funext q; simp [mi_, mr_, up2, hj])
  refine va_putF (D := zD Z) (ci := ci) (v := .ref (ad Z b)) (ty := ty f) (C := C) (T := T) (N := N) (ws := ws_ Z M) (a := ad Z a) (fs := fl_ Z M ci a) G.1 G.2.1 G.2.2.2.2.1 B.2.2.1 ty B.2.2.2.1 B.2.2.2.2.1 G.2.2.2.1 G.2.2.2.2.2.1.1 h2 (ws_D Z M) h3 a (by rw [ws_get ha, ce_O hk]) B.1 f hf (G.2.2.2.2.1 _ hw) (fun _ h => h) hfin (G.2.2.2.2.2.2.2.2 hin) hdc (B.2.2.2.1 f hf) (hn _) (hfit _) (by rw [fl_len]; exact hf') hd (fun H1 locs1 q1 q2 q3 => ?_)
  rw [hset] at q1
  exact k H1 locs1 ls (by rw [← hM]; exact h1) q1 q3 h4
theorem v_iald {a : Nat} {i v : Int32} (G : ok_ X Z y cc nL d mc ms) (hd : decode cc pc = .ok (.iaload, 1)) (hg : ldI M a i = some v) (k : V X Z M cn sn (pc + 1) L (.int v :: st)) : V X Z M cn sn pc L (.int i :: .ref a :: st) := by
  intro H locs ls h1 h2 h3 h4
  obtain ⟨hA, hv⟩ := if_s hg
  obtain ⟨ha, hk, hi⟩ := isA_s hA
  cases hv
  exact va_iald (ws := ws_ Z M) (a := ad Z a) G.1 G.2.1 G.2.2.2.2.2.1.1 h2 a 0 (by rw [ws_get ha, ce_1 hk]) rfl hi hd (k H locs ls h1 h2 h3 h4)
theorem v_zald {a : Nat} {i v : Int32} (G : ok_ X Z y cc nL d mc ms) (hd : decode cc pc = .ok (.baload, 1)) (hg : ldZ M a i = some v) (k : V X Z M cn sn (pc + 1) L (.int v :: st)) : V X Z M cn sn pc L (.int i :: .ref a :: st) := by
  intro H locs ls h1 h2 h3 h4
  obtain ⟨hA, hv⟩ := if_s hg
  obtain ⟨ha, hk, hi⟩ := isA_s hA
  cases hv
  exact va_zald (ws := ws_ Z M) (a := ad Z a) G.1 G.2.1 G.2.2.2.2.2.1.1 h2 a 1 (by rw [ws_get ha, ce_2 hk]) rfl hi hd (k H locs ls h1 h2 h3 h4)
theorem v_xald {u : UInt32} {i v : Int32} (G : ok_ X Z y cc nL d mc ms) (hd : decode cc pc = .ok (.iaload, 1)) (hg : ldX Z u i = some v) (k : V X Z M cn sn (pc + 1) L (.int v :: st)) : V X Z M cn sn pc L (.int i :: .float u :: st) := by
  intro H locs ls h1 h2 h3 h4
  unfold ldX at hg
  cases hx : xa Z u with
  | none => rw [hx] at hg; cases hg
  | some q =>
    obtain ⟨n, f⟩ := q
    rw [hx] at hg
    obtain ⟨hA, hv⟩ := if_s hg
    cases hv
    exact va_ti G.1 G.2.1 (G.2.2.2.2.2.1.2.2.2.2.2.2 u n f hx) h3 (inB_in hA) rfl hd (k H locs ls h1 h2 h3 h4)
theorem v_iast {a : Nat} {i v : Int32} (G : ok_ X Z y cc nL d mc ms) (hd : decode cc pc = .ok (.iastore, 1)) (hg : stI M a i v = some M') (k : V X Z M' cn sn (pc + 1) L st) : V X Z M cn sn pc L (.int v :: .int i :: .ref a :: st) := by
  intro H locs ls h1 h2 h3 h4
  obtain ⟨hA, hv⟩ := if_s hg
  obtain ⟨ha, hk, hi⟩ := isA_s hA
  have hM := Option.some.inj hv
  refine va_iast (ws := ws_ Z M) (a := ad Z a) G.1 G.2.1 G.2.2.2.2.2.1.1 h2 (ws_D Z M) h3 a 0 (by rw [ws_get ha, ce_1 hk]) rfl hi hd (fun H1 locs1 q1 q2 q3 => ?_)
  rw [ws_set (M' := M') (by rw [← hM]) ha (by rw [ce_1 (M := M') (by rw [← hM]; exact hk), ← hM]; congr 4; funext q; simp [mi_, mr_, up2, upd]) (fun j hj => ce_eq (by rw [← hM]) (by rw [← hM]; funext q; simp [mi_, mr_, up2, hj]) (by rw [← hM]))] at q1
  exact k H1 locs1 ls (by rw [← hM]; exact h1) q1 q3 h4
theorem v_zast {a : Nat} {i v : Int32} (G : ok_ X Z y cc nL d mc ms) (hd : decode cc pc = .ok (.bastore, 1)) (hg : stZ M a i v = some M') (k : V X Z M' cn sn (pc + 1) L st) : V X Z M cn sn pc L (.int v :: .int i :: .ref a :: st) := by
  intro H locs ls h1 h2 h3 h4
  obtain ⟨hA, hv⟩ := if_s hg
  rw [Bool.and_eq_true] at hA
  obtain ⟨hA, hb⟩ := hA
  obtain ⟨ha, hk, hi⟩ := isA_s hA
  have hM := Option.some.inj hv
  have hn : vp_nar .boolean v = v := by
    simp only [Bool.or_eq_true, beq_iff_eq] at hb
    rcases hb with rfl | rfl <;> decide
  refine va_zast (ws := ws_ Z M) (a := ad Z a) G.1 G.2.1 G.2.2.2.2.2.1.1 h2 (ws_D Z M) h3 a 1 (by rw [ws_get ha, ce_2 hk]) rfl hi hd (fun H1 locs1 q1 q2 q3 => ?_)
  rw [hn, ws_set (M' := M') (by rw [← hM]) ha (by rw [ce_2 (M := M') (by rw [← hM]; exact hk), ← hM]; congr 4; funext q; simp [mi_, mr_, up2, upd]) (fun j hj => ce_eq (by rw [← hM]) (by rw [← hM]; funext q; simp [mi_, mr_, up2, hj]) (by rw [← hM]))] at q1
  exact k H1 locs1 ls (by rw [← hM]; exact h1) q1 q3 h4
theorem v_aald3 {a b : Nat} {i : Int32} (G : ok_ X Z y cc nL d mc ms) (hd : decode cc pc = .ok (.aaload, 1)) (hg : ldR M a 3 i = some b) (k : V X Z M cn sn (pc + 1) L (.ref b :: st)) : V X Z M cn sn pc L (.int i :: .ref a :: st) := by
  intro H locs ls h1 h2 h3 h4
  obtain ⟨hA, hv⟩ := if_s hg
  obtain ⟨ha, hk, hi⟩ := isA_s hA
  refine va_aldq (ws := ws_ Z M) (a := ad Z a) (C := RX4) G.1 G.2.1 G.2.2.2.2.2.1.1 h2 a 2 (by rw [ws_get ha, ce_3 hk]) rfl hi hd ?_
  rw [hv]
  exact k H locs ls h1 h2 h3 h4
theorem v_aald4 {a b : Nat} {i : Int32} (G : ok_ X Z y cc nL d mc ms) (hd : decode cc pc = .ok (.aaload, 1)) (hg : ldR M a 4 i = some b) (k : V X Z M cn sn (pc + 1) L (.ref b :: st)) : V X Z M cn sn pc L (.int i :: .ref a :: st) := by
  intro H locs ls h1 h2 h3 h4
  obtain ⟨hA, hv⟩ := if_s hg
  obtain ⟨ha, hk, hi⟩ := isA_s hA
  refine va_aldq (ws := ws_ Z M) (a := ad Z a) (C := RX5) G.1 G.2.1 G.2.2.2.2.2.1.1 h2 a 3 (by rw [ws_get ha, ce_4 hk]) rfl hi hd ?_
  rw [hv]
  exact k H locs ls h1 h2 h3 h4
theorem v_aast3 {a b : Nat} {i : Int32} (G : ok_ X Z y cc nL d mc ms) (hd : decode cc pc = .ok (.aastore, 1)) (hg : stR M a 3 4 i b = some M') (k : V X Z M' cn sn (pc + 1) L st) : V X Z M cn sn pc L (.ref b :: .int i :: .ref a :: st) := by
  intro H locs ls h1 h2 h3 h4
  obtain ⟨hA, hv⟩ := if_s hg
  rw [Bool.and_eq_true] at hA
  obtain ⟨hA, hb⟩ := hA
  obtain ⟨ha, hk, hi⟩ := isA_s hA
  obtain ⟨hb1, hb2⟩ := isO_s hb
  have hM := Option.some.inj hv
  refine va_astq (ws := ws_ Z M) (a := ad Z a) (r := (RX4, TX4, 4)) (v := ad Z b) G.1 G.2.1 G.2.2.2.2.2.1.1 h2 (ws_D Z M) h3 a 2 b 4 (by rw [ws_get ha, ce_3 hk]) rfl (by rw [ws_get hb1, ce_O hb2]) rfl hi hd (fun H1 locs1 q1 q2 q3 => ?_)
  rw [ws_set (M' := M') (by rw [← hM]) ha (by rw [ce_3 (M := M') (by rw [← hM]; exact hk), ← hM]; congr 7; funext q; by_cases hq : q = i.toNatClampNeg <;> simp [mi_, mr_, up2, va_up, hq]) (fun j hj => ce_eq (by rw [← hM]) (by rw [← hM]) (by rw [← hM]; funext q; simp [mi_, mr_, up2, hj]))] at q1
  exact k H1 locs1 ls (by rw [← hM]; exact h1) q1 q3 h4
theorem v_aast4 {a b : Nat} {i : Int32} (G : ok_ X Z y cc nL d mc ms) (hd : decode cc pc = .ok (.aastore, 1)) (hg : stR M a 4 5 i b = some M') (k : V X Z M' cn sn (pc + 1) L st) : V X Z M cn sn pc L (.ref b :: .int i :: .ref a :: st) := by
  intro H locs ls h1 h2 h3 h4
  obtain ⟨hA, hv⟩ := if_s hg
  rw [Bool.and_eq_true] at hA
  obtain ⟨hA, hb⟩ := hA
  obtain ⟨ha, hk, hi⟩ := isA_s hA
  obtain ⟨hb1, hb2⟩ := isO_s hb
  have hM := Option.some.inj hv
  refine va_astq (ws := ws_ Z M) (a := ad Z a) (r := (RX5, TX5, 11)) (v := ad Z b) G.1 G.2.1 G.2.2.2.2.2.1.1 h2 (ws_D Z M) h3 a 3 b 5 (by rw [ws_get ha, ce_4 hk]) rfl (by rw [ws_get hb1, ce_O hb2]) rfl hi hd (fun H1 locs1 q1 q2 q3 => ?_)
  rw [ws_set (M' := M') (by rw [← hM]) ha (by rw [ce_4 (M := M') (by rw [← hM]; exact hk), ← hM]; congr 7; funext q; by_cases hq : q = i.toNatClampNeg <;> simp [mi_, mr_, up2, va_up, hq]) (fun j hj => ce_eq (by rw [← hM]) (by rw [← hM]) (by rw [← hM]; funext q; simp [mi_, mr_, up2, hj]))] at q1
  exact k H1 locs1 ls (by rw [← hM]; exact h1) q1 q3 h4
theorem v_xlen (G : ok_ X Z y cc nL d mc ms) (hd : decode cc pc = .ok (.arraylength, 1)) (k : V X Z M cn sn (pc + 1) L (.int (nI (zL Z)) :: st)) : V X Z M cn sn pc L (.float 2 :: st) := by
  intro H locs ls h1 h2 h3 h4
  obtain ⟨cell, q1, q2, q3, q4, q5, q6, q7⟩ := G.2.2.2.2.2.1.2.2.2.2.2.2 2 (zL Z) (zx Z) rfl
  exact W.alen G.1 G.2.1 (by rw [h3.2.1 _ (Array.getElem?_eq_some_iff.mp q1).1 q7]; exact q1) q2 q5 rfl rfl hd (k H locs ls h1 h2 h3 h4)
theorem v_gets0 {i : Nat} (G : ok_ X Z y cc nL d mc ms) (hd : decode cc pc = .ok (.getstatic i, 3)) (hw : Cond.fieldLink y.cls i RX1 "SIZE_BODIES" "[I" ∈ TT) (k : V X Z M cn sn (pc + 3) L (.float 0 :: st)) : V X Z M cn sn pc L st :=
  fun H locs ls h1 h2 h3 h4 => va_gets G.1 G.2.1 G.2.2.2.2.2.1.2.2.2.2.1 h3 G.2.2.2.1 (G.2.2.2.2.1 _ hw) (fun _ h => h) hd (k H locs ls h1 h2 h3 h4)
theorem v_gets1 {i : Nat} (G : ok_ X Z y cc nL d mc ms) (hd : decode cc pc = .ok (.getstatic i, 3)) (hw : Cond.fieldLink y.cls i RX1 "MARK_BODIES" "[I" ∈ TT) (k : V X Z M cn sn (pc + 3) L (.float 1 :: st)) : V X Z M cn sn pc L st :=
  fun H locs ls h1 h2 h3 h4 => va_gets G.1 G.2.1 G.2.2.2.2.2.1.2.2.2.2.2.1 h3 G.2.2.2.1 (G.2.2.2.2.1 _ hw) (fun _ h => h) hd (k H locs ls h1 h2 h3 h4)
end RL2
