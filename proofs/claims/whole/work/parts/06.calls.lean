/-! ===== CALLS, NEW CELLS, RETURNS ===== -/
def EP (Z : zZ) (As : List Value) (M : mM) : Array Value → State → Prop := va_Pc (As.map (cv Z)) (fun U => U.heap.size = zB Z + mz M ∧ va_P (zD Z) vwCl (ws_ Z M) U.heap ∧ KK Z U)
def EQ_ (Z : zZ) (M M' : mM) (r : Option Value) (mc : Nat) : Array Value → State → Outcome → State → Prop := fun _ s oc t => oc = .returned (r.map (cv Z)) ∧ va_P (zD Z) vwCl (ws_ Z M') t.heap ∧ mz M' = mz M + mc ∧ va_F (zA Z) s t
/-- a method's contract: from memory M with the arguments As it comes to M' and answers r -/
def EM (Z : zZ) (y : MethodName) (cc : ByteArray) (nL : Nat) (ret : Option FieldType) (d mc ms : Nat) (As : List Value) (M M' : mM) (r : Option Value) : Prop :=
  Met (zl Z) y (.code y cc nL ret :: TT) { frames := d, cells := mc, slots := ms, locals := 64 * d } (EP Z As M) (EQ_ Z M M' r mc) mc ms (zA Z)
/-- what the tables say of a method -/
def my_ (y : MethodName) (cc : ByteArray) (nL : Nat) (ret : Option FieldType) (n : Nat) : Prop := plainName y.cls = true ∧ (y.cls ≠ "java/lang/invoke/MethodHandle" ∧ y.cls ≠ "java/lang/invoke/VarHandle" ∧ (parseMethodDescriptor y.desc).map (fun d => d.parameters.length) = some n) ∧ Cond.code y cc nL ret ∈ TT ∧ Cond.initialized y.cls ∈ TT ∧ nL ≤ 40
def fin_ (X : xX) (Z : zZ) (M M' : mM) (r : Option Value) (ret : Option FieldType) (mc ms : Nat) : Prop := xQ X = MQ (xb X) (EQ_ Z M M' r mc) (xa_ X) (xs_ X) mc ms (zA Z) ∧ (xt X).sig.returnType = ret ∧ (xt X).locks = false ∧ (xs_ X).heap.size = zB Z + mz M
def enl (As : List Value) : List (Option Value) := As.flatMap (fun v => if v.category = 2 then [some v, none] else [some v])
def en_ (nL : Nat) (As : List Value) : List (Option Value) := enl As ++ List.replicate (nL - (enl As).length) none
theorem enl_len (Z : zZ) (As : List Value) : (lg_sl (As.map (cv Z))).length = (enl As).length := by
  induction As with
  | nil => rfl
  | cons a As ih =>
    simp only [enl, lg_sl, List.map_cons, List.flatMap_cons, List.length_append] at ih ⊢
    rw [ih, cv_cat]
    by_cases h : a.category = 2 <;> simp [h]
theorem enl_get (Z : zZ) : ∀ (As : List Value) (i : Nat) (v : Value), (enl As)[i]? = some (some v) → (lg_sl (As.map (cv Z)))[i]? = some (.val (cv Z v))
  | [], i, v, h => by simp [enl] at h
  | a :: As, i, v, h => by
    have ih := enl_get Z As
    simp only [enl, lg_sl, List.map_cons, List.flatMap_cons] at ih h ⊢
    rw [cv_cat]
    by_cases hc : a.category = 2
    · rw [if_pos hc] at h ⊢
      match i, h with
      | 0, h => simp at h; subst h; rfl
      | 1, h => simp at h
      | i + 2, h => exact ih i v h
    · rw [if_neg hc] at h ⊢
      match i, h with
      | 0, h => simp at h; subst h; rfl
      | i + 1, h => exact ih i v h
theorem EM_of {Z : zZ} {y : MethodName} {cc : ByteArray} {nL n d mc ms : Nat} {ret : Option FieldType} {As : List Value} {M M' : mM} {r : Option Value} (hm : my_ y cc nL ret n) (hlen : (enl As).length ≤ nL)
    (body : ∀ X : xX, ok_ X Z y cc nL d mc ms → fin_ X Z M M' r ret mc ms → V X Z M 0 0 0 (en_ nL As) []) : EM Z y cc nL ret d mc ms As M M' r := by
  refine Met.ofW (cc := cc) (maxL := nL) (ret := ret) hm.1 rfl ?_
  intro p e s m args below meth c s₁ B hml hv
  obtain ⟨rfl, hsz, hP, hK⟩ := hv
  have hts := atoms_spec (ws := .code y cc nL ret :: TT) B.pre
  have hown : s.vm.findClass y.cls = some m.cls := findClass_of_methodNamed B.named
  have hnm : meth.name = y.name := (name_of_methodNamed B.named B.method).1
  have hb := body (p, e, { frames := d, cells := mc, slots := ms, locals := 64 * d }, s, m, (As.map (cv Z)).toArray, below, meth, c, MQ below (EQ_ Z M M' r mc) (As.map (cv Z)).toArray s mc ms (zA Z))
    ⟨B.exec, B.bytes, hml, hown, fun w hw => hts w (List.mem_cons_of_mem _ hw), hK, by show zB Z ≤ s.heap.size; omega, ⟨Nat.le_refl _, Nat.le_refl _, Nat.le_refl _, Nat.le_refl _⟩, fun h => hnm.trans h⟩
    ⟨rfl, B.returns, B.notSynchronized, hsz⟩
  have hl := lv_entry (As.map (cv Z)) (n := nL) (by rw [enl_len]; exact hlen)
  rw [lg_entry_eq]
  refine hb s.heap [] _ (by show zB Z + mz M = s.heap.size + 0; omega) hP va_S.rf ⟨?_, hl.2.1, fun i v hi => ?_⟩
  · rw [hl.1]
    simp [en_]
    omega
  · have hi' : i < (enl As).length := by
      apply Nat.lt_of_not_le
      intro hq
      rw [en_, List.getElem?_append_right hq] at hi
      have := List.mem_of_getElem? hi
      simp at this
    rw [en_, List.getElem?_append_left hi'] at hi
    rw [List.getElem?_toArray, List.getElem?_append_left (by rw [enl_len]; exact hi')]
    exact enl_get Z As i v hi
section RL3
variable {X : xX} {Z : zZ} {M M0 M1 M' : mM} {y y' : MethodName} {cc cc' : ByteArray} {nL nL' n' d d' mc ms mc' ms' cn sn pc : Nat} {L : List (Option Value)} {st st0 : List Value} {ci N : Nat} {C : String} {T : u_T} {ty : Nat → FieldType} {ret ret' : Option FieldType} {r : Option Value} {As : List Value}
theorem sz_of {H : Heap} {locs : List Loc} {s : State} (h0 : zB Z ≤ s.heap.size) (h1 : zB Z + mz M = s.heap.size + cn) (h2 : va_P (zD Z) vwCl (ws_ Z M) H) (h3 : va_S (zA Z) s.heap H locs) (hu : H.size ≤ s.heap.size + cn) : H.size = zB Z + mz M := by
  have hz := h3.1
  by_cases hm : mz M = 0
  · omega
  · have hl := (h2 (mz M - 1) _ (ws_get (by omega))).lt
    simp only [ad] at hl
    omega
/-- behind a call -/
theorem v_run {H : Heap} {locs : List Loc} {ls : Array Slot} {a : Array Value} (h0 : zB Z ≤ (xs_ X).heap.size) (h1 : zB Z + mz M = (xs_ X).heap.size + cn) (h3 : va_S (zA Z) (xs_ X).heap H locs) (h4 : lvh Z ls L)
    (hr : va_Run (xp X) (zl Z) (xe X) (xR X) (xs_ X) (xm X) (xa_ X) (xb X) (xt X) (xc X) H locs cn sn mc' ms' (F0 (xm X) pc ls st0) (st.map (cv Z)) (EQ_ Z M M1 r mc' a) (zA Z))
    (k : V X Z M1 (cn + mc') (sn + ms') (pc + 3) L (r.toList ++ st)) : W (xp X) (zl Z) (xe X) (xR X) (xs_ X) (xm X) (xa_ X) (xb X) (xt X) (xc X) H locs cn sn (xQ X) (F0 (xm X) pc ls st0) := by
  intro T hT S
  obtain ⟨v, st₀, t, T', L', e0, S', hL, e1, e2, ⟨hv, hP, hz, hF⟩, g⟩ := hr T hT S
  cases hv
  unfold va_F at hF
  rw [e0] at hF
  have hst : (List.map (cv Z) (r.toList ++ st)) = (Option.map (cv Z) r).toList ++ st.map (cv Z) := by cases r <;> rfl
  obtain ⟨t2, a1, b1⟩ := k T'.heap (locs ++ L') ls (by rw [hz]; omega) (by rw [e1]; exact hP) ⟨Nat.le_trans h3.1 (by rw [e1]; exact hF.1), fun q g1 g2 => by
      rw [e1, hF.2 q (Nat.lt_of_lt_of_le g1 h3.1) g2]
      exact h3.2.1 q g1 g2, fun q hq => by
      rcases List.mem_append.mp hq with h | h
      · exact h3.2.2 q h
      · exact hL q h⟩ h4 T' rfl S'
  rw [hst] at a1
  exact ⟨t2, g t2 a1, b1⟩
theorem pre_of {H : Heap} {locs : List Loc} (G : ok_ X Z y cc nL d mc ms) (hsz : H.size = zB Z + mz M) (h2 : va_P (zD Z) vwCl (ws_ Z M) H) (h3 : va_S (zA Z) (xs_ X).heap H locs) : ∀ U : State, U.heap = H → (xs_ X).WarmedH U.vm → EP Z As M (As.map (cv Z)).toArray U := fun U hU hW =>
  ⟨rfl, by rw [hU]; exact hsz, by rw [hU]; exact h2, G.2.2.2.2.2.1.moved hW (fun a g1 g2 => by rw [hU]; exact h3.2.1 a g1 g2)⟩
theorem blind_ : FrameBlind (EP Z As M) := fun a U g mk q => ⟨q.1, q.2.1, q.2.2.1, q.2.2.2.calling⟩
theorem goodT (hm : my_ y' cc' nL' ret' n') : GoodIn TT (Cond.code y' cc' nL' ret' :: TT) := tt_good (fun w hw => by
  rcases List.mem_cons.mp hw with rfl | h
  · exact hm.2.2.1
  · exact h) (fun w h => h)
theorem room_of (G : ok_ X Z y cc nL d mc ms) (hm : my_ y' cc' nL' ret' n') (hd : d' + 1 ≤ d) : d' + 1 ≤ (xR X).frames ∧ 8 + (nL' + 11) + 64 * d' ≤ (xR X).locals := by
  have h1 := G.2.2.2.2.2.2.2.1
  have h2 := hm.2.2.2.2
  omega
theorem v_callS {i : Nat} (E : EM Z y' cc' nL' ret' d' mc' ms' As M M1 r) (G : ok_ X Z y cc nL d mc ms) (hm : my_ y' cc' nL' ret' As.length) (hs : Cond.static y' ∈ TT) (hl : Cond.methodLink y.cls i y' ∈ TT) (hd : decode cc pc = .ok (.invokestatic i, 3)) (hst : st0 = As.reverse ++ st) (hc : ((st.map (cv Z)).map fun v => v.category).sum ≤ 8) (hL : L.length = nL)
    (hdd : d' + 1 ≤ d) (hcc : cn + mc' ≤ mc) (hss : sn + ms' ≤ ms) (k : V X Z M1 (cn + mc') (sn + ms') (pc + 3) L (r.toList ++ st)) : V X Z M cn sn pc L st0 := by
  intro H locs ls h1 h2 h3 h4
  refine W_sz fun hu => ?_
  have hsz := sz_of G.2.2.2.2.2.2.1 h1 h2 h3 hu
  have hR := G.2.2.2.2.2.2.2.1
  refine v_run (a := (As.map (cv Z)).toArray) G.2.2.2.2.2.2.1 h1 h3 h4 (va_runS (As := As.map (cv Z)) (Ts := TT) (own := y.cls) ⟨G.1, G.2.1, G.2.2.1, G.2.2.2.1, G.2.2.2.2.1⟩ E ⟨callB_of As.length G.2.2.2.2.1 (goodT hm) rfl rfl rfl (G.2.2.2.2.1 _ hm.2.2.2.1) (G.2.2.2.2.1 _ hl) hm.2.1 (room_of G hm hdd), G.2.2.2.2.1 _ hs⟩
    ⟨blind_, pre_of G hsz h2 h3⟩ rfl (by simp) (h4.1.trans hL) (by rw [hst]; simp) (lv_room hc) hd ⟨by omega, by omega⟩) k
theorem v_callSN {i : Nat} {host : String} (E : EM Z y' cc' nL' ret' d' mc' ms' As M M1 r) (G : ok_ X Z y cc nL d mc ms) (hm : my_ y' cc' nL' ret' As.length) (hs : Cond.static y' ∈ TT) (hl : Cond.methodLinkNest y.cls i y' host ∈ nw_) (hd : decode cc pc = .ok (.invokestatic i, 3)) (hst : st0 = As.reverse ++ st) (hc : ((st.map (cv Z)).map fun v => v.category).sum ≤ 8) (hL : L.length = nL)
    (hdd : d' + 1 ≤ d) (hcc : cn + mc' ≤ mc) (hss : sn + ms' ≤ ms) (k : V X Z M1 (cn + mc') (sn + ms') (pc + 3) L (r.toList ++ st)) : V X Z M cn sn pc L st0 := by
  intro H locs ls h1 h2 h3 h4
  refine W_sz fun hu => ?_
  have hsz := sz_of G.2.2.2.2.2.2.1 h1 h2 h3 hu
  have hR := G.2.2.2.2.2.2.2.1
  refine v_run (a := (As.map (cv Z)).toArray) G.2.2.2.2.2.2.1 h1 h3 h4 (va_runSN (As := As.map (cv Z)) (Ts := TT) (own := y.cls) (host := host) ⟨G.1, G.2.1, G.2.2.1, G.2.2.2.1, G.2.2.2.2.1⟩ E ⟨va_cnB As.length G.2.2.2.2.1 (goodT hm) rfl rfl rfl (G.2.2.2.2.2.1.2.1 _ hl) (G.2.2.2.2.1 _ hm.2.2.2.1) hm.2.1 (room_of G hm hdd), G.2.2.2.2.1 _ hs, trivial⟩
    ⟨blind_, pre_of G hsz h2 h3⟩ rfl (by simp) (h4.1.trans hL) (by rw [hst]; simp) (lv_room hc) hd ⟨by omega, by omega⟩) k
theorem v_callV {i b : Nat} (E : EM Z y' cc' nL' ret' d' mc' ms' (.ref b :: As) M M1 r) (G : ok_ X Z y cc nL d mc ms) (B : cls_ ci C T N ty) (hm : my_ y' cc' nL' ret' As.length) (hcl : y'.cls = C) (hs : Cond.instanceMethod y' ∈ TT) (hse : Cond.selects C y' y' ∈ TT) (hl : Cond.methodLink y.cls i y' ∈ TT) (hd : decode cc pc = .ok (.invokevirtual i, 3)) (hO : isO M b ci = true) (hst : st0 = As.reverse ++ .ref b :: st) (hc : ((st.map (cv Z)).map fun v => v.category).sum ≤ 8) (hL : L.length = nL)
    (hdd : d' + 1 ≤ d) (hcc : cn + mc' ≤ mc) (hss : sn + ms' ≤ ms) (k : V X Z M1 (cn + mc') (sn + ms') (pc + 3) L (r.toList ++ st)) : V X Z M cn sn pc L st0 := by
  intro H locs ls h1 h2 h3 h4
  refine W_sz fun hu => ?_
  have hsz := sz_of G.2.2.2.2.2.2.1 h1 h2 h3 hu
  have hR := G.2.2.2.2.2.2.2.1
  obtain ⟨ha, hk⟩ := isO_s hO
  have hrec := va_recv G.2.2.2.2.2.1.1 h2 B.1 (show (ws_ Z M)[b]? = some (ad Z b, .inr (ci, fl_ Z M ci b)) by rw [ws_get ha, ce_O hk])
  refine v_run (a := (Value.ref (ad Z b) :: As.map (cv Z)).toArray) G.2.2.2.2.2.2.1 h1 h3 h4 (va_runV (As := As.map (cv Z)) (b := ad Z b) (C := C) (Ts := TT) (own := y.cls) ⟨G.1, G.2.1, G.2.2.1, G.2.2.2.1, G.2.2.2.2.1⟩ E ⟨callB_of As.length G.2.2.2.2.1 (goodT hm) rfl rfl rfl (G.2.2.2.2.1 _ hm.2.2.2.1) (G.2.2.2.2.1 _ hl) hm.2.1 (room_of G hm hdd), G.2.2.2.2.1 _ hs, G.2.2.2.2.1 _ hse⟩
    ⟨blind_, hrec, pre_of G hsz h2 h3⟩ rfl (by simp) (h4.1.trans hL) (by rw [hst]; simp [cv]) (lv_room hc) hd ⟨by omega, by omega⟩) k
theorem v_callI {i b : Nat} (E : EM Z y' cc' nL' none d' mc' ms' (.ref b :: As) M M1 r) (G : ok_ X Z y cc nL d mc ms) (hm : my_ y' cc' nL' none As.length) (hnm : y'.name = "<init>") (hs : Cond.instanceMethod y' ∈ TT) (hl : Cond.methodLink y.cls i y' ∈ TT) (hd : decode cc pc = .ok (.invokespecial i, 3)) (hst : st0 = As.reverse ++ .ref b :: st) (hc : ((st.map (cv Z)).map fun v => v.category).sum ≤ 8) (hL : L.length = nL)
    (hdd : d' + 1 ≤ d) (hcc : cn + mc' ≤ mc) (hss : sn + ms' ≤ ms) (k : V X Z M1 (cn + mc') (sn + ms') (pc + 3) L (r.toList ++ st)) : V X Z M cn sn pc L st0 := by
  intro H locs ls h1 h2 h3 h4
  refine W_sz fun hu => ?_
  have hsz := sz_of G.2.2.2.2.2.2.1 h1 h2 h3 hu
  have hR := G.2.2.2.2.2.2.2.1
  refine v_run (a := (Value.ref (ad Z b) :: As.map (cv Z)).toArray) G.2.2.2.2.2.2.1 h1 h3 h4 (va_runI (As := As.map (cv Z)) (b := ad Z b) (Ts := TT) (own := y.cls) ⟨G.1, G.2.1, G.2.2.1, G.2.2.2.1, G.2.2.2.2.1⟩ E ⟨callB_of As.length G.2.2.2.2.1 (goodT hm) rfl rfl rfl (G.2.2.2.2.1 _ hm.2.2.2.1) (G.2.2.2.2.1 _ hl) hm.2.1 (room_of G hm hdd), hnm, G.2.2.2.2.1 _ hs⟩
    ⟨blind_, pre_of G hsz h2 h3⟩ rfl (by simp) (h4.1.trans hL) (by rw [hst]; simp [cv]) (lv_room hc) hd ⟨by omega, by omega⟩) k
theorem v_callIN {i b : Nat} {host : String} (E : EM Z y' cc' nL' none d' mc' ms' (.ref b :: As) M M1 r) (G : ok_ X Z y cc nL d mc ms) (hm : my_ y' cc' nL' none As.length) (hnm : y'.name = "<init>") (hs : Cond.instanceMethod y' ∈ TT) (hl : Cond.methodLinkNest y.cls i y' host ∈ nw_) (hd : decode cc pc = .ok (.invokespecial i, 3)) (hst : st0 = As.reverse ++ .ref b :: st) (hc : ((st.map (cv Z)).map fun v => v.category).sum ≤ 8) (hL : L.length = nL)
    (hdd : d' + 1 ≤ d) (hcc : cn + mc' ≤ mc) (hss : sn + ms' ≤ ms) (k : V X Z M1 (cn + mc') (sn + ms') (pc + 3) L (r.toList ++ st)) : V X Z M cn sn pc L st0 := by
  intro H locs ls h1 h2 h3 h4
  refine W_sz fun hu => ?_
  have hsz := sz_of G.2.2.2.2.2.2.1 h1 h2 h3 hu
  have hR := G.2.2.2.2.2.2.2.1
  refine v_run (a := (Value.ref (ad Z b) :: As.map (cv Z)).toArray) G.2.2.2.2.2.2.1 h1 h3 h4 (va_runIN (As := As.map (cv Z)) (b := ad Z b) (Ts := TT) (own := y.cls) (host := host) ⟨G.1, G.2.1, G.2.2.1, G.2.2.2.1, G.2.2.2.2.1⟩ E ⟨va_cnB As.length G.2.2.2.2.1 (goodT hm) rfl rfl rfl (G.2.2.2.2.2.1.2.1 _ hl) (G.2.2.2.2.1 _ hm.2.2.2.1) hm.2.1 (room_of G hm hdd), hnm, G.2.2.2.2.1 _ hs⟩
    ⟨blind_, pre_of G hsz h2 h3⟩ rfl (by simp) (h4.1.trans hL) (by rw [hst]; simp [cv]) (lv_room hc) hd ⟨by omega, by omega⟩) k
theorem v_obj {i b : Nat} (G : ok_ X Z y cc nL d mc ms) (hl : Cond.methodLink y.cls i Lib.objectInit ∈ TT) (hs : Cond.instanceMethod Lib.objectInit ∈ TT) (hco : Cond.code Lib.objectInit ⟨#[0xb1]⟩ 1 none ∈ TT) (hd : decode cc pc = .ok (.invokespecial i, 3)) (hc : ((st.map (cv Z)).map fun v => v.category).sum ≤ 8) (hL : L.length = nL) (hdd : 1 ≤ d) (k : V X Z M cn sn (pc + 3) L st) : V X Z M cn sn pc L (.ref b :: st) := by
  intro H locs ls h1 h2 h3 h4
  have hR := G.2.2.2.2.2.2.2.1
  refine W.objInit G.1 G.2.1 G.2.2.2.1 (G.2.2.2.2.1 _ hl) (G.2.2.2.2.1 _ hs) (G.2.2.2.2.1 _ hco) rfl (by rw [G.2.2.1]; exact h4.1.trans hL) rfl hd (by omega) ?_ (k H locs ls h1 h2 h3 h4)
  show 2 * 0 + _ + 12 ≤ _
  omega
theorem v_copy {i a b : Nat} {sp dp n : Int32} (G : ok_ X Z y cc nL d mc ms) (hl : Cond.methodLink y.cls i arraycopyName ∈ TT) (hn : Cond.native arraycopyName ∈ TT) (hs : Cond.static arraycopyName ∈ TT) (hi : Cond.initialized "java/lang/System" ∈ TT) (hd : decode cc pc = .ok (.invokestatic i, 3)) (hg : cpI M a sp b dp n = some M') (hc : ((st.map (cv Z)).map fun v => v.category).sum ≤ 8) (hL : L.length = nL) (hdd : 1 ≤ d)
    (k : V X Z M' cn sn (pc + 3) L st) : V X Z M cn sn pc L (.int n :: .int dp :: .ref b :: .int sp :: .ref a :: st) := by
  intro H locs ls h1 h2 h3 h4
  have hR := G.2.2.2.2.2.2.2.1
  obtain ⟨hA, hv⟩ := if_s hg
  simp only [Bool.and_eq_true, decide_eq_true_eq] at hA
  obtain ⟨⟨⟨⟨⟨⟨⟨⟨q1, q2⟩, q3⟩, q4⟩, q5⟩, q6⟩, q7⟩, q8⟩, q9⟩ := hA
  have hM := Option.some.inj hv
  refine va_copyi (ws := ws_ Z M) (a := ad Z b) (a0 := ad Z a) G.1 G.2.1 (by rw [G.2.2.1]; exact (h4.1.trans hL).symm) G.2.2.2.1 (G.2.2.2.2.1 _ hl) (G.2.2.2.2.1 _ hn) (G.2.2.2.2.1 _ hs) (G.2.2.2.2.1 _ hi) G.2.2.2.2.2.1.1 h2 (ws_D Z M) h3 a b 0 0 (by rw [ws_get q1, ce_1 q2]) (by rw [ws_get q3, ce_1 q4]) rfl rfl rfl q5 q6 q7 q8 q9 (fun _ _ => rfl) (by omega) ?_ hd (fun H1 locs1 g1 g2 g3 => ?_)
  · have : nativeFrameWords "java/lang/System" "arraycopy" 5 + 11 ≤ 40 := by decide +kernel
    omega
  · rw [ws_set (M' := M') (by rw [← hM]) q3 (by rw [ce_1 (M := M') (by rw [← hM]; exact q4), ← hM]; simp [mi_]) (fun j hj => ce_eq (by rw [← hM]) (by rw [← hM]; simp [mi_, hj]) (by rw [← hM]))] at g1
    exact k H1 locs1 ls (by rw [← hM]; exact h1) g1 g3 h4
/-- the new cell's address -/
theorem new_at {H1 : Heap} {q : Nat} {e : va_E} (h1 : zB Z + mz M = (xs_ X).heap.size + cn) (hP : va_P (zD Z) vwCl (ws_ Z M ++ [(q, e)]) H1) (hD : va_D (zA Z) (ws_ Z M ++ [(q, e)])) (hu : H1.size ≤ (xs_ X).heap.size + (cn + 1)) : q = ad Z (mz M) := by
  have hlen : (ws_ Z M).length = mz M := by simp [ws_]
  have hq : (ws_ Z M ++ [(q, e)])[mz M]? = some (q, e) := by rw [List.getElem?_append_right (by omega), hlen, Nat.sub_self]; rfl
  have h2 := (hP _ _ hq).lt
  have h3 : zB Z ≤ q := hD.2 _ _ hq
  have h4 : ¬ q < zB Z + mz M := by
    intro h
    have h5 : (ws_ Z M ++ [(q, e)])[q - zB Z]? = some (ad Z (q - zB Z), ce_ Z M (q - zB Z)) := by rw [List.getElem?_append_left (by omega)]; exact ws_get (by omega)
    have h6 := hD.1 _ _ _ _ h5 hq (by simp only [ad]; omega)
    omega
  simp only at h2
  simp only [ad]
  omega
theorem nwC_old {k : Nat × Nat} : ∀ j, j < mz M → ce_ Z (nwC M k) j = ce_ Z M j := fun j hj => ce_eq (by simp [mk_, nwC, va_up, Nat.ne_of_lt hj]) (by simp [mi_, nwC, va_up, Nat.ne_of_lt hj]) (by simp [mr_, nwC, va_up, Nat.ne_of_lt hj])
theorem v_new {i : Nat} (G : ok_ X Z y cc nL d mc ms) (B : cls_ ci C T N ty) (hd : decode cc pc = .ok (.new i, 3)) (hw : Cond.classLink y.cls i C ∈ TT) (hcc : cn + 1 ≤ mc) (hss : sn + N ≤ ms) (k : V X Z (nwC M (0, ci)) (cn + 1) (sn + N) (pc + 3) L (.ref (mz M) :: st)) : V X Z M cn sn pc L st := by
  intro H locs ls h1 h2 h3 h4
  have hR := G.2.2.2.2.2.2.2.1
  have hnew : mk_ (nwC M (0, ci)) (mz M) = (0, ci) := by simp [mk_, nwC, va_up]
  refine va_new (ci := ci) (fs := fl_ Z (nwC M (0, ci)) ci (mz M)) (C := C) (T := T) (N := N) (A := zA Z) G.1 G.2.1 G.2.2.2.2.1 B.2.2.1 ty B.2.2.2.1 G.2.2.2.1 (G.2.2.2.2.1 _ hw) (G.2.2.2.2.1 _ B.2.2.2.2.2.2.1) (G.2.2.2.2.1 _ B.2.2.2.2.2.2.2) G.2.2.2.2.2.1.1 h2 (ws_D Z M) h3 (fun q hq => Nat.le_trans G.2.2.2.2.2.2.1 hq) B.1 (fun j hj => ?_) (by omega) (by omega) hd (fun q H1 q1 q2 q3 => ?_)
  · rw [B.2.2.2.2.2.1 j hj, vp_V, List.getD_eq_getElem?_getD, fl_get (by rw [B.2.1]; exact hj)]
    simp [mi_, mr_, nwC, va_up, va_rf]
  · refine W_sz fun hu => ?_
    have hq := new_at h1 q1 q2 hu
    subst hq
    rw [ws_push (M' := nwC M (0, ci)) rfl (ce_O hnew) nwC_old] at q1
    exact k H1 locs ls (by show zB Z + (mz M + 1) = _; omega) q1 q3 h4
theorem v_newI {n : Int32} {n' : Nat} (G : ok_ X Z y cc nL d mc ms) (hd : decode cc pc = .ok (.newarray .int, 2)) (hw : Cond.arrayClass .int ∈ TT) (hn : ¬ n < 0) (hN : n.toNatClampNeg = n') (hb : n' * 4 ≤ 536870912) (hcc : cn + 1 ≤ mc) (hss : sn + n' ≤ ms) (k : V X Z (nwC M (1, n')) (cn + 1) (sn + n') (pc + 2) L (.ref (mz M) :: st)) : V X Z M cn sn pc L (.int n :: st) := by
  intro H locs ls h1 h2 h3 h4
  have hR := G.2.2.2.2.2.2.2.1
  have hnew : (mk_ (nwC M (1, n')) (mz M)).1 = 1 := by simp [mk_, nwC, va_up]
  refine va_newa (a0 := (n', .inl (fun _ => 0))) (A := zA Z) (atype := .int) (ty := .int) G.1 G.2.1 (G.2.2.2.2.1 _ hw) rfl G.2.2.2.2.2.1.1 h2 (ws_D Z M) h3 (fun q hq => Nat.le_trans G.2.2.2.2.2.2.1 hq) (fun _ => rfl) hn hN hb (by omega) (by omega) hd (fun q cA H1 q0 q1 q2 q3 => ?_)
  refine W_sz fun hu => ?_
  have hq := new_at h1 q1 q2 hu
  subst hq
  have hcA : cA = (zC Z).1 := by
    have a1 := (q0.2 4 (cA, .int) rfl).2
    have a2 := (G.2.2.2.2.2.1.1.2 0 _ rfl).2
    exact Option.some.inj (a1.symm.trans a2)
  subst hcA
  rw [ws_push (M' := nwC M (1, n')) rfl (by rw [ce_1 hnew]; simp [mi_, mk_, nwC, va_up]) nwC_old] at q1
  exact k H1 locs ls (by show zB Z + (mz M + 1) = _; omega) q1 q3 h4
theorem v_newZ {n : Int32} {n' : Nat} (G : ok_ X Z y cc nL d mc ms) (hd : decode cc pc = .ok (.newarray .boolean, 2)) (hw : Cond.arrayClass .boolean ∈ TT) (hn : ¬ n < 0) (hN : n.toNatClampNeg = n') (hb : n' * 1 ≤ 536870912) (hcc : cn + 1 ≤ mc) (hss : sn + n' ≤ ms) (k : V X Z (nwC M (2, n')) (cn + 1) (sn + n') (pc + 2) L (.ref (mz M) :: st)) : V X Z M cn sn pc L (.int n :: st) := by
  intro H locs ls h1 h2 h3 h4
  have hR := G.2.2.2.2.2.2.2.1
  have hnew : (mk_ (nwC M (2, n')) (mz M)).1 = 2 := by simp [mk_, nwC, va_up]
  refine va_newa (a0 := (n', .inl (fun _ => 0))) (A := zA Z) (atype := .boolean) (ty := .boolean) G.1 G.2.1 (G.2.2.2.2.1 _ hw) rfl G.2.2.2.2.2.1.1 h2 (ws_D Z M) h3 (fun q hq => Nat.le_trans G.2.2.2.2.2.2.1 hq) (fun _ => rfl) hn hN hb (by omega) (by omega) hd (fun q cA H1 q0 q1 q2 q3 => ?_)
  refine W_sz fun hu => ?_
  have hq := new_at h1 q1 q2 hu
  subst hq
  have hcA : cA = (zC Z).2.1 := by
    have a1 := (q0.2 4 (cA, .boolean) rfl).2
    have a2 := (G.2.2.2.2.2.1.1.2 1 _ rfl).2
    exact Option.some.inj (a1.symm.trans a2)
  subst hcA
  rw [ws_push (M' := nwC M (2, n')) rfl (by rw [ce_2 hnew]; simp [mi_, mk_, nwC, va_up]) nwC_old] at q1
  exact k H1 locs ls (by show zB Z + (mz M + 1) = _; omega) q1 q3 h4
theorem v_new3 {i : Nat} {n : Int32} {n' : Nat} (G : ok_ X Z y cc nL d mc ms) (hd : decode cc pc = .ok (.anewarray i, 3)) (hw : Cond.classLink y.cls i RX4 ∈ TT) (hn : ¬ n < 0) (hN : n.toNatClampNeg = n') (hb : n' * 4 ≤ 536870912) (hcc : cn + 1 ≤ mc) (hss : sn + n' ≤ ms) (k : V X Z (nwC M (3, n')) (cn + 1) (sn + n') (pc + 3) L (.ref (mz M) :: st)) : V X Z M cn sn pc L (.int n :: st) := by
  intro H locs ls h1 h2 h3 h4
  have hR := G.2.2.2.2.2.2.2.1
  have hnew : (mk_ (nwC M (3, n')) (mz M)).1 = 3 := by simp [mk_, nwC, va_up]
  refine va_newq (C := RX4) (A := zA Z) G.1 G.2.1 G.2.2.2.1 (G.2.2.2.2.1 _ hw) G.2.2.2.2.2.1.2.2.1 G.2.2.2.2.2.1.1 h2 (ws_D Z M) h3 (fun q hq => Nat.le_trans G.2.2.2.2.2.2.1 hq) hn hN hb (by omega) (by omega) hd (fun q cA H1 q0 q1 q2 q3 => ?_)
  refine W_sz fun hu => ?_
  have hq := new_at h1 q1 q2 hu
  subst hq
  have hcA : cA = (zC Z).2.2.1 := by
    obtain ⟨_, _, -, -, -, a1⟩ := (q0.2 4 (cA, .object RX4) rfl).2
    obtain ⟨_, _, -, -, -, a2⟩ := (G.2.2.2.2.2.1.1.2 2 _ rfl).2
    exact Option.some.inj (a1.symm.trans a2)
  subst hcA
  rw [ws_push (M' := nwC M (3, n')) rfl (by rw [ce_3 hnew]; simp [mr_, mk_, nwC, va_up]) nwC_old] at q1
  exact k H1 locs ls (by show zB Z + (mz M + 1) = _; omega) q1 q3 h4
theorem v_new4 {i : Nat} {n : Int32} {n' : Nat} (G : ok_ X Z y cc nL d mc ms) (hd : decode cc pc = .ok (.anewarray i, 3)) (hw : Cond.classLink y.cls i RX5 ∈ TT) (hn : ¬ n < 0) (hN : n.toNatClampNeg = n') (hb : n' * 4 ≤ 536870912) (hcc : cn + 1 ≤ mc) (hss : sn + n' ≤ ms) (k : V X Z (nwC M (4, n')) (cn + 1) (sn + n') (pc + 3) L (.ref (mz M) :: st)) : V X Z M cn sn pc L (.int n :: st) := by
  intro H locs ls h1 h2 h3 h4
  have hR := G.2.2.2.2.2.2.2.1
  have hnew : (mk_ (nwC M (4, n')) (mz M)).1 = 4 := by simp [mk_, nwC, va_up]
  refine va_newq (C := RX5) (A := zA Z) G.1 G.2.1 G.2.2.2.1 (G.2.2.2.2.1 _ hw) G.2.2.2.2.2.1.2.2.2.1 G.2.2.2.2.2.1.1 h2 (ws_D Z M) h3 (fun q hq => Nat.le_trans G.2.2.2.2.2.2.1 hq) hn hN hb (by omega) (by omega) hd (fun q cA H1 q0 q1 q2 q3 => ?_)
  refine W_sz fun hu => ?_
  have hq := new_at h1 q1 q2 hu
  subst hq
  have hcA : cA = (zC Z).2.2.2 := by
    obtain ⟨_, _, -, -, -, a1⟩ := (q0.2 4 (cA, .object RX5) rfl).2
    obtain ⟨_, _, -, -, -, a2⟩ := (G.2.2.2.2.2.1.1.2 3 _ rfl).2
    exact Option.some.inj (a1.symm.trans a2)
  subst hcA
  rw [ws_push (M' := nwC M (4, n')) rfl (by rw [ce_4 hnew]; simp [mr_, mk_, nwC, va_up]) nwC_old] at q1
  exact k H1 locs ls (by show zB Z + (mz M + 1) = _; omega) q1 q3 h4
theorem v_iret {v : Int32} (G : ok_ X Z y cc nL d mc ms) (F : fin_ X Z M0 M (some (.int v)) (some .int) mc ms) (hd : decode cc pc = .ok (.ireturn, 1)) (hc : cn = mc) (hs : sn ≤ ms) : V X Z M cn sn pc L [.int v] := by
  intro H locs ls h1 h2 h3 h4
  obtain ⟨f1, f2, f3, f4⟩ := F
  subst hc
  rw [f1]
  refine W.widen (Nat.le_refl _) hs ?_
  exact W.iret G.1 G.2.1 f2 (fun t ht hW => ⟨rfl, by rw [ht]; exact h2, by omega, h3.F ht⟩) h3.2.2 hd f3
theorem v_zret {v : Int32} (G : ok_ X Z y cc nL d mc ms) (F : fin_ X Z M0 M (some (.int v)) (some .boolean) mc ms) (hv : (v == 0 || v == 1) = true) (hd : decode cc pc = .ok (.ireturn, 1)) (hc : cn = mc) (hs : sn ≤ ms) : V X Z M cn sn pc L [.int v] := by
  intro H locs ls h1 h2 h3 h4
  obtain ⟨f1, f2, f3, f4⟩ := F
  subst hc
  rw [f1]
  refine W.widen (Nat.le_refl _) hs ?_
  have hn : narrow .boolean (.int v) = .int v := by
    simp only [Bool.or_eq_true, beq_iff_eq] at hv
    rcases hv with rfl | rfl <;> decide
  exact W.zret G.1 G.2.1 f2 hn (fun t ht hW => ⟨rfl, by rw [ht]; exact h2, by omega, h3.F ht⟩) h3.2.2 hd f3
theorem v_lret {v : Int64} (G : ok_ X Z y cc nL d mc ms) (F : fin_ X Z M0 M (some (.long v)) (some .long) mc ms) (hd : decode cc pc = .ok (.lreturn, 1)) (hc : cn = mc) (hs : sn ≤ ms) : V X Z M cn sn pc L [.long v] := by
  intro H locs ls h1 h2 h3 h4
  obtain ⟨f1, f2, f3, f4⟩ := F
  subst hc
  rw [f1]
  refine W.widen (Nat.le_refl _) hs ?_
  exact W.lret G.1 G.2.1 f2 (fun t ht hW => ⟨rfl, by rw [ht]; exact h2, by omega, h3.F ht⟩) h3.2.2 hd f3
theorem v_vret (G : ok_ X Z y cc nL d mc ms) (F : fin_ X Z M0 M none none mc ms) (hd : decode cc pc = .ok (.return_, 1)) (hc : cn = mc) (hs : sn ≤ ms) : V X Z M cn sn pc L [] := by
  intro H locs ls h1 h2 h3 h4
  obtain ⟨f1, f2, f3, f4⟩ := F
  subst hc
  rw [f1]
  refine W.widen (Nat.le_refl _) hs ?_
  exact W.vret G.1 G.2.1 f2 (fun t ht hW => ⟨rfl, by rw [ht]; exact h2, by omega, h3.F ht⟩) h3.2.2 hd f3
theorem v_aret {a : Nat} {n : String} (G : ok_ X Z y cc nL d mc ms) (F : fin_ X Z M0 M (some (.ref a)) (some (.object n)) mc ms) (hd : decode cc pc = .ok (.areturn, 1)) (hc : cn = mc) (hs : sn ≤ ms) : V X Z M cn sn pc L [.ref a] := by
  intro H locs ls h1 h2 h3 h4
  obtain ⟨f1, f2, f3, f4⟩ := F
  subst hc
  rw [f1]
  refine W.widen (Nat.le_refl _) hs ?_
  exact W.aret G.1 G.2.1 f2 (Or.inl ⟨n, rfl⟩) (Or.inr ⟨_, rfl⟩) (fun t ht hW => ⟨rfl, by rw [ht]; exact h2, by omega, h3.F ht⟩) h3.2.2 hd f3
end RL3
