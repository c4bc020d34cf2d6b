/-! ===== what the printed shallow functions and their rows use ===== -/
def FU : Nat := 5000
def bd2 {α β γ : Type} (o : Option (α × β)) (f : α → β → Option γ) : Option γ := match o with
  | some q => f q.1 q.2
  | none => none
def nw_b {α : Type} (M : mM) (k : Nat × Nat) (f : mM → Option α) : Option α := f (nwC M k)
theorem bi_ {α β : Type} {o : Option α} {f : α → Option β} {r : β} (h : o.bind f = some r) : ∃ v, o = some v ∧ f v = some r := by
  cases o with
  | none => cases h
  | some v => exact ⟨v, rfl, h⟩
theorem bi2_ {α β γ : Type} {o : Option (α × β)} {f : α → β → Option γ} {r : γ} (h : bd2 o f = some r) : ∃ a b, o = some (a, b) ∧ f a b = some r := by
  cases o with
  | none => cases h
  | some q => exact ⟨q.1, q.2, rfl, h⟩
theorem in_ {α : Type} {c : Prop} [Decidable c] {x : Option α} {r : α} (h : (if c then none else x) = some r) : ¬ c ∧ x = some r := by
  by_cases hc : c
  · rw [if_pos hc] at h; cases h
  · rw [if_neg hc] at h; exact ⟨hc, h⟩
def msk : List Bool → List (Option Value) → List (Option Value)
  | b :: bs, x :: xs => (if b then x else none) :: msk bs xs
  | _, xs => xs
theorem msk_len : ∀ (bs : List Bool) (L : List (Option Value)), (msk bs L).length = L.length
  | [], L => by cases L <;> rfl
  | b :: bs, [] => rfl
  | b :: bs, x :: xs => by simp [msk, msk_len bs xs]
theorem msk_get : ∀ (bs : List Bool) (L : List (Option Value)) (i : Nat) (v : Value), (msk bs L)[i]? = some (some v) → L[i]? = some (some v)
  | [], L, i, v, h => by cases L <;> exact h
  | b :: bs, [], i, v, h => h
  | b :: bs, x :: xs, 0, v, h => by
    cases b with
    | true => simpa [msk] using h
    | false => simp [msk] at h
  | b :: bs, x :: xs, i + 1, v, h => by
    simp only [msk, List.getElem?_cons_succ] at h ⊢
    exact msk_get bs xs i v h
def ldS (i : Int32) : Option Int32 := if inB i 6 then some (tb_s i.toNatClampNeg) else none
def ldM (i : Int32) : Option Int32 := if inB i 6 then some (tb_m i.toNatClampNeg) else none
section RL4
variable {X : xX} {Z : zZ} {M M0 M1 M' : mM} {y y' : MethodName} {cc cc' : ByteArray} {nL nL' n' d d' mc ms cn sn pc : Nat} {L L' : List (Option Value)} {st st0 : List Value} {ci N : Nat} {C : String} {T : u_T} {ty : Nat → FieldType} {ret ret' : Option FieldType} {r : Option Value} {As : List Value}
theorem v_mask (bs : List Bool) (hL : msk bs L' = L) (k : V X Z M cn sn pc L st) : V X Z M cn sn pc L' st := fun H locs ls h1 h2 h3 h4 =>
  k H locs ls h1 h2 h3 ⟨by rw [← hL, msk_len]; exact h4.1, h4.2.1, fun i v hi => h4.2.2 i v (msk_get bs L' i v (by rw [hL]; exact hi))⟩
theorem v_tal0 {i v : Int32} (G : ok_ X Z y cc nL d mc ms) (hd : decode cc pc = .ok (.iaload, 1)) (hg : ldS i = some v) (k : V X Z M cn sn (pc + 1) L (.int v :: st)) : V X Z M cn sn pc L (.int i :: .float 0 :: st) := v_xald G hd (show ldX Z 0 i = some v from hg) k
theorem v_tal1 {i v : Int32} (G : ok_ X Z y cc nL d mc ms) (hd : decode cc pc = .ok (.iaload, 1)) (hg : ldM i = some v) (k : V X Z M cn sn (pc + 1) L (.int v :: st)) : V X Z M cn sn pc L (.int i :: .float 1 :: st) := v_xald G hd (show ldX Z 1 i = some v from hg) k
theorem v_callS0 {i : Nat} (E : EM Z y' cc' nL' ret' d' 0 0 As M M1 r) (G : ok_ X Z y cc nL d mc ms) (hm : my_ y' cc' nL' ret' As.length) (hs : Cond.static y' ∈ TT) (hl : Cond.methodLink y.cls i y' ∈ TT) (hd : decode cc pc = .ok (.invokestatic i, 3)) (hst : st0 = As.reverse ++ st) (hc : ((st.map (cv Z)).map fun v => v.category).sum ≤ 8) (hL : L.length = nL)
    (hdd : d' + 1 ≤ d) (hcc : cn ≤ mc) (hss : sn ≤ ms) (k : V X Z M1 cn sn (pc + 3) L (r.toList ++ st)) : V X Z M cn sn pc L st0 := v_callS E G hm hs hl hd hst hc hL hdd hcc hss k
theorem v_callSN0 {i : Nat} {host : String} (E : EM Z y' cc' nL' ret' d' 0 0 As M M1 r) (G : ok_ X Z y cc nL d mc ms) (hm : my_ y' cc' nL' ret' As.length) (hs : Cond.static y' ∈ TT) (hl : Cond.methodLinkNest y.cls i y' host ∈ nw_) (hd : decode cc pc = .ok (.invokestatic i, 3)) (hst : st0 = As.reverse ++ st) (hc : ((st.map (cv Z)).map fun v => v.category).sum ≤ 8) (hL : L.length = nL)
    (hdd : d' + 1 ≤ d) (hcc : cn ≤ mc) (hss : sn ≤ ms) (k : V X Z M1 cn sn (pc + 3) L (r.toList ++ st)) : V X Z M cn sn pc L st0 := v_callSN E G hm hs hl hd hst hc hL hdd hcc hss k
theorem v_callV0 {i b : Nat} (E : EM Z y' cc' nL' ret' d' 0 0 (.ref b :: As) M M1 r) (G : ok_ X Z y cc nL d mc ms) (B : cls_ ci C T N ty) (hm : my_ y' cc' nL' ret' As.length) (hcl : y'.cls = C) (hs : Cond.instanceMethod y' ∈ TT) (hse : Cond.selects C y' y' ∈ TT) (hl : Cond.methodLink y.cls i y' ∈ TT) (hd : decode cc pc = .ok (.invokevirtual i, 3)) (hO : isO M b ci = true) (hst : st0 = As.reverse ++ .ref b :: st) (hc : ((st.map (cv Z)).map fun v => v.category).sum ≤ 8) (hL : L.length = nL)
    (hdd : d' + 1 ≤ d) (hcc : cn ≤ mc) (hss : sn ≤ ms) (k : V X Z M1 cn sn (pc + 3) L (r.toList ++ st)) : V X Z M cn sn pc L st0 := v_callV E G B hm hcl hs hse hl hd hO hst hc hL hdd hcc hss k
end RL4
theorem nb_ {α : Type} {M : mM} {k : Nat × Nat} {f : mM → Option α} {r : α} (h : nw_b M k f = some r) : ∃ M1, M1 = nwC M k ∧ f M1 = some r := ⟨_, rfl, h⟩
