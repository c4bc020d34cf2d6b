/-! ===== RULES of V: one an instruction ===== -/
def rm_ (a b : Int32) : Int32 := a - a / b * b
def lr_ (a b : Int64) : Int64 := a - a / b * b
def i8_ (a : Int32) : Int32 := a.toInt8.toInt32
def i16_ (a : Int32) : Int32 := a.toInt16.toInt32
section RL1
variable {X : xX} {Z : zZ} {M : mM} {y : MethodName} {cc : ByteArray} {nL d mc ms cn sn pc : Nat} {L : List (Option Value)} {st : List Value}
theorem v_iconst {n : Int} (G : ok_ X Z y cc nL d mc ms) (v : Int32) (hd : decode cc pc = .ok (.iconst n, 1)) (hv : Int32.ofInt n = v) (k : V X Z M cn sn (pc + 1) L (.int v :: st)) : V X Z M cn sn pc L st :=
  fun H locs ls h1 h2 h3 h4 => lv_iconst G.1 G.2.1 hd hv (k H locs ls h1 h2 h3 h4)
theorem v_bipush {n : Int} (G : ok_ X Z y cc nL d mc ms) (v : Int32) (hd : decode cc pc = .ok (.bipush n, 2)) (hv : (Int8.ofInt n).toInt32 = v) (k : V X Z M cn sn (pc + 2) L (.int v :: st)) : V X Z M cn sn pc L st :=
  fun H locs ls h1 h2 h3 h4 => lv_bipush G.1 G.2.1 hd hv (k H locs ls h1 h2 h3 h4)
theorem v_sipush {n : Int} (G : ok_ X Z y cc nL d mc ms) (v : Int32) (hd : decode cc pc = .ok (.sipush n, 3)) (hv : (Int16.ofInt n).toInt32 = v) (k : V X Z M cn sn (pc + 3) L (.int v :: st)) : V X Z M cn sn pc L st :=
  fun H locs ls h1 h2 h3 h4 => lv_sipush G.1 G.2.1 hd hv (k H locs ls h1 h2 h3 h4)
theorem v_lconst {n : Fin 2} (G : ok_ X Z y cc nL d mc ms) (v : Int64) (hd : decode cc pc = .ok (.lconst n, 1)) (hv : Int64.ofNat (n : Nat) = v) (k : V X Z M cn sn (pc + 1) L (.long v :: st)) : V X Z M cn sn pc L st :=
  fun H locs ls h1 h2 h3 h4 => lv_lconst G.1 G.2.1 hd hv (k H locs ls h1 h2 h3 h4)
theorem v_ldc {i : Nat} (G : ok_ X Z y cc nL d mc ms) (v : Int32) (hd : decode cc pc = .ok (.ldc i, 2)) (hw : Cond.constant y.cls i v ∈ TT) (k : V X Z M cn sn (pc + 2) L (.int v :: st)) : V X Z M cn sn pc L st :=
  fun H locs ls h1 h2 h3 h4 => lv_ldc G.1 G.2.1 G.2.2.2.1 (G.2.2.2.2.1 _ hw) hd (k H locs ls h1 h2 h3 h4)
theorem v_ldcw {i : Nat} (G : ok_ X Z y cc nL d mc ms) (v : Int32) (hd : decode cc pc = .ok (.ldc_w i, 3)) (hw : Cond.constant y.cls i v ∈ TT) (k : V X Z M cn sn (pc + 3) L (.int v :: st)) : V X Z M cn sn pc L st :=
  fun H locs ls h1 h2 h3 h4 => lv_ldcw G.1 G.2.1 G.2.2.2.1 (G.2.2.2.2.1 _ hw) hd (k H locs ls h1 h2 h3 h4)
theorem v_ldc2 {i : Nat} (G : ok_ X Z y cc nL d mc ms) (v : Int64) (hd : decode cc pc = .ok (.ldc2_w i, 3)) (hw : Cond.constantLong y.cls i v ∈ TT) (k : V X Z M cn sn (pc + 3) L (.long v :: st)) : V X Z M cn sn pc L st :=
  fun H locs ls h1 h2 h3 h4 => lv_ldc2 G.1 G.2.1 G.2.2.2.1 (G.2.2.2.2.1 _ hw) hd (k H locs ls h1 h2 h3 h4)
theorem v_iload {i : Nat} {x : Int32} (G : ok_ X Z y cc nL d mc ms) (hd : decode cc pc = .ok (.iload i, 2)) (hl : L[i]? = some (some (.int x))) (k : V X Z M cn sn (pc + 2) L (.int x :: st)) : V X Z M cn sn pc L st :=
  fun H locs ls h1 h2 h3 h4 => lv_iload G.1 G.2.1 hd (h4.2.2 _ _ hl) (k H locs ls h1 h2 h3 h4)
theorem v_iload_n {i : Fin 4} {x : Int32} (G : ok_ X Z y cc nL d mc ms) (hd : decode cc pc = .ok (.iload_n i, 1)) (hl : L[(i : Nat)]? = some (some (.int x))) (k : V X Z M cn sn (pc + 1) L (.int x :: st)) : V X Z M cn sn pc L st :=
  fun H locs ls h1 h2 h3 h4 => lv_iload_n G.1 G.2.1 hd rfl (h4.2.2 _ _ hl) (k H locs ls h1 h2 h3 h4)
theorem v_lload {i : Nat} {x : Int64} (G : ok_ X Z y cc nL d mc ms) (hd : decode cc pc = .ok (.lload i, 2)) (hl : L[i]? = some (some (.long x))) (k : V X Z M cn sn (pc + 2) L (.long x :: st)) : V X Z M cn sn pc L st :=
  fun H locs ls h1 h2 h3 h4 => lv_lload G.1 G.2.1 hd (h4.2.2 _ _ hl) (k H locs ls h1 h2 h3 h4)
theorem v_lload_n {i : Fin 4} {x : Int64} (G : ok_ X Z y cc nL d mc ms) (hd : decode cc pc = .ok (.lload_n i, 1)) (hl : L[(i : Nat)]? = some (some (.long x))) (k : V X Z M cn sn (pc + 1) L (.long x :: st)) : V X Z M cn sn pc L st :=
  fun H locs ls h1 h2 h3 h4 => lv_lload_n G.1 G.2.1 hd rfl (h4.2.2 _ _ hl) (k H locs ls h1 h2 h3 h4)
theorem v_aload {i a : Nat} (G : ok_ X Z y cc nL d mc ms) (hd : decode cc pc = .ok (.aload i, 2)) (hl : L[i]? = some (some (.ref a))) (k : V X Z M cn sn (pc + 2) L (.ref a :: st)) : V X Z M cn sn pc L st :=
  fun H locs ls h1 h2 h3 h4 => lv_aload G.1 G.2.1 hd (h4.2.2 _ _ hl) (k H locs ls h1 h2 h3 h4)
theorem v_aload_n {i : Fin 4} {a : Nat} (G : ok_ X Z y cc nL d mc ms) (hd : decode cc pc = .ok (.aload_n i, 1)) (hl : L[(i : Nat)]? = some (some (.ref a))) (k : V X Z M cn sn (pc + 1) L (.ref a :: st)) : V X Z M cn sn pc L st :=
  fun H locs ls h1 h2 h3 h4 => lv_aload_n G.1 G.2.1 hd rfl (h4.2.2 _ _ hl) (k H locs ls h1 h2 h3 h4)
theorem v_aload_nx {i : Fin 4} {u : UInt32} (G : ok_ X Z y cc nL d mc ms) (hd : decode cc pc = .ok (.aload_n i, 1)) (hl : L[(i : Nat)]? = some (some (.float u))) (k : V X Z M cn sn (pc + 1) L (.float u :: st)) : V X Z M cn sn pc L st :=
  fun H locs ls h1 h2 h3 h4 => lv_aload_n G.1 G.2.1 hd rfl (h4.2.2 _ _ hl) (k H locs ls h1 h2 h3 h4)
theorem v_istore {i : Nat} {x : Int32} (L' : List (Option Value)) (G : ok_ X Z y cc nL d mc ms) (hd : decode cc pc = .ok (.istore i, 2)) (hi : i < L.length) (hc : c1_ L i = true) (hL : L.set i (some (.int x)) = L') (k : V X Z M cn sn (pc + 2) L' st) : V X Z M cn sn pc L (.int x :: st) :=
  fun H locs ls h1 h2 h3 h4 => lv_istore G.1 G.2.1 hd (lvh_has h4) hi rfl (fun ls' h' => k H locs ls' h1 h2 h3 (hL ▸ lvh_s1 (v := .int x) hi hc h'))
theorem v_istore_n {i : Fin 4} {x : Int32} (L' : List (Option Value)) (G : ok_ X Z y cc nL d mc ms) (hd : decode cc pc = .ok (.istore_n i, 1)) (hi : (i : Nat) < L.length) (hc : c1_ L i = true) (hL : L.set i (some (.int x)) = L') (k : V X Z M cn sn (pc + 1) L' st) : V X Z M cn sn pc L (.int x :: st) :=
  fun H locs ls h1 h2 h3 h4 => lv_istore_n G.1 G.2.1 hd rfl (lvh_has h4) hi rfl (fun ls' h' => k H locs ls' h1 h2 h3 (hL ▸ lvh_s1 (v := .int x) hi hc h'))
theorem v_astore {i a : Nat} (L' : List (Option Value)) (G : ok_ X Z y cc nL d mc ms) (hd : decode cc pc = .ok (.astore i, 2)) (hi : i < L.length) (hc : c1_ L i = true) (hL : L.set i (some (.ref a)) = L') (k : V X Z M cn sn (pc + 2) L' st) : V X Z M cn sn pc L (.ref a :: st) :=
  fun H locs ls h1 h2 h3 h4 => lv_astore G.1 G.2.1 hd (lvh_has h4) hi rfl (fun ls' h' => k H locs ls' h1 h2 h3 (hL ▸ lvh_s1 (v := .ref a) hi hc h'))
theorem v_astore_n {i : Fin 4} {a : Nat} (L' : List (Option Value)) (G : ok_ X Z y cc nL d mc ms) (hd : decode cc pc = .ok (.astore_n i, 1)) (hi : (i : Nat) < L.length) (hc : c1_ L i = true) (hL : L.set i (some (.ref a)) = L') (k : V X Z M cn sn (pc + 1) L' st) : V X Z M cn sn pc L (.ref a :: st) :=
  fun H locs ls h1 h2 h3 h4 => lv_astore_n G.1 G.2.1 hd rfl (lvh_has h4) hi rfl (fun ls' h' => k H locs ls' h1 h2 h3 (hL ▸ lvh_s1 (v := .ref a) hi hc h'))
theorem v_lstore {i : Nat} {x : Int64} (L' : List (Option Value)) (G : ok_ X Z y cc nL d mc ms) (hd : decode cc pc = .ok (.lstore i, 2)) (hi : i + 1 < L.length) (hc : c1_ L i = true) (hL : (L.set i (some (.long x))).set (i + 1) none = L') (k : V X Z M cn sn (pc + 2) L' st) : V X Z M cn sn pc L (.long x :: st) :=
  fun H locs ls h1 h2 h3 h4 => lv_lstore G.1 G.2.1 hd (lvh_has h4) hi rfl (fun ls' h' => k H locs ls' h1 h2 h3 (hL ▸ lvh_s2 (v := .long x) hi hc h'))
theorem v_lstore_n {i : Fin 4} {x : Int64} (L' : List (Option Value)) (G : ok_ X Z y cc nL d mc ms) (hd : decode cc pc = .ok (.lstore_n i, 1)) (hi : (i : Nat) + 1 < L.length) (hc : c1_ L i = true) (hL : (L.set i (some (.long x))).set (i + 1) none = L') (k : V X Z M cn sn (pc + 1) L' st) : V X Z M cn sn pc L (.long x :: st) :=
  fun H locs ls h1 h2 h3 h4 => lv_lstore_n G.1 G.2.1 hd rfl (lvh_has h4) hi rfl (fun ls' h' => k H locs ls' h1 h2 h3 (hL ▸ lvh_s2 (v := .long x) hi hc h'))
theorem v_iinc {i : Nat} {n : Int} {x : Int32} (v : Int32) (L' : List (Option Value)) (G : ok_ X Z y cc nL d mc ms) (hd : decode cc pc = .ok (.iinc i n, 3)) (hl : L[i]? = some (some (.int x))) (hv : x + Int32.ofInt n = v) (hi : i < L.length) (hc : c1_ L i = true) (hL : L.set i (some (.int v)) = L') (k : V X Z M cn sn (pc + 3) L' st) : V X Z M cn sn pc L st :=
  fun H locs ls h1 h2 h3 h4 => by
    obtain ⟨q, hq⟩ := List.getElem?_of_mem (prs_mem (Z := Z) (L := L) (q := (i, .int x)) |>.mpr ⟨_, hl, rfl⟩)
    exact lv_iinc G.1 G.2.1 hd (lvh_has h4) hq hv hi rfl (fun ls' h' => k H locs ls' h1 h2 h3 (hL ▸ lvh_s1 (v := .int v) hi hc h'))
theorem v_iadd {a b : Int32} (G : ok_ X Z y cc nL d mc ms) (hd : decode cc pc = .ok (.iadd, 1)) (k : V X Z M cn sn (pc + 1) L (.int (a + b) :: st)) : V X Z M cn sn pc L (.int b :: .int a :: st) :=
  fun H locs ls h1 h2 h3 h4 => lv_iadd G.1 G.2.1 hd (k H locs ls h1 h2 h3 h4)
theorem v_isub {a b : Int32} (G : ok_ X Z y cc nL d mc ms) (hd : decode cc pc = .ok (.isub, 1)) (k : V X Z M cn sn (pc + 1) L (.int (a - b) :: st)) : V X Z M cn sn pc L (.int b :: .int a :: st) :=
  fun H locs ls h1 h2 h3 h4 => lv_isub G.1 G.2.1 hd (k H locs ls h1 h2 h3 h4)
theorem v_imul {a b : Int32} (G : ok_ X Z y cc nL d mc ms) (hd : decode cc pc = .ok (.imul, 1)) (k : V X Z M cn sn (pc + 1) L (.int (a * b) :: st)) : V X Z M cn sn pc L (.int b :: .int a :: st) :=
  fun H locs ls h1 h2 h3 h4 => lv_imul G.1 G.2.1 hd (k H locs ls h1 h2 h3 h4)
theorem v_iand {a b : Int32} (G : ok_ X Z y cc nL d mc ms) (hd : decode cc pc = .ok (.iand, 1)) (k : V X Z M cn sn (pc + 1) L (.int (a &&& b) :: st)) : V X Z M cn sn pc L (.int b :: .int a :: st) :=
  fun H locs ls h1 h2 h3 h4 => lv_iand G.1 G.2.1 hd (k H locs ls h1 h2 h3 h4)
theorem v_ior {a b : Int32} (G : ok_ X Z y cc nL d mc ms) (hd : decode cc pc = .ok (.ior, 1)) (k : V X Z M cn sn (pc + 1) L (.int (a ||| b) :: st)) : V X Z M cn sn pc L (.int b :: .int a :: st) :=
  fun H locs ls h1 h2 h3 h4 => lv_ior G.1 G.2.1 hd (k H locs ls h1 h2 h3 h4)
theorem v_ixor {a b : Int32} (G : ok_ X Z y cc nL d mc ms) (hd : decode cc pc = .ok (.ixor, 1)) (k : V X Z M cn sn (pc + 1) L (.int (a ^^^ b) :: st)) : V X Z M cn sn pc L (.int b :: .int a :: st) :=
  fun H locs ls h1 h2 h3 h4 => lv_ixor G.1 G.2.1 hd (k H locs ls h1 h2 h3 h4)
theorem v_irem {a b : Int32} (G : ok_ X Z y cc nL d mc ms) (hd : decode cc pc = .ok (.irem, 1)) (hn : ¬ b = 0) (k : V X Z M cn sn (pc + 1) L (.int (rm_ a b) :: st)) : V X Z M cn sn pc L (.int b :: .int a :: st) :=
  fun H locs ls h1 h2 h3 h4 => lv_irem G.1 G.2.1 hd hn (k H locs ls h1 h2 h3 h4)
theorem v_ineg {a : Int32} (G : ok_ X Z y cc nL d mc ms) (hd : decode cc pc = .ok (.ineg, 1)) (k : V X Z M cn sn (pc + 1) L (.int (-a) :: st)) : V X Z M cn sn pc L (.int a :: st) :=
  fun H locs ls h1 h2 h3 h4 => lv_ineg G.1 G.2.1 hd (k H locs ls h1 h2 h3 h4)
theorem v_ladd {a b : Int64} (G : ok_ X Z y cc nL d mc ms) (hd : decode cc pc = .ok (.ladd, 1)) (k : V X Z M cn sn (pc + 1) L (.long (a + b) :: st)) : V X Z M cn sn pc L (.long b :: .long a :: st) :=
  fun H locs ls h1 h2 h3 h4 => lv_ladd G.1 G.2.1 hd (k H locs ls h1 h2 h3 h4)
theorem v_lsub {a b : Int64} (G : ok_ X Z y cc nL d mc ms) (hd : decode cc pc = .ok (.lsub, 1)) (k : V X Z M cn sn (pc + 1) L (.long (a - b) :: st)) : V X Z M cn sn pc L (.long b :: .long a :: st) :=
  fun H locs ls h1 h2 h3 h4 => lv_lsub G.1 G.2.1 hd (k H locs ls h1 h2 h3 h4)
theorem v_lmul {a b : Int64} (G : ok_ X Z y cc nL d mc ms) (hd : decode cc pc = .ok (.lmul, 1)) (k : V X Z M cn sn (pc + 1) L (.long (a * b) :: st)) : V X Z M cn sn pc L (.long b :: .long a :: st) :=
  fun H locs ls h1 h2 h3 h4 => lv_lmul G.1 G.2.1 hd (k H locs ls h1 h2 h3 h4)
theorem v_ldiv {a b : Int64} (G : ok_ X Z y cc nL d mc ms) (hd : decode cc pc = .ok (.ldiv, 1)) (hn : ¬ b = 0) (k : V X Z M cn sn (pc + 1) L (.long (a / b) :: st)) : V X Z M cn sn pc L (.long b :: .long a :: st) :=
  fun H locs ls h1 h2 h3 h4 => lv_ldiv G.1 G.2.1 hd hn (k H locs ls h1 h2 h3 h4)
theorem v_lrem {a b : Int64} (G : ok_ X Z y cc nL d mc ms) (hd : decode cc pc = .ok (.lrem, 1)) (hn : ¬ b = 0) (k : V X Z M cn sn (pc + 1) L (.long (lr_ a b) :: st)) : V X Z M cn sn pc L (.long b :: .long a :: st) :=
  fun H locs ls h1 h2 h3 h4 => lv_lrem G.1 G.2.1 hd hn (k H locs ls h1 h2 h3 h4)
theorem v_lcmp {a b : Int64} (G : ok_ X Z y cc nL d mc ms) (hd : decode cc pc = .ok (.lcmp, 1)) (k : V X Z M cn sn (pc + 1) L (.int (lg_cmp a b) :: st)) : V X Z M cn sn pc L (.long b :: .long a :: st) :=
  fun H locs ls h1 h2 h3 h4 => W.lcmp G.1 G.2.1 hd (k H locs ls h1 h2 h3 h4)
theorem v_ishl {a b : Int32} (G : ok_ X Z y cc nL d mc ms) (hd : decode cc pc = .ok (.ishl, 1)) (k : V X Z M cn sn (pc + 1) L (.int (a <<< (b &&& 31)) :: st)) : V X Z M cn sn pc L (.int b :: .int a :: st) :=
  fun H locs ls h1 h2 h3 h4 => lv_ishl G.1 G.2.1 hd (k H locs ls h1 h2 h3 h4)
theorem v_ishr {a b : Int32} (G : ok_ X Z y cc nL d mc ms) (hd : decode cc pc = .ok (.ishr, 1)) (k : V X Z M cn sn (pc + 1) L (.int (a >>> (b &&& 31)) :: st)) : V X Z M cn sn pc L (.int b :: .int a :: st) :=
  fun H locs ls h1 h2 h3 h4 => lv_ishr G.1 G.2.1 hd (k H locs ls h1 h2 h3 h4)
def us_ (a b : Int32) : Int32 := (a.toUInt32 >>> (b.toUInt32 &&& Int32.toUInt32 31)).toInt32
theorem v_iushr {a b : Int32} (G : ok_ X Z y cc nL d mc ms) (hd : decode cc pc = .ok (.iushr, 1)) (k : V X Z M cn sn (pc + 1) L (.int (us_ a b) :: st)) : V X Z M cn sn pc L (.int b :: .int a :: st) :=
  fun H locs ls h1 h2 h3 h4 => lv_iushr G.1 G.2.1 hd rfl (k H locs ls h1 h2 h3 h4)
theorem v_i2l {a : Int32} (G : ok_ X Z y cc nL d mc ms) (hd : decode cc pc = .ok (.i2l, 1)) (k : V X Z M cn sn (pc + 1) L (.long a.toInt64 :: st)) : V X Z M cn sn pc L (.int a :: st) :=
  fun H locs ls h1 h2 h3 h4 => lv_i2l G.1 G.2.1 hd rfl (k H locs ls h1 h2 h3 h4)
theorem v_l2i {a : Int64} (G : ok_ X Z y cc nL d mc ms) (hd : decode cc pc = .ok (.l2i, 1)) (k : V X Z M cn sn (pc + 1) L (.int a.toInt32 :: st)) : V X Z M cn sn pc L (.long a :: st) :=
  fun H locs ls h1 h2 h3 h4 => lv_l2i G.1 G.2.1 hd rfl (k H locs ls h1 h2 h3 h4)
theorem v_i2b {a : Int32} (G : ok_ X Z y cc nL d mc ms) (hd : decode cc pc = .ok (.i2b, 1)) (k : V X Z M cn sn (pc + 1) L (.int (i8_ a) :: st)) : V X Z M cn sn pc L (.int a :: st) :=
  fun H locs ls h1 h2 h3 h4 => lv_i2b G.1 G.2.1 hd rfl (k H locs ls h1 h2 h3 h4)
theorem v_i2s {a : Int32} (G : ok_ X Z y cc nL d mc ms) (hd : decode cc pc = .ok (.i2s, 1)) (k : V X Z M cn sn (pc + 1) L (.int (i16_ a) :: st)) : V X Z M cn sn pc L (.int a :: st) :=
  fun H locs ls h1 h2 h3 h4 => lv_i2s G.1 G.2.1 hd rfl (k H locs ls h1 h2 h3 h4)
theorem v_dup {v : Value} (G : ok_ X Z y cc nL d mc ms) (hd : decode cc pc = .ok (.dup, 1)) (hv : v.category = 1) (k : V X Z M cn sn (pc + 1) L (v :: v :: st)) : V X Z M cn sn pc L (v :: st) :=
  fun H locs ls h1 h2 h3 h4 => lv_dup G.1 G.2.1 hd ((cv_cat Z v).trans hv) (k H locs ls h1 h2 h3 h4)
theorem v_dup2 {v w : Value} (G : ok_ X Z y cc nL d mc ms) (hd : decode cc pc = .ok (.dup2, 1)) (hv : v.category = 1) (hw : w.category = 1) (k : V X Z M cn sn (pc + 1) L (v :: w :: v :: w :: st)) : V X Z M cn sn pc L (v :: w :: st) :=
  fun H locs ls h1 h2 h3 h4 => lv_dup2_11 G.1 G.2.1 hd ((cv_cat Z v).trans hv) ((cv_cat Z w).trans hw) (k H locs ls h1 h2 h3 h4)
theorem v_dup2l {v : Value} (G : ok_ X Z y cc nL d mc ms) (hd : decode cc pc = .ok (.dup2, 1)) (hv : v.category = 2) (k : V X Z M cn sn (pc + 1) L (v :: v :: st)) : V X Z M cn sn pc L (v :: st) :=
  fun H locs ls h1 h2 h3 h4 => lv_dup2_2 G.1 G.2.1 hd ((cv_cat Z v).trans hv) (k H locs ls h1 h2 h3 h4)
theorem v_goto {o : Int} (t : Nat) (G : ok_ X Z y cc nL d mc ms) (hd : decode cc pc = .ok (.goto o, 3)) (ht : (pc : Int) + o = (t : Int)) (k : V X Z M cn sn t L st) : V X Z M cn sn pc L st :=
  fun H locs ls h1 h2 h3 h4 => lv_goto G.1 G.2.1 hd ht (k H locs ls h1 h2 h3 h4)
theorem v_if_eq {a : Int32} {o : Int} (t : Nat) (G : ok_ X Z y cc nL d mc ms) (hd : decode cc pc = .ok (.ifCond .eq o, 3)) (ht : (pc : Int) + o = (t : Int)) (kt : a = 0 → V X Z M cn sn t L st) (kf : ¬ a = 0 → V X Z M cn sn (pc + 3) L st) : V X Z M cn sn pc L (.int a :: st) :=
  fun H locs ls h1 h2 h3 h4 => lv_if_eq G.1 G.2.1 hd ht (fun q => kt q H locs ls h1 h2 h3 h4) (fun q => kf q H locs ls h1 h2 h3 h4)
theorem v_if_ne {a : Int32} {o : Int} (t : Nat) (G : ok_ X Z y cc nL d mc ms) (hd : decode cc pc = .ok (.ifCond .ne o, 3)) (ht : (pc : Int) + o = (t : Int)) (kt : ¬ a = 0 → V X Z M cn sn t L st) (kf : a = 0 → V X Z M cn sn (pc + 3) L st) : V X Z M cn sn pc L (.int a :: st) :=
  fun H locs ls h1 h2 h3 h4 => lv_if_ne G.1 G.2.1 hd ht (fun q => kt q H locs ls h1 h2 h3 h4) (fun q => kf q H locs ls h1 h2 h3 h4)
theorem v_if_lt {a : Int32} {o : Int} (t : Nat) (G : ok_ X Z y cc nL d mc ms) (hd : decode cc pc = .ok (.ifCond .lt o, 3)) (ht : (pc : Int) + o = (t : Int)) (kt : a < 0 → V X Z M cn sn t L st) (kf : ¬ a < 0 → V X Z M cn sn (pc + 3) L st) : V X Z M cn sn pc L (.int a :: st) :=
  fun H locs ls h1 h2 h3 h4 => lv_if_lt G.1 G.2.1 hd ht (fun q => kt q H locs ls h1 h2 h3 h4) (fun q => kf q H locs ls h1 h2 h3 h4)
theorem v_if_ge {a : Int32} {o : Int} (t : Nat) (G : ok_ X Z y cc nL d mc ms) (hd : decode cc pc = .ok (.ifCond .ge o, 3)) (ht : (pc : Int) + o = (t : Int)) (kt : 0 ≤ a → V X Z M cn sn t L st) (kf : ¬ 0 ≤ a → V X Z M cn sn (pc + 3) L st) : V X Z M cn sn pc L (.int a :: st) :=
  fun H locs ls h1 h2 h3 h4 => lv_if_ge G.1 G.2.1 hd ht (fun q => kt q H locs ls h1 h2 h3 h4) (fun q => kf q H locs ls h1 h2 h3 h4)
theorem v_if_gt {a : Int32} {o : Int} (t : Nat) (G : ok_ X Z y cc nL d mc ms) (hd : decode cc pc = .ok (.ifCond .gt o, 3)) (ht : (pc : Int) + o = (t : Int)) (kt : 0 < a → V X Z M cn sn t L st) (kf : ¬ 0 < a → V X Z M cn sn (pc + 3) L st) : V X Z M cn sn pc L (.int a :: st) :=
  fun H locs ls h1 h2 h3 h4 => lv_if_gt G.1 G.2.1 hd ht (fun q => kt q H locs ls h1 h2 h3 h4) (fun q => kf q H locs ls h1 h2 h3 h4)
theorem v_if_le {a : Int32} {o : Int} (t : Nat) (G : ok_ X Z y cc nL d mc ms) (hd : decode cc pc = .ok (.ifCond .le o, 3)) (ht : (pc : Int) + o = (t : Int)) (kt : a ≤ 0 → V X Z M cn sn t L st) (kf : ¬ a ≤ 0 → V X Z M cn sn (pc + 3) L st) : V X Z M cn sn pc L (.int a :: st) :=
  fun H locs ls h1 h2 h3 h4 => lv_if_le G.1 G.2.1 hd ht (fun q => kt q H locs ls h1 h2 h3 h4) (fun q => kf q H locs ls h1 h2 h3 h4)
theorem v_ic_eq {a b : Int32} {o : Int} (t : Nat) (G : ok_ X Z y cc nL d mc ms) (hd : decode cc pc = .ok (.if_icmp .eq o, 3)) (ht : (pc : Int) + o = (t : Int)) (kt : a = b → V X Z M cn sn t L st) (kf : ¬ a = b → V X Z M cn sn (pc + 3) L st) : V X Z M cn sn pc L (.int b :: .int a :: st) :=
  fun H locs ls h1 h2 h3 h4 => lv_icmp_eq G.1 G.2.1 hd ht (fun q => kt q H locs ls h1 h2 h3 h4) (fun q => kf q H locs ls h1 h2 h3 h4)
theorem v_ic_ne {a b : Int32} {o : Int} (t : Nat) (G : ok_ X Z y cc nL d mc ms) (hd : decode cc pc = .ok (.if_icmp .ne o, 3)) (ht : (pc : Int) + o = (t : Int)) (kt : ¬ a = b → V X Z M cn sn t L st) (kf : a = b → V X Z M cn sn (pc + 3) L st) : V X Z M cn sn pc L (.int b :: .int a :: st) :=
  fun H locs ls h1 h2 h3 h4 => lv_icmp_ne G.1 G.2.1 hd ht (fun q => kt q H locs ls h1 h2 h3 h4) (fun q => kf q H locs ls h1 h2 h3 h4)
theorem v_ic_lt {a b : Int32} {o : Int} (t : Nat) (G : ok_ X Z y cc nL d mc ms) (hd : decode cc pc = .ok (.if_icmp .lt o, 3)) (ht : (pc : Int) + o = (t : Int)) (kt : a < b → V X Z M cn sn t L st) (kf : ¬ a < b → V X Z M cn sn (pc + 3) L st) : V X Z M cn sn pc L (.int b :: .int a :: st) :=
  fun H locs ls h1 h2 h3 h4 => lv_icmp_lt G.1 G.2.1 hd ht (fun q => kt q H locs ls h1 h2 h3 h4) (fun q => kf q H locs ls h1 h2 h3 h4)
theorem v_ic_ge {a b : Int32} {o : Int} (t : Nat) (G : ok_ X Z y cc nL d mc ms) (hd : decode cc pc = .ok (.if_icmp .ge o, 3)) (ht : (pc : Int) + o = (t : Int)) (kt : b ≤ a → V X Z M cn sn t L st) (kf : ¬ b ≤ a → V X Z M cn sn (pc + 3) L st) : V X Z M cn sn pc L (.int b :: .int a :: st) :=
  fun H locs ls h1 h2 h3 h4 => lv_icmp_ge G.1 G.2.1 hd ht (fun q => kt q H locs ls h1 h2 h3 h4) (fun q => kf q H locs ls h1 h2 h3 h4)
theorem v_ic_gt {a b : Int32} {o : Int} (t : Nat) (G : ok_ X Z y cc nL d mc ms) (hd : decode cc pc = .ok (.if_icmp .gt o, 3)) (ht : (pc : Int) + o = (t : Int)) (kt : b < a → V X Z M cn sn t L st) (kf : ¬ b < a → V X Z M cn sn (pc + 3) L st) : V X Z M cn sn pc L (.int b :: .int a :: st) :=
  fun H locs ls h1 h2 h3 h4 => lv_icmp_gt G.1 G.2.1 hd ht (fun q => kt q H locs ls h1 h2 h3 h4) (fun q => kf q H locs ls h1 h2 h3 h4)
theorem v_ic_le {a b : Int32} {o : Int} (t : Nat) (G : ok_ X Z y cc nL d mc ms) (hd : decode cc pc = .ok (.if_icmp .le o, 3)) (ht : (pc : Int) + o = (t : Int)) (kt : a ≤ b → V X Z M cn sn t L st) (kf : ¬ a ≤ b → V X Z M cn sn (pc + 3) L st) : V X Z M cn sn pc L (.int b :: .int a :: st) :=
  fun H locs ls h1 h2 h3 h4 => lv_icmp_le G.1 G.2.1 hd ht (fun q => kt q H locs ls h1 h2 h3 h4) (fun q => kf q H locs ls h1 h2 h3 h4)
theorem v_nullF {o : Int} {a : Nat} (G : ok_ X Z y cc nL d mc ms) (hd : decode cc pc = .ok (.ifnull o, 3)) (k : V X Z M cn sn (pc + 3) L st) : V X Z M cn sn pc L (.ref a :: st) :=
  fun H locs ls h1 h2 h3 h4 => lv_ifnull G.1 G.2.1 hd (k H locs ls h1 h2 h3 h4)
theorem v_nullT {o : Int} (t : Nat) (G : ok_ X Z y cc nL d mc ms) (hd : decode cc pc = .ok (.ifnull o, 3)) (ht : (pc : Int) + o = (t : Int)) (k : V X Z M cn sn t L st) : V X Z M cn sn pc L (.null :: st) :=
  fun H locs ls h1 h2 h3 h4 => lv_ifnullN G.1 G.2.1 hd ht (k H locs ls h1 h2 h3 h4)
theorem v_tabI {dflt lo hi off : Int} {offs : Array Int} {len : Nat} {a : Int32} (t : Nat) (G : ok_ X Z y cc nL d mc ms) (hd : decode cc pc = .ok (.tableswitch dflt lo hi offs, len)) (hp1 : ¬ a.toInt < lo) (hp2 : ¬ hi < a.toInt) (ho : offs[(a.toInt - lo).toNat]? = some off) (ht : (pc : Int) + off = (t : Int)) (k : V X Z M cn sn t L st) : V X Z M cn sn pc L (.int a :: st) :=
  fun H locs ls h1 h2 h3 h4 => lv_tableIn G.1 G.2.1 hd hp1 hp2 ho ht (k H locs ls h1 h2 h3 h4)
theorem v_tabO {dflt lo hi : Int} {offs : Array Int} {len : Nat} {a : Int32} (t : Nat) (G : ok_ X Z y cc nL d mc ms) (hd : decode cc pc = .ok (.tableswitch dflt lo hi offs, len)) (hp : a.toInt < lo ∨ hi < a.toInt) (ht : (pc : Int) + dflt = (t : Int)) (k : V X Z M cn sn t L st) : V X Z M cn sn pc L (.int a :: st) :=
  fun H locs ls h1 h2 h3 h4 => lv_tableOut G.1 G.2.1 hd hp ht (k H locs ls h1 h2 h3 h4)
theorem v_look {dflt off : Int} {ps : Array (Int × Int)} {len : Nat} {a : Int32} (t : Nat) (G : ok_ X Z y cc nL d mc ms) (hd : decode cc pc = .ok (.lookupswitch dflt ps, len)) (hp : (ps.toList.zip (ps.toList.drop 1)).all (fun (a, next) => a.1 < next.1) = true) (ho : Op.lookupswitch.offset ps.toList dflt a.toInt = off) (ht : (pc : Int) + off = (t : Int)) (k : V X Z M cn sn t L st) : V X Z M cn sn pc L (.int a :: st) :=
  fun H locs ls h1 h2 h3 h4 => lv_lookup G.1 G.2.1 hd hp ho ht (k H locs ls h1 h2 h3 h4)
theorem i32_ne {x c : Int32} (h : ¬ x = c) : x.toInt ≠ c.toInt := fun e => h (Int32.toInt_inj.mp e)
end RL1
