/-! ===== THE LAW, from its entry: the machine's side done; what is left is a question about the shallow functions (law_ok) ===== -/
theorem tt_in {w : Cond} (h : w ∈ TT) : w ∈ lw_tbl := (List.mem_filter.mp h).1
theorem kn_ {ci : Nat} {C : String} {T : u_T} {N : Nat} {ty : Nat → FieldType} (B : cls_ ci C T N ty) {args : Array Value} {s : State} (hts : ∀ w ∈ lw_tbl, w.before args s = true) : ∃ (cC : ClassId) (iS : Nat → Nat), u_Kn s C T N cC iS :=
  u_known hts (fun w h => tt_in (B.2.2.1 w h)) (hts _ (tt_in B.2.2.2.2.2.2.1))
theorem arrI {args : Array Value} {s : State} {t : FieldType} (h : (Cond.arrayClass t).before args s = true) : ∃ cA : ClassId, ArrOfT s cA t ∧ s.vm.findClass ("[" ++ t.toString) = some cA := by
  obtain ⟨cA, kA, comp, f1, f2, f3⟩ := Cond.arrayClass_spec h
  exact ⟨cA, fun n z => ⟨fun k h => (by cases h), kA, f2, comp, f3⟩, f1⟩
theorem arrO {args : Array Value} {s : State} {C : String} (h : (Cond.arrayOver (.object C)).before args s = true) : ∃ cA : ClassId, ArrOfT s cA (.object C) ∧ va_RA s cA (.object C) := by
  obtain ⟨comp, cA, kA, g1, -, g3, g4, g5⟩ := Cond.arrayOver_spec h
  exact ⟨cA, fun n z => ⟨fun k h => (by cases h), kA, g3, comp, g4⟩, kA, comp, g3, g4, g1, g5⟩
set_option maxHeartbeats 4000000 in
set_option maxRecDepth 100000 in
theorem whole_start {p : Program} {e : Env} {s : State} {m : MethodId} {below : List Frame} {meth : Method} {c : Code} (l : Launch) {b L : Nat} {xs : Nat → Int32} (hL : L ≤ 384) (C0 : lw_At p s m meth c b L xs) : W p l e room_1 s m #[Value.ref b] below meth c s.heap [] 0 0 (lw_Z below #[Value.ref b] s) (entryFrame m ([Value.ref b] : List Value).toArray 4) := by
  obtain ⟨hx, hb, hr, hml, hown, hts, hX, hbl, hlocks, hgv⟩ := C0
  have hA : ∀ a : Nat, a < s.heap.size → ¬ (fun q : Nat => s.heap.size ≤ q) a := fun a h => Nat.not_le.mpr h
  have hs := flat_of_before _ hgv
  obtain ⟨c0, i0, k0⟩ := kn_ cl0 hts
  obtain ⟨c1, i1, k1⟩ := kn_ cl1 hts
  obtain ⟨c2, i2, k2⟩ := kn_ cl2 hts
  obtain ⟨c3, i3, k3⟩ := kn_ cl3 hts
  obtain ⟨c4, i4, k4⟩ := kn_ cl4 hts
  obtain ⟨c5, i5, k5⟩ := kn_ cl5 hts
  obtain ⟨c6, i6, k6⟩ := kn_ cl6 hts
  obtain ⟨c7, i7, k7⟩ := kn_ cl7 hts
  obtain ⟨cI, aI, rI⟩ := arrI (t := .int) (hts (.arrayClass .int) (by decide +kernel))
  obtain ⟨cZ, aZ, rZ⟩ := arrI (t := .boolean) (hts (.arrayClass .boolean) (by decide +kernel))
  have o4 := hts (.arrayOver (.object RX4)) (by decide +kernel)
  have o5 := hts (.arrayOver (.object RX5)) (by decide +kernel)
  obtain ⟨cR, aR, rR⟩ := arrO o4
  obtain ⟨cS, aS, rS⟩ := arrO o5
  obtain ⟨t0, v0, T0⟩ := va_Tof (tm := .static RX1 "SIZE_BODIES" "[I") (ty := .int) (N := 6) (f := fun j => .int (tb_s j)) (A := fun q => s.heap.size ≤ q) (by decide) (hs _ (by decide +kernel)) (va_eqt (hs (.eq (.length (.static RX1 "SIZE_BODIES" "[I")) (.int 6)) (by decide +kernel))) (fun j hj => by
    rcases (show j = 0 ∨ j = 1 ∨ j = 2 ∨ j = 3 ∨ j = 4 ∨ j = 5 by omega) with rfl | rfl | rfl | rfl | rfl | rfl <;> exact va_eqt (hs _ (by decide +kernel))) hA
  obtain ⟨t1, v1, T1⟩ := va_Tof (tm := .static RX1 "MARK_BODIES" "[I") (ty := .int) (N := 6) (f := fun j => .int (tb_m j)) (A := fun q => s.heap.size ≤ q) (by decide) (hs _ (by decide +kernel)) (va_eqt (hs (.eq (.length (.static RX1 "MARK_BODIES" "[I")) (.int 6)) (by decide +kernel))) (fun j hj => by
    rcases (show j = 0 ∨ j = 1 ∨ j = 2 ∨ j = 3 ∨ j = 4 ∨ j = 5 by omega) with rfl | rfl | rfl | rfl | rfl | rfl <;> exact va_eqt (hs _ (by decide +kernel))) hA
  have z0 := va_Zof (A := fun q => s.heap.size ≤ q) (hts (.laysStatic RX1 "SIZE_BODIES" "[I") (by decide +kernel)) (hts (.initialized RX1) (by decide +kernel)) v0 hA
  have z1 := va_Zof (A := fun q => s.heap.size ≤ q) (hts (.laysStatic RX1 "MARK_BODIES" "[I") (by decide +kernel)) (hts (.initialized RX1) (by decide +kernel)) v1 hA
  have T2 : va_T .int b L (fun j => .int (xs j)) (fun q => s.heap.size ≤ q) s s.heap := by
    obtain ⟨scr, g1, g2, g3, g4, g5⟩ := hX
    exact ⟨scr, g1, g2, g3, by omega, by rw [g4], g5, Nat.not_le.mpr hbl⟩
  obtain ⟨Z, hZ⟩ : ∃ Z : zZ, Z = (l, ((fun k => [c0, c1, c2, c3, c4, c5, c6, c7].getD k c0, fun k => [i0, i1, i2, i3, i4, i5, i6, i7].getD k i0) : va_G), (cI, cZ, cR, cS), s.heap.size, (fun u => if u = 0 then t0 else if u = 1 then t1 else b), L, xs) := ⟨_, rfl⟩
  have hKK : KK Z s := by
    subst hZ
    refine ⟨⟨fun c q hq => ?_, fun k q hq => ?_⟩, fun w hw => ?_, va_AO.of o4, va_AO.of o5, z0, z1, fun u n f hu => ?_⟩
    · match c, hq with
      | 0, hq => cases hq; exact k0
      | 1, hq => cases hq; exact k1
      | 2, hq => cases hq; exact k2
      | 3, hq => cases hq; exact k3
      | 4, hq => cases hq; exact k4
      | 5, hq => cases hq; exact k5
      | 6, hq => cases hq; exact k6
      | 7, hq => cases hq; exact k7
      | c + 8, hq => simp [vwCl] at hq
    · match k, hq with
      | 0, hq => cases hq; exact ⟨aI, rI⟩
      | 1, hq => cases hq; exact ⟨aZ, rZ⟩
      | 2, hq => cases hq; exact ⟨aR, rR⟩
      | 3, hq => cases hq; exact ⟨aS, rS⟩
      | k + 4, hq => simp [ty_] at hq
    · have hf := List.mem_filter.mp hw
      have hh := hts w hf.1
      cases w with
      | methodLinkNest a i x h => exact va_Nw.of rfl hh
      | _ => simp [ne_w] at hf
    · unfold xa at hu
      by_cases u0 : u = 0
      · subst u0
        cases hu
        exact T0
      · rw [if_neg u0] at hu
        by_cases u1 : u = 1
        · subst u1
          cases hu
          exact T1
        · rw [if_neg u1] at hu
          by_cases u2 : u = 2
          · subst u2
            cases hu
            exact T2
          · rw [if_neg u2] at hu
            cases hu
  have hZl : zl Z = l := by rw [hZ]
  have hZB : zB Z = s.heap.size := by rw [hZ]
  have hZL : zL Z = L := by rw [hZ]
  have hZb : zE Z 2 = b := by rw [hZ]; rfl
  obtain ⟨X, hX'⟩ : ∃ X : xX, X = (p, e, room_1, s, m, #[Value.ref b], below, meth, c, lw_Z below #[Value.ref b] s) := ⟨_, rfl⟩
  have G : ok_ X Z yL_law cL_law 4 24 246 5494 := by
    subst hX'
    exact ⟨hx, hb, hml, hown, fun w hw => hts w (tt_in hw), hKK, by rw [hZB]; exact Nat.le_refl _, ⟨Nat.le_of_ble_eq_true rfl, Nat.le_of_ble_eq_true rfl, Nat.le_of_ble_eq_true rfl, Nat.le_of_ble_eq_true rfl⟩, fun h => absurd h (by decide)⟩
  obtain ⟨N, hN⟩ := law_ok Z (by rw [hZL]; exact hL)
  have hV : V X Z ME 0 0 0 [some (.float 2), none, none, none] [] := by
    refine v_new G cl6 dL_law_0 w69 (Nat.le_of_ble_eq_true rfl) (Nat.le_of_ble_eq_true rfl) ?_
    refine v_dup G dL_law_3 rfl ?_
    refine v_callI (As := []) (e_X6_init mB_ok) G my_X6_init rfl w72 w71 dL_law_4 rfl (Nat.le_of_ble_eq_true rfl) rfl (Nat.le_of_ble_eq_true rfl) (Nat.le_of_ble_eq_true rfl) (Nat.le_of_ble_eq_true rfl) ?_
    refine v_astore_n [some (.float 2), some (.ref 0), none, none] G dL_law_7 (Nat.le_of_ble_eq_true rfl) rfl rfl ?_
    refine v_new G cl7 dL_law_8 w833 (Nat.le_of_ble_eq_true rfl) (Nat.le_of_ble_eq_true rfl) ?_
    refine v_dup G dL_law_11 rfl ?_
    rw [mB_z]
    refine v_callI (As := []) (e_X7_init mD_ok) G my_X7_init rfl w836 w835 dL_law_12 rfl (Nat.le_of_ble_eq_true rfl) rfl (Nat.le_of_ble_eq_true rfl) (Nat.le_of_ble_eq_true rfl) (Nat.le_of_ble_eq_true rfl) ?_
    refine v_astore_n [some (.float 2), some (.ref 0), some (.ref 231), none] G dL_law_15 (Nat.le_of_ble_eq_true rfl) rfl rfl ?_
    refine v_iconst G (0 : Int32) dL_law_16 (by decide) ?_
    refine v_istore_n [some (.float 2), some (.ref 0), some (.ref 231), some (.int (0 : Int32))] G dL_law_17 (Nat.le_of_ble_eq_true rfl) rfl rfl ?_
    refine e_L_law_L18 G (Nat.le_of_ble_eq_true rfl) (Nat.le_of_ble_eq_true rfl) 0 231 (fun N' hN' => ?_) FU M0 0 hN
    intro H locs ls h1 h2 h3 h4
    subst hX'
    rw [hZl]
    refine lv_iconst (v := 1) hx hb dL_law_1475 (by decide) ?_
    refine va_forget (fun q hq => ?_) ?_
    · have := h3.2.2 q hq
      unfold zA at this
      rw [hZB] at this
      exact this
    refine W.widen (k := 600000) (n := 7302250) (Nat.le_of_ble_eq_true rfl) (Nat.le_of_ble_eq_true rfl) ?_
    exact lw_ret hx hb hr hlocks dL_law_1476
  have hl := lv_entry ([.ref b]) (n := 4) (Nat.le_of_ble_eq_true rfl)
  rw [lg_entry_eq]
  subst hX'
  have := hV s.heap [] ((lg_sl [Value.ref b] ++ List.replicate (4 - (lg_sl [Value.ref b]).length) Slot.unset).toArray) (by rw [hZB]; rfl) (fun k q h => absurd (ws_some h).1 (Nat.not_lt_zero _)) va_S.rf ⟨hl.1, hl.2.1, fun i v hi => ?_⟩
  · rw [hZl] at this
    exact this
  · match i, hi with
    | 0, hi =>
      cases hi
      rw [cv, hZb]
      rfl
    | 1, hi => cases hi
    | 2, hi => cases hi
    | 3, hi => cases hi
