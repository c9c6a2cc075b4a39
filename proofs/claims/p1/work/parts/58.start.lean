section ZStart
theorem zT_of {s : State} {args : Array Value} (hts : ∀ w ∈ lw_tbl, w.before args s = true) {c7 : ClassId} (h7 : s.vm.findClass RX7 = some c7) : zT s := by
  refine ⟨?_, ?_, ?_, ?_, ?_⟩
  · intro q hq
    have key : ∀ (k : Nat) (tx : String), (Cond.stringRef RX7 k tx).before args s = true → ∃ a, vk_R RX7 k tx a s := by
      intro k tx h1
      obtain ⟨-, -, -, a, -, -, -, -, -, hev⟩ := Cond.stringRef_spec h7 h1
      exact ⟨a, vk_R.of h1 hev⟩
    simp only [zStr, List.mem_cons, List.not_mem_nil, or_false] at hq
    rcases hq with rfl | rfl | rfl | rfl | rfl | rfl | rfl | rfl
    · exact key _ _ (hts (.stringRef RX7 170 "no such variant") (List.mem_of_getElem? (i := 507) (by decide +kernel)))
    · exact key _ _ (hts (.stringRef RX7 54 "no such panel") (List.mem_of_getElem? (i := 373) (by decide +kernel)))
    · exact key _ _ (hts (.stringRef RX7 186 "no such station") (List.mem_of_getElem? (i := 592) (by decide +kernel)))
    · exact key _ _ (hts (.stringRef RX7 181 "no such robot") (List.mem_of_getElem? (i := 686) (by decide +kernel)))
    · exact key _ _ (hts (.stringRef RX7 192 "no such body") (List.mem_of_getElem? (i := 1039) (by decide +kernel)))
    · exact key _ _ (hts (.stringRef RX7 168 "no such place") (List.mem_of_getElem? (i := 690) (by decide +kernel)))
    · exact key _ _ (hts (.stringRef RX7 289 "no stations") (List.mem_of_getElem? (i := 963) (by decide +kernel)))
    · exact key _ _ (hts (.stringRef RX7 430 "none is off the line") (List.mem_of_getElem? (i := 1166) (by decide +kernel)))
  · intro q hq
    simp only [zExc, List.mem_cons, List.not_mem_nil, or_false] at hq
    rcases hq with rfl | rfl | rfl | rfl
    · exact va_Nw.of rfl (hts (.castable "java/lang/IndexOutOfBoundsException" "java/lang/IndexOutOfBoundsException") (List.mem_of_getElem? (i := 332) (by decide +kernel)))
    · exact va_Nw.of rfl (hts (.castable "java/lang/UnsupportedOperationException" "java/lang/UnsupportedOperationException") (List.mem_of_getElem? (i := 452) (by decide +kernel)))
    · exact va_Nw.of rfl (hts (.castable "java/util/NoSuchElementException" "java/util/NoSuchElementException") (List.mem_of_getElem? (i := 1010) (by decide +kernel)))
    · exact va_Nw.of rfl (hts (.castable "java/lang/IllegalArgumentException" "java/lang/IllegalArgumentException") (List.mem_of_getElem? (i := 432) (by decide +kernel)))
  · intro q hq
    simp only [zDec, List.mem_cons, List.not_mem_nil, or_false] at hq
    rcases hq with rfl | rfl | rfl
    · exact va_Nw.of rfl (hts (.declares ⟨"java/lang/RuntimeException", "<init>", "(Ljava/lang/String;)V"⟩) (List.mem_of_getElem? (i := 334) (by decide +kernel)))
    · exact va_Nw.of rfl (hts (.declares ⟨"java/lang/Exception", "<init>", "(Ljava/lang/String;)V"⟩) (List.mem_of_getElem? (i := 336) (by decide +kernel)))
    · exact va_Nw.of rfl (hts (.declares ⟨"java/lang/Throwable", "<init>", "(Ljava/lang/String;)V"⟩) (List.mem_of_getElem? (i := 338) (by decide +kernel)))
  · intro q hq
    simp only [zRow, List.mem_cons, List.not_mem_nil, or_false] at hq
    rcases hq with rfl | rfl | rfl | rfl | rfl
    · exact va_AO.of (hts (.arrayOver (.object RX0)) (List.mem_of_getElem? (i := 125) (by decide +kernel)))
    · exact va_AO.of (hts (.arrayOver (.object RX3)) (List.mem_of_getElem? (i := 123) (by decide +kernel)))
    · exact va_AO.of (hts (.arrayOver (.object RX4)) (List.mem_of_getElem? (i := 119) (by decide +kernel)))
    · exact va_AO.of (hts (.arrayOver (.object RX5)) (List.mem_of_getElem? (i := 121) (by decide +kernel)))
    · exact va_AO.of (hts (.arrayOver (.object RX6)) (List.mem_of_getElem? (i := 133) (by decide +kernel)))
  · exact ⟨va_Fw.of (hts (.declares ⟨"java/util/List", "size", "()I"⟩) (List.mem_of_getElem? (i := 1272) (by decide +kernel))) (hts (.interfaceMethod "java/util/List" "java/util/List" "size" "()I") (List.mem_of_getElem? (i := 1271) (by decide +kernel))) (hts (.publicMethod yJx4a65c_size_8abf5) (List.mem_of_getElem? (i := 1276) (by decide +kernel))) (hts (.unhidden RJx4a65c "size" "()I") (List.mem_of_getElem? (i := 1274) (by decide +kernel))) (hts (.castable RJx4a65c "java/util/List") (List.mem_of_getElem? (i := 1260) (by decide +kernel))), va_Fw.of (hts (.declares ⟨"java/util/List", "isEmpty", "()Z"⟩) (List.mem_of_getElem? (i := 1259) (by decide +kernel))) (hts (.interfaceMethod "java/util/List" "java/util/List" "isEmpty" "()Z") (List.mem_of_getElem? (i := 1258) (by decide +kernel))) (hts (.publicMethod yJx4a65c_isEmpty_aae02) (List.mem_of_getElem? (i := 1264) (by decide +kernel))) (hts (.unhidden RJx4a65c "isEmpty" "()Z") (List.mem_of_getElem? (i := 1262) (by decide +kernel))) (hts (.castable RJx4a65c "java/util/List") (List.mem_of_getElem? (i := 1260) (by decide +kernel))), va_Fw.of (hts (.declares ⟨"java/util/List", "iterator", "()Ljava/util/Iterator;"⟩) (List.mem_of_getElem? (i := 1445) (by decide +kernel))) (hts (.interfaceMethod "java/util/List" "java/util/List" "iterator" "()Ljava/util/Iterator;") (List.mem_of_getElem? (i := 1444) (by decide +kernel))) (hts (.publicMethod yJx4a65c_iterator_32c93) (List.mem_of_getElem? (i := 1449) (by decide +kernel))) (hts (.unhidden RJx4a65c "iterator" "()Ljava/util/Iterator;") (List.mem_of_getElem? (i := 1447) (by decide +kernel))) (hts (.castable RJx4a65c "java/util/List") (List.mem_of_getElem? (i := 1260) (by decide +kernel))), va_Fw.of (hts (.declares ⟨"java/util/List", "add", "(Ljava/lang/Object;)Z"⟩) (List.mem_of_getElem? (i := 1308) (by decide +kernel))) (hts (.interfaceMethod "java/util/List" "java/util/List" "add" "(Ljava/lang/Object;)Z") (List.mem_of_getElem? (i := 1307) (by decide +kernel))) (hts (.publicMethod yJx4a65c_add_9ea2d) (List.mem_of_getElem? (i := 1312) (by decide +kernel))) (hts (.unhidden RJx4a65c "add" "(Ljava/lang/Object;)Z") (List.mem_of_getElem? (i := 1310) (by decide +kernel))) (hts (.castable RJx4a65c "java/util/List") (List.mem_of_getElem? (i := 1260) (by decide +kernel))), va_Fw.of (hts (.declares ⟨"java/util/Iterator", "hasNext", "()Z"⟩) (List.mem_of_getElem? (i := 1473) (by decide +kernel))) (hts (.interfaceMethod "java/util/Iterator" "java/util/Iterator" "hasNext" "()Z") (List.mem_of_getElem? (i := 1472) (by decide +kernel))) (hts (.publicMethod yJx35411_hasNext_aae02) (List.mem_of_getElem? (i := 1478) (by decide +kernel))) (hts (.unhidden RJx35411 "hasNext" "()Z") (List.mem_of_getElem? (i := 1476) (by decide +kernel))) (hts (.castable RJx35411 "java/util/Iterator") (List.mem_of_getElem? (i := 1474) (by decide +kernel))), va_Nw.of rfl (hts (.fieldLinkNest RJx35411 28 "java/util/ArrayList" "size" "I" "java/util/ArrayList") (List.mem_of_getElem? (i := 1210) (by decide +kernel))), va_Nw.of rfl (hts (.methodLinkNest RX12 109 yX11_init "SpotbeatModel") (List.mem_of_getElem? (i := 1518) (by decide +kernel)))⟩
/-- the empty row of new lists -/
theorem zD_of {s : State} {args : Array Value} {A : Nat → Prop} (hts : ∀ w ∈ lw_tbl, w.before args s = true) (hgv : (Jvm.Cond.and given_1 narrow_1).before args s = true) (hA : ∀ a : Nat, a < s.heap.size → ¬ A a) : ∃ e0, zD e0 A s s.heap := by
  have hf := flat_of_before _ hgv
  have h1 : (Cond.arrayOf (Term.static "java/util/ArrayList" "DEFAULTCAPACITY_EMPTY_ELEMENTDATA" "[Ljava/lang/Object;") (.object "java/lang/Object")).before args s = true := hf _ (by decide +kernel)
  have h2 : (Cond.eq (.length (Term.static "java/util/ArrayList" "DEFAULTCAPACITY_EMPTY_ELEMENTDATA" "[Ljava/lang/Object;")) (.int 0)).before args s = true := hf _ (by decide +kernel)
  have hlen : (Term.length (Term.static "java/util/ArrayList" "DEFAULTCAPACITY_EMPTY_ELEMENTDATA" "[Ljava/lang/Object;")).eval args s none [] s = some (.int (Int32.ofNat 0)) := by
    obtain ⟨w, e1, e2⟩ := Cond.eq_one h2
    cases e2
    exact e1
  obtain ⟨t, ht, hT⟩ := va_Tof (N := 0) (f := fun _ => .null) (by decide) h1 hlen (fun j hj => absurd hj (by omega)) hA
  exact ⟨t, va_Zof (hts (.laysStatic "java/util/ArrayList" "DEFAULTCAPACITY_EMPTY_ELEMENTDATA" "[Ljava/lang/Object;") (List.mem_of_getElem? (i := 1207) (by decide +kernel))) (hts (.initialized "java/util/ArrayList") (List.mem_of_getElem? (i := 78) (by decide +kernel))) ht hA, hT⟩
theorem zE_of {s : State} {args : Array Value} {A : Nat → Prop} (hts : ∀ w ∈ lw_tbl, w.before args s = true) (hgv : (Jvm.Cond.and given_1 narrow_1).before args s = true) {c7 : ClassId} (h7 : s.vm.findClass RX7 = some c7) (hA : ∀ a : Nat, a < s.heap.size → ¬ A a) : zE A s s.heap := by
  have hf := flat_of_before _ hgv
  exact ⟨vx_Zqof (hts (.laysStatic "java/lang/Throwable" "UNASSIGNED_STACK" "[Ljava/lang/StackTraceElement;") (List.mem_of_getElem? (i := 357) (by decide +kernel))) (hts (.initialized "java/lang/Throwable") (List.mem_of_getElem? (i := 79) (by decide +kernel))) (hf _ (by decide +kernel)) hA, vx_Zqof (hts (.laysStatic "java/lang/Throwable" "SUPPRESSED_SENTINEL" "Ljava/util/List;") (List.mem_of_getElem? (i := 359) (by decide +kernel))) (hts (.initialized "java/lang/Throwable") (List.mem_of_getElem? (i := 79) (by decide +kernel))) (hf _ (by decide +kernel)) hA, zT_of hts h7⟩
/-- the text, the cache of boxes -/
theorem zM_of {s : State} {args : Array Value} {A : Nat → Prop} (hts : ∀ w ∈ lw_tbl, w.before args s = true) (hgv : (Jvm.Cond.and given_1 narrow_1).before args s = true) {c11 : ClassId} (h11 : s.vm.findClass RX11 = some c11) (hA : ∀ a : Nat, a < s.heap.size → ¬ A a) : ∃ ad, zM ad A s s.heap := by
  have hf := flat_of_before _ hgv
  have hsr := (hts (.stringRef RX11 18 "sebw") (List.mem_of_getElem? (i := 1524) (by decide +kernel)))
  obtain ⟨-, -, -, a4, -, -, -, -, -, hev⟩ := Cond.stringRef_spec h11 hsr
  have h4 : vk_R RX11 18 "sebw" a4 s := vk_R.of hsr hev
  have hex : (Cond.exactly (Term.string RX11 18) "java/lang/String").before args s = true := hf _ (by decide +kernel)
  have hco : (Cond.eq (.field (Term.string RX11 18) "java/lang/String" "coder" "B") (.int 0)).before args s = true := hf _ (by decide +kernel)
  have har : (Cond.arrayOf (Term.field (Term.string RX11 18) "java/lang/String" "value" "[B") .byte).before args s = true := hf _ (by decide +kernel)
  have hle : (Cond.eq (.length (Term.field (Term.string RX11 18) "java/lang/String" "value" "[B")) (.int (Int32.ofNat 4))).before args s = true := hf _ (by decide +kernel)
  have hel : ∀ j : Nat, j < 4 → (Cond.eq (.elem (Term.field (Term.string RX11 18) "java/lang/String" "value" "[B") (.int (Int32.ofNat j))) (.int (([[115, 101, 98, 119]].getD 0 []).getD j 0))).before args s = true := fun j hj => by
    match j, hj with
    | 0, _ => exact hf _ (by decide +kernel)
    | 1, _ => exact hf _ (by decide +kernel)
    | 2, _ => exact hf _ (by decide +kernel)
    | 3, _ => exact hf _ (by decide +kernel)
    | j + 4, hj => exact absurd hj (by omega)
  obtain ⟨a, cell, cA, kA, q1, q2, q3, q4, q5, q6, -⟩ := Cond.exactly_spec (args := args) (first := s) (o := none) (s := s) (idx := []) (t := (Term.string RX11 18)) (cls := "java/lang/String") hex
  have e9 : a4 = a := by cases hev.symm.trans q1; rfl
  subst e9
  obtain ⟨v4, hv4, hT4⟩ := va_Tof (N := 4) (f := fun j => .int (([[115, 101, 98, 119]].getD 0 []).getD j 0)) (A := A) (by decide) har (va_eqt hle) (fun j hj => va_eqt (hel j hj)) hA
  have hO4 : va_O "java/lang/String" a4 A s s.heap := ⟨cA, q3, q5, by rw [q6]; exact q2, hA a4 (Array.getElem?_eq_some_iff.mp q3).1⟩
  have hC4 : va_OF "java/lang/String" "coder" "B" (.int 0) a4 A s s.heap := vk_OFof q1 (va_eqt hco) hA
  have hV4 : va_OF "java/lang/String" "value" "[B" (.ref v4) a4 A s s.heap := vk_OFof q1 hv4 hA
  have hlen : (Term.length (Term.static "java/lang/Integer$IntegerCache" "cache" "[Ljava/lang/Integer;")).eval args s none [] s = some (.int (Int32.ofNat 256)) := va_eqt (hf _ (by decide +kernel))
  have hall : (Cond.all (Term.static "java/lang/Integer$IntegerCache" "cache" "[Ljava/lang/Integer;") (.and (.exactly (.elem (Term.static "java/lang/Integer$IntegerCache" "cache" "[Ljava/lang/Integer;") (.index 0)) "java/lang/Integer") (.eq (.field (.elem (Term.static "java/lang/Integer$IntegerCache" "cache" "[Ljava/lang/Integer;") (.index 0)) "java/lang/Integer" "value" "I") (.sub (.index 0) (.int 128))))).before args s = true := hf _ (by decide +kernel)
  obtain ⟨ad, hB, hel2⟩ := vb_Cof (A := A) rfl hlen hall hA
  have hx : ∃ ad2 : Nat → Nat, (∀ j, j < 256 → ad2 j = ad j) ∧ ad2 256 = a4 ∧ ad2 257 = v4 ∧ ∃ z, ad2 258 = z ∧ (Term.static "java/lang/Integer$IntegerCache" "cache" "[Ljava/lang/Integer;").eval args s none [] s = some (.ref z) ∧ va_T (.object "java/lang/Integer") z 256 (fun j => .ref (ad2 j)) A s s.heap := by
    have hor : (Cond.arrayOf (Term.static "java/lang/Integer$IntegerCache" "cache" "[Ljava/lang/Integer;") (.object "java/lang/Integer")).before args s = true := hf _ (by decide +kernel)
    obtain ⟨z0, hz0, -⟩ := va_Tof (N := 256) (f := fun j => .ref (ad j)) (A := A) (by decide) hor hlen hel2 hA
    refine ⟨fun k => if k < 256 then ad k else if k = 256 then a4 else if k = 257 then v4 else z0, fun j hj => if_pos hj, rfl, rfl, ?_⟩
    obtain ⟨z, hz, hT⟩ := va_Tof (N := 256) (f := fun j => .ref (if j < 256 then ad j else if j = 256 then a4 else if j = 257 then v4 else z0)) (A := A) (by decide) hor hlen (fun j hj => by rw [hel2 j hj, if_pos hj]) hA
    cases hz0.symm.trans hz
    exact ⟨z0, rfl, hz, hT⟩
  obtain ⟨ad2, e1, e2, e3, z, e4, hz, hT⟩ := hx
  refine ⟨ad2, ?_⟩
  unfold zM
  rw [e2, e3, e4, e1 127 (by decide)]
  refine ⟨h4, hO4, hC4, hV4, hT4, va_Zof (hts (.laysStatic "java/lang/String" "COMPACT_STRINGS" "Z") (List.mem_of_getElem? (i := 1534) (by decide +kernel))) (hts (.initialized "java/lang/String") (List.mem_of_getElem? (i := 101) (by decide +kernel))) (va_eqi (hf _ (by decide +kernel))) hA, va_Zof (hts (.laysStatic "java/lang/Integer$IntegerCache" "high" "I") (List.mem_of_getElem? (i := 1289) (by decide +kernel))) (hts (.initialized "java/lang/Integer$IntegerCache") (List.mem_of_getElem? (i := 86) (by decide +kernel))) (va_eqi (hf _ (by decide +kernel))) hA, va_Zof (hts (.laysStatic "java/lang/Integer$IntegerCache" "cache" "[Ljava/lang/Integer;") (List.mem_of_getElem? (i := 1291) (by decide +kernel))) (hts (.initialized "java/lang/Integer$IntegerCache") (List.mem_of_getElem? (i := 86) (by decide +kernel))) hz hA, hT, hB.1 127 (by decide), va_AO.of (hts (.arrayOver (.object "java/lang/Object")) (List.mem_of_getElem? (i := 1366) (by decide +kernel))), ?_⟩
  intro C hC
  simp only [zCas, List.mem_cons, List.not_mem_nil, or_false] at hC
  rcases hC with rfl | rfl | rfl
  · exact va_Nw.of rfl (hts (.castable RJ6 "java/lang/Object") (List.mem_of_getElem? (i := 1991) (by decide +kernel)))
  · exact va_Nw.of rfl (hts (.castable RX11 "java/lang/Object") (List.mem_of_getElem? (i := 2003) (by decide +kernel)))
  · exact va_Nw.of rfl (hts (.castable RX8 "java/lang/Object") (List.mem_of_getElem? (i := 2005) (by decide +kernel)))
theorem zK_of {s : State} {args : Array Value} (hts : ∀ w ∈ lw_tbl, w.before args s = true) : ∃ (dC : Nat → ClassId) (dI : Nat → Nat → Nat), va_K (dC, dI) vwCl [] s := by
  obtain ⟨c0, i0, hKn0⟩ := u_known (C := RJ6) (T := TJ6) (N := 1) (n := 1) hts ztcJ6 (hts (.instantiable RJ6 1) (List.mem_of_getElem? (i := 1293) (by decide +kernel)))
  obtain ⟨c1, i1, hKn1⟩ := u_known (C := RJx35411) (T := TJx35411) (N := 4) (n := 4) hts ztcJx35411 (hts (.instantiable RJx35411 4) (List.mem_of_getElem? (i := 1452) (by decide +kernel)))
  obtain ⟨c2, i2, hKn2⟩ := u_known (C := RJx4a65c) (T := TJx4a65c) (N := 3) (n := 3) hts ztcJx4a65c (hts (.instantiable RJx4a65c 3) (List.mem_of_getElem? (i := 1195) (by decide +kernel)))
  obtain ⟨c3, i3, hKn3⟩ := u_known (C := RX0) (T := TX0) (N := 5) (n := 5) hts ztcX0 (hts (.instantiable RX0 5) (List.mem_of_getElem? (i := 931) (by decide +kernel)))
  obtain ⟨c4, i4, hKn4⟩ := u_known (C := RX1) (T := TX1) (N := 6) (n := 6) hts ztcX1 (hts (.instantiable RX1 6) (List.mem_of_getElem? (i := 127) (by decide +kernel)))
  obtain ⟨c5, i5, hKn5⟩ := u_known (C := RX2) (T := TX2) (N := 4) (n := 4) hts ztcX2 (hts (.instantiable RX2 4) (List.mem_of_getElem? (i := 610) (by decide +kernel)))
  obtain ⟨c6, i6, hKn6⟩ := u_known (C := RX3) (T := TX3) (N := 11) (n := 11) hts ztcX3 (hts (.instantiable RX3 11) (List.mem_of_getElem? (i := 603) (by decide +kernel)))
  obtain ⟨c7, i7, hKn7⟩ := u_known (C := RX4) (T := TX4) (N := 6) (n := 6) hts ztcX4 (hts (.instantiable RX4 6) (List.mem_of_getElem? (i := 467) (by decide +kernel)))
  obtain ⟨c8, i8, hKn8⟩ := u_known (C := RX5) (T := TX5) (N := 12) (n := 12) hts ztcX5 (hts (.instantiable RX5 12) (List.mem_of_getElem? (i := 528) (by decide +kernel)))
  obtain ⟨c9, i9, hKn9⟩ := u_known (C := RX6) (T := TX6) (N := 6) (n := 6) hts ztcX6 (hts (.instantiable RX6 6) (List.mem_of_getElem? (i := 134) (by decide +kernel)))
  obtain ⟨c10, i10, hKn10⟩ := u_known (C := RX7) (T := TX7) (N := 12) (n := 12) hts ztcX7 (hts (.instantiable RX7 12) (List.mem_of_getElem? (i := 111) (by decide +kernel)))
  obtain ⟨c11, i11, hKn11⟩ := u_known (C := RX8) (T := TX8) (N := 4) (n := 4) hts ztcX8 (hts (.instantiable RX8 4) (List.mem_of_getElem? (i := 1731) (by decide +kernel)))
  obtain ⟨c12, i12, hKn12⟩ := u_known (C := RX9) (T := TX9) (N := 10) (n := 10) hts ztcX9 (hts (.instantiable RX9 10) (List.mem_of_getElem? (i := 1562) (by decide +kernel)))
  obtain ⟨c13, i13, hKn13⟩ := u_known (C := RX10) (T := TX10) (N := 6) (n := 6) hts ztcX10 (hts (.instantiable RX10 6) (List.mem_of_getElem? (i := 1406) (by decide +kernel)))
  obtain ⟨c14, i14, hKn14⟩ := u_known (C := RX11) (T := TX11) (N := 6) (n := 6) hts ztcX11 (hts (.instantiable RX11 6) (List.mem_of_getElem? (i := 1517) (by decide +kernel)))
  obtain ⟨c15, i15, hKn15⟩ := u_known (C := RX12) (T := TX12) (N := 8) (n := 8) hts ztcX12 (hts (.instantiable RX12 8) (List.mem_of_getElem? (i := 1189) (by decide +kernel)))
  refine ⟨fun k => [c0, c1, c2, c3, c4, c5, c6, c7, c8, c9, c10, c11, c12, c13, c14, c15].getD k 0, fun k => [i0, i1, i2, i3, i4, i5, i6, i7, i8, i9, i10, i11, i12, i13, i14, i15].getD k (fun _ => 0), ?_, fun k q h => (nomatch h)⟩
  intro k q hq
  match k, hq with
  | 0, hq => cases hq; exact hKn0
  | 1, hq => cases hq; exact hKn1
  | 2, hq => cases hq; exact hKn2
  | 3, hq => cases hq; exact hKn3
  | 4, hq => cases hq; exact hKn4
  | 5, hq => cases hq; exact hKn5
  | 6, hq => cases hq; exact hKn6
  | 7, hq => cases hq; exact hKn7
  | 8, hq => cases hq; exact hKn8
  | 9, hq => cases hq; exact hKn9
  | 10, hq => cases hq; exact hKn10
  | 11, hq => cases hq; exact hKn11
  | 12, hq => cases hq; exact hKn12
  | 13, hq => cases hq; exact hKn13
  | 14, hq => cases hq; exact hKn14
  | 15, hq => cases hq; exact hKn15
  | k + 16, hq => exact (nomatch hq)
set_option maxHeartbeats 4000000 in
set_option maxRecDepth 100000 in
/-- from the entry, for every script of at most 7 ints -/
theorem p1_start {p : Program} {e : Env} {s : State} {m : MethodId} {below : List Frame} {meth : Method} {c : Code} (l : Launch) (hflags : l.flags = flags0) {b L : Nat} {xs : Nat → Int32} (hL : L ≤ 7) (C0 : lw_At p s m meth c b L xs) : W p l e room_1 s m #[Value.ref b] below meth c s.heap [] 0 0 (lw_Z below #[Value.ref b] s) (entryFrame m ([Value.ref b] : List Value).toArray 9) := by
  obtain ⟨hx, hb, hr, hml, hown, hts, hX, hbl, hlocks, hgv⟩ := id C0
  have hst : l.stackTraces = false := by unfold Launch.stackTraces; rw [hflags]; decide
  have hAn : ∀ a : Nat, a < s.heap.size → ¬ (fun q : Nat => s.heap.size ≤ q) a := fun a h => Nat.not_le.mpr h
  have hA : ∀ q : Nat, s.heap.size ≤ q → (fun q : Nat => s.heap.size ≤ q) q := fun _ h => h
  have hbA : ¬ (fun q : Nat => s.heap.size ≤ q) b := Nat.not_le.mpr hbl
  obtain ⟨dC, dI, hK⟩ := zK_of hts
  have h7 : s.vm.findClass RX7 = some (dC 10) := (hK.1 10 _ rfl).2.1
  have hE : zE (fun q : Nat => s.heap.size ≤ q) s s.heap := zE_of hts hgv h7 hAn
  obtain ⟨e0, hZ⟩ := zD_of (A := fun q : Nat => s.heap.size ≤ q) hts hgv hAn
  obtain ⟨ad, hM⟩ := zM_of (A := fun q : Nat => s.heap.size ≤ q) hts hgv (hK.1 14 _ rfl).2.1 hAn
  have hS : va_S (fun q : Nat => s.heap.size ≤ q) s.heap s.heap [] := va_S.rf
  have hl := lv_entry ([.ref b]) (n := 9) (Nat.le_of_ble_eq_true rfl)
  rw [lg_entry_eq]
  generalize (lg_sl ([.ref b]) ++ List.replicate (9 - (lg_sl ([.ref b])).length) Slot.unset).toArray = ls at hl ⊢
  have hl : lv_has ls 9 [(0, .ref b)] := hl
  have hd0 := Drawn.sameBut.refl s.drawn lw_cs
  refine W.base ?_
  have hts1 : ∀ w ∈ zwL_law, w.before #[.ref b] (s.setDrawn s.drawn) = true := fun w hw => dr_words hts _ w (zt_L_law w hw)
  refine law_begin (s := s.setDrawn s.drawn) (xs := xs) (A := fun q : Nat => s.heap.size ≤ q) hst hx hb hml hown hts1 hA hE hZ hK zP_nil zD_nil hS hl ?_
  intro x ax kx mo lm th o od kO kD fo fd H locs ls hK hP hD hS hl
  have kend : ∀ (H : Heap) (locs : List Loc) (ls : Array Slot) (k n : Nat), k ≤ 38 → n ≤ 2578 → va_S (fun q : Nat => s.heap.size ≤ q) s.heap H locs → W p l e room_1 (s.setDrawn s.drawn) m #[Value.ref b] below meth c H locs k n (lw_Z below #[Value.ref b] s) (F0 m 2900 ls []) := by
    intro H locs ls k n hk hn hS
    refine lv_iconst (v := 1) hx hb dL_law_2900 (by decide) ?_
    refine va_forget (fun q hq => hS.2.2 q hq) ?_
    refine W.widen (k := 600002) (n := 7302232) (Nat.le_trans hk (Nat.le_of_ble_eq_true rfl)) (Nat.le_trans hn (Nat.le_of_ble_eq_true rfl)) ?_
    exact lw_ret hd0 hx hb hr hlocks dL_law_2901
  rcases Nat.lt_or_ge L 7 with hlt | hge
  · refine lv_iload hx hb dL_law_28 (lv_at hl 5 rfl) ?_
    refine lv_aload_n hx hb dL_law_30 rfl (lv_at hl 0 rfl) ?_
    refine va_slen hx hb hX hbl hbA hS dL_law_31 ?_
    refine lv_bipush (v := 7) hx hb dL_law_32 (by decide) ?_
    refine lv_isub hx hb dL_law_34 ?_
    have hneg : Int32.ofNat L - 7 < 0 := (by decide +kernel : ∀ q : Fin 7, Int32.ofNat q - 7 < 0) ⟨L, hlt⟩
    refine lv_icmp_gt (tgt := 2900) hx hb dL_law_35 (by decide) (fun _ => ?_) (fun c_2 => absurd hneg c_2)
    exact kend _ _ _ _ _ (Nat.le_of_ble_eq_true rfl) (Nat.le_of_ble_eq_true rfl) hS
  · obtain rfl : L = 7 := by omega
    refine law_turn (s := s.setDrawn s.drawn) (A := fun q : Nat => s.heap.size ≤ q) hst hx hb hml hown hts1 hX hbl hbA hA hE ?_ x ax kx mo lm e0 th o od kO kD fo fd H locs ls ad hZ hM hK hP hD hS hl
    intro H locs ls hS hl
    refine lv_iinc (v := 7) (lv' := [(5, .int 7), (0, .ref b)]) hx hb dL_law_2894 hl (k := 1) rfl (by decide) (by decide) rfl (fun ls hl => ?_)
    refine lv_goto (tgt := 28) hx hb dL_law_2897 (by decide) ?_
    refine lv_iload hx hb dL_law_28 (lv_at hl 0 rfl) ?_
    refine lv_aload_n hx hb dL_law_30 rfl (lv_at hl 1 rfl) ?_
    refine va_slen hx hb hX hbl hbA hS dL_law_31 ?_
    refine lv_bipush (v := 7) hx hb dL_law_32 (by decide) ?_
    refine lv_isub hx hb dL_law_34 ?_
    refine lv_icmp_gt (tgt := 2900) hx hb dL_law_35 (by decide) (fun _ => ?_) (fun c_2 => absurd (by decide +kernel) c_2)
    exact kend _ _ _ _ _ (Nat.le_of_ble_eq_true rfl) (Nat.le_of_ble_eq_true rfl) hS
end ZStart
