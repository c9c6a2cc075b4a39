section ZMod3
theorem zAny {C : String} {v : Nat} {A : Nat → Prop} {s : State} {H : Heap} {locs : List Loc} (hO : va_O C v A s s.heap) (hCa : va_Nw (.castable C "java/lang/Object") s) (hS : va_S A s.heap H locs) : va_Any "java/lang/Object" s H v := by
  obtain ⟨cell, h1, h2, h3, h4⟩ := hO.kept hS.2.1
  obtain ⟨kC, hkC, -⟩ := Vm.findClass_spec h3
  obtain ⟨c0, t0, f1, f2, f3⟩ := Cond.castable_spec (va_Nw.use (A := #[]) rfl hCa)
  cases h3.symm.trans f1
  exact ⟨cell, h1, h2, ⟨kC, hkC⟩, fun comp hc => by cases hc.symm.trans f2; exact f3⟩
/-- the empty row, and a thing v of the class C that lies outside what is written -/
abbrev gPcV (dC : Nat → ClassId) (dI : Nat → Nat → Nat) (sz : Nat) (W : va_W) (T : List (ClassId × FieldType)) (e0 : Nat) (C : String) (v : Nat) (av : List Value) : Array Value → State → Prop := va_Pc av (fun U => U.heap.size = sz ∧ va_P (dC, dI) vwCl W U.heap ∧ va_K (dC, dI) vwCl T U ∧ va_D (fun _ => True) W ∧ zE (va_A W sz) U U.heap ∧ zD e0 (va_A W sz) U U.heap ∧ va_O C v (va_A W sz) U U.heap ∧ va_Nw (.castable C "java/lang/Object") U ∧ va_AO "java/lang/Object" U)
theorem gPcV_blind {dC : Nat → ClassId} {dI : Nat → Nat → Nat} {sz e0 : Nat} {C : String} {v : Nat} {W : va_W} {T : List (ClassId × FieldType)} {av : List Value} : FrameBlind (gPcV dC dI sz W T e0 C v av) := fun a U g mk q => by
  obtain ⟨q0, q1, qP, qK, qD, qE, qZ, qO, qC, qA⟩ := q
  exact ⟨q0, q1, qP, va_K.moved (u := U) (U := U.calling g mk a) (Vm.Alike.refl U.vm) qK, qD, qE.blind, qZ.blind, va_O.moved (u := U) (U := U.calling g mk a) (Vm.Alike.refl U.vm) qO, va_Nw.same (u := U) (U := U.calling g mk a) rfl rfl qC, va_AO.moved (u := U) (U := U.calling g mk a) (Vm.Alike.refl U.vm) qA⟩
theorem gPcV_pass {dC : Nat → ClassId} {dI : Nat → Nat → Nat} {e0 : Nat} {C : String} {v : Nat} {W : va_W} {T : List (ClassId × FieldType)} {av : List Value} {A : Nat → Prop} {s : State} {H : Heap} {locs : List Loc}
    (hP : va_P (dC, dI) vwCl W H) (hK : va_K (dC, dI) vwCl T s) (hD : va_D A W) (hE : zE A s s.heap) (hZ : zD e0 A s s.heap) (hS : va_S A s.heap H locs) (hF : ∀ q, va_A W H.size q → A q) (hO : va_O C v (va_A W H.size) s H) (hC : va_Nw (.castable C "java/lang/Object") s) (hAO : va_AO "java/lang/Object" s) : ∀ U : State, U.heap = H → s.WarmedH U.vm → gPcV dC dI H.size W T e0 C v av av.toArray U := fun U hU hW =>
  ⟨rfl, by rw [hU], by rw [hU]; exact hP, va_K.moved hW.alike hK, hD.weaken (fun _ _ _ _ => trivial), hE.pass hS hU hW hF, hZ.pass hS hU hW hF, by rw [hU]; exact va_O.moved hW.alike hO, va_Nw.warmC hW hC, va_AO.moved hW.alike hAO⟩
theorem zO_in {C : String} {v : Nat} {A A1 : Nat → Prop} {s : State} {H : Heap} {locs : List Loc} (hO : va_O C v A s s.heap) (hS : va_S A s.heap H locs) (hF : ∀ q, A1 q → A q) : va_O C v A1 s H := (hO.kept hS.2.1).narrow hF
/-- a cell of one's own world, outside the callee's -/
theorem zO_cell {D : va_G} {cl : List vw_C} {tys : List (ClassId × FieldType)} {ws wc : va_W} {s : State} {H : Heap} {A : Nat → Prop} {v k ci : Nat} {fs : List Value} {r : vw_C} (hK : va_K D cl tys s) (hP : va_P D cl ws H) (hD : va_D A ws) (he : ws[k]? = some (v, .inr (ci, fs))) (hc : cl[ci]? = some r) (isC : List Nat) (hC : isC.map (fun i => ws[i]?) = wc.map some) (hk : k ∉ isC) : va_O r.1 v (va_A wc H.size) s H := by
  obtain ⟨cell, h1, h2, h3⟩ := va_recv hK hP hc he
  refine ⟨cell, h1, h2, h3, fun hA => ?_⟩
  rcases hA with ⟨j, e, hj⟩ | hz
  · have h4 : (isC.map (fun i => ws[i]?))[j]? = some (some (v, e)) := by rw [hC, List.getElem?_map, hj]; rfl
    rw [List.getElem?_map] at h4
    cases hi : isC[j]? with
    | none => rw [hi] at h4; cases h4
    | some i =>
      rw [hi] at h4
      have h5 : ws[i]? = some (v, e) := by simpa using h4
      have h6 := hD.1 i k _ _ h5 he rfl
      subst h6
      exact hk (List.mem_of_getElem? hi)
  · have := (Array.getElem?_eq_some_iff.mp h1).1
    omega
def zCas : List String := [RJ6, RX11, RX8]
/-- what the reference reads of strings and of the cache of boxes: ad 256 the text, ad 257 its row, ad 258 the cache, ad j its boxes -/
def zM (ad : Nat → Nat) (A : Nat → Prop) (U : State) (H : Heap) : Prop := vk_R RX11 18 "sebw" (ad 256) U ∧ va_O "java/lang/String" (ad 256) A U H ∧ va_OF "java/lang/String" "coder" "B" (.int 0) (ad 256) A U H ∧ va_OF "java/lang/String" "value" "[B" (.ref (ad 257)) (ad 256) A U H ∧ va_T .byte (ad 257) 4 (fun j => .int (([[115, 101, 98, 119]].getD 0 []).getD j 0)) A U H ∧ va_Z "java/lang/String" "COMPACT_STRINGS" "Z" (.int 1) A U H ∧ va_Z "java/lang/Integer$IntegerCache" "high" "I" (.int 127) A U H ∧ va_Z "java/lang/Integer$IntegerCache" "cache" "[Ljava/lang/Integer;" (.ref (ad 258)) A U H ∧ va_T (.object "java/lang/Integer") (ad 258) 256 (fun j => .ref (ad j)) A U H ∧ va_O "java/lang/Integer" (ad 127) A U H ∧ va_AO "java/lang/Object" U ∧ ∀ C ∈ zCas, va_Nw (.castable C "java/lang/Object") U
theorem zM.pass {ad : Nat → Nat} {A A1 : Nat → Prop} {s U : State} {H : Heap} {locs : List Loc} (h : zM ad A s s.heap) (hS : va_S A s.heap H locs) (hU : U.heap = H) (hW : s.WarmedH U.vm) (hA : ∀ q, A1 q → A q) : zM ad A1 U U.heap := by
  subst hU
  obtain ⟨h1, h2, h3, h4, h5, h6, h7, h8, h9, h10, h11, h12⟩ := h
  have ha := hW.alike
  exact ⟨vk_R.warm hW h1, va_O.moved ha ((h2.kept hS.2.1).narrow hA), va_OF.moved ha ((h3.kept hS.2.1).narrow hA), va_OF.moved ha ((h4.kept hS.2.1).narrow hA), va_T.moved ha ((h5.kept hS.2.1).narrow hA), va_Z.moved ha ((h6.kept hS.2.1).narrow hA), va_Z.moved ha ((h7.kept hS.2.1).narrow hA), va_Z.moved ha ((h8.kept hS.2.1).narrow hA), va_T.moved ha ((h9.kept hS.2.1).narrow hA), va_O.moved ha ((h10.kept hS.2.1).narrow hA), va_AO.moved ha h11, fun C hC => va_Nw.warmC hW (h12 C hC)⟩
theorem zM.blind {ad : Nat → Nat} {A : Nat → Prop} {U : State} {g : JFrame} {mk : MethodId} {a : Array Value} (h : zM ad A U U.heap) : zM ad A (U.calling g mk a) (U.calling g mk a).heap := by
  obtain ⟨h1, h2, h3, h4, h5, h6, h7, h8, h9, h10, h11, h12⟩ := h
  have ha : U.vm.Alike (U.calling g mk a).vm := Vm.Alike.refl U.vm
  exact ⟨vk_R.same (u := U) (U := U.calling g mk a) rfl h1, va_O.moved ha h2, va_OF.moved ha h3, va_OF.moved ha h4, va_T.moved ha h5, va_Z.moved ha h6, va_Z.moved ha h7, va_Z.moved ha h8, va_T.moved ha h9, va_O.moved ha h10, va_AO.moved ha h11, fun C hC => va_Nw.same (u := U) (U := U.calling g mk a) rfl rfl (h12 C hC)⟩
theorem zM_recv {ad : Nat → Nat} {A : Nat → Prop} {s : State} {H : Heap} {locs : List Loc} (h : zM ad A s s.heap) (hS : va_S A s.heap H locs) : ∃ cell : Cell, H[ad 256]? = some cell ∧ cell.vm.isStatics = false ∧ s.vm.findClass RJ0 = some cell.cls := by
  obtain ⟨cell, h1, h2, h3, -⟩ := h.2.1.kept hS.2.1
  exact ⟨cell, h1, h2, h3⟩
abbrev gPcM (dC : Nat → ClassId) (dI : Nat → Nat → Nat) (sz : Nat) (W : va_W) (T : List (ClassId × FieldType)) (e0 : Nat) (ad : Nat → Nat) (av : List Value) : Array Value → State → Prop := va_Pc av (fun U => U.heap.size = sz ∧ va_P (dC, dI) vwCl W U.heap ∧ va_K (dC, dI) vwCl T U ∧ va_D (fun _ => True) W ∧ zE (va_A W sz) U U.heap ∧ zD e0 (va_A W sz) U U.heap ∧ zM ad (va_A W sz) U U.heap)
theorem gPcM_blind {dC : Nat → ClassId} {dI : Nat → Nat → Nat} {sz e0 : Nat} {ad : Nat → Nat} {W : va_W} {T : List (ClassId × FieldType)} {av : List Value} : FrameBlind (gPcM dC dI sz W T e0 ad av) := fun a U g mk q => by
  obtain ⟨q0, q1, qP, qK, qD, qE, qZ, qM⟩ := q
  exact ⟨q0, q1, qP, va_K.moved (u := U) (U := U.calling g mk a) (Vm.Alike.refl U.vm) qK, qD, qE.blind, qZ.blind, qM.blind⟩
theorem gPcM_pass {dC : Nat → ClassId} {dI : Nat → Nat → Nat} {e0 : Nat} {ad : Nat → Nat} {W : va_W} {T : List (ClassId × FieldType)} {av : List Value} {A : Nat → Prop} {s : State} {H : Heap} {locs : List Loc}
    (hP : va_P (dC, dI) vwCl W H) (hK : va_K (dC, dI) vwCl T s) (hD : va_D A W) (hE : zE A s s.heap) (hZ : zD e0 A s s.heap) (hM : zM ad A s s.heap) (hS : va_S A s.heap H locs) (hF : ∀ q, va_A W H.size q → A q) : ∀ U : State, U.heap = H → s.WarmedH U.vm → gPcM dC dI H.size W T e0 ad av av.toArray U := fun U hU hW =>
  ⟨rfl, by rw [hU], by rw [hU]; exact hP, va_K.moved hW.alike hK, hD.weaken (fun _ _ _ _ => trivial), hE.pass hS hU hW hF, hZ.pass hS hU hW hF, hM.pass hS hU hW hF⟩

def zwJx4a65c_grow_92f84 : List Cond := .code yJx4a65c_grow_92f84 cJx4a65c_grow_92f84 4 (some (.array (.object "java/lang/Object"))) :: (([.fieldLink RJx4a65c 9 "java/util/ArrayList" "elementData" "[Ljava/lang/Object;", .fieldLink RJx4a65c 39 "java/util/ArrayList" "DEFAULTCAPACITY_EMPTY_ELEMENTDATA" "[Ljava/lang/Object;", .methodLink RJx4a65c 79 Lib.Math.max.name, .static Lib.Math.max.name, .initialized "java/lang/Math", .code Lib.Math.max.name Lib.Math.max.code 2 (some .int), .classLink RJx4a65c 7 "java/lang/Object"] : List Cond) ++ (wsJx4a65c0))
theorem zgJx4a65c_grow_92f84 : zwJx4a65c_grow_92f84.all goodWord = true := zgo rfl (zga (by decide +kernel) (zgcJx4a65c))
set_option maxHeartbeats 4000000 in
set_option maxRecDepth 100000 in
theorem c_Jx4a65c_grow_92f84 (l : Launch) (dC : Nat → ClassId) (dI : Nat → Nat → Nat) (sz : Nat) (e0 : Nat) (C : String) (v : Nat) (a : Nat) : Met l yJx4a65c_grow_92f84 zwJx4a65c_grow_92f84 ({ frames := 1, cells := 1, slots := 10, locals := 14 }) (gPcV dC dI sz [(a, .inr (2, [.int 1, .ref e0, .int 0]))] [] e0 C v [.ref a, .int 1]) (va_Qr (fun (u : ClassId) => True) (fun u ra t => va_P (dC, dI) vwCl [(a, .inr (2, [.int 1, .ref ra, .int 0])), (ra, .inl (u, 10, .inr (.inr (.inr (.inr (fun _ => none))))))] t.heap ∧ va_K (dC, dI) vwCl [(u, .object "java/lang/Object")] t ∧ va_D (va_A [(a, .inr (2, [.int 1, .ref e0, .int 0]))] sz) [(a, .inr (2, [.int 1, .ref ra, .int 0])), (ra, .inl (u, 10, .inr (.inr (.inr (.inr (fun _ => none))))))]) (va_A [(a, .inr (2, [.int 1, .ref e0, .int 0]))] sz)) 1 10 (va_A [(a, .inr (2, [.int 1, .ref e0, .int 0]))] sz) := by
  refine Met.ofW (cc := cJx4a65c_grow_92f84) (maxL := 4) (ret := (some (.array (.object "java/lang/Object")))) (by decide) rfl ?_
  intro p e s m args below meth c s₁ B hml hv
  obtain ⟨rfl, hsz, hP, hK, hD0, hE, hZ, hO, hCa, hAO⟩ := hv
  have hx := B.exec
  have hb := B.bytes
  have hr := B.returns
  have hts := atoms_spec (ws := zwJx4a65c_grow_92f84) B.pre
  have hown : s.vm.findClass RJx4a65c = some m.cls := findClass_of_methodNamed B.named
  have hlocks := B.notSynchronized
  subst hsz
  have hD := hD0.self (sz := s.heap.size)
  generalize hAe : va_A [(a, .inr (2, [.int 1, .ref e0, .int 0]))] s.heap.size = A at hD hE hZ hO ⊢
  have hA : ∀ q : Nat, s.heap.size ≤ q → A q := fun q h => by rw [← hAe]; exact Or.inr h
  have hS : va_S A s.heap s.heap [] := va_S.rf
  have hP : va_P (dC, dI) vwCl [(a, .inr (2, [.int 1, .ref e0, .int 0]))] s.heap := hP
  have hl := lv_entry ([.ref a, .int 1]) (n := 4) (Nat.le_of_ble_eq_true rfl)
  rw [lg_entry_eq]
  generalize (lg_sl ([.ref a, .int 1]) ++ List.replicate (4 - (lg_sl ([.ref a, .int 1])).length) Slot.unset).toArray = ls at hl ⊢
  have hl : lv_has ls 4 [(0, .ref a), (1, .int 1)] := hl
  refine lv_aload_n hx hb dJx4a65c_grow_92f84_0 rfl (lv_at hl 0 rfl) ?_
  refine va_get (D := (dC, dI)) (ci := 2) (v := .ref e0) (C := RJx4a65c) (T := TJx4a65c) (N := 3) hx hb hts (fun w h => List.mem_cons_of_mem _ (List.mem_append_right _ (h))) hown hK hP 0 rfl rfl 1 (by decide) (hts (.fieldLink RJx4a65c 9 "java/util/ArrayList" "elementData" "[Ljava/lang/Object;") (by decide +kernel)) (fun _ h9 => h9) rfl dJx4a65c_grow_92f84_1 ?_
  refine va_tlen (v := 0) hx hb hZ.2 hS rfl dJx4a65c_grow_92f84_4 ?_
  refine lv_istore_n (lv' := [(2, .int 0), (0, .ref a), (1, .int 1)]) hx hb dJx4a65c_grow_92f84_5 rfl hl (by decide) rfl (fun ls hl => ?_)
  refine lv_iload_n hx hb dJx4a65c_grow_92f84_6 rfl (lv_at hl 0 rfl) ?_
  refine lv_if_gt (tgt := 20) hx hb dJx4a65c_grow_92f84_7 (by decide) (fun c_1 => absurd c_1 (by decide)) (fun _ => ?_)
  refine lv_aload_n hx hb dJx4a65c_grow_92f84_10 rfl (lv_at hl 1 rfl) ?_
  refine va_get (D := (dC, dI)) (ci := 2) (v := .ref e0) (C := RJx4a65c) (T := TJx4a65c) (N := 3) hx hb hts (fun w h => List.mem_cons_of_mem _ (List.mem_append_right _ (h))) hown hK hP 0 rfl rfl 1 (by decide) (hts (.fieldLink RJx4a65c 9 "java/util/ArrayList" "elementData" "[Ljava/lang/Object;") (by decide +kernel)) (fun _ h9 => h9) rfl dJx4a65c_grow_92f84_11 ?_
  refine va_gets (v := .ref e0) hx hb hZ.1 hS hown (hts (.fieldLink RJx4a65c 39 "java/util/ArrayList" "DEFAULTCAPACITY_EMPTY_ELEMENTDATA" "[Ljava/lang/Object;") (by decide +kernel)) (fun _ h9 => h9) dJx4a65c_grow_92f84_14 ?_
  refine lv_acmp_eq (rx := some e0) (ry := some e0) (tgt := 45) hx hb dJx4a65c_grow_92f84_17 (by decide) (fun _ => ?_) (fun h => absurd rfl h)
  refine lv_aload_n hx hb dJx4a65c_grow_92f84_45 rfl (lv_at hl 1 rfl) ?_
  refine lv_bipush (v := 10) hx hb dJx4a65c_grow_92f84_46 (by decide) ?_
  refine lv_iload_n hx hb dJx4a65c_grow_92f84_48 rfl (lv_at hl 2 rfl) ?_
  refine va_mmax hx hb (hml.trans hl.1.symm) hown (hts (.methodLink RJx4a65c 79 Lib.Math.max.name) (by decide +kernel)) (hts (.static Lib.Math.max.name) (by decide +kernel)) (hts (.initialized "java/lang/Math") (by decide +kernel)) (hts (.code Lib.Math.max.name Lib.Math.max.code 2 (some .int)) (by decide +kernel)) (Nat.le_of_ble_eq_true rfl) (Nat.le_of_ble_eq_true rfl) (Nat.le_of_ble_eq_true rfl) (Nat.le_of_ble_eq_true rfl) dJx4a65c_grow_92f84_49 ?_
  refine lv_topi (fun y_2 ey_2 => ?_)
  obtain rfl : y_2 = 10 := ey_2.trans (by decide +kernel)
  refine va_newq (N' := 10) hx hb hown (hts (.classLink RJx4a65c 7 "java/lang/Object") (by decide +kernel)) hAO hK hP hD hS hA (by decide) (by decide +kernel) (by decide) (Nat.le_of_ble_eq_true rfl) (Nat.le_of_ble_eq_true rfl) dJx4a65c_grow_92f84_52 (fun q52 k52 H hK hP hD hS => ?_)
  have hK : va_K (dC, dI) vwCl [(k52, .object "java/lang/Object")] s := hK
  have hP : va_P (dC, dI) vwCl [(a, .inr (2, [.int 1, .ref e0, .int 0])), (q52, .inl (k52, 10, .inr (.inr (.inr (.inr (fun _ => none))))))] H := hP
  have hD : va_D A [(a, .inr (2, [.int 1, .ref e0, .int 0])), (q52, .inl (k52, 10, .inr (.inr (.inr (.inr (fun _ => none))))))] := hD
  refine lv_dup_x1 hx hb dJx4a65c_grow_92f84_55 rfl rfl ?_
  refine va_put (D := (dC, dI)) (ci := 2) (v := .ref q52) (ty := .array (.object "java/lang/Object")) (C := RJx4a65c) (T := TJx4a65c) (N := 3) hx hb hts (fun w h => List.mem_cons_of_mem _ (List.mem_append_right _ (h))) tyJx4a65c tyJx4a65c_ok nmJx4a65c hown hK hP hD hS 0 rfl rfl 1 (by decide) (hts (.fieldLink RJx4a65c 9 "java/util/ArrayList" "elementData" "[Ljava/lang/Object;") (by decide +kernel)) (fun _ h9 => h9) rfl (by decide +kernel) rfl rfl (Nat.le_of_ble_eq_true rfl) dJx4a65c_grow_92f84_56 (fun H locs hP hD hS => ?_)
  have hP : va_P (dC, dI) vwCl [(a, .inr (2, [.int 1, .ref q52, .int 0])), (q52, .inl (k52, 10, .inr (.inr (.inr (.inr (fun _ => none))))))] H := hP
  have hD : va_D A [(a, .inr (2, [.int 1, .ref q52, .int 0])), (q52, .inl (k52, 10, .inr (.inr (.inr (.inr (fun _ => none))))))] := hD
  have hP9 := hP.sub (ws' := [(a, .inr (2, [.int 1, .ref q52, .int 0])), (q52, .inl (k52, 10, .inr (.inr (.inr (.inr (fun _ => none))))))]) [0, 1] rfl
  have hD9 := hD.sub (ws' := [(a, .inr (2, [.int 1, .ref q52, .int 0])), (q52, .inl (k52, 10, .inr (.inr (.inr (.inr (fun _ => none))))))]) [0, 1] (by decide) rfl
  have hK9 := hK.sub (tys' := [(k52, .object "java/lang/Object")]) [0] rfl
  refine W.widen (k := 1) (n := 10) (Nat.le_of_ble_eq_true rfl) (Nat.le_of_ble_eq_true rfl) ?_
  exact W.aret (v := .ref q52) hx hb hr (Or.inr ⟨_, rfl⟩) (Or.inr ⟨_, rfl⟩) (fun t ht hW => ⟨⟨k52, q52, rfl, trivial, by rw [ht]; exact hP9, va_K.moved hW.alike hK9, hD9⟩, hS.F ht⟩) hS.2.2 dJx4a65c_grow_92f84_59

def zwJx4a65c_grow_d5877 : List Cond := .code yJx4a65c_grow_d5877 cJx4a65c_grow_d5877 1 (some (.array (.object "java/lang/Object"))) :: (([.fieldLink RJx4a65c 48 "java/util/ArrayList" "size" "I", .methodLink RJx4a65c 69 yJx4a65c_grow_92f84, .instanceMethod yJx4a65c_grow_92f84, .selects RJx4a65c yJx4a65c_grow_92f84 yJx4a65c_grow_92f84, .initialized RJx4a65c] : List Cond) ++ (wsJx4a65c0 ++ (zwJx4a65c_grow_92f84)))
theorem zgJx4a65c_grow_d5877 : zwJx4a65c_grow_d5877.all goodWord = true := zgo rfl (zga (by decide +kernel) (zga zgcJx4a65c (zgJx4a65c_grow_92f84)))
set_option maxHeartbeats 4000000 in
set_option maxRecDepth 100000 in
theorem c_Jx4a65c_grow_d5877 (l : Launch) (dC : Nat → ClassId) (dI : Nat → Nat → Nat) (sz : Nat) (e0 : Nat) (C : String) (v : Nat) (a : Nat) : Met l yJx4a65c_grow_d5877 zwJx4a65c_grow_d5877 ({ frames := 2, cells := 1, slots := 10, locals := 37 }) (gPcV dC dI sz [(a, .inr (2, [.int 1, .ref e0, .int 0]))] [] e0 C v [.ref a]) (va_Qr (fun (u : ClassId) => True) (fun u ra t => va_P (dC, dI) vwCl [(a, .inr (2, [.int 1, .ref ra, .int 0])), (ra, .inl (u, 10, .inr (.inr (.inr (.inr (fun _ => none))))))] t.heap ∧ va_K (dC, dI) vwCl [(u, .object "java/lang/Object")] t ∧ va_D (va_A [(a, .inr (2, [.int 1, .ref e0, .int 0]))] sz) [(a, .inr (2, [.int 1, .ref ra, .int 0])), (ra, .inl (u, 10, .inr (.inr (.inr (.inr (fun _ => none))))))]) (va_A [(a, .inr (2, [.int 1, .ref e0, .int 0]))] sz)) 1 10 (va_A [(a, .inr (2, [.int 1, .ref e0, .int 0]))] sz) := by
  refine Met.ofW (cc := cJx4a65c_grow_d5877) (maxL := 1) (ret := (some (.array (.object "java/lang/Object")))) (by decide) rfl ?_
  intro p e s m args below meth c s₁ B hml hv
  obtain ⟨rfl, hsz, hP, hK, hD0, hE, hZ, hO, hCa, hAO⟩ := hv
  have hx := B.exec
  have hb := B.bytes
  have hr := B.returns
  have hts := atoms_spec (ws := zwJx4a65c_grow_d5877) B.pre
  have hown : s.vm.findClass RJx4a65c = some m.cls := findClass_of_methodNamed B.named
  have hlocks := B.notSynchronized
  subst hsz
  have hD := hD0.self (sz := s.heap.size)
  generalize hAe : va_A [(a, .inr (2, [.int 1, .ref e0, .int 0]))] s.heap.size = A at hD hE hZ hO ⊢
  have hA : ∀ q : Nat, s.heap.size ≤ q → A q := fun q h => by rw [← hAe]; exact Or.inr h
  have hS : va_S A s.heap s.heap [] := va_S.rf
  have hP : va_P (dC, dI) vwCl [(a, .inr (2, [.int 1, .ref e0, .int 0]))] s.heap := hP
  have hl := lv_entry ([.ref a]) (n := 1) (Nat.le_of_ble_eq_true rfl)
  rw [lg_entry_eq]
  generalize (lg_sl ([.ref a]) ++ List.replicate (1 - (lg_sl ([.ref a])).length) Slot.unset).toArray = ls at hl ⊢
  have hl : lv_has ls 1 [(0, .ref a)] := hl
  refine lv_aload_n hx hb dJx4a65c_grow_d5877_0 rfl (lv_at hl 0 rfl) ?_
  refine lv_aload_n hx hb dJx4a65c_grow_d5877_1 rfl (lv_at hl 0 rfl) ?_
  refine va_get (D := (dC, dI)) (ci := 2) (v := .int 0) (C := RJx4a65c) (T := TJx4a65c) (N := 3) hx hb hts (fun w h => List.mem_cons_of_mem _ (List.mem_append_right _ (List.mem_append_left _ h))) hown hK hP 0 rfl rfl 2 (by decide) (hts (.fieldLink RJx4a65c 48 "java/util/ArrayList" "size" "I") (by decide +kernel)) (fun _ h9 => h9) rfl dJx4a65c_grow_d5877_2 ?_
  refine lv_iconst (v := 1) hx hb dJx4a65c_grow_d5877_5 (by decide) ?_
  refine lv_iadd hx hb dJx4a65c_grow_d5877_6 ?_
  refine lv_topi (fun y_1 ey_1 => ?_)
  obtain rfl : y_1 = 1 := ey_1.trans (by decide +kernel)
  have hPc := hP.sub (ws' := [(a, .inr (2, [.int 1, .ref e0, .int 0]))]) [0] rfl
  have hDc := hD.sub (ws' := [(a, .inr (2, [.int 1, .ref e0, .int 0]))]) [0] (by decide) rfl
  have hKc := hK.sub (tys' := []) [] rfl
  have hFc := va_free (wc := [(a, .inr (2, [.int 1, .ref e0, .int 0]))]) hD hS hA [0] rfl
  refine va_callr (va_runV (As := [.int 1]) (rest := []) ⟨hx, hb, hml, hown, hts⟩ (c_Jx4a65c_grow_92f84 l dC dI s.heap.size e0 C v a) (cwV 1 hts (goodIn_app (goodIn_of _ (by decide +kernel)) (goodIn_sub ((fun w h => List.mem_cons_of_mem _ (List.mem_append_right _ (List.mem_append_right _ (h))))) zgJx4a65c_grow_92f84)) rfl rfl rfl (by decide +kernel) ⟨Nat.le_of_ble_eq_true rfl, Nat.le_of_ble_eq_true rfl⟩) ⟨gPcV_blind, va_recv hK hP (ci := 2) (q0 := 0) rfl rfl, gPcV_pass hPc hKc hDc hE hZ hS hFc (zO_in hO hS hFc) hCa hAO⟩ rfl rfl hl.1 rfl (lv_room (Nat.le_of_ble_eq_true rfl)) dJx4a65c_grow_d5877_7 ⟨Nat.le_of_ble_eq_true rfl, Nat.le_of_ble_eq_true rfl⟩) hS (fun q _ h => hFc q h) hFc (fun u_3 r_2 t H locs ht hvm hw hB hz hk hS => ?_)
  obtain ⟨hP1, hK1, hD1⟩ := hB
  rw [ht] at hP1
  obtain ⟨hP, hD⟩ := va_join (wr := []) (w1 := [(a, .inr (2, [.int 1, .ref r_2, .int 0])), (r_2, .inl (u_3, 10, .inr (.inr (.inr (.inr (fun _ => none))))))]) hP hD [0] [] rfl rfl (by decide) (by decide) hk hFc hP1 hD1
  have hK1 := va_K.moved hvm.symm hK1
  have hK := hK.app hK1
  have hK : va_K (dC, dI) vwCl [(u_3, .object "java/lang/Object")] s := hK
  have hP : va_P (dC, dI) vwCl [(a, .inr (2, [.int 1, .ref r_2, .int 0])), (r_2, .inl (u_3, 10, .inr (.inr (.inr (.inr (fun _ => none))))))] H := hP
  have hD : va_D A [(a, .inr (2, [.int 1, .ref r_2, .int 0])), (r_2, .inl (u_3, 10, .inr (.inr (.inr (.inr (fun _ => none))))))] := hD
  have hw : True := hw
  have hP9 := hP.sub (ws' := [(a, .inr (2, [.int 1, .ref r_2, .int 0])), (r_2, .inl (u_3, 10, .inr (.inr (.inr (.inr (fun _ => none))))))]) [0, 1] rfl
  have hD9 := hD.sub (ws' := [(a, .inr (2, [.int 1, .ref r_2, .int 0])), (r_2, .inl (u_3, 10, .inr (.inr (.inr (.inr (fun _ => none))))))]) [0, 1] (by decide) rfl
  have hK9 := hK.sub (tys' := [(u_3, .object "java/lang/Object")]) [0] rfl
  refine W.widen (k := 1) (n := 10) (Nat.le_of_ble_eq_true rfl) (Nat.le_of_ble_eq_true rfl) ?_
  exact W.aret (v := .ref r_2) hx hb hr (Or.inr ⟨_, rfl⟩) (Or.inr ⟨_, rfl⟩) (fun t ht hW => ⟨⟨u_3, r_2, rfl, trivial, by rw [ht]; exact hP9, va_K.moved hW.alike hK9, hD9⟩, hS.F ht⟩) hS.2.2 dJx4a65c_grow_d5877_10

def zwJx4a65c_add_72be8 : List Cond := .code yJx4a65c_add_72be8 cJx4a65c_add_72be8 4 none :: (([.methodLink RJx4a65c 129 yJx4a65c_grow_d5877, .instanceMethod yJx4a65c_grow_d5877, .selects RJx4a65c yJx4a65c_grow_d5877 yJx4a65c_grow_d5877, .initialized RJx4a65c, .fieldLink RJx4a65c 48 "java/util/ArrayList" "size" "I"] : List Cond) ++ (zwJx4a65c_grow_d5877 ++ (wsJx4a65c0)))
theorem zgJx4a65c_add_72be8 : zwJx4a65c_add_72be8.all goodWord = true := zgo rfl (zga (by decide +kernel) (zga zgJx4a65c_grow_d5877 (zgcJx4a65c)))
set_option maxHeartbeats 4000000 in
set_option maxRecDepth 100000 in
theorem c_Jx4a65c_add_72be8 (l : Launch) (dC : Nat → ClassId) (dI : Nat → Nat → Nat) (sz : Nat) (C : String) (a : Nat) (v : Nat) (e0 : Nat) : Met l yJx4a65c_add_72be8 zwJx4a65c_add_72be8 ({ frames := 3, cells := 1, slots := 10, locals := 57 }) (gPcV dC dI sz [(a, .inr (2, [.int 1, .ref e0, .int 0]))] [] e0 C v [.ref a, .ref v, .ref e0, .int 0]) (va_Qv (fun (u : Nat) => True) (fun u t => va_P (dC, dI) vwCl [(a, .inr (2, [.int 1, .ref u, .int 1]))] t.heap ∧ va_K (dC, dI) vwCl [] t ∧ va_D (va_A [(a, .inr (2, [.int 1, .ref e0, .int 0]))] sz) [(a, .inr (2, [.int 1, .ref u, .int 1]))]) (va_A [(a, .inr (2, [.int 1, .ref e0, .int 0]))] sz)) 1 10 (va_A [(a, .inr (2, [.int 1, .ref e0, .int 0]))] sz) := by
  refine Met.ofW (cc := cJx4a65c_add_72be8) (maxL := 4) (ret := none) (by decide) rfl ?_
  intro p e s m args below meth c s₁ B hml hv
  obtain ⟨rfl, hsz, hP, hK, hD0, hE, hZ, hO, hCa, hAO⟩ := hv
  have hx := B.exec
  have hb := B.bytes
  have hr := B.returns
  have hts := atoms_spec (ws := zwJx4a65c_add_72be8) B.pre
  have hown : s.vm.findClass RJx4a65c = some m.cls := findClass_of_methodNamed B.named
  have hlocks := B.notSynchronized
  subst hsz
  have hD := hD0.self (sz := s.heap.size)
  generalize hAe : va_A [(a, .inr (2, [.int 1, .ref e0, .int 0]))] s.heap.size = A at hD hE hZ hO ⊢
  have hA : ∀ q : Nat, s.heap.size ≤ q → A q := fun q h => by rw [← hAe]; exact Or.inr h
  have hS : va_S A s.heap s.heap [] := va_S.rf
  have hP : va_P (dC, dI) vwCl [(a, .inr (2, [.int 1, .ref e0, .int 0]))] s.heap := hP
  have hl := lv_entry ([.ref a, .ref v, .ref e0, .int 0]) (n := 4) (Nat.le_of_ble_eq_true rfl)
  rw [lg_entry_eq]
  generalize (lg_sl ([.ref a, .ref v, .ref e0, .int 0]) ++ List.replicate (4 - (lg_sl ([.ref a, .ref v, .ref e0, .int 0])).length) Slot.unset).toArray = ls at hl ⊢
  have hl : lv_has ls 4 [(0, .ref a), (1, .ref v), (2, .ref e0), (3, .int 0)] := hl
  refine lv_iload_n hx hb dJx4a65c_add_72be8_0 rfl (lv_at hl 3 rfl) ?_
  refine lv_aload_n hx hb dJx4a65c_add_72be8_1 rfl (lv_at hl 2 rfl) ?_
  refine va_tlen (v := 0) hx hb hZ.2 hS rfl dJx4a65c_add_72be8_2 ?_
  refine lv_icmp_ne (tgt := 11) hx hb dJx4a65c_add_72be8_3 (by decide) (fun c_1 => absurd c_1 (by decide)) (fun _ => ?_)
  refine lv_aload_n hx hb dJx4a65c_add_72be8_6 rfl (lv_at hl 0 rfl) ?_
  have hPc := hP.sub (ws' := [(a, .inr (2, [.int 1, .ref e0, .int 0]))]) [0] rfl
  have hDc := hD.sub (ws' := [(a, .inr (2, [.int 1, .ref e0, .int 0]))]) [0] (by decide) rfl
  have hKc := hK.sub (tys' := []) [] rfl
  have hFc := va_free (wc := [(a, .inr (2, [.int 1, .ref e0, .int 0]))]) hD hS hA [0] rfl
  refine va_callr (va_runV (As := []) (rest := []) ⟨hx, hb, hml, hown, hts⟩ (c_Jx4a65c_grow_d5877 l dC dI s.heap.size e0 C v a) (cwV 0 hts (goodIn_app (goodIn_of _ (by decide +kernel)) (goodIn_sub ((fun w h => List.mem_cons_of_mem _ (List.mem_append_right _ (List.mem_append_left _ h)))) zgJx4a65c_grow_d5877)) rfl rfl rfl (by decide +kernel) ⟨Nat.le_of_ble_eq_true rfl, Nat.le_of_ble_eq_true rfl⟩) ⟨gPcV_blind, va_recv hK hP (ci := 2) (q0 := 0) rfl rfl, gPcV_pass hPc hKc hDc hE hZ hS hFc (zO_in hO hS hFc) hCa hAO⟩ rfl rfl hl.1 rfl (lv_room (Nat.le_of_ble_eq_true rfl)) dJx4a65c_add_72be8_7 ⟨Nat.le_of_ble_eq_true rfl, Nat.le_of_ble_eq_true rfl⟩) hS (fun q _ h => hFc q h) hFc (fun u_3 r_2 t H locs ht hvm hw hB hz hk hS => ?_)
  obtain ⟨hP1, hK1, hD1⟩ := hB
  rw [ht] at hP1
  obtain ⟨hP, hD⟩ := va_join (wr := []) (w1 := [(a, .inr (2, [.int 1, .ref r_2, .int 0])), (r_2, .inl (u_3, 10, .inr (.inr (.inr (.inr (fun _ => none))))))]) hP hD [0] [] rfl rfl (by decide) (by decide) hk hFc hP1 hD1
  have hK1 := va_K.moved hvm.symm hK1
  have hK := hK.app hK1
  have hK : va_K (dC, dI) vwCl [(u_3, .object "java/lang/Object")] s := hK
  have hP : va_P (dC, dI) vwCl [(a, .inr (2, [.int 1, .ref r_2, .int 0])), (r_2, .inl (u_3, 10, .inr (.inr (.inr (.inr (fun _ => none))))))] H := hP
  have hD : va_D A [(a, .inr (2, [.int 1, .ref r_2, .int 0])), (r_2, .inl (u_3, 10, .inr (.inr (.inr (.inr (fun _ => none))))))] := hD
  have hw : True := hw
  refine lv_astore_n (lv' := [(2, .ref r_2), (0, .ref a), (1, .ref v), (3, .int 0)]) hx hb dJx4a65c_add_72be8_10 rfl hl (by decide) rfl (fun ls hl => ?_)
  refine lv_aload_n hx hb dJx4a65c_add_72be8_11 rfl (lv_at hl 0 rfl) ?_
  refine lv_iload_n hx hb dJx4a65c_add_72be8_12 rfl (lv_at hl 3 rfl) ?_
  refine lv_aload_n hx hb dJx4a65c_add_72be8_13 rfl (lv_at hl 2 rfl) ?_
  refine va_astqM hx hb hK hP hD hS 1 0 rfl rfl (zAny hO hCa hS) (by unfold vp_in; decide +kernel) dJx4a65c_add_72be8_14 (fun H locs hP hD hS => ?_)
  have hP : va_P (dC, dI) vwCl [(a, .inr (2, [.int 1, .ref r_2, .int 0])), (r_2, .inl (u_3, 10, .inr (.inr (.inr (.inr (va_up (fun _ => none) (Int32.toNatClampNeg 0) (some v)))))))] H := hP
  have hD : va_D A [(a, .inr (2, [.int 1, .ref r_2, .int 0])), (r_2, .inl (u_3, 10, .inr (.inr (.inr (.inr (va_up (fun _ => none) (Int32.toNatClampNeg 0) (some v)))))))] := hD
  generalize va_up (fun _ => none) (Int32.toNatClampNeg 0) (some v) = f_4 at hP hD
  refine lv_aload_n hx hb dJx4a65c_add_72be8_15 rfl (lv_at hl 1 rfl) ?_
  refine lv_iload_n hx hb dJx4a65c_add_72be8_16 rfl (lv_at hl 3 rfl) ?_
  refine lv_iconst (v := 1) hx hb dJx4a65c_add_72be8_17 (by decide) ?_
  refine lv_iadd hx hb dJx4a65c_add_72be8_18 ?_
  refine lv_topi (fun y_5 ey_5 => ?_)
  obtain rfl : y_5 = 1 := ey_5.trans (by decide +kernel)
  refine va_put (D := (dC, dI)) (ci := 2) (v := .int 1) (ty := .int) (C := RJx4a65c) (T := TJx4a65c) (N := 3) hx hb hts (fun w h => List.mem_cons_of_mem _ (List.mem_append_right _ (List.mem_append_right _ (h)))) tyJx4a65c tyJx4a65c_ok nmJx4a65c hown hK hP hD hS 0 rfl rfl 2 (by decide) (hts (.fieldLink RJx4a65c 48 "java/util/ArrayList" "size" "I") (by decide +kernel)) (fun _ h9 => h9) rfl (by decide +kernel) rfl rfl (Nat.le_of_ble_eq_true rfl) dJx4a65c_add_72be8_19 (fun H locs hP hD hS => ?_)
  have hP : va_P (dC, dI) vwCl [(a, .inr (2, [.int 1, .ref r_2, .int 1])), (r_2, .inl (u_3, 10, .inr (.inr (.inr (.inr f_4)))))] H := hP
  have hD : va_D A [(a, .inr (2, [.int 1, .ref r_2, .int 1])), (r_2, .inl (u_3, 10, .inr (.inr (.inr (.inr f_4)))))] := hD
  have hP9 := hP.sub (ws' := [(a, .inr (2, [.int 1, .ref r_2, .int 1]))]) [0] rfl
  have hD9 := hD.sub (ws' := [(a, .inr (2, [.int 1, .ref r_2, .int 1]))]) [0] (by decide) rfl
  have hK9 := hK.sub (tys' := []) [] rfl
  refine W.widen (k := 1) (n := 10) (Nat.le_of_ble_eq_true rfl) (Nat.le_of_ble_eq_true rfl) ?_
  exact W.vret hx hb hr (fun t ht hW => ⟨⟨r_2, rfl, trivial, by rw [ht]; exact hP9, va_K.moved hW.alike hK9, hD9⟩, hS.F ht⟩) hS.2.2 dJx4a65c_add_72be8_22

def zwJx4a65c_add_9ea2d : List Cond := .code yJx4a65c_add_9ea2d cJx4a65c_add_9ea2d 2 (some .boolean) :: (([.fieldLink RJx4a65c 63 "java/util/ArrayList" "modCount" "I", .sameField "java/util/ArrayList" "java/util/AbstractList" "modCount" "I", .fieldLink RJx4a65c 9 "java/util/ArrayList" "elementData" "[Ljava/lang/Object;", .fieldLink RJx4a65c 48 "java/util/ArrayList" "size" "I", .methodLink RJx4a65c 131 yJx4a65c_add_72be8, .instanceMethod yJx4a65c_add_72be8, .selects RJx4a65c yJx4a65c_add_72be8 yJx4a65c_add_72be8, .initialized RJx4a65c] : List Cond) ++ (wsJx4a65c0 ++ (zwJx4a65c_add_72be8)))
theorem zgJx4a65c_add_9ea2d : zwJx4a65c_add_9ea2d.all goodWord = true := zgo rfl (zga (by decide +kernel) (zga zgcJx4a65c (zgJx4a65c_add_72be8)))
set_option maxHeartbeats 4000000 in
set_option maxRecDepth 100000 in
theorem c_Jx4a65c_add_9ea2d (l : Launch) (dC : Nat → ClassId) (dI : Nat → Nat → Nat) (sz : Nat) (e0 : Nat) (C : String) (a : Nat) (v : Nat) : Met l yJx4a65c_add_9ea2d zwJx4a65c_add_9ea2d ({ frames := 4, cells := 1, slots := 10, locals := 80 }) (gPcV dC dI sz [(a, .inr (2, [.int 0, .ref e0, .int 0]))] [] e0 C v [.ref a, .ref v]) (va_Qi (fun (r : Int32) (u : Nat) => r = 1) (fun u t => va_P (dC, dI) vwCl [(a, .inr (2, [.int 1, .ref u, .int 1]))] t.heap ∧ va_K (dC, dI) vwCl [] t ∧ va_D (va_A [(a, .inr (2, [.int 0, .ref e0, .int 0]))] sz) [(a, .inr (2, [.int 1, .ref u, .int 1]))]) (va_A [(a, .inr (2, [.int 0, .ref e0, .int 0]))] sz)) 1 10 (va_A [(a, .inr (2, [.int 0, .ref e0, .int 0]))] sz) := by
  refine Met.ofW (cc := cJx4a65c_add_9ea2d) (maxL := 2) (ret := (some .boolean)) (by decide) rfl ?_
  intro p e s m args below meth c s₁ B hml hv
  obtain ⟨rfl, hsz, hP, hK, hD0, hE, hZ, hO, hCa, hAO⟩ := hv
  have hx := B.exec
  have hb := B.bytes
  have hr := B.returns
  have hts := atoms_spec (ws := zwJx4a65c_add_9ea2d) B.pre
  have hown : s.vm.findClass RJx4a65c = some m.cls := findClass_of_methodNamed B.named
  have hlocks := B.notSynchronized
  subst hsz
  have hD := hD0.self (sz := s.heap.size)
  generalize hAe : va_A [(a, .inr (2, [.int 0, .ref e0, .int 0]))] s.heap.size = A at hD hE hZ hO ⊢
  have hA : ∀ q : Nat, s.heap.size ≤ q → A q := fun q h => by rw [← hAe]; exact Or.inr h
  have hS : va_S A s.heap s.heap [] := va_S.rf
  have hP : va_P (dC, dI) vwCl [(a, .inr (2, [.int 0, .ref e0, .int 0]))] s.heap := hP
  have hl := lv_entry ([.ref a, .ref v]) (n := 2) (Nat.le_of_ble_eq_true rfl)
  rw [lg_entry_eq]
  generalize (lg_sl ([.ref a, .ref v]) ++ List.replicate (2 - (lg_sl ([.ref a, .ref v])).length) Slot.unset).toArray = ls at hl ⊢
  have hl : lv_has ls 2 [(0, .ref a), (1, .ref v)] := hl
  refine lv_aload_n hx hb dJx4a65c_add_9ea2d_0 rfl (lv_at hl 0 rfl) ?_
  refine lv_dup hx hb dJx4a65c_add_9ea2d_1 rfl ?_
  refine va_get (D := (dC, dI)) (ci := 2) (v := .int 0) (C := RJx4a65c) (T := TJx4a65c) (N := 3) hx hb hts (fun w h => List.mem_cons_of_mem _ (List.mem_append_right _ (List.mem_append_left _ h))) hown hK hP 0 rfl rfl 0 (by decide) (hts (.fieldLink RJx4a65c 63 "java/util/ArrayList" "modCount" "I") (by decide +kernel)) (fun x9 h9 => u_same (hts (.sameField "java/util/ArrayList" "java/util/AbstractList" "modCount" "I") (by decide +kernel)) x9 h9) rfl dJx4a65c_add_9ea2d_2 ?_
  refine lv_iconst (v := 1) hx hb dJx4a65c_add_9ea2d_5 (by decide) ?_
  refine lv_iadd hx hb dJx4a65c_add_9ea2d_6 ?_
  refine lv_topi (fun y_1 ey_1 => ?_)
  obtain rfl : y_1 = 1 := ey_1.trans (by decide +kernel)
  refine va_put (D := (dC, dI)) (ci := 2) (v := .int 1) (ty := .int) (C := RJx4a65c) (T := TJx4a65c) (N := 3) hx hb hts (fun w h => List.mem_cons_of_mem _ (List.mem_append_right _ (List.mem_append_left _ h))) tyJx4a65c tyJx4a65c_ok nmJx4a65c hown hK hP hD hS 0 rfl rfl 0 (by decide) (hts (.fieldLink RJx4a65c 63 "java/util/ArrayList" "modCount" "I") (by decide +kernel)) (fun x9 h9 => u_same (hts (.sameField "java/util/ArrayList" "java/util/AbstractList" "modCount" "I") (by decide +kernel)) x9 h9) rfl (by decide +kernel) rfl rfl (Nat.le_of_ble_eq_true rfl) dJx4a65c_add_9ea2d_7 (fun H locs hP hD hS => ?_)
  have hP : va_P (dC, dI) vwCl [(a, .inr (2, [.int 1, .ref e0, .int 0]))] H := hP
  have hD : va_D A [(a, .inr (2, [.int 1, .ref e0, .int 0]))] := hD
  refine lv_aload_n hx hb dJx4a65c_add_9ea2d_10 rfl (lv_at hl 0 rfl) ?_
  refine lv_aload_n hx hb dJx4a65c_add_9ea2d_11 rfl (lv_at hl 1 rfl) ?_
  refine lv_aload_n hx hb dJx4a65c_add_9ea2d_12 rfl (lv_at hl 0 rfl) ?_
  refine va_get (D := (dC, dI)) (ci := 2) (v := .ref e0) (C := RJx4a65c) (T := TJx4a65c) (N := 3) hx hb hts (fun w h => List.mem_cons_of_mem _ (List.mem_append_right _ (List.mem_append_left _ h))) hown hK hP 0 rfl rfl 1 (by decide) (hts (.fieldLink RJx4a65c 9 "java/util/ArrayList" "elementData" "[Ljava/lang/Object;") (by decide +kernel)) (fun _ h9 => h9) rfl dJx4a65c_add_9ea2d_13 ?_
  refine lv_aload_n hx hb dJx4a65c_add_9ea2d_16 rfl (lv_at hl 0 rfl) ?_
  refine va_get (D := (dC, dI)) (ci := 2) (v := .int 0) (C := RJx4a65c) (T := TJx4a65c) (N := 3) hx hb hts (fun w h => List.mem_cons_of_mem _ (List.mem_append_right _ (List.mem_append_left _ h))) hown hK hP 0 rfl rfl 2 (by decide) (hts (.fieldLink RJx4a65c 48 "java/util/ArrayList" "size" "I") (by decide +kernel)) (fun _ h9 => h9) rfl dJx4a65c_add_9ea2d_17 ?_
  have hPc := hP.sub (ws' := [(a, .inr (2, [.int 1, .ref e0, .int 0]))]) [0] rfl
  have hDc := hD.sub (ws' := [(a, .inr (2, [.int 1, .ref e0, .int 0]))]) [0] (by decide) rfl
  have hKc := hK.sub (tys' := []) [] rfl
  have hFc := va_free (wc := [(a, .inr (2, [.int 1, .ref e0, .int 0]))]) hD hS hA [0] rfl
  refine va_callv (va_runV (As := [.ref v, .ref e0, .int 0]) (rest := []) ⟨hx, hb, hml, hown, hts⟩ (c_Jx4a65c_add_72be8 l dC dI H.size C a v e0) (cwV 3 hts (goodIn_app (goodIn_of _ (by decide +kernel)) (goodIn_sub ((fun w h => List.mem_cons_of_mem _ (List.mem_append_right _ (List.mem_append_right _ (h))))) zgJx4a65c_add_72be8)) rfl rfl rfl (by decide +kernel) ⟨Nat.le_of_ble_eq_true rfl, Nat.le_of_ble_eq_true rfl⟩) ⟨gPcV_blind, va_recv hK hP (ci := 2) (q0 := 0) rfl rfl, gPcV_pass hPc hKc hDc hE hZ hS hFc (zO_in hO hS hFc) hCa hAO⟩ rfl rfl hl.1 rfl (lv_room (Nat.le_of_ble_eq_true rfl)) dJx4a65c_add_9ea2d_20 ⟨Nat.le_of_ble_eq_true rfl, Nat.le_of_ble_eq_true rfl⟩) hS (fun q _ h => hFc q h) hFc (fun u_3 t H locs ht hvm hw hB hz hk hS => ?_)
  obtain ⟨hP1, hK1, hD1⟩ := hB
  rw [ht] at hP1
  obtain ⟨hP, hD⟩ := va_join (wr := []) (w1 := [(a, .inr (2, [.int 1, .ref u_3, .int 1]))]) hP hD [0] [] rfl rfl (by decide) (by decide) hk hFc hP1 hD1
  have hP : va_P (dC, dI) vwCl [(a, .inr (2, [.int 1, .ref u_3, .int 1]))] H := hP
  have hD : va_D A [(a, .inr (2, [.int 1, .ref u_3, .int 1]))] := hD
  have w_4 : True := hw
  refine lv_iconst (v := 1) hx hb dJx4a65c_add_9ea2d_23 (by decide) ?_
  have hP9 := hP.sub (ws' := [(a, .inr (2, [.int 1, .ref u_3, .int 1]))]) [0] rfl
  have hD9 := hD.sub (ws' := [(a, .inr (2, [.int 1, .ref u_3, .int 1]))]) [0] (by decide) rfl
  have hK9 := hK.sub (tys' := []) [] rfl
  refine W.widen (k := 1) (n := 10) (Nat.le_of_ble_eq_true rfl) (Nat.le_of_ble_eq_true rfl) ?_
  exact W.zret (v := 1) hx hb hr (by decide +kernel) (fun t ht hW => ⟨⟨1, u_3, rfl, rfl, by rw [ht]; exact hP9, va_K.moved hW.alike hK9, hD9⟩, hS.F ht⟩) hS.2.2 dJx4a65c_add_9ea2d_24

def zwJx4a65c_size_1 : List Cond := .code yJx4a65c_size_8abf5 cJx4a65c_size_8abf5 1 (some .int) :: (([.fieldLink RJx4a65c 48 "java/util/ArrayList" "size" "I"] : List Cond) ++ (wsJx4a65c0))
theorem zgJx4a65c_size_1 : zwJx4a65c_size_1.all goodWord = true := zgo rfl (zga (by decide +kernel) (zgcJx4a65c))
set_option maxHeartbeats 4000000 in
set_option maxRecDepth 100000 in
theorem c_Jx4a65c_size_1 (l : Launch) (dC : Nat → ClassId) (dI : Nat → Nat → Nat) (sz : Nat) (e1 : Nat) (a : Nat) : Met l yJx4a65c_size_8abf5 zwJx4a65c_size_1 ({ frames := 0, cells := 0, slots := 0, locals := 0 }) (gPc dC dI sz [(a, .inr (2, [.int 1, .ref e1, .int 1]))] [] [.ref a]) (va_Qi (fun (r : Int32) (u : Unit) => r = 1) (fun u t => va_P (dC, dI) vwCl [(a, .inr (2, [.int 1, .ref e1, .int 1]))] t.heap ∧ va_K (dC, dI) vwCl [] t ∧ va_D (va_A [(a, .inr (2, [.int 1, .ref e1, .int 1]))] sz) [(a, .inr (2, [.int 1, .ref e1, .int 1]))]) (va_A [(a, .inr (2, [.int 1, .ref e1, .int 1]))] sz)) 0 0 (va_A [(a, .inr (2, [.int 1, .ref e1, .int 1]))] sz) := by
  refine Met.ofW (cc := cJx4a65c_size_8abf5) (maxL := 1) (ret := (some .int)) (by decide) rfl ?_
  intro p e s m args below meth c s₁ B hml hv
  obtain ⟨rfl, hsz, hP, hK, hD0⟩ := hv
  have hx := B.exec
  have hb := B.bytes
  have hr := B.returns
  have hts := atoms_spec (ws := zwJx4a65c_size_1) B.pre
  have hown : s.vm.findClass RJx4a65c = some m.cls := findClass_of_methodNamed B.named
  have hlocks := B.notSynchronized
  subst hsz
  have hD := hD0.self (sz := s.heap.size)
  generalize hAe : va_A [(a, .inr (2, [.int 1, .ref e1, .int 1]))] s.heap.size = A at hD ⊢
  have hA : ∀ q : Nat, s.heap.size ≤ q → A q := fun q h => by rw [← hAe]; exact Or.inr h
  have hS : va_S A s.heap s.heap [] := va_S.rf
  have hP : va_P (dC, dI) vwCl [(a, .inr (2, [.int 1, .ref e1, .int 1]))] s.heap := hP
  have hl := lv_entry ([.ref a]) (n := 1) (Nat.le_of_ble_eq_true rfl)
  rw [lg_entry_eq]
  generalize (lg_sl ([.ref a]) ++ List.replicate (1 - (lg_sl ([.ref a])).length) Slot.unset).toArray = ls at hl ⊢
  have hl : lv_has ls 1 [(0, .ref a)] := hl
  refine lv_aload_n hx hb dJx4a65c_size_8abf5_0 rfl (lv_at hl 0 rfl) ?_
  refine va_get (D := (dC, dI)) (ci := 2) (v := .int 1) (C := RJx4a65c) (T := TJx4a65c) (N := 3) hx hb hts (fun w h => List.mem_cons_of_mem _ (List.mem_append_right _ (h))) hown hK hP 0 rfl rfl 2 (by decide) (hts (.fieldLink RJx4a65c 48 "java/util/ArrayList" "size" "I") (by decide +kernel)) (fun _ h9 => h9) rfl dJx4a65c_size_8abf5_1 ?_
  have hP9 := hP.sub (ws' := [(a, .inr (2, [.int 1, .ref e1, .int 1]))]) [0] rfl
  have hD9 := hD.sub (ws' := [(a, .inr (2, [.int 1, .ref e1, .int 1]))]) [0] (by decide) rfl
  have hK9 := hK.sub (tys' := []) [] rfl
  refine W.widen (k := 0) (n := 0) (Nat.le_of_ble_eq_true rfl) (Nat.le_of_ble_eq_true rfl) ?_
  exact W.iret (v := 1) hx hb hr (fun t ht hW => ⟨⟨1, (), rfl, rfl, by rw [ht]; exact hP9, va_K.moved hW.alike hK9, hD9⟩, hS.F ht⟩) hS.2.2 dJx4a65c_size_8abf5_4

def zwJ0_coder_7d493 : List Cond := .code yJ0_coder_7d493 cJ0_coder_7d493 1 (some .byte) :: ([.fieldLink RJ0 38 "java/lang/String" "COMPACT_STRINGS" "Z", .fieldLink RJ0 15 "java/lang/String" "coder" "B"] : List Cond)
theorem zgJ0_coder_7d493 : zwJ0_coder_7d493.all goodWord = true := zgo rfl ((by decide +kernel))
set_option maxHeartbeats 4000000 in
set_option maxRecDepth 100000 in
theorem c_J0_coder_7d493 (l : Launch) (dC : Nat → ClassId) (dI : Nat → Nat → Nat) (sz : Nat) (e0 : Nat) (ad : Nat → Nat) : Met l yJ0_coder_7d493 zwJ0_coder_7d493 ({ frames := 0, cells := 0, slots := 0, locals := 0 }) (gPcM dC dI sz [] [] e0 ad [.ref (ad 256)]) (va_Qi (fun (r : Int32) (u : Unit) => r = 0) (fun u t => True) (va_A [] sz)) 0 0 (va_A [] sz) := by
  refine Met.ofW (cc := cJ0_coder_7d493) (maxL := 1) (ret := (some .byte)) (by decide) rfl ?_
  intro p e s m args below meth c s₁ B hml hv
  obtain ⟨rfl, hsz, hP, hK, hD0, hE, hZ, hM⟩ := hv
  have hx := B.exec
  have hb := B.bytes
  have hr := B.returns
  have hts := atoms_spec (ws := zwJ0_coder_7d493) B.pre
  have hown : s.vm.findClass RJ0 = some m.cls := findClass_of_methodNamed B.named
  have hlocks := B.notSynchronized
  subst hsz
  have hD := hD0.self (sz := s.heap.size)
  generalize hAe : va_A [] s.heap.size = A at hD hE hZ hM ⊢
  have hA : ∀ q : Nat, s.heap.size ≤ q → A q := fun q h => by rw [← hAe]; exact Or.inr h
  have hS : va_S A s.heap s.heap [] := va_S.rf
  have hP : va_P (dC, dI) vwCl [] s.heap := hP
  have hl := lv_entry ([.ref (ad 256)]) (n := 1) (Nat.le_of_ble_eq_true rfl)
  rw [lg_entry_eq]
  generalize (lg_sl ([.ref (ad 256)]) ++ List.replicate (1 - (lg_sl ([.ref (ad 256)])).length) Slot.unset).toArray = ls at hl ⊢
  have hl : lv_has ls 1 [(0, .ref (ad 256))] := hl
  refine va_gets (v := .int 1) hx hb hM.2.2.2.2.2.1 hS hown (hts (.fieldLink RJ0 38 "java/lang/String" "COMPACT_STRINGS" "Z") (by decide +kernel)) (fun _ h9 => h9) dJ0_coder_7d493_0 ?_
  refine lv_if_eq (tgt := 13) hx hb dJ0_coder_7d493_3 (by decide) (fun c_1 => absurd c_1 (by decide)) (fun _ => ?_)
  refine lv_aload_n hx hb dJ0_coder_7d493_6 rfl (lv_at hl 0 rfl) ?_
  refine vk_getf hx hb hM.2.2.1 hS hown (hts (.fieldLink RJ0 15 "java/lang/String" "coder" "B") (by decide +kernel)) (fun _ h9 => h9) dJ0_coder_7d493_7 ?_
  refine lv_goto (tgt := 14) hx hb dJ0_coder_7d493_10 (by decide) ?_
  refine W.widen (k := 0) (n := 0) (Nat.le_of_ble_eq_true rfl) (Nat.le_of_ble_eq_true rfl) ?_
  exact W.zret (v := 0) hx hb hr (by decide +kernel) (fun t ht hW => ⟨⟨0, (), rfl, rfl, trivial⟩, hS.F ht⟩) hS.2.2 dJ0_coder_7d493_14

def zwJ0_length_8abf5 : List Cond := .code yJ0_length_8abf5 cJ0_length_8abf5 1 (some .int) :: (([.fieldLink RJ0 9 "java/lang/String" "value" "[B", .methodLink RJ0 335 yJ0_coder_7d493, .instanceMethod yJ0_coder_7d493, .selects RJ0 yJ0_coder_7d493 yJ0_coder_7d493, .initialized RJ0] : List Cond) ++ (zwJ0_coder_7d493))
theorem zgJ0_length_8abf5 : zwJ0_length_8abf5.all goodWord = true := zgo rfl (zga (by decide +kernel) (zgJ0_coder_7d493))
set_option maxHeartbeats 4000000 in
set_option maxRecDepth 100000 in
theorem c_J0_length_8abf5 (l : Launch) (dC : Nat → ClassId) (dI : Nat → Nat → Nat) (sz : Nat) (e0 : Nat) (ad : Nat → Nat) : Met l yJ0_length_8abf5 zwJ0_length_8abf5 ({ frames := 1, cells := 0, slots := 0, locals := 20 }) (gPcM dC dI sz [] [] e0 ad [.ref (ad 256)]) (va_Qi (fun (r : Int32) (u : Unit) => r = 4) (fun u t => True) (va_A [] sz)) 0 0 (va_A [] sz) := by
  refine Met.ofW (cc := cJ0_length_8abf5) (maxL := 1) (ret := (some .int)) (by decide) rfl ?_
  intro p e s m args below meth c s₁ B hml hv
  obtain ⟨rfl, hsz, hP, hK, hD0, hE, hZ, hM⟩ := hv
  have hx := B.exec
  have hb := B.bytes
  have hr := B.returns
  have hts := atoms_spec (ws := zwJ0_length_8abf5) B.pre
  have hown : s.vm.findClass RJ0 = some m.cls := findClass_of_methodNamed B.named
  have hlocks := B.notSynchronized
  subst hsz
  have hD := hD0.self (sz := s.heap.size)
  generalize hAe : va_A [] s.heap.size = A at hD hE hZ hM ⊢
  have hA : ∀ q : Nat, s.heap.size ≤ q → A q := fun q h => by rw [← hAe]; exact Or.inr h
  have hS : va_S A s.heap s.heap [] := va_S.rf
  have hP : va_P (dC, dI) vwCl [] s.heap := hP
  have hl := lv_entry ([.ref (ad 256)]) (n := 1) (Nat.le_of_ble_eq_true rfl)
  rw [lg_entry_eq]
  generalize (lg_sl ([.ref (ad 256)]) ++ List.replicate (1 - (lg_sl ([.ref (ad 256)])).length) Slot.unset).toArray = ls at hl ⊢
  have hl : lv_has ls 1 [(0, .ref (ad 256))] := hl
  refine lv_aload_n hx hb dJ0_length_8abf5_0 rfl (lv_at hl 0 rfl) ?_
  refine vk_getf hx hb hM.2.2.2.1 hS hown (hts (.fieldLink RJ0 9 "java/lang/String" "value" "[B") (by decide +kernel)) (fun _ h9 => h9) dJ0_length_8abf5_1 ?_
  refine va_tlen (v := 4) hx hb hM.2.2.2.2.1 hS rfl dJ0_length_8abf5_4 ?_
  refine lv_aload_n hx hb dJ0_length_8abf5_5 rfl (lv_at hl 0 rfl) ?_
  have hPc := hP.sub (ws' := []) [] rfl
  have hDc := hD.sub (ws' := []) [] (by decide) rfl
  have hKc := hK.sub (tys' := []) [] rfl
  have hFc := va_free (wc := []) hD hS hA [] rfl
  refine va_calli (va_runV (As := []) (rest := [.int 4]) ⟨hx, hb, hml, hown, hts⟩ (c_J0_coder_7d493 l dC dI s.heap.size e0 ad) (cwV 0 hts (goodIn_app (goodIn_of _ (by decide +kernel)) (goodIn_sub ((fun w h => List.mem_cons_of_mem _ (List.mem_append_right _ (h)))) zgJ0_coder_7d493)) rfl rfl rfl (by decide +kernel) ⟨Nat.le_of_ble_eq_true rfl, Nat.le_of_ble_eq_true rfl⟩) ⟨gPcM_blind, zM_recv hM hS, gPcM_pass hPc hKc hDc hE hZ hM hS hFc⟩ rfl rfl hl.1 rfl (lv_room (Nat.le_of_ble_eq_true rfl)) dJ0_length_8abf5_6 ⟨Nat.le_of_ble_eq_true rfl, Nat.le_of_ble_eq_true rfl⟩) hS (fun q _ h => hFc q h) hFc (fun r_1 u_2 t H locs ht hvm hw hB hz hk hS => ?_)
  obtain ⟨hP, hD⟩ := va_join (wr := []) (w1 := []) hP hD [] [] rfl rfl (by decide) (by decide) hk hFc zP_nil zD_nil
  have hP : va_P (dC, dI) vwCl [] H := hP
  have hD : va_D A [] := hD
  have hw : r_1 = 0 := hw
  subst hw
  refine lv_ishr hx hb dJ0_length_8abf5_9 ?_
  refine lv_topi (fun y_3 ey_3 => ?_)
  obtain rfl : y_3 = 4 := ey_3.trans (by decide +kernel)
  refine W.widen (k := 0) (n := 0) (Nat.le_of_ble_eq_true rfl) (Nat.le_of_ble_eq_true rfl) ?_
  exact W.iret (v := 4) hx hb hr (fun t ht hW => ⟨⟨4, (), rfl, rfl, trivial⟩, hS.F ht⟩) hS.2.2 dJ0_length_8abf5_10

def zwJ6_valueOf_2dffe : List Cond := .code yJ6_valueOf_2dffe cJ6_valueOf_2dffe 1 (some (.object "java/lang/Integer")) :: ([.fieldLink RJ6 191 "java/lang/Integer$IntegerCache" "high" "I", .fieldLink RJ6 195 "java/lang/Integer$IntegerCache" "cache" "[Ljava/lang/Integer;"] : List Cond)
theorem zgJ6_valueOf_2dffe : zwJ6_valueOf_2dffe.all goodWord = true := zgo rfl ((by decide +kernel))
set_option maxHeartbeats 4000000 in
set_option maxRecDepth 100000 in
theorem c_J6_valueOf_2dffe (l : Launch) (dC : Nat → ClassId) (dI : Nat → Nat → Nat) (sz : Nat) (e0 : Nat) (ad : Nat → Nat) : Met l yJ6_valueOf_2dffe zwJ6_valueOf_2dffe ({ frames := 0, cells := 0, slots := 0, locals := 0 }) (gPcM dC dI sz [] [] e0 ad [.int (-1)]) (va_Qr (fun (u : Unit) => True) (fun u ra t => ra = ad 127) (va_A [] sz)) 0 0 (va_A [] sz) := by
  refine Met.ofW (cc := cJ6_valueOf_2dffe) (maxL := 1) (ret := (some (.object "java/lang/Integer"))) (by decide) rfl ?_
  intro p e s m args below meth c s₁ B hml hv
  obtain ⟨rfl, hsz, hP, hK, hD0, hE, hZ, hM⟩ := hv
  have hx := B.exec
  have hb := B.bytes
  have hr := B.returns
  have hts := atoms_spec (ws := zwJ6_valueOf_2dffe) B.pre
  have hown : s.vm.findClass RJ6 = some m.cls := findClass_of_methodNamed B.named
  have hlocks := B.notSynchronized
  subst hsz
  have hD := hD0.self (sz := s.heap.size)
  generalize hAe : va_A [] s.heap.size = A at hD hE hZ hM ⊢
  have hA : ∀ q : Nat, s.heap.size ≤ q → A q := fun q h => by rw [← hAe]; exact Or.inr h
  have hS : va_S A s.heap s.heap [] := va_S.rf
  have hP : va_P (dC, dI) vwCl [] s.heap := hP
  have hl := lv_entry ([.int (-1)]) (n := 1) (Nat.le_of_ble_eq_true rfl)
  rw [lg_entry_eq]
  generalize (lg_sl ([.int (-1)]) ++ List.replicate (1 - (lg_sl ([.int (-1)])).length) Slot.unset).toArray = ls at hl ⊢
  have hl : lv_has ls 1 [(0, .int (-1))] := hl
  refine lv_iload_n hx hb dJ6_valueOf_2dffe_0 rfl (lv_at hl 0 rfl) ?_
  refine lv_bipush (v := (-128)) hx hb dJ6_valueOf_2dffe_1 (by decide) ?_
  refine lv_icmp_lt (tgt := 23) hx hb dJ6_valueOf_2dffe_3 (by decide) (fun c_1 => absurd c_1 (by decide)) (fun _ => ?_)
  refine lv_iload_n hx hb dJ6_valueOf_2dffe_6 rfl (lv_at hl 0 rfl) ?_
  refine va_gets (v := .int 127) hx hb hM.2.2.2.2.2.2.1 hS hown (hts (.fieldLink RJ6 191 "java/lang/Integer$IntegerCache" "high" "I") (by decide +kernel)) (fun _ h9 => h9) dJ6_valueOf_2dffe_7 ?_
  refine lv_icmp_gt (tgt := 23) hx hb dJ6_valueOf_2dffe_10 (by decide) (fun c_2 => absurd c_2 (by decide)) (fun _ => ?_)
  refine va_gets (v := .ref (ad 258)) hx hb hM.2.2.2.2.2.2.2.1 hS hown (hts (.fieldLink RJ6 195 "java/lang/Integer$IntegerCache" "cache" "[Ljava/lang/Integer;") (by decide +kernel)) (fun _ h9 => h9) dJ6_valueOf_2dffe_13 ?_
  refine lv_iload_n hx hb dJ6_valueOf_2dffe_16 rfl (lv_at hl 0 rfl) ?_
  refine lv_sipush (v := 128) hx hb dJ6_valueOf_2dffe_17 (by decide) ?_
  refine lv_iadd hx hb dJ6_valueOf_2dffe_20 ?_
  refine lv_topi (fun y_3 ey_3 => ?_)
  obtain rfl : y_3 = 127 := ey_3.trans (by decide +kernel)
  refine vb_tq (v := .ref (ad 127)) hx hb hM.2.2.2.2.2.2.2.2.1 hS (by unfold vp_in; decide +kernel) (congrArg (fun j => Value.ref (ad j)) (by decide +kernel : Int32.toNatClampNeg 127 = 127)) dJ6_valueOf_2dffe_21 ?_
  refine W.widen (k := 0) (n := 0) (Nat.le_of_ble_eq_true rfl) (Nat.le_of_ble_eq_true rfl) ?_
  exact W.aret (v := .ref (ad 127)) hx hb hr (Or.inl ⟨_, rfl⟩) (Or.inr ⟨_, rfl⟩) (fun t ht hW => ⟨⟨(), (ad 127), rfl, trivial, rfl⟩, hS.F ht⟩) hS.2.2 dJ6_valueOf_2dffe_22

def zwJ7_fill_53178 : List Cond := .code yJ7_fill_53178 cJ7_fill_53178 4 none :: ([] : List Cond)
theorem zgJ7_fill_53178 : zwJ7_fill_53178.all goodWord = true := zgo rfl ((by decide +kernel))
set_option maxHeartbeats 4000000 in
set_option maxRecDepth 100000 in
theorem c_J7_fill_53178 (l : Launch) (dC : Nat → ClassId) (dI : Nat → Nat → Nat) (sz : Nat) (k : ClassId) (fn : Nat → Int32) (a : Nat) : Met l yJ7_fill_53178 zwJ7_fill_53178 ({ frames := 0, cells := 0, slots := 0, locals := 0 }) (gPc dC dI sz [(a, .inl (k, 24, .inl fn))] [(k, .int)] [.ref a, .int (-2)]) (va_Qv (fun (u : Unit) => True) (fun u t => True) (va_A [(a, .inl (k, 24, .inl fn))] sz)) 0 0 (va_A [(a, .inl (k, 24, .inl fn))] sz) := by
  refine Met.ofW (cc := cJ7_fill_53178) (maxL := 4) (ret := none) (by decide) rfl ?_
  intro p e s m args below meth c s₁ B hml hv
  obtain ⟨rfl, hsz, hP, hK, hD0⟩ := hv
  have hx := B.exec
  have hb := B.bytes
  have hr := B.returns
  have hts := atoms_spec (ws := zwJ7_fill_53178) B.pre
  have hown : s.vm.findClass RJ7 = some m.cls := findClass_of_methodNamed B.named
  have hlocks := B.notSynchronized
  subst hsz
  have hD := hD0.self (sz := s.heap.size)
  generalize hAe : va_A [(a, .inl (k, 24, .inl fn))] s.heap.size = A at hD ⊢
  have hA : ∀ q : Nat, s.heap.size ≤ q → A q := fun q h => by rw [← hAe]; exact Or.inr h
  have hS : va_S A s.heap s.heap [] := va_S.rf
  have hP : va_P (dC, dI) vwCl [(a, .inl (k, 24, .inl fn))] s.heap := hP
  have hl := lv_entry ([.ref a, .int (-2)]) (n := 4) (Nat.le_of_ble_eq_true rfl)
  rw [lg_entry_eq]
  generalize (lg_sl ([.ref a, .int (-2)]) ++ List.replicate (4 - (lg_sl ([.ref a, .int (-2)])).length) Slot.unset).toArray = ls at hl ⊢
  have hl : lv_has ls 4 [(0, .ref a), (1, .int (-2))] := hl
  refine lv_iconst (v := 0) hx hb dJ7_fill_53178_0 (by decide) ?_
  refine lv_istore_n (lv' := [(2, .int 0), (0, .ref a), (1, .int (-2))]) hx hb dJ7_fill_53178_1 rfl hl (by decide) rfl (fun ls hl => ?_)
  refine lv_aload_n hx hb dJ7_fill_53178_2 rfl (lv_at hl 1 rfl) ?_
  refine va_alen (v := 24) hx hb hK hP 0 0 rfl rfl rfl dJ7_fill_53178_3 ?_
  refine lv_istore_n (lv' := [(3, .int 24), (2, .int 0), (0, .ref a), (1, .int (-2))]) hx hb dJ7_fill_53178_4 rfl hl (by decide) rfl (fun ls hl => ?_)
  refine lv_iload_n hx hb dJ7_fill_53178_5 rfl (lv_at hl 1 rfl) ?_
  refine lv_iload_n hx hb dJ7_fill_53178_6 rfl (lv_at hl 0 rfl) ?_
  refine lv_icmp_ge (tgt := 20) hx hb dJ7_fill_53178_7 (by decide) (fun c_1 => absurd c_1 (by decide)) (fun _ => ?_)
  refine lv_aload_n hx hb dJ7_fill_53178_10 rfl (lv_at hl 2 rfl) ?_
  refine lv_iload_n hx hb dJ7_fill_53178_11 rfl (lv_at hl 1 rfl) ?_
  refine lv_iload_n hx hb dJ7_fill_53178_12 rfl (lv_at hl 3 rfl) ?_
  refine va_iast hx hb hK hP hD hS 0 0 rfl rfl (by unfold vp_in; decide +kernel) dJ7_fill_53178_13 (fun H locs hP hD hS => ?_)
  have hP : va_P (dC, dI) vwCl [(a, .inl (k, 24, .inl (upd fn (Int32.toNatClampNeg 0) (-2))))] H := hP
  have hD : va_D A [(a, .inl (k, 24, .inl (upd fn (Int32.toNatClampNeg 0) (-2))))] := hD
  generalize upd fn (Int32.toNatClampNeg 0) (-2) = f_2 at hP hD
  refine lv_iinc (v := 1) (lv' := [(2, .int 1), (3, .int 24), (0, .ref a), (1, .int (-2))]) hx hb dJ7_fill_53178_14 hl (k := 1) rfl (by decide) (by decide) rfl (fun ls hl => ?_)
  refine lv_goto (tgt := 5) hx hb dJ7_fill_53178_17 (by decide) ?_
  refine lv_iload_n hx hb dJ7_fill_53178_5 rfl (lv_at hl 0 rfl) ?_
  refine lv_iload_n hx hb dJ7_fill_53178_6 rfl (lv_at hl 1 rfl) ?_
  refine lv_icmp_ge (tgt := 20) hx hb dJ7_fill_53178_7 (by decide) (fun c_3 => absurd c_3 (by decide)) (fun _ => ?_)
  refine lv_aload_n hx hb dJ7_fill_53178_10 rfl (lv_at hl 2 rfl) ?_
  refine lv_iload_n hx hb dJ7_fill_53178_11 rfl (lv_at hl 0 rfl) ?_
  refine lv_iload_n hx hb dJ7_fill_53178_12 rfl (lv_at hl 3 rfl) ?_
  refine va_iast hx hb hK hP hD hS 0 0 rfl rfl (by unfold vp_in; decide +kernel) dJ7_fill_53178_13 (fun H locs hP hD hS => ?_)
  have hP : va_P (dC, dI) vwCl [(a, .inl (k, 24, .inl (upd f_2 (Int32.toNatClampNeg 1) (-2))))] H := hP
  have hD : va_D A [(a, .inl (k, 24, .inl (upd f_2 (Int32.toNatClampNeg 1) (-2))))] := hD
  generalize upd f_2 (Int32.toNatClampNeg 1) (-2) = f_4 at hP hD
  refine lv_iinc (v := 2) (lv' := [(2, .int 2), (3, .int 24), (0, .ref a), (1, .int (-2))]) hx hb dJ7_fill_53178_14 hl (k := 0) rfl (by decide) (by decide) rfl (fun ls hl => ?_)
  refine lv_goto (tgt := 5) hx hb dJ7_fill_53178_17 (by decide) ?_
  refine lv_iload_n hx hb dJ7_fill_53178_5 rfl (lv_at hl 0 rfl) ?_
  refine lv_iload_n hx hb dJ7_fill_53178_6 rfl (lv_at hl 1 rfl) ?_
  refine lv_icmp_ge (tgt := 20) hx hb dJ7_fill_53178_7 (by decide) (fun c_5 => absurd c_5 (by decide)) (fun _ => ?_)
  refine lv_aload_n hx hb dJ7_fill_53178_10 rfl (lv_at hl 2 rfl) ?_
  refine lv_iload_n hx hb dJ7_fill_53178_11 rfl (lv_at hl 0 rfl) ?_
  refine lv_iload_n hx hb dJ7_fill_53178_12 rfl (lv_at hl 3 rfl) ?_
  refine va_iast hx hb hK hP hD hS 0 0 rfl rfl (by unfold vp_in; decide +kernel) dJ7_fill_53178_13 (fun H locs hP hD hS => ?_)
  have hP : va_P (dC, dI) vwCl [(a, .inl (k, 24, .inl (upd f_4 (Int32.toNatClampNeg 2) (-2))))] H := hP
  have hD : va_D A [(a, .inl (k, 24, .inl (upd f_4 (Int32.toNatClampNeg 2) (-2))))] := hD
  generalize upd f_4 (Int32.toNatClampNeg 2) (-2) = f_6 at hP hD
  refine lv_iinc (v := 3) (lv' := [(2, .int 3), (3, .int 24), (0, .ref a), (1, .int (-2))]) hx hb dJ7_fill_53178_14 hl (k := 0) rfl (by decide) (by decide) rfl (fun ls hl => ?_)
  refine lv_goto (tgt := 5) hx hb dJ7_fill_53178_17 (by decide) ?_
  refine lv_iload_n hx hb dJ7_fill_53178_5 rfl (lv_at hl 0 rfl) ?_
  refine lv_iload_n hx hb dJ7_fill_53178_6 rfl (lv_at hl 1 rfl) ?_
  refine lv_icmp_ge (tgt := 20) hx hb dJ7_fill_53178_7 (by decide) (fun c_7 => absurd c_7 (by decide)) (fun _ => ?_)
  refine lv_aload_n hx hb dJ7_fill_53178_10 rfl (lv_at hl 2 rfl) ?_
  refine lv_iload_n hx hb dJ7_fill_53178_11 rfl (lv_at hl 0 rfl) ?_
  refine lv_iload_n hx hb dJ7_fill_53178_12 rfl (lv_at hl 3 rfl) ?_
  refine va_iast hx hb hK hP hD hS 0 0 rfl rfl (by unfold vp_in; decide +kernel) dJ7_fill_53178_13 (fun H locs hP hD hS => ?_)
  have hP : va_P (dC, dI) vwCl [(a, .inl (k, 24, .inl (upd f_6 (Int32.toNatClampNeg 3) (-2))))] H := hP
  have hD : va_D A [(a, .inl (k, 24, .inl (upd f_6 (Int32.toNatClampNeg 3) (-2))))] := hD
  generalize upd f_6 (Int32.toNatClampNeg 3) (-2) = f_8 at hP hD
  refine lv_iinc (v := 4) (lv' := [(2, .int 4), (3, .int 24), (0, .ref a), (1, .int (-2))]) hx hb dJ7_fill_53178_14 hl (k := 0) rfl (by decide) (by decide) rfl (fun ls hl => ?_)
  refine lv_goto (tgt := 5) hx hb dJ7_fill_53178_17 (by decide) ?_
  refine lv_iload_n hx hb dJ7_fill_53178_5 rfl (lv_at hl 0 rfl) ?_
  refine lv_iload_n hx hb dJ7_fill_53178_6 rfl (lv_at hl 1 rfl) ?_
  refine lv_icmp_ge (tgt := 20) hx hb dJ7_fill_53178_7 (by decide) (fun c_9 => absurd c_9 (by decide)) (fun _ => ?_)
  refine lv_aload_n hx hb dJ7_fill_53178_10 rfl (lv_at hl 2 rfl) ?_
  refine lv_iload_n hx hb dJ7_fill_53178_11 rfl (lv_at hl 0 rfl) ?_
  refine lv_iload_n hx hb dJ7_fill_53178_12 rfl (lv_at hl 3 rfl) ?_
  refine va_iast hx hb hK hP hD hS 0 0 rfl rfl (by unfold vp_in; decide +kernel) dJ7_fill_53178_13 (fun H locs hP hD hS => ?_)
  have hP : va_P (dC, dI) vwCl [(a, .inl (k, 24, .inl (upd f_8 (Int32.toNatClampNeg 4) (-2))))] H := hP
  have hD : va_D A [(a, .inl (k, 24, .inl (upd f_8 (Int32.toNatClampNeg 4) (-2))))] := hD
  generalize upd f_8 (Int32.toNatClampNeg 4) (-2) = f_10 at hP hD
  refine lv_iinc (v := 5) (lv' := [(2, .int 5), (3, .int 24), (0, .ref a), (1, .int (-2))]) hx hb dJ7_fill_53178_14 hl (k := 0) rfl (by decide) (by decide) rfl (fun ls hl => ?_)
  refine lv_goto (tgt := 5) hx hb dJ7_fill_53178_17 (by decide) ?_
  refine lv_iload_n hx hb dJ7_fill_53178_5 rfl (lv_at hl 0 rfl) ?_
  refine lv_iload_n hx hb dJ7_fill_53178_6 rfl (lv_at hl 1 rfl) ?_
  refine lv_icmp_ge (tgt := 20) hx hb dJ7_fill_53178_7 (by decide) (fun c_11 => absurd c_11 (by decide)) (fun _ => ?_)
  refine lv_aload_n hx hb dJ7_fill_53178_10 rfl (lv_at hl 2 rfl) ?_
  refine lv_iload_n hx hb dJ7_fill_53178_11 rfl (lv_at hl 0 rfl) ?_
  refine lv_iload_n hx hb dJ7_fill_53178_12 rfl (lv_at hl 3 rfl) ?_
  refine va_iast hx hb hK hP hD hS 0 0 rfl rfl (by unfold vp_in; decide +kernel) dJ7_fill_53178_13 (fun H locs hP hD hS => ?_)
  have hP : va_P (dC, dI) vwCl [(a, .inl (k, 24, .inl (upd f_10 (Int32.toNatClampNeg 5) (-2))))] H := hP
  have hD : va_D A [(a, .inl (k, 24, .inl (upd f_10 (Int32.toNatClampNeg 5) (-2))))] := hD
  generalize upd f_10 (Int32.toNatClampNeg 5) (-2) = f_12 at hP hD
  refine lv_iinc (v := 6) (lv' := [(2, .int 6), (3, .int 24), (0, .ref a), (1, .int (-2))]) hx hb dJ7_fill_53178_14 hl (k := 0) rfl (by decide) (by decide) rfl (fun ls hl => ?_)
  refine lv_goto (tgt := 5) hx hb dJ7_fill_53178_17 (by decide) ?_
  refine lv_iload_n hx hb dJ7_fill_53178_5 rfl (lv_at hl 0 rfl) ?_
  refine lv_iload_n hx hb dJ7_fill_53178_6 rfl (lv_at hl 1 rfl) ?_
  refine lv_icmp_ge (tgt := 20) hx hb dJ7_fill_53178_7 (by decide) (fun c_13 => absurd c_13 (by decide)) (fun _ => ?_)
  refine lv_aload_n hx hb dJ7_fill_53178_10 rfl (lv_at hl 2 rfl) ?_
  refine lv_iload_n hx hb dJ7_fill_53178_11 rfl (lv_at hl 0 rfl) ?_
  refine lv_iload_n hx hb dJ7_fill_53178_12 rfl (lv_at hl 3 rfl) ?_
  refine va_iast hx hb hK hP hD hS 0 0 rfl rfl (by unfold vp_in; decide +kernel) dJ7_fill_53178_13 (fun H locs hP hD hS => ?_)
  have hP : va_P (dC, dI) vwCl [(a, .inl (k, 24, .inl (upd f_12 (Int32.toNatClampNeg 6) (-2))))] H := hP
  have hD : va_D A [(a, .inl (k, 24, .inl (upd f_12 (Int32.toNatClampNeg 6) (-2))))] := hD
  generalize upd f_12 (Int32.toNatClampNeg 6) (-2) = f_14 at hP hD
  refine lv_iinc (v := 7) (lv' := [(2, .int 7), (3, .int 24), (0, .ref a), (1, .int (-2))]) hx hb dJ7_fill_53178_14 hl (k := 0) rfl (by decide) (by decide) rfl (fun ls hl => ?_)
  refine lv_goto (tgt := 5) hx hb dJ7_fill_53178_17 (by decide) ?_
  refine lv_iload_n hx hb dJ7_fill_53178_5 rfl (lv_at hl 0 rfl) ?_
  refine lv_iload_n hx hb dJ7_fill_53178_6 rfl (lv_at hl 1 rfl) ?_
  refine lv_icmp_ge (tgt := 20) hx hb dJ7_fill_53178_7 (by decide) (fun c_15 => absurd c_15 (by decide)) (fun _ => ?_)
  refine lv_aload_n hx hb dJ7_fill_53178_10 rfl (lv_at hl 2 rfl) ?_
  refine lv_iload_n hx hb dJ7_fill_53178_11 rfl (lv_at hl 0 rfl) ?_
  refine lv_iload_n hx hb dJ7_fill_53178_12 rfl (lv_at hl 3 rfl) ?_
  refine va_iast hx hb hK hP hD hS 0 0 rfl rfl (by unfold vp_in; decide +kernel) dJ7_fill_53178_13 (fun H locs hP hD hS => ?_)
  have hP : va_P (dC, dI) vwCl [(a, .inl (k, 24, .inl (upd f_14 (Int32.toNatClampNeg 7) (-2))))] H := hP
  have hD : va_D A [(a, .inl (k, 24, .inl (upd f_14 (Int32.toNatClampNeg 7) (-2))))] := hD
  generalize upd f_14 (Int32.toNatClampNeg 7) (-2) = f_16 at hP hD
  refine lv_iinc (v := 8) (lv' := [(2, .int 8), (3, .int 24), (0, .ref a), (1, .int (-2))]) hx hb dJ7_fill_53178_14 hl (k := 0) rfl (by decide) (by decide) rfl (fun ls hl => ?_)
  refine lv_goto (tgt := 5) hx hb dJ7_fill_53178_17 (by decide) ?_
  refine lv_iload_n hx hb dJ7_fill_53178_5 rfl (lv_at hl 0 rfl) ?_
  refine lv_iload_n hx hb dJ7_fill_53178_6 rfl (lv_at hl 1 rfl) ?_
  refine lv_icmp_ge (tgt := 20) hx hb dJ7_fill_53178_7 (by decide) (fun c_17 => absurd c_17 (by decide)) (fun _ => ?_)
  refine lv_aload_n hx hb dJ7_fill_53178_10 rfl (lv_at hl 2 rfl) ?_
  refine lv_iload_n hx hb dJ7_fill_53178_11 rfl (lv_at hl 0 rfl) ?_
  refine lv_iload_n hx hb dJ7_fill_53178_12 rfl (lv_at hl 3 rfl) ?_
  refine va_iast hx hb hK hP hD hS 0 0 rfl rfl (by unfold vp_in; decide +kernel) dJ7_fill_53178_13 (fun H locs hP hD hS => ?_)
  have hP : va_P (dC, dI) vwCl [(a, .inl (k, 24, .inl (upd f_16 (Int32.toNatClampNeg 8) (-2))))] H := hP
  have hD : va_D A [(a, .inl (k, 24, .inl (upd f_16 (Int32.toNatClampNeg 8) (-2))))] := hD
  generalize upd f_16 (Int32.toNatClampNeg 8) (-2) = f_18 at hP hD
  refine lv_iinc (v := 9) (lv' := [(2, .int 9), (3, .int 24), (0, .ref a), (1, .int (-2))]) hx hb dJ7_fill_53178_14 hl (k := 0) rfl (by decide) (by decide) rfl (fun ls hl => ?_)
  refine lv_goto (tgt := 5) hx hb dJ7_fill_53178_17 (by decide) ?_
  refine lv_iload_n hx hb dJ7_fill_53178_5 rfl (lv_at hl 0 rfl) ?_
  refine lv_iload_n hx hb dJ7_fill_53178_6 rfl (lv_at hl 1 rfl) ?_
  refine lv_icmp_ge (tgt := 20) hx hb dJ7_fill_53178_7 (by decide) (fun c_19 => absurd c_19 (by decide)) (fun _ => ?_)
  refine lv_aload_n hx hb dJ7_fill_53178_10 rfl (lv_at hl 2 rfl) ?_
  refine lv_iload_n hx hb dJ7_fill_53178_11 rfl (lv_at hl 0 rfl) ?_
  refine lv_iload_n hx hb dJ7_fill_53178_12 rfl (lv_at hl 3 rfl) ?_
  refine va_iast hx hb hK hP hD hS 0 0 rfl rfl (by unfold vp_in; decide +kernel) dJ7_fill_53178_13 (fun H locs hP hD hS => ?_)
  have hP : va_P (dC, dI) vwCl [(a, .inl (k, 24, .inl (upd f_18 (Int32.toNatClampNeg 9) (-2))))] H := hP
  have hD : va_D A [(a, .inl (k, 24, .inl (upd f_18 (Int32.toNatClampNeg 9) (-2))))] := hD
  generalize upd f_18 (Int32.toNatClampNeg 9) (-2) = f_20 at hP hD
  refine lv_iinc (v := 10) (lv' := [(2, .int 10), (3, .int 24), (0, .ref a), (1, .int (-2))]) hx hb dJ7_fill_53178_14 hl (k := 0) rfl (by decide) (by decide) rfl (fun ls hl => ?_)
  refine lv_goto (tgt := 5) hx hb dJ7_fill_53178_17 (by decide) ?_
  refine lv_iload_n hx hb dJ7_fill_53178_5 rfl (lv_at hl 0 rfl) ?_
  refine lv_iload_n hx hb dJ7_fill_53178_6 rfl (lv_at hl 1 rfl) ?_
  refine lv_icmp_ge (tgt := 20) hx hb dJ7_fill_53178_7 (by decide) (fun c_21 => absurd c_21 (by decide)) (fun _ => ?_)
  refine lv_aload_n hx hb dJ7_fill_53178_10 rfl (lv_at hl 2 rfl) ?_
  refine lv_iload_n hx hb dJ7_fill_53178_11 rfl (lv_at hl 0 rfl) ?_
  refine lv_iload_n hx hb dJ7_fill_53178_12 rfl (lv_at hl 3 rfl) ?_
  refine va_iast hx hb hK hP hD hS 0 0 rfl rfl (by unfold vp_in; decide +kernel) dJ7_fill_53178_13 (fun H locs hP hD hS => ?_)
  have hP : va_P (dC, dI) vwCl [(a, .inl (k, 24, .inl (upd f_20 (Int32.toNatClampNeg 10) (-2))))] H := hP
  have hD : va_D A [(a, .inl (k, 24, .inl (upd f_20 (Int32.toNatClampNeg 10) (-2))))] := hD
  generalize upd f_20 (Int32.toNatClampNeg 10) (-2) = f_22 at hP hD
  refine lv_iinc (v := 11) (lv' := [(2, .int 11), (3, .int 24), (0, .ref a), (1, .int (-2))]) hx hb dJ7_fill_53178_14 hl (k := 0) rfl (by decide) (by decide) rfl (fun ls hl => ?_)
  refine lv_goto (tgt := 5) hx hb dJ7_fill_53178_17 (by decide) ?_
  refine lv_iload_n hx hb dJ7_fill_53178_5 rfl (lv_at hl 0 rfl) ?_
  refine lv_iload_n hx hb dJ7_fill_53178_6 rfl (lv_at hl 1 rfl) ?_
  refine lv_icmp_ge (tgt := 20) hx hb dJ7_fill_53178_7 (by decide) (fun c_23 => absurd c_23 (by decide)) (fun _ => ?_)
  refine lv_aload_n hx hb dJ7_fill_53178_10 rfl (lv_at hl 2 rfl) ?_
  refine lv_iload_n hx hb dJ7_fill_53178_11 rfl (lv_at hl 0 rfl) ?_
  refine lv_iload_n hx hb dJ7_fill_53178_12 rfl (lv_at hl 3 rfl) ?_
  refine va_iast hx hb hK hP hD hS 0 0 rfl rfl (by unfold vp_in; decide +kernel) dJ7_fill_53178_13 (fun H locs hP hD hS => ?_)
  have hP : va_P (dC, dI) vwCl [(a, .inl (k, 24, .inl (upd f_22 (Int32.toNatClampNeg 11) (-2))))] H := hP
  have hD : va_D A [(a, .inl (k, 24, .inl (upd f_22 (Int32.toNatClampNeg 11) (-2))))] := hD
  generalize upd f_22 (Int32.toNatClampNeg 11) (-2) = f_24 at hP hD
  refine lv_iinc (v := 12) (lv' := [(2, .int 12), (3, .int 24), (0, .ref a), (1, .int (-2))]) hx hb dJ7_fill_53178_14 hl (k := 0) rfl (by decide) (by decide) rfl (fun ls hl => ?_)
  refine lv_goto (tgt := 5) hx hb dJ7_fill_53178_17 (by decide) ?_
  refine lv_iload_n hx hb dJ7_fill_53178_5 rfl (lv_at hl 0 rfl) ?_
  refine lv_iload_n hx hb dJ7_fill_53178_6 rfl (lv_at hl 1 rfl) ?_
  refine lv_icmp_ge (tgt := 20) hx hb dJ7_fill_53178_7 (by decide) (fun c_25 => absurd c_25 (by decide)) (fun _ => ?_)
  refine lv_aload_n hx hb dJ7_fill_53178_10 rfl (lv_at hl 2 rfl) ?_
  refine lv_iload_n hx hb dJ7_fill_53178_11 rfl (lv_at hl 0 rfl) ?_
  refine lv_iload_n hx hb dJ7_fill_53178_12 rfl (lv_at hl 3 rfl) ?_
  refine va_iast hx hb hK hP hD hS 0 0 rfl rfl (by unfold vp_in; decide +kernel) dJ7_fill_53178_13 (fun H locs hP hD hS => ?_)
  have hP : va_P (dC, dI) vwCl [(a, .inl (k, 24, .inl (upd f_24 (Int32.toNatClampNeg 12) (-2))))] H := hP
  have hD : va_D A [(a, .inl (k, 24, .inl (upd f_24 (Int32.toNatClampNeg 12) (-2))))] := hD
  generalize upd f_24 (Int32.toNatClampNeg 12) (-2) = f_26 at hP hD
  refine lv_iinc (v := 13) (lv' := [(2, .int 13), (3, .int 24), (0, .ref a), (1, .int (-2))]) hx hb dJ7_fill_53178_14 hl (k := 0) rfl (by decide) (by decide) rfl (fun ls hl => ?_)
  refine lv_goto (tgt := 5) hx hb dJ7_fill_53178_17 (by decide) ?_
  refine lv_iload_n hx hb dJ7_fill_53178_5 rfl (lv_at hl 0 rfl) ?_
  refine lv_iload_n hx hb dJ7_fill_53178_6 rfl (lv_at hl 1 rfl) ?_
  refine lv_icmp_ge (tgt := 20) hx hb dJ7_fill_53178_7 (by decide) (fun c_27 => absurd c_27 (by decide)) (fun _ => ?_)
  refine lv_aload_n hx hb dJ7_fill_53178_10 rfl (lv_at hl 2 rfl) ?_
  refine lv_iload_n hx hb dJ7_fill_53178_11 rfl (lv_at hl 0 rfl) ?_
  refine lv_iload_n hx hb dJ7_fill_53178_12 rfl (lv_at hl 3 rfl) ?_
  refine va_iast hx hb hK hP hD hS 0 0 rfl rfl (by unfold vp_in; decide +kernel) dJ7_fill_53178_13 (fun H locs hP hD hS => ?_)
  have hP : va_P (dC, dI) vwCl [(a, .inl (k, 24, .inl (upd f_26 (Int32.toNatClampNeg 13) (-2))))] H := hP
  have hD : va_D A [(a, .inl (k, 24, .inl (upd f_26 (Int32.toNatClampNeg 13) (-2))))] := hD
  generalize upd f_26 (Int32.toNatClampNeg 13) (-2) = f_28 at hP hD
  refine lv_iinc (v := 14) (lv' := [(2, .int 14), (3, .int 24), (0, .ref a), (1, .int (-2))]) hx hb dJ7_fill_53178_14 hl (k := 0) rfl (by decide) (by decide) rfl (fun ls hl => ?_)
  refine lv_goto (tgt := 5) hx hb dJ7_fill_53178_17 (by decide) ?_
  refine lv_iload_n hx hb dJ7_fill_53178_5 rfl (lv_at hl 0 rfl) ?_
  refine lv_iload_n hx hb dJ7_fill_53178_6 rfl (lv_at hl 1 rfl) ?_
  refine lv_icmp_ge (tgt := 20) hx hb dJ7_fill_53178_7 (by decide) (fun c_29 => absurd c_29 (by decide)) (fun _ => ?_)
  refine lv_aload_n hx hb dJ7_fill_53178_10 rfl (lv_at hl 2 rfl) ?_
  refine lv_iload_n hx hb dJ7_fill_53178_11 rfl (lv_at hl 0 rfl) ?_
  refine lv_iload_n hx hb dJ7_fill_53178_12 rfl (lv_at hl 3 rfl) ?_
  refine va_iast hx hb hK hP hD hS 0 0 rfl rfl (by unfold vp_in; decide +kernel) dJ7_fill_53178_13 (fun H locs hP hD hS => ?_)
  have hP : va_P (dC, dI) vwCl [(a, .inl (k, 24, .inl (upd f_28 (Int32.toNatClampNeg 14) (-2))))] H := hP
  have hD : va_D A [(a, .inl (k, 24, .inl (upd f_28 (Int32.toNatClampNeg 14) (-2))))] := hD
  generalize upd f_28 (Int32.toNatClampNeg 14) (-2) = f_30 at hP hD
  refine lv_iinc (v := 15) (lv' := [(2, .int 15), (3, .int 24), (0, .ref a), (1, .int (-2))]) hx hb dJ7_fill_53178_14 hl (k := 0) rfl (by decide) (by decide) rfl (fun ls hl => ?_)
  refine lv_goto (tgt := 5) hx hb dJ7_fill_53178_17 (by decide) ?_
  refine lv_iload_n hx hb dJ7_fill_53178_5 rfl (lv_at hl 0 rfl) ?_
  refine lv_iload_n hx hb dJ7_fill_53178_6 rfl (lv_at hl 1 rfl) ?_
  refine lv_icmp_ge (tgt := 20) hx hb dJ7_fill_53178_7 (by decide) (fun c_31 => absurd c_31 (by decide)) (fun _ => ?_)
  refine lv_aload_n hx hb dJ7_fill_53178_10 rfl (lv_at hl 2 rfl) ?_
  refine lv_iload_n hx hb dJ7_fill_53178_11 rfl (lv_at hl 0 rfl) ?_
  refine lv_iload_n hx hb dJ7_fill_53178_12 rfl (lv_at hl 3 rfl) ?_
  refine va_iast hx hb hK hP hD hS 0 0 rfl rfl (by unfold vp_in; decide +kernel) dJ7_fill_53178_13 (fun H locs hP hD hS => ?_)
  have hP : va_P (dC, dI) vwCl [(a, .inl (k, 24, .inl (upd f_30 (Int32.toNatClampNeg 15) (-2))))] H := hP
  have hD : va_D A [(a, .inl (k, 24, .inl (upd f_30 (Int32.toNatClampNeg 15) (-2))))] := hD
  generalize upd f_30 (Int32.toNatClampNeg 15) (-2) = f_32 at hP hD
  refine lv_iinc (v := 16) (lv' := [(2, .int 16), (3, .int 24), (0, .ref a), (1, .int (-2))]) hx hb dJ7_fill_53178_14 hl (k := 0) rfl (by decide) (by decide) rfl (fun ls hl => ?_)
  refine lv_goto (tgt := 5) hx hb dJ7_fill_53178_17 (by decide) ?_
  refine lv_iload_n hx hb dJ7_fill_53178_5 rfl (lv_at hl 0 rfl) ?_
  refine lv_iload_n hx hb dJ7_fill_53178_6 rfl (lv_at hl 1 rfl) ?_
  refine lv_icmp_ge (tgt := 20) hx hb dJ7_fill_53178_7 (by decide) (fun c_33 => absurd c_33 (by decide)) (fun _ => ?_)
  refine lv_aload_n hx hb dJ7_fill_53178_10 rfl (lv_at hl 2 rfl) ?_
  refine lv_iload_n hx hb dJ7_fill_53178_11 rfl (lv_at hl 0 rfl) ?_
  refine lv_iload_n hx hb dJ7_fill_53178_12 rfl (lv_at hl 3 rfl) ?_
  refine va_iast hx hb hK hP hD hS 0 0 rfl rfl (by unfold vp_in; decide +kernel) dJ7_fill_53178_13 (fun H locs hP hD hS => ?_)
  have hP : va_P (dC, dI) vwCl [(a, .inl (k, 24, .inl (upd f_32 (Int32.toNatClampNeg 16) (-2))))] H := hP
  have hD : va_D A [(a, .inl (k, 24, .inl (upd f_32 (Int32.toNatClampNeg 16) (-2))))] := hD
  generalize upd f_32 (Int32.toNatClampNeg 16) (-2) = f_34 at hP hD
  refine lv_iinc (v := 17) (lv' := [(2, .int 17), (3, .int 24), (0, .ref a), (1, .int (-2))]) hx hb dJ7_fill_53178_14 hl (k := 0) rfl (by decide) (by decide) rfl (fun ls hl => ?_)
  refine lv_goto (tgt := 5) hx hb dJ7_fill_53178_17 (by decide) ?_
  refine lv_iload_n hx hb dJ7_fill_53178_5 rfl (lv_at hl 0 rfl) ?_
  refine lv_iload_n hx hb dJ7_fill_53178_6 rfl (lv_at hl 1 rfl) ?_
  refine lv_icmp_ge (tgt := 20) hx hb dJ7_fill_53178_7 (by decide) (fun c_35 => absurd c_35 (by decide)) (fun _ => ?_)
  refine lv_aload_n hx hb dJ7_fill_53178_10 rfl (lv_at hl 2 rfl) ?_
  refine lv_iload_n hx hb dJ7_fill_53178_11 rfl (lv_at hl 0 rfl) ?_
  refine lv_iload_n hx hb dJ7_fill_53178_12 rfl (lv_at hl 3 rfl) ?_
  refine va_iast hx hb hK hP hD hS 0 0 rfl rfl (by unfold vp_in; decide +kernel) dJ7_fill_53178_13 (fun H locs hP hD hS => ?_)
  have hP : va_P (dC, dI) vwCl [(a, .inl (k, 24, .inl (upd f_34 (Int32.toNatClampNeg 17) (-2))))] H := hP
  have hD : va_D A [(a, .inl (k, 24, .inl (upd f_34 (Int32.toNatClampNeg 17) (-2))))] := hD
  generalize upd f_34 (Int32.toNatClampNeg 17) (-2) = f_36 at hP hD
  refine lv_iinc (v := 18) (lv' := [(2, .int 18), (3, .int 24), (0, .ref a), (1, .int (-2))]) hx hb dJ7_fill_53178_14 hl (k := 0) rfl (by decide) (by decide) rfl (fun ls hl => ?_)
  refine lv_goto (tgt := 5) hx hb dJ7_fill_53178_17 (by decide) ?_
  refine lv_iload_n hx hb dJ7_fill_53178_5 rfl (lv_at hl 0 rfl) ?_
  refine lv_iload_n hx hb dJ7_fill_53178_6 rfl (lv_at hl 1 rfl) ?_
  refine lv_icmp_ge (tgt := 20) hx hb dJ7_fill_53178_7 (by decide) (fun c_37 => absurd c_37 (by decide)) (fun _ => ?_)
  refine lv_aload_n hx hb dJ7_fill_53178_10 rfl (lv_at hl 2 rfl) ?_
  refine lv_iload_n hx hb dJ7_fill_53178_11 rfl (lv_at hl 0 rfl) ?_
  refine lv_iload_n hx hb dJ7_fill_53178_12 rfl (lv_at hl 3 rfl) ?_
  refine va_iast hx hb hK hP hD hS 0 0 rfl rfl (by unfold vp_in; decide +kernel) dJ7_fill_53178_13 (fun H locs hP hD hS => ?_)
  have hP : va_P (dC, dI) vwCl [(a, .inl (k, 24, .inl (upd f_36 (Int32.toNatClampNeg 18) (-2))))] H := hP
  have hD : va_D A [(a, .inl (k, 24, .inl (upd f_36 (Int32.toNatClampNeg 18) (-2))))] := hD
  generalize upd f_36 (Int32.toNatClampNeg 18) (-2) = f_38 at hP hD
  refine lv_iinc (v := 19) (lv' := [(2, .int 19), (3, .int 24), (0, .ref a), (1, .int (-2))]) hx hb dJ7_fill_53178_14 hl (k := 0) rfl (by decide) (by decide) rfl (fun ls hl => ?_)
  refine lv_goto (tgt := 5) hx hb dJ7_fill_53178_17 (by decide) ?_
  refine lv_iload_n hx hb dJ7_fill_53178_5 rfl (lv_at hl 0 rfl) ?_
  refine lv_iload_n hx hb dJ7_fill_53178_6 rfl (lv_at hl 1 rfl) ?_
  refine lv_icmp_ge (tgt := 20) hx hb dJ7_fill_53178_7 (by decide) (fun c_39 => absurd c_39 (by decide)) (fun _ => ?_)
  refine lv_aload_n hx hb dJ7_fill_53178_10 rfl (lv_at hl 2 rfl) ?_
  refine lv_iload_n hx hb dJ7_fill_53178_11 rfl (lv_at hl 0 rfl) ?_
  refine lv_iload_n hx hb dJ7_fill_53178_12 rfl (lv_at hl 3 rfl) ?_
  refine va_iast hx hb hK hP hD hS 0 0 rfl rfl (by unfold vp_in; decide +kernel) dJ7_fill_53178_13 (fun H locs hP hD hS => ?_)
  have hP : va_P (dC, dI) vwCl [(a, .inl (k, 24, .inl (upd f_38 (Int32.toNatClampNeg 19) (-2))))] H := hP
  have hD : va_D A [(a, .inl (k, 24, .inl (upd f_38 (Int32.toNatClampNeg 19) (-2))))] := hD
  generalize upd f_38 (Int32.toNatClampNeg 19) (-2) = f_40 at hP hD
  refine lv_iinc (v := 20) (lv' := [(2, .int 20), (3, .int 24), (0, .ref a), (1, .int (-2))]) hx hb dJ7_fill_53178_14 hl (k := 0) rfl (by decide) (by decide) rfl (fun ls hl => ?_)
  refine lv_goto (tgt := 5) hx hb dJ7_fill_53178_17 (by decide) ?_
  refine lv_iload_n hx hb dJ7_fill_53178_5 rfl (lv_at hl 0 rfl) ?_
  refine lv_iload_n hx hb dJ7_fill_53178_6 rfl (lv_at hl 1 rfl) ?_
  refine lv_icmp_ge (tgt := 20) hx hb dJ7_fill_53178_7 (by decide) (fun c_41 => absurd c_41 (by decide)) (fun _ => ?_)
  refine lv_aload_n hx hb dJ7_fill_53178_10 rfl (lv_at hl 2 rfl) ?_
  refine lv_iload_n hx hb dJ7_fill_53178_11 rfl (lv_at hl 0 rfl) ?_
  refine lv_iload_n hx hb dJ7_fill_53178_12 rfl (lv_at hl 3 rfl) ?_
  refine va_iast hx hb hK hP hD hS 0 0 rfl rfl (by unfold vp_in; decide +kernel) dJ7_fill_53178_13 (fun H locs hP hD hS => ?_)
  have hP : va_P (dC, dI) vwCl [(a, .inl (k, 24, .inl (upd f_40 (Int32.toNatClampNeg 20) (-2))))] H := hP
  have hD : va_D A [(a, .inl (k, 24, .inl (upd f_40 (Int32.toNatClampNeg 20) (-2))))] := hD
  generalize upd f_40 (Int32.toNatClampNeg 20) (-2) = f_42 at hP hD
  refine lv_iinc (v := 21) (lv' := [(2, .int 21), (3, .int 24), (0, .ref a), (1, .int (-2))]) hx hb dJ7_fill_53178_14 hl (k := 0) rfl (by decide) (by decide) rfl (fun ls hl => ?_)
  refine lv_goto (tgt := 5) hx hb dJ7_fill_53178_17 (by decide) ?_
  refine lv_iload_n hx hb dJ7_fill_53178_5 rfl (lv_at hl 0 rfl) ?_
  refine lv_iload_n hx hb dJ7_fill_53178_6 rfl (lv_at hl 1 rfl) ?_
  refine lv_icmp_ge (tgt := 20) hx hb dJ7_fill_53178_7 (by decide) (fun c_43 => absurd c_43 (by decide)) (fun _ => ?_)
  refine lv_aload_n hx hb dJ7_fill_53178_10 rfl (lv_at hl 2 rfl) ?_
  refine lv_iload_n hx hb dJ7_fill_53178_11 rfl (lv_at hl 0 rfl) ?_
  refine lv_iload_n hx hb dJ7_fill_53178_12 rfl (lv_at hl 3 rfl) ?_
  refine va_iast hx hb hK hP hD hS 0 0 rfl rfl (by unfold vp_in; decide +kernel) dJ7_fill_53178_13 (fun H locs hP hD hS => ?_)
  have hP : va_P (dC, dI) vwCl [(a, .inl (k, 24, .inl (upd f_42 (Int32.toNatClampNeg 21) (-2))))] H := hP
  have hD : va_D A [(a, .inl (k, 24, .inl (upd f_42 (Int32.toNatClampNeg 21) (-2))))] := hD
  generalize upd f_42 (Int32.toNatClampNeg 21) (-2) = f_44 at hP hD
  refine lv_iinc (v := 22) (lv' := [(2, .int 22), (3, .int 24), (0, .ref a), (1, .int (-2))]) hx hb dJ7_fill_53178_14 hl (k := 0) rfl (by decide) (by decide) rfl (fun ls hl => ?_)
  refine lv_goto (tgt := 5) hx hb dJ7_fill_53178_17 (by decide) ?_
  refine lv_iload_n hx hb dJ7_fill_53178_5 rfl (lv_at hl 0 rfl) ?_
  refine lv_iload_n hx hb dJ7_fill_53178_6 rfl (lv_at hl 1 rfl) ?_
  refine lv_icmp_ge (tgt := 20) hx hb dJ7_fill_53178_7 (by decide) (fun c_45 => absurd c_45 (by decide)) (fun _ => ?_)
  refine lv_aload_n hx hb dJ7_fill_53178_10 rfl (lv_at hl 2 rfl) ?_
  refine lv_iload_n hx hb dJ7_fill_53178_11 rfl (lv_at hl 0 rfl) ?_
  refine lv_iload_n hx hb dJ7_fill_53178_12 rfl (lv_at hl 3 rfl) ?_
  refine va_iast hx hb hK hP hD hS 0 0 rfl rfl (by unfold vp_in; decide +kernel) dJ7_fill_53178_13 (fun H locs hP hD hS => ?_)
  have hP : va_P (dC, dI) vwCl [(a, .inl (k, 24, .inl (upd f_44 (Int32.toNatClampNeg 22) (-2))))] H := hP
  have hD : va_D A [(a, .inl (k, 24, .inl (upd f_44 (Int32.toNatClampNeg 22) (-2))))] := hD
  generalize upd f_44 (Int32.toNatClampNeg 22) (-2) = f_46 at hP hD
  refine lv_iinc (v := 23) (lv' := [(2, .int 23), (3, .int 24), (0, .ref a), (1, .int (-2))]) hx hb dJ7_fill_53178_14 hl (k := 0) rfl (by decide) (by decide) rfl (fun ls hl => ?_)
  refine lv_goto (tgt := 5) hx hb dJ7_fill_53178_17 (by decide) ?_
  refine lv_iload_n hx hb dJ7_fill_53178_5 rfl (lv_at hl 0 rfl) ?_
  refine lv_iload_n hx hb dJ7_fill_53178_6 rfl (lv_at hl 1 rfl) ?_
  refine lv_icmp_ge (tgt := 20) hx hb dJ7_fill_53178_7 (by decide) (fun c_47 => absurd c_47 (by decide)) (fun _ => ?_)
  refine lv_aload_n hx hb dJ7_fill_53178_10 rfl (lv_at hl 2 rfl) ?_
  refine lv_iload_n hx hb dJ7_fill_53178_11 rfl (lv_at hl 0 rfl) ?_
  refine lv_iload_n hx hb dJ7_fill_53178_12 rfl (lv_at hl 3 rfl) ?_
  refine va_iast hx hb hK hP hD hS 0 0 rfl rfl (by unfold vp_in; decide +kernel) dJ7_fill_53178_13 (fun H locs hP hD hS => ?_)
  have hP : va_P (dC, dI) vwCl [(a, .inl (k, 24, .inl (upd f_46 (Int32.toNatClampNeg 23) (-2))))] H := hP
  have hD : va_D A [(a, .inl (k, 24, .inl (upd f_46 (Int32.toNatClampNeg 23) (-2))))] := hD
  generalize upd f_46 (Int32.toNatClampNeg 23) (-2) = f_48 at hP hD
  refine lv_iinc (v := 24) (lv' := [(2, .int 24), (3, .int 24), (0, .ref a), (1, .int (-2))]) hx hb dJ7_fill_53178_14 hl (k := 0) rfl (by decide) (by decide) rfl (fun ls hl => ?_)
  refine lv_goto (tgt := 5) hx hb dJ7_fill_53178_17 (by decide) ?_
  refine lv_iload_n hx hb dJ7_fill_53178_5 rfl (lv_at hl 0 rfl) ?_
  refine lv_iload_n hx hb dJ7_fill_53178_6 rfl (lv_at hl 1 rfl) ?_
  refine lv_icmp_ge (tgt := 20) hx hb dJ7_fill_53178_7 (by decide) (fun _ => ?_) (fun c_49 => absurd c_49 (by decide))
  refine W.widen (k := 0) (n := 0) (Nat.le_of_ble_eq_true rfl) (Nat.le_of_ble_eq_true rfl) ?_
  exact W.vret hx hb hr (fun t ht hW => ⟨⟨(), rfl, trivial, trivial⟩, hS.F ht⟩) hS.2.2 dJ7_fill_53178_20

def zwX11_init : List Cond := .code yX11_init cX11_init 1 none :: (([.methodLink RX11 3 objectInit, .instanceMethod objectInit, .code objectInit ⟨#[0xb1]⟩ 1 none, .classLink RX11 9 RJx4a65c, .instantiable RJx4a65c 3, .initialized RJx4a65c, .methodLink RX11 11 yJx4a65c_init_da8c8, .instanceMethod yJx4a65c_init_da8c8, .fieldLink RX11 12 "SpotbeatModel$Station" "robots" "Ljava/util/List;", .methodLink RX11 20 yJ0_length_8abf5, .instanceMethod yJ0_length_8abf5, .selects RJ0 yJ0_length_8abf5 yJ0_length_8abf5, .initialized RJ0, .arrayClass .int, .fieldLink RX11 26 "SpotbeatModel$Station" "letters" "[I", .fieldLink RX11 30 "SpotbeatModel$Station" "body" "I"] : List Cond) ++ (wsJx4a65c0 ++ (zwJx4a65c_init_da8c8 ++ (wsX110 ++ (zwJ0_length_8abf5)))))
theorem zgX11_init : zwX11_init.all goodWord = true := zgo rfl (zga (by decide +kernel) (zga zgcJx4a65c (zga zgJx4a65c_init_da8c8 (zga zgcX11 (zgJ0_length_8abf5)))))
set_option maxHeartbeats 4000000 in
set_option maxRecDepth 100000 in
theorem c_X11_init (l : Launch) (dC : Nat → ClassId) (dI : Nat → Nat → Nat) (sz : Nat) (e0 : Nat) (ad : Nat → Nat) (tb : Nat) : Met l yX11_init zwX11_init ({ frames := 4, cells := 2, slots := 7, locals := 72 }) (gPcM dC dI sz [(tb, .inr (14, [.null, .null, .int 0, .int 0, .int 0, .int 0]))] [] e0 ad [.ref tb]) (va_Qv (fun (u : List Value) => True) (fun u t => va_P (dC, dI) vwCl [(tb, .inr (14, u))] t.heap ∧ va_K (dC, dI) vwCl [] t ∧ va_D (va_A [(tb, .inr (14, [.null, .null, .int 0, .int 0, .int 0, .int 0]))] sz) [(tb, .inr (14, u))]) (va_A [(tb, .inr (14, [.null, .null, .int 0, .int 0, .int 0, .int 0]))] sz)) 2 7 (va_A [(tb, .inr (14, [.null, .null, .int 0, .int 0, .int 0, .int 0]))] sz) := by
  refine Met.ofW (cc := cX11_init) (maxL := 1) (ret := none) (by decide) rfl ?_
  intro p e s m args below meth c s₁ B hml hv
  obtain ⟨rfl, hsz, hP, hK, hD0, hE, hZ, hM⟩ := hv
  have hx := B.exec
  have hb := B.bytes
  have hr := B.returns
  have hts := atoms_spec (ws := zwX11_init) B.pre
  have hown : s.vm.findClass RX11 = some m.cls := findClass_of_methodNamed B.named
  have hlocks := B.notSynchronized
  have hin : meth.name = "<init>" := (name_of_methodNamed B.named B.method).1
  subst hsz
  have hD := hD0.self (sz := s.heap.size)
  generalize hAe : va_A [(tb, .inr (14, [.null, .null, .int 0, .int 0, .int 0, .int 0]))] s.heap.size = A at hD hE hZ hM ⊢
  have hA : ∀ q : Nat, s.heap.size ≤ q → A q := fun q h => by rw [← hAe]; exact Or.inr h
  have hS : va_S A s.heap s.heap [] := va_S.rf
  have hP : va_P (dC, dI) vwCl [(tb, .inr (14, [.null, .null, .int 0, .int 0, .int 0, .int 0]))] s.heap := hP
  have hl := lv_entry ([.ref tb]) (n := 1) (Nat.le_of_ble_eq_true rfl)
  rw [lg_entry_eq]
  generalize (lg_sl ([.ref tb]) ++ List.replicate (1 - (lg_sl ([.ref tb])).length) Slot.unset).toArray = ls at hl ⊢
  have hl : lv_has ls 1 [(0, .ref tb)] := hl
  refine lv_aload_n hx hb dX11_init_0 rfl (lv_at hl 0 rfl) ?_
  refine W.objInit hx hb hown (hts (.methodLink RX11 3 objectInit) (by decide +kernel)) (hts (.instanceMethod objectInit) (by decide +kernel)) (hts (.code objectInit ⟨#[0xb1]⟩ 1 none) (by decide +kernel)) rfl (by rw [hml]; exact hl.1) rfl dX11_init_1 (Nat.le_of_ble_eq_true rfl) (Nat.le_of_ble_eq_true rfl) ?_
  refine W.eq (g2 := F0 m 4 ls []) rfl ?_
  refine lv_aload_n hx hb dX11_init_4 rfl (lv_at hl 0 rfl) ?_
  refine va_new (ci := 2) (fs := [.int 0, .null, .int 0]) (C := RJx4a65c) (T := TJx4a65c) (N := 3) hx hb hts (fun w h => List.mem_cons_of_mem _ (List.mem_append_right _ (List.mem_append_left _ h))) tyJx4a65c tyJx4a65c_ok hown (hts (.classLink RX11 9 RJx4a65c) (by decide +kernel)) (hts (.instantiable RJx4a65c 3) (by decide +kernel)) (hts (.initialized RJx4a65c) (by decide +kernel)) hK hP hD hS hA rfl (fun j hj => by rcases (show j = 0 ∨ j = 1 ∨ j = 2 by omega) with rfl | rfl | rfl <;> rfl) (Nat.le_of_ble_eq_true rfl) (Nat.le_of_ble_eq_true rfl) dX11_init_5 (fun q5 H hP hD hS => ?_)
  have hP : va_P (dC, dI) vwCl [(tb, .inr (14, [.null, .null, .int 0, .int 0, .int 0, .int 0])), (q5, .inr (2, [.int 0, .null, .int 0]))] H := hP
  have hD : va_D A [(tb, .inr (14, [.null, .null, .int 0, .int 0, .int 0, .int 0])), (q5, .inr (2, [.int 0, .null, .int 0]))] := hD
  refine lv_dup hx hb dX11_init_8 rfl ?_
  have hPc := hP.sub (ws' := [(q5, .inr (2, [.int 0, .null, .int 0]))]) [1] rfl
  have hDc := hD.sub (ws' := [(q5, .inr (2, [.int 0, .null, .int 0]))]) [1] (by decide) rfl
  have hKc := hK.sub (tys' := []) [] rfl
  have hFc := va_free (wc := [(q5, .inr (2, [.int 0, .null, .int 0]))]) hD hS hA [1] rfl
  refine va_callv (va_runI (As := []) (rest := [.ref q5, .ref tb]) ⟨hx, hb, hml, hown, hts⟩ (c_Jx4a65c_init_da8c8 l dC dI H.size e0 q5) (cwI 0 hts (goodIn_sub ((fun w h => List.mem_cons_of_mem _ (List.mem_append_right _ (List.mem_append_right _ (List.mem_append_left _ h))))) zgJx4a65c_init_da8c8) rfl rfl rfl (hts (.initialized RJx4a65c) (by decide +kernel)) (hts (.methodLink RX11 11 yJx4a65c_init_da8c8) (by decide +kernel)) (hts (.instanceMethod yJx4a65c_init_da8c8) (by decide +kernel)) rfl (by decide +kernel) ⟨Nat.le_of_ble_eq_true rfl, Nat.le_of_ble_eq_true rfl⟩) ⟨gPcD_blind, gPcD_pass hPc hKc hDc hE hZ hS hFc⟩ rfl rfl hl.1 rfl (lv_room (Nat.le_of_ble_eq_true rfl)) dX11_init_9 ⟨Nat.le_of_ble_eq_true rfl, Nat.le_of_ble_eq_true rfl⟩) hS (fun q _ h => hFc q h) hFc (fun u_3 t H locs ht hvm hw hB hz hk hS => ?_)
  obtain ⟨hP1, hK1, hD1⟩ := hB
  rw [ht] at hP1
  obtain ⟨hP, hD⟩ := va_join (wr := [(tb, .inr (14, [.null, .null, .int 0, .int 0, .int 0, .int 0]))]) (w1 := [(q5, .inr (2, [.int 0, .ref e0, .int 0]))]) hP hD [1] [0] rfl rfl (by decide) (by decide) hk hFc hP1 hD1
  have hP : va_P (dC, dI) vwCl [(tb, .inr (14, [.null, .null, .int 0, .int 0, .int 0, .int 0])), (q5, .inr (2, [.int 0, .ref e0, .int 0]))] H := hP
  have hD : va_D A [(tb, .inr (14, [.null, .null, .int 0, .int 0, .int 0, .int 0])), (q5, .inr (2, [.int 0, .ref e0, .int 0]))] := hD
  have w_4 : True := hw
  refine va_putF (D := (dC, dI)) (ci := 14) (v := .ref q5) (ty := .object "java/util/List") (C := RX11) (T := TX11) (N := 6) hx hb hts (fun w h => List.mem_cons_of_mem _ (List.mem_append_right _ (List.mem_append_right _ (List.mem_append_right _ (List.mem_append_left _ h))))) tyX11 tyX11_ok nmX11 hown hK hP hD hS 0 rfl rfl 0 (by decide) (hts (.fieldLink RX11 12 "SpotbeatModel$Station" "robots" "Ljava/util/List;") (by decide +kernel)) (fun _ h9 => h9) rfl hin rfl (by decide +kernel) rfl rfl (Nat.le_of_ble_eq_true rfl) dX11_init_12 (fun H locs hP hD hS => ?_)
  have hP : va_P (dC, dI) vwCl [(tb, .inr (14, [.ref q5, .null, .int 0, .int 0, .int 0, .int 0])), (q5, .inr (2, [.int 0, .ref e0, .int 0]))] H := hP
  have hD : va_D A [(tb, .inr (14, [.ref q5, .null, .int 0, .int 0, .int 0, .int 0])), (q5, .inr (2, [.int 0, .ref e0, .int 0]))] := hD
  refine lv_aload_n hx hb dX11_init_15 rfl (lv_at hl 0 rfl) ?_
  refine va_ldcS hx hb hown hM.1 dX11_init_16 ?_
  have hPc := hP.sub (ws' := []) [] rfl
  have hDc := hD.sub (ws' := []) [] (by decide) rfl
  have hKc := hK.sub (tys' := []) [] rfl
  have hFc := va_free (wc := []) hD hS hA [] rfl
  refine va_calli (va_runV (As := []) (rest := [.ref tb]) ⟨hx, hb, hml, hown, hts⟩ (c_J0_length_8abf5 l dC dI H.size e0 ad) (cwV 0 hts (goodIn_app (goodIn_of _ (by decide +kernel)) (goodIn_sub ((fun w h => List.mem_cons_of_mem _ (List.mem_append_right _ (List.mem_append_right _ (List.mem_append_right _ (List.mem_append_right _ (h))))))) zgJ0_length_8abf5)) rfl rfl rfl (by decide +kernel) ⟨Nat.le_of_ble_eq_true rfl, Nat.le_of_ble_eq_true rfl⟩) ⟨gPcM_blind, zM_recv hM hS, gPcM_pass hPc hKc hDc hE hZ hM hS hFc⟩ rfl rfl hl.1 rfl (lv_room (Nat.le_of_ble_eq_true rfl)) dX11_init_18 ⟨Nat.le_of_ble_eq_true rfl, Nat.le_of_ble_eq_true rfl⟩) hS (fun q _ h => hFc q h) hFc (fun r_5 u_6 t H locs ht hvm hw hB hz hk hS => ?_)
  obtain ⟨hP, hD⟩ := va_join (wr := [(tb, .inr (14, [.ref q5, .null, .int 0, .int 0, .int 0, .int 0])), (q5, .inr (2, [.int 0, .ref e0, .int 0]))]) (w1 := []) hP hD [] [0, 1] rfl rfl (by decide) (by decide) hk hFc zP_nil zD_nil
  have hP : va_P (dC, dI) vwCl [(tb, .inr (14, [.ref q5, .null, .int 0, .int 0, .int 0, .int 0])), (q5, .inr (2, [.int 0, .ref e0, .int 0]))] H := hP
  have hD : va_D A [(tb, .inr (14, [.ref q5, .null, .int 0, .int 0, .int 0, .int 0])), (q5, .inr (2, [.int 0, .ref e0, .int 0]))] := hD
  have hw : r_5 = 4 := hw
  subst hw
  refine va_newa (atype := .int) (N' := 4) (a0 := (4, .inl (fun _ => 0))) hx hb (hts (.arrayClass .int) (by decide +kernel)) rfl hK hP hD hS hA (fun _ => rfl) (by decide) (by decide +kernel) (by decide) (Nat.le_of_ble_eq_true rfl) (Nat.le_of_ble_eq_true rfl) dX11_init_21 (fun q21 k21 H hK hP hD hS => ?_)
  have hK : va_K (dC, dI) vwCl [(k21, .int)] s := hK
  have hP : va_P (dC, dI) vwCl [(tb, .inr (14, [.ref q5, .null, .int 0, .int 0, .int 0, .int 0])), (q5, .inr (2, [.int 0, .ref e0, .int 0])), (q21, .inl (k21, 4, .inl (fun _ => 0)))] H := hP
  have hD : va_D A [(tb, .inr (14, [.ref q5, .null, .int 0, .int 0, .int 0, .int 0])), (q5, .inr (2, [.int 0, .ref e0, .int 0])), (q21, .inl (k21, 4, .inl (fun _ => 0)))] := hD
  refine va_putF (D := (dC, dI)) (ci := 14) (v := .ref q21) (ty := .array .int) (C := RX11) (T := TX11) (N := 6) hx hb hts (fun w h => List.mem_cons_of_mem _ (List.mem_append_right _ (List.mem_append_right _ (List.mem_append_right _ (List.mem_append_left _ h))))) tyX11 tyX11_ok nmX11 hown hK hP hD hS 0 rfl rfl 1 (by decide) (hts (.fieldLink RX11 26 "SpotbeatModel$Station" "letters" "[I") (by decide +kernel)) (fun _ h9 => h9) rfl hin rfl (by decide +kernel) rfl rfl (Nat.le_of_ble_eq_true rfl) dX11_init_23 (fun H locs hP hD hS => ?_)
  have hP : va_P (dC, dI) vwCl [(tb, .inr (14, [.ref q5, .ref q21, .int 0, .int 0, .int 0, .int 0])), (q5, .inr (2, [.int 0, .ref e0, .int 0])), (q21, .inl (k21, 4, .inl (fun _ => 0)))] H := hP
  have hD : va_D A [(tb, .inr (14, [.ref q5, .ref q21, .int 0, .int 0, .int 0, .int 0])), (q5, .inr (2, [.int 0, .ref e0, .int 0])), (q21, .inl (k21, 4, .inl (fun _ => 0)))] := hD
  refine lv_aload_n hx hb dX11_init_26 rfl (lv_at hl 0 rfl) ?_
  refine lv_iconst (v := (-1)) hx hb dX11_init_27 (by decide) ?_
  refine va_put (D := (dC, dI)) (ci := 14) (v := .int (-1)) (ty := .int) (C := RX11) (T := TX11) (N := 6) hx hb hts (fun w h => List.mem_cons_of_mem _ (List.mem_append_right _ (List.mem_append_right _ (List.mem_append_right _ (List.mem_append_left _ h))))) tyX11 tyX11_ok nmX11 hown hK hP hD hS 0 rfl rfl 2 (by decide) (hts (.fieldLink RX11 30 "SpotbeatModel$Station" "body" "I") (by decide +kernel)) (fun _ h9 => h9) rfl (by decide +kernel) rfl rfl (Nat.le_of_ble_eq_true rfl) dX11_init_28 (fun H locs hP hD hS => ?_)
  have hP : va_P (dC, dI) vwCl [(tb, .inr (14, [.ref q5, .ref q21, .int (-1), .int 0, .int 0, .int 0])), (q5, .inr (2, [.int 0, .ref e0, .int 0])), (q21, .inl (k21, 4, .inl (fun _ => 0)))] H := hP
  have hD : va_D A [(tb, .inr (14, [.ref q5, .ref q21, .int (-1), .int 0, .int 0, .int 0])), (q5, .inr (2, [.int 0, .ref e0, .int 0])), (q21, .inl (k21, 4, .inl (fun _ => 0)))] := hD
  have hP9 := hP.sub (ws' := [(tb, .inr (14, [.ref q5, .ref q21, .int (-1), .int 0, .int 0, .int 0]))]) [0] rfl
  have hD9 := hD.sub (ws' := [(tb, .inr (14, [.ref q5, .ref q21, .int (-1), .int 0, .int 0, .int 0]))]) [0] (by decide) rfl
  have hK9 := hK.sub (tys' := []) [] rfl
  refine W.widen (k := 2) (n := 7) (Nat.le_of_ble_eq_true rfl) (Nat.le_of_ble_eq_true rfl) ?_
  exact W.vret hx hb hr (fun t ht hW => ⟨⟨[.ref q5, .ref q21, .int (-1), .int 0, .int 0, .int 0], rfl, trivial, by rw [ht]; exact hP9, va_K.moved hW.alike hK9, hD9⟩, hS.F ht⟩) hS.2.2 dX11_init_31

def zwX8_init : List Cond := .code yX8_init cX8_init 2 none :: (([.methodLink RX8 3 objectInit, .instanceMethod objectInit, .code objectInit ⟨#[0xb1]⟩ 1 none, .arrayClass .int, .fieldLink RX8 9 "SpotbeatModel$Body" "makers" "[I", .fieldLink RX8 15 "SpotbeatModel$Body" "where" "I", .fieldLink RX8 19 "SpotbeatModel$Body" "variant" "I", .methodLink RX8 22 yJ7_fill_53178, .static yJ7_fill_53178, .initialized RJ7] : List Cond) ++ (wsX80 ++ (zwJ7_fill_53178)))
theorem zgX8_init : zwX8_init.all goodWord = true := zgo rfl (zga (by decide +kernel) (zga zgcX8 (zgJ7_fill_53178)))
set_option maxHeartbeats 4000000 in
set_option maxRecDepth 100000 in
theorem c_X8_init (l : Launch) (dC : Nat → ClassId) (dI : Nat → Nat → Nat) (sz : Nat) (tb : Nat) (v : Int32) : Met l yX8_init zwX8_init ({ frames := 1, cells := 1, slots := 24, locals := 23 }) (gPc dC dI sz [(tb, .inr (11, [.int 0, .null, .int 0, .int 0]))] [] [.ref tb, .int v]) (va_Qv (fun (u : List Value) => True) (fun u t => va_P (dC, dI) vwCl [(tb, .inr (11, u))] t.heap ∧ va_K (dC, dI) vwCl [] t ∧ va_D (va_A [(tb, .inr (11, [.int 0, .null, .int 0, .int 0]))] sz) [(tb, .inr (11, u))]) (va_A [(tb, .inr (11, [.int 0, .null, .int 0, .int 0]))] sz)) 1 24 (va_A [(tb, .inr (11, [.int 0, .null, .int 0, .int 0]))] sz) := by
  refine Met.ofW (cc := cX8_init) (maxL := 2) (ret := none) (by decide) rfl ?_
  intro p e s m args below meth c s₁ B hml hv
  obtain ⟨rfl, hsz, hP, hK, hD0⟩ := hv
  have hx := B.exec
  have hb := B.bytes
  have hr := B.returns
  have hts := atoms_spec (ws := zwX8_init) B.pre
  have hown : s.vm.findClass RX8 = some m.cls := findClass_of_methodNamed B.named
  have hlocks := B.notSynchronized
  have hin : meth.name = "<init>" := (name_of_methodNamed B.named B.method).1
  subst hsz
  have hD := hD0.self (sz := s.heap.size)
  generalize hAe : va_A [(tb, .inr (11, [.int 0, .null, .int 0, .int 0]))] s.heap.size = A at hD ⊢
  have hA : ∀ q : Nat, s.heap.size ≤ q → A q := fun q h => by rw [← hAe]; exact Or.inr h
  have hS : va_S A s.heap s.heap [] := va_S.rf
  have hP : va_P (dC, dI) vwCl [(tb, .inr (11, [.int 0, .null, .int 0, .int 0]))] s.heap := hP
  have hl := lv_entry ([.ref tb, .int v]) (n := 2) (Nat.le_of_ble_eq_true rfl)
  rw [lg_entry_eq]
  generalize (lg_sl ([.ref tb, .int v]) ++ List.replicate (2 - (lg_sl ([.ref tb, .int v])).length) Slot.unset).toArray = ls at hl ⊢
  have hl : lv_has ls 2 [(0, .ref tb), (1, .int v)] := hl
  refine lv_aload_n hx hb dX8_init_0 rfl (lv_at hl 0 rfl) ?_
  refine W.objInit hx hb hown (hts (.methodLink RX8 3 objectInit) (by decide +kernel)) (hts (.instanceMethod objectInit) (by decide +kernel)) (hts (.code objectInit ⟨#[0xb1]⟩ 1 none) (by decide +kernel)) rfl (by rw [hml]; exact hl.1) rfl dX8_init_1 (Nat.le_of_ble_eq_true rfl) (Nat.le_of_ble_eq_true rfl) ?_
  refine W.eq (g2 := F0 m 4 ls []) rfl ?_
  refine lv_aload_n hx hb dX8_init_4 rfl (lv_at hl 0 rfl) ?_
  refine lv_bipush (v := 24) hx hb dX8_init_5 (by decide) ?_
  refine va_newa (atype := .int) (N' := 24) (a0 := (24, .inl (fun _ => 0))) hx hb (hts (.arrayClass .int) (by decide +kernel)) rfl hK hP hD hS hA (fun _ => rfl) (by decide) (by decide +kernel) (by decide) (Nat.le_of_ble_eq_true rfl) (Nat.le_of_ble_eq_true rfl) dX8_init_7 (fun q7 k7 H hK hP hD hS => ?_)
  have hK : va_K (dC, dI) vwCl [(k7, .int)] s := hK
  have hP : va_P (dC, dI) vwCl [(tb, .inr (11, [.int 0, .null, .int 0, .int 0])), (q7, .inl (k7, 24, .inl (fun _ => 0)))] H := hP
  have hD : va_D A [(tb, .inr (11, [.int 0, .null, .int 0, .int 0])), (q7, .inl (k7, 24, .inl (fun _ => 0)))] := hD
  refine va_putF (D := (dC, dI)) (ci := 11) (v := .ref q7) (ty := .array .int) (C := RX8) (T := TX8) (N := 4) hx hb hts (fun w h => List.mem_cons_of_mem _ (List.mem_append_right _ (List.mem_append_left _ h))) tyX8 tyX8_ok nmX8 hown hK hP hD hS 0 rfl rfl 1 (by decide) (hts (.fieldLink RX8 9 "SpotbeatModel$Body" "makers" "[I") (by decide +kernel)) (fun _ h9 => h9) rfl hin rfl (by decide +kernel) rfl rfl (Nat.le_of_ble_eq_true rfl) dX8_init_9 (fun H locs hP hD hS => ?_)
  have hP : va_P (dC, dI) vwCl [(tb, .inr (11, [.int 0, .ref q7, .int 0, .int 0])), (q7, .inl (k7, 24, .inl (fun _ => 0)))] H := hP
  have hD : va_D A [(tb, .inr (11, [.int 0, .ref q7, .int 0, .int 0])), (q7, .inl (k7, 24, .inl (fun _ => 0)))] := hD
  refine lv_aload_n hx hb dX8_init_12 rfl (lv_at hl 0 rfl) ?_
  refine lv_iconst (v := (-1)) hx hb dX8_init_13 (by decide) ?_
  refine va_put (D := (dC, dI)) (ci := 11) (v := .int (-1)) (ty := .int) (C := RX8) (T := TX8) (N := 4) hx hb hts (fun w h => List.mem_cons_of_mem _ (List.mem_append_right _ (List.mem_append_left _ h))) tyX8 tyX8_ok nmX8 hown hK hP hD hS 0 rfl rfl 2 (by decide) (hts (.fieldLink RX8 15 "SpotbeatModel$Body" "where" "I") (by decide +kernel)) (fun _ h9 => h9) rfl (by decide +kernel) rfl rfl (Nat.le_of_ble_eq_true rfl) dX8_init_14 (fun H locs hP hD hS => ?_)
  have hP : va_P (dC, dI) vwCl [(tb, .inr (11, [.int 0, .ref q7, .int (-1), .int 0])), (q7, .inl (k7, 24, .inl (fun _ => 0)))] H := hP
  have hD : va_D A [(tb, .inr (11, [.int 0, .ref q7, .int (-1), .int 0])), (q7, .inl (k7, 24, .inl (fun _ => 0)))] := hD
  refine lv_aload_n hx hb dX8_init_17 rfl (lv_at hl 0 rfl) ?_
  refine lv_iload_n hx hb dX8_init_18 rfl (lv_at hl 1 rfl) ?_
  refine va_putF (D := (dC, dI)) (ci := 11) (v := .int v) (ty := .int) (C := RX8) (T := TX8) (N := 4) hx hb hts (fun w h => List.mem_cons_of_mem _ (List.mem_append_right _ (List.mem_append_left _ h))) tyX8 tyX8_ok nmX8 hown hK hP hD hS 0 rfl rfl 0 (by decide) (hts (.fieldLink RX8 19 "SpotbeatModel$Body" "variant" "I") (by decide +kernel)) (fun _ h9 => h9) rfl hin rfl (by decide +kernel) rfl rfl (Nat.le_of_ble_eq_true rfl) dX8_init_19 (fun H locs hP hD hS => ?_)
  have hP : va_P (dC, dI) vwCl [(tb, .inr (11, [.int v, .ref q7, .int (-1), .int 0])), (q7, .inl (k7, 24, .inl (fun _ => 0)))] H := hP
  have hD : va_D A [(tb, .inr (11, [.int v, .ref q7, .int (-1), .int 0])), (q7, .inl (k7, 24, .inl (fun _ => 0)))] := hD
  refine lv_aload_n hx hb dX8_init_22 rfl (lv_at hl 0 rfl) ?_
  refine va_get (D := (dC, dI)) (ci := 11) (v := .ref q7) (C := RX8) (T := TX8) (N := 4) hx hb hts (fun w h => List.mem_cons_of_mem _ (List.mem_append_right _ (List.mem_append_left _ h))) hown hK hP 0 rfl rfl 1 (by decide) (hts (.fieldLink RX8 9 "SpotbeatModel$Body" "makers" "[I") (by decide +kernel)) (fun _ h9 => h9) rfl dX8_init_23 ?_
  refine lv_bipush (v := (-2)) hx hb dX8_init_26 (by decide) ?_
  have hPc := hP.sub (ws' := [(q7, .inl (k7, 24, .inl (fun _ => 0)))]) [1] rfl
  have hDc := hD.sub (ws' := [(q7, .inl (k7, 24, .inl (fun _ => 0)))]) [1] (by decide) rfl
  have hKc := hK.sub (tys' := [(k7, .int)]) [0] rfl
  have hFc := va_free (wc := [(q7, .inl (k7, 24, .inl (fun _ => 0)))]) hD hS hA [1] rfl
  refine va_callv (va_runS (As := [.ref q7, .int (-2)]) (rest := []) ⟨hx, hb, hml, hown, hts⟩ (c_J7_fill_53178 l dC dI H.size k7 (fun _ => 0) q7) (va_cwS 2 hts (goodIn_app (goodIn_of _ (by decide +kernel)) (goodIn_sub ((fun w h => List.mem_cons_of_mem _ (List.mem_append_right _ (List.mem_append_right _ (h))))) zgJ7_fill_53178)) rfl rfl rfl (by decide +kernel) ⟨Nat.le_of_ble_eq_true rfl, Nat.le_of_ble_eq_true rfl⟩) ⟨gPc_blind, gPc_pass hPc hKc hDc⟩ rfl rfl hl.1 rfl (lv_room (Nat.le_of_ble_eq_true rfl)) dX8_init_28 ⟨Nat.le_of_ble_eq_true rfl, Nat.le_of_ble_eq_true rfl⟩) hS (fun q _ h => hFc q h) hFc (fun u_2 t H locs ht hvm hw hB hz hk hS => ?_)
  obtain ⟨hP, hD⟩ := va_join (wr := [(tb, .inr (11, [.int v, .ref q7, .int (-1), .int 0]))]) (w1 := []) hP hD [1] [0] rfl rfl (by decide) (by decide) hk hFc zP_nil zD_nil
  have hP : va_P (dC, dI) vwCl [(tb, .inr (11, [.int v, .ref q7, .int (-1), .int 0]))] H := hP
  have hD : va_D A [(tb, .inr (11, [.int v, .ref q7, .int (-1), .int 0]))] := hD
  have w_3 : True := hw
  have hP9 := hP.sub (ws' := [(tb, .inr (11, [.int v, .ref q7, .int (-1), .int 0]))]) [0] rfl
  have hD9 := hD.sub (ws' := [(tb, .inr (11, [.int v, .ref q7, .int (-1), .int 0]))]) [0] (by decide) rfl
  have hK9 := hK.sub (tys' := []) [] rfl
  refine W.widen (k := 1) (n := 24) (Nat.le_of_ble_eq_true rfl) (Nat.le_of_ble_eq_true rfl) ?_
  exact W.vret hx hb hr (fun t ht hW => ⟨⟨[.int v, .ref q7, .int (-1), .int 0], rfl, trivial, by rw [ht]; exact hP9, va_K.moved hW.alike hK9, hD9⟩, hS.F ht⟩) hS.2.2 dX8_init_31

def zwX12_panel : List Cond := .code yX12_panel cX12_panel 3 (some .int) :: (([.fieldLink RX12 10 "SpotbeatModel" "parents" "Ljava/util/List;", .methodLink RX12 42 ⟨"java/util/List", "isEmpty", "()Z"⟩, .selects RJx4a65c ⟨"java/util/List", "isEmpty", "()Z"⟩ yJx4a65c_isEmpty_aae02, .instanceMethod yJx4a65c_isEmpty_aae02, .initialized RJx4a65c, .methodLink RX12 32 ⟨"java/util/List", "size", "()I"⟩, .selects RJx4a65c ⟨"java/util/List", "size", "()I"⟩ yJx4a65c_size_8abf5, .instanceMethod yJx4a65c_size_8abf5, .methodLink RX12 50 yX12_isWrong, .instanceMethod yX12_isWrong, .selects RX12 yX12_isWrong yX12_isWrong, .initialized RX12, .methodLink RX12 54 yJ6_valueOf_2dffe, .static yJ6_valueOf_2dffe, .initialized RJ6, .methodLink RX12 60 ⟨"java/util/List", "add", "(Ljava/lang/Object;)Z"⟩, .selects RJx4a65c ⟨"java/util/List", "add", "(Ljava/lang/Object;)Z"⟩ yJx4a65c_add_9ea2d, .instanceMethod yJx4a65c_add_9ea2d] : List Cond) ++ (wsX120 ++ (zwJx4a65c_isEmpty_aae02 ++ (zwJx4a65c_size_8abf5 ++ (zwX12_isWrong_0 ++ (zwJ6_valueOf_2dffe ++ (zwJx4a65c_add_9ea2d ++ (zwJx4a65c_size_1))))))))
theorem zgX12_panel : zwX12_panel.all goodWord = true := zgo rfl (zga (by decide +kernel) (zga zgcX12 (zga zgJx4a65c_isEmpty_aae02 (zga zgJx4a65c_size_8abf5 (zga zgX12_isWrong_0 (zga zgJ6_valueOf_2dffe (zga zgJx4a65c_add_9ea2d (zgJx4a65c_size_1))))))))
set_option maxHeartbeats 4000000 in
set_option maxRecDepth 100000 in
theorem c_X12_panel (l : Launch) (dC : Nat → ClassId) (dI : Nat → Nat → Nat) (sz : Nat) (mo : Nat) (lm : Nat → Nat) (e0 : Nat) (th : Int32) (ad : Nat → Nat) (a : Int32) : Met l yX12_panel zwX12_panel ({ frames := 5, cells := 1, slots := 10, locals := 101 }) (gPcM dC dI sz [(mo, .inr (15, [.int th, .ref (lm 0), .ref (lm 1), .ref (lm 2), .ref (lm 3), .ref (lm 4), .int 0, .int 0])), ((lm 0), .inr (2, [.int 0, .ref e0, .int 0])), ((lm 1), .inr (2, [.int 0, .ref e0, .int 0])), ((lm 2), .inr (2, [.int 0, .ref e0, .int 0])), ((lm 3), .inr (2, [.int 0, .ref e0, .int 0])), ((lm 4), .inr (2, [.int 0, .ref e0, .int 0]))] [] e0 ad [.ref mo, .int a]) (va_Qi (fun (r : Int32) (u : Int32) => r = 0 ∧ u = 0) (fun u t => va_P (dC, dI) vwCl [(mo, .inr (15, [.int u, .ref (lm 0), .ref (lm 1), .ref (lm 2), .ref (lm 3), .ref (lm 4), .int 0, .int 0]))] t.heap ∧ va_K (dC, dI) vwCl [] t ∧ va_D (va_A [(mo, .inr (15, [.int th, .ref (lm 0), .ref (lm 1), .ref (lm 2), .ref (lm 3), .ref (lm 4), .int 0, .int 0])), ((lm 0), .inr (2, [.int 0, .ref e0, .int 0])), ((lm 1), .inr (2, [.int 0, .ref e0, .int 0])), ((lm 2), .inr (2, [.int 0, .ref e0, .int 0])), ((lm 3), .inr (2, [.int 0, .ref e0, .int 0])), ((lm 4), .inr (2, [.int 0, .ref e0, .int 0]))] sz) [(mo, .inr (15, [.int u, .ref (lm 0), .ref (lm 1), .ref (lm 2), .ref (lm 3), .ref (lm 4), .int 0, .int 0]))]) (va_A [(mo, .inr (15, [.int th, .ref (lm 0), .ref (lm 1), .ref (lm 2), .ref (lm 3), .ref (lm 4), .int 0, .int 0])), ((lm 0), .inr (2, [.int 0, .ref e0, .int 0])), ((lm 1), .inr (2, [.int 0, .ref e0, .int 0])), ((lm 2), .inr (2, [.int 0, .ref e0, .int 0])), ((lm 3), .inr (2, [.int 0, .ref e0, .int 0])), ((lm 4), .inr (2, [.int 0, .ref e0, .int 0]))] sz)) 1 10 (va_A [(mo, .inr (15, [.int th, .ref (lm 0), .ref (lm 1), .ref (lm 2), .ref (lm 3), .ref (lm 4), .int 0, .int 0])), ((lm 0), .inr (2, [.int 0, .ref e0, .int 0])), ((lm 1), .inr (2, [.int 0, .ref e0, .int 0])), ((lm 2), .inr (2, [.int 0, .ref e0, .int 0])), ((lm 3), .inr (2, [.int 0, .ref e0, .int 0])), ((lm 4), .inr (2, [.int 0, .ref e0, .int 0]))] sz) := by
  refine Met.ofW (cc := cX12_panel) (maxL := 3) (ret := (some .int)) (by decide) rfl ?_
  intro p e s m args below meth c s₁ B hml hv
  obtain ⟨rfl, hsz, hP, hK, hD0, hE, hZ, hM⟩ := hv
  have hx := B.exec
  have hb := B.bytes
  have hr := B.returns
  have hts := atoms_spec (ws := zwX12_panel) B.pre
  have hown : s.vm.findClass RX12 = some m.cls := findClass_of_methodNamed B.named
  have hlocks := B.notSynchronized
  subst hsz
  have hD := hD0.self (sz := s.heap.size)
  generalize hAe : va_A [(mo, .inr (15, [.int th, .ref (lm 0), .ref (lm 1), .ref (lm 2), .ref (lm 3), .ref (lm 4), .int 0, .int 0])), ((lm 0), .inr (2, [.int 0, .ref e0, .int 0])), ((lm 1), .inr (2, [.int 0, .ref e0, .int 0])), ((lm 2), .inr (2, [.int 0, .ref e0, .int 0])), ((lm 3), .inr (2, [.int 0, .ref e0, .int 0])), ((lm 4), .inr (2, [.int 0, .ref e0, .int 0]))] s.heap.size = A at hD hE hZ hM ⊢
  have hA : ∀ q : Nat, s.heap.size ≤ q → A q := fun q h => by rw [← hAe]; exact Or.inr h
  have hS : va_S A s.heap s.heap [] := va_S.rf
  have hP : va_P (dC, dI) vwCl [(mo, .inr (15, [.int th, .ref (lm 0), .ref (lm 1), .ref (lm 2), .ref (lm 3), .ref (lm 4), .int 0, .int 0])), ((lm 0), .inr (2, [.int 0, .ref e0, .int 0])), ((lm 1), .inr (2, [.int 0, .ref e0, .int 0])), ((lm 2), .inr (2, [.int 0, .ref e0, .int 0])), ((lm 3), .inr (2, [.int 0, .ref e0, .int 0])), ((lm 4), .inr (2, [.int 0, .ref e0, .int 0]))] s.heap := hP
  have hl := lv_entry ([.ref mo, .int a]) (n := 3) (Nat.le_of_ble_eq_true rfl)
  rw [lg_entry_eq]
  generalize (lg_sl ([.ref mo, .int a]) ++ List.replicate (3 - (lg_sl ([.ref mo, .int a])).length) Slot.unset).toArray = ls at hl ⊢
  have hl : lv_has ls 3 [(0, .ref mo), (1, .int a)] := hl
  refine lv_aload_n hx hb dX12_panel_0 rfl (lv_at hl 0 rfl) ?_
  refine va_get (D := (dC, dI)) (ci := 15) (v := .ref (lm 0)) (C := RX12) (T := TX12) (N := 8) hx hb hts (fun w h => List.mem_cons_of_mem _ (List.mem_append_right _ (List.mem_append_left _ h))) hown hK hP 0 rfl rfl 1 (by decide) (hts (.fieldLink RX12 10 "SpotbeatModel" "parents" "Ljava/util/List;") (by decide +kernel)) (fun _ h9 => h9) rfl dX12_panel_1 ?_
  have hPc := hP.sub (ws' := [((lm 0), .inr (2, [.int 0, .ref e0, .int 0]))]) [1] rfl
  have hDc := hD.sub (ws' := [((lm 0), .inr (2, [.int 0, .ref e0, .int 0]))]) [1] (by decide) rfl
  have hKc := hK.sub (tys' := []) [] rfl
  have hFc := va_free (wc := [((lm 0), .inr (2, [.int 0, .ref e0, .int 0]))]) hD hS hA [1] rfl
  refine va_callFi (va_runF (As := []) (rest := []) ((hK.1 2 _ rfl).2) ⟨hx, hb, hml, hown, hts⟩ (c_Jx4a65c_isEmpty_aae02 l dC dI s.heap.size e0 (lm 0)) (va_cwF 0 hts (goodIn_app (goodIn_of _ (by decide +kernel)) (goodIn_sub ((fun w h => List.mem_cons_of_mem _ (List.mem_append_right _ (List.mem_append_right _ (List.mem_append_left _ h))))) zgJx4a65c_isEmpty_aae02)) rfl rfl rfl hE.2.2.2.2.2.2.2.1 (by decide +kernel) ⟨Nat.le_of_ble_eq_true rfl, Nat.le_of_ble_eq_true rfl⟩) ⟨gPc_blind, va_recv hK hP (ci := 2) (q0 := 1) rfl rfl, gPc_pass hPc hKc hDc⟩ rfl rfl hl.1 rfl (lv_room (Nat.le_of_ble_eq_true rfl)) dX12_panel_4 ⟨Nat.le_of_ble_eq_true rfl, Nat.le_of_ble_eq_true rfl⟩) hS (fun q _ h => hFc q h) hFc (fun r_1 u_2 t H locs ht hvm hw hB hz hk hS => ?_)
  obtain ⟨hP1, hK1, hD1⟩ := hB
  rw [ht] at hP1
  obtain ⟨hP, hD⟩ := va_join (wr := [(mo, .inr (15, [.int th, .ref (lm 0), .ref (lm 1), .ref (lm 2), .ref (lm 3), .ref (lm 4), .int 0, .int 0])), ((lm 1), .inr (2, [.int 0, .ref e0, .int 0])), ((lm 2), .inr (2, [.int 0, .ref e0, .int 0])), ((lm 3), .inr (2, [.int 0, .ref e0, .int 0])), ((lm 4), .inr (2, [.int 0, .ref e0, .int 0]))]) (w1 := [((lm 0), .inr (2, [.int 0, .ref e0, .int 0]))]) hP hD [1] [0, 2, 3, 4, 5] rfl rfl (by decide) (by decide) hk hFc hP1 hD1
  have hP : va_P (dC, dI) vwCl [(mo, .inr (15, [.int th, .ref (lm 0), .ref (lm 1), .ref (lm 2), .ref (lm 3), .ref (lm 4), .int 0, .int 0])), ((lm 1), .inr (2, [.int 0, .ref e0, .int 0])), ((lm 2), .inr (2, [.int 0, .ref e0, .int 0])), ((lm 3), .inr (2, [.int 0, .ref e0, .int 0])), ((lm 4), .inr (2, [.int 0, .ref e0, .int 0])), ((lm 0), .inr (2, [.int 0, .ref e0, .int 0]))] H := hP
  have hD : va_D A [(mo, .inr (15, [.int th, .ref (lm 0), .ref (lm 1), .ref (lm 2), .ref (lm 3), .ref (lm 4), .int 0, .int 0])), ((lm 1), .inr (2, [.int 0, .ref e0, .int 0])), ((lm 2), .inr (2, [.int 0, .ref e0, .int 0])), ((lm 3), .inr (2, [.int 0, .ref e0, .int 0])), ((lm 4), .inr (2, [.int 0, .ref e0, .int 0])), ((lm 0), .inr (2, [.int 0, .ref e0, .int 0]))] := hD
  have hw : r_1 = 1 := hw
  subst hw
  refine lv_istore_n (lv' := [(2, .int 1), (0, .ref mo), (1, .int a)]) hx hb dX12_panel_9 rfl hl (by decide) rfl (fun ls hl => ?_)
  refine lv_aload_n hx hb dX12_panel_10 rfl (lv_at hl 1 rfl) ?_
  refine lv_iload_n hx hb dX12_panel_11 rfl (lv_at hl 0 rfl) ?_
  refine lv_if_ne (tgt := 30) hx hb dX12_panel_12 (by decide) (fun _ => ?_) (fun c_3 => absurd c_3 (by decide))
  refine lv_aload_n hx hb dX12_panel_30 rfl (lv_at hl 1 rfl) ?_
  refine va_get (D := (dC, dI)) (ci := 15) (v := .ref (lm 0)) (C := RX12) (T := TX12) (N := 8) hx hb hts (fun w h => List.mem_cons_of_mem _ (List.mem_append_right _ (List.mem_append_left _ h))) hown hK hP 0 rfl rfl 1 (by decide) (hts (.fieldLink RX12 10 "SpotbeatModel" "parents" "Ljava/util/List;") (by decide +kernel)) (fun _ h9 => h9) rfl dX12_panel_31 ?_
  have hPc := hP.sub (ws' := [((lm 0), .inr (2, [.int 0, .ref e0, .int 0]))]) [5] rfl
  have hDc := hD.sub (ws' := [((lm 0), .inr (2, [.int 0, .ref e0, .int 0]))]) [5] (by decide) rfl
  have hKc := hK.sub (tys' := []) [] rfl
  have hFc := va_free (wc := [((lm 0), .inr (2, [.int 0, .ref e0, .int 0]))]) hD hS hA [5] rfl
  refine va_callFi (va_runF (As := []) (rest := [.ref mo]) ((hK.1 2 _ rfl).2) ⟨hx, hb, hml, hown, hts⟩ (c_Jx4a65c_size_8abf5 l dC dI H.size e0 (lm 0)) (va_cwF 0 hts (goodIn_app (goodIn_of _ (by decide +kernel)) (goodIn_sub ((fun w h => List.mem_cons_of_mem _ (List.mem_append_right _ (List.mem_append_right _ (List.mem_append_right _ (List.mem_append_left _ h)))))) zgJx4a65c_size_8abf5)) rfl rfl rfl hE.2.2.2.2.2.2.1 (by decide +kernel) ⟨Nat.le_of_ble_eq_true rfl, Nat.le_of_ble_eq_true rfl⟩) ⟨gPc_blind, va_recv hK hP (ci := 2) (q0 := 5) rfl rfl, gPc_pass hPc hKc hDc⟩ rfl rfl hl.1 rfl (lv_room (Nat.le_of_ble_eq_true rfl)) dX12_panel_34 ⟨Nat.le_of_ble_eq_true rfl, Nat.le_of_ble_eq_true rfl⟩) hS (fun q _ h => hFc q h) hFc (fun r_4 u_5 t H locs ht hvm hw hB hz hk hS => ?_)
  obtain ⟨hP1, hK1, hD1⟩ := hB
  rw [ht] at hP1
  obtain ⟨hP, hD⟩ := va_join (wr := [(mo, .inr (15, [.int th, .ref (lm 0), .ref (lm 1), .ref (lm 2), .ref (lm 3), .ref (lm 4), .int 0, .int 0])), ((lm 1), .inr (2, [.int 0, .ref e0, .int 0])), ((lm 2), .inr (2, [.int 0, .ref e0, .int 0])), ((lm 3), .inr (2, [.int 0, .ref e0, .int 0])), ((lm 4), .inr (2, [.int 0, .ref e0, .int 0]))]) (w1 := [((lm 0), .inr (2, [.int 0, .ref e0, .int 0]))]) hP hD [5] [0, 1, 2, 3, 4] rfl rfl (by decide) (by decide) hk hFc hP1 hD1
  have hP : va_P (dC, dI) vwCl [(mo, .inr (15, [.int th, .ref (lm 0), .ref (lm 1), .ref (lm 2), .ref (lm 3), .ref (lm 4), .int 0, .int 0])), ((lm 1), .inr (2, [.int 0, .ref e0, .int 0])), ((lm 2), .inr (2, [.int 0, .ref e0, .int 0])), ((lm 3), .inr (2, [.int 0, .ref e0, .int 0])), ((lm 4), .inr (2, [.int 0, .ref e0, .int 0])), ((lm 0), .inr (2, [.int 0, .ref e0, .int 0]))] H := hP
  have hD : va_D A [(mo, .inr (15, [.int th, .ref (lm 0), .ref (lm 1), .ref (lm 2), .ref (lm 3), .ref (lm 4), .int 0, .int 0])), ((lm 1), .inr (2, [.int 0, .ref e0, .int 0])), ((lm 2), .inr (2, [.int 0, .ref e0, .int 0])), ((lm 3), .inr (2, [.int 0, .ref e0, .int 0])), ((lm 4), .inr (2, [.int 0, .ref e0, .int 0])), ((lm 0), .inr (2, [.int 0, .ref e0, .int 0]))] := hD
  have hw : r_4 = 0 := hw
  subst hw
  refine lv_bipush (v := 8) hx hb dX12_panel_39 (by decide) ?_
  refine lv_icmp_ne (tgt := 48) hx hb dX12_panel_41 (by decide) (fun _ => ?_) (fun c_6 => absurd c_6 (by decide))
  refine lv_iconst (v := 0) hx hb dX12_panel_48 (by decide) ?_
  have hPc := hP.sub (ws' := [(mo, .inr (15, [.int th, .ref (lm 0), .ref (lm 1), .ref (lm 2), .ref (lm 3), .ref (lm 4), .int 0, .int 0])), ((lm 0), .inr (2, [.int 0, .ref e0, .int 0])), ((lm 1), .inr (2, [.int 0, .ref e0, .int 0])), ((lm 2), .inr (2, [.int 0, .ref e0, .int 0])), ((lm 3), .inr (2, [.int 0, .ref e0, .int 0])), ((lm 4), .inr (2, [.int 0, .ref e0, .int 0]))]) [0, 5, 1, 2, 3, 4] rfl
  have hDc := hD.sub (ws' := [(mo, .inr (15, [.int th, .ref (lm 0), .ref (lm 1), .ref (lm 2), .ref (lm 3), .ref (lm 4), .int 0, .int 0])), ((lm 0), .inr (2, [.int 0, .ref e0, .int 0])), ((lm 1), .inr (2, [.int 0, .ref e0, .int 0])), ((lm 2), .inr (2, [.int 0, .ref e0, .int 0])), ((lm 3), .inr (2, [.int 0, .ref e0, .int 0])), ((lm 4), .inr (2, [.int 0, .ref e0, .int 0]))]) [0, 5, 1, 2, 3, 4] (by decide) rfl
  have hKc := hK.sub (tys' := []) [] rfl
  have hFc := va_free (wc := [(mo, .inr (15, [.int th, .ref (lm 0), .ref (lm 1), .ref (lm 2), .ref (lm 3), .ref (lm 4), .int 0, .int 0])), ((lm 0), .inr (2, [.int 0, .ref e0, .int 0])), ((lm 1), .inr (2, [.int 0, .ref e0, .int 0])), ((lm 2), .inr (2, [.int 0, .ref e0, .int 0])), ((lm 3), .inr (2, [.int 0, .ref e0, .int 0])), ((lm 4), .inr (2, [.int 0, .ref e0, .int 0]))]) hD hS hA [0, 5, 1, 2, 3, 4] rfl
  refine va_calli (va_runV (As := [.int 0]) (rest := []) ⟨hx, hb, hml, hown, hts⟩ (c_X12_isWrong_0 l dC dI H.size mo lm e0 th) (cwV 1 hts (goodIn_app (goodIn_of _ (by decide +kernel)) (goodIn_sub ((fun w h => List.mem_cons_of_mem _ (List.mem_append_right _ (List.mem_append_right _ (List.mem_append_right _ (List.mem_append_right _ (List.mem_append_left _ h))))))) zgX12_isWrong_0)) rfl rfl rfl (by decide +kernel) ⟨Nat.le_of_ble_eq_true rfl, Nat.le_of_ble_eq_true rfl⟩) ⟨gPcE_blind, va_recv hK hP (ci := 15) (q0 := 0) rfl rfl, gPcE_pass hPc hKc hDc hE hS hFc⟩ rfl rfl hl.1 rfl (lv_room (Nat.le_of_ble_eq_true rfl)) dX12_panel_49 ⟨Nat.le_of_ble_eq_true rfl, Nat.le_of_ble_eq_true rfl⟩) hS (fun q _ h => hFc q h) hFc (fun r_7 u_8 t H locs ht hvm hw hB hz hk hS => ?_)
  obtain ⟨hP1, hK1, hD1⟩ := hB
  rw [ht] at hP1
  obtain ⟨hP, hD⟩ := va_join (wr := []) (w1 := [(mo, .inr (15, [.int u_8, .ref (lm 0), .ref (lm 1), .ref (lm 2), .ref (lm 3), .ref (lm 4), .int 0, .int 0])), ((lm 0), .inr (2, [.int 0, .ref e0, .int 0])), ((lm 1), .inr (2, [.int 0, .ref e0, .int 0])), ((lm 2), .inr (2, [.int 0, .ref e0, .int 0])), ((lm 3), .inr (2, [.int 0, .ref e0, .int 0])), ((lm 4), .inr (2, [.int 0, .ref e0, .int 0]))]) hP hD [0, 5, 1, 2, 3, 4] [] rfl rfl (by decide) (by decide) hk hFc hP1 hD1
  have hP : va_P (dC, dI) vwCl [(mo, .inr (15, [.int u_8, .ref (lm 0), .ref (lm 1), .ref (lm 2), .ref (lm 3), .ref (lm 4), .int 0, .int 0])), ((lm 0), .inr (2, [.int 0, .ref e0, .int 0])), ((lm 1), .inr (2, [.int 0, .ref e0, .int 0])), ((lm 2), .inr (2, [.int 0, .ref e0, .int 0])), ((lm 3), .inr (2, [.int 0, .ref e0, .int 0])), ((lm 4), .inr (2, [.int 0, .ref e0, .int 0]))] H := hP
  have hD : va_D A [(mo, .inr (15, [.int u_8, .ref (lm 0), .ref (lm 1), .ref (lm 2), .ref (lm 3), .ref (lm 4), .int 0, .int 0])), ((lm 0), .inr (2, [.int 0, .ref e0, .int 0])), ((lm 1), .inr (2, [.int 0, .ref e0, .int 0])), ((lm 2), .inr (2, [.int 0, .ref e0, .int 0])), ((lm 3), .inr (2, [.int 0, .ref e0, .int 0])), ((lm 4), .inr (2, [.int 0, .ref e0, .int 0]))] := hD
  have hw : r_7 = 0 ∧ u_8 = 0 := hw
  obtain ⟨rfl, rfl⟩ : r_7 = 0 ∧ u_8 = 0 := hw
  refine lv_if_eq (tgt := 57) hx hb dX12_panel_52 (by decide) (fun _ => ?_) (fun c_9 => absurd c_9 (by decide))
  refine lv_aload_n hx hb dX12_panel_57 rfl (lv_at hl 1 rfl) ?_
  refine va_get (D := (dC, dI)) (ci := 15) (v := .ref (lm 0)) (C := RX12) (T := TX12) (N := 8) hx hb hts (fun w h => List.mem_cons_of_mem _ (List.mem_append_right _ (List.mem_append_left _ h))) hown hK hP 0 rfl rfl 1 (by decide) (hts (.fieldLink RX12 10 "SpotbeatModel" "parents" "Ljava/util/List;") (by decide +kernel)) (fun _ h9 => h9) rfl dX12_panel_58 ?_
  refine lv_iload_n hx hb dX12_panel_61 rfl (lv_at hl 0 rfl) ?_
  refine lv_if_eq (tgt := 69) hx hb dX12_panel_62 (by decide) (fun c_10 => absurd c_10 (by decide)) (fun _ => ?_)
  refine lv_iconst (v := (-1)) hx hb dX12_panel_65 (by decide) ?_
  refine lv_goto (tgt := 70) hx hb dX12_panel_66 (by decide) ?_
  have hPc := hP.sub (ws' := []) [] rfl
  have hDc := hD.sub (ws' := []) [] (by decide) rfl
  have hKc := hK.sub (tys' := []) [] rfl
  have hFc := va_free (wc := []) hD hS hA [] rfl
  refine va_callr (va_runS (As := [.int (-1)]) (rest := [.ref (lm 0)]) ⟨hx, hb, hml, hown, hts⟩ (c_J6_valueOf_2dffe l dC dI H.size e0 ad) (va_cwS 1 hts (goodIn_app (goodIn_of _ (by decide +kernel)) (goodIn_sub ((fun w h => List.mem_cons_of_mem _ (List.mem_append_right _ (List.mem_append_right _ (List.mem_append_right _ (List.mem_append_right _ (List.mem_append_right _ (List.mem_append_left _ h)))))))) zgJ6_valueOf_2dffe)) rfl rfl rfl (by decide +kernel) ⟨Nat.le_of_ble_eq_true rfl, Nat.le_of_ble_eq_true rfl⟩) ⟨gPcM_blind, gPcM_pass hPc hKc hDc hE hZ hM hS hFc⟩ rfl rfl hl.1 rfl (lv_room (Nat.le_of_ble_eq_true rfl)) dX12_panel_70 ⟨Nat.le_of_ble_eq_true rfl, Nat.le_of_ble_eq_true rfl⟩) hS (fun q _ h => hFc q h) hFc (fun u_12 r_11 t H locs ht hvm hw hB hz hk hS => ?_)
  obtain rfl : r_11 = ad 127 := hB
  obtain ⟨hP, hD⟩ := va_join (wr := [(mo, .inr (15, [.int 0, .ref (lm 0), .ref (lm 1), .ref (lm 2), .ref (lm 3), .ref (lm 4), .int 0, .int 0])), ((lm 0), .inr (2, [.int 0, .ref e0, .int 0])), ((lm 1), .inr (2, [.int 0, .ref e0, .int 0])), ((lm 2), .inr (2, [.int 0, .ref e0, .int 0])), ((lm 3), .inr (2, [.int 0, .ref e0, .int 0])), ((lm 4), .inr (2, [.int 0, .ref e0, .int 0]))]) (w1 := []) hP hD [] [0, 1, 2, 3, 4, 5] rfl rfl (by decide) (by decide) hk hFc zP_nil zD_nil
  have hP : va_P (dC, dI) vwCl [(mo, .inr (15, [.int 0, .ref (lm 0), .ref (lm 1), .ref (lm 2), .ref (lm 3), .ref (lm 4), .int 0, .int 0])), ((lm 0), .inr (2, [.int 0, .ref e0, .int 0])), ((lm 1), .inr (2, [.int 0, .ref e0, .int 0])), ((lm 2), .inr (2, [.int 0, .ref e0, .int 0])), ((lm 3), .inr (2, [.int 0, .ref e0, .int 0])), ((lm 4), .inr (2, [.int 0, .ref e0, .int 0]))] H := hP
  have hD : va_D A [(mo, .inr (15, [.int 0, .ref (lm 0), .ref (lm 1), .ref (lm 2), .ref (lm 3), .ref (lm 4), .int 0, .int 0])), ((lm 0), .inr (2, [.int 0, .ref e0, .int 0])), ((lm 1), .inr (2, [.int 0, .ref e0, .int 0])), ((lm 2), .inr (2, [.int 0, .ref e0, .int 0])), ((lm 3), .inr (2, [.int 0, .ref e0, .int 0])), ((lm 4), .inr (2, [.int 0, .ref e0, .int 0]))] := hD
  have hw : True := hw
  have hPc := hP.sub (ws' := [((lm 0), .inr (2, [.int 0, .ref e0, .int 0]))]) [1] rfl
  have hDc := hD.sub (ws' := [((lm 0), .inr (2, [.int 0, .ref e0, .int 0]))]) [1] (by decide) rfl
  have hKc := hK.sub (tys' := []) [] rfl
  have hFc := va_free (wc := [((lm 0), .inr (2, [.int 0, .ref e0, .int 0]))]) hD hS hA [1] rfl
  refine va_callFi (va_runF (As := [.ref (ad 127)]) (rest := []) ((hK.1 2 _ rfl).2) ⟨hx, hb, hml, hown, hts⟩ (c_Jx4a65c_add_9ea2d l dC dI H.size e0 RJ6 (lm 0) (ad 127)) (va_cwF 1 hts (goodIn_app (goodIn_of _ (by decide +kernel)) (goodIn_sub ((fun w h => List.mem_cons_of_mem _ (List.mem_append_right _ (List.mem_append_right _ (List.mem_append_right _ (List.mem_append_right _ (List.mem_append_right _ (List.mem_append_right _ (List.mem_append_left _ h))))))))) zgJx4a65c_add_9ea2d)) rfl rfl rfl hE.2.2.2.2.2.2.2.2.2.1 (by decide +kernel) ⟨Nat.le_of_ble_eq_true rfl, Nat.le_of_ble_eq_true rfl⟩) ⟨gPcV_blind, va_recv hK hP (ci := 2) (q0 := 1) rfl rfl, gPcV_pass hPc hKc hDc hE hZ hS hFc (zO_in hM.2.2.2.2.2.2.2.2.2.1 hS hFc) (hM.2.2.2.2.2.2.2.2.2.2.2 _ (by decide)) hM.2.2.2.2.2.2.2.2.2.2.1⟩ rfl rfl hl.1 rfl (lv_room (Nat.le_of_ble_eq_true rfl)) dX12_panel_73 ⟨Nat.le_of_ble_eq_true rfl, Nat.le_of_ble_eq_true rfl⟩) hS (fun q _ h => hFc q h) hFc (fun r_13 u_14 t H locs ht hvm hw hB hz hk hS => ?_)
  obtain ⟨hP1, hK1, hD1⟩ := hB
  rw [ht] at hP1
  obtain ⟨hP, hD⟩ := va_join (wr := [(mo, .inr (15, [.int 0, .ref (lm 0), .ref (lm 1), .ref (lm 2), .ref (lm 3), .ref (lm 4), .int 0, .int 0])), ((lm 1), .inr (2, [.int 0, .ref e0, .int 0])), ((lm 2), .inr (2, [.int 0, .ref e0, .int 0])), ((lm 3), .inr (2, [.int 0, .ref e0, .int 0])), ((lm 4), .inr (2, [.int 0, .ref e0, .int 0]))]) (w1 := [((lm 0), .inr (2, [.int 1, .ref u_14, .int 1]))]) hP hD [1] [0, 2, 3, 4, 5] rfl rfl (by decide) (by decide) hk hFc hP1 hD1
  have hP : va_P (dC, dI) vwCl [(mo, .inr (15, [.int 0, .ref (lm 0), .ref (lm 1), .ref (lm 2), .ref (lm 3), .ref (lm 4), .int 0, .int 0])), ((lm 1), .inr (2, [.int 0, .ref e0, .int 0])), ((lm 2), .inr (2, [.int 0, .ref e0, .int 0])), ((lm 3), .inr (2, [.int 0, .ref e0, .int 0])), ((lm 4), .inr (2, [.int 0, .ref e0, .int 0])), ((lm 0), .inr (2, [.int 1, .ref u_14, .int 1]))] H := hP
  have hD : va_D A [(mo, .inr (15, [.int 0, .ref (lm 0), .ref (lm 1), .ref (lm 2), .ref (lm 3), .ref (lm 4), .int 0, .int 0])), ((lm 1), .inr (2, [.int 0, .ref e0, .int 0])), ((lm 2), .inr (2, [.int 0, .ref e0, .int 0])), ((lm 3), .inr (2, [.int 0, .ref e0, .int 0])), ((lm 4), .inr (2, [.int 0, .ref e0, .int 0])), ((lm 0), .inr (2, [.int 1, .ref u_14, .int 1]))] := hD
  have hw : r_13 = 1 := hw
  subst hw
  refine lv_pop hx hb dX12_panel_78 rfl ?_
  refine lv_aload_n hx hb dX12_panel_79 rfl (lv_at hl 1 rfl) ?_
  refine va_get (D := (dC, dI)) (ci := 15) (v := .ref (lm 0)) (C := RX12) (T := TX12) (N := 8) hx hb hts (fun w h => List.mem_cons_of_mem _ (List.mem_append_right _ (List.mem_append_left _ h))) hown hK hP 0 rfl rfl 1 (by decide) (hts (.fieldLink RX12 10 "SpotbeatModel" "parents" "Ljava/util/List;") (by decide +kernel)) (fun _ h9 => h9) rfl dX12_panel_80 ?_
  have hPc := hP.sub (ws' := [((lm 0), .inr (2, [.int 1, .ref u_14, .int 1]))]) [5] rfl
  have hDc := hD.sub (ws' := [((lm 0), .inr (2, [.int 1, .ref u_14, .int 1]))]) [5] (by decide) rfl
  have hKc := hK.sub (tys' := []) [] rfl
  have hFc := va_free (wc := [((lm 0), .inr (2, [.int 1, .ref u_14, .int 1]))]) hD hS hA [5] rfl
  refine va_callFi (va_runF (As := []) (rest := []) ((hK.1 2 _ rfl).2) ⟨hx, hb, hml, hown, hts⟩ (c_Jx4a65c_size_1 l dC dI H.size u_14 (lm 0)) (va_cwF 0 hts (goodIn_app (goodIn_of _ (by decide +kernel)) (goodIn_sub ((fun w h => List.mem_cons_of_mem _ (List.mem_append_right _ (List.mem_append_right _ (List.mem_append_right _ (List.mem_append_right _ (List.mem_append_right _ (List.mem_append_right _ (List.mem_append_right _ (h)))))))))) zgJx4a65c_size_1)) rfl rfl rfl hE.2.2.2.2.2.2.1 (by decide +kernel) ⟨Nat.le_of_ble_eq_true rfl, Nat.le_of_ble_eq_true rfl⟩) ⟨gPc_blind, va_recv hK hP (ci := 2) (q0 := 5) rfl rfl, gPc_pass hPc hKc hDc⟩ rfl rfl hl.1 rfl (lv_room (Nat.le_of_ble_eq_true rfl)) dX12_panel_83 ⟨Nat.le_of_ble_eq_true rfl, Nat.le_of_ble_eq_true rfl⟩) hS (fun q _ h => hFc q h) hFc (fun r_15 u_16 t H locs ht hvm hw hB hz hk hS => ?_)
  obtain ⟨hP1, hK1, hD1⟩ := hB
  rw [ht] at hP1
  obtain ⟨hP, hD⟩ := va_join (wr := [(mo, .inr (15, [.int 0, .ref (lm 0), .ref (lm 1), .ref (lm 2), .ref (lm 3), .ref (lm 4), .int 0, .int 0])), ((lm 1), .inr (2, [.int 0, .ref e0, .int 0])), ((lm 2), .inr (2, [.int 0, .ref e0, .int 0])), ((lm 3), .inr (2, [.int 0, .ref e0, .int 0])), ((lm 4), .inr (2, [.int 0, .ref e0, .int 0]))]) (w1 := [((lm 0), .inr (2, [.int 1, .ref u_14, .int 1]))]) hP hD [5] [0, 1, 2, 3, 4] rfl rfl (by decide) (by decide) hk hFc hP1 hD1
  have hP : va_P (dC, dI) vwCl [(mo, .inr (15, [.int 0, .ref (lm 0), .ref (lm 1), .ref (lm 2), .ref (lm 3), .ref (lm 4), .int 0, .int 0])), ((lm 1), .inr (2, [.int 0, .ref e0, .int 0])), ((lm 2), .inr (2, [.int 0, .ref e0, .int 0])), ((lm 3), .inr (2, [.int 0, .ref e0, .int 0])), ((lm 4), .inr (2, [.int 0, .ref e0, .int 0])), ((lm 0), .inr (2, [.int 1, .ref u_14, .int 1]))] H := hP
  have hD : va_D A [(mo, .inr (15, [.int 0, .ref (lm 0), .ref (lm 1), .ref (lm 2), .ref (lm 3), .ref (lm 4), .int 0, .int 0])), ((lm 1), .inr (2, [.int 0, .ref e0, .int 0])), ((lm 2), .inr (2, [.int 0, .ref e0, .int 0])), ((lm 3), .inr (2, [.int 0, .ref e0, .int 0])), ((lm 4), .inr (2, [.int 0, .ref e0, .int 0])), ((lm 0), .inr (2, [.int 1, .ref u_14, .int 1]))] := hD
  have hw : r_15 = 1 := hw
  subst hw
  refine lv_iconst (v := 1) hx hb dX12_panel_88 (by decide) ?_
  refine lv_isub hx hb dX12_panel_89 ?_
  refine lv_topi (fun y_17 ey_17 => ?_)
  obtain rfl : y_17 = 0 := ey_17.trans (by decide +kernel)
  have hP9 := hP.sub (ws' := [(mo, .inr (15, [.int 0, .ref (lm 0), .ref (lm 1), .ref (lm 2), .ref (lm 3), .ref (lm 4), .int 0, .int 0]))]) [0] rfl
  have hD9 := hD.sub (ws' := [(mo, .inr (15, [.int 0, .ref (lm 0), .ref (lm 1), .ref (lm 2), .ref (lm 3), .ref (lm 4), .int 0, .int 0]))]) [0] (by decide) rfl
  have hK9 := hK.sub (tys' := []) [] rfl
  refine W.widen (k := 1) (n := 10) (Nat.le_of_ble_eq_true rfl) (Nat.le_of_ble_eq_true rfl) ?_
  exact W.iret (v := 0) hx hb hr (fun t ht hW => ⟨⟨0, 0, rfl, ⟨rfl, rfl⟩, by rw [ht]; exact hP9, va_K.moved hW.alike hK9, hD9⟩, hS.F ht⟩) hS.2.2 dX12_panel_90

def zwX12_station : List Cond := .code yX12_station cX12_station 1 (some .int) :: (([.fieldLink RX12 19 "SpotbeatModel" "stations" "Ljava/util/List;", .methodLink RX12 32 ⟨"java/util/List", "size", "()I"⟩, .selects RJx4a65c ⟨"java/util/List", "size", "()I"⟩ yJx4a65c_size_8abf5, .instanceMethod yJx4a65c_size_8abf5, .initialized RJx4a65c, .methodLink RX12 50 yX12_isWrong, .instanceMethod yX12_isWrong, .selects RX12 yX12_isWrong yX12_isWrong, .initialized RX12, .classLink RX12 107 RX11, .instantiable RX11 6, .initialized RX11, .instanceMethod yX11_init, .methodLink RX12 60 ⟨"java/util/List", "add", "(Ljava/lang/Object;)Z"⟩, .selects RJx4a65c ⟨"java/util/List", "add", "(Ljava/lang/Object;)Z"⟩ yJx4a65c_add_9ea2d, .instanceMethod yJx4a65c_add_9ea2d] : List Cond) ++ (wsX120 ++ (zwJx4a65c_size_8abf5 ++ (zwX12_isWrong_0 ++ (wsX110 ++ (zwX11_init ++ (zwJx4a65c_add_9ea2d ++ (zwJx4a65c_size_1))))))))
theorem zgX12_station : zwX12_station.all goodWord = true := zgo rfl (zga (by decide +kernel) (zga zgcX12 (zga zgJx4a65c_size_8abf5 (zga zgX12_isWrong_0 (zga zgcX11 (zga zgX11_init (zga zgJx4a65c_add_9ea2d (zgJx4a65c_size_1))))))))
set_option maxHeartbeats 4000000 in
set_option maxRecDepth 100000 in
theorem c_X12_station (l : Launch) (dC : Nat → ClassId) (dI : Nat → Nat → Nat) (sz : Nat) (mo : Nat) (lm : Nat → Nat) (e0 : Nat) (th : Int32) (ad : Nat → Nat) : Met l yX12_station zwX12_station ({ frames := 5, cells := 4, slots := 23, locals := 101 }) (gPcM dC dI sz [(mo, .inr (15, [.int th, .ref (lm 0), .ref (lm 1), .ref (lm 2), .ref (lm 3), .ref (lm 4), .int 0, .int 0])), ((lm 0), .inr (2, [.int 0, .ref e0, .int 0])), ((lm 1), .inr (2, [.int 0, .ref e0, .int 0])), ((lm 2), .inr (2, [.int 0, .ref e0, .int 0])), ((lm 3), .inr (2, [.int 0, .ref e0, .int 0])), ((lm 4), .inr (2, [.int 0, .ref e0, .int 0]))] [] e0 ad [.ref mo]) (va_Qi (fun (r : Int32) (u : Int32) => r = 0 ∧ u = 0) (fun u t => va_P (dC, dI) vwCl [(mo, .inr (15, [.int u, .ref (lm 0), .ref (lm 1), .ref (lm 2), .ref (lm 3), .ref (lm 4), .int 0, .int 0]))] t.heap ∧ va_K (dC, dI) vwCl [] t ∧ va_D (va_A [(mo, .inr (15, [.int th, .ref (lm 0), .ref (lm 1), .ref (lm 2), .ref (lm 3), .ref (lm 4), .int 0, .int 0])), ((lm 0), .inr (2, [.int 0, .ref e0, .int 0])), ((lm 1), .inr (2, [.int 0, .ref e0, .int 0])), ((lm 2), .inr (2, [.int 0, .ref e0, .int 0])), ((lm 3), .inr (2, [.int 0, .ref e0, .int 0])), ((lm 4), .inr (2, [.int 0, .ref e0, .int 0]))] sz) [(mo, .inr (15, [.int u, .ref (lm 0), .ref (lm 1), .ref (lm 2), .ref (lm 3), .ref (lm 4), .int 0, .int 0]))]) (va_A [(mo, .inr (15, [.int th, .ref (lm 0), .ref (lm 1), .ref (lm 2), .ref (lm 3), .ref (lm 4), .int 0, .int 0])), ((lm 0), .inr (2, [.int 0, .ref e0, .int 0])), ((lm 1), .inr (2, [.int 0, .ref e0, .int 0])), ((lm 2), .inr (2, [.int 0, .ref e0, .int 0])), ((lm 3), .inr (2, [.int 0, .ref e0, .int 0])), ((lm 4), .inr (2, [.int 0, .ref e0, .int 0]))] sz)) 4 23 (va_A [(mo, .inr (15, [.int th, .ref (lm 0), .ref (lm 1), .ref (lm 2), .ref (lm 3), .ref (lm 4), .int 0, .int 0])), ((lm 0), .inr (2, [.int 0, .ref e0, .int 0])), ((lm 1), .inr (2, [.int 0, .ref e0, .int 0])), ((lm 2), .inr (2, [.int 0, .ref e0, .int 0])), ((lm 3), .inr (2, [.int 0, .ref e0, .int 0])), ((lm 4), .inr (2, [.int 0, .ref e0, .int 0]))] sz) := by
  refine Met.ofW (cc := cX12_station) (maxL := 1) (ret := (some .int)) (by decide) rfl ?_
  intro p e s m args below meth c s₁ B hml hv
  obtain ⟨rfl, hsz, hP, hK, hD0, hE, hZ, hM⟩ := hv
  have hx := B.exec
  have hb := B.bytes
  have hr := B.returns
  have hts := atoms_spec (ws := zwX12_station) B.pre
  have hown : s.vm.findClass RX12 = some m.cls := findClass_of_methodNamed B.named
  have hlocks := B.notSynchronized
  subst hsz
  have hD := hD0.self (sz := s.heap.size)
  generalize hAe : va_A [(mo, .inr (15, [.int th, .ref (lm 0), .ref (lm 1), .ref (lm 2), .ref (lm 3), .ref (lm 4), .int 0, .int 0])), ((lm 0), .inr (2, [.int 0, .ref e0, .int 0])), ((lm 1), .inr (2, [.int 0, .ref e0, .int 0])), ((lm 2), .inr (2, [.int 0, .ref e0, .int 0])), ((lm 3), .inr (2, [.int 0, .ref e0, .int 0])), ((lm 4), .inr (2, [.int 0, .ref e0, .int 0]))] s.heap.size = A at hD hE hZ hM ⊢
  have hA : ∀ q : Nat, s.heap.size ≤ q → A q := fun q h => by rw [← hAe]; exact Or.inr h
  have hS : va_S A s.heap s.heap [] := va_S.rf
  have hP : va_P (dC, dI) vwCl [(mo, .inr (15, [.int th, .ref (lm 0), .ref (lm 1), .ref (lm 2), .ref (lm 3), .ref (lm 4), .int 0, .int 0])), ((lm 0), .inr (2, [.int 0, .ref e0, .int 0])), ((lm 1), .inr (2, [.int 0, .ref e0, .int 0])), ((lm 2), .inr (2, [.int 0, .ref e0, .int 0])), ((lm 3), .inr (2, [.int 0, .ref e0, .int 0])), ((lm 4), .inr (2, [.int 0, .ref e0, .int 0]))] s.heap := hP
  have hl := lv_entry ([.ref mo]) (n := 1) (Nat.le_of_ble_eq_true rfl)
  rw [lg_entry_eq]
  generalize (lg_sl ([.ref mo]) ++ List.replicate (1 - (lg_sl ([.ref mo])).length) Slot.unset).toArray = ls at hl ⊢
  have hl : lv_has ls 1 [(0, .ref mo)] := hl
  refine lv_aload_n hx hb dX12_station_0 rfl (lv_at hl 0 rfl) ?_
  refine lv_aload_n hx hb dX12_station_1 rfl (lv_at hl 0 rfl) ?_
  refine va_get (D := (dC, dI)) (ci := 15) (v := .ref (lm 2)) (C := RX12) (T := TX12) (N := 8) hx hb hts (fun w h => List.mem_cons_of_mem _ (List.mem_append_right _ (List.mem_append_left _ h))) hown hK hP 0 rfl rfl 3 (by decide) (hts (.fieldLink RX12 19 "SpotbeatModel" "stations" "Ljava/util/List;") (by decide +kernel)) (fun _ h9 => h9) rfl dX12_station_2 ?_
  have hPc := hP.sub (ws' := [((lm 2), .inr (2, [.int 0, .ref e0, .int 0]))]) [3] rfl
  have hDc := hD.sub (ws' := [((lm 2), .inr (2, [.int 0, .ref e0, .int 0]))]) [3] (by decide) rfl
  have hKc := hK.sub (tys' := []) [] rfl
  have hFc := va_free (wc := [((lm 2), .inr (2, [.int 0, .ref e0, .int 0]))]) hD hS hA [3] rfl
  refine va_callFi (va_runF (As := []) (rest := [.ref mo]) ((hK.1 2 _ rfl).2) ⟨hx, hb, hml, hown, hts⟩ (c_Jx4a65c_size_8abf5 l dC dI s.heap.size e0 (lm 2)) (va_cwF 0 hts (goodIn_app (goodIn_of _ (by decide +kernel)) (goodIn_sub ((fun w h => List.mem_cons_of_mem _ (List.mem_append_right _ (List.mem_append_right _ (List.mem_append_left _ h))))) zgJx4a65c_size_8abf5)) rfl rfl rfl hE.2.2.2.2.2.2.1 (by decide +kernel) ⟨Nat.le_of_ble_eq_true rfl, Nat.le_of_ble_eq_true rfl⟩) ⟨gPc_blind, va_recv hK hP (ci := 2) (q0 := 3) rfl rfl, gPc_pass hPc hKc hDc⟩ rfl rfl hl.1 rfl (lv_room (Nat.le_of_ble_eq_true rfl)) dX12_station_5 ⟨Nat.le_of_ble_eq_true rfl, Nat.le_of_ble_eq_true rfl⟩) hS (fun q _ h => hFc q h) hFc (fun r_1 u_2 t H locs ht hvm hw hB hz hk hS => ?_)
  obtain ⟨hP1, hK1, hD1⟩ := hB
  rw [ht] at hP1
  obtain ⟨hP, hD⟩ := va_join (wr := [(mo, .inr (15, [.int th, .ref (lm 0), .ref (lm 1), .ref (lm 2), .ref (lm 3), .ref (lm 4), .int 0, .int 0])), ((lm 0), .inr (2, [.int 0, .ref e0, .int 0])), ((lm 1), .inr (2, [.int 0, .ref e0, .int 0])), ((lm 3), .inr (2, [.int 0, .ref e0, .int 0])), ((lm 4), .inr (2, [.int 0, .ref e0, .int 0]))]) (w1 := [((lm 2), .inr (2, [.int 0, .ref e0, .int 0]))]) hP hD [3] [0, 1, 2, 4, 5] rfl rfl (by decide) (by decide) hk hFc hP1 hD1
  have hP : va_P (dC, dI) vwCl [(mo, .inr (15, [.int th, .ref (lm 0), .ref (lm 1), .ref (lm 2), .ref (lm 3), .ref (lm 4), .int 0, .int 0])), ((lm 0), .inr (2, [.int 0, .ref e0, .int 0])), ((lm 1), .inr (2, [.int 0, .ref e0, .int 0])), ((lm 3), .inr (2, [.int 0, .ref e0, .int 0])), ((lm 4), .inr (2, [.int 0, .ref e0, .int 0])), ((lm 2), .inr (2, [.int 0, .ref e0, .int 0]))] H := hP
  have hD : va_D A [(mo, .inr (15, [.int th, .ref (lm 0), .ref (lm 1), .ref (lm 2), .ref (lm 3), .ref (lm 4), .int 0, .int 0])), ((lm 0), .inr (2, [.int 0, .ref e0, .int 0])), ((lm 1), .inr (2, [.int 0, .ref e0, .int 0])), ((lm 3), .inr (2, [.int 0, .ref e0, .int 0])), ((lm 4), .inr (2, [.int 0, .ref e0, .int 0])), ((lm 2), .inr (2, [.int 0, .ref e0, .int 0]))] := hD
  have hw : r_1 = 0 := hw
  subst hw
  refine lv_iconst (v := 4) hx hb dX12_station_10 (by decide) ?_
  refine lv_icmp_ne (tgt := 18) hx hb dX12_station_11 (by decide) (fun _ => ?_) (fun c_3 => absurd c_3 (by decide))
  refine lv_iconst (v := 0) hx hb dX12_station_18 (by decide) ?_
  have hPc := hP.sub (ws' := [(mo, .inr (15, [.int th, .ref (lm 0), .ref (lm 1), .ref (lm 2), .ref (lm 3), .ref (lm 4), .int 0, .int 0])), ((lm 0), .inr (2, [.int 0, .ref e0, .int 0])), ((lm 1), .inr (2, [.int 0, .ref e0, .int 0])), ((lm 2), .inr (2, [.int 0, .ref e0, .int 0])), ((lm 3), .inr (2, [.int 0, .ref e0, .int 0])), ((lm 4), .inr (2, [.int 0, .ref e0, .int 0]))]) [0, 1, 2, 5, 3, 4] rfl
  have hDc := hD.sub (ws' := [(mo, .inr (15, [.int th, .ref (lm 0), .ref (lm 1), .ref (lm 2), .ref (lm 3), .ref (lm 4), .int 0, .int 0])), ((lm 0), .inr (2, [.int 0, .ref e0, .int 0])), ((lm 1), .inr (2, [.int 0, .ref e0, .int 0])), ((lm 2), .inr (2, [.int 0, .ref e0, .int 0])), ((lm 3), .inr (2, [.int 0, .ref e0, .int 0])), ((lm 4), .inr (2, [.int 0, .ref e0, .int 0]))]) [0, 1, 2, 5, 3, 4] (by decide) rfl
  have hKc := hK.sub (tys' := []) [] rfl
  have hFc := va_free (wc := [(mo, .inr (15, [.int th, .ref (lm 0), .ref (lm 1), .ref (lm 2), .ref (lm 3), .ref (lm 4), .int 0, .int 0])), ((lm 0), .inr (2, [.int 0, .ref e0, .int 0])), ((lm 1), .inr (2, [.int 0, .ref e0, .int 0])), ((lm 2), .inr (2, [.int 0, .ref e0, .int 0])), ((lm 3), .inr (2, [.int 0, .ref e0, .int 0])), ((lm 4), .inr (2, [.int 0, .ref e0, .int 0]))]) hD hS hA [0, 1, 2, 5, 3, 4] rfl
  refine va_calli (va_runV (As := [.int 0]) (rest := []) ⟨hx, hb, hml, hown, hts⟩ (c_X12_isWrong_0 l dC dI H.size mo lm e0 th) (cwV 1 hts (goodIn_app (goodIn_of _ (by decide +kernel)) (goodIn_sub ((fun w h => List.mem_cons_of_mem _ (List.mem_append_right _ (List.mem_append_right _ (List.mem_append_right _ (List.mem_append_left _ h)))))) zgX12_isWrong_0)) rfl rfl rfl (by decide +kernel) ⟨Nat.le_of_ble_eq_true rfl, Nat.le_of_ble_eq_true rfl⟩) ⟨gPcE_blind, va_recv hK hP (ci := 15) (q0 := 0) rfl rfl, gPcE_pass hPc hKc hDc hE hS hFc⟩ rfl rfl hl.1 rfl (lv_room (Nat.le_of_ble_eq_true rfl)) dX12_station_19 ⟨Nat.le_of_ble_eq_true rfl, Nat.le_of_ble_eq_true rfl⟩) hS (fun q _ h => hFc q h) hFc (fun r_4 u_5 t H locs ht hvm hw hB hz hk hS => ?_)
  obtain ⟨hP1, hK1, hD1⟩ := hB
  rw [ht] at hP1
  obtain ⟨hP, hD⟩ := va_join (wr := []) (w1 := [(mo, .inr (15, [.int u_5, .ref (lm 0), .ref (lm 1), .ref (lm 2), .ref (lm 3), .ref (lm 4), .int 0, .int 0])), ((lm 0), .inr (2, [.int 0, .ref e0, .int 0])), ((lm 1), .inr (2, [.int 0, .ref e0, .int 0])), ((lm 2), .inr (2, [.int 0, .ref e0, .int 0])), ((lm 3), .inr (2, [.int 0, .ref e0, .int 0])), ((lm 4), .inr (2, [.int 0, .ref e0, .int 0]))]) hP hD [0, 1, 2, 5, 3, 4] [] rfl rfl (by decide) (by decide) hk hFc hP1 hD1
  have hP : va_P (dC, dI) vwCl [(mo, .inr (15, [.int u_5, .ref (lm 0), .ref (lm 1), .ref (lm 2), .ref (lm 3), .ref (lm 4), .int 0, .int 0])), ((lm 0), .inr (2, [.int 0, .ref e0, .int 0])), ((lm 1), .inr (2, [.int 0, .ref e0, .int 0])), ((lm 2), .inr (2, [.int 0, .ref e0, .int 0])), ((lm 3), .inr (2, [.int 0, .ref e0, .int 0])), ((lm 4), .inr (2, [.int 0, .ref e0, .int 0]))] H := hP
  have hD : va_D A [(mo, .inr (15, [.int u_5, .ref (lm 0), .ref (lm 1), .ref (lm 2), .ref (lm 3), .ref (lm 4), .int 0, .int 0])), ((lm 0), .inr (2, [.int 0, .ref e0, .int 0])), ((lm 1), .inr (2, [.int 0, .ref e0, .int 0])), ((lm 2), .inr (2, [.int 0, .ref e0, .int 0])), ((lm 3), .inr (2, [.int 0, .ref e0, .int 0])), ((lm 4), .inr (2, [.int 0, .ref e0, .int 0]))] := hD
  have hw : r_4 = 0 ∧ u_5 = 0 := hw
  obtain ⟨rfl, rfl⟩ : r_4 = 0 ∧ u_5 = 0 := hw
  refine lv_if_eq (tgt := 27) hx hb dX12_station_22 (by decide) (fun _ => ?_) (fun c_6 => absurd c_6 (by decide))
  refine lv_aload_n hx hb dX12_station_27 rfl (lv_at hl 0 rfl) ?_
  refine va_get (D := (dC, dI)) (ci := 15) (v := .ref (lm 2)) (C := RX12) (T := TX12) (N := 8) hx hb hts (fun w h => List.mem_cons_of_mem _ (List.mem_append_right _ (List.mem_append_left _ h))) hown hK hP 0 rfl rfl 3 (by decide) (hts (.fieldLink RX12 19 "SpotbeatModel" "stations" "Ljava/util/List;") (by decide +kernel)) (fun _ h9 => h9) rfl dX12_station_28 ?_
  refine va_new (ci := 14) (fs := [.null, .null, .int 0, .int 0, .int 0, .int 0]) (C := RX11) (T := TX11) (N := 6) hx hb hts (fun w h => List.mem_cons_of_mem _ (List.mem_append_right _ (List.mem_append_right _ (List.mem_append_right _ (List.mem_append_right _ (List.mem_append_left _ h)))))) tyX11 tyX11_ok hown (hts (.classLink RX12 107 RX11) (by decide +kernel)) (hts (.instantiable RX11 6) (by decide +kernel)) (hts (.initialized RX11) (by decide +kernel)) hK hP hD hS hA rfl (fun j hj => by rcases (show j = 0 ∨ j = 1 ∨ j = 2 ∨ j = 3 ∨ j = 4 ∨ j = 5 by omega) with rfl | rfl | rfl | rfl | rfl | rfl <;> rfl) (Nat.le_of_ble_eq_true rfl) (Nat.le_of_ble_eq_true rfl) dX12_station_31 (fun q31 H hP hD hS => ?_)
  have hP : va_P (dC, dI) vwCl [(mo, .inr (15, [.int 0, .ref (lm 0), .ref (lm 1), .ref (lm 2), .ref (lm 3), .ref (lm 4), .int 0, .int 0])), ((lm 0), .inr (2, [.int 0, .ref e0, .int 0])), ((lm 1), .inr (2, [.int 0, .ref e0, .int 0])), ((lm 2), .inr (2, [.int 0, .ref e0, .int 0])), ((lm 3), .inr (2, [.int 0, .ref e0, .int 0])), ((lm 4), .inr (2, [.int 0, .ref e0, .int 0])), (q31, .inr (14, [.null, .null, .int 0, .int 0, .int 0, .int 0]))] H := hP
  have hD : va_D A [(mo, .inr (15, [.int 0, .ref (lm 0), .ref (lm 1), .ref (lm 2), .ref (lm 3), .ref (lm 4), .int 0, .int 0])), ((lm 0), .inr (2, [.int 0, .ref e0, .int 0])), ((lm 1), .inr (2, [.int 0, .ref e0, .int 0])), ((lm 2), .inr (2, [.int 0, .ref e0, .int 0])), ((lm 3), .inr (2, [.int 0, .ref e0, .int 0])), ((lm 4), .inr (2, [.int 0, .ref e0, .int 0])), (q31, .inr (14, [.null, .null, .int 0, .int 0, .int 0, .int 0]))] := hD
  refine lv_dup hx hb dX12_station_34 rfl ?_
  have hPc := hP.sub (ws' := [(q31, .inr (14, [.null, .null, .int 0, .int 0, .int 0, .int 0]))]) [6] rfl
  have hDc := hD.sub (ws' := [(q31, .inr (14, [.null, .null, .int 0, .int 0, .int 0, .int 0]))]) [6] (by decide) rfl
  have hKc := hK.sub (tys' := []) [] rfl
  have hFc := va_free (wc := [(q31, .inr (14, [.null, .null, .int 0, .int 0, .int 0, .int 0]))]) hD hS hA [6] rfl
  refine va_callv (va_runIN (As := []) (rest := [.ref q31, .ref (lm 2)]) ⟨hx, hb, hml, hown, hts⟩ (c_X11_init l dC dI H.size e0 ad q31) ⟨va_cnB 0 hts (goodIn_sub ((fun w h => List.mem_cons_of_mem _ (List.mem_append_right _ (List.mem_append_right _ (List.mem_append_right _ (List.mem_append_right _ (List.mem_append_right _ (List.mem_append_left _ h)))))))) zgX11_init) rfl rfl rfl hE.2.2.2.2.2.2.2.2.2.2.2.2 (hts (.initialized RX11) (by decide +kernel)) (by decide +kernel) ⟨Nat.le_of_ble_eq_true rfl, Nat.le_of_ble_eq_true rfl⟩, rfl, (hts (.instanceMethod yX11_init) (by decide +kernel))⟩ ⟨gPcM_blind, gPcM_pass hPc hKc hDc hE hZ hM hS hFc⟩ rfl rfl hl.1 rfl (lv_room (Nat.le_of_ble_eq_true rfl)) dX12_station_35 ⟨Nat.le_of_ble_eq_true rfl, Nat.le_of_ble_eq_true rfl⟩) hS (fun q _ h => hFc q h) hFc (fun u_9 t H locs ht hvm hw hB hz hk hS => ?_)
  obtain ⟨hP1, hK1, hD1⟩ := hB
  rw [ht] at hP1
  obtain ⟨hP, hD⟩ := va_join (wr := [(mo, .inr (15, [.int 0, .ref (lm 0), .ref (lm 1), .ref (lm 2), .ref (lm 3), .ref (lm 4), .int 0, .int 0])), ((lm 0), .inr (2, [.int 0, .ref e0, .int 0])), ((lm 1), .inr (2, [.int 0, .ref e0, .int 0])), ((lm 2), .inr (2, [.int 0, .ref e0, .int 0])), ((lm 3), .inr (2, [.int 0, .ref e0, .int 0])), ((lm 4), .inr (2, [.int 0, .ref e0, .int 0]))]) (w1 := [(q31, .inr (14, u_9))]) hP hD [6] [0, 1, 2, 3, 4, 5] rfl rfl (by decide) (by decide) hk hFc hP1 hD1
  have hP : va_P (dC, dI) vwCl [(mo, .inr (15, [.int 0, .ref (lm 0), .ref (lm 1), .ref (lm 2), .ref (lm 3), .ref (lm 4), .int 0, .int 0])), ((lm 0), .inr (2, [.int 0, .ref e0, .int 0])), ((lm 1), .inr (2, [.int 0, .ref e0, .int 0])), ((lm 2), .inr (2, [.int 0, .ref e0, .int 0])), ((lm 3), .inr (2, [.int 0, .ref e0, .int 0])), ((lm 4), .inr (2, [.int 0, .ref e0, .int 0])), (q31, .inr (14, u_9))] H := hP
  have hD : va_D A [(mo, .inr (15, [.int 0, .ref (lm 0), .ref (lm 1), .ref (lm 2), .ref (lm 3), .ref (lm 4), .int 0, .int 0])), ((lm 0), .inr (2, [.int 0, .ref e0, .int 0])), ((lm 1), .inr (2, [.int 0, .ref e0, .int 0])), ((lm 2), .inr (2, [.int 0, .ref e0, .int 0])), ((lm 3), .inr (2, [.int 0, .ref e0, .int 0])), ((lm 4), .inr (2, [.int 0, .ref e0, .int 0])), (q31, .inr (14, u_9))] := hD
  have w_10 : True := hw
  have hPc := hP.sub (ws' := [((lm 2), .inr (2, [.int 0, .ref e0, .int 0]))]) [3] rfl
  have hDc := hD.sub (ws' := [((lm 2), .inr (2, [.int 0, .ref e0, .int 0]))]) [3] (by decide) rfl
  have hKc := hK.sub (tys' := []) [] rfl
  have hFc := va_free (wc := [((lm 2), .inr (2, [.int 0, .ref e0, .int 0]))]) hD hS hA [3] rfl
  refine va_callFi (va_runF (As := [.ref q31]) (rest := []) ((hK.1 2 _ rfl).2) ⟨hx, hb, hml, hown, hts⟩ (c_Jx4a65c_add_9ea2d l dC dI H.size e0 RX11 (lm 2) q31) (va_cwF 1 hts (goodIn_app (goodIn_of _ (by decide +kernel)) (goodIn_sub ((fun w h => List.mem_cons_of_mem _ (List.mem_append_right _ (List.mem_append_right _ (List.mem_append_right _ (List.mem_append_right _ (List.mem_append_right _ (List.mem_append_right _ (List.mem_append_left _ h))))))))) zgJx4a65c_add_9ea2d)) rfl rfl rfl hE.2.2.2.2.2.2.2.2.2.1 (by decide +kernel) ⟨Nat.le_of_ble_eq_true rfl, Nat.le_of_ble_eq_true rfl⟩) ⟨gPcV_blind, va_recv hK hP (ci := 2) (q0 := 3) rfl rfl, gPcV_pass hPc hKc hDc hE hZ hS hFc (zO_cell (r := (RX11, TX11, 6)) hK hP hD (k := 6) (ci := 14) rfl rfl [3] rfl (by decide)) (hM.2.2.2.2.2.2.2.2.2.2.2 _ (by decide)) hM.2.2.2.2.2.2.2.2.2.2.1⟩ rfl rfl hl.1 rfl (lv_room (Nat.le_of_ble_eq_true rfl)) dX12_station_38 ⟨Nat.le_of_ble_eq_true rfl, Nat.le_of_ble_eq_true rfl⟩) hS (fun q _ h => hFc q h) hFc (fun r_11 u_12 t H locs ht hvm hw hB hz hk hS => ?_)
  obtain ⟨hP1, hK1, hD1⟩ := hB
  rw [ht] at hP1
  obtain ⟨hP, hD⟩ := va_join (wr := [(mo, .inr (15, [.int 0, .ref (lm 0), .ref (lm 1), .ref (lm 2), .ref (lm 3), .ref (lm 4), .int 0, .int 0])), ((lm 0), .inr (2, [.int 0, .ref e0, .int 0])), ((lm 1), .inr (2, [.int 0, .ref e0, .int 0])), ((lm 3), .inr (2, [.int 0, .ref e0, .int 0])), ((lm 4), .inr (2, [.int 0, .ref e0, .int 0])), (q31, .inr (14, u_9))]) (w1 := [((lm 2), .inr (2, [.int 1, .ref u_12, .int 1]))]) hP hD [3] [0, 1, 2, 4, 5, 6] rfl rfl (by decide) (by decide) hk hFc hP1 hD1
  have hP : va_P (dC, dI) vwCl [(mo, .inr (15, [.int 0, .ref (lm 0), .ref (lm 1), .ref (lm 2), .ref (lm 3), .ref (lm 4), .int 0, .int 0])), ((lm 0), .inr (2, [.int 0, .ref e0, .int 0])), ((lm 1), .inr (2, [.int 0, .ref e0, .int 0])), ((lm 3), .inr (2, [.int 0, .ref e0, .int 0])), ((lm 4), .inr (2, [.int 0, .ref e0, .int 0])), (q31, .inr (14, u_9)), ((lm 2), .inr (2, [.int 1, .ref u_12, .int 1]))] H := hP
  have hD : va_D A [(mo, .inr (15, [.int 0, .ref (lm 0), .ref (lm 1), .ref (lm 2), .ref (lm 3), .ref (lm 4), .int 0, .int 0])), ((lm 0), .inr (2, [.int 0, .ref e0, .int 0])), ((lm 1), .inr (2, [.int 0, .ref e0, .int 0])), ((lm 3), .inr (2, [.int 0, .ref e0, .int 0])), ((lm 4), .inr (2, [.int 0, .ref e0, .int 0])), (q31, .inr (14, u_9)), ((lm 2), .inr (2, [.int 1, .ref u_12, .int 1]))] := hD
  have hw : r_11 = 1 := hw
  subst hw
  refine lv_pop hx hb dX12_station_43 rfl ?_
  refine lv_aload_n hx hb dX12_station_44 rfl (lv_at hl 0 rfl) ?_
  refine va_get (D := (dC, dI)) (ci := 15) (v := .ref (lm 2)) (C := RX12) (T := TX12) (N := 8) hx hb hts (fun w h => List.mem_cons_of_mem _ (List.mem_append_right _ (List.mem_append_left _ h))) hown hK hP 0 rfl rfl 3 (by decide) (hts (.fieldLink RX12 19 "SpotbeatModel" "stations" "Ljava/util/List;") (by decide +kernel)) (fun _ h9 => h9) rfl dX12_station_45 ?_
  have hPc := hP.sub (ws' := [((lm 2), .inr (2, [.int 1, .ref u_12, .int 1]))]) [6] rfl
  have hDc := hD.sub (ws' := [((lm 2), .inr (2, [.int 1, .ref u_12, .int 1]))]) [6] (by decide) rfl
  have hKc := hK.sub (tys' := []) [] rfl
  have hFc := va_free (wc := [((lm 2), .inr (2, [.int 1, .ref u_12, .int 1]))]) hD hS hA [6] rfl
  refine va_callFi (va_runF (As := []) (rest := []) ((hK.1 2 _ rfl).2) ⟨hx, hb, hml, hown, hts⟩ (c_Jx4a65c_size_1 l dC dI H.size u_12 (lm 2)) (va_cwF 0 hts (goodIn_app (goodIn_of _ (by decide +kernel)) (goodIn_sub ((fun w h => List.mem_cons_of_mem _ (List.mem_append_right _ (List.mem_append_right _ (List.mem_append_right _ (List.mem_append_right _ (List.mem_append_right _ (List.mem_append_right _ (List.mem_append_right _ (h)))))))))) zgJx4a65c_size_1)) rfl rfl rfl hE.2.2.2.2.2.2.1 (by decide +kernel) ⟨Nat.le_of_ble_eq_true rfl, Nat.le_of_ble_eq_true rfl⟩) ⟨gPc_blind, va_recv hK hP (ci := 2) (q0 := 6) rfl rfl, gPc_pass hPc hKc hDc⟩ rfl rfl hl.1 rfl (lv_room (Nat.le_of_ble_eq_true rfl)) dX12_station_48 ⟨Nat.le_of_ble_eq_true rfl, Nat.le_of_ble_eq_true rfl⟩) hS (fun q _ h => hFc q h) hFc (fun r_13 u_14 t H locs ht hvm hw hB hz hk hS => ?_)
  obtain ⟨hP1, hK1, hD1⟩ := hB
  rw [ht] at hP1
  obtain ⟨hP, hD⟩ := va_join (wr := [(mo, .inr (15, [.int 0, .ref (lm 0), .ref (lm 1), .ref (lm 2), .ref (lm 3), .ref (lm 4), .int 0, .int 0])), ((lm 0), .inr (2, [.int 0, .ref e0, .int 0])), ((lm 1), .inr (2, [.int 0, .ref e0, .int 0])), ((lm 3), .inr (2, [.int 0, .ref e0, .int 0])), ((lm 4), .inr (2, [.int 0, .ref e0, .int 0])), (q31, .inr (14, u_9))]) (w1 := [((lm 2), .inr (2, [.int 1, .ref u_12, .int 1]))]) hP hD [6] [0, 1, 2, 3, 4, 5] rfl rfl (by decide) (by decide) hk hFc hP1 hD1
  have hP : va_P (dC, dI) vwCl [(mo, .inr (15, [.int 0, .ref (lm 0), .ref (lm 1), .ref (lm 2), .ref (lm 3), .ref (lm 4), .int 0, .int 0])), ((lm 0), .inr (2, [.int 0, .ref e0, .int 0])), ((lm 1), .inr (2, [.int 0, .ref e0, .int 0])), ((lm 3), .inr (2, [.int 0, .ref e0, .int 0])), ((lm 4), .inr (2, [.int 0, .ref e0, .int 0])), (q31, .inr (14, u_9)), ((lm 2), .inr (2, [.int 1, .ref u_12, .int 1]))] H := hP
  have hD : va_D A [(mo, .inr (15, [.int 0, .ref (lm 0), .ref (lm 1), .ref (lm 2), .ref (lm 3), .ref (lm 4), .int 0, .int 0])), ((lm 0), .inr (2, [.int 0, .ref e0, .int 0])), ((lm 1), .inr (2, [.int 0, .ref e0, .int 0])), ((lm 3), .inr (2, [.int 0, .ref e0, .int 0])), ((lm 4), .inr (2, [.int 0, .ref e0, .int 0])), (q31, .inr (14, u_9)), ((lm 2), .inr (2, [.int 1, .ref u_12, .int 1]))] := hD
  have hw : r_13 = 1 := hw
  subst hw
  refine lv_iconst (v := 1) hx hb dX12_station_53 (by decide) ?_
  refine lv_isub hx hb dX12_station_54 ?_
  refine lv_topi (fun y_15 ey_15 => ?_)
  obtain rfl : y_15 = 0 := ey_15.trans (by decide +kernel)
  have hP9 := hP.sub (ws' := [(mo, .inr (15, [.int 0, .ref (lm 0), .ref (lm 1), .ref (lm 2), .ref (lm 3), .ref (lm 4), .int 0, .int 0]))]) [0] rfl
  have hD9 := hD.sub (ws' := [(mo, .inr (15, [.int 0, .ref (lm 0), .ref (lm 1), .ref (lm 2), .ref (lm 3), .ref (lm 4), .int 0, .int 0]))]) [0] (by decide) rfl
  have hK9 := hK.sub (tys' := []) [] rfl
  refine W.widen (k := 4) (n := 23) (Nat.le_of_ble_eq_true rfl) (Nat.le_of_ble_eq_true rfl) ?_
  exact W.iret (v := 0) hx hb hr (fun t ht hW => ⟨⟨0, 0, rfl, ⟨rfl, rfl⟩, by rw [ht]; exact hP9, va_K.moved hW.alike hK9, hD9⟩, hS.F ht⟩) hS.2.2 dX12_station_55

def zwX12_order : List Cond := .code yX12_order cX12_order 2 (some .int) :: (([.methodLink RX12 79 yX12_isVariant, .static yX12_isVariant, .initialized RX12, .fieldLink RX12 25 "SpotbeatModel" "bodies" "Ljava/util/List;", .methodLink RX12 32 ⟨"java/util/List", "size", "()I"⟩, .selects RJx4a65c ⟨"java/util/List", "size", "()I"⟩ yJx4a65c_size_8abf5, .instanceMethod yJx4a65c_size_8abf5, .initialized RJx4a65c, .methodLink RX12 50 yX12_isWrong, .instanceMethod yX12_isWrong, .selects RX12 yX12_isWrong yX12_isWrong, .classLink RX12 196 RX8, .instantiable RX8 4, .initialized RX8, .methodLink RX12 211 yX8_init, .instanceMethod yX8_init, .methodLink RX12 60 ⟨"java/util/List", "add", "(Ljava/lang/Object;)Z"⟩, .selects RJx4a65c ⟨"java/util/List", "add", "(Ljava/lang/Object;)Z"⟩ yJx4a65c_add_9ea2d, .instanceMethod yJx4a65c_add_9ea2d] : List Cond) ++ (zwX12_isVariant ++ (wsX120 ++ (zwJx4a65c_size_8abf5 ++ (zwX12_isWrong_0 ++ (wsX80 ++ (zwX8_init ++ (zwJx4a65c_add_9ea2d ++ (zwJx4a65c_size_1 ++ (zwX12_isWrong_1))))))))))
theorem zgX12_order : zwX12_order.all goodWord = true := zgo rfl (zga (by decide +kernel) (zga zgX12_isVariant (zga zgcX12 (zga zgJx4a65c_size_8abf5 (zga zgX12_isWrong_0 (zga zgcX8 (zga zgX8_init (zga zgJx4a65c_add_9ea2d (zga zgJx4a65c_size_1 (zgX12_isWrong_1))))))))))
set_option maxHeartbeats 4000000 in
set_option maxRecDepth 100000 in
theorem c_X12_order (l : Launch) (dC : Nat → ClassId) (dI : Nat → Nat → Nat) (sz : Nat) (mo : Nat) (lm : Nat → Nat) (e0 : Nat) (th : Int32) (ad : Nat → Nat) (v : Int32) : Met l yX12_order zwX12_order ({ frames := 5, cells := 3, slots := 38, locals := 101 }) (gPcM dC dI sz [(mo, .inr (15, [.int th, .ref (lm 0), .ref (lm 1), .ref (lm 2), .ref (lm 3), .ref (lm 4), .int 0, .int 0])), ((lm 0), .inr (2, [.int 0, .ref e0, .int 0])), ((lm 1), .inr (2, [.int 0, .ref e0, .int 0])), ((lm 2), .inr (2, [.int 0, .ref e0, .int 0])), ((lm 3), .inr (2, [.int 0, .ref e0, .int 0])), ((lm 4), .inr (2, [.int 0, .ref e0, .int 0]))] [] e0 ad [.ref mo, .int v]) (va_Qi (fun (r : Int32) (u : Int32) => (u = 0 ∧ r = 0 ∧ ¬ (v < 0 ∨ 4 ≤ v)) ∨ (u = 1 ∧ (v < 0 ∨ 4 ≤ v))) (fun u t => va_P (dC, dI) vwCl [(mo, .inr (15, [.int u, .ref (lm 0), .ref (lm 1), .ref (lm 2), .ref (lm 3), .ref (lm 4), .int 0, .int 0]))] t.heap ∧ va_K (dC, dI) vwCl [] t ∧ va_D (va_A [(mo, .inr (15, [.int th, .ref (lm 0), .ref (lm 1), .ref (lm 2), .ref (lm 3), .ref (lm 4), .int 0, .int 0])), ((lm 0), .inr (2, [.int 0, .ref e0, .int 0])), ((lm 1), .inr (2, [.int 0, .ref e0, .int 0])), ((lm 2), .inr (2, [.int 0, .ref e0, .int 0])), ((lm 3), .inr (2, [.int 0, .ref e0, .int 0])), ((lm 4), .inr (2, [.int 0, .ref e0, .int 0]))] sz) [(mo, .inr (15, [.int u, .ref (lm 0), .ref (lm 1), .ref (lm 2), .ref (lm 3), .ref (lm 4), .int 0, .int 0]))]) (va_A [(mo, .inr (15, [.int th, .ref (lm 0), .ref (lm 1), .ref (lm 2), .ref (lm 3), .ref (lm 4), .int 0, .int 0])), ((lm 0), .inr (2, [.int 0, .ref e0, .int 0])), ((lm 1), .inr (2, [.int 0, .ref e0, .int 0])), ((lm 2), .inr (2, [.int 0, .ref e0, .int 0])), ((lm 3), .inr (2, [.int 0, .ref e0, .int 0])), ((lm 4), .inr (2, [.int 0, .ref e0, .int 0]))] sz)) 3 38 (va_A [(mo, .inr (15, [.int th, .ref (lm 0), .ref (lm 1), .ref (lm 2), .ref (lm 3), .ref (lm 4), .int 0, .int 0])), ((lm 0), .inr (2, [.int 0, .ref e0, .int 0])), ((lm 1), .inr (2, [.int 0, .ref e0, .int 0])), ((lm 2), .inr (2, [.int 0, .ref e0, .int 0])), ((lm 3), .inr (2, [.int 0, .ref e0, .int 0])), ((lm 4), .inr (2, [.int 0, .ref e0, .int 0]))] sz) := by
  refine Met.ofW (cc := cX12_order) (maxL := 2) (ret := (some .int)) (by decide) rfl ?_
  intro p e s m args below meth c s₁ B hml hv
  obtain ⟨rfl, hsz, hP, hK, hD0, hE, hZ, hM⟩ := hv
  have hx := B.exec
  have hb := B.bytes
  have hr := B.returns
  have hts := atoms_spec (ws := zwX12_order) B.pre
  have hown : s.vm.findClass RX12 = some m.cls := findClass_of_methodNamed B.named
  have hlocks := B.notSynchronized
  subst hsz
  have hD := hD0.self (sz := s.heap.size)
  generalize hAe : va_A [(mo, .inr (15, [.int th, .ref (lm 0), .ref (lm 1), .ref (lm 2), .ref (lm 3), .ref (lm 4), .int 0, .int 0])), ((lm 0), .inr (2, [.int 0, .ref e0, .int 0])), ((lm 1), .inr (2, [.int 0, .ref e0, .int 0])), ((lm 2), .inr (2, [.int 0, .ref e0, .int 0])), ((lm 3), .inr (2, [.int 0, .ref e0, .int 0])), ((lm 4), .inr (2, [.int 0, .ref e0, .int 0]))] s.heap.size = A at hD hE hZ hM ⊢
  have hA : ∀ q : Nat, s.heap.size ≤ q → A q := fun q h => by rw [← hAe]; exact Or.inr h
  have hS : va_S A s.heap s.heap [] := va_S.rf
  have hP : va_P (dC, dI) vwCl [(mo, .inr (15, [.int th, .ref (lm 0), .ref (lm 1), .ref (lm 2), .ref (lm 3), .ref (lm 4), .int 0, .int 0])), ((lm 0), .inr (2, [.int 0, .ref e0, .int 0])), ((lm 1), .inr (2, [.int 0, .ref e0, .int 0])), ((lm 2), .inr (2, [.int 0, .ref e0, .int 0])), ((lm 3), .inr (2, [.int 0, .ref e0, .int 0])), ((lm 4), .inr (2, [.int 0, .ref e0, .int 0]))] s.heap := hP
  have hl := lv_entry ([.ref mo, .int v]) (n := 2) (Nat.le_of_ble_eq_true rfl)
  rw [lg_entry_eq]
  generalize (lg_sl ([.ref mo, .int v]) ++ List.replicate (2 - (lg_sl ([.ref mo, .int v])).length) Slot.unset).toArray = ls at hl ⊢
  have hl : lv_has ls 2 [(0, .ref mo), (1, .int v)] := hl
  refine lv_aload_n hx hb dX12_order_0 rfl (lv_at hl 0 rfl) ?_
  refine lv_iload_n hx hb dX12_order_1 rfl (lv_at hl 1 rfl) ?_
  refine va_calli (va_runS (As := [.int v]) (rest := [.ref mo]) ⟨hx, hb, hml, hown, hts⟩ (c_X12_isVariant l dC dI s.heap.size v) (va_cwS 1 hts (goodIn_app (goodIn_of _ (by decide +kernel)) (goodIn_sub ((fun w h => List.mem_cons_of_mem _ (List.mem_append_right _ (List.mem_append_left _ h)))) zgX12_isVariant)) rfl rfl rfl (by decide +kernel) ⟨Nat.le_of_ble_eq_true rfl, Nat.le_of_ble_eq_true rfl⟩) ⟨nPc_blind, nPc_pass⟩ rfl rfl hl.1 rfl (lv_room (Nat.le_of_ble_eq_true rfl)) dX12_order_2 ⟨Nat.le_of_ble_eq_true rfl, Nat.le_of_ble_eq_true rfl⟩) hS (fun q _ h => hA q (Nat.le_trans hS.1 h)) (fun q h => hA q (Nat.le_trans hS.1 h)) (fun r_1 u_2 t H locs ht hvm hw hB hz hk hS => ?_)
  have hP := zkn hP hk
  rcases (show (r_1 = 1 ∧ ¬ (v < 0 ∨ 4 ≤ v)) ∨ (r_1 = 0 ∧ (v < 0 ∨ 4 ≤ v)) from hw) with ⟨rfl, h_3⟩ | ⟨rfl, h_3⟩
  · refine lv_if_ne (tgt := 12) hx hb dX12_order_5 (by decide) (fun _ => ?_) (fun c_4 => absurd c_4 (by decide))
    refine lv_aload_n hx hb dX12_order_12 rfl (lv_at hl 0 rfl) ?_
    refine va_get (D := (dC, dI)) (ci := 15) (v := .ref (lm 4)) (C := RX12) (T := TX12) (N := 8) hx hb hts (fun w h => List.mem_cons_of_mem _ (List.mem_append_right _ (List.mem_append_right _ (List.mem_append_left _ h)))) hown hK hP 0 rfl rfl 5 (by decide) (hts (.fieldLink RX12 25 "SpotbeatModel" "bodies" "Ljava/util/List;") (by decide +kernel)) (fun _ h9 => h9) rfl dX12_order_13 ?_
    have hPc := hP.sub (ws' := [((lm 4), .inr (2, [.int 0, .ref e0, .int 0]))]) [5] rfl
    have hDc := hD.sub (ws' := [((lm 4), .inr (2, [.int 0, .ref e0, .int 0]))]) [5] (by decide) rfl
    have hKc := hK.sub (tys' := []) [] rfl
    have hFc := va_free (wc := [((lm 4), .inr (2, [.int 0, .ref e0, .int 0]))]) hD hS hA [5] rfl
    refine va_callFi (va_runF (As := []) (rest := [.ref mo]) ((hK.1 2 _ rfl).2) ⟨hx, hb, hml, hown, hts⟩ (c_Jx4a65c_size_8abf5 l dC dI H.size e0 (lm 4)) (va_cwF 0 hts (goodIn_app (goodIn_of _ (by decide +kernel)) (goodIn_sub ((fun w h => List.mem_cons_of_mem _ (List.mem_append_right _ (List.mem_append_right _ (List.mem_append_right _ (List.mem_append_left _ h)))))) zgJx4a65c_size_8abf5)) rfl rfl rfl hE.2.2.2.2.2.2.1 (by decide +kernel) ⟨Nat.le_of_ble_eq_true rfl, Nat.le_of_ble_eq_true rfl⟩) ⟨gPc_blind, va_recv hK hP (ci := 2) (q0 := 5) rfl rfl, gPc_pass hPc hKc hDc⟩ rfl rfl hl.1 rfl (lv_room (Nat.le_of_ble_eq_true rfl)) dX12_order_16 ⟨Nat.le_of_ble_eq_true rfl, Nat.le_of_ble_eq_true rfl⟩) hS (fun q _ h => hFc q h) hFc (fun r_5 u_6 t H locs ht hvm hw hB hz hk hS => ?_)
    obtain ⟨hP1, hK1, hD1⟩ := hB
    rw [ht] at hP1
    obtain ⟨hP, hD⟩ := va_join (wr := [(mo, .inr (15, [.int th, .ref (lm 0), .ref (lm 1), .ref (lm 2), .ref (lm 3), .ref (lm 4), .int 0, .int 0])), ((lm 0), .inr (2, [.int 0, .ref e0, .int 0])), ((lm 1), .inr (2, [.int 0, .ref e0, .int 0])), ((lm 2), .inr (2, [.int 0, .ref e0, .int 0])), ((lm 3), .inr (2, [.int 0, .ref e0, .int 0]))]) (w1 := [((lm 4), .inr (2, [.int 0, .ref e0, .int 0]))]) hP hD [5] [0, 1, 2, 3, 4] rfl rfl (by decide) (by decide) hk hFc hP1 hD1
    have hP : va_P (dC, dI) vwCl [(mo, .inr (15, [.int th, .ref (lm 0), .ref (lm 1), .ref (lm 2), .ref (lm 3), .ref (lm 4), .int 0, .int 0])), ((lm 0), .inr (2, [.int 0, .ref e0, .int 0])), ((lm 1), .inr (2, [.int 0, .ref e0, .int 0])), ((lm 2), .inr (2, [.int 0, .ref e0, .int 0])), ((lm 3), .inr (2, [.int 0, .ref e0, .int 0])), ((lm 4), .inr (2, [.int 0, .ref e0, .int 0]))] H := hP
    have hD : va_D A [(mo, .inr (15, [.int th, .ref (lm 0), .ref (lm 1), .ref (lm 2), .ref (lm 3), .ref (lm 4), .int 0, .int 0])), ((lm 0), .inr (2, [.int 0, .ref e0, .int 0])), ((lm 1), .inr (2, [.int 0, .ref e0, .int 0])), ((lm 2), .inr (2, [.int 0, .ref e0, .int 0])), ((lm 3), .inr (2, [.int 0, .ref e0, .int 0])), ((lm 4), .inr (2, [.int 0, .ref e0, .int 0]))] := hD
    have hw : r_5 = 0 := hw
    subst hw
    refine lv_bipush (v := 40) hx hb dX12_order_21 (by decide) ?_
    refine lv_icmp_ne (tgt := 30) hx hb dX12_order_23 (by decide) (fun _ => ?_) (fun c_7 => absurd c_7 (by decide))
    refine lv_iconst (v := 0) hx hb dX12_order_30 (by decide) ?_
    have hPc := hP.sub (ws' := [(mo, .inr (15, [.int th, .ref (lm 0), .ref (lm 1), .ref (lm 2), .ref (lm 3), .ref (lm 4), .int 0, .int 0])), ((lm 0), .inr (2, [.int 0, .ref e0, .int 0])), ((lm 1), .inr (2, [.int 0, .ref e0, .int 0])), ((lm 2), .inr (2, [.int 0, .ref e0, .int 0])), ((lm 3), .inr (2, [.int 0, .ref e0, .int 0])), ((lm 4), .inr (2, [.int 0, .ref e0, .int 0]))]) [0, 1, 2, 3, 4, 5] rfl
    have hDc := hD.sub (ws' := [(mo, .inr (15, [.int th, .ref (lm 0), .ref (lm 1), .ref (lm 2), .ref (lm 3), .ref (lm 4), .int 0, .int 0])), ((lm 0), .inr (2, [.int 0, .ref e0, .int 0])), ((lm 1), .inr (2, [.int 0, .ref e0, .int 0])), ((lm 2), .inr (2, [.int 0, .ref e0, .int 0])), ((lm 3), .inr (2, [.int 0, .ref e0, .int 0])), ((lm 4), .inr (2, [.int 0, .ref e0, .int 0]))]) [0, 1, 2, 3, 4, 5] (by decide) rfl
    have hKc := hK.sub (tys' := []) [] rfl
    have hFc := va_free (wc := [(mo, .inr (15, [.int th, .ref (lm 0), .ref (lm 1), .ref (lm 2), .ref (lm 3), .ref (lm 4), .int 0, .int 0])), ((lm 0), .inr (2, [.int 0, .ref e0, .int 0])), ((lm 1), .inr (2, [.int 0, .ref e0, .int 0])), ((lm 2), .inr (2, [.int 0, .ref e0, .int 0])), ((lm 3), .inr (2, [.int 0, .ref e0, .int 0])), ((lm 4), .inr (2, [.int 0, .ref e0, .int 0]))]) hD hS hA [0, 1, 2, 3, 4, 5] rfl
    refine va_calli (va_runV (As := [.int 0]) (rest := []) ⟨hx, hb, hml, hown, hts⟩ (c_X12_isWrong_0 l dC dI H.size mo lm e0 th) (cwV 1 hts (goodIn_app (goodIn_of _ (by decide +kernel)) (goodIn_sub ((fun w h => List.mem_cons_of_mem _ (List.mem_append_right _ (List.mem_append_right _ (List.mem_append_right _ (List.mem_append_right _ (List.mem_append_left _ h))))))) zgX12_isWrong_0)) rfl rfl rfl (by decide +kernel) ⟨Nat.le_of_ble_eq_true rfl, Nat.le_of_ble_eq_true rfl⟩) ⟨gPcE_blind, va_recv hK hP (ci := 15) (q0 := 0) rfl rfl, gPcE_pass hPc hKc hDc hE hS hFc⟩ rfl rfl hl.1 rfl (lv_room (Nat.le_of_ble_eq_true rfl)) dX12_order_31 ⟨Nat.le_of_ble_eq_true rfl, Nat.le_of_ble_eq_true rfl⟩) hS (fun q _ h => hFc q h) hFc (fun r_8 u_9 t H locs ht hvm hw hB hz hk hS => ?_)
    obtain ⟨hP1, hK1, hD1⟩ := hB
    rw [ht] at hP1
    obtain ⟨hP, hD⟩ := va_join (wr := []) (w1 := [(mo, .inr (15, [.int u_9, .ref (lm 0), .ref (lm 1), .ref (lm 2), .ref (lm 3), .ref (lm 4), .int 0, .int 0])), ((lm 0), .inr (2, [.int 0, .ref e0, .int 0])), ((lm 1), .inr (2, [.int 0, .ref e0, .int 0])), ((lm 2), .inr (2, [.int 0, .ref e0, .int 0])), ((lm 3), .inr (2, [.int 0, .ref e0, .int 0])), ((lm 4), .inr (2, [.int 0, .ref e0, .int 0]))]) hP hD [0, 1, 2, 3, 4, 5] [] rfl rfl (by decide) (by decide) hk hFc hP1 hD1
    have hP : va_P (dC, dI) vwCl [(mo, .inr (15, [.int u_9, .ref (lm 0), .ref (lm 1), .ref (lm 2), .ref (lm 3), .ref (lm 4), .int 0, .int 0])), ((lm 0), .inr (2, [.int 0, .ref e0, .int 0])), ((lm 1), .inr (2, [.int 0, .ref e0, .int 0])), ((lm 2), .inr (2, [.int 0, .ref e0, .int 0])), ((lm 3), .inr (2, [.int 0, .ref e0, .int 0])), ((lm 4), .inr (2, [.int 0, .ref e0, .int 0]))] H := hP
    have hD : va_D A [(mo, .inr (15, [.int u_9, .ref (lm 0), .ref (lm 1), .ref (lm 2), .ref (lm 3), .ref (lm 4), .int 0, .int 0])), ((lm 0), .inr (2, [.int 0, .ref e0, .int 0])), ((lm 1), .inr (2, [.int 0, .ref e0, .int 0])), ((lm 2), .inr (2, [.int 0, .ref e0, .int 0])), ((lm 3), .inr (2, [.int 0, .ref e0, .int 0])), ((lm 4), .inr (2, [.int 0, .ref e0, .int 0]))] := hD
    have hw : r_8 = 0 ∧ u_9 = 0 := hw
    obtain ⟨rfl, rfl⟩ : r_8 = 0 ∧ u_9 = 0 := hw
    refine lv_if_eq (tgt := 39) hx hb dX12_order_34 (by decide) (fun _ => ?_) (fun c_10 => absurd c_10 (by decide))
    refine lv_aload_n hx hb dX12_order_39 rfl (lv_at hl 0 rfl) ?_
    refine va_get (D := (dC, dI)) (ci := 15) (v := .ref (lm 4)) (C := RX12) (T := TX12) (N := 8) hx hb hts (fun w h => List.mem_cons_of_mem _ (List.mem_append_right _ (List.mem_append_right _ (List.mem_append_left _ h)))) hown hK hP 0 rfl rfl 5 (by decide) (hts (.fieldLink RX12 25 "SpotbeatModel" "bodies" "Ljava/util/List;") (by decide +kernel)) (fun _ h9 => h9) rfl dX12_order_40 ?_
    refine va_new (ci := 11) (fs := [.int 0, .null, .int 0, .int 0]) (C := RX8) (T := TX8) (N := 4) hx hb hts (fun w h => List.mem_cons_of_mem _ (List.mem_append_right _ (List.mem_append_right _ (List.mem_append_right _ (List.mem_append_right _ (List.mem_append_right _ (List.mem_append_left _ h))))))) tyX8 tyX8_ok hown (hts (.classLink RX12 196 RX8) (by decide +kernel)) (hts (.instantiable RX8 4) (by decide +kernel)) (hts (.initialized RX8) (by decide +kernel)) hK hP hD hS hA rfl (fun j hj => by rcases (show j = 0 ∨ j = 1 ∨ j = 2 ∨ j = 3 by omega) with rfl | rfl | rfl | rfl <;> rfl) (Nat.le_of_ble_eq_true rfl) (Nat.le_of_ble_eq_true rfl) dX12_order_43 (fun q43 H hP hD hS => ?_)
    have hP : va_P (dC, dI) vwCl [(mo, .inr (15, [.int 0, .ref (lm 0), .ref (lm 1), .ref (lm 2), .ref (lm 3), .ref (lm 4), .int 0, .int 0])), ((lm 0), .inr (2, [.int 0, .ref e0, .int 0])), ((lm 1), .inr (2, [.int 0, .ref e0, .int 0])), ((lm 2), .inr (2, [.int 0, .ref e0, .int 0])), ((lm 3), .inr (2, [.int 0, .ref e0, .int 0])), ((lm 4), .inr (2, [.int 0, .ref e0, .int 0])), (q43, .inr (11, [.int 0, .null, .int 0, .int 0]))] H := hP
    have hD : va_D A [(mo, .inr (15, [.int 0, .ref (lm 0), .ref (lm 1), .ref (lm 2), .ref (lm 3), .ref (lm 4), .int 0, .int 0])), ((lm 0), .inr (2, [.int 0, .ref e0, .int 0])), ((lm 1), .inr (2, [.int 0, .ref e0, .int 0])), ((lm 2), .inr (2, [.int 0, .ref e0, .int 0])), ((lm 3), .inr (2, [.int 0, .ref e0, .int 0])), ((lm 4), .inr (2, [.int 0, .ref e0, .int 0])), (q43, .inr (11, [.int 0, .null, .int 0, .int 0]))] := hD
    refine lv_dup hx hb dX12_order_46 rfl ?_
    refine lv_iload_n hx hb dX12_order_47 rfl (lv_at hl 1 rfl) ?_
    have hPc := hP.sub (ws' := [(q43, .inr (11, [.int 0, .null, .int 0, .int 0]))]) [6] rfl
    have hDc := hD.sub (ws' := [(q43, .inr (11, [.int 0, .null, .int 0, .int 0]))]) [6] (by decide) rfl
    have hKc := hK.sub (tys' := []) [] rfl
    have hFc := va_free (wc := [(q43, .inr (11, [.int 0, .null, .int 0, .int 0]))]) hD hS hA [6] rfl
    refine va_callv (va_runI (As := [.int v]) (rest := [.ref q43, .ref (lm 4)]) ⟨hx, hb, hml, hown, hts⟩ (c_X8_init l dC dI H.size q43 v) (cwI 1 hts (goodIn_sub ((fun w h => List.mem_cons_of_mem _ (List.mem_append_right _ (List.mem_append_right _ (List.mem_append_right _ (List.mem_append_right _ (List.mem_append_right _ (List.mem_append_right _ (List.mem_append_left _ h))))))))) zgX8_init) rfl rfl rfl (hts (.initialized RX8) (by decide +kernel)) (hts (.methodLink RX12 211 yX8_init) (by decide +kernel)) (hts (.instanceMethod yX8_init) (by decide +kernel)) rfl (by decide +kernel) ⟨Nat.le_of_ble_eq_true rfl, Nat.le_of_ble_eq_true rfl⟩) ⟨gPc_blind, gPc_pass hPc hKc hDc⟩ rfl rfl hl.1 rfl (lv_room (Nat.le_of_ble_eq_true rfl)) dX12_order_48 ⟨Nat.le_of_ble_eq_true rfl, Nat.le_of_ble_eq_true rfl⟩) hS (fun q _ h => hFc q h) hFc (fun u_13 t H locs ht hvm hw hB hz hk hS => ?_)
    obtain ⟨hP1, hK1, hD1⟩ := hB
    rw [ht] at hP1
    obtain ⟨hP, hD⟩ := va_join (wr := [(mo, .inr (15, [.int 0, .ref (lm 0), .ref (lm 1), .ref (lm 2), .ref (lm 3), .ref (lm 4), .int 0, .int 0])), ((lm 0), .inr (2, [.int 0, .ref e0, .int 0])), ((lm 1), .inr (2, [.int 0, .ref e0, .int 0])), ((lm 2), .inr (2, [.int 0, .ref e0, .int 0])), ((lm 3), .inr (2, [.int 0, .ref e0, .int 0])), ((lm 4), .inr (2, [.int 0, .ref e0, .int 0]))]) (w1 := [(q43, .inr (11, u_13))]) hP hD [6] [0, 1, 2, 3, 4, 5] rfl rfl (by decide) (by decide) hk hFc hP1 hD1
    have hP : va_P (dC, dI) vwCl [(mo, .inr (15, [.int 0, .ref (lm 0), .ref (lm 1), .ref (lm 2), .ref (lm 3), .ref (lm 4), .int 0, .int 0])), ((lm 0), .inr (2, [.int 0, .ref e0, .int 0])), ((lm 1), .inr (2, [.int 0, .ref e0, .int 0])), ((lm 2), .inr (2, [.int 0, .ref e0, .int 0])), ((lm 3), .inr (2, [.int 0, .ref e0, .int 0])), ((lm 4), .inr (2, [.int 0, .ref e0, .int 0])), (q43, .inr (11, u_13))] H := hP
    have hD : va_D A [(mo, .inr (15, [.int 0, .ref (lm 0), .ref (lm 1), .ref (lm 2), .ref (lm 3), .ref (lm 4), .int 0, .int 0])), ((lm 0), .inr (2, [.int 0, .ref e0, .int 0])), ((lm 1), .inr (2, [.int 0, .ref e0, .int 0])), ((lm 2), .inr (2, [.int 0, .ref e0, .int 0])), ((lm 3), .inr (2, [.int 0, .ref e0, .int 0])), ((lm 4), .inr (2, [.int 0, .ref e0, .int 0])), (q43, .inr (11, u_13))] := hD
    have w_14 : True := hw
    have hPc := hP.sub (ws' := [((lm 4), .inr (2, [.int 0, .ref e0, .int 0]))]) [5] rfl
    have hDc := hD.sub (ws' := [((lm 4), .inr (2, [.int 0, .ref e0, .int 0]))]) [5] (by decide) rfl
    have hKc := hK.sub (tys' := []) [] rfl
    have hFc := va_free (wc := [((lm 4), .inr (2, [.int 0, .ref e0, .int 0]))]) hD hS hA [5] rfl
    refine va_callFi (va_runF (As := [.ref q43]) (rest := []) ((hK.1 2 _ rfl).2) ⟨hx, hb, hml, hown, hts⟩ (c_Jx4a65c_add_9ea2d l dC dI H.size e0 RX8 (lm 4) q43) (va_cwF 1 hts (goodIn_app (goodIn_of _ (by decide +kernel)) (goodIn_sub ((fun w h => List.mem_cons_of_mem _ (List.mem_append_right _ (List.mem_append_right _ (List.mem_append_right _ (List.mem_append_right _ (List.mem_append_right _ (List.mem_append_right _ (List.mem_append_right _ (List.mem_append_left _ h)))))))))) zgJx4a65c_add_9ea2d)) rfl rfl rfl hE.2.2.2.2.2.2.2.2.2.1 (by decide +kernel) ⟨Nat.le_of_ble_eq_true rfl, Nat.le_of_ble_eq_true rfl⟩) ⟨gPcV_blind, va_recv hK hP (ci := 2) (q0 := 5) rfl rfl, gPcV_pass hPc hKc hDc hE hZ hS hFc (zO_cell (r := (RX8, TX8, 4)) hK hP hD (k := 6) (ci := 11) rfl rfl [5] rfl (by decide)) (hM.2.2.2.2.2.2.2.2.2.2.2 _ (by decide)) hM.2.2.2.2.2.2.2.2.2.2.1⟩ rfl rfl hl.1 rfl (lv_room (Nat.le_of_ble_eq_true rfl)) dX12_order_51 ⟨Nat.le_of_ble_eq_true rfl, Nat.le_of_ble_eq_true rfl⟩) hS (fun q _ h => hFc q h) hFc (fun r_15 u_16 t H locs ht hvm hw hB hz hk hS => ?_)
    obtain ⟨hP1, hK1, hD1⟩ := hB
    rw [ht] at hP1
    obtain ⟨hP, hD⟩ := va_join (wr := [(mo, .inr (15, [.int 0, .ref (lm 0), .ref (lm 1), .ref (lm 2), .ref (lm 3), .ref (lm 4), .int 0, .int 0])), ((lm 0), .inr (2, [.int 0, .ref e0, .int 0])), ((lm 1), .inr (2, [.int 0, .ref e0, .int 0])), ((lm 2), .inr (2, [.int 0, .ref e0, .int 0])), ((lm 3), .inr (2, [.int 0, .ref e0, .int 0])), (q43, .inr (11, u_13))]) (w1 := [((lm 4), .inr (2, [.int 1, .ref u_16, .int 1]))]) hP hD [5] [0, 1, 2, 3, 4, 6] rfl rfl (by decide) (by decide) hk hFc hP1 hD1
    have hP : va_P (dC, dI) vwCl [(mo, .inr (15, [.int 0, .ref (lm 0), .ref (lm 1), .ref (lm 2), .ref (lm 3), .ref (lm 4), .int 0, .int 0])), ((lm 0), .inr (2, [.int 0, .ref e0, .int 0])), ((lm 1), .inr (2, [.int 0, .ref e0, .int 0])), ((lm 2), .inr (2, [.int 0, .ref e0, .int 0])), ((lm 3), .inr (2, [.int 0, .ref e0, .int 0])), (q43, .inr (11, u_13)), ((lm 4), .inr (2, [.int 1, .ref u_16, .int 1]))] H := hP
    have hD : va_D A [(mo, .inr (15, [.int 0, .ref (lm 0), .ref (lm 1), .ref (lm 2), .ref (lm 3), .ref (lm 4), .int 0, .int 0])), ((lm 0), .inr (2, [.int 0, .ref e0, .int 0])), ((lm 1), .inr (2, [.int 0, .ref e0, .int 0])), ((lm 2), .inr (2, [.int 0, .ref e0, .int 0])), ((lm 3), .inr (2, [.int 0, .ref e0, .int 0])), (q43, .inr (11, u_13)), ((lm 4), .inr (2, [.int 1, .ref u_16, .int 1]))] := hD
    have hw : r_15 = 1 := hw
    subst hw
    refine lv_pop hx hb dX12_order_56 rfl ?_
    refine lv_aload_n hx hb dX12_order_57 rfl (lv_at hl 0 rfl) ?_
    refine va_get (D := (dC, dI)) (ci := 15) (v := .ref (lm 4)) (C := RX12) (T := TX12) (N := 8) hx hb hts (fun w h => List.mem_cons_of_mem _ (List.mem_append_right _ (List.mem_append_right _ (List.mem_append_left _ h)))) hown hK hP 0 rfl rfl 5 (by decide) (hts (.fieldLink RX12 25 "SpotbeatModel" "bodies" "Ljava/util/List;") (by decide +kernel)) (fun _ h9 => h9) rfl dX12_order_58 ?_
    have hPc := hP.sub (ws' := [((lm 4), .inr (2, [.int 1, .ref u_16, .int 1]))]) [6] rfl
    have hDc := hD.sub (ws' := [((lm 4), .inr (2, [.int 1, .ref u_16, .int 1]))]) [6] (by decide) rfl
    have hKc := hK.sub (tys' := []) [] rfl
    have hFc := va_free (wc := [((lm 4), .inr (2, [.int 1, .ref u_16, .int 1]))]) hD hS hA [6] rfl
    refine va_callFi (va_runF (As := []) (rest := []) ((hK.1 2 _ rfl).2) ⟨hx, hb, hml, hown, hts⟩ (c_Jx4a65c_size_1 l dC dI H.size u_16 (lm 4)) (va_cwF 0 hts (goodIn_app (goodIn_of _ (by decide +kernel)) (goodIn_sub ((fun w h => List.mem_cons_of_mem _ (List.mem_append_right _ (List.mem_append_right _ (List.mem_append_right _ (List.mem_append_right _ (List.mem_append_right _ (List.mem_append_right _ (List.mem_append_right _ (List.mem_append_right _ (List.mem_append_left _ h))))))))))) zgJx4a65c_size_1)) rfl rfl rfl hE.2.2.2.2.2.2.1 (by decide +kernel) ⟨Nat.le_of_ble_eq_true rfl, Nat.le_of_ble_eq_true rfl⟩) ⟨gPc_blind, va_recv hK hP (ci := 2) (q0 := 6) rfl rfl, gPc_pass hPc hKc hDc⟩ rfl rfl hl.1 rfl (lv_room (Nat.le_of_ble_eq_true rfl)) dX12_order_61 ⟨Nat.le_of_ble_eq_true rfl, Nat.le_of_ble_eq_true rfl⟩) hS (fun q _ h => hFc q h) hFc (fun r_17 u_18 t H locs ht hvm hw hB hz hk hS => ?_)
    obtain ⟨hP1, hK1, hD1⟩ := hB
    rw [ht] at hP1
    obtain ⟨hP, hD⟩ := va_join (wr := [(mo, .inr (15, [.int 0, .ref (lm 0), .ref (lm 1), .ref (lm 2), .ref (lm 3), .ref (lm 4), .int 0, .int 0])), ((lm 0), .inr (2, [.int 0, .ref e0, .int 0])), ((lm 1), .inr (2, [.int 0, .ref e0, .int 0])), ((lm 2), .inr (2, [.int 0, .ref e0, .int 0])), ((lm 3), .inr (2, [.int 0, .ref e0, .int 0])), (q43, .inr (11, u_13))]) (w1 := [((lm 4), .inr (2, [.int 1, .ref u_16, .int 1]))]) hP hD [6] [0, 1, 2, 3, 4, 5] rfl rfl (by decide) (by decide) hk hFc hP1 hD1
    have hP : va_P (dC, dI) vwCl [(mo, .inr (15, [.int 0, .ref (lm 0), .ref (lm 1), .ref (lm 2), .ref (lm 3), .ref (lm 4), .int 0, .int 0])), ((lm 0), .inr (2, [.int 0, .ref e0, .int 0])), ((lm 1), .inr (2, [.int 0, .ref e0, .int 0])), ((lm 2), .inr (2, [.int 0, .ref e0, .int 0])), ((lm 3), .inr (2, [.int 0, .ref e0, .int 0])), (q43, .inr (11, u_13)), ((lm 4), .inr (2, [.int 1, .ref u_16, .int 1]))] H := hP
    have hD : va_D A [(mo, .inr (15, [.int 0, .ref (lm 0), .ref (lm 1), .ref (lm 2), .ref (lm 3), .ref (lm 4), .int 0, .int 0])), ((lm 0), .inr (2, [.int 0, .ref e0, .int 0])), ((lm 1), .inr (2, [.int 0, .ref e0, .int 0])), ((lm 2), .inr (2, [.int 0, .ref e0, .int 0])), ((lm 3), .inr (2, [.int 0, .ref e0, .int 0])), (q43, .inr (11, u_13)), ((lm 4), .inr (2, [.int 1, .ref u_16, .int 1]))] := hD
    have hw : r_17 = 1 := hw
    subst hw
    refine lv_iconst (v := 1) hx hb dX12_order_66 (by decide) ?_
    refine lv_isub hx hb dX12_order_67 ?_
    refine lv_topi (fun y_19 ey_19 => ?_)
    obtain rfl : y_19 = 0 := ey_19.trans (by decide +kernel)
    have hP9 := hP.sub (ws' := [(mo, .inr (15, [.int 0, .ref (lm 0), .ref (lm 1), .ref (lm 2), .ref (lm 3), .ref (lm 4), .int 0, .int 0]))]) [0] rfl
    have hD9 := hD.sub (ws' := [(mo, .inr (15, [.int 0, .ref (lm 0), .ref (lm 1), .ref (lm 2), .ref (lm 3), .ref (lm 4), .int 0, .int 0]))]) [0] (by decide) rfl
    have hK9 := hK.sub (tys' := []) [] rfl
    refine W.widen (k := 3) (n := 38) (Nat.le_of_ble_eq_true rfl) (Nat.le_of_ble_eq_true rfl) ?_
    exact W.iret (v := 0) hx hb hr (fun t ht hW => ⟨⟨0, 0, rfl, (Or.inl ⟨rfl, rfl, (by simp only [zPl, zPm, fa_lt, fa_le, fa_eq, zi_0, zi_1, zi_3, zi_4, zi_7, zi_8, zi_10, zi_12, zi_119, zi_m1] at h_3 w_14 ⊢ <;> omega)⟩), by rw [ht]; exact hP9, va_K.moved hW.alike hK9, hD9⟩, hS.F ht⟩) hS.2.2 dX12_order_68
  · refine lv_if_ne (tgt := 12) hx hb dX12_order_5 (by decide) (fun c_20 => absurd c_20 (by decide)) (fun _ => ?_)
    refine lv_iconst (v := 1) hx hb dX12_order_8 (by decide) ?_
    refine lv_goto (tgt := 31) hx hb dX12_order_9 (by decide) ?_
    have hPc := hP.sub (ws' := [(mo, .inr (15, [.int th, .ref (lm 0), .ref (lm 1), .ref (lm 2), .ref (lm 3), .ref (lm 4), .int 0, .int 0])), ((lm 0), .inr (2, [.int 0, .ref e0, .int 0])), ((lm 1), .inr (2, [.int 0, .ref e0, .int 0])), ((lm 2), .inr (2, [.int 0, .ref e0, .int 0])), ((lm 3), .inr (2, [.int 0, .ref e0, .int 0])), ((lm 4), .inr (2, [.int 0, .ref e0, .int 0]))]) [0, 1, 2, 3, 4, 5] rfl
    have hDc := hD.sub (ws' := [(mo, .inr (15, [.int th, .ref (lm 0), .ref (lm 1), .ref (lm 2), .ref (lm 3), .ref (lm 4), .int 0, .int 0])), ((lm 0), .inr (2, [.int 0, .ref e0, .int 0])), ((lm 1), .inr (2, [.int 0, .ref e0, .int 0])), ((lm 2), .inr (2, [.int 0, .ref e0, .int 0])), ((lm 3), .inr (2, [.int 0, .ref e0, .int 0])), ((lm 4), .inr (2, [.int 0, .ref e0, .int 0]))]) [0, 1, 2, 3, 4, 5] (by decide) rfl
    have hKc := hK.sub (tys' := []) [] rfl
    have hFc := va_free (wc := [(mo, .inr (15, [.int th, .ref (lm 0), .ref (lm 1), .ref (lm 2), .ref (lm 3), .ref (lm 4), .int 0, .int 0])), ((lm 0), .inr (2, [.int 0, .ref e0, .int 0])), ((lm 1), .inr (2, [.int 0, .ref e0, .int 0])), ((lm 2), .inr (2, [.int 0, .ref e0, .int 0])), ((lm 3), .inr (2, [.int 0, .ref e0, .int 0])), ((lm 4), .inr (2, [.int 0, .ref e0, .int 0]))]) hD hS hA [0, 1, 2, 3, 4, 5] rfl
    refine va_calli (va_runV (As := [.int 1]) (rest := []) ⟨hx, hb, hml, hown, hts⟩ (c_X12_isWrong_1 l dC dI H.size mo lm e0 th) (cwV 1 hts (goodIn_app (goodIn_of _ (by decide +kernel)) (goodIn_sub ((fun w h => List.mem_cons_of_mem _ (List.mem_append_right _ (List.mem_append_right _ (List.mem_append_right _ (List.mem_append_right _ (List.mem_append_right _ (List.mem_append_right _ (List.mem_append_right _ (List.mem_append_right _ (List.mem_append_right _ (h)))))))))))) zgX12_isWrong_1)) rfl rfl rfl (by decide +kernel) ⟨Nat.le_of_ble_eq_true rfl, Nat.le_of_ble_eq_true rfl⟩) ⟨gPcE_blind, va_recv hK hP (ci := 15) (q0 := 0) rfl rfl, gPcE_pass hPc hKc hDc hE hS hFc⟩ rfl rfl hl.1 rfl (lv_room (Nat.le_of_ble_eq_true rfl)) dX12_order_31 ⟨Nat.le_of_ble_eq_true rfl, Nat.le_of_ble_eq_true rfl⟩) hS (fun q _ h => hFc q h) hFc (fun r_21 u_22 t H locs ht hvm hw hB hz hk hS => ?_)
    obtain ⟨hP1, hK1, hD1⟩ := hB
    rw [ht] at hP1
    obtain ⟨hP, hD⟩ := va_join (wr := []) (w1 := [(mo, .inr (15, [.int u_22, .ref (lm 0), .ref (lm 1), .ref (lm 2), .ref (lm 3), .ref (lm 4), .int 0, .int 0])), ((lm 0), .inr (2, [.int 0, .ref e0, .int 0])), ((lm 1), .inr (2, [.int 0, .ref e0, .int 0])), ((lm 2), .inr (2, [.int 0, .ref e0, .int 0])), ((lm 3), .inr (2, [.int 0, .ref e0, .int 0])), ((lm 4), .inr (2, [.int 0, .ref e0, .int 0]))]) hP hD [0, 1, 2, 3, 4, 5] [] rfl rfl (by decide) (by decide) hk hFc hP1 hD1
    have hP : va_P (dC, dI) vwCl [(mo, .inr (15, [.int u_22, .ref (lm 0), .ref (lm 1), .ref (lm 2), .ref (lm 3), .ref (lm 4), .int 0, .int 0])), ((lm 0), .inr (2, [.int 0, .ref e0, .int 0])), ((lm 1), .inr (2, [.int 0, .ref e0, .int 0])), ((lm 2), .inr (2, [.int 0, .ref e0, .int 0])), ((lm 3), .inr (2, [.int 0, .ref e0, .int 0])), ((lm 4), .inr (2, [.int 0, .ref e0, .int 0]))] H := hP
    have hD : va_D A [(mo, .inr (15, [.int u_22, .ref (lm 0), .ref (lm 1), .ref (lm 2), .ref (lm 3), .ref (lm 4), .int 0, .int 0])), ((lm 0), .inr (2, [.int 0, .ref e0, .int 0])), ((lm 1), .inr (2, [.int 0, .ref e0, .int 0])), ((lm 2), .inr (2, [.int 0, .ref e0, .int 0])), ((lm 3), .inr (2, [.int 0, .ref e0, .int 0])), ((lm 4), .inr (2, [.int 0, .ref e0, .int 0]))] := hD
    have hw : r_21 = 1 ∧ u_22 = 1 := hw
    obtain ⟨rfl, rfl⟩ : r_21 = 1 ∧ u_22 = 1 := hw
    refine lv_if_eq (tgt := 39) hx hb dX12_order_34 (by decide) (fun c_23 => absurd c_23 (by decide)) (fun _ => ?_)
    refine lv_iconst (v := 0) hx hb dX12_order_37 (by decide) ?_
    have hP9 := hP.sub (ws' := [(mo, .inr (15, [.int 1, .ref (lm 0), .ref (lm 1), .ref (lm 2), .ref (lm 3), .ref (lm 4), .int 0, .int 0]))]) [0] rfl
    have hD9 := hD.sub (ws' := [(mo, .inr (15, [.int 1, .ref (lm 0), .ref (lm 1), .ref (lm 2), .ref (lm 3), .ref (lm 4), .int 0, .int 0]))]) [0] (by decide) rfl
    have hK9 := hK.sub (tys' := []) [] rfl
    refine W.widen (k := 3) (n := 38) (Nat.le_of_ble_eq_true rfl) (Nat.le_of_ble_eq_true rfl) ?_
    exact W.iret (v := 0) hx hb hr (fun t ht hW => ⟨⟨0, 1, rfl, (Or.inr ⟨rfl, (by simp only [zPl, zPm, fa_lt, fa_le, fa_eq, zi_0, zi_1, zi_3, zi_4, zi_7, zi_8, zi_10, zi_12, zi_119, zi_m1] at h_3 ⊢ <;> omega)⟩), by rw [ht]; exact hP9, va_K.moved hW.alike hK9, hD9⟩, hS.F ht⟩) hS.2.2 dX12_order_38

def zwX12_thrown_1 : List Cond := .code yX12_thrown cX12_thrown 1 (some .int) :: (([.fieldLink RX12 28 "SpotbeatModel" "thrown" "I"] : List Cond) ++ (wsX120))
theorem zgX12_thrown_1 : zwX12_thrown_1.all goodWord = true := zgo rfl (zga (by decide +kernel) (zgcX12))
set_option maxHeartbeats 4000000 in
set_option maxRecDepth 100000 in
theorem c_X12_thrown_1 (l : Launch) (dC : Nat → ClassId) (dI : Nat → Nat → Nat) (sz : Nat) (mo : Nat) (lm : Nat → Nat) (e0 : Nat) (th : Int32) : Met l yX12_thrown zwX12_thrown_1 ({ frames := 0, cells := 0, slots := 0, locals := 0 }) (gPcE dC dI sz [(mo, .inr (15, [.int th, .ref (lm 0), .ref (lm 1), .ref (lm 2), .ref (lm 3), .ref (lm 4), .int 0, .int 0]))] [] [.ref mo]) (va_Qi (fun (r : Int32) (u : Int32) => r = th ∧ u = th) (fun u t => va_P (dC, dI) vwCl [(mo, .inr (15, [.int u, .ref (lm 0), .ref (lm 1), .ref (lm 2), .ref (lm 3), .ref (lm 4), .int 0, .int 0]))] t.heap ∧ va_K (dC, dI) vwCl [] t ∧ va_D (va_A [(mo, .inr (15, [.int th, .ref (lm 0), .ref (lm 1), .ref (lm 2), .ref (lm 3), .ref (lm 4), .int 0, .int 0]))] sz) [(mo, .inr (15, [.int u, .ref (lm 0), .ref (lm 1), .ref (lm 2), .ref (lm 3), .ref (lm 4), .int 0, .int 0]))]) (va_A [(mo, .inr (15, [.int th, .ref (lm 0), .ref (lm 1), .ref (lm 2), .ref (lm 3), .ref (lm 4), .int 0, .int 0]))] sz)) 0 0 (va_A [(mo, .inr (15, [.int th, .ref (lm 0), .ref (lm 1), .ref (lm 2), .ref (lm 3), .ref (lm 4), .int 0, .int 0]))] sz) := by
  refine Met.ofW (cc := cX12_thrown) (maxL := 1) (ret := (some .int)) (by decide) rfl ?_
  intro p e s m args below meth c s₁ B hml hv
  obtain ⟨rfl, hsz, hP, hK, hD0, hE⟩ := hv
  have hx := B.exec
  have hb := B.bytes
  have hr := B.returns
  have hts := atoms_spec (ws := zwX12_thrown_1) B.pre
  have hown : s.vm.findClass RX12 = some m.cls := findClass_of_methodNamed B.named
  have hlocks := B.notSynchronized
  subst hsz
  have hD := hD0.self (sz := s.heap.size)
  generalize hAe : va_A [(mo, .inr (15, [.int th, .ref (lm 0), .ref (lm 1), .ref (lm 2), .ref (lm 3), .ref (lm 4), .int 0, .int 0]))] s.heap.size = A at hD hE ⊢
  have hA : ∀ q : Nat, s.heap.size ≤ q → A q := fun q h => by rw [← hAe]; exact Or.inr h
  have hS : va_S A s.heap s.heap [] := va_S.rf
  have hP : va_P (dC, dI) vwCl [(mo, .inr (15, [.int th, .ref (lm 0), .ref (lm 1), .ref (lm 2), .ref (lm 3), .ref (lm 4), .int 0, .int 0]))] s.heap := hP
  have hl := lv_entry ([.ref mo]) (n := 1) (Nat.le_of_ble_eq_true rfl)
  rw [lg_entry_eq]
  generalize (lg_sl ([.ref mo]) ++ List.replicate (1 - (lg_sl ([.ref mo])).length) Slot.unset).toArray = ls at hl ⊢
  have hl : lv_has ls 1 [(0, .ref mo)] := hl
  refine lv_aload_n hx hb dX12_thrown_0 rfl (lv_at hl 0 rfl) ?_
  refine va_get (D := (dC, dI)) (ci := 15) (v := .int th) (C := RX12) (T := TX12) (N := 8) hx hb hts (fun w h => List.mem_cons_of_mem _ (List.mem_append_right _ (h))) hown hK hP 0 rfl rfl 0 (by decide) (hts (.fieldLink RX12 28 "SpotbeatModel" "thrown" "I") (by decide +kernel)) (fun _ h9 => h9) rfl dX12_thrown_1 ?_
  have hP9 := hP.sub (ws' := [(mo, .inr (15, [.int th, .ref (lm 0), .ref (lm 1), .ref (lm 2), .ref (lm 3), .ref (lm 4), .int 0, .int 0]))]) [0] rfl
  have hD9 := hD.sub (ws' := [(mo, .inr (15, [.int th, .ref (lm 0), .ref (lm 1), .ref (lm 2), .ref (lm 3), .ref (lm 4), .int 0, .int 0]))]) [0] (by decide) rfl
  have hK9 := hK.sub (tys' := []) [] rfl
  refine W.widen (k := 0) (n := 0) (Nat.le_of_ble_eq_true rfl) (Nat.le_of_ble_eq_true rfl) ?_
  exact W.iret (v := th) hx hb hr (fun t ht hW => ⟨⟨th, th, rfl, ⟨rfl, rfl⟩, by rw [ht]; exact hP9, va_K.moved hW.alike hK9, hD9⟩, hS.F ht⟩) hS.2.2 dX12_thrown_4
end ZMod3
