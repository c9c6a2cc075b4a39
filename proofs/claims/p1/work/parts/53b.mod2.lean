section ZMod2
def zwJxa1e45_init_da8c8 : List Cond := .code yJxa1e45_init_da8c8 cJxa1e45_init_da8c8 1 none :: ([.methodLink RJxa1e45 1 objectInit, .instanceMethod objectInit, .code objectInit ⟨#[0xb1]⟩ 1 none] : List Cond)
theorem zgJxa1e45_init_da8c8 : zwJxa1e45_init_da8c8.all goodWord = true := zgo rfl ((by decide +kernel))
set_option maxHeartbeats 4000000 in
set_option maxRecDepth 100000 in
theorem c_Jxa1e45_init_da8c8 (l : Launch) (dC : Nat → ClassId) (dI : Nat → Nat → Nat) (sz : Nat) (tb : Nat) : Met l yJxa1e45_init_da8c8 zwJxa1e45_init_da8c8 ({ frames := 1, cells := 0, slots := 0, locals := 12 }) (gPc dC dI sz [(tb, .inr (2, [.int 0, .null, .int 0]))] [] [.ref tb]) (va_Qv (fun (u : Unit) => True) (fun u t => va_P (dC, dI) vwCl [(tb, .inr (2, [.int 0, .null, .int 0]))] t.heap ∧ va_K (dC, dI) vwCl [] t ∧ va_D (va_A [(tb, .inr (2, [.int 0, .null, .int 0]))] sz) [(tb, .inr (2, [.int 0, .null, .int 0]))]) (va_A [(tb, .inr (2, [.int 0, .null, .int 0]))] sz)) 0 0 (va_A [(tb, .inr (2, [.int 0, .null, .int 0]))] sz) := by
  refine Met.ofW (cc := cJxa1e45_init_da8c8) (maxL := 1) (ret := none) (by decide) rfl ?_
  intro p e s m args below meth c s₁ B hml hv
  obtain ⟨rfl, hsz, hP, hK, hD0⟩ := hv
  have hx := B.exec
  have hb := B.bytes
  have hr := B.returns
  have hts := atoms_spec (ws := zwJxa1e45_init_da8c8) B.pre
  have hown : s.vm.findClass RJxa1e45 = some m.cls := findClass_of_methodNamed B.named
  have hlocks := B.notSynchronized
  have hin : meth.name = "<init>" := (name_of_methodNamed B.named B.method).1
  subst hsz
  have hD := hD0.self (sz := s.heap.size)
  generalize hAe : va_A [(tb, .inr (2, [.int 0, .null, .int 0]))] s.heap.size = A at hD ⊢
  have hA : ∀ q : Nat, s.heap.size ≤ q → A q := fun q h => by rw [← hAe]; exact Or.inr h
  have hS : va_S A s.heap s.heap [] := va_S.rf
  have hP : va_P (dC, dI) vwCl [(tb, .inr (2, [.int 0, .null, .int 0]))] s.heap := hP
  have hl := lv_entry ([.ref tb]) (n := 1) (Nat.le_of_ble_eq_true rfl)
  rw [lg_entry_eq]
  generalize (lg_sl ([.ref tb]) ++ List.replicate (1 - (lg_sl ([.ref tb])).length) Slot.unset).toArray = ls at hl ⊢
  have hl : lv_has ls 1 [(0, .ref tb)] := hl
  refine lv_aload_n hx hb dJxa1e45_init_da8c8_0 rfl (lv_at hl 0 rfl) ?_
  refine W.objInit hx hb hown (hts (.methodLink RJxa1e45 1 objectInit) (by decide +kernel)) (hts (.instanceMethod objectInit) (by decide +kernel)) (hts (.code objectInit ⟨#[0xb1]⟩ 1 none) (by decide +kernel)) rfl (by rw [hml]; exact hl.1) rfl dJxa1e45_init_da8c8_1 (Nat.le_of_ble_eq_true rfl) (Nat.le_of_ble_eq_true rfl) ?_
  refine W.eq (g2 := F0 m 4 ls []) rfl ?_
  have hP9 := hP.sub (ws' := [(tb, .inr (2, [.int 0, .null, .int 0]))]) [0] rfl
  have hD9 := hD.sub (ws' := [(tb, .inr (2, [.int 0, .null, .int 0]))]) [0] (by decide) rfl
  have hK9 := hK.sub (tys' := []) [] rfl
  refine W.widen (k := 0) (n := 0) (Nat.le_of_ble_eq_true rfl) (Nat.le_of_ble_eq_true rfl) ?_
  exact W.vret hx hb hr (fun t ht hW => ⟨⟨(), rfl, trivial, by rw [ht]; exact hP9, va_K.moved hW.alike hK9, hD9⟩, hS.F ht⟩) hS.2.2 dJxa1e45_init_da8c8_4

def zwJxc12de_init_da8c8 : List Cond := .code yJxc12de_init_da8c8 cJxc12de_init_da8c8 1 none :: (([.initialized RJxa1e45, .methodLink RJxc12de 1 yJxa1e45_init_da8c8, .instanceMethod yJxa1e45_init_da8c8, .fieldLink RJxc12de 7 "java/util/AbstractList" "modCount" "I"] : List Cond) ++ (zwJxa1e45_init_da8c8 ++ (wsJx4a65c0)))
theorem zgJxc12de_init_da8c8 : zwJxc12de_init_da8c8.all goodWord = true := zgo rfl (zga (by decide +kernel) (zga zgJxa1e45_init_da8c8 (zgcJx4a65c)))
set_option maxHeartbeats 4000000 in
set_option maxRecDepth 100000 in
theorem c_Jxc12de_init_da8c8 (l : Launch) (dC : Nat → ClassId) (dI : Nat → Nat → Nat) (sz : Nat) (tb : Nat) : Met l yJxc12de_init_da8c8 zwJxc12de_init_da8c8 ({ frames := 2, cells := 0, slots := 0, locals := 32 }) (gPc dC dI sz [(tb, .inr (2, [.int 0, .null, .int 0]))] [] [.ref tb]) (va_Qv (fun (u : Unit) => True) (fun u t => va_P (dC, dI) vwCl [(tb, .inr (2, [.int 0, .null, .int 0]))] t.heap ∧ va_K (dC, dI) vwCl [] t ∧ va_D (va_A [(tb, .inr (2, [.int 0, .null, .int 0]))] sz) [(tb, .inr (2, [.int 0, .null, .int 0]))]) (va_A [(tb, .inr (2, [.int 0, .null, .int 0]))] sz)) 0 0 (va_A [(tb, .inr (2, [.int 0, .null, .int 0]))] sz) := by
  refine Met.ofW (cc := cJxc12de_init_da8c8) (maxL := 1) (ret := none) (by decide) rfl ?_
  intro p e s m args below meth c s₁ B hml hv
  obtain ⟨rfl, hsz, hP, hK, hD0⟩ := hv
  have hx := B.exec
  have hb := B.bytes
  have hr := B.returns
  have hts := atoms_spec (ws := zwJxc12de_init_da8c8) B.pre
  have hown : s.vm.findClass RJxc12de = some m.cls := findClass_of_methodNamed B.named
  have hlocks := B.notSynchronized
  have hin : meth.name = "<init>" := (name_of_methodNamed B.named B.method).1
  subst hsz
  have hD := hD0.self (sz := s.heap.size)
  generalize hAe : va_A [(tb, .inr (2, [.int 0, .null, .int 0]))] s.heap.size = A at hD ⊢
  have hA : ∀ q : Nat, s.heap.size ≤ q → A q := fun q h => by rw [← hAe]; exact Or.inr h
  have hS : va_S A s.heap s.heap [] := va_S.rf
  have hP : va_P (dC, dI) vwCl [(tb, .inr (2, [.int 0, .null, .int 0]))] s.heap := hP
  have hl := lv_entry ([.ref tb]) (n := 1) (Nat.le_of_ble_eq_true rfl)
  rw [lg_entry_eq]
  generalize (lg_sl ([.ref tb]) ++ List.replicate (1 - (lg_sl ([.ref tb])).length) Slot.unset).toArray = ls at hl ⊢
  have hl : lv_has ls 1 [(0, .ref tb)] := hl
  refine lv_aload_n hx hb dJxc12de_init_da8c8_0 rfl (lv_at hl 0 rfl) ?_
  have hPc := hP.sub (ws' := [(tb, .inr (2, [.int 0, .null, .int 0]))]) [0] rfl
  have hDc := hD.sub (ws' := [(tb, .inr (2, [.int 0, .null, .int 0]))]) [0] (by decide) rfl
  have hKc := hK.sub (tys' := []) [] rfl
  have hFc := va_free (wc := [(tb, .inr (2, [.int 0, .null, .int 0]))]) hD hS hA [0] rfl
  refine va_callv (va_runI (As := []) (rest := []) ⟨hx, hb, hml, hown, hts⟩ (c_Jxa1e45_init_da8c8 l dC dI s.heap.size tb) (cwI 0 hts (goodIn_sub ((fun w h => List.mem_cons_of_mem _ (List.mem_append_right _ (List.mem_append_left _ h)))) zgJxa1e45_init_da8c8) rfl rfl rfl (hts (.initialized RJxa1e45) (by decide +kernel)) (hts (.methodLink RJxc12de 1 yJxa1e45_init_da8c8) (by decide +kernel)) (hts (.instanceMethod yJxa1e45_init_da8c8) (by decide +kernel)) rfl (by decide +kernel) ⟨Nat.le_of_ble_eq_true rfl, Nat.le_of_ble_eq_true rfl⟩) ⟨gPc_blind, gPc_pass hPc hKc hDc⟩ rfl rfl hl.1 rfl (lv_room (Nat.le_of_ble_eq_true rfl)) dJxc12de_init_da8c8_1 ⟨Nat.le_of_ble_eq_true rfl, Nat.le_of_ble_eq_true rfl⟩) hS (fun q _ h => hFc q h) hFc (fun u_2 t H locs ht hvm hw hB hz hk hS => ?_)
  obtain ⟨hP1, hK1, hD1⟩ := hB
  rw [ht] at hP1
  obtain ⟨hP, hD⟩ := va_join (wr := []) (w1 := [(tb, .inr (2, [.int 0, .null, .int 0]))]) hP hD [0] [] rfl rfl (by decide) (by decide) hk hFc hP1 hD1
  have hP : va_P (dC, dI) vwCl [(tb, .inr (2, [.int 0, .null, .int 0]))] H := hP
  have hD : va_D A [(tb, .inr (2, [.int 0, .null, .int 0]))] := hD
  have w_3 : True := hw
  refine lv_aload_n hx hb dJxc12de_init_da8c8_4 rfl (lv_at hl 0 rfl) ?_
  refine lv_iconst (v := 0) hx hb dJxc12de_init_da8c8_5 (by decide) ?_
  refine va_put (D := (dC, dI)) (ci := 2) (v := .int 0) (ty := .int) (C := RJx4a65c) (T := TJx4a65c) (N := 3) hx hb hts (fun w h => List.mem_cons_of_mem _ (List.mem_append_right _ (List.mem_append_right _ (h)))) tyJx4a65c tyJx4a65c_ok nmJx4a65c hown hK hP hD hS 0 rfl rfl 0 (by decide) (hts (.fieldLink RJxc12de 7 "java/util/AbstractList" "modCount" "I") (by decide +kernel)) (fun _ h9 => h9) rfl (by decide +kernel) rfl rfl (Nat.le_of_ble_eq_true rfl) dJxc12de_init_da8c8_6 (fun H locs hP hD hS => ?_)
  have hP : va_P (dC, dI) vwCl [(tb, .inr (2, [.int 0, .null, .int 0]))] H := hP
  have hD : va_D A [(tb, .inr (2, [.int 0, .null, .int 0]))] := hD
  have hP9 := hP.sub (ws' := [(tb, .inr (2, [.int 0, .null, .int 0]))]) [0] rfl
  have hD9 := hD.sub (ws' := [(tb, .inr (2, [.int 0, .null, .int 0]))]) [0] (by decide) rfl
  have hK9 := hK.sub (tys' := []) [] rfl
  refine W.widen (k := 0) (n := 0) (Nat.le_of_ble_eq_true rfl) (Nat.le_of_ble_eq_true rfl) ?_
  exact W.vret hx hb hr (fun t ht hW => ⟨⟨(), rfl, trivial, by rw [ht]; exact hP9, va_K.moved hW.alike hK9, hD9⟩, hS.F ht⟩) hS.2.2 dJxc12de_init_da8c8_9

def zwJx4a65c_init_da8c8 : List Cond := .code yJx4a65c_init_da8c8 cJx4a65c_init_da8c8 1 none :: (([.initialized RJxc12de, .methodLink RJx4a65c 1 yJxc12de_init_da8c8, .instanceMethod yJxc12de_init_da8c8, .fieldLink RJx4a65c 39 "java/util/ArrayList" "DEFAULTCAPACITY_EMPTY_ELEMENTDATA" "[Ljava/lang/Object;", .fieldLink RJx4a65c 9 "java/util/ArrayList" "elementData" "[Ljava/lang/Object;"] : List Cond) ++ (zwJxc12de_init_da8c8 ++ (wsJx4a65c0)))
theorem zgJx4a65c_init_da8c8 : zwJx4a65c_init_da8c8.all goodWord = true := zgo rfl (zga (by decide +kernel) (zga zgJxc12de_init_da8c8 (zgcJx4a65c)))
set_option maxHeartbeats 4000000 in
set_option maxRecDepth 100000 in
theorem c_Jx4a65c_init_da8c8 (l : Launch) (dC : Nat → ClassId) (dI : Nat → Nat → Nat) (sz : Nat) (e0 : Nat) (tb : Nat) : Met l yJx4a65c_init_da8c8 zwJx4a65c_init_da8c8 ({ frames := 3, cells := 0, slots := 0, locals := 52 }) (gPcD dC dI sz [(tb, .inr (2, [.int 0, .null, .int 0]))] [] e0 [.ref tb]) (va_Qv (fun (u : Unit) => True) (fun u t => va_P (dC, dI) vwCl [(tb, .inr (2, [.int 0, .ref e0, .int 0]))] t.heap ∧ va_K (dC, dI) vwCl [] t ∧ va_D (va_A [(tb, .inr (2, [.int 0, .null, .int 0]))] sz) [(tb, .inr (2, [.int 0, .ref e0, .int 0]))]) (va_A [(tb, .inr (2, [.int 0, .null, .int 0]))] sz)) 0 0 (va_A [(tb, .inr (2, [.int 0, .null, .int 0]))] sz) := by
  refine Met.ofW (cc := cJx4a65c_init_da8c8) (maxL := 1) (ret := none) (by decide) rfl ?_
  intro p e s m args below meth c s₁ B hml hv
  obtain ⟨rfl, hsz, hP, hK, hD0, hE, hZ⟩ := hv
  have hx := B.exec
  have hb := B.bytes
  have hr := B.returns
  have hts := atoms_spec (ws := zwJx4a65c_init_da8c8) B.pre
  have hown : s.vm.findClass RJx4a65c = some m.cls := findClass_of_methodNamed B.named
  have hlocks := B.notSynchronized
  have hin : meth.name = "<init>" := (name_of_methodNamed B.named B.method).1
  subst hsz
  have hD := hD0.self (sz := s.heap.size)
  generalize hAe : va_A [(tb, .inr (2, [.int 0, .null, .int 0]))] s.heap.size = A at hD hE hZ ⊢
  have hA : ∀ q : Nat, s.heap.size ≤ q → A q := fun q h => by rw [← hAe]; exact Or.inr h
  have hS : va_S A s.heap s.heap [] := va_S.rf
  have hP : va_P (dC, dI) vwCl [(tb, .inr (2, [.int 0, .null, .int 0]))] s.heap := hP
  have hl := lv_entry ([.ref tb]) (n := 1) (Nat.le_of_ble_eq_true rfl)
  rw [lg_entry_eq]
  generalize (lg_sl ([.ref tb]) ++ List.replicate (1 - (lg_sl ([.ref tb])).length) Slot.unset).toArray = ls at hl ⊢
  have hl : lv_has ls 1 [(0, .ref tb)] := hl
  refine lv_aload_n hx hb dJx4a65c_init_da8c8_0 rfl (lv_at hl 0 rfl) ?_
  have hPc := hP.sub (ws' := [(tb, .inr (2, [.int 0, .null, .int 0]))]) [0] rfl
  have hDc := hD.sub (ws' := [(tb, .inr (2, [.int 0, .null, .int 0]))]) [0] (by decide) rfl
  have hKc := hK.sub (tys' := []) [] rfl
  have hFc := va_free (wc := [(tb, .inr (2, [.int 0, .null, .int 0]))]) hD hS hA [0] rfl
  refine va_callv (va_runI (As := []) (rest := []) ⟨hx, hb, hml, hown, hts⟩ (c_Jxc12de_init_da8c8 l dC dI s.heap.size tb) (cwI 0 hts (goodIn_sub ((fun w h => List.mem_cons_of_mem _ (List.mem_append_right _ (List.mem_append_left _ h)))) zgJxc12de_init_da8c8) rfl rfl rfl (hts (.initialized RJxc12de) (by decide +kernel)) (hts (.methodLink RJx4a65c 1 yJxc12de_init_da8c8) (by decide +kernel)) (hts (.instanceMethod yJxc12de_init_da8c8) (by decide +kernel)) rfl (by decide +kernel) ⟨Nat.le_of_ble_eq_true rfl, Nat.le_of_ble_eq_true rfl⟩) ⟨gPc_blind, gPc_pass hPc hKc hDc⟩ rfl rfl hl.1 rfl (lv_room (Nat.le_of_ble_eq_true rfl)) dJx4a65c_init_da8c8_1 ⟨Nat.le_of_ble_eq_true rfl, Nat.le_of_ble_eq_true rfl⟩) hS (fun q _ h => hFc q h) hFc (fun u_2 t H locs ht hvm hw hB hz hk hS => ?_)
  obtain ⟨hP1, hK1, hD1⟩ := hB
  rw [ht] at hP1
  obtain ⟨hP, hD⟩ := va_join (wr := []) (w1 := [(tb, .inr (2, [.int 0, .null, .int 0]))]) hP hD [0] [] rfl rfl (by decide) (by decide) hk hFc hP1 hD1
  have hP : va_P (dC, dI) vwCl [(tb, .inr (2, [.int 0, .null, .int 0]))] H := hP
  have hD : va_D A [(tb, .inr (2, [.int 0, .null, .int 0]))] := hD
  have w_3 : True := hw
  refine lv_aload_n hx hb dJx4a65c_init_da8c8_4 rfl (lv_at hl 0 rfl) ?_
  refine va_gets (v := .ref e0) hx hb hZ.1 hS hown (hts (.fieldLink RJx4a65c 39 "java/util/ArrayList" "DEFAULTCAPACITY_EMPTY_ELEMENTDATA" "[Ljava/lang/Object;") (by decide +kernel)) (fun _ h9 => h9) dJx4a65c_init_da8c8_5 ?_
  refine va_put (D := (dC, dI)) (ci := 2) (v := .ref e0) (ty := .array (.object "java/lang/Object")) (C := RJx4a65c) (T := TJx4a65c) (N := 3) hx hb hts (fun w h => List.mem_cons_of_mem _ (List.mem_append_right _ (List.mem_append_right _ (h)))) tyJx4a65c tyJx4a65c_ok nmJx4a65c hown hK hP hD hS 0 rfl rfl 1 (by decide) (hts (.fieldLink RJx4a65c 9 "java/util/ArrayList" "elementData" "[Ljava/lang/Object;") (by decide +kernel)) (fun _ h9 => h9) rfl (by decide +kernel) rfl rfl (Nat.le_of_ble_eq_true rfl) dJx4a65c_init_da8c8_8 (fun H locs hP hD hS => ?_)
  have hP : va_P (dC, dI) vwCl [(tb, .inr (2, [.int 0, .ref e0, .int 0]))] H := hP
  have hD : va_D A [(tb, .inr (2, [.int 0, .ref e0, .int 0]))] := hD
  have hP9 := hP.sub (ws' := [(tb, .inr (2, [.int 0, .ref e0, .int 0]))]) [0] rfl
  have hD9 := hD.sub (ws' := [(tb, .inr (2, [.int 0, .ref e0, .int 0]))]) [0] (by decide) rfl
  have hK9 := hK.sub (tys' := []) [] rfl
  refine W.widen (k := 0) (n := 0) (Nat.le_of_ble_eq_true rfl) (Nat.le_of_ble_eq_true rfl) ?_
  exact W.vret hx hb hr (fun t ht hW => ⟨⟨(), rfl, trivial, by rw [ht]; exact hP9, va_K.moved hW.alike hK9, hD9⟩, hS.F ht⟩) hS.2.2 dJx4a65c_init_da8c8_11

def zwX12_init : List Cond := .code yX12_init cX12_init 1 none :: (([.methodLink RX12 1 objectInit, .instanceMethod objectInit, .code objectInit ⟨#[0xb1]⟩ 1 none, .classLink RX12 7 RJx4a65c, .instantiable RJx4a65c 3, .initialized RJx4a65c, .methodLink RX12 9 yJx4a65c_init_da8c8, .instanceMethod yJx4a65c_init_da8c8, .fieldLink RX12 10 "SpotbeatModel" "parents" "Ljava/util/List;", .fieldLink RX12 16 "SpotbeatModel" "spots" "Ljava/util/List;", .fieldLink RX12 19 "SpotbeatModel" "stations" "Ljava/util/List;", .fieldLink RX12 22 "SpotbeatModel" "robots" "Ljava/util/List;", .fieldLink RX12 25 "SpotbeatModel" "bodies" "Ljava/util/List;"] : List Cond) ++ (wsJx4a65c0 ++ (zwJx4a65c_init_da8c8 ++ (wsX120))))
theorem zgX12_init : zwX12_init.all goodWord = true := zgo rfl (zga (by decide +kernel) (zga zgcJx4a65c (zga zgJx4a65c_init_da8c8 (zgcX12))))
set_option maxHeartbeats 4000000 in
set_option maxRecDepth 100000 in
theorem c_X12_init (l : Launch) (dC : Nat → ClassId) (dI : Nat → Nat → Nat) (sz : Nat) (e0 : Nat) (mo : Nat) : Met l yX12_init zwX12_init ({ frames := 4, cells := 5, slots := 15, locals := 72 }) (gPcD dC dI sz [(mo, .inr (15, [.int 0, .null, .null, .null, .null, .null, .int 0, .int 0]))] [] e0 [.ref mo]) (va_Qv (fun (u : Nat → Nat) => True) (fun u t => va_P (dC, dI) vwCl (mW mo u e0 0) t.heap ∧ va_K (dC, dI) vwCl [] t ∧ va_D (va_A [(mo, .inr (15, [.int 0, .null, .null, .null, .null, .null, .int 0, .int 0]))] sz) (mW mo u e0 0)) (va_A [(mo, .inr (15, [.int 0, .null, .null, .null, .null, .null, .int 0, .int 0]))] sz)) 5 15 (va_A [(mo, .inr (15, [.int 0, .null, .null, .null, .null, .null, .int 0, .int 0]))] sz) := by
  refine Met.ofW (cc := cX12_init) (maxL := 1) (ret := none) (by decide) rfl ?_
  intro p e s m args below meth c s₁ B hml hv
  obtain ⟨rfl, hsz, hP, hK, hD0, hE, hZ⟩ := hv
  have hx := B.exec
  have hb := B.bytes
  have hr := B.returns
  have hts := atoms_spec (ws := zwX12_init) B.pre
  have hown : s.vm.findClass RX12 = some m.cls := findClass_of_methodNamed B.named
  have hlocks := B.notSynchronized
  have hin : meth.name = "<init>" := (name_of_methodNamed B.named B.method).1
  subst hsz
  have hD := hD0.self (sz := s.heap.size)
  generalize hAe : va_A [(mo, .inr (15, [.int 0, .null, .null, .null, .null, .null, .int 0, .int 0]))] s.heap.size = A at hD hE hZ ⊢
  have hA : ∀ q : Nat, s.heap.size ≤ q → A q := fun q h => by rw [← hAe]; exact Or.inr h
  have hS : va_S A s.heap s.heap [] := va_S.rf
  have hP : va_P (dC, dI) vwCl [(mo, .inr (15, [.int 0, .null, .null, .null, .null, .null, .int 0, .int 0]))] s.heap := hP
  have hl := lv_entry ([.ref mo]) (n := 1) (Nat.le_of_ble_eq_true rfl)
  rw [lg_entry_eq]
  generalize (lg_sl ([.ref mo]) ++ List.replicate (1 - (lg_sl ([.ref mo])).length) Slot.unset).toArray = ls at hl ⊢
  have hl : lv_has ls 1 [(0, .ref mo)] := hl
  refine lv_aload_n hx hb dX12_init_0 rfl (lv_at hl 0 rfl) ?_
  refine W.objInit hx hb hown (hts (.methodLink RX12 1 objectInit) (by decide +kernel)) (hts (.instanceMethod objectInit) (by decide +kernel)) (hts (.code objectInit ⟨#[0xb1]⟩ 1 none) (by decide +kernel)) rfl (by rw [hml]; exact hl.1) rfl dX12_init_1 (Nat.le_of_ble_eq_true rfl) (Nat.le_of_ble_eq_true rfl) ?_
  refine W.eq (g2 := F0 m 4 ls []) rfl ?_
  refine lv_aload_n hx hb dX12_init_4 rfl (lv_at hl 0 rfl) ?_
  refine va_new (ci := 2) (fs := [.int 0, .null, .int 0]) (C := RJx4a65c) (T := TJx4a65c) (N := 3) hx hb hts (fun w h => List.mem_cons_of_mem _ (List.mem_append_right _ (List.mem_append_left _ h))) tyJx4a65c tyJx4a65c_ok hown (hts (.classLink RX12 7 RJx4a65c) (by decide +kernel)) (hts (.instantiable RJx4a65c 3) (by decide +kernel)) (hts (.initialized RJx4a65c) (by decide +kernel)) hK hP hD hS hA rfl (fun j hj => by rcases (show j = 0 ∨ j = 1 ∨ j = 2 by omega) with rfl | rfl | rfl <;> rfl) (Nat.le_of_ble_eq_true rfl) (Nat.le_of_ble_eq_true rfl) dX12_init_5 (fun q5 H hP hD hS => ?_)
  have hP : va_P (dC, dI) vwCl [(mo, .inr (15, [.int 0, .null, .null, .null, .null, .null, .int 0, .int 0])), (q5, .inr (2, [.int 0, .null, .int 0]))] H := hP
  have hD : va_D A [(mo, .inr (15, [.int 0, .null, .null, .null, .null, .null, .int 0, .int 0])), (q5, .inr (2, [.int 0, .null, .int 0]))] := hD
  refine lv_dup hx hb dX12_init_8 rfl ?_
  have hPc := hP.sub (ws' := [(q5, .inr (2, [.int 0, .null, .int 0]))]) [1] rfl
  have hDc := hD.sub (ws' := [(q5, .inr (2, [.int 0, .null, .int 0]))]) [1] (by decide) rfl
  have hKc := hK.sub (tys' := []) [] rfl
  have hFc := va_free (wc := [(q5, .inr (2, [.int 0, .null, .int 0]))]) hD hS hA [1] rfl
  refine va_callv (va_runI (As := []) (rest := [.ref q5, .ref mo]) ⟨hx, hb, hml, hown, hts⟩ (c_Jx4a65c_init_da8c8 l dC dI H.size e0 q5) (cwI 0 hts (goodIn_sub ((fun w h => List.mem_cons_of_mem _ (List.mem_append_right _ (List.mem_append_right _ (List.mem_append_left _ h))))) zgJx4a65c_init_da8c8) rfl rfl rfl (hts (.initialized RJx4a65c) (by decide +kernel)) (hts (.methodLink RX12 9 yJx4a65c_init_da8c8) (by decide +kernel)) (hts (.instanceMethod yJx4a65c_init_da8c8) (by decide +kernel)) rfl (by decide +kernel) ⟨Nat.le_of_ble_eq_true rfl, Nat.le_of_ble_eq_true rfl⟩) ⟨gPcD_blind, gPcD_pass hPc hKc hDc hE hZ hS hFc⟩ rfl rfl hl.1 rfl (lv_room (Nat.le_of_ble_eq_true rfl)) dX12_init_9 ⟨Nat.le_of_ble_eq_true rfl, Nat.le_of_ble_eq_true rfl⟩) hS (fun q _ h => hFc q h) hFc (fun u_3 t H locs ht hvm hw hB hz hk hS => ?_)
  obtain ⟨hP1, hK1, hD1⟩ := hB
  rw [ht] at hP1
  obtain ⟨hP, hD⟩ := va_join (wr := [(mo, .inr (15, [.int 0, .null, .null, .null, .null, .null, .int 0, .int 0]))]) (w1 := [(q5, .inr (2, [.int 0, .ref e0, .int 0]))]) hP hD [1] [0] rfl rfl (by decide) (by decide) hk hFc hP1 hD1
  have hP : va_P (dC, dI) vwCl [(mo, .inr (15, [.int 0, .null, .null, .null, .null, .null, .int 0, .int 0])), (q5, .inr (2, [.int 0, .ref e0, .int 0]))] H := hP
  have hD : va_D A [(mo, .inr (15, [.int 0, .null, .null, .null, .null, .null, .int 0, .int 0])), (q5, .inr (2, [.int 0, .ref e0, .int 0]))] := hD
  have w_4 : True := hw
  refine va_putF (D := (dC, dI)) (ci := 15) (v := .ref q5) (ty := .object "java/util/List") (C := RX12) (T := TX12) (N := 8) hx hb hts (fun w h => List.mem_cons_of_mem _ (List.mem_append_right _ (List.mem_append_right _ (List.mem_append_right _ (h))))) tyX12 tyX12_ok nmX12 hown hK hP hD hS 0 rfl rfl 1 (by decide) (hts (.fieldLink RX12 10 "SpotbeatModel" "parents" "Ljava/util/List;") (by decide +kernel)) (fun _ h9 => h9) rfl hin rfl (by decide +kernel) rfl rfl (Nat.le_of_ble_eq_true rfl) dX12_init_12 (fun H locs hP hD hS => ?_)
  have hP : va_P (dC, dI) vwCl [(mo, .inr (15, [.int 0, .ref q5, .null, .null, .null, .null, .int 0, .int 0])), (q5, .inr (2, [.int 0, .ref e0, .int 0]))] H := hP
  have hD : va_D A [(mo, .inr (15, [.int 0, .ref q5, .null, .null, .null, .null, .int 0, .int 0])), (q5, .inr (2, [.int 0, .ref e0, .int 0]))] := hD
  refine lv_aload_n hx hb dX12_init_15 rfl (lv_at hl 0 rfl) ?_
  refine va_new (ci := 2) (fs := [.int 0, .null, .int 0]) (C := RJx4a65c) (T := TJx4a65c) (N := 3) hx hb hts (fun w h => List.mem_cons_of_mem _ (List.mem_append_right _ (List.mem_append_left _ h))) tyJx4a65c tyJx4a65c_ok hown (hts (.classLink RX12 7 RJx4a65c) (by decide +kernel)) (hts (.instantiable RJx4a65c 3) (by decide +kernel)) (hts (.initialized RJx4a65c) (by decide +kernel)) hK hP hD hS hA rfl (fun j hj => by rcases (show j = 0 ∨ j = 1 ∨ j = 2 by omega) with rfl | rfl | rfl <;> rfl) (Nat.le_of_ble_eq_true rfl) (Nat.le_of_ble_eq_true rfl) dX12_init_16 (fun q16 H hP hD hS => ?_)
  have hP : va_P (dC, dI) vwCl [(mo, .inr (15, [.int 0, .ref q5, .null, .null, .null, .null, .int 0, .int 0])), (q5, .inr (2, [.int 0, .ref e0, .int 0])), (q16, .inr (2, [.int 0, .null, .int 0]))] H := hP
  have hD : va_D A [(mo, .inr (15, [.int 0, .ref q5, .null, .null, .null, .null, .int 0, .int 0])), (q5, .inr (2, [.int 0, .ref e0, .int 0])), (q16, .inr (2, [.int 0, .null, .int 0]))] := hD
  refine lv_dup hx hb dX12_init_19 rfl ?_
  have hPc := hP.sub (ws' := [(q16, .inr (2, [.int 0, .null, .int 0]))]) [2] rfl
  have hDc := hD.sub (ws' := [(q16, .inr (2, [.int 0, .null, .int 0]))]) [2] (by decide) rfl
  have hKc := hK.sub (tys' := []) [] rfl
  have hFc := va_free (wc := [(q16, .inr (2, [.int 0, .null, .int 0]))]) hD hS hA [2] rfl
  refine va_callv (va_runI (As := []) (rest := [.ref q16, .ref mo]) ⟨hx, hb, hml, hown, hts⟩ (c_Jx4a65c_init_da8c8 l dC dI H.size e0 q16) (cwI 0 hts (goodIn_sub ((fun w h => List.mem_cons_of_mem _ (List.mem_append_right _ (List.mem_append_right _ (List.mem_append_left _ h))))) zgJx4a65c_init_da8c8) rfl rfl rfl (hts (.initialized RJx4a65c) (by decide +kernel)) (hts (.methodLink RX12 9 yJx4a65c_init_da8c8) (by decide +kernel)) (hts (.instanceMethod yJx4a65c_init_da8c8) (by decide +kernel)) rfl (by decide +kernel) ⟨Nat.le_of_ble_eq_true rfl, Nat.le_of_ble_eq_true rfl⟩) ⟨gPcD_blind, gPcD_pass hPc hKc hDc hE hZ hS hFc⟩ rfl rfl hl.1 rfl (lv_room (Nat.le_of_ble_eq_true rfl)) dX12_init_20 ⟨Nat.le_of_ble_eq_true rfl, Nat.le_of_ble_eq_true rfl⟩) hS (fun q _ h => hFc q h) hFc (fun u_7 t H locs ht hvm hw hB hz hk hS => ?_)
  obtain ⟨hP1, hK1, hD1⟩ := hB
  rw [ht] at hP1
  obtain ⟨hP, hD⟩ := va_join (wr := [(mo, .inr (15, [.int 0, .ref q5, .null, .null, .null, .null, .int 0, .int 0])), (q5, .inr (2, [.int 0, .ref e0, .int 0]))]) (w1 := [(q16, .inr (2, [.int 0, .ref e0, .int 0]))]) hP hD [2] [0, 1] rfl rfl (by decide) (by decide) hk hFc hP1 hD1
  have hP : va_P (dC, dI) vwCl [(mo, .inr (15, [.int 0, .ref q5, .null, .null, .null, .null, .int 0, .int 0])), (q5, .inr (2, [.int 0, .ref e0, .int 0])), (q16, .inr (2, [.int 0, .ref e0, .int 0]))] H := hP
  have hD : va_D A [(mo, .inr (15, [.int 0, .ref q5, .null, .null, .null, .null, .int 0, .int 0])), (q5, .inr (2, [.int 0, .ref e0, .int 0])), (q16, .inr (2, [.int 0, .ref e0, .int 0]))] := hD
  have w_8 : True := hw
  refine va_putF (D := (dC, dI)) (ci := 15) (v := .ref q16) (ty := .object "java/util/List") (C := RX12) (T := TX12) (N := 8) hx hb hts (fun w h => List.mem_cons_of_mem _ (List.mem_append_right _ (List.mem_append_right _ (List.mem_append_right _ (h))))) tyX12 tyX12_ok nmX12 hown hK hP hD hS 0 rfl rfl 2 (by decide) (hts (.fieldLink RX12 16 "SpotbeatModel" "spots" "Ljava/util/List;") (by decide +kernel)) (fun _ h9 => h9) rfl hin rfl (by decide +kernel) rfl rfl (Nat.le_of_ble_eq_true rfl) dX12_init_23 (fun H locs hP hD hS => ?_)
  have hP : va_P (dC, dI) vwCl [(mo, .inr (15, [.int 0, .ref q5, .ref q16, .null, .null, .null, .int 0, .int 0])), (q5, .inr (2, [.int 0, .ref e0, .int 0])), (q16, .inr (2, [.int 0, .ref e0, .int 0]))] H := hP
  have hD : va_D A [(mo, .inr (15, [.int 0, .ref q5, .ref q16, .null, .null, .null, .int 0, .int 0])), (q5, .inr (2, [.int 0, .ref e0, .int 0])), (q16, .inr (2, [.int 0, .ref e0, .int 0]))] := hD
  refine lv_aload_n hx hb dX12_init_26 rfl (lv_at hl 0 rfl) ?_
  refine va_new (ci := 2) (fs := [.int 0, .null, .int 0]) (C := RJx4a65c) (T := TJx4a65c) (N := 3) hx hb hts (fun w h => List.mem_cons_of_mem _ (List.mem_append_right _ (List.mem_append_left _ h))) tyJx4a65c tyJx4a65c_ok hown (hts (.classLink RX12 7 RJx4a65c) (by decide +kernel)) (hts (.instantiable RJx4a65c 3) (by decide +kernel)) (hts (.initialized RJx4a65c) (by decide +kernel)) hK hP hD hS hA rfl (fun j hj => by rcases (show j = 0 ∨ j = 1 ∨ j = 2 by omega) with rfl | rfl | rfl <;> rfl) (Nat.le_of_ble_eq_true rfl) (Nat.le_of_ble_eq_true rfl) dX12_init_27 (fun q27 H hP hD hS => ?_)
  have hP : va_P (dC, dI) vwCl [(mo, .inr (15, [.int 0, .ref q5, .ref q16, .null, .null, .null, .int 0, .int 0])), (q5, .inr (2, [.int 0, .ref e0, .int 0])), (q16, .inr (2, [.int 0, .ref e0, .int 0])), (q27, .inr (2, [.int 0, .null, .int 0]))] H := hP
  have hD : va_D A [(mo, .inr (15, [.int 0, .ref q5, .ref q16, .null, .null, .null, .int 0, .int 0])), (q5, .inr (2, [.int 0, .ref e0, .int 0])), (q16, .inr (2, [.int 0, .ref e0, .int 0])), (q27, .inr (2, [.int 0, .null, .int 0]))] := hD
  refine lv_dup hx hb dX12_init_30 rfl ?_
  have hPc := hP.sub (ws' := [(q27, .inr (2, [.int 0, .null, .int 0]))]) [3] rfl
  have hDc := hD.sub (ws' := [(q27, .inr (2, [.int 0, .null, .int 0]))]) [3] (by decide) rfl
  have hKc := hK.sub (tys' := []) [] rfl
  have hFc := va_free (wc := [(q27, .inr (2, [.int 0, .null, .int 0]))]) hD hS hA [3] rfl
  refine va_callv (va_runI (As := []) (rest := [.ref q27, .ref mo]) ⟨hx, hb, hml, hown, hts⟩ (c_Jx4a65c_init_da8c8 l dC dI H.size e0 q27) (cwI 0 hts (goodIn_sub ((fun w h => List.mem_cons_of_mem _ (List.mem_append_right _ (List.mem_append_right _ (List.mem_append_left _ h))))) zgJx4a65c_init_da8c8) rfl rfl rfl (hts (.initialized RJx4a65c) (by decide +kernel)) (hts (.methodLink RX12 9 yJx4a65c_init_da8c8) (by decide +kernel)) (hts (.instanceMethod yJx4a65c_init_da8c8) (by decide +kernel)) rfl (by decide +kernel) ⟨Nat.le_of_ble_eq_true rfl, Nat.le_of_ble_eq_true rfl⟩) ⟨gPcD_blind, gPcD_pass hPc hKc hDc hE hZ hS hFc⟩ rfl rfl hl.1 rfl (lv_room (Nat.le_of_ble_eq_true rfl)) dX12_init_31 ⟨Nat.le_of_ble_eq_true rfl, Nat.le_of_ble_eq_true rfl⟩) hS (fun q _ h => hFc q h) hFc (fun u_11 t H locs ht hvm hw hB hz hk hS => ?_)
  obtain ⟨hP1, hK1, hD1⟩ := hB
  rw [ht] at hP1
  obtain ⟨hP, hD⟩ := va_join (wr := [(mo, .inr (15, [.int 0, .ref q5, .ref q16, .null, .null, .null, .int 0, .int 0])), (q5, .inr (2, [.int 0, .ref e0, .int 0])), (q16, .inr (2, [.int 0, .ref e0, .int 0]))]) (w1 := [(q27, .inr (2, [.int 0, .ref e0, .int 0]))]) hP hD [3] [0, 1, 2] rfl rfl (by decide) (by decide) hk hFc hP1 hD1
  have hP : va_P (dC, dI) vwCl [(mo, .inr (15, [.int 0, .ref q5, .ref q16, .null, .null, .null, .int 0, .int 0])), (q5, .inr (2, [.int 0, .ref e0, .int 0])), (q16, .inr (2, [.int 0, .ref e0, .int 0])), (q27, .inr (2, [.int 0, .ref e0, .int 0]))] H := hP
  have hD : va_D A [(mo, .inr (15, [.int 0, .ref q5, .ref q16, .null, .null, .null, .int 0, .int 0])), (q5, .inr (2, [.int 0, .ref e0, .int 0])), (q16, .inr (2, [.int 0, .ref e0, .int 0])), (q27, .inr (2, [.int 0, .ref e0, .int 0]))] := hD
  have w_12 : True := hw
  refine va_putF (D := (dC, dI)) (ci := 15) (v := .ref q27) (ty := .object "java/util/List") (C := RX12) (T := TX12) (N := 8) hx hb hts (fun w h => List.mem_cons_of_mem _ (List.mem_append_right _ (List.mem_append_right _ (List.mem_append_right _ (h))))) tyX12 tyX12_ok nmX12 hown hK hP hD hS 0 rfl rfl 3 (by decide) (hts (.fieldLink RX12 19 "SpotbeatModel" "stations" "Ljava/util/List;") (by decide +kernel)) (fun _ h9 => h9) rfl hin rfl (by decide +kernel) rfl rfl (Nat.le_of_ble_eq_true rfl) dX12_init_34 (fun H locs hP hD hS => ?_)
  have hP : va_P (dC, dI) vwCl [(mo, .inr (15, [.int 0, .ref q5, .ref q16, .ref q27, .null, .null, .int 0, .int 0])), (q5, .inr (2, [.int 0, .ref e0, .int 0])), (q16, .inr (2, [.int 0, .ref e0, .int 0])), (q27, .inr (2, [.int 0, .ref e0, .int 0]))] H := hP
  have hD : va_D A [(mo, .inr (15, [.int 0, .ref q5, .ref q16, .ref q27, .null, .null, .int 0, .int 0])), (q5, .inr (2, [.int 0, .ref e0, .int 0])), (q16, .inr (2, [.int 0, .ref e0, .int 0])), (q27, .inr (2, [.int 0, .ref e0, .int 0]))] := hD
  refine lv_aload_n hx hb dX12_init_37 rfl (lv_at hl 0 rfl) ?_
  refine va_new (ci := 2) (fs := [.int 0, .null, .int 0]) (C := RJx4a65c) (T := TJx4a65c) (N := 3) hx hb hts (fun w h => List.mem_cons_of_mem _ (List.mem_append_right _ (List.mem_append_left _ h))) tyJx4a65c tyJx4a65c_ok hown (hts (.classLink RX12 7 RJx4a65c) (by decide +kernel)) (hts (.instantiable RJx4a65c 3) (by decide +kernel)) (hts (.initialized RJx4a65c) (by decide +kernel)) hK hP hD hS hA rfl (fun j hj => by rcases (show j = 0 ∨ j = 1 ∨ j = 2 by omega) with rfl | rfl | rfl <;> rfl) (Nat.le_of_ble_eq_true rfl) (Nat.le_of_ble_eq_true rfl) dX12_init_38 (fun q38 H hP hD hS => ?_)
  have hP : va_P (dC, dI) vwCl [(mo, .inr (15, [.int 0, .ref q5, .ref q16, .ref q27, .null, .null, .int 0, .int 0])), (q5, .inr (2, [.int 0, .ref e0, .int 0])), (q16, .inr (2, [.int 0, .ref e0, .int 0])), (q27, .inr (2, [.int 0, .ref e0, .int 0])), (q38, .inr (2, [.int 0, .null, .int 0]))] H := hP
  have hD : va_D A [(mo, .inr (15, [.int 0, .ref q5, .ref q16, .ref q27, .null, .null, .int 0, .int 0])), (q5, .inr (2, [.int 0, .ref e0, .int 0])), (q16, .inr (2, [.int 0, .ref e0, .int 0])), (q27, .inr (2, [.int 0, .ref e0, .int 0])), (q38, .inr (2, [.int 0, .null, .int 0]))] := hD
  refine lv_dup hx hb dX12_init_41 rfl ?_
  have hPc := hP.sub (ws' := [(q38, .inr (2, [.int 0, .null, .int 0]))]) [4] rfl
  have hDc := hD.sub (ws' := [(q38, .inr (2, [.int 0, .null, .int 0]))]) [4] (by decide) rfl
  have hKc := hK.sub (tys' := []) [] rfl
  have hFc := va_free (wc := [(q38, .inr (2, [.int 0, .null, .int 0]))]) hD hS hA [4] rfl
  refine va_callv (va_runI (As := []) (rest := [.ref q38, .ref mo]) ⟨hx, hb, hml, hown, hts⟩ (c_Jx4a65c_init_da8c8 l dC dI H.size e0 q38) (cwI 0 hts (goodIn_sub ((fun w h => List.mem_cons_of_mem _ (List.mem_append_right _ (List.mem_append_right _ (List.mem_append_left _ h))))) zgJx4a65c_init_da8c8) rfl rfl rfl (hts (.initialized RJx4a65c) (by decide +kernel)) (hts (.methodLink RX12 9 yJx4a65c_init_da8c8) (by decide +kernel)) (hts (.instanceMethod yJx4a65c_init_da8c8) (by decide +kernel)) rfl (by decide +kernel) ⟨Nat.le_of_ble_eq_true rfl, Nat.le_of_ble_eq_true rfl⟩) ⟨gPcD_blind, gPcD_pass hPc hKc hDc hE hZ hS hFc⟩ rfl rfl hl.1 rfl (lv_room (Nat.le_of_ble_eq_true rfl)) dX12_init_42 ⟨Nat.le_of_ble_eq_true rfl, Nat.le_of_ble_eq_true rfl⟩) hS (fun q _ h => hFc q h) hFc (fun u_15 t H locs ht hvm hw hB hz hk hS => ?_)
  obtain ⟨hP1, hK1, hD1⟩ := hB
  rw [ht] at hP1
  obtain ⟨hP, hD⟩ := va_join (wr := [(mo, .inr (15, [.int 0, .ref q5, .ref q16, .ref q27, .null, .null, .int 0, .int 0])), (q5, .inr (2, [.int 0, .ref e0, .int 0])), (q16, .inr (2, [.int 0, .ref e0, .int 0])), (q27, .inr (2, [.int 0, .ref e0, .int 0]))]) (w1 := [(q38, .inr (2, [.int 0, .ref e0, .int 0]))]) hP hD [4] [0, 1, 2, 3] rfl rfl (by decide) (by decide) hk hFc hP1 hD1
  have hP : va_P (dC, dI) vwCl [(mo, .inr (15, [.int 0, .ref q5, .ref q16, .ref q27, .null, .null, .int 0, .int 0])), (q5, .inr (2, [.int 0, .ref e0, .int 0])), (q16, .inr (2, [.int 0, .ref e0, .int 0])), (q27, .inr (2, [.int 0, .ref e0, .int 0])), (q38, .inr (2, [.int 0, .ref e0, .int 0]))] H := hP
  have hD : va_D A [(mo, .inr (15, [.int 0, .ref q5, .ref q16, .ref q27, .null, .null, .int 0, .int 0])), (q5, .inr (2, [.int 0, .ref e0, .int 0])), (q16, .inr (2, [.int 0, .ref e0, .int 0])), (q27, .inr (2, [.int 0, .ref e0, .int 0])), (q38, .inr (2, [.int 0, .ref e0, .int 0]))] := hD
  have w_16 : True := hw
  refine va_putF (D := (dC, dI)) (ci := 15) (v := .ref q38) (ty := .object "java/util/List") (C := RX12) (T := TX12) (N := 8) hx hb hts (fun w h => List.mem_cons_of_mem _ (List.mem_append_right _ (List.mem_append_right _ (List.mem_append_right _ (h))))) tyX12 tyX12_ok nmX12 hown hK hP hD hS 0 rfl rfl 4 (by decide) (hts (.fieldLink RX12 22 "SpotbeatModel" "robots" "Ljava/util/List;") (by decide +kernel)) (fun _ h9 => h9) rfl hin rfl (by decide +kernel) rfl rfl (Nat.le_of_ble_eq_true rfl) dX12_init_45 (fun H locs hP hD hS => ?_)
  have hP : va_P (dC, dI) vwCl [(mo, .inr (15, [.int 0, .ref q5, .ref q16, .ref q27, .ref q38, .null, .int 0, .int 0])), (q5, .inr (2, [.int 0, .ref e0, .int 0])), (q16, .inr (2, [.int 0, .ref e0, .int 0])), (q27, .inr (2, [.int 0, .ref e0, .int 0])), (q38, .inr (2, [.int 0, .ref e0, .int 0]))] H := hP
  have hD : va_D A [(mo, .inr (15, [.int 0, .ref q5, .ref q16, .ref q27, .ref q38, .null, .int 0, .int 0])), (q5, .inr (2, [.int 0, .ref e0, .int 0])), (q16, .inr (2, [.int 0, .ref e0, .int 0])), (q27, .inr (2, [.int 0, .ref e0, .int 0])), (q38, .inr (2, [.int 0, .ref e0, .int 0]))] := hD
  refine lv_aload_n hx hb dX12_init_48 rfl (lv_at hl 0 rfl) ?_
  refine va_new (ci := 2) (fs := [.int 0, .null, .int 0]) (C := RJx4a65c) (T := TJx4a65c) (N := 3) hx hb hts (fun w h => List.mem_cons_of_mem _ (List.mem_append_right _ (List.mem_append_left _ h))) tyJx4a65c tyJx4a65c_ok hown (hts (.classLink RX12 7 RJx4a65c) (by decide +kernel)) (hts (.instantiable RJx4a65c 3) (by decide +kernel)) (hts (.initialized RJx4a65c) (by decide +kernel)) hK hP hD hS hA rfl (fun j hj => by rcases (show j = 0 ∨ j = 1 ∨ j = 2 by omega) with rfl | rfl | rfl <;> rfl) (Nat.le_of_ble_eq_true rfl) (Nat.le_of_ble_eq_true rfl) dX12_init_49 (fun q49 H hP hD hS => ?_)
  have hP : va_P (dC, dI) vwCl [(mo, .inr (15, [.int 0, .ref q5, .ref q16, .ref q27, .ref q38, .null, .int 0, .int 0])), (q5, .inr (2, [.int 0, .ref e0, .int 0])), (q16, .inr (2, [.int 0, .ref e0, .int 0])), (q27, .inr (2, [.int 0, .ref e0, .int 0])), (q38, .inr (2, [.int 0, .ref e0, .int 0])), (q49, .inr (2, [.int 0, .null, .int 0]))] H := hP
  have hD : va_D A [(mo, .inr (15, [.int 0, .ref q5, .ref q16, .ref q27, .ref q38, .null, .int 0, .int 0])), (q5, .inr (2, [.int 0, .ref e0, .int 0])), (q16, .inr (2, [.int 0, .ref e0, .int 0])), (q27, .inr (2, [.int 0, .ref e0, .int 0])), (q38, .inr (2, [.int 0, .ref e0, .int 0])), (q49, .inr (2, [.int 0, .null, .int 0]))] := hD
  refine lv_dup hx hb dX12_init_52 rfl ?_
  have hPc := hP.sub (ws' := [(q49, .inr (2, [.int 0, .null, .int 0]))]) [5] rfl
  have hDc := hD.sub (ws' := [(q49, .inr (2, [.int 0, .null, .int 0]))]) [5] (by decide) rfl
  have hKc := hK.sub (tys' := []) [] rfl
  have hFc := va_free (wc := [(q49, .inr (2, [.int 0, .null, .int 0]))]) hD hS hA [5] rfl
  refine va_callv (va_runI (As := []) (rest := [.ref q49, .ref mo]) ⟨hx, hb, hml, hown, hts⟩ (c_Jx4a65c_init_da8c8 l dC dI H.size e0 q49) (cwI 0 hts (goodIn_sub ((fun w h => List.mem_cons_of_mem _ (List.mem_append_right _ (List.mem_append_right _ (List.mem_append_left _ h))))) zgJx4a65c_init_da8c8) rfl rfl rfl (hts (.initialized RJx4a65c) (by decide +kernel)) (hts (.methodLink RX12 9 yJx4a65c_init_da8c8) (by decide +kernel)) (hts (.instanceMethod yJx4a65c_init_da8c8) (by decide +kernel)) rfl (by decide +kernel) ⟨Nat.le_of_ble_eq_true rfl, Nat.le_of_ble_eq_true rfl⟩) ⟨gPcD_blind, gPcD_pass hPc hKc hDc hE hZ hS hFc⟩ rfl rfl hl.1 rfl (lv_room (Nat.le_of_ble_eq_true rfl)) dX12_init_53 ⟨Nat.le_of_ble_eq_true rfl, Nat.le_of_ble_eq_true rfl⟩) hS (fun q _ h => hFc q h) hFc (fun u_19 t H locs ht hvm hw hB hz hk hS => ?_)
  obtain ⟨hP1, hK1, hD1⟩ := hB
  rw [ht] at hP1
  obtain ⟨hP, hD⟩ := va_join (wr := [(mo, .inr (15, [.int 0, .ref q5, .ref q16, .ref q27, .ref q38, .null, .int 0, .int 0])), (q5, .inr (2, [.int 0, .ref e0, .int 0])), (q16, .inr (2, [.int 0, .ref e0, .int 0])), (q27, .inr (2, [.int 0, .ref e0, .int 0])), (q38, .inr (2, [.int 0, .ref e0, .int 0]))]) (w1 := [(q49, .inr (2, [.int 0, .ref e0, .int 0]))]) hP hD [5] [0, 1, 2, 3, 4] rfl rfl (by decide) (by decide) hk hFc hP1 hD1
  have hP : va_P (dC, dI) vwCl [(mo, .inr (15, [.int 0, .ref q5, .ref q16, .ref q27, .ref q38, .null, .int 0, .int 0])), (q5, .inr (2, [.int 0, .ref e0, .int 0])), (q16, .inr (2, [.int 0, .ref e0, .int 0])), (q27, .inr (2, [.int 0, .ref e0, .int 0])), (q38, .inr (2, [.int 0, .ref e0, .int 0])), (q49, .inr (2, [.int 0, .ref e0, .int 0]))] H := hP
  have hD : va_D A [(mo, .inr (15, [.int 0, .ref q5, .ref q16, .ref q27, .ref q38, .null, .int 0, .int 0])), (q5, .inr (2, [.int 0, .ref e0, .int 0])), (q16, .inr (2, [.int 0, .ref e0, .int 0])), (q27, .inr (2, [.int 0, .ref e0, .int 0])), (q38, .inr (2, [.int 0, .ref e0, .int 0])), (q49, .inr (2, [.int 0, .ref e0, .int 0]))] := hD
  have w_20 : True := hw
  refine va_putF (D := (dC, dI)) (ci := 15) (v := .ref q49) (ty := .object "java/util/List") (C := RX12) (T := TX12) (N := 8) hx hb hts (fun w h => List.mem_cons_of_mem _ (List.mem_append_right _ (List.mem_append_right _ (List.mem_append_right _ (h))))) tyX12 tyX12_ok nmX12 hown hK hP hD hS 0 rfl rfl 5 (by decide) (hts (.fieldLink RX12 25 "SpotbeatModel" "bodies" "Ljava/util/List;") (by decide +kernel)) (fun _ h9 => h9) rfl hin rfl (by decide +kernel) rfl rfl (Nat.le_of_ble_eq_true rfl) dX12_init_56 (fun H locs hP hD hS => ?_)
  have hP : va_P (dC, dI) vwCl [(mo, .inr (15, [.int 0, .ref q5, .ref q16, .ref q27, .ref q38, .ref q49, .int 0, .int 0])), (q5, .inr (2, [.int 0, .ref e0, .int 0])), (q16, .inr (2, [.int 0, .ref e0, .int 0])), (q27, .inr (2, [.int 0, .ref e0, .int 0])), (q38, .inr (2, [.int 0, .ref e0, .int 0])), (q49, .inr (2, [.int 0, .ref e0, .int 0]))] H := hP
  have hD : va_D A [(mo, .inr (15, [.int 0, .ref q5, .ref q16, .ref q27, .ref q38, .ref q49, .int 0, .int 0])), (q5, .inr (2, [.int 0, .ref e0, .int 0])), (q16, .inr (2, [.int 0, .ref e0, .int 0])), (q27, .inr (2, [.int 0, .ref e0, .int 0])), (q38, .inr (2, [.int 0, .ref e0, .int 0])), (q49, .inr (2, [.int 0, .ref e0, .int 0]))] := hD
  have hP9 := hP.sub (ws' := [(mo, .inr (15, [.int 0, .ref q5, .ref q16, .ref q27, .ref q38, .ref q49, .int 0, .int 0])), (q5, .inr (2, [.int 0, .ref e0, .int 0])), (q16, .inr (2, [.int 0, .ref e0, .int 0])), (q27, .inr (2, [.int 0, .ref e0, .int 0])), (q38, .inr (2, [.int 0, .ref e0, .int 0])), (q49, .inr (2, [.int 0, .ref e0, .int 0]))]) [0, 1, 2, 3, 4, 5] rfl
  have hD9 := hD.sub (ws' := [(mo, .inr (15, [.int 0, .ref q5, .ref q16, .ref q27, .ref q38, .ref q49, .int 0, .int 0])), (q5, .inr (2, [.int 0, .ref e0, .int 0])), (q16, .inr (2, [.int 0, .ref e0, .int 0])), (q27, .inr (2, [.int 0, .ref e0, .int 0])), (q38, .inr (2, [.int 0, .ref e0, .int 0])), (q49, .inr (2, [.int 0, .ref e0, .int 0]))]) [0, 1, 2, 3, 4, 5] (by decide) rfl
  have hK9 := hK.sub (tys' := []) [] rfl
  refine W.widen (k := 5) (n := 15) (Nat.le_of_ble_eq_true rfl) (Nat.le_of_ble_eq_true rfl) ?_
  exact W.vret hx hb hr (fun t ht hW => ⟨⟨(fun k => [q5, q16, q27, q38, q49].getD k 0), rfl, trivial, by rw [ht]; exact hP9, va_K.moved hW.alike hK9, hD9⟩, hS.F ht⟩) hS.2.2 dX12_init_59
end ZMod2
