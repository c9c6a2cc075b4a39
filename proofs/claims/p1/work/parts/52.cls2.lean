section ZCls2
def zwX6_init : List Cond := .code yX6_init cX6_init 1 none :: (([.methodLink RX6 3 objectInit, .instanceMethod objectInit, .code objectInit ⟨#[0xb1]⟩ 1 none, .arrayClass .int, .fieldLink RX6 9 "Spotbeat$Track" "zones" "[I", .fieldLink RX6 15 "Spotbeat$Track" "claims" "[I", .arrayClass .long, .fieldLink RX6 18 "Spotbeat$Track" "lowCells" "[J", .fieldLink RX6 22 "Spotbeat$Track" "highCells" "[J"] : List Cond) ++ (wsX60))
theorem zgX6_init : zwX6_init.all goodWord = true := zgo rfl (zga (by decide +kernel) (zgcX6))
set_option maxHeartbeats 4000000 in
set_option maxRecDepth 100000 in
/-- Track(): it is there -/
theorem c_X6_init (l : Launch) (dC : Nat → ClassId) (dI : Nat → Nat → Nat) (sz : Nat) (tb : Nat) : Met l yX6_init zwX6_init ({ frames := 1, cells := 4, slots := 52, locals := 12 }) (gPc dC dI sz [(tb, .inr (9, [.null, .null, .null, .null, .int 0, .int 0]))] [] [.ref tb]) (va_Qv (fun (u : List Value) => True) (fun u t => va_P (dC, dI) vwCl [(tb, .inr (9, u))] t.heap ∧ va_K (dC, dI) vwCl [] t ∧ va_D (va_A [(tb, .inr (9, [.null, .null, .null, .null, .int 0, .int 0]))] sz) [(tb, .inr (9, u))]) (va_A [(tb, .inr (9, [.null, .null, .null, .null, .int 0, .int 0]))] sz)) 4 52 (va_A [(tb, .inr (9, [.null, .null, .null, .null, .int 0, .int 0]))] sz) := by
  refine Met.ofW (cc := cX6_init) (maxL := 1) (ret := none) (by decide) rfl ?_
  intro p e s m args below meth c s₁ B hml hv
  obtain ⟨rfl, hsz, hP, hK, hD0⟩ := hv
  have hx := B.exec
  have hb := B.bytes
  have hr := B.returns
  have hts := atoms_spec (ws := zwX6_init) B.pre
  have hown : s.vm.findClass RX6 = some m.cls := findClass_of_methodNamed B.named
  have hlocks := B.notSynchronized
  have hin : meth.name = "<init>" := (name_of_methodNamed B.named B.method).1
  subst hsz
  have hD := hD0.self (sz := s.heap.size)
  generalize hAe : va_A [(tb, .inr (9, [.null, .null, .null, .null, .int 0, .int 0]))] s.heap.size = A at hD ⊢
  have hA : ∀ q : Nat, s.heap.size ≤ q → A q := fun q h => by rw [← hAe]; exact Or.inr h
  have hS : va_S A s.heap s.heap [] := va_S.rf
  have hP : va_P (dC, dI) vwCl [(tb, .inr (9, [.null, .null, .null, .null, .int 0, .int 0]))] s.heap := hP
  have hl := lv_entry ([.ref tb]) (n := 1) (Nat.le_of_ble_eq_true rfl)
  rw [lg_entry_eq]
  generalize (lg_sl ([.ref tb]) ++ List.replicate (1 - (lg_sl ([.ref tb])).length) Slot.unset).toArray = ls at hl ⊢
  have hl : lv_has ls 1 [(0, .ref tb)] := hl
  refine lv_aload_n hx hb dX6_init_0 rfl (lv_at hl 0 rfl) ?_
  refine W.objInit hx hb hown (hts (.methodLink RX6 3 objectInit) (by decide +kernel)) (hts (.instanceMethod objectInit) (by decide +kernel)) (hts (.code objectInit ⟨#[0xb1]⟩ 1 none) (by decide +kernel)) rfl (by rw [hml]; exact hl.1) rfl dX6_init_1 (Nat.le_of_ble_eq_true rfl) (Nat.le_of_ble_eq_true rfl) ?_
  refine W.eq (g2 := F0 m 4 ls []) rfl ?_
  refine lv_aload_n hx hb dX6_init_4 rfl (lv_at hl 0 rfl) ?_
  refine lv_bipush (v := 13) hx hb dX6_init_5 (by decide) ?_
  refine va_newa (atype := .int) (N' := 13) (a0 := (13, .inl (fun _ => 0))) hx hb (hts (.arrayClass .int) (by decide +kernel)) rfl hK hP hD hS hA (fun _ => rfl) (by decide) (by decide +kernel) (by decide) (Nat.le_of_ble_eq_true rfl) (Nat.le_of_ble_eq_true rfl) dX6_init_7 (fun q7 k7 H hK hP hD hS => ?_)
  have hK : va_K (dC, dI) vwCl [(k7, .int)] s := hK
  have hP : va_P (dC, dI) vwCl [(tb, .inr (9, [.null, .null, .null, .null, .int 0, .int 0])), (q7, .inl (k7, 13, .inl (fun _ => 0)))] H := hP
  have hD : va_D A [(tb, .inr (9, [.null, .null, .null, .null, .int 0, .int 0])), (q7, .inl (k7, 13, .inl (fun _ => 0)))] := hD
  refine va_putF (D := (dC, dI)) (ci := 9) (v := .ref q7) (ty := .array .int) (C := RX6) (T := TX6) (N := 6) hx hb hts (fun w h => List.mem_cons_of_mem _ (List.mem_append_right _ (h))) tyX6 tyX6_ok nmX6 hown hK hP hD hS 0 rfl rfl 0 (by decide) (hts (.fieldLink RX6 9 "Spotbeat$Track" "zones" "[I") (by decide +kernel)) (fun _ h9 => h9) rfl hin rfl (by decide +kernel) rfl rfl (Nat.le_of_ble_eq_true rfl) dX6_init_9 (fun H locs hP hD hS => ?_)
  have hP : va_P (dC, dI) vwCl [(tb, .inr (9, [.ref q7, .null, .null, .null, .int 0, .int 0])), (q7, .inl (k7, 13, .inl (fun _ => 0)))] H := hP
  have hD : va_D A [(tb, .inr (9, [.ref q7, .null, .null, .null, .int 0, .int 0])), (q7, .inl (k7, 13, .inl (fun _ => 0)))] := hD
  refine lv_aload_n hx hb dX6_init_12 rfl (lv_at hl 0 rfl) ?_
  refine lv_bipush (v := 13) hx hb dX6_init_13 (by decide) ?_
  refine va_newa (atype := .int) (N' := 13) (a0 := (13, .inl (fun _ => 0))) hx hb (hts (.arrayClass .int) (by decide +kernel)) rfl hK hP hD hS hA (fun _ => rfl) (by decide) (by decide +kernel) (by decide) (Nat.le_of_ble_eq_true rfl) (Nat.le_of_ble_eq_true rfl) dX6_init_15 (fun q15 k15 H hK hP hD hS => ?_)
  have hK : va_K (dC, dI) vwCl [(k7, .int), (k15, .int)] s := hK
  have hP : va_P (dC, dI) vwCl [(tb, .inr (9, [.ref q7, .null, .null, .null, .int 0, .int 0])), (q7, .inl (k7, 13, .inl (fun _ => 0))), (q15, .inl (k15, 13, .inl (fun _ => 0)))] H := hP
  have hD : va_D A [(tb, .inr (9, [.ref q7, .null, .null, .null, .int 0, .int 0])), (q7, .inl (k7, 13, .inl (fun _ => 0))), (q15, .inl (k15, 13, .inl (fun _ => 0)))] := hD
  refine va_putF (D := (dC, dI)) (ci := 9) (v := .ref q15) (ty := .array .int) (C := RX6) (T := TX6) (N := 6) hx hb hts (fun w h => List.mem_cons_of_mem _ (List.mem_append_right _ (h))) tyX6 tyX6_ok nmX6 hown hK hP hD hS 0 rfl rfl 1 (by decide) (hts (.fieldLink RX6 15 "Spotbeat$Track" "claims" "[I") (by decide +kernel)) (fun _ h9 => h9) rfl hin rfl (by decide +kernel) rfl rfl (Nat.le_of_ble_eq_true rfl) dX6_init_17 (fun H locs hP hD hS => ?_)
  have hP : va_P (dC, dI) vwCl [(tb, .inr (9, [.ref q7, .ref q15, .null, .null, .int 0, .int 0])), (q7, .inl (k7, 13, .inl (fun _ => 0))), (q15, .inl (k15, 13, .inl (fun _ => 0)))] H := hP
  have hD : va_D A [(tb, .inr (9, [.ref q7, .ref q15, .null, .null, .int 0, .int 0])), (q7, .inl (k7, 13, .inl (fun _ => 0))), (q15, .inl (k15, 13, .inl (fun _ => 0)))] := hD
  refine lv_aload_n hx hb dX6_init_20 rfl (lv_at hl 0 rfl) ?_
  refine lv_bipush (v := 13) hx hb dX6_init_21 (by decide) ?_
  refine va_newa (atype := .long) (N' := 13) (a0 := (13, .inr (.inl (fun _ => 0)))) hx hb (hts (.arrayClass .long) (by decide +kernel)) rfl hK hP hD hS hA (fun _ => rfl) (by decide) (by decide +kernel) (by decide) (Nat.le_of_ble_eq_true rfl) (Nat.le_of_ble_eq_true rfl) dX6_init_23 (fun q23 k23 H hK hP hD hS => ?_)
  have hK : va_K (dC, dI) vwCl [(k7, .int), (k15, .int), (k23, .long)] s := hK
  have hP : va_P (dC, dI) vwCl [(tb, .inr (9, [.ref q7, .ref q15, .null, .null, .int 0, .int 0])), (q7, .inl (k7, 13, .inl (fun _ => 0))), (q15, .inl (k15, 13, .inl (fun _ => 0))), (q23, .inl (k23, 13, .inr (.inl (fun _ => 0))))] H := hP
  have hD : va_D A [(tb, .inr (9, [.ref q7, .ref q15, .null, .null, .int 0, .int 0])), (q7, .inl (k7, 13, .inl (fun _ => 0))), (q15, .inl (k15, 13, .inl (fun _ => 0))), (q23, .inl (k23, 13, .inr (.inl (fun _ => 0))))] := hD
  refine va_putF (D := (dC, dI)) (ci := 9) (v := .ref q23) (ty := .array .long) (C := RX6) (T := TX6) (N := 6) hx hb hts (fun w h => List.mem_cons_of_mem _ (List.mem_append_right _ (h))) tyX6 tyX6_ok nmX6 hown hK hP hD hS 0 rfl rfl 2 (by decide) (hts (.fieldLink RX6 18 "Spotbeat$Track" "lowCells" "[J") (by decide +kernel)) (fun _ h9 => h9) rfl hin rfl (by decide +kernel) rfl rfl (Nat.le_of_ble_eq_true rfl) dX6_init_25 (fun H locs hP hD hS => ?_)
  have hP : va_P (dC, dI) vwCl [(tb, .inr (9, [.ref q7, .ref q15, .ref q23, .null, .int 0, .int 0])), (q7, .inl (k7, 13, .inl (fun _ => 0))), (q15, .inl (k15, 13, .inl (fun _ => 0))), (q23, .inl (k23, 13, .inr (.inl (fun _ => 0))))] H := hP
  have hD : va_D A [(tb, .inr (9, [.ref q7, .ref q15, .ref q23, .null, .int 0, .int 0])), (q7, .inl (k7, 13, .inl (fun _ => 0))), (q15, .inl (k15, 13, .inl (fun _ => 0))), (q23, .inl (k23, 13, .inr (.inl (fun _ => 0))))] := hD
  refine lv_aload_n hx hb dX6_init_28 rfl (lv_at hl 0 rfl) ?_
  refine lv_bipush (v := 13) hx hb dX6_init_29 (by decide) ?_
  refine va_newa (atype := .long) (N' := 13) (a0 := (13, .inr (.inl (fun _ => 0)))) hx hb (hts (.arrayClass .long) (by decide +kernel)) rfl hK hP hD hS hA (fun _ => rfl) (by decide) (by decide +kernel) (by decide) (Nat.le_of_ble_eq_true rfl) (Nat.le_of_ble_eq_true rfl) dX6_init_31 (fun q31 k31 H hK hP hD hS => ?_)
  have hK : va_K (dC, dI) vwCl [(k7, .int), (k15, .int), (k23, .long), (k31, .long)] s := hK
  have hP : va_P (dC, dI) vwCl [(tb, .inr (9, [.ref q7, .ref q15, .ref q23, .null, .int 0, .int 0])), (q7, .inl (k7, 13, .inl (fun _ => 0))), (q15, .inl (k15, 13, .inl (fun _ => 0))), (q23, .inl (k23, 13, .inr (.inl (fun _ => 0)))), (q31, .inl (k31, 13, .inr (.inl (fun _ => 0))))] H := hP
  have hD : va_D A [(tb, .inr (9, [.ref q7, .ref q15, .ref q23, .null, .int 0, .int 0])), (q7, .inl (k7, 13, .inl (fun _ => 0))), (q15, .inl (k15, 13, .inl (fun _ => 0))), (q23, .inl (k23, 13, .inr (.inl (fun _ => 0)))), (q31, .inl (k31, 13, .inr (.inl (fun _ => 0))))] := hD
  refine va_putF (D := (dC, dI)) (ci := 9) (v := .ref q31) (ty := .array .long) (C := RX6) (T := TX6) (N := 6) hx hb hts (fun w h => List.mem_cons_of_mem _ (List.mem_append_right _ (h))) tyX6 tyX6_ok nmX6 hown hK hP hD hS 0 rfl rfl 3 (by decide) (hts (.fieldLink RX6 22 "Spotbeat$Track" "highCells" "[J") (by decide +kernel)) (fun _ h9 => h9) rfl hin rfl (by decide +kernel) rfl rfl (Nat.le_of_ble_eq_true rfl) dX6_init_33 (fun H locs hP hD hS => ?_)
  have hP : va_P (dC, dI) vwCl [(tb, .inr (9, [.ref q7, .ref q15, .ref q23, .ref q31, .int 0, .int 0])), (q7, .inl (k7, 13, .inl (fun _ => 0))), (q15, .inl (k15, 13, .inl (fun _ => 0))), (q23, .inl (k23, 13, .inr (.inl (fun _ => 0)))), (q31, .inl (k31, 13, .inr (.inl (fun _ => 0))))] H := hP
  have hD : va_D A [(tb, .inr (9, [.ref q7, .ref q15, .ref q23, .ref q31, .int 0, .int 0])), (q7, .inl (k7, 13, .inl (fun _ => 0))), (q15, .inl (k15, 13, .inl (fun _ => 0))), (q23, .inl (k23, 13, .inr (.inl (fun _ => 0)))), (q31, .inl (k31, 13, .inr (.inl (fun _ => 0))))] := hD
  have hP9 := hP.sub (ws' := [(tb, .inr (9, [.ref q7, .ref q15, .ref q23, .ref q31, .int 0, .int 0]))]) [0] rfl
  have hD9 := hD.sub (ws' := [(tb, .inr (9, [.ref q7, .ref q15, .ref q23, .ref q31, .int 0, .int 0]))]) [0] (by decide) rfl
  have hK9 := hK.sub (tys' := []) [] rfl
  refine W.widen (k := 4) (n := 52) (Nat.le_of_ble_eq_true rfl) (Nat.le_of_ble_eq_true rfl) ?_
  exact W.vret hx hb hr (fun t ht hW => ⟨⟨[.ref q7, .ref q15, .ref q23, .ref q31, .int 0, .int 0], rfl, trivial, by rw [ht]; exact hP9, va_K.moved hW.alike hK9, hD9⟩, hS.F ht⟩) hS.2.2 dX6_init_36

def zwX5_init : List Cond := .code yX5_init cX5_init 3 none :: (([.methodLink RX5 3 objectInit, .instanceMethod objectInit, .code objectInit ⟨#[0xb1]⟩ 1 none, .fieldLink RX5 9 "Spotbeat$Station" "number" "I", .fieldLink RX5 15 "Spotbeat$Station" "firstBeat" "I", .classLink RX5 18 RX3, .fieldLink RX5 20 "Spotbeat$Station" "crew" "[LSpotbeat$Robot;"] : List Cond) ++ (wsX50))
theorem zgX5_init : zwX5_init.all goodWord = true := zgo rfl (zga (by decide +kernel) (zgcX5))
set_option maxHeartbeats 4000000 in
set_option maxRecDepth 100000 in
/-- Station(a, b): it is there -/
theorem c_X5_init (l : Launch) (dC : Nat → ClassId) (dI : Nat → Nat → Nat) (sz : Nat) (tb : Nat) (a : Int32) (b : Int32) : Met l yX5_init zwX5_init ({ frames := 1, cells := 1, slots := 3, locals := 12 }) (gPcE dC dI sz [(tb, .inr (8, [.int 0, .int 0, .null, .int 0, .null, .int 0, .int 0, .int 0, .int 0, .int 0, .int 0, .int 0]))] [] [.ref tb, .int a, .int b]) (va_Qv (fun (u : List Value) => True) (fun u t => va_P (dC, dI) vwCl [(tb, .inr (8, u))] t.heap ∧ va_K (dC, dI) vwCl [] t ∧ va_D (va_A [(tb, .inr (8, [.int 0, .int 0, .null, .int 0, .null, .int 0, .int 0, .int 0, .int 0, .int 0, .int 0, .int 0]))] sz) [(tb, .inr (8, u))]) (va_A [(tb, .inr (8, [.int 0, .int 0, .null, .int 0, .null, .int 0, .int 0, .int 0, .int 0, .int 0, .int 0, .int 0]))] sz)) 1 3 (va_A [(tb, .inr (8, [.int 0, .int 0, .null, .int 0, .null, .int 0, .int 0, .int 0, .int 0, .int 0, .int 0, .int 0]))] sz) := by
  refine Met.ofW (cc := cX5_init) (maxL := 3) (ret := none) (by decide) rfl ?_
  intro p e s m args below meth c s₁ B hml hv
  obtain ⟨rfl, hsz, hP, hK, hD0, hE⟩ := hv
  have hx := B.exec
  have hb := B.bytes
  have hr := B.returns
  have hts := atoms_spec (ws := zwX5_init) B.pre
  have hown : s.vm.findClass RX5 = some m.cls := findClass_of_methodNamed B.named
  have hlocks := B.notSynchronized
  have hin : meth.name = "<init>" := (name_of_methodNamed B.named B.method).1
  subst hsz
  have hD := hD0.self (sz := s.heap.size)
  generalize hAe : va_A [(tb, .inr (8, [.int 0, .int 0, .null, .int 0, .null, .int 0, .int 0, .int 0, .int 0, .int 0, .int 0, .int 0]))] s.heap.size = A at hD hE ⊢
  have hA : ∀ q : Nat, s.heap.size ≤ q → A q := fun q h => by rw [← hAe]; exact Or.inr h
  have hS : va_S A s.heap s.heap [] := va_S.rf
  have hP : va_P (dC, dI) vwCl [(tb, .inr (8, [.int 0, .int 0, .null, .int 0, .null, .int 0, .int 0, .int 0, .int 0, .int 0, .int 0, .int 0]))] s.heap := hP
  have hl := lv_entry ([.ref tb, .int a, .int b]) (n := 3) (Nat.le_of_ble_eq_true rfl)
  rw [lg_entry_eq]
  generalize (lg_sl ([.ref tb, .int a, .int b]) ++ List.replicate (3 - (lg_sl ([.ref tb, .int a, .int b])).length) Slot.unset).toArray = ls at hl ⊢
  have hl : lv_has ls 3 [(0, .ref tb), (1, .int a), (2, .int b)] := hl
  refine lv_aload_n hx hb dX5_init_0 rfl (lv_at hl 0 rfl) ?_
  refine W.objInit hx hb hown (hts (.methodLink RX5 3 objectInit) (by decide +kernel)) (hts (.instanceMethod objectInit) (by decide +kernel)) (hts (.code objectInit ⟨#[0xb1]⟩ 1 none) (by decide +kernel)) rfl (by rw [hml]; exact hl.1) rfl dX5_init_1 (Nat.le_of_ble_eq_true rfl) (Nat.le_of_ble_eq_true rfl) ?_
  refine W.eq (g2 := F0 m 4 ls []) rfl ?_
  refine lv_aload_n hx hb dX5_init_4 rfl (lv_at hl 0 rfl) ?_
  refine lv_iload_n hx hb dX5_init_5 rfl (lv_at hl 1 rfl) ?_
  refine va_putF (D := (dC, dI)) (ci := 8) (v := .int a) (ty := .int) (C := RX5) (T := TX5) (N := 12) hx hb hts (fun w h => List.mem_cons_of_mem _ (List.mem_append_right _ (h))) tyX5 tyX5_ok nmX5 hown hK hP hD hS 0 rfl rfl 0 (by decide) (hts (.fieldLink RX5 9 "Spotbeat$Station" "number" "I") (by decide +kernel)) (fun _ h9 => h9) rfl hin rfl (by decide +kernel) rfl rfl (Nat.le_of_ble_eq_true rfl) dX5_init_6 (fun H locs hP hD hS => ?_)
  have hP : va_P (dC, dI) vwCl [(tb, .inr (8, [.int a, .int 0, .null, .int 0, .null, .int 0, .int 0, .int 0, .int 0, .int 0, .int 0, .int 0]))] H := hP
  have hD : va_D A [(tb, .inr (8, [.int a, .int 0, .null, .int 0, .null, .int 0, .int 0, .int 0, .int 0, .int 0, .int 0, .int 0]))] := hD
  refine lv_aload_n hx hb dX5_init_9 rfl (lv_at hl 0 rfl) ?_
  refine lv_iload_n hx hb dX5_init_10 rfl (lv_at hl 2 rfl) ?_
  refine va_putF (D := (dC, dI)) (ci := 8) (v := .int b) (ty := .int) (C := RX5) (T := TX5) (N := 12) hx hb hts (fun w h => List.mem_cons_of_mem _ (List.mem_append_right _ (h))) tyX5 tyX5_ok nmX5 hown hK hP hD hS 0 rfl rfl 1 (by decide) (hts (.fieldLink RX5 15 "Spotbeat$Station" "firstBeat" "I") (by decide +kernel)) (fun _ h9 => h9) rfl hin rfl (by decide +kernel) rfl rfl (Nat.le_of_ble_eq_true rfl) dX5_init_11 (fun H locs hP hD hS => ?_)
  have hP : va_P (dC, dI) vwCl [(tb, .inr (8, [.int a, .int b, .null, .int 0, .null, .int 0, .int 0, .int 0, .int 0, .int 0, .int 0, .int 0]))] H := hP
  have hD : va_D A [(tb, .inr (8, [.int a, .int b, .null, .int 0, .null, .int 0, .int 0, .int 0, .int 0, .int 0, .int 0, .int 0]))] := hD
  refine lv_aload_n hx hb dX5_init_14 rfl (lv_at hl 0 rfl) ?_
  refine lv_iconst (v := 3) hx hb dX5_init_15 (by decide) ?_
  refine va_newq (N' := 3) hx hb hown (hts (.classLink RX5 18 RX3) (by decide +kernel)) (hE.2.2.2.2.2.1 _ (by decide)) hK hP hD hS hA (by decide) (by decide +kernel) (by decide) (Nat.le_of_ble_eq_true rfl) (Nat.le_of_ble_eq_true rfl) dX5_init_16 (fun q16 k16 H hK hP hD hS => ?_)
  have hK : va_K (dC, dI) vwCl [(k16, .object RX3)] s := hK
  have hP : va_P (dC, dI) vwCl [(tb, .inr (8, [.int a, .int b, .null, .int 0, .null, .int 0, .int 0, .int 0, .int 0, .int 0, .int 0, .int 0])), (q16, .inl (k16, 3, .inr (.inr (.inr (.inr (fun _ => none))))))] H := hP
  have hD : va_D A [(tb, .inr (8, [.int a, .int b, .null, .int 0, .null, .int 0, .int 0, .int 0, .int 0, .int 0, .int 0, .int 0])), (q16, .inl (k16, 3, .inr (.inr (.inr (.inr (fun _ => none))))))] := hD
  refine va_putF (D := (dC, dI)) (ci := 8) (v := .ref q16) (ty := .array (.object "Spotbeat$Robot")) (C := RX5) (T := TX5) (N := 12) hx hb hts (fun w h => List.mem_cons_of_mem _ (List.mem_append_right _ (h))) tyX5 tyX5_ok nmX5 hown hK hP hD hS 0 rfl rfl 2 (by decide) (hts (.fieldLink RX5 20 "Spotbeat$Station" "crew" "[LSpotbeat$Robot;") (by decide +kernel)) (fun _ h9 => h9) rfl hin rfl (by decide +kernel) rfl rfl (Nat.le_of_ble_eq_true rfl) dX5_init_19 (fun H locs hP hD hS => ?_)
  have hP : va_P (dC, dI) vwCl [(tb, .inr (8, [.int a, .int b, .ref q16, .int 0, .null, .int 0, .int 0, .int 0, .int 0, .int 0, .int 0, .int 0])), (q16, .inl (k16, 3, .inr (.inr (.inr (.inr (fun _ => none))))))] H := hP
  have hD : va_D A [(tb, .inr (8, [.int a, .int b, .ref q16, .int 0, .null, .int 0, .int 0, .int 0, .int 0, .int 0, .int 0, .int 0])), (q16, .inl (k16, 3, .inr (.inr (.inr (.inr (fun _ => none))))))] := hD
  have hP9 := hP.sub (ws' := [(tb, .inr (8, [.int a, .int b, .ref q16, .int 0, .null, .int 0, .int 0, .int 0, .int 0, .int 0, .int 0, .int 0]))]) [0] rfl
  have hD9 := hD.sub (ws' := [(tb, .inr (8, [.int a, .int b, .ref q16, .int 0, .null, .int 0, .int 0, .int 0, .int 0, .int 0, .int 0, .int 0]))]) [0] (by decide) rfl
  have hK9 := hK.sub (tys' := []) [] rfl
  refine W.widen (k := 1) (n := 3) (Nat.le_of_ble_eq_true rfl) (Nat.le_of_ble_eq_true rfl) ?_
  exact W.vret hx hb hr (fun t ht hW => ⟨⟨[.int a, .int b, .ref q16, .int 0, .null, .int 0, .int 0, .int 0, .int 0, .int 0, .int 0, .int 0], rfl, trivial, by rw [ht]; exact hP9, va_K.moved hW.alike hK9, hD9⟩, hS.F ht⟩) hS.2.2 dX5_init_22

def zwX0_init : List Cond := .code yX0_init cX0_init 4 none :: (([.methodLink RX0 3 objectInit, .instanceMethod objectInit, .code objectInit ⟨#[0xb1]⟩ 1 none, .fieldLink RX0 9 "Spotbeat$Body" "number" "I", .fieldLink RX0 15 "Spotbeat$Body" "variant" "I", .fieldLink RX0 18 "Spotbeat$Body" "where" "I", .arrayClass .int, .fieldLink RX0 21 "Spotbeat$Body" "makers" "[I"] : List Cond) ++ (wsX00))
theorem zgX0_init : zwX0_init.all goodWord = true := zgo rfl (zga (by decide +kernel) (zgcX0))
set_option maxHeartbeats 4000000 in
set_option maxRecDepth 100000 in
/-- Body(a, b): it is there -/
theorem c_X0_init (l : Launch) (dC : Nat → ClassId) (dI : Nat → Nat → Nat) (sz : Nat) (tb : Nat) (a : Int32) (b : Int32) : Met l yX0_init zwX0_init ({ frames := 1, cells := 1, slots := 24, locals := 12 }) (gPc dC dI sz [(tb, .inr (3, [.int 0, .int 0, .null, .int 0, .int 0]))] [] [.ref tb, .int a, .int b]) (va_Qv (fun (u : List Value) => True) (fun u t => va_P (dC, dI) vwCl [(tb, .inr (3, u))] t.heap ∧ va_K (dC, dI) vwCl [] t ∧ va_D (va_A [(tb, .inr (3, [.int 0, .int 0, .null, .int 0, .int 0]))] sz) [(tb, .inr (3, u))]) (va_A [(tb, .inr (3, [.int 0, .int 0, .null, .int 0, .int 0]))] sz)) 1 24 (va_A [(tb, .inr (3, [.int 0, .int 0, .null, .int 0, .int 0]))] sz) := by
  refine Met.ofW (cc := cX0_init) (maxL := 4) (ret := none) (by decide) rfl ?_
  intro p e s m args below meth c s₁ B hml hv
  obtain ⟨rfl, hsz, hP, hK, hD0⟩ := hv
  have hx := B.exec
  have hb := B.bytes
  have hr := B.returns
  have hts := atoms_spec (ws := zwX0_init) B.pre
  have hown : s.vm.findClass RX0 = some m.cls := findClass_of_methodNamed B.named
  have hlocks := B.notSynchronized
  have hin : meth.name = "<init>" := (name_of_methodNamed B.named B.method).1
  subst hsz
  have hD := hD0.self (sz := s.heap.size)
  generalize hAe : va_A [(tb, .inr (3, [.int 0, .int 0, .null, .int 0, .int 0]))] s.heap.size = A at hD ⊢
  have hA : ∀ q : Nat, s.heap.size ≤ q → A q := fun q h => by rw [← hAe]; exact Or.inr h
  have hS : va_S A s.heap s.heap [] := va_S.rf
  have hP : va_P (dC, dI) vwCl [(tb, .inr (3, [.int 0, .int 0, .null, .int 0, .int 0]))] s.heap := hP
  have hl := lv_entry ([.ref tb, .int a, .int b]) (n := 4) (Nat.le_of_ble_eq_true rfl)
  rw [lg_entry_eq]
  generalize (lg_sl ([.ref tb, .int a, .int b]) ++ List.replicate (4 - (lg_sl ([.ref tb, .int a, .int b])).length) Slot.unset).toArray = ls at hl ⊢
  have hl : lv_has ls 4 [(0, .ref tb), (1, .int a), (2, .int b)] := hl
  refine lv_aload_n hx hb dX0_init_0 rfl (lv_at hl 0 rfl) ?_
  refine W.objInit hx hb hown (hts (.methodLink RX0 3 objectInit) (by decide +kernel)) (hts (.instanceMethod objectInit) (by decide +kernel)) (hts (.code objectInit ⟨#[0xb1]⟩ 1 none) (by decide +kernel)) rfl (by rw [hml]; exact hl.1) rfl dX0_init_1 (Nat.le_of_ble_eq_true rfl) (Nat.le_of_ble_eq_true rfl) ?_
  refine W.eq (g2 := F0 m 4 ls []) rfl ?_
  refine lv_aload_n hx hb dX0_init_4 rfl (lv_at hl 0 rfl) ?_
  refine lv_iload_n hx hb dX0_init_5 rfl (lv_at hl 1 rfl) ?_
  refine va_putF (D := (dC, dI)) (ci := 3) (v := .int a) (ty := .int) (C := RX0) (T := TX0) (N := 5) hx hb hts (fun w h => List.mem_cons_of_mem _ (List.mem_append_right _ (h))) tyX0 tyX0_ok nmX0 hown hK hP hD hS 0 rfl rfl 0 (by decide) (hts (.fieldLink RX0 9 "Spotbeat$Body" "number" "I") (by decide +kernel)) (fun _ h9 => h9) rfl hin rfl (by decide +kernel) rfl rfl (Nat.le_of_ble_eq_true rfl) dX0_init_6 (fun H locs hP hD hS => ?_)
  have hP : va_P (dC, dI) vwCl [(tb, .inr (3, [.int a, .int 0, .null, .int 0, .int 0]))] H := hP
  have hD : va_D A [(tb, .inr (3, [.int a, .int 0, .null, .int 0, .int 0]))] := hD
  refine lv_aload_n hx hb dX0_init_9 rfl (lv_at hl 0 rfl) ?_
  refine lv_iload_n hx hb dX0_init_10 rfl (lv_at hl 2 rfl) ?_
  refine va_putF (D := (dC, dI)) (ci := 3) (v := .int b) (ty := .int) (C := RX0) (T := TX0) (N := 5) hx hb hts (fun w h => List.mem_cons_of_mem _ (List.mem_append_right _ (h))) tyX0 tyX0_ok nmX0 hown hK hP hD hS 0 rfl rfl 1 (by decide) (hts (.fieldLink RX0 15 "Spotbeat$Body" "variant" "I") (by decide +kernel)) (fun _ h9 => h9) rfl hin rfl (by decide +kernel) rfl rfl (Nat.le_of_ble_eq_true rfl) dX0_init_11 (fun H locs hP hD hS => ?_)
  have hP : va_P (dC, dI) vwCl [(tb, .inr (3, [.int a, .int b, .null, .int 0, .int 0]))] H := hP
  have hD : va_D A [(tb, .inr (3, [.int a, .int b, .null, .int 0, .int 0]))] := hD
  refine lv_aload_n hx hb dX0_init_14 rfl (lv_at hl 0 rfl) ?_
  refine lv_iconst (v := (-1)) hx hb dX0_init_15 (by decide) ?_
  refine va_put (D := (dC, dI)) (ci := 3) (v := .int (-1)) (ty := .int) (C := RX0) (T := TX0) (N := 5) hx hb hts (fun w h => List.mem_cons_of_mem _ (List.mem_append_right _ (h))) tyX0 tyX0_ok nmX0 hown hK hP hD hS 0 rfl rfl 3 (by decide) (hts (.fieldLink RX0 18 "Spotbeat$Body" "where" "I") (by decide +kernel)) (fun _ h9 => h9) rfl (by decide +kernel) rfl rfl (Nat.le_of_ble_eq_true rfl) dX0_init_16 (fun H locs hP hD hS => ?_)
  have hP : va_P (dC, dI) vwCl [(tb, .inr (3, [.int a, .int b, .null, .int (-1), .int 0]))] H := hP
  have hD : va_D A [(tb, .inr (3, [.int a, .int b, .null, .int (-1), .int 0]))] := hD
  refine lv_aload_n hx hb dX0_init_19 rfl (lv_at hl 0 rfl) ?_
  refine lv_bipush (v := 24) hx hb dX0_init_20 (by decide) ?_
  refine va_newa (atype := .int) (N' := 24) (a0 := (24, .inl (fun _ => 0))) hx hb (hts (.arrayClass .int) (by decide +kernel)) rfl hK hP hD hS hA (fun _ => rfl) (by decide) (by decide +kernel) (by decide) (Nat.le_of_ble_eq_true rfl) (Nat.le_of_ble_eq_true rfl) dX0_init_22 (fun q22 k22 H hK hP hD hS => ?_)
  have hK : va_K (dC, dI) vwCl [(k22, .int)] s := hK
  have hP : va_P (dC, dI) vwCl [(tb, .inr (3, [.int a, .int b, .null, .int (-1), .int 0])), (q22, .inl (k22, 24, .inl (fun _ => 0)))] H := hP
  have hD : va_D A [(tb, .inr (3, [.int a, .int b, .null, .int (-1), .int 0])), (q22, .inl (k22, 24, .inl (fun _ => 0)))] := hD
  refine va_putF (D := (dC, dI)) (ci := 3) (v := .ref q22) (ty := .array .int) (C := RX0) (T := TX0) (N := 5) hx hb hts (fun w h => List.mem_cons_of_mem _ (List.mem_append_right _ (h))) tyX0 tyX0_ok nmX0 hown hK hP hD hS 0 rfl rfl 2 (by decide) (hts (.fieldLink RX0 21 "Spotbeat$Body" "makers" "[I") (by decide +kernel)) (fun _ h9 => h9) rfl hin rfl (by decide +kernel) rfl rfl (Nat.le_of_ble_eq_true rfl) dX0_init_24 (fun H locs hP hD hS => ?_)
  have hP : va_P (dC, dI) vwCl [(tb, .inr (3, [.int a, .int b, .ref q22, .int (-1), .int 0])), (q22, .inl (k22, 24, .inl (fun _ => 0)))] H := hP
  have hD : va_D A [(tb, .inr (3, [.int a, .int b, .ref q22, .int (-1), .int 0])), (q22, .inl (k22, 24, .inl (fun _ => 0)))] := hD
  refine lv_iconst (v := 0) hx hb dX0_init_27 (by decide) ?_
  refine lv_istore_n (lv' := [(3, .int 0), (0, .ref tb), (1, .int a), (2, .int b)]) hx hb dX0_init_28 rfl hl (by decide) rfl (fun ls hl => ?_)
  refine lv_iload_n hx hb dX0_init_29 rfl (lv_at hl 0 rfl) ?_
  refine lv_aload_n hx hb dX0_init_30 rfl (lv_at hl 1 rfl) ?_
  refine va_get (D := (dC, dI)) (ci := 3) (v := .ref q22) (C := RX0) (T := TX0) (N := 5) hx hb hts (fun w h => List.mem_cons_of_mem _ (List.mem_append_right _ (h))) hown hK hP 0 rfl rfl 2 (by decide) (hts (.fieldLink RX0 21 "Spotbeat$Body" "makers" "[I") (by decide +kernel)) (fun _ h9 => h9) rfl dX0_init_31 ?_
  refine va_alen (v := 24) hx hb hK hP 1 0 rfl rfl rfl dX0_init_34 ?_
  refine lv_icmp_ge (tgt := 52) hx hb dX0_init_35 (by decide) (fun c_1 => absurd c_1 (by decide)) (fun _ => ?_)
  refine lv_aload_n hx hb dX0_init_38 rfl (lv_at hl 1 rfl) ?_
  refine va_get (D := (dC, dI)) (ci := 3) (v := .ref q22) (C := RX0) (T := TX0) (N := 5) hx hb hts (fun w h => List.mem_cons_of_mem _ (List.mem_append_right _ (h))) hown hK hP 0 rfl rfl 2 (by decide) (hts (.fieldLink RX0 21 "Spotbeat$Body" "makers" "[I") (by decide +kernel)) (fun _ h9 => h9) rfl dX0_init_39 ?_
  refine lv_iload_n hx hb dX0_init_42 rfl (lv_at hl 0 rfl) ?_
  refine lv_bipush (v := (-2)) hx hb dX0_init_43 (by decide) ?_
  refine va_iast hx hb hK hP hD hS 1 0 rfl rfl (by unfold vp_in; decide +kernel) dX0_init_45 (fun H locs hP hD hS => ?_)
  have hP : va_P (dC, dI) vwCl [(tb, .inr (3, [.int a, .int b, .ref q22, .int (-1), .int 0])), (q22, .inl (k22, 24, .inl (upd (fun _ => 0) (Int32.toNatClampNeg 0) (-2))))] H := hP
  have hD : va_D A [(tb, .inr (3, [.int a, .int b, .ref q22, .int (-1), .int 0])), (q22, .inl (k22, 24, .inl (upd (fun _ => 0) (Int32.toNatClampNeg 0) (-2))))] := hD
  generalize upd (fun _ => 0) (Int32.toNatClampNeg 0) (-2) = f_2 at hP hD
  refine lv_iinc (v := 1) (lv' := [(3, .int 1), (0, .ref tb), (1, .int a), (2, .int b)]) hx hb dX0_init_46 hl (k := 0) rfl (by decide) (by decide) rfl (fun ls hl => ?_)
  refine lv_goto (tgt := 29) hx hb dX0_init_49 (by decide) ?_
  refine lv_iload_n hx hb dX0_init_29 rfl (lv_at hl 0 rfl) ?_
  refine lv_aload_n hx hb dX0_init_30 rfl (lv_at hl 1 rfl) ?_
  refine va_get (D := (dC, dI)) (ci := 3) (v := .ref q22) (C := RX0) (T := TX0) (N := 5) hx hb hts (fun w h => List.mem_cons_of_mem _ (List.mem_append_right _ (h))) hown hK hP 0 rfl rfl 2 (by decide) (hts (.fieldLink RX0 21 "Spotbeat$Body" "makers" "[I") (by decide +kernel)) (fun _ h9 => h9) rfl dX0_init_31 ?_
  refine va_alen (v := 24) hx hb hK hP 1 0 rfl rfl rfl dX0_init_34 ?_
  refine lv_icmp_ge (tgt := 52) hx hb dX0_init_35 (by decide) (fun c_3 => absurd c_3 (by decide)) (fun _ => ?_)
  refine lv_aload_n hx hb dX0_init_38 rfl (lv_at hl 1 rfl) ?_
  refine va_get (D := (dC, dI)) (ci := 3) (v := .ref q22) (C := RX0) (T := TX0) (N := 5) hx hb hts (fun w h => List.mem_cons_of_mem _ (List.mem_append_right _ (h))) hown hK hP 0 rfl rfl 2 (by decide) (hts (.fieldLink RX0 21 "Spotbeat$Body" "makers" "[I") (by decide +kernel)) (fun _ h9 => h9) rfl dX0_init_39 ?_
  refine lv_iload_n hx hb dX0_init_42 rfl (lv_at hl 0 rfl) ?_
  refine lv_bipush (v := (-2)) hx hb dX0_init_43 (by decide) ?_
  refine va_iast hx hb hK hP hD hS 1 0 rfl rfl (by unfold vp_in; decide +kernel) dX0_init_45 (fun H locs hP hD hS => ?_)
  have hP : va_P (dC, dI) vwCl [(tb, .inr (3, [.int a, .int b, .ref q22, .int (-1), .int 0])), (q22, .inl (k22, 24, .inl (upd f_2 (Int32.toNatClampNeg 1) (-2))))] H := hP
  have hD : va_D A [(tb, .inr (3, [.int a, .int b, .ref q22, .int (-1), .int 0])), (q22, .inl (k22, 24, .inl (upd f_2 (Int32.toNatClampNeg 1) (-2))))] := hD
  generalize upd f_2 (Int32.toNatClampNeg 1) (-2) = f_4 at hP hD
  refine lv_iinc (v := 2) (lv' := [(3, .int 2), (0, .ref tb), (1, .int a), (2, .int b)]) hx hb dX0_init_46 hl (k := 0) rfl (by decide) (by decide) rfl (fun ls hl => ?_)
  refine lv_goto (tgt := 29) hx hb dX0_init_49 (by decide) ?_
  refine lv_iload_n hx hb dX0_init_29 rfl (lv_at hl 0 rfl) ?_
  refine lv_aload_n hx hb dX0_init_30 rfl (lv_at hl 1 rfl) ?_
  refine va_get (D := (dC, dI)) (ci := 3) (v := .ref q22) (C := RX0) (T := TX0) (N := 5) hx hb hts (fun w h => List.mem_cons_of_mem _ (List.mem_append_right _ (h))) hown hK hP 0 rfl rfl 2 (by decide) (hts (.fieldLink RX0 21 "Spotbeat$Body" "makers" "[I") (by decide +kernel)) (fun _ h9 => h9) rfl dX0_init_31 ?_
  refine va_alen (v := 24) hx hb hK hP 1 0 rfl rfl rfl dX0_init_34 ?_
  refine lv_icmp_ge (tgt := 52) hx hb dX0_init_35 (by decide) (fun c_5 => absurd c_5 (by decide)) (fun _ => ?_)
  refine lv_aload_n hx hb dX0_init_38 rfl (lv_at hl 1 rfl) ?_
  refine va_get (D := (dC, dI)) (ci := 3) (v := .ref q22) (C := RX0) (T := TX0) (N := 5) hx hb hts (fun w h => List.mem_cons_of_mem _ (List.mem_append_right _ (h))) hown hK hP 0 rfl rfl 2 (by decide) (hts (.fieldLink RX0 21 "Spotbeat$Body" "makers" "[I") (by decide +kernel)) (fun _ h9 => h9) rfl dX0_init_39 ?_
  refine lv_iload_n hx hb dX0_init_42 rfl (lv_at hl 0 rfl) ?_
  refine lv_bipush (v := (-2)) hx hb dX0_init_43 (by decide) ?_
  refine va_iast hx hb hK hP hD hS 1 0 rfl rfl (by unfold vp_in; decide +kernel) dX0_init_45 (fun H locs hP hD hS => ?_)
  have hP : va_P (dC, dI) vwCl [(tb, .inr (3, [.int a, .int b, .ref q22, .int (-1), .int 0])), (q22, .inl (k22, 24, .inl (upd f_4 (Int32.toNatClampNeg 2) (-2))))] H := hP
  have hD : va_D A [(tb, .inr (3, [.int a, .int b, .ref q22, .int (-1), .int 0])), (q22, .inl (k22, 24, .inl (upd f_4 (Int32.toNatClampNeg 2) (-2))))] := hD
  generalize upd f_4 (Int32.toNatClampNeg 2) (-2) = f_6 at hP hD
  refine lv_iinc (v := 3) (lv' := [(3, .int 3), (0, .ref tb), (1, .int a), (2, .int b)]) hx hb dX0_init_46 hl (k := 0) rfl (by decide) (by decide) rfl (fun ls hl => ?_)
  refine lv_goto (tgt := 29) hx hb dX0_init_49 (by decide) ?_
  refine lv_iload_n hx hb dX0_init_29 rfl (lv_at hl 0 rfl) ?_
  refine lv_aload_n hx hb dX0_init_30 rfl (lv_at hl 1 rfl) ?_
  refine va_get (D := (dC, dI)) (ci := 3) (v := .ref q22) (C := RX0) (T := TX0) (N := 5) hx hb hts (fun w h => List.mem_cons_of_mem _ (List.mem_append_right _ (h))) hown hK hP 0 rfl rfl 2 (by decide) (hts (.fieldLink RX0 21 "Spotbeat$Body" "makers" "[I") (by decide +kernel)) (fun _ h9 => h9) rfl dX0_init_31 ?_
  refine va_alen (v := 24) hx hb hK hP 1 0 rfl rfl rfl dX0_init_34 ?_
  refine lv_icmp_ge (tgt := 52) hx hb dX0_init_35 (by decide) (fun c_7 => absurd c_7 (by decide)) (fun _ => ?_)
  refine lv_aload_n hx hb dX0_init_38 rfl (lv_at hl 1 rfl) ?_
  refine va_get (D := (dC, dI)) (ci := 3) (v := .ref q22) (C := RX0) (T := TX0) (N := 5) hx hb hts (fun w h => List.mem_cons_of_mem _ (List.mem_append_right _ (h))) hown hK hP 0 rfl rfl 2 (by decide) (hts (.fieldLink RX0 21 "Spotbeat$Body" "makers" "[I") (by decide +kernel)) (fun _ h9 => h9) rfl dX0_init_39 ?_
  refine lv_iload_n hx hb dX0_init_42 rfl (lv_at hl 0 rfl) ?_
  refine lv_bipush (v := (-2)) hx hb dX0_init_43 (by decide) ?_
  refine va_iast hx hb hK hP hD hS 1 0 rfl rfl (by unfold vp_in; decide +kernel) dX0_init_45 (fun H locs hP hD hS => ?_)
  have hP : va_P (dC, dI) vwCl [(tb, .inr (3, [.int a, .int b, .ref q22, .int (-1), .int 0])), (q22, .inl (k22, 24, .inl (upd f_6 (Int32.toNatClampNeg 3) (-2))))] H := hP
  have hD : va_D A [(tb, .inr (3, [.int a, .int b, .ref q22, .int (-1), .int 0])), (q22, .inl (k22, 24, .inl (upd f_6 (Int32.toNatClampNeg 3) (-2))))] := hD
  generalize upd f_6 (Int32.toNatClampNeg 3) (-2) = f_8 at hP hD
  refine lv_iinc (v := 4) (lv' := [(3, .int 4), (0, .ref tb), (1, .int a), (2, .int b)]) hx hb dX0_init_46 hl (k := 0) rfl (by decide) (by decide) rfl (fun ls hl => ?_)
  refine lv_goto (tgt := 29) hx hb dX0_init_49 (by decide) ?_
  refine lv_iload_n hx hb dX0_init_29 rfl (lv_at hl 0 rfl) ?_
  refine lv_aload_n hx hb dX0_init_30 rfl (lv_at hl 1 rfl) ?_
  refine va_get (D := (dC, dI)) (ci := 3) (v := .ref q22) (C := RX0) (T := TX0) (N := 5) hx hb hts (fun w h => List.mem_cons_of_mem _ (List.mem_append_right _ (h))) hown hK hP 0 rfl rfl 2 (by decide) (hts (.fieldLink RX0 21 "Spotbeat$Body" "makers" "[I") (by decide +kernel)) (fun _ h9 => h9) rfl dX0_init_31 ?_
  refine va_alen (v := 24) hx hb hK hP 1 0 rfl rfl rfl dX0_init_34 ?_
  refine lv_icmp_ge (tgt := 52) hx hb dX0_init_35 (by decide) (fun c_9 => absurd c_9 (by decide)) (fun _ => ?_)
  refine lv_aload_n hx hb dX0_init_38 rfl (lv_at hl 1 rfl) ?_
  refine va_get (D := (dC, dI)) (ci := 3) (v := .ref q22) (C := RX0) (T := TX0) (N := 5) hx hb hts (fun w h => List.mem_cons_of_mem _ (List.mem_append_right _ (h))) hown hK hP 0 rfl rfl 2 (by decide) (hts (.fieldLink RX0 21 "Spotbeat$Body" "makers" "[I") (by decide +kernel)) (fun _ h9 => h9) rfl dX0_init_39 ?_
  refine lv_iload_n hx hb dX0_init_42 rfl (lv_at hl 0 rfl) ?_
  refine lv_bipush (v := (-2)) hx hb dX0_init_43 (by decide) ?_
  refine va_iast hx hb hK hP hD hS 1 0 rfl rfl (by unfold vp_in; decide +kernel) dX0_init_45 (fun H locs hP hD hS => ?_)
  have hP : va_P (dC, dI) vwCl [(tb, .inr (3, [.int a, .int b, .ref q22, .int (-1), .int 0])), (q22, .inl (k22, 24, .inl (upd f_8 (Int32.toNatClampNeg 4) (-2))))] H := hP
  have hD : va_D A [(tb, .inr (3, [.int a, .int b, .ref q22, .int (-1), .int 0])), (q22, .inl (k22, 24, .inl (upd f_8 (Int32.toNatClampNeg 4) (-2))))] := hD
  generalize upd f_8 (Int32.toNatClampNeg 4) (-2) = f_10 at hP hD
  refine lv_iinc (v := 5) (lv' := [(3, .int 5), (0, .ref tb), (1, .int a), (2, .int b)]) hx hb dX0_init_46 hl (k := 0) rfl (by decide) (by decide) rfl (fun ls hl => ?_)
  refine lv_goto (tgt := 29) hx hb dX0_init_49 (by decide) ?_
  refine lv_iload_n hx hb dX0_init_29 rfl (lv_at hl 0 rfl) ?_
  refine lv_aload_n hx hb dX0_init_30 rfl (lv_at hl 1 rfl) ?_
  refine va_get (D := (dC, dI)) (ci := 3) (v := .ref q22) (C := RX0) (T := TX0) (N := 5) hx hb hts (fun w h => List.mem_cons_of_mem _ (List.mem_append_right _ (h))) hown hK hP 0 rfl rfl 2 (by decide) (hts (.fieldLink RX0 21 "Spotbeat$Body" "makers" "[I") (by decide +kernel)) (fun _ h9 => h9) rfl dX0_init_31 ?_
  refine va_alen (v := 24) hx hb hK hP 1 0 rfl rfl rfl dX0_init_34 ?_
  refine lv_icmp_ge (tgt := 52) hx hb dX0_init_35 (by decide) (fun c_11 => absurd c_11 (by decide)) (fun _ => ?_)
  refine lv_aload_n hx hb dX0_init_38 rfl (lv_at hl 1 rfl) ?_
  refine va_get (D := (dC, dI)) (ci := 3) (v := .ref q22) (C := RX0) (T := TX0) (N := 5) hx hb hts (fun w h => List.mem_cons_of_mem _ (List.mem_append_right _ (h))) hown hK hP 0 rfl rfl 2 (by decide) (hts (.fieldLink RX0 21 "Spotbeat$Body" "makers" "[I") (by decide +kernel)) (fun _ h9 => h9) rfl dX0_init_39 ?_
  refine lv_iload_n hx hb dX0_init_42 rfl (lv_at hl 0 rfl) ?_
  refine lv_bipush (v := (-2)) hx hb dX0_init_43 (by decide) ?_
  refine va_iast hx hb hK hP hD hS 1 0 rfl rfl (by unfold vp_in; decide +kernel) dX0_init_45 (fun H locs hP hD hS => ?_)
  have hP : va_P (dC, dI) vwCl [(tb, .inr (3, [.int a, .int b, .ref q22, .int (-1), .int 0])), (q22, .inl (k22, 24, .inl (upd f_10 (Int32.toNatClampNeg 5) (-2))))] H := hP
  have hD : va_D A [(tb, .inr (3, [.int a, .int b, .ref q22, .int (-1), .int 0])), (q22, .inl (k22, 24, .inl (upd f_10 (Int32.toNatClampNeg 5) (-2))))] := hD
  generalize upd f_10 (Int32.toNatClampNeg 5) (-2) = f_12 at hP hD
  refine lv_iinc (v := 6) (lv' := [(3, .int 6), (0, .ref tb), (1, .int a), (2, .int b)]) hx hb dX0_init_46 hl (k := 0) rfl (by decide) (by decide) rfl (fun ls hl => ?_)
  refine lv_goto (tgt := 29) hx hb dX0_init_49 (by decide) ?_
  refine lv_iload_n hx hb dX0_init_29 rfl (lv_at hl 0 rfl) ?_
  refine lv_aload_n hx hb dX0_init_30 rfl (lv_at hl 1 rfl) ?_
  refine va_get (D := (dC, dI)) (ci := 3) (v := .ref q22) (C := RX0) (T := TX0) (N := 5) hx hb hts (fun w h => List.mem_cons_of_mem _ (List.mem_append_right _ (h))) hown hK hP 0 rfl rfl 2 (by decide) (hts (.fieldLink RX0 21 "Spotbeat$Body" "makers" "[I") (by decide +kernel)) (fun _ h9 => h9) rfl dX0_init_31 ?_
  refine va_alen (v := 24) hx hb hK hP 1 0 rfl rfl rfl dX0_init_34 ?_
  refine lv_icmp_ge (tgt := 52) hx hb dX0_init_35 (by decide) (fun c_13 => absurd c_13 (by decide)) (fun _ => ?_)
  refine lv_aload_n hx hb dX0_init_38 rfl (lv_at hl 1 rfl) ?_
  refine va_get (D := (dC, dI)) (ci := 3) (v := .ref q22) (C := RX0) (T := TX0) (N := 5) hx hb hts (fun w h => List.mem_cons_of_mem _ (List.mem_append_right _ (h))) hown hK hP 0 rfl rfl 2 (by decide) (hts (.fieldLink RX0 21 "Spotbeat$Body" "makers" "[I") (by decide +kernel)) (fun _ h9 => h9) rfl dX0_init_39 ?_
  refine lv_iload_n hx hb dX0_init_42 rfl (lv_at hl 0 rfl) ?_
  refine lv_bipush (v := (-2)) hx hb dX0_init_43 (by decide) ?_
  refine va_iast hx hb hK hP hD hS 1 0 rfl rfl (by unfold vp_in; decide +kernel) dX0_init_45 (fun H locs hP hD hS => ?_)
  have hP : va_P (dC, dI) vwCl [(tb, .inr (3, [.int a, .int b, .ref q22, .int (-1), .int 0])), (q22, .inl (k22, 24, .inl (upd f_12 (Int32.toNatClampNeg 6) (-2))))] H := hP
  have hD : va_D A [(tb, .inr (3, [.int a, .int b, .ref q22, .int (-1), .int 0])), (q22, .inl (k22, 24, .inl (upd f_12 (Int32.toNatClampNeg 6) (-2))))] := hD
  generalize upd f_12 (Int32.toNatClampNeg 6) (-2) = f_14 at hP hD
  refine lv_iinc (v := 7) (lv' := [(3, .int 7), (0, .ref tb), (1, .int a), (2, .int b)]) hx hb dX0_init_46 hl (k := 0) rfl (by decide) (by decide) rfl (fun ls hl => ?_)
  refine lv_goto (tgt := 29) hx hb dX0_init_49 (by decide) ?_
  refine lv_iload_n hx hb dX0_init_29 rfl (lv_at hl 0 rfl) ?_
  refine lv_aload_n hx hb dX0_init_30 rfl (lv_at hl 1 rfl) ?_
  refine va_get (D := (dC, dI)) (ci := 3) (v := .ref q22) (C := RX0) (T := TX0) (N := 5) hx hb hts (fun w h => List.mem_cons_of_mem _ (List.mem_append_right _ (h))) hown hK hP 0 rfl rfl 2 (by decide) (hts (.fieldLink RX0 21 "Spotbeat$Body" "makers" "[I") (by decide +kernel)) (fun _ h9 => h9) rfl dX0_init_31 ?_
  refine va_alen (v := 24) hx hb hK hP 1 0 rfl rfl rfl dX0_init_34 ?_
  refine lv_icmp_ge (tgt := 52) hx hb dX0_init_35 (by decide) (fun c_15 => absurd c_15 (by decide)) (fun _ => ?_)
  refine lv_aload_n hx hb dX0_init_38 rfl (lv_at hl 1 rfl) ?_
  refine va_get (D := (dC, dI)) (ci := 3) (v := .ref q22) (C := RX0) (T := TX0) (N := 5) hx hb hts (fun w h => List.mem_cons_of_mem _ (List.mem_append_right _ (h))) hown hK hP 0 rfl rfl 2 (by decide) (hts (.fieldLink RX0 21 "Spotbeat$Body" "makers" "[I") (by decide +kernel)) (fun _ h9 => h9) rfl dX0_init_39 ?_
  refine lv_iload_n hx hb dX0_init_42 rfl (lv_at hl 0 rfl) ?_
  refine lv_bipush (v := (-2)) hx hb dX0_init_43 (by decide) ?_
  refine va_iast hx hb hK hP hD hS 1 0 rfl rfl (by unfold vp_in; decide +kernel) dX0_init_45 (fun H locs hP hD hS => ?_)
  have hP : va_P (dC, dI) vwCl [(tb, .inr (3, [.int a, .int b, .ref q22, .int (-1), .int 0])), (q22, .inl (k22, 24, .inl (upd f_14 (Int32.toNatClampNeg 7) (-2))))] H := hP
  have hD : va_D A [(tb, .inr (3, [.int a, .int b, .ref q22, .int (-1), .int 0])), (q22, .inl (k22, 24, .inl (upd f_14 (Int32.toNatClampNeg 7) (-2))))] := hD
  generalize upd f_14 (Int32.toNatClampNeg 7) (-2) = f_16 at hP hD
  refine lv_iinc (v := 8) (lv' := [(3, .int 8), (0, .ref tb), (1, .int a), (2, .int b)]) hx hb dX0_init_46 hl (k := 0) rfl (by decide) (by decide) rfl (fun ls hl => ?_)
  refine lv_goto (tgt := 29) hx hb dX0_init_49 (by decide) ?_
  refine lv_iload_n hx hb dX0_init_29 rfl (lv_at hl 0 rfl) ?_
  refine lv_aload_n hx hb dX0_init_30 rfl (lv_at hl 1 rfl) ?_
  refine va_get (D := (dC, dI)) (ci := 3) (v := .ref q22) (C := RX0) (T := TX0) (N := 5) hx hb hts (fun w h => List.mem_cons_of_mem _ (List.mem_append_right _ (h))) hown hK hP 0 rfl rfl 2 (by decide) (hts (.fieldLink RX0 21 "Spotbeat$Body" "makers" "[I") (by decide +kernel)) (fun _ h9 => h9) rfl dX0_init_31 ?_
  refine va_alen (v := 24) hx hb hK hP 1 0 rfl rfl rfl dX0_init_34 ?_
  refine lv_icmp_ge (tgt := 52) hx hb dX0_init_35 (by decide) (fun c_17 => absurd c_17 (by decide)) (fun _ => ?_)
  refine lv_aload_n hx hb dX0_init_38 rfl (lv_at hl 1 rfl) ?_
  refine va_get (D := (dC, dI)) (ci := 3) (v := .ref q22) (C := RX0) (T := TX0) (N := 5) hx hb hts (fun w h => List.mem_cons_of_mem _ (List.mem_append_right _ (h))) hown hK hP 0 rfl rfl 2 (by decide) (hts (.fieldLink RX0 21 "Spotbeat$Body" "makers" "[I") (by decide +kernel)) (fun _ h9 => h9) rfl dX0_init_39 ?_
  refine lv_iload_n hx hb dX0_init_42 rfl (lv_at hl 0 rfl) ?_
  refine lv_bipush (v := (-2)) hx hb dX0_init_43 (by decide) ?_
  refine va_iast hx hb hK hP hD hS 1 0 rfl rfl (by unfold vp_in; decide +kernel) dX0_init_45 (fun H locs hP hD hS => ?_)
  have hP : va_P (dC, dI) vwCl [(tb, .inr (3, [.int a, .int b, .ref q22, .int (-1), .int 0])), (q22, .inl (k22, 24, .inl (upd f_16 (Int32.toNatClampNeg 8) (-2))))] H := hP
  have hD : va_D A [(tb, .inr (3, [.int a, .int b, .ref q22, .int (-1), .int 0])), (q22, .inl (k22, 24, .inl (upd f_16 (Int32.toNatClampNeg 8) (-2))))] := hD
  generalize upd f_16 (Int32.toNatClampNeg 8) (-2) = f_18 at hP hD
  refine lv_iinc (v := 9) (lv' := [(3, .int 9), (0, .ref tb), (1, .int a), (2, .int b)]) hx hb dX0_init_46 hl (k := 0) rfl (by decide) (by decide) rfl (fun ls hl => ?_)
  refine lv_goto (tgt := 29) hx hb dX0_init_49 (by decide) ?_
  refine lv_iload_n hx hb dX0_init_29 rfl (lv_at hl 0 rfl) ?_
  refine lv_aload_n hx hb dX0_init_30 rfl (lv_at hl 1 rfl) ?_
  refine va_get (D := (dC, dI)) (ci := 3) (v := .ref q22) (C := RX0) (T := TX0) (N := 5) hx hb hts (fun w h => List.mem_cons_of_mem _ (List.mem_append_right _ (h))) hown hK hP 0 rfl rfl 2 (by decide) (hts (.fieldLink RX0 21 "Spotbeat$Body" "makers" "[I") (by decide +kernel)) (fun _ h9 => h9) rfl dX0_init_31 ?_
  refine va_alen (v := 24) hx hb hK hP 1 0 rfl rfl rfl dX0_init_34 ?_
  refine lv_icmp_ge (tgt := 52) hx hb dX0_init_35 (by decide) (fun c_19 => absurd c_19 (by decide)) (fun _ => ?_)
  refine lv_aload_n hx hb dX0_init_38 rfl (lv_at hl 1 rfl) ?_
  refine va_get (D := (dC, dI)) (ci := 3) (v := .ref q22) (C := RX0) (T := TX0) (N := 5) hx hb hts (fun w h => List.mem_cons_of_mem _ (List.mem_append_right _ (h))) hown hK hP 0 rfl rfl 2 (by decide) (hts (.fieldLink RX0 21 "Spotbeat$Body" "makers" "[I") (by decide +kernel)) (fun _ h9 => h9) rfl dX0_init_39 ?_
  refine lv_iload_n hx hb dX0_init_42 rfl (lv_at hl 0 rfl) ?_
  refine lv_bipush (v := (-2)) hx hb dX0_init_43 (by decide) ?_
  refine va_iast hx hb hK hP hD hS 1 0 rfl rfl (by unfold vp_in; decide +kernel) dX0_init_45 (fun H locs hP hD hS => ?_)
  have hP : va_P (dC, dI) vwCl [(tb, .inr (3, [.int a, .int b, .ref q22, .int (-1), .int 0])), (q22, .inl (k22, 24, .inl (upd f_18 (Int32.toNatClampNeg 9) (-2))))] H := hP
  have hD : va_D A [(tb, .inr (3, [.int a, .int b, .ref q22, .int (-1), .int 0])), (q22, .inl (k22, 24, .inl (upd f_18 (Int32.toNatClampNeg 9) (-2))))] := hD
  generalize upd f_18 (Int32.toNatClampNeg 9) (-2) = f_20 at hP hD
  refine lv_iinc (v := 10) (lv' := [(3, .int 10), (0, .ref tb), (1, .int a), (2, .int b)]) hx hb dX0_init_46 hl (k := 0) rfl (by decide) (by decide) rfl (fun ls hl => ?_)
  refine lv_goto (tgt := 29) hx hb dX0_init_49 (by decide) ?_
  refine lv_iload_n hx hb dX0_init_29 rfl (lv_at hl 0 rfl) ?_
  refine lv_aload_n hx hb dX0_init_30 rfl (lv_at hl 1 rfl) ?_
  refine va_get (D := (dC, dI)) (ci := 3) (v := .ref q22) (C := RX0) (T := TX0) (N := 5) hx hb hts (fun w h => List.mem_cons_of_mem _ (List.mem_append_right _ (h))) hown hK hP 0 rfl rfl 2 (by decide) (hts (.fieldLink RX0 21 "Spotbeat$Body" "makers" "[I") (by decide +kernel)) (fun _ h9 => h9) rfl dX0_init_31 ?_
  refine va_alen (v := 24) hx hb hK hP 1 0 rfl rfl rfl dX0_init_34 ?_
  refine lv_icmp_ge (tgt := 52) hx hb dX0_init_35 (by decide) (fun c_21 => absurd c_21 (by decide)) (fun _ => ?_)
  refine lv_aload_n hx hb dX0_init_38 rfl (lv_at hl 1 rfl) ?_
  refine va_get (D := (dC, dI)) (ci := 3) (v := .ref q22) (C := RX0) (T := TX0) (N := 5) hx hb hts (fun w h => List.mem_cons_of_mem _ (List.mem_append_right _ (h))) hown hK hP 0 rfl rfl 2 (by decide) (hts (.fieldLink RX0 21 "Spotbeat$Body" "makers" "[I") (by decide +kernel)) (fun _ h9 => h9) rfl dX0_init_39 ?_
  refine lv_iload_n hx hb dX0_init_42 rfl (lv_at hl 0 rfl) ?_
  refine lv_bipush (v := (-2)) hx hb dX0_init_43 (by decide) ?_
  refine va_iast hx hb hK hP hD hS 1 0 rfl rfl (by unfold vp_in; decide +kernel) dX0_init_45 (fun H locs hP hD hS => ?_)
  have hP : va_P (dC, dI) vwCl [(tb, .inr (3, [.int a, .int b, .ref q22, .int (-1), .int 0])), (q22, .inl (k22, 24, .inl (upd f_20 (Int32.toNatClampNeg 10) (-2))))] H := hP
  have hD : va_D A [(tb, .inr (3, [.int a, .int b, .ref q22, .int (-1), .int 0])), (q22, .inl (k22, 24, .inl (upd f_20 (Int32.toNatClampNeg 10) (-2))))] := hD
  generalize upd f_20 (Int32.toNatClampNeg 10) (-2) = f_22 at hP hD
  refine lv_iinc (v := 11) (lv' := [(3, .int 11), (0, .ref tb), (1, .int a), (2, .int b)]) hx hb dX0_init_46 hl (k := 0) rfl (by decide) (by decide) rfl (fun ls hl => ?_)
  refine lv_goto (tgt := 29) hx hb dX0_init_49 (by decide) ?_
  refine lv_iload_n hx hb dX0_init_29 rfl (lv_at hl 0 rfl) ?_
  refine lv_aload_n hx hb dX0_init_30 rfl (lv_at hl 1 rfl) ?_
  refine va_get (D := (dC, dI)) (ci := 3) (v := .ref q22) (C := RX0) (T := TX0) (N := 5) hx hb hts (fun w h => List.mem_cons_of_mem _ (List.mem_append_right _ (h))) hown hK hP 0 rfl rfl 2 (by decide) (hts (.fieldLink RX0 21 "Spotbeat$Body" "makers" "[I") (by decide +kernel)) (fun _ h9 => h9) rfl dX0_init_31 ?_
  refine va_alen (v := 24) hx hb hK hP 1 0 rfl rfl rfl dX0_init_34 ?_
  refine lv_icmp_ge (tgt := 52) hx hb dX0_init_35 (by decide) (fun c_23 => absurd c_23 (by decide)) (fun _ => ?_)
  refine lv_aload_n hx hb dX0_init_38 rfl (lv_at hl 1 rfl) ?_
  refine va_get (D := (dC, dI)) (ci := 3) (v := .ref q22) (C := RX0) (T := TX0) (N := 5) hx hb hts (fun w h => List.mem_cons_of_mem _ (List.mem_append_right _ (h))) hown hK hP 0 rfl rfl 2 (by decide) (hts (.fieldLink RX0 21 "Spotbeat$Body" "makers" "[I") (by decide +kernel)) (fun _ h9 => h9) rfl dX0_init_39 ?_
  refine lv_iload_n hx hb dX0_init_42 rfl (lv_at hl 0 rfl) ?_
  refine lv_bipush (v := (-2)) hx hb dX0_init_43 (by decide) ?_
  refine va_iast hx hb hK hP hD hS 1 0 rfl rfl (by unfold vp_in; decide +kernel) dX0_init_45 (fun H locs hP hD hS => ?_)
  have hP : va_P (dC, dI) vwCl [(tb, .inr (3, [.int a, .int b, .ref q22, .int (-1), .int 0])), (q22, .inl (k22, 24, .inl (upd f_22 (Int32.toNatClampNeg 11) (-2))))] H := hP
  have hD : va_D A [(tb, .inr (3, [.int a, .int b, .ref q22, .int (-1), .int 0])), (q22, .inl (k22, 24, .inl (upd f_22 (Int32.toNatClampNeg 11) (-2))))] := hD
  generalize upd f_22 (Int32.toNatClampNeg 11) (-2) = f_24 at hP hD
  refine lv_iinc (v := 12) (lv' := [(3, .int 12), (0, .ref tb), (1, .int a), (2, .int b)]) hx hb dX0_init_46 hl (k := 0) rfl (by decide) (by decide) rfl (fun ls hl => ?_)
  refine lv_goto (tgt := 29) hx hb dX0_init_49 (by decide) ?_
  refine lv_iload_n hx hb dX0_init_29 rfl (lv_at hl 0 rfl) ?_
  refine lv_aload_n hx hb dX0_init_30 rfl (lv_at hl 1 rfl) ?_
  refine va_get (D := (dC, dI)) (ci := 3) (v := .ref q22) (C := RX0) (T := TX0) (N := 5) hx hb hts (fun w h => List.mem_cons_of_mem _ (List.mem_append_right _ (h))) hown hK hP 0 rfl rfl 2 (by decide) (hts (.fieldLink RX0 21 "Spotbeat$Body" "makers" "[I") (by decide +kernel)) (fun _ h9 => h9) rfl dX0_init_31 ?_
  refine va_alen (v := 24) hx hb hK hP 1 0 rfl rfl rfl dX0_init_34 ?_
  refine lv_icmp_ge (tgt := 52) hx hb dX0_init_35 (by decide) (fun c_25 => absurd c_25 (by decide)) (fun _ => ?_)
  refine lv_aload_n hx hb dX0_init_38 rfl (lv_at hl 1 rfl) ?_
  refine va_get (D := (dC, dI)) (ci := 3) (v := .ref q22) (C := RX0) (T := TX0) (N := 5) hx hb hts (fun w h => List.mem_cons_of_mem _ (List.mem_append_right _ (h))) hown hK hP 0 rfl rfl 2 (by decide) (hts (.fieldLink RX0 21 "Spotbeat$Body" "makers" "[I") (by decide +kernel)) (fun _ h9 => h9) rfl dX0_init_39 ?_
  refine lv_iload_n hx hb dX0_init_42 rfl (lv_at hl 0 rfl) ?_
  refine lv_bipush (v := (-2)) hx hb dX0_init_43 (by decide) ?_
  refine va_iast hx hb hK hP hD hS 1 0 rfl rfl (by unfold vp_in; decide +kernel) dX0_init_45 (fun H locs hP hD hS => ?_)
  have hP : va_P (dC, dI) vwCl [(tb, .inr (3, [.int a, .int b, .ref q22, .int (-1), .int 0])), (q22, .inl (k22, 24, .inl (upd f_24 (Int32.toNatClampNeg 12) (-2))))] H := hP
  have hD : va_D A [(tb, .inr (3, [.int a, .int b, .ref q22, .int (-1), .int 0])), (q22, .inl (k22, 24, .inl (upd f_24 (Int32.toNatClampNeg 12) (-2))))] := hD
  generalize upd f_24 (Int32.toNatClampNeg 12) (-2) = f_26 at hP hD
  refine lv_iinc (v := 13) (lv' := [(3, .int 13), (0, .ref tb), (1, .int a), (2, .int b)]) hx hb dX0_init_46 hl (k := 0) rfl (by decide) (by decide) rfl (fun ls hl => ?_)
  refine lv_goto (tgt := 29) hx hb dX0_init_49 (by decide) ?_
  refine lv_iload_n hx hb dX0_init_29 rfl (lv_at hl 0 rfl) ?_
  refine lv_aload_n hx hb dX0_init_30 rfl (lv_at hl 1 rfl) ?_
  refine va_get (D := (dC, dI)) (ci := 3) (v := .ref q22) (C := RX0) (T := TX0) (N := 5) hx hb hts (fun w h => List.mem_cons_of_mem _ (List.mem_append_right _ (h))) hown hK hP 0 rfl rfl 2 (by decide) (hts (.fieldLink RX0 21 "Spotbeat$Body" "makers" "[I") (by decide +kernel)) (fun _ h9 => h9) rfl dX0_init_31 ?_
  refine va_alen (v := 24) hx hb hK hP 1 0 rfl rfl rfl dX0_init_34 ?_
  refine lv_icmp_ge (tgt := 52) hx hb dX0_init_35 (by decide) (fun c_27 => absurd c_27 (by decide)) (fun _ => ?_)
  refine lv_aload_n hx hb dX0_init_38 rfl (lv_at hl 1 rfl) ?_
  refine va_get (D := (dC, dI)) (ci := 3) (v := .ref q22) (C := RX0) (T := TX0) (N := 5) hx hb hts (fun w h => List.mem_cons_of_mem _ (List.mem_append_right _ (h))) hown hK hP 0 rfl rfl 2 (by decide) (hts (.fieldLink RX0 21 "Spotbeat$Body" "makers" "[I") (by decide +kernel)) (fun _ h9 => h9) rfl dX0_init_39 ?_
  refine lv_iload_n hx hb dX0_init_42 rfl (lv_at hl 0 rfl) ?_
  refine lv_bipush (v := (-2)) hx hb dX0_init_43 (by decide) ?_
  refine va_iast hx hb hK hP hD hS 1 0 rfl rfl (by unfold vp_in; decide +kernel) dX0_init_45 (fun H locs hP hD hS => ?_)
  have hP : va_P (dC, dI) vwCl [(tb, .inr (3, [.int a, .int b, .ref q22, .int (-1), .int 0])), (q22, .inl (k22, 24, .inl (upd f_26 (Int32.toNatClampNeg 13) (-2))))] H := hP
  have hD : va_D A [(tb, .inr (3, [.int a, .int b, .ref q22, .int (-1), .int 0])), (q22, .inl (k22, 24, .inl (upd f_26 (Int32.toNatClampNeg 13) (-2))))] := hD
  generalize upd f_26 (Int32.toNatClampNeg 13) (-2) = f_28 at hP hD
  refine lv_iinc (v := 14) (lv' := [(3, .int 14), (0, .ref tb), (1, .int a), (2, .int b)]) hx hb dX0_init_46 hl (k := 0) rfl (by decide) (by decide) rfl (fun ls hl => ?_)
  refine lv_goto (tgt := 29) hx hb dX0_init_49 (by decide) ?_
  refine lv_iload_n hx hb dX0_init_29 rfl (lv_at hl 0 rfl) ?_
  refine lv_aload_n hx hb dX0_init_30 rfl (lv_at hl 1 rfl) ?_
  refine va_get (D := (dC, dI)) (ci := 3) (v := .ref q22) (C := RX0) (T := TX0) (N := 5) hx hb hts (fun w h => List.mem_cons_of_mem _ (List.mem_append_right _ (h))) hown hK hP 0 rfl rfl 2 (by decide) (hts (.fieldLink RX0 21 "Spotbeat$Body" "makers" "[I") (by decide +kernel)) (fun _ h9 => h9) rfl dX0_init_31 ?_
  refine va_alen (v := 24) hx hb hK hP 1 0 rfl rfl rfl dX0_init_34 ?_
  refine lv_icmp_ge (tgt := 52) hx hb dX0_init_35 (by decide) (fun c_29 => absurd c_29 (by decide)) (fun _ => ?_)
  refine lv_aload_n hx hb dX0_init_38 rfl (lv_at hl 1 rfl) ?_
  refine va_get (D := (dC, dI)) (ci := 3) (v := .ref q22) (C := RX0) (T := TX0) (N := 5) hx hb hts (fun w h => List.mem_cons_of_mem _ (List.mem_append_right _ (h))) hown hK hP 0 rfl rfl 2 (by decide) (hts (.fieldLink RX0 21 "Spotbeat$Body" "makers" "[I") (by decide +kernel)) (fun _ h9 => h9) rfl dX0_init_39 ?_
  refine lv_iload_n hx hb dX0_init_42 rfl (lv_at hl 0 rfl) ?_
  refine lv_bipush (v := (-2)) hx hb dX0_init_43 (by decide) ?_
  refine va_iast hx hb hK hP hD hS 1 0 rfl rfl (by unfold vp_in; decide +kernel) dX0_init_45 (fun H locs hP hD hS => ?_)
  have hP : va_P (dC, dI) vwCl [(tb, .inr (3, [.int a, .int b, .ref q22, .int (-1), .int 0])), (q22, .inl (k22, 24, .inl (upd f_28 (Int32.toNatClampNeg 14) (-2))))] H := hP
  have hD : va_D A [(tb, .inr (3, [.int a, .int b, .ref q22, .int (-1), .int 0])), (q22, .inl (k22, 24, .inl (upd f_28 (Int32.toNatClampNeg 14) (-2))))] := hD
  generalize upd f_28 (Int32.toNatClampNeg 14) (-2) = f_30 at hP hD
  refine lv_iinc (v := 15) (lv' := [(3, .int 15), (0, .ref tb), (1, .int a), (2, .int b)]) hx hb dX0_init_46 hl (k := 0) rfl (by decide) (by decide) rfl (fun ls hl => ?_)
  refine lv_goto (tgt := 29) hx hb dX0_init_49 (by decide) ?_
  refine lv_iload_n hx hb dX0_init_29 rfl (lv_at hl 0 rfl) ?_
  refine lv_aload_n hx hb dX0_init_30 rfl (lv_at hl 1 rfl) ?_
  refine va_get (D := (dC, dI)) (ci := 3) (v := .ref q22) (C := RX0) (T := TX0) (N := 5) hx hb hts (fun w h => List.mem_cons_of_mem _ (List.mem_append_right _ (h))) hown hK hP 0 rfl rfl 2 (by decide) (hts (.fieldLink RX0 21 "Spotbeat$Body" "makers" "[I") (by decide +kernel)) (fun _ h9 => h9) rfl dX0_init_31 ?_
  refine va_alen (v := 24) hx hb hK hP 1 0 rfl rfl rfl dX0_init_34 ?_
  refine lv_icmp_ge (tgt := 52) hx hb dX0_init_35 (by decide) (fun c_31 => absurd c_31 (by decide)) (fun _ => ?_)
  refine lv_aload_n hx hb dX0_init_38 rfl (lv_at hl 1 rfl) ?_
  refine va_get (D := (dC, dI)) (ci := 3) (v := .ref q22) (C := RX0) (T := TX0) (N := 5) hx hb hts (fun w h => List.mem_cons_of_mem _ (List.mem_append_right _ (h))) hown hK hP 0 rfl rfl 2 (by decide) (hts (.fieldLink RX0 21 "Spotbeat$Body" "makers" "[I") (by decide +kernel)) (fun _ h9 => h9) rfl dX0_init_39 ?_
  refine lv_iload_n hx hb dX0_init_42 rfl (lv_at hl 0 rfl) ?_
  refine lv_bipush (v := (-2)) hx hb dX0_init_43 (by decide) ?_
  refine va_iast hx hb hK hP hD hS 1 0 rfl rfl (by unfold vp_in; decide +kernel) dX0_init_45 (fun H locs hP hD hS => ?_)
  have hP : va_P (dC, dI) vwCl [(tb, .inr (3, [.int a, .int b, .ref q22, .int (-1), .int 0])), (q22, .inl (k22, 24, .inl (upd f_30 (Int32.toNatClampNeg 15) (-2))))] H := hP
  have hD : va_D A [(tb, .inr (3, [.int a, .int b, .ref q22, .int (-1), .int 0])), (q22, .inl (k22, 24, .inl (upd f_30 (Int32.toNatClampNeg 15) (-2))))] := hD
  generalize upd f_30 (Int32.toNatClampNeg 15) (-2) = f_32 at hP hD
  refine lv_iinc (v := 16) (lv' := [(3, .int 16), (0, .ref tb), (1, .int a), (2, .int b)]) hx hb dX0_init_46 hl (k := 0) rfl (by decide) (by decide) rfl (fun ls hl => ?_)
  refine lv_goto (tgt := 29) hx hb dX0_init_49 (by decide) ?_
  refine lv_iload_n hx hb dX0_init_29 rfl (lv_at hl 0 rfl) ?_
  refine lv_aload_n hx hb dX0_init_30 rfl (lv_at hl 1 rfl) ?_
  refine va_get (D := (dC, dI)) (ci := 3) (v := .ref q22) (C := RX0) (T := TX0) (N := 5) hx hb hts (fun w h => List.mem_cons_of_mem _ (List.mem_append_right _ (h))) hown hK hP 0 rfl rfl 2 (by decide) (hts (.fieldLink RX0 21 "Spotbeat$Body" "makers" "[I") (by decide +kernel)) (fun _ h9 => h9) rfl dX0_init_31 ?_
  refine va_alen (v := 24) hx hb hK hP 1 0 rfl rfl rfl dX0_init_34 ?_
  refine lv_icmp_ge (tgt := 52) hx hb dX0_init_35 (by decide) (fun c_33 => absurd c_33 (by decide)) (fun _ => ?_)
  refine lv_aload_n hx hb dX0_init_38 rfl (lv_at hl 1 rfl) ?_
  refine va_get (D := (dC, dI)) (ci := 3) (v := .ref q22) (C := RX0) (T := TX0) (N := 5) hx hb hts (fun w h => List.mem_cons_of_mem _ (List.mem_append_right _ (h))) hown hK hP 0 rfl rfl 2 (by decide) (hts (.fieldLink RX0 21 "Spotbeat$Body" "makers" "[I") (by decide +kernel)) (fun _ h9 => h9) rfl dX0_init_39 ?_
  refine lv_iload_n hx hb dX0_init_42 rfl (lv_at hl 0 rfl) ?_
  refine lv_bipush (v := (-2)) hx hb dX0_init_43 (by decide) ?_
  refine va_iast hx hb hK hP hD hS 1 0 rfl rfl (by unfold vp_in; decide +kernel) dX0_init_45 (fun H locs hP hD hS => ?_)
  have hP : va_P (dC, dI) vwCl [(tb, .inr (3, [.int a, .int b, .ref q22, .int (-1), .int 0])), (q22, .inl (k22, 24, .inl (upd f_32 (Int32.toNatClampNeg 16) (-2))))] H := hP
  have hD : va_D A [(tb, .inr (3, [.int a, .int b, .ref q22, .int (-1), .int 0])), (q22, .inl (k22, 24, .inl (upd f_32 (Int32.toNatClampNeg 16) (-2))))] := hD
  generalize upd f_32 (Int32.toNatClampNeg 16) (-2) = f_34 at hP hD
  refine lv_iinc (v := 17) (lv' := [(3, .int 17), (0, .ref tb), (1, .int a), (2, .int b)]) hx hb dX0_init_46 hl (k := 0) rfl (by decide) (by decide) rfl (fun ls hl => ?_)
  refine lv_goto (tgt := 29) hx hb dX0_init_49 (by decide) ?_
  refine lv_iload_n hx hb dX0_init_29 rfl (lv_at hl 0 rfl) ?_
  refine lv_aload_n hx hb dX0_init_30 rfl (lv_at hl 1 rfl) ?_
  refine va_get (D := (dC, dI)) (ci := 3) (v := .ref q22) (C := RX0) (T := TX0) (N := 5) hx hb hts (fun w h => List.mem_cons_of_mem _ (List.mem_append_right _ (h))) hown hK hP 0 rfl rfl 2 (by decide) (hts (.fieldLink RX0 21 "Spotbeat$Body" "makers" "[I") (by decide +kernel)) (fun _ h9 => h9) rfl dX0_init_31 ?_
  refine va_alen (v := 24) hx hb hK hP 1 0 rfl rfl rfl dX0_init_34 ?_
  refine lv_icmp_ge (tgt := 52) hx hb dX0_init_35 (by decide) (fun c_35 => absurd c_35 (by decide)) (fun _ => ?_)
  refine lv_aload_n hx hb dX0_init_38 rfl (lv_at hl 1 rfl) ?_
  refine va_get (D := (dC, dI)) (ci := 3) (v := .ref q22) (C := RX0) (T := TX0) (N := 5) hx hb hts (fun w h => List.mem_cons_of_mem _ (List.mem_append_right _ (h))) hown hK hP 0 rfl rfl 2 (by decide) (hts (.fieldLink RX0 21 "Spotbeat$Body" "makers" "[I") (by decide +kernel)) (fun _ h9 => h9) rfl dX0_init_39 ?_
  refine lv_iload_n hx hb dX0_init_42 rfl (lv_at hl 0 rfl) ?_
  refine lv_bipush (v := (-2)) hx hb dX0_init_43 (by decide) ?_
  refine va_iast hx hb hK hP hD hS 1 0 rfl rfl (by unfold vp_in; decide +kernel) dX0_init_45 (fun H locs hP hD hS => ?_)
  have hP : va_P (dC, dI) vwCl [(tb, .inr (3, [.int a, .int b, .ref q22, .int (-1), .int 0])), (q22, .inl (k22, 24, .inl (upd f_34 (Int32.toNatClampNeg 17) (-2))))] H := hP
  have hD : va_D A [(tb, .inr (3, [.int a, .int b, .ref q22, .int (-1), .int 0])), (q22, .inl (k22, 24, .inl (upd f_34 (Int32.toNatClampNeg 17) (-2))))] := hD
  generalize upd f_34 (Int32.toNatClampNeg 17) (-2) = f_36 at hP hD
  refine lv_iinc (v := 18) (lv' := [(3, .int 18), (0, .ref tb), (1, .int a), (2, .int b)]) hx hb dX0_init_46 hl (k := 0) rfl (by decide) (by decide) rfl (fun ls hl => ?_)
  refine lv_goto (tgt := 29) hx hb dX0_init_49 (by decide) ?_
  refine lv_iload_n hx hb dX0_init_29 rfl (lv_at hl 0 rfl) ?_
  refine lv_aload_n hx hb dX0_init_30 rfl (lv_at hl 1 rfl) ?_
  refine va_get (D := (dC, dI)) (ci := 3) (v := .ref q22) (C := RX0) (T := TX0) (N := 5) hx hb hts (fun w h => List.mem_cons_of_mem _ (List.mem_append_right _ (h))) hown hK hP 0 rfl rfl 2 (by decide) (hts (.fieldLink RX0 21 "Spotbeat$Body" "makers" "[I") (by decide +kernel)) (fun _ h9 => h9) rfl dX0_init_31 ?_
  refine va_alen (v := 24) hx hb hK hP 1 0 rfl rfl rfl dX0_init_34 ?_
  refine lv_icmp_ge (tgt := 52) hx hb dX0_init_35 (by decide) (fun c_37 => absurd c_37 (by decide)) (fun _ => ?_)
  refine lv_aload_n hx hb dX0_init_38 rfl (lv_at hl 1 rfl) ?_
  refine va_get (D := (dC, dI)) (ci := 3) (v := .ref q22) (C := RX0) (T := TX0) (N := 5) hx hb hts (fun w h => List.mem_cons_of_mem _ (List.mem_append_right _ (h))) hown hK hP 0 rfl rfl 2 (by decide) (hts (.fieldLink RX0 21 "Spotbeat$Body" "makers" "[I") (by decide +kernel)) (fun _ h9 => h9) rfl dX0_init_39 ?_
  refine lv_iload_n hx hb dX0_init_42 rfl (lv_at hl 0 rfl) ?_
  refine lv_bipush (v := (-2)) hx hb dX0_init_43 (by decide) ?_
  refine va_iast hx hb hK hP hD hS 1 0 rfl rfl (by unfold vp_in; decide +kernel) dX0_init_45 (fun H locs hP hD hS => ?_)
  have hP : va_P (dC, dI) vwCl [(tb, .inr (3, [.int a, .int b, .ref q22, .int (-1), .int 0])), (q22, .inl (k22, 24, .inl (upd f_36 (Int32.toNatClampNeg 18) (-2))))] H := hP
  have hD : va_D A [(tb, .inr (3, [.int a, .int b, .ref q22, .int (-1), .int 0])), (q22, .inl (k22, 24, .inl (upd f_36 (Int32.toNatClampNeg 18) (-2))))] := hD
  generalize upd f_36 (Int32.toNatClampNeg 18) (-2) = f_38 at hP hD
  refine lv_iinc (v := 19) (lv' := [(3, .int 19), (0, .ref tb), (1, .int a), (2, .int b)]) hx hb dX0_init_46 hl (k := 0) rfl (by decide) (by decide) rfl (fun ls hl => ?_)
  refine lv_goto (tgt := 29) hx hb dX0_init_49 (by decide) ?_
  refine lv_iload_n hx hb dX0_init_29 rfl (lv_at hl 0 rfl) ?_
  refine lv_aload_n hx hb dX0_init_30 rfl (lv_at hl 1 rfl) ?_
  refine va_get (D := (dC, dI)) (ci := 3) (v := .ref q22) (C := RX0) (T := TX0) (N := 5) hx hb hts (fun w h => List.mem_cons_of_mem _ (List.mem_append_right _ (h))) hown hK hP 0 rfl rfl 2 (by decide) (hts (.fieldLink RX0 21 "Spotbeat$Body" "makers" "[I") (by decide +kernel)) (fun _ h9 => h9) rfl dX0_init_31 ?_
  refine va_alen (v := 24) hx hb hK hP 1 0 rfl rfl rfl dX0_init_34 ?_
  refine lv_icmp_ge (tgt := 52) hx hb dX0_init_35 (by decide) (fun c_39 => absurd c_39 (by decide)) (fun _ => ?_)
  refine lv_aload_n hx hb dX0_init_38 rfl (lv_at hl 1 rfl) ?_
  refine va_get (D := (dC, dI)) (ci := 3) (v := .ref q22) (C := RX0) (T := TX0) (N := 5) hx hb hts (fun w h => List.mem_cons_of_mem _ (List.mem_append_right _ (h))) hown hK hP 0 rfl rfl 2 (by decide) (hts (.fieldLink RX0 21 "Spotbeat$Body" "makers" "[I") (by decide +kernel)) (fun _ h9 => h9) rfl dX0_init_39 ?_
  refine lv_iload_n hx hb dX0_init_42 rfl (lv_at hl 0 rfl) ?_
  refine lv_bipush (v := (-2)) hx hb dX0_init_43 (by decide) ?_
  refine va_iast hx hb hK hP hD hS 1 0 rfl rfl (by unfold vp_in; decide +kernel) dX0_init_45 (fun H locs hP hD hS => ?_)
  have hP : va_P (dC, dI) vwCl [(tb, .inr (3, [.int a, .int b, .ref q22, .int (-1), .int 0])), (q22, .inl (k22, 24, .inl (upd f_38 (Int32.toNatClampNeg 19) (-2))))] H := hP
  have hD : va_D A [(tb, .inr (3, [.int a, .int b, .ref q22, .int (-1), .int 0])), (q22, .inl (k22, 24, .inl (upd f_38 (Int32.toNatClampNeg 19) (-2))))] := hD
  generalize upd f_38 (Int32.toNatClampNeg 19) (-2) = f_40 at hP hD
  refine lv_iinc (v := 20) (lv' := [(3, .int 20), (0, .ref tb), (1, .int a), (2, .int b)]) hx hb dX0_init_46 hl (k := 0) rfl (by decide) (by decide) rfl (fun ls hl => ?_)
  refine lv_goto (tgt := 29) hx hb dX0_init_49 (by decide) ?_
  refine lv_iload_n hx hb dX0_init_29 rfl (lv_at hl 0 rfl) ?_
  refine lv_aload_n hx hb dX0_init_30 rfl (lv_at hl 1 rfl) ?_
  refine va_get (D := (dC, dI)) (ci := 3) (v := .ref q22) (C := RX0) (T := TX0) (N := 5) hx hb hts (fun w h => List.mem_cons_of_mem _ (List.mem_append_right _ (h))) hown hK hP 0 rfl rfl 2 (by decide) (hts (.fieldLink RX0 21 "Spotbeat$Body" "makers" "[I") (by decide +kernel)) (fun _ h9 => h9) rfl dX0_init_31 ?_
  refine va_alen (v := 24) hx hb hK hP 1 0 rfl rfl rfl dX0_init_34 ?_
  refine lv_icmp_ge (tgt := 52) hx hb dX0_init_35 (by decide) (fun c_41 => absurd c_41 (by decide)) (fun _ => ?_)
  refine lv_aload_n hx hb dX0_init_38 rfl (lv_at hl 1 rfl) ?_
  refine va_get (D := (dC, dI)) (ci := 3) (v := .ref q22) (C := RX0) (T := TX0) (N := 5) hx hb hts (fun w h => List.mem_cons_of_mem _ (List.mem_append_right _ (h))) hown hK hP 0 rfl rfl 2 (by decide) (hts (.fieldLink RX0 21 "Spotbeat$Body" "makers" "[I") (by decide +kernel)) (fun _ h9 => h9) rfl dX0_init_39 ?_
  refine lv_iload_n hx hb dX0_init_42 rfl (lv_at hl 0 rfl) ?_
  refine lv_bipush (v := (-2)) hx hb dX0_init_43 (by decide) ?_
  refine va_iast hx hb hK hP hD hS 1 0 rfl rfl (by unfold vp_in; decide +kernel) dX0_init_45 (fun H locs hP hD hS => ?_)
  have hP : va_P (dC, dI) vwCl [(tb, .inr (3, [.int a, .int b, .ref q22, .int (-1), .int 0])), (q22, .inl (k22, 24, .inl (upd f_40 (Int32.toNatClampNeg 20) (-2))))] H := hP
  have hD : va_D A [(tb, .inr (3, [.int a, .int b, .ref q22, .int (-1), .int 0])), (q22, .inl (k22, 24, .inl (upd f_40 (Int32.toNatClampNeg 20) (-2))))] := hD
  generalize upd f_40 (Int32.toNatClampNeg 20) (-2) = f_42 at hP hD
  refine lv_iinc (v := 21) (lv' := [(3, .int 21), (0, .ref tb), (1, .int a), (2, .int b)]) hx hb dX0_init_46 hl (k := 0) rfl (by decide) (by decide) rfl (fun ls hl => ?_)
  refine lv_goto (tgt := 29) hx hb dX0_init_49 (by decide) ?_
  refine lv_iload_n hx hb dX0_init_29 rfl (lv_at hl 0 rfl) ?_
  refine lv_aload_n hx hb dX0_init_30 rfl (lv_at hl 1 rfl) ?_
  refine va_get (D := (dC, dI)) (ci := 3) (v := .ref q22) (C := RX0) (T := TX0) (N := 5) hx hb hts (fun w h => List.mem_cons_of_mem _ (List.mem_append_right _ (h))) hown hK hP 0 rfl rfl 2 (by decide) (hts (.fieldLink RX0 21 "Spotbeat$Body" "makers" "[I") (by decide +kernel)) (fun _ h9 => h9) rfl dX0_init_31 ?_
  refine va_alen (v := 24) hx hb hK hP 1 0 rfl rfl rfl dX0_init_34 ?_
  refine lv_icmp_ge (tgt := 52) hx hb dX0_init_35 (by decide) (fun c_43 => absurd c_43 (by decide)) (fun _ => ?_)
  refine lv_aload_n hx hb dX0_init_38 rfl (lv_at hl 1 rfl) ?_
  refine va_get (D := (dC, dI)) (ci := 3) (v := .ref q22) (C := RX0) (T := TX0) (N := 5) hx hb hts (fun w h => List.mem_cons_of_mem _ (List.mem_append_right _ (h))) hown hK hP 0 rfl rfl 2 (by decide) (hts (.fieldLink RX0 21 "Spotbeat$Body" "makers" "[I") (by decide +kernel)) (fun _ h9 => h9) rfl dX0_init_39 ?_
  refine lv_iload_n hx hb dX0_init_42 rfl (lv_at hl 0 rfl) ?_
  refine lv_bipush (v := (-2)) hx hb dX0_init_43 (by decide) ?_
  refine va_iast hx hb hK hP hD hS 1 0 rfl rfl (by unfold vp_in; decide +kernel) dX0_init_45 (fun H locs hP hD hS => ?_)
  have hP : va_P (dC, dI) vwCl [(tb, .inr (3, [.int a, .int b, .ref q22, .int (-1), .int 0])), (q22, .inl (k22, 24, .inl (upd f_42 (Int32.toNatClampNeg 21) (-2))))] H := hP
  have hD : va_D A [(tb, .inr (3, [.int a, .int b, .ref q22, .int (-1), .int 0])), (q22, .inl (k22, 24, .inl (upd f_42 (Int32.toNatClampNeg 21) (-2))))] := hD
  generalize upd f_42 (Int32.toNatClampNeg 21) (-2) = f_44 at hP hD
  refine lv_iinc (v := 22) (lv' := [(3, .int 22), (0, .ref tb), (1, .int a), (2, .int b)]) hx hb dX0_init_46 hl (k := 0) rfl (by decide) (by decide) rfl (fun ls hl => ?_)
  refine lv_goto (tgt := 29) hx hb dX0_init_49 (by decide) ?_
  refine lv_iload_n hx hb dX0_init_29 rfl (lv_at hl 0 rfl) ?_
  refine lv_aload_n hx hb dX0_init_30 rfl (lv_at hl 1 rfl) ?_
  refine va_get (D := (dC, dI)) (ci := 3) (v := .ref q22) (C := RX0) (T := TX0) (N := 5) hx hb hts (fun w h => List.mem_cons_of_mem _ (List.mem_append_right _ (h))) hown hK hP 0 rfl rfl 2 (by decide) (hts (.fieldLink RX0 21 "Spotbeat$Body" "makers" "[I") (by decide +kernel)) (fun _ h9 => h9) rfl dX0_init_31 ?_
  refine va_alen (v := 24) hx hb hK hP 1 0 rfl rfl rfl dX0_init_34 ?_
  refine lv_icmp_ge (tgt := 52) hx hb dX0_init_35 (by decide) (fun c_45 => absurd c_45 (by decide)) (fun _ => ?_)
  refine lv_aload_n hx hb dX0_init_38 rfl (lv_at hl 1 rfl) ?_
  refine va_get (D := (dC, dI)) (ci := 3) (v := .ref q22) (C := RX0) (T := TX0) (N := 5) hx hb hts (fun w h => List.mem_cons_of_mem _ (List.mem_append_right _ (h))) hown hK hP 0 rfl rfl 2 (by decide) (hts (.fieldLink RX0 21 "Spotbeat$Body" "makers" "[I") (by decide +kernel)) (fun _ h9 => h9) rfl dX0_init_39 ?_
  refine lv_iload_n hx hb dX0_init_42 rfl (lv_at hl 0 rfl) ?_
  refine lv_bipush (v := (-2)) hx hb dX0_init_43 (by decide) ?_
  refine va_iast hx hb hK hP hD hS 1 0 rfl rfl (by unfold vp_in; decide +kernel) dX0_init_45 (fun H locs hP hD hS => ?_)
  have hP : va_P (dC, dI) vwCl [(tb, .inr (3, [.int a, .int b, .ref q22, .int (-1), .int 0])), (q22, .inl (k22, 24, .inl (upd f_44 (Int32.toNatClampNeg 22) (-2))))] H := hP
  have hD : va_D A [(tb, .inr (3, [.int a, .int b, .ref q22, .int (-1), .int 0])), (q22, .inl (k22, 24, .inl (upd f_44 (Int32.toNatClampNeg 22) (-2))))] := hD
  generalize upd f_44 (Int32.toNatClampNeg 22) (-2) = f_46 at hP hD
  refine lv_iinc (v := 23) (lv' := [(3, .int 23), (0, .ref tb), (1, .int a), (2, .int b)]) hx hb dX0_init_46 hl (k := 0) rfl (by decide) (by decide) rfl (fun ls hl => ?_)
  refine lv_goto (tgt := 29) hx hb dX0_init_49 (by decide) ?_
  refine lv_iload_n hx hb dX0_init_29 rfl (lv_at hl 0 rfl) ?_
  refine lv_aload_n hx hb dX0_init_30 rfl (lv_at hl 1 rfl) ?_
  refine va_get (D := (dC, dI)) (ci := 3) (v := .ref q22) (C := RX0) (T := TX0) (N := 5) hx hb hts (fun w h => List.mem_cons_of_mem _ (List.mem_append_right _ (h))) hown hK hP 0 rfl rfl 2 (by decide) (hts (.fieldLink RX0 21 "Spotbeat$Body" "makers" "[I") (by decide +kernel)) (fun _ h9 => h9) rfl dX0_init_31 ?_
  refine va_alen (v := 24) hx hb hK hP 1 0 rfl rfl rfl dX0_init_34 ?_
  refine lv_icmp_ge (tgt := 52) hx hb dX0_init_35 (by decide) (fun c_47 => absurd c_47 (by decide)) (fun _ => ?_)
  refine lv_aload_n hx hb dX0_init_38 rfl (lv_at hl 1 rfl) ?_
  refine va_get (D := (dC, dI)) (ci := 3) (v := .ref q22) (C := RX0) (T := TX0) (N := 5) hx hb hts (fun w h => List.mem_cons_of_mem _ (List.mem_append_right _ (h))) hown hK hP 0 rfl rfl 2 (by decide) (hts (.fieldLink RX0 21 "Spotbeat$Body" "makers" "[I") (by decide +kernel)) (fun _ h9 => h9) rfl dX0_init_39 ?_
  refine lv_iload_n hx hb dX0_init_42 rfl (lv_at hl 0 rfl) ?_
  refine lv_bipush (v := (-2)) hx hb dX0_init_43 (by decide) ?_
  refine va_iast hx hb hK hP hD hS 1 0 rfl rfl (by unfold vp_in; decide +kernel) dX0_init_45 (fun H locs hP hD hS => ?_)
  have hP : va_P (dC, dI) vwCl [(tb, .inr (3, [.int a, .int b, .ref q22, .int (-1), .int 0])), (q22, .inl (k22, 24, .inl (upd f_46 (Int32.toNatClampNeg 23) (-2))))] H := hP
  have hD : va_D A [(tb, .inr (3, [.int a, .int b, .ref q22, .int (-1), .int 0])), (q22, .inl (k22, 24, .inl (upd f_46 (Int32.toNatClampNeg 23) (-2))))] := hD
  generalize upd f_46 (Int32.toNatClampNeg 23) (-2) = f_48 at hP hD
  refine lv_iinc (v := 24) (lv' := [(3, .int 24), (0, .ref tb), (1, .int a), (2, .int b)]) hx hb dX0_init_46 hl (k := 0) rfl (by decide) (by decide) rfl (fun ls hl => ?_)
  refine lv_goto (tgt := 29) hx hb dX0_init_49 (by decide) ?_
  refine lv_iload_n hx hb dX0_init_29 rfl (lv_at hl 0 rfl) ?_
  refine lv_aload_n hx hb dX0_init_30 rfl (lv_at hl 1 rfl) ?_
  refine va_get (D := (dC, dI)) (ci := 3) (v := .ref q22) (C := RX0) (T := TX0) (N := 5) hx hb hts (fun w h => List.mem_cons_of_mem _ (List.mem_append_right _ (h))) hown hK hP 0 rfl rfl 2 (by decide) (hts (.fieldLink RX0 21 "Spotbeat$Body" "makers" "[I") (by decide +kernel)) (fun _ h9 => h9) rfl dX0_init_31 ?_
  refine va_alen (v := 24) hx hb hK hP 1 0 rfl rfl rfl dX0_init_34 ?_
  refine lv_icmp_ge (tgt := 52) hx hb dX0_init_35 (by decide) (fun _ => ?_) (fun c_49 => absurd c_49 (by decide))
  have hP9 := hP.sub (ws' := [(tb, .inr (3, [.int a, .int b, .ref q22, .int (-1), .int 0]))]) [0] rfl
  have hD9 := hD.sub (ws' := [(tb, .inr (3, [.int a, .int b, .ref q22, .int (-1), .int 0]))]) [0] (by decide) rfl
  have hK9 := hK.sub (tys' := []) [] rfl
  refine W.widen (k := 1) (n := 24) (Nat.le_of_ble_eq_true rfl) (Nat.le_of_ble_eq_true rfl) ?_
  exact W.vret hx hb hr (fun t ht hW => ⟨⟨[.int a, .int b, .ref q22, .int (-1), .int 0], rfl, trivial, by rw [ht]; exact hP9, va_K.moved hW.alike hK9, hD9⟩, hS.F ht⟩) hS.2.2 dX0_init_52

def zwX1_init : List Cond := .code yX1_init cX1_init 2 none :: (([.methodLink RX1 3 objectInit, .instanceMethod objectInit, .code objectInit ⟨#[0xb1]⟩ 1 none, .classLink RX1 9 RX6, .fieldLink RX1 11 "Spotbeat$Paces" "tracks" "[LSpotbeat$Track;", .instantiable RX6 6, .initialized RX6, .methodLink RX1 17 yX6_init, .instanceMethod yX6_init, .arrayClass .boolean, .fieldLink RX1 18 "Spotbeat$Paces" "seen" "[Z"] : List Cond) ++ (wsX10 ++ (wsX60 ++ (zwX6_init))))
theorem zgX1_init : zwX1_init.all goodWord = true := zgo rfl (zga (by decide +kernel) (zga zgcX1 (zga zgcX6 (zgX6_init))))
set_option maxHeartbeats 4000000 in
set_option maxRecDepth 100000 in
/-- Paces(): nothing else is touched -/
theorem c_X1_init (l : Launch) (dC : Nat → ClassId) (dI : Nat → Nat → Nat) (sz : Nat) (tb : Nat) : Met l yX1_init zwX1_init ({ frames := 2, cells := 17, slots := 2374, locals := 32 }) (gPcE dC dI sz [(tb, .inr (4, [.null, .null, .int 0, .int 0, .int 0, .int 0]))] [] [.ref tb]) (va_Qv (fun (u : Unit) => True) (fun u t => True) (va_A [(tb, .inr (4, [.null, .null, .int 0, .int 0, .int 0, .int 0]))] sz)) 17 2374 (va_A [(tb, .inr (4, [.null, .null, .int 0, .int 0, .int 0, .int 0]))] sz) := by
  refine Met.ofW (cc := cX1_init) (maxL := 2) (ret := none) (by decide) rfl ?_
  intro p e s m args below meth c s₁ B hml hv
  obtain ⟨rfl, hsz, hP, hK, hD0, hE⟩ := hv
  have hx := B.exec
  have hb := B.bytes
  have hr := B.returns
  have hts := atoms_spec (ws := zwX1_init) B.pre
  have hown : s.vm.findClass RX1 = some m.cls := findClass_of_methodNamed B.named
  have hlocks := B.notSynchronized
  have hin : meth.name = "<init>" := (name_of_methodNamed B.named B.method).1
  subst hsz
  have hD := hD0.self (sz := s.heap.size)
  generalize hAe : va_A [(tb, .inr (4, [.null, .null, .int 0, .int 0, .int 0, .int 0]))] s.heap.size = A at hD hE ⊢
  have hA : ∀ q : Nat, s.heap.size ≤ q → A q := fun q h => by rw [← hAe]; exact Or.inr h
  have hS : va_S A s.heap s.heap [] := va_S.rf
  have hP : va_P (dC, dI) vwCl [(tb, .inr (4, [.null, .null, .int 0, .int 0, .int 0, .int 0]))] s.heap := hP
  have hl := lv_entry ([.ref tb]) (n := 2) (Nat.le_of_ble_eq_true rfl)
  rw [lg_entry_eq]
  generalize (lg_sl ([.ref tb]) ++ List.replicate (2 - (lg_sl ([.ref tb])).length) Slot.unset).toArray = ls at hl ⊢
  have hl : lv_has ls 2 [(0, .ref tb)] := hl
  refine lv_aload_n hx hb dX1_init_0 rfl (lv_at hl 0 rfl) ?_
  refine W.objInit hx hb hown (hts (.methodLink RX1 3 objectInit) (by decide +kernel)) (hts (.instanceMethod objectInit) (by decide +kernel)) (hts (.code objectInit ⟨#[0xb1]⟩ 1 none) (by decide +kernel)) rfl (by rw [hml]; exact hl.1) rfl dX1_init_1 (Nat.le_of_ble_eq_true rfl) (Nat.le_of_ble_eq_true rfl) ?_
  refine W.eq (g2 := F0 m 4 ls []) rfl ?_
  refine lv_aload_n hx hb dX1_init_4 rfl (lv_at hl 0 rfl) ?_
  refine lv_iconst (v := 3) hx hb dX1_init_5 (by decide) ?_
  refine va_newq (N' := 3) hx hb hown (hts (.classLink RX1 9 RX6) (by decide +kernel)) (hE.2.2.2.2.2.1 _ (by decide)) hK hP hD hS hA (by decide) (by decide +kernel) (by decide) (Nat.le_of_ble_eq_true rfl) (Nat.le_of_ble_eq_true rfl) dX1_init_6 (fun q6 k6 H hK hP hD hS => ?_)
  have hK : va_K (dC, dI) vwCl [(k6, .object RX6)] s := hK
  have hP : va_P (dC, dI) vwCl [(tb, .inr (4, [.null, .null, .int 0, .int 0, .int 0, .int 0])), (q6, .inl (k6, 3, .inr (.inr (.inr (.inr (fun _ => none))))))] H := hP
  have hD : va_D A [(tb, .inr (4, [.null, .null, .int 0, .int 0, .int 0, .int 0])), (q6, .inl (k6, 3, .inr (.inr (.inr (.inr (fun _ => none))))))] := hD
  refine va_putF (D := (dC, dI)) (ci := 4) (v := .ref q6) (ty := .array (.object "Spotbeat$Track")) (C := RX1) (T := TX1) (N := 6) hx hb hts (fun w h => List.mem_cons_of_mem _ (List.mem_append_right _ (List.mem_append_left _ h))) tyX1 tyX1_ok nmX1 hown hK hP hD hS 0 rfl rfl 0 (by decide) (hts (.fieldLink RX1 11 "Spotbeat$Paces" "tracks" "[LSpotbeat$Track;") (by decide +kernel)) (fun _ h9 => h9) rfl hin rfl (by decide +kernel) rfl rfl (Nat.le_of_ble_eq_true rfl) dX1_init_9 (fun H locs hP hD hS => ?_)
  have hP : va_P (dC, dI) vwCl [(tb, .inr (4, [.ref q6, .null, .int 0, .int 0, .int 0, .int 0])), (q6, .inl (k6, 3, .inr (.inr (.inr (.inr (fun _ => none))))))] H := hP
  have hD : va_D A [(tb, .inr (4, [.ref q6, .null, .int 0, .int 0, .int 0, .int 0])), (q6, .inl (k6, 3, .inr (.inr (.inr (.inr (fun _ => none))))))] := hD
  refine lv_iconst (v := 0) hx hb dX1_init_12 (by decide) ?_
  refine lv_istore_n (lv' := [(1, .int 0), (0, .ref tb)]) hx hb dX1_init_13 rfl hl (by decide) rfl (fun ls hl => ?_)
  refine lv_iload_n hx hb dX1_init_14 rfl (lv_at hl 0 rfl) ?_
  refine lv_aload_n hx hb dX1_init_15 rfl (lv_at hl 1 rfl) ?_
  refine va_get (D := (dC, dI)) (ci := 4) (v := .ref q6) (C := RX1) (T := TX1) (N := 6) hx hb hts (fun w h => List.mem_cons_of_mem _ (List.mem_append_right _ (List.mem_append_left _ h))) hown hK hP 0 rfl rfl 0 (by decide) (hts (.fieldLink RX1 11 "Spotbeat$Paces" "tracks" "[LSpotbeat$Track;") (by decide +kernel)) (fun _ h9 => h9) rfl dX1_init_16 ?_
  refine va_alen (v := 3) hx hb hK hP 1 0 rfl rfl rfl dX1_init_19 ?_
  refine lv_icmp_ge (tgt := 42) hx hb dX1_init_20 (by decide) (fun c_1 => absurd c_1 (by decide)) (fun _ => ?_)
  refine lv_aload_n hx hb dX1_init_23 rfl (lv_at hl 1 rfl) ?_
  refine va_get (D := (dC, dI)) (ci := 4) (v := .ref q6) (C := RX1) (T := TX1) (N := 6) hx hb hts (fun w h => List.mem_cons_of_mem _ (List.mem_append_right _ (List.mem_append_left _ h))) hown hK hP 0 rfl rfl 0 (by decide) (hts (.fieldLink RX1 11 "Spotbeat$Paces" "tracks" "[LSpotbeat$Track;") (by decide +kernel)) (fun _ h9 => h9) rfl dX1_init_24 ?_
  refine lv_iload_n hx hb dX1_init_27 rfl (lv_at hl 0 rfl) ?_
  refine va_new (ci := 9) (fs := [.null, .null, .null, .null, .int 0, .int 0]) (C := RX6) (T := TX6) (N := 6) hx hb hts (fun w h => List.mem_cons_of_mem _ (List.mem_append_right _ (List.mem_append_right _ (List.mem_append_left _ h)))) tyX6 tyX6_ok hown (hts (.classLink RX1 9 RX6) (by decide +kernel)) (hts (.instantiable RX6 6) (by decide +kernel)) (hts (.initialized RX6) (by decide +kernel)) hK hP hD hS hA rfl (fun j hj => by rcases (show j = 0 ∨ j = 1 ∨ j = 2 ∨ j = 3 ∨ j = 4 ∨ j = 5 by omega) with rfl | rfl | rfl | rfl | rfl | rfl <;> rfl) (Nat.le_of_ble_eq_true rfl) (Nat.le_of_ble_eq_true rfl) dX1_init_28 (fun q28 H hP hD hS => ?_)
  have hP : va_P (dC, dI) vwCl [(tb, .inr (4, [.ref q6, .null, .int 0, .int 0, .int 0, .int 0])), (q6, .inl (k6, 3, .inr (.inr (.inr (.inr (fun _ => none)))))), (q28, .inr (9, [.null, .null, .null, .null, .int 0, .int 0]))] H := hP
  have hD : va_D A [(tb, .inr (4, [.ref q6, .null, .int 0, .int 0, .int 0, .int 0])), (q6, .inl (k6, 3, .inr (.inr (.inr (.inr (fun _ => none)))))), (q28, .inr (9, [.null, .null, .null, .null, .int 0, .int 0]))] := hD
  refine lv_dup hx hb dX1_init_31 rfl ?_
  have hPc := hP.sub (ws' := [(q28, .inr (9, [.null, .null, .null, .null, .int 0, .int 0]))]) [2] rfl
  have hDc := hD.sub (ws' := [(q28, .inr (9, [.null, .null, .null, .null, .int 0, .int 0]))]) [2] (by decide) rfl
  have hKc := hK.sub (tys' := []) [] rfl
  have hFc := va_free (wc := [(q28, .inr (9, [.null, .null, .null, .null, .int 0, .int 0]))]) hD hS hA [2] rfl
  refine va_callv (va_runI (As := []) (rest := [.ref q28, .int 0, .ref q6]) ⟨hx, hb, hml, hown, hts⟩ (c_X6_init l dC dI H.size q28) (cwI 0 hts (goodIn_sub ((fun w h => List.mem_cons_of_mem _ (List.mem_append_right _ (List.mem_append_right _ (List.mem_append_right _ (h)))))) zgX6_init) rfl rfl rfl (hts (.initialized RX6) (by decide +kernel)) (hts (.methodLink RX1 17 yX6_init) (by decide +kernel)) (hts (.instanceMethod yX6_init) (by decide +kernel)) rfl (by decide +kernel) ⟨Nat.le_of_ble_eq_true rfl, Nat.le_of_ble_eq_true rfl⟩) ⟨gPc_blind, gPc_pass hPc hKc hDc⟩ rfl rfl hl.1 rfl (lv_room (Nat.le_of_ble_eq_true rfl)) dX1_init_32 ⟨Nat.le_of_ble_eq_true rfl, Nat.le_of_ble_eq_true rfl⟩) hS (fun q _ h => hFc q h) hFc (fun u_4 t H locs ht hvm hw hB hz hk hS => ?_)
  obtain ⟨hP1, hK1, hD1⟩ := hB
  rw [ht] at hP1
  obtain ⟨hP, hD⟩ := va_join (wr := [(tb, .inr (4, [.ref q6, .null, .int 0, .int 0, .int 0, .int 0])), (q6, .inl (k6, 3, .inr (.inr (.inr (.inr (fun _ => none))))))]) (w1 := [(q28, .inr (9, u_4))]) hP hD [2] [0, 1] rfl rfl (by decide) (by decide) hk hFc hP1 hD1
  have hP : va_P (dC, dI) vwCl [(tb, .inr (4, [.ref q6, .null, .int 0, .int 0, .int 0, .int 0])), (q6, .inl (k6, 3, .inr (.inr (.inr (.inr (fun _ => none)))))), (q28, .inr (9, u_4))] H := hP
  have hD : va_D A [(tb, .inr (4, [.ref q6, .null, .int 0, .int 0, .int 0, .int 0])), (q6, .inl (k6, 3, .inr (.inr (.inr (.inr (fun _ => none)))))), (q28, .inr (9, u_4))] := hD
  have w_5 : True := hw
  refine va_astq hx hb hK hP hD hS 1 0 2 9 rfl rfl rfl rfl (by unfold vp_in; decide +kernel) dX1_init_35 (fun H locs hP hD hS => ?_)
  have hP : va_P (dC, dI) vwCl [(tb, .inr (4, [.ref q6, .null, .int 0, .int 0, .int 0, .int 0])), (q6, .inl (k6, 3, .inr (.inr (.inr (.inr (va_up (fun _ => none) (Int32.toNatClampNeg 0) (some q28))))))), (q28, .inr (9, u_4))] H := hP
  have hD : va_D A [(tb, .inr (4, [.ref q6, .null, .int 0, .int 0, .int 0, .int 0])), (q6, .inl (k6, 3, .inr (.inr (.inr (.inr (va_up (fun _ => none) (Int32.toNatClampNeg 0) (some q28))))))), (q28, .inr (9, u_4))] := hD
  generalize va_up (fun _ => none) (Int32.toNatClampNeg 0) (some q28) = f_6 at hP hD
  refine lv_iinc (v := 1) (lv' := [(1, .int 1), (0, .ref tb)]) hx hb dX1_init_36 hl (k := 0) rfl (by decide) (by decide) rfl (fun ls hl => ?_)
  refine lv_goto (tgt := 14) hx hb dX1_init_39 (by decide) ?_
  refine lv_iload_n hx hb dX1_init_14 rfl (lv_at hl 0 rfl) ?_
  refine lv_aload_n hx hb dX1_init_15 rfl (lv_at hl 1 rfl) ?_
  refine va_get (D := (dC, dI)) (ci := 4) (v := .ref q6) (C := RX1) (T := TX1) (N := 6) hx hb hts (fun w h => List.mem_cons_of_mem _ (List.mem_append_right _ (List.mem_append_left _ h))) hown hK hP 0 rfl rfl 0 (by decide) (hts (.fieldLink RX1 11 "Spotbeat$Paces" "tracks" "[LSpotbeat$Track;") (by decide +kernel)) (fun _ h9 => h9) rfl dX1_init_16 ?_
  refine va_alen (v := 3) hx hb hK hP 1 0 rfl rfl rfl dX1_init_19 ?_
  refine lv_icmp_ge (tgt := 42) hx hb dX1_init_20 (by decide) (fun c_7 => absurd c_7 (by decide)) (fun _ => ?_)
  refine lv_aload_n hx hb dX1_init_23 rfl (lv_at hl 1 rfl) ?_
  refine va_get (D := (dC, dI)) (ci := 4) (v := .ref q6) (C := RX1) (T := TX1) (N := 6) hx hb hts (fun w h => List.mem_cons_of_mem _ (List.mem_append_right _ (List.mem_append_left _ h))) hown hK hP 0 rfl rfl 0 (by decide) (hts (.fieldLink RX1 11 "Spotbeat$Paces" "tracks" "[LSpotbeat$Track;") (by decide +kernel)) (fun _ h9 => h9) rfl dX1_init_24 ?_
  refine lv_iload_n hx hb dX1_init_27 rfl (lv_at hl 0 rfl) ?_
  refine va_new (ci := 9) (fs := [.null, .null, .null, .null, .int 0, .int 0]) (C := RX6) (T := TX6) (N := 6) hx hb hts (fun w h => List.mem_cons_of_mem _ (List.mem_append_right _ (List.mem_append_right _ (List.mem_append_left _ h)))) tyX6 tyX6_ok hown (hts (.classLink RX1 9 RX6) (by decide +kernel)) (hts (.instantiable RX6 6) (by decide +kernel)) (hts (.initialized RX6) (by decide +kernel)) hK hP hD hS hA rfl (fun j hj => by rcases (show j = 0 ∨ j = 1 ∨ j = 2 ∨ j = 3 ∨ j = 4 ∨ j = 5 by omega) with rfl | rfl | rfl | rfl | rfl | rfl <;> rfl) (Nat.le_of_ble_eq_true rfl) (Nat.le_of_ble_eq_true rfl) dX1_init_28 (fun q28_7 H hP hD hS => ?_)
  have hP : va_P (dC, dI) vwCl [(tb, .inr (4, [.ref q6, .null, .int 0, .int 0, .int 0, .int 0])), (q6, .inl (k6, 3, .inr (.inr (.inr (.inr f_6))))), (q28, .inr (9, u_4)), (q28_7, .inr (9, [.null, .null, .null, .null, .int 0, .int 0]))] H := hP
  have hD : va_D A [(tb, .inr (4, [.ref q6, .null, .int 0, .int 0, .int 0, .int 0])), (q6, .inl (k6, 3, .inr (.inr (.inr (.inr f_6))))), (q28, .inr (9, u_4)), (q28_7, .inr (9, [.null, .null, .null, .null, .int 0, .int 0]))] := hD
  refine lv_dup hx hb dX1_init_31 rfl ?_
  have hPc := hP.sub (ws' := [(q28_7, .inr (9, [.null, .null, .null, .null, .int 0, .int 0]))]) [3] rfl
  have hDc := hD.sub (ws' := [(q28_7, .inr (9, [.null, .null, .null, .null, .int 0, .int 0]))]) [3] (by decide) rfl
  have hKc := hK.sub (tys' := []) [] rfl
  have hFc := va_free (wc := [(q28_7, .inr (9, [.null, .null, .null, .null, .int 0, .int 0]))]) hD hS hA [3] rfl
  refine va_callv (va_runI (As := []) (rest := [.ref q28_7, .int 1, .ref q6]) ⟨hx, hb, hml, hown, hts⟩ (c_X6_init l dC dI H.size q28_7) (cwI 0 hts (goodIn_sub ((fun w h => List.mem_cons_of_mem _ (List.mem_append_right _ (List.mem_append_right _ (List.mem_append_right _ (h)))))) zgX6_init) rfl rfl rfl (hts (.initialized RX6) (by decide +kernel)) (hts (.methodLink RX1 17 yX6_init) (by decide +kernel)) (hts (.instanceMethod yX6_init) (by decide +kernel)) rfl (by decide +kernel) ⟨Nat.le_of_ble_eq_true rfl, Nat.le_of_ble_eq_true rfl⟩) ⟨gPc_blind, gPc_pass hPc hKc hDc⟩ rfl rfl hl.1 rfl (lv_room (Nat.le_of_ble_eq_true rfl)) dX1_init_32 ⟨Nat.le_of_ble_eq_true rfl, Nat.le_of_ble_eq_true rfl⟩) hS (fun q _ h => hFc q h) hFc (fun u_10 t H locs ht hvm hw hB hz hk hS => ?_)
  obtain ⟨hP1, hK1, hD1⟩ := hB
  rw [ht] at hP1
  obtain ⟨hP, hD⟩ := va_join (wr := [(tb, .inr (4, [.ref q6, .null, .int 0, .int 0, .int 0, .int 0])), (q6, .inl (k6, 3, .inr (.inr (.inr (.inr f_6))))), (q28, .inr (9, u_4))]) (w1 := [(q28_7, .inr (9, u_10))]) hP hD [3] [0, 1, 2] rfl rfl (by decide) (by decide) hk hFc hP1 hD1
  have hP : va_P (dC, dI) vwCl [(tb, .inr (4, [.ref q6, .null, .int 0, .int 0, .int 0, .int 0])), (q6, .inl (k6, 3, .inr (.inr (.inr (.inr f_6))))), (q28, .inr (9, u_4)), (q28_7, .inr (9, u_10))] H := hP
  have hD : va_D A [(tb, .inr (4, [.ref q6, .null, .int 0, .int 0, .int 0, .int 0])), (q6, .inl (k6, 3, .inr (.inr (.inr (.inr f_6))))), (q28, .inr (9, u_4)), (q28_7, .inr (9, u_10))] := hD
  have w_11 : True := hw
  refine va_astq hx hb hK hP hD hS 1 0 3 9 rfl rfl rfl rfl (by unfold vp_in; decide +kernel) dX1_init_35 (fun H locs hP hD hS => ?_)
  have hP : va_P (dC, dI) vwCl [(tb, .inr (4, [.ref q6, .null, .int 0, .int 0, .int 0, .int 0])), (q6, .inl (k6, 3, .inr (.inr (.inr (.inr (va_up f_6 (Int32.toNatClampNeg 1) (some q28_7))))))), (q28, .inr (9, u_4)), (q28_7, .inr (9, u_10))] H := hP
  have hD : va_D A [(tb, .inr (4, [.ref q6, .null, .int 0, .int 0, .int 0, .int 0])), (q6, .inl (k6, 3, .inr (.inr (.inr (.inr (va_up f_6 (Int32.toNatClampNeg 1) (some q28_7))))))), (q28, .inr (9, u_4)), (q28_7, .inr (9, u_10))] := hD
  generalize va_up f_6 (Int32.toNatClampNeg 1) (some q28_7) = f_12 at hP hD
  refine lv_iinc (v := 2) (lv' := [(1, .int 2), (0, .ref tb)]) hx hb dX1_init_36 hl (k := 0) rfl (by decide) (by decide) rfl (fun ls hl => ?_)
  refine lv_goto (tgt := 14) hx hb dX1_init_39 (by decide) ?_
  refine lv_iload_n hx hb dX1_init_14 rfl (lv_at hl 0 rfl) ?_
  refine lv_aload_n hx hb dX1_init_15 rfl (lv_at hl 1 rfl) ?_
  refine va_get (D := (dC, dI)) (ci := 4) (v := .ref q6) (C := RX1) (T := TX1) (N := 6) hx hb hts (fun w h => List.mem_cons_of_mem _ (List.mem_append_right _ (List.mem_append_left _ h))) hown hK hP 0 rfl rfl 0 (by decide) (hts (.fieldLink RX1 11 "Spotbeat$Paces" "tracks" "[LSpotbeat$Track;") (by decide +kernel)) (fun _ h9 => h9) rfl dX1_init_16 ?_
  refine va_alen (v := 3) hx hb hK hP 1 0 rfl rfl rfl dX1_init_19 ?_
  refine lv_icmp_ge (tgt := 42) hx hb dX1_init_20 (by decide) (fun c_13 => absurd c_13 (by decide)) (fun _ => ?_)
  refine lv_aload_n hx hb dX1_init_23 rfl (lv_at hl 1 rfl) ?_
  refine va_get (D := (dC, dI)) (ci := 4) (v := .ref q6) (C := RX1) (T := TX1) (N := 6) hx hb hts (fun w h => List.mem_cons_of_mem _ (List.mem_append_right _ (List.mem_append_left _ h))) hown hK hP 0 rfl rfl 0 (by decide) (hts (.fieldLink RX1 11 "Spotbeat$Paces" "tracks" "[LSpotbeat$Track;") (by decide +kernel)) (fun _ h9 => h9) rfl dX1_init_24 ?_
  refine lv_iload_n hx hb dX1_init_27 rfl (lv_at hl 0 rfl) ?_
  refine va_new (ci := 9) (fs := [.null, .null, .null, .null, .int 0, .int 0]) (C := RX6) (T := TX6) (N := 6) hx hb hts (fun w h => List.mem_cons_of_mem _ (List.mem_append_right _ (List.mem_append_right _ (List.mem_append_left _ h)))) tyX6 tyX6_ok hown (hts (.classLink RX1 9 RX6) (by decide +kernel)) (hts (.instantiable RX6 6) (by decide +kernel)) (hts (.initialized RX6) (by decide +kernel)) hK hP hD hS hA rfl (fun j hj => by rcases (show j = 0 ∨ j = 1 ∨ j = 2 ∨ j = 3 ∨ j = 4 ∨ j = 5 by omega) with rfl | rfl | rfl | rfl | rfl | rfl <;> rfl) (Nat.le_of_ble_eq_true rfl) (Nat.le_of_ble_eq_true rfl) dX1_init_28 (fun q28_13 H hP hD hS => ?_)
  have hP : va_P (dC, dI) vwCl [(tb, .inr (4, [.ref q6, .null, .int 0, .int 0, .int 0, .int 0])), (q6, .inl (k6, 3, .inr (.inr (.inr (.inr f_12))))), (q28, .inr (9, u_4)), (q28_7, .inr (9, u_10)), (q28_13, .inr (9, [.null, .null, .null, .null, .int 0, .int 0]))] H := hP
  have hD : va_D A [(tb, .inr (4, [.ref q6, .null, .int 0, .int 0, .int 0, .int 0])), (q6, .inl (k6, 3, .inr (.inr (.inr (.inr f_12))))), (q28, .inr (9, u_4)), (q28_7, .inr (9, u_10)), (q28_13, .inr (9, [.null, .null, .null, .null, .int 0, .int 0]))] := hD
  refine lv_dup hx hb dX1_init_31 rfl ?_
  have hPc := hP.sub (ws' := [(q28_13, .inr (9, [.null, .null, .null, .null, .int 0, .int 0]))]) [4] rfl
  have hDc := hD.sub (ws' := [(q28_13, .inr (9, [.null, .null, .null, .null, .int 0, .int 0]))]) [4] (by decide) rfl
  have hKc := hK.sub (tys' := []) [] rfl
  have hFc := va_free (wc := [(q28_13, .inr (9, [.null, .null, .null, .null, .int 0, .int 0]))]) hD hS hA [4] rfl
  refine va_callv (va_runI (As := []) (rest := [.ref q28_13, .int 2, .ref q6]) ⟨hx, hb, hml, hown, hts⟩ (c_X6_init l dC dI H.size q28_13) (cwI 0 hts (goodIn_sub ((fun w h => List.mem_cons_of_mem _ (List.mem_append_right _ (List.mem_append_right _ (List.mem_append_right _ (h)))))) zgX6_init) rfl rfl rfl (hts (.initialized RX6) (by decide +kernel)) (hts (.methodLink RX1 17 yX6_init) (by decide +kernel)) (hts (.instanceMethod yX6_init) (by decide +kernel)) rfl (by decide +kernel) ⟨Nat.le_of_ble_eq_true rfl, Nat.le_of_ble_eq_true rfl⟩) ⟨gPc_blind, gPc_pass hPc hKc hDc⟩ rfl rfl hl.1 rfl (lv_room (Nat.le_of_ble_eq_true rfl)) dX1_init_32 ⟨Nat.le_of_ble_eq_true rfl, Nat.le_of_ble_eq_true rfl⟩) hS (fun q _ h => hFc q h) hFc (fun u_16 t H locs ht hvm hw hB hz hk hS => ?_)
  obtain ⟨hP1, hK1, hD1⟩ := hB
  rw [ht] at hP1
  obtain ⟨hP, hD⟩ := va_join (wr := [(tb, .inr (4, [.ref q6, .null, .int 0, .int 0, .int 0, .int 0])), (q6, .inl (k6, 3, .inr (.inr (.inr (.inr f_12))))), (q28, .inr (9, u_4)), (q28_7, .inr (9, u_10))]) (w1 := [(q28_13, .inr (9, u_16))]) hP hD [4] [0, 1, 2, 3] rfl rfl (by decide) (by decide) hk hFc hP1 hD1
  have hP : va_P (dC, dI) vwCl [(tb, .inr (4, [.ref q6, .null, .int 0, .int 0, .int 0, .int 0])), (q6, .inl (k6, 3, .inr (.inr (.inr (.inr f_12))))), (q28, .inr (9, u_4)), (q28_7, .inr (9, u_10)), (q28_13, .inr (9, u_16))] H := hP
  have hD : va_D A [(tb, .inr (4, [.ref q6, .null, .int 0, .int 0, .int 0, .int 0])), (q6, .inl (k6, 3, .inr (.inr (.inr (.inr f_12))))), (q28, .inr (9, u_4)), (q28_7, .inr (9, u_10)), (q28_13, .inr (9, u_16))] := hD
  have w_17 : True := hw
  refine va_astq hx hb hK hP hD hS 1 0 4 9 rfl rfl rfl rfl (by unfold vp_in; decide +kernel) dX1_init_35 (fun H locs hP hD hS => ?_)
  have hP : va_P (dC, dI) vwCl [(tb, .inr (4, [.ref q6, .null, .int 0, .int 0, .int 0, .int 0])), (q6, .inl (k6, 3, .inr (.inr (.inr (.inr (va_up f_12 (Int32.toNatClampNeg 2) (some q28_13))))))), (q28, .inr (9, u_4)), (q28_7, .inr (9, u_10)), (q28_13, .inr (9, u_16))] H := hP
  have hD : va_D A [(tb, .inr (4, [.ref q6, .null, .int 0, .int 0, .int 0, .int 0])), (q6, .inl (k6, 3, .inr (.inr (.inr (.inr (va_up f_12 (Int32.toNatClampNeg 2) (some q28_13))))))), (q28, .inr (9, u_4)), (q28_7, .inr (9, u_10)), (q28_13, .inr (9, u_16))] := hD
  generalize va_up f_12 (Int32.toNatClampNeg 2) (some q28_13) = f_18 at hP hD
  refine lv_iinc (v := 3) (lv' := [(1, .int 3), (0, .ref tb)]) hx hb dX1_init_36 hl (k := 0) rfl (by decide) (by decide) rfl (fun ls hl => ?_)
  refine lv_goto (tgt := 14) hx hb dX1_init_39 (by decide) ?_
  refine lv_iload_n hx hb dX1_init_14 rfl (lv_at hl 0 rfl) ?_
  refine lv_aload_n hx hb dX1_init_15 rfl (lv_at hl 1 rfl) ?_
  refine va_get (D := (dC, dI)) (ci := 4) (v := .ref q6) (C := RX1) (T := TX1) (N := 6) hx hb hts (fun w h => List.mem_cons_of_mem _ (List.mem_append_right _ (List.mem_append_left _ h))) hown hK hP 0 rfl rfl 0 (by decide) (hts (.fieldLink RX1 11 "Spotbeat$Paces" "tracks" "[LSpotbeat$Track;") (by decide +kernel)) (fun _ h9 => h9) rfl dX1_init_16 ?_
  refine va_alen (v := 3) hx hb hK hP 1 0 rfl rfl rfl dX1_init_19 ?_
  refine lv_icmp_ge (tgt := 42) hx hb dX1_init_20 (by decide) (fun _ => ?_) (fun c_19 => absurd c_19 (by decide))
  refine lv_aload_n hx hb dX1_init_42 rfl (lv_at hl 1 rfl) ?_
  refine lv_sipush (v := 2197) hx hb dX1_init_43 (by decide) ?_
  refine va_newa (atype := .boolean) (N' := 2197) (a0 := (2197, .inl (fun _ => 0))) hx hb (hts (.arrayClass .boolean) (by decide +kernel)) rfl hK hP hD hS hA (fun _ => rfl) (by decide) (by decide +kernel) (by decide) (Nat.le_of_ble_eq_true rfl) (Nat.le_of_ble_eq_true rfl) dX1_init_46 (fun q46 k46 H hK hP hD hS => ?_)
  have hK : va_K (dC, dI) vwCl [(k6, .object RX6), (k46, .boolean)] s := hK
  have hP : va_P (dC, dI) vwCl [(tb, .inr (4, [.ref q6, .null, .int 0, .int 0, .int 0, .int 0])), (q6, .inl (k6, 3, .inr (.inr (.inr (.inr f_18))))), (q28, .inr (9, u_4)), (q28_7, .inr (9, u_10)), (q28_13, .inr (9, u_16)), (q46, .inl (k46, 2197, .inl (fun _ => 0)))] H := hP
  have hD : va_D A [(tb, .inr (4, [.ref q6, .null, .int 0, .int 0, .int 0, .int 0])), (q6, .inl (k6, 3, .inr (.inr (.inr (.inr f_18))))), (q28, .inr (9, u_4)), (q28_7, .inr (9, u_10)), (q28_13, .inr (9, u_16)), (q46, .inl (k46, 2197, .inl (fun _ => 0)))] := hD
  refine va_putF (D := (dC, dI)) (ci := 4) (v := .ref q46) (ty := .array .boolean) (C := RX1) (T := TX1) (N := 6) hx hb hts (fun w h => List.mem_cons_of_mem _ (List.mem_append_right _ (List.mem_append_left _ h))) tyX1 tyX1_ok nmX1 hown hK hP hD hS 0 rfl rfl 1 (by decide) (hts (.fieldLink RX1 18 "Spotbeat$Paces" "seen" "[Z") (by decide +kernel)) (fun _ h9 => h9) rfl hin rfl (by decide +kernel) rfl rfl (Nat.le_of_ble_eq_true rfl) dX1_init_48 (fun H locs hP hD hS => ?_)
  have hP : va_P (dC, dI) vwCl [(tb, .inr (4, [.ref q6, .ref q46, .int 0, .int 0, .int 0, .int 0])), (q6, .inl (k6, 3, .inr (.inr (.inr (.inr f_18))))), (q28, .inr (9, u_4)), (q28_7, .inr (9, u_10)), (q28_13, .inr (9, u_16)), (q46, .inl (k46, 2197, .inl (fun _ => 0)))] H := hP
  have hD : va_D A [(tb, .inr (4, [.ref q6, .ref q46, .int 0, .int 0, .int 0, .int 0])), (q6, .inl (k6, 3, .inr (.inr (.inr (.inr f_18))))), (q28, .inr (9, u_4)), (q28_7, .inr (9, u_10)), (q28_13, .inr (9, u_16)), (q46, .inl (k46, 2197, .inl (fun _ => 0)))] := hD
  refine W.widen (k := 17) (n := 2374) (Nat.le_of_ble_eq_true rfl) (Nat.le_of_ble_eq_true rfl) ?_
  exact W.vret hx hb hr (fun t ht hW => ⟨⟨(), rfl, trivial, trivial⟩, hS.F ht⟩) hS.2.2 dX1_init_51

def zwX7_init : List Cond := .code yX7_init cX7_init 1 none :: (([.methodLink RX7 3 objectInit, .instanceMethod objectInit, .code objectInit ⟨#[0xb1]⟩ 1 none, .arrayClass .int, .fieldLink RX7 9 "Spotbeat" "parents" "[I", .classLink RX7 13 RX4, .fieldLink RX7 15 "Spotbeat" "spotRow" "[LSpotbeat$Spot;", .classLink RX7 19 RX5, .fieldLink RX7 21 "Spotbeat" "stationRow" "[LSpotbeat$Station;", .classLink RX7 25 RX3, .fieldLink RX7 27 "Spotbeat" "robotRow" "[LSpotbeat$Robot;", .classLink RX7 31 RX0, .fieldLink RX7 33 "Spotbeat" "bodyRow" "[LSpotbeat$Body;", .classLink RX7 37 RX1, .instantiable RX1 6, .initialized RX1, .methodLink RX7 39 yX1_init, .instanceMethod yX1_init, .fieldLink RX7 40 "Spotbeat" "paces" "LSpotbeat$Paces;"] : List Cond) ++ (wsX70 ++ (wsX10 ++ (zwX1_init))))
theorem zgX7_init : zwX7_init.all goodWord = true := zgo rfl (zga (by decide +kernel) (zga zgcX7 (zga zgcX1 (zgX1_init))))
set_option maxHeartbeats 4000000 in
set_option maxRecDepth 100000 in
/-- Spotbeat(): the world of a new object -/
theorem c_X7_init (l : Launch) (dC : Nat → ClassId) (dI : Nat → Nat → Nat) (sz : Nat) (x : Nat) : Met l yX7_init zwX7_init ({ frames := 3, cells := 23, slots := 2468, locals := 53 }) (gPcE dC dI sz [(x, .inr (10, [.null, .null, .null, .null, .null, .null, .int 0, .int 0, .int 0, .int 0, .int 0, .int 0]))] [] [.ref x]) (va_Qv (fun (u : (Nat → Nat) × (Nat → ClassId)) => True) (fun u t => va_P (dC, dI) vwCl (xW x u.1 u.2) t.heap ∧ va_K (dC, dI) vwCl (xT u.2) t ∧ va_D (va_A [(x, .inr (10, [.null, .null, .null, .null, .null, .null, .int 0, .int 0, .int 0, .int 0, .int 0, .int 0]))] sz) (xW x u.1 u.2)) (va_A [(x, .inr (10, [.null, .null, .null, .null, .null, .null, .int 0, .int 0, .int 0, .int 0, .int 0, .int 0]))] sz)) 23 2468 (va_A [(x, .inr (10, [.null, .null, .null, .null, .null, .null, .int 0, .int 0, .int 0, .int 0, .int 0, .int 0]))] sz) := by
  refine Met.ofW (cc := cX7_init) (maxL := 1) (ret := none) (by decide) rfl ?_
  intro p e s m args below meth c s₁ B hml hv
  obtain ⟨rfl, hsz, hP, hK, hD0, hE⟩ := hv
  have hx := B.exec
  have hb := B.bytes
  have hr := B.returns
  have hts := atoms_spec (ws := zwX7_init) B.pre
  have hown : s.vm.findClass RX7 = some m.cls := findClass_of_methodNamed B.named
  have hlocks := B.notSynchronized
  have hin : meth.name = "<init>" := (name_of_methodNamed B.named B.method).1
  subst hsz
  have hD := hD0.self (sz := s.heap.size)
  generalize hAe : va_A [(x, .inr (10, [.null, .null, .null, .null, .null, .null, .int 0, .int 0, .int 0, .int 0, .int 0, .int 0]))] s.heap.size = A at hD hE ⊢
  have hA : ∀ q : Nat, s.heap.size ≤ q → A q := fun q h => by rw [← hAe]; exact Or.inr h
  have hS : va_S A s.heap s.heap [] := va_S.rf
  have hP : va_P (dC, dI) vwCl [(x, .inr (10, [.null, .null, .null, .null, .null, .null, .int 0, .int 0, .int 0, .int 0, .int 0, .int 0]))] s.heap := hP
  have hl := lv_entry ([.ref x]) (n := 1) (Nat.le_of_ble_eq_true rfl)
  rw [lg_entry_eq]
  generalize (lg_sl ([.ref x]) ++ List.replicate (1 - (lg_sl ([.ref x])).length) Slot.unset).toArray = ls at hl ⊢
  have hl : lv_has ls 1 [(0, .ref x)] := hl
  refine lv_aload_n hx hb dX7_init_0 rfl (lv_at hl 0 rfl) ?_
  refine W.objInit hx hb hown (hts (.methodLink RX7 3 objectInit) (by decide +kernel)) (hts (.instanceMethod objectInit) (by decide +kernel)) (hts (.code objectInit ⟨#[0xb1]⟩ 1 none) (by decide +kernel)) rfl (by rw [hml]; exact hl.1) rfl dX7_init_1 (Nat.le_of_ble_eq_true rfl) (Nat.le_of_ble_eq_true rfl) ?_
  refine W.eq (g2 := F0 m 4 ls []) rfl ?_
  refine lv_aload_n hx hb dX7_init_4 rfl (lv_at hl 0 rfl) ?_
  refine lv_bipush (v := 8) hx hb dX7_init_5 (by decide) ?_
  refine va_newa (atype := .int) (N' := 8) (a0 := (8, .inl (fun _ => 0))) hx hb (hts (.arrayClass .int) (by decide +kernel)) rfl hK hP hD hS hA (fun _ => rfl) (by decide) (by decide +kernel) (by decide) (Nat.le_of_ble_eq_true rfl) (Nat.le_of_ble_eq_true rfl) dX7_init_7 (fun q7 k7 H hK hP hD hS => ?_)
  have hK : va_K (dC, dI) vwCl [(k7, .int)] s := hK
  have hP : va_P (dC, dI) vwCl [(x, .inr (10, [.null, .null, .null, .null, .null, .null, .int 0, .int 0, .int 0, .int 0, .int 0, .int 0])), (q7, .inl (k7, 8, .inl (fun _ => 0)))] H := hP
  have hD : va_D A [(x, .inr (10, [.null, .null, .null, .null, .null, .null, .int 0, .int 0, .int 0, .int 0, .int 0, .int 0])), (q7, .inl (k7, 8, .inl (fun _ => 0)))] := hD
  refine va_putF (D := (dC, dI)) (ci := 10) (v := .ref q7) (ty := .array .int) (C := RX7) (T := TX7) (N := 12) hx hb hts (fun w h => List.mem_cons_of_mem _ (List.mem_append_right _ (List.mem_append_left _ h))) tyX7 tyX7_ok nmX7 hown hK hP hD hS 0 rfl rfl 0 (by decide) (hts (.fieldLink RX7 9 "Spotbeat" "parents" "[I") (by decide +kernel)) (fun _ h9 => h9) rfl hin rfl (by decide +kernel) rfl rfl (Nat.le_of_ble_eq_true rfl) dX7_init_9 (fun H locs hP hD hS => ?_)
  have hP : va_P (dC, dI) vwCl [(x, .inr (10, [.ref q7, .null, .null, .null, .null, .null, .int 0, .int 0, .int 0, .int 0, .int 0, .int 0])), (q7, .inl (k7, 8, .inl (fun _ => 0)))] H := hP
  have hD : va_D A [(x, .inr (10, [.ref q7, .null, .null, .null, .null, .null, .int 0, .int 0, .int 0, .int 0, .int 0, .int 0])), (q7, .inl (k7, 8, .inl (fun _ => 0)))] := hD
  refine lv_aload_n hx hb dX7_init_12 rfl (lv_at hl 0 rfl) ?_
  refine lv_bipush (v := 24) hx hb dX7_init_13 (by decide) ?_
  refine va_newq (N' := 24) hx hb hown (hts (.classLink RX7 13 RX4) (by decide +kernel)) (hE.2.2.2.2.2.1 _ (by decide)) hK hP hD hS hA (by decide) (by decide +kernel) (by decide) (Nat.le_of_ble_eq_true rfl) (Nat.le_of_ble_eq_true rfl) dX7_init_15 (fun q15 k15 H hK hP hD hS => ?_)
  have hK : va_K (dC, dI) vwCl [(k7, .int), (k15, .object RX4)] s := hK
  have hP : va_P (dC, dI) vwCl [(x, .inr (10, [.ref q7, .null, .null, .null, .null, .null, .int 0, .int 0, .int 0, .int 0, .int 0, .int 0])), (q7, .inl (k7, 8, .inl (fun _ => 0))), (q15, .inl (k15, 24, .inr (.inr (.inr (.inr (fun _ => none))))))] H := hP
  have hD : va_D A [(x, .inr (10, [.ref q7, .null, .null, .null, .null, .null, .int 0, .int 0, .int 0, .int 0, .int 0, .int 0])), (q7, .inl (k7, 8, .inl (fun _ => 0))), (q15, .inl (k15, 24, .inr (.inr (.inr (.inr (fun _ => none))))))] := hD
  refine va_putF (D := (dC, dI)) (ci := 10) (v := .ref q15) (ty := .array (.object "Spotbeat$Spot")) (C := RX7) (T := TX7) (N := 12) hx hb hts (fun w h => List.mem_cons_of_mem _ (List.mem_append_right _ (List.mem_append_left _ h))) tyX7 tyX7_ok nmX7 hown hK hP hD hS 0 rfl rfl 1 (by decide) (hts (.fieldLink RX7 15 "Spotbeat" "spotRow" "[LSpotbeat$Spot;") (by decide +kernel)) (fun _ h9 => h9) rfl hin rfl (by decide +kernel) rfl rfl (Nat.le_of_ble_eq_true rfl) dX7_init_18 (fun H locs hP hD hS => ?_)
  have hP : va_P (dC, dI) vwCl [(x, .inr (10, [.ref q7, .ref q15, .null, .null, .null, .null, .int 0, .int 0, .int 0, .int 0, .int 0, .int 0])), (q7, .inl (k7, 8, .inl (fun _ => 0))), (q15, .inl (k15, 24, .inr (.inr (.inr (.inr (fun _ => none))))))] H := hP
  have hD : va_D A [(x, .inr (10, [.ref q7, .ref q15, .null, .null, .null, .null, .int 0, .int 0, .int 0, .int 0, .int 0, .int 0])), (q7, .inl (k7, 8, .inl (fun _ => 0))), (q15, .inl (k15, 24, .inr (.inr (.inr (.inr (fun _ => none))))))] := hD
  refine lv_aload_n hx hb dX7_init_21 rfl (lv_at hl 0 rfl) ?_
  refine lv_iconst (v := 4) hx hb dX7_init_22 (by decide) ?_
  refine va_newq (N' := 4) hx hb hown (hts (.classLink RX7 19 RX5) (by decide +kernel)) (hE.2.2.2.2.2.1 _ (by decide)) hK hP hD hS hA (by decide) (by decide +kernel) (by decide) (Nat.le_of_ble_eq_true rfl) (Nat.le_of_ble_eq_true rfl) dX7_init_23 (fun q23 k23 H hK hP hD hS => ?_)
  have hK : va_K (dC, dI) vwCl [(k7, .int), (k15, .object RX4), (k23, .object RX5)] s := hK
  have hP : va_P (dC, dI) vwCl [(x, .inr (10, [.ref q7, .ref q15, .null, .null, .null, .null, .int 0, .int 0, .int 0, .int 0, .int 0, .int 0])), (q7, .inl (k7, 8, .inl (fun _ => 0))), (q15, .inl (k15, 24, .inr (.inr (.inr (.inr (fun _ => none)))))), (q23, .inl (k23, 4, .inr (.inr (.inr (.inr (fun _ => none))))))] H := hP
  have hD : va_D A [(x, .inr (10, [.ref q7, .ref q15, .null, .null, .null, .null, .int 0, .int 0, .int 0, .int 0, .int 0, .int 0])), (q7, .inl (k7, 8, .inl (fun _ => 0))), (q15, .inl (k15, 24, .inr (.inr (.inr (.inr (fun _ => none)))))), (q23, .inl (k23, 4, .inr (.inr (.inr (.inr (fun _ => none))))))] := hD
  refine va_putF (D := (dC, dI)) (ci := 10) (v := .ref q23) (ty := .array (.object "Spotbeat$Station")) (C := RX7) (T := TX7) (N := 12) hx hb hts (fun w h => List.mem_cons_of_mem _ (List.mem_append_right _ (List.mem_append_left _ h))) tyX7 tyX7_ok nmX7 hown hK hP hD hS 0 rfl rfl 2 (by decide) (hts (.fieldLink RX7 21 "Spotbeat" "stationRow" "[LSpotbeat$Station;") (by decide +kernel)) (fun _ h9 => h9) rfl hin rfl (by decide +kernel) rfl rfl (Nat.le_of_ble_eq_true rfl) dX7_init_26 (fun H locs hP hD hS => ?_)
  have hP : va_P (dC, dI) vwCl [(x, .inr (10, [.ref q7, .ref q15, .ref q23, .null, .null, .null, .int 0, .int 0, .int 0, .int 0, .int 0, .int 0])), (q7, .inl (k7, 8, .inl (fun _ => 0))), (q15, .inl (k15, 24, .inr (.inr (.inr (.inr (fun _ => none)))))), (q23, .inl (k23, 4, .inr (.inr (.inr (.inr (fun _ => none))))))] H := hP
  have hD : va_D A [(x, .inr (10, [.ref q7, .ref q15, .ref q23, .null, .null, .null, .int 0, .int 0, .int 0, .int 0, .int 0, .int 0])), (q7, .inl (k7, 8, .inl (fun _ => 0))), (q15, .inl (k15, 24, .inr (.inr (.inr (.inr (fun _ => none)))))), (q23, .inl (k23, 4, .inr (.inr (.inr (.inr (fun _ => none))))))] := hD
  refine lv_aload_n hx hb dX7_init_29 rfl (lv_at hl 0 rfl) ?_
  refine lv_bipush (v := 12) hx hb dX7_init_30 (by decide) ?_
  refine va_newq (N' := 12) hx hb hown (hts (.classLink RX7 25 RX3) (by decide +kernel)) (hE.2.2.2.2.2.1 _ (by decide)) hK hP hD hS hA (by decide) (by decide +kernel) (by decide) (Nat.le_of_ble_eq_true rfl) (Nat.le_of_ble_eq_true rfl) dX7_init_32 (fun q32 k32 H hK hP hD hS => ?_)
  have hK : va_K (dC, dI) vwCl [(k7, .int), (k15, .object RX4), (k23, .object RX5), (k32, .object RX3)] s := hK
  have hP : va_P (dC, dI) vwCl [(x, .inr (10, [.ref q7, .ref q15, .ref q23, .null, .null, .null, .int 0, .int 0, .int 0, .int 0, .int 0, .int 0])), (q7, .inl (k7, 8, .inl (fun _ => 0))), (q15, .inl (k15, 24, .inr (.inr (.inr (.inr (fun _ => none)))))), (q23, .inl (k23, 4, .inr (.inr (.inr (.inr (fun _ => none)))))), (q32, .inl (k32, 12, .inr (.inr (.inr (.inr (fun _ => none))))))] H := hP
  have hD : va_D A [(x, .inr (10, [.ref q7, .ref q15, .ref q23, .null, .null, .null, .int 0, .int 0, .int 0, .int 0, .int 0, .int 0])), (q7, .inl (k7, 8, .inl (fun _ => 0))), (q15, .inl (k15, 24, .inr (.inr (.inr (.inr (fun _ => none)))))), (q23, .inl (k23, 4, .inr (.inr (.inr (.inr (fun _ => none)))))), (q32, .inl (k32, 12, .inr (.inr (.inr (.inr (fun _ => none))))))] := hD
  refine va_putF (D := (dC, dI)) (ci := 10) (v := .ref q32) (ty := .array (.object "Spotbeat$Robot")) (C := RX7) (T := TX7) (N := 12) hx hb hts (fun w h => List.mem_cons_of_mem _ (List.mem_append_right _ (List.mem_append_left _ h))) tyX7 tyX7_ok nmX7 hown hK hP hD hS 0 rfl rfl 3 (by decide) (hts (.fieldLink RX7 27 "Spotbeat" "robotRow" "[LSpotbeat$Robot;") (by decide +kernel)) (fun _ h9 => h9) rfl hin rfl (by decide +kernel) rfl rfl (Nat.le_of_ble_eq_true rfl) dX7_init_35 (fun H locs hP hD hS => ?_)
  have hP : va_P (dC, dI) vwCl [(x, .inr (10, [.ref q7, .ref q15, .ref q23, .ref q32, .null, .null, .int 0, .int 0, .int 0, .int 0, .int 0, .int 0])), (q7, .inl (k7, 8, .inl (fun _ => 0))), (q15, .inl (k15, 24, .inr (.inr (.inr (.inr (fun _ => none)))))), (q23, .inl (k23, 4, .inr (.inr (.inr (.inr (fun _ => none)))))), (q32, .inl (k32, 12, .inr (.inr (.inr (.inr (fun _ => none))))))] H := hP
  have hD : va_D A [(x, .inr (10, [.ref q7, .ref q15, .ref q23, .ref q32, .null, .null, .int 0, .int 0, .int 0, .int 0, .int 0, .int 0])), (q7, .inl (k7, 8, .inl (fun _ => 0))), (q15, .inl (k15, 24, .inr (.inr (.inr (.inr (fun _ => none)))))), (q23, .inl (k23, 4, .inr (.inr (.inr (.inr (fun _ => none)))))), (q32, .inl (k32, 12, .inr (.inr (.inr (.inr (fun _ => none))))))] := hD
  refine lv_aload_n hx hb dX7_init_38 rfl (lv_at hl 0 rfl) ?_
  refine lv_bipush (v := 40) hx hb dX7_init_39 (by decide) ?_
  refine va_newq (N' := 40) hx hb hown (hts (.classLink RX7 31 RX0) (by decide +kernel)) (hE.2.2.2.2.2.1 _ (by decide)) hK hP hD hS hA (by decide) (by decide +kernel) (by decide) (Nat.le_of_ble_eq_true rfl) (Nat.le_of_ble_eq_true rfl) dX7_init_41 (fun q41 k41 H hK hP hD hS => ?_)
  have hK : va_K (dC, dI) vwCl [(k7, .int), (k15, .object RX4), (k23, .object RX5), (k32, .object RX3), (k41, .object RX0)] s := hK
  have hP : va_P (dC, dI) vwCl [(x, .inr (10, [.ref q7, .ref q15, .ref q23, .ref q32, .null, .null, .int 0, .int 0, .int 0, .int 0, .int 0, .int 0])), (q7, .inl (k7, 8, .inl (fun _ => 0))), (q15, .inl (k15, 24, .inr (.inr (.inr (.inr (fun _ => none)))))), (q23, .inl (k23, 4, .inr (.inr (.inr (.inr (fun _ => none)))))), (q32, .inl (k32, 12, .inr (.inr (.inr (.inr (fun _ => none)))))), (q41, .inl (k41, 40, .inr (.inr (.inr (.inr (fun _ => none))))))] H := hP
  have hD : va_D A [(x, .inr (10, [.ref q7, .ref q15, .ref q23, .ref q32, .null, .null, .int 0, .int 0, .int 0, .int 0, .int 0, .int 0])), (q7, .inl (k7, 8, .inl (fun _ => 0))), (q15, .inl (k15, 24, .inr (.inr (.inr (.inr (fun _ => none)))))), (q23, .inl (k23, 4, .inr (.inr (.inr (.inr (fun _ => none)))))), (q32, .inl (k32, 12, .inr (.inr (.inr (.inr (fun _ => none)))))), (q41, .inl (k41, 40, .inr (.inr (.inr (.inr (fun _ => none))))))] := hD
  refine va_putF (D := (dC, dI)) (ci := 10) (v := .ref q41) (ty := .array (.object "Spotbeat$Body")) (C := RX7) (T := TX7) (N := 12) hx hb hts (fun w h => List.mem_cons_of_mem _ (List.mem_append_right _ (List.mem_append_left _ h))) tyX7 tyX7_ok nmX7 hown hK hP hD hS 0 rfl rfl 4 (by decide) (hts (.fieldLink RX7 33 "Spotbeat" "bodyRow" "[LSpotbeat$Body;") (by decide +kernel)) (fun _ h9 => h9) rfl hin rfl (by decide +kernel) rfl rfl (Nat.le_of_ble_eq_true rfl) dX7_init_44 (fun H locs hP hD hS => ?_)
  have hP : va_P (dC, dI) vwCl [(x, .inr (10, [.ref q7, .ref q15, .ref q23, .ref q32, .ref q41, .null, .int 0, .int 0, .int 0, .int 0, .int 0, .int 0])), (q7, .inl (k7, 8, .inl (fun _ => 0))), (q15, .inl (k15, 24, .inr (.inr (.inr (.inr (fun _ => none)))))), (q23, .inl (k23, 4, .inr (.inr (.inr (.inr (fun _ => none)))))), (q32, .inl (k32, 12, .inr (.inr (.inr (.inr (fun _ => none)))))), (q41, .inl (k41, 40, .inr (.inr (.inr (.inr (fun _ => none))))))] H := hP
  have hD : va_D A [(x, .inr (10, [.ref q7, .ref q15, .ref q23, .ref q32, .ref q41, .null, .int 0, .int 0, .int 0, .int 0, .int 0, .int 0])), (q7, .inl (k7, 8, .inl (fun _ => 0))), (q15, .inl (k15, 24, .inr (.inr (.inr (.inr (fun _ => none)))))), (q23, .inl (k23, 4, .inr (.inr (.inr (.inr (fun _ => none)))))), (q32, .inl (k32, 12, .inr (.inr (.inr (.inr (fun _ => none)))))), (q41, .inl (k41, 40, .inr (.inr (.inr (.inr (fun _ => none))))))] := hD
  refine lv_aload_n hx hb dX7_init_47 rfl (lv_at hl 0 rfl) ?_
  refine va_new (ci := 4) (fs := [.null, .null, .int 0, .int 0, .int 0, .int 0]) (C := RX1) (T := TX1) (N := 6) hx hb hts (fun w h => List.mem_cons_of_mem _ (List.mem_append_right _ (List.mem_append_right _ (List.mem_append_left _ h)))) tyX1 tyX1_ok hown (hts (.classLink RX7 37 RX1) (by decide +kernel)) (hts (.instantiable RX1 6) (by decide +kernel)) (hts (.initialized RX1) (by decide +kernel)) hK hP hD hS hA rfl (fun j hj => by rcases (show j = 0 ∨ j = 1 ∨ j = 2 ∨ j = 3 ∨ j = 4 ∨ j = 5 by omega) with rfl | rfl | rfl | rfl | rfl | rfl <;> rfl) (Nat.le_of_ble_eq_true rfl) (Nat.le_of_ble_eq_true rfl) dX7_init_48 (fun q48 H hP hD hS => ?_)
  have hP : va_P (dC, dI) vwCl [(x, .inr (10, [.ref q7, .ref q15, .ref q23, .ref q32, .ref q41, .null, .int 0, .int 0, .int 0, .int 0, .int 0, .int 0])), (q7, .inl (k7, 8, .inl (fun _ => 0))), (q15, .inl (k15, 24, .inr (.inr (.inr (.inr (fun _ => none)))))), (q23, .inl (k23, 4, .inr (.inr (.inr (.inr (fun _ => none)))))), (q32, .inl (k32, 12, .inr (.inr (.inr (.inr (fun _ => none)))))), (q41, .inl (k41, 40, .inr (.inr (.inr (.inr (fun _ => none)))))), (q48, .inr (4, [.null, .null, .int 0, .int 0, .int 0, .int 0]))] H := hP
  have hD : va_D A [(x, .inr (10, [.ref q7, .ref q15, .ref q23, .ref q32, .ref q41, .null, .int 0, .int 0, .int 0, .int 0, .int 0, .int 0])), (q7, .inl (k7, 8, .inl (fun _ => 0))), (q15, .inl (k15, 24, .inr (.inr (.inr (.inr (fun _ => none)))))), (q23, .inl (k23, 4, .inr (.inr (.inr (.inr (fun _ => none)))))), (q32, .inl (k32, 12, .inr (.inr (.inr (.inr (fun _ => none)))))), (q41, .inl (k41, 40, .inr (.inr (.inr (.inr (fun _ => none)))))), (q48, .inr (4, [.null, .null, .int 0, .int 0, .int 0, .int 0]))] := hD
  refine lv_dup hx hb dX7_init_51 rfl ?_
  have hPc := hP.sub (ws' := [(q48, .inr (4, [.null, .null, .int 0, .int 0, .int 0, .int 0]))]) [6] rfl
  have hDc := hD.sub (ws' := [(q48, .inr (4, [.null, .null, .int 0, .int 0, .int 0, .int 0]))]) [6] (by decide) rfl
  have hKc := hK.sub (tys' := []) [] rfl
  have hFc := va_free (wc := [(q48, .inr (4, [.null, .null, .int 0, .int 0, .int 0, .int 0]))]) hD hS hA [6] rfl
  refine va_callv (va_runI (As := []) (rest := [.ref q48, .ref x]) ⟨hx, hb, hml, hown, hts⟩ (c_X1_init l dC dI H.size q48) (cwI 0 hts (goodIn_sub ((fun w h => List.mem_cons_of_mem _ (List.mem_append_right _ (List.mem_append_right _ (List.mem_append_right _ (h)))))) zgX1_init) rfl rfl rfl (hts (.initialized RX1) (by decide +kernel)) (hts (.methodLink RX7 39 yX1_init) (by decide +kernel)) (hts (.instanceMethod yX1_init) (by decide +kernel)) rfl (by decide +kernel) ⟨Nat.le_of_ble_eq_true rfl, Nat.le_of_ble_eq_true rfl⟩) ⟨gPcE_blind, gPcE_pass hPc hKc hDc hE hS hFc⟩ rfl rfl hl.1 rfl (lv_room (Nat.le_of_ble_eq_true rfl)) dX7_init_52 ⟨Nat.le_of_ble_eq_true rfl, Nat.le_of_ble_eq_true rfl⟩) hS (fun q _ h => hFc q h) hFc (fun u_3 t H locs ht hvm hw hB hz hk hS => ?_)
  obtain ⟨hP, hD⟩ := va_join (wr := [(x, .inr (10, [.ref q7, .ref q15, .ref q23, .ref q32, .ref q41, .null, .int 0, .int 0, .int 0, .int 0, .int 0, .int 0])), (q7, .inl (k7, 8, .inl (fun _ => 0))), (q15, .inl (k15, 24, .inr (.inr (.inr (.inr (fun _ => none)))))), (q23, .inl (k23, 4, .inr (.inr (.inr (.inr (fun _ => none)))))), (q32, .inl (k32, 12, .inr (.inr (.inr (.inr (fun _ => none)))))), (q41, .inl (k41, 40, .inr (.inr (.inr (.inr (fun _ => none))))))]) (w1 := []) hP hD [6] [0, 1, 2, 3, 4, 5] rfl rfl (by decide) (by decide) hk hFc zP_nil zD_nil
  have hP : va_P (dC, dI) vwCl [(x, .inr (10, [.ref q7, .ref q15, .ref q23, .ref q32, .ref q41, .null, .int 0, .int 0, .int 0, .int 0, .int 0, .int 0])), (q7, .inl (k7, 8, .inl (fun _ => 0))), (q15, .inl (k15, 24, .inr (.inr (.inr (.inr (fun _ => none)))))), (q23, .inl (k23, 4, .inr (.inr (.inr (.inr (fun _ => none)))))), (q32, .inl (k32, 12, .inr (.inr (.inr (.inr (fun _ => none)))))), (q41, .inl (k41, 40, .inr (.inr (.inr (.inr (fun _ => none))))))] H := hP
  have hD : va_D A [(x, .inr (10, [.ref q7, .ref q15, .ref q23, .ref q32, .ref q41, .null, .int 0, .int 0, .int 0, .int 0, .int 0, .int 0])), (q7, .inl (k7, 8, .inl (fun _ => 0))), (q15, .inl (k15, 24, .inr (.inr (.inr (.inr (fun _ => none)))))), (q23, .inl (k23, 4, .inr (.inr (.inr (.inr (fun _ => none)))))), (q32, .inl (k32, 12, .inr (.inr (.inr (.inr (fun _ => none)))))), (q41, .inl (k41, 40, .inr (.inr (.inr (.inr (fun _ => none))))))] := hD
  have w_4 : True := hw
  refine va_putF (D := (dC, dI)) (ci := 10) (v := .ref q48) (ty := .object "Spotbeat$Paces") (C := RX7) (T := TX7) (N := 12) hx hb hts (fun w h => List.mem_cons_of_mem _ (List.mem_append_right _ (List.mem_append_left _ h))) tyX7 tyX7_ok nmX7 hown hK hP hD hS 0 rfl rfl 5 (by decide) (hts (.fieldLink RX7 40 "Spotbeat" "paces" "LSpotbeat$Paces;") (by decide +kernel)) (fun _ h9 => h9) rfl hin rfl (by decide +kernel) rfl rfl (Nat.le_of_ble_eq_true rfl) dX7_init_55 (fun H locs hP hD hS => ?_)
  have hP : va_P (dC, dI) vwCl [(x, .inr (10, [.ref q7, .ref q15, .ref q23, .ref q32, .ref q41, .ref q48, .int 0, .int 0, .int 0, .int 0, .int 0, .int 0])), (q7, .inl (k7, 8, .inl (fun _ => 0))), (q15, .inl (k15, 24, .inr (.inr (.inr (.inr (fun _ => none)))))), (q23, .inl (k23, 4, .inr (.inr (.inr (.inr (fun _ => none)))))), (q32, .inl (k32, 12, .inr (.inr (.inr (.inr (fun _ => none)))))), (q41, .inl (k41, 40, .inr (.inr (.inr (.inr (fun _ => none))))))] H := hP
  have hD : va_D A [(x, .inr (10, [.ref q7, .ref q15, .ref q23, .ref q32, .ref q41, .ref q48, .int 0, .int 0, .int 0, .int 0, .int 0, .int 0])), (q7, .inl (k7, 8, .inl (fun _ => 0))), (q15, .inl (k15, 24, .inr (.inr (.inr (.inr (fun _ => none)))))), (q23, .inl (k23, 4, .inr (.inr (.inr (.inr (fun _ => none)))))), (q32, .inl (k32, 12, .inr (.inr (.inr (.inr (fun _ => none)))))), (q41, .inl (k41, 40, .inr (.inr (.inr (.inr (fun _ => none))))))] := hD
  have hP9 := hP.sub (ws' := [(x, .inr (10, [.ref q7, .ref q15, .ref q23, .ref q32, .ref q41, .ref q48, .int 0, .int 0, .int 0, .int 0, .int 0, .int 0])), (q7, .inl (k7, 8, .inl (fun _ => 0))), (q15, .inl (k15, 24, .inr (.inr (.inr (.inr (fun _ => none)))))), (q23, .inl (k23, 4, .inr (.inr (.inr (.inr (fun _ => none)))))), (q32, .inl (k32, 12, .inr (.inr (.inr (.inr (fun _ => none)))))), (q41, .inl (k41, 40, .inr (.inr (.inr (.inr (fun _ => none))))))]) [0, 1, 2, 3, 4, 5] rfl
  have hD9 := hD.sub (ws' := [(x, .inr (10, [.ref q7, .ref q15, .ref q23, .ref q32, .ref q41, .ref q48, .int 0, .int 0, .int 0, .int 0, .int 0, .int 0])), (q7, .inl (k7, 8, .inl (fun _ => 0))), (q15, .inl (k15, 24, .inr (.inr (.inr (.inr (fun _ => none)))))), (q23, .inl (k23, 4, .inr (.inr (.inr (.inr (fun _ => none)))))), (q32, .inl (k32, 12, .inr (.inr (.inr (.inr (fun _ => none)))))), (q41, .inl (k41, 40, .inr (.inr (.inr (.inr (fun _ => none))))))]) [0, 1, 2, 3, 4, 5] (by decide) rfl
  have hK9 := hK.sub (tys' := [(k7, .int), (k15, .object RX4), (k23, .object RX5), (k32, .object RX3), (k41, .object RX0)]) [0, 1, 2, 3, 4] rfl
  refine W.widen (k := 23) (n := 2468) (Nat.le_of_ble_eq_true rfl) (Nat.le_of_ble_eq_true rfl) ?_
  exact W.vret hx hb hr (fun t ht hW => ⟨⟨((fun k => [q7, q15, q23, q32, q41, q48].getD k 0), (fun k => [k7, k15, k23, k32, k41].getD k 0)), rfl, trivial, by rw [ht]; exact hP9, va_K.moved hW.alike hK9, hD9⟩, hS.F ht⟩) hS.2.2 dX7_init_58

def zwX7_panel : List Cond := .code yX7_panel cX7_panel 3 (some .int) :: (([.fieldLink RX7 44 "Spotbeat" "panelCount" "I", .fieldLink RX7 9 "Spotbeat" "parents" "[I"] : List Cond) ++ (wsX70))
theorem zgX7_panel : zwX7_panel.all goodWord = true := zgo rfl (zga (by decide +kernel) (zgcX7))
set_option maxHeartbeats 4000000 in
set_option maxRecDepth 100000 in
/-- panel(a) of a new object: 0 -/
theorem c_X7_panel (l : Launch) (dC : Nat → ClassId) (dI : Nat → Nat → Nat) (sz : Nat) (x : Nat) (ax : Nat → Nat) (kx : Nat → ClassId) (a : Int32) : Met l yX7_panel zwX7_panel ({ frames := 0, cells := 0, slots := 0, locals := 0 }) (gPcE dC dI sz [(x, .inr (10, [.ref (ax 0), .ref (ax 1), .ref (ax 2), .ref (ax 3), .ref (ax 4), .ref (ax 5), .int 0, .int 0, .int 0, .int 0, .int 0, .int 0])), ((ax 0), .inl ((kx 0), 8, .inl (fun _ => 0))), ((ax 1), .inl ((kx 1), 24, .inr (.inr (.inr (.inr (fun _ => none)))))), ((ax 2), .inl ((kx 2), 4, .inr (.inr (.inr (.inr (fun _ => none)))))), ((ax 3), .inl ((kx 3), 12, .inr (.inr (.inr (.inr (fun _ => none)))))), ((ax 4), .inl ((kx 4), 40, .inr (.inr (.inr (.inr (fun _ => none))))))] [((kx 0), .int), ((kx 1), .object RX4), ((kx 2), .object RX5), ((kx 3), .object RX3), ((kx 4), .object RX0)] [.ref x, .int a]) (va_Qi (fun (r : Int32) (u : Unit) => r = 0) (fun u t => True) (va_A [(x, .inr (10, [.ref (ax 0), .ref (ax 1), .ref (ax 2), .ref (ax 3), .ref (ax 4), .ref (ax 5), .int 0, .int 0, .int 0, .int 0, .int 0, .int 0])), ((ax 0), .inl ((kx 0), 8, .inl (fun _ => 0))), ((ax 1), .inl ((kx 1), 24, .inr (.inr (.inr (.inr (fun _ => none)))))), ((ax 2), .inl ((kx 2), 4, .inr (.inr (.inr (.inr (fun _ => none)))))), ((ax 3), .inl ((kx 3), 12, .inr (.inr (.inr (.inr (fun _ => none)))))), ((ax 4), .inl ((kx 4), 40, .inr (.inr (.inr (.inr (fun _ => none))))))] sz)) 0 0 (va_A [(x, .inr (10, [.ref (ax 0), .ref (ax 1), .ref (ax 2), .ref (ax 3), .ref (ax 4), .ref (ax 5), .int 0, .int 0, .int 0, .int 0, .int 0, .int 0])), ((ax 0), .inl ((kx 0), 8, .inl (fun _ => 0))), ((ax 1), .inl ((kx 1), 24, .inr (.inr (.inr (.inr (fun _ => none)))))), ((ax 2), .inl ((kx 2), 4, .inr (.inr (.inr (.inr (fun _ => none)))))), ((ax 3), .inl ((kx 3), 12, .inr (.inr (.inr (.inr (fun _ => none)))))), ((ax 4), .inl ((kx 4), 40, .inr (.inr (.inr (.inr (fun _ => none))))))] sz) := by
  refine Met.ofW (cc := cX7_panel) (maxL := 3) (ret := (some .int)) (by decide) rfl ?_
  intro p e s m args below meth c s₁ B hml hv
  obtain ⟨rfl, hsz, hP, hK, hD0, hE⟩ := hv
  have hx := B.exec
  have hb := B.bytes
  have hr := B.returns
  have hts := atoms_spec (ws := zwX7_panel) B.pre
  have hown : s.vm.findClass RX7 = some m.cls := findClass_of_methodNamed B.named
  have hlocks := B.notSynchronized
  subst hsz
  have hD := hD0.self (sz := s.heap.size)
  generalize hAe : va_A [(x, .inr (10, [.ref (ax 0), .ref (ax 1), .ref (ax 2), .ref (ax 3), .ref (ax 4), .ref (ax 5), .int 0, .int 0, .int 0, .int 0, .int 0, .int 0])), ((ax 0), .inl ((kx 0), 8, .inl (fun _ => 0))), ((ax 1), .inl ((kx 1), 24, .inr (.inr (.inr (.inr (fun _ => none)))))), ((ax 2), .inl ((kx 2), 4, .inr (.inr (.inr (.inr (fun _ => none)))))), ((ax 3), .inl ((kx 3), 12, .inr (.inr (.inr (.inr (fun _ => none)))))), ((ax 4), .inl ((kx 4), 40, .inr (.inr (.inr (.inr (fun _ => none))))))] s.heap.size = A at hD hE ⊢
  have hA : ∀ q : Nat, s.heap.size ≤ q → A q := fun q h => by rw [← hAe]; exact Or.inr h
  have hS : va_S A s.heap s.heap [] := va_S.rf
  have hP : va_P (dC, dI) vwCl [(x, .inr (10, [.ref (ax 0), .ref (ax 1), .ref (ax 2), .ref (ax 3), .ref (ax 4), .ref (ax 5), .int 0, .int 0, .int 0, .int 0, .int 0, .int 0])), ((ax 0), .inl ((kx 0), 8, .inl (fun _ => 0))), ((ax 1), .inl ((kx 1), 24, .inr (.inr (.inr (.inr (fun _ => none)))))), ((ax 2), .inl ((kx 2), 4, .inr (.inr (.inr (.inr (fun _ => none)))))), ((ax 3), .inl ((kx 3), 12, .inr (.inr (.inr (.inr (fun _ => none)))))), ((ax 4), .inl ((kx 4), 40, .inr (.inr (.inr (.inr (fun _ => none))))))] s.heap := hP
  have hl := lv_entry ([.ref x, .int a]) (n := 3) (Nat.le_of_ble_eq_true rfl)
  rw [lg_entry_eq]
  generalize (lg_sl ([.ref x, .int a]) ++ List.replicate (3 - (lg_sl ([.ref x, .int a])).length) Slot.unset).toArray = ls at hl ⊢
  have hl : lv_has ls 3 [(0, .ref x), (1, .int a)] := hl
  refine lv_aload_n hx hb dX7_panel_0 rfl (lv_at hl 0 rfl) ?_
  refine va_get (D := (dC, dI)) (ci := 10) (v := .int 0) (C := RX7) (T := TX7) (N := 12) hx hb hts (fun w h => List.mem_cons_of_mem _ (List.mem_append_right _ (h))) hown hK hP 0 rfl rfl 6 (by decide) (hts (.fieldLink RX7 44 "Spotbeat" "panelCount" "I") (by decide +kernel)) (fun _ h9 => h9) rfl dX7_panel_1 ?_
  refine lv_if_le (tgt := 25) hx hb dX7_panel_4 (by decide) (fun _ => ?_) (fun c_1 => absurd c_1 (by decide))
  refine lv_aload_n hx hb dX7_panel_25 rfl (lv_at hl 0 rfl) ?_
  refine va_get (D := (dC, dI)) (ci := 10) (v := .int 0) (C := RX7) (T := TX7) (N := 12) hx hb hts (fun w h => List.mem_cons_of_mem _ (List.mem_append_right _ (h))) hown hK hP 0 rfl rfl 6 (by decide) (hts (.fieldLink RX7 44 "Spotbeat" "panelCount" "I") (by decide +kernel)) (fun _ h9 => h9) rfl dX7_panel_26 ?_
  refine lv_istore_n (lv' := [(2, .int 0), (0, .ref x), (1, .int a)]) hx hb dX7_panel_29 rfl hl (by decide) rfl (fun ls hl => ?_)
  refine lv_iload_n hx hb dX7_panel_30 rfl (lv_at hl 0 rfl) ?_
  refine lv_if_lt (tgt := 43) hx hb dX7_panel_31 (by decide) (fun c_2 => absurd c_2 (by decide)) (fun _ => ?_)
  refine lv_iload_n hx hb dX7_panel_34 rfl (lv_at hl 0 rfl) ?_
  refine lv_aload_n hx hb dX7_panel_35 rfl (lv_at hl 1 rfl) ?_
  refine va_get (D := (dC, dI)) (ci := 10) (v := .ref (ax 0)) (C := RX7) (T := TX7) (N := 12) hx hb hts (fun w h => List.mem_cons_of_mem _ (List.mem_append_right _ (h))) hown hK hP 0 rfl rfl 0 (by decide) (hts (.fieldLink RX7 9 "Spotbeat" "parents" "[I") (by decide +kernel)) (fun _ h9 => h9) rfl dX7_panel_36 ?_
  refine va_alen (v := 8) hx hb hK hP 1 0 rfl rfl rfl dX7_panel_39 ?_
  refine lv_icmp_lt (tgt := 53) hx hb dX7_panel_40 (by decide) (fun _ => ?_) (fun c_3 => absurd c_3 (by decide))
  refine lv_aload_n hx hb dX7_panel_53 rfl (lv_at hl 1 rfl) ?_
  refine va_get (D := (dC, dI)) (ci := 10) (v := .ref (ax 0)) (C := RX7) (T := TX7) (N := 12) hx hb hts (fun w h => List.mem_cons_of_mem _ (List.mem_append_right _ (h))) hown hK hP 0 rfl rfl 0 (by decide) (hts (.fieldLink RX7 9 "Spotbeat" "parents" "[I") (by decide +kernel)) (fun _ h9 => h9) rfl dX7_panel_54 ?_
  refine lv_iload_n hx hb dX7_panel_57 rfl (lv_at hl 0 rfl) ?_
  refine lv_iload_n hx hb dX7_panel_58 rfl (lv_at hl 0 rfl) ?_
  refine lv_if_ne (tgt := 66) hx hb dX7_panel_59 (by decide) (fun c_4 => absurd c_4 (by decide)) (fun _ => ?_)
  refine lv_iconst (v := (-1)) hx hb dX7_panel_62 (by decide) ?_
  refine lv_goto (tgt := 67) hx hb dX7_panel_63 (by decide) ?_
  refine va_iast hx hb hK hP hD hS 1 0 rfl rfl (by unfold vp_in; decide +kernel) dX7_panel_67 (fun H locs hP hD hS => ?_)
  have hP : va_P (dC, dI) vwCl [(x, .inr (10, [.ref (ax 0), .ref (ax 1), .ref (ax 2), .ref (ax 3), .ref (ax 4), .ref (ax 5), .int 0, .int 0, .int 0, .int 0, .int 0, .int 0])), ((ax 0), .inl ((kx 0), 8, .inl (upd (fun _ => 0) (Int32.toNatClampNeg 0) (-1)))), ((ax 1), .inl ((kx 1), 24, .inr (.inr (.inr (.inr (fun _ => none)))))), ((ax 2), .inl ((kx 2), 4, .inr (.inr (.inr (.inr (fun _ => none)))))), ((ax 3), .inl ((kx 3), 12, .inr (.inr (.inr (.inr (fun _ => none)))))), ((ax 4), .inl ((kx 4), 40, .inr (.inr (.inr (.inr (fun _ => none))))))] H := hP
  have hD : va_D A [(x, .inr (10, [.ref (ax 0), .ref (ax 1), .ref (ax 2), .ref (ax 3), .ref (ax 4), .ref (ax 5), .int 0, .int 0, .int 0, .int 0, .int 0, .int 0])), ((ax 0), .inl ((kx 0), 8, .inl (upd (fun _ => 0) (Int32.toNatClampNeg 0) (-1)))), ((ax 1), .inl ((kx 1), 24, .inr (.inr (.inr (.inr (fun _ => none)))))), ((ax 2), .inl ((kx 2), 4, .inr (.inr (.inr (.inr (fun _ => none)))))), ((ax 3), .inl ((kx 3), 12, .inr (.inr (.inr (.inr (fun _ => none)))))), ((ax 4), .inl ((kx 4), 40, .inr (.inr (.inr (.inr (fun _ => none))))))] := hD
  generalize upd (fun _ => 0) (Int32.toNatClampNeg 0) (-1) = f_5 at hP hD
  refine lv_aload_n hx hb dX7_panel_68 rfl (lv_at hl 1 rfl) ?_
  refine lv_iload_n hx hb dX7_panel_69 rfl (lv_at hl 0 rfl) ?_
  refine lv_iconst (v := 1) hx hb dX7_panel_70 (by decide) ?_
  refine lv_iadd hx hb dX7_panel_71 ?_
  refine lv_topi (fun y_6 ey_6 => ?_)
  obtain rfl : y_6 = 1 := ey_6.trans (by decide +kernel)
  refine va_put (D := (dC, dI)) (ci := 10) (v := .int 1) (ty := .int) (C := RX7) (T := TX7) (N := 12) hx hb hts (fun w h => List.mem_cons_of_mem _ (List.mem_append_right _ (h))) tyX7 tyX7_ok nmX7 hown hK hP hD hS 0 rfl rfl 6 (by decide) (hts (.fieldLink RX7 44 "Spotbeat" "panelCount" "I") (by decide +kernel)) (fun _ h9 => h9) rfl (by decide +kernel) rfl rfl (Nat.le_of_ble_eq_true rfl) dX7_panel_72 (fun H locs hP hD hS => ?_)
  have hP : va_P (dC, dI) vwCl [(x, .inr (10, [.ref (ax 0), .ref (ax 1), .ref (ax 2), .ref (ax 3), .ref (ax 4), .ref (ax 5), .int 1, .int 0, .int 0, .int 0, .int 0, .int 0])), ((ax 0), .inl ((kx 0), 8, .inl f_5)), ((ax 1), .inl ((kx 1), 24, .inr (.inr (.inr (.inr (fun _ => none)))))), ((ax 2), .inl ((kx 2), 4, .inr (.inr (.inr (.inr (fun _ => none)))))), ((ax 3), .inl ((kx 3), 12, .inr (.inr (.inr (.inr (fun _ => none)))))), ((ax 4), .inl ((kx 4), 40, .inr (.inr (.inr (.inr (fun _ => none))))))] H := hP
  have hD : va_D A [(x, .inr (10, [.ref (ax 0), .ref (ax 1), .ref (ax 2), .ref (ax 3), .ref (ax 4), .ref (ax 5), .int 1, .int 0, .int 0, .int 0, .int 0, .int 0])), ((ax 0), .inl ((kx 0), 8, .inl f_5)), ((ax 1), .inl ((kx 1), 24, .inr (.inr (.inr (.inr (fun _ => none)))))), ((ax 2), .inl ((kx 2), 4, .inr (.inr (.inr (.inr (fun _ => none)))))), ((ax 3), .inl ((kx 3), 12, .inr (.inr (.inr (.inr (fun _ => none)))))), ((ax 4), .inl ((kx 4), 40, .inr (.inr (.inr (.inr (fun _ => none))))))] := hD
  refine lv_iload_n hx hb dX7_panel_75 rfl (lv_at hl 0 rfl) ?_
  refine W.widen (k := 0) (n := 0) (Nat.le_of_ble_eq_true rfl) (Nat.le_of_ble_eq_true rfl) ?_
  exact W.iret (v := 0) hx hb hr (fun t ht hW => ⟨⟨0, (), rfl, rfl, trivial⟩, hS.F ht⟩) hS.2.2 dX7_panel_76

def zwX7_station : List Cond := .code yX7_station cX7_station 2 (some .int) :: (([.fieldLink RX7 107 "Spotbeat" "stationCount" "I", .fieldLink RX7 21 "Spotbeat" "stationRow" "[LSpotbeat$Station;", .classLink RX7 19 RX5, .instantiable RX5 12, .initialized RX5, .fieldLink RX7 112 "Spotbeat" "beatCount" "I", .methodLink RX7 115 yX5_init, .instanceMethod yX5_init] : List Cond) ++ (wsX70 ++ (wsX50 ++ (zwX5_init))))
theorem zgX7_station : zwX7_station.all goodWord = true := zgo rfl (zga (by decide +kernel) (zga zgcX7 (zga zgcX5 (zgX5_init))))
set_option maxHeartbeats 4000000 in
set_option maxRecDepth 100000 in
/-- station() of a new object: 0 -/
theorem c_X7_station (l : Launch) (dC : Nat → ClassId) (dI : Nat → Nat → Nat) (sz : Nat) (x : Nat) (ax : Nat → Nat) (kx : Nat → ClassId) : Met l yX7_station zwX7_station ({ frames := 2, cells := 2, slots := 15, locals := 34 }) (gPcE dC dI sz [(x, .inr (10, [.ref (ax 0), .ref (ax 1), .ref (ax 2), .ref (ax 3), .ref (ax 4), .ref (ax 5), .int 0, .int 0, .int 0, .int 0, .int 0, .int 0])), ((ax 0), .inl ((kx 0), 8, .inl (fun _ => 0))), ((ax 1), .inl ((kx 1), 24, .inr (.inr (.inr (.inr (fun _ => none)))))), ((ax 2), .inl ((kx 2), 4, .inr (.inr (.inr (.inr (fun _ => none)))))), ((ax 3), .inl ((kx 3), 12, .inr (.inr (.inr (.inr (fun _ => none)))))), ((ax 4), .inl ((kx 4), 40, .inr (.inr (.inr (.inr (fun _ => none))))))] [((kx 0), .int), ((kx 1), .object RX4), ((kx 2), .object RX5), ((kx 3), .object RX3), ((kx 4), .object RX0)] [.ref x]) (va_Qi (fun (r : Int32) (u : Unit) => r = 0) (fun u t => True) (va_A [(x, .inr (10, [.ref (ax 0), .ref (ax 1), .ref (ax 2), .ref (ax 3), .ref (ax 4), .ref (ax 5), .int 0, .int 0, .int 0, .int 0, .int 0, .int 0])), ((ax 0), .inl ((kx 0), 8, .inl (fun _ => 0))), ((ax 1), .inl ((kx 1), 24, .inr (.inr (.inr (.inr (fun _ => none)))))), ((ax 2), .inl ((kx 2), 4, .inr (.inr (.inr (.inr (fun _ => none)))))), ((ax 3), .inl ((kx 3), 12, .inr (.inr (.inr (.inr (fun _ => none)))))), ((ax 4), .inl ((kx 4), 40, .inr (.inr (.inr (.inr (fun _ => none))))))] sz)) 2 15 (va_A [(x, .inr (10, [.ref (ax 0), .ref (ax 1), .ref (ax 2), .ref (ax 3), .ref (ax 4), .ref (ax 5), .int 0, .int 0, .int 0, .int 0, .int 0, .int 0])), ((ax 0), .inl ((kx 0), 8, .inl (fun _ => 0))), ((ax 1), .inl ((kx 1), 24, .inr (.inr (.inr (.inr (fun _ => none)))))), ((ax 2), .inl ((kx 2), 4, .inr (.inr (.inr (.inr (fun _ => none)))))), ((ax 3), .inl ((kx 3), 12, .inr (.inr (.inr (.inr (fun _ => none)))))), ((ax 4), .inl ((kx 4), 40, .inr (.inr (.inr (.inr (fun _ => none))))))] sz) := by
  refine Met.ofW (cc := cX7_station) (maxL := 2) (ret := (some .int)) (by decide) rfl ?_
  intro p e s m args below meth c s₁ B hml hv
  obtain ⟨rfl, hsz, hP, hK, hD0, hE⟩ := hv
  have hx := B.exec
  have hb := B.bytes
  have hr := B.returns
  have hts := atoms_spec (ws := zwX7_station) B.pre
  have hown : s.vm.findClass RX7 = some m.cls := findClass_of_methodNamed B.named
  have hlocks := B.notSynchronized
  subst hsz
  have hD := hD0.self (sz := s.heap.size)
  generalize hAe : va_A [(x, .inr (10, [.ref (ax 0), .ref (ax 1), .ref (ax 2), .ref (ax 3), .ref (ax 4), .ref (ax 5), .int 0, .int 0, .int 0, .int 0, .int 0, .int 0])), ((ax 0), .inl ((kx 0), 8, .inl (fun _ => 0))), ((ax 1), .inl ((kx 1), 24, .inr (.inr (.inr (.inr (fun _ => none)))))), ((ax 2), .inl ((kx 2), 4, .inr (.inr (.inr (.inr (fun _ => none)))))), ((ax 3), .inl ((kx 3), 12, .inr (.inr (.inr (.inr (fun _ => none)))))), ((ax 4), .inl ((kx 4), 40, .inr (.inr (.inr (.inr (fun _ => none))))))] s.heap.size = A at hD hE ⊢
  have hA : ∀ q : Nat, s.heap.size ≤ q → A q := fun q h => by rw [← hAe]; exact Or.inr h
  have hS : va_S A s.heap s.heap [] := va_S.rf
  have hP : va_P (dC, dI) vwCl [(x, .inr (10, [.ref (ax 0), .ref (ax 1), .ref (ax 2), .ref (ax 3), .ref (ax 4), .ref (ax 5), .int 0, .int 0, .int 0, .int 0, .int 0, .int 0])), ((ax 0), .inl ((kx 0), 8, .inl (fun _ => 0))), ((ax 1), .inl ((kx 1), 24, .inr (.inr (.inr (.inr (fun _ => none)))))), ((ax 2), .inl ((kx 2), 4, .inr (.inr (.inr (.inr (fun _ => none)))))), ((ax 3), .inl ((kx 3), 12, .inr (.inr (.inr (.inr (fun _ => none)))))), ((ax 4), .inl ((kx 4), 40, .inr (.inr (.inr (.inr (fun _ => none))))))] s.heap := hP
  have hl := lv_entry ([.ref x]) (n := 2) (Nat.le_of_ble_eq_true rfl)
  rw [lg_entry_eq]
  generalize (lg_sl ([.ref x]) ++ List.replicate (2 - (lg_sl ([.ref x])).length) Slot.unset).toArray = ls at hl ⊢
  have hl : lv_has ls 2 [(0, .ref x)] := hl
  refine lv_aload_n hx hb dX7_station_0 rfl (lv_at hl 0 rfl) ?_
  refine va_get (D := (dC, dI)) (ci := 10) (v := .int 0) (C := RX7) (T := TX7) (N := 12) hx hb hts (fun w h => List.mem_cons_of_mem _ (List.mem_append_right _ (List.mem_append_left _ h))) hown hK hP 0 rfl rfl 8 (by decide) (hts (.fieldLink RX7 107 "Spotbeat" "stationCount" "I") (by decide +kernel)) (fun _ h9 => h9) rfl dX7_station_1 ?_
  refine lv_istore_n (lv' := [(1, .int 0), (0, .ref x)]) hx hb dX7_station_4 rfl hl (by decide) rfl (fun ls hl => ?_)
  refine lv_iload_n hx hb dX7_station_5 rfl (lv_at hl 0 rfl) ?_
  refine lv_if_lt (tgt := 18) hx hb dX7_station_6 (by decide) (fun c_1 => absurd c_1 (by decide)) (fun _ => ?_)
  refine lv_iload_n hx hb dX7_station_9 rfl (lv_at hl 0 rfl) ?_
  refine lv_aload_n hx hb dX7_station_10 rfl (lv_at hl 1 rfl) ?_
  refine va_get (D := (dC, dI)) (ci := 10) (v := .ref (ax 2)) (C := RX7) (T := TX7) (N := 12) hx hb hts (fun w h => List.mem_cons_of_mem _ (List.mem_append_right _ (List.mem_append_left _ h))) hown hK hP 0 rfl rfl 2 (by decide) (hts (.fieldLink RX7 21 "Spotbeat" "stationRow" "[LSpotbeat$Station;") (by decide +kernel)) (fun _ h9 => h9) rfl dX7_station_11 ?_
  refine va_alen (v := 4) hx hb hK hP 3 2 rfl rfl rfl dX7_station_14 ?_
  refine lv_icmp_lt (tgt := 28) hx hb dX7_station_15 (by decide) (fun _ => ?_) (fun c_2 => absurd c_2 (by decide))
  refine lv_aload_n hx hb dX7_station_28 rfl (lv_at hl 1 rfl) ?_
  refine va_get (D := (dC, dI)) (ci := 10) (v := .ref (ax 2)) (C := RX7) (T := TX7) (N := 12) hx hb hts (fun w h => List.mem_cons_of_mem _ (List.mem_append_right _ (List.mem_append_left _ h))) hown hK hP 0 rfl rfl 2 (by decide) (hts (.fieldLink RX7 21 "Spotbeat" "stationRow" "[LSpotbeat$Station;") (by decide +kernel)) (fun _ h9 => h9) rfl dX7_station_29 ?_
  refine lv_iload_n hx hb dX7_station_32 rfl (lv_at hl 0 rfl) ?_
  refine va_new (ci := 8) (fs := [.int 0, .int 0, .null, .int 0, .null, .int 0, .int 0, .int 0, .int 0, .int 0, .int 0, .int 0]) (C := RX5) (T := TX5) (N := 12) hx hb hts (fun w h => List.mem_cons_of_mem _ (List.mem_append_right _ (List.mem_append_right _ (List.mem_append_left _ h)))) tyX5 tyX5_ok hown (hts (.classLink RX7 19 RX5) (by decide +kernel)) (hts (.instantiable RX5 12) (by decide +kernel)) (hts (.initialized RX5) (by decide +kernel)) hK hP hD hS hA rfl (fun j hj => by rcases (show j = 0 ∨ j = 1 ∨ j = 2 ∨ j = 3 ∨ j = 4 ∨ j = 5 ∨ j = 6 ∨ j = 7 ∨ j = 8 ∨ j = 9 ∨ j = 10 ∨ j = 11 by omega) with rfl | rfl | rfl | rfl | rfl | rfl | rfl | rfl | rfl | rfl | rfl | rfl <;> rfl) (Nat.le_of_ble_eq_true rfl) (Nat.le_of_ble_eq_true rfl) dX7_station_33 (fun q33 H hP hD hS => ?_)
  have hP : va_P (dC, dI) vwCl [(x, .inr (10, [.ref (ax 0), .ref (ax 1), .ref (ax 2), .ref (ax 3), .ref (ax 4), .ref (ax 5), .int 0, .int 0, .int 0, .int 0, .int 0, .int 0])), ((ax 0), .inl ((kx 0), 8, .inl (fun _ => 0))), ((ax 1), .inl ((kx 1), 24, .inr (.inr (.inr (.inr (fun _ => none)))))), ((ax 2), .inl ((kx 2), 4, .inr (.inr (.inr (.inr (fun _ => none)))))), ((ax 3), .inl ((kx 3), 12, .inr (.inr (.inr (.inr (fun _ => none)))))), ((ax 4), .inl ((kx 4), 40, .inr (.inr (.inr (.inr (fun _ => none)))))), (q33, .inr (8, [.int 0, .int 0, .null, .int 0, .null, .int 0, .int 0, .int 0, .int 0, .int 0, .int 0, .int 0]))] H := hP
  have hD : va_D A [(x, .inr (10, [.ref (ax 0), .ref (ax 1), .ref (ax 2), .ref (ax 3), .ref (ax 4), .ref (ax 5), .int 0, .int 0, .int 0, .int 0, .int 0, .int 0])), ((ax 0), .inl ((kx 0), 8, .inl (fun _ => 0))), ((ax 1), .inl ((kx 1), 24, .inr (.inr (.inr (.inr (fun _ => none)))))), ((ax 2), .inl ((kx 2), 4, .inr (.inr (.inr (.inr (fun _ => none)))))), ((ax 3), .inl ((kx 3), 12, .inr (.inr (.inr (.inr (fun _ => none)))))), ((ax 4), .inl ((kx 4), 40, .inr (.inr (.inr (.inr (fun _ => none)))))), (q33, .inr (8, [.int 0, .int 0, .null, .int 0, .null, .int 0, .int 0, .int 0, .int 0, .int 0, .int 0, .int 0]))] := hD
  refine lv_dup hx hb dX7_station_36 rfl ?_
  refine lv_iload_n hx hb dX7_station_37 rfl (lv_at hl 0 rfl) ?_
  refine lv_aload_n hx hb dX7_station_38 rfl (lv_at hl 1 rfl) ?_
  refine va_get (D := (dC, dI)) (ci := 10) (v := .int 0) (C := RX7) (T := TX7) (N := 12) hx hb hts (fun w h => List.mem_cons_of_mem _ (List.mem_append_right _ (List.mem_append_left _ h))) hown hK hP 0 rfl rfl 11 (by decide) (hts (.fieldLink RX7 112 "Spotbeat" "beatCount" "I") (by decide +kernel)) (fun _ h9 => h9) rfl dX7_station_39 ?_
  have hPc := hP.sub (ws' := [(q33, .inr (8, [.int 0, .int 0, .null, .int 0, .null, .int 0, .int 0, .int 0, .int 0, .int 0, .int 0, .int 0]))]) [6] rfl
  have hDc := hD.sub (ws' := [(q33, .inr (8, [.int 0, .int 0, .null, .int 0, .null, .int 0, .int 0, .int 0, .int 0, .int 0, .int 0, .int 0]))]) [6] (by decide) rfl
  have hKc := hK.sub (tys' := []) [] rfl
  have hFc := va_free (wc := [(q33, .inr (8, [.int 0, .int 0, .null, .int 0, .null, .int 0, .int 0, .int 0, .int 0, .int 0, .int 0, .int 0]))]) hD hS hA [6] rfl
  refine va_callv (va_runI (As := [.int 0, .int 0]) (rest := [.ref q33, .int 0, .ref (ax 2)]) ⟨hx, hb, hml, hown, hts⟩ (c_X5_init l dC dI H.size q33 0 0) (cwI 2 hts (goodIn_sub ((fun w h => List.mem_cons_of_mem _ (List.mem_append_right _ (List.mem_append_right _ (List.mem_append_right _ (h)))))) zgX5_init) rfl rfl rfl (hts (.initialized RX5) (by decide +kernel)) (hts (.methodLink RX7 115 yX5_init) (by decide +kernel)) (hts (.instanceMethod yX5_init) (by decide +kernel)) rfl (by decide +kernel) ⟨Nat.le_of_ble_eq_true rfl, Nat.le_of_ble_eq_true rfl⟩) ⟨gPcE_blind, gPcE_pass hPc hKc hDc hE hS hFc⟩ rfl rfl hl.1 rfl (lv_room (Nat.le_of_ble_eq_true rfl)) dX7_station_42 ⟨Nat.le_of_ble_eq_true rfl, Nat.le_of_ble_eq_true rfl⟩) hS (fun q _ h => hFc q h) hFc (fun u_5 t H locs ht hvm hw hB hz hk hS => ?_)
  obtain ⟨hP1, hK1, hD1⟩ := hB
  rw [ht] at hP1
  obtain ⟨hP, hD⟩ := va_join (wr := [(x, .inr (10, [.ref (ax 0), .ref (ax 1), .ref (ax 2), .ref (ax 3), .ref (ax 4), .ref (ax 5), .int 0, .int 0, .int 0, .int 0, .int 0, .int 0])), ((ax 0), .inl ((kx 0), 8, .inl (fun _ => 0))), ((ax 1), .inl ((kx 1), 24, .inr (.inr (.inr (.inr (fun _ => none)))))), ((ax 2), .inl ((kx 2), 4, .inr (.inr (.inr (.inr (fun _ => none)))))), ((ax 3), .inl ((kx 3), 12, .inr (.inr (.inr (.inr (fun _ => none)))))), ((ax 4), .inl ((kx 4), 40, .inr (.inr (.inr (.inr (fun _ => none))))))]) (w1 := [(q33, .inr (8, u_5))]) hP hD [6] [0, 1, 2, 3, 4, 5] rfl rfl (by decide) (by decide) hk hFc hP1 hD1
  have hP : va_P (dC, dI) vwCl [(x, .inr (10, [.ref (ax 0), .ref (ax 1), .ref (ax 2), .ref (ax 3), .ref (ax 4), .ref (ax 5), .int 0, .int 0, .int 0, .int 0, .int 0, .int 0])), ((ax 0), .inl ((kx 0), 8, .inl (fun _ => 0))), ((ax 1), .inl ((kx 1), 24, .inr (.inr (.inr (.inr (fun _ => none)))))), ((ax 2), .inl ((kx 2), 4, .inr (.inr (.inr (.inr (fun _ => none)))))), ((ax 3), .inl ((kx 3), 12, .inr (.inr (.inr (.inr (fun _ => none)))))), ((ax 4), .inl ((kx 4), 40, .inr (.inr (.inr (.inr (fun _ => none)))))), (q33, .inr (8, u_5))] H := hP
  have hD : va_D A [(x, .inr (10, [.ref (ax 0), .ref (ax 1), .ref (ax 2), .ref (ax 3), .ref (ax 4), .ref (ax 5), .int 0, .int 0, .int 0, .int 0, .int 0, .int 0])), ((ax 0), .inl ((kx 0), 8, .inl (fun _ => 0))), ((ax 1), .inl ((kx 1), 24, .inr (.inr (.inr (.inr (fun _ => none)))))), ((ax 2), .inl ((kx 2), 4, .inr (.inr (.inr (.inr (fun _ => none)))))), ((ax 3), .inl ((kx 3), 12, .inr (.inr (.inr (.inr (fun _ => none)))))), ((ax 4), .inl ((kx 4), 40, .inr (.inr (.inr (.inr (fun _ => none)))))), (q33, .inr (8, u_5))] := hD
  have w_6 : True := hw
  refine va_astq hx hb hK hP hD hS 3 2 6 8 rfl rfl rfl rfl (by unfold vp_in; decide +kernel) dX7_station_45 (fun H locs hP hD hS => ?_)
  have hP : va_P (dC, dI) vwCl [(x, .inr (10, [.ref (ax 0), .ref (ax 1), .ref (ax 2), .ref (ax 3), .ref (ax 4), .ref (ax 5), .int 0, .int 0, .int 0, .int 0, .int 0, .int 0])), ((ax 0), .inl ((kx 0), 8, .inl (fun _ => 0))), ((ax 1), .inl ((kx 1), 24, .inr (.inr (.inr (.inr (fun _ => none)))))), ((ax 2), .inl ((kx 2), 4, .inr (.inr (.inr (.inr (va_up (fun _ => none) (Int32.toNatClampNeg 0) (some q33))))))), ((ax 3), .inl ((kx 3), 12, .inr (.inr (.inr (.inr (fun _ => none)))))), ((ax 4), .inl ((kx 4), 40, .inr (.inr (.inr (.inr (fun _ => none)))))), (q33, .inr (8, u_5))] H := hP
  have hD : va_D A [(x, .inr (10, [.ref (ax 0), .ref (ax 1), .ref (ax 2), .ref (ax 3), .ref (ax 4), .ref (ax 5), .int 0, .int 0, .int 0, .int 0, .int 0, .int 0])), ((ax 0), .inl ((kx 0), 8, .inl (fun _ => 0))), ((ax 1), .inl ((kx 1), 24, .inr (.inr (.inr (.inr (fun _ => none)))))), ((ax 2), .inl ((kx 2), 4, .inr (.inr (.inr (.inr (va_up (fun _ => none) (Int32.toNatClampNeg 0) (some q33))))))), ((ax 3), .inl ((kx 3), 12, .inr (.inr (.inr (.inr (fun _ => none)))))), ((ax 4), .inl ((kx 4), 40, .inr (.inr (.inr (.inr (fun _ => none)))))), (q33, .inr (8, u_5))] := hD
  generalize va_up (fun _ => none) (Int32.toNatClampNeg 0) (some q33) = f_7 at hP hD
  refine lv_aload_n hx hb dX7_station_46 rfl (lv_at hl 1 rfl) ?_
  refine lv_iload_n hx hb dX7_station_47 rfl (lv_at hl 0 rfl) ?_
  refine lv_iconst (v := 1) hx hb dX7_station_48 (by decide) ?_
  refine lv_iadd hx hb dX7_station_49 ?_
  refine lv_topi (fun y_8 ey_8 => ?_)
  obtain rfl : y_8 = 1 := ey_8.trans (by decide +kernel)
  refine va_put (D := (dC, dI)) (ci := 10) (v := .int 1) (ty := .int) (C := RX7) (T := TX7) (N := 12) hx hb hts (fun w h => List.mem_cons_of_mem _ (List.mem_append_right _ (List.mem_append_left _ h))) tyX7 tyX7_ok nmX7 hown hK hP hD hS 0 rfl rfl 8 (by decide) (hts (.fieldLink RX7 107 "Spotbeat" "stationCount" "I") (by decide +kernel)) (fun _ h9 => h9) rfl (by decide +kernel) rfl rfl (Nat.le_of_ble_eq_true rfl) dX7_station_50 (fun H locs hP hD hS => ?_)
  have hP : va_P (dC, dI) vwCl [(x, .inr (10, [.ref (ax 0), .ref (ax 1), .ref (ax 2), .ref (ax 3), .ref (ax 4), .ref (ax 5), .int 0, .int 0, .int 1, .int 0, .int 0, .int 0])), ((ax 0), .inl ((kx 0), 8, .inl (fun _ => 0))), ((ax 1), .inl ((kx 1), 24, .inr (.inr (.inr (.inr (fun _ => none)))))), ((ax 2), .inl ((kx 2), 4, .inr (.inr (.inr (.inr f_7))))), ((ax 3), .inl ((kx 3), 12, .inr (.inr (.inr (.inr (fun _ => none)))))), ((ax 4), .inl ((kx 4), 40, .inr (.inr (.inr (.inr (fun _ => none)))))), (q33, .inr (8, u_5))] H := hP
  have hD : va_D A [(x, .inr (10, [.ref (ax 0), .ref (ax 1), .ref (ax 2), .ref (ax 3), .ref (ax 4), .ref (ax 5), .int 0, .int 0, .int 1, .int 0, .int 0, .int 0])), ((ax 0), .inl ((kx 0), 8, .inl (fun _ => 0))), ((ax 1), .inl ((kx 1), 24, .inr (.inr (.inr (.inr (fun _ => none)))))), ((ax 2), .inl ((kx 2), 4, .inr (.inr (.inr (.inr f_7))))), ((ax 3), .inl ((kx 3), 12, .inr (.inr (.inr (.inr (fun _ => none)))))), ((ax 4), .inl ((kx 4), 40, .inr (.inr (.inr (.inr (fun _ => none)))))), (q33, .inr (8, u_5))] := hD
  refine lv_iload_n hx hb dX7_station_53 rfl (lv_at hl 0 rfl) ?_
  refine W.widen (k := 2) (n := 15) (Nat.le_of_ble_eq_true rfl) (Nat.le_of_ble_eq_true rfl) ?_
  exact W.iret (v := 0) hx hb hr (fun t ht hW => ⟨⟨0, (), rfl, rfl, trivial⟩, hS.F ht⟩) hS.2.2 dX7_station_54

def zwX7_order : List Cond := .code yX7_order cX7_order 3 (some .int) :: (([.methodLink RX7 89 yX7_requireVariant, .static yX7_requireVariant, .initialized RX7, .fieldLink RX7 283 "Spotbeat" "bodyCount" "I", .fieldLink RX7 33 "Spotbeat" "bodyRow" "[LSpotbeat$Body;", .classLink RX7 31 RX0, .instantiable RX0 5, .initialized RX0, .methodLink RX7 288 yX0_init, .instanceMethod yX0_init] : List Cond) ++ (zwX7_requireVariant ++ (wsX70 ++ (wsX00 ++ (zwX0_init)))))
theorem zgX7_order : zwX7_order.all goodWord = true := zgo rfl (zga (by decide +kernel) (zga zgX7_requireVariant (zga zgcX7 (zga zgcX0 (zgX0_init)))))
set_option maxHeartbeats 4000000 in
set_option maxRecDepth 100000 in
/-- order(v) of a new object: 0 -/
theorem c_X7_order (l : Launch) (hst : l.stackTraces = false) (dC : Nat → ClassId) (dI : Nat → Nat → Nat) (sz : Nat) (x : Nat) (ax : Nat → Nat) (kx : Nat → ClassId) (v : Int32) : vx_Met l yX7_order zwX7_order ({ frames := 7, cells := 3, slots := 35, locals := 102 }) (gPcE dC dI sz [(x, .inr (10, [.ref (ax 0), .ref (ax 1), .ref (ax 2), .ref (ax 3), .ref (ax 4), .ref (ax 5), .int 0, .int 0, .int 0, .int 0, .int 0, .int 0])), ((ax 0), .inl ((kx 0), 8, .inl (fun _ => 0))), ((ax 1), .inl ((kx 1), 24, .inr (.inr (.inr (.inr (fun _ => none)))))), ((ax 2), .inl ((kx 2), 4, .inr (.inr (.inr (.inr (fun _ => none)))))), ((ax 3), .inl ((kx 3), 12, .inr (.inr (.inr (.inr (fun _ => none)))))), ((ax 4), .inl ((kx 4), 40, .inr (.inr (.inr (.inr (fun _ => none))))))] [((kx 0), .int), ((kx 1), .object RX4), ((kx 2), .object RX5), ((kx 3), .object RX3), ((kx 4), .object RX0)] [.ref x, .int v]) (va_Qi (fun (r : Int32) (u : Unit) => r = 0 ∧ ¬ (v < 0 ∨ 4 ≤ v)) (fun u t => True) (va_A [(x, .inr (10, [.ref (ax 0), .ref (ax 1), .ref (ax 2), .ref (ax 3), .ref (ax 4), .ref (ax 5), .int 0, .int 0, .int 0, .int 0, .int 0, .int 0])), ((ax 0), .inl ((kx 0), 8, .inl (fun _ => 0))), ((ax 1), .inl ((kx 1), 24, .inr (.inr (.inr (.inr (fun _ => none)))))), ((ax 2), .inl ((kx 2), 4, .inr (.inr (.inr (.inr (fun _ => none)))))), ((ax 3), .inl ((kx 3), 12, .inr (.inr (.inr (.inr (fun _ => none)))))), ((ax 4), .inl ((kx 4), 40, .inr (.inr (.inr (.inr (fun _ => none))))))] sz)) (zX (v < 0 ∨ 4 ≤ v) "java/lang/IndexOutOfBoundsException" (va_A [(x, .inr (10, [.ref (ax 0), .ref (ax 1), .ref (ax 2), .ref (ax 3), .ref (ax 4), .ref (ax 5), .int 0, .int 0, .int 0, .int 0, .int 0, .int 0])), ((ax 0), .inl ((kx 0), 8, .inl (fun _ => 0))), ((ax 1), .inl ((kx 1), 24, .inr (.inr (.inr (.inr (fun _ => none)))))), ((ax 2), .inl ((kx 2), 4, .inr (.inr (.inr (.inr (fun _ => none)))))), ((ax 3), .inl ((kx 3), 12, .inr (.inr (.inr (.inr (fun _ => none)))))), ((ax 4), .inl ((kx 4), 40, .inr (.inr (.inr (.inr (fun _ => none))))))] sz)) 3 35 (va_A [(x, .inr (10, [.ref (ax 0), .ref (ax 1), .ref (ax 2), .ref (ax 3), .ref (ax 4), .ref (ax 5), .int 0, .int 0, .int 0, .int 0, .int 0, .int 0])), ((ax 0), .inl ((kx 0), 8, .inl (fun _ => 0))), ((ax 1), .inl ((kx 1), 24, .inr (.inr (.inr (.inr (fun _ => none)))))), ((ax 2), .inl ((kx 2), 4, .inr (.inr (.inr (.inr (fun _ => none)))))), ((ax 3), .inl ((kx 3), 12, .inr (.inr (.inr (.inr (fun _ => none)))))), ((ax 4), .inl ((kx 4), 40, .inr (.inr (.inr (.inr (fun _ => none))))))] sz) := by
  refine vx_ofW (cc := cX7_order) (maxL := 3) (ret := (some .int)) (by decide) rfl ?_
  intro p e s m args below meth c s₁ B hml hnt hv
  obtain ⟨rfl, hsz, hP, hK, hD0, hE⟩ := hv
  have hx := B.exec
  have hb := B.bytes
  have hr := B.returns
  have hts := atoms_spec (ws := zwX7_order) B.pre
  have hown : s.vm.findClass RX7 = some m.cls := findClass_of_methodNamed B.named
  have hlocks := B.notSynchronized
  subst hsz
  have hD := hD0.self (sz := s.heap.size)
  generalize hAe : va_A [(x, .inr (10, [.ref (ax 0), .ref (ax 1), .ref (ax 2), .ref (ax 3), .ref (ax 4), .ref (ax 5), .int 0, .int 0, .int 0, .int 0, .int 0, .int 0])), ((ax 0), .inl ((kx 0), 8, .inl (fun _ => 0))), ((ax 1), .inl ((kx 1), 24, .inr (.inr (.inr (.inr (fun _ => none)))))), ((ax 2), .inl ((kx 2), 4, .inr (.inr (.inr (.inr (fun _ => none)))))), ((ax 3), .inl ((kx 3), 12, .inr (.inr (.inr (.inr (fun _ => none)))))), ((ax 4), .inl ((kx 4), 40, .inr (.inr (.inr (.inr (fun _ => none))))))] s.heap.size = A at hD hE ⊢
  have hA : ∀ q : Nat, s.heap.size ≤ q → A q := fun q h => by rw [← hAe]; exact Or.inr h
  have hS : va_S A s.heap s.heap [] := va_S.rf
  have hP : va_P (dC, dI) vwCl [(x, .inr (10, [.ref (ax 0), .ref (ax 1), .ref (ax 2), .ref (ax 3), .ref (ax 4), .ref (ax 5), .int 0, .int 0, .int 0, .int 0, .int 0, .int 0])), ((ax 0), .inl ((kx 0), 8, .inl (fun _ => 0))), ((ax 1), .inl ((kx 1), 24, .inr (.inr (.inr (.inr (fun _ => none)))))), ((ax 2), .inl ((kx 2), 4, .inr (.inr (.inr (.inr (fun _ => none)))))), ((ax 3), .inl ((kx 3), 12, .inr (.inr (.inr (.inr (fun _ => none)))))), ((ax 4), .inl ((kx 4), 40, .inr (.inr (.inr (.inr (fun _ => none))))))] s.heap := hP
  have hl := lv_entry ([.ref x, .int v]) (n := 3) (Nat.le_of_ble_eq_true rfl)
  rw [lg_entry_eq]
  generalize (lg_sl ([.ref x, .int v]) ++ List.replicate (3 - (lg_sl ([.ref x, .int v])).length) Slot.unset).toArray = ls at hl ⊢
  have hl : lv_has ls 3 [(0, .ref x), (1, .int v)] := hl
  refine lv_iload_n hx hb dX7_order_0 rfl (lv_at hl 1 rfl) ?_
  refine vx_callv (vx_runS (As := [.int v]) (rest := []) ⟨hx, hb, hml, hown, hts⟩ (c_X7_requireVariant l hst dC dI s.heap.size v) (va_cwS 1 hts (goodIn_app (goodIn_of _ (by decide +kernel)) (goodIn_sub ((fun w h => List.mem_cons_of_mem _ (List.mem_append_right _ (List.mem_append_left _ h)))) zgX7_requireVariant)) rfl rfl rfl (by decide +kernel) ⟨Nat.le_of_ble_eq_true rfl, Nat.le_of_ble_eq_true rfl⟩) ⟨ePc_blind, ePc_pass hE hS (fun q h => hA q (Nat.le_trans hS.1 h))⟩ rfl rfl hl.1 rfl (lv_room (Nat.le_of_ble_eq_true rfl)) dX7_order_1 ⟨Nat.le_of_ble_eq_true rfl, Nat.le_of_ble_eq_true rfl⟩) hS (fun q _ h => hA q (Nat.le_trans hS.1 h)) (fun q h => hA q (Nat.le_trans hS.1 h)) (fun q _ h => hA q (Nat.le_trans hS.1 h)) (fun E ce q9 _ t H locs ht hvm hpx hBX hz hk hS hcell hv hcl => ?_) (fun u_2 t H locs ht hvm hw hB hz hk hS => ?_)
  · have hBX : E = "java/lang/IndexOutOfBoundsException" := hBX
    subst hBX
    exact zOut (px := v < 0 ∨ 4 ≤ v) (E := "java/lang/IndexOutOfBoundsException") hnt hlocks hcell hv hcl hS hpx hS.2.2 (Nat.le_of_ble_eq_true rfl) (Nat.le_of_ble_eq_true rfl)
  have hP := zkn hP hk
  have w_3 : ¬ (v < 0 ∨ 4 ≤ v) := hw
  refine lv_aload_n hx hb dX7_order_4 rfl (lv_at hl 0 rfl) ?_
  refine va_get (D := (dC, dI)) (ci := 10) (v := .int 0) (C := RX7) (T := TX7) (N := 12) hx hb hts (fun w h => List.mem_cons_of_mem _ (List.mem_append_right _ (List.mem_append_right _ (List.mem_append_left _ h)))) hown hK hP 0 rfl rfl 10 (by decide) (hts (.fieldLink RX7 283 "Spotbeat" "bodyCount" "I") (by decide +kernel)) (fun _ h9 => h9) rfl dX7_order_5 ?_
  refine lv_istore_n (lv' := [(2, .int 0), (0, .ref x), (1, .int v)]) hx hb dX7_order_8 rfl hl (by decide) rfl (fun ls hl => ?_)
  refine lv_iload_n hx hb dX7_order_9 rfl (lv_at hl 0 rfl) ?_
  refine lv_if_lt (tgt := 22) hx hb dX7_order_10 (by decide) (fun c_4 => absurd c_4 (by decide)) (fun _ => ?_)
  refine lv_iload_n hx hb dX7_order_13 rfl (lv_at hl 0 rfl) ?_
  refine lv_aload_n hx hb dX7_order_14 rfl (lv_at hl 1 rfl) ?_
  refine va_get (D := (dC, dI)) (ci := 10) (v := .ref (ax 4)) (C := RX7) (T := TX7) (N := 12) hx hb hts (fun w h => List.mem_cons_of_mem _ (List.mem_append_right _ (List.mem_append_right _ (List.mem_append_left _ h)))) hown hK hP 0 rfl rfl 4 (by decide) (hts (.fieldLink RX7 33 "Spotbeat" "bodyRow" "[LSpotbeat$Body;") (by decide +kernel)) (fun _ h9 => h9) rfl dX7_order_15 ?_
  refine va_alen (v := 40) hx hb hK hP 5 4 rfl rfl rfl dX7_order_18 ?_
  refine lv_icmp_lt (tgt := 33) hx hb dX7_order_19 (by decide) (fun _ => ?_) (fun c_5 => absurd c_5 (by decide))
  refine lv_aload_n hx hb dX7_order_33 rfl (lv_at hl 1 rfl) ?_
  refine va_get (D := (dC, dI)) (ci := 10) (v := .ref (ax 4)) (C := RX7) (T := TX7) (N := 12) hx hb hts (fun w h => List.mem_cons_of_mem _ (List.mem_append_right _ (List.mem_append_right _ (List.mem_append_left _ h)))) hown hK hP 0 rfl rfl 4 (by decide) (hts (.fieldLink RX7 33 "Spotbeat" "bodyRow" "[LSpotbeat$Body;") (by decide +kernel)) (fun _ h9 => h9) rfl dX7_order_34 ?_
  refine lv_iload_n hx hb dX7_order_37 rfl (lv_at hl 0 rfl) ?_
  refine va_new (ci := 3) (fs := [.int 0, .int 0, .null, .int 0, .int 0]) (C := RX0) (T := TX0) (N := 5) hx hb hts (fun w h => List.mem_cons_of_mem _ (List.mem_append_right _ (List.mem_append_right _ (List.mem_append_right _ (List.mem_append_left _ h))))) tyX0 tyX0_ok hown (hts (.classLink RX7 31 RX0) (by decide +kernel)) (hts (.instantiable RX0 5) (by decide +kernel)) (hts (.initialized RX0) (by decide +kernel)) hK hP hD hS hA rfl (fun j hj => by rcases (show j = 0 ∨ j = 1 ∨ j = 2 ∨ j = 3 ∨ j = 4 by omega) with rfl | rfl | rfl | rfl | rfl <;> rfl) (Nat.le_of_ble_eq_true rfl) (Nat.le_of_ble_eq_true rfl) dX7_order_38 (fun q38 H hP hD hS => ?_)
  have hP : va_P (dC, dI) vwCl [(x, .inr (10, [.ref (ax 0), .ref (ax 1), .ref (ax 2), .ref (ax 3), .ref (ax 4), .ref (ax 5), .int 0, .int 0, .int 0, .int 0, .int 0, .int 0])), ((ax 0), .inl ((kx 0), 8, .inl (fun _ => 0))), ((ax 1), .inl ((kx 1), 24, .inr (.inr (.inr (.inr (fun _ => none)))))), ((ax 2), .inl ((kx 2), 4, .inr (.inr (.inr (.inr (fun _ => none)))))), ((ax 3), .inl ((kx 3), 12, .inr (.inr (.inr (.inr (fun _ => none)))))), ((ax 4), .inl ((kx 4), 40, .inr (.inr (.inr (.inr (fun _ => none)))))), (q38, .inr (3, [.int 0, .int 0, .null, .int 0, .int 0]))] H := hP
  have hD : va_D A [(x, .inr (10, [.ref (ax 0), .ref (ax 1), .ref (ax 2), .ref (ax 3), .ref (ax 4), .ref (ax 5), .int 0, .int 0, .int 0, .int 0, .int 0, .int 0])), ((ax 0), .inl ((kx 0), 8, .inl (fun _ => 0))), ((ax 1), .inl ((kx 1), 24, .inr (.inr (.inr (.inr (fun _ => none)))))), ((ax 2), .inl ((kx 2), 4, .inr (.inr (.inr (.inr (fun _ => none)))))), ((ax 3), .inl ((kx 3), 12, .inr (.inr (.inr (.inr (fun _ => none)))))), ((ax 4), .inl ((kx 4), 40, .inr (.inr (.inr (.inr (fun _ => none)))))), (q38, .inr (3, [.int 0, .int 0, .null, .int 0, .int 0]))] := hD
  refine lv_dup hx hb dX7_order_41 rfl ?_
  refine lv_iload_n hx hb dX7_order_42 rfl (lv_at hl 0 rfl) ?_
  refine lv_iload_n hx hb dX7_order_43 rfl (lv_at hl 2 rfl) ?_
  have hPc := hP.sub (ws' := [(q38, .inr (3, [.int 0, .int 0, .null, .int 0, .int 0]))]) [6] rfl
  have hDc := hD.sub (ws' := [(q38, .inr (3, [.int 0, .int 0, .null, .int 0, .int 0]))]) [6] (by decide) rfl
  have hKc := hK.sub (tys' := []) [] rfl
  have hFc := va_free (wc := [(q38, .inr (3, [.int 0, .int 0, .null, .int 0, .int 0]))]) hD hS hA [6] rfl
  refine va_callv (va_runI (As := [.int 0, .int v]) (rest := [.ref q38, .int 0, .ref (ax 4)]) ⟨hx, hb, hml, hown, hts⟩ (c_X0_init l dC dI H.size q38 0 v) (cwI 2 hts (goodIn_sub ((fun w h => List.mem_cons_of_mem _ (List.mem_append_right _ (List.mem_append_right _ (List.mem_append_right _ (List.mem_append_right _ (h))))))) zgX0_init) rfl rfl rfl (hts (.initialized RX0) (by decide +kernel)) (hts (.methodLink RX7 288 yX0_init) (by decide +kernel)) (hts (.instanceMethod yX0_init) (by decide +kernel)) rfl (by decide +kernel) ⟨Nat.le_of_ble_eq_true rfl, Nat.le_of_ble_eq_true rfl⟩) ⟨gPc_blind, gPc_pass hPc hKc hDc⟩ rfl rfl hl.1 rfl (lv_room (Nat.le_of_ble_eq_true rfl)) dX7_order_44 ⟨Nat.le_of_ble_eq_true rfl, Nat.le_of_ble_eq_true rfl⟩) hS (fun q _ h => hFc q h) hFc (fun u_8 t H locs ht hvm hw hB hz hk hS => ?_)
  obtain ⟨hP1, hK1, hD1⟩ := hB
  rw [ht] at hP1
  obtain ⟨hP, hD⟩ := va_join (wr := [(x, .inr (10, [.ref (ax 0), .ref (ax 1), .ref (ax 2), .ref (ax 3), .ref (ax 4), .ref (ax 5), .int 0, .int 0, .int 0, .int 0, .int 0, .int 0])), ((ax 0), .inl ((kx 0), 8, .inl (fun _ => 0))), ((ax 1), .inl ((kx 1), 24, .inr (.inr (.inr (.inr (fun _ => none)))))), ((ax 2), .inl ((kx 2), 4, .inr (.inr (.inr (.inr (fun _ => none)))))), ((ax 3), .inl ((kx 3), 12, .inr (.inr (.inr (.inr (fun _ => none)))))), ((ax 4), .inl ((kx 4), 40, .inr (.inr (.inr (.inr (fun _ => none))))))]) (w1 := [(q38, .inr (3, u_8))]) hP hD [6] [0, 1, 2, 3, 4, 5] rfl rfl (by decide) (by decide) hk hFc hP1 hD1
  have hP : va_P (dC, dI) vwCl [(x, .inr (10, [.ref (ax 0), .ref (ax 1), .ref (ax 2), .ref (ax 3), .ref (ax 4), .ref (ax 5), .int 0, .int 0, .int 0, .int 0, .int 0, .int 0])), ((ax 0), .inl ((kx 0), 8, .inl (fun _ => 0))), ((ax 1), .inl ((kx 1), 24, .inr (.inr (.inr (.inr (fun _ => none)))))), ((ax 2), .inl ((kx 2), 4, .inr (.inr (.inr (.inr (fun _ => none)))))), ((ax 3), .inl ((kx 3), 12, .inr (.inr (.inr (.inr (fun _ => none)))))), ((ax 4), .inl ((kx 4), 40, .inr (.inr (.inr (.inr (fun _ => none)))))), (q38, .inr (3, u_8))] H := hP
  have hD : va_D A [(x, .inr (10, [.ref (ax 0), .ref (ax 1), .ref (ax 2), .ref (ax 3), .ref (ax 4), .ref (ax 5), .int 0, .int 0, .int 0, .int 0, .int 0, .int 0])), ((ax 0), .inl ((kx 0), 8, .inl (fun _ => 0))), ((ax 1), .inl ((kx 1), 24, .inr (.inr (.inr (.inr (fun _ => none)))))), ((ax 2), .inl ((kx 2), 4, .inr (.inr (.inr (.inr (fun _ => none)))))), ((ax 3), .inl ((kx 3), 12, .inr (.inr (.inr (.inr (fun _ => none)))))), ((ax 4), .inl ((kx 4), 40, .inr (.inr (.inr (.inr (fun _ => none)))))), (q38, .inr (3, u_8))] := hD
  have w_9 : True := hw
  refine va_astq hx hb hK hP hD hS 5 4 6 3 rfl rfl rfl rfl (by unfold vp_in; decide +kernel) dX7_order_47 (fun H locs hP hD hS => ?_)
  have hP : va_P (dC, dI) vwCl [(x, .inr (10, [.ref (ax 0), .ref (ax 1), .ref (ax 2), .ref (ax 3), .ref (ax 4), .ref (ax 5), .int 0, .int 0, .int 0, .int 0, .int 0, .int 0])), ((ax 0), .inl ((kx 0), 8, .inl (fun _ => 0))), ((ax 1), .inl ((kx 1), 24, .inr (.inr (.inr (.inr (fun _ => none)))))), ((ax 2), .inl ((kx 2), 4, .inr (.inr (.inr (.inr (fun _ => none)))))), ((ax 3), .inl ((kx 3), 12, .inr (.inr (.inr (.inr (fun _ => none)))))), ((ax 4), .inl ((kx 4), 40, .inr (.inr (.inr (.inr (va_up (fun _ => none) (Int32.toNatClampNeg 0) (some q38))))))), (q38, .inr (3, u_8))] H := hP
  have hD : va_D A [(x, .inr (10, [.ref (ax 0), .ref (ax 1), .ref (ax 2), .ref (ax 3), .ref (ax 4), .ref (ax 5), .int 0, .int 0, .int 0, .int 0, .int 0, .int 0])), ((ax 0), .inl ((kx 0), 8, .inl (fun _ => 0))), ((ax 1), .inl ((kx 1), 24, .inr (.inr (.inr (.inr (fun _ => none)))))), ((ax 2), .inl ((kx 2), 4, .inr (.inr (.inr (.inr (fun _ => none)))))), ((ax 3), .inl ((kx 3), 12, .inr (.inr (.inr (.inr (fun _ => none)))))), ((ax 4), .inl ((kx 4), 40, .inr (.inr (.inr (.inr (va_up (fun _ => none) (Int32.toNatClampNeg 0) (some q38))))))), (q38, .inr (3, u_8))] := hD
  generalize va_up (fun _ => none) (Int32.toNatClampNeg 0) (some q38) = f_10 at hP hD
  refine lv_aload_n hx hb dX7_order_48 rfl (lv_at hl 1 rfl) ?_
  refine lv_iload_n hx hb dX7_order_49 rfl (lv_at hl 0 rfl) ?_
  refine lv_iconst (v := 1) hx hb dX7_order_50 (by decide) ?_
  refine lv_iadd hx hb dX7_order_51 ?_
  refine lv_topi (fun y_11 ey_11 => ?_)
  obtain rfl : y_11 = 1 := ey_11.trans (by decide +kernel)
  refine va_put (D := (dC, dI)) (ci := 10) (v := .int 1) (ty := .int) (C := RX7) (T := TX7) (N := 12) hx hb hts (fun w h => List.mem_cons_of_mem _ (List.mem_append_right _ (List.mem_append_right _ (List.mem_append_left _ h)))) tyX7 tyX7_ok nmX7 hown hK hP hD hS 0 rfl rfl 10 (by decide) (hts (.fieldLink RX7 283 "Spotbeat" "bodyCount" "I") (by decide +kernel)) (fun _ h9 => h9) rfl (by decide +kernel) rfl rfl (Nat.le_of_ble_eq_true rfl) dX7_order_52 (fun H locs hP hD hS => ?_)
  have hP : va_P (dC, dI) vwCl [(x, .inr (10, [.ref (ax 0), .ref (ax 1), .ref (ax 2), .ref (ax 3), .ref (ax 4), .ref (ax 5), .int 0, .int 0, .int 0, .int 0, .int 1, .int 0])), ((ax 0), .inl ((kx 0), 8, .inl (fun _ => 0))), ((ax 1), .inl ((kx 1), 24, .inr (.inr (.inr (.inr (fun _ => none)))))), ((ax 2), .inl ((kx 2), 4, .inr (.inr (.inr (.inr (fun _ => none)))))), ((ax 3), .inl ((kx 3), 12, .inr (.inr (.inr (.inr (fun _ => none)))))), ((ax 4), .inl ((kx 4), 40, .inr (.inr (.inr (.inr f_10))))), (q38, .inr (3, u_8))] H := hP
  have hD : va_D A [(x, .inr (10, [.ref (ax 0), .ref (ax 1), .ref (ax 2), .ref (ax 3), .ref (ax 4), .ref (ax 5), .int 0, .int 0, .int 0, .int 0, .int 1, .int 0])), ((ax 0), .inl ((kx 0), 8, .inl (fun _ => 0))), ((ax 1), .inl ((kx 1), 24, .inr (.inr (.inr (.inr (fun _ => none)))))), ((ax 2), .inl ((kx 2), 4, .inr (.inr (.inr (.inr (fun _ => none)))))), ((ax 3), .inl ((kx 3), 12, .inr (.inr (.inr (.inr (fun _ => none)))))), ((ax 4), .inl ((kx 4), 40, .inr (.inr (.inr (.inr f_10))))), (q38, .inr (3, u_8))] := hD
  refine lv_iload_n hx hb dX7_order_55 rfl (lv_at hl 0 rfl) ?_
  refine W.widen (k := 3) (n := 35) (Nat.le_of_ble_eq_true rfl) (Nat.le_of_ble_eq_true rfl) ?_
  exact vx_ret (W.iret (v := 0) hx hb hr (fun t ht hW => ⟨⟨0, (), rfl, ⟨rfl, w_3⟩, trivial⟩, hS.F ht⟩) hS.2.2 dX7_order_56)
end ZCls2
