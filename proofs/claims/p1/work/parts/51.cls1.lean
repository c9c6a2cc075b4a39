section ZCls1
def zwX7_requireVariant : List Cond := .code yX7_requireVariant cX7_requireVariant 1 none :: (([.classLink RX7 52 "java/lang/IndexOutOfBoundsException", .initialized "java/lang/IndexOutOfBoundsException"] : List Cond) ++ (((vx_atS RX7 56 "java/lang/IndexOutOfBoundsException" zNames).filter goodWord)))
theorem zgX7_requireVariant : zwX7_requireVariant.all goodWord = true := zgo rfl (zga (by decide +kernel) ((zgf _)))
set_option maxHeartbeats 4000000 in
set_option maxRecDepth 100000 in
/-- requireVariant(v): throws unless 0 <= v < 4 -/
theorem c_X7_requireVariant (l : Launch) (hst : l.stackTraces = false) (dC : Nat → ClassId) (dI : Nat → Nat → Nat) (sz : Nat) (v : Int32) : vx_Met l yX7_requireVariant zwX7_requireVariant ({ frames := 6, cells := 1, slots := 6, locals := 82 }) (ePc sz [.int v]) (va_Qv (fun (_ : Unit) => ¬ (v < 0 ∨ 4 ≤ v)) (fun _ _ => True) (fun q : Nat => sz ≤ q)) (zX (v < 0 ∨ 4 ≤ v) "java/lang/IndexOutOfBoundsException" (fun q : Nat => sz ≤ q)) 1 6 (fun q : Nat => sz ≤ q) := by
  refine vx_ofW (cc := cX7_requireVariant) (maxL := 1) (ret := none) (by decide) rfl ?_
  intro p e s m args below meth c s₁ B hml hnt hv
  obtain ⟨rfl, hsz, hE⟩ := hv
  have hx := B.exec
  have hb := B.bytes
  have hr := B.returns
  have hts := atoms_spec (ws := zwX7_requireVariant) B.pre
  have hown : s.vm.findClass RX7 = some m.cls := findClass_of_methodNamed B.named
  have hlocks := B.notSynchronized
  subst hsz
  have hA : ∀ q : Nat, s.heap.size ≤ q → s.heap.size ≤ q := fun _ h => h
  have hS : va_S (fun q : Nat => s.heap.size ≤ q) s.heap s.heap [] := va_S.rf
  have hl := lv_entry ([.int v]) (n := 1) (Nat.le_of_ble_eq_true rfl)
  rw [lg_entry_eq]
  generalize (lg_sl ([.int v]) ++ List.replicate (1 - (lg_sl ([.int v])).length) Slot.unset).toArray = ls at hl ⊢
  have hl : lv_has ls 1 [(0, .int v)] := hl
  refine lv_iload_n hx hb dX7_requireVariant_0 rfl (lv_at hl 0 rfl) ?_
  refine lv_if_lt (tgt := 9) hx hb dX7_requireVariant_1 (by decide) (fun c_1 => ?_) (fun c_1 => ?_)
  · exact zThrow (Ts := zwX7_requireVariant) (px := v < 0 ∨ 4 ≤ v) (E := "java/lang/IndexOutOfBoundsException") (ik := 52) (is := 170) (ic := 56) hx hb hst hown hts hE hS (hl.1.trans hml.symm) (by decide) (by decide +kernel) (text := "no such variant") (by decide) (by decide +kernel) (by decide +kernel) (fun w h => List.mem_cons_of_mem _ (List.mem_append_right _ (h))) (by decide +kernel) (by decide +kernel) dX7_requireVariant_9 dX7_requireVariant_12 dX7_requireVariant_13 dX7_requireVariant_15 dX7_requireVariant_18 hnt (Nat.le_of_ble_eq_true rfl) (Nat.le_of_ble_eq_true rfl) (Nat.le_of_ble_eq_true rfl) (Nat.le_of_ble_eq_true rfl) hlocks (by simp only [zPl, zPm, fa_lt, fa_le, fa_eq, zi_0, zi_1, zi_3, zi_4, zi_7, zi_8, zi_10, zi_12, zi_119, zi_m1] at c_1 ⊢ <;> omega) hS.2.2 (Nat.le_of_ble_eq_true rfl) (Nat.le_of_ble_eq_true rfl)
  · refine lv_iload_n hx hb dX7_requireVariant_4 rfl (lv_at hl 0 rfl) ?_
    refine lv_iconst (v := 4) hx hb dX7_requireVariant_5 (by decide) ?_
    refine lv_icmp_lt (tgt := 19) hx hb dX7_requireVariant_6 (by decide) (fun c_2 => ?_) (fun c_2 => ?_)
    · refine W.widen (k := 1) (n := 6) (Nat.le_of_ble_eq_true rfl) (Nat.le_of_ble_eq_true rfl) ?_
      exact vx_ret (W.vret hx hb hr (fun t ht hW => ⟨⟨(), rfl, (by simp only [zPl, zPm, fa_lt, fa_le, fa_eq, zi_0, zi_1, zi_3, zi_4, zi_7, zi_8, zi_10, zi_12, zi_119, zi_m1] at c_1 c_2 ⊢ <;> omega), trivial⟩, hS.F ht⟩) hS.2.2 dX7_requireVariant_19)
    · exact zThrow (Ts := zwX7_requireVariant) (px := v < 0 ∨ 4 ≤ v) (E := "java/lang/IndexOutOfBoundsException") (ik := 52) (is := 170) (ic := 56) hx hb hst hown hts hE hS (hl.1.trans hml.symm) (by decide) (by decide +kernel) (text := "no such variant") (by decide) (by decide +kernel) (by decide +kernel) (fun w h => List.mem_cons_of_mem _ (List.mem_append_right _ (h))) (by decide +kernel) (by decide +kernel) dX7_requireVariant_9 dX7_requireVariant_12 dX7_requireVariant_13 dX7_requireVariant_15 dX7_requireVariant_18 hnt (Nat.le_of_ble_eq_true rfl) (Nat.le_of_ble_eq_true rfl) (Nat.le_of_ble_eq_true rfl) (Nat.le_of_ble_eq_true rfl) hlocks (by simp only [zPl, zPm, fa_lt, fa_le, fa_eq, zi_0, zi_1, zi_3, zi_4, zi_7, zi_8, zi_10, zi_12, zi_119, zi_m1] at c_1 c_2 ⊢ <;> omega) hS.2.2 (Nat.le_of_ble_eq_true rfl) (Nat.le_of_ble_eq_true rfl)

def zwX7_stationAt : List Cond := .code yX7_stationAt cX7_stationAt 2 (some (.object "Spotbeat$Station")) :: (([.fieldLink RX7 21 "Spotbeat" "stationRow" "[LSpotbeat$Station;"] : List Cond) ++ (wsX70))
theorem zgX7_stationAt : zwX7_stationAt.all goodWord = true := zgo rfl (zga (by decide +kernel) (zgcX7))
set_option maxHeartbeats 4000000 in
set_option maxRecDepth 100000 in
/-- stationAt: nothing there yet -/
theorem c_X7_stationAt (l : Launch) (dC : Nat → ClassId) (dI : Nat → Nat → Nat) (sz : Nat) (x : Nat) (ax : Nat → Nat) (kx : Nat → ClassId) (v : Int32) : Met l yX7_stationAt zwX7_stationAt ({ frames := 0, cells := 0, slots := 0, locals := 0 }) (xPc dC dI sz x ax kx [.ref x, .int v]) (va_Qq (fun (r : Option Nat) (_ : Unit) => r = none) (fun _ _ => True) (fun q : Nat => sz ≤ q)) 0 0 (fun q : Nat => sz ≤ q) := by
  refine Met.ofW (cc := cX7_stationAt) (maxL := 2) (ret := (some (.object "Spotbeat$Station"))) (by decide) rfl ?_
  intro p e s m args below meth c s₁ B hml hv
  obtain ⟨rfl, hsz, hP, hK, hE⟩ := hv
  have hx := B.exec
  have hb := B.bytes
  have hr := B.returns
  have hts := atoms_spec (ws := zwX7_stationAt) B.pre
  have hown : s.vm.findClass RX7 = some m.cls := findClass_of_methodNamed B.named
  have hlocks := B.notSynchronized
  subst hsz
  have hA : ∀ q : Nat, s.heap.size ≤ q → s.heap.size ≤ q := fun _ h => h
  have hS : va_S (fun q : Nat => s.heap.size ≤ q) s.heap s.heap [] := va_S.rf
  have hl := lv_entry ([.ref x, .int v]) (n := 2) (Nat.le_of_ble_eq_true rfl)
  rw [lg_entry_eq]
  generalize (lg_sl ([.ref x, .int v]) ++ List.replicate (2 - (lg_sl ([.ref x, .int v])).length) Slot.unset).toArray = ls at hl ⊢
  have hl : lv_has ls 2 [(0, .ref x), (1, .int v)] := hl
  refine lv_iload_n hx hb dX7_stationAt_0 rfl (lv_at hl 1 rfl) ?_
  refine lv_if_lt (tgt := 22) hx hb dX7_stationAt_1 (by decide) (fun c_1 => ?_) (fun c_1 => ?_)
  · refine lv_null hx hb dX7_stationAt_22 ?_
    refine W.widen (k := 0) (n := 0) (Nat.le_of_ble_eq_true rfl) (Nat.le_of_ble_eq_true rfl) ?_
    exact W.aret (v := .null) hx hb hr (Or.inl ⟨_, rfl⟩) (Or.inl rfl) (fun t ht hW => ⟨⟨none, (), rfl, rfl, trivial⟩, hS.F ht⟩) hS.2.2 dX7_stationAt_23
  · refine lv_iload_n hx hb dX7_stationAt_4 rfl (lv_at hl 1 rfl) ?_
    refine lv_aload_n hx hb dX7_stationAt_5 rfl (lv_at hl 0 rfl) ?_
    refine va_get (D := (dC, dI)) (ci := 10) (v := .ref (ax 2)) (C := RX7) (T := TX7) (N := 12) hx hb hts (fun w h => List.mem_cons_of_mem _ (List.mem_append_right _ (h))) hown hK hP 0 rfl rfl 2 (by decide) (hts (.fieldLink RX7 21 "Spotbeat" "stationRow" "[LSpotbeat$Station;") (by decide +kernel)) (fun _ h9 => h9) rfl dX7_stationAt_6 ?_
    refine va_alen (v := 4) hx hb hK hP 3 2 rfl rfl rfl dX7_stationAt_9 ?_
    refine lv_icmp_ge (tgt := 22) hx hb dX7_stationAt_10 (by decide) (fun c_2 => ?_) (fun c_2 => ?_)
    · refine lv_null hx hb dX7_stationAt_22 ?_
      refine W.widen (k := 0) (n := 0) (Nat.le_of_ble_eq_true rfl) (Nat.le_of_ble_eq_true rfl) ?_
      exact W.aret (v := .null) hx hb hr (Or.inl ⟨_, rfl⟩) (Or.inl rfl) (fun t ht hW => ⟨⟨none, (), rfl, rfl, trivial⟩, hS.F ht⟩) hS.2.2 dX7_stationAt_23
    · refine lv_aload_n hx hb dX7_stationAt_13 rfl (lv_at hl 0 rfl) ?_
      refine va_get (D := (dC, dI)) (ci := 10) (v := .ref (ax 2)) (C := RX7) (T := TX7) (N := 12) hx hb hts (fun w h => List.mem_cons_of_mem _ (List.mem_append_right _ (h))) hown hK hP 0 rfl rfl 2 (by decide) (hts (.fieldLink RX7 21 "Spotbeat" "stationRow" "[LSpotbeat$Station;") (by decide +kernel)) (fun _ h9 => h9) rfl dX7_stationAt_14 ?_
      refine lv_iload_n hx hb dX7_stationAt_17 rfl (lv_at hl 1 rfl) ?_
      refine va_aldq hx hb hK hP 3 2 rfl rfl (zin (M := 4) (by decide +kernel) c_1 c_2) dX7_stationAt_18 ?_
      refine W.eq (g2 := F0 m 19 ls [.null]) rfl ?_
      refine lv_goto (tgt := 23) hx hb dX7_stationAt_19 (by decide) ?_
      refine W.widen (k := 0) (n := 0) (Nat.le_of_ble_eq_true rfl) (Nat.le_of_ble_eq_true rfl) ?_
      exact W.aret (v := .null) hx hb hr (Or.inl ⟨_, rfl⟩) (Or.inl rfl) (fun t ht hW => ⟨⟨none, (), rfl, rfl, trivial⟩, hS.F ht⟩) hS.2.2 dX7_stationAt_23

def zwX7_requireStation : List Cond := .code yX7_requireStation cX7_requireStation 3 (some (.object "Spotbeat$Station")) :: (([.methodLink RX7 183 yX7_stationAt, .instanceMethod yX7_stationAt, .selects RX7 yX7_stationAt yX7_stationAt, .initialized RX7, .classLink RX7 52 "java/lang/IndexOutOfBoundsException", .initialized "java/lang/IndexOutOfBoundsException"] : List Cond) ++ (zwX7_stationAt ++ (((vx_atS RX7 56 "java/lang/IndexOutOfBoundsException" zNames).filter goodWord))))
theorem zgX7_requireStation : zwX7_requireStation.all goodWord = true := zgo rfl (zga (by decide +kernel) (zga zgX7_stationAt ((zgf _))))
set_option maxHeartbeats 4000000 in
set_option maxRecDepth 100000 in
/-- requireStation throws: nothing there yet -/
theorem c_X7_requireStation (l : Launch) (hst : l.stackTraces = false) (dC : Nat → ClassId) (dI : Nat → Nat → Nat) (sz : Nat) (x : Nat) (ax : Nat → Nat) (kx : Nat → ClassId) (v : Int32) : vx_Met l yX7_requireStation zwX7_requireStation ({ frames := 6, cells := 1, slots := 6, locals := 82 }) (xPc dC dI sz x ax kx [.ref x, .int v]) (va_Qi (fun (r : Int32) (_ : Unit) => False) (fun _ _ => True) (fun q : Nat => sz ≤ q)) (zX (True) "java/lang/IndexOutOfBoundsException" (fun q : Nat => sz ≤ q)) 1 6 (fun q : Nat => sz ≤ q) := by
  refine vx_ofW (cc := cX7_requireStation) (maxL := 3) (ret := (some (.object "Spotbeat$Station"))) (by decide) rfl ?_
  intro p e s m args below meth c s₁ B hml hnt hv
  obtain ⟨rfl, hsz, hP, hK, hE⟩ := hv
  have hx := B.exec
  have hb := B.bytes
  have hr := B.returns
  have hts := atoms_spec (ws := zwX7_requireStation) B.pre
  have hown : s.vm.findClass RX7 = some m.cls := findClass_of_methodNamed B.named
  have hlocks := B.notSynchronized
  subst hsz
  have hA : ∀ q : Nat, s.heap.size ≤ q → s.heap.size ≤ q := fun _ h => h
  have hS : va_S (fun q : Nat => s.heap.size ≤ q) s.heap s.heap [] := va_S.rf
  have hl := lv_entry ([.ref x, .int v]) (n := 3) (Nat.le_of_ble_eq_true rfl)
  rw [lg_entry_eq]
  generalize (lg_sl ([.ref x, .int v]) ++ List.replicate (3 - (lg_sl ([.ref x, .int v])).length) Slot.unset).toArray = ls at hl ⊢
  have hl : lv_has ls 3 [(0, .ref x), (1, .int v)] := hl
  refine lv_aload_n hx hb dX7_requireStation_0 rfl (lv_at hl 0 rfl) ?_
  refine lv_iload_n hx hb dX7_requireStation_1 rfl (lv_at hl 1 rfl) ?_
  refine va_callq (va_runV (As := [.int v]) (rest := []) ⟨hx, hb, hml, hown, hts⟩ (c_X7_stationAt l dC dI s.heap.size x ax kx v) (cwV 1 hts (goodIn_app (goodIn_of _ (by decide +kernel)) (goodIn_sub ((fun w h => List.mem_cons_of_mem _ (List.mem_append_right _ (List.mem_append_left _ h)))) zgX7_stationAt)) rfl rfl rfl (by decide +kernel) ⟨Nat.le_of_ble_eq_true rfl, Nat.le_of_ble_eq_true rfl⟩) ⟨xPc_blind, va_recv hK hP (ci := 10) (q0 := 0) rfl rfl, xPc_pass hP hK hE hS (fun q h => hA q (Nat.le_trans hS.1 h))⟩ rfl rfl hl.1 rfl (lv_room (Nat.le_of_ble_eq_true rfl)) dX7_requireStation_2 ⟨Nat.le_of_ble_eq_true rfl, Nat.le_of_ble_eq_true rfl⟩) hS (fun q _ h => hA q (Nat.le_trans hS.1 h)) (fun q h => hA q (Nat.le_trans hS.1 h)) (fun r_1 u t H locs ht hvm hw hB hz hk hS => ?_)
  have hP := zkn hP hk
  have hw : r_1 = none := hw
  subst hw
  refine W.eq (g2 := F0 m 5 ls [.null]) rfl ?_
  refine lv_astore_nN (lv' := [(2, .null), (0, .ref x), (1, .int v)]) hx hb dX7_requireStation_5 rfl hl (by decide) rfl (fun ls hl => ?_)
  refine lv_aload_nN hx hb dX7_requireStation_6 rfl (lv_at hl 0 rfl) ?_
  refine lv_ifnonnullN hx hb dX7_requireStation_7 ?_
  exact zThrow (Ts := zwX7_requireStation) (px := True) (E := "java/lang/IndexOutOfBoundsException") (ik := 52) (is := 186) (ic := 56) hx hb hst hown hts hE hS (hl.1.trans hml.symm) (by decide) (by decide +kernel) (text := "no such station") (by decide) (by decide +kernel) (by decide +kernel) (fun w h => List.mem_cons_of_mem _ (List.mem_append_right _ (List.mem_append_right _ (h)))) (by decide +kernel) (by decide +kernel) dX7_requireStation_10 dX7_requireStation_13 dX7_requireStation_14 dX7_requireStation_16 dX7_requireStation_19 hnt (Nat.le_of_ble_eq_true rfl) (Nat.le_of_ble_eq_true rfl) (Nat.le_of_ble_eq_true rfl) (Nat.le_of_ble_eq_true rfl) hlocks trivial hS.2.2 (Nat.le_of_ble_eq_true rfl) (Nat.le_of_ble_eq_true rfl)

def zwX7_robotAt : List Cond := .code yX7_robotAt cX7_robotAt 2 (some (.object "Spotbeat$Robot")) :: (([.fieldLink RX7 27 "Spotbeat" "robotRow" "[LSpotbeat$Robot;"] : List Cond) ++ (wsX70))
theorem zgX7_robotAt : zwX7_robotAt.all goodWord = true := zgo rfl (zga (by decide +kernel) (zgcX7))
set_option maxHeartbeats 4000000 in
set_option maxRecDepth 100000 in
/-- robotAt: nothing there yet -/
theorem c_X7_robotAt (l : Launch) (dC : Nat → ClassId) (dI : Nat → Nat → Nat) (sz : Nat) (x : Nat) (ax : Nat → Nat) (kx : Nat → ClassId) (v : Int32) : Met l yX7_robotAt zwX7_robotAt ({ frames := 0, cells := 0, slots := 0, locals := 0 }) (xPc dC dI sz x ax kx [.ref x, .int v]) (va_Qq (fun (r : Option Nat) (_ : Unit) => r = none) (fun _ _ => True) (fun q : Nat => sz ≤ q)) 0 0 (fun q : Nat => sz ≤ q) := by
  refine Met.ofW (cc := cX7_robotAt) (maxL := 2) (ret := (some (.object "Spotbeat$Robot"))) (by decide) rfl ?_
  intro p e s m args below meth c s₁ B hml hv
  obtain ⟨rfl, hsz, hP, hK, hE⟩ := hv
  have hx := B.exec
  have hb := B.bytes
  have hr := B.returns
  have hts := atoms_spec (ws := zwX7_robotAt) B.pre
  have hown : s.vm.findClass RX7 = some m.cls := findClass_of_methodNamed B.named
  have hlocks := B.notSynchronized
  subst hsz
  have hA : ∀ q : Nat, s.heap.size ≤ q → s.heap.size ≤ q := fun _ h => h
  have hS : va_S (fun q : Nat => s.heap.size ≤ q) s.heap s.heap [] := va_S.rf
  have hl := lv_entry ([.ref x, .int v]) (n := 2) (Nat.le_of_ble_eq_true rfl)
  rw [lg_entry_eq]
  generalize (lg_sl ([.ref x, .int v]) ++ List.replicate (2 - (lg_sl ([.ref x, .int v])).length) Slot.unset).toArray = ls at hl ⊢
  have hl : lv_has ls 2 [(0, .ref x), (1, .int v)] := hl
  refine lv_iload_n hx hb dX7_robotAt_0 rfl (lv_at hl 1 rfl) ?_
  refine lv_if_lt (tgt := 22) hx hb dX7_robotAt_1 (by decide) (fun c_1 => ?_) (fun c_1 => ?_)
  · refine lv_null hx hb dX7_robotAt_22 ?_
    refine W.widen (k := 0) (n := 0) (Nat.le_of_ble_eq_true rfl) (Nat.le_of_ble_eq_true rfl) ?_
    exact W.aret (v := .null) hx hb hr (Or.inl ⟨_, rfl⟩) (Or.inl rfl) (fun t ht hW => ⟨⟨none, (), rfl, rfl, trivial⟩, hS.F ht⟩) hS.2.2 dX7_robotAt_23
  · refine lv_iload_n hx hb dX7_robotAt_4 rfl (lv_at hl 1 rfl) ?_
    refine lv_aload_n hx hb dX7_robotAt_5 rfl (lv_at hl 0 rfl) ?_
    refine va_get (D := (dC, dI)) (ci := 10) (v := .ref (ax 3)) (C := RX7) (T := TX7) (N := 12) hx hb hts (fun w h => List.mem_cons_of_mem _ (List.mem_append_right _ (h))) hown hK hP 0 rfl rfl 3 (by decide) (hts (.fieldLink RX7 27 "Spotbeat" "robotRow" "[LSpotbeat$Robot;") (by decide +kernel)) (fun _ h9 => h9) rfl dX7_robotAt_6 ?_
    refine va_alen (v := 12) hx hb hK hP 4 3 rfl rfl rfl dX7_robotAt_9 ?_
    refine lv_icmp_ge (tgt := 22) hx hb dX7_robotAt_10 (by decide) (fun c_2 => ?_) (fun c_2 => ?_)
    · refine lv_null hx hb dX7_robotAt_22 ?_
      refine W.widen (k := 0) (n := 0) (Nat.le_of_ble_eq_true rfl) (Nat.le_of_ble_eq_true rfl) ?_
      exact W.aret (v := .null) hx hb hr (Or.inl ⟨_, rfl⟩) (Or.inl rfl) (fun t ht hW => ⟨⟨none, (), rfl, rfl, trivial⟩, hS.F ht⟩) hS.2.2 dX7_robotAt_23
    · refine lv_aload_n hx hb dX7_robotAt_13 rfl (lv_at hl 0 rfl) ?_
      refine va_get (D := (dC, dI)) (ci := 10) (v := .ref (ax 3)) (C := RX7) (T := TX7) (N := 12) hx hb hts (fun w h => List.mem_cons_of_mem _ (List.mem_append_right _ (h))) hown hK hP 0 rfl rfl 3 (by decide) (hts (.fieldLink RX7 27 "Spotbeat" "robotRow" "[LSpotbeat$Robot;") (by decide +kernel)) (fun _ h9 => h9) rfl dX7_robotAt_14 ?_
      refine lv_iload_n hx hb dX7_robotAt_17 rfl (lv_at hl 1 rfl) ?_
      refine va_aldq hx hb hK hP 4 3 rfl rfl (zin (M := 12) (by decide +kernel) c_1 c_2) dX7_robotAt_18 ?_
      refine W.eq (g2 := F0 m 19 ls [.null]) rfl ?_
      refine lv_goto (tgt := 23) hx hb dX7_robotAt_19 (by decide) ?_
      refine W.widen (k := 0) (n := 0) (Nat.le_of_ble_eq_true rfl) (Nat.le_of_ble_eq_true rfl) ?_
      exact W.aret (v := .null) hx hb hr (Or.inl ⟨_, rfl⟩) (Or.inl rfl) (fun t ht hW => ⟨⟨none, (), rfl, rfl, trivial⟩, hS.F ht⟩) hS.2.2 dX7_robotAt_23

def zwX7_requireRobot : List Cond := .code yX7_requireRobot cX7_requireRobot 3 (some (.object "Spotbeat$Robot")) :: (([.methodLink RX7 178 yX7_robotAt, .instanceMethod yX7_robotAt, .selects RX7 yX7_robotAt yX7_robotAt, .initialized RX7, .classLink RX7 52 "java/lang/IndexOutOfBoundsException", .initialized "java/lang/IndexOutOfBoundsException"] : List Cond) ++ (zwX7_robotAt ++ (((vx_atS RX7 56 "java/lang/IndexOutOfBoundsException" zNames).filter goodWord))))
theorem zgX7_requireRobot : zwX7_requireRobot.all goodWord = true := zgo rfl (zga (by decide +kernel) (zga zgX7_robotAt ((zgf _))))
set_option maxHeartbeats 4000000 in
set_option maxRecDepth 100000 in
/-- requireRobot throws: nothing there yet -/
theorem c_X7_requireRobot (l : Launch) (hst : l.stackTraces = false) (dC : Nat → ClassId) (dI : Nat → Nat → Nat) (sz : Nat) (x : Nat) (ax : Nat → Nat) (kx : Nat → ClassId) (v : Int32) : vx_Met l yX7_requireRobot zwX7_requireRobot ({ frames := 6, cells := 1, slots := 6, locals := 82 }) (xPc dC dI sz x ax kx [.ref x, .int v]) (va_Qi (fun (r : Int32) (_ : Unit) => False) (fun _ _ => True) (fun q : Nat => sz ≤ q)) (zX (True) "java/lang/IndexOutOfBoundsException" (fun q : Nat => sz ≤ q)) 1 6 (fun q : Nat => sz ≤ q) := by
  refine vx_ofW (cc := cX7_requireRobot) (maxL := 3) (ret := (some (.object "Spotbeat$Robot"))) (by decide) rfl ?_
  intro p e s m args below meth c s₁ B hml hnt hv
  obtain ⟨rfl, hsz, hP, hK, hE⟩ := hv
  have hx := B.exec
  have hb := B.bytes
  have hr := B.returns
  have hts := atoms_spec (ws := zwX7_requireRobot) B.pre
  have hown : s.vm.findClass RX7 = some m.cls := findClass_of_methodNamed B.named
  have hlocks := B.notSynchronized
  subst hsz
  have hA : ∀ q : Nat, s.heap.size ≤ q → s.heap.size ≤ q := fun _ h => h
  have hS : va_S (fun q : Nat => s.heap.size ≤ q) s.heap s.heap [] := va_S.rf
  have hl := lv_entry ([.ref x, .int v]) (n := 3) (Nat.le_of_ble_eq_true rfl)
  rw [lg_entry_eq]
  generalize (lg_sl ([.ref x, .int v]) ++ List.replicate (3 - (lg_sl ([.ref x, .int v])).length) Slot.unset).toArray = ls at hl ⊢
  have hl : lv_has ls 3 [(0, .ref x), (1, .int v)] := hl
  refine lv_aload_n hx hb dX7_requireRobot_0 rfl (lv_at hl 0 rfl) ?_
  refine lv_iload_n hx hb dX7_requireRobot_1 rfl (lv_at hl 1 rfl) ?_
  refine va_callq (va_runV (As := [.int v]) (rest := []) ⟨hx, hb, hml, hown, hts⟩ (c_X7_robotAt l dC dI s.heap.size x ax kx v) (cwV 1 hts (goodIn_app (goodIn_of _ (by decide +kernel)) (goodIn_sub ((fun w h => List.mem_cons_of_mem _ (List.mem_append_right _ (List.mem_append_left _ h)))) zgX7_robotAt)) rfl rfl rfl (by decide +kernel) ⟨Nat.le_of_ble_eq_true rfl, Nat.le_of_ble_eq_true rfl⟩) ⟨xPc_blind, va_recv hK hP (ci := 10) (q0 := 0) rfl rfl, xPc_pass hP hK hE hS (fun q h => hA q (Nat.le_trans hS.1 h))⟩ rfl rfl hl.1 rfl (lv_room (Nat.le_of_ble_eq_true rfl)) dX7_requireRobot_2 ⟨Nat.le_of_ble_eq_true rfl, Nat.le_of_ble_eq_true rfl⟩) hS (fun q _ h => hA q (Nat.le_trans hS.1 h)) (fun q h => hA q (Nat.le_trans hS.1 h)) (fun r_1 u t H locs ht hvm hw hB hz hk hS => ?_)
  have hP := zkn hP hk
  have hw : r_1 = none := hw
  subst hw
  refine W.eq (g2 := F0 m 5 ls [.null]) rfl ?_
  refine lv_astore_nN (lv' := [(2, .null), (0, .ref x), (1, .int v)]) hx hb dX7_requireRobot_5 rfl hl (by decide) rfl (fun ls hl => ?_)
  refine lv_aload_nN hx hb dX7_requireRobot_6 rfl (lv_at hl 0 rfl) ?_
  refine lv_ifnonnullN hx hb dX7_requireRobot_7 ?_
  exact zThrow (Ts := zwX7_requireRobot) (px := True) (E := "java/lang/IndexOutOfBoundsException") (ik := 52) (is := 181) (ic := 56) hx hb hst hown hts hE hS (hl.1.trans hml.symm) (by decide) (by decide +kernel) (text := "no such robot") (by decide) (by decide +kernel) (by decide +kernel) (fun w h => List.mem_cons_of_mem _ (List.mem_append_right _ (List.mem_append_right _ (h)))) (by decide +kernel) (by decide +kernel) dX7_requireRobot_10 dX7_requireRobot_13 dX7_requireRobot_14 dX7_requireRobot_16 dX7_requireRobot_19 hnt (Nat.le_of_ble_eq_true rfl) (Nat.le_of_ble_eq_true rfl) (Nat.le_of_ble_eq_true rfl) (Nat.le_of_ble_eq_true rfl) hlocks trivial hS.2.2 (Nat.le_of_ble_eq_true rfl) (Nat.le_of_ble_eq_true rfl)

def zwX7_bodyAt : List Cond := .code yX7_bodyAt cX7_bodyAt 2 (some (.object "Spotbeat$Body")) :: (([.fieldLink RX7 33 "Spotbeat" "bodyRow" "[LSpotbeat$Body;"] : List Cond) ++ (wsX70))
theorem zgX7_bodyAt : zwX7_bodyAt.all goodWord = true := zgo rfl (zga (by decide +kernel) (zgcX7))
set_option maxHeartbeats 4000000 in
set_option maxRecDepth 100000 in
/-- bodyAt: nothing there yet -/
theorem c_X7_bodyAt (l : Launch) (dC : Nat → ClassId) (dI : Nat → Nat → Nat) (sz : Nat) (x : Nat) (ax : Nat → Nat) (kx : Nat → ClassId) (v : Int32) : Met l yX7_bodyAt zwX7_bodyAt ({ frames := 0, cells := 0, slots := 0, locals := 0 }) (xPc dC dI sz x ax kx [.ref x, .int v]) (va_Qq (fun (r : Option Nat) (_ : Unit) => r = none) (fun _ _ => True) (fun q : Nat => sz ≤ q)) 0 0 (fun q : Nat => sz ≤ q) := by
  refine Met.ofW (cc := cX7_bodyAt) (maxL := 2) (ret := (some (.object "Spotbeat$Body"))) (by decide) rfl ?_
  intro p e s m args below meth c s₁ B hml hv
  obtain ⟨rfl, hsz, hP, hK, hE⟩ := hv
  have hx := B.exec
  have hb := B.bytes
  have hr := B.returns
  have hts := atoms_spec (ws := zwX7_bodyAt) B.pre
  have hown : s.vm.findClass RX7 = some m.cls := findClass_of_methodNamed B.named
  have hlocks := B.notSynchronized
  subst hsz
  have hA : ∀ q : Nat, s.heap.size ≤ q → s.heap.size ≤ q := fun _ h => h
  have hS : va_S (fun q : Nat => s.heap.size ≤ q) s.heap s.heap [] := va_S.rf
  have hl := lv_entry ([.ref x, .int v]) (n := 2) (Nat.le_of_ble_eq_true rfl)
  rw [lg_entry_eq]
  generalize (lg_sl ([.ref x, .int v]) ++ List.replicate (2 - (lg_sl ([.ref x, .int v])).length) Slot.unset).toArray = ls at hl ⊢
  have hl : lv_has ls 2 [(0, .ref x), (1, .int v)] := hl
  refine lv_iload_n hx hb dX7_bodyAt_0 rfl (lv_at hl 1 rfl) ?_
  refine lv_if_lt (tgt := 22) hx hb dX7_bodyAt_1 (by decide) (fun c_1 => ?_) (fun c_1 => ?_)
  · refine lv_null hx hb dX7_bodyAt_22 ?_
    refine W.widen (k := 0) (n := 0) (Nat.le_of_ble_eq_true rfl) (Nat.le_of_ble_eq_true rfl) ?_
    exact W.aret (v := .null) hx hb hr (Or.inl ⟨_, rfl⟩) (Or.inl rfl) (fun t ht hW => ⟨⟨none, (), rfl, rfl, trivial⟩, hS.F ht⟩) hS.2.2 dX7_bodyAt_23
  · refine lv_iload_n hx hb dX7_bodyAt_4 rfl (lv_at hl 1 rfl) ?_
    refine lv_aload_n hx hb dX7_bodyAt_5 rfl (lv_at hl 0 rfl) ?_
    refine va_get (D := (dC, dI)) (ci := 10) (v := .ref (ax 4)) (C := RX7) (T := TX7) (N := 12) hx hb hts (fun w h => List.mem_cons_of_mem _ (List.mem_append_right _ (h))) hown hK hP 0 rfl rfl 4 (by decide) (hts (.fieldLink RX7 33 "Spotbeat" "bodyRow" "[LSpotbeat$Body;") (by decide +kernel)) (fun _ h9 => h9) rfl dX7_bodyAt_6 ?_
    refine va_alen (v := 40) hx hb hK hP 5 4 rfl rfl rfl dX7_bodyAt_9 ?_
    refine lv_icmp_ge (tgt := 22) hx hb dX7_bodyAt_10 (by decide) (fun c_2 => ?_) (fun c_2 => ?_)
    · refine lv_null hx hb dX7_bodyAt_22 ?_
      refine W.widen (k := 0) (n := 0) (Nat.le_of_ble_eq_true rfl) (Nat.le_of_ble_eq_true rfl) ?_
      exact W.aret (v := .null) hx hb hr (Or.inl ⟨_, rfl⟩) (Or.inl rfl) (fun t ht hW => ⟨⟨none, (), rfl, rfl, trivial⟩, hS.F ht⟩) hS.2.2 dX7_bodyAt_23
    · refine lv_aload_n hx hb dX7_bodyAt_13 rfl (lv_at hl 0 rfl) ?_
      refine va_get (D := (dC, dI)) (ci := 10) (v := .ref (ax 4)) (C := RX7) (T := TX7) (N := 12) hx hb hts (fun w h => List.mem_cons_of_mem _ (List.mem_append_right _ (h))) hown hK hP 0 rfl rfl 4 (by decide) (hts (.fieldLink RX7 33 "Spotbeat" "bodyRow" "[LSpotbeat$Body;") (by decide +kernel)) (fun _ h9 => h9) rfl dX7_bodyAt_14 ?_
      refine lv_iload_n hx hb dX7_bodyAt_17 rfl (lv_at hl 1 rfl) ?_
      refine va_aldq hx hb hK hP 5 4 rfl rfl (zin (M := 40) (by decide +kernel) c_1 c_2) dX7_bodyAt_18 ?_
      refine W.eq (g2 := F0 m 19 ls [.null]) rfl ?_
      refine lv_goto (tgt := 23) hx hb dX7_bodyAt_19 (by decide) ?_
      refine W.widen (k := 0) (n := 0) (Nat.le_of_ble_eq_true rfl) (Nat.le_of_ble_eq_true rfl) ?_
      exact W.aret (v := .null) hx hb hr (Or.inl ⟨_, rfl⟩) (Or.inl rfl) (fun t ht hW => ⟨⟨none, (), rfl, rfl, trivial⟩, hS.F ht⟩) hS.2.2 dX7_bodyAt_23

def zwX7_requireBody : List Cond := .code yX7_requireBody cX7_requireBody 3 (some (.object "Spotbeat$Body")) :: (([.methodLink RX7 188 yX7_bodyAt, .instanceMethod yX7_bodyAt, .selects RX7 yX7_bodyAt yX7_bodyAt, .initialized RX7, .classLink RX7 52 "java/lang/IndexOutOfBoundsException", .initialized "java/lang/IndexOutOfBoundsException"] : List Cond) ++ (zwX7_bodyAt ++ (((vx_atS RX7 56 "java/lang/IndexOutOfBoundsException" zNames).filter goodWord))))
theorem zgX7_requireBody : zwX7_requireBody.all goodWord = true := zgo rfl (zga (by decide +kernel) (zga zgX7_bodyAt ((zgf _))))
set_option maxHeartbeats 4000000 in
set_option maxRecDepth 100000 in
/-- requireBody throws: nothing there yet -/
theorem c_X7_requireBody (l : Launch) (hst : l.stackTraces = false) (dC : Nat → ClassId) (dI : Nat → Nat → Nat) (sz : Nat) (x : Nat) (ax : Nat → Nat) (kx : Nat → ClassId) (v : Int32) : vx_Met l yX7_requireBody zwX7_requireBody ({ frames := 6, cells := 1, slots := 6, locals := 82 }) (xPc dC dI sz x ax kx [.ref x, .int v]) (va_Qi (fun (r : Int32) (_ : Unit) => False) (fun _ _ => True) (fun q : Nat => sz ≤ q)) (zX (True) "java/lang/IndexOutOfBoundsException" (fun q : Nat => sz ≤ q)) 1 6 (fun q : Nat => sz ≤ q) := by
  refine vx_ofW (cc := cX7_requireBody) (maxL := 3) (ret := (some (.object "Spotbeat$Body"))) (by decide) rfl ?_
  intro p e s m args below meth c s₁ B hml hnt hv
  obtain ⟨rfl, hsz, hP, hK, hE⟩ := hv
  have hx := B.exec
  have hb := B.bytes
  have hr := B.returns
  have hts := atoms_spec (ws := zwX7_requireBody) B.pre
  have hown : s.vm.findClass RX7 = some m.cls := findClass_of_methodNamed B.named
  have hlocks := B.notSynchronized
  subst hsz
  have hA : ∀ q : Nat, s.heap.size ≤ q → s.heap.size ≤ q := fun _ h => h
  have hS : va_S (fun q : Nat => s.heap.size ≤ q) s.heap s.heap [] := va_S.rf
  have hl := lv_entry ([.ref x, .int v]) (n := 3) (Nat.le_of_ble_eq_true rfl)
  rw [lg_entry_eq]
  generalize (lg_sl ([.ref x, .int v]) ++ List.replicate (3 - (lg_sl ([.ref x, .int v])).length) Slot.unset).toArray = ls at hl ⊢
  have hl : lv_has ls 3 [(0, .ref x), (1, .int v)] := hl
  refine lv_aload_n hx hb dX7_requireBody_0 rfl (lv_at hl 0 rfl) ?_
  refine lv_iload_n hx hb dX7_requireBody_1 rfl (lv_at hl 1 rfl) ?_
  refine va_callq (va_runV (As := [.int v]) (rest := []) ⟨hx, hb, hml, hown, hts⟩ (c_X7_bodyAt l dC dI s.heap.size x ax kx v) (cwV 1 hts (goodIn_app (goodIn_of _ (by decide +kernel)) (goodIn_sub ((fun w h => List.mem_cons_of_mem _ (List.mem_append_right _ (List.mem_append_left _ h)))) zgX7_bodyAt)) rfl rfl rfl (by decide +kernel) ⟨Nat.le_of_ble_eq_true rfl, Nat.le_of_ble_eq_true rfl⟩) ⟨xPc_blind, va_recv hK hP (ci := 10) (q0 := 0) rfl rfl, xPc_pass hP hK hE hS (fun q h => hA q (Nat.le_trans hS.1 h))⟩ rfl rfl hl.1 rfl (lv_room (Nat.le_of_ble_eq_true rfl)) dX7_requireBody_2 ⟨Nat.le_of_ble_eq_true rfl, Nat.le_of_ble_eq_true rfl⟩) hS (fun q _ h => hA q (Nat.le_trans hS.1 h)) (fun q h => hA q (Nat.le_trans hS.1 h)) (fun r_1 u t H locs ht hvm hw hB hz hk hS => ?_)
  have hP := zkn hP hk
  have hw : r_1 = none := hw
  subst hw
  refine W.eq (g2 := F0 m 5 ls [.null]) rfl ?_
  refine lv_astore_nN (lv' := [(2, .null), (0, .ref x), (1, .int v)]) hx hb dX7_requireBody_5 rfl hl (by decide) rfl (fun ls hl => ?_)
  refine lv_aload_nN hx hb dX7_requireBody_6 rfl (lv_at hl 0 rfl) ?_
  refine lv_ifnonnullN hx hb dX7_requireBody_7 ?_
  exact zThrow (Ts := zwX7_requireBody) (px := True) (E := "java/lang/IndexOutOfBoundsException") (ik := 52) (is := 192) (ic := 56) hx hb hst hown hts hE hS (hl.1.trans hml.symm) (by decide) (by decide +kernel) (text := "no such body") (by decide) (by decide +kernel) (by decide +kernel) (fun w h => List.mem_cons_of_mem _ (List.mem_append_right _ (List.mem_append_right _ (h)))) (by decide +kernel) (by decide +kernel) dX7_requireBody_10 dX7_requireBody_13 dX7_requireBody_14 dX7_requireBody_16 dX7_requireBody_19 hnt (Nat.le_of_ble_eq_true rfl) (Nat.le_of_ble_eq_true rfl) (Nat.le_of_ble_eq_true rfl) (Nat.le_of_ble_eq_true rfl) hlocks trivial hS.2.2 (Nat.le_of_ble_eq_true rfl) (Nat.le_of_ble_eq_true rfl)

def zwX7_isPanel : List Cond := .code yX7_isPanel cX7_isPanel 2 (some .boolean) :: (([.fieldLink RX7 44 "Spotbeat" "panelCount" "I"] : List Cond) ++ (wsX70))
theorem zgX7_isPanel : zwX7_isPanel.all goodWord = true := zgo rfl (zga (by decide +kernel) (zgcX7))
set_option maxHeartbeats 4000000 in
set_option maxRecDepth 100000 in
/-- no panel yet -/
theorem c_X7_isPanel (l : Launch) (dC : Nat → ClassId) (dI : Nat → Nat → Nat) (sz : Nat) (x : Nat) (ax : Nat → Nat) (kx : Nat → ClassId) (v : Int32) : Met l yX7_isPanel zwX7_isPanel ({ frames := 0, cells := 0, slots := 0, locals := 0 }) (xPc dC dI sz x ax kx [.ref x, .int v]) (va_Qi (fun (r : Int32) (_ : Unit) => r = 0) (fun _ _ => True) (fun q : Nat => sz ≤ q)) 0 0 (fun q : Nat => sz ≤ q) := by
  refine Met.ofW (cc := cX7_isPanel) (maxL := 2) (ret := (some .boolean)) (by decide) rfl ?_
  intro p e s m args below meth c s₁ B hml hv
  obtain ⟨rfl, hsz, hP, hK, hE⟩ := hv
  have hx := B.exec
  have hb := B.bytes
  have hr := B.returns
  have hts := atoms_spec (ws := zwX7_isPanel) B.pre
  have hown : s.vm.findClass RX7 = some m.cls := findClass_of_methodNamed B.named
  have hlocks := B.notSynchronized
  subst hsz
  have hA : ∀ q : Nat, s.heap.size ≤ q → s.heap.size ≤ q := fun _ h => h
  have hS : va_S (fun q : Nat => s.heap.size ≤ q) s.heap s.heap [] := va_S.rf
  have hl := lv_entry ([.ref x, .int v]) (n := 2) (Nat.le_of_ble_eq_true rfl)
  rw [lg_entry_eq]
  generalize (lg_sl ([.ref x, .int v]) ++ List.replicate (2 - (lg_sl ([.ref x, .int v])).length) Slot.unset).toArray = ls at hl ⊢
  have hl : lv_has ls 2 [(0, .ref x), (1, .int v)] := hl
  refine lv_iload_n hx hb dX7_isPanel_0 rfl (lv_at hl 1 rfl) ?_
  refine lv_if_lt (tgt := 25) hx hb dX7_isPanel_1 (by decide) (fun c_1 => ?_) (fun c_1 => ?_)
  · refine lv_iconst (v := 0) hx hb dX7_isPanel_25 (by decide) ?_
    refine W.widen (k := 0) (n := 0) (Nat.le_of_ble_eq_true rfl) (Nat.le_of_ble_eq_true rfl) ?_
    exact W.zret (v := 0) hx hb hr (by decide +kernel) (fun t ht hW => ⟨⟨0, (), rfl, rfl, trivial⟩, hS.F ht⟩) hS.2.2 dX7_isPanel_26
  · refine lv_iload_n hx hb dX7_isPanel_4 rfl (lv_at hl 1 rfl) ?_
    refine lv_aload_n hx hb dX7_isPanel_5 rfl (lv_at hl 0 rfl) ?_
    refine va_get (D := (dC, dI)) (ci := 10) (v := .int 0) (C := RX7) (T := TX7) (N := 12) hx hb hts (fun w h => List.mem_cons_of_mem _ (List.mem_append_right _ (h))) hown hK hP 0 rfl rfl 6 (by decide) (hts (.fieldLink RX7 44 "Spotbeat" "panelCount" "I") (by decide +kernel)) (fun _ h9 => h9) rfl dX7_isPanel_6 ?_
    refine lv_icmp_ge (tgt := 25) hx hb dX7_isPanel_9 (by decide) (fun _ => ?_) (fun c_2 => False.elim (by simp only [zPl, zPm, fa_lt, fa_le, fa_eq, zi_0, zi_1, zi_3, zi_4, zi_7, zi_8, zi_10, zi_12, zi_119, zi_m1] at c_2 c_1 ⊢ <;> omega))
    refine lv_iconst (v := 0) hx hb dX7_isPanel_25 (by decide) ?_
    refine W.widen (k := 0) (n := 0) (Nat.le_of_ble_eq_true rfl) (Nat.le_of_ble_eq_true rfl) ?_
    exact W.zret (v := 0) hx hb hr (by decide +kernel) (fun t ht hW => ⟨⟨0, (), rfl, rfl, trivial⟩, hS.F ht⟩) hS.2.2 dX7_isPanel_26

def zwX7_countAt : List Cond := .code yX7_countAt cX7_countAt 7 (some .int) :: (([.fieldLink RX7 33 "Spotbeat" "bodyRow" "[LSpotbeat$Body;"] : List Cond) ++ (wsX70))
theorem zgX7_countAt : zwX7_countAt.all goodWord = true := zgo rfl (zga (by decide +kernel) (zgcX7))
set_option maxHeartbeats 4000000 in
set_option maxRecDepth 100000 in
/-- no body yet -/
theorem c_X7_countAt (l : Launch) (dC : Nat → ClassId) (dI : Nat → Nat → Nat) (sz : Nat) (x : Nat) (ax : Nat → Nat) (kx : Nat → ClassId) (v : Int32) : Met l yX7_countAt zwX7_countAt ({ frames := 0, cells := 0, slots := 0, locals := 0 }) (xPc dC dI sz x ax kx [.ref x, .int v]) (va_Qi (fun (r : Int32) (_ : Unit) => r = 0) (fun _ _ => True) (fun q : Nat => sz ≤ q)) 0 0 (fun q : Nat => sz ≤ q) := by
  refine Met.ofW (cc := cX7_countAt) (maxL := 7) (ret := (some .int)) (by decide) rfl ?_
  intro p e s m args below meth c s₁ B hml hv
  obtain ⟨rfl, hsz, hP, hK, hE⟩ := hv
  have hx := B.exec
  have hb := B.bytes
  have hr := B.returns
  have hts := atoms_spec (ws := zwX7_countAt) B.pre
  have hown : s.vm.findClass RX7 = some m.cls := findClass_of_methodNamed B.named
  have hlocks := B.notSynchronized
  subst hsz
  have hA : ∀ q : Nat, s.heap.size ≤ q → s.heap.size ≤ q := fun _ h => h
  have hS : va_S (fun q : Nat => s.heap.size ≤ q) s.heap s.heap [] := va_S.rf
  have hl := lv_entry ([.ref x, .int v]) (n := 7) (Nat.le_of_ble_eq_true rfl)
  rw [lg_entry_eq]
  generalize (lg_sl ([.ref x, .int v]) ++ List.replicate (7 - (lg_sl ([.ref x, .int v])).length) Slot.unset).toArray = ls at hl ⊢
  have hl : lv_has ls 7 [(0, .ref x), (1, .int v)] := hl
  refine lv_iconst (v := 0) hx hb dX7_countAt_0 (by decide) ?_
  refine lv_istore_n (lv' := [(2, .int 0), (0, .ref x), (1, .int v)]) hx hb dX7_countAt_1 rfl hl (by decide) rfl (fun ls hl => ?_)
  refine lv_aload_n hx hb dX7_countAt_2 rfl (lv_at hl 1 rfl) ?_
  refine va_get (D := (dC, dI)) (ci := 10) (v := .ref (ax 4)) (C := RX7) (T := TX7) (N := 12) hx hb hts (fun w h => List.mem_cons_of_mem _ (List.mem_append_right _ (h))) hown hK hP 0 rfl rfl 4 (by decide) (hts (.fieldLink RX7 33 "Spotbeat" "bodyRow" "[LSpotbeat$Body;") (by decide +kernel)) (fun _ h9 => h9) rfl dX7_countAt_3 ?_
  refine lv_astore_n (lv' := [(3, .ref (ax 4)), (2, .int 0), (0, .ref x), (1, .int v)]) hx hb dX7_countAt_6 rfl hl (by decide) rfl (fun ls hl => ?_)
  refine lv_aload_n hx hb dX7_countAt_7 rfl (lv_at hl 0 rfl) ?_
  refine va_alen (v := 40) hx hb hK hP 5 4 rfl rfl rfl dX7_countAt_8 ?_
  refine lv_istore (lv' := [(4, .int 40), (3, .ref (ax 4)), (2, .int 0), (0, .ref x), (1, .int v)]) hx hb dX7_countAt_9 hl (by decide) rfl (fun ls hl => ?_)
  refine lv_iconst (v := 0) hx hb dX7_countAt_11 (by decide) ?_
  refine lv_istore (lv' := [(5, .int 0), (4, .int 40), (3, .ref (ax 4)), (2, .int 0), (0, .ref x), (1, .int v)]) hx hb dX7_countAt_12 hl (by decide) rfl (fun ls hl => ?_)
  refine zloop (N := 40) (fun i H locs ls => va_P (dC, dI) vwCl (xW x ax kx) H ∧ va_S (fun q : Nat => s.heap.size ≤ q) s.heap H locs ∧ lv_has ls 7 [(5, .int (nI i)), (4, .int 40), (3, .ref (ax 4)), (2, .int 0), (0, .ref x), (1, .int v)]) (fun i H locs ls hiN hI next0 => ?_) 0 _ _ _ (Nat.zero_le _) ⟨hP, hS, hl⟩
  obtain ⟨hP, hS, hl⟩ := hI
  refine lv_iload hx hb dX7_countAt_14 (lv_at hl 0 rfl) ?_
  refine lv_iload hx hb dX7_countAt_16 (lv_at hl 1 rfl) ?_
  refine lv_icmp_ge (tgt := 50) hx hb dX7_countAt_18 (by decide) (fun c_1 => ?_) (fun c_1 => ?_)
  · refine lv_iload_n hx hb dX7_countAt_50 rfl (lv_at hl 3 rfl) ?_
    refine W.widen (k := 0) (n := 0) (Nat.le_of_ble_eq_true rfl) (Nat.le_of_ble_eq_true rfl) ?_
    exact W.iret (v := 0) hx hb hr (fun t ht hW => ⟨⟨0, (), rfl, rfl, trivial⟩, hS.F ht⟩) hS.2.2 dX7_countAt_51
  · have hlt0 : i < 40 := by
      rcases Nat.lt_or_ge i 40 with q | q
      · exact q
      · exact absurd (nI_le q (by omega)) c_1
    have next0 := next0 hlt0
    refine lv_aload_n hx hb dX7_countAt_21 rfl (lv_at hl 2 rfl) ?_
    refine lv_iload hx hb dX7_countAt_22 (lv_at hl 0 rfl) ?_
    refine va_aldq hx hb hK hP 5 4 rfl rfl (vp_in_nI hlt0 (by decide)) dX7_countAt_24 ?_
    refine W.eq (g2 := F0 m 25 ls [.null]) rfl ?_
    refine lv_astoreN (lv' := [(6, .null), (5, .int (nI i)), (4, .int 40), (3, .ref (ax 4)), (2, .int 0), (0, .ref x), (1, .int v)]) hx hb dX7_countAt_25 hl (by decide) rfl (fun ls hl => ?_)
    refine lv_aloadN hx hb dX7_countAt_27 (lv_at hl 0 rfl) ?_
    refine lv_ifnullN (tgt := 44) hx hb dX7_countAt_29 (by decide) ?_
    refine lv_iinc (v := nI (i + 1)) (lv' := [(5, .int (nI (i + 1))), (6, .null), (4, .int 40), (3, .ref (ax 4)), (2, .int 0), (0, .ref x), (1, .int v)]) hx hb dX7_countAt_44 hl (k := 1) rfl ((rfl : nI i + Int32.ofInt 1 = nI i + 1).trans (nI_1 i)) (by decide) rfl (fun ls hl => ?_)
    refine lv_goto (tgt := 14) hx hb dX7_countAt_47 (by decide) ?_
    exact next0 _ _ _ ⟨hP, hS, lv_sub hl [0, 2, 3, 4, 5, 6] rfl⟩

def zwX7_isUncovered : List Cond := .code yX7_isUncovered cX7_isUncovered 7 (some .boolean) :: ([] : List Cond)
theorem zgX7_isUncovered : zwX7_isUncovered.all goodWord = true := zgo rfl ((by decide +kernel))
set_option maxHeartbeats 4000000 in
set_option maxRecDepth 100000 in
/-- no spot there -/
theorem c_X7_isUncovered (l : Launch) (dC : Nat → ClassId) (dI : Nat → Nat → Nat) (sz : Nat) (x : Nat) (ax : Nat → Nat) (kx : Nat → ClassId) (v : Int32) : Met l yX7_isUncovered zwX7_isUncovered ({ frames := 0, cells := 0, slots := 0, locals := 0 }) (xPc dC dI sz x ax kx [.ref x, .null, .int v]) (va_Qi (fun (r : Int32) (_ : Unit) => r = 0) (fun _ _ => True) (fun q : Nat => sz ≤ q)) 0 0 (fun q : Nat => sz ≤ q) := by
  refine Met.ofW (cc := cX7_isUncovered) (maxL := 7) (ret := (some .boolean)) (by decide) rfl ?_
  intro p e s m args below meth c s₁ B hml hv
  obtain ⟨rfl, hsz, hP, hK, hE⟩ := hv
  have hx := B.exec
  have hb := B.bytes
  have hr := B.returns
  have hts := atoms_spec (ws := zwX7_isUncovered) B.pre
  have hown : s.vm.findClass RX7 = some m.cls := findClass_of_methodNamed B.named
  have hlocks := B.notSynchronized
  subst hsz
  have hA : ∀ q : Nat, s.heap.size ≤ q → s.heap.size ≤ q := fun _ h => h
  have hS : va_S (fun q : Nat => s.heap.size ≤ q) s.heap s.heap [] := va_S.rf
  have hl := lv_entry ([.ref x, .null, .int v]) (n := 7) (Nat.le_of_ble_eq_true rfl)
  rw [lg_entry_eq]
  generalize (lg_sl ([.ref x, .null, .int v]) ++ List.replicate (7 - (lg_sl ([.ref x, .null, .int v])).length) Slot.unset).toArray = ls at hl ⊢
  have hl : lv_has ls 7 [(0, .ref x), (1, .null), (2, .int v)] := hl
  refine lv_aload_nN hx hb dX7_isUncovered_0 rfl (lv_at hl 1 rfl) ?_
  refine lv_ifnullN (tgt := 12) hx hb dX7_isUncovered_1 (by decide) ?_
  refine lv_iconst (v := 0) hx hb dX7_isUncovered_12 (by decide) ?_
  refine W.widen (k := 0) (n := 0) (Nat.le_of_ble_eq_true rfl) (Nat.le_of_ble_eq_true rfl) ?_
  exact W.zret (v := 0) hx hb hr (by decide +kernel) (fun t ht hW => ⟨⟨0, (), rfl, rfl, trivial⟩, hS.F ht⟩) hS.2.2 dX7_isUncovered_13

def zwX7_stationsAreSound : List Cond := .code yX7_stationsAreSound cX7_stationsAreSound 5 (some .boolean) :: (([.fieldLink RX7 21 "Spotbeat" "stationRow" "[LSpotbeat$Station;"] : List Cond) ++ (wsX70))
theorem zgX7_stationsAreSound : zwX7_stationsAreSound.all goodWord = true := zgo rfl (zga (by decide +kernel) (zgcX7))
set_option maxHeartbeats 4000000 in
set_option maxRecDepth 100000 in
theorem c_X7_stationsAreSound (l : Launch) (dC : Nat → ClassId) (dI : Nat → Nat → Nat) (sz : Nat) (x : Nat) (ax : Nat → Nat) (kx : Nat → ClassId) : Met l yX7_stationsAreSound zwX7_stationsAreSound ({ frames := 0, cells := 0, slots := 0, locals := 0 }) (xPc dC dI sz x ax kx [.ref x]) (va_Qi (fun (r : Int32) (_ : Unit) => r = 1) (fun _ _ => True) (fun q : Nat => sz ≤ q)) 0 0 (fun q : Nat => sz ≤ q) := by
  refine Met.ofW (cc := cX7_stationsAreSound) (maxL := 5) (ret := (some .boolean)) (by decide) rfl ?_
  intro p e s m args below meth c s₁ B hml hv
  obtain ⟨rfl, hsz, hP, hK, hE⟩ := hv
  have hx := B.exec
  have hb := B.bytes
  have hr := B.returns
  have hts := atoms_spec (ws := zwX7_stationsAreSound) B.pre
  have hown : s.vm.findClass RX7 = some m.cls := findClass_of_methodNamed B.named
  have hlocks := B.notSynchronized
  subst hsz
  have hA : ∀ q : Nat, s.heap.size ≤ q → s.heap.size ≤ q := fun _ h => h
  have hS : va_S (fun q : Nat => s.heap.size ≤ q) s.heap s.heap [] := va_S.rf
  have hl := lv_entry ([.ref x]) (n := 5) (Nat.le_of_ble_eq_true rfl)
  rw [lg_entry_eq]
  generalize (lg_sl ([.ref x]) ++ List.replicate (5 - (lg_sl ([.ref x])).length) Slot.unset).toArray = ls at hl ⊢
  have hl : lv_has ls 5 [(0, .ref x)] := hl
  refine lv_aload_n hx hb dX7_stationsAreSound_0 rfl (lv_at hl 0 rfl) ?_
  refine va_get (D := (dC, dI)) (ci := 10) (v := .ref (ax 2)) (C := RX7) (T := TX7) (N := 12) hx hb hts (fun w h => List.mem_cons_of_mem _ (List.mem_append_right _ (h))) hown hK hP 0 rfl rfl 2 (by decide) (hts (.fieldLink RX7 21 "Spotbeat" "stationRow" "[LSpotbeat$Station;") (by decide +kernel)) (fun _ h9 => h9) rfl dX7_stationsAreSound_1 ?_
  refine lv_astore_n (lv' := [(1, .ref (ax 2)), (0, .ref x)]) hx hb dX7_stationsAreSound_4 rfl hl (by decide) rfl (fun ls hl => ?_)
  refine lv_aload_n hx hb dX7_stationsAreSound_5 rfl (lv_at hl 0 rfl) ?_
  refine va_alen (v := 4) hx hb hK hP 3 2 rfl rfl rfl dX7_stationsAreSound_6 ?_
  refine lv_istore_n (lv' := [(2, .int 4), (1, .ref (ax 2)), (0, .ref x)]) hx hb dX7_stationsAreSound_7 rfl hl (by decide) rfl (fun ls hl => ?_)
  refine lv_iconst (v := 0) hx hb dX7_stationsAreSound_8 (by decide) ?_
  refine lv_istore_n (lv' := [(3, .int 0), (2, .int 4), (1, .ref (ax 2)), (0, .ref x)]) hx hb dX7_stationsAreSound_9 rfl hl (by decide) rfl (fun ls hl => ?_)
  refine zloop (N := 4) (fun i H locs ls => va_P (dC, dI) vwCl (xW x ax kx) H ∧ va_S (fun q : Nat => s.heap.size ≤ q) s.heap H locs ∧ lv_has ls 5 [(3, .int (nI i)), (2, .int 4), (1, .ref (ax 2)), (0, .ref x)]) (fun i H locs ls hiN hI next0 => ?_) 0 _ _ _ (Nat.zero_le _) ⟨hP, hS, hl⟩
  obtain ⟨hP, hS, hl⟩ := hI
  refine lv_iload_n hx hb dX7_stationsAreSound_10 rfl (lv_at hl 0 rfl) ?_
  refine lv_iload_n hx hb dX7_stationsAreSound_11 rfl (lv_at hl 1 rfl) ?_
  refine lv_icmp_ge (tgt := 80) hx hb dX7_stationsAreSound_12 (by decide) (fun c_1 => ?_) (fun c_1 => ?_)
  · refine lv_iconst (v := 1) hx hb dX7_stationsAreSound_80 (by decide) ?_
    refine W.widen (k := 0) (n := 0) (Nat.le_of_ble_eq_true rfl) (Nat.le_of_ble_eq_true rfl) ?_
    exact W.zret (v := 1) hx hb hr (by decide +kernel) (fun t ht hW => ⟨⟨1, (), rfl, rfl, trivial⟩, hS.F ht⟩) hS.2.2 dX7_stationsAreSound_81
  · have hlt0 : i < 4 := by
      rcases Nat.lt_or_ge i 4 with q | q
      · exact q
      · exact absurd (nI_le q (by omega)) c_1
    have next0 := next0 hlt0
    refine lv_aload_n hx hb dX7_stationsAreSound_15 rfl (lv_at hl 2 rfl) ?_
    refine lv_iload_n hx hb dX7_stationsAreSound_16 rfl (lv_at hl 0 rfl) ?_
    refine va_aldq hx hb hK hP 3 2 rfl rfl (vp_in_nI hlt0 (by decide)) dX7_stationsAreSound_17 ?_
    refine W.eq (g2 := F0 m 18 ls [.null]) rfl ?_
    refine lv_astoreN (lv' := [(4, .null), (3, .int (nI i)), (2, .int 4), (1, .ref (ax 2)), (0, .ref x)]) hx hb dX7_stationsAreSound_18 hl (by decide) rfl (fun ls hl => ?_)
    refine lv_aloadN hx hb dX7_stationsAreSound_20 (lv_at hl 0 rfl) ?_
    refine lv_ifnonnullN hx hb dX7_stationsAreSound_22 ?_
    refine lv_goto (tgt := 74) hx hb dX7_stationsAreSound_25 (by decide) ?_
    refine lv_iinc (v := nI (i + 1)) (lv' := [(3, .int (nI (i + 1))), (4, .null), (2, .int 4), (1, .ref (ax 2)), (0, .ref x)]) hx hb dX7_stationsAreSound_74 hl (k := 1) rfl ((rfl : nI i + Int32.ofInt 1 = nI i + 1).trans (nI_1 i)) (by decide) rfl (fun ls hl => ?_)
    refine lv_goto (tgt := 10) hx hb dX7_stationsAreSound_77 (by decide) ?_
    exact next0 _ _ _ ⟨hP, hS, lv_sub hl [0, 2, 3, 4] rfl⟩

def zwX7_orderIsSound : List Cond := .code yX7_orderIsSound cX7_orderIsSound 6 (some .boolean) :: (([.fieldLink RX7 33 "Spotbeat" "bodyRow" "[LSpotbeat$Body;"] : List Cond) ++ (wsX70))
theorem zgX7_orderIsSound : zwX7_orderIsSound.all goodWord = true := zgo rfl (zga (by decide +kernel) (zgcX7))
set_option maxHeartbeats 4000000 in
set_option maxRecDepth 100000 in
theorem c_X7_orderIsSound (l : Launch) (dC : Nat → ClassId) (dI : Nat → Nat → Nat) (sz : Nat) (x : Nat) (ax : Nat → Nat) (kx : Nat → ClassId) : Met l yX7_orderIsSound zwX7_orderIsSound ({ frames := 0, cells := 0, slots := 0, locals := 0 }) (xPc dC dI sz x ax kx [.ref x]) (va_Qi (fun (r : Int32) (_ : Unit) => r = 1) (fun _ _ => True) (fun q : Nat => sz ≤ q)) 0 0 (fun q : Nat => sz ≤ q) := by
  refine Met.ofW (cc := cX7_orderIsSound) (maxL := 6) (ret := (some .boolean)) (by decide) rfl ?_
  intro p e s m args below meth c s₁ B hml hv
  obtain ⟨rfl, hsz, hP, hK, hE⟩ := hv
  have hx := B.exec
  have hb := B.bytes
  have hr := B.returns
  have hts := atoms_spec (ws := zwX7_orderIsSound) B.pre
  have hown : s.vm.findClass RX7 = some m.cls := findClass_of_methodNamed B.named
  have hlocks := B.notSynchronized
  subst hsz
  have hA : ∀ q : Nat, s.heap.size ≤ q → s.heap.size ≤ q := fun _ h => h
  have hS : va_S (fun q : Nat => s.heap.size ≤ q) s.heap s.heap [] := va_S.rf
  have hl := lv_entry ([.ref x]) (n := 6) (Nat.le_of_ble_eq_true rfl)
  rw [lg_entry_eq]
  generalize (lg_sl ([.ref x]) ++ List.replicate (6 - (lg_sl ([.ref x])).length) Slot.unset).toArray = ls at hl ⊢
  have hl : lv_has ls 6 [(0, .ref x)] := hl
  refine lv_null hx hb dX7_orderIsSound_0 ?_
  refine lv_astore_nN (lv' := [(1, .null), (0, .ref x)]) hx hb dX7_orderIsSound_1 rfl hl (by decide) rfl (fun ls hl => ?_)
  refine lv_aload_n hx hb dX7_orderIsSound_2 rfl (lv_at hl 1 rfl) ?_
  refine va_get (D := (dC, dI)) (ci := 10) (v := .ref (ax 4)) (C := RX7) (T := TX7) (N := 12) hx hb hts (fun w h => List.mem_cons_of_mem _ (List.mem_append_right _ (h))) hown hK hP 0 rfl rfl 4 (by decide) (hts (.fieldLink RX7 33 "Spotbeat" "bodyRow" "[LSpotbeat$Body;") (by decide +kernel)) (fun _ h9 => h9) rfl dX7_orderIsSound_3 ?_
  refine lv_astore_n (lv' := [(2, .ref (ax 4)), (1, .null), (0, .ref x)]) hx hb dX7_orderIsSound_6 rfl hl (by decide) rfl (fun ls hl => ?_)
  refine lv_aload_n hx hb dX7_orderIsSound_7 rfl (lv_at hl 0 rfl) ?_
  refine va_alen (v := 40) hx hb hK hP 5 4 rfl rfl rfl dX7_orderIsSound_8 ?_
  refine lv_istore_n (lv' := [(3, .int 40), (2, .ref (ax 4)), (1, .null), (0, .ref x)]) hx hb dX7_orderIsSound_9 rfl hl (by decide) rfl (fun ls hl => ?_)
  refine lv_iconst (v := 0) hx hb dX7_orderIsSound_10 (by decide) ?_
  refine lv_istore (lv' := [(4, .int 0), (3, .int 40), (2, .ref (ax 4)), (1, .null), (0, .ref x)]) hx hb dX7_orderIsSound_11 hl (by decide) rfl (fun ls hl => ?_)
  refine zloop (N := 40) (fun i H locs ls => va_P (dC, dI) vwCl (xW x ax kx) H ∧ va_S (fun q : Nat => s.heap.size ≤ q) s.heap H locs ∧ lv_has ls 6 [(4, .int (nI i)), (3, .int 40), (2, .ref (ax 4)), (1, .null), (0, .ref x)]) (fun i H locs ls hiN hI next0 => ?_) 0 _ _ _ (Nat.zero_le _) ⟨hP, hS, hl⟩
  obtain ⟨hP, hS, hl⟩ := hI
  refine lv_iload hx hb dX7_orderIsSound_13 (lv_at hl 0 rfl) ?_
  refine lv_iload_n hx hb dX7_orderIsSound_15 rfl (lv_at hl 1 rfl) ?_
  refine lv_icmp_ge (tgt := 66) hx hb dX7_orderIsSound_16 (by decide) (fun c_1 => ?_) (fun c_1 => ?_)
  · refine lv_iconst (v := 1) hx hb dX7_orderIsSound_66 (by decide) ?_
    refine W.widen (k := 0) (n := 0) (Nat.le_of_ble_eq_true rfl) (Nat.le_of_ble_eq_true rfl) ?_
    exact W.zret (v := 1) hx hb hr (by decide +kernel) (fun t ht hW => ⟨⟨1, (), rfl, rfl, trivial⟩, hS.F ht⟩) hS.2.2 dX7_orderIsSound_67
  · have hlt0 : i < 40 := by
      rcases Nat.lt_or_ge i 40 with q | q
      · exact q
      · exact absurd (nI_le q (by omega)) c_1
    have next0 := next0 hlt0
    refine lv_aload_n hx hb dX7_orderIsSound_19 rfl (lv_at hl 2 rfl) ?_
    refine lv_iload hx hb dX7_orderIsSound_20 (lv_at hl 0 rfl) ?_
    refine va_aldq hx hb hK hP 5 4 rfl rfl (vp_in_nI hlt0 (by decide)) dX7_orderIsSound_22 ?_
    refine W.eq (g2 := F0 m 23 ls [.null]) rfl ?_
    refine lv_astoreN (lv' := [(5, .null), (4, .int (nI i)), (3, .int 40), (2, .ref (ax 4)), (1, .null), (0, .ref x)]) hx hb dX7_orderIsSound_23 hl (by decide) rfl (fun ls hl => ?_)
    refine lv_aloadN hx hb dX7_orderIsSound_25 (lv_at hl 0 rfl) ?_
    refine lv_ifnonnullN hx hb dX7_orderIsSound_27 ?_
    refine lv_goto (tgt := 60) hx hb dX7_orderIsSound_30 (by decide) ?_
    refine lv_iinc (v := nI (i + 1)) (lv' := [(4, .int (nI (i + 1))), (5, .null), (3, .int 40), (2, .ref (ax 4)), (1, .null), (0, .ref x)]) hx hb dX7_orderIsSound_60 hl (k := 1) rfl ((rfl : nI i + Int32.ofInt 1 = nI i + 1).trans (nI_1 i)) (by decide) rfl (fun ls hl => ?_)
    refine lv_goto (tgt := 13) hx hb dX7_orderIsSound_63 (by decide) ?_
    exact next0 _ _ _ ⟨hP, hS, lv_sub hl [0, 2, 3, 4, 5] rfl⟩

def zwX7_makersAreSound : List Cond := .code yX7_makersAreSound cX7_makersAreSound 9 (some .boolean) :: (([.fieldLink RX7 33 "Spotbeat" "bodyRow" "[LSpotbeat$Body;", .fieldLink RX7 15 "Spotbeat" "spotRow" "[LSpotbeat$Spot;"] : List Cond) ++ (wsX70))
theorem zgX7_makersAreSound : zwX7_makersAreSound.all goodWord = true := zgo rfl (zga (by decide +kernel) (zgcX7))
set_option maxHeartbeats 4000000 in
set_option maxRecDepth 100000 in
theorem c_X7_makersAreSound (l : Launch) (dC : Nat → ClassId) (dI : Nat → Nat → Nat) (sz : Nat) (x : Nat) (ax : Nat → Nat) (kx : Nat → ClassId) : Met l yX7_makersAreSound zwX7_makersAreSound ({ frames := 0, cells := 0, slots := 0, locals := 0 }) (xPc dC dI sz x ax kx [.ref x]) (va_Qi (fun (r : Int32) (_ : Unit) => r = 1) (fun _ _ => True) (fun q : Nat => sz ≤ q)) 0 0 (fun q : Nat => sz ≤ q) := by
  refine Met.ofW (cc := cX7_makersAreSound) (maxL := 9) (ret := (some .boolean)) (by decide) rfl ?_
  intro p e s m args below meth c s₁ B hml hv
  obtain ⟨rfl, hsz, hP, hK, hE⟩ := hv
  have hx := B.exec
  have hb := B.bytes
  have hr := B.returns
  have hts := atoms_spec (ws := zwX7_makersAreSound) B.pre
  have hown : s.vm.findClass RX7 = some m.cls := findClass_of_methodNamed B.named
  have hlocks := B.notSynchronized
  subst hsz
  have hA : ∀ q : Nat, s.heap.size ≤ q → s.heap.size ≤ q := fun _ h => h
  have hS : va_S (fun q : Nat => s.heap.size ≤ q) s.heap s.heap [] := va_S.rf
  have hl := lv_entry ([.ref x]) (n := 9) (Nat.le_of_ble_eq_true rfl)
  rw [lg_entry_eq]
  generalize (lg_sl ([.ref x]) ++ List.replicate (9 - (lg_sl ([.ref x])).length) Slot.unset).toArray = ls at hl ⊢
  have hl : lv_has ls 9 [(0, .ref x)] := hl
  refine lv_aload_n hx hb dX7_makersAreSound_0 rfl (lv_at hl 0 rfl) ?_
  refine va_get (D := (dC, dI)) (ci := 10) (v := .ref (ax 4)) (C := RX7) (T := TX7) (N := 12) hx hb hts (fun w h => List.mem_cons_of_mem _ (List.mem_append_right _ (h))) hown hK hP 0 rfl rfl 4 (by decide) (hts (.fieldLink RX7 33 "Spotbeat" "bodyRow" "[LSpotbeat$Body;") (by decide +kernel)) (fun _ h9 => h9) rfl dX7_makersAreSound_1 ?_
  refine lv_astore_n (lv' := [(1, .ref (ax 4)), (0, .ref x)]) hx hb dX7_makersAreSound_4 rfl hl (by decide) rfl (fun ls hl => ?_)
  refine lv_aload_n hx hb dX7_makersAreSound_5 rfl (lv_at hl 0 rfl) ?_
  refine va_alen (v := 40) hx hb hK hP 5 4 rfl rfl rfl dX7_makersAreSound_6 ?_
  refine lv_istore_n (lv' := [(2, .int 40), (1, .ref (ax 4)), (0, .ref x)]) hx hb dX7_makersAreSound_7 rfl hl (by decide) rfl (fun ls hl => ?_)
  refine lv_iconst (v := 0) hx hb dX7_makersAreSound_8 (by decide) ?_
  refine lv_istore_n (lv' := [(3, .int 0), (2, .int 40), (1, .ref (ax 4)), (0, .ref x)]) hx hb dX7_makersAreSound_9 rfl hl (by decide) rfl (fun ls hl => ?_)
  refine zloop (N := 40) (fun i H locs ls => va_P (dC, dI) vwCl (xW x ax kx) H ∧ va_S (fun q : Nat => s.heap.size ≤ q) s.heap H locs ∧ lv_has ls 9 [(3, .int (nI i)), (2, .int 40), (1, .ref (ax 4)), (0, .ref x)]) (fun i H locs ls hiN hI next0 => ?_) 0 _ _ _ (Nat.zero_le _) ⟨hP, hS, hl⟩
  obtain ⟨hP, hS, hl⟩ := hI
  refine lv_iload_n hx hb dX7_makersAreSound_10 rfl (lv_at hl 0 rfl) ?_
  refine lv_iload_n hx hb dX7_makersAreSound_11 rfl (lv_at hl 1 rfl) ?_
  refine lv_icmp_ge (tgt := 88) hx hb dX7_makersAreSound_12 (by decide) (fun c_1 => ?_) (fun c_1 => ?_)
  · refine lv_iconst (v := 1) hx hb dX7_makersAreSound_88 (by decide) ?_
    refine W.widen (k := 0) (n := 0) (Nat.le_of_ble_eq_true rfl) (Nat.le_of_ble_eq_true rfl) ?_
    exact W.zret (v := 1) hx hb hr (by decide +kernel) (fun t ht hW => ⟨⟨1, (), rfl, rfl, trivial⟩, hS.F ht⟩) hS.2.2 dX7_makersAreSound_89
  · have hlt0 : i < 40 := by
      rcases Nat.lt_or_ge i 40 with q | q
      · exact q
      · exact absurd (nI_le q (by omega)) c_1
    have next0 := next0 hlt0
    refine lv_aload_n hx hb dX7_makersAreSound_15 rfl (lv_at hl 2 rfl) ?_
    refine lv_iload_n hx hb dX7_makersAreSound_16 rfl (lv_at hl 0 rfl) ?_
    refine va_aldq hx hb hK hP 5 4 rfl rfl (vp_in_nI hlt0 (by decide)) dX7_makersAreSound_17 ?_
    refine W.eq (g2 := F0 m 18 ls [.null]) rfl ?_
    refine lv_astoreN (lv' := [(4, .null), (3, .int (nI i)), (2, .int 40), (1, .ref (ax 4)), (0, .ref x)]) hx hb dX7_makersAreSound_18 hl (by decide) rfl (fun ls hl => ?_)
    refine lv_aload_n hx hb dX7_makersAreSound_20 rfl (lv_at hl 4 rfl) ?_
    refine va_get (D := (dC, dI)) (ci := 10) (v := .ref (ax 1)) (C := RX7) (T := TX7) (N := 12) hx hb hts (fun w h => List.mem_cons_of_mem _ (List.mem_append_right _ (h))) hown hK hP 0 rfl rfl 1 (by decide) (hts (.fieldLink RX7 15 "Spotbeat" "spotRow" "[LSpotbeat$Spot;") (by decide +kernel)) (fun _ h9 => h9) rfl dX7_makersAreSound_21 ?_
    refine lv_astore (lv' := [(5, .ref (ax 1)), (4, .null), (3, .int (nI i)), (2, .int 40), (1, .ref (ax 4)), (0, .ref x)]) hx hb dX7_makersAreSound_24 hl (by decide) rfl (fun ls hl => ?_)
    refine lv_aload hx hb dX7_makersAreSound_26 (lv_at hl 0 rfl) ?_
    refine va_alen (v := 24) hx hb hK hP 2 1 rfl rfl rfl dX7_makersAreSound_28 ?_
    refine lv_istore (lv' := [(6, .int 24), (5, .ref (ax 1)), (4, .null), (3, .int (nI i)), (2, .int 40), (1, .ref (ax 4)), (0, .ref x)]) hx hb dX7_makersAreSound_29 hl (by decide) rfl (fun ls hl => ?_)
    refine lv_iconst (v := 0) hx hb dX7_makersAreSound_31 (by decide) ?_
    refine lv_istore (lv' := [(7, .int 0), (6, .int 24), (5, .ref (ax 1)), (4, .null), (3, .int (nI i)), (2, .int 40), (1, .ref (ax 4)), (0, .ref x)]) hx hb dX7_makersAreSound_32 hl (by decide) rfl (fun ls hl => ?_)
    refine zloop (N := 24) (fun j H locs ls => va_P (dC, dI) vwCl (xW x ax kx) H ∧ va_S (fun q : Nat => s.heap.size ≤ q) s.heap H locs ∧ lv_has ls 9 [(7, .int (nI j)), (6, .int 24), (5, .ref (ax 1)), (4, .null), (3, .int (nI i)), (2, .int 40), (1, .ref (ax 4)), (0, .ref x)]) (fun j H locs ls hiN hI next1 => ?_) 0 _ _ _ (Nat.zero_le _) ⟨hP, hS, hl⟩
    obtain ⟨hP, hS, hl⟩ := hI
    refine lv_iload hx hb dX7_makersAreSound_34 (lv_at hl 0 rfl) ?_
    refine lv_iload hx hb dX7_makersAreSound_36 (lv_at hl 1 rfl) ?_
    refine lv_icmp_ge (tgt := 82) hx hb dX7_makersAreSound_38 (by decide) (fun c_2 => ?_) (fun c_2 => ?_)
    · refine lv_iinc (v := nI (i + 1)) (lv' := [(3, .int (nI (i + 1))), (7, .int (nI j)), (6, .int 24), (5, .ref (ax 1)), (4, .null), (2, .int 40), (1, .ref (ax 4)), (0, .ref x)]) hx hb dX7_makersAreSound_82 hl (k := 4) rfl ((rfl : nI i + Int32.ofInt 1 = nI i + 1).trans (nI_1 i)) (by decide) rfl (fun ls hl => ?_)
      refine lv_goto (tgt := 10) hx hb dX7_makersAreSound_85 (by decide) ?_
      exact next0 _ _ _ ⟨hP, hS, lv_sub hl [0, 5, 6, 7] rfl⟩
    · have hlt1 : j < 24 := by
        rcases Nat.lt_or_ge j 24 with q | q
        · exact q
        · exact absurd (nI_le q (by omega)) c_2
      have next1 := next1 hlt1
      refine lv_aload hx hb dX7_makersAreSound_41 (lv_at hl 2 rfl) ?_
      refine lv_iload hx hb dX7_makersAreSound_43 (lv_at hl 0 rfl) ?_
      refine va_aldq hx hb hK hP 2 1 rfl rfl (vp_in_nI hlt1 (by decide)) dX7_makersAreSound_45 ?_
      refine W.eq (g2 := F0 m 46 ls [.null]) rfl ?_
      refine lv_astoreN (lv' := [(8, .null), (7, .int (nI j)), (6, .int 24), (5, .ref (ax 1)), (4, .null), (3, .int (nI i)), (2, .int 40), (1, .ref (ax 4)), (0, .ref x)]) hx hb dX7_makersAreSound_46 hl (by decide) rfl (fun ls hl => ?_)
      refine lv_aloadN hx hb dX7_makersAreSound_48 (lv_at hl 4 rfl) ?_
      refine lv_ifnullN (tgt := 76) hx hb dX7_makersAreSound_50 (by decide) ?_
      refine lv_iinc (v := nI (j + 1)) (lv' := [(7, .int (nI (j + 1))), (8, .null), (6, .int 24), (5, .ref (ax 1)), (4, .null), (3, .int (nI i)), (2, .int 40), (1, .ref (ax 4)), (0, .ref x)]) hx hb dX7_makersAreSound_76 hl (k := 1) rfl ((rfl : nI j + Int32.ofInt 1 = nI j + 1).trans (nI_1 j)) (by decide) rfl (fun ls hl => ?_)
      refine lv_goto (tgt := 34) hx hb dX7_makersAreSound_79 (by decide) ?_
      exact next1 _ _ _ ⟨hP, hS, lv_sub hl [0, 2, 3, 4, 5, 6, 7, 8] rfl⟩

def zwX7_requireProgram : List Cond := .code yX7_requireProgram cX7_requireProgram 4 (some (.object "Spotbeat$Program")) :: (([.methodLink RX7 143 yX7_requireRobot, .instanceMethod yX7_requireRobot, .selects RX7 yX7_requireRobot yX7_requireRobot, .initialized RX7] : List Cond) ++ (zwX7_requireRobot))
theorem zgX7_requireProgram : zwX7_requireProgram.all goodWord = true := zgo rfl (zga (by decide +kernel) (zgX7_requireRobot))
set_option maxHeartbeats 4000000 in
set_option maxRecDepth 100000 in
theorem c_X7_requireProgram (l : Launch) (hst : l.stackTraces = false) (dC : Nat → ClassId) (dI : Nat → Nat → Nat) (sz : Nat) (x : Nat) (ax : Nat → Nat) (kx : Nat → ClassId) (r : Int32) (v : Int32) : vx_Met l yX7_requireProgram zwX7_requireProgram ({ frames := 7, cells := 1, slots := 6, locals := 104 }) (xPc dC dI sz x ax kx [.ref x, .int r, .int v]) (va_Qi (fun (r : Int32) (_ : Unit) => False) (fun _ _ => True) (fun q : Nat => sz ≤ q)) (zX (True) "java/lang/IndexOutOfBoundsException" (fun q : Nat => sz ≤ q)) 1 6 (fun q : Nat => sz ≤ q) := by
  refine vx_ofW (cc := cX7_requireProgram) (maxL := 4) (ret := (some (.object "Spotbeat$Program"))) (by decide) rfl ?_
  intro p e s m args below meth c s₁ B hml hnt hv
  obtain ⟨rfl, hsz, hP, hK, hE⟩ := hv
  have hx := B.exec
  have hb := B.bytes
  have hr := B.returns
  have hts := atoms_spec (ws := zwX7_requireProgram) B.pre
  have hown : s.vm.findClass RX7 = some m.cls := findClass_of_methodNamed B.named
  have hlocks := B.notSynchronized
  subst hsz
  have hA : ∀ q : Nat, s.heap.size ≤ q → s.heap.size ≤ q := fun _ h => h
  have hS : va_S (fun q : Nat => s.heap.size ≤ q) s.heap s.heap [] := va_S.rf
  have hl := lv_entry ([.ref x, .int r, .int v]) (n := 4) (Nat.le_of_ble_eq_true rfl)
  rw [lg_entry_eq]
  generalize (lg_sl ([.ref x, .int r, .int v]) ++ List.replicate (4 - (lg_sl ([.ref x, .int r, .int v])).length) Slot.unset).toArray = ls at hl ⊢
  have hl : lv_has ls 4 [(0, .ref x), (1, .int r), (2, .int v)] := hl
  refine lv_aload_n hx hb dX7_requireProgram_0 rfl (lv_at hl 0 rfl) ?_
  refine lv_iload_n hx hb dX7_requireProgram_1 rfl (lv_at hl 1 rfl) ?_
  refine vx_calli (vx_runV (As := [.int r]) (rest := []) ⟨hx, hb, hml, hown, hts⟩ (c_X7_requireRobot l hst dC dI s.heap.size x ax kx r) (cwV 1 hts (goodIn_app (goodIn_of _ (by decide +kernel)) (goodIn_sub ((fun w h => List.mem_cons_of_mem _ (List.mem_append_right _ (h)))) zgX7_requireRobot)) rfl rfl rfl (by decide +kernel) ⟨Nat.le_of_ble_eq_true rfl, Nat.le_of_ble_eq_true rfl⟩) ⟨xPc_blind, va_recv hK hP (ci := 10) (q0 := 0) rfl rfl, xPc_pass hP hK hE hS (fun q h => hA q (Nat.le_trans hS.1 h))⟩ rfl rfl hl.1 rfl (lv_room (Nat.le_of_ble_eq_true rfl)) dX7_requireProgram_2 ⟨Nat.le_of_ble_eq_true rfl, Nat.le_of_ble_eq_true rfl⟩) hS (fun q _ h => hA q (Nat.le_trans hS.1 h)) (fun q h => hA q (Nat.le_trans hS.1 h)) (fun q _ h => hA q (Nat.le_trans hS.1 h)) (fun E ce q9 _ t H locs ht hvm hpx hBX hz hk hS hcell hv hcl => ?_) (fun r_1 u t H locs ht hvm hw hB hz hk hS => ?_)
  · have hBX : E = "java/lang/IndexOutOfBoundsException" := hBX
    subst hBX
    exact zOut (px := True) (E := "java/lang/IndexOutOfBoundsException") hnt hlocks hcell hv hcl hS trivial hS.2.2 (Nat.le_of_ble_eq_true rfl) (Nat.le_of_ble_eq_true rfl)
  have hP := zkn hP hk
  exact hw.elim

def zwX7_explore : List Cond := .code yX7_explore cX7_explore 4 none :: (([.methodLink RX7 118 yX7_requireStation, .instanceMethod yX7_requireStation, .selects RX7 yX7_requireStation yX7_requireStation, .initialized RX7] : List Cond) ++ (zwX7_requireStation))
theorem zgX7_explore : zwX7_explore.all goodWord = true := zgo rfl (zga (by decide +kernel) (zgX7_requireStation))
set_option maxHeartbeats 4000000 in
set_option maxRecDepth 100000 in
theorem c_X7_explore (l : Launch) (hst : l.stackTraces = false) (dC : Nat → ClassId) (dI : Nat → Nat → Nat) (sz : Nat) (x : Nat) (ax : Nat → Nat) (kx : Nat → ClassId) (r : Int32) (v : Int32) : vx_Met l yX7_explore zwX7_explore ({ frames := 7, cells := 1, slots := 6, locals := 104 }) (xPc dC dI sz x ax kx [.ref x, .int r, .int v]) (va_Qi (fun (r : Int32) (_ : Unit) => False) (fun _ _ => True) (fun q : Nat => sz ≤ q)) (zX (True) "java/lang/IndexOutOfBoundsException" (fun q : Nat => sz ≤ q)) 1 6 (fun q : Nat => sz ≤ q) := by
  refine vx_ofW (cc := cX7_explore) (maxL := 4) (ret := none) (by decide) rfl ?_
  intro p e s m args below meth c s₁ B hml hnt hv
  obtain ⟨rfl, hsz, hP, hK, hE⟩ := hv
  have hx := B.exec
  have hb := B.bytes
  have hr := B.returns
  have hts := atoms_spec (ws := zwX7_explore) B.pre
  have hown : s.vm.findClass RX7 = some m.cls := findClass_of_methodNamed B.named
  have hlocks := B.notSynchronized
  subst hsz
  have hA : ∀ q : Nat, s.heap.size ≤ q → s.heap.size ≤ q := fun _ h => h
  have hS : va_S (fun q : Nat => s.heap.size ≤ q) s.heap s.heap [] := va_S.rf
  have hl := lv_entry ([.ref x, .int r, .int v]) (n := 4) (Nat.le_of_ble_eq_true rfl)
  rw [lg_entry_eq]
  generalize (lg_sl ([.ref x, .int r, .int v]) ++ List.replicate (4 - (lg_sl ([.ref x, .int r, .int v])).length) Slot.unset).toArray = ls at hl ⊢
  have hl : lv_has ls 4 [(0, .ref x), (1, .int r), (2, .int v)] := hl
  refine lv_aload_n hx hb dX7_explore_0 rfl (lv_at hl 0 rfl) ?_
  refine lv_iload_n hx hb dX7_explore_1 rfl (lv_at hl 1 rfl) ?_
  refine vx_calli (vx_runV (As := [.int r]) (rest := []) ⟨hx, hb, hml, hown, hts⟩ (c_X7_requireStation l hst dC dI s.heap.size x ax kx r) (cwV 1 hts (goodIn_app (goodIn_of _ (by decide +kernel)) (goodIn_sub ((fun w h => List.mem_cons_of_mem _ (List.mem_append_right _ (h)))) zgX7_requireStation)) rfl rfl rfl (by decide +kernel) ⟨Nat.le_of_ble_eq_true rfl, Nat.le_of_ble_eq_true rfl⟩) ⟨xPc_blind, va_recv hK hP (ci := 10) (q0 := 0) rfl rfl, xPc_pass hP hK hE hS (fun q h => hA q (Nat.le_trans hS.1 h))⟩ rfl rfl hl.1 rfl (lv_room (Nat.le_of_ble_eq_true rfl)) dX7_explore_2 ⟨Nat.le_of_ble_eq_true rfl, Nat.le_of_ble_eq_true rfl⟩) hS (fun q _ h => hA q (Nat.le_trans hS.1 h)) (fun q h => hA q (Nat.le_trans hS.1 h)) (fun q _ h => hA q (Nat.le_trans hS.1 h)) (fun E ce q9 _ t H locs ht hvm hpx hBX hz hk hS hcell hv hcl => ?_) (fun r_1 u t H locs ht hvm hw hB hz hk hS => ?_)
  · have hBX : E = "java/lang/IndexOutOfBoundsException" := hBX
    subst hBX
    exact zOut (px := True) (E := "java/lang/IndexOutOfBoundsException") hnt hlocks hcell hv hcl hS trivial hS.2.2 (Nat.le_of_ble_eq_true rfl) (Nat.le_of_ble_eq_true rfl)
  have hP := zkn hP hk
  exact hw.elim

def zwX7_spot : List Cond := .code yX7_spot cX7_spot 9 (some .int) :: (([.methodLink RX7 48 yX7_isPanel, .instanceMethod yX7_isPanel, .selects RX7 yX7_isPanel yX7_isPanel, .initialized RX7, .classLink RX7 52 "java/lang/IndexOutOfBoundsException", .initialized "java/lang/IndexOutOfBoundsException"] : List Cond) ++ (zwX7_isPanel ++ (((vx_atS RX7 56 "java/lang/IndexOutOfBoundsException" zNames).filter goodWord))))
theorem zgX7_spot : zwX7_spot.all goodWord = true := zgo rfl (zga (by decide +kernel) (zga zgX7_isPanel ((zgf _))))
set_option maxHeartbeats 4000000 in
set_option maxRecDepth 100000 in
theorem c_X7_spot (l : Launch) (hst : l.stackTraces = false) (dC : Nat → ClassId) (dI : Nat → Nat → Nat) (sz : Nat) (x : Nat) (ax : Nat → Nat) (kx : Nat → ClassId) (a : Int32) (b : Int32) (d : Int32) (f : Int32) (g : Int32) (h : Int32) : vx_Met l yX7_spot zwX7_spot ({ frames := 6, cells := 1, slots := 6, locals := 82 }) (xPc dC dI sz x ax kx [.ref x, .int a, .int b, .int d, .int f, .int g, .int h]) (va_Qi (fun (r : Int32) (_ : Unit) => False) (fun _ _ => True) (fun q : Nat => sz ≤ q)) (zX (True) "java/lang/IndexOutOfBoundsException" (fun q : Nat => sz ≤ q)) 1 6 (fun q : Nat => sz ≤ q) := by
  refine vx_ofW (cc := cX7_spot) (maxL := 9) (ret := (some .int)) (by decide) rfl ?_
  intro p e s m args below meth c s₁ B hml hnt hv
  obtain ⟨rfl, hsz, hP, hK, hE⟩ := hv
  have hx := B.exec
  have hb := B.bytes
  have hr := B.returns
  have hts := atoms_spec (ws := zwX7_spot) B.pre
  have hown : s.vm.findClass RX7 = some m.cls := findClass_of_methodNamed B.named
  have hlocks := B.notSynchronized
  subst hsz
  have hA : ∀ q : Nat, s.heap.size ≤ q → s.heap.size ≤ q := fun _ h => h
  have hS : va_S (fun q : Nat => s.heap.size ≤ q) s.heap s.heap [] := va_S.rf
  have hl := lv_entry ([.ref x, .int a, .int b, .int d, .int f, .int g, .int h]) (n := 9) (Nat.le_of_ble_eq_true rfl)
  rw [lg_entry_eq]
  generalize (lg_sl ([.ref x, .int a, .int b, .int d, .int f, .int g, .int h]) ++ List.replicate (9 - (lg_sl ([.ref x, .int a, .int b, .int d, .int f, .int g, .int h])).length) Slot.unset).toArray = ls at hl ⊢
  have hl : lv_has ls 9 [(0, .ref x), (1, .int a), (2, .int b), (3, .int d), (4, .int f), (5, .int g), (6, .int h)] := hl
  refine lv_aload_n hx hb dX7_spot_0 rfl (lv_at hl 0 rfl) ?_
  refine lv_iload_n hx hb dX7_spot_1 rfl (lv_at hl 1 rfl) ?_
  refine va_calli (va_runV (As := [.int a]) (rest := []) ⟨hx, hb, hml, hown, hts⟩ (c_X7_isPanel l dC dI s.heap.size x ax kx a) (cwV 1 hts (goodIn_app (goodIn_of _ (by decide +kernel)) (goodIn_sub ((fun w h => List.mem_cons_of_mem _ (List.mem_append_right _ (List.mem_append_left _ h)))) zgX7_isPanel)) rfl rfl rfl (by decide +kernel) ⟨Nat.le_of_ble_eq_true rfl, Nat.le_of_ble_eq_true rfl⟩) ⟨xPc_blind, va_recv hK hP (ci := 10) (q0 := 0) rfl rfl, xPc_pass hP hK hE hS (fun q h => hA q (Nat.le_trans hS.1 h))⟩ rfl rfl hl.1 rfl (lv_room (Nat.le_of_ble_eq_true rfl)) dX7_spot_2 ⟨Nat.le_of_ble_eq_true rfl, Nat.le_of_ble_eq_true rfl⟩) hS (fun q _ h => hA q (Nat.le_trans hS.1 h)) (fun q h => hA q (Nat.le_trans hS.1 h)) (fun r_1 u t H locs ht hvm hw hB hz hk hS => ?_)
  have hP := zkn hP hk
  have hw : r_1 = 0 := hw
  subst hw
  refine lv_if_eq (tgt := 16) hx hb dX7_spot_5 (by decide) (fun _ => ?_) (fun c_2 => absurd c_2 (by decide))
  exact zThrow (Ts := zwX7_spot) (px := True) (E := "java/lang/IndexOutOfBoundsException") (ik := 52) (is := 54) (ic := 56) hx hb hst hown hts hE hS (hl.1.trans hml.symm) (by decide) (by decide +kernel) (text := "no such panel") (by decide) (by decide +kernel) (by decide +kernel) (fun w h => List.mem_cons_of_mem _ (List.mem_append_right _ (List.mem_append_right _ (h)))) (by decide +kernel) (by decide +kernel) dX7_spot_16 dX7_spot_19 dX7_spot_20 dX7_spot_22 dX7_spot_25 hnt (Nat.le_of_ble_eq_true rfl) (Nat.le_of_ble_eq_true rfl) (Nat.le_of_ble_eq_true rfl) (Nat.le_of_ble_eq_true rfl) hlocks trivial hS.2.2 (Nat.le_of_ble_eq_true rfl) (Nat.le_of_ble_eq_true rfl)

def zwX7_spots : List Cond := .code yX7_spots cX7_spots 7 (some .int) :: (([.methodLink RX7 89 yX7_requireVariant, .static yX7_requireVariant, .initialized RX7, .fieldLink RX7 15 "Spotbeat" "spotRow" "[LSpotbeat$Spot;"] : List Cond) ++ (zwX7_requireVariant ++ (wsX70)))
theorem zgX7_spots : zwX7_spots.all goodWord = true := zgo rfl (zga (by decide +kernel) (zga zgX7_requireVariant (zgcX7)))
set_option maxHeartbeats 4000000 in
set_option maxRecDepth 100000 in
theorem c_X7_spots (l : Launch) (hst : l.stackTraces = false) (dC : Nat → ClassId) (dI : Nat → Nat → Nat) (sz : Nat) (x : Nat) (ax : Nat → Nat) (kx : Nat → ClassId) (v : Int32) : vx_Met l yX7_spots zwX7_spots ({ frames := 7, cells := 1, slots := 6, locals := 102 }) (xPc dC dI sz x ax kx [.ref x, .int v]) (va_Qi (fun (r : Int32) (_ : Unit) => r = 0 ∧ ¬ (v < 0 ∨ 4 ≤ v)) (fun _ _ => True) (fun q : Nat => sz ≤ q)) (zX (v < 0 ∨ 4 ≤ v) "java/lang/IndexOutOfBoundsException" (fun q : Nat => sz ≤ q)) 1 6 (fun q : Nat => sz ≤ q) := by
  refine vx_ofW (cc := cX7_spots) (maxL := 7) (ret := (some .int)) (by decide) rfl ?_
  intro p e s m args below meth c s₁ B hml hnt hv
  obtain ⟨rfl, hsz, hP, hK, hE⟩ := hv
  have hx := B.exec
  have hb := B.bytes
  have hr := B.returns
  have hts := atoms_spec (ws := zwX7_spots) B.pre
  have hown : s.vm.findClass RX7 = some m.cls := findClass_of_methodNamed B.named
  have hlocks := B.notSynchronized
  subst hsz
  have hA : ∀ q : Nat, s.heap.size ≤ q → s.heap.size ≤ q := fun _ h => h
  have hS : va_S (fun q : Nat => s.heap.size ≤ q) s.heap s.heap [] := va_S.rf
  have hl := lv_entry ([.ref x, .int v]) (n := 7) (Nat.le_of_ble_eq_true rfl)
  rw [lg_entry_eq]
  generalize (lg_sl ([.ref x, .int v]) ++ List.replicate (7 - (lg_sl ([.ref x, .int v])).length) Slot.unset).toArray = ls at hl ⊢
  have hl : lv_has ls 7 [(0, .ref x), (1, .int v)] := hl
  refine lv_iload_n hx hb dX7_spots_0 rfl (lv_at hl 1 rfl) ?_
  refine vx_callv (vx_runS (As := [.int v]) (rest := []) ⟨hx, hb, hml, hown, hts⟩ (c_X7_requireVariant l hst dC dI s.heap.size v) (va_cwS 1 hts (goodIn_app (goodIn_of _ (by decide +kernel)) (goodIn_sub ((fun w h => List.mem_cons_of_mem _ (List.mem_append_right _ (List.mem_append_left _ h)))) zgX7_requireVariant)) rfl rfl rfl (by decide +kernel) ⟨Nat.le_of_ble_eq_true rfl, Nat.le_of_ble_eq_true rfl⟩) ⟨ePc_blind, ePc_pass hE hS (fun q h => hA q (Nat.le_trans hS.1 h))⟩ rfl rfl hl.1 rfl (lv_room (Nat.le_of_ble_eq_true rfl)) dX7_spots_1 ⟨Nat.le_of_ble_eq_true rfl, Nat.le_of_ble_eq_true rfl⟩) hS (fun q _ h => hA q (Nat.le_trans hS.1 h)) (fun q h => hA q (Nat.le_trans hS.1 h)) (fun q _ h => hA q (Nat.le_trans hS.1 h)) (fun E ce q9 _ t H locs ht hvm hpx hBX hz hk hS hcell hv hcl => ?_) (fun u t H locs ht hvm hw hB hz hk hS => ?_)
  · have hBX : E = "java/lang/IndexOutOfBoundsException" := hBX
    subst hBX
    exact zOut (px := v < 0 ∨ 4 ≤ v) (E := "java/lang/IndexOutOfBoundsException") hnt hlocks hcell hv hcl hS hpx hS.2.2 (Nat.le_of_ble_eq_true rfl) (Nat.le_of_ble_eq_true rfl)
  have hP := zkn hP hk
  have w_2 : ¬ (v < 0 ∨ 4 ≤ v) := hw
  refine lv_iconst (v := 0) hx hb dX7_spots_4 (by decide) ?_
  refine lv_istore_n (lv' := [(2, .int 0), (0, .ref x), (1, .int v)]) hx hb dX7_spots_5 rfl hl (by decide) rfl (fun ls hl => ?_)
  refine lv_aload_n hx hb dX7_spots_6 rfl (lv_at hl 1 rfl) ?_
  refine va_get (D := (dC, dI)) (ci := 10) (v := .ref (ax 1)) (C := RX7) (T := TX7) (N := 12) hx hb hts (fun w h => List.mem_cons_of_mem _ (List.mem_append_right _ (List.mem_append_right _ (h)))) hown hK hP 0 rfl rfl 1 (by decide) (hts (.fieldLink RX7 15 "Spotbeat" "spotRow" "[LSpotbeat$Spot;") (by decide +kernel)) (fun _ h9 => h9) rfl dX7_spots_7 ?_
  refine lv_astore_n (lv' := [(3, .ref (ax 1)), (2, .int 0), (0, .ref x), (1, .int v)]) hx hb dX7_spots_10 rfl hl (by decide) rfl (fun ls hl => ?_)
  refine lv_aload_n hx hb dX7_spots_11 rfl (lv_at hl 0 rfl) ?_
  refine va_alen (v := 24) hx hb hK hP 2 1 rfl rfl rfl dX7_spots_12 ?_
  refine lv_istore (lv' := [(4, .int 24), (3, .ref (ax 1)), (2, .int 0), (0, .ref x), (1, .int v)]) hx hb dX7_spots_13 hl (by decide) rfl (fun ls hl => ?_)
  refine lv_iconst (v := 0) hx hb dX7_spots_15 (by decide) ?_
  refine lv_istore (lv' := [(5, .int 0), (4, .int 24), (3, .ref (ax 1)), (2, .int 0), (0, .ref x), (1, .int v)]) hx hb dX7_spots_16 hl (by decide) rfl (fun ls hl => ?_)
  refine zloop (N := 24) (fun i H locs ls => va_P (dC, dI) vwCl (xW x ax kx) H ∧ va_S (fun q : Nat => s.heap.size ≤ q) s.heap H locs ∧ lv_has ls 7 [(5, .int (nI i)), (4, .int 24), (3, .ref (ax 1)), (2, .int 0), (0, .ref x), (1, .int v)]) (fun i H locs ls hiN hI next0 => ?_) 0 _ _ _ (Nat.zero_le _) ⟨hP, hS, hl⟩
  obtain ⟨hP, hS, hl⟩ := hI
  refine lv_iload hx hb dX7_spots_18 (lv_at hl 0 rfl) ?_
  refine lv_iload hx hb dX7_spots_20 (lv_at hl 1 rfl) ?_
  refine lv_icmp_ge (tgt := 54) hx hb dX7_spots_22 (by decide) (fun c_3 => ?_) (fun c_3 => ?_)
  · refine lv_iload_n hx hb dX7_spots_54 rfl (lv_at hl 3 rfl) ?_
    refine W.widen (k := 1) (n := 6) (Nat.le_of_ble_eq_true rfl) (Nat.le_of_ble_eq_true rfl) ?_
    exact vx_ret (W.iret (v := 0) hx hb hr (fun t ht hW => ⟨⟨0, (), rfl, ⟨rfl, w_2⟩, trivial⟩, hS.F ht⟩) hS.2.2 dX7_spots_55)
  · have hlt0 : i < 24 := by
      rcases Nat.lt_or_ge i 24 with q | q
      · exact q
      · exact absurd (nI_le q (by omega)) c_3
    have next0 := next0 hlt0
    refine lv_aload_n hx hb dX7_spots_25 rfl (lv_at hl 2 rfl) ?_
    refine lv_iload hx hb dX7_spots_26 (lv_at hl 0 rfl) ?_
    refine va_aldq hx hb hK hP 2 1 rfl rfl (vp_in_nI hlt0 (by decide)) dX7_spots_28 ?_
    refine W.eq (g2 := F0 m 29 ls [.null]) rfl ?_
    refine lv_astoreN (lv' := [(6, .null), (5, .int (nI i)), (4, .int 24), (3, .ref (ax 1)), (2, .int 0), (0, .ref x), (1, .int v)]) hx hb dX7_spots_29 hl (by decide) rfl (fun ls hl => ?_)
    refine lv_aloadN hx hb dX7_spots_31 (lv_at hl 0 rfl) ?_
    refine lv_ifnullN (tgt := 48) hx hb dX7_spots_33 (by decide) ?_
    refine lv_iinc (v := nI (i + 1)) (lv' := [(5, .int (nI (i + 1))), (6, .null), (4, .int 24), (3, .ref (ax 1)), (2, .int 0), (0, .ref x), (1, .int v)]) hx hb dX7_spots_48 hl (k := 1) rfl ((rfl : nI i + Int32.ofInt 1 = nI i + 1).trans (nI_1 i)) (by decide) rfl (fun ls hl => ?_)
    refine lv_goto (tgt := 18) hx hb dX7_spots_51 (by decide) ?_
    exact next0 _ _ _ ⟨hP, hS, lv_sub hl [0, 2, 3, 4, 5, 6] rfl⟩

def zwX7_isHeld : List Cond := .code yX7_isHeld cX7_isHeld 3 (some .boolean) :: (([.methodLink RX7 89 yX7_requireVariant, .static yX7_requireVariant, .initialized RX7, .fieldLink RX7 44 "Spotbeat" "panelCount" "I"] : List Cond) ++ (zwX7_requireVariant ++ (wsX70)))
theorem zgX7_isHeld : zwX7_isHeld.all goodWord = true := zgo rfl (zga (by decide +kernel) (zga zgX7_requireVariant (zgcX7)))
set_option maxHeartbeats 4000000 in
set_option maxRecDepth 100000 in
theorem c_X7_isHeld (l : Launch) (hst : l.stackTraces = false) (dC : Nat → ClassId) (dI : Nat → Nat → Nat) (sz : Nat) (x : Nat) (ax : Nat → Nat) (kx : Nat → ClassId) (v : Int32) : vx_Met l yX7_isHeld zwX7_isHeld ({ frames := 7, cells := 1, slots := 6, locals := 102 }) (xPc dC dI sz x ax kx [.ref x, .int v]) (va_Qi (fun (r : Int32) (_ : Unit) => r = 1 ∧ ¬ (v < 0 ∨ 4 ≤ v)) (fun _ _ => True) (fun q : Nat => sz ≤ q)) (zX (v < 0 ∨ 4 ≤ v) "java/lang/IndexOutOfBoundsException" (fun q : Nat => sz ≤ q)) 1 6 (fun q : Nat => sz ≤ q) := by
  refine vx_ofW (cc := cX7_isHeld) (maxL := 3) (ret := (some .boolean)) (by decide) rfl ?_
  intro p e s m args below meth c s₁ B hml hnt hv
  obtain ⟨rfl, hsz, hP, hK, hE⟩ := hv
  have hx := B.exec
  have hb := B.bytes
  have hr := B.returns
  have hts := atoms_spec (ws := zwX7_isHeld) B.pre
  have hown : s.vm.findClass RX7 = some m.cls := findClass_of_methodNamed B.named
  have hlocks := B.notSynchronized
  subst hsz
  have hA : ∀ q : Nat, s.heap.size ≤ q → s.heap.size ≤ q := fun _ h => h
  have hS : va_S (fun q : Nat => s.heap.size ≤ q) s.heap s.heap [] := va_S.rf
  have hl := lv_entry ([.ref x, .int v]) (n := 3) (Nat.le_of_ble_eq_true rfl)
  rw [lg_entry_eq]
  generalize (lg_sl ([.ref x, .int v]) ++ List.replicate (3 - (lg_sl ([.ref x, .int v])).length) Slot.unset).toArray = ls at hl ⊢
  have hl : lv_has ls 3 [(0, .ref x), (1, .int v)] := hl
  refine lv_iload_n hx hb dX7_isHeld_0 rfl (lv_at hl 1 rfl) ?_
  refine vx_callv (vx_runS (As := [.int v]) (rest := []) ⟨hx, hb, hml, hown, hts⟩ (c_X7_requireVariant l hst dC dI s.heap.size v) (va_cwS 1 hts (goodIn_app (goodIn_of _ (by decide +kernel)) (goodIn_sub ((fun w h => List.mem_cons_of_mem _ (List.mem_append_right _ (List.mem_append_left _ h)))) zgX7_requireVariant)) rfl rfl rfl (by decide +kernel) ⟨Nat.le_of_ble_eq_true rfl, Nat.le_of_ble_eq_true rfl⟩) ⟨ePc_blind, ePc_pass hE hS (fun q h => hA q (Nat.le_trans hS.1 h))⟩ rfl rfl hl.1 rfl (lv_room (Nat.le_of_ble_eq_true rfl)) dX7_isHeld_1 ⟨Nat.le_of_ble_eq_true rfl, Nat.le_of_ble_eq_true rfl⟩) hS (fun q _ h => hA q (Nat.le_trans hS.1 h)) (fun q h => hA q (Nat.le_trans hS.1 h)) (fun q _ h => hA q (Nat.le_trans hS.1 h)) (fun E ce q9 _ t H locs ht hvm hpx hBX hz hk hS hcell hv hcl => ?_) (fun u t H locs ht hvm hw hB hz hk hS => ?_)
  · have hBX : E = "java/lang/IndexOutOfBoundsException" := hBX
    subst hBX
    exact zOut (px := v < 0 ∨ 4 ≤ v) (E := "java/lang/IndexOutOfBoundsException") hnt hlocks hcell hv hcl hS hpx hS.2.2 (Nat.le_of_ble_eq_true rfl) (Nat.le_of_ble_eq_true rfl)
  have hP := zkn hP hk
  have w_2 : ¬ (v < 0 ∨ 4 ≤ v) := hw
  refine lv_iconst (v := 1) hx hb dX7_isHeld_4 (by decide) ?_
  refine lv_istore_n (lv' := [(2, .int 1), (0, .ref x), (1, .int v)]) hx hb dX7_isHeld_5 rfl hl (by decide) rfl (fun ls hl => ?_)
  refine lv_iload_n hx hb dX7_isHeld_6 rfl (lv_at hl 0 rfl) ?_
  refine lv_aload_n hx hb dX7_isHeld_7 rfl (lv_at hl 1 rfl) ?_
  refine va_get (D := (dC, dI)) (ci := 10) (v := .int 0) (C := RX7) (T := TX7) (N := 12) hx hb hts (fun w h => List.mem_cons_of_mem _ (List.mem_append_right _ (List.mem_append_right _ (h)))) hown hK hP 0 rfl rfl 6 (by decide) (hts (.fieldLink RX7 44 "Spotbeat" "panelCount" "I") (by decide +kernel)) (fun _ h9 => h9) rfl dX7_isHeld_8 ?_
  refine lv_icmp_ge (tgt := 31) hx hb dX7_isHeld_11 (by decide) (fun _ => ?_) (fun c_3 => absurd c_3 (by decide))
  refine lv_iconst (v := 1) hx hb dX7_isHeld_31 (by decide) ?_
  refine W.widen (k := 1) (n := 6) (Nat.le_of_ble_eq_true rfl) (Nat.le_of_ble_eq_true rfl) ?_
  exact vx_ret (W.zret (v := 1) hx hb hr (by decide +kernel) (fun t ht hW => ⟨⟨1, (), rfl, ⟨rfl, w_2⟩, trivial⟩, hS.F ht⟩) hS.2.2 dX7_isHeld_32)

def zwX7_robot : List Cond := .code yX7_robot cX7_robot 7 (some .int) :: (([.methodLink RX7 118 yX7_requireStation, .instanceMethod yX7_requireStation, .selects RX7 yX7_requireStation yX7_requireStation, .initialized RX7] : List Cond) ++ (zwX7_requireStation))
theorem zgX7_robot : zwX7_robot.all goodWord = true := zgo rfl (zga (by decide +kernel) (zgX7_requireStation))
set_option maxHeartbeats 4000000 in
set_option maxRecDepth 100000 in
theorem c_X7_robot (l : Launch) (hst : l.stackTraces = false) (dC : Nat → ClassId) (dI : Nat → Nat → Nat) (sz : Nat) (x : Nat) (ax : Nat → Nat) (kx : Nat → ClassId) (a : Int32) (b : Int32) (d : Int32) : vx_Met l yX7_robot zwX7_robot ({ frames := 7, cells := 1, slots := 6, locals := 104 }) (xPc dC dI sz x ax kx [.ref x, .int a, .int b, .int d]) (va_Qi (fun (r : Int32) (_ : Unit) => False) (fun _ _ => True) (fun q : Nat => sz ≤ q)) (zX (True) "java/lang/IndexOutOfBoundsException" (fun q : Nat => sz ≤ q)) 1 6 (fun q : Nat => sz ≤ q) := by
  refine vx_ofW (cc := cX7_robot) (maxL := 7) (ret := (some .int)) (by decide) rfl ?_
  intro p e s m args below meth c s₁ B hml hnt hv
  obtain ⟨rfl, hsz, hP, hK, hE⟩ := hv
  have hx := B.exec
  have hb := B.bytes
  have hr := B.returns
  have hts := atoms_spec (ws := zwX7_robot) B.pre
  have hown : s.vm.findClass RX7 = some m.cls := findClass_of_methodNamed B.named
  have hlocks := B.notSynchronized
  subst hsz
  have hA : ∀ q : Nat, s.heap.size ≤ q → s.heap.size ≤ q := fun _ h => h
  have hS : va_S (fun q : Nat => s.heap.size ≤ q) s.heap s.heap [] := va_S.rf
  have hl := lv_entry ([.ref x, .int a, .int b, .int d]) (n := 7) (Nat.le_of_ble_eq_true rfl)
  rw [lg_entry_eq]
  generalize (lg_sl ([.ref x, .int a, .int b, .int d]) ++ List.replicate (7 - (lg_sl ([.ref x, .int a, .int b, .int d])).length) Slot.unset).toArray = ls at hl ⊢
  have hl : lv_has ls 7 [(0, .ref x), (1, .int a), (2, .int b), (3, .int d)] := hl
  refine lv_aload_n hx hb dX7_robot_0 rfl (lv_at hl 0 rfl) ?_
  refine lv_iload_n hx hb dX7_robot_1 rfl (lv_at hl 1 rfl) ?_
  refine vx_calli (vx_runV (As := [.int a]) (rest := []) ⟨hx, hb, hml, hown, hts⟩ (c_X7_requireStation l hst dC dI s.heap.size x ax kx a) (cwV 1 hts (goodIn_app (goodIn_of _ (by decide +kernel)) (goodIn_sub ((fun w h => List.mem_cons_of_mem _ (List.mem_append_right _ (h)))) zgX7_requireStation)) rfl rfl rfl (by decide +kernel) ⟨Nat.le_of_ble_eq_true rfl, Nat.le_of_ble_eq_true rfl⟩) ⟨xPc_blind, va_recv hK hP (ci := 10) (q0 := 0) rfl rfl, xPc_pass hP hK hE hS (fun q h => hA q (Nat.le_trans hS.1 h))⟩ rfl rfl hl.1 rfl (lv_room (Nat.le_of_ble_eq_true rfl)) dX7_robot_2 ⟨Nat.le_of_ble_eq_true rfl, Nat.le_of_ble_eq_true rfl⟩) hS (fun q _ h => hA q (Nat.le_trans hS.1 h)) (fun q h => hA q (Nat.le_trans hS.1 h)) (fun q _ h => hA q (Nat.le_trans hS.1 h)) (fun E ce q9 _ t H locs ht hvm hpx hBX hz hk hS hcell hv hcl => ?_) (fun r_1 u t H locs ht hvm hw hB hz hk hS => ?_)
  · have hBX : E = "java/lang/IndexOutOfBoundsException" := hBX
    subst hBX
    exact zOut (px := True) (E := "java/lang/IndexOutOfBoundsException") hnt hlocks hcell hv hcl hS trivial hS.2.2 (Nat.le_of_ble_eq_true rfl) (Nat.le_of_ble_eq_true rfl)
  have hP := zkn hP hk
  exact hw.elim

def zwX7_reaches : List Cond := .code yX7_reaches cX7_reaches 4 (some .boolean) :: (([.methodLink RX7 143 yX7_requireRobot, .instanceMethod yX7_requireRobot, .selects RX7 yX7_requireRobot yX7_requireRobot, .initialized RX7] : List Cond) ++ (zwX7_requireRobot))
theorem zgX7_reaches : zwX7_reaches.all goodWord = true := zgo rfl (zga (by decide +kernel) (zgX7_requireRobot))
set_option maxHeartbeats 4000000 in
set_option maxRecDepth 100000 in
theorem c_X7_reaches (l : Launch) (hst : l.stackTraces = false) (dC : Nat → ClassId) (dI : Nat → Nat → Nat) (sz : Nat) (x : Nat) (ax : Nat → Nat) (kx : Nat → ClassId) (a : Int32) (b : Int32) : vx_Met l yX7_reaches zwX7_reaches ({ frames := 7, cells := 1, slots := 6, locals := 104 }) (xPc dC dI sz x ax kx [.ref x, .int a, .int b]) (va_Qi (fun (r : Int32) (_ : Unit) => False) (fun _ _ => True) (fun q : Nat => sz ≤ q)) (zX (True) "java/lang/IndexOutOfBoundsException" (fun q : Nat => sz ≤ q)) 1 6 (fun q : Nat => sz ≤ q) := by
  refine vx_ofW (cc := cX7_reaches) (maxL := 4) (ret := (some .boolean)) (by decide) rfl ?_
  intro p e s m args below meth c s₁ B hml hnt hv
  obtain ⟨rfl, hsz, hP, hK, hE⟩ := hv
  have hx := B.exec
  have hb := B.bytes
  have hr := B.returns
  have hts := atoms_spec (ws := zwX7_reaches) B.pre
  have hown : s.vm.findClass RX7 = some m.cls := findClass_of_methodNamed B.named
  have hlocks := B.notSynchronized
  subst hsz
  have hA : ∀ q : Nat, s.heap.size ≤ q → s.heap.size ≤ q := fun _ h => h
  have hS : va_S (fun q : Nat => s.heap.size ≤ q) s.heap s.heap [] := va_S.rf
  have hl := lv_entry ([.ref x, .int a, .int b]) (n := 4) (Nat.le_of_ble_eq_true rfl)
  rw [lg_entry_eq]
  generalize (lg_sl ([.ref x, .int a, .int b]) ++ List.replicate (4 - (lg_sl ([.ref x, .int a, .int b])).length) Slot.unset).toArray = ls at hl ⊢
  have hl : lv_has ls 4 [(0, .ref x), (1, .int a), (2, .int b)] := hl
  refine lv_aload_n hx hb dX7_reaches_0 rfl (lv_at hl 0 rfl) ?_
  refine lv_iload_n hx hb dX7_reaches_1 rfl (lv_at hl 1 rfl) ?_
  refine vx_calli (vx_runV (As := [.int a]) (rest := []) ⟨hx, hb, hml, hown, hts⟩ (c_X7_requireRobot l hst dC dI s.heap.size x ax kx a) (cwV 1 hts (goodIn_app (goodIn_of _ (by decide +kernel)) (goodIn_sub ((fun w h => List.mem_cons_of_mem _ (List.mem_append_right _ (h)))) zgX7_requireRobot)) rfl rfl rfl (by decide +kernel) ⟨Nat.le_of_ble_eq_true rfl, Nat.le_of_ble_eq_true rfl⟩) ⟨xPc_blind, va_recv hK hP (ci := 10) (q0 := 0) rfl rfl, xPc_pass hP hK hE hS (fun q h => hA q (Nat.le_trans hS.1 h))⟩ rfl rfl hl.1 rfl (lv_room (Nat.le_of_ble_eq_true rfl)) dX7_reaches_2 ⟨Nat.le_of_ble_eq_true rfl, Nat.le_of_ble_eq_true rfl⟩) hS (fun q _ h => hA q (Nat.le_trans hS.1 h)) (fun q h => hA q (Nat.le_trans hS.1 h)) (fun q _ h => hA q (Nat.le_trans hS.1 h)) (fun E ce q9 _ t H locs ht hvm hpx hBX hz hk hS hcell hv hcl => ?_) (fun r_1 u t H locs ht hvm hw hB hz hk hS => ?_)
  · have hBX : E = "java/lang/IndexOutOfBoundsException" := hBX
    subst hBX
    exact zOut (px := True) (E := "java/lang/IndexOutOfBoundsException") hnt hlocks hcell hv hcl hS trivial hS.2.2 (Nat.le_of_ble_eq_true rfl) (Nat.le_of_ble_eq_true rfl)
  have hP := zkn hP hk
  exact hw.elim

def zwX7_current : List Cond := .code yX7_current cX7_current 5 (some .int) :: (([.methodLink RX7 143 yX7_requireRobot, .instanceMethod yX7_requireRobot, .selects RX7 yX7_requireRobot yX7_requireRobot, .initialized RX7] : List Cond) ++ (zwX7_requireRobot))
theorem zgX7_current : zwX7_current.all goodWord = true := zgo rfl (zga (by decide +kernel) (zgX7_requireRobot))
set_option maxHeartbeats 4000000 in
set_option maxRecDepth 100000 in
theorem c_X7_current (l : Launch) (hst : l.stackTraces = false) (dC : Nat → ClassId) (dI : Nat → Nat → Nat) (sz : Nat) (x : Nat) (ax : Nat → Nat) (kx : Nat → ClassId) (a : Int32) (b : Int32) : vx_Met l yX7_current zwX7_current ({ frames := 7, cells := 1, slots := 6, locals := 104 }) (xPc dC dI sz x ax kx [.ref x, .int a, .int b]) (va_Qi (fun (r : Int32) (_ : Unit) => False) (fun _ _ => True) (fun q : Nat => sz ≤ q)) (zX (True) "java/lang/IndexOutOfBoundsException" (fun q : Nat => sz ≤ q)) 1 6 (fun q : Nat => sz ≤ q) := by
  refine vx_ofW (cc := cX7_current) (maxL := 5) (ret := (some .int)) (by decide) rfl ?_
  intro p e s m args below meth c s₁ B hml hnt hv
  obtain ⟨rfl, hsz, hP, hK, hE⟩ := hv
  have hx := B.exec
  have hb := B.bytes
  have hr := B.returns
  have hts := atoms_spec (ws := zwX7_current) B.pre
  have hown : s.vm.findClass RX7 = some m.cls := findClass_of_methodNamed B.named
  have hlocks := B.notSynchronized
  subst hsz
  have hA : ∀ q : Nat, s.heap.size ≤ q → s.heap.size ≤ q := fun _ h => h
  have hS : va_S (fun q : Nat => s.heap.size ≤ q) s.heap s.heap [] := va_S.rf
  have hl := lv_entry ([.ref x, .int a, .int b]) (n := 5) (Nat.le_of_ble_eq_true rfl)
  rw [lg_entry_eq]
  generalize (lg_sl ([.ref x, .int a, .int b]) ++ List.replicate (5 - (lg_sl ([.ref x, .int a, .int b])).length) Slot.unset).toArray = ls at hl ⊢
  have hl : lv_has ls 5 [(0, .ref x), (1, .int a), (2, .int b)] := hl
  refine lv_aload_n hx hb dX7_current_0 rfl (lv_at hl 0 rfl) ?_
  refine lv_iload_n hx hb dX7_current_1 rfl (lv_at hl 1 rfl) ?_
  refine vx_calli (vx_runV (As := [.int a]) (rest := []) ⟨hx, hb, hml, hown, hts⟩ (c_X7_requireRobot l hst dC dI s.heap.size x ax kx a) (cwV 1 hts (goodIn_app (goodIn_of _ (by decide +kernel)) (goodIn_sub ((fun w h => List.mem_cons_of_mem _ (List.mem_append_right _ (h)))) zgX7_requireRobot)) rfl rfl rfl (by decide +kernel) ⟨Nat.le_of_ble_eq_true rfl, Nat.le_of_ble_eq_true rfl⟩) ⟨xPc_blind, va_recv hK hP (ci := 10) (q0 := 0) rfl rfl, xPc_pass hP hK hE hS (fun q h => hA q (Nat.le_trans hS.1 h))⟩ rfl rfl hl.1 rfl (lv_room (Nat.le_of_ble_eq_true rfl)) dX7_current_2 ⟨Nat.le_of_ble_eq_true rfl, Nat.le_of_ble_eq_true rfl⟩) hS (fun q _ h => hA q (Nat.le_trans hS.1 h)) (fun q h => hA q (Nat.le_trans hS.1 h)) (fun q _ h => hA q (Nat.le_trans hS.1 h)) (fun E ce q9 _ t H locs ht hvm hpx hBX hz hk hS hcell hv hcl => ?_) (fun r_1 u t H locs ht hvm hw hB hz hk hS => ?_)
  · have hBX : E = "java/lang/IndexOutOfBoundsException" := hBX
    subst hBX
    exact zOut (px := True) (E := "java/lang/IndexOutOfBoundsException") hnt hlocks hcell hv hcl hS trivial hS.2.2 (Nat.le_of_ble_eq_true rfl) (Nat.le_of_ble_eq_true rfl)
  have hP := zkn hP hk
  exact hw.elim

def zwX7_step : List Cond := .code yX7_step cX7_step 6 (some .int) :: (([.methodLink RX7 194 yX7_requireProgram, .instanceMethod yX7_requireProgram, .selects RX7 yX7_requireProgram yX7_requireProgram, .initialized RX7] : List Cond) ++ (zwX7_requireProgram))
theorem zgX7_step : zwX7_step.all goodWord = true := zgo rfl (zga (by decide +kernel) (zgX7_requireProgram))
set_option maxHeartbeats 4000000 in
set_option maxRecDepth 100000 in
theorem c_X7_step (l : Launch) (hst : l.stackTraces = false) (dC : Nat → ClassId) (dI : Nat → Nat → Nat) (sz : Nat) (x : Nat) (ax : Nat → Nat) (kx : Nat → ClassId) (a : Int32) (b : Int32) (d : Int32) (f : Int32) : vx_Met l yX7_step zwX7_step ({ frames := 8, cells := 1, slots := 6, locals := 127 }) (xPc dC dI sz x ax kx [.ref x, .int a, .int b, .int d, .int f]) (va_Qi (fun (r : Int32) (_ : Unit) => False) (fun _ _ => True) (fun q : Nat => sz ≤ q)) (zX (True) "java/lang/IndexOutOfBoundsException" (fun q : Nat => sz ≤ q)) 1 6 (fun q : Nat => sz ≤ q) := by
  refine vx_ofW (cc := cX7_step) (maxL := 6) (ret := (some .int)) (by decide) rfl ?_
  intro p e s m args below meth c s₁ B hml hnt hv
  obtain ⟨rfl, hsz, hP, hK, hE⟩ := hv
  have hx := B.exec
  have hb := B.bytes
  have hr := B.returns
  have hts := atoms_spec (ws := zwX7_step) B.pre
  have hown : s.vm.findClass RX7 = some m.cls := findClass_of_methodNamed B.named
  have hlocks := B.notSynchronized
  subst hsz
  have hA : ∀ q : Nat, s.heap.size ≤ q → s.heap.size ≤ q := fun _ h => h
  have hS : va_S (fun q : Nat => s.heap.size ≤ q) s.heap s.heap [] := va_S.rf
  have hl := lv_entry ([.ref x, .int a, .int b, .int d, .int f]) (n := 6) (Nat.le_of_ble_eq_true rfl)
  rw [lg_entry_eq]
  generalize (lg_sl ([.ref x, .int a, .int b, .int d, .int f]) ++ List.replicate (6 - (lg_sl ([.ref x, .int a, .int b, .int d, .int f])).length) Slot.unset).toArray = ls at hl ⊢
  have hl : lv_has ls 6 [(0, .ref x), (1, .int a), (2, .int b), (3, .int d), (4, .int f)] := hl
  refine lv_aload_n hx hb dX7_step_0 rfl (lv_at hl 0 rfl) ?_
  refine lv_iload_n hx hb dX7_step_1 rfl (lv_at hl 1 rfl) ?_
  refine lv_iload_n hx hb dX7_step_2 rfl (lv_at hl 2 rfl) ?_
  refine vx_calli (vx_runV (As := [.int a, .int b]) (rest := []) ⟨hx, hb, hml, hown, hts⟩ (c_X7_requireProgram l hst dC dI s.heap.size x ax kx a b) (cwV 2 hts (goodIn_app (goodIn_of _ (by decide +kernel)) (goodIn_sub ((fun w h => List.mem_cons_of_mem _ (List.mem_append_right _ (h)))) zgX7_requireProgram)) rfl rfl rfl (by decide +kernel) ⟨Nat.le_of_ble_eq_true rfl, Nat.le_of_ble_eq_true rfl⟩) ⟨xPc_blind, va_recv hK hP (ci := 10) (q0 := 0) rfl rfl, xPc_pass hP hK hE hS (fun q h => hA q (Nat.le_trans hS.1 h))⟩ rfl rfl hl.1 rfl (lv_room (Nat.le_of_ble_eq_true rfl)) dX7_step_3 ⟨Nat.le_of_ble_eq_true rfl, Nat.le_of_ble_eq_true rfl⟩) hS (fun q _ h => hA q (Nat.le_trans hS.1 h)) (fun q h => hA q (Nat.le_trans hS.1 h)) (fun q _ h => hA q (Nat.le_trans hS.1 h)) (fun E ce q9 _ t H locs ht hvm hpx hBX hz hk hS hcell hv hcl => ?_) (fun r_1 u t H locs ht hvm hw hB hz hk hS => ?_)
  · have hBX : E = "java/lang/IndexOutOfBoundsException" := hBX
    subst hBX
    exact zOut (px := True) (E := "java/lang/IndexOutOfBoundsException") hnt hlocks hcell hv hcl hS trivial hS.2.2 (Nat.le_of_ble_eq_true rfl) (Nat.le_of_ble_eq_true rfl)
  have hP := zkn hP hk
  exact hw.elim

def zwX7_erase : List Cond := .code yX7_erase cX7_erase 5 (some .int) :: (([.methodLink RX7 194 yX7_requireProgram, .instanceMethod yX7_requireProgram, .selects RX7 yX7_requireProgram yX7_requireProgram, .initialized RX7] : List Cond) ++ (zwX7_requireProgram))
theorem zgX7_erase : zwX7_erase.all goodWord = true := zgo rfl (zga (by decide +kernel) (zgX7_requireProgram))
set_option maxHeartbeats 4000000 in
set_option maxRecDepth 100000 in
theorem c_X7_erase (l : Launch) (hst : l.stackTraces = false) (dC : Nat → ClassId) (dI : Nat → Nat → Nat) (sz : Nat) (x : Nat) (ax : Nat → Nat) (kx : Nat → ClassId) (a : Int32) (b : Int32) : vx_Met l yX7_erase zwX7_erase ({ frames := 8, cells := 1, slots := 6, locals := 127 }) (xPc dC dI sz x ax kx [.ref x, .int a, .int b]) (va_Qi (fun (r : Int32) (_ : Unit) => False) (fun _ _ => True) (fun q : Nat => sz ≤ q)) (zX (True) "java/lang/IndexOutOfBoundsException" (fun q : Nat => sz ≤ q)) 1 6 (fun q : Nat => sz ≤ q) := by
  refine vx_ofW (cc := cX7_erase) (maxL := 5) (ret := (some .int)) (by decide) rfl ?_
  intro p e s m args below meth c s₁ B hml hnt hv
  obtain ⟨rfl, hsz, hP, hK, hE⟩ := hv
  have hx := B.exec
  have hb := B.bytes
  have hr := B.returns
  have hts := atoms_spec (ws := zwX7_erase) B.pre
  have hown : s.vm.findClass RX7 = some m.cls := findClass_of_methodNamed B.named
  have hlocks := B.notSynchronized
  subst hsz
  have hA : ∀ q : Nat, s.heap.size ≤ q → s.heap.size ≤ q := fun _ h => h
  have hS : va_S (fun q : Nat => s.heap.size ≤ q) s.heap s.heap [] := va_S.rf
  have hl := lv_entry ([.ref x, .int a, .int b]) (n := 5) (Nat.le_of_ble_eq_true rfl)
  rw [lg_entry_eq]
  generalize (lg_sl ([.ref x, .int a, .int b]) ++ List.replicate (5 - (lg_sl ([.ref x, .int a, .int b])).length) Slot.unset).toArray = ls at hl ⊢
  have hl : lv_has ls 5 [(0, .ref x), (1, .int a), (2, .int b)] := hl
  refine lv_aload_n hx hb dX7_erase_0 rfl (lv_at hl 0 rfl) ?_
  refine lv_iload_n hx hb dX7_erase_1 rfl (lv_at hl 1 rfl) ?_
  refine lv_iload_n hx hb dX7_erase_2 rfl (lv_at hl 2 rfl) ?_
  refine vx_calli (vx_runV (As := [.int a, .int b]) (rest := []) ⟨hx, hb, hml, hown, hts⟩ (c_X7_requireProgram l hst dC dI s.heap.size x ax kx a b) (cwV 2 hts (goodIn_app (goodIn_of _ (by decide +kernel)) (goodIn_sub ((fun w h => List.mem_cons_of_mem _ (List.mem_append_right _ (h)))) zgX7_requireProgram)) rfl rfl rfl (by decide +kernel) ⟨Nat.le_of_ble_eq_true rfl, Nat.le_of_ble_eq_true rfl⟩) ⟨xPc_blind, va_recv hK hP (ci := 10) (q0 := 0) rfl rfl, xPc_pass hP hK hE hS (fun q h => hA q (Nat.le_trans hS.1 h))⟩ rfl rfl hl.1 rfl (lv_room (Nat.le_of_ble_eq_true rfl)) dX7_erase_3 ⟨Nat.le_of_ble_eq_true rfl, Nat.le_of_ble_eq_true rfl⟩) hS (fun q _ h => hA q (Nat.le_trans hS.1 h)) (fun q h => hA q (Nat.le_trans hS.1 h)) (fun q _ h => hA q (Nat.le_trans hS.1 h)) (fun E ce q9 _ t H locs ht hvm hpx hBX hz hk hS hcell hv hcl => ?_) (fun r_1 u t H locs ht hvm hw hB hz hk hS => ?_)
  · have hBX : E = "java/lang/IndexOutOfBoundsException" := hBX
    subst hBX
    exact zOut (px := True) (E := "java/lang/IndexOutOfBoundsException") hnt hlocks hcell hv hcl hS trivial hS.2.2 (Nat.le_of_ble_eq_true rfl) (Nat.le_of_ble_eq_true rfl)
  have hP := zkn hP hk
  exact hw.elim

def zwX7_steps : List Cond := .code yX7_steps cX7_steps 3 (some .int) :: (([.methodLink RX7 194 yX7_requireProgram, .instanceMethod yX7_requireProgram, .selects RX7 yX7_requireProgram yX7_requireProgram, .initialized RX7] : List Cond) ++ (zwX7_requireProgram))
theorem zgX7_steps : zwX7_steps.all goodWord = true := zgo rfl (zga (by decide +kernel) (zgX7_requireProgram))
set_option maxHeartbeats 4000000 in
set_option maxRecDepth 100000 in
theorem c_X7_steps (l : Launch) (hst : l.stackTraces = false) (dC : Nat → ClassId) (dI : Nat → Nat → Nat) (sz : Nat) (x : Nat) (ax : Nat → Nat) (kx : Nat → ClassId) (a : Int32) (b : Int32) : vx_Met l yX7_steps zwX7_steps ({ frames := 8, cells := 1, slots := 6, locals := 127 }) (xPc dC dI sz x ax kx [.ref x, .int a, .int b]) (va_Qi (fun (r : Int32) (_ : Unit) => False) (fun _ _ => True) (fun q : Nat => sz ≤ q)) (zX (True) "java/lang/IndexOutOfBoundsException" (fun q : Nat => sz ≤ q)) 1 6 (fun q : Nat => sz ≤ q) := by
  refine vx_ofW (cc := cX7_steps) (maxL := 3) (ret := (some .int)) (by decide) rfl ?_
  intro p e s m args below meth c s₁ B hml hnt hv
  obtain ⟨rfl, hsz, hP, hK, hE⟩ := hv
  have hx := B.exec
  have hb := B.bytes
  have hr := B.returns
  have hts := atoms_spec (ws := zwX7_steps) B.pre
  have hown : s.vm.findClass RX7 = some m.cls := findClass_of_methodNamed B.named
  have hlocks := B.notSynchronized
  subst hsz
  have hA : ∀ q : Nat, s.heap.size ≤ q → s.heap.size ≤ q := fun _ h => h
  have hS : va_S (fun q : Nat => s.heap.size ≤ q) s.heap s.heap [] := va_S.rf
  have hl := lv_entry ([.ref x, .int a, .int b]) (n := 3) (Nat.le_of_ble_eq_true rfl)
  rw [lg_entry_eq]
  generalize (lg_sl ([.ref x, .int a, .int b]) ++ List.replicate (3 - (lg_sl ([.ref x, .int a, .int b])).length) Slot.unset).toArray = ls at hl ⊢
  have hl : lv_has ls 3 [(0, .ref x), (1, .int a), (2, .int b)] := hl
  refine lv_aload_n hx hb dX7_steps_0 rfl (lv_at hl 0 rfl) ?_
  refine lv_iload_n hx hb dX7_steps_1 rfl (lv_at hl 1 rfl) ?_
  refine lv_iload_n hx hb dX7_steps_2 rfl (lv_at hl 2 rfl) ?_
  refine vx_calli (vx_runV (As := [.int a, .int b]) (rest := []) ⟨hx, hb, hml, hown, hts⟩ (c_X7_requireProgram l hst dC dI s.heap.size x ax kx a b) (cwV 2 hts (goodIn_app (goodIn_of _ (by decide +kernel)) (goodIn_sub ((fun w h => List.mem_cons_of_mem _ (List.mem_append_right _ (h)))) zgX7_requireProgram)) rfl rfl rfl (by decide +kernel) ⟨Nat.le_of_ble_eq_true rfl, Nat.le_of_ble_eq_true rfl⟩) ⟨xPc_blind, va_recv hK hP (ci := 10) (q0 := 0) rfl rfl, xPc_pass hP hK hE hS (fun q h => hA q (Nat.le_trans hS.1 h))⟩ rfl rfl hl.1 rfl (lv_room (Nat.le_of_ble_eq_true rfl)) dX7_steps_3 ⟨Nat.le_of_ble_eq_true rfl, Nat.le_of_ble_eq_true rfl⟩) hS (fun q _ h => hA q (Nat.le_trans hS.1 h)) (fun q h => hA q (Nat.le_trans hS.1 h)) (fun q _ h => hA q (Nat.le_trans hS.1 h)) (fun E ce q9 _ t H locs ht hvm hpx hBX hz hk hS hcell hv hcl => ?_) (fun r_1 u t H locs ht hvm hw hB hz hk hS => ?_)
  · have hBX : E = "java/lang/IndexOutOfBoundsException" := hBX
    subst hBX
    exact zOut (px := True) (E := "java/lang/IndexOutOfBoundsException") hnt hlocks hcell hv hcl hS trivial hS.2.2 (Nat.le_of_ble_eq_true rfl) (Nat.le_of_ble_eq_true rfl)
  have hP := zkn hP hk
  exact hw.elim

def zwX7_welds : List Cond := .code yX7_welds cX7_welds 6 (some .int) :: (([.methodLink RX7 194 yX7_requireProgram, .instanceMethod yX7_requireProgram, .selects RX7 yX7_requireProgram yX7_requireProgram, .initialized RX7] : List Cond) ++ (zwX7_requireProgram))
theorem zgX7_welds : zwX7_welds.all goodWord = true := zgo rfl (zga (by decide +kernel) (zgX7_requireProgram))
set_option maxHeartbeats 4000000 in
set_option maxRecDepth 100000 in
theorem c_X7_welds (l : Launch) (hst : l.stackTraces = false) (dC : Nat → ClassId) (dI : Nat → Nat → Nat) (sz : Nat) (x : Nat) (ax : Nat → Nat) (kx : Nat → ClassId) (a : Int32) (b : Int32) : vx_Met l yX7_welds zwX7_welds ({ frames := 8, cells := 1, slots := 6, locals := 127 }) (xPc dC dI sz x ax kx [.ref x, .int a, .int b]) (va_Qi (fun (r : Int32) (_ : Unit) => False) (fun _ _ => True) (fun q : Nat => sz ≤ q)) (zX (True) "java/lang/IndexOutOfBoundsException" (fun q : Nat => sz ≤ q)) 1 6 (fun q : Nat => sz ≤ q) := by
  refine vx_ofW (cc := cX7_welds) (maxL := 6) (ret := (some .int)) (by decide) rfl ?_
  intro p e s m args below meth c s₁ B hml hnt hv
  obtain ⟨rfl, hsz, hP, hK, hE⟩ := hv
  have hx := B.exec
  have hb := B.bytes
  have hr := B.returns
  have hts := atoms_spec (ws := zwX7_welds) B.pre
  have hown : s.vm.findClass RX7 = some m.cls := findClass_of_methodNamed B.named
  have hlocks := B.notSynchronized
  subst hsz
  have hA : ∀ q : Nat, s.heap.size ≤ q → s.heap.size ≤ q := fun _ h => h
  have hS : va_S (fun q : Nat => s.heap.size ≤ q) s.heap s.heap [] := va_S.rf
  have hl := lv_entry ([.ref x, .int a, .int b]) (n := 6) (Nat.le_of_ble_eq_true rfl)
  rw [lg_entry_eq]
  generalize (lg_sl ([.ref x, .int a, .int b]) ++ List.replicate (6 - (lg_sl ([.ref x, .int a, .int b])).length) Slot.unset).toArray = ls at hl ⊢
  have hl : lv_has ls 6 [(0, .ref x), (1, .int a), (2, .int b)] := hl
  refine lv_aload_n hx hb dX7_welds_0 rfl (lv_at hl 0 rfl) ?_
  refine lv_iload_n hx hb dX7_welds_1 rfl (lv_at hl 1 rfl) ?_
  refine lv_iload_n hx hb dX7_welds_2 rfl (lv_at hl 2 rfl) ?_
  refine vx_calli (vx_runV (As := [.int a, .int b]) (rest := []) ⟨hx, hb, hml, hown, hts⟩ (c_X7_requireProgram l hst dC dI s.heap.size x ax kx a b) (cwV 2 hts (goodIn_app (goodIn_of _ (by decide +kernel)) (goodIn_sub ((fun w h => List.mem_cons_of_mem _ (List.mem_append_right _ (h)))) zgX7_requireProgram)) rfl rfl rfl (by decide +kernel) ⟨Nat.le_of_ble_eq_true rfl, Nat.le_of_ble_eq_true rfl⟩) ⟨xPc_blind, va_recv hK hP (ci := 10) (q0 := 0) rfl rfl, xPc_pass hP hK hE hS (fun q h => hA q (Nat.le_trans hS.1 h))⟩ rfl rfl hl.1 rfl (lv_room (Nat.le_of_ble_eq_true rfl)) dX7_welds_3 ⟨Nat.le_of_ble_eq_true rfl, Nat.le_of_ble_eq_true rfl⟩) hS (fun q _ h => hA q (Nat.le_trans hS.1 h)) (fun q h => hA q (Nat.le_trans hS.1 h)) (fun q _ h => hA q (Nat.le_trans hS.1 h)) (fun E ce q9 _ t H locs ht hvm hpx hBX hz hk hS hcell hv hcl => ?_) (fun r_1 u t H locs ht hvm hw hB hz hk hS => ?_)
  · have hBX : E = "java/lang/IndexOutOfBoundsException" := hBX
    subst hBX
    exact zOut (px := True) (E := "java/lang/IndexOutOfBoundsException") hnt hlocks hcell hv hcl hS trivial hS.2.2 (Nat.le_of_ble_eq_true rfl) (Nat.le_of_ble_eq_true rfl)
  have hP := zkn hP hk
  exact hw.elim

def zwX7_proof : List Cond := .code yX7_proof cX7_proof 3 (some .char) :: (([.methodLink RX7 224 yX7_explore, .instanceMethod yX7_explore, .selects RX7 yX7_explore yX7_explore, .initialized RX7] : List Cond) ++ (zwX7_explore))
theorem zgX7_proof : zwX7_proof.all goodWord = true := zgo rfl (zga (by decide +kernel) (zgX7_explore))
set_option maxHeartbeats 4000000 in
set_option maxRecDepth 100000 in
theorem c_X7_proof (l : Launch) (hst : l.stackTraces = false) (dC : Nat → ClassId) (dI : Nat → Nat → Nat) (sz : Nat) (x : Nat) (ax : Nat → Nat) (kx : Nat → ClassId) (a : Int32) (b : Int32) : vx_Met l yX7_proof zwX7_proof ({ frames := 8, cells := 1, slots := 6, locals := 127 }) (xPc dC dI sz x ax kx [.ref x, .int a, .int b]) (va_Qi (fun (r : Int32) (_ : Unit) => False) (fun _ _ => True) (fun q : Nat => sz ≤ q)) (zX (True) "java/lang/IndexOutOfBoundsException" (fun q : Nat => sz ≤ q)) 1 6 (fun q : Nat => sz ≤ q) := by
  refine vx_ofW (cc := cX7_proof) (maxL := 3) (ret := (some .char)) (by decide) rfl ?_
  intro p e s m args below meth c s₁ B hml hnt hv
  obtain ⟨rfl, hsz, hP, hK, hE⟩ := hv
  have hx := B.exec
  have hb := B.bytes
  have hr := B.returns
  have hts := atoms_spec (ws := zwX7_proof) B.pre
  have hown : s.vm.findClass RX7 = some m.cls := findClass_of_methodNamed B.named
  have hlocks := B.notSynchronized
  subst hsz
  have hA : ∀ q : Nat, s.heap.size ≤ q → s.heap.size ≤ q := fun _ h => h
  have hS : va_S (fun q : Nat => s.heap.size ≤ q) s.heap s.heap [] := va_S.rf
  have hl := lv_entry ([.ref x, .int a, .int b]) (n := 3) (Nat.le_of_ble_eq_true rfl)
  rw [lg_entry_eq]
  generalize (lg_sl ([.ref x, .int a, .int b]) ++ List.replicate (3 - (lg_sl ([.ref x, .int a, .int b])).length) Slot.unset).toArray = ls at hl ⊢
  have hl : lv_has ls 3 [(0, .ref x), (1, .int a), (2, .int b)] := hl
  refine lv_aload_n hx hb dX7_proof_0 rfl (lv_at hl 0 rfl) ?_
  refine lv_iload_n hx hb dX7_proof_1 rfl (lv_at hl 1 rfl) ?_
  refine lv_iload_n hx hb dX7_proof_2 rfl (lv_at hl 2 rfl) ?_
  refine vx_calli (vx_runV (As := [.int a, .int b]) (rest := []) ⟨hx, hb, hml, hown, hts⟩ (c_X7_explore l hst dC dI s.heap.size x ax kx a b) (cwV 2 hts (goodIn_app (goodIn_of _ (by decide +kernel)) (goodIn_sub ((fun w h => List.mem_cons_of_mem _ (List.mem_append_right _ (h)))) zgX7_explore)) rfl rfl rfl (by decide +kernel) ⟨Nat.le_of_ble_eq_true rfl, Nat.le_of_ble_eq_true rfl⟩) ⟨xPc_blind, va_recv hK hP (ci := 10) (q0 := 0) rfl rfl, xPc_pass hP hK hE hS (fun q h => hA q (Nat.le_trans hS.1 h))⟩ rfl rfl hl.1 rfl (lv_room (Nat.le_of_ble_eq_true rfl)) dX7_proof_3 ⟨Nat.le_of_ble_eq_true rfl, Nat.le_of_ble_eq_true rfl⟩) hS (fun q _ h => hA q (Nat.le_trans hS.1 h)) (fun q h => hA q (Nat.le_trans hS.1 h)) (fun q _ h => hA q (Nat.le_trans hS.1 h)) (fun E ce q9 _ t H locs ht hvm hpx hBX hz hk hS hcell hv hcl => ?_) (fun r_1 u t H locs ht hvm hw hB hz hk hS => ?_)
  · have hBX : E = "java/lang/IndexOutOfBoundsException" := hBX
    subst hBX
    exact zOut (px := True) (E := "java/lang/IndexOutOfBoundsException") hnt hlocks hcell hv hcl hS trivial hS.2.2 (Nat.le_of_ble_eq_true rfl) (Nat.le_of_ble_eq_true rfl)
  have hP := zkn hP hk
  exact hw.elim

def zwX7_states : List Cond := .code yX7_states cX7_states 3 (some .int) :: (([.methodLink RX7 224 yX7_explore, .instanceMethod yX7_explore, .selects RX7 yX7_explore yX7_explore, .initialized RX7] : List Cond) ++ (zwX7_explore))
theorem zgX7_states : zwX7_states.all goodWord = true := zgo rfl (zga (by decide +kernel) (zgX7_explore))
set_option maxHeartbeats 4000000 in
set_option maxRecDepth 100000 in
theorem c_X7_states (l : Launch) (hst : l.stackTraces = false) (dC : Nat → ClassId) (dI : Nat → Nat → Nat) (sz : Nat) (x : Nat) (ax : Nat → Nat) (kx : Nat → ClassId) (a : Int32) (b : Int32) : vx_Met l yX7_states zwX7_states ({ frames := 8, cells := 1, slots := 6, locals := 127 }) (xPc dC dI sz x ax kx [.ref x, .int a, .int b]) (va_Qi (fun (r : Int32) (_ : Unit) => False) (fun _ _ => True) (fun q : Nat => sz ≤ q)) (zX (True) "java/lang/IndexOutOfBoundsException" (fun q : Nat => sz ≤ q)) 1 6 (fun q : Nat => sz ≤ q) := by
  refine vx_ofW (cc := cX7_states) (maxL := 3) (ret := (some .int)) (by decide) rfl ?_
  intro p e s m args below meth c s₁ B hml hnt hv
  obtain ⟨rfl, hsz, hP, hK, hE⟩ := hv
  have hx := B.exec
  have hb := B.bytes
  have hr := B.returns
  have hts := atoms_spec (ws := zwX7_states) B.pre
  have hown : s.vm.findClass RX7 = some m.cls := findClass_of_methodNamed B.named
  have hlocks := B.notSynchronized
  subst hsz
  have hA : ∀ q : Nat, s.heap.size ≤ q → s.heap.size ≤ q := fun _ h => h
  have hS : va_S (fun q : Nat => s.heap.size ≤ q) s.heap s.heap [] := va_S.rf
  have hl := lv_entry ([.ref x, .int a, .int b]) (n := 3) (Nat.le_of_ble_eq_true rfl)
  rw [lg_entry_eq]
  generalize (lg_sl ([.ref x, .int a, .int b]) ++ List.replicate (3 - (lg_sl ([.ref x, .int a, .int b])).length) Slot.unset).toArray = ls at hl ⊢
  have hl : lv_has ls 3 [(0, .ref x), (1, .int a), (2, .int b)] := hl
  refine lv_aload_n hx hb dX7_states_0 rfl (lv_at hl 0 rfl) ?_
  refine lv_iload_n hx hb dX7_states_1 rfl (lv_at hl 1 rfl) ?_
  refine lv_iload_n hx hb dX7_states_2 rfl (lv_at hl 2 rfl) ?_
  refine vx_calli (vx_runV (As := [.int a, .int b]) (rest := []) ⟨hx, hb, hml, hown, hts⟩ (c_X7_explore l hst dC dI s.heap.size x ax kx a b) (cwV 2 hts (goodIn_app (goodIn_of _ (by decide +kernel)) (goodIn_sub ((fun w h => List.mem_cons_of_mem _ (List.mem_append_right _ (h)))) zgX7_explore)) rfl rfl rfl (by decide +kernel) ⟨Nat.le_of_ble_eq_true rfl, Nat.le_of_ble_eq_true rfl⟩) ⟨xPc_blind, va_recv hK hP (ci := 10) (q0 := 0) rfl rfl, xPc_pass hP hK hE hS (fun q h => hA q (Nat.le_trans hS.1 h))⟩ rfl rfl hl.1 rfl (lv_room (Nat.le_of_ble_eq_true rfl)) dX7_states_3 ⟨Nat.le_of_ble_eq_true rfl, Nat.le_of_ble_eq_true rfl⟩) hS (fun q _ h => hA q (Nat.le_trans hS.1 h)) (fun q h => hA q (Nat.le_trans hS.1 h)) (fun q _ h => hA q (Nat.le_trans hS.1 h)) (fun E ce q9 _ t H locs ht hvm hpx hBX hz hk hS hcell hv hcl => ?_) (fun r_1 u t H locs ht hvm hw hB hz hk hS => ?_)
  · have hBX : E = "java/lang/IndexOutOfBoundsException" := hBX
    subst hBX
    exact zOut (px := True) (E := "java/lang/IndexOutOfBoundsException") hnt hlocks hcell hv hcl hS trivial hS.2.2 (Nat.le_of_ble_eq_true rfl) (Nat.le_of_ble_eq_true rfl)
  have hP := zkn hP hk
  exact hw.elim

def zwX7_uncovered : List Cond := .code yX7_uncovered cX7_uncovered 7 (some .int) :: (([.methodLink RX7 89 yX7_requireVariant, .static yX7_requireVariant, .initialized RX7, .fieldLink RX7 15 "Spotbeat" "spotRow" "[LSpotbeat$Spot;", .methodLink RX7 239 yX7_isUncovered, .instanceMethod yX7_isUncovered, .selects RX7 yX7_isUncovered yX7_isUncovered] : List Cond) ++ (zwX7_requireVariant ++ (wsX70 ++ (zwX7_isUncovered))))
theorem zgX7_uncovered : zwX7_uncovered.all goodWord = true := zgo rfl (zga (by decide +kernel) (zga zgX7_requireVariant (zga zgcX7 (zgX7_isUncovered))))
set_option maxHeartbeats 4000000 in
set_option maxRecDepth 100000 in
theorem c_X7_uncovered (l : Launch) (hst : l.stackTraces = false) (dC : Nat → ClassId) (dI : Nat → Nat → Nat) (sz : Nat) (x : Nat) (ax : Nat → Nat) (kx : Nat → ClassId) (v : Int32) : vx_Met l yX7_uncovered zwX7_uncovered ({ frames := 7, cells := 1, slots := 6, locals := 102 }) (xPc dC dI sz x ax kx [.ref x, .int v]) (va_Qi (fun (r : Int32) (_ : Unit) => r = 0 ∧ ¬ (v < 0 ∨ 4 ≤ v)) (fun _ _ => True) (fun q : Nat => sz ≤ q)) (zX (v < 0 ∨ 4 ≤ v) "java/lang/IndexOutOfBoundsException" (fun q : Nat => sz ≤ q)) 1 6 (fun q : Nat => sz ≤ q) := by
  refine vx_ofW (cc := cX7_uncovered) (maxL := 7) (ret := (some .int)) (by decide) rfl ?_
  intro p e s m args below meth c s₁ B hml hnt hv
  obtain ⟨rfl, hsz, hP, hK, hE⟩ := hv
  have hx := B.exec
  have hb := B.bytes
  have hr := B.returns
  have hts := atoms_spec (ws := zwX7_uncovered) B.pre
  have hown : s.vm.findClass RX7 = some m.cls := findClass_of_methodNamed B.named
  have hlocks := B.notSynchronized
  subst hsz
  have hA : ∀ q : Nat, s.heap.size ≤ q → s.heap.size ≤ q := fun _ h => h
  have hS : va_S (fun q : Nat => s.heap.size ≤ q) s.heap s.heap [] := va_S.rf
  have hl := lv_entry ([.ref x, .int v]) (n := 7) (Nat.le_of_ble_eq_true rfl)
  rw [lg_entry_eq]
  generalize (lg_sl ([.ref x, .int v]) ++ List.replicate (7 - (lg_sl ([.ref x, .int v])).length) Slot.unset).toArray = ls at hl ⊢
  have hl : lv_has ls 7 [(0, .ref x), (1, .int v)] := hl
  refine lv_iload_n hx hb dX7_uncovered_0 rfl (lv_at hl 1 rfl) ?_
  refine vx_callv (vx_runS (As := [.int v]) (rest := []) ⟨hx, hb, hml, hown, hts⟩ (c_X7_requireVariant l hst dC dI s.heap.size v) (va_cwS 1 hts (goodIn_app (goodIn_of _ (by decide +kernel)) (goodIn_sub ((fun w h => List.mem_cons_of_mem _ (List.mem_append_right _ (List.mem_append_left _ h)))) zgX7_requireVariant)) rfl rfl rfl (by decide +kernel) ⟨Nat.le_of_ble_eq_true rfl, Nat.le_of_ble_eq_true rfl⟩) ⟨ePc_blind, ePc_pass hE hS (fun q h => hA q (Nat.le_trans hS.1 h))⟩ rfl rfl hl.1 rfl (lv_room (Nat.le_of_ble_eq_true rfl)) dX7_uncovered_1 ⟨Nat.le_of_ble_eq_true rfl, Nat.le_of_ble_eq_true rfl⟩) hS (fun q _ h => hA q (Nat.le_trans hS.1 h)) (fun q h => hA q (Nat.le_trans hS.1 h)) (fun q _ h => hA q (Nat.le_trans hS.1 h)) (fun E ce q9 _ t H locs ht hvm hpx hBX hz hk hS hcell hv hcl => ?_) (fun u t H locs ht hvm hw hB hz hk hS => ?_)
  · have hBX : E = "java/lang/IndexOutOfBoundsException" := hBX
    subst hBX
    exact zOut (px := v < 0 ∨ 4 ≤ v) (E := "java/lang/IndexOutOfBoundsException") hnt hlocks hcell hv hcl hS hpx hS.2.2 (Nat.le_of_ble_eq_true rfl) (Nat.le_of_ble_eq_true rfl)
  have hP := zkn hP hk
  have w_2 : ¬ (v < 0 ∨ 4 ≤ v) := hw
  refine lv_iconst (v := 0) hx hb dX7_uncovered_4 (by decide) ?_
  refine lv_istore_n (lv' := [(2, .int 0), (0, .ref x), (1, .int v)]) hx hb dX7_uncovered_5 rfl hl (by decide) rfl (fun ls hl => ?_)
  refine lv_aload_n hx hb dX7_uncovered_6 rfl (lv_at hl 1 rfl) ?_
  refine va_get (D := (dC, dI)) (ci := 10) (v := .ref (ax 1)) (C := RX7) (T := TX7) (N := 12) hx hb hts (fun w h => List.mem_cons_of_mem _ (List.mem_append_right _ (List.mem_append_right _ (List.mem_append_left _ h)))) hown hK hP 0 rfl rfl 1 (by decide) (hts (.fieldLink RX7 15 "Spotbeat" "spotRow" "[LSpotbeat$Spot;") (by decide +kernel)) (fun _ h9 => h9) rfl dX7_uncovered_7 ?_
  refine lv_astore_n (lv' := [(3, .ref (ax 1)), (2, .int 0), (0, .ref x), (1, .int v)]) hx hb dX7_uncovered_10 rfl hl (by decide) rfl (fun ls hl => ?_)
  refine lv_aload_n hx hb dX7_uncovered_11 rfl (lv_at hl 0 rfl) ?_
  refine va_alen (v := 24) hx hb hK hP 2 1 rfl rfl rfl dX7_uncovered_12 ?_
  refine lv_istore (lv' := [(4, .int 24), (3, .ref (ax 1)), (2, .int 0), (0, .ref x), (1, .int v)]) hx hb dX7_uncovered_13 hl (by decide) rfl (fun ls hl => ?_)
  refine lv_iconst (v := 0) hx hb dX7_uncovered_15 (by decide) ?_
  refine lv_istore (lv' := [(5, .int 0), (4, .int 24), (3, .ref (ax 1)), (2, .int 0), (0, .ref x), (1, .int v)]) hx hb dX7_uncovered_16 hl (by decide) rfl (fun ls hl => ?_)
  refine zloop (N := 24) (fun i H locs ls => va_P (dC, dI) vwCl (xW x ax kx) H ∧ va_S (fun q : Nat => s.heap.size ≤ q) s.heap H locs ∧ lv_has ls 7 [(5, .int (nI i)), (4, .int 24), (3, .ref (ax 1)), (2, .int 0), (0, .ref x), (1, .int v)]) (fun i H locs ls hiN hI next0 => ?_) 0 _ _ _ (Nat.zero_le _) ⟨hP, hS, hl⟩
  obtain ⟨hP, hS, hl⟩ := hI
  refine lv_iload hx hb dX7_uncovered_18 (lv_at hl 0 rfl) ?_
  refine lv_iload hx hb dX7_uncovered_20 (lv_at hl 1 rfl) ?_
  refine lv_icmp_ge (tgt := 50) hx hb dX7_uncovered_22 (by decide) (fun c_3 => ?_) (fun c_3 => ?_)
  · refine lv_iload_n hx hb dX7_uncovered_50 rfl (lv_at hl 3 rfl) ?_
    refine W.widen (k := 1) (n := 6) (Nat.le_of_ble_eq_true rfl) (Nat.le_of_ble_eq_true rfl) ?_
    exact vx_ret (W.iret (v := 0) hx hb hr (fun t ht hW => ⟨⟨0, (), rfl, ⟨rfl, w_2⟩, trivial⟩, hS.F ht⟩) hS.2.2 dX7_uncovered_51)
  · have hlt0 : i < 24 := by
      rcases Nat.lt_or_ge i 24 with q | q
      · exact q
      · exact absurd (nI_le q (by omega)) c_3
    have next0 := next0 hlt0
    refine lv_aload_n hx hb dX7_uncovered_25 rfl (lv_at hl 2 rfl) ?_
    refine lv_iload hx hb dX7_uncovered_26 (lv_at hl 0 rfl) ?_
    refine va_aldq hx hb hK hP 2 1 rfl rfl (vp_in_nI hlt0 (by decide)) dX7_uncovered_28 ?_
    refine W.eq (g2 := F0 m 29 ls [.null]) rfl ?_
    refine lv_astoreN (lv' := [(6, .null), (5, .int (nI i)), (4, .int 24), (3, .ref (ax 1)), (2, .int 0), (0, .ref x), (1, .int v)]) hx hb dX7_uncovered_29 hl (by decide) rfl (fun ls hl => ?_)
    refine lv_aload_n hx hb dX7_uncovered_31 rfl (lv_at hl 5 rfl) ?_
    refine lv_aloadN hx hb dX7_uncovered_32 (lv_at hl 0 rfl) ?_
    refine lv_iload_n hx hb dX7_uncovered_34 rfl (lv_at hl 6 rfl) ?_
    refine va_calli (va_runV (As := [.null, .int v]) (rest := []) ⟨hx, hb, hml, hown, hts⟩ (c_X7_isUncovered l dC dI H.size x ax kx v) (cwV 2 hts (goodIn_app (goodIn_of _ (by decide +kernel)) (goodIn_sub ((fun w h => List.mem_cons_of_mem _ (List.mem_append_right _ (List.mem_append_right _ (List.mem_append_right _ (h)))))) zgX7_isUncovered)) rfl rfl rfl (by decide +kernel) ⟨Nat.le_of_ble_eq_true rfl, Nat.le_of_ble_eq_true rfl⟩) ⟨xPc_blind, va_recv hK hP (ci := 10) (q0 := 0) rfl rfl, xPc_pass hP hK hE hS (fun q h => hA q (Nat.le_trans hS.1 h))⟩ rfl rfl hl.1 rfl (lv_room (Nat.le_of_ble_eq_true rfl)) dX7_uncovered_35 ⟨Nat.le_of_ble_eq_true rfl, Nat.le_of_ble_eq_true rfl⟩) hS (fun q _ h => hA q (Nat.le_trans hS.1 h)) (fun q h => hA q (Nat.le_trans hS.1 h)) (fun r_4 u t H locs ht hvm hw hB hz hk hS => ?_)
    have hP := zkn hP hk
    have hw : r_4 = 0 := hw
    subst hw
    refine lv_if_eq (tgt := 44) hx hb dX7_uncovered_38 (by decide) (fun _ => ?_) (fun c_5 => absurd c_5 (by decide))
    refine lv_iinc (v := nI (i + 1)) (lv' := [(5, .int (nI (i + 1))), (6, .null), (4, .int 24), (3, .ref (ax 1)), (2, .int 0), (0, .ref x), (1, .int v)]) hx hb dX7_uncovered_44 hl (k := 1) rfl ((rfl : nI i + Int32.ofInt 1 = nI i + 1).trans (nI_1 i)) (by decide) rfl (fun ls hl => ?_)
    refine lv_goto (tgt := 18) hx hb dX7_uncovered_47 (by decide) ?_
    exact next0 _ _ _ ⟨hP, hS, lv_sub hl [0, 2, 3, 4, 5, 6] rfl⟩

def zwX7_deal : List Cond := .code yX7_deal cX7_deal 7 (some .int) :: (([.methodLink RX7 89 yX7_requireVariant, .static yX7_requireVariant, .initialized RX7, .fieldLink RX7 15 "Spotbeat" "spotRow" "[LSpotbeat$Spot;", .methodLink RX7 239 yX7_isUncovered, .instanceMethod yX7_isUncovered, .selects RX7 yX7_isUncovered yX7_isUncovered] : List Cond) ++ (zwX7_requireVariant ++ (wsX70 ++ (zwX7_isUncovered))))
theorem zgX7_deal : zwX7_deal.all goodWord = true := zgo rfl (zga (by decide +kernel) (zga zgX7_requireVariant (zga zgcX7 (zgX7_isUncovered))))
set_option maxHeartbeats 4000000 in
set_option maxRecDepth 100000 in
theorem c_X7_deal (l : Launch) (hst : l.stackTraces = false) (dC : Nat → ClassId) (dI : Nat → Nat → Nat) (sz : Nat) (x : Nat) (ax : Nat → Nat) (kx : Nat → ClassId) (v : Int32) : vx_Met l yX7_deal zwX7_deal ({ frames := 7, cells := 1, slots := 6, locals := 102 }) (xPc dC dI sz x ax kx [.ref x, .int v]) (va_Qi (fun (r : Int32) (_ : Unit) => r = 0 ∧ ¬ (v < 0 ∨ 4 ≤ v)) (fun _ _ => True) (fun q : Nat => sz ≤ q)) (zX (v < 0 ∨ 4 ≤ v) "java/lang/IndexOutOfBoundsException" (fun q : Nat => sz ≤ q)) 1 6 (fun q : Nat => sz ≤ q) := by
  refine vx_ofW (cc := cX7_deal) (maxL := 7) (ret := (some .int)) (by decide) rfl ?_
  intro p e s m args below meth c s₁ B hml hnt hv
  obtain ⟨rfl, hsz, hP, hK, hE⟩ := hv
  have hx := B.exec
  have hb := B.bytes
  have hr := B.returns
  have hts := atoms_spec (ws := zwX7_deal) B.pre
  have hown : s.vm.findClass RX7 = some m.cls := findClass_of_methodNamed B.named
  have hlocks := B.notSynchronized
  subst hsz
  have hA : ∀ q : Nat, s.heap.size ≤ q → s.heap.size ≤ q := fun _ h => h
  have hS : va_S (fun q : Nat => s.heap.size ≤ q) s.heap s.heap [] := va_S.rf
  have hl := lv_entry ([.ref x, .int v]) (n := 7) (Nat.le_of_ble_eq_true rfl)
  rw [lg_entry_eq]
  generalize (lg_sl ([.ref x, .int v]) ++ List.replicate (7 - (lg_sl ([.ref x, .int v])).length) Slot.unset).toArray = ls at hl ⊢
  have hl : lv_has ls 7 [(0, .ref x), (1, .int v)] := hl
  refine lv_iload_n hx hb dX7_deal_0 rfl (lv_at hl 1 rfl) ?_
  refine vx_callv (vx_runS (As := [.int v]) (rest := []) ⟨hx, hb, hml, hown, hts⟩ (c_X7_requireVariant l hst dC dI s.heap.size v) (va_cwS 1 hts (goodIn_app (goodIn_of _ (by decide +kernel)) (goodIn_sub ((fun w h => List.mem_cons_of_mem _ (List.mem_append_right _ (List.mem_append_left _ h)))) zgX7_requireVariant)) rfl rfl rfl (by decide +kernel) ⟨Nat.le_of_ble_eq_true rfl, Nat.le_of_ble_eq_true rfl⟩) ⟨ePc_blind, ePc_pass hE hS (fun q h => hA q (Nat.le_trans hS.1 h))⟩ rfl rfl hl.1 rfl (lv_room (Nat.le_of_ble_eq_true rfl)) dX7_deal_1 ⟨Nat.le_of_ble_eq_true rfl, Nat.le_of_ble_eq_true rfl⟩) hS (fun q _ h => hA q (Nat.le_trans hS.1 h)) (fun q h => hA q (Nat.le_trans hS.1 h)) (fun q _ h => hA q (Nat.le_trans hS.1 h)) (fun E ce q9 _ t H locs ht hvm hpx hBX hz hk hS hcell hv hcl => ?_) (fun u t H locs ht hvm hw hB hz hk hS => ?_)
  · have hBX : E = "java/lang/IndexOutOfBoundsException" := hBX
    subst hBX
    exact zOut (px := v < 0 ∨ 4 ≤ v) (E := "java/lang/IndexOutOfBoundsException") hnt hlocks hcell hv hcl hS hpx hS.2.2 (Nat.le_of_ble_eq_true rfl) (Nat.le_of_ble_eq_true rfl)
  have hP := zkn hP hk
  have w_2 : ¬ (v < 0 ∨ 4 ≤ v) := hw
  refine lv_iconst (v := 0) hx hb dX7_deal_4 (by decide) ?_
  refine lv_istore_n (lv' := [(2, .int 0), (0, .ref x), (1, .int v)]) hx hb dX7_deal_5 rfl hl (by decide) rfl (fun ls hl => ?_)
  refine lv_aload_n hx hb dX7_deal_6 rfl (lv_at hl 1 rfl) ?_
  refine va_get (D := (dC, dI)) (ci := 10) (v := .ref (ax 1)) (C := RX7) (T := TX7) (N := 12) hx hb hts (fun w h => List.mem_cons_of_mem _ (List.mem_append_right _ (List.mem_append_right _ (List.mem_append_left _ h)))) hown hK hP 0 rfl rfl 1 (by decide) (hts (.fieldLink RX7 15 "Spotbeat" "spotRow" "[LSpotbeat$Spot;") (by decide +kernel)) (fun _ h9 => h9) rfl dX7_deal_7 ?_
  refine lv_astore_n (lv' := [(3, .ref (ax 1)), (2, .int 0), (0, .ref x), (1, .int v)]) hx hb dX7_deal_10 rfl hl (by decide) rfl (fun ls hl => ?_)
  refine lv_aload_n hx hb dX7_deal_11 rfl (lv_at hl 0 rfl) ?_
  refine va_alen (v := 24) hx hb hK hP 2 1 rfl rfl rfl dX7_deal_12 ?_
  refine lv_istore (lv' := [(4, .int 24), (3, .ref (ax 1)), (2, .int 0), (0, .ref x), (1, .int v)]) hx hb dX7_deal_13 hl (by decide) rfl (fun ls hl => ?_)
  refine lv_iconst (v := 0) hx hb dX7_deal_15 (by decide) ?_
  refine lv_istore (lv' := [(5, .int 0), (4, .int 24), (3, .ref (ax 1)), (2, .int 0), (0, .ref x), (1, .int v)]) hx hb dX7_deal_16 hl (by decide) rfl (fun ls hl => ?_)
  refine zloop (N := 24) (fun i H locs ls => va_P (dC, dI) vwCl (xW x ax kx) H ∧ va_S (fun q : Nat => s.heap.size ≤ q) s.heap H locs ∧ lv_has ls 7 [(5, .int (nI i)), (4, .int 24), (3, .ref (ax 1)), (2, .int 0), (0, .ref x), (1, .int v)]) (fun i H locs ls hiN hI next0 => ?_) 0 _ _ _ (Nat.zero_le _) ⟨hP, hS, hl⟩
  obtain ⟨hP, hS, hl⟩ := hI
  refine lv_iload hx hb dX7_deal_18 (lv_at hl 0 rfl) ?_
  refine lv_iload hx hb dX7_deal_20 (lv_at hl 1 rfl) ?_
  refine lv_icmp_ge (tgt := 60) hx hb dX7_deal_22 (by decide) (fun c_3 => ?_) (fun c_3 => ?_)
  · refine lv_iload_n hx hb dX7_deal_60 rfl (lv_at hl 3 rfl) ?_
    refine W.widen (k := 1) (n := 6) (Nat.le_of_ble_eq_true rfl) (Nat.le_of_ble_eq_true rfl) ?_
    exact vx_ret (W.iret (v := 0) hx hb hr (fun t ht hW => ⟨⟨0, (), rfl, ⟨rfl, w_2⟩, trivial⟩, hS.F ht⟩) hS.2.2 dX7_deal_61)
  · have hlt0 : i < 24 := by
      rcases Nat.lt_or_ge i 24 with q | q
      · exact q
      · exact absurd (nI_le q (by omega)) c_3
    have next0 := next0 hlt0
    refine lv_aload_n hx hb dX7_deal_25 rfl (lv_at hl 2 rfl) ?_
    refine lv_iload hx hb dX7_deal_26 (lv_at hl 0 rfl) ?_
    refine va_aldq hx hb hK hP 2 1 rfl rfl (vp_in_nI hlt0 (by decide)) dX7_deal_28 ?_
    refine W.eq (g2 := F0 m 29 ls [.null]) rfl ?_
    refine lv_astoreN (lv' := [(6, .null), (5, .int (nI i)), (4, .int 24), (3, .ref (ax 1)), (2, .int 0), (0, .ref x), (1, .int v)]) hx hb dX7_deal_29 hl (by decide) rfl (fun ls hl => ?_)
    refine lv_aload_n hx hb dX7_deal_31 rfl (lv_at hl 5 rfl) ?_
    refine lv_aloadN hx hb dX7_deal_32 (lv_at hl 0 rfl) ?_
    refine lv_iload_n hx hb dX7_deal_34 rfl (lv_at hl 6 rfl) ?_
    refine va_calli (va_runV (As := [.null, .int v]) (rest := []) ⟨hx, hb, hml, hown, hts⟩ (c_X7_isUncovered l dC dI H.size x ax kx v) (cwV 2 hts (goodIn_app (goodIn_of _ (by decide +kernel)) (goodIn_sub ((fun w h => List.mem_cons_of_mem _ (List.mem_append_right _ (List.mem_append_right _ (List.mem_append_right _ (h)))))) zgX7_isUncovered)) rfl rfl rfl (by decide +kernel) ⟨Nat.le_of_ble_eq_true rfl, Nat.le_of_ble_eq_true rfl⟩) ⟨xPc_blind, va_recv hK hP (ci := 10) (q0 := 0) rfl rfl, xPc_pass hP hK hE hS (fun q h => hA q (Nat.le_trans hS.1 h))⟩ rfl rfl hl.1 rfl (lv_room (Nat.le_of_ble_eq_true rfl)) dX7_deal_35 ⟨Nat.le_of_ble_eq_true rfl, Nat.le_of_ble_eq_true rfl⟩) hS (fun q _ h => hA q (Nat.le_trans hS.1 h)) (fun q h => hA q (Nat.le_trans hS.1 h)) (fun r_4 u t H locs ht hvm hw hB hz hk hS => ?_)
    have hP := zkn hP hk
    have hw : r_4 = 0 := hw
    subst hw
    refine lv_if_eq (tgt := 54) hx hb dX7_deal_38 (by decide) (fun _ => ?_) (fun c_5 => absurd c_5 (by decide))
    refine lv_iinc (v := nI (i + 1)) (lv' := [(5, .int (nI (i + 1))), (6, .null), (4, .int 24), (3, .ref (ax 1)), (2, .int 0), (0, .ref x), (1, .int v)]) hx hb dX7_deal_54 hl (k := 1) rfl ((rfl : nI i + Int32.ofInt 1 = nI i + 1).trans (nI_1 i)) (by decide) rfl (fun ls hl => ?_)
    refine lv_goto (tgt := 18) hx hb dX7_deal_57 (by decide) ?_
    exact next0 _ _ _ ⟨hP, hS, lv_sub hl [0, 2, 3, 4, 5, 6] rfl⟩

def zwX7_beat : List Cond := .code yX7_beat cX7_beat 4 (some .int) :: (([.fieldLink RX7 107 "Spotbeat" "stationCount" "I", .classLink RX7 76 "java/lang/UnsupportedOperationException", .initialized "java/lang/UnsupportedOperationException"] : List Cond) ++ (wsX70 ++ (((vx_atS RX7 80 "java/lang/UnsupportedOperationException" zNames).filter goodWord))))
theorem zgX7_beat : zwX7_beat.all goodWord = true := zgo rfl (zga (by decide +kernel) (zga zgcX7 ((zgf _))))
set_option maxHeartbeats 4000000 in
set_option maxRecDepth 100000 in
theorem c_X7_beat (l : Launch) (hst : l.stackTraces = false) (dC : Nat → ClassId) (dI : Nat → Nat → Nat) (sz : Nat) (x : Nat) (ax : Nat → Nat) (kx : Nat → ClassId) : vx_Met l yX7_beat zwX7_beat ({ frames := 6, cells := 1, slots := 6, locals := 82 }) (xPc dC dI sz x ax kx [.ref x]) (va_Qi (fun (r : Int32) (_ : Unit) => False) (fun _ _ => True) (fun q : Nat => sz ≤ q)) (zX (True) "java/lang/UnsupportedOperationException" (fun q : Nat => sz ≤ q)) 1 6 (fun q : Nat => sz ≤ q) := by
  refine vx_ofW (cc := cX7_beat) (maxL := 4) (ret := (some .int)) (by decide) rfl ?_
  intro p e s m args below meth c s₁ B hml hnt hv
  obtain ⟨rfl, hsz, hP, hK, hE⟩ := hv
  have hx := B.exec
  have hb := B.bytes
  have hr := B.returns
  have hts := atoms_spec (ws := zwX7_beat) B.pre
  have hown : s.vm.findClass RX7 = some m.cls := findClass_of_methodNamed B.named
  have hlocks := B.notSynchronized
  subst hsz
  have hA : ∀ q : Nat, s.heap.size ≤ q → s.heap.size ≤ q := fun _ h => h
  have hS : va_S (fun q : Nat => s.heap.size ≤ q) s.heap s.heap [] := va_S.rf
  have hl := lv_entry ([.ref x]) (n := 4) (Nat.le_of_ble_eq_true rfl)
  rw [lg_entry_eq]
  generalize (lg_sl ([.ref x]) ++ List.replicate (4 - (lg_sl ([.ref x])).length) Slot.unset).toArray = ls at hl ⊢
  have hl : lv_has ls 4 [(0, .ref x)] := hl
  refine lv_aload_n hx hb dX7_beat_0 rfl (lv_at hl 0 rfl) ?_
  refine va_get (D := (dC, dI)) (ci := 10) (v := .int 0) (C := RX7) (T := TX7) (N := 12) hx hb hts (fun w h => List.mem_cons_of_mem _ (List.mem_append_right _ (List.mem_append_left _ h))) hown hK hP 0 rfl rfl 8 (by decide) (hts (.fieldLink RX7 107 "Spotbeat" "stationCount" "I") (by decide +kernel)) (fun _ h9 => h9) rfl dX7_beat_1 ?_
  refine lv_if_ne (tgt := 18) hx hb dX7_beat_4 (by decide) (fun c_1 => absurd c_1 (by decide)) (fun _ => ?_)
  exact zThrowW (Ts := zwX7_beat) (px := True) (E := "java/lang/UnsupportedOperationException") (ik := 76) (is := 289) (ic := 80) hx hb hst hown hts hE hS (hl.1.trans hml.symm) (by decide) (by decide +kernel) (text := "no stations") (by decide) (by decide +kernel) (by decide +kernel) (fun w h => List.mem_cons_of_mem _ (List.mem_append_right _ (List.mem_append_right _ (h)))) (by decide +kernel) (by decide +kernel) dX7_beat_7 dX7_beat_10 dX7_beat_11 dX7_beat_14 dX7_beat_17 hnt (Nat.le_of_ble_eq_true rfl) (Nat.le_of_ble_eq_true rfl) (Nat.le_of_ble_eq_true rfl) (Nat.le_of_ble_eq_true rfl) hlocks trivial hS.2.2 (Nat.le_of_ble_eq_true rfl) (Nat.le_of_ble_eq_true rfl)

def zwX7_beats : List Cond := .code yX7_beats cX7_beats 1 (some .int) :: (([.fieldLink RX7 112 "Spotbeat" "beatCount" "I"] : List Cond) ++ (wsX70))
theorem zgX7_beats : zwX7_beats.all goodWord = true := zgo rfl (zga (by decide +kernel) (zgcX7))
set_option maxHeartbeats 4000000 in
set_option maxRecDepth 100000 in
theorem c_X7_beats (l : Launch) (dC : Nat → ClassId) (dI : Nat → Nat → Nat) (sz : Nat) (x : Nat) (ax : Nat → Nat) (kx : Nat → ClassId) : Met l yX7_beats zwX7_beats ({ frames := 0, cells := 0, slots := 0, locals := 0 }) (xPc dC dI sz x ax kx [.ref x]) (va_Qi (fun (r : Int32) (_ : Unit) => r = 0) (fun _ _ => True) (fun q : Nat => sz ≤ q)) 0 0 (fun q : Nat => sz ≤ q) := by
  refine Met.ofW (cc := cX7_beats) (maxL := 1) (ret := (some .int)) (by decide) rfl ?_
  intro p e s m args below meth c s₁ B hml hv
  obtain ⟨rfl, hsz, hP, hK, hE⟩ := hv
  have hx := B.exec
  have hb := B.bytes
  have hr := B.returns
  have hts := atoms_spec (ws := zwX7_beats) B.pre
  have hown : s.vm.findClass RX7 = some m.cls := findClass_of_methodNamed B.named
  have hlocks := B.notSynchronized
  subst hsz
  have hA : ∀ q : Nat, s.heap.size ≤ q → s.heap.size ≤ q := fun _ h => h
  have hS : va_S (fun q : Nat => s.heap.size ≤ q) s.heap s.heap [] := va_S.rf
  have hl := lv_entry ([.ref x]) (n := 1) (Nat.le_of_ble_eq_true rfl)
  rw [lg_entry_eq]
  generalize (lg_sl ([.ref x]) ++ List.replicate (1 - (lg_sl ([.ref x])).length) Slot.unset).toArray = ls at hl ⊢
  have hl : lv_has ls 1 [(0, .ref x)] := hl
  refine lv_aload_n hx hb dX7_beats_0 rfl (lv_at hl 0 rfl) ?_
  refine va_get (D := (dC, dI)) (ci := 10) (v := .int 0) (C := RX7) (T := TX7) (N := 12) hx hb hts (fun w h => List.mem_cons_of_mem _ (List.mem_append_right _ (h))) hown hK hP 0 rfl rfl 11 (by decide) (hts (.fieldLink RX7 112 "Spotbeat" "beatCount" "I") (by decide +kernel)) (fun _ h9 => h9) rfl dX7_beats_1 ?_
  refine W.widen (k := 0) (n := 0) (Nat.le_of_ble_eq_true rfl) (Nat.le_of_ble_eq_true rfl) ?_
  exact W.iret (v := 0) hx hb hr (fun t ht hW => ⟨⟨0, (), rfl, rfl, trivial⟩, hS.F ht⟩) hS.2.2 dX7_beats_4

def zwX7_at : List Cond := .code yX7_at cX7_at 3 (some .int) :: (([.methodLink RX7 118 yX7_requireStation, .instanceMethod yX7_requireStation, .selects RX7 yX7_requireStation yX7_requireStation, .initialized RX7] : List Cond) ++ (zwX7_requireStation))
theorem zgX7_at : zwX7_at.all goodWord = true := zgo rfl (zga (by decide +kernel) (zgX7_requireStation))
set_option maxHeartbeats 4000000 in
set_option maxRecDepth 100000 in
theorem c_X7_at (l : Launch) (hst : l.stackTraces = false) (dC : Nat → ClassId) (dI : Nat → Nat → Nat) (sz : Nat) (x : Nat) (ax : Nat → Nat) (kx : Nat → ClassId) (a : Int32) : vx_Met l yX7_at zwX7_at ({ frames := 7, cells := 1, slots := 6, locals := 104 }) (xPc dC dI sz x ax kx [.ref x, .int a]) (va_Qi (fun (r : Int32) (_ : Unit) => False) (fun _ _ => True) (fun q : Nat => sz ≤ q)) (zX (True) "java/lang/IndexOutOfBoundsException" (fun q : Nat => sz ≤ q)) 1 6 (fun q : Nat => sz ≤ q) := by
  refine vx_ofW (cc := cX7_at) (maxL := 3) (ret := (some .int)) (by decide) rfl ?_
  intro p e s m args below meth c s₁ B hml hnt hv
  obtain ⟨rfl, hsz, hP, hK, hE⟩ := hv
  have hx := B.exec
  have hb := B.bytes
  have hr := B.returns
  have hts := atoms_spec (ws := zwX7_at) B.pre
  have hown : s.vm.findClass RX7 = some m.cls := findClass_of_methodNamed B.named
  have hlocks := B.notSynchronized
  subst hsz
  have hA : ∀ q : Nat, s.heap.size ≤ q → s.heap.size ≤ q := fun _ h => h
  have hS : va_S (fun q : Nat => s.heap.size ≤ q) s.heap s.heap [] := va_S.rf
  have hl := lv_entry ([.ref x, .int a]) (n := 3) (Nat.le_of_ble_eq_true rfl)
  rw [lg_entry_eq]
  generalize (lg_sl ([.ref x, .int a]) ++ List.replicate (3 - (lg_sl ([.ref x, .int a])).length) Slot.unset).toArray = ls at hl ⊢
  have hl : lv_has ls 3 [(0, .ref x), (1, .int a)] := hl
  refine lv_aload_n hx hb dX7_at_0 rfl (lv_at hl 0 rfl) ?_
  refine lv_iload_n hx hb dX7_at_1 rfl (lv_at hl 1 rfl) ?_
  refine vx_calli (vx_runV (As := [.int a]) (rest := []) ⟨hx, hb, hml, hown, hts⟩ (c_X7_requireStation l hst dC dI s.heap.size x ax kx a) (cwV 1 hts (goodIn_app (goodIn_of _ (by decide +kernel)) (goodIn_sub ((fun w h => List.mem_cons_of_mem _ (List.mem_append_right _ (h)))) zgX7_requireStation)) rfl rfl rfl (by decide +kernel) ⟨Nat.le_of_ble_eq_true rfl, Nat.le_of_ble_eq_true rfl⟩) ⟨xPc_blind, va_recv hK hP (ci := 10) (q0 := 0) rfl rfl, xPc_pass hP hK hE hS (fun q h => hA q (Nat.le_trans hS.1 h))⟩ rfl rfl hl.1 rfl (lv_room (Nat.le_of_ble_eq_true rfl)) dX7_at_2 ⟨Nat.le_of_ble_eq_true rfl, Nat.le_of_ble_eq_true rfl⟩) hS (fun q _ h => hA q (Nat.le_trans hS.1 h)) (fun q h => hA q (Nat.le_trans hS.1 h)) (fun q _ h => hA q (Nat.le_trans hS.1 h)) (fun E ce q9 _ t H locs ht hvm hpx hBX hz hk hS hcell hv hcl => ?_) (fun r_1 u t H locs ht hvm hw hB hz hk hS => ?_)
  · have hBX : E = "java/lang/IndexOutOfBoundsException" := hBX
    subst hBX
    exact zOut (px := True) (E := "java/lang/IndexOutOfBoundsException") hnt hlocks hcell hv hcl hS trivial hS.2.2 (Nat.le_of_ble_eq_true rfl) (Nat.le_of_ble_eq_true rfl)
  have hP := zkn hP hk
  exact hw.elim

def zwX7_where : List Cond := .code yX7_where cX7_where 2 (some .int) :: (([.methodLink RX7 308 yX7_requireBody, .instanceMethod yX7_requireBody, .selects RX7 yX7_requireBody yX7_requireBody, .initialized RX7] : List Cond) ++ (zwX7_requireBody))
theorem zgX7_where : zwX7_where.all goodWord = true := zgo rfl (zga (by decide +kernel) (zgX7_requireBody))
set_option maxHeartbeats 4000000 in
set_option maxRecDepth 100000 in
theorem c_X7_where (l : Launch) (hst : l.stackTraces = false) (dC : Nat → ClassId) (dI : Nat → Nat → Nat) (sz : Nat) (x : Nat) (ax : Nat → Nat) (kx : Nat → ClassId) (a : Int32) : vx_Met l yX7_where zwX7_where ({ frames := 7, cells := 1, slots := 6, locals := 104 }) (xPc dC dI sz x ax kx [.ref x, .int a]) (va_Qi (fun (r : Int32) (_ : Unit) => False) (fun _ _ => True) (fun q : Nat => sz ≤ q)) (zX (True) "java/lang/IndexOutOfBoundsException" (fun q : Nat => sz ≤ q)) 1 6 (fun q : Nat => sz ≤ q) := by
  refine vx_ofW (cc := cX7_where) (maxL := 2) (ret := (some .int)) (by decide) rfl ?_
  intro p e s m args below meth c s₁ B hml hnt hv
  obtain ⟨rfl, hsz, hP, hK, hE⟩ := hv
  have hx := B.exec
  have hb := B.bytes
  have hr := B.returns
  have hts := atoms_spec (ws := zwX7_where) B.pre
  have hown : s.vm.findClass RX7 = some m.cls := findClass_of_methodNamed B.named
  have hlocks := B.notSynchronized
  subst hsz
  have hA : ∀ q : Nat, s.heap.size ≤ q → s.heap.size ≤ q := fun _ h => h
  have hS : va_S (fun q : Nat => s.heap.size ≤ q) s.heap s.heap [] := va_S.rf
  have hl := lv_entry ([.ref x, .int a]) (n := 2) (Nat.le_of_ble_eq_true rfl)
  rw [lg_entry_eq]
  generalize (lg_sl ([.ref x, .int a]) ++ List.replicate (2 - (lg_sl ([.ref x, .int a])).length) Slot.unset).toArray = ls at hl ⊢
  have hl : lv_has ls 2 [(0, .ref x), (1, .int a)] := hl
  refine lv_aload_n hx hb dX7_where_0 rfl (lv_at hl 0 rfl) ?_
  refine lv_iload_n hx hb dX7_where_1 rfl (lv_at hl 1 rfl) ?_
  refine vx_calli (vx_runV (As := [.int a]) (rest := []) ⟨hx, hb, hml, hown, hts⟩ (c_X7_requireBody l hst dC dI s.heap.size x ax kx a) (cwV 1 hts (goodIn_app (goodIn_of _ (by decide +kernel)) (goodIn_sub ((fun w h => List.mem_cons_of_mem _ (List.mem_append_right _ (h)))) zgX7_requireBody)) rfl rfl rfl (by decide +kernel) ⟨Nat.le_of_ble_eq_true rfl, Nat.le_of_ble_eq_true rfl⟩) ⟨xPc_blind, va_recv hK hP (ci := 10) (q0 := 0) rfl rfl, xPc_pass hP hK hE hS (fun q h => hA q (Nat.le_trans hS.1 h))⟩ rfl rfl hl.1 rfl (lv_room (Nat.le_of_ble_eq_true rfl)) dX7_where_2 ⟨Nat.le_of_ble_eq_true rfl, Nat.le_of_ble_eq_true rfl⟩) hS (fun q _ h => hA q (Nat.le_trans hS.1 h)) (fun q h => hA q (Nat.le_trans hS.1 h)) (fun q _ h => hA q (Nat.le_trans hS.1 h)) (fun E ce q9 _ t H locs ht hvm hpx hBX hz hk hS hcell hv hcl => ?_) (fun r_1 u t H locs ht hvm hw hB hz hk hS => ?_)
  · have hBX : E = "java/lang/IndexOutOfBoundsException" := hBX
    subst hBX
    exact zOut (px := True) (E := "java/lang/IndexOutOfBoundsException") hnt hlocks hcell hv hcl hS trivial hS.2.2 (Nat.le_of_ble_eq_true rfl) (Nat.le_of_ble_eq_true rfl)
  have hP := zkn hP hk
  exact hw.elim

def zwX7_waiting : List Cond := .code yX7_waiting cX7_waiting 1 (some .int) :: (([.methodLink RX7 314 yX7_countAt, .instanceMethod yX7_countAt, .selects RX7 yX7_countAt yX7_countAt, .initialized RX7] : List Cond) ++ (zwX7_countAt))
theorem zgX7_waiting : zwX7_waiting.all goodWord = true := zgo rfl (zga (by decide +kernel) (zgX7_countAt))
set_option maxHeartbeats 4000000 in
set_option maxRecDepth 100000 in
theorem c_X7_waiting (l : Launch) (dC : Nat → ClassId) (dI : Nat → Nat → Nat) (sz : Nat) (x : Nat) (ax : Nat → Nat) (kx : Nat → ClassId) : Met l yX7_waiting zwX7_waiting ({ frames := 1, cells := 0, slots := 0, locals := 26 }) (xPc dC dI sz x ax kx [.ref x]) (va_Qi (fun (r : Int32) (_ : Unit) => r = 0) (fun _ _ => True) (fun q : Nat => sz ≤ q)) 0 0 (fun q : Nat => sz ≤ q) := by
  refine Met.ofW (cc := cX7_waiting) (maxL := 1) (ret := (some .int)) (by decide) rfl ?_
  intro p e s m args below meth c s₁ B hml hv
  obtain ⟨rfl, hsz, hP, hK, hE⟩ := hv
  have hx := B.exec
  have hb := B.bytes
  have hr := B.returns
  have hts := atoms_spec (ws := zwX7_waiting) B.pre
  have hown : s.vm.findClass RX7 = some m.cls := findClass_of_methodNamed B.named
  have hlocks := B.notSynchronized
  subst hsz
  have hA : ∀ q : Nat, s.heap.size ≤ q → s.heap.size ≤ q := fun _ h => h
  have hS : va_S (fun q : Nat => s.heap.size ≤ q) s.heap s.heap [] := va_S.rf
  have hl := lv_entry ([.ref x]) (n := 1) (Nat.le_of_ble_eq_true rfl)
  rw [lg_entry_eq]
  generalize (lg_sl ([.ref x]) ++ List.replicate (1 - (lg_sl ([.ref x])).length) Slot.unset).toArray = ls at hl ⊢
  have hl : lv_has ls 1 [(0, .ref x)] := hl
  refine lv_aload_n hx hb dX7_waiting_0 rfl (lv_at hl 0 rfl) ?_
  refine lv_iconst (v := (-1)) hx hb dX7_waiting_1 (by decide) ?_
  refine va_calli (va_runV (As := [.int (-1)]) (rest := []) ⟨hx, hb, hml, hown, hts⟩ (c_X7_countAt l dC dI s.heap.size x ax kx (-1)) (cwV 1 hts (goodIn_app (goodIn_of _ (by decide +kernel)) (goodIn_sub ((fun w h => List.mem_cons_of_mem _ (List.mem_append_right _ (h)))) zgX7_countAt)) rfl rfl rfl (by decide +kernel) ⟨Nat.le_of_ble_eq_true rfl, Nat.le_of_ble_eq_true rfl⟩) ⟨xPc_blind, va_recv hK hP (ci := 10) (q0 := 0) rfl rfl, xPc_pass hP hK hE hS (fun q h => hA q (Nat.le_trans hS.1 h))⟩ rfl rfl hl.1 rfl (lv_room (Nat.le_of_ble_eq_true rfl)) dX7_waiting_2 ⟨Nat.le_of_ble_eq_true rfl, Nat.le_of_ble_eq_true rfl⟩) hS (fun q _ h => hA q (Nat.le_trans hS.1 h)) (fun q h => hA q (Nat.le_trans hS.1 h)) (fun r_1 u t H locs ht hvm hw hB hz hk hS => ?_)
  have hP := zkn hP hk
  have hw : r_1 = 0 := hw
  subst hw
  refine W.widen (k := 0) (n := 0) (Nat.le_of_ble_eq_true rfl) (Nat.le_of_ble_eq_true rfl) ?_
  exact W.iret (v := 0) hx hb hr (fun t ht hW => ⟨⟨0, (), rfl, rfl, trivial⟩, hS.F ht⟩) hS.2.2 dX7_waiting_5

def zwX7_stand : List Cond := .code yX7_stand cX7_stand 5 (some .boolean) :: (([.methodLink RX7 118 yX7_requireStation, .instanceMethod yX7_requireStation, .selects RX7 yX7_requireStation yX7_requireStation, .initialized RX7] : List Cond) ++ (zwX7_requireStation))
theorem zgX7_stand : zwX7_stand.all goodWord = true := zgo rfl (zga (by decide +kernel) (zgX7_requireStation))
set_option maxHeartbeats 4000000 in
set_option maxRecDepth 100000 in
theorem c_X7_stand (l : Launch) (hst : l.stackTraces = false) (dC : Nat → ClassId) (dI : Nat → Nat → Nat) (sz : Nat) (x : Nat) (ax : Nat → Nat) (kx : Nat → ClassId) (a : Int32) (b : Int32) : vx_Met l yX7_stand zwX7_stand ({ frames := 7, cells := 1, slots := 6, locals := 104 }) (xPc dC dI sz x ax kx [.ref x, .int a, .int b]) (va_Qi (fun (r : Int32) (_ : Unit) => False) (fun _ _ => True) (fun q : Nat => sz ≤ q)) (zX (True) "java/lang/IndexOutOfBoundsException" (fun q : Nat => sz ≤ q)) 1 6 (fun q : Nat => sz ≤ q) := by
  refine vx_ofW (cc := cX7_stand) (maxL := 5) (ret := (some .boolean)) (by decide) rfl ?_
  intro p e s m args below meth c s₁ B hml hnt hv
  obtain ⟨rfl, hsz, hP, hK, hE⟩ := hv
  have hx := B.exec
  have hb := B.bytes
  have hr := B.returns
  have hts := atoms_spec (ws := zwX7_stand) B.pre
  have hown : s.vm.findClass RX7 = some m.cls := findClass_of_methodNamed B.named
  have hlocks := B.notSynchronized
  subst hsz
  have hA : ∀ q : Nat, s.heap.size ≤ q → s.heap.size ≤ q := fun _ h => h
  have hS : va_S (fun q : Nat => s.heap.size ≤ q) s.heap s.heap [] := va_S.rf
  have hl := lv_entry ([.ref x, .int a, .int b]) (n := 5) (Nat.le_of_ble_eq_true rfl)
  rw [lg_entry_eq]
  generalize (lg_sl ([.ref x, .int a, .int b]) ++ List.replicate (5 - (lg_sl ([.ref x, .int a, .int b])).length) Slot.unset).toArray = ls at hl ⊢
  have hl : lv_has ls 5 [(0, .ref x), (1, .int a), (2, .int b)] := hl
  refine lv_aload_n hx hb dX7_stand_0 rfl (lv_at hl 0 rfl) ?_
  refine lv_iload_n hx hb dX7_stand_1 rfl (lv_at hl 1 rfl) ?_
  refine vx_calli (vx_runV (As := [.int a]) (rest := []) ⟨hx, hb, hml, hown, hts⟩ (c_X7_requireStation l hst dC dI s.heap.size x ax kx a) (cwV 1 hts (goodIn_app (goodIn_of _ (by decide +kernel)) (goodIn_sub ((fun w h => List.mem_cons_of_mem _ (List.mem_append_right _ (h)))) zgX7_requireStation)) rfl rfl rfl (by decide +kernel) ⟨Nat.le_of_ble_eq_true rfl, Nat.le_of_ble_eq_true rfl⟩) ⟨xPc_blind, va_recv hK hP (ci := 10) (q0 := 0) rfl rfl, xPc_pass hP hK hE hS (fun q h => hA q (Nat.le_trans hS.1 h))⟩ rfl rfl hl.1 rfl (lv_room (Nat.le_of_ble_eq_true rfl)) dX7_stand_2 ⟨Nat.le_of_ble_eq_true rfl, Nat.le_of_ble_eq_true rfl⟩) hS (fun q _ h => hA q (Nat.le_trans hS.1 h)) (fun q h => hA q (Nat.le_trans hS.1 h)) (fun q _ h => hA q (Nat.le_trans hS.1 h)) (fun E ce q9 _ t H locs ht hvm hpx hBX hz hk hS hcell hv hcl => ?_) (fun r_1 u t H locs ht hvm hw hB hz hk hS => ?_)
  · have hBX : E = "java/lang/IndexOutOfBoundsException" := hBX
    subst hBX
    exact zOut (px := True) (E := "java/lang/IndexOutOfBoundsException") hnt hlocks hcell hv hcl hS trivial hS.2.2 (Nat.le_of_ble_eq_true rfl) (Nat.le_of_ble_eq_true rfl)
  have hP := zkn hP hk
  exact hw.elim

def zwX7_letters : List Cond := .code yX7_letters cX7_letters 4 (some .int) :: (([.methodLink RX7 118 yX7_requireStation, .instanceMethod yX7_requireStation, .selects RX7 yX7_requireStation yX7_requireStation, .initialized RX7] : List Cond) ++ (zwX7_requireStation))
theorem zgX7_letters : zwX7_letters.all goodWord = true := zgo rfl (zga (by decide +kernel) (zgX7_requireStation))
set_option maxHeartbeats 4000000 in
set_option maxRecDepth 100000 in
theorem c_X7_letters (l : Launch) (hst : l.stackTraces = false) (dC : Nat → ClassId) (dI : Nat → Nat → Nat) (sz : Nat) (x : Nat) (ax : Nat → Nat) (kx : Nat → ClassId) (a : Int32) (b : Int32) : vx_Met l yX7_letters zwX7_letters ({ frames := 7, cells := 1, slots := 6, locals := 104 }) (xPc dC dI sz x ax kx [.ref x, .int a, .int b]) (va_Qi (fun (r : Int32) (_ : Unit) => False) (fun _ _ => True) (fun q : Nat => sz ≤ q)) (zX (True) "java/lang/IndexOutOfBoundsException" (fun q : Nat => sz ≤ q)) 1 6 (fun q : Nat => sz ≤ q) := by
  refine vx_ofW (cc := cX7_letters) (maxL := 4) (ret := (some .int)) (by decide) rfl ?_
  intro p e s m args below meth c s₁ B hml hnt hv
  obtain ⟨rfl, hsz, hP, hK, hE⟩ := hv
  have hx := B.exec
  have hb := B.bytes
  have hr := B.returns
  have hts := atoms_spec (ws := zwX7_letters) B.pre
  have hown : s.vm.findClass RX7 = some m.cls := findClass_of_methodNamed B.named
  have hlocks := B.notSynchronized
  subst hsz
  have hA : ∀ q : Nat, s.heap.size ≤ q → s.heap.size ≤ q := fun _ h => h
  have hS : va_S (fun q : Nat => s.heap.size ≤ q) s.heap s.heap [] := va_S.rf
  have hl := lv_entry ([.ref x, .int a, .int b]) (n := 4) (Nat.le_of_ble_eq_true rfl)
  rw [lg_entry_eq]
  generalize (lg_sl ([.ref x, .int a, .int b]) ++ List.replicate (4 - (lg_sl ([.ref x, .int a, .int b])).length) Slot.unset).toArray = ls at hl ⊢
  have hl : lv_has ls 4 [(0, .ref x), (1, .int a), (2, .int b)] := hl
  refine lv_aload_n hx hb dX7_letters_0 rfl (lv_at hl 0 rfl) ?_
  refine lv_iload_n hx hb dX7_letters_1 rfl (lv_at hl 1 rfl) ?_
  refine vx_calli (vx_runV (As := [.int a]) (rest := []) ⟨hx, hb, hml, hown, hts⟩ (c_X7_requireStation l hst dC dI s.heap.size x ax kx a) (cwV 1 hts (goodIn_app (goodIn_of _ (by decide +kernel)) (goodIn_sub ((fun w h => List.mem_cons_of_mem _ (List.mem_append_right _ (h)))) zgX7_requireStation)) rfl rfl rfl (by decide +kernel) ⟨Nat.le_of_ble_eq_true rfl, Nat.le_of_ble_eq_true rfl⟩) ⟨xPc_blind, va_recv hK hP (ci := 10) (q0 := 0) rfl rfl, xPc_pass hP hK hE hS (fun q h => hA q (Nat.le_trans hS.1 h))⟩ rfl rfl hl.1 rfl (lv_room (Nat.le_of_ble_eq_true rfl)) dX7_letters_2 ⟨Nat.le_of_ble_eq_true rfl, Nat.le_of_ble_eq_true rfl⟩) hS (fun q _ h => hA q (Nat.le_trans hS.1 h)) (fun q h => hA q (Nat.le_trans hS.1 h)) (fun q _ h => hA q (Nat.le_trans hS.1 h)) (fun E ce q9 _ t H locs ht hvm hpx hBX hz hk hS hcell hv hcl => ?_) (fun r_1 u t H locs ht hvm hw hB hz hk hS => ?_)
  · have hBX : E = "java/lang/IndexOutOfBoundsException" := hBX
    subst hBX
    exact zOut (px := True) (E := "java/lang/IndexOutOfBoundsException") hnt hlocks hcell hv hcl hS trivial hS.2.2 (Nat.le_of_ble_eq_true rfl) (Nat.le_of_ble_eq_true rfl)
  have hP := zkn hP hk
  exact hw.elim

def zwX7_die : List Cond := .code yX7_die cX7_die 5 (some .boolean) :: (([.methodLink RX7 143 yX7_requireRobot, .instanceMethod yX7_requireRobot, .selects RX7 yX7_requireRobot yX7_requireRobot, .initialized RX7] : List Cond) ++ (zwX7_requireRobot))
theorem zgX7_die : zwX7_die.all goodWord = true := zgo rfl (zga (by decide +kernel) (zgX7_requireRobot))
set_option maxHeartbeats 4000000 in
set_option maxRecDepth 100000 in
theorem c_X7_die (l : Launch) (hst : l.stackTraces = false) (dC : Nat → ClassId) (dI : Nat → Nat → Nat) (sz : Nat) (x : Nat) (ax : Nat → Nat) (kx : Nat → ClassId) (a : Int32) (b : Int32) : vx_Met l yX7_die zwX7_die ({ frames := 7, cells := 1, slots := 6, locals := 104 }) (xPc dC dI sz x ax kx [.ref x, .int a, .int b]) (va_Qi (fun (r : Int32) (_ : Unit) => False) (fun _ _ => True) (fun q : Nat => sz ≤ q)) (zX (True) "java/lang/IndexOutOfBoundsException" (fun q : Nat => sz ≤ q)) 1 6 (fun q : Nat => sz ≤ q) := by
  refine vx_ofW (cc := cX7_die) (maxL := 5) (ret := (some .boolean)) (by decide) rfl ?_
  intro p e s m args below meth c s₁ B hml hnt hv
  obtain ⟨rfl, hsz, hP, hK, hE⟩ := hv
  have hx := B.exec
  have hb := B.bytes
  have hr := B.returns
  have hts := atoms_spec (ws := zwX7_die) B.pre
  have hown : s.vm.findClass RX7 = some m.cls := findClass_of_methodNamed B.named
  have hlocks := B.notSynchronized
  subst hsz
  have hA : ∀ q : Nat, s.heap.size ≤ q → s.heap.size ≤ q := fun _ h => h
  have hS : va_S (fun q : Nat => s.heap.size ≤ q) s.heap s.heap [] := va_S.rf
  have hl := lv_entry ([.ref x, .int a, .int b]) (n := 5) (Nat.le_of_ble_eq_true rfl)
  rw [lg_entry_eq]
  generalize (lg_sl ([.ref x, .int a, .int b]) ++ List.replicate (5 - (lg_sl ([.ref x, .int a, .int b])).length) Slot.unset).toArray = ls at hl ⊢
  have hl : lv_has ls 5 [(0, .ref x), (1, .int a), (2, .int b)] := hl
  refine lv_aload_n hx hb dX7_die_0 rfl (lv_at hl 0 rfl) ?_
  refine lv_iload_n hx hb dX7_die_1 rfl (lv_at hl 1 rfl) ?_
  refine vx_calli (vx_runV (As := [.int a]) (rest := []) ⟨hx, hb, hml, hown, hts⟩ (c_X7_requireRobot l hst dC dI s.heap.size x ax kx a) (cwV 1 hts (goodIn_app (goodIn_of _ (by decide +kernel)) (goodIn_sub ((fun w h => List.mem_cons_of_mem _ (List.mem_append_right _ (h)))) zgX7_requireRobot)) rfl rfl rfl (by decide +kernel) ⟨Nat.le_of_ble_eq_true rfl, Nat.le_of_ble_eq_true rfl⟩) ⟨xPc_blind, va_recv hK hP (ci := 10) (q0 := 0) rfl rfl, xPc_pass hP hK hE hS (fun q h => hA q (Nat.le_trans hS.1 h))⟩ rfl rfl hl.1 rfl (lv_room (Nat.le_of_ble_eq_true rfl)) dX7_die_2 ⟨Nat.le_of_ble_eq_true rfl, Nat.le_of_ble_eq_true rfl⟩) hS (fun q _ h => hA q (Nat.le_trans hS.1 h)) (fun q h => hA q (Nat.le_trans hS.1 h)) (fun q _ h => hA q (Nat.le_trans hS.1 h)) (fun E ce q9 _ t H locs ht hvm hpx hBX hz hk hS hcell hv hcl => ?_) (fun r_1 u t H locs ht hvm hw hB hz hk hS => ?_)
  · have hBX : E = "java/lang/IndexOutOfBoundsException" := hBX
    subst hBX
    exact zOut (px := True) (E := "java/lang/IndexOutOfBoundsException") hnt hlocks hcell hv hcl hS trivial hS.2.2 (Nat.le_of_ble_eq_true rfl) (Nat.le_of_ble_eq_true rfl)
  have hP := zkn hP hk
  exact hw.elim

def zwX7_standIn : List Cond := .code yX7_standIn cX7_standIn 5 (some .int) :: (([.methodLink RX7 143 yX7_requireRobot, .instanceMethod yX7_requireRobot, .selects RX7 yX7_requireRobot yX7_requireRobot, .initialized RX7] : List Cond) ++ (zwX7_requireRobot))
theorem zgX7_standIn : zwX7_standIn.all goodWord = true := zgo rfl (zga (by decide +kernel) (zgX7_requireRobot))
set_option maxHeartbeats 4000000 in
set_option maxRecDepth 100000 in
theorem c_X7_standIn (l : Launch) (hst : l.stackTraces = false) (dC : Nat → ClassId) (dI : Nat → Nat → Nat) (sz : Nat) (x : Nat) (ax : Nat → Nat) (kx : Nat → ClassId) (a : Int32) (b : Int32) : vx_Met l yX7_standIn zwX7_standIn ({ frames := 7, cells := 1, slots := 6, locals := 104 }) (xPc dC dI sz x ax kx [.ref x, .int a, .int b]) (va_Qi (fun (r : Int32) (_ : Unit) => False) (fun _ _ => True) (fun q : Nat => sz ≤ q)) (zX (True) "java/lang/IndexOutOfBoundsException" (fun q : Nat => sz ≤ q)) 1 6 (fun q : Nat => sz ≤ q) := by
  refine vx_ofW (cc := cX7_standIn) (maxL := 5) (ret := (some .int)) (by decide) rfl ?_
  intro p e s m args below meth c s₁ B hml hnt hv
  obtain ⟨rfl, hsz, hP, hK, hE⟩ := hv
  have hx := B.exec
  have hb := B.bytes
  have hr := B.returns
  have hts := atoms_spec (ws := zwX7_standIn) B.pre
  have hown : s.vm.findClass RX7 = some m.cls := findClass_of_methodNamed B.named
  have hlocks := B.notSynchronized
  subst hsz
  have hA : ∀ q : Nat, s.heap.size ≤ q → s.heap.size ≤ q := fun _ h => h
  have hS : va_S (fun q : Nat => s.heap.size ≤ q) s.heap s.heap [] := va_S.rf
  have hl := lv_entry ([.ref x, .int a, .int b]) (n := 5) (Nat.le_of_ble_eq_true rfl)
  rw [lg_entry_eq]
  generalize (lg_sl ([.ref x, .int a, .int b]) ++ List.replicate (5 - (lg_sl ([.ref x, .int a, .int b])).length) Slot.unset).toArray = ls at hl ⊢
  have hl : lv_has ls 5 [(0, .ref x), (1, .int a), (2, .int b)] := hl
  refine lv_aload_n hx hb dX7_standIn_0 rfl (lv_at hl 0 rfl) ?_
  refine lv_iload_n hx hb dX7_standIn_1 rfl (lv_at hl 1 rfl) ?_
  refine vx_calli (vx_runV (As := [.int a]) (rest := []) ⟨hx, hb, hml, hown, hts⟩ (c_X7_requireRobot l hst dC dI s.heap.size x ax kx a) (cwV 1 hts (goodIn_app (goodIn_of _ (by decide +kernel)) (goodIn_sub ((fun w h => List.mem_cons_of_mem _ (List.mem_append_right _ (h)))) zgX7_requireRobot)) rfl rfl rfl (by decide +kernel) ⟨Nat.le_of_ble_eq_true rfl, Nat.le_of_ble_eq_true rfl⟩) ⟨xPc_blind, va_recv hK hP (ci := 10) (q0 := 0) rfl rfl, xPc_pass hP hK hE hS (fun q h => hA q (Nat.le_trans hS.1 h))⟩ rfl rfl hl.1 rfl (lv_room (Nat.le_of_ble_eq_true rfl)) dX7_standIn_2 ⟨Nat.le_of_ble_eq_true rfl, Nat.le_of_ble_eq_true rfl⟩) hS (fun q _ h => hA q (Nat.le_trans hS.1 h)) (fun q h => hA q (Nat.le_trans hS.1 h)) (fun q _ h => hA q (Nat.le_trans hS.1 h)) (fun E ce q9 _ t H locs ht hvm hpx hBX hz hk hS hcell hv hcl => ?_) (fun r_1 u t H locs ht hvm hw hB hz hk hS => ?_)
  · have hBX : E = "java/lang/IndexOutOfBoundsException" := hBX
    subst hBX
    exact zOut (px := True) (E := "java/lang/IndexOutOfBoundsException") hnt hlocks hcell hv hcl hS trivial hS.2.2 (Nat.le_of_ble_eq_true rfl) (Nat.le_of_ble_eq_true rfl)
  have hP := zkn hP hk
  exact hw.elim

def zwX7_wear : List Cond := .code yX7_wear cX7_wear 2 (some .int) :: (([.methodLink RX7 143 yX7_requireRobot, .instanceMethod yX7_requireRobot, .selects RX7 yX7_requireRobot yX7_requireRobot, .initialized RX7] : List Cond) ++ (zwX7_requireRobot))
theorem zgX7_wear : zwX7_wear.all goodWord = true := zgo rfl (zga (by decide +kernel) (zgX7_requireRobot))
set_option maxHeartbeats 4000000 in
set_option maxRecDepth 100000 in
theorem c_X7_wear (l : Launch) (hst : l.stackTraces = false) (dC : Nat → ClassId) (dI : Nat → Nat → Nat) (sz : Nat) (x : Nat) (ax : Nat → Nat) (kx : Nat → ClassId) (a : Int32) : vx_Met l yX7_wear zwX7_wear ({ frames := 7, cells := 1, slots := 6, locals := 104 }) (xPc dC dI sz x ax kx [.ref x, .int a]) (va_Qi (fun (r : Int32) (_ : Unit) => False) (fun _ _ => True) (fun q : Nat => sz ≤ q)) (zX (True) "java/lang/IndexOutOfBoundsException" (fun q : Nat => sz ≤ q)) 1 6 (fun q : Nat => sz ≤ q) := by
  refine vx_ofW (cc := cX7_wear) (maxL := 2) (ret := (some .int)) (by decide) rfl ?_
  intro p e s m args below meth c s₁ B hml hnt hv
  obtain ⟨rfl, hsz, hP, hK, hE⟩ := hv
  have hx := B.exec
  have hb := B.bytes
  have hr := B.returns
  have hts := atoms_spec (ws := zwX7_wear) B.pre
  have hown : s.vm.findClass RX7 = some m.cls := findClass_of_methodNamed B.named
  have hlocks := B.notSynchronized
  subst hsz
  have hA : ∀ q : Nat, s.heap.size ≤ q → s.heap.size ≤ q := fun _ h => h
  have hS : va_S (fun q : Nat => s.heap.size ≤ q) s.heap s.heap [] := va_S.rf
  have hl := lv_entry ([.ref x, .int a]) (n := 2) (Nat.le_of_ble_eq_true rfl)
  rw [lg_entry_eq]
  generalize (lg_sl ([.ref x, .int a]) ++ List.replicate (2 - (lg_sl ([.ref x, .int a])).length) Slot.unset).toArray = ls at hl ⊢
  have hl : lv_has ls 2 [(0, .ref x), (1, .int a)] := hl
  refine lv_aload_n hx hb dX7_wear_0 rfl (lv_at hl 0 rfl) ?_
  refine lv_iload_n hx hb dX7_wear_1 rfl (lv_at hl 1 rfl) ?_
  refine vx_calli (vx_runV (As := [.int a]) (rest := []) ⟨hx, hb, hml, hown, hts⟩ (c_X7_requireRobot l hst dC dI s.heap.size x ax kx a) (cwV 1 hts (goodIn_app (goodIn_of _ (by decide +kernel)) (goodIn_sub ((fun w h => List.mem_cons_of_mem _ (List.mem_append_right _ (h)))) zgX7_requireRobot)) rfl rfl rfl (by decide +kernel) ⟨Nat.le_of_ble_eq_true rfl, Nat.le_of_ble_eq_true rfl⟩) ⟨xPc_blind, va_recv hK hP (ci := 10) (q0 := 0) rfl rfl, xPc_pass hP hK hE hS (fun q h => hA q (Nat.le_trans hS.1 h))⟩ rfl rfl hl.1 rfl (lv_room (Nat.le_of_ble_eq_true rfl)) dX7_wear_2 ⟨Nat.le_of_ble_eq_true rfl, Nat.le_of_ble_eq_true rfl⟩) hS (fun q _ h => hA q (Nat.le_trans hS.1 h)) (fun q h => hA q (Nat.le_trans hS.1 h)) (fun q _ h => hA q (Nat.le_trans hS.1 h)) (fun E ce q9 _ t H locs ht hvm hpx hBX hz hk hS hcell hv hcl => ?_) (fun r_1 u t H locs ht hvm hw hB hz hk hS => ?_)
  · have hBX : E = "java/lang/IndexOutOfBoundsException" := hBX
    subst hBX
    exact zOut (px := True) (E := "java/lang/IndexOutOfBoundsException") hnt hlocks hcell hv hcl hS trivial hS.2.2 (Nat.le_of_ble_eq_true rfl) (Nat.le_of_ble_eq_true rfl)
  have hP := zkn hP hk
  exact hw.elim

def zwX7_dress : List Cond := .code yX7_dress cX7_dress 3 (some .int) :: (([.methodLink RX7 143 yX7_requireRobot, .instanceMethod yX7_requireRobot, .selects RX7 yX7_requireRobot yX7_requireRobot, .initialized RX7] : List Cond) ++ (zwX7_requireRobot))
theorem zgX7_dress : zwX7_dress.all goodWord = true := zgo rfl (zga (by decide +kernel) (zgX7_requireRobot))
set_option maxHeartbeats 4000000 in
set_option maxRecDepth 100000 in
theorem c_X7_dress (l : Launch) (hst : l.stackTraces = false) (dC : Nat → ClassId) (dI : Nat → Nat → Nat) (sz : Nat) (x : Nat) (ax : Nat → Nat) (kx : Nat → ClassId) (a : Int32) : vx_Met l yX7_dress zwX7_dress ({ frames := 7, cells := 1, slots := 6, locals := 104 }) (xPc dC dI sz x ax kx [.ref x, .int a]) (va_Qi (fun (r : Int32) (_ : Unit) => False) (fun _ _ => True) (fun q : Nat => sz ≤ q)) (zX (True) "java/lang/IndexOutOfBoundsException" (fun q : Nat => sz ≤ q)) 1 6 (fun q : Nat => sz ≤ q) := by
  refine vx_ofW (cc := cX7_dress) (maxL := 3) (ret := (some .int)) (by decide) rfl ?_
  intro p e s m args below meth c s₁ B hml hnt hv
  obtain ⟨rfl, hsz, hP, hK, hE⟩ := hv
  have hx := B.exec
  have hb := B.bytes
  have hr := B.returns
  have hts := atoms_spec (ws := zwX7_dress) B.pre
  have hown : s.vm.findClass RX7 = some m.cls := findClass_of_methodNamed B.named
  have hlocks := B.notSynchronized
  subst hsz
  have hA : ∀ q : Nat, s.heap.size ≤ q → s.heap.size ≤ q := fun _ h => h
  have hS : va_S (fun q : Nat => s.heap.size ≤ q) s.heap s.heap [] := va_S.rf
  have hl := lv_entry ([.ref x, .int a]) (n := 3) (Nat.le_of_ble_eq_true rfl)
  rw [lg_entry_eq]
  generalize (lg_sl ([.ref x, .int a]) ++ List.replicate (3 - (lg_sl ([.ref x, .int a])).length) Slot.unset).toArray = ls at hl ⊢
  have hl : lv_has ls 3 [(0, .ref x), (1, .int a)] := hl
  refine lv_aload_n hx hb dX7_dress_0 rfl (lv_at hl 0 rfl) ?_
  refine lv_iload_n hx hb dX7_dress_1 rfl (lv_at hl 1 rfl) ?_
  refine vx_calli (vx_runV (As := [.int a]) (rest := []) ⟨hx, hb, hml, hown, hts⟩ (c_X7_requireRobot l hst dC dI s.heap.size x ax kx a) (cwV 1 hts (goodIn_app (goodIn_of _ (by decide +kernel)) (goodIn_sub ((fun w h => List.mem_cons_of_mem _ (List.mem_append_right _ (h)))) zgX7_requireRobot)) rfl rfl rfl (by decide +kernel) ⟨Nat.le_of_ble_eq_true rfl, Nat.le_of_ble_eq_true rfl⟩) ⟨xPc_blind, va_recv hK hP (ci := 10) (q0 := 0) rfl rfl, xPc_pass hP hK hE hS (fun q h => hA q (Nat.le_trans hS.1 h))⟩ rfl rfl hl.1 rfl (lv_room (Nat.le_of_ble_eq_true rfl)) dX7_dress_2 ⟨Nat.le_of_ble_eq_true rfl, Nat.le_of_ble_eq_true rfl⟩) hS (fun q _ h => hA q (Nat.le_trans hS.1 h)) (fun q h => hA q (Nat.le_trans hS.1 h)) (fun q _ h => hA q (Nat.le_trans hS.1 h)) (fun E ce q9 _ t H locs ht hvm hpx hBX hz hk hS hcell hv hcl => ?_) (fun r_1 u t H locs ht hvm hw hB hz hk hS => ?_)
  · have hBX : E = "java/lang/IndexOutOfBoundsException" := hBX
    subst hBX
    exact zOut (px := True) (E := "java/lang/IndexOutOfBoundsException") hnt hlocks hcell hv hcl hS trivial hS.2.2 (Nat.le_of_ble_eq_true rfl) (Nat.le_of_ble_eq_true rfl)
  have hP := zkn hP hk
  exact hw.elim

def zwX7_change : List Cond := .code yX7_change cX7_change 4 (some .int) :: (([.methodLink RX7 143 yX7_requireRobot, .instanceMethod yX7_requireRobot, .selects RX7 yX7_requireRobot yX7_requireRobot, .initialized RX7] : List Cond) ++ (zwX7_requireRobot))
theorem zgX7_change : zwX7_change.all goodWord = true := zgo rfl (zga (by decide +kernel) (zgX7_requireRobot))
set_option maxHeartbeats 4000000 in
set_option maxRecDepth 100000 in
theorem c_X7_change (l : Launch) (hst : l.stackTraces = false) (dC : Nat → ClassId) (dI : Nat → Nat → Nat) (sz : Nat) (x : Nat) (ax : Nat → Nat) (kx : Nat → ClassId) (a : Int32) : vx_Met l yX7_change zwX7_change ({ frames := 7, cells := 1, slots := 6, locals := 104 }) (xPc dC dI sz x ax kx [.ref x, .int a]) (va_Qi (fun (r : Int32) (_ : Unit) => False) (fun _ _ => True) (fun q : Nat => sz ≤ q)) (zX (True) "java/lang/IndexOutOfBoundsException" (fun q : Nat => sz ≤ q)) 1 6 (fun q : Nat => sz ≤ q) := by
  refine vx_ofW (cc := cX7_change) (maxL := 4) (ret := (some .int)) (by decide) rfl ?_
  intro p e s m args below meth c s₁ B hml hnt hv
  obtain ⟨rfl, hsz, hP, hK, hE⟩ := hv
  have hx := B.exec
  have hb := B.bytes
  have hr := B.returns
  have hts := atoms_spec (ws := zwX7_change) B.pre
  have hown : s.vm.findClass RX7 = some m.cls := findClass_of_methodNamed B.named
  have hlocks := B.notSynchronized
  subst hsz
  have hA : ∀ q : Nat, s.heap.size ≤ q → s.heap.size ≤ q := fun _ h => h
  have hS : va_S (fun q : Nat => s.heap.size ≤ q) s.heap s.heap [] := va_S.rf
  have hl := lv_entry ([.ref x, .int a]) (n := 4) (Nat.le_of_ble_eq_true rfl)
  rw [lg_entry_eq]
  generalize (lg_sl ([.ref x, .int a]) ++ List.replicate (4 - (lg_sl ([.ref x, .int a])).length) Slot.unset).toArray = ls at hl ⊢
  have hl : lv_has ls 4 [(0, .ref x), (1, .int a)] := hl
  refine lv_aload_n hx hb dX7_change_0 rfl (lv_at hl 0 rfl) ?_
  refine lv_iload_n hx hb dX7_change_1 rfl (lv_at hl 1 rfl) ?_
  refine vx_calli (vx_runV (As := [.int a]) (rest := []) ⟨hx, hb, hml, hown, hts⟩ (c_X7_requireRobot l hst dC dI s.heap.size x ax kx a) (cwV 1 hts (goodIn_app (goodIn_of _ (by decide +kernel)) (goodIn_sub ((fun w h => List.mem_cons_of_mem _ (List.mem_append_right _ (h)))) zgX7_requireRobot)) rfl rfl rfl (by decide +kernel) ⟨Nat.le_of_ble_eq_true rfl, Nat.le_of_ble_eq_true rfl⟩) ⟨xPc_blind, va_recv hK hP (ci := 10) (q0 := 0) rfl rfl, xPc_pass hP hK hE hS (fun q h => hA q (Nat.le_trans hS.1 h))⟩ rfl rfl hl.1 rfl (lv_room (Nat.le_of_ble_eq_true rfl)) dX7_change_2 ⟨Nat.le_of_ble_eq_true rfl, Nat.le_of_ble_eq_true rfl⟩) hS (fun q _ h => hA q (Nat.le_trans hS.1 h)) (fun q h => hA q (Nat.le_trans hS.1 h)) (fun q _ h => hA q (Nat.le_trans hS.1 h)) (fun E ce q9 _ t H locs ht hvm hpx hBX hz hk hS hcell hv hcl => ?_) (fun r_1 u t H locs ht hvm hw hB hz hk hS => ?_)
  · have hBX : E = "java/lang/IndexOutOfBoundsException" := hBX
    subst hBX
    exact zOut (px := True) (E := "java/lang/IndexOutOfBoundsException") hnt hlocks hcell hv hcl hS trivial hS.2.2 (Nat.le_of_ble_eq_true rfl) (Nat.le_of_ble_eq_true rfl)
  have hP := zkn hP hk
  exact hw.elim

def zwX7_made : List Cond := .code yX7_made cX7_made 2 (some .int) :: (([.methodLink RX7 143 yX7_requireRobot, .instanceMethod yX7_requireRobot, .selects RX7 yX7_requireRobot yX7_requireRobot, .initialized RX7] : List Cond) ++ (zwX7_requireRobot))
theorem zgX7_made : zwX7_made.all goodWord = true := zgo rfl (zga (by decide +kernel) (zgX7_requireRobot))
set_option maxHeartbeats 4000000 in
set_option maxRecDepth 100000 in
theorem c_X7_made (l : Launch) (hst : l.stackTraces = false) (dC : Nat → ClassId) (dI : Nat → Nat → Nat) (sz : Nat) (x : Nat) (ax : Nat → Nat) (kx : Nat → ClassId) (a : Int32) : vx_Met l yX7_made zwX7_made ({ frames := 7, cells := 1, slots := 6, locals := 104 }) (xPc dC dI sz x ax kx [.ref x, .int a]) (va_Qi (fun (r : Int32) (_ : Unit) => False) (fun _ _ => True) (fun q : Nat => sz ≤ q)) (zX (True) "java/lang/IndexOutOfBoundsException" (fun q : Nat => sz ≤ q)) 1 6 (fun q : Nat => sz ≤ q) := by
  refine vx_ofW (cc := cX7_made) (maxL := 2) (ret := (some .int)) (by decide) rfl ?_
  intro p e s m args below meth c s₁ B hml hnt hv
  obtain ⟨rfl, hsz, hP, hK, hE⟩ := hv
  have hx := B.exec
  have hb := B.bytes
  have hr := B.returns
  have hts := atoms_spec (ws := zwX7_made) B.pre
  have hown : s.vm.findClass RX7 = some m.cls := findClass_of_methodNamed B.named
  have hlocks := B.notSynchronized
  subst hsz
  have hA : ∀ q : Nat, s.heap.size ≤ q → s.heap.size ≤ q := fun _ h => h
  have hS : va_S (fun q : Nat => s.heap.size ≤ q) s.heap s.heap [] := va_S.rf
  have hl := lv_entry ([.ref x, .int a]) (n := 2) (Nat.le_of_ble_eq_true rfl)
  rw [lg_entry_eq]
  generalize (lg_sl ([.ref x, .int a]) ++ List.replicate (2 - (lg_sl ([.ref x, .int a])).length) Slot.unset).toArray = ls at hl ⊢
  have hl : lv_has ls 2 [(0, .ref x), (1, .int a)] := hl
  refine lv_aload_n hx hb dX7_made_0 rfl (lv_at hl 0 rfl) ?_
  refine lv_iload_n hx hb dX7_made_1 rfl (lv_at hl 1 rfl) ?_
  refine vx_calli (vx_runV (As := [.int a]) (rest := []) ⟨hx, hb, hml, hown, hts⟩ (c_X7_requireRobot l hst dC dI s.heap.size x ax kx a) (cwV 1 hts (goodIn_app (goodIn_of _ (by decide +kernel)) (goodIn_sub ((fun w h => List.mem_cons_of_mem _ (List.mem_append_right _ (h)))) zgX7_requireRobot)) rfl rfl rfl (by decide +kernel) ⟨Nat.le_of_ble_eq_true rfl, Nat.le_of_ble_eq_true rfl⟩) ⟨xPc_blind, va_recv hK hP (ci := 10) (q0 := 0) rfl rfl, xPc_pass hP hK hE hS (fun q h => hA q (Nat.le_trans hS.1 h))⟩ rfl rfl hl.1 rfl (lv_room (Nat.le_of_ble_eq_true rfl)) dX7_made_2 ⟨Nat.le_of_ble_eq_true rfl, Nat.le_of_ble_eq_true rfl⟩) hS (fun q _ h => hA q (Nat.le_trans hS.1 h)) (fun q h => hA q (Nat.le_trans hS.1 h)) (fun q _ h => hA q (Nat.le_trans hS.1 h)) (fun E ce q9 _ t H locs ht hvm hpx hBX hz hk hS hcell hv hcl => ?_) (fun r_1 u t H locs ht hvm hw hB hz hk hS => ?_)
  · have hBX : E = "java/lang/IndexOutOfBoundsException" := hBX
    subst hBX
    exact zOut (px := True) (E := "java/lang/IndexOutOfBoundsException") hnt hlocks hcell hv hcl hS trivial hS.2.2 (Nat.le_of_ble_eq_true rfl) (Nat.le_of_ble_eq_true rfl)
  have hP := zkn hP hk
  exact hw.elim

def zwX7_lacks : List Cond := .code yX7_lacks cX7_lacks 2 (some .int) :: (([.methodLink RX7 308 yX7_requireBody, .instanceMethod yX7_requireBody, .selects RX7 yX7_requireBody yX7_requireBody, .initialized RX7] : List Cond) ++ (zwX7_requireBody))
theorem zgX7_lacks : zwX7_lacks.all goodWord = true := zgo rfl (zga (by decide +kernel) (zgX7_requireBody))
set_option maxHeartbeats 4000000 in
set_option maxRecDepth 100000 in
theorem c_X7_lacks (l : Launch) (hst : l.stackTraces = false) (dC : Nat → ClassId) (dI : Nat → Nat → Nat) (sz : Nat) (x : Nat) (ax : Nat → Nat) (kx : Nat → ClassId) (a : Int32) : vx_Met l yX7_lacks zwX7_lacks ({ frames := 7, cells := 1, slots := 6, locals := 104 }) (xPc dC dI sz x ax kx [.ref x, .int a]) (va_Qi (fun (r : Int32) (_ : Unit) => False) (fun _ _ => True) (fun q : Nat => sz ≤ q)) (zX (True) "java/lang/IndexOutOfBoundsException" (fun q : Nat => sz ≤ q)) 1 6 (fun q : Nat => sz ≤ q) := by
  refine vx_ofW (cc := cX7_lacks) (maxL := 2) (ret := (some .int)) (by decide) rfl ?_
  intro p e s m args below meth c s₁ B hml hnt hv
  obtain ⟨rfl, hsz, hP, hK, hE⟩ := hv
  have hx := B.exec
  have hb := B.bytes
  have hr := B.returns
  have hts := atoms_spec (ws := zwX7_lacks) B.pre
  have hown : s.vm.findClass RX7 = some m.cls := findClass_of_methodNamed B.named
  have hlocks := B.notSynchronized
  subst hsz
  have hA : ∀ q : Nat, s.heap.size ≤ q → s.heap.size ≤ q := fun _ h => h
  have hS : va_S (fun q : Nat => s.heap.size ≤ q) s.heap s.heap [] := va_S.rf
  have hl := lv_entry ([.ref x, .int a]) (n := 2) (Nat.le_of_ble_eq_true rfl)
  rw [lg_entry_eq]
  generalize (lg_sl ([.ref x, .int a]) ++ List.replicate (2 - (lg_sl ([.ref x, .int a])).length) Slot.unset).toArray = ls at hl ⊢
  have hl : lv_has ls 2 [(0, .ref x), (1, .int a)] := hl
  refine lv_aload_n hx hb dX7_lacks_0 rfl (lv_at hl 0 rfl) ?_
  refine lv_aload_n hx hb dX7_lacks_1 rfl (lv_at hl 0 rfl) ?_
  refine lv_iload_n hx hb dX7_lacks_2 rfl (lv_at hl 1 rfl) ?_
  refine vx_calli (vx_runV (As := [.int a]) (rest := [.ref x]) ⟨hx, hb, hml, hown, hts⟩ (c_X7_requireBody l hst dC dI s.heap.size x ax kx a) (cwV 1 hts (goodIn_app (goodIn_of _ (by decide +kernel)) (goodIn_sub ((fun w h => List.mem_cons_of_mem _ (List.mem_append_right _ (h)))) zgX7_requireBody)) rfl rfl rfl (by decide +kernel) ⟨Nat.le_of_ble_eq_true rfl, Nat.le_of_ble_eq_true rfl⟩) ⟨xPc_blind, va_recv hK hP (ci := 10) (q0 := 0) rfl rfl, xPc_pass hP hK hE hS (fun q h => hA q (Nat.le_trans hS.1 h))⟩ rfl rfl hl.1 rfl (lv_room (Nat.le_of_ble_eq_true rfl)) dX7_lacks_3 ⟨Nat.le_of_ble_eq_true rfl, Nat.le_of_ble_eq_true rfl⟩) hS (fun q _ h => hA q (Nat.le_trans hS.1 h)) (fun q h => hA q (Nat.le_trans hS.1 h)) (fun q _ h => hA q (Nat.le_trans hS.1 h)) (fun E ce q9 _ t H locs ht hvm hpx hBX hz hk hS hcell hv hcl => ?_) (fun r_1 u t H locs ht hvm hw hB hz hk hS => ?_)
  · have hBX : E = "java/lang/IndexOutOfBoundsException" := hBX
    subst hBX
    exact zOut (px := True) (E := "java/lang/IndexOutOfBoundsException") hnt hlocks hcell hv hcl hS trivial hS.2.2 (Nat.le_of_ble_eq_true rfl) (Nat.le_of_ble_eq_true rfl)
  have hP := zkn hP hk
  exact hw.elim

def zwX7_firstLacking : List Cond := .code yX7_firstLacking cX7_firstLacking 7 (some .int) :: (([.methodLink RX7 308 yX7_requireBody, .instanceMethod yX7_requireBody, .selects RX7 yX7_requireBody yX7_requireBody, .initialized RX7] : List Cond) ++ (zwX7_requireBody))
theorem zgX7_firstLacking : zwX7_firstLacking.all goodWord = true := zgo rfl (zga (by decide +kernel) (zgX7_requireBody))
set_option maxHeartbeats 4000000 in
set_option maxRecDepth 100000 in
theorem c_X7_firstLacking (l : Launch) (hst : l.stackTraces = false) (dC : Nat → ClassId) (dI : Nat → Nat → Nat) (sz : Nat) (x : Nat) (ax : Nat → Nat) (kx : Nat → ClassId) (a : Int32) : vx_Met l yX7_firstLacking zwX7_firstLacking ({ frames := 7, cells := 1, slots := 6, locals := 104 }) (xPc dC dI sz x ax kx [.ref x, .int a]) (va_Qi (fun (r : Int32) (_ : Unit) => False) (fun _ _ => True) (fun q : Nat => sz ≤ q)) (zX (True) "java/lang/IndexOutOfBoundsException" (fun q : Nat => sz ≤ q)) 1 6 (fun q : Nat => sz ≤ q) := by
  refine vx_ofW (cc := cX7_firstLacking) (maxL := 7) (ret := (some .int)) (by decide) rfl ?_
  intro p e s m args below meth c s₁ B hml hnt hv
  obtain ⟨rfl, hsz, hP, hK, hE⟩ := hv
  have hx := B.exec
  have hb := B.bytes
  have hr := B.returns
  have hts := atoms_spec (ws := zwX7_firstLacking) B.pre
  have hown : s.vm.findClass RX7 = some m.cls := findClass_of_methodNamed B.named
  have hlocks := B.notSynchronized
  subst hsz
  have hA : ∀ q : Nat, s.heap.size ≤ q → s.heap.size ≤ q := fun _ h => h
  have hS : va_S (fun q : Nat => s.heap.size ≤ q) s.heap s.heap [] := va_S.rf
  have hl := lv_entry ([.ref x, .int a]) (n := 7) (Nat.le_of_ble_eq_true rfl)
  rw [lg_entry_eq]
  generalize (lg_sl ([.ref x, .int a]) ++ List.replicate (7 - (lg_sl ([.ref x, .int a])).length) Slot.unset).toArray = ls at hl ⊢
  have hl : lv_has ls 7 [(0, .ref x), (1, .int a)] := hl
  refine lv_aload_n hx hb dX7_firstLacking_0 rfl (lv_at hl 0 rfl) ?_
  refine lv_iload_n hx hb dX7_firstLacking_1 rfl (lv_at hl 1 rfl) ?_
  refine vx_calli (vx_runV (As := [.int a]) (rest := []) ⟨hx, hb, hml, hown, hts⟩ (c_X7_requireBody l hst dC dI s.heap.size x ax kx a) (cwV 1 hts (goodIn_app (goodIn_of _ (by decide +kernel)) (goodIn_sub ((fun w h => List.mem_cons_of_mem _ (List.mem_append_right _ (h)))) zgX7_requireBody)) rfl rfl rfl (by decide +kernel) ⟨Nat.le_of_ble_eq_true rfl, Nat.le_of_ble_eq_true rfl⟩) ⟨xPc_blind, va_recv hK hP (ci := 10) (q0 := 0) rfl rfl, xPc_pass hP hK hE hS (fun q h => hA q (Nat.le_trans hS.1 h))⟩ rfl rfl hl.1 rfl (lv_room (Nat.le_of_ble_eq_true rfl)) dX7_firstLacking_2 ⟨Nat.le_of_ble_eq_true rfl, Nat.le_of_ble_eq_true rfl⟩) hS (fun q _ h => hA q (Nat.le_trans hS.1 h)) (fun q h => hA q (Nat.le_trans hS.1 h)) (fun q _ h => hA q (Nat.le_trans hS.1 h)) (fun E ce q9 _ t H locs ht hvm hpx hBX hz hk hS hcell hv hcl => ?_) (fun r_1 u t H locs ht hvm hw hB hz hk hS => ?_)
  · have hBX : E = "java/lang/IndexOutOfBoundsException" := hBX
    subst hBX
    exact zOut (px := True) (E := "java/lang/IndexOutOfBoundsException") hnt hlocks hcell hv hcl hS trivial hS.2.2 (Nat.le_of_ble_eq_true rfl) (Nat.le_of_ble_eq_true rfl)
  have hP := zkn hP hk
  exact hw.elim

def zwX7_measure : List Cond := .code yX7_measure cX7_measure 3 (some .int) :: (([.methodLink RX7 308 yX7_requireBody, .instanceMethod yX7_requireBody, .selects RX7 yX7_requireBody yX7_requireBody, .initialized RX7] : List Cond) ++ (zwX7_requireBody))
theorem zgX7_measure : zwX7_measure.all goodWord = true := zgo rfl (zga (by decide +kernel) (zgX7_requireBody))
set_option maxHeartbeats 4000000 in
set_option maxRecDepth 100000 in
theorem c_X7_measure (l : Launch) (hst : l.stackTraces = false) (dC : Nat → ClassId) (dI : Nat → Nat → Nat) (sz : Nat) (x : Nat) (ax : Nat → Nat) (kx : Nat → ClassId) (a : Int32) : vx_Met l yX7_measure zwX7_measure ({ frames := 7, cells := 1, slots := 6, locals := 104 }) (xPc dC dI sz x ax kx [.ref x, .int a]) (va_Qi (fun (r : Int32) (_ : Unit) => False) (fun _ _ => True) (fun q : Nat => sz ≤ q)) (zX (True) "java/lang/IndexOutOfBoundsException" (fun q : Nat => sz ≤ q)) 1 6 (fun q : Nat => sz ≤ q) := by
  refine vx_ofW (cc := cX7_measure) (maxL := 3) (ret := (some .int)) (by decide) rfl ?_
  intro p e s m args below meth c s₁ B hml hnt hv
  obtain ⟨rfl, hsz, hP, hK, hE⟩ := hv
  have hx := B.exec
  have hb := B.bytes
  have hr := B.returns
  have hts := atoms_spec (ws := zwX7_measure) B.pre
  have hown : s.vm.findClass RX7 = some m.cls := findClass_of_methodNamed B.named
  have hlocks := B.notSynchronized
  subst hsz
  have hA : ∀ q : Nat, s.heap.size ≤ q → s.heap.size ≤ q := fun _ h => h
  have hS : va_S (fun q : Nat => s.heap.size ≤ q) s.heap s.heap [] := va_S.rf
  have hl := lv_entry ([.ref x, .int a]) (n := 3) (Nat.le_of_ble_eq_true rfl)
  rw [lg_entry_eq]
  generalize (lg_sl ([.ref x, .int a]) ++ List.replicate (3 - (lg_sl ([.ref x, .int a])).length) Slot.unset).toArray = ls at hl ⊢
  have hl : lv_has ls 3 [(0, .ref x), (1, .int a)] := hl
  refine lv_aload_n hx hb dX7_measure_0 rfl (lv_at hl 0 rfl) ?_
  refine lv_iload_n hx hb dX7_measure_1 rfl (lv_at hl 1 rfl) ?_
  refine vx_calli (vx_runV (As := [.int a]) (rest := []) ⟨hx, hb, hml, hown, hts⟩ (c_X7_requireBody l hst dC dI s.heap.size x ax kx a) (cwV 1 hts (goodIn_app (goodIn_of _ (by decide +kernel)) (goodIn_sub ((fun w h => List.mem_cons_of_mem _ (List.mem_append_right _ (h)))) zgX7_requireBody)) rfl rfl rfl (by decide +kernel) ⟨Nat.le_of_ble_eq_true rfl, Nat.le_of_ble_eq_true rfl⟩) ⟨xPc_blind, va_recv hK hP (ci := 10) (q0 := 0) rfl rfl, xPc_pass hP hK hE hS (fun q h => hA q (Nat.le_trans hS.1 h))⟩ rfl rfl hl.1 rfl (lv_room (Nat.le_of_ble_eq_true rfl)) dX7_measure_2 ⟨Nat.le_of_ble_eq_true rfl, Nat.le_of_ble_eq_true rfl⟩) hS (fun q _ h => hA q (Nat.le_trans hS.1 h)) (fun q h => hA q (Nat.le_trans hS.1 h)) (fun q _ h => hA q (Nat.le_trans hS.1 h)) (fun E ce q9 _ t H locs ht hvm hpx hBX hz hk hS hcell hv hcl => ?_) (fun r_1 u t H locs ht hvm hw hB hz hk hS => ?_)
  · have hBX : E = "java/lang/IndexOutOfBoundsException" := hBX
    subst hBX
    exact zOut (px := True) (E := "java/lang/IndexOutOfBoundsException") hnt hlocks hcell hv hcl hS trivial hS.2.2 (Nat.le_of_ble_eq_true rfl) (Nat.le_of_ble_eq_true rfl)
  have hP := zkn hP hk
  exact hw.elim

def zwX7_isLacking : List Cond := .code yX7_isLacking cX7_isLacking 3 (some .boolean) :: (([.methodLink RX7 308 yX7_requireBody, .instanceMethod yX7_requireBody, .selects RX7 yX7_requireBody yX7_requireBody, .initialized RX7] : List Cond) ++ (zwX7_requireBody))
theorem zgX7_isLacking : zwX7_isLacking.all goodWord = true := zgo rfl (zga (by decide +kernel) (zgX7_requireBody))
set_option maxHeartbeats 4000000 in
set_option maxRecDepth 100000 in
theorem c_X7_isLacking (l : Launch) (hst : l.stackTraces = false) (dC : Nat → ClassId) (dI : Nat → Nat → Nat) (sz : Nat) (x : Nat) (ax : Nat → Nat) (kx : Nat → ClassId) (a : Int32) (b : Int32) : vx_Met l yX7_isLacking zwX7_isLacking ({ frames := 7, cells := 1, slots := 6, locals := 104 }) (xPc dC dI sz x ax kx [.ref x, .int a, .int b]) (va_Qi (fun (r : Int32) (_ : Unit) => False) (fun _ _ => True) (fun q : Nat => sz ≤ q)) (zX (True) "java/lang/IndexOutOfBoundsException" (fun q : Nat => sz ≤ q)) 1 6 (fun q : Nat => sz ≤ q) := by
  refine vx_ofW (cc := cX7_isLacking) (maxL := 3) (ret := (some .boolean)) (by decide) rfl ?_
  intro p e s m args below meth c s₁ B hml hnt hv
  obtain ⟨rfl, hsz, hP, hK, hE⟩ := hv
  have hx := B.exec
  have hb := B.bytes
  have hr := B.returns
  have hts := atoms_spec (ws := zwX7_isLacking) B.pre
  have hown : s.vm.findClass RX7 = some m.cls := findClass_of_methodNamed B.named
  have hlocks := B.notSynchronized
  subst hsz
  have hA : ∀ q : Nat, s.heap.size ≤ q → s.heap.size ≤ q := fun _ h => h
  have hS : va_S (fun q : Nat => s.heap.size ≤ q) s.heap s.heap [] := va_S.rf
  have hl := lv_entry ([.ref x, .int a, .int b]) (n := 3) (Nat.le_of_ble_eq_true rfl)
  rw [lg_entry_eq]
  generalize (lg_sl ([.ref x, .int a, .int b]) ++ List.replicate (3 - (lg_sl ([.ref x, .int a, .int b])).length) Slot.unset).toArray = ls at hl ⊢
  have hl : lv_has ls 3 [(0, .ref x), (1, .int a), (2, .int b)] := hl
  refine lv_aload_n hx hb dX7_isLacking_0 rfl (lv_at hl 0 rfl) ?_
  refine lv_iload_n hx hb dX7_isLacking_1 rfl (lv_at hl 1 rfl) ?_
  refine vx_calli (vx_runV (As := [.int a]) (rest := []) ⟨hx, hb, hml, hown, hts⟩ (c_X7_requireBody l hst dC dI s.heap.size x ax kx a) (cwV 1 hts (goodIn_app (goodIn_of _ (by decide +kernel)) (goodIn_sub ((fun w h => List.mem_cons_of_mem _ (List.mem_append_right _ (h)))) zgX7_requireBody)) rfl rfl rfl (by decide +kernel) ⟨Nat.le_of_ble_eq_true rfl, Nat.le_of_ble_eq_true rfl⟩) ⟨xPc_blind, va_recv hK hP (ci := 10) (q0 := 0) rfl rfl, xPc_pass hP hK hE hS (fun q h => hA q (Nat.le_trans hS.1 h))⟩ rfl rfl hl.1 rfl (lv_room (Nat.le_of_ble_eq_true rfl)) dX7_isLacking_2 ⟨Nat.le_of_ble_eq_true rfl, Nat.le_of_ble_eq_true rfl⟩) hS (fun q _ h => hA q (Nat.le_trans hS.1 h)) (fun q h => hA q (Nat.le_trans hS.1 h)) (fun q _ h => hA q (Nat.le_trans hS.1 h)) (fun E ce q9 _ t H locs ht hvm hpx hBX hz hk hS hcell hv hcl => ?_) (fun r_1 u t H locs ht hvm hw hB hz hk hS => ?_)
  · have hBX : E = "java/lang/IndexOutOfBoundsException" := hBX
    subst hBX
    exact zOut (px := True) (E := "java/lang/IndexOutOfBoundsException") hnt hlocks hcell hv hcl hS trivial hS.2.2 (Nat.le_of_ble_eq_true rfl) (Nat.le_of_ble_eq_true rfl)
  have hP := zkn hP hk
  exact hw.elim

def zwX7_mend : List Cond := .code yX7_mend cX7_mend 5 (some .int) :: (([.methodLink RX7 308 yX7_requireBody, .instanceMethod yX7_requireBody, .selects RX7 yX7_requireBody yX7_requireBody, .initialized RX7] : List Cond) ++ (zwX7_requireBody))
theorem zgX7_mend : zwX7_mend.all goodWord = true := zgo rfl (zga (by decide +kernel) (zgX7_requireBody))
set_option maxHeartbeats 4000000 in
set_option maxRecDepth 100000 in
theorem c_X7_mend (l : Launch) (hst : l.stackTraces = false) (dC : Nat → ClassId) (dI : Nat → Nat → Nat) (sz : Nat) (x : Nat) (ax : Nat → Nat) (kx : Nat → ClassId) (a : Int32) (b : Int32) : vx_Met l yX7_mend zwX7_mend ({ frames := 7, cells := 1, slots := 6, locals := 104 }) (xPc dC dI sz x ax kx [.ref x, .int a, .int b]) (va_Qi (fun (r : Int32) (_ : Unit) => False) (fun _ _ => True) (fun q : Nat => sz ≤ q)) (zX (True) "java/lang/IndexOutOfBoundsException" (fun q : Nat => sz ≤ q)) 1 6 (fun q : Nat => sz ≤ q) := by
  refine vx_ofW (cc := cX7_mend) (maxL := 5) (ret := (some .int)) (by decide) rfl ?_
  intro p e s m args below meth c s₁ B hml hnt hv
  obtain ⟨rfl, hsz, hP, hK, hE⟩ := hv
  have hx := B.exec
  have hb := B.bytes
  have hr := B.returns
  have hts := atoms_spec (ws := zwX7_mend) B.pre
  have hown : s.vm.findClass RX7 = some m.cls := findClass_of_methodNamed B.named
  have hlocks := B.notSynchronized
  subst hsz
  have hA : ∀ q : Nat, s.heap.size ≤ q → s.heap.size ≤ q := fun _ h => h
  have hS : va_S (fun q : Nat => s.heap.size ≤ q) s.heap s.heap [] := va_S.rf
  have hl := lv_entry ([.ref x, .int a, .int b]) (n := 5) (Nat.le_of_ble_eq_true rfl)
  rw [lg_entry_eq]
  generalize (lg_sl ([.ref x, .int a, .int b]) ++ List.replicate (5 - (lg_sl ([.ref x, .int a, .int b])).length) Slot.unset).toArray = ls at hl ⊢
  have hl : lv_has ls 5 [(0, .ref x), (1, .int a), (2, .int b)] := hl
  refine lv_aload_n hx hb dX7_mend_0 rfl (lv_at hl 0 rfl) ?_
  refine lv_iload_n hx hb dX7_mend_1 rfl (lv_at hl 1 rfl) ?_
  refine vx_calli (vx_runV (As := [.int a]) (rest := []) ⟨hx, hb, hml, hown, hts⟩ (c_X7_requireBody l hst dC dI s.heap.size x ax kx a) (cwV 1 hts (goodIn_app (goodIn_of _ (by decide +kernel)) (goodIn_sub ((fun w h => List.mem_cons_of_mem _ (List.mem_append_right _ (h)))) zgX7_requireBody)) rfl rfl rfl (by decide +kernel) ⟨Nat.le_of_ble_eq_true rfl, Nat.le_of_ble_eq_true rfl⟩) ⟨xPc_blind, va_recv hK hP (ci := 10) (q0 := 0) rfl rfl, xPc_pass hP hK hE hS (fun q h => hA q (Nat.le_trans hS.1 h))⟩ rfl rfl hl.1 rfl (lv_room (Nat.le_of_ble_eq_true rfl)) dX7_mend_2 ⟨Nat.le_of_ble_eq_true rfl, Nat.le_of_ble_eq_true rfl⟩) hS (fun q _ h => hA q (Nat.le_trans hS.1 h)) (fun q h => hA q (Nat.le_trans hS.1 h)) (fun q _ h => hA q (Nat.le_trans hS.1 h)) (fun E ce q9 _ t H locs ht hvm hpx hBX hz hk hS hcell hv hcl => ?_) (fun r_1 u t H locs ht hvm hw hB hz hk hS => ?_)
  · have hBX : E = "java/lang/IndexOutOfBoundsException" := hBX
    subst hBX
    exact zOut (px := True) (E := "java/lang/IndexOutOfBoundsException") hnt hlocks hcell hv hcl hS trivial hS.2.2 (Nat.le_of_ble_eq_true rfl) (Nat.le_of_ble_eq_true rfl)
  have hP := zkn hP hk
  exact hw.elim

def zwX7_maker : List Cond := .code yX7_maker cX7_maker 5 (some .int) :: (([.methodLink RX7 308 yX7_requireBody, .instanceMethod yX7_requireBody, .selects RX7 yX7_requireBody yX7_requireBody, .initialized RX7] : List Cond) ++ (zwX7_requireBody))
theorem zgX7_maker : zwX7_maker.all goodWord = true := zgo rfl (zga (by decide +kernel) (zgX7_requireBody))
set_option maxHeartbeats 4000000 in
set_option maxRecDepth 100000 in
theorem c_X7_maker (l : Launch) (hst : l.stackTraces = false) (dC : Nat → ClassId) (dI : Nat → Nat → Nat) (sz : Nat) (x : Nat) (ax : Nat → Nat) (kx : Nat → ClassId) (a : Int32) (b : Int32) : vx_Met l yX7_maker zwX7_maker ({ frames := 7, cells := 1, slots := 6, locals := 104 }) (xPc dC dI sz x ax kx [.ref x, .int a, .int b]) (va_Qi (fun (r : Int32) (_ : Unit) => False) (fun _ _ => True) (fun q : Nat => sz ≤ q)) (zX (True) "java/lang/IndexOutOfBoundsException" (fun q : Nat => sz ≤ q)) 1 6 (fun q : Nat => sz ≤ q) := by
  refine vx_ofW (cc := cX7_maker) (maxL := 5) (ret := (some .int)) (by decide) rfl ?_
  intro p e s m args below meth c s₁ B hml hnt hv
  obtain ⟨rfl, hsz, hP, hK, hE⟩ := hv
  have hx := B.exec
  have hb := B.bytes
  have hr := B.returns
  have hts := atoms_spec (ws := zwX7_maker) B.pre
  have hown : s.vm.findClass RX7 = some m.cls := findClass_of_methodNamed B.named
  have hlocks := B.notSynchronized
  subst hsz
  have hA : ∀ q : Nat, s.heap.size ≤ q → s.heap.size ≤ q := fun _ h => h
  have hS : va_S (fun q : Nat => s.heap.size ≤ q) s.heap s.heap [] := va_S.rf
  have hl := lv_entry ([.ref x, .int a, .int b]) (n := 5) (Nat.le_of_ble_eq_true rfl)
  rw [lg_entry_eq]
  generalize (lg_sl ([.ref x, .int a, .int b]) ++ List.replicate (5 - (lg_sl ([.ref x, .int a, .int b])).length) Slot.unset).toArray = ls at hl ⊢
  have hl : lv_has ls 5 [(0, .ref x), (1, .int a), (2, .int b)] := hl
  refine lv_aload_n hx hb dX7_maker_0 rfl (lv_at hl 0 rfl) ?_
  refine lv_iload_n hx hb dX7_maker_1 rfl (lv_at hl 1 rfl) ?_
  refine vx_calli (vx_runV (As := [.int a]) (rest := []) ⟨hx, hb, hml, hown, hts⟩ (c_X7_requireBody l hst dC dI s.heap.size x ax kx a) (cwV 1 hts (goodIn_app (goodIn_of _ (by decide +kernel)) (goodIn_sub ((fun w h => List.mem_cons_of_mem _ (List.mem_append_right _ (h)))) zgX7_requireBody)) rfl rfl rfl (by decide +kernel) ⟨Nat.le_of_ble_eq_true rfl, Nat.le_of_ble_eq_true rfl⟩) ⟨xPc_blind, va_recv hK hP (ci := 10) (q0 := 0) rfl rfl, xPc_pass hP hK hE hS (fun q h => hA q (Nat.le_trans hS.1 h))⟩ rfl rfl hl.1 rfl (lv_room (Nat.le_of_ble_eq_true rfl)) dX7_maker_2 ⟨Nat.le_of_ble_eq_true rfl, Nat.le_of_ble_eq_true rfl⟩) hS (fun q _ h => hA q (Nat.le_trans hS.1 h)) (fun q h => hA q (Nat.le_trans hS.1 h)) (fun q _ h => hA q (Nat.le_trans hS.1 h)) (fun E ce q9 _ t H locs ht hvm hpx hBX hz hk hS hcell hv hcl => ?_) (fun r_1 u t H locs ht hvm hw hB hz hk hS => ?_)
  · have hBX : E = "java/lang/IndexOutOfBoundsException" := hBX
    subst hBX
    exact zOut (px := True) (E := "java/lang/IndexOutOfBoundsException") hnt hlocks hcell hv hcl hS trivial hS.2.2 (Nat.le_of_ble_eq_true rfl) (Nat.le_of_ble_eq_true rfl)
  have hP := zkn hP hk
  exact hw.elim

def zwX7_whole : List Cond := .code yX7_whole cX7_whole 6 (some .int) :: (([.fieldLink RX7 33 "Spotbeat" "bodyRow" "[LSpotbeat$Body;"] : List Cond) ++ (wsX70))
theorem zgX7_whole : zwX7_whole.all goodWord = true := zgo rfl (zga (by decide +kernel) (zgcX7))
set_option maxHeartbeats 4000000 in
set_option maxRecDepth 100000 in
theorem c_X7_whole (l : Launch) (dC : Nat → ClassId) (dI : Nat → Nat → Nat) (sz : Nat) (x : Nat) (ax : Nat → Nat) (kx : Nat → ClassId) : Met l yX7_whole zwX7_whole ({ frames := 0, cells := 0, slots := 0, locals := 0 }) (xPc dC dI sz x ax kx [.ref x]) (va_Qi (fun (r : Int32) (_ : Unit) => r = 0) (fun _ _ => True) (fun q : Nat => sz ≤ q)) 0 0 (fun q : Nat => sz ≤ q) := by
  refine Met.ofW (cc := cX7_whole) (maxL := 6) (ret := (some .int)) (by decide) rfl ?_
  intro p e s m args below meth c s₁ B hml hv
  obtain ⟨rfl, hsz, hP, hK, hE⟩ := hv
  have hx := B.exec
  have hb := B.bytes
  have hr := B.returns
  have hts := atoms_spec (ws := zwX7_whole) B.pre
  have hown : s.vm.findClass RX7 = some m.cls := findClass_of_methodNamed B.named
  have hlocks := B.notSynchronized
  subst hsz
  have hA : ∀ q : Nat, s.heap.size ≤ q → s.heap.size ≤ q := fun _ h => h
  have hS : va_S (fun q : Nat => s.heap.size ≤ q) s.heap s.heap [] := va_S.rf
  have hl := lv_entry ([.ref x]) (n := 6) (Nat.le_of_ble_eq_true rfl)
  rw [lg_entry_eq]
  generalize (lg_sl ([.ref x]) ++ List.replicate (6 - (lg_sl ([.ref x])).length) Slot.unset).toArray = ls at hl ⊢
  have hl : lv_has ls 6 [(0, .ref x)] := hl
  refine lv_iconst (v := 0) hx hb dX7_whole_0 (by decide) ?_
  refine lv_istore_n (lv' := [(1, .int 0), (0, .ref x)]) hx hb dX7_whole_1 rfl hl (by decide) rfl (fun ls hl => ?_)
  refine lv_aload_n hx hb dX7_whole_2 rfl (lv_at hl 1 rfl) ?_
  refine va_get (D := (dC, dI)) (ci := 10) (v := .ref (ax 4)) (C := RX7) (T := TX7) (N := 12) hx hb hts (fun w h => List.mem_cons_of_mem _ (List.mem_append_right _ (h))) hown hK hP 0 rfl rfl 4 (by decide) (hts (.fieldLink RX7 33 "Spotbeat" "bodyRow" "[LSpotbeat$Body;") (by decide +kernel)) (fun _ h9 => h9) rfl dX7_whole_3 ?_
  refine lv_astore_n (lv' := [(2, .ref (ax 4)), (1, .int 0), (0, .ref x)]) hx hb dX7_whole_6 rfl hl (by decide) rfl (fun ls hl => ?_)
  refine lv_aload_n hx hb dX7_whole_7 rfl (lv_at hl 0 rfl) ?_
  refine va_alen (v := 40) hx hb hK hP 5 4 rfl rfl rfl dX7_whole_8 ?_
  refine lv_istore_n (lv' := [(3, .int 40), (2, .ref (ax 4)), (1, .int 0), (0, .ref x)]) hx hb dX7_whole_9 rfl hl (by decide) rfl (fun ls hl => ?_)
  refine lv_iconst (v := 0) hx hb dX7_whole_10 (by decide) ?_
  refine lv_istore (lv' := [(4, .int 0), (3, .int 40), (2, .ref (ax 4)), (1, .int 0), (0, .ref x)]) hx hb dX7_whole_11 hl (by decide) rfl (fun ls hl => ?_)
  refine zloop (N := 40) (fun i H locs ls => va_P (dC, dI) vwCl (xW x ax kx) H ∧ va_S (fun q : Nat => s.heap.size ≤ q) s.heap H locs ∧ lv_has ls 6 [(4, .int (nI i)), (3, .int 40), (2, .ref (ax 4)), (1, .int 0), (0, .ref x)]) (fun i H locs ls hiN hI next0 => ?_) 0 _ _ _ (Nat.zero_le _) ⟨hP, hS, hl⟩
  obtain ⟨hP, hS, hl⟩ := hI
  refine lv_iload hx hb dX7_whole_13 (lv_at hl 0 rfl) ?_
  refine lv_iload_n hx hb dX7_whole_15 rfl (lv_at hl 1 rfl) ?_
  refine lv_icmp_ge (tgt := 58) hx hb dX7_whole_16 (by decide) (fun c_1 => ?_) (fun c_1 => ?_)
  · refine lv_iload_n hx hb dX7_whole_58 rfl (lv_at hl 3 rfl) ?_
    refine W.widen (k := 0) (n := 0) (Nat.le_of_ble_eq_true rfl) (Nat.le_of_ble_eq_true rfl) ?_
    exact W.iret (v := 0) hx hb hr (fun t ht hW => ⟨⟨0, (), rfl, rfl, trivial⟩, hS.F ht⟩) hS.2.2 dX7_whole_59
  · have hlt0 : i < 40 := by
      rcases Nat.lt_or_ge i 40 with q | q
      · exact q
      · exact absurd (nI_le q (by omega)) c_1
    have next0 := next0 hlt0
    refine lv_aload_n hx hb dX7_whole_19 rfl (lv_at hl 2 rfl) ?_
    refine lv_iload hx hb dX7_whole_20 (lv_at hl 0 rfl) ?_
    refine va_aldq hx hb hK hP 5 4 rfl rfl (vp_in_nI hlt0 (by decide)) dX7_whole_22 ?_
    refine W.eq (g2 := F0 m 23 ls [.null]) rfl ?_
    refine lv_astoreN (lv' := [(5, .null), (4, .int (nI i)), (3, .int 40), (2, .ref (ax 4)), (1, .int 0), (0, .ref x)]) hx hb dX7_whole_23 hl (by decide) rfl (fun ls hl => ?_)
    refine lv_aloadN hx hb dX7_whole_25 (lv_at hl 0 rfl) ?_
    refine lv_ifnullN (tgt := 52) hx hb dX7_whole_27 (by decide) ?_
    refine lv_iinc (v := nI (i + 1)) (lv' := [(4, .int (nI (i + 1))), (5, .null), (3, .int 40), (2, .ref (ax 4)), (1, .int 0), (0, .ref x)]) hx hb dX7_whole_52 hl (k := 1) rfl ((rfl : nI i + Int32.ofInt 1 = nI i + 1).trans (nI_1 i)) (by decide) rfl (fun ls hl => ?_)
    refine lv_goto (tgt := 13) hx hb dX7_whole_55 (by decide) ?_
    exact next0 _ _ _ ⟨hP, hS, lv_sub hl [0, 2, 3, 4, 5] rfl⟩

def zwX7_offset : List Cond := .code yX7_offset cX7_offset 5 (some .int) :: (([.methodLink RX7 118 yX7_requireStation, .instanceMethod yX7_requireStation, .selects RX7 yX7_requireStation yX7_requireStation, .initialized RX7] : List Cond) ++ (zwX7_requireStation))
theorem zgX7_offset : zwX7_offset.all goodWord = true := zgo rfl (zga (by decide +kernel) (zgX7_requireStation))
set_option maxHeartbeats 4000000 in
set_option maxRecDepth 100000 in
theorem c_X7_offset (l : Launch) (hst : l.stackTraces = false) (dC : Nat → ClassId) (dI : Nat → Nat → Nat) (sz : Nat) (x : Nat) (ax : Nat → Nat) (kx : Nat → ClassId) (a : Int32) (b : Int32) : vx_Met l yX7_offset zwX7_offset ({ frames := 7, cells := 1, slots := 6, locals := 104 }) (xPc dC dI sz x ax kx [.ref x, .int a, .int b]) (va_Qi (fun (r : Int32) (_ : Unit) => False) (fun _ _ => True) (fun q : Nat => sz ≤ q)) (zX (True) "java/lang/IndexOutOfBoundsException" (fun q : Nat => sz ≤ q)) 1 6 (fun q : Nat => sz ≤ q) := by
  refine vx_ofW (cc := cX7_offset) (maxL := 5) (ret := (some .int)) (by decide) rfl ?_
  intro p e s m args below meth c s₁ B hml hnt hv
  obtain ⟨rfl, hsz, hP, hK, hE⟩ := hv
  have hx := B.exec
  have hb := B.bytes
  have hr := B.returns
  have hts := atoms_spec (ws := zwX7_offset) B.pre
  have hown : s.vm.findClass RX7 = some m.cls := findClass_of_methodNamed B.named
  have hlocks := B.notSynchronized
  subst hsz
  have hA : ∀ q : Nat, s.heap.size ≤ q → s.heap.size ≤ q := fun _ h => h
  have hS : va_S (fun q : Nat => s.heap.size ≤ q) s.heap s.heap [] := va_S.rf
  have hl := lv_entry ([.ref x, .int a, .int b]) (n := 5) (Nat.le_of_ble_eq_true rfl)
  rw [lg_entry_eq]
  generalize (lg_sl ([.ref x, .int a, .int b]) ++ List.replicate (5 - (lg_sl ([.ref x, .int a, .int b])).length) Slot.unset).toArray = ls at hl ⊢
  have hl : lv_has ls 5 [(0, .ref x), (1, .int a), (2, .int b)] := hl
  refine lv_aload_n hx hb dX7_offset_0 rfl (lv_at hl 0 rfl) ?_
  refine lv_iload_n hx hb dX7_offset_1 rfl (lv_at hl 1 rfl) ?_
  refine vx_calli (vx_runV (As := [.int a]) (rest := []) ⟨hx, hb, hml, hown, hts⟩ (c_X7_requireStation l hst dC dI s.heap.size x ax kx a) (cwV 1 hts (goodIn_app (goodIn_of _ (by decide +kernel)) (goodIn_sub ((fun w h => List.mem_cons_of_mem _ (List.mem_append_right _ (h)))) zgX7_requireStation)) rfl rfl rfl (by decide +kernel) ⟨Nat.le_of_ble_eq_true rfl, Nat.le_of_ble_eq_true rfl⟩) ⟨xPc_blind, va_recv hK hP (ci := 10) (q0 := 0) rfl rfl, xPc_pass hP hK hE hS (fun q h => hA q (Nat.le_trans hS.1 h))⟩ rfl rfl hl.1 rfl (lv_room (Nat.le_of_ble_eq_true rfl)) dX7_offset_2 ⟨Nat.le_of_ble_eq_true rfl, Nat.le_of_ble_eq_true rfl⟩) hS (fun q _ h => hA q (Nat.le_trans hS.1 h)) (fun q h => hA q (Nat.le_trans hS.1 h)) (fun q _ h => hA q (Nat.le_trans hS.1 h)) (fun E ce q9 _ t H locs ht hvm hpx hBX hz hk hS hcell hv hcl => ?_) (fun r_1 u t H locs ht hvm hw hB hz hk hS => ?_)
  · have hBX : E = "java/lang/IndexOutOfBoundsException" := hBX
    subst hBX
    exact zOut (px := True) (E := "java/lang/IndexOutOfBoundsException") hnt hlocks hcell hv hcl hS trivial hS.2.2 (Nat.le_of_ble_eq_true rfl) (Nat.le_of_ble_eq_true rfl)
  have hP := zkn hP hk
  exact hw.elim

def zwX7_feedBack : List Cond := .code yX7_feedBack cX7_feedBack 5 (some .int) :: (([.methodLink RX7 118 yX7_requireStation, .instanceMethod yX7_requireStation, .selects RX7 yX7_requireStation yX7_requireStation, .initialized RX7] : List Cond) ++ (zwX7_requireStation))
theorem zgX7_feedBack : zwX7_feedBack.all goodWord = true := zgo rfl (zga (by decide +kernel) (zgX7_requireStation))
set_option maxHeartbeats 4000000 in
set_option maxRecDepth 100000 in
theorem c_X7_feedBack (l : Launch) (hst : l.stackTraces = false) (dC : Nat → ClassId) (dI : Nat → Nat → Nat) (sz : Nat) (x : Nat) (ax : Nat → Nat) (kx : Nat → ClassId) (a : Int32) (b : Int32) : vx_Met l yX7_feedBack zwX7_feedBack ({ frames := 7, cells := 1, slots := 6, locals := 104 }) (xPc dC dI sz x ax kx [.ref x, .int a, .int b]) (va_Qi (fun (r : Int32) (_ : Unit) => False) (fun _ _ => True) (fun q : Nat => sz ≤ q)) (zX (True) "java/lang/IndexOutOfBoundsException" (fun q : Nat => sz ≤ q)) 1 6 (fun q : Nat => sz ≤ q) := by
  refine vx_ofW (cc := cX7_feedBack) (maxL := 5) (ret := (some .int)) (by decide) rfl ?_
  intro p e s m args below meth c s₁ B hml hnt hv
  obtain ⟨rfl, hsz, hP, hK, hE⟩ := hv
  have hx := B.exec
  have hb := B.bytes
  have hr := B.returns
  have hts := atoms_spec (ws := zwX7_feedBack) B.pre
  have hown : s.vm.findClass RX7 = some m.cls := findClass_of_methodNamed B.named
  have hlocks := B.notSynchronized
  subst hsz
  have hA : ∀ q : Nat, s.heap.size ≤ q → s.heap.size ≤ q := fun _ h => h
  have hS : va_S (fun q : Nat => s.heap.size ≤ q) s.heap s.heap [] := va_S.rf
  have hl := lv_entry ([.ref x, .int a, .int b]) (n := 5) (Nat.le_of_ble_eq_true rfl)
  rw [lg_entry_eq]
  generalize (lg_sl ([.ref x, .int a, .int b]) ++ List.replicate (5 - (lg_sl ([.ref x, .int a, .int b])).length) Slot.unset).toArray = ls at hl ⊢
  have hl : lv_has ls 5 [(0, .ref x), (1, .int a), (2, .int b)] := hl
  refine lv_aload_n hx hb dX7_feedBack_0 rfl (lv_at hl 0 rfl) ?_
  refine lv_iload_n hx hb dX7_feedBack_1 rfl (lv_at hl 1 rfl) ?_
  refine vx_calli (vx_runV (As := [.int a]) (rest := []) ⟨hx, hb, hml, hown, hts⟩ (c_X7_requireStation l hst dC dI s.heap.size x ax kx a) (cwV 1 hts (goodIn_app (goodIn_of _ (by decide +kernel)) (goodIn_sub ((fun w h => List.mem_cons_of_mem _ (List.mem_append_right _ (h)))) zgX7_requireStation)) rfl rfl rfl (by decide +kernel) ⟨Nat.le_of_ble_eq_true rfl, Nat.le_of_ble_eq_true rfl⟩) ⟨xPc_blind, va_recv hK hP (ci := 10) (q0 := 0) rfl rfl, xPc_pass hP hK hE hS (fun q h => hA q (Nat.le_trans hS.1 h))⟩ rfl rfl hl.1 rfl (lv_room (Nat.le_of_ble_eq_true rfl)) dX7_feedBack_2 ⟨Nat.le_of_ble_eq_true rfl, Nat.le_of_ble_eq_true rfl⟩) hS (fun q _ h => hA q (Nat.le_trans hS.1 h)) (fun q h => hA q (Nat.le_trans hS.1 h)) (fun q _ h => hA q (Nat.le_trans hS.1 h)) (fun E ce q9 _ t H locs ht hvm hpx hBX hz hk hS hcell hv hcl => ?_) (fun r_1 u t H locs ht hvm hw hB hz hk hS => ?_)
  · have hBX : E = "java/lang/IndexOutOfBoundsException" := hBX
    subst hBX
    exact zOut (px := True) (E := "java/lang/IndexOutOfBoundsException") hnt hlocks hcell hv hcl hS trivial hS.2.2 (Nat.le_of_ble_eq_true rfl) (Nat.le_of_ble_eq_true rfl)
  have hP := zkn hP hk
  exact hw.elim

def zwX7_checksum : List Cond := .code yX7_checksum cX7_checksum 7 (some .long) :: (([.constantLong RX7 443 (7), .fieldLink RX7 33 "Spotbeat" "bodyRow" "[LSpotbeat$Body;"] : List Cond) ++ (wsX70))
theorem zgX7_checksum : zwX7_checksum.all goodWord = true := zgo rfl (zga (by decide +kernel) (zgcX7))
set_option maxHeartbeats 4000000 in
set_option maxRecDepth 100000 in
theorem c_X7_checksum (l : Launch) (dC : Nat → ClassId) (dI : Nat → Nat → Nat) (sz : Nat) (x : Nat) (ax : Nat → Nat) (kx : Nat → ClassId) : Met l yX7_checksum zwX7_checksum ({ frames := 0, cells := 0, slots := 0, locals := 0 }) (xPc dC dI sz x ax kx [.ref x]) (va_Ql (fun (r : Int64) (_ : Unit) => r = 7) (fun _ _ => True) (fun q : Nat => sz ≤ q)) 0 0 (fun q : Nat => sz ≤ q) := by
  refine Met.ofW (cc := cX7_checksum) (maxL := 7) (ret := (some .long)) (by decide) rfl ?_
  intro p e s m args below meth c s₁ B hml hv
  obtain ⟨rfl, hsz, hP, hK, hE⟩ := hv
  have hx := B.exec
  have hb := B.bytes
  have hr := B.returns
  have hts := atoms_spec (ws := zwX7_checksum) B.pre
  have hown : s.vm.findClass RX7 = some m.cls := findClass_of_methodNamed B.named
  have hlocks := B.notSynchronized
  subst hsz
  have hA : ∀ q : Nat, s.heap.size ≤ q → s.heap.size ≤ q := fun _ h => h
  have hS : va_S (fun q : Nat => s.heap.size ≤ q) s.heap s.heap [] := va_S.rf
  have hl := lv_entry ([.ref x]) (n := 7) (Nat.le_of_ble_eq_true rfl)
  rw [lg_entry_eq]
  generalize (lg_sl ([.ref x]) ++ List.replicate (7 - (lg_sl ([.ref x])).length) Slot.unset).toArray = ls at hl ⊢
  have hl : lv_has ls 7 [(0, .ref x)] := hl
  refine lv_ldc2 (own := RX7) (v := 7) hx hb hown (hts (.constantLong RX7 443 (7)) (by decide +kernel)) dX7_checksum_0 ?_
  refine lv_lstore_n (lv' := [(1, .long 7), (0, .ref x)]) hx hb dX7_checksum_3 rfl hl (by decide) rfl (fun ls hl => ?_)
  refine lv_aload_n hx hb dX7_checksum_4 rfl (lv_at hl 1 rfl) ?_
  refine va_get (D := (dC, dI)) (ci := 10) (v := .ref (ax 4)) (C := RX7) (T := TX7) (N := 12) hx hb hts (fun w h => List.mem_cons_of_mem _ (List.mem_append_right _ (h))) hown hK hP 0 rfl rfl 4 (by decide) (hts (.fieldLink RX7 33 "Spotbeat" "bodyRow" "[LSpotbeat$Body;") (by decide +kernel)) (fun _ h9 => h9) rfl dX7_checksum_5 ?_
  refine lv_astore_n (lv' := [(3, .ref (ax 4)), (1, .long 7), (0, .ref x)]) hx hb dX7_checksum_8 rfl hl (by decide) rfl (fun ls hl => ?_)
  refine lv_aload_n hx hb dX7_checksum_9 rfl (lv_at hl 0 rfl) ?_
  refine va_alen (v := 40) hx hb hK hP 5 4 rfl rfl rfl dX7_checksum_10 ?_
  refine lv_istore (lv' := [(4, .int 40), (3, .ref (ax 4)), (1, .long 7), (0, .ref x)]) hx hb dX7_checksum_11 hl (by decide) rfl (fun ls hl => ?_)
  refine lv_iconst (v := 0) hx hb dX7_checksum_13 (by decide) ?_
  refine lv_istore (lv' := [(5, .int 0), (4, .int 40), (3, .ref (ax 4)), (1, .long 7), (0, .ref x)]) hx hb dX7_checksum_14 hl (by decide) rfl (fun ls hl => ?_)
  refine zloop (N := 40) (fun i H locs ls => va_P (dC, dI) vwCl (xW x ax kx) H ∧ va_S (fun q : Nat => s.heap.size ≤ q) s.heap H locs ∧ lv_has ls 7 [(5, .int (nI i)), (4, .int 40), (3, .ref (ax 4)), (1, .long 7), (0, .ref x)]) (fun i H locs ls hiN hI next0 => ?_) 0 _ _ _ (Nat.zero_le _) ⟨hP, hS, hl⟩
  obtain ⟨hP, hS, hl⟩ := hI
  refine lv_iload hx hb dX7_checksum_16 (lv_at hl 0 rfl) ?_
  refine lv_iload hx hb dX7_checksum_18 (lv_at hl 1 rfl) ?_
  refine lv_icmp_ge (tgt := 68) hx hb dX7_checksum_20 (by decide) (fun c_1 => ?_) (fun c_1 => ?_)
  · refine lv_lload_n hx hb dX7_checksum_68 rfl (lv_at hl 3 rfl) ?_
    refine W.widen (k := 0) (n := 0) (Nat.le_of_ble_eq_true rfl) (Nat.le_of_ble_eq_true rfl) ?_
    exact W.lret (v := 7) hx hb hr (fun t ht hW => ⟨⟨7, (), rfl, rfl, trivial⟩, hS.F ht⟩) hS.2.2 dX7_checksum_69
  · have hlt0 : i < 40 := by
      rcases Nat.lt_or_ge i 40 with q | q
      · exact q
      · exact absurd (nI_le q (by omega)) c_1
    have next0 := next0 hlt0
    refine lv_aload_n hx hb dX7_checksum_23 rfl (lv_at hl 2 rfl) ?_
    refine lv_iload hx hb dX7_checksum_24 (lv_at hl 0 rfl) ?_
    refine va_aldq hx hb hK hP 5 4 rfl rfl (vp_in_nI hlt0 (by decide)) dX7_checksum_26 ?_
    refine W.eq (g2 := F0 m 27 ls [.null]) rfl ?_
    refine lv_astoreN (lv' := [(6, .null), (5, .int (nI i)), (4, .int 40), (3, .ref (ax 4)), (1, .long 7), (0, .ref x)]) hx hb dX7_checksum_27 hl (by decide) rfl (fun ls hl => ?_)
    refine lv_aloadN hx hb dX7_checksum_29 (lv_at hl 0 rfl) ?_
    refine lv_ifnullN (tgt := 62) hx hb dX7_checksum_31 (by decide) ?_
    refine lv_iinc (v := nI (i + 1)) (lv' := [(5, .int (nI (i + 1))), (6, .null), (4, .int 40), (3, .ref (ax 4)), (1, .long 7), (0, .ref x)]) hx hb dX7_checksum_62 hl (k := 1) rfl ((rfl : nI i + Int32.ofInt 1 = nI i + 1).trans (nI_1 i)) (by decide) rfl (fun ls hl => ?_)
    refine lv_goto (tgt := 16) hx hb dX7_checksum_65 (by decide) ?_
    exact next0 _ _ _ ⟨hP, hS, lv_sub hl [0, 2, 3, 4, 5] rfl⟩

def zwX7_wholeShare : List Cond := .code yX7_wholeShare cX7_wholeShare 2 (some .float) :: (([.methodLink RX7 314 yX7_countAt, .instanceMethod yX7_countAt, .selects RX7 yX7_countAt yX7_countAt, .initialized RX7, .classLink RX7 302 "java/util/NoSuchElementException", .initialized "java/util/NoSuchElementException"] : List Cond) ++ (zwX7_countAt ++ ((zx_nsee.filter goodWord))))
theorem zgX7_wholeShare : zwX7_wholeShare.all goodWord = true := zgo rfl (zga (by decide +kernel) (zga zgX7_countAt ((zgf _))))
set_option maxHeartbeats 4000000 in
set_option maxRecDepth 100000 in
theorem c_X7_wholeShare (l : Launch) (hst : l.stackTraces = false) (dC : Nat → ClassId) (dI : Nat → Nat → Nat) (sz : Nat) (x : Nat) (ax : Nat → Nat) (kx : Nat → ClassId) : vx_Met l yX7_wholeShare zwX7_wholeShare ({ frames := 6, cells := 1, slots := 6, locals := 82 }) (xPc dC dI sz x ax kx [.ref x]) (va_Qi (fun (r : Int32) (_ : Unit) => False) (fun _ _ => True) (fun q : Nat => sz ≤ q)) (zX (True) "java/util/NoSuchElementException" (fun q : Nat => sz ≤ q)) 1 6 (fun q : Nat => sz ≤ q) := by
  refine vx_ofW (cc := cX7_wholeShare) (maxL := 2) (ret := (some .float)) (by decide) rfl ?_
  intro p e s m args below meth c s₁ B hml hnt hv
  obtain ⟨rfl, hsz, hP, hK, hE⟩ := hv
  have hx := B.exec
  have hb := B.bytes
  have hr := B.returns
  have hts := atoms_spec (ws := zwX7_wholeShare) B.pre
  have hown : s.vm.findClass RX7 = some m.cls := findClass_of_methodNamed B.named
  have hlocks := B.notSynchronized
  subst hsz
  have hA : ∀ q : Nat, s.heap.size ≤ q → s.heap.size ≤ q := fun _ h => h
  have hS : va_S (fun q : Nat => s.heap.size ≤ q) s.heap s.heap [] := va_S.rf
  have hl := lv_entry ([.ref x]) (n := 2) (Nat.le_of_ble_eq_true rfl)
  rw [lg_entry_eq]
  generalize (lg_sl ([.ref x]) ++ List.replicate (2 - (lg_sl ([.ref x])).length) Slot.unset).toArray = ls at hl ⊢
  have hl : lv_has ls 2 [(0, .ref x)] := hl
  refine lv_aload_n hx hb dX7_wholeShare_0 rfl (lv_at hl 0 rfl) ?_
  refine lv_bipush (v := (-2)) hx hb dX7_wholeShare_1 (by decide) ?_
  refine va_calli (va_runV (As := [.int (-2)]) (rest := []) ⟨hx, hb, hml, hown, hts⟩ (c_X7_countAt l dC dI s.heap.size x ax kx (-2)) (cwV 1 hts (goodIn_app (goodIn_of _ (by decide +kernel)) (goodIn_sub ((fun w h => List.mem_cons_of_mem _ (List.mem_append_right _ (List.mem_append_left _ h)))) zgX7_countAt)) rfl rfl rfl (by decide +kernel) ⟨Nat.le_of_ble_eq_true rfl, Nat.le_of_ble_eq_true rfl⟩) ⟨xPc_blind, va_recv hK hP (ci := 10) (q0 := 0) rfl rfl, xPc_pass hP hK hE hS (fun q h => hA q (Nat.le_trans hS.1 h))⟩ rfl rfl hl.1 rfl (lv_room (Nat.le_of_ble_eq_true rfl)) dX7_wholeShare_3 ⟨Nat.le_of_ble_eq_true rfl, Nat.le_of_ble_eq_true rfl⟩) hS (fun q _ h => hA q (Nat.le_trans hS.1 h)) (fun q h => hA q (Nat.le_trans hS.1 h)) (fun r_1 u t H locs ht hvm hw hB hz hk hS => ?_)
  have hP := zkn hP hk
  have hw : r_1 = 0 := hw
  subst hw
  refine lv_istore_n (lv' := [(1, .int 0), (0, .ref x)]) hx hb dX7_wholeShare_6 rfl hl (by decide) rfl (fun ls hl => ?_)
  refine lv_iload_n hx hb dX7_wholeShare_7 rfl (lv_at hl 0 rfl) ?_
  refine lv_if_ne (tgt := 22) hx hb dX7_wholeShare_8 (by decide) (fun c_2 => absurd c_2 (by decide)) (fun _ => ?_)
  exact zThrowNs (Ts := zwX7_wholeShare) (px := True) (ik := 302) (is := 430) (text := "none is off the line") hx hb hst hown hts hE hS (hl.1.trans hml.symm) (by decide) (by decide +kernel) (by decide +kernel) (fun w h => List.mem_cons_of_mem _ (List.mem_append_right _ (List.mem_append_right _ (h)))) zNs_bad zNs_ot dX7_wholeShare_11 dX7_wholeShare_14 dX7_wholeShare_15 dX7_wholeShare_18 dX7_wholeShare_21 hnt (Nat.le_of_ble_eq_true rfl) (Nat.le_of_ble_eq_true rfl) (Nat.le_of_ble_eq_true rfl) (Nat.le_of_ble_eq_true rfl) hlocks trivial hS.2.2 (Nat.le_of_ble_eq_true rfl) (Nat.le_of_ble_eq_true rfl)

def zwX7_meanMeasure : List Cond := .code yX7_meanMeasure cX7_meanMeasure 7 (some .double) :: (([.methodLink RX7 314 yX7_countAt, .instanceMethod yX7_countAt, .selects RX7 yX7_countAt yX7_countAt, .initialized RX7, .classLink RX7 302 "java/util/NoSuchElementException", .initialized "java/util/NoSuchElementException"] : List Cond) ++ (zwX7_countAt ++ ((zx_nsee.filter goodWord))))
theorem zgX7_meanMeasure : zwX7_meanMeasure.all goodWord = true := zgo rfl (zga (by decide +kernel) (zga zgX7_countAt ((zgf _))))
set_option maxHeartbeats 4000000 in
set_option maxRecDepth 100000 in
theorem c_X7_meanMeasure (l : Launch) (hst : l.stackTraces = false) (dC : Nat → ClassId) (dI : Nat → Nat → Nat) (sz : Nat) (x : Nat) (ax : Nat → Nat) (kx : Nat → ClassId) : vx_Met l yX7_meanMeasure zwX7_meanMeasure ({ frames := 6, cells := 1, slots := 6, locals := 82 }) (xPc dC dI sz x ax kx [.ref x]) (va_Qi (fun (r : Int32) (_ : Unit) => False) (fun _ _ => True) (fun q : Nat => sz ≤ q)) (zX (True) "java/util/NoSuchElementException" (fun q : Nat => sz ≤ q)) 1 6 (fun q : Nat => sz ≤ q) := by
  refine vx_ofW (cc := cX7_meanMeasure) (maxL := 7) (ret := (some .double)) (by decide) rfl ?_
  intro p e s m args below meth c s₁ B hml hnt hv
  obtain ⟨rfl, hsz, hP, hK, hE⟩ := hv
  have hx := B.exec
  have hb := B.bytes
  have hr := B.returns
  have hts := atoms_spec (ws := zwX7_meanMeasure) B.pre
  have hown : s.vm.findClass RX7 = some m.cls := findClass_of_methodNamed B.named
  have hlocks := B.notSynchronized
  subst hsz
  have hA : ∀ q : Nat, s.heap.size ≤ q → s.heap.size ≤ q := fun _ h => h
  have hS : va_S (fun q : Nat => s.heap.size ≤ q) s.heap s.heap [] := va_S.rf
  have hl := lv_entry ([.ref x]) (n := 7) (Nat.le_of_ble_eq_true rfl)
  rw [lg_entry_eq]
  generalize (lg_sl ([.ref x]) ++ List.replicate (7 - (lg_sl ([.ref x])).length) Slot.unset).toArray = ls at hl ⊢
  have hl : lv_has ls 7 [(0, .ref x)] := hl
  refine lv_aload_n hx hb dX7_meanMeasure_0 rfl (lv_at hl 0 rfl) ?_
  refine lv_bipush (v := (-2)) hx hb dX7_meanMeasure_1 (by decide) ?_
  refine va_calli (va_runV (As := [.int (-2)]) (rest := []) ⟨hx, hb, hml, hown, hts⟩ (c_X7_countAt l dC dI s.heap.size x ax kx (-2)) (cwV 1 hts (goodIn_app (goodIn_of _ (by decide +kernel)) (goodIn_sub ((fun w h => List.mem_cons_of_mem _ (List.mem_append_right _ (List.mem_append_left _ h)))) zgX7_countAt)) rfl rfl rfl (by decide +kernel) ⟨Nat.le_of_ble_eq_true rfl, Nat.le_of_ble_eq_true rfl⟩) ⟨xPc_blind, va_recv hK hP (ci := 10) (q0 := 0) rfl rfl, xPc_pass hP hK hE hS (fun q h => hA q (Nat.le_trans hS.1 h))⟩ rfl rfl hl.1 rfl (lv_room (Nat.le_of_ble_eq_true rfl)) dX7_meanMeasure_3 ⟨Nat.le_of_ble_eq_true rfl, Nat.le_of_ble_eq_true rfl⟩) hS (fun q _ h => hA q (Nat.le_trans hS.1 h)) (fun q h => hA q (Nat.le_trans hS.1 h)) (fun r_1 u t H locs ht hvm hw hB hz hk hS => ?_)
  have hP := zkn hP hk
  have hw : r_1 = 0 := hw
  subst hw
  refine lv_istore_n (lv' := [(1, .int 0), (0, .ref x)]) hx hb dX7_meanMeasure_6 rfl hl (by decide) rfl (fun ls hl => ?_)
  refine lv_iload_n hx hb dX7_meanMeasure_7 rfl (lv_at hl 0 rfl) ?_
  refine lv_if_ne (tgt := 22) hx hb dX7_meanMeasure_8 (by decide) (fun c_2 => absurd c_2 (by decide)) (fun _ => ?_)
  exact zThrowNs (Ts := zwX7_meanMeasure) (px := True) (ik := 302) (is := 430) (text := "none is off the line") hx hb hst hown hts hE hS (hl.1.trans hml.symm) (by decide) (by decide +kernel) (by decide +kernel) (fun w h => List.mem_cons_of_mem _ (List.mem_append_right _ (List.mem_append_right _ (h)))) zNs_bad zNs_ot dX7_meanMeasure_11 dX7_meanMeasure_14 dX7_meanMeasure_15 dX7_meanMeasure_18 dX7_meanMeasure_21 hnt (Nat.le_of_ble_eq_true rfl) (Nat.le_of_ble_eq_true rfl) (Nat.le_of_ble_eq_true rfl) (Nat.le_of_ble_eq_true rfl) hlocks trivial hS.2.2 (Nat.le_of_ble_eq_true rfl) (Nat.le_of_ble_eq_true rfl)

def zwX7_isSound : List Cond := .code yX7_isSound cX7_isSound 1 (some .boolean) :: (([.methodLink RX7 450 yX7_stationsAreSound, .instanceMethod yX7_stationsAreSound, .selects RX7 yX7_stationsAreSound yX7_stationsAreSound, .initialized RX7, .methodLink RX7 453 yX7_orderIsSound, .instanceMethod yX7_orderIsSound, .selects RX7 yX7_orderIsSound yX7_orderIsSound, .methodLink RX7 456 yX7_makersAreSound, .instanceMethod yX7_makersAreSound, .selects RX7 yX7_makersAreSound yX7_makersAreSound] : List Cond) ++ (zwX7_stationsAreSound ++ (zwX7_orderIsSound ++ (zwX7_makersAreSound))))
theorem zgX7_isSound : zwX7_isSound.all goodWord = true := zgo rfl (zga (by decide +kernel) (zga zgX7_stationsAreSound (zga zgX7_orderIsSound (zgX7_makersAreSound))))
set_option maxHeartbeats 4000000 in
set_option maxRecDepth 100000 in
theorem c_X7_isSound (l : Launch) (dC : Nat → ClassId) (dI : Nat → Nat → Nat) (sz : Nat) (x : Nat) (ax : Nat → Nat) (kx : Nat → ClassId) : Met l yX7_isSound zwX7_isSound ({ frames := 1, cells := 0, slots := 0, locals := 28 }) (xPc dC dI sz x ax kx [.ref x]) (va_Qi (fun (r : Int32) (_ : Unit) => r = 1) (fun _ _ => True) (fun q : Nat => sz ≤ q)) 0 0 (fun q : Nat => sz ≤ q) := by
  refine Met.ofW (cc := cX7_isSound) (maxL := 1) (ret := (some .boolean)) (by decide) rfl ?_
  intro p e s m args below meth c s₁ B hml hv
  obtain ⟨rfl, hsz, hP, hK, hE⟩ := hv
  have hx := B.exec
  have hb := B.bytes
  have hr := B.returns
  have hts := atoms_spec (ws := zwX7_isSound) B.pre
  have hown : s.vm.findClass RX7 = some m.cls := findClass_of_methodNamed B.named
  have hlocks := B.notSynchronized
  subst hsz
  have hA : ∀ q : Nat, s.heap.size ≤ q → s.heap.size ≤ q := fun _ h => h
  have hS : va_S (fun q : Nat => s.heap.size ≤ q) s.heap s.heap [] := va_S.rf
  have hl := lv_entry ([.ref x]) (n := 1) (Nat.le_of_ble_eq_true rfl)
  rw [lg_entry_eq]
  generalize (lg_sl ([.ref x]) ++ List.replicate (1 - (lg_sl ([.ref x])).length) Slot.unset).toArray = ls at hl ⊢
  have hl : lv_has ls 1 [(0, .ref x)] := hl
  refine lv_aload_n hx hb dX7_isSound_0 rfl (lv_at hl 0 rfl) ?_
  refine va_calli (va_runV (As := []) (rest := []) ⟨hx, hb, hml, hown, hts⟩ (c_X7_stationsAreSound l dC dI s.heap.size x ax kx) (cwV 0 hts (goodIn_app (goodIn_of _ (by decide +kernel)) (goodIn_sub ((fun w h => List.mem_cons_of_mem _ (List.mem_append_right _ (List.mem_append_left _ h)))) zgX7_stationsAreSound)) rfl rfl rfl (by decide +kernel) ⟨Nat.le_of_ble_eq_true rfl, Nat.le_of_ble_eq_true rfl⟩) ⟨xPc_blind, va_recv hK hP (ci := 10) (q0 := 0) rfl rfl, xPc_pass hP hK hE hS (fun q h => hA q (Nat.le_trans hS.1 h))⟩ rfl rfl hl.1 rfl (lv_room (Nat.le_of_ble_eq_true rfl)) dX7_isSound_1 ⟨Nat.le_of_ble_eq_true rfl, Nat.le_of_ble_eq_true rfl⟩) hS (fun q _ h => hA q (Nat.le_trans hS.1 h)) (fun q h => hA q (Nat.le_trans hS.1 h)) (fun r_1 u t H locs ht hvm hw hB hz hk hS => ?_)
  have hP := zkn hP hk
  have hw : r_1 = 1 := hw
  subst hw
  refine lv_if_eq (tgt := 25) hx hb dX7_isSound_4 (by decide) (fun c_2 => absurd c_2 (by decide)) (fun _ => ?_)
  refine lv_aload_n hx hb dX7_isSound_7 rfl (lv_at hl 0 rfl) ?_
  refine va_calli (va_runV (As := []) (rest := []) ⟨hx, hb, hml, hown, hts⟩ (c_X7_orderIsSound l dC dI H.size x ax kx) (cwV 0 hts (goodIn_app (goodIn_of _ (by decide +kernel)) (goodIn_sub ((fun w h => List.mem_cons_of_mem _ (List.mem_append_right _ (List.mem_append_right _ (List.mem_append_left _ h))))) zgX7_orderIsSound)) rfl rfl rfl (by decide +kernel) ⟨Nat.le_of_ble_eq_true rfl, Nat.le_of_ble_eq_true rfl⟩) ⟨xPc_blind, va_recv hK hP (ci := 10) (q0 := 0) rfl rfl, xPc_pass hP hK hE hS (fun q h => hA q (Nat.le_trans hS.1 h))⟩ rfl rfl hl.1 rfl (lv_room (Nat.le_of_ble_eq_true rfl)) dX7_isSound_8 ⟨Nat.le_of_ble_eq_true rfl, Nat.le_of_ble_eq_true rfl⟩) hS (fun q _ h => hA q (Nat.le_trans hS.1 h)) (fun q h => hA q (Nat.le_trans hS.1 h)) (fun r_3 u t H locs ht hvm hw hB hz hk hS => ?_)
  have hP := zkn hP hk
  have hw : r_3 = 1 := hw
  subst hw
  refine lv_if_eq (tgt := 25) hx hb dX7_isSound_11 (by decide) (fun c_4 => absurd c_4 (by decide)) (fun _ => ?_)
  refine lv_aload_n hx hb dX7_isSound_14 rfl (lv_at hl 0 rfl) ?_
  refine va_calli (va_runV (As := []) (rest := []) ⟨hx, hb, hml, hown, hts⟩ (c_X7_makersAreSound l dC dI H.size x ax kx) (cwV 0 hts (goodIn_app (goodIn_of _ (by decide +kernel)) (goodIn_sub ((fun w h => List.mem_cons_of_mem _ (List.mem_append_right _ (List.mem_append_right _ (List.mem_append_right _ (h)))))) zgX7_makersAreSound)) rfl rfl rfl (by decide +kernel) ⟨Nat.le_of_ble_eq_true rfl, Nat.le_of_ble_eq_true rfl⟩) ⟨xPc_blind, va_recv hK hP (ci := 10) (q0 := 0) rfl rfl, xPc_pass hP hK hE hS (fun q h => hA q (Nat.le_trans hS.1 h))⟩ rfl rfl hl.1 rfl (lv_room (Nat.le_of_ble_eq_true rfl)) dX7_isSound_15 ⟨Nat.le_of_ble_eq_true rfl, Nat.le_of_ble_eq_true rfl⟩) hS (fun q _ h => hA q (Nat.le_trans hS.1 h)) (fun q h => hA q (Nat.le_trans hS.1 h)) (fun r_5 u t H locs ht hvm hw hB hz hk hS => ?_)
  have hP := zkn hP hk
  have hw : r_5 = 1 := hw
  subst hw
  refine lv_if_eq (tgt := 25) hx hb dX7_isSound_18 (by decide) (fun c_6 => absurd c_6 (by decide)) (fun _ => ?_)
  refine lv_iconst (v := 1) hx hb dX7_isSound_21 (by decide) ?_
  refine lv_goto (tgt := 26) hx hb dX7_isSound_22 (by decide) ?_
  refine W.widen (k := 0) (n := 0) (Nat.le_of_ble_eq_true rfl) (Nat.le_of_ble_eq_true rfl) ?_
  exact W.zret (v := 1) hx hb hr (by decide +kernel) (fun t ht hW => ⟨⟨1, (), rfl, rfl, trivial⟩, hS.F ht⟩) hS.2.2 dX7_isSound_26

def zwX7_xOf : List Cond := .code yX7_xOf cX7_xOf 1 (some .int) :: ([] : List Cond)
theorem zgX7_xOf : zwX7_xOf.all goodWord = true := zgo rfl ((by decide +kernel))
set_option maxHeartbeats 4000000 in
set_option maxRecDepth 100000 in
theorem c_X7_xOf (l : Launch) (dC : Nat → ClassId) (dI : Nat → Nat → Nat) (sz : Nat) (v : Int32) : Met l yX7_xOf zwX7_xOf ({ frames := 0, cells := 0, slots := 0, locals := 0 }) (nPc sz [.int v]) (va_Qi (fun (r : Int32) (_ : Unit) => r = v / 10) (fun _ _ => True) (fun q : Nat => sz ≤ q)) 0 0 (fun q : Nat => sz ≤ q) := by
  refine Met.ofW (cc := cX7_xOf) (maxL := 1) (ret := (some .int)) (by decide) rfl ?_
  intro p e s m args below meth c s₁ B hml hv
  obtain ⟨rfl, hsz⟩ := hv
  have hx := B.exec
  have hb := B.bytes
  have hr := B.returns
  have hts := atoms_spec (ws := zwX7_xOf) B.pre
  have hown : s.vm.findClass RX7 = some m.cls := findClass_of_methodNamed B.named
  have hlocks := B.notSynchronized
  subst hsz
  have hA : ∀ q : Nat, s.heap.size ≤ q → s.heap.size ≤ q := fun _ h => h
  have hS : va_S (fun q : Nat => s.heap.size ≤ q) s.heap s.heap [] := va_S.rf
  have hl := lv_entry ([.int v]) (n := 1) (Nat.le_of_ble_eq_true rfl)
  rw [lg_entry_eq]
  generalize (lg_sl ([.int v]) ++ List.replicate (1 - (lg_sl ([.int v])).length) Slot.unset).toArray = ls at hl ⊢
  have hl : lv_has ls 1 [(0, .int v)] := hl
  refine lv_iload_n hx hb dX7_xOf_0 rfl (lv_at hl 0 rfl) ?_
  refine lv_bipush (v := 10) hx hb dX7_xOf_1 (by decide) ?_
  refine lv_idiv hx hb dX7_xOf_3 (by decide) ?_
  refine W.widen (k := 0) (n := 0) (Nat.le_of_ble_eq_true rfl) (Nat.le_of_ble_eq_true rfl) ?_
  exact W.iret (v := (v / 10)) hx hb hr (fun t ht hW => ⟨⟨(v / 10), (), rfl, rfl, trivial⟩, hS.F ht⟩) hS.2.2 dX7_xOf_4

def zwX7_yOf : List Cond := .code yX7_yOf cX7_yOf 1 (some .int) :: ([] : List Cond)
theorem zgX7_yOf : zwX7_yOf.all goodWord = true := zgo rfl ((by decide +kernel))
set_option maxHeartbeats 4000000 in
set_option maxRecDepth 100000 in
theorem c_X7_yOf (l : Launch) (dC : Nat → ClassId) (dI : Nat → Nat → Nat) (sz : Nat) (v : Int32) : Met l yX7_yOf zwX7_yOf ({ frames := 0, cells := 0, slots := 0, locals := 0 }) (nPc sz [.int v]) (va_Qi (fun (r : Int32) (_ : Unit) => r = v - v / 10 * 10) (fun _ _ => True) (fun q : Nat => sz ≤ q)) 0 0 (fun q : Nat => sz ≤ q) := by
  refine Met.ofW (cc := cX7_yOf) (maxL := 1) (ret := (some .int)) (by decide) rfl ?_
  intro p e s m args below meth c s₁ B hml hv
  obtain ⟨rfl, hsz⟩ := hv
  have hx := B.exec
  have hb := B.bytes
  have hr := B.returns
  have hts := atoms_spec (ws := zwX7_yOf) B.pre
  have hown : s.vm.findClass RX7 = some m.cls := findClass_of_methodNamed B.named
  have hlocks := B.notSynchronized
  subst hsz
  have hA : ∀ q : Nat, s.heap.size ≤ q → s.heap.size ≤ q := fun _ h => h
  have hS : va_S (fun q : Nat => s.heap.size ≤ q) s.heap s.heap [] := va_S.rf
  have hl := lv_entry ([.int v]) (n := 1) (Nat.le_of_ble_eq_true rfl)
  rw [lg_entry_eq]
  generalize (lg_sl ([.int v]) ++ List.replicate (1 - (lg_sl ([.int v])).length) Slot.unset).toArray = ls at hl ⊢
  have hl : lv_has ls 1 [(0, .int v)] := hl
  refine lv_iload_n hx hb dX7_yOf_0 rfl (lv_at hl 0 rfl) ?_
  refine lv_bipush (v := 10) hx hb dX7_yOf_1 (by decide) ?_
  refine lv_irem hx hb dX7_yOf_3 (by decide) ?_
  refine W.widen (k := 0) (n := 0) (Nat.le_of_ble_eq_true rfl) (Nat.le_of_ble_eq_true rfl) ?_
  exact W.iret (v := (v - v / 10 * 10)) hx hb hr (fun t ht hW => ⟨⟨(v - v / 10 * 10), (), rfl, rfl, trivial⟩, hS.F ht⟩) hS.2.2 dX7_yOf_4

def zwX7_distance : List Cond := .code yX7_distance cX7_distance 2 (some .int) :: ([] : List Cond)
theorem zgX7_distance : zwX7_distance.all goodWord = true := zgo rfl ((by decide +kernel))
set_option maxHeartbeats 4000000 in
set_option maxRecDepth 100000 in
theorem c_X7_distance (l : Launch) (dC : Nat → ClassId) (dI : Nat → Nat → Nat) (sz : Nat) (a : Int32) (b : Int32) : Met l yX7_distance zwX7_distance ({ frames := 0, cells := 0, slots := 0, locals := 0 }) (nPc sz [.int a, .int b]) (va_Qi (fun (r : Int32) (_ : Unit) => r = zDi a b) (fun _ _ => True) (fun q : Nat => sz ≤ q)) 0 0 (fun q : Nat => sz ≤ q) := by
  refine Met.ofW (cc := cX7_distance) (maxL := 2) (ret := (some .int)) (by decide) rfl ?_
  intro p e s m args below meth c s₁ B hml hv
  obtain ⟨rfl, hsz⟩ := hv
  have hx := B.exec
  have hb := B.bytes
  have hr := B.returns
  have hts := atoms_spec (ws := zwX7_distance) B.pre
  have hown : s.vm.findClass RX7 = some m.cls := findClass_of_methodNamed B.named
  have hlocks := B.notSynchronized
  subst hsz
  have hA : ∀ q : Nat, s.heap.size ≤ q → s.heap.size ≤ q := fun _ h => h
  have hS : va_S (fun q : Nat => s.heap.size ≤ q) s.heap s.heap [] := va_S.rf
  have hl := lv_entry ([.int a, .int b]) (n := 2) (Nat.le_of_ble_eq_true rfl)
  rw [lg_entry_eq]
  generalize (lg_sl ([.int a, .int b]) ++ List.replicate (2 - (lg_sl ([.int a, .int b])).length) Slot.unset).toArray = ls at hl ⊢
  have hl : lv_has ls 2 [(0, .int a), (1, .int b)] := hl
  refine lv_iload_n hx hb dX7_distance_0 rfl (lv_at hl 0 rfl) ?_
  refine lv_iload_n hx hb dX7_distance_1 rfl (lv_at hl 1 rfl) ?_
  refine lv_icmp_ge (tgt := 11) hx hb dX7_distance_2 (by decide) (fun c_1 => ?_) (fun c_1 => ?_)
  · refine lv_iload_n hx hb dX7_distance_11 rfl (lv_at hl 0 rfl) ?_
    refine lv_iload_n hx hb dX7_distance_12 rfl (lv_at hl 1 rfl) ?_
    refine lv_isub hx hb dX7_distance_13 ?_
    refine W.widen (k := 0) (n := 0) (Nat.le_of_ble_eq_true rfl) (Nat.le_of_ble_eq_true rfl) ?_
    exact W.iret (v := (a - b)) hx hb hr (fun t ht hW => ⟨⟨(a - b), (), rfl, (by unfold zDi; rw [if_neg (by simp only [zPl, zPm, fa_lt, fa_le, fa_eq, zi_0, zi_1, zi_3, zi_4, zi_7, zi_8, zi_10, zi_12, zi_119, zi_m1] at c_1 ⊢ <;> omega)]), trivial⟩, hS.F ht⟩) hS.2.2 dX7_distance_14
  · refine lv_iload_n hx hb dX7_distance_5 rfl (lv_at hl 1 rfl) ?_
    refine lv_iload_n hx hb dX7_distance_6 rfl (lv_at hl 0 rfl) ?_
    refine lv_isub hx hb dX7_distance_7 ?_
    refine lv_goto (tgt := 14) hx hb dX7_distance_8 (by decide) ?_
    refine W.widen (k := 0) (n := 0) (Nat.le_of_ble_eq_true rfl) (Nat.le_of_ble_eq_true rfl) ?_
    exact W.iret (v := (b - a)) hx hb hr (fun t ht hW => ⟨⟨(b - a), (), rfl, (by unfold zDi; rw [if_pos (by simp only [zPl, zPm, fa_lt, fa_le, fa_eq, zi_0, zi_1, zi_3, zi_4, zi_7, zi_8, zi_10, zi_12, zi_119, zi_m1] at c_1 ⊢ <;> omega)]), trivial⟩, hS.F ht⟩) hS.2.2 dX7_distance_14

def zwX7_isPlace : List Cond := .code yX7_isPlace cX7_isPlace 1 (some .boolean) :: (([.methodLink RX7 153 yX7_xOf, .static yX7_xOf, .initialized RX7, .methodLink RX7 160 yX7_yOf, .static yX7_yOf] : List Cond) ++ (zwX7_xOf ++ (zwX7_yOf)))
theorem zgX7_isPlace : zwX7_isPlace.all goodWord = true := zgo rfl (zga (by decide +kernel) (zga zgX7_xOf (zgX7_yOf)))
set_option maxHeartbeats 4000000 in
set_option maxRecDepth 100000 in
theorem c_X7_isPlace (l : Launch) (dC : Nat → ClassId) (dI : Nat → Nat → Nat) (sz : Nat) (v : Int32) : Met l yX7_isPlace zwX7_isPlace ({ frames := 1, cells := 0, slots := 0, locals := 20 }) (nPc sz [.int v]) (va_Qi (fun (r : Int32) (_ : Unit) => (r = 1 ∧ zPl v) ∨ (r = 0 ∧ ¬ zPl v)) (fun _ _ => True) (fun q : Nat => sz ≤ q)) 0 0 (fun q : Nat => sz ≤ q) := by
  refine Met.ofW (cc := cX7_isPlace) (maxL := 1) (ret := (some .boolean)) (by decide) rfl ?_
  intro p e s m args below meth c s₁ B hml hv
  obtain ⟨rfl, hsz⟩ := hv
  have hx := B.exec
  have hb := B.bytes
  have hr := B.returns
  have hts := atoms_spec (ws := zwX7_isPlace) B.pre
  have hown : s.vm.findClass RX7 = some m.cls := findClass_of_methodNamed B.named
  have hlocks := B.notSynchronized
  subst hsz
  have hA : ∀ q : Nat, s.heap.size ≤ q → s.heap.size ≤ q := fun _ h => h
  have hS : va_S (fun q : Nat => s.heap.size ≤ q) s.heap s.heap [] := va_S.rf
  have hl := lv_entry ([.int v]) (n := 1) (Nat.le_of_ble_eq_true rfl)
  rw [lg_entry_eq]
  generalize (lg_sl ([.int v]) ++ List.replicate (1 - (lg_sl ([.int v])).length) Slot.unset).toArray = ls at hl ⊢
  have hl : lv_has ls 1 [(0, .int v)] := hl
  refine lv_iload_n hx hb dX7_isPlace_0 rfl (lv_at hl 0 rfl) ?_
  refine lv_if_lt (tgt := 26) hx hb dX7_isPlace_1 (by decide) (fun c_1 => ?_) (fun c_1 => ?_)
  · refine lv_iconst (v := 0) hx hb dX7_isPlace_26 (by decide) ?_
    refine W.widen (k := 0) (n := 0) (Nat.le_of_ble_eq_true rfl) (Nat.le_of_ble_eq_true rfl) ?_
    exact W.zret (v := 0) hx hb hr (by decide +kernel) (fun t ht hW => ⟨⟨0, (), rfl, Or.inr ⟨rfl, (by simp only [zPl, zPm, fa_lt, fa_le, fa_eq, zi_0, zi_1, zi_3, zi_4, zi_7, zi_8, zi_10, zi_12, zi_119, zi_m1] at c_1 ⊢ <;> omega)⟩, trivial⟩, hS.F ht⟩) hS.2.2 dX7_isPlace_27
  · refine lv_iload_n hx hb dX7_isPlace_4 rfl (lv_at hl 0 rfl) ?_
    refine va_calli (va_runS (As := [.int v]) (rest := []) ⟨hx, hb, hml, hown, hts⟩ (c_X7_xOf l dC dI s.heap.size v) (va_cwS 1 hts (goodIn_app (goodIn_of _ (by decide +kernel)) (goodIn_sub ((fun w h => List.mem_cons_of_mem _ (List.mem_append_right _ (List.mem_append_left _ h)))) zgX7_xOf)) rfl rfl rfl (by decide +kernel) ⟨Nat.le_of_ble_eq_true rfl, Nat.le_of_ble_eq_true rfl⟩) ⟨nPc_blind, nPc_pass⟩ rfl rfl hl.1 rfl (lv_room (Nat.le_of_ble_eq_true rfl)) dX7_isPlace_5 ⟨Nat.le_of_ble_eq_true rfl, Nat.le_of_ble_eq_true rfl⟩) hS (fun q _ h => hA q (Nat.le_trans hS.1 h)) (fun q h => hA q (Nat.le_trans hS.1 h)) (fun r_2 u t H locs ht hvm hw hB hz hk hS => ?_)
    have w_3 : r_2 = v / 10 := hw
    refine lv_bipush (v := 12) hx hb dX7_isPlace_8 (by decide) ?_
    refine lv_icmp_ge (tgt := 26) hx hb dX7_isPlace_10 (by decide) (fun c_4 => ?_) (fun c_4 => ?_)
    · refine lv_iconst (v := 0) hx hb dX7_isPlace_26 (by decide) ?_
      refine W.widen (k := 0) (n := 0) (Nat.le_of_ble_eq_true rfl) (Nat.le_of_ble_eq_true rfl) ?_
      exact W.zret (v := 0) hx hb hr (by decide +kernel) (fun t ht hW => ⟨⟨0, (), rfl, Or.inr ⟨rfl, (by simp only [zPl, zPm, fa_lt, fa_le, fa_eq, zi_0, zi_1, zi_3, zi_4, zi_7, zi_8, zi_10, zi_12, zi_119, zi_m1] at c_1 w_3 c_4 ⊢ <;> omega)⟩, trivial⟩, hS.F ht⟩) hS.2.2 dX7_isPlace_27
    · refine lv_iload_n hx hb dX7_isPlace_13 rfl (lv_at hl 0 rfl) ?_
      refine va_calli (va_runS (As := [.int v]) (rest := []) ⟨hx, hb, hml, hown, hts⟩ (c_X7_yOf l dC dI H.size v) (va_cwS 1 hts (goodIn_app (goodIn_of _ (by decide +kernel)) (goodIn_sub ((fun w h => List.mem_cons_of_mem _ (List.mem_append_right _ (List.mem_append_right _ (h))))) zgX7_yOf)) rfl rfl rfl (by decide +kernel) ⟨Nat.le_of_ble_eq_true rfl, Nat.le_of_ble_eq_true rfl⟩) ⟨nPc_blind, nPc_pass⟩ rfl rfl hl.1 rfl (lv_room (Nat.le_of_ble_eq_true rfl)) dX7_isPlace_14 ⟨Nat.le_of_ble_eq_true rfl, Nat.le_of_ble_eq_true rfl⟩) hS (fun q _ h => hA q (Nat.le_trans hS.1 h)) (fun q h => hA q (Nat.le_trans hS.1 h)) (fun r_5 u t H locs ht hvm hw hB hz hk hS => ?_)
      have w_6 : r_5 = v - v / 10 * 10 := hw
      refine lv_bipush (v := 8) hx hb dX7_isPlace_17 (by decide) ?_
      refine lv_icmp_ge (tgt := 26) hx hb dX7_isPlace_19 (by decide) (fun c_7 => ?_) (fun c_7 => ?_)
      · refine lv_iconst (v := 0) hx hb dX7_isPlace_26 (by decide) ?_
        refine W.widen (k := 0) (n := 0) (Nat.le_of_ble_eq_true rfl) (Nat.le_of_ble_eq_true rfl) ?_
        exact W.zret (v := 0) hx hb hr (by decide +kernel) (fun t ht hW => ⟨⟨0, (), rfl, Or.inr ⟨rfl, (by simp only [zPl, zPm, fa_lt, fa_le, fa_eq, zi_0, zi_1, zi_3, zi_4, zi_7, zi_8, zi_10, zi_12, zi_119, zi_m1] at c_1 w_3 c_4 w_6 c_7 ⊢ <;> omega)⟩, trivial⟩, hS.F ht⟩) hS.2.2 dX7_isPlace_27
      · refine lv_iconst (v := 1) hx hb dX7_isPlace_22 (by decide) ?_
        refine lv_goto (tgt := 27) hx hb dX7_isPlace_23 (by decide) ?_
        refine W.widen (k := 0) (n := 0) (Nat.le_of_ble_eq_true rfl) (Nat.le_of_ble_eq_true rfl) ?_
        exact W.zret (v := 1) hx hb hr (by decide +kernel) (fun t ht hW => ⟨⟨1, (), rfl, Or.inl ⟨rfl, (by simp only [zPl, zPm, fa_lt, fa_le, fa_eq, zi_0, zi_1, zi_3, zi_4, zi_7, zi_8, zi_10, zi_12, zi_119, zi_m1] at c_1 w_3 c_4 w_6 c_7 ⊢ <;> omega)⟩, trivial⟩, hS.F ht⟩) hS.2.2 dX7_isPlace_27

def zwX7_requirePlace : List Cond := .code yX7_requirePlace cX7_requirePlace 1 none :: (([.methodLink RX7 64 yX7_isPlace, .static yX7_isPlace, .initialized RX7, .classLink RX7 67 "java/lang/IllegalArgumentException", .initialized "java/lang/IllegalArgumentException"] : List Cond) ++ (zwX7_isPlace ++ (((vx_atS RX7 71 "java/lang/IllegalArgumentException" zNames).filter goodWord))))
theorem zgX7_requirePlace : zwX7_requirePlace.all goodWord = true := zgo rfl (zga (by decide +kernel) (zga zgX7_isPlace ((zgf _))))
set_option maxHeartbeats 4000000 in
set_option maxRecDepth 100000 in
theorem c_X7_requirePlace (l : Launch) (hst : l.stackTraces = false) (dC : Nat → ClassId) (dI : Nat → Nat → Nat) (sz : Nat) (v : Int32) : vx_Met l yX7_requirePlace zwX7_requirePlace ({ frames := 6, cells := 1, slots := 6, locals := 82 }) (ePc sz [.int v]) (va_Qv (fun (_ : Unit) => zPl v) (fun _ _ => True) (fun q : Nat => sz ≤ q)) (zX (¬ zPl v) "java/lang/IllegalArgumentException" (fun q : Nat => sz ≤ q)) 1 6 (fun q : Nat => sz ≤ q) := by
  refine vx_ofW (cc := cX7_requirePlace) (maxL := 1) (ret := none) (by decide) rfl ?_
  intro p e s m args below meth c s₁ B hml hnt hv
  obtain ⟨rfl, hsz, hE⟩ := hv
  have hx := B.exec
  have hb := B.bytes
  have hr := B.returns
  have hts := atoms_spec (ws := zwX7_requirePlace) B.pre
  have hown : s.vm.findClass RX7 = some m.cls := findClass_of_methodNamed B.named
  have hlocks := B.notSynchronized
  subst hsz
  have hA : ∀ q : Nat, s.heap.size ≤ q → s.heap.size ≤ q := fun _ h => h
  have hS : va_S (fun q : Nat => s.heap.size ≤ q) s.heap s.heap [] := va_S.rf
  have hl := lv_entry ([.int v]) (n := 1) (Nat.le_of_ble_eq_true rfl)
  rw [lg_entry_eq]
  generalize (lg_sl ([.int v]) ++ List.replicate (1 - (lg_sl ([.int v])).length) Slot.unset).toArray = ls at hl ⊢
  have hl : lv_has ls 1 [(0, .int v)] := hl
  refine lv_iload_n hx hb dX7_requirePlace_0 rfl (lv_at hl 0 rfl) ?_
  refine va_calli (va_runS (As := [.int v]) (rest := []) ⟨hx, hb, hml, hown, hts⟩ (c_X7_isPlace l dC dI s.heap.size v) (va_cwS 1 hts (goodIn_app (goodIn_of _ (by decide +kernel)) (goodIn_sub ((fun w h => List.mem_cons_of_mem _ (List.mem_append_right _ (List.mem_append_left _ h)))) zgX7_isPlace)) rfl rfl rfl (by decide +kernel) ⟨Nat.le_of_ble_eq_true rfl, Nat.le_of_ble_eq_true rfl⟩) ⟨nPc_blind, nPc_pass⟩ rfl rfl hl.1 rfl (lv_room (Nat.le_of_ble_eq_true rfl)) dX7_requirePlace_1 ⟨Nat.le_of_ble_eq_true rfl, Nat.le_of_ble_eq_true rfl⟩) hS (fun q _ h => hA q (Nat.le_trans hS.1 h)) (fun q h => hA q (Nat.le_trans hS.1 h)) (fun r_1 u t H locs ht hvm hw hB hz hk hS => ?_)
  rcases (show (r_1 = 1 ∧ zPl v) ∨ (r_1 = 0 ∧ ¬ zPl v) from hw) with ⟨rfl, h_2⟩ | ⟨rfl, h_2⟩
  · refine lv_if_ne (tgt := 17) hx hb dX7_requirePlace_4 (by decide) (fun _ => ?_) (fun c_3 => absurd c_3 (by decide))
    refine W.widen (k := 1) (n := 6) (Nat.le_of_ble_eq_true rfl) (Nat.le_of_ble_eq_true rfl) ?_
    exact vx_ret (W.vret hx hb hr (fun t ht hW => ⟨⟨(), rfl, (by simp only [zPl, zPm, fa_lt, fa_le, fa_eq, zi_0, zi_1, zi_3, zi_4, zi_7, zi_8, zi_10, zi_12, zi_119, zi_m1] at h_2 ⊢ <;> omega), trivial⟩, hS.F ht⟩) hS.2.2 dX7_requirePlace_17)
  · refine lv_if_ne (tgt := 17) hx hb dX7_requirePlace_4 (by decide) (fun c_4 => absurd c_4 (by decide)) (fun _ => ?_)
    exact zThrow (Ts := zwX7_requirePlace) (px := ¬ zPl v) (E := "java/lang/IllegalArgumentException") (ik := 67) (is := 168) (ic := 71) hx hb hst hown hts hE hS (hl.1.trans hml.symm) (by decide) (by decide +kernel) (text := "no such place") (by decide) (by decide +kernel) (by decide +kernel) (fun w h => List.mem_cons_of_mem _ (List.mem_append_right _ (List.mem_append_right _ (h)))) (by decide +kernel) (by decide +kernel) dX7_requirePlace_7 dX7_requirePlace_10 dX7_requirePlace_11 dX7_requirePlace_13 dX7_requirePlace_16 hnt (Nat.le_of_ble_eq_true rfl) (Nat.le_of_ble_eq_true rfl) (Nat.le_of_ble_eq_true rfl) (Nat.le_of_ble_eq_true rfl) hlocks (by simp only [zPl, zPm, fa_lt, fa_le, fa_eq, zi_0, zi_1, zi_3, zi_4, zi_7, zi_8, zi_10, zi_12, zi_119, zi_m1] at h_2 ⊢ <;> omega) hS.2.2 (Nat.le_of_ble_eq_true rfl) (Nat.le_of_ble_eq_true rfl)

def zwX7_swept : List Cond := .code yX7_swept cX7_swept 3 (some .int) :: (([.methodLink RX7 147 yX7_requirePlace, .static yX7_requirePlace, .initialized RX7, .methodLink RX7 153 yX7_xOf, .static yX7_xOf, .methodLink RX7 157 yX7_distance, .static yX7_distance, .methodLink RX7 160 yX7_yOf, .static yX7_yOf] : List Cond) ++ (zwX7_requirePlace ++ (zwX7_xOf ++ (zwX7_distance ++ (zwX7_yOf)))))
theorem zgX7_swept : zwX7_swept.all goodWord = true := zgo rfl (zga (by decide +kernel) (zga zgX7_requirePlace (zga zgX7_xOf (zga zgX7_distance (zgX7_yOf)))))
set_option maxHeartbeats 4000000 in
set_option maxRecDepth 100000 in
theorem c_X7_swept (l : Launch) (hst : l.stackTraces = false) (dC : Nat → ClassId) (dI : Nat → Nat → Nat) (sz : Nat) (x : Nat) (ax : Nat → Nat) (kx : Nat → ClassId) (a : Int32) (b : Int32) : vx_Met l yX7_swept zwX7_swept ({ frames := 7, cells := 2, slots := 12, locals := 102 }) (xPc dC dI sz x ax kx [.ref x, .int a, .int b]) (va_Qi (fun (r : Int32) (_ : Unit) => r = zSw a b ∧ zPl a ∧ zPl b) (fun _ _ => True) (fun q : Nat => sz ≤ q)) (zX (¬ (zPl a ∧ zPl b)) "java/lang/IllegalArgumentException" (fun q : Nat => sz ≤ q)) 2 12 (fun q : Nat => sz ≤ q) := by
  refine vx_ofW (cc := cX7_swept) (maxL := 3) (ret := (some .int)) (by decide) rfl ?_
  intro p e s m args below meth c s₁ B hml hnt hv
  obtain ⟨rfl, hsz, hP, hK, hE⟩ := hv
  have hx := B.exec
  have hb := B.bytes
  have hr := B.returns
  have hts := atoms_spec (ws := zwX7_swept) B.pre
  have hown : s.vm.findClass RX7 = some m.cls := findClass_of_methodNamed B.named
  have hlocks := B.notSynchronized
  subst hsz
  have hA : ∀ q : Nat, s.heap.size ≤ q → s.heap.size ≤ q := fun _ h => h
  have hS : va_S (fun q : Nat => s.heap.size ≤ q) s.heap s.heap [] := va_S.rf
  have hl := lv_entry ([.ref x, .int a, .int b]) (n := 3) (Nat.le_of_ble_eq_true rfl)
  rw [lg_entry_eq]
  generalize (lg_sl ([.ref x, .int a, .int b]) ++ List.replicate (3 - (lg_sl ([.ref x, .int a, .int b])).length) Slot.unset).toArray = ls at hl ⊢
  have hl : lv_has ls 3 [(0, .ref x), (1, .int a), (2, .int b)] := hl
  refine lv_iload_n hx hb dX7_swept_0 rfl (lv_at hl 1 rfl) ?_
  refine vx_callv (vx_runS (As := [.int a]) (rest := []) ⟨hx, hb, hml, hown, hts⟩ (c_X7_requirePlace l hst dC dI s.heap.size a) (va_cwS 1 hts (goodIn_app (goodIn_of _ (by decide +kernel)) (goodIn_sub ((fun w h => List.mem_cons_of_mem _ (List.mem_append_right _ (List.mem_append_left _ h)))) zgX7_requirePlace)) rfl rfl rfl (by decide +kernel) ⟨Nat.le_of_ble_eq_true rfl, Nat.le_of_ble_eq_true rfl⟩) ⟨ePc_blind, ePc_pass hE hS (fun q h => hA q (Nat.le_trans hS.1 h))⟩ rfl rfl hl.1 rfl (lv_room (Nat.le_of_ble_eq_true rfl)) dX7_swept_1 ⟨Nat.le_of_ble_eq_true rfl, Nat.le_of_ble_eq_true rfl⟩) hS (fun q _ h => hA q (Nat.le_trans hS.1 h)) (fun q h => hA q (Nat.le_trans hS.1 h)) (fun q _ h => hA q (Nat.le_trans hS.1 h)) (fun E ce q9 _ t H locs ht hvm hpx hBX hz hk hS hcell hv hcl => ?_) (fun u t H locs ht hvm hw hB hz hk hS => ?_)
  · have hBX : E = "java/lang/IllegalArgumentException" := hBX
    subst hBX
    exact zOut (px := ¬ (zPl a ∧ zPl b)) (E := "java/lang/IllegalArgumentException") hnt hlocks hcell hv hcl hS (fun h => absurd h.1 hpx) hS.2.2 (Nat.le_of_ble_eq_true rfl) (Nat.le_of_ble_eq_true rfl)
  have hP := zkn hP hk
  have w_2 : zPl a := hw
  refine lv_iload_n hx hb dX7_swept_4 rfl (lv_at hl 2 rfl) ?_
  refine vx_callv (vx_runS (As := [.int b]) (rest := []) ⟨hx, hb, hml, hown, hts⟩ (c_X7_requirePlace l hst dC dI H.size b) (va_cwS 1 hts (goodIn_app (goodIn_of _ (by decide +kernel)) (goodIn_sub ((fun w h => List.mem_cons_of_mem _ (List.mem_append_right _ (List.mem_append_left _ h)))) zgX7_requirePlace)) rfl rfl rfl (by decide +kernel) ⟨Nat.le_of_ble_eq_true rfl, Nat.le_of_ble_eq_true rfl⟩) ⟨ePc_blind, ePc_pass hE hS (fun q h => hA q (Nat.le_trans hS.1 h))⟩ rfl rfl hl.1 rfl (lv_room (Nat.le_of_ble_eq_true rfl)) dX7_swept_5 ⟨Nat.le_of_ble_eq_true rfl, Nat.le_of_ble_eq_true rfl⟩) hS (fun q _ h => hA q (Nat.le_trans hS.1 h)) (fun q h => hA q (Nat.le_trans hS.1 h)) (fun q _ h => hA q (Nat.le_trans hS.1 h)) (fun E ce q9 _ t H locs ht hvm hpx hBX hz hk hS hcell hv hcl => ?_) (fun u t H locs ht hvm hw hB hz hk hS => ?_)
  · have hBX : E = "java/lang/IllegalArgumentException" := hBX
    subst hBX
    exact zOut (px := ¬ (zPl a ∧ zPl b)) (E := "java/lang/IllegalArgumentException") hnt hlocks hcell hv hcl hS (fun h => absurd h.2 hpx) hS.2.2 (Nat.le_of_ble_eq_true rfl) (Nat.le_of_ble_eq_true rfl)
  have hP := zkn hP hk
  have w_4 : zPl b := hw
  refine lv_iload_n hx hb dX7_swept_8 rfl (lv_at hl 1 rfl) ?_
  refine va_calli (va_runS (As := [.int a]) (rest := []) ⟨hx, hb, hml, hown, hts⟩ (c_X7_xOf l dC dI H.size a) (va_cwS 1 hts (goodIn_app (goodIn_of _ (by decide +kernel)) (goodIn_sub ((fun w h => List.mem_cons_of_mem _ (List.mem_append_right _ (List.mem_append_right _ (List.mem_append_left _ h))))) zgX7_xOf)) rfl rfl rfl (by decide +kernel) ⟨Nat.le_of_ble_eq_true rfl, Nat.le_of_ble_eq_true rfl⟩) ⟨nPc_blind, nPc_pass⟩ rfl rfl hl.1 rfl (lv_room (Nat.le_of_ble_eq_true rfl)) dX7_swept_9 ⟨Nat.le_of_ble_eq_true rfl, Nat.le_of_ble_eq_true rfl⟩) hS (fun q _ h => hA q (Nat.le_trans hS.1 h)) (fun q h => hA q (Nat.le_trans hS.1 h)) (fun r_5 u t H locs ht hvm hw hB hz hk hS => ?_)
  have hP := zkn hP hk
  have w_6 : r_5 = a / 10 := hw
  refine lv_iload_n hx hb dX7_swept_12 rfl (lv_at hl 2 rfl) ?_
  refine va_calli (va_runS (As := [.int b]) (rest := [.int r_5]) ⟨hx, hb, hml, hown, hts⟩ (c_X7_xOf l dC dI H.size b) (va_cwS 1 hts (goodIn_app (goodIn_of _ (by decide +kernel)) (goodIn_sub ((fun w h => List.mem_cons_of_mem _ (List.mem_append_right _ (List.mem_append_right _ (List.mem_append_left _ h))))) zgX7_xOf)) rfl rfl rfl (by decide +kernel) ⟨Nat.le_of_ble_eq_true rfl, Nat.le_of_ble_eq_true rfl⟩) ⟨nPc_blind, nPc_pass⟩ rfl rfl hl.1 rfl (lv_room (Nat.le_of_ble_eq_true rfl)) dX7_swept_13 ⟨Nat.le_of_ble_eq_true rfl, Nat.le_of_ble_eq_true rfl⟩) hS (fun q _ h => hA q (Nat.le_trans hS.1 h)) (fun q h => hA q (Nat.le_trans hS.1 h)) (fun r_7 u t H locs ht hvm hw hB hz hk hS => ?_)
  have hP := zkn hP hk
  have w_8 : r_7 = b / 10 := hw
  refine va_calli (va_runS (As := [.int r_5, .int r_7]) (rest := []) ⟨hx, hb, hml, hown, hts⟩ (c_X7_distance l dC dI H.size r_5 r_7) (va_cwS 2 hts (goodIn_app (goodIn_of _ (by decide +kernel)) (goodIn_sub ((fun w h => List.mem_cons_of_mem _ (List.mem_append_right _ (List.mem_append_right _ (List.mem_append_right _ (List.mem_append_left _ h)))))) zgX7_distance)) rfl rfl rfl (by decide +kernel) ⟨Nat.le_of_ble_eq_true rfl, Nat.le_of_ble_eq_true rfl⟩) ⟨nPc_blind, nPc_pass⟩ rfl rfl hl.1 rfl (lv_room (Nat.le_of_ble_eq_true rfl)) dX7_swept_16 ⟨Nat.le_of_ble_eq_true rfl, Nat.le_of_ble_eq_true rfl⟩) hS (fun q _ h => hA q (Nat.le_trans hS.1 h)) (fun q h => hA q (Nat.le_trans hS.1 h)) (fun r_9 u t H locs ht hvm hw hB hz hk hS => ?_)
  have hP := zkn hP hk
  have w_10 : r_9 = zDi r_5 r_7 := hw
  refine lv_iload_n hx hb dX7_swept_19 rfl (lv_at hl 1 rfl) ?_
  refine va_calli (va_runS (As := [.int a]) (rest := [.int r_9]) ⟨hx, hb, hml, hown, hts⟩ (c_X7_yOf l dC dI H.size a) (va_cwS 1 hts (goodIn_app (goodIn_of _ (by decide +kernel)) (goodIn_sub ((fun w h => List.mem_cons_of_mem _ (List.mem_append_right _ (List.mem_append_right _ (List.mem_append_right _ (List.mem_append_right _ (h))))))) zgX7_yOf)) rfl rfl rfl (by decide +kernel) ⟨Nat.le_of_ble_eq_true rfl, Nat.le_of_ble_eq_true rfl⟩) ⟨nPc_blind, nPc_pass⟩ rfl rfl hl.1 rfl (lv_room (Nat.le_of_ble_eq_true rfl)) dX7_swept_20 ⟨Nat.le_of_ble_eq_true rfl, Nat.le_of_ble_eq_true rfl⟩) hS (fun q _ h => hA q (Nat.le_trans hS.1 h)) (fun q h => hA q (Nat.le_trans hS.1 h)) (fun r_11 u t H locs ht hvm hw hB hz hk hS => ?_)
  have hP := zkn hP hk
  have w_12 : r_11 = a - a / 10 * 10 := hw
  refine lv_iload_n hx hb dX7_swept_23 rfl (lv_at hl 2 rfl) ?_
  refine va_calli (va_runS (As := [.int b]) (rest := [.int r_11, .int r_9]) ⟨hx, hb, hml, hown, hts⟩ (c_X7_yOf l dC dI H.size b) (va_cwS 1 hts (goodIn_app (goodIn_of _ (by decide +kernel)) (goodIn_sub ((fun w h => List.mem_cons_of_mem _ (List.mem_append_right _ (List.mem_append_right _ (List.mem_append_right _ (List.mem_append_right _ (h))))))) zgX7_yOf)) rfl rfl rfl (by decide +kernel) ⟨Nat.le_of_ble_eq_true rfl, Nat.le_of_ble_eq_true rfl⟩) ⟨nPc_blind, nPc_pass⟩ rfl rfl hl.1 rfl (lv_room (Nat.le_of_ble_eq_true rfl)) dX7_swept_24 ⟨Nat.le_of_ble_eq_true rfl, Nat.le_of_ble_eq_true rfl⟩) hS (fun q _ h => hA q (Nat.le_trans hS.1 h)) (fun q h => hA q (Nat.le_trans hS.1 h)) (fun r_13 u t H locs ht hvm hw hB hz hk hS => ?_)
  have hP := zkn hP hk
  have w_14 : r_13 = b - b / 10 * 10 := hw
  refine va_calli (va_runS (As := [.int r_11, .int r_13]) (rest := [.int r_9]) ⟨hx, hb, hml, hown, hts⟩ (c_X7_distance l dC dI H.size r_11 r_13) (va_cwS 2 hts (goodIn_app (goodIn_of _ (by decide +kernel)) (goodIn_sub ((fun w h => List.mem_cons_of_mem _ (List.mem_append_right _ (List.mem_append_right _ (List.mem_append_right _ (List.mem_append_left _ h)))))) zgX7_distance)) rfl rfl rfl (by decide +kernel) ⟨Nat.le_of_ble_eq_true rfl, Nat.le_of_ble_eq_true rfl⟩) ⟨nPc_blind, nPc_pass⟩ rfl rfl hl.1 rfl (lv_room (Nat.le_of_ble_eq_true rfl)) dX7_swept_27 ⟨Nat.le_of_ble_eq_true rfl, Nat.le_of_ble_eq_true rfl⟩) hS (fun q _ h => hA q (Nat.le_trans hS.1 h)) (fun q h => hA q (Nat.le_trans hS.1 h)) (fun r_15 u t H locs ht hvm hw hB hz hk hS => ?_)
  have hP := zkn hP hk
  have w_16 : r_15 = zDi r_11 r_13 := hw
  refine lv_iadd hx hb dX7_swept_30 ?_
  refine lv_iconst (v := 1) hx hb dX7_swept_31 (by decide) ?_
  refine lv_iadd hx hb dX7_swept_32 ?_
  refine W.widen (k := 2) (n := 12) (Nat.le_of_ble_eq_true rfl) (Nat.le_of_ble_eq_true rfl) ?_
  exact vx_ret (W.iret (v := ((r_9 + r_15) + 1)) hx hb hr (fun t ht hW => ⟨⟨((r_9 + r_15) + 1), (), rfl, ⟨by subst_vars; rfl, w_2, w_4⟩, trivial⟩, hS.F ht⟩) hS.2.2 dX7_swept_33)
end ZCls1
