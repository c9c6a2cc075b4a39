section ZLaw1
def zwL_spot : List Cond := .codeWith yL_spot cL_spot 9 (some .int) [(0, 18, 21, 13), (0, 18, 25, 21), (0, 18, 29, 23), (0, 18, 33, 15)] :: (([.methodLink RL 17 yX7_spot, .instanceMethod yX7_spot, .selects RX7 yX7_spot yX7_spot, .initialized RX7, .classLink RL 13 "java/lang/IndexOutOfBoundsException"] : List Cond) ++ (zwX7_spot))
theorem zgL_spot : zwL_spot.all goodWord = true := zgo rfl (zga (by decide +kernel) (zgX7_spot))
set_option maxHeartbeats 4000000 in
set_option maxRecDepth 100000 in
theorem c_L_spot (l : Launch) (hst : l.stackTraces = false) (dC : Nat → ClassId) (dI : Nat → Nat → Nat) (sz : Nat) (x : Nat) (ax : Nat → Nat) (kx : Nat → ClassId) (o : Nat) (kO : ClassId) (fo : Nat → Int64) (a : Int32) (b : Int32) (d : Int32) (f : Int32) (g : Int32) (h : Int32) : Met l yL_spot zwL_spot ({ frames := 7, cells := 1, slots := 6, locals := 110 }) (gPcE dC dI sz [(x, .inr (10, [.ref (ax 0), .ref (ax 1), .ref (ax 2), .ref (ax 3), .ref (ax 4), .ref (ax 5), .int 0, .int 0, .int 0, .int 0, .int 0, .int 0])), ((ax 0), .inl ((kx 0), 8, .inl (fun _ => 0))), ((ax 1), .inl ((kx 1), 24, .inr (.inr (.inr (.inr (fun _ => none)))))), ((ax 2), .inl ((kx 2), 4, .inr (.inr (.inr (.inr (fun _ => none)))))), ((ax 3), .inl ((kx 3), 12, .inr (.inr (.inr (.inr (fun _ => none)))))), ((ax 4), .inl ((kx 4), 40, .inr (.inr (.inr (.inr (fun _ => none)))))), (o, .inl (kO, 1, .inr (.inl fo)))] [((kx 0), .int), ((kx 1), .object RX4), ((kx 2), .object RX5), ((kx 3), .object RX3), ((kx 4), .object RX0), (kO, .long)] [.ref x, .int a, .int b, .int d, .int f, .int g, .int h, .ref o]) (va_Qi (fun (r : Int32) (u : Unit) => r = 1) (fun u t => True) (va_A [(x, .inr (10, [.ref (ax 0), .ref (ax 1), .ref (ax 2), .ref (ax 3), .ref (ax 4), .ref (ax 5), .int 0, .int 0, .int 0, .int 0, .int 0, .int 0])), ((ax 0), .inl ((kx 0), 8, .inl (fun _ => 0))), ((ax 1), .inl ((kx 1), 24, .inr (.inr (.inr (.inr (fun _ => none)))))), ((ax 2), .inl ((kx 2), 4, .inr (.inr (.inr (.inr (fun _ => none)))))), ((ax 3), .inl ((kx 3), 12, .inr (.inr (.inr (.inr (fun _ => none)))))), ((ax 4), .inl ((kx 4), 40, .inr (.inr (.inr (.inr (fun _ => none)))))), (o, .inl (kO, 1, .inr (.inl fo)))] sz)) 1 6 (va_A [(x, .inr (10, [.ref (ax 0), .ref (ax 1), .ref (ax 2), .ref (ax 3), .ref (ax 4), .ref (ax 5), .int 0, .int 0, .int 0, .int 0, .int 0, .int 0])), ((ax 0), .inl ((kx 0), 8, .inl (fun _ => 0))), ((ax 1), .inl ((kx 1), 24, .inr (.inr (.inr (.inr (fun _ => none)))))), ((ax 2), .inl ((kx 2), 4, .inr (.inr (.inr (.inr (fun _ => none)))))), ((ax 3), .inl ((kx 3), 12, .inr (.inr (.inr (.inr (fun _ => none)))))), ((ax 4), .inl ((kx 4), 40, .inr (.inr (.inr (.inr (fun _ => none)))))), (o, .inl (kO, 1, .inr (.inl fo)))] sz) := by
  refine va_MetW (cc := cL_spot) (maxL := 9) (ret := (some .int)) (hh := [(0, 18, 21, 13), (0, 18, 25, 21), (0, 18, 29, 23), (0, 18, 33, 15)]) (by decide) rfl ?_
  intro p e s m args below meth c s₁ B hml hv
  obtain ⟨rfl, hsz, hP, hK, hD0, hE⟩ := hv
  have hx := B.exec
  have hb := B.bytes
  have hr := B.returns
  have hts := atoms_spec (ws := zwL_spot) B.pre
  have hown : s.vm.findClass RL = some m.cls := findClass_of_methodNamed B.named
  have hlocks := B.notSynchronized
  have htab : c.exceptionTable.toList = tableOf [(0, 18, 21, 13), (0, 18, 25, 21), (0, 18, 29, 23), (0, 18, 33, 15)] := vx_table (x := yL_spot) B (hts (.codeWith yL_spot cL_spot 9 (some .int) [(0, 18, 21, 13), (0, 18, 25, 21), (0, 18, 29, 23), (0, 18, 33, 15)]) List.mem_cons_self)
  subst hsz
  have hD := hD0.self (sz := s.heap.size)
  generalize hAe : va_A [(x, .inr (10, [.ref (ax 0), .ref (ax 1), .ref (ax 2), .ref (ax 3), .ref (ax 4), .ref (ax 5), .int 0, .int 0, .int 0, .int 0, .int 0, .int 0])), ((ax 0), .inl ((kx 0), 8, .inl (fun _ => 0))), ((ax 1), .inl ((kx 1), 24, .inr (.inr (.inr (.inr (fun _ => none)))))), ((ax 2), .inl ((kx 2), 4, .inr (.inr (.inr (.inr (fun _ => none)))))), ((ax 3), .inl ((kx 3), 12, .inr (.inr (.inr (.inr (fun _ => none)))))), ((ax 4), .inl ((kx 4), 40, .inr (.inr (.inr (.inr (fun _ => none)))))), (o, .inl (kO, 1, .inr (.inl fo)))] s.heap.size = A at hD hE ⊢
  have hA : ∀ q : Nat, s.heap.size ≤ q → A q := fun q h => by rw [← hAe]; exact Or.inr h
  have hS : va_S A s.heap s.heap [] := va_S.rf
  have hP : va_P (dC, dI) vwCl [(x, .inr (10, [.ref (ax 0), .ref (ax 1), .ref (ax 2), .ref (ax 3), .ref (ax 4), .ref (ax 5), .int 0, .int 0, .int 0, .int 0, .int 0, .int 0])), ((ax 0), .inl ((kx 0), 8, .inl (fun _ => 0))), ((ax 1), .inl ((kx 1), 24, .inr (.inr (.inr (.inr (fun _ => none)))))), ((ax 2), .inl ((kx 2), 4, .inr (.inr (.inr (.inr (fun _ => none)))))), ((ax 3), .inl ((kx 3), 12, .inr (.inr (.inr (.inr (fun _ => none)))))), ((ax 4), .inl ((kx 4), 40, .inr (.inr (.inr (.inr (fun _ => none)))))), (o, .inl (kO, 1, .inr (.inl fo)))] s.heap := hP
  have hl := lv_entry ([.ref x, .int a, .int b, .int d, .int f, .int g, .int h, .ref o]) (n := 9) (Nat.le_of_ble_eq_true rfl)
  rw [lg_entry_eq]
  generalize (lg_sl ([.ref x, .int a, .int b, .int d, .int f, .int g, .int h, .ref o]) ++ List.replicate (9 - (lg_sl ([.ref x, .int a, .int b, .int d, .int f, .int g, .int h, .ref o])).length) Slot.unset).toArray = ls at hl ⊢
  have hl : lv_has ls 9 [(0, .ref x), (1, .int a), (2, .int b), (3, .int d), (4, .int f), (5, .int g), (6, .int h), (7, .ref o)] := hl
  refine lv_aload hx hb dL_spot_0 (lv_at hl 7 rfl) ?_
  refine lv_iconst (v := 0) hx hb dL_spot_2 (by decide) ?_
  refine lv_aload_n hx hb dL_spot_3 rfl (lv_at hl 0 rfl) ?_
  refine lv_iload_n hx hb dL_spot_4 rfl (lv_at hl 1 rfl) ?_
  refine lv_iload_n hx hb dL_spot_5 rfl (lv_at hl 2 rfl) ?_
  refine lv_iload_n hx hb dL_spot_6 rfl (lv_at hl 3 rfl) ?_
  refine lv_iload hx hb dL_spot_7 (lv_at hl 4 rfl) ?_
  refine lv_iload hx hb dL_spot_9 (lv_at hl 5 rfl) ?_
  refine lv_iload hx hb dL_spot_11 (lv_at hl 6 rfl) ?_
  have hPc := hP.sub (ws' := xW x ax kx) [0, 1, 2, 3, 4, 5] rfl
  have hKc := hK.sub (tys' := xT kx) [0, 1, 2, 3, 4] rfl
  refine vx_calli (vx_runV (As := [.int a, .int b, .int d, .int f, .int g, .int h]) (rest := [.int 0, .ref o]) ⟨hx, hb, hml, hown, hts⟩ (c_X7_spot l hst dC dI s.heap.size x ax kx a b d f g h) (cwV 6 hts (goodIn_app (goodIn_of _ (by decide +kernel)) (goodIn_sub ((fun w h => List.mem_cons_of_mem _ (List.mem_append_right _ (h)))) zgX7_spot)) rfl rfl rfl (by decide +kernel) ⟨Nat.le_of_ble_eq_true rfl, Nat.le_of_ble_eq_true rfl⟩) ⟨xPc_blind, va_recv hK hP (ci := 10) (q0 := 0) rfl rfl, xPc_pass hPc hKc hE hS (fun q h => hA q (Nat.le_trans hS.1 h))⟩ rfl rfl hl.1 rfl (lv_room (Nat.le_of_ble_eq_true rfl)) dL_spot_13 ⟨Nat.le_of_ble_eq_true rfl, Nat.le_of_ble_eq_true rfl⟩) hS (fun q _ h => hA q (Nat.le_trans hS.1 h)) (fun q h => hA q (Nat.le_trans hS.1 h)) (fun q _ h => hA q (Nat.le_trans hS.1 h)) (fun E ce q9 _ t H locs ht hvm hpx hBX hz hk hS hcell hv hcl => ?_) (fun r_1 u t H locs ht hvm hw hB hz hk hS => ?_)
  · have hBX : E = "java/lang/IndexOutOfBoundsException" := hBX
    subst hBX
    have hP := zkn hP hk
    refine vx_catch (own := RL) (name := "java/lang/IndexOutOfBoundsException") hown [] ⟨0, 18, 21, 13⟩ [⟨0, 18, 25, 21⟩, ⟨0, 18, 29, 23⟩, ⟨0, 18, 33, 15⟩] (htab.trans rfl) (fun z hz => nomatch hz) (by decide) (by decide) (hts (.classLink RL 13 "java/lang/IndexOutOfBoundsException") (by decide +kernel)) (va_Nw.use rfl (hE.2.2.2.1 _ (by decide))) hcell hv hcl ?_
    refine W.eq (g2 := F0 m 21 ls [.ref q9]) rfl ?_
    refine lv_astore (lv' := [(8, .ref q9), (0, .ref x), (1, .int a), (2, .int b), (3, .int d), (4, .int f), (5, .int g), (6, .int h), (7, .ref o)]) hx hb dL_spot_21 hl (by decide) rfl (fun ls hl => ?_)
    refine lv_iconst (v := 1) hx hb dL_spot_23 (by decide) ?_
    refine W.widen (k := 1) (n := 6) (Nat.le_of_ble_eq_true rfl) (Nat.le_of_ble_eq_true rfl) ?_
    exact W.iret (v := 1) hx hb hr (fun t ht hW => ⟨⟨1, (), rfl, rfl, trivial⟩, hS.F ht⟩) hS.2.2 dL_spot_24
  exact hw.elim

def zwL_robot : List Cond := .codeWith yL_robot cL_robot 6 (some .int) [(0, 12, 15, 13), (0, 12, 19, 21), (0, 12, 23, 23), (0, 12, 27, 15)] :: (([.methodLink RL 36 yX7_robot, .instanceMethod yX7_robot, .selects RX7 yX7_robot yX7_robot, .initialized RX7, .classLink RL 13 "java/lang/IndexOutOfBoundsException"] : List Cond) ++ (zwX7_robot))
theorem zgL_robot : zwL_robot.all goodWord = true := zgo rfl (zga (by decide +kernel) (zgX7_robot))
set_option maxHeartbeats 4000000 in
set_option maxRecDepth 100000 in
theorem c_L_robot (l : Launch) (hst : l.stackTraces = false) (dC : Nat → ClassId) (dI : Nat → Nat → Nat) (sz : Nat) (x : Nat) (ax : Nat → Nat) (kx : Nat → ClassId) (o : Nat) (kO : ClassId) (fo : Nat → Int64) (a : Int32) (b : Int32) (d : Int32) : Met l yL_robot zwL_robot ({ frames := 8, cells := 1, slots := 6, locals := 130 }) (gPcE dC dI sz [(x, .inr (10, [.ref (ax 0), .ref (ax 1), .ref (ax 2), .ref (ax 3), .ref (ax 4), .ref (ax 5), .int 0, .int 0, .int 0, .int 0, .int 0, .int 0])), ((ax 0), .inl ((kx 0), 8, .inl (fun _ => 0))), ((ax 1), .inl ((kx 1), 24, .inr (.inr (.inr (.inr (fun _ => none)))))), ((ax 2), .inl ((kx 2), 4, .inr (.inr (.inr (.inr (fun _ => none)))))), ((ax 3), .inl ((kx 3), 12, .inr (.inr (.inr (.inr (fun _ => none)))))), ((ax 4), .inl ((kx 4), 40, .inr (.inr (.inr (.inr (fun _ => none)))))), (o, .inl (kO, 1, .inr (.inl fo)))] [((kx 0), .int), ((kx 1), .object RX4), ((kx 2), .object RX5), ((kx 3), .object RX3), ((kx 4), .object RX0), (kO, .long)] [.ref x, .int a, .int b, .int d, .ref o]) (va_Qi (fun (r : Int32) (u : Unit) => r = 1) (fun u t => True) (va_A [(x, .inr (10, [.ref (ax 0), .ref (ax 1), .ref (ax 2), .ref (ax 3), .ref (ax 4), .ref (ax 5), .int 0, .int 0, .int 0, .int 0, .int 0, .int 0])), ((ax 0), .inl ((kx 0), 8, .inl (fun _ => 0))), ((ax 1), .inl ((kx 1), 24, .inr (.inr (.inr (.inr (fun _ => none)))))), ((ax 2), .inl ((kx 2), 4, .inr (.inr (.inr (.inr (fun _ => none)))))), ((ax 3), .inl ((kx 3), 12, .inr (.inr (.inr (.inr (fun _ => none)))))), ((ax 4), .inl ((kx 4), 40, .inr (.inr (.inr (.inr (fun _ => none)))))), (o, .inl (kO, 1, .inr (.inl fo)))] sz)) 1 6 (va_A [(x, .inr (10, [.ref (ax 0), .ref (ax 1), .ref (ax 2), .ref (ax 3), .ref (ax 4), .ref (ax 5), .int 0, .int 0, .int 0, .int 0, .int 0, .int 0])), ((ax 0), .inl ((kx 0), 8, .inl (fun _ => 0))), ((ax 1), .inl ((kx 1), 24, .inr (.inr (.inr (.inr (fun _ => none)))))), ((ax 2), .inl ((kx 2), 4, .inr (.inr (.inr (.inr (fun _ => none)))))), ((ax 3), .inl ((kx 3), 12, .inr (.inr (.inr (.inr (fun _ => none)))))), ((ax 4), .inl ((kx 4), 40, .inr (.inr (.inr (.inr (fun _ => none)))))), (o, .inl (kO, 1, .inr (.inl fo)))] sz) := by
  refine va_MetW (cc := cL_robot) (maxL := 6) (ret := (some .int)) (hh := [(0, 12, 15, 13), (0, 12, 19, 21), (0, 12, 23, 23), (0, 12, 27, 15)]) (by decide) rfl ?_
  intro p e s m args below meth c s₁ B hml hv
  obtain ⟨rfl, hsz, hP, hK, hD0, hE⟩ := hv
  have hx := B.exec
  have hb := B.bytes
  have hr := B.returns
  have hts := atoms_spec (ws := zwL_robot) B.pre
  have hown : s.vm.findClass RL = some m.cls := findClass_of_methodNamed B.named
  have hlocks := B.notSynchronized
  have htab : c.exceptionTable.toList = tableOf [(0, 12, 15, 13), (0, 12, 19, 21), (0, 12, 23, 23), (0, 12, 27, 15)] := vx_table (x := yL_robot) B (hts (.codeWith yL_robot cL_robot 6 (some .int) [(0, 12, 15, 13), (0, 12, 19, 21), (0, 12, 23, 23), (0, 12, 27, 15)]) List.mem_cons_self)
  subst hsz
  have hD := hD0.self (sz := s.heap.size)
  generalize hAe : va_A [(x, .inr (10, [.ref (ax 0), .ref (ax 1), .ref (ax 2), .ref (ax 3), .ref (ax 4), .ref (ax 5), .int 0, .int 0, .int 0, .int 0, .int 0, .int 0])), ((ax 0), .inl ((kx 0), 8, .inl (fun _ => 0))), ((ax 1), .inl ((kx 1), 24, .inr (.inr (.inr (.inr (fun _ => none)))))), ((ax 2), .inl ((kx 2), 4, .inr (.inr (.inr (.inr (fun _ => none)))))), ((ax 3), .inl ((kx 3), 12, .inr (.inr (.inr (.inr (fun _ => none)))))), ((ax 4), .inl ((kx 4), 40, .inr (.inr (.inr (.inr (fun _ => none)))))), (o, .inl (kO, 1, .inr (.inl fo)))] s.heap.size = A at hD hE ⊢
  have hA : ∀ q : Nat, s.heap.size ≤ q → A q := fun q h => by rw [← hAe]; exact Or.inr h
  have hS : va_S A s.heap s.heap [] := va_S.rf
  have hP : va_P (dC, dI) vwCl [(x, .inr (10, [.ref (ax 0), .ref (ax 1), .ref (ax 2), .ref (ax 3), .ref (ax 4), .ref (ax 5), .int 0, .int 0, .int 0, .int 0, .int 0, .int 0])), ((ax 0), .inl ((kx 0), 8, .inl (fun _ => 0))), ((ax 1), .inl ((kx 1), 24, .inr (.inr (.inr (.inr (fun _ => none)))))), ((ax 2), .inl ((kx 2), 4, .inr (.inr (.inr (.inr (fun _ => none)))))), ((ax 3), .inl ((kx 3), 12, .inr (.inr (.inr (.inr (fun _ => none)))))), ((ax 4), .inl ((kx 4), 40, .inr (.inr (.inr (.inr (fun _ => none)))))), (o, .inl (kO, 1, .inr (.inl fo)))] s.heap := hP
  have hl := lv_entry ([.ref x, .int a, .int b, .int d, .ref o]) (n := 6) (Nat.le_of_ble_eq_true rfl)
  rw [lg_entry_eq]
  generalize (lg_sl ([.ref x, .int a, .int b, .int d, .ref o]) ++ List.replicate (6 - (lg_sl ([.ref x, .int a, .int b, .int d, .ref o])).length) Slot.unset).toArray = ls at hl ⊢
  have hl : lv_has ls 6 [(0, .ref x), (1, .int a), (2, .int b), (3, .int d), (4, .ref o)] := hl
  refine lv_aload hx hb dL_robot_0 (lv_at hl 4 rfl) ?_
  refine lv_iconst (v := 0) hx hb dL_robot_2 (by decide) ?_
  refine lv_aload_n hx hb dL_robot_3 rfl (lv_at hl 0 rfl) ?_
  refine lv_iload_n hx hb dL_robot_4 rfl (lv_at hl 1 rfl) ?_
  refine lv_iload_n hx hb dL_robot_5 rfl (lv_at hl 2 rfl) ?_
  refine lv_iload_n hx hb dL_robot_6 rfl (lv_at hl 3 rfl) ?_
  have hPc := hP.sub (ws' := xW x ax kx) [0, 1, 2, 3, 4, 5] rfl
  have hKc := hK.sub (tys' := xT kx) [0, 1, 2, 3, 4] rfl
  refine vx_calli (vx_runV (As := [.int a, .int b, .int d]) (rest := [.int 0, .ref o]) ⟨hx, hb, hml, hown, hts⟩ (c_X7_robot l hst dC dI s.heap.size x ax kx a b d) (cwV 3 hts (goodIn_app (goodIn_of _ (by decide +kernel)) (goodIn_sub ((fun w h => List.mem_cons_of_mem _ (List.mem_append_right _ (h)))) zgX7_robot)) rfl rfl rfl (by decide +kernel) ⟨Nat.le_of_ble_eq_true rfl, Nat.le_of_ble_eq_true rfl⟩) ⟨xPc_blind, va_recv hK hP (ci := 10) (q0 := 0) rfl rfl, xPc_pass hPc hKc hE hS (fun q h => hA q (Nat.le_trans hS.1 h))⟩ rfl rfl hl.1 rfl (lv_room (Nat.le_of_ble_eq_true rfl)) dL_robot_7 ⟨Nat.le_of_ble_eq_true rfl, Nat.le_of_ble_eq_true rfl⟩) hS (fun q _ h => hA q (Nat.le_trans hS.1 h)) (fun q h => hA q (Nat.le_trans hS.1 h)) (fun q _ h => hA q (Nat.le_trans hS.1 h)) (fun E ce q9 _ t H locs ht hvm hpx hBX hz hk hS hcell hv hcl => ?_) (fun r_1 u t H locs ht hvm hw hB hz hk hS => ?_)
  · have hBX : E = "java/lang/IndexOutOfBoundsException" := hBX
    subst hBX
    have hP := zkn hP hk
    refine vx_catch (own := RL) (name := "java/lang/IndexOutOfBoundsException") hown [] ⟨0, 12, 15, 13⟩ [⟨0, 12, 19, 21⟩, ⟨0, 12, 23, 23⟩, ⟨0, 12, 27, 15⟩] (htab.trans rfl) (fun z hz => nomatch hz) (by decide) (by decide) (hts (.classLink RL 13 "java/lang/IndexOutOfBoundsException") (by decide +kernel)) (va_Nw.use rfl (hE.2.2.2.1 _ (by decide))) hcell hv hcl ?_
    refine W.eq (g2 := F0 m 15 ls [.ref q9]) rfl ?_
    refine lv_astore (lv' := [(5, .ref q9), (0, .ref x), (1, .int a), (2, .int b), (3, .int d), (4, .ref o)]) hx hb dL_robot_15 hl (by decide) rfl (fun ls hl => ?_)
    refine lv_iconst (v := 1) hx hb dL_robot_17 (by decide) ?_
    refine W.widen (k := 1) (n := 6) (Nat.le_of_ble_eq_true rfl) (Nat.le_of_ble_eq_true rfl) ?_
    exact W.iret (v := 1) hx hb hr (fun t ht hW => ⟨⟨1, (), rfl, rfl, trivial⟩, hS.F ht⟩) hS.2.2 dL_robot_18
  exact hw.elim

def zwL_reaches : List Cond := .codeWith yL_reaches cL_reaches 5 (some .int) [(0, 17, 20, 13), (0, 17, 24, 21)] :: (([.methodLink RL 40 yX7_reaches, .instanceMethod yX7_reaches, .selects RX7 yX7_reaches yX7_reaches, .initialized RX7, .classLink RL 13 "java/lang/IndexOutOfBoundsException"] : List Cond) ++ (zwX7_reaches))
theorem zgL_reaches : zwL_reaches.all goodWord = true := zgo rfl (zga (by decide +kernel) (zgX7_reaches))
set_option maxHeartbeats 4000000 in
set_option maxRecDepth 100000 in
theorem c_L_reaches (l : Launch) (hst : l.stackTraces = false) (dC : Nat → ClassId) (dI : Nat → Nat → Nat) (sz : Nat) (x : Nat) (ax : Nat → Nat) (kx : Nat → ClassId) (o : Nat) (kO : ClassId) (fo : Nat → Int64) (a : Int32) (b : Int32) : Met l yL_reaches zwL_reaches ({ frames := 8, cells := 1, slots := 6, locals := 127 }) (gPcE dC dI sz [(x, .inr (10, [.ref (ax 0), .ref (ax 1), .ref (ax 2), .ref (ax 3), .ref (ax 4), .ref (ax 5), .int 0, .int 0, .int 0, .int 0, .int 0, .int 0])), ((ax 0), .inl ((kx 0), 8, .inl (fun _ => 0))), ((ax 1), .inl ((kx 1), 24, .inr (.inr (.inr (.inr (fun _ => none)))))), ((ax 2), .inl ((kx 2), 4, .inr (.inr (.inr (.inr (fun _ => none)))))), ((ax 3), .inl ((kx 3), 12, .inr (.inr (.inr (.inr (fun _ => none)))))), ((ax 4), .inl ((kx 4), 40, .inr (.inr (.inr (.inr (fun _ => none)))))), (o, .inl (kO, 1, .inr (.inl fo)))] [((kx 0), .int), ((kx 1), .object RX4), ((kx 2), .object RX5), ((kx 3), .object RX3), ((kx 4), .object RX0), (kO, .long)] [.ref x, .int a, .int b, .ref o]) (va_Qi (fun (r : Int32) (u : Unit) => r = 1) (fun u t => True) (va_A [(x, .inr (10, [.ref (ax 0), .ref (ax 1), .ref (ax 2), .ref (ax 3), .ref (ax 4), .ref (ax 5), .int 0, .int 0, .int 0, .int 0, .int 0, .int 0])), ((ax 0), .inl ((kx 0), 8, .inl (fun _ => 0))), ((ax 1), .inl ((kx 1), 24, .inr (.inr (.inr (.inr (fun _ => none)))))), ((ax 2), .inl ((kx 2), 4, .inr (.inr (.inr (.inr (fun _ => none)))))), ((ax 3), .inl ((kx 3), 12, .inr (.inr (.inr (.inr (fun _ => none)))))), ((ax 4), .inl ((kx 4), 40, .inr (.inr (.inr (.inr (fun _ => none)))))), (o, .inl (kO, 1, .inr (.inl fo)))] sz)) 1 6 (va_A [(x, .inr (10, [.ref (ax 0), .ref (ax 1), .ref (ax 2), .ref (ax 3), .ref (ax 4), .ref (ax 5), .int 0, .int 0, .int 0, .int 0, .int 0, .int 0])), ((ax 0), .inl ((kx 0), 8, .inl (fun _ => 0))), ((ax 1), .inl ((kx 1), 24, .inr (.inr (.inr (.inr (fun _ => none)))))), ((ax 2), .inl ((kx 2), 4, .inr (.inr (.inr (.inr (fun _ => none)))))), ((ax 3), .inl ((kx 3), 12, .inr (.inr (.inr (.inr (fun _ => none)))))), ((ax 4), .inl ((kx 4), 40, .inr (.inr (.inr (.inr (fun _ => none)))))), (o, .inl (kO, 1, .inr (.inl fo)))] sz) := by
  refine va_MetW (cc := cL_reaches) (maxL := 5) (ret := (some .int)) (hh := [(0, 17, 20, 13), (0, 17, 24, 21)]) (by decide) rfl ?_
  intro p e s m args below meth c s₁ B hml hv
  obtain ⟨rfl, hsz, hP, hK, hD0, hE⟩ := hv
  have hx := B.exec
  have hb := B.bytes
  have hr := B.returns
  have hts := atoms_spec (ws := zwL_reaches) B.pre
  have hown : s.vm.findClass RL = some m.cls := findClass_of_methodNamed B.named
  have hlocks := B.notSynchronized
  have htab : c.exceptionTable.toList = tableOf [(0, 17, 20, 13), (0, 17, 24, 21)] := vx_table (x := yL_reaches) B (hts (.codeWith yL_reaches cL_reaches 5 (some .int) [(0, 17, 20, 13), (0, 17, 24, 21)]) List.mem_cons_self)
  subst hsz
  have hD := hD0.self (sz := s.heap.size)
  generalize hAe : va_A [(x, .inr (10, [.ref (ax 0), .ref (ax 1), .ref (ax 2), .ref (ax 3), .ref (ax 4), .ref (ax 5), .int 0, .int 0, .int 0, .int 0, .int 0, .int 0])), ((ax 0), .inl ((kx 0), 8, .inl (fun _ => 0))), ((ax 1), .inl ((kx 1), 24, .inr (.inr (.inr (.inr (fun _ => none)))))), ((ax 2), .inl ((kx 2), 4, .inr (.inr (.inr (.inr (fun _ => none)))))), ((ax 3), .inl ((kx 3), 12, .inr (.inr (.inr (.inr (fun _ => none)))))), ((ax 4), .inl ((kx 4), 40, .inr (.inr (.inr (.inr (fun _ => none)))))), (o, .inl (kO, 1, .inr (.inl fo)))] s.heap.size = A at hD hE ⊢
  have hA : ∀ q : Nat, s.heap.size ≤ q → A q := fun q h => by rw [← hAe]; exact Or.inr h
  have hS : va_S A s.heap s.heap [] := va_S.rf
  have hP : va_P (dC, dI) vwCl [(x, .inr (10, [.ref (ax 0), .ref (ax 1), .ref (ax 2), .ref (ax 3), .ref (ax 4), .ref (ax 5), .int 0, .int 0, .int 0, .int 0, .int 0, .int 0])), ((ax 0), .inl ((kx 0), 8, .inl (fun _ => 0))), ((ax 1), .inl ((kx 1), 24, .inr (.inr (.inr (.inr (fun _ => none)))))), ((ax 2), .inl ((kx 2), 4, .inr (.inr (.inr (.inr (fun _ => none)))))), ((ax 3), .inl ((kx 3), 12, .inr (.inr (.inr (.inr (fun _ => none)))))), ((ax 4), .inl ((kx 4), 40, .inr (.inr (.inr (.inr (fun _ => none)))))), (o, .inl (kO, 1, .inr (.inl fo)))] s.heap := hP
  have hl := lv_entry ([.ref x, .int a, .int b, .ref o]) (n := 5) (Nat.le_of_ble_eq_true rfl)
  rw [lg_entry_eq]
  generalize (lg_sl ([.ref x, .int a, .int b, .ref o]) ++ List.replicate (5 - (lg_sl ([.ref x, .int a, .int b, .ref o])).length) Slot.unset).toArray = ls at hl ⊢
  have hl : lv_has ls 5 [(0, .ref x), (1, .int a), (2, .int b), (3, .ref o)] := hl
  refine lv_aload_n hx hb dL_reaches_0 rfl (lv_at hl 3 rfl) ?_
  refine lv_iconst (v := 0) hx hb dL_reaches_1 (by decide) ?_
  refine lv_aload_n hx hb dL_reaches_2 rfl (lv_at hl 0 rfl) ?_
  refine lv_iload_n hx hb dL_reaches_3 rfl (lv_at hl 1 rfl) ?_
  refine lv_iload_n hx hb dL_reaches_4 rfl (lv_at hl 2 rfl) ?_
  have hPc := hP.sub (ws' := xW x ax kx) [0, 1, 2, 3, 4, 5] rfl
  have hKc := hK.sub (tys' := xT kx) [0, 1, 2, 3, 4] rfl
  refine vx_calli (vx_runV (As := [.int a, .int b]) (rest := [.int 0, .ref o]) ⟨hx, hb, hml, hown, hts⟩ (c_X7_reaches l hst dC dI s.heap.size x ax kx a b) (cwV 2 hts (goodIn_app (goodIn_of _ (by decide +kernel)) (goodIn_sub ((fun w h => List.mem_cons_of_mem _ (List.mem_append_right _ (h)))) zgX7_reaches)) rfl rfl rfl (by decide +kernel) ⟨Nat.le_of_ble_eq_true rfl, Nat.le_of_ble_eq_true rfl⟩) ⟨xPc_blind, va_recv hK hP (ci := 10) (q0 := 0) rfl rfl, xPc_pass hPc hKc hE hS (fun q h => hA q (Nat.le_trans hS.1 h))⟩ rfl rfl hl.1 rfl (lv_room (Nat.le_of_ble_eq_true rfl)) dL_reaches_5 ⟨Nat.le_of_ble_eq_true rfl, Nat.le_of_ble_eq_true rfl⟩) hS (fun q _ h => hA q (Nat.le_trans hS.1 h)) (fun q h => hA q (Nat.le_trans hS.1 h)) (fun q _ h => hA q (Nat.le_trans hS.1 h)) (fun E ce q9 _ t H locs ht hvm hpx hBX hz hk hS hcell hv hcl => ?_) (fun r_1 u t H locs ht hvm hw hB hz hk hS => ?_)
  · have hBX : E = "java/lang/IndexOutOfBoundsException" := hBX
    subst hBX
    have hP := zkn hP hk
    refine vx_catch (own := RL) (name := "java/lang/IndexOutOfBoundsException") hown [] ⟨0, 17, 20, 13⟩ [⟨0, 17, 24, 21⟩] (htab.trans rfl) (fun z hz => nomatch hz) (by decide) (by decide) (hts (.classLink RL 13 "java/lang/IndexOutOfBoundsException") (by decide +kernel)) (va_Nw.use rfl (hE.2.2.2.1 _ (by decide))) hcell hv hcl ?_
    refine W.eq (g2 := F0 m 20 ls [.ref q9]) rfl ?_
    refine lv_astore (lv' := [(4, .ref q9), (0, .ref x), (1, .int a), (2, .int b), (3, .ref o)]) hx hb dL_reaches_20 hl (by decide) rfl (fun ls hl => ?_)
    refine lv_iconst (v := 1) hx hb dL_reaches_22 (by decide) ?_
    refine W.widen (k := 1) (n := 6) (Nat.le_of_ble_eq_true rfl) (Nat.le_of_ble_eq_true rfl) ?_
    exact W.iret (v := 1) hx hb hr (fun t ht hW => ⟨⟨1, (), rfl, rfl, trivial⟩, hS.F ht⟩) hS.2.2 dL_reaches_23
  exact hw.elim

def zwL_current : List Cond := .codeWith yL_current cL_current 5 (some .int) [(0, 10, 13, 13), (0, 10, 17, 21)] :: (([.methodLink RL 48 yX7_current, .instanceMethod yX7_current, .selects RX7 yX7_current yX7_current, .initialized RX7, .classLink RL 13 "java/lang/IndexOutOfBoundsException"] : List Cond) ++ (zwX7_current))
theorem zgL_current : zwL_current.all goodWord = true := zgo rfl (zga (by decide +kernel) (zgX7_current))
set_option maxHeartbeats 4000000 in
set_option maxRecDepth 100000 in
theorem c_L_current (l : Launch) (hst : l.stackTraces = false) (dC : Nat → ClassId) (dI : Nat → Nat → Nat) (sz : Nat) (x : Nat) (ax : Nat → Nat) (kx : Nat → ClassId) (o : Nat) (kO : ClassId) (fo : Nat → Int64) (a : Int32) (b : Int32) : Met l yL_current zwL_current ({ frames := 8, cells := 1, slots := 6, locals := 128 }) (gPcE dC dI sz [(x, .inr (10, [.ref (ax 0), .ref (ax 1), .ref (ax 2), .ref (ax 3), .ref (ax 4), .ref (ax 5), .int 0, .int 0, .int 0, .int 0, .int 0, .int 0])), ((ax 0), .inl ((kx 0), 8, .inl (fun _ => 0))), ((ax 1), .inl ((kx 1), 24, .inr (.inr (.inr (.inr (fun _ => none)))))), ((ax 2), .inl ((kx 2), 4, .inr (.inr (.inr (.inr (fun _ => none)))))), ((ax 3), .inl ((kx 3), 12, .inr (.inr (.inr (.inr (fun _ => none)))))), ((ax 4), .inl ((kx 4), 40, .inr (.inr (.inr (.inr (fun _ => none)))))), (o, .inl (kO, 1, .inr (.inl fo)))] [((kx 0), .int), ((kx 1), .object RX4), ((kx 2), .object RX5), ((kx 3), .object RX3), ((kx 4), .object RX0), (kO, .long)] [.ref x, .int a, .int b, .ref o]) (va_Qi (fun (r : Int32) (u : Unit) => r = 1) (fun u t => True) (va_A [(x, .inr (10, [.ref (ax 0), .ref (ax 1), .ref (ax 2), .ref (ax 3), .ref (ax 4), .ref (ax 5), .int 0, .int 0, .int 0, .int 0, .int 0, .int 0])), ((ax 0), .inl ((kx 0), 8, .inl (fun _ => 0))), ((ax 1), .inl ((kx 1), 24, .inr (.inr (.inr (.inr (fun _ => none)))))), ((ax 2), .inl ((kx 2), 4, .inr (.inr (.inr (.inr (fun _ => none)))))), ((ax 3), .inl ((kx 3), 12, .inr (.inr (.inr (.inr (fun _ => none)))))), ((ax 4), .inl ((kx 4), 40, .inr (.inr (.inr (.inr (fun _ => none)))))), (o, .inl (kO, 1, .inr (.inl fo)))] sz)) 1 6 (va_A [(x, .inr (10, [.ref (ax 0), .ref (ax 1), .ref (ax 2), .ref (ax 3), .ref (ax 4), .ref (ax 5), .int 0, .int 0, .int 0, .int 0, .int 0, .int 0])), ((ax 0), .inl ((kx 0), 8, .inl (fun _ => 0))), ((ax 1), .inl ((kx 1), 24, .inr (.inr (.inr (.inr (fun _ => none)))))), ((ax 2), .inl ((kx 2), 4, .inr (.inr (.inr (.inr (fun _ => none)))))), ((ax 3), .inl ((kx 3), 12, .inr (.inr (.inr (.inr (fun _ => none)))))), ((ax 4), .inl ((kx 4), 40, .inr (.inr (.inr (.inr (fun _ => none)))))), (o, .inl (kO, 1, .inr (.inl fo)))] sz) := by
  refine va_MetW (cc := cL_current) (maxL := 5) (ret := (some .int)) (hh := [(0, 10, 13, 13), (0, 10, 17, 21)]) (by decide) rfl ?_
  intro p e s m args below meth c s₁ B hml hv
  obtain ⟨rfl, hsz, hP, hK, hD0, hE⟩ := hv
  have hx := B.exec
  have hb := B.bytes
  have hr := B.returns
  have hts := atoms_spec (ws := zwL_current) B.pre
  have hown : s.vm.findClass RL = some m.cls := findClass_of_methodNamed B.named
  have hlocks := B.notSynchronized
  have htab : c.exceptionTable.toList = tableOf [(0, 10, 13, 13), (0, 10, 17, 21)] := vx_table (x := yL_current) B (hts (.codeWith yL_current cL_current 5 (some .int) [(0, 10, 13, 13), (0, 10, 17, 21)]) List.mem_cons_self)
  subst hsz
  have hD := hD0.self (sz := s.heap.size)
  generalize hAe : va_A [(x, .inr (10, [.ref (ax 0), .ref (ax 1), .ref (ax 2), .ref (ax 3), .ref (ax 4), .ref (ax 5), .int 0, .int 0, .int 0, .int 0, .int 0, .int 0])), ((ax 0), .inl ((kx 0), 8, .inl (fun _ => 0))), ((ax 1), .inl ((kx 1), 24, .inr (.inr (.inr (.inr (fun _ => none)))))), ((ax 2), .inl ((kx 2), 4, .inr (.inr (.inr (.inr (fun _ => none)))))), ((ax 3), .inl ((kx 3), 12, .inr (.inr (.inr (.inr (fun _ => none)))))), ((ax 4), .inl ((kx 4), 40, .inr (.inr (.inr (.inr (fun _ => none)))))), (o, .inl (kO, 1, .inr (.inl fo)))] s.heap.size = A at hD hE ⊢
  have hA : ∀ q : Nat, s.heap.size ≤ q → A q := fun q h => by rw [← hAe]; exact Or.inr h
  have hS : va_S A s.heap s.heap [] := va_S.rf
  have hP : va_P (dC, dI) vwCl [(x, .inr (10, [.ref (ax 0), .ref (ax 1), .ref (ax 2), .ref (ax 3), .ref (ax 4), .ref (ax 5), .int 0, .int 0, .int 0, .int 0, .int 0, .int 0])), ((ax 0), .inl ((kx 0), 8, .inl (fun _ => 0))), ((ax 1), .inl ((kx 1), 24, .inr (.inr (.inr (.inr (fun _ => none)))))), ((ax 2), .inl ((kx 2), 4, .inr (.inr (.inr (.inr (fun _ => none)))))), ((ax 3), .inl ((kx 3), 12, .inr (.inr (.inr (.inr (fun _ => none)))))), ((ax 4), .inl ((kx 4), 40, .inr (.inr (.inr (.inr (fun _ => none)))))), (o, .inl (kO, 1, .inr (.inl fo)))] s.heap := hP
  have hl := lv_entry ([.ref x, .int a, .int b, .ref o]) (n := 5) (Nat.le_of_ble_eq_true rfl)
  rw [lg_entry_eq]
  generalize (lg_sl ([.ref x, .int a, .int b, .ref o]) ++ List.replicate (5 - (lg_sl ([.ref x, .int a, .int b, .ref o])).length) Slot.unset).toArray = ls at hl ⊢
  have hl : lv_has ls 5 [(0, .ref x), (1, .int a), (2, .int b), (3, .ref o)] := hl
  refine lv_aload_n hx hb dL_current_0 rfl (lv_at hl 3 rfl) ?_
  refine lv_iconst (v := 0) hx hb dL_current_1 (by decide) ?_
  refine lv_aload_n hx hb dL_current_2 rfl (lv_at hl 0 rfl) ?_
  refine lv_iload_n hx hb dL_current_3 rfl (lv_at hl 1 rfl) ?_
  refine lv_iload_n hx hb dL_current_4 rfl (lv_at hl 2 rfl) ?_
  have hPc := hP.sub (ws' := xW x ax kx) [0, 1, 2, 3, 4, 5] rfl
  have hKc := hK.sub (tys' := xT kx) [0, 1, 2, 3, 4] rfl
  refine vx_calli (vx_runV (As := [.int a, .int b]) (rest := [.int 0, .ref o]) ⟨hx, hb, hml, hown, hts⟩ (c_X7_current l hst dC dI s.heap.size x ax kx a b) (cwV 2 hts (goodIn_app (goodIn_of _ (by decide +kernel)) (goodIn_sub ((fun w h => List.mem_cons_of_mem _ (List.mem_append_right _ (h)))) zgX7_current)) rfl rfl rfl (by decide +kernel) ⟨Nat.le_of_ble_eq_true rfl, Nat.le_of_ble_eq_true rfl⟩) ⟨xPc_blind, va_recv hK hP (ci := 10) (q0 := 0) rfl rfl, xPc_pass hPc hKc hE hS (fun q h => hA q (Nat.le_trans hS.1 h))⟩ rfl rfl hl.1 rfl (lv_room (Nat.le_of_ble_eq_true rfl)) dL_current_5 ⟨Nat.le_of_ble_eq_true rfl, Nat.le_of_ble_eq_true rfl⟩) hS (fun q _ h => hA q (Nat.le_trans hS.1 h)) (fun q h => hA q (Nat.le_trans hS.1 h)) (fun q _ h => hA q (Nat.le_trans hS.1 h)) (fun E ce q9 _ t H locs ht hvm hpx hBX hz hk hS hcell hv hcl => ?_) (fun r_1 u t H locs ht hvm hw hB hz hk hS => ?_)
  · have hBX : E = "java/lang/IndexOutOfBoundsException" := hBX
    subst hBX
    have hP := zkn hP hk
    refine vx_catch (own := RL) (name := "java/lang/IndexOutOfBoundsException") hown [] ⟨0, 10, 13, 13⟩ [⟨0, 10, 17, 21⟩] (htab.trans rfl) (fun z hz => nomatch hz) (by decide) (by decide) (hts (.classLink RL 13 "java/lang/IndexOutOfBoundsException") (by decide +kernel)) (va_Nw.use rfl (hE.2.2.2.1 _ (by decide))) hcell hv hcl ?_
    refine W.eq (g2 := F0 m 13 ls [.ref q9]) rfl ?_
    refine lv_astore (lv' := [(4, .ref q9), (0, .ref x), (1, .int a), (2, .int b), (3, .ref o)]) hx hb dL_current_13 hl (by decide) rfl (fun ls hl => ?_)
    refine lv_iconst (v := 1) hx hb dL_current_15 (by decide) ?_
    refine W.widen (k := 1) (n := 6) (Nat.le_of_ble_eq_true rfl) (Nat.le_of_ble_eq_true rfl) ?_
    exact W.iret (v := 1) hx hb hr (fun t ht hW => ⟨⟨1, (), rfl, rfl, trivial⟩, hS.F ht⟩) hS.2.2 dL_current_16
  exact hw.elim

def zwL_step : List Cond := .codeWith yL_step cL_step 7 (some .int) [(0, 14, 17, 13), (0, 14, 21, 21), (0, 14, 25, 23), (0, 14, 29, 15)] :: (([.methodLink RL 51 yX7_step, .instanceMethod yX7_step, .selects RX7 yX7_step yX7_step, .initialized RX7, .classLink RL 13 "java/lang/IndexOutOfBoundsException"] : List Cond) ++ (zwX7_step))
theorem zgL_step : zwL_step.all goodWord = true := zgo rfl (zga (by decide +kernel) (zgX7_step))
set_option maxHeartbeats 4000000 in
set_option maxRecDepth 100000 in
theorem c_L_step (l : Launch) (hst : l.stackTraces = false) (dC : Nat → ClassId) (dI : Nat → Nat → Nat) (sz : Nat) (x : Nat) (ax : Nat → Nat) (kx : Nat → ClassId) (o : Nat) (kO : ClassId) (fo : Nat → Int64) (a : Int32) (b : Int32) (d : Int32) (f : Int32) : Met l yL_step zwL_step ({ frames := 9, cells := 1, slots := 6, locals := 152 }) (gPcE dC dI sz [(x, .inr (10, [.ref (ax 0), .ref (ax 1), .ref (ax 2), .ref (ax 3), .ref (ax 4), .ref (ax 5), .int 0, .int 0, .int 0, .int 0, .int 0, .int 0])), ((ax 0), .inl ((kx 0), 8, .inl (fun _ => 0))), ((ax 1), .inl ((kx 1), 24, .inr (.inr (.inr (.inr (fun _ => none)))))), ((ax 2), .inl ((kx 2), 4, .inr (.inr (.inr (.inr (fun _ => none)))))), ((ax 3), .inl ((kx 3), 12, .inr (.inr (.inr (.inr (fun _ => none)))))), ((ax 4), .inl ((kx 4), 40, .inr (.inr (.inr (.inr (fun _ => none)))))), (o, .inl (kO, 1, .inr (.inl fo)))] [((kx 0), .int), ((kx 1), .object RX4), ((kx 2), .object RX5), ((kx 3), .object RX3), ((kx 4), .object RX0), (kO, .long)] [.ref x, .int a, .int b, .int d, .int f, .ref o]) (va_Qi (fun (r : Int32) (u : Unit) => r = 1) (fun u t => True) (va_A [(x, .inr (10, [.ref (ax 0), .ref (ax 1), .ref (ax 2), .ref (ax 3), .ref (ax 4), .ref (ax 5), .int 0, .int 0, .int 0, .int 0, .int 0, .int 0])), ((ax 0), .inl ((kx 0), 8, .inl (fun _ => 0))), ((ax 1), .inl ((kx 1), 24, .inr (.inr (.inr (.inr (fun _ => none)))))), ((ax 2), .inl ((kx 2), 4, .inr (.inr (.inr (.inr (fun _ => none)))))), ((ax 3), .inl ((kx 3), 12, .inr (.inr (.inr (.inr (fun _ => none)))))), ((ax 4), .inl ((kx 4), 40, .inr (.inr (.inr (.inr (fun _ => none)))))), (o, .inl (kO, 1, .inr (.inl fo)))] sz)) 1 6 (va_A [(x, .inr (10, [.ref (ax 0), .ref (ax 1), .ref (ax 2), .ref (ax 3), .ref (ax 4), .ref (ax 5), .int 0, .int 0, .int 0, .int 0, .int 0, .int 0])), ((ax 0), .inl ((kx 0), 8, .inl (fun _ => 0))), ((ax 1), .inl ((kx 1), 24, .inr (.inr (.inr (.inr (fun _ => none)))))), ((ax 2), .inl ((kx 2), 4, .inr (.inr (.inr (.inr (fun _ => none)))))), ((ax 3), .inl ((kx 3), 12, .inr (.inr (.inr (.inr (fun _ => none)))))), ((ax 4), .inl ((kx 4), 40, .inr (.inr (.inr (.inr (fun _ => none)))))), (o, .inl (kO, 1, .inr (.inl fo)))] sz) := by
  refine va_MetW (cc := cL_step) (maxL := 7) (ret := (some .int)) (hh := [(0, 14, 17, 13), (0, 14, 21, 21), (0, 14, 25, 23), (0, 14, 29, 15)]) (by decide) rfl ?_
  intro p e s m args below meth c s₁ B hml hv
  obtain ⟨rfl, hsz, hP, hK, hD0, hE⟩ := hv
  have hx := B.exec
  have hb := B.bytes
  have hr := B.returns
  have hts := atoms_spec (ws := zwL_step) B.pre
  have hown : s.vm.findClass RL = some m.cls := findClass_of_methodNamed B.named
  have hlocks := B.notSynchronized
  have htab : c.exceptionTable.toList = tableOf [(0, 14, 17, 13), (0, 14, 21, 21), (0, 14, 25, 23), (0, 14, 29, 15)] := vx_table (x := yL_step) B (hts (.codeWith yL_step cL_step 7 (some .int) [(0, 14, 17, 13), (0, 14, 21, 21), (0, 14, 25, 23), (0, 14, 29, 15)]) List.mem_cons_self)
  subst hsz
  have hD := hD0.self (sz := s.heap.size)
  generalize hAe : va_A [(x, .inr (10, [.ref (ax 0), .ref (ax 1), .ref (ax 2), .ref (ax 3), .ref (ax 4), .ref (ax 5), .int 0, .int 0, .int 0, .int 0, .int 0, .int 0])), ((ax 0), .inl ((kx 0), 8, .inl (fun _ => 0))), ((ax 1), .inl ((kx 1), 24, .inr (.inr (.inr (.inr (fun _ => none)))))), ((ax 2), .inl ((kx 2), 4, .inr (.inr (.inr (.inr (fun _ => none)))))), ((ax 3), .inl ((kx 3), 12, .inr (.inr (.inr (.inr (fun _ => none)))))), ((ax 4), .inl ((kx 4), 40, .inr (.inr (.inr (.inr (fun _ => none)))))), (o, .inl (kO, 1, .inr (.inl fo)))] s.heap.size = A at hD hE ⊢
  have hA : ∀ q : Nat, s.heap.size ≤ q → A q := fun q h => by rw [← hAe]; exact Or.inr h
  have hS : va_S A s.heap s.heap [] := va_S.rf
  have hP : va_P (dC, dI) vwCl [(x, .inr (10, [.ref (ax 0), .ref (ax 1), .ref (ax 2), .ref (ax 3), .ref (ax 4), .ref (ax 5), .int 0, .int 0, .int 0, .int 0, .int 0, .int 0])), ((ax 0), .inl ((kx 0), 8, .inl (fun _ => 0))), ((ax 1), .inl ((kx 1), 24, .inr (.inr (.inr (.inr (fun _ => none)))))), ((ax 2), .inl ((kx 2), 4, .inr (.inr (.inr (.inr (fun _ => none)))))), ((ax 3), .inl ((kx 3), 12, .inr (.inr (.inr (.inr (fun _ => none)))))), ((ax 4), .inl ((kx 4), 40, .inr (.inr (.inr (.inr (fun _ => none)))))), (o, .inl (kO, 1, .inr (.inl fo)))] s.heap := hP
  have hl := lv_entry ([.ref x, .int a, .int b, .int d, .int f, .ref o]) (n := 7) (Nat.le_of_ble_eq_true rfl)
  rw [lg_entry_eq]
  generalize (lg_sl ([.ref x, .int a, .int b, .int d, .int f, .ref o]) ++ List.replicate (7 - (lg_sl ([.ref x, .int a, .int b, .int d, .int f, .ref o])).length) Slot.unset).toArray = ls at hl ⊢
  have hl : lv_has ls 7 [(0, .ref x), (1, .int a), (2, .int b), (3, .int d), (4, .int f), (5, .ref o)] := hl
  refine lv_aload hx hb dL_step_0 (lv_at hl 5 rfl) ?_
  refine lv_iconst (v := 0) hx hb dL_step_2 (by decide) ?_
  refine lv_aload_n hx hb dL_step_3 rfl (lv_at hl 0 rfl) ?_
  refine lv_iload_n hx hb dL_step_4 rfl (lv_at hl 1 rfl) ?_
  refine lv_iload_n hx hb dL_step_5 rfl (lv_at hl 2 rfl) ?_
  refine lv_iload_n hx hb dL_step_6 rfl (lv_at hl 3 rfl) ?_
  refine lv_iload hx hb dL_step_7 (lv_at hl 4 rfl) ?_
  have hPc := hP.sub (ws' := xW x ax kx) [0, 1, 2, 3, 4, 5] rfl
  have hKc := hK.sub (tys' := xT kx) [0, 1, 2, 3, 4] rfl
  refine vx_calli (vx_runV (As := [.int a, .int b, .int d, .int f]) (rest := [.int 0, .ref o]) ⟨hx, hb, hml, hown, hts⟩ (c_X7_step l hst dC dI s.heap.size x ax kx a b d f) (cwV 4 hts (goodIn_app (goodIn_of _ (by decide +kernel)) (goodIn_sub ((fun w h => List.mem_cons_of_mem _ (List.mem_append_right _ (h)))) zgX7_step)) rfl rfl rfl (by decide +kernel) ⟨Nat.le_of_ble_eq_true rfl, Nat.le_of_ble_eq_true rfl⟩) ⟨xPc_blind, va_recv hK hP (ci := 10) (q0 := 0) rfl rfl, xPc_pass hPc hKc hE hS (fun q h => hA q (Nat.le_trans hS.1 h))⟩ rfl rfl hl.1 rfl (lv_room (Nat.le_of_ble_eq_true rfl)) dL_step_9 ⟨Nat.le_of_ble_eq_true rfl, Nat.le_of_ble_eq_true rfl⟩) hS (fun q _ h => hA q (Nat.le_trans hS.1 h)) (fun q h => hA q (Nat.le_trans hS.1 h)) (fun q _ h => hA q (Nat.le_trans hS.1 h)) (fun E ce q9 _ t H locs ht hvm hpx hBX hz hk hS hcell hv hcl => ?_) (fun r_1 u t H locs ht hvm hw hB hz hk hS => ?_)
  · have hBX : E = "java/lang/IndexOutOfBoundsException" := hBX
    subst hBX
    have hP := zkn hP hk
    refine vx_catch (own := RL) (name := "java/lang/IndexOutOfBoundsException") hown [] ⟨0, 14, 17, 13⟩ [⟨0, 14, 21, 21⟩, ⟨0, 14, 25, 23⟩, ⟨0, 14, 29, 15⟩] (htab.trans rfl) (fun z hz => nomatch hz) (by decide) (by decide) (hts (.classLink RL 13 "java/lang/IndexOutOfBoundsException") (by decide +kernel)) (va_Nw.use rfl (hE.2.2.2.1 _ (by decide))) hcell hv hcl ?_
    refine W.eq (g2 := F0 m 17 ls [.ref q9]) rfl ?_
    refine lv_astore (lv' := [(6, .ref q9), (0, .ref x), (1, .int a), (2, .int b), (3, .int d), (4, .int f), (5, .ref o)]) hx hb dL_step_17 hl (by decide) rfl (fun ls hl => ?_)
    refine lv_iconst (v := 1) hx hb dL_step_19 (by decide) ?_
    refine W.widen (k := 1) (n := 6) (Nat.le_of_ble_eq_true rfl) (Nat.le_of_ble_eq_true rfl) ?_
    exact W.iret (v := 1) hx hb hr (fun t ht hW => ⟨⟨1, (), rfl, rfl, trivial⟩, hS.F ht⟩) hS.2.2 dL_step_20
  exact hw.elim

def zwL_erase : List Cond := .codeWith yL_erase cL_erase 5 (some .int) [(0, 10, 13, 13)] :: (([.methodLink RL 55 yX7_erase, .instanceMethod yX7_erase, .selects RX7 yX7_erase yX7_erase, .initialized RX7, .classLink RL 13 "java/lang/IndexOutOfBoundsException"] : List Cond) ++ (zwX7_erase))
theorem zgL_erase : zwL_erase.all goodWord = true := zgo rfl (zga (by decide +kernel) (zgX7_erase))
set_option maxHeartbeats 4000000 in
set_option maxRecDepth 100000 in
theorem c_L_erase (l : Launch) (hst : l.stackTraces = false) (dC : Nat → ClassId) (dI : Nat → Nat → Nat) (sz : Nat) (x : Nat) (ax : Nat → Nat) (kx : Nat → ClassId) (o : Nat) (kO : ClassId) (fo : Nat → Int64) (a : Int32) (b : Int32) : Met l yL_erase zwL_erase ({ frames := 9, cells := 1, slots := 6, locals := 151 }) (gPcE dC dI sz [(x, .inr (10, [.ref (ax 0), .ref (ax 1), .ref (ax 2), .ref (ax 3), .ref (ax 4), .ref (ax 5), .int 0, .int 0, .int 0, .int 0, .int 0, .int 0])), ((ax 0), .inl ((kx 0), 8, .inl (fun _ => 0))), ((ax 1), .inl ((kx 1), 24, .inr (.inr (.inr (.inr (fun _ => none)))))), ((ax 2), .inl ((kx 2), 4, .inr (.inr (.inr (.inr (fun _ => none)))))), ((ax 3), .inl ((kx 3), 12, .inr (.inr (.inr (.inr (fun _ => none)))))), ((ax 4), .inl ((kx 4), 40, .inr (.inr (.inr (.inr (fun _ => none)))))), (o, .inl (kO, 1, .inr (.inl fo)))] [((kx 0), .int), ((kx 1), .object RX4), ((kx 2), .object RX5), ((kx 3), .object RX3), ((kx 4), .object RX0), (kO, .long)] [.ref x, .int a, .int b, .ref o]) (va_Qi (fun (r : Int32) (u : Unit) => r = 1) (fun u t => True) (va_A [(x, .inr (10, [.ref (ax 0), .ref (ax 1), .ref (ax 2), .ref (ax 3), .ref (ax 4), .ref (ax 5), .int 0, .int 0, .int 0, .int 0, .int 0, .int 0])), ((ax 0), .inl ((kx 0), 8, .inl (fun _ => 0))), ((ax 1), .inl ((kx 1), 24, .inr (.inr (.inr (.inr (fun _ => none)))))), ((ax 2), .inl ((kx 2), 4, .inr (.inr (.inr (.inr (fun _ => none)))))), ((ax 3), .inl ((kx 3), 12, .inr (.inr (.inr (.inr (fun _ => none)))))), ((ax 4), .inl ((kx 4), 40, .inr (.inr (.inr (.inr (fun _ => none)))))), (o, .inl (kO, 1, .inr (.inl fo)))] sz)) 1 6 (va_A [(x, .inr (10, [.ref (ax 0), .ref (ax 1), .ref (ax 2), .ref (ax 3), .ref (ax 4), .ref (ax 5), .int 0, .int 0, .int 0, .int 0, .int 0, .int 0])), ((ax 0), .inl ((kx 0), 8, .inl (fun _ => 0))), ((ax 1), .inl ((kx 1), 24, .inr (.inr (.inr (.inr (fun _ => none)))))), ((ax 2), .inl ((kx 2), 4, .inr (.inr (.inr (.inr (fun _ => none)))))), ((ax 3), .inl ((kx 3), 12, .inr (.inr (.inr (.inr (fun _ => none)))))), ((ax 4), .inl ((kx 4), 40, .inr (.inr (.inr (.inr (fun _ => none)))))), (o, .inl (kO, 1, .inr (.inl fo)))] sz) := by
  refine va_MetW (cc := cL_erase) (maxL := 5) (ret := (some .int)) (hh := [(0, 10, 13, 13)]) (by decide) rfl ?_
  intro p e s m args below meth c s₁ B hml hv
  obtain ⟨rfl, hsz, hP, hK, hD0, hE⟩ := hv
  have hx := B.exec
  have hb := B.bytes
  have hr := B.returns
  have hts := atoms_spec (ws := zwL_erase) B.pre
  have hown : s.vm.findClass RL = some m.cls := findClass_of_methodNamed B.named
  have hlocks := B.notSynchronized
  have htab : c.exceptionTable.toList = tableOf [(0, 10, 13, 13)] := vx_table (x := yL_erase) B (hts (.codeWith yL_erase cL_erase 5 (some .int) [(0, 10, 13, 13)]) List.mem_cons_self)
  subst hsz
  have hD := hD0.self (sz := s.heap.size)
  generalize hAe : va_A [(x, .inr (10, [.ref (ax 0), .ref (ax 1), .ref (ax 2), .ref (ax 3), .ref (ax 4), .ref (ax 5), .int 0, .int 0, .int 0, .int 0, .int 0, .int 0])), ((ax 0), .inl ((kx 0), 8, .inl (fun _ => 0))), ((ax 1), .inl ((kx 1), 24, .inr (.inr (.inr (.inr (fun _ => none)))))), ((ax 2), .inl ((kx 2), 4, .inr (.inr (.inr (.inr (fun _ => none)))))), ((ax 3), .inl ((kx 3), 12, .inr (.inr (.inr (.inr (fun _ => none)))))), ((ax 4), .inl ((kx 4), 40, .inr (.inr (.inr (.inr (fun _ => none)))))), (o, .inl (kO, 1, .inr (.inl fo)))] s.heap.size = A at hD hE ⊢
  have hA : ∀ q : Nat, s.heap.size ≤ q → A q := fun q h => by rw [← hAe]; exact Or.inr h
  have hS : va_S A s.heap s.heap [] := va_S.rf
  have hP : va_P (dC, dI) vwCl [(x, .inr (10, [.ref (ax 0), .ref (ax 1), .ref (ax 2), .ref (ax 3), .ref (ax 4), .ref (ax 5), .int 0, .int 0, .int 0, .int 0, .int 0, .int 0])), ((ax 0), .inl ((kx 0), 8, .inl (fun _ => 0))), ((ax 1), .inl ((kx 1), 24, .inr (.inr (.inr (.inr (fun _ => none)))))), ((ax 2), .inl ((kx 2), 4, .inr (.inr (.inr (.inr (fun _ => none)))))), ((ax 3), .inl ((kx 3), 12, .inr (.inr (.inr (.inr (fun _ => none)))))), ((ax 4), .inl ((kx 4), 40, .inr (.inr (.inr (.inr (fun _ => none)))))), (o, .inl (kO, 1, .inr (.inl fo)))] s.heap := hP
  have hl := lv_entry ([.ref x, .int a, .int b, .ref o]) (n := 5) (Nat.le_of_ble_eq_true rfl)
  rw [lg_entry_eq]
  generalize (lg_sl ([.ref x, .int a, .int b, .ref o]) ++ List.replicate (5 - (lg_sl ([.ref x, .int a, .int b, .ref o])).length) Slot.unset).toArray = ls at hl ⊢
  have hl : lv_has ls 5 [(0, .ref x), (1, .int a), (2, .int b), (3, .ref o)] := hl
  refine lv_aload_n hx hb dL_erase_0 rfl (lv_at hl 3 rfl) ?_
  refine lv_iconst (v := 0) hx hb dL_erase_1 (by decide) ?_
  refine lv_aload_n hx hb dL_erase_2 rfl (lv_at hl 0 rfl) ?_
  refine lv_iload_n hx hb dL_erase_3 rfl (lv_at hl 1 rfl) ?_
  refine lv_iload_n hx hb dL_erase_4 rfl (lv_at hl 2 rfl) ?_
  have hPc := hP.sub (ws' := xW x ax kx) [0, 1, 2, 3, 4, 5] rfl
  have hKc := hK.sub (tys' := xT kx) [0, 1, 2, 3, 4] rfl
  refine vx_calli (vx_runV (As := [.int a, .int b]) (rest := [.int 0, .ref o]) ⟨hx, hb, hml, hown, hts⟩ (c_X7_erase l hst dC dI s.heap.size x ax kx a b) (cwV 2 hts (goodIn_app (goodIn_of _ (by decide +kernel)) (goodIn_sub ((fun w h => List.mem_cons_of_mem _ (List.mem_append_right _ (h)))) zgX7_erase)) rfl rfl rfl (by decide +kernel) ⟨Nat.le_of_ble_eq_true rfl, Nat.le_of_ble_eq_true rfl⟩) ⟨xPc_blind, va_recv hK hP (ci := 10) (q0 := 0) rfl rfl, xPc_pass hPc hKc hE hS (fun q h => hA q (Nat.le_trans hS.1 h))⟩ rfl rfl hl.1 rfl (lv_room (Nat.le_of_ble_eq_true rfl)) dL_erase_5 ⟨Nat.le_of_ble_eq_true rfl, Nat.le_of_ble_eq_true rfl⟩) hS (fun q _ h => hA q (Nat.le_trans hS.1 h)) (fun q h => hA q (Nat.le_trans hS.1 h)) (fun q _ h => hA q (Nat.le_trans hS.1 h)) (fun E ce q9 _ t H locs ht hvm hpx hBX hz hk hS hcell hv hcl => ?_) (fun r_1 u t H locs ht hvm hw hB hz hk hS => ?_)
  · have hBX : E = "java/lang/IndexOutOfBoundsException" := hBX
    subst hBX
    have hP := zkn hP hk
    refine vx_catch (own := RL) (name := "java/lang/IndexOutOfBoundsException") hown [] ⟨0, 10, 13, 13⟩ [] (htab.trans rfl) (fun z hz => nomatch hz) (by decide) (by decide) (hts (.classLink RL 13 "java/lang/IndexOutOfBoundsException") (by decide +kernel)) (va_Nw.use rfl (hE.2.2.2.1 _ (by decide))) hcell hv hcl ?_
    refine W.eq (g2 := F0 m 13 ls [.ref q9]) rfl ?_
    refine lv_astore (lv' := [(4, .ref q9), (0, .ref x), (1, .int a), (2, .int b), (3, .ref o)]) hx hb dL_erase_13 hl (by decide) rfl (fun ls hl => ?_)
    refine lv_iconst (v := 1) hx hb dL_erase_15 (by decide) ?_
    refine W.widen (k := 1) (n := 6) (Nat.le_of_ble_eq_true rfl) (Nat.le_of_ble_eq_true rfl) ?_
    exact W.iret (v := 1) hx hb hr (fun t ht hW => ⟨⟨1, (), rfl, rfl, trivial⟩, hS.F ht⟩) hS.2.2 dL_erase_16
  exact hw.elim

def zwL_steps : List Cond := .codeWith yL_steps cL_steps 5 (some .int) [(0, 10, 13, 13)] :: (([.methodLink RL 58 yX7_steps, .instanceMethod yX7_steps, .selects RX7 yX7_steps yX7_steps, .initialized RX7, .classLink RL 13 "java/lang/IndexOutOfBoundsException"] : List Cond) ++ (zwX7_steps))
theorem zgL_steps : zwL_steps.all goodWord = true := zgo rfl (zga (by decide +kernel) (zgX7_steps))
set_option maxHeartbeats 4000000 in
set_option maxRecDepth 100000 in
theorem c_L_steps (l : Launch) (hst : l.stackTraces = false) (dC : Nat → ClassId) (dI : Nat → Nat → Nat) (sz : Nat) (x : Nat) (ax : Nat → Nat) (kx : Nat → ClassId) (o : Nat) (kO : ClassId) (fo : Nat → Int64) (a : Int32) (b : Int32) : Met l yL_steps zwL_steps ({ frames := 9, cells := 1, slots := 6, locals := 149 }) (gPcE dC dI sz [(x, .inr (10, [.ref (ax 0), .ref (ax 1), .ref (ax 2), .ref (ax 3), .ref (ax 4), .ref (ax 5), .int 0, .int 0, .int 0, .int 0, .int 0, .int 0])), ((ax 0), .inl ((kx 0), 8, .inl (fun _ => 0))), ((ax 1), .inl ((kx 1), 24, .inr (.inr (.inr (.inr (fun _ => none)))))), ((ax 2), .inl ((kx 2), 4, .inr (.inr (.inr (.inr (fun _ => none)))))), ((ax 3), .inl ((kx 3), 12, .inr (.inr (.inr (.inr (fun _ => none)))))), ((ax 4), .inl ((kx 4), 40, .inr (.inr (.inr (.inr (fun _ => none)))))), (o, .inl (kO, 1, .inr (.inl fo)))] [((kx 0), .int), ((kx 1), .object RX4), ((kx 2), .object RX5), ((kx 3), .object RX3), ((kx 4), .object RX0), (kO, .long)] [.ref x, .int a, .int b, .ref o]) (va_Qi (fun (r : Int32) (u : Unit) => r = 1) (fun u t => True) (va_A [(x, .inr (10, [.ref (ax 0), .ref (ax 1), .ref (ax 2), .ref (ax 3), .ref (ax 4), .ref (ax 5), .int 0, .int 0, .int 0, .int 0, .int 0, .int 0])), ((ax 0), .inl ((kx 0), 8, .inl (fun _ => 0))), ((ax 1), .inl ((kx 1), 24, .inr (.inr (.inr (.inr (fun _ => none)))))), ((ax 2), .inl ((kx 2), 4, .inr (.inr (.inr (.inr (fun _ => none)))))), ((ax 3), .inl ((kx 3), 12, .inr (.inr (.inr (.inr (fun _ => none)))))), ((ax 4), .inl ((kx 4), 40, .inr (.inr (.inr (.inr (fun _ => none)))))), (o, .inl (kO, 1, .inr (.inl fo)))] sz)) 1 6 (va_A [(x, .inr (10, [.ref (ax 0), .ref (ax 1), .ref (ax 2), .ref (ax 3), .ref (ax 4), .ref (ax 5), .int 0, .int 0, .int 0, .int 0, .int 0, .int 0])), ((ax 0), .inl ((kx 0), 8, .inl (fun _ => 0))), ((ax 1), .inl ((kx 1), 24, .inr (.inr (.inr (.inr (fun _ => none)))))), ((ax 2), .inl ((kx 2), 4, .inr (.inr (.inr (.inr (fun _ => none)))))), ((ax 3), .inl ((kx 3), 12, .inr (.inr (.inr (.inr (fun _ => none)))))), ((ax 4), .inl ((kx 4), 40, .inr (.inr (.inr (.inr (fun _ => none)))))), (o, .inl (kO, 1, .inr (.inl fo)))] sz) := by
  refine va_MetW (cc := cL_steps) (maxL := 5) (ret := (some .int)) (hh := [(0, 10, 13, 13)]) (by decide) rfl ?_
  intro p e s m args below meth c s₁ B hml hv
  obtain ⟨rfl, hsz, hP, hK, hD0, hE⟩ := hv
  have hx := B.exec
  have hb := B.bytes
  have hr := B.returns
  have hts := atoms_spec (ws := zwL_steps) B.pre
  have hown : s.vm.findClass RL = some m.cls := findClass_of_methodNamed B.named
  have hlocks := B.notSynchronized
  have htab : c.exceptionTable.toList = tableOf [(0, 10, 13, 13)] := vx_table (x := yL_steps) B (hts (.codeWith yL_steps cL_steps 5 (some .int) [(0, 10, 13, 13)]) List.mem_cons_self)
  subst hsz
  have hD := hD0.self (sz := s.heap.size)
  generalize hAe : va_A [(x, .inr (10, [.ref (ax 0), .ref (ax 1), .ref (ax 2), .ref (ax 3), .ref (ax 4), .ref (ax 5), .int 0, .int 0, .int 0, .int 0, .int 0, .int 0])), ((ax 0), .inl ((kx 0), 8, .inl (fun _ => 0))), ((ax 1), .inl ((kx 1), 24, .inr (.inr (.inr (.inr (fun _ => none)))))), ((ax 2), .inl ((kx 2), 4, .inr (.inr (.inr (.inr (fun _ => none)))))), ((ax 3), .inl ((kx 3), 12, .inr (.inr (.inr (.inr (fun _ => none)))))), ((ax 4), .inl ((kx 4), 40, .inr (.inr (.inr (.inr (fun _ => none)))))), (o, .inl (kO, 1, .inr (.inl fo)))] s.heap.size = A at hD hE ⊢
  have hA : ∀ q : Nat, s.heap.size ≤ q → A q := fun q h => by rw [← hAe]; exact Or.inr h
  have hS : va_S A s.heap s.heap [] := va_S.rf
  have hP : va_P (dC, dI) vwCl [(x, .inr (10, [.ref (ax 0), .ref (ax 1), .ref (ax 2), .ref (ax 3), .ref (ax 4), .ref (ax 5), .int 0, .int 0, .int 0, .int 0, .int 0, .int 0])), ((ax 0), .inl ((kx 0), 8, .inl (fun _ => 0))), ((ax 1), .inl ((kx 1), 24, .inr (.inr (.inr (.inr (fun _ => none)))))), ((ax 2), .inl ((kx 2), 4, .inr (.inr (.inr (.inr (fun _ => none)))))), ((ax 3), .inl ((kx 3), 12, .inr (.inr (.inr (.inr (fun _ => none)))))), ((ax 4), .inl ((kx 4), 40, .inr (.inr (.inr (.inr (fun _ => none)))))), (o, .inl (kO, 1, .inr (.inl fo)))] s.heap := hP
  have hl := lv_entry ([.ref x, .int a, .int b, .ref o]) (n := 5) (Nat.le_of_ble_eq_true rfl)
  rw [lg_entry_eq]
  generalize (lg_sl ([.ref x, .int a, .int b, .ref o]) ++ List.replicate (5 - (lg_sl ([.ref x, .int a, .int b, .ref o])).length) Slot.unset).toArray = ls at hl ⊢
  have hl : lv_has ls 5 [(0, .ref x), (1, .int a), (2, .int b), (3, .ref o)] := hl
  refine lv_aload_n hx hb dL_steps_0 rfl (lv_at hl 3 rfl) ?_
  refine lv_iconst (v := 0) hx hb dL_steps_1 (by decide) ?_
  refine lv_aload_n hx hb dL_steps_2 rfl (lv_at hl 0 rfl) ?_
  refine lv_iload_n hx hb dL_steps_3 rfl (lv_at hl 1 rfl) ?_
  refine lv_iload_n hx hb dL_steps_4 rfl (lv_at hl 2 rfl) ?_
  have hPc := hP.sub (ws' := xW x ax kx) [0, 1, 2, 3, 4, 5] rfl
  have hKc := hK.sub (tys' := xT kx) [0, 1, 2, 3, 4] rfl
  refine vx_calli (vx_runV (As := [.int a, .int b]) (rest := [.int 0, .ref o]) ⟨hx, hb, hml, hown, hts⟩ (c_X7_steps l hst dC dI s.heap.size x ax kx a b) (cwV 2 hts (goodIn_app (goodIn_of _ (by decide +kernel)) (goodIn_sub ((fun w h => List.mem_cons_of_mem _ (List.mem_append_right _ (h)))) zgX7_steps)) rfl rfl rfl (by decide +kernel) ⟨Nat.le_of_ble_eq_true rfl, Nat.le_of_ble_eq_true rfl⟩) ⟨xPc_blind, va_recv hK hP (ci := 10) (q0 := 0) rfl rfl, xPc_pass hPc hKc hE hS (fun q h => hA q (Nat.le_trans hS.1 h))⟩ rfl rfl hl.1 rfl (lv_room (Nat.le_of_ble_eq_true rfl)) dL_steps_5 ⟨Nat.le_of_ble_eq_true rfl, Nat.le_of_ble_eq_true rfl⟩) hS (fun q _ h => hA q (Nat.le_trans hS.1 h)) (fun q h => hA q (Nat.le_trans hS.1 h)) (fun q _ h => hA q (Nat.le_trans hS.1 h)) (fun E ce q9 _ t H locs ht hvm hpx hBX hz hk hS hcell hv hcl => ?_) (fun r_1 u t H locs ht hvm hw hB hz hk hS => ?_)
  · have hBX : E = "java/lang/IndexOutOfBoundsException" := hBX
    subst hBX
    have hP := zkn hP hk
    refine vx_catch (own := RL) (name := "java/lang/IndexOutOfBoundsException") hown [] ⟨0, 10, 13, 13⟩ [] (htab.trans rfl) (fun z hz => nomatch hz) (by decide) (by decide) (hts (.classLink RL 13 "java/lang/IndexOutOfBoundsException") (by decide +kernel)) (va_Nw.use rfl (hE.2.2.2.1 _ (by decide))) hcell hv hcl ?_
    refine W.eq (g2 := F0 m 13 ls [.ref q9]) rfl ?_
    refine lv_astore (lv' := [(4, .ref q9), (0, .ref x), (1, .int a), (2, .int b), (3, .ref o)]) hx hb dL_steps_13 hl (by decide) rfl (fun ls hl => ?_)
    refine lv_iconst (v := 1) hx hb dL_steps_15 (by decide) ?_
    refine W.widen (k := 1) (n := 6) (Nat.le_of_ble_eq_true rfl) (Nat.le_of_ble_eq_true rfl) ?_
    exact W.iret (v := 1) hx hb hr (fun t ht hW => ⟨⟨1, (), rfl, rfl, trivial⟩, hS.F ht⟩) hS.2.2 dL_steps_16
  exact hw.elim

def zwL_welds : List Cond := .codeWith yL_welds cL_welds 5 (some .int) [(0, 10, 13, 13)] :: (([.methodLink RL 61 yX7_welds, .instanceMethod yX7_welds, .selects RX7 yX7_welds yX7_welds, .initialized RX7, .classLink RL 13 "java/lang/IndexOutOfBoundsException"] : List Cond) ++ (zwX7_welds))
theorem zgL_welds : zwL_welds.all goodWord = true := zgo rfl (zga (by decide +kernel) (zgX7_welds))
set_option maxHeartbeats 4000000 in
set_option maxRecDepth 100000 in
theorem c_L_welds (l : Launch) (hst : l.stackTraces = false) (dC : Nat → ClassId) (dI : Nat → Nat → Nat) (sz : Nat) (x : Nat) (ax : Nat → Nat) (kx : Nat → ClassId) (o : Nat) (kO : ClassId) (fo : Nat → Int64) (a : Int32) (b : Int32) : Met l yL_welds zwL_welds ({ frames := 9, cells := 1, slots := 6, locals := 152 }) (gPcE dC dI sz [(x, .inr (10, [.ref (ax 0), .ref (ax 1), .ref (ax 2), .ref (ax 3), .ref (ax 4), .ref (ax 5), .int 0, .int 0, .int 0, .int 0, .int 0, .int 0])), ((ax 0), .inl ((kx 0), 8, .inl (fun _ => 0))), ((ax 1), .inl ((kx 1), 24, .inr (.inr (.inr (.inr (fun _ => none)))))), ((ax 2), .inl ((kx 2), 4, .inr (.inr (.inr (.inr (fun _ => none)))))), ((ax 3), .inl ((kx 3), 12, .inr (.inr (.inr (.inr (fun _ => none)))))), ((ax 4), .inl ((kx 4), 40, .inr (.inr (.inr (.inr (fun _ => none)))))), (o, .inl (kO, 1, .inr (.inl fo)))] [((kx 0), .int), ((kx 1), .object RX4), ((kx 2), .object RX5), ((kx 3), .object RX3), ((kx 4), .object RX0), (kO, .long)] [.ref x, .int a, .int b, .ref o]) (va_Qi (fun (r : Int32) (u : Unit) => r = 1) (fun u t => True) (va_A [(x, .inr (10, [.ref (ax 0), .ref (ax 1), .ref (ax 2), .ref (ax 3), .ref (ax 4), .ref (ax 5), .int 0, .int 0, .int 0, .int 0, .int 0, .int 0])), ((ax 0), .inl ((kx 0), 8, .inl (fun _ => 0))), ((ax 1), .inl ((kx 1), 24, .inr (.inr (.inr (.inr (fun _ => none)))))), ((ax 2), .inl ((kx 2), 4, .inr (.inr (.inr (.inr (fun _ => none)))))), ((ax 3), .inl ((kx 3), 12, .inr (.inr (.inr (.inr (fun _ => none)))))), ((ax 4), .inl ((kx 4), 40, .inr (.inr (.inr (.inr (fun _ => none)))))), (o, .inl (kO, 1, .inr (.inl fo)))] sz)) 1 6 (va_A [(x, .inr (10, [.ref (ax 0), .ref (ax 1), .ref (ax 2), .ref (ax 3), .ref (ax 4), .ref (ax 5), .int 0, .int 0, .int 0, .int 0, .int 0, .int 0])), ((ax 0), .inl ((kx 0), 8, .inl (fun _ => 0))), ((ax 1), .inl ((kx 1), 24, .inr (.inr (.inr (.inr (fun _ => none)))))), ((ax 2), .inl ((kx 2), 4, .inr (.inr (.inr (.inr (fun _ => none)))))), ((ax 3), .inl ((kx 3), 12, .inr (.inr (.inr (.inr (fun _ => none)))))), ((ax 4), .inl ((kx 4), 40, .inr (.inr (.inr (.inr (fun _ => none)))))), (o, .inl (kO, 1, .inr (.inl fo)))] sz) := by
  refine va_MetW (cc := cL_welds) (maxL := 5) (ret := (some .int)) (hh := [(0, 10, 13, 13)]) (by decide) rfl ?_
  intro p e s m args below meth c s₁ B hml hv
  obtain ⟨rfl, hsz, hP, hK, hD0, hE⟩ := hv
  have hx := B.exec
  have hb := B.bytes
  have hr := B.returns
  have hts := atoms_spec (ws := zwL_welds) B.pre
  have hown : s.vm.findClass RL = some m.cls := findClass_of_methodNamed B.named
  have hlocks := B.notSynchronized
  have htab : c.exceptionTable.toList = tableOf [(0, 10, 13, 13)] := vx_table (x := yL_welds) B (hts (.codeWith yL_welds cL_welds 5 (some .int) [(0, 10, 13, 13)]) List.mem_cons_self)
  subst hsz
  have hD := hD0.self (sz := s.heap.size)
  generalize hAe : va_A [(x, .inr (10, [.ref (ax 0), .ref (ax 1), .ref (ax 2), .ref (ax 3), .ref (ax 4), .ref (ax 5), .int 0, .int 0, .int 0, .int 0, .int 0, .int 0])), ((ax 0), .inl ((kx 0), 8, .inl (fun _ => 0))), ((ax 1), .inl ((kx 1), 24, .inr (.inr (.inr (.inr (fun _ => none)))))), ((ax 2), .inl ((kx 2), 4, .inr (.inr (.inr (.inr (fun _ => none)))))), ((ax 3), .inl ((kx 3), 12, .inr (.inr (.inr (.inr (fun _ => none)))))), ((ax 4), .inl ((kx 4), 40, .inr (.inr (.inr (.inr (fun _ => none)))))), (o, .inl (kO, 1, .inr (.inl fo)))] s.heap.size = A at hD hE ⊢
  have hA : ∀ q : Nat, s.heap.size ≤ q → A q := fun q h => by rw [← hAe]; exact Or.inr h
  have hS : va_S A s.heap s.heap [] := va_S.rf
  have hP : va_P (dC, dI) vwCl [(x, .inr (10, [.ref (ax 0), .ref (ax 1), .ref (ax 2), .ref (ax 3), .ref (ax 4), .ref (ax 5), .int 0, .int 0, .int 0, .int 0, .int 0, .int 0])), ((ax 0), .inl ((kx 0), 8, .inl (fun _ => 0))), ((ax 1), .inl ((kx 1), 24, .inr (.inr (.inr (.inr (fun _ => none)))))), ((ax 2), .inl ((kx 2), 4, .inr (.inr (.inr (.inr (fun _ => none)))))), ((ax 3), .inl ((kx 3), 12, .inr (.inr (.inr (.inr (fun _ => none)))))), ((ax 4), .inl ((kx 4), 40, .inr (.inr (.inr (.inr (fun _ => none)))))), (o, .inl (kO, 1, .inr (.inl fo)))] s.heap := hP
  have hl := lv_entry ([.ref x, .int a, .int b, .ref o]) (n := 5) (Nat.le_of_ble_eq_true rfl)
  rw [lg_entry_eq]
  generalize (lg_sl ([.ref x, .int a, .int b, .ref o]) ++ List.replicate (5 - (lg_sl ([.ref x, .int a, .int b, .ref o])).length) Slot.unset).toArray = ls at hl ⊢
  have hl : lv_has ls 5 [(0, .ref x), (1, .int a), (2, .int b), (3, .ref o)] := hl
  refine lv_aload_n hx hb dL_welds_0 rfl (lv_at hl 3 rfl) ?_
  refine lv_iconst (v := 0) hx hb dL_welds_1 (by decide) ?_
  refine lv_aload_n hx hb dL_welds_2 rfl (lv_at hl 0 rfl) ?_
  refine lv_iload_n hx hb dL_welds_3 rfl (lv_at hl 1 rfl) ?_
  refine lv_iload_n hx hb dL_welds_4 rfl (lv_at hl 2 rfl) ?_
  have hPc := hP.sub (ws' := xW x ax kx) [0, 1, 2, 3, 4, 5] rfl
  have hKc := hK.sub (tys' := xT kx) [0, 1, 2, 3, 4] rfl
  refine vx_calli (vx_runV (As := [.int a, .int b]) (rest := [.int 0, .ref o]) ⟨hx, hb, hml, hown, hts⟩ (c_X7_welds l hst dC dI s.heap.size x ax kx a b) (cwV 2 hts (goodIn_app (goodIn_of _ (by decide +kernel)) (goodIn_sub ((fun w h => List.mem_cons_of_mem _ (List.mem_append_right _ (h)))) zgX7_welds)) rfl rfl rfl (by decide +kernel) ⟨Nat.le_of_ble_eq_true rfl, Nat.le_of_ble_eq_true rfl⟩) ⟨xPc_blind, va_recv hK hP (ci := 10) (q0 := 0) rfl rfl, xPc_pass hPc hKc hE hS (fun q h => hA q (Nat.le_trans hS.1 h))⟩ rfl rfl hl.1 rfl (lv_room (Nat.le_of_ble_eq_true rfl)) dL_welds_5 ⟨Nat.le_of_ble_eq_true rfl, Nat.le_of_ble_eq_true rfl⟩) hS (fun q _ h => hA q (Nat.le_trans hS.1 h)) (fun q h => hA q (Nat.le_trans hS.1 h)) (fun q _ h => hA q (Nat.le_trans hS.1 h)) (fun E ce q9 _ t H locs ht hvm hpx hBX hz hk hS hcell hv hcl => ?_) (fun r_1 u t H locs ht hvm hw hB hz hk hS => ?_)
  · have hBX : E = "java/lang/IndexOutOfBoundsException" := hBX
    subst hBX
    have hP := zkn hP hk
    refine vx_catch (own := RL) (name := "java/lang/IndexOutOfBoundsException") hown [] ⟨0, 10, 13, 13⟩ [] (htab.trans rfl) (fun z hz => nomatch hz) (by decide) (by decide) (hts (.classLink RL 13 "java/lang/IndexOutOfBoundsException") (by decide +kernel)) (va_Nw.use rfl (hE.2.2.2.1 _ (by decide))) hcell hv hcl ?_
    refine W.eq (g2 := F0 m 13 ls [.ref q9]) rfl ?_
    refine lv_astore (lv' := [(4, .ref q9), (0, .ref x), (1, .int a), (2, .int b), (3, .ref o)]) hx hb dL_welds_13 hl (by decide) rfl (fun ls hl => ?_)
    refine lv_iconst (v := 1) hx hb dL_welds_15 (by decide) ?_
    refine W.widen (k := 1) (n := 6) (Nat.le_of_ble_eq_true rfl) (Nat.le_of_ble_eq_true rfl) ?_
    exact W.iret (v := 1) hx hb hr (fun t ht hW => ⟨⟨1, (), rfl, rfl, trivial⟩, hS.F ht⟩) hS.2.2 dL_welds_16
  exact hw.elim

def zwL_proof : List Cond := .codeWith yL_proof cL_proof 5 (some .int) [(0, 10, 13, 13)] :: (([.methodLink RL 64 yX7_proof, .instanceMethod yX7_proof, .selects RX7 yX7_proof yX7_proof, .initialized RX7, .classLink RL 13 "java/lang/IndexOutOfBoundsException"] : List Cond) ++ (zwX7_proof))
theorem zgL_proof : zwL_proof.all goodWord = true := zgo rfl (zga (by decide +kernel) (zgX7_proof))
set_option maxHeartbeats 4000000 in
set_option maxRecDepth 100000 in
theorem c_L_proof (l : Launch) (hst : l.stackTraces = false) (dC : Nat → ClassId) (dI : Nat → Nat → Nat) (sz : Nat) (x : Nat) (ax : Nat → Nat) (kx : Nat → ClassId) (o : Nat) (kO : ClassId) (fo : Nat → Int64) (a : Int32) (b : Int32) : Met l yL_proof zwL_proof ({ frames := 9, cells := 1, slots := 6, locals := 149 }) (gPcE dC dI sz [(x, .inr (10, [.ref (ax 0), .ref (ax 1), .ref (ax 2), .ref (ax 3), .ref (ax 4), .ref (ax 5), .int 0, .int 0, .int 0, .int 0, .int 0, .int 0])), ((ax 0), .inl ((kx 0), 8, .inl (fun _ => 0))), ((ax 1), .inl ((kx 1), 24, .inr (.inr (.inr (.inr (fun _ => none)))))), ((ax 2), .inl ((kx 2), 4, .inr (.inr (.inr (.inr (fun _ => none)))))), ((ax 3), .inl ((kx 3), 12, .inr (.inr (.inr (.inr (fun _ => none)))))), ((ax 4), .inl ((kx 4), 40, .inr (.inr (.inr (.inr (fun _ => none)))))), (o, .inl (kO, 1, .inr (.inl fo)))] [((kx 0), .int), ((kx 1), .object RX4), ((kx 2), .object RX5), ((kx 3), .object RX3), ((kx 4), .object RX0), (kO, .long)] [.ref x, .int a, .int b, .ref o]) (va_Qi (fun (r : Int32) (u : Unit) => r = 1) (fun u t => True) (va_A [(x, .inr (10, [.ref (ax 0), .ref (ax 1), .ref (ax 2), .ref (ax 3), .ref (ax 4), .ref (ax 5), .int 0, .int 0, .int 0, .int 0, .int 0, .int 0])), ((ax 0), .inl ((kx 0), 8, .inl (fun _ => 0))), ((ax 1), .inl ((kx 1), 24, .inr (.inr (.inr (.inr (fun _ => none)))))), ((ax 2), .inl ((kx 2), 4, .inr (.inr (.inr (.inr (fun _ => none)))))), ((ax 3), .inl ((kx 3), 12, .inr (.inr (.inr (.inr (fun _ => none)))))), ((ax 4), .inl ((kx 4), 40, .inr (.inr (.inr (.inr (fun _ => none)))))), (o, .inl (kO, 1, .inr (.inl fo)))] sz)) 1 6 (va_A [(x, .inr (10, [.ref (ax 0), .ref (ax 1), .ref (ax 2), .ref (ax 3), .ref (ax 4), .ref (ax 5), .int 0, .int 0, .int 0, .int 0, .int 0, .int 0])), ((ax 0), .inl ((kx 0), 8, .inl (fun _ => 0))), ((ax 1), .inl ((kx 1), 24, .inr (.inr (.inr (.inr (fun _ => none)))))), ((ax 2), .inl ((kx 2), 4, .inr (.inr (.inr (.inr (fun _ => none)))))), ((ax 3), .inl ((kx 3), 12, .inr (.inr (.inr (.inr (fun _ => none)))))), ((ax 4), .inl ((kx 4), 40, .inr (.inr (.inr (.inr (fun _ => none)))))), (o, .inl (kO, 1, .inr (.inl fo)))] sz) := by
  refine va_MetW (cc := cL_proof) (maxL := 5) (ret := (some .int)) (hh := [(0, 10, 13, 13)]) (by decide) rfl ?_
  intro p e s m args below meth c s₁ B hml hv
  obtain ⟨rfl, hsz, hP, hK, hD0, hE⟩ := hv
  have hx := B.exec
  have hb := B.bytes
  have hr := B.returns
  have hts := atoms_spec (ws := zwL_proof) B.pre
  have hown : s.vm.findClass RL = some m.cls := findClass_of_methodNamed B.named
  have hlocks := B.notSynchronized
  have htab : c.exceptionTable.toList = tableOf [(0, 10, 13, 13)] := vx_table (x := yL_proof) B (hts (.codeWith yL_proof cL_proof 5 (some .int) [(0, 10, 13, 13)]) List.mem_cons_self)
  subst hsz
  have hD := hD0.self (sz := s.heap.size)
  generalize hAe : va_A [(x, .inr (10, [.ref (ax 0), .ref (ax 1), .ref (ax 2), .ref (ax 3), .ref (ax 4), .ref (ax 5), .int 0, .int 0, .int 0, .int 0, .int 0, .int 0])), ((ax 0), .inl ((kx 0), 8, .inl (fun _ => 0))), ((ax 1), .inl ((kx 1), 24, .inr (.inr (.inr (.inr (fun _ => none)))))), ((ax 2), .inl ((kx 2), 4, .inr (.inr (.inr (.inr (fun _ => none)))))), ((ax 3), .inl ((kx 3), 12, .inr (.inr (.inr (.inr (fun _ => none)))))), ((ax 4), .inl ((kx 4), 40, .inr (.inr (.inr (.inr (fun _ => none)))))), (o, .inl (kO, 1, .inr (.inl fo)))] s.heap.size = A at hD hE ⊢
  have hA : ∀ q : Nat, s.heap.size ≤ q → A q := fun q h => by rw [← hAe]; exact Or.inr h
  have hS : va_S A s.heap s.heap [] := va_S.rf
  have hP : va_P (dC, dI) vwCl [(x, .inr (10, [.ref (ax 0), .ref (ax 1), .ref (ax 2), .ref (ax 3), .ref (ax 4), .ref (ax 5), .int 0, .int 0, .int 0, .int 0, .int 0, .int 0])), ((ax 0), .inl ((kx 0), 8, .inl (fun _ => 0))), ((ax 1), .inl ((kx 1), 24, .inr (.inr (.inr (.inr (fun _ => none)))))), ((ax 2), .inl ((kx 2), 4, .inr (.inr (.inr (.inr (fun _ => none)))))), ((ax 3), .inl ((kx 3), 12, .inr (.inr (.inr (.inr (fun _ => none)))))), ((ax 4), .inl ((kx 4), 40, .inr (.inr (.inr (.inr (fun _ => none)))))), (o, .inl (kO, 1, .inr (.inl fo)))] s.heap := hP
  have hl := lv_entry ([.ref x, .int a, .int b, .ref o]) (n := 5) (Nat.le_of_ble_eq_true rfl)
  rw [lg_entry_eq]
  generalize (lg_sl ([.ref x, .int a, .int b, .ref o]) ++ List.replicate (5 - (lg_sl ([.ref x, .int a, .int b, .ref o])).length) Slot.unset).toArray = ls at hl ⊢
  have hl : lv_has ls 5 [(0, .ref x), (1, .int a), (2, .int b), (3, .ref o)] := hl
  refine lv_aload_n hx hb dL_proof_0 rfl (lv_at hl 3 rfl) ?_
  refine lv_iconst (v := 0) hx hb dL_proof_1 (by decide) ?_
  refine lv_aload_n hx hb dL_proof_2 rfl (lv_at hl 0 rfl) ?_
  refine lv_iload_n hx hb dL_proof_3 rfl (lv_at hl 1 rfl) ?_
  refine lv_iload_n hx hb dL_proof_4 rfl (lv_at hl 2 rfl) ?_
  have hPc := hP.sub (ws' := xW x ax kx) [0, 1, 2, 3, 4, 5] rfl
  have hKc := hK.sub (tys' := xT kx) [0, 1, 2, 3, 4] rfl
  refine vx_calli (vx_runV (As := [.int a, .int b]) (rest := [.int 0, .ref o]) ⟨hx, hb, hml, hown, hts⟩ (c_X7_proof l hst dC dI s.heap.size x ax kx a b) (cwV 2 hts (goodIn_app (goodIn_of _ (by decide +kernel)) (goodIn_sub ((fun w h => List.mem_cons_of_mem _ (List.mem_append_right _ (h)))) zgX7_proof)) rfl rfl rfl (by decide +kernel) ⟨Nat.le_of_ble_eq_true rfl, Nat.le_of_ble_eq_true rfl⟩) ⟨xPc_blind, va_recv hK hP (ci := 10) (q0 := 0) rfl rfl, xPc_pass hPc hKc hE hS (fun q h => hA q (Nat.le_trans hS.1 h))⟩ rfl rfl hl.1 rfl (lv_room (Nat.le_of_ble_eq_true rfl)) dL_proof_5 ⟨Nat.le_of_ble_eq_true rfl, Nat.le_of_ble_eq_true rfl⟩) hS (fun q _ h => hA q (Nat.le_trans hS.1 h)) (fun q h => hA q (Nat.le_trans hS.1 h)) (fun q _ h => hA q (Nat.le_trans hS.1 h)) (fun E ce q9 _ t H locs ht hvm hpx hBX hz hk hS hcell hv hcl => ?_) (fun r_1 u t H locs ht hvm hw hB hz hk hS => ?_)
  · have hBX : E = "java/lang/IndexOutOfBoundsException" := hBX
    subst hBX
    have hP := zkn hP hk
    refine vx_catch (own := RL) (name := "java/lang/IndexOutOfBoundsException") hown [] ⟨0, 10, 13, 13⟩ [] (htab.trans rfl) (fun z hz => nomatch hz) (by decide) (by decide) (hts (.classLink RL 13 "java/lang/IndexOutOfBoundsException") (by decide +kernel)) (va_Nw.use rfl (hE.2.2.2.1 _ (by decide))) hcell hv hcl ?_
    refine W.eq (g2 := F0 m 13 ls [.ref q9]) rfl ?_
    refine lv_astore (lv' := [(4, .ref q9), (0, .ref x), (1, .int a), (2, .int b), (3, .ref o)]) hx hb dL_proof_13 hl (by decide) rfl (fun ls hl => ?_)
    refine lv_iconst (v := 1) hx hb dL_proof_15 (by decide) ?_
    refine W.widen (k := 1) (n := 6) (Nat.le_of_ble_eq_true rfl) (Nat.le_of_ble_eq_true rfl) ?_
    exact W.iret (v := 1) hx hb hr (fun t ht hW => ⟨⟨1, (), rfl, rfl, trivial⟩, hS.F ht⟩) hS.2.2 dL_proof_16
  exact hw.elim

def zwL_states : List Cond := .codeWith yL_states cL_states 5 (some .int) [(0, 10, 13, 13)] :: (([.methodLink RL 68 yX7_states, .instanceMethod yX7_states, .selects RX7 yX7_states yX7_states, .initialized RX7, .classLink RL 13 "java/lang/IndexOutOfBoundsException"] : List Cond) ++ (zwX7_states))
theorem zgL_states : zwL_states.all goodWord = true := zgo rfl (zga (by decide +kernel) (zgX7_states))
set_option maxHeartbeats 4000000 in
set_option maxRecDepth 100000 in
theorem c_L_states (l : Launch) (hst : l.stackTraces = false) (dC : Nat → ClassId) (dI : Nat → Nat → Nat) (sz : Nat) (x : Nat) (ax : Nat → Nat) (kx : Nat → ClassId) (o : Nat) (kO : ClassId) (fo : Nat → Int64) (a : Int32) (b : Int32) : Met l yL_states zwL_states ({ frames := 9, cells := 1, slots := 6, locals := 149 }) (gPcE dC dI sz [(x, .inr (10, [.ref (ax 0), .ref (ax 1), .ref (ax 2), .ref (ax 3), .ref (ax 4), .ref (ax 5), .int 0, .int 0, .int 0, .int 0, .int 0, .int 0])), ((ax 0), .inl ((kx 0), 8, .inl (fun _ => 0))), ((ax 1), .inl ((kx 1), 24, .inr (.inr (.inr (.inr (fun _ => none)))))), ((ax 2), .inl ((kx 2), 4, .inr (.inr (.inr (.inr (fun _ => none)))))), ((ax 3), .inl ((kx 3), 12, .inr (.inr (.inr (.inr (fun _ => none)))))), ((ax 4), .inl ((kx 4), 40, .inr (.inr (.inr (.inr (fun _ => none)))))), (o, .inl (kO, 1, .inr (.inl fo)))] [((kx 0), .int), ((kx 1), .object RX4), ((kx 2), .object RX5), ((kx 3), .object RX3), ((kx 4), .object RX0), (kO, .long)] [.ref x, .int a, .int b, .ref o]) (va_Qi (fun (r : Int32) (u : Unit) => r = 1) (fun u t => True) (va_A [(x, .inr (10, [.ref (ax 0), .ref (ax 1), .ref (ax 2), .ref (ax 3), .ref (ax 4), .ref (ax 5), .int 0, .int 0, .int 0, .int 0, .int 0, .int 0])), ((ax 0), .inl ((kx 0), 8, .inl (fun _ => 0))), ((ax 1), .inl ((kx 1), 24, .inr (.inr (.inr (.inr (fun _ => none)))))), ((ax 2), .inl ((kx 2), 4, .inr (.inr (.inr (.inr (fun _ => none)))))), ((ax 3), .inl ((kx 3), 12, .inr (.inr (.inr (.inr (fun _ => none)))))), ((ax 4), .inl ((kx 4), 40, .inr (.inr (.inr (.inr (fun _ => none)))))), (o, .inl (kO, 1, .inr (.inl fo)))] sz)) 1 6 (va_A [(x, .inr (10, [.ref (ax 0), .ref (ax 1), .ref (ax 2), .ref (ax 3), .ref (ax 4), .ref (ax 5), .int 0, .int 0, .int 0, .int 0, .int 0, .int 0])), ((ax 0), .inl ((kx 0), 8, .inl (fun _ => 0))), ((ax 1), .inl ((kx 1), 24, .inr (.inr (.inr (.inr (fun _ => none)))))), ((ax 2), .inl ((kx 2), 4, .inr (.inr (.inr (.inr (fun _ => none)))))), ((ax 3), .inl ((kx 3), 12, .inr (.inr (.inr (.inr (fun _ => none)))))), ((ax 4), .inl ((kx 4), 40, .inr (.inr (.inr (.inr (fun _ => none)))))), (o, .inl (kO, 1, .inr (.inl fo)))] sz) := by
  refine va_MetW (cc := cL_states) (maxL := 5) (ret := (some .int)) (hh := [(0, 10, 13, 13)]) (by decide) rfl ?_
  intro p e s m args below meth c s₁ B hml hv
  obtain ⟨rfl, hsz, hP, hK, hD0, hE⟩ := hv
  have hx := B.exec
  have hb := B.bytes
  have hr := B.returns
  have hts := atoms_spec (ws := zwL_states) B.pre
  have hown : s.vm.findClass RL = some m.cls := findClass_of_methodNamed B.named
  have hlocks := B.notSynchronized
  have htab : c.exceptionTable.toList = tableOf [(0, 10, 13, 13)] := vx_table (x := yL_states) B (hts (.codeWith yL_states cL_states 5 (some .int) [(0, 10, 13, 13)]) List.mem_cons_self)
  subst hsz
  have hD := hD0.self (sz := s.heap.size)
  generalize hAe : va_A [(x, .inr (10, [.ref (ax 0), .ref (ax 1), .ref (ax 2), .ref (ax 3), .ref (ax 4), .ref (ax 5), .int 0, .int 0, .int 0, .int 0, .int 0, .int 0])), ((ax 0), .inl ((kx 0), 8, .inl (fun _ => 0))), ((ax 1), .inl ((kx 1), 24, .inr (.inr (.inr (.inr (fun _ => none)))))), ((ax 2), .inl ((kx 2), 4, .inr (.inr (.inr (.inr (fun _ => none)))))), ((ax 3), .inl ((kx 3), 12, .inr (.inr (.inr (.inr (fun _ => none)))))), ((ax 4), .inl ((kx 4), 40, .inr (.inr (.inr (.inr (fun _ => none)))))), (o, .inl (kO, 1, .inr (.inl fo)))] s.heap.size = A at hD hE ⊢
  have hA : ∀ q : Nat, s.heap.size ≤ q → A q := fun q h => by rw [← hAe]; exact Or.inr h
  have hS : va_S A s.heap s.heap [] := va_S.rf
  have hP : va_P (dC, dI) vwCl [(x, .inr (10, [.ref (ax 0), .ref (ax 1), .ref (ax 2), .ref (ax 3), .ref (ax 4), .ref (ax 5), .int 0, .int 0, .int 0, .int 0, .int 0, .int 0])), ((ax 0), .inl ((kx 0), 8, .inl (fun _ => 0))), ((ax 1), .inl ((kx 1), 24, .inr (.inr (.inr (.inr (fun _ => none)))))), ((ax 2), .inl ((kx 2), 4, .inr (.inr (.inr (.inr (fun _ => none)))))), ((ax 3), .inl ((kx 3), 12, .inr (.inr (.inr (.inr (fun _ => none)))))), ((ax 4), .inl ((kx 4), 40, .inr (.inr (.inr (.inr (fun _ => none)))))), (o, .inl (kO, 1, .inr (.inl fo)))] s.heap := hP
  have hl := lv_entry ([.ref x, .int a, .int b, .ref o]) (n := 5) (Nat.le_of_ble_eq_true rfl)
  rw [lg_entry_eq]
  generalize (lg_sl ([.ref x, .int a, .int b, .ref o]) ++ List.replicate (5 - (lg_sl ([.ref x, .int a, .int b, .ref o])).length) Slot.unset).toArray = ls at hl ⊢
  have hl : lv_has ls 5 [(0, .ref x), (1, .int a), (2, .int b), (3, .ref o)] := hl
  refine lv_aload_n hx hb dL_states_0 rfl (lv_at hl 3 rfl) ?_
  refine lv_iconst (v := 0) hx hb dL_states_1 (by decide) ?_
  refine lv_aload_n hx hb dL_states_2 rfl (lv_at hl 0 rfl) ?_
  refine lv_iload_n hx hb dL_states_3 rfl (lv_at hl 1 rfl) ?_
  refine lv_iload_n hx hb dL_states_4 rfl (lv_at hl 2 rfl) ?_
  have hPc := hP.sub (ws' := xW x ax kx) [0, 1, 2, 3, 4, 5] rfl
  have hKc := hK.sub (tys' := xT kx) [0, 1, 2, 3, 4] rfl
  refine vx_calli (vx_runV (As := [.int a, .int b]) (rest := [.int 0, .ref o]) ⟨hx, hb, hml, hown, hts⟩ (c_X7_states l hst dC dI s.heap.size x ax kx a b) (cwV 2 hts (goodIn_app (goodIn_of _ (by decide +kernel)) (goodIn_sub ((fun w h => List.mem_cons_of_mem _ (List.mem_append_right _ (h)))) zgX7_states)) rfl rfl rfl (by decide +kernel) ⟨Nat.le_of_ble_eq_true rfl, Nat.le_of_ble_eq_true rfl⟩) ⟨xPc_blind, va_recv hK hP (ci := 10) (q0 := 0) rfl rfl, xPc_pass hPc hKc hE hS (fun q h => hA q (Nat.le_trans hS.1 h))⟩ rfl rfl hl.1 rfl (lv_room (Nat.le_of_ble_eq_true rfl)) dL_states_5 ⟨Nat.le_of_ble_eq_true rfl, Nat.le_of_ble_eq_true rfl⟩) hS (fun q _ h => hA q (Nat.le_trans hS.1 h)) (fun q h => hA q (Nat.le_trans hS.1 h)) (fun q _ h => hA q (Nat.le_trans hS.1 h)) (fun E ce q9 _ t H locs ht hvm hpx hBX hz hk hS hcell hv hcl => ?_) (fun r_1 u t H locs ht hvm hw hB hz hk hS => ?_)
  · have hBX : E = "java/lang/IndexOutOfBoundsException" := hBX
    subst hBX
    have hP := zkn hP hk
    refine vx_catch (own := RL) (name := "java/lang/IndexOutOfBoundsException") hown [] ⟨0, 10, 13, 13⟩ [] (htab.trans rfl) (fun z hz => nomatch hz) (by decide) (by decide) (hts (.classLink RL 13 "java/lang/IndexOutOfBoundsException") (by decide +kernel)) (va_Nw.use rfl (hE.2.2.2.1 _ (by decide))) hcell hv hcl ?_
    refine W.eq (g2 := F0 m 13 ls [.ref q9]) rfl ?_
    refine lv_astore (lv' := [(4, .ref q9), (0, .ref x), (1, .int a), (2, .int b), (3, .ref o)]) hx hb dL_states_13 hl (by decide) rfl (fun ls hl => ?_)
    refine lv_iconst (v := 1) hx hb dL_states_15 (by decide) ?_
    refine W.widen (k := 1) (n := 6) (Nat.le_of_ble_eq_true rfl) (Nat.le_of_ble_eq_true rfl) ?_
    exact W.iret (v := 1) hx hb hr (fun t ht hW => ⟨⟨1, (), rfl, rfl, trivial⟩, hS.F ht⟩) hS.2.2 dL_states_16
  exact hw.elim

def zwL_beat : List Cond := .codeWith yL_beat cL_beat 3 (some .int) [(0, 8, 11, 23)] :: (([.methodLink RL 80 yX7_beat, .instanceMethod yX7_beat, .selects RX7 yX7_beat yX7_beat, .initialized RX7, .classLink RL 23 "java/lang/UnsupportedOperationException"] : List Cond) ++ (zwX7_beat))
theorem zgL_beat : zwL_beat.all goodWord = true := zgo rfl (zga (by decide +kernel) (zgX7_beat))
set_option maxHeartbeats 4000000 in
set_option maxRecDepth 100000 in
theorem c_L_beat (l : Launch) (hst : l.stackTraces = false) (dC : Nat → ClassId) (dI : Nat → Nat → Nat) (sz : Nat) (x : Nat) (ax : Nat → Nat) (kx : Nat → ClassId) (o : Nat) (kO : ClassId) (fo : Nat → Int64) : Met l yL_beat zwL_beat ({ frames := 7, cells := 1, slots := 6, locals := 105 }) (gPcE dC dI sz [(x, .inr (10, [.ref (ax 0), .ref (ax 1), .ref (ax 2), .ref (ax 3), .ref (ax 4), .ref (ax 5), .int 0, .int 0, .int 0, .int 0, .int 0, .int 0])), ((ax 0), .inl ((kx 0), 8, .inl (fun _ => 0))), ((ax 1), .inl ((kx 1), 24, .inr (.inr (.inr (.inr (fun _ => none)))))), ((ax 2), .inl ((kx 2), 4, .inr (.inr (.inr (.inr (fun _ => none)))))), ((ax 3), .inl ((kx 3), 12, .inr (.inr (.inr (.inr (fun _ => none)))))), ((ax 4), .inl ((kx 4), 40, .inr (.inr (.inr (.inr (fun _ => none)))))), (o, .inl (kO, 1, .inr (.inl fo)))] [((kx 0), .int), ((kx 1), .object RX4), ((kx 2), .object RX5), ((kx 3), .object RX3), ((kx 4), .object RX0), (kO, .long)] [.ref x, .ref o]) (va_Qi (fun (r : Int32) (u : Unit) => r = 1) (fun u t => True) (va_A [(x, .inr (10, [.ref (ax 0), .ref (ax 1), .ref (ax 2), .ref (ax 3), .ref (ax 4), .ref (ax 5), .int 0, .int 0, .int 0, .int 0, .int 0, .int 0])), ((ax 0), .inl ((kx 0), 8, .inl (fun _ => 0))), ((ax 1), .inl ((kx 1), 24, .inr (.inr (.inr (.inr (fun _ => none)))))), ((ax 2), .inl ((kx 2), 4, .inr (.inr (.inr (.inr (fun _ => none)))))), ((ax 3), .inl ((kx 3), 12, .inr (.inr (.inr (.inr (fun _ => none)))))), ((ax 4), .inl ((kx 4), 40, .inr (.inr (.inr (.inr (fun _ => none)))))), (o, .inl (kO, 1, .inr (.inl fo)))] sz)) 1 6 (va_A [(x, .inr (10, [.ref (ax 0), .ref (ax 1), .ref (ax 2), .ref (ax 3), .ref (ax 4), .ref (ax 5), .int 0, .int 0, .int 0, .int 0, .int 0, .int 0])), ((ax 0), .inl ((kx 0), 8, .inl (fun _ => 0))), ((ax 1), .inl ((kx 1), 24, .inr (.inr (.inr (.inr (fun _ => none)))))), ((ax 2), .inl ((kx 2), 4, .inr (.inr (.inr (.inr (fun _ => none)))))), ((ax 3), .inl ((kx 3), 12, .inr (.inr (.inr (.inr (fun _ => none)))))), ((ax 4), .inl ((kx 4), 40, .inr (.inr (.inr (.inr (fun _ => none)))))), (o, .inl (kO, 1, .inr (.inl fo)))] sz) := by
  refine va_MetW (cc := cL_beat) (maxL := 3) (ret := (some .int)) (hh := [(0, 8, 11, 23)]) (by decide) rfl ?_
  intro p e s m args below meth c s₁ B hml hv
  obtain ⟨rfl, hsz, hP, hK, hD0, hE⟩ := hv
  have hx := B.exec
  have hb := B.bytes
  have hr := B.returns
  have hts := atoms_spec (ws := zwL_beat) B.pre
  have hown : s.vm.findClass RL = some m.cls := findClass_of_methodNamed B.named
  have hlocks := B.notSynchronized
  have htab : c.exceptionTable.toList = tableOf [(0, 8, 11, 23)] := vx_table (x := yL_beat) B (hts (.codeWith yL_beat cL_beat 3 (some .int) [(0, 8, 11, 23)]) List.mem_cons_self)
  subst hsz
  have hD := hD0.self (sz := s.heap.size)
  generalize hAe : va_A [(x, .inr (10, [.ref (ax 0), .ref (ax 1), .ref (ax 2), .ref (ax 3), .ref (ax 4), .ref (ax 5), .int 0, .int 0, .int 0, .int 0, .int 0, .int 0])), ((ax 0), .inl ((kx 0), 8, .inl (fun _ => 0))), ((ax 1), .inl ((kx 1), 24, .inr (.inr (.inr (.inr (fun _ => none)))))), ((ax 2), .inl ((kx 2), 4, .inr (.inr (.inr (.inr (fun _ => none)))))), ((ax 3), .inl ((kx 3), 12, .inr (.inr (.inr (.inr (fun _ => none)))))), ((ax 4), .inl ((kx 4), 40, .inr (.inr (.inr (.inr (fun _ => none)))))), (o, .inl (kO, 1, .inr (.inl fo)))] s.heap.size = A at hD hE ⊢
  have hA : ∀ q : Nat, s.heap.size ≤ q → A q := fun q h => by rw [← hAe]; exact Or.inr h
  have hS : va_S A s.heap s.heap [] := va_S.rf
  have hP : va_P (dC, dI) vwCl [(x, .inr (10, [.ref (ax 0), .ref (ax 1), .ref (ax 2), .ref (ax 3), .ref (ax 4), .ref (ax 5), .int 0, .int 0, .int 0, .int 0, .int 0, .int 0])), ((ax 0), .inl ((kx 0), 8, .inl (fun _ => 0))), ((ax 1), .inl ((kx 1), 24, .inr (.inr (.inr (.inr (fun _ => none)))))), ((ax 2), .inl ((kx 2), 4, .inr (.inr (.inr (.inr (fun _ => none)))))), ((ax 3), .inl ((kx 3), 12, .inr (.inr (.inr (.inr (fun _ => none)))))), ((ax 4), .inl ((kx 4), 40, .inr (.inr (.inr (.inr (fun _ => none)))))), (o, .inl (kO, 1, .inr (.inl fo)))] s.heap := hP
  have hl := lv_entry ([.ref x, .ref o]) (n := 3) (Nat.le_of_ble_eq_true rfl)
  rw [lg_entry_eq]
  generalize (lg_sl ([.ref x, .ref o]) ++ List.replicate (3 - (lg_sl ([.ref x, .ref o])).length) Slot.unset).toArray = ls at hl ⊢
  have hl : lv_has ls 3 [(0, .ref x), (1, .ref o)] := hl
  refine lv_aload_n hx hb dL_beat_0 rfl (lv_at hl 1 rfl) ?_
  refine lv_iconst (v := 0) hx hb dL_beat_1 (by decide) ?_
  refine lv_aload_n hx hb dL_beat_2 rfl (lv_at hl 0 rfl) ?_
  have hPc := hP.sub (ws' := xW x ax kx) [0, 1, 2, 3, 4, 5] rfl
  have hKc := hK.sub (tys' := xT kx) [0, 1, 2, 3, 4] rfl
  refine vx_calli (vx_runV (As := []) (rest := [.int 0, .ref o]) ⟨hx, hb, hml, hown, hts⟩ (c_X7_beat l hst dC dI s.heap.size x ax kx) (cwV 0 hts (goodIn_app (goodIn_of _ (by decide +kernel)) (goodIn_sub ((fun w h => List.mem_cons_of_mem _ (List.mem_append_right _ (h)))) zgX7_beat)) rfl rfl rfl (by decide +kernel) ⟨Nat.le_of_ble_eq_true rfl, Nat.le_of_ble_eq_true rfl⟩) ⟨xPc_blind, va_recv hK hP (ci := 10) (q0 := 0) rfl rfl, xPc_pass hPc hKc hE hS (fun q h => hA q (Nat.le_trans hS.1 h))⟩ rfl rfl hl.1 rfl (lv_room (Nat.le_of_ble_eq_true rfl)) dL_beat_3 ⟨Nat.le_of_ble_eq_true rfl, Nat.le_of_ble_eq_true rfl⟩) hS (fun q _ h => hA q (Nat.le_trans hS.1 h)) (fun q h => hA q (Nat.le_trans hS.1 h)) (fun q _ h => hA q (Nat.le_trans hS.1 h)) (fun E ce q9 _ t H locs ht hvm hpx hBX hz hk hS hcell hv hcl => ?_) (fun r_1 u t H locs ht hvm hw hB hz hk hS => ?_)
  · have hBX : E = "java/lang/UnsupportedOperationException" := hBX
    subst hBX
    have hP := zkn hP hk
    refine vx_catch (own := RL) (name := "java/lang/UnsupportedOperationException") hown [] ⟨0, 8, 11, 23⟩ [] (htab.trans rfl) (fun z hz => nomatch hz) (by decide) (by decide) (hts (.classLink RL 23 "java/lang/UnsupportedOperationException") (by decide +kernel)) (va_Nw.use rfl (hE.2.2.2.1 _ (by decide))) hcell hv hcl ?_
    refine W.eq (g2 := F0 m 11 ls [.ref q9]) rfl ?_
    refine lv_astore_n (lv' := [(2, .ref q9), (0, .ref x), (1, .ref o)]) hx hb dL_beat_11 rfl hl (by decide) rfl (fun ls hl => ?_)
    refine lv_iconst (v := 1) hx hb dL_beat_12 (by decide) ?_
    refine W.widen (k := 1) (n := 6) (Nat.le_of_ble_eq_true rfl) (Nat.le_of_ble_eq_true rfl) ?_
    exact W.iret (v := 1) hx hb hr (fun t ht hW => ⟨⟨1, (), rfl, rfl, trivial⟩, hS.F ht⟩) hS.2.2 dL_beat_13
  exact hw.elim

def zwL_at : List Cond := .codeWith yL_at cL_at 4 (some .int) [(0, 9, 12, 13), (0, 9, 15, 86)] :: (([.methodLink RL 83 yX7_at, .instanceMethod yX7_at, .selects RX7 yX7_at yX7_at, .initialized RX7, .classLink RL 13 "java/lang/IndexOutOfBoundsException"] : List Cond) ++ (zwX7_at))
theorem zgL_at : zwL_at.all goodWord = true := zgo rfl (zga (by decide +kernel) (zgX7_at))
set_option maxHeartbeats 4000000 in
set_option maxRecDepth 100000 in
theorem c_L_at (l : Launch) (hst : l.stackTraces = false) (dC : Nat → ClassId) (dI : Nat → Nat → Nat) (sz : Nat) (x : Nat) (ax : Nat → Nat) (kx : Nat → ClassId) (o : Nat) (kO : ClassId) (fo : Nat → Int64) (a : Int32) : Met l yL_at zwL_at ({ frames := 8, cells := 1, slots := 6, locals := 126 }) (gPcE dC dI sz [(x, .inr (10, [.ref (ax 0), .ref (ax 1), .ref (ax 2), .ref (ax 3), .ref (ax 4), .ref (ax 5), .int 0, .int 0, .int 0, .int 0, .int 0, .int 0])), ((ax 0), .inl ((kx 0), 8, .inl (fun _ => 0))), ((ax 1), .inl ((kx 1), 24, .inr (.inr (.inr (.inr (fun _ => none)))))), ((ax 2), .inl ((kx 2), 4, .inr (.inr (.inr (.inr (fun _ => none)))))), ((ax 3), .inl ((kx 3), 12, .inr (.inr (.inr (.inr (fun _ => none)))))), ((ax 4), .inl ((kx 4), 40, .inr (.inr (.inr (.inr (fun _ => none)))))), (o, .inl (kO, 1, .inr (.inl fo)))] [((kx 0), .int), ((kx 1), .object RX4), ((kx 2), .object RX5), ((kx 3), .object RX3), ((kx 4), .object RX0), (kO, .long)] [.ref x, .int a, .ref o]) (va_Qi (fun (r : Int32) (u : Unit) => r = 1) (fun u t => True) (va_A [(x, .inr (10, [.ref (ax 0), .ref (ax 1), .ref (ax 2), .ref (ax 3), .ref (ax 4), .ref (ax 5), .int 0, .int 0, .int 0, .int 0, .int 0, .int 0])), ((ax 0), .inl ((kx 0), 8, .inl (fun _ => 0))), ((ax 1), .inl ((kx 1), 24, .inr (.inr (.inr (.inr (fun _ => none)))))), ((ax 2), .inl ((kx 2), 4, .inr (.inr (.inr (.inr (fun _ => none)))))), ((ax 3), .inl ((kx 3), 12, .inr (.inr (.inr (.inr (fun _ => none)))))), ((ax 4), .inl ((kx 4), 40, .inr (.inr (.inr (.inr (fun _ => none)))))), (o, .inl (kO, 1, .inr (.inl fo)))] sz)) 1 6 (va_A [(x, .inr (10, [.ref (ax 0), .ref (ax 1), .ref (ax 2), .ref (ax 3), .ref (ax 4), .ref (ax 5), .int 0, .int 0, .int 0, .int 0, .int 0, .int 0])), ((ax 0), .inl ((kx 0), 8, .inl (fun _ => 0))), ((ax 1), .inl ((kx 1), 24, .inr (.inr (.inr (.inr (fun _ => none)))))), ((ax 2), .inl ((kx 2), 4, .inr (.inr (.inr (.inr (fun _ => none)))))), ((ax 3), .inl ((kx 3), 12, .inr (.inr (.inr (.inr (fun _ => none)))))), ((ax 4), .inl ((kx 4), 40, .inr (.inr (.inr (.inr (fun _ => none)))))), (o, .inl (kO, 1, .inr (.inl fo)))] sz) := by
  refine va_MetW (cc := cL_at) (maxL := 4) (ret := (some .int)) (hh := [(0, 9, 12, 13), (0, 9, 15, 86)]) (by decide) rfl ?_
  intro p e s m args below meth c s₁ B hml hv
  obtain ⟨rfl, hsz, hP, hK, hD0, hE⟩ := hv
  have hx := B.exec
  have hb := B.bytes
  have hr := B.returns
  have hts := atoms_spec (ws := zwL_at) B.pre
  have hown : s.vm.findClass RL = some m.cls := findClass_of_methodNamed B.named
  have hlocks := B.notSynchronized
  have htab : c.exceptionTable.toList = tableOf [(0, 9, 12, 13), (0, 9, 15, 86)] := vx_table (x := yL_at) B (hts (.codeWith yL_at cL_at 4 (some .int) [(0, 9, 12, 13), (0, 9, 15, 86)]) List.mem_cons_self)
  subst hsz
  have hD := hD0.self (sz := s.heap.size)
  generalize hAe : va_A [(x, .inr (10, [.ref (ax 0), .ref (ax 1), .ref (ax 2), .ref (ax 3), .ref (ax 4), .ref (ax 5), .int 0, .int 0, .int 0, .int 0, .int 0, .int 0])), ((ax 0), .inl ((kx 0), 8, .inl (fun _ => 0))), ((ax 1), .inl ((kx 1), 24, .inr (.inr (.inr (.inr (fun _ => none)))))), ((ax 2), .inl ((kx 2), 4, .inr (.inr (.inr (.inr (fun _ => none)))))), ((ax 3), .inl ((kx 3), 12, .inr (.inr (.inr (.inr (fun _ => none)))))), ((ax 4), .inl ((kx 4), 40, .inr (.inr (.inr (.inr (fun _ => none)))))), (o, .inl (kO, 1, .inr (.inl fo)))] s.heap.size = A at hD hE ⊢
  have hA : ∀ q : Nat, s.heap.size ≤ q → A q := fun q h => by rw [← hAe]; exact Or.inr h
  have hS : va_S A s.heap s.heap [] := va_S.rf
  have hP : va_P (dC, dI) vwCl [(x, .inr (10, [.ref (ax 0), .ref (ax 1), .ref (ax 2), .ref (ax 3), .ref (ax 4), .ref (ax 5), .int 0, .int 0, .int 0, .int 0, .int 0, .int 0])), ((ax 0), .inl ((kx 0), 8, .inl (fun _ => 0))), ((ax 1), .inl ((kx 1), 24, .inr (.inr (.inr (.inr (fun _ => none)))))), ((ax 2), .inl ((kx 2), 4, .inr (.inr (.inr (.inr (fun _ => none)))))), ((ax 3), .inl ((kx 3), 12, .inr (.inr (.inr (.inr (fun _ => none)))))), ((ax 4), .inl ((kx 4), 40, .inr (.inr (.inr (.inr (fun _ => none)))))), (o, .inl (kO, 1, .inr (.inl fo)))] s.heap := hP
  have hl := lv_entry ([.ref x, .int a, .ref o]) (n := 4) (Nat.le_of_ble_eq_true rfl)
  rw [lg_entry_eq]
  generalize (lg_sl ([.ref x, .int a, .ref o]) ++ List.replicate (4 - (lg_sl ([.ref x, .int a, .ref o])).length) Slot.unset).toArray = ls at hl ⊢
  have hl : lv_has ls 4 [(0, .ref x), (1, .int a), (2, .ref o)] := hl
  refine lv_aload_n hx hb dL_at_0 rfl (lv_at hl 2 rfl) ?_
  refine lv_iconst (v := 0) hx hb dL_at_1 (by decide) ?_
  refine lv_aload_n hx hb dL_at_2 rfl (lv_at hl 0 rfl) ?_
  refine lv_iload_n hx hb dL_at_3 rfl (lv_at hl 1 rfl) ?_
  have hPc := hP.sub (ws' := xW x ax kx) [0, 1, 2, 3, 4, 5] rfl
  have hKc := hK.sub (tys' := xT kx) [0, 1, 2, 3, 4] rfl
  refine vx_calli (vx_runV (As := [.int a]) (rest := [.int 0, .ref o]) ⟨hx, hb, hml, hown, hts⟩ (c_X7_at l hst dC dI s.heap.size x ax kx a) (cwV 1 hts (goodIn_app (goodIn_of _ (by decide +kernel)) (goodIn_sub ((fun w h => List.mem_cons_of_mem _ (List.mem_append_right _ (h)))) zgX7_at)) rfl rfl rfl (by decide +kernel) ⟨Nat.le_of_ble_eq_true rfl, Nat.le_of_ble_eq_true rfl⟩) ⟨xPc_blind, va_recv hK hP (ci := 10) (q0 := 0) rfl rfl, xPc_pass hPc hKc hE hS (fun q h => hA q (Nat.le_trans hS.1 h))⟩ rfl rfl hl.1 rfl (lv_room (Nat.le_of_ble_eq_true rfl)) dL_at_4 ⟨Nat.le_of_ble_eq_true rfl, Nat.le_of_ble_eq_true rfl⟩) hS (fun q _ h => hA q (Nat.le_trans hS.1 h)) (fun q h => hA q (Nat.le_trans hS.1 h)) (fun q _ h => hA q (Nat.le_trans hS.1 h)) (fun E ce q9 _ t H locs ht hvm hpx hBX hz hk hS hcell hv hcl => ?_) (fun r_1 u t H locs ht hvm hw hB hz hk hS => ?_)
  · have hBX : E = "java/lang/IndexOutOfBoundsException" := hBX
    subst hBX
    have hP := zkn hP hk
    refine vx_catch (own := RL) (name := "java/lang/IndexOutOfBoundsException") hown [] ⟨0, 9, 12, 13⟩ [⟨0, 9, 15, 86⟩] (htab.trans rfl) (fun z hz => nomatch hz) (by decide) (by decide) (hts (.classLink RL 13 "java/lang/IndexOutOfBoundsException") (by decide +kernel)) (va_Nw.use rfl (hE.2.2.2.1 _ (by decide))) hcell hv hcl ?_
    refine W.eq (g2 := F0 m 12 ls [.ref q9]) rfl ?_
    refine lv_astore_n (lv' := [(3, .ref q9), (0, .ref x), (1, .int a), (2, .ref o)]) hx hb dL_at_12 rfl hl (by decide) rfl (fun ls hl => ?_)
    refine lv_iconst (v := 1) hx hb dL_at_13 (by decide) ?_
    refine W.widen (k := 1) (n := 6) (Nat.le_of_ble_eq_true rfl) (Nat.le_of_ble_eq_true rfl) ?_
    exact W.iret (v := 1) hx hb hr (fun t ht hW => ⟨⟨1, (), rfl, rfl, trivial⟩, hS.F ht⟩) hS.2.2 dL_at_14
  exact hw.elim

def zwL_where : List Cond := .codeWith yL_where cL_where 4 (some .int) [(0, 9, 12, 13)] :: (([.methodLink RL 88 yX7_where, .instanceMethod yX7_where, .selects RX7 yX7_where yX7_where, .initialized RX7, .classLink RL 13 "java/lang/IndexOutOfBoundsException"] : List Cond) ++ (zwX7_where))
theorem zgL_where : zwL_where.all goodWord = true := zgo rfl (zga (by decide +kernel) (zgX7_where))
set_option maxHeartbeats 4000000 in
set_option maxRecDepth 100000 in
theorem c_L_where (l : Launch) (hst : l.stackTraces = false) (dC : Nat → ClassId) (dI : Nat → Nat → Nat) (sz : Nat) (x : Nat) (ax : Nat → Nat) (kx : Nat → ClassId) (o : Nat) (kO : ClassId) (fo : Nat → Int64) (a : Int32) : Met l yL_where zwL_where ({ frames := 8, cells := 1, slots := 6, locals := 125 }) (gPcE dC dI sz [(x, .inr (10, [.ref (ax 0), .ref (ax 1), .ref (ax 2), .ref (ax 3), .ref (ax 4), .ref (ax 5), .int 0, .int 0, .int 0, .int 0, .int 0, .int 0])), ((ax 0), .inl ((kx 0), 8, .inl (fun _ => 0))), ((ax 1), .inl ((kx 1), 24, .inr (.inr (.inr (.inr (fun _ => none)))))), ((ax 2), .inl ((kx 2), 4, .inr (.inr (.inr (.inr (fun _ => none)))))), ((ax 3), .inl ((kx 3), 12, .inr (.inr (.inr (.inr (fun _ => none)))))), ((ax 4), .inl ((kx 4), 40, .inr (.inr (.inr (.inr (fun _ => none)))))), (o, .inl (kO, 1, .inr (.inl fo)))] [((kx 0), .int), ((kx 1), .object RX4), ((kx 2), .object RX5), ((kx 3), .object RX3), ((kx 4), .object RX0), (kO, .long)] [.ref x, .int a, .ref o]) (va_Qi (fun (r : Int32) (u : Unit) => r = 1) (fun u t => True) (va_A [(x, .inr (10, [.ref (ax 0), .ref (ax 1), .ref (ax 2), .ref (ax 3), .ref (ax 4), .ref (ax 5), .int 0, .int 0, .int 0, .int 0, .int 0, .int 0])), ((ax 0), .inl ((kx 0), 8, .inl (fun _ => 0))), ((ax 1), .inl ((kx 1), 24, .inr (.inr (.inr (.inr (fun _ => none)))))), ((ax 2), .inl ((kx 2), 4, .inr (.inr (.inr (.inr (fun _ => none)))))), ((ax 3), .inl ((kx 3), 12, .inr (.inr (.inr (.inr (fun _ => none)))))), ((ax 4), .inl ((kx 4), 40, .inr (.inr (.inr (.inr (fun _ => none)))))), (o, .inl (kO, 1, .inr (.inl fo)))] sz)) 1 6 (va_A [(x, .inr (10, [.ref (ax 0), .ref (ax 1), .ref (ax 2), .ref (ax 3), .ref (ax 4), .ref (ax 5), .int 0, .int 0, .int 0, .int 0, .int 0, .int 0])), ((ax 0), .inl ((kx 0), 8, .inl (fun _ => 0))), ((ax 1), .inl ((kx 1), 24, .inr (.inr (.inr (.inr (fun _ => none)))))), ((ax 2), .inl ((kx 2), 4, .inr (.inr (.inr (.inr (fun _ => none)))))), ((ax 3), .inl ((kx 3), 12, .inr (.inr (.inr (.inr (fun _ => none)))))), ((ax 4), .inl ((kx 4), 40, .inr (.inr (.inr (.inr (fun _ => none)))))), (o, .inl (kO, 1, .inr (.inl fo)))] sz) := by
  refine va_MetW (cc := cL_where) (maxL := 4) (ret := (some .int)) (hh := [(0, 9, 12, 13)]) (by decide) rfl ?_
  intro p e s m args below meth c s₁ B hml hv
  obtain ⟨rfl, hsz, hP, hK, hD0, hE⟩ := hv
  have hx := B.exec
  have hb := B.bytes
  have hr := B.returns
  have hts := atoms_spec (ws := zwL_where) B.pre
  have hown : s.vm.findClass RL = some m.cls := findClass_of_methodNamed B.named
  have hlocks := B.notSynchronized
  have htab : c.exceptionTable.toList = tableOf [(0, 9, 12, 13)] := vx_table (x := yL_where) B (hts (.codeWith yL_where cL_where 4 (some .int) [(0, 9, 12, 13)]) List.mem_cons_self)
  subst hsz
  have hD := hD0.self (sz := s.heap.size)
  generalize hAe : va_A [(x, .inr (10, [.ref (ax 0), .ref (ax 1), .ref (ax 2), .ref (ax 3), .ref (ax 4), .ref (ax 5), .int 0, .int 0, .int 0, .int 0, .int 0, .int 0])), ((ax 0), .inl ((kx 0), 8, .inl (fun _ => 0))), ((ax 1), .inl ((kx 1), 24, .inr (.inr (.inr (.inr (fun _ => none)))))), ((ax 2), .inl ((kx 2), 4, .inr (.inr (.inr (.inr (fun _ => none)))))), ((ax 3), .inl ((kx 3), 12, .inr (.inr (.inr (.inr (fun _ => none)))))), ((ax 4), .inl ((kx 4), 40, .inr (.inr (.inr (.inr (fun _ => none)))))), (o, .inl (kO, 1, .inr (.inl fo)))] s.heap.size = A at hD hE ⊢
  have hA : ∀ q : Nat, s.heap.size ≤ q → A q := fun q h => by rw [← hAe]; exact Or.inr h
  have hS : va_S A s.heap s.heap [] := va_S.rf
  have hP : va_P (dC, dI) vwCl [(x, .inr (10, [.ref (ax 0), .ref (ax 1), .ref (ax 2), .ref (ax 3), .ref (ax 4), .ref (ax 5), .int 0, .int 0, .int 0, .int 0, .int 0, .int 0])), ((ax 0), .inl ((kx 0), 8, .inl (fun _ => 0))), ((ax 1), .inl ((kx 1), 24, .inr (.inr (.inr (.inr (fun _ => none)))))), ((ax 2), .inl ((kx 2), 4, .inr (.inr (.inr (.inr (fun _ => none)))))), ((ax 3), .inl ((kx 3), 12, .inr (.inr (.inr (.inr (fun _ => none)))))), ((ax 4), .inl ((kx 4), 40, .inr (.inr (.inr (.inr (fun _ => none)))))), (o, .inl (kO, 1, .inr (.inl fo)))] s.heap := hP
  have hl := lv_entry ([.ref x, .int a, .ref o]) (n := 4) (Nat.le_of_ble_eq_true rfl)
  rw [lg_entry_eq]
  generalize (lg_sl ([.ref x, .int a, .ref o]) ++ List.replicate (4 - (lg_sl ([.ref x, .int a, .ref o])).length) Slot.unset).toArray = ls at hl ⊢
  have hl : lv_has ls 4 [(0, .ref x), (1, .int a), (2, .ref o)] := hl
  refine lv_aload_n hx hb dL_where_0 rfl (lv_at hl 2 rfl) ?_
  refine lv_iconst (v := 0) hx hb dL_where_1 (by decide) ?_
  refine lv_aload_n hx hb dL_where_2 rfl (lv_at hl 0 rfl) ?_
  refine lv_iload_n hx hb dL_where_3 rfl (lv_at hl 1 rfl) ?_
  have hPc := hP.sub (ws' := xW x ax kx) [0, 1, 2, 3, 4, 5] rfl
  have hKc := hK.sub (tys' := xT kx) [0, 1, 2, 3, 4] rfl
  refine vx_calli (vx_runV (As := [.int a]) (rest := [.int 0, .ref o]) ⟨hx, hb, hml, hown, hts⟩ (c_X7_where l hst dC dI s.heap.size x ax kx a) (cwV 1 hts (goodIn_app (goodIn_of _ (by decide +kernel)) (goodIn_sub ((fun w h => List.mem_cons_of_mem _ (List.mem_append_right _ (h)))) zgX7_where)) rfl rfl rfl (by decide +kernel) ⟨Nat.le_of_ble_eq_true rfl, Nat.le_of_ble_eq_true rfl⟩) ⟨xPc_blind, va_recv hK hP (ci := 10) (q0 := 0) rfl rfl, xPc_pass hPc hKc hE hS (fun q h => hA q (Nat.le_trans hS.1 h))⟩ rfl rfl hl.1 rfl (lv_room (Nat.le_of_ble_eq_true rfl)) dL_where_4 ⟨Nat.le_of_ble_eq_true rfl, Nat.le_of_ble_eq_true rfl⟩) hS (fun q _ h => hA q (Nat.le_trans hS.1 h)) (fun q h => hA q (Nat.le_trans hS.1 h)) (fun q _ h => hA q (Nat.le_trans hS.1 h)) (fun E ce q9 _ t H locs ht hvm hpx hBX hz hk hS hcell hv hcl => ?_) (fun r_1 u t H locs ht hvm hw hB hz hk hS => ?_)
  · have hBX : E = "java/lang/IndexOutOfBoundsException" := hBX
    subst hBX
    have hP := zkn hP hk
    refine vx_catch (own := RL) (name := "java/lang/IndexOutOfBoundsException") hown [] ⟨0, 9, 12, 13⟩ [] (htab.trans rfl) (fun z hz => nomatch hz) (by decide) (by decide) (hts (.classLink RL 13 "java/lang/IndexOutOfBoundsException") (by decide +kernel)) (va_Nw.use rfl (hE.2.2.2.1 _ (by decide))) hcell hv hcl ?_
    refine W.eq (g2 := F0 m 12 ls [.ref q9]) rfl ?_
    refine lv_astore_n (lv' := [(3, .ref q9), (0, .ref x), (1, .int a), (2, .ref o)]) hx hb dL_where_12 rfl hl (by decide) rfl (fun ls hl => ?_)
    refine lv_iconst (v := 1) hx hb dL_where_13 (by decide) ?_
    refine W.widen (k := 1) (n := 6) (Nat.le_of_ble_eq_true rfl) (Nat.le_of_ble_eq_true rfl) ?_
    exact W.iret (v := 1) hx hb hr (fun t ht hW => ⟨⟨1, (), rfl, rfl, trivial⟩, hS.F ht⟩) hS.2.2 dL_where_14
  exact hw.elim

def zwL_stand : List Cond := .codeWith yL_stand cL_stand 5 (some .int) [(0, 17, 20, 13)] :: (([.methodLink RL 91 yX7_stand, .instanceMethod yX7_stand, .selects RX7 yX7_stand yX7_stand, .initialized RX7, .classLink RL 13 "java/lang/IndexOutOfBoundsException"] : List Cond) ++ (zwX7_stand))
theorem zgL_stand : zwL_stand.all goodWord = true := zgo rfl (zga (by decide +kernel) (zgX7_stand))
set_option maxHeartbeats 4000000 in
set_option maxRecDepth 100000 in
theorem c_L_stand (l : Launch) (hst : l.stackTraces = false) (dC : Nat → ClassId) (dI : Nat → Nat → Nat) (sz : Nat) (x : Nat) (ax : Nat → Nat) (kx : Nat → ClassId) (o : Nat) (kO : ClassId) (fo : Nat → Int64) (a : Int32) (b : Int32) : Met l yL_stand zwL_stand ({ frames := 8, cells := 1, slots := 6, locals := 128 }) (gPcE dC dI sz [(x, .inr (10, [.ref (ax 0), .ref (ax 1), .ref (ax 2), .ref (ax 3), .ref (ax 4), .ref (ax 5), .int 0, .int 0, .int 0, .int 0, .int 0, .int 0])), ((ax 0), .inl ((kx 0), 8, .inl (fun _ => 0))), ((ax 1), .inl ((kx 1), 24, .inr (.inr (.inr (.inr (fun _ => none)))))), ((ax 2), .inl ((kx 2), 4, .inr (.inr (.inr (.inr (fun _ => none)))))), ((ax 3), .inl ((kx 3), 12, .inr (.inr (.inr (.inr (fun _ => none)))))), ((ax 4), .inl ((kx 4), 40, .inr (.inr (.inr (.inr (fun _ => none)))))), (o, .inl (kO, 1, .inr (.inl fo)))] [((kx 0), .int), ((kx 1), .object RX4), ((kx 2), .object RX5), ((kx 3), .object RX3), ((kx 4), .object RX0), (kO, .long)] [.ref x, .int a, .int b, .ref o]) (va_Qi (fun (r : Int32) (u : Unit) => r = 1) (fun u t => True) (va_A [(x, .inr (10, [.ref (ax 0), .ref (ax 1), .ref (ax 2), .ref (ax 3), .ref (ax 4), .ref (ax 5), .int 0, .int 0, .int 0, .int 0, .int 0, .int 0])), ((ax 0), .inl ((kx 0), 8, .inl (fun _ => 0))), ((ax 1), .inl ((kx 1), 24, .inr (.inr (.inr (.inr (fun _ => none)))))), ((ax 2), .inl ((kx 2), 4, .inr (.inr (.inr (.inr (fun _ => none)))))), ((ax 3), .inl ((kx 3), 12, .inr (.inr (.inr (.inr (fun _ => none)))))), ((ax 4), .inl ((kx 4), 40, .inr (.inr (.inr (.inr (fun _ => none)))))), (o, .inl (kO, 1, .inr (.inl fo)))] sz)) 1 6 (va_A [(x, .inr (10, [.ref (ax 0), .ref (ax 1), .ref (ax 2), .ref (ax 3), .ref (ax 4), .ref (ax 5), .int 0, .int 0, .int 0, .int 0, .int 0, .int 0])), ((ax 0), .inl ((kx 0), 8, .inl (fun _ => 0))), ((ax 1), .inl ((kx 1), 24, .inr (.inr (.inr (.inr (fun _ => none)))))), ((ax 2), .inl ((kx 2), 4, .inr (.inr (.inr (.inr (fun _ => none)))))), ((ax 3), .inl ((kx 3), 12, .inr (.inr (.inr (.inr (fun _ => none)))))), ((ax 4), .inl ((kx 4), 40, .inr (.inr (.inr (.inr (fun _ => none)))))), (o, .inl (kO, 1, .inr (.inl fo)))] sz) := by
  refine va_MetW (cc := cL_stand) (maxL := 5) (ret := (some .int)) (hh := [(0, 17, 20, 13)]) (by decide) rfl ?_
  intro p e s m args below meth c s₁ B hml hv
  obtain ⟨rfl, hsz, hP, hK, hD0, hE⟩ := hv
  have hx := B.exec
  have hb := B.bytes
  have hr := B.returns
  have hts := atoms_spec (ws := zwL_stand) B.pre
  have hown : s.vm.findClass RL = some m.cls := findClass_of_methodNamed B.named
  have hlocks := B.notSynchronized
  have htab : c.exceptionTable.toList = tableOf [(0, 17, 20, 13)] := vx_table (x := yL_stand) B (hts (.codeWith yL_stand cL_stand 5 (some .int) [(0, 17, 20, 13)]) List.mem_cons_self)
  subst hsz
  have hD := hD0.self (sz := s.heap.size)
  generalize hAe : va_A [(x, .inr (10, [.ref (ax 0), .ref (ax 1), .ref (ax 2), .ref (ax 3), .ref (ax 4), .ref (ax 5), .int 0, .int 0, .int 0, .int 0, .int 0, .int 0])), ((ax 0), .inl ((kx 0), 8, .inl (fun _ => 0))), ((ax 1), .inl ((kx 1), 24, .inr (.inr (.inr (.inr (fun _ => none)))))), ((ax 2), .inl ((kx 2), 4, .inr (.inr (.inr (.inr (fun _ => none)))))), ((ax 3), .inl ((kx 3), 12, .inr (.inr (.inr (.inr (fun _ => none)))))), ((ax 4), .inl ((kx 4), 40, .inr (.inr (.inr (.inr (fun _ => none)))))), (o, .inl (kO, 1, .inr (.inl fo)))] s.heap.size = A at hD hE ⊢
  have hA : ∀ q : Nat, s.heap.size ≤ q → A q := fun q h => by rw [← hAe]; exact Or.inr h
  have hS : va_S A s.heap s.heap [] := va_S.rf
  have hP : va_P (dC, dI) vwCl [(x, .inr (10, [.ref (ax 0), .ref (ax 1), .ref (ax 2), .ref (ax 3), .ref (ax 4), .ref (ax 5), .int 0, .int 0, .int 0, .int 0, .int 0, .int 0])), ((ax 0), .inl ((kx 0), 8, .inl (fun _ => 0))), ((ax 1), .inl ((kx 1), 24, .inr (.inr (.inr (.inr (fun _ => none)))))), ((ax 2), .inl ((kx 2), 4, .inr (.inr (.inr (.inr (fun _ => none)))))), ((ax 3), .inl ((kx 3), 12, .inr (.inr (.inr (.inr (fun _ => none)))))), ((ax 4), .inl ((kx 4), 40, .inr (.inr (.inr (.inr (fun _ => none)))))), (o, .inl (kO, 1, .inr (.inl fo)))] s.heap := hP
  have hl := lv_entry ([.ref x, .int a, .int b, .ref o]) (n := 5) (Nat.le_of_ble_eq_true rfl)
  rw [lg_entry_eq]
  generalize (lg_sl ([.ref x, .int a, .int b, .ref o]) ++ List.replicate (5 - (lg_sl ([.ref x, .int a, .int b, .ref o])).length) Slot.unset).toArray = ls at hl ⊢
  have hl : lv_has ls 5 [(0, .ref x), (1, .int a), (2, .int b), (3, .ref o)] := hl
  refine lv_aload_n hx hb dL_stand_0 rfl (lv_at hl 3 rfl) ?_
  refine lv_iconst (v := 0) hx hb dL_stand_1 (by decide) ?_
  refine lv_aload_n hx hb dL_stand_2 rfl (lv_at hl 0 rfl) ?_
  refine lv_iload_n hx hb dL_stand_3 rfl (lv_at hl 1 rfl) ?_
  refine lv_iload_n hx hb dL_stand_4 rfl (lv_at hl 2 rfl) ?_
  have hPc := hP.sub (ws' := xW x ax kx) [0, 1, 2, 3, 4, 5] rfl
  have hKc := hK.sub (tys' := xT kx) [0, 1, 2, 3, 4] rfl
  refine vx_calli (vx_runV (As := [.int a, .int b]) (rest := [.int 0, .ref o]) ⟨hx, hb, hml, hown, hts⟩ (c_X7_stand l hst dC dI s.heap.size x ax kx a b) (cwV 2 hts (goodIn_app (goodIn_of _ (by decide +kernel)) (goodIn_sub ((fun w h => List.mem_cons_of_mem _ (List.mem_append_right _ (h)))) zgX7_stand)) rfl rfl rfl (by decide +kernel) ⟨Nat.le_of_ble_eq_true rfl, Nat.le_of_ble_eq_true rfl⟩) ⟨xPc_blind, va_recv hK hP (ci := 10) (q0 := 0) rfl rfl, xPc_pass hPc hKc hE hS (fun q h => hA q (Nat.le_trans hS.1 h))⟩ rfl rfl hl.1 rfl (lv_room (Nat.le_of_ble_eq_true rfl)) dL_stand_5 ⟨Nat.le_of_ble_eq_true rfl, Nat.le_of_ble_eq_true rfl⟩) hS (fun q _ h => hA q (Nat.le_trans hS.1 h)) (fun q h => hA q (Nat.le_trans hS.1 h)) (fun q _ h => hA q (Nat.le_trans hS.1 h)) (fun E ce q9 _ t H locs ht hvm hpx hBX hz hk hS hcell hv hcl => ?_) (fun r_1 u t H locs ht hvm hw hB hz hk hS => ?_)
  · have hBX : E = "java/lang/IndexOutOfBoundsException" := hBX
    subst hBX
    have hP := zkn hP hk
    refine vx_catch (own := RL) (name := "java/lang/IndexOutOfBoundsException") hown [] ⟨0, 17, 20, 13⟩ [] (htab.trans rfl) (fun z hz => nomatch hz) (by decide) (by decide) (hts (.classLink RL 13 "java/lang/IndexOutOfBoundsException") (by decide +kernel)) (va_Nw.use rfl (hE.2.2.2.1 _ (by decide))) hcell hv hcl ?_
    refine W.eq (g2 := F0 m 20 ls [.ref q9]) rfl ?_
    refine lv_astore (lv' := [(4, .ref q9), (0, .ref x), (1, .int a), (2, .int b), (3, .ref o)]) hx hb dL_stand_20 hl (by decide) rfl (fun ls hl => ?_)
    refine lv_iconst (v := 1) hx hb dL_stand_22 (by decide) ?_
    refine W.widen (k := 1) (n := 6) (Nat.le_of_ble_eq_true rfl) (Nat.le_of_ble_eq_true rfl) ?_
    exact W.iret (v := 1) hx hb hr (fun t ht hW => ⟨⟨1, (), rfl, rfl, trivial⟩, hS.F ht⟩) hS.2.2 dL_stand_23
  exact hw.elim

def zwL_letters : List Cond := .codeWith yL_letters cL_letters 5 (some .int) [(0, 10, 13, 13), (0, 10, 17, 21)] :: (([.methodLink RL 95 yX7_letters, .instanceMethod yX7_letters, .selects RX7 yX7_letters yX7_letters, .initialized RX7, .classLink RL 13 "java/lang/IndexOutOfBoundsException"] : List Cond) ++ (zwX7_letters))
theorem zgL_letters : zwL_letters.all goodWord = true := zgo rfl (zga (by decide +kernel) (zgX7_letters))
set_option maxHeartbeats 4000000 in
set_option maxRecDepth 100000 in
theorem c_L_letters (l : Launch) (hst : l.stackTraces = false) (dC : Nat → ClassId) (dI : Nat → Nat → Nat) (sz : Nat) (x : Nat) (ax : Nat → Nat) (kx : Nat → ClassId) (o : Nat) (kO : ClassId) (fo : Nat → Int64) (a : Int32) (b : Int32) : Met l yL_letters zwL_letters ({ frames := 8, cells := 1, slots := 6, locals := 127 }) (gPcE dC dI sz [(x, .inr (10, [.ref (ax 0), .ref (ax 1), .ref (ax 2), .ref (ax 3), .ref (ax 4), .ref (ax 5), .int 0, .int 0, .int 0, .int 0, .int 0, .int 0])), ((ax 0), .inl ((kx 0), 8, .inl (fun _ => 0))), ((ax 1), .inl ((kx 1), 24, .inr (.inr (.inr (.inr (fun _ => none)))))), ((ax 2), .inl ((kx 2), 4, .inr (.inr (.inr (.inr (fun _ => none)))))), ((ax 3), .inl ((kx 3), 12, .inr (.inr (.inr (.inr (fun _ => none)))))), ((ax 4), .inl ((kx 4), 40, .inr (.inr (.inr (.inr (fun _ => none)))))), (o, .inl (kO, 1, .inr (.inl fo)))] [((kx 0), .int), ((kx 1), .object RX4), ((kx 2), .object RX5), ((kx 3), .object RX3), ((kx 4), .object RX0), (kO, .long)] [.ref x, .int a, .int b, .ref o]) (va_Qi (fun (r : Int32) (u : Unit) => r = 1) (fun u t => True) (va_A [(x, .inr (10, [.ref (ax 0), .ref (ax 1), .ref (ax 2), .ref (ax 3), .ref (ax 4), .ref (ax 5), .int 0, .int 0, .int 0, .int 0, .int 0, .int 0])), ((ax 0), .inl ((kx 0), 8, .inl (fun _ => 0))), ((ax 1), .inl ((kx 1), 24, .inr (.inr (.inr (.inr (fun _ => none)))))), ((ax 2), .inl ((kx 2), 4, .inr (.inr (.inr (.inr (fun _ => none)))))), ((ax 3), .inl ((kx 3), 12, .inr (.inr (.inr (.inr (fun _ => none)))))), ((ax 4), .inl ((kx 4), 40, .inr (.inr (.inr (.inr (fun _ => none)))))), (o, .inl (kO, 1, .inr (.inl fo)))] sz)) 1 6 (va_A [(x, .inr (10, [.ref (ax 0), .ref (ax 1), .ref (ax 2), .ref (ax 3), .ref (ax 4), .ref (ax 5), .int 0, .int 0, .int 0, .int 0, .int 0, .int 0])), ((ax 0), .inl ((kx 0), 8, .inl (fun _ => 0))), ((ax 1), .inl ((kx 1), 24, .inr (.inr (.inr (.inr (fun _ => none)))))), ((ax 2), .inl ((kx 2), 4, .inr (.inr (.inr (.inr (fun _ => none)))))), ((ax 3), .inl ((kx 3), 12, .inr (.inr (.inr (.inr (fun _ => none)))))), ((ax 4), .inl ((kx 4), 40, .inr (.inr (.inr (.inr (fun _ => none)))))), (o, .inl (kO, 1, .inr (.inl fo)))] sz) := by
  refine va_MetW (cc := cL_letters) (maxL := 5) (ret := (some .int)) (hh := [(0, 10, 13, 13), (0, 10, 17, 21)]) (by decide) rfl ?_
  intro p e s m args below meth c s₁ B hml hv
  obtain ⟨rfl, hsz, hP, hK, hD0, hE⟩ := hv
  have hx := B.exec
  have hb := B.bytes
  have hr := B.returns
  have hts := atoms_spec (ws := zwL_letters) B.pre
  have hown : s.vm.findClass RL = some m.cls := findClass_of_methodNamed B.named
  have hlocks := B.notSynchronized
  have htab : c.exceptionTable.toList = tableOf [(0, 10, 13, 13), (0, 10, 17, 21)] := vx_table (x := yL_letters) B (hts (.codeWith yL_letters cL_letters 5 (some .int) [(0, 10, 13, 13), (0, 10, 17, 21)]) List.mem_cons_self)
  subst hsz
  have hD := hD0.self (sz := s.heap.size)
  generalize hAe : va_A [(x, .inr (10, [.ref (ax 0), .ref (ax 1), .ref (ax 2), .ref (ax 3), .ref (ax 4), .ref (ax 5), .int 0, .int 0, .int 0, .int 0, .int 0, .int 0])), ((ax 0), .inl ((kx 0), 8, .inl (fun _ => 0))), ((ax 1), .inl ((kx 1), 24, .inr (.inr (.inr (.inr (fun _ => none)))))), ((ax 2), .inl ((kx 2), 4, .inr (.inr (.inr (.inr (fun _ => none)))))), ((ax 3), .inl ((kx 3), 12, .inr (.inr (.inr (.inr (fun _ => none)))))), ((ax 4), .inl ((kx 4), 40, .inr (.inr (.inr (.inr (fun _ => none)))))), (o, .inl (kO, 1, .inr (.inl fo)))] s.heap.size = A at hD hE ⊢
  have hA : ∀ q : Nat, s.heap.size ≤ q → A q := fun q h => by rw [← hAe]; exact Or.inr h
  have hS : va_S A s.heap s.heap [] := va_S.rf
  have hP : va_P (dC, dI) vwCl [(x, .inr (10, [.ref (ax 0), .ref (ax 1), .ref (ax 2), .ref (ax 3), .ref (ax 4), .ref (ax 5), .int 0, .int 0, .int 0, .int 0, .int 0, .int 0])), ((ax 0), .inl ((kx 0), 8, .inl (fun _ => 0))), ((ax 1), .inl ((kx 1), 24, .inr (.inr (.inr (.inr (fun _ => none)))))), ((ax 2), .inl ((kx 2), 4, .inr (.inr (.inr (.inr (fun _ => none)))))), ((ax 3), .inl ((kx 3), 12, .inr (.inr (.inr (.inr (fun _ => none)))))), ((ax 4), .inl ((kx 4), 40, .inr (.inr (.inr (.inr (fun _ => none)))))), (o, .inl (kO, 1, .inr (.inl fo)))] s.heap := hP
  have hl := lv_entry ([.ref x, .int a, .int b, .ref o]) (n := 5) (Nat.le_of_ble_eq_true rfl)
  rw [lg_entry_eq]
  generalize (lg_sl ([.ref x, .int a, .int b, .ref o]) ++ List.replicate (5 - (lg_sl ([.ref x, .int a, .int b, .ref o])).length) Slot.unset).toArray = ls at hl ⊢
  have hl : lv_has ls 5 [(0, .ref x), (1, .int a), (2, .int b), (3, .ref o)] := hl
  refine lv_aload_n hx hb dL_letters_0 rfl (lv_at hl 3 rfl) ?_
  refine lv_iconst (v := 0) hx hb dL_letters_1 (by decide) ?_
  refine lv_aload_n hx hb dL_letters_2 rfl (lv_at hl 0 rfl) ?_
  refine lv_iload_n hx hb dL_letters_3 rfl (lv_at hl 1 rfl) ?_
  refine lv_iload_n hx hb dL_letters_4 rfl (lv_at hl 2 rfl) ?_
  have hPc := hP.sub (ws' := xW x ax kx) [0, 1, 2, 3, 4, 5] rfl
  have hKc := hK.sub (tys' := xT kx) [0, 1, 2, 3, 4] rfl
  refine vx_calli (vx_runV (As := [.int a, .int b]) (rest := [.int 0, .ref o]) ⟨hx, hb, hml, hown, hts⟩ (c_X7_letters l hst dC dI s.heap.size x ax kx a b) (cwV 2 hts (goodIn_app (goodIn_of _ (by decide +kernel)) (goodIn_sub ((fun w h => List.mem_cons_of_mem _ (List.mem_append_right _ (h)))) zgX7_letters)) rfl rfl rfl (by decide +kernel) ⟨Nat.le_of_ble_eq_true rfl, Nat.le_of_ble_eq_true rfl⟩) ⟨xPc_blind, va_recv hK hP (ci := 10) (q0 := 0) rfl rfl, xPc_pass hPc hKc hE hS (fun q h => hA q (Nat.le_trans hS.1 h))⟩ rfl rfl hl.1 rfl (lv_room (Nat.le_of_ble_eq_true rfl)) dL_letters_5 ⟨Nat.le_of_ble_eq_true rfl, Nat.le_of_ble_eq_true rfl⟩) hS (fun q _ h => hA q (Nat.le_trans hS.1 h)) (fun q h => hA q (Nat.le_trans hS.1 h)) (fun q _ h => hA q (Nat.le_trans hS.1 h)) (fun E ce q9 _ t H locs ht hvm hpx hBX hz hk hS hcell hv hcl => ?_) (fun r_1 u t H locs ht hvm hw hB hz hk hS => ?_)
  · have hBX : E = "java/lang/IndexOutOfBoundsException" := hBX
    subst hBX
    have hP := zkn hP hk
    refine vx_catch (own := RL) (name := "java/lang/IndexOutOfBoundsException") hown [] ⟨0, 10, 13, 13⟩ [⟨0, 10, 17, 21⟩] (htab.trans rfl) (fun z hz => nomatch hz) (by decide) (by decide) (hts (.classLink RL 13 "java/lang/IndexOutOfBoundsException") (by decide +kernel)) (va_Nw.use rfl (hE.2.2.2.1 _ (by decide))) hcell hv hcl ?_
    refine W.eq (g2 := F0 m 13 ls [.ref q9]) rfl ?_
    refine lv_astore (lv' := [(4, .ref q9), (0, .ref x), (1, .int a), (2, .int b), (3, .ref o)]) hx hb dL_letters_13 hl (by decide) rfl (fun ls hl => ?_)
    refine lv_iconst (v := 1) hx hb dL_letters_15 (by decide) ?_
    refine W.widen (k := 1) (n := 6) (Nat.le_of_ble_eq_true rfl) (Nat.le_of_ble_eq_true rfl) ?_
    exact W.iret (v := 1) hx hb hr (fun t ht hW => ⟨⟨1, (), rfl, rfl, trivial⟩, hS.F ht⟩) hS.2.2 dL_letters_16
  exact hw.elim

def zwL_die : List Cond := .codeWith yL_die cL_die 5 (some .int) [(0, 17, 20, 13)] :: (([.methodLink RL 99 yX7_die, .instanceMethod yX7_die, .selects RX7 yX7_die yX7_die, .initialized RX7, .classLink RL 13 "java/lang/IndexOutOfBoundsException"] : List Cond) ++ (zwX7_die))
theorem zgL_die : zwL_die.all goodWord = true := zgo rfl (zga (by decide +kernel) (zgX7_die))
set_option maxHeartbeats 4000000 in
set_option maxRecDepth 100000 in
theorem c_L_die (l : Launch) (hst : l.stackTraces = false) (dC : Nat → ClassId) (dI : Nat → Nat → Nat) (sz : Nat) (x : Nat) (ax : Nat → Nat) (kx : Nat → ClassId) (o : Nat) (kO : ClassId) (fo : Nat → Int64) (a : Int32) (b : Int32) : Met l yL_die zwL_die ({ frames := 8, cells := 1, slots := 6, locals := 128 }) (gPcE dC dI sz [(x, .inr (10, [.ref (ax 0), .ref (ax 1), .ref (ax 2), .ref (ax 3), .ref (ax 4), .ref (ax 5), .int 0, .int 0, .int 0, .int 0, .int 0, .int 0])), ((ax 0), .inl ((kx 0), 8, .inl (fun _ => 0))), ((ax 1), .inl ((kx 1), 24, .inr (.inr (.inr (.inr (fun _ => none)))))), ((ax 2), .inl ((kx 2), 4, .inr (.inr (.inr (.inr (fun _ => none)))))), ((ax 3), .inl ((kx 3), 12, .inr (.inr (.inr (.inr (fun _ => none)))))), ((ax 4), .inl ((kx 4), 40, .inr (.inr (.inr (.inr (fun _ => none)))))), (o, .inl (kO, 1, .inr (.inl fo)))] [((kx 0), .int), ((kx 1), .object RX4), ((kx 2), .object RX5), ((kx 3), .object RX3), ((kx 4), .object RX0), (kO, .long)] [.ref x, .int a, .int b, .ref o]) (va_Qi (fun (r : Int32) (u : Unit) => r = 1) (fun u t => True) (va_A [(x, .inr (10, [.ref (ax 0), .ref (ax 1), .ref (ax 2), .ref (ax 3), .ref (ax 4), .ref (ax 5), .int 0, .int 0, .int 0, .int 0, .int 0, .int 0])), ((ax 0), .inl ((kx 0), 8, .inl (fun _ => 0))), ((ax 1), .inl ((kx 1), 24, .inr (.inr (.inr (.inr (fun _ => none)))))), ((ax 2), .inl ((kx 2), 4, .inr (.inr (.inr (.inr (fun _ => none)))))), ((ax 3), .inl ((kx 3), 12, .inr (.inr (.inr (.inr (fun _ => none)))))), ((ax 4), .inl ((kx 4), 40, .inr (.inr (.inr (.inr (fun _ => none)))))), (o, .inl (kO, 1, .inr (.inl fo)))] sz)) 1 6 (va_A [(x, .inr (10, [.ref (ax 0), .ref (ax 1), .ref (ax 2), .ref (ax 3), .ref (ax 4), .ref (ax 5), .int 0, .int 0, .int 0, .int 0, .int 0, .int 0])), ((ax 0), .inl ((kx 0), 8, .inl (fun _ => 0))), ((ax 1), .inl ((kx 1), 24, .inr (.inr (.inr (.inr (fun _ => none)))))), ((ax 2), .inl ((kx 2), 4, .inr (.inr (.inr (.inr (fun _ => none)))))), ((ax 3), .inl ((kx 3), 12, .inr (.inr (.inr (.inr (fun _ => none)))))), ((ax 4), .inl ((kx 4), 40, .inr (.inr (.inr (.inr (fun _ => none)))))), (o, .inl (kO, 1, .inr (.inl fo)))] sz) := by
  refine va_MetW (cc := cL_die) (maxL := 5) (ret := (some .int)) (hh := [(0, 17, 20, 13)]) (by decide) rfl ?_
  intro p e s m args below meth c s₁ B hml hv
  obtain ⟨rfl, hsz, hP, hK, hD0, hE⟩ := hv
  have hx := B.exec
  have hb := B.bytes
  have hr := B.returns
  have hts := atoms_spec (ws := zwL_die) B.pre
  have hown : s.vm.findClass RL = some m.cls := findClass_of_methodNamed B.named
  have hlocks := B.notSynchronized
  have htab : c.exceptionTable.toList = tableOf [(0, 17, 20, 13)] := vx_table (x := yL_die) B (hts (.codeWith yL_die cL_die 5 (some .int) [(0, 17, 20, 13)]) List.mem_cons_self)
  subst hsz
  have hD := hD0.self (sz := s.heap.size)
  generalize hAe : va_A [(x, .inr (10, [.ref (ax 0), .ref (ax 1), .ref (ax 2), .ref (ax 3), .ref (ax 4), .ref (ax 5), .int 0, .int 0, .int 0, .int 0, .int 0, .int 0])), ((ax 0), .inl ((kx 0), 8, .inl (fun _ => 0))), ((ax 1), .inl ((kx 1), 24, .inr (.inr (.inr (.inr (fun _ => none)))))), ((ax 2), .inl ((kx 2), 4, .inr (.inr (.inr (.inr (fun _ => none)))))), ((ax 3), .inl ((kx 3), 12, .inr (.inr (.inr (.inr (fun _ => none)))))), ((ax 4), .inl ((kx 4), 40, .inr (.inr (.inr (.inr (fun _ => none)))))), (o, .inl (kO, 1, .inr (.inl fo)))] s.heap.size = A at hD hE ⊢
  have hA : ∀ q : Nat, s.heap.size ≤ q → A q := fun q h => by rw [← hAe]; exact Or.inr h
  have hS : va_S A s.heap s.heap [] := va_S.rf
  have hP : va_P (dC, dI) vwCl [(x, .inr (10, [.ref (ax 0), .ref (ax 1), .ref (ax 2), .ref (ax 3), .ref (ax 4), .ref (ax 5), .int 0, .int 0, .int 0, .int 0, .int 0, .int 0])), ((ax 0), .inl ((kx 0), 8, .inl (fun _ => 0))), ((ax 1), .inl ((kx 1), 24, .inr (.inr (.inr (.inr (fun _ => none)))))), ((ax 2), .inl ((kx 2), 4, .inr (.inr (.inr (.inr (fun _ => none)))))), ((ax 3), .inl ((kx 3), 12, .inr (.inr (.inr (.inr (fun _ => none)))))), ((ax 4), .inl ((kx 4), 40, .inr (.inr (.inr (.inr (fun _ => none)))))), (o, .inl (kO, 1, .inr (.inl fo)))] s.heap := hP
  have hl := lv_entry ([.ref x, .int a, .int b, .ref o]) (n := 5) (Nat.le_of_ble_eq_true rfl)
  rw [lg_entry_eq]
  generalize (lg_sl ([.ref x, .int a, .int b, .ref o]) ++ List.replicate (5 - (lg_sl ([.ref x, .int a, .int b, .ref o])).length) Slot.unset).toArray = ls at hl ⊢
  have hl : lv_has ls 5 [(0, .ref x), (1, .int a), (2, .int b), (3, .ref o)] := hl
  refine lv_aload_n hx hb dL_die_0 rfl (lv_at hl 3 rfl) ?_
  refine lv_iconst (v := 0) hx hb dL_die_1 (by decide) ?_
  refine lv_aload_n hx hb dL_die_2 rfl (lv_at hl 0 rfl) ?_
  refine lv_iload_n hx hb dL_die_3 rfl (lv_at hl 1 rfl) ?_
  refine lv_iload_n hx hb dL_die_4 rfl (lv_at hl 2 rfl) ?_
  have hPc := hP.sub (ws' := xW x ax kx) [0, 1, 2, 3, 4, 5] rfl
  have hKc := hK.sub (tys' := xT kx) [0, 1, 2, 3, 4] rfl
  refine vx_calli (vx_runV (As := [.int a, .int b]) (rest := [.int 0, .ref o]) ⟨hx, hb, hml, hown, hts⟩ (c_X7_die l hst dC dI s.heap.size x ax kx a b) (cwV 2 hts (goodIn_app (goodIn_of _ (by decide +kernel)) (goodIn_sub ((fun w h => List.mem_cons_of_mem _ (List.mem_append_right _ (h)))) zgX7_die)) rfl rfl rfl (by decide +kernel) ⟨Nat.le_of_ble_eq_true rfl, Nat.le_of_ble_eq_true rfl⟩) ⟨xPc_blind, va_recv hK hP (ci := 10) (q0 := 0) rfl rfl, xPc_pass hPc hKc hE hS (fun q h => hA q (Nat.le_trans hS.1 h))⟩ rfl rfl hl.1 rfl (lv_room (Nat.le_of_ble_eq_true rfl)) dL_die_5 ⟨Nat.le_of_ble_eq_true rfl, Nat.le_of_ble_eq_true rfl⟩) hS (fun q _ h => hA q (Nat.le_trans hS.1 h)) (fun q h => hA q (Nat.le_trans hS.1 h)) (fun q _ h => hA q (Nat.le_trans hS.1 h)) (fun E ce q9 _ t H locs ht hvm hpx hBX hz hk hS hcell hv hcl => ?_) (fun r_1 u t H locs ht hvm hw hB hz hk hS => ?_)
  · have hBX : E = "java/lang/IndexOutOfBoundsException" := hBX
    subst hBX
    have hP := zkn hP hk
    refine vx_catch (own := RL) (name := "java/lang/IndexOutOfBoundsException") hown [] ⟨0, 17, 20, 13⟩ [] (htab.trans rfl) (fun z hz => nomatch hz) (by decide) (by decide) (hts (.classLink RL 13 "java/lang/IndexOutOfBoundsException") (by decide +kernel)) (va_Nw.use rfl (hE.2.2.2.1 _ (by decide))) hcell hv hcl ?_
    refine W.eq (g2 := F0 m 20 ls [.ref q9]) rfl ?_
    refine lv_astore (lv' := [(4, .ref q9), (0, .ref x), (1, .int a), (2, .int b), (3, .ref o)]) hx hb dL_die_20 hl (by decide) rfl (fun ls hl => ?_)
    refine lv_iconst (v := 1) hx hb dL_die_22 (by decide) ?_
    refine W.widen (k := 1) (n := 6) (Nat.le_of_ble_eq_true rfl) (Nat.le_of_ble_eq_true rfl) ?_
    exact W.iret (v := 1) hx hb hr (fun t ht hW => ⟨⟨1, (), rfl, rfl, trivial⟩, hS.F ht⟩) hS.2.2 dL_die_23
  exact hw.elim

def zwL_standIn : List Cond := .codeWith yL_standIn cL_standIn 5 (some .int) [(0, 10, 13, 13), (0, 10, 17, 21)] :: (([.methodLink RL 102 yX7_standIn, .instanceMethod yX7_standIn, .selects RX7 yX7_standIn yX7_standIn, .initialized RX7, .classLink RL 13 "java/lang/IndexOutOfBoundsException"] : List Cond) ++ (zwX7_standIn))
theorem zgL_standIn : zwL_standIn.all goodWord = true := zgo rfl (zga (by decide +kernel) (zgX7_standIn))
set_option maxHeartbeats 4000000 in
set_option maxRecDepth 100000 in
theorem c_L_standIn (l : Launch) (hst : l.stackTraces = false) (dC : Nat → ClassId) (dI : Nat → Nat → Nat) (sz : Nat) (x : Nat) (ax : Nat → Nat) (kx : Nat → ClassId) (o : Nat) (kO : ClassId) (fo : Nat → Int64) (a : Int32) (b : Int32) : Met l yL_standIn zwL_standIn ({ frames := 8, cells := 1, slots := 6, locals := 128 }) (gPcE dC dI sz [(x, .inr (10, [.ref (ax 0), .ref (ax 1), .ref (ax 2), .ref (ax 3), .ref (ax 4), .ref (ax 5), .int 0, .int 0, .int 0, .int 0, .int 0, .int 0])), ((ax 0), .inl ((kx 0), 8, .inl (fun _ => 0))), ((ax 1), .inl ((kx 1), 24, .inr (.inr (.inr (.inr (fun _ => none)))))), ((ax 2), .inl ((kx 2), 4, .inr (.inr (.inr (.inr (fun _ => none)))))), ((ax 3), .inl ((kx 3), 12, .inr (.inr (.inr (.inr (fun _ => none)))))), ((ax 4), .inl ((kx 4), 40, .inr (.inr (.inr (.inr (fun _ => none)))))), (o, .inl (kO, 1, .inr (.inl fo)))] [((kx 0), .int), ((kx 1), .object RX4), ((kx 2), .object RX5), ((kx 3), .object RX3), ((kx 4), .object RX0), (kO, .long)] [.ref x, .int a, .int b, .ref o]) (va_Qi (fun (r : Int32) (u : Unit) => r = 1) (fun u t => True) (va_A [(x, .inr (10, [.ref (ax 0), .ref (ax 1), .ref (ax 2), .ref (ax 3), .ref (ax 4), .ref (ax 5), .int 0, .int 0, .int 0, .int 0, .int 0, .int 0])), ((ax 0), .inl ((kx 0), 8, .inl (fun _ => 0))), ((ax 1), .inl ((kx 1), 24, .inr (.inr (.inr (.inr (fun _ => none)))))), ((ax 2), .inl ((kx 2), 4, .inr (.inr (.inr (.inr (fun _ => none)))))), ((ax 3), .inl ((kx 3), 12, .inr (.inr (.inr (.inr (fun _ => none)))))), ((ax 4), .inl ((kx 4), 40, .inr (.inr (.inr (.inr (fun _ => none)))))), (o, .inl (kO, 1, .inr (.inl fo)))] sz)) 1 6 (va_A [(x, .inr (10, [.ref (ax 0), .ref (ax 1), .ref (ax 2), .ref (ax 3), .ref (ax 4), .ref (ax 5), .int 0, .int 0, .int 0, .int 0, .int 0, .int 0])), ((ax 0), .inl ((kx 0), 8, .inl (fun _ => 0))), ((ax 1), .inl ((kx 1), 24, .inr (.inr (.inr (.inr (fun _ => none)))))), ((ax 2), .inl ((kx 2), 4, .inr (.inr (.inr (.inr (fun _ => none)))))), ((ax 3), .inl ((kx 3), 12, .inr (.inr (.inr (.inr (fun _ => none)))))), ((ax 4), .inl ((kx 4), 40, .inr (.inr (.inr (.inr (fun _ => none)))))), (o, .inl (kO, 1, .inr (.inl fo)))] sz) := by
  refine va_MetW (cc := cL_standIn) (maxL := 5) (ret := (some .int)) (hh := [(0, 10, 13, 13), (0, 10, 17, 21)]) (by decide) rfl ?_
  intro p e s m args below meth c s₁ B hml hv
  obtain ⟨rfl, hsz, hP, hK, hD0, hE⟩ := hv
  have hx := B.exec
  have hb := B.bytes
  have hr := B.returns
  have hts := atoms_spec (ws := zwL_standIn) B.pre
  have hown : s.vm.findClass RL = some m.cls := findClass_of_methodNamed B.named
  have hlocks := B.notSynchronized
  have htab : c.exceptionTable.toList = tableOf [(0, 10, 13, 13), (0, 10, 17, 21)] := vx_table (x := yL_standIn) B (hts (.codeWith yL_standIn cL_standIn 5 (some .int) [(0, 10, 13, 13), (0, 10, 17, 21)]) List.mem_cons_self)
  subst hsz
  have hD := hD0.self (sz := s.heap.size)
  generalize hAe : va_A [(x, .inr (10, [.ref (ax 0), .ref (ax 1), .ref (ax 2), .ref (ax 3), .ref (ax 4), .ref (ax 5), .int 0, .int 0, .int 0, .int 0, .int 0, .int 0])), ((ax 0), .inl ((kx 0), 8, .inl (fun _ => 0))), ((ax 1), .inl ((kx 1), 24, .inr (.inr (.inr (.inr (fun _ => none)))))), ((ax 2), .inl ((kx 2), 4, .inr (.inr (.inr (.inr (fun _ => none)))))), ((ax 3), .inl ((kx 3), 12, .inr (.inr (.inr (.inr (fun _ => none)))))), ((ax 4), .inl ((kx 4), 40, .inr (.inr (.inr (.inr (fun _ => none)))))), (o, .inl (kO, 1, .inr (.inl fo)))] s.heap.size = A at hD hE ⊢
  have hA : ∀ q : Nat, s.heap.size ≤ q → A q := fun q h => by rw [← hAe]; exact Or.inr h
  have hS : va_S A s.heap s.heap [] := va_S.rf
  have hP : va_P (dC, dI) vwCl [(x, .inr (10, [.ref (ax 0), .ref (ax 1), .ref (ax 2), .ref (ax 3), .ref (ax 4), .ref (ax 5), .int 0, .int 0, .int 0, .int 0, .int 0, .int 0])), ((ax 0), .inl ((kx 0), 8, .inl (fun _ => 0))), ((ax 1), .inl ((kx 1), 24, .inr (.inr (.inr (.inr (fun _ => none)))))), ((ax 2), .inl ((kx 2), 4, .inr (.inr (.inr (.inr (fun _ => none)))))), ((ax 3), .inl ((kx 3), 12, .inr (.inr (.inr (.inr (fun _ => none)))))), ((ax 4), .inl ((kx 4), 40, .inr (.inr (.inr (.inr (fun _ => none)))))), (o, .inl (kO, 1, .inr (.inl fo)))] s.heap := hP
  have hl := lv_entry ([.ref x, .int a, .int b, .ref o]) (n := 5) (Nat.le_of_ble_eq_true rfl)
  rw [lg_entry_eq]
  generalize (lg_sl ([.ref x, .int a, .int b, .ref o]) ++ List.replicate (5 - (lg_sl ([.ref x, .int a, .int b, .ref o])).length) Slot.unset).toArray = ls at hl ⊢
  have hl : lv_has ls 5 [(0, .ref x), (1, .int a), (2, .int b), (3, .ref o)] := hl
  refine lv_aload_n hx hb dL_standIn_0 rfl (lv_at hl 3 rfl) ?_
  refine lv_iconst (v := 0) hx hb dL_standIn_1 (by decide) ?_
  refine lv_aload_n hx hb dL_standIn_2 rfl (lv_at hl 0 rfl) ?_
  refine lv_iload_n hx hb dL_standIn_3 rfl (lv_at hl 1 rfl) ?_
  refine lv_iload_n hx hb dL_standIn_4 rfl (lv_at hl 2 rfl) ?_
  have hPc := hP.sub (ws' := xW x ax kx) [0, 1, 2, 3, 4, 5] rfl
  have hKc := hK.sub (tys' := xT kx) [0, 1, 2, 3, 4] rfl
  refine vx_calli (vx_runV (As := [.int a, .int b]) (rest := [.int 0, .ref o]) ⟨hx, hb, hml, hown, hts⟩ (c_X7_standIn l hst dC dI s.heap.size x ax kx a b) (cwV 2 hts (goodIn_app (goodIn_of _ (by decide +kernel)) (goodIn_sub ((fun w h => List.mem_cons_of_mem _ (List.mem_append_right _ (h)))) zgX7_standIn)) rfl rfl rfl (by decide +kernel) ⟨Nat.le_of_ble_eq_true rfl, Nat.le_of_ble_eq_true rfl⟩) ⟨xPc_blind, va_recv hK hP (ci := 10) (q0 := 0) rfl rfl, xPc_pass hPc hKc hE hS (fun q h => hA q (Nat.le_trans hS.1 h))⟩ rfl rfl hl.1 rfl (lv_room (Nat.le_of_ble_eq_true rfl)) dL_standIn_5 ⟨Nat.le_of_ble_eq_true rfl, Nat.le_of_ble_eq_true rfl⟩) hS (fun q _ h => hA q (Nat.le_trans hS.1 h)) (fun q h => hA q (Nat.le_trans hS.1 h)) (fun q _ h => hA q (Nat.le_trans hS.1 h)) (fun E ce q9 _ t H locs ht hvm hpx hBX hz hk hS hcell hv hcl => ?_) (fun r_1 u t H locs ht hvm hw hB hz hk hS => ?_)
  · have hBX : E = "java/lang/IndexOutOfBoundsException" := hBX
    subst hBX
    have hP := zkn hP hk
    refine vx_catch (own := RL) (name := "java/lang/IndexOutOfBoundsException") hown [] ⟨0, 10, 13, 13⟩ [⟨0, 10, 17, 21⟩] (htab.trans rfl) (fun z hz => nomatch hz) (by decide) (by decide) (hts (.classLink RL 13 "java/lang/IndexOutOfBoundsException") (by decide +kernel)) (va_Nw.use rfl (hE.2.2.2.1 _ (by decide))) hcell hv hcl ?_
    refine W.eq (g2 := F0 m 13 ls [.ref q9]) rfl ?_
    refine lv_astore (lv' := [(4, .ref q9), (0, .ref x), (1, .int a), (2, .int b), (3, .ref o)]) hx hb dL_standIn_13 hl (by decide) rfl (fun ls hl => ?_)
    refine lv_iconst (v := 1) hx hb dL_standIn_15 (by decide) ?_
    refine W.widen (k := 1) (n := 6) (Nat.le_of_ble_eq_true rfl) (Nat.le_of_ble_eq_true rfl) ?_
    exact W.iret (v := 1) hx hb hr (fun t ht hW => ⟨⟨1, (), rfl, rfl, trivial⟩, hS.F ht⟩) hS.2.2 dL_standIn_16
  exact hw.elim

def zwL_wear : List Cond := .codeWith yL_wear cL_wear 4 (some .int) [(0, 9, 12, 13)] :: (([.methodLink RL 105 yX7_wear, .instanceMethod yX7_wear, .selects RX7 yX7_wear yX7_wear, .initialized RX7, .classLink RL 13 "java/lang/IndexOutOfBoundsException"] : List Cond) ++ (zwX7_wear))
theorem zgL_wear : zwL_wear.all goodWord = true := zgo rfl (zga (by decide +kernel) (zgX7_wear))
set_option maxHeartbeats 4000000 in
set_option maxRecDepth 100000 in
theorem c_L_wear (l : Launch) (hst : l.stackTraces = false) (dC : Nat → ClassId) (dI : Nat → Nat → Nat) (sz : Nat) (x : Nat) (ax : Nat → Nat) (kx : Nat → ClassId) (o : Nat) (kO : ClassId) (fo : Nat → Int64) (a : Int32) : Met l yL_wear zwL_wear ({ frames := 8, cells := 1, slots := 6, locals := 125 }) (gPcE dC dI sz [(x, .inr (10, [.ref (ax 0), .ref (ax 1), .ref (ax 2), .ref (ax 3), .ref (ax 4), .ref (ax 5), .int 0, .int 0, .int 0, .int 0, .int 0, .int 0])), ((ax 0), .inl ((kx 0), 8, .inl (fun _ => 0))), ((ax 1), .inl ((kx 1), 24, .inr (.inr (.inr (.inr (fun _ => none)))))), ((ax 2), .inl ((kx 2), 4, .inr (.inr (.inr (.inr (fun _ => none)))))), ((ax 3), .inl ((kx 3), 12, .inr (.inr (.inr (.inr (fun _ => none)))))), ((ax 4), .inl ((kx 4), 40, .inr (.inr (.inr (.inr (fun _ => none)))))), (o, .inl (kO, 1, .inr (.inl fo)))] [((kx 0), .int), ((kx 1), .object RX4), ((kx 2), .object RX5), ((kx 3), .object RX3), ((kx 4), .object RX0), (kO, .long)] [.ref x, .int a, .ref o]) (va_Qi (fun (r : Int32) (u : Unit) => r = 1) (fun u t => True) (va_A [(x, .inr (10, [.ref (ax 0), .ref (ax 1), .ref (ax 2), .ref (ax 3), .ref (ax 4), .ref (ax 5), .int 0, .int 0, .int 0, .int 0, .int 0, .int 0])), ((ax 0), .inl ((kx 0), 8, .inl (fun _ => 0))), ((ax 1), .inl ((kx 1), 24, .inr (.inr (.inr (.inr (fun _ => none)))))), ((ax 2), .inl ((kx 2), 4, .inr (.inr (.inr (.inr (fun _ => none)))))), ((ax 3), .inl ((kx 3), 12, .inr (.inr (.inr (.inr (fun _ => none)))))), ((ax 4), .inl ((kx 4), 40, .inr (.inr (.inr (.inr (fun _ => none)))))), (o, .inl (kO, 1, .inr (.inl fo)))] sz)) 1 6 (va_A [(x, .inr (10, [.ref (ax 0), .ref (ax 1), .ref (ax 2), .ref (ax 3), .ref (ax 4), .ref (ax 5), .int 0, .int 0, .int 0, .int 0, .int 0, .int 0])), ((ax 0), .inl ((kx 0), 8, .inl (fun _ => 0))), ((ax 1), .inl ((kx 1), 24, .inr (.inr (.inr (.inr (fun _ => none)))))), ((ax 2), .inl ((kx 2), 4, .inr (.inr (.inr (.inr (fun _ => none)))))), ((ax 3), .inl ((kx 3), 12, .inr (.inr (.inr (.inr (fun _ => none)))))), ((ax 4), .inl ((kx 4), 40, .inr (.inr (.inr (.inr (fun _ => none)))))), (o, .inl (kO, 1, .inr (.inl fo)))] sz) := by
  refine va_MetW (cc := cL_wear) (maxL := 4) (ret := (some .int)) (hh := [(0, 9, 12, 13)]) (by decide) rfl ?_
  intro p e s m args below meth c s₁ B hml hv
  obtain ⟨rfl, hsz, hP, hK, hD0, hE⟩ := hv
  have hx := B.exec
  have hb := B.bytes
  have hr := B.returns
  have hts := atoms_spec (ws := zwL_wear) B.pre
  have hown : s.vm.findClass RL = some m.cls := findClass_of_methodNamed B.named
  have hlocks := B.notSynchronized
  have htab : c.exceptionTable.toList = tableOf [(0, 9, 12, 13)] := vx_table (x := yL_wear) B (hts (.codeWith yL_wear cL_wear 4 (some .int) [(0, 9, 12, 13)]) List.mem_cons_self)
  subst hsz
  have hD := hD0.self (sz := s.heap.size)
  generalize hAe : va_A [(x, .inr (10, [.ref (ax 0), .ref (ax 1), .ref (ax 2), .ref (ax 3), .ref (ax 4), .ref (ax 5), .int 0, .int 0, .int 0, .int 0, .int 0, .int 0])), ((ax 0), .inl ((kx 0), 8, .inl (fun _ => 0))), ((ax 1), .inl ((kx 1), 24, .inr (.inr (.inr (.inr (fun _ => none)))))), ((ax 2), .inl ((kx 2), 4, .inr (.inr (.inr (.inr (fun _ => none)))))), ((ax 3), .inl ((kx 3), 12, .inr (.inr (.inr (.inr (fun _ => none)))))), ((ax 4), .inl ((kx 4), 40, .inr (.inr (.inr (.inr (fun _ => none)))))), (o, .inl (kO, 1, .inr (.inl fo)))] s.heap.size = A at hD hE ⊢
  have hA : ∀ q : Nat, s.heap.size ≤ q → A q := fun q h => by rw [← hAe]; exact Or.inr h
  have hS : va_S A s.heap s.heap [] := va_S.rf
  have hP : va_P (dC, dI) vwCl [(x, .inr (10, [.ref (ax 0), .ref (ax 1), .ref (ax 2), .ref (ax 3), .ref (ax 4), .ref (ax 5), .int 0, .int 0, .int 0, .int 0, .int 0, .int 0])), ((ax 0), .inl ((kx 0), 8, .inl (fun _ => 0))), ((ax 1), .inl ((kx 1), 24, .inr (.inr (.inr (.inr (fun _ => none)))))), ((ax 2), .inl ((kx 2), 4, .inr (.inr (.inr (.inr (fun _ => none)))))), ((ax 3), .inl ((kx 3), 12, .inr (.inr (.inr (.inr (fun _ => none)))))), ((ax 4), .inl ((kx 4), 40, .inr (.inr (.inr (.inr (fun _ => none)))))), (o, .inl (kO, 1, .inr (.inl fo)))] s.heap := hP
  have hl := lv_entry ([.ref x, .int a, .ref o]) (n := 4) (Nat.le_of_ble_eq_true rfl)
  rw [lg_entry_eq]
  generalize (lg_sl ([.ref x, .int a, .ref o]) ++ List.replicate (4 - (lg_sl ([.ref x, .int a, .ref o])).length) Slot.unset).toArray = ls at hl ⊢
  have hl : lv_has ls 4 [(0, .ref x), (1, .int a), (2, .ref o)] := hl
  refine lv_aload_n hx hb dL_wear_0 rfl (lv_at hl 2 rfl) ?_
  refine lv_iconst (v := 0) hx hb dL_wear_1 (by decide) ?_
  refine lv_aload_n hx hb dL_wear_2 rfl (lv_at hl 0 rfl) ?_
  refine lv_iload_n hx hb dL_wear_3 rfl (lv_at hl 1 rfl) ?_
  have hPc := hP.sub (ws' := xW x ax kx) [0, 1, 2, 3, 4, 5] rfl
  have hKc := hK.sub (tys' := xT kx) [0, 1, 2, 3, 4] rfl
  refine vx_calli (vx_runV (As := [.int a]) (rest := [.int 0, .ref o]) ⟨hx, hb, hml, hown, hts⟩ (c_X7_wear l hst dC dI s.heap.size x ax kx a) (cwV 1 hts (goodIn_app (goodIn_of _ (by decide +kernel)) (goodIn_sub ((fun w h => List.mem_cons_of_mem _ (List.mem_append_right _ (h)))) zgX7_wear)) rfl rfl rfl (by decide +kernel) ⟨Nat.le_of_ble_eq_true rfl, Nat.le_of_ble_eq_true rfl⟩) ⟨xPc_blind, va_recv hK hP (ci := 10) (q0 := 0) rfl rfl, xPc_pass hPc hKc hE hS (fun q h => hA q (Nat.le_trans hS.1 h))⟩ rfl rfl hl.1 rfl (lv_room (Nat.le_of_ble_eq_true rfl)) dL_wear_4 ⟨Nat.le_of_ble_eq_true rfl, Nat.le_of_ble_eq_true rfl⟩) hS (fun q _ h => hA q (Nat.le_trans hS.1 h)) (fun q h => hA q (Nat.le_trans hS.1 h)) (fun q _ h => hA q (Nat.le_trans hS.1 h)) (fun E ce q9 _ t H locs ht hvm hpx hBX hz hk hS hcell hv hcl => ?_) (fun r_1 u t H locs ht hvm hw hB hz hk hS => ?_)
  · have hBX : E = "java/lang/IndexOutOfBoundsException" := hBX
    subst hBX
    have hP := zkn hP hk
    refine vx_catch (own := RL) (name := "java/lang/IndexOutOfBoundsException") hown [] ⟨0, 9, 12, 13⟩ [] (htab.trans rfl) (fun z hz => nomatch hz) (by decide) (by decide) (hts (.classLink RL 13 "java/lang/IndexOutOfBoundsException") (by decide +kernel)) (va_Nw.use rfl (hE.2.2.2.1 _ (by decide))) hcell hv hcl ?_
    refine W.eq (g2 := F0 m 12 ls [.ref q9]) rfl ?_
    refine lv_astore_n (lv' := [(3, .ref q9), (0, .ref x), (1, .int a), (2, .ref o)]) hx hb dL_wear_12 rfl hl (by decide) rfl (fun ls hl => ?_)
    refine lv_iconst (v := 1) hx hb dL_wear_13 (by decide) ?_
    refine W.widen (k := 1) (n := 6) (Nat.le_of_ble_eq_true rfl) (Nat.le_of_ble_eq_true rfl) ?_
    exact W.iret (v := 1) hx hb hr (fun t ht hW => ⟨⟨1, (), rfl, rfl, trivial⟩, hS.F ht⟩) hS.2.2 dL_wear_14
  exact hw.elim

def zwL_dress : List Cond := .codeWith yL_dress cL_dress 4 (some .int) [(0, 9, 12, 13), (0, 9, 15, 23)] :: (([.methodLink RL 108 yX7_dress, .instanceMethod yX7_dress, .selects RX7 yX7_dress yX7_dress, .initialized RX7, .classLink RL 13 "java/lang/IndexOutOfBoundsException"] : List Cond) ++ (zwX7_dress))
theorem zgL_dress : zwL_dress.all goodWord = true := zgo rfl (zga (by decide +kernel) (zgX7_dress))
set_option maxHeartbeats 4000000 in
set_option maxRecDepth 100000 in
theorem c_L_dress (l : Launch) (hst : l.stackTraces = false) (dC : Nat → ClassId) (dI : Nat → Nat → Nat) (sz : Nat) (x : Nat) (ax : Nat → Nat) (kx : Nat → ClassId) (o : Nat) (kO : ClassId) (fo : Nat → Int64) (a : Int32) : Met l yL_dress zwL_dress ({ frames := 8, cells := 1, slots := 6, locals := 126 }) (gPcE dC dI sz [(x, .inr (10, [.ref (ax 0), .ref (ax 1), .ref (ax 2), .ref (ax 3), .ref (ax 4), .ref (ax 5), .int 0, .int 0, .int 0, .int 0, .int 0, .int 0])), ((ax 0), .inl ((kx 0), 8, .inl (fun _ => 0))), ((ax 1), .inl ((kx 1), 24, .inr (.inr (.inr (.inr (fun _ => none)))))), ((ax 2), .inl ((kx 2), 4, .inr (.inr (.inr (.inr (fun _ => none)))))), ((ax 3), .inl ((kx 3), 12, .inr (.inr (.inr (.inr (fun _ => none)))))), ((ax 4), .inl ((kx 4), 40, .inr (.inr (.inr (.inr (fun _ => none)))))), (o, .inl (kO, 1, .inr (.inl fo)))] [((kx 0), .int), ((kx 1), .object RX4), ((kx 2), .object RX5), ((kx 3), .object RX3), ((kx 4), .object RX0), (kO, .long)] [.ref x, .int a, .ref o]) (va_Qi (fun (r : Int32) (u : Unit) => r = 1) (fun u t => True) (va_A [(x, .inr (10, [.ref (ax 0), .ref (ax 1), .ref (ax 2), .ref (ax 3), .ref (ax 4), .ref (ax 5), .int 0, .int 0, .int 0, .int 0, .int 0, .int 0])), ((ax 0), .inl ((kx 0), 8, .inl (fun _ => 0))), ((ax 1), .inl ((kx 1), 24, .inr (.inr (.inr (.inr (fun _ => none)))))), ((ax 2), .inl ((kx 2), 4, .inr (.inr (.inr (.inr (fun _ => none)))))), ((ax 3), .inl ((kx 3), 12, .inr (.inr (.inr (.inr (fun _ => none)))))), ((ax 4), .inl ((kx 4), 40, .inr (.inr (.inr (.inr (fun _ => none)))))), (o, .inl (kO, 1, .inr (.inl fo)))] sz)) 1 6 (va_A [(x, .inr (10, [.ref (ax 0), .ref (ax 1), .ref (ax 2), .ref (ax 3), .ref (ax 4), .ref (ax 5), .int 0, .int 0, .int 0, .int 0, .int 0, .int 0])), ((ax 0), .inl ((kx 0), 8, .inl (fun _ => 0))), ((ax 1), .inl ((kx 1), 24, .inr (.inr (.inr (.inr (fun _ => none)))))), ((ax 2), .inl ((kx 2), 4, .inr (.inr (.inr (.inr (fun _ => none)))))), ((ax 3), .inl ((kx 3), 12, .inr (.inr (.inr (.inr (fun _ => none)))))), ((ax 4), .inl ((kx 4), 40, .inr (.inr (.inr (.inr (fun _ => none)))))), (o, .inl (kO, 1, .inr (.inl fo)))] sz) := by
  refine va_MetW (cc := cL_dress) (maxL := 4) (ret := (some .int)) (hh := [(0, 9, 12, 13), (0, 9, 15, 23)]) (by decide) rfl ?_
  intro p e s m args below meth c s₁ B hml hv
  obtain ⟨rfl, hsz, hP, hK, hD0, hE⟩ := hv
  have hx := B.exec
  have hb := B.bytes
  have hr := B.returns
  have hts := atoms_spec (ws := zwL_dress) B.pre
  have hown : s.vm.findClass RL = some m.cls := findClass_of_methodNamed B.named
  have hlocks := B.notSynchronized
  have htab : c.exceptionTable.toList = tableOf [(0, 9, 12, 13), (0, 9, 15, 23)] := vx_table (x := yL_dress) B (hts (.codeWith yL_dress cL_dress 4 (some .int) [(0, 9, 12, 13), (0, 9, 15, 23)]) List.mem_cons_self)
  subst hsz
  have hD := hD0.self (sz := s.heap.size)
  generalize hAe : va_A [(x, .inr (10, [.ref (ax 0), .ref (ax 1), .ref (ax 2), .ref (ax 3), .ref (ax 4), .ref (ax 5), .int 0, .int 0, .int 0, .int 0, .int 0, .int 0])), ((ax 0), .inl ((kx 0), 8, .inl (fun _ => 0))), ((ax 1), .inl ((kx 1), 24, .inr (.inr (.inr (.inr (fun _ => none)))))), ((ax 2), .inl ((kx 2), 4, .inr (.inr (.inr (.inr (fun _ => none)))))), ((ax 3), .inl ((kx 3), 12, .inr (.inr (.inr (.inr (fun _ => none)))))), ((ax 4), .inl ((kx 4), 40, .inr (.inr (.inr (.inr (fun _ => none)))))), (o, .inl (kO, 1, .inr (.inl fo)))] s.heap.size = A at hD hE ⊢
  have hA : ∀ q : Nat, s.heap.size ≤ q → A q := fun q h => by rw [← hAe]; exact Or.inr h
  have hS : va_S A s.heap s.heap [] := va_S.rf
  have hP : va_P (dC, dI) vwCl [(x, .inr (10, [.ref (ax 0), .ref (ax 1), .ref (ax 2), .ref (ax 3), .ref (ax 4), .ref (ax 5), .int 0, .int 0, .int 0, .int 0, .int 0, .int 0])), ((ax 0), .inl ((kx 0), 8, .inl (fun _ => 0))), ((ax 1), .inl ((kx 1), 24, .inr (.inr (.inr (.inr (fun _ => none)))))), ((ax 2), .inl ((kx 2), 4, .inr (.inr (.inr (.inr (fun _ => none)))))), ((ax 3), .inl ((kx 3), 12, .inr (.inr (.inr (.inr (fun _ => none)))))), ((ax 4), .inl ((kx 4), 40, .inr (.inr (.inr (.inr (fun _ => none)))))), (o, .inl (kO, 1, .inr (.inl fo)))] s.heap := hP
  have hl := lv_entry ([.ref x, .int a, .ref o]) (n := 4) (Nat.le_of_ble_eq_true rfl)
  rw [lg_entry_eq]
  generalize (lg_sl ([.ref x, .int a, .ref o]) ++ List.replicate (4 - (lg_sl ([.ref x, .int a, .ref o])).length) Slot.unset).toArray = ls at hl ⊢
  have hl : lv_has ls 4 [(0, .ref x), (1, .int a), (2, .ref o)] := hl
  refine lv_aload_n hx hb dL_dress_0 rfl (lv_at hl 2 rfl) ?_
  refine lv_iconst (v := 0) hx hb dL_dress_1 (by decide) ?_
  refine lv_aload_n hx hb dL_dress_2 rfl (lv_at hl 0 rfl) ?_
  refine lv_iload_n hx hb dL_dress_3 rfl (lv_at hl 1 rfl) ?_
  have hPc := hP.sub (ws' := xW x ax kx) [0, 1, 2, 3, 4, 5] rfl
  have hKc := hK.sub (tys' := xT kx) [0, 1, 2, 3, 4] rfl
  refine vx_calli (vx_runV (As := [.int a]) (rest := [.int 0, .ref o]) ⟨hx, hb, hml, hown, hts⟩ (c_X7_dress l hst dC dI s.heap.size x ax kx a) (cwV 1 hts (goodIn_app (goodIn_of _ (by decide +kernel)) (goodIn_sub ((fun w h => List.mem_cons_of_mem _ (List.mem_append_right _ (h)))) zgX7_dress)) rfl rfl rfl (by decide +kernel) ⟨Nat.le_of_ble_eq_true rfl, Nat.le_of_ble_eq_true rfl⟩) ⟨xPc_blind, va_recv hK hP (ci := 10) (q0 := 0) rfl rfl, xPc_pass hPc hKc hE hS (fun q h => hA q (Nat.le_trans hS.1 h))⟩ rfl rfl hl.1 rfl (lv_room (Nat.le_of_ble_eq_true rfl)) dL_dress_4 ⟨Nat.le_of_ble_eq_true rfl, Nat.le_of_ble_eq_true rfl⟩) hS (fun q _ h => hA q (Nat.le_trans hS.1 h)) (fun q h => hA q (Nat.le_trans hS.1 h)) (fun q _ h => hA q (Nat.le_trans hS.1 h)) (fun E ce q9 _ t H locs ht hvm hpx hBX hz hk hS hcell hv hcl => ?_) (fun r_1 u t H locs ht hvm hw hB hz hk hS => ?_)
  · have hBX : E = "java/lang/IndexOutOfBoundsException" := hBX
    subst hBX
    have hP := zkn hP hk
    refine vx_catch (own := RL) (name := "java/lang/IndexOutOfBoundsException") hown [] ⟨0, 9, 12, 13⟩ [⟨0, 9, 15, 23⟩] (htab.trans rfl) (fun z hz => nomatch hz) (by decide) (by decide) (hts (.classLink RL 13 "java/lang/IndexOutOfBoundsException") (by decide +kernel)) (va_Nw.use rfl (hE.2.2.2.1 _ (by decide))) hcell hv hcl ?_
    refine W.eq (g2 := F0 m 12 ls [.ref q9]) rfl ?_
    refine lv_astore_n (lv' := [(3, .ref q9), (0, .ref x), (1, .int a), (2, .ref o)]) hx hb dL_dress_12 rfl hl (by decide) rfl (fun ls hl => ?_)
    refine lv_iconst (v := 1) hx hb dL_dress_13 (by decide) ?_
    refine W.widen (k := 1) (n := 6) (Nat.le_of_ble_eq_true rfl) (Nat.le_of_ble_eq_true rfl) ?_
    exact W.iret (v := 1) hx hb hr (fun t ht hW => ⟨⟨1, (), rfl, rfl, trivial⟩, hS.F ht⟩) hS.2.2 dL_dress_14
  exact hw.elim

def zwL_change : List Cond := .codeWith yL_change cL_change 4 (some .int) [(0, 9, 12, 13)] :: (([.methodLink RL 111 yX7_change, .instanceMethod yX7_change, .selects RX7 yX7_change yX7_change, .initialized RX7, .classLink RL 13 "java/lang/IndexOutOfBoundsException"] : List Cond) ++ (zwX7_change))
theorem zgL_change : zwL_change.all goodWord = true := zgo rfl (zga (by decide +kernel) (zgX7_change))
set_option maxHeartbeats 4000000 in
set_option maxRecDepth 100000 in
theorem c_L_change (l : Launch) (hst : l.stackTraces = false) (dC : Nat → ClassId) (dI : Nat → Nat → Nat) (sz : Nat) (x : Nat) (ax : Nat → Nat) (kx : Nat → ClassId) (o : Nat) (kO : ClassId) (fo : Nat → Int64) (a : Int32) : Met l yL_change zwL_change ({ frames := 8, cells := 1, slots := 6, locals := 127 }) (gPcE dC dI sz [(x, .inr (10, [.ref (ax 0), .ref (ax 1), .ref (ax 2), .ref (ax 3), .ref (ax 4), .ref (ax 5), .int 0, .int 0, .int 0, .int 0, .int 0, .int 0])), ((ax 0), .inl ((kx 0), 8, .inl (fun _ => 0))), ((ax 1), .inl ((kx 1), 24, .inr (.inr (.inr (.inr (fun _ => none)))))), ((ax 2), .inl ((kx 2), 4, .inr (.inr (.inr (.inr (fun _ => none)))))), ((ax 3), .inl ((kx 3), 12, .inr (.inr (.inr (.inr (fun _ => none)))))), ((ax 4), .inl ((kx 4), 40, .inr (.inr (.inr (.inr (fun _ => none)))))), (o, .inl (kO, 1, .inr (.inl fo)))] [((kx 0), .int), ((kx 1), .object RX4), ((kx 2), .object RX5), ((kx 3), .object RX3), ((kx 4), .object RX0), (kO, .long)] [.ref x, .int a, .ref o]) (va_Qi (fun (r : Int32) (u : Unit) => r = 1) (fun u t => True) (va_A [(x, .inr (10, [.ref (ax 0), .ref (ax 1), .ref (ax 2), .ref (ax 3), .ref (ax 4), .ref (ax 5), .int 0, .int 0, .int 0, .int 0, .int 0, .int 0])), ((ax 0), .inl ((kx 0), 8, .inl (fun _ => 0))), ((ax 1), .inl ((kx 1), 24, .inr (.inr (.inr (.inr (fun _ => none)))))), ((ax 2), .inl ((kx 2), 4, .inr (.inr (.inr (.inr (fun _ => none)))))), ((ax 3), .inl ((kx 3), 12, .inr (.inr (.inr (.inr (fun _ => none)))))), ((ax 4), .inl ((kx 4), 40, .inr (.inr (.inr (.inr (fun _ => none)))))), (o, .inl (kO, 1, .inr (.inl fo)))] sz)) 1 6 (va_A [(x, .inr (10, [.ref (ax 0), .ref (ax 1), .ref (ax 2), .ref (ax 3), .ref (ax 4), .ref (ax 5), .int 0, .int 0, .int 0, .int 0, .int 0, .int 0])), ((ax 0), .inl ((kx 0), 8, .inl (fun _ => 0))), ((ax 1), .inl ((kx 1), 24, .inr (.inr (.inr (.inr (fun _ => none)))))), ((ax 2), .inl ((kx 2), 4, .inr (.inr (.inr (.inr (fun _ => none)))))), ((ax 3), .inl ((kx 3), 12, .inr (.inr (.inr (.inr (fun _ => none)))))), ((ax 4), .inl ((kx 4), 40, .inr (.inr (.inr (.inr (fun _ => none)))))), (o, .inl (kO, 1, .inr (.inl fo)))] sz) := by
  refine va_MetW (cc := cL_change) (maxL := 4) (ret := (some .int)) (hh := [(0, 9, 12, 13)]) (by decide) rfl ?_
  intro p e s m args below meth c s₁ B hml hv
  obtain ⟨rfl, hsz, hP, hK, hD0, hE⟩ := hv
  have hx := B.exec
  have hb := B.bytes
  have hr := B.returns
  have hts := atoms_spec (ws := zwL_change) B.pre
  have hown : s.vm.findClass RL = some m.cls := findClass_of_methodNamed B.named
  have hlocks := B.notSynchronized
  have htab : c.exceptionTable.toList = tableOf [(0, 9, 12, 13)] := vx_table (x := yL_change) B (hts (.codeWith yL_change cL_change 4 (some .int) [(0, 9, 12, 13)]) List.mem_cons_self)
  subst hsz
  have hD := hD0.self (sz := s.heap.size)
  generalize hAe : va_A [(x, .inr (10, [.ref (ax 0), .ref (ax 1), .ref (ax 2), .ref (ax 3), .ref (ax 4), .ref (ax 5), .int 0, .int 0, .int 0, .int 0, .int 0, .int 0])), ((ax 0), .inl ((kx 0), 8, .inl (fun _ => 0))), ((ax 1), .inl ((kx 1), 24, .inr (.inr (.inr (.inr (fun _ => none)))))), ((ax 2), .inl ((kx 2), 4, .inr (.inr (.inr (.inr (fun _ => none)))))), ((ax 3), .inl ((kx 3), 12, .inr (.inr (.inr (.inr (fun _ => none)))))), ((ax 4), .inl ((kx 4), 40, .inr (.inr (.inr (.inr (fun _ => none)))))), (o, .inl (kO, 1, .inr (.inl fo)))] s.heap.size = A at hD hE ⊢
  have hA : ∀ q : Nat, s.heap.size ≤ q → A q := fun q h => by rw [← hAe]; exact Or.inr h
  have hS : va_S A s.heap s.heap [] := va_S.rf
  have hP : va_P (dC, dI) vwCl [(x, .inr (10, [.ref (ax 0), .ref (ax 1), .ref (ax 2), .ref (ax 3), .ref (ax 4), .ref (ax 5), .int 0, .int 0, .int 0, .int 0, .int 0, .int 0])), ((ax 0), .inl ((kx 0), 8, .inl (fun _ => 0))), ((ax 1), .inl ((kx 1), 24, .inr (.inr (.inr (.inr (fun _ => none)))))), ((ax 2), .inl ((kx 2), 4, .inr (.inr (.inr (.inr (fun _ => none)))))), ((ax 3), .inl ((kx 3), 12, .inr (.inr (.inr (.inr (fun _ => none)))))), ((ax 4), .inl ((kx 4), 40, .inr (.inr (.inr (.inr (fun _ => none)))))), (o, .inl (kO, 1, .inr (.inl fo)))] s.heap := hP
  have hl := lv_entry ([.ref x, .int a, .ref o]) (n := 4) (Nat.le_of_ble_eq_true rfl)
  rw [lg_entry_eq]
  generalize (lg_sl ([.ref x, .int a, .ref o]) ++ List.replicate (4 - (lg_sl ([.ref x, .int a, .ref o])).length) Slot.unset).toArray = ls at hl ⊢
  have hl : lv_has ls 4 [(0, .ref x), (1, .int a), (2, .ref o)] := hl
  refine lv_aload_n hx hb dL_change_0 rfl (lv_at hl 2 rfl) ?_
  refine lv_iconst (v := 0) hx hb dL_change_1 (by decide) ?_
  refine lv_aload_n hx hb dL_change_2 rfl (lv_at hl 0 rfl) ?_
  refine lv_iload_n hx hb dL_change_3 rfl (lv_at hl 1 rfl) ?_
  have hPc := hP.sub (ws' := xW x ax kx) [0, 1, 2, 3, 4, 5] rfl
  have hKc := hK.sub (tys' := xT kx) [0, 1, 2, 3, 4] rfl
  refine vx_calli (vx_runV (As := [.int a]) (rest := [.int 0, .ref o]) ⟨hx, hb, hml, hown, hts⟩ (c_X7_change l hst dC dI s.heap.size x ax kx a) (cwV 1 hts (goodIn_app (goodIn_of _ (by decide +kernel)) (goodIn_sub ((fun w h => List.mem_cons_of_mem _ (List.mem_append_right _ (h)))) zgX7_change)) rfl rfl rfl (by decide +kernel) ⟨Nat.le_of_ble_eq_true rfl, Nat.le_of_ble_eq_true rfl⟩) ⟨xPc_blind, va_recv hK hP (ci := 10) (q0 := 0) rfl rfl, xPc_pass hPc hKc hE hS (fun q h => hA q (Nat.le_trans hS.1 h))⟩ rfl rfl hl.1 rfl (lv_room (Nat.le_of_ble_eq_true rfl)) dL_change_4 ⟨Nat.le_of_ble_eq_true rfl, Nat.le_of_ble_eq_true rfl⟩) hS (fun q _ h => hA q (Nat.le_trans hS.1 h)) (fun q h => hA q (Nat.le_trans hS.1 h)) (fun q _ h => hA q (Nat.le_trans hS.1 h)) (fun E ce q9 _ t H locs ht hvm hpx hBX hz hk hS hcell hv hcl => ?_) (fun r_1 u t H locs ht hvm hw hB hz hk hS => ?_)
  · have hBX : E = "java/lang/IndexOutOfBoundsException" := hBX
    subst hBX
    have hP := zkn hP hk
    refine vx_catch (own := RL) (name := "java/lang/IndexOutOfBoundsException") hown [] ⟨0, 9, 12, 13⟩ [] (htab.trans rfl) (fun z hz => nomatch hz) (by decide) (by decide) (hts (.classLink RL 13 "java/lang/IndexOutOfBoundsException") (by decide +kernel)) (va_Nw.use rfl (hE.2.2.2.1 _ (by decide))) hcell hv hcl ?_
    refine W.eq (g2 := F0 m 12 ls [.ref q9]) rfl ?_
    refine lv_astore_n (lv' := [(3, .ref q9), (0, .ref x), (1, .int a), (2, .ref o)]) hx hb dL_change_12 rfl hl (by decide) rfl (fun ls hl => ?_)
    refine lv_iconst (v := 1) hx hb dL_change_13 (by decide) ?_
    refine W.widen (k := 1) (n := 6) (Nat.le_of_ble_eq_true rfl) (Nat.le_of_ble_eq_true rfl) ?_
    exact W.iret (v := 1) hx hb hr (fun t ht hW => ⟨⟨1, (), rfl, rfl, trivial⟩, hS.F ht⟩) hS.2.2 dL_change_14
  exact hw.elim

def zwL_made : List Cond := .codeWith yL_made cL_made 4 (some .int) [(0, 9, 12, 13)] :: (([.methodLink RL 114 yX7_made, .instanceMethod yX7_made, .selects RX7 yX7_made yX7_made, .initialized RX7, .classLink RL 13 "java/lang/IndexOutOfBoundsException"] : List Cond) ++ (zwX7_made))
theorem zgL_made : zwL_made.all goodWord = true := zgo rfl (zga (by decide +kernel) (zgX7_made))
set_option maxHeartbeats 4000000 in
set_option maxRecDepth 100000 in
theorem c_L_made (l : Launch) (hst : l.stackTraces = false) (dC : Nat → ClassId) (dI : Nat → Nat → Nat) (sz : Nat) (x : Nat) (ax : Nat → Nat) (kx : Nat → ClassId) (o : Nat) (kO : ClassId) (fo : Nat → Int64) (a : Int32) : Met l yL_made zwL_made ({ frames := 8, cells := 1, slots := 6, locals := 125 }) (gPcE dC dI sz [(x, .inr (10, [.ref (ax 0), .ref (ax 1), .ref (ax 2), .ref (ax 3), .ref (ax 4), .ref (ax 5), .int 0, .int 0, .int 0, .int 0, .int 0, .int 0])), ((ax 0), .inl ((kx 0), 8, .inl (fun _ => 0))), ((ax 1), .inl ((kx 1), 24, .inr (.inr (.inr (.inr (fun _ => none)))))), ((ax 2), .inl ((kx 2), 4, .inr (.inr (.inr (.inr (fun _ => none)))))), ((ax 3), .inl ((kx 3), 12, .inr (.inr (.inr (.inr (fun _ => none)))))), ((ax 4), .inl ((kx 4), 40, .inr (.inr (.inr (.inr (fun _ => none)))))), (o, .inl (kO, 1, .inr (.inl fo)))] [((kx 0), .int), ((kx 1), .object RX4), ((kx 2), .object RX5), ((kx 3), .object RX3), ((kx 4), .object RX0), (kO, .long)] [.ref x, .int a, .ref o]) (va_Qi (fun (r : Int32) (u : Unit) => r = 1) (fun u t => True) (va_A [(x, .inr (10, [.ref (ax 0), .ref (ax 1), .ref (ax 2), .ref (ax 3), .ref (ax 4), .ref (ax 5), .int 0, .int 0, .int 0, .int 0, .int 0, .int 0])), ((ax 0), .inl ((kx 0), 8, .inl (fun _ => 0))), ((ax 1), .inl ((kx 1), 24, .inr (.inr (.inr (.inr (fun _ => none)))))), ((ax 2), .inl ((kx 2), 4, .inr (.inr (.inr (.inr (fun _ => none)))))), ((ax 3), .inl ((kx 3), 12, .inr (.inr (.inr (.inr (fun _ => none)))))), ((ax 4), .inl ((kx 4), 40, .inr (.inr (.inr (.inr (fun _ => none)))))), (o, .inl (kO, 1, .inr (.inl fo)))] sz)) 1 6 (va_A [(x, .inr (10, [.ref (ax 0), .ref (ax 1), .ref (ax 2), .ref (ax 3), .ref (ax 4), .ref (ax 5), .int 0, .int 0, .int 0, .int 0, .int 0, .int 0])), ((ax 0), .inl ((kx 0), 8, .inl (fun _ => 0))), ((ax 1), .inl ((kx 1), 24, .inr (.inr (.inr (.inr (fun _ => none)))))), ((ax 2), .inl ((kx 2), 4, .inr (.inr (.inr (.inr (fun _ => none)))))), ((ax 3), .inl ((kx 3), 12, .inr (.inr (.inr (.inr (fun _ => none)))))), ((ax 4), .inl ((kx 4), 40, .inr (.inr (.inr (.inr (fun _ => none)))))), (o, .inl (kO, 1, .inr (.inl fo)))] sz) := by
  refine va_MetW (cc := cL_made) (maxL := 4) (ret := (some .int)) (hh := [(0, 9, 12, 13)]) (by decide) rfl ?_
  intro p e s m args below meth c s₁ B hml hv
  obtain ⟨rfl, hsz, hP, hK, hD0, hE⟩ := hv
  have hx := B.exec
  have hb := B.bytes
  have hr := B.returns
  have hts := atoms_spec (ws := zwL_made) B.pre
  have hown : s.vm.findClass RL = some m.cls := findClass_of_methodNamed B.named
  have hlocks := B.notSynchronized
  have htab : c.exceptionTable.toList = tableOf [(0, 9, 12, 13)] := vx_table (x := yL_made) B (hts (.codeWith yL_made cL_made 4 (some .int) [(0, 9, 12, 13)]) List.mem_cons_self)
  subst hsz
  have hD := hD0.self (sz := s.heap.size)
  generalize hAe : va_A [(x, .inr (10, [.ref (ax 0), .ref (ax 1), .ref (ax 2), .ref (ax 3), .ref (ax 4), .ref (ax 5), .int 0, .int 0, .int 0, .int 0, .int 0, .int 0])), ((ax 0), .inl ((kx 0), 8, .inl (fun _ => 0))), ((ax 1), .inl ((kx 1), 24, .inr (.inr (.inr (.inr (fun _ => none)))))), ((ax 2), .inl ((kx 2), 4, .inr (.inr (.inr (.inr (fun _ => none)))))), ((ax 3), .inl ((kx 3), 12, .inr (.inr (.inr (.inr (fun _ => none)))))), ((ax 4), .inl ((kx 4), 40, .inr (.inr (.inr (.inr (fun _ => none)))))), (o, .inl (kO, 1, .inr (.inl fo)))] s.heap.size = A at hD hE ⊢
  have hA : ∀ q : Nat, s.heap.size ≤ q → A q := fun q h => by rw [← hAe]; exact Or.inr h
  have hS : va_S A s.heap s.heap [] := va_S.rf
  have hP : va_P (dC, dI) vwCl [(x, .inr (10, [.ref (ax 0), .ref (ax 1), .ref (ax 2), .ref (ax 3), .ref (ax 4), .ref (ax 5), .int 0, .int 0, .int 0, .int 0, .int 0, .int 0])), ((ax 0), .inl ((kx 0), 8, .inl (fun _ => 0))), ((ax 1), .inl ((kx 1), 24, .inr (.inr (.inr (.inr (fun _ => none)))))), ((ax 2), .inl ((kx 2), 4, .inr (.inr (.inr (.inr (fun _ => none)))))), ((ax 3), .inl ((kx 3), 12, .inr (.inr (.inr (.inr (fun _ => none)))))), ((ax 4), .inl ((kx 4), 40, .inr (.inr (.inr (.inr (fun _ => none)))))), (o, .inl (kO, 1, .inr (.inl fo)))] s.heap := hP
  have hl := lv_entry ([.ref x, .int a, .ref o]) (n := 4) (Nat.le_of_ble_eq_true rfl)
  rw [lg_entry_eq]
  generalize (lg_sl ([.ref x, .int a, .ref o]) ++ List.replicate (4 - (lg_sl ([.ref x, .int a, .ref o])).length) Slot.unset).toArray = ls at hl ⊢
  have hl : lv_has ls 4 [(0, .ref x), (1, .int a), (2, .ref o)] := hl
  refine lv_aload_n hx hb dL_made_0 rfl (lv_at hl 2 rfl) ?_
  refine lv_iconst (v := 0) hx hb dL_made_1 (by decide) ?_
  refine lv_aload_n hx hb dL_made_2 rfl (lv_at hl 0 rfl) ?_
  refine lv_iload_n hx hb dL_made_3 rfl (lv_at hl 1 rfl) ?_
  have hPc := hP.sub (ws' := xW x ax kx) [0, 1, 2, 3, 4, 5] rfl
  have hKc := hK.sub (tys' := xT kx) [0, 1, 2, 3, 4] rfl
  refine vx_calli (vx_runV (As := [.int a]) (rest := [.int 0, .ref o]) ⟨hx, hb, hml, hown, hts⟩ (c_X7_made l hst dC dI s.heap.size x ax kx a) (cwV 1 hts (goodIn_app (goodIn_of _ (by decide +kernel)) (goodIn_sub ((fun w h => List.mem_cons_of_mem _ (List.mem_append_right _ (h)))) zgX7_made)) rfl rfl rfl (by decide +kernel) ⟨Nat.le_of_ble_eq_true rfl, Nat.le_of_ble_eq_true rfl⟩) ⟨xPc_blind, va_recv hK hP (ci := 10) (q0 := 0) rfl rfl, xPc_pass hPc hKc hE hS (fun q h => hA q (Nat.le_trans hS.1 h))⟩ rfl rfl hl.1 rfl (lv_room (Nat.le_of_ble_eq_true rfl)) dL_made_4 ⟨Nat.le_of_ble_eq_true rfl, Nat.le_of_ble_eq_true rfl⟩) hS (fun q _ h => hA q (Nat.le_trans hS.1 h)) (fun q h => hA q (Nat.le_trans hS.1 h)) (fun q _ h => hA q (Nat.le_trans hS.1 h)) (fun E ce q9 _ t H locs ht hvm hpx hBX hz hk hS hcell hv hcl => ?_) (fun r_1 u t H locs ht hvm hw hB hz hk hS => ?_)
  · have hBX : E = "java/lang/IndexOutOfBoundsException" := hBX
    subst hBX
    have hP := zkn hP hk
    refine vx_catch (own := RL) (name := "java/lang/IndexOutOfBoundsException") hown [] ⟨0, 9, 12, 13⟩ [] (htab.trans rfl) (fun z hz => nomatch hz) (by decide) (by decide) (hts (.classLink RL 13 "java/lang/IndexOutOfBoundsException") (by decide +kernel)) (va_Nw.use rfl (hE.2.2.2.1 _ (by decide))) hcell hv hcl ?_
    refine W.eq (g2 := F0 m 12 ls [.ref q9]) rfl ?_
    refine lv_astore_n (lv' := [(3, .ref q9), (0, .ref x), (1, .int a), (2, .ref o)]) hx hb dL_made_12 rfl hl (by decide) rfl (fun ls hl => ?_)
    refine lv_iconst (v := 1) hx hb dL_made_13 (by decide) ?_
    refine W.widen (k := 1) (n := 6) (Nat.le_of_ble_eq_true rfl) (Nat.le_of_ble_eq_true rfl) ?_
    exact W.iret (v := 1) hx hb hr (fun t ht hW => ⟨⟨1, (), rfl, rfl, trivial⟩, hS.F ht⟩) hS.2.2 dL_made_14
  exact hw.elim

def zwL_lacks : List Cond := .codeWith yL_lacks cL_lacks 4 (some .int) [(0, 9, 12, 13)] :: (([.methodLink RL 117 yX7_lacks, .instanceMethod yX7_lacks, .selects RX7 yX7_lacks yX7_lacks, .initialized RX7, .classLink RL 13 "java/lang/IndexOutOfBoundsException"] : List Cond) ++ (zwX7_lacks))
theorem zgL_lacks : zwL_lacks.all goodWord = true := zgo rfl (zga (by decide +kernel) (zgX7_lacks))
set_option maxHeartbeats 4000000 in
set_option maxRecDepth 100000 in
theorem c_L_lacks (l : Launch) (hst : l.stackTraces = false) (dC : Nat → ClassId) (dI : Nat → Nat → Nat) (sz : Nat) (x : Nat) (ax : Nat → Nat) (kx : Nat → ClassId) (o : Nat) (kO : ClassId) (fo : Nat → Int64) (a : Int32) : Met l yL_lacks zwL_lacks ({ frames := 8, cells := 1, slots := 6, locals := 125 }) (gPcE dC dI sz [(x, .inr (10, [.ref (ax 0), .ref (ax 1), .ref (ax 2), .ref (ax 3), .ref (ax 4), .ref (ax 5), .int 0, .int 0, .int 0, .int 0, .int 0, .int 0])), ((ax 0), .inl ((kx 0), 8, .inl (fun _ => 0))), ((ax 1), .inl ((kx 1), 24, .inr (.inr (.inr (.inr (fun _ => none)))))), ((ax 2), .inl ((kx 2), 4, .inr (.inr (.inr (.inr (fun _ => none)))))), ((ax 3), .inl ((kx 3), 12, .inr (.inr (.inr (.inr (fun _ => none)))))), ((ax 4), .inl ((kx 4), 40, .inr (.inr (.inr (.inr (fun _ => none)))))), (o, .inl (kO, 1, .inr (.inl fo)))] [((kx 0), .int), ((kx 1), .object RX4), ((kx 2), .object RX5), ((kx 3), .object RX3), ((kx 4), .object RX0), (kO, .long)] [.ref x, .int a, .ref o]) (va_Qi (fun (r : Int32) (u : Unit) => r = 1) (fun u t => True) (va_A [(x, .inr (10, [.ref (ax 0), .ref (ax 1), .ref (ax 2), .ref (ax 3), .ref (ax 4), .ref (ax 5), .int 0, .int 0, .int 0, .int 0, .int 0, .int 0])), ((ax 0), .inl ((kx 0), 8, .inl (fun _ => 0))), ((ax 1), .inl ((kx 1), 24, .inr (.inr (.inr (.inr (fun _ => none)))))), ((ax 2), .inl ((kx 2), 4, .inr (.inr (.inr (.inr (fun _ => none)))))), ((ax 3), .inl ((kx 3), 12, .inr (.inr (.inr (.inr (fun _ => none)))))), ((ax 4), .inl ((kx 4), 40, .inr (.inr (.inr (.inr (fun _ => none)))))), (o, .inl (kO, 1, .inr (.inl fo)))] sz)) 1 6 (va_A [(x, .inr (10, [.ref (ax 0), .ref (ax 1), .ref (ax 2), .ref (ax 3), .ref (ax 4), .ref (ax 5), .int 0, .int 0, .int 0, .int 0, .int 0, .int 0])), ((ax 0), .inl ((kx 0), 8, .inl (fun _ => 0))), ((ax 1), .inl ((kx 1), 24, .inr (.inr (.inr (.inr (fun _ => none)))))), ((ax 2), .inl ((kx 2), 4, .inr (.inr (.inr (.inr (fun _ => none)))))), ((ax 3), .inl ((kx 3), 12, .inr (.inr (.inr (.inr (fun _ => none)))))), ((ax 4), .inl ((kx 4), 40, .inr (.inr (.inr (.inr (fun _ => none)))))), (o, .inl (kO, 1, .inr (.inl fo)))] sz) := by
  refine va_MetW (cc := cL_lacks) (maxL := 4) (ret := (some .int)) (hh := [(0, 9, 12, 13)]) (by decide) rfl ?_
  intro p e s m args below meth c s₁ B hml hv
  obtain ⟨rfl, hsz, hP, hK, hD0, hE⟩ := hv
  have hx := B.exec
  have hb := B.bytes
  have hr := B.returns
  have hts := atoms_spec (ws := zwL_lacks) B.pre
  have hown : s.vm.findClass RL = some m.cls := findClass_of_methodNamed B.named
  have hlocks := B.notSynchronized
  have htab : c.exceptionTable.toList = tableOf [(0, 9, 12, 13)] := vx_table (x := yL_lacks) B (hts (.codeWith yL_lacks cL_lacks 4 (some .int) [(0, 9, 12, 13)]) List.mem_cons_self)
  subst hsz
  have hD := hD0.self (sz := s.heap.size)
  generalize hAe : va_A [(x, .inr (10, [.ref (ax 0), .ref (ax 1), .ref (ax 2), .ref (ax 3), .ref (ax 4), .ref (ax 5), .int 0, .int 0, .int 0, .int 0, .int 0, .int 0])), ((ax 0), .inl ((kx 0), 8, .inl (fun _ => 0))), ((ax 1), .inl ((kx 1), 24, .inr (.inr (.inr (.inr (fun _ => none)))))), ((ax 2), .inl ((kx 2), 4, .inr (.inr (.inr (.inr (fun _ => none)))))), ((ax 3), .inl ((kx 3), 12, .inr (.inr (.inr (.inr (fun _ => none)))))), ((ax 4), .inl ((kx 4), 40, .inr (.inr (.inr (.inr (fun _ => none)))))), (o, .inl (kO, 1, .inr (.inl fo)))] s.heap.size = A at hD hE ⊢
  have hA : ∀ q : Nat, s.heap.size ≤ q → A q := fun q h => by rw [← hAe]; exact Or.inr h
  have hS : va_S A s.heap s.heap [] := va_S.rf
  have hP : va_P (dC, dI) vwCl [(x, .inr (10, [.ref (ax 0), .ref (ax 1), .ref (ax 2), .ref (ax 3), .ref (ax 4), .ref (ax 5), .int 0, .int 0, .int 0, .int 0, .int 0, .int 0])), ((ax 0), .inl ((kx 0), 8, .inl (fun _ => 0))), ((ax 1), .inl ((kx 1), 24, .inr (.inr (.inr (.inr (fun _ => none)))))), ((ax 2), .inl ((kx 2), 4, .inr (.inr (.inr (.inr (fun _ => none)))))), ((ax 3), .inl ((kx 3), 12, .inr (.inr (.inr (.inr (fun _ => none)))))), ((ax 4), .inl ((kx 4), 40, .inr (.inr (.inr (.inr (fun _ => none)))))), (o, .inl (kO, 1, .inr (.inl fo)))] s.heap := hP
  have hl := lv_entry ([.ref x, .int a, .ref o]) (n := 4) (Nat.le_of_ble_eq_true rfl)
  rw [lg_entry_eq]
  generalize (lg_sl ([.ref x, .int a, .ref o]) ++ List.replicate (4 - (lg_sl ([.ref x, .int a, .ref o])).length) Slot.unset).toArray = ls at hl ⊢
  have hl : lv_has ls 4 [(0, .ref x), (1, .int a), (2, .ref o)] := hl
  refine lv_aload_n hx hb dL_lacks_0 rfl (lv_at hl 2 rfl) ?_
  refine lv_iconst (v := 0) hx hb dL_lacks_1 (by decide) ?_
  refine lv_aload_n hx hb dL_lacks_2 rfl (lv_at hl 0 rfl) ?_
  refine lv_iload_n hx hb dL_lacks_3 rfl (lv_at hl 1 rfl) ?_
  have hPc := hP.sub (ws' := xW x ax kx) [0, 1, 2, 3, 4, 5] rfl
  have hKc := hK.sub (tys' := xT kx) [0, 1, 2, 3, 4] rfl
  refine vx_calli (vx_runV (As := [.int a]) (rest := [.int 0, .ref o]) ⟨hx, hb, hml, hown, hts⟩ (c_X7_lacks l hst dC dI s.heap.size x ax kx a) (cwV 1 hts (goodIn_app (goodIn_of _ (by decide +kernel)) (goodIn_sub ((fun w h => List.mem_cons_of_mem _ (List.mem_append_right _ (h)))) zgX7_lacks)) rfl rfl rfl (by decide +kernel) ⟨Nat.le_of_ble_eq_true rfl, Nat.le_of_ble_eq_true rfl⟩) ⟨xPc_blind, va_recv hK hP (ci := 10) (q0 := 0) rfl rfl, xPc_pass hPc hKc hE hS (fun q h => hA q (Nat.le_trans hS.1 h))⟩ rfl rfl hl.1 rfl (lv_room (Nat.le_of_ble_eq_true rfl)) dL_lacks_4 ⟨Nat.le_of_ble_eq_true rfl, Nat.le_of_ble_eq_true rfl⟩) hS (fun q _ h => hA q (Nat.le_trans hS.1 h)) (fun q h => hA q (Nat.le_trans hS.1 h)) (fun q _ h => hA q (Nat.le_trans hS.1 h)) (fun E ce q9 _ t H locs ht hvm hpx hBX hz hk hS hcell hv hcl => ?_) (fun r_1 u t H locs ht hvm hw hB hz hk hS => ?_)
  · have hBX : E = "java/lang/IndexOutOfBoundsException" := hBX
    subst hBX
    have hP := zkn hP hk
    refine vx_catch (own := RL) (name := "java/lang/IndexOutOfBoundsException") hown [] ⟨0, 9, 12, 13⟩ [] (htab.trans rfl) (fun z hz => nomatch hz) (by decide) (by decide) (hts (.classLink RL 13 "java/lang/IndexOutOfBoundsException") (by decide +kernel)) (va_Nw.use rfl (hE.2.2.2.1 _ (by decide))) hcell hv hcl ?_
    refine W.eq (g2 := F0 m 12 ls [.ref q9]) rfl ?_
    refine lv_astore_n (lv' := [(3, .ref q9), (0, .ref x), (1, .int a), (2, .ref o)]) hx hb dL_lacks_12 rfl hl (by decide) rfl (fun ls hl => ?_)
    refine lv_iconst (v := 1) hx hb dL_lacks_13 (by decide) ?_
    refine W.widen (k := 1) (n := 6) (Nat.le_of_ble_eq_true rfl) (Nat.le_of_ble_eq_true rfl) ?_
    exact W.iret (v := 1) hx hb hr (fun t ht hW => ⟨⟨1, (), rfl, rfl, trivial⟩, hS.F ht⟩) hS.2.2 dL_lacks_14
  exact hw.elim

def zwL_isLacking : List Cond := .codeWith yL_isLacking cL_isLacking 5 (some .int) [(0, 17, 20, 13)] :: (([.methodLink RL 120 yX7_isLacking, .instanceMethod yX7_isLacking, .selects RX7 yX7_isLacking yX7_isLacking, .initialized RX7, .classLink RL 13 "java/lang/IndexOutOfBoundsException"] : List Cond) ++ (zwX7_isLacking))
theorem zgL_isLacking : zwL_isLacking.all goodWord = true := zgo rfl (zga (by decide +kernel) (zgX7_isLacking))
set_option maxHeartbeats 4000000 in
set_option maxRecDepth 100000 in
theorem c_L_isLacking (l : Launch) (hst : l.stackTraces = false) (dC : Nat → ClassId) (dI : Nat → Nat → Nat) (sz : Nat) (x : Nat) (ax : Nat → Nat) (kx : Nat → ClassId) (o : Nat) (kO : ClassId) (fo : Nat → Int64) (a : Int32) (b : Int32) : Met l yL_isLacking zwL_isLacking ({ frames := 8, cells := 1, slots := 6, locals := 126 }) (gPcE dC dI sz [(x, .inr (10, [.ref (ax 0), .ref (ax 1), .ref (ax 2), .ref (ax 3), .ref (ax 4), .ref (ax 5), .int 0, .int 0, .int 0, .int 0, .int 0, .int 0])), ((ax 0), .inl ((kx 0), 8, .inl (fun _ => 0))), ((ax 1), .inl ((kx 1), 24, .inr (.inr (.inr (.inr (fun _ => none)))))), ((ax 2), .inl ((kx 2), 4, .inr (.inr (.inr (.inr (fun _ => none)))))), ((ax 3), .inl ((kx 3), 12, .inr (.inr (.inr (.inr (fun _ => none)))))), ((ax 4), .inl ((kx 4), 40, .inr (.inr (.inr (.inr (fun _ => none)))))), (o, .inl (kO, 1, .inr (.inl fo)))] [((kx 0), .int), ((kx 1), .object RX4), ((kx 2), .object RX5), ((kx 3), .object RX3), ((kx 4), .object RX0), (kO, .long)] [.ref x, .int a, .int b, .ref o]) (va_Qi (fun (r : Int32) (u : Unit) => r = 1) (fun u t => True) (va_A [(x, .inr (10, [.ref (ax 0), .ref (ax 1), .ref (ax 2), .ref (ax 3), .ref (ax 4), .ref (ax 5), .int 0, .int 0, .int 0, .int 0, .int 0, .int 0])), ((ax 0), .inl ((kx 0), 8, .inl (fun _ => 0))), ((ax 1), .inl ((kx 1), 24, .inr (.inr (.inr (.inr (fun _ => none)))))), ((ax 2), .inl ((kx 2), 4, .inr (.inr (.inr (.inr (fun _ => none)))))), ((ax 3), .inl ((kx 3), 12, .inr (.inr (.inr (.inr (fun _ => none)))))), ((ax 4), .inl ((kx 4), 40, .inr (.inr (.inr (.inr (fun _ => none)))))), (o, .inl (kO, 1, .inr (.inl fo)))] sz)) 1 6 (va_A [(x, .inr (10, [.ref (ax 0), .ref (ax 1), .ref (ax 2), .ref (ax 3), .ref (ax 4), .ref (ax 5), .int 0, .int 0, .int 0, .int 0, .int 0, .int 0])), ((ax 0), .inl ((kx 0), 8, .inl (fun _ => 0))), ((ax 1), .inl ((kx 1), 24, .inr (.inr (.inr (.inr (fun _ => none)))))), ((ax 2), .inl ((kx 2), 4, .inr (.inr (.inr (.inr (fun _ => none)))))), ((ax 3), .inl ((kx 3), 12, .inr (.inr (.inr (.inr (fun _ => none)))))), ((ax 4), .inl ((kx 4), 40, .inr (.inr (.inr (.inr (fun _ => none)))))), (o, .inl (kO, 1, .inr (.inl fo)))] sz) := by
  refine va_MetW (cc := cL_isLacking) (maxL := 5) (ret := (some .int)) (hh := [(0, 17, 20, 13)]) (by decide) rfl ?_
  intro p e s m args below meth c s₁ B hml hv
  obtain ⟨rfl, hsz, hP, hK, hD0, hE⟩ := hv
  have hx := B.exec
  have hb := B.bytes
  have hr := B.returns
  have hts := atoms_spec (ws := zwL_isLacking) B.pre
  have hown : s.vm.findClass RL = some m.cls := findClass_of_methodNamed B.named
  have hlocks := B.notSynchronized
  have htab : c.exceptionTable.toList = tableOf [(0, 17, 20, 13)] := vx_table (x := yL_isLacking) B (hts (.codeWith yL_isLacking cL_isLacking 5 (some .int) [(0, 17, 20, 13)]) List.mem_cons_self)
  subst hsz
  have hD := hD0.self (sz := s.heap.size)
  generalize hAe : va_A [(x, .inr (10, [.ref (ax 0), .ref (ax 1), .ref (ax 2), .ref (ax 3), .ref (ax 4), .ref (ax 5), .int 0, .int 0, .int 0, .int 0, .int 0, .int 0])), ((ax 0), .inl ((kx 0), 8, .inl (fun _ => 0))), ((ax 1), .inl ((kx 1), 24, .inr (.inr (.inr (.inr (fun _ => none)))))), ((ax 2), .inl ((kx 2), 4, .inr (.inr (.inr (.inr (fun _ => none)))))), ((ax 3), .inl ((kx 3), 12, .inr (.inr (.inr (.inr (fun _ => none)))))), ((ax 4), .inl ((kx 4), 40, .inr (.inr (.inr (.inr (fun _ => none)))))), (o, .inl (kO, 1, .inr (.inl fo)))] s.heap.size = A at hD hE ⊢
  have hA : ∀ q : Nat, s.heap.size ≤ q → A q := fun q h => by rw [← hAe]; exact Or.inr h
  have hS : va_S A s.heap s.heap [] := va_S.rf
  have hP : va_P (dC, dI) vwCl [(x, .inr (10, [.ref (ax 0), .ref (ax 1), .ref (ax 2), .ref (ax 3), .ref (ax 4), .ref (ax 5), .int 0, .int 0, .int 0, .int 0, .int 0, .int 0])), ((ax 0), .inl ((kx 0), 8, .inl (fun _ => 0))), ((ax 1), .inl ((kx 1), 24, .inr (.inr (.inr (.inr (fun _ => none)))))), ((ax 2), .inl ((kx 2), 4, .inr (.inr (.inr (.inr (fun _ => none)))))), ((ax 3), .inl ((kx 3), 12, .inr (.inr (.inr (.inr (fun _ => none)))))), ((ax 4), .inl ((kx 4), 40, .inr (.inr (.inr (.inr (fun _ => none)))))), (o, .inl (kO, 1, .inr (.inl fo)))] s.heap := hP
  have hl := lv_entry ([.ref x, .int a, .int b, .ref o]) (n := 5) (Nat.le_of_ble_eq_true rfl)
  rw [lg_entry_eq]
  generalize (lg_sl ([.ref x, .int a, .int b, .ref o]) ++ List.replicate (5 - (lg_sl ([.ref x, .int a, .int b, .ref o])).length) Slot.unset).toArray = ls at hl ⊢
  have hl : lv_has ls 5 [(0, .ref x), (1, .int a), (2, .int b), (3, .ref o)] := hl
  refine lv_aload_n hx hb dL_isLacking_0 rfl (lv_at hl 3 rfl) ?_
  refine lv_iconst (v := 0) hx hb dL_isLacking_1 (by decide) ?_
  refine lv_aload_n hx hb dL_isLacking_2 rfl (lv_at hl 0 rfl) ?_
  refine lv_iload_n hx hb dL_isLacking_3 rfl (lv_at hl 1 rfl) ?_
  refine lv_iload_n hx hb dL_isLacking_4 rfl (lv_at hl 2 rfl) ?_
  have hPc := hP.sub (ws' := xW x ax kx) [0, 1, 2, 3, 4, 5] rfl
  have hKc := hK.sub (tys' := xT kx) [0, 1, 2, 3, 4] rfl
  refine vx_calli (vx_runV (As := [.int a, .int b]) (rest := [.int 0, .ref o]) ⟨hx, hb, hml, hown, hts⟩ (c_X7_isLacking l hst dC dI s.heap.size x ax kx a b) (cwV 2 hts (goodIn_app (goodIn_of _ (by decide +kernel)) (goodIn_sub ((fun w h => List.mem_cons_of_mem _ (List.mem_append_right _ (h)))) zgX7_isLacking)) rfl rfl rfl (by decide +kernel) ⟨Nat.le_of_ble_eq_true rfl, Nat.le_of_ble_eq_true rfl⟩) ⟨xPc_blind, va_recv hK hP (ci := 10) (q0 := 0) rfl rfl, xPc_pass hPc hKc hE hS (fun q h => hA q (Nat.le_trans hS.1 h))⟩ rfl rfl hl.1 rfl (lv_room (Nat.le_of_ble_eq_true rfl)) dL_isLacking_5 ⟨Nat.le_of_ble_eq_true rfl, Nat.le_of_ble_eq_true rfl⟩) hS (fun q _ h => hA q (Nat.le_trans hS.1 h)) (fun q h => hA q (Nat.le_trans hS.1 h)) (fun q _ h => hA q (Nat.le_trans hS.1 h)) (fun E ce q9 _ t H locs ht hvm hpx hBX hz hk hS hcell hv hcl => ?_) (fun r_1 u t H locs ht hvm hw hB hz hk hS => ?_)
  · have hBX : E = "java/lang/IndexOutOfBoundsException" := hBX
    subst hBX
    have hP := zkn hP hk
    refine vx_catch (own := RL) (name := "java/lang/IndexOutOfBoundsException") hown [] ⟨0, 17, 20, 13⟩ [] (htab.trans rfl) (fun z hz => nomatch hz) (by decide) (by decide) (hts (.classLink RL 13 "java/lang/IndexOutOfBoundsException") (by decide +kernel)) (va_Nw.use rfl (hE.2.2.2.1 _ (by decide))) hcell hv hcl ?_
    refine W.eq (g2 := F0 m 20 ls [.ref q9]) rfl ?_
    refine lv_astore (lv' := [(4, .ref q9), (0, .ref x), (1, .int a), (2, .int b), (3, .ref o)]) hx hb dL_isLacking_20 hl (by decide) rfl (fun ls hl => ?_)
    refine lv_iconst (v := 1) hx hb dL_isLacking_22 (by decide) ?_
    refine W.widen (k := 1) (n := 6) (Nat.le_of_ble_eq_true rfl) (Nat.le_of_ble_eq_true rfl) ?_
    exact W.iret (v := 1) hx hb hr (fun t ht hW => ⟨⟨1, (), rfl, rfl, trivial⟩, hS.F ht⟩) hS.2.2 dL_isLacking_23
  exact hw.elim

def zwL_firstLacking : List Cond := .codeWith yL_firstLacking cL_firstLacking 4 (some .int) [(0, 9, 12, 13), (0, 9, 15, 86)] :: (([.methodLink RL 123 yX7_firstLacking, .instanceMethod yX7_firstLacking, .selects RX7 yX7_firstLacking yX7_firstLacking, .initialized RX7, .classLink RL 13 "java/lang/IndexOutOfBoundsException"] : List Cond) ++ (zwX7_firstLacking))
theorem zgL_firstLacking : zwL_firstLacking.all goodWord = true := zgo rfl (zga (by decide +kernel) (zgX7_firstLacking))
set_option maxHeartbeats 4000000 in
set_option maxRecDepth 100000 in
theorem c_L_firstLacking (l : Launch) (hst : l.stackTraces = false) (dC : Nat → ClassId) (dI : Nat → Nat → Nat) (sz : Nat) (x : Nat) (ax : Nat → Nat) (kx : Nat → ClassId) (o : Nat) (kO : ClassId) (fo : Nat → Int64) (a : Int32) : Met l yL_firstLacking zwL_firstLacking ({ frames := 8, cells := 1, slots := 6, locals := 130 }) (gPcE dC dI sz [(x, .inr (10, [.ref (ax 0), .ref (ax 1), .ref (ax 2), .ref (ax 3), .ref (ax 4), .ref (ax 5), .int 0, .int 0, .int 0, .int 0, .int 0, .int 0])), ((ax 0), .inl ((kx 0), 8, .inl (fun _ => 0))), ((ax 1), .inl ((kx 1), 24, .inr (.inr (.inr (.inr (fun _ => none)))))), ((ax 2), .inl ((kx 2), 4, .inr (.inr (.inr (.inr (fun _ => none)))))), ((ax 3), .inl ((kx 3), 12, .inr (.inr (.inr (.inr (fun _ => none)))))), ((ax 4), .inl ((kx 4), 40, .inr (.inr (.inr (.inr (fun _ => none)))))), (o, .inl (kO, 1, .inr (.inl fo)))] [((kx 0), .int), ((kx 1), .object RX4), ((kx 2), .object RX5), ((kx 3), .object RX3), ((kx 4), .object RX0), (kO, .long)] [.ref x, .int a, .ref o]) (va_Qi (fun (r : Int32) (u : Unit) => r = 1) (fun u t => True) (va_A [(x, .inr (10, [.ref (ax 0), .ref (ax 1), .ref (ax 2), .ref (ax 3), .ref (ax 4), .ref (ax 5), .int 0, .int 0, .int 0, .int 0, .int 0, .int 0])), ((ax 0), .inl ((kx 0), 8, .inl (fun _ => 0))), ((ax 1), .inl ((kx 1), 24, .inr (.inr (.inr (.inr (fun _ => none)))))), ((ax 2), .inl ((kx 2), 4, .inr (.inr (.inr (.inr (fun _ => none)))))), ((ax 3), .inl ((kx 3), 12, .inr (.inr (.inr (.inr (fun _ => none)))))), ((ax 4), .inl ((kx 4), 40, .inr (.inr (.inr (.inr (fun _ => none)))))), (o, .inl (kO, 1, .inr (.inl fo)))] sz)) 1 6 (va_A [(x, .inr (10, [.ref (ax 0), .ref (ax 1), .ref (ax 2), .ref (ax 3), .ref (ax 4), .ref (ax 5), .int 0, .int 0, .int 0, .int 0, .int 0, .int 0])), ((ax 0), .inl ((kx 0), 8, .inl (fun _ => 0))), ((ax 1), .inl ((kx 1), 24, .inr (.inr (.inr (.inr (fun _ => none)))))), ((ax 2), .inl ((kx 2), 4, .inr (.inr (.inr (.inr (fun _ => none)))))), ((ax 3), .inl ((kx 3), 12, .inr (.inr (.inr (.inr (fun _ => none)))))), ((ax 4), .inl ((kx 4), 40, .inr (.inr (.inr (.inr (fun _ => none)))))), (o, .inl (kO, 1, .inr (.inl fo)))] sz) := by
  refine va_MetW (cc := cL_firstLacking) (maxL := 4) (ret := (some .int)) (hh := [(0, 9, 12, 13), (0, 9, 15, 86)]) (by decide) rfl ?_
  intro p e s m args below meth c s₁ B hml hv
  obtain ⟨rfl, hsz, hP, hK, hD0, hE⟩ := hv
  have hx := B.exec
  have hb := B.bytes
  have hr := B.returns
  have hts := atoms_spec (ws := zwL_firstLacking) B.pre
  have hown : s.vm.findClass RL = some m.cls := findClass_of_methodNamed B.named
  have hlocks := B.notSynchronized
  have htab : c.exceptionTable.toList = tableOf [(0, 9, 12, 13), (0, 9, 15, 86)] := vx_table (x := yL_firstLacking) B (hts (.codeWith yL_firstLacking cL_firstLacking 4 (some .int) [(0, 9, 12, 13), (0, 9, 15, 86)]) List.mem_cons_self)
  subst hsz
  have hD := hD0.self (sz := s.heap.size)
  generalize hAe : va_A [(x, .inr (10, [.ref (ax 0), .ref (ax 1), .ref (ax 2), .ref (ax 3), .ref (ax 4), .ref (ax 5), .int 0, .int 0, .int 0, .int 0, .int 0, .int 0])), ((ax 0), .inl ((kx 0), 8, .inl (fun _ => 0))), ((ax 1), .inl ((kx 1), 24, .inr (.inr (.inr (.inr (fun _ => none)))))), ((ax 2), .inl ((kx 2), 4, .inr (.inr (.inr (.inr (fun _ => none)))))), ((ax 3), .inl ((kx 3), 12, .inr (.inr (.inr (.inr (fun _ => none)))))), ((ax 4), .inl ((kx 4), 40, .inr (.inr (.inr (.inr (fun _ => none)))))), (o, .inl (kO, 1, .inr (.inl fo)))] s.heap.size = A at hD hE ⊢
  have hA : ∀ q : Nat, s.heap.size ≤ q → A q := fun q h => by rw [← hAe]; exact Or.inr h
  have hS : va_S A s.heap s.heap [] := va_S.rf
  have hP : va_P (dC, dI) vwCl [(x, .inr (10, [.ref (ax 0), .ref (ax 1), .ref (ax 2), .ref (ax 3), .ref (ax 4), .ref (ax 5), .int 0, .int 0, .int 0, .int 0, .int 0, .int 0])), ((ax 0), .inl ((kx 0), 8, .inl (fun _ => 0))), ((ax 1), .inl ((kx 1), 24, .inr (.inr (.inr (.inr (fun _ => none)))))), ((ax 2), .inl ((kx 2), 4, .inr (.inr (.inr (.inr (fun _ => none)))))), ((ax 3), .inl ((kx 3), 12, .inr (.inr (.inr (.inr (fun _ => none)))))), ((ax 4), .inl ((kx 4), 40, .inr (.inr (.inr (.inr (fun _ => none)))))), (o, .inl (kO, 1, .inr (.inl fo)))] s.heap := hP
  have hl := lv_entry ([.ref x, .int a, .ref o]) (n := 4) (Nat.le_of_ble_eq_true rfl)
  rw [lg_entry_eq]
  generalize (lg_sl ([.ref x, .int a, .ref o]) ++ List.replicate (4 - (lg_sl ([.ref x, .int a, .ref o])).length) Slot.unset).toArray = ls at hl ⊢
  have hl : lv_has ls 4 [(0, .ref x), (1, .int a), (2, .ref o)] := hl
  refine lv_aload_n hx hb dL_firstLacking_0 rfl (lv_at hl 2 rfl) ?_
  refine lv_iconst (v := 0) hx hb dL_firstLacking_1 (by decide) ?_
  refine lv_aload_n hx hb dL_firstLacking_2 rfl (lv_at hl 0 rfl) ?_
  refine lv_iload_n hx hb dL_firstLacking_3 rfl (lv_at hl 1 rfl) ?_
  have hPc := hP.sub (ws' := xW x ax kx) [0, 1, 2, 3, 4, 5] rfl
  have hKc := hK.sub (tys' := xT kx) [0, 1, 2, 3, 4] rfl
  refine vx_calli (vx_runV (As := [.int a]) (rest := [.int 0, .ref o]) ⟨hx, hb, hml, hown, hts⟩ (c_X7_firstLacking l hst dC dI s.heap.size x ax kx a) (cwV 1 hts (goodIn_app (goodIn_of _ (by decide +kernel)) (goodIn_sub ((fun w h => List.mem_cons_of_mem _ (List.mem_append_right _ (h)))) zgX7_firstLacking)) rfl rfl rfl (by decide +kernel) ⟨Nat.le_of_ble_eq_true rfl, Nat.le_of_ble_eq_true rfl⟩) ⟨xPc_blind, va_recv hK hP (ci := 10) (q0 := 0) rfl rfl, xPc_pass hPc hKc hE hS (fun q h => hA q (Nat.le_trans hS.1 h))⟩ rfl rfl hl.1 rfl (lv_room (Nat.le_of_ble_eq_true rfl)) dL_firstLacking_4 ⟨Nat.le_of_ble_eq_true rfl, Nat.le_of_ble_eq_true rfl⟩) hS (fun q _ h => hA q (Nat.le_trans hS.1 h)) (fun q h => hA q (Nat.le_trans hS.1 h)) (fun q _ h => hA q (Nat.le_trans hS.1 h)) (fun E ce q9 _ t H locs ht hvm hpx hBX hz hk hS hcell hv hcl => ?_) (fun r_1 u t H locs ht hvm hw hB hz hk hS => ?_)
  · have hBX : E = "java/lang/IndexOutOfBoundsException" := hBX
    subst hBX
    have hP := zkn hP hk
    refine vx_catch (own := RL) (name := "java/lang/IndexOutOfBoundsException") hown [] ⟨0, 9, 12, 13⟩ [⟨0, 9, 15, 86⟩] (htab.trans rfl) (fun z hz => nomatch hz) (by decide) (by decide) (hts (.classLink RL 13 "java/lang/IndexOutOfBoundsException") (by decide +kernel)) (va_Nw.use rfl (hE.2.2.2.1 _ (by decide))) hcell hv hcl ?_
    refine W.eq (g2 := F0 m 12 ls [.ref q9]) rfl ?_
    refine lv_astore_n (lv' := [(3, .ref q9), (0, .ref x), (1, .int a), (2, .ref o)]) hx hb dL_firstLacking_12 rfl hl (by decide) rfl (fun ls hl => ?_)
    refine lv_iconst (v := 1) hx hb dL_firstLacking_13 (by decide) ?_
    refine W.widen (k := 1) (n := 6) (Nat.le_of_ble_eq_true rfl) (Nat.le_of_ble_eq_true rfl) ?_
    exact W.iret (v := 1) hx hb hr (fun t ht hW => ⟨⟨1, (), rfl, rfl, trivial⟩, hS.F ht⟩) hS.2.2 dL_firstLacking_14
  exact hw.elim

def zwL_mend : List Cond := .codeWith yL_mend cL_mend 5 (some .int) [(0, 10, 13, 13), (0, 10, 17, 23)] :: (([.methodLink RL 126 yX7_mend, .instanceMethod yX7_mend, .selects RX7 yX7_mend yX7_mend, .initialized RX7, .classLink RL 13 "java/lang/IndexOutOfBoundsException"] : List Cond) ++ (zwX7_mend))
theorem zgL_mend : zwL_mend.all goodWord = true := zgo rfl (zga (by decide +kernel) (zgX7_mend))
set_option maxHeartbeats 4000000 in
set_option maxRecDepth 100000 in
theorem c_L_mend (l : Launch) (hst : l.stackTraces = false) (dC : Nat → ClassId) (dI : Nat → Nat → Nat) (sz : Nat) (x : Nat) (ax : Nat → Nat) (kx : Nat → ClassId) (o : Nat) (kO : ClassId) (fo : Nat → Int64) (a : Int32) (b : Int32) : Met l yL_mend zwL_mend ({ frames := 8, cells := 1, slots := 6, locals := 128 }) (gPcE dC dI sz [(x, .inr (10, [.ref (ax 0), .ref (ax 1), .ref (ax 2), .ref (ax 3), .ref (ax 4), .ref (ax 5), .int 0, .int 0, .int 0, .int 0, .int 0, .int 0])), ((ax 0), .inl ((kx 0), 8, .inl (fun _ => 0))), ((ax 1), .inl ((kx 1), 24, .inr (.inr (.inr (.inr (fun _ => none)))))), ((ax 2), .inl ((kx 2), 4, .inr (.inr (.inr (.inr (fun _ => none)))))), ((ax 3), .inl ((kx 3), 12, .inr (.inr (.inr (.inr (fun _ => none)))))), ((ax 4), .inl ((kx 4), 40, .inr (.inr (.inr (.inr (fun _ => none)))))), (o, .inl (kO, 1, .inr (.inl fo)))] [((kx 0), .int), ((kx 1), .object RX4), ((kx 2), .object RX5), ((kx 3), .object RX3), ((kx 4), .object RX0), (kO, .long)] [.ref x, .int a, .int b, .ref o]) (va_Qi (fun (r : Int32) (u : Unit) => r = 1) (fun u t => True) (va_A [(x, .inr (10, [.ref (ax 0), .ref (ax 1), .ref (ax 2), .ref (ax 3), .ref (ax 4), .ref (ax 5), .int 0, .int 0, .int 0, .int 0, .int 0, .int 0])), ((ax 0), .inl ((kx 0), 8, .inl (fun _ => 0))), ((ax 1), .inl ((kx 1), 24, .inr (.inr (.inr (.inr (fun _ => none)))))), ((ax 2), .inl ((kx 2), 4, .inr (.inr (.inr (.inr (fun _ => none)))))), ((ax 3), .inl ((kx 3), 12, .inr (.inr (.inr (.inr (fun _ => none)))))), ((ax 4), .inl ((kx 4), 40, .inr (.inr (.inr (.inr (fun _ => none)))))), (o, .inl (kO, 1, .inr (.inl fo)))] sz)) 1 6 (va_A [(x, .inr (10, [.ref (ax 0), .ref (ax 1), .ref (ax 2), .ref (ax 3), .ref (ax 4), .ref (ax 5), .int 0, .int 0, .int 0, .int 0, .int 0, .int 0])), ((ax 0), .inl ((kx 0), 8, .inl (fun _ => 0))), ((ax 1), .inl ((kx 1), 24, .inr (.inr (.inr (.inr (fun _ => none)))))), ((ax 2), .inl ((kx 2), 4, .inr (.inr (.inr (.inr (fun _ => none)))))), ((ax 3), .inl ((kx 3), 12, .inr (.inr (.inr (.inr (fun _ => none)))))), ((ax 4), .inl ((kx 4), 40, .inr (.inr (.inr (.inr (fun _ => none)))))), (o, .inl (kO, 1, .inr (.inl fo)))] sz) := by
  refine va_MetW (cc := cL_mend) (maxL := 5) (ret := (some .int)) (hh := [(0, 10, 13, 13), (0, 10, 17, 23)]) (by decide) rfl ?_
  intro p e s m args below meth c s₁ B hml hv
  obtain ⟨rfl, hsz, hP, hK, hD0, hE⟩ := hv
  have hx := B.exec
  have hb := B.bytes
  have hr := B.returns
  have hts := atoms_spec (ws := zwL_mend) B.pre
  have hown : s.vm.findClass RL = some m.cls := findClass_of_methodNamed B.named
  have hlocks := B.notSynchronized
  have htab : c.exceptionTable.toList = tableOf [(0, 10, 13, 13), (0, 10, 17, 23)] := vx_table (x := yL_mend) B (hts (.codeWith yL_mend cL_mend 5 (some .int) [(0, 10, 13, 13), (0, 10, 17, 23)]) List.mem_cons_self)
  subst hsz
  have hD := hD0.self (sz := s.heap.size)
  generalize hAe : va_A [(x, .inr (10, [.ref (ax 0), .ref (ax 1), .ref (ax 2), .ref (ax 3), .ref (ax 4), .ref (ax 5), .int 0, .int 0, .int 0, .int 0, .int 0, .int 0])), ((ax 0), .inl ((kx 0), 8, .inl (fun _ => 0))), ((ax 1), .inl ((kx 1), 24, .inr (.inr (.inr (.inr (fun _ => none)))))), ((ax 2), .inl ((kx 2), 4, .inr (.inr (.inr (.inr (fun _ => none)))))), ((ax 3), .inl ((kx 3), 12, .inr (.inr (.inr (.inr (fun _ => none)))))), ((ax 4), .inl ((kx 4), 40, .inr (.inr (.inr (.inr (fun _ => none)))))), (o, .inl (kO, 1, .inr (.inl fo)))] s.heap.size = A at hD hE ⊢
  have hA : ∀ q : Nat, s.heap.size ≤ q → A q := fun q h => by rw [← hAe]; exact Or.inr h
  have hS : va_S A s.heap s.heap [] := va_S.rf
  have hP : va_P (dC, dI) vwCl [(x, .inr (10, [.ref (ax 0), .ref (ax 1), .ref (ax 2), .ref (ax 3), .ref (ax 4), .ref (ax 5), .int 0, .int 0, .int 0, .int 0, .int 0, .int 0])), ((ax 0), .inl ((kx 0), 8, .inl (fun _ => 0))), ((ax 1), .inl ((kx 1), 24, .inr (.inr (.inr (.inr (fun _ => none)))))), ((ax 2), .inl ((kx 2), 4, .inr (.inr (.inr (.inr (fun _ => none)))))), ((ax 3), .inl ((kx 3), 12, .inr (.inr (.inr (.inr (fun _ => none)))))), ((ax 4), .inl ((kx 4), 40, .inr (.inr (.inr (.inr (fun _ => none)))))), (o, .inl (kO, 1, .inr (.inl fo)))] s.heap := hP
  have hl := lv_entry ([.ref x, .int a, .int b, .ref o]) (n := 5) (Nat.le_of_ble_eq_true rfl)
  rw [lg_entry_eq]
  generalize (lg_sl ([.ref x, .int a, .int b, .ref o]) ++ List.replicate (5 - (lg_sl ([.ref x, .int a, .int b, .ref o])).length) Slot.unset).toArray = ls at hl ⊢
  have hl : lv_has ls 5 [(0, .ref x), (1, .int a), (2, .int b), (3, .ref o)] := hl
  refine lv_aload_n hx hb dL_mend_0 rfl (lv_at hl 3 rfl) ?_
  refine lv_iconst (v := 0) hx hb dL_mend_1 (by decide) ?_
  refine lv_aload_n hx hb dL_mend_2 rfl (lv_at hl 0 rfl) ?_
  refine lv_iload_n hx hb dL_mend_3 rfl (lv_at hl 1 rfl) ?_
  refine lv_iload_n hx hb dL_mend_4 rfl (lv_at hl 2 rfl) ?_
  have hPc := hP.sub (ws' := xW x ax kx) [0, 1, 2, 3, 4, 5] rfl
  have hKc := hK.sub (tys' := xT kx) [0, 1, 2, 3, 4] rfl
  refine vx_calli (vx_runV (As := [.int a, .int b]) (rest := [.int 0, .ref o]) ⟨hx, hb, hml, hown, hts⟩ (c_X7_mend l hst dC dI s.heap.size x ax kx a b) (cwV 2 hts (goodIn_app (goodIn_of _ (by decide +kernel)) (goodIn_sub ((fun w h => List.mem_cons_of_mem _ (List.mem_append_right _ (h)))) zgX7_mend)) rfl rfl rfl (by decide +kernel) ⟨Nat.le_of_ble_eq_true rfl, Nat.le_of_ble_eq_true rfl⟩) ⟨xPc_blind, va_recv hK hP (ci := 10) (q0 := 0) rfl rfl, xPc_pass hPc hKc hE hS (fun q h => hA q (Nat.le_trans hS.1 h))⟩ rfl rfl hl.1 rfl (lv_room (Nat.le_of_ble_eq_true rfl)) dL_mend_5 ⟨Nat.le_of_ble_eq_true rfl, Nat.le_of_ble_eq_true rfl⟩) hS (fun q _ h => hA q (Nat.le_trans hS.1 h)) (fun q h => hA q (Nat.le_trans hS.1 h)) (fun q _ h => hA q (Nat.le_trans hS.1 h)) (fun E ce q9 _ t H locs ht hvm hpx hBX hz hk hS hcell hv hcl => ?_) (fun r_1 u t H locs ht hvm hw hB hz hk hS => ?_)
  · have hBX : E = "java/lang/IndexOutOfBoundsException" := hBX
    subst hBX
    have hP := zkn hP hk
    refine vx_catch (own := RL) (name := "java/lang/IndexOutOfBoundsException") hown [] ⟨0, 10, 13, 13⟩ [⟨0, 10, 17, 23⟩] (htab.trans rfl) (fun z hz => nomatch hz) (by decide) (by decide) (hts (.classLink RL 13 "java/lang/IndexOutOfBoundsException") (by decide +kernel)) (va_Nw.use rfl (hE.2.2.2.1 _ (by decide))) hcell hv hcl ?_
    refine W.eq (g2 := F0 m 13 ls [.ref q9]) rfl ?_
    refine lv_astore (lv' := [(4, .ref q9), (0, .ref x), (1, .int a), (2, .int b), (3, .ref o)]) hx hb dL_mend_13 hl (by decide) rfl (fun ls hl => ?_)
    refine lv_iconst (v := 1) hx hb dL_mend_15 (by decide) ?_
    refine W.widen (k := 1) (n := 6) (Nat.le_of_ble_eq_true rfl) (Nat.le_of_ble_eq_true rfl) ?_
    exact W.iret (v := 1) hx hb hr (fun t ht hW => ⟨⟨1, (), rfl, rfl, trivial⟩, hS.F ht⟩) hS.2.2 dL_mend_16
  exact hw.elim

def zwL_maker : List Cond := .codeWith yL_maker cL_maker 5 (some .int) [(0, 10, 13, 13), (0, 10, 17, 86)] :: (([.methodLink RL 129 yX7_maker, .instanceMethod yX7_maker, .selects RX7 yX7_maker yX7_maker, .initialized RX7, .classLink RL 13 "java/lang/IndexOutOfBoundsException"] : List Cond) ++ (zwX7_maker))
theorem zgL_maker : zwL_maker.all goodWord = true := zgo rfl (zga (by decide +kernel) (zgX7_maker))
set_option maxHeartbeats 4000000 in
set_option maxRecDepth 100000 in
theorem c_L_maker (l : Launch) (hst : l.stackTraces = false) (dC : Nat → ClassId) (dI : Nat → Nat → Nat) (sz : Nat) (x : Nat) (ax : Nat → Nat) (kx : Nat → ClassId) (o : Nat) (kO : ClassId) (fo : Nat → Int64) (a : Int32) (b : Int32) : Met l yL_maker zwL_maker ({ frames := 8, cells := 1, slots := 6, locals := 128 }) (gPcE dC dI sz [(x, .inr (10, [.ref (ax 0), .ref (ax 1), .ref (ax 2), .ref (ax 3), .ref (ax 4), .ref (ax 5), .int 0, .int 0, .int 0, .int 0, .int 0, .int 0])), ((ax 0), .inl ((kx 0), 8, .inl (fun _ => 0))), ((ax 1), .inl ((kx 1), 24, .inr (.inr (.inr (.inr (fun _ => none)))))), ((ax 2), .inl ((kx 2), 4, .inr (.inr (.inr (.inr (fun _ => none)))))), ((ax 3), .inl ((kx 3), 12, .inr (.inr (.inr (.inr (fun _ => none)))))), ((ax 4), .inl ((kx 4), 40, .inr (.inr (.inr (.inr (fun _ => none)))))), (o, .inl (kO, 1, .inr (.inl fo)))] [((kx 0), .int), ((kx 1), .object RX4), ((kx 2), .object RX5), ((kx 3), .object RX3), ((kx 4), .object RX0), (kO, .long)] [.ref x, .int a, .int b, .ref o]) (va_Qi (fun (r : Int32) (u : Unit) => r = 1) (fun u t => True) (va_A [(x, .inr (10, [.ref (ax 0), .ref (ax 1), .ref (ax 2), .ref (ax 3), .ref (ax 4), .ref (ax 5), .int 0, .int 0, .int 0, .int 0, .int 0, .int 0])), ((ax 0), .inl ((kx 0), 8, .inl (fun _ => 0))), ((ax 1), .inl ((kx 1), 24, .inr (.inr (.inr (.inr (fun _ => none)))))), ((ax 2), .inl ((kx 2), 4, .inr (.inr (.inr (.inr (fun _ => none)))))), ((ax 3), .inl ((kx 3), 12, .inr (.inr (.inr (.inr (fun _ => none)))))), ((ax 4), .inl ((kx 4), 40, .inr (.inr (.inr (.inr (fun _ => none)))))), (o, .inl (kO, 1, .inr (.inl fo)))] sz)) 1 6 (va_A [(x, .inr (10, [.ref (ax 0), .ref (ax 1), .ref (ax 2), .ref (ax 3), .ref (ax 4), .ref (ax 5), .int 0, .int 0, .int 0, .int 0, .int 0, .int 0])), ((ax 0), .inl ((kx 0), 8, .inl (fun _ => 0))), ((ax 1), .inl ((kx 1), 24, .inr (.inr (.inr (.inr (fun _ => none)))))), ((ax 2), .inl ((kx 2), 4, .inr (.inr (.inr (.inr (fun _ => none)))))), ((ax 3), .inl ((kx 3), 12, .inr (.inr (.inr (.inr (fun _ => none)))))), ((ax 4), .inl ((kx 4), 40, .inr (.inr (.inr (.inr (fun _ => none)))))), (o, .inl (kO, 1, .inr (.inl fo)))] sz) := by
  refine va_MetW (cc := cL_maker) (maxL := 5) (ret := (some .int)) (hh := [(0, 10, 13, 13), (0, 10, 17, 86)]) (by decide) rfl ?_
  intro p e s m args below meth c s₁ B hml hv
  obtain ⟨rfl, hsz, hP, hK, hD0, hE⟩ := hv
  have hx := B.exec
  have hb := B.bytes
  have hr := B.returns
  have hts := atoms_spec (ws := zwL_maker) B.pre
  have hown : s.vm.findClass RL = some m.cls := findClass_of_methodNamed B.named
  have hlocks := B.notSynchronized
  have htab : c.exceptionTable.toList = tableOf [(0, 10, 13, 13), (0, 10, 17, 86)] := vx_table (x := yL_maker) B (hts (.codeWith yL_maker cL_maker 5 (some .int) [(0, 10, 13, 13), (0, 10, 17, 86)]) List.mem_cons_self)
  subst hsz
  have hD := hD0.self (sz := s.heap.size)
  generalize hAe : va_A [(x, .inr (10, [.ref (ax 0), .ref (ax 1), .ref (ax 2), .ref (ax 3), .ref (ax 4), .ref (ax 5), .int 0, .int 0, .int 0, .int 0, .int 0, .int 0])), ((ax 0), .inl ((kx 0), 8, .inl (fun _ => 0))), ((ax 1), .inl ((kx 1), 24, .inr (.inr (.inr (.inr (fun _ => none)))))), ((ax 2), .inl ((kx 2), 4, .inr (.inr (.inr (.inr (fun _ => none)))))), ((ax 3), .inl ((kx 3), 12, .inr (.inr (.inr (.inr (fun _ => none)))))), ((ax 4), .inl ((kx 4), 40, .inr (.inr (.inr (.inr (fun _ => none)))))), (o, .inl (kO, 1, .inr (.inl fo)))] s.heap.size = A at hD hE ⊢
  have hA : ∀ q : Nat, s.heap.size ≤ q → A q := fun q h => by rw [← hAe]; exact Or.inr h
  have hS : va_S A s.heap s.heap [] := va_S.rf
  have hP : va_P (dC, dI) vwCl [(x, .inr (10, [.ref (ax 0), .ref (ax 1), .ref (ax 2), .ref (ax 3), .ref (ax 4), .ref (ax 5), .int 0, .int 0, .int 0, .int 0, .int 0, .int 0])), ((ax 0), .inl ((kx 0), 8, .inl (fun _ => 0))), ((ax 1), .inl ((kx 1), 24, .inr (.inr (.inr (.inr (fun _ => none)))))), ((ax 2), .inl ((kx 2), 4, .inr (.inr (.inr (.inr (fun _ => none)))))), ((ax 3), .inl ((kx 3), 12, .inr (.inr (.inr (.inr (fun _ => none)))))), ((ax 4), .inl ((kx 4), 40, .inr (.inr (.inr (.inr (fun _ => none)))))), (o, .inl (kO, 1, .inr (.inl fo)))] s.heap := hP
  have hl := lv_entry ([.ref x, .int a, .int b, .ref o]) (n := 5) (Nat.le_of_ble_eq_true rfl)
  rw [lg_entry_eq]
  generalize (lg_sl ([.ref x, .int a, .int b, .ref o]) ++ List.replicate (5 - (lg_sl ([.ref x, .int a, .int b, .ref o])).length) Slot.unset).toArray = ls at hl ⊢
  have hl : lv_has ls 5 [(0, .ref x), (1, .int a), (2, .int b), (3, .ref o)] := hl
  refine lv_aload_n hx hb dL_maker_0 rfl (lv_at hl 3 rfl) ?_
  refine lv_iconst (v := 0) hx hb dL_maker_1 (by decide) ?_
  refine lv_aload_n hx hb dL_maker_2 rfl (lv_at hl 0 rfl) ?_
  refine lv_iload_n hx hb dL_maker_3 rfl (lv_at hl 1 rfl) ?_
  refine lv_iload_n hx hb dL_maker_4 rfl (lv_at hl 2 rfl) ?_
  have hPc := hP.sub (ws' := xW x ax kx) [0, 1, 2, 3, 4, 5] rfl
  have hKc := hK.sub (tys' := xT kx) [0, 1, 2, 3, 4] rfl
  refine vx_calli (vx_runV (As := [.int a, .int b]) (rest := [.int 0, .ref o]) ⟨hx, hb, hml, hown, hts⟩ (c_X7_maker l hst dC dI s.heap.size x ax kx a b) (cwV 2 hts (goodIn_app (goodIn_of _ (by decide +kernel)) (goodIn_sub ((fun w h => List.mem_cons_of_mem _ (List.mem_append_right _ (h)))) zgX7_maker)) rfl rfl rfl (by decide +kernel) ⟨Nat.le_of_ble_eq_true rfl, Nat.le_of_ble_eq_true rfl⟩) ⟨xPc_blind, va_recv hK hP (ci := 10) (q0 := 0) rfl rfl, xPc_pass hPc hKc hE hS (fun q h => hA q (Nat.le_trans hS.1 h))⟩ rfl rfl hl.1 rfl (lv_room (Nat.le_of_ble_eq_true rfl)) dL_maker_5 ⟨Nat.le_of_ble_eq_true rfl, Nat.le_of_ble_eq_true rfl⟩) hS (fun q _ h => hA q (Nat.le_trans hS.1 h)) (fun q h => hA q (Nat.le_trans hS.1 h)) (fun q _ h => hA q (Nat.le_trans hS.1 h)) (fun E ce q9 _ t H locs ht hvm hpx hBX hz hk hS hcell hv hcl => ?_) (fun r_1 u t H locs ht hvm hw hB hz hk hS => ?_)
  · have hBX : E = "java/lang/IndexOutOfBoundsException" := hBX
    subst hBX
    have hP := zkn hP hk
    refine vx_catch (own := RL) (name := "java/lang/IndexOutOfBoundsException") hown [] ⟨0, 10, 13, 13⟩ [⟨0, 10, 17, 86⟩] (htab.trans rfl) (fun z hz => nomatch hz) (by decide) (by decide) (hts (.classLink RL 13 "java/lang/IndexOutOfBoundsException") (by decide +kernel)) (va_Nw.use rfl (hE.2.2.2.1 _ (by decide))) hcell hv hcl ?_
    refine W.eq (g2 := F0 m 13 ls [.ref q9]) rfl ?_
    refine lv_astore (lv' := [(4, .ref q9), (0, .ref x), (1, .int a), (2, .int b), (3, .ref o)]) hx hb dL_maker_13 hl (by decide) rfl (fun ls hl => ?_)
    refine lv_iconst (v := 1) hx hb dL_maker_15 (by decide) ?_
    refine W.widen (k := 1) (n := 6) (Nat.le_of_ble_eq_true rfl) (Nat.le_of_ble_eq_true rfl) ?_
    exact W.iret (v := 1) hx hb hr (fun t ht hW => ⟨⟨1, (), rfl, rfl, trivial⟩, hS.F ht⟩) hS.2.2 dL_maker_16
  exact hw.elim

def zwL_offset : List Cond := .codeWith yL_offset cL_offset 5 (some .int) [(0, 10, 13, 13), (0, 10, 17, 21)] :: (([.methodLink RL 132 yX7_offset, .instanceMethod yX7_offset, .selects RX7 yX7_offset yX7_offset, .initialized RX7, .classLink RL 13 "java/lang/IndexOutOfBoundsException"] : List Cond) ++ (zwX7_offset))
theorem zgL_offset : zwL_offset.all goodWord = true := zgo rfl (zga (by decide +kernel) (zgX7_offset))
set_option maxHeartbeats 4000000 in
set_option maxRecDepth 100000 in
theorem c_L_offset (l : Launch) (hst : l.stackTraces = false) (dC : Nat → ClassId) (dI : Nat → Nat → Nat) (sz : Nat) (x : Nat) (ax : Nat → Nat) (kx : Nat → ClassId) (o : Nat) (kO : ClassId) (fo : Nat → Int64) (a : Int32) (b : Int32) : Met l yL_offset zwL_offset ({ frames := 8, cells := 1, slots := 6, locals := 128 }) (gPcE dC dI sz [(x, .inr (10, [.ref (ax 0), .ref (ax 1), .ref (ax 2), .ref (ax 3), .ref (ax 4), .ref (ax 5), .int 0, .int 0, .int 0, .int 0, .int 0, .int 0])), ((ax 0), .inl ((kx 0), 8, .inl (fun _ => 0))), ((ax 1), .inl ((kx 1), 24, .inr (.inr (.inr (.inr (fun _ => none)))))), ((ax 2), .inl ((kx 2), 4, .inr (.inr (.inr (.inr (fun _ => none)))))), ((ax 3), .inl ((kx 3), 12, .inr (.inr (.inr (.inr (fun _ => none)))))), ((ax 4), .inl ((kx 4), 40, .inr (.inr (.inr (.inr (fun _ => none)))))), (o, .inl (kO, 1, .inr (.inl fo)))] [((kx 0), .int), ((kx 1), .object RX4), ((kx 2), .object RX5), ((kx 3), .object RX3), ((kx 4), .object RX0), (kO, .long)] [.ref x, .int a, .int b, .ref o]) (va_Qi (fun (r : Int32) (u : Unit) => r = 1) (fun u t => True) (va_A [(x, .inr (10, [.ref (ax 0), .ref (ax 1), .ref (ax 2), .ref (ax 3), .ref (ax 4), .ref (ax 5), .int 0, .int 0, .int 0, .int 0, .int 0, .int 0])), ((ax 0), .inl ((kx 0), 8, .inl (fun _ => 0))), ((ax 1), .inl ((kx 1), 24, .inr (.inr (.inr (.inr (fun _ => none)))))), ((ax 2), .inl ((kx 2), 4, .inr (.inr (.inr (.inr (fun _ => none)))))), ((ax 3), .inl ((kx 3), 12, .inr (.inr (.inr (.inr (fun _ => none)))))), ((ax 4), .inl ((kx 4), 40, .inr (.inr (.inr (.inr (fun _ => none)))))), (o, .inl (kO, 1, .inr (.inl fo)))] sz)) 1 6 (va_A [(x, .inr (10, [.ref (ax 0), .ref (ax 1), .ref (ax 2), .ref (ax 3), .ref (ax 4), .ref (ax 5), .int 0, .int 0, .int 0, .int 0, .int 0, .int 0])), ((ax 0), .inl ((kx 0), 8, .inl (fun _ => 0))), ((ax 1), .inl ((kx 1), 24, .inr (.inr (.inr (.inr (fun _ => none)))))), ((ax 2), .inl ((kx 2), 4, .inr (.inr (.inr (.inr (fun _ => none)))))), ((ax 3), .inl ((kx 3), 12, .inr (.inr (.inr (.inr (fun _ => none)))))), ((ax 4), .inl ((kx 4), 40, .inr (.inr (.inr (.inr (fun _ => none)))))), (o, .inl (kO, 1, .inr (.inl fo)))] sz) := by
  refine va_MetW (cc := cL_offset) (maxL := 5) (ret := (some .int)) (hh := [(0, 10, 13, 13), (0, 10, 17, 21)]) (by decide) rfl ?_
  intro p e s m args below meth c s₁ B hml hv
  obtain ⟨rfl, hsz, hP, hK, hD0, hE⟩ := hv
  have hx := B.exec
  have hb := B.bytes
  have hr := B.returns
  have hts := atoms_spec (ws := zwL_offset) B.pre
  have hown : s.vm.findClass RL = some m.cls := findClass_of_methodNamed B.named
  have hlocks := B.notSynchronized
  have htab : c.exceptionTable.toList = tableOf [(0, 10, 13, 13), (0, 10, 17, 21)] := vx_table (x := yL_offset) B (hts (.codeWith yL_offset cL_offset 5 (some .int) [(0, 10, 13, 13), (0, 10, 17, 21)]) List.mem_cons_self)
  subst hsz
  have hD := hD0.self (sz := s.heap.size)
  generalize hAe : va_A [(x, .inr (10, [.ref (ax 0), .ref (ax 1), .ref (ax 2), .ref (ax 3), .ref (ax 4), .ref (ax 5), .int 0, .int 0, .int 0, .int 0, .int 0, .int 0])), ((ax 0), .inl ((kx 0), 8, .inl (fun _ => 0))), ((ax 1), .inl ((kx 1), 24, .inr (.inr (.inr (.inr (fun _ => none)))))), ((ax 2), .inl ((kx 2), 4, .inr (.inr (.inr (.inr (fun _ => none)))))), ((ax 3), .inl ((kx 3), 12, .inr (.inr (.inr (.inr (fun _ => none)))))), ((ax 4), .inl ((kx 4), 40, .inr (.inr (.inr (.inr (fun _ => none)))))), (o, .inl (kO, 1, .inr (.inl fo)))] s.heap.size = A at hD hE ⊢
  have hA : ∀ q : Nat, s.heap.size ≤ q → A q := fun q h => by rw [← hAe]; exact Or.inr h
  have hS : va_S A s.heap s.heap [] := va_S.rf
  have hP : va_P (dC, dI) vwCl [(x, .inr (10, [.ref (ax 0), .ref (ax 1), .ref (ax 2), .ref (ax 3), .ref (ax 4), .ref (ax 5), .int 0, .int 0, .int 0, .int 0, .int 0, .int 0])), ((ax 0), .inl ((kx 0), 8, .inl (fun _ => 0))), ((ax 1), .inl ((kx 1), 24, .inr (.inr (.inr (.inr (fun _ => none)))))), ((ax 2), .inl ((kx 2), 4, .inr (.inr (.inr (.inr (fun _ => none)))))), ((ax 3), .inl ((kx 3), 12, .inr (.inr (.inr (.inr (fun _ => none)))))), ((ax 4), .inl ((kx 4), 40, .inr (.inr (.inr (.inr (fun _ => none)))))), (o, .inl (kO, 1, .inr (.inl fo)))] s.heap := hP
  have hl := lv_entry ([.ref x, .int a, .int b, .ref o]) (n := 5) (Nat.le_of_ble_eq_true rfl)
  rw [lg_entry_eq]
  generalize (lg_sl ([.ref x, .int a, .int b, .ref o]) ++ List.replicate (5 - (lg_sl ([.ref x, .int a, .int b, .ref o])).length) Slot.unset).toArray = ls at hl ⊢
  have hl : lv_has ls 5 [(0, .ref x), (1, .int a), (2, .int b), (3, .ref o)] := hl
  refine lv_aload_n hx hb dL_offset_0 rfl (lv_at hl 3 rfl) ?_
  refine lv_iconst (v := 0) hx hb dL_offset_1 (by decide) ?_
  refine lv_aload_n hx hb dL_offset_2 rfl (lv_at hl 0 rfl) ?_
  refine lv_iload_n hx hb dL_offset_3 rfl (lv_at hl 1 rfl) ?_
  refine lv_iload_n hx hb dL_offset_4 rfl (lv_at hl 2 rfl) ?_
  have hPc := hP.sub (ws' := xW x ax kx) [0, 1, 2, 3, 4, 5] rfl
  have hKc := hK.sub (tys' := xT kx) [0, 1, 2, 3, 4] rfl
  refine vx_calli (vx_runV (As := [.int a, .int b]) (rest := [.int 0, .ref o]) ⟨hx, hb, hml, hown, hts⟩ (c_X7_offset l hst dC dI s.heap.size x ax kx a b) (cwV 2 hts (goodIn_app (goodIn_of _ (by decide +kernel)) (goodIn_sub ((fun w h => List.mem_cons_of_mem _ (List.mem_append_right _ (h)))) zgX7_offset)) rfl rfl rfl (by decide +kernel) ⟨Nat.le_of_ble_eq_true rfl, Nat.le_of_ble_eq_true rfl⟩) ⟨xPc_blind, va_recv hK hP (ci := 10) (q0 := 0) rfl rfl, xPc_pass hPc hKc hE hS (fun q h => hA q (Nat.le_trans hS.1 h))⟩ rfl rfl hl.1 rfl (lv_room (Nat.le_of_ble_eq_true rfl)) dL_offset_5 ⟨Nat.le_of_ble_eq_true rfl, Nat.le_of_ble_eq_true rfl⟩) hS (fun q _ h => hA q (Nat.le_trans hS.1 h)) (fun q h => hA q (Nat.le_trans hS.1 h)) (fun q _ h => hA q (Nat.le_trans hS.1 h)) (fun E ce q9 _ t H locs ht hvm hpx hBX hz hk hS hcell hv hcl => ?_) (fun r_1 u t H locs ht hvm hw hB hz hk hS => ?_)
  · have hBX : E = "java/lang/IndexOutOfBoundsException" := hBX
    subst hBX
    have hP := zkn hP hk
    refine vx_catch (own := RL) (name := "java/lang/IndexOutOfBoundsException") hown [] ⟨0, 10, 13, 13⟩ [⟨0, 10, 17, 21⟩] (htab.trans rfl) (fun z hz => nomatch hz) (by decide) (by decide) (hts (.classLink RL 13 "java/lang/IndexOutOfBoundsException") (by decide +kernel)) (va_Nw.use rfl (hE.2.2.2.1 _ (by decide))) hcell hv hcl ?_
    refine W.eq (g2 := F0 m 13 ls [.ref q9]) rfl ?_
    refine lv_astore (lv' := [(4, .ref q9), (0, .ref x), (1, .int a), (2, .int b), (3, .ref o)]) hx hb dL_offset_13 hl (by decide) rfl (fun ls hl => ?_)
    refine lv_iconst (v := 1) hx hb dL_offset_15 (by decide) ?_
    refine W.widen (k := 1) (n := 6) (Nat.le_of_ble_eq_true rfl) (Nat.le_of_ble_eq_true rfl) ?_
    exact W.iret (v := 1) hx hb hr (fun t ht hW => ⟨⟨1, (), rfl, rfl, trivial⟩, hS.F ht⟩) hS.2.2 dL_offset_16
  exact hw.elim

def zwL_measure : List Cond := .codeWith yL_measure cL_measure 4 (some .int) [(0, 9, 12, 13), (0, 9, 15, 86)] :: (([.methodLink RL 135 yX7_measure, .instanceMethod yX7_measure, .selects RX7 yX7_measure yX7_measure, .initialized RX7, .classLink RL 13 "java/lang/IndexOutOfBoundsException"] : List Cond) ++ (zwX7_measure))
theorem zgL_measure : zwL_measure.all goodWord = true := zgo rfl (zga (by decide +kernel) (zgX7_measure))
set_option maxHeartbeats 4000000 in
set_option maxRecDepth 100000 in
theorem c_L_measure (l : Launch) (hst : l.stackTraces = false) (dC : Nat → ClassId) (dI : Nat → Nat → Nat) (sz : Nat) (x : Nat) (ax : Nat → Nat) (kx : Nat → ClassId) (o : Nat) (kO : ClassId) (fo : Nat → Int64) (a : Int32) : Met l yL_measure zwL_measure ({ frames := 8, cells := 1, slots := 6, locals := 126 }) (gPcE dC dI sz [(x, .inr (10, [.ref (ax 0), .ref (ax 1), .ref (ax 2), .ref (ax 3), .ref (ax 4), .ref (ax 5), .int 0, .int 0, .int 0, .int 0, .int 0, .int 0])), ((ax 0), .inl ((kx 0), 8, .inl (fun _ => 0))), ((ax 1), .inl ((kx 1), 24, .inr (.inr (.inr (.inr (fun _ => none)))))), ((ax 2), .inl ((kx 2), 4, .inr (.inr (.inr (.inr (fun _ => none)))))), ((ax 3), .inl ((kx 3), 12, .inr (.inr (.inr (.inr (fun _ => none)))))), ((ax 4), .inl ((kx 4), 40, .inr (.inr (.inr (.inr (fun _ => none)))))), (o, .inl (kO, 1, .inr (.inl fo)))] [((kx 0), .int), ((kx 1), .object RX4), ((kx 2), .object RX5), ((kx 3), .object RX3), ((kx 4), .object RX0), (kO, .long)] [.ref x, .int a, .ref o]) (va_Qi (fun (r : Int32) (u : Unit) => r = 1) (fun u t => True) (va_A [(x, .inr (10, [.ref (ax 0), .ref (ax 1), .ref (ax 2), .ref (ax 3), .ref (ax 4), .ref (ax 5), .int 0, .int 0, .int 0, .int 0, .int 0, .int 0])), ((ax 0), .inl ((kx 0), 8, .inl (fun _ => 0))), ((ax 1), .inl ((kx 1), 24, .inr (.inr (.inr (.inr (fun _ => none)))))), ((ax 2), .inl ((kx 2), 4, .inr (.inr (.inr (.inr (fun _ => none)))))), ((ax 3), .inl ((kx 3), 12, .inr (.inr (.inr (.inr (fun _ => none)))))), ((ax 4), .inl ((kx 4), 40, .inr (.inr (.inr (.inr (fun _ => none)))))), (o, .inl (kO, 1, .inr (.inl fo)))] sz)) 1 6 (va_A [(x, .inr (10, [.ref (ax 0), .ref (ax 1), .ref (ax 2), .ref (ax 3), .ref (ax 4), .ref (ax 5), .int 0, .int 0, .int 0, .int 0, .int 0, .int 0])), ((ax 0), .inl ((kx 0), 8, .inl (fun _ => 0))), ((ax 1), .inl ((kx 1), 24, .inr (.inr (.inr (.inr (fun _ => none)))))), ((ax 2), .inl ((kx 2), 4, .inr (.inr (.inr (.inr (fun _ => none)))))), ((ax 3), .inl ((kx 3), 12, .inr (.inr (.inr (.inr (fun _ => none)))))), ((ax 4), .inl ((kx 4), 40, .inr (.inr (.inr (.inr (fun _ => none)))))), (o, .inl (kO, 1, .inr (.inl fo)))] sz) := by
  refine va_MetW (cc := cL_measure) (maxL := 4) (ret := (some .int)) (hh := [(0, 9, 12, 13), (0, 9, 15, 86)]) (by decide) rfl ?_
  intro p e s m args below meth c s₁ B hml hv
  obtain ⟨rfl, hsz, hP, hK, hD0, hE⟩ := hv
  have hx := B.exec
  have hb := B.bytes
  have hr := B.returns
  have hts := atoms_spec (ws := zwL_measure) B.pre
  have hown : s.vm.findClass RL = some m.cls := findClass_of_methodNamed B.named
  have hlocks := B.notSynchronized
  have htab : c.exceptionTable.toList = tableOf [(0, 9, 12, 13), (0, 9, 15, 86)] := vx_table (x := yL_measure) B (hts (.codeWith yL_measure cL_measure 4 (some .int) [(0, 9, 12, 13), (0, 9, 15, 86)]) List.mem_cons_self)
  subst hsz
  have hD := hD0.self (sz := s.heap.size)
  generalize hAe : va_A [(x, .inr (10, [.ref (ax 0), .ref (ax 1), .ref (ax 2), .ref (ax 3), .ref (ax 4), .ref (ax 5), .int 0, .int 0, .int 0, .int 0, .int 0, .int 0])), ((ax 0), .inl ((kx 0), 8, .inl (fun _ => 0))), ((ax 1), .inl ((kx 1), 24, .inr (.inr (.inr (.inr (fun _ => none)))))), ((ax 2), .inl ((kx 2), 4, .inr (.inr (.inr (.inr (fun _ => none)))))), ((ax 3), .inl ((kx 3), 12, .inr (.inr (.inr (.inr (fun _ => none)))))), ((ax 4), .inl ((kx 4), 40, .inr (.inr (.inr (.inr (fun _ => none)))))), (o, .inl (kO, 1, .inr (.inl fo)))] s.heap.size = A at hD hE ⊢
  have hA : ∀ q : Nat, s.heap.size ≤ q → A q := fun q h => by rw [← hAe]; exact Or.inr h
  have hS : va_S A s.heap s.heap [] := va_S.rf
  have hP : va_P (dC, dI) vwCl [(x, .inr (10, [.ref (ax 0), .ref (ax 1), .ref (ax 2), .ref (ax 3), .ref (ax 4), .ref (ax 5), .int 0, .int 0, .int 0, .int 0, .int 0, .int 0])), ((ax 0), .inl ((kx 0), 8, .inl (fun _ => 0))), ((ax 1), .inl ((kx 1), 24, .inr (.inr (.inr (.inr (fun _ => none)))))), ((ax 2), .inl ((kx 2), 4, .inr (.inr (.inr (.inr (fun _ => none)))))), ((ax 3), .inl ((kx 3), 12, .inr (.inr (.inr (.inr (fun _ => none)))))), ((ax 4), .inl ((kx 4), 40, .inr (.inr (.inr (.inr (fun _ => none)))))), (o, .inl (kO, 1, .inr (.inl fo)))] s.heap := hP
  have hl := lv_entry ([.ref x, .int a, .ref o]) (n := 4) (Nat.le_of_ble_eq_true rfl)
  rw [lg_entry_eq]
  generalize (lg_sl ([.ref x, .int a, .ref o]) ++ List.replicate (4 - (lg_sl ([.ref x, .int a, .ref o])).length) Slot.unset).toArray = ls at hl ⊢
  have hl : lv_has ls 4 [(0, .ref x), (1, .int a), (2, .ref o)] := hl
  refine lv_aload_n hx hb dL_measure_0 rfl (lv_at hl 2 rfl) ?_
  refine lv_iconst (v := 0) hx hb dL_measure_1 (by decide) ?_
  refine lv_aload_n hx hb dL_measure_2 rfl (lv_at hl 0 rfl) ?_
  refine lv_iload_n hx hb dL_measure_3 rfl (lv_at hl 1 rfl) ?_
  have hPc := hP.sub (ws' := xW x ax kx) [0, 1, 2, 3, 4, 5] rfl
  have hKc := hK.sub (tys' := xT kx) [0, 1, 2, 3, 4] rfl
  refine vx_calli (vx_runV (As := [.int a]) (rest := [.int 0, .ref o]) ⟨hx, hb, hml, hown, hts⟩ (c_X7_measure l hst dC dI s.heap.size x ax kx a) (cwV 1 hts (goodIn_app (goodIn_of _ (by decide +kernel)) (goodIn_sub ((fun w h => List.mem_cons_of_mem _ (List.mem_append_right _ (h)))) zgX7_measure)) rfl rfl rfl (by decide +kernel) ⟨Nat.le_of_ble_eq_true rfl, Nat.le_of_ble_eq_true rfl⟩) ⟨xPc_blind, va_recv hK hP (ci := 10) (q0 := 0) rfl rfl, xPc_pass hPc hKc hE hS (fun q h => hA q (Nat.le_trans hS.1 h))⟩ rfl rfl hl.1 rfl (lv_room (Nat.le_of_ble_eq_true rfl)) dL_measure_4 ⟨Nat.le_of_ble_eq_true rfl, Nat.le_of_ble_eq_true rfl⟩) hS (fun q _ h => hA q (Nat.le_trans hS.1 h)) (fun q h => hA q (Nat.le_trans hS.1 h)) (fun q _ h => hA q (Nat.le_trans hS.1 h)) (fun E ce q9 _ t H locs ht hvm hpx hBX hz hk hS hcell hv hcl => ?_) (fun r_1 u t H locs ht hvm hw hB hz hk hS => ?_)
  · have hBX : E = "java/lang/IndexOutOfBoundsException" := hBX
    subst hBX
    have hP := zkn hP hk
    refine vx_catch (own := RL) (name := "java/lang/IndexOutOfBoundsException") hown [] ⟨0, 9, 12, 13⟩ [⟨0, 9, 15, 86⟩] (htab.trans rfl) (fun z hz => nomatch hz) (by decide) (by decide) (hts (.classLink RL 13 "java/lang/IndexOutOfBoundsException") (by decide +kernel)) (va_Nw.use rfl (hE.2.2.2.1 _ (by decide))) hcell hv hcl ?_
    refine W.eq (g2 := F0 m 12 ls [.ref q9]) rfl ?_
    refine lv_astore_n (lv' := [(3, .ref q9), (0, .ref x), (1, .int a), (2, .ref o)]) hx hb dL_measure_12 rfl hl (by decide) rfl (fun ls hl => ?_)
    refine lv_iconst (v := 1) hx hb dL_measure_13 (by decide) ?_
    refine W.widen (k := 1) (n := 6) (Nat.le_of_ble_eq_true rfl) (Nat.le_of_ble_eq_true rfl) ?_
    exact W.iret (v := 1) hx hb hr (fun t ht hW => ⟨⟨1, (), rfl, rfl, trivial⟩, hS.F ht⟩) hS.2.2 dL_measure_14
  exact hw.elim

def zwL_feedBack : List Cond := .codeWith yL_feedBack cL_feedBack 5 (some .int) [(0, 10, 13, 13), (0, 10, 17, 21), (0, 10, 21, 86)] :: (([.methodLink RL 138 yX7_feedBack, .instanceMethod yX7_feedBack, .selects RX7 yX7_feedBack yX7_feedBack, .initialized RX7, .classLink RL 13 "java/lang/IndexOutOfBoundsException"] : List Cond) ++ (zwX7_feedBack))
theorem zgL_feedBack : zwL_feedBack.all goodWord = true := zgo rfl (zga (by decide +kernel) (zgX7_feedBack))
set_option maxHeartbeats 4000000 in
set_option maxRecDepth 100000 in
theorem c_L_feedBack (l : Launch) (hst : l.stackTraces = false) (dC : Nat → ClassId) (dI : Nat → Nat → Nat) (sz : Nat) (x : Nat) (ax : Nat → Nat) (kx : Nat → ClassId) (o : Nat) (kO : ClassId) (fo : Nat → Int64) (a : Int32) (b : Int32) : Met l yL_feedBack zwL_feedBack ({ frames := 8, cells := 1, slots := 6, locals := 128 }) (gPcE dC dI sz [(x, .inr (10, [.ref (ax 0), .ref (ax 1), .ref (ax 2), .ref (ax 3), .ref (ax 4), .ref (ax 5), .int 0, .int 0, .int 0, .int 0, .int 0, .int 0])), ((ax 0), .inl ((kx 0), 8, .inl (fun _ => 0))), ((ax 1), .inl ((kx 1), 24, .inr (.inr (.inr (.inr (fun _ => none)))))), ((ax 2), .inl ((kx 2), 4, .inr (.inr (.inr (.inr (fun _ => none)))))), ((ax 3), .inl ((kx 3), 12, .inr (.inr (.inr (.inr (fun _ => none)))))), ((ax 4), .inl ((kx 4), 40, .inr (.inr (.inr (.inr (fun _ => none)))))), (o, .inl (kO, 1, .inr (.inl fo)))] [((kx 0), .int), ((kx 1), .object RX4), ((kx 2), .object RX5), ((kx 3), .object RX3), ((kx 4), .object RX0), (kO, .long)] [.ref x, .int a, .int b, .ref o]) (va_Qi (fun (r : Int32) (u : Unit) => r = 1) (fun u t => True) (va_A [(x, .inr (10, [.ref (ax 0), .ref (ax 1), .ref (ax 2), .ref (ax 3), .ref (ax 4), .ref (ax 5), .int 0, .int 0, .int 0, .int 0, .int 0, .int 0])), ((ax 0), .inl ((kx 0), 8, .inl (fun _ => 0))), ((ax 1), .inl ((kx 1), 24, .inr (.inr (.inr (.inr (fun _ => none)))))), ((ax 2), .inl ((kx 2), 4, .inr (.inr (.inr (.inr (fun _ => none)))))), ((ax 3), .inl ((kx 3), 12, .inr (.inr (.inr (.inr (fun _ => none)))))), ((ax 4), .inl ((kx 4), 40, .inr (.inr (.inr (.inr (fun _ => none)))))), (o, .inl (kO, 1, .inr (.inl fo)))] sz)) 1 6 (va_A [(x, .inr (10, [.ref (ax 0), .ref (ax 1), .ref (ax 2), .ref (ax 3), .ref (ax 4), .ref (ax 5), .int 0, .int 0, .int 0, .int 0, .int 0, .int 0])), ((ax 0), .inl ((kx 0), 8, .inl (fun _ => 0))), ((ax 1), .inl ((kx 1), 24, .inr (.inr (.inr (.inr (fun _ => none)))))), ((ax 2), .inl ((kx 2), 4, .inr (.inr (.inr (.inr (fun _ => none)))))), ((ax 3), .inl ((kx 3), 12, .inr (.inr (.inr (.inr (fun _ => none)))))), ((ax 4), .inl ((kx 4), 40, .inr (.inr (.inr (.inr (fun _ => none)))))), (o, .inl (kO, 1, .inr (.inl fo)))] sz) := by
  refine va_MetW (cc := cL_feedBack) (maxL := 5) (ret := (some .int)) (hh := [(0, 10, 13, 13), (0, 10, 17, 21), (0, 10, 21, 86)]) (by decide) rfl ?_
  intro p e s m args below meth c s₁ B hml hv
  obtain ⟨rfl, hsz, hP, hK, hD0, hE⟩ := hv
  have hx := B.exec
  have hb := B.bytes
  have hr := B.returns
  have hts := atoms_spec (ws := zwL_feedBack) B.pre
  have hown : s.vm.findClass RL = some m.cls := findClass_of_methodNamed B.named
  have hlocks := B.notSynchronized
  have htab : c.exceptionTable.toList = tableOf [(0, 10, 13, 13), (0, 10, 17, 21), (0, 10, 21, 86)] := vx_table (x := yL_feedBack) B (hts (.codeWith yL_feedBack cL_feedBack 5 (some .int) [(0, 10, 13, 13), (0, 10, 17, 21), (0, 10, 21, 86)]) List.mem_cons_self)
  subst hsz
  have hD := hD0.self (sz := s.heap.size)
  generalize hAe : va_A [(x, .inr (10, [.ref (ax 0), .ref (ax 1), .ref (ax 2), .ref (ax 3), .ref (ax 4), .ref (ax 5), .int 0, .int 0, .int 0, .int 0, .int 0, .int 0])), ((ax 0), .inl ((kx 0), 8, .inl (fun _ => 0))), ((ax 1), .inl ((kx 1), 24, .inr (.inr (.inr (.inr (fun _ => none)))))), ((ax 2), .inl ((kx 2), 4, .inr (.inr (.inr (.inr (fun _ => none)))))), ((ax 3), .inl ((kx 3), 12, .inr (.inr (.inr (.inr (fun _ => none)))))), ((ax 4), .inl ((kx 4), 40, .inr (.inr (.inr (.inr (fun _ => none)))))), (o, .inl (kO, 1, .inr (.inl fo)))] s.heap.size = A at hD hE ⊢
  have hA : ∀ q : Nat, s.heap.size ≤ q → A q := fun q h => by rw [← hAe]; exact Or.inr h
  have hS : va_S A s.heap s.heap [] := va_S.rf
  have hP : va_P (dC, dI) vwCl [(x, .inr (10, [.ref (ax 0), .ref (ax 1), .ref (ax 2), .ref (ax 3), .ref (ax 4), .ref (ax 5), .int 0, .int 0, .int 0, .int 0, .int 0, .int 0])), ((ax 0), .inl ((kx 0), 8, .inl (fun _ => 0))), ((ax 1), .inl ((kx 1), 24, .inr (.inr (.inr (.inr (fun _ => none)))))), ((ax 2), .inl ((kx 2), 4, .inr (.inr (.inr (.inr (fun _ => none)))))), ((ax 3), .inl ((kx 3), 12, .inr (.inr (.inr (.inr (fun _ => none)))))), ((ax 4), .inl ((kx 4), 40, .inr (.inr (.inr (.inr (fun _ => none)))))), (o, .inl (kO, 1, .inr (.inl fo)))] s.heap := hP
  have hl := lv_entry ([.ref x, .int a, .int b, .ref o]) (n := 5) (Nat.le_of_ble_eq_true rfl)
  rw [lg_entry_eq]
  generalize (lg_sl ([.ref x, .int a, .int b, .ref o]) ++ List.replicate (5 - (lg_sl ([.ref x, .int a, .int b, .ref o])).length) Slot.unset).toArray = ls at hl ⊢
  have hl : lv_has ls 5 [(0, .ref x), (1, .int a), (2, .int b), (3, .ref o)] := hl
  refine lv_aload_n hx hb dL_feedBack_0 rfl (lv_at hl 3 rfl) ?_
  refine lv_iconst (v := 0) hx hb dL_feedBack_1 (by decide) ?_
  refine lv_aload_n hx hb dL_feedBack_2 rfl (lv_at hl 0 rfl) ?_
  refine lv_iload_n hx hb dL_feedBack_3 rfl (lv_at hl 1 rfl) ?_
  refine lv_iload_n hx hb dL_feedBack_4 rfl (lv_at hl 2 rfl) ?_
  have hPc := hP.sub (ws' := xW x ax kx) [0, 1, 2, 3, 4, 5] rfl
  have hKc := hK.sub (tys' := xT kx) [0, 1, 2, 3, 4] rfl
  refine vx_calli (vx_runV (As := [.int a, .int b]) (rest := [.int 0, .ref o]) ⟨hx, hb, hml, hown, hts⟩ (c_X7_feedBack l hst dC dI s.heap.size x ax kx a b) (cwV 2 hts (goodIn_app (goodIn_of _ (by decide +kernel)) (goodIn_sub ((fun w h => List.mem_cons_of_mem _ (List.mem_append_right _ (h)))) zgX7_feedBack)) rfl rfl rfl (by decide +kernel) ⟨Nat.le_of_ble_eq_true rfl, Nat.le_of_ble_eq_true rfl⟩) ⟨xPc_blind, va_recv hK hP (ci := 10) (q0 := 0) rfl rfl, xPc_pass hPc hKc hE hS (fun q h => hA q (Nat.le_trans hS.1 h))⟩ rfl rfl hl.1 rfl (lv_room (Nat.le_of_ble_eq_true rfl)) dL_feedBack_5 ⟨Nat.le_of_ble_eq_true rfl, Nat.le_of_ble_eq_true rfl⟩) hS (fun q _ h => hA q (Nat.le_trans hS.1 h)) (fun q h => hA q (Nat.le_trans hS.1 h)) (fun q _ h => hA q (Nat.le_trans hS.1 h)) (fun E ce q9 _ t H locs ht hvm hpx hBX hz hk hS hcell hv hcl => ?_) (fun r_1 u t H locs ht hvm hw hB hz hk hS => ?_)
  · have hBX : E = "java/lang/IndexOutOfBoundsException" := hBX
    subst hBX
    have hP := zkn hP hk
    refine vx_catch (own := RL) (name := "java/lang/IndexOutOfBoundsException") hown [] ⟨0, 10, 13, 13⟩ [⟨0, 10, 17, 21⟩, ⟨0, 10, 21, 86⟩] (htab.trans rfl) (fun z hz => nomatch hz) (by decide) (by decide) (hts (.classLink RL 13 "java/lang/IndexOutOfBoundsException") (by decide +kernel)) (va_Nw.use rfl (hE.2.2.2.1 _ (by decide))) hcell hv hcl ?_
    refine W.eq (g2 := F0 m 13 ls [.ref q9]) rfl ?_
    refine lv_astore (lv' := [(4, .ref q9), (0, .ref x), (1, .int a), (2, .int b), (3, .ref o)]) hx hb dL_feedBack_13 hl (by decide) rfl (fun ls hl => ?_)
    refine lv_iconst (v := 1) hx hb dL_feedBack_15 (by decide) ?_
    refine W.widen (k := 1) (n := 6) (Nat.le_of_ble_eq_true rfl) (Nat.le_of_ble_eq_true rfl) ?_
    exact W.iret (v := 1) hx hb hr (fun t ht hW => ⟨⟨1, (), rfl, rfl, trivial⟩, hS.F ht⟩) hS.2.2 dL_feedBack_16
  exact hw.elim

def zwL_wholeShare : List Cond := .codeWith yL_wholeShare cL_wholeShare 3 (some .int) [(0, 8, 11, 86)] :: (([.methodLink RL 141 yX7_wholeShare, .instanceMethod yX7_wholeShare, .selects RX7 yX7_wholeShare yX7_wholeShare, .initialized RX7, .classLink RL 86 "java/util/NoSuchElementException"] : List Cond) ++ (zwX7_wholeShare))
theorem zgL_wholeShare : zwL_wholeShare.all goodWord = true := zgo rfl (zga (by decide +kernel) (zgX7_wholeShare))
set_option maxHeartbeats 4000000 in
set_option maxRecDepth 100000 in
theorem c_L_wholeShare (l : Launch) (hst : l.stackTraces = false) (dC : Nat → ClassId) (dI : Nat → Nat → Nat) (sz : Nat) (x : Nat) (ax : Nat → Nat) (kx : Nat → ClassId) (o : Nat) (kO : ClassId) (fo : Nat → UInt64) : Met l yL_wholeShare zwL_wholeShare ({ frames := 7, cells := 1, slots := 6, locals := 103 }) (gPcE dC dI sz [(x, .inr (10, [.ref (ax 0), .ref (ax 1), .ref (ax 2), .ref (ax 3), .ref (ax 4), .ref (ax 5), .int 0, .int 0, .int 0, .int 0, .int 0, .int 0])), ((ax 0), .inl ((kx 0), 8, .inl (fun _ => 0))), ((ax 1), .inl ((kx 1), 24, .inr (.inr (.inr (.inr (fun _ => none)))))), ((ax 2), .inl ((kx 2), 4, .inr (.inr (.inr (.inr (fun _ => none)))))), ((ax 3), .inl ((kx 3), 12, .inr (.inr (.inr (.inr (fun _ => none)))))), ((ax 4), .inl ((kx 4), 40, .inr (.inr (.inr (.inr (fun _ => none)))))), (o, .inl (kO, 1, .inr (.inr (.inr (.inl fo)))))] [((kx 0), .int), ((kx 1), .object RX4), ((kx 2), .object RX5), ((kx 3), .object RX3), ((kx 4), .object RX0), (kO, .double)] [.ref x, .ref o]) (va_Qi (fun (r : Int32) (u : Unit) => r = 1) (fun u t => True) (va_A [(x, .inr (10, [.ref (ax 0), .ref (ax 1), .ref (ax 2), .ref (ax 3), .ref (ax 4), .ref (ax 5), .int 0, .int 0, .int 0, .int 0, .int 0, .int 0])), ((ax 0), .inl ((kx 0), 8, .inl (fun _ => 0))), ((ax 1), .inl ((kx 1), 24, .inr (.inr (.inr (.inr (fun _ => none)))))), ((ax 2), .inl ((kx 2), 4, .inr (.inr (.inr (.inr (fun _ => none)))))), ((ax 3), .inl ((kx 3), 12, .inr (.inr (.inr (.inr (fun _ => none)))))), ((ax 4), .inl ((kx 4), 40, .inr (.inr (.inr (.inr (fun _ => none)))))), (o, .inl (kO, 1, .inr (.inr (.inr (.inl fo)))))] sz)) 1 6 (va_A [(x, .inr (10, [.ref (ax 0), .ref (ax 1), .ref (ax 2), .ref (ax 3), .ref (ax 4), .ref (ax 5), .int 0, .int 0, .int 0, .int 0, .int 0, .int 0])), ((ax 0), .inl ((kx 0), 8, .inl (fun _ => 0))), ((ax 1), .inl ((kx 1), 24, .inr (.inr (.inr (.inr (fun _ => none)))))), ((ax 2), .inl ((kx 2), 4, .inr (.inr (.inr (.inr (fun _ => none)))))), ((ax 3), .inl ((kx 3), 12, .inr (.inr (.inr (.inr (fun _ => none)))))), ((ax 4), .inl ((kx 4), 40, .inr (.inr (.inr (.inr (fun _ => none)))))), (o, .inl (kO, 1, .inr (.inr (.inr (.inl fo)))))] sz) := by
  refine va_MetW (cc := cL_wholeShare) (maxL := 3) (ret := (some .int)) (hh := [(0, 8, 11, 86)]) (by decide) rfl ?_
  intro p e s m args below meth c s₁ B hml hv
  obtain ⟨rfl, hsz, hP, hK, hD0, hE⟩ := hv
  have hx := B.exec
  have hb := B.bytes
  have hr := B.returns
  have hts := atoms_spec (ws := zwL_wholeShare) B.pre
  have hown : s.vm.findClass RL = some m.cls := findClass_of_methodNamed B.named
  have hlocks := B.notSynchronized
  have htab : c.exceptionTable.toList = tableOf [(0, 8, 11, 86)] := vx_table (x := yL_wholeShare) B (hts (.codeWith yL_wholeShare cL_wholeShare 3 (some .int) [(0, 8, 11, 86)]) List.mem_cons_self)
  subst hsz
  have hD := hD0.self (sz := s.heap.size)
  generalize hAe : va_A [(x, .inr (10, [.ref (ax 0), .ref (ax 1), .ref (ax 2), .ref (ax 3), .ref (ax 4), .ref (ax 5), .int 0, .int 0, .int 0, .int 0, .int 0, .int 0])), ((ax 0), .inl ((kx 0), 8, .inl (fun _ => 0))), ((ax 1), .inl ((kx 1), 24, .inr (.inr (.inr (.inr (fun _ => none)))))), ((ax 2), .inl ((kx 2), 4, .inr (.inr (.inr (.inr (fun _ => none)))))), ((ax 3), .inl ((kx 3), 12, .inr (.inr (.inr (.inr (fun _ => none)))))), ((ax 4), .inl ((kx 4), 40, .inr (.inr (.inr (.inr (fun _ => none)))))), (o, .inl (kO, 1, .inr (.inr (.inr (.inl fo)))))] s.heap.size = A at hD hE ⊢
  have hA : ∀ q : Nat, s.heap.size ≤ q → A q := fun q h => by rw [← hAe]; exact Or.inr h
  have hS : va_S A s.heap s.heap [] := va_S.rf
  have hP : va_P (dC, dI) vwCl [(x, .inr (10, [.ref (ax 0), .ref (ax 1), .ref (ax 2), .ref (ax 3), .ref (ax 4), .ref (ax 5), .int 0, .int 0, .int 0, .int 0, .int 0, .int 0])), ((ax 0), .inl ((kx 0), 8, .inl (fun _ => 0))), ((ax 1), .inl ((kx 1), 24, .inr (.inr (.inr (.inr (fun _ => none)))))), ((ax 2), .inl ((kx 2), 4, .inr (.inr (.inr (.inr (fun _ => none)))))), ((ax 3), .inl ((kx 3), 12, .inr (.inr (.inr (.inr (fun _ => none)))))), ((ax 4), .inl ((kx 4), 40, .inr (.inr (.inr (.inr (fun _ => none)))))), (o, .inl (kO, 1, .inr (.inr (.inr (.inl fo)))))] s.heap := hP
  have hl := lv_entry ([.ref x, .ref o]) (n := 3) (Nat.le_of_ble_eq_true rfl)
  rw [lg_entry_eq]
  generalize (lg_sl ([.ref x, .ref o]) ++ List.replicate (3 - (lg_sl ([.ref x, .ref o])).length) Slot.unset).toArray = ls at hl ⊢
  have hl : lv_has ls 3 [(0, .ref x), (1, .ref o)] := hl
  refine lv_aload_n hx hb dL_wholeShare_0 rfl (lv_at hl 1 rfl) ?_
  refine lv_iconst (v := 0) hx hb dL_wholeShare_1 (by decide) ?_
  refine lv_aload_n hx hb dL_wholeShare_2 rfl (lv_at hl 0 rfl) ?_
  have hPc := hP.sub (ws' := xW x ax kx) [0, 1, 2, 3, 4, 5] rfl
  have hKc := hK.sub (tys' := xT kx) [0, 1, 2, 3, 4] rfl
  refine vx_calli (vx_runV (As := []) (rest := [.int 0, .ref o]) ⟨hx, hb, hml, hown, hts⟩ (c_X7_wholeShare l hst dC dI s.heap.size x ax kx) (cwV 0 hts (goodIn_app (goodIn_of _ (by decide +kernel)) (goodIn_sub ((fun w h => List.mem_cons_of_mem _ (List.mem_append_right _ (h)))) zgX7_wholeShare)) rfl rfl rfl (by decide +kernel) ⟨Nat.le_of_ble_eq_true rfl, Nat.le_of_ble_eq_true rfl⟩) ⟨xPc_blind, va_recv hK hP (ci := 10) (q0 := 0) rfl rfl, xPc_pass hPc hKc hE hS (fun q h => hA q (Nat.le_trans hS.1 h))⟩ rfl rfl hl.1 rfl (lv_room (Nat.le_of_ble_eq_true rfl)) dL_wholeShare_3 ⟨Nat.le_of_ble_eq_true rfl, Nat.le_of_ble_eq_true rfl⟩) hS (fun q _ h => hA q (Nat.le_trans hS.1 h)) (fun q h => hA q (Nat.le_trans hS.1 h)) (fun q _ h => hA q (Nat.le_trans hS.1 h)) (fun E ce q9 _ t H locs ht hvm hpx hBX hz hk hS hcell hv hcl => ?_) (fun r_1 u t H locs ht hvm hw hB hz hk hS => ?_)
  · have hBX : E = "java/util/NoSuchElementException" := hBX
    subst hBX
    have hP := zkn hP hk
    refine vx_catch (own := RL) (name := "java/util/NoSuchElementException") hown [] ⟨0, 8, 11, 86⟩ [] (htab.trans rfl) (fun z hz => nomatch hz) (by decide) (by decide) (hts (.classLink RL 86 "java/util/NoSuchElementException") (by decide +kernel)) (va_Nw.use rfl (hE.2.2.2.1 _ (by decide))) hcell hv hcl ?_
    refine W.eq (g2 := F0 m 11 ls [.ref q9]) rfl ?_
    refine lv_astore_n (lv' := [(2, .ref q9), (0, .ref x), (1, .ref o)]) hx hb dL_wholeShare_11 rfl hl (by decide) rfl (fun ls hl => ?_)
    refine lv_iconst (v := 1) hx hb dL_wholeShare_12 (by decide) ?_
    refine W.widen (k := 1) (n := 6) (Nat.le_of_ble_eq_true rfl) (Nat.le_of_ble_eq_true rfl) ?_
    exact W.iret (v := 1) hx hb hr (fun t ht hW => ⟨⟨1, (), rfl, rfl, trivial⟩, hS.F ht⟩) hS.2.2 dL_wholeShare_13
  exact hw.elim

def zwL_meanMeasure : List Cond := .codeWith yL_meanMeasure cL_meanMeasure 3 (some .int) [(0, 7, 10, 86)] :: (([.methodLink RL 145 yX7_meanMeasure, .instanceMethod yX7_meanMeasure, .selects RX7 yX7_meanMeasure yX7_meanMeasure, .initialized RX7, .classLink RL 86 "java/util/NoSuchElementException"] : List Cond) ++ (zwX7_meanMeasure))
theorem zgL_meanMeasure : zwL_meanMeasure.all goodWord = true := zgo rfl (zga (by decide +kernel) (zgX7_meanMeasure))
set_option maxHeartbeats 4000000 in
set_option maxRecDepth 100000 in
theorem c_L_meanMeasure (l : Launch) (hst : l.stackTraces = false) (dC : Nat → ClassId) (dI : Nat → Nat → Nat) (sz : Nat) (x : Nat) (ax : Nat → Nat) (kx : Nat → ClassId) (o : Nat) (kO : ClassId) (fo : Nat → UInt64) : Met l yL_meanMeasure zwL_meanMeasure ({ frames := 7, cells := 1, slots := 6, locals := 108 }) (gPcE dC dI sz [(x, .inr (10, [.ref (ax 0), .ref (ax 1), .ref (ax 2), .ref (ax 3), .ref (ax 4), .ref (ax 5), .int 0, .int 0, .int 0, .int 0, .int 0, .int 0])), ((ax 0), .inl ((kx 0), 8, .inl (fun _ => 0))), ((ax 1), .inl ((kx 1), 24, .inr (.inr (.inr (.inr (fun _ => none)))))), ((ax 2), .inl ((kx 2), 4, .inr (.inr (.inr (.inr (fun _ => none)))))), ((ax 3), .inl ((kx 3), 12, .inr (.inr (.inr (.inr (fun _ => none)))))), ((ax 4), .inl ((kx 4), 40, .inr (.inr (.inr (.inr (fun _ => none)))))), (o, .inl (kO, 1, .inr (.inr (.inr (.inl fo)))))] [((kx 0), .int), ((kx 1), .object RX4), ((kx 2), .object RX5), ((kx 3), .object RX3), ((kx 4), .object RX0), (kO, .double)] [.ref x, .ref o]) (va_Qi (fun (r : Int32) (u : Unit) => r = 1) (fun u t => True) (va_A [(x, .inr (10, [.ref (ax 0), .ref (ax 1), .ref (ax 2), .ref (ax 3), .ref (ax 4), .ref (ax 5), .int 0, .int 0, .int 0, .int 0, .int 0, .int 0])), ((ax 0), .inl ((kx 0), 8, .inl (fun _ => 0))), ((ax 1), .inl ((kx 1), 24, .inr (.inr (.inr (.inr (fun _ => none)))))), ((ax 2), .inl ((kx 2), 4, .inr (.inr (.inr (.inr (fun _ => none)))))), ((ax 3), .inl ((kx 3), 12, .inr (.inr (.inr (.inr (fun _ => none)))))), ((ax 4), .inl ((kx 4), 40, .inr (.inr (.inr (.inr (fun _ => none)))))), (o, .inl (kO, 1, .inr (.inr (.inr (.inl fo)))))] sz)) 1 6 (va_A [(x, .inr (10, [.ref (ax 0), .ref (ax 1), .ref (ax 2), .ref (ax 3), .ref (ax 4), .ref (ax 5), .int 0, .int 0, .int 0, .int 0, .int 0, .int 0])), ((ax 0), .inl ((kx 0), 8, .inl (fun _ => 0))), ((ax 1), .inl ((kx 1), 24, .inr (.inr (.inr (.inr (fun _ => none)))))), ((ax 2), .inl ((kx 2), 4, .inr (.inr (.inr (.inr (fun _ => none)))))), ((ax 3), .inl ((kx 3), 12, .inr (.inr (.inr (.inr (fun _ => none)))))), ((ax 4), .inl ((kx 4), 40, .inr (.inr (.inr (.inr (fun _ => none)))))), (o, .inl (kO, 1, .inr (.inr (.inr (.inl fo)))))] sz) := by
  refine va_MetW (cc := cL_meanMeasure) (maxL := 3) (ret := (some .int)) (hh := [(0, 7, 10, 86)]) (by decide) rfl ?_
  intro p e s m args below meth c s₁ B hml hv
  obtain ⟨rfl, hsz, hP, hK, hD0, hE⟩ := hv
  have hx := B.exec
  have hb := B.bytes
  have hr := B.returns
  have hts := atoms_spec (ws := zwL_meanMeasure) B.pre
  have hown : s.vm.findClass RL = some m.cls := findClass_of_methodNamed B.named
  have hlocks := B.notSynchronized
  have htab : c.exceptionTable.toList = tableOf [(0, 7, 10, 86)] := vx_table (x := yL_meanMeasure) B (hts (.codeWith yL_meanMeasure cL_meanMeasure 3 (some .int) [(0, 7, 10, 86)]) List.mem_cons_self)
  subst hsz
  have hD := hD0.self (sz := s.heap.size)
  generalize hAe : va_A [(x, .inr (10, [.ref (ax 0), .ref (ax 1), .ref (ax 2), .ref (ax 3), .ref (ax 4), .ref (ax 5), .int 0, .int 0, .int 0, .int 0, .int 0, .int 0])), ((ax 0), .inl ((kx 0), 8, .inl (fun _ => 0))), ((ax 1), .inl ((kx 1), 24, .inr (.inr (.inr (.inr (fun _ => none)))))), ((ax 2), .inl ((kx 2), 4, .inr (.inr (.inr (.inr (fun _ => none)))))), ((ax 3), .inl ((kx 3), 12, .inr (.inr (.inr (.inr (fun _ => none)))))), ((ax 4), .inl ((kx 4), 40, .inr (.inr (.inr (.inr (fun _ => none)))))), (o, .inl (kO, 1, .inr (.inr (.inr (.inl fo)))))] s.heap.size = A at hD hE ⊢
  have hA : ∀ q : Nat, s.heap.size ≤ q → A q := fun q h => by rw [← hAe]; exact Or.inr h
  have hS : va_S A s.heap s.heap [] := va_S.rf
  have hP : va_P (dC, dI) vwCl [(x, .inr (10, [.ref (ax 0), .ref (ax 1), .ref (ax 2), .ref (ax 3), .ref (ax 4), .ref (ax 5), .int 0, .int 0, .int 0, .int 0, .int 0, .int 0])), ((ax 0), .inl ((kx 0), 8, .inl (fun _ => 0))), ((ax 1), .inl ((kx 1), 24, .inr (.inr (.inr (.inr (fun _ => none)))))), ((ax 2), .inl ((kx 2), 4, .inr (.inr (.inr (.inr (fun _ => none)))))), ((ax 3), .inl ((kx 3), 12, .inr (.inr (.inr (.inr (fun _ => none)))))), ((ax 4), .inl ((kx 4), 40, .inr (.inr (.inr (.inr (fun _ => none)))))), (o, .inl (kO, 1, .inr (.inr (.inr (.inl fo)))))] s.heap := hP
  have hl := lv_entry ([.ref x, .ref o]) (n := 3) (Nat.le_of_ble_eq_true rfl)
  rw [lg_entry_eq]
  generalize (lg_sl ([.ref x, .ref o]) ++ List.replicate (3 - (lg_sl ([.ref x, .ref o])).length) Slot.unset).toArray = ls at hl ⊢
  have hl : lv_has ls 3 [(0, .ref x), (1, .ref o)] := hl
  refine lv_aload_n hx hb dL_meanMeasure_0 rfl (lv_at hl 1 rfl) ?_
  refine lv_iconst (v := 0) hx hb dL_meanMeasure_1 (by decide) ?_
  refine lv_aload_n hx hb dL_meanMeasure_2 rfl (lv_at hl 0 rfl) ?_
  have hPc := hP.sub (ws' := xW x ax kx) [0, 1, 2, 3, 4, 5] rfl
  have hKc := hK.sub (tys' := xT kx) [0, 1, 2, 3, 4] rfl
  refine vx_calli (vx_runV (As := []) (rest := [.int 0, .ref o]) ⟨hx, hb, hml, hown, hts⟩ (c_X7_meanMeasure l hst dC dI s.heap.size x ax kx) (cwV 0 hts (goodIn_app (goodIn_of _ (by decide +kernel)) (goodIn_sub ((fun w h => List.mem_cons_of_mem _ (List.mem_append_right _ (h)))) zgX7_meanMeasure)) rfl rfl rfl (by decide +kernel) ⟨Nat.le_of_ble_eq_true rfl, Nat.le_of_ble_eq_true rfl⟩) ⟨xPc_blind, va_recv hK hP (ci := 10) (q0 := 0) rfl rfl, xPc_pass hPc hKc hE hS (fun q h => hA q (Nat.le_trans hS.1 h))⟩ rfl rfl hl.1 rfl (lv_room (Nat.le_of_ble_eq_true rfl)) dL_meanMeasure_3 ⟨Nat.le_of_ble_eq_true rfl, Nat.le_of_ble_eq_true rfl⟩) hS (fun q _ h => hA q (Nat.le_trans hS.1 h)) (fun q h => hA q (Nat.le_trans hS.1 h)) (fun q _ h => hA q (Nat.le_trans hS.1 h)) (fun E ce q9 _ t H locs ht hvm hpx hBX hz hk hS hcell hv hcl => ?_) (fun r_1 u t H locs ht hvm hw hB hz hk hS => ?_)
  · have hBX : E = "java/util/NoSuchElementException" := hBX
    subst hBX
    have hP := zkn hP hk
    refine vx_catch (own := RL) (name := "java/util/NoSuchElementException") hown [] ⟨0, 7, 10, 86⟩ [] (htab.trans rfl) (fun z hz => nomatch hz) (by decide) (by decide) (hts (.classLink RL 86 "java/util/NoSuchElementException") (by decide +kernel)) (va_Nw.use rfl (hE.2.2.2.1 _ (by decide))) hcell hv hcl ?_
    refine W.eq (g2 := F0 m 10 ls [.ref q9]) rfl ?_
    refine lv_astore_n (lv' := [(2, .ref q9), (0, .ref x), (1, .ref o)]) hx hb dL_meanMeasure_10 rfl hl (by decide) rfl (fun ls hl => ?_)
    refine lv_iconst (v := 1) hx hb dL_meanMeasure_11 (by decide) ?_
    refine W.widen (k := 1) (n := 6) (Nat.le_of_ble_eq_true rfl) (Nat.le_of_ble_eq_true rfl) ?_
    exact W.iret (v := 1) hx hb hr (fun t ht hW => ⟨⟨1, (), rfl, rfl, trivial⟩, hS.F ht⟩) hS.2.2 dL_meanMeasure_12
  exact hw.elim

def zwL_swept : List Cond := .codeWith yL_swept cL_swept 5 (some .int) [(0, 10, 13, 21)] :: (([.methodLink RL 44 yX7_swept, .instanceMethod yX7_swept, .selects RX7 yX7_swept yX7_swept, .initialized RX7, .classLink RL 21 "java/lang/IllegalArgumentException"] : List Cond) ++ (zwX7_swept))
theorem zgL_swept : zwL_swept.all goodWord = true := zgo rfl (zga (by decide +kernel) (zgX7_swept))
set_option maxHeartbeats 4000000 in
set_option maxRecDepth 100000 in
theorem c_L_swept (l : Launch) (hst : l.stackTraces = false) (dC : Nat → ClassId) (dI : Nat → Nat → Nat) (sz : Nat) (x : Nat) (ax : Nat → Nat) (kx : Nat → ClassId) (o : Nat) (kO : ClassId) (fo : Nat → Int64) (a : Int32) (b : Int32) : Met l yL_swept zwL_swept ({ frames := 8, cells := 2, slots := 12, locals := 124 }) (gPcE dC dI sz [(x, .inr (10, [.ref (ax 0), .ref (ax 1), .ref (ax 2), .ref (ax 3), .ref (ax 4), .ref (ax 5), .int 0, .int 0, .int 0, .int 0, .int 0, .int 0])), ((ax 0), .inl ((kx 0), 8, .inl (fun _ => 0))), ((ax 1), .inl ((kx 1), 24, .inr (.inr (.inr (.inr (fun _ => none)))))), ((ax 2), .inl ((kx 2), 4, .inr (.inr (.inr (.inr (fun _ => none)))))), ((ax 3), .inl ((kx 3), 12, .inr (.inr (.inr (.inr (fun _ => none)))))), ((ax 4), .inl ((kx 4), 40, .inr (.inr (.inr (.inr (fun _ => none)))))), (o, .inl (kO, 1, .inr (.inl fo)))] [((kx 0), .int), ((kx 1), .object RX4), ((kx 2), .object RX5), ((kx 3), .object RX3), ((kx 4), .object RX0), (kO, .long)] [.ref x, .int a, .int b, .ref o]) (va_Qi (fun (r : Int32) (u : Nat → Int64) => (r = 0 ∧ u 0 = (zSw a b).toInt64 ∧ zPl a ∧ zPl b) ∨ (r = 1 ∧ ¬ (zPl a ∧ zPl b))) (fun u t => va_P (dC, dI) vwCl [(o, .inl (kO, 1, .inr (.inl u)))] t.heap ∧ va_K (dC, dI) vwCl [(kO, .long)] t ∧ va_D (va_A [(x, .inr (10, [.ref (ax 0), .ref (ax 1), .ref (ax 2), .ref (ax 3), .ref (ax 4), .ref (ax 5), .int 0, .int 0, .int 0, .int 0, .int 0, .int 0])), ((ax 0), .inl ((kx 0), 8, .inl (fun _ => 0))), ((ax 1), .inl ((kx 1), 24, .inr (.inr (.inr (.inr (fun _ => none)))))), ((ax 2), .inl ((kx 2), 4, .inr (.inr (.inr (.inr (fun _ => none)))))), ((ax 3), .inl ((kx 3), 12, .inr (.inr (.inr (.inr (fun _ => none)))))), ((ax 4), .inl ((kx 4), 40, .inr (.inr (.inr (.inr (fun _ => none)))))), (o, .inl (kO, 1, .inr (.inl fo)))] sz) [(o, .inl (kO, 1, .inr (.inl u)))]) (va_A [(x, .inr (10, [.ref (ax 0), .ref (ax 1), .ref (ax 2), .ref (ax 3), .ref (ax 4), .ref (ax 5), .int 0, .int 0, .int 0, .int 0, .int 0, .int 0])), ((ax 0), .inl ((kx 0), 8, .inl (fun _ => 0))), ((ax 1), .inl ((kx 1), 24, .inr (.inr (.inr (.inr (fun _ => none)))))), ((ax 2), .inl ((kx 2), 4, .inr (.inr (.inr (.inr (fun _ => none)))))), ((ax 3), .inl ((kx 3), 12, .inr (.inr (.inr (.inr (fun _ => none)))))), ((ax 4), .inl ((kx 4), 40, .inr (.inr (.inr (.inr (fun _ => none)))))), (o, .inl (kO, 1, .inr (.inl fo)))] sz)) 2 12 (va_A [(x, .inr (10, [.ref (ax 0), .ref (ax 1), .ref (ax 2), .ref (ax 3), .ref (ax 4), .ref (ax 5), .int 0, .int 0, .int 0, .int 0, .int 0, .int 0])), ((ax 0), .inl ((kx 0), 8, .inl (fun _ => 0))), ((ax 1), .inl ((kx 1), 24, .inr (.inr (.inr (.inr (fun _ => none)))))), ((ax 2), .inl ((kx 2), 4, .inr (.inr (.inr (.inr (fun _ => none)))))), ((ax 3), .inl ((kx 3), 12, .inr (.inr (.inr (.inr (fun _ => none)))))), ((ax 4), .inl ((kx 4), 40, .inr (.inr (.inr (.inr (fun _ => none)))))), (o, .inl (kO, 1, .inr (.inl fo)))] sz) := by
  refine va_MetW (cc := cL_swept) (maxL := 5) (ret := (some .int)) (hh := [(0, 10, 13, 21)]) (by decide) rfl ?_
  intro p e s m args below meth c s₁ B hml hv
  obtain ⟨rfl, hsz, hP, hK, hD0, hE⟩ := hv
  have hx := B.exec
  have hb := B.bytes
  have hr := B.returns
  have hts := atoms_spec (ws := zwL_swept) B.pre
  have hown : s.vm.findClass RL = some m.cls := findClass_of_methodNamed B.named
  have hlocks := B.notSynchronized
  have htab : c.exceptionTable.toList = tableOf [(0, 10, 13, 21)] := vx_table (x := yL_swept) B (hts (.codeWith yL_swept cL_swept 5 (some .int) [(0, 10, 13, 21)]) List.mem_cons_self)
  subst hsz
  have hD := hD0.self (sz := s.heap.size)
  generalize hAe : va_A [(x, .inr (10, [.ref (ax 0), .ref (ax 1), .ref (ax 2), .ref (ax 3), .ref (ax 4), .ref (ax 5), .int 0, .int 0, .int 0, .int 0, .int 0, .int 0])), ((ax 0), .inl ((kx 0), 8, .inl (fun _ => 0))), ((ax 1), .inl ((kx 1), 24, .inr (.inr (.inr (.inr (fun _ => none)))))), ((ax 2), .inl ((kx 2), 4, .inr (.inr (.inr (.inr (fun _ => none)))))), ((ax 3), .inl ((kx 3), 12, .inr (.inr (.inr (.inr (fun _ => none)))))), ((ax 4), .inl ((kx 4), 40, .inr (.inr (.inr (.inr (fun _ => none)))))), (o, .inl (kO, 1, .inr (.inl fo)))] s.heap.size = A at hD hE ⊢
  have hA : ∀ q : Nat, s.heap.size ≤ q → A q := fun q h => by rw [← hAe]; exact Or.inr h
  have hS : va_S A s.heap s.heap [] := va_S.rf
  have hP : va_P (dC, dI) vwCl [(x, .inr (10, [.ref (ax 0), .ref (ax 1), .ref (ax 2), .ref (ax 3), .ref (ax 4), .ref (ax 5), .int 0, .int 0, .int 0, .int 0, .int 0, .int 0])), ((ax 0), .inl ((kx 0), 8, .inl (fun _ => 0))), ((ax 1), .inl ((kx 1), 24, .inr (.inr (.inr (.inr (fun _ => none)))))), ((ax 2), .inl ((kx 2), 4, .inr (.inr (.inr (.inr (fun _ => none)))))), ((ax 3), .inl ((kx 3), 12, .inr (.inr (.inr (.inr (fun _ => none)))))), ((ax 4), .inl ((kx 4), 40, .inr (.inr (.inr (.inr (fun _ => none)))))), (o, .inl (kO, 1, .inr (.inl fo)))] s.heap := hP
  have hl := lv_entry ([.ref x, .int a, .int b, .ref o]) (n := 5) (Nat.le_of_ble_eq_true rfl)
  rw [lg_entry_eq]
  generalize (lg_sl ([.ref x, .int a, .int b, .ref o]) ++ List.replicate (5 - (lg_sl ([.ref x, .int a, .int b, .ref o])).length) Slot.unset).toArray = ls at hl ⊢
  have hl : lv_has ls 5 [(0, .ref x), (1, .int a), (2, .int b), (3, .ref o)] := hl
  refine lv_aload_n hx hb dL_swept_0 rfl (lv_at hl 3 rfl) ?_
  refine lv_iconst (v := 0) hx hb dL_swept_1 (by decide) ?_
  refine lv_aload_n hx hb dL_swept_2 rfl (lv_at hl 0 rfl) ?_
  refine lv_iload_n hx hb dL_swept_3 rfl (lv_at hl 1 rfl) ?_
  refine lv_iload_n hx hb dL_swept_4 rfl (lv_at hl 2 rfl) ?_
  have hPc := hP.sub (ws' := xW x ax kx) [0, 1, 2, 3, 4, 5] rfl
  have hKc := hK.sub (tys' := xT kx) [0, 1, 2, 3, 4] rfl
  refine vx_calli (vx_runV (As := [.int a, .int b]) (rest := [.int 0, .ref o]) ⟨hx, hb, hml, hown, hts⟩ (c_X7_swept l hst dC dI s.heap.size x ax kx a b) (cwV 2 hts (goodIn_app (goodIn_of _ (by decide +kernel)) (goodIn_sub ((fun w h => List.mem_cons_of_mem _ (List.mem_append_right _ (h)))) zgX7_swept)) rfl rfl rfl (by decide +kernel) ⟨Nat.le_of_ble_eq_true rfl, Nat.le_of_ble_eq_true rfl⟩) ⟨xPc_blind, va_recv hK hP (ci := 10) (q0 := 0) rfl rfl, xPc_pass hPc hKc hE hS (fun q h => hA q (Nat.le_trans hS.1 h))⟩ rfl rfl hl.1 rfl (lv_room (Nat.le_of_ble_eq_true rfl)) dL_swept_5 ⟨Nat.le_of_ble_eq_true rfl, Nat.le_of_ble_eq_true rfl⟩) hS (fun q _ h => hA q (Nat.le_trans hS.1 h)) (fun q h => hA q (Nat.le_trans hS.1 h)) (fun q _ h => hA q (Nat.le_trans hS.1 h)) (fun E ce q9 _ t H locs ht hvm hpx hBX hz hk hS hcell hv hcl => ?_) (fun r_1 u t H locs ht hvm hw hB hz hk hS => ?_)
  · have hBX : E = "java/lang/IllegalArgumentException" := hBX
    subst hBX
    have hP := zkn hP hk
    refine vx_catch (own := RL) (name := "java/lang/IllegalArgumentException") hown [] ⟨0, 10, 13, 21⟩ [] (htab.trans rfl) (fun z hz => nomatch hz) (by decide) (by decide) (hts (.classLink RL 21 "java/lang/IllegalArgumentException") (by decide +kernel)) (va_Nw.use rfl (hE.2.2.2.1 _ (by decide))) hcell hv hcl ?_
    refine W.eq (g2 := F0 m 13 ls [.ref q9]) rfl ?_
    have hpx : ¬ (zPl a ∧ zPl b) := hpx
    refine lv_astore (lv' := [(4, .ref q9), (0, .ref x), (1, .int a), (2, .int b), (3, .ref o)]) hx hb dL_swept_13 hl (by decide) rfl (fun ls hl => ?_)
    refine lv_iconst (v := 1) hx hb dL_swept_15 (by decide) ?_
    have hP9 := hP.sub (ws' := [(o, .inl (kO, 1, .inr (.inl fo)))]) [6] rfl
    have hD9 := hD.sub (ws' := [(o, .inl (kO, 1, .inr (.inl fo)))]) [6] (by decide) rfl
    have hK9 := hK.sub (tys' := [(kO, .long)]) [5] rfl
    refine W.widen (k := 2) (n := 12) (Nat.le_of_ble_eq_true rfl) (Nat.le_of_ble_eq_true rfl) ?_
    exact W.iret (v := 1) hx hb hr (fun t ht hW => ⟨⟨1, fo, rfl, (Or.inr ⟨rfl, hpx⟩), by rw [ht]; exact hP9, va_K.moved hW.alike hK9, hD9⟩, hS.F ht⟩) hS.2.2 dL_swept_16
  have hP := zkn hP hk
  have w_2 : r_1 = zSw a b ∧ zPl a ∧ zPl b := hw
  refine lv_i2l (v := r_1.toInt64) hx hb dL_swept_8 rfl ?_
  refine va_last hx hb hK hP hD hS 6 5 rfl rfl (by unfold vp_in; decide +kernel) dL_swept_9 (fun H locs hP hD hS => ?_)
  have hP : va_P (dC, dI) vwCl [(x, .inr (10, [.ref (ax 0), .ref (ax 1), .ref (ax 2), .ref (ax 3), .ref (ax 4), .ref (ax 5), .int 0, .int 0, .int 0, .int 0, .int 0, .int 0])), ((ax 0), .inl ((kx 0), 8, .inl (fun _ => 0))), ((ax 1), .inl ((kx 1), 24, .inr (.inr (.inr (.inr (fun _ => none)))))), ((ax 2), .inl ((kx 2), 4, .inr (.inr (.inr (.inr (fun _ => none)))))), ((ax 3), .inl ((kx 3), 12, .inr (.inr (.inr (.inr (fun _ => none)))))), ((ax 4), .inl ((kx 4), 40, .inr (.inr (.inr (.inr (fun _ => none)))))), (o, .inl (kO, 1, .inr (.inl (vp_updL fo (Int32.toNatClampNeg 0) r_1.toInt64))))] H := hP
  have hD : va_D A [(x, .inr (10, [.ref (ax 0), .ref (ax 1), .ref (ax 2), .ref (ax 3), .ref (ax 4), .ref (ax 5), .int 0, .int 0, .int 0, .int 0, .int 0, .int 0])), ((ax 0), .inl ((kx 0), 8, .inl (fun _ => 0))), ((ax 1), .inl ((kx 1), 24, .inr (.inr (.inr (.inr (fun _ => none)))))), ((ax 2), .inl ((kx 2), 4, .inr (.inr (.inr (.inr (fun _ => none)))))), ((ax 3), .inl ((kx 3), 12, .inr (.inr (.inr (.inr (fun _ => none)))))), ((ax 4), .inl ((kx 4), 40, .inr (.inr (.inr (.inr (fun _ => none)))))), (o, .inl (kO, 1, .inr (.inl (vp_updL fo (Int32.toNatClampNeg 0) r_1.toInt64))))] := hD
  refine lv_goto (tgt := 17) hx hb dL_swept_10 (by decide) ?_
  refine lv_iconst (v := 0) hx hb dL_swept_17 (by decide) ?_
  have hP9 := hP.sub (ws' := [(o, .inl (kO, 1, .inr (.inl (vp_updL fo (Int32.toNatClampNeg 0) r_1.toInt64))))]) [6] rfl
  have hD9 := hD.sub (ws' := [(o, .inl (kO, 1, .inr (.inl (vp_updL fo (Int32.toNatClampNeg 0) r_1.toInt64))))]) [6] (by decide) rfl
  have hK9 := hK.sub (tys' := [(kO, .long)]) [5] rfl
  refine W.widen (k := 2) (n := 12) (Nat.le_of_ble_eq_true rfl) (Nat.le_of_ble_eq_true rfl) ?_
  exact W.iret (v := 0) hx hb hr (fun t ht hW => ⟨⟨0, (vp_updL fo (Int32.toNatClampNeg 0) r_1.toInt64), rfl, (Or.inl ⟨rfl, (by rw [w_2.1]; rfl), w_2.2⟩), by rw [ht]; exact hP9, va_K.moved hW.alike hK9, hD9⟩, hS.F ht⟩) hS.2.2 dL_swept_18

def zwL_panel : List Cond := .codeWith yL_panel cL_panel 4 (some .int) [(0, 9, 12, 13), (0, 9, 15, 15)] :: (([.methodLink RL 7 yX7_panel, .instanceMethod yX7_panel, .selects RX7 yX7_panel yX7_panel, .initialized RX7] : List Cond) ++ (zwX7_panel))
theorem zgL_panel : zwL_panel.all goodWord = true := zgo rfl (zga (by decide +kernel) (zgX7_panel))
set_option maxHeartbeats 4000000 in
set_option maxRecDepth 100000 in
theorem c_L_panel (l : Launch) (dC : Nat → ClassId) (dI : Nat → Nat → Nat) (sz : Nat) (x : Nat) (ax : Nat → Nat) (kx : Nat → ClassId) (o : Nat) (kO : ClassId) (fo : Nat → Int64) (a : Int32) : Met l yL_panel zwL_panel ({ frames := 1, cells := 0, slots := 0, locals := 22 }) (gPcE dC dI sz [(x, .inr (10, [.ref (ax 0), .ref (ax 1), .ref (ax 2), .ref (ax 3), .ref (ax 4), .ref (ax 5), .int 0, .int 0, .int 0, .int 0, .int 0, .int 0])), ((ax 0), .inl ((kx 0), 8, .inl (fun _ => 0))), ((ax 1), .inl ((kx 1), 24, .inr (.inr (.inr (.inr (fun _ => none)))))), ((ax 2), .inl ((kx 2), 4, .inr (.inr (.inr (.inr (fun _ => none)))))), ((ax 3), .inl ((kx 3), 12, .inr (.inr (.inr (.inr (fun _ => none)))))), ((ax 4), .inl ((kx 4), 40, .inr (.inr (.inr (.inr (fun _ => none)))))), (o, .inl (kO, 1, .inr (.inl fo)))] [((kx 0), .int), ((kx 1), .object RX4), ((kx 2), .object RX5), ((kx 3), .object RX3), ((kx 4), .object RX0), (kO, .long)] [.ref x, .int a, .ref o]) (va_Qi (fun (r : Int32) (u : Nat → Int64) => r = 0 ∧ u 0 = 0) (fun u t => va_P (dC, dI) vwCl [(o, .inl (kO, 1, .inr (.inl u)))] t.heap ∧ va_K (dC, dI) vwCl [(kO, .long)] t ∧ va_D (va_A [(x, .inr (10, [.ref (ax 0), .ref (ax 1), .ref (ax 2), .ref (ax 3), .ref (ax 4), .ref (ax 5), .int 0, .int 0, .int 0, .int 0, .int 0, .int 0])), ((ax 0), .inl ((kx 0), 8, .inl (fun _ => 0))), ((ax 1), .inl ((kx 1), 24, .inr (.inr (.inr (.inr (fun _ => none)))))), ((ax 2), .inl ((kx 2), 4, .inr (.inr (.inr (.inr (fun _ => none)))))), ((ax 3), .inl ((kx 3), 12, .inr (.inr (.inr (.inr (fun _ => none)))))), ((ax 4), .inl ((kx 4), 40, .inr (.inr (.inr (.inr (fun _ => none)))))), (o, .inl (kO, 1, .inr (.inl fo)))] sz) [(o, .inl (kO, 1, .inr (.inl u)))]) (va_A [(x, .inr (10, [.ref (ax 0), .ref (ax 1), .ref (ax 2), .ref (ax 3), .ref (ax 4), .ref (ax 5), .int 0, .int 0, .int 0, .int 0, .int 0, .int 0])), ((ax 0), .inl ((kx 0), 8, .inl (fun _ => 0))), ((ax 1), .inl ((kx 1), 24, .inr (.inr (.inr (.inr (fun _ => none)))))), ((ax 2), .inl ((kx 2), 4, .inr (.inr (.inr (.inr (fun _ => none)))))), ((ax 3), .inl ((kx 3), 12, .inr (.inr (.inr (.inr (fun _ => none)))))), ((ax 4), .inl ((kx 4), 40, .inr (.inr (.inr (.inr (fun _ => none)))))), (o, .inl (kO, 1, .inr (.inl fo)))] sz)) 0 0 (va_A [(x, .inr (10, [.ref (ax 0), .ref (ax 1), .ref (ax 2), .ref (ax 3), .ref (ax 4), .ref (ax 5), .int 0, .int 0, .int 0, .int 0, .int 0, .int 0])), ((ax 0), .inl ((kx 0), 8, .inl (fun _ => 0))), ((ax 1), .inl ((kx 1), 24, .inr (.inr (.inr (.inr (fun _ => none)))))), ((ax 2), .inl ((kx 2), 4, .inr (.inr (.inr (.inr (fun _ => none)))))), ((ax 3), .inl ((kx 3), 12, .inr (.inr (.inr (.inr (fun _ => none)))))), ((ax 4), .inl ((kx 4), 40, .inr (.inr (.inr (.inr (fun _ => none)))))), (o, .inl (kO, 1, .inr (.inl fo)))] sz) := by
  refine va_MetW (cc := cL_panel) (maxL := 4) (ret := (some .int)) (hh := [(0, 9, 12, 13), (0, 9, 15, 15)]) (by decide) rfl ?_
  intro p e s m args below meth c s₁ B hml hv
  obtain ⟨rfl, hsz, hP, hK, hD0, hE⟩ := hv
  have hx := B.exec
  have hb := B.bytes
  have hr := B.returns
  have hts := atoms_spec (ws := zwL_panel) B.pre
  have hown : s.vm.findClass RL = some m.cls := findClass_of_methodNamed B.named
  have hlocks := B.notSynchronized
  have htab : c.exceptionTable.toList = tableOf [(0, 9, 12, 13), (0, 9, 15, 15)] := vx_table (x := yL_panel) B (hts (.codeWith yL_panel cL_panel 4 (some .int) [(0, 9, 12, 13), (0, 9, 15, 15)]) List.mem_cons_self)
  subst hsz
  have hD := hD0.self (sz := s.heap.size)
  generalize hAe : va_A [(x, .inr (10, [.ref (ax 0), .ref (ax 1), .ref (ax 2), .ref (ax 3), .ref (ax 4), .ref (ax 5), .int 0, .int 0, .int 0, .int 0, .int 0, .int 0])), ((ax 0), .inl ((kx 0), 8, .inl (fun _ => 0))), ((ax 1), .inl ((kx 1), 24, .inr (.inr (.inr (.inr (fun _ => none)))))), ((ax 2), .inl ((kx 2), 4, .inr (.inr (.inr (.inr (fun _ => none)))))), ((ax 3), .inl ((kx 3), 12, .inr (.inr (.inr (.inr (fun _ => none)))))), ((ax 4), .inl ((kx 4), 40, .inr (.inr (.inr (.inr (fun _ => none)))))), (o, .inl (kO, 1, .inr (.inl fo)))] s.heap.size = A at hD hE ⊢
  have hA : ∀ q : Nat, s.heap.size ≤ q → A q := fun q h => by rw [← hAe]; exact Or.inr h
  have hS : va_S A s.heap s.heap [] := va_S.rf
  have hP : va_P (dC, dI) vwCl [(x, .inr (10, [.ref (ax 0), .ref (ax 1), .ref (ax 2), .ref (ax 3), .ref (ax 4), .ref (ax 5), .int 0, .int 0, .int 0, .int 0, .int 0, .int 0])), ((ax 0), .inl ((kx 0), 8, .inl (fun _ => 0))), ((ax 1), .inl ((kx 1), 24, .inr (.inr (.inr (.inr (fun _ => none)))))), ((ax 2), .inl ((kx 2), 4, .inr (.inr (.inr (.inr (fun _ => none)))))), ((ax 3), .inl ((kx 3), 12, .inr (.inr (.inr (.inr (fun _ => none)))))), ((ax 4), .inl ((kx 4), 40, .inr (.inr (.inr (.inr (fun _ => none)))))), (o, .inl (kO, 1, .inr (.inl fo)))] s.heap := hP
  have hl := lv_entry ([.ref x, .int a, .ref o]) (n := 4) (Nat.le_of_ble_eq_true rfl)
  rw [lg_entry_eq]
  generalize (lg_sl ([.ref x, .int a, .ref o]) ++ List.replicate (4 - (lg_sl ([.ref x, .int a, .ref o])).length) Slot.unset).toArray = ls at hl ⊢
  have hl : lv_has ls 4 [(0, .ref x), (1, .int a), (2, .ref o)] := hl
  refine lv_aload_n hx hb dL_panel_0 rfl (lv_at hl 2 rfl) ?_
  refine lv_iconst (v := 0) hx hb dL_panel_1 (by decide) ?_
  refine lv_aload_n hx hb dL_panel_2 rfl (lv_at hl 0 rfl) ?_
  refine lv_iload_n hx hb dL_panel_3 rfl (lv_at hl 1 rfl) ?_
  have hPc := hP.sub (ws' := xW x ax kx) [0, 1, 2, 3, 4, 5] rfl
  have hKc := hK.sub (tys' := xT kx) [0, 1, 2, 3, 4] rfl
  have hDc := hD.sub (ws' := xW x ax kx) [0, 1, 2, 3, 4, 5] (by decide) rfl
  have hFc := va_free (wc := xW x ax kx) hD hS hA [0, 1, 2, 3, 4, 5] rfl
  refine va_calli (va_runV (As := [.int a]) (rest := [.int 0, .ref o]) ⟨hx, hb, hml, hown, hts⟩ (c_X7_panel l dC dI s.heap.size x ax kx a) (cwV 1 hts (goodIn_app (goodIn_of _ (by decide +kernel)) (goodIn_sub ((fun w h => List.mem_cons_of_mem _ (List.mem_append_right _ (h)))) zgX7_panel)) rfl rfl rfl (by decide +kernel) ⟨Nat.le_of_ble_eq_true rfl, Nat.le_of_ble_eq_true rfl⟩) ⟨gPcE_blind, va_recv hK hP (ci := 10) (q0 := 0) rfl rfl, gPcE_pass hPc hKc hDc hE hS hFc⟩ rfl rfl hl.1 rfl (lv_room (Nat.le_of_ble_eq_true rfl)) dL_panel_4 ⟨Nat.le_of_ble_eq_true rfl, Nat.le_of_ble_eq_true rfl⟩) hS (fun q _ h => hFc q h) hFc (fun r_1 u t H locs ht hvm hw hB hz hk hS => ?_)
  obtain ⟨hP, hD⟩ := va_join (wr := [(o, .inl (kO, 1, .inr (.inl fo)))]) (w1 := []) hP hD [0, 1, 2, 3, 4, 5] [6] rfl rfl (by decide) (by decide) hk hFc zP_nil zD_nil
  have hP : va_P (dC, dI) vwCl [(o, .inl (kO, 1, .inr (.inl fo)))] H := hP
  have hD : va_D A [(o, .inl (kO, 1, .inr (.inl fo)))] := hD
  have hw : r_1 = 0 := hw
  subst hw
  refine lv_i2l (v := 0) hx hb dL_panel_7 (by decide) ?_
  refine va_last hx hb hK hP hD hS 0 5 rfl rfl (by unfold vp_in; decide +kernel) dL_panel_8 (fun H locs hP hD hS => ?_)
  have hP : va_P (dC, dI) vwCl [(o, .inl (kO, 1, .inr (.inl (vp_updL fo (Int32.toNatClampNeg 0) 0))))] H := hP
  have hD : va_D A [(o, .inl (kO, 1, .inr (.inl (vp_updL fo (Int32.toNatClampNeg 0) 0))))] := hD
  refine lv_goto (tgt := 18) hx hb dL_panel_9 (by decide) ?_
  refine lv_iconst (v := 0) hx hb dL_panel_18 (by decide) ?_
  have hP9 := hP.sub (ws' := [(o, .inl (kO, 1, .inr (.inl (vp_updL fo (Int32.toNatClampNeg 0) 0))))]) [0] rfl
  have hD9 := hD.sub (ws' := [(o, .inl (kO, 1, .inr (.inl (vp_updL fo (Int32.toNatClampNeg 0) 0))))]) [0] (by decide) rfl
  have hK9 := hK.sub (tys' := [(kO, .long)]) [5] rfl
  refine W.widen (k := 0) (n := 0) (Nat.le_of_ble_eq_true rfl) (Nat.le_of_ble_eq_true rfl) ?_
  exact W.iret (v := 0) hx hb hr (fun t ht hW => ⟨⟨0, (vp_updL fo (Int32.toNatClampNeg 0) 0), rfl, ⟨rfl, rfl⟩, by rw [ht]; exact hP9, va_K.moved hW.alike hK9, hD9⟩, hS.F ht⟩) hS.2.2 dL_panel_19

def zwL_station : List Cond := .codeWith yL_station cL_station 3 (some .int) [(0, 8, 11, 15)] :: (([.methodLink RL 32 yX7_station, .instanceMethod yX7_station, .selects RX7 yX7_station yX7_station, .initialized RX7] : List Cond) ++ (zwX7_station))
theorem zgL_station : zwL_station.all goodWord = true := zgo rfl (zga (by decide +kernel) (zgX7_station))
set_option maxHeartbeats 4000000 in
set_option maxRecDepth 100000 in
theorem c_L_station (l : Launch) (dC : Nat → ClassId) (dI : Nat → Nat → Nat) (sz : Nat) (x : Nat) (ax : Nat → Nat) (kx : Nat → ClassId) (o : Nat) (kO : ClassId) (fo : Nat → Int64) : Met l yL_station zwL_station ({ frames := 3, cells := 2, slots := 15, locals := 55 }) (gPcE dC dI sz [(x, .inr (10, [.ref (ax 0), .ref (ax 1), .ref (ax 2), .ref (ax 3), .ref (ax 4), .ref (ax 5), .int 0, .int 0, .int 0, .int 0, .int 0, .int 0])), ((ax 0), .inl ((kx 0), 8, .inl (fun _ => 0))), ((ax 1), .inl ((kx 1), 24, .inr (.inr (.inr (.inr (fun _ => none)))))), ((ax 2), .inl ((kx 2), 4, .inr (.inr (.inr (.inr (fun _ => none)))))), ((ax 3), .inl ((kx 3), 12, .inr (.inr (.inr (.inr (fun _ => none)))))), ((ax 4), .inl ((kx 4), 40, .inr (.inr (.inr (.inr (fun _ => none)))))), (o, .inl (kO, 1, .inr (.inl fo)))] [((kx 0), .int), ((kx 1), .object RX4), ((kx 2), .object RX5), ((kx 3), .object RX3), ((kx 4), .object RX0), (kO, .long)] [.ref x, .ref o]) (va_Qi (fun (r : Int32) (u : Nat → Int64) => r = 0 ∧ u 0 = 0) (fun u t => va_P (dC, dI) vwCl [(o, .inl (kO, 1, .inr (.inl u)))] t.heap ∧ va_K (dC, dI) vwCl [(kO, .long)] t ∧ va_D (va_A [(x, .inr (10, [.ref (ax 0), .ref (ax 1), .ref (ax 2), .ref (ax 3), .ref (ax 4), .ref (ax 5), .int 0, .int 0, .int 0, .int 0, .int 0, .int 0])), ((ax 0), .inl ((kx 0), 8, .inl (fun _ => 0))), ((ax 1), .inl ((kx 1), 24, .inr (.inr (.inr (.inr (fun _ => none)))))), ((ax 2), .inl ((kx 2), 4, .inr (.inr (.inr (.inr (fun _ => none)))))), ((ax 3), .inl ((kx 3), 12, .inr (.inr (.inr (.inr (fun _ => none)))))), ((ax 4), .inl ((kx 4), 40, .inr (.inr (.inr (.inr (fun _ => none)))))), (o, .inl (kO, 1, .inr (.inl fo)))] sz) [(o, .inl (kO, 1, .inr (.inl u)))]) (va_A [(x, .inr (10, [.ref (ax 0), .ref (ax 1), .ref (ax 2), .ref (ax 3), .ref (ax 4), .ref (ax 5), .int 0, .int 0, .int 0, .int 0, .int 0, .int 0])), ((ax 0), .inl ((kx 0), 8, .inl (fun _ => 0))), ((ax 1), .inl ((kx 1), 24, .inr (.inr (.inr (.inr (fun _ => none)))))), ((ax 2), .inl ((kx 2), 4, .inr (.inr (.inr (.inr (fun _ => none)))))), ((ax 3), .inl ((kx 3), 12, .inr (.inr (.inr (.inr (fun _ => none)))))), ((ax 4), .inl ((kx 4), 40, .inr (.inr (.inr (.inr (fun _ => none)))))), (o, .inl (kO, 1, .inr (.inl fo)))] sz)) 2 15 (va_A [(x, .inr (10, [.ref (ax 0), .ref (ax 1), .ref (ax 2), .ref (ax 3), .ref (ax 4), .ref (ax 5), .int 0, .int 0, .int 0, .int 0, .int 0, .int 0])), ((ax 0), .inl ((kx 0), 8, .inl (fun _ => 0))), ((ax 1), .inl ((kx 1), 24, .inr (.inr (.inr (.inr (fun _ => none)))))), ((ax 2), .inl ((kx 2), 4, .inr (.inr (.inr (.inr (fun _ => none)))))), ((ax 3), .inl ((kx 3), 12, .inr (.inr (.inr (.inr (fun _ => none)))))), ((ax 4), .inl ((kx 4), 40, .inr (.inr (.inr (.inr (fun _ => none)))))), (o, .inl (kO, 1, .inr (.inl fo)))] sz) := by
  refine va_MetW (cc := cL_station) (maxL := 3) (ret := (some .int)) (hh := [(0, 8, 11, 15)]) (by decide) rfl ?_
  intro p e s m args below meth c s₁ B hml hv
  obtain ⟨rfl, hsz, hP, hK, hD0, hE⟩ := hv
  have hx := B.exec
  have hb := B.bytes
  have hr := B.returns
  have hts := atoms_spec (ws := zwL_station) B.pre
  have hown : s.vm.findClass RL = some m.cls := findClass_of_methodNamed B.named
  have hlocks := B.notSynchronized
  have htab : c.exceptionTable.toList = tableOf [(0, 8, 11, 15)] := vx_table (x := yL_station) B (hts (.codeWith yL_station cL_station 3 (some .int) [(0, 8, 11, 15)]) List.mem_cons_self)
  subst hsz
  have hD := hD0.self (sz := s.heap.size)
  generalize hAe : va_A [(x, .inr (10, [.ref (ax 0), .ref (ax 1), .ref (ax 2), .ref (ax 3), .ref (ax 4), .ref (ax 5), .int 0, .int 0, .int 0, .int 0, .int 0, .int 0])), ((ax 0), .inl ((kx 0), 8, .inl (fun _ => 0))), ((ax 1), .inl ((kx 1), 24, .inr (.inr (.inr (.inr (fun _ => none)))))), ((ax 2), .inl ((kx 2), 4, .inr (.inr (.inr (.inr (fun _ => none)))))), ((ax 3), .inl ((kx 3), 12, .inr (.inr (.inr (.inr (fun _ => none)))))), ((ax 4), .inl ((kx 4), 40, .inr (.inr (.inr (.inr (fun _ => none)))))), (o, .inl (kO, 1, .inr (.inl fo)))] s.heap.size = A at hD hE ⊢
  have hA : ∀ q : Nat, s.heap.size ≤ q → A q := fun q h => by rw [← hAe]; exact Or.inr h
  have hS : va_S A s.heap s.heap [] := va_S.rf
  have hP : va_P (dC, dI) vwCl [(x, .inr (10, [.ref (ax 0), .ref (ax 1), .ref (ax 2), .ref (ax 3), .ref (ax 4), .ref (ax 5), .int 0, .int 0, .int 0, .int 0, .int 0, .int 0])), ((ax 0), .inl ((kx 0), 8, .inl (fun _ => 0))), ((ax 1), .inl ((kx 1), 24, .inr (.inr (.inr (.inr (fun _ => none)))))), ((ax 2), .inl ((kx 2), 4, .inr (.inr (.inr (.inr (fun _ => none)))))), ((ax 3), .inl ((kx 3), 12, .inr (.inr (.inr (.inr (fun _ => none)))))), ((ax 4), .inl ((kx 4), 40, .inr (.inr (.inr (.inr (fun _ => none)))))), (o, .inl (kO, 1, .inr (.inl fo)))] s.heap := hP
  have hl := lv_entry ([.ref x, .ref o]) (n := 3) (Nat.le_of_ble_eq_true rfl)
  rw [lg_entry_eq]
  generalize (lg_sl ([.ref x, .ref o]) ++ List.replicate (3 - (lg_sl ([.ref x, .ref o])).length) Slot.unset).toArray = ls at hl ⊢
  have hl : lv_has ls 3 [(0, .ref x), (1, .ref o)] := hl
  refine lv_aload_n hx hb dL_station_0 rfl (lv_at hl 1 rfl) ?_
  refine lv_iconst (v := 0) hx hb dL_station_1 (by decide) ?_
  refine lv_aload_n hx hb dL_station_2 rfl (lv_at hl 0 rfl) ?_
  have hPc := hP.sub (ws' := xW x ax kx) [0, 1, 2, 3, 4, 5] rfl
  have hKc := hK.sub (tys' := xT kx) [0, 1, 2, 3, 4] rfl
  have hDc := hD.sub (ws' := xW x ax kx) [0, 1, 2, 3, 4, 5] (by decide) rfl
  have hFc := va_free (wc := xW x ax kx) hD hS hA [0, 1, 2, 3, 4, 5] rfl
  refine va_calli (va_runV (As := []) (rest := [.int 0, .ref o]) ⟨hx, hb, hml, hown, hts⟩ (c_X7_station l dC dI s.heap.size x ax kx) (cwV 0 hts (goodIn_app (goodIn_of _ (by decide +kernel)) (goodIn_sub ((fun w h => List.mem_cons_of_mem _ (List.mem_append_right _ (h)))) zgX7_station)) rfl rfl rfl (by decide +kernel) ⟨Nat.le_of_ble_eq_true rfl, Nat.le_of_ble_eq_true rfl⟩) ⟨gPcE_blind, va_recv hK hP (ci := 10) (q0 := 0) rfl rfl, gPcE_pass hPc hKc hDc hE hS hFc⟩ rfl rfl hl.1 rfl (lv_room (Nat.le_of_ble_eq_true rfl)) dL_station_3 ⟨Nat.le_of_ble_eq_true rfl, Nat.le_of_ble_eq_true rfl⟩) hS (fun q _ h => hFc q h) hFc (fun r_1 u t H locs ht hvm hw hB hz hk hS => ?_)
  obtain ⟨hP, hD⟩ := va_join (wr := [(o, .inl (kO, 1, .inr (.inl fo)))]) (w1 := []) hP hD [0, 1, 2, 3, 4, 5] [6] rfl rfl (by decide) (by decide) hk hFc zP_nil zD_nil
  have hP : va_P (dC, dI) vwCl [(o, .inl (kO, 1, .inr (.inl fo)))] H := hP
  have hD : va_D A [(o, .inl (kO, 1, .inr (.inl fo)))] := hD
  have hw : r_1 = 0 := hw
  subst hw
  refine lv_i2l (v := 0) hx hb dL_station_6 (by decide) ?_
  refine va_last hx hb hK hP hD hS 0 5 rfl rfl (by unfold vp_in; decide +kernel) dL_station_7 (fun H locs hP hD hS => ?_)
  have hP : va_P (dC, dI) vwCl [(o, .inl (kO, 1, .inr (.inl (vp_updL fo (Int32.toNatClampNeg 0) 0))))] H := hP
  have hD : va_D A [(o, .inl (kO, 1, .inr (.inl (vp_updL fo (Int32.toNatClampNeg 0) 0))))] := hD
  refine lv_goto (tgt := 14) hx hb dL_station_8 (by decide) ?_
  refine lv_iconst (v := 0) hx hb dL_station_14 (by decide) ?_
  have hP9 := hP.sub (ws' := [(o, .inl (kO, 1, .inr (.inl (vp_updL fo (Int32.toNatClampNeg 0) 0))))]) [0] rfl
  have hD9 := hD.sub (ws' := [(o, .inl (kO, 1, .inr (.inl (vp_updL fo (Int32.toNatClampNeg 0) 0))))]) [0] (by decide) rfl
  have hK9 := hK.sub (tys' := [(kO, .long)]) [5] rfl
  refine W.widen (k := 2) (n := 15) (Nat.le_of_ble_eq_true rfl) (Nat.le_of_ble_eq_true rfl) ?_
  exact W.iret (v := 0) hx hb hr (fun t ht hW => ⟨⟨0, (vp_updL fo (Int32.toNatClampNeg 0) 0), rfl, ⟨rfl, rfl⟩, by rw [ht]; exact hP9, va_K.moved hW.alike hK9, hD9⟩, hS.F ht⟩) hS.2.2 dL_station_15

def zwL_order : List Cond := .codeWith yL_order cL_order 4 (some .int) [(0, 9, 12, 13), (0, 9, 15, 15)] :: (([.methodLink RL 77 yX7_order, .instanceMethod yX7_order, .selects RX7 yX7_order yX7_order, .initialized RX7, .classLink RL 13 "java/lang/IndexOutOfBoundsException"] : List Cond) ++ (zwX7_order))
theorem zgL_order : zwL_order.all goodWord = true := zgo rfl (zga (by decide +kernel) (zgX7_order))
set_option maxHeartbeats 4000000 in
set_option maxRecDepth 100000 in
theorem c_L_order (l : Launch) (hst : l.stackTraces = false) (dC : Nat → ClassId) (dI : Nat → Nat → Nat) (sz : Nat) (x : Nat) (ax : Nat → Nat) (kx : Nat → ClassId) (o : Nat) (kO : ClassId) (fo : Nat → Int64) (v : Int32) : Met l yL_order zwL_order ({ frames := 8, cells := 3, slots := 35, locals := 124 }) (gPcE dC dI sz [(x, .inr (10, [.ref (ax 0), .ref (ax 1), .ref (ax 2), .ref (ax 3), .ref (ax 4), .ref (ax 5), .int 0, .int 0, .int 0, .int 0, .int 0, .int 0])), ((ax 0), .inl ((kx 0), 8, .inl (fun _ => 0))), ((ax 1), .inl ((kx 1), 24, .inr (.inr (.inr (.inr (fun _ => none)))))), ((ax 2), .inl ((kx 2), 4, .inr (.inr (.inr (.inr (fun _ => none)))))), ((ax 3), .inl ((kx 3), 12, .inr (.inr (.inr (.inr (fun _ => none)))))), ((ax 4), .inl ((kx 4), 40, .inr (.inr (.inr (.inr (fun _ => none)))))), (o, .inl (kO, 1, .inr (.inl fo)))] [((kx 0), .int), ((kx 1), .object RX4), ((kx 2), .object RX5), ((kx 3), .object RX3), ((kx 4), .object RX0), (kO, .long)] [.ref x, .int v, .ref o]) (va_Qi (fun (r : Int32) (u : Nat → Int64) => (r = 0 ∧ u 0 = 0 ∧ ¬ (v < 0 ∨ 4 ≤ v)) ∨ (r = 1 ∧ (v < 0 ∨ 4 ≤ v))) (fun u t => va_P (dC, dI) vwCl [(o, .inl (kO, 1, .inr (.inl u)))] t.heap ∧ va_K (dC, dI) vwCl [(kO, .long)] t ∧ va_D (va_A [(x, .inr (10, [.ref (ax 0), .ref (ax 1), .ref (ax 2), .ref (ax 3), .ref (ax 4), .ref (ax 5), .int 0, .int 0, .int 0, .int 0, .int 0, .int 0])), ((ax 0), .inl ((kx 0), 8, .inl (fun _ => 0))), ((ax 1), .inl ((kx 1), 24, .inr (.inr (.inr (.inr (fun _ => none)))))), ((ax 2), .inl ((kx 2), 4, .inr (.inr (.inr (.inr (fun _ => none)))))), ((ax 3), .inl ((kx 3), 12, .inr (.inr (.inr (.inr (fun _ => none)))))), ((ax 4), .inl ((kx 4), 40, .inr (.inr (.inr (.inr (fun _ => none)))))), (o, .inl (kO, 1, .inr (.inl fo)))] sz) [(o, .inl (kO, 1, .inr (.inl u)))]) (va_A [(x, .inr (10, [.ref (ax 0), .ref (ax 1), .ref (ax 2), .ref (ax 3), .ref (ax 4), .ref (ax 5), .int 0, .int 0, .int 0, .int 0, .int 0, .int 0])), ((ax 0), .inl ((kx 0), 8, .inl (fun _ => 0))), ((ax 1), .inl ((kx 1), 24, .inr (.inr (.inr (.inr (fun _ => none)))))), ((ax 2), .inl ((kx 2), 4, .inr (.inr (.inr (.inr (fun _ => none)))))), ((ax 3), .inl ((kx 3), 12, .inr (.inr (.inr (.inr (fun _ => none)))))), ((ax 4), .inl ((kx 4), 40, .inr (.inr (.inr (.inr (fun _ => none)))))), (o, .inl (kO, 1, .inr (.inl fo)))] sz)) 3 35 (va_A [(x, .inr (10, [.ref (ax 0), .ref (ax 1), .ref (ax 2), .ref (ax 3), .ref (ax 4), .ref (ax 5), .int 0, .int 0, .int 0, .int 0, .int 0, .int 0])), ((ax 0), .inl ((kx 0), 8, .inl (fun _ => 0))), ((ax 1), .inl ((kx 1), 24, .inr (.inr (.inr (.inr (fun _ => none)))))), ((ax 2), .inl ((kx 2), 4, .inr (.inr (.inr (.inr (fun _ => none)))))), ((ax 3), .inl ((kx 3), 12, .inr (.inr (.inr (.inr (fun _ => none)))))), ((ax 4), .inl ((kx 4), 40, .inr (.inr (.inr (.inr (fun _ => none)))))), (o, .inl (kO, 1, .inr (.inl fo)))] sz) := by
  refine va_MetW (cc := cL_order) (maxL := 4) (ret := (some .int)) (hh := [(0, 9, 12, 13), (0, 9, 15, 15)]) (by decide) rfl ?_
  intro p e s m args below meth c s₁ B hml hv
  obtain ⟨rfl, hsz, hP, hK, hD0, hE⟩ := hv
  have hx := B.exec
  have hb := B.bytes
  have hr := B.returns
  have hts := atoms_spec (ws := zwL_order) B.pre
  have hown : s.vm.findClass RL = some m.cls := findClass_of_methodNamed B.named
  have hlocks := B.notSynchronized
  have htab : c.exceptionTable.toList = tableOf [(0, 9, 12, 13), (0, 9, 15, 15)] := vx_table (x := yL_order) B (hts (.codeWith yL_order cL_order 4 (some .int) [(0, 9, 12, 13), (0, 9, 15, 15)]) List.mem_cons_self)
  subst hsz
  have hD := hD0.self (sz := s.heap.size)
  generalize hAe : va_A [(x, .inr (10, [.ref (ax 0), .ref (ax 1), .ref (ax 2), .ref (ax 3), .ref (ax 4), .ref (ax 5), .int 0, .int 0, .int 0, .int 0, .int 0, .int 0])), ((ax 0), .inl ((kx 0), 8, .inl (fun _ => 0))), ((ax 1), .inl ((kx 1), 24, .inr (.inr (.inr (.inr (fun _ => none)))))), ((ax 2), .inl ((kx 2), 4, .inr (.inr (.inr (.inr (fun _ => none)))))), ((ax 3), .inl ((kx 3), 12, .inr (.inr (.inr (.inr (fun _ => none)))))), ((ax 4), .inl ((kx 4), 40, .inr (.inr (.inr (.inr (fun _ => none)))))), (o, .inl (kO, 1, .inr (.inl fo)))] s.heap.size = A at hD hE ⊢
  have hA : ∀ q : Nat, s.heap.size ≤ q → A q := fun q h => by rw [← hAe]; exact Or.inr h
  have hS : va_S A s.heap s.heap [] := va_S.rf
  have hP : va_P (dC, dI) vwCl [(x, .inr (10, [.ref (ax 0), .ref (ax 1), .ref (ax 2), .ref (ax 3), .ref (ax 4), .ref (ax 5), .int 0, .int 0, .int 0, .int 0, .int 0, .int 0])), ((ax 0), .inl ((kx 0), 8, .inl (fun _ => 0))), ((ax 1), .inl ((kx 1), 24, .inr (.inr (.inr (.inr (fun _ => none)))))), ((ax 2), .inl ((kx 2), 4, .inr (.inr (.inr (.inr (fun _ => none)))))), ((ax 3), .inl ((kx 3), 12, .inr (.inr (.inr (.inr (fun _ => none)))))), ((ax 4), .inl ((kx 4), 40, .inr (.inr (.inr (.inr (fun _ => none)))))), (o, .inl (kO, 1, .inr (.inl fo)))] s.heap := hP
  have hl := lv_entry ([.ref x, .int v, .ref o]) (n := 4) (Nat.le_of_ble_eq_true rfl)
  rw [lg_entry_eq]
  generalize (lg_sl ([.ref x, .int v, .ref o]) ++ List.replicate (4 - (lg_sl ([.ref x, .int v, .ref o])).length) Slot.unset).toArray = ls at hl ⊢
  have hl : lv_has ls 4 [(0, .ref x), (1, .int v), (2, .ref o)] := hl
  refine lv_aload_n hx hb dL_order_0 rfl (lv_at hl 2 rfl) ?_
  refine lv_iconst (v := 0) hx hb dL_order_1 (by decide) ?_
  refine lv_aload_n hx hb dL_order_2 rfl (lv_at hl 0 rfl) ?_
  refine lv_iload_n hx hb dL_order_3 rfl (lv_at hl 1 rfl) ?_
  have hPc := hP.sub (ws' := xW x ax kx) [0, 1, 2, 3, 4, 5] rfl
  have hKc := hK.sub (tys' := xT kx) [0, 1, 2, 3, 4] rfl
  have hDc := hD.sub (ws' := xW x ax kx) [0, 1, 2, 3, 4, 5] (by decide) rfl
  have hFc := va_free (wc := xW x ax kx) hD hS hA [0, 1, 2, 3, 4, 5] rfl
  refine vx_calli (vx_runV (As := [.int v]) (rest := [.int 0, .ref o]) ⟨hx, hb, hml, hown, hts⟩ (c_X7_order l hst dC dI s.heap.size x ax kx v) (cwV 1 hts (goodIn_app (goodIn_of _ (by decide +kernel)) (goodIn_sub ((fun w h => List.mem_cons_of_mem _ (List.mem_append_right _ (h)))) zgX7_order)) rfl rfl rfl (by decide +kernel) ⟨Nat.le_of_ble_eq_true rfl, Nat.le_of_ble_eq_true rfl⟩) ⟨gPcE_blind, va_recv hK hP (ci := 10) (q0 := 0) rfl rfl, gPcE_pass hPc hKc hDc hE hS hFc⟩ rfl rfl hl.1 rfl (lv_room (Nat.le_of_ble_eq_true rfl)) dL_order_4 ⟨Nat.le_of_ble_eq_true rfl, Nat.le_of_ble_eq_true rfl⟩) hS (fun q _ h => hFc q h) hFc (fun q _ h => hFc q h) (fun E ce q9 _ t H locs ht hvm hpx hBX hz hk hS hcell hv hcl => ?_) (fun r_1 u t H locs ht hvm hw hB hz hk hS => ?_)
  · have hBX : E = "java/lang/IndexOutOfBoundsException" := hBX
    subst hBX
    obtain ⟨hP, hD⟩ := va_join (wr := [(o, .inl (kO, 1, .inr (.inl fo)))]) (w1 := []) hP hD [0, 1, 2, 3, 4, 5] [6] rfl rfl (by decide) (by decide) hk hFc zP_nil zD_nil
    have hP : va_P (dC, dI) vwCl [(o, .inl (kO, 1, .inr (.inl fo)))] H := hP
    have hD : va_D A [(o, .inl (kO, 1, .inr (.inl fo)))] := hD
    refine vx_catch (own := RL) (name := "java/lang/IndexOutOfBoundsException") hown [] ⟨0, 9, 12, 13⟩ [⟨0, 9, 15, 15⟩] (htab.trans rfl) (fun z hz => nomatch hz) (by decide) (by decide) (hts (.classLink RL 13 "java/lang/IndexOutOfBoundsException") (by decide +kernel)) (va_Nw.use rfl (hE.2.2.2.1 _ (by decide))) hcell hv hcl ?_
    refine W.eq (g2 := F0 m 12 ls [.ref q9]) rfl ?_
    have hpx : v < 0 ∨ 4 ≤ v := hpx
    refine lv_astore_n (lv' := [(3, .ref q9), (0, .ref x), (1, .int v), (2, .ref o)]) hx hb dL_order_12 rfl hl (by decide) rfl (fun ls hl => ?_)
    refine lv_iconst (v := 1) hx hb dL_order_13 (by decide) ?_
    have hP9 := hP.sub (ws' := [(o, .inl (kO, 1, .inr (.inl fo)))]) [0] rfl
    have hD9 := hD.sub (ws' := [(o, .inl (kO, 1, .inr (.inl fo)))]) [0] (by decide) rfl
    have hK9 := hK.sub (tys' := [(kO, .long)]) [5] rfl
    refine W.widen (k := 3) (n := 35) (Nat.le_of_ble_eq_true rfl) (Nat.le_of_ble_eq_true rfl) ?_
    exact W.iret (v := 1) hx hb hr (fun t ht hW => ⟨⟨1, fo, rfl, (Or.inr ⟨rfl, hpx⟩), by rw [ht]; exact hP9, va_K.moved hW.alike hK9, hD9⟩, hS.F ht⟩) hS.2.2 dL_order_14
  obtain ⟨hP, hD⟩ := va_join (wr := [(o, .inl (kO, 1, .inr (.inl fo)))]) (w1 := []) hP hD [0, 1, 2, 3, 4, 5] [6] rfl rfl (by decide) (by decide) hk hFc zP_nil zD_nil
  have hP : va_P (dC, dI) vwCl [(o, .inl (kO, 1, .inr (.inl fo)))] H := hP
  have hD : va_D A [(o, .inl (kO, 1, .inr (.inl fo)))] := hD
  obtain ⟨hw, w_2⟩ : r_1 = 0 ∧ ¬ (v < 0 ∨ 4 ≤ v) := hw
  subst hw
  refine lv_i2l (v := 0) hx hb dL_order_7 (by decide) ?_
  refine va_last hx hb hK hP hD hS 0 5 rfl rfl (by unfold vp_in; decide +kernel) dL_order_8 (fun H locs hP hD hS => ?_)
  have hP : va_P (dC, dI) vwCl [(o, .inl (kO, 1, .inr (.inl (vp_updL fo (Int32.toNatClampNeg 0) 0))))] H := hP
  have hD : va_D A [(o, .inl (kO, 1, .inr (.inl (vp_updL fo (Int32.toNatClampNeg 0) 0))))] := hD
  refine lv_goto (tgt := 18) hx hb dL_order_9 (by decide) ?_
  refine lv_iconst (v := 0) hx hb dL_order_18 (by decide) ?_
  have hP9 := hP.sub (ws' := [(o, .inl (kO, 1, .inr (.inl (vp_updL fo (Int32.toNatClampNeg 0) 0))))]) [0] rfl
  have hD9 := hD.sub (ws' := [(o, .inl (kO, 1, .inr (.inl (vp_updL fo (Int32.toNatClampNeg 0) 0))))]) [0] (by decide) rfl
  have hK9 := hK.sub (tys' := [(kO, .long)]) [5] rfl
  refine W.widen (k := 3) (n := 35) (Nat.le_of_ble_eq_true rfl) (Nat.le_of_ble_eq_true rfl) ?_
  exact W.iret (v := 0) hx hb hr (fun t ht hW => ⟨⟨0, (vp_updL fo (Int32.toNatClampNeg 0) 0), rfl, (Or.inl ⟨rfl, rfl, w_2⟩), by rw [ht]; exact hP9, va_K.moved hW.alike hK9, hD9⟩, hS.F ht⟩) hS.2.2 dL_order_19

def zwL_spots : List Cond := .codeWith yL_spots cL_spots 4 (some .int) [(0, 9, 12, 13)] :: (([.methodLink RL 25 yX7_spots, .instanceMethod yX7_spots, .selects RX7 yX7_spots yX7_spots, .initialized RX7, .classLink RL 13 "java/lang/IndexOutOfBoundsException"] : List Cond) ++ (zwX7_spots))
theorem zgL_spots : zwL_spots.all goodWord = true := zgo rfl (zga (by decide +kernel) (zgX7_spots))
set_option maxHeartbeats 4000000 in
set_option maxRecDepth 100000 in
theorem c_L_spots (l : Launch) (hst : l.stackTraces = false) (dC : Nat → ClassId) (dI : Nat → Nat → Nat) (sz : Nat) (x : Nat) (ax : Nat → Nat) (kx : Nat → ClassId) (o : Nat) (kO : ClassId) (fo : Nat → Int64) (v : Int32) : Met l yL_spots zwL_spots ({ frames := 8, cells := 1, slots := 6, locals := 128 }) (gPcE dC dI sz [(x, .inr (10, [.ref (ax 0), .ref (ax 1), .ref (ax 2), .ref (ax 3), .ref (ax 4), .ref (ax 5), .int 0, .int 0, .int 0, .int 0, .int 0, .int 0])), ((ax 0), .inl ((kx 0), 8, .inl (fun _ => 0))), ((ax 1), .inl ((kx 1), 24, .inr (.inr (.inr (.inr (fun _ => none)))))), ((ax 2), .inl ((kx 2), 4, .inr (.inr (.inr (.inr (fun _ => none)))))), ((ax 3), .inl ((kx 3), 12, .inr (.inr (.inr (.inr (fun _ => none)))))), ((ax 4), .inl ((kx 4), 40, .inr (.inr (.inr (.inr (fun _ => none)))))), (o, .inl (kO, 1, .inr (.inl fo)))] [((kx 0), .int), ((kx 1), .object RX4), ((kx 2), .object RX5), ((kx 3), .object RX3), ((kx 4), .object RX0), (kO, .long)] [.ref x, .int v, .ref o]) (va_Qi (fun (r : Int32) (u : Nat → Int64) => (r = 0 ∧ u 0 = 0 ∧ ¬ (v < 0 ∨ 4 ≤ v)) ∨ (r = 1 ∧ (v < 0 ∨ 4 ≤ v))) (fun u t => va_P (dC, dI) vwCl [(o, .inl (kO, 1, .inr (.inl u)))] t.heap ∧ va_K (dC, dI) vwCl [(kO, .long)] t ∧ va_D (va_A [(x, .inr (10, [.ref (ax 0), .ref (ax 1), .ref (ax 2), .ref (ax 3), .ref (ax 4), .ref (ax 5), .int 0, .int 0, .int 0, .int 0, .int 0, .int 0])), ((ax 0), .inl ((kx 0), 8, .inl (fun _ => 0))), ((ax 1), .inl ((kx 1), 24, .inr (.inr (.inr (.inr (fun _ => none)))))), ((ax 2), .inl ((kx 2), 4, .inr (.inr (.inr (.inr (fun _ => none)))))), ((ax 3), .inl ((kx 3), 12, .inr (.inr (.inr (.inr (fun _ => none)))))), ((ax 4), .inl ((kx 4), 40, .inr (.inr (.inr (.inr (fun _ => none)))))), (o, .inl (kO, 1, .inr (.inl fo)))] sz) [(o, .inl (kO, 1, .inr (.inl u)))]) (va_A [(x, .inr (10, [.ref (ax 0), .ref (ax 1), .ref (ax 2), .ref (ax 3), .ref (ax 4), .ref (ax 5), .int 0, .int 0, .int 0, .int 0, .int 0, .int 0])), ((ax 0), .inl ((kx 0), 8, .inl (fun _ => 0))), ((ax 1), .inl ((kx 1), 24, .inr (.inr (.inr (.inr (fun _ => none)))))), ((ax 2), .inl ((kx 2), 4, .inr (.inr (.inr (.inr (fun _ => none)))))), ((ax 3), .inl ((kx 3), 12, .inr (.inr (.inr (.inr (fun _ => none)))))), ((ax 4), .inl ((kx 4), 40, .inr (.inr (.inr (.inr (fun _ => none)))))), (o, .inl (kO, 1, .inr (.inl fo)))] sz)) 1 6 (va_A [(x, .inr (10, [.ref (ax 0), .ref (ax 1), .ref (ax 2), .ref (ax 3), .ref (ax 4), .ref (ax 5), .int 0, .int 0, .int 0, .int 0, .int 0, .int 0])), ((ax 0), .inl ((kx 0), 8, .inl (fun _ => 0))), ((ax 1), .inl ((kx 1), 24, .inr (.inr (.inr (.inr (fun _ => none)))))), ((ax 2), .inl ((kx 2), 4, .inr (.inr (.inr (.inr (fun _ => none)))))), ((ax 3), .inl ((kx 3), 12, .inr (.inr (.inr (.inr (fun _ => none)))))), ((ax 4), .inl ((kx 4), 40, .inr (.inr (.inr (.inr (fun _ => none)))))), (o, .inl (kO, 1, .inr (.inl fo)))] sz) := by
  refine va_MetW (cc := cL_spots) (maxL := 4) (ret := (some .int)) (hh := [(0, 9, 12, 13)]) (by decide) rfl ?_
  intro p e s m args below meth c s₁ B hml hv
  obtain ⟨rfl, hsz, hP, hK, hD0, hE⟩ := hv
  have hx := B.exec
  have hb := B.bytes
  have hr := B.returns
  have hts := atoms_spec (ws := zwL_spots) B.pre
  have hown : s.vm.findClass RL = some m.cls := findClass_of_methodNamed B.named
  have hlocks := B.notSynchronized
  have htab : c.exceptionTable.toList = tableOf [(0, 9, 12, 13)] := vx_table (x := yL_spots) B (hts (.codeWith yL_spots cL_spots 4 (some .int) [(0, 9, 12, 13)]) List.mem_cons_self)
  subst hsz
  have hD := hD0.self (sz := s.heap.size)
  generalize hAe : va_A [(x, .inr (10, [.ref (ax 0), .ref (ax 1), .ref (ax 2), .ref (ax 3), .ref (ax 4), .ref (ax 5), .int 0, .int 0, .int 0, .int 0, .int 0, .int 0])), ((ax 0), .inl ((kx 0), 8, .inl (fun _ => 0))), ((ax 1), .inl ((kx 1), 24, .inr (.inr (.inr (.inr (fun _ => none)))))), ((ax 2), .inl ((kx 2), 4, .inr (.inr (.inr (.inr (fun _ => none)))))), ((ax 3), .inl ((kx 3), 12, .inr (.inr (.inr (.inr (fun _ => none)))))), ((ax 4), .inl ((kx 4), 40, .inr (.inr (.inr (.inr (fun _ => none)))))), (o, .inl (kO, 1, .inr (.inl fo)))] s.heap.size = A at hD hE ⊢
  have hA : ∀ q : Nat, s.heap.size ≤ q → A q := fun q h => by rw [← hAe]; exact Or.inr h
  have hS : va_S A s.heap s.heap [] := va_S.rf
  have hP : va_P (dC, dI) vwCl [(x, .inr (10, [.ref (ax 0), .ref (ax 1), .ref (ax 2), .ref (ax 3), .ref (ax 4), .ref (ax 5), .int 0, .int 0, .int 0, .int 0, .int 0, .int 0])), ((ax 0), .inl ((kx 0), 8, .inl (fun _ => 0))), ((ax 1), .inl ((kx 1), 24, .inr (.inr (.inr (.inr (fun _ => none)))))), ((ax 2), .inl ((kx 2), 4, .inr (.inr (.inr (.inr (fun _ => none)))))), ((ax 3), .inl ((kx 3), 12, .inr (.inr (.inr (.inr (fun _ => none)))))), ((ax 4), .inl ((kx 4), 40, .inr (.inr (.inr (.inr (fun _ => none)))))), (o, .inl (kO, 1, .inr (.inl fo)))] s.heap := hP
  have hl := lv_entry ([.ref x, .int v, .ref o]) (n := 4) (Nat.le_of_ble_eq_true rfl)
  rw [lg_entry_eq]
  generalize (lg_sl ([.ref x, .int v, .ref o]) ++ List.replicate (4 - (lg_sl ([.ref x, .int v, .ref o])).length) Slot.unset).toArray = ls at hl ⊢
  have hl : lv_has ls 4 [(0, .ref x), (1, .int v), (2, .ref o)] := hl
  refine lv_aload_n hx hb dL_spots_0 rfl (lv_at hl 2 rfl) ?_
  refine lv_iconst (v := 0) hx hb dL_spots_1 (by decide) ?_
  refine lv_aload_n hx hb dL_spots_2 rfl (lv_at hl 0 rfl) ?_
  refine lv_iload_n hx hb dL_spots_3 rfl (lv_at hl 1 rfl) ?_
  have hPc := hP.sub (ws' := xW x ax kx) [0, 1, 2, 3, 4, 5] rfl
  have hKc := hK.sub (tys' := xT kx) [0, 1, 2, 3, 4] rfl
  refine vx_calli (vx_runV (As := [.int v]) (rest := [.int 0, .ref o]) ⟨hx, hb, hml, hown, hts⟩ (c_X7_spots l hst dC dI s.heap.size x ax kx v) (cwV 1 hts (goodIn_app (goodIn_of _ (by decide +kernel)) (goodIn_sub ((fun w h => List.mem_cons_of_mem _ (List.mem_append_right _ (h)))) zgX7_spots)) rfl rfl rfl (by decide +kernel) ⟨Nat.le_of_ble_eq_true rfl, Nat.le_of_ble_eq_true rfl⟩) ⟨xPc_blind, va_recv hK hP (ci := 10) (q0 := 0) rfl rfl, xPc_pass hPc hKc hE hS (fun q h => hA q (Nat.le_trans hS.1 h))⟩ rfl rfl hl.1 rfl (lv_room (Nat.le_of_ble_eq_true rfl)) dL_spots_4 ⟨Nat.le_of_ble_eq_true rfl, Nat.le_of_ble_eq_true rfl⟩) hS (fun q _ h => hA q (Nat.le_trans hS.1 h)) (fun q h => hA q (Nat.le_trans hS.1 h)) (fun q _ h => hA q (Nat.le_trans hS.1 h)) (fun E ce q9 _ t H locs ht hvm hpx hBX hz hk hS hcell hv hcl => ?_) (fun r_1 u t H locs ht hvm hw hB hz hk hS => ?_)
  · have hBX : E = "java/lang/IndexOutOfBoundsException" := hBX
    subst hBX
    have hP := zkn hP hk
    refine vx_catch (own := RL) (name := "java/lang/IndexOutOfBoundsException") hown [] ⟨0, 9, 12, 13⟩ [] (htab.trans rfl) (fun z hz => nomatch hz) (by decide) (by decide) (hts (.classLink RL 13 "java/lang/IndexOutOfBoundsException") (by decide +kernel)) (va_Nw.use rfl (hE.2.2.2.1 _ (by decide))) hcell hv hcl ?_
    refine W.eq (g2 := F0 m 12 ls [.ref q9]) rfl ?_
    have hpx : v < 0 ∨ 4 ≤ v := hpx
    refine lv_astore_n (lv' := [(3, .ref q9), (0, .ref x), (1, .int v), (2, .ref o)]) hx hb dL_spots_12 rfl hl (by decide) rfl (fun ls hl => ?_)
    refine lv_iconst (v := 1) hx hb dL_spots_13 (by decide) ?_
    have hP9 := hP.sub (ws' := [(o, .inl (kO, 1, .inr (.inl fo)))]) [6] rfl
    have hD9 := hD.sub (ws' := [(o, .inl (kO, 1, .inr (.inl fo)))]) [6] (by decide) rfl
    have hK9 := hK.sub (tys' := [(kO, .long)]) [5] rfl
    refine W.widen (k := 1) (n := 6) (Nat.le_of_ble_eq_true rfl) (Nat.le_of_ble_eq_true rfl) ?_
    exact W.iret (v := 1) hx hb hr (fun t ht hW => ⟨⟨1, fo, rfl, (Or.inr ⟨rfl, hpx⟩), by rw [ht]; exact hP9, va_K.moved hW.alike hK9, hD9⟩, hS.F ht⟩) hS.2.2 dL_spots_14
  have hP := zkn hP hk
  obtain ⟨hw, w_2⟩ : r_1 = 0 ∧ ¬ (v < 0 ∨ 4 ≤ v) := hw
  subst hw
  refine lv_i2l (v := 0) hx hb dL_spots_7 (by decide) ?_
  refine va_last hx hb hK hP hD hS 6 5 rfl rfl (by unfold vp_in; decide +kernel) dL_spots_8 (fun H locs hP hD hS => ?_)
  have hP : va_P (dC, dI) vwCl [(x, .inr (10, [.ref (ax 0), .ref (ax 1), .ref (ax 2), .ref (ax 3), .ref (ax 4), .ref (ax 5), .int 0, .int 0, .int 0, .int 0, .int 0, .int 0])), ((ax 0), .inl ((kx 0), 8, .inl (fun _ => 0))), ((ax 1), .inl ((kx 1), 24, .inr (.inr (.inr (.inr (fun _ => none)))))), ((ax 2), .inl ((kx 2), 4, .inr (.inr (.inr (.inr (fun _ => none)))))), ((ax 3), .inl ((kx 3), 12, .inr (.inr (.inr (.inr (fun _ => none)))))), ((ax 4), .inl ((kx 4), 40, .inr (.inr (.inr (.inr (fun _ => none)))))), (o, .inl (kO, 1, .inr (.inl (vp_updL fo (Int32.toNatClampNeg 0) 0))))] H := hP
  have hD : va_D A [(x, .inr (10, [.ref (ax 0), .ref (ax 1), .ref (ax 2), .ref (ax 3), .ref (ax 4), .ref (ax 5), .int 0, .int 0, .int 0, .int 0, .int 0, .int 0])), ((ax 0), .inl ((kx 0), 8, .inl (fun _ => 0))), ((ax 1), .inl ((kx 1), 24, .inr (.inr (.inr (.inr (fun _ => none)))))), ((ax 2), .inl ((kx 2), 4, .inr (.inr (.inr (.inr (fun _ => none)))))), ((ax 3), .inl ((kx 3), 12, .inr (.inr (.inr (.inr (fun _ => none)))))), ((ax 4), .inl ((kx 4), 40, .inr (.inr (.inr (.inr (fun _ => none)))))), (o, .inl (kO, 1, .inr (.inl (vp_updL fo (Int32.toNatClampNeg 0) 0))))] := hD
  refine lv_goto (tgt := 15) hx hb dL_spots_9 (by decide) ?_
  refine lv_iconst (v := 0) hx hb dL_spots_15 (by decide) ?_
  have hP9 := hP.sub (ws' := [(o, .inl (kO, 1, .inr (.inl (vp_updL fo (Int32.toNatClampNeg 0) 0))))]) [6] rfl
  have hD9 := hD.sub (ws' := [(o, .inl (kO, 1, .inr (.inl (vp_updL fo (Int32.toNatClampNeg 0) 0))))]) [6] (by decide) rfl
  have hK9 := hK.sub (tys' := [(kO, .long)]) [5] rfl
  refine W.widen (k := 1) (n := 6) (Nat.le_of_ble_eq_true rfl) (Nat.le_of_ble_eq_true rfl) ?_
  exact W.iret (v := 0) hx hb hr (fun t ht hW => ⟨⟨0, (vp_updL fo (Int32.toNatClampNeg 0) 0), rfl, (Or.inl ⟨rfl, rfl, w_2⟩), by rw [ht]; exact hP9, va_K.moved hW.alike hK9, hD9⟩, hS.F ht⟩) hS.2.2 dL_spots_16

def zwL_isHeld : List Cond := .codeWith yL_isHeld cL_isHeld 4 (some .int) [(0, 16, 19, 13)] :: (([.methodLink RL 28 yX7_isHeld, .instanceMethod yX7_isHeld, .selects RX7 yX7_isHeld yX7_isHeld, .initialized RX7, .classLink RL 13 "java/lang/IndexOutOfBoundsException"] : List Cond) ++ (zwX7_isHeld))
theorem zgL_isHeld : zwL_isHeld.all goodWord = true := zgo rfl (zga (by decide +kernel) (zgX7_isHeld))
set_option maxHeartbeats 4000000 in
set_option maxRecDepth 100000 in
theorem c_L_isHeld (l : Launch) (hst : l.stackTraces = false) (dC : Nat → ClassId) (dI : Nat → Nat → Nat) (sz : Nat) (x : Nat) (ax : Nat → Nat) (kx : Nat → ClassId) (o : Nat) (kO : ClassId) (fo : Nat → Int64) (v : Int32) : Met l yL_isHeld zwL_isHeld ({ frames := 8, cells := 1, slots := 6, locals := 124 }) (gPcE dC dI sz [(x, .inr (10, [.ref (ax 0), .ref (ax 1), .ref (ax 2), .ref (ax 3), .ref (ax 4), .ref (ax 5), .int 0, .int 0, .int 0, .int 0, .int 0, .int 0])), ((ax 0), .inl ((kx 0), 8, .inl (fun _ => 0))), ((ax 1), .inl ((kx 1), 24, .inr (.inr (.inr (.inr (fun _ => none)))))), ((ax 2), .inl ((kx 2), 4, .inr (.inr (.inr (.inr (fun _ => none)))))), ((ax 3), .inl ((kx 3), 12, .inr (.inr (.inr (.inr (fun _ => none)))))), ((ax 4), .inl ((kx 4), 40, .inr (.inr (.inr (.inr (fun _ => none)))))), (o, .inl (kO, 1, .inr (.inl fo)))] [((kx 0), .int), ((kx 1), .object RX4), ((kx 2), .object RX5), ((kx 3), .object RX3), ((kx 4), .object RX0), (kO, .long)] [.ref x, .int v, .ref o]) (va_Qi (fun (r : Int32) (u : Nat → Int64) => (r = 0 ∧ u 0 = 1 ∧ ¬ (v < 0 ∨ 4 ≤ v)) ∨ (r = 1 ∧ (v < 0 ∨ 4 ≤ v))) (fun u t => va_P (dC, dI) vwCl [(o, .inl (kO, 1, .inr (.inl u)))] t.heap ∧ va_K (dC, dI) vwCl [(kO, .long)] t ∧ va_D (va_A [(x, .inr (10, [.ref (ax 0), .ref (ax 1), .ref (ax 2), .ref (ax 3), .ref (ax 4), .ref (ax 5), .int 0, .int 0, .int 0, .int 0, .int 0, .int 0])), ((ax 0), .inl ((kx 0), 8, .inl (fun _ => 0))), ((ax 1), .inl ((kx 1), 24, .inr (.inr (.inr (.inr (fun _ => none)))))), ((ax 2), .inl ((kx 2), 4, .inr (.inr (.inr (.inr (fun _ => none)))))), ((ax 3), .inl ((kx 3), 12, .inr (.inr (.inr (.inr (fun _ => none)))))), ((ax 4), .inl ((kx 4), 40, .inr (.inr (.inr (.inr (fun _ => none)))))), (o, .inl (kO, 1, .inr (.inl fo)))] sz) [(o, .inl (kO, 1, .inr (.inl u)))]) (va_A [(x, .inr (10, [.ref (ax 0), .ref (ax 1), .ref (ax 2), .ref (ax 3), .ref (ax 4), .ref (ax 5), .int 0, .int 0, .int 0, .int 0, .int 0, .int 0])), ((ax 0), .inl ((kx 0), 8, .inl (fun _ => 0))), ((ax 1), .inl ((kx 1), 24, .inr (.inr (.inr (.inr (fun _ => none)))))), ((ax 2), .inl ((kx 2), 4, .inr (.inr (.inr (.inr (fun _ => none)))))), ((ax 3), .inl ((kx 3), 12, .inr (.inr (.inr (.inr (fun _ => none)))))), ((ax 4), .inl ((kx 4), 40, .inr (.inr (.inr (.inr (fun _ => none)))))), (o, .inl (kO, 1, .inr (.inl fo)))] sz)) 1 6 (va_A [(x, .inr (10, [.ref (ax 0), .ref (ax 1), .ref (ax 2), .ref (ax 3), .ref (ax 4), .ref (ax 5), .int 0, .int 0, .int 0, .int 0, .int 0, .int 0])), ((ax 0), .inl ((kx 0), 8, .inl (fun _ => 0))), ((ax 1), .inl ((kx 1), 24, .inr (.inr (.inr (.inr (fun _ => none)))))), ((ax 2), .inl ((kx 2), 4, .inr (.inr (.inr (.inr (fun _ => none)))))), ((ax 3), .inl ((kx 3), 12, .inr (.inr (.inr (.inr (fun _ => none)))))), ((ax 4), .inl ((kx 4), 40, .inr (.inr (.inr (.inr (fun _ => none)))))), (o, .inl (kO, 1, .inr (.inl fo)))] sz) := by
  refine va_MetW (cc := cL_isHeld) (maxL := 4) (ret := (some .int)) (hh := [(0, 16, 19, 13)]) (by decide) rfl ?_
  intro p e s m args below meth c s₁ B hml hv
  obtain ⟨rfl, hsz, hP, hK, hD0, hE⟩ := hv
  have hx := B.exec
  have hb := B.bytes
  have hr := B.returns
  have hts := atoms_spec (ws := zwL_isHeld) B.pre
  have hown : s.vm.findClass RL = some m.cls := findClass_of_methodNamed B.named
  have hlocks := B.notSynchronized
  have htab : c.exceptionTable.toList = tableOf [(0, 16, 19, 13)] := vx_table (x := yL_isHeld) B (hts (.codeWith yL_isHeld cL_isHeld 4 (some .int) [(0, 16, 19, 13)]) List.mem_cons_self)
  subst hsz
  have hD := hD0.self (sz := s.heap.size)
  generalize hAe : va_A [(x, .inr (10, [.ref (ax 0), .ref (ax 1), .ref (ax 2), .ref (ax 3), .ref (ax 4), .ref (ax 5), .int 0, .int 0, .int 0, .int 0, .int 0, .int 0])), ((ax 0), .inl ((kx 0), 8, .inl (fun _ => 0))), ((ax 1), .inl ((kx 1), 24, .inr (.inr (.inr (.inr (fun _ => none)))))), ((ax 2), .inl ((kx 2), 4, .inr (.inr (.inr (.inr (fun _ => none)))))), ((ax 3), .inl ((kx 3), 12, .inr (.inr (.inr (.inr (fun _ => none)))))), ((ax 4), .inl ((kx 4), 40, .inr (.inr (.inr (.inr (fun _ => none)))))), (o, .inl (kO, 1, .inr (.inl fo)))] s.heap.size = A at hD hE ⊢
  have hA : ∀ q : Nat, s.heap.size ≤ q → A q := fun q h => by rw [← hAe]; exact Or.inr h
  have hS : va_S A s.heap s.heap [] := va_S.rf
  have hP : va_P (dC, dI) vwCl [(x, .inr (10, [.ref (ax 0), .ref (ax 1), .ref (ax 2), .ref (ax 3), .ref (ax 4), .ref (ax 5), .int 0, .int 0, .int 0, .int 0, .int 0, .int 0])), ((ax 0), .inl ((kx 0), 8, .inl (fun _ => 0))), ((ax 1), .inl ((kx 1), 24, .inr (.inr (.inr (.inr (fun _ => none)))))), ((ax 2), .inl ((kx 2), 4, .inr (.inr (.inr (.inr (fun _ => none)))))), ((ax 3), .inl ((kx 3), 12, .inr (.inr (.inr (.inr (fun _ => none)))))), ((ax 4), .inl ((kx 4), 40, .inr (.inr (.inr (.inr (fun _ => none)))))), (o, .inl (kO, 1, .inr (.inl fo)))] s.heap := hP
  have hl := lv_entry ([.ref x, .int v, .ref o]) (n := 4) (Nat.le_of_ble_eq_true rfl)
  rw [lg_entry_eq]
  generalize (lg_sl ([.ref x, .int v, .ref o]) ++ List.replicate (4 - (lg_sl ([.ref x, .int v, .ref o])).length) Slot.unset).toArray = ls at hl ⊢
  have hl : lv_has ls 4 [(0, .ref x), (1, .int v), (2, .ref o)] := hl
  refine lv_aload_n hx hb dL_isHeld_0 rfl (lv_at hl 2 rfl) ?_
  refine lv_iconst (v := 0) hx hb dL_isHeld_1 (by decide) ?_
  refine lv_aload_n hx hb dL_isHeld_2 rfl (lv_at hl 0 rfl) ?_
  refine lv_iload_n hx hb dL_isHeld_3 rfl (lv_at hl 1 rfl) ?_
  have hPc := hP.sub (ws' := xW x ax kx) [0, 1, 2, 3, 4, 5] rfl
  have hKc := hK.sub (tys' := xT kx) [0, 1, 2, 3, 4] rfl
  refine vx_calli (vx_runV (As := [.int v]) (rest := [.int 0, .ref o]) ⟨hx, hb, hml, hown, hts⟩ (c_X7_isHeld l hst dC dI s.heap.size x ax kx v) (cwV 1 hts (goodIn_app (goodIn_of _ (by decide +kernel)) (goodIn_sub ((fun w h => List.mem_cons_of_mem _ (List.mem_append_right _ (h)))) zgX7_isHeld)) rfl rfl rfl (by decide +kernel) ⟨Nat.le_of_ble_eq_true rfl, Nat.le_of_ble_eq_true rfl⟩) ⟨xPc_blind, va_recv hK hP (ci := 10) (q0 := 0) rfl rfl, xPc_pass hPc hKc hE hS (fun q h => hA q (Nat.le_trans hS.1 h))⟩ rfl rfl hl.1 rfl (lv_room (Nat.le_of_ble_eq_true rfl)) dL_isHeld_4 ⟨Nat.le_of_ble_eq_true rfl, Nat.le_of_ble_eq_true rfl⟩) hS (fun q _ h => hA q (Nat.le_trans hS.1 h)) (fun q h => hA q (Nat.le_trans hS.1 h)) (fun q _ h => hA q (Nat.le_trans hS.1 h)) (fun E ce q9 _ t H locs ht hvm hpx hBX hz hk hS hcell hv hcl => ?_) (fun r_1 u t H locs ht hvm hw hB hz hk hS => ?_)
  · have hBX : E = "java/lang/IndexOutOfBoundsException" := hBX
    subst hBX
    have hP := zkn hP hk
    refine vx_catch (own := RL) (name := "java/lang/IndexOutOfBoundsException") hown [] ⟨0, 16, 19, 13⟩ [] (htab.trans rfl) (fun z hz => nomatch hz) (by decide) (by decide) (hts (.classLink RL 13 "java/lang/IndexOutOfBoundsException") (by decide +kernel)) (va_Nw.use rfl (hE.2.2.2.1 _ (by decide))) hcell hv hcl ?_
    refine W.eq (g2 := F0 m 19 ls [.ref q9]) rfl ?_
    have hpx : v < 0 ∨ 4 ≤ v := hpx
    refine lv_astore_n (lv' := [(3, .ref q9), (0, .ref x), (1, .int v), (2, .ref o)]) hx hb dL_isHeld_19 rfl hl (by decide) rfl (fun ls hl => ?_)
    refine lv_iconst (v := 1) hx hb dL_isHeld_20 (by decide) ?_
    have hP9 := hP.sub (ws' := [(o, .inl (kO, 1, .inr (.inl fo)))]) [6] rfl
    have hD9 := hD.sub (ws' := [(o, .inl (kO, 1, .inr (.inl fo)))]) [6] (by decide) rfl
    have hK9 := hK.sub (tys' := [(kO, .long)]) [5] rfl
    refine W.widen (k := 1) (n := 6) (Nat.le_of_ble_eq_true rfl) (Nat.le_of_ble_eq_true rfl) ?_
    exact W.iret (v := 1) hx hb hr (fun t ht hW => ⟨⟨1, fo, rfl, (Or.inr ⟨rfl, hpx⟩), by rw [ht]; exact hP9, va_K.moved hW.alike hK9, hD9⟩, hS.F ht⟩) hS.2.2 dL_isHeld_21
  have hP := zkn hP hk
  obtain ⟨hw, w_2⟩ : r_1 = 1 ∧ ¬ (v < 0 ∨ 4 ≤ v) := hw
  subst hw
  refine lv_if_eq (tgt := 14) hx hb dL_isHeld_7 (by decide) (fun c_3 => absurd c_3 (by decide)) (fun _ => ?_)
  refine lv_lconst (v := 1) hx hb dL_isHeld_10 (by decide) ?_
  refine lv_goto (tgt := 15) hx hb dL_isHeld_11 (by decide) ?_
  refine va_last hx hb hK hP hD hS 6 5 rfl rfl (by unfold vp_in; decide +kernel) dL_isHeld_15 (fun H locs hP hD hS => ?_)
  have hP : va_P (dC, dI) vwCl [(x, .inr (10, [.ref (ax 0), .ref (ax 1), .ref (ax 2), .ref (ax 3), .ref (ax 4), .ref (ax 5), .int 0, .int 0, .int 0, .int 0, .int 0, .int 0])), ((ax 0), .inl ((kx 0), 8, .inl (fun _ => 0))), ((ax 1), .inl ((kx 1), 24, .inr (.inr (.inr (.inr (fun _ => none)))))), ((ax 2), .inl ((kx 2), 4, .inr (.inr (.inr (.inr (fun _ => none)))))), ((ax 3), .inl ((kx 3), 12, .inr (.inr (.inr (.inr (fun _ => none)))))), ((ax 4), .inl ((kx 4), 40, .inr (.inr (.inr (.inr (fun _ => none)))))), (o, .inl (kO, 1, .inr (.inl (vp_updL fo (Int32.toNatClampNeg 0) 1))))] H := hP
  have hD : va_D A [(x, .inr (10, [.ref (ax 0), .ref (ax 1), .ref (ax 2), .ref (ax 3), .ref (ax 4), .ref (ax 5), .int 0, .int 0, .int 0, .int 0, .int 0, .int 0])), ((ax 0), .inl ((kx 0), 8, .inl (fun _ => 0))), ((ax 1), .inl ((kx 1), 24, .inr (.inr (.inr (.inr (fun _ => none)))))), ((ax 2), .inl ((kx 2), 4, .inr (.inr (.inr (.inr (fun _ => none)))))), ((ax 3), .inl ((kx 3), 12, .inr (.inr (.inr (.inr (fun _ => none)))))), ((ax 4), .inl ((kx 4), 40, .inr (.inr (.inr (.inr (fun _ => none)))))), (o, .inl (kO, 1, .inr (.inl (vp_updL fo (Int32.toNatClampNeg 0) 1))))] := hD
  refine lv_goto (tgt := 22) hx hb dL_isHeld_16 (by decide) ?_
  refine lv_iconst (v := 0) hx hb dL_isHeld_22 (by decide) ?_
  have hP9 := hP.sub (ws' := [(o, .inl (kO, 1, .inr (.inl (vp_updL fo (Int32.toNatClampNeg 0) 1))))]) [6] rfl
  have hD9 := hD.sub (ws' := [(o, .inl (kO, 1, .inr (.inl (vp_updL fo (Int32.toNatClampNeg 0) 1))))]) [6] (by decide) rfl
  have hK9 := hK.sub (tys' := [(kO, .long)]) [5] rfl
  refine W.widen (k := 1) (n := 6) (Nat.le_of_ble_eq_true rfl) (Nat.le_of_ble_eq_true rfl) ?_
  exact W.iret (v := 0) hx hb hr (fun t ht hW => ⟨⟨0, (vp_updL fo (Int32.toNatClampNeg 0) 1), rfl, (Or.inl ⟨rfl, rfl, w_2⟩), by rw [ht]; exact hP9, va_K.moved hW.alike hK9, hD9⟩, hS.F ht⟩) hS.2.2 dL_isHeld_23

def zwL_uncovered : List Cond := .codeWith yL_uncovered cL_uncovered 4 (some .int) [(0, 9, 12, 13)] :: (([.methodLink RL 71 yX7_uncovered, .instanceMethod yX7_uncovered, .selects RX7 yX7_uncovered yX7_uncovered, .initialized RX7, .classLink RL 13 "java/lang/IndexOutOfBoundsException"] : List Cond) ++ (zwX7_uncovered))
theorem zgL_uncovered : zwL_uncovered.all goodWord = true := zgo rfl (zga (by decide +kernel) (zgX7_uncovered))
set_option maxHeartbeats 4000000 in
set_option maxRecDepth 100000 in
theorem c_L_uncovered (l : Launch) (hst : l.stackTraces = false) (dC : Nat → ClassId) (dI : Nat → Nat → Nat) (sz : Nat) (x : Nat) (ax : Nat → Nat) (kx : Nat → ClassId) (o : Nat) (kO : ClassId) (fo : Nat → Int64) (v : Int32) : Met l yL_uncovered zwL_uncovered ({ frames := 8, cells := 1, slots := 6, locals := 128 }) (gPcE dC dI sz [(x, .inr (10, [.ref (ax 0), .ref (ax 1), .ref (ax 2), .ref (ax 3), .ref (ax 4), .ref (ax 5), .int 0, .int 0, .int 0, .int 0, .int 0, .int 0])), ((ax 0), .inl ((kx 0), 8, .inl (fun _ => 0))), ((ax 1), .inl ((kx 1), 24, .inr (.inr (.inr (.inr (fun _ => none)))))), ((ax 2), .inl ((kx 2), 4, .inr (.inr (.inr (.inr (fun _ => none)))))), ((ax 3), .inl ((kx 3), 12, .inr (.inr (.inr (.inr (fun _ => none)))))), ((ax 4), .inl ((kx 4), 40, .inr (.inr (.inr (.inr (fun _ => none)))))), (o, .inl (kO, 1, .inr (.inl fo)))] [((kx 0), .int), ((kx 1), .object RX4), ((kx 2), .object RX5), ((kx 3), .object RX3), ((kx 4), .object RX0), (kO, .long)] [.ref x, .int v, .ref o]) (va_Qi (fun (r : Int32) (u : Nat → Int64) => (r = 0 ∧ u 0 = 0 ∧ ¬ (v < 0 ∨ 4 ≤ v)) ∨ (r = 1 ∧ (v < 0 ∨ 4 ≤ v))) (fun u t => va_P (dC, dI) vwCl [(o, .inl (kO, 1, .inr (.inl u)))] t.heap ∧ va_K (dC, dI) vwCl [(kO, .long)] t ∧ va_D (va_A [(x, .inr (10, [.ref (ax 0), .ref (ax 1), .ref (ax 2), .ref (ax 3), .ref (ax 4), .ref (ax 5), .int 0, .int 0, .int 0, .int 0, .int 0, .int 0])), ((ax 0), .inl ((kx 0), 8, .inl (fun _ => 0))), ((ax 1), .inl ((kx 1), 24, .inr (.inr (.inr (.inr (fun _ => none)))))), ((ax 2), .inl ((kx 2), 4, .inr (.inr (.inr (.inr (fun _ => none)))))), ((ax 3), .inl ((kx 3), 12, .inr (.inr (.inr (.inr (fun _ => none)))))), ((ax 4), .inl ((kx 4), 40, .inr (.inr (.inr (.inr (fun _ => none)))))), (o, .inl (kO, 1, .inr (.inl fo)))] sz) [(o, .inl (kO, 1, .inr (.inl u)))]) (va_A [(x, .inr (10, [.ref (ax 0), .ref (ax 1), .ref (ax 2), .ref (ax 3), .ref (ax 4), .ref (ax 5), .int 0, .int 0, .int 0, .int 0, .int 0, .int 0])), ((ax 0), .inl ((kx 0), 8, .inl (fun _ => 0))), ((ax 1), .inl ((kx 1), 24, .inr (.inr (.inr (.inr (fun _ => none)))))), ((ax 2), .inl ((kx 2), 4, .inr (.inr (.inr (.inr (fun _ => none)))))), ((ax 3), .inl ((kx 3), 12, .inr (.inr (.inr (.inr (fun _ => none)))))), ((ax 4), .inl ((kx 4), 40, .inr (.inr (.inr (.inr (fun _ => none)))))), (o, .inl (kO, 1, .inr (.inl fo)))] sz)) 1 6 (va_A [(x, .inr (10, [.ref (ax 0), .ref (ax 1), .ref (ax 2), .ref (ax 3), .ref (ax 4), .ref (ax 5), .int 0, .int 0, .int 0, .int 0, .int 0, .int 0])), ((ax 0), .inl ((kx 0), 8, .inl (fun _ => 0))), ((ax 1), .inl ((kx 1), 24, .inr (.inr (.inr (.inr (fun _ => none)))))), ((ax 2), .inl ((kx 2), 4, .inr (.inr (.inr (.inr (fun _ => none)))))), ((ax 3), .inl ((kx 3), 12, .inr (.inr (.inr (.inr (fun _ => none)))))), ((ax 4), .inl ((kx 4), 40, .inr (.inr (.inr (.inr (fun _ => none)))))), (o, .inl (kO, 1, .inr (.inl fo)))] sz) := by
  refine va_MetW (cc := cL_uncovered) (maxL := 4) (ret := (some .int)) (hh := [(0, 9, 12, 13)]) (by decide) rfl ?_
  intro p e s m args below meth c s₁ B hml hv
  obtain ⟨rfl, hsz, hP, hK, hD0, hE⟩ := hv
  have hx := B.exec
  have hb := B.bytes
  have hr := B.returns
  have hts := atoms_spec (ws := zwL_uncovered) B.pre
  have hown : s.vm.findClass RL = some m.cls := findClass_of_methodNamed B.named
  have hlocks := B.notSynchronized
  have htab : c.exceptionTable.toList = tableOf [(0, 9, 12, 13)] := vx_table (x := yL_uncovered) B (hts (.codeWith yL_uncovered cL_uncovered 4 (some .int) [(0, 9, 12, 13)]) List.mem_cons_self)
  subst hsz
  have hD := hD0.self (sz := s.heap.size)
  generalize hAe : va_A [(x, .inr (10, [.ref (ax 0), .ref (ax 1), .ref (ax 2), .ref (ax 3), .ref (ax 4), .ref (ax 5), .int 0, .int 0, .int 0, .int 0, .int 0, .int 0])), ((ax 0), .inl ((kx 0), 8, .inl (fun _ => 0))), ((ax 1), .inl ((kx 1), 24, .inr (.inr (.inr (.inr (fun _ => none)))))), ((ax 2), .inl ((kx 2), 4, .inr (.inr (.inr (.inr (fun _ => none)))))), ((ax 3), .inl ((kx 3), 12, .inr (.inr (.inr (.inr (fun _ => none)))))), ((ax 4), .inl ((kx 4), 40, .inr (.inr (.inr (.inr (fun _ => none)))))), (o, .inl (kO, 1, .inr (.inl fo)))] s.heap.size = A at hD hE ⊢
  have hA : ∀ q : Nat, s.heap.size ≤ q → A q := fun q h => by rw [← hAe]; exact Or.inr h
  have hS : va_S A s.heap s.heap [] := va_S.rf
  have hP : va_P (dC, dI) vwCl [(x, .inr (10, [.ref (ax 0), .ref (ax 1), .ref (ax 2), .ref (ax 3), .ref (ax 4), .ref (ax 5), .int 0, .int 0, .int 0, .int 0, .int 0, .int 0])), ((ax 0), .inl ((kx 0), 8, .inl (fun _ => 0))), ((ax 1), .inl ((kx 1), 24, .inr (.inr (.inr (.inr (fun _ => none)))))), ((ax 2), .inl ((kx 2), 4, .inr (.inr (.inr (.inr (fun _ => none)))))), ((ax 3), .inl ((kx 3), 12, .inr (.inr (.inr (.inr (fun _ => none)))))), ((ax 4), .inl ((kx 4), 40, .inr (.inr (.inr (.inr (fun _ => none)))))), (o, .inl (kO, 1, .inr (.inl fo)))] s.heap := hP
  have hl := lv_entry ([.ref x, .int v, .ref o]) (n := 4) (Nat.le_of_ble_eq_true rfl)
  rw [lg_entry_eq]
  generalize (lg_sl ([.ref x, .int v, .ref o]) ++ List.replicate (4 - (lg_sl ([.ref x, .int v, .ref o])).length) Slot.unset).toArray = ls at hl ⊢
  have hl : lv_has ls 4 [(0, .ref x), (1, .int v), (2, .ref o)] := hl
  refine lv_aload_n hx hb dL_uncovered_0 rfl (lv_at hl 2 rfl) ?_
  refine lv_iconst (v := 0) hx hb dL_uncovered_1 (by decide) ?_
  refine lv_aload_n hx hb dL_uncovered_2 rfl (lv_at hl 0 rfl) ?_
  refine lv_iload_n hx hb dL_uncovered_3 rfl (lv_at hl 1 rfl) ?_
  have hPc := hP.sub (ws' := xW x ax kx) [0, 1, 2, 3, 4, 5] rfl
  have hKc := hK.sub (tys' := xT kx) [0, 1, 2, 3, 4] rfl
  refine vx_calli (vx_runV (As := [.int v]) (rest := [.int 0, .ref o]) ⟨hx, hb, hml, hown, hts⟩ (c_X7_uncovered l hst dC dI s.heap.size x ax kx v) (cwV 1 hts (goodIn_app (goodIn_of _ (by decide +kernel)) (goodIn_sub ((fun w h => List.mem_cons_of_mem _ (List.mem_append_right _ (h)))) zgX7_uncovered)) rfl rfl rfl (by decide +kernel) ⟨Nat.le_of_ble_eq_true rfl, Nat.le_of_ble_eq_true rfl⟩) ⟨xPc_blind, va_recv hK hP (ci := 10) (q0 := 0) rfl rfl, xPc_pass hPc hKc hE hS (fun q h => hA q (Nat.le_trans hS.1 h))⟩ rfl rfl hl.1 rfl (lv_room (Nat.le_of_ble_eq_true rfl)) dL_uncovered_4 ⟨Nat.le_of_ble_eq_true rfl, Nat.le_of_ble_eq_true rfl⟩) hS (fun q _ h => hA q (Nat.le_trans hS.1 h)) (fun q h => hA q (Nat.le_trans hS.1 h)) (fun q _ h => hA q (Nat.le_trans hS.1 h)) (fun E ce q9 _ t H locs ht hvm hpx hBX hz hk hS hcell hv hcl => ?_) (fun r_1 u t H locs ht hvm hw hB hz hk hS => ?_)
  · have hBX : E = "java/lang/IndexOutOfBoundsException" := hBX
    subst hBX
    have hP := zkn hP hk
    refine vx_catch (own := RL) (name := "java/lang/IndexOutOfBoundsException") hown [] ⟨0, 9, 12, 13⟩ [] (htab.trans rfl) (fun z hz => nomatch hz) (by decide) (by decide) (hts (.classLink RL 13 "java/lang/IndexOutOfBoundsException") (by decide +kernel)) (va_Nw.use rfl (hE.2.2.2.1 _ (by decide))) hcell hv hcl ?_
    refine W.eq (g2 := F0 m 12 ls [.ref q9]) rfl ?_
    have hpx : v < 0 ∨ 4 ≤ v := hpx
    refine lv_astore_n (lv' := [(3, .ref q9), (0, .ref x), (1, .int v), (2, .ref o)]) hx hb dL_uncovered_12 rfl hl (by decide) rfl (fun ls hl => ?_)
    refine lv_iconst (v := 1) hx hb dL_uncovered_13 (by decide) ?_
    have hP9 := hP.sub (ws' := [(o, .inl (kO, 1, .inr (.inl fo)))]) [6] rfl
    have hD9 := hD.sub (ws' := [(o, .inl (kO, 1, .inr (.inl fo)))]) [6] (by decide) rfl
    have hK9 := hK.sub (tys' := [(kO, .long)]) [5] rfl
    refine W.widen (k := 1) (n := 6) (Nat.le_of_ble_eq_true rfl) (Nat.le_of_ble_eq_true rfl) ?_
    exact W.iret (v := 1) hx hb hr (fun t ht hW => ⟨⟨1, fo, rfl, (Or.inr ⟨rfl, hpx⟩), by rw [ht]; exact hP9, va_K.moved hW.alike hK9, hD9⟩, hS.F ht⟩) hS.2.2 dL_uncovered_14
  have hP := zkn hP hk
  obtain ⟨hw, w_2⟩ : r_1 = 0 ∧ ¬ (v < 0 ∨ 4 ≤ v) := hw
  subst hw
  refine lv_i2l (v := 0) hx hb dL_uncovered_7 (by decide) ?_
  refine va_last hx hb hK hP hD hS 6 5 rfl rfl (by unfold vp_in; decide +kernel) dL_uncovered_8 (fun H locs hP hD hS => ?_)
  have hP : va_P (dC, dI) vwCl [(x, .inr (10, [.ref (ax 0), .ref (ax 1), .ref (ax 2), .ref (ax 3), .ref (ax 4), .ref (ax 5), .int 0, .int 0, .int 0, .int 0, .int 0, .int 0])), ((ax 0), .inl ((kx 0), 8, .inl (fun _ => 0))), ((ax 1), .inl ((kx 1), 24, .inr (.inr (.inr (.inr (fun _ => none)))))), ((ax 2), .inl ((kx 2), 4, .inr (.inr (.inr (.inr (fun _ => none)))))), ((ax 3), .inl ((kx 3), 12, .inr (.inr (.inr (.inr (fun _ => none)))))), ((ax 4), .inl ((kx 4), 40, .inr (.inr (.inr (.inr (fun _ => none)))))), (o, .inl (kO, 1, .inr (.inl (vp_updL fo (Int32.toNatClampNeg 0) 0))))] H := hP
  have hD : va_D A [(x, .inr (10, [.ref (ax 0), .ref (ax 1), .ref (ax 2), .ref (ax 3), .ref (ax 4), .ref (ax 5), .int 0, .int 0, .int 0, .int 0, .int 0, .int 0])), ((ax 0), .inl ((kx 0), 8, .inl (fun _ => 0))), ((ax 1), .inl ((kx 1), 24, .inr (.inr (.inr (.inr (fun _ => none)))))), ((ax 2), .inl ((kx 2), 4, .inr (.inr (.inr (.inr (fun _ => none)))))), ((ax 3), .inl ((kx 3), 12, .inr (.inr (.inr (.inr (fun _ => none)))))), ((ax 4), .inl ((kx 4), 40, .inr (.inr (.inr (.inr (fun _ => none)))))), (o, .inl (kO, 1, .inr (.inl (vp_updL fo (Int32.toNatClampNeg 0) 0))))] := hD
  refine lv_goto (tgt := 15) hx hb dL_uncovered_9 (by decide) ?_
  refine lv_iconst (v := 0) hx hb dL_uncovered_15 (by decide) ?_
  have hP9 := hP.sub (ws' := [(o, .inl (kO, 1, .inr (.inl (vp_updL fo (Int32.toNatClampNeg 0) 0))))]) [6] rfl
  have hD9 := hD.sub (ws' := [(o, .inl (kO, 1, .inr (.inl (vp_updL fo (Int32.toNatClampNeg 0) 0))))]) [6] (by decide) rfl
  have hK9 := hK.sub (tys' := [(kO, .long)]) [5] rfl
  refine W.widen (k := 1) (n := 6) (Nat.le_of_ble_eq_true rfl) (Nat.le_of_ble_eq_true rfl) ?_
  exact W.iret (v := 0) hx hb hr (fun t ht hW => ⟨⟨0, (vp_updL fo (Int32.toNatClampNeg 0) 0), rfl, (Or.inl ⟨rfl, rfl, w_2⟩), by rw [ht]; exact hP9, va_K.moved hW.alike hK9, hD9⟩, hS.F ht⟩) hS.2.2 dL_uncovered_16

def zwL_deal : List Cond := .codeWith yL_deal cL_deal 4 (some .int) [(0, 9, 12, 13)] :: (([.methodLink RL 74 yX7_deal, .instanceMethod yX7_deal, .selects RX7 yX7_deal yX7_deal, .initialized RX7, .classLink RL 13 "java/lang/IndexOutOfBoundsException"] : List Cond) ++ (zwX7_deal))
theorem zgL_deal : zwL_deal.all goodWord = true := zgo rfl (zga (by decide +kernel) (zgX7_deal))
set_option maxHeartbeats 4000000 in
set_option maxRecDepth 100000 in
theorem c_L_deal (l : Launch) (hst : l.stackTraces = false) (dC : Nat → ClassId) (dI : Nat → Nat → Nat) (sz : Nat) (x : Nat) (ax : Nat → Nat) (kx : Nat → ClassId) (o : Nat) (kO : ClassId) (fo : Nat → Int64) (v : Int32) : Met l yL_deal zwL_deal ({ frames := 8, cells := 1, slots := 6, locals := 128 }) (gPcE dC dI sz [(x, .inr (10, [.ref (ax 0), .ref (ax 1), .ref (ax 2), .ref (ax 3), .ref (ax 4), .ref (ax 5), .int 0, .int 0, .int 0, .int 0, .int 0, .int 0])), ((ax 0), .inl ((kx 0), 8, .inl (fun _ => 0))), ((ax 1), .inl ((kx 1), 24, .inr (.inr (.inr (.inr (fun _ => none)))))), ((ax 2), .inl ((kx 2), 4, .inr (.inr (.inr (.inr (fun _ => none)))))), ((ax 3), .inl ((kx 3), 12, .inr (.inr (.inr (.inr (fun _ => none)))))), ((ax 4), .inl ((kx 4), 40, .inr (.inr (.inr (.inr (fun _ => none)))))), (o, .inl (kO, 1, .inr (.inl fo)))] [((kx 0), .int), ((kx 1), .object RX4), ((kx 2), .object RX5), ((kx 3), .object RX3), ((kx 4), .object RX0), (kO, .long)] [.ref x, .int v, .ref o]) (va_Qi (fun (r : Int32) (u : Nat → Int64) => (r = 0 ∧ u 0 = 0 ∧ ¬ (v < 0 ∨ 4 ≤ v)) ∨ (r = 1 ∧ (v < 0 ∨ 4 ≤ v))) (fun u t => va_P (dC, dI) vwCl [(o, .inl (kO, 1, .inr (.inl u)))] t.heap ∧ va_K (dC, dI) vwCl [(kO, .long)] t ∧ va_D (va_A [(x, .inr (10, [.ref (ax 0), .ref (ax 1), .ref (ax 2), .ref (ax 3), .ref (ax 4), .ref (ax 5), .int 0, .int 0, .int 0, .int 0, .int 0, .int 0])), ((ax 0), .inl ((kx 0), 8, .inl (fun _ => 0))), ((ax 1), .inl ((kx 1), 24, .inr (.inr (.inr (.inr (fun _ => none)))))), ((ax 2), .inl ((kx 2), 4, .inr (.inr (.inr (.inr (fun _ => none)))))), ((ax 3), .inl ((kx 3), 12, .inr (.inr (.inr (.inr (fun _ => none)))))), ((ax 4), .inl ((kx 4), 40, .inr (.inr (.inr (.inr (fun _ => none)))))), (o, .inl (kO, 1, .inr (.inl fo)))] sz) [(o, .inl (kO, 1, .inr (.inl u)))]) (va_A [(x, .inr (10, [.ref (ax 0), .ref (ax 1), .ref (ax 2), .ref (ax 3), .ref (ax 4), .ref (ax 5), .int 0, .int 0, .int 0, .int 0, .int 0, .int 0])), ((ax 0), .inl ((kx 0), 8, .inl (fun _ => 0))), ((ax 1), .inl ((kx 1), 24, .inr (.inr (.inr (.inr (fun _ => none)))))), ((ax 2), .inl ((kx 2), 4, .inr (.inr (.inr (.inr (fun _ => none)))))), ((ax 3), .inl ((kx 3), 12, .inr (.inr (.inr (.inr (fun _ => none)))))), ((ax 4), .inl ((kx 4), 40, .inr (.inr (.inr (.inr (fun _ => none)))))), (o, .inl (kO, 1, .inr (.inl fo)))] sz)) 1 6 (va_A [(x, .inr (10, [.ref (ax 0), .ref (ax 1), .ref (ax 2), .ref (ax 3), .ref (ax 4), .ref (ax 5), .int 0, .int 0, .int 0, .int 0, .int 0, .int 0])), ((ax 0), .inl ((kx 0), 8, .inl (fun _ => 0))), ((ax 1), .inl ((kx 1), 24, .inr (.inr (.inr (.inr (fun _ => none)))))), ((ax 2), .inl ((kx 2), 4, .inr (.inr (.inr (.inr (fun _ => none)))))), ((ax 3), .inl ((kx 3), 12, .inr (.inr (.inr (.inr (fun _ => none)))))), ((ax 4), .inl ((kx 4), 40, .inr (.inr (.inr (.inr (fun _ => none)))))), (o, .inl (kO, 1, .inr (.inl fo)))] sz) := by
  refine va_MetW (cc := cL_deal) (maxL := 4) (ret := (some .int)) (hh := [(0, 9, 12, 13)]) (by decide) rfl ?_
  intro p e s m args below meth c s₁ B hml hv
  obtain ⟨rfl, hsz, hP, hK, hD0, hE⟩ := hv
  have hx := B.exec
  have hb := B.bytes
  have hr := B.returns
  have hts := atoms_spec (ws := zwL_deal) B.pre
  have hown : s.vm.findClass RL = some m.cls := findClass_of_methodNamed B.named
  have hlocks := B.notSynchronized
  have htab : c.exceptionTable.toList = tableOf [(0, 9, 12, 13)] := vx_table (x := yL_deal) B (hts (.codeWith yL_deal cL_deal 4 (some .int) [(0, 9, 12, 13)]) List.mem_cons_self)
  subst hsz
  have hD := hD0.self (sz := s.heap.size)
  generalize hAe : va_A [(x, .inr (10, [.ref (ax 0), .ref (ax 1), .ref (ax 2), .ref (ax 3), .ref (ax 4), .ref (ax 5), .int 0, .int 0, .int 0, .int 0, .int 0, .int 0])), ((ax 0), .inl ((kx 0), 8, .inl (fun _ => 0))), ((ax 1), .inl ((kx 1), 24, .inr (.inr (.inr (.inr (fun _ => none)))))), ((ax 2), .inl ((kx 2), 4, .inr (.inr (.inr (.inr (fun _ => none)))))), ((ax 3), .inl ((kx 3), 12, .inr (.inr (.inr (.inr (fun _ => none)))))), ((ax 4), .inl ((kx 4), 40, .inr (.inr (.inr (.inr (fun _ => none)))))), (o, .inl (kO, 1, .inr (.inl fo)))] s.heap.size = A at hD hE ⊢
  have hA : ∀ q : Nat, s.heap.size ≤ q → A q := fun q h => by rw [← hAe]; exact Or.inr h
  have hS : va_S A s.heap s.heap [] := va_S.rf
  have hP : va_P (dC, dI) vwCl [(x, .inr (10, [.ref (ax 0), .ref (ax 1), .ref (ax 2), .ref (ax 3), .ref (ax 4), .ref (ax 5), .int 0, .int 0, .int 0, .int 0, .int 0, .int 0])), ((ax 0), .inl ((kx 0), 8, .inl (fun _ => 0))), ((ax 1), .inl ((kx 1), 24, .inr (.inr (.inr (.inr (fun _ => none)))))), ((ax 2), .inl ((kx 2), 4, .inr (.inr (.inr (.inr (fun _ => none)))))), ((ax 3), .inl ((kx 3), 12, .inr (.inr (.inr (.inr (fun _ => none)))))), ((ax 4), .inl ((kx 4), 40, .inr (.inr (.inr (.inr (fun _ => none)))))), (o, .inl (kO, 1, .inr (.inl fo)))] s.heap := hP
  have hl := lv_entry ([.ref x, .int v, .ref o]) (n := 4) (Nat.le_of_ble_eq_true rfl)
  rw [lg_entry_eq]
  generalize (lg_sl ([.ref x, .int v, .ref o]) ++ List.replicate (4 - (lg_sl ([.ref x, .int v, .ref o])).length) Slot.unset).toArray = ls at hl ⊢
  have hl : lv_has ls 4 [(0, .ref x), (1, .int v), (2, .ref o)] := hl
  refine lv_aload_n hx hb dL_deal_0 rfl (lv_at hl 2 rfl) ?_
  refine lv_iconst (v := 0) hx hb dL_deal_1 (by decide) ?_
  refine lv_aload_n hx hb dL_deal_2 rfl (lv_at hl 0 rfl) ?_
  refine lv_iload_n hx hb dL_deal_3 rfl (lv_at hl 1 rfl) ?_
  have hPc := hP.sub (ws' := xW x ax kx) [0, 1, 2, 3, 4, 5] rfl
  have hKc := hK.sub (tys' := xT kx) [0, 1, 2, 3, 4] rfl
  refine vx_calli (vx_runV (As := [.int v]) (rest := [.int 0, .ref o]) ⟨hx, hb, hml, hown, hts⟩ (c_X7_deal l hst dC dI s.heap.size x ax kx v) (cwV 1 hts (goodIn_app (goodIn_of _ (by decide +kernel)) (goodIn_sub ((fun w h => List.mem_cons_of_mem _ (List.mem_append_right _ (h)))) zgX7_deal)) rfl rfl rfl (by decide +kernel) ⟨Nat.le_of_ble_eq_true rfl, Nat.le_of_ble_eq_true rfl⟩) ⟨xPc_blind, va_recv hK hP (ci := 10) (q0 := 0) rfl rfl, xPc_pass hPc hKc hE hS (fun q h => hA q (Nat.le_trans hS.1 h))⟩ rfl rfl hl.1 rfl (lv_room (Nat.le_of_ble_eq_true rfl)) dL_deal_4 ⟨Nat.le_of_ble_eq_true rfl, Nat.le_of_ble_eq_true rfl⟩) hS (fun q _ h => hA q (Nat.le_trans hS.1 h)) (fun q h => hA q (Nat.le_trans hS.1 h)) (fun q _ h => hA q (Nat.le_trans hS.1 h)) (fun E ce q9 _ t H locs ht hvm hpx hBX hz hk hS hcell hv hcl => ?_) (fun r_1 u t H locs ht hvm hw hB hz hk hS => ?_)
  · have hBX : E = "java/lang/IndexOutOfBoundsException" := hBX
    subst hBX
    have hP := zkn hP hk
    refine vx_catch (own := RL) (name := "java/lang/IndexOutOfBoundsException") hown [] ⟨0, 9, 12, 13⟩ [] (htab.trans rfl) (fun z hz => nomatch hz) (by decide) (by decide) (hts (.classLink RL 13 "java/lang/IndexOutOfBoundsException") (by decide +kernel)) (va_Nw.use rfl (hE.2.2.2.1 _ (by decide))) hcell hv hcl ?_
    refine W.eq (g2 := F0 m 12 ls [.ref q9]) rfl ?_
    have hpx : v < 0 ∨ 4 ≤ v := hpx
    refine lv_astore_n (lv' := [(3, .ref q9), (0, .ref x), (1, .int v), (2, .ref o)]) hx hb dL_deal_12 rfl hl (by decide) rfl (fun ls hl => ?_)
    refine lv_iconst (v := 1) hx hb dL_deal_13 (by decide) ?_
    have hP9 := hP.sub (ws' := [(o, .inl (kO, 1, .inr (.inl fo)))]) [6] rfl
    have hD9 := hD.sub (ws' := [(o, .inl (kO, 1, .inr (.inl fo)))]) [6] (by decide) rfl
    have hK9 := hK.sub (tys' := [(kO, .long)]) [5] rfl
    refine W.widen (k := 1) (n := 6) (Nat.le_of_ble_eq_true rfl) (Nat.le_of_ble_eq_true rfl) ?_
    exact W.iret (v := 1) hx hb hr (fun t ht hW => ⟨⟨1, fo, rfl, (Or.inr ⟨rfl, hpx⟩), by rw [ht]; exact hP9, va_K.moved hW.alike hK9, hD9⟩, hS.F ht⟩) hS.2.2 dL_deal_14
  have hP := zkn hP hk
  obtain ⟨hw, w_2⟩ : r_1 = 0 ∧ ¬ (v < 0 ∨ 4 ≤ v) := hw
  subst hw
  refine lv_i2l (v := 0) hx hb dL_deal_7 (by decide) ?_
  refine va_last hx hb hK hP hD hS 6 5 rfl rfl (by unfold vp_in; decide +kernel) dL_deal_8 (fun H locs hP hD hS => ?_)
  have hP : va_P (dC, dI) vwCl [(x, .inr (10, [.ref (ax 0), .ref (ax 1), .ref (ax 2), .ref (ax 3), .ref (ax 4), .ref (ax 5), .int 0, .int 0, .int 0, .int 0, .int 0, .int 0])), ((ax 0), .inl ((kx 0), 8, .inl (fun _ => 0))), ((ax 1), .inl ((kx 1), 24, .inr (.inr (.inr (.inr (fun _ => none)))))), ((ax 2), .inl ((kx 2), 4, .inr (.inr (.inr (.inr (fun _ => none)))))), ((ax 3), .inl ((kx 3), 12, .inr (.inr (.inr (.inr (fun _ => none)))))), ((ax 4), .inl ((kx 4), 40, .inr (.inr (.inr (.inr (fun _ => none)))))), (o, .inl (kO, 1, .inr (.inl (vp_updL fo (Int32.toNatClampNeg 0) 0))))] H := hP
  have hD : va_D A [(x, .inr (10, [.ref (ax 0), .ref (ax 1), .ref (ax 2), .ref (ax 3), .ref (ax 4), .ref (ax 5), .int 0, .int 0, .int 0, .int 0, .int 0, .int 0])), ((ax 0), .inl ((kx 0), 8, .inl (fun _ => 0))), ((ax 1), .inl ((kx 1), 24, .inr (.inr (.inr (.inr (fun _ => none)))))), ((ax 2), .inl ((kx 2), 4, .inr (.inr (.inr (.inr (fun _ => none)))))), ((ax 3), .inl ((kx 3), 12, .inr (.inr (.inr (.inr (fun _ => none)))))), ((ax 4), .inl ((kx 4), 40, .inr (.inr (.inr (.inr (fun _ => none)))))), (o, .inl (kO, 1, .inr (.inl (vp_updL fo (Int32.toNatClampNeg 0) 0))))] := hD
  refine lv_goto (tgt := 15) hx hb dL_deal_9 (by decide) ?_
  refine lv_iconst (v := 0) hx hb dL_deal_15 (by decide) ?_
  have hP9 := hP.sub (ws' := [(o, .inl (kO, 1, .inr (.inl (vp_updL fo (Int32.toNatClampNeg 0) 0))))]) [6] rfl
  have hD9 := hD.sub (ws' := [(o, .inl (kO, 1, .inr (.inl (vp_updL fo (Int32.toNatClampNeg 0) 0))))]) [6] (by decide) rfl
  have hK9 := hK.sub (tys' := [(kO, .long)]) [5] rfl
  refine W.widen (k := 1) (n := 6) (Nat.le_of_ble_eq_true rfl) (Nat.le_of_ble_eq_true rfl) ?_
  exact W.iret (v := 0) hx hb hr (fun t ht hW => ⟨⟨0, (vp_updL fo (Int32.toNatClampNeg 0) 0), rfl, (Or.inl ⟨rfl, rfl, w_2⟩), by rw [ht]; exact hP9, va_K.moved hW.alike hK9, hD9⟩, hS.F ht⟩) hS.2.2 dL_deal_16
end ZLaw1
