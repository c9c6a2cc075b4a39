section ZMod1
def zwX12_isBetween : List Cond := .code yX12_isBetween cX12_isBetween 3 (some .boolean) :: ([] : List Cond)
theorem zgX12_isBetween : zwX12_isBetween.all goodWord = true := zgo rfl ((by decide +kernel))
set_option maxHeartbeats 4000000 in
set_option maxRecDepth 100000 in
theorem c_X12_isBetween (l : Launch) (dC : Nat → ClassId) (dI : Nat → Nat → Nat) (sz : Nat) (a : Int32) (b : Int32) (d : Int32) : Met l yX12_isBetween zwX12_isBetween ({ frames := 0, cells := 0, slots := 0, locals := 0 }) (nPc sz [.int a, .int b, .int d]) (va_Qi (fun (r : Int32) (_ : Unit) => (r = 1 ∧ (b ≤ a ∧ a ≤ d)) ∨ (r = 0 ∧ ¬ (b ≤ a ∧ a ≤ d))) (fun _ _ => True) (fun q : Nat => sz ≤ q)) 0 0 (fun q : Nat => sz ≤ q) := by
  refine Met.ofW (cc := cX12_isBetween) (maxL := 3) (ret := (some .boolean)) (by decide) rfl ?_
  intro p e s m args below meth c s₁ B hml hv
  obtain ⟨rfl, hsz⟩ := hv
  have hx := B.exec
  have hb := B.bytes
  have hr := B.returns
  have hts := atoms_spec (ws := zwX12_isBetween) B.pre
  have hown : s.vm.findClass RX12 = some m.cls := findClass_of_methodNamed B.named
  have hlocks := B.notSynchronized
  subst hsz
  have hA : ∀ q : Nat, s.heap.size ≤ q → s.heap.size ≤ q := fun _ h => h
  have hS : va_S (fun q : Nat => s.heap.size ≤ q) s.heap s.heap [] := va_S.rf
  have hl := lv_entry ([.int a, .int b, .int d]) (n := 3) (Nat.le_of_ble_eq_true rfl)
  rw [lg_entry_eq]
  generalize (lg_sl ([.int a, .int b, .int d]) ++ List.replicate (3 - (lg_sl ([.int a, .int b, .int d])).length) Slot.unset).toArray = ls at hl ⊢
  have hl : lv_has ls 3 [(0, .int a), (1, .int b), (2, .int d)] := hl
  refine lv_iload_n hx hb dX12_isBetween_0 rfl (lv_at hl 1 rfl) ?_
  refine lv_iload_n hx hb dX12_isBetween_1 rfl (lv_at hl 0 rfl) ?_
  refine lv_icmp_gt (tgt := 14) hx hb dX12_isBetween_2 (by decide) (fun c_1 => ?_) (fun c_1 => ?_)
  · refine lv_iconst (v := 0) hx hb dX12_isBetween_14 (by decide) ?_
    refine W.widen (k := 0) (n := 0) (Nat.le_of_ble_eq_true rfl) (Nat.le_of_ble_eq_true rfl) ?_
    exact W.zret (v := 0) hx hb hr (by decide +kernel) (fun t ht hW => ⟨⟨0, (), rfl, Or.inr ⟨rfl, (by simp only [zPl, zPm, fa_lt, fa_le, fa_eq, zi_0, zi_1, zi_3, zi_4, zi_7, zi_8, zi_10, zi_12, zi_119, zi_m1] at c_1 ⊢ <;> omega)⟩, trivial⟩, hS.F ht⟩) hS.2.2 dX12_isBetween_15
  · refine lv_iload_n hx hb dX12_isBetween_5 rfl (lv_at hl 0 rfl) ?_
    refine lv_iload_n hx hb dX12_isBetween_6 rfl (lv_at hl 2 rfl) ?_
    refine lv_icmp_gt (tgt := 14) hx hb dX12_isBetween_7 (by decide) (fun c_2 => ?_) (fun c_2 => ?_)
    · refine lv_iconst (v := 0) hx hb dX12_isBetween_14 (by decide) ?_
      refine W.widen (k := 0) (n := 0) (Nat.le_of_ble_eq_true rfl) (Nat.le_of_ble_eq_true rfl) ?_
      exact W.zret (v := 0) hx hb hr (by decide +kernel) (fun t ht hW => ⟨⟨0, (), rfl, Or.inr ⟨rfl, (by simp only [zPl, zPm, fa_lt, fa_le, fa_eq, zi_0, zi_1, zi_3, zi_4, zi_7, zi_8, zi_10, zi_12, zi_119, zi_m1] at c_1 c_2 ⊢ <;> omega)⟩, trivial⟩, hS.F ht⟩) hS.2.2 dX12_isBetween_15
    · refine lv_iconst (v := 1) hx hb dX12_isBetween_10 (by decide) ?_
      refine lv_goto (tgt := 15) hx hb dX12_isBetween_11 (by decide) ?_
      refine W.widen (k := 0) (n := 0) (Nat.le_of_ble_eq_true rfl) (Nat.le_of_ble_eq_true rfl) ?_
      exact W.zret (v := 1) hx hb hr (by decide +kernel) (fun t ht hW => ⟨⟨1, (), rfl, Or.inl ⟨rfl, (by simp only [zPl, zPm, fa_lt, fa_le, fa_eq, zi_0, zi_1, zi_3, zi_4, zi_7, zi_8, zi_10, zi_12, zi_119, zi_m1] at c_1 c_2 ⊢ <;> omega)⟩, trivial⟩, hS.F ht⟩) hS.2.2 dX12_isBetween_15

def zwX12_isVariant : List Cond := .code yX12_isVariant cX12_isVariant 1 (some .boolean) :: (([.methodLink RX12 38 yX12_isBetween, .static yX12_isBetween, .initialized RX12] : List Cond) ++ (zwX12_isBetween))
theorem zgX12_isVariant : zwX12_isVariant.all goodWord = true := zgo rfl (zga (by decide +kernel) (zgX12_isBetween))
set_option maxHeartbeats 4000000 in
set_option maxRecDepth 100000 in
theorem c_X12_isVariant (l : Launch) (dC : Nat → ClassId) (dI : Nat → Nat → Nat) (sz : Nat) (v : Int32) : Met l yX12_isVariant zwX12_isVariant ({ frames := 1, cells := 0, slots := 0, locals := 22 }) (nPc sz [.int v]) (va_Qi (fun (r : Int32) (_ : Unit) => (r = 1 ∧ ¬ (v < 0 ∨ 4 ≤ v)) ∨ (r = 0 ∧ (v < 0 ∨ 4 ≤ v))) (fun _ _ => True) (fun q : Nat => sz ≤ q)) 0 0 (fun q : Nat => sz ≤ q) := by
  refine Met.ofW (cc := cX12_isVariant) (maxL := 1) (ret := (some .boolean)) (by decide) rfl ?_
  intro p e s m args below meth c s₁ B hml hv
  obtain ⟨rfl, hsz⟩ := hv
  have hx := B.exec
  have hb := B.bytes
  have hr := B.returns
  have hts := atoms_spec (ws := zwX12_isVariant) B.pre
  have hown : s.vm.findClass RX12 = some m.cls := findClass_of_methodNamed B.named
  have hlocks := B.notSynchronized
  subst hsz
  have hA : ∀ q : Nat, s.heap.size ≤ q → s.heap.size ≤ q := fun _ h => h
  have hS : va_S (fun q : Nat => s.heap.size ≤ q) s.heap s.heap [] := va_S.rf
  have hl := lv_entry ([.int v]) (n := 1) (Nat.le_of_ble_eq_true rfl)
  rw [lg_entry_eq]
  generalize (lg_sl ([.int v]) ++ List.replicate (1 - (lg_sl ([.int v])).length) Slot.unset).toArray = ls at hl ⊢
  have hl : lv_has ls 1 [(0, .int v)] := hl
  refine lv_iload_n hx hb dX12_isVariant_0 rfl (lv_at hl 0 rfl) ?_
  refine lv_iconst (v := 0) hx hb dX12_isVariant_1 (by decide) ?_
  refine lv_iconst (v := 3) hx hb dX12_isVariant_2 (by decide) ?_
  refine va_calli (va_runS (As := [.int v, .int 0, .int 3]) (rest := []) ⟨hx, hb, hml, hown, hts⟩ (c_X12_isBetween l dC dI s.heap.size v 0 3) (va_cwS 3 hts (goodIn_app (goodIn_of _ (by decide +kernel)) (goodIn_sub ((fun w h => List.mem_cons_of_mem _ (List.mem_append_right _ (h)))) zgX12_isBetween)) rfl rfl rfl (by decide +kernel) ⟨Nat.le_of_ble_eq_true rfl, Nat.le_of_ble_eq_true rfl⟩) ⟨nPc_blind, nPc_pass⟩ rfl rfl hl.1 rfl (lv_room (Nat.le_of_ble_eq_true rfl)) dX12_isVariant_3 ⟨Nat.le_of_ble_eq_true rfl, Nat.le_of_ble_eq_true rfl⟩) hS (fun q _ h => hA q (Nat.le_trans hS.1 h)) (fun q h => hA q (Nat.le_trans hS.1 h)) (fun r_1 u t H locs ht hvm hw hB hz hk hS => ?_)
  rcases (show (r_1 = 1 ∧ (0 ≤ v ∧ v ≤ 3)) ∨ (r_1 = 0 ∧ ¬ (0 ≤ v ∧ v ≤ 3)) from hw) with ⟨rfl, h_2⟩ | ⟨rfl, h_2⟩
  · refine W.widen (k := 0) (n := 0) (Nat.le_of_ble_eq_true rfl) (Nat.le_of_ble_eq_true rfl) ?_
    exact W.zret (v := 1) hx hb hr (by decide +kernel) (fun t ht hW => ⟨⟨1, (), rfl, Or.inl ⟨rfl, (by simp only [zPl, zPm, fa_lt, fa_le, fa_eq, zi_0, zi_1, zi_3, zi_4, zi_7, zi_8, zi_10, zi_12, zi_119, zi_m1] at h_2 ⊢ <;> omega)⟩, trivial⟩, hS.F ht⟩) hS.2.2 dX12_isVariant_6
  · refine W.widen (k := 0) (n := 0) (Nat.le_of_ble_eq_true rfl) (Nat.le_of_ble_eq_true rfl) ?_
    exact W.zret (v := 0) hx hb hr (by decide +kernel) (fun t ht hW => ⟨⟨0, (), rfl, Or.inr ⟨rfl, (by simp only [zPl, zPm, fa_lt, fa_le, fa_eq, zi_0, zi_1, zi_3, zi_4, zi_7, zi_8, zi_10, zi_12, zi_119, zi_m1] at h_2 ⊢ <;> omega)⟩, trivial⟩, hS.F ht⟩) hS.2.2 dX12_isVariant_6

def zwX12_isPlace : List Cond := .code yX12_isPlace cX12_isPlace 1 (some .boolean) :: (([.methodLink RX12 38 yX12_isBetween, .static yX12_isBetween, .initialized RX12] : List Cond) ++ (zwX12_isBetween))
theorem zgX12_isPlace : zwX12_isPlace.all goodWord = true := zgo rfl (zga (by decide +kernel) (zgX12_isBetween))
set_option maxHeartbeats 4000000 in
set_option maxRecDepth 100000 in
theorem c_X12_isPlace (l : Launch) (dC : Nat → ClassId) (dI : Nat → Nat → Nat) (sz : Nat) (v : Int32) : Met l yX12_isPlace zwX12_isPlace ({ frames := 1, cells := 0, slots := 0, locals := 22 }) (nPc sz [.int v]) (va_Qi (fun (r : Int32) (_ : Unit) => (r = 1 ∧ zPm v) ∨ (r = 0 ∧ ¬ zPm v)) (fun _ _ => True) (fun q : Nat => sz ≤ q)) 0 0 (fun q : Nat => sz ≤ q) := by
  refine Met.ofW (cc := cX12_isPlace) (maxL := 1) (ret := (some .boolean)) (by decide) rfl ?_
  intro p e s m args below meth c s₁ B hml hv
  obtain ⟨rfl, hsz⟩ := hv
  have hx := B.exec
  have hb := B.bytes
  have hr := B.returns
  have hts := atoms_spec (ws := zwX12_isPlace) B.pre
  have hown : s.vm.findClass RX12 = some m.cls := findClass_of_methodNamed B.named
  have hlocks := B.notSynchronized
  subst hsz
  have hA : ∀ q : Nat, s.heap.size ≤ q → s.heap.size ≤ q := fun _ h => h
  have hS : va_S (fun q : Nat => s.heap.size ≤ q) s.heap s.heap [] := va_S.rf
  have hl := lv_entry ([.int v]) (n := 1) (Nat.le_of_ble_eq_true rfl)
  rw [lg_entry_eq]
  generalize (lg_sl ([.int v]) ++ List.replicate (1 - (lg_sl ([.int v])).length) Slot.unset).toArray = ls at hl ⊢
  have hl : lv_has ls 1 [(0, .int v)] := hl
  refine lv_iload_n hx hb dX12_isPlace_0 rfl (lv_at hl 0 rfl) ?_
  refine lv_iconst (v := 0) hx hb dX12_isPlace_1 (by decide) ?_
  refine lv_bipush (v := 119) hx hb dX12_isPlace_2 (by decide) ?_
  refine va_calli (va_runS (As := [.int v, .int 0, .int 119]) (rest := []) ⟨hx, hb, hml, hown, hts⟩ (c_X12_isBetween l dC dI s.heap.size v 0 119) (va_cwS 3 hts (goodIn_app (goodIn_of _ (by decide +kernel)) (goodIn_sub ((fun w h => List.mem_cons_of_mem _ (List.mem_append_right _ (h)))) zgX12_isBetween)) rfl rfl rfl (by decide +kernel) ⟨Nat.le_of_ble_eq_true rfl, Nat.le_of_ble_eq_true rfl⟩) ⟨nPc_blind, nPc_pass⟩ rfl rfl hl.1 rfl (lv_room (Nat.le_of_ble_eq_true rfl)) dX12_isPlace_4 ⟨Nat.le_of_ble_eq_true rfl, Nat.le_of_ble_eq_true rfl⟩) hS (fun q _ h => hA q (Nat.le_trans hS.1 h)) (fun q h => hA q (Nat.le_trans hS.1 h)) (fun r_1 u t H locs ht hvm hw hB hz hk hS => ?_)
  rcases (show (r_1 = 1 ∧ (0 ≤ v ∧ v ≤ 119)) ∨ (r_1 = 0 ∧ ¬ (0 ≤ v ∧ v ≤ 119)) from hw) with ⟨rfl, h_2⟩ | ⟨rfl, h_2⟩
  · refine lv_if_eq (tgt := 23) hx hb dX12_isPlace_7 (by decide) (fun c_3 => absurd c_3 (by decide)) (fun _ => ?_)
    refine lv_iload_n hx hb dX12_isPlace_10 rfl (lv_at hl 0 rfl) ?_
    refine lv_bipush (v := 10) hx hb dX12_isPlace_11 (by decide) ?_
    refine lv_irem hx hb dX12_isPlace_13 (by decide) ?_
    refine lv_bipush (v := 7) hx hb dX12_isPlace_14 (by decide) ?_
    refine lv_icmp_gt (tgt := 23) hx hb dX12_isPlace_16 (by decide) (fun c_5 => ?_) (fun c_5 => ?_)
    · refine lv_iconst (v := 0) hx hb dX12_isPlace_23 (by decide) ?_
      refine W.widen (k := 0) (n := 0) (Nat.le_of_ble_eq_true rfl) (Nat.le_of_ble_eq_true rfl) ?_
      exact W.zret (v := 0) hx hb hr (by decide +kernel) (fun t ht hW => ⟨⟨0, (), rfl, Or.inr ⟨rfl, (by simp only [zPl, zPm, fa_lt, fa_le, fa_eq, zi_0, zi_1, zi_3, zi_4, zi_7, zi_8, zi_10, zi_12, zi_119, zi_m1] at h_2 c_5 ⊢ <;> omega)⟩, trivial⟩, hS.F ht⟩) hS.2.2 dX12_isPlace_24
    · refine lv_iconst (v := 1) hx hb dX12_isPlace_19 (by decide) ?_
      refine lv_goto (tgt := 24) hx hb dX12_isPlace_20 (by decide) ?_
      refine W.widen (k := 0) (n := 0) (Nat.le_of_ble_eq_true rfl) (Nat.le_of_ble_eq_true rfl) ?_
      exact W.zret (v := 1) hx hb hr (by decide +kernel) (fun t ht hW => ⟨⟨1, (), rfl, Or.inl ⟨rfl, (by simp only [zPl, zPm, fa_lt, fa_le, fa_eq, zi_0, zi_1, zi_3, zi_4, zi_7, zi_8, zi_10, zi_12, zi_119, zi_m1] at h_2 c_5 ⊢ <;> omega)⟩, trivial⟩, hS.F ht⟩) hS.2.2 dX12_isPlace_24
  · refine lv_if_eq (tgt := 23) hx hb dX12_isPlace_7 (by decide) (fun _ => ?_) (fun c_6 => absurd c_6 (by decide))
    refine lv_iconst (v := 0) hx hb dX12_isPlace_23 (by decide) ?_
    refine W.widen (k := 0) (n := 0) (Nat.le_of_ble_eq_true rfl) (Nat.le_of_ble_eq_true rfl) ?_
    exact W.zret (v := 0) hx hb hr (by decide +kernel) (fun t ht hW => ⟨⟨0, (), rfl, Or.inr ⟨rfl, (by simp only [zPl, zPm, fa_lt, fa_le, fa_eq, zi_0, zi_1, zi_3, zi_4, zi_7, zi_8, zi_10, zi_12, zi_119, zi_m1] at h_2 ⊢ <;> omega)⟩, trivial⟩, hS.F ht⟩) hS.2.2 dX12_isPlace_24

def zwJx4a65c_size_8abf5 : List Cond := .code yJx4a65c_size_8abf5 cJx4a65c_size_8abf5 1 (some .int) :: (([.fieldLink RJx4a65c 48 "java/util/ArrayList" "size" "I"] : List Cond) ++ (wsJx4a65c0))
theorem zgJx4a65c_size_8abf5 : zwJx4a65c_size_8abf5.all goodWord = true := zgo rfl (zga (by decide +kernel) (zgcJx4a65c))
set_option maxHeartbeats 4000000 in
set_option maxRecDepth 100000 in
theorem c_Jx4a65c_size_8abf5 (l : Launch) (dC : Nat → ClassId) (dI : Nat → Nat → Nat) (sz : Nat) (e0 : Nat) (a : Nat) : Met l yJx4a65c_size_8abf5 zwJx4a65c_size_8abf5 ({ frames := 0, cells := 0, slots := 0, locals := 0 }) (gPc dC dI sz [(a, .inr (2, [.int 0, .ref e0, .int 0]))] [] [.ref a]) (va_Qi (fun (r : Int32) (u : Unit) => r = 0) (fun u t => va_P (dC, dI) vwCl [(a, .inr (2, [.int 0, .ref e0, .int 0]))] t.heap ∧ va_K (dC, dI) vwCl [] t ∧ va_D (va_A [(a, .inr (2, [.int 0, .ref e0, .int 0]))] sz) [(a, .inr (2, [.int 0, .ref e0, .int 0]))]) (va_A [(a, .inr (2, [.int 0, .ref e0, .int 0]))] sz)) 0 0 (va_A [(a, .inr (2, [.int 0, .ref e0, .int 0]))] sz) := by
  refine Met.ofW (cc := cJx4a65c_size_8abf5) (maxL := 1) (ret := (some .int)) (by decide) rfl ?_
  intro p e s m args below meth c s₁ B hml hv
  obtain ⟨rfl, hsz, hP, hK, hD0⟩ := hv
  have hx := B.exec
  have hb := B.bytes
  have hr := B.returns
  have hts := atoms_spec (ws := zwJx4a65c_size_8abf5) B.pre
  have hown : s.vm.findClass RJx4a65c = some m.cls := findClass_of_methodNamed B.named
  have hlocks := B.notSynchronized
  subst hsz
  have hD := hD0.self (sz := s.heap.size)
  generalize hAe : va_A [(a, .inr (2, [.int 0, .ref e0, .int 0]))] s.heap.size = A at hD ⊢
  have hA : ∀ q : Nat, s.heap.size ≤ q → A q := fun q h => by rw [← hAe]; exact Or.inr h
  have hS : va_S A s.heap s.heap [] := va_S.rf
  have hP : va_P (dC, dI) vwCl [(a, .inr (2, [.int 0, .ref e0, .int 0]))] s.heap := hP
  have hl := lv_entry ([.ref a]) (n := 1) (Nat.le_of_ble_eq_true rfl)
  rw [lg_entry_eq]
  generalize (lg_sl ([.ref a]) ++ List.replicate (1 - (lg_sl ([.ref a])).length) Slot.unset).toArray = ls at hl ⊢
  have hl : lv_has ls 1 [(0, .ref a)] := hl
  refine lv_aload_n hx hb dJx4a65c_size_8abf5_0 rfl (lv_at hl 0 rfl) ?_
  refine va_get (D := (dC, dI)) (ci := 2) (v := .int 0) (C := RJx4a65c) (T := TJx4a65c) (N := 3) hx hb hts (fun w h => List.mem_cons_of_mem _ (List.mem_append_right _ (h))) hown hK hP 0 rfl rfl 2 (by decide) (hts (.fieldLink RJx4a65c 48 "java/util/ArrayList" "size" "I") (by decide +kernel)) (fun _ h9 => h9) rfl dJx4a65c_size_8abf5_1 ?_
  have hP9 := hP.sub (ws' := [(a, .inr (2, [.int 0, .ref e0, .int 0]))]) [0] rfl
  have hD9 := hD.sub (ws' := [(a, .inr (2, [.int 0, .ref e0, .int 0]))]) [0] (by decide) rfl
  have hK9 := hK.sub (tys' := []) [] rfl
  refine W.widen (k := 0) (n := 0) (Nat.le_of_ble_eq_true rfl) (Nat.le_of_ble_eq_true rfl) ?_
  exact W.iret (v := 0) hx hb hr (fun t ht hW => ⟨⟨0, (), rfl, rfl, by rw [ht]; exact hP9, va_K.moved hW.alike hK9, hD9⟩, hS.F ht⟩) hS.2.2 dJx4a65c_size_8abf5_4

def zwJx4a65c_isEmpty_aae02 : List Cond := .code yJx4a65c_isEmpty_aae02 cJx4a65c_isEmpty_aae02 1 (some .boolean) :: (([.fieldLink RJx4a65c 48 "java/util/ArrayList" "size" "I"] : List Cond) ++ (wsJx4a65c0))
theorem zgJx4a65c_isEmpty_aae02 : zwJx4a65c_isEmpty_aae02.all goodWord = true := zgo rfl (zga (by decide +kernel) (zgcJx4a65c))
set_option maxHeartbeats 4000000 in
set_option maxRecDepth 100000 in
theorem c_Jx4a65c_isEmpty_aae02 (l : Launch) (dC : Nat → ClassId) (dI : Nat → Nat → Nat) (sz : Nat) (e0 : Nat) (a : Nat) : Met l yJx4a65c_isEmpty_aae02 zwJx4a65c_isEmpty_aae02 ({ frames := 0, cells := 0, slots := 0, locals := 0 }) (gPc dC dI sz [(a, .inr (2, [.int 0, .ref e0, .int 0]))] [] [.ref a]) (va_Qi (fun (r : Int32) (u : Unit) => r = 1) (fun u t => va_P (dC, dI) vwCl [(a, .inr (2, [.int 0, .ref e0, .int 0]))] t.heap ∧ va_K (dC, dI) vwCl [] t ∧ va_D (va_A [(a, .inr (2, [.int 0, .ref e0, .int 0]))] sz) [(a, .inr (2, [.int 0, .ref e0, .int 0]))]) (va_A [(a, .inr (2, [.int 0, .ref e0, .int 0]))] sz)) 0 0 (va_A [(a, .inr (2, [.int 0, .ref e0, .int 0]))] sz) := by
  refine Met.ofW (cc := cJx4a65c_isEmpty_aae02) (maxL := 1) (ret := (some .boolean)) (by decide) rfl ?_
  intro p e s m args below meth c s₁ B hml hv
  obtain ⟨rfl, hsz, hP, hK, hD0⟩ := hv
  have hx := B.exec
  have hb := B.bytes
  have hr := B.returns
  have hts := atoms_spec (ws := zwJx4a65c_isEmpty_aae02) B.pre
  have hown : s.vm.findClass RJx4a65c = some m.cls := findClass_of_methodNamed B.named
  have hlocks := B.notSynchronized
  subst hsz
  have hD := hD0.self (sz := s.heap.size)
  generalize hAe : va_A [(a, .inr (2, [.int 0, .ref e0, .int 0]))] s.heap.size = A at hD ⊢
  have hA : ∀ q : Nat, s.heap.size ≤ q → A q := fun q h => by rw [← hAe]; exact Or.inr h
  have hS : va_S A s.heap s.heap [] := va_S.rf
  have hP : va_P (dC, dI) vwCl [(a, .inr (2, [.int 0, .ref e0, .int 0]))] s.heap := hP
  have hl := lv_entry ([.ref a]) (n := 1) (Nat.le_of_ble_eq_true rfl)
  rw [lg_entry_eq]
  generalize (lg_sl ([.ref a]) ++ List.replicate (1 - (lg_sl ([.ref a])).length) Slot.unset).toArray = ls at hl ⊢
  have hl : lv_has ls 1 [(0, .ref a)] := hl
  refine lv_aload_n hx hb dJx4a65c_isEmpty_aae02_0 rfl (lv_at hl 0 rfl) ?_
  refine va_get (D := (dC, dI)) (ci := 2) (v := .int 0) (C := RJx4a65c) (T := TJx4a65c) (N := 3) hx hb hts (fun w h => List.mem_cons_of_mem _ (List.mem_append_right _ (h))) hown hK hP 0 rfl rfl 2 (by decide) (hts (.fieldLink RJx4a65c 48 "java/util/ArrayList" "size" "I") (by decide +kernel)) (fun _ h9 => h9) rfl dJx4a65c_isEmpty_aae02_1 ?_
  refine lv_if_ne (tgt := 11) hx hb dJx4a65c_isEmpty_aae02_4 (by decide) (fun c_1 => absurd c_1 (by decide)) (fun _ => ?_)
  refine lv_iconst (v := 1) hx hb dJx4a65c_isEmpty_aae02_7 (by decide) ?_
  refine lv_goto (tgt := 12) hx hb dJx4a65c_isEmpty_aae02_8 (by decide) ?_
  have hP9 := hP.sub (ws' := [(a, .inr (2, [.int 0, .ref e0, .int 0]))]) [0] rfl
  have hD9 := hD.sub (ws' := [(a, .inr (2, [.int 0, .ref e0, .int 0]))]) [0] (by decide) rfl
  have hK9 := hK.sub (tys' := []) [] rfl
  refine W.widen (k := 0) (n := 0) (Nat.le_of_ble_eq_true rfl) (Nat.le_of_ble_eq_true rfl) ?_
  exact W.zret (v := 1) hx hb hr (by decide +kernel) (fun t ht hW => ⟨⟨1, (), rfl, rfl, by rw [ht]; exact hP9, va_K.moved hW.alike hK9, hD9⟩, hS.F ht⟩) hS.2.2 dJx4a65c_isEmpty_aae02_12

def zwX12_isOf : List Cond := .code yX12_isOf cX12_isOf 2 (some .boolean) :: (([.methodLink RX12 32 ⟨"java/util/List", "size", "()I"⟩, .selects RJx4a65c ⟨"java/util/List", "size", "()I"⟩ yJx4a65c_size_8abf5, .instanceMethod yJx4a65c_size_8abf5, .initialized RJx4a65c, .methodLink RX12 38 yX12_isBetween, .static yX12_isBetween, .initialized RX12] : List Cond) ++ (zwJx4a65c_size_8abf5 ++ (zwX12_isBetween)))
theorem zgX12_isOf : zwX12_isOf.all goodWord = true := zgo rfl (zga (by decide +kernel) (zga zgJx4a65c_size_8abf5 (zgX12_isBetween)))
set_option maxHeartbeats 4000000 in
set_option maxRecDepth 100000 in
theorem c_X12_isOf (l : Launch) (dC : Nat → ClassId) (dI : Nat → Nat → Nat) (sz : Nat) (e0 : Nat) (a : Nat) (k : Int32) : Met l yX12_isOf zwX12_isOf ({ frames := 1, cells := 0, slots := 0, locals := 22 }) (gPcE dC dI sz [(a, .inr (2, [.int 0, .ref e0, .int 0]))] [] [.ref a, .int k]) (va_Qi (fun (r : Int32) (u : Unit) => r = 0) (fun u t => va_P (dC, dI) vwCl [(a, .inr (2, [.int 0, .ref e0, .int 0]))] t.heap ∧ va_K (dC, dI) vwCl [] t ∧ va_D (va_A [(a, .inr (2, [.int 0, .ref e0, .int 0]))] sz) [(a, .inr (2, [.int 0, .ref e0, .int 0]))]) (va_A [(a, .inr (2, [.int 0, .ref e0, .int 0]))] sz)) 0 0 (va_A [(a, .inr (2, [.int 0, .ref e0, .int 0]))] sz) := by
  refine Met.ofW (cc := cX12_isOf) (maxL := 2) (ret := (some .boolean)) (by decide) rfl ?_
  intro p e s m args below meth c s₁ B hml hv
  obtain ⟨rfl, hsz, hP, hK, hD0, hE⟩ := hv
  have hx := B.exec
  have hb := B.bytes
  have hr := B.returns
  have hts := atoms_spec (ws := zwX12_isOf) B.pre
  have hown : s.vm.findClass RX12 = some m.cls := findClass_of_methodNamed B.named
  have hlocks := B.notSynchronized
  subst hsz
  have hD := hD0.self (sz := s.heap.size)
  generalize hAe : va_A [(a, .inr (2, [.int 0, .ref e0, .int 0]))] s.heap.size = A at hD hE ⊢
  have hA : ∀ q : Nat, s.heap.size ≤ q → A q := fun q h => by rw [← hAe]; exact Or.inr h
  have hS : va_S A s.heap s.heap [] := va_S.rf
  have hP : va_P (dC, dI) vwCl [(a, .inr (2, [.int 0, .ref e0, .int 0]))] s.heap := hP
  have hl := lv_entry ([.ref a, .int k]) (n := 2) (Nat.le_of_ble_eq_true rfl)
  rw [lg_entry_eq]
  generalize (lg_sl ([.ref a, .int k]) ++ List.replicate (2 - (lg_sl ([.ref a, .int k])).length) Slot.unset).toArray = ls at hl ⊢
  have hl : lv_has ls 2 [(0, .ref a), (1, .int k)] := hl
  refine lv_iload_n hx hb dX12_isOf_0 rfl (lv_at hl 1 rfl) ?_
  refine lv_iconst (v := 0) hx hb dX12_isOf_1 (by decide) ?_
  refine lv_aload_n hx hb dX12_isOf_2 rfl (lv_at hl 0 rfl) ?_
  have hPc := hP.sub (ws' := [(a, .inr (2, [.int 0, .ref e0, .int 0]))]) [0] rfl
  have hDc := hD.sub (ws' := [(a, .inr (2, [.int 0, .ref e0, .int 0]))]) [0] (by decide) rfl
  have hKc := hK.sub (tys' := []) [] rfl
  have hFc := va_free (wc := [(a, .inr (2, [.int 0, .ref e0, .int 0]))]) hD hS hA [0] rfl
  refine va_callFi (va_runF (As := []) (rest := [.int 0, .int k]) ((hK.1 2 _ rfl).2) ⟨hx, hb, hml, hown, hts⟩ (c_Jx4a65c_size_8abf5 l dC dI s.heap.size e0 a) (va_cwF 0 hts (goodIn_app (goodIn_of _ (by decide +kernel)) (goodIn_sub ((fun w h => List.mem_cons_of_mem _ (List.mem_append_right _ (List.mem_append_left _ h)))) zgJx4a65c_size_8abf5)) rfl rfl rfl hE.2.2.2.2.2.2.1 (by decide +kernel) ⟨Nat.le_of_ble_eq_true rfl, Nat.le_of_ble_eq_true rfl⟩) ⟨gPc_blind, va_recv hK hP (ci := 2) (q0 := 0) rfl rfl, gPc_pass hPc hKc hDc⟩ rfl rfl hl.1 rfl (lv_room (Nat.le_of_ble_eq_true rfl)) dX12_isOf_3 ⟨Nat.le_of_ble_eq_true rfl, Nat.le_of_ble_eq_true rfl⟩) hS (fun q _ h => hFc q h) hFc (fun r_1 u_2 t H locs ht hvm hw hB hz hk hS => ?_)
  obtain ⟨hP1, hK1, hD1⟩ := hB
  rw [ht] at hP1
  obtain ⟨hP, hD⟩ := va_join (wr := []) (w1 := [(a, .inr (2, [.int 0, .ref e0, .int 0]))]) hP hD [0] [] rfl rfl (by decide) (by decide) hk hFc hP1 hD1
  have hP : va_P (dC, dI) vwCl [(a, .inr (2, [.int 0, .ref e0, .int 0]))] H := hP
  have hD : va_D A [(a, .inr (2, [.int 0, .ref e0, .int 0]))] := hD
  have hw : r_1 = 0 := hw
  subst hw
  refine lv_iconst (v := 1) hx hb dX12_isOf_8 (by decide) ?_
  refine lv_isub hx hb dX12_isOf_9 ?_
  refine lv_topi (fun y_3 ey_3 => ?_)
  obtain rfl : y_3 = (-1) := ey_3.trans (by decide +kernel)
  refine va_calli (va_runS (As := [.int k, .int 0, .int (-1)]) (rest := []) ⟨hx, hb, hml, hown, hts⟩ (c_X12_isBetween l dC dI H.size k 0 (-1)) (va_cwS 3 hts (goodIn_app (goodIn_of _ (by decide +kernel)) (goodIn_sub ((fun w h => List.mem_cons_of_mem _ (List.mem_append_right _ (List.mem_append_right _ (h))))) zgX12_isBetween)) rfl rfl rfl (by decide +kernel) ⟨Nat.le_of_ble_eq_true rfl, Nat.le_of_ble_eq_true rfl⟩) ⟨nPc_blind, nPc_pass⟩ rfl rfl hl.1 rfl (lv_room (Nat.le_of_ble_eq_true rfl)) dX12_isOf_10 ⟨Nat.le_of_ble_eq_true rfl, Nat.le_of_ble_eq_true rfl⟩) hS (fun q _ h => hA q (Nat.le_trans hS.1 h)) (fun q h => hA q (Nat.le_trans hS.1 h)) (fun r_4 u_5 t H locs ht hvm hw hB hz hk hS => ?_)
  have hP := zkn hP hk
  rcases (show (r_4 = 1 ∧ (0 ≤ k ∧ k ≤ (-1))) ∨ (r_4 = 0 ∧ ¬ (0 ≤ k ∧ k ≤ (-1))) from hw) with ⟨rfl, h_6⟩ | ⟨rfl, h_6⟩
  · exact False.elim (by simp only [zPl, zPm, fa_lt, fa_le, fa_eq, zi_0, zi_1, zi_3, zi_4, zi_7, zi_8, zi_10, zi_12, zi_119, zi_m1] at h_6 ⊢ <;> omega)
  · have hP9 := hP.sub (ws' := [(a, .inr (2, [.int 0, .ref e0, .int 0]))]) [0] rfl
    have hD9 := hD.sub (ws' := [(a, .inr (2, [.int 0, .ref e0, .int 0]))]) [0] (by decide) rfl
    have hK9 := hK.sub (tys' := []) [] rfl
    refine W.widen (k := 0) (n := 0) (Nat.le_of_ble_eq_true rfl) (Nat.le_of_ble_eq_true rfl) ?_
    exact W.zret (v := 0) hx hb hr (by decide +kernel) (fun t ht hW => ⟨⟨0, (), rfl, rfl, by rw [ht]; exact hP9, va_K.moved hW.alike hK9, hD9⟩, hS.F ht⟩) hS.2.2 dX12_isOf_13

def zwX12_isWrong_0 : List Cond := .code yX12_isWrong cX12_isWrong 2 (some .boolean) :: (([.fieldLink RX12 28 "SpotbeatModel" "thrown" "I"] : List Cond) ++ (wsX120))
theorem zgX12_isWrong_0 : zwX12_isWrong_0.all goodWord = true := zgo rfl (zga (by decide +kernel) (zgcX12))
set_option maxHeartbeats 4000000 in
set_option maxRecDepth 100000 in
theorem c_X12_isWrong_0 (l : Launch) (dC : Nat → ClassId) (dI : Nat → Nat → Nat) (sz : Nat) (mo : Nat) (lm : Nat → Nat) (e0 : Nat) (th : Int32) : Met l yX12_isWrong zwX12_isWrong_0 ({ frames := 0, cells := 0, slots := 0, locals := 0 }) (gPcE dC dI sz [(mo, .inr (15, [.int th, .ref (lm 0), .ref (lm 1), .ref (lm 2), .ref (lm 3), .ref (lm 4), .int 0, .int 0])), ((lm 0), .inr (2, [.int 0, .ref e0, .int 0])), ((lm 1), .inr (2, [.int 0, .ref e0, .int 0])), ((lm 2), .inr (2, [.int 0, .ref e0, .int 0])), ((lm 3), .inr (2, [.int 0, .ref e0, .int 0])), ((lm 4), .inr (2, [.int 0, .ref e0, .int 0]))] [] [.ref mo, .int 0]) (va_Qi (fun (r : Int32) (u : Int32) => r = 0 ∧ u = 0) (fun u t => va_P (dC, dI) vwCl [(mo, .inr (15, [.int u, .ref (lm 0), .ref (lm 1), .ref (lm 2), .ref (lm 3), .ref (lm 4), .int 0, .int 0])), ((lm 0), .inr (2, [.int 0, .ref e0, .int 0])), ((lm 1), .inr (2, [.int 0, .ref e0, .int 0])), ((lm 2), .inr (2, [.int 0, .ref e0, .int 0])), ((lm 3), .inr (2, [.int 0, .ref e0, .int 0])), ((lm 4), .inr (2, [.int 0, .ref e0, .int 0]))] t.heap ∧ va_K (dC, dI) vwCl [] t ∧ va_D (va_A [(mo, .inr (15, [.int th, .ref (lm 0), .ref (lm 1), .ref (lm 2), .ref (lm 3), .ref (lm 4), .int 0, .int 0])), ((lm 0), .inr (2, [.int 0, .ref e0, .int 0])), ((lm 1), .inr (2, [.int 0, .ref e0, .int 0])), ((lm 2), .inr (2, [.int 0, .ref e0, .int 0])), ((lm 3), .inr (2, [.int 0, .ref e0, .int 0])), ((lm 4), .inr (2, [.int 0, .ref e0, .int 0]))] sz) [(mo, .inr (15, [.int u, .ref (lm 0), .ref (lm 1), .ref (lm 2), .ref (lm 3), .ref (lm 4), .int 0, .int 0])), ((lm 0), .inr (2, [.int 0, .ref e0, .int 0])), ((lm 1), .inr (2, [.int 0, .ref e0, .int 0])), ((lm 2), .inr (2, [.int 0, .ref e0, .int 0])), ((lm 3), .inr (2, [.int 0, .ref e0, .int 0])), ((lm 4), .inr (2, [.int 0, .ref e0, .int 0]))]) (va_A [(mo, .inr (15, [.int th, .ref (lm 0), .ref (lm 1), .ref (lm 2), .ref (lm 3), .ref (lm 4), .int 0, .int 0])), ((lm 0), .inr (2, [.int 0, .ref e0, .int 0])), ((lm 1), .inr (2, [.int 0, .ref e0, .int 0])), ((lm 2), .inr (2, [.int 0, .ref e0, .int 0])), ((lm 3), .inr (2, [.int 0, .ref e0, .int 0])), ((lm 4), .inr (2, [.int 0, .ref e0, .int 0]))] sz)) 0 0 (va_A [(mo, .inr (15, [.int th, .ref (lm 0), .ref (lm 1), .ref (lm 2), .ref (lm 3), .ref (lm 4), .int 0, .int 0])), ((lm 0), .inr (2, [.int 0, .ref e0, .int 0])), ((lm 1), .inr (2, [.int 0, .ref e0, .int 0])), ((lm 2), .inr (2, [.int 0, .ref e0, .int 0])), ((lm 3), .inr (2, [.int 0, .ref e0, .int 0])), ((lm 4), .inr (2, [.int 0, .ref e0, .int 0]))] sz) := by
  refine Met.ofW (cc := cX12_isWrong) (maxL := 2) (ret := (some .boolean)) (by decide) rfl ?_
  intro p e s m args below meth c s₁ B hml hv
  obtain ⟨rfl, hsz, hP, hK, hD0, hE⟩ := hv
  have hx := B.exec
  have hb := B.bytes
  have hr := B.returns
  have hts := atoms_spec (ws := zwX12_isWrong_0) B.pre
  have hown : s.vm.findClass RX12 = some m.cls := findClass_of_methodNamed B.named
  have hlocks := B.notSynchronized
  subst hsz
  have hD := hD0.self (sz := s.heap.size)
  generalize hAe : va_A [(mo, .inr (15, [.int th, .ref (lm 0), .ref (lm 1), .ref (lm 2), .ref (lm 3), .ref (lm 4), .int 0, .int 0])), ((lm 0), .inr (2, [.int 0, .ref e0, .int 0])), ((lm 1), .inr (2, [.int 0, .ref e0, .int 0])), ((lm 2), .inr (2, [.int 0, .ref e0, .int 0])), ((lm 3), .inr (2, [.int 0, .ref e0, .int 0])), ((lm 4), .inr (2, [.int 0, .ref e0, .int 0]))] s.heap.size = A at hD hE ⊢
  have hA : ∀ q : Nat, s.heap.size ≤ q → A q := fun q h => by rw [← hAe]; exact Or.inr h
  have hS : va_S A s.heap s.heap [] := va_S.rf
  have hP : va_P (dC, dI) vwCl [(mo, .inr (15, [.int th, .ref (lm 0), .ref (lm 1), .ref (lm 2), .ref (lm 3), .ref (lm 4), .int 0, .int 0])), ((lm 0), .inr (2, [.int 0, .ref e0, .int 0])), ((lm 1), .inr (2, [.int 0, .ref e0, .int 0])), ((lm 2), .inr (2, [.int 0, .ref e0, .int 0])), ((lm 3), .inr (2, [.int 0, .ref e0, .int 0])), ((lm 4), .inr (2, [.int 0, .ref e0, .int 0]))] s.heap := hP
  have hl := lv_entry ([.ref mo, .int 0]) (n := 2) (Nat.le_of_ble_eq_true rfl)
  rw [lg_entry_eq]
  generalize (lg_sl ([.ref mo, .int 0]) ++ List.replicate (2 - (lg_sl ([.ref mo, .int 0])).length) Slot.unset).toArray = ls at hl ⊢
  have hl : lv_has ls 2 [(0, .ref mo), (1, .int 0)] := hl
  refine lv_aload_n hx hb dX12_isWrong_0 rfl (lv_at hl 0 rfl) ?_
  refine lv_iload_n hx hb dX12_isWrong_1 rfl (lv_at hl 1 rfl) ?_
  refine va_put (D := (dC, dI)) (ci := 15) (v := .int 0) (ty := .int) (C := RX12) (T := TX12) (N := 8) hx hb hts (fun w h => List.mem_cons_of_mem _ (List.mem_append_right _ (h))) tyX12 tyX12_ok nmX12 hown hK hP hD hS 0 rfl rfl 0 (by decide) (hts (.fieldLink RX12 28 "SpotbeatModel" "thrown" "I") (by decide +kernel)) (fun _ h9 => h9) rfl (by decide +kernel) rfl rfl (Nat.le_of_ble_eq_true rfl) dX12_isWrong_2 (fun H locs hP hD hS => ?_)
  have hP : va_P (dC, dI) vwCl [(mo, .inr (15, [.int 0, .ref (lm 0), .ref (lm 1), .ref (lm 2), .ref (lm 3), .ref (lm 4), .int 0, .int 0])), ((lm 0), .inr (2, [.int 0, .ref e0, .int 0])), ((lm 1), .inr (2, [.int 0, .ref e0, .int 0])), ((lm 2), .inr (2, [.int 0, .ref e0, .int 0])), ((lm 3), .inr (2, [.int 0, .ref e0, .int 0])), ((lm 4), .inr (2, [.int 0, .ref e0, .int 0]))] H := hP
  have hD : va_D A [(mo, .inr (15, [.int 0, .ref (lm 0), .ref (lm 1), .ref (lm 2), .ref (lm 3), .ref (lm 4), .int 0, .int 0])), ((lm 0), .inr (2, [.int 0, .ref e0, .int 0])), ((lm 1), .inr (2, [.int 0, .ref e0, .int 0])), ((lm 2), .inr (2, [.int 0, .ref e0, .int 0])), ((lm 3), .inr (2, [.int 0, .ref e0, .int 0])), ((lm 4), .inr (2, [.int 0, .ref e0, .int 0]))] := hD
  refine lv_iload_n hx hb dX12_isWrong_5 rfl (lv_at hl 1 rfl) ?_
  refine lv_if_le (tgt := 13) hx hb dX12_isWrong_6 (by decide) (fun _ => ?_) (fun c_1 => absurd c_1 (by decide))
  refine lv_iconst (v := 0) hx hb dX12_isWrong_13 (by decide) ?_
  have hP9 := hP.sub (ws' := [(mo, .inr (15, [.int 0, .ref (lm 0), .ref (lm 1), .ref (lm 2), .ref (lm 3), .ref (lm 4), .int 0, .int 0])), ((lm 0), .inr (2, [.int 0, .ref e0, .int 0])), ((lm 1), .inr (2, [.int 0, .ref e0, .int 0])), ((lm 2), .inr (2, [.int 0, .ref e0, .int 0])), ((lm 3), .inr (2, [.int 0, .ref e0, .int 0])), ((lm 4), .inr (2, [.int 0, .ref e0, .int 0]))]) [0, 1, 2, 3, 4, 5] rfl
  have hD9 := hD.sub (ws' := [(mo, .inr (15, [.int 0, .ref (lm 0), .ref (lm 1), .ref (lm 2), .ref (lm 3), .ref (lm 4), .int 0, .int 0])), ((lm 0), .inr (2, [.int 0, .ref e0, .int 0])), ((lm 1), .inr (2, [.int 0, .ref e0, .int 0])), ((lm 2), .inr (2, [.int 0, .ref e0, .int 0])), ((lm 3), .inr (2, [.int 0, .ref e0, .int 0])), ((lm 4), .inr (2, [.int 0, .ref e0, .int 0]))]) [0, 1, 2, 3, 4, 5] (by decide) rfl
  have hK9 := hK.sub (tys' := []) [] rfl
  refine W.widen (k := 0) (n := 0) (Nat.le_of_ble_eq_true rfl) (Nat.le_of_ble_eq_true rfl) ?_
  exact W.zret (v := 0) hx hb hr (by decide +kernel) (fun t ht hW => ⟨⟨0, 0, rfl, ⟨rfl, rfl⟩, by rw [ht]; exact hP9, va_K.moved hW.alike hK9, hD9⟩, hS.F ht⟩) hS.2.2 dX12_isWrong_14

def zwX12_isWrong_1 : List Cond := .code yX12_isWrong cX12_isWrong 2 (some .boolean) :: (([.fieldLink RX12 28 "SpotbeatModel" "thrown" "I"] : List Cond) ++ (wsX120))
theorem zgX12_isWrong_1 : zwX12_isWrong_1.all goodWord = true := zgo rfl (zga (by decide +kernel) (zgcX12))
set_option maxHeartbeats 4000000 in
set_option maxRecDepth 100000 in
theorem c_X12_isWrong_1 (l : Launch) (dC : Nat → ClassId) (dI : Nat → Nat → Nat) (sz : Nat) (mo : Nat) (lm : Nat → Nat) (e0 : Nat) (th : Int32) : Met l yX12_isWrong zwX12_isWrong_1 ({ frames := 0, cells := 0, slots := 0, locals := 0 }) (gPcE dC dI sz [(mo, .inr (15, [.int th, .ref (lm 0), .ref (lm 1), .ref (lm 2), .ref (lm 3), .ref (lm 4), .int 0, .int 0])), ((lm 0), .inr (2, [.int 0, .ref e0, .int 0])), ((lm 1), .inr (2, [.int 0, .ref e0, .int 0])), ((lm 2), .inr (2, [.int 0, .ref e0, .int 0])), ((lm 3), .inr (2, [.int 0, .ref e0, .int 0])), ((lm 4), .inr (2, [.int 0, .ref e0, .int 0]))] [] [.ref mo, .int 1]) (va_Qi (fun (r : Int32) (u : Int32) => r = 1 ∧ u = 1) (fun u t => va_P (dC, dI) vwCl [(mo, .inr (15, [.int u, .ref (lm 0), .ref (lm 1), .ref (lm 2), .ref (lm 3), .ref (lm 4), .int 0, .int 0])), ((lm 0), .inr (2, [.int 0, .ref e0, .int 0])), ((lm 1), .inr (2, [.int 0, .ref e0, .int 0])), ((lm 2), .inr (2, [.int 0, .ref e0, .int 0])), ((lm 3), .inr (2, [.int 0, .ref e0, .int 0])), ((lm 4), .inr (2, [.int 0, .ref e0, .int 0]))] t.heap ∧ va_K (dC, dI) vwCl [] t ∧ va_D (va_A [(mo, .inr (15, [.int th, .ref (lm 0), .ref (lm 1), .ref (lm 2), .ref (lm 3), .ref (lm 4), .int 0, .int 0])), ((lm 0), .inr (2, [.int 0, .ref e0, .int 0])), ((lm 1), .inr (2, [.int 0, .ref e0, .int 0])), ((lm 2), .inr (2, [.int 0, .ref e0, .int 0])), ((lm 3), .inr (2, [.int 0, .ref e0, .int 0])), ((lm 4), .inr (2, [.int 0, .ref e0, .int 0]))] sz) [(mo, .inr (15, [.int u, .ref (lm 0), .ref (lm 1), .ref (lm 2), .ref (lm 3), .ref (lm 4), .int 0, .int 0])), ((lm 0), .inr (2, [.int 0, .ref e0, .int 0])), ((lm 1), .inr (2, [.int 0, .ref e0, .int 0])), ((lm 2), .inr (2, [.int 0, .ref e0, .int 0])), ((lm 3), .inr (2, [.int 0, .ref e0, .int 0])), ((lm 4), .inr (2, [.int 0, .ref e0, .int 0]))]) (va_A [(mo, .inr (15, [.int th, .ref (lm 0), .ref (lm 1), .ref (lm 2), .ref (lm 3), .ref (lm 4), .int 0, .int 0])), ((lm 0), .inr (2, [.int 0, .ref e0, .int 0])), ((lm 1), .inr (2, [.int 0, .ref e0, .int 0])), ((lm 2), .inr (2, [.int 0, .ref e0, .int 0])), ((lm 3), .inr (2, [.int 0, .ref e0, .int 0])), ((lm 4), .inr (2, [.int 0, .ref e0, .int 0]))] sz)) 0 0 (va_A [(mo, .inr (15, [.int th, .ref (lm 0), .ref (lm 1), .ref (lm 2), .ref (lm 3), .ref (lm 4), .int 0, .int 0])), ((lm 0), .inr (2, [.int 0, .ref e0, .int 0])), ((lm 1), .inr (2, [.int 0, .ref e0, .int 0])), ((lm 2), .inr (2, [.int 0, .ref e0, .int 0])), ((lm 3), .inr (2, [.int 0, .ref e0, .int 0])), ((lm 4), .inr (2, [.int 0, .ref e0, .int 0]))] sz) := by
  refine Met.ofW (cc := cX12_isWrong) (maxL := 2) (ret := (some .boolean)) (by decide) rfl ?_
  intro p e s m args below meth c s₁ B hml hv
  obtain ⟨rfl, hsz, hP, hK, hD0, hE⟩ := hv
  have hx := B.exec
  have hb := B.bytes
  have hr := B.returns
  have hts := atoms_spec (ws := zwX12_isWrong_1) B.pre
  have hown : s.vm.findClass RX12 = some m.cls := findClass_of_methodNamed B.named
  have hlocks := B.notSynchronized
  subst hsz
  have hD := hD0.self (sz := s.heap.size)
  generalize hAe : va_A [(mo, .inr (15, [.int th, .ref (lm 0), .ref (lm 1), .ref (lm 2), .ref (lm 3), .ref (lm 4), .int 0, .int 0])), ((lm 0), .inr (2, [.int 0, .ref e0, .int 0])), ((lm 1), .inr (2, [.int 0, .ref e0, .int 0])), ((lm 2), .inr (2, [.int 0, .ref e0, .int 0])), ((lm 3), .inr (2, [.int 0, .ref e0, .int 0])), ((lm 4), .inr (2, [.int 0, .ref e0, .int 0]))] s.heap.size = A at hD hE ⊢
  have hA : ∀ q : Nat, s.heap.size ≤ q → A q := fun q h => by rw [← hAe]; exact Or.inr h
  have hS : va_S A s.heap s.heap [] := va_S.rf
  have hP : va_P (dC, dI) vwCl [(mo, .inr (15, [.int th, .ref (lm 0), .ref (lm 1), .ref (lm 2), .ref (lm 3), .ref (lm 4), .int 0, .int 0])), ((lm 0), .inr (2, [.int 0, .ref e0, .int 0])), ((lm 1), .inr (2, [.int 0, .ref e0, .int 0])), ((lm 2), .inr (2, [.int 0, .ref e0, .int 0])), ((lm 3), .inr (2, [.int 0, .ref e0, .int 0])), ((lm 4), .inr (2, [.int 0, .ref e0, .int 0]))] s.heap := hP
  have hl := lv_entry ([.ref mo, .int 1]) (n := 2) (Nat.le_of_ble_eq_true rfl)
  rw [lg_entry_eq]
  generalize (lg_sl ([.ref mo, .int 1]) ++ List.replicate (2 - (lg_sl ([.ref mo, .int 1])).length) Slot.unset).toArray = ls at hl ⊢
  have hl : lv_has ls 2 [(0, .ref mo), (1, .int 1)] := hl
  refine lv_aload_n hx hb dX12_isWrong_0 rfl (lv_at hl 0 rfl) ?_
  refine lv_iload_n hx hb dX12_isWrong_1 rfl (lv_at hl 1 rfl) ?_
  refine va_put (D := (dC, dI)) (ci := 15) (v := .int 1) (ty := .int) (C := RX12) (T := TX12) (N := 8) hx hb hts (fun w h => List.mem_cons_of_mem _ (List.mem_append_right _ (h))) tyX12 tyX12_ok nmX12 hown hK hP hD hS 0 rfl rfl 0 (by decide) (hts (.fieldLink RX12 28 "SpotbeatModel" "thrown" "I") (by decide +kernel)) (fun _ h9 => h9) rfl (by decide +kernel) rfl rfl (Nat.le_of_ble_eq_true rfl) dX12_isWrong_2 (fun H locs hP hD hS => ?_)
  have hP : va_P (dC, dI) vwCl [(mo, .inr (15, [.int 1, .ref (lm 0), .ref (lm 1), .ref (lm 2), .ref (lm 3), .ref (lm 4), .int 0, .int 0])), ((lm 0), .inr (2, [.int 0, .ref e0, .int 0])), ((lm 1), .inr (2, [.int 0, .ref e0, .int 0])), ((lm 2), .inr (2, [.int 0, .ref e0, .int 0])), ((lm 3), .inr (2, [.int 0, .ref e0, .int 0])), ((lm 4), .inr (2, [.int 0, .ref e0, .int 0]))] H := hP
  have hD : va_D A [(mo, .inr (15, [.int 1, .ref (lm 0), .ref (lm 1), .ref (lm 2), .ref (lm 3), .ref (lm 4), .int 0, .int 0])), ((lm 0), .inr (2, [.int 0, .ref e0, .int 0])), ((lm 1), .inr (2, [.int 0, .ref e0, .int 0])), ((lm 2), .inr (2, [.int 0, .ref e0, .int 0])), ((lm 3), .inr (2, [.int 0, .ref e0, .int 0])), ((lm 4), .inr (2, [.int 0, .ref e0, .int 0]))] := hD
  refine lv_iload_n hx hb dX12_isWrong_5 rfl (lv_at hl 1 rfl) ?_
  refine lv_if_le (tgt := 13) hx hb dX12_isWrong_6 (by decide) (fun c_1 => absurd c_1 (by decide)) (fun _ => ?_)
  refine lv_iconst (v := 1) hx hb dX12_isWrong_9 (by decide) ?_
  refine lv_goto (tgt := 14) hx hb dX12_isWrong_10 (by decide) ?_
  have hP9 := hP.sub (ws' := [(mo, .inr (15, [.int 1, .ref (lm 0), .ref (lm 1), .ref (lm 2), .ref (lm 3), .ref (lm 4), .int 0, .int 0])), ((lm 0), .inr (2, [.int 0, .ref e0, .int 0])), ((lm 1), .inr (2, [.int 0, .ref e0, .int 0])), ((lm 2), .inr (2, [.int 0, .ref e0, .int 0])), ((lm 3), .inr (2, [.int 0, .ref e0, .int 0])), ((lm 4), .inr (2, [.int 0, .ref e0, .int 0]))]) [0, 1, 2, 3, 4, 5] rfl
  have hD9 := hD.sub (ws' := [(mo, .inr (15, [.int 1, .ref (lm 0), .ref (lm 1), .ref (lm 2), .ref (lm 3), .ref (lm 4), .int 0, .int 0])), ((lm 0), .inr (2, [.int 0, .ref e0, .int 0])), ((lm 1), .inr (2, [.int 0, .ref e0, .int 0])), ((lm 2), .inr (2, [.int 0, .ref e0, .int 0])), ((lm 3), .inr (2, [.int 0, .ref e0, .int 0])), ((lm 4), .inr (2, [.int 0, .ref e0, .int 0]))]) [0, 1, 2, 3, 4, 5] (by decide) rfl
  have hK9 := hK.sub (tys' := []) [] rfl
  refine W.widen (k := 0) (n := 0) (Nat.le_of_ble_eq_true rfl) (Nat.le_of_ble_eq_true rfl) ?_
  exact W.zret (v := 1) hx hb hr (by decide +kernel) (fun t ht hW => ⟨⟨1, 1, rfl, ⟨rfl, rfl⟩, by rw [ht]; exact hP9, va_K.moved hW.alike hK9, hD9⟩, hS.F ht⟩) hS.2.2 dX12_isWrong_14

def zwX12_isNoProgram : List Cond := .code yX12_isNoProgram cX12_isNoProgram 3 (some .boolean) :: (([.fieldLink RX12 22 "SpotbeatModel" "robots" "Ljava/util/List;", .methodLink RX12 46 yX12_isOf, .static yX12_isOf, .initialized RX12, .methodLink RX12 50 yX12_isWrong, .instanceMethod yX12_isWrong, .selects RX12 yX12_isWrong yX12_isWrong] : List Cond) ++ (wsX120 ++ (zwX12_isOf ++ (zwX12_isWrong_1))))
theorem zgX12_isNoProgram : zwX12_isNoProgram.all goodWord = true := zgo rfl (zga (by decide +kernel) (zga zgcX12 (zga zgX12_isOf (zgX12_isWrong_1))))
set_option maxHeartbeats 4000000 in
set_option maxRecDepth 100000 in
theorem c_X12_isNoProgram (l : Launch) (dC : Nat → ClassId) (dI : Nat → Nat → Nat) (sz : Nat) (mo : Nat) (lm : Nat → Nat) (e0 : Nat) (th : Int32) (a : Int32) (b : Int32) : Met l yX12_isNoProgram zwX12_isNoProgram ({ frames := 2, cells := 0, slots := 0, locals := 43 }) (gPcE dC dI sz [(mo, .inr (15, [.int th, .ref (lm 0), .ref (lm 1), .ref (lm 2), .ref (lm 3), .ref (lm 4), .int 0, .int 0])), ((lm 0), .inr (2, [.int 0, .ref e0, .int 0])), ((lm 1), .inr (2, [.int 0, .ref e0, .int 0])), ((lm 2), .inr (2, [.int 0, .ref e0, .int 0])), ((lm 3), .inr (2, [.int 0, .ref e0, .int 0])), ((lm 4), .inr (2, [.int 0, .ref e0, .int 0]))] [] [.ref mo, .int a, .int b]) (va_Qi (fun (r : Int32) (u : Int32) => r = 1 ∧ u = 1) (fun u t => va_P (dC, dI) vwCl [(mo, .inr (15, [.int u, .ref (lm 0), .ref (lm 1), .ref (lm 2), .ref (lm 3), .ref (lm 4), .int 0, .int 0])), ((lm 0), .inr (2, [.int 0, .ref e0, .int 0])), ((lm 1), .inr (2, [.int 0, .ref e0, .int 0])), ((lm 2), .inr (2, [.int 0, .ref e0, .int 0])), ((lm 3), .inr (2, [.int 0, .ref e0, .int 0])), ((lm 4), .inr (2, [.int 0, .ref e0, .int 0]))] t.heap ∧ va_K (dC, dI) vwCl [] t ∧ va_D (va_A [(mo, .inr (15, [.int th, .ref (lm 0), .ref (lm 1), .ref (lm 2), .ref (lm 3), .ref (lm 4), .int 0, .int 0])), ((lm 0), .inr (2, [.int 0, .ref e0, .int 0])), ((lm 1), .inr (2, [.int 0, .ref e0, .int 0])), ((lm 2), .inr (2, [.int 0, .ref e0, .int 0])), ((lm 3), .inr (2, [.int 0, .ref e0, .int 0])), ((lm 4), .inr (2, [.int 0, .ref e0, .int 0]))] sz) [(mo, .inr (15, [.int u, .ref (lm 0), .ref (lm 1), .ref (lm 2), .ref (lm 3), .ref (lm 4), .int 0, .int 0])), ((lm 0), .inr (2, [.int 0, .ref e0, .int 0])), ((lm 1), .inr (2, [.int 0, .ref e0, .int 0])), ((lm 2), .inr (2, [.int 0, .ref e0, .int 0])), ((lm 3), .inr (2, [.int 0, .ref e0, .int 0])), ((lm 4), .inr (2, [.int 0, .ref e0, .int 0]))]) (va_A [(mo, .inr (15, [.int th, .ref (lm 0), .ref (lm 1), .ref (lm 2), .ref (lm 3), .ref (lm 4), .int 0, .int 0])), ((lm 0), .inr (2, [.int 0, .ref e0, .int 0])), ((lm 1), .inr (2, [.int 0, .ref e0, .int 0])), ((lm 2), .inr (2, [.int 0, .ref e0, .int 0])), ((lm 3), .inr (2, [.int 0, .ref e0, .int 0])), ((lm 4), .inr (2, [.int 0, .ref e0, .int 0]))] sz)) 0 0 (va_A [(mo, .inr (15, [.int th, .ref (lm 0), .ref (lm 1), .ref (lm 2), .ref (lm 3), .ref (lm 4), .int 0, .int 0])), ((lm 0), .inr (2, [.int 0, .ref e0, .int 0])), ((lm 1), .inr (2, [.int 0, .ref e0, .int 0])), ((lm 2), .inr (2, [.int 0, .ref e0, .int 0])), ((lm 3), .inr (2, [.int 0, .ref e0, .int 0])), ((lm 4), .inr (2, [.int 0, .ref e0, .int 0]))] sz) := by
  refine Met.ofW (cc := cX12_isNoProgram) (maxL := 3) (ret := (some .boolean)) (by decide) rfl ?_
  intro p e s m args below meth c s₁ B hml hv
  obtain ⟨rfl, hsz, hP, hK, hD0, hE⟩ := hv
  have hx := B.exec
  have hb := B.bytes
  have hr := B.returns
  have hts := atoms_spec (ws := zwX12_isNoProgram) B.pre
  have hown : s.vm.findClass RX12 = some m.cls := findClass_of_methodNamed B.named
  have hlocks := B.notSynchronized
  subst hsz
  have hD := hD0.self (sz := s.heap.size)
  generalize hAe : va_A [(mo, .inr (15, [.int th, .ref (lm 0), .ref (lm 1), .ref (lm 2), .ref (lm 3), .ref (lm 4), .int 0, .int 0])), ((lm 0), .inr (2, [.int 0, .ref e0, .int 0])), ((lm 1), .inr (2, [.int 0, .ref e0, .int 0])), ((lm 2), .inr (2, [.int 0, .ref e0, .int 0])), ((lm 3), .inr (2, [.int 0, .ref e0, .int 0])), ((lm 4), .inr (2, [.int 0, .ref e0, .int 0]))] s.heap.size = A at hD hE ⊢
  have hA : ∀ q : Nat, s.heap.size ≤ q → A q := fun q h => by rw [← hAe]; exact Or.inr h
  have hS : va_S A s.heap s.heap [] := va_S.rf
  have hP : va_P (dC, dI) vwCl [(mo, .inr (15, [.int th, .ref (lm 0), .ref (lm 1), .ref (lm 2), .ref (lm 3), .ref (lm 4), .int 0, .int 0])), ((lm 0), .inr (2, [.int 0, .ref e0, .int 0])), ((lm 1), .inr (2, [.int 0, .ref e0, .int 0])), ((lm 2), .inr (2, [.int 0, .ref e0, .int 0])), ((lm 3), .inr (2, [.int 0, .ref e0, .int 0])), ((lm 4), .inr (2, [.int 0, .ref e0, .int 0]))] s.heap := hP
  have hl := lv_entry ([.ref mo, .int a, .int b]) (n := 3) (Nat.le_of_ble_eq_true rfl)
  rw [lg_entry_eq]
  generalize (lg_sl ([.ref mo, .int a, .int b]) ++ List.replicate (3 - (lg_sl ([.ref mo, .int a, .int b])).length) Slot.unset).toArray = ls at hl ⊢
  have hl : lv_has ls 3 [(0, .ref mo), (1, .int a), (2, .int b)] := hl
  refine lv_aload_n hx hb dX12_isNoProgram_0 rfl (lv_at hl 0 rfl) ?_
  refine lv_aload_n hx hb dX12_isNoProgram_1 rfl (lv_at hl 0 rfl) ?_
  refine va_get (D := (dC, dI)) (ci := 15) (v := .ref (lm 3)) (C := RX12) (T := TX12) (N := 8) hx hb hts (fun w h => List.mem_cons_of_mem _ (List.mem_append_right _ (List.mem_append_left _ h))) hown hK hP 0 rfl rfl 4 (by decide) (hts (.fieldLink RX12 22 "SpotbeatModel" "robots" "Ljava/util/List;") (by decide +kernel)) (fun _ h9 => h9) rfl dX12_isNoProgram_2 ?_
  refine lv_iload_n hx hb dX12_isNoProgram_5 rfl (lv_at hl 1 rfl) ?_
  have hPc := hP.sub (ws' := [((lm 3), .inr (2, [.int 0, .ref e0, .int 0]))]) [4] rfl
  have hDc := hD.sub (ws' := [((lm 3), .inr (2, [.int 0, .ref e0, .int 0]))]) [4] (by decide) rfl
  have hKc := hK.sub (tys' := []) [] rfl
  have hFc := va_free (wc := [((lm 3), .inr (2, [.int 0, .ref e0, .int 0]))]) hD hS hA [4] rfl
  refine va_calli (va_runS (As := [.ref (lm 3), .int a]) (rest := [.ref mo]) ⟨hx, hb, hml, hown, hts⟩ (c_X12_isOf l dC dI s.heap.size e0 (lm 3) a) (va_cwS 2 hts (goodIn_app (goodIn_of _ (by decide +kernel)) (goodIn_sub ((fun w h => List.mem_cons_of_mem _ (List.mem_append_right _ (List.mem_append_right _ (List.mem_append_left _ h))))) zgX12_isOf)) rfl rfl rfl (by decide +kernel) ⟨Nat.le_of_ble_eq_true rfl, Nat.le_of_ble_eq_true rfl⟩) ⟨gPcE_blind, gPcE_pass hPc hKc hDc hE hS hFc⟩ rfl rfl hl.1 rfl (lv_room (Nat.le_of_ble_eq_true rfl)) dX12_isNoProgram_6 ⟨Nat.le_of_ble_eq_true rfl, Nat.le_of_ble_eq_true rfl⟩) hS (fun q _ h => hFc q h) hFc (fun r_1 u_2 t H locs ht hvm hw hB hz hk hS => ?_)
  obtain ⟨hP1, hK1, hD1⟩ := hB
  rw [ht] at hP1
  obtain ⟨hP, hD⟩ := va_join (wr := [(mo, .inr (15, [.int th, .ref (lm 0), .ref (lm 1), .ref (lm 2), .ref (lm 3), .ref (lm 4), .int 0, .int 0])), ((lm 0), .inr (2, [.int 0, .ref e0, .int 0])), ((lm 1), .inr (2, [.int 0, .ref e0, .int 0])), ((lm 2), .inr (2, [.int 0, .ref e0, .int 0])), ((lm 4), .inr (2, [.int 0, .ref e0, .int 0]))]) (w1 := [((lm 3), .inr (2, [.int 0, .ref e0, .int 0]))]) hP hD [4] [0, 1, 2, 3, 5] rfl rfl (by decide) (by decide) hk hFc hP1 hD1
  have hP : va_P (dC, dI) vwCl [(mo, .inr (15, [.int th, .ref (lm 0), .ref (lm 1), .ref (lm 2), .ref (lm 3), .ref (lm 4), .int 0, .int 0])), ((lm 0), .inr (2, [.int 0, .ref e0, .int 0])), ((lm 1), .inr (2, [.int 0, .ref e0, .int 0])), ((lm 2), .inr (2, [.int 0, .ref e0, .int 0])), ((lm 4), .inr (2, [.int 0, .ref e0, .int 0])), ((lm 3), .inr (2, [.int 0, .ref e0, .int 0]))] H := hP
  have hD : va_D A [(mo, .inr (15, [.int th, .ref (lm 0), .ref (lm 1), .ref (lm 2), .ref (lm 3), .ref (lm 4), .int 0, .int 0])), ((lm 0), .inr (2, [.int 0, .ref e0, .int 0])), ((lm 1), .inr (2, [.int 0, .ref e0, .int 0])), ((lm 2), .inr (2, [.int 0, .ref e0, .int 0])), ((lm 4), .inr (2, [.int 0, .ref e0, .int 0])), ((lm 3), .inr (2, [.int 0, .ref e0, .int 0]))] := hD
  have hw : r_1 = 0 := hw
  subst hw
  refine lv_if_eq (tgt := 23) hx hb dX12_isNoProgram_9 (by decide) (fun _ => ?_) (fun c_3 => absurd c_3 (by decide))
  refine lv_iconst (v := 1) hx hb dX12_isNoProgram_23 (by decide) ?_
  have hPc := hP.sub (ws' := [(mo, .inr (15, [.int th, .ref (lm 0), .ref (lm 1), .ref (lm 2), .ref (lm 3), .ref (lm 4), .int 0, .int 0])), ((lm 0), .inr (2, [.int 0, .ref e0, .int 0])), ((lm 1), .inr (2, [.int 0, .ref e0, .int 0])), ((lm 2), .inr (2, [.int 0, .ref e0, .int 0])), ((lm 3), .inr (2, [.int 0, .ref e0, .int 0])), ((lm 4), .inr (2, [.int 0, .ref e0, .int 0]))]) [0, 1, 2, 3, 5, 4] rfl
  have hDc := hD.sub (ws' := [(mo, .inr (15, [.int th, .ref (lm 0), .ref (lm 1), .ref (lm 2), .ref (lm 3), .ref (lm 4), .int 0, .int 0])), ((lm 0), .inr (2, [.int 0, .ref e0, .int 0])), ((lm 1), .inr (2, [.int 0, .ref e0, .int 0])), ((lm 2), .inr (2, [.int 0, .ref e0, .int 0])), ((lm 3), .inr (2, [.int 0, .ref e0, .int 0])), ((lm 4), .inr (2, [.int 0, .ref e0, .int 0]))]) [0, 1, 2, 3, 5, 4] (by decide) rfl
  have hKc := hK.sub (tys' := []) [] rfl
  have hFc := va_free (wc := [(mo, .inr (15, [.int th, .ref (lm 0), .ref (lm 1), .ref (lm 2), .ref (lm 3), .ref (lm 4), .int 0, .int 0])), ((lm 0), .inr (2, [.int 0, .ref e0, .int 0])), ((lm 1), .inr (2, [.int 0, .ref e0, .int 0])), ((lm 2), .inr (2, [.int 0, .ref e0, .int 0])), ((lm 3), .inr (2, [.int 0, .ref e0, .int 0])), ((lm 4), .inr (2, [.int 0, .ref e0, .int 0]))]) hD hS hA [0, 1, 2, 3, 5, 4] rfl
  refine va_calli (va_runV (As := [.int 1]) (rest := []) ⟨hx, hb, hml, hown, hts⟩ (c_X12_isWrong_1 l dC dI H.size mo lm e0 th) (cwV 1 hts (goodIn_app (goodIn_of _ (by decide +kernel)) (goodIn_sub ((fun w h => List.mem_cons_of_mem _ (List.mem_append_right _ (List.mem_append_right _ (List.mem_append_right _ (h)))))) zgX12_isWrong_1)) rfl rfl rfl (by decide +kernel) ⟨Nat.le_of_ble_eq_true rfl, Nat.le_of_ble_eq_true rfl⟩) ⟨gPcE_blind, va_recv hK hP (ci := 15) (q0 := 0) rfl rfl, gPcE_pass hPc hKc hDc hE hS hFc⟩ rfl rfl hl.1 rfl (lv_room (Nat.le_of_ble_eq_true rfl)) dX12_isNoProgram_24 ⟨Nat.le_of_ble_eq_true rfl, Nat.le_of_ble_eq_true rfl⟩) hS (fun q _ h => hFc q h) hFc (fun r_4 u_5 t H locs ht hvm hw hB hz hk hS => ?_)
  obtain ⟨hP1, hK1, hD1⟩ := hB
  rw [ht] at hP1
  obtain ⟨hP, hD⟩ := va_join (wr := []) (w1 := [(mo, .inr (15, [.int u_5, .ref (lm 0), .ref (lm 1), .ref (lm 2), .ref (lm 3), .ref (lm 4), .int 0, .int 0])), ((lm 0), .inr (2, [.int 0, .ref e0, .int 0])), ((lm 1), .inr (2, [.int 0, .ref e0, .int 0])), ((lm 2), .inr (2, [.int 0, .ref e0, .int 0])), ((lm 3), .inr (2, [.int 0, .ref e0, .int 0])), ((lm 4), .inr (2, [.int 0, .ref e0, .int 0]))]) hP hD [0, 1, 2, 3, 5, 4] [] rfl rfl (by decide) (by decide) hk hFc hP1 hD1
  have hP : va_P (dC, dI) vwCl [(mo, .inr (15, [.int u_5, .ref (lm 0), .ref (lm 1), .ref (lm 2), .ref (lm 3), .ref (lm 4), .int 0, .int 0])), ((lm 0), .inr (2, [.int 0, .ref e0, .int 0])), ((lm 1), .inr (2, [.int 0, .ref e0, .int 0])), ((lm 2), .inr (2, [.int 0, .ref e0, .int 0])), ((lm 3), .inr (2, [.int 0, .ref e0, .int 0])), ((lm 4), .inr (2, [.int 0, .ref e0, .int 0]))] H := hP
  have hD : va_D A [(mo, .inr (15, [.int u_5, .ref (lm 0), .ref (lm 1), .ref (lm 2), .ref (lm 3), .ref (lm 4), .int 0, .int 0])), ((lm 0), .inr (2, [.int 0, .ref e0, .int 0])), ((lm 1), .inr (2, [.int 0, .ref e0, .int 0])), ((lm 2), .inr (2, [.int 0, .ref e0, .int 0])), ((lm 3), .inr (2, [.int 0, .ref e0, .int 0])), ((lm 4), .inr (2, [.int 0, .ref e0, .int 0]))] := hD
  have hw : r_4 = 1 ∧ u_5 = 1 := hw
  obtain ⟨rfl, rfl⟩ : r_4 = 1 ∧ u_5 = 1 := hw
  have hP9 := hP.sub (ws' := [(mo, .inr (15, [.int 1, .ref (lm 0), .ref (lm 1), .ref (lm 2), .ref (lm 3), .ref (lm 4), .int 0, .int 0])), ((lm 0), .inr (2, [.int 0, .ref e0, .int 0])), ((lm 1), .inr (2, [.int 0, .ref e0, .int 0])), ((lm 2), .inr (2, [.int 0, .ref e0, .int 0])), ((lm 3), .inr (2, [.int 0, .ref e0, .int 0])), ((lm 4), .inr (2, [.int 0, .ref e0, .int 0]))]) [0, 1, 2, 3, 4, 5] rfl
  have hD9 := hD.sub (ws' := [(mo, .inr (15, [.int 1, .ref (lm 0), .ref (lm 1), .ref (lm 2), .ref (lm 3), .ref (lm 4), .int 0, .int 0])), ((lm 0), .inr (2, [.int 0, .ref e0, .int 0])), ((lm 1), .inr (2, [.int 0, .ref e0, .int 0])), ((lm 2), .inr (2, [.int 0, .ref e0, .int 0])), ((lm 3), .inr (2, [.int 0, .ref e0, .int 0])), ((lm 4), .inr (2, [.int 0, .ref e0, .int 0]))]) [0, 1, 2, 3, 4, 5] (by decide) rfl
  have hK9 := hK.sub (tys' := []) [] rfl
  refine W.widen (k := 0) (n := 0) (Nat.le_of_ble_eq_true rfl) (Nat.le_of_ble_eq_true rfl) ?_
  exact W.zret (v := 1) hx hb hr (by decide +kernel) (fun t ht hW => ⟨⟨1, 1, rfl, ⟨rfl, rfl⟩, by rw [ht]; exact hP9, va_K.moved hW.alike hK9, hD9⟩, hS.F ht⟩) hS.2.2 dX12_isNoProgram_27

def zwX12_isNoStation : List Cond := .code yX12_isNoStation cX12_isNoStation 3 (some .boolean) :: (([.fieldLink RX12 19 "SpotbeatModel" "stations" "Ljava/util/List;", .methodLink RX12 46 yX12_isOf, .static yX12_isOf, .initialized RX12, .methodLink RX12 50 yX12_isWrong, .instanceMethod yX12_isWrong, .selects RX12 yX12_isWrong yX12_isWrong] : List Cond) ++ (wsX120 ++ (zwX12_isOf ++ (zwX12_isWrong_1))))
theorem zgX12_isNoStation : zwX12_isNoStation.all goodWord = true := zgo rfl (zga (by decide +kernel) (zga zgcX12 (zga zgX12_isOf (zgX12_isWrong_1))))
set_option maxHeartbeats 4000000 in
set_option maxRecDepth 100000 in
theorem c_X12_isNoStation (l : Launch) (dC : Nat → ClassId) (dI : Nat → Nat → Nat) (sz : Nat) (mo : Nat) (lm : Nat → Nat) (e0 : Nat) (th : Int32) (a : Int32) (b : Int32) : Met l yX12_isNoStation zwX12_isNoStation ({ frames := 2, cells := 0, slots := 0, locals := 43 }) (gPcE dC dI sz [(mo, .inr (15, [.int th, .ref (lm 0), .ref (lm 1), .ref (lm 2), .ref (lm 3), .ref (lm 4), .int 0, .int 0])), ((lm 0), .inr (2, [.int 0, .ref e0, .int 0])), ((lm 1), .inr (2, [.int 0, .ref e0, .int 0])), ((lm 2), .inr (2, [.int 0, .ref e0, .int 0])), ((lm 3), .inr (2, [.int 0, .ref e0, .int 0])), ((lm 4), .inr (2, [.int 0, .ref e0, .int 0]))] [] [.ref mo, .int a, .int b]) (va_Qi (fun (r : Int32) (u : Int32) => r = 1 ∧ u = 1) (fun u t => va_P (dC, dI) vwCl [(mo, .inr (15, [.int u, .ref (lm 0), .ref (lm 1), .ref (lm 2), .ref (lm 3), .ref (lm 4), .int 0, .int 0])), ((lm 0), .inr (2, [.int 0, .ref e0, .int 0])), ((lm 1), .inr (2, [.int 0, .ref e0, .int 0])), ((lm 2), .inr (2, [.int 0, .ref e0, .int 0])), ((lm 3), .inr (2, [.int 0, .ref e0, .int 0])), ((lm 4), .inr (2, [.int 0, .ref e0, .int 0]))] t.heap ∧ va_K (dC, dI) vwCl [] t ∧ va_D (va_A [(mo, .inr (15, [.int th, .ref (lm 0), .ref (lm 1), .ref (lm 2), .ref (lm 3), .ref (lm 4), .int 0, .int 0])), ((lm 0), .inr (2, [.int 0, .ref e0, .int 0])), ((lm 1), .inr (2, [.int 0, .ref e0, .int 0])), ((lm 2), .inr (2, [.int 0, .ref e0, .int 0])), ((lm 3), .inr (2, [.int 0, .ref e0, .int 0])), ((lm 4), .inr (2, [.int 0, .ref e0, .int 0]))] sz) [(mo, .inr (15, [.int u, .ref (lm 0), .ref (lm 1), .ref (lm 2), .ref (lm 3), .ref (lm 4), .int 0, .int 0])), ((lm 0), .inr (2, [.int 0, .ref e0, .int 0])), ((lm 1), .inr (2, [.int 0, .ref e0, .int 0])), ((lm 2), .inr (2, [.int 0, .ref e0, .int 0])), ((lm 3), .inr (2, [.int 0, .ref e0, .int 0])), ((lm 4), .inr (2, [.int 0, .ref e0, .int 0]))]) (va_A [(mo, .inr (15, [.int th, .ref (lm 0), .ref (lm 1), .ref (lm 2), .ref (lm 3), .ref (lm 4), .int 0, .int 0])), ((lm 0), .inr (2, [.int 0, .ref e0, .int 0])), ((lm 1), .inr (2, [.int 0, .ref e0, .int 0])), ((lm 2), .inr (2, [.int 0, .ref e0, .int 0])), ((lm 3), .inr (2, [.int 0, .ref e0, .int 0])), ((lm 4), .inr (2, [.int 0, .ref e0, .int 0]))] sz)) 0 0 (va_A [(mo, .inr (15, [.int th, .ref (lm 0), .ref (lm 1), .ref (lm 2), .ref (lm 3), .ref (lm 4), .int 0, .int 0])), ((lm 0), .inr (2, [.int 0, .ref e0, .int 0])), ((lm 1), .inr (2, [.int 0, .ref e0, .int 0])), ((lm 2), .inr (2, [.int 0, .ref e0, .int 0])), ((lm 3), .inr (2, [.int 0, .ref e0, .int 0])), ((lm 4), .inr (2, [.int 0, .ref e0, .int 0]))] sz) := by
  refine Met.ofW (cc := cX12_isNoStation) (maxL := 3) (ret := (some .boolean)) (by decide) rfl ?_
  intro p e s m args below meth c s₁ B hml hv
  obtain ⟨rfl, hsz, hP, hK, hD0, hE⟩ := hv
  have hx := B.exec
  have hb := B.bytes
  have hr := B.returns
  have hts := atoms_spec (ws := zwX12_isNoStation) B.pre
  have hown : s.vm.findClass RX12 = some m.cls := findClass_of_methodNamed B.named
  have hlocks := B.notSynchronized
  subst hsz
  have hD := hD0.self (sz := s.heap.size)
  generalize hAe : va_A [(mo, .inr (15, [.int th, .ref (lm 0), .ref (lm 1), .ref (lm 2), .ref (lm 3), .ref (lm 4), .int 0, .int 0])), ((lm 0), .inr (2, [.int 0, .ref e0, .int 0])), ((lm 1), .inr (2, [.int 0, .ref e0, .int 0])), ((lm 2), .inr (2, [.int 0, .ref e0, .int 0])), ((lm 3), .inr (2, [.int 0, .ref e0, .int 0])), ((lm 4), .inr (2, [.int 0, .ref e0, .int 0]))] s.heap.size = A at hD hE ⊢
  have hA : ∀ q : Nat, s.heap.size ≤ q → A q := fun q h => by rw [← hAe]; exact Or.inr h
  have hS : va_S A s.heap s.heap [] := va_S.rf
  have hP : va_P (dC, dI) vwCl [(mo, .inr (15, [.int th, .ref (lm 0), .ref (lm 1), .ref (lm 2), .ref (lm 3), .ref (lm 4), .int 0, .int 0])), ((lm 0), .inr (2, [.int 0, .ref e0, .int 0])), ((lm 1), .inr (2, [.int 0, .ref e0, .int 0])), ((lm 2), .inr (2, [.int 0, .ref e0, .int 0])), ((lm 3), .inr (2, [.int 0, .ref e0, .int 0])), ((lm 4), .inr (2, [.int 0, .ref e0, .int 0]))] s.heap := hP
  have hl := lv_entry ([.ref mo, .int a, .int b]) (n := 3) (Nat.le_of_ble_eq_true rfl)
  rw [lg_entry_eq]
  generalize (lg_sl ([.ref mo, .int a, .int b]) ++ List.replicate (3 - (lg_sl ([.ref mo, .int a, .int b])).length) Slot.unset).toArray = ls at hl ⊢
  have hl : lv_has ls 3 [(0, .ref mo), (1, .int a), (2, .int b)] := hl
  refine lv_aload_n hx hb dX12_isNoStation_0 rfl (lv_at hl 0 rfl) ?_
  refine lv_aload_n hx hb dX12_isNoStation_1 rfl (lv_at hl 0 rfl) ?_
  refine va_get (D := (dC, dI)) (ci := 15) (v := .ref (lm 2)) (C := RX12) (T := TX12) (N := 8) hx hb hts (fun w h => List.mem_cons_of_mem _ (List.mem_append_right _ (List.mem_append_left _ h))) hown hK hP 0 rfl rfl 3 (by decide) (hts (.fieldLink RX12 19 "SpotbeatModel" "stations" "Ljava/util/List;") (by decide +kernel)) (fun _ h9 => h9) rfl dX12_isNoStation_2 ?_
  refine lv_iload_n hx hb dX12_isNoStation_5 rfl (lv_at hl 1 rfl) ?_
  have hPc := hP.sub (ws' := [((lm 2), .inr (2, [.int 0, .ref e0, .int 0]))]) [3] rfl
  have hDc := hD.sub (ws' := [((lm 2), .inr (2, [.int 0, .ref e0, .int 0]))]) [3] (by decide) rfl
  have hKc := hK.sub (tys' := []) [] rfl
  have hFc := va_free (wc := [((lm 2), .inr (2, [.int 0, .ref e0, .int 0]))]) hD hS hA [3] rfl
  refine va_calli (va_runS (As := [.ref (lm 2), .int a]) (rest := [.ref mo]) ⟨hx, hb, hml, hown, hts⟩ (c_X12_isOf l dC dI s.heap.size e0 (lm 2) a) (va_cwS 2 hts (goodIn_app (goodIn_of _ (by decide +kernel)) (goodIn_sub ((fun w h => List.mem_cons_of_mem _ (List.mem_append_right _ (List.mem_append_right _ (List.mem_append_left _ h))))) zgX12_isOf)) rfl rfl rfl (by decide +kernel) ⟨Nat.le_of_ble_eq_true rfl, Nat.le_of_ble_eq_true rfl⟩) ⟨gPcE_blind, gPcE_pass hPc hKc hDc hE hS hFc⟩ rfl rfl hl.1 rfl (lv_room (Nat.le_of_ble_eq_true rfl)) dX12_isNoStation_6 ⟨Nat.le_of_ble_eq_true rfl, Nat.le_of_ble_eq_true rfl⟩) hS (fun q _ h => hFc q h) hFc (fun r_1 u_2 t H locs ht hvm hw hB hz hk hS => ?_)
  obtain ⟨hP1, hK1, hD1⟩ := hB
  rw [ht] at hP1
  obtain ⟨hP, hD⟩ := va_join (wr := [(mo, .inr (15, [.int th, .ref (lm 0), .ref (lm 1), .ref (lm 2), .ref (lm 3), .ref (lm 4), .int 0, .int 0])), ((lm 0), .inr (2, [.int 0, .ref e0, .int 0])), ((lm 1), .inr (2, [.int 0, .ref e0, .int 0])), ((lm 3), .inr (2, [.int 0, .ref e0, .int 0])), ((lm 4), .inr (2, [.int 0, .ref e0, .int 0]))]) (w1 := [((lm 2), .inr (2, [.int 0, .ref e0, .int 0]))]) hP hD [3] [0, 1, 2, 4, 5] rfl rfl (by decide) (by decide) hk hFc hP1 hD1
  have hP : va_P (dC, dI) vwCl [(mo, .inr (15, [.int th, .ref (lm 0), .ref (lm 1), .ref (lm 2), .ref (lm 3), .ref (lm 4), .int 0, .int 0])), ((lm 0), .inr (2, [.int 0, .ref e0, .int 0])), ((lm 1), .inr (2, [.int 0, .ref e0, .int 0])), ((lm 3), .inr (2, [.int 0, .ref e0, .int 0])), ((lm 4), .inr (2, [.int 0, .ref e0, .int 0])), ((lm 2), .inr (2, [.int 0, .ref e0, .int 0]))] H := hP
  have hD : va_D A [(mo, .inr (15, [.int th, .ref (lm 0), .ref (lm 1), .ref (lm 2), .ref (lm 3), .ref (lm 4), .int 0, .int 0])), ((lm 0), .inr (2, [.int 0, .ref e0, .int 0])), ((lm 1), .inr (2, [.int 0, .ref e0, .int 0])), ((lm 3), .inr (2, [.int 0, .ref e0, .int 0])), ((lm 4), .inr (2, [.int 0, .ref e0, .int 0])), ((lm 2), .inr (2, [.int 0, .ref e0, .int 0]))] := hD
  have hw : r_1 = 0 := hw
  subst hw
  refine lv_if_eq (tgt := 23) hx hb dX12_isNoStation_9 (by decide) (fun _ => ?_) (fun c_3 => absurd c_3 (by decide))
  refine lv_iconst (v := 1) hx hb dX12_isNoStation_23 (by decide) ?_
  have hPc := hP.sub (ws' := [(mo, .inr (15, [.int th, .ref (lm 0), .ref (lm 1), .ref (lm 2), .ref (lm 3), .ref (lm 4), .int 0, .int 0])), ((lm 0), .inr (2, [.int 0, .ref e0, .int 0])), ((lm 1), .inr (2, [.int 0, .ref e0, .int 0])), ((lm 2), .inr (2, [.int 0, .ref e0, .int 0])), ((lm 3), .inr (2, [.int 0, .ref e0, .int 0])), ((lm 4), .inr (2, [.int 0, .ref e0, .int 0]))]) [0, 1, 2, 5, 3, 4] rfl
  have hDc := hD.sub (ws' := [(mo, .inr (15, [.int th, .ref (lm 0), .ref (lm 1), .ref (lm 2), .ref (lm 3), .ref (lm 4), .int 0, .int 0])), ((lm 0), .inr (2, [.int 0, .ref e0, .int 0])), ((lm 1), .inr (2, [.int 0, .ref e0, .int 0])), ((lm 2), .inr (2, [.int 0, .ref e0, .int 0])), ((lm 3), .inr (2, [.int 0, .ref e0, .int 0])), ((lm 4), .inr (2, [.int 0, .ref e0, .int 0]))]) [0, 1, 2, 5, 3, 4] (by decide) rfl
  have hKc := hK.sub (tys' := []) [] rfl
  have hFc := va_free (wc := [(mo, .inr (15, [.int th, .ref (lm 0), .ref (lm 1), .ref (lm 2), .ref (lm 3), .ref (lm 4), .int 0, .int 0])), ((lm 0), .inr (2, [.int 0, .ref e0, .int 0])), ((lm 1), .inr (2, [.int 0, .ref e0, .int 0])), ((lm 2), .inr (2, [.int 0, .ref e0, .int 0])), ((lm 3), .inr (2, [.int 0, .ref e0, .int 0])), ((lm 4), .inr (2, [.int 0, .ref e0, .int 0]))]) hD hS hA [0, 1, 2, 5, 3, 4] rfl
  refine va_calli (va_runV (As := [.int 1]) (rest := []) ⟨hx, hb, hml, hown, hts⟩ (c_X12_isWrong_1 l dC dI H.size mo lm e0 th) (cwV 1 hts (goodIn_app (goodIn_of _ (by decide +kernel)) (goodIn_sub ((fun w h => List.mem_cons_of_mem _ (List.mem_append_right _ (List.mem_append_right _ (List.mem_append_right _ (h)))))) zgX12_isWrong_1)) rfl rfl rfl (by decide +kernel) ⟨Nat.le_of_ble_eq_true rfl, Nat.le_of_ble_eq_true rfl⟩) ⟨gPcE_blind, va_recv hK hP (ci := 15) (q0 := 0) rfl rfl, gPcE_pass hPc hKc hDc hE hS hFc⟩ rfl rfl hl.1 rfl (lv_room (Nat.le_of_ble_eq_true rfl)) dX12_isNoStation_24 ⟨Nat.le_of_ble_eq_true rfl, Nat.le_of_ble_eq_true rfl⟩) hS (fun q _ h => hFc q h) hFc (fun r_4 u_5 t H locs ht hvm hw hB hz hk hS => ?_)
  obtain ⟨hP1, hK1, hD1⟩ := hB
  rw [ht] at hP1
  obtain ⟨hP, hD⟩ := va_join (wr := []) (w1 := [(mo, .inr (15, [.int u_5, .ref (lm 0), .ref (lm 1), .ref (lm 2), .ref (lm 3), .ref (lm 4), .int 0, .int 0])), ((lm 0), .inr (2, [.int 0, .ref e0, .int 0])), ((lm 1), .inr (2, [.int 0, .ref e0, .int 0])), ((lm 2), .inr (2, [.int 0, .ref e0, .int 0])), ((lm 3), .inr (2, [.int 0, .ref e0, .int 0])), ((lm 4), .inr (2, [.int 0, .ref e0, .int 0]))]) hP hD [0, 1, 2, 5, 3, 4] [] rfl rfl (by decide) (by decide) hk hFc hP1 hD1
  have hP : va_P (dC, dI) vwCl [(mo, .inr (15, [.int u_5, .ref (lm 0), .ref (lm 1), .ref (lm 2), .ref (lm 3), .ref (lm 4), .int 0, .int 0])), ((lm 0), .inr (2, [.int 0, .ref e0, .int 0])), ((lm 1), .inr (2, [.int 0, .ref e0, .int 0])), ((lm 2), .inr (2, [.int 0, .ref e0, .int 0])), ((lm 3), .inr (2, [.int 0, .ref e0, .int 0])), ((lm 4), .inr (2, [.int 0, .ref e0, .int 0]))] H := hP
  have hD : va_D A [(mo, .inr (15, [.int u_5, .ref (lm 0), .ref (lm 1), .ref (lm 2), .ref (lm 3), .ref (lm 4), .int 0, .int 0])), ((lm 0), .inr (2, [.int 0, .ref e0, .int 0])), ((lm 1), .inr (2, [.int 0, .ref e0, .int 0])), ((lm 2), .inr (2, [.int 0, .ref e0, .int 0])), ((lm 3), .inr (2, [.int 0, .ref e0, .int 0])), ((lm 4), .inr (2, [.int 0, .ref e0, .int 0]))] := hD
  have hw : r_4 = 1 ∧ u_5 = 1 := hw
  obtain ⟨rfl, rfl⟩ : r_4 = 1 ∧ u_5 = 1 := hw
  have hP9 := hP.sub (ws' := [(mo, .inr (15, [.int 1, .ref (lm 0), .ref (lm 1), .ref (lm 2), .ref (lm 3), .ref (lm 4), .int 0, .int 0])), ((lm 0), .inr (2, [.int 0, .ref e0, .int 0])), ((lm 1), .inr (2, [.int 0, .ref e0, .int 0])), ((lm 2), .inr (2, [.int 0, .ref e0, .int 0])), ((lm 3), .inr (2, [.int 0, .ref e0, .int 0])), ((lm 4), .inr (2, [.int 0, .ref e0, .int 0]))]) [0, 1, 2, 3, 4, 5] rfl
  have hD9 := hD.sub (ws' := [(mo, .inr (15, [.int 1, .ref (lm 0), .ref (lm 1), .ref (lm 2), .ref (lm 3), .ref (lm 4), .int 0, .int 0])), ((lm 0), .inr (2, [.int 0, .ref e0, .int 0])), ((lm 1), .inr (2, [.int 0, .ref e0, .int 0])), ((lm 2), .inr (2, [.int 0, .ref e0, .int 0])), ((lm 3), .inr (2, [.int 0, .ref e0, .int 0])), ((lm 4), .inr (2, [.int 0, .ref e0, .int 0]))]) [0, 1, 2, 3, 4, 5] (by decide) rfl
  have hK9 := hK.sub (tys' := []) [] rfl
  refine W.widen (k := 0) (n := 0) (Nat.le_of_ble_eq_true rfl) (Nat.le_of_ble_eq_true rfl) ?_
  exact W.zret (v := 1) hx hb hr (by decide +kernel) (fun t ht hW => ⟨⟨1, 1, rfl, ⟨rfl, rfl⟩, by rw [ht]; exact hP9, va_K.moved hW.alike hK9, hD9⟩, hS.F ht⟩) hS.2.2 dX12_isNoStation_27

def zwX12_isNoRobot : List Cond := .code yX12_isNoRobot cX12_isNoRobot 2 (some .boolean) :: (([.fieldLink RX12 22 "SpotbeatModel" "robots" "Ljava/util/List;", .methodLink RX12 46 yX12_isOf, .static yX12_isOf, .initialized RX12, .methodLink RX12 50 yX12_isWrong, .instanceMethod yX12_isWrong, .selects RX12 yX12_isWrong yX12_isWrong] : List Cond) ++ (wsX120 ++ (zwX12_isOf ++ (zwX12_isWrong_1))))
theorem zgX12_isNoRobot : zwX12_isNoRobot.all goodWord = true := zgo rfl (zga (by decide +kernel) (zga zgcX12 (zga zgX12_isOf (zgX12_isWrong_1))))
set_option maxHeartbeats 4000000 in
set_option maxRecDepth 100000 in
theorem c_X12_isNoRobot (l : Launch) (dC : Nat → ClassId) (dI : Nat → Nat → Nat) (sz : Nat) (mo : Nat) (lm : Nat → Nat) (e0 : Nat) (th : Int32) (a : Int32) : Met l yX12_isNoRobot zwX12_isNoRobot ({ frames := 2, cells := 0, slots := 0, locals := 43 }) (gPcE dC dI sz [(mo, .inr (15, [.int th, .ref (lm 0), .ref (lm 1), .ref (lm 2), .ref (lm 3), .ref (lm 4), .int 0, .int 0])), ((lm 0), .inr (2, [.int 0, .ref e0, .int 0])), ((lm 1), .inr (2, [.int 0, .ref e0, .int 0])), ((lm 2), .inr (2, [.int 0, .ref e0, .int 0])), ((lm 3), .inr (2, [.int 0, .ref e0, .int 0])), ((lm 4), .inr (2, [.int 0, .ref e0, .int 0]))] [] [.ref mo, .int a]) (va_Qi (fun (r : Int32) (u : Int32) => r = 1 ∧ u = 1) (fun u t => va_P (dC, dI) vwCl [(mo, .inr (15, [.int u, .ref (lm 0), .ref (lm 1), .ref (lm 2), .ref (lm 3), .ref (lm 4), .int 0, .int 0])), ((lm 0), .inr (2, [.int 0, .ref e0, .int 0])), ((lm 1), .inr (2, [.int 0, .ref e0, .int 0])), ((lm 2), .inr (2, [.int 0, .ref e0, .int 0])), ((lm 3), .inr (2, [.int 0, .ref e0, .int 0])), ((lm 4), .inr (2, [.int 0, .ref e0, .int 0]))] t.heap ∧ va_K (dC, dI) vwCl [] t ∧ va_D (va_A [(mo, .inr (15, [.int th, .ref (lm 0), .ref (lm 1), .ref (lm 2), .ref (lm 3), .ref (lm 4), .int 0, .int 0])), ((lm 0), .inr (2, [.int 0, .ref e0, .int 0])), ((lm 1), .inr (2, [.int 0, .ref e0, .int 0])), ((lm 2), .inr (2, [.int 0, .ref e0, .int 0])), ((lm 3), .inr (2, [.int 0, .ref e0, .int 0])), ((lm 4), .inr (2, [.int 0, .ref e0, .int 0]))] sz) [(mo, .inr (15, [.int u, .ref (lm 0), .ref (lm 1), .ref (lm 2), .ref (lm 3), .ref (lm 4), .int 0, .int 0])), ((lm 0), .inr (2, [.int 0, .ref e0, .int 0])), ((lm 1), .inr (2, [.int 0, .ref e0, .int 0])), ((lm 2), .inr (2, [.int 0, .ref e0, .int 0])), ((lm 3), .inr (2, [.int 0, .ref e0, .int 0])), ((lm 4), .inr (2, [.int 0, .ref e0, .int 0]))]) (va_A [(mo, .inr (15, [.int th, .ref (lm 0), .ref (lm 1), .ref (lm 2), .ref (lm 3), .ref (lm 4), .int 0, .int 0])), ((lm 0), .inr (2, [.int 0, .ref e0, .int 0])), ((lm 1), .inr (2, [.int 0, .ref e0, .int 0])), ((lm 2), .inr (2, [.int 0, .ref e0, .int 0])), ((lm 3), .inr (2, [.int 0, .ref e0, .int 0])), ((lm 4), .inr (2, [.int 0, .ref e0, .int 0]))] sz)) 0 0 (va_A [(mo, .inr (15, [.int th, .ref (lm 0), .ref (lm 1), .ref (lm 2), .ref (lm 3), .ref (lm 4), .int 0, .int 0])), ((lm 0), .inr (2, [.int 0, .ref e0, .int 0])), ((lm 1), .inr (2, [.int 0, .ref e0, .int 0])), ((lm 2), .inr (2, [.int 0, .ref e0, .int 0])), ((lm 3), .inr (2, [.int 0, .ref e0, .int 0])), ((lm 4), .inr (2, [.int 0, .ref e0, .int 0]))] sz) := by
  refine Met.ofW (cc := cX12_isNoRobot) (maxL := 2) (ret := (some .boolean)) (by decide) rfl ?_
  intro p e s m args below meth c s₁ B hml hv
  obtain ⟨rfl, hsz, hP, hK, hD0, hE⟩ := hv
  have hx := B.exec
  have hb := B.bytes
  have hr := B.returns
  have hts := atoms_spec (ws := zwX12_isNoRobot) B.pre
  have hown : s.vm.findClass RX12 = some m.cls := findClass_of_methodNamed B.named
  have hlocks := B.notSynchronized
  subst hsz
  have hD := hD0.self (sz := s.heap.size)
  generalize hAe : va_A [(mo, .inr (15, [.int th, .ref (lm 0), .ref (lm 1), .ref (lm 2), .ref (lm 3), .ref (lm 4), .int 0, .int 0])), ((lm 0), .inr (2, [.int 0, .ref e0, .int 0])), ((lm 1), .inr (2, [.int 0, .ref e0, .int 0])), ((lm 2), .inr (2, [.int 0, .ref e0, .int 0])), ((lm 3), .inr (2, [.int 0, .ref e0, .int 0])), ((lm 4), .inr (2, [.int 0, .ref e0, .int 0]))] s.heap.size = A at hD hE ⊢
  have hA : ∀ q : Nat, s.heap.size ≤ q → A q := fun q h => by rw [← hAe]; exact Or.inr h
  have hS : va_S A s.heap s.heap [] := va_S.rf
  have hP : va_P (dC, dI) vwCl [(mo, .inr (15, [.int th, .ref (lm 0), .ref (lm 1), .ref (lm 2), .ref (lm 3), .ref (lm 4), .int 0, .int 0])), ((lm 0), .inr (2, [.int 0, .ref e0, .int 0])), ((lm 1), .inr (2, [.int 0, .ref e0, .int 0])), ((lm 2), .inr (2, [.int 0, .ref e0, .int 0])), ((lm 3), .inr (2, [.int 0, .ref e0, .int 0])), ((lm 4), .inr (2, [.int 0, .ref e0, .int 0]))] s.heap := hP
  have hl := lv_entry ([.ref mo, .int a]) (n := 2) (Nat.le_of_ble_eq_true rfl)
  rw [lg_entry_eq]
  generalize (lg_sl ([.ref mo, .int a]) ++ List.replicate (2 - (lg_sl ([.ref mo, .int a])).length) Slot.unset).toArray = ls at hl ⊢
  have hl : lv_has ls 2 [(0, .ref mo), (1, .int a)] := hl
  refine lv_aload_n hx hb dX12_isNoRobot_0 rfl (lv_at hl 0 rfl) ?_
  refine lv_aload_n hx hb dX12_isNoRobot_1 rfl (lv_at hl 0 rfl) ?_
  refine va_get (D := (dC, dI)) (ci := 15) (v := .ref (lm 3)) (C := RX12) (T := TX12) (N := 8) hx hb hts (fun w h => List.mem_cons_of_mem _ (List.mem_append_right _ (List.mem_append_left _ h))) hown hK hP 0 rfl rfl 4 (by decide) (hts (.fieldLink RX12 22 "SpotbeatModel" "robots" "Ljava/util/List;") (by decide +kernel)) (fun _ h9 => h9) rfl dX12_isNoRobot_2 ?_
  refine lv_iload_n hx hb dX12_isNoRobot_5 rfl (lv_at hl 1 rfl) ?_
  have hPc := hP.sub (ws' := [((lm 3), .inr (2, [.int 0, .ref e0, .int 0]))]) [4] rfl
  have hDc := hD.sub (ws' := [((lm 3), .inr (2, [.int 0, .ref e0, .int 0]))]) [4] (by decide) rfl
  have hKc := hK.sub (tys' := []) [] rfl
  have hFc := va_free (wc := [((lm 3), .inr (2, [.int 0, .ref e0, .int 0]))]) hD hS hA [4] rfl
  refine va_calli (va_runS (As := [.ref (lm 3), .int a]) (rest := [.ref mo]) ⟨hx, hb, hml, hown, hts⟩ (c_X12_isOf l dC dI s.heap.size e0 (lm 3) a) (va_cwS 2 hts (goodIn_app (goodIn_of _ (by decide +kernel)) (goodIn_sub ((fun w h => List.mem_cons_of_mem _ (List.mem_append_right _ (List.mem_append_right _ (List.mem_append_left _ h))))) zgX12_isOf)) rfl rfl rfl (by decide +kernel) ⟨Nat.le_of_ble_eq_true rfl, Nat.le_of_ble_eq_true rfl⟩) ⟨gPcE_blind, gPcE_pass hPc hKc hDc hE hS hFc⟩ rfl rfl hl.1 rfl (lv_room (Nat.le_of_ble_eq_true rfl)) dX12_isNoRobot_6 ⟨Nat.le_of_ble_eq_true rfl, Nat.le_of_ble_eq_true rfl⟩) hS (fun q _ h => hFc q h) hFc (fun r_1 u_2 t H locs ht hvm hw hB hz hk hS => ?_)
  obtain ⟨hP1, hK1, hD1⟩ := hB
  rw [ht] at hP1
  obtain ⟨hP, hD⟩ := va_join (wr := [(mo, .inr (15, [.int th, .ref (lm 0), .ref (lm 1), .ref (lm 2), .ref (lm 3), .ref (lm 4), .int 0, .int 0])), ((lm 0), .inr (2, [.int 0, .ref e0, .int 0])), ((lm 1), .inr (2, [.int 0, .ref e0, .int 0])), ((lm 2), .inr (2, [.int 0, .ref e0, .int 0])), ((lm 4), .inr (2, [.int 0, .ref e0, .int 0]))]) (w1 := [((lm 3), .inr (2, [.int 0, .ref e0, .int 0]))]) hP hD [4] [0, 1, 2, 3, 5] rfl rfl (by decide) (by decide) hk hFc hP1 hD1
  have hP : va_P (dC, dI) vwCl [(mo, .inr (15, [.int th, .ref (lm 0), .ref (lm 1), .ref (lm 2), .ref (lm 3), .ref (lm 4), .int 0, .int 0])), ((lm 0), .inr (2, [.int 0, .ref e0, .int 0])), ((lm 1), .inr (2, [.int 0, .ref e0, .int 0])), ((lm 2), .inr (2, [.int 0, .ref e0, .int 0])), ((lm 4), .inr (2, [.int 0, .ref e0, .int 0])), ((lm 3), .inr (2, [.int 0, .ref e0, .int 0]))] H := hP
  have hD : va_D A [(mo, .inr (15, [.int th, .ref (lm 0), .ref (lm 1), .ref (lm 2), .ref (lm 3), .ref (lm 4), .int 0, .int 0])), ((lm 0), .inr (2, [.int 0, .ref e0, .int 0])), ((lm 1), .inr (2, [.int 0, .ref e0, .int 0])), ((lm 2), .inr (2, [.int 0, .ref e0, .int 0])), ((lm 4), .inr (2, [.int 0, .ref e0, .int 0])), ((lm 3), .inr (2, [.int 0, .ref e0, .int 0]))] := hD
  have hw : r_1 = 0 := hw
  subst hw
  refine lv_if_eq (tgt := 16) hx hb dX12_isNoRobot_9 (by decide) (fun _ => ?_) (fun c_3 => absurd c_3 (by decide))
  refine lv_iconst (v := 1) hx hb dX12_isNoRobot_16 (by decide) ?_
  have hPc := hP.sub (ws' := [(mo, .inr (15, [.int th, .ref (lm 0), .ref (lm 1), .ref (lm 2), .ref (lm 3), .ref (lm 4), .int 0, .int 0])), ((lm 0), .inr (2, [.int 0, .ref e0, .int 0])), ((lm 1), .inr (2, [.int 0, .ref e0, .int 0])), ((lm 2), .inr (2, [.int 0, .ref e0, .int 0])), ((lm 3), .inr (2, [.int 0, .ref e0, .int 0])), ((lm 4), .inr (2, [.int 0, .ref e0, .int 0]))]) [0, 1, 2, 3, 5, 4] rfl
  have hDc := hD.sub (ws' := [(mo, .inr (15, [.int th, .ref (lm 0), .ref (lm 1), .ref (lm 2), .ref (lm 3), .ref (lm 4), .int 0, .int 0])), ((lm 0), .inr (2, [.int 0, .ref e0, .int 0])), ((lm 1), .inr (2, [.int 0, .ref e0, .int 0])), ((lm 2), .inr (2, [.int 0, .ref e0, .int 0])), ((lm 3), .inr (2, [.int 0, .ref e0, .int 0])), ((lm 4), .inr (2, [.int 0, .ref e0, .int 0]))]) [0, 1, 2, 3, 5, 4] (by decide) rfl
  have hKc := hK.sub (tys' := []) [] rfl
  have hFc := va_free (wc := [(mo, .inr (15, [.int th, .ref (lm 0), .ref (lm 1), .ref (lm 2), .ref (lm 3), .ref (lm 4), .int 0, .int 0])), ((lm 0), .inr (2, [.int 0, .ref e0, .int 0])), ((lm 1), .inr (2, [.int 0, .ref e0, .int 0])), ((lm 2), .inr (2, [.int 0, .ref e0, .int 0])), ((lm 3), .inr (2, [.int 0, .ref e0, .int 0])), ((lm 4), .inr (2, [.int 0, .ref e0, .int 0]))]) hD hS hA [0, 1, 2, 3, 5, 4] rfl
  refine va_calli (va_runV (As := [.int 1]) (rest := []) ⟨hx, hb, hml, hown, hts⟩ (c_X12_isWrong_1 l dC dI H.size mo lm e0 th) (cwV 1 hts (goodIn_app (goodIn_of _ (by decide +kernel)) (goodIn_sub ((fun w h => List.mem_cons_of_mem _ (List.mem_append_right _ (List.mem_append_right _ (List.mem_append_right _ (h)))))) zgX12_isWrong_1)) rfl rfl rfl (by decide +kernel) ⟨Nat.le_of_ble_eq_true rfl, Nat.le_of_ble_eq_true rfl⟩) ⟨gPcE_blind, va_recv hK hP (ci := 15) (q0 := 0) rfl rfl, gPcE_pass hPc hKc hDc hE hS hFc⟩ rfl rfl hl.1 rfl (lv_room (Nat.le_of_ble_eq_true rfl)) dX12_isNoRobot_17 ⟨Nat.le_of_ble_eq_true rfl, Nat.le_of_ble_eq_true rfl⟩) hS (fun q _ h => hFc q h) hFc (fun r_4 u_5 t H locs ht hvm hw hB hz hk hS => ?_)
  obtain ⟨hP1, hK1, hD1⟩ := hB
  rw [ht] at hP1
  obtain ⟨hP, hD⟩ := va_join (wr := []) (w1 := [(mo, .inr (15, [.int u_5, .ref (lm 0), .ref (lm 1), .ref (lm 2), .ref (lm 3), .ref (lm 4), .int 0, .int 0])), ((lm 0), .inr (2, [.int 0, .ref e0, .int 0])), ((lm 1), .inr (2, [.int 0, .ref e0, .int 0])), ((lm 2), .inr (2, [.int 0, .ref e0, .int 0])), ((lm 3), .inr (2, [.int 0, .ref e0, .int 0])), ((lm 4), .inr (2, [.int 0, .ref e0, .int 0]))]) hP hD [0, 1, 2, 3, 5, 4] [] rfl rfl (by decide) (by decide) hk hFc hP1 hD1
  have hP : va_P (dC, dI) vwCl [(mo, .inr (15, [.int u_5, .ref (lm 0), .ref (lm 1), .ref (lm 2), .ref (lm 3), .ref (lm 4), .int 0, .int 0])), ((lm 0), .inr (2, [.int 0, .ref e0, .int 0])), ((lm 1), .inr (2, [.int 0, .ref e0, .int 0])), ((lm 2), .inr (2, [.int 0, .ref e0, .int 0])), ((lm 3), .inr (2, [.int 0, .ref e0, .int 0])), ((lm 4), .inr (2, [.int 0, .ref e0, .int 0]))] H := hP
  have hD : va_D A [(mo, .inr (15, [.int u_5, .ref (lm 0), .ref (lm 1), .ref (lm 2), .ref (lm 3), .ref (lm 4), .int 0, .int 0])), ((lm 0), .inr (2, [.int 0, .ref e0, .int 0])), ((lm 1), .inr (2, [.int 0, .ref e0, .int 0])), ((lm 2), .inr (2, [.int 0, .ref e0, .int 0])), ((lm 3), .inr (2, [.int 0, .ref e0, .int 0])), ((lm 4), .inr (2, [.int 0, .ref e0, .int 0]))] := hD
  have hw : r_4 = 1 ∧ u_5 = 1 := hw
  obtain ⟨rfl, rfl⟩ : r_4 = 1 ∧ u_5 = 1 := hw
  have hP9 := hP.sub (ws' := [(mo, .inr (15, [.int 1, .ref (lm 0), .ref (lm 1), .ref (lm 2), .ref (lm 3), .ref (lm 4), .int 0, .int 0])), ((lm 0), .inr (2, [.int 0, .ref e0, .int 0])), ((lm 1), .inr (2, [.int 0, .ref e0, .int 0])), ((lm 2), .inr (2, [.int 0, .ref e0, .int 0])), ((lm 3), .inr (2, [.int 0, .ref e0, .int 0])), ((lm 4), .inr (2, [.int 0, .ref e0, .int 0]))]) [0, 1, 2, 3, 4, 5] rfl
  have hD9 := hD.sub (ws' := [(mo, .inr (15, [.int 1, .ref (lm 0), .ref (lm 1), .ref (lm 2), .ref (lm 3), .ref (lm 4), .int 0, .int 0])), ((lm 0), .inr (2, [.int 0, .ref e0, .int 0])), ((lm 1), .inr (2, [.int 0, .ref e0, .int 0])), ((lm 2), .inr (2, [.int 0, .ref e0, .int 0])), ((lm 3), .inr (2, [.int 0, .ref e0, .int 0])), ((lm 4), .inr (2, [.int 0, .ref e0, .int 0]))]) [0, 1, 2, 3, 4, 5] (by decide) rfl
  have hK9 := hK.sub (tys' := []) [] rfl
  refine W.widen (k := 0) (n := 0) (Nat.le_of_ble_eq_true rfl) (Nat.le_of_ble_eq_true rfl) ?_
  exact W.zret (v := 1) hx hb hr (by decide +kernel) (fun t ht hW => ⟨⟨1, 1, rfl, ⟨rfl, rfl⟩, by rw [ht]; exact hP9, va_K.moved hW.alike hK9, hD9⟩, hS.F ht⟩) hS.2.2 dX12_isNoRobot_20

def zwX12_isNoBody : List Cond := .code yX12_isNoBody cX12_isNoBody 2 (some .boolean) :: (([.fieldLink RX12 25 "SpotbeatModel" "bodies" "Ljava/util/List;", .methodLink RX12 46 yX12_isOf, .static yX12_isOf, .initialized RX12, .methodLink RX12 50 yX12_isWrong, .instanceMethod yX12_isWrong, .selects RX12 yX12_isWrong yX12_isWrong] : List Cond) ++ (wsX120 ++ (zwX12_isOf ++ (zwX12_isWrong_1))))
theorem zgX12_isNoBody : zwX12_isNoBody.all goodWord = true := zgo rfl (zga (by decide +kernel) (zga zgcX12 (zga zgX12_isOf (zgX12_isWrong_1))))
set_option maxHeartbeats 4000000 in
set_option maxRecDepth 100000 in
theorem c_X12_isNoBody (l : Launch) (dC : Nat → ClassId) (dI : Nat → Nat → Nat) (sz : Nat) (mo : Nat) (lm : Nat → Nat) (e0 : Nat) (th : Int32) (a : Int32) : Met l yX12_isNoBody zwX12_isNoBody ({ frames := 2, cells := 0, slots := 0, locals := 43 }) (gPcE dC dI sz [(mo, .inr (15, [.int th, .ref (lm 0), .ref (lm 1), .ref (lm 2), .ref (lm 3), .ref (lm 4), .int 0, .int 0])), ((lm 0), .inr (2, [.int 0, .ref e0, .int 0])), ((lm 1), .inr (2, [.int 0, .ref e0, .int 0])), ((lm 2), .inr (2, [.int 0, .ref e0, .int 0])), ((lm 3), .inr (2, [.int 0, .ref e0, .int 0])), ((lm 4), .inr (2, [.int 0, .ref e0, .int 0]))] [] [.ref mo, .int a]) (va_Qi (fun (r : Int32) (u : Int32) => r = 1 ∧ u = 1) (fun u t => va_P (dC, dI) vwCl [(mo, .inr (15, [.int u, .ref (lm 0), .ref (lm 1), .ref (lm 2), .ref (lm 3), .ref (lm 4), .int 0, .int 0])), ((lm 0), .inr (2, [.int 0, .ref e0, .int 0])), ((lm 1), .inr (2, [.int 0, .ref e0, .int 0])), ((lm 2), .inr (2, [.int 0, .ref e0, .int 0])), ((lm 3), .inr (2, [.int 0, .ref e0, .int 0])), ((lm 4), .inr (2, [.int 0, .ref e0, .int 0]))] t.heap ∧ va_K (dC, dI) vwCl [] t ∧ va_D (va_A [(mo, .inr (15, [.int th, .ref (lm 0), .ref (lm 1), .ref (lm 2), .ref (lm 3), .ref (lm 4), .int 0, .int 0])), ((lm 0), .inr (2, [.int 0, .ref e0, .int 0])), ((lm 1), .inr (2, [.int 0, .ref e0, .int 0])), ((lm 2), .inr (2, [.int 0, .ref e0, .int 0])), ((lm 3), .inr (2, [.int 0, .ref e0, .int 0])), ((lm 4), .inr (2, [.int 0, .ref e0, .int 0]))] sz) [(mo, .inr (15, [.int u, .ref (lm 0), .ref (lm 1), .ref (lm 2), .ref (lm 3), .ref (lm 4), .int 0, .int 0])), ((lm 0), .inr (2, [.int 0, .ref e0, .int 0])), ((lm 1), .inr (2, [.int 0, .ref e0, .int 0])), ((lm 2), .inr (2, [.int 0, .ref e0, .int 0])), ((lm 3), .inr (2, [.int 0, .ref e0, .int 0])), ((lm 4), .inr (2, [.int 0, .ref e0, .int 0]))]) (va_A [(mo, .inr (15, [.int th, .ref (lm 0), .ref (lm 1), .ref (lm 2), .ref (lm 3), .ref (lm 4), .int 0, .int 0])), ((lm 0), .inr (2, [.int 0, .ref e0, .int 0])), ((lm 1), .inr (2, [.int 0, .ref e0, .int 0])), ((lm 2), .inr (2, [.int 0, .ref e0, .int 0])), ((lm 3), .inr (2, [.int 0, .ref e0, .int 0])), ((lm 4), .inr (2, [.int 0, .ref e0, .int 0]))] sz)) 0 0 (va_A [(mo, .inr (15, [.int th, .ref (lm 0), .ref (lm 1), .ref (lm 2), .ref (lm 3), .ref (lm 4), .int 0, .int 0])), ((lm 0), .inr (2, [.int 0, .ref e0, .int 0])), ((lm 1), .inr (2, [.int 0, .ref e0, .int 0])), ((lm 2), .inr (2, [.int 0, .ref e0, .int 0])), ((lm 3), .inr (2, [.int 0, .ref e0, .int 0])), ((lm 4), .inr (2, [.int 0, .ref e0, .int 0]))] sz) := by
  refine Met.ofW (cc := cX12_isNoBody) (maxL := 2) (ret := (some .boolean)) (by decide) rfl ?_
  intro p e s m args below meth c s₁ B hml hv
  obtain ⟨rfl, hsz, hP, hK, hD0, hE⟩ := hv
  have hx := B.exec
  have hb := B.bytes
  have hr := B.returns
  have hts := atoms_spec (ws := zwX12_isNoBody) B.pre
  have hown : s.vm.findClass RX12 = some m.cls := findClass_of_methodNamed B.named
  have hlocks := B.notSynchronized
  subst hsz
  have hD := hD0.self (sz := s.heap.size)
  generalize hAe : va_A [(mo, .inr (15, [.int th, .ref (lm 0), .ref (lm 1), .ref (lm 2), .ref (lm 3), .ref (lm 4), .int 0, .int 0])), ((lm 0), .inr (2, [.int 0, .ref e0, .int 0])), ((lm 1), .inr (2, [.int 0, .ref e0, .int 0])), ((lm 2), .inr (2, [.int 0, .ref e0, .int 0])), ((lm 3), .inr (2, [.int 0, .ref e0, .int 0])), ((lm 4), .inr (2, [.int 0, .ref e0, .int 0]))] s.heap.size = A at hD hE ⊢
  have hA : ∀ q : Nat, s.heap.size ≤ q → A q := fun q h => by rw [← hAe]; exact Or.inr h
  have hS : va_S A s.heap s.heap [] := va_S.rf
  have hP : va_P (dC, dI) vwCl [(mo, .inr (15, [.int th, .ref (lm 0), .ref (lm 1), .ref (lm 2), .ref (lm 3), .ref (lm 4), .int 0, .int 0])), ((lm 0), .inr (2, [.int 0, .ref e0, .int 0])), ((lm 1), .inr (2, [.int 0, .ref e0, .int 0])), ((lm 2), .inr (2, [.int 0, .ref e0, .int 0])), ((lm 3), .inr (2, [.int 0, .ref e0, .int 0])), ((lm 4), .inr (2, [.int 0, .ref e0, .int 0]))] s.heap := hP
  have hl := lv_entry ([.ref mo, .int a]) (n := 2) (Nat.le_of_ble_eq_true rfl)
  rw [lg_entry_eq]
  generalize (lg_sl ([.ref mo, .int a]) ++ List.replicate (2 - (lg_sl ([.ref mo, .int a])).length) Slot.unset).toArray = ls at hl ⊢
  have hl : lv_has ls 2 [(0, .ref mo), (1, .int a)] := hl
  refine lv_aload_n hx hb dX12_isNoBody_0 rfl (lv_at hl 0 rfl) ?_
  refine lv_aload_n hx hb dX12_isNoBody_1 rfl (lv_at hl 0 rfl) ?_
  refine va_get (D := (dC, dI)) (ci := 15) (v := .ref (lm 4)) (C := RX12) (T := TX12) (N := 8) hx hb hts (fun w h => List.mem_cons_of_mem _ (List.mem_append_right _ (List.mem_append_left _ h))) hown hK hP 0 rfl rfl 5 (by decide) (hts (.fieldLink RX12 25 "SpotbeatModel" "bodies" "Ljava/util/List;") (by decide +kernel)) (fun _ h9 => h9) rfl dX12_isNoBody_2 ?_
  refine lv_iload_n hx hb dX12_isNoBody_5 rfl (lv_at hl 1 rfl) ?_
  have hPc := hP.sub (ws' := [((lm 4), .inr (2, [.int 0, .ref e0, .int 0]))]) [5] rfl
  have hDc := hD.sub (ws' := [((lm 4), .inr (2, [.int 0, .ref e0, .int 0]))]) [5] (by decide) rfl
  have hKc := hK.sub (tys' := []) [] rfl
  have hFc := va_free (wc := [((lm 4), .inr (2, [.int 0, .ref e0, .int 0]))]) hD hS hA [5] rfl
  refine va_calli (va_runS (As := [.ref (lm 4), .int a]) (rest := [.ref mo]) ⟨hx, hb, hml, hown, hts⟩ (c_X12_isOf l dC dI s.heap.size e0 (lm 4) a) (va_cwS 2 hts (goodIn_app (goodIn_of _ (by decide +kernel)) (goodIn_sub ((fun w h => List.mem_cons_of_mem _ (List.mem_append_right _ (List.mem_append_right _ (List.mem_append_left _ h))))) zgX12_isOf)) rfl rfl rfl (by decide +kernel) ⟨Nat.le_of_ble_eq_true rfl, Nat.le_of_ble_eq_true rfl⟩) ⟨gPcE_blind, gPcE_pass hPc hKc hDc hE hS hFc⟩ rfl rfl hl.1 rfl (lv_room (Nat.le_of_ble_eq_true rfl)) dX12_isNoBody_6 ⟨Nat.le_of_ble_eq_true rfl, Nat.le_of_ble_eq_true rfl⟩) hS (fun q _ h => hFc q h) hFc (fun r_1 u_2 t H locs ht hvm hw hB hz hk hS => ?_)
  obtain ⟨hP1, hK1, hD1⟩ := hB
  rw [ht] at hP1
  obtain ⟨hP, hD⟩ := va_join (wr := [(mo, .inr (15, [.int th, .ref (lm 0), .ref (lm 1), .ref (lm 2), .ref (lm 3), .ref (lm 4), .int 0, .int 0])), ((lm 0), .inr (2, [.int 0, .ref e0, .int 0])), ((lm 1), .inr (2, [.int 0, .ref e0, .int 0])), ((lm 2), .inr (2, [.int 0, .ref e0, .int 0])), ((lm 3), .inr (2, [.int 0, .ref e0, .int 0]))]) (w1 := [((lm 4), .inr (2, [.int 0, .ref e0, .int 0]))]) hP hD [5] [0, 1, 2, 3, 4] rfl rfl (by decide) (by decide) hk hFc hP1 hD1
  have hP : va_P (dC, dI) vwCl [(mo, .inr (15, [.int th, .ref (lm 0), .ref (lm 1), .ref (lm 2), .ref (lm 3), .ref (lm 4), .int 0, .int 0])), ((lm 0), .inr (2, [.int 0, .ref e0, .int 0])), ((lm 1), .inr (2, [.int 0, .ref e0, .int 0])), ((lm 2), .inr (2, [.int 0, .ref e0, .int 0])), ((lm 3), .inr (2, [.int 0, .ref e0, .int 0])), ((lm 4), .inr (2, [.int 0, .ref e0, .int 0]))] H := hP
  have hD : va_D A [(mo, .inr (15, [.int th, .ref (lm 0), .ref (lm 1), .ref (lm 2), .ref (lm 3), .ref (lm 4), .int 0, .int 0])), ((lm 0), .inr (2, [.int 0, .ref e0, .int 0])), ((lm 1), .inr (2, [.int 0, .ref e0, .int 0])), ((lm 2), .inr (2, [.int 0, .ref e0, .int 0])), ((lm 3), .inr (2, [.int 0, .ref e0, .int 0])), ((lm 4), .inr (2, [.int 0, .ref e0, .int 0]))] := hD
  have hw : r_1 = 0 := hw
  subst hw
  refine lv_if_eq (tgt := 16) hx hb dX12_isNoBody_9 (by decide) (fun _ => ?_) (fun c_3 => absurd c_3 (by decide))
  refine lv_iconst (v := 1) hx hb dX12_isNoBody_16 (by decide) ?_
  have hPc := hP.sub (ws' := [(mo, .inr (15, [.int th, .ref (lm 0), .ref (lm 1), .ref (lm 2), .ref (lm 3), .ref (lm 4), .int 0, .int 0])), ((lm 0), .inr (2, [.int 0, .ref e0, .int 0])), ((lm 1), .inr (2, [.int 0, .ref e0, .int 0])), ((lm 2), .inr (2, [.int 0, .ref e0, .int 0])), ((lm 3), .inr (2, [.int 0, .ref e0, .int 0])), ((lm 4), .inr (2, [.int 0, .ref e0, .int 0]))]) [0, 1, 2, 3, 4, 5] rfl
  have hDc := hD.sub (ws' := [(mo, .inr (15, [.int th, .ref (lm 0), .ref (lm 1), .ref (lm 2), .ref (lm 3), .ref (lm 4), .int 0, .int 0])), ((lm 0), .inr (2, [.int 0, .ref e0, .int 0])), ((lm 1), .inr (2, [.int 0, .ref e0, .int 0])), ((lm 2), .inr (2, [.int 0, .ref e0, .int 0])), ((lm 3), .inr (2, [.int 0, .ref e0, .int 0])), ((lm 4), .inr (2, [.int 0, .ref e0, .int 0]))]) [0, 1, 2, 3, 4, 5] (by decide) rfl
  have hKc := hK.sub (tys' := []) [] rfl
  have hFc := va_free (wc := [(mo, .inr (15, [.int th, .ref (lm 0), .ref (lm 1), .ref (lm 2), .ref (lm 3), .ref (lm 4), .int 0, .int 0])), ((lm 0), .inr (2, [.int 0, .ref e0, .int 0])), ((lm 1), .inr (2, [.int 0, .ref e0, .int 0])), ((lm 2), .inr (2, [.int 0, .ref e0, .int 0])), ((lm 3), .inr (2, [.int 0, .ref e0, .int 0])), ((lm 4), .inr (2, [.int 0, .ref e0, .int 0]))]) hD hS hA [0, 1, 2, 3, 4, 5] rfl
  refine va_calli (va_runV (As := [.int 1]) (rest := []) ⟨hx, hb, hml, hown, hts⟩ (c_X12_isWrong_1 l dC dI H.size mo lm e0 th) (cwV 1 hts (goodIn_app (goodIn_of _ (by decide +kernel)) (goodIn_sub ((fun w h => List.mem_cons_of_mem _ (List.mem_append_right _ (List.mem_append_right _ (List.mem_append_right _ (h)))))) zgX12_isWrong_1)) rfl rfl rfl (by decide +kernel) ⟨Nat.le_of_ble_eq_true rfl, Nat.le_of_ble_eq_true rfl⟩) ⟨gPcE_blind, va_recv hK hP (ci := 15) (q0 := 0) rfl rfl, gPcE_pass hPc hKc hDc hE hS hFc⟩ rfl rfl hl.1 rfl (lv_room (Nat.le_of_ble_eq_true rfl)) dX12_isNoBody_17 ⟨Nat.le_of_ble_eq_true rfl, Nat.le_of_ble_eq_true rfl⟩) hS (fun q _ h => hFc q h) hFc (fun r_4 u_5 t H locs ht hvm hw hB hz hk hS => ?_)
  obtain ⟨hP1, hK1, hD1⟩ := hB
  rw [ht] at hP1
  obtain ⟨hP, hD⟩ := va_join (wr := []) (w1 := [(mo, .inr (15, [.int u_5, .ref (lm 0), .ref (lm 1), .ref (lm 2), .ref (lm 3), .ref (lm 4), .int 0, .int 0])), ((lm 0), .inr (2, [.int 0, .ref e0, .int 0])), ((lm 1), .inr (2, [.int 0, .ref e0, .int 0])), ((lm 2), .inr (2, [.int 0, .ref e0, .int 0])), ((lm 3), .inr (2, [.int 0, .ref e0, .int 0])), ((lm 4), .inr (2, [.int 0, .ref e0, .int 0]))]) hP hD [0, 1, 2, 3, 4, 5] [] rfl rfl (by decide) (by decide) hk hFc hP1 hD1
  have hP : va_P (dC, dI) vwCl [(mo, .inr (15, [.int u_5, .ref (lm 0), .ref (lm 1), .ref (lm 2), .ref (lm 3), .ref (lm 4), .int 0, .int 0])), ((lm 0), .inr (2, [.int 0, .ref e0, .int 0])), ((lm 1), .inr (2, [.int 0, .ref e0, .int 0])), ((lm 2), .inr (2, [.int 0, .ref e0, .int 0])), ((lm 3), .inr (2, [.int 0, .ref e0, .int 0])), ((lm 4), .inr (2, [.int 0, .ref e0, .int 0]))] H := hP
  have hD : va_D A [(mo, .inr (15, [.int u_5, .ref (lm 0), .ref (lm 1), .ref (lm 2), .ref (lm 3), .ref (lm 4), .int 0, .int 0])), ((lm 0), .inr (2, [.int 0, .ref e0, .int 0])), ((lm 1), .inr (2, [.int 0, .ref e0, .int 0])), ((lm 2), .inr (2, [.int 0, .ref e0, .int 0])), ((lm 3), .inr (2, [.int 0, .ref e0, .int 0])), ((lm 4), .inr (2, [.int 0, .ref e0, .int 0]))] := hD
  have hw : r_4 = 1 ∧ u_5 = 1 := hw
  obtain ⟨rfl, rfl⟩ : r_4 = 1 ∧ u_5 = 1 := hw
  have hP9 := hP.sub (ws' := [(mo, .inr (15, [.int 1, .ref (lm 0), .ref (lm 1), .ref (lm 2), .ref (lm 3), .ref (lm 4), .int 0, .int 0])), ((lm 0), .inr (2, [.int 0, .ref e0, .int 0])), ((lm 1), .inr (2, [.int 0, .ref e0, .int 0])), ((lm 2), .inr (2, [.int 0, .ref e0, .int 0])), ((lm 3), .inr (2, [.int 0, .ref e0, .int 0])), ((lm 4), .inr (2, [.int 0, .ref e0, .int 0]))]) [0, 1, 2, 3, 4, 5] rfl
  have hD9 := hD.sub (ws' := [(mo, .inr (15, [.int 1, .ref (lm 0), .ref (lm 1), .ref (lm 2), .ref (lm 3), .ref (lm 4), .int 0, .int 0])), ((lm 0), .inr (2, [.int 0, .ref e0, .int 0])), ((lm 1), .inr (2, [.int 0, .ref e0, .int 0])), ((lm 2), .inr (2, [.int 0, .ref e0, .int 0])), ((lm 3), .inr (2, [.int 0, .ref e0, .int 0])), ((lm 4), .inr (2, [.int 0, .ref e0, .int 0]))]) [0, 1, 2, 3, 4, 5] (by decide) rfl
  have hK9 := hK.sub (tys' := []) [] rfl
  refine W.widen (k := 0) (n := 0) (Nat.le_of_ble_eq_true rfl) (Nat.le_of_ble_eq_true rfl) ?_
  exact W.zret (v := 1) hx hb hr (by decide +kernel) (fun t ht hW => ⟨⟨1, 1, rfl, ⟨rfl, rfl⟩, by rw [ht]; exact hP9, va_K.moved hW.alike hK9, hD9⟩, hS.F ht⟩) hS.2.2 dX12_isNoBody_20

def zwX12_isNoSpot : List Cond := .code yX12_isNoSpot cX12_isNoSpot 3 (some .boolean) :: (([.fieldLink RX12 25 "SpotbeatModel" "bodies" "Ljava/util/List;", .methodLink RX12 46 yX12_isOf, .static yX12_isOf, .initialized RX12, .methodLink RX12 50 yX12_isWrong, .instanceMethod yX12_isWrong, .selects RX12 yX12_isWrong yX12_isWrong] : List Cond) ++ (wsX120 ++ (zwX12_isOf ++ (zwX12_isWrong_1))))
theorem zgX12_isNoSpot : zwX12_isNoSpot.all goodWord = true := zgo rfl (zga (by decide +kernel) (zga zgcX12 (zga zgX12_isOf (zgX12_isWrong_1))))
set_option maxHeartbeats 4000000 in
set_option maxRecDepth 100000 in
theorem c_X12_isNoSpot (l : Launch) (dC : Nat → ClassId) (dI : Nat → Nat → Nat) (sz : Nat) (mo : Nat) (lm : Nat → Nat) (e0 : Nat) (th : Int32) (a : Int32) (b : Int32) : Met l yX12_isNoSpot zwX12_isNoSpot ({ frames := 2, cells := 0, slots := 0, locals := 43 }) (gPcE dC dI sz [(mo, .inr (15, [.int th, .ref (lm 0), .ref (lm 1), .ref (lm 2), .ref (lm 3), .ref (lm 4), .int 0, .int 0])), ((lm 0), .inr (2, [.int 0, .ref e0, .int 0])), ((lm 1), .inr (2, [.int 0, .ref e0, .int 0])), ((lm 2), .inr (2, [.int 0, .ref e0, .int 0])), ((lm 3), .inr (2, [.int 0, .ref e0, .int 0])), ((lm 4), .inr (2, [.int 0, .ref e0, .int 0]))] [] [.ref mo, .int a, .int b]) (va_Qi (fun (r : Int32) (u : Int32) => r = 1 ∧ u = 1) (fun u t => va_P (dC, dI) vwCl [(mo, .inr (15, [.int u, .ref (lm 0), .ref (lm 1), .ref (lm 2), .ref (lm 3), .ref (lm 4), .int 0, .int 0])), ((lm 0), .inr (2, [.int 0, .ref e0, .int 0])), ((lm 1), .inr (2, [.int 0, .ref e0, .int 0])), ((lm 2), .inr (2, [.int 0, .ref e0, .int 0])), ((lm 3), .inr (2, [.int 0, .ref e0, .int 0])), ((lm 4), .inr (2, [.int 0, .ref e0, .int 0]))] t.heap ∧ va_K (dC, dI) vwCl [] t ∧ va_D (va_A [(mo, .inr (15, [.int th, .ref (lm 0), .ref (lm 1), .ref (lm 2), .ref (lm 3), .ref (lm 4), .int 0, .int 0])), ((lm 0), .inr (2, [.int 0, .ref e0, .int 0])), ((lm 1), .inr (2, [.int 0, .ref e0, .int 0])), ((lm 2), .inr (2, [.int 0, .ref e0, .int 0])), ((lm 3), .inr (2, [.int 0, .ref e0, .int 0])), ((lm 4), .inr (2, [.int 0, .ref e0, .int 0]))] sz) [(mo, .inr (15, [.int u, .ref (lm 0), .ref (lm 1), .ref (lm 2), .ref (lm 3), .ref (lm 4), .int 0, .int 0])), ((lm 0), .inr (2, [.int 0, .ref e0, .int 0])), ((lm 1), .inr (2, [.int 0, .ref e0, .int 0])), ((lm 2), .inr (2, [.int 0, .ref e0, .int 0])), ((lm 3), .inr (2, [.int 0, .ref e0, .int 0])), ((lm 4), .inr (2, [.int 0, .ref e0, .int 0]))]) (va_A [(mo, .inr (15, [.int th, .ref (lm 0), .ref (lm 1), .ref (lm 2), .ref (lm 3), .ref (lm 4), .int 0, .int 0])), ((lm 0), .inr (2, [.int 0, .ref e0, .int 0])), ((lm 1), .inr (2, [.int 0, .ref e0, .int 0])), ((lm 2), .inr (2, [.int 0, .ref e0, .int 0])), ((lm 3), .inr (2, [.int 0, .ref e0, .int 0])), ((lm 4), .inr (2, [.int 0, .ref e0, .int 0]))] sz)) 0 0 (va_A [(mo, .inr (15, [.int th, .ref (lm 0), .ref (lm 1), .ref (lm 2), .ref (lm 3), .ref (lm 4), .int 0, .int 0])), ((lm 0), .inr (2, [.int 0, .ref e0, .int 0])), ((lm 1), .inr (2, [.int 0, .ref e0, .int 0])), ((lm 2), .inr (2, [.int 0, .ref e0, .int 0])), ((lm 3), .inr (2, [.int 0, .ref e0, .int 0])), ((lm 4), .inr (2, [.int 0, .ref e0, .int 0]))] sz) := by
  refine Met.ofW (cc := cX12_isNoSpot) (maxL := 3) (ret := (some .boolean)) (by decide) rfl ?_
  intro p e s m args below meth c s₁ B hml hv
  obtain ⟨rfl, hsz, hP, hK, hD0, hE⟩ := hv
  have hx := B.exec
  have hb := B.bytes
  have hr := B.returns
  have hts := atoms_spec (ws := zwX12_isNoSpot) B.pre
  have hown : s.vm.findClass RX12 = some m.cls := findClass_of_methodNamed B.named
  have hlocks := B.notSynchronized
  subst hsz
  have hD := hD0.self (sz := s.heap.size)
  generalize hAe : va_A [(mo, .inr (15, [.int th, .ref (lm 0), .ref (lm 1), .ref (lm 2), .ref (lm 3), .ref (lm 4), .int 0, .int 0])), ((lm 0), .inr (2, [.int 0, .ref e0, .int 0])), ((lm 1), .inr (2, [.int 0, .ref e0, .int 0])), ((lm 2), .inr (2, [.int 0, .ref e0, .int 0])), ((lm 3), .inr (2, [.int 0, .ref e0, .int 0])), ((lm 4), .inr (2, [.int 0, .ref e0, .int 0]))] s.heap.size = A at hD hE ⊢
  have hA : ∀ q : Nat, s.heap.size ≤ q → A q := fun q h => by rw [← hAe]; exact Or.inr h
  have hS : va_S A s.heap s.heap [] := va_S.rf
  have hP : va_P (dC, dI) vwCl [(mo, .inr (15, [.int th, .ref (lm 0), .ref (lm 1), .ref (lm 2), .ref (lm 3), .ref (lm 4), .int 0, .int 0])), ((lm 0), .inr (2, [.int 0, .ref e0, .int 0])), ((lm 1), .inr (2, [.int 0, .ref e0, .int 0])), ((lm 2), .inr (2, [.int 0, .ref e0, .int 0])), ((lm 3), .inr (2, [.int 0, .ref e0, .int 0])), ((lm 4), .inr (2, [.int 0, .ref e0, .int 0]))] s.heap := hP
  have hl := lv_entry ([.ref mo, .int a, .int b]) (n := 3) (Nat.le_of_ble_eq_true rfl)
  rw [lg_entry_eq]
  generalize (lg_sl ([.ref mo, .int a, .int b]) ++ List.replicate (3 - (lg_sl ([.ref mo, .int a, .int b])).length) Slot.unset).toArray = ls at hl ⊢
  have hl : lv_has ls 3 [(0, .ref mo), (1, .int a), (2, .int b)] := hl
  refine lv_aload_n hx hb dX12_isNoSpot_0 rfl (lv_at hl 0 rfl) ?_
  refine lv_aload_n hx hb dX12_isNoSpot_1 rfl (lv_at hl 0 rfl) ?_
  refine va_get (D := (dC, dI)) (ci := 15) (v := .ref (lm 4)) (C := RX12) (T := TX12) (N := 8) hx hb hts (fun w h => List.mem_cons_of_mem _ (List.mem_append_right _ (List.mem_append_left _ h))) hown hK hP 0 rfl rfl 5 (by decide) (hts (.fieldLink RX12 25 "SpotbeatModel" "bodies" "Ljava/util/List;") (by decide +kernel)) (fun _ h9 => h9) rfl dX12_isNoSpot_2 ?_
  refine lv_iload_n hx hb dX12_isNoSpot_5 rfl (lv_at hl 1 rfl) ?_
  have hPc := hP.sub (ws' := [((lm 4), .inr (2, [.int 0, .ref e0, .int 0]))]) [5] rfl
  have hDc := hD.sub (ws' := [((lm 4), .inr (2, [.int 0, .ref e0, .int 0]))]) [5] (by decide) rfl
  have hKc := hK.sub (tys' := []) [] rfl
  have hFc := va_free (wc := [((lm 4), .inr (2, [.int 0, .ref e0, .int 0]))]) hD hS hA [5] rfl
  refine va_calli (va_runS (As := [.ref (lm 4), .int a]) (rest := [.ref mo]) ⟨hx, hb, hml, hown, hts⟩ (c_X12_isOf l dC dI s.heap.size e0 (lm 4) a) (va_cwS 2 hts (goodIn_app (goodIn_of _ (by decide +kernel)) (goodIn_sub ((fun w h => List.mem_cons_of_mem _ (List.mem_append_right _ (List.mem_append_right _ (List.mem_append_left _ h))))) zgX12_isOf)) rfl rfl rfl (by decide +kernel) ⟨Nat.le_of_ble_eq_true rfl, Nat.le_of_ble_eq_true rfl⟩) ⟨gPcE_blind, gPcE_pass hPc hKc hDc hE hS hFc⟩ rfl rfl hl.1 rfl (lv_room (Nat.le_of_ble_eq_true rfl)) dX12_isNoSpot_6 ⟨Nat.le_of_ble_eq_true rfl, Nat.le_of_ble_eq_true rfl⟩) hS (fun q _ h => hFc q h) hFc (fun r_1 u_2 t H locs ht hvm hw hB hz hk hS => ?_)
  obtain ⟨hP1, hK1, hD1⟩ := hB
  rw [ht] at hP1
  obtain ⟨hP, hD⟩ := va_join (wr := [(mo, .inr (15, [.int th, .ref (lm 0), .ref (lm 1), .ref (lm 2), .ref (lm 3), .ref (lm 4), .int 0, .int 0])), ((lm 0), .inr (2, [.int 0, .ref e0, .int 0])), ((lm 1), .inr (2, [.int 0, .ref e0, .int 0])), ((lm 2), .inr (2, [.int 0, .ref e0, .int 0])), ((lm 3), .inr (2, [.int 0, .ref e0, .int 0]))]) (w1 := [((lm 4), .inr (2, [.int 0, .ref e0, .int 0]))]) hP hD [5] [0, 1, 2, 3, 4] rfl rfl (by decide) (by decide) hk hFc hP1 hD1
  have hP : va_P (dC, dI) vwCl [(mo, .inr (15, [.int th, .ref (lm 0), .ref (lm 1), .ref (lm 2), .ref (lm 3), .ref (lm 4), .int 0, .int 0])), ((lm 0), .inr (2, [.int 0, .ref e0, .int 0])), ((lm 1), .inr (2, [.int 0, .ref e0, .int 0])), ((lm 2), .inr (2, [.int 0, .ref e0, .int 0])), ((lm 3), .inr (2, [.int 0, .ref e0, .int 0])), ((lm 4), .inr (2, [.int 0, .ref e0, .int 0]))] H := hP
  have hD : va_D A [(mo, .inr (15, [.int th, .ref (lm 0), .ref (lm 1), .ref (lm 2), .ref (lm 3), .ref (lm 4), .int 0, .int 0])), ((lm 0), .inr (2, [.int 0, .ref e0, .int 0])), ((lm 1), .inr (2, [.int 0, .ref e0, .int 0])), ((lm 2), .inr (2, [.int 0, .ref e0, .int 0])), ((lm 3), .inr (2, [.int 0, .ref e0, .int 0])), ((lm 4), .inr (2, [.int 0, .ref e0, .int 0]))] := hD
  have hw : r_1 = 0 := hw
  subst hw
  refine lv_if_eq (tgt := 27) hx hb dX12_isNoSpot_9 (by decide) (fun _ => ?_) (fun c_3 => absurd c_3 (by decide))
  refine lv_iconst (v := 1) hx hb dX12_isNoSpot_27 (by decide) ?_
  have hPc := hP.sub (ws' := [(mo, .inr (15, [.int th, .ref (lm 0), .ref (lm 1), .ref (lm 2), .ref (lm 3), .ref (lm 4), .int 0, .int 0])), ((lm 0), .inr (2, [.int 0, .ref e0, .int 0])), ((lm 1), .inr (2, [.int 0, .ref e0, .int 0])), ((lm 2), .inr (2, [.int 0, .ref e0, .int 0])), ((lm 3), .inr (2, [.int 0, .ref e0, .int 0])), ((lm 4), .inr (2, [.int 0, .ref e0, .int 0]))]) [0, 1, 2, 3, 4, 5] rfl
  have hDc := hD.sub (ws' := [(mo, .inr (15, [.int th, .ref (lm 0), .ref (lm 1), .ref (lm 2), .ref (lm 3), .ref (lm 4), .int 0, .int 0])), ((lm 0), .inr (2, [.int 0, .ref e0, .int 0])), ((lm 1), .inr (2, [.int 0, .ref e0, .int 0])), ((lm 2), .inr (2, [.int 0, .ref e0, .int 0])), ((lm 3), .inr (2, [.int 0, .ref e0, .int 0])), ((lm 4), .inr (2, [.int 0, .ref e0, .int 0]))]) [0, 1, 2, 3, 4, 5] (by decide) rfl
  have hKc := hK.sub (tys' := []) [] rfl
  have hFc := va_free (wc := [(mo, .inr (15, [.int th, .ref (lm 0), .ref (lm 1), .ref (lm 2), .ref (lm 3), .ref (lm 4), .int 0, .int 0])), ((lm 0), .inr (2, [.int 0, .ref e0, .int 0])), ((lm 1), .inr (2, [.int 0, .ref e0, .int 0])), ((lm 2), .inr (2, [.int 0, .ref e0, .int 0])), ((lm 3), .inr (2, [.int 0, .ref e0, .int 0])), ((lm 4), .inr (2, [.int 0, .ref e0, .int 0]))]) hD hS hA [0, 1, 2, 3, 4, 5] rfl
  refine va_calli (va_runV (As := [.int 1]) (rest := []) ⟨hx, hb, hml, hown, hts⟩ (c_X12_isWrong_1 l dC dI H.size mo lm e0 th) (cwV 1 hts (goodIn_app (goodIn_of _ (by decide +kernel)) (goodIn_sub ((fun w h => List.mem_cons_of_mem _ (List.mem_append_right _ (List.mem_append_right _ (List.mem_append_right _ (h)))))) zgX12_isWrong_1)) rfl rfl rfl (by decide +kernel) ⟨Nat.le_of_ble_eq_true rfl, Nat.le_of_ble_eq_true rfl⟩) ⟨gPcE_blind, va_recv hK hP (ci := 15) (q0 := 0) rfl rfl, gPcE_pass hPc hKc hDc hE hS hFc⟩ rfl rfl hl.1 rfl (lv_room (Nat.le_of_ble_eq_true rfl)) dX12_isNoSpot_28 ⟨Nat.le_of_ble_eq_true rfl, Nat.le_of_ble_eq_true rfl⟩) hS (fun q _ h => hFc q h) hFc (fun r_4 u_5 t H locs ht hvm hw hB hz hk hS => ?_)
  obtain ⟨hP1, hK1, hD1⟩ := hB
  rw [ht] at hP1
  obtain ⟨hP, hD⟩ := va_join (wr := []) (w1 := [(mo, .inr (15, [.int u_5, .ref (lm 0), .ref (lm 1), .ref (lm 2), .ref (lm 3), .ref (lm 4), .int 0, .int 0])), ((lm 0), .inr (2, [.int 0, .ref e0, .int 0])), ((lm 1), .inr (2, [.int 0, .ref e0, .int 0])), ((lm 2), .inr (2, [.int 0, .ref e0, .int 0])), ((lm 3), .inr (2, [.int 0, .ref e0, .int 0])), ((lm 4), .inr (2, [.int 0, .ref e0, .int 0]))]) hP hD [0, 1, 2, 3, 4, 5] [] rfl rfl (by decide) (by decide) hk hFc hP1 hD1
  have hP : va_P (dC, dI) vwCl [(mo, .inr (15, [.int u_5, .ref (lm 0), .ref (lm 1), .ref (lm 2), .ref (lm 3), .ref (lm 4), .int 0, .int 0])), ((lm 0), .inr (2, [.int 0, .ref e0, .int 0])), ((lm 1), .inr (2, [.int 0, .ref e0, .int 0])), ((lm 2), .inr (2, [.int 0, .ref e0, .int 0])), ((lm 3), .inr (2, [.int 0, .ref e0, .int 0])), ((lm 4), .inr (2, [.int 0, .ref e0, .int 0]))] H := hP
  have hD : va_D A [(mo, .inr (15, [.int u_5, .ref (lm 0), .ref (lm 1), .ref (lm 2), .ref (lm 3), .ref (lm 4), .int 0, .int 0])), ((lm 0), .inr (2, [.int 0, .ref e0, .int 0])), ((lm 1), .inr (2, [.int 0, .ref e0, .int 0])), ((lm 2), .inr (2, [.int 0, .ref e0, .int 0])), ((lm 3), .inr (2, [.int 0, .ref e0, .int 0])), ((lm 4), .inr (2, [.int 0, .ref e0, .int 0]))] := hD
  have hw : r_4 = 1 ∧ u_5 = 1 := hw
  obtain ⟨rfl, rfl⟩ : r_4 = 1 ∧ u_5 = 1 := hw
  have hP9 := hP.sub (ws' := [(mo, .inr (15, [.int 1, .ref (lm 0), .ref (lm 1), .ref (lm 2), .ref (lm 3), .ref (lm 4), .int 0, .int 0])), ((lm 0), .inr (2, [.int 0, .ref e0, .int 0])), ((lm 1), .inr (2, [.int 0, .ref e0, .int 0])), ((lm 2), .inr (2, [.int 0, .ref e0, .int 0])), ((lm 3), .inr (2, [.int 0, .ref e0, .int 0])), ((lm 4), .inr (2, [.int 0, .ref e0, .int 0]))]) [0, 1, 2, 3, 4, 5] rfl
  have hD9 := hD.sub (ws' := [(mo, .inr (15, [.int 1, .ref (lm 0), .ref (lm 1), .ref (lm 2), .ref (lm 3), .ref (lm 4), .int 0, .int 0])), ((lm 0), .inr (2, [.int 0, .ref e0, .int 0])), ((lm 1), .inr (2, [.int 0, .ref e0, .int 0])), ((lm 2), .inr (2, [.int 0, .ref e0, .int 0])), ((lm 3), .inr (2, [.int 0, .ref e0, .int 0])), ((lm 4), .inr (2, [.int 0, .ref e0, .int 0]))]) [0, 1, 2, 3, 4, 5] (by decide) rfl
  have hK9 := hK.sub (tys' := []) [] rfl
  refine W.widen (k := 0) (n := 0) (Nat.le_of_ble_eq_true rfl) (Nat.le_of_ble_eq_true rfl) ?_
  exact W.zret (v := 1) hx hb hr (by decide +kernel) (fun t ht hW => ⟨⟨1, 1, rfl, ⟨rfl, rfl⟩, by rw [ht]; exact hP9, va_K.moved hW.alike hK9, hD9⟩, hS.F ht⟩) hS.2.2 dX12_isNoSpot_31

def zwJx35411_init_45d68 : List Cond := .code yJx35411_init_45d68 cJx35411_init_45d68 2 none :: (([.fieldLink RJx35411 1 "java/util/ArrayList$Itr" "this$0" "Ljava/util/ArrayList;", .methodLink RJx35411 7 objectInit, .instanceMethod objectInit, .code objectInit ⟨#[0xb1]⟩ 1 none, .fieldLink RJx35411 13 "java/util/ArrayList$Itr" "lastRet" "I", .fieldLink RJx35411 17 "java/util/ArrayList" "modCount" "I", .sameField "java/util/ArrayList" "java/util/AbstractList" "modCount" "I", .fieldLink RJx35411 22 "java/util/ArrayList$Itr" "expectedModCount" "I"] : List Cond) ++ (wsJx354110 ++ (wsJx4a65c0)))
theorem zgJx35411_init_45d68 : zwJx35411_init_45d68.all goodWord = true := zgo rfl (zga (by decide +kernel) (zga zgcJx35411 (zgcJx4a65c)))
set_option maxHeartbeats 4000000 in
set_option maxRecDepth 100000 in
theorem c_Jx35411_init_45d68 (l : Launch) (dC : Nat → ClassId) (dI : Nat → Nat → Nat) (sz : Nat) (e0 : Nat) (tb a : Nat) : Met l yJx35411_init_45d68 zwJx35411_init_45d68 ({ frames := 1, cells := 0, slots := 0, locals := 12 }) (gPc dC dI sz [(tb, .inr (1, [.int 0, .int 0, .int 0, .null])), (a, .inr (2, [.int 0, .ref e0, .int 0]))] [] [.ref tb, .ref a]) (va_Qv (fun (u : Unit) => True) (fun u t => va_P (dC, dI) vwCl [(tb, .inr (1, [.int 0, .int (-1), .int 0, .ref a])), (a, .inr (2, [.int 0, .ref e0, .int 0]))] t.heap ∧ va_K (dC, dI) vwCl [] t ∧ va_D (va_A [(tb, .inr (1, [.int 0, .int 0, .int 0, .null])), (a, .inr (2, [.int 0, .ref e0, .int 0]))] sz) [(tb, .inr (1, [.int 0, .int (-1), .int 0, .ref a])), (a, .inr (2, [.int 0, .ref e0, .int 0]))]) (va_A [(tb, .inr (1, [.int 0, .int 0, .int 0, .null])), (a, .inr (2, [.int 0, .ref e0, .int 0]))] sz)) 0 0 (va_A [(tb, .inr (1, [.int 0, .int 0, .int 0, .null])), (a, .inr (2, [.int 0, .ref e0, .int 0]))] sz) := by
  refine Met.ofW (cc := cJx35411_init_45d68) (maxL := 2) (ret := none) (by decide) rfl ?_
  intro p e s m args below meth c s₁ B hml hv
  obtain ⟨rfl, hsz, hP, hK, hD0⟩ := hv
  have hx := B.exec
  have hb := B.bytes
  have hr := B.returns
  have hts := atoms_spec (ws := zwJx35411_init_45d68) B.pre
  have hown : s.vm.findClass RJx35411 = some m.cls := findClass_of_methodNamed B.named
  have hlocks := B.notSynchronized
  have hin : meth.name = "<init>" := (name_of_methodNamed B.named B.method).1
  subst hsz
  have hD := hD0.self (sz := s.heap.size)
  generalize hAe : va_A [(tb, .inr (1, [.int 0, .int 0, .int 0, .null])), (a, .inr (2, [.int 0, .ref e0, .int 0]))] s.heap.size = A at hD ⊢
  have hA : ∀ q : Nat, s.heap.size ≤ q → A q := fun q h => by rw [← hAe]; exact Or.inr h
  have hS : va_S A s.heap s.heap [] := va_S.rf
  have hP : va_P (dC, dI) vwCl [(tb, .inr (1, [.int 0, .int 0, .int 0, .null])), (a, .inr (2, [.int 0, .ref e0, .int 0]))] s.heap := hP
  have hl := lv_entry ([.ref tb, .ref a]) (n := 2) (Nat.le_of_ble_eq_true rfl)
  rw [lg_entry_eq]
  generalize (lg_sl ([.ref tb, .ref a]) ++ List.replicate (2 - (lg_sl ([.ref tb, .ref a])).length) Slot.unset).toArray = ls at hl ⊢
  have hl : lv_has ls 2 [(0, .ref tb), (1, .ref a)] := hl
  refine lv_aload_n hx hb dJx35411_init_45d68_0 rfl (lv_at hl 0 rfl) ?_
  refine lv_aload_n hx hb dJx35411_init_45d68_1 rfl (lv_at hl 1 rfl) ?_
  refine va_putF (D := (dC, dI)) (ci := 1) (v := .ref a) (ty := .object "java/util/ArrayList") (C := RJx35411) (T := TJx35411) (N := 4) hx hb hts (fun w h => List.mem_cons_of_mem _ (List.mem_append_right _ (List.mem_append_left _ h))) tyJx35411 tyJx35411_ok nmJx35411 hown hK hP hD hS 0 rfl rfl 3 (by decide) (hts (.fieldLink RJx35411 1 "java/util/ArrayList$Itr" "this$0" "Ljava/util/ArrayList;") (by decide +kernel)) (fun _ h9 => h9) rfl hin rfl (by decide +kernel) rfl rfl (Nat.le_of_ble_eq_true rfl) dJx35411_init_45d68_2 (fun H locs hP hD hS => ?_)
  have hP : va_P (dC, dI) vwCl [(tb, .inr (1, [.int 0, .int 0, .int 0, .ref a])), (a, .inr (2, [.int 0, .ref e0, .int 0]))] H := hP
  have hD : va_D A [(tb, .inr (1, [.int 0, .int 0, .int 0, .ref a])), (a, .inr (2, [.int 0, .ref e0, .int 0]))] := hD
  refine lv_aload_n hx hb dJx35411_init_45d68_5 rfl (lv_at hl 0 rfl) ?_
  refine W.objInit hx hb hown (hts (.methodLink RJx35411 7 objectInit) (by decide +kernel)) (hts (.instanceMethod objectInit) (by decide +kernel)) (hts (.code objectInit ⟨#[0xb1]⟩ 1 none) (by decide +kernel)) rfl (by rw [hml]; exact hl.1) rfl dJx35411_init_45d68_6 (Nat.le_of_ble_eq_true rfl) (Nat.le_of_ble_eq_true rfl) ?_
  refine W.eq (g2 := F0 m 9 ls []) rfl ?_
  refine lv_aload_n hx hb dJx35411_init_45d68_9 rfl (lv_at hl 0 rfl) ?_
  refine lv_iconst (v := (-1)) hx hb dJx35411_init_45d68_10 (by decide) ?_
  refine va_put (D := (dC, dI)) (ci := 1) (v := .int (-1)) (ty := .int) (C := RJx35411) (T := TJx35411) (N := 4) hx hb hts (fun w h => List.mem_cons_of_mem _ (List.mem_append_right _ (List.mem_append_left _ h))) tyJx35411 tyJx35411_ok nmJx35411 hown hK hP hD hS 0 rfl rfl 1 (by decide) (hts (.fieldLink RJx35411 13 "java/util/ArrayList$Itr" "lastRet" "I") (by decide +kernel)) (fun _ h9 => h9) rfl (by decide +kernel) rfl rfl (Nat.le_of_ble_eq_true rfl) dJx35411_init_45d68_11 (fun H locs hP hD hS => ?_)
  have hP : va_P (dC, dI) vwCl [(tb, .inr (1, [.int 0, .int (-1), .int 0, .ref a])), (a, .inr (2, [.int 0, .ref e0, .int 0]))] H := hP
  have hD : va_D A [(tb, .inr (1, [.int 0, .int (-1), .int 0, .ref a])), (a, .inr (2, [.int 0, .ref e0, .int 0]))] := hD
  refine lv_aload_n hx hb dJx35411_init_45d68_14 rfl (lv_at hl 0 rfl) ?_
  refine lv_aload_n hx hb dJx35411_init_45d68_15 rfl (lv_at hl 0 rfl) ?_
  refine va_get (D := (dC, dI)) (ci := 1) (v := .ref a) (C := RJx35411) (T := TJx35411) (N := 4) hx hb hts (fun w h => List.mem_cons_of_mem _ (List.mem_append_right _ (List.mem_append_left _ h))) hown hK hP 0 rfl rfl 3 (by decide) (hts (.fieldLink RJx35411 1 "java/util/ArrayList$Itr" "this$0" "Ljava/util/ArrayList;") (by decide +kernel)) (fun _ h9 => h9) rfl dJx35411_init_45d68_16 ?_
  refine va_get (D := (dC, dI)) (ci := 2) (v := .int 0) (C := RJx4a65c) (T := TJx4a65c) (N := 3) hx hb hts (fun w h => List.mem_cons_of_mem _ (List.mem_append_right _ (List.mem_append_right _ (h)))) hown hK hP 1 rfl rfl 0 (by decide) (hts (.fieldLink RJx35411 17 "java/util/ArrayList" "modCount" "I") (by decide +kernel)) (fun x9 h9 => u_same (hts (.sameField "java/util/ArrayList" "java/util/AbstractList" "modCount" "I") (by decide +kernel)) x9 h9) rfl dJx35411_init_45d68_19 ?_
  refine va_put (D := (dC, dI)) (ci := 1) (v := .int 0) (ty := .int) (C := RJx35411) (T := TJx35411) (N := 4) hx hb hts (fun w h => List.mem_cons_of_mem _ (List.mem_append_right _ (List.mem_append_left _ h))) tyJx35411 tyJx35411_ok nmJx35411 hown hK hP hD hS 0 rfl rfl 2 (by decide) (hts (.fieldLink RJx35411 22 "java/util/ArrayList$Itr" "expectedModCount" "I") (by decide +kernel)) (fun _ h9 => h9) rfl (by decide +kernel) rfl rfl (Nat.le_of_ble_eq_true rfl) dJx35411_init_45d68_22 (fun H locs hP hD hS => ?_)
  have hP : va_P (dC, dI) vwCl [(tb, .inr (1, [.int 0, .int (-1), .int 0, .ref a])), (a, .inr (2, [.int 0, .ref e0, .int 0]))] H := hP
  have hD : va_D A [(tb, .inr (1, [.int 0, .int (-1), .int 0, .ref a])), (a, .inr (2, [.int 0, .ref e0, .int 0]))] := hD
  have hP9 := hP.sub (ws' := [(tb, .inr (1, [.int 0, .int (-1), .int 0, .ref a])), (a, .inr (2, [.int 0, .ref e0, .int 0]))]) [0, 1] rfl
  have hD9 := hD.sub (ws' := [(tb, .inr (1, [.int 0, .int (-1), .int 0, .ref a])), (a, .inr (2, [.int 0, .ref e0, .int 0]))]) [0, 1] (by decide) rfl
  have hK9 := hK.sub (tys' := []) [] rfl
  refine W.widen (k := 0) (n := 0) (Nat.le_of_ble_eq_true rfl) (Nat.le_of_ble_eq_true rfl) ?_
  exact W.vret hx hb hr (fun t ht hW => ⟨⟨(), rfl, trivial, by rw [ht]; exact hP9, va_K.moved hW.alike hK9, hD9⟩, hS.F ht⟩) hS.2.2 dJx35411_init_45d68_25

def zwJx4a65c_iterator_32c93 : List Cond := .code yJx4a65c_iterator_32c93 cJx4a65c_iterator_32c93 1 (some (.object "java/util/Iterator")) :: (([.classLink RJx4a65c 267 RJx35411, .instantiable RJx35411 4, .initialized RJx35411, .methodLink RJx4a65c 269 yJx35411_init_45d68, .instanceMethod yJx35411_init_45d68] : List Cond) ++ (wsJx354110 ++ (zwJx35411_init_45d68)))
theorem zgJx4a65c_iterator_32c93 : zwJx4a65c_iterator_32c93.all goodWord = true := zgo rfl (zga (by decide +kernel) (zga zgcJx35411 (zgJx35411_init_45d68)))
set_option maxHeartbeats 4000000 in
set_option maxRecDepth 100000 in
theorem c_Jx4a65c_iterator_32c93 (l : Launch) (dC : Nat → ClassId) (dI : Nat → Nat → Nat) (sz : Nat) (e0 : Nat) (a : Nat) : Met l yJx4a65c_iterator_32c93 zwJx4a65c_iterator_32c93 ({ frames := 2, cells := 1, slots := 4, locals := 33 }) (gPc dC dI sz [(a, .inr (2, [.int 0, .ref e0, .int 0]))] [] [.ref a]) (va_Qr (fun (u : Unit) => True) (fun u ra t => va_P (dC, dI) vwCl [(ra, .inr (1, [.int 0, .int (-1), .int 0, .ref a])), (a, .inr (2, [.int 0, .ref e0, .int 0]))] t.heap ∧ va_K (dC, dI) vwCl [] t ∧ va_D (va_A [(a, .inr (2, [.int 0, .ref e0, .int 0]))] sz) [(ra, .inr (1, [.int 0, .int (-1), .int 0, .ref a])), (a, .inr (2, [.int 0, .ref e0, .int 0]))]) (va_A [(a, .inr (2, [.int 0, .ref e0, .int 0]))] sz)) 1 4 (va_A [(a, .inr (2, [.int 0, .ref e0, .int 0]))] sz) := by
  refine Met.ofW (cc := cJx4a65c_iterator_32c93) (maxL := 1) (ret := (some (.object "java/util/Iterator"))) (by decide) rfl ?_
  intro p e s m args below meth c s₁ B hml hv
  obtain ⟨rfl, hsz, hP, hK, hD0⟩ := hv
  have hx := B.exec
  have hb := B.bytes
  have hr := B.returns
  have hts := atoms_spec (ws := zwJx4a65c_iterator_32c93) B.pre
  have hown : s.vm.findClass RJx4a65c = some m.cls := findClass_of_methodNamed B.named
  have hlocks := B.notSynchronized
  subst hsz
  have hD := hD0.self (sz := s.heap.size)
  generalize hAe : va_A [(a, .inr (2, [.int 0, .ref e0, .int 0]))] s.heap.size = A at hD ⊢
  have hA : ∀ q : Nat, s.heap.size ≤ q → A q := fun q h => by rw [← hAe]; exact Or.inr h
  have hS : va_S A s.heap s.heap [] := va_S.rf
  have hP : va_P (dC, dI) vwCl [(a, .inr (2, [.int 0, .ref e0, .int 0]))] s.heap := hP
  have hl := lv_entry ([.ref a]) (n := 1) (Nat.le_of_ble_eq_true rfl)
  rw [lg_entry_eq]
  generalize (lg_sl ([.ref a]) ++ List.replicate (1 - (lg_sl ([.ref a])).length) Slot.unset).toArray = ls at hl ⊢
  have hl : lv_has ls 1 [(0, .ref a)] := hl
  refine va_new (ci := 1) (fs := [.int 0, .int 0, .int 0, .null]) (C := RJx35411) (T := TJx35411) (N := 4) hx hb hts (fun w h => List.mem_cons_of_mem _ (List.mem_append_right _ (List.mem_append_left _ h))) tyJx35411 tyJx35411_ok hown (hts (.classLink RJx4a65c 267 RJx35411) (by decide +kernel)) (hts (.instantiable RJx35411 4) (by decide +kernel)) (hts (.initialized RJx35411) (by decide +kernel)) hK hP hD hS hA rfl (fun j hj => by rcases (show j = 0 ∨ j = 1 ∨ j = 2 ∨ j = 3 by omega) with rfl | rfl | rfl | rfl <;> rfl) (Nat.le_of_ble_eq_true rfl) (Nat.le_of_ble_eq_true rfl) dJx4a65c_iterator_32c93_0 (fun q0 H hP hD hS => ?_)
  have hP : va_P (dC, dI) vwCl [(a, .inr (2, [.int 0, .ref e0, .int 0])), (q0, .inr (1, [.int 0, .int 0, .int 0, .null]))] H := hP
  have hD : va_D A [(a, .inr (2, [.int 0, .ref e0, .int 0])), (q0, .inr (1, [.int 0, .int 0, .int 0, .null]))] := hD
  refine lv_dup hx hb dJx4a65c_iterator_32c93_3 rfl ?_
  refine lv_aload_n hx hb dJx4a65c_iterator_32c93_4 rfl (lv_at hl 0 rfl) ?_
  have hPc := hP.sub (ws' := [(q0, .inr (1, [.int 0, .int 0, .int 0, .null])), (a, .inr (2, [.int 0, .ref e0, .int 0]))]) [1, 0] rfl
  have hDc := hD.sub (ws' := [(q0, .inr (1, [.int 0, .int 0, .int 0, .null])), (a, .inr (2, [.int 0, .ref e0, .int 0]))]) [1, 0] (by decide) rfl
  have hKc := hK.sub (tys' := []) [] rfl
  have hFc := va_free (wc := [(q0, .inr (1, [.int 0, .int 0, .int 0, .null])), (a, .inr (2, [.int 0, .ref e0, .int 0]))]) hD hS hA [1, 0] rfl
  refine va_callv (va_runI (As := [.ref a]) (rest := [.ref q0]) ⟨hx, hb, hml, hown, hts⟩ (c_Jx35411_init_45d68 l dC dI H.size e0 q0 a) (cwI 1 hts (goodIn_sub ((fun w h => List.mem_cons_of_mem _ (List.mem_append_right _ (List.mem_append_right _ (h))))) zgJx35411_init_45d68) rfl rfl rfl (hts (.initialized RJx35411) (by decide +kernel)) (hts (.methodLink RJx4a65c 269 yJx35411_init_45d68) (by decide +kernel)) (hts (.instanceMethod yJx35411_init_45d68) (by decide +kernel)) rfl (by decide +kernel) ⟨Nat.le_of_ble_eq_true rfl, Nat.le_of_ble_eq_true rfl⟩) ⟨gPc_blind, gPc_pass hPc hKc hDc⟩ rfl rfl hl.1 rfl (lv_room (Nat.le_of_ble_eq_true rfl)) dJx4a65c_iterator_32c93_5 ⟨Nat.le_of_ble_eq_true rfl, Nat.le_of_ble_eq_true rfl⟩) hS (fun q _ h => hFc q h) hFc (fun u_3 t H locs ht hvm hw hB hz hk hS => ?_)
  obtain ⟨hP1, hK1, hD1⟩ := hB
  rw [ht] at hP1
  obtain ⟨hP, hD⟩ := va_join (wr := []) (w1 := [(q0, .inr (1, [.int 0, .int (-1), .int 0, .ref a])), (a, .inr (2, [.int 0, .ref e0, .int 0]))]) hP hD [1, 0] [] rfl rfl (by decide) (by decide) hk hFc hP1 hD1
  have hP : va_P (dC, dI) vwCl [(q0, .inr (1, [.int 0, .int (-1), .int 0, .ref a])), (a, .inr (2, [.int 0, .ref e0, .int 0]))] H := hP
  have hD : va_D A [(q0, .inr (1, [.int 0, .int (-1), .int 0, .ref a])), (a, .inr (2, [.int 0, .ref e0, .int 0]))] := hD
  have w_4 : True := hw
  have hP9 := hP.sub (ws' := [(q0, .inr (1, [.int 0, .int (-1), .int 0, .ref a])), (a, .inr (2, [.int 0, .ref e0, .int 0]))]) [0, 1] rfl
  have hD9 := hD.sub (ws' := [(q0, .inr (1, [.int 0, .int (-1), .int 0, .ref a])), (a, .inr (2, [.int 0, .ref e0, .int 0]))]) [0, 1] (by decide) rfl
  have hK9 := hK.sub (tys' := []) [] rfl
  refine W.widen (k := 1) (n := 4) (Nat.le_of_ble_eq_true rfl) (Nat.le_of_ble_eq_true rfl) ?_
  exact W.aret (v := .ref q0) hx hb hr (Or.inl ⟨_, rfl⟩) (Or.inr ⟨_, rfl⟩) (fun t ht hW => ⟨⟨(), q0, rfl, trivial, by rw [ht]; exact hP9, va_K.moved hW.alike hK9, hD9⟩, hS.F ht⟩) hS.2.2 dJx4a65c_iterator_32c93_8

def zwJx35411_hasNext_aae02 : List Cond := .code yJx35411_hasNext_aae02 cJx35411_hasNext_aae02 1 (some .boolean) :: (([.fieldLink RJx35411 25 "java/util/ArrayList$Itr" "cursor" "I", .fieldLink RJx35411 1 "java/util/ArrayList$Itr" "this$0" "Ljava/util/ArrayList;"] : List Cond) ++ (wsJx354110 ++ (wsJx4a65c0)))
theorem zgJx35411_hasNext_aae02 : zwJx35411_hasNext_aae02.all goodWord = true := zgo rfl (zga (by decide +kernel) (zga zgcJx35411 (zgcJx4a65c)))
set_option maxHeartbeats 4000000 in
set_option maxRecDepth 100000 in
theorem c_Jx35411_hasNext_aae02 (l : Launch) (dC : Nat → ClassId) (dI : Nat → Nat → Nat) (sz : Nat) (e0 : Nat) (tb a : Nat) : Met l yJx35411_hasNext_aae02 zwJx35411_hasNext_aae02 ({ frames := 0, cells := 0, slots := 0, locals := 0 }) (gPcE dC dI sz [(tb, .inr (1, [.int 0, .int (-1), .int 0, .ref a])), (a, .inr (2, [.int 0, .ref e0, .int 0]))] [] [.ref tb]) (va_Qi (fun (r : Int32) (u : Unit) => r = 0) (fun u t => va_P (dC, dI) vwCl [(tb, .inr (1, [.int 0, .int (-1), .int 0, .ref a])), (a, .inr (2, [.int 0, .ref e0, .int 0]))] t.heap ∧ va_K (dC, dI) vwCl [] t ∧ va_D (va_A [(tb, .inr (1, [.int 0, .int (-1), .int 0, .ref a])), (a, .inr (2, [.int 0, .ref e0, .int 0]))] sz) [(tb, .inr (1, [.int 0, .int (-1), .int 0, .ref a])), (a, .inr (2, [.int 0, .ref e0, .int 0]))]) (va_A [(tb, .inr (1, [.int 0, .int (-1), .int 0, .ref a])), (a, .inr (2, [.int 0, .ref e0, .int 0]))] sz)) 0 0 (va_A [(tb, .inr (1, [.int 0, .int (-1), .int 0, .ref a])), (a, .inr (2, [.int 0, .ref e0, .int 0]))] sz) := by
  refine Met.ofW (cc := cJx35411_hasNext_aae02) (maxL := 1) (ret := (some .boolean)) (by decide) rfl ?_
  intro p e s m args below meth c s₁ B hml hv
  obtain ⟨rfl, hsz, hP, hK, hD0, hE⟩ := hv
  have hx := B.exec
  have hb := B.bytes
  have hr := B.returns
  have hts := atoms_spec (ws := zwJx35411_hasNext_aae02) B.pre
  have hown : s.vm.findClass RJx35411 = some m.cls := findClass_of_methodNamed B.named
  have hlocks := B.notSynchronized
  subst hsz
  have hD := hD0.self (sz := s.heap.size)
  generalize hAe : va_A [(tb, .inr (1, [.int 0, .int (-1), .int 0, .ref a])), (a, .inr (2, [.int 0, .ref e0, .int 0]))] s.heap.size = A at hD hE ⊢
  have hA : ∀ q : Nat, s.heap.size ≤ q → A q := fun q h => by rw [← hAe]; exact Or.inr h
  have hS : va_S A s.heap s.heap [] := va_S.rf
  have hP : va_P (dC, dI) vwCl [(tb, .inr (1, [.int 0, .int (-1), .int 0, .ref a])), (a, .inr (2, [.int 0, .ref e0, .int 0]))] s.heap := hP
  have hl := lv_entry ([.ref tb]) (n := 1) (Nat.le_of_ble_eq_true rfl)
  rw [lg_entry_eq]
  generalize (lg_sl ([.ref tb]) ++ List.replicate (1 - (lg_sl ([.ref tb])).length) Slot.unset).toArray = ls at hl ⊢
  have hl : lv_has ls 1 [(0, .ref tb)] := hl
  refine lv_aload_n hx hb dJx35411_hasNext_aae02_0 rfl (lv_at hl 0 rfl) ?_
  refine va_get (D := (dC, dI)) (ci := 1) (v := .int 0) (C := RJx35411) (T := TJx35411) (N := 4) hx hb hts (fun w h => List.mem_cons_of_mem _ (List.mem_append_right _ (List.mem_append_left _ h))) hown hK hP 0 rfl rfl 0 (by decide) (hts (.fieldLink RJx35411 25 "java/util/ArrayList$Itr" "cursor" "I") (by decide +kernel)) (fun _ h9 => h9) rfl dJx35411_hasNext_aae02_1 ?_
  refine lv_aload_n hx hb dJx35411_hasNext_aae02_4 rfl (lv_at hl 0 rfl) ?_
  refine va_get (D := (dC, dI)) (ci := 1) (v := .ref a) (C := RJx35411) (T := TJx35411) (N := 4) hx hb hts (fun w h => List.mem_cons_of_mem _ (List.mem_append_right _ (List.mem_append_left _ h))) hown hK hP 0 rfl rfl 3 (by decide) (hts (.fieldLink RJx35411 1 "java/util/ArrayList$Itr" "this$0" "Ljava/util/ArrayList;") (by decide +kernel)) (fun _ h9 => h9) rfl dJx35411_hasNext_aae02_5 ?_
  refine va_getN (D := (dC, dI)) (ci := 2) (v := .int 0) (C := RJx4a65c) (T := TJx4a65c) (N := 3) hx hb hts (fun w h => List.mem_cons_of_mem _ (List.mem_append_right _ (List.mem_append_right _ (h)))) hown hK hP 1 rfl rfl 2 (by decide) (va_Nw.use (w := .fieldLinkNest RJx35411 28 "java/util/ArrayList" "size" "I" "java/util/ArrayList") rfl hE.2.2.2.2.2.2.2.2.2.2.2.1) (fun _ h9 => h9) rfl dJx35411_hasNext_aae02_8 ?_
  refine lv_icmp_eq (tgt := 18) hx hb dJx35411_hasNext_aae02_11 (by decide) (fun _ => ?_) (fun c_1 => absurd c_1 (by decide))
  refine lv_iconst (v := 0) hx hb dJx35411_hasNext_aae02_18 (by decide) ?_
  have hP9 := hP.sub (ws' := [(tb, .inr (1, [.int 0, .int (-1), .int 0, .ref a])), (a, .inr (2, [.int 0, .ref e0, .int 0]))]) [0, 1] rfl
  have hD9 := hD.sub (ws' := [(tb, .inr (1, [.int 0, .int (-1), .int 0, .ref a])), (a, .inr (2, [.int 0, .ref e0, .int 0]))]) [0, 1] (by decide) rfl
  have hK9 := hK.sub (tys' := []) [] rfl
  refine W.widen (k := 0) (n := 0) (Nat.le_of_ble_eq_true rfl) (Nat.le_of_ble_eq_true rfl) ?_
  exact W.zret (v := 0) hx hb hr (by decide +kernel) (fun t ht hW => ⟨⟨0, (), rfl, rfl, by rw [ht]; exact hP9, va_K.moved hW.alike hK9, hD9⟩, hS.F ht⟩) hS.2.2 dJx35411_hasNext_aae02_19

def zwX12_off : List Cond := .code yX12_off cX12_off 4 (some .int) :: (([.fieldLink RX12 25 "SpotbeatModel" "bodies" "Ljava/util/List;", .methodLink RX12 82 ⟨"java/util/List", "iterator", "()Ljava/util/Iterator;"⟩, .selects RJx4a65c ⟨"java/util/List", "iterator", "()Ljava/util/Iterator;"⟩ yJx4a65c_iterator_32c93, .instanceMethod yJx4a65c_iterator_32c93, .initialized RJx4a65c, .methodLink RX12 86 ⟨"java/util/Iterator", "hasNext", "()Z"⟩, .selects RJx35411 ⟨"java/util/Iterator", "hasNext", "()Z"⟩ yJx35411_hasNext_aae02, .instanceMethod yJx35411_hasNext_aae02, .initialized RJx35411] : List Cond) ++ (wsX120 ++ (zwJx4a65c_iterator_32c93 ++ (zwJx35411_hasNext_aae02))))
theorem zgX12_off : zwX12_off.all goodWord = true := zgo rfl (zga (by decide +kernel) (zga zgcX12 (zga zgJx4a65c_iterator_32c93 (zgJx35411_hasNext_aae02))))
set_option maxHeartbeats 4000000 in
set_option maxRecDepth 100000 in
theorem c_X12_off (l : Launch) (dC : Nat → ClassId) (dI : Nat → Nat → Nat) (sz : Nat) (mo : Nat) (lm : Nat → Nat) (e0 : Nat) (th : Int32) : Met l yX12_off zwX12_off ({ frames := 3, cells := 1, slots := 4, locals := 53 }) (gPcE dC dI sz [(mo, .inr (15, [.int th, .ref (lm 0), .ref (lm 1), .ref (lm 2), .ref (lm 3), .ref (lm 4), .int 0, .int 0])), ((lm 0), .inr (2, [.int 0, .ref e0, .int 0])), ((lm 1), .inr (2, [.int 0, .ref e0, .int 0])), ((lm 2), .inr (2, [.int 0, .ref e0, .int 0])), ((lm 3), .inr (2, [.int 0, .ref e0, .int 0])), ((lm 4), .inr (2, [.int 0, .ref e0, .int 0]))] [] [.ref mo]) (va_Qi (fun (r : Int32) (u : Int32) => r = 0 ∧ u = th) (fun u t => va_P (dC, dI) vwCl [(mo, .inr (15, [.int u, .ref (lm 0), .ref (lm 1), .ref (lm 2), .ref (lm 3), .ref (lm 4), .int 0, .int 0])), ((lm 0), .inr (2, [.int 0, .ref e0, .int 0])), ((lm 1), .inr (2, [.int 0, .ref e0, .int 0])), ((lm 2), .inr (2, [.int 0, .ref e0, .int 0])), ((lm 3), .inr (2, [.int 0, .ref e0, .int 0])), ((lm 4), .inr (2, [.int 0, .ref e0, .int 0]))] t.heap ∧ va_K (dC, dI) vwCl [] t ∧ va_D (va_A [(mo, .inr (15, [.int th, .ref (lm 0), .ref (lm 1), .ref (lm 2), .ref (lm 3), .ref (lm 4), .int 0, .int 0])), ((lm 0), .inr (2, [.int 0, .ref e0, .int 0])), ((lm 1), .inr (2, [.int 0, .ref e0, .int 0])), ((lm 2), .inr (2, [.int 0, .ref e0, .int 0])), ((lm 3), .inr (2, [.int 0, .ref e0, .int 0])), ((lm 4), .inr (2, [.int 0, .ref e0, .int 0]))] sz) [(mo, .inr (15, [.int u, .ref (lm 0), .ref (lm 1), .ref (lm 2), .ref (lm 3), .ref (lm 4), .int 0, .int 0])), ((lm 0), .inr (2, [.int 0, .ref e0, .int 0])), ((lm 1), .inr (2, [.int 0, .ref e0, .int 0])), ((lm 2), .inr (2, [.int 0, .ref e0, .int 0])), ((lm 3), .inr (2, [.int 0, .ref e0, .int 0])), ((lm 4), .inr (2, [.int 0, .ref e0, .int 0]))]) (va_A [(mo, .inr (15, [.int th, .ref (lm 0), .ref (lm 1), .ref (lm 2), .ref (lm 3), .ref (lm 4), .int 0, .int 0])), ((lm 0), .inr (2, [.int 0, .ref e0, .int 0])), ((lm 1), .inr (2, [.int 0, .ref e0, .int 0])), ((lm 2), .inr (2, [.int 0, .ref e0, .int 0])), ((lm 3), .inr (2, [.int 0, .ref e0, .int 0])), ((lm 4), .inr (2, [.int 0, .ref e0, .int 0]))] sz)) 1 4 (va_A [(mo, .inr (15, [.int th, .ref (lm 0), .ref (lm 1), .ref (lm 2), .ref (lm 3), .ref (lm 4), .int 0, .int 0])), ((lm 0), .inr (2, [.int 0, .ref e0, .int 0])), ((lm 1), .inr (2, [.int 0, .ref e0, .int 0])), ((lm 2), .inr (2, [.int 0, .ref e0, .int 0])), ((lm 3), .inr (2, [.int 0, .ref e0, .int 0])), ((lm 4), .inr (2, [.int 0, .ref e0, .int 0]))] sz) := by
  refine Met.ofW (cc := cX12_off) (maxL := 4) (ret := (some .int)) (by decide) rfl ?_
  intro p e s m args below meth c s₁ B hml hv
  obtain ⟨rfl, hsz, hP, hK, hD0, hE⟩ := hv
  have hx := B.exec
  have hb := B.bytes
  have hr := B.returns
  have hts := atoms_spec (ws := zwX12_off) B.pre
  have hown : s.vm.findClass RX12 = some m.cls := findClass_of_methodNamed B.named
  have hlocks := B.notSynchronized
  subst hsz
  have hD := hD0.self (sz := s.heap.size)
  generalize hAe : va_A [(mo, .inr (15, [.int th, .ref (lm 0), .ref (lm 1), .ref (lm 2), .ref (lm 3), .ref (lm 4), .int 0, .int 0])), ((lm 0), .inr (2, [.int 0, .ref e0, .int 0])), ((lm 1), .inr (2, [.int 0, .ref e0, .int 0])), ((lm 2), .inr (2, [.int 0, .ref e0, .int 0])), ((lm 3), .inr (2, [.int 0, .ref e0, .int 0])), ((lm 4), .inr (2, [.int 0, .ref e0, .int 0]))] s.heap.size = A at hD hE ⊢
  have hA : ∀ q : Nat, s.heap.size ≤ q → A q := fun q h => by rw [← hAe]; exact Or.inr h
  have hS : va_S A s.heap s.heap [] := va_S.rf
  have hP : va_P (dC, dI) vwCl [(mo, .inr (15, [.int th, .ref (lm 0), .ref (lm 1), .ref (lm 2), .ref (lm 3), .ref (lm 4), .int 0, .int 0])), ((lm 0), .inr (2, [.int 0, .ref e0, .int 0])), ((lm 1), .inr (2, [.int 0, .ref e0, .int 0])), ((lm 2), .inr (2, [.int 0, .ref e0, .int 0])), ((lm 3), .inr (2, [.int 0, .ref e0, .int 0])), ((lm 4), .inr (2, [.int 0, .ref e0, .int 0]))] s.heap := hP
  have hl := lv_entry ([.ref mo]) (n := 4) (Nat.le_of_ble_eq_true rfl)
  rw [lg_entry_eq]
  generalize (lg_sl ([.ref mo]) ++ List.replicate (4 - (lg_sl ([.ref mo])).length) Slot.unset).toArray = ls at hl ⊢
  have hl : lv_has ls 4 [(0, .ref mo)] := hl
  refine lv_iconst (v := 0) hx hb dX12_off_0 (by decide) ?_
  refine lv_istore_n (lv' := [(1, .int 0), (0, .ref mo)]) hx hb dX12_off_1 rfl hl (by decide) rfl (fun ls hl => ?_)
  refine lv_aload_n hx hb dX12_off_2 rfl (lv_at hl 1 rfl) ?_
  refine va_get (D := (dC, dI)) (ci := 15) (v := .ref (lm 4)) (C := RX12) (T := TX12) (N := 8) hx hb hts (fun w h => List.mem_cons_of_mem _ (List.mem_append_right _ (List.mem_append_left _ h))) hown hK hP 0 rfl rfl 5 (by decide) (hts (.fieldLink RX12 25 "SpotbeatModel" "bodies" "Ljava/util/List;") (by decide +kernel)) (fun _ h9 => h9) rfl dX12_off_3 ?_
  have hPc := hP.sub (ws' := [((lm 4), .inr (2, [.int 0, .ref e0, .int 0]))]) [5] rfl
  have hDc := hD.sub (ws' := [((lm 4), .inr (2, [.int 0, .ref e0, .int 0]))]) [5] (by decide) rfl
  have hKc := hK.sub (tys' := []) [] rfl
  have hFc := va_free (wc := [((lm 4), .inr (2, [.int 0, .ref e0, .int 0]))]) hD hS hA [5] rfl
  refine va_callFr (va_runF (As := []) (rest := []) ((hK.1 2 _ rfl).2) ⟨hx, hb, hml, hown, hts⟩ (c_Jx4a65c_iterator_32c93 l dC dI s.heap.size e0 (lm 4)) (va_cwF 0 hts (goodIn_app (goodIn_of _ (by decide +kernel)) (goodIn_sub ((fun w h => List.mem_cons_of_mem _ (List.mem_append_right _ (List.mem_append_right _ (List.mem_append_left _ h))))) zgJx4a65c_iterator_32c93)) rfl rfl rfl hE.2.2.2.2.2.2.2.2.1 (by decide +kernel) ⟨Nat.le_of_ble_eq_true rfl, Nat.le_of_ble_eq_true rfl⟩) ⟨gPc_blind, va_recv hK hP (ci := 2) (q0 := 5) rfl rfl, gPc_pass hPc hKc hDc⟩ rfl rfl hl.1 rfl (lv_room (Nat.le_of_ble_eq_true rfl)) dX12_off_6 ⟨Nat.le_of_ble_eq_true rfl, Nat.le_of_ble_eq_true rfl⟩) hS (fun q _ h => hFc q h) hFc (fun u_2 r_1 t H locs ht hvm hw hB hz hk hS => ?_)
  obtain ⟨hP1, hK1, hD1⟩ := hB
  rw [ht] at hP1
  obtain ⟨hP, hD⟩ := va_join (wr := [(mo, .inr (15, [.int th, .ref (lm 0), .ref (lm 1), .ref (lm 2), .ref (lm 3), .ref (lm 4), .int 0, .int 0])), ((lm 0), .inr (2, [.int 0, .ref e0, .int 0])), ((lm 1), .inr (2, [.int 0, .ref e0, .int 0])), ((lm 2), .inr (2, [.int 0, .ref e0, .int 0])), ((lm 3), .inr (2, [.int 0, .ref e0, .int 0]))]) (w1 := [(r_1, .inr (1, [.int 0, .int (-1), .int 0, .ref (lm 4)])), ((lm 4), .inr (2, [.int 0, .ref e0, .int 0]))]) hP hD [5] [0, 1, 2, 3, 4] rfl rfl (by decide) (by decide) hk hFc hP1 hD1
  have hP : va_P (dC, dI) vwCl [(mo, .inr (15, [.int th, .ref (lm 0), .ref (lm 1), .ref (lm 2), .ref (lm 3), .ref (lm 4), .int 0, .int 0])), ((lm 0), .inr (2, [.int 0, .ref e0, .int 0])), ((lm 1), .inr (2, [.int 0, .ref e0, .int 0])), ((lm 2), .inr (2, [.int 0, .ref e0, .int 0])), ((lm 3), .inr (2, [.int 0, .ref e0, .int 0])), (r_1, .inr (1, [.int 0, .int (-1), .int 0, .ref (lm 4)])), ((lm 4), .inr (2, [.int 0, .ref e0, .int 0]))] H := hP
  have hD : va_D A [(mo, .inr (15, [.int th, .ref (lm 0), .ref (lm 1), .ref (lm 2), .ref (lm 3), .ref (lm 4), .int 0, .int 0])), ((lm 0), .inr (2, [.int 0, .ref e0, .int 0])), ((lm 1), .inr (2, [.int 0, .ref e0, .int 0])), ((lm 2), .inr (2, [.int 0, .ref e0, .int 0])), ((lm 3), .inr (2, [.int 0, .ref e0, .int 0])), (r_1, .inr (1, [.int 0, .int (-1), .int 0, .ref (lm 4)])), ((lm 4), .inr (2, [.int 0, .ref e0, .int 0]))] := hD
  have hw : True := hw
  refine lv_astore_n (lv' := [(2, .ref r_1), (1, .int 0), (0, .ref mo)]) hx hb dX12_off_11 rfl hl (by decide) rfl (fun ls hl => ?_)
  refine lv_aload_n hx hb dX12_off_12 rfl (lv_at hl 0 rfl) ?_
  have hPc := hP.sub (ws' := [(r_1, .inr (1, [.int 0, .int (-1), .int 0, .ref (lm 4)])), ((lm 4), .inr (2, [.int 0, .ref e0, .int 0]))]) [5, 6] rfl
  have hDc := hD.sub (ws' := [(r_1, .inr (1, [.int 0, .int (-1), .int 0, .ref (lm 4)])), ((lm 4), .inr (2, [.int 0, .ref e0, .int 0]))]) [5, 6] (by decide) rfl
  have hKc := hK.sub (tys' := []) [] rfl
  have hFc := va_free (wc := [(r_1, .inr (1, [.int 0, .int (-1), .int 0, .ref (lm 4)])), ((lm 4), .inr (2, [.int 0, .ref e0, .int 0]))]) hD hS hA [5, 6] rfl
  refine va_callFi (va_runF (As := []) (rest := []) ((hK.1 1 _ rfl).2) ⟨hx, hb, hml, hown, hts⟩ (c_Jx35411_hasNext_aae02 l dC dI H.size e0 r_1 (lm 4)) (va_cwF 0 hts (goodIn_app (goodIn_of _ (by decide +kernel)) (goodIn_sub ((fun w h => List.mem_cons_of_mem _ (List.mem_append_right _ (List.mem_append_right _ (List.mem_append_right _ (h)))))) zgJx35411_hasNext_aae02)) rfl rfl rfl hE.2.2.2.2.2.2.2.2.2.2.1 (by decide +kernel) ⟨Nat.le_of_ble_eq_true rfl, Nat.le_of_ble_eq_true rfl⟩) ⟨gPcE_blind, va_recv hK hP (ci := 1) (q0 := 5) rfl rfl, gPcE_pass hPc hKc hDc hE hS hFc⟩ rfl rfl hl.1 rfl (lv_room (Nat.le_of_ble_eq_true rfl)) dX12_off_13 ⟨Nat.le_of_ble_eq_true rfl, Nat.le_of_ble_eq_true rfl⟩) hS (fun q _ h => hFc q h) hFc (fun r_3 u_4 t H locs ht hvm hw hB hz hk hS => ?_)
  obtain ⟨hP1, hK1, hD1⟩ := hB
  rw [ht] at hP1
  obtain ⟨hP, hD⟩ := va_join (wr := [(mo, .inr (15, [.int th, .ref (lm 0), .ref (lm 1), .ref (lm 2), .ref (lm 3), .ref (lm 4), .int 0, .int 0])), ((lm 0), .inr (2, [.int 0, .ref e0, .int 0])), ((lm 1), .inr (2, [.int 0, .ref e0, .int 0])), ((lm 2), .inr (2, [.int 0, .ref e0, .int 0])), ((lm 3), .inr (2, [.int 0, .ref e0, .int 0]))]) (w1 := [(r_1, .inr (1, [.int 0, .int (-1), .int 0, .ref (lm 4)])), ((lm 4), .inr (2, [.int 0, .ref e0, .int 0]))]) hP hD [5, 6] [0, 1, 2, 3, 4] rfl rfl (by decide) (by decide) hk hFc hP1 hD1
  have hP : va_P (dC, dI) vwCl [(mo, .inr (15, [.int th, .ref (lm 0), .ref (lm 1), .ref (lm 2), .ref (lm 3), .ref (lm 4), .int 0, .int 0])), ((lm 0), .inr (2, [.int 0, .ref e0, .int 0])), ((lm 1), .inr (2, [.int 0, .ref e0, .int 0])), ((lm 2), .inr (2, [.int 0, .ref e0, .int 0])), ((lm 3), .inr (2, [.int 0, .ref e0, .int 0])), (r_1, .inr (1, [.int 0, .int (-1), .int 0, .ref (lm 4)])), ((lm 4), .inr (2, [.int 0, .ref e0, .int 0]))] H := hP
  have hD : va_D A [(mo, .inr (15, [.int th, .ref (lm 0), .ref (lm 1), .ref (lm 2), .ref (lm 3), .ref (lm 4), .int 0, .int 0])), ((lm 0), .inr (2, [.int 0, .ref e0, .int 0])), ((lm 1), .inr (2, [.int 0, .ref e0, .int 0])), ((lm 2), .inr (2, [.int 0, .ref e0, .int 0])), ((lm 3), .inr (2, [.int 0, .ref e0, .int 0])), (r_1, .inr (1, [.int 0, .int (-1), .int 0, .ref (lm 4)])), ((lm 4), .inr (2, [.int 0, .ref e0, .int 0]))] := hD
  have hw : r_3 = 0 := hw
  subst hw
  refine lv_if_eq (tgt := 51) hx hb dX12_off_18 (by decide) (fun _ => ?_) (fun c_5 => absurd c_5 (by decide))
  refine lv_iload_n hx hb dX12_off_51 rfl (lv_at hl 1 rfl) ?_
  have hP9 := hP.sub (ws' := [(mo, .inr (15, [.int th, .ref (lm 0), .ref (lm 1), .ref (lm 2), .ref (lm 3), .ref (lm 4), .int 0, .int 0])), ((lm 0), .inr (2, [.int 0, .ref e0, .int 0])), ((lm 1), .inr (2, [.int 0, .ref e0, .int 0])), ((lm 2), .inr (2, [.int 0, .ref e0, .int 0])), ((lm 3), .inr (2, [.int 0, .ref e0, .int 0])), ((lm 4), .inr (2, [.int 0, .ref e0, .int 0]))]) [0, 1, 2, 3, 4, 6] rfl
  have hD9 := hD.sub (ws' := [(mo, .inr (15, [.int th, .ref (lm 0), .ref (lm 1), .ref (lm 2), .ref (lm 3), .ref (lm 4), .int 0, .int 0])), ((lm 0), .inr (2, [.int 0, .ref e0, .int 0])), ((lm 1), .inr (2, [.int 0, .ref e0, .int 0])), ((lm 2), .inr (2, [.int 0, .ref e0, .int 0])), ((lm 3), .inr (2, [.int 0, .ref e0, .int 0])), ((lm 4), .inr (2, [.int 0, .ref e0, .int 0]))]) [0, 1, 2, 3, 4, 6] (by decide) rfl
  have hK9 := hK.sub (tys' := []) [] rfl
  refine W.widen (k := 1) (n := 4) (Nat.le_of_ble_eq_true rfl) (Nat.le_of_ble_eq_true rfl) ?_
  exact W.iret (v := 0) hx hb hr (fun t ht hW => ⟨⟨0, th, rfl, ⟨rfl, rfl⟩, by rw [ht]; exact hP9, va_K.moved hW.alike hK9, hD9⟩, hS.F ht⟩) hS.2.2 dX12_off_52

def zwX12_wholes : List Cond := .code yX12_wholes cX12_wholes 4 (some .int) :: (([.fieldLink RX12 25 "SpotbeatModel" "bodies" "Ljava/util/List;", .methodLink RX12 82 ⟨"java/util/List", "iterator", "()Ljava/util/Iterator;"⟩, .selects RJx4a65c ⟨"java/util/List", "iterator", "()Ljava/util/Iterator;"⟩ yJx4a65c_iterator_32c93, .instanceMethod yJx4a65c_iterator_32c93, .initialized RJx4a65c, .methodLink RX12 86 ⟨"java/util/Iterator", "hasNext", "()Z"⟩, .selects RJx35411 ⟨"java/util/Iterator", "hasNext", "()Z"⟩ yJx35411_hasNext_aae02, .instanceMethod yJx35411_hasNext_aae02, .initialized RJx35411] : List Cond) ++ (wsX120 ++ (zwJx4a65c_iterator_32c93 ++ (zwJx35411_hasNext_aae02))))
theorem zgX12_wholes : zwX12_wholes.all goodWord = true := zgo rfl (zga (by decide +kernel) (zga zgcX12 (zga zgJx4a65c_iterator_32c93 (zgJx35411_hasNext_aae02))))
set_option maxHeartbeats 4000000 in
set_option maxRecDepth 100000 in
theorem c_X12_wholes (l : Launch) (dC : Nat → ClassId) (dI : Nat → Nat → Nat) (sz : Nat) (mo : Nat) (lm : Nat → Nat) (e0 : Nat) (th : Int32) : Met l yX12_wholes zwX12_wholes ({ frames := 3, cells := 1, slots := 4, locals := 53 }) (gPcE dC dI sz [(mo, .inr (15, [.int th, .ref (lm 0), .ref (lm 1), .ref (lm 2), .ref (lm 3), .ref (lm 4), .int 0, .int 0])), ((lm 0), .inr (2, [.int 0, .ref e0, .int 0])), ((lm 1), .inr (2, [.int 0, .ref e0, .int 0])), ((lm 2), .inr (2, [.int 0, .ref e0, .int 0])), ((lm 3), .inr (2, [.int 0, .ref e0, .int 0])), ((lm 4), .inr (2, [.int 0, .ref e0, .int 0]))] [] [.ref mo]) (va_Qi (fun (r : Int32) (u : Int32) => r = 0 ∧ u = th) (fun u t => va_P (dC, dI) vwCl [(mo, .inr (15, [.int u, .ref (lm 0), .ref (lm 1), .ref (lm 2), .ref (lm 3), .ref (lm 4), .int 0, .int 0])), ((lm 0), .inr (2, [.int 0, .ref e0, .int 0])), ((lm 1), .inr (2, [.int 0, .ref e0, .int 0])), ((lm 2), .inr (2, [.int 0, .ref e0, .int 0])), ((lm 3), .inr (2, [.int 0, .ref e0, .int 0])), ((lm 4), .inr (2, [.int 0, .ref e0, .int 0]))] t.heap ∧ va_K (dC, dI) vwCl [] t ∧ va_D (va_A [(mo, .inr (15, [.int th, .ref (lm 0), .ref (lm 1), .ref (lm 2), .ref (lm 3), .ref (lm 4), .int 0, .int 0])), ((lm 0), .inr (2, [.int 0, .ref e0, .int 0])), ((lm 1), .inr (2, [.int 0, .ref e0, .int 0])), ((lm 2), .inr (2, [.int 0, .ref e0, .int 0])), ((lm 3), .inr (2, [.int 0, .ref e0, .int 0])), ((lm 4), .inr (2, [.int 0, .ref e0, .int 0]))] sz) [(mo, .inr (15, [.int u, .ref (lm 0), .ref (lm 1), .ref (lm 2), .ref (lm 3), .ref (lm 4), .int 0, .int 0])), ((lm 0), .inr (2, [.int 0, .ref e0, .int 0])), ((lm 1), .inr (2, [.int 0, .ref e0, .int 0])), ((lm 2), .inr (2, [.int 0, .ref e0, .int 0])), ((lm 3), .inr (2, [.int 0, .ref e0, .int 0])), ((lm 4), .inr (2, [.int 0, .ref e0, .int 0]))]) (va_A [(mo, .inr (15, [.int th, .ref (lm 0), .ref (lm 1), .ref (lm 2), .ref (lm 3), .ref (lm 4), .int 0, .int 0])), ((lm 0), .inr (2, [.int 0, .ref e0, .int 0])), ((lm 1), .inr (2, [.int 0, .ref e0, .int 0])), ((lm 2), .inr (2, [.int 0, .ref e0, .int 0])), ((lm 3), .inr (2, [.int 0, .ref e0, .int 0])), ((lm 4), .inr (2, [.int 0, .ref e0, .int 0]))] sz)) 1 4 (va_A [(mo, .inr (15, [.int th, .ref (lm 0), .ref (lm 1), .ref (lm 2), .ref (lm 3), .ref (lm 4), .int 0, .int 0])), ((lm 0), .inr (2, [.int 0, .ref e0, .int 0])), ((lm 1), .inr (2, [.int 0, .ref e0, .int 0])), ((lm 2), .inr (2, [.int 0, .ref e0, .int 0])), ((lm 3), .inr (2, [.int 0, .ref e0, .int 0])), ((lm 4), .inr (2, [.int 0, .ref e0, .int 0]))] sz) := by
  refine Met.ofW (cc := cX12_wholes) (maxL := 4) (ret := (some .int)) (by decide) rfl ?_
  intro p e s m args below meth c s₁ B hml hv
  obtain ⟨rfl, hsz, hP, hK, hD0, hE⟩ := hv
  have hx := B.exec
  have hb := B.bytes
  have hr := B.returns
  have hts := atoms_spec (ws := zwX12_wholes) B.pre
  have hown : s.vm.findClass RX12 = some m.cls := findClass_of_methodNamed B.named
  have hlocks := B.notSynchronized
  subst hsz
  have hD := hD0.self (sz := s.heap.size)
  generalize hAe : va_A [(mo, .inr (15, [.int th, .ref (lm 0), .ref (lm 1), .ref (lm 2), .ref (lm 3), .ref (lm 4), .int 0, .int 0])), ((lm 0), .inr (2, [.int 0, .ref e0, .int 0])), ((lm 1), .inr (2, [.int 0, .ref e0, .int 0])), ((lm 2), .inr (2, [.int 0, .ref e0, .int 0])), ((lm 3), .inr (2, [.int 0, .ref e0, .int 0])), ((lm 4), .inr (2, [.int 0, .ref e0, .int 0]))] s.heap.size = A at hD hE ⊢
  have hA : ∀ q : Nat, s.heap.size ≤ q → A q := fun q h => by rw [← hAe]; exact Or.inr h
  have hS : va_S A s.heap s.heap [] := va_S.rf
  have hP : va_P (dC, dI) vwCl [(mo, .inr (15, [.int th, .ref (lm 0), .ref (lm 1), .ref (lm 2), .ref (lm 3), .ref (lm 4), .int 0, .int 0])), ((lm 0), .inr (2, [.int 0, .ref e0, .int 0])), ((lm 1), .inr (2, [.int 0, .ref e0, .int 0])), ((lm 2), .inr (2, [.int 0, .ref e0, .int 0])), ((lm 3), .inr (2, [.int 0, .ref e0, .int 0])), ((lm 4), .inr (2, [.int 0, .ref e0, .int 0]))] s.heap := hP
  have hl := lv_entry ([.ref mo]) (n := 4) (Nat.le_of_ble_eq_true rfl)
  rw [lg_entry_eq]
  generalize (lg_sl ([.ref mo]) ++ List.replicate (4 - (lg_sl ([.ref mo])).length) Slot.unset).toArray = ls at hl ⊢
  have hl : lv_has ls 4 [(0, .ref mo)] := hl
  refine lv_iconst (v := 0) hx hb dX12_wholes_0 (by decide) ?_
  refine lv_istore_n (lv' := [(1, .int 0), (0, .ref mo)]) hx hb dX12_wholes_1 rfl hl (by decide) rfl (fun ls hl => ?_)
  refine lv_aload_n hx hb dX12_wholes_2 rfl (lv_at hl 1 rfl) ?_
  refine va_get (D := (dC, dI)) (ci := 15) (v := .ref (lm 4)) (C := RX12) (T := TX12) (N := 8) hx hb hts (fun w h => List.mem_cons_of_mem _ (List.mem_append_right _ (List.mem_append_left _ h))) hown hK hP 0 rfl rfl 5 (by decide) (hts (.fieldLink RX12 25 "SpotbeatModel" "bodies" "Ljava/util/List;") (by decide +kernel)) (fun _ h9 => h9) rfl dX12_wholes_3 ?_
  have hPc := hP.sub (ws' := [((lm 4), .inr (2, [.int 0, .ref e0, .int 0]))]) [5] rfl
  have hDc := hD.sub (ws' := [((lm 4), .inr (2, [.int 0, .ref e0, .int 0]))]) [5] (by decide) rfl
  have hKc := hK.sub (tys' := []) [] rfl
  have hFc := va_free (wc := [((lm 4), .inr (2, [.int 0, .ref e0, .int 0]))]) hD hS hA [5] rfl
  refine va_callFr (va_runF (As := []) (rest := []) ((hK.1 2 _ rfl).2) ⟨hx, hb, hml, hown, hts⟩ (c_Jx4a65c_iterator_32c93 l dC dI s.heap.size e0 (lm 4)) (va_cwF 0 hts (goodIn_app (goodIn_of _ (by decide +kernel)) (goodIn_sub ((fun w h => List.mem_cons_of_mem _ (List.mem_append_right _ (List.mem_append_right _ (List.mem_append_left _ h))))) zgJx4a65c_iterator_32c93)) rfl rfl rfl hE.2.2.2.2.2.2.2.2.1 (by decide +kernel) ⟨Nat.le_of_ble_eq_true rfl, Nat.le_of_ble_eq_true rfl⟩) ⟨gPc_blind, va_recv hK hP (ci := 2) (q0 := 5) rfl rfl, gPc_pass hPc hKc hDc⟩ rfl rfl hl.1 rfl (lv_room (Nat.le_of_ble_eq_true rfl)) dX12_wholes_6 ⟨Nat.le_of_ble_eq_true rfl, Nat.le_of_ble_eq_true rfl⟩) hS (fun q _ h => hFc q h) hFc (fun u_2 r_1 t H locs ht hvm hw hB hz hk hS => ?_)
  obtain ⟨hP1, hK1, hD1⟩ := hB
  rw [ht] at hP1
  obtain ⟨hP, hD⟩ := va_join (wr := [(mo, .inr (15, [.int th, .ref (lm 0), .ref (lm 1), .ref (lm 2), .ref (lm 3), .ref (lm 4), .int 0, .int 0])), ((lm 0), .inr (2, [.int 0, .ref e0, .int 0])), ((lm 1), .inr (2, [.int 0, .ref e0, .int 0])), ((lm 2), .inr (2, [.int 0, .ref e0, .int 0])), ((lm 3), .inr (2, [.int 0, .ref e0, .int 0]))]) (w1 := [(r_1, .inr (1, [.int 0, .int (-1), .int 0, .ref (lm 4)])), ((lm 4), .inr (2, [.int 0, .ref e0, .int 0]))]) hP hD [5] [0, 1, 2, 3, 4] rfl rfl (by decide) (by decide) hk hFc hP1 hD1
  have hP : va_P (dC, dI) vwCl [(mo, .inr (15, [.int th, .ref (lm 0), .ref (lm 1), .ref (lm 2), .ref (lm 3), .ref (lm 4), .int 0, .int 0])), ((lm 0), .inr (2, [.int 0, .ref e0, .int 0])), ((lm 1), .inr (2, [.int 0, .ref e0, .int 0])), ((lm 2), .inr (2, [.int 0, .ref e0, .int 0])), ((lm 3), .inr (2, [.int 0, .ref e0, .int 0])), (r_1, .inr (1, [.int 0, .int (-1), .int 0, .ref (lm 4)])), ((lm 4), .inr (2, [.int 0, .ref e0, .int 0]))] H := hP
  have hD : va_D A [(mo, .inr (15, [.int th, .ref (lm 0), .ref (lm 1), .ref (lm 2), .ref (lm 3), .ref (lm 4), .int 0, .int 0])), ((lm 0), .inr (2, [.int 0, .ref e0, .int 0])), ((lm 1), .inr (2, [.int 0, .ref e0, .int 0])), ((lm 2), .inr (2, [.int 0, .ref e0, .int 0])), ((lm 3), .inr (2, [.int 0, .ref e0, .int 0])), (r_1, .inr (1, [.int 0, .int (-1), .int 0, .ref (lm 4)])), ((lm 4), .inr (2, [.int 0, .ref e0, .int 0]))] := hD
  have hw : True := hw
  refine lv_astore_n (lv' := [(2, .ref r_1), (1, .int 0), (0, .ref mo)]) hx hb dX12_wholes_11 rfl hl (by decide) rfl (fun ls hl => ?_)
  refine lv_aload_n hx hb dX12_wholes_12 rfl (lv_at hl 0 rfl) ?_
  have hPc := hP.sub (ws' := [(r_1, .inr (1, [.int 0, .int (-1), .int 0, .ref (lm 4)])), ((lm 4), .inr (2, [.int 0, .ref e0, .int 0]))]) [5, 6] rfl
  have hDc := hD.sub (ws' := [(r_1, .inr (1, [.int 0, .int (-1), .int 0, .ref (lm 4)])), ((lm 4), .inr (2, [.int 0, .ref e0, .int 0]))]) [5, 6] (by decide) rfl
  have hKc := hK.sub (tys' := []) [] rfl
  have hFc := va_free (wc := [(r_1, .inr (1, [.int 0, .int (-1), .int 0, .ref (lm 4)])), ((lm 4), .inr (2, [.int 0, .ref e0, .int 0]))]) hD hS hA [5, 6] rfl
  refine va_callFi (va_runF (As := []) (rest := []) ((hK.1 1 _ rfl).2) ⟨hx, hb, hml, hown, hts⟩ (c_Jx35411_hasNext_aae02 l dC dI H.size e0 r_1 (lm 4)) (va_cwF 0 hts (goodIn_app (goodIn_of _ (by decide +kernel)) (goodIn_sub ((fun w h => List.mem_cons_of_mem _ (List.mem_append_right _ (List.mem_append_right _ (List.mem_append_right _ (h)))))) zgJx35411_hasNext_aae02)) rfl rfl rfl hE.2.2.2.2.2.2.2.2.2.2.1 (by decide +kernel) ⟨Nat.le_of_ble_eq_true rfl, Nat.le_of_ble_eq_true rfl⟩) ⟨gPcE_blind, va_recv hK hP (ci := 1) (q0 := 5) rfl rfl, gPcE_pass hPc hKc hDc hE hS hFc⟩ rfl rfl hl.1 rfl (lv_room (Nat.le_of_ble_eq_true rfl)) dX12_wholes_13 ⟨Nat.le_of_ble_eq_true rfl, Nat.le_of_ble_eq_true rfl⟩) hS (fun q _ h => hFc q h) hFc (fun r_3 u_4 t H locs ht hvm hw hB hz hk hS => ?_)
  obtain ⟨hP1, hK1, hD1⟩ := hB
  rw [ht] at hP1
  obtain ⟨hP, hD⟩ := va_join (wr := [(mo, .inr (15, [.int th, .ref (lm 0), .ref (lm 1), .ref (lm 2), .ref (lm 3), .ref (lm 4), .int 0, .int 0])), ((lm 0), .inr (2, [.int 0, .ref e0, .int 0])), ((lm 1), .inr (2, [.int 0, .ref e0, .int 0])), ((lm 2), .inr (2, [.int 0, .ref e0, .int 0])), ((lm 3), .inr (2, [.int 0, .ref e0, .int 0]))]) (w1 := [(r_1, .inr (1, [.int 0, .int (-1), .int 0, .ref (lm 4)])), ((lm 4), .inr (2, [.int 0, .ref e0, .int 0]))]) hP hD [5, 6] [0, 1, 2, 3, 4] rfl rfl (by decide) (by decide) hk hFc hP1 hD1
  have hP : va_P (dC, dI) vwCl [(mo, .inr (15, [.int th, .ref (lm 0), .ref (lm 1), .ref (lm 2), .ref (lm 3), .ref (lm 4), .int 0, .int 0])), ((lm 0), .inr (2, [.int 0, .ref e0, .int 0])), ((lm 1), .inr (2, [.int 0, .ref e0, .int 0])), ((lm 2), .inr (2, [.int 0, .ref e0, .int 0])), ((lm 3), .inr (2, [.int 0, .ref e0, .int 0])), (r_1, .inr (1, [.int 0, .int (-1), .int 0, .ref (lm 4)])), ((lm 4), .inr (2, [.int 0, .ref e0, .int 0]))] H := hP
  have hD : va_D A [(mo, .inr (15, [.int th, .ref (lm 0), .ref (lm 1), .ref (lm 2), .ref (lm 3), .ref (lm 4), .int 0, .int 0])), ((lm 0), .inr (2, [.int 0, .ref e0, .int 0])), ((lm 1), .inr (2, [.int 0, .ref e0, .int 0])), ((lm 2), .inr (2, [.int 0, .ref e0, .int 0])), ((lm 3), .inr (2, [.int 0, .ref e0, .int 0])), (r_1, .inr (1, [.int 0, .int (-1), .int 0, .ref (lm 4)])), ((lm 4), .inr (2, [.int 0, .ref e0, .int 0]))] := hD
  have hw : r_3 = 0 := hw
  subst hw
  refine lv_if_eq (tgt := 59) hx hb dX12_wholes_18 (by decide) (fun _ => ?_) (fun c_5 => absurd c_5 (by decide))
  refine lv_iload_n hx hb dX12_wholes_59 rfl (lv_at hl 1 rfl) ?_
  have hP9 := hP.sub (ws' := [(mo, .inr (15, [.int th, .ref (lm 0), .ref (lm 1), .ref (lm 2), .ref (lm 3), .ref (lm 4), .int 0, .int 0])), ((lm 0), .inr (2, [.int 0, .ref e0, .int 0])), ((lm 1), .inr (2, [.int 0, .ref e0, .int 0])), ((lm 2), .inr (2, [.int 0, .ref e0, .int 0])), ((lm 3), .inr (2, [.int 0, .ref e0, .int 0])), ((lm 4), .inr (2, [.int 0, .ref e0, .int 0]))]) [0, 1, 2, 3, 4, 6] rfl
  have hD9 := hD.sub (ws' := [(mo, .inr (15, [.int th, .ref (lm 0), .ref (lm 1), .ref (lm 2), .ref (lm 3), .ref (lm 4), .int 0, .int 0])), ((lm 0), .inr (2, [.int 0, .ref e0, .int 0])), ((lm 1), .inr (2, [.int 0, .ref e0, .int 0])), ((lm 2), .inr (2, [.int 0, .ref e0, .int 0])), ((lm 3), .inr (2, [.int 0, .ref e0, .int 0])), ((lm 4), .inr (2, [.int 0, .ref e0, .int 0]))]) [0, 1, 2, 3, 4, 6] (by decide) rfl
  have hK9 := hK.sub (tys' := []) [] rfl
  refine W.widen (k := 1) (n := 4) (Nat.le_of_ble_eq_true rfl) (Nat.le_of_ble_eq_true rfl) ?_
  exact W.iret (v := 0) hx hb hr (fun t ht hW => ⟨⟨0, th, rfl, ⟨rfl, rfl⟩, by rw [ht]; exact hP9, va_K.moved hW.alike hK9, hD9⟩, hS.F ht⟩) hS.2.2 dX12_wholes_60

def zwX12_spots : List Cond := .code yX12_spots cX12_spots 5 (some .int) :: (([.methodLink RX12 79 yX12_isVariant, .static yX12_isVariant, .initialized RX12, .methodLink RX12 50 yX12_isWrong, .instanceMethod yX12_isWrong, .selects RX12 yX12_isWrong yX12_isWrong, .fieldLink RX12 16 "SpotbeatModel" "spots" "Ljava/util/List;", .methodLink RX12 82 ⟨"java/util/List", "iterator", "()Ljava/util/Iterator;"⟩, .selects RJx4a65c ⟨"java/util/List", "iterator", "()Ljava/util/Iterator;"⟩ yJx4a65c_iterator_32c93, .instanceMethod yJx4a65c_iterator_32c93, .initialized RJx4a65c, .methodLink RX12 86 ⟨"java/util/Iterator", "hasNext", "()Z"⟩, .selects RJx35411 ⟨"java/util/Iterator", "hasNext", "()Z"⟩ yJx35411_hasNext_aae02, .instanceMethod yJx35411_hasNext_aae02, .initialized RJx35411] : List Cond) ++ (zwX12_isVariant ++ (zwX12_isWrong_0 ++ (wsX120 ++ (zwJx4a65c_iterator_32c93 ++ (zwJx35411_hasNext_aae02 ++ (zwX12_isWrong_1)))))))
theorem zgX12_spots : zwX12_spots.all goodWord = true := zgo rfl (zga (by decide +kernel) (zga zgX12_isVariant (zga zgX12_isWrong_0 (zga zgcX12 (zga zgJx4a65c_iterator_32c93 (zga zgJx35411_hasNext_aae02 (zgX12_isWrong_1)))))))
set_option maxHeartbeats 4000000 in
set_option maxRecDepth 100000 in
theorem c_X12_spots (l : Launch) (dC : Nat → ClassId) (dI : Nat → Nat → Nat) (sz : Nat) (mo : Nat) (lm : Nat → Nat) (e0 : Nat) (th : Int32) (v : Int32) : Met l yX12_spots zwX12_spots ({ frames := 3, cells := 1, slots := 4, locals := 53 }) (gPcE dC dI sz [(mo, .inr (15, [.int th, .ref (lm 0), .ref (lm 1), .ref (lm 2), .ref (lm 3), .ref (lm 4), .int 0, .int 0])), ((lm 0), .inr (2, [.int 0, .ref e0, .int 0])), ((lm 1), .inr (2, [.int 0, .ref e0, .int 0])), ((lm 2), .inr (2, [.int 0, .ref e0, .int 0])), ((lm 3), .inr (2, [.int 0, .ref e0, .int 0])), ((lm 4), .inr (2, [.int 0, .ref e0, .int 0]))] [] [.ref mo, .int v]) (va_Qi (fun (r : Int32) (u : Int32) => (u = 0 ∧ r = 0 ∧ ¬ (v < 0 ∨ 4 ≤ v)) ∨ (u = 1 ∧ (v < 0 ∨ 4 ≤ v))) (fun u t => va_P (dC, dI) vwCl [(mo, .inr (15, [.int u, .ref (lm 0), .ref (lm 1), .ref (lm 2), .ref (lm 3), .ref (lm 4), .int 0, .int 0])), ((lm 0), .inr (2, [.int 0, .ref e0, .int 0])), ((lm 1), .inr (2, [.int 0, .ref e0, .int 0])), ((lm 2), .inr (2, [.int 0, .ref e0, .int 0])), ((lm 3), .inr (2, [.int 0, .ref e0, .int 0])), ((lm 4), .inr (2, [.int 0, .ref e0, .int 0]))] t.heap ∧ va_K (dC, dI) vwCl [] t ∧ va_D (va_A [(mo, .inr (15, [.int th, .ref (lm 0), .ref (lm 1), .ref (lm 2), .ref (lm 3), .ref (lm 4), .int 0, .int 0])), ((lm 0), .inr (2, [.int 0, .ref e0, .int 0])), ((lm 1), .inr (2, [.int 0, .ref e0, .int 0])), ((lm 2), .inr (2, [.int 0, .ref e0, .int 0])), ((lm 3), .inr (2, [.int 0, .ref e0, .int 0])), ((lm 4), .inr (2, [.int 0, .ref e0, .int 0]))] sz) [(mo, .inr (15, [.int u, .ref (lm 0), .ref (lm 1), .ref (lm 2), .ref (lm 3), .ref (lm 4), .int 0, .int 0])), ((lm 0), .inr (2, [.int 0, .ref e0, .int 0])), ((lm 1), .inr (2, [.int 0, .ref e0, .int 0])), ((lm 2), .inr (2, [.int 0, .ref e0, .int 0])), ((lm 3), .inr (2, [.int 0, .ref e0, .int 0])), ((lm 4), .inr (2, [.int 0, .ref e0, .int 0]))]) (va_A [(mo, .inr (15, [.int th, .ref (lm 0), .ref (lm 1), .ref (lm 2), .ref (lm 3), .ref (lm 4), .int 0, .int 0])), ((lm 0), .inr (2, [.int 0, .ref e0, .int 0])), ((lm 1), .inr (2, [.int 0, .ref e0, .int 0])), ((lm 2), .inr (2, [.int 0, .ref e0, .int 0])), ((lm 3), .inr (2, [.int 0, .ref e0, .int 0])), ((lm 4), .inr (2, [.int 0, .ref e0, .int 0]))] sz)) 1 4 (va_A [(mo, .inr (15, [.int th, .ref (lm 0), .ref (lm 1), .ref (lm 2), .ref (lm 3), .ref (lm 4), .int 0, .int 0])), ((lm 0), .inr (2, [.int 0, .ref e0, .int 0])), ((lm 1), .inr (2, [.int 0, .ref e0, .int 0])), ((lm 2), .inr (2, [.int 0, .ref e0, .int 0])), ((lm 3), .inr (2, [.int 0, .ref e0, .int 0])), ((lm 4), .inr (2, [.int 0, .ref e0, .int 0]))] sz) := by
  refine Met.ofW (cc := cX12_spots) (maxL := 5) (ret := (some .int)) (by decide) rfl ?_
  intro p e s m args below meth c s₁ B hml hv
  obtain ⟨rfl, hsz, hP, hK, hD0, hE⟩ := hv
  have hx := B.exec
  have hb := B.bytes
  have hr := B.returns
  have hts := atoms_spec (ws := zwX12_spots) B.pre
  have hown : s.vm.findClass RX12 = some m.cls := findClass_of_methodNamed B.named
  have hlocks := B.notSynchronized
  subst hsz
  have hD := hD0.self (sz := s.heap.size)
  generalize hAe : va_A [(mo, .inr (15, [.int th, .ref (lm 0), .ref (lm 1), .ref (lm 2), .ref (lm 3), .ref (lm 4), .int 0, .int 0])), ((lm 0), .inr (2, [.int 0, .ref e0, .int 0])), ((lm 1), .inr (2, [.int 0, .ref e0, .int 0])), ((lm 2), .inr (2, [.int 0, .ref e0, .int 0])), ((lm 3), .inr (2, [.int 0, .ref e0, .int 0])), ((lm 4), .inr (2, [.int 0, .ref e0, .int 0]))] s.heap.size = A at hD hE ⊢
  have hA : ∀ q : Nat, s.heap.size ≤ q → A q := fun q h => by rw [← hAe]; exact Or.inr h
  have hS : va_S A s.heap s.heap [] := va_S.rf
  have hP : va_P (dC, dI) vwCl [(mo, .inr (15, [.int th, .ref (lm 0), .ref (lm 1), .ref (lm 2), .ref (lm 3), .ref (lm 4), .int 0, .int 0])), ((lm 0), .inr (2, [.int 0, .ref e0, .int 0])), ((lm 1), .inr (2, [.int 0, .ref e0, .int 0])), ((lm 2), .inr (2, [.int 0, .ref e0, .int 0])), ((lm 3), .inr (2, [.int 0, .ref e0, .int 0])), ((lm 4), .inr (2, [.int 0, .ref e0, .int 0]))] s.heap := hP
  have hl := lv_entry ([.ref mo, .int v]) (n := 5) (Nat.le_of_ble_eq_true rfl)
  rw [lg_entry_eq]
  generalize (lg_sl ([.ref mo, .int v]) ++ List.replicate (5 - (lg_sl ([.ref mo, .int v])).length) Slot.unset).toArray = ls at hl ⊢
  have hl : lv_has ls 5 [(0, .ref mo), (1, .int v)] := hl
  refine lv_aload_n hx hb dX12_spots_0 rfl (lv_at hl 0 rfl) ?_
  refine lv_iload_n hx hb dX12_spots_1 rfl (lv_at hl 1 rfl) ?_
  refine va_calli (va_runS (As := [.int v]) (rest := [.ref mo]) ⟨hx, hb, hml, hown, hts⟩ (c_X12_isVariant l dC dI s.heap.size v) (va_cwS 1 hts (goodIn_app (goodIn_of _ (by decide +kernel)) (goodIn_sub ((fun w h => List.mem_cons_of_mem _ (List.mem_append_right _ (List.mem_append_left _ h)))) zgX12_isVariant)) rfl rfl rfl (by decide +kernel) ⟨Nat.le_of_ble_eq_true rfl, Nat.le_of_ble_eq_true rfl⟩) ⟨nPc_blind, nPc_pass⟩ rfl rfl hl.1 rfl (lv_room (Nat.le_of_ble_eq_true rfl)) dX12_spots_2 ⟨Nat.le_of_ble_eq_true rfl, Nat.le_of_ble_eq_true rfl⟩) hS (fun q _ h => hA q (Nat.le_trans hS.1 h)) (fun q h => hA q (Nat.le_trans hS.1 h)) (fun r_1 u_2 t H locs ht hvm hw hB hz hk hS => ?_)
  have hP := zkn hP hk
  rcases (show (r_1 = 1 ∧ ¬ (v < 0 ∨ 4 ≤ v)) ∨ (r_1 = 0 ∧ (v < 0 ∨ 4 ≤ v)) from hw) with ⟨rfl, h_3⟩ | ⟨rfl, h_3⟩
  · refine lv_if_eq (tgt := 12) hx hb dX12_spots_5 (by decide) (fun c_4 => absurd c_4 (by decide)) (fun _ => ?_)
    refine lv_iconst (v := 0) hx hb dX12_spots_8 (by decide) ?_
    refine lv_goto (tgt := 13) hx hb dX12_spots_9 (by decide) ?_
    have hPc := hP.sub (ws' := [(mo, .inr (15, [.int th, .ref (lm 0), .ref (lm 1), .ref (lm 2), .ref (lm 3), .ref (lm 4), .int 0, .int 0])), ((lm 0), .inr (2, [.int 0, .ref e0, .int 0])), ((lm 1), .inr (2, [.int 0, .ref e0, .int 0])), ((lm 2), .inr (2, [.int 0, .ref e0, .int 0])), ((lm 3), .inr (2, [.int 0, .ref e0, .int 0])), ((lm 4), .inr (2, [.int 0, .ref e0, .int 0]))]) [0, 1, 2, 3, 4, 5] rfl
    have hDc := hD.sub (ws' := [(mo, .inr (15, [.int th, .ref (lm 0), .ref (lm 1), .ref (lm 2), .ref (lm 3), .ref (lm 4), .int 0, .int 0])), ((lm 0), .inr (2, [.int 0, .ref e0, .int 0])), ((lm 1), .inr (2, [.int 0, .ref e0, .int 0])), ((lm 2), .inr (2, [.int 0, .ref e0, .int 0])), ((lm 3), .inr (2, [.int 0, .ref e0, .int 0])), ((lm 4), .inr (2, [.int 0, .ref e0, .int 0]))]) [0, 1, 2, 3, 4, 5] (by decide) rfl
    have hKc := hK.sub (tys' := []) [] rfl
    have hFc := va_free (wc := [(mo, .inr (15, [.int th, .ref (lm 0), .ref (lm 1), .ref (lm 2), .ref (lm 3), .ref (lm 4), .int 0, .int 0])), ((lm 0), .inr (2, [.int 0, .ref e0, .int 0])), ((lm 1), .inr (2, [.int 0, .ref e0, .int 0])), ((lm 2), .inr (2, [.int 0, .ref e0, .int 0])), ((lm 3), .inr (2, [.int 0, .ref e0, .int 0])), ((lm 4), .inr (2, [.int 0, .ref e0, .int 0]))]) hD hS hA [0, 1, 2, 3, 4, 5] rfl
    refine va_calli (va_runV (As := [.int 0]) (rest := []) ⟨hx, hb, hml, hown, hts⟩ (c_X12_isWrong_0 l dC dI H.size mo lm e0 th) (cwV 1 hts (goodIn_app (goodIn_of _ (by decide +kernel)) (goodIn_sub ((fun w h => List.mem_cons_of_mem _ (List.mem_append_right _ (List.mem_append_right _ (List.mem_append_left _ h))))) zgX12_isWrong_0)) rfl rfl rfl (by decide +kernel) ⟨Nat.le_of_ble_eq_true rfl, Nat.le_of_ble_eq_true rfl⟩) ⟨gPcE_blind, va_recv hK hP (ci := 15) (q0 := 0) rfl rfl, gPcE_pass hPc hKc hDc hE hS hFc⟩ rfl rfl hl.1 rfl (lv_room (Nat.le_of_ble_eq_true rfl)) dX12_spots_13 ⟨Nat.le_of_ble_eq_true rfl, Nat.le_of_ble_eq_true rfl⟩) hS (fun q _ h => hFc q h) hFc (fun r_5 u_6 t H locs ht hvm hw hB hz hk hS => ?_)
    obtain ⟨hP1, hK1, hD1⟩ := hB
    rw [ht] at hP1
    obtain ⟨hP, hD⟩ := va_join (wr := []) (w1 := [(mo, .inr (15, [.int u_6, .ref (lm 0), .ref (lm 1), .ref (lm 2), .ref (lm 3), .ref (lm 4), .int 0, .int 0])), ((lm 0), .inr (2, [.int 0, .ref e0, .int 0])), ((lm 1), .inr (2, [.int 0, .ref e0, .int 0])), ((lm 2), .inr (2, [.int 0, .ref e0, .int 0])), ((lm 3), .inr (2, [.int 0, .ref e0, .int 0])), ((lm 4), .inr (2, [.int 0, .ref e0, .int 0]))]) hP hD [0, 1, 2, 3, 4, 5] [] rfl rfl (by decide) (by decide) hk hFc hP1 hD1
    have hP : va_P (dC, dI) vwCl [(mo, .inr (15, [.int u_6, .ref (lm 0), .ref (lm 1), .ref (lm 2), .ref (lm 3), .ref (lm 4), .int 0, .int 0])), ((lm 0), .inr (2, [.int 0, .ref e0, .int 0])), ((lm 1), .inr (2, [.int 0, .ref e0, .int 0])), ((lm 2), .inr (2, [.int 0, .ref e0, .int 0])), ((lm 3), .inr (2, [.int 0, .ref e0, .int 0])), ((lm 4), .inr (2, [.int 0, .ref e0, .int 0]))] H := hP
    have hD : va_D A [(mo, .inr (15, [.int u_6, .ref (lm 0), .ref (lm 1), .ref (lm 2), .ref (lm 3), .ref (lm 4), .int 0, .int 0])), ((lm 0), .inr (2, [.int 0, .ref e0, .int 0])), ((lm 1), .inr (2, [.int 0, .ref e0, .int 0])), ((lm 2), .inr (2, [.int 0, .ref e0, .int 0])), ((lm 3), .inr (2, [.int 0, .ref e0, .int 0])), ((lm 4), .inr (2, [.int 0, .ref e0, .int 0]))] := hD
    have hw : r_5 = 0 ∧ u_6 = 0 := hw
    obtain ⟨rfl, rfl⟩ : r_5 = 0 ∧ u_6 = 0 := hw
    refine lv_if_eq (tgt := 21) hx hb dX12_spots_16 (by decide) (fun _ => ?_) (fun c_7 => absurd c_7 (by decide))
    refine lv_iconst (v := 0) hx hb dX12_spots_21 (by decide) ?_
    refine lv_istore_n (lv' := [(2, .int 0), (0, .ref mo), (1, .int v)]) hx hb dX12_spots_22 rfl hl (by decide) rfl (fun ls hl => ?_)
    refine lv_aload_n hx hb dX12_spots_23 rfl (lv_at hl 1 rfl) ?_
    refine va_get (D := (dC, dI)) (ci := 15) (v := .ref (lm 1)) (C := RX12) (T := TX12) (N := 8) hx hb hts (fun w h => List.mem_cons_of_mem _ (List.mem_append_right _ (List.mem_append_right _ (List.mem_append_right _ (List.mem_append_left _ h))))) hown hK hP 0 rfl rfl 2 (by decide) (hts (.fieldLink RX12 16 "SpotbeatModel" "spots" "Ljava/util/List;") (by decide +kernel)) (fun _ h9 => h9) rfl dX12_spots_24 ?_
    have hPc := hP.sub (ws' := [((lm 1), .inr (2, [.int 0, .ref e0, .int 0]))]) [2] rfl
    have hDc := hD.sub (ws' := [((lm 1), .inr (2, [.int 0, .ref e0, .int 0]))]) [2] (by decide) rfl
    have hKc := hK.sub (tys' := []) [] rfl
    have hFc := va_free (wc := [((lm 1), .inr (2, [.int 0, .ref e0, .int 0]))]) hD hS hA [2] rfl
    refine va_callFr (va_runF (As := []) (rest := []) ((hK.1 2 _ rfl).2) ⟨hx, hb, hml, hown, hts⟩ (c_Jx4a65c_iterator_32c93 l dC dI H.size e0 (lm 1)) (va_cwF 0 hts (goodIn_app (goodIn_of _ (by decide +kernel)) (goodIn_sub ((fun w h => List.mem_cons_of_mem _ (List.mem_append_right _ (List.mem_append_right _ (List.mem_append_right _ (List.mem_append_right _ (List.mem_append_left _ h))))))) zgJx4a65c_iterator_32c93)) rfl rfl rfl hE.2.2.2.2.2.2.2.2.1 (by decide +kernel) ⟨Nat.le_of_ble_eq_true rfl, Nat.le_of_ble_eq_true rfl⟩) ⟨gPc_blind, va_recv hK hP (ci := 2) (q0 := 2) rfl rfl, gPc_pass hPc hKc hDc⟩ rfl rfl hl.1 rfl (lv_room (Nat.le_of_ble_eq_true rfl)) dX12_spots_27 ⟨Nat.le_of_ble_eq_true rfl, Nat.le_of_ble_eq_true rfl⟩) hS (fun q _ h => hFc q h) hFc (fun u_9 r_8 t H locs ht hvm hw hB hz hk hS => ?_)
    obtain ⟨hP1, hK1, hD1⟩ := hB
    rw [ht] at hP1
    obtain ⟨hP, hD⟩ := va_join (wr := [(mo, .inr (15, [.int 0, .ref (lm 0), .ref (lm 1), .ref (lm 2), .ref (lm 3), .ref (lm 4), .int 0, .int 0])), ((lm 0), .inr (2, [.int 0, .ref e0, .int 0])), ((lm 2), .inr (2, [.int 0, .ref e0, .int 0])), ((lm 3), .inr (2, [.int 0, .ref e0, .int 0])), ((lm 4), .inr (2, [.int 0, .ref e0, .int 0]))]) (w1 := [(r_8, .inr (1, [.int 0, .int (-1), .int 0, .ref (lm 1)])), ((lm 1), .inr (2, [.int 0, .ref e0, .int 0]))]) hP hD [2] [0, 1, 3, 4, 5] rfl rfl (by decide) (by decide) hk hFc hP1 hD1
    have hP : va_P (dC, dI) vwCl [(mo, .inr (15, [.int 0, .ref (lm 0), .ref (lm 1), .ref (lm 2), .ref (lm 3), .ref (lm 4), .int 0, .int 0])), ((lm 0), .inr (2, [.int 0, .ref e0, .int 0])), ((lm 2), .inr (2, [.int 0, .ref e0, .int 0])), ((lm 3), .inr (2, [.int 0, .ref e0, .int 0])), ((lm 4), .inr (2, [.int 0, .ref e0, .int 0])), (r_8, .inr (1, [.int 0, .int (-1), .int 0, .ref (lm 1)])), ((lm 1), .inr (2, [.int 0, .ref e0, .int 0]))] H := hP
    have hD : va_D A [(mo, .inr (15, [.int 0, .ref (lm 0), .ref (lm 1), .ref (lm 2), .ref (lm 3), .ref (lm 4), .int 0, .int 0])), ((lm 0), .inr (2, [.int 0, .ref e0, .int 0])), ((lm 2), .inr (2, [.int 0, .ref e0, .int 0])), ((lm 3), .inr (2, [.int 0, .ref e0, .int 0])), ((lm 4), .inr (2, [.int 0, .ref e0, .int 0])), (r_8, .inr (1, [.int 0, .int (-1), .int 0, .ref (lm 1)])), ((lm 1), .inr (2, [.int 0, .ref e0, .int 0]))] := hD
    have hw : True := hw
    refine lv_astore_n (lv' := [(3, .ref r_8), (2, .int 0), (0, .ref mo), (1, .int v)]) hx hb dX12_spots_32 rfl hl (by decide) rfl (fun ls hl => ?_)
    refine lv_aload_n hx hb dX12_spots_33 rfl (lv_at hl 0 rfl) ?_
    have hPc := hP.sub (ws' := [(r_8, .inr (1, [.int 0, .int (-1), .int 0, .ref (lm 1)])), ((lm 1), .inr (2, [.int 0, .ref e0, .int 0]))]) [5, 6] rfl
    have hDc := hD.sub (ws' := [(r_8, .inr (1, [.int 0, .int (-1), .int 0, .ref (lm 1)])), ((lm 1), .inr (2, [.int 0, .ref e0, .int 0]))]) [5, 6] (by decide) rfl
    have hKc := hK.sub (tys' := []) [] rfl
    have hFc := va_free (wc := [(r_8, .inr (1, [.int 0, .int (-1), .int 0, .ref (lm 1)])), ((lm 1), .inr (2, [.int 0, .ref e0, .int 0]))]) hD hS hA [5, 6] rfl
    refine va_callFi (va_runF (As := []) (rest := []) ((hK.1 1 _ rfl).2) ⟨hx, hb, hml, hown, hts⟩ (c_Jx35411_hasNext_aae02 l dC dI H.size e0 r_8 (lm 1)) (va_cwF 0 hts (goodIn_app (goodIn_of _ (by decide +kernel)) (goodIn_sub ((fun w h => List.mem_cons_of_mem _ (List.mem_append_right _ (List.mem_append_right _ (List.mem_append_right _ (List.mem_append_right _ (List.mem_append_right _ (List.mem_append_left _ h)))))))) zgJx35411_hasNext_aae02)) rfl rfl rfl hE.2.2.2.2.2.2.2.2.2.2.1 (by decide +kernel) ⟨Nat.le_of_ble_eq_true rfl, Nat.le_of_ble_eq_true rfl⟩) ⟨gPcE_blind, va_recv hK hP (ci := 1) (q0 := 5) rfl rfl, gPcE_pass hPc hKc hDc hE hS hFc⟩ rfl rfl hl.1 rfl (lv_room (Nat.le_of_ble_eq_true rfl)) dX12_spots_34 ⟨Nat.le_of_ble_eq_true rfl, Nat.le_of_ble_eq_true rfl⟩) hS (fun q _ h => hFc q h) hFc (fun r_10 u_11 t H locs ht hvm hw hB hz hk hS => ?_)
    obtain ⟨hP1, hK1, hD1⟩ := hB
    rw [ht] at hP1
    obtain ⟨hP, hD⟩ := va_join (wr := [(mo, .inr (15, [.int 0, .ref (lm 0), .ref (lm 1), .ref (lm 2), .ref (lm 3), .ref (lm 4), .int 0, .int 0])), ((lm 0), .inr (2, [.int 0, .ref e0, .int 0])), ((lm 2), .inr (2, [.int 0, .ref e0, .int 0])), ((lm 3), .inr (2, [.int 0, .ref e0, .int 0])), ((lm 4), .inr (2, [.int 0, .ref e0, .int 0]))]) (w1 := [(r_8, .inr (1, [.int 0, .int (-1), .int 0, .ref (lm 1)])), ((lm 1), .inr (2, [.int 0, .ref e0, .int 0]))]) hP hD [5, 6] [0, 1, 2, 3, 4] rfl rfl (by decide) (by decide) hk hFc hP1 hD1
    have hP : va_P (dC, dI) vwCl [(mo, .inr (15, [.int 0, .ref (lm 0), .ref (lm 1), .ref (lm 2), .ref (lm 3), .ref (lm 4), .int 0, .int 0])), ((lm 0), .inr (2, [.int 0, .ref e0, .int 0])), ((lm 2), .inr (2, [.int 0, .ref e0, .int 0])), ((lm 3), .inr (2, [.int 0, .ref e0, .int 0])), ((lm 4), .inr (2, [.int 0, .ref e0, .int 0])), (r_8, .inr (1, [.int 0, .int (-1), .int 0, .ref (lm 1)])), ((lm 1), .inr (2, [.int 0, .ref e0, .int 0]))] H := hP
    have hD : va_D A [(mo, .inr (15, [.int 0, .ref (lm 0), .ref (lm 1), .ref (lm 2), .ref (lm 3), .ref (lm 4), .int 0, .int 0])), ((lm 0), .inr (2, [.int 0, .ref e0, .int 0])), ((lm 2), .inr (2, [.int 0, .ref e0, .int 0])), ((lm 3), .inr (2, [.int 0, .ref e0, .int 0])), ((lm 4), .inr (2, [.int 0, .ref e0, .int 0])), (r_8, .inr (1, [.int 0, .int (-1), .int 0, .ref (lm 1)])), ((lm 1), .inr (2, [.int 0, .ref e0, .int 0]))] := hD
    have hw : r_10 = 0 := hw
    subst hw
    refine lv_if_eq (tgt := 73) hx hb dX12_spots_39 (by decide) (fun _ => ?_) (fun c_12 => absurd c_12 (by decide))
    refine lv_iload_n hx hb dX12_spots_73 rfl (lv_at hl 1 rfl) ?_
    have hP9 := hP.sub (ws' := [(mo, .inr (15, [.int 0, .ref (lm 0), .ref (lm 1), .ref (lm 2), .ref (lm 3), .ref (lm 4), .int 0, .int 0])), ((lm 0), .inr (2, [.int 0, .ref e0, .int 0])), ((lm 1), .inr (2, [.int 0, .ref e0, .int 0])), ((lm 2), .inr (2, [.int 0, .ref e0, .int 0])), ((lm 3), .inr (2, [.int 0, .ref e0, .int 0])), ((lm 4), .inr (2, [.int 0, .ref e0, .int 0]))]) [0, 1, 6, 2, 3, 4] rfl
    have hD9 := hD.sub (ws' := [(mo, .inr (15, [.int 0, .ref (lm 0), .ref (lm 1), .ref (lm 2), .ref (lm 3), .ref (lm 4), .int 0, .int 0])), ((lm 0), .inr (2, [.int 0, .ref e0, .int 0])), ((lm 1), .inr (2, [.int 0, .ref e0, .int 0])), ((lm 2), .inr (2, [.int 0, .ref e0, .int 0])), ((lm 3), .inr (2, [.int 0, .ref e0, .int 0])), ((lm 4), .inr (2, [.int 0, .ref e0, .int 0]))]) [0, 1, 6, 2, 3, 4] (by decide) rfl
    have hK9 := hK.sub (tys' := []) [] rfl
    refine W.widen (k := 1) (n := 4) (Nat.le_of_ble_eq_true rfl) (Nat.le_of_ble_eq_true rfl) ?_
    exact W.iret (v := 0) hx hb hr (fun t ht hW => ⟨⟨0, 0, rfl, (Or.inl ⟨rfl, rfl, (by simp only [zPl, zPm, fa_lt, fa_le, fa_eq, zi_0, zi_1, zi_3, zi_4, zi_7, zi_8, zi_10, zi_12, zi_119, zi_m1] at h_3 ⊢ <;> omega)⟩), by rw [ht]; exact hP9, va_K.moved hW.alike hK9, hD9⟩, hS.F ht⟩) hS.2.2 dX12_spots_74
  · refine lv_if_eq (tgt := 12) hx hb dX12_spots_5 (by decide) (fun _ => ?_) (fun c_13 => absurd c_13 (by decide))
    refine lv_iconst (v := 1) hx hb dX12_spots_12 (by decide) ?_
    have hPc := hP.sub (ws' := [(mo, .inr (15, [.int th, .ref (lm 0), .ref (lm 1), .ref (lm 2), .ref (lm 3), .ref (lm 4), .int 0, .int 0])), ((lm 0), .inr (2, [.int 0, .ref e0, .int 0])), ((lm 1), .inr (2, [.int 0, .ref e0, .int 0])), ((lm 2), .inr (2, [.int 0, .ref e0, .int 0])), ((lm 3), .inr (2, [.int 0, .ref e0, .int 0])), ((lm 4), .inr (2, [.int 0, .ref e0, .int 0]))]) [0, 1, 2, 3, 4, 5] rfl
    have hDc := hD.sub (ws' := [(mo, .inr (15, [.int th, .ref (lm 0), .ref (lm 1), .ref (lm 2), .ref (lm 3), .ref (lm 4), .int 0, .int 0])), ((lm 0), .inr (2, [.int 0, .ref e0, .int 0])), ((lm 1), .inr (2, [.int 0, .ref e0, .int 0])), ((lm 2), .inr (2, [.int 0, .ref e0, .int 0])), ((lm 3), .inr (2, [.int 0, .ref e0, .int 0])), ((lm 4), .inr (2, [.int 0, .ref e0, .int 0]))]) [0, 1, 2, 3, 4, 5] (by decide) rfl
    have hKc := hK.sub (tys' := []) [] rfl
    have hFc := va_free (wc := [(mo, .inr (15, [.int th, .ref (lm 0), .ref (lm 1), .ref (lm 2), .ref (lm 3), .ref (lm 4), .int 0, .int 0])), ((lm 0), .inr (2, [.int 0, .ref e0, .int 0])), ((lm 1), .inr (2, [.int 0, .ref e0, .int 0])), ((lm 2), .inr (2, [.int 0, .ref e0, .int 0])), ((lm 3), .inr (2, [.int 0, .ref e0, .int 0])), ((lm 4), .inr (2, [.int 0, .ref e0, .int 0]))]) hD hS hA [0, 1, 2, 3, 4, 5] rfl
    refine va_calli (va_runV (As := [.int 1]) (rest := []) ⟨hx, hb, hml, hown, hts⟩ (c_X12_isWrong_1 l dC dI H.size mo lm e0 th) (cwV 1 hts (goodIn_app (goodIn_of _ (by decide +kernel)) (goodIn_sub ((fun w h => List.mem_cons_of_mem _ (List.mem_append_right _ (List.mem_append_right _ (List.mem_append_right _ (List.mem_append_right _ (List.mem_append_right _ (List.mem_append_right _ (h))))))))) zgX12_isWrong_1)) rfl rfl rfl (by decide +kernel) ⟨Nat.le_of_ble_eq_true rfl, Nat.le_of_ble_eq_true rfl⟩) ⟨gPcE_blind, va_recv hK hP (ci := 15) (q0 := 0) rfl rfl, gPcE_pass hPc hKc hDc hE hS hFc⟩ rfl rfl hl.1 rfl (lv_room (Nat.le_of_ble_eq_true rfl)) dX12_spots_13 ⟨Nat.le_of_ble_eq_true rfl, Nat.le_of_ble_eq_true rfl⟩) hS (fun q _ h => hFc q h) hFc (fun r_14 u_15 t H locs ht hvm hw hB hz hk hS => ?_)
    obtain ⟨hP1, hK1, hD1⟩ := hB
    rw [ht] at hP1
    obtain ⟨hP, hD⟩ := va_join (wr := []) (w1 := [(mo, .inr (15, [.int u_15, .ref (lm 0), .ref (lm 1), .ref (lm 2), .ref (lm 3), .ref (lm 4), .int 0, .int 0])), ((lm 0), .inr (2, [.int 0, .ref e0, .int 0])), ((lm 1), .inr (2, [.int 0, .ref e0, .int 0])), ((lm 2), .inr (2, [.int 0, .ref e0, .int 0])), ((lm 3), .inr (2, [.int 0, .ref e0, .int 0])), ((lm 4), .inr (2, [.int 0, .ref e0, .int 0]))]) hP hD [0, 1, 2, 3, 4, 5] [] rfl rfl (by decide) (by decide) hk hFc hP1 hD1
    have hP : va_P (dC, dI) vwCl [(mo, .inr (15, [.int u_15, .ref (lm 0), .ref (lm 1), .ref (lm 2), .ref (lm 3), .ref (lm 4), .int 0, .int 0])), ((lm 0), .inr (2, [.int 0, .ref e0, .int 0])), ((lm 1), .inr (2, [.int 0, .ref e0, .int 0])), ((lm 2), .inr (2, [.int 0, .ref e0, .int 0])), ((lm 3), .inr (2, [.int 0, .ref e0, .int 0])), ((lm 4), .inr (2, [.int 0, .ref e0, .int 0]))] H := hP
    have hD : va_D A [(mo, .inr (15, [.int u_15, .ref (lm 0), .ref (lm 1), .ref (lm 2), .ref (lm 3), .ref (lm 4), .int 0, .int 0])), ((lm 0), .inr (2, [.int 0, .ref e0, .int 0])), ((lm 1), .inr (2, [.int 0, .ref e0, .int 0])), ((lm 2), .inr (2, [.int 0, .ref e0, .int 0])), ((lm 3), .inr (2, [.int 0, .ref e0, .int 0])), ((lm 4), .inr (2, [.int 0, .ref e0, .int 0]))] := hD
    have hw : r_14 = 1 ∧ u_15 = 1 := hw
    obtain ⟨rfl, rfl⟩ : r_14 = 1 ∧ u_15 = 1 := hw
    refine lv_if_eq (tgt := 21) hx hb dX12_spots_16 (by decide) (fun c_16 => absurd c_16 (by decide)) (fun _ => ?_)
    refine lv_iconst (v := 0) hx hb dX12_spots_19 (by decide) ?_
    have hP9 := hP.sub (ws' := [(mo, .inr (15, [.int 1, .ref (lm 0), .ref (lm 1), .ref (lm 2), .ref (lm 3), .ref (lm 4), .int 0, .int 0])), ((lm 0), .inr (2, [.int 0, .ref e0, .int 0])), ((lm 1), .inr (2, [.int 0, .ref e0, .int 0])), ((lm 2), .inr (2, [.int 0, .ref e0, .int 0])), ((lm 3), .inr (2, [.int 0, .ref e0, .int 0])), ((lm 4), .inr (2, [.int 0, .ref e0, .int 0]))]) [0, 1, 2, 3, 4, 5] rfl
    have hD9 := hD.sub (ws' := [(mo, .inr (15, [.int 1, .ref (lm 0), .ref (lm 1), .ref (lm 2), .ref (lm 3), .ref (lm 4), .int 0, .int 0])), ((lm 0), .inr (2, [.int 0, .ref e0, .int 0])), ((lm 1), .inr (2, [.int 0, .ref e0, .int 0])), ((lm 2), .inr (2, [.int 0, .ref e0, .int 0])), ((lm 3), .inr (2, [.int 0, .ref e0, .int 0])), ((lm 4), .inr (2, [.int 0, .ref e0, .int 0]))]) [0, 1, 2, 3, 4, 5] (by decide) rfl
    have hK9 := hK.sub (tys' := []) [] rfl
    refine W.widen (k := 1) (n := 4) (Nat.le_of_ble_eq_true rfl) (Nat.le_of_ble_eq_true rfl) ?_
    exact W.iret (v := 0) hx hb hr (fun t ht hW => ⟨⟨0, 1, rfl, (Or.inr ⟨rfl, (by simp only [zPl, zPm, fa_lt, fa_le, fa_eq, zi_0, zi_1, zi_3, zi_4, zi_7, zi_8, zi_10, zi_12, zi_119, zi_m1] at h_3 ⊢ <;> omega)⟩), by rw [ht]; exact hP9, va_K.moved hW.alike hK9, hD9⟩, hS.F ht⟩) hS.2.2 dX12_spots_20

def zwX12_isHeld : List Cond := .code yX12_isHeld cX12_isHeld 7 (some .boolean) :: (([.methodLink RX12 79 yX12_isVariant, .static yX12_isVariant, .initialized RX12, .methodLink RX12 50 yX12_isWrong, .instanceMethod yX12_isWrong, .selects RX12 yX12_isWrong yX12_isWrong, .fieldLink RX12 10 "SpotbeatModel" "parents" "Ljava/util/List;", .methodLink RX12 32 ⟨"java/util/List", "size", "()I"⟩, .selects RJx4a65c ⟨"java/util/List", "size", "()I"⟩ yJx4a65c_size_8abf5, .instanceMethod yJx4a65c_size_8abf5, .initialized RJx4a65c] : List Cond) ++ (zwX12_isVariant ++ (zwX12_isWrong_0 ++ (wsX120 ++ (zwJx4a65c_size_8abf5 ++ (zwX12_isWrong_1))))))
theorem zgX12_isHeld : zwX12_isHeld.all goodWord = true := zgo rfl (zga (by decide +kernel) (zga zgX12_isVariant (zga zgX12_isWrong_0 (zga zgcX12 (zga zgJx4a65c_size_8abf5 (zgX12_isWrong_1))))))
set_option maxHeartbeats 4000000 in
set_option maxRecDepth 100000 in
theorem c_X12_isHeld (l : Launch) (dC : Nat → ClassId) (dI : Nat → Nat → Nat) (sz : Nat) (mo : Nat) (lm : Nat → Nat) (e0 : Nat) (th : Int32) (v : Int32) : Met l yX12_isHeld zwX12_isHeld ({ frames := 2, cells := 0, slots := 0, locals := 42 }) (gPcE dC dI sz [(mo, .inr (15, [.int th, .ref (lm 0), .ref (lm 1), .ref (lm 2), .ref (lm 3), .ref (lm 4), .int 0, .int 0])), ((lm 0), .inr (2, [.int 0, .ref e0, .int 0])), ((lm 1), .inr (2, [.int 0, .ref e0, .int 0])), ((lm 2), .inr (2, [.int 0, .ref e0, .int 0])), ((lm 3), .inr (2, [.int 0, .ref e0, .int 0])), ((lm 4), .inr (2, [.int 0, .ref e0, .int 0]))] [] [.ref mo, .int v]) (va_Qi (fun (r : Int32) (u : Int32) => (u = 0 ∧ r = 1 ∧ ¬ (v < 0 ∨ 4 ≤ v)) ∨ (u = 1 ∧ (v < 0 ∨ 4 ≤ v))) (fun u t => va_P (dC, dI) vwCl [(mo, .inr (15, [.int u, .ref (lm 0), .ref (lm 1), .ref (lm 2), .ref (lm 3), .ref (lm 4), .int 0, .int 0])), ((lm 0), .inr (2, [.int 0, .ref e0, .int 0])), ((lm 1), .inr (2, [.int 0, .ref e0, .int 0])), ((lm 2), .inr (2, [.int 0, .ref e0, .int 0])), ((lm 3), .inr (2, [.int 0, .ref e0, .int 0])), ((lm 4), .inr (2, [.int 0, .ref e0, .int 0]))] t.heap ∧ va_K (dC, dI) vwCl [] t ∧ va_D (va_A [(mo, .inr (15, [.int th, .ref (lm 0), .ref (lm 1), .ref (lm 2), .ref (lm 3), .ref (lm 4), .int 0, .int 0])), ((lm 0), .inr (2, [.int 0, .ref e0, .int 0])), ((lm 1), .inr (2, [.int 0, .ref e0, .int 0])), ((lm 2), .inr (2, [.int 0, .ref e0, .int 0])), ((lm 3), .inr (2, [.int 0, .ref e0, .int 0])), ((lm 4), .inr (2, [.int 0, .ref e0, .int 0]))] sz) [(mo, .inr (15, [.int u, .ref (lm 0), .ref (lm 1), .ref (lm 2), .ref (lm 3), .ref (lm 4), .int 0, .int 0])), ((lm 0), .inr (2, [.int 0, .ref e0, .int 0])), ((lm 1), .inr (2, [.int 0, .ref e0, .int 0])), ((lm 2), .inr (2, [.int 0, .ref e0, .int 0])), ((lm 3), .inr (2, [.int 0, .ref e0, .int 0])), ((lm 4), .inr (2, [.int 0, .ref e0, .int 0]))]) (va_A [(mo, .inr (15, [.int th, .ref (lm 0), .ref (lm 1), .ref (lm 2), .ref (lm 3), .ref (lm 4), .int 0, .int 0])), ((lm 0), .inr (2, [.int 0, .ref e0, .int 0])), ((lm 1), .inr (2, [.int 0, .ref e0, .int 0])), ((lm 2), .inr (2, [.int 0, .ref e0, .int 0])), ((lm 3), .inr (2, [.int 0, .ref e0, .int 0])), ((lm 4), .inr (2, [.int 0, .ref e0, .int 0]))] sz)) 0 0 (va_A [(mo, .inr (15, [.int th, .ref (lm 0), .ref (lm 1), .ref (lm 2), .ref (lm 3), .ref (lm 4), .int 0, .int 0])), ((lm 0), .inr (2, [.int 0, .ref e0, .int 0])), ((lm 1), .inr (2, [.int 0, .ref e0, .int 0])), ((lm 2), .inr (2, [.int 0, .ref e0, .int 0])), ((lm 3), .inr (2, [.int 0, .ref e0, .int 0])), ((lm 4), .inr (2, [.int 0, .ref e0, .int 0]))] sz) := by
  refine Met.ofW (cc := cX12_isHeld) (maxL := 7) (ret := (some .boolean)) (by decide) rfl ?_
  intro p e s m args below meth c s₁ B hml hv
  obtain ⟨rfl, hsz, hP, hK, hD0, hE⟩ := hv
  have hx := B.exec
  have hb := B.bytes
  have hr := B.returns
  have hts := atoms_spec (ws := zwX12_isHeld) B.pre
  have hown : s.vm.findClass RX12 = some m.cls := findClass_of_methodNamed B.named
  have hlocks := B.notSynchronized
  subst hsz
  have hD := hD0.self (sz := s.heap.size)
  generalize hAe : va_A [(mo, .inr (15, [.int th, .ref (lm 0), .ref (lm 1), .ref (lm 2), .ref (lm 3), .ref (lm 4), .int 0, .int 0])), ((lm 0), .inr (2, [.int 0, .ref e0, .int 0])), ((lm 1), .inr (2, [.int 0, .ref e0, .int 0])), ((lm 2), .inr (2, [.int 0, .ref e0, .int 0])), ((lm 3), .inr (2, [.int 0, .ref e0, .int 0])), ((lm 4), .inr (2, [.int 0, .ref e0, .int 0]))] s.heap.size = A at hD hE ⊢
  have hA : ∀ q : Nat, s.heap.size ≤ q → A q := fun q h => by rw [← hAe]; exact Or.inr h
  have hS : va_S A s.heap s.heap [] := va_S.rf
  have hP : va_P (dC, dI) vwCl [(mo, .inr (15, [.int th, .ref (lm 0), .ref (lm 1), .ref (lm 2), .ref (lm 3), .ref (lm 4), .int 0, .int 0])), ((lm 0), .inr (2, [.int 0, .ref e0, .int 0])), ((lm 1), .inr (2, [.int 0, .ref e0, .int 0])), ((lm 2), .inr (2, [.int 0, .ref e0, .int 0])), ((lm 3), .inr (2, [.int 0, .ref e0, .int 0])), ((lm 4), .inr (2, [.int 0, .ref e0, .int 0]))] s.heap := hP
  have hl := lv_entry ([.ref mo, .int v]) (n := 7) (Nat.le_of_ble_eq_true rfl)
  rw [lg_entry_eq]
  generalize (lg_sl ([.ref mo, .int v]) ++ List.replicate (7 - (lg_sl ([.ref mo, .int v])).length) Slot.unset).toArray = ls at hl ⊢
  have hl : lv_has ls 7 [(0, .ref mo), (1, .int v)] := hl
  refine lv_aload_n hx hb dX12_isHeld_0 rfl (lv_at hl 0 rfl) ?_
  refine lv_iload_n hx hb dX12_isHeld_1 rfl (lv_at hl 1 rfl) ?_
  refine va_calli (va_runS (As := [.int v]) (rest := [.ref mo]) ⟨hx, hb, hml, hown, hts⟩ (c_X12_isVariant l dC dI s.heap.size v) (va_cwS 1 hts (goodIn_app (goodIn_of _ (by decide +kernel)) (goodIn_sub ((fun w h => List.mem_cons_of_mem _ (List.mem_append_right _ (List.mem_append_left _ h)))) zgX12_isVariant)) rfl rfl rfl (by decide +kernel) ⟨Nat.le_of_ble_eq_true rfl, Nat.le_of_ble_eq_true rfl⟩) ⟨nPc_blind, nPc_pass⟩ rfl rfl hl.1 rfl (lv_room (Nat.le_of_ble_eq_true rfl)) dX12_isHeld_2 ⟨Nat.le_of_ble_eq_true rfl, Nat.le_of_ble_eq_true rfl⟩) hS (fun q _ h => hA q (Nat.le_trans hS.1 h)) (fun q h => hA q (Nat.le_trans hS.1 h)) (fun r_1 u_2 t H locs ht hvm hw hB hz hk hS => ?_)
  have hP := zkn hP hk
  rcases (show (r_1 = 1 ∧ ¬ (v < 0 ∨ 4 ≤ v)) ∨ (r_1 = 0 ∧ (v < 0 ∨ 4 ≤ v)) from hw) with ⟨rfl, h_3⟩ | ⟨rfl, h_3⟩
  · refine lv_if_eq (tgt := 12) hx hb dX12_isHeld_5 (by decide) (fun c_4 => absurd c_4 (by decide)) (fun _ => ?_)
    refine lv_iconst (v := 0) hx hb dX12_isHeld_8 (by decide) ?_
    refine lv_goto (tgt := 13) hx hb dX12_isHeld_9 (by decide) ?_
    have hPc := hP.sub (ws' := [(mo, .inr (15, [.int th, .ref (lm 0), .ref (lm 1), .ref (lm 2), .ref (lm 3), .ref (lm 4), .int 0, .int 0])), ((lm 0), .inr (2, [.int 0, .ref e0, .int 0])), ((lm 1), .inr (2, [.int 0, .ref e0, .int 0])), ((lm 2), .inr (2, [.int 0, .ref e0, .int 0])), ((lm 3), .inr (2, [.int 0, .ref e0, .int 0])), ((lm 4), .inr (2, [.int 0, .ref e0, .int 0]))]) [0, 1, 2, 3, 4, 5] rfl
    have hDc := hD.sub (ws' := [(mo, .inr (15, [.int th, .ref (lm 0), .ref (lm 1), .ref (lm 2), .ref (lm 3), .ref (lm 4), .int 0, .int 0])), ((lm 0), .inr (2, [.int 0, .ref e0, .int 0])), ((lm 1), .inr (2, [.int 0, .ref e0, .int 0])), ((lm 2), .inr (2, [.int 0, .ref e0, .int 0])), ((lm 3), .inr (2, [.int 0, .ref e0, .int 0])), ((lm 4), .inr (2, [.int 0, .ref e0, .int 0]))]) [0, 1, 2, 3, 4, 5] (by decide) rfl
    have hKc := hK.sub (tys' := []) [] rfl
    have hFc := va_free (wc := [(mo, .inr (15, [.int th, .ref (lm 0), .ref (lm 1), .ref (lm 2), .ref (lm 3), .ref (lm 4), .int 0, .int 0])), ((lm 0), .inr (2, [.int 0, .ref e0, .int 0])), ((lm 1), .inr (2, [.int 0, .ref e0, .int 0])), ((lm 2), .inr (2, [.int 0, .ref e0, .int 0])), ((lm 3), .inr (2, [.int 0, .ref e0, .int 0])), ((lm 4), .inr (2, [.int 0, .ref e0, .int 0]))]) hD hS hA [0, 1, 2, 3, 4, 5] rfl
    refine va_calli (va_runV (As := [.int 0]) (rest := []) ⟨hx, hb, hml, hown, hts⟩ (c_X12_isWrong_0 l dC dI H.size mo lm e0 th) (cwV 1 hts (goodIn_app (goodIn_of _ (by decide +kernel)) (goodIn_sub ((fun w h => List.mem_cons_of_mem _ (List.mem_append_right _ (List.mem_append_right _ (List.mem_append_left _ h))))) zgX12_isWrong_0)) rfl rfl rfl (by decide +kernel) ⟨Nat.le_of_ble_eq_true rfl, Nat.le_of_ble_eq_true rfl⟩) ⟨gPcE_blind, va_recv hK hP (ci := 15) (q0 := 0) rfl rfl, gPcE_pass hPc hKc hDc hE hS hFc⟩ rfl rfl hl.1 rfl (lv_room (Nat.le_of_ble_eq_true rfl)) dX12_isHeld_13 ⟨Nat.le_of_ble_eq_true rfl, Nat.le_of_ble_eq_true rfl⟩) hS (fun q _ h => hFc q h) hFc (fun r_5 u_6 t H locs ht hvm hw hB hz hk hS => ?_)
    obtain ⟨hP1, hK1, hD1⟩ := hB
    rw [ht] at hP1
    obtain ⟨hP, hD⟩ := va_join (wr := []) (w1 := [(mo, .inr (15, [.int u_6, .ref (lm 0), .ref (lm 1), .ref (lm 2), .ref (lm 3), .ref (lm 4), .int 0, .int 0])), ((lm 0), .inr (2, [.int 0, .ref e0, .int 0])), ((lm 1), .inr (2, [.int 0, .ref e0, .int 0])), ((lm 2), .inr (2, [.int 0, .ref e0, .int 0])), ((lm 3), .inr (2, [.int 0, .ref e0, .int 0])), ((lm 4), .inr (2, [.int 0, .ref e0, .int 0]))]) hP hD [0, 1, 2, 3, 4, 5] [] rfl rfl (by decide) (by decide) hk hFc hP1 hD1
    have hP : va_P (dC, dI) vwCl [(mo, .inr (15, [.int u_6, .ref (lm 0), .ref (lm 1), .ref (lm 2), .ref (lm 3), .ref (lm 4), .int 0, .int 0])), ((lm 0), .inr (2, [.int 0, .ref e0, .int 0])), ((lm 1), .inr (2, [.int 0, .ref e0, .int 0])), ((lm 2), .inr (2, [.int 0, .ref e0, .int 0])), ((lm 3), .inr (2, [.int 0, .ref e0, .int 0])), ((lm 4), .inr (2, [.int 0, .ref e0, .int 0]))] H := hP
    have hD : va_D A [(mo, .inr (15, [.int u_6, .ref (lm 0), .ref (lm 1), .ref (lm 2), .ref (lm 3), .ref (lm 4), .int 0, .int 0])), ((lm 0), .inr (2, [.int 0, .ref e0, .int 0])), ((lm 1), .inr (2, [.int 0, .ref e0, .int 0])), ((lm 2), .inr (2, [.int 0, .ref e0, .int 0])), ((lm 3), .inr (2, [.int 0, .ref e0, .int 0])), ((lm 4), .inr (2, [.int 0, .ref e0, .int 0]))] := hD
    have hw : r_5 = 0 ∧ u_6 = 0 := hw
    obtain ⟨rfl, rfl⟩ : r_5 = 0 ∧ u_6 = 0 := hw
    refine lv_if_eq (tgt := 21) hx hb dX12_isHeld_16 (by decide) (fun _ => ?_) (fun c_7 => absurd c_7 (by decide))
    refine lv_iconst (v := 1) hx hb dX12_isHeld_21 (by decide) ?_
    refine lv_istore_n (lv' := [(2, .int 1), (0, .ref mo), (1, .int v)]) hx hb dX12_isHeld_22 rfl hl (by decide) rfl (fun ls hl => ?_)
    refine lv_iconst (v := 1) hx hb dX12_isHeld_23 (by decide) ?_
    refine lv_istore_n (lv' := [(3, .int 1), (2, .int 1), (0, .ref mo), (1, .int v)]) hx hb dX12_isHeld_24 rfl hl (by decide) rfl (fun ls hl => ?_)
    refine lv_iload_n hx hb dX12_isHeld_25 rfl (lv_at hl 0 rfl) ?_
    refine lv_aload_n hx hb dX12_isHeld_26 rfl (lv_at hl 2 rfl) ?_
    refine va_get (D := (dC, dI)) (ci := 15) (v := .ref (lm 0)) (C := RX12) (T := TX12) (N := 8) hx hb hts (fun w h => List.mem_cons_of_mem _ (List.mem_append_right _ (List.mem_append_right _ (List.mem_append_right _ (List.mem_append_left _ h))))) hown hK hP 0 rfl rfl 1 (by decide) (hts (.fieldLink RX12 10 "SpotbeatModel" "parents" "Ljava/util/List;") (by decide +kernel)) (fun _ h9 => h9) rfl dX12_isHeld_27 ?_
    have hPc := hP.sub (ws' := [((lm 0), .inr (2, [.int 0, .ref e0, .int 0]))]) [1] rfl
    have hDc := hD.sub (ws' := [((lm 0), .inr (2, [.int 0, .ref e0, .int 0]))]) [1] (by decide) rfl
    have hKc := hK.sub (tys' := []) [] rfl
    have hFc := va_free (wc := [((lm 0), .inr (2, [.int 0, .ref e0, .int 0]))]) hD hS hA [1] rfl
    refine va_callFi (va_runF (As := []) (rest := [.int 1]) ((hK.1 2 _ rfl).2) ⟨hx, hb, hml, hown, hts⟩ (c_Jx4a65c_size_8abf5 l dC dI H.size e0 (lm 0)) (va_cwF 0 hts (goodIn_app (goodIn_of _ (by decide +kernel)) (goodIn_sub ((fun w h => List.mem_cons_of_mem _ (List.mem_append_right _ (List.mem_append_right _ (List.mem_append_right _ (List.mem_append_right _ (List.mem_append_left _ h))))))) zgJx4a65c_size_8abf5)) rfl rfl rfl hE.2.2.2.2.2.2.1 (by decide +kernel) ⟨Nat.le_of_ble_eq_true rfl, Nat.le_of_ble_eq_true rfl⟩) ⟨gPc_blind, va_recv hK hP (ci := 2) (q0 := 1) rfl rfl, gPc_pass hPc hKc hDc⟩ rfl rfl hl.1 rfl (lv_room (Nat.le_of_ble_eq_true rfl)) dX12_isHeld_30 ⟨Nat.le_of_ble_eq_true rfl, Nat.le_of_ble_eq_true rfl⟩) hS (fun q _ h => hFc q h) hFc (fun r_8 u_9 t H locs ht hvm hw hB hz hk hS => ?_)
    obtain ⟨hP1, hK1, hD1⟩ := hB
    rw [ht] at hP1
    obtain ⟨hP, hD⟩ := va_join (wr := [(mo, .inr (15, [.int 0, .ref (lm 0), .ref (lm 1), .ref (lm 2), .ref (lm 3), .ref (lm 4), .int 0, .int 0])), ((lm 1), .inr (2, [.int 0, .ref e0, .int 0])), ((lm 2), .inr (2, [.int 0, .ref e0, .int 0])), ((lm 3), .inr (2, [.int 0, .ref e0, .int 0])), ((lm 4), .inr (2, [.int 0, .ref e0, .int 0]))]) (w1 := [((lm 0), .inr (2, [.int 0, .ref e0, .int 0]))]) hP hD [1] [0, 2, 3, 4, 5] rfl rfl (by decide) (by decide) hk hFc hP1 hD1
    have hP : va_P (dC, dI) vwCl [(mo, .inr (15, [.int 0, .ref (lm 0), .ref (lm 1), .ref (lm 2), .ref (lm 3), .ref (lm 4), .int 0, .int 0])), ((lm 1), .inr (2, [.int 0, .ref e0, .int 0])), ((lm 2), .inr (2, [.int 0, .ref e0, .int 0])), ((lm 3), .inr (2, [.int 0, .ref e0, .int 0])), ((lm 4), .inr (2, [.int 0, .ref e0, .int 0])), ((lm 0), .inr (2, [.int 0, .ref e0, .int 0]))] H := hP
    have hD : va_D A [(mo, .inr (15, [.int 0, .ref (lm 0), .ref (lm 1), .ref (lm 2), .ref (lm 3), .ref (lm 4), .int 0, .int 0])), ((lm 1), .inr (2, [.int 0, .ref e0, .int 0])), ((lm 2), .inr (2, [.int 0, .ref e0, .int 0])), ((lm 3), .inr (2, [.int 0, .ref e0, .int 0])), ((lm 4), .inr (2, [.int 0, .ref e0, .int 0])), ((lm 0), .inr (2, [.int 0, .ref e0, .int 0]))] := hD
    have hw : r_8 = 0 := hw
    subst hw
    refine lv_icmp_ge (tgt := 181) hx hb dX12_isHeld_35 (by decide) (fun _ => ?_) (fun c_10 => absurd c_10 (by decide))
    refine lv_iload_n hx hb dX12_isHeld_181 rfl (lv_at hl 1 rfl) ?_
    have hP9 := hP.sub (ws' := [(mo, .inr (15, [.int 0, .ref (lm 0), .ref (lm 1), .ref (lm 2), .ref (lm 3), .ref (lm 4), .int 0, .int 0])), ((lm 0), .inr (2, [.int 0, .ref e0, .int 0])), ((lm 1), .inr (2, [.int 0, .ref e0, .int 0])), ((lm 2), .inr (2, [.int 0, .ref e0, .int 0])), ((lm 3), .inr (2, [.int 0, .ref e0, .int 0])), ((lm 4), .inr (2, [.int 0, .ref e0, .int 0]))]) [0, 5, 1, 2, 3, 4] rfl
    have hD9 := hD.sub (ws' := [(mo, .inr (15, [.int 0, .ref (lm 0), .ref (lm 1), .ref (lm 2), .ref (lm 3), .ref (lm 4), .int 0, .int 0])), ((lm 0), .inr (2, [.int 0, .ref e0, .int 0])), ((lm 1), .inr (2, [.int 0, .ref e0, .int 0])), ((lm 2), .inr (2, [.int 0, .ref e0, .int 0])), ((lm 3), .inr (2, [.int 0, .ref e0, .int 0])), ((lm 4), .inr (2, [.int 0, .ref e0, .int 0]))]) [0, 5, 1, 2, 3, 4] (by decide) rfl
    have hK9 := hK.sub (tys' := []) [] rfl
    refine W.widen (k := 0) (n := 0) (Nat.le_of_ble_eq_true rfl) (Nat.le_of_ble_eq_true rfl) ?_
    exact W.zret (v := 1) hx hb hr (by decide +kernel) (fun t ht hW => ⟨⟨1, 0, rfl, (Or.inl ⟨rfl, rfl, (by simp only [zPl, zPm, fa_lt, fa_le, fa_eq, zi_0, zi_1, zi_3, zi_4, zi_7, zi_8, zi_10, zi_12, zi_119, zi_m1] at h_3 ⊢ <;> omega)⟩), by rw [ht]; exact hP9, va_K.moved hW.alike hK9, hD9⟩, hS.F ht⟩) hS.2.2 dX12_isHeld_182
  · refine lv_if_eq (tgt := 12) hx hb dX12_isHeld_5 (by decide) (fun _ => ?_) (fun c_11 => absurd c_11 (by decide))
    refine lv_iconst (v := 1) hx hb dX12_isHeld_12 (by decide) ?_
    have hPc := hP.sub (ws' := [(mo, .inr (15, [.int th, .ref (lm 0), .ref (lm 1), .ref (lm 2), .ref (lm 3), .ref (lm 4), .int 0, .int 0])), ((lm 0), .inr (2, [.int 0, .ref e0, .int 0])), ((lm 1), .inr (2, [.int 0, .ref e0, .int 0])), ((lm 2), .inr (2, [.int 0, .ref e0, .int 0])), ((lm 3), .inr (2, [.int 0, .ref e0, .int 0])), ((lm 4), .inr (2, [.int 0, .ref e0, .int 0]))]) [0, 1, 2, 3, 4, 5] rfl
    have hDc := hD.sub (ws' := [(mo, .inr (15, [.int th, .ref (lm 0), .ref (lm 1), .ref (lm 2), .ref (lm 3), .ref (lm 4), .int 0, .int 0])), ((lm 0), .inr (2, [.int 0, .ref e0, .int 0])), ((lm 1), .inr (2, [.int 0, .ref e0, .int 0])), ((lm 2), .inr (2, [.int 0, .ref e0, .int 0])), ((lm 3), .inr (2, [.int 0, .ref e0, .int 0])), ((lm 4), .inr (2, [.int 0, .ref e0, .int 0]))]) [0, 1, 2, 3, 4, 5] (by decide) rfl
    have hKc := hK.sub (tys' := []) [] rfl
    have hFc := va_free (wc := [(mo, .inr (15, [.int th, .ref (lm 0), .ref (lm 1), .ref (lm 2), .ref (lm 3), .ref (lm 4), .int 0, .int 0])), ((lm 0), .inr (2, [.int 0, .ref e0, .int 0])), ((lm 1), .inr (2, [.int 0, .ref e0, .int 0])), ((lm 2), .inr (2, [.int 0, .ref e0, .int 0])), ((lm 3), .inr (2, [.int 0, .ref e0, .int 0])), ((lm 4), .inr (2, [.int 0, .ref e0, .int 0]))]) hD hS hA [0, 1, 2, 3, 4, 5] rfl
    refine va_calli (va_runV (As := [.int 1]) (rest := []) ⟨hx, hb, hml, hown, hts⟩ (c_X12_isWrong_1 l dC dI H.size mo lm e0 th) (cwV 1 hts (goodIn_app (goodIn_of _ (by decide +kernel)) (goodIn_sub ((fun w h => List.mem_cons_of_mem _ (List.mem_append_right _ (List.mem_append_right _ (List.mem_append_right _ (List.mem_append_right _ (List.mem_append_right _ (h)))))))) zgX12_isWrong_1)) rfl rfl rfl (by decide +kernel) ⟨Nat.le_of_ble_eq_true rfl, Nat.le_of_ble_eq_true rfl⟩) ⟨gPcE_blind, va_recv hK hP (ci := 15) (q0 := 0) rfl rfl, gPcE_pass hPc hKc hDc hE hS hFc⟩ rfl rfl hl.1 rfl (lv_room (Nat.le_of_ble_eq_true rfl)) dX12_isHeld_13 ⟨Nat.le_of_ble_eq_true rfl, Nat.le_of_ble_eq_true rfl⟩) hS (fun q _ h => hFc q h) hFc (fun r_12 u_13 t H locs ht hvm hw hB hz hk hS => ?_)
    obtain ⟨hP1, hK1, hD1⟩ := hB
    rw [ht] at hP1
    obtain ⟨hP, hD⟩ := va_join (wr := []) (w1 := [(mo, .inr (15, [.int u_13, .ref (lm 0), .ref (lm 1), .ref (lm 2), .ref (lm 3), .ref (lm 4), .int 0, .int 0])), ((lm 0), .inr (2, [.int 0, .ref e0, .int 0])), ((lm 1), .inr (2, [.int 0, .ref e0, .int 0])), ((lm 2), .inr (2, [.int 0, .ref e0, .int 0])), ((lm 3), .inr (2, [.int 0, .ref e0, .int 0])), ((lm 4), .inr (2, [.int 0, .ref e0, .int 0]))]) hP hD [0, 1, 2, 3, 4, 5] [] rfl rfl (by decide) (by decide) hk hFc hP1 hD1
    have hP : va_P (dC, dI) vwCl [(mo, .inr (15, [.int u_13, .ref (lm 0), .ref (lm 1), .ref (lm 2), .ref (lm 3), .ref (lm 4), .int 0, .int 0])), ((lm 0), .inr (2, [.int 0, .ref e0, .int 0])), ((lm 1), .inr (2, [.int 0, .ref e0, .int 0])), ((lm 2), .inr (2, [.int 0, .ref e0, .int 0])), ((lm 3), .inr (2, [.int 0, .ref e0, .int 0])), ((lm 4), .inr (2, [.int 0, .ref e0, .int 0]))] H := hP
    have hD : va_D A [(mo, .inr (15, [.int u_13, .ref (lm 0), .ref (lm 1), .ref (lm 2), .ref (lm 3), .ref (lm 4), .int 0, .int 0])), ((lm 0), .inr (2, [.int 0, .ref e0, .int 0])), ((lm 1), .inr (2, [.int 0, .ref e0, .int 0])), ((lm 2), .inr (2, [.int 0, .ref e0, .int 0])), ((lm 3), .inr (2, [.int 0, .ref e0, .int 0])), ((lm 4), .inr (2, [.int 0, .ref e0, .int 0]))] := hD
    have hw : r_12 = 1 ∧ u_13 = 1 := hw
    obtain ⟨rfl, rfl⟩ : r_12 = 1 ∧ u_13 = 1 := hw
    refine lv_if_eq (tgt := 21) hx hb dX12_isHeld_16 (by decide) (fun c_14 => absurd c_14 (by decide)) (fun _ => ?_)
    refine lv_iconst (v := 0) hx hb dX12_isHeld_19 (by decide) ?_
    have hP9 := hP.sub (ws' := [(mo, .inr (15, [.int 1, .ref (lm 0), .ref (lm 1), .ref (lm 2), .ref (lm 3), .ref (lm 4), .int 0, .int 0])), ((lm 0), .inr (2, [.int 0, .ref e0, .int 0])), ((lm 1), .inr (2, [.int 0, .ref e0, .int 0])), ((lm 2), .inr (2, [.int 0, .ref e0, .int 0])), ((lm 3), .inr (2, [.int 0, .ref e0, .int 0])), ((lm 4), .inr (2, [.int 0, .ref e0, .int 0]))]) [0, 1, 2, 3, 4, 5] rfl
    have hD9 := hD.sub (ws' := [(mo, .inr (15, [.int 1, .ref (lm 0), .ref (lm 1), .ref (lm 2), .ref (lm 3), .ref (lm 4), .int 0, .int 0])), ((lm 0), .inr (2, [.int 0, .ref e0, .int 0])), ((lm 1), .inr (2, [.int 0, .ref e0, .int 0])), ((lm 2), .inr (2, [.int 0, .ref e0, .int 0])), ((lm 3), .inr (2, [.int 0, .ref e0, .int 0])), ((lm 4), .inr (2, [.int 0, .ref e0, .int 0]))]) [0, 1, 2, 3, 4, 5] (by decide) rfl
    have hK9 := hK.sub (tys' := []) [] rfl
    refine W.widen (k := 0) (n := 0) (Nat.le_of_ble_eq_true rfl) (Nat.le_of_ble_eq_true rfl) ?_
    exact W.zret (v := 0) hx hb hr (by decide +kernel) (fun t ht hW => ⟨⟨0, 1, rfl, (Or.inr ⟨rfl, (by simp only [zPl, zPm, fa_lt, fa_le, fa_eq, zi_0, zi_1, zi_3, zi_4, zi_7, zi_8, zi_10, zi_12, zi_119, zi_m1] at h_3 ⊢ <;> omega)⟩), by rw [ht]; exact hP9, va_K.moved hW.alike hK9, hD9⟩, hS.F ht⟩) hS.2.2 dX12_isHeld_20

def zwX12_uncovered : List Cond := .code yX12_uncovered cX12_uncovered 4 (some .int) :: (([.methodLink RX12 79 yX12_isVariant, .static yX12_isVariant, .initialized RX12, .methodLink RX12 50 yX12_isWrong, .instanceMethod yX12_isWrong, .selects RX12 yX12_isWrong yX12_isWrong, .fieldLink RX12 16 "SpotbeatModel" "spots" "Ljava/util/List;", .methodLink RX12 32 ⟨"java/util/List", "size", "()I"⟩, .selects RJx4a65c ⟨"java/util/List", "size", "()I"⟩ yJx4a65c_size_8abf5, .instanceMethod yJx4a65c_size_8abf5, .initialized RJx4a65c] : List Cond) ++ (zwX12_isVariant ++ (zwX12_isWrong_0 ++ (wsX120 ++ (zwJx4a65c_size_8abf5 ++ (zwX12_isWrong_1))))))
theorem zgX12_uncovered : zwX12_uncovered.all goodWord = true := zgo rfl (zga (by decide +kernel) (zga zgX12_isVariant (zga zgX12_isWrong_0 (zga zgcX12 (zga zgJx4a65c_size_8abf5 (zgX12_isWrong_1))))))
set_option maxHeartbeats 4000000 in
set_option maxRecDepth 100000 in
theorem c_X12_uncovered (l : Launch) (dC : Nat → ClassId) (dI : Nat → Nat → Nat) (sz : Nat) (mo : Nat) (lm : Nat → Nat) (e0 : Nat) (th : Int32) (v : Int32) : Met l yX12_uncovered zwX12_uncovered ({ frames := 2, cells := 0, slots := 0, locals := 42 }) (gPcE dC dI sz [(mo, .inr (15, [.int th, .ref (lm 0), .ref (lm 1), .ref (lm 2), .ref (lm 3), .ref (lm 4), .int 0, .int 0])), ((lm 0), .inr (2, [.int 0, .ref e0, .int 0])), ((lm 1), .inr (2, [.int 0, .ref e0, .int 0])), ((lm 2), .inr (2, [.int 0, .ref e0, .int 0])), ((lm 3), .inr (2, [.int 0, .ref e0, .int 0])), ((lm 4), .inr (2, [.int 0, .ref e0, .int 0]))] [] [.ref mo, .int v]) (va_Qi (fun (r : Int32) (u : Int32) => (u = 0 ∧ r = 0 ∧ ¬ (v < 0 ∨ 4 ≤ v)) ∨ (u = 1 ∧ (v < 0 ∨ 4 ≤ v))) (fun u t => va_P (dC, dI) vwCl [(mo, .inr (15, [.int u, .ref (lm 0), .ref (lm 1), .ref (lm 2), .ref (lm 3), .ref (lm 4), .int 0, .int 0])), ((lm 0), .inr (2, [.int 0, .ref e0, .int 0])), ((lm 1), .inr (2, [.int 0, .ref e0, .int 0])), ((lm 2), .inr (2, [.int 0, .ref e0, .int 0])), ((lm 3), .inr (2, [.int 0, .ref e0, .int 0])), ((lm 4), .inr (2, [.int 0, .ref e0, .int 0]))] t.heap ∧ va_K (dC, dI) vwCl [] t ∧ va_D (va_A [(mo, .inr (15, [.int th, .ref (lm 0), .ref (lm 1), .ref (lm 2), .ref (lm 3), .ref (lm 4), .int 0, .int 0])), ((lm 0), .inr (2, [.int 0, .ref e0, .int 0])), ((lm 1), .inr (2, [.int 0, .ref e0, .int 0])), ((lm 2), .inr (2, [.int 0, .ref e0, .int 0])), ((lm 3), .inr (2, [.int 0, .ref e0, .int 0])), ((lm 4), .inr (2, [.int 0, .ref e0, .int 0]))] sz) [(mo, .inr (15, [.int u, .ref (lm 0), .ref (lm 1), .ref (lm 2), .ref (lm 3), .ref (lm 4), .int 0, .int 0])), ((lm 0), .inr (2, [.int 0, .ref e0, .int 0])), ((lm 1), .inr (2, [.int 0, .ref e0, .int 0])), ((lm 2), .inr (2, [.int 0, .ref e0, .int 0])), ((lm 3), .inr (2, [.int 0, .ref e0, .int 0])), ((lm 4), .inr (2, [.int 0, .ref e0, .int 0]))]) (va_A [(mo, .inr (15, [.int th, .ref (lm 0), .ref (lm 1), .ref (lm 2), .ref (lm 3), .ref (lm 4), .int 0, .int 0])), ((lm 0), .inr (2, [.int 0, .ref e0, .int 0])), ((lm 1), .inr (2, [.int 0, .ref e0, .int 0])), ((lm 2), .inr (2, [.int 0, .ref e0, .int 0])), ((lm 3), .inr (2, [.int 0, .ref e0, .int 0])), ((lm 4), .inr (2, [.int 0, .ref e0, .int 0]))] sz)) 0 0 (va_A [(mo, .inr (15, [.int th, .ref (lm 0), .ref (lm 1), .ref (lm 2), .ref (lm 3), .ref (lm 4), .int 0, .int 0])), ((lm 0), .inr (2, [.int 0, .ref e0, .int 0])), ((lm 1), .inr (2, [.int 0, .ref e0, .int 0])), ((lm 2), .inr (2, [.int 0, .ref e0, .int 0])), ((lm 3), .inr (2, [.int 0, .ref e0, .int 0])), ((lm 4), .inr (2, [.int 0, .ref e0, .int 0]))] sz) := by
  refine Met.ofW (cc := cX12_uncovered) (maxL := 4) (ret := (some .int)) (by decide) rfl ?_
  intro p e s m args below meth c s₁ B hml hv
  obtain ⟨rfl, hsz, hP, hK, hD0, hE⟩ := hv
  have hx := B.exec
  have hb := B.bytes
  have hr := B.returns
  have hts := atoms_spec (ws := zwX12_uncovered) B.pre
  have hown : s.vm.findClass RX12 = some m.cls := findClass_of_methodNamed B.named
  have hlocks := B.notSynchronized
  subst hsz
  have hD := hD0.self (sz := s.heap.size)
  generalize hAe : va_A [(mo, .inr (15, [.int th, .ref (lm 0), .ref (lm 1), .ref (lm 2), .ref (lm 3), .ref (lm 4), .int 0, .int 0])), ((lm 0), .inr (2, [.int 0, .ref e0, .int 0])), ((lm 1), .inr (2, [.int 0, .ref e0, .int 0])), ((lm 2), .inr (2, [.int 0, .ref e0, .int 0])), ((lm 3), .inr (2, [.int 0, .ref e0, .int 0])), ((lm 4), .inr (2, [.int 0, .ref e0, .int 0]))] s.heap.size = A at hD hE ⊢
  have hA : ∀ q : Nat, s.heap.size ≤ q → A q := fun q h => by rw [← hAe]; exact Or.inr h
  have hS : va_S A s.heap s.heap [] := va_S.rf
  have hP : va_P (dC, dI) vwCl [(mo, .inr (15, [.int th, .ref (lm 0), .ref (lm 1), .ref (lm 2), .ref (lm 3), .ref (lm 4), .int 0, .int 0])), ((lm 0), .inr (2, [.int 0, .ref e0, .int 0])), ((lm 1), .inr (2, [.int 0, .ref e0, .int 0])), ((lm 2), .inr (2, [.int 0, .ref e0, .int 0])), ((lm 3), .inr (2, [.int 0, .ref e0, .int 0])), ((lm 4), .inr (2, [.int 0, .ref e0, .int 0]))] s.heap := hP
  have hl := lv_entry ([.ref mo, .int v]) (n := 4) (Nat.le_of_ble_eq_true rfl)
  rw [lg_entry_eq]
  generalize (lg_sl ([.ref mo, .int v]) ++ List.replicate (4 - (lg_sl ([.ref mo, .int v])).length) Slot.unset).toArray = ls at hl ⊢
  have hl : lv_has ls 4 [(0, .ref mo), (1, .int v)] := hl
  refine lv_aload_n hx hb dX12_uncovered_0 rfl (lv_at hl 0 rfl) ?_
  refine lv_iload_n hx hb dX12_uncovered_1 rfl (lv_at hl 1 rfl) ?_
  refine va_calli (va_runS (As := [.int v]) (rest := [.ref mo]) ⟨hx, hb, hml, hown, hts⟩ (c_X12_isVariant l dC dI s.heap.size v) (va_cwS 1 hts (goodIn_app (goodIn_of _ (by decide +kernel)) (goodIn_sub ((fun w h => List.mem_cons_of_mem _ (List.mem_append_right _ (List.mem_append_left _ h)))) zgX12_isVariant)) rfl rfl rfl (by decide +kernel) ⟨Nat.le_of_ble_eq_true rfl, Nat.le_of_ble_eq_true rfl⟩) ⟨nPc_blind, nPc_pass⟩ rfl rfl hl.1 rfl (lv_room (Nat.le_of_ble_eq_true rfl)) dX12_uncovered_2 ⟨Nat.le_of_ble_eq_true rfl, Nat.le_of_ble_eq_true rfl⟩) hS (fun q _ h => hA q (Nat.le_trans hS.1 h)) (fun q h => hA q (Nat.le_trans hS.1 h)) (fun r_1 u_2 t H locs ht hvm hw hB hz hk hS => ?_)
  have hP := zkn hP hk
  rcases (show (r_1 = 1 ∧ ¬ (v < 0 ∨ 4 ≤ v)) ∨ (r_1 = 0 ∧ (v < 0 ∨ 4 ≤ v)) from hw) with ⟨rfl, h_3⟩ | ⟨rfl, h_3⟩
  · refine lv_if_eq (tgt := 12) hx hb dX12_uncovered_5 (by decide) (fun c_4 => absurd c_4 (by decide)) (fun _ => ?_)
    refine lv_iconst (v := 0) hx hb dX12_uncovered_8 (by decide) ?_
    refine lv_goto (tgt := 13) hx hb dX12_uncovered_9 (by decide) ?_
    have hPc := hP.sub (ws' := [(mo, .inr (15, [.int th, .ref (lm 0), .ref (lm 1), .ref (lm 2), .ref (lm 3), .ref (lm 4), .int 0, .int 0])), ((lm 0), .inr (2, [.int 0, .ref e0, .int 0])), ((lm 1), .inr (2, [.int 0, .ref e0, .int 0])), ((lm 2), .inr (2, [.int 0, .ref e0, .int 0])), ((lm 3), .inr (2, [.int 0, .ref e0, .int 0])), ((lm 4), .inr (2, [.int 0, .ref e0, .int 0]))]) [0, 1, 2, 3, 4, 5] rfl
    have hDc := hD.sub (ws' := [(mo, .inr (15, [.int th, .ref (lm 0), .ref (lm 1), .ref (lm 2), .ref (lm 3), .ref (lm 4), .int 0, .int 0])), ((lm 0), .inr (2, [.int 0, .ref e0, .int 0])), ((lm 1), .inr (2, [.int 0, .ref e0, .int 0])), ((lm 2), .inr (2, [.int 0, .ref e0, .int 0])), ((lm 3), .inr (2, [.int 0, .ref e0, .int 0])), ((lm 4), .inr (2, [.int 0, .ref e0, .int 0]))]) [0, 1, 2, 3, 4, 5] (by decide) rfl
    have hKc := hK.sub (tys' := []) [] rfl
    have hFc := va_free (wc := [(mo, .inr (15, [.int th, .ref (lm 0), .ref (lm 1), .ref (lm 2), .ref (lm 3), .ref (lm 4), .int 0, .int 0])), ((lm 0), .inr (2, [.int 0, .ref e0, .int 0])), ((lm 1), .inr (2, [.int 0, .ref e0, .int 0])), ((lm 2), .inr (2, [.int 0, .ref e0, .int 0])), ((lm 3), .inr (2, [.int 0, .ref e0, .int 0])), ((lm 4), .inr (2, [.int 0, .ref e0, .int 0]))]) hD hS hA [0, 1, 2, 3, 4, 5] rfl
    refine va_calli (va_runV (As := [.int 0]) (rest := []) ⟨hx, hb, hml, hown, hts⟩ (c_X12_isWrong_0 l dC dI H.size mo lm e0 th) (cwV 1 hts (goodIn_app (goodIn_of _ (by decide +kernel)) (goodIn_sub ((fun w h => List.mem_cons_of_mem _ (List.mem_append_right _ (List.mem_append_right _ (List.mem_append_left _ h))))) zgX12_isWrong_0)) rfl rfl rfl (by decide +kernel) ⟨Nat.le_of_ble_eq_true rfl, Nat.le_of_ble_eq_true rfl⟩) ⟨gPcE_blind, va_recv hK hP (ci := 15) (q0 := 0) rfl rfl, gPcE_pass hPc hKc hDc hE hS hFc⟩ rfl rfl hl.1 rfl (lv_room (Nat.le_of_ble_eq_true rfl)) dX12_uncovered_13 ⟨Nat.le_of_ble_eq_true rfl, Nat.le_of_ble_eq_true rfl⟩) hS (fun q _ h => hFc q h) hFc (fun r_5 u_6 t H locs ht hvm hw hB hz hk hS => ?_)
    obtain ⟨hP1, hK1, hD1⟩ := hB
    rw [ht] at hP1
    obtain ⟨hP, hD⟩ := va_join (wr := []) (w1 := [(mo, .inr (15, [.int u_6, .ref (lm 0), .ref (lm 1), .ref (lm 2), .ref (lm 3), .ref (lm 4), .int 0, .int 0])), ((lm 0), .inr (2, [.int 0, .ref e0, .int 0])), ((lm 1), .inr (2, [.int 0, .ref e0, .int 0])), ((lm 2), .inr (2, [.int 0, .ref e0, .int 0])), ((lm 3), .inr (2, [.int 0, .ref e0, .int 0])), ((lm 4), .inr (2, [.int 0, .ref e0, .int 0]))]) hP hD [0, 1, 2, 3, 4, 5] [] rfl rfl (by decide) (by decide) hk hFc hP1 hD1
    have hP : va_P (dC, dI) vwCl [(mo, .inr (15, [.int u_6, .ref (lm 0), .ref (lm 1), .ref (lm 2), .ref (lm 3), .ref (lm 4), .int 0, .int 0])), ((lm 0), .inr (2, [.int 0, .ref e0, .int 0])), ((lm 1), .inr (2, [.int 0, .ref e0, .int 0])), ((lm 2), .inr (2, [.int 0, .ref e0, .int 0])), ((lm 3), .inr (2, [.int 0, .ref e0, .int 0])), ((lm 4), .inr (2, [.int 0, .ref e0, .int 0]))] H := hP
    have hD : va_D A [(mo, .inr (15, [.int u_6, .ref (lm 0), .ref (lm 1), .ref (lm 2), .ref (lm 3), .ref (lm 4), .int 0, .int 0])), ((lm 0), .inr (2, [.int 0, .ref e0, .int 0])), ((lm 1), .inr (2, [.int 0, .ref e0, .int 0])), ((lm 2), .inr (2, [.int 0, .ref e0, .int 0])), ((lm 3), .inr (2, [.int 0, .ref e0, .int 0])), ((lm 4), .inr (2, [.int 0, .ref e0, .int 0]))] := hD
    have hw : r_5 = 0 ∧ u_6 = 0 := hw
    obtain ⟨rfl, rfl⟩ : r_5 = 0 ∧ u_6 = 0 := hw
    refine lv_if_eq (tgt := 21) hx hb dX12_uncovered_16 (by decide) (fun _ => ?_) (fun c_7 => absurd c_7 (by decide))
    refine lv_iconst (v := 0) hx hb dX12_uncovered_21 (by decide) ?_
    refine lv_istore_n (lv' := [(2, .int 0), (0, .ref mo), (1, .int v)]) hx hb dX12_uncovered_22 rfl hl (by decide) rfl (fun ls hl => ?_)
    refine lv_iconst (v := 0) hx hb dX12_uncovered_23 (by decide) ?_
    refine lv_istore_n (lv' := [(3, .int 0), (2, .int 0), (0, .ref mo), (1, .int v)]) hx hb dX12_uncovered_24 rfl hl (by decide) rfl (fun ls hl => ?_)
    refine lv_iload_n hx hb dX12_uncovered_25 rfl (lv_at hl 0 rfl) ?_
    refine lv_aload_n hx hb dX12_uncovered_26 rfl (lv_at hl 2 rfl) ?_
    refine va_get (D := (dC, dI)) (ci := 15) (v := .ref (lm 1)) (C := RX12) (T := TX12) (N := 8) hx hb hts (fun w h => List.mem_cons_of_mem _ (List.mem_append_right _ (List.mem_append_right _ (List.mem_append_right _ (List.mem_append_left _ h))))) hown hK hP 0 rfl rfl 2 (by decide) (hts (.fieldLink RX12 16 "SpotbeatModel" "spots" "Ljava/util/List;") (by decide +kernel)) (fun _ h9 => h9) rfl dX12_uncovered_27 ?_
    have hPc := hP.sub (ws' := [((lm 1), .inr (2, [.int 0, .ref e0, .int 0]))]) [2] rfl
    have hDc := hD.sub (ws' := [((lm 1), .inr (2, [.int 0, .ref e0, .int 0]))]) [2] (by decide) rfl
    have hKc := hK.sub (tys' := []) [] rfl
    have hFc := va_free (wc := [((lm 1), .inr (2, [.int 0, .ref e0, .int 0]))]) hD hS hA [2] rfl
    refine va_callFi (va_runF (As := []) (rest := [.int 0]) ((hK.1 2 _ rfl).2) ⟨hx, hb, hml, hown, hts⟩ (c_Jx4a65c_size_8abf5 l dC dI H.size e0 (lm 1)) (va_cwF 0 hts (goodIn_app (goodIn_of _ (by decide +kernel)) (goodIn_sub ((fun w h => List.mem_cons_of_mem _ (List.mem_append_right _ (List.mem_append_right _ (List.mem_append_right _ (List.mem_append_right _ (List.mem_append_left _ h))))))) zgJx4a65c_size_8abf5)) rfl rfl rfl hE.2.2.2.2.2.2.1 (by decide +kernel) ⟨Nat.le_of_ble_eq_true rfl, Nat.le_of_ble_eq_true rfl⟩) ⟨gPc_blind, va_recv hK hP (ci := 2) (q0 := 2) rfl rfl, gPc_pass hPc hKc hDc⟩ rfl rfl hl.1 rfl (lv_room (Nat.le_of_ble_eq_true rfl)) dX12_uncovered_30 ⟨Nat.le_of_ble_eq_true rfl, Nat.le_of_ble_eq_true rfl⟩) hS (fun q _ h => hFc q h) hFc (fun r_8 u_9 t H locs ht hvm hw hB hz hk hS => ?_)
    obtain ⟨hP1, hK1, hD1⟩ := hB
    rw [ht] at hP1
    obtain ⟨hP, hD⟩ := va_join (wr := [(mo, .inr (15, [.int 0, .ref (lm 0), .ref (lm 1), .ref (lm 2), .ref (lm 3), .ref (lm 4), .int 0, .int 0])), ((lm 0), .inr (2, [.int 0, .ref e0, .int 0])), ((lm 2), .inr (2, [.int 0, .ref e0, .int 0])), ((lm 3), .inr (2, [.int 0, .ref e0, .int 0])), ((lm 4), .inr (2, [.int 0, .ref e0, .int 0]))]) (w1 := [((lm 1), .inr (2, [.int 0, .ref e0, .int 0]))]) hP hD [2] [0, 1, 3, 4, 5] rfl rfl (by decide) (by decide) hk hFc hP1 hD1
    have hP : va_P (dC, dI) vwCl [(mo, .inr (15, [.int 0, .ref (lm 0), .ref (lm 1), .ref (lm 2), .ref (lm 3), .ref (lm 4), .int 0, .int 0])), ((lm 0), .inr (2, [.int 0, .ref e0, .int 0])), ((lm 2), .inr (2, [.int 0, .ref e0, .int 0])), ((lm 3), .inr (2, [.int 0, .ref e0, .int 0])), ((lm 4), .inr (2, [.int 0, .ref e0, .int 0])), ((lm 1), .inr (2, [.int 0, .ref e0, .int 0]))] H := hP
    have hD : va_D A [(mo, .inr (15, [.int 0, .ref (lm 0), .ref (lm 1), .ref (lm 2), .ref (lm 3), .ref (lm 4), .int 0, .int 0])), ((lm 0), .inr (2, [.int 0, .ref e0, .int 0])), ((lm 2), .inr (2, [.int 0, .ref e0, .int 0])), ((lm 3), .inr (2, [.int 0, .ref e0, .int 0])), ((lm 4), .inr (2, [.int 0, .ref e0, .int 0])), ((lm 1), .inr (2, [.int 0, .ref e0, .int 0]))] := hD
    have hw : r_8 = 0 := hw
    subst hw
    refine lv_icmp_ge (tgt := 81) hx hb dX12_uncovered_35 (by decide) (fun _ => ?_) (fun c_10 => absurd c_10 (by decide))
    refine lv_iload_n hx hb dX12_uncovered_81 rfl (lv_at hl 1 rfl) ?_
    have hP9 := hP.sub (ws' := [(mo, .inr (15, [.int 0, .ref (lm 0), .ref (lm 1), .ref (lm 2), .ref (lm 3), .ref (lm 4), .int 0, .int 0])), ((lm 0), .inr (2, [.int 0, .ref e0, .int 0])), ((lm 1), .inr (2, [.int 0, .ref e0, .int 0])), ((lm 2), .inr (2, [.int 0, .ref e0, .int 0])), ((lm 3), .inr (2, [.int 0, .ref e0, .int 0])), ((lm 4), .inr (2, [.int 0, .ref e0, .int 0]))]) [0, 1, 5, 2, 3, 4] rfl
    have hD9 := hD.sub (ws' := [(mo, .inr (15, [.int 0, .ref (lm 0), .ref (lm 1), .ref (lm 2), .ref (lm 3), .ref (lm 4), .int 0, .int 0])), ((lm 0), .inr (2, [.int 0, .ref e0, .int 0])), ((lm 1), .inr (2, [.int 0, .ref e0, .int 0])), ((lm 2), .inr (2, [.int 0, .ref e0, .int 0])), ((lm 3), .inr (2, [.int 0, .ref e0, .int 0])), ((lm 4), .inr (2, [.int 0, .ref e0, .int 0]))]) [0, 1, 5, 2, 3, 4] (by decide) rfl
    have hK9 := hK.sub (tys' := []) [] rfl
    refine W.widen (k := 0) (n := 0) (Nat.le_of_ble_eq_true rfl) (Nat.le_of_ble_eq_true rfl) ?_
    exact W.iret (v := 0) hx hb hr (fun t ht hW => ⟨⟨0, 0, rfl, (Or.inl ⟨rfl, rfl, (by simp only [zPl, zPm, fa_lt, fa_le, fa_eq, zi_0, zi_1, zi_3, zi_4, zi_7, zi_8, zi_10, zi_12, zi_119, zi_m1] at h_3 ⊢ <;> omega)⟩), by rw [ht]; exact hP9, va_K.moved hW.alike hK9, hD9⟩, hS.F ht⟩) hS.2.2 dX12_uncovered_82
  · refine lv_if_eq (tgt := 12) hx hb dX12_uncovered_5 (by decide) (fun _ => ?_) (fun c_11 => absurd c_11 (by decide))
    refine lv_iconst (v := 1) hx hb dX12_uncovered_12 (by decide) ?_
    have hPc := hP.sub (ws' := [(mo, .inr (15, [.int th, .ref (lm 0), .ref (lm 1), .ref (lm 2), .ref (lm 3), .ref (lm 4), .int 0, .int 0])), ((lm 0), .inr (2, [.int 0, .ref e0, .int 0])), ((lm 1), .inr (2, [.int 0, .ref e0, .int 0])), ((lm 2), .inr (2, [.int 0, .ref e0, .int 0])), ((lm 3), .inr (2, [.int 0, .ref e0, .int 0])), ((lm 4), .inr (2, [.int 0, .ref e0, .int 0]))]) [0, 1, 2, 3, 4, 5] rfl
    have hDc := hD.sub (ws' := [(mo, .inr (15, [.int th, .ref (lm 0), .ref (lm 1), .ref (lm 2), .ref (lm 3), .ref (lm 4), .int 0, .int 0])), ((lm 0), .inr (2, [.int 0, .ref e0, .int 0])), ((lm 1), .inr (2, [.int 0, .ref e0, .int 0])), ((lm 2), .inr (2, [.int 0, .ref e0, .int 0])), ((lm 3), .inr (2, [.int 0, .ref e0, .int 0])), ((lm 4), .inr (2, [.int 0, .ref e0, .int 0]))]) [0, 1, 2, 3, 4, 5] (by decide) rfl
    have hKc := hK.sub (tys' := []) [] rfl
    have hFc := va_free (wc := [(mo, .inr (15, [.int th, .ref (lm 0), .ref (lm 1), .ref (lm 2), .ref (lm 3), .ref (lm 4), .int 0, .int 0])), ((lm 0), .inr (2, [.int 0, .ref e0, .int 0])), ((lm 1), .inr (2, [.int 0, .ref e0, .int 0])), ((lm 2), .inr (2, [.int 0, .ref e0, .int 0])), ((lm 3), .inr (2, [.int 0, .ref e0, .int 0])), ((lm 4), .inr (2, [.int 0, .ref e0, .int 0]))]) hD hS hA [0, 1, 2, 3, 4, 5] rfl
    refine va_calli (va_runV (As := [.int 1]) (rest := []) ⟨hx, hb, hml, hown, hts⟩ (c_X12_isWrong_1 l dC dI H.size mo lm e0 th) (cwV 1 hts (goodIn_app (goodIn_of _ (by decide +kernel)) (goodIn_sub ((fun w h => List.mem_cons_of_mem _ (List.mem_append_right _ (List.mem_append_right _ (List.mem_append_right _ (List.mem_append_right _ (List.mem_append_right _ (h)))))))) zgX12_isWrong_1)) rfl rfl rfl (by decide +kernel) ⟨Nat.le_of_ble_eq_true rfl, Nat.le_of_ble_eq_true rfl⟩) ⟨gPcE_blind, va_recv hK hP (ci := 15) (q0 := 0) rfl rfl, gPcE_pass hPc hKc hDc hE hS hFc⟩ rfl rfl hl.1 rfl (lv_room (Nat.le_of_ble_eq_true rfl)) dX12_uncovered_13 ⟨Nat.le_of_ble_eq_true rfl, Nat.le_of_ble_eq_true rfl⟩) hS (fun q _ h => hFc q h) hFc (fun r_12 u_13 t H locs ht hvm hw hB hz hk hS => ?_)
    obtain ⟨hP1, hK1, hD1⟩ := hB
    rw [ht] at hP1
    obtain ⟨hP, hD⟩ := va_join (wr := []) (w1 := [(mo, .inr (15, [.int u_13, .ref (lm 0), .ref (lm 1), .ref (lm 2), .ref (lm 3), .ref (lm 4), .int 0, .int 0])), ((lm 0), .inr (2, [.int 0, .ref e0, .int 0])), ((lm 1), .inr (2, [.int 0, .ref e0, .int 0])), ((lm 2), .inr (2, [.int 0, .ref e0, .int 0])), ((lm 3), .inr (2, [.int 0, .ref e0, .int 0])), ((lm 4), .inr (2, [.int 0, .ref e0, .int 0]))]) hP hD [0, 1, 2, 3, 4, 5] [] rfl rfl (by decide) (by decide) hk hFc hP1 hD1
    have hP : va_P (dC, dI) vwCl [(mo, .inr (15, [.int u_13, .ref (lm 0), .ref (lm 1), .ref (lm 2), .ref (lm 3), .ref (lm 4), .int 0, .int 0])), ((lm 0), .inr (2, [.int 0, .ref e0, .int 0])), ((lm 1), .inr (2, [.int 0, .ref e0, .int 0])), ((lm 2), .inr (2, [.int 0, .ref e0, .int 0])), ((lm 3), .inr (2, [.int 0, .ref e0, .int 0])), ((lm 4), .inr (2, [.int 0, .ref e0, .int 0]))] H := hP
    have hD : va_D A [(mo, .inr (15, [.int u_13, .ref (lm 0), .ref (lm 1), .ref (lm 2), .ref (lm 3), .ref (lm 4), .int 0, .int 0])), ((lm 0), .inr (2, [.int 0, .ref e0, .int 0])), ((lm 1), .inr (2, [.int 0, .ref e0, .int 0])), ((lm 2), .inr (2, [.int 0, .ref e0, .int 0])), ((lm 3), .inr (2, [.int 0, .ref e0, .int 0])), ((lm 4), .inr (2, [.int 0, .ref e0, .int 0]))] := hD
    have hw : r_12 = 1 ∧ u_13 = 1 := hw
    obtain ⟨rfl, rfl⟩ : r_12 = 1 ∧ u_13 = 1 := hw
    refine lv_if_eq (tgt := 21) hx hb dX12_uncovered_16 (by decide) (fun c_14 => absurd c_14 (by decide)) (fun _ => ?_)
    refine lv_iconst (v := 0) hx hb dX12_uncovered_19 (by decide) ?_
    have hP9 := hP.sub (ws' := [(mo, .inr (15, [.int 1, .ref (lm 0), .ref (lm 1), .ref (lm 2), .ref (lm 3), .ref (lm 4), .int 0, .int 0])), ((lm 0), .inr (2, [.int 0, .ref e0, .int 0])), ((lm 1), .inr (2, [.int 0, .ref e0, .int 0])), ((lm 2), .inr (2, [.int 0, .ref e0, .int 0])), ((lm 3), .inr (2, [.int 0, .ref e0, .int 0])), ((lm 4), .inr (2, [.int 0, .ref e0, .int 0]))]) [0, 1, 2, 3, 4, 5] rfl
    have hD9 := hD.sub (ws' := [(mo, .inr (15, [.int 1, .ref (lm 0), .ref (lm 1), .ref (lm 2), .ref (lm 3), .ref (lm 4), .int 0, .int 0])), ((lm 0), .inr (2, [.int 0, .ref e0, .int 0])), ((lm 1), .inr (2, [.int 0, .ref e0, .int 0])), ((lm 2), .inr (2, [.int 0, .ref e0, .int 0])), ((lm 3), .inr (2, [.int 0, .ref e0, .int 0])), ((lm 4), .inr (2, [.int 0, .ref e0, .int 0]))]) [0, 1, 2, 3, 4, 5] (by decide) rfl
    have hK9 := hK.sub (tys' := []) [] rfl
    refine W.widen (k := 0) (n := 0) (Nat.le_of_ble_eq_true rfl) (Nat.le_of_ble_eq_true rfl) ?_
    exact W.iret (v := 0) hx hb hr (fun t ht hW => ⟨⟨0, 1, rfl, (Or.inr ⟨rfl, (by simp only [zPl, zPm, fa_lt, fa_le, fa_eq, zi_0, zi_1, zi_3, zi_4, zi_7, zi_8, zi_10, zi_12, zi_119, zi_m1] at h_3 ⊢ <;> omega)⟩), by rw [ht]; exact hP9, va_K.moved hW.alike hK9, hD9⟩, hS.F ht⟩) hS.2.2 dX12_uncovered_20

def zwX12_deal : List Cond := .code yX12_deal cX12_deal 9 (some .int) :: (([.methodLink RX12 79 yX12_isVariant, .static yX12_isVariant, .initialized RX12, .methodLink RX12 50 yX12_isWrong, .instanceMethod yX12_isWrong, .selects RX12 yX12_isWrong yX12_isWrong, .fieldLink RX12 16 "SpotbeatModel" "spots" "Ljava/util/List;", .methodLink RX12 32 ⟨"java/util/List", "size", "()I"⟩, .selects RJx4a65c ⟨"java/util/List", "size", "()I"⟩ yJx4a65c_size_8abf5, .instanceMethod yJx4a65c_size_8abf5, .initialized RJx4a65c] : List Cond) ++ (zwX12_isVariant ++ (zwX12_isWrong_0 ++ (wsX120 ++ (zwJx4a65c_size_8abf5 ++ (zwX12_isWrong_1))))))
theorem zgX12_deal : zwX12_deal.all goodWord = true := zgo rfl (zga (by decide +kernel) (zga zgX12_isVariant (zga zgX12_isWrong_0 (zga zgcX12 (zga zgJx4a65c_size_8abf5 (zgX12_isWrong_1))))))
set_option maxHeartbeats 4000000 in
set_option maxRecDepth 100000 in
theorem c_X12_deal (l : Launch) (dC : Nat → ClassId) (dI : Nat → Nat → Nat) (sz : Nat) (mo : Nat) (lm : Nat → Nat) (e0 : Nat) (th : Int32) (v : Int32) : Met l yX12_deal zwX12_deal ({ frames := 2, cells := 0, slots := 0, locals := 42 }) (gPcE dC dI sz [(mo, .inr (15, [.int th, .ref (lm 0), .ref (lm 1), .ref (lm 2), .ref (lm 3), .ref (lm 4), .int 0, .int 0])), ((lm 0), .inr (2, [.int 0, .ref e0, .int 0])), ((lm 1), .inr (2, [.int 0, .ref e0, .int 0])), ((lm 2), .inr (2, [.int 0, .ref e0, .int 0])), ((lm 3), .inr (2, [.int 0, .ref e0, .int 0])), ((lm 4), .inr (2, [.int 0, .ref e0, .int 0]))] [] [.ref mo, .int v]) (va_Qi (fun (r : Int32) (u : Int32) => (u = 0 ∧ r = 0 ∧ ¬ (v < 0 ∨ 4 ≤ v)) ∨ (u = 1 ∧ (v < 0 ∨ 4 ≤ v))) (fun u t => va_P (dC, dI) vwCl [(mo, .inr (15, [.int u, .ref (lm 0), .ref (lm 1), .ref (lm 2), .ref (lm 3), .ref (lm 4), .int 0, .int 0])), ((lm 0), .inr (2, [.int 0, .ref e0, .int 0])), ((lm 1), .inr (2, [.int 0, .ref e0, .int 0])), ((lm 2), .inr (2, [.int 0, .ref e0, .int 0])), ((lm 3), .inr (2, [.int 0, .ref e0, .int 0])), ((lm 4), .inr (2, [.int 0, .ref e0, .int 0]))] t.heap ∧ va_K (dC, dI) vwCl [] t ∧ va_D (va_A [(mo, .inr (15, [.int th, .ref (lm 0), .ref (lm 1), .ref (lm 2), .ref (lm 3), .ref (lm 4), .int 0, .int 0])), ((lm 0), .inr (2, [.int 0, .ref e0, .int 0])), ((lm 1), .inr (2, [.int 0, .ref e0, .int 0])), ((lm 2), .inr (2, [.int 0, .ref e0, .int 0])), ((lm 3), .inr (2, [.int 0, .ref e0, .int 0])), ((lm 4), .inr (2, [.int 0, .ref e0, .int 0]))] sz) [(mo, .inr (15, [.int u, .ref (lm 0), .ref (lm 1), .ref (lm 2), .ref (lm 3), .ref (lm 4), .int 0, .int 0])), ((lm 0), .inr (2, [.int 0, .ref e0, .int 0])), ((lm 1), .inr (2, [.int 0, .ref e0, .int 0])), ((lm 2), .inr (2, [.int 0, .ref e0, .int 0])), ((lm 3), .inr (2, [.int 0, .ref e0, .int 0])), ((lm 4), .inr (2, [.int 0, .ref e0, .int 0]))]) (va_A [(mo, .inr (15, [.int th, .ref (lm 0), .ref (lm 1), .ref (lm 2), .ref (lm 3), .ref (lm 4), .int 0, .int 0])), ((lm 0), .inr (2, [.int 0, .ref e0, .int 0])), ((lm 1), .inr (2, [.int 0, .ref e0, .int 0])), ((lm 2), .inr (2, [.int 0, .ref e0, .int 0])), ((lm 3), .inr (2, [.int 0, .ref e0, .int 0])), ((lm 4), .inr (2, [.int 0, .ref e0, .int 0]))] sz)) 0 0 (va_A [(mo, .inr (15, [.int th, .ref (lm 0), .ref (lm 1), .ref (lm 2), .ref (lm 3), .ref (lm 4), .int 0, .int 0])), ((lm 0), .inr (2, [.int 0, .ref e0, .int 0])), ((lm 1), .inr (2, [.int 0, .ref e0, .int 0])), ((lm 2), .inr (2, [.int 0, .ref e0, .int 0])), ((lm 3), .inr (2, [.int 0, .ref e0, .int 0])), ((lm 4), .inr (2, [.int 0, .ref e0, .int 0]))] sz) := by
  refine Met.ofW (cc := cX12_deal) (maxL := 9) (ret := (some .int)) (by decide) rfl ?_
  intro p e s m args below meth c s₁ B hml hv
  obtain ⟨rfl, hsz, hP, hK, hD0, hE⟩ := hv
  have hx := B.exec
  have hb := B.bytes
  have hr := B.returns
  have hts := atoms_spec (ws := zwX12_deal) B.pre
  have hown : s.vm.findClass RX12 = some m.cls := findClass_of_methodNamed B.named
  have hlocks := B.notSynchronized
  subst hsz
  have hD := hD0.self (sz := s.heap.size)
  generalize hAe : va_A [(mo, .inr (15, [.int th, .ref (lm 0), .ref (lm 1), .ref (lm 2), .ref (lm 3), .ref (lm 4), .int 0, .int 0])), ((lm 0), .inr (2, [.int 0, .ref e0, .int 0])), ((lm 1), .inr (2, [.int 0, .ref e0, .int 0])), ((lm 2), .inr (2, [.int 0, .ref e0, .int 0])), ((lm 3), .inr (2, [.int 0, .ref e0, .int 0])), ((lm 4), .inr (2, [.int 0, .ref e0, .int 0]))] s.heap.size = A at hD hE ⊢
  have hA : ∀ q : Nat, s.heap.size ≤ q → A q := fun q h => by rw [← hAe]; exact Or.inr h
  have hS : va_S A s.heap s.heap [] := va_S.rf
  have hP : va_P (dC, dI) vwCl [(mo, .inr (15, [.int th, .ref (lm 0), .ref (lm 1), .ref (lm 2), .ref (lm 3), .ref (lm 4), .int 0, .int 0])), ((lm 0), .inr (2, [.int 0, .ref e0, .int 0])), ((lm 1), .inr (2, [.int 0, .ref e0, .int 0])), ((lm 2), .inr (2, [.int 0, .ref e0, .int 0])), ((lm 3), .inr (2, [.int 0, .ref e0, .int 0])), ((lm 4), .inr (2, [.int 0, .ref e0, .int 0]))] s.heap := hP
  have hl := lv_entry ([.ref mo, .int v]) (n := 9) (Nat.le_of_ble_eq_true rfl)
  rw [lg_entry_eq]
  generalize (lg_sl ([.ref mo, .int v]) ++ List.replicate (9 - (lg_sl ([.ref mo, .int v])).length) Slot.unset).toArray = ls at hl ⊢
  have hl : lv_has ls 9 [(0, .ref mo), (1, .int v)] := hl
  refine lv_aload_n hx hb dX12_deal_0 rfl (lv_at hl 0 rfl) ?_
  refine lv_iload_n hx hb dX12_deal_1 rfl (lv_at hl 1 rfl) ?_
  refine va_calli (va_runS (As := [.int v]) (rest := [.ref mo]) ⟨hx, hb, hml, hown, hts⟩ (c_X12_isVariant l dC dI s.heap.size v) (va_cwS 1 hts (goodIn_app (goodIn_of _ (by decide +kernel)) (goodIn_sub ((fun w h => List.mem_cons_of_mem _ (List.mem_append_right _ (List.mem_append_left _ h)))) zgX12_isVariant)) rfl rfl rfl (by decide +kernel) ⟨Nat.le_of_ble_eq_true rfl, Nat.le_of_ble_eq_true rfl⟩) ⟨nPc_blind, nPc_pass⟩ rfl rfl hl.1 rfl (lv_room (Nat.le_of_ble_eq_true rfl)) dX12_deal_2 ⟨Nat.le_of_ble_eq_true rfl, Nat.le_of_ble_eq_true rfl⟩) hS (fun q _ h => hA q (Nat.le_trans hS.1 h)) (fun q h => hA q (Nat.le_trans hS.1 h)) (fun r_1 u_2 t H locs ht hvm hw hB hz hk hS => ?_)
  have hP := zkn hP hk
  rcases (show (r_1 = 1 ∧ ¬ (v < 0 ∨ 4 ≤ v)) ∨ (r_1 = 0 ∧ (v < 0 ∨ 4 ≤ v)) from hw) with ⟨rfl, h_3⟩ | ⟨rfl, h_3⟩
  · refine lv_if_eq (tgt := 12) hx hb dX12_deal_5 (by decide) (fun c_4 => absurd c_4 (by decide)) (fun _ => ?_)
    refine lv_iconst (v := 0) hx hb dX12_deal_8 (by decide) ?_
    refine lv_goto (tgt := 13) hx hb dX12_deal_9 (by decide) ?_
    have hPc := hP.sub (ws' := [(mo, .inr (15, [.int th, .ref (lm 0), .ref (lm 1), .ref (lm 2), .ref (lm 3), .ref (lm 4), .int 0, .int 0])), ((lm 0), .inr (2, [.int 0, .ref e0, .int 0])), ((lm 1), .inr (2, [.int 0, .ref e0, .int 0])), ((lm 2), .inr (2, [.int 0, .ref e0, .int 0])), ((lm 3), .inr (2, [.int 0, .ref e0, .int 0])), ((lm 4), .inr (2, [.int 0, .ref e0, .int 0]))]) [0, 1, 2, 3, 4, 5] rfl
    have hDc := hD.sub (ws' := [(mo, .inr (15, [.int th, .ref (lm 0), .ref (lm 1), .ref (lm 2), .ref (lm 3), .ref (lm 4), .int 0, .int 0])), ((lm 0), .inr (2, [.int 0, .ref e0, .int 0])), ((lm 1), .inr (2, [.int 0, .ref e0, .int 0])), ((lm 2), .inr (2, [.int 0, .ref e0, .int 0])), ((lm 3), .inr (2, [.int 0, .ref e0, .int 0])), ((lm 4), .inr (2, [.int 0, .ref e0, .int 0]))]) [0, 1, 2, 3, 4, 5] (by decide) rfl
    have hKc := hK.sub (tys' := []) [] rfl
    have hFc := va_free (wc := [(mo, .inr (15, [.int th, .ref (lm 0), .ref (lm 1), .ref (lm 2), .ref (lm 3), .ref (lm 4), .int 0, .int 0])), ((lm 0), .inr (2, [.int 0, .ref e0, .int 0])), ((lm 1), .inr (2, [.int 0, .ref e0, .int 0])), ((lm 2), .inr (2, [.int 0, .ref e0, .int 0])), ((lm 3), .inr (2, [.int 0, .ref e0, .int 0])), ((lm 4), .inr (2, [.int 0, .ref e0, .int 0]))]) hD hS hA [0, 1, 2, 3, 4, 5] rfl
    refine va_calli (va_runV (As := [.int 0]) (rest := []) ⟨hx, hb, hml, hown, hts⟩ (c_X12_isWrong_0 l dC dI H.size mo lm e0 th) (cwV 1 hts (goodIn_app (goodIn_of _ (by decide +kernel)) (goodIn_sub ((fun w h => List.mem_cons_of_mem _ (List.mem_append_right _ (List.mem_append_right _ (List.mem_append_left _ h))))) zgX12_isWrong_0)) rfl rfl rfl (by decide +kernel) ⟨Nat.le_of_ble_eq_true rfl, Nat.le_of_ble_eq_true rfl⟩) ⟨gPcE_blind, va_recv hK hP (ci := 15) (q0 := 0) rfl rfl, gPcE_pass hPc hKc hDc hE hS hFc⟩ rfl rfl hl.1 rfl (lv_room (Nat.le_of_ble_eq_true rfl)) dX12_deal_13 ⟨Nat.le_of_ble_eq_true rfl, Nat.le_of_ble_eq_true rfl⟩) hS (fun q _ h => hFc q h) hFc (fun r_5 u_6 t H locs ht hvm hw hB hz hk hS => ?_)
    obtain ⟨hP1, hK1, hD1⟩ := hB
    rw [ht] at hP1
    obtain ⟨hP, hD⟩ := va_join (wr := []) (w1 := [(mo, .inr (15, [.int u_6, .ref (lm 0), .ref (lm 1), .ref (lm 2), .ref (lm 3), .ref (lm 4), .int 0, .int 0])), ((lm 0), .inr (2, [.int 0, .ref e0, .int 0])), ((lm 1), .inr (2, [.int 0, .ref e0, .int 0])), ((lm 2), .inr (2, [.int 0, .ref e0, .int 0])), ((lm 3), .inr (2, [.int 0, .ref e0, .int 0])), ((lm 4), .inr (2, [.int 0, .ref e0, .int 0]))]) hP hD [0, 1, 2, 3, 4, 5] [] rfl rfl (by decide) (by decide) hk hFc hP1 hD1
    have hP : va_P (dC, dI) vwCl [(mo, .inr (15, [.int u_6, .ref (lm 0), .ref (lm 1), .ref (lm 2), .ref (lm 3), .ref (lm 4), .int 0, .int 0])), ((lm 0), .inr (2, [.int 0, .ref e0, .int 0])), ((lm 1), .inr (2, [.int 0, .ref e0, .int 0])), ((lm 2), .inr (2, [.int 0, .ref e0, .int 0])), ((lm 3), .inr (2, [.int 0, .ref e0, .int 0])), ((lm 4), .inr (2, [.int 0, .ref e0, .int 0]))] H := hP
    have hD : va_D A [(mo, .inr (15, [.int u_6, .ref (lm 0), .ref (lm 1), .ref (lm 2), .ref (lm 3), .ref (lm 4), .int 0, .int 0])), ((lm 0), .inr (2, [.int 0, .ref e0, .int 0])), ((lm 1), .inr (2, [.int 0, .ref e0, .int 0])), ((lm 2), .inr (2, [.int 0, .ref e0, .int 0])), ((lm 3), .inr (2, [.int 0, .ref e0, .int 0])), ((lm 4), .inr (2, [.int 0, .ref e0, .int 0]))] := hD
    have hw : r_5 = 0 ∧ u_6 = 0 := hw
    obtain ⟨rfl, rfl⟩ : r_5 = 0 ∧ u_6 = 0 := hw
    refine lv_if_eq (tgt := 21) hx hb dX12_deal_16 (by decide) (fun _ => ?_) (fun c_7 => absurd c_7 (by decide))
    refine lv_iconst (v := 0) hx hb dX12_deal_21 (by decide) ?_
    refine lv_istore_n (lv' := [(2, .int 0), (0, .ref mo), (1, .int v)]) hx hb dX12_deal_22 rfl hl (by decide) rfl (fun ls hl => ?_)
    refine lv_iconst (v := 0) hx hb dX12_deal_23 (by decide) ?_
    refine lv_istore_n (lv' := [(3, .int 0), (2, .int 0), (0, .ref mo), (1, .int v)]) hx hb dX12_deal_24 rfl hl (by decide) rfl (fun ls hl => ?_)
    refine lv_iload_n hx hb dX12_deal_25 rfl (lv_at hl 0 rfl) ?_
    refine lv_aload_n hx hb dX12_deal_26 rfl (lv_at hl 2 rfl) ?_
    refine va_get (D := (dC, dI)) (ci := 15) (v := .ref (lm 1)) (C := RX12) (T := TX12) (N := 8) hx hb hts (fun w h => List.mem_cons_of_mem _ (List.mem_append_right _ (List.mem_append_right _ (List.mem_append_right _ (List.mem_append_left _ h))))) hown hK hP 0 rfl rfl 2 (by decide) (hts (.fieldLink RX12 16 "SpotbeatModel" "spots" "Ljava/util/List;") (by decide +kernel)) (fun _ h9 => h9) rfl dX12_deal_27 ?_
    have hPc := hP.sub (ws' := [((lm 1), .inr (2, [.int 0, .ref e0, .int 0]))]) [2] rfl
    have hDc := hD.sub (ws' := [((lm 1), .inr (2, [.int 0, .ref e0, .int 0]))]) [2] (by decide) rfl
    have hKc := hK.sub (tys' := []) [] rfl
    have hFc := va_free (wc := [((lm 1), .inr (2, [.int 0, .ref e0, .int 0]))]) hD hS hA [2] rfl
    refine va_callFi (va_runF (As := []) (rest := [.int 0]) ((hK.1 2 _ rfl).2) ⟨hx, hb, hml, hown, hts⟩ (c_Jx4a65c_size_8abf5 l dC dI H.size e0 (lm 1)) (va_cwF 0 hts (goodIn_app (goodIn_of _ (by decide +kernel)) (goodIn_sub ((fun w h => List.mem_cons_of_mem _ (List.mem_append_right _ (List.mem_append_right _ (List.mem_append_right _ (List.mem_append_right _ (List.mem_append_left _ h))))))) zgJx4a65c_size_8abf5)) rfl rfl rfl hE.2.2.2.2.2.2.1 (by decide +kernel) ⟨Nat.le_of_ble_eq_true rfl, Nat.le_of_ble_eq_true rfl⟩) ⟨gPc_blind, va_recv hK hP (ci := 2) (q0 := 2) rfl rfl, gPc_pass hPc hKc hDc⟩ rfl rfl hl.1 rfl (lv_room (Nat.le_of_ble_eq_true rfl)) dX12_deal_30 ⟨Nat.le_of_ble_eq_true rfl, Nat.le_of_ble_eq_true rfl⟩) hS (fun q _ h => hFc q h) hFc (fun r_8 u_9 t H locs ht hvm hw hB hz hk hS => ?_)
    obtain ⟨hP1, hK1, hD1⟩ := hB
    rw [ht] at hP1
    obtain ⟨hP, hD⟩ := va_join (wr := [(mo, .inr (15, [.int 0, .ref (lm 0), .ref (lm 1), .ref (lm 2), .ref (lm 3), .ref (lm 4), .int 0, .int 0])), ((lm 0), .inr (2, [.int 0, .ref e0, .int 0])), ((lm 2), .inr (2, [.int 0, .ref e0, .int 0])), ((lm 3), .inr (2, [.int 0, .ref e0, .int 0])), ((lm 4), .inr (2, [.int 0, .ref e0, .int 0]))]) (w1 := [((lm 1), .inr (2, [.int 0, .ref e0, .int 0]))]) hP hD [2] [0, 1, 3, 4, 5] rfl rfl (by decide) (by decide) hk hFc hP1 hD1
    have hP : va_P (dC, dI) vwCl [(mo, .inr (15, [.int 0, .ref (lm 0), .ref (lm 1), .ref (lm 2), .ref (lm 3), .ref (lm 4), .int 0, .int 0])), ((lm 0), .inr (2, [.int 0, .ref e0, .int 0])), ((lm 2), .inr (2, [.int 0, .ref e0, .int 0])), ((lm 3), .inr (2, [.int 0, .ref e0, .int 0])), ((lm 4), .inr (2, [.int 0, .ref e0, .int 0])), ((lm 1), .inr (2, [.int 0, .ref e0, .int 0]))] H := hP
    have hD : va_D A [(mo, .inr (15, [.int 0, .ref (lm 0), .ref (lm 1), .ref (lm 2), .ref (lm 3), .ref (lm 4), .int 0, .int 0])), ((lm 0), .inr (2, [.int 0, .ref e0, .int 0])), ((lm 2), .inr (2, [.int 0, .ref e0, .int 0])), ((lm 3), .inr (2, [.int 0, .ref e0, .int 0])), ((lm 4), .inr (2, [.int 0, .ref e0, .int 0])), ((lm 1), .inr (2, [.int 0, .ref e0, .int 0]))] := hD
    have hw : r_8 = 0 := hw
    subst hw
    refine lv_icmp_ge (tgt := 313) hx hb dX12_deal_35 (by decide) (fun _ => ?_) (fun c_10 => absurd c_10 (by decide))
    refine lv_iload_n hx hb dX12_deal_313 rfl (lv_at hl 1 rfl) ?_
    have hP9 := hP.sub (ws' := [(mo, .inr (15, [.int 0, .ref (lm 0), .ref (lm 1), .ref (lm 2), .ref (lm 3), .ref (lm 4), .int 0, .int 0])), ((lm 0), .inr (2, [.int 0, .ref e0, .int 0])), ((lm 1), .inr (2, [.int 0, .ref e0, .int 0])), ((lm 2), .inr (2, [.int 0, .ref e0, .int 0])), ((lm 3), .inr (2, [.int 0, .ref e0, .int 0])), ((lm 4), .inr (2, [.int 0, .ref e0, .int 0]))]) [0, 1, 5, 2, 3, 4] rfl
    have hD9 := hD.sub (ws' := [(mo, .inr (15, [.int 0, .ref (lm 0), .ref (lm 1), .ref (lm 2), .ref (lm 3), .ref (lm 4), .int 0, .int 0])), ((lm 0), .inr (2, [.int 0, .ref e0, .int 0])), ((lm 1), .inr (2, [.int 0, .ref e0, .int 0])), ((lm 2), .inr (2, [.int 0, .ref e0, .int 0])), ((lm 3), .inr (2, [.int 0, .ref e0, .int 0])), ((lm 4), .inr (2, [.int 0, .ref e0, .int 0]))]) [0, 1, 5, 2, 3, 4] (by decide) rfl
    have hK9 := hK.sub (tys' := []) [] rfl
    refine W.widen (k := 0) (n := 0) (Nat.le_of_ble_eq_true rfl) (Nat.le_of_ble_eq_true rfl) ?_
    exact W.iret (v := 0) hx hb hr (fun t ht hW => ⟨⟨0, 0, rfl, (Or.inl ⟨rfl, rfl, (by simp only [zPl, zPm, fa_lt, fa_le, fa_eq, zi_0, zi_1, zi_3, zi_4, zi_7, zi_8, zi_10, zi_12, zi_119, zi_m1] at h_3 ⊢ <;> omega)⟩), by rw [ht]; exact hP9, va_K.moved hW.alike hK9, hD9⟩, hS.F ht⟩) hS.2.2 dX12_deal_314
  · refine lv_if_eq (tgt := 12) hx hb dX12_deal_5 (by decide) (fun _ => ?_) (fun c_11 => absurd c_11 (by decide))
    refine lv_iconst (v := 1) hx hb dX12_deal_12 (by decide) ?_
    have hPc := hP.sub (ws' := [(mo, .inr (15, [.int th, .ref (lm 0), .ref (lm 1), .ref (lm 2), .ref (lm 3), .ref (lm 4), .int 0, .int 0])), ((lm 0), .inr (2, [.int 0, .ref e0, .int 0])), ((lm 1), .inr (2, [.int 0, .ref e0, .int 0])), ((lm 2), .inr (2, [.int 0, .ref e0, .int 0])), ((lm 3), .inr (2, [.int 0, .ref e0, .int 0])), ((lm 4), .inr (2, [.int 0, .ref e0, .int 0]))]) [0, 1, 2, 3, 4, 5] rfl
    have hDc := hD.sub (ws' := [(mo, .inr (15, [.int th, .ref (lm 0), .ref (lm 1), .ref (lm 2), .ref (lm 3), .ref (lm 4), .int 0, .int 0])), ((lm 0), .inr (2, [.int 0, .ref e0, .int 0])), ((lm 1), .inr (2, [.int 0, .ref e0, .int 0])), ((lm 2), .inr (2, [.int 0, .ref e0, .int 0])), ((lm 3), .inr (2, [.int 0, .ref e0, .int 0])), ((lm 4), .inr (2, [.int 0, .ref e0, .int 0]))]) [0, 1, 2, 3, 4, 5] (by decide) rfl
    have hKc := hK.sub (tys' := []) [] rfl
    have hFc := va_free (wc := [(mo, .inr (15, [.int th, .ref (lm 0), .ref (lm 1), .ref (lm 2), .ref (lm 3), .ref (lm 4), .int 0, .int 0])), ((lm 0), .inr (2, [.int 0, .ref e0, .int 0])), ((lm 1), .inr (2, [.int 0, .ref e0, .int 0])), ((lm 2), .inr (2, [.int 0, .ref e0, .int 0])), ((lm 3), .inr (2, [.int 0, .ref e0, .int 0])), ((lm 4), .inr (2, [.int 0, .ref e0, .int 0]))]) hD hS hA [0, 1, 2, 3, 4, 5] rfl
    refine va_calli (va_runV (As := [.int 1]) (rest := []) ⟨hx, hb, hml, hown, hts⟩ (c_X12_isWrong_1 l dC dI H.size mo lm e0 th) (cwV 1 hts (goodIn_app (goodIn_of _ (by decide +kernel)) (goodIn_sub ((fun w h => List.mem_cons_of_mem _ (List.mem_append_right _ (List.mem_append_right _ (List.mem_append_right _ (List.mem_append_right _ (List.mem_append_right _ (h)))))))) zgX12_isWrong_1)) rfl rfl rfl (by decide +kernel) ⟨Nat.le_of_ble_eq_true rfl, Nat.le_of_ble_eq_true rfl⟩) ⟨gPcE_blind, va_recv hK hP (ci := 15) (q0 := 0) rfl rfl, gPcE_pass hPc hKc hDc hE hS hFc⟩ rfl rfl hl.1 rfl (lv_room (Nat.le_of_ble_eq_true rfl)) dX12_deal_13 ⟨Nat.le_of_ble_eq_true rfl, Nat.le_of_ble_eq_true rfl⟩) hS (fun q _ h => hFc q h) hFc (fun r_12 u_13 t H locs ht hvm hw hB hz hk hS => ?_)
    obtain ⟨hP1, hK1, hD1⟩ := hB
    rw [ht] at hP1
    obtain ⟨hP, hD⟩ := va_join (wr := []) (w1 := [(mo, .inr (15, [.int u_13, .ref (lm 0), .ref (lm 1), .ref (lm 2), .ref (lm 3), .ref (lm 4), .int 0, .int 0])), ((lm 0), .inr (2, [.int 0, .ref e0, .int 0])), ((lm 1), .inr (2, [.int 0, .ref e0, .int 0])), ((lm 2), .inr (2, [.int 0, .ref e0, .int 0])), ((lm 3), .inr (2, [.int 0, .ref e0, .int 0])), ((lm 4), .inr (2, [.int 0, .ref e0, .int 0]))]) hP hD [0, 1, 2, 3, 4, 5] [] rfl rfl (by decide) (by decide) hk hFc hP1 hD1
    have hP : va_P (dC, dI) vwCl [(mo, .inr (15, [.int u_13, .ref (lm 0), .ref (lm 1), .ref (lm 2), .ref (lm 3), .ref (lm 4), .int 0, .int 0])), ((lm 0), .inr (2, [.int 0, .ref e0, .int 0])), ((lm 1), .inr (2, [.int 0, .ref e0, .int 0])), ((lm 2), .inr (2, [.int 0, .ref e0, .int 0])), ((lm 3), .inr (2, [.int 0, .ref e0, .int 0])), ((lm 4), .inr (2, [.int 0, .ref e0, .int 0]))] H := hP
    have hD : va_D A [(mo, .inr (15, [.int u_13, .ref (lm 0), .ref (lm 1), .ref (lm 2), .ref (lm 3), .ref (lm 4), .int 0, .int 0])), ((lm 0), .inr (2, [.int 0, .ref e0, .int 0])), ((lm 1), .inr (2, [.int 0, .ref e0, .int 0])), ((lm 2), .inr (2, [.int 0, .ref e0, .int 0])), ((lm 3), .inr (2, [.int 0, .ref e0, .int 0])), ((lm 4), .inr (2, [.int 0, .ref e0, .int 0]))] := hD
    have hw : r_12 = 1 ∧ u_13 = 1 := hw
    obtain ⟨rfl, rfl⟩ : r_12 = 1 ∧ u_13 = 1 := hw
    refine lv_if_eq (tgt := 21) hx hb dX12_deal_16 (by decide) (fun c_14 => absurd c_14 (by decide)) (fun _ => ?_)
    refine lv_iconst (v := 0) hx hb dX12_deal_19 (by decide) ?_
    have hP9 := hP.sub (ws' := [(mo, .inr (15, [.int 1, .ref (lm 0), .ref (lm 1), .ref (lm 2), .ref (lm 3), .ref (lm 4), .int 0, .int 0])), ((lm 0), .inr (2, [.int 0, .ref e0, .int 0])), ((lm 1), .inr (2, [.int 0, .ref e0, .int 0])), ((lm 2), .inr (2, [.int 0, .ref e0, .int 0])), ((lm 3), .inr (2, [.int 0, .ref e0, .int 0])), ((lm 4), .inr (2, [.int 0, .ref e0, .int 0]))]) [0, 1, 2, 3, 4, 5] rfl
    have hD9 := hD.sub (ws' := [(mo, .inr (15, [.int 1, .ref (lm 0), .ref (lm 1), .ref (lm 2), .ref (lm 3), .ref (lm 4), .int 0, .int 0])), ((lm 0), .inr (2, [.int 0, .ref e0, .int 0])), ((lm 1), .inr (2, [.int 0, .ref e0, .int 0])), ((lm 2), .inr (2, [.int 0, .ref e0, .int 0])), ((lm 3), .inr (2, [.int 0, .ref e0, .int 0])), ((lm 4), .inr (2, [.int 0, .ref e0, .int 0]))]) [0, 1, 2, 3, 4, 5] (by decide) rfl
    have hK9 := hK.sub (tys' := []) [] rfl
    refine W.widen (k := 0) (n := 0) (Nat.le_of_ble_eq_true rfl) (Nat.le_of_ble_eq_true rfl) ?_
    exact W.iret (v := 0) hx hb hr (fun t ht hW => ⟨⟨0, 1, rfl, (Or.inr ⟨rfl, (by simp only [zPl, zPm, fa_lt, fa_le, fa_eq, zi_0, zi_1, zi_3, zi_4, zi_7, zi_8, zi_10, zi_12, zi_119, zi_m1] at h_3 ⊢ <;> omega)⟩), by rw [ht]; exact hP9, va_K.moved hW.alike hK9, hD9⟩, hS.F ht⟩) hS.2.2 dX12_deal_20

def zwX12_spot : List Cond := .code yX12_spot cX12_spot 8 (some .int) :: (([.fieldLink RX12 10 "SpotbeatModel" "parents" "Ljava/util/List;", .methodLink RX12 46 yX12_isOf, .static yX12_isOf, .initialized RX12, .methodLink RX12 50 yX12_isWrong, .instanceMethod yX12_isWrong, .selects RX12 yX12_isWrong yX12_isWrong] : List Cond) ++ (wsX120 ++ (zwX12_isOf ++ (zwX12_isWrong_1))))
theorem zgX12_spot : zwX12_spot.all goodWord = true := zgo rfl (zga (by decide +kernel) (zga zgcX12 (zga zgX12_isOf (zgX12_isWrong_1))))
set_option maxHeartbeats 4000000 in
set_option maxRecDepth 100000 in
theorem c_X12_spot (l : Launch) (dC : Nat → ClassId) (dI : Nat → Nat → Nat) (sz : Nat) (mo : Nat) (lm : Nat → Nat) (e0 : Nat) (th : Int32) (a : Int32) (b : Int32) (d : Int32) (f : Int32) (g : Int32) (h : Int32) : Met l yX12_spot zwX12_spot ({ frames := 2, cells := 0, slots := 0, locals := 43 }) (gPcE dC dI sz [(mo, .inr (15, [.int th, .ref (lm 0), .ref (lm 1), .ref (lm 2), .ref (lm 3), .ref (lm 4), .int 0, .int 0])), ((lm 0), .inr (2, [.int 0, .ref e0, .int 0])), ((lm 1), .inr (2, [.int 0, .ref e0, .int 0])), ((lm 2), .inr (2, [.int 0, .ref e0, .int 0])), ((lm 3), .inr (2, [.int 0, .ref e0, .int 0])), ((lm 4), .inr (2, [.int 0, .ref e0, .int 0]))] [] [.ref mo, .int a, .int b, .int d, .int f, .int g, .int h]) (va_Qi (fun (r : Int32) (u : Int32) => r = 0 ∧ u = 1) (fun u t => va_P (dC, dI) vwCl [(mo, .inr (15, [.int u, .ref (lm 0), .ref (lm 1), .ref (lm 2), .ref (lm 3), .ref (lm 4), .int 0, .int 0])), ((lm 0), .inr (2, [.int 0, .ref e0, .int 0])), ((lm 1), .inr (2, [.int 0, .ref e0, .int 0])), ((lm 2), .inr (2, [.int 0, .ref e0, .int 0])), ((lm 3), .inr (2, [.int 0, .ref e0, .int 0])), ((lm 4), .inr (2, [.int 0, .ref e0, .int 0]))] t.heap ∧ va_K (dC, dI) vwCl [] t ∧ va_D (va_A [(mo, .inr (15, [.int th, .ref (lm 0), .ref (lm 1), .ref (lm 2), .ref (lm 3), .ref (lm 4), .int 0, .int 0])), ((lm 0), .inr (2, [.int 0, .ref e0, .int 0])), ((lm 1), .inr (2, [.int 0, .ref e0, .int 0])), ((lm 2), .inr (2, [.int 0, .ref e0, .int 0])), ((lm 3), .inr (2, [.int 0, .ref e0, .int 0])), ((lm 4), .inr (2, [.int 0, .ref e0, .int 0]))] sz) [(mo, .inr (15, [.int u, .ref (lm 0), .ref (lm 1), .ref (lm 2), .ref (lm 3), .ref (lm 4), .int 0, .int 0])), ((lm 0), .inr (2, [.int 0, .ref e0, .int 0])), ((lm 1), .inr (2, [.int 0, .ref e0, .int 0])), ((lm 2), .inr (2, [.int 0, .ref e0, .int 0])), ((lm 3), .inr (2, [.int 0, .ref e0, .int 0])), ((lm 4), .inr (2, [.int 0, .ref e0, .int 0]))]) (va_A [(mo, .inr (15, [.int th, .ref (lm 0), .ref (lm 1), .ref (lm 2), .ref (lm 3), .ref (lm 4), .int 0, .int 0])), ((lm 0), .inr (2, [.int 0, .ref e0, .int 0])), ((lm 1), .inr (2, [.int 0, .ref e0, .int 0])), ((lm 2), .inr (2, [.int 0, .ref e0, .int 0])), ((lm 3), .inr (2, [.int 0, .ref e0, .int 0])), ((lm 4), .inr (2, [.int 0, .ref e0, .int 0]))] sz)) 0 0 (va_A [(mo, .inr (15, [.int th, .ref (lm 0), .ref (lm 1), .ref (lm 2), .ref (lm 3), .ref (lm 4), .int 0, .int 0])), ((lm 0), .inr (2, [.int 0, .ref e0, .int 0])), ((lm 1), .inr (2, [.int 0, .ref e0, .int 0])), ((lm 2), .inr (2, [.int 0, .ref e0, .int 0])), ((lm 3), .inr (2, [.int 0, .ref e0, .int 0])), ((lm 4), .inr (2, [.int 0, .ref e0, .int 0]))] sz) := by
  refine Met.ofW (cc := cX12_spot) (maxL := 8) (ret := (some .int)) (by decide) rfl ?_
  intro p e s m args below meth c s₁ B hml hv
  obtain ⟨rfl, hsz, hP, hK, hD0, hE⟩ := hv
  have hx := B.exec
  have hb := B.bytes
  have hr := B.returns
  have hts := atoms_spec (ws := zwX12_spot) B.pre
  have hown : s.vm.findClass RX12 = some m.cls := findClass_of_methodNamed B.named
  have hlocks := B.notSynchronized
  subst hsz
  have hD := hD0.self (sz := s.heap.size)
  generalize hAe : va_A [(mo, .inr (15, [.int th, .ref (lm 0), .ref (lm 1), .ref (lm 2), .ref (lm 3), .ref (lm 4), .int 0, .int 0])), ((lm 0), .inr (2, [.int 0, .ref e0, .int 0])), ((lm 1), .inr (2, [.int 0, .ref e0, .int 0])), ((lm 2), .inr (2, [.int 0, .ref e0, .int 0])), ((lm 3), .inr (2, [.int 0, .ref e0, .int 0])), ((lm 4), .inr (2, [.int 0, .ref e0, .int 0]))] s.heap.size = A at hD hE ⊢
  have hA : ∀ q : Nat, s.heap.size ≤ q → A q := fun q h => by rw [← hAe]; exact Or.inr h
  have hS : va_S A s.heap s.heap [] := va_S.rf
  have hP : va_P (dC, dI) vwCl [(mo, .inr (15, [.int th, .ref (lm 0), .ref (lm 1), .ref (lm 2), .ref (lm 3), .ref (lm 4), .int 0, .int 0])), ((lm 0), .inr (2, [.int 0, .ref e0, .int 0])), ((lm 1), .inr (2, [.int 0, .ref e0, .int 0])), ((lm 2), .inr (2, [.int 0, .ref e0, .int 0])), ((lm 3), .inr (2, [.int 0, .ref e0, .int 0])), ((lm 4), .inr (2, [.int 0, .ref e0, .int 0]))] s.heap := hP
  have hl := lv_entry ([.ref mo, .int a, .int b, .int d, .int f, .int g, .int h]) (n := 8) (Nat.le_of_ble_eq_true rfl)
  rw [lg_entry_eq]
  generalize (lg_sl ([.ref mo, .int a, .int b, .int d, .int f, .int g, .int h]) ++ List.replicate (8 - (lg_sl ([.ref mo, .int a, .int b, .int d, .int f, .int g, .int h])).length) Slot.unset).toArray = ls at hl ⊢
  have hl : lv_has ls 8 [(0, .ref mo), (1, .int a), (2, .int b), (3, .int d), (4, .int f), (5, .int g), (6, .int h)] := hl
  refine lv_aload_n hx hb dX12_spot_0 rfl (lv_at hl 0 rfl) ?_
  refine lv_aload_n hx hb dX12_spot_1 rfl (lv_at hl 0 rfl) ?_
  refine va_get (D := (dC, dI)) (ci := 15) (v := .ref (lm 0)) (C := RX12) (T := TX12) (N := 8) hx hb hts (fun w h => List.mem_cons_of_mem _ (List.mem_append_right _ (List.mem_append_left _ h))) hown hK hP 0 rfl rfl 1 (by decide) (hts (.fieldLink RX12 10 "SpotbeatModel" "parents" "Ljava/util/List;") (by decide +kernel)) (fun _ h9 => h9) rfl dX12_spot_2 ?_
  refine lv_iload_n hx hb dX12_spot_5 rfl (lv_at hl 1 rfl) ?_
  have hPc := hP.sub (ws' := [((lm 0), .inr (2, [.int 0, .ref e0, .int 0]))]) [1] rfl
  have hDc := hD.sub (ws' := [((lm 0), .inr (2, [.int 0, .ref e0, .int 0]))]) [1] (by decide) rfl
  have hKc := hK.sub (tys' := []) [] rfl
  have hFc := va_free (wc := [((lm 0), .inr (2, [.int 0, .ref e0, .int 0]))]) hD hS hA [1] rfl
  refine va_calli (va_runS (As := [.ref (lm 0), .int a]) (rest := [.ref mo]) ⟨hx, hb, hml, hown, hts⟩ (c_X12_isOf l dC dI s.heap.size e0 (lm 0) a) (va_cwS 2 hts (goodIn_app (goodIn_of _ (by decide +kernel)) (goodIn_sub ((fun w h => List.mem_cons_of_mem _ (List.mem_append_right _ (List.mem_append_right _ (List.mem_append_left _ h))))) zgX12_isOf)) rfl rfl rfl (by decide +kernel) ⟨Nat.le_of_ble_eq_true rfl, Nat.le_of_ble_eq_true rfl⟩) ⟨gPcE_blind, gPcE_pass hPc hKc hDc hE hS hFc⟩ rfl rfl hl.1 rfl (lv_room (Nat.le_of_ble_eq_true rfl)) dX12_spot_6 ⟨Nat.le_of_ble_eq_true rfl, Nat.le_of_ble_eq_true rfl⟩) hS (fun q _ h => hFc q h) hFc (fun r_1 u_2 t H locs ht hvm hw hB hz hk hS => ?_)
  obtain ⟨hP1, hK1, hD1⟩ := hB
  rw [ht] at hP1
  obtain ⟨hP, hD⟩ := va_join (wr := [(mo, .inr (15, [.int th, .ref (lm 0), .ref (lm 1), .ref (lm 2), .ref (lm 3), .ref (lm 4), .int 0, .int 0])), ((lm 1), .inr (2, [.int 0, .ref e0, .int 0])), ((lm 2), .inr (2, [.int 0, .ref e0, .int 0])), ((lm 3), .inr (2, [.int 0, .ref e0, .int 0])), ((lm 4), .inr (2, [.int 0, .ref e0, .int 0]))]) (w1 := [((lm 0), .inr (2, [.int 0, .ref e0, .int 0]))]) hP hD [1] [0, 2, 3, 4, 5] rfl rfl (by decide) (by decide) hk hFc hP1 hD1
  have hP : va_P (dC, dI) vwCl [(mo, .inr (15, [.int th, .ref (lm 0), .ref (lm 1), .ref (lm 2), .ref (lm 3), .ref (lm 4), .int 0, .int 0])), ((lm 1), .inr (2, [.int 0, .ref e0, .int 0])), ((lm 2), .inr (2, [.int 0, .ref e0, .int 0])), ((lm 3), .inr (2, [.int 0, .ref e0, .int 0])), ((lm 4), .inr (2, [.int 0, .ref e0, .int 0])), ((lm 0), .inr (2, [.int 0, .ref e0, .int 0]))] H := hP
  have hD : va_D A [(mo, .inr (15, [.int th, .ref (lm 0), .ref (lm 1), .ref (lm 2), .ref (lm 3), .ref (lm 4), .int 0, .int 0])), ((lm 1), .inr (2, [.int 0, .ref e0, .int 0])), ((lm 2), .inr (2, [.int 0, .ref e0, .int 0])), ((lm 3), .inr (2, [.int 0, .ref e0, .int 0])), ((lm 4), .inr (2, [.int 0, .ref e0, .int 0])), ((lm 0), .inr (2, [.int 0, .ref e0, .int 0]))] := hD
  have hw : r_1 = 0 := hw
  subst hw
  refine lv_if_eq (tgt := 23) hx hb dX12_spot_9 (by decide) (fun _ => ?_) (fun c_3 => absurd c_3 (by decide))
  refine lv_iconst (v := 1) hx hb dX12_spot_23 (by decide) ?_
  refine lv_goto (tgt := 61) hx hb dX12_spot_24 (by decide) ?_
  have hPc := hP.sub (ws' := [(mo, .inr (15, [.int th, .ref (lm 0), .ref (lm 1), .ref (lm 2), .ref (lm 3), .ref (lm 4), .int 0, .int 0])), ((lm 0), .inr (2, [.int 0, .ref e0, .int 0])), ((lm 1), .inr (2, [.int 0, .ref e0, .int 0])), ((lm 2), .inr (2, [.int 0, .ref e0, .int 0])), ((lm 3), .inr (2, [.int 0, .ref e0, .int 0])), ((lm 4), .inr (2, [.int 0, .ref e0, .int 0]))]) [0, 5, 1, 2, 3, 4] rfl
  have hDc := hD.sub (ws' := [(mo, .inr (15, [.int th, .ref (lm 0), .ref (lm 1), .ref (lm 2), .ref (lm 3), .ref (lm 4), .int 0, .int 0])), ((lm 0), .inr (2, [.int 0, .ref e0, .int 0])), ((lm 1), .inr (2, [.int 0, .ref e0, .int 0])), ((lm 2), .inr (2, [.int 0, .ref e0, .int 0])), ((lm 3), .inr (2, [.int 0, .ref e0, .int 0])), ((lm 4), .inr (2, [.int 0, .ref e0, .int 0]))]) [0, 5, 1, 2, 3, 4] (by decide) rfl
  have hKc := hK.sub (tys' := []) [] rfl
  have hFc := va_free (wc := [(mo, .inr (15, [.int th, .ref (lm 0), .ref (lm 1), .ref (lm 2), .ref (lm 3), .ref (lm 4), .int 0, .int 0])), ((lm 0), .inr (2, [.int 0, .ref e0, .int 0])), ((lm 1), .inr (2, [.int 0, .ref e0, .int 0])), ((lm 2), .inr (2, [.int 0, .ref e0, .int 0])), ((lm 3), .inr (2, [.int 0, .ref e0, .int 0])), ((lm 4), .inr (2, [.int 0, .ref e0, .int 0]))]) hD hS hA [0, 5, 1, 2, 3, 4] rfl
  refine va_calli (va_runV (As := [.int 1]) (rest := []) ⟨hx, hb, hml, hown, hts⟩ (c_X12_isWrong_1 l dC dI H.size mo lm e0 th) (cwV 1 hts (goodIn_app (goodIn_of _ (by decide +kernel)) (goodIn_sub ((fun w h => List.mem_cons_of_mem _ (List.mem_append_right _ (List.mem_append_right _ (List.mem_append_right _ (h)))))) zgX12_isWrong_1)) rfl rfl rfl (by decide +kernel) ⟨Nat.le_of_ble_eq_true rfl, Nat.le_of_ble_eq_true rfl⟩) ⟨gPcE_blind, va_recv hK hP (ci := 15) (q0 := 0) rfl rfl, gPcE_pass hPc hKc hDc hE hS hFc⟩ rfl rfl hl.1 rfl (lv_room (Nat.le_of_ble_eq_true rfl)) dX12_spot_61 ⟨Nat.le_of_ble_eq_true rfl, Nat.le_of_ble_eq_true rfl⟩) hS (fun q _ h => hFc q h) hFc (fun r_4 u_5 t H locs ht hvm hw hB hz hk hS => ?_)
  obtain ⟨hP1, hK1, hD1⟩ := hB
  rw [ht] at hP1
  obtain ⟨hP, hD⟩ := va_join (wr := []) (w1 := [(mo, .inr (15, [.int u_5, .ref (lm 0), .ref (lm 1), .ref (lm 2), .ref (lm 3), .ref (lm 4), .int 0, .int 0])), ((lm 0), .inr (2, [.int 0, .ref e0, .int 0])), ((lm 1), .inr (2, [.int 0, .ref e0, .int 0])), ((lm 2), .inr (2, [.int 0, .ref e0, .int 0])), ((lm 3), .inr (2, [.int 0, .ref e0, .int 0])), ((lm 4), .inr (2, [.int 0, .ref e0, .int 0]))]) hP hD [0, 5, 1, 2, 3, 4] [] rfl rfl (by decide) (by decide) hk hFc hP1 hD1
  have hP : va_P (dC, dI) vwCl [(mo, .inr (15, [.int u_5, .ref (lm 0), .ref (lm 1), .ref (lm 2), .ref (lm 3), .ref (lm 4), .int 0, .int 0])), ((lm 0), .inr (2, [.int 0, .ref e0, .int 0])), ((lm 1), .inr (2, [.int 0, .ref e0, .int 0])), ((lm 2), .inr (2, [.int 0, .ref e0, .int 0])), ((lm 3), .inr (2, [.int 0, .ref e0, .int 0])), ((lm 4), .inr (2, [.int 0, .ref e0, .int 0]))] H := hP
  have hD : va_D A [(mo, .inr (15, [.int u_5, .ref (lm 0), .ref (lm 1), .ref (lm 2), .ref (lm 3), .ref (lm 4), .int 0, .int 0])), ((lm 0), .inr (2, [.int 0, .ref e0, .int 0])), ((lm 1), .inr (2, [.int 0, .ref e0, .int 0])), ((lm 2), .inr (2, [.int 0, .ref e0, .int 0])), ((lm 3), .inr (2, [.int 0, .ref e0, .int 0])), ((lm 4), .inr (2, [.int 0, .ref e0, .int 0]))] := hD
  have hw : r_4 = 1 ∧ u_5 = 1 := hw
  obtain ⟨rfl, rfl⟩ : r_4 = 1 ∧ u_5 = 1 := hw
  refine lv_if_eq (tgt := 69) hx hb dX12_spot_64 (by decide) (fun c_6 => absurd c_6 (by decide)) (fun _ => ?_)
  refine lv_iconst (v := 0) hx hb dX12_spot_67 (by decide) ?_
  have hP9 := hP.sub (ws' := [(mo, .inr (15, [.int 1, .ref (lm 0), .ref (lm 1), .ref (lm 2), .ref (lm 3), .ref (lm 4), .int 0, .int 0])), ((lm 0), .inr (2, [.int 0, .ref e0, .int 0])), ((lm 1), .inr (2, [.int 0, .ref e0, .int 0])), ((lm 2), .inr (2, [.int 0, .ref e0, .int 0])), ((lm 3), .inr (2, [.int 0, .ref e0, .int 0])), ((lm 4), .inr (2, [.int 0, .ref e0, .int 0]))]) [0, 1, 2, 3, 4, 5] rfl
  have hD9 := hD.sub (ws' := [(mo, .inr (15, [.int 1, .ref (lm 0), .ref (lm 1), .ref (lm 2), .ref (lm 3), .ref (lm 4), .int 0, .int 0])), ((lm 0), .inr (2, [.int 0, .ref e0, .int 0])), ((lm 1), .inr (2, [.int 0, .ref e0, .int 0])), ((lm 2), .inr (2, [.int 0, .ref e0, .int 0])), ((lm 3), .inr (2, [.int 0, .ref e0, .int 0])), ((lm 4), .inr (2, [.int 0, .ref e0, .int 0]))]) [0, 1, 2, 3, 4, 5] (by decide) rfl
  have hK9 := hK.sub (tys' := []) [] rfl
  refine W.widen (k := 0) (n := 0) (Nat.le_of_ble_eq_true rfl) (Nat.le_of_ble_eq_true rfl) ?_
  exact W.iret (v := 0) hx hb hr (fun t ht hW => ⟨⟨0, 1, rfl, ⟨rfl, rfl⟩, by rw [ht]; exact hP9, va_K.moved hW.alike hK9, hD9⟩, hS.F ht⟩) hS.2.2 dX12_spot_68

def zwX12_robot : List Cond := .code yX12_robot cX12_robot 7 (some .int) :: (([.fieldLink RX12 19 "SpotbeatModel" "stations" "Ljava/util/List;", .methodLink RX12 46 yX12_isOf, .static yX12_isOf, .initialized RX12, .methodLink RX12 50 yX12_isWrong, .instanceMethod yX12_isWrong, .selects RX12 yX12_isWrong yX12_isWrong] : List Cond) ++ (wsX120 ++ (zwX12_isOf ++ (zwX12_isWrong_1))))
theorem zgX12_robot : zwX12_robot.all goodWord = true := zgo rfl (zga (by decide +kernel) (zga zgcX12 (zga zgX12_isOf (zgX12_isWrong_1))))
set_option maxHeartbeats 4000000 in
set_option maxRecDepth 100000 in
theorem c_X12_robot (l : Launch) (dC : Nat → ClassId) (dI : Nat → Nat → Nat) (sz : Nat) (mo : Nat) (lm : Nat → Nat) (e0 : Nat) (th : Int32) (a : Int32) (b : Int32) (d : Int32) : Met l yX12_robot zwX12_robot ({ frames := 2, cells := 0, slots := 0, locals := 43 }) (gPcE dC dI sz [(mo, .inr (15, [.int th, .ref (lm 0), .ref (lm 1), .ref (lm 2), .ref (lm 3), .ref (lm 4), .int 0, .int 0])), ((lm 0), .inr (2, [.int 0, .ref e0, .int 0])), ((lm 1), .inr (2, [.int 0, .ref e0, .int 0])), ((lm 2), .inr (2, [.int 0, .ref e0, .int 0])), ((lm 3), .inr (2, [.int 0, .ref e0, .int 0])), ((lm 4), .inr (2, [.int 0, .ref e0, .int 0]))] [] [.ref mo, .int a, .int b, .int d]) (va_Qi (fun (r : Int32) (u : Int32) => r = 0 ∧ u = 1) (fun u t => va_P (dC, dI) vwCl [(mo, .inr (15, [.int u, .ref (lm 0), .ref (lm 1), .ref (lm 2), .ref (lm 3), .ref (lm 4), .int 0, .int 0])), ((lm 0), .inr (2, [.int 0, .ref e0, .int 0])), ((lm 1), .inr (2, [.int 0, .ref e0, .int 0])), ((lm 2), .inr (2, [.int 0, .ref e0, .int 0])), ((lm 3), .inr (2, [.int 0, .ref e0, .int 0])), ((lm 4), .inr (2, [.int 0, .ref e0, .int 0]))] t.heap ∧ va_K (dC, dI) vwCl [] t ∧ va_D (va_A [(mo, .inr (15, [.int th, .ref (lm 0), .ref (lm 1), .ref (lm 2), .ref (lm 3), .ref (lm 4), .int 0, .int 0])), ((lm 0), .inr (2, [.int 0, .ref e0, .int 0])), ((lm 1), .inr (2, [.int 0, .ref e0, .int 0])), ((lm 2), .inr (2, [.int 0, .ref e0, .int 0])), ((lm 3), .inr (2, [.int 0, .ref e0, .int 0])), ((lm 4), .inr (2, [.int 0, .ref e0, .int 0]))] sz) [(mo, .inr (15, [.int u, .ref (lm 0), .ref (lm 1), .ref (lm 2), .ref (lm 3), .ref (lm 4), .int 0, .int 0])), ((lm 0), .inr (2, [.int 0, .ref e0, .int 0])), ((lm 1), .inr (2, [.int 0, .ref e0, .int 0])), ((lm 2), .inr (2, [.int 0, .ref e0, .int 0])), ((lm 3), .inr (2, [.int 0, .ref e0, .int 0])), ((lm 4), .inr (2, [.int 0, .ref e0, .int 0]))]) (va_A [(mo, .inr (15, [.int th, .ref (lm 0), .ref (lm 1), .ref (lm 2), .ref (lm 3), .ref (lm 4), .int 0, .int 0])), ((lm 0), .inr (2, [.int 0, .ref e0, .int 0])), ((lm 1), .inr (2, [.int 0, .ref e0, .int 0])), ((lm 2), .inr (2, [.int 0, .ref e0, .int 0])), ((lm 3), .inr (2, [.int 0, .ref e0, .int 0])), ((lm 4), .inr (2, [.int 0, .ref e0, .int 0]))] sz)) 0 0 (va_A [(mo, .inr (15, [.int th, .ref (lm 0), .ref (lm 1), .ref (lm 2), .ref (lm 3), .ref (lm 4), .int 0, .int 0])), ((lm 0), .inr (2, [.int 0, .ref e0, .int 0])), ((lm 1), .inr (2, [.int 0, .ref e0, .int 0])), ((lm 2), .inr (2, [.int 0, .ref e0, .int 0])), ((lm 3), .inr (2, [.int 0, .ref e0, .int 0])), ((lm 4), .inr (2, [.int 0, .ref e0, .int 0]))] sz) := by
  refine Met.ofW (cc := cX12_robot) (maxL := 7) (ret := (some .int)) (by decide) rfl ?_
  intro p e s m args below meth c s₁ B hml hv
  obtain ⟨rfl, hsz, hP, hK, hD0, hE⟩ := hv
  have hx := B.exec
  have hb := B.bytes
  have hr := B.returns
  have hts := atoms_spec (ws := zwX12_robot) B.pre
  have hown : s.vm.findClass RX12 = some m.cls := findClass_of_methodNamed B.named
  have hlocks := B.notSynchronized
  subst hsz
  have hD := hD0.self (sz := s.heap.size)
  generalize hAe : va_A [(mo, .inr (15, [.int th, .ref (lm 0), .ref (lm 1), .ref (lm 2), .ref (lm 3), .ref (lm 4), .int 0, .int 0])), ((lm 0), .inr (2, [.int 0, .ref e0, .int 0])), ((lm 1), .inr (2, [.int 0, .ref e0, .int 0])), ((lm 2), .inr (2, [.int 0, .ref e0, .int 0])), ((lm 3), .inr (2, [.int 0, .ref e0, .int 0])), ((lm 4), .inr (2, [.int 0, .ref e0, .int 0]))] s.heap.size = A at hD hE ⊢
  have hA : ∀ q : Nat, s.heap.size ≤ q → A q := fun q h => by rw [← hAe]; exact Or.inr h
  have hS : va_S A s.heap s.heap [] := va_S.rf
  have hP : va_P (dC, dI) vwCl [(mo, .inr (15, [.int th, .ref (lm 0), .ref (lm 1), .ref (lm 2), .ref (lm 3), .ref (lm 4), .int 0, .int 0])), ((lm 0), .inr (2, [.int 0, .ref e0, .int 0])), ((lm 1), .inr (2, [.int 0, .ref e0, .int 0])), ((lm 2), .inr (2, [.int 0, .ref e0, .int 0])), ((lm 3), .inr (2, [.int 0, .ref e0, .int 0])), ((lm 4), .inr (2, [.int 0, .ref e0, .int 0]))] s.heap := hP
  have hl := lv_entry ([.ref mo, .int a, .int b, .int d]) (n := 7) (Nat.le_of_ble_eq_true rfl)
  rw [lg_entry_eq]
  generalize (lg_sl ([.ref mo, .int a, .int b, .int d]) ++ List.replicate (7 - (lg_sl ([.ref mo, .int a, .int b, .int d])).length) Slot.unset).toArray = ls at hl ⊢
  have hl : lv_has ls 7 [(0, .ref mo), (1, .int a), (2, .int b), (3, .int d)] := hl
  refine lv_aload_n hx hb dX12_robot_0 rfl (lv_at hl 0 rfl) ?_
  refine lv_aload_n hx hb dX12_robot_1 rfl (lv_at hl 0 rfl) ?_
  refine va_get (D := (dC, dI)) (ci := 15) (v := .ref (lm 2)) (C := RX12) (T := TX12) (N := 8) hx hb hts (fun w h => List.mem_cons_of_mem _ (List.mem_append_right _ (List.mem_append_left _ h))) hown hK hP 0 rfl rfl 3 (by decide) (hts (.fieldLink RX12 19 "SpotbeatModel" "stations" "Ljava/util/List;") (by decide +kernel)) (fun _ h9 => h9) rfl dX12_robot_2 ?_
  refine lv_iload_n hx hb dX12_robot_5 rfl (lv_at hl 1 rfl) ?_
  have hPc := hP.sub (ws' := [((lm 2), .inr (2, [.int 0, .ref e0, .int 0]))]) [3] rfl
  have hDc := hD.sub (ws' := [((lm 2), .inr (2, [.int 0, .ref e0, .int 0]))]) [3] (by decide) rfl
  have hKc := hK.sub (tys' := []) [] rfl
  have hFc := va_free (wc := [((lm 2), .inr (2, [.int 0, .ref e0, .int 0]))]) hD hS hA [3] rfl
  refine va_calli (va_runS (As := [.ref (lm 2), .int a]) (rest := [.ref mo]) ⟨hx, hb, hml, hown, hts⟩ (c_X12_isOf l dC dI s.heap.size e0 (lm 2) a) (va_cwS 2 hts (goodIn_app (goodIn_of _ (by decide +kernel)) (goodIn_sub ((fun w h => List.mem_cons_of_mem _ (List.mem_append_right _ (List.mem_append_right _ (List.mem_append_left _ h))))) zgX12_isOf)) rfl rfl rfl (by decide +kernel) ⟨Nat.le_of_ble_eq_true rfl, Nat.le_of_ble_eq_true rfl⟩) ⟨gPcE_blind, gPcE_pass hPc hKc hDc hE hS hFc⟩ rfl rfl hl.1 rfl (lv_room (Nat.le_of_ble_eq_true rfl)) dX12_robot_6 ⟨Nat.le_of_ble_eq_true rfl, Nat.le_of_ble_eq_true rfl⟩) hS (fun q _ h => hFc q h) hFc (fun r_1 u_2 t H locs ht hvm hw hB hz hk hS => ?_)
  obtain ⟨hP1, hK1, hD1⟩ := hB
  rw [ht] at hP1
  obtain ⟨hP, hD⟩ := va_join (wr := [(mo, .inr (15, [.int th, .ref (lm 0), .ref (lm 1), .ref (lm 2), .ref (lm 3), .ref (lm 4), .int 0, .int 0])), ((lm 0), .inr (2, [.int 0, .ref e0, .int 0])), ((lm 1), .inr (2, [.int 0, .ref e0, .int 0])), ((lm 3), .inr (2, [.int 0, .ref e0, .int 0])), ((lm 4), .inr (2, [.int 0, .ref e0, .int 0]))]) (w1 := [((lm 2), .inr (2, [.int 0, .ref e0, .int 0]))]) hP hD [3] [0, 1, 2, 4, 5] rfl rfl (by decide) (by decide) hk hFc hP1 hD1
  have hP : va_P (dC, dI) vwCl [(mo, .inr (15, [.int th, .ref (lm 0), .ref (lm 1), .ref (lm 2), .ref (lm 3), .ref (lm 4), .int 0, .int 0])), ((lm 0), .inr (2, [.int 0, .ref e0, .int 0])), ((lm 1), .inr (2, [.int 0, .ref e0, .int 0])), ((lm 3), .inr (2, [.int 0, .ref e0, .int 0])), ((lm 4), .inr (2, [.int 0, .ref e0, .int 0])), ((lm 2), .inr (2, [.int 0, .ref e0, .int 0]))] H := hP
  have hD : va_D A [(mo, .inr (15, [.int th, .ref (lm 0), .ref (lm 1), .ref (lm 2), .ref (lm 3), .ref (lm 4), .int 0, .int 0])), ((lm 0), .inr (2, [.int 0, .ref e0, .int 0])), ((lm 1), .inr (2, [.int 0, .ref e0, .int 0])), ((lm 3), .inr (2, [.int 0, .ref e0, .int 0])), ((lm 4), .inr (2, [.int 0, .ref e0, .int 0])), ((lm 2), .inr (2, [.int 0, .ref e0, .int 0]))] := hD
  have hw : r_1 = 0 := hw
  subst hw
  refine lv_if_ne (tgt := 16) hx hb dX12_robot_9 (by decide) (fun c_3 => absurd c_3 (by decide)) (fun _ => ?_)
  refine lv_iconst (v := 1) hx hb dX12_robot_12 (by decide) ?_
  refine lv_goto (tgt := 38) hx hb dX12_robot_13 (by decide) ?_
  have hPc := hP.sub (ws' := [(mo, .inr (15, [.int th, .ref (lm 0), .ref (lm 1), .ref (lm 2), .ref (lm 3), .ref (lm 4), .int 0, .int 0])), ((lm 0), .inr (2, [.int 0, .ref e0, .int 0])), ((lm 1), .inr (2, [.int 0, .ref e0, .int 0])), ((lm 2), .inr (2, [.int 0, .ref e0, .int 0])), ((lm 3), .inr (2, [.int 0, .ref e0, .int 0])), ((lm 4), .inr (2, [.int 0, .ref e0, .int 0]))]) [0, 1, 2, 5, 3, 4] rfl
  have hDc := hD.sub (ws' := [(mo, .inr (15, [.int th, .ref (lm 0), .ref (lm 1), .ref (lm 2), .ref (lm 3), .ref (lm 4), .int 0, .int 0])), ((lm 0), .inr (2, [.int 0, .ref e0, .int 0])), ((lm 1), .inr (2, [.int 0, .ref e0, .int 0])), ((lm 2), .inr (2, [.int 0, .ref e0, .int 0])), ((lm 3), .inr (2, [.int 0, .ref e0, .int 0])), ((lm 4), .inr (2, [.int 0, .ref e0, .int 0]))]) [0, 1, 2, 5, 3, 4] (by decide) rfl
  have hKc := hK.sub (tys' := []) [] rfl
  have hFc := va_free (wc := [(mo, .inr (15, [.int th, .ref (lm 0), .ref (lm 1), .ref (lm 2), .ref (lm 3), .ref (lm 4), .int 0, .int 0])), ((lm 0), .inr (2, [.int 0, .ref e0, .int 0])), ((lm 1), .inr (2, [.int 0, .ref e0, .int 0])), ((lm 2), .inr (2, [.int 0, .ref e0, .int 0])), ((lm 3), .inr (2, [.int 0, .ref e0, .int 0])), ((lm 4), .inr (2, [.int 0, .ref e0, .int 0]))]) hD hS hA [0, 1, 2, 5, 3, 4] rfl
  refine va_calli (va_runV (As := [.int 1]) (rest := []) ⟨hx, hb, hml, hown, hts⟩ (c_X12_isWrong_1 l dC dI H.size mo lm e0 th) (cwV 1 hts (goodIn_app (goodIn_of _ (by decide +kernel)) (goodIn_sub ((fun w h => List.mem_cons_of_mem _ (List.mem_append_right _ (List.mem_append_right _ (List.mem_append_right _ (h)))))) zgX12_isWrong_1)) rfl rfl rfl (by decide +kernel) ⟨Nat.le_of_ble_eq_true rfl, Nat.le_of_ble_eq_true rfl⟩) ⟨gPcE_blind, va_recv hK hP (ci := 15) (q0 := 0) rfl rfl, gPcE_pass hPc hKc hDc hE hS hFc⟩ rfl rfl hl.1 rfl (lv_room (Nat.le_of_ble_eq_true rfl)) dX12_robot_38 ⟨Nat.le_of_ble_eq_true rfl, Nat.le_of_ble_eq_true rfl⟩) hS (fun q _ h => hFc q h) hFc (fun r_4 u_5 t H locs ht hvm hw hB hz hk hS => ?_)
  obtain ⟨hP1, hK1, hD1⟩ := hB
  rw [ht] at hP1
  obtain ⟨hP, hD⟩ := va_join (wr := []) (w1 := [(mo, .inr (15, [.int u_5, .ref (lm 0), .ref (lm 1), .ref (lm 2), .ref (lm 3), .ref (lm 4), .int 0, .int 0])), ((lm 0), .inr (2, [.int 0, .ref e0, .int 0])), ((lm 1), .inr (2, [.int 0, .ref e0, .int 0])), ((lm 2), .inr (2, [.int 0, .ref e0, .int 0])), ((lm 3), .inr (2, [.int 0, .ref e0, .int 0])), ((lm 4), .inr (2, [.int 0, .ref e0, .int 0]))]) hP hD [0, 1, 2, 5, 3, 4] [] rfl rfl (by decide) (by decide) hk hFc hP1 hD1
  have hP : va_P (dC, dI) vwCl [(mo, .inr (15, [.int u_5, .ref (lm 0), .ref (lm 1), .ref (lm 2), .ref (lm 3), .ref (lm 4), .int 0, .int 0])), ((lm 0), .inr (2, [.int 0, .ref e0, .int 0])), ((lm 1), .inr (2, [.int 0, .ref e0, .int 0])), ((lm 2), .inr (2, [.int 0, .ref e0, .int 0])), ((lm 3), .inr (2, [.int 0, .ref e0, .int 0])), ((lm 4), .inr (2, [.int 0, .ref e0, .int 0]))] H := hP
  have hD : va_D A [(mo, .inr (15, [.int u_5, .ref (lm 0), .ref (lm 1), .ref (lm 2), .ref (lm 3), .ref (lm 4), .int 0, .int 0])), ((lm 0), .inr (2, [.int 0, .ref e0, .int 0])), ((lm 1), .inr (2, [.int 0, .ref e0, .int 0])), ((lm 2), .inr (2, [.int 0, .ref e0, .int 0])), ((lm 3), .inr (2, [.int 0, .ref e0, .int 0])), ((lm 4), .inr (2, [.int 0, .ref e0, .int 0]))] := hD
  have hw : r_4 = 1 ∧ u_5 = 1 := hw
  obtain ⟨rfl, rfl⟩ : r_4 = 1 ∧ u_5 = 1 := hw
  refine lv_if_eq (tgt := 46) hx hb dX12_robot_41 (by decide) (fun c_6 => absurd c_6 (by decide)) (fun _ => ?_)
  refine lv_iconst (v := 0) hx hb dX12_robot_44 (by decide) ?_
  have hP9 := hP.sub (ws' := [(mo, .inr (15, [.int 1, .ref (lm 0), .ref (lm 1), .ref (lm 2), .ref (lm 3), .ref (lm 4), .int 0, .int 0])), ((lm 0), .inr (2, [.int 0, .ref e0, .int 0])), ((lm 1), .inr (2, [.int 0, .ref e0, .int 0])), ((lm 2), .inr (2, [.int 0, .ref e0, .int 0])), ((lm 3), .inr (2, [.int 0, .ref e0, .int 0])), ((lm 4), .inr (2, [.int 0, .ref e0, .int 0]))]) [0, 1, 2, 3, 4, 5] rfl
  have hD9 := hD.sub (ws' := [(mo, .inr (15, [.int 1, .ref (lm 0), .ref (lm 1), .ref (lm 2), .ref (lm 3), .ref (lm 4), .int 0, .int 0])), ((lm 0), .inr (2, [.int 0, .ref e0, .int 0])), ((lm 1), .inr (2, [.int 0, .ref e0, .int 0])), ((lm 2), .inr (2, [.int 0, .ref e0, .int 0])), ((lm 3), .inr (2, [.int 0, .ref e0, .int 0])), ((lm 4), .inr (2, [.int 0, .ref e0, .int 0]))]) [0, 1, 2, 3, 4, 5] (by decide) rfl
  have hK9 := hK.sub (tys' := []) [] rfl
  refine W.widen (k := 0) (n := 0) (Nat.le_of_ble_eq_true rfl) (Nat.le_of_ble_eq_true rfl) ?_
  exact W.iret (v := 0) hx hb hr (fun t ht hW => ⟨⟨0, 1, rfl, ⟨rfl, rfl⟩, by rw [ht]; exact hP9, va_K.moved hW.alike hK9, hD9⟩, hS.F ht⟩) hS.2.2 dX12_robot_45

def zwX12_reaches : List Cond := .code yX12_reaches cX12_reaches 3 (some .boolean) :: (([.fieldLink RX12 22 "SpotbeatModel" "robots" "Ljava/util/List;", .methodLink RX12 46 yX12_isOf, .static yX12_isOf, .initialized RX12, .methodLink RX12 50 yX12_isWrong, .instanceMethod yX12_isWrong, .selects RX12 yX12_isWrong yX12_isWrong] : List Cond) ++ (wsX120 ++ (zwX12_isOf ++ (zwX12_isWrong_1))))
theorem zgX12_reaches : zwX12_reaches.all goodWord = true := zgo rfl (zga (by decide +kernel) (zga zgcX12 (zga zgX12_isOf (zgX12_isWrong_1))))
set_option maxHeartbeats 4000000 in
set_option maxRecDepth 100000 in
theorem c_X12_reaches (l : Launch) (dC : Nat → ClassId) (dI : Nat → Nat → Nat) (sz : Nat) (mo : Nat) (lm : Nat → Nat) (e0 : Nat) (th : Int32) (a : Int32) (b : Int32) : Met l yX12_reaches zwX12_reaches ({ frames := 2, cells := 0, slots := 0, locals := 43 }) (gPcE dC dI sz [(mo, .inr (15, [.int th, .ref (lm 0), .ref (lm 1), .ref (lm 2), .ref (lm 3), .ref (lm 4), .int 0, .int 0])), ((lm 0), .inr (2, [.int 0, .ref e0, .int 0])), ((lm 1), .inr (2, [.int 0, .ref e0, .int 0])), ((lm 2), .inr (2, [.int 0, .ref e0, .int 0])), ((lm 3), .inr (2, [.int 0, .ref e0, .int 0])), ((lm 4), .inr (2, [.int 0, .ref e0, .int 0]))] [] [.ref mo, .int a, .int b]) (va_Qi (fun (r : Int32) (u : Int32) => r = 0 ∧ u = 1) (fun u t => va_P (dC, dI) vwCl [(mo, .inr (15, [.int u, .ref (lm 0), .ref (lm 1), .ref (lm 2), .ref (lm 3), .ref (lm 4), .int 0, .int 0])), ((lm 0), .inr (2, [.int 0, .ref e0, .int 0])), ((lm 1), .inr (2, [.int 0, .ref e0, .int 0])), ((lm 2), .inr (2, [.int 0, .ref e0, .int 0])), ((lm 3), .inr (2, [.int 0, .ref e0, .int 0])), ((lm 4), .inr (2, [.int 0, .ref e0, .int 0]))] t.heap ∧ va_K (dC, dI) vwCl [] t ∧ va_D (va_A [(mo, .inr (15, [.int th, .ref (lm 0), .ref (lm 1), .ref (lm 2), .ref (lm 3), .ref (lm 4), .int 0, .int 0])), ((lm 0), .inr (2, [.int 0, .ref e0, .int 0])), ((lm 1), .inr (2, [.int 0, .ref e0, .int 0])), ((lm 2), .inr (2, [.int 0, .ref e0, .int 0])), ((lm 3), .inr (2, [.int 0, .ref e0, .int 0])), ((lm 4), .inr (2, [.int 0, .ref e0, .int 0]))] sz) [(mo, .inr (15, [.int u, .ref (lm 0), .ref (lm 1), .ref (lm 2), .ref (lm 3), .ref (lm 4), .int 0, .int 0])), ((lm 0), .inr (2, [.int 0, .ref e0, .int 0])), ((lm 1), .inr (2, [.int 0, .ref e0, .int 0])), ((lm 2), .inr (2, [.int 0, .ref e0, .int 0])), ((lm 3), .inr (2, [.int 0, .ref e0, .int 0])), ((lm 4), .inr (2, [.int 0, .ref e0, .int 0]))]) (va_A [(mo, .inr (15, [.int th, .ref (lm 0), .ref (lm 1), .ref (lm 2), .ref (lm 3), .ref (lm 4), .int 0, .int 0])), ((lm 0), .inr (2, [.int 0, .ref e0, .int 0])), ((lm 1), .inr (2, [.int 0, .ref e0, .int 0])), ((lm 2), .inr (2, [.int 0, .ref e0, .int 0])), ((lm 3), .inr (2, [.int 0, .ref e0, .int 0])), ((lm 4), .inr (2, [.int 0, .ref e0, .int 0]))] sz)) 0 0 (va_A [(mo, .inr (15, [.int th, .ref (lm 0), .ref (lm 1), .ref (lm 2), .ref (lm 3), .ref (lm 4), .int 0, .int 0])), ((lm 0), .inr (2, [.int 0, .ref e0, .int 0])), ((lm 1), .inr (2, [.int 0, .ref e0, .int 0])), ((lm 2), .inr (2, [.int 0, .ref e0, .int 0])), ((lm 3), .inr (2, [.int 0, .ref e0, .int 0])), ((lm 4), .inr (2, [.int 0, .ref e0, .int 0]))] sz) := by
  refine Met.ofW (cc := cX12_reaches) (maxL := 3) (ret := (some .boolean)) (by decide) rfl ?_
  intro p e s m args below meth c s₁ B hml hv
  obtain ⟨rfl, hsz, hP, hK, hD0, hE⟩ := hv
  have hx := B.exec
  have hb := B.bytes
  have hr := B.returns
  have hts := atoms_spec (ws := zwX12_reaches) B.pre
  have hown : s.vm.findClass RX12 = some m.cls := findClass_of_methodNamed B.named
  have hlocks := B.notSynchronized
  subst hsz
  have hD := hD0.self (sz := s.heap.size)
  generalize hAe : va_A [(mo, .inr (15, [.int th, .ref (lm 0), .ref (lm 1), .ref (lm 2), .ref (lm 3), .ref (lm 4), .int 0, .int 0])), ((lm 0), .inr (2, [.int 0, .ref e0, .int 0])), ((lm 1), .inr (2, [.int 0, .ref e0, .int 0])), ((lm 2), .inr (2, [.int 0, .ref e0, .int 0])), ((lm 3), .inr (2, [.int 0, .ref e0, .int 0])), ((lm 4), .inr (2, [.int 0, .ref e0, .int 0]))] s.heap.size = A at hD hE ⊢
  have hA : ∀ q : Nat, s.heap.size ≤ q → A q := fun q h => by rw [← hAe]; exact Or.inr h
  have hS : va_S A s.heap s.heap [] := va_S.rf
  have hP : va_P (dC, dI) vwCl [(mo, .inr (15, [.int th, .ref (lm 0), .ref (lm 1), .ref (lm 2), .ref (lm 3), .ref (lm 4), .int 0, .int 0])), ((lm 0), .inr (2, [.int 0, .ref e0, .int 0])), ((lm 1), .inr (2, [.int 0, .ref e0, .int 0])), ((lm 2), .inr (2, [.int 0, .ref e0, .int 0])), ((lm 3), .inr (2, [.int 0, .ref e0, .int 0])), ((lm 4), .inr (2, [.int 0, .ref e0, .int 0]))] s.heap := hP
  have hl := lv_entry ([.ref mo, .int a, .int b]) (n := 3) (Nat.le_of_ble_eq_true rfl)
  rw [lg_entry_eq]
  generalize (lg_sl ([.ref mo, .int a, .int b]) ++ List.replicate (3 - (lg_sl ([.ref mo, .int a, .int b])).length) Slot.unset).toArray = ls at hl ⊢
  have hl : lv_has ls 3 [(0, .ref mo), (1, .int a), (2, .int b)] := hl
  refine lv_aload_n hx hb dX12_reaches_0 rfl (lv_at hl 0 rfl) ?_
  refine lv_aload_n hx hb dX12_reaches_1 rfl (lv_at hl 0 rfl) ?_
  refine va_get (D := (dC, dI)) (ci := 15) (v := .ref (lm 3)) (C := RX12) (T := TX12) (N := 8) hx hb hts (fun w h => List.mem_cons_of_mem _ (List.mem_append_right _ (List.mem_append_left _ h))) hown hK hP 0 rfl rfl 4 (by decide) (hts (.fieldLink RX12 22 "SpotbeatModel" "robots" "Ljava/util/List;") (by decide +kernel)) (fun _ h9 => h9) rfl dX12_reaches_2 ?_
  refine lv_iload_n hx hb dX12_reaches_5 rfl (lv_at hl 1 rfl) ?_
  have hPc := hP.sub (ws' := [((lm 3), .inr (2, [.int 0, .ref e0, .int 0]))]) [4] rfl
  have hDc := hD.sub (ws' := [((lm 3), .inr (2, [.int 0, .ref e0, .int 0]))]) [4] (by decide) rfl
  have hKc := hK.sub (tys' := []) [] rfl
  have hFc := va_free (wc := [((lm 3), .inr (2, [.int 0, .ref e0, .int 0]))]) hD hS hA [4] rfl
  refine va_calli (va_runS (As := [.ref (lm 3), .int a]) (rest := [.ref mo]) ⟨hx, hb, hml, hown, hts⟩ (c_X12_isOf l dC dI s.heap.size e0 (lm 3) a) (va_cwS 2 hts (goodIn_app (goodIn_of _ (by decide +kernel)) (goodIn_sub ((fun w h => List.mem_cons_of_mem _ (List.mem_append_right _ (List.mem_append_right _ (List.mem_append_left _ h))))) zgX12_isOf)) rfl rfl rfl (by decide +kernel) ⟨Nat.le_of_ble_eq_true rfl, Nat.le_of_ble_eq_true rfl⟩) ⟨gPcE_blind, gPcE_pass hPc hKc hDc hE hS hFc⟩ rfl rfl hl.1 rfl (lv_room (Nat.le_of_ble_eq_true rfl)) dX12_reaches_6 ⟨Nat.le_of_ble_eq_true rfl, Nat.le_of_ble_eq_true rfl⟩) hS (fun q _ h => hFc q h) hFc (fun r_1 u_2 t H locs ht hvm hw hB hz hk hS => ?_)
  obtain ⟨hP1, hK1, hD1⟩ := hB
  rw [ht] at hP1
  obtain ⟨hP, hD⟩ := va_join (wr := [(mo, .inr (15, [.int th, .ref (lm 0), .ref (lm 1), .ref (lm 2), .ref (lm 3), .ref (lm 4), .int 0, .int 0])), ((lm 0), .inr (2, [.int 0, .ref e0, .int 0])), ((lm 1), .inr (2, [.int 0, .ref e0, .int 0])), ((lm 2), .inr (2, [.int 0, .ref e0, .int 0])), ((lm 4), .inr (2, [.int 0, .ref e0, .int 0]))]) (w1 := [((lm 3), .inr (2, [.int 0, .ref e0, .int 0]))]) hP hD [4] [0, 1, 2, 3, 5] rfl rfl (by decide) (by decide) hk hFc hP1 hD1
  have hP : va_P (dC, dI) vwCl [(mo, .inr (15, [.int th, .ref (lm 0), .ref (lm 1), .ref (lm 2), .ref (lm 3), .ref (lm 4), .int 0, .int 0])), ((lm 0), .inr (2, [.int 0, .ref e0, .int 0])), ((lm 1), .inr (2, [.int 0, .ref e0, .int 0])), ((lm 2), .inr (2, [.int 0, .ref e0, .int 0])), ((lm 4), .inr (2, [.int 0, .ref e0, .int 0])), ((lm 3), .inr (2, [.int 0, .ref e0, .int 0]))] H := hP
  have hD : va_D A [(mo, .inr (15, [.int th, .ref (lm 0), .ref (lm 1), .ref (lm 2), .ref (lm 3), .ref (lm 4), .int 0, .int 0])), ((lm 0), .inr (2, [.int 0, .ref e0, .int 0])), ((lm 1), .inr (2, [.int 0, .ref e0, .int 0])), ((lm 2), .inr (2, [.int 0, .ref e0, .int 0])), ((lm 4), .inr (2, [.int 0, .ref e0, .int 0])), ((lm 3), .inr (2, [.int 0, .ref e0, .int 0]))] := hD
  have hw : r_1 = 0 := hw
  subst hw
  refine lv_if_ne (tgt := 16) hx hb dX12_reaches_9 (by decide) (fun c_3 => absurd c_3 (by decide)) (fun _ => ?_)
  refine lv_iconst (v := 1) hx hb dX12_reaches_12 (by decide) ?_
  refine lv_goto (tgt := 28) hx hb dX12_reaches_13 (by decide) ?_
  have hPc := hP.sub (ws' := [(mo, .inr (15, [.int th, .ref (lm 0), .ref (lm 1), .ref (lm 2), .ref (lm 3), .ref (lm 4), .int 0, .int 0])), ((lm 0), .inr (2, [.int 0, .ref e0, .int 0])), ((lm 1), .inr (2, [.int 0, .ref e0, .int 0])), ((lm 2), .inr (2, [.int 0, .ref e0, .int 0])), ((lm 3), .inr (2, [.int 0, .ref e0, .int 0])), ((lm 4), .inr (2, [.int 0, .ref e0, .int 0]))]) [0, 1, 2, 3, 5, 4] rfl
  have hDc := hD.sub (ws' := [(mo, .inr (15, [.int th, .ref (lm 0), .ref (lm 1), .ref (lm 2), .ref (lm 3), .ref (lm 4), .int 0, .int 0])), ((lm 0), .inr (2, [.int 0, .ref e0, .int 0])), ((lm 1), .inr (2, [.int 0, .ref e0, .int 0])), ((lm 2), .inr (2, [.int 0, .ref e0, .int 0])), ((lm 3), .inr (2, [.int 0, .ref e0, .int 0])), ((lm 4), .inr (2, [.int 0, .ref e0, .int 0]))]) [0, 1, 2, 3, 5, 4] (by decide) rfl
  have hKc := hK.sub (tys' := []) [] rfl
  have hFc := va_free (wc := [(mo, .inr (15, [.int th, .ref (lm 0), .ref (lm 1), .ref (lm 2), .ref (lm 3), .ref (lm 4), .int 0, .int 0])), ((lm 0), .inr (2, [.int 0, .ref e0, .int 0])), ((lm 1), .inr (2, [.int 0, .ref e0, .int 0])), ((lm 2), .inr (2, [.int 0, .ref e0, .int 0])), ((lm 3), .inr (2, [.int 0, .ref e0, .int 0])), ((lm 4), .inr (2, [.int 0, .ref e0, .int 0]))]) hD hS hA [0, 1, 2, 3, 5, 4] rfl
  refine va_calli (va_runV (As := [.int 1]) (rest := []) ⟨hx, hb, hml, hown, hts⟩ (c_X12_isWrong_1 l dC dI H.size mo lm e0 th) (cwV 1 hts (goodIn_app (goodIn_of _ (by decide +kernel)) (goodIn_sub ((fun w h => List.mem_cons_of_mem _ (List.mem_append_right _ (List.mem_append_right _ (List.mem_append_right _ (h)))))) zgX12_isWrong_1)) rfl rfl rfl (by decide +kernel) ⟨Nat.le_of_ble_eq_true rfl, Nat.le_of_ble_eq_true rfl⟩) ⟨gPcE_blind, va_recv hK hP (ci := 15) (q0 := 0) rfl rfl, gPcE_pass hPc hKc hDc hE hS hFc⟩ rfl rfl hl.1 rfl (lv_room (Nat.le_of_ble_eq_true rfl)) dX12_reaches_28 ⟨Nat.le_of_ble_eq_true rfl, Nat.le_of_ble_eq_true rfl⟩) hS (fun q _ h => hFc q h) hFc (fun r_4 u_5 t H locs ht hvm hw hB hz hk hS => ?_)
  obtain ⟨hP1, hK1, hD1⟩ := hB
  rw [ht] at hP1
  obtain ⟨hP, hD⟩ := va_join (wr := []) (w1 := [(mo, .inr (15, [.int u_5, .ref (lm 0), .ref (lm 1), .ref (lm 2), .ref (lm 3), .ref (lm 4), .int 0, .int 0])), ((lm 0), .inr (2, [.int 0, .ref e0, .int 0])), ((lm 1), .inr (2, [.int 0, .ref e0, .int 0])), ((lm 2), .inr (2, [.int 0, .ref e0, .int 0])), ((lm 3), .inr (2, [.int 0, .ref e0, .int 0])), ((lm 4), .inr (2, [.int 0, .ref e0, .int 0]))]) hP hD [0, 1, 2, 3, 5, 4] [] rfl rfl (by decide) (by decide) hk hFc hP1 hD1
  have hP : va_P (dC, dI) vwCl [(mo, .inr (15, [.int u_5, .ref (lm 0), .ref (lm 1), .ref (lm 2), .ref (lm 3), .ref (lm 4), .int 0, .int 0])), ((lm 0), .inr (2, [.int 0, .ref e0, .int 0])), ((lm 1), .inr (2, [.int 0, .ref e0, .int 0])), ((lm 2), .inr (2, [.int 0, .ref e0, .int 0])), ((lm 3), .inr (2, [.int 0, .ref e0, .int 0])), ((lm 4), .inr (2, [.int 0, .ref e0, .int 0]))] H := hP
  have hD : va_D A [(mo, .inr (15, [.int u_5, .ref (lm 0), .ref (lm 1), .ref (lm 2), .ref (lm 3), .ref (lm 4), .int 0, .int 0])), ((lm 0), .inr (2, [.int 0, .ref e0, .int 0])), ((lm 1), .inr (2, [.int 0, .ref e0, .int 0])), ((lm 2), .inr (2, [.int 0, .ref e0, .int 0])), ((lm 3), .inr (2, [.int 0, .ref e0, .int 0])), ((lm 4), .inr (2, [.int 0, .ref e0, .int 0]))] := hD
  have hw : r_4 = 1 ∧ u_5 = 1 := hw
  obtain ⟨rfl, rfl⟩ : r_4 = 1 ∧ u_5 = 1 := hw
  refine lv_if_ne (tgt := 58) hx hb dX12_reaches_31 (by decide) (fun _ => ?_) (fun c_6 => absurd c_6 (by decide))
  refine lv_iconst (v := 0) hx hb dX12_reaches_58 (by decide) ?_
  have hP9 := hP.sub (ws' := [(mo, .inr (15, [.int 1, .ref (lm 0), .ref (lm 1), .ref (lm 2), .ref (lm 3), .ref (lm 4), .int 0, .int 0])), ((lm 0), .inr (2, [.int 0, .ref e0, .int 0])), ((lm 1), .inr (2, [.int 0, .ref e0, .int 0])), ((lm 2), .inr (2, [.int 0, .ref e0, .int 0])), ((lm 3), .inr (2, [.int 0, .ref e0, .int 0])), ((lm 4), .inr (2, [.int 0, .ref e0, .int 0]))]) [0, 1, 2, 3, 4, 5] rfl
  have hD9 := hD.sub (ws' := [(mo, .inr (15, [.int 1, .ref (lm 0), .ref (lm 1), .ref (lm 2), .ref (lm 3), .ref (lm 4), .int 0, .int 0])), ((lm 0), .inr (2, [.int 0, .ref e0, .int 0])), ((lm 1), .inr (2, [.int 0, .ref e0, .int 0])), ((lm 2), .inr (2, [.int 0, .ref e0, .int 0])), ((lm 3), .inr (2, [.int 0, .ref e0, .int 0])), ((lm 4), .inr (2, [.int 0, .ref e0, .int 0]))]) [0, 1, 2, 3, 4, 5] (by decide) rfl
  have hK9 := hK.sub (tys' := []) [] rfl
  refine W.widen (k := 0) (n := 0) (Nat.le_of_ble_eq_true rfl) (Nat.le_of_ble_eq_true rfl) ?_
  exact W.zret (v := 0) hx hb hr (by decide +kernel) (fun t ht hW => ⟨⟨0, 1, rfl, ⟨rfl, rfl⟩, by rw [ht]; exact hP9, va_K.moved hW.alike hK9, hD9⟩, hS.F ht⟩) hS.2.2 dX12_reaches_59

def zwX12_current : List Cond := .code yX12_current cX12_current 4 (some .int) :: (([.fieldLink RX12 22 "SpotbeatModel" "robots" "Ljava/util/List;", .methodLink RX12 46 yX12_isOf, .static yX12_isOf, .initialized RX12, .methodLink RX12 50 yX12_isWrong, .instanceMethod yX12_isWrong, .selects RX12 yX12_isWrong yX12_isWrong] : List Cond) ++ (wsX120 ++ (zwX12_isOf ++ (zwX12_isWrong_1))))
theorem zgX12_current : zwX12_current.all goodWord = true := zgo rfl (zga (by decide +kernel) (zga zgcX12 (zga zgX12_isOf (zgX12_isWrong_1))))
set_option maxHeartbeats 4000000 in
set_option maxRecDepth 100000 in
theorem c_X12_current (l : Launch) (dC : Nat → ClassId) (dI : Nat → Nat → Nat) (sz : Nat) (mo : Nat) (lm : Nat → Nat) (e0 : Nat) (th : Int32) (a : Int32) (b : Int32) : Met l yX12_current zwX12_current ({ frames := 2, cells := 0, slots := 0, locals := 43 }) (gPcE dC dI sz [(mo, .inr (15, [.int th, .ref (lm 0), .ref (lm 1), .ref (lm 2), .ref (lm 3), .ref (lm 4), .int 0, .int 0])), ((lm 0), .inr (2, [.int 0, .ref e0, .int 0])), ((lm 1), .inr (2, [.int 0, .ref e0, .int 0])), ((lm 2), .inr (2, [.int 0, .ref e0, .int 0])), ((lm 3), .inr (2, [.int 0, .ref e0, .int 0])), ((lm 4), .inr (2, [.int 0, .ref e0, .int 0]))] [] [.ref mo, .int a, .int b]) (va_Qi (fun (r : Int32) (u : Int32) => r = 0 ∧ u = 1) (fun u t => va_P (dC, dI) vwCl [(mo, .inr (15, [.int u, .ref (lm 0), .ref (lm 1), .ref (lm 2), .ref (lm 3), .ref (lm 4), .int 0, .int 0])), ((lm 0), .inr (2, [.int 0, .ref e0, .int 0])), ((lm 1), .inr (2, [.int 0, .ref e0, .int 0])), ((lm 2), .inr (2, [.int 0, .ref e0, .int 0])), ((lm 3), .inr (2, [.int 0, .ref e0, .int 0])), ((lm 4), .inr (2, [.int 0, .ref e0, .int 0]))] t.heap ∧ va_K (dC, dI) vwCl [] t ∧ va_D (va_A [(mo, .inr (15, [.int th, .ref (lm 0), .ref (lm 1), .ref (lm 2), .ref (lm 3), .ref (lm 4), .int 0, .int 0])), ((lm 0), .inr (2, [.int 0, .ref e0, .int 0])), ((lm 1), .inr (2, [.int 0, .ref e0, .int 0])), ((lm 2), .inr (2, [.int 0, .ref e0, .int 0])), ((lm 3), .inr (2, [.int 0, .ref e0, .int 0])), ((lm 4), .inr (2, [.int 0, .ref e0, .int 0]))] sz) [(mo, .inr (15, [.int u, .ref (lm 0), .ref (lm 1), .ref (lm 2), .ref (lm 3), .ref (lm 4), .int 0, .int 0])), ((lm 0), .inr (2, [.int 0, .ref e0, .int 0])), ((lm 1), .inr (2, [.int 0, .ref e0, .int 0])), ((lm 2), .inr (2, [.int 0, .ref e0, .int 0])), ((lm 3), .inr (2, [.int 0, .ref e0, .int 0])), ((lm 4), .inr (2, [.int 0, .ref e0, .int 0]))]) (va_A [(mo, .inr (15, [.int th, .ref (lm 0), .ref (lm 1), .ref (lm 2), .ref (lm 3), .ref (lm 4), .int 0, .int 0])), ((lm 0), .inr (2, [.int 0, .ref e0, .int 0])), ((lm 1), .inr (2, [.int 0, .ref e0, .int 0])), ((lm 2), .inr (2, [.int 0, .ref e0, .int 0])), ((lm 3), .inr (2, [.int 0, .ref e0, .int 0])), ((lm 4), .inr (2, [.int 0, .ref e0, .int 0]))] sz)) 0 0 (va_A [(mo, .inr (15, [.int th, .ref (lm 0), .ref (lm 1), .ref (lm 2), .ref (lm 3), .ref (lm 4), .int 0, .int 0])), ((lm 0), .inr (2, [.int 0, .ref e0, .int 0])), ((lm 1), .inr (2, [.int 0, .ref e0, .int 0])), ((lm 2), .inr (2, [.int 0, .ref e0, .int 0])), ((lm 3), .inr (2, [.int 0, .ref e0, .int 0])), ((lm 4), .inr (2, [.int 0, .ref e0, .int 0]))] sz) := by
  refine Met.ofW (cc := cX12_current) (maxL := 4) (ret := (some .int)) (by decide) rfl ?_
  intro p e s m args below meth c s₁ B hml hv
  obtain ⟨rfl, hsz, hP, hK, hD0, hE⟩ := hv
  have hx := B.exec
  have hb := B.bytes
  have hr := B.returns
  have hts := atoms_spec (ws := zwX12_current) B.pre
  have hown : s.vm.findClass RX12 = some m.cls := findClass_of_methodNamed B.named
  have hlocks := B.notSynchronized
  subst hsz
  have hD := hD0.self (sz := s.heap.size)
  generalize hAe : va_A [(mo, .inr (15, [.int th, .ref (lm 0), .ref (lm 1), .ref (lm 2), .ref (lm 3), .ref (lm 4), .int 0, .int 0])), ((lm 0), .inr (2, [.int 0, .ref e0, .int 0])), ((lm 1), .inr (2, [.int 0, .ref e0, .int 0])), ((lm 2), .inr (2, [.int 0, .ref e0, .int 0])), ((lm 3), .inr (2, [.int 0, .ref e0, .int 0])), ((lm 4), .inr (2, [.int 0, .ref e0, .int 0]))] s.heap.size = A at hD hE ⊢
  have hA : ∀ q : Nat, s.heap.size ≤ q → A q := fun q h => by rw [← hAe]; exact Or.inr h
  have hS : va_S A s.heap s.heap [] := va_S.rf
  have hP : va_P (dC, dI) vwCl [(mo, .inr (15, [.int th, .ref (lm 0), .ref (lm 1), .ref (lm 2), .ref (lm 3), .ref (lm 4), .int 0, .int 0])), ((lm 0), .inr (2, [.int 0, .ref e0, .int 0])), ((lm 1), .inr (2, [.int 0, .ref e0, .int 0])), ((lm 2), .inr (2, [.int 0, .ref e0, .int 0])), ((lm 3), .inr (2, [.int 0, .ref e0, .int 0])), ((lm 4), .inr (2, [.int 0, .ref e0, .int 0]))] s.heap := hP
  have hl := lv_entry ([.ref mo, .int a, .int b]) (n := 4) (Nat.le_of_ble_eq_true rfl)
  rw [lg_entry_eq]
  generalize (lg_sl ([.ref mo, .int a, .int b]) ++ List.replicate (4 - (lg_sl ([.ref mo, .int a, .int b])).length) Slot.unset).toArray = ls at hl ⊢
  have hl : lv_has ls 4 [(0, .ref mo), (1, .int a), (2, .int b)] := hl
  refine lv_aload_n hx hb dX12_current_0 rfl (lv_at hl 0 rfl) ?_
  refine lv_aload_n hx hb dX12_current_1 rfl (lv_at hl 0 rfl) ?_
  refine va_get (D := (dC, dI)) (ci := 15) (v := .ref (lm 3)) (C := RX12) (T := TX12) (N := 8) hx hb hts (fun w h => List.mem_cons_of_mem _ (List.mem_append_right _ (List.mem_append_left _ h))) hown hK hP 0 rfl rfl 4 (by decide) (hts (.fieldLink RX12 22 "SpotbeatModel" "robots" "Ljava/util/List;") (by decide +kernel)) (fun _ h9 => h9) rfl dX12_current_2 ?_
  refine lv_iload_n hx hb dX12_current_5 rfl (lv_at hl 1 rfl) ?_
  have hPc := hP.sub (ws' := [((lm 3), .inr (2, [.int 0, .ref e0, .int 0]))]) [4] rfl
  have hDc := hD.sub (ws' := [((lm 3), .inr (2, [.int 0, .ref e0, .int 0]))]) [4] (by decide) rfl
  have hKc := hK.sub (tys' := []) [] rfl
  have hFc := va_free (wc := [((lm 3), .inr (2, [.int 0, .ref e0, .int 0]))]) hD hS hA [4] rfl
  refine va_calli (va_runS (As := [.ref (lm 3), .int a]) (rest := [.ref mo]) ⟨hx, hb, hml, hown, hts⟩ (c_X12_isOf l dC dI s.heap.size e0 (lm 3) a) (va_cwS 2 hts (goodIn_app (goodIn_of _ (by decide +kernel)) (goodIn_sub ((fun w h => List.mem_cons_of_mem _ (List.mem_append_right _ (List.mem_append_right _ (List.mem_append_left _ h))))) zgX12_isOf)) rfl rfl rfl (by decide +kernel) ⟨Nat.le_of_ble_eq_true rfl, Nat.le_of_ble_eq_true rfl⟩) ⟨gPcE_blind, gPcE_pass hPc hKc hDc hE hS hFc⟩ rfl rfl hl.1 rfl (lv_room (Nat.le_of_ble_eq_true rfl)) dX12_current_6 ⟨Nat.le_of_ble_eq_true rfl, Nat.le_of_ble_eq_true rfl⟩) hS (fun q _ h => hFc q h) hFc (fun r_1 u_2 t H locs ht hvm hw hB hz hk hS => ?_)
  obtain ⟨hP1, hK1, hD1⟩ := hB
  rw [ht] at hP1
  obtain ⟨hP, hD⟩ := va_join (wr := [(mo, .inr (15, [.int th, .ref (lm 0), .ref (lm 1), .ref (lm 2), .ref (lm 3), .ref (lm 4), .int 0, .int 0])), ((lm 0), .inr (2, [.int 0, .ref e0, .int 0])), ((lm 1), .inr (2, [.int 0, .ref e0, .int 0])), ((lm 2), .inr (2, [.int 0, .ref e0, .int 0])), ((lm 4), .inr (2, [.int 0, .ref e0, .int 0]))]) (w1 := [((lm 3), .inr (2, [.int 0, .ref e0, .int 0]))]) hP hD [4] [0, 1, 2, 3, 5] rfl rfl (by decide) (by decide) hk hFc hP1 hD1
  have hP : va_P (dC, dI) vwCl [(mo, .inr (15, [.int th, .ref (lm 0), .ref (lm 1), .ref (lm 2), .ref (lm 3), .ref (lm 4), .int 0, .int 0])), ((lm 0), .inr (2, [.int 0, .ref e0, .int 0])), ((lm 1), .inr (2, [.int 0, .ref e0, .int 0])), ((lm 2), .inr (2, [.int 0, .ref e0, .int 0])), ((lm 4), .inr (2, [.int 0, .ref e0, .int 0])), ((lm 3), .inr (2, [.int 0, .ref e0, .int 0]))] H := hP
  have hD : va_D A [(mo, .inr (15, [.int th, .ref (lm 0), .ref (lm 1), .ref (lm 2), .ref (lm 3), .ref (lm 4), .int 0, .int 0])), ((lm 0), .inr (2, [.int 0, .ref e0, .int 0])), ((lm 1), .inr (2, [.int 0, .ref e0, .int 0])), ((lm 2), .inr (2, [.int 0, .ref e0, .int 0])), ((lm 4), .inr (2, [.int 0, .ref e0, .int 0])), ((lm 3), .inr (2, [.int 0, .ref e0, .int 0]))] := hD
  have hw : r_1 = 0 := hw
  subst hw
  refine lv_if_ne (tgt := 16) hx hb dX12_current_9 (by decide) (fun c_3 => absurd c_3 (by decide)) (fun _ => ?_)
  refine lv_iconst (v := 1) hx hb dX12_current_12 (by decide) ?_
  refine lv_goto (tgt := 31) hx hb dX12_current_13 (by decide) ?_
  have hPc := hP.sub (ws' := [(mo, .inr (15, [.int th, .ref (lm 0), .ref (lm 1), .ref (lm 2), .ref (lm 3), .ref (lm 4), .int 0, .int 0])), ((lm 0), .inr (2, [.int 0, .ref e0, .int 0])), ((lm 1), .inr (2, [.int 0, .ref e0, .int 0])), ((lm 2), .inr (2, [.int 0, .ref e0, .int 0])), ((lm 3), .inr (2, [.int 0, .ref e0, .int 0])), ((lm 4), .inr (2, [.int 0, .ref e0, .int 0]))]) [0, 1, 2, 3, 5, 4] rfl
  have hDc := hD.sub (ws' := [(mo, .inr (15, [.int th, .ref (lm 0), .ref (lm 1), .ref (lm 2), .ref (lm 3), .ref (lm 4), .int 0, .int 0])), ((lm 0), .inr (2, [.int 0, .ref e0, .int 0])), ((lm 1), .inr (2, [.int 0, .ref e0, .int 0])), ((lm 2), .inr (2, [.int 0, .ref e0, .int 0])), ((lm 3), .inr (2, [.int 0, .ref e0, .int 0])), ((lm 4), .inr (2, [.int 0, .ref e0, .int 0]))]) [0, 1, 2, 3, 5, 4] (by decide) rfl
  have hKc := hK.sub (tys' := []) [] rfl
  have hFc := va_free (wc := [(mo, .inr (15, [.int th, .ref (lm 0), .ref (lm 1), .ref (lm 2), .ref (lm 3), .ref (lm 4), .int 0, .int 0])), ((lm 0), .inr (2, [.int 0, .ref e0, .int 0])), ((lm 1), .inr (2, [.int 0, .ref e0, .int 0])), ((lm 2), .inr (2, [.int 0, .ref e0, .int 0])), ((lm 3), .inr (2, [.int 0, .ref e0, .int 0])), ((lm 4), .inr (2, [.int 0, .ref e0, .int 0]))]) hD hS hA [0, 1, 2, 3, 5, 4] rfl
  refine va_calli (va_runV (As := [.int 1]) (rest := []) ⟨hx, hb, hml, hown, hts⟩ (c_X12_isWrong_1 l dC dI H.size mo lm e0 th) (cwV 1 hts (goodIn_app (goodIn_of _ (by decide +kernel)) (goodIn_sub ((fun w h => List.mem_cons_of_mem _ (List.mem_append_right _ (List.mem_append_right _ (List.mem_append_right _ (h)))))) zgX12_isWrong_1)) rfl rfl rfl (by decide +kernel) ⟨Nat.le_of_ble_eq_true rfl, Nat.le_of_ble_eq_true rfl⟩) ⟨gPcE_blind, va_recv hK hP (ci := 15) (q0 := 0) rfl rfl, gPcE_pass hPc hKc hDc hE hS hFc⟩ rfl rfl hl.1 rfl (lv_room (Nat.le_of_ble_eq_true rfl)) dX12_current_31 ⟨Nat.le_of_ble_eq_true rfl, Nat.le_of_ble_eq_true rfl⟩) hS (fun q _ h => hFc q h) hFc (fun r_4 u_5 t H locs ht hvm hw hB hz hk hS => ?_)
  obtain ⟨hP1, hK1, hD1⟩ := hB
  rw [ht] at hP1
  obtain ⟨hP, hD⟩ := va_join (wr := []) (w1 := [(mo, .inr (15, [.int u_5, .ref (lm 0), .ref (lm 1), .ref (lm 2), .ref (lm 3), .ref (lm 4), .int 0, .int 0])), ((lm 0), .inr (2, [.int 0, .ref e0, .int 0])), ((lm 1), .inr (2, [.int 0, .ref e0, .int 0])), ((lm 2), .inr (2, [.int 0, .ref e0, .int 0])), ((lm 3), .inr (2, [.int 0, .ref e0, .int 0])), ((lm 4), .inr (2, [.int 0, .ref e0, .int 0]))]) hP hD [0, 1, 2, 3, 5, 4] [] rfl rfl (by decide) (by decide) hk hFc hP1 hD1
  have hP : va_P (dC, dI) vwCl [(mo, .inr (15, [.int u_5, .ref (lm 0), .ref (lm 1), .ref (lm 2), .ref (lm 3), .ref (lm 4), .int 0, .int 0])), ((lm 0), .inr (2, [.int 0, .ref e0, .int 0])), ((lm 1), .inr (2, [.int 0, .ref e0, .int 0])), ((lm 2), .inr (2, [.int 0, .ref e0, .int 0])), ((lm 3), .inr (2, [.int 0, .ref e0, .int 0])), ((lm 4), .inr (2, [.int 0, .ref e0, .int 0]))] H := hP
  have hD : va_D A [(mo, .inr (15, [.int u_5, .ref (lm 0), .ref (lm 1), .ref (lm 2), .ref (lm 3), .ref (lm 4), .int 0, .int 0])), ((lm 0), .inr (2, [.int 0, .ref e0, .int 0])), ((lm 1), .inr (2, [.int 0, .ref e0, .int 0])), ((lm 2), .inr (2, [.int 0, .ref e0, .int 0])), ((lm 3), .inr (2, [.int 0, .ref e0, .int 0])), ((lm 4), .inr (2, [.int 0, .ref e0, .int 0]))] := hD
  have hw : r_4 = 1 ∧ u_5 = 1 := hw
  obtain ⟨rfl, rfl⟩ : r_4 = 1 ∧ u_5 = 1 := hw
  refine lv_if_eq (tgt := 39) hx hb dX12_current_34 (by decide) (fun c_6 => absurd c_6 (by decide)) (fun _ => ?_)
  refine lv_iconst (v := 0) hx hb dX12_current_37 (by decide) ?_
  have hP9 := hP.sub (ws' := [(mo, .inr (15, [.int 1, .ref (lm 0), .ref (lm 1), .ref (lm 2), .ref (lm 3), .ref (lm 4), .int 0, .int 0])), ((lm 0), .inr (2, [.int 0, .ref e0, .int 0])), ((lm 1), .inr (2, [.int 0, .ref e0, .int 0])), ((lm 2), .inr (2, [.int 0, .ref e0, .int 0])), ((lm 3), .inr (2, [.int 0, .ref e0, .int 0])), ((lm 4), .inr (2, [.int 0, .ref e0, .int 0]))]) [0, 1, 2, 3, 4, 5] rfl
  have hD9 := hD.sub (ws' := [(mo, .inr (15, [.int 1, .ref (lm 0), .ref (lm 1), .ref (lm 2), .ref (lm 3), .ref (lm 4), .int 0, .int 0])), ((lm 0), .inr (2, [.int 0, .ref e0, .int 0])), ((lm 1), .inr (2, [.int 0, .ref e0, .int 0])), ((lm 2), .inr (2, [.int 0, .ref e0, .int 0])), ((lm 3), .inr (2, [.int 0, .ref e0, .int 0])), ((lm 4), .inr (2, [.int 0, .ref e0, .int 0]))]) [0, 1, 2, 3, 4, 5] (by decide) rfl
  have hK9 := hK.sub (tys' := []) [] rfl
  refine W.widen (k := 0) (n := 0) (Nat.le_of_ble_eq_true rfl) (Nat.le_of_ble_eq_true rfl) ?_
  exact W.iret (v := 0) hx hb hr (fun t ht hW => ⟨⟨0, 1, rfl, ⟨rfl, rfl⟩, by rw [ht]; exact hP9, va_K.moved hW.alike hK9, hD9⟩, hS.F ht⟩) hS.2.2 dX12_current_38

def zwX12_step : List Cond := .code yX12_step cX12_step 8 (some .int) :: (([.fieldLink RX12 22 "SpotbeatModel" "robots" "Ljava/util/List;", .methodLink RX12 46 yX12_isOf, .static yX12_isOf, .initialized RX12, .methodLink RX12 50 yX12_isWrong, .instanceMethod yX12_isWrong, .selects RX12 yX12_isWrong yX12_isWrong] : List Cond) ++ (wsX120 ++ (zwX12_isOf ++ (zwX12_isWrong_1))))
theorem zgX12_step : zwX12_step.all goodWord = true := zgo rfl (zga (by decide +kernel) (zga zgcX12 (zga zgX12_isOf (zgX12_isWrong_1))))
set_option maxHeartbeats 4000000 in
set_option maxRecDepth 100000 in
theorem c_X12_step (l : Launch) (dC : Nat → ClassId) (dI : Nat → Nat → Nat) (sz : Nat) (mo : Nat) (lm : Nat → Nat) (e0 : Nat) (th : Int32) (a : Int32) (b : Int32) (d : Int32) (f : Int32) : Met l yX12_step zwX12_step ({ frames := 2, cells := 0, slots := 0, locals := 43 }) (gPcE dC dI sz [(mo, .inr (15, [.int th, .ref (lm 0), .ref (lm 1), .ref (lm 2), .ref (lm 3), .ref (lm 4), .int 0, .int 0])), ((lm 0), .inr (2, [.int 0, .ref e0, .int 0])), ((lm 1), .inr (2, [.int 0, .ref e0, .int 0])), ((lm 2), .inr (2, [.int 0, .ref e0, .int 0])), ((lm 3), .inr (2, [.int 0, .ref e0, .int 0])), ((lm 4), .inr (2, [.int 0, .ref e0, .int 0]))] [] [.ref mo, .int a, .int b, .int d, .int f]) (va_Qi (fun (r : Int32) (u : Int32) => r = 0 ∧ u = 1) (fun u t => va_P (dC, dI) vwCl [(mo, .inr (15, [.int u, .ref (lm 0), .ref (lm 1), .ref (lm 2), .ref (lm 3), .ref (lm 4), .int 0, .int 0])), ((lm 0), .inr (2, [.int 0, .ref e0, .int 0])), ((lm 1), .inr (2, [.int 0, .ref e0, .int 0])), ((lm 2), .inr (2, [.int 0, .ref e0, .int 0])), ((lm 3), .inr (2, [.int 0, .ref e0, .int 0])), ((lm 4), .inr (2, [.int 0, .ref e0, .int 0]))] t.heap ∧ va_K (dC, dI) vwCl [] t ∧ va_D (va_A [(mo, .inr (15, [.int th, .ref (lm 0), .ref (lm 1), .ref (lm 2), .ref (lm 3), .ref (lm 4), .int 0, .int 0])), ((lm 0), .inr (2, [.int 0, .ref e0, .int 0])), ((lm 1), .inr (2, [.int 0, .ref e0, .int 0])), ((lm 2), .inr (2, [.int 0, .ref e0, .int 0])), ((lm 3), .inr (2, [.int 0, .ref e0, .int 0])), ((lm 4), .inr (2, [.int 0, .ref e0, .int 0]))] sz) [(mo, .inr (15, [.int u, .ref (lm 0), .ref (lm 1), .ref (lm 2), .ref (lm 3), .ref (lm 4), .int 0, .int 0])), ((lm 0), .inr (2, [.int 0, .ref e0, .int 0])), ((lm 1), .inr (2, [.int 0, .ref e0, .int 0])), ((lm 2), .inr (2, [.int 0, .ref e0, .int 0])), ((lm 3), .inr (2, [.int 0, .ref e0, .int 0])), ((lm 4), .inr (2, [.int 0, .ref e0, .int 0]))]) (va_A [(mo, .inr (15, [.int th, .ref (lm 0), .ref (lm 1), .ref (lm 2), .ref (lm 3), .ref (lm 4), .int 0, .int 0])), ((lm 0), .inr (2, [.int 0, .ref e0, .int 0])), ((lm 1), .inr (2, [.int 0, .ref e0, .int 0])), ((lm 2), .inr (2, [.int 0, .ref e0, .int 0])), ((lm 3), .inr (2, [.int 0, .ref e0, .int 0])), ((lm 4), .inr (2, [.int 0, .ref e0, .int 0]))] sz)) 0 0 (va_A [(mo, .inr (15, [.int th, .ref (lm 0), .ref (lm 1), .ref (lm 2), .ref (lm 3), .ref (lm 4), .int 0, .int 0])), ((lm 0), .inr (2, [.int 0, .ref e0, .int 0])), ((lm 1), .inr (2, [.int 0, .ref e0, .int 0])), ((lm 2), .inr (2, [.int 0, .ref e0, .int 0])), ((lm 3), .inr (2, [.int 0, .ref e0, .int 0])), ((lm 4), .inr (2, [.int 0, .ref e0, .int 0]))] sz) := by
  refine Met.ofW (cc := cX12_step) (maxL := 8) (ret := (some .int)) (by decide) rfl ?_
  intro p e s m args below meth c s₁ B hml hv
  obtain ⟨rfl, hsz, hP, hK, hD0, hE⟩ := hv
  have hx := B.exec
  have hb := B.bytes
  have hr := B.returns
  have hts := atoms_spec (ws := zwX12_step) B.pre
  have hown : s.vm.findClass RX12 = some m.cls := findClass_of_methodNamed B.named
  have hlocks := B.notSynchronized
  subst hsz
  have hD := hD0.self (sz := s.heap.size)
  generalize hAe : va_A [(mo, .inr (15, [.int th, .ref (lm 0), .ref (lm 1), .ref (lm 2), .ref (lm 3), .ref (lm 4), .int 0, .int 0])), ((lm 0), .inr (2, [.int 0, .ref e0, .int 0])), ((lm 1), .inr (2, [.int 0, .ref e0, .int 0])), ((lm 2), .inr (2, [.int 0, .ref e0, .int 0])), ((lm 3), .inr (2, [.int 0, .ref e0, .int 0])), ((lm 4), .inr (2, [.int 0, .ref e0, .int 0]))] s.heap.size = A at hD hE ⊢
  have hA : ∀ q : Nat, s.heap.size ≤ q → A q := fun q h => by rw [← hAe]; exact Or.inr h
  have hS : va_S A s.heap s.heap [] := va_S.rf
  have hP : va_P (dC, dI) vwCl [(mo, .inr (15, [.int th, .ref (lm 0), .ref (lm 1), .ref (lm 2), .ref (lm 3), .ref (lm 4), .int 0, .int 0])), ((lm 0), .inr (2, [.int 0, .ref e0, .int 0])), ((lm 1), .inr (2, [.int 0, .ref e0, .int 0])), ((lm 2), .inr (2, [.int 0, .ref e0, .int 0])), ((lm 3), .inr (2, [.int 0, .ref e0, .int 0])), ((lm 4), .inr (2, [.int 0, .ref e0, .int 0]))] s.heap := hP
  have hl := lv_entry ([.ref mo, .int a, .int b, .int d, .int f]) (n := 8) (Nat.le_of_ble_eq_true rfl)
  rw [lg_entry_eq]
  generalize (lg_sl ([.ref mo, .int a, .int b, .int d, .int f]) ++ List.replicate (8 - (lg_sl ([.ref mo, .int a, .int b, .int d, .int f])).length) Slot.unset).toArray = ls at hl ⊢
  have hl : lv_has ls 8 [(0, .ref mo), (1, .int a), (2, .int b), (3, .int d), (4, .int f)] := hl
  refine lv_aload_n hx hb dX12_step_0 rfl (lv_at hl 0 rfl) ?_
  refine lv_aload_n hx hb dX12_step_1 rfl (lv_at hl 0 rfl) ?_
  refine va_get (D := (dC, dI)) (ci := 15) (v := .ref (lm 3)) (C := RX12) (T := TX12) (N := 8) hx hb hts (fun w h => List.mem_cons_of_mem _ (List.mem_append_right _ (List.mem_append_left _ h))) hown hK hP 0 rfl rfl 4 (by decide) (hts (.fieldLink RX12 22 "SpotbeatModel" "robots" "Ljava/util/List;") (by decide +kernel)) (fun _ h9 => h9) rfl dX12_step_2 ?_
  refine lv_iload_n hx hb dX12_step_5 rfl (lv_at hl 1 rfl) ?_
  have hPc := hP.sub (ws' := [((lm 3), .inr (2, [.int 0, .ref e0, .int 0]))]) [4] rfl
  have hDc := hD.sub (ws' := [((lm 3), .inr (2, [.int 0, .ref e0, .int 0]))]) [4] (by decide) rfl
  have hKc := hK.sub (tys' := []) [] rfl
  have hFc := va_free (wc := [((lm 3), .inr (2, [.int 0, .ref e0, .int 0]))]) hD hS hA [4] rfl
  refine va_calli (va_runS (As := [.ref (lm 3), .int a]) (rest := [.ref mo]) ⟨hx, hb, hml, hown, hts⟩ (c_X12_isOf l dC dI s.heap.size e0 (lm 3) a) (va_cwS 2 hts (goodIn_app (goodIn_of _ (by decide +kernel)) (goodIn_sub ((fun w h => List.mem_cons_of_mem _ (List.mem_append_right _ (List.mem_append_right _ (List.mem_append_left _ h))))) zgX12_isOf)) rfl rfl rfl (by decide +kernel) ⟨Nat.le_of_ble_eq_true rfl, Nat.le_of_ble_eq_true rfl⟩) ⟨gPcE_blind, gPcE_pass hPc hKc hDc hE hS hFc⟩ rfl rfl hl.1 rfl (lv_room (Nat.le_of_ble_eq_true rfl)) dX12_step_6 ⟨Nat.le_of_ble_eq_true rfl, Nat.le_of_ble_eq_true rfl⟩) hS (fun q _ h => hFc q h) hFc (fun r_1 u_2 t H locs ht hvm hw hB hz hk hS => ?_)
  obtain ⟨hP1, hK1, hD1⟩ := hB
  rw [ht] at hP1
  obtain ⟨hP, hD⟩ := va_join (wr := [(mo, .inr (15, [.int th, .ref (lm 0), .ref (lm 1), .ref (lm 2), .ref (lm 3), .ref (lm 4), .int 0, .int 0])), ((lm 0), .inr (2, [.int 0, .ref e0, .int 0])), ((lm 1), .inr (2, [.int 0, .ref e0, .int 0])), ((lm 2), .inr (2, [.int 0, .ref e0, .int 0])), ((lm 4), .inr (2, [.int 0, .ref e0, .int 0]))]) (w1 := [((lm 3), .inr (2, [.int 0, .ref e0, .int 0]))]) hP hD [4] [0, 1, 2, 3, 5] rfl rfl (by decide) (by decide) hk hFc hP1 hD1
  have hP : va_P (dC, dI) vwCl [(mo, .inr (15, [.int th, .ref (lm 0), .ref (lm 1), .ref (lm 2), .ref (lm 3), .ref (lm 4), .int 0, .int 0])), ((lm 0), .inr (2, [.int 0, .ref e0, .int 0])), ((lm 1), .inr (2, [.int 0, .ref e0, .int 0])), ((lm 2), .inr (2, [.int 0, .ref e0, .int 0])), ((lm 4), .inr (2, [.int 0, .ref e0, .int 0])), ((lm 3), .inr (2, [.int 0, .ref e0, .int 0]))] H := hP
  have hD : va_D A [(mo, .inr (15, [.int th, .ref (lm 0), .ref (lm 1), .ref (lm 2), .ref (lm 3), .ref (lm 4), .int 0, .int 0])), ((lm 0), .inr (2, [.int 0, .ref e0, .int 0])), ((lm 1), .inr (2, [.int 0, .ref e0, .int 0])), ((lm 2), .inr (2, [.int 0, .ref e0, .int 0])), ((lm 4), .inr (2, [.int 0, .ref e0, .int 0])), ((lm 3), .inr (2, [.int 0, .ref e0, .int 0]))] := hD
  have hw : r_1 = 0 := hw
  subst hw
  refine lv_if_eq (tgt := 19) hx hb dX12_step_9 (by decide) (fun _ => ?_) (fun c_3 => absurd c_3 (by decide))
  refine lv_iconst (v := 1) hx hb dX12_step_19 (by decide) ?_
  refine lv_goto (tgt := 24) hx hb dX12_step_20 (by decide) ?_
  have hPc := hP.sub (ws' := [(mo, .inr (15, [.int th, .ref (lm 0), .ref (lm 1), .ref (lm 2), .ref (lm 3), .ref (lm 4), .int 0, .int 0])), ((lm 0), .inr (2, [.int 0, .ref e0, .int 0])), ((lm 1), .inr (2, [.int 0, .ref e0, .int 0])), ((lm 2), .inr (2, [.int 0, .ref e0, .int 0])), ((lm 3), .inr (2, [.int 0, .ref e0, .int 0])), ((lm 4), .inr (2, [.int 0, .ref e0, .int 0]))]) [0, 1, 2, 3, 5, 4] rfl
  have hDc := hD.sub (ws' := [(mo, .inr (15, [.int th, .ref (lm 0), .ref (lm 1), .ref (lm 2), .ref (lm 3), .ref (lm 4), .int 0, .int 0])), ((lm 0), .inr (2, [.int 0, .ref e0, .int 0])), ((lm 1), .inr (2, [.int 0, .ref e0, .int 0])), ((lm 2), .inr (2, [.int 0, .ref e0, .int 0])), ((lm 3), .inr (2, [.int 0, .ref e0, .int 0])), ((lm 4), .inr (2, [.int 0, .ref e0, .int 0]))]) [0, 1, 2, 3, 5, 4] (by decide) rfl
  have hKc := hK.sub (tys' := []) [] rfl
  have hFc := va_free (wc := [(mo, .inr (15, [.int th, .ref (lm 0), .ref (lm 1), .ref (lm 2), .ref (lm 3), .ref (lm 4), .int 0, .int 0])), ((lm 0), .inr (2, [.int 0, .ref e0, .int 0])), ((lm 1), .inr (2, [.int 0, .ref e0, .int 0])), ((lm 2), .inr (2, [.int 0, .ref e0, .int 0])), ((lm 3), .inr (2, [.int 0, .ref e0, .int 0])), ((lm 4), .inr (2, [.int 0, .ref e0, .int 0]))]) hD hS hA [0, 1, 2, 3, 5, 4] rfl
  refine va_calli (va_runV (As := [.int 1]) (rest := []) ⟨hx, hb, hml, hown, hts⟩ (c_X12_isWrong_1 l dC dI H.size mo lm e0 th) (cwV 1 hts (goodIn_app (goodIn_of _ (by decide +kernel)) (goodIn_sub ((fun w h => List.mem_cons_of_mem _ (List.mem_append_right _ (List.mem_append_right _ (List.mem_append_right _ (h)))))) zgX12_isWrong_1)) rfl rfl rfl (by decide +kernel) ⟨Nat.le_of_ble_eq_true rfl, Nat.le_of_ble_eq_true rfl⟩) ⟨gPcE_blind, va_recv hK hP (ci := 15) (q0 := 0) rfl rfl, gPcE_pass hPc hKc hDc hE hS hFc⟩ rfl rfl hl.1 rfl (lv_room (Nat.le_of_ble_eq_true rfl)) dX12_step_24 ⟨Nat.le_of_ble_eq_true rfl, Nat.le_of_ble_eq_true rfl⟩) hS (fun q _ h => hFc q h) hFc (fun r_4 u_5 t H locs ht hvm hw hB hz hk hS => ?_)
  obtain ⟨hP1, hK1, hD1⟩ := hB
  rw [ht] at hP1
  obtain ⟨hP, hD⟩ := va_join (wr := []) (w1 := [(mo, .inr (15, [.int u_5, .ref (lm 0), .ref (lm 1), .ref (lm 2), .ref (lm 3), .ref (lm 4), .int 0, .int 0])), ((lm 0), .inr (2, [.int 0, .ref e0, .int 0])), ((lm 1), .inr (2, [.int 0, .ref e0, .int 0])), ((lm 2), .inr (2, [.int 0, .ref e0, .int 0])), ((lm 3), .inr (2, [.int 0, .ref e0, .int 0])), ((lm 4), .inr (2, [.int 0, .ref e0, .int 0]))]) hP hD [0, 1, 2, 3, 5, 4] [] rfl rfl (by decide) (by decide) hk hFc hP1 hD1
  have hP : va_P (dC, dI) vwCl [(mo, .inr (15, [.int u_5, .ref (lm 0), .ref (lm 1), .ref (lm 2), .ref (lm 3), .ref (lm 4), .int 0, .int 0])), ((lm 0), .inr (2, [.int 0, .ref e0, .int 0])), ((lm 1), .inr (2, [.int 0, .ref e0, .int 0])), ((lm 2), .inr (2, [.int 0, .ref e0, .int 0])), ((lm 3), .inr (2, [.int 0, .ref e0, .int 0])), ((lm 4), .inr (2, [.int 0, .ref e0, .int 0]))] H := hP
  have hD : va_D A [(mo, .inr (15, [.int u_5, .ref (lm 0), .ref (lm 1), .ref (lm 2), .ref (lm 3), .ref (lm 4), .int 0, .int 0])), ((lm 0), .inr (2, [.int 0, .ref e0, .int 0])), ((lm 1), .inr (2, [.int 0, .ref e0, .int 0])), ((lm 2), .inr (2, [.int 0, .ref e0, .int 0])), ((lm 3), .inr (2, [.int 0, .ref e0, .int 0])), ((lm 4), .inr (2, [.int 0, .ref e0, .int 0]))] := hD
  have hw : r_4 = 1 ∧ u_5 = 1 := hw
  obtain ⟨rfl, rfl⟩ : r_4 = 1 ∧ u_5 = 1 := hw
  refine lv_if_eq (tgt := 32) hx hb dX12_step_27 (by decide) (fun c_6 => absurd c_6 (by decide)) (fun _ => ?_)
  refine lv_iconst (v := 0) hx hb dX12_step_30 (by decide) ?_
  have hP9 := hP.sub (ws' := [(mo, .inr (15, [.int 1, .ref (lm 0), .ref (lm 1), .ref (lm 2), .ref (lm 3), .ref (lm 4), .int 0, .int 0])), ((lm 0), .inr (2, [.int 0, .ref e0, .int 0])), ((lm 1), .inr (2, [.int 0, .ref e0, .int 0])), ((lm 2), .inr (2, [.int 0, .ref e0, .int 0])), ((lm 3), .inr (2, [.int 0, .ref e0, .int 0])), ((lm 4), .inr (2, [.int 0, .ref e0, .int 0]))]) [0, 1, 2, 3, 4, 5] rfl
  have hD9 := hD.sub (ws' := [(mo, .inr (15, [.int 1, .ref (lm 0), .ref (lm 1), .ref (lm 2), .ref (lm 3), .ref (lm 4), .int 0, .int 0])), ((lm 0), .inr (2, [.int 0, .ref e0, .int 0])), ((lm 1), .inr (2, [.int 0, .ref e0, .int 0])), ((lm 2), .inr (2, [.int 0, .ref e0, .int 0])), ((lm 3), .inr (2, [.int 0, .ref e0, .int 0])), ((lm 4), .inr (2, [.int 0, .ref e0, .int 0]))]) [0, 1, 2, 3, 4, 5] (by decide) rfl
  have hK9 := hK.sub (tys' := []) [] rfl
  refine W.widen (k := 0) (n := 0) (Nat.le_of_ble_eq_true rfl) (Nat.le_of_ble_eq_true rfl) ?_
  exact W.iret (v := 0) hx hb hr (fun t ht hW => ⟨⟨0, 1, rfl, ⟨rfl, rfl⟩, by rw [ht]; exact hP9, va_K.moved hW.alike hK9, hD9⟩, hS.F ht⟩) hS.2.2 dX12_step_31

def zwX12_at : List Cond := .code yX12_at cX12_at 2 (some .int) :: (([.fieldLink RX12 19 "SpotbeatModel" "stations" "Ljava/util/List;", .methodLink RX12 46 yX12_isOf, .static yX12_isOf, .initialized RX12, .methodLink RX12 50 yX12_isWrong, .instanceMethod yX12_isWrong, .selects RX12 yX12_isWrong yX12_isWrong] : List Cond) ++ (wsX120 ++ (zwX12_isOf ++ (zwX12_isWrong_1))))
theorem zgX12_at : zwX12_at.all goodWord = true := zgo rfl (zga (by decide +kernel) (zga zgcX12 (zga zgX12_isOf (zgX12_isWrong_1))))
set_option maxHeartbeats 4000000 in
set_option maxRecDepth 100000 in
theorem c_X12_at (l : Launch) (dC : Nat → ClassId) (dI : Nat → Nat → Nat) (sz : Nat) (mo : Nat) (lm : Nat → Nat) (e0 : Nat) (th : Int32) (a : Int32) : Met l yX12_at zwX12_at ({ frames := 2, cells := 0, slots := 0, locals := 43 }) (gPcE dC dI sz [(mo, .inr (15, [.int th, .ref (lm 0), .ref (lm 1), .ref (lm 2), .ref (lm 3), .ref (lm 4), .int 0, .int 0])), ((lm 0), .inr (2, [.int 0, .ref e0, .int 0])), ((lm 1), .inr (2, [.int 0, .ref e0, .int 0])), ((lm 2), .inr (2, [.int 0, .ref e0, .int 0])), ((lm 3), .inr (2, [.int 0, .ref e0, .int 0])), ((lm 4), .inr (2, [.int 0, .ref e0, .int 0]))] [] [.ref mo, .int a]) (va_Qi (fun (r : Int32) (u : Int32) => r = 0 ∧ u = 1) (fun u t => va_P (dC, dI) vwCl [(mo, .inr (15, [.int u, .ref (lm 0), .ref (lm 1), .ref (lm 2), .ref (lm 3), .ref (lm 4), .int 0, .int 0])), ((lm 0), .inr (2, [.int 0, .ref e0, .int 0])), ((lm 1), .inr (2, [.int 0, .ref e0, .int 0])), ((lm 2), .inr (2, [.int 0, .ref e0, .int 0])), ((lm 3), .inr (2, [.int 0, .ref e0, .int 0])), ((lm 4), .inr (2, [.int 0, .ref e0, .int 0]))] t.heap ∧ va_K (dC, dI) vwCl [] t ∧ va_D (va_A [(mo, .inr (15, [.int th, .ref (lm 0), .ref (lm 1), .ref (lm 2), .ref (lm 3), .ref (lm 4), .int 0, .int 0])), ((lm 0), .inr (2, [.int 0, .ref e0, .int 0])), ((lm 1), .inr (2, [.int 0, .ref e0, .int 0])), ((lm 2), .inr (2, [.int 0, .ref e0, .int 0])), ((lm 3), .inr (2, [.int 0, .ref e0, .int 0])), ((lm 4), .inr (2, [.int 0, .ref e0, .int 0]))] sz) [(mo, .inr (15, [.int u, .ref (lm 0), .ref (lm 1), .ref (lm 2), .ref (lm 3), .ref (lm 4), .int 0, .int 0])), ((lm 0), .inr (2, [.int 0, .ref e0, .int 0])), ((lm 1), .inr (2, [.int 0, .ref e0, .int 0])), ((lm 2), .inr (2, [.int 0, .ref e0, .int 0])), ((lm 3), .inr (2, [.int 0, .ref e0, .int 0])), ((lm 4), .inr (2, [.int 0, .ref e0, .int 0]))]) (va_A [(mo, .inr (15, [.int th, .ref (lm 0), .ref (lm 1), .ref (lm 2), .ref (lm 3), .ref (lm 4), .int 0, .int 0])), ((lm 0), .inr (2, [.int 0, .ref e0, .int 0])), ((lm 1), .inr (2, [.int 0, .ref e0, .int 0])), ((lm 2), .inr (2, [.int 0, .ref e0, .int 0])), ((lm 3), .inr (2, [.int 0, .ref e0, .int 0])), ((lm 4), .inr (2, [.int 0, .ref e0, .int 0]))] sz)) 0 0 (va_A [(mo, .inr (15, [.int th, .ref (lm 0), .ref (lm 1), .ref (lm 2), .ref (lm 3), .ref (lm 4), .int 0, .int 0])), ((lm 0), .inr (2, [.int 0, .ref e0, .int 0])), ((lm 1), .inr (2, [.int 0, .ref e0, .int 0])), ((lm 2), .inr (2, [.int 0, .ref e0, .int 0])), ((lm 3), .inr (2, [.int 0, .ref e0, .int 0])), ((lm 4), .inr (2, [.int 0, .ref e0, .int 0]))] sz) := by
  refine Met.ofW (cc := cX12_at) (maxL := 2) (ret := (some .int)) (by decide) rfl ?_
  intro p e s m args below meth c s₁ B hml hv
  obtain ⟨rfl, hsz, hP, hK, hD0, hE⟩ := hv
  have hx := B.exec
  have hb := B.bytes
  have hr := B.returns
  have hts := atoms_spec (ws := zwX12_at) B.pre
  have hown : s.vm.findClass RX12 = some m.cls := findClass_of_methodNamed B.named
  have hlocks := B.notSynchronized
  subst hsz
  have hD := hD0.self (sz := s.heap.size)
  generalize hAe : va_A [(mo, .inr (15, [.int th, .ref (lm 0), .ref (lm 1), .ref (lm 2), .ref (lm 3), .ref (lm 4), .int 0, .int 0])), ((lm 0), .inr (2, [.int 0, .ref e0, .int 0])), ((lm 1), .inr (2, [.int 0, .ref e0, .int 0])), ((lm 2), .inr (2, [.int 0, .ref e0, .int 0])), ((lm 3), .inr (2, [.int 0, .ref e0, .int 0])), ((lm 4), .inr (2, [.int 0, .ref e0, .int 0]))] s.heap.size = A at hD hE ⊢
  have hA : ∀ q : Nat, s.heap.size ≤ q → A q := fun q h => by rw [← hAe]; exact Or.inr h
  have hS : va_S A s.heap s.heap [] := va_S.rf
  have hP : va_P (dC, dI) vwCl [(mo, .inr (15, [.int th, .ref (lm 0), .ref (lm 1), .ref (lm 2), .ref (lm 3), .ref (lm 4), .int 0, .int 0])), ((lm 0), .inr (2, [.int 0, .ref e0, .int 0])), ((lm 1), .inr (2, [.int 0, .ref e0, .int 0])), ((lm 2), .inr (2, [.int 0, .ref e0, .int 0])), ((lm 3), .inr (2, [.int 0, .ref e0, .int 0])), ((lm 4), .inr (2, [.int 0, .ref e0, .int 0]))] s.heap := hP
  have hl := lv_entry ([.ref mo, .int a]) (n := 2) (Nat.le_of_ble_eq_true rfl)
  rw [lg_entry_eq]
  generalize (lg_sl ([.ref mo, .int a]) ++ List.replicate (2 - (lg_sl ([.ref mo, .int a])).length) Slot.unset).toArray = ls at hl ⊢
  have hl : lv_has ls 2 [(0, .ref mo), (1, .int a)] := hl
  refine lv_aload_n hx hb dX12_at_0 rfl (lv_at hl 0 rfl) ?_
  refine lv_aload_n hx hb dX12_at_1 rfl (lv_at hl 0 rfl) ?_
  refine va_get (D := (dC, dI)) (ci := 15) (v := .ref (lm 2)) (C := RX12) (T := TX12) (N := 8) hx hb hts (fun w h => List.mem_cons_of_mem _ (List.mem_append_right _ (List.mem_append_left _ h))) hown hK hP 0 rfl rfl 3 (by decide) (hts (.fieldLink RX12 19 "SpotbeatModel" "stations" "Ljava/util/List;") (by decide +kernel)) (fun _ h9 => h9) rfl dX12_at_2 ?_
  refine lv_iload_n hx hb dX12_at_5 rfl (lv_at hl 1 rfl) ?_
  have hPc := hP.sub (ws' := [((lm 2), .inr (2, [.int 0, .ref e0, .int 0]))]) [3] rfl
  have hDc := hD.sub (ws' := [((lm 2), .inr (2, [.int 0, .ref e0, .int 0]))]) [3] (by decide) rfl
  have hKc := hK.sub (tys' := []) [] rfl
  have hFc := va_free (wc := [((lm 2), .inr (2, [.int 0, .ref e0, .int 0]))]) hD hS hA [3] rfl
  refine va_calli (va_runS (As := [.ref (lm 2), .int a]) (rest := [.ref mo]) ⟨hx, hb, hml, hown, hts⟩ (c_X12_isOf l dC dI s.heap.size e0 (lm 2) a) (va_cwS 2 hts (goodIn_app (goodIn_of _ (by decide +kernel)) (goodIn_sub ((fun w h => List.mem_cons_of_mem _ (List.mem_append_right _ (List.mem_append_right _ (List.mem_append_left _ h))))) zgX12_isOf)) rfl rfl rfl (by decide +kernel) ⟨Nat.le_of_ble_eq_true rfl, Nat.le_of_ble_eq_true rfl⟩) ⟨gPcE_blind, gPcE_pass hPc hKc hDc hE hS hFc⟩ rfl rfl hl.1 rfl (lv_room (Nat.le_of_ble_eq_true rfl)) dX12_at_6 ⟨Nat.le_of_ble_eq_true rfl, Nat.le_of_ble_eq_true rfl⟩) hS (fun q _ h => hFc q h) hFc (fun r_1 u_2 t H locs ht hvm hw hB hz hk hS => ?_)
  obtain ⟨hP1, hK1, hD1⟩ := hB
  rw [ht] at hP1
  obtain ⟨hP, hD⟩ := va_join (wr := [(mo, .inr (15, [.int th, .ref (lm 0), .ref (lm 1), .ref (lm 2), .ref (lm 3), .ref (lm 4), .int 0, .int 0])), ((lm 0), .inr (2, [.int 0, .ref e0, .int 0])), ((lm 1), .inr (2, [.int 0, .ref e0, .int 0])), ((lm 3), .inr (2, [.int 0, .ref e0, .int 0])), ((lm 4), .inr (2, [.int 0, .ref e0, .int 0]))]) (w1 := [((lm 2), .inr (2, [.int 0, .ref e0, .int 0]))]) hP hD [3] [0, 1, 2, 4, 5] rfl rfl (by decide) (by decide) hk hFc hP1 hD1
  have hP : va_P (dC, dI) vwCl [(mo, .inr (15, [.int th, .ref (lm 0), .ref (lm 1), .ref (lm 2), .ref (lm 3), .ref (lm 4), .int 0, .int 0])), ((lm 0), .inr (2, [.int 0, .ref e0, .int 0])), ((lm 1), .inr (2, [.int 0, .ref e0, .int 0])), ((lm 3), .inr (2, [.int 0, .ref e0, .int 0])), ((lm 4), .inr (2, [.int 0, .ref e0, .int 0])), ((lm 2), .inr (2, [.int 0, .ref e0, .int 0]))] H := hP
  have hD : va_D A [(mo, .inr (15, [.int th, .ref (lm 0), .ref (lm 1), .ref (lm 2), .ref (lm 3), .ref (lm 4), .int 0, .int 0])), ((lm 0), .inr (2, [.int 0, .ref e0, .int 0])), ((lm 1), .inr (2, [.int 0, .ref e0, .int 0])), ((lm 3), .inr (2, [.int 0, .ref e0, .int 0])), ((lm 4), .inr (2, [.int 0, .ref e0, .int 0])), ((lm 2), .inr (2, [.int 0, .ref e0, .int 0]))] := hD
  have hw : r_1 = 0 := hw
  subst hw
  refine lv_if_ne (tgt := 16) hx hb dX12_at_9 (by decide) (fun c_3 => absurd c_3 (by decide)) (fun _ => ?_)
  refine lv_iconst (v := 1) hx hb dX12_at_12 (by decide) ?_
  refine lv_goto (tgt := 41) hx hb dX12_at_13 (by decide) ?_
  have hPc := hP.sub (ws' := [(mo, .inr (15, [.int th, .ref (lm 0), .ref (lm 1), .ref (lm 2), .ref (lm 3), .ref (lm 4), .int 0, .int 0])), ((lm 0), .inr (2, [.int 0, .ref e0, .int 0])), ((lm 1), .inr (2, [.int 0, .ref e0, .int 0])), ((lm 2), .inr (2, [.int 0, .ref e0, .int 0])), ((lm 3), .inr (2, [.int 0, .ref e0, .int 0])), ((lm 4), .inr (2, [.int 0, .ref e0, .int 0]))]) [0, 1, 2, 5, 3, 4] rfl
  have hDc := hD.sub (ws' := [(mo, .inr (15, [.int th, .ref (lm 0), .ref (lm 1), .ref (lm 2), .ref (lm 3), .ref (lm 4), .int 0, .int 0])), ((lm 0), .inr (2, [.int 0, .ref e0, .int 0])), ((lm 1), .inr (2, [.int 0, .ref e0, .int 0])), ((lm 2), .inr (2, [.int 0, .ref e0, .int 0])), ((lm 3), .inr (2, [.int 0, .ref e0, .int 0])), ((lm 4), .inr (2, [.int 0, .ref e0, .int 0]))]) [0, 1, 2, 5, 3, 4] (by decide) rfl
  have hKc := hK.sub (tys' := []) [] rfl
  have hFc := va_free (wc := [(mo, .inr (15, [.int th, .ref (lm 0), .ref (lm 1), .ref (lm 2), .ref (lm 3), .ref (lm 4), .int 0, .int 0])), ((lm 0), .inr (2, [.int 0, .ref e0, .int 0])), ((lm 1), .inr (2, [.int 0, .ref e0, .int 0])), ((lm 2), .inr (2, [.int 0, .ref e0, .int 0])), ((lm 3), .inr (2, [.int 0, .ref e0, .int 0])), ((lm 4), .inr (2, [.int 0, .ref e0, .int 0]))]) hD hS hA [0, 1, 2, 5, 3, 4] rfl
  refine va_calli (va_runV (As := [.int 1]) (rest := []) ⟨hx, hb, hml, hown, hts⟩ (c_X12_isWrong_1 l dC dI H.size mo lm e0 th) (cwV 1 hts (goodIn_app (goodIn_of _ (by decide +kernel)) (goodIn_sub ((fun w h => List.mem_cons_of_mem _ (List.mem_append_right _ (List.mem_append_right _ (List.mem_append_right _ (h)))))) zgX12_isWrong_1)) rfl rfl rfl (by decide +kernel) ⟨Nat.le_of_ble_eq_true rfl, Nat.le_of_ble_eq_true rfl⟩) ⟨gPcE_blind, va_recv hK hP (ci := 15) (q0 := 0) rfl rfl, gPcE_pass hPc hKc hDc hE hS hFc⟩ rfl rfl hl.1 rfl (lv_room (Nat.le_of_ble_eq_true rfl)) dX12_at_41 ⟨Nat.le_of_ble_eq_true rfl, Nat.le_of_ble_eq_true rfl⟩) hS (fun q _ h => hFc q h) hFc (fun r_4 u_5 t H locs ht hvm hw hB hz hk hS => ?_)
  obtain ⟨hP1, hK1, hD1⟩ := hB
  rw [ht] at hP1
  obtain ⟨hP, hD⟩ := va_join (wr := []) (w1 := [(mo, .inr (15, [.int u_5, .ref (lm 0), .ref (lm 1), .ref (lm 2), .ref (lm 3), .ref (lm 4), .int 0, .int 0])), ((lm 0), .inr (2, [.int 0, .ref e0, .int 0])), ((lm 1), .inr (2, [.int 0, .ref e0, .int 0])), ((lm 2), .inr (2, [.int 0, .ref e0, .int 0])), ((lm 3), .inr (2, [.int 0, .ref e0, .int 0])), ((lm 4), .inr (2, [.int 0, .ref e0, .int 0]))]) hP hD [0, 1, 2, 5, 3, 4] [] rfl rfl (by decide) (by decide) hk hFc hP1 hD1
  have hP : va_P (dC, dI) vwCl [(mo, .inr (15, [.int u_5, .ref (lm 0), .ref (lm 1), .ref (lm 2), .ref (lm 3), .ref (lm 4), .int 0, .int 0])), ((lm 0), .inr (2, [.int 0, .ref e0, .int 0])), ((lm 1), .inr (2, [.int 0, .ref e0, .int 0])), ((lm 2), .inr (2, [.int 0, .ref e0, .int 0])), ((lm 3), .inr (2, [.int 0, .ref e0, .int 0])), ((lm 4), .inr (2, [.int 0, .ref e0, .int 0]))] H := hP
  have hD : va_D A [(mo, .inr (15, [.int u_5, .ref (lm 0), .ref (lm 1), .ref (lm 2), .ref (lm 3), .ref (lm 4), .int 0, .int 0])), ((lm 0), .inr (2, [.int 0, .ref e0, .int 0])), ((lm 1), .inr (2, [.int 0, .ref e0, .int 0])), ((lm 2), .inr (2, [.int 0, .ref e0, .int 0])), ((lm 3), .inr (2, [.int 0, .ref e0, .int 0])), ((lm 4), .inr (2, [.int 0, .ref e0, .int 0]))] := hD
  have hw : r_4 = 1 ∧ u_5 = 1 := hw
  obtain ⟨rfl, rfl⟩ : r_4 = 1 ∧ u_5 = 1 := hw
  refine lv_if_eq (tgt := 51) hx hb dX12_at_44 (by decide) (fun c_6 => absurd c_6 (by decide)) (fun _ => ?_)
  refine lv_iconst (v := 0) hx hb dX12_at_47 (by decide) ?_
  refine lv_goto (tgt := 67) hx hb dX12_at_48 (by decide) ?_
  have hP9 := hP.sub (ws' := [(mo, .inr (15, [.int 1, .ref (lm 0), .ref (lm 1), .ref (lm 2), .ref (lm 3), .ref (lm 4), .int 0, .int 0])), ((lm 0), .inr (2, [.int 0, .ref e0, .int 0])), ((lm 1), .inr (2, [.int 0, .ref e0, .int 0])), ((lm 2), .inr (2, [.int 0, .ref e0, .int 0])), ((lm 3), .inr (2, [.int 0, .ref e0, .int 0])), ((lm 4), .inr (2, [.int 0, .ref e0, .int 0]))]) [0, 1, 2, 3, 4, 5] rfl
  have hD9 := hD.sub (ws' := [(mo, .inr (15, [.int 1, .ref (lm 0), .ref (lm 1), .ref (lm 2), .ref (lm 3), .ref (lm 4), .int 0, .int 0])), ((lm 0), .inr (2, [.int 0, .ref e0, .int 0])), ((lm 1), .inr (2, [.int 0, .ref e0, .int 0])), ((lm 2), .inr (2, [.int 0, .ref e0, .int 0])), ((lm 3), .inr (2, [.int 0, .ref e0, .int 0])), ((lm 4), .inr (2, [.int 0, .ref e0, .int 0]))]) [0, 1, 2, 3, 4, 5] (by decide) rfl
  have hK9 := hK.sub (tys' := []) [] rfl
  refine W.widen (k := 0) (n := 0) (Nat.le_of_ble_eq_true rfl) (Nat.le_of_ble_eq_true rfl) ?_
  exact W.iret (v := 0) hx hb hr (fun t ht hW => ⟨⟨0, 1, rfl, ⟨rfl, rfl⟩, by rw [ht]; exact hP9, va_K.moved hW.alike hK9, hD9⟩, hS.F ht⟩) hS.2.2 dX12_at_67

def zwX12_stand : List Cond := .code yX12_stand cX12_stand 4 (some .boolean) :: (([.fieldLink RX12 19 "SpotbeatModel" "stations" "Ljava/util/List;", .methodLink RX12 46 yX12_isOf, .static yX12_isOf, .initialized RX12, .methodLink RX12 50 yX12_isWrong, .instanceMethod yX12_isWrong, .selects RX12 yX12_isWrong yX12_isWrong] : List Cond) ++ (wsX120 ++ (zwX12_isOf ++ (zwX12_isWrong_1))))
theorem zgX12_stand : zwX12_stand.all goodWord = true := zgo rfl (zga (by decide +kernel) (zga zgcX12 (zga zgX12_isOf (zgX12_isWrong_1))))
set_option maxHeartbeats 4000000 in
set_option maxRecDepth 100000 in
theorem c_X12_stand (l : Launch) (dC : Nat → ClassId) (dI : Nat → Nat → Nat) (sz : Nat) (mo : Nat) (lm : Nat → Nat) (e0 : Nat) (th : Int32) (a : Int32) (b : Int32) : Met l yX12_stand zwX12_stand ({ frames := 2, cells := 0, slots := 0, locals := 43 }) (gPcE dC dI sz [(mo, .inr (15, [.int th, .ref (lm 0), .ref (lm 1), .ref (lm 2), .ref (lm 3), .ref (lm 4), .int 0, .int 0])), ((lm 0), .inr (2, [.int 0, .ref e0, .int 0])), ((lm 1), .inr (2, [.int 0, .ref e0, .int 0])), ((lm 2), .inr (2, [.int 0, .ref e0, .int 0])), ((lm 3), .inr (2, [.int 0, .ref e0, .int 0])), ((lm 4), .inr (2, [.int 0, .ref e0, .int 0]))] [] [.ref mo, .int a, .int b]) (va_Qi (fun (r : Int32) (u : Int32) => r = 0 ∧ u = 1) (fun u t => va_P (dC, dI) vwCl [(mo, .inr (15, [.int u, .ref (lm 0), .ref (lm 1), .ref (lm 2), .ref (lm 3), .ref (lm 4), .int 0, .int 0])), ((lm 0), .inr (2, [.int 0, .ref e0, .int 0])), ((lm 1), .inr (2, [.int 0, .ref e0, .int 0])), ((lm 2), .inr (2, [.int 0, .ref e0, .int 0])), ((lm 3), .inr (2, [.int 0, .ref e0, .int 0])), ((lm 4), .inr (2, [.int 0, .ref e0, .int 0]))] t.heap ∧ va_K (dC, dI) vwCl [] t ∧ va_D (va_A [(mo, .inr (15, [.int th, .ref (lm 0), .ref (lm 1), .ref (lm 2), .ref (lm 3), .ref (lm 4), .int 0, .int 0])), ((lm 0), .inr (2, [.int 0, .ref e0, .int 0])), ((lm 1), .inr (2, [.int 0, .ref e0, .int 0])), ((lm 2), .inr (2, [.int 0, .ref e0, .int 0])), ((lm 3), .inr (2, [.int 0, .ref e0, .int 0])), ((lm 4), .inr (2, [.int 0, .ref e0, .int 0]))] sz) [(mo, .inr (15, [.int u, .ref (lm 0), .ref (lm 1), .ref (lm 2), .ref (lm 3), .ref (lm 4), .int 0, .int 0])), ((lm 0), .inr (2, [.int 0, .ref e0, .int 0])), ((lm 1), .inr (2, [.int 0, .ref e0, .int 0])), ((lm 2), .inr (2, [.int 0, .ref e0, .int 0])), ((lm 3), .inr (2, [.int 0, .ref e0, .int 0])), ((lm 4), .inr (2, [.int 0, .ref e0, .int 0]))]) (va_A [(mo, .inr (15, [.int th, .ref (lm 0), .ref (lm 1), .ref (lm 2), .ref (lm 3), .ref (lm 4), .int 0, .int 0])), ((lm 0), .inr (2, [.int 0, .ref e0, .int 0])), ((lm 1), .inr (2, [.int 0, .ref e0, .int 0])), ((lm 2), .inr (2, [.int 0, .ref e0, .int 0])), ((lm 3), .inr (2, [.int 0, .ref e0, .int 0])), ((lm 4), .inr (2, [.int 0, .ref e0, .int 0]))] sz)) 0 0 (va_A [(mo, .inr (15, [.int th, .ref (lm 0), .ref (lm 1), .ref (lm 2), .ref (lm 3), .ref (lm 4), .int 0, .int 0])), ((lm 0), .inr (2, [.int 0, .ref e0, .int 0])), ((lm 1), .inr (2, [.int 0, .ref e0, .int 0])), ((lm 2), .inr (2, [.int 0, .ref e0, .int 0])), ((lm 3), .inr (2, [.int 0, .ref e0, .int 0])), ((lm 4), .inr (2, [.int 0, .ref e0, .int 0]))] sz) := by
  refine Met.ofW (cc := cX12_stand) (maxL := 4) (ret := (some .boolean)) (by decide) rfl ?_
  intro p e s m args below meth c s₁ B hml hv
  obtain ⟨rfl, hsz, hP, hK, hD0, hE⟩ := hv
  have hx := B.exec
  have hb := B.bytes
  have hr := B.returns
  have hts := atoms_spec (ws := zwX12_stand) B.pre
  have hown : s.vm.findClass RX12 = some m.cls := findClass_of_methodNamed B.named
  have hlocks := B.notSynchronized
  subst hsz
  have hD := hD0.self (sz := s.heap.size)
  generalize hAe : va_A [(mo, .inr (15, [.int th, .ref (lm 0), .ref (lm 1), .ref (lm 2), .ref (lm 3), .ref (lm 4), .int 0, .int 0])), ((lm 0), .inr (2, [.int 0, .ref e0, .int 0])), ((lm 1), .inr (2, [.int 0, .ref e0, .int 0])), ((lm 2), .inr (2, [.int 0, .ref e0, .int 0])), ((lm 3), .inr (2, [.int 0, .ref e0, .int 0])), ((lm 4), .inr (2, [.int 0, .ref e0, .int 0]))] s.heap.size = A at hD hE ⊢
  have hA : ∀ q : Nat, s.heap.size ≤ q → A q := fun q h => by rw [← hAe]; exact Or.inr h
  have hS : va_S A s.heap s.heap [] := va_S.rf
  have hP : va_P (dC, dI) vwCl [(mo, .inr (15, [.int th, .ref (lm 0), .ref (lm 1), .ref (lm 2), .ref (lm 3), .ref (lm 4), .int 0, .int 0])), ((lm 0), .inr (2, [.int 0, .ref e0, .int 0])), ((lm 1), .inr (2, [.int 0, .ref e0, .int 0])), ((lm 2), .inr (2, [.int 0, .ref e0, .int 0])), ((lm 3), .inr (2, [.int 0, .ref e0, .int 0])), ((lm 4), .inr (2, [.int 0, .ref e0, .int 0]))] s.heap := hP
  have hl := lv_entry ([.ref mo, .int a, .int b]) (n := 4) (Nat.le_of_ble_eq_true rfl)
  rw [lg_entry_eq]
  generalize (lg_sl ([.ref mo, .int a, .int b]) ++ List.replicate (4 - (lg_sl ([.ref mo, .int a, .int b])).length) Slot.unset).toArray = ls at hl ⊢
  have hl : lv_has ls 4 [(0, .ref mo), (1, .int a), (2, .int b)] := hl
  refine lv_aload_n hx hb dX12_stand_0 rfl (lv_at hl 0 rfl) ?_
  refine lv_aload_n hx hb dX12_stand_1 rfl (lv_at hl 0 rfl) ?_
  refine va_get (D := (dC, dI)) (ci := 15) (v := .ref (lm 2)) (C := RX12) (T := TX12) (N := 8) hx hb hts (fun w h => List.mem_cons_of_mem _ (List.mem_append_right _ (List.mem_append_left _ h))) hown hK hP 0 rfl rfl 3 (by decide) (hts (.fieldLink RX12 19 "SpotbeatModel" "stations" "Ljava/util/List;") (by decide +kernel)) (fun _ h9 => h9) rfl dX12_stand_2 ?_
  refine lv_iload_n hx hb dX12_stand_5 rfl (lv_at hl 1 rfl) ?_
  have hPc := hP.sub (ws' := [((lm 2), .inr (2, [.int 0, .ref e0, .int 0]))]) [3] rfl
  have hDc := hD.sub (ws' := [((lm 2), .inr (2, [.int 0, .ref e0, .int 0]))]) [3] (by decide) rfl
  have hKc := hK.sub (tys' := []) [] rfl
  have hFc := va_free (wc := [((lm 2), .inr (2, [.int 0, .ref e0, .int 0]))]) hD hS hA [3] rfl
  refine va_calli (va_runS (As := [.ref (lm 2), .int a]) (rest := [.ref mo]) ⟨hx, hb, hml, hown, hts⟩ (c_X12_isOf l dC dI s.heap.size e0 (lm 2) a) (va_cwS 2 hts (goodIn_app (goodIn_of _ (by decide +kernel)) (goodIn_sub ((fun w h => List.mem_cons_of_mem _ (List.mem_append_right _ (List.mem_append_right _ (List.mem_append_left _ h))))) zgX12_isOf)) rfl rfl rfl (by decide +kernel) ⟨Nat.le_of_ble_eq_true rfl, Nat.le_of_ble_eq_true rfl⟩) ⟨gPcE_blind, gPcE_pass hPc hKc hDc hE hS hFc⟩ rfl rfl hl.1 rfl (lv_room (Nat.le_of_ble_eq_true rfl)) dX12_stand_6 ⟨Nat.le_of_ble_eq_true rfl, Nat.le_of_ble_eq_true rfl⟩) hS (fun q _ h => hFc q h) hFc (fun r_1 u_2 t H locs ht hvm hw hB hz hk hS => ?_)
  obtain ⟨hP1, hK1, hD1⟩ := hB
  rw [ht] at hP1
  obtain ⟨hP, hD⟩ := va_join (wr := [(mo, .inr (15, [.int th, .ref (lm 0), .ref (lm 1), .ref (lm 2), .ref (lm 3), .ref (lm 4), .int 0, .int 0])), ((lm 0), .inr (2, [.int 0, .ref e0, .int 0])), ((lm 1), .inr (2, [.int 0, .ref e0, .int 0])), ((lm 3), .inr (2, [.int 0, .ref e0, .int 0])), ((lm 4), .inr (2, [.int 0, .ref e0, .int 0]))]) (w1 := [((lm 2), .inr (2, [.int 0, .ref e0, .int 0]))]) hP hD [3] [0, 1, 2, 4, 5] rfl rfl (by decide) (by decide) hk hFc hP1 hD1
  have hP : va_P (dC, dI) vwCl [(mo, .inr (15, [.int th, .ref (lm 0), .ref (lm 1), .ref (lm 2), .ref (lm 3), .ref (lm 4), .int 0, .int 0])), ((lm 0), .inr (2, [.int 0, .ref e0, .int 0])), ((lm 1), .inr (2, [.int 0, .ref e0, .int 0])), ((lm 3), .inr (2, [.int 0, .ref e0, .int 0])), ((lm 4), .inr (2, [.int 0, .ref e0, .int 0])), ((lm 2), .inr (2, [.int 0, .ref e0, .int 0]))] H := hP
  have hD : va_D A [(mo, .inr (15, [.int th, .ref (lm 0), .ref (lm 1), .ref (lm 2), .ref (lm 3), .ref (lm 4), .int 0, .int 0])), ((lm 0), .inr (2, [.int 0, .ref e0, .int 0])), ((lm 1), .inr (2, [.int 0, .ref e0, .int 0])), ((lm 3), .inr (2, [.int 0, .ref e0, .int 0])), ((lm 4), .inr (2, [.int 0, .ref e0, .int 0])), ((lm 2), .inr (2, [.int 0, .ref e0, .int 0]))] := hD
  have hw : r_1 = 0 := hw
  subst hw
  refine lv_if_eq (tgt := 16) hx hb dX12_stand_9 (by decide) (fun _ => ?_) (fun c_3 => absurd c_3 (by decide))
  refine lv_iconst (v := 1) hx hb dX12_stand_16 (by decide) ?_
  have hPc := hP.sub (ws' := [(mo, .inr (15, [.int th, .ref (lm 0), .ref (lm 1), .ref (lm 2), .ref (lm 3), .ref (lm 4), .int 0, .int 0])), ((lm 0), .inr (2, [.int 0, .ref e0, .int 0])), ((lm 1), .inr (2, [.int 0, .ref e0, .int 0])), ((lm 2), .inr (2, [.int 0, .ref e0, .int 0])), ((lm 3), .inr (2, [.int 0, .ref e0, .int 0])), ((lm 4), .inr (2, [.int 0, .ref e0, .int 0]))]) [0, 1, 2, 5, 3, 4] rfl
  have hDc := hD.sub (ws' := [(mo, .inr (15, [.int th, .ref (lm 0), .ref (lm 1), .ref (lm 2), .ref (lm 3), .ref (lm 4), .int 0, .int 0])), ((lm 0), .inr (2, [.int 0, .ref e0, .int 0])), ((lm 1), .inr (2, [.int 0, .ref e0, .int 0])), ((lm 2), .inr (2, [.int 0, .ref e0, .int 0])), ((lm 3), .inr (2, [.int 0, .ref e0, .int 0])), ((lm 4), .inr (2, [.int 0, .ref e0, .int 0]))]) [0, 1, 2, 5, 3, 4] (by decide) rfl
  have hKc := hK.sub (tys' := []) [] rfl
  have hFc := va_free (wc := [(mo, .inr (15, [.int th, .ref (lm 0), .ref (lm 1), .ref (lm 2), .ref (lm 3), .ref (lm 4), .int 0, .int 0])), ((lm 0), .inr (2, [.int 0, .ref e0, .int 0])), ((lm 1), .inr (2, [.int 0, .ref e0, .int 0])), ((lm 2), .inr (2, [.int 0, .ref e0, .int 0])), ((lm 3), .inr (2, [.int 0, .ref e0, .int 0])), ((lm 4), .inr (2, [.int 0, .ref e0, .int 0]))]) hD hS hA [0, 1, 2, 5, 3, 4] rfl
  refine va_calli (va_runV (As := [.int 1]) (rest := []) ⟨hx, hb, hml, hown, hts⟩ (c_X12_isWrong_1 l dC dI H.size mo lm e0 th) (cwV 1 hts (goodIn_app (goodIn_of _ (by decide +kernel)) (goodIn_sub ((fun w h => List.mem_cons_of_mem _ (List.mem_append_right _ (List.mem_append_right _ (List.mem_append_right _ (h)))))) zgX12_isWrong_1)) rfl rfl rfl (by decide +kernel) ⟨Nat.le_of_ble_eq_true rfl, Nat.le_of_ble_eq_true rfl⟩) ⟨gPcE_blind, va_recv hK hP (ci := 15) (q0 := 0) rfl rfl, gPcE_pass hPc hKc hDc hE hS hFc⟩ rfl rfl hl.1 rfl (lv_room (Nat.le_of_ble_eq_true rfl)) dX12_stand_17 ⟨Nat.le_of_ble_eq_true rfl, Nat.le_of_ble_eq_true rfl⟩) hS (fun q _ h => hFc q h) hFc (fun r_4 u_5 t H locs ht hvm hw hB hz hk hS => ?_)
  obtain ⟨hP1, hK1, hD1⟩ := hB
  rw [ht] at hP1
  obtain ⟨hP, hD⟩ := va_join (wr := []) (w1 := [(mo, .inr (15, [.int u_5, .ref (lm 0), .ref (lm 1), .ref (lm 2), .ref (lm 3), .ref (lm 4), .int 0, .int 0])), ((lm 0), .inr (2, [.int 0, .ref e0, .int 0])), ((lm 1), .inr (2, [.int 0, .ref e0, .int 0])), ((lm 2), .inr (2, [.int 0, .ref e0, .int 0])), ((lm 3), .inr (2, [.int 0, .ref e0, .int 0])), ((lm 4), .inr (2, [.int 0, .ref e0, .int 0]))]) hP hD [0, 1, 2, 5, 3, 4] [] rfl rfl (by decide) (by decide) hk hFc hP1 hD1
  have hP : va_P (dC, dI) vwCl [(mo, .inr (15, [.int u_5, .ref (lm 0), .ref (lm 1), .ref (lm 2), .ref (lm 3), .ref (lm 4), .int 0, .int 0])), ((lm 0), .inr (2, [.int 0, .ref e0, .int 0])), ((lm 1), .inr (2, [.int 0, .ref e0, .int 0])), ((lm 2), .inr (2, [.int 0, .ref e0, .int 0])), ((lm 3), .inr (2, [.int 0, .ref e0, .int 0])), ((lm 4), .inr (2, [.int 0, .ref e0, .int 0]))] H := hP
  have hD : va_D A [(mo, .inr (15, [.int u_5, .ref (lm 0), .ref (lm 1), .ref (lm 2), .ref (lm 3), .ref (lm 4), .int 0, .int 0])), ((lm 0), .inr (2, [.int 0, .ref e0, .int 0])), ((lm 1), .inr (2, [.int 0, .ref e0, .int 0])), ((lm 2), .inr (2, [.int 0, .ref e0, .int 0])), ((lm 3), .inr (2, [.int 0, .ref e0, .int 0])), ((lm 4), .inr (2, [.int 0, .ref e0, .int 0]))] := hD
  have hw : r_4 = 1 ∧ u_5 = 1 := hw
  obtain ⟨rfl, rfl⟩ : r_4 = 1 ∧ u_5 = 1 := hw
  refine lv_if_eq (tgt := 25) hx hb dX12_stand_20 (by decide) (fun c_6 => absurd c_6 (by decide)) (fun _ => ?_)
  refine lv_iconst (v := 0) hx hb dX12_stand_23 (by decide) ?_
  have hP9 := hP.sub (ws' := [(mo, .inr (15, [.int 1, .ref (lm 0), .ref (lm 1), .ref (lm 2), .ref (lm 3), .ref (lm 4), .int 0, .int 0])), ((lm 0), .inr (2, [.int 0, .ref e0, .int 0])), ((lm 1), .inr (2, [.int 0, .ref e0, .int 0])), ((lm 2), .inr (2, [.int 0, .ref e0, .int 0])), ((lm 3), .inr (2, [.int 0, .ref e0, .int 0])), ((lm 4), .inr (2, [.int 0, .ref e0, .int 0]))]) [0, 1, 2, 3, 4, 5] rfl
  have hD9 := hD.sub (ws' := [(mo, .inr (15, [.int 1, .ref (lm 0), .ref (lm 1), .ref (lm 2), .ref (lm 3), .ref (lm 4), .int 0, .int 0])), ((lm 0), .inr (2, [.int 0, .ref e0, .int 0])), ((lm 1), .inr (2, [.int 0, .ref e0, .int 0])), ((lm 2), .inr (2, [.int 0, .ref e0, .int 0])), ((lm 3), .inr (2, [.int 0, .ref e0, .int 0])), ((lm 4), .inr (2, [.int 0, .ref e0, .int 0]))]) [0, 1, 2, 3, 4, 5] (by decide) rfl
  have hK9 := hK.sub (tys' := []) [] rfl
  refine W.widen (k := 0) (n := 0) (Nat.le_of_ble_eq_true rfl) (Nat.le_of_ble_eq_true rfl) ?_
  exact W.zret (v := 0) hx hb hr (by decide +kernel) (fun t ht hW => ⟨⟨0, 1, rfl, ⟨rfl, rfl⟩, by rw [ht]; exact hP9, va_K.moved hW.alike hK9, hD9⟩, hS.F ht⟩) hS.2.2 dX12_stand_24

def zwX12_letters : List Cond := .code yX12_letters cX12_letters 3 (some .int) :: (([.fieldLink RX12 19 "SpotbeatModel" "stations" "Ljava/util/List;", .methodLink RX12 46 yX12_isOf, .static yX12_isOf, .initialized RX12, .methodLink RX12 50 yX12_isWrong, .instanceMethod yX12_isWrong, .selects RX12 yX12_isWrong yX12_isWrong] : List Cond) ++ (wsX120 ++ (zwX12_isOf ++ (zwX12_isWrong_1))))
theorem zgX12_letters : zwX12_letters.all goodWord = true := zgo rfl (zga (by decide +kernel) (zga zgcX12 (zga zgX12_isOf (zgX12_isWrong_1))))
set_option maxHeartbeats 4000000 in
set_option maxRecDepth 100000 in
theorem c_X12_letters (l : Launch) (dC : Nat → ClassId) (dI : Nat → Nat → Nat) (sz : Nat) (mo : Nat) (lm : Nat → Nat) (e0 : Nat) (th : Int32) (a : Int32) (b : Int32) : Met l yX12_letters zwX12_letters ({ frames := 2, cells := 0, slots := 0, locals := 43 }) (gPcE dC dI sz [(mo, .inr (15, [.int th, .ref (lm 0), .ref (lm 1), .ref (lm 2), .ref (lm 3), .ref (lm 4), .int 0, .int 0])), ((lm 0), .inr (2, [.int 0, .ref e0, .int 0])), ((lm 1), .inr (2, [.int 0, .ref e0, .int 0])), ((lm 2), .inr (2, [.int 0, .ref e0, .int 0])), ((lm 3), .inr (2, [.int 0, .ref e0, .int 0])), ((lm 4), .inr (2, [.int 0, .ref e0, .int 0]))] [] [.ref mo, .int a, .int b]) (va_Qi (fun (r : Int32) (u : Int32) => r = 0 ∧ u = 1) (fun u t => va_P (dC, dI) vwCl [(mo, .inr (15, [.int u, .ref (lm 0), .ref (lm 1), .ref (lm 2), .ref (lm 3), .ref (lm 4), .int 0, .int 0])), ((lm 0), .inr (2, [.int 0, .ref e0, .int 0])), ((lm 1), .inr (2, [.int 0, .ref e0, .int 0])), ((lm 2), .inr (2, [.int 0, .ref e0, .int 0])), ((lm 3), .inr (2, [.int 0, .ref e0, .int 0])), ((lm 4), .inr (2, [.int 0, .ref e0, .int 0]))] t.heap ∧ va_K (dC, dI) vwCl [] t ∧ va_D (va_A [(mo, .inr (15, [.int th, .ref (lm 0), .ref (lm 1), .ref (lm 2), .ref (lm 3), .ref (lm 4), .int 0, .int 0])), ((lm 0), .inr (2, [.int 0, .ref e0, .int 0])), ((lm 1), .inr (2, [.int 0, .ref e0, .int 0])), ((lm 2), .inr (2, [.int 0, .ref e0, .int 0])), ((lm 3), .inr (2, [.int 0, .ref e0, .int 0])), ((lm 4), .inr (2, [.int 0, .ref e0, .int 0]))] sz) [(mo, .inr (15, [.int u, .ref (lm 0), .ref (lm 1), .ref (lm 2), .ref (lm 3), .ref (lm 4), .int 0, .int 0])), ((lm 0), .inr (2, [.int 0, .ref e0, .int 0])), ((lm 1), .inr (2, [.int 0, .ref e0, .int 0])), ((lm 2), .inr (2, [.int 0, .ref e0, .int 0])), ((lm 3), .inr (2, [.int 0, .ref e0, .int 0])), ((lm 4), .inr (2, [.int 0, .ref e0, .int 0]))]) (va_A [(mo, .inr (15, [.int th, .ref (lm 0), .ref (lm 1), .ref (lm 2), .ref (lm 3), .ref (lm 4), .int 0, .int 0])), ((lm 0), .inr (2, [.int 0, .ref e0, .int 0])), ((lm 1), .inr (2, [.int 0, .ref e0, .int 0])), ((lm 2), .inr (2, [.int 0, .ref e0, .int 0])), ((lm 3), .inr (2, [.int 0, .ref e0, .int 0])), ((lm 4), .inr (2, [.int 0, .ref e0, .int 0]))] sz)) 0 0 (va_A [(mo, .inr (15, [.int th, .ref (lm 0), .ref (lm 1), .ref (lm 2), .ref (lm 3), .ref (lm 4), .int 0, .int 0])), ((lm 0), .inr (2, [.int 0, .ref e0, .int 0])), ((lm 1), .inr (2, [.int 0, .ref e0, .int 0])), ((lm 2), .inr (2, [.int 0, .ref e0, .int 0])), ((lm 3), .inr (2, [.int 0, .ref e0, .int 0])), ((lm 4), .inr (2, [.int 0, .ref e0, .int 0]))] sz) := by
  refine Met.ofW (cc := cX12_letters) (maxL := 3) (ret := (some .int)) (by decide) rfl ?_
  intro p e s m args below meth c s₁ B hml hv
  obtain ⟨rfl, hsz, hP, hK, hD0, hE⟩ := hv
  have hx := B.exec
  have hb := B.bytes
  have hr := B.returns
  have hts := atoms_spec (ws := zwX12_letters) B.pre
  have hown : s.vm.findClass RX12 = some m.cls := findClass_of_methodNamed B.named
  have hlocks := B.notSynchronized
  subst hsz
  have hD := hD0.self (sz := s.heap.size)
  generalize hAe : va_A [(mo, .inr (15, [.int th, .ref (lm 0), .ref (lm 1), .ref (lm 2), .ref (lm 3), .ref (lm 4), .int 0, .int 0])), ((lm 0), .inr (2, [.int 0, .ref e0, .int 0])), ((lm 1), .inr (2, [.int 0, .ref e0, .int 0])), ((lm 2), .inr (2, [.int 0, .ref e0, .int 0])), ((lm 3), .inr (2, [.int 0, .ref e0, .int 0])), ((lm 4), .inr (2, [.int 0, .ref e0, .int 0]))] s.heap.size = A at hD hE ⊢
  have hA : ∀ q : Nat, s.heap.size ≤ q → A q := fun q h => by rw [← hAe]; exact Or.inr h
  have hS : va_S A s.heap s.heap [] := va_S.rf
  have hP : va_P (dC, dI) vwCl [(mo, .inr (15, [.int th, .ref (lm 0), .ref (lm 1), .ref (lm 2), .ref (lm 3), .ref (lm 4), .int 0, .int 0])), ((lm 0), .inr (2, [.int 0, .ref e0, .int 0])), ((lm 1), .inr (2, [.int 0, .ref e0, .int 0])), ((lm 2), .inr (2, [.int 0, .ref e0, .int 0])), ((lm 3), .inr (2, [.int 0, .ref e0, .int 0])), ((lm 4), .inr (2, [.int 0, .ref e0, .int 0]))] s.heap := hP
  have hl := lv_entry ([.ref mo, .int a, .int b]) (n := 3) (Nat.le_of_ble_eq_true rfl)
  rw [lg_entry_eq]
  generalize (lg_sl ([.ref mo, .int a, .int b]) ++ List.replicate (3 - (lg_sl ([.ref mo, .int a, .int b])).length) Slot.unset).toArray = ls at hl ⊢
  have hl : lv_has ls 3 [(0, .ref mo), (1, .int a), (2, .int b)] := hl
  refine lv_aload_n hx hb dX12_letters_0 rfl (lv_at hl 0 rfl) ?_
  refine lv_aload_n hx hb dX12_letters_1 rfl (lv_at hl 0 rfl) ?_
  refine va_get (D := (dC, dI)) (ci := 15) (v := .ref (lm 2)) (C := RX12) (T := TX12) (N := 8) hx hb hts (fun w h => List.mem_cons_of_mem _ (List.mem_append_right _ (List.mem_append_left _ h))) hown hK hP 0 rfl rfl 3 (by decide) (hts (.fieldLink RX12 19 "SpotbeatModel" "stations" "Ljava/util/List;") (by decide +kernel)) (fun _ h9 => h9) rfl dX12_letters_2 ?_
  refine lv_iload_n hx hb dX12_letters_5 rfl (lv_at hl 1 rfl) ?_
  have hPc := hP.sub (ws' := [((lm 2), .inr (2, [.int 0, .ref e0, .int 0]))]) [3] rfl
  have hDc := hD.sub (ws' := [((lm 2), .inr (2, [.int 0, .ref e0, .int 0]))]) [3] (by decide) rfl
  have hKc := hK.sub (tys' := []) [] rfl
  have hFc := va_free (wc := [((lm 2), .inr (2, [.int 0, .ref e0, .int 0]))]) hD hS hA [3] rfl
  refine va_calli (va_runS (As := [.ref (lm 2), .int a]) (rest := [.ref mo]) ⟨hx, hb, hml, hown, hts⟩ (c_X12_isOf l dC dI s.heap.size e0 (lm 2) a) (va_cwS 2 hts (goodIn_app (goodIn_of _ (by decide +kernel)) (goodIn_sub ((fun w h => List.mem_cons_of_mem _ (List.mem_append_right _ (List.mem_append_right _ (List.mem_append_left _ h))))) zgX12_isOf)) rfl rfl rfl (by decide +kernel) ⟨Nat.le_of_ble_eq_true rfl, Nat.le_of_ble_eq_true rfl⟩) ⟨gPcE_blind, gPcE_pass hPc hKc hDc hE hS hFc⟩ rfl rfl hl.1 rfl (lv_room (Nat.le_of_ble_eq_true rfl)) dX12_letters_6 ⟨Nat.le_of_ble_eq_true rfl, Nat.le_of_ble_eq_true rfl⟩) hS (fun q _ h => hFc q h) hFc (fun r_1 u_2 t H locs ht hvm hw hB hz hk hS => ?_)
  obtain ⟨hP1, hK1, hD1⟩ := hB
  rw [ht] at hP1
  obtain ⟨hP, hD⟩ := va_join (wr := [(mo, .inr (15, [.int th, .ref (lm 0), .ref (lm 1), .ref (lm 2), .ref (lm 3), .ref (lm 4), .int 0, .int 0])), ((lm 0), .inr (2, [.int 0, .ref e0, .int 0])), ((lm 1), .inr (2, [.int 0, .ref e0, .int 0])), ((lm 3), .inr (2, [.int 0, .ref e0, .int 0])), ((lm 4), .inr (2, [.int 0, .ref e0, .int 0]))]) (w1 := [((lm 2), .inr (2, [.int 0, .ref e0, .int 0]))]) hP hD [3] [0, 1, 2, 4, 5] rfl rfl (by decide) (by decide) hk hFc hP1 hD1
  have hP : va_P (dC, dI) vwCl [(mo, .inr (15, [.int th, .ref (lm 0), .ref (lm 1), .ref (lm 2), .ref (lm 3), .ref (lm 4), .int 0, .int 0])), ((lm 0), .inr (2, [.int 0, .ref e0, .int 0])), ((lm 1), .inr (2, [.int 0, .ref e0, .int 0])), ((lm 3), .inr (2, [.int 0, .ref e0, .int 0])), ((lm 4), .inr (2, [.int 0, .ref e0, .int 0])), ((lm 2), .inr (2, [.int 0, .ref e0, .int 0]))] H := hP
  have hD : va_D A [(mo, .inr (15, [.int th, .ref (lm 0), .ref (lm 1), .ref (lm 2), .ref (lm 3), .ref (lm 4), .int 0, .int 0])), ((lm 0), .inr (2, [.int 0, .ref e0, .int 0])), ((lm 1), .inr (2, [.int 0, .ref e0, .int 0])), ((lm 3), .inr (2, [.int 0, .ref e0, .int 0])), ((lm 4), .inr (2, [.int 0, .ref e0, .int 0])), ((lm 2), .inr (2, [.int 0, .ref e0, .int 0]))] := hD
  have hw : r_1 = 0 := hw
  subst hw
  refine lv_if_ne (tgt := 16) hx hb dX12_letters_9 (by decide) (fun c_3 => absurd c_3 (by decide)) (fun _ => ?_)
  refine lv_iconst (v := 1) hx hb dX12_letters_12 (by decide) ?_
  refine lv_goto (tgt := 31) hx hb dX12_letters_13 (by decide) ?_
  have hPc := hP.sub (ws' := [(mo, .inr (15, [.int th, .ref (lm 0), .ref (lm 1), .ref (lm 2), .ref (lm 3), .ref (lm 4), .int 0, .int 0])), ((lm 0), .inr (2, [.int 0, .ref e0, .int 0])), ((lm 1), .inr (2, [.int 0, .ref e0, .int 0])), ((lm 2), .inr (2, [.int 0, .ref e0, .int 0])), ((lm 3), .inr (2, [.int 0, .ref e0, .int 0])), ((lm 4), .inr (2, [.int 0, .ref e0, .int 0]))]) [0, 1, 2, 5, 3, 4] rfl
  have hDc := hD.sub (ws' := [(mo, .inr (15, [.int th, .ref (lm 0), .ref (lm 1), .ref (lm 2), .ref (lm 3), .ref (lm 4), .int 0, .int 0])), ((lm 0), .inr (2, [.int 0, .ref e0, .int 0])), ((lm 1), .inr (2, [.int 0, .ref e0, .int 0])), ((lm 2), .inr (2, [.int 0, .ref e0, .int 0])), ((lm 3), .inr (2, [.int 0, .ref e0, .int 0])), ((lm 4), .inr (2, [.int 0, .ref e0, .int 0]))]) [0, 1, 2, 5, 3, 4] (by decide) rfl
  have hKc := hK.sub (tys' := []) [] rfl
  have hFc := va_free (wc := [(mo, .inr (15, [.int th, .ref (lm 0), .ref (lm 1), .ref (lm 2), .ref (lm 3), .ref (lm 4), .int 0, .int 0])), ((lm 0), .inr (2, [.int 0, .ref e0, .int 0])), ((lm 1), .inr (2, [.int 0, .ref e0, .int 0])), ((lm 2), .inr (2, [.int 0, .ref e0, .int 0])), ((lm 3), .inr (2, [.int 0, .ref e0, .int 0])), ((lm 4), .inr (2, [.int 0, .ref e0, .int 0]))]) hD hS hA [0, 1, 2, 5, 3, 4] rfl
  refine va_calli (va_runV (As := [.int 1]) (rest := []) ⟨hx, hb, hml, hown, hts⟩ (c_X12_isWrong_1 l dC dI H.size mo lm e0 th) (cwV 1 hts (goodIn_app (goodIn_of _ (by decide +kernel)) (goodIn_sub ((fun w h => List.mem_cons_of_mem _ (List.mem_append_right _ (List.mem_append_right _ (List.mem_append_right _ (h)))))) zgX12_isWrong_1)) rfl rfl rfl (by decide +kernel) ⟨Nat.le_of_ble_eq_true rfl, Nat.le_of_ble_eq_true rfl⟩) ⟨gPcE_blind, va_recv hK hP (ci := 15) (q0 := 0) rfl rfl, gPcE_pass hPc hKc hDc hE hS hFc⟩ rfl rfl hl.1 rfl (lv_room (Nat.le_of_ble_eq_true rfl)) dX12_letters_31 ⟨Nat.le_of_ble_eq_true rfl, Nat.le_of_ble_eq_true rfl⟩) hS (fun q _ h => hFc q h) hFc (fun r_4 u_5 t H locs ht hvm hw hB hz hk hS => ?_)
  obtain ⟨hP1, hK1, hD1⟩ := hB
  rw [ht] at hP1
  obtain ⟨hP, hD⟩ := va_join (wr := []) (w1 := [(mo, .inr (15, [.int u_5, .ref (lm 0), .ref (lm 1), .ref (lm 2), .ref (lm 3), .ref (lm 4), .int 0, .int 0])), ((lm 0), .inr (2, [.int 0, .ref e0, .int 0])), ((lm 1), .inr (2, [.int 0, .ref e0, .int 0])), ((lm 2), .inr (2, [.int 0, .ref e0, .int 0])), ((lm 3), .inr (2, [.int 0, .ref e0, .int 0])), ((lm 4), .inr (2, [.int 0, .ref e0, .int 0]))]) hP hD [0, 1, 2, 5, 3, 4] [] rfl rfl (by decide) (by decide) hk hFc hP1 hD1
  have hP : va_P (dC, dI) vwCl [(mo, .inr (15, [.int u_5, .ref (lm 0), .ref (lm 1), .ref (lm 2), .ref (lm 3), .ref (lm 4), .int 0, .int 0])), ((lm 0), .inr (2, [.int 0, .ref e0, .int 0])), ((lm 1), .inr (2, [.int 0, .ref e0, .int 0])), ((lm 2), .inr (2, [.int 0, .ref e0, .int 0])), ((lm 3), .inr (2, [.int 0, .ref e0, .int 0])), ((lm 4), .inr (2, [.int 0, .ref e0, .int 0]))] H := hP
  have hD : va_D A [(mo, .inr (15, [.int u_5, .ref (lm 0), .ref (lm 1), .ref (lm 2), .ref (lm 3), .ref (lm 4), .int 0, .int 0])), ((lm 0), .inr (2, [.int 0, .ref e0, .int 0])), ((lm 1), .inr (2, [.int 0, .ref e0, .int 0])), ((lm 2), .inr (2, [.int 0, .ref e0, .int 0])), ((lm 3), .inr (2, [.int 0, .ref e0, .int 0])), ((lm 4), .inr (2, [.int 0, .ref e0, .int 0]))] := hD
  have hw : r_4 = 1 ∧ u_5 = 1 := hw
  obtain ⟨rfl, rfl⟩ : r_4 = 1 ∧ u_5 = 1 := hw
  refine lv_if_eq (tgt := 39) hx hb dX12_letters_34 (by decide) (fun c_6 => absurd c_6 (by decide)) (fun _ => ?_)
  refine lv_iconst (v := 0) hx hb dX12_letters_37 (by decide) ?_
  have hP9 := hP.sub (ws' := [(mo, .inr (15, [.int 1, .ref (lm 0), .ref (lm 1), .ref (lm 2), .ref (lm 3), .ref (lm 4), .int 0, .int 0])), ((lm 0), .inr (2, [.int 0, .ref e0, .int 0])), ((lm 1), .inr (2, [.int 0, .ref e0, .int 0])), ((lm 2), .inr (2, [.int 0, .ref e0, .int 0])), ((lm 3), .inr (2, [.int 0, .ref e0, .int 0])), ((lm 4), .inr (2, [.int 0, .ref e0, .int 0]))]) [0, 1, 2, 3, 4, 5] rfl
  have hD9 := hD.sub (ws' := [(mo, .inr (15, [.int 1, .ref (lm 0), .ref (lm 1), .ref (lm 2), .ref (lm 3), .ref (lm 4), .int 0, .int 0])), ((lm 0), .inr (2, [.int 0, .ref e0, .int 0])), ((lm 1), .inr (2, [.int 0, .ref e0, .int 0])), ((lm 2), .inr (2, [.int 0, .ref e0, .int 0])), ((lm 3), .inr (2, [.int 0, .ref e0, .int 0])), ((lm 4), .inr (2, [.int 0, .ref e0, .int 0]))]) [0, 1, 2, 3, 4, 5] (by decide) rfl
  have hK9 := hK.sub (tys' := []) [] rfl
  refine W.widen (k := 0) (n := 0) (Nat.le_of_ble_eq_true rfl) (Nat.le_of_ble_eq_true rfl) ?_
  exact W.iret (v := 0) hx hb hr (fun t ht hW => ⟨⟨0, 1, rfl, ⟨rfl, rfl⟩, by rw [ht]; exact hP9, va_K.moved hW.alike hK9, hD9⟩, hS.F ht⟩) hS.2.2 dX12_letters_38

def zwX12_standIn : List Cond := .code yX12_standIn cX12_standIn 4 (some .int) :: (([.fieldLink RX12 22 "SpotbeatModel" "robots" "Ljava/util/List;", .methodLink RX12 46 yX12_isOf, .static yX12_isOf, .initialized RX12, .methodLink RX12 50 yX12_isWrong, .instanceMethod yX12_isWrong, .selects RX12 yX12_isWrong yX12_isWrong] : List Cond) ++ (wsX120 ++ (zwX12_isOf ++ (zwX12_isWrong_1))))
theorem zgX12_standIn : zwX12_standIn.all goodWord = true := zgo rfl (zga (by decide +kernel) (zga zgcX12 (zga zgX12_isOf (zgX12_isWrong_1))))
set_option maxHeartbeats 4000000 in
set_option maxRecDepth 100000 in
theorem c_X12_standIn (l : Launch) (dC : Nat → ClassId) (dI : Nat → Nat → Nat) (sz : Nat) (mo : Nat) (lm : Nat → Nat) (e0 : Nat) (th : Int32) (a : Int32) (b : Int32) : Met l yX12_standIn zwX12_standIn ({ frames := 2, cells := 0, slots := 0, locals := 43 }) (gPcE dC dI sz [(mo, .inr (15, [.int th, .ref (lm 0), .ref (lm 1), .ref (lm 2), .ref (lm 3), .ref (lm 4), .int 0, .int 0])), ((lm 0), .inr (2, [.int 0, .ref e0, .int 0])), ((lm 1), .inr (2, [.int 0, .ref e0, .int 0])), ((lm 2), .inr (2, [.int 0, .ref e0, .int 0])), ((lm 3), .inr (2, [.int 0, .ref e0, .int 0])), ((lm 4), .inr (2, [.int 0, .ref e0, .int 0]))] [] [.ref mo, .int a, .int b]) (va_Qi (fun (r : Int32) (u : Int32) => r = 0 ∧ u = 1) (fun u t => va_P (dC, dI) vwCl [(mo, .inr (15, [.int u, .ref (lm 0), .ref (lm 1), .ref (lm 2), .ref (lm 3), .ref (lm 4), .int 0, .int 0])), ((lm 0), .inr (2, [.int 0, .ref e0, .int 0])), ((lm 1), .inr (2, [.int 0, .ref e0, .int 0])), ((lm 2), .inr (2, [.int 0, .ref e0, .int 0])), ((lm 3), .inr (2, [.int 0, .ref e0, .int 0])), ((lm 4), .inr (2, [.int 0, .ref e0, .int 0]))] t.heap ∧ va_K (dC, dI) vwCl [] t ∧ va_D (va_A [(mo, .inr (15, [.int th, .ref (lm 0), .ref (lm 1), .ref (lm 2), .ref (lm 3), .ref (lm 4), .int 0, .int 0])), ((lm 0), .inr (2, [.int 0, .ref e0, .int 0])), ((lm 1), .inr (2, [.int 0, .ref e0, .int 0])), ((lm 2), .inr (2, [.int 0, .ref e0, .int 0])), ((lm 3), .inr (2, [.int 0, .ref e0, .int 0])), ((lm 4), .inr (2, [.int 0, .ref e0, .int 0]))] sz) [(mo, .inr (15, [.int u, .ref (lm 0), .ref (lm 1), .ref (lm 2), .ref (lm 3), .ref (lm 4), .int 0, .int 0])), ((lm 0), .inr (2, [.int 0, .ref e0, .int 0])), ((lm 1), .inr (2, [.int 0, .ref e0, .int 0])), ((lm 2), .inr (2, [.int 0, .ref e0, .int 0])), ((lm 3), .inr (2, [.int 0, .ref e0, .int 0])), ((lm 4), .inr (2, [.int 0, .ref e0, .int 0]))]) (va_A [(mo, .inr (15, [.int th, .ref (lm 0), .ref (lm 1), .ref (lm 2), .ref (lm 3), .ref (lm 4), .int 0, .int 0])), ((lm 0), .inr (2, [.int 0, .ref e0, .int 0])), ((lm 1), .inr (2, [.int 0, .ref e0, .int 0])), ((lm 2), .inr (2, [.int 0, .ref e0, .int 0])), ((lm 3), .inr (2, [.int 0, .ref e0, .int 0])), ((lm 4), .inr (2, [.int 0, .ref e0, .int 0]))] sz)) 0 0 (va_A [(mo, .inr (15, [.int th, .ref (lm 0), .ref (lm 1), .ref (lm 2), .ref (lm 3), .ref (lm 4), .int 0, .int 0])), ((lm 0), .inr (2, [.int 0, .ref e0, .int 0])), ((lm 1), .inr (2, [.int 0, .ref e0, .int 0])), ((lm 2), .inr (2, [.int 0, .ref e0, .int 0])), ((lm 3), .inr (2, [.int 0, .ref e0, .int 0])), ((lm 4), .inr (2, [.int 0, .ref e0, .int 0]))] sz) := by
  refine Met.ofW (cc := cX12_standIn) (maxL := 4) (ret := (some .int)) (by decide) rfl ?_
  intro p e s m args below meth c s₁ B hml hv
  obtain ⟨rfl, hsz, hP, hK, hD0, hE⟩ := hv
  have hx := B.exec
  have hb := B.bytes
  have hr := B.returns
  have hts := atoms_spec (ws := zwX12_standIn) B.pre
  have hown : s.vm.findClass RX12 = some m.cls := findClass_of_methodNamed B.named
  have hlocks := B.notSynchronized
  subst hsz
  have hD := hD0.self (sz := s.heap.size)
  generalize hAe : va_A [(mo, .inr (15, [.int th, .ref (lm 0), .ref (lm 1), .ref (lm 2), .ref (lm 3), .ref (lm 4), .int 0, .int 0])), ((lm 0), .inr (2, [.int 0, .ref e0, .int 0])), ((lm 1), .inr (2, [.int 0, .ref e0, .int 0])), ((lm 2), .inr (2, [.int 0, .ref e0, .int 0])), ((lm 3), .inr (2, [.int 0, .ref e0, .int 0])), ((lm 4), .inr (2, [.int 0, .ref e0, .int 0]))] s.heap.size = A at hD hE ⊢
  have hA : ∀ q : Nat, s.heap.size ≤ q → A q := fun q h => by rw [← hAe]; exact Or.inr h
  have hS : va_S A s.heap s.heap [] := va_S.rf
  have hP : va_P (dC, dI) vwCl [(mo, .inr (15, [.int th, .ref (lm 0), .ref (lm 1), .ref (lm 2), .ref (lm 3), .ref (lm 4), .int 0, .int 0])), ((lm 0), .inr (2, [.int 0, .ref e0, .int 0])), ((lm 1), .inr (2, [.int 0, .ref e0, .int 0])), ((lm 2), .inr (2, [.int 0, .ref e0, .int 0])), ((lm 3), .inr (2, [.int 0, .ref e0, .int 0])), ((lm 4), .inr (2, [.int 0, .ref e0, .int 0]))] s.heap := hP
  have hl := lv_entry ([.ref mo, .int a, .int b]) (n := 4) (Nat.le_of_ble_eq_true rfl)
  rw [lg_entry_eq]
  generalize (lg_sl ([.ref mo, .int a, .int b]) ++ List.replicate (4 - (lg_sl ([.ref mo, .int a, .int b])).length) Slot.unset).toArray = ls at hl ⊢
  have hl : lv_has ls 4 [(0, .ref mo), (1, .int a), (2, .int b)] := hl
  refine lv_aload_n hx hb dX12_standIn_0 rfl (lv_at hl 0 rfl) ?_
  refine lv_aload_n hx hb dX12_standIn_1 rfl (lv_at hl 0 rfl) ?_
  refine va_get (D := (dC, dI)) (ci := 15) (v := .ref (lm 3)) (C := RX12) (T := TX12) (N := 8) hx hb hts (fun w h => List.mem_cons_of_mem _ (List.mem_append_right _ (List.mem_append_left _ h))) hown hK hP 0 rfl rfl 4 (by decide) (hts (.fieldLink RX12 22 "SpotbeatModel" "robots" "Ljava/util/List;") (by decide +kernel)) (fun _ h9 => h9) rfl dX12_standIn_2 ?_
  refine lv_iload_n hx hb dX12_standIn_5 rfl (lv_at hl 1 rfl) ?_
  have hPc := hP.sub (ws' := [((lm 3), .inr (2, [.int 0, .ref e0, .int 0]))]) [4] rfl
  have hDc := hD.sub (ws' := [((lm 3), .inr (2, [.int 0, .ref e0, .int 0]))]) [4] (by decide) rfl
  have hKc := hK.sub (tys' := []) [] rfl
  have hFc := va_free (wc := [((lm 3), .inr (2, [.int 0, .ref e0, .int 0]))]) hD hS hA [4] rfl
  refine va_calli (va_runS (As := [.ref (lm 3), .int a]) (rest := [.ref mo]) ⟨hx, hb, hml, hown, hts⟩ (c_X12_isOf l dC dI s.heap.size e0 (lm 3) a) (va_cwS 2 hts (goodIn_app (goodIn_of _ (by decide +kernel)) (goodIn_sub ((fun w h => List.mem_cons_of_mem _ (List.mem_append_right _ (List.mem_append_right _ (List.mem_append_left _ h))))) zgX12_isOf)) rfl rfl rfl (by decide +kernel) ⟨Nat.le_of_ble_eq_true rfl, Nat.le_of_ble_eq_true rfl⟩) ⟨gPcE_blind, gPcE_pass hPc hKc hDc hE hS hFc⟩ rfl rfl hl.1 rfl (lv_room (Nat.le_of_ble_eq_true rfl)) dX12_standIn_6 ⟨Nat.le_of_ble_eq_true rfl, Nat.le_of_ble_eq_true rfl⟩) hS (fun q _ h => hFc q h) hFc (fun r_1 u_2 t H locs ht hvm hw hB hz hk hS => ?_)
  obtain ⟨hP1, hK1, hD1⟩ := hB
  rw [ht] at hP1
  obtain ⟨hP, hD⟩ := va_join (wr := [(mo, .inr (15, [.int th, .ref (lm 0), .ref (lm 1), .ref (lm 2), .ref (lm 3), .ref (lm 4), .int 0, .int 0])), ((lm 0), .inr (2, [.int 0, .ref e0, .int 0])), ((lm 1), .inr (2, [.int 0, .ref e0, .int 0])), ((lm 2), .inr (2, [.int 0, .ref e0, .int 0])), ((lm 4), .inr (2, [.int 0, .ref e0, .int 0]))]) (w1 := [((lm 3), .inr (2, [.int 0, .ref e0, .int 0]))]) hP hD [4] [0, 1, 2, 3, 5] rfl rfl (by decide) (by decide) hk hFc hP1 hD1
  have hP : va_P (dC, dI) vwCl [(mo, .inr (15, [.int th, .ref (lm 0), .ref (lm 1), .ref (lm 2), .ref (lm 3), .ref (lm 4), .int 0, .int 0])), ((lm 0), .inr (2, [.int 0, .ref e0, .int 0])), ((lm 1), .inr (2, [.int 0, .ref e0, .int 0])), ((lm 2), .inr (2, [.int 0, .ref e0, .int 0])), ((lm 4), .inr (2, [.int 0, .ref e0, .int 0])), ((lm 3), .inr (2, [.int 0, .ref e0, .int 0]))] H := hP
  have hD : va_D A [(mo, .inr (15, [.int th, .ref (lm 0), .ref (lm 1), .ref (lm 2), .ref (lm 3), .ref (lm 4), .int 0, .int 0])), ((lm 0), .inr (2, [.int 0, .ref e0, .int 0])), ((lm 1), .inr (2, [.int 0, .ref e0, .int 0])), ((lm 2), .inr (2, [.int 0, .ref e0, .int 0])), ((lm 4), .inr (2, [.int 0, .ref e0, .int 0])), ((lm 3), .inr (2, [.int 0, .ref e0, .int 0]))] := hD
  have hw : r_1 = 0 := hw
  subst hw
  refine lv_if_eq (tgt := 28) hx hb dX12_standIn_9 (by decide) (fun _ => ?_) (fun c_3 => absurd c_3 (by decide))
  refine lv_iconst (v := 1) hx hb dX12_standIn_28 (by decide) ?_
  refine lv_goto (tgt := 42) hx hb dX12_standIn_29 (by decide) ?_
  have hPc := hP.sub (ws' := [(mo, .inr (15, [.int th, .ref (lm 0), .ref (lm 1), .ref (lm 2), .ref (lm 3), .ref (lm 4), .int 0, .int 0])), ((lm 0), .inr (2, [.int 0, .ref e0, .int 0])), ((lm 1), .inr (2, [.int 0, .ref e0, .int 0])), ((lm 2), .inr (2, [.int 0, .ref e0, .int 0])), ((lm 3), .inr (2, [.int 0, .ref e0, .int 0])), ((lm 4), .inr (2, [.int 0, .ref e0, .int 0]))]) [0, 1, 2, 3, 5, 4] rfl
  have hDc := hD.sub (ws' := [(mo, .inr (15, [.int th, .ref (lm 0), .ref (lm 1), .ref (lm 2), .ref (lm 3), .ref (lm 4), .int 0, .int 0])), ((lm 0), .inr (2, [.int 0, .ref e0, .int 0])), ((lm 1), .inr (2, [.int 0, .ref e0, .int 0])), ((lm 2), .inr (2, [.int 0, .ref e0, .int 0])), ((lm 3), .inr (2, [.int 0, .ref e0, .int 0])), ((lm 4), .inr (2, [.int 0, .ref e0, .int 0]))]) [0, 1, 2, 3, 5, 4] (by decide) rfl
  have hKc := hK.sub (tys' := []) [] rfl
  have hFc := va_free (wc := [(mo, .inr (15, [.int th, .ref (lm 0), .ref (lm 1), .ref (lm 2), .ref (lm 3), .ref (lm 4), .int 0, .int 0])), ((lm 0), .inr (2, [.int 0, .ref e0, .int 0])), ((lm 1), .inr (2, [.int 0, .ref e0, .int 0])), ((lm 2), .inr (2, [.int 0, .ref e0, .int 0])), ((lm 3), .inr (2, [.int 0, .ref e0, .int 0])), ((lm 4), .inr (2, [.int 0, .ref e0, .int 0]))]) hD hS hA [0, 1, 2, 3, 5, 4] rfl
  refine va_calli (va_runV (As := [.int 1]) (rest := []) ⟨hx, hb, hml, hown, hts⟩ (c_X12_isWrong_1 l dC dI H.size mo lm e0 th) (cwV 1 hts (goodIn_app (goodIn_of _ (by decide +kernel)) (goodIn_sub ((fun w h => List.mem_cons_of_mem _ (List.mem_append_right _ (List.mem_append_right _ (List.mem_append_right _ (h)))))) zgX12_isWrong_1)) rfl rfl rfl (by decide +kernel) ⟨Nat.le_of_ble_eq_true rfl, Nat.le_of_ble_eq_true rfl⟩) ⟨gPcE_blind, va_recv hK hP (ci := 15) (q0 := 0) rfl rfl, gPcE_pass hPc hKc hDc hE hS hFc⟩ rfl rfl hl.1 rfl (lv_room (Nat.le_of_ble_eq_true rfl)) dX12_standIn_42 ⟨Nat.le_of_ble_eq_true rfl, Nat.le_of_ble_eq_true rfl⟩) hS (fun q _ h => hFc q h) hFc (fun r_4 u_5 t H locs ht hvm hw hB hz hk hS => ?_)
  obtain ⟨hP1, hK1, hD1⟩ := hB
  rw [ht] at hP1
  obtain ⟨hP, hD⟩ := va_join (wr := []) (w1 := [(mo, .inr (15, [.int u_5, .ref (lm 0), .ref (lm 1), .ref (lm 2), .ref (lm 3), .ref (lm 4), .int 0, .int 0])), ((lm 0), .inr (2, [.int 0, .ref e0, .int 0])), ((lm 1), .inr (2, [.int 0, .ref e0, .int 0])), ((lm 2), .inr (2, [.int 0, .ref e0, .int 0])), ((lm 3), .inr (2, [.int 0, .ref e0, .int 0])), ((lm 4), .inr (2, [.int 0, .ref e0, .int 0]))]) hP hD [0, 1, 2, 3, 5, 4] [] rfl rfl (by decide) (by decide) hk hFc hP1 hD1
  have hP : va_P (dC, dI) vwCl [(mo, .inr (15, [.int u_5, .ref (lm 0), .ref (lm 1), .ref (lm 2), .ref (lm 3), .ref (lm 4), .int 0, .int 0])), ((lm 0), .inr (2, [.int 0, .ref e0, .int 0])), ((lm 1), .inr (2, [.int 0, .ref e0, .int 0])), ((lm 2), .inr (2, [.int 0, .ref e0, .int 0])), ((lm 3), .inr (2, [.int 0, .ref e0, .int 0])), ((lm 4), .inr (2, [.int 0, .ref e0, .int 0]))] H := hP
  have hD : va_D A [(mo, .inr (15, [.int u_5, .ref (lm 0), .ref (lm 1), .ref (lm 2), .ref (lm 3), .ref (lm 4), .int 0, .int 0])), ((lm 0), .inr (2, [.int 0, .ref e0, .int 0])), ((lm 1), .inr (2, [.int 0, .ref e0, .int 0])), ((lm 2), .inr (2, [.int 0, .ref e0, .int 0])), ((lm 3), .inr (2, [.int 0, .ref e0, .int 0])), ((lm 4), .inr (2, [.int 0, .ref e0, .int 0]))] := hD
  have hw : r_4 = 1 ∧ u_5 = 1 := hw
  obtain ⟨rfl, rfl⟩ : r_4 = 1 ∧ u_5 = 1 := hw
  refine lv_if_eq (tgt := 50) hx hb dX12_standIn_45 (by decide) (fun c_6 => absurd c_6 (by decide)) (fun _ => ?_)
  refine lv_iconst (v := 0) hx hb dX12_standIn_48 (by decide) ?_
  have hP9 := hP.sub (ws' := [(mo, .inr (15, [.int 1, .ref (lm 0), .ref (lm 1), .ref (lm 2), .ref (lm 3), .ref (lm 4), .int 0, .int 0])), ((lm 0), .inr (2, [.int 0, .ref e0, .int 0])), ((lm 1), .inr (2, [.int 0, .ref e0, .int 0])), ((lm 2), .inr (2, [.int 0, .ref e0, .int 0])), ((lm 3), .inr (2, [.int 0, .ref e0, .int 0])), ((lm 4), .inr (2, [.int 0, .ref e0, .int 0]))]) [0, 1, 2, 3, 4, 5] rfl
  have hD9 := hD.sub (ws' := [(mo, .inr (15, [.int 1, .ref (lm 0), .ref (lm 1), .ref (lm 2), .ref (lm 3), .ref (lm 4), .int 0, .int 0])), ((lm 0), .inr (2, [.int 0, .ref e0, .int 0])), ((lm 1), .inr (2, [.int 0, .ref e0, .int 0])), ((lm 2), .inr (2, [.int 0, .ref e0, .int 0])), ((lm 3), .inr (2, [.int 0, .ref e0, .int 0])), ((lm 4), .inr (2, [.int 0, .ref e0, .int 0]))]) [0, 1, 2, 3, 4, 5] (by decide) rfl
  have hK9 := hK.sub (tys' := []) [] rfl
  refine W.widen (k := 0) (n := 0) (Nat.le_of_ble_eq_true rfl) (Nat.le_of_ble_eq_true rfl) ?_
  exact W.iret (v := 0) hx hb hr (fun t ht hW => ⟨⟨0, 1, rfl, ⟨rfl, rfl⟩, by rw [ht]; exact hP9, va_K.moved hW.alike hK9, hD9⟩, hS.F ht⟩) hS.2.2 dX12_standIn_49

def zwX12_dress : List Cond := .code yX12_dress cX12_dress 2 (some .int) :: (([.fieldLink RX12 22 "SpotbeatModel" "robots" "Ljava/util/List;", .methodLink RX12 46 yX12_isOf, .static yX12_isOf, .initialized RX12, .methodLink RX12 50 yX12_isWrong, .instanceMethod yX12_isWrong, .selects RX12 yX12_isWrong yX12_isWrong] : List Cond) ++ (wsX120 ++ (zwX12_isOf ++ (zwX12_isWrong_1))))
theorem zgX12_dress : zwX12_dress.all goodWord = true := zgo rfl (zga (by decide +kernel) (zga zgcX12 (zga zgX12_isOf (zgX12_isWrong_1))))
set_option maxHeartbeats 4000000 in
set_option maxRecDepth 100000 in
theorem c_X12_dress (l : Launch) (dC : Nat → ClassId) (dI : Nat → Nat → Nat) (sz : Nat) (mo : Nat) (lm : Nat → Nat) (e0 : Nat) (th : Int32) (a : Int32) : Met l yX12_dress zwX12_dress ({ frames := 2, cells := 0, slots := 0, locals := 43 }) (gPcE dC dI sz [(mo, .inr (15, [.int th, .ref (lm 0), .ref (lm 1), .ref (lm 2), .ref (lm 3), .ref (lm 4), .int 0, .int 0])), ((lm 0), .inr (2, [.int 0, .ref e0, .int 0])), ((lm 1), .inr (2, [.int 0, .ref e0, .int 0])), ((lm 2), .inr (2, [.int 0, .ref e0, .int 0])), ((lm 3), .inr (2, [.int 0, .ref e0, .int 0])), ((lm 4), .inr (2, [.int 0, .ref e0, .int 0]))] [] [.ref mo, .int a]) (va_Qi (fun (r : Int32) (u : Int32) => r = 0 ∧ u = 1) (fun u t => va_P (dC, dI) vwCl [(mo, .inr (15, [.int u, .ref (lm 0), .ref (lm 1), .ref (lm 2), .ref (lm 3), .ref (lm 4), .int 0, .int 0])), ((lm 0), .inr (2, [.int 0, .ref e0, .int 0])), ((lm 1), .inr (2, [.int 0, .ref e0, .int 0])), ((lm 2), .inr (2, [.int 0, .ref e0, .int 0])), ((lm 3), .inr (2, [.int 0, .ref e0, .int 0])), ((lm 4), .inr (2, [.int 0, .ref e0, .int 0]))] t.heap ∧ va_K (dC, dI) vwCl [] t ∧ va_D (va_A [(mo, .inr (15, [.int th, .ref (lm 0), .ref (lm 1), .ref (lm 2), .ref (lm 3), .ref (lm 4), .int 0, .int 0])), ((lm 0), .inr (2, [.int 0, .ref e0, .int 0])), ((lm 1), .inr (2, [.int 0, .ref e0, .int 0])), ((lm 2), .inr (2, [.int 0, .ref e0, .int 0])), ((lm 3), .inr (2, [.int 0, .ref e0, .int 0])), ((lm 4), .inr (2, [.int 0, .ref e0, .int 0]))] sz) [(mo, .inr (15, [.int u, .ref (lm 0), .ref (lm 1), .ref (lm 2), .ref (lm 3), .ref (lm 4), .int 0, .int 0])), ((lm 0), .inr (2, [.int 0, .ref e0, .int 0])), ((lm 1), .inr (2, [.int 0, .ref e0, .int 0])), ((lm 2), .inr (2, [.int 0, .ref e0, .int 0])), ((lm 3), .inr (2, [.int 0, .ref e0, .int 0])), ((lm 4), .inr (2, [.int 0, .ref e0, .int 0]))]) (va_A [(mo, .inr (15, [.int th, .ref (lm 0), .ref (lm 1), .ref (lm 2), .ref (lm 3), .ref (lm 4), .int 0, .int 0])), ((lm 0), .inr (2, [.int 0, .ref e0, .int 0])), ((lm 1), .inr (2, [.int 0, .ref e0, .int 0])), ((lm 2), .inr (2, [.int 0, .ref e0, .int 0])), ((lm 3), .inr (2, [.int 0, .ref e0, .int 0])), ((lm 4), .inr (2, [.int 0, .ref e0, .int 0]))] sz)) 0 0 (va_A [(mo, .inr (15, [.int th, .ref (lm 0), .ref (lm 1), .ref (lm 2), .ref (lm 3), .ref (lm 4), .int 0, .int 0])), ((lm 0), .inr (2, [.int 0, .ref e0, .int 0])), ((lm 1), .inr (2, [.int 0, .ref e0, .int 0])), ((lm 2), .inr (2, [.int 0, .ref e0, .int 0])), ((lm 3), .inr (2, [.int 0, .ref e0, .int 0])), ((lm 4), .inr (2, [.int 0, .ref e0, .int 0]))] sz) := by
  refine Met.ofW (cc := cX12_dress) (maxL := 2) (ret := (some .int)) (by decide) rfl ?_
  intro p e s m args below meth c s₁ B hml hv
  obtain ⟨rfl, hsz, hP, hK, hD0, hE⟩ := hv
  have hx := B.exec
  have hb := B.bytes
  have hr := B.returns
  have hts := atoms_spec (ws := zwX12_dress) B.pre
  have hown : s.vm.findClass RX12 = some m.cls := findClass_of_methodNamed B.named
  have hlocks := B.notSynchronized
  subst hsz
  have hD := hD0.self (sz := s.heap.size)
  generalize hAe : va_A [(mo, .inr (15, [.int th, .ref (lm 0), .ref (lm 1), .ref (lm 2), .ref (lm 3), .ref (lm 4), .int 0, .int 0])), ((lm 0), .inr (2, [.int 0, .ref e0, .int 0])), ((lm 1), .inr (2, [.int 0, .ref e0, .int 0])), ((lm 2), .inr (2, [.int 0, .ref e0, .int 0])), ((lm 3), .inr (2, [.int 0, .ref e0, .int 0])), ((lm 4), .inr (2, [.int 0, .ref e0, .int 0]))] s.heap.size = A at hD hE ⊢
  have hA : ∀ q : Nat, s.heap.size ≤ q → A q := fun q h => by rw [← hAe]; exact Or.inr h
  have hS : va_S A s.heap s.heap [] := va_S.rf
  have hP : va_P (dC, dI) vwCl [(mo, .inr (15, [.int th, .ref (lm 0), .ref (lm 1), .ref (lm 2), .ref (lm 3), .ref (lm 4), .int 0, .int 0])), ((lm 0), .inr (2, [.int 0, .ref e0, .int 0])), ((lm 1), .inr (2, [.int 0, .ref e0, .int 0])), ((lm 2), .inr (2, [.int 0, .ref e0, .int 0])), ((lm 3), .inr (2, [.int 0, .ref e0, .int 0])), ((lm 4), .inr (2, [.int 0, .ref e0, .int 0]))] s.heap := hP
  have hl := lv_entry ([.ref mo, .int a]) (n := 2) (Nat.le_of_ble_eq_true rfl)
  rw [lg_entry_eq]
  generalize (lg_sl ([.ref mo, .int a]) ++ List.replicate (2 - (lg_sl ([.ref mo, .int a])).length) Slot.unset).toArray = ls at hl ⊢
  have hl : lv_has ls 2 [(0, .ref mo), (1, .int a)] := hl
  refine lv_aload_n hx hb dX12_dress_0 rfl (lv_at hl 0 rfl) ?_
  refine lv_aload_n hx hb dX12_dress_1 rfl (lv_at hl 0 rfl) ?_
  refine va_get (D := (dC, dI)) (ci := 15) (v := .ref (lm 3)) (C := RX12) (T := TX12) (N := 8) hx hb hts (fun w h => List.mem_cons_of_mem _ (List.mem_append_right _ (List.mem_append_left _ h))) hown hK hP 0 rfl rfl 4 (by decide) (hts (.fieldLink RX12 22 "SpotbeatModel" "robots" "Ljava/util/List;") (by decide +kernel)) (fun _ h9 => h9) rfl dX12_dress_2 ?_
  refine lv_iload_n hx hb dX12_dress_5 rfl (lv_at hl 1 rfl) ?_
  have hPc := hP.sub (ws' := [((lm 3), .inr (2, [.int 0, .ref e0, .int 0]))]) [4] rfl
  have hDc := hD.sub (ws' := [((lm 3), .inr (2, [.int 0, .ref e0, .int 0]))]) [4] (by decide) rfl
  have hKc := hK.sub (tys' := []) [] rfl
  have hFc := va_free (wc := [((lm 3), .inr (2, [.int 0, .ref e0, .int 0]))]) hD hS hA [4] rfl
  refine va_calli (va_runS (As := [.ref (lm 3), .int a]) (rest := [.ref mo]) ⟨hx, hb, hml, hown, hts⟩ (c_X12_isOf l dC dI s.heap.size e0 (lm 3) a) (va_cwS 2 hts (goodIn_app (goodIn_of _ (by decide +kernel)) (goodIn_sub ((fun w h => List.mem_cons_of_mem _ (List.mem_append_right _ (List.mem_append_right _ (List.mem_append_left _ h))))) zgX12_isOf)) rfl rfl rfl (by decide +kernel) ⟨Nat.le_of_ble_eq_true rfl, Nat.le_of_ble_eq_true rfl⟩) ⟨gPcE_blind, gPcE_pass hPc hKc hDc hE hS hFc⟩ rfl rfl hl.1 rfl (lv_room (Nat.le_of_ble_eq_true rfl)) dX12_dress_6 ⟨Nat.le_of_ble_eq_true rfl, Nat.le_of_ble_eq_true rfl⟩) hS (fun q _ h => hFc q h) hFc (fun r_1 u_2 t H locs ht hvm hw hB hz hk hS => ?_)
  obtain ⟨hP1, hK1, hD1⟩ := hB
  rw [ht] at hP1
  obtain ⟨hP, hD⟩ := va_join (wr := [(mo, .inr (15, [.int th, .ref (lm 0), .ref (lm 1), .ref (lm 2), .ref (lm 3), .ref (lm 4), .int 0, .int 0])), ((lm 0), .inr (2, [.int 0, .ref e0, .int 0])), ((lm 1), .inr (2, [.int 0, .ref e0, .int 0])), ((lm 2), .inr (2, [.int 0, .ref e0, .int 0])), ((lm 4), .inr (2, [.int 0, .ref e0, .int 0]))]) (w1 := [((lm 3), .inr (2, [.int 0, .ref e0, .int 0]))]) hP hD [4] [0, 1, 2, 3, 5] rfl rfl (by decide) (by decide) hk hFc hP1 hD1
  have hP : va_P (dC, dI) vwCl [(mo, .inr (15, [.int th, .ref (lm 0), .ref (lm 1), .ref (lm 2), .ref (lm 3), .ref (lm 4), .int 0, .int 0])), ((lm 0), .inr (2, [.int 0, .ref e0, .int 0])), ((lm 1), .inr (2, [.int 0, .ref e0, .int 0])), ((lm 2), .inr (2, [.int 0, .ref e0, .int 0])), ((lm 4), .inr (2, [.int 0, .ref e0, .int 0])), ((lm 3), .inr (2, [.int 0, .ref e0, .int 0]))] H := hP
  have hD : va_D A [(mo, .inr (15, [.int th, .ref (lm 0), .ref (lm 1), .ref (lm 2), .ref (lm 3), .ref (lm 4), .int 0, .int 0])), ((lm 0), .inr (2, [.int 0, .ref e0, .int 0])), ((lm 1), .inr (2, [.int 0, .ref e0, .int 0])), ((lm 2), .inr (2, [.int 0, .ref e0, .int 0])), ((lm 4), .inr (2, [.int 0, .ref e0, .int 0])), ((lm 3), .inr (2, [.int 0, .ref e0, .int 0]))] := hD
  have hw : r_1 = 0 := hw
  subst hw
  refine lv_if_ne (tgt := 16) hx hb dX12_dress_9 (by decide) (fun c_3 => absurd c_3 (by decide)) (fun _ => ?_)
  refine lv_iconst (v := 1) hx hb dX12_dress_12 (by decide) ?_
  refine lv_goto (tgt := 41) hx hb dX12_dress_13 (by decide) ?_
  have hPc := hP.sub (ws' := [(mo, .inr (15, [.int th, .ref (lm 0), .ref (lm 1), .ref (lm 2), .ref (lm 3), .ref (lm 4), .int 0, .int 0])), ((lm 0), .inr (2, [.int 0, .ref e0, .int 0])), ((lm 1), .inr (2, [.int 0, .ref e0, .int 0])), ((lm 2), .inr (2, [.int 0, .ref e0, .int 0])), ((lm 3), .inr (2, [.int 0, .ref e0, .int 0])), ((lm 4), .inr (2, [.int 0, .ref e0, .int 0]))]) [0, 1, 2, 3, 5, 4] rfl
  have hDc := hD.sub (ws' := [(mo, .inr (15, [.int th, .ref (lm 0), .ref (lm 1), .ref (lm 2), .ref (lm 3), .ref (lm 4), .int 0, .int 0])), ((lm 0), .inr (2, [.int 0, .ref e0, .int 0])), ((lm 1), .inr (2, [.int 0, .ref e0, .int 0])), ((lm 2), .inr (2, [.int 0, .ref e0, .int 0])), ((lm 3), .inr (2, [.int 0, .ref e0, .int 0])), ((lm 4), .inr (2, [.int 0, .ref e0, .int 0]))]) [0, 1, 2, 3, 5, 4] (by decide) rfl
  have hKc := hK.sub (tys' := []) [] rfl
  have hFc := va_free (wc := [(mo, .inr (15, [.int th, .ref (lm 0), .ref (lm 1), .ref (lm 2), .ref (lm 3), .ref (lm 4), .int 0, .int 0])), ((lm 0), .inr (2, [.int 0, .ref e0, .int 0])), ((lm 1), .inr (2, [.int 0, .ref e0, .int 0])), ((lm 2), .inr (2, [.int 0, .ref e0, .int 0])), ((lm 3), .inr (2, [.int 0, .ref e0, .int 0])), ((lm 4), .inr (2, [.int 0, .ref e0, .int 0]))]) hD hS hA [0, 1, 2, 3, 5, 4] rfl
  refine va_calli (va_runV (As := [.int 1]) (rest := []) ⟨hx, hb, hml, hown, hts⟩ (c_X12_isWrong_1 l dC dI H.size mo lm e0 th) (cwV 1 hts (goodIn_app (goodIn_of _ (by decide +kernel)) (goodIn_sub ((fun w h => List.mem_cons_of_mem _ (List.mem_append_right _ (List.mem_append_right _ (List.mem_append_right _ (h)))))) zgX12_isWrong_1)) rfl rfl rfl (by decide +kernel) ⟨Nat.le_of_ble_eq_true rfl, Nat.le_of_ble_eq_true rfl⟩) ⟨gPcE_blind, va_recv hK hP (ci := 15) (q0 := 0) rfl rfl, gPcE_pass hPc hKc hDc hE hS hFc⟩ rfl rfl hl.1 rfl (lv_room (Nat.le_of_ble_eq_true rfl)) dX12_dress_41 ⟨Nat.le_of_ble_eq_true rfl, Nat.le_of_ble_eq_true rfl⟩) hS (fun q _ h => hFc q h) hFc (fun r_4 u_5 t H locs ht hvm hw hB hz hk hS => ?_)
  obtain ⟨hP1, hK1, hD1⟩ := hB
  rw [ht] at hP1
  obtain ⟨hP, hD⟩ := va_join (wr := []) (w1 := [(mo, .inr (15, [.int u_5, .ref (lm 0), .ref (lm 1), .ref (lm 2), .ref (lm 3), .ref (lm 4), .int 0, .int 0])), ((lm 0), .inr (2, [.int 0, .ref e0, .int 0])), ((lm 1), .inr (2, [.int 0, .ref e0, .int 0])), ((lm 2), .inr (2, [.int 0, .ref e0, .int 0])), ((lm 3), .inr (2, [.int 0, .ref e0, .int 0])), ((lm 4), .inr (2, [.int 0, .ref e0, .int 0]))]) hP hD [0, 1, 2, 3, 5, 4] [] rfl rfl (by decide) (by decide) hk hFc hP1 hD1
  have hP : va_P (dC, dI) vwCl [(mo, .inr (15, [.int u_5, .ref (lm 0), .ref (lm 1), .ref (lm 2), .ref (lm 3), .ref (lm 4), .int 0, .int 0])), ((lm 0), .inr (2, [.int 0, .ref e0, .int 0])), ((lm 1), .inr (2, [.int 0, .ref e0, .int 0])), ((lm 2), .inr (2, [.int 0, .ref e0, .int 0])), ((lm 3), .inr (2, [.int 0, .ref e0, .int 0])), ((lm 4), .inr (2, [.int 0, .ref e0, .int 0]))] H := hP
  have hD : va_D A [(mo, .inr (15, [.int u_5, .ref (lm 0), .ref (lm 1), .ref (lm 2), .ref (lm 3), .ref (lm 4), .int 0, .int 0])), ((lm 0), .inr (2, [.int 0, .ref e0, .int 0])), ((lm 1), .inr (2, [.int 0, .ref e0, .int 0])), ((lm 2), .inr (2, [.int 0, .ref e0, .int 0])), ((lm 3), .inr (2, [.int 0, .ref e0, .int 0])), ((lm 4), .inr (2, [.int 0, .ref e0, .int 0]))] := hD
  have hw : r_4 = 1 ∧ u_5 = 1 := hw
  obtain ⟨rfl, rfl⟩ : r_4 = 1 ∧ u_5 = 1 := hw
  refine lv_if_eq (tgt := 49) hx hb dX12_dress_44 (by decide) (fun c_6 => absurd c_6 (by decide)) (fun _ => ?_)
  refine lv_iconst (v := 0) hx hb dX12_dress_47 (by decide) ?_
  have hP9 := hP.sub (ws' := [(mo, .inr (15, [.int 1, .ref (lm 0), .ref (lm 1), .ref (lm 2), .ref (lm 3), .ref (lm 4), .int 0, .int 0])), ((lm 0), .inr (2, [.int 0, .ref e0, .int 0])), ((lm 1), .inr (2, [.int 0, .ref e0, .int 0])), ((lm 2), .inr (2, [.int 0, .ref e0, .int 0])), ((lm 3), .inr (2, [.int 0, .ref e0, .int 0])), ((lm 4), .inr (2, [.int 0, .ref e0, .int 0]))]) [0, 1, 2, 3, 4, 5] rfl
  have hD9 := hD.sub (ws' := [(mo, .inr (15, [.int 1, .ref (lm 0), .ref (lm 1), .ref (lm 2), .ref (lm 3), .ref (lm 4), .int 0, .int 0])), ((lm 0), .inr (2, [.int 0, .ref e0, .int 0])), ((lm 1), .inr (2, [.int 0, .ref e0, .int 0])), ((lm 2), .inr (2, [.int 0, .ref e0, .int 0])), ((lm 3), .inr (2, [.int 0, .ref e0, .int 0])), ((lm 4), .inr (2, [.int 0, .ref e0, .int 0]))]) [0, 1, 2, 3, 4, 5] (by decide) rfl
  have hK9 := hK.sub (tys' := []) [] rfl
  refine W.widen (k := 0) (n := 0) (Nat.le_of_ble_eq_true rfl) (Nat.le_of_ble_eq_true rfl) ?_
  exact W.iret (v := 0) hx hb hr (fun t ht hW => ⟨⟨0, 1, rfl, ⟨rfl, rfl⟩, by rw [ht]; exact hP9, va_K.moved hW.alike hK9, hD9⟩, hS.F ht⟩) hS.2.2 dX12_dress_48

def zwX12_offset : List Cond := .code yX12_offset cX12_offset 4 (some .int) :: (([.fieldLink RX12 19 "SpotbeatModel" "stations" "Ljava/util/List;", .methodLink RX12 46 yX12_isOf, .static yX12_isOf, .initialized RX12, .methodLink RX12 50 yX12_isWrong, .instanceMethod yX12_isWrong, .selects RX12 yX12_isWrong yX12_isWrong] : List Cond) ++ (wsX120 ++ (zwX12_isOf ++ (zwX12_isWrong_1))))
theorem zgX12_offset : zwX12_offset.all goodWord = true := zgo rfl (zga (by decide +kernel) (zga zgcX12 (zga zgX12_isOf (zgX12_isWrong_1))))
set_option maxHeartbeats 4000000 in
set_option maxRecDepth 100000 in
theorem c_X12_offset (l : Launch) (dC : Nat → ClassId) (dI : Nat → Nat → Nat) (sz : Nat) (mo : Nat) (lm : Nat → Nat) (e0 : Nat) (th : Int32) (a : Int32) (b : Int32) : Met l yX12_offset zwX12_offset ({ frames := 2, cells := 0, slots := 0, locals := 43 }) (gPcE dC dI sz [(mo, .inr (15, [.int th, .ref (lm 0), .ref (lm 1), .ref (lm 2), .ref (lm 3), .ref (lm 4), .int 0, .int 0])), ((lm 0), .inr (2, [.int 0, .ref e0, .int 0])), ((lm 1), .inr (2, [.int 0, .ref e0, .int 0])), ((lm 2), .inr (2, [.int 0, .ref e0, .int 0])), ((lm 3), .inr (2, [.int 0, .ref e0, .int 0])), ((lm 4), .inr (2, [.int 0, .ref e0, .int 0]))] [] [.ref mo, .int a, .int b]) (va_Qi (fun (r : Int32) (u : Int32) => r = 0 ∧ u = 1) (fun u t => va_P (dC, dI) vwCl [(mo, .inr (15, [.int u, .ref (lm 0), .ref (lm 1), .ref (lm 2), .ref (lm 3), .ref (lm 4), .int 0, .int 0])), ((lm 0), .inr (2, [.int 0, .ref e0, .int 0])), ((lm 1), .inr (2, [.int 0, .ref e0, .int 0])), ((lm 2), .inr (2, [.int 0, .ref e0, .int 0])), ((lm 3), .inr (2, [.int 0, .ref e0, .int 0])), ((lm 4), .inr (2, [.int 0, .ref e0, .int 0]))] t.heap ∧ va_K (dC, dI) vwCl [] t ∧ va_D (va_A [(mo, .inr (15, [.int th, .ref (lm 0), .ref (lm 1), .ref (lm 2), .ref (lm 3), .ref (lm 4), .int 0, .int 0])), ((lm 0), .inr (2, [.int 0, .ref e0, .int 0])), ((lm 1), .inr (2, [.int 0, .ref e0, .int 0])), ((lm 2), .inr (2, [.int 0, .ref e0, .int 0])), ((lm 3), .inr (2, [.int 0, .ref e0, .int 0])), ((lm 4), .inr (2, [.int 0, .ref e0, .int 0]))] sz) [(mo, .inr (15, [.int u, .ref (lm 0), .ref (lm 1), .ref (lm 2), .ref (lm 3), .ref (lm 4), .int 0, .int 0])), ((lm 0), .inr (2, [.int 0, .ref e0, .int 0])), ((lm 1), .inr (2, [.int 0, .ref e0, .int 0])), ((lm 2), .inr (2, [.int 0, .ref e0, .int 0])), ((lm 3), .inr (2, [.int 0, .ref e0, .int 0])), ((lm 4), .inr (2, [.int 0, .ref e0, .int 0]))]) (va_A [(mo, .inr (15, [.int th, .ref (lm 0), .ref (lm 1), .ref (lm 2), .ref (lm 3), .ref (lm 4), .int 0, .int 0])), ((lm 0), .inr (2, [.int 0, .ref e0, .int 0])), ((lm 1), .inr (2, [.int 0, .ref e0, .int 0])), ((lm 2), .inr (2, [.int 0, .ref e0, .int 0])), ((lm 3), .inr (2, [.int 0, .ref e0, .int 0])), ((lm 4), .inr (2, [.int 0, .ref e0, .int 0]))] sz)) 0 0 (va_A [(mo, .inr (15, [.int th, .ref (lm 0), .ref (lm 1), .ref (lm 2), .ref (lm 3), .ref (lm 4), .int 0, .int 0])), ((lm 0), .inr (2, [.int 0, .ref e0, .int 0])), ((lm 1), .inr (2, [.int 0, .ref e0, .int 0])), ((lm 2), .inr (2, [.int 0, .ref e0, .int 0])), ((lm 3), .inr (2, [.int 0, .ref e0, .int 0])), ((lm 4), .inr (2, [.int 0, .ref e0, .int 0]))] sz) := by
  refine Met.ofW (cc := cX12_offset) (maxL := 4) (ret := (some .int)) (by decide) rfl ?_
  intro p e s m args below meth c s₁ B hml hv
  obtain ⟨rfl, hsz, hP, hK, hD0, hE⟩ := hv
  have hx := B.exec
  have hb := B.bytes
  have hr := B.returns
  have hts := atoms_spec (ws := zwX12_offset) B.pre
  have hown : s.vm.findClass RX12 = some m.cls := findClass_of_methodNamed B.named
  have hlocks := B.notSynchronized
  subst hsz
  have hD := hD0.self (sz := s.heap.size)
  generalize hAe : va_A [(mo, .inr (15, [.int th, .ref (lm 0), .ref (lm 1), .ref (lm 2), .ref (lm 3), .ref (lm 4), .int 0, .int 0])), ((lm 0), .inr (2, [.int 0, .ref e0, .int 0])), ((lm 1), .inr (2, [.int 0, .ref e0, .int 0])), ((lm 2), .inr (2, [.int 0, .ref e0, .int 0])), ((lm 3), .inr (2, [.int 0, .ref e0, .int 0])), ((lm 4), .inr (2, [.int 0, .ref e0, .int 0]))] s.heap.size = A at hD hE ⊢
  have hA : ∀ q : Nat, s.heap.size ≤ q → A q := fun q h => by rw [← hAe]; exact Or.inr h
  have hS : va_S A s.heap s.heap [] := va_S.rf
  have hP : va_P (dC, dI) vwCl [(mo, .inr (15, [.int th, .ref (lm 0), .ref (lm 1), .ref (lm 2), .ref (lm 3), .ref (lm 4), .int 0, .int 0])), ((lm 0), .inr (2, [.int 0, .ref e0, .int 0])), ((lm 1), .inr (2, [.int 0, .ref e0, .int 0])), ((lm 2), .inr (2, [.int 0, .ref e0, .int 0])), ((lm 3), .inr (2, [.int 0, .ref e0, .int 0])), ((lm 4), .inr (2, [.int 0, .ref e0, .int 0]))] s.heap := hP
  have hl := lv_entry ([.ref mo, .int a, .int b]) (n := 4) (Nat.le_of_ble_eq_true rfl)
  rw [lg_entry_eq]
  generalize (lg_sl ([.ref mo, .int a, .int b]) ++ List.replicate (4 - (lg_sl ([.ref mo, .int a, .int b])).length) Slot.unset).toArray = ls at hl ⊢
  have hl : lv_has ls 4 [(0, .ref mo), (1, .int a), (2, .int b)] := hl
  refine lv_aload_n hx hb dX12_offset_0 rfl (lv_at hl 0 rfl) ?_
  refine lv_aload_n hx hb dX12_offset_1 rfl (lv_at hl 0 rfl) ?_
  refine va_get (D := (dC, dI)) (ci := 15) (v := .ref (lm 2)) (C := RX12) (T := TX12) (N := 8) hx hb hts (fun w h => List.mem_cons_of_mem _ (List.mem_append_right _ (List.mem_append_left _ h))) hown hK hP 0 rfl rfl 3 (by decide) (hts (.fieldLink RX12 19 "SpotbeatModel" "stations" "Ljava/util/List;") (by decide +kernel)) (fun _ h9 => h9) rfl dX12_offset_2 ?_
  refine lv_iload_n hx hb dX12_offset_5 rfl (lv_at hl 1 rfl) ?_
  have hPc := hP.sub (ws' := [((lm 2), .inr (2, [.int 0, .ref e0, .int 0]))]) [3] rfl
  have hDc := hD.sub (ws' := [((lm 2), .inr (2, [.int 0, .ref e0, .int 0]))]) [3] (by decide) rfl
  have hKc := hK.sub (tys' := []) [] rfl
  have hFc := va_free (wc := [((lm 2), .inr (2, [.int 0, .ref e0, .int 0]))]) hD hS hA [3] rfl
  refine va_calli (va_runS (As := [.ref (lm 2), .int a]) (rest := [.ref mo]) ⟨hx, hb, hml, hown, hts⟩ (c_X12_isOf l dC dI s.heap.size e0 (lm 2) a) (va_cwS 2 hts (goodIn_app (goodIn_of _ (by decide +kernel)) (goodIn_sub ((fun w h => List.mem_cons_of_mem _ (List.mem_append_right _ (List.mem_append_right _ (List.mem_append_left _ h))))) zgX12_isOf)) rfl rfl rfl (by decide +kernel) ⟨Nat.le_of_ble_eq_true rfl, Nat.le_of_ble_eq_true rfl⟩) ⟨gPcE_blind, gPcE_pass hPc hKc hDc hE hS hFc⟩ rfl rfl hl.1 rfl (lv_room (Nat.le_of_ble_eq_true rfl)) dX12_offset_6 ⟨Nat.le_of_ble_eq_true rfl, Nat.le_of_ble_eq_true rfl⟩) hS (fun q _ h => hFc q h) hFc (fun r_1 u_2 t H locs ht hvm hw hB hz hk hS => ?_)
  obtain ⟨hP1, hK1, hD1⟩ := hB
  rw [ht] at hP1
  obtain ⟨hP, hD⟩ := va_join (wr := [(mo, .inr (15, [.int th, .ref (lm 0), .ref (lm 1), .ref (lm 2), .ref (lm 3), .ref (lm 4), .int 0, .int 0])), ((lm 0), .inr (2, [.int 0, .ref e0, .int 0])), ((lm 1), .inr (2, [.int 0, .ref e0, .int 0])), ((lm 3), .inr (2, [.int 0, .ref e0, .int 0])), ((lm 4), .inr (2, [.int 0, .ref e0, .int 0]))]) (w1 := [((lm 2), .inr (2, [.int 0, .ref e0, .int 0]))]) hP hD [3] [0, 1, 2, 4, 5] rfl rfl (by decide) (by decide) hk hFc hP1 hD1
  have hP : va_P (dC, dI) vwCl [(mo, .inr (15, [.int th, .ref (lm 0), .ref (lm 1), .ref (lm 2), .ref (lm 3), .ref (lm 4), .int 0, .int 0])), ((lm 0), .inr (2, [.int 0, .ref e0, .int 0])), ((lm 1), .inr (2, [.int 0, .ref e0, .int 0])), ((lm 3), .inr (2, [.int 0, .ref e0, .int 0])), ((lm 4), .inr (2, [.int 0, .ref e0, .int 0])), ((lm 2), .inr (2, [.int 0, .ref e0, .int 0]))] H := hP
  have hD : va_D A [(mo, .inr (15, [.int th, .ref (lm 0), .ref (lm 1), .ref (lm 2), .ref (lm 3), .ref (lm 4), .int 0, .int 0])), ((lm 0), .inr (2, [.int 0, .ref e0, .int 0])), ((lm 1), .inr (2, [.int 0, .ref e0, .int 0])), ((lm 3), .inr (2, [.int 0, .ref e0, .int 0])), ((lm 4), .inr (2, [.int 0, .ref e0, .int 0])), ((lm 2), .inr (2, [.int 0, .ref e0, .int 0]))] := hD
  have hw : r_1 = 0 := hw
  subst hw
  refine lv_if_ne (tgt := 16) hx hb dX12_offset_9 (by decide) (fun c_3 => absurd c_3 (by decide)) (fun _ => ?_)
  refine lv_iconst (v := 1) hx hb dX12_offset_12 (by decide) ?_
  refine lv_goto (tgt := 32) hx hb dX12_offset_13 (by decide) ?_
  have hPc := hP.sub (ws' := [(mo, .inr (15, [.int th, .ref (lm 0), .ref (lm 1), .ref (lm 2), .ref (lm 3), .ref (lm 4), .int 0, .int 0])), ((lm 0), .inr (2, [.int 0, .ref e0, .int 0])), ((lm 1), .inr (2, [.int 0, .ref e0, .int 0])), ((lm 2), .inr (2, [.int 0, .ref e0, .int 0])), ((lm 3), .inr (2, [.int 0, .ref e0, .int 0])), ((lm 4), .inr (2, [.int 0, .ref e0, .int 0]))]) [0, 1, 2, 5, 3, 4] rfl
  have hDc := hD.sub (ws' := [(mo, .inr (15, [.int th, .ref (lm 0), .ref (lm 1), .ref (lm 2), .ref (lm 3), .ref (lm 4), .int 0, .int 0])), ((lm 0), .inr (2, [.int 0, .ref e0, .int 0])), ((lm 1), .inr (2, [.int 0, .ref e0, .int 0])), ((lm 2), .inr (2, [.int 0, .ref e0, .int 0])), ((lm 3), .inr (2, [.int 0, .ref e0, .int 0])), ((lm 4), .inr (2, [.int 0, .ref e0, .int 0]))]) [0, 1, 2, 5, 3, 4] (by decide) rfl
  have hKc := hK.sub (tys' := []) [] rfl
  have hFc := va_free (wc := [(mo, .inr (15, [.int th, .ref (lm 0), .ref (lm 1), .ref (lm 2), .ref (lm 3), .ref (lm 4), .int 0, .int 0])), ((lm 0), .inr (2, [.int 0, .ref e0, .int 0])), ((lm 1), .inr (2, [.int 0, .ref e0, .int 0])), ((lm 2), .inr (2, [.int 0, .ref e0, .int 0])), ((lm 3), .inr (2, [.int 0, .ref e0, .int 0])), ((lm 4), .inr (2, [.int 0, .ref e0, .int 0]))]) hD hS hA [0, 1, 2, 5, 3, 4] rfl
  refine va_calli (va_runV (As := [.int 1]) (rest := []) ⟨hx, hb, hml, hown, hts⟩ (c_X12_isWrong_1 l dC dI H.size mo lm e0 th) (cwV 1 hts (goodIn_app (goodIn_of _ (by decide +kernel)) (goodIn_sub ((fun w h => List.mem_cons_of_mem _ (List.mem_append_right _ (List.mem_append_right _ (List.mem_append_right _ (h)))))) zgX12_isWrong_1)) rfl rfl rfl (by decide +kernel) ⟨Nat.le_of_ble_eq_true rfl, Nat.le_of_ble_eq_true rfl⟩) ⟨gPcE_blind, va_recv hK hP (ci := 15) (q0 := 0) rfl rfl, gPcE_pass hPc hKc hDc hE hS hFc⟩ rfl rfl hl.1 rfl (lv_room (Nat.le_of_ble_eq_true rfl)) dX12_offset_32 ⟨Nat.le_of_ble_eq_true rfl, Nat.le_of_ble_eq_true rfl⟩) hS (fun q _ h => hFc q h) hFc (fun r_4 u_5 t H locs ht hvm hw hB hz hk hS => ?_)
  obtain ⟨hP1, hK1, hD1⟩ := hB
  rw [ht] at hP1
  obtain ⟨hP, hD⟩ := va_join (wr := []) (w1 := [(mo, .inr (15, [.int u_5, .ref (lm 0), .ref (lm 1), .ref (lm 2), .ref (lm 3), .ref (lm 4), .int 0, .int 0])), ((lm 0), .inr (2, [.int 0, .ref e0, .int 0])), ((lm 1), .inr (2, [.int 0, .ref e0, .int 0])), ((lm 2), .inr (2, [.int 0, .ref e0, .int 0])), ((lm 3), .inr (2, [.int 0, .ref e0, .int 0])), ((lm 4), .inr (2, [.int 0, .ref e0, .int 0]))]) hP hD [0, 1, 2, 5, 3, 4] [] rfl rfl (by decide) (by decide) hk hFc hP1 hD1
  have hP : va_P (dC, dI) vwCl [(mo, .inr (15, [.int u_5, .ref (lm 0), .ref (lm 1), .ref (lm 2), .ref (lm 3), .ref (lm 4), .int 0, .int 0])), ((lm 0), .inr (2, [.int 0, .ref e0, .int 0])), ((lm 1), .inr (2, [.int 0, .ref e0, .int 0])), ((lm 2), .inr (2, [.int 0, .ref e0, .int 0])), ((lm 3), .inr (2, [.int 0, .ref e0, .int 0])), ((lm 4), .inr (2, [.int 0, .ref e0, .int 0]))] H := hP
  have hD : va_D A [(mo, .inr (15, [.int u_5, .ref (lm 0), .ref (lm 1), .ref (lm 2), .ref (lm 3), .ref (lm 4), .int 0, .int 0])), ((lm 0), .inr (2, [.int 0, .ref e0, .int 0])), ((lm 1), .inr (2, [.int 0, .ref e0, .int 0])), ((lm 2), .inr (2, [.int 0, .ref e0, .int 0])), ((lm 3), .inr (2, [.int 0, .ref e0, .int 0])), ((lm 4), .inr (2, [.int 0, .ref e0, .int 0]))] := hD
  have hw : r_4 = 1 ∧ u_5 = 1 := hw
  obtain ⟨rfl, rfl⟩ : r_4 = 1 ∧ u_5 = 1 := hw
  refine lv_if_eq (tgt := 40) hx hb dX12_offset_35 (by decide) (fun c_6 => absurd c_6 (by decide)) (fun _ => ?_)
  refine lv_iconst (v := 0) hx hb dX12_offset_38 (by decide) ?_
  have hP9 := hP.sub (ws' := [(mo, .inr (15, [.int 1, .ref (lm 0), .ref (lm 1), .ref (lm 2), .ref (lm 3), .ref (lm 4), .int 0, .int 0])), ((lm 0), .inr (2, [.int 0, .ref e0, .int 0])), ((lm 1), .inr (2, [.int 0, .ref e0, .int 0])), ((lm 2), .inr (2, [.int 0, .ref e0, .int 0])), ((lm 3), .inr (2, [.int 0, .ref e0, .int 0])), ((lm 4), .inr (2, [.int 0, .ref e0, .int 0]))]) [0, 1, 2, 3, 4, 5] rfl
  have hD9 := hD.sub (ws' := [(mo, .inr (15, [.int 1, .ref (lm 0), .ref (lm 1), .ref (lm 2), .ref (lm 3), .ref (lm 4), .int 0, .int 0])), ((lm 0), .inr (2, [.int 0, .ref e0, .int 0])), ((lm 1), .inr (2, [.int 0, .ref e0, .int 0])), ((lm 2), .inr (2, [.int 0, .ref e0, .int 0])), ((lm 3), .inr (2, [.int 0, .ref e0, .int 0])), ((lm 4), .inr (2, [.int 0, .ref e0, .int 0]))]) [0, 1, 2, 3, 4, 5] (by decide) rfl
  have hK9 := hK.sub (tys' := []) [] rfl
  refine W.widen (k := 0) (n := 0) (Nat.le_of_ble_eq_true rfl) (Nat.le_of_ble_eq_true rfl) ?_
  exact W.iret (v := 0) hx hb hr (fun t ht hW => ⟨⟨0, 1, rfl, ⟨rfl, rfl⟩, by rw [ht]; exact hP9, va_K.moved hW.alike hK9, hD9⟩, hS.F ht⟩) hS.2.2 dX12_offset_39

def zwX12_feedBack : List Cond := .code yX12_feedBack cX12_feedBack 7 (some .int) :: (([.fieldLink RX12 19 "SpotbeatModel" "stations" "Ljava/util/List;", .methodLink RX12 46 yX12_isOf, .static yX12_isOf, .initialized RX12, .methodLink RX12 50 yX12_isWrong, .instanceMethod yX12_isWrong, .selects RX12 yX12_isWrong yX12_isWrong] : List Cond) ++ (wsX120 ++ (zwX12_isOf ++ (zwX12_isWrong_1))))
theorem zgX12_feedBack : zwX12_feedBack.all goodWord = true := zgo rfl (zga (by decide +kernel) (zga zgcX12 (zga zgX12_isOf (zgX12_isWrong_1))))
set_option maxHeartbeats 4000000 in
set_option maxRecDepth 100000 in
theorem c_X12_feedBack (l : Launch) (dC : Nat → ClassId) (dI : Nat → Nat → Nat) (sz : Nat) (mo : Nat) (lm : Nat → Nat) (e0 : Nat) (th : Int32) (a : Int32) (b : Int32) : Met l yX12_feedBack zwX12_feedBack ({ frames := 2, cells := 0, slots := 0, locals := 43 }) (gPcE dC dI sz [(mo, .inr (15, [.int th, .ref (lm 0), .ref (lm 1), .ref (lm 2), .ref (lm 3), .ref (lm 4), .int 0, .int 0])), ((lm 0), .inr (2, [.int 0, .ref e0, .int 0])), ((lm 1), .inr (2, [.int 0, .ref e0, .int 0])), ((lm 2), .inr (2, [.int 0, .ref e0, .int 0])), ((lm 3), .inr (2, [.int 0, .ref e0, .int 0])), ((lm 4), .inr (2, [.int 0, .ref e0, .int 0]))] [] [.ref mo, .int a, .int b]) (va_Qi (fun (r : Int32) (u : Int32) => r = 0 ∧ u = 1) (fun u t => va_P (dC, dI) vwCl [(mo, .inr (15, [.int u, .ref (lm 0), .ref (lm 1), .ref (lm 2), .ref (lm 3), .ref (lm 4), .int 0, .int 0])), ((lm 0), .inr (2, [.int 0, .ref e0, .int 0])), ((lm 1), .inr (2, [.int 0, .ref e0, .int 0])), ((lm 2), .inr (2, [.int 0, .ref e0, .int 0])), ((lm 3), .inr (2, [.int 0, .ref e0, .int 0])), ((lm 4), .inr (2, [.int 0, .ref e0, .int 0]))] t.heap ∧ va_K (dC, dI) vwCl [] t ∧ va_D (va_A [(mo, .inr (15, [.int th, .ref (lm 0), .ref (lm 1), .ref (lm 2), .ref (lm 3), .ref (lm 4), .int 0, .int 0])), ((lm 0), .inr (2, [.int 0, .ref e0, .int 0])), ((lm 1), .inr (2, [.int 0, .ref e0, .int 0])), ((lm 2), .inr (2, [.int 0, .ref e0, .int 0])), ((lm 3), .inr (2, [.int 0, .ref e0, .int 0])), ((lm 4), .inr (2, [.int 0, .ref e0, .int 0]))] sz) [(mo, .inr (15, [.int u, .ref (lm 0), .ref (lm 1), .ref (lm 2), .ref (lm 3), .ref (lm 4), .int 0, .int 0])), ((lm 0), .inr (2, [.int 0, .ref e0, .int 0])), ((lm 1), .inr (2, [.int 0, .ref e0, .int 0])), ((lm 2), .inr (2, [.int 0, .ref e0, .int 0])), ((lm 3), .inr (2, [.int 0, .ref e0, .int 0])), ((lm 4), .inr (2, [.int 0, .ref e0, .int 0]))]) (va_A [(mo, .inr (15, [.int th, .ref (lm 0), .ref (lm 1), .ref (lm 2), .ref (lm 3), .ref (lm 4), .int 0, .int 0])), ((lm 0), .inr (2, [.int 0, .ref e0, .int 0])), ((lm 1), .inr (2, [.int 0, .ref e0, .int 0])), ((lm 2), .inr (2, [.int 0, .ref e0, .int 0])), ((lm 3), .inr (2, [.int 0, .ref e0, .int 0])), ((lm 4), .inr (2, [.int 0, .ref e0, .int 0]))] sz)) 0 0 (va_A [(mo, .inr (15, [.int th, .ref (lm 0), .ref (lm 1), .ref (lm 2), .ref (lm 3), .ref (lm 4), .int 0, .int 0])), ((lm 0), .inr (2, [.int 0, .ref e0, .int 0])), ((lm 1), .inr (2, [.int 0, .ref e0, .int 0])), ((lm 2), .inr (2, [.int 0, .ref e0, .int 0])), ((lm 3), .inr (2, [.int 0, .ref e0, .int 0])), ((lm 4), .inr (2, [.int 0, .ref e0, .int 0]))] sz) := by
  refine Met.ofW (cc := cX12_feedBack) (maxL := 7) (ret := (some .int)) (by decide) rfl ?_
  intro p e s m args below meth c s₁ B hml hv
  obtain ⟨rfl, hsz, hP, hK, hD0, hE⟩ := hv
  have hx := B.exec
  have hb := B.bytes
  have hr := B.returns
  have hts := atoms_spec (ws := zwX12_feedBack) B.pre
  have hown : s.vm.findClass RX12 = some m.cls := findClass_of_methodNamed B.named
  have hlocks := B.notSynchronized
  subst hsz
  have hD := hD0.self (sz := s.heap.size)
  generalize hAe : va_A [(mo, .inr (15, [.int th, .ref (lm 0), .ref (lm 1), .ref (lm 2), .ref (lm 3), .ref (lm 4), .int 0, .int 0])), ((lm 0), .inr (2, [.int 0, .ref e0, .int 0])), ((lm 1), .inr (2, [.int 0, .ref e0, .int 0])), ((lm 2), .inr (2, [.int 0, .ref e0, .int 0])), ((lm 3), .inr (2, [.int 0, .ref e0, .int 0])), ((lm 4), .inr (2, [.int 0, .ref e0, .int 0]))] s.heap.size = A at hD hE ⊢
  have hA : ∀ q : Nat, s.heap.size ≤ q → A q := fun q h => by rw [← hAe]; exact Or.inr h
  have hS : va_S A s.heap s.heap [] := va_S.rf
  have hP : va_P (dC, dI) vwCl [(mo, .inr (15, [.int th, .ref (lm 0), .ref (lm 1), .ref (lm 2), .ref (lm 3), .ref (lm 4), .int 0, .int 0])), ((lm 0), .inr (2, [.int 0, .ref e0, .int 0])), ((lm 1), .inr (2, [.int 0, .ref e0, .int 0])), ((lm 2), .inr (2, [.int 0, .ref e0, .int 0])), ((lm 3), .inr (2, [.int 0, .ref e0, .int 0])), ((lm 4), .inr (2, [.int 0, .ref e0, .int 0]))] s.heap := hP
  have hl := lv_entry ([.ref mo, .int a, .int b]) (n := 7) (Nat.le_of_ble_eq_true rfl)
  rw [lg_entry_eq]
  generalize (lg_sl ([.ref mo, .int a, .int b]) ++ List.replicate (7 - (lg_sl ([.ref mo, .int a, .int b])).length) Slot.unset).toArray = ls at hl ⊢
  have hl : lv_has ls 7 [(0, .ref mo), (1, .int a), (2, .int b)] := hl
  refine lv_aload_n hx hb dX12_feedBack_0 rfl (lv_at hl 0 rfl) ?_
  refine lv_aload_n hx hb dX12_feedBack_1 rfl (lv_at hl 0 rfl) ?_
  refine va_get (D := (dC, dI)) (ci := 15) (v := .ref (lm 2)) (C := RX12) (T := TX12) (N := 8) hx hb hts (fun w h => List.mem_cons_of_mem _ (List.mem_append_right _ (List.mem_append_left _ h))) hown hK hP 0 rfl rfl 3 (by decide) (hts (.fieldLink RX12 19 "SpotbeatModel" "stations" "Ljava/util/List;") (by decide +kernel)) (fun _ h9 => h9) rfl dX12_feedBack_2 ?_
  refine lv_iload_n hx hb dX12_feedBack_5 rfl (lv_at hl 1 rfl) ?_
  have hPc := hP.sub (ws' := [((lm 2), .inr (2, [.int 0, .ref e0, .int 0]))]) [3] rfl
  have hDc := hD.sub (ws' := [((lm 2), .inr (2, [.int 0, .ref e0, .int 0]))]) [3] (by decide) rfl
  have hKc := hK.sub (tys' := []) [] rfl
  have hFc := va_free (wc := [((lm 2), .inr (2, [.int 0, .ref e0, .int 0]))]) hD hS hA [3] rfl
  refine va_calli (va_runS (As := [.ref (lm 2), .int a]) (rest := [.ref mo]) ⟨hx, hb, hml, hown, hts⟩ (c_X12_isOf l dC dI s.heap.size e0 (lm 2) a) (va_cwS 2 hts (goodIn_app (goodIn_of _ (by decide +kernel)) (goodIn_sub ((fun w h => List.mem_cons_of_mem _ (List.mem_append_right _ (List.mem_append_right _ (List.mem_append_left _ h))))) zgX12_isOf)) rfl rfl rfl (by decide +kernel) ⟨Nat.le_of_ble_eq_true rfl, Nat.le_of_ble_eq_true rfl⟩) ⟨gPcE_blind, gPcE_pass hPc hKc hDc hE hS hFc⟩ rfl rfl hl.1 rfl (lv_room (Nat.le_of_ble_eq_true rfl)) dX12_feedBack_6 ⟨Nat.le_of_ble_eq_true rfl, Nat.le_of_ble_eq_true rfl⟩) hS (fun q _ h => hFc q h) hFc (fun r_1 u_2 t H locs ht hvm hw hB hz hk hS => ?_)
  obtain ⟨hP1, hK1, hD1⟩ := hB
  rw [ht] at hP1
  obtain ⟨hP, hD⟩ := va_join (wr := [(mo, .inr (15, [.int th, .ref (lm 0), .ref (lm 1), .ref (lm 2), .ref (lm 3), .ref (lm 4), .int 0, .int 0])), ((lm 0), .inr (2, [.int 0, .ref e0, .int 0])), ((lm 1), .inr (2, [.int 0, .ref e0, .int 0])), ((lm 3), .inr (2, [.int 0, .ref e0, .int 0])), ((lm 4), .inr (2, [.int 0, .ref e0, .int 0]))]) (w1 := [((lm 2), .inr (2, [.int 0, .ref e0, .int 0]))]) hP hD [3] [0, 1, 2, 4, 5] rfl rfl (by decide) (by decide) hk hFc hP1 hD1
  have hP : va_P (dC, dI) vwCl [(mo, .inr (15, [.int th, .ref (lm 0), .ref (lm 1), .ref (lm 2), .ref (lm 3), .ref (lm 4), .int 0, .int 0])), ((lm 0), .inr (2, [.int 0, .ref e0, .int 0])), ((lm 1), .inr (2, [.int 0, .ref e0, .int 0])), ((lm 3), .inr (2, [.int 0, .ref e0, .int 0])), ((lm 4), .inr (2, [.int 0, .ref e0, .int 0])), ((lm 2), .inr (2, [.int 0, .ref e0, .int 0]))] H := hP
  have hD : va_D A [(mo, .inr (15, [.int th, .ref (lm 0), .ref (lm 1), .ref (lm 2), .ref (lm 3), .ref (lm 4), .int 0, .int 0])), ((lm 0), .inr (2, [.int 0, .ref e0, .int 0])), ((lm 1), .inr (2, [.int 0, .ref e0, .int 0])), ((lm 3), .inr (2, [.int 0, .ref e0, .int 0])), ((lm 4), .inr (2, [.int 0, .ref e0, .int 0])), ((lm 2), .inr (2, [.int 0, .ref e0, .int 0]))] := hD
  have hw : r_1 = 0 := hw
  subst hw
  refine lv_if_ne (tgt := 16) hx hb dX12_feedBack_9 (by decide) (fun c_3 => absurd c_3 (by decide)) (fun _ => ?_)
  refine lv_iconst (v := 1) hx hb dX12_feedBack_12 (by decide) ?_
  refine lv_goto (tgt := 42) hx hb dX12_feedBack_13 (by decide) ?_
  have hPc := hP.sub (ws' := [(mo, .inr (15, [.int th, .ref (lm 0), .ref (lm 1), .ref (lm 2), .ref (lm 3), .ref (lm 4), .int 0, .int 0])), ((lm 0), .inr (2, [.int 0, .ref e0, .int 0])), ((lm 1), .inr (2, [.int 0, .ref e0, .int 0])), ((lm 2), .inr (2, [.int 0, .ref e0, .int 0])), ((lm 3), .inr (2, [.int 0, .ref e0, .int 0])), ((lm 4), .inr (2, [.int 0, .ref e0, .int 0]))]) [0, 1, 2, 5, 3, 4] rfl
  have hDc := hD.sub (ws' := [(mo, .inr (15, [.int th, .ref (lm 0), .ref (lm 1), .ref (lm 2), .ref (lm 3), .ref (lm 4), .int 0, .int 0])), ((lm 0), .inr (2, [.int 0, .ref e0, .int 0])), ((lm 1), .inr (2, [.int 0, .ref e0, .int 0])), ((lm 2), .inr (2, [.int 0, .ref e0, .int 0])), ((lm 3), .inr (2, [.int 0, .ref e0, .int 0])), ((lm 4), .inr (2, [.int 0, .ref e0, .int 0]))]) [0, 1, 2, 5, 3, 4] (by decide) rfl
  have hKc := hK.sub (tys' := []) [] rfl
  have hFc := va_free (wc := [(mo, .inr (15, [.int th, .ref (lm 0), .ref (lm 1), .ref (lm 2), .ref (lm 3), .ref (lm 4), .int 0, .int 0])), ((lm 0), .inr (2, [.int 0, .ref e0, .int 0])), ((lm 1), .inr (2, [.int 0, .ref e0, .int 0])), ((lm 2), .inr (2, [.int 0, .ref e0, .int 0])), ((lm 3), .inr (2, [.int 0, .ref e0, .int 0])), ((lm 4), .inr (2, [.int 0, .ref e0, .int 0]))]) hD hS hA [0, 1, 2, 5, 3, 4] rfl
  refine va_calli (va_runV (As := [.int 1]) (rest := []) ⟨hx, hb, hml, hown, hts⟩ (c_X12_isWrong_1 l dC dI H.size mo lm e0 th) (cwV 1 hts (goodIn_app (goodIn_of _ (by decide +kernel)) (goodIn_sub ((fun w h => List.mem_cons_of_mem _ (List.mem_append_right _ (List.mem_append_right _ (List.mem_append_right _ (h)))))) zgX12_isWrong_1)) rfl rfl rfl (by decide +kernel) ⟨Nat.le_of_ble_eq_true rfl, Nat.le_of_ble_eq_true rfl⟩) ⟨gPcE_blind, va_recv hK hP (ci := 15) (q0 := 0) rfl rfl, gPcE_pass hPc hKc hDc hE hS hFc⟩ rfl rfl hl.1 rfl (lv_room (Nat.le_of_ble_eq_true rfl)) dX12_feedBack_42 ⟨Nat.le_of_ble_eq_true rfl, Nat.le_of_ble_eq_true rfl⟩) hS (fun q _ h => hFc q h) hFc (fun r_4 u_5 t H locs ht hvm hw hB hz hk hS => ?_)
  obtain ⟨hP1, hK1, hD1⟩ := hB
  rw [ht] at hP1
  obtain ⟨hP, hD⟩ := va_join (wr := []) (w1 := [(mo, .inr (15, [.int u_5, .ref (lm 0), .ref (lm 1), .ref (lm 2), .ref (lm 3), .ref (lm 4), .int 0, .int 0])), ((lm 0), .inr (2, [.int 0, .ref e0, .int 0])), ((lm 1), .inr (2, [.int 0, .ref e0, .int 0])), ((lm 2), .inr (2, [.int 0, .ref e0, .int 0])), ((lm 3), .inr (2, [.int 0, .ref e0, .int 0])), ((lm 4), .inr (2, [.int 0, .ref e0, .int 0]))]) hP hD [0, 1, 2, 5, 3, 4] [] rfl rfl (by decide) (by decide) hk hFc hP1 hD1
  have hP : va_P (dC, dI) vwCl [(mo, .inr (15, [.int u_5, .ref (lm 0), .ref (lm 1), .ref (lm 2), .ref (lm 3), .ref (lm 4), .int 0, .int 0])), ((lm 0), .inr (2, [.int 0, .ref e0, .int 0])), ((lm 1), .inr (2, [.int 0, .ref e0, .int 0])), ((lm 2), .inr (2, [.int 0, .ref e0, .int 0])), ((lm 3), .inr (2, [.int 0, .ref e0, .int 0])), ((lm 4), .inr (2, [.int 0, .ref e0, .int 0]))] H := hP
  have hD : va_D A [(mo, .inr (15, [.int u_5, .ref (lm 0), .ref (lm 1), .ref (lm 2), .ref (lm 3), .ref (lm 4), .int 0, .int 0])), ((lm 0), .inr (2, [.int 0, .ref e0, .int 0])), ((lm 1), .inr (2, [.int 0, .ref e0, .int 0])), ((lm 2), .inr (2, [.int 0, .ref e0, .int 0])), ((lm 3), .inr (2, [.int 0, .ref e0, .int 0])), ((lm 4), .inr (2, [.int 0, .ref e0, .int 0]))] := hD
  have hw : r_4 = 1 ∧ u_5 = 1 := hw
  obtain ⟨rfl, rfl⟩ : r_4 = 1 ∧ u_5 = 1 := hw
  refine lv_if_eq (tgt := 50) hx hb dX12_feedBack_45 (by decide) (fun c_6 => absurd c_6 (by decide)) (fun _ => ?_)
  refine lv_iconst (v := 0) hx hb dX12_feedBack_48 (by decide) ?_
  have hP9 := hP.sub (ws' := [(mo, .inr (15, [.int 1, .ref (lm 0), .ref (lm 1), .ref (lm 2), .ref (lm 3), .ref (lm 4), .int 0, .int 0])), ((lm 0), .inr (2, [.int 0, .ref e0, .int 0])), ((lm 1), .inr (2, [.int 0, .ref e0, .int 0])), ((lm 2), .inr (2, [.int 0, .ref e0, .int 0])), ((lm 3), .inr (2, [.int 0, .ref e0, .int 0])), ((lm 4), .inr (2, [.int 0, .ref e0, .int 0]))]) [0, 1, 2, 3, 4, 5] rfl
  have hD9 := hD.sub (ws' := [(mo, .inr (15, [.int 1, .ref (lm 0), .ref (lm 1), .ref (lm 2), .ref (lm 3), .ref (lm 4), .int 0, .int 0])), ((lm 0), .inr (2, [.int 0, .ref e0, .int 0])), ((lm 1), .inr (2, [.int 0, .ref e0, .int 0])), ((lm 2), .inr (2, [.int 0, .ref e0, .int 0])), ((lm 3), .inr (2, [.int 0, .ref e0, .int 0])), ((lm 4), .inr (2, [.int 0, .ref e0, .int 0]))]) [0, 1, 2, 3, 4, 5] (by decide) rfl
  have hK9 := hK.sub (tys' := []) [] rfl
  refine W.widen (k := 0) (n := 0) (Nat.le_of_ble_eq_true rfl) (Nat.le_of_ble_eq_true rfl) ?_
  exact W.iret (v := 0) hx hb hr (fun t ht hW => ⟨⟨0, 1, rfl, ⟨rfl, rfl⟩, by rw [ht]; exact hP9, va_K.moved hW.alike hK9, hD9⟩, hS.F ht⟩) hS.2.2 dX12_feedBack_49

def zwX12_erase : List Cond := .code yX12_erase cX12_erase 4 (some .int) :: (([.methodLink RX12 134 yX12_isNoProgram, .instanceMethod yX12_isNoProgram, .selects RX12 yX12_isNoProgram yX12_isNoProgram, .initialized RX12] : List Cond) ++ (zwX12_isNoProgram))
theorem zgX12_erase : zwX12_erase.all goodWord = true := zgo rfl (zga (by decide +kernel) (zgX12_isNoProgram))
set_option maxHeartbeats 4000000 in
set_option maxRecDepth 100000 in
theorem c_X12_erase (l : Launch) (dC : Nat → ClassId) (dI : Nat → Nat → Nat) (sz : Nat) (mo : Nat) (lm : Nat → Nat) (e0 : Nat) (th : Int32) (a : Int32) (b : Int32) : Met l yX12_erase zwX12_erase ({ frames := 3, cells := 0, slots := 0, locals := 65 }) (gPcE dC dI sz [(mo, .inr (15, [.int th, .ref (lm 0), .ref (lm 1), .ref (lm 2), .ref (lm 3), .ref (lm 4), .int 0, .int 0])), ((lm 0), .inr (2, [.int 0, .ref e0, .int 0])), ((lm 1), .inr (2, [.int 0, .ref e0, .int 0])), ((lm 2), .inr (2, [.int 0, .ref e0, .int 0])), ((lm 3), .inr (2, [.int 0, .ref e0, .int 0])), ((lm 4), .inr (2, [.int 0, .ref e0, .int 0]))] [] [.ref mo, .int a, .int b]) (va_Qi (fun (r : Int32) (u : Int32) => r = 0 ∧ u = 1) (fun u t => va_P (dC, dI) vwCl [(mo, .inr (15, [.int u, .ref (lm 0), .ref (lm 1), .ref (lm 2), .ref (lm 3), .ref (lm 4), .int 0, .int 0])), ((lm 0), .inr (2, [.int 0, .ref e0, .int 0])), ((lm 1), .inr (2, [.int 0, .ref e0, .int 0])), ((lm 2), .inr (2, [.int 0, .ref e0, .int 0])), ((lm 3), .inr (2, [.int 0, .ref e0, .int 0])), ((lm 4), .inr (2, [.int 0, .ref e0, .int 0]))] t.heap ∧ va_K (dC, dI) vwCl [] t ∧ va_D (va_A [(mo, .inr (15, [.int th, .ref (lm 0), .ref (lm 1), .ref (lm 2), .ref (lm 3), .ref (lm 4), .int 0, .int 0])), ((lm 0), .inr (2, [.int 0, .ref e0, .int 0])), ((lm 1), .inr (2, [.int 0, .ref e0, .int 0])), ((lm 2), .inr (2, [.int 0, .ref e0, .int 0])), ((lm 3), .inr (2, [.int 0, .ref e0, .int 0])), ((lm 4), .inr (2, [.int 0, .ref e0, .int 0]))] sz) [(mo, .inr (15, [.int u, .ref (lm 0), .ref (lm 1), .ref (lm 2), .ref (lm 3), .ref (lm 4), .int 0, .int 0])), ((lm 0), .inr (2, [.int 0, .ref e0, .int 0])), ((lm 1), .inr (2, [.int 0, .ref e0, .int 0])), ((lm 2), .inr (2, [.int 0, .ref e0, .int 0])), ((lm 3), .inr (2, [.int 0, .ref e0, .int 0])), ((lm 4), .inr (2, [.int 0, .ref e0, .int 0]))]) (va_A [(mo, .inr (15, [.int th, .ref (lm 0), .ref (lm 1), .ref (lm 2), .ref (lm 3), .ref (lm 4), .int 0, .int 0])), ((lm 0), .inr (2, [.int 0, .ref e0, .int 0])), ((lm 1), .inr (2, [.int 0, .ref e0, .int 0])), ((lm 2), .inr (2, [.int 0, .ref e0, .int 0])), ((lm 3), .inr (2, [.int 0, .ref e0, .int 0])), ((lm 4), .inr (2, [.int 0, .ref e0, .int 0]))] sz)) 0 0 (va_A [(mo, .inr (15, [.int th, .ref (lm 0), .ref (lm 1), .ref (lm 2), .ref (lm 3), .ref (lm 4), .int 0, .int 0])), ((lm 0), .inr (2, [.int 0, .ref e0, .int 0])), ((lm 1), .inr (2, [.int 0, .ref e0, .int 0])), ((lm 2), .inr (2, [.int 0, .ref e0, .int 0])), ((lm 3), .inr (2, [.int 0, .ref e0, .int 0])), ((lm 4), .inr (2, [.int 0, .ref e0, .int 0]))] sz) := by
  refine Met.ofW (cc := cX12_erase) (maxL := 4) (ret := (some .int)) (by decide) rfl ?_
  intro p e s m args below meth c s₁ B hml hv
  obtain ⟨rfl, hsz, hP, hK, hD0, hE⟩ := hv
  have hx := B.exec
  have hb := B.bytes
  have hr := B.returns
  have hts := atoms_spec (ws := zwX12_erase) B.pre
  have hown : s.vm.findClass RX12 = some m.cls := findClass_of_methodNamed B.named
  have hlocks := B.notSynchronized
  subst hsz
  have hD := hD0.self (sz := s.heap.size)
  generalize hAe : va_A [(mo, .inr (15, [.int th, .ref (lm 0), .ref (lm 1), .ref (lm 2), .ref (lm 3), .ref (lm 4), .int 0, .int 0])), ((lm 0), .inr (2, [.int 0, .ref e0, .int 0])), ((lm 1), .inr (2, [.int 0, .ref e0, .int 0])), ((lm 2), .inr (2, [.int 0, .ref e0, .int 0])), ((lm 3), .inr (2, [.int 0, .ref e0, .int 0])), ((lm 4), .inr (2, [.int 0, .ref e0, .int 0]))] s.heap.size = A at hD hE ⊢
  have hA : ∀ q : Nat, s.heap.size ≤ q → A q := fun q h => by rw [← hAe]; exact Or.inr h
  have hS : va_S A s.heap s.heap [] := va_S.rf
  have hP : va_P (dC, dI) vwCl [(mo, .inr (15, [.int th, .ref (lm 0), .ref (lm 1), .ref (lm 2), .ref (lm 3), .ref (lm 4), .int 0, .int 0])), ((lm 0), .inr (2, [.int 0, .ref e0, .int 0])), ((lm 1), .inr (2, [.int 0, .ref e0, .int 0])), ((lm 2), .inr (2, [.int 0, .ref e0, .int 0])), ((lm 3), .inr (2, [.int 0, .ref e0, .int 0])), ((lm 4), .inr (2, [.int 0, .ref e0, .int 0]))] s.heap := hP
  have hl := lv_entry ([.ref mo, .int a, .int b]) (n := 4) (Nat.le_of_ble_eq_true rfl)
  rw [lg_entry_eq]
  generalize (lg_sl ([.ref mo, .int a, .int b]) ++ List.replicate (4 - (lg_sl ([.ref mo, .int a, .int b])).length) Slot.unset).toArray = ls at hl ⊢
  have hl : lv_has ls 4 [(0, .ref mo), (1, .int a), (2, .int b)] := hl
  refine lv_aload_n hx hb dX12_erase_0 rfl (lv_at hl 0 rfl) ?_
  refine lv_iload_n hx hb dX12_erase_1 rfl (lv_at hl 1 rfl) ?_
  refine lv_iload_n hx hb dX12_erase_2 rfl (lv_at hl 2 rfl) ?_
  have hPc := hP.sub (ws' := [(mo, .inr (15, [.int th, .ref (lm 0), .ref (lm 1), .ref (lm 2), .ref (lm 3), .ref (lm 4), .int 0, .int 0])), ((lm 0), .inr (2, [.int 0, .ref e0, .int 0])), ((lm 1), .inr (2, [.int 0, .ref e0, .int 0])), ((lm 2), .inr (2, [.int 0, .ref e0, .int 0])), ((lm 3), .inr (2, [.int 0, .ref e0, .int 0])), ((lm 4), .inr (2, [.int 0, .ref e0, .int 0]))]) [0, 1, 2, 3, 4, 5] rfl
  have hDc := hD.sub (ws' := [(mo, .inr (15, [.int th, .ref (lm 0), .ref (lm 1), .ref (lm 2), .ref (lm 3), .ref (lm 4), .int 0, .int 0])), ((lm 0), .inr (2, [.int 0, .ref e0, .int 0])), ((lm 1), .inr (2, [.int 0, .ref e0, .int 0])), ((lm 2), .inr (2, [.int 0, .ref e0, .int 0])), ((lm 3), .inr (2, [.int 0, .ref e0, .int 0])), ((lm 4), .inr (2, [.int 0, .ref e0, .int 0]))]) [0, 1, 2, 3, 4, 5] (by decide) rfl
  have hKc := hK.sub (tys' := []) [] rfl
  have hFc := va_free (wc := [(mo, .inr (15, [.int th, .ref (lm 0), .ref (lm 1), .ref (lm 2), .ref (lm 3), .ref (lm 4), .int 0, .int 0])), ((lm 0), .inr (2, [.int 0, .ref e0, .int 0])), ((lm 1), .inr (2, [.int 0, .ref e0, .int 0])), ((lm 2), .inr (2, [.int 0, .ref e0, .int 0])), ((lm 3), .inr (2, [.int 0, .ref e0, .int 0])), ((lm 4), .inr (2, [.int 0, .ref e0, .int 0]))]) hD hS hA [0, 1, 2, 3, 4, 5] rfl
  refine va_calli (va_runV (As := [.int a, .int b]) (rest := []) ⟨hx, hb, hml, hown, hts⟩ (c_X12_isNoProgram l dC dI s.heap.size mo lm e0 th a b) (cwV 2 hts (goodIn_app (goodIn_of _ (by decide +kernel)) (goodIn_sub ((fun w h => List.mem_cons_of_mem _ (List.mem_append_right _ (h)))) zgX12_isNoProgram)) rfl rfl rfl (by decide +kernel) ⟨Nat.le_of_ble_eq_true rfl, Nat.le_of_ble_eq_true rfl⟩) ⟨gPcE_blind, va_recv hK hP (ci := 15) (q0 := 0) rfl rfl, gPcE_pass hPc hKc hDc hE hS hFc⟩ rfl rfl hl.1 rfl (lv_room (Nat.le_of_ble_eq_true rfl)) dX12_erase_3 ⟨Nat.le_of_ble_eq_true rfl, Nat.le_of_ble_eq_true rfl⟩) hS (fun q _ h => hFc q h) hFc (fun r_1 u_2 t H locs ht hvm hw hB hz hk hS => ?_)
  obtain ⟨hP1, hK1, hD1⟩ := hB
  rw [ht] at hP1
  obtain ⟨hP, hD⟩ := va_join (wr := []) (w1 := [(mo, .inr (15, [.int u_2, .ref (lm 0), .ref (lm 1), .ref (lm 2), .ref (lm 3), .ref (lm 4), .int 0, .int 0])), ((lm 0), .inr (2, [.int 0, .ref e0, .int 0])), ((lm 1), .inr (2, [.int 0, .ref e0, .int 0])), ((lm 2), .inr (2, [.int 0, .ref e0, .int 0])), ((lm 3), .inr (2, [.int 0, .ref e0, .int 0])), ((lm 4), .inr (2, [.int 0, .ref e0, .int 0]))]) hP hD [0, 1, 2, 3, 4, 5] [] rfl rfl (by decide) (by decide) hk hFc hP1 hD1
  have hP : va_P (dC, dI) vwCl [(mo, .inr (15, [.int u_2, .ref (lm 0), .ref (lm 1), .ref (lm 2), .ref (lm 3), .ref (lm 4), .int 0, .int 0])), ((lm 0), .inr (2, [.int 0, .ref e0, .int 0])), ((lm 1), .inr (2, [.int 0, .ref e0, .int 0])), ((lm 2), .inr (2, [.int 0, .ref e0, .int 0])), ((lm 3), .inr (2, [.int 0, .ref e0, .int 0])), ((lm 4), .inr (2, [.int 0, .ref e0, .int 0]))] H := hP
  have hD : va_D A [(mo, .inr (15, [.int u_2, .ref (lm 0), .ref (lm 1), .ref (lm 2), .ref (lm 3), .ref (lm 4), .int 0, .int 0])), ((lm 0), .inr (2, [.int 0, .ref e0, .int 0])), ((lm 1), .inr (2, [.int 0, .ref e0, .int 0])), ((lm 2), .inr (2, [.int 0, .ref e0, .int 0])), ((lm 3), .inr (2, [.int 0, .ref e0, .int 0])), ((lm 4), .inr (2, [.int 0, .ref e0, .int 0]))] := hD
  have hw : r_1 = 1 ∧ u_2 = 1 := hw
  obtain ⟨rfl, rfl⟩ : r_1 = 1 ∧ u_2 = 1 := hw
  refine lv_if_eq (tgt := 11) hx hb dX12_erase_6 (by decide) (fun c_3 => absurd c_3 (by decide)) (fun _ => ?_)
  refine lv_iconst (v := 0) hx hb dX12_erase_9 (by decide) ?_
  have hP9 := hP.sub (ws' := [(mo, .inr (15, [.int 1, .ref (lm 0), .ref (lm 1), .ref (lm 2), .ref (lm 3), .ref (lm 4), .int 0, .int 0])), ((lm 0), .inr (2, [.int 0, .ref e0, .int 0])), ((lm 1), .inr (2, [.int 0, .ref e0, .int 0])), ((lm 2), .inr (2, [.int 0, .ref e0, .int 0])), ((lm 3), .inr (2, [.int 0, .ref e0, .int 0])), ((lm 4), .inr (2, [.int 0, .ref e0, .int 0]))]) [0, 1, 2, 3, 4, 5] rfl
  have hD9 := hD.sub (ws' := [(mo, .inr (15, [.int 1, .ref (lm 0), .ref (lm 1), .ref (lm 2), .ref (lm 3), .ref (lm 4), .int 0, .int 0])), ((lm 0), .inr (2, [.int 0, .ref e0, .int 0])), ((lm 1), .inr (2, [.int 0, .ref e0, .int 0])), ((lm 2), .inr (2, [.int 0, .ref e0, .int 0])), ((lm 3), .inr (2, [.int 0, .ref e0, .int 0])), ((lm 4), .inr (2, [.int 0, .ref e0, .int 0]))]) [0, 1, 2, 3, 4, 5] (by decide) rfl
  have hK9 := hK.sub (tys' := []) [] rfl
  refine W.widen (k := 0) (n := 0) (Nat.le_of_ble_eq_true rfl) (Nat.le_of_ble_eq_true rfl) ?_
  exact W.iret (v := 0) hx hb hr (fun t ht hW => ⟨⟨0, 1, rfl, ⟨rfl, rfl⟩, by rw [ht]; exact hP9, va_K.moved hW.alike hK9, hD9⟩, hS.F ht⟩) hS.2.2 dX12_erase_10

def zwX12_steps : List Cond := .code yX12_steps cX12_steps 3 (some .int) :: (([.methodLink RX12 134 yX12_isNoProgram, .instanceMethod yX12_isNoProgram, .selects RX12 yX12_isNoProgram yX12_isNoProgram, .initialized RX12] : List Cond) ++ (zwX12_isNoProgram))
theorem zgX12_steps : zwX12_steps.all goodWord = true := zgo rfl (zga (by decide +kernel) (zgX12_isNoProgram))
set_option maxHeartbeats 4000000 in
set_option maxRecDepth 100000 in
theorem c_X12_steps (l : Launch) (dC : Nat → ClassId) (dI : Nat → Nat → Nat) (sz : Nat) (mo : Nat) (lm : Nat → Nat) (e0 : Nat) (th : Int32) (a : Int32) (b : Int32) : Met l yX12_steps zwX12_steps ({ frames := 3, cells := 0, slots := 0, locals := 65 }) (gPcE dC dI sz [(mo, .inr (15, [.int th, .ref (lm 0), .ref (lm 1), .ref (lm 2), .ref (lm 3), .ref (lm 4), .int 0, .int 0])), ((lm 0), .inr (2, [.int 0, .ref e0, .int 0])), ((lm 1), .inr (2, [.int 0, .ref e0, .int 0])), ((lm 2), .inr (2, [.int 0, .ref e0, .int 0])), ((lm 3), .inr (2, [.int 0, .ref e0, .int 0])), ((lm 4), .inr (2, [.int 0, .ref e0, .int 0]))] [] [.ref mo, .int a, .int b]) (va_Qi (fun (r : Int32) (u : Int32) => r = 0 ∧ u = 1) (fun u t => va_P (dC, dI) vwCl [(mo, .inr (15, [.int u, .ref (lm 0), .ref (lm 1), .ref (lm 2), .ref (lm 3), .ref (lm 4), .int 0, .int 0])), ((lm 0), .inr (2, [.int 0, .ref e0, .int 0])), ((lm 1), .inr (2, [.int 0, .ref e0, .int 0])), ((lm 2), .inr (2, [.int 0, .ref e0, .int 0])), ((lm 3), .inr (2, [.int 0, .ref e0, .int 0])), ((lm 4), .inr (2, [.int 0, .ref e0, .int 0]))] t.heap ∧ va_K (dC, dI) vwCl [] t ∧ va_D (va_A [(mo, .inr (15, [.int th, .ref (lm 0), .ref (lm 1), .ref (lm 2), .ref (lm 3), .ref (lm 4), .int 0, .int 0])), ((lm 0), .inr (2, [.int 0, .ref e0, .int 0])), ((lm 1), .inr (2, [.int 0, .ref e0, .int 0])), ((lm 2), .inr (2, [.int 0, .ref e0, .int 0])), ((lm 3), .inr (2, [.int 0, .ref e0, .int 0])), ((lm 4), .inr (2, [.int 0, .ref e0, .int 0]))] sz) [(mo, .inr (15, [.int u, .ref (lm 0), .ref (lm 1), .ref (lm 2), .ref (lm 3), .ref (lm 4), .int 0, .int 0])), ((lm 0), .inr (2, [.int 0, .ref e0, .int 0])), ((lm 1), .inr (2, [.int 0, .ref e0, .int 0])), ((lm 2), .inr (2, [.int 0, .ref e0, .int 0])), ((lm 3), .inr (2, [.int 0, .ref e0, .int 0])), ((lm 4), .inr (2, [.int 0, .ref e0, .int 0]))]) (va_A [(mo, .inr (15, [.int th, .ref (lm 0), .ref (lm 1), .ref (lm 2), .ref (lm 3), .ref (lm 4), .int 0, .int 0])), ((lm 0), .inr (2, [.int 0, .ref e0, .int 0])), ((lm 1), .inr (2, [.int 0, .ref e0, .int 0])), ((lm 2), .inr (2, [.int 0, .ref e0, .int 0])), ((lm 3), .inr (2, [.int 0, .ref e0, .int 0])), ((lm 4), .inr (2, [.int 0, .ref e0, .int 0]))] sz)) 0 0 (va_A [(mo, .inr (15, [.int th, .ref (lm 0), .ref (lm 1), .ref (lm 2), .ref (lm 3), .ref (lm 4), .int 0, .int 0])), ((lm 0), .inr (2, [.int 0, .ref e0, .int 0])), ((lm 1), .inr (2, [.int 0, .ref e0, .int 0])), ((lm 2), .inr (2, [.int 0, .ref e0, .int 0])), ((lm 3), .inr (2, [.int 0, .ref e0, .int 0])), ((lm 4), .inr (2, [.int 0, .ref e0, .int 0]))] sz) := by
  refine Met.ofW (cc := cX12_steps) (maxL := 3) (ret := (some .int)) (by decide) rfl ?_
  intro p e s m args below meth c s₁ B hml hv
  obtain ⟨rfl, hsz, hP, hK, hD0, hE⟩ := hv
  have hx := B.exec
  have hb := B.bytes
  have hr := B.returns
  have hts := atoms_spec (ws := zwX12_steps) B.pre
  have hown : s.vm.findClass RX12 = some m.cls := findClass_of_methodNamed B.named
  have hlocks := B.notSynchronized
  subst hsz
  have hD := hD0.self (sz := s.heap.size)
  generalize hAe : va_A [(mo, .inr (15, [.int th, .ref (lm 0), .ref (lm 1), .ref (lm 2), .ref (lm 3), .ref (lm 4), .int 0, .int 0])), ((lm 0), .inr (2, [.int 0, .ref e0, .int 0])), ((lm 1), .inr (2, [.int 0, .ref e0, .int 0])), ((lm 2), .inr (2, [.int 0, .ref e0, .int 0])), ((lm 3), .inr (2, [.int 0, .ref e0, .int 0])), ((lm 4), .inr (2, [.int 0, .ref e0, .int 0]))] s.heap.size = A at hD hE ⊢
  have hA : ∀ q : Nat, s.heap.size ≤ q → A q := fun q h => by rw [← hAe]; exact Or.inr h
  have hS : va_S A s.heap s.heap [] := va_S.rf
  have hP : va_P (dC, dI) vwCl [(mo, .inr (15, [.int th, .ref (lm 0), .ref (lm 1), .ref (lm 2), .ref (lm 3), .ref (lm 4), .int 0, .int 0])), ((lm 0), .inr (2, [.int 0, .ref e0, .int 0])), ((lm 1), .inr (2, [.int 0, .ref e0, .int 0])), ((lm 2), .inr (2, [.int 0, .ref e0, .int 0])), ((lm 3), .inr (2, [.int 0, .ref e0, .int 0])), ((lm 4), .inr (2, [.int 0, .ref e0, .int 0]))] s.heap := hP
  have hl := lv_entry ([.ref mo, .int a, .int b]) (n := 3) (Nat.le_of_ble_eq_true rfl)
  rw [lg_entry_eq]
  generalize (lg_sl ([.ref mo, .int a, .int b]) ++ List.replicate (3 - (lg_sl ([.ref mo, .int a, .int b])).length) Slot.unset).toArray = ls at hl ⊢
  have hl : lv_has ls 3 [(0, .ref mo), (1, .int a), (2, .int b)] := hl
  refine lv_aload_n hx hb dX12_steps_0 rfl (lv_at hl 0 rfl) ?_
  refine lv_iload_n hx hb dX12_steps_1 rfl (lv_at hl 1 rfl) ?_
  refine lv_iload_n hx hb dX12_steps_2 rfl (lv_at hl 2 rfl) ?_
  have hPc := hP.sub (ws' := [(mo, .inr (15, [.int th, .ref (lm 0), .ref (lm 1), .ref (lm 2), .ref (lm 3), .ref (lm 4), .int 0, .int 0])), ((lm 0), .inr (2, [.int 0, .ref e0, .int 0])), ((lm 1), .inr (2, [.int 0, .ref e0, .int 0])), ((lm 2), .inr (2, [.int 0, .ref e0, .int 0])), ((lm 3), .inr (2, [.int 0, .ref e0, .int 0])), ((lm 4), .inr (2, [.int 0, .ref e0, .int 0]))]) [0, 1, 2, 3, 4, 5] rfl
  have hDc := hD.sub (ws' := [(mo, .inr (15, [.int th, .ref (lm 0), .ref (lm 1), .ref (lm 2), .ref (lm 3), .ref (lm 4), .int 0, .int 0])), ((lm 0), .inr (2, [.int 0, .ref e0, .int 0])), ((lm 1), .inr (2, [.int 0, .ref e0, .int 0])), ((lm 2), .inr (2, [.int 0, .ref e0, .int 0])), ((lm 3), .inr (2, [.int 0, .ref e0, .int 0])), ((lm 4), .inr (2, [.int 0, .ref e0, .int 0]))]) [0, 1, 2, 3, 4, 5] (by decide) rfl
  have hKc := hK.sub (tys' := []) [] rfl
  have hFc := va_free (wc := [(mo, .inr (15, [.int th, .ref (lm 0), .ref (lm 1), .ref (lm 2), .ref (lm 3), .ref (lm 4), .int 0, .int 0])), ((lm 0), .inr (2, [.int 0, .ref e0, .int 0])), ((lm 1), .inr (2, [.int 0, .ref e0, .int 0])), ((lm 2), .inr (2, [.int 0, .ref e0, .int 0])), ((lm 3), .inr (2, [.int 0, .ref e0, .int 0])), ((lm 4), .inr (2, [.int 0, .ref e0, .int 0]))]) hD hS hA [0, 1, 2, 3, 4, 5] rfl
  refine va_calli (va_runV (As := [.int a, .int b]) (rest := []) ⟨hx, hb, hml, hown, hts⟩ (c_X12_isNoProgram l dC dI s.heap.size mo lm e0 th a b) (cwV 2 hts (goodIn_app (goodIn_of _ (by decide +kernel)) (goodIn_sub ((fun w h => List.mem_cons_of_mem _ (List.mem_append_right _ (h)))) zgX12_isNoProgram)) rfl rfl rfl (by decide +kernel) ⟨Nat.le_of_ble_eq_true rfl, Nat.le_of_ble_eq_true rfl⟩) ⟨gPcE_blind, va_recv hK hP (ci := 15) (q0 := 0) rfl rfl, gPcE_pass hPc hKc hDc hE hS hFc⟩ rfl rfl hl.1 rfl (lv_room (Nat.le_of_ble_eq_true rfl)) dX12_steps_3 ⟨Nat.le_of_ble_eq_true rfl, Nat.le_of_ble_eq_true rfl⟩) hS (fun q _ h => hFc q h) hFc (fun r_1 u_2 t H locs ht hvm hw hB hz hk hS => ?_)
  obtain ⟨hP1, hK1, hD1⟩ := hB
  rw [ht] at hP1
  obtain ⟨hP, hD⟩ := va_join (wr := []) (w1 := [(mo, .inr (15, [.int u_2, .ref (lm 0), .ref (lm 1), .ref (lm 2), .ref (lm 3), .ref (lm 4), .int 0, .int 0])), ((lm 0), .inr (2, [.int 0, .ref e0, .int 0])), ((lm 1), .inr (2, [.int 0, .ref e0, .int 0])), ((lm 2), .inr (2, [.int 0, .ref e0, .int 0])), ((lm 3), .inr (2, [.int 0, .ref e0, .int 0])), ((lm 4), .inr (2, [.int 0, .ref e0, .int 0]))]) hP hD [0, 1, 2, 3, 4, 5] [] rfl rfl (by decide) (by decide) hk hFc hP1 hD1
  have hP : va_P (dC, dI) vwCl [(mo, .inr (15, [.int u_2, .ref (lm 0), .ref (lm 1), .ref (lm 2), .ref (lm 3), .ref (lm 4), .int 0, .int 0])), ((lm 0), .inr (2, [.int 0, .ref e0, .int 0])), ((lm 1), .inr (2, [.int 0, .ref e0, .int 0])), ((lm 2), .inr (2, [.int 0, .ref e0, .int 0])), ((lm 3), .inr (2, [.int 0, .ref e0, .int 0])), ((lm 4), .inr (2, [.int 0, .ref e0, .int 0]))] H := hP
  have hD : va_D A [(mo, .inr (15, [.int u_2, .ref (lm 0), .ref (lm 1), .ref (lm 2), .ref (lm 3), .ref (lm 4), .int 0, .int 0])), ((lm 0), .inr (2, [.int 0, .ref e0, .int 0])), ((lm 1), .inr (2, [.int 0, .ref e0, .int 0])), ((lm 2), .inr (2, [.int 0, .ref e0, .int 0])), ((lm 3), .inr (2, [.int 0, .ref e0, .int 0])), ((lm 4), .inr (2, [.int 0, .ref e0, .int 0]))] := hD
  have hw : r_1 = 1 ∧ u_2 = 1 := hw
  obtain ⟨rfl, rfl⟩ : r_1 = 1 ∧ u_2 = 1 := hw
  refine lv_if_eq (tgt := 13) hx hb dX12_steps_6 (by decide) (fun c_3 => absurd c_3 (by decide)) (fun _ => ?_)
  refine lv_iconst (v := 0) hx hb dX12_steps_9 (by decide) ?_
  refine lv_goto (tgt := 43) hx hb dX12_steps_10 (by decide) ?_
  have hP9 := hP.sub (ws' := [(mo, .inr (15, [.int 1, .ref (lm 0), .ref (lm 1), .ref (lm 2), .ref (lm 3), .ref (lm 4), .int 0, .int 0])), ((lm 0), .inr (2, [.int 0, .ref e0, .int 0])), ((lm 1), .inr (2, [.int 0, .ref e0, .int 0])), ((lm 2), .inr (2, [.int 0, .ref e0, .int 0])), ((lm 3), .inr (2, [.int 0, .ref e0, .int 0])), ((lm 4), .inr (2, [.int 0, .ref e0, .int 0]))]) [0, 1, 2, 3, 4, 5] rfl
  have hD9 := hD.sub (ws' := [(mo, .inr (15, [.int 1, .ref (lm 0), .ref (lm 1), .ref (lm 2), .ref (lm 3), .ref (lm 4), .int 0, .int 0])), ((lm 0), .inr (2, [.int 0, .ref e0, .int 0])), ((lm 1), .inr (2, [.int 0, .ref e0, .int 0])), ((lm 2), .inr (2, [.int 0, .ref e0, .int 0])), ((lm 3), .inr (2, [.int 0, .ref e0, .int 0])), ((lm 4), .inr (2, [.int 0, .ref e0, .int 0]))]) [0, 1, 2, 3, 4, 5] (by decide) rfl
  have hK9 := hK.sub (tys' := []) [] rfl
  refine W.widen (k := 0) (n := 0) (Nat.le_of_ble_eq_true rfl) (Nat.le_of_ble_eq_true rfl) ?_
  exact W.iret (v := 0) hx hb hr (fun t ht hW => ⟨⟨0, 1, rfl, ⟨rfl, rfl⟩, by rw [ht]; exact hP9, va_K.moved hW.alike hK9, hD9⟩, hS.F ht⟩) hS.2.2 dX12_steps_43

def zwX12_welds : List Cond := .code yX12_welds cX12_welds 6 (some .int) :: (([.methodLink RX12 134 yX12_isNoProgram, .instanceMethod yX12_isNoProgram, .selects RX12 yX12_isNoProgram yX12_isNoProgram, .initialized RX12] : List Cond) ++ (zwX12_isNoProgram))
theorem zgX12_welds : zwX12_welds.all goodWord = true := zgo rfl (zga (by decide +kernel) (zgX12_isNoProgram))
set_option maxHeartbeats 4000000 in
set_option maxRecDepth 100000 in
theorem c_X12_welds (l : Launch) (dC : Nat → ClassId) (dI : Nat → Nat → Nat) (sz : Nat) (mo : Nat) (lm : Nat → Nat) (e0 : Nat) (th : Int32) (a : Int32) (b : Int32) : Met l yX12_welds zwX12_welds ({ frames := 3, cells := 0, slots := 0, locals := 65 }) (gPcE dC dI sz [(mo, .inr (15, [.int th, .ref (lm 0), .ref (lm 1), .ref (lm 2), .ref (lm 3), .ref (lm 4), .int 0, .int 0])), ((lm 0), .inr (2, [.int 0, .ref e0, .int 0])), ((lm 1), .inr (2, [.int 0, .ref e0, .int 0])), ((lm 2), .inr (2, [.int 0, .ref e0, .int 0])), ((lm 3), .inr (2, [.int 0, .ref e0, .int 0])), ((lm 4), .inr (2, [.int 0, .ref e0, .int 0]))] [] [.ref mo, .int a, .int b]) (va_Qi (fun (r : Int32) (u : Int32) => r = 0 ∧ u = 1) (fun u t => va_P (dC, dI) vwCl [(mo, .inr (15, [.int u, .ref (lm 0), .ref (lm 1), .ref (lm 2), .ref (lm 3), .ref (lm 4), .int 0, .int 0])), ((lm 0), .inr (2, [.int 0, .ref e0, .int 0])), ((lm 1), .inr (2, [.int 0, .ref e0, .int 0])), ((lm 2), .inr (2, [.int 0, .ref e0, .int 0])), ((lm 3), .inr (2, [.int 0, .ref e0, .int 0])), ((lm 4), .inr (2, [.int 0, .ref e0, .int 0]))] t.heap ∧ va_K (dC, dI) vwCl [] t ∧ va_D (va_A [(mo, .inr (15, [.int th, .ref (lm 0), .ref (lm 1), .ref (lm 2), .ref (lm 3), .ref (lm 4), .int 0, .int 0])), ((lm 0), .inr (2, [.int 0, .ref e0, .int 0])), ((lm 1), .inr (2, [.int 0, .ref e0, .int 0])), ((lm 2), .inr (2, [.int 0, .ref e0, .int 0])), ((lm 3), .inr (2, [.int 0, .ref e0, .int 0])), ((lm 4), .inr (2, [.int 0, .ref e0, .int 0]))] sz) [(mo, .inr (15, [.int u, .ref (lm 0), .ref (lm 1), .ref (lm 2), .ref (lm 3), .ref (lm 4), .int 0, .int 0])), ((lm 0), .inr (2, [.int 0, .ref e0, .int 0])), ((lm 1), .inr (2, [.int 0, .ref e0, .int 0])), ((lm 2), .inr (2, [.int 0, .ref e0, .int 0])), ((lm 3), .inr (2, [.int 0, .ref e0, .int 0])), ((lm 4), .inr (2, [.int 0, .ref e0, .int 0]))]) (va_A [(mo, .inr (15, [.int th, .ref (lm 0), .ref (lm 1), .ref (lm 2), .ref (lm 3), .ref (lm 4), .int 0, .int 0])), ((lm 0), .inr (2, [.int 0, .ref e0, .int 0])), ((lm 1), .inr (2, [.int 0, .ref e0, .int 0])), ((lm 2), .inr (2, [.int 0, .ref e0, .int 0])), ((lm 3), .inr (2, [.int 0, .ref e0, .int 0])), ((lm 4), .inr (2, [.int 0, .ref e0, .int 0]))] sz)) 0 0 (va_A [(mo, .inr (15, [.int th, .ref (lm 0), .ref (lm 1), .ref (lm 2), .ref (lm 3), .ref (lm 4), .int 0, .int 0])), ((lm 0), .inr (2, [.int 0, .ref e0, .int 0])), ((lm 1), .inr (2, [.int 0, .ref e0, .int 0])), ((lm 2), .inr (2, [.int 0, .ref e0, .int 0])), ((lm 3), .inr (2, [.int 0, .ref e0, .int 0])), ((lm 4), .inr (2, [.int 0, .ref e0, .int 0]))] sz) := by
  refine Met.ofW (cc := cX12_welds) (maxL := 6) (ret := (some .int)) (by decide) rfl ?_
  intro p e s m args below meth c s₁ B hml hv
  obtain ⟨rfl, hsz, hP, hK, hD0, hE⟩ := hv
  have hx := B.exec
  have hb := B.bytes
  have hr := B.returns
  have hts := atoms_spec (ws := zwX12_welds) B.pre
  have hown : s.vm.findClass RX12 = some m.cls := findClass_of_methodNamed B.named
  have hlocks := B.notSynchronized
  subst hsz
  have hD := hD0.self (sz := s.heap.size)
  generalize hAe : va_A [(mo, .inr (15, [.int th, .ref (lm 0), .ref (lm 1), .ref (lm 2), .ref (lm 3), .ref (lm 4), .int 0, .int 0])), ((lm 0), .inr (2, [.int 0, .ref e0, .int 0])), ((lm 1), .inr (2, [.int 0, .ref e0, .int 0])), ((lm 2), .inr (2, [.int 0, .ref e0, .int 0])), ((lm 3), .inr (2, [.int 0, .ref e0, .int 0])), ((lm 4), .inr (2, [.int 0, .ref e0, .int 0]))] s.heap.size = A at hD hE ⊢
  have hA : ∀ q : Nat, s.heap.size ≤ q → A q := fun q h => by rw [← hAe]; exact Or.inr h
  have hS : va_S A s.heap s.heap [] := va_S.rf
  have hP : va_P (dC, dI) vwCl [(mo, .inr (15, [.int th, .ref (lm 0), .ref (lm 1), .ref (lm 2), .ref (lm 3), .ref (lm 4), .int 0, .int 0])), ((lm 0), .inr (2, [.int 0, .ref e0, .int 0])), ((lm 1), .inr (2, [.int 0, .ref e0, .int 0])), ((lm 2), .inr (2, [.int 0, .ref e0, .int 0])), ((lm 3), .inr (2, [.int 0, .ref e0, .int 0])), ((lm 4), .inr (2, [.int 0, .ref e0, .int 0]))] s.heap := hP
  have hl := lv_entry ([.ref mo, .int a, .int b]) (n := 6) (Nat.le_of_ble_eq_true rfl)
  rw [lg_entry_eq]
  generalize (lg_sl ([.ref mo, .int a, .int b]) ++ List.replicate (6 - (lg_sl ([.ref mo, .int a, .int b])).length) Slot.unset).toArray = ls at hl ⊢
  have hl : lv_has ls 6 [(0, .ref mo), (1, .int a), (2, .int b)] := hl
  refine lv_aload_n hx hb dX12_welds_0 rfl (lv_at hl 0 rfl) ?_
  refine lv_iload_n hx hb dX12_welds_1 rfl (lv_at hl 1 rfl) ?_
  refine lv_iload_n hx hb dX12_welds_2 rfl (lv_at hl 2 rfl) ?_
  have hPc := hP.sub (ws' := [(mo, .inr (15, [.int th, .ref (lm 0), .ref (lm 1), .ref (lm 2), .ref (lm 3), .ref (lm 4), .int 0, .int 0])), ((lm 0), .inr (2, [.int 0, .ref e0, .int 0])), ((lm 1), .inr (2, [.int 0, .ref e0, .int 0])), ((lm 2), .inr (2, [.int 0, .ref e0, .int 0])), ((lm 3), .inr (2, [.int 0, .ref e0, .int 0])), ((lm 4), .inr (2, [.int 0, .ref e0, .int 0]))]) [0, 1, 2, 3, 4, 5] rfl
  have hDc := hD.sub (ws' := [(mo, .inr (15, [.int th, .ref (lm 0), .ref (lm 1), .ref (lm 2), .ref (lm 3), .ref (lm 4), .int 0, .int 0])), ((lm 0), .inr (2, [.int 0, .ref e0, .int 0])), ((lm 1), .inr (2, [.int 0, .ref e0, .int 0])), ((lm 2), .inr (2, [.int 0, .ref e0, .int 0])), ((lm 3), .inr (2, [.int 0, .ref e0, .int 0])), ((lm 4), .inr (2, [.int 0, .ref e0, .int 0]))]) [0, 1, 2, 3, 4, 5] (by decide) rfl
  have hKc := hK.sub (tys' := []) [] rfl
  have hFc := va_free (wc := [(mo, .inr (15, [.int th, .ref (lm 0), .ref (lm 1), .ref (lm 2), .ref (lm 3), .ref (lm 4), .int 0, .int 0])), ((lm 0), .inr (2, [.int 0, .ref e0, .int 0])), ((lm 1), .inr (2, [.int 0, .ref e0, .int 0])), ((lm 2), .inr (2, [.int 0, .ref e0, .int 0])), ((lm 3), .inr (2, [.int 0, .ref e0, .int 0])), ((lm 4), .inr (2, [.int 0, .ref e0, .int 0]))]) hD hS hA [0, 1, 2, 3, 4, 5] rfl
  refine va_calli (va_runV (As := [.int a, .int b]) (rest := []) ⟨hx, hb, hml, hown, hts⟩ (c_X12_isNoProgram l dC dI s.heap.size mo lm e0 th a b) (cwV 2 hts (goodIn_app (goodIn_of _ (by decide +kernel)) (goodIn_sub ((fun w h => List.mem_cons_of_mem _ (List.mem_append_right _ (h)))) zgX12_isNoProgram)) rfl rfl rfl (by decide +kernel) ⟨Nat.le_of_ble_eq_true rfl, Nat.le_of_ble_eq_true rfl⟩) ⟨gPcE_blind, va_recv hK hP (ci := 15) (q0 := 0) rfl rfl, gPcE_pass hPc hKc hDc hE hS hFc⟩ rfl rfl hl.1 rfl (lv_room (Nat.le_of_ble_eq_true rfl)) dX12_welds_3 ⟨Nat.le_of_ble_eq_true rfl, Nat.le_of_ble_eq_true rfl⟩) hS (fun q _ h => hFc q h) hFc (fun r_1 u_2 t H locs ht hvm hw hB hz hk hS => ?_)
  obtain ⟨hP1, hK1, hD1⟩ := hB
  rw [ht] at hP1
  obtain ⟨hP, hD⟩ := va_join (wr := []) (w1 := [(mo, .inr (15, [.int u_2, .ref (lm 0), .ref (lm 1), .ref (lm 2), .ref (lm 3), .ref (lm 4), .int 0, .int 0])), ((lm 0), .inr (2, [.int 0, .ref e0, .int 0])), ((lm 1), .inr (2, [.int 0, .ref e0, .int 0])), ((lm 2), .inr (2, [.int 0, .ref e0, .int 0])), ((lm 3), .inr (2, [.int 0, .ref e0, .int 0])), ((lm 4), .inr (2, [.int 0, .ref e0, .int 0]))]) hP hD [0, 1, 2, 3, 4, 5] [] rfl rfl (by decide) (by decide) hk hFc hP1 hD1
  have hP : va_P (dC, dI) vwCl [(mo, .inr (15, [.int u_2, .ref (lm 0), .ref (lm 1), .ref (lm 2), .ref (lm 3), .ref (lm 4), .int 0, .int 0])), ((lm 0), .inr (2, [.int 0, .ref e0, .int 0])), ((lm 1), .inr (2, [.int 0, .ref e0, .int 0])), ((lm 2), .inr (2, [.int 0, .ref e0, .int 0])), ((lm 3), .inr (2, [.int 0, .ref e0, .int 0])), ((lm 4), .inr (2, [.int 0, .ref e0, .int 0]))] H := hP
  have hD : va_D A [(mo, .inr (15, [.int u_2, .ref (lm 0), .ref (lm 1), .ref (lm 2), .ref (lm 3), .ref (lm 4), .int 0, .int 0])), ((lm 0), .inr (2, [.int 0, .ref e0, .int 0])), ((lm 1), .inr (2, [.int 0, .ref e0, .int 0])), ((lm 2), .inr (2, [.int 0, .ref e0, .int 0])), ((lm 3), .inr (2, [.int 0, .ref e0, .int 0])), ((lm 4), .inr (2, [.int 0, .ref e0, .int 0]))] := hD
  have hw : r_1 = 1 ∧ u_2 = 1 := hw
  obtain ⟨rfl, rfl⟩ : r_1 = 1 ∧ u_2 = 1 := hw
  refine lv_if_eq (tgt := 11) hx hb dX12_welds_6 (by decide) (fun c_3 => absurd c_3 (by decide)) (fun _ => ?_)
  refine lv_iconst (v := 0) hx hb dX12_welds_9 (by decide) ?_
  have hP9 := hP.sub (ws' := [(mo, .inr (15, [.int 1, .ref (lm 0), .ref (lm 1), .ref (lm 2), .ref (lm 3), .ref (lm 4), .int 0, .int 0])), ((lm 0), .inr (2, [.int 0, .ref e0, .int 0])), ((lm 1), .inr (2, [.int 0, .ref e0, .int 0])), ((lm 2), .inr (2, [.int 0, .ref e0, .int 0])), ((lm 3), .inr (2, [.int 0, .ref e0, .int 0])), ((lm 4), .inr (2, [.int 0, .ref e0, .int 0]))]) [0, 1, 2, 3, 4, 5] rfl
  have hD9 := hD.sub (ws' := [(mo, .inr (15, [.int 1, .ref (lm 0), .ref (lm 1), .ref (lm 2), .ref (lm 3), .ref (lm 4), .int 0, .int 0])), ((lm 0), .inr (2, [.int 0, .ref e0, .int 0])), ((lm 1), .inr (2, [.int 0, .ref e0, .int 0])), ((lm 2), .inr (2, [.int 0, .ref e0, .int 0])), ((lm 3), .inr (2, [.int 0, .ref e0, .int 0])), ((lm 4), .inr (2, [.int 0, .ref e0, .int 0]))]) [0, 1, 2, 3, 4, 5] (by decide) rfl
  have hK9 := hK.sub (tys' := []) [] rfl
  refine W.widen (k := 0) (n := 0) (Nat.le_of_ble_eq_true rfl) (Nat.le_of_ble_eq_true rfl) ?_
  exact W.iret (v := 0) hx hb hr (fun t ht hW => ⟨⟨0, 1, rfl, ⟨rfl, rfl⟩, by rw [ht]; exact hP9, va_K.moved hW.alike hK9, hD9⟩, hS.F ht⟩) hS.2.2 dX12_welds_10

def zwX12_proof : List Cond := .code yX12_proof cX12_proof 10 (some .char) :: (([.methodLink RX12 178 yX12_isNoStation, .instanceMethod yX12_isNoStation, .selects RX12 yX12_isNoStation yX12_isNoStation, .initialized RX12] : List Cond) ++ (zwX12_isNoStation))
theorem zgX12_proof : zwX12_proof.all goodWord = true := zgo rfl (zga (by decide +kernel) (zgX12_isNoStation))
set_option maxHeartbeats 4000000 in
set_option maxRecDepth 100000 in
theorem c_X12_proof (l : Launch) (dC : Nat → ClassId) (dI : Nat → Nat → Nat) (sz : Nat) (mo : Nat) (lm : Nat → Nat) (e0 : Nat) (th : Int32) (a : Int32) (b : Int32) : Met l yX12_proof zwX12_proof ({ frames := 3, cells := 0, slots := 0, locals := 65 }) (gPcE dC dI sz [(mo, .inr (15, [.int th, .ref (lm 0), .ref (lm 1), .ref (lm 2), .ref (lm 3), .ref (lm 4), .int 0, .int 0])), ((lm 0), .inr (2, [.int 0, .ref e0, .int 0])), ((lm 1), .inr (2, [.int 0, .ref e0, .int 0])), ((lm 2), .inr (2, [.int 0, .ref e0, .int 0])), ((lm 3), .inr (2, [.int 0, .ref e0, .int 0])), ((lm 4), .inr (2, [.int 0, .ref e0, .int 0]))] [] [.ref mo, .int a, .int b]) (va_Qi (fun (r : Int32) (u : Int32) => r = 0 ∧ u = 1) (fun u t => va_P (dC, dI) vwCl [(mo, .inr (15, [.int u, .ref (lm 0), .ref (lm 1), .ref (lm 2), .ref (lm 3), .ref (lm 4), .int 0, .int 0])), ((lm 0), .inr (2, [.int 0, .ref e0, .int 0])), ((lm 1), .inr (2, [.int 0, .ref e0, .int 0])), ((lm 2), .inr (2, [.int 0, .ref e0, .int 0])), ((lm 3), .inr (2, [.int 0, .ref e0, .int 0])), ((lm 4), .inr (2, [.int 0, .ref e0, .int 0]))] t.heap ∧ va_K (dC, dI) vwCl [] t ∧ va_D (va_A [(mo, .inr (15, [.int th, .ref (lm 0), .ref (lm 1), .ref (lm 2), .ref (lm 3), .ref (lm 4), .int 0, .int 0])), ((lm 0), .inr (2, [.int 0, .ref e0, .int 0])), ((lm 1), .inr (2, [.int 0, .ref e0, .int 0])), ((lm 2), .inr (2, [.int 0, .ref e0, .int 0])), ((lm 3), .inr (2, [.int 0, .ref e0, .int 0])), ((lm 4), .inr (2, [.int 0, .ref e0, .int 0]))] sz) [(mo, .inr (15, [.int u, .ref (lm 0), .ref (lm 1), .ref (lm 2), .ref (lm 3), .ref (lm 4), .int 0, .int 0])), ((lm 0), .inr (2, [.int 0, .ref e0, .int 0])), ((lm 1), .inr (2, [.int 0, .ref e0, .int 0])), ((lm 2), .inr (2, [.int 0, .ref e0, .int 0])), ((lm 3), .inr (2, [.int 0, .ref e0, .int 0])), ((lm 4), .inr (2, [.int 0, .ref e0, .int 0]))]) (va_A [(mo, .inr (15, [.int th, .ref (lm 0), .ref (lm 1), .ref (lm 2), .ref (lm 3), .ref (lm 4), .int 0, .int 0])), ((lm 0), .inr (2, [.int 0, .ref e0, .int 0])), ((lm 1), .inr (2, [.int 0, .ref e0, .int 0])), ((lm 2), .inr (2, [.int 0, .ref e0, .int 0])), ((lm 3), .inr (2, [.int 0, .ref e0, .int 0])), ((lm 4), .inr (2, [.int 0, .ref e0, .int 0]))] sz)) 0 0 (va_A [(mo, .inr (15, [.int th, .ref (lm 0), .ref (lm 1), .ref (lm 2), .ref (lm 3), .ref (lm 4), .int 0, .int 0])), ((lm 0), .inr (2, [.int 0, .ref e0, .int 0])), ((lm 1), .inr (2, [.int 0, .ref e0, .int 0])), ((lm 2), .inr (2, [.int 0, .ref e0, .int 0])), ((lm 3), .inr (2, [.int 0, .ref e0, .int 0])), ((lm 4), .inr (2, [.int 0, .ref e0, .int 0]))] sz) := by
  refine Met.ofW (cc := cX12_proof) (maxL := 10) (ret := (some .char)) (by decide) rfl ?_
  intro p e s m args below meth c s₁ B hml hv
  obtain ⟨rfl, hsz, hP, hK, hD0, hE⟩ := hv
  have hx := B.exec
  have hb := B.bytes
  have hr := B.returns
  have hts := atoms_spec (ws := zwX12_proof) B.pre
  have hown : s.vm.findClass RX12 = some m.cls := findClass_of_methodNamed B.named
  have hlocks := B.notSynchronized
  subst hsz
  have hD := hD0.self (sz := s.heap.size)
  generalize hAe : va_A [(mo, .inr (15, [.int th, .ref (lm 0), .ref (lm 1), .ref (lm 2), .ref (lm 3), .ref (lm 4), .int 0, .int 0])), ((lm 0), .inr (2, [.int 0, .ref e0, .int 0])), ((lm 1), .inr (2, [.int 0, .ref e0, .int 0])), ((lm 2), .inr (2, [.int 0, .ref e0, .int 0])), ((lm 3), .inr (2, [.int 0, .ref e0, .int 0])), ((lm 4), .inr (2, [.int 0, .ref e0, .int 0]))] s.heap.size = A at hD hE ⊢
  have hA : ∀ q : Nat, s.heap.size ≤ q → A q := fun q h => by rw [← hAe]; exact Or.inr h
  have hS : va_S A s.heap s.heap [] := va_S.rf
  have hP : va_P (dC, dI) vwCl [(mo, .inr (15, [.int th, .ref (lm 0), .ref (lm 1), .ref (lm 2), .ref (lm 3), .ref (lm 4), .int 0, .int 0])), ((lm 0), .inr (2, [.int 0, .ref e0, .int 0])), ((lm 1), .inr (2, [.int 0, .ref e0, .int 0])), ((lm 2), .inr (2, [.int 0, .ref e0, .int 0])), ((lm 3), .inr (2, [.int 0, .ref e0, .int 0])), ((lm 4), .inr (2, [.int 0, .ref e0, .int 0]))] s.heap := hP
  have hl := lv_entry ([.ref mo, .int a, .int b]) (n := 10) (Nat.le_of_ble_eq_true rfl)
  rw [lg_entry_eq]
  generalize (lg_sl ([.ref mo, .int a, .int b]) ++ List.replicate (10 - (lg_sl ([.ref mo, .int a, .int b])).length) Slot.unset).toArray = ls at hl ⊢
  have hl : lv_has ls 10 [(0, .ref mo), (1, .int a), (2, .int b)] := hl
  refine lv_aload_n hx hb dX12_proof_0 rfl (lv_at hl 0 rfl) ?_
  refine lv_iload_n hx hb dX12_proof_1 rfl (lv_at hl 1 rfl) ?_
  refine lv_iload_n hx hb dX12_proof_2 rfl (lv_at hl 2 rfl) ?_
  have hPc := hP.sub (ws' := [(mo, .inr (15, [.int th, .ref (lm 0), .ref (lm 1), .ref (lm 2), .ref (lm 3), .ref (lm 4), .int 0, .int 0])), ((lm 0), .inr (2, [.int 0, .ref e0, .int 0])), ((lm 1), .inr (2, [.int 0, .ref e0, .int 0])), ((lm 2), .inr (2, [.int 0, .ref e0, .int 0])), ((lm 3), .inr (2, [.int 0, .ref e0, .int 0])), ((lm 4), .inr (2, [.int 0, .ref e0, .int 0]))]) [0, 1, 2, 3, 4, 5] rfl
  have hDc := hD.sub (ws' := [(mo, .inr (15, [.int th, .ref (lm 0), .ref (lm 1), .ref (lm 2), .ref (lm 3), .ref (lm 4), .int 0, .int 0])), ((lm 0), .inr (2, [.int 0, .ref e0, .int 0])), ((lm 1), .inr (2, [.int 0, .ref e0, .int 0])), ((lm 2), .inr (2, [.int 0, .ref e0, .int 0])), ((lm 3), .inr (2, [.int 0, .ref e0, .int 0])), ((lm 4), .inr (2, [.int 0, .ref e0, .int 0]))]) [0, 1, 2, 3, 4, 5] (by decide) rfl
  have hKc := hK.sub (tys' := []) [] rfl
  have hFc := va_free (wc := [(mo, .inr (15, [.int th, .ref (lm 0), .ref (lm 1), .ref (lm 2), .ref (lm 3), .ref (lm 4), .int 0, .int 0])), ((lm 0), .inr (2, [.int 0, .ref e0, .int 0])), ((lm 1), .inr (2, [.int 0, .ref e0, .int 0])), ((lm 2), .inr (2, [.int 0, .ref e0, .int 0])), ((lm 3), .inr (2, [.int 0, .ref e0, .int 0])), ((lm 4), .inr (2, [.int 0, .ref e0, .int 0]))]) hD hS hA [0, 1, 2, 3, 4, 5] rfl
  refine va_calli (va_runV (As := [.int a, .int b]) (rest := []) ⟨hx, hb, hml, hown, hts⟩ (c_X12_isNoStation l dC dI s.heap.size mo lm e0 th a b) (cwV 2 hts (goodIn_app (goodIn_of _ (by decide +kernel)) (goodIn_sub ((fun w h => List.mem_cons_of_mem _ (List.mem_append_right _ (h)))) zgX12_isNoStation)) rfl rfl rfl (by decide +kernel) ⟨Nat.le_of_ble_eq_true rfl, Nat.le_of_ble_eq_true rfl⟩) ⟨gPcE_blind, va_recv hK hP (ci := 15) (q0 := 0) rfl rfl, gPcE_pass hPc hKc hDc hE hS hFc⟩ rfl rfl hl.1 rfl (lv_room (Nat.le_of_ble_eq_true rfl)) dX12_proof_3 ⟨Nat.le_of_ble_eq_true rfl, Nat.le_of_ble_eq_true rfl⟩) hS (fun q _ h => hFc q h) hFc (fun r_1 u_2 t H locs ht hvm hw hB hz hk hS => ?_)
  obtain ⟨hP1, hK1, hD1⟩ := hB
  rw [ht] at hP1
  obtain ⟨hP, hD⟩ := va_join (wr := []) (w1 := [(mo, .inr (15, [.int u_2, .ref (lm 0), .ref (lm 1), .ref (lm 2), .ref (lm 3), .ref (lm 4), .int 0, .int 0])), ((lm 0), .inr (2, [.int 0, .ref e0, .int 0])), ((lm 1), .inr (2, [.int 0, .ref e0, .int 0])), ((lm 2), .inr (2, [.int 0, .ref e0, .int 0])), ((lm 3), .inr (2, [.int 0, .ref e0, .int 0])), ((lm 4), .inr (2, [.int 0, .ref e0, .int 0]))]) hP hD [0, 1, 2, 3, 4, 5] [] rfl rfl (by decide) (by decide) hk hFc hP1 hD1
  have hP : va_P (dC, dI) vwCl [(mo, .inr (15, [.int u_2, .ref (lm 0), .ref (lm 1), .ref (lm 2), .ref (lm 3), .ref (lm 4), .int 0, .int 0])), ((lm 0), .inr (2, [.int 0, .ref e0, .int 0])), ((lm 1), .inr (2, [.int 0, .ref e0, .int 0])), ((lm 2), .inr (2, [.int 0, .ref e0, .int 0])), ((lm 3), .inr (2, [.int 0, .ref e0, .int 0])), ((lm 4), .inr (2, [.int 0, .ref e0, .int 0]))] H := hP
  have hD : va_D A [(mo, .inr (15, [.int u_2, .ref (lm 0), .ref (lm 1), .ref (lm 2), .ref (lm 3), .ref (lm 4), .int 0, .int 0])), ((lm 0), .inr (2, [.int 0, .ref e0, .int 0])), ((lm 1), .inr (2, [.int 0, .ref e0, .int 0])), ((lm 2), .inr (2, [.int 0, .ref e0, .int 0])), ((lm 3), .inr (2, [.int 0, .ref e0, .int 0])), ((lm 4), .inr (2, [.int 0, .ref e0, .int 0]))] := hD
  have hw : r_1 = 1 ∧ u_2 = 1 := hw
  obtain ⟨rfl, rfl⟩ : r_1 = 1 ∧ u_2 = 1 := hw
  refine lv_if_eq (tgt := 11) hx hb dX12_proof_6 (by decide) (fun c_3 => absurd c_3 (by decide)) (fun _ => ?_)
  refine lv_iconst (v := 0) hx hb dX12_proof_9 (by decide) ?_
  have hP9 := hP.sub (ws' := [(mo, .inr (15, [.int 1, .ref (lm 0), .ref (lm 1), .ref (lm 2), .ref (lm 3), .ref (lm 4), .int 0, .int 0])), ((lm 0), .inr (2, [.int 0, .ref e0, .int 0])), ((lm 1), .inr (2, [.int 0, .ref e0, .int 0])), ((lm 2), .inr (2, [.int 0, .ref e0, .int 0])), ((lm 3), .inr (2, [.int 0, .ref e0, .int 0])), ((lm 4), .inr (2, [.int 0, .ref e0, .int 0]))]) [0, 1, 2, 3, 4, 5] rfl
  have hD9 := hD.sub (ws' := [(mo, .inr (15, [.int 1, .ref (lm 0), .ref (lm 1), .ref (lm 2), .ref (lm 3), .ref (lm 4), .int 0, .int 0])), ((lm 0), .inr (2, [.int 0, .ref e0, .int 0])), ((lm 1), .inr (2, [.int 0, .ref e0, .int 0])), ((lm 2), .inr (2, [.int 0, .ref e0, .int 0])), ((lm 3), .inr (2, [.int 0, .ref e0, .int 0])), ((lm 4), .inr (2, [.int 0, .ref e0, .int 0]))]) [0, 1, 2, 3, 4, 5] (by decide) rfl
  have hK9 := hK.sub (tys' := []) [] rfl
  refine W.widen (k := 0) (n := 0) (Nat.le_of_ble_eq_true rfl) (Nat.le_of_ble_eq_true rfl) ?_
  exact W.zret (v := 0) hx hb hr (by decide +kernel) (fun t ht hW => ⟨⟨0, 1, rfl, ⟨rfl, rfl⟩, by rw [ht]; exact hP9, va_K.moved hW.alike hK9, hD9⟩, hS.F ht⟩) hS.2.2 dX12_proof_10

def zwX12_states : List Cond := .code yX12_states cX12_states 3 (some .int) :: (([.methodLink RX12 178 yX12_isNoStation, .instanceMethod yX12_isNoStation, .selects RX12 yX12_isNoStation yX12_isNoStation, .initialized RX12] : List Cond) ++ (zwX12_isNoStation))
theorem zgX12_states : zwX12_states.all goodWord = true := zgo rfl (zga (by decide +kernel) (zgX12_isNoStation))
set_option maxHeartbeats 4000000 in
set_option maxRecDepth 100000 in
theorem c_X12_states (l : Launch) (dC : Nat → ClassId) (dI : Nat → Nat → Nat) (sz : Nat) (mo : Nat) (lm : Nat → Nat) (e0 : Nat) (th : Int32) (a : Int32) (b : Int32) : Met l yX12_states zwX12_states ({ frames := 3, cells := 0, slots := 0, locals := 65 }) (gPcE dC dI sz [(mo, .inr (15, [.int th, .ref (lm 0), .ref (lm 1), .ref (lm 2), .ref (lm 3), .ref (lm 4), .int 0, .int 0])), ((lm 0), .inr (2, [.int 0, .ref e0, .int 0])), ((lm 1), .inr (2, [.int 0, .ref e0, .int 0])), ((lm 2), .inr (2, [.int 0, .ref e0, .int 0])), ((lm 3), .inr (2, [.int 0, .ref e0, .int 0])), ((lm 4), .inr (2, [.int 0, .ref e0, .int 0]))] [] [.ref mo, .int a, .int b]) (va_Qi (fun (r : Int32) (u : Int32) => r = 0 ∧ u = 1) (fun u t => va_P (dC, dI) vwCl [(mo, .inr (15, [.int u, .ref (lm 0), .ref (lm 1), .ref (lm 2), .ref (lm 3), .ref (lm 4), .int 0, .int 0])), ((lm 0), .inr (2, [.int 0, .ref e0, .int 0])), ((lm 1), .inr (2, [.int 0, .ref e0, .int 0])), ((lm 2), .inr (2, [.int 0, .ref e0, .int 0])), ((lm 3), .inr (2, [.int 0, .ref e0, .int 0])), ((lm 4), .inr (2, [.int 0, .ref e0, .int 0]))] t.heap ∧ va_K (dC, dI) vwCl [] t ∧ va_D (va_A [(mo, .inr (15, [.int th, .ref (lm 0), .ref (lm 1), .ref (lm 2), .ref (lm 3), .ref (lm 4), .int 0, .int 0])), ((lm 0), .inr (2, [.int 0, .ref e0, .int 0])), ((lm 1), .inr (2, [.int 0, .ref e0, .int 0])), ((lm 2), .inr (2, [.int 0, .ref e0, .int 0])), ((lm 3), .inr (2, [.int 0, .ref e0, .int 0])), ((lm 4), .inr (2, [.int 0, .ref e0, .int 0]))] sz) [(mo, .inr (15, [.int u, .ref (lm 0), .ref (lm 1), .ref (lm 2), .ref (lm 3), .ref (lm 4), .int 0, .int 0])), ((lm 0), .inr (2, [.int 0, .ref e0, .int 0])), ((lm 1), .inr (2, [.int 0, .ref e0, .int 0])), ((lm 2), .inr (2, [.int 0, .ref e0, .int 0])), ((lm 3), .inr (2, [.int 0, .ref e0, .int 0])), ((lm 4), .inr (2, [.int 0, .ref e0, .int 0]))]) (va_A [(mo, .inr (15, [.int th, .ref (lm 0), .ref (lm 1), .ref (lm 2), .ref (lm 3), .ref (lm 4), .int 0, .int 0])), ((lm 0), .inr (2, [.int 0, .ref e0, .int 0])), ((lm 1), .inr (2, [.int 0, .ref e0, .int 0])), ((lm 2), .inr (2, [.int 0, .ref e0, .int 0])), ((lm 3), .inr (2, [.int 0, .ref e0, .int 0])), ((lm 4), .inr (2, [.int 0, .ref e0, .int 0]))] sz)) 0 0 (va_A [(mo, .inr (15, [.int th, .ref (lm 0), .ref (lm 1), .ref (lm 2), .ref (lm 3), .ref (lm 4), .int 0, .int 0])), ((lm 0), .inr (2, [.int 0, .ref e0, .int 0])), ((lm 1), .inr (2, [.int 0, .ref e0, .int 0])), ((lm 2), .inr (2, [.int 0, .ref e0, .int 0])), ((lm 3), .inr (2, [.int 0, .ref e0, .int 0])), ((lm 4), .inr (2, [.int 0, .ref e0, .int 0]))] sz) := by
  refine Met.ofW (cc := cX12_states) (maxL := 3) (ret := (some .int)) (by decide) rfl ?_
  intro p e s m args below meth c s₁ B hml hv
  obtain ⟨rfl, hsz, hP, hK, hD0, hE⟩ := hv
  have hx := B.exec
  have hb := B.bytes
  have hr := B.returns
  have hts := atoms_spec (ws := zwX12_states) B.pre
  have hown : s.vm.findClass RX12 = some m.cls := findClass_of_methodNamed B.named
  have hlocks := B.notSynchronized
  subst hsz
  have hD := hD0.self (sz := s.heap.size)
  generalize hAe : va_A [(mo, .inr (15, [.int th, .ref (lm 0), .ref (lm 1), .ref (lm 2), .ref (lm 3), .ref (lm 4), .int 0, .int 0])), ((lm 0), .inr (2, [.int 0, .ref e0, .int 0])), ((lm 1), .inr (2, [.int 0, .ref e0, .int 0])), ((lm 2), .inr (2, [.int 0, .ref e0, .int 0])), ((lm 3), .inr (2, [.int 0, .ref e0, .int 0])), ((lm 4), .inr (2, [.int 0, .ref e0, .int 0]))] s.heap.size = A at hD hE ⊢
  have hA : ∀ q : Nat, s.heap.size ≤ q → A q := fun q h => by rw [← hAe]; exact Or.inr h
  have hS : va_S A s.heap s.heap [] := va_S.rf
  have hP : va_P (dC, dI) vwCl [(mo, .inr (15, [.int th, .ref (lm 0), .ref (lm 1), .ref (lm 2), .ref (lm 3), .ref (lm 4), .int 0, .int 0])), ((lm 0), .inr (2, [.int 0, .ref e0, .int 0])), ((lm 1), .inr (2, [.int 0, .ref e0, .int 0])), ((lm 2), .inr (2, [.int 0, .ref e0, .int 0])), ((lm 3), .inr (2, [.int 0, .ref e0, .int 0])), ((lm 4), .inr (2, [.int 0, .ref e0, .int 0]))] s.heap := hP
  have hl := lv_entry ([.ref mo, .int a, .int b]) (n := 3) (Nat.le_of_ble_eq_true rfl)
  rw [lg_entry_eq]
  generalize (lg_sl ([.ref mo, .int a, .int b]) ++ List.replicate (3 - (lg_sl ([.ref mo, .int a, .int b])).length) Slot.unset).toArray = ls at hl ⊢
  have hl : lv_has ls 3 [(0, .ref mo), (1, .int a), (2, .int b)] := hl
  refine lv_aload_n hx hb dX12_states_0 rfl (lv_at hl 0 rfl) ?_
  refine lv_iload_n hx hb dX12_states_1 rfl (lv_at hl 1 rfl) ?_
  refine lv_iload_n hx hb dX12_states_2 rfl (lv_at hl 2 rfl) ?_
  have hPc := hP.sub (ws' := [(mo, .inr (15, [.int th, .ref (lm 0), .ref (lm 1), .ref (lm 2), .ref (lm 3), .ref (lm 4), .int 0, .int 0])), ((lm 0), .inr (2, [.int 0, .ref e0, .int 0])), ((lm 1), .inr (2, [.int 0, .ref e0, .int 0])), ((lm 2), .inr (2, [.int 0, .ref e0, .int 0])), ((lm 3), .inr (2, [.int 0, .ref e0, .int 0])), ((lm 4), .inr (2, [.int 0, .ref e0, .int 0]))]) [0, 1, 2, 3, 4, 5] rfl
  have hDc := hD.sub (ws' := [(mo, .inr (15, [.int th, .ref (lm 0), .ref (lm 1), .ref (lm 2), .ref (lm 3), .ref (lm 4), .int 0, .int 0])), ((lm 0), .inr (2, [.int 0, .ref e0, .int 0])), ((lm 1), .inr (2, [.int 0, .ref e0, .int 0])), ((lm 2), .inr (2, [.int 0, .ref e0, .int 0])), ((lm 3), .inr (2, [.int 0, .ref e0, .int 0])), ((lm 4), .inr (2, [.int 0, .ref e0, .int 0]))]) [0, 1, 2, 3, 4, 5] (by decide) rfl
  have hKc := hK.sub (tys' := []) [] rfl
  have hFc := va_free (wc := [(mo, .inr (15, [.int th, .ref (lm 0), .ref (lm 1), .ref (lm 2), .ref (lm 3), .ref (lm 4), .int 0, .int 0])), ((lm 0), .inr (2, [.int 0, .ref e0, .int 0])), ((lm 1), .inr (2, [.int 0, .ref e0, .int 0])), ((lm 2), .inr (2, [.int 0, .ref e0, .int 0])), ((lm 3), .inr (2, [.int 0, .ref e0, .int 0])), ((lm 4), .inr (2, [.int 0, .ref e0, .int 0]))]) hD hS hA [0, 1, 2, 3, 4, 5] rfl
  refine va_calli (va_runV (As := [.int a, .int b]) (rest := []) ⟨hx, hb, hml, hown, hts⟩ (c_X12_isNoStation l dC dI s.heap.size mo lm e0 th a b) (cwV 2 hts (goodIn_app (goodIn_of _ (by decide +kernel)) (goodIn_sub ((fun w h => List.mem_cons_of_mem _ (List.mem_append_right _ (h)))) zgX12_isNoStation)) rfl rfl rfl (by decide +kernel) ⟨Nat.le_of_ble_eq_true rfl, Nat.le_of_ble_eq_true rfl⟩) ⟨gPcE_blind, va_recv hK hP (ci := 15) (q0 := 0) rfl rfl, gPcE_pass hPc hKc hDc hE hS hFc⟩ rfl rfl hl.1 rfl (lv_room (Nat.le_of_ble_eq_true rfl)) dX12_states_3 ⟨Nat.le_of_ble_eq_true rfl, Nat.le_of_ble_eq_true rfl⟩) hS (fun q _ h => hFc q h) hFc (fun r_1 u_2 t H locs ht hvm hw hB hz hk hS => ?_)
  obtain ⟨hP1, hK1, hD1⟩ := hB
  rw [ht] at hP1
  obtain ⟨hP, hD⟩ := va_join (wr := []) (w1 := [(mo, .inr (15, [.int u_2, .ref (lm 0), .ref (lm 1), .ref (lm 2), .ref (lm 3), .ref (lm 4), .int 0, .int 0])), ((lm 0), .inr (2, [.int 0, .ref e0, .int 0])), ((lm 1), .inr (2, [.int 0, .ref e0, .int 0])), ((lm 2), .inr (2, [.int 0, .ref e0, .int 0])), ((lm 3), .inr (2, [.int 0, .ref e0, .int 0])), ((lm 4), .inr (2, [.int 0, .ref e0, .int 0]))]) hP hD [0, 1, 2, 3, 4, 5] [] rfl rfl (by decide) (by decide) hk hFc hP1 hD1
  have hP : va_P (dC, dI) vwCl [(mo, .inr (15, [.int u_2, .ref (lm 0), .ref (lm 1), .ref (lm 2), .ref (lm 3), .ref (lm 4), .int 0, .int 0])), ((lm 0), .inr (2, [.int 0, .ref e0, .int 0])), ((lm 1), .inr (2, [.int 0, .ref e0, .int 0])), ((lm 2), .inr (2, [.int 0, .ref e0, .int 0])), ((lm 3), .inr (2, [.int 0, .ref e0, .int 0])), ((lm 4), .inr (2, [.int 0, .ref e0, .int 0]))] H := hP
  have hD : va_D A [(mo, .inr (15, [.int u_2, .ref (lm 0), .ref (lm 1), .ref (lm 2), .ref (lm 3), .ref (lm 4), .int 0, .int 0])), ((lm 0), .inr (2, [.int 0, .ref e0, .int 0])), ((lm 1), .inr (2, [.int 0, .ref e0, .int 0])), ((lm 2), .inr (2, [.int 0, .ref e0, .int 0])), ((lm 3), .inr (2, [.int 0, .ref e0, .int 0])), ((lm 4), .inr (2, [.int 0, .ref e0, .int 0]))] := hD
  have hw : r_1 = 1 ∧ u_2 = 1 := hw
  obtain ⟨rfl, rfl⟩ : r_1 = 1 ∧ u_2 = 1 := hw
  refine lv_if_eq (tgt := 13) hx hb dX12_states_6 (by decide) (fun c_3 => absurd c_3 (by decide)) (fun _ => ?_)
  refine lv_iconst (v := 0) hx hb dX12_states_9 (by decide) ?_
  refine lv_goto (tgt := 24) hx hb dX12_states_10 (by decide) ?_
  have hP9 := hP.sub (ws' := [(mo, .inr (15, [.int 1, .ref (lm 0), .ref (lm 1), .ref (lm 2), .ref (lm 3), .ref (lm 4), .int 0, .int 0])), ((lm 0), .inr (2, [.int 0, .ref e0, .int 0])), ((lm 1), .inr (2, [.int 0, .ref e0, .int 0])), ((lm 2), .inr (2, [.int 0, .ref e0, .int 0])), ((lm 3), .inr (2, [.int 0, .ref e0, .int 0])), ((lm 4), .inr (2, [.int 0, .ref e0, .int 0]))]) [0, 1, 2, 3, 4, 5] rfl
  have hD9 := hD.sub (ws' := [(mo, .inr (15, [.int 1, .ref (lm 0), .ref (lm 1), .ref (lm 2), .ref (lm 3), .ref (lm 4), .int 0, .int 0])), ((lm 0), .inr (2, [.int 0, .ref e0, .int 0])), ((lm 1), .inr (2, [.int 0, .ref e0, .int 0])), ((lm 2), .inr (2, [.int 0, .ref e0, .int 0])), ((lm 3), .inr (2, [.int 0, .ref e0, .int 0])), ((lm 4), .inr (2, [.int 0, .ref e0, .int 0]))]) [0, 1, 2, 3, 4, 5] (by decide) rfl
  have hK9 := hK.sub (tys' := []) [] rfl
  refine W.widen (k := 0) (n := 0) (Nat.le_of_ble_eq_true rfl) (Nat.le_of_ble_eq_true rfl) ?_
  exact W.iret (v := 0) hx hb hr (fun t ht hW => ⟨⟨0, 1, rfl, ⟨rfl, rfl⟩, by rw [ht]; exact hP9, va_K.moved hW.alike hK9, hD9⟩, hS.F ht⟩) hS.2.2 dX12_states_24

def zwX12_die : List Cond := .code yX12_die cX12_die 4 (some .boolean) :: (([.methodLink RX12 282 yX12_isNoRobot, .instanceMethod yX12_isNoRobot, .selects RX12 yX12_isNoRobot yX12_isNoRobot, .initialized RX12] : List Cond) ++ (zwX12_isNoRobot))
theorem zgX12_die : zwX12_die.all goodWord = true := zgo rfl (zga (by decide +kernel) (zgX12_isNoRobot))
set_option maxHeartbeats 4000000 in
set_option maxRecDepth 100000 in
theorem c_X12_die (l : Launch) (dC : Nat → ClassId) (dI : Nat → Nat → Nat) (sz : Nat) (mo : Nat) (lm : Nat → Nat) (e0 : Nat) (th : Int32) (a : Int32) (b : Int32) : Met l yX12_die zwX12_die ({ frames := 3, cells := 0, slots := 0, locals := 64 }) (gPcE dC dI sz [(mo, .inr (15, [.int th, .ref (lm 0), .ref (lm 1), .ref (lm 2), .ref (lm 3), .ref (lm 4), .int 0, .int 0])), ((lm 0), .inr (2, [.int 0, .ref e0, .int 0])), ((lm 1), .inr (2, [.int 0, .ref e0, .int 0])), ((lm 2), .inr (2, [.int 0, .ref e0, .int 0])), ((lm 3), .inr (2, [.int 0, .ref e0, .int 0])), ((lm 4), .inr (2, [.int 0, .ref e0, .int 0]))] [] [.ref mo, .int a, .int b]) (va_Qi (fun (r : Int32) (u : Int32) => r = 0 ∧ u = 1) (fun u t => va_P (dC, dI) vwCl [(mo, .inr (15, [.int u, .ref (lm 0), .ref (lm 1), .ref (lm 2), .ref (lm 3), .ref (lm 4), .int 0, .int 0])), ((lm 0), .inr (2, [.int 0, .ref e0, .int 0])), ((lm 1), .inr (2, [.int 0, .ref e0, .int 0])), ((lm 2), .inr (2, [.int 0, .ref e0, .int 0])), ((lm 3), .inr (2, [.int 0, .ref e0, .int 0])), ((lm 4), .inr (2, [.int 0, .ref e0, .int 0]))] t.heap ∧ va_K (dC, dI) vwCl [] t ∧ va_D (va_A [(mo, .inr (15, [.int th, .ref (lm 0), .ref (lm 1), .ref (lm 2), .ref (lm 3), .ref (lm 4), .int 0, .int 0])), ((lm 0), .inr (2, [.int 0, .ref e0, .int 0])), ((lm 1), .inr (2, [.int 0, .ref e0, .int 0])), ((lm 2), .inr (2, [.int 0, .ref e0, .int 0])), ((lm 3), .inr (2, [.int 0, .ref e0, .int 0])), ((lm 4), .inr (2, [.int 0, .ref e0, .int 0]))] sz) [(mo, .inr (15, [.int u, .ref (lm 0), .ref (lm 1), .ref (lm 2), .ref (lm 3), .ref (lm 4), .int 0, .int 0])), ((lm 0), .inr (2, [.int 0, .ref e0, .int 0])), ((lm 1), .inr (2, [.int 0, .ref e0, .int 0])), ((lm 2), .inr (2, [.int 0, .ref e0, .int 0])), ((lm 3), .inr (2, [.int 0, .ref e0, .int 0])), ((lm 4), .inr (2, [.int 0, .ref e0, .int 0]))]) (va_A [(mo, .inr (15, [.int th, .ref (lm 0), .ref (lm 1), .ref (lm 2), .ref (lm 3), .ref (lm 4), .int 0, .int 0])), ((lm 0), .inr (2, [.int 0, .ref e0, .int 0])), ((lm 1), .inr (2, [.int 0, .ref e0, .int 0])), ((lm 2), .inr (2, [.int 0, .ref e0, .int 0])), ((lm 3), .inr (2, [.int 0, .ref e0, .int 0])), ((lm 4), .inr (2, [.int 0, .ref e0, .int 0]))] sz)) 0 0 (va_A [(mo, .inr (15, [.int th, .ref (lm 0), .ref (lm 1), .ref (lm 2), .ref (lm 3), .ref (lm 4), .int 0, .int 0])), ((lm 0), .inr (2, [.int 0, .ref e0, .int 0])), ((lm 1), .inr (2, [.int 0, .ref e0, .int 0])), ((lm 2), .inr (2, [.int 0, .ref e0, .int 0])), ((lm 3), .inr (2, [.int 0, .ref e0, .int 0])), ((lm 4), .inr (2, [.int 0, .ref e0, .int 0]))] sz) := by
  refine Met.ofW (cc := cX12_die) (maxL := 4) (ret := (some .boolean)) (by decide) rfl ?_
  intro p e s m args below meth c s₁ B hml hv
  obtain ⟨rfl, hsz, hP, hK, hD0, hE⟩ := hv
  have hx := B.exec
  have hb := B.bytes
  have hr := B.returns
  have hts := atoms_spec (ws := zwX12_die) B.pre
  have hown : s.vm.findClass RX12 = some m.cls := findClass_of_methodNamed B.named
  have hlocks := B.notSynchronized
  subst hsz
  have hD := hD0.self (sz := s.heap.size)
  generalize hAe : va_A [(mo, .inr (15, [.int th, .ref (lm 0), .ref (lm 1), .ref (lm 2), .ref (lm 3), .ref (lm 4), .int 0, .int 0])), ((lm 0), .inr (2, [.int 0, .ref e0, .int 0])), ((lm 1), .inr (2, [.int 0, .ref e0, .int 0])), ((lm 2), .inr (2, [.int 0, .ref e0, .int 0])), ((lm 3), .inr (2, [.int 0, .ref e0, .int 0])), ((lm 4), .inr (2, [.int 0, .ref e0, .int 0]))] s.heap.size = A at hD hE ⊢
  have hA : ∀ q : Nat, s.heap.size ≤ q → A q := fun q h => by rw [← hAe]; exact Or.inr h
  have hS : va_S A s.heap s.heap [] := va_S.rf
  have hP : va_P (dC, dI) vwCl [(mo, .inr (15, [.int th, .ref (lm 0), .ref (lm 1), .ref (lm 2), .ref (lm 3), .ref (lm 4), .int 0, .int 0])), ((lm 0), .inr (2, [.int 0, .ref e0, .int 0])), ((lm 1), .inr (2, [.int 0, .ref e0, .int 0])), ((lm 2), .inr (2, [.int 0, .ref e0, .int 0])), ((lm 3), .inr (2, [.int 0, .ref e0, .int 0])), ((lm 4), .inr (2, [.int 0, .ref e0, .int 0]))] s.heap := hP
  have hl := lv_entry ([.ref mo, .int a, .int b]) (n := 4) (Nat.le_of_ble_eq_true rfl)
  rw [lg_entry_eq]
  generalize (lg_sl ([.ref mo, .int a, .int b]) ++ List.replicate (4 - (lg_sl ([.ref mo, .int a, .int b])).length) Slot.unset).toArray = ls at hl ⊢
  have hl : lv_has ls 4 [(0, .ref mo), (1, .int a), (2, .int b)] := hl
  refine lv_aload_n hx hb dX12_die_0 rfl (lv_at hl 0 rfl) ?_
  refine lv_iload_n hx hb dX12_die_1 rfl (lv_at hl 1 rfl) ?_
  have hPc := hP.sub (ws' := [(mo, .inr (15, [.int th, .ref (lm 0), .ref (lm 1), .ref (lm 2), .ref (lm 3), .ref (lm 4), .int 0, .int 0])), ((lm 0), .inr (2, [.int 0, .ref e0, .int 0])), ((lm 1), .inr (2, [.int 0, .ref e0, .int 0])), ((lm 2), .inr (2, [.int 0, .ref e0, .int 0])), ((lm 3), .inr (2, [.int 0, .ref e0, .int 0])), ((lm 4), .inr (2, [.int 0, .ref e0, .int 0]))]) [0, 1, 2, 3, 4, 5] rfl
  have hDc := hD.sub (ws' := [(mo, .inr (15, [.int th, .ref (lm 0), .ref (lm 1), .ref (lm 2), .ref (lm 3), .ref (lm 4), .int 0, .int 0])), ((lm 0), .inr (2, [.int 0, .ref e0, .int 0])), ((lm 1), .inr (2, [.int 0, .ref e0, .int 0])), ((lm 2), .inr (2, [.int 0, .ref e0, .int 0])), ((lm 3), .inr (2, [.int 0, .ref e0, .int 0])), ((lm 4), .inr (2, [.int 0, .ref e0, .int 0]))]) [0, 1, 2, 3, 4, 5] (by decide) rfl
  have hKc := hK.sub (tys' := []) [] rfl
  have hFc := va_free (wc := [(mo, .inr (15, [.int th, .ref (lm 0), .ref (lm 1), .ref (lm 2), .ref (lm 3), .ref (lm 4), .int 0, .int 0])), ((lm 0), .inr (2, [.int 0, .ref e0, .int 0])), ((lm 1), .inr (2, [.int 0, .ref e0, .int 0])), ((lm 2), .inr (2, [.int 0, .ref e0, .int 0])), ((lm 3), .inr (2, [.int 0, .ref e0, .int 0])), ((lm 4), .inr (2, [.int 0, .ref e0, .int 0]))]) hD hS hA [0, 1, 2, 3, 4, 5] rfl
  refine va_calli (va_runV (As := [.int a]) (rest := []) ⟨hx, hb, hml, hown, hts⟩ (c_X12_isNoRobot l dC dI s.heap.size mo lm e0 th a) (cwV 1 hts (goodIn_app (goodIn_of _ (by decide +kernel)) (goodIn_sub ((fun w h => List.mem_cons_of_mem _ (List.mem_append_right _ (h)))) zgX12_isNoRobot)) rfl rfl rfl (by decide +kernel) ⟨Nat.le_of_ble_eq_true rfl, Nat.le_of_ble_eq_true rfl⟩) ⟨gPcE_blind, va_recv hK hP (ci := 15) (q0 := 0) rfl rfl, gPcE_pass hPc hKc hDc hE hS hFc⟩ rfl rfl hl.1 rfl (lv_room (Nat.le_of_ble_eq_true rfl)) dX12_die_2 ⟨Nat.le_of_ble_eq_true rfl, Nat.le_of_ble_eq_true rfl⟩) hS (fun q _ h => hFc q h) hFc (fun r_1 u_2 t H locs ht hvm hw hB hz hk hS => ?_)
  obtain ⟨hP1, hK1, hD1⟩ := hB
  rw [ht] at hP1
  obtain ⟨hP, hD⟩ := va_join (wr := []) (w1 := [(mo, .inr (15, [.int u_2, .ref (lm 0), .ref (lm 1), .ref (lm 2), .ref (lm 3), .ref (lm 4), .int 0, .int 0])), ((lm 0), .inr (2, [.int 0, .ref e0, .int 0])), ((lm 1), .inr (2, [.int 0, .ref e0, .int 0])), ((lm 2), .inr (2, [.int 0, .ref e0, .int 0])), ((lm 3), .inr (2, [.int 0, .ref e0, .int 0])), ((lm 4), .inr (2, [.int 0, .ref e0, .int 0]))]) hP hD [0, 1, 2, 3, 4, 5] [] rfl rfl (by decide) (by decide) hk hFc hP1 hD1
  have hP : va_P (dC, dI) vwCl [(mo, .inr (15, [.int u_2, .ref (lm 0), .ref (lm 1), .ref (lm 2), .ref (lm 3), .ref (lm 4), .int 0, .int 0])), ((lm 0), .inr (2, [.int 0, .ref e0, .int 0])), ((lm 1), .inr (2, [.int 0, .ref e0, .int 0])), ((lm 2), .inr (2, [.int 0, .ref e0, .int 0])), ((lm 3), .inr (2, [.int 0, .ref e0, .int 0])), ((lm 4), .inr (2, [.int 0, .ref e0, .int 0]))] H := hP
  have hD : va_D A [(mo, .inr (15, [.int u_2, .ref (lm 0), .ref (lm 1), .ref (lm 2), .ref (lm 3), .ref (lm 4), .int 0, .int 0])), ((lm 0), .inr (2, [.int 0, .ref e0, .int 0])), ((lm 1), .inr (2, [.int 0, .ref e0, .int 0])), ((lm 2), .inr (2, [.int 0, .ref e0, .int 0])), ((lm 3), .inr (2, [.int 0, .ref e0, .int 0])), ((lm 4), .inr (2, [.int 0, .ref e0, .int 0]))] := hD
  have hw : r_1 = 1 ∧ u_2 = 1 := hw
  obtain ⟨rfl, rfl⟩ : r_1 = 1 ∧ u_2 = 1 := hw
  refine lv_if_eq (tgt := 10) hx hb dX12_die_5 (by decide) (fun c_3 => absurd c_3 (by decide)) (fun _ => ?_)
  refine lv_iconst (v := 0) hx hb dX12_die_8 (by decide) ?_
  have hP9 := hP.sub (ws' := [(mo, .inr (15, [.int 1, .ref (lm 0), .ref (lm 1), .ref (lm 2), .ref (lm 3), .ref (lm 4), .int 0, .int 0])), ((lm 0), .inr (2, [.int 0, .ref e0, .int 0])), ((lm 1), .inr (2, [.int 0, .ref e0, .int 0])), ((lm 2), .inr (2, [.int 0, .ref e0, .int 0])), ((lm 3), .inr (2, [.int 0, .ref e0, .int 0])), ((lm 4), .inr (2, [.int 0, .ref e0, .int 0]))]) [0, 1, 2, 3, 4, 5] rfl
  have hD9 := hD.sub (ws' := [(mo, .inr (15, [.int 1, .ref (lm 0), .ref (lm 1), .ref (lm 2), .ref (lm 3), .ref (lm 4), .int 0, .int 0])), ((lm 0), .inr (2, [.int 0, .ref e0, .int 0])), ((lm 1), .inr (2, [.int 0, .ref e0, .int 0])), ((lm 2), .inr (2, [.int 0, .ref e0, .int 0])), ((lm 3), .inr (2, [.int 0, .ref e0, .int 0])), ((lm 4), .inr (2, [.int 0, .ref e0, .int 0]))]) [0, 1, 2, 3, 4, 5] (by decide) rfl
  have hK9 := hK.sub (tys' := []) [] rfl
  refine W.widen (k := 0) (n := 0) (Nat.le_of_ble_eq_true rfl) (Nat.le_of_ble_eq_true rfl) ?_
  exact W.zret (v := 0) hx hb hr (by decide +kernel) (fun t ht hW => ⟨⟨0, 1, rfl, ⟨rfl, rfl⟩, by rw [ht]; exact hP9, va_K.moved hW.alike hK9, hD9⟩, hS.F ht⟩) hS.2.2 dX12_die_9

def zwX12_wear : List Cond := .code yX12_wear cX12_wear 2 (some .int) :: (([.methodLink RX12 282 yX12_isNoRobot, .instanceMethod yX12_isNoRobot, .selects RX12 yX12_isNoRobot yX12_isNoRobot, .initialized RX12] : List Cond) ++ (zwX12_isNoRobot))
theorem zgX12_wear : zwX12_wear.all goodWord = true := zgo rfl (zga (by decide +kernel) (zgX12_isNoRobot))
set_option maxHeartbeats 4000000 in
set_option maxRecDepth 100000 in
theorem c_X12_wear (l : Launch) (dC : Nat → ClassId) (dI : Nat → Nat → Nat) (sz : Nat) (mo : Nat) (lm : Nat → Nat) (e0 : Nat) (th : Int32) (a : Int32) : Met l yX12_wear zwX12_wear ({ frames := 3, cells := 0, slots := 0, locals := 64 }) (gPcE dC dI sz [(mo, .inr (15, [.int th, .ref (lm 0), .ref (lm 1), .ref (lm 2), .ref (lm 3), .ref (lm 4), .int 0, .int 0])), ((lm 0), .inr (2, [.int 0, .ref e0, .int 0])), ((lm 1), .inr (2, [.int 0, .ref e0, .int 0])), ((lm 2), .inr (2, [.int 0, .ref e0, .int 0])), ((lm 3), .inr (2, [.int 0, .ref e0, .int 0])), ((lm 4), .inr (2, [.int 0, .ref e0, .int 0]))] [] [.ref mo, .int a]) (va_Qi (fun (r : Int32) (u : Int32) => r = 0 ∧ u = 1) (fun u t => va_P (dC, dI) vwCl [(mo, .inr (15, [.int u, .ref (lm 0), .ref (lm 1), .ref (lm 2), .ref (lm 3), .ref (lm 4), .int 0, .int 0])), ((lm 0), .inr (2, [.int 0, .ref e0, .int 0])), ((lm 1), .inr (2, [.int 0, .ref e0, .int 0])), ((lm 2), .inr (2, [.int 0, .ref e0, .int 0])), ((lm 3), .inr (2, [.int 0, .ref e0, .int 0])), ((lm 4), .inr (2, [.int 0, .ref e0, .int 0]))] t.heap ∧ va_K (dC, dI) vwCl [] t ∧ va_D (va_A [(mo, .inr (15, [.int th, .ref (lm 0), .ref (lm 1), .ref (lm 2), .ref (lm 3), .ref (lm 4), .int 0, .int 0])), ((lm 0), .inr (2, [.int 0, .ref e0, .int 0])), ((lm 1), .inr (2, [.int 0, .ref e0, .int 0])), ((lm 2), .inr (2, [.int 0, .ref e0, .int 0])), ((lm 3), .inr (2, [.int 0, .ref e0, .int 0])), ((lm 4), .inr (2, [.int 0, .ref e0, .int 0]))] sz) [(mo, .inr (15, [.int u, .ref (lm 0), .ref (lm 1), .ref (lm 2), .ref (lm 3), .ref (lm 4), .int 0, .int 0])), ((lm 0), .inr (2, [.int 0, .ref e0, .int 0])), ((lm 1), .inr (2, [.int 0, .ref e0, .int 0])), ((lm 2), .inr (2, [.int 0, .ref e0, .int 0])), ((lm 3), .inr (2, [.int 0, .ref e0, .int 0])), ((lm 4), .inr (2, [.int 0, .ref e0, .int 0]))]) (va_A [(mo, .inr (15, [.int th, .ref (lm 0), .ref (lm 1), .ref (lm 2), .ref (lm 3), .ref (lm 4), .int 0, .int 0])), ((lm 0), .inr (2, [.int 0, .ref e0, .int 0])), ((lm 1), .inr (2, [.int 0, .ref e0, .int 0])), ((lm 2), .inr (2, [.int 0, .ref e0, .int 0])), ((lm 3), .inr (2, [.int 0, .ref e0, .int 0])), ((lm 4), .inr (2, [.int 0, .ref e0, .int 0]))] sz)) 0 0 (va_A [(mo, .inr (15, [.int th, .ref (lm 0), .ref (lm 1), .ref (lm 2), .ref (lm 3), .ref (lm 4), .int 0, .int 0])), ((lm 0), .inr (2, [.int 0, .ref e0, .int 0])), ((lm 1), .inr (2, [.int 0, .ref e0, .int 0])), ((lm 2), .inr (2, [.int 0, .ref e0, .int 0])), ((lm 3), .inr (2, [.int 0, .ref e0, .int 0])), ((lm 4), .inr (2, [.int 0, .ref e0, .int 0]))] sz) := by
  refine Met.ofW (cc := cX12_wear) (maxL := 2) (ret := (some .int)) (by decide) rfl ?_
  intro p e s m args below meth c s₁ B hml hv
  obtain ⟨rfl, hsz, hP, hK, hD0, hE⟩ := hv
  have hx := B.exec
  have hb := B.bytes
  have hr := B.returns
  have hts := atoms_spec (ws := zwX12_wear) B.pre
  have hown : s.vm.findClass RX12 = some m.cls := findClass_of_methodNamed B.named
  have hlocks := B.notSynchronized
  subst hsz
  have hD := hD0.self (sz := s.heap.size)
  generalize hAe : va_A [(mo, .inr (15, [.int th, .ref (lm 0), .ref (lm 1), .ref (lm 2), .ref (lm 3), .ref (lm 4), .int 0, .int 0])), ((lm 0), .inr (2, [.int 0, .ref e0, .int 0])), ((lm 1), .inr (2, [.int 0, .ref e0, .int 0])), ((lm 2), .inr (2, [.int 0, .ref e0, .int 0])), ((lm 3), .inr (2, [.int 0, .ref e0, .int 0])), ((lm 4), .inr (2, [.int 0, .ref e0, .int 0]))] s.heap.size = A at hD hE ⊢
  have hA : ∀ q : Nat, s.heap.size ≤ q → A q := fun q h => by rw [← hAe]; exact Or.inr h
  have hS : va_S A s.heap s.heap [] := va_S.rf
  have hP : va_P (dC, dI) vwCl [(mo, .inr (15, [.int th, .ref (lm 0), .ref (lm 1), .ref (lm 2), .ref (lm 3), .ref (lm 4), .int 0, .int 0])), ((lm 0), .inr (2, [.int 0, .ref e0, .int 0])), ((lm 1), .inr (2, [.int 0, .ref e0, .int 0])), ((lm 2), .inr (2, [.int 0, .ref e0, .int 0])), ((lm 3), .inr (2, [.int 0, .ref e0, .int 0])), ((lm 4), .inr (2, [.int 0, .ref e0, .int 0]))] s.heap := hP
  have hl := lv_entry ([.ref mo, .int a]) (n := 2) (Nat.le_of_ble_eq_true rfl)
  rw [lg_entry_eq]
  generalize (lg_sl ([.ref mo, .int a]) ++ List.replicate (2 - (lg_sl ([.ref mo, .int a])).length) Slot.unset).toArray = ls at hl ⊢
  have hl : lv_has ls 2 [(0, .ref mo), (1, .int a)] := hl
  refine lv_aload_n hx hb dX12_wear_0 rfl (lv_at hl 0 rfl) ?_
  refine lv_iload_n hx hb dX12_wear_1 rfl (lv_at hl 1 rfl) ?_
  have hPc := hP.sub (ws' := [(mo, .inr (15, [.int th, .ref (lm 0), .ref (lm 1), .ref (lm 2), .ref (lm 3), .ref (lm 4), .int 0, .int 0])), ((lm 0), .inr (2, [.int 0, .ref e0, .int 0])), ((lm 1), .inr (2, [.int 0, .ref e0, .int 0])), ((lm 2), .inr (2, [.int 0, .ref e0, .int 0])), ((lm 3), .inr (2, [.int 0, .ref e0, .int 0])), ((lm 4), .inr (2, [.int 0, .ref e0, .int 0]))]) [0, 1, 2, 3, 4, 5] rfl
  have hDc := hD.sub (ws' := [(mo, .inr (15, [.int th, .ref (lm 0), .ref (lm 1), .ref (lm 2), .ref (lm 3), .ref (lm 4), .int 0, .int 0])), ((lm 0), .inr (2, [.int 0, .ref e0, .int 0])), ((lm 1), .inr (2, [.int 0, .ref e0, .int 0])), ((lm 2), .inr (2, [.int 0, .ref e0, .int 0])), ((lm 3), .inr (2, [.int 0, .ref e0, .int 0])), ((lm 4), .inr (2, [.int 0, .ref e0, .int 0]))]) [0, 1, 2, 3, 4, 5] (by decide) rfl
  have hKc := hK.sub (tys' := []) [] rfl
  have hFc := va_free (wc := [(mo, .inr (15, [.int th, .ref (lm 0), .ref (lm 1), .ref (lm 2), .ref (lm 3), .ref (lm 4), .int 0, .int 0])), ((lm 0), .inr (2, [.int 0, .ref e0, .int 0])), ((lm 1), .inr (2, [.int 0, .ref e0, .int 0])), ((lm 2), .inr (2, [.int 0, .ref e0, .int 0])), ((lm 3), .inr (2, [.int 0, .ref e0, .int 0])), ((lm 4), .inr (2, [.int 0, .ref e0, .int 0]))]) hD hS hA [0, 1, 2, 3, 4, 5] rfl
  refine va_calli (va_runV (As := [.int a]) (rest := []) ⟨hx, hb, hml, hown, hts⟩ (c_X12_isNoRobot l dC dI s.heap.size mo lm e0 th a) (cwV 1 hts (goodIn_app (goodIn_of _ (by decide +kernel)) (goodIn_sub ((fun w h => List.mem_cons_of_mem _ (List.mem_append_right _ (h)))) zgX12_isNoRobot)) rfl rfl rfl (by decide +kernel) ⟨Nat.le_of_ble_eq_true rfl, Nat.le_of_ble_eq_true rfl⟩) ⟨gPcE_blind, va_recv hK hP (ci := 15) (q0 := 0) rfl rfl, gPcE_pass hPc hKc hDc hE hS hFc⟩ rfl rfl hl.1 rfl (lv_room (Nat.le_of_ble_eq_true rfl)) dX12_wear_2 ⟨Nat.le_of_ble_eq_true rfl, Nat.le_of_ble_eq_true rfl⟩) hS (fun q _ h => hFc q h) hFc (fun r_1 u_2 t H locs ht hvm hw hB hz hk hS => ?_)
  obtain ⟨hP1, hK1, hD1⟩ := hB
  rw [ht] at hP1
  obtain ⟨hP, hD⟩ := va_join (wr := []) (w1 := [(mo, .inr (15, [.int u_2, .ref (lm 0), .ref (lm 1), .ref (lm 2), .ref (lm 3), .ref (lm 4), .int 0, .int 0])), ((lm 0), .inr (2, [.int 0, .ref e0, .int 0])), ((lm 1), .inr (2, [.int 0, .ref e0, .int 0])), ((lm 2), .inr (2, [.int 0, .ref e0, .int 0])), ((lm 3), .inr (2, [.int 0, .ref e0, .int 0])), ((lm 4), .inr (2, [.int 0, .ref e0, .int 0]))]) hP hD [0, 1, 2, 3, 4, 5] [] rfl rfl (by decide) (by decide) hk hFc hP1 hD1
  have hP : va_P (dC, dI) vwCl [(mo, .inr (15, [.int u_2, .ref (lm 0), .ref (lm 1), .ref (lm 2), .ref (lm 3), .ref (lm 4), .int 0, .int 0])), ((lm 0), .inr (2, [.int 0, .ref e0, .int 0])), ((lm 1), .inr (2, [.int 0, .ref e0, .int 0])), ((lm 2), .inr (2, [.int 0, .ref e0, .int 0])), ((lm 3), .inr (2, [.int 0, .ref e0, .int 0])), ((lm 4), .inr (2, [.int 0, .ref e0, .int 0]))] H := hP
  have hD : va_D A [(mo, .inr (15, [.int u_2, .ref (lm 0), .ref (lm 1), .ref (lm 2), .ref (lm 3), .ref (lm 4), .int 0, .int 0])), ((lm 0), .inr (2, [.int 0, .ref e0, .int 0])), ((lm 1), .inr (2, [.int 0, .ref e0, .int 0])), ((lm 2), .inr (2, [.int 0, .ref e0, .int 0])), ((lm 3), .inr (2, [.int 0, .ref e0, .int 0])), ((lm 4), .inr (2, [.int 0, .ref e0, .int 0]))] := hD
  have hw : r_1 = 1 ∧ u_2 = 1 := hw
  obtain ⟨rfl, rfl⟩ : r_1 = 1 ∧ u_2 = 1 := hw
  refine lv_if_eq (tgt := 12) hx hb dX12_wear_5 (by decide) (fun c_3 => absurd c_3 (by decide)) (fun _ => ?_)
  refine lv_iconst (v := 0) hx hb dX12_wear_8 (by decide) ?_
  refine lv_goto (tgt := 28) hx hb dX12_wear_9 (by decide) ?_
  have hP9 := hP.sub (ws' := [(mo, .inr (15, [.int 1, .ref (lm 0), .ref (lm 1), .ref (lm 2), .ref (lm 3), .ref (lm 4), .int 0, .int 0])), ((lm 0), .inr (2, [.int 0, .ref e0, .int 0])), ((lm 1), .inr (2, [.int 0, .ref e0, .int 0])), ((lm 2), .inr (2, [.int 0, .ref e0, .int 0])), ((lm 3), .inr (2, [.int 0, .ref e0, .int 0])), ((lm 4), .inr (2, [.int 0, .ref e0, .int 0]))]) [0, 1, 2, 3, 4, 5] rfl
  have hD9 := hD.sub (ws' := [(mo, .inr (15, [.int 1, .ref (lm 0), .ref (lm 1), .ref (lm 2), .ref (lm 3), .ref (lm 4), .int 0, .int 0])), ((lm 0), .inr (2, [.int 0, .ref e0, .int 0])), ((lm 1), .inr (2, [.int 0, .ref e0, .int 0])), ((lm 2), .inr (2, [.int 0, .ref e0, .int 0])), ((lm 3), .inr (2, [.int 0, .ref e0, .int 0])), ((lm 4), .inr (2, [.int 0, .ref e0, .int 0]))]) [0, 1, 2, 3, 4, 5] (by decide) rfl
  have hK9 := hK.sub (tys' := []) [] rfl
  refine W.widen (k := 0) (n := 0) (Nat.le_of_ble_eq_true rfl) (Nat.le_of_ble_eq_true rfl) ?_
  exact W.iret (v := 0) hx hb hr (fun t ht hW => ⟨⟨0, 1, rfl, ⟨rfl, rfl⟩, by rw [ht]; exact hP9, va_K.moved hW.alike hK9, hD9⟩, hS.F ht⟩) hS.2.2 dX12_wear_28

def zwX12_change : List Cond := .code yX12_change cX12_change 3 (some .int) :: (([.methodLink RX12 282 yX12_isNoRobot, .instanceMethod yX12_isNoRobot, .selects RX12 yX12_isNoRobot yX12_isNoRobot, .initialized RX12] : List Cond) ++ (zwX12_isNoRobot))
theorem zgX12_change : zwX12_change.all goodWord = true := zgo rfl (zga (by decide +kernel) (zgX12_isNoRobot))
set_option maxHeartbeats 4000000 in
set_option maxRecDepth 100000 in
theorem c_X12_change (l : Launch) (dC : Nat → ClassId) (dI : Nat → Nat → Nat) (sz : Nat) (mo : Nat) (lm : Nat → Nat) (e0 : Nat) (th : Int32) (a : Int32) : Met l yX12_change zwX12_change ({ frames := 3, cells := 0, slots := 0, locals := 64 }) (gPcE dC dI sz [(mo, .inr (15, [.int th, .ref (lm 0), .ref (lm 1), .ref (lm 2), .ref (lm 3), .ref (lm 4), .int 0, .int 0])), ((lm 0), .inr (2, [.int 0, .ref e0, .int 0])), ((lm 1), .inr (2, [.int 0, .ref e0, .int 0])), ((lm 2), .inr (2, [.int 0, .ref e0, .int 0])), ((lm 3), .inr (2, [.int 0, .ref e0, .int 0])), ((lm 4), .inr (2, [.int 0, .ref e0, .int 0]))] [] [.ref mo, .int a]) (va_Qi (fun (r : Int32) (u : Int32) => r = 0 ∧ u = 1) (fun u t => va_P (dC, dI) vwCl [(mo, .inr (15, [.int u, .ref (lm 0), .ref (lm 1), .ref (lm 2), .ref (lm 3), .ref (lm 4), .int 0, .int 0])), ((lm 0), .inr (2, [.int 0, .ref e0, .int 0])), ((lm 1), .inr (2, [.int 0, .ref e0, .int 0])), ((lm 2), .inr (2, [.int 0, .ref e0, .int 0])), ((lm 3), .inr (2, [.int 0, .ref e0, .int 0])), ((lm 4), .inr (2, [.int 0, .ref e0, .int 0]))] t.heap ∧ va_K (dC, dI) vwCl [] t ∧ va_D (va_A [(mo, .inr (15, [.int th, .ref (lm 0), .ref (lm 1), .ref (lm 2), .ref (lm 3), .ref (lm 4), .int 0, .int 0])), ((lm 0), .inr (2, [.int 0, .ref e0, .int 0])), ((lm 1), .inr (2, [.int 0, .ref e0, .int 0])), ((lm 2), .inr (2, [.int 0, .ref e0, .int 0])), ((lm 3), .inr (2, [.int 0, .ref e0, .int 0])), ((lm 4), .inr (2, [.int 0, .ref e0, .int 0]))] sz) [(mo, .inr (15, [.int u, .ref (lm 0), .ref (lm 1), .ref (lm 2), .ref (lm 3), .ref (lm 4), .int 0, .int 0])), ((lm 0), .inr (2, [.int 0, .ref e0, .int 0])), ((lm 1), .inr (2, [.int 0, .ref e0, .int 0])), ((lm 2), .inr (2, [.int 0, .ref e0, .int 0])), ((lm 3), .inr (2, [.int 0, .ref e0, .int 0])), ((lm 4), .inr (2, [.int 0, .ref e0, .int 0]))]) (va_A [(mo, .inr (15, [.int th, .ref (lm 0), .ref (lm 1), .ref (lm 2), .ref (lm 3), .ref (lm 4), .int 0, .int 0])), ((lm 0), .inr (2, [.int 0, .ref e0, .int 0])), ((lm 1), .inr (2, [.int 0, .ref e0, .int 0])), ((lm 2), .inr (2, [.int 0, .ref e0, .int 0])), ((lm 3), .inr (2, [.int 0, .ref e0, .int 0])), ((lm 4), .inr (2, [.int 0, .ref e0, .int 0]))] sz)) 0 0 (va_A [(mo, .inr (15, [.int th, .ref (lm 0), .ref (lm 1), .ref (lm 2), .ref (lm 3), .ref (lm 4), .int 0, .int 0])), ((lm 0), .inr (2, [.int 0, .ref e0, .int 0])), ((lm 1), .inr (2, [.int 0, .ref e0, .int 0])), ((lm 2), .inr (2, [.int 0, .ref e0, .int 0])), ((lm 3), .inr (2, [.int 0, .ref e0, .int 0])), ((lm 4), .inr (2, [.int 0, .ref e0, .int 0]))] sz) := by
  refine Met.ofW (cc := cX12_change) (maxL := 3) (ret := (some .int)) (by decide) rfl ?_
  intro p e s m args below meth c s₁ B hml hv
  obtain ⟨rfl, hsz, hP, hK, hD0, hE⟩ := hv
  have hx := B.exec
  have hb := B.bytes
  have hr := B.returns
  have hts := atoms_spec (ws := zwX12_change) B.pre
  have hown : s.vm.findClass RX12 = some m.cls := findClass_of_methodNamed B.named
  have hlocks := B.notSynchronized
  subst hsz
  have hD := hD0.self (sz := s.heap.size)
  generalize hAe : va_A [(mo, .inr (15, [.int th, .ref (lm 0), .ref (lm 1), .ref (lm 2), .ref (lm 3), .ref (lm 4), .int 0, .int 0])), ((lm 0), .inr (2, [.int 0, .ref e0, .int 0])), ((lm 1), .inr (2, [.int 0, .ref e0, .int 0])), ((lm 2), .inr (2, [.int 0, .ref e0, .int 0])), ((lm 3), .inr (2, [.int 0, .ref e0, .int 0])), ((lm 4), .inr (2, [.int 0, .ref e0, .int 0]))] s.heap.size = A at hD hE ⊢
  have hA : ∀ q : Nat, s.heap.size ≤ q → A q := fun q h => by rw [← hAe]; exact Or.inr h
  have hS : va_S A s.heap s.heap [] := va_S.rf
  have hP : va_P (dC, dI) vwCl [(mo, .inr (15, [.int th, .ref (lm 0), .ref (lm 1), .ref (lm 2), .ref (lm 3), .ref (lm 4), .int 0, .int 0])), ((lm 0), .inr (2, [.int 0, .ref e0, .int 0])), ((lm 1), .inr (2, [.int 0, .ref e0, .int 0])), ((lm 2), .inr (2, [.int 0, .ref e0, .int 0])), ((lm 3), .inr (2, [.int 0, .ref e0, .int 0])), ((lm 4), .inr (2, [.int 0, .ref e0, .int 0]))] s.heap := hP
  have hl := lv_entry ([.ref mo, .int a]) (n := 3) (Nat.le_of_ble_eq_true rfl)
  rw [lg_entry_eq]
  generalize (lg_sl ([.ref mo, .int a]) ++ List.replicate (3 - (lg_sl ([.ref mo, .int a])).length) Slot.unset).toArray = ls at hl ⊢
  have hl : lv_has ls 3 [(0, .ref mo), (1, .int a)] := hl
  refine lv_aload_n hx hb dX12_change_0 rfl (lv_at hl 0 rfl) ?_
  refine lv_iload_n hx hb dX12_change_1 rfl (lv_at hl 1 rfl) ?_
  have hPc := hP.sub (ws' := [(mo, .inr (15, [.int th, .ref (lm 0), .ref (lm 1), .ref (lm 2), .ref (lm 3), .ref (lm 4), .int 0, .int 0])), ((lm 0), .inr (2, [.int 0, .ref e0, .int 0])), ((lm 1), .inr (2, [.int 0, .ref e0, .int 0])), ((lm 2), .inr (2, [.int 0, .ref e0, .int 0])), ((lm 3), .inr (2, [.int 0, .ref e0, .int 0])), ((lm 4), .inr (2, [.int 0, .ref e0, .int 0]))]) [0, 1, 2, 3, 4, 5] rfl
  have hDc := hD.sub (ws' := [(mo, .inr (15, [.int th, .ref (lm 0), .ref (lm 1), .ref (lm 2), .ref (lm 3), .ref (lm 4), .int 0, .int 0])), ((lm 0), .inr (2, [.int 0, .ref e0, .int 0])), ((lm 1), .inr (2, [.int 0, .ref e0, .int 0])), ((lm 2), .inr (2, [.int 0, .ref e0, .int 0])), ((lm 3), .inr (2, [.int 0, .ref e0, .int 0])), ((lm 4), .inr (2, [.int 0, .ref e0, .int 0]))]) [0, 1, 2, 3, 4, 5] (by decide) rfl
  have hKc := hK.sub (tys' := []) [] rfl
  have hFc := va_free (wc := [(mo, .inr (15, [.int th, .ref (lm 0), .ref (lm 1), .ref (lm 2), .ref (lm 3), .ref (lm 4), .int 0, .int 0])), ((lm 0), .inr (2, [.int 0, .ref e0, .int 0])), ((lm 1), .inr (2, [.int 0, .ref e0, .int 0])), ((lm 2), .inr (2, [.int 0, .ref e0, .int 0])), ((lm 3), .inr (2, [.int 0, .ref e0, .int 0])), ((lm 4), .inr (2, [.int 0, .ref e0, .int 0]))]) hD hS hA [0, 1, 2, 3, 4, 5] rfl
  refine va_calli (va_runV (As := [.int a]) (rest := []) ⟨hx, hb, hml, hown, hts⟩ (c_X12_isNoRobot l dC dI s.heap.size mo lm e0 th a) (cwV 1 hts (goodIn_app (goodIn_of _ (by decide +kernel)) (goodIn_sub ((fun w h => List.mem_cons_of_mem _ (List.mem_append_right _ (h)))) zgX12_isNoRobot)) rfl rfl rfl (by decide +kernel) ⟨Nat.le_of_ble_eq_true rfl, Nat.le_of_ble_eq_true rfl⟩) ⟨gPcE_blind, va_recv hK hP (ci := 15) (q0 := 0) rfl rfl, gPcE_pass hPc hKc hDc hE hS hFc⟩ rfl rfl hl.1 rfl (lv_room (Nat.le_of_ble_eq_true rfl)) dX12_change_2 ⟨Nat.le_of_ble_eq_true rfl, Nat.le_of_ble_eq_true rfl⟩) hS (fun q _ h => hFc q h) hFc (fun r_1 u_2 t H locs ht hvm hw hB hz hk hS => ?_)
  obtain ⟨hP1, hK1, hD1⟩ := hB
  rw [ht] at hP1
  obtain ⟨hP, hD⟩ := va_join (wr := []) (w1 := [(mo, .inr (15, [.int u_2, .ref (lm 0), .ref (lm 1), .ref (lm 2), .ref (lm 3), .ref (lm 4), .int 0, .int 0])), ((lm 0), .inr (2, [.int 0, .ref e0, .int 0])), ((lm 1), .inr (2, [.int 0, .ref e0, .int 0])), ((lm 2), .inr (2, [.int 0, .ref e0, .int 0])), ((lm 3), .inr (2, [.int 0, .ref e0, .int 0])), ((lm 4), .inr (2, [.int 0, .ref e0, .int 0]))]) hP hD [0, 1, 2, 3, 4, 5] [] rfl rfl (by decide) (by decide) hk hFc hP1 hD1
  have hP : va_P (dC, dI) vwCl [(mo, .inr (15, [.int u_2, .ref (lm 0), .ref (lm 1), .ref (lm 2), .ref (lm 3), .ref (lm 4), .int 0, .int 0])), ((lm 0), .inr (2, [.int 0, .ref e0, .int 0])), ((lm 1), .inr (2, [.int 0, .ref e0, .int 0])), ((lm 2), .inr (2, [.int 0, .ref e0, .int 0])), ((lm 3), .inr (2, [.int 0, .ref e0, .int 0])), ((lm 4), .inr (2, [.int 0, .ref e0, .int 0]))] H := hP
  have hD : va_D A [(mo, .inr (15, [.int u_2, .ref (lm 0), .ref (lm 1), .ref (lm 2), .ref (lm 3), .ref (lm 4), .int 0, .int 0])), ((lm 0), .inr (2, [.int 0, .ref e0, .int 0])), ((lm 1), .inr (2, [.int 0, .ref e0, .int 0])), ((lm 2), .inr (2, [.int 0, .ref e0, .int 0])), ((lm 3), .inr (2, [.int 0, .ref e0, .int 0])), ((lm 4), .inr (2, [.int 0, .ref e0, .int 0]))] := hD
  have hw : r_1 = 1 ∧ u_2 = 1 := hw
  obtain ⟨rfl, rfl⟩ : r_1 = 1 ∧ u_2 = 1 := hw
  refine lv_if_eq (tgt := 10) hx hb dX12_change_5 (by decide) (fun c_3 => absurd c_3 (by decide)) (fun _ => ?_)
  refine lv_iconst (v := 0) hx hb dX12_change_8 (by decide) ?_
  have hP9 := hP.sub (ws' := [(mo, .inr (15, [.int 1, .ref (lm 0), .ref (lm 1), .ref (lm 2), .ref (lm 3), .ref (lm 4), .int 0, .int 0])), ((lm 0), .inr (2, [.int 0, .ref e0, .int 0])), ((lm 1), .inr (2, [.int 0, .ref e0, .int 0])), ((lm 2), .inr (2, [.int 0, .ref e0, .int 0])), ((lm 3), .inr (2, [.int 0, .ref e0, .int 0])), ((lm 4), .inr (2, [.int 0, .ref e0, .int 0]))]) [0, 1, 2, 3, 4, 5] rfl
  have hD9 := hD.sub (ws' := [(mo, .inr (15, [.int 1, .ref (lm 0), .ref (lm 1), .ref (lm 2), .ref (lm 3), .ref (lm 4), .int 0, .int 0])), ((lm 0), .inr (2, [.int 0, .ref e0, .int 0])), ((lm 1), .inr (2, [.int 0, .ref e0, .int 0])), ((lm 2), .inr (2, [.int 0, .ref e0, .int 0])), ((lm 3), .inr (2, [.int 0, .ref e0, .int 0])), ((lm 4), .inr (2, [.int 0, .ref e0, .int 0]))]) [0, 1, 2, 3, 4, 5] (by decide) rfl
  have hK9 := hK.sub (tys' := []) [] rfl
  refine W.widen (k := 0) (n := 0) (Nat.le_of_ble_eq_true rfl) (Nat.le_of_ble_eq_true rfl) ?_
  exact W.iret (v := 0) hx hb hr (fun t ht hW => ⟨⟨0, 1, rfl, ⟨rfl, rfl⟩, by rw [ht]; exact hP9, va_K.moved hW.alike hK9, hD9⟩, hS.F ht⟩) hS.2.2 dX12_change_9

def zwX12_made : List Cond := .code yX12_made cX12_made 2 (some .int) :: (([.methodLink RX12 282 yX12_isNoRobot, .instanceMethod yX12_isNoRobot, .selects RX12 yX12_isNoRobot yX12_isNoRobot, .initialized RX12] : List Cond) ++ (zwX12_isNoRobot))
theorem zgX12_made : zwX12_made.all goodWord = true := zgo rfl (zga (by decide +kernel) (zgX12_isNoRobot))
set_option maxHeartbeats 4000000 in
set_option maxRecDepth 100000 in
theorem c_X12_made (l : Launch) (dC : Nat → ClassId) (dI : Nat → Nat → Nat) (sz : Nat) (mo : Nat) (lm : Nat → Nat) (e0 : Nat) (th : Int32) (a : Int32) : Met l yX12_made zwX12_made ({ frames := 3, cells := 0, slots := 0, locals := 64 }) (gPcE dC dI sz [(mo, .inr (15, [.int th, .ref (lm 0), .ref (lm 1), .ref (lm 2), .ref (lm 3), .ref (lm 4), .int 0, .int 0])), ((lm 0), .inr (2, [.int 0, .ref e0, .int 0])), ((lm 1), .inr (2, [.int 0, .ref e0, .int 0])), ((lm 2), .inr (2, [.int 0, .ref e0, .int 0])), ((lm 3), .inr (2, [.int 0, .ref e0, .int 0])), ((lm 4), .inr (2, [.int 0, .ref e0, .int 0]))] [] [.ref mo, .int a]) (va_Qi (fun (r : Int32) (u : Int32) => r = 0 ∧ u = 1) (fun u t => va_P (dC, dI) vwCl [(mo, .inr (15, [.int u, .ref (lm 0), .ref (lm 1), .ref (lm 2), .ref (lm 3), .ref (lm 4), .int 0, .int 0])), ((lm 0), .inr (2, [.int 0, .ref e0, .int 0])), ((lm 1), .inr (2, [.int 0, .ref e0, .int 0])), ((lm 2), .inr (2, [.int 0, .ref e0, .int 0])), ((lm 3), .inr (2, [.int 0, .ref e0, .int 0])), ((lm 4), .inr (2, [.int 0, .ref e0, .int 0]))] t.heap ∧ va_K (dC, dI) vwCl [] t ∧ va_D (va_A [(mo, .inr (15, [.int th, .ref (lm 0), .ref (lm 1), .ref (lm 2), .ref (lm 3), .ref (lm 4), .int 0, .int 0])), ((lm 0), .inr (2, [.int 0, .ref e0, .int 0])), ((lm 1), .inr (2, [.int 0, .ref e0, .int 0])), ((lm 2), .inr (2, [.int 0, .ref e0, .int 0])), ((lm 3), .inr (2, [.int 0, .ref e0, .int 0])), ((lm 4), .inr (2, [.int 0, .ref e0, .int 0]))] sz) [(mo, .inr (15, [.int u, .ref (lm 0), .ref (lm 1), .ref (lm 2), .ref (lm 3), .ref (lm 4), .int 0, .int 0])), ((lm 0), .inr (2, [.int 0, .ref e0, .int 0])), ((lm 1), .inr (2, [.int 0, .ref e0, .int 0])), ((lm 2), .inr (2, [.int 0, .ref e0, .int 0])), ((lm 3), .inr (2, [.int 0, .ref e0, .int 0])), ((lm 4), .inr (2, [.int 0, .ref e0, .int 0]))]) (va_A [(mo, .inr (15, [.int th, .ref (lm 0), .ref (lm 1), .ref (lm 2), .ref (lm 3), .ref (lm 4), .int 0, .int 0])), ((lm 0), .inr (2, [.int 0, .ref e0, .int 0])), ((lm 1), .inr (2, [.int 0, .ref e0, .int 0])), ((lm 2), .inr (2, [.int 0, .ref e0, .int 0])), ((lm 3), .inr (2, [.int 0, .ref e0, .int 0])), ((lm 4), .inr (2, [.int 0, .ref e0, .int 0]))] sz)) 0 0 (va_A [(mo, .inr (15, [.int th, .ref (lm 0), .ref (lm 1), .ref (lm 2), .ref (lm 3), .ref (lm 4), .int 0, .int 0])), ((lm 0), .inr (2, [.int 0, .ref e0, .int 0])), ((lm 1), .inr (2, [.int 0, .ref e0, .int 0])), ((lm 2), .inr (2, [.int 0, .ref e0, .int 0])), ((lm 3), .inr (2, [.int 0, .ref e0, .int 0])), ((lm 4), .inr (2, [.int 0, .ref e0, .int 0]))] sz) := by
  refine Met.ofW (cc := cX12_made) (maxL := 2) (ret := (some .int)) (by decide) rfl ?_
  intro p e s m args below meth c s₁ B hml hv
  obtain ⟨rfl, hsz, hP, hK, hD0, hE⟩ := hv
  have hx := B.exec
  have hb := B.bytes
  have hr := B.returns
  have hts := atoms_spec (ws := zwX12_made) B.pre
  have hown : s.vm.findClass RX12 = some m.cls := findClass_of_methodNamed B.named
  have hlocks := B.notSynchronized
  subst hsz
  have hD := hD0.self (sz := s.heap.size)
  generalize hAe : va_A [(mo, .inr (15, [.int th, .ref (lm 0), .ref (lm 1), .ref (lm 2), .ref (lm 3), .ref (lm 4), .int 0, .int 0])), ((lm 0), .inr (2, [.int 0, .ref e0, .int 0])), ((lm 1), .inr (2, [.int 0, .ref e0, .int 0])), ((lm 2), .inr (2, [.int 0, .ref e0, .int 0])), ((lm 3), .inr (2, [.int 0, .ref e0, .int 0])), ((lm 4), .inr (2, [.int 0, .ref e0, .int 0]))] s.heap.size = A at hD hE ⊢
  have hA : ∀ q : Nat, s.heap.size ≤ q → A q := fun q h => by rw [← hAe]; exact Or.inr h
  have hS : va_S A s.heap s.heap [] := va_S.rf
  have hP : va_P (dC, dI) vwCl [(mo, .inr (15, [.int th, .ref (lm 0), .ref (lm 1), .ref (lm 2), .ref (lm 3), .ref (lm 4), .int 0, .int 0])), ((lm 0), .inr (2, [.int 0, .ref e0, .int 0])), ((lm 1), .inr (2, [.int 0, .ref e0, .int 0])), ((lm 2), .inr (2, [.int 0, .ref e0, .int 0])), ((lm 3), .inr (2, [.int 0, .ref e0, .int 0])), ((lm 4), .inr (2, [.int 0, .ref e0, .int 0]))] s.heap := hP
  have hl := lv_entry ([.ref mo, .int a]) (n := 2) (Nat.le_of_ble_eq_true rfl)
  rw [lg_entry_eq]
  generalize (lg_sl ([.ref mo, .int a]) ++ List.replicate (2 - (lg_sl ([.ref mo, .int a])).length) Slot.unset).toArray = ls at hl ⊢
  have hl : lv_has ls 2 [(0, .ref mo), (1, .int a)] := hl
  refine lv_aload_n hx hb dX12_made_0 rfl (lv_at hl 0 rfl) ?_
  refine lv_iload_n hx hb dX12_made_1 rfl (lv_at hl 1 rfl) ?_
  have hPc := hP.sub (ws' := [(mo, .inr (15, [.int th, .ref (lm 0), .ref (lm 1), .ref (lm 2), .ref (lm 3), .ref (lm 4), .int 0, .int 0])), ((lm 0), .inr (2, [.int 0, .ref e0, .int 0])), ((lm 1), .inr (2, [.int 0, .ref e0, .int 0])), ((lm 2), .inr (2, [.int 0, .ref e0, .int 0])), ((lm 3), .inr (2, [.int 0, .ref e0, .int 0])), ((lm 4), .inr (2, [.int 0, .ref e0, .int 0]))]) [0, 1, 2, 3, 4, 5] rfl
  have hDc := hD.sub (ws' := [(mo, .inr (15, [.int th, .ref (lm 0), .ref (lm 1), .ref (lm 2), .ref (lm 3), .ref (lm 4), .int 0, .int 0])), ((lm 0), .inr (2, [.int 0, .ref e0, .int 0])), ((lm 1), .inr (2, [.int 0, .ref e0, .int 0])), ((lm 2), .inr (2, [.int 0, .ref e0, .int 0])), ((lm 3), .inr (2, [.int 0, .ref e0, .int 0])), ((lm 4), .inr (2, [.int 0, .ref e0, .int 0]))]) [0, 1, 2, 3, 4, 5] (by decide) rfl
  have hKc := hK.sub (tys' := []) [] rfl
  have hFc := va_free (wc := [(mo, .inr (15, [.int th, .ref (lm 0), .ref (lm 1), .ref (lm 2), .ref (lm 3), .ref (lm 4), .int 0, .int 0])), ((lm 0), .inr (2, [.int 0, .ref e0, .int 0])), ((lm 1), .inr (2, [.int 0, .ref e0, .int 0])), ((lm 2), .inr (2, [.int 0, .ref e0, .int 0])), ((lm 3), .inr (2, [.int 0, .ref e0, .int 0])), ((lm 4), .inr (2, [.int 0, .ref e0, .int 0]))]) hD hS hA [0, 1, 2, 3, 4, 5] rfl
  refine va_calli (va_runV (As := [.int a]) (rest := []) ⟨hx, hb, hml, hown, hts⟩ (c_X12_isNoRobot l dC dI s.heap.size mo lm e0 th a) (cwV 1 hts (goodIn_app (goodIn_of _ (by decide +kernel)) (goodIn_sub ((fun w h => List.mem_cons_of_mem _ (List.mem_append_right _ (h)))) zgX12_isNoRobot)) rfl rfl rfl (by decide +kernel) ⟨Nat.le_of_ble_eq_true rfl, Nat.le_of_ble_eq_true rfl⟩) ⟨gPcE_blind, va_recv hK hP (ci := 15) (q0 := 0) rfl rfl, gPcE_pass hPc hKc hDc hE hS hFc⟩ rfl rfl hl.1 rfl (lv_room (Nat.le_of_ble_eq_true rfl)) dX12_made_2 ⟨Nat.le_of_ble_eq_true rfl, Nat.le_of_ble_eq_true rfl⟩) hS (fun q _ h => hFc q h) hFc (fun r_1 u_2 t H locs ht hvm hw hB hz hk hS => ?_)
  obtain ⟨hP1, hK1, hD1⟩ := hB
  rw [ht] at hP1
  obtain ⟨hP, hD⟩ := va_join (wr := []) (w1 := [(mo, .inr (15, [.int u_2, .ref (lm 0), .ref (lm 1), .ref (lm 2), .ref (lm 3), .ref (lm 4), .int 0, .int 0])), ((lm 0), .inr (2, [.int 0, .ref e0, .int 0])), ((lm 1), .inr (2, [.int 0, .ref e0, .int 0])), ((lm 2), .inr (2, [.int 0, .ref e0, .int 0])), ((lm 3), .inr (2, [.int 0, .ref e0, .int 0])), ((lm 4), .inr (2, [.int 0, .ref e0, .int 0]))]) hP hD [0, 1, 2, 3, 4, 5] [] rfl rfl (by decide) (by decide) hk hFc hP1 hD1
  have hP : va_P (dC, dI) vwCl [(mo, .inr (15, [.int u_2, .ref (lm 0), .ref (lm 1), .ref (lm 2), .ref (lm 3), .ref (lm 4), .int 0, .int 0])), ((lm 0), .inr (2, [.int 0, .ref e0, .int 0])), ((lm 1), .inr (2, [.int 0, .ref e0, .int 0])), ((lm 2), .inr (2, [.int 0, .ref e0, .int 0])), ((lm 3), .inr (2, [.int 0, .ref e0, .int 0])), ((lm 4), .inr (2, [.int 0, .ref e0, .int 0]))] H := hP
  have hD : va_D A [(mo, .inr (15, [.int u_2, .ref (lm 0), .ref (lm 1), .ref (lm 2), .ref (lm 3), .ref (lm 4), .int 0, .int 0])), ((lm 0), .inr (2, [.int 0, .ref e0, .int 0])), ((lm 1), .inr (2, [.int 0, .ref e0, .int 0])), ((lm 2), .inr (2, [.int 0, .ref e0, .int 0])), ((lm 3), .inr (2, [.int 0, .ref e0, .int 0])), ((lm 4), .inr (2, [.int 0, .ref e0, .int 0]))] := hD
  have hw : r_1 = 1 ∧ u_2 = 1 := hw
  obtain ⟨rfl, rfl⟩ : r_1 = 1 ∧ u_2 = 1 := hw
  refine lv_if_eq (tgt := 12) hx hb dX12_made_5 (by decide) (fun c_3 => absurd c_3 (by decide)) (fun _ => ?_)
  refine lv_iconst (v := 0) hx hb dX12_made_8 (by decide) ?_
  refine lv_goto (tgt := 28) hx hb dX12_made_9 (by decide) ?_
  have hP9 := hP.sub (ws' := [(mo, .inr (15, [.int 1, .ref (lm 0), .ref (lm 1), .ref (lm 2), .ref (lm 3), .ref (lm 4), .int 0, .int 0])), ((lm 0), .inr (2, [.int 0, .ref e0, .int 0])), ((lm 1), .inr (2, [.int 0, .ref e0, .int 0])), ((lm 2), .inr (2, [.int 0, .ref e0, .int 0])), ((lm 3), .inr (2, [.int 0, .ref e0, .int 0])), ((lm 4), .inr (2, [.int 0, .ref e0, .int 0]))]) [0, 1, 2, 3, 4, 5] rfl
  have hD9 := hD.sub (ws' := [(mo, .inr (15, [.int 1, .ref (lm 0), .ref (lm 1), .ref (lm 2), .ref (lm 3), .ref (lm 4), .int 0, .int 0])), ((lm 0), .inr (2, [.int 0, .ref e0, .int 0])), ((lm 1), .inr (2, [.int 0, .ref e0, .int 0])), ((lm 2), .inr (2, [.int 0, .ref e0, .int 0])), ((lm 3), .inr (2, [.int 0, .ref e0, .int 0])), ((lm 4), .inr (2, [.int 0, .ref e0, .int 0]))]) [0, 1, 2, 3, 4, 5] (by decide) rfl
  have hK9 := hK.sub (tys' := []) [] rfl
  refine W.widen (k := 0) (n := 0) (Nat.le_of_ble_eq_true rfl) (Nat.le_of_ble_eq_true rfl) ?_
  exact W.iret (v := 0) hx hb hr (fun t ht hW => ⟨⟨0, 1, rfl, ⟨rfl, rfl⟩, by rw [ht]; exact hP9, va_K.moved hW.alike hK9, hD9⟩, hS.F ht⟩) hS.2.2 dX12_made_28

def zwX12_where : List Cond := .code yX12_where cX12_where 2 (some .int) :: (([.methodLink RX12 272 yX12_isNoBody, .instanceMethod yX12_isNoBody, .selects RX12 yX12_isNoBody yX12_isNoBody, .initialized RX12] : List Cond) ++ (zwX12_isNoBody))
theorem zgX12_where : zwX12_where.all goodWord = true := zgo rfl (zga (by decide +kernel) (zgX12_isNoBody))
set_option maxHeartbeats 4000000 in
set_option maxRecDepth 100000 in
theorem c_X12_where (l : Launch) (dC : Nat → ClassId) (dI : Nat → Nat → Nat) (sz : Nat) (mo : Nat) (lm : Nat → Nat) (e0 : Nat) (th : Int32) (a : Int32) : Met l yX12_where zwX12_where ({ frames := 3, cells := 0, slots := 0, locals := 64 }) (gPcE dC dI sz [(mo, .inr (15, [.int th, .ref (lm 0), .ref (lm 1), .ref (lm 2), .ref (lm 3), .ref (lm 4), .int 0, .int 0])), ((lm 0), .inr (2, [.int 0, .ref e0, .int 0])), ((lm 1), .inr (2, [.int 0, .ref e0, .int 0])), ((lm 2), .inr (2, [.int 0, .ref e0, .int 0])), ((lm 3), .inr (2, [.int 0, .ref e0, .int 0])), ((lm 4), .inr (2, [.int 0, .ref e0, .int 0]))] [] [.ref mo, .int a]) (va_Qi (fun (r : Int32) (u : Int32) => r = 0 ∧ u = 1) (fun u t => va_P (dC, dI) vwCl [(mo, .inr (15, [.int u, .ref (lm 0), .ref (lm 1), .ref (lm 2), .ref (lm 3), .ref (lm 4), .int 0, .int 0])), ((lm 0), .inr (2, [.int 0, .ref e0, .int 0])), ((lm 1), .inr (2, [.int 0, .ref e0, .int 0])), ((lm 2), .inr (2, [.int 0, .ref e0, .int 0])), ((lm 3), .inr (2, [.int 0, .ref e0, .int 0])), ((lm 4), .inr (2, [.int 0, .ref e0, .int 0]))] t.heap ∧ va_K (dC, dI) vwCl [] t ∧ va_D (va_A [(mo, .inr (15, [.int th, .ref (lm 0), .ref (lm 1), .ref (lm 2), .ref (lm 3), .ref (lm 4), .int 0, .int 0])), ((lm 0), .inr (2, [.int 0, .ref e0, .int 0])), ((lm 1), .inr (2, [.int 0, .ref e0, .int 0])), ((lm 2), .inr (2, [.int 0, .ref e0, .int 0])), ((lm 3), .inr (2, [.int 0, .ref e0, .int 0])), ((lm 4), .inr (2, [.int 0, .ref e0, .int 0]))] sz) [(mo, .inr (15, [.int u, .ref (lm 0), .ref (lm 1), .ref (lm 2), .ref (lm 3), .ref (lm 4), .int 0, .int 0])), ((lm 0), .inr (2, [.int 0, .ref e0, .int 0])), ((lm 1), .inr (2, [.int 0, .ref e0, .int 0])), ((lm 2), .inr (2, [.int 0, .ref e0, .int 0])), ((lm 3), .inr (2, [.int 0, .ref e0, .int 0])), ((lm 4), .inr (2, [.int 0, .ref e0, .int 0]))]) (va_A [(mo, .inr (15, [.int th, .ref (lm 0), .ref (lm 1), .ref (lm 2), .ref (lm 3), .ref (lm 4), .int 0, .int 0])), ((lm 0), .inr (2, [.int 0, .ref e0, .int 0])), ((lm 1), .inr (2, [.int 0, .ref e0, .int 0])), ((lm 2), .inr (2, [.int 0, .ref e0, .int 0])), ((lm 3), .inr (2, [.int 0, .ref e0, .int 0])), ((lm 4), .inr (2, [.int 0, .ref e0, .int 0]))] sz)) 0 0 (va_A [(mo, .inr (15, [.int th, .ref (lm 0), .ref (lm 1), .ref (lm 2), .ref (lm 3), .ref (lm 4), .int 0, .int 0])), ((lm 0), .inr (2, [.int 0, .ref e0, .int 0])), ((lm 1), .inr (2, [.int 0, .ref e0, .int 0])), ((lm 2), .inr (2, [.int 0, .ref e0, .int 0])), ((lm 3), .inr (2, [.int 0, .ref e0, .int 0])), ((lm 4), .inr (2, [.int 0, .ref e0, .int 0]))] sz) := by
  refine Met.ofW (cc := cX12_where) (maxL := 2) (ret := (some .int)) (by decide) rfl ?_
  intro p e s m args below meth c s₁ B hml hv
  obtain ⟨rfl, hsz, hP, hK, hD0, hE⟩ := hv
  have hx := B.exec
  have hb := B.bytes
  have hr := B.returns
  have hts := atoms_spec (ws := zwX12_where) B.pre
  have hown : s.vm.findClass RX12 = some m.cls := findClass_of_methodNamed B.named
  have hlocks := B.notSynchronized
  subst hsz
  have hD := hD0.self (sz := s.heap.size)
  generalize hAe : va_A [(mo, .inr (15, [.int th, .ref (lm 0), .ref (lm 1), .ref (lm 2), .ref (lm 3), .ref (lm 4), .int 0, .int 0])), ((lm 0), .inr (2, [.int 0, .ref e0, .int 0])), ((lm 1), .inr (2, [.int 0, .ref e0, .int 0])), ((lm 2), .inr (2, [.int 0, .ref e0, .int 0])), ((lm 3), .inr (2, [.int 0, .ref e0, .int 0])), ((lm 4), .inr (2, [.int 0, .ref e0, .int 0]))] s.heap.size = A at hD hE ⊢
  have hA : ∀ q : Nat, s.heap.size ≤ q → A q := fun q h => by rw [← hAe]; exact Or.inr h
  have hS : va_S A s.heap s.heap [] := va_S.rf
  have hP : va_P (dC, dI) vwCl [(mo, .inr (15, [.int th, .ref (lm 0), .ref (lm 1), .ref (lm 2), .ref (lm 3), .ref (lm 4), .int 0, .int 0])), ((lm 0), .inr (2, [.int 0, .ref e0, .int 0])), ((lm 1), .inr (2, [.int 0, .ref e0, .int 0])), ((lm 2), .inr (2, [.int 0, .ref e0, .int 0])), ((lm 3), .inr (2, [.int 0, .ref e0, .int 0])), ((lm 4), .inr (2, [.int 0, .ref e0, .int 0]))] s.heap := hP
  have hl := lv_entry ([.ref mo, .int a]) (n := 2) (Nat.le_of_ble_eq_true rfl)
  rw [lg_entry_eq]
  generalize (lg_sl ([.ref mo, .int a]) ++ List.replicate (2 - (lg_sl ([.ref mo, .int a])).length) Slot.unset).toArray = ls at hl ⊢
  have hl : lv_has ls 2 [(0, .ref mo), (1, .int a)] := hl
  refine lv_aload_n hx hb dX12_where_0 rfl (lv_at hl 0 rfl) ?_
  refine lv_iload_n hx hb dX12_where_1 rfl (lv_at hl 1 rfl) ?_
  have hPc := hP.sub (ws' := [(mo, .inr (15, [.int th, .ref (lm 0), .ref (lm 1), .ref (lm 2), .ref (lm 3), .ref (lm 4), .int 0, .int 0])), ((lm 0), .inr (2, [.int 0, .ref e0, .int 0])), ((lm 1), .inr (2, [.int 0, .ref e0, .int 0])), ((lm 2), .inr (2, [.int 0, .ref e0, .int 0])), ((lm 3), .inr (2, [.int 0, .ref e0, .int 0])), ((lm 4), .inr (2, [.int 0, .ref e0, .int 0]))]) [0, 1, 2, 3, 4, 5] rfl
  have hDc := hD.sub (ws' := [(mo, .inr (15, [.int th, .ref (lm 0), .ref (lm 1), .ref (lm 2), .ref (lm 3), .ref (lm 4), .int 0, .int 0])), ((lm 0), .inr (2, [.int 0, .ref e0, .int 0])), ((lm 1), .inr (2, [.int 0, .ref e0, .int 0])), ((lm 2), .inr (2, [.int 0, .ref e0, .int 0])), ((lm 3), .inr (2, [.int 0, .ref e0, .int 0])), ((lm 4), .inr (2, [.int 0, .ref e0, .int 0]))]) [0, 1, 2, 3, 4, 5] (by decide) rfl
  have hKc := hK.sub (tys' := []) [] rfl
  have hFc := va_free (wc := [(mo, .inr (15, [.int th, .ref (lm 0), .ref (lm 1), .ref (lm 2), .ref (lm 3), .ref (lm 4), .int 0, .int 0])), ((lm 0), .inr (2, [.int 0, .ref e0, .int 0])), ((lm 1), .inr (2, [.int 0, .ref e0, .int 0])), ((lm 2), .inr (2, [.int 0, .ref e0, .int 0])), ((lm 3), .inr (2, [.int 0, .ref e0, .int 0])), ((lm 4), .inr (2, [.int 0, .ref e0, .int 0]))]) hD hS hA [0, 1, 2, 3, 4, 5] rfl
  refine va_calli (va_runV (As := [.int a]) (rest := []) ⟨hx, hb, hml, hown, hts⟩ (c_X12_isNoBody l dC dI s.heap.size mo lm e0 th a) (cwV 1 hts (goodIn_app (goodIn_of _ (by decide +kernel)) (goodIn_sub ((fun w h => List.mem_cons_of_mem _ (List.mem_append_right _ (h)))) zgX12_isNoBody)) rfl rfl rfl (by decide +kernel) ⟨Nat.le_of_ble_eq_true rfl, Nat.le_of_ble_eq_true rfl⟩) ⟨gPcE_blind, va_recv hK hP (ci := 15) (q0 := 0) rfl rfl, gPcE_pass hPc hKc hDc hE hS hFc⟩ rfl rfl hl.1 rfl (lv_room (Nat.le_of_ble_eq_true rfl)) dX12_where_2 ⟨Nat.le_of_ble_eq_true rfl, Nat.le_of_ble_eq_true rfl⟩) hS (fun q _ h => hFc q h) hFc (fun r_1 u_2 t H locs ht hvm hw hB hz hk hS => ?_)
  obtain ⟨hP1, hK1, hD1⟩ := hB
  rw [ht] at hP1
  obtain ⟨hP, hD⟩ := va_join (wr := []) (w1 := [(mo, .inr (15, [.int u_2, .ref (lm 0), .ref (lm 1), .ref (lm 2), .ref (lm 3), .ref (lm 4), .int 0, .int 0])), ((lm 0), .inr (2, [.int 0, .ref e0, .int 0])), ((lm 1), .inr (2, [.int 0, .ref e0, .int 0])), ((lm 2), .inr (2, [.int 0, .ref e0, .int 0])), ((lm 3), .inr (2, [.int 0, .ref e0, .int 0])), ((lm 4), .inr (2, [.int 0, .ref e0, .int 0]))]) hP hD [0, 1, 2, 3, 4, 5] [] rfl rfl (by decide) (by decide) hk hFc hP1 hD1
  have hP : va_P (dC, dI) vwCl [(mo, .inr (15, [.int u_2, .ref (lm 0), .ref (lm 1), .ref (lm 2), .ref (lm 3), .ref (lm 4), .int 0, .int 0])), ((lm 0), .inr (2, [.int 0, .ref e0, .int 0])), ((lm 1), .inr (2, [.int 0, .ref e0, .int 0])), ((lm 2), .inr (2, [.int 0, .ref e0, .int 0])), ((lm 3), .inr (2, [.int 0, .ref e0, .int 0])), ((lm 4), .inr (2, [.int 0, .ref e0, .int 0]))] H := hP
  have hD : va_D A [(mo, .inr (15, [.int u_2, .ref (lm 0), .ref (lm 1), .ref (lm 2), .ref (lm 3), .ref (lm 4), .int 0, .int 0])), ((lm 0), .inr (2, [.int 0, .ref e0, .int 0])), ((lm 1), .inr (2, [.int 0, .ref e0, .int 0])), ((lm 2), .inr (2, [.int 0, .ref e0, .int 0])), ((lm 3), .inr (2, [.int 0, .ref e0, .int 0])), ((lm 4), .inr (2, [.int 0, .ref e0, .int 0]))] := hD
  have hw : r_1 = 1 ∧ u_2 = 1 := hw
  obtain ⟨rfl, rfl⟩ : r_1 = 1 ∧ u_2 = 1 := hw
  refine lv_if_eq (tgt := 12) hx hb dX12_where_5 (by decide) (fun c_3 => absurd c_3 (by decide)) (fun _ => ?_)
  refine lv_iconst (v := 0) hx hb dX12_where_8 (by decide) ?_
  refine lv_goto (tgt := 28) hx hb dX12_where_9 (by decide) ?_
  have hP9 := hP.sub (ws' := [(mo, .inr (15, [.int 1, .ref (lm 0), .ref (lm 1), .ref (lm 2), .ref (lm 3), .ref (lm 4), .int 0, .int 0])), ((lm 0), .inr (2, [.int 0, .ref e0, .int 0])), ((lm 1), .inr (2, [.int 0, .ref e0, .int 0])), ((lm 2), .inr (2, [.int 0, .ref e0, .int 0])), ((lm 3), .inr (2, [.int 0, .ref e0, .int 0])), ((lm 4), .inr (2, [.int 0, .ref e0, .int 0]))]) [0, 1, 2, 3, 4, 5] rfl
  have hD9 := hD.sub (ws' := [(mo, .inr (15, [.int 1, .ref (lm 0), .ref (lm 1), .ref (lm 2), .ref (lm 3), .ref (lm 4), .int 0, .int 0])), ((lm 0), .inr (2, [.int 0, .ref e0, .int 0])), ((lm 1), .inr (2, [.int 0, .ref e0, .int 0])), ((lm 2), .inr (2, [.int 0, .ref e0, .int 0])), ((lm 3), .inr (2, [.int 0, .ref e0, .int 0])), ((lm 4), .inr (2, [.int 0, .ref e0, .int 0]))]) [0, 1, 2, 3, 4, 5] (by decide) rfl
  have hK9 := hK.sub (tys' := []) [] rfl
  refine W.widen (k := 0) (n := 0) (Nat.le_of_ble_eq_true rfl) (Nat.le_of_ble_eq_true rfl) ?_
  exact W.iret (v := 0) hx hb hr (fun t ht hW => ⟨⟨0, 1, rfl, ⟨rfl, rfl⟩, by rw [ht]; exact hP9, va_K.moved hW.alike hK9, hD9⟩, hS.F ht⟩) hS.2.2 dX12_where_28

def zwX12_lacks : List Cond := .code yX12_lacks cX12_lacks 2 (some .int) :: (([.methodLink RX12 272 yX12_isNoBody, .instanceMethod yX12_isNoBody, .selects RX12 yX12_isNoBody yX12_isNoBody, .initialized RX12] : List Cond) ++ (zwX12_isNoBody))
theorem zgX12_lacks : zwX12_lacks.all goodWord = true := zgo rfl (zga (by decide +kernel) (zgX12_isNoBody))
set_option maxHeartbeats 4000000 in
set_option maxRecDepth 100000 in
theorem c_X12_lacks (l : Launch) (dC : Nat → ClassId) (dI : Nat → Nat → Nat) (sz : Nat) (mo : Nat) (lm : Nat → Nat) (e0 : Nat) (th : Int32) (a : Int32) : Met l yX12_lacks zwX12_lacks ({ frames := 3, cells := 0, slots := 0, locals := 64 }) (gPcE dC dI sz [(mo, .inr (15, [.int th, .ref (lm 0), .ref (lm 1), .ref (lm 2), .ref (lm 3), .ref (lm 4), .int 0, .int 0])), ((lm 0), .inr (2, [.int 0, .ref e0, .int 0])), ((lm 1), .inr (2, [.int 0, .ref e0, .int 0])), ((lm 2), .inr (2, [.int 0, .ref e0, .int 0])), ((lm 3), .inr (2, [.int 0, .ref e0, .int 0])), ((lm 4), .inr (2, [.int 0, .ref e0, .int 0]))] [] [.ref mo, .int a]) (va_Qi (fun (r : Int32) (u : Int32) => r = 0 ∧ u = 1) (fun u t => va_P (dC, dI) vwCl [(mo, .inr (15, [.int u, .ref (lm 0), .ref (lm 1), .ref (lm 2), .ref (lm 3), .ref (lm 4), .int 0, .int 0])), ((lm 0), .inr (2, [.int 0, .ref e0, .int 0])), ((lm 1), .inr (2, [.int 0, .ref e0, .int 0])), ((lm 2), .inr (2, [.int 0, .ref e0, .int 0])), ((lm 3), .inr (2, [.int 0, .ref e0, .int 0])), ((lm 4), .inr (2, [.int 0, .ref e0, .int 0]))] t.heap ∧ va_K (dC, dI) vwCl [] t ∧ va_D (va_A [(mo, .inr (15, [.int th, .ref (lm 0), .ref (lm 1), .ref (lm 2), .ref (lm 3), .ref (lm 4), .int 0, .int 0])), ((lm 0), .inr (2, [.int 0, .ref e0, .int 0])), ((lm 1), .inr (2, [.int 0, .ref e0, .int 0])), ((lm 2), .inr (2, [.int 0, .ref e0, .int 0])), ((lm 3), .inr (2, [.int 0, .ref e0, .int 0])), ((lm 4), .inr (2, [.int 0, .ref e0, .int 0]))] sz) [(mo, .inr (15, [.int u, .ref (lm 0), .ref (lm 1), .ref (lm 2), .ref (lm 3), .ref (lm 4), .int 0, .int 0])), ((lm 0), .inr (2, [.int 0, .ref e0, .int 0])), ((lm 1), .inr (2, [.int 0, .ref e0, .int 0])), ((lm 2), .inr (2, [.int 0, .ref e0, .int 0])), ((lm 3), .inr (2, [.int 0, .ref e0, .int 0])), ((lm 4), .inr (2, [.int 0, .ref e0, .int 0]))]) (va_A [(mo, .inr (15, [.int th, .ref (lm 0), .ref (lm 1), .ref (lm 2), .ref (lm 3), .ref (lm 4), .int 0, .int 0])), ((lm 0), .inr (2, [.int 0, .ref e0, .int 0])), ((lm 1), .inr (2, [.int 0, .ref e0, .int 0])), ((lm 2), .inr (2, [.int 0, .ref e0, .int 0])), ((lm 3), .inr (2, [.int 0, .ref e0, .int 0])), ((lm 4), .inr (2, [.int 0, .ref e0, .int 0]))] sz)) 0 0 (va_A [(mo, .inr (15, [.int th, .ref (lm 0), .ref (lm 1), .ref (lm 2), .ref (lm 3), .ref (lm 4), .int 0, .int 0])), ((lm 0), .inr (2, [.int 0, .ref e0, .int 0])), ((lm 1), .inr (2, [.int 0, .ref e0, .int 0])), ((lm 2), .inr (2, [.int 0, .ref e0, .int 0])), ((lm 3), .inr (2, [.int 0, .ref e0, .int 0])), ((lm 4), .inr (2, [.int 0, .ref e0, .int 0]))] sz) := by
  refine Met.ofW (cc := cX12_lacks) (maxL := 2) (ret := (some .int)) (by decide) rfl ?_
  intro p e s m args below meth c s₁ B hml hv
  obtain ⟨rfl, hsz, hP, hK, hD0, hE⟩ := hv
  have hx := B.exec
  have hb := B.bytes
  have hr := B.returns
  have hts := atoms_spec (ws := zwX12_lacks) B.pre
  have hown : s.vm.findClass RX12 = some m.cls := findClass_of_methodNamed B.named
  have hlocks := B.notSynchronized
  subst hsz
  have hD := hD0.self (sz := s.heap.size)
  generalize hAe : va_A [(mo, .inr (15, [.int th, .ref (lm 0), .ref (lm 1), .ref (lm 2), .ref (lm 3), .ref (lm 4), .int 0, .int 0])), ((lm 0), .inr (2, [.int 0, .ref e0, .int 0])), ((lm 1), .inr (2, [.int 0, .ref e0, .int 0])), ((lm 2), .inr (2, [.int 0, .ref e0, .int 0])), ((lm 3), .inr (2, [.int 0, .ref e0, .int 0])), ((lm 4), .inr (2, [.int 0, .ref e0, .int 0]))] s.heap.size = A at hD hE ⊢
  have hA : ∀ q : Nat, s.heap.size ≤ q → A q := fun q h => by rw [← hAe]; exact Or.inr h
  have hS : va_S A s.heap s.heap [] := va_S.rf
  have hP : va_P (dC, dI) vwCl [(mo, .inr (15, [.int th, .ref (lm 0), .ref (lm 1), .ref (lm 2), .ref (lm 3), .ref (lm 4), .int 0, .int 0])), ((lm 0), .inr (2, [.int 0, .ref e0, .int 0])), ((lm 1), .inr (2, [.int 0, .ref e0, .int 0])), ((lm 2), .inr (2, [.int 0, .ref e0, .int 0])), ((lm 3), .inr (2, [.int 0, .ref e0, .int 0])), ((lm 4), .inr (2, [.int 0, .ref e0, .int 0]))] s.heap := hP
  have hl := lv_entry ([.ref mo, .int a]) (n := 2) (Nat.le_of_ble_eq_true rfl)
  rw [lg_entry_eq]
  generalize (lg_sl ([.ref mo, .int a]) ++ List.replicate (2 - (lg_sl ([.ref mo, .int a])).length) Slot.unset).toArray = ls at hl ⊢
  have hl : lv_has ls 2 [(0, .ref mo), (1, .int a)] := hl
  refine lv_aload_n hx hb dX12_lacks_0 rfl (lv_at hl 0 rfl) ?_
  refine lv_iload_n hx hb dX12_lacks_1 rfl (lv_at hl 1 rfl) ?_
  have hPc := hP.sub (ws' := [(mo, .inr (15, [.int th, .ref (lm 0), .ref (lm 1), .ref (lm 2), .ref (lm 3), .ref (lm 4), .int 0, .int 0])), ((lm 0), .inr (2, [.int 0, .ref e0, .int 0])), ((lm 1), .inr (2, [.int 0, .ref e0, .int 0])), ((lm 2), .inr (2, [.int 0, .ref e0, .int 0])), ((lm 3), .inr (2, [.int 0, .ref e0, .int 0])), ((lm 4), .inr (2, [.int 0, .ref e0, .int 0]))]) [0, 1, 2, 3, 4, 5] rfl
  have hDc := hD.sub (ws' := [(mo, .inr (15, [.int th, .ref (lm 0), .ref (lm 1), .ref (lm 2), .ref (lm 3), .ref (lm 4), .int 0, .int 0])), ((lm 0), .inr (2, [.int 0, .ref e0, .int 0])), ((lm 1), .inr (2, [.int 0, .ref e0, .int 0])), ((lm 2), .inr (2, [.int 0, .ref e0, .int 0])), ((lm 3), .inr (2, [.int 0, .ref e0, .int 0])), ((lm 4), .inr (2, [.int 0, .ref e0, .int 0]))]) [0, 1, 2, 3, 4, 5] (by decide) rfl
  have hKc := hK.sub (tys' := []) [] rfl
  have hFc := va_free (wc := [(mo, .inr (15, [.int th, .ref (lm 0), .ref (lm 1), .ref (lm 2), .ref (lm 3), .ref (lm 4), .int 0, .int 0])), ((lm 0), .inr (2, [.int 0, .ref e0, .int 0])), ((lm 1), .inr (2, [.int 0, .ref e0, .int 0])), ((lm 2), .inr (2, [.int 0, .ref e0, .int 0])), ((lm 3), .inr (2, [.int 0, .ref e0, .int 0])), ((lm 4), .inr (2, [.int 0, .ref e0, .int 0]))]) hD hS hA [0, 1, 2, 3, 4, 5] rfl
  refine va_calli (va_runV (As := [.int a]) (rest := []) ⟨hx, hb, hml, hown, hts⟩ (c_X12_isNoBody l dC dI s.heap.size mo lm e0 th a) (cwV 1 hts (goodIn_app (goodIn_of _ (by decide +kernel)) (goodIn_sub ((fun w h => List.mem_cons_of_mem _ (List.mem_append_right _ (h)))) zgX12_isNoBody)) rfl rfl rfl (by decide +kernel) ⟨Nat.le_of_ble_eq_true rfl, Nat.le_of_ble_eq_true rfl⟩) ⟨gPcE_blind, va_recv hK hP (ci := 15) (q0 := 0) rfl rfl, gPcE_pass hPc hKc hDc hE hS hFc⟩ rfl rfl hl.1 rfl (lv_room (Nat.le_of_ble_eq_true rfl)) dX12_lacks_2 ⟨Nat.le_of_ble_eq_true rfl, Nat.le_of_ble_eq_true rfl⟩) hS (fun q _ h => hFc q h) hFc (fun r_1 u_2 t H locs ht hvm hw hB hz hk hS => ?_)
  obtain ⟨hP1, hK1, hD1⟩ := hB
  rw [ht] at hP1
  obtain ⟨hP, hD⟩ := va_join (wr := []) (w1 := [(mo, .inr (15, [.int u_2, .ref (lm 0), .ref (lm 1), .ref (lm 2), .ref (lm 3), .ref (lm 4), .int 0, .int 0])), ((lm 0), .inr (2, [.int 0, .ref e0, .int 0])), ((lm 1), .inr (2, [.int 0, .ref e0, .int 0])), ((lm 2), .inr (2, [.int 0, .ref e0, .int 0])), ((lm 3), .inr (2, [.int 0, .ref e0, .int 0])), ((lm 4), .inr (2, [.int 0, .ref e0, .int 0]))]) hP hD [0, 1, 2, 3, 4, 5] [] rfl rfl (by decide) (by decide) hk hFc hP1 hD1
  have hP : va_P (dC, dI) vwCl [(mo, .inr (15, [.int u_2, .ref (lm 0), .ref (lm 1), .ref (lm 2), .ref (lm 3), .ref (lm 4), .int 0, .int 0])), ((lm 0), .inr (2, [.int 0, .ref e0, .int 0])), ((lm 1), .inr (2, [.int 0, .ref e0, .int 0])), ((lm 2), .inr (2, [.int 0, .ref e0, .int 0])), ((lm 3), .inr (2, [.int 0, .ref e0, .int 0])), ((lm 4), .inr (2, [.int 0, .ref e0, .int 0]))] H := hP
  have hD : va_D A [(mo, .inr (15, [.int u_2, .ref (lm 0), .ref (lm 1), .ref (lm 2), .ref (lm 3), .ref (lm 4), .int 0, .int 0])), ((lm 0), .inr (2, [.int 0, .ref e0, .int 0])), ((lm 1), .inr (2, [.int 0, .ref e0, .int 0])), ((lm 2), .inr (2, [.int 0, .ref e0, .int 0])), ((lm 3), .inr (2, [.int 0, .ref e0, .int 0])), ((lm 4), .inr (2, [.int 0, .ref e0, .int 0]))] := hD
  have hw : r_1 = 1 ∧ u_2 = 1 := hw
  obtain ⟨rfl, rfl⟩ : r_1 = 1 ∧ u_2 = 1 := hw
  refine lv_if_eq (tgt := 12) hx hb dX12_lacks_5 (by decide) (fun c_3 => absurd c_3 (by decide)) (fun _ => ?_)
  refine lv_iconst (v := 0) hx hb dX12_lacks_8 (by decide) ?_
  refine lv_goto (tgt := 29) hx hb dX12_lacks_9 (by decide) ?_
  have hP9 := hP.sub (ws' := [(mo, .inr (15, [.int 1, .ref (lm 0), .ref (lm 1), .ref (lm 2), .ref (lm 3), .ref (lm 4), .int 0, .int 0])), ((lm 0), .inr (2, [.int 0, .ref e0, .int 0])), ((lm 1), .inr (2, [.int 0, .ref e0, .int 0])), ((lm 2), .inr (2, [.int 0, .ref e0, .int 0])), ((lm 3), .inr (2, [.int 0, .ref e0, .int 0])), ((lm 4), .inr (2, [.int 0, .ref e0, .int 0]))]) [0, 1, 2, 3, 4, 5] rfl
  have hD9 := hD.sub (ws' := [(mo, .inr (15, [.int 1, .ref (lm 0), .ref (lm 1), .ref (lm 2), .ref (lm 3), .ref (lm 4), .int 0, .int 0])), ((lm 0), .inr (2, [.int 0, .ref e0, .int 0])), ((lm 1), .inr (2, [.int 0, .ref e0, .int 0])), ((lm 2), .inr (2, [.int 0, .ref e0, .int 0])), ((lm 3), .inr (2, [.int 0, .ref e0, .int 0])), ((lm 4), .inr (2, [.int 0, .ref e0, .int 0]))]) [0, 1, 2, 3, 4, 5] (by decide) rfl
  have hK9 := hK.sub (tys' := []) [] rfl
  refine W.widen (k := 0) (n := 0) (Nat.le_of_ble_eq_true rfl) (Nat.le_of_ble_eq_true rfl) ?_
  exact W.iret (v := 0) hx hb hr (fun t ht hW => ⟨⟨0, 1, rfl, ⟨rfl, rfl⟩, by rw [ht]; exact hP9, va_K.moved hW.alike hK9, hD9⟩, hS.F ht⟩) hS.2.2 dX12_lacks_29

def zwX12_firstLacking : List Cond := .code yX12_firstLacking cX12_firstLacking 3 (some .int) :: (([.methodLink RX12 272 yX12_isNoBody, .instanceMethod yX12_isNoBody, .selects RX12 yX12_isNoBody yX12_isNoBody, .initialized RX12] : List Cond) ++ (zwX12_isNoBody))
theorem zgX12_firstLacking : zwX12_firstLacking.all goodWord = true := zgo rfl (zga (by decide +kernel) (zgX12_isNoBody))
set_option maxHeartbeats 4000000 in
set_option maxRecDepth 100000 in
theorem c_X12_firstLacking (l : Launch) (dC : Nat → ClassId) (dI : Nat → Nat → Nat) (sz : Nat) (mo : Nat) (lm : Nat → Nat) (e0 : Nat) (th : Int32) (a : Int32) : Met l yX12_firstLacking zwX12_firstLacking ({ frames := 3, cells := 0, slots := 0, locals := 64 }) (gPcE dC dI sz [(mo, .inr (15, [.int th, .ref (lm 0), .ref (lm 1), .ref (lm 2), .ref (lm 3), .ref (lm 4), .int 0, .int 0])), ((lm 0), .inr (2, [.int 0, .ref e0, .int 0])), ((lm 1), .inr (2, [.int 0, .ref e0, .int 0])), ((lm 2), .inr (2, [.int 0, .ref e0, .int 0])), ((lm 3), .inr (2, [.int 0, .ref e0, .int 0])), ((lm 4), .inr (2, [.int 0, .ref e0, .int 0]))] [] [.ref mo, .int a]) (va_Qi (fun (r : Int32) (u : Int32) => r = 0 ∧ u = 1) (fun u t => va_P (dC, dI) vwCl [(mo, .inr (15, [.int u, .ref (lm 0), .ref (lm 1), .ref (lm 2), .ref (lm 3), .ref (lm 4), .int 0, .int 0])), ((lm 0), .inr (2, [.int 0, .ref e0, .int 0])), ((lm 1), .inr (2, [.int 0, .ref e0, .int 0])), ((lm 2), .inr (2, [.int 0, .ref e0, .int 0])), ((lm 3), .inr (2, [.int 0, .ref e0, .int 0])), ((lm 4), .inr (2, [.int 0, .ref e0, .int 0]))] t.heap ∧ va_K (dC, dI) vwCl [] t ∧ va_D (va_A [(mo, .inr (15, [.int th, .ref (lm 0), .ref (lm 1), .ref (lm 2), .ref (lm 3), .ref (lm 4), .int 0, .int 0])), ((lm 0), .inr (2, [.int 0, .ref e0, .int 0])), ((lm 1), .inr (2, [.int 0, .ref e0, .int 0])), ((lm 2), .inr (2, [.int 0, .ref e0, .int 0])), ((lm 3), .inr (2, [.int 0, .ref e0, .int 0])), ((lm 4), .inr (2, [.int 0, .ref e0, .int 0]))] sz) [(mo, .inr (15, [.int u, .ref (lm 0), .ref (lm 1), .ref (lm 2), .ref (lm 3), .ref (lm 4), .int 0, .int 0])), ((lm 0), .inr (2, [.int 0, .ref e0, .int 0])), ((lm 1), .inr (2, [.int 0, .ref e0, .int 0])), ((lm 2), .inr (2, [.int 0, .ref e0, .int 0])), ((lm 3), .inr (2, [.int 0, .ref e0, .int 0])), ((lm 4), .inr (2, [.int 0, .ref e0, .int 0]))]) (va_A [(mo, .inr (15, [.int th, .ref (lm 0), .ref (lm 1), .ref (lm 2), .ref (lm 3), .ref (lm 4), .int 0, .int 0])), ((lm 0), .inr (2, [.int 0, .ref e0, .int 0])), ((lm 1), .inr (2, [.int 0, .ref e0, .int 0])), ((lm 2), .inr (2, [.int 0, .ref e0, .int 0])), ((lm 3), .inr (2, [.int 0, .ref e0, .int 0])), ((lm 4), .inr (2, [.int 0, .ref e0, .int 0]))] sz)) 0 0 (va_A [(mo, .inr (15, [.int th, .ref (lm 0), .ref (lm 1), .ref (lm 2), .ref (lm 3), .ref (lm 4), .int 0, .int 0])), ((lm 0), .inr (2, [.int 0, .ref e0, .int 0])), ((lm 1), .inr (2, [.int 0, .ref e0, .int 0])), ((lm 2), .inr (2, [.int 0, .ref e0, .int 0])), ((lm 3), .inr (2, [.int 0, .ref e0, .int 0])), ((lm 4), .inr (2, [.int 0, .ref e0, .int 0]))] sz) := by
  refine Met.ofW (cc := cX12_firstLacking) (maxL := 3) (ret := (some .int)) (by decide) rfl ?_
  intro p e s m args below meth c s₁ B hml hv
  obtain ⟨rfl, hsz, hP, hK, hD0, hE⟩ := hv
  have hx := B.exec
  have hb := B.bytes
  have hr := B.returns
  have hts := atoms_spec (ws := zwX12_firstLacking) B.pre
  have hown : s.vm.findClass RX12 = some m.cls := findClass_of_methodNamed B.named
  have hlocks := B.notSynchronized
  subst hsz
  have hD := hD0.self (sz := s.heap.size)
  generalize hAe : va_A [(mo, .inr (15, [.int th, .ref (lm 0), .ref (lm 1), .ref (lm 2), .ref (lm 3), .ref (lm 4), .int 0, .int 0])), ((lm 0), .inr (2, [.int 0, .ref e0, .int 0])), ((lm 1), .inr (2, [.int 0, .ref e0, .int 0])), ((lm 2), .inr (2, [.int 0, .ref e0, .int 0])), ((lm 3), .inr (2, [.int 0, .ref e0, .int 0])), ((lm 4), .inr (2, [.int 0, .ref e0, .int 0]))] s.heap.size = A at hD hE ⊢
  have hA : ∀ q : Nat, s.heap.size ≤ q → A q := fun q h => by rw [← hAe]; exact Or.inr h
  have hS : va_S A s.heap s.heap [] := va_S.rf
  have hP : va_P (dC, dI) vwCl [(mo, .inr (15, [.int th, .ref (lm 0), .ref (lm 1), .ref (lm 2), .ref (lm 3), .ref (lm 4), .int 0, .int 0])), ((lm 0), .inr (2, [.int 0, .ref e0, .int 0])), ((lm 1), .inr (2, [.int 0, .ref e0, .int 0])), ((lm 2), .inr (2, [.int 0, .ref e0, .int 0])), ((lm 3), .inr (2, [.int 0, .ref e0, .int 0])), ((lm 4), .inr (2, [.int 0, .ref e0, .int 0]))] s.heap := hP
  have hl := lv_entry ([.ref mo, .int a]) (n := 3) (Nat.le_of_ble_eq_true rfl)
  rw [lg_entry_eq]
  generalize (lg_sl ([.ref mo, .int a]) ++ List.replicate (3 - (lg_sl ([.ref mo, .int a])).length) Slot.unset).toArray = ls at hl ⊢
  have hl : lv_has ls 3 [(0, .ref mo), (1, .int a)] := hl
  refine lv_aload_n hx hb dX12_firstLacking_0 rfl (lv_at hl 0 rfl) ?_
  refine lv_iload_n hx hb dX12_firstLacking_1 rfl (lv_at hl 1 rfl) ?_
  have hPc := hP.sub (ws' := [(mo, .inr (15, [.int th, .ref (lm 0), .ref (lm 1), .ref (lm 2), .ref (lm 3), .ref (lm 4), .int 0, .int 0])), ((lm 0), .inr (2, [.int 0, .ref e0, .int 0])), ((lm 1), .inr (2, [.int 0, .ref e0, .int 0])), ((lm 2), .inr (2, [.int 0, .ref e0, .int 0])), ((lm 3), .inr (2, [.int 0, .ref e0, .int 0])), ((lm 4), .inr (2, [.int 0, .ref e0, .int 0]))]) [0, 1, 2, 3, 4, 5] rfl
  have hDc := hD.sub (ws' := [(mo, .inr (15, [.int th, .ref (lm 0), .ref (lm 1), .ref (lm 2), .ref (lm 3), .ref (lm 4), .int 0, .int 0])), ((lm 0), .inr (2, [.int 0, .ref e0, .int 0])), ((lm 1), .inr (2, [.int 0, .ref e0, .int 0])), ((lm 2), .inr (2, [.int 0, .ref e0, .int 0])), ((lm 3), .inr (2, [.int 0, .ref e0, .int 0])), ((lm 4), .inr (2, [.int 0, .ref e0, .int 0]))]) [0, 1, 2, 3, 4, 5] (by decide) rfl
  have hKc := hK.sub (tys' := []) [] rfl
  have hFc := va_free (wc := [(mo, .inr (15, [.int th, .ref (lm 0), .ref (lm 1), .ref (lm 2), .ref (lm 3), .ref (lm 4), .int 0, .int 0])), ((lm 0), .inr (2, [.int 0, .ref e0, .int 0])), ((lm 1), .inr (2, [.int 0, .ref e0, .int 0])), ((lm 2), .inr (2, [.int 0, .ref e0, .int 0])), ((lm 3), .inr (2, [.int 0, .ref e0, .int 0])), ((lm 4), .inr (2, [.int 0, .ref e0, .int 0]))]) hD hS hA [0, 1, 2, 3, 4, 5] rfl
  refine va_calli (va_runV (As := [.int a]) (rest := []) ⟨hx, hb, hml, hown, hts⟩ (c_X12_isNoBody l dC dI s.heap.size mo lm e0 th a) (cwV 1 hts (goodIn_app (goodIn_of _ (by decide +kernel)) (goodIn_sub ((fun w h => List.mem_cons_of_mem _ (List.mem_append_right _ (h)))) zgX12_isNoBody)) rfl rfl rfl (by decide +kernel) ⟨Nat.le_of_ble_eq_true rfl, Nat.le_of_ble_eq_true rfl⟩) ⟨gPcE_blind, va_recv hK hP (ci := 15) (q0 := 0) rfl rfl, gPcE_pass hPc hKc hDc hE hS hFc⟩ rfl rfl hl.1 rfl (lv_room (Nat.le_of_ble_eq_true rfl)) dX12_firstLacking_2 ⟨Nat.le_of_ble_eq_true rfl, Nat.le_of_ble_eq_true rfl⟩) hS (fun q _ h => hFc q h) hFc (fun r_1 u_2 t H locs ht hvm hw hB hz hk hS => ?_)
  obtain ⟨hP1, hK1, hD1⟩ := hB
  rw [ht] at hP1
  obtain ⟨hP, hD⟩ := va_join (wr := []) (w1 := [(mo, .inr (15, [.int u_2, .ref (lm 0), .ref (lm 1), .ref (lm 2), .ref (lm 3), .ref (lm 4), .int 0, .int 0])), ((lm 0), .inr (2, [.int 0, .ref e0, .int 0])), ((lm 1), .inr (2, [.int 0, .ref e0, .int 0])), ((lm 2), .inr (2, [.int 0, .ref e0, .int 0])), ((lm 3), .inr (2, [.int 0, .ref e0, .int 0])), ((lm 4), .inr (2, [.int 0, .ref e0, .int 0]))]) hP hD [0, 1, 2, 3, 4, 5] [] rfl rfl (by decide) (by decide) hk hFc hP1 hD1
  have hP : va_P (dC, dI) vwCl [(mo, .inr (15, [.int u_2, .ref (lm 0), .ref (lm 1), .ref (lm 2), .ref (lm 3), .ref (lm 4), .int 0, .int 0])), ((lm 0), .inr (2, [.int 0, .ref e0, .int 0])), ((lm 1), .inr (2, [.int 0, .ref e0, .int 0])), ((lm 2), .inr (2, [.int 0, .ref e0, .int 0])), ((lm 3), .inr (2, [.int 0, .ref e0, .int 0])), ((lm 4), .inr (2, [.int 0, .ref e0, .int 0]))] H := hP
  have hD : va_D A [(mo, .inr (15, [.int u_2, .ref (lm 0), .ref (lm 1), .ref (lm 2), .ref (lm 3), .ref (lm 4), .int 0, .int 0])), ((lm 0), .inr (2, [.int 0, .ref e0, .int 0])), ((lm 1), .inr (2, [.int 0, .ref e0, .int 0])), ((lm 2), .inr (2, [.int 0, .ref e0, .int 0])), ((lm 3), .inr (2, [.int 0, .ref e0, .int 0])), ((lm 4), .inr (2, [.int 0, .ref e0, .int 0]))] := hD
  have hw : r_1 = 1 ∧ u_2 = 1 := hw
  obtain ⟨rfl, rfl⟩ : r_1 = 1 ∧ u_2 = 1 := hw
  refine lv_if_eq (tgt := 10) hx hb dX12_firstLacking_5 (by decide) (fun c_3 => absurd c_3 (by decide)) (fun _ => ?_)
  refine lv_iconst (v := 0) hx hb dX12_firstLacking_8 (by decide) ?_
  have hP9 := hP.sub (ws' := [(mo, .inr (15, [.int 1, .ref (lm 0), .ref (lm 1), .ref (lm 2), .ref (lm 3), .ref (lm 4), .int 0, .int 0])), ((lm 0), .inr (2, [.int 0, .ref e0, .int 0])), ((lm 1), .inr (2, [.int 0, .ref e0, .int 0])), ((lm 2), .inr (2, [.int 0, .ref e0, .int 0])), ((lm 3), .inr (2, [.int 0, .ref e0, .int 0])), ((lm 4), .inr (2, [.int 0, .ref e0, .int 0]))]) [0, 1, 2, 3, 4, 5] rfl
  have hD9 := hD.sub (ws' := [(mo, .inr (15, [.int 1, .ref (lm 0), .ref (lm 1), .ref (lm 2), .ref (lm 3), .ref (lm 4), .int 0, .int 0])), ((lm 0), .inr (2, [.int 0, .ref e0, .int 0])), ((lm 1), .inr (2, [.int 0, .ref e0, .int 0])), ((lm 2), .inr (2, [.int 0, .ref e0, .int 0])), ((lm 3), .inr (2, [.int 0, .ref e0, .int 0])), ((lm 4), .inr (2, [.int 0, .ref e0, .int 0]))]) [0, 1, 2, 3, 4, 5] (by decide) rfl
  have hK9 := hK.sub (tys' := []) [] rfl
  refine W.widen (k := 0) (n := 0) (Nat.le_of_ble_eq_true rfl) (Nat.le_of_ble_eq_true rfl) ?_
  exact W.iret (v := 0) hx hb hr (fun t ht hW => ⟨⟨0, 1, rfl, ⟨rfl, rfl⟩, by rw [ht]; exact hP9, va_K.moved hW.alike hK9, hD9⟩, hS.F ht⟩) hS.2.2 dX12_firstLacking_9

def zwX12_measure : List Cond := .code yX12_measure cX12_measure 2 (some .int) :: (([.methodLink RX12 272 yX12_isNoBody, .instanceMethod yX12_isNoBody, .selects RX12 yX12_isNoBody yX12_isNoBody, .initialized RX12] : List Cond) ++ (zwX12_isNoBody))
theorem zgX12_measure : zwX12_measure.all goodWord = true := zgo rfl (zga (by decide +kernel) (zgX12_isNoBody))
set_option maxHeartbeats 4000000 in
set_option maxRecDepth 100000 in
theorem c_X12_measure (l : Launch) (dC : Nat → ClassId) (dI : Nat → Nat → Nat) (sz : Nat) (mo : Nat) (lm : Nat → Nat) (e0 : Nat) (th : Int32) (a : Int32) : Met l yX12_measure zwX12_measure ({ frames := 3, cells := 0, slots := 0, locals := 64 }) (gPcE dC dI sz [(mo, .inr (15, [.int th, .ref (lm 0), .ref (lm 1), .ref (lm 2), .ref (lm 3), .ref (lm 4), .int 0, .int 0])), ((lm 0), .inr (2, [.int 0, .ref e0, .int 0])), ((lm 1), .inr (2, [.int 0, .ref e0, .int 0])), ((lm 2), .inr (2, [.int 0, .ref e0, .int 0])), ((lm 3), .inr (2, [.int 0, .ref e0, .int 0])), ((lm 4), .inr (2, [.int 0, .ref e0, .int 0]))] [] [.ref mo, .int a]) (va_Qi (fun (r : Int32) (u : Int32) => r = 0 ∧ u = 1) (fun u t => va_P (dC, dI) vwCl [(mo, .inr (15, [.int u, .ref (lm 0), .ref (lm 1), .ref (lm 2), .ref (lm 3), .ref (lm 4), .int 0, .int 0])), ((lm 0), .inr (2, [.int 0, .ref e0, .int 0])), ((lm 1), .inr (2, [.int 0, .ref e0, .int 0])), ((lm 2), .inr (2, [.int 0, .ref e0, .int 0])), ((lm 3), .inr (2, [.int 0, .ref e0, .int 0])), ((lm 4), .inr (2, [.int 0, .ref e0, .int 0]))] t.heap ∧ va_K (dC, dI) vwCl [] t ∧ va_D (va_A [(mo, .inr (15, [.int th, .ref (lm 0), .ref (lm 1), .ref (lm 2), .ref (lm 3), .ref (lm 4), .int 0, .int 0])), ((lm 0), .inr (2, [.int 0, .ref e0, .int 0])), ((lm 1), .inr (2, [.int 0, .ref e0, .int 0])), ((lm 2), .inr (2, [.int 0, .ref e0, .int 0])), ((lm 3), .inr (2, [.int 0, .ref e0, .int 0])), ((lm 4), .inr (2, [.int 0, .ref e0, .int 0]))] sz) [(mo, .inr (15, [.int u, .ref (lm 0), .ref (lm 1), .ref (lm 2), .ref (lm 3), .ref (lm 4), .int 0, .int 0])), ((lm 0), .inr (2, [.int 0, .ref e0, .int 0])), ((lm 1), .inr (2, [.int 0, .ref e0, .int 0])), ((lm 2), .inr (2, [.int 0, .ref e0, .int 0])), ((lm 3), .inr (2, [.int 0, .ref e0, .int 0])), ((lm 4), .inr (2, [.int 0, .ref e0, .int 0]))]) (va_A [(mo, .inr (15, [.int th, .ref (lm 0), .ref (lm 1), .ref (lm 2), .ref (lm 3), .ref (lm 4), .int 0, .int 0])), ((lm 0), .inr (2, [.int 0, .ref e0, .int 0])), ((lm 1), .inr (2, [.int 0, .ref e0, .int 0])), ((lm 2), .inr (2, [.int 0, .ref e0, .int 0])), ((lm 3), .inr (2, [.int 0, .ref e0, .int 0])), ((lm 4), .inr (2, [.int 0, .ref e0, .int 0]))] sz)) 0 0 (va_A [(mo, .inr (15, [.int th, .ref (lm 0), .ref (lm 1), .ref (lm 2), .ref (lm 3), .ref (lm 4), .int 0, .int 0])), ((lm 0), .inr (2, [.int 0, .ref e0, .int 0])), ((lm 1), .inr (2, [.int 0, .ref e0, .int 0])), ((lm 2), .inr (2, [.int 0, .ref e0, .int 0])), ((lm 3), .inr (2, [.int 0, .ref e0, .int 0])), ((lm 4), .inr (2, [.int 0, .ref e0, .int 0]))] sz) := by
  refine Met.ofW (cc := cX12_measure) (maxL := 2) (ret := (some .int)) (by decide) rfl ?_
  intro p e s m args below meth c s₁ B hml hv
  obtain ⟨rfl, hsz, hP, hK, hD0, hE⟩ := hv
  have hx := B.exec
  have hb := B.bytes
  have hr := B.returns
  have hts := atoms_spec (ws := zwX12_measure) B.pre
  have hown : s.vm.findClass RX12 = some m.cls := findClass_of_methodNamed B.named
  have hlocks := B.notSynchronized
  subst hsz
  have hD := hD0.self (sz := s.heap.size)
  generalize hAe : va_A [(mo, .inr (15, [.int th, .ref (lm 0), .ref (lm 1), .ref (lm 2), .ref (lm 3), .ref (lm 4), .int 0, .int 0])), ((lm 0), .inr (2, [.int 0, .ref e0, .int 0])), ((lm 1), .inr (2, [.int 0, .ref e0, .int 0])), ((lm 2), .inr (2, [.int 0, .ref e0, .int 0])), ((lm 3), .inr (2, [.int 0, .ref e0, .int 0])), ((lm 4), .inr (2, [.int 0, .ref e0, .int 0]))] s.heap.size = A at hD hE ⊢
  have hA : ∀ q : Nat, s.heap.size ≤ q → A q := fun q h => by rw [← hAe]; exact Or.inr h
  have hS : va_S A s.heap s.heap [] := va_S.rf
  have hP : va_P (dC, dI) vwCl [(mo, .inr (15, [.int th, .ref (lm 0), .ref (lm 1), .ref (lm 2), .ref (lm 3), .ref (lm 4), .int 0, .int 0])), ((lm 0), .inr (2, [.int 0, .ref e0, .int 0])), ((lm 1), .inr (2, [.int 0, .ref e0, .int 0])), ((lm 2), .inr (2, [.int 0, .ref e0, .int 0])), ((lm 3), .inr (2, [.int 0, .ref e0, .int 0])), ((lm 4), .inr (2, [.int 0, .ref e0, .int 0]))] s.heap := hP
  have hl := lv_entry ([.ref mo, .int a]) (n := 2) (Nat.le_of_ble_eq_true rfl)
  rw [lg_entry_eq]
  generalize (lg_sl ([.ref mo, .int a]) ++ List.replicate (2 - (lg_sl ([.ref mo, .int a])).length) Slot.unset).toArray = ls at hl ⊢
  have hl : lv_has ls 2 [(0, .ref mo), (1, .int a)] := hl
  refine lv_aload_n hx hb dX12_measure_0 rfl (lv_at hl 0 rfl) ?_
  refine lv_iload_n hx hb dX12_measure_1 rfl (lv_at hl 1 rfl) ?_
  have hPc := hP.sub (ws' := [(mo, .inr (15, [.int th, .ref (lm 0), .ref (lm 1), .ref (lm 2), .ref (lm 3), .ref (lm 4), .int 0, .int 0])), ((lm 0), .inr (2, [.int 0, .ref e0, .int 0])), ((lm 1), .inr (2, [.int 0, .ref e0, .int 0])), ((lm 2), .inr (2, [.int 0, .ref e0, .int 0])), ((lm 3), .inr (2, [.int 0, .ref e0, .int 0])), ((lm 4), .inr (2, [.int 0, .ref e0, .int 0]))]) [0, 1, 2, 3, 4, 5] rfl
  have hDc := hD.sub (ws' := [(mo, .inr (15, [.int th, .ref (lm 0), .ref (lm 1), .ref (lm 2), .ref (lm 3), .ref (lm 4), .int 0, .int 0])), ((lm 0), .inr (2, [.int 0, .ref e0, .int 0])), ((lm 1), .inr (2, [.int 0, .ref e0, .int 0])), ((lm 2), .inr (2, [.int 0, .ref e0, .int 0])), ((lm 3), .inr (2, [.int 0, .ref e0, .int 0])), ((lm 4), .inr (2, [.int 0, .ref e0, .int 0]))]) [0, 1, 2, 3, 4, 5] (by decide) rfl
  have hKc := hK.sub (tys' := []) [] rfl
  have hFc := va_free (wc := [(mo, .inr (15, [.int th, .ref (lm 0), .ref (lm 1), .ref (lm 2), .ref (lm 3), .ref (lm 4), .int 0, .int 0])), ((lm 0), .inr (2, [.int 0, .ref e0, .int 0])), ((lm 1), .inr (2, [.int 0, .ref e0, .int 0])), ((lm 2), .inr (2, [.int 0, .ref e0, .int 0])), ((lm 3), .inr (2, [.int 0, .ref e0, .int 0])), ((lm 4), .inr (2, [.int 0, .ref e0, .int 0]))]) hD hS hA [0, 1, 2, 3, 4, 5] rfl
  refine va_calli (va_runV (As := [.int a]) (rest := []) ⟨hx, hb, hml, hown, hts⟩ (c_X12_isNoBody l dC dI s.heap.size mo lm e0 th a) (cwV 1 hts (goodIn_app (goodIn_of _ (by decide +kernel)) (goodIn_sub ((fun w h => List.mem_cons_of_mem _ (List.mem_append_right _ (h)))) zgX12_isNoBody)) rfl rfl rfl (by decide +kernel) ⟨Nat.le_of_ble_eq_true rfl, Nat.le_of_ble_eq_true rfl⟩) ⟨gPcE_blind, va_recv hK hP (ci := 15) (q0 := 0) rfl rfl, gPcE_pass hPc hKc hDc hE hS hFc⟩ rfl rfl hl.1 rfl (lv_room (Nat.le_of_ble_eq_true rfl)) dX12_measure_2 ⟨Nat.le_of_ble_eq_true rfl, Nat.le_of_ble_eq_true rfl⟩) hS (fun q _ h => hFc q h) hFc (fun r_1 u_2 t H locs ht hvm hw hB hz hk hS => ?_)
  obtain ⟨hP1, hK1, hD1⟩ := hB
  rw [ht] at hP1
  obtain ⟨hP, hD⟩ := va_join (wr := []) (w1 := [(mo, .inr (15, [.int u_2, .ref (lm 0), .ref (lm 1), .ref (lm 2), .ref (lm 3), .ref (lm 4), .int 0, .int 0])), ((lm 0), .inr (2, [.int 0, .ref e0, .int 0])), ((lm 1), .inr (2, [.int 0, .ref e0, .int 0])), ((lm 2), .inr (2, [.int 0, .ref e0, .int 0])), ((lm 3), .inr (2, [.int 0, .ref e0, .int 0])), ((lm 4), .inr (2, [.int 0, .ref e0, .int 0]))]) hP hD [0, 1, 2, 3, 4, 5] [] rfl rfl (by decide) (by decide) hk hFc hP1 hD1
  have hP : va_P (dC, dI) vwCl [(mo, .inr (15, [.int u_2, .ref (lm 0), .ref (lm 1), .ref (lm 2), .ref (lm 3), .ref (lm 4), .int 0, .int 0])), ((lm 0), .inr (2, [.int 0, .ref e0, .int 0])), ((lm 1), .inr (2, [.int 0, .ref e0, .int 0])), ((lm 2), .inr (2, [.int 0, .ref e0, .int 0])), ((lm 3), .inr (2, [.int 0, .ref e0, .int 0])), ((lm 4), .inr (2, [.int 0, .ref e0, .int 0]))] H := hP
  have hD : va_D A [(mo, .inr (15, [.int u_2, .ref (lm 0), .ref (lm 1), .ref (lm 2), .ref (lm 3), .ref (lm 4), .int 0, .int 0])), ((lm 0), .inr (2, [.int 0, .ref e0, .int 0])), ((lm 1), .inr (2, [.int 0, .ref e0, .int 0])), ((lm 2), .inr (2, [.int 0, .ref e0, .int 0])), ((lm 3), .inr (2, [.int 0, .ref e0, .int 0])), ((lm 4), .inr (2, [.int 0, .ref e0, .int 0]))] := hD
  have hw : r_1 = 1 ∧ u_2 = 1 := hw
  obtain ⟨rfl, rfl⟩ : r_1 = 1 ∧ u_2 = 1 := hw
  refine lv_if_ne (tgt := 41) hx hb dX12_measure_5 (by decide) (fun _ => ?_) (fun c_3 => absurd c_3 (by decide))
  refine lv_iconst (v := 0) hx hb dX12_measure_41 (by decide) ?_
  refine lv_goto (tgt := 61) hx hb dX12_measure_42 (by decide) ?_
  have hP9 := hP.sub (ws' := [(mo, .inr (15, [.int 1, .ref (lm 0), .ref (lm 1), .ref (lm 2), .ref (lm 3), .ref (lm 4), .int 0, .int 0])), ((lm 0), .inr (2, [.int 0, .ref e0, .int 0])), ((lm 1), .inr (2, [.int 0, .ref e0, .int 0])), ((lm 2), .inr (2, [.int 0, .ref e0, .int 0])), ((lm 3), .inr (2, [.int 0, .ref e0, .int 0])), ((lm 4), .inr (2, [.int 0, .ref e0, .int 0]))]) [0, 1, 2, 3, 4, 5] rfl
  have hD9 := hD.sub (ws' := [(mo, .inr (15, [.int 1, .ref (lm 0), .ref (lm 1), .ref (lm 2), .ref (lm 3), .ref (lm 4), .int 0, .int 0])), ((lm 0), .inr (2, [.int 0, .ref e0, .int 0])), ((lm 1), .inr (2, [.int 0, .ref e0, .int 0])), ((lm 2), .inr (2, [.int 0, .ref e0, .int 0])), ((lm 3), .inr (2, [.int 0, .ref e0, .int 0])), ((lm 4), .inr (2, [.int 0, .ref e0, .int 0]))]) [0, 1, 2, 3, 4, 5] (by decide) rfl
  have hK9 := hK.sub (tys' := []) [] rfl
  refine W.widen (k := 0) (n := 0) (Nat.le_of_ble_eq_true rfl) (Nat.le_of_ble_eq_true rfl) ?_
  exact W.iret (v := 0) hx hb hr (fun t ht hW => ⟨⟨0, 1, rfl, ⟨rfl, rfl⟩, by rw [ht]; exact hP9, va_K.moved hW.alike hK9, hD9⟩, hS.F ht⟩) hS.2.2 dX12_measure_61

def zwX12_isLacking : List Cond := .code yX12_isLacking cX12_isLacking 3 (some .boolean) :: (([.methodLink RX12 291 yX12_isNoSpot, .instanceMethod yX12_isNoSpot, .selects RX12 yX12_isNoSpot yX12_isNoSpot, .initialized RX12] : List Cond) ++ (zwX12_isNoSpot))
theorem zgX12_isLacking : zwX12_isLacking.all goodWord = true := zgo rfl (zga (by decide +kernel) (zgX12_isNoSpot))
set_option maxHeartbeats 4000000 in
set_option maxRecDepth 100000 in
theorem c_X12_isLacking (l : Launch) (dC : Nat → ClassId) (dI : Nat → Nat → Nat) (sz : Nat) (mo : Nat) (lm : Nat → Nat) (e0 : Nat) (th : Int32) (a : Int32) (b : Int32) : Met l yX12_isLacking zwX12_isLacking ({ frames := 3, cells := 0, slots := 0, locals := 65 }) (gPcE dC dI sz [(mo, .inr (15, [.int th, .ref (lm 0), .ref (lm 1), .ref (lm 2), .ref (lm 3), .ref (lm 4), .int 0, .int 0])), ((lm 0), .inr (2, [.int 0, .ref e0, .int 0])), ((lm 1), .inr (2, [.int 0, .ref e0, .int 0])), ((lm 2), .inr (2, [.int 0, .ref e0, .int 0])), ((lm 3), .inr (2, [.int 0, .ref e0, .int 0])), ((lm 4), .inr (2, [.int 0, .ref e0, .int 0]))] [] [.ref mo, .int a, .int b]) (va_Qi (fun (r : Int32) (u : Int32) => r = 0 ∧ u = 1) (fun u t => va_P (dC, dI) vwCl [(mo, .inr (15, [.int u, .ref (lm 0), .ref (lm 1), .ref (lm 2), .ref (lm 3), .ref (lm 4), .int 0, .int 0])), ((lm 0), .inr (2, [.int 0, .ref e0, .int 0])), ((lm 1), .inr (2, [.int 0, .ref e0, .int 0])), ((lm 2), .inr (2, [.int 0, .ref e0, .int 0])), ((lm 3), .inr (2, [.int 0, .ref e0, .int 0])), ((lm 4), .inr (2, [.int 0, .ref e0, .int 0]))] t.heap ∧ va_K (dC, dI) vwCl [] t ∧ va_D (va_A [(mo, .inr (15, [.int th, .ref (lm 0), .ref (lm 1), .ref (lm 2), .ref (lm 3), .ref (lm 4), .int 0, .int 0])), ((lm 0), .inr (2, [.int 0, .ref e0, .int 0])), ((lm 1), .inr (2, [.int 0, .ref e0, .int 0])), ((lm 2), .inr (2, [.int 0, .ref e0, .int 0])), ((lm 3), .inr (2, [.int 0, .ref e0, .int 0])), ((lm 4), .inr (2, [.int 0, .ref e0, .int 0]))] sz) [(mo, .inr (15, [.int u, .ref (lm 0), .ref (lm 1), .ref (lm 2), .ref (lm 3), .ref (lm 4), .int 0, .int 0])), ((lm 0), .inr (2, [.int 0, .ref e0, .int 0])), ((lm 1), .inr (2, [.int 0, .ref e0, .int 0])), ((lm 2), .inr (2, [.int 0, .ref e0, .int 0])), ((lm 3), .inr (2, [.int 0, .ref e0, .int 0])), ((lm 4), .inr (2, [.int 0, .ref e0, .int 0]))]) (va_A [(mo, .inr (15, [.int th, .ref (lm 0), .ref (lm 1), .ref (lm 2), .ref (lm 3), .ref (lm 4), .int 0, .int 0])), ((lm 0), .inr (2, [.int 0, .ref e0, .int 0])), ((lm 1), .inr (2, [.int 0, .ref e0, .int 0])), ((lm 2), .inr (2, [.int 0, .ref e0, .int 0])), ((lm 3), .inr (2, [.int 0, .ref e0, .int 0])), ((lm 4), .inr (2, [.int 0, .ref e0, .int 0]))] sz)) 0 0 (va_A [(mo, .inr (15, [.int th, .ref (lm 0), .ref (lm 1), .ref (lm 2), .ref (lm 3), .ref (lm 4), .int 0, .int 0])), ((lm 0), .inr (2, [.int 0, .ref e0, .int 0])), ((lm 1), .inr (2, [.int 0, .ref e0, .int 0])), ((lm 2), .inr (2, [.int 0, .ref e0, .int 0])), ((lm 3), .inr (2, [.int 0, .ref e0, .int 0])), ((lm 4), .inr (2, [.int 0, .ref e0, .int 0]))] sz) := by
  refine Met.ofW (cc := cX12_isLacking) (maxL := 3) (ret := (some .boolean)) (by decide) rfl ?_
  intro p e s m args below meth c s₁ B hml hv
  obtain ⟨rfl, hsz, hP, hK, hD0, hE⟩ := hv
  have hx := B.exec
  have hb := B.bytes
  have hr := B.returns
  have hts := atoms_spec (ws := zwX12_isLacking) B.pre
  have hown : s.vm.findClass RX12 = some m.cls := findClass_of_methodNamed B.named
  have hlocks := B.notSynchronized
  subst hsz
  have hD := hD0.self (sz := s.heap.size)
  generalize hAe : va_A [(mo, .inr (15, [.int th, .ref (lm 0), .ref (lm 1), .ref (lm 2), .ref (lm 3), .ref (lm 4), .int 0, .int 0])), ((lm 0), .inr (2, [.int 0, .ref e0, .int 0])), ((lm 1), .inr (2, [.int 0, .ref e0, .int 0])), ((lm 2), .inr (2, [.int 0, .ref e0, .int 0])), ((lm 3), .inr (2, [.int 0, .ref e0, .int 0])), ((lm 4), .inr (2, [.int 0, .ref e0, .int 0]))] s.heap.size = A at hD hE ⊢
  have hA : ∀ q : Nat, s.heap.size ≤ q → A q := fun q h => by rw [← hAe]; exact Or.inr h
  have hS : va_S A s.heap s.heap [] := va_S.rf
  have hP : va_P (dC, dI) vwCl [(mo, .inr (15, [.int th, .ref (lm 0), .ref (lm 1), .ref (lm 2), .ref (lm 3), .ref (lm 4), .int 0, .int 0])), ((lm 0), .inr (2, [.int 0, .ref e0, .int 0])), ((lm 1), .inr (2, [.int 0, .ref e0, .int 0])), ((lm 2), .inr (2, [.int 0, .ref e0, .int 0])), ((lm 3), .inr (2, [.int 0, .ref e0, .int 0])), ((lm 4), .inr (2, [.int 0, .ref e0, .int 0]))] s.heap := hP
  have hl := lv_entry ([.ref mo, .int a, .int b]) (n := 3) (Nat.le_of_ble_eq_true rfl)
  rw [lg_entry_eq]
  generalize (lg_sl ([.ref mo, .int a, .int b]) ++ List.replicate (3 - (lg_sl ([.ref mo, .int a, .int b])).length) Slot.unset).toArray = ls at hl ⊢
  have hl : lv_has ls 3 [(0, .ref mo), (1, .int a), (2, .int b)] := hl
  refine lv_aload_n hx hb dX12_isLacking_0 rfl (lv_at hl 0 rfl) ?_
  refine lv_iload_n hx hb dX12_isLacking_1 rfl (lv_at hl 1 rfl) ?_
  refine lv_iload_n hx hb dX12_isLacking_2 rfl (lv_at hl 2 rfl) ?_
  have hPc := hP.sub (ws' := [(mo, .inr (15, [.int th, .ref (lm 0), .ref (lm 1), .ref (lm 2), .ref (lm 3), .ref (lm 4), .int 0, .int 0])), ((lm 0), .inr (2, [.int 0, .ref e0, .int 0])), ((lm 1), .inr (2, [.int 0, .ref e0, .int 0])), ((lm 2), .inr (2, [.int 0, .ref e0, .int 0])), ((lm 3), .inr (2, [.int 0, .ref e0, .int 0])), ((lm 4), .inr (2, [.int 0, .ref e0, .int 0]))]) [0, 1, 2, 3, 4, 5] rfl
  have hDc := hD.sub (ws' := [(mo, .inr (15, [.int th, .ref (lm 0), .ref (lm 1), .ref (lm 2), .ref (lm 3), .ref (lm 4), .int 0, .int 0])), ((lm 0), .inr (2, [.int 0, .ref e0, .int 0])), ((lm 1), .inr (2, [.int 0, .ref e0, .int 0])), ((lm 2), .inr (2, [.int 0, .ref e0, .int 0])), ((lm 3), .inr (2, [.int 0, .ref e0, .int 0])), ((lm 4), .inr (2, [.int 0, .ref e0, .int 0]))]) [0, 1, 2, 3, 4, 5] (by decide) rfl
  have hKc := hK.sub (tys' := []) [] rfl
  have hFc := va_free (wc := [(mo, .inr (15, [.int th, .ref (lm 0), .ref (lm 1), .ref (lm 2), .ref (lm 3), .ref (lm 4), .int 0, .int 0])), ((lm 0), .inr (2, [.int 0, .ref e0, .int 0])), ((lm 1), .inr (2, [.int 0, .ref e0, .int 0])), ((lm 2), .inr (2, [.int 0, .ref e0, .int 0])), ((lm 3), .inr (2, [.int 0, .ref e0, .int 0])), ((lm 4), .inr (2, [.int 0, .ref e0, .int 0]))]) hD hS hA [0, 1, 2, 3, 4, 5] rfl
  refine va_calli (va_runV (As := [.int a, .int b]) (rest := []) ⟨hx, hb, hml, hown, hts⟩ (c_X12_isNoSpot l dC dI s.heap.size mo lm e0 th a b) (cwV 2 hts (goodIn_app (goodIn_of _ (by decide +kernel)) (goodIn_sub ((fun w h => List.mem_cons_of_mem _ (List.mem_append_right _ (h)))) zgX12_isNoSpot)) rfl rfl rfl (by decide +kernel) ⟨Nat.le_of_ble_eq_true rfl, Nat.le_of_ble_eq_true rfl⟩) ⟨gPcE_blind, va_recv hK hP (ci := 15) (q0 := 0) rfl rfl, gPcE_pass hPc hKc hDc hE hS hFc⟩ rfl rfl hl.1 rfl (lv_room (Nat.le_of_ble_eq_true rfl)) dX12_isLacking_3 ⟨Nat.le_of_ble_eq_true rfl, Nat.le_of_ble_eq_true rfl⟩) hS (fun q _ h => hFc q h) hFc (fun r_1 u_2 t H locs ht hvm hw hB hz hk hS => ?_)
  obtain ⟨hP1, hK1, hD1⟩ := hB
  rw [ht] at hP1
  obtain ⟨hP, hD⟩ := va_join (wr := []) (w1 := [(mo, .inr (15, [.int u_2, .ref (lm 0), .ref (lm 1), .ref (lm 2), .ref (lm 3), .ref (lm 4), .int 0, .int 0])), ((lm 0), .inr (2, [.int 0, .ref e0, .int 0])), ((lm 1), .inr (2, [.int 0, .ref e0, .int 0])), ((lm 2), .inr (2, [.int 0, .ref e0, .int 0])), ((lm 3), .inr (2, [.int 0, .ref e0, .int 0])), ((lm 4), .inr (2, [.int 0, .ref e0, .int 0]))]) hP hD [0, 1, 2, 3, 4, 5] [] rfl rfl (by decide) (by decide) hk hFc hP1 hD1
  have hP : va_P (dC, dI) vwCl [(mo, .inr (15, [.int u_2, .ref (lm 0), .ref (lm 1), .ref (lm 2), .ref (lm 3), .ref (lm 4), .int 0, .int 0])), ((lm 0), .inr (2, [.int 0, .ref e0, .int 0])), ((lm 1), .inr (2, [.int 0, .ref e0, .int 0])), ((lm 2), .inr (2, [.int 0, .ref e0, .int 0])), ((lm 3), .inr (2, [.int 0, .ref e0, .int 0])), ((lm 4), .inr (2, [.int 0, .ref e0, .int 0]))] H := hP
  have hD : va_D A [(mo, .inr (15, [.int u_2, .ref (lm 0), .ref (lm 1), .ref (lm 2), .ref (lm 3), .ref (lm 4), .int 0, .int 0])), ((lm 0), .inr (2, [.int 0, .ref e0, .int 0])), ((lm 1), .inr (2, [.int 0, .ref e0, .int 0])), ((lm 2), .inr (2, [.int 0, .ref e0, .int 0])), ((lm 3), .inr (2, [.int 0, .ref e0, .int 0])), ((lm 4), .inr (2, [.int 0, .ref e0, .int 0]))] := hD
  have hw : r_1 = 1 ∧ u_2 = 1 := hw
  obtain ⟨rfl, rfl⟩ : r_1 = 1 ∧ u_2 = 1 := hw
  refine lv_if_ne (tgt := 34) hx hb dX12_isLacking_6 (by decide) (fun _ => ?_) (fun c_3 => absurd c_3 (by decide))
  refine lv_iconst (v := 0) hx hb dX12_isLacking_34 (by decide) ?_
  have hP9 := hP.sub (ws' := [(mo, .inr (15, [.int 1, .ref (lm 0), .ref (lm 1), .ref (lm 2), .ref (lm 3), .ref (lm 4), .int 0, .int 0])), ((lm 0), .inr (2, [.int 0, .ref e0, .int 0])), ((lm 1), .inr (2, [.int 0, .ref e0, .int 0])), ((lm 2), .inr (2, [.int 0, .ref e0, .int 0])), ((lm 3), .inr (2, [.int 0, .ref e0, .int 0])), ((lm 4), .inr (2, [.int 0, .ref e0, .int 0]))]) [0, 1, 2, 3, 4, 5] rfl
  have hD9 := hD.sub (ws' := [(mo, .inr (15, [.int 1, .ref (lm 0), .ref (lm 1), .ref (lm 2), .ref (lm 3), .ref (lm 4), .int 0, .int 0])), ((lm 0), .inr (2, [.int 0, .ref e0, .int 0])), ((lm 1), .inr (2, [.int 0, .ref e0, .int 0])), ((lm 2), .inr (2, [.int 0, .ref e0, .int 0])), ((lm 3), .inr (2, [.int 0, .ref e0, .int 0])), ((lm 4), .inr (2, [.int 0, .ref e0, .int 0]))]) [0, 1, 2, 3, 4, 5] (by decide) rfl
  have hK9 := hK.sub (tys' := []) [] rfl
  refine W.widen (k := 0) (n := 0) (Nat.le_of_ble_eq_true rfl) (Nat.le_of_ble_eq_true rfl) ?_
  exact W.zret (v := 0) hx hb hr (by decide +kernel) (fun t ht hW => ⟨⟨0, 1, rfl, ⟨rfl, rfl⟩, by rw [ht]; exact hP9, va_K.moved hW.alike hK9, hD9⟩, hS.F ht⟩) hS.2.2 dX12_isLacking_35

def zwX12_mend : List Cond := .code yX12_mend cX12_mend 3 (some .int) :: (([.methodLink RX12 291 yX12_isNoSpot, .instanceMethod yX12_isNoSpot, .selects RX12 yX12_isNoSpot yX12_isNoSpot, .initialized RX12] : List Cond) ++ (zwX12_isNoSpot))
theorem zgX12_mend : zwX12_mend.all goodWord = true := zgo rfl (zga (by decide +kernel) (zgX12_isNoSpot))
set_option maxHeartbeats 4000000 in
set_option maxRecDepth 100000 in
theorem c_X12_mend (l : Launch) (dC : Nat → ClassId) (dI : Nat → Nat → Nat) (sz : Nat) (mo : Nat) (lm : Nat → Nat) (e0 : Nat) (th : Int32) (a : Int32) (b : Int32) : Met l yX12_mend zwX12_mend ({ frames := 3, cells := 0, slots := 0, locals := 65 }) (gPcE dC dI sz [(mo, .inr (15, [.int th, .ref (lm 0), .ref (lm 1), .ref (lm 2), .ref (lm 3), .ref (lm 4), .int 0, .int 0])), ((lm 0), .inr (2, [.int 0, .ref e0, .int 0])), ((lm 1), .inr (2, [.int 0, .ref e0, .int 0])), ((lm 2), .inr (2, [.int 0, .ref e0, .int 0])), ((lm 3), .inr (2, [.int 0, .ref e0, .int 0])), ((lm 4), .inr (2, [.int 0, .ref e0, .int 0]))] [] [.ref mo, .int a, .int b]) (va_Qi (fun (r : Int32) (u : Int32) => r = 0 ∧ u = 1) (fun u t => va_P (dC, dI) vwCl [(mo, .inr (15, [.int u, .ref (lm 0), .ref (lm 1), .ref (lm 2), .ref (lm 3), .ref (lm 4), .int 0, .int 0])), ((lm 0), .inr (2, [.int 0, .ref e0, .int 0])), ((lm 1), .inr (2, [.int 0, .ref e0, .int 0])), ((lm 2), .inr (2, [.int 0, .ref e0, .int 0])), ((lm 3), .inr (2, [.int 0, .ref e0, .int 0])), ((lm 4), .inr (2, [.int 0, .ref e0, .int 0]))] t.heap ∧ va_K (dC, dI) vwCl [] t ∧ va_D (va_A [(mo, .inr (15, [.int th, .ref (lm 0), .ref (lm 1), .ref (lm 2), .ref (lm 3), .ref (lm 4), .int 0, .int 0])), ((lm 0), .inr (2, [.int 0, .ref e0, .int 0])), ((lm 1), .inr (2, [.int 0, .ref e0, .int 0])), ((lm 2), .inr (2, [.int 0, .ref e0, .int 0])), ((lm 3), .inr (2, [.int 0, .ref e0, .int 0])), ((lm 4), .inr (2, [.int 0, .ref e0, .int 0]))] sz) [(mo, .inr (15, [.int u, .ref (lm 0), .ref (lm 1), .ref (lm 2), .ref (lm 3), .ref (lm 4), .int 0, .int 0])), ((lm 0), .inr (2, [.int 0, .ref e0, .int 0])), ((lm 1), .inr (2, [.int 0, .ref e0, .int 0])), ((lm 2), .inr (2, [.int 0, .ref e0, .int 0])), ((lm 3), .inr (2, [.int 0, .ref e0, .int 0])), ((lm 4), .inr (2, [.int 0, .ref e0, .int 0]))]) (va_A [(mo, .inr (15, [.int th, .ref (lm 0), .ref (lm 1), .ref (lm 2), .ref (lm 3), .ref (lm 4), .int 0, .int 0])), ((lm 0), .inr (2, [.int 0, .ref e0, .int 0])), ((lm 1), .inr (2, [.int 0, .ref e0, .int 0])), ((lm 2), .inr (2, [.int 0, .ref e0, .int 0])), ((lm 3), .inr (2, [.int 0, .ref e0, .int 0])), ((lm 4), .inr (2, [.int 0, .ref e0, .int 0]))] sz)) 0 0 (va_A [(mo, .inr (15, [.int th, .ref (lm 0), .ref (lm 1), .ref (lm 2), .ref (lm 3), .ref (lm 4), .int 0, .int 0])), ((lm 0), .inr (2, [.int 0, .ref e0, .int 0])), ((lm 1), .inr (2, [.int 0, .ref e0, .int 0])), ((lm 2), .inr (2, [.int 0, .ref e0, .int 0])), ((lm 3), .inr (2, [.int 0, .ref e0, .int 0])), ((lm 4), .inr (2, [.int 0, .ref e0, .int 0]))] sz) := by
  refine Met.ofW (cc := cX12_mend) (maxL := 3) (ret := (some .int)) (by decide) rfl ?_
  intro p e s m args below meth c s₁ B hml hv
  obtain ⟨rfl, hsz, hP, hK, hD0, hE⟩ := hv
  have hx := B.exec
  have hb := B.bytes
  have hr := B.returns
  have hts := atoms_spec (ws := zwX12_mend) B.pre
  have hown : s.vm.findClass RX12 = some m.cls := findClass_of_methodNamed B.named
  have hlocks := B.notSynchronized
  subst hsz
  have hD := hD0.self (sz := s.heap.size)
  generalize hAe : va_A [(mo, .inr (15, [.int th, .ref (lm 0), .ref (lm 1), .ref (lm 2), .ref (lm 3), .ref (lm 4), .int 0, .int 0])), ((lm 0), .inr (2, [.int 0, .ref e0, .int 0])), ((lm 1), .inr (2, [.int 0, .ref e0, .int 0])), ((lm 2), .inr (2, [.int 0, .ref e0, .int 0])), ((lm 3), .inr (2, [.int 0, .ref e0, .int 0])), ((lm 4), .inr (2, [.int 0, .ref e0, .int 0]))] s.heap.size = A at hD hE ⊢
  have hA : ∀ q : Nat, s.heap.size ≤ q → A q := fun q h => by rw [← hAe]; exact Or.inr h
  have hS : va_S A s.heap s.heap [] := va_S.rf
  have hP : va_P (dC, dI) vwCl [(mo, .inr (15, [.int th, .ref (lm 0), .ref (lm 1), .ref (lm 2), .ref (lm 3), .ref (lm 4), .int 0, .int 0])), ((lm 0), .inr (2, [.int 0, .ref e0, .int 0])), ((lm 1), .inr (2, [.int 0, .ref e0, .int 0])), ((lm 2), .inr (2, [.int 0, .ref e0, .int 0])), ((lm 3), .inr (2, [.int 0, .ref e0, .int 0])), ((lm 4), .inr (2, [.int 0, .ref e0, .int 0]))] s.heap := hP
  have hl := lv_entry ([.ref mo, .int a, .int b]) (n := 3) (Nat.le_of_ble_eq_true rfl)
  rw [lg_entry_eq]
  generalize (lg_sl ([.ref mo, .int a, .int b]) ++ List.replicate (3 - (lg_sl ([.ref mo, .int a, .int b])).length) Slot.unset).toArray = ls at hl ⊢
  have hl : lv_has ls 3 [(0, .ref mo), (1, .int a), (2, .int b)] := hl
  refine lv_aload_n hx hb dX12_mend_0 rfl (lv_at hl 0 rfl) ?_
  refine lv_iload_n hx hb dX12_mend_1 rfl (lv_at hl 1 rfl) ?_
  refine lv_iload_n hx hb dX12_mend_2 rfl (lv_at hl 2 rfl) ?_
  have hPc := hP.sub (ws' := [(mo, .inr (15, [.int th, .ref (lm 0), .ref (lm 1), .ref (lm 2), .ref (lm 3), .ref (lm 4), .int 0, .int 0])), ((lm 0), .inr (2, [.int 0, .ref e0, .int 0])), ((lm 1), .inr (2, [.int 0, .ref e0, .int 0])), ((lm 2), .inr (2, [.int 0, .ref e0, .int 0])), ((lm 3), .inr (2, [.int 0, .ref e0, .int 0])), ((lm 4), .inr (2, [.int 0, .ref e0, .int 0]))]) [0, 1, 2, 3, 4, 5] rfl
  have hDc := hD.sub (ws' := [(mo, .inr (15, [.int th, .ref (lm 0), .ref (lm 1), .ref (lm 2), .ref (lm 3), .ref (lm 4), .int 0, .int 0])), ((lm 0), .inr (2, [.int 0, .ref e0, .int 0])), ((lm 1), .inr (2, [.int 0, .ref e0, .int 0])), ((lm 2), .inr (2, [.int 0, .ref e0, .int 0])), ((lm 3), .inr (2, [.int 0, .ref e0, .int 0])), ((lm 4), .inr (2, [.int 0, .ref e0, .int 0]))]) [0, 1, 2, 3, 4, 5] (by decide) rfl
  have hKc := hK.sub (tys' := []) [] rfl
  have hFc := va_free (wc := [(mo, .inr (15, [.int th, .ref (lm 0), .ref (lm 1), .ref (lm 2), .ref (lm 3), .ref (lm 4), .int 0, .int 0])), ((lm 0), .inr (2, [.int 0, .ref e0, .int 0])), ((lm 1), .inr (2, [.int 0, .ref e0, .int 0])), ((lm 2), .inr (2, [.int 0, .ref e0, .int 0])), ((lm 3), .inr (2, [.int 0, .ref e0, .int 0])), ((lm 4), .inr (2, [.int 0, .ref e0, .int 0]))]) hD hS hA [0, 1, 2, 3, 4, 5] rfl
  refine va_calli (va_runV (As := [.int a, .int b]) (rest := []) ⟨hx, hb, hml, hown, hts⟩ (c_X12_isNoSpot l dC dI s.heap.size mo lm e0 th a b) (cwV 2 hts (goodIn_app (goodIn_of _ (by decide +kernel)) (goodIn_sub ((fun w h => List.mem_cons_of_mem _ (List.mem_append_right _ (h)))) zgX12_isNoSpot)) rfl rfl rfl (by decide +kernel) ⟨Nat.le_of_ble_eq_true rfl, Nat.le_of_ble_eq_true rfl⟩) ⟨gPcE_blind, va_recv hK hP (ci := 15) (q0 := 0) rfl rfl, gPcE_pass hPc hKc hDc hE hS hFc⟩ rfl rfl hl.1 rfl (lv_room (Nat.le_of_ble_eq_true rfl)) dX12_mend_3 ⟨Nat.le_of_ble_eq_true rfl, Nat.le_of_ble_eq_true rfl⟩) hS (fun q _ h => hFc q h) hFc (fun r_1 u_2 t H locs ht hvm hw hB hz hk hS => ?_)
  obtain ⟨hP1, hK1, hD1⟩ := hB
  rw [ht] at hP1
  obtain ⟨hP, hD⟩ := va_join (wr := []) (w1 := [(mo, .inr (15, [.int u_2, .ref (lm 0), .ref (lm 1), .ref (lm 2), .ref (lm 3), .ref (lm 4), .int 0, .int 0])), ((lm 0), .inr (2, [.int 0, .ref e0, .int 0])), ((lm 1), .inr (2, [.int 0, .ref e0, .int 0])), ((lm 2), .inr (2, [.int 0, .ref e0, .int 0])), ((lm 3), .inr (2, [.int 0, .ref e0, .int 0])), ((lm 4), .inr (2, [.int 0, .ref e0, .int 0]))]) hP hD [0, 1, 2, 3, 4, 5] [] rfl rfl (by decide) (by decide) hk hFc hP1 hD1
  have hP : va_P (dC, dI) vwCl [(mo, .inr (15, [.int u_2, .ref (lm 0), .ref (lm 1), .ref (lm 2), .ref (lm 3), .ref (lm 4), .int 0, .int 0])), ((lm 0), .inr (2, [.int 0, .ref e0, .int 0])), ((lm 1), .inr (2, [.int 0, .ref e0, .int 0])), ((lm 2), .inr (2, [.int 0, .ref e0, .int 0])), ((lm 3), .inr (2, [.int 0, .ref e0, .int 0])), ((lm 4), .inr (2, [.int 0, .ref e0, .int 0]))] H := hP
  have hD : va_D A [(mo, .inr (15, [.int u_2, .ref (lm 0), .ref (lm 1), .ref (lm 2), .ref (lm 3), .ref (lm 4), .int 0, .int 0])), ((lm 0), .inr (2, [.int 0, .ref e0, .int 0])), ((lm 1), .inr (2, [.int 0, .ref e0, .int 0])), ((lm 2), .inr (2, [.int 0, .ref e0, .int 0])), ((lm 3), .inr (2, [.int 0, .ref e0, .int 0])), ((lm 4), .inr (2, [.int 0, .ref e0, .int 0]))] := hD
  have hw : r_1 = 1 ∧ u_2 = 1 := hw
  obtain ⟨rfl, rfl⟩ : r_1 = 1 ∧ u_2 = 1 := hw
  refine lv_if_ne (tgt := 63) hx hb dX12_mend_6 (by decide) (fun _ => ?_) (fun c_3 => absurd c_3 (by decide))
  refine lv_iconst (v := 0) hx hb dX12_mend_63 (by decide) ?_
  have hP9 := hP.sub (ws' := [(mo, .inr (15, [.int 1, .ref (lm 0), .ref (lm 1), .ref (lm 2), .ref (lm 3), .ref (lm 4), .int 0, .int 0])), ((lm 0), .inr (2, [.int 0, .ref e0, .int 0])), ((lm 1), .inr (2, [.int 0, .ref e0, .int 0])), ((lm 2), .inr (2, [.int 0, .ref e0, .int 0])), ((lm 3), .inr (2, [.int 0, .ref e0, .int 0])), ((lm 4), .inr (2, [.int 0, .ref e0, .int 0]))]) [0, 1, 2, 3, 4, 5] rfl
  have hD9 := hD.sub (ws' := [(mo, .inr (15, [.int 1, .ref (lm 0), .ref (lm 1), .ref (lm 2), .ref (lm 3), .ref (lm 4), .int 0, .int 0])), ((lm 0), .inr (2, [.int 0, .ref e0, .int 0])), ((lm 1), .inr (2, [.int 0, .ref e0, .int 0])), ((lm 2), .inr (2, [.int 0, .ref e0, .int 0])), ((lm 3), .inr (2, [.int 0, .ref e0, .int 0])), ((lm 4), .inr (2, [.int 0, .ref e0, .int 0]))]) [0, 1, 2, 3, 4, 5] (by decide) rfl
  have hK9 := hK.sub (tys' := []) [] rfl
  refine W.widen (k := 0) (n := 0) (Nat.le_of_ble_eq_true rfl) (Nat.le_of_ble_eq_true rfl) ?_
  exact W.iret (v := 0) hx hb hr (fun t ht hW => ⟨⟨0, 1, rfl, ⟨rfl, rfl⟩, by rw [ht]; exact hP9, va_K.moved hW.alike hK9, hD9⟩, hS.F ht⟩) hS.2.2 dX12_mend_64

def zwX12_maker : List Cond := .code yX12_maker cX12_maker 4 (some .int) :: (([.methodLink RX12 291 yX12_isNoSpot, .instanceMethod yX12_isNoSpot, .selects RX12 yX12_isNoSpot yX12_isNoSpot, .initialized RX12] : List Cond) ++ (zwX12_isNoSpot))
theorem zgX12_maker : zwX12_maker.all goodWord = true := zgo rfl (zga (by decide +kernel) (zgX12_isNoSpot))
set_option maxHeartbeats 4000000 in
set_option maxRecDepth 100000 in
theorem c_X12_maker (l : Launch) (dC : Nat → ClassId) (dI : Nat → Nat → Nat) (sz : Nat) (mo : Nat) (lm : Nat → Nat) (e0 : Nat) (th : Int32) (a : Int32) (b : Int32) : Met l yX12_maker zwX12_maker ({ frames := 3, cells := 0, slots := 0, locals := 65 }) (gPcE dC dI sz [(mo, .inr (15, [.int th, .ref (lm 0), .ref (lm 1), .ref (lm 2), .ref (lm 3), .ref (lm 4), .int 0, .int 0])), ((lm 0), .inr (2, [.int 0, .ref e0, .int 0])), ((lm 1), .inr (2, [.int 0, .ref e0, .int 0])), ((lm 2), .inr (2, [.int 0, .ref e0, .int 0])), ((lm 3), .inr (2, [.int 0, .ref e0, .int 0])), ((lm 4), .inr (2, [.int 0, .ref e0, .int 0]))] [] [.ref mo, .int a, .int b]) (va_Qi (fun (r : Int32) (u : Int32) => r = 0 ∧ u = 1) (fun u t => va_P (dC, dI) vwCl [(mo, .inr (15, [.int u, .ref (lm 0), .ref (lm 1), .ref (lm 2), .ref (lm 3), .ref (lm 4), .int 0, .int 0])), ((lm 0), .inr (2, [.int 0, .ref e0, .int 0])), ((lm 1), .inr (2, [.int 0, .ref e0, .int 0])), ((lm 2), .inr (2, [.int 0, .ref e0, .int 0])), ((lm 3), .inr (2, [.int 0, .ref e0, .int 0])), ((lm 4), .inr (2, [.int 0, .ref e0, .int 0]))] t.heap ∧ va_K (dC, dI) vwCl [] t ∧ va_D (va_A [(mo, .inr (15, [.int th, .ref (lm 0), .ref (lm 1), .ref (lm 2), .ref (lm 3), .ref (lm 4), .int 0, .int 0])), ((lm 0), .inr (2, [.int 0, .ref e0, .int 0])), ((lm 1), .inr (2, [.int 0, .ref e0, .int 0])), ((lm 2), .inr (2, [.int 0, .ref e0, .int 0])), ((lm 3), .inr (2, [.int 0, .ref e0, .int 0])), ((lm 4), .inr (2, [.int 0, .ref e0, .int 0]))] sz) [(mo, .inr (15, [.int u, .ref (lm 0), .ref (lm 1), .ref (lm 2), .ref (lm 3), .ref (lm 4), .int 0, .int 0])), ((lm 0), .inr (2, [.int 0, .ref e0, .int 0])), ((lm 1), .inr (2, [.int 0, .ref e0, .int 0])), ((lm 2), .inr (2, [.int 0, .ref e0, .int 0])), ((lm 3), .inr (2, [.int 0, .ref e0, .int 0])), ((lm 4), .inr (2, [.int 0, .ref e0, .int 0]))]) (va_A [(mo, .inr (15, [.int th, .ref (lm 0), .ref (lm 1), .ref (lm 2), .ref (lm 3), .ref (lm 4), .int 0, .int 0])), ((lm 0), .inr (2, [.int 0, .ref e0, .int 0])), ((lm 1), .inr (2, [.int 0, .ref e0, .int 0])), ((lm 2), .inr (2, [.int 0, .ref e0, .int 0])), ((lm 3), .inr (2, [.int 0, .ref e0, .int 0])), ((lm 4), .inr (2, [.int 0, .ref e0, .int 0]))] sz)) 0 0 (va_A [(mo, .inr (15, [.int th, .ref (lm 0), .ref (lm 1), .ref (lm 2), .ref (lm 3), .ref (lm 4), .int 0, .int 0])), ((lm 0), .inr (2, [.int 0, .ref e0, .int 0])), ((lm 1), .inr (2, [.int 0, .ref e0, .int 0])), ((lm 2), .inr (2, [.int 0, .ref e0, .int 0])), ((lm 3), .inr (2, [.int 0, .ref e0, .int 0])), ((lm 4), .inr (2, [.int 0, .ref e0, .int 0]))] sz) := by
  refine Met.ofW (cc := cX12_maker) (maxL := 4) (ret := (some .int)) (by decide) rfl ?_
  intro p e s m args below meth c s₁ B hml hv
  obtain ⟨rfl, hsz, hP, hK, hD0, hE⟩ := hv
  have hx := B.exec
  have hb := B.bytes
  have hr := B.returns
  have hts := atoms_spec (ws := zwX12_maker) B.pre
  have hown : s.vm.findClass RX12 = some m.cls := findClass_of_methodNamed B.named
  have hlocks := B.notSynchronized
  subst hsz
  have hD := hD0.self (sz := s.heap.size)
  generalize hAe : va_A [(mo, .inr (15, [.int th, .ref (lm 0), .ref (lm 1), .ref (lm 2), .ref (lm 3), .ref (lm 4), .int 0, .int 0])), ((lm 0), .inr (2, [.int 0, .ref e0, .int 0])), ((lm 1), .inr (2, [.int 0, .ref e0, .int 0])), ((lm 2), .inr (2, [.int 0, .ref e0, .int 0])), ((lm 3), .inr (2, [.int 0, .ref e0, .int 0])), ((lm 4), .inr (2, [.int 0, .ref e0, .int 0]))] s.heap.size = A at hD hE ⊢
  have hA : ∀ q : Nat, s.heap.size ≤ q → A q := fun q h => by rw [← hAe]; exact Or.inr h
  have hS : va_S A s.heap s.heap [] := va_S.rf
  have hP : va_P (dC, dI) vwCl [(mo, .inr (15, [.int th, .ref (lm 0), .ref (lm 1), .ref (lm 2), .ref (lm 3), .ref (lm 4), .int 0, .int 0])), ((lm 0), .inr (2, [.int 0, .ref e0, .int 0])), ((lm 1), .inr (2, [.int 0, .ref e0, .int 0])), ((lm 2), .inr (2, [.int 0, .ref e0, .int 0])), ((lm 3), .inr (2, [.int 0, .ref e0, .int 0])), ((lm 4), .inr (2, [.int 0, .ref e0, .int 0]))] s.heap := hP
  have hl := lv_entry ([.ref mo, .int a, .int b]) (n := 4) (Nat.le_of_ble_eq_true rfl)
  rw [lg_entry_eq]
  generalize (lg_sl ([.ref mo, .int a, .int b]) ++ List.replicate (4 - (lg_sl ([.ref mo, .int a, .int b])).length) Slot.unset).toArray = ls at hl ⊢
  have hl : lv_has ls 4 [(0, .ref mo), (1, .int a), (2, .int b)] := hl
  refine lv_aload_n hx hb dX12_maker_0 rfl (lv_at hl 0 rfl) ?_
  refine lv_iload_n hx hb dX12_maker_1 rfl (lv_at hl 1 rfl) ?_
  refine lv_iload_n hx hb dX12_maker_2 rfl (lv_at hl 2 rfl) ?_
  have hPc := hP.sub (ws' := [(mo, .inr (15, [.int th, .ref (lm 0), .ref (lm 1), .ref (lm 2), .ref (lm 3), .ref (lm 4), .int 0, .int 0])), ((lm 0), .inr (2, [.int 0, .ref e0, .int 0])), ((lm 1), .inr (2, [.int 0, .ref e0, .int 0])), ((lm 2), .inr (2, [.int 0, .ref e0, .int 0])), ((lm 3), .inr (2, [.int 0, .ref e0, .int 0])), ((lm 4), .inr (2, [.int 0, .ref e0, .int 0]))]) [0, 1, 2, 3, 4, 5] rfl
  have hDc := hD.sub (ws' := [(mo, .inr (15, [.int th, .ref (lm 0), .ref (lm 1), .ref (lm 2), .ref (lm 3), .ref (lm 4), .int 0, .int 0])), ((lm 0), .inr (2, [.int 0, .ref e0, .int 0])), ((lm 1), .inr (2, [.int 0, .ref e0, .int 0])), ((lm 2), .inr (2, [.int 0, .ref e0, .int 0])), ((lm 3), .inr (2, [.int 0, .ref e0, .int 0])), ((lm 4), .inr (2, [.int 0, .ref e0, .int 0]))]) [0, 1, 2, 3, 4, 5] (by decide) rfl
  have hKc := hK.sub (tys' := []) [] rfl
  have hFc := va_free (wc := [(mo, .inr (15, [.int th, .ref (lm 0), .ref (lm 1), .ref (lm 2), .ref (lm 3), .ref (lm 4), .int 0, .int 0])), ((lm 0), .inr (2, [.int 0, .ref e0, .int 0])), ((lm 1), .inr (2, [.int 0, .ref e0, .int 0])), ((lm 2), .inr (2, [.int 0, .ref e0, .int 0])), ((lm 3), .inr (2, [.int 0, .ref e0, .int 0])), ((lm 4), .inr (2, [.int 0, .ref e0, .int 0]))]) hD hS hA [0, 1, 2, 3, 4, 5] rfl
  refine va_calli (va_runV (As := [.int a, .int b]) (rest := []) ⟨hx, hb, hml, hown, hts⟩ (c_X12_isNoSpot l dC dI s.heap.size mo lm e0 th a b) (cwV 2 hts (goodIn_app (goodIn_of _ (by decide +kernel)) (goodIn_sub ((fun w h => List.mem_cons_of_mem _ (List.mem_append_right _ (h)))) zgX12_isNoSpot)) rfl rfl rfl (by decide +kernel) ⟨Nat.le_of_ble_eq_true rfl, Nat.le_of_ble_eq_true rfl⟩) ⟨gPcE_blind, va_recv hK hP (ci := 15) (q0 := 0) rfl rfl, gPcE_pass hPc hKc hDc hE hS hFc⟩ rfl rfl hl.1 rfl (lv_room (Nat.le_of_ble_eq_true rfl)) dX12_maker_3 ⟨Nat.le_of_ble_eq_true rfl, Nat.le_of_ble_eq_true rfl⟩) hS (fun q _ h => hFc q h) hFc (fun r_1 u_2 t H locs ht hvm hw hB hz hk hS => ?_)
  obtain ⟨hP1, hK1, hD1⟩ := hB
  rw [ht] at hP1
  obtain ⟨hP, hD⟩ := va_join (wr := []) (w1 := [(mo, .inr (15, [.int u_2, .ref (lm 0), .ref (lm 1), .ref (lm 2), .ref (lm 3), .ref (lm 4), .int 0, .int 0])), ((lm 0), .inr (2, [.int 0, .ref e0, .int 0])), ((lm 1), .inr (2, [.int 0, .ref e0, .int 0])), ((lm 2), .inr (2, [.int 0, .ref e0, .int 0])), ((lm 3), .inr (2, [.int 0, .ref e0, .int 0])), ((lm 4), .inr (2, [.int 0, .ref e0, .int 0]))]) hP hD [0, 1, 2, 3, 4, 5] [] rfl rfl (by decide) (by decide) hk hFc hP1 hD1
  have hP : va_P (dC, dI) vwCl [(mo, .inr (15, [.int u_2, .ref (lm 0), .ref (lm 1), .ref (lm 2), .ref (lm 3), .ref (lm 4), .int 0, .int 0])), ((lm 0), .inr (2, [.int 0, .ref e0, .int 0])), ((lm 1), .inr (2, [.int 0, .ref e0, .int 0])), ((lm 2), .inr (2, [.int 0, .ref e0, .int 0])), ((lm 3), .inr (2, [.int 0, .ref e0, .int 0])), ((lm 4), .inr (2, [.int 0, .ref e0, .int 0]))] H := hP
  have hD : va_D A [(mo, .inr (15, [.int u_2, .ref (lm 0), .ref (lm 1), .ref (lm 2), .ref (lm 3), .ref (lm 4), .int 0, .int 0])), ((lm 0), .inr (2, [.int 0, .ref e0, .int 0])), ((lm 1), .inr (2, [.int 0, .ref e0, .int 0])), ((lm 2), .inr (2, [.int 0, .ref e0, .int 0])), ((lm 3), .inr (2, [.int 0, .ref e0, .int 0])), ((lm 4), .inr (2, [.int 0, .ref e0, .int 0]))] := hD
  have hw : r_1 = 1 ∧ u_2 = 1 := hw
  obtain ⟨rfl, rfl⟩ : r_1 = 1 ∧ u_2 = 1 := hw
  refine lv_if_eq (tgt := 11) hx hb dX12_maker_6 (by decide) (fun c_3 => absurd c_3 (by decide)) (fun _ => ?_)
  refine lv_iconst (v := 0) hx hb dX12_maker_9 (by decide) ?_
  have hP9 := hP.sub (ws' := [(mo, .inr (15, [.int 1, .ref (lm 0), .ref (lm 1), .ref (lm 2), .ref (lm 3), .ref (lm 4), .int 0, .int 0])), ((lm 0), .inr (2, [.int 0, .ref e0, .int 0])), ((lm 1), .inr (2, [.int 0, .ref e0, .int 0])), ((lm 2), .inr (2, [.int 0, .ref e0, .int 0])), ((lm 3), .inr (2, [.int 0, .ref e0, .int 0])), ((lm 4), .inr (2, [.int 0, .ref e0, .int 0]))]) [0, 1, 2, 3, 4, 5] rfl
  have hD9 := hD.sub (ws' := [(mo, .inr (15, [.int 1, .ref (lm 0), .ref (lm 1), .ref (lm 2), .ref (lm 3), .ref (lm 4), .int 0, .int 0])), ((lm 0), .inr (2, [.int 0, .ref e0, .int 0])), ((lm 1), .inr (2, [.int 0, .ref e0, .int 0])), ((lm 2), .inr (2, [.int 0, .ref e0, .int 0])), ((lm 3), .inr (2, [.int 0, .ref e0, .int 0])), ((lm 4), .inr (2, [.int 0, .ref e0, .int 0]))]) [0, 1, 2, 3, 4, 5] (by decide) rfl
  have hK9 := hK.sub (tys' := []) [] rfl
  refine W.widen (k := 0) (n := 0) (Nat.le_of_ble_eq_true rfl) (Nat.le_of_ble_eq_true rfl) ?_
  exact W.iret (v := 0) hx hb hr (fun t ht hW => ⟨⟨0, 1, rfl, ⟨rfl, rfl⟩, by rw [ht]; exact hP9, va_K.moved hW.alike hK9, hD9⟩, hS.F ht⟩) hS.2.2 dX12_maker_10

def zwX12_beat : List Cond := .code yX12_beat cX12_beat 6 (some .int) :: (([.fieldLink RX12 19 "SpotbeatModel" "stations" "Ljava/util/List;", .methodLink RX12 42 ⟨"java/util/List", "isEmpty", "()Z"⟩, .selects RJx4a65c ⟨"java/util/List", "isEmpty", "()Z"⟩ yJx4a65c_isEmpty_aae02, .instanceMethod yJx4a65c_isEmpty_aae02, .initialized RJx4a65c, .methodLink RX12 50 yX12_isWrong, .instanceMethod yX12_isWrong, .selects RX12 yX12_isWrong yX12_isWrong, .initialized RX12] : List Cond) ++ (wsX120 ++ (zwJx4a65c_isEmpty_aae02 ++ (zwX12_isWrong_1))))
theorem zgX12_beat : zwX12_beat.all goodWord = true := zgo rfl (zga (by decide +kernel) (zga zgcX12 (zga zgJx4a65c_isEmpty_aae02 (zgX12_isWrong_1))))
set_option maxHeartbeats 4000000 in
set_option maxRecDepth 100000 in
theorem c_X12_beat (l : Launch) (dC : Nat → ClassId) (dI : Nat → Nat → Nat) (sz : Nat) (mo : Nat) (lm : Nat → Nat) (e0 : Nat) (th : Int32) : Met l yX12_beat zwX12_beat ({ frames := 1, cells := 0, slots := 0, locals := 21 }) (gPcE dC dI sz [(mo, .inr (15, [.int th, .ref (lm 0), .ref (lm 1), .ref (lm 2), .ref (lm 3), .ref (lm 4), .int 0, .int 0])), ((lm 0), .inr (2, [.int 0, .ref e0, .int 0])), ((lm 1), .inr (2, [.int 0, .ref e0, .int 0])), ((lm 2), .inr (2, [.int 0, .ref e0, .int 0])), ((lm 3), .inr (2, [.int 0, .ref e0, .int 0])), ((lm 4), .inr (2, [.int 0, .ref e0, .int 0]))] [] [.ref mo]) (va_Qi (fun (r : Int32) (u : Int32) => r = 0 ∧ u = 1) (fun u t => va_P (dC, dI) vwCl [(mo, .inr (15, [.int u, .ref (lm 0), .ref (lm 1), .ref (lm 2), .ref (lm 3), .ref (lm 4), .int 0, .int 0])), ((lm 0), .inr (2, [.int 0, .ref e0, .int 0])), ((lm 1), .inr (2, [.int 0, .ref e0, .int 0])), ((lm 2), .inr (2, [.int 0, .ref e0, .int 0])), ((lm 3), .inr (2, [.int 0, .ref e0, .int 0])), ((lm 4), .inr (2, [.int 0, .ref e0, .int 0]))] t.heap ∧ va_K (dC, dI) vwCl [] t ∧ va_D (va_A [(mo, .inr (15, [.int th, .ref (lm 0), .ref (lm 1), .ref (lm 2), .ref (lm 3), .ref (lm 4), .int 0, .int 0])), ((lm 0), .inr (2, [.int 0, .ref e0, .int 0])), ((lm 1), .inr (2, [.int 0, .ref e0, .int 0])), ((lm 2), .inr (2, [.int 0, .ref e0, .int 0])), ((lm 3), .inr (2, [.int 0, .ref e0, .int 0])), ((lm 4), .inr (2, [.int 0, .ref e0, .int 0]))] sz) [(mo, .inr (15, [.int u, .ref (lm 0), .ref (lm 1), .ref (lm 2), .ref (lm 3), .ref (lm 4), .int 0, .int 0])), ((lm 0), .inr (2, [.int 0, .ref e0, .int 0])), ((lm 1), .inr (2, [.int 0, .ref e0, .int 0])), ((lm 2), .inr (2, [.int 0, .ref e0, .int 0])), ((lm 3), .inr (2, [.int 0, .ref e0, .int 0])), ((lm 4), .inr (2, [.int 0, .ref e0, .int 0]))]) (va_A [(mo, .inr (15, [.int th, .ref (lm 0), .ref (lm 1), .ref (lm 2), .ref (lm 3), .ref (lm 4), .int 0, .int 0])), ((lm 0), .inr (2, [.int 0, .ref e0, .int 0])), ((lm 1), .inr (2, [.int 0, .ref e0, .int 0])), ((lm 2), .inr (2, [.int 0, .ref e0, .int 0])), ((lm 3), .inr (2, [.int 0, .ref e0, .int 0])), ((lm 4), .inr (2, [.int 0, .ref e0, .int 0]))] sz)) 0 0 (va_A [(mo, .inr (15, [.int th, .ref (lm 0), .ref (lm 1), .ref (lm 2), .ref (lm 3), .ref (lm 4), .int 0, .int 0])), ((lm 0), .inr (2, [.int 0, .ref e0, .int 0])), ((lm 1), .inr (2, [.int 0, .ref e0, .int 0])), ((lm 2), .inr (2, [.int 0, .ref e0, .int 0])), ((lm 3), .inr (2, [.int 0, .ref e0, .int 0])), ((lm 4), .inr (2, [.int 0, .ref e0, .int 0]))] sz) := by
  refine Met.ofW (cc := cX12_beat) (maxL := 6) (ret := (some .int)) (by decide) rfl ?_
  intro p e s m args below meth c s₁ B hml hv
  obtain ⟨rfl, hsz, hP, hK, hD0, hE⟩ := hv
  have hx := B.exec
  have hb := B.bytes
  have hr := B.returns
  have hts := atoms_spec (ws := zwX12_beat) B.pre
  have hown : s.vm.findClass RX12 = some m.cls := findClass_of_methodNamed B.named
  have hlocks := B.notSynchronized
  subst hsz
  have hD := hD0.self (sz := s.heap.size)
  generalize hAe : va_A [(mo, .inr (15, [.int th, .ref (lm 0), .ref (lm 1), .ref (lm 2), .ref (lm 3), .ref (lm 4), .int 0, .int 0])), ((lm 0), .inr (2, [.int 0, .ref e0, .int 0])), ((lm 1), .inr (2, [.int 0, .ref e0, .int 0])), ((lm 2), .inr (2, [.int 0, .ref e0, .int 0])), ((lm 3), .inr (2, [.int 0, .ref e0, .int 0])), ((lm 4), .inr (2, [.int 0, .ref e0, .int 0]))] s.heap.size = A at hD hE ⊢
  have hA : ∀ q : Nat, s.heap.size ≤ q → A q := fun q h => by rw [← hAe]; exact Or.inr h
  have hS : va_S A s.heap s.heap [] := va_S.rf
  have hP : va_P (dC, dI) vwCl [(mo, .inr (15, [.int th, .ref (lm 0), .ref (lm 1), .ref (lm 2), .ref (lm 3), .ref (lm 4), .int 0, .int 0])), ((lm 0), .inr (2, [.int 0, .ref e0, .int 0])), ((lm 1), .inr (2, [.int 0, .ref e0, .int 0])), ((lm 2), .inr (2, [.int 0, .ref e0, .int 0])), ((lm 3), .inr (2, [.int 0, .ref e0, .int 0])), ((lm 4), .inr (2, [.int 0, .ref e0, .int 0]))] s.heap := hP
  have hl := lv_entry ([.ref mo]) (n := 6) (Nat.le_of_ble_eq_true rfl)
  rw [lg_entry_eq]
  generalize (lg_sl ([.ref mo]) ++ List.replicate (6 - (lg_sl ([.ref mo])).length) Slot.unset).toArray = ls at hl ⊢
  have hl : lv_has ls 6 [(0, .ref mo)] := hl
  refine lv_aload_n hx hb dX12_beat_0 rfl (lv_at hl 0 rfl) ?_
  refine lv_aload_n hx hb dX12_beat_1 rfl (lv_at hl 0 rfl) ?_
  refine va_get (D := (dC, dI)) (ci := 15) (v := .ref (lm 2)) (C := RX12) (T := TX12) (N := 8) hx hb hts (fun w h => List.mem_cons_of_mem _ (List.mem_append_right _ (List.mem_append_left _ h))) hown hK hP 0 rfl rfl 3 (by decide) (hts (.fieldLink RX12 19 "SpotbeatModel" "stations" "Ljava/util/List;") (by decide +kernel)) (fun _ h9 => h9) rfl dX12_beat_2 ?_
  have hPc := hP.sub (ws' := [((lm 2), .inr (2, [.int 0, .ref e0, .int 0]))]) [3] rfl
  have hDc := hD.sub (ws' := [((lm 2), .inr (2, [.int 0, .ref e0, .int 0]))]) [3] (by decide) rfl
  have hKc := hK.sub (tys' := []) [] rfl
  have hFc := va_free (wc := [((lm 2), .inr (2, [.int 0, .ref e0, .int 0]))]) hD hS hA [3] rfl
  refine va_callFi (va_runF (As := []) (rest := [.ref mo]) ((hK.1 2 _ rfl).2) ⟨hx, hb, hml, hown, hts⟩ (c_Jx4a65c_isEmpty_aae02 l dC dI s.heap.size e0 (lm 2)) (va_cwF 0 hts (goodIn_app (goodIn_of _ (by decide +kernel)) (goodIn_sub ((fun w h => List.mem_cons_of_mem _ (List.mem_append_right _ (List.mem_append_right _ (List.mem_append_left _ h))))) zgJx4a65c_isEmpty_aae02)) rfl rfl rfl hE.2.2.2.2.2.2.2.1 (by decide +kernel) ⟨Nat.le_of_ble_eq_true rfl, Nat.le_of_ble_eq_true rfl⟩) ⟨gPc_blind, va_recv hK hP (ci := 2) (q0 := 3) rfl rfl, gPc_pass hPc hKc hDc⟩ rfl rfl hl.1 rfl (lv_room (Nat.le_of_ble_eq_true rfl)) dX12_beat_5 ⟨Nat.le_of_ble_eq_true rfl, Nat.le_of_ble_eq_true rfl⟩) hS (fun q _ h => hFc q h) hFc (fun r_1 u_2 t H locs ht hvm hw hB hz hk hS => ?_)
  obtain ⟨hP1, hK1, hD1⟩ := hB
  rw [ht] at hP1
  obtain ⟨hP, hD⟩ := va_join (wr := [(mo, .inr (15, [.int th, .ref (lm 0), .ref (lm 1), .ref (lm 2), .ref (lm 3), .ref (lm 4), .int 0, .int 0])), ((lm 0), .inr (2, [.int 0, .ref e0, .int 0])), ((lm 1), .inr (2, [.int 0, .ref e0, .int 0])), ((lm 3), .inr (2, [.int 0, .ref e0, .int 0])), ((lm 4), .inr (2, [.int 0, .ref e0, .int 0]))]) (w1 := [((lm 2), .inr (2, [.int 0, .ref e0, .int 0]))]) hP hD [3] [0, 1, 2, 4, 5] rfl rfl (by decide) (by decide) hk hFc hP1 hD1
  have hP : va_P (dC, dI) vwCl [(mo, .inr (15, [.int th, .ref (lm 0), .ref (lm 1), .ref (lm 2), .ref (lm 3), .ref (lm 4), .int 0, .int 0])), ((lm 0), .inr (2, [.int 0, .ref e0, .int 0])), ((lm 1), .inr (2, [.int 0, .ref e0, .int 0])), ((lm 3), .inr (2, [.int 0, .ref e0, .int 0])), ((lm 4), .inr (2, [.int 0, .ref e0, .int 0])), ((lm 2), .inr (2, [.int 0, .ref e0, .int 0]))] H := hP
  have hD : va_D A [(mo, .inr (15, [.int th, .ref (lm 0), .ref (lm 1), .ref (lm 2), .ref (lm 3), .ref (lm 4), .int 0, .int 0])), ((lm 0), .inr (2, [.int 0, .ref e0, .int 0])), ((lm 1), .inr (2, [.int 0, .ref e0, .int 0])), ((lm 3), .inr (2, [.int 0, .ref e0, .int 0])), ((lm 4), .inr (2, [.int 0, .ref e0, .int 0])), ((lm 2), .inr (2, [.int 0, .ref e0, .int 0]))] := hD
  have hw : r_1 = 1 := hw
  subst hw
  refine lv_if_eq (tgt := 17) hx hb dX12_beat_10 (by decide) (fun c_3 => absurd c_3 (by decide)) (fun _ => ?_)
  refine lv_iconst (v := 1) hx hb dX12_beat_13 (by decide) ?_
  refine lv_goto (tgt := 18) hx hb dX12_beat_14 (by decide) ?_
  have hPc := hP.sub (ws' := [(mo, .inr (15, [.int th, .ref (lm 0), .ref (lm 1), .ref (lm 2), .ref (lm 3), .ref (lm 4), .int 0, .int 0])), ((lm 0), .inr (2, [.int 0, .ref e0, .int 0])), ((lm 1), .inr (2, [.int 0, .ref e0, .int 0])), ((lm 2), .inr (2, [.int 0, .ref e0, .int 0])), ((lm 3), .inr (2, [.int 0, .ref e0, .int 0])), ((lm 4), .inr (2, [.int 0, .ref e0, .int 0]))]) [0, 1, 2, 5, 3, 4] rfl
  have hDc := hD.sub (ws' := [(mo, .inr (15, [.int th, .ref (lm 0), .ref (lm 1), .ref (lm 2), .ref (lm 3), .ref (lm 4), .int 0, .int 0])), ((lm 0), .inr (2, [.int 0, .ref e0, .int 0])), ((lm 1), .inr (2, [.int 0, .ref e0, .int 0])), ((lm 2), .inr (2, [.int 0, .ref e0, .int 0])), ((lm 3), .inr (2, [.int 0, .ref e0, .int 0])), ((lm 4), .inr (2, [.int 0, .ref e0, .int 0]))]) [0, 1, 2, 5, 3, 4] (by decide) rfl
  have hKc := hK.sub (tys' := []) [] rfl
  have hFc := va_free (wc := [(mo, .inr (15, [.int th, .ref (lm 0), .ref (lm 1), .ref (lm 2), .ref (lm 3), .ref (lm 4), .int 0, .int 0])), ((lm 0), .inr (2, [.int 0, .ref e0, .int 0])), ((lm 1), .inr (2, [.int 0, .ref e0, .int 0])), ((lm 2), .inr (2, [.int 0, .ref e0, .int 0])), ((lm 3), .inr (2, [.int 0, .ref e0, .int 0])), ((lm 4), .inr (2, [.int 0, .ref e0, .int 0]))]) hD hS hA [0, 1, 2, 5, 3, 4] rfl
  refine va_calli (va_runV (As := [.int 1]) (rest := []) ⟨hx, hb, hml, hown, hts⟩ (c_X12_isWrong_1 l dC dI H.size mo lm e0 th) (cwV 1 hts (goodIn_app (goodIn_of _ (by decide +kernel)) (goodIn_sub ((fun w h => List.mem_cons_of_mem _ (List.mem_append_right _ (List.mem_append_right _ (List.mem_append_right _ (h)))))) zgX12_isWrong_1)) rfl rfl rfl (by decide +kernel) ⟨Nat.le_of_ble_eq_true rfl, Nat.le_of_ble_eq_true rfl⟩) ⟨gPcE_blind, va_recv hK hP (ci := 15) (q0 := 0) rfl rfl, gPcE_pass hPc hKc hDc hE hS hFc⟩ rfl rfl hl.1 rfl (lv_room (Nat.le_of_ble_eq_true rfl)) dX12_beat_18 ⟨Nat.le_of_ble_eq_true rfl, Nat.le_of_ble_eq_true rfl⟩) hS (fun q _ h => hFc q h) hFc (fun r_4 u_5 t H locs ht hvm hw hB hz hk hS => ?_)
  obtain ⟨hP1, hK1, hD1⟩ := hB
  rw [ht] at hP1
  obtain ⟨hP, hD⟩ := va_join (wr := []) (w1 := [(mo, .inr (15, [.int u_5, .ref (lm 0), .ref (lm 1), .ref (lm 2), .ref (lm 3), .ref (lm 4), .int 0, .int 0])), ((lm 0), .inr (2, [.int 0, .ref e0, .int 0])), ((lm 1), .inr (2, [.int 0, .ref e0, .int 0])), ((lm 2), .inr (2, [.int 0, .ref e0, .int 0])), ((lm 3), .inr (2, [.int 0, .ref e0, .int 0])), ((lm 4), .inr (2, [.int 0, .ref e0, .int 0]))]) hP hD [0, 1, 2, 5, 3, 4] [] rfl rfl (by decide) (by decide) hk hFc hP1 hD1
  have hP : va_P (dC, dI) vwCl [(mo, .inr (15, [.int u_5, .ref (lm 0), .ref (lm 1), .ref (lm 2), .ref (lm 3), .ref (lm 4), .int 0, .int 0])), ((lm 0), .inr (2, [.int 0, .ref e0, .int 0])), ((lm 1), .inr (2, [.int 0, .ref e0, .int 0])), ((lm 2), .inr (2, [.int 0, .ref e0, .int 0])), ((lm 3), .inr (2, [.int 0, .ref e0, .int 0])), ((lm 4), .inr (2, [.int 0, .ref e0, .int 0]))] H := hP
  have hD : va_D A [(mo, .inr (15, [.int u_5, .ref (lm 0), .ref (lm 1), .ref (lm 2), .ref (lm 3), .ref (lm 4), .int 0, .int 0])), ((lm 0), .inr (2, [.int 0, .ref e0, .int 0])), ((lm 1), .inr (2, [.int 0, .ref e0, .int 0])), ((lm 2), .inr (2, [.int 0, .ref e0, .int 0])), ((lm 3), .inr (2, [.int 0, .ref e0, .int 0])), ((lm 4), .inr (2, [.int 0, .ref e0, .int 0]))] := hD
  have hw : r_4 = 1 ∧ u_5 = 1 := hw
  obtain ⟨rfl, rfl⟩ : r_4 = 1 ∧ u_5 = 1 := hw
  refine lv_if_eq (tgt := 26) hx hb dX12_beat_21 (by decide) (fun c_6 => absurd c_6 (by decide)) (fun _ => ?_)
  refine lv_iconst (v := 0) hx hb dX12_beat_24 (by decide) ?_
  have hP9 := hP.sub (ws' := [(mo, .inr (15, [.int 1, .ref (lm 0), .ref (lm 1), .ref (lm 2), .ref (lm 3), .ref (lm 4), .int 0, .int 0])), ((lm 0), .inr (2, [.int 0, .ref e0, .int 0])), ((lm 1), .inr (2, [.int 0, .ref e0, .int 0])), ((lm 2), .inr (2, [.int 0, .ref e0, .int 0])), ((lm 3), .inr (2, [.int 0, .ref e0, .int 0])), ((lm 4), .inr (2, [.int 0, .ref e0, .int 0]))]) [0, 1, 2, 3, 4, 5] rfl
  have hD9 := hD.sub (ws' := [(mo, .inr (15, [.int 1, .ref (lm 0), .ref (lm 1), .ref (lm 2), .ref (lm 3), .ref (lm 4), .int 0, .int 0])), ((lm 0), .inr (2, [.int 0, .ref e0, .int 0])), ((lm 1), .inr (2, [.int 0, .ref e0, .int 0])), ((lm 2), .inr (2, [.int 0, .ref e0, .int 0])), ((lm 3), .inr (2, [.int 0, .ref e0, .int 0])), ((lm 4), .inr (2, [.int 0, .ref e0, .int 0]))]) [0, 1, 2, 3, 4, 5] (by decide) rfl
  have hK9 := hK.sub (tys' := []) [] rfl
  refine W.widen (k := 0) (n := 0) (Nat.le_of_ble_eq_true rfl) (Nat.le_of_ble_eq_true rfl) ?_
  exact W.iret (v := 0) hx hb hr (fun t ht hW => ⟨⟨0, 1, rfl, ⟨rfl, rfl⟩, by rw [ht]; exact hP9, va_K.moved hW.alike hK9, hD9⟩, hS.F ht⟩) hS.2.2 dX12_beat_25

def zwX12_beats : List Cond := .code yX12_beats cX12_beats 1 (some .int) :: (([.fieldLink RX12 28 "SpotbeatModel" "thrown" "I", .fieldLink RX12 269 "SpotbeatModel" "beats" "I"] : List Cond) ++ (wsX120))
theorem zgX12_beats : zwX12_beats.all goodWord = true := zgo rfl (zga (by decide +kernel) (zgcX12))
set_option maxHeartbeats 4000000 in
set_option maxRecDepth 100000 in
theorem c_X12_beats (l : Launch) (dC : Nat → ClassId) (dI : Nat → Nat → Nat) (sz : Nat) (mo : Nat) (lm : Nat → Nat) (e0 : Nat) (th : Int32) : Met l yX12_beats zwX12_beats ({ frames := 0, cells := 0, slots := 0, locals := 0 }) (gPcE dC dI sz [(mo, .inr (15, [.int th, .ref (lm 0), .ref (lm 1), .ref (lm 2), .ref (lm 3), .ref (lm 4), .int 0, .int 0])), ((lm 0), .inr (2, [.int 0, .ref e0, .int 0])), ((lm 1), .inr (2, [.int 0, .ref e0, .int 0])), ((lm 2), .inr (2, [.int 0, .ref e0, .int 0])), ((lm 3), .inr (2, [.int 0, .ref e0, .int 0])), ((lm 4), .inr (2, [.int 0, .ref e0, .int 0]))] [] [.ref mo]) (va_Qi (fun (r : Int32) (u : Int32) => r = 0 ∧ u = 0) (fun u t => va_P (dC, dI) vwCl [(mo, .inr (15, [.int u, .ref (lm 0), .ref (lm 1), .ref (lm 2), .ref (lm 3), .ref (lm 4), .int 0, .int 0])), ((lm 0), .inr (2, [.int 0, .ref e0, .int 0])), ((lm 1), .inr (2, [.int 0, .ref e0, .int 0])), ((lm 2), .inr (2, [.int 0, .ref e0, .int 0])), ((lm 3), .inr (2, [.int 0, .ref e0, .int 0])), ((lm 4), .inr (2, [.int 0, .ref e0, .int 0]))] t.heap ∧ va_K (dC, dI) vwCl [] t ∧ va_D (va_A [(mo, .inr (15, [.int th, .ref (lm 0), .ref (lm 1), .ref (lm 2), .ref (lm 3), .ref (lm 4), .int 0, .int 0])), ((lm 0), .inr (2, [.int 0, .ref e0, .int 0])), ((lm 1), .inr (2, [.int 0, .ref e0, .int 0])), ((lm 2), .inr (2, [.int 0, .ref e0, .int 0])), ((lm 3), .inr (2, [.int 0, .ref e0, .int 0])), ((lm 4), .inr (2, [.int 0, .ref e0, .int 0]))] sz) [(mo, .inr (15, [.int u, .ref (lm 0), .ref (lm 1), .ref (lm 2), .ref (lm 3), .ref (lm 4), .int 0, .int 0])), ((lm 0), .inr (2, [.int 0, .ref e0, .int 0])), ((lm 1), .inr (2, [.int 0, .ref e0, .int 0])), ((lm 2), .inr (2, [.int 0, .ref e0, .int 0])), ((lm 3), .inr (2, [.int 0, .ref e0, .int 0])), ((lm 4), .inr (2, [.int 0, .ref e0, .int 0]))]) (va_A [(mo, .inr (15, [.int th, .ref (lm 0), .ref (lm 1), .ref (lm 2), .ref (lm 3), .ref (lm 4), .int 0, .int 0])), ((lm 0), .inr (2, [.int 0, .ref e0, .int 0])), ((lm 1), .inr (2, [.int 0, .ref e0, .int 0])), ((lm 2), .inr (2, [.int 0, .ref e0, .int 0])), ((lm 3), .inr (2, [.int 0, .ref e0, .int 0])), ((lm 4), .inr (2, [.int 0, .ref e0, .int 0]))] sz)) 0 0 (va_A [(mo, .inr (15, [.int th, .ref (lm 0), .ref (lm 1), .ref (lm 2), .ref (lm 3), .ref (lm 4), .int 0, .int 0])), ((lm 0), .inr (2, [.int 0, .ref e0, .int 0])), ((lm 1), .inr (2, [.int 0, .ref e0, .int 0])), ((lm 2), .inr (2, [.int 0, .ref e0, .int 0])), ((lm 3), .inr (2, [.int 0, .ref e0, .int 0])), ((lm 4), .inr (2, [.int 0, .ref e0, .int 0]))] sz) := by
  refine Met.ofW (cc := cX12_beats) (maxL := 1) (ret := (some .int)) (by decide) rfl ?_
  intro p e s m args below meth c s₁ B hml hv
  obtain ⟨rfl, hsz, hP, hK, hD0, hE⟩ := hv
  have hx := B.exec
  have hb := B.bytes
  have hr := B.returns
  have hts := atoms_spec (ws := zwX12_beats) B.pre
  have hown : s.vm.findClass RX12 = some m.cls := findClass_of_methodNamed B.named
  have hlocks := B.notSynchronized
  subst hsz
  have hD := hD0.self (sz := s.heap.size)
  generalize hAe : va_A [(mo, .inr (15, [.int th, .ref (lm 0), .ref (lm 1), .ref (lm 2), .ref (lm 3), .ref (lm 4), .int 0, .int 0])), ((lm 0), .inr (2, [.int 0, .ref e0, .int 0])), ((lm 1), .inr (2, [.int 0, .ref e0, .int 0])), ((lm 2), .inr (2, [.int 0, .ref e0, .int 0])), ((lm 3), .inr (2, [.int 0, .ref e0, .int 0])), ((lm 4), .inr (2, [.int 0, .ref e0, .int 0]))] s.heap.size = A at hD hE ⊢
  have hA : ∀ q : Nat, s.heap.size ≤ q → A q := fun q h => by rw [← hAe]; exact Or.inr h
  have hS : va_S A s.heap s.heap [] := va_S.rf
  have hP : va_P (dC, dI) vwCl [(mo, .inr (15, [.int th, .ref (lm 0), .ref (lm 1), .ref (lm 2), .ref (lm 3), .ref (lm 4), .int 0, .int 0])), ((lm 0), .inr (2, [.int 0, .ref e0, .int 0])), ((lm 1), .inr (2, [.int 0, .ref e0, .int 0])), ((lm 2), .inr (2, [.int 0, .ref e0, .int 0])), ((lm 3), .inr (2, [.int 0, .ref e0, .int 0])), ((lm 4), .inr (2, [.int 0, .ref e0, .int 0]))] s.heap := hP
  have hl := lv_entry ([.ref mo]) (n := 1) (Nat.le_of_ble_eq_true rfl)
  rw [lg_entry_eq]
  generalize (lg_sl ([.ref mo]) ++ List.replicate (1 - (lg_sl ([.ref mo])).length) Slot.unset).toArray = ls at hl ⊢
  have hl : lv_has ls 1 [(0, .ref mo)] := hl
  refine lv_aload_n hx hb dX12_beats_0 rfl (lv_at hl 0 rfl) ?_
  refine lv_iconst (v := 0) hx hb dX12_beats_1 (by decide) ?_
  refine va_put (D := (dC, dI)) (ci := 15) (v := .int 0) (ty := .int) (C := RX12) (T := TX12) (N := 8) hx hb hts (fun w h => List.mem_cons_of_mem _ (List.mem_append_right _ (h))) tyX12 tyX12_ok nmX12 hown hK hP hD hS 0 rfl rfl 0 (by decide) (hts (.fieldLink RX12 28 "SpotbeatModel" "thrown" "I") (by decide +kernel)) (fun _ h9 => h9) rfl (by decide +kernel) rfl rfl (Nat.le_of_ble_eq_true rfl) dX12_beats_2 (fun H locs hP hD hS => ?_)
  have hP : va_P (dC, dI) vwCl [(mo, .inr (15, [.int 0, .ref (lm 0), .ref (lm 1), .ref (lm 2), .ref (lm 3), .ref (lm 4), .int 0, .int 0])), ((lm 0), .inr (2, [.int 0, .ref e0, .int 0])), ((lm 1), .inr (2, [.int 0, .ref e0, .int 0])), ((lm 2), .inr (2, [.int 0, .ref e0, .int 0])), ((lm 3), .inr (2, [.int 0, .ref e0, .int 0])), ((lm 4), .inr (2, [.int 0, .ref e0, .int 0]))] H := hP
  have hD : va_D A [(mo, .inr (15, [.int 0, .ref (lm 0), .ref (lm 1), .ref (lm 2), .ref (lm 3), .ref (lm 4), .int 0, .int 0])), ((lm 0), .inr (2, [.int 0, .ref e0, .int 0])), ((lm 1), .inr (2, [.int 0, .ref e0, .int 0])), ((lm 2), .inr (2, [.int 0, .ref e0, .int 0])), ((lm 3), .inr (2, [.int 0, .ref e0, .int 0])), ((lm 4), .inr (2, [.int 0, .ref e0, .int 0]))] := hD
  refine lv_aload_n hx hb dX12_beats_5 rfl (lv_at hl 0 rfl) ?_
  refine va_get (D := (dC, dI)) (ci := 15) (v := .int 0) (C := RX12) (T := TX12) (N := 8) hx hb hts (fun w h => List.mem_cons_of_mem _ (List.mem_append_right _ (h))) hown hK hP 0 rfl rfl 7 (by decide) (hts (.fieldLink RX12 269 "SpotbeatModel" "beats" "I") (by decide +kernel)) (fun _ h9 => h9) rfl dX12_beats_6 ?_
  have hP9 := hP.sub (ws' := [(mo, .inr (15, [.int 0, .ref (lm 0), .ref (lm 1), .ref (lm 2), .ref (lm 3), .ref (lm 4), .int 0, .int 0])), ((lm 0), .inr (2, [.int 0, .ref e0, .int 0])), ((lm 1), .inr (2, [.int 0, .ref e0, .int 0])), ((lm 2), .inr (2, [.int 0, .ref e0, .int 0])), ((lm 3), .inr (2, [.int 0, .ref e0, .int 0])), ((lm 4), .inr (2, [.int 0, .ref e0, .int 0]))]) [0, 1, 2, 3, 4, 5] rfl
  have hD9 := hD.sub (ws' := [(mo, .inr (15, [.int 0, .ref (lm 0), .ref (lm 1), .ref (lm 2), .ref (lm 3), .ref (lm 4), .int 0, .int 0])), ((lm 0), .inr (2, [.int 0, .ref e0, .int 0])), ((lm 1), .inr (2, [.int 0, .ref e0, .int 0])), ((lm 2), .inr (2, [.int 0, .ref e0, .int 0])), ((lm 3), .inr (2, [.int 0, .ref e0, .int 0])), ((lm 4), .inr (2, [.int 0, .ref e0, .int 0]))]) [0, 1, 2, 3, 4, 5] (by decide) rfl
  have hK9 := hK.sub (tys' := []) [] rfl
  refine W.widen (k := 0) (n := 0) (Nat.le_of_ble_eq_true rfl) (Nat.le_of_ble_eq_true rfl) ?_
  exact W.iret (v := 0) hx hb hr (fun t ht hW => ⟨⟨0, 0, rfl, ⟨rfl, rfl⟩, by rw [ht]; exact hP9, va_K.moved hW.alike hK9, hD9⟩, hS.F ht⟩) hS.2.2 dX12_beats_9

def zwX12_waiting : List Cond := .code yX12_waiting cX12_waiting 1 (some .int) :: (([.fieldLink RX12 28 "SpotbeatModel" "thrown" "I", .fieldLink RX12 25 "SpotbeatModel" "bodies" "Ljava/util/List;", .methodLink RX12 32 ⟨"java/util/List", "size", "()I"⟩, .selects RJx4a65c ⟨"java/util/List", "size", "()I"⟩ yJx4a65c_size_8abf5, .instanceMethod yJx4a65c_size_8abf5, .initialized RJx4a65c, .fieldLink RX12 263 "SpotbeatModel" "waits" "I"] : List Cond) ++ (wsX120 ++ (zwJx4a65c_size_8abf5)))
theorem zgX12_waiting : zwX12_waiting.all goodWord = true := zgo rfl (zga (by decide +kernel) (zga zgcX12 (zgJx4a65c_size_8abf5)))
set_option maxHeartbeats 4000000 in
set_option maxRecDepth 100000 in
theorem c_X12_waiting (l : Launch) (dC : Nat → ClassId) (dI : Nat → Nat → Nat) (sz : Nat) (mo : Nat) (lm : Nat → Nat) (e0 : Nat) (th : Int32) : Met l yX12_waiting zwX12_waiting ({ frames := 1, cells := 0, slots := 0, locals := 20 }) (gPcE dC dI sz [(mo, .inr (15, [.int th, .ref (lm 0), .ref (lm 1), .ref (lm 2), .ref (lm 3), .ref (lm 4), .int 0, .int 0])), ((lm 0), .inr (2, [.int 0, .ref e0, .int 0])), ((lm 1), .inr (2, [.int 0, .ref e0, .int 0])), ((lm 2), .inr (2, [.int 0, .ref e0, .int 0])), ((lm 3), .inr (2, [.int 0, .ref e0, .int 0])), ((lm 4), .inr (2, [.int 0, .ref e0, .int 0]))] [] [.ref mo]) (va_Qi (fun (r : Int32) (u : Int32) => r = 0 ∧ u = 0) (fun u t => va_P (dC, dI) vwCl [(mo, .inr (15, [.int u, .ref (lm 0), .ref (lm 1), .ref (lm 2), .ref (lm 3), .ref (lm 4), .int 0, .int 0])), ((lm 0), .inr (2, [.int 0, .ref e0, .int 0])), ((lm 1), .inr (2, [.int 0, .ref e0, .int 0])), ((lm 2), .inr (2, [.int 0, .ref e0, .int 0])), ((lm 3), .inr (2, [.int 0, .ref e0, .int 0])), ((lm 4), .inr (2, [.int 0, .ref e0, .int 0]))] t.heap ∧ va_K (dC, dI) vwCl [] t ∧ va_D (va_A [(mo, .inr (15, [.int th, .ref (lm 0), .ref (lm 1), .ref (lm 2), .ref (lm 3), .ref (lm 4), .int 0, .int 0])), ((lm 0), .inr (2, [.int 0, .ref e0, .int 0])), ((lm 1), .inr (2, [.int 0, .ref e0, .int 0])), ((lm 2), .inr (2, [.int 0, .ref e0, .int 0])), ((lm 3), .inr (2, [.int 0, .ref e0, .int 0])), ((lm 4), .inr (2, [.int 0, .ref e0, .int 0]))] sz) [(mo, .inr (15, [.int u, .ref (lm 0), .ref (lm 1), .ref (lm 2), .ref (lm 3), .ref (lm 4), .int 0, .int 0])), ((lm 0), .inr (2, [.int 0, .ref e0, .int 0])), ((lm 1), .inr (2, [.int 0, .ref e0, .int 0])), ((lm 2), .inr (2, [.int 0, .ref e0, .int 0])), ((lm 3), .inr (2, [.int 0, .ref e0, .int 0])), ((lm 4), .inr (2, [.int 0, .ref e0, .int 0]))]) (va_A [(mo, .inr (15, [.int th, .ref (lm 0), .ref (lm 1), .ref (lm 2), .ref (lm 3), .ref (lm 4), .int 0, .int 0])), ((lm 0), .inr (2, [.int 0, .ref e0, .int 0])), ((lm 1), .inr (2, [.int 0, .ref e0, .int 0])), ((lm 2), .inr (2, [.int 0, .ref e0, .int 0])), ((lm 3), .inr (2, [.int 0, .ref e0, .int 0])), ((lm 4), .inr (2, [.int 0, .ref e0, .int 0]))] sz)) 0 0 (va_A [(mo, .inr (15, [.int th, .ref (lm 0), .ref (lm 1), .ref (lm 2), .ref (lm 3), .ref (lm 4), .int 0, .int 0])), ((lm 0), .inr (2, [.int 0, .ref e0, .int 0])), ((lm 1), .inr (2, [.int 0, .ref e0, .int 0])), ((lm 2), .inr (2, [.int 0, .ref e0, .int 0])), ((lm 3), .inr (2, [.int 0, .ref e0, .int 0])), ((lm 4), .inr (2, [.int 0, .ref e0, .int 0]))] sz) := by
  refine Met.ofW (cc := cX12_waiting) (maxL := 1) (ret := (some .int)) (by decide) rfl ?_
  intro p e s m args below meth c s₁ B hml hv
  obtain ⟨rfl, hsz, hP, hK, hD0, hE⟩ := hv
  have hx := B.exec
  have hb := B.bytes
  have hr := B.returns
  have hts := atoms_spec (ws := zwX12_waiting) B.pre
  have hown : s.vm.findClass RX12 = some m.cls := findClass_of_methodNamed B.named
  have hlocks := B.notSynchronized
  subst hsz
  have hD := hD0.self (sz := s.heap.size)
  generalize hAe : va_A [(mo, .inr (15, [.int th, .ref (lm 0), .ref (lm 1), .ref (lm 2), .ref (lm 3), .ref (lm 4), .int 0, .int 0])), ((lm 0), .inr (2, [.int 0, .ref e0, .int 0])), ((lm 1), .inr (2, [.int 0, .ref e0, .int 0])), ((lm 2), .inr (2, [.int 0, .ref e0, .int 0])), ((lm 3), .inr (2, [.int 0, .ref e0, .int 0])), ((lm 4), .inr (2, [.int 0, .ref e0, .int 0]))] s.heap.size = A at hD hE ⊢
  have hA : ∀ q : Nat, s.heap.size ≤ q → A q := fun q h => by rw [← hAe]; exact Or.inr h
  have hS : va_S A s.heap s.heap [] := va_S.rf
  have hP : va_P (dC, dI) vwCl [(mo, .inr (15, [.int th, .ref (lm 0), .ref (lm 1), .ref (lm 2), .ref (lm 3), .ref (lm 4), .int 0, .int 0])), ((lm 0), .inr (2, [.int 0, .ref e0, .int 0])), ((lm 1), .inr (2, [.int 0, .ref e0, .int 0])), ((lm 2), .inr (2, [.int 0, .ref e0, .int 0])), ((lm 3), .inr (2, [.int 0, .ref e0, .int 0])), ((lm 4), .inr (2, [.int 0, .ref e0, .int 0]))] s.heap := hP
  have hl := lv_entry ([.ref mo]) (n := 1) (Nat.le_of_ble_eq_true rfl)
  rw [lg_entry_eq]
  generalize (lg_sl ([.ref mo]) ++ List.replicate (1 - (lg_sl ([.ref mo])).length) Slot.unset).toArray = ls at hl ⊢
  have hl : lv_has ls 1 [(0, .ref mo)] := hl
  refine lv_aload_n hx hb dX12_waiting_0 rfl (lv_at hl 0 rfl) ?_
  refine lv_iconst (v := 0) hx hb dX12_waiting_1 (by decide) ?_
  refine va_put (D := (dC, dI)) (ci := 15) (v := .int 0) (ty := .int) (C := RX12) (T := TX12) (N := 8) hx hb hts (fun w h => List.mem_cons_of_mem _ (List.mem_append_right _ (List.mem_append_left _ h))) tyX12 tyX12_ok nmX12 hown hK hP hD hS 0 rfl rfl 0 (by decide) (hts (.fieldLink RX12 28 "SpotbeatModel" "thrown" "I") (by decide +kernel)) (fun _ h9 => h9) rfl (by decide +kernel) rfl rfl (Nat.le_of_ble_eq_true rfl) dX12_waiting_2 (fun H locs hP hD hS => ?_)
  have hP : va_P (dC, dI) vwCl [(mo, .inr (15, [.int 0, .ref (lm 0), .ref (lm 1), .ref (lm 2), .ref (lm 3), .ref (lm 4), .int 0, .int 0])), ((lm 0), .inr (2, [.int 0, .ref e0, .int 0])), ((lm 1), .inr (2, [.int 0, .ref e0, .int 0])), ((lm 2), .inr (2, [.int 0, .ref e0, .int 0])), ((lm 3), .inr (2, [.int 0, .ref e0, .int 0])), ((lm 4), .inr (2, [.int 0, .ref e0, .int 0]))] H := hP
  have hD : va_D A [(mo, .inr (15, [.int 0, .ref (lm 0), .ref (lm 1), .ref (lm 2), .ref (lm 3), .ref (lm 4), .int 0, .int 0])), ((lm 0), .inr (2, [.int 0, .ref e0, .int 0])), ((lm 1), .inr (2, [.int 0, .ref e0, .int 0])), ((lm 2), .inr (2, [.int 0, .ref e0, .int 0])), ((lm 3), .inr (2, [.int 0, .ref e0, .int 0])), ((lm 4), .inr (2, [.int 0, .ref e0, .int 0]))] := hD
  refine lv_aload_n hx hb dX12_waiting_5 rfl (lv_at hl 0 rfl) ?_
  refine va_get (D := (dC, dI)) (ci := 15) (v := .ref (lm 4)) (C := RX12) (T := TX12) (N := 8) hx hb hts (fun w h => List.mem_cons_of_mem _ (List.mem_append_right _ (List.mem_append_left _ h))) hown hK hP 0 rfl rfl 5 (by decide) (hts (.fieldLink RX12 25 "SpotbeatModel" "bodies" "Ljava/util/List;") (by decide +kernel)) (fun _ h9 => h9) rfl dX12_waiting_6 ?_
  have hPc := hP.sub (ws' := [((lm 4), .inr (2, [.int 0, .ref e0, .int 0]))]) [5] rfl
  have hDc := hD.sub (ws' := [((lm 4), .inr (2, [.int 0, .ref e0, .int 0]))]) [5] (by decide) rfl
  have hKc := hK.sub (tys' := []) [] rfl
  have hFc := va_free (wc := [((lm 4), .inr (2, [.int 0, .ref e0, .int 0]))]) hD hS hA [5] rfl
  refine va_callFi (va_runF (As := []) (rest := []) ((hK.1 2 _ rfl).2) ⟨hx, hb, hml, hown, hts⟩ (c_Jx4a65c_size_8abf5 l dC dI H.size e0 (lm 4)) (va_cwF 0 hts (goodIn_app (goodIn_of _ (by decide +kernel)) (goodIn_sub ((fun w h => List.mem_cons_of_mem _ (List.mem_append_right _ (List.mem_append_right _ (h))))) zgJx4a65c_size_8abf5)) rfl rfl rfl hE.2.2.2.2.2.2.1 (by decide +kernel) ⟨Nat.le_of_ble_eq_true rfl, Nat.le_of_ble_eq_true rfl⟩) ⟨gPc_blind, va_recv hK hP (ci := 2) (q0 := 5) rfl rfl, gPc_pass hPc hKc hDc⟩ rfl rfl hl.1 rfl (lv_room (Nat.le_of_ble_eq_true rfl)) dX12_waiting_9 ⟨Nat.le_of_ble_eq_true rfl, Nat.le_of_ble_eq_true rfl⟩) hS (fun q _ h => hFc q h) hFc (fun r_1 u_2 t H locs ht hvm hw hB hz hk hS => ?_)
  obtain ⟨hP1, hK1, hD1⟩ := hB
  rw [ht] at hP1
  obtain ⟨hP, hD⟩ := va_join (wr := [(mo, .inr (15, [.int 0, .ref (lm 0), .ref (lm 1), .ref (lm 2), .ref (lm 3), .ref (lm 4), .int 0, .int 0])), ((lm 0), .inr (2, [.int 0, .ref e0, .int 0])), ((lm 1), .inr (2, [.int 0, .ref e0, .int 0])), ((lm 2), .inr (2, [.int 0, .ref e0, .int 0])), ((lm 3), .inr (2, [.int 0, .ref e0, .int 0]))]) (w1 := [((lm 4), .inr (2, [.int 0, .ref e0, .int 0]))]) hP hD [5] [0, 1, 2, 3, 4] rfl rfl (by decide) (by decide) hk hFc hP1 hD1
  have hP : va_P (dC, dI) vwCl [(mo, .inr (15, [.int 0, .ref (lm 0), .ref (lm 1), .ref (lm 2), .ref (lm 3), .ref (lm 4), .int 0, .int 0])), ((lm 0), .inr (2, [.int 0, .ref e0, .int 0])), ((lm 1), .inr (2, [.int 0, .ref e0, .int 0])), ((lm 2), .inr (2, [.int 0, .ref e0, .int 0])), ((lm 3), .inr (2, [.int 0, .ref e0, .int 0])), ((lm 4), .inr (2, [.int 0, .ref e0, .int 0]))] H := hP
  have hD : va_D A [(mo, .inr (15, [.int 0, .ref (lm 0), .ref (lm 1), .ref (lm 2), .ref (lm 3), .ref (lm 4), .int 0, .int 0])), ((lm 0), .inr (2, [.int 0, .ref e0, .int 0])), ((lm 1), .inr (2, [.int 0, .ref e0, .int 0])), ((lm 2), .inr (2, [.int 0, .ref e0, .int 0])), ((lm 3), .inr (2, [.int 0, .ref e0, .int 0])), ((lm 4), .inr (2, [.int 0, .ref e0, .int 0]))] := hD
  have hw : r_1 = 0 := hw
  subst hw
  refine lv_aload_n hx hb dX12_waiting_14 rfl (lv_at hl 0 rfl) ?_
  refine va_get (D := (dC, dI)) (ci := 15) (v := .int 0) (C := RX12) (T := TX12) (N := 8) hx hb hts (fun w h => List.mem_cons_of_mem _ (List.mem_append_right _ (List.mem_append_left _ h))) hown hK hP 0 rfl rfl 6 (by decide) (hts (.fieldLink RX12 263 "SpotbeatModel" "waits" "I") (by decide +kernel)) (fun _ h9 => h9) rfl dX12_waiting_15 ?_
  refine lv_isub hx hb dX12_waiting_18 ?_
  refine lv_topi (fun y_3 ey_3 => ?_)
  obtain rfl : y_3 = 0 := ey_3.trans (by decide +kernel)
  have hP9 := hP.sub (ws' := [(mo, .inr (15, [.int 0, .ref (lm 0), .ref (lm 1), .ref (lm 2), .ref (lm 3), .ref (lm 4), .int 0, .int 0])), ((lm 0), .inr (2, [.int 0, .ref e0, .int 0])), ((lm 1), .inr (2, [.int 0, .ref e0, .int 0])), ((lm 2), .inr (2, [.int 0, .ref e0, .int 0])), ((lm 3), .inr (2, [.int 0, .ref e0, .int 0])), ((lm 4), .inr (2, [.int 0, .ref e0, .int 0]))]) [0, 1, 2, 3, 4, 5] rfl
  have hD9 := hD.sub (ws' := [(mo, .inr (15, [.int 0, .ref (lm 0), .ref (lm 1), .ref (lm 2), .ref (lm 3), .ref (lm 4), .int 0, .int 0])), ((lm 0), .inr (2, [.int 0, .ref e0, .int 0])), ((lm 1), .inr (2, [.int 0, .ref e0, .int 0])), ((lm 2), .inr (2, [.int 0, .ref e0, .int 0])), ((lm 3), .inr (2, [.int 0, .ref e0, .int 0])), ((lm 4), .inr (2, [.int 0, .ref e0, .int 0]))]) [0, 1, 2, 3, 4, 5] (by decide) rfl
  have hK9 := hK.sub (tys' := []) [] rfl
  refine W.widen (k := 0) (n := 0) (Nat.le_of_ble_eq_true rfl) (Nat.le_of_ble_eq_true rfl) ?_
  exact W.iret (v := 0) hx hb hr (fun t ht hW => ⟨⟨0, 0, rfl, ⟨rfl, rfl⟩, by rw [ht]; exact hP9, va_K.moved hW.alike hK9, hD9⟩, hS.F ht⟩) hS.2.2 dX12_waiting_19

def zwX12_whole : List Cond := .code yX12_whole cX12_whole 1 (some .int) :: (([.fieldLink RX12 28 "SpotbeatModel" "thrown" "I", .methodLink RX12 294 yX12_wholes, .instanceMethod yX12_wholes, .selects RX12 yX12_wholes yX12_wholes, .initialized RX12] : List Cond) ++ (wsX120 ++ (zwX12_wholes)))
theorem zgX12_whole : zwX12_whole.all goodWord = true := zgo rfl (zga (by decide +kernel) (zga zgcX12 (zgX12_wholes)))
set_option maxHeartbeats 4000000 in
set_option maxRecDepth 100000 in
theorem c_X12_whole (l : Launch) (dC : Nat → ClassId) (dI : Nat → Nat → Nat) (sz : Nat) (mo : Nat) (lm : Nat → Nat) (e0 : Nat) (th : Int32) : Met l yX12_whole zwX12_whole ({ frames := 4, cells := 1, slots := 4, locals := 76 }) (gPcE dC dI sz [(mo, .inr (15, [.int th, .ref (lm 0), .ref (lm 1), .ref (lm 2), .ref (lm 3), .ref (lm 4), .int 0, .int 0])), ((lm 0), .inr (2, [.int 0, .ref e0, .int 0])), ((lm 1), .inr (2, [.int 0, .ref e0, .int 0])), ((lm 2), .inr (2, [.int 0, .ref e0, .int 0])), ((lm 3), .inr (2, [.int 0, .ref e0, .int 0])), ((lm 4), .inr (2, [.int 0, .ref e0, .int 0]))] [] [.ref mo]) (va_Qi (fun (r : Int32) (u : Int32) => r = 0 ∧ u = 0) (fun u t => va_P (dC, dI) vwCl [(mo, .inr (15, [.int u, .ref (lm 0), .ref (lm 1), .ref (lm 2), .ref (lm 3), .ref (lm 4), .int 0, .int 0])), ((lm 0), .inr (2, [.int 0, .ref e0, .int 0])), ((lm 1), .inr (2, [.int 0, .ref e0, .int 0])), ((lm 2), .inr (2, [.int 0, .ref e0, .int 0])), ((lm 3), .inr (2, [.int 0, .ref e0, .int 0])), ((lm 4), .inr (2, [.int 0, .ref e0, .int 0]))] t.heap ∧ va_K (dC, dI) vwCl [] t ∧ va_D (va_A [(mo, .inr (15, [.int th, .ref (lm 0), .ref (lm 1), .ref (lm 2), .ref (lm 3), .ref (lm 4), .int 0, .int 0])), ((lm 0), .inr (2, [.int 0, .ref e0, .int 0])), ((lm 1), .inr (2, [.int 0, .ref e0, .int 0])), ((lm 2), .inr (2, [.int 0, .ref e0, .int 0])), ((lm 3), .inr (2, [.int 0, .ref e0, .int 0])), ((lm 4), .inr (2, [.int 0, .ref e0, .int 0]))] sz) [(mo, .inr (15, [.int u, .ref (lm 0), .ref (lm 1), .ref (lm 2), .ref (lm 3), .ref (lm 4), .int 0, .int 0])), ((lm 0), .inr (2, [.int 0, .ref e0, .int 0])), ((lm 1), .inr (2, [.int 0, .ref e0, .int 0])), ((lm 2), .inr (2, [.int 0, .ref e0, .int 0])), ((lm 3), .inr (2, [.int 0, .ref e0, .int 0])), ((lm 4), .inr (2, [.int 0, .ref e0, .int 0]))]) (va_A [(mo, .inr (15, [.int th, .ref (lm 0), .ref (lm 1), .ref (lm 2), .ref (lm 3), .ref (lm 4), .int 0, .int 0])), ((lm 0), .inr (2, [.int 0, .ref e0, .int 0])), ((lm 1), .inr (2, [.int 0, .ref e0, .int 0])), ((lm 2), .inr (2, [.int 0, .ref e0, .int 0])), ((lm 3), .inr (2, [.int 0, .ref e0, .int 0])), ((lm 4), .inr (2, [.int 0, .ref e0, .int 0]))] sz)) 1 4 (va_A [(mo, .inr (15, [.int th, .ref (lm 0), .ref (lm 1), .ref (lm 2), .ref (lm 3), .ref (lm 4), .int 0, .int 0])), ((lm 0), .inr (2, [.int 0, .ref e0, .int 0])), ((lm 1), .inr (2, [.int 0, .ref e0, .int 0])), ((lm 2), .inr (2, [.int 0, .ref e0, .int 0])), ((lm 3), .inr (2, [.int 0, .ref e0, .int 0])), ((lm 4), .inr (2, [.int 0, .ref e0, .int 0]))] sz) := by
  refine Met.ofW (cc := cX12_whole) (maxL := 1) (ret := (some .int)) (by decide) rfl ?_
  intro p e s m args below meth c s₁ B hml hv
  obtain ⟨rfl, hsz, hP, hK, hD0, hE⟩ := hv
  have hx := B.exec
  have hb := B.bytes
  have hr := B.returns
  have hts := atoms_spec (ws := zwX12_whole) B.pre
  have hown : s.vm.findClass RX12 = some m.cls := findClass_of_methodNamed B.named
  have hlocks := B.notSynchronized
  subst hsz
  have hD := hD0.self (sz := s.heap.size)
  generalize hAe : va_A [(mo, .inr (15, [.int th, .ref (lm 0), .ref (lm 1), .ref (lm 2), .ref (lm 3), .ref (lm 4), .int 0, .int 0])), ((lm 0), .inr (2, [.int 0, .ref e0, .int 0])), ((lm 1), .inr (2, [.int 0, .ref e0, .int 0])), ((lm 2), .inr (2, [.int 0, .ref e0, .int 0])), ((lm 3), .inr (2, [.int 0, .ref e0, .int 0])), ((lm 4), .inr (2, [.int 0, .ref e0, .int 0]))] s.heap.size = A at hD hE ⊢
  have hA : ∀ q : Nat, s.heap.size ≤ q → A q := fun q h => by rw [← hAe]; exact Or.inr h
  have hS : va_S A s.heap s.heap [] := va_S.rf
  have hP : va_P (dC, dI) vwCl [(mo, .inr (15, [.int th, .ref (lm 0), .ref (lm 1), .ref (lm 2), .ref (lm 3), .ref (lm 4), .int 0, .int 0])), ((lm 0), .inr (2, [.int 0, .ref e0, .int 0])), ((lm 1), .inr (2, [.int 0, .ref e0, .int 0])), ((lm 2), .inr (2, [.int 0, .ref e0, .int 0])), ((lm 3), .inr (2, [.int 0, .ref e0, .int 0])), ((lm 4), .inr (2, [.int 0, .ref e0, .int 0]))] s.heap := hP
  have hl := lv_entry ([.ref mo]) (n := 1) (Nat.le_of_ble_eq_true rfl)
  rw [lg_entry_eq]
  generalize (lg_sl ([.ref mo]) ++ List.replicate (1 - (lg_sl ([.ref mo])).length) Slot.unset).toArray = ls at hl ⊢
  have hl : lv_has ls 1 [(0, .ref mo)] := hl
  refine lv_aload_n hx hb dX12_whole_0 rfl (lv_at hl 0 rfl) ?_
  refine lv_iconst (v := 0) hx hb dX12_whole_1 (by decide) ?_
  refine va_put (D := (dC, dI)) (ci := 15) (v := .int 0) (ty := .int) (C := RX12) (T := TX12) (N := 8) hx hb hts (fun w h => List.mem_cons_of_mem _ (List.mem_append_right _ (List.mem_append_left _ h))) tyX12 tyX12_ok nmX12 hown hK hP hD hS 0 rfl rfl 0 (by decide) (hts (.fieldLink RX12 28 "SpotbeatModel" "thrown" "I") (by decide +kernel)) (fun _ h9 => h9) rfl (by decide +kernel) rfl rfl (Nat.le_of_ble_eq_true rfl) dX12_whole_2 (fun H locs hP hD hS => ?_)
  have hP : va_P (dC, dI) vwCl [(mo, .inr (15, [.int 0, .ref (lm 0), .ref (lm 1), .ref (lm 2), .ref (lm 3), .ref (lm 4), .int 0, .int 0])), ((lm 0), .inr (2, [.int 0, .ref e0, .int 0])), ((lm 1), .inr (2, [.int 0, .ref e0, .int 0])), ((lm 2), .inr (2, [.int 0, .ref e0, .int 0])), ((lm 3), .inr (2, [.int 0, .ref e0, .int 0])), ((lm 4), .inr (2, [.int 0, .ref e0, .int 0]))] H := hP
  have hD : va_D A [(mo, .inr (15, [.int 0, .ref (lm 0), .ref (lm 1), .ref (lm 2), .ref (lm 3), .ref (lm 4), .int 0, .int 0])), ((lm 0), .inr (2, [.int 0, .ref e0, .int 0])), ((lm 1), .inr (2, [.int 0, .ref e0, .int 0])), ((lm 2), .inr (2, [.int 0, .ref e0, .int 0])), ((lm 3), .inr (2, [.int 0, .ref e0, .int 0])), ((lm 4), .inr (2, [.int 0, .ref e0, .int 0]))] := hD
  refine lv_aload_n hx hb dX12_whole_5 rfl (lv_at hl 0 rfl) ?_
  have hPc := hP.sub (ws' := [(mo, .inr (15, [.int 0, .ref (lm 0), .ref (lm 1), .ref (lm 2), .ref (lm 3), .ref (lm 4), .int 0, .int 0])), ((lm 0), .inr (2, [.int 0, .ref e0, .int 0])), ((lm 1), .inr (2, [.int 0, .ref e0, .int 0])), ((lm 2), .inr (2, [.int 0, .ref e0, .int 0])), ((lm 3), .inr (2, [.int 0, .ref e0, .int 0])), ((lm 4), .inr (2, [.int 0, .ref e0, .int 0]))]) [0, 1, 2, 3, 4, 5] rfl
  have hDc := hD.sub (ws' := [(mo, .inr (15, [.int 0, .ref (lm 0), .ref (lm 1), .ref (lm 2), .ref (lm 3), .ref (lm 4), .int 0, .int 0])), ((lm 0), .inr (2, [.int 0, .ref e0, .int 0])), ((lm 1), .inr (2, [.int 0, .ref e0, .int 0])), ((lm 2), .inr (2, [.int 0, .ref e0, .int 0])), ((lm 3), .inr (2, [.int 0, .ref e0, .int 0])), ((lm 4), .inr (2, [.int 0, .ref e0, .int 0]))]) [0, 1, 2, 3, 4, 5] (by decide) rfl
  have hKc := hK.sub (tys' := []) [] rfl
  have hFc := va_free (wc := [(mo, .inr (15, [.int 0, .ref (lm 0), .ref (lm 1), .ref (lm 2), .ref (lm 3), .ref (lm 4), .int 0, .int 0])), ((lm 0), .inr (2, [.int 0, .ref e0, .int 0])), ((lm 1), .inr (2, [.int 0, .ref e0, .int 0])), ((lm 2), .inr (2, [.int 0, .ref e0, .int 0])), ((lm 3), .inr (2, [.int 0, .ref e0, .int 0])), ((lm 4), .inr (2, [.int 0, .ref e0, .int 0]))]) hD hS hA [0, 1, 2, 3, 4, 5] rfl
  refine va_calli (va_runV (As := []) (rest := []) ⟨hx, hb, hml, hown, hts⟩ (c_X12_wholes l dC dI H.size mo lm e0 0) (cwV 0 hts (goodIn_app (goodIn_of _ (by decide +kernel)) (goodIn_sub ((fun w h => List.mem_cons_of_mem _ (List.mem_append_right _ (List.mem_append_right _ (h))))) zgX12_wholes)) rfl rfl rfl (by decide +kernel) ⟨Nat.le_of_ble_eq_true rfl, Nat.le_of_ble_eq_true rfl⟩) ⟨gPcE_blind, va_recv hK hP (ci := 15) (q0 := 0) rfl rfl, gPcE_pass hPc hKc hDc hE hS hFc⟩ rfl rfl hl.1 rfl (lv_room (Nat.le_of_ble_eq_true rfl)) dX12_whole_6 ⟨Nat.le_of_ble_eq_true rfl, Nat.le_of_ble_eq_true rfl⟩) hS (fun q _ h => hFc q h) hFc (fun r_1 u_2 t H locs ht hvm hw hB hz hk hS => ?_)
  obtain ⟨hP1, hK1, hD1⟩ := hB
  rw [ht] at hP1
  obtain ⟨hP, hD⟩ := va_join (wr := []) (w1 := [(mo, .inr (15, [.int u_2, .ref (lm 0), .ref (lm 1), .ref (lm 2), .ref (lm 3), .ref (lm 4), .int 0, .int 0])), ((lm 0), .inr (2, [.int 0, .ref e0, .int 0])), ((lm 1), .inr (2, [.int 0, .ref e0, .int 0])), ((lm 2), .inr (2, [.int 0, .ref e0, .int 0])), ((lm 3), .inr (2, [.int 0, .ref e0, .int 0])), ((lm 4), .inr (2, [.int 0, .ref e0, .int 0]))]) hP hD [0, 1, 2, 3, 4, 5] [] rfl rfl (by decide) (by decide) hk hFc hP1 hD1
  have hP : va_P (dC, dI) vwCl [(mo, .inr (15, [.int u_2, .ref (lm 0), .ref (lm 1), .ref (lm 2), .ref (lm 3), .ref (lm 4), .int 0, .int 0])), ((lm 0), .inr (2, [.int 0, .ref e0, .int 0])), ((lm 1), .inr (2, [.int 0, .ref e0, .int 0])), ((lm 2), .inr (2, [.int 0, .ref e0, .int 0])), ((lm 3), .inr (2, [.int 0, .ref e0, .int 0])), ((lm 4), .inr (2, [.int 0, .ref e0, .int 0]))] H := hP
  have hD : va_D A [(mo, .inr (15, [.int u_2, .ref (lm 0), .ref (lm 1), .ref (lm 2), .ref (lm 3), .ref (lm 4), .int 0, .int 0])), ((lm 0), .inr (2, [.int 0, .ref e0, .int 0])), ((lm 1), .inr (2, [.int 0, .ref e0, .int 0])), ((lm 2), .inr (2, [.int 0, .ref e0, .int 0])), ((lm 3), .inr (2, [.int 0, .ref e0, .int 0])), ((lm 4), .inr (2, [.int 0, .ref e0, .int 0]))] := hD
  have hw : r_1 = 0 ∧ u_2 = 0 := hw
  obtain ⟨rfl, rfl⟩ : r_1 = 0 ∧ u_2 = 0 := hw
  have hP9 := hP.sub (ws' := [(mo, .inr (15, [.int 0, .ref (lm 0), .ref (lm 1), .ref (lm 2), .ref (lm 3), .ref (lm 4), .int 0, .int 0])), ((lm 0), .inr (2, [.int 0, .ref e0, .int 0])), ((lm 1), .inr (2, [.int 0, .ref e0, .int 0])), ((lm 2), .inr (2, [.int 0, .ref e0, .int 0])), ((lm 3), .inr (2, [.int 0, .ref e0, .int 0])), ((lm 4), .inr (2, [.int 0, .ref e0, .int 0]))]) [0, 1, 2, 3, 4, 5] rfl
  have hD9 := hD.sub (ws' := [(mo, .inr (15, [.int 0, .ref (lm 0), .ref (lm 1), .ref (lm 2), .ref (lm 3), .ref (lm 4), .int 0, .int 0])), ((lm 0), .inr (2, [.int 0, .ref e0, .int 0])), ((lm 1), .inr (2, [.int 0, .ref e0, .int 0])), ((lm 2), .inr (2, [.int 0, .ref e0, .int 0])), ((lm 3), .inr (2, [.int 0, .ref e0, .int 0])), ((lm 4), .inr (2, [.int 0, .ref e0, .int 0]))]) [0, 1, 2, 3, 4, 5] (by decide) rfl
  have hK9 := hK.sub (tys' := []) [] rfl
  refine W.widen (k := 1) (n := 4) (Nat.le_of_ble_eq_true rfl) (Nat.le_of_ble_eq_true rfl) ?_
  exact W.iret (v := 0) hx hb hr (fun t ht hW => ⟨⟨0, 0, rfl, ⟨rfl, rfl⟩, by rw [ht]; exact hP9, va_K.moved hW.alike hK9, hD9⟩, hS.F ht⟩) hS.2.2 dX12_whole_9

def zwX12_checksum : List Cond := .code yX12_checksum cX12_checksum 5 (some .long) :: (([.fieldLink RX12 28 "SpotbeatModel" "thrown" "I", .constantLong RX12 300 (7), .fieldLink RX12 25 "SpotbeatModel" "bodies" "Ljava/util/List;", .methodLink RX12 82 ⟨"java/util/List", "iterator", "()Ljava/util/Iterator;"⟩, .selects RJx4a65c ⟨"java/util/List", "iterator", "()Ljava/util/Iterator;"⟩ yJx4a65c_iterator_32c93, .instanceMethod yJx4a65c_iterator_32c93, .initialized RJx4a65c, .methodLink RX12 86 ⟨"java/util/Iterator", "hasNext", "()Z"⟩, .selects RJx35411 ⟨"java/util/Iterator", "hasNext", "()Z"⟩ yJx35411_hasNext_aae02, .instanceMethod yJx35411_hasNext_aae02, .initialized RJx35411] : List Cond) ++ (wsX120 ++ (zwJx4a65c_iterator_32c93 ++ (zwJx35411_hasNext_aae02))))
theorem zgX12_checksum : zwX12_checksum.all goodWord = true := zgo rfl (zga (by decide +kernel) (zga zgcX12 (zga zgJx4a65c_iterator_32c93 (zgJx35411_hasNext_aae02))))
set_option maxHeartbeats 4000000 in
set_option maxRecDepth 100000 in
theorem c_X12_checksum (l : Launch) (dC : Nat → ClassId) (dI : Nat → Nat → Nat) (sz : Nat) (mo : Nat) (lm : Nat → Nat) (e0 : Nat) (th : Int32) : Met l yX12_checksum zwX12_checksum ({ frames := 3, cells := 1, slots := 4, locals := 53 }) (gPcE dC dI sz [(mo, .inr (15, [.int th, .ref (lm 0), .ref (lm 1), .ref (lm 2), .ref (lm 3), .ref (lm 4), .int 0, .int 0])), ((lm 0), .inr (2, [.int 0, .ref e0, .int 0])), ((lm 1), .inr (2, [.int 0, .ref e0, .int 0])), ((lm 2), .inr (2, [.int 0, .ref e0, .int 0])), ((lm 3), .inr (2, [.int 0, .ref e0, .int 0])), ((lm 4), .inr (2, [.int 0, .ref e0, .int 0]))] [] [.ref mo]) (va_Ql (fun (r : Int64) (u : Int32) => r = 7 ∧ u = 0) (fun u t => va_P (dC, dI) vwCl [(mo, .inr (15, [.int u, .ref (lm 0), .ref (lm 1), .ref (lm 2), .ref (lm 3), .ref (lm 4), .int 0, .int 0])), ((lm 0), .inr (2, [.int 0, .ref e0, .int 0])), ((lm 1), .inr (2, [.int 0, .ref e0, .int 0])), ((lm 2), .inr (2, [.int 0, .ref e0, .int 0])), ((lm 3), .inr (2, [.int 0, .ref e0, .int 0])), ((lm 4), .inr (2, [.int 0, .ref e0, .int 0]))] t.heap ∧ va_K (dC, dI) vwCl [] t ∧ va_D (va_A [(mo, .inr (15, [.int th, .ref (lm 0), .ref (lm 1), .ref (lm 2), .ref (lm 3), .ref (lm 4), .int 0, .int 0])), ((lm 0), .inr (2, [.int 0, .ref e0, .int 0])), ((lm 1), .inr (2, [.int 0, .ref e0, .int 0])), ((lm 2), .inr (2, [.int 0, .ref e0, .int 0])), ((lm 3), .inr (2, [.int 0, .ref e0, .int 0])), ((lm 4), .inr (2, [.int 0, .ref e0, .int 0]))] sz) [(mo, .inr (15, [.int u, .ref (lm 0), .ref (lm 1), .ref (lm 2), .ref (lm 3), .ref (lm 4), .int 0, .int 0])), ((lm 0), .inr (2, [.int 0, .ref e0, .int 0])), ((lm 1), .inr (2, [.int 0, .ref e0, .int 0])), ((lm 2), .inr (2, [.int 0, .ref e0, .int 0])), ((lm 3), .inr (2, [.int 0, .ref e0, .int 0])), ((lm 4), .inr (2, [.int 0, .ref e0, .int 0]))]) (va_A [(mo, .inr (15, [.int th, .ref (lm 0), .ref (lm 1), .ref (lm 2), .ref (lm 3), .ref (lm 4), .int 0, .int 0])), ((lm 0), .inr (2, [.int 0, .ref e0, .int 0])), ((lm 1), .inr (2, [.int 0, .ref e0, .int 0])), ((lm 2), .inr (2, [.int 0, .ref e0, .int 0])), ((lm 3), .inr (2, [.int 0, .ref e0, .int 0])), ((lm 4), .inr (2, [.int 0, .ref e0, .int 0]))] sz)) 1 4 (va_A [(mo, .inr (15, [.int th, .ref (lm 0), .ref (lm 1), .ref (lm 2), .ref (lm 3), .ref (lm 4), .int 0, .int 0])), ((lm 0), .inr (2, [.int 0, .ref e0, .int 0])), ((lm 1), .inr (2, [.int 0, .ref e0, .int 0])), ((lm 2), .inr (2, [.int 0, .ref e0, .int 0])), ((lm 3), .inr (2, [.int 0, .ref e0, .int 0])), ((lm 4), .inr (2, [.int 0, .ref e0, .int 0]))] sz) := by
  refine Met.ofW (cc := cX12_checksum) (maxL := 5) (ret := (some .long)) (by decide) rfl ?_
  intro p e s m args below meth c s₁ B hml hv
  obtain ⟨rfl, hsz, hP, hK, hD0, hE⟩ := hv
  have hx := B.exec
  have hb := B.bytes
  have hr := B.returns
  have hts := atoms_spec (ws := zwX12_checksum) B.pre
  have hown : s.vm.findClass RX12 = some m.cls := findClass_of_methodNamed B.named
  have hlocks := B.notSynchronized
  subst hsz
  have hD := hD0.self (sz := s.heap.size)
  generalize hAe : va_A [(mo, .inr (15, [.int th, .ref (lm 0), .ref (lm 1), .ref (lm 2), .ref (lm 3), .ref (lm 4), .int 0, .int 0])), ((lm 0), .inr (2, [.int 0, .ref e0, .int 0])), ((lm 1), .inr (2, [.int 0, .ref e0, .int 0])), ((lm 2), .inr (2, [.int 0, .ref e0, .int 0])), ((lm 3), .inr (2, [.int 0, .ref e0, .int 0])), ((lm 4), .inr (2, [.int 0, .ref e0, .int 0]))] s.heap.size = A at hD hE ⊢
  have hA : ∀ q : Nat, s.heap.size ≤ q → A q := fun q h => by rw [← hAe]; exact Or.inr h
  have hS : va_S A s.heap s.heap [] := va_S.rf
  have hP : va_P (dC, dI) vwCl [(mo, .inr (15, [.int th, .ref (lm 0), .ref (lm 1), .ref (lm 2), .ref (lm 3), .ref (lm 4), .int 0, .int 0])), ((lm 0), .inr (2, [.int 0, .ref e0, .int 0])), ((lm 1), .inr (2, [.int 0, .ref e0, .int 0])), ((lm 2), .inr (2, [.int 0, .ref e0, .int 0])), ((lm 3), .inr (2, [.int 0, .ref e0, .int 0])), ((lm 4), .inr (2, [.int 0, .ref e0, .int 0]))] s.heap := hP
  have hl := lv_entry ([.ref mo]) (n := 5) (Nat.le_of_ble_eq_true rfl)
  rw [lg_entry_eq]
  generalize (lg_sl ([.ref mo]) ++ List.replicate (5 - (lg_sl ([.ref mo])).length) Slot.unset).toArray = ls at hl ⊢
  have hl : lv_has ls 5 [(0, .ref mo)] := hl
  refine lv_aload_n hx hb dX12_checksum_0 rfl (lv_at hl 0 rfl) ?_
  refine lv_iconst (v := 0) hx hb dX12_checksum_1 (by decide) ?_
  refine va_put (D := (dC, dI)) (ci := 15) (v := .int 0) (ty := .int) (C := RX12) (T := TX12) (N := 8) hx hb hts (fun w h => List.mem_cons_of_mem _ (List.mem_append_right _ (List.mem_append_left _ h))) tyX12 tyX12_ok nmX12 hown hK hP hD hS 0 rfl rfl 0 (by decide) (hts (.fieldLink RX12 28 "SpotbeatModel" "thrown" "I") (by decide +kernel)) (fun _ h9 => h9) rfl (by decide +kernel) rfl rfl (Nat.le_of_ble_eq_true rfl) dX12_checksum_2 (fun H locs hP hD hS => ?_)
  have hP : va_P (dC, dI) vwCl [(mo, .inr (15, [.int 0, .ref (lm 0), .ref (lm 1), .ref (lm 2), .ref (lm 3), .ref (lm 4), .int 0, .int 0])), ((lm 0), .inr (2, [.int 0, .ref e0, .int 0])), ((lm 1), .inr (2, [.int 0, .ref e0, .int 0])), ((lm 2), .inr (2, [.int 0, .ref e0, .int 0])), ((lm 3), .inr (2, [.int 0, .ref e0, .int 0])), ((lm 4), .inr (2, [.int 0, .ref e0, .int 0]))] H := hP
  have hD : va_D A [(mo, .inr (15, [.int 0, .ref (lm 0), .ref (lm 1), .ref (lm 2), .ref (lm 3), .ref (lm 4), .int 0, .int 0])), ((lm 0), .inr (2, [.int 0, .ref e0, .int 0])), ((lm 1), .inr (2, [.int 0, .ref e0, .int 0])), ((lm 2), .inr (2, [.int 0, .ref e0, .int 0])), ((lm 3), .inr (2, [.int 0, .ref e0, .int 0])), ((lm 4), .inr (2, [.int 0, .ref e0, .int 0]))] := hD
  refine lv_ldc2 (own := RX12) (v := 7) hx hb hown (hts (.constantLong RX12 300 (7)) (by decide +kernel)) dX12_checksum_5 ?_
  refine lv_lstore_n (lv' := [(1, .long 7), (0, .ref mo)]) hx hb dX12_checksum_8 rfl hl (by decide) rfl (fun ls hl => ?_)
  refine lv_aload_n hx hb dX12_checksum_9 rfl (lv_at hl 1 rfl) ?_
  refine va_get (D := (dC, dI)) (ci := 15) (v := .ref (lm 4)) (C := RX12) (T := TX12) (N := 8) hx hb hts (fun w h => List.mem_cons_of_mem _ (List.mem_append_right _ (List.mem_append_left _ h))) hown hK hP 0 rfl rfl 5 (by decide) (hts (.fieldLink RX12 25 "SpotbeatModel" "bodies" "Ljava/util/List;") (by decide +kernel)) (fun _ h9 => h9) rfl dX12_checksum_10 ?_
  have hPc := hP.sub (ws' := [((lm 4), .inr (2, [.int 0, .ref e0, .int 0]))]) [5] rfl
  have hDc := hD.sub (ws' := [((lm 4), .inr (2, [.int 0, .ref e0, .int 0]))]) [5] (by decide) rfl
  have hKc := hK.sub (tys' := []) [] rfl
  have hFc := va_free (wc := [((lm 4), .inr (2, [.int 0, .ref e0, .int 0]))]) hD hS hA [5] rfl
  refine va_callFr (va_runF (As := []) (rest := []) ((hK.1 2 _ rfl).2) ⟨hx, hb, hml, hown, hts⟩ (c_Jx4a65c_iterator_32c93 l dC dI H.size e0 (lm 4)) (va_cwF 0 hts (goodIn_app (goodIn_of _ (by decide +kernel)) (goodIn_sub ((fun w h => List.mem_cons_of_mem _ (List.mem_append_right _ (List.mem_append_right _ (List.mem_append_left _ h))))) zgJx4a65c_iterator_32c93)) rfl rfl rfl hE.2.2.2.2.2.2.2.2.1 (by decide +kernel) ⟨Nat.le_of_ble_eq_true rfl, Nat.le_of_ble_eq_true rfl⟩) ⟨gPc_blind, va_recv hK hP (ci := 2) (q0 := 5) rfl rfl, gPc_pass hPc hKc hDc⟩ rfl rfl hl.1 rfl (lv_room (Nat.le_of_ble_eq_true rfl)) dX12_checksum_13 ⟨Nat.le_of_ble_eq_true rfl, Nat.le_of_ble_eq_true rfl⟩) hS (fun q _ h => hFc q h) hFc (fun u_2 r_1 t H locs ht hvm hw hB hz hk hS => ?_)
  obtain ⟨hP1, hK1, hD1⟩ := hB
  rw [ht] at hP1
  obtain ⟨hP, hD⟩ := va_join (wr := [(mo, .inr (15, [.int 0, .ref (lm 0), .ref (lm 1), .ref (lm 2), .ref (lm 3), .ref (lm 4), .int 0, .int 0])), ((lm 0), .inr (2, [.int 0, .ref e0, .int 0])), ((lm 1), .inr (2, [.int 0, .ref e0, .int 0])), ((lm 2), .inr (2, [.int 0, .ref e0, .int 0])), ((lm 3), .inr (2, [.int 0, .ref e0, .int 0]))]) (w1 := [(r_1, .inr (1, [.int 0, .int (-1), .int 0, .ref (lm 4)])), ((lm 4), .inr (2, [.int 0, .ref e0, .int 0]))]) hP hD [5] [0, 1, 2, 3, 4] rfl rfl (by decide) (by decide) hk hFc hP1 hD1
  have hP : va_P (dC, dI) vwCl [(mo, .inr (15, [.int 0, .ref (lm 0), .ref (lm 1), .ref (lm 2), .ref (lm 3), .ref (lm 4), .int 0, .int 0])), ((lm 0), .inr (2, [.int 0, .ref e0, .int 0])), ((lm 1), .inr (2, [.int 0, .ref e0, .int 0])), ((lm 2), .inr (2, [.int 0, .ref e0, .int 0])), ((lm 3), .inr (2, [.int 0, .ref e0, .int 0])), (r_1, .inr (1, [.int 0, .int (-1), .int 0, .ref (lm 4)])), ((lm 4), .inr (2, [.int 0, .ref e0, .int 0]))] H := hP
  have hD : va_D A [(mo, .inr (15, [.int 0, .ref (lm 0), .ref (lm 1), .ref (lm 2), .ref (lm 3), .ref (lm 4), .int 0, .int 0])), ((lm 0), .inr (2, [.int 0, .ref e0, .int 0])), ((lm 1), .inr (2, [.int 0, .ref e0, .int 0])), ((lm 2), .inr (2, [.int 0, .ref e0, .int 0])), ((lm 3), .inr (2, [.int 0, .ref e0, .int 0])), (r_1, .inr (1, [.int 0, .int (-1), .int 0, .ref (lm 4)])), ((lm 4), .inr (2, [.int 0, .ref e0, .int 0]))] := hD
  have hw : True := hw
  refine lv_astore_n (lv' := [(3, .ref r_1), (1, .long 7), (0, .ref mo)]) hx hb dX12_checksum_18 rfl hl (by decide) rfl (fun ls hl => ?_)
  refine lv_aload_n hx hb dX12_checksum_19 rfl (lv_at hl 0 rfl) ?_
  have hPc := hP.sub (ws' := [(r_1, .inr (1, [.int 0, .int (-1), .int 0, .ref (lm 4)])), ((lm 4), .inr (2, [.int 0, .ref e0, .int 0]))]) [5, 6] rfl
  have hDc := hD.sub (ws' := [(r_1, .inr (1, [.int 0, .int (-1), .int 0, .ref (lm 4)])), ((lm 4), .inr (2, [.int 0, .ref e0, .int 0]))]) [5, 6] (by decide) rfl
  have hKc := hK.sub (tys' := []) [] rfl
  have hFc := va_free (wc := [(r_1, .inr (1, [.int 0, .int (-1), .int 0, .ref (lm 4)])), ((lm 4), .inr (2, [.int 0, .ref e0, .int 0]))]) hD hS hA [5, 6] rfl
  refine va_callFi (va_runF (As := []) (rest := []) ((hK.1 1 _ rfl).2) ⟨hx, hb, hml, hown, hts⟩ (c_Jx35411_hasNext_aae02 l dC dI H.size e0 r_1 (lm 4)) (va_cwF 0 hts (goodIn_app (goodIn_of _ (by decide +kernel)) (goodIn_sub ((fun w h => List.mem_cons_of_mem _ (List.mem_append_right _ (List.mem_append_right _ (List.mem_append_right _ (h)))))) zgJx35411_hasNext_aae02)) rfl rfl rfl hE.2.2.2.2.2.2.2.2.2.2.1 (by decide +kernel) ⟨Nat.le_of_ble_eq_true rfl, Nat.le_of_ble_eq_true rfl⟩) ⟨gPcE_blind, va_recv hK hP (ci := 1) (q0 := 5) rfl rfl, gPcE_pass hPc hKc hDc hE hS hFc⟩ rfl rfl hl.1 rfl (lv_room (Nat.le_of_ble_eq_true rfl)) dX12_checksum_20 ⟨Nat.le_of_ble_eq_true rfl, Nat.le_of_ble_eq_true rfl⟩) hS (fun q _ h => hFc q h) hFc (fun r_3 u_4 t H locs ht hvm hw hB hz hk hS => ?_)
  obtain ⟨hP1, hK1, hD1⟩ := hB
  rw [ht] at hP1
  obtain ⟨hP, hD⟩ := va_join (wr := [(mo, .inr (15, [.int 0, .ref (lm 0), .ref (lm 1), .ref (lm 2), .ref (lm 3), .ref (lm 4), .int 0, .int 0])), ((lm 0), .inr (2, [.int 0, .ref e0, .int 0])), ((lm 1), .inr (2, [.int 0, .ref e0, .int 0])), ((lm 2), .inr (2, [.int 0, .ref e0, .int 0])), ((lm 3), .inr (2, [.int 0, .ref e0, .int 0]))]) (w1 := [(r_1, .inr (1, [.int 0, .int (-1), .int 0, .ref (lm 4)])), ((lm 4), .inr (2, [.int 0, .ref e0, .int 0]))]) hP hD [5, 6] [0, 1, 2, 3, 4] rfl rfl (by decide) (by decide) hk hFc hP1 hD1
  have hP : va_P (dC, dI) vwCl [(mo, .inr (15, [.int 0, .ref (lm 0), .ref (lm 1), .ref (lm 2), .ref (lm 3), .ref (lm 4), .int 0, .int 0])), ((lm 0), .inr (2, [.int 0, .ref e0, .int 0])), ((lm 1), .inr (2, [.int 0, .ref e0, .int 0])), ((lm 2), .inr (2, [.int 0, .ref e0, .int 0])), ((lm 3), .inr (2, [.int 0, .ref e0, .int 0])), (r_1, .inr (1, [.int 0, .int (-1), .int 0, .ref (lm 4)])), ((lm 4), .inr (2, [.int 0, .ref e0, .int 0]))] H := hP
  have hD : va_D A [(mo, .inr (15, [.int 0, .ref (lm 0), .ref (lm 1), .ref (lm 2), .ref (lm 3), .ref (lm 4), .int 0, .int 0])), ((lm 0), .inr (2, [.int 0, .ref e0, .int 0])), ((lm 1), .inr (2, [.int 0, .ref e0, .int 0])), ((lm 2), .inr (2, [.int 0, .ref e0, .int 0])), ((lm 3), .inr (2, [.int 0, .ref e0, .int 0])), (r_1, .inr (1, [.int 0, .int (-1), .int 0, .ref (lm 4)])), ((lm 4), .inr (2, [.int 0, .ref e0, .int 0]))] := hD
  have hw : r_3 = 0 := hw
  subst hw
  refine lv_if_eq (tgt := 84) hx hb dX12_checksum_25 (by decide) (fun _ => ?_) (fun c_5 => absurd c_5 (by decide))
  refine lv_lload_n hx hb dX12_checksum_84 rfl (lv_at hl 1 rfl) ?_
  have hP9 := hP.sub (ws' := [(mo, .inr (15, [.int 0, .ref (lm 0), .ref (lm 1), .ref (lm 2), .ref (lm 3), .ref (lm 4), .int 0, .int 0])), ((lm 0), .inr (2, [.int 0, .ref e0, .int 0])), ((lm 1), .inr (2, [.int 0, .ref e0, .int 0])), ((lm 2), .inr (2, [.int 0, .ref e0, .int 0])), ((lm 3), .inr (2, [.int 0, .ref e0, .int 0])), ((lm 4), .inr (2, [.int 0, .ref e0, .int 0]))]) [0, 1, 2, 3, 4, 6] rfl
  have hD9 := hD.sub (ws' := [(mo, .inr (15, [.int 0, .ref (lm 0), .ref (lm 1), .ref (lm 2), .ref (lm 3), .ref (lm 4), .int 0, .int 0])), ((lm 0), .inr (2, [.int 0, .ref e0, .int 0])), ((lm 1), .inr (2, [.int 0, .ref e0, .int 0])), ((lm 2), .inr (2, [.int 0, .ref e0, .int 0])), ((lm 3), .inr (2, [.int 0, .ref e0, .int 0])), ((lm 4), .inr (2, [.int 0, .ref e0, .int 0]))]) [0, 1, 2, 3, 4, 6] (by decide) rfl
  have hK9 := hK.sub (tys' := []) [] rfl
  refine W.widen (k := 1) (n := 4) (Nat.le_of_ble_eq_true rfl) (Nat.le_of_ble_eq_true rfl) ?_
  exact W.lret (v := 7) hx hb hr (fun t ht hW => ⟨⟨7, 0, rfl, ⟨rfl, rfl⟩, by rw [ht]; exact hP9, va_K.moved hW.alike hK9, hD9⟩, hS.F ht⟩) hS.2.2 dX12_checksum_85

def zwX12_isSound : List Cond := .code yX12_isSound cX12_isSound 1 (some .boolean) :: (([.fieldLink RX12 28 "SpotbeatModel" "thrown" "I"] : List Cond) ++ (wsX120))
theorem zgX12_isSound : zwX12_isSound.all goodWord = true := zgo rfl (zga (by decide +kernel) (zgcX12))
set_option maxHeartbeats 4000000 in
set_option maxRecDepth 100000 in
theorem c_X12_isSound (l : Launch) (dC : Nat → ClassId) (dI : Nat → Nat → Nat) (sz : Nat) (mo : Nat) (lm : Nat → Nat) (e0 : Nat) (th : Int32) : Met l yX12_isSound zwX12_isSound ({ frames := 0, cells := 0, slots := 0, locals := 0 }) (gPcE dC dI sz [(mo, .inr (15, [.int th, .ref (lm 0), .ref (lm 1), .ref (lm 2), .ref (lm 3), .ref (lm 4), .int 0, .int 0])), ((lm 0), .inr (2, [.int 0, .ref e0, .int 0])), ((lm 1), .inr (2, [.int 0, .ref e0, .int 0])), ((lm 2), .inr (2, [.int 0, .ref e0, .int 0])), ((lm 3), .inr (2, [.int 0, .ref e0, .int 0])), ((lm 4), .inr (2, [.int 0, .ref e0, .int 0]))] [] [.ref mo]) (va_Qi (fun (r : Int32) (u : Int32) => r = 1 ∧ u = 0) (fun u t => va_P (dC, dI) vwCl [(mo, .inr (15, [.int u, .ref (lm 0), .ref (lm 1), .ref (lm 2), .ref (lm 3), .ref (lm 4), .int 0, .int 0])), ((lm 0), .inr (2, [.int 0, .ref e0, .int 0])), ((lm 1), .inr (2, [.int 0, .ref e0, .int 0])), ((lm 2), .inr (2, [.int 0, .ref e0, .int 0])), ((lm 3), .inr (2, [.int 0, .ref e0, .int 0])), ((lm 4), .inr (2, [.int 0, .ref e0, .int 0]))] t.heap ∧ va_K (dC, dI) vwCl [] t ∧ va_D (va_A [(mo, .inr (15, [.int th, .ref (lm 0), .ref (lm 1), .ref (lm 2), .ref (lm 3), .ref (lm 4), .int 0, .int 0])), ((lm 0), .inr (2, [.int 0, .ref e0, .int 0])), ((lm 1), .inr (2, [.int 0, .ref e0, .int 0])), ((lm 2), .inr (2, [.int 0, .ref e0, .int 0])), ((lm 3), .inr (2, [.int 0, .ref e0, .int 0])), ((lm 4), .inr (2, [.int 0, .ref e0, .int 0]))] sz) [(mo, .inr (15, [.int u, .ref (lm 0), .ref (lm 1), .ref (lm 2), .ref (lm 3), .ref (lm 4), .int 0, .int 0])), ((lm 0), .inr (2, [.int 0, .ref e0, .int 0])), ((lm 1), .inr (2, [.int 0, .ref e0, .int 0])), ((lm 2), .inr (2, [.int 0, .ref e0, .int 0])), ((lm 3), .inr (2, [.int 0, .ref e0, .int 0])), ((lm 4), .inr (2, [.int 0, .ref e0, .int 0]))]) (va_A [(mo, .inr (15, [.int th, .ref (lm 0), .ref (lm 1), .ref (lm 2), .ref (lm 3), .ref (lm 4), .int 0, .int 0])), ((lm 0), .inr (2, [.int 0, .ref e0, .int 0])), ((lm 1), .inr (2, [.int 0, .ref e0, .int 0])), ((lm 2), .inr (2, [.int 0, .ref e0, .int 0])), ((lm 3), .inr (2, [.int 0, .ref e0, .int 0])), ((lm 4), .inr (2, [.int 0, .ref e0, .int 0]))] sz)) 0 0 (va_A [(mo, .inr (15, [.int th, .ref (lm 0), .ref (lm 1), .ref (lm 2), .ref (lm 3), .ref (lm 4), .int 0, .int 0])), ((lm 0), .inr (2, [.int 0, .ref e0, .int 0])), ((lm 1), .inr (2, [.int 0, .ref e0, .int 0])), ((lm 2), .inr (2, [.int 0, .ref e0, .int 0])), ((lm 3), .inr (2, [.int 0, .ref e0, .int 0])), ((lm 4), .inr (2, [.int 0, .ref e0, .int 0]))] sz) := by
  refine Met.ofW (cc := cX12_isSound) (maxL := 1) (ret := (some .boolean)) (by decide) rfl ?_
  intro p e s m args below meth c s₁ B hml hv
  obtain ⟨rfl, hsz, hP, hK, hD0, hE⟩ := hv
  have hx := B.exec
  have hb := B.bytes
  have hr := B.returns
  have hts := atoms_spec (ws := zwX12_isSound) B.pre
  have hown : s.vm.findClass RX12 = some m.cls := findClass_of_methodNamed B.named
  have hlocks := B.notSynchronized
  subst hsz
  have hD := hD0.self (sz := s.heap.size)
  generalize hAe : va_A [(mo, .inr (15, [.int th, .ref (lm 0), .ref (lm 1), .ref (lm 2), .ref (lm 3), .ref (lm 4), .int 0, .int 0])), ((lm 0), .inr (2, [.int 0, .ref e0, .int 0])), ((lm 1), .inr (2, [.int 0, .ref e0, .int 0])), ((lm 2), .inr (2, [.int 0, .ref e0, .int 0])), ((lm 3), .inr (2, [.int 0, .ref e0, .int 0])), ((lm 4), .inr (2, [.int 0, .ref e0, .int 0]))] s.heap.size = A at hD hE ⊢
  have hA : ∀ q : Nat, s.heap.size ≤ q → A q := fun q h => by rw [← hAe]; exact Or.inr h
  have hS : va_S A s.heap s.heap [] := va_S.rf
  have hP : va_P (dC, dI) vwCl [(mo, .inr (15, [.int th, .ref (lm 0), .ref (lm 1), .ref (lm 2), .ref (lm 3), .ref (lm 4), .int 0, .int 0])), ((lm 0), .inr (2, [.int 0, .ref e0, .int 0])), ((lm 1), .inr (2, [.int 0, .ref e0, .int 0])), ((lm 2), .inr (2, [.int 0, .ref e0, .int 0])), ((lm 3), .inr (2, [.int 0, .ref e0, .int 0])), ((lm 4), .inr (2, [.int 0, .ref e0, .int 0]))] s.heap := hP
  have hl := lv_entry ([.ref mo]) (n := 1) (Nat.le_of_ble_eq_true rfl)
  rw [lg_entry_eq]
  generalize (lg_sl ([.ref mo]) ++ List.replicate (1 - (lg_sl ([.ref mo])).length) Slot.unset).toArray = ls at hl ⊢
  have hl : lv_has ls 1 [(0, .ref mo)] := hl
  refine lv_aload_n hx hb dX12_isSound_0 rfl (lv_at hl 0 rfl) ?_
  refine lv_iconst (v := 0) hx hb dX12_isSound_1 (by decide) ?_
  refine va_put (D := (dC, dI)) (ci := 15) (v := .int 0) (ty := .int) (C := RX12) (T := TX12) (N := 8) hx hb hts (fun w h => List.mem_cons_of_mem _ (List.mem_append_right _ (h))) tyX12 tyX12_ok nmX12 hown hK hP hD hS 0 rfl rfl 0 (by decide) (hts (.fieldLink RX12 28 "SpotbeatModel" "thrown" "I") (by decide +kernel)) (fun _ h9 => h9) rfl (by decide +kernel) rfl rfl (Nat.le_of_ble_eq_true rfl) dX12_isSound_2 (fun H locs hP hD hS => ?_)
  have hP : va_P (dC, dI) vwCl [(mo, .inr (15, [.int 0, .ref (lm 0), .ref (lm 1), .ref (lm 2), .ref (lm 3), .ref (lm 4), .int 0, .int 0])), ((lm 0), .inr (2, [.int 0, .ref e0, .int 0])), ((lm 1), .inr (2, [.int 0, .ref e0, .int 0])), ((lm 2), .inr (2, [.int 0, .ref e0, .int 0])), ((lm 3), .inr (2, [.int 0, .ref e0, .int 0])), ((lm 4), .inr (2, [.int 0, .ref e0, .int 0]))] H := hP
  have hD : va_D A [(mo, .inr (15, [.int 0, .ref (lm 0), .ref (lm 1), .ref (lm 2), .ref (lm 3), .ref (lm 4), .int 0, .int 0])), ((lm 0), .inr (2, [.int 0, .ref e0, .int 0])), ((lm 1), .inr (2, [.int 0, .ref e0, .int 0])), ((lm 2), .inr (2, [.int 0, .ref e0, .int 0])), ((lm 3), .inr (2, [.int 0, .ref e0, .int 0])), ((lm 4), .inr (2, [.int 0, .ref e0, .int 0]))] := hD
  refine lv_iconst (v := 1) hx hb dX12_isSound_5 (by decide) ?_
  have hP9 := hP.sub (ws' := [(mo, .inr (15, [.int 0, .ref (lm 0), .ref (lm 1), .ref (lm 2), .ref (lm 3), .ref (lm 4), .int 0, .int 0])), ((lm 0), .inr (2, [.int 0, .ref e0, .int 0])), ((lm 1), .inr (2, [.int 0, .ref e0, .int 0])), ((lm 2), .inr (2, [.int 0, .ref e0, .int 0])), ((lm 3), .inr (2, [.int 0, .ref e0, .int 0])), ((lm 4), .inr (2, [.int 0, .ref e0, .int 0]))]) [0, 1, 2, 3, 4, 5] rfl
  have hD9 := hD.sub (ws' := [(mo, .inr (15, [.int 0, .ref (lm 0), .ref (lm 1), .ref (lm 2), .ref (lm 3), .ref (lm 4), .int 0, .int 0])), ((lm 0), .inr (2, [.int 0, .ref e0, .int 0])), ((lm 1), .inr (2, [.int 0, .ref e0, .int 0])), ((lm 2), .inr (2, [.int 0, .ref e0, .int 0])), ((lm 3), .inr (2, [.int 0, .ref e0, .int 0])), ((lm 4), .inr (2, [.int 0, .ref e0, .int 0]))]) [0, 1, 2, 3, 4, 5] (by decide) rfl
  have hK9 := hK.sub (tys' := []) [] rfl
  refine W.widen (k := 0) (n := 0) (Nat.le_of_ble_eq_true rfl) (Nat.le_of_ble_eq_true rfl) ?_
  exact W.zret (v := 1) hx hb hr (by decide +kernel) (fun t ht hW => ⟨⟨1, 0, rfl, ⟨rfl, rfl⟩, by rw [ht]; exact hP9, va_K.moved hW.alike hK9, hD9⟩, hS.F ht⟩) hS.2.2 dX12_isSound_6

def zwX12_wholeShare : List Cond := .code yX12_wholeShare cX12_wholeShare 1 (some .float) :: (([.methodLink RX12 297 yX12_off, .instanceMethod yX12_off, .selects RX12 yX12_off yX12_off, .initialized RX12, .methodLink RX12 50 yX12_isWrong, .instanceMethod yX12_isWrong, .selects RX12 yX12_isWrong yX12_isWrong] : List Cond) ++ (zwX12_off ++ (zwX12_isWrong_1)))
theorem zgX12_wholeShare : zwX12_wholeShare.all goodWord = true := zgo rfl (zga (by decide +kernel) (zga zgX12_off (zgX12_isWrong_1)))
set_option maxHeartbeats 4000000 in
set_option maxRecDepth 100000 in
theorem c_X12_wholeShare (l : Launch) (dC : Nat → ClassId) (dI : Nat → Nat → Nat) (sz : Nat) (mo : Nat) (lm : Nat → Nat) (e0 : Nat) (th : Int32) : Met l yX12_wholeShare zwX12_wholeShare ({ frames := 4, cells := 1, slots := 4, locals := 76 }) (gPcE dC dI sz [(mo, .inr (15, [.int th, .ref (lm 0), .ref (lm 1), .ref (lm 2), .ref (lm 3), .ref (lm 4), .int 0, .int 0])), ((lm 0), .inr (2, [.int 0, .ref e0, .int 0])), ((lm 1), .inr (2, [.int 0, .ref e0, .int 0])), ((lm 2), .inr (2, [.int 0, .ref e0, .int 0])), ((lm 3), .inr (2, [.int 0, .ref e0, .int 0])), ((lm 4), .inr (2, [.int 0, .ref e0, .int 0]))] [] [.ref mo]) (va_Qf (fun (r : UInt32) (u : Int32) => u = 1) (fun u t => va_P (dC, dI) vwCl [(mo, .inr (15, [.int u, .ref (lm 0), .ref (lm 1), .ref (lm 2), .ref (lm 3), .ref (lm 4), .int 0, .int 0])), ((lm 0), .inr (2, [.int 0, .ref e0, .int 0])), ((lm 1), .inr (2, [.int 0, .ref e0, .int 0])), ((lm 2), .inr (2, [.int 0, .ref e0, .int 0])), ((lm 3), .inr (2, [.int 0, .ref e0, .int 0])), ((lm 4), .inr (2, [.int 0, .ref e0, .int 0]))] t.heap ∧ va_K (dC, dI) vwCl [] t ∧ va_D (va_A [(mo, .inr (15, [.int th, .ref (lm 0), .ref (lm 1), .ref (lm 2), .ref (lm 3), .ref (lm 4), .int 0, .int 0])), ((lm 0), .inr (2, [.int 0, .ref e0, .int 0])), ((lm 1), .inr (2, [.int 0, .ref e0, .int 0])), ((lm 2), .inr (2, [.int 0, .ref e0, .int 0])), ((lm 3), .inr (2, [.int 0, .ref e0, .int 0])), ((lm 4), .inr (2, [.int 0, .ref e0, .int 0]))] sz) [(mo, .inr (15, [.int u, .ref (lm 0), .ref (lm 1), .ref (lm 2), .ref (lm 3), .ref (lm 4), .int 0, .int 0])), ((lm 0), .inr (2, [.int 0, .ref e0, .int 0])), ((lm 1), .inr (2, [.int 0, .ref e0, .int 0])), ((lm 2), .inr (2, [.int 0, .ref e0, .int 0])), ((lm 3), .inr (2, [.int 0, .ref e0, .int 0])), ((lm 4), .inr (2, [.int 0, .ref e0, .int 0]))]) (va_A [(mo, .inr (15, [.int th, .ref (lm 0), .ref (lm 1), .ref (lm 2), .ref (lm 3), .ref (lm 4), .int 0, .int 0])), ((lm 0), .inr (2, [.int 0, .ref e0, .int 0])), ((lm 1), .inr (2, [.int 0, .ref e0, .int 0])), ((lm 2), .inr (2, [.int 0, .ref e0, .int 0])), ((lm 3), .inr (2, [.int 0, .ref e0, .int 0])), ((lm 4), .inr (2, [.int 0, .ref e0, .int 0]))] sz)) 1 4 (va_A [(mo, .inr (15, [.int th, .ref (lm 0), .ref (lm 1), .ref (lm 2), .ref (lm 3), .ref (lm 4), .int 0, .int 0])), ((lm 0), .inr (2, [.int 0, .ref e0, .int 0])), ((lm 1), .inr (2, [.int 0, .ref e0, .int 0])), ((lm 2), .inr (2, [.int 0, .ref e0, .int 0])), ((lm 3), .inr (2, [.int 0, .ref e0, .int 0])), ((lm 4), .inr (2, [.int 0, .ref e0, .int 0]))] sz) := by
  refine Met.ofW (cc := cX12_wholeShare) (maxL := 1) (ret := (some .float)) (by decide) rfl ?_
  intro p e s m args below meth c s₁ B hml hv
  obtain ⟨rfl, hsz, hP, hK, hD0, hE⟩ := hv
  have hx := B.exec
  have hb := B.bytes
  have hr := B.returns
  have hts := atoms_spec (ws := zwX12_wholeShare) B.pre
  have hown : s.vm.findClass RX12 = some m.cls := findClass_of_methodNamed B.named
  have hlocks := B.notSynchronized
  subst hsz
  have hD := hD0.self (sz := s.heap.size)
  generalize hAe : va_A [(mo, .inr (15, [.int th, .ref (lm 0), .ref (lm 1), .ref (lm 2), .ref (lm 3), .ref (lm 4), .int 0, .int 0])), ((lm 0), .inr (2, [.int 0, .ref e0, .int 0])), ((lm 1), .inr (2, [.int 0, .ref e0, .int 0])), ((lm 2), .inr (2, [.int 0, .ref e0, .int 0])), ((lm 3), .inr (2, [.int 0, .ref e0, .int 0])), ((lm 4), .inr (2, [.int 0, .ref e0, .int 0]))] s.heap.size = A at hD hE ⊢
  have hA : ∀ q : Nat, s.heap.size ≤ q → A q := fun q h => by rw [← hAe]; exact Or.inr h
  have hS : va_S A s.heap s.heap [] := va_S.rf
  have hP : va_P (dC, dI) vwCl [(mo, .inr (15, [.int th, .ref (lm 0), .ref (lm 1), .ref (lm 2), .ref (lm 3), .ref (lm 4), .int 0, .int 0])), ((lm 0), .inr (2, [.int 0, .ref e0, .int 0])), ((lm 1), .inr (2, [.int 0, .ref e0, .int 0])), ((lm 2), .inr (2, [.int 0, .ref e0, .int 0])), ((lm 3), .inr (2, [.int 0, .ref e0, .int 0])), ((lm 4), .inr (2, [.int 0, .ref e0, .int 0]))] s.heap := hP
  have hl := lv_entry ([.ref mo]) (n := 1) (Nat.le_of_ble_eq_true rfl)
  rw [lg_entry_eq]
  generalize (lg_sl ([.ref mo]) ++ List.replicate (1 - (lg_sl ([.ref mo])).length) Slot.unset).toArray = ls at hl ⊢
  have hl : lv_has ls 1 [(0, .ref mo)] := hl
  refine lv_aload_n hx hb dX12_wholeShare_0 rfl (lv_at hl 0 rfl) ?_
  refine lv_aload_n hx hb dX12_wholeShare_1 rfl (lv_at hl 0 rfl) ?_
  have hPc := hP.sub (ws' := [(mo, .inr (15, [.int th, .ref (lm 0), .ref (lm 1), .ref (lm 2), .ref (lm 3), .ref (lm 4), .int 0, .int 0])), ((lm 0), .inr (2, [.int 0, .ref e0, .int 0])), ((lm 1), .inr (2, [.int 0, .ref e0, .int 0])), ((lm 2), .inr (2, [.int 0, .ref e0, .int 0])), ((lm 3), .inr (2, [.int 0, .ref e0, .int 0])), ((lm 4), .inr (2, [.int 0, .ref e0, .int 0]))]) [0, 1, 2, 3, 4, 5] rfl
  have hDc := hD.sub (ws' := [(mo, .inr (15, [.int th, .ref (lm 0), .ref (lm 1), .ref (lm 2), .ref (lm 3), .ref (lm 4), .int 0, .int 0])), ((lm 0), .inr (2, [.int 0, .ref e0, .int 0])), ((lm 1), .inr (2, [.int 0, .ref e0, .int 0])), ((lm 2), .inr (2, [.int 0, .ref e0, .int 0])), ((lm 3), .inr (2, [.int 0, .ref e0, .int 0])), ((lm 4), .inr (2, [.int 0, .ref e0, .int 0]))]) [0, 1, 2, 3, 4, 5] (by decide) rfl
  have hKc := hK.sub (tys' := []) [] rfl
  have hFc := va_free (wc := [(mo, .inr (15, [.int th, .ref (lm 0), .ref (lm 1), .ref (lm 2), .ref (lm 3), .ref (lm 4), .int 0, .int 0])), ((lm 0), .inr (2, [.int 0, .ref e0, .int 0])), ((lm 1), .inr (2, [.int 0, .ref e0, .int 0])), ((lm 2), .inr (2, [.int 0, .ref e0, .int 0])), ((lm 3), .inr (2, [.int 0, .ref e0, .int 0])), ((lm 4), .inr (2, [.int 0, .ref e0, .int 0]))]) hD hS hA [0, 1, 2, 3, 4, 5] rfl
  refine va_calli (va_runV (As := []) (rest := [.ref mo]) ⟨hx, hb, hml, hown, hts⟩ (c_X12_off l dC dI s.heap.size mo lm e0 th) (cwV 0 hts (goodIn_app (goodIn_of _ (by decide +kernel)) (goodIn_sub ((fun w h => List.mem_cons_of_mem _ (List.mem_append_right _ (List.mem_append_left _ h)))) zgX12_off)) rfl rfl rfl (by decide +kernel) ⟨Nat.le_of_ble_eq_true rfl, Nat.le_of_ble_eq_true rfl⟩) ⟨gPcE_blind, va_recv hK hP (ci := 15) (q0 := 0) rfl rfl, gPcE_pass hPc hKc hDc hE hS hFc⟩ rfl rfl hl.1 rfl (lv_room (Nat.le_of_ble_eq_true rfl)) dX12_wholeShare_2 ⟨Nat.le_of_ble_eq_true rfl, Nat.le_of_ble_eq_true rfl⟩) hS (fun q _ h => hFc q h) hFc (fun r_1 u_2 t H locs ht hvm hw hB hz hk hS => ?_)
  obtain ⟨hP1, hK1, hD1⟩ := hB
  rw [ht] at hP1
  obtain ⟨hP, hD⟩ := va_join (wr := []) (w1 := [(mo, .inr (15, [.int u_2, .ref (lm 0), .ref (lm 1), .ref (lm 2), .ref (lm 3), .ref (lm 4), .int 0, .int 0])), ((lm 0), .inr (2, [.int 0, .ref e0, .int 0])), ((lm 1), .inr (2, [.int 0, .ref e0, .int 0])), ((lm 2), .inr (2, [.int 0, .ref e0, .int 0])), ((lm 3), .inr (2, [.int 0, .ref e0, .int 0])), ((lm 4), .inr (2, [.int 0, .ref e0, .int 0]))]) hP hD [0, 1, 2, 3, 4, 5] [] rfl rfl (by decide) (by decide) hk hFc hP1 hD1
  have hP : va_P (dC, dI) vwCl [(mo, .inr (15, [.int u_2, .ref (lm 0), .ref (lm 1), .ref (lm 2), .ref (lm 3), .ref (lm 4), .int 0, .int 0])), ((lm 0), .inr (2, [.int 0, .ref e0, .int 0])), ((lm 1), .inr (2, [.int 0, .ref e0, .int 0])), ((lm 2), .inr (2, [.int 0, .ref e0, .int 0])), ((lm 3), .inr (2, [.int 0, .ref e0, .int 0])), ((lm 4), .inr (2, [.int 0, .ref e0, .int 0]))] H := hP
  have hD : va_D A [(mo, .inr (15, [.int u_2, .ref (lm 0), .ref (lm 1), .ref (lm 2), .ref (lm 3), .ref (lm 4), .int 0, .int 0])), ((lm 0), .inr (2, [.int 0, .ref e0, .int 0])), ((lm 1), .inr (2, [.int 0, .ref e0, .int 0])), ((lm 2), .inr (2, [.int 0, .ref e0, .int 0])), ((lm 3), .inr (2, [.int 0, .ref e0, .int 0])), ((lm 4), .inr (2, [.int 0, .ref e0, .int 0]))] := hD
  have hw : r_1 = 0 ∧ u_2 = th := hw
  obtain ⟨rfl, hu⟩ : r_1 = 0 ∧ u_2 = th := hw
  have hu := hu.symm
  subst hu
  refine lv_if_ne (tgt := 12) hx hb dX12_wholeShare_5 (by decide) (fun c_3 => absurd c_3 (by decide)) (fun _ => ?_)
  refine lv_iconst (v := 1) hx hb dX12_wholeShare_8 (by decide) ?_
  refine lv_goto (tgt := 13) hx hb dX12_wholeShare_9 (by decide) ?_
  have hPc := hP.sub (ws' := [(mo, .inr (15, [.int th, .ref (lm 0), .ref (lm 1), .ref (lm 2), .ref (lm 3), .ref (lm 4), .int 0, .int 0])), ((lm 0), .inr (2, [.int 0, .ref e0, .int 0])), ((lm 1), .inr (2, [.int 0, .ref e0, .int 0])), ((lm 2), .inr (2, [.int 0, .ref e0, .int 0])), ((lm 3), .inr (2, [.int 0, .ref e0, .int 0])), ((lm 4), .inr (2, [.int 0, .ref e0, .int 0]))]) [0, 1, 2, 3, 4, 5] rfl
  have hDc := hD.sub (ws' := [(mo, .inr (15, [.int th, .ref (lm 0), .ref (lm 1), .ref (lm 2), .ref (lm 3), .ref (lm 4), .int 0, .int 0])), ((lm 0), .inr (2, [.int 0, .ref e0, .int 0])), ((lm 1), .inr (2, [.int 0, .ref e0, .int 0])), ((lm 2), .inr (2, [.int 0, .ref e0, .int 0])), ((lm 3), .inr (2, [.int 0, .ref e0, .int 0])), ((lm 4), .inr (2, [.int 0, .ref e0, .int 0]))]) [0, 1, 2, 3, 4, 5] (by decide) rfl
  have hKc := hK.sub (tys' := []) [] rfl
  have hFc := va_free (wc := [(mo, .inr (15, [.int th, .ref (lm 0), .ref (lm 1), .ref (lm 2), .ref (lm 3), .ref (lm 4), .int 0, .int 0])), ((lm 0), .inr (2, [.int 0, .ref e0, .int 0])), ((lm 1), .inr (2, [.int 0, .ref e0, .int 0])), ((lm 2), .inr (2, [.int 0, .ref e0, .int 0])), ((lm 3), .inr (2, [.int 0, .ref e0, .int 0])), ((lm 4), .inr (2, [.int 0, .ref e0, .int 0]))]) hD hS hA [0, 1, 2, 3, 4, 5] rfl
  refine va_calli (va_runV (As := [.int 1]) (rest := []) ⟨hx, hb, hml, hown, hts⟩ (c_X12_isWrong_1 l dC dI H.size mo lm e0 th) (cwV 1 hts (goodIn_app (goodIn_of _ (by decide +kernel)) (goodIn_sub ((fun w h => List.mem_cons_of_mem _ (List.mem_append_right _ (List.mem_append_right _ (h))))) zgX12_isWrong_1)) rfl rfl rfl (by decide +kernel) ⟨Nat.le_of_ble_eq_true rfl, Nat.le_of_ble_eq_true rfl⟩) ⟨gPcE_blind, va_recv hK hP (ci := 15) (q0 := 0) rfl rfl, gPcE_pass hPc hKc hDc hE hS hFc⟩ rfl rfl hl.1 rfl (lv_room (Nat.le_of_ble_eq_true rfl)) dX12_wholeShare_13 ⟨Nat.le_of_ble_eq_true rfl, Nat.le_of_ble_eq_true rfl⟩) hS (fun q _ h => hFc q h) hFc (fun r_4 u_5 t H locs ht hvm hw hB hz hk hS => ?_)
  obtain ⟨hP1, hK1, hD1⟩ := hB
  rw [ht] at hP1
  obtain ⟨hP, hD⟩ := va_join (wr := []) (w1 := [(mo, .inr (15, [.int u_5, .ref (lm 0), .ref (lm 1), .ref (lm 2), .ref (lm 3), .ref (lm 4), .int 0, .int 0])), ((lm 0), .inr (2, [.int 0, .ref e0, .int 0])), ((lm 1), .inr (2, [.int 0, .ref e0, .int 0])), ((lm 2), .inr (2, [.int 0, .ref e0, .int 0])), ((lm 3), .inr (2, [.int 0, .ref e0, .int 0])), ((lm 4), .inr (2, [.int 0, .ref e0, .int 0]))]) hP hD [0, 1, 2, 3, 4, 5] [] rfl rfl (by decide) (by decide) hk hFc hP1 hD1
  have hP : va_P (dC, dI) vwCl [(mo, .inr (15, [.int u_5, .ref (lm 0), .ref (lm 1), .ref (lm 2), .ref (lm 3), .ref (lm 4), .int 0, .int 0])), ((lm 0), .inr (2, [.int 0, .ref e0, .int 0])), ((lm 1), .inr (2, [.int 0, .ref e0, .int 0])), ((lm 2), .inr (2, [.int 0, .ref e0, .int 0])), ((lm 3), .inr (2, [.int 0, .ref e0, .int 0])), ((lm 4), .inr (2, [.int 0, .ref e0, .int 0]))] H := hP
  have hD : va_D A [(mo, .inr (15, [.int u_5, .ref (lm 0), .ref (lm 1), .ref (lm 2), .ref (lm 3), .ref (lm 4), .int 0, .int 0])), ((lm 0), .inr (2, [.int 0, .ref e0, .int 0])), ((lm 1), .inr (2, [.int 0, .ref e0, .int 0])), ((lm 2), .inr (2, [.int 0, .ref e0, .int 0])), ((lm 3), .inr (2, [.int 0, .ref e0, .int 0])), ((lm 4), .inr (2, [.int 0, .ref e0, .int 0]))] := hD
  have hw : r_4 = 1 ∧ u_5 = 1 := hw
  obtain ⟨rfl, rfl⟩ : r_4 = 1 ∧ u_5 = 1 := hw
  refine lv_if_eq (tgt := 23) hx hb dX12_wholeShare_16 (by decide) (fun c_6 => absurd c_6 (by decide)) (fun _ => ?_)
  refine lv_fconst0 hx hb dX12_wholeShare_19 ?_
  refine lv_goto (tgt := 34) hx hb dX12_wholeShare_20 (by decide) ?_
  have hP9 := hP.sub (ws' := [(mo, .inr (15, [.int 1, .ref (lm 0), .ref (lm 1), .ref (lm 2), .ref (lm 3), .ref (lm 4), .int 0, .int 0])), ((lm 0), .inr (2, [.int 0, .ref e0, .int 0])), ((lm 1), .inr (2, [.int 0, .ref e0, .int 0])), ((lm 2), .inr (2, [.int 0, .ref e0, .int 0])), ((lm 3), .inr (2, [.int 0, .ref e0, .int 0])), ((lm 4), .inr (2, [.int 0, .ref e0, .int 0]))]) [0, 1, 2, 3, 4, 5] rfl
  have hD9 := hD.sub (ws' := [(mo, .inr (15, [.int 1, .ref (lm 0), .ref (lm 1), .ref (lm 2), .ref (lm 3), .ref (lm 4), .int 0, .int 0])), ((lm 0), .inr (2, [.int 0, .ref e0, .int 0])), ((lm 1), .inr (2, [.int 0, .ref e0, .int 0])), ((lm 2), .inr (2, [.int 0, .ref e0, .int 0])), ((lm 3), .inr (2, [.int 0, .ref e0, .int 0])), ((lm 4), .inr (2, [.int 0, .ref e0, .int 0]))]) [0, 1, 2, 3, 4, 5] (by decide) rfl
  have hK9 := hK.sub (tys' := []) [] rfl
  refine W.widen (k := 1) (n := 4) (Nat.le_of_ble_eq_true rfl) (Nat.le_of_ble_eq_true rfl) ?_
  exact W.fret (v := 0) hx hb hr (fun t ht hW => ⟨⟨0, 1, rfl, rfl, by rw [ht]; exact hP9, va_K.moved hW.alike hK9, hD9⟩, hS.F ht⟩) hS.2.2 dX12_wholeShare_34 hlocks

def zwX12_meanMeasure : List Cond := .code yX12_meanMeasure cX12_meanMeasure 4 (some .double) :: (([.fieldLink RX12 25 "SpotbeatModel" "bodies" "Ljava/util/List;", .methodLink RX12 82 ⟨"java/util/List", "iterator", "()Ljava/util/Iterator;"⟩, .selects RJx4a65c ⟨"java/util/List", "iterator", "()Ljava/util/Iterator;"⟩ yJx4a65c_iterator_32c93, .instanceMethod yJx4a65c_iterator_32c93, .initialized RJx4a65c, .methodLink RX12 86 ⟨"java/util/Iterator", "hasNext", "()Z"⟩, .selects RJx35411 ⟨"java/util/Iterator", "hasNext", "()Z"⟩ yJx35411_hasNext_aae02, .instanceMethod yJx35411_hasNext_aae02, .initialized RJx35411, .methodLink RX12 297 yX12_off, .instanceMethod yX12_off, .selects RX12 yX12_off yX12_off, .initialized RX12, .methodLink RX12 50 yX12_isWrong, .instanceMethod yX12_isWrong, .selects RX12 yX12_isWrong yX12_isWrong] : List Cond) ++ (wsX120 ++ (zwJx4a65c_iterator_32c93 ++ (zwJx35411_hasNext_aae02 ++ (zwX12_off ++ (zwX12_isWrong_1))))))
theorem zgX12_meanMeasure : zwX12_meanMeasure.all goodWord = true := zgo rfl (zga (by decide +kernel) (zga zgcX12 (zga zgJx4a65c_iterator_32c93 (zga zgJx35411_hasNext_aae02 (zga zgX12_off (zgX12_isWrong_1))))))
set_option maxHeartbeats 4000000 in
set_option maxRecDepth 100000 in
theorem c_X12_meanMeasure (l : Launch) (dC : Nat → ClassId) (dI : Nat → Nat → Nat) (sz : Nat) (mo : Nat) (lm : Nat → Nat) (e0 : Nat) (th : Int32) : Met l yX12_meanMeasure zwX12_meanMeasure ({ frames := 4, cells := 2, slots := 8, locals := 76 }) (gPcE dC dI sz [(mo, .inr (15, [.int th, .ref (lm 0), .ref (lm 1), .ref (lm 2), .ref (lm 3), .ref (lm 4), .int 0, .int 0])), ((lm 0), .inr (2, [.int 0, .ref e0, .int 0])), ((lm 1), .inr (2, [.int 0, .ref e0, .int 0])), ((lm 2), .inr (2, [.int 0, .ref e0, .int 0])), ((lm 3), .inr (2, [.int 0, .ref e0, .int 0])), ((lm 4), .inr (2, [.int 0, .ref e0, .int 0]))] [] [.ref mo]) (va_Qd (fun (r : UInt64) (u : Int32) => u = 1) (fun u t => va_P (dC, dI) vwCl [(mo, .inr (15, [.int u, .ref (lm 0), .ref (lm 1), .ref (lm 2), .ref (lm 3), .ref (lm 4), .int 0, .int 0])), ((lm 0), .inr (2, [.int 0, .ref e0, .int 0])), ((lm 1), .inr (2, [.int 0, .ref e0, .int 0])), ((lm 2), .inr (2, [.int 0, .ref e0, .int 0])), ((lm 3), .inr (2, [.int 0, .ref e0, .int 0])), ((lm 4), .inr (2, [.int 0, .ref e0, .int 0]))] t.heap ∧ va_K (dC, dI) vwCl [] t ∧ va_D (va_A [(mo, .inr (15, [.int th, .ref (lm 0), .ref (lm 1), .ref (lm 2), .ref (lm 3), .ref (lm 4), .int 0, .int 0])), ((lm 0), .inr (2, [.int 0, .ref e0, .int 0])), ((lm 1), .inr (2, [.int 0, .ref e0, .int 0])), ((lm 2), .inr (2, [.int 0, .ref e0, .int 0])), ((lm 3), .inr (2, [.int 0, .ref e0, .int 0])), ((lm 4), .inr (2, [.int 0, .ref e0, .int 0]))] sz) [(mo, .inr (15, [.int u, .ref (lm 0), .ref (lm 1), .ref (lm 2), .ref (lm 3), .ref (lm 4), .int 0, .int 0])), ((lm 0), .inr (2, [.int 0, .ref e0, .int 0])), ((lm 1), .inr (2, [.int 0, .ref e0, .int 0])), ((lm 2), .inr (2, [.int 0, .ref e0, .int 0])), ((lm 3), .inr (2, [.int 0, .ref e0, .int 0])), ((lm 4), .inr (2, [.int 0, .ref e0, .int 0]))]) (va_A [(mo, .inr (15, [.int th, .ref (lm 0), .ref (lm 1), .ref (lm 2), .ref (lm 3), .ref (lm 4), .int 0, .int 0])), ((lm 0), .inr (2, [.int 0, .ref e0, .int 0])), ((lm 1), .inr (2, [.int 0, .ref e0, .int 0])), ((lm 2), .inr (2, [.int 0, .ref e0, .int 0])), ((lm 3), .inr (2, [.int 0, .ref e0, .int 0])), ((lm 4), .inr (2, [.int 0, .ref e0, .int 0]))] sz)) 2 8 (va_A [(mo, .inr (15, [.int th, .ref (lm 0), .ref (lm 1), .ref (lm 2), .ref (lm 3), .ref (lm 4), .int 0, .int 0])), ((lm 0), .inr (2, [.int 0, .ref e0, .int 0])), ((lm 1), .inr (2, [.int 0, .ref e0, .int 0])), ((lm 2), .inr (2, [.int 0, .ref e0, .int 0])), ((lm 3), .inr (2, [.int 0, .ref e0, .int 0])), ((lm 4), .inr (2, [.int 0, .ref e0, .int 0]))] sz) := by
  refine Met.ofW (cc := cX12_meanMeasure) (maxL := 4) (ret := (some .double)) (by decide) rfl ?_
  intro p e s m args below meth c s₁ B hml hv
  obtain ⟨rfl, hsz, hP, hK, hD0, hE⟩ := hv
  have hx := B.exec
  have hb := B.bytes
  have hr := B.returns
  have hts := atoms_spec (ws := zwX12_meanMeasure) B.pre
  have hown : s.vm.findClass RX12 = some m.cls := findClass_of_methodNamed B.named
  have hlocks := B.notSynchronized
  subst hsz
  have hD := hD0.self (sz := s.heap.size)
  generalize hAe : va_A [(mo, .inr (15, [.int th, .ref (lm 0), .ref (lm 1), .ref (lm 2), .ref (lm 3), .ref (lm 4), .int 0, .int 0])), ((lm 0), .inr (2, [.int 0, .ref e0, .int 0])), ((lm 1), .inr (2, [.int 0, .ref e0, .int 0])), ((lm 2), .inr (2, [.int 0, .ref e0, .int 0])), ((lm 3), .inr (2, [.int 0, .ref e0, .int 0])), ((lm 4), .inr (2, [.int 0, .ref e0, .int 0]))] s.heap.size = A at hD hE ⊢
  have hA : ∀ q : Nat, s.heap.size ≤ q → A q := fun q h => by rw [← hAe]; exact Or.inr h
  have hS : va_S A s.heap s.heap [] := va_S.rf
  have hP : va_P (dC, dI) vwCl [(mo, .inr (15, [.int th, .ref (lm 0), .ref (lm 1), .ref (lm 2), .ref (lm 3), .ref (lm 4), .int 0, .int 0])), ((lm 0), .inr (2, [.int 0, .ref e0, .int 0])), ((lm 1), .inr (2, [.int 0, .ref e0, .int 0])), ((lm 2), .inr (2, [.int 0, .ref e0, .int 0])), ((lm 3), .inr (2, [.int 0, .ref e0, .int 0])), ((lm 4), .inr (2, [.int 0, .ref e0, .int 0]))] s.heap := hP
  have hl := lv_entry ([.ref mo]) (n := 4) (Nat.le_of_ble_eq_true rfl)
  rw [lg_entry_eq]
  generalize (lg_sl ([.ref mo]) ++ List.replicate (4 - (lg_sl ([.ref mo])).length) Slot.unset).toArray = ls at hl ⊢
  have hl : lv_has ls 4 [(0, .ref mo)] := hl
  refine lv_iconst (v := 0) hx hb dX12_meanMeasure_0 (by decide) ?_
  refine lv_istore_n (lv' := [(1, .int 0), (0, .ref mo)]) hx hb dX12_meanMeasure_1 rfl hl (by decide) rfl (fun ls hl => ?_)
  refine lv_aload_n hx hb dX12_meanMeasure_2 rfl (lv_at hl 1 rfl) ?_
  refine va_get (D := (dC, dI)) (ci := 15) (v := .ref (lm 4)) (C := RX12) (T := TX12) (N := 8) hx hb hts (fun w h => List.mem_cons_of_mem _ (List.mem_append_right _ (List.mem_append_left _ h))) hown hK hP 0 rfl rfl 5 (by decide) (hts (.fieldLink RX12 25 "SpotbeatModel" "bodies" "Ljava/util/List;") (by decide +kernel)) (fun _ h9 => h9) rfl dX12_meanMeasure_3 ?_
  have hPc := hP.sub (ws' := [((lm 4), .inr (2, [.int 0, .ref e0, .int 0]))]) [5] rfl
  have hDc := hD.sub (ws' := [((lm 4), .inr (2, [.int 0, .ref e0, .int 0]))]) [5] (by decide) rfl
  have hKc := hK.sub (tys' := []) [] rfl
  have hFc := va_free (wc := [((lm 4), .inr (2, [.int 0, .ref e0, .int 0]))]) hD hS hA [5] rfl
  refine va_callFr (va_runF (As := []) (rest := []) ((hK.1 2 _ rfl).2) ⟨hx, hb, hml, hown, hts⟩ (c_Jx4a65c_iterator_32c93 l dC dI s.heap.size e0 (lm 4)) (va_cwF 0 hts (goodIn_app (goodIn_of _ (by decide +kernel)) (goodIn_sub ((fun w h => List.mem_cons_of_mem _ (List.mem_append_right _ (List.mem_append_right _ (List.mem_append_left _ h))))) zgJx4a65c_iterator_32c93)) rfl rfl rfl hE.2.2.2.2.2.2.2.2.1 (by decide +kernel) ⟨Nat.le_of_ble_eq_true rfl, Nat.le_of_ble_eq_true rfl⟩) ⟨gPc_blind, va_recv hK hP (ci := 2) (q0 := 5) rfl rfl, gPc_pass hPc hKc hDc⟩ rfl rfl hl.1 rfl (lv_room (Nat.le_of_ble_eq_true rfl)) dX12_meanMeasure_6 ⟨Nat.le_of_ble_eq_true rfl, Nat.le_of_ble_eq_true rfl⟩) hS (fun q _ h => hFc q h) hFc (fun u_2 r_1 t H locs ht hvm hw hB hz hk hS => ?_)
  obtain ⟨hP1, hK1, hD1⟩ := hB
  rw [ht] at hP1
  obtain ⟨hP, hD⟩ := va_join (wr := [(mo, .inr (15, [.int th, .ref (lm 0), .ref (lm 1), .ref (lm 2), .ref (lm 3), .ref (lm 4), .int 0, .int 0])), ((lm 0), .inr (2, [.int 0, .ref e0, .int 0])), ((lm 1), .inr (2, [.int 0, .ref e0, .int 0])), ((lm 2), .inr (2, [.int 0, .ref e0, .int 0])), ((lm 3), .inr (2, [.int 0, .ref e0, .int 0]))]) (w1 := [(r_1, .inr (1, [.int 0, .int (-1), .int 0, .ref (lm 4)])), ((lm 4), .inr (2, [.int 0, .ref e0, .int 0]))]) hP hD [5] [0, 1, 2, 3, 4] rfl rfl (by decide) (by decide) hk hFc hP1 hD1
  have hP : va_P (dC, dI) vwCl [(mo, .inr (15, [.int th, .ref (lm 0), .ref (lm 1), .ref (lm 2), .ref (lm 3), .ref (lm 4), .int 0, .int 0])), ((lm 0), .inr (2, [.int 0, .ref e0, .int 0])), ((lm 1), .inr (2, [.int 0, .ref e0, .int 0])), ((lm 2), .inr (2, [.int 0, .ref e0, .int 0])), ((lm 3), .inr (2, [.int 0, .ref e0, .int 0])), (r_1, .inr (1, [.int 0, .int (-1), .int 0, .ref (lm 4)])), ((lm 4), .inr (2, [.int 0, .ref e0, .int 0]))] H := hP
  have hD : va_D A [(mo, .inr (15, [.int th, .ref (lm 0), .ref (lm 1), .ref (lm 2), .ref (lm 3), .ref (lm 4), .int 0, .int 0])), ((lm 0), .inr (2, [.int 0, .ref e0, .int 0])), ((lm 1), .inr (2, [.int 0, .ref e0, .int 0])), ((lm 2), .inr (2, [.int 0, .ref e0, .int 0])), ((lm 3), .inr (2, [.int 0, .ref e0, .int 0])), (r_1, .inr (1, [.int 0, .int (-1), .int 0, .ref (lm 4)])), ((lm 4), .inr (2, [.int 0, .ref e0, .int 0]))] := hD
  have hw : True := hw
  refine lv_astore_n (lv' := [(2, .ref r_1), (1, .int 0), (0, .ref mo)]) hx hb dX12_meanMeasure_11 rfl hl (by decide) rfl (fun ls hl => ?_)
  refine lv_aload_n hx hb dX12_meanMeasure_12 rfl (lv_at hl 0 rfl) ?_
  have hPc := hP.sub (ws' := [(r_1, .inr (1, [.int 0, .int (-1), .int 0, .ref (lm 4)])), ((lm 4), .inr (2, [.int 0, .ref e0, .int 0]))]) [5, 6] rfl
  have hDc := hD.sub (ws' := [(r_1, .inr (1, [.int 0, .int (-1), .int 0, .ref (lm 4)])), ((lm 4), .inr (2, [.int 0, .ref e0, .int 0]))]) [5, 6] (by decide) rfl
  have hKc := hK.sub (tys' := []) [] rfl
  have hFc := va_free (wc := [(r_1, .inr (1, [.int 0, .int (-1), .int 0, .ref (lm 4)])), ((lm 4), .inr (2, [.int 0, .ref e0, .int 0]))]) hD hS hA [5, 6] rfl
  refine va_callFi (va_runF (As := []) (rest := []) ((hK.1 1 _ rfl).2) ⟨hx, hb, hml, hown, hts⟩ (c_Jx35411_hasNext_aae02 l dC dI H.size e0 r_1 (lm 4)) (va_cwF 0 hts (goodIn_app (goodIn_of _ (by decide +kernel)) (goodIn_sub ((fun w h => List.mem_cons_of_mem _ (List.mem_append_right _ (List.mem_append_right _ (List.mem_append_right _ (List.mem_append_left _ h)))))) zgJx35411_hasNext_aae02)) rfl rfl rfl hE.2.2.2.2.2.2.2.2.2.2.1 (by decide +kernel) ⟨Nat.le_of_ble_eq_true rfl, Nat.le_of_ble_eq_true rfl⟩) ⟨gPcE_blind, va_recv hK hP (ci := 1) (q0 := 5) rfl rfl, gPcE_pass hPc hKc hDc hE hS hFc⟩ rfl rfl hl.1 rfl (lv_room (Nat.le_of_ble_eq_true rfl)) dX12_meanMeasure_13 ⟨Nat.le_of_ble_eq_true rfl, Nat.le_of_ble_eq_true rfl⟩) hS (fun q _ h => hFc q h) hFc (fun r_3 u_4 t H locs ht hvm hw hB hz hk hS => ?_)
  obtain ⟨hP1, hK1, hD1⟩ := hB
  rw [ht] at hP1
  obtain ⟨hP, hD⟩ := va_join (wr := [(mo, .inr (15, [.int th, .ref (lm 0), .ref (lm 1), .ref (lm 2), .ref (lm 3), .ref (lm 4), .int 0, .int 0])), ((lm 0), .inr (2, [.int 0, .ref e0, .int 0])), ((lm 1), .inr (2, [.int 0, .ref e0, .int 0])), ((lm 2), .inr (2, [.int 0, .ref e0, .int 0])), ((lm 3), .inr (2, [.int 0, .ref e0, .int 0]))]) (w1 := [(r_1, .inr (1, [.int 0, .int (-1), .int 0, .ref (lm 4)])), ((lm 4), .inr (2, [.int 0, .ref e0, .int 0]))]) hP hD [5, 6] [0, 1, 2, 3, 4] rfl rfl (by decide) (by decide) hk hFc hP1 hD1
  have hP : va_P (dC, dI) vwCl [(mo, .inr (15, [.int th, .ref (lm 0), .ref (lm 1), .ref (lm 2), .ref (lm 3), .ref (lm 4), .int 0, .int 0])), ((lm 0), .inr (2, [.int 0, .ref e0, .int 0])), ((lm 1), .inr (2, [.int 0, .ref e0, .int 0])), ((lm 2), .inr (2, [.int 0, .ref e0, .int 0])), ((lm 3), .inr (2, [.int 0, .ref e0, .int 0])), (r_1, .inr (1, [.int 0, .int (-1), .int 0, .ref (lm 4)])), ((lm 4), .inr (2, [.int 0, .ref e0, .int 0]))] H := hP
  have hD : va_D A [(mo, .inr (15, [.int th, .ref (lm 0), .ref (lm 1), .ref (lm 2), .ref (lm 3), .ref (lm 4), .int 0, .int 0])), ((lm 0), .inr (2, [.int 0, .ref e0, .int 0])), ((lm 1), .inr (2, [.int 0, .ref e0, .int 0])), ((lm 2), .inr (2, [.int 0, .ref e0, .int 0])), ((lm 3), .inr (2, [.int 0, .ref e0, .int 0])), (r_1, .inr (1, [.int 0, .int (-1), .int 0, .ref (lm 4)])), ((lm 4), .inr (2, [.int 0, .ref e0, .int 0]))] := hD
  have hw : r_3 = 0 := hw
  subst hw
  refine lv_if_eq (tgt := 54) hx hb dX12_meanMeasure_18 (by decide) (fun _ => ?_) (fun c_5 => absurd c_5 (by decide))
  refine lv_aload_n hx hb dX12_meanMeasure_54 rfl (lv_at hl 2 rfl) ?_
  refine lv_aload_n hx hb dX12_meanMeasure_55 rfl (lv_at hl 2 rfl) ?_
  have hPc := hP.sub (ws' := [(mo, .inr (15, [.int th, .ref (lm 0), .ref (lm 1), .ref (lm 2), .ref (lm 3), .ref (lm 4), .int 0, .int 0])), ((lm 0), .inr (2, [.int 0, .ref e0, .int 0])), ((lm 1), .inr (2, [.int 0, .ref e0, .int 0])), ((lm 2), .inr (2, [.int 0, .ref e0, .int 0])), ((lm 3), .inr (2, [.int 0, .ref e0, .int 0])), ((lm 4), .inr (2, [.int 0, .ref e0, .int 0]))]) [0, 1, 2, 3, 4, 6] rfl
  have hDc := hD.sub (ws' := [(mo, .inr (15, [.int th, .ref (lm 0), .ref (lm 1), .ref (lm 2), .ref (lm 3), .ref (lm 4), .int 0, .int 0])), ((lm 0), .inr (2, [.int 0, .ref e0, .int 0])), ((lm 1), .inr (2, [.int 0, .ref e0, .int 0])), ((lm 2), .inr (2, [.int 0, .ref e0, .int 0])), ((lm 3), .inr (2, [.int 0, .ref e0, .int 0])), ((lm 4), .inr (2, [.int 0, .ref e0, .int 0]))]) [0, 1, 2, 3, 4, 6] (by decide) rfl
  have hKc := hK.sub (tys' := []) [] rfl
  have hFc := va_free (wc := [(mo, .inr (15, [.int th, .ref (lm 0), .ref (lm 1), .ref (lm 2), .ref (lm 3), .ref (lm 4), .int 0, .int 0])), ((lm 0), .inr (2, [.int 0, .ref e0, .int 0])), ((lm 1), .inr (2, [.int 0, .ref e0, .int 0])), ((lm 2), .inr (2, [.int 0, .ref e0, .int 0])), ((lm 3), .inr (2, [.int 0, .ref e0, .int 0])), ((lm 4), .inr (2, [.int 0, .ref e0, .int 0]))]) hD hS hA [0, 1, 2, 3, 4, 6] rfl
  refine va_calli (va_runV (As := []) (rest := [.ref mo]) ⟨hx, hb, hml, hown, hts⟩ (c_X12_off l dC dI H.size mo lm e0 th) (cwV 0 hts (goodIn_app (goodIn_of _ (by decide +kernel)) (goodIn_sub ((fun w h => List.mem_cons_of_mem _ (List.mem_append_right _ (List.mem_append_right _ (List.mem_append_right _ (List.mem_append_right _ (List.mem_append_left _ h))))))) zgX12_off)) rfl rfl rfl (by decide +kernel) ⟨Nat.le_of_ble_eq_true rfl, Nat.le_of_ble_eq_true rfl⟩) ⟨gPcE_blind, va_recv hK hP (ci := 15) (q0 := 0) rfl rfl, gPcE_pass hPc hKc hDc hE hS hFc⟩ rfl rfl hl.1 rfl (lv_room (Nat.le_of_ble_eq_true rfl)) dX12_meanMeasure_56 ⟨Nat.le_of_ble_eq_true rfl, Nat.le_of_ble_eq_true rfl⟩) hS (fun q _ h => hFc q h) hFc (fun r_6 u_7 t H locs ht hvm hw hB hz hk hS => ?_)
  obtain ⟨hP1, hK1, hD1⟩ := hB
  rw [ht] at hP1
  obtain ⟨hP, hD⟩ := va_join (wr := [(r_1, .inr (1, [.int 0, .int (-1), .int 0, .ref (lm 4)]))]) (w1 := [(mo, .inr (15, [.int u_7, .ref (lm 0), .ref (lm 1), .ref (lm 2), .ref (lm 3), .ref (lm 4), .int 0, .int 0])), ((lm 0), .inr (2, [.int 0, .ref e0, .int 0])), ((lm 1), .inr (2, [.int 0, .ref e0, .int 0])), ((lm 2), .inr (2, [.int 0, .ref e0, .int 0])), ((lm 3), .inr (2, [.int 0, .ref e0, .int 0])), ((lm 4), .inr (2, [.int 0, .ref e0, .int 0]))]) hP hD [0, 1, 2, 3, 4, 6] [5] rfl rfl (by decide) (by decide) hk hFc hP1 hD1
  have hP : va_P (dC, dI) vwCl [(r_1, .inr (1, [.int 0, .int (-1), .int 0, .ref (lm 4)])), (mo, .inr (15, [.int u_7, .ref (lm 0), .ref (lm 1), .ref (lm 2), .ref (lm 3), .ref (lm 4), .int 0, .int 0])), ((lm 0), .inr (2, [.int 0, .ref e0, .int 0])), ((lm 1), .inr (2, [.int 0, .ref e0, .int 0])), ((lm 2), .inr (2, [.int 0, .ref e0, .int 0])), ((lm 3), .inr (2, [.int 0, .ref e0, .int 0])), ((lm 4), .inr (2, [.int 0, .ref e0, .int 0]))] H := hP
  have hD : va_D A [(r_1, .inr (1, [.int 0, .int (-1), .int 0, .ref (lm 4)])), (mo, .inr (15, [.int u_7, .ref (lm 0), .ref (lm 1), .ref (lm 2), .ref (lm 3), .ref (lm 4), .int 0, .int 0])), ((lm 0), .inr (2, [.int 0, .ref e0, .int 0])), ((lm 1), .inr (2, [.int 0, .ref e0, .int 0])), ((lm 2), .inr (2, [.int 0, .ref e0, .int 0])), ((lm 3), .inr (2, [.int 0, .ref e0, .int 0])), ((lm 4), .inr (2, [.int 0, .ref e0, .int 0]))] := hD
  have hw : r_6 = 0 ∧ u_7 = th := hw
  obtain ⟨rfl, hu⟩ : r_6 = 0 ∧ u_7 = th := hw
  have hu := hu.symm
  subst hu
  refine lv_if_ne (tgt := 66) hx hb dX12_meanMeasure_59 (by decide) (fun c_8 => absurd c_8 (by decide)) (fun _ => ?_)
  refine lv_iconst (v := 1) hx hb dX12_meanMeasure_62 (by decide) ?_
  refine lv_goto (tgt := 67) hx hb dX12_meanMeasure_63 (by decide) ?_
  have hPc := hP.sub (ws' := [(mo, .inr (15, [.int th, .ref (lm 0), .ref (lm 1), .ref (lm 2), .ref (lm 3), .ref (lm 4), .int 0, .int 0])), ((lm 0), .inr (2, [.int 0, .ref e0, .int 0])), ((lm 1), .inr (2, [.int 0, .ref e0, .int 0])), ((lm 2), .inr (2, [.int 0, .ref e0, .int 0])), ((lm 3), .inr (2, [.int 0, .ref e0, .int 0])), ((lm 4), .inr (2, [.int 0, .ref e0, .int 0]))]) [1, 2, 3, 4, 5, 6] rfl
  have hDc := hD.sub (ws' := [(mo, .inr (15, [.int th, .ref (lm 0), .ref (lm 1), .ref (lm 2), .ref (lm 3), .ref (lm 4), .int 0, .int 0])), ((lm 0), .inr (2, [.int 0, .ref e0, .int 0])), ((lm 1), .inr (2, [.int 0, .ref e0, .int 0])), ((lm 2), .inr (2, [.int 0, .ref e0, .int 0])), ((lm 3), .inr (2, [.int 0, .ref e0, .int 0])), ((lm 4), .inr (2, [.int 0, .ref e0, .int 0]))]) [1, 2, 3, 4, 5, 6] (by decide) rfl
  have hKc := hK.sub (tys' := []) [] rfl
  have hFc := va_free (wc := [(mo, .inr (15, [.int th, .ref (lm 0), .ref (lm 1), .ref (lm 2), .ref (lm 3), .ref (lm 4), .int 0, .int 0])), ((lm 0), .inr (2, [.int 0, .ref e0, .int 0])), ((lm 1), .inr (2, [.int 0, .ref e0, .int 0])), ((lm 2), .inr (2, [.int 0, .ref e0, .int 0])), ((lm 3), .inr (2, [.int 0, .ref e0, .int 0])), ((lm 4), .inr (2, [.int 0, .ref e0, .int 0]))]) hD hS hA [1, 2, 3, 4, 5, 6] rfl
  refine va_calli (va_runV (As := [.int 1]) (rest := []) ⟨hx, hb, hml, hown, hts⟩ (c_X12_isWrong_1 l dC dI H.size mo lm e0 th) (cwV 1 hts (goodIn_app (goodIn_of _ (by decide +kernel)) (goodIn_sub ((fun w h => List.mem_cons_of_mem _ (List.mem_append_right _ (List.mem_append_right _ (List.mem_append_right _ (List.mem_append_right _ (List.mem_append_right _ (h)))))))) zgX12_isWrong_1)) rfl rfl rfl (by decide +kernel) ⟨Nat.le_of_ble_eq_true rfl, Nat.le_of_ble_eq_true rfl⟩) ⟨gPcE_blind, va_recv hK hP (ci := 15) (q0 := 1) rfl rfl, gPcE_pass hPc hKc hDc hE hS hFc⟩ rfl rfl hl.1 rfl (lv_room (Nat.le_of_ble_eq_true rfl)) dX12_meanMeasure_67 ⟨Nat.le_of_ble_eq_true rfl, Nat.le_of_ble_eq_true rfl⟩) hS (fun q _ h => hFc q h) hFc (fun r_9 u_10 t H locs ht hvm hw hB hz hk hS => ?_)
  obtain ⟨hP1, hK1, hD1⟩ := hB
  rw [ht] at hP1
  obtain ⟨hP, hD⟩ := va_join (wr := [(r_1, .inr (1, [.int 0, .int (-1), .int 0, .ref (lm 4)]))]) (w1 := [(mo, .inr (15, [.int u_10, .ref (lm 0), .ref (lm 1), .ref (lm 2), .ref (lm 3), .ref (lm 4), .int 0, .int 0])), ((lm 0), .inr (2, [.int 0, .ref e0, .int 0])), ((lm 1), .inr (2, [.int 0, .ref e0, .int 0])), ((lm 2), .inr (2, [.int 0, .ref e0, .int 0])), ((lm 3), .inr (2, [.int 0, .ref e0, .int 0])), ((lm 4), .inr (2, [.int 0, .ref e0, .int 0]))]) hP hD [1, 2, 3, 4, 5, 6] [0] rfl rfl (by decide) (by decide) hk hFc hP1 hD1
  have hP : va_P (dC, dI) vwCl [(r_1, .inr (1, [.int 0, .int (-1), .int 0, .ref (lm 4)])), (mo, .inr (15, [.int u_10, .ref (lm 0), .ref (lm 1), .ref (lm 2), .ref (lm 3), .ref (lm 4), .int 0, .int 0])), ((lm 0), .inr (2, [.int 0, .ref e0, .int 0])), ((lm 1), .inr (2, [.int 0, .ref e0, .int 0])), ((lm 2), .inr (2, [.int 0, .ref e0, .int 0])), ((lm 3), .inr (2, [.int 0, .ref e0, .int 0])), ((lm 4), .inr (2, [.int 0, .ref e0, .int 0]))] H := hP
  have hD : va_D A [(r_1, .inr (1, [.int 0, .int (-1), .int 0, .ref (lm 4)])), (mo, .inr (15, [.int u_10, .ref (lm 0), .ref (lm 1), .ref (lm 2), .ref (lm 3), .ref (lm 4), .int 0, .int 0])), ((lm 0), .inr (2, [.int 0, .ref e0, .int 0])), ((lm 1), .inr (2, [.int 0, .ref e0, .int 0])), ((lm 2), .inr (2, [.int 0, .ref e0, .int 0])), ((lm 3), .inr (2, [.int 0, .ref e0, .int 0])), ((lm 4), .inr (2, [.int 0, .ref e0, .int 0]))] := hD
  have hw : r_9 = 1 ∧ u_10 = 1 := hw
  obtain ⟨rfl, rfl⟩ : r_9 = 1 ∧ u_10 = 1 := hw
  refine lv_if_eq (tgt := 77) hx hb dX12_meanMeasure_70 (by decide) (fun c_11 => absurd c_11 (by decide)) (fun _ => ?_)
  refine lv_dconst0 hx hb dX12_meanMeasure_73 ?_
  refine lv_goto (tgt := 85) hx hb dX12_meanMeasure_74 (by decide) ?_
  have hP9 := hP.sub (ws' := [(mo, .inr (15, [.int 1, .ref (lm 0), .ref (lm 1), .ref (lm 2), .ref (lm 3), .ref (lm 4), .int 0, .int 0])), ((lm 0), .inr (2, [.int 0, .ref e0, .int 0])), ((lm 1), .inr (2, [.int 0, .ref e0, .int 0])), ((lm 2), .inr (2, [.int 0, .ref e0, .int 0])), ((lm 3), .inr (2, [.int 0, .ref e0, .int 0])), ((lm 4), .inr (2, [.int 0, .ref e0, .int 0]))]) [1, 2, 3, 4, 5, 6] rfl
  have hD9 := hD.sub (ws' := [(mo, .inr (15, [.int 1, .ref (lm 0), .ref (lm 1), .ref (lm 2), .ref (lm 3), .ref (lm 4), .int 0, .int 0])), ((lm 0), .inr (2, [.int 0, .ref e0, .int 0])), ((lm 1), .inr (2, [.int 0, .ref e0, .int 0])), ((lm 2), .inr (2, [.int 0, .ref e0, .int 0])), ((lm 3), .inr (2, [.int 0, .ref e0, .int 0])), ((lm 4), .inr (2, [.int 0, .ref e0, .int 0]))]) [1, 2, 3, 4, 5, 6] (by decide) rfl
  have hK9 := hK.sub (tys' := []) [] rfl
  refine W.widen (k := 2) (n := 8) (Nat.le_of_ble_eq_true rfl) (Nat.le_of_ble_eq_true rfl) ?_
  exact W.dret (v := 0) hx hb hr (fun t ht hW => ⟨⟨0, 1, rfl, rfl, by rw [ht]; exact hP9, va_K.moved hW.alike hK9, hD9⟩, hS.F ht⟩) hS.2.2 dX12_meanMeasure_85 hlocks

def zwX12_swept : List Cond := .code yX12_swept cX12_swept 3 (some .int) :: (([.methodLink RX12 64 yX12_isPlace, .static yX12_isPlace, .initialized RX12, .methodLink RX12 50 yX12_isWrong, .instanceMethod yX12_isWrong, .selects RX12 yX12_isWrong yX12_isWrong, .methodLink RX12 122 Lib.Math.abs.name, .static Lib.Math.abs.name, .initialized "java/lang/Math", .code Lib.Math.abs.name Lib.Math.abs.code 1 (some .int)] : List Cond) ++ (zwX12_isPlace ++ (zwX12_isWrong_0 ++ (zwX12_isWrong_1))))
theorem zgX12_swept : zwX12_swept.all goodWord = true := zgo rfl (zga (by decide +kernel) (zga zgX12_isPlace (zga zgX12_isWrong_0 (zgX12_isWrong_1))))
set_option maxHeartbeats 4000000 in
set_option maxRecDepth 100000 in
theorem c_X12_swept (l : Launch) (dC : Nat → ClassId) (dI : Nat → Nat → Nat) (sz : Nat) (mo : Nat) (lm : Nat → Nat) (e0 : Nat) (th : Int32) (a : Int32) (b : Int32) : Met l yX12_swept zwX12_swept ({ frames := 2, cells := 0, slots := 0, locals := 42 }) (gPcE dC dI sz [(mo, .inr (15, [.int th, .ref (lm 0), .ref (lm 1), .ref (lm 2), .ref (lm 3), .ref (lm 4), .int 0, .int 0])), ((lm 0), .inr (2, [.int 0, .ref e0, .int 0])), ((lm 1), .inr (2, [.int 0, .ref e0, .int 0])), ((lm 2), .inr (2, [.int 0, .ref e0, .int 0])), ((lm 3), .inr (2, [.int 0, .ref e0, .int 0])), ((lm 4), .inr (2, [.int 0, .ref e0, .int 0]))] [] [.ref mo, .int a, .int b]) (va_Qi (fun (r : Int32) (u : Int32) => (u = 0 ∧ r = zSm a b ∧ zPm a ∧ zPm b) ∨ (u = 1 ∧ ¬ (zPm a ∧ zPm b))) (fun u t => va_P (dC, dI) vwCl [(mo, .inr (15, [.int u, .ref (lm 0), .ref (lm 1), .ref (lm 2), .ref (lm 3), .ref (lm 4), .int 0, .int 0])), ((lm 0), .inr (2, [.int 0, .ref e0, .int 0])), ((lm 1), .inr (2, [.int 0, .ref e0, .int 0])), ((lm 2), .inr (2, [.int 0, .ref e0, .int 0])), ((lm 3), .inr (2, [.int 0, .ref e0, .int 0])), ((lm 4), .inr (2, [.int 0, .ref e0, .int 0]))] t.heap ∧ va_K (dC, dI) vwCl [] t ∧ va_D (va_A [(mo, .inr (15, [.int th, .ref (lm 0), .ref (lm 1), .ref (lm 2), .ref (lm 3), .ref (lm 4), .int 0, .int 0])), ((lm 0), .inr (2, [.int 0, .ref e0, .int 0])), ((lm 1), .inr (2, [.int 0, .ref e0, .int 0])), ((lm 2), .inr (2, [.int 0, .ref e0, .int 0])), ((lm 3), .inr (2, [.int 0, .ref e0, .int 0])), ((lm 4), .inr (2, [.int 0, .ref e0, .int 0]))] sz) [(mo, .inr (15, [.int u, .ref (lm 0), .ref (lm 1), .ref (lm 2), .ref (lm 3), .ref (lm 4), .int 0, .int 0])), ((lm 0), .inr (2, [.int 0, .ref e0, .int 0])), ((lm 1), .inr (2, [.int 0, .ref e0, .int 0])), ((lm 2), .inr (2, [.int 0, .ref e0, .int 0])), ((lm 3), .inr (2, [.int 0, .ref e0, .int 0])), ((lm 4), .inr (2, [.int 0, .ref e0, .int 0]))]) (va_A [(mo, .inr (15, [.int th, .ref (lm 0), .ref (lm 1), .ref (lm 2), .ref (lm 3), .ref (lm 4), .int 0, .int 0])), ((lm 0), .inr (2, [.int 0, .ref e0, .int 0])), ((lm 1), .inr (2, [.int 0, .ref e0, .int 0])), ((lm 2), .inr (2, [.int 0, .ref e0, .int 0])), ((lm 3), .inr (2, [.int 0, .ref e0, .int 0])), ((lm 4), .inr (2, [.int 0, .ref e0, .int 0]))] sz)) 0 0 (va_A [(mo, .inr (15, [.int th, .ref (lm 0), .ref (lm 1), .ref (lm 2), .ref (lm 3), .ref (lm 4), .int 0, .int 0])), ((lm 0), .inr (2, [.int 0, .ref e0, .int 0])), ((lm 1), .inr (2, [.int 0, .ref e0, .int 0])), ((lm 2), .inr (2, [.int 0, .ref e0, .int 0])), ((lm 3), .inr (2, [.int 0, .ref e0, .int 0])), ((lm 4), .inr (2, [.int 0, .ref e0, .int 0]))] sz) := by
  refine Met.ofW (cc := cX12_swept) (maxL := 3) (ret := (some .int)) (by decide) rfl ?_
  intro p e s m args below meth c s₁ B hml hv
  obtain ⟨rfl, hsz, hP, hK, hD0, hE⟩ := hv
  have hx := B.exec
  have hb := B.bytes
  have hr := B.returns
  have hts := atoms_spec (ws := zwX12_swept) B.pre
  have hown : s.vm.findClass RX12 = some m.cls := findClass_of_methodNamed B.named
  have hlocks := B.notSynchronized
  subst hsz
  have hD := hD0.self (sz := s.heap.size)
  generalize hAe : va_A [(mo, .inr (15, [.int th, .ref (lm 0), .ref (lm 1), .ref (lm 2), .ref (lm 3), .ref (lm 4), .int 0, .int 0])), ((lm 0), .inr (2, [.int 0, .ref e0, .int 0])), ((lm 1), .inr (2, [.int 0, .ref e0, .int 0])), ((lm 2), .inr (2, [.int 0, .ref e0, .int 0])), ((lm 3), .inr (2, [.int 0, .ref e0, .int 0])), ((lm 4), .inr (2, [.int 0, .ref e0, .int 0]))] s.heap.size = A at hD hE ⊢
  have hA : ∀ q : Nat, s.heap.size ≤ q → A q := fun q h => by rw [← hAe]; exact Or.inr h
  have hS : va_S A s.heap s.heap [] := va_S.rf
  have hP : va_P (dC, dI) vwCl [(mo, .inr (15, [.int th, .ref (lm 0), .ref (lm 1), .ref (lm 2), .ref (lm 3), .ref (lm 4), .int 0, .int 0])), ((lm 0), .inr (2, [.int 0, .ref e0, .int 0])), ((lm 1), .inr (2, [.int 0, .ref e0, .int 0])), ((lm 2), .inr (2, [.int 0, .ref e0, .int 0])), ((lm 3), .inr (2, [.int 0, .ref e0, .int 0])), ((lm 4), .inr (2, [.int 0, .ref e0, .int 0]))] s.heap := hP
  have hl := lv_entry ([.ref mo, .int a, .int b]) (n := 3) (Nat.le_of_ble_eq_true rfl)
  rw [lg_entry_eq]
  generalize (lg_sl ([.ref mo, .int a, .int b]) ++ List.replicate (3 - (lg_sl ([.ref mo, .int a, .int b])).length) Slot.unset).toArray = ls at hl ⊢
  have hl : lv_has ls 3 [(0, .ref mo), (1, .int a), (2, .int b)] := hl
  refine lv_aload_n hx hb dX12_swept_0 rfl (lv_at hl 0 rfl) ?_
  refine lv_iload_n hx hb dX12_swept_1 rfl (lv_at hl 1 rfl) ?_
  refine va_calli (va_runS (As := [.int a]) (rest := [.ref mo]) ⟨hx, hb, hml, hown, hts⟩ (c_X12_isPlace l dC dI s.heap.size a) (va_cwS 1 hts (goodIn_app (goodIn_of _ (by decide +kernel)) (goodIn_sub ((fun w h => List.mem_cons_of_mem _ (List.mem_append_right _ (List.mem_append_left _ h)))) zgX12_isPlace)) rfl rfl rfl (by decide +kernel) ⟨Nat.le_of_ble_eq_true rfl, Nat.le_of_ble_eq_true rfl⟩) ⟨nPc_blind, nPc_pass⟩ rfl rfl hl.1 rfl (lv_room (Nat.le_of_ble_eq_true rfl)) dX12_swept_2 ⟨Nat.le_of_ble_eq_true rfl, Nat.le_of_ble_eq_true rfl⟩) hS (fun q _ h => hA q (Nat.le_trans hS.1 h)) (fun q h => hA q (Nat.le_trans hS.1 h)) (fun r_1 u_2 t H locs ht hvm hw hB hz hk hS => ?_)
  have hP := zkn hP hk
  rcases (show (r_1 = 1 ∧ zPm a) ∨ (r_1 = 0 ∧ ¬ zPm a) from hw) with ⟨rfl, h_3⟩ | ⟨rfl, h_3⟩
  · refine lv_if_eq (tgt := 19) hx hb dX12_swept_5 (by decide) (fun c_4 => absurd c_4 (by decide)) (fun _ => ?_)
    refine lv_iload_n hx hb dX12_swept_8 rfl (lv_at hl 2 rfl) ?_
    refine va_calli (va_runS (As := [.int b]) (rest := [.ref mo]) ⟨hx, hb, hml, hown, hts⟩ (c_X12_isPlace l dC dI H.size b) (va_cwS 1 hts (goodIn_app (goodIn_of _ (by decide +kernel)) (goodIn_sub ((fun w h => List.mem_cons_of_mem _ (List.mem_append_right _ (List.mem_append_left _ h)))) zgX12_isPlace)) rfl rfl rfl (by decide +kernel) ⟨Nat.le_of_ble_eq_true rfl, Nat.le_of_ble_eq_true rfl⟩) ⟨nPc_blind, nPc_pass⟩ rfl rfl hl.1 rfl (lv_room (Nat.le_of_ble_eq_true rfl)) dX12_swept_9 ⟨Nat.le_of_ble_eq_true rfl, Nat.le_of_ble_eq_true rfl⟩) hS (fun q _ h => hA q (Nat.le_trans hS.1 h)) (fun q h => hA q (Nat.le_trans hS.1 h)) (fun r_5 u_6 t H locs ht hvm hw hB hz hk hS => ?_)
    have hP := zkn hP hk
    rcases (show (r_5 = 1 ∧ zPm b) ∨ (r_5 = 0 ∧ ¬ zPm b) from hw) with ⟨rfl, h_7⟩ | ⟨rfl, h_7⟩
    · refine lv_if_eq (tgt := 19) hx hb dX12_swept_12 (by decide) (fun c_8 => absurd c_8 (by decide)) (fun _ => ?_)
      refine lv_iconst (v := 0) hx hb dX12_swept_15 (by decide) ?_
      refine lv_goto (tgt := 20) hx hb dX12_swept_16 (by decide) ?_
      have hPc := hP.sub (ws' := [(mo, .inr (15, [.int th, .ref (lm 0), .ref (lm 1), .ref (lm 2), .ref (lm 3), .ref (lm 4), .int 0, .int 0])), ((lm 0), .inr (2, [.int 0, .ref e0, .int 0])), ((lm 1), .inr (2, [.int 0, .ref e0, .int 0])), ((lm 2), .inr (2, [.int 0, .ref e0, .int 0])), ((lm 3), .inr (2, [.int 0, .ref e0, .int 0])), ((lm 4), .inr (2, [.int 0, .ref e0, .int 0]))]) [0, 1, 2, 3, 4, 5] rfl
      have hDc := hD.sub (ws' := [(mo, .inr (15, [.int th, .ref (lm 0), .ref (lm 1), .ref (lm 2), .ref (lm 3), .ref (lm 4), .int 0, .int 0])), ((lm 0), .inr (2, [.int 0, .ref e0, .int 0])), ((lm 1), .inr (2, [.int 0, .ref e0, .int 0])), ((lm 2), .inr (2, [.int 0, .ref e0, .int 0])), ((lm 3), .inr (2, [.int 0, .ref e0, .int 0])), ((lm 4), .inr (2, [.int 0, .ref e0, .int 0]))]) [0, 1, 2, 3, 4, 5] (by decide) rfl
      have hKc := hK.sub (tys' := []) [] rfl
      have hFc := va_free (wc := [(mo, .inr (15, [.int th, .ref (lm 0), .ref (lm 1), .ref (lm 2), .ref (lm 3), .ref (lm 4), .int 0, .int 0])), ((lm 0), .inr (2, [.int 0, .ref e0, .int 0])), ((lm 1), .inr (2, [.int 0, .ref e0, .int 0])), ((lm 2), .inr (2, [.int 0, .ref e0, .int 0])), ((lm 3), .inr (2, [.int 0, .ref e0, .int 0])), ((lm 4), .inr (2, [.int 0, .ref e0, .int 0]))]) hD hS hA [0, 1, 2, 3, 4, 5] rfl
      refine va_calli (va_runV (As := [.int 0]) (rest := []) ⟨hx, hb, hml, hown, hts⟩ (c_X12_isWrong_0 l dC dI H.size mo lm e0 th) (cwV 1 hts (goodIn_app (goodIn_of _ (by decide +kernel)) (goodIn_sub ((fun w h => List.mem_cons_of_mem _ (List.mem_append_right _ (List.mem_append_right _ (List.mem_append_left _ h))))) zgX12_isWrong_0)) rfl rfl rfl (by decide +kernel) ⟨Nat.le_of_ble_eq_true rfl, Nat.le_of_ble_eq_true rfl⟩) ⟨gPcE_blind, va_recv hK hP (ci := 15) (q0 := 0) rfl rfl, gPcE_pass hPc hKc hDc hE hS hFc⟩ rfl rfl hl.1 rfl (lv_room (Nat.le_of_ble_eq_true rfl)) dX12_swept_20 ⟨Nat.le_of_ble_eq_true rfl, Nat.le_of_ble_eq_true rfl⟩) hS (fun q _ h => hFc q h) hFc (fun r_9 u_10 t H locs ht hvm hw hB hz hk hS => ?_)
      obtain ⟨hP1, hK1, hD1⟩ := hB
      rw [ht] at hP1
      obtain ⟨hP, hD⟩ := va_join (wr := []) (w1 := [(mo, .inr (15, [.int u_10, .ref (lm 0), .ref (lm 1), .ref (lm 2), .ref (lm 3), .ref (lm 4), .int 0, .int 0])), ((lm 0), .inr (2, [.int 0, .ref e0, .int 0])), ((lm 1), .inr (2, [.int 0, .ref e0, .int 0])), ((lm 2), .inr (2, [.int 0, .ref e0, .int 0])), ((lm 3), .inr (2, [.int 0, .ref e0, .int 0])), ((lm 4), .inr (2, [.int 0, .ref e0, .int 0]))]) hP hD [0, 1, 2, 3, 4, 5] [] rfl rfl (by decide) (by decide) hk hFc hP1 hD1
      have hP : va_P (dC, dI) vwCl [(mo, .inr (15, [.int u_10, .ref (lm 0), .ref (lm 1), .ref (lm 2), .ref (lm 3), .ref (lm 4), .int 0, .int 0])), ((lm 0), .inr (2, [.int 0, .ref e0, .int 0])), ((lm 1), .inr (2, [.int 0, .ref e0, .int 0])), ((lm 2), .inr (2, [.int 0, .ref e0, .int 0])), ((lm 3), .inr (2, [.int 0, .ref e0, .int 0])), ((lm 4), .inr (2, [.int 0, .ref e0, .int 0]))] H := hP
      have hD : va_D A [(mo, .inr (15, [.int u_10, .ref (lm 0), .ref (lm 1), .ref (lm 2), .ref (lm 3), .ref (lm 4), .int 0, .int 0])), ((lm 0), .inr (2, [.int 0, .ref e0, .int 0])), ((lm 1), .inr (2, [.int 0, .ref e0, .int 0])), ((lm 2), .inr (2, [.int 0, .ref e0, .int 0])), ((lm 3), .inr (2, [.int 0, .ref e0, .int 0])), ((lm 4), .inr (2, [.int 0, .ref e0, .int 0]))] := hD
      have hw : r_9 = 0 ∧ u_10 = 0 := hw
      obtain ⟨rfl, rfl⟩ : r_9 = 0 ∧ u_10 = 0 := hw
      refine lv_if_eq (tgt := 28) hx hb dX12_swept_23 (by decide) (fun _ => ?_) (fun c_11 => absurd c_11 (by decide))
      refine lv_iload_n hx hb dX12_swept_28 rfl (lv_at hl 1 rfl) ?_
      refine lv_bipush (v := 10) hx hb dX12_swept_29 (by decide) ?_
      refine lv_idiv hx hb dX12_swept_31 (by decide) ?_
      refine lv_iload_n hx hb dX12_swept_32 rfl (lv_at hl 2 rfl) ?_
      refine lv_bipush (v := 10) hx hb dX12_swept_33 (by decide) ?_
      refine lv_idiv hx hb dX12_swept_35 (by decide) ?_
      refine lv_isub hx hb dX12_swept_36 ?_
      refine va_mabs hx hb (hml.trans hl.1.symm) hown (hts (.methodLink RX12 122 Lib.Math.abs.name) (by decide +kernel)) (hts (.static Lib.Math.abs.name) (by decide +kernel)) (hts (.initialized "java/lang/Math") (by decide +kernel)) (hts (.code Lib.Math.abs.name Lib.Math.abs.code 1 (some .int)) (by decide +kernel)) (Nat.le_of_ble_eq_true rfl) (Nat.le_of_ble_eq_true rfl) (Nat.le_of_ble_eq_true rfl) (Nat.le_of_ble_eq_true rfl) dX12_swept_37 ?_
      refine lv_iload_n hx hb dX12_swept_40 rfl (lv_at hl 1 rfl) ?_
      refine lv_bipush (v := 10) hx hb dX12_swept_41 (by decide) ?_
      refine lv_irem hx hb dX12_swept_43 (by decide) ?_
      refine lv_iload_n hx hb dX12_swept_44 rfl (lv_at hl 2 rfl) ?_
      refine lv_bipush (v := 10) hx hb dX12_swept_45 (by decide) ?_
      refine lv_irem hx hb dX12_swept_47 (by decide) ?_
      refine lv_isub hx hb dX12_swept_48 ?_
      refine va_mabs hx hb (hml.trans hl.1.symm) hown (hts (.methodLink RX12 122 Lib.Math.abs.name) (by decide +kernel)) (hts (.static Lib.Math.abs.name) (by decide +kernel)) (hts (.initialized "java/lang/Math") (by decide +kernel)) (hts (.code Lib.Math.abs.name Lib.Math.abs.code 1 (some .int)) (by decide +kernel)) (Nat.le_of_ble_eq_true rfl) (Nat.le_of_ble_eq_true rfl) (Nat.le_of_ble_eq_true rfl) (Nat.le_of_ble_eq_true rfl) dX12_swept_49 ?_
      refine lv_iadd hx hb dX12_swept_52 ?_
      refine lv_iconst (v := 1) hx hb dX12_swept_53 (by decide) ?_
      refine lv_iadd hx hb dX12_swept_54 ?_
      have hP9 := hP.sub (ws' := [(mo, .inr (15, [.int 0, .ref (lm 0), .ref (lm 1), .ref (lm 2), .ref (lm 3), .ref (lm 4), .int 0, .int 0])), ((lm 0), .inr (2, [.int 0, .ref e0, .int 0])), ((lm 1), .inr (2, [.int 0, .ref e0, .int 0])), ((lm 2), .inr (2, [.int 0, .ref e0, .int 0])), ((lm 3), .inr (2, [.int 0, .ref e0, .int 0])), ((lm 4), .inr (2, [.int 0, .ref e0, .int 0]))]) [0, 1, 2, 3, 4, 5] rfl
      have hD9 := hD.sub (ws' := [(mo, .inr (15, [.int 0, .ref (lm 0), .ref (lm 1), .ref (lm 2), .ref (lm 3), .ref (lm 4), .int 0, .int 0])), ((lm 0), .inr (2, [.int 0, .ref e0, .int 0])), ((lm 1), .inr (2, [.int 0, .ref e0, .int 0])), ((lm 2), .inr (2, [.int 0, .ref e0, .int 0])), ((lm 3), .inr (2, [.int 0, .ref e0, .int 0])), ((lm 4), .inr (2, [.int 0, .ref e0, .int 0]))]) [0, 1, 2, 3, 4, 5] (by decide) rfl
      have hK9 := hK.sub (tys' := []) [] rfl
      refine W.widen (k := 0) (n := 0) (Nat.le_of_ble_eq_true rfl) (Nat.le_of_ble_eq_true rfl) ?_
      exact W.iret (v := (((if 0 ≤ ((a / 10) - (b / 10)) then ((a / 10) - (b / 10)) else 0 - ((a / 10) - (b / 10))) + (if 0 ≤ ((a - a / 10 * 10) - (b - b / 10 * 10)) then ((a - a / 10 * 10) - (b - b / 10 * 10)) else 0 - ((a - a / 10 * 10) - (b - b / 10 * 10)))) + 1)) hx hb hr (fun t ht hW => ⟨⟨(((if 0 ≤ ((a / 10) - (b / 10)) then ((a / 10) - (b / 10)) else 0 - ((a / 10) - (b / 10))) + (if 0 ≤ ((a - a / 10 * 10) - (b - b / 10 * 10)) then ((a - a / 10 * 10) - (b - b / 10 * 10)) else 0 - ((a - a / 10 * 10) - (b - b / 10 * 10)))) + 1), 0, rfl, (Or.inl ⟨rfl, rfl, h_3, h_7⟩), by rw [ht]; exact hP9, va_K.moved hW.alike hK9, hD9⟩, hS.F ht⟩) hS.2.2 dX12_swept_55
    · refine lv_if_eq (tgt := 19) hx hb dX12_swept_12 (by decide) (fun _ => ?_) (fun c_20 => absurd c_20 (by decide))
      refine lv_iconst (v := 1) hx hb dX12_swept_19 (by decide) ?_
      have hPc := hP.sub (ws' := [(mo, .inr (15, [.int th, .ref (lm 0), .ref (lm 1), .ref (lm 2), .ref (lm 3), .ref (lm 4), .int 0, .int 0])), ((lm 0), .inr (2, [.int 0, .ref e0, .int 0])), ((lm 1), .inr (2, [.int 0, .ref e0, .int 0])), ((lm 2), .inr (2, [.int 0, .ref e0, .int 0])), ((lm 3), .inr (2, [.int 0, .ref e0, .int 0])), ((lm 4), .inr (2, [.int 0, .ref e0, .int 0]))]) [0, 1, 2, 3, 4, 5] rfl
      have hDc := hD.sub (ws' := [(mo, .inr (15, [.int th, .ref (lm 0), .ref (lm 1), .ref (lm 2), .ref (lm 3), .ref (lm 4), .int 0, .int 0])), ((lm 0), .inr (2, [.int 0, .ref e0, .int 0])), ((lm 1), .inr (2, [.int 0, .ref e0, .int 0])), ((lm 2), .inr (2, [.int 0, .ref e0, .int 0])), ((lm 3), .inr (2, [.int 0, .ref e0, .int 0])), ((lm 4), .inr (2, [.int 0, .ref e0, .int 0]))]) [0, 1, 2, 3, 4, 5] (by decide) rfl
      have hKc := hK.sub (tys' := []) [] rfl
      have hFc := va_free (wc := [(mo, .inr (15, [.int th, .ref (lm 0), .ref (lm 1), .ref (lm 2), .ref (lm 3), .ref (lm 4), .int 0, .int 0])), ((lm 0), .inr (2, [.int 0, .ref e0, .int 0])), ((lm 1), .inr (2, [.int 0, .ref e0, .int 0])), ((lm 2), .inr (2, [.int 0, .ref e0, .int 0])), ((lm 3), .inr (2, [.int 0, .ref e0, .int 0])), ((lm 4), .inr (2, [.int 0, .ref e0, .int 0]))]) hD hS hA [0, 1, 2, 3, 4, 5] rfl
      refine va_calli (va_runV (As := [.int 1]) (rest := []) ⟨hx, hb, hml, hown, hts⟩ (c_X12_isWrong_1 l dC dI H.size mo lm e0 th) (cwV 1 hts (goodIn_app (goodIn_of _ (by decide +kernel)) (goodIn_sub ((fun w h => List.mem_cons_of_mem _ (List.mem_append_right _ (List.mem_append_right _ (List.mem_append_right _ (h)))))) zgX12_isWrong_1)) rfl rfl rfl (by decide +kernel) ⟨Nat.le_of_ble_eq_true rfl, Nat.le_of_ble_eq_true rfl⟩) ⟨gPcE_blind, va_recv hK hP (ci := 15) (q0 := 0) rfl rfl, gPcE_pass hPc hKc hDc hE hS hFc⟩ rfl rfl hl.1 rfl (lv_room (Nat.le_of_ble_eq_true rfl)) dX12_swept_20 ⟨Nat.le_of_ble_eq_true rfl, Nat.le_of_ble_eq_true rfl⟩) hS (fun q _ h => hFc q h) hFc (fun r_21 u_22 t H locs ht hvm hw hB hz hk hS => ?_)
      obtain ⟨hP1, hK1, hD1⟩ := hB
      rw [ht] at hP1
      obtain ⟨hP, hD⟩ := va_join (wr := []) (w1 := [(mo, .inr (15, [.int u_22, .ref (lm 0), .ref (lm 1), .ref (lm 2), .ref (lm 3), .ref (lm 4), .int 0, .int 0])), ((lm 0), .inr (2, [.int 0, .ref e0, .int 0])), ((lm 1), .inr (2, [.int 0, .ref e0, .int 0])), ((lm 2), .inr (2, [.int 0, .ref e0, .int 0])), ((lm 3), .inr (2, [.int 0, .ref e0, .int 0])), ((lm 4), .inr (2, [.int 0, .ref e0, .int 0]))]) hP hD [0, 1, 2, 3, 4, 5] [] rfl rfl (by decide) (by decide) hk hFc hP1 hD1
      have hP : va_P (dC, dI) vwCl [(mo, .inr (15, [.int u_22, .ref (lm 0), .ref (lm 1), .ref (lm 2), .ref (lm 3), .ref (lm 4), .int 0, .int 0])), ((lm 0), .inr (2, [.int 0, .ref e0, .int 0])), ((lm 1), .inr (2, [.int 0, .ref e0, .int 0])), ((lm 2), .inr (2, [.int 0, .ref e0, .int 0])), ((lm 3), .inr (2, [.int 0, .ref e0, .int 0])), ((lm 4), .inr (2, [.int 0, .ref e0, .int 0]))] H := hP
      have hD : va_D A [(mo, .inr (15, [.int u_22, .ref (lm 0), .ref (lm 1), .ref (lm 2), .ref (lm 3), .ref (lm 4), .int 0, .int 0])), ((lm 0), .inr (2, [.int 0, .ref e0, .int 0])), ((lm 1), .inr (2, [.int 0, .ref e0, .int 0])), ((lm 2), .inr (2, [.int 0, .ref e0, .int 0])), ((lm 3), .inr (2, [.int 0, .ref e0, .int 0])), ((lm 4), .inr (2, [.int 0, .ref e0, .int 0]))] := hD
      have hw : r_21 = 1 ∧ u_22 = 1 := hw
      obtain ⟨rfl, rfl⟩ : r_21 = 1 ∧ u_22 = 1 := hw
      refine lv_if_eq (tgt := 28) hx hb dX12_swept_23 (by decide) (fun c_23 => absurd c_23 (by decide)) (fun _ => ?_)
      refine lv_iconst (v := 0) hx hb dX12_swept_26 (by decide) ?_
      have hP9 := hP.sub (ws' := [(mo, .inr (15, [.int 1, .ref (lm 0), .ref (lm 1), .ref (lm 2), .ref (lm 3), .ref (lm 4), .int 0, .int 0])), ((lm 0), .inr (2, [.int 0, .ref e0, .int 0])), ((lm 1), .inr (2, [.int 0, .ref e0, .int 0])), ((lm 2), .inr (2, [.int 0, .ref e0, .int 0])), ((lm 3), .inr (2, [.int 0, .ref e0, .int 0])), ((lm 4), .inr (2, [.int 0, .ref e0, .int 0]))]) [0, 1, 2, 3, 4, 5] rfl
      have hD9 := hD.sub (ws' := [(mo, .inr (15, [.int 1, .ref (lm 0), .ref (lm 1), .ref (lm 2), .ref (lm 3), .ref (lm 4), .int 0, .int 0])), ((lm 0), .inr (2, [.int 0, .ref e0, .int 0])), ((lm 1), .inr (2, [.int 0, .ref e0, .int 0])), ((lm 2), .inr (2, [.int 0, .ref e0, .int 0])), ((lm 3), .inr (2, [.int 0, .ref e0, .int 0])), ((lm 4), .inr (2, [.int 0, .ref e0, .int 0]))]) [0, 1, 2, 3, 4, 5] (by decide) rfl
      have hK9 := hK.sub (tys' := []) [] rfl
      refine W.widen (k := 0) (n := 0) (Nat.le_of_ble_eq_true rfl) (Nat.le_of_ble_eq_true rfl) ?_
      exact W.iret (v := 0) hx hb hr (fun t ht hW => ⟨⟨0, 1, rfl, (Or.inr ⟨rfl, (fun h => absurd h.2 h_7)⟩), by rw [ht]; exact hP9, va_K.moved hW.alike hK9, hD9⟩, hS.F ht⟩) hS.2.2 dX12_swept_27
  · refine lv_if_eq (tgt := 19) hx hb dX12_swept_5 (by decide) (fun _ => ?_) (fun c_24 => absurd c_24 (by decide))
    refine lv_iconst (v := 1) hx hb dX12_swept_19 (by decide) ?_
    have hPc := hP.sub (ws' := [(mo, .inr (15, [.int th, .ref (lm 0), .ref (lm 1), .ref (lm 2), .ref (lm 3), .ref (lm 4), .int 0, .int 0])), ((lm 0), .inr (2, [.int 0, .ref e0, .int 0])), ((lm 1), .inr (2, [.int 0, .ref e0, .int 0])), ((lm 2), .inr (2, [.int 0, .ref e0, .int 0])), ((lm 3), .inr (2, [.int 0, .ref e0, .int 0])), ((lm 4), .inr (2, [.int 0, .ref e0, .int 0]))]) [0, 1, 2, 3, 4, 5] rfl
    have hDc := hD.sub (ws' := [(mo, .inr (15, [.int th, .ref (lm 0), .ref (lm 1), .ref (lm 2), .ref (lm 3), .ref (lm 4), .int 0, .int 0])), ((lm 0), .inr (2, [.int 0, .ref e0, .int 0])), ((lm 1), .inr (2, [.int 0, .ref e0, .int 0])), ((lm 2), .inr (2, [.int 0, .ref e0, .int 0])), ((lm 3), .inr (2, [.int 0, .ref e0, .int 0])), ((lm 4), .inr (2, [.int 0, .ref e0, .int 0]))]) [0, 1, 2, 3, 4, 5] (by decide) rfl
    have hKc := hK.sub (tys' := []) [] rfl
    have hFc := va_free (wc := [(mo, .inr (15, [.int th, .ref (lm 0), .ref (lm 1), .ref (lm 2), .ref (lm 3), .ref (lm 4), .int 0, .int 0])), ((lm 0), .inr (2, [.int 0, .ref e0, .int 0])), ((lm 1), .inr (2, [.int 0, .ref e0, .int 0])), ((lm 2), .inr (2, [.int 0, .ref e0, .int 0])), ((lm 3), .inr (2, [.int 0, .ref e0, .int 0])), ((lm 4), .inr (2, [.int 0, .ref e0, .int 0]))]) hD hS hA [0, 1, 2, 3, 4, 5] rfl
    refine va_calli (va_runV (As := [.int 1]) (rest := []) ⟨hx, hb, hml, hown, hts⟩ (c_X12_isWrong_1 l dC dI H.size mo lm e0 th) (cwV 1 hts (goodIn_app (goodIn_of _ (by decide +kernel)) (goodIn_sub ((fun w h => List.mem_cons_of_mem _ (List.mem_append_right _ (List.mem_append_right _ (List.mem_append_right _ (h)))))) zgX12_isWrong_1)) rfl rfl rfl (by decide +kernel) ⟨Nat.le_of_ble_eq_true rfl, Nat.le_of_ble_eq_true rfl⟩) ⟨gPcE_blind, va_recv hK hP (ci := 15) (q0 := 0) rfl rfl, gPcE_pass hPc hKc hDc hE hS hFc⟩ rfl rfl hl.1 rfl (lv_room (Nat.le_of_ble_eq_true rfl)) dX12_swept_20 ⟨Nat.le_of_ble_eq_true rfl, Nat.le_of_ble_eq_true rfl⟩) hS (fun q _ h => hFc q h) hFc (fun r_25 u_26 t H locs ht hvm hw hB hz hk hS => ?_)
    obtain ⟨hP1, hK1, hD1⟩ := hB
    rw [ht] at hP1
    obtain ⟨hP, hD⟩ := va_join (wr := []) (w1 := [(mo, .inr (15, [.int u_26, .ref (lm 0), .ref (lm 1), .ref (lm 2), .ref (lm 3), .ref (lm 4), .int 0, .int 0])), ((lm 0), .inr (2, [.int 0, .ref e0, .int 0])), ((lm 1), .inr (2, [.int 0, .ref e0, .int 0])), ((lm 2), .inr (2, [.int 0, .ref e0, .int 0])), ((lm 3), .inr (2, [.int 0, .ref e0, .int 0])), ((lm 4), .inr (2, [.int 0, .ref e0, .int 0]))]) hP hD [0, 1, 2, 3, 4, 5] [] rfl rfl (by decide) (by decide) hk hFc hP1 hD1
    have hP : va_P (dC, dI) vwCl [(mo, .inr (15, [.int u_26, .ref (lm 0), .ref (lm 1), .ref (lm 2), .ref (lm 3), .ref (lm 4), .int 0, .int 0])), ((lm 0), .inr (2, [.int 0, .ref e0, .int 0])), ((lm 1), .inr (2, [.int 0, .ref e0, .int 0])), ((lm 2), .inr (2, [.int 0, .ref e0, .int 0])), ((lm 3), .inr (2, [.int 0, .ref e0, .int 0])), ((lm 4), .inr (2, [.int 0, .ref e0, .int 0]))] H := hP
    have hD : va_D A [(mo, .inr (15, [.int u_26, .ref (lm 0), .ref (lm 1), .ref (lm 2), .ref (lm 3), .ref (lm 4), .int 0, .int 0])), ((lm 0), .inr (2, [.int 0, .ref e0, .int 0])), ((lm 1), .inr (2, [.int 0, .ref e0, .int 0])), ((lm 2), .inr (2, [.int 0, .ref e0, .int 0])), ((lm 3), .inr (2, [.int 0, .ref e0, .int 0])), ((lm 4), .inr (2, [.int 0, .ref e0, .int 0]))] := hD
    have hw : r_25 = 1 ∧ u_26 = 1 := hw
    obtain ⟨rfl, rfl⟩ : r_25 = 1 ∧ u_26 = 1 := hw
    refine lv_if_eq (tgt := 28) hx hb dX12_swept_23 (by decide) (fun c_27 => absurd c_27 (by decide)) (fun _ => ?_)
    refine lv_iconst (v := 0) hx hb dX12_swept_26 (by decide) ?_
    have hP9 := hP.sub (ws' := [(mo, .inr (15, [.int 1, .ref (lm 0), .ref (lm 1), .ref (lm 2), .ref (lm 3), .ref (lm 4), .int 0, .int 0])), ((lm 0), .inr (2, [.int 0, .ref e0, .int 0])), ((lm 1), .inr (2, [.int 0, .ref e0, .int 0])), ((lm 2), .inr (2, [.int 0, .ref e0, .int 0])), ((lm 3), .inr (2, [.int 0, .ref e0, .int 0])), ((lm 4), .inr (2, [.int 0, .ref e0, .int 0]))]) [0, 1, 2, 3, 4, 5] rfl
    have hD9 := hD.sub (ws' := [(mo, .inr (15, [.int 1, .ref (lm 0), .ref (lm 1), .ref (lm 2), .ref (lm 3), .ref (lm 4), .int 0, .int 0])), ((lm 0), .inr (2, [.int 0, .ref e0, .int 0])), ((lm 1), .inr (2, [.int 0, .ref e0, .int 0])), ((lm 2), .inr (2, [.int 0, .ref e0, .int 0])), ((lm 3), .inr (2, [.int 0, .ref e0, .int 0])), ((lm 4), .inr (2, [.int 0, .ref e0, .int 0]))]) [0, 1, 2, 3, 4, 5] (by decide) rfl
    have hK9 := hK.sub (tys' := []) [] rfl
    refine W.widen (k := 0) (n := 0) (Nat.le_of_ble_eq_true rfl) (Nat.le_of_ble_eq_true rfl) ?_
    exact W.iret (v := 0) hx hb hr (fun t ht hW => ⟨⟨0, 1, rfl, (Or.inr ⟨rfl, (fun h => absurd h.1 h_3)⟩), by rw [ht]; exact hP9, va_K.moved hW.alike hK9, hD9⟩, hS.F ht⟩) hS.2.2 dX12_swept_27

def zwX12_thrown : List Cond := .code yX12_thrown cX12_thrown 1 (some .int) :: (([.fieldLink RX12 28 "SpotbeatModel" "thrown" "I"] : List Cond) ++ (wsX120))
theorem zgX12_thrown : zwX12_thrown.all goodWord = true := zgo rfl (zga (by decide +kernel) (zgcX12))
set_option maxHeartbeats 4000000 in
set_option maxRecDepth 100000 in
theorem c_X12_thrown (l : Launch) (dC : Nat → ClassId) (dI : Nat → Nat → Nat) (sz : Nat) (mo : Nat) (lm : Nat → Nat) (e0 : Nat) (th : Int32) : Met l yX12_thrown zwX12_thrown ({ frames := 0, cells := 0, slots := 0, locals := 0 }) (gPcE dC dI sz [(mo, .inr (15, [.int th, .ref (lm 0), .ref (lm 1), .ref (lm 2), .ref (lm 3), .ref (lm 4), .int 0, .int 0])), ((lm 0), .inr (2, [.int 0, .ref e0, .int 0])), ((lm 1), .inr (2, [.int 0, .ref e0, .int 0])), ((lm 2), .inr (2, [.int 0, .ref e0, .int 0])), ((lm 3), .inr (2, [.int 0, .ref e0, .int 0])), ((lm 4), .inr (2, [.int 0, .ref e0, .int 0]))] [] [.ref mo]) (va_Qi (fun (r : Int32) (u : Int32) => r = th ∧ u = th) (fun u t => va_P (dC, dI) vwCl [(mo, .inr (15, [.int u, .ref (lm 0), .ref (lm 1), .ref (lm 2), .ref (lm 3), .ref (lm 4), .int 0, .int 0])), ((lm 0), .inr (2, [.int 0, .ref e0, .int 0])), ((lm 1), .inr (2, [.int 0, .ref e0, .int 0])), ((lm 2), .inr (2, [.int 0, .ref e0, .int 0])), ((lm 3), .inr (2, [.int 0, .ref e0, .int 0])), ((lm 4), .inr (2, [.int 0, .ref e0, .int 0]))] t.heap ∧ va_K (dC, dI) vwCl [] t ∧ va_D (va_A [(mo, .inr (15, [.int th, .ref (lm 0), .ref (lm 1), .ref (lm 2), .ref (lm 3), .ref (lm 4), .int 0, .int 0])), ((lm 0), .inr (2, [.int 0, .ref e0, .int 0])), ((lm 1), .inr (2, [.int 0, .ref e0, .int 0])), ((lm 2), .inr (2, [.int 0, .ref e0, .int 0])), ((lm 3), .inr (2, [.int 0, .ref e0, .int 0])), ((lm 4), .inr (2, [.int 0, .ref e0, .int 0]))] sz) [(mo, .inr (15, [.int u, .ref (lm 0), .ref (lm 1), .ref (lm 2), .ref (lm 3), .ref (lm 4), .int 0, .int 0])), ((lm 0), .inr (2, [.int 0, .ref e0, .int 0])), ((lm 1), .inr (2, [.int 0, .ref e0, .int 0])), ((lm 2), .inr (2, [.int 0, .ref e0, .int 0])), ((lm 3), .inr (2, [.int 0, .ref e0, .int 0])), ((lm 4), .inr (2, [.int 0, .ref e0, .int 0]))]) (va_A [(mo, .inr (15, [.int th, .ref (lm 0), .ref (lm 1), .ref (lm 2), .ref (lm 3), .ref (lm 4), .int 0, .int 0])), ((lm 0), .inr (2, [.int 0, .ref e0, .int 0])), ((lm 1), .inr (2, [.int 0, .ref e0, .int 0])), ((lm 2), .inr (2, [.int 0, .ref e0, .int 0])), ((lm 3), .inr (2, [.int 0, .ref e0, .int 0])), ((lm 4), .inr (2, [.int 0, .ref e0, .int 0]))] sz)) 0 0 (va_A [(mo, .inr (15, [.int th, .ref (lm 0), .ref (lm 1), .ref (lm 2), .ref (lm 3), .ref (lm 4), .int 0, .int 0])), ((lm 0), .inr (2, [.int 0, .ref e0, .int 0])), ((lm 1), .inr (2, [.int 0, .ref e0, .int 0])), ((lm 2), .inr (2, [.int 0, .ref e0, .int 0])), ((lm 3), .inr (2, [.int 0, .ref e0, .int 0])), ((lm 4), .inr (2, [.int 0, .ref e0, .int 0]))] sz) := by
  refine Met.ofW (cc := cX12_thrown) (maxL := 1) (ret := (some .int)) (by decide) rfl ?_
  intro p e s m args below meth c s₁ B hml hv
  obtain ⟨rfl, hsz, hP, hK, hD0, hE⟩ := hv
  have hx := B.exec
  have hb := B.bytes
  have hr := B.returns
  have hts := atoms_spec (ws := zwX12_thrown) B.pre
  have hown : s.vm.findClass RX12 = some m.cls := findClass_of_methodNamed B.named
  have hlocks := B.notSynchronized
  subst hsz
  have hD := hD0.self (sz := s.heap.size)
  generalize hAe : va_A [(mo, .inr (15, [.int th, .ref (lm 0), .ref (lm 1), .ref (lm 2), .ref (lm 3), .ref (lm 4), .int 0, .int 0])), ((lm 0), .inr (2, [.int 0, .ref e0, .int 0])), ((lm 1), .inr (2, [.int 0, .ref e0, .int 0])), ((lm 2), .inr (2, [.int 0, .ref e0, .int 0])), ((lm 3), .inr (2, [.int 0, .ref e0, .int 0])), ((lm 4), .inr (2, [.int 0, .ref e0, .int 0]))] s.heap.size = A at hD hE ⊢
  have hA : ∀ q : Nat, s.heap.size ≤ q → A q := fun q h => by rw [← hAe]; exact Or.inr h
  have hS : va_S A s.heap s.heap [] := va_S.rf
  have hP : va_P (dC, dI) vwCl [(mo, .inr (15, [.int th, .ref (lm 0), .ref (lm 1), .ref (lm 2), .ref (lm 3), .ref (lm 4), .int 0, .int 0])), ((lm 0), .inr (2, [.int 0, .ref e0, .int 0])), ((lm 1), .inr (2, [.int 0, .ref e0, .int 0])), ((lm 2), .inr (2, [.int 0, .ref e0, .int 0])), ((lm 3), .inr (2, [.int 0, .ref e0, .int 0])), ((lm 4), .inr (2, [.int 0, .ref e0, .int 0]))] s.heap := hP
  have hl := lv_entry ([.ref mo]) (n := 1) (Nat.le_of_ble_eq_true rfl)
  rw [lg_entry_eq]
  generalize (lg_sl ([.ref mo]) ++ List.replicate (1 - (lg_sl ([.ref mo])).length) Slot.unset).toArray = ls at hl ⊢
  have hl : lv_has ls 1 [(0, .ref mo)] := hl
  refine lv_aload_n hx hb dX12_thrown_0 rfl (lv_at hl 0 rfl) ?_
  refine va_get (D := (dC, dI)) (ci := 15) (v := .int th) (C := RX12) (T := TX12) (N := 8) hx hb hts (fun w h => List.mem_cons_of_mem _ (List.mem_append_right _ (h))) hown hK hP 0 rfl rfl 0 (by decide) (hts (.fieldLink RX12 28 "SpotbeatModel" "thrown" "I") (by decide +kernel)) (fun _ h9 => h9) rfl dX12_thrown_1 ?_
  have hP9 := hP.sub (ws' := [(mo, .inr (15, [.int th, .ref (lm 0), .ref (lm 1), .ref (lm 2), .ref (lm 3), .ref (lm 4), .int 0, .int 0])), ((lm 0), .inr (2, [.int 0, .ref e0, .int 0])), ((lm 1), .inr (2, [.int 0, .ref e0, .int 0])), ((lm 2), .inr (2, [.int 0, .ref e0, .int 0])), ((lm 3), .inr (2, [.int 0, .ref e0, .int 0])), ((lm 4), .inr (2, [.int 0, .ref e0, .int 0]))]) [0, 1, 2, 3, 4, 5] rfl
  have hD9 := hD.sub (ws' := [(mo, .inr (15, [.int th, .ref (lm 0), .ref (lm 1), .ref (lm 2), .ref (lm 3), .ref (lm 4), .int 0, .int 0])), ((lm 0), .inr (2, [.int 0, .ref e0, .int 0])), ((lm 1), .inr (2, [.int 0, .ref e0, .int 0])), ((lm 2), .inr (2, [.int 0, .ref e0, .int 0])), ((lm 3), .inr (2, [.int 0, .ref e0, .int 0])), ((lm 4), .inr (2, [.int 0, .ref e0, .int 0]))]) [0, 1, 2, 3, 4, 5] (by decide) rfl
  have hK9 := hK.sub (tys' := []) [] rfl
  refine W.widen (k := 0) (n := 0) (Nat.le_of_ble_eq_true rfl) (Nat.le_of_ble_eq_true rfl) ?_
  exact W.iret (v := th) hx hb hr (fun t ht hW => ⟨⟨th, th, rfl, ⟨rfl, rfl⟩, by rw [ht]; exact hP9, va_K.moved hW.alike hK9, hD9⟩, hS.F ht⟩) hS.2.2 dX12_thrown_4
end ZMod1
