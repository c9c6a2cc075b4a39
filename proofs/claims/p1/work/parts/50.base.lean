section ZBase
theorem fa_lt (a b : Int32) : a < b ↔ a.toInt < b.toInt := Int32.lt_iff_toInt_lt
theorem fa_le (a b : Int32) : a ≤ b ↔ a.toInt ≤ b.toInt := Int32.le_iff_toInt_le
theorem fa_eq (a b : Int32) : a = b ↔ a.toInt = b.toInt := Int32.toInt_inj.symm
theorem zi_0 : (0 : Int32).toInt = 0 := by decide +kernel
theorem zi_1 : (1 : Int32).toInt = 1 := by decide +kernel
theorem zi_3 : (3 : Int32).toInt = 3 := by decide +kernel
theorem zi_4 : (4 : Int32).toInt = 4 := by decide +kernel
theorem zi_7 : (7 : Int32).toInt = 7 := by decide +kernel
theorem zi_8 : (8 : Int32).toInt = 8 := by decide +kernel
theorem zi_10 : (10 : Int32).toInt = 10 := by decide +kernel
theorem zi_12 : (12 : Int32).toInt = 12 := by decide +kernel
theorem zi_119 : (119 : Int32).toInt = 119 := by decide +kernel
theorem zi_m1 : (-1 : Int32).toInt = -1 := by decide +kernel
/-- a place, as the class tells it, and as the reference does -/
def zPl (v : Int32) : Prop := ¬ v < 0 ∧ v / 10 < 12 ∧ v - v / 10 * 10 < 8
def zPm (v : Int32) : Prop := 0 ≤ v ∧ v ≤ 119 ∧ v - v / 10 * 10 ≤ 7
def zDi (a b : Int32) : Int32 := if a < b then b - a else a - b
def zSw (a b : Int32) : Int32 := zDi (a / 10) (b / 10) + zDi (a - a / 10 * 10) (b - b / 10 * 10) + 1
def zSm (a b : Int32) : Int32 := (if 0 ≤ (a / 10 - b / 10) then (a / 10 - b / 10) else 0 - (a / 10 - b / 10)) + (if 0 ≤ ((a - a / 10 * 10) - (b - b / 10 * 10)) then ((a - a / 10 * 10) - (b - b / 10 * 10)) else 0 - ((a - a / 10 * 10) - (b - b / 10 * 10))) + 1
theorem zPl_nat (n : Nat) (h : n < 2 ^ 31) : zPl (nI n) ↔ (n / 10 < 12 ∧ n % 10 < 8) := by
  have e1 : nI n / 10 = nI (n / 10) := pk_div (d := 10) h (by decide) (by decide)
  have e2 : nI n - nI n / 10 * 10 = nI (n % 10) := pk_rem (d := 10) h (by decide) (by decide)
  unfold zPl
  rw [e2, e1]
  have h1 : (nI (n / 10) < 12) ↔ n / 10 < 12 := nI_ltI (b := 12) (by omega) (by decide)
  have h2 : (nI (n % 10) < 8) ↔ n % 10 < 8 := nI_ltI (b := 8) (by omega) (by decide)
  rw [h1, h2]
  exact ⟨fun q => q.2, fun q => ⟨nI_pos h, q⟩⟩
theorem zPm_nat (n : Nat) (h : n < 2 ^ 31) : zPm (nI n) ↔ (n ≤ 119 ∧ n % 10 ≤ 7) := by
  have e2 : nI n - nI n / 10 * 10 = nI (n % 10) := pk_rem (d := 10) h (by decide) (by decide)
  unfold zPm
  rw [e2]
  have h1 : (nI n ≤ 119) ↔ n ≤ 119 := nI_leI (b := 119) h (by decide)
  have h2 : (nI (n % 10) ≤ 7) ↔ n % 10 ≤ 7 := nI_leI (b := 7) (by omega) (by decide)
  rw [h1, h2]
  exact ⟨fun q => q.2, fun q => ⟨nI_pos' h, q⟩⟩
/-- both tell the same places -/
theorem zP_same (v : Int32) : zPl v ↔ zPm v := by
  by_cases h : v < 0
  · constructor
    · intro q; exact absurd h q.1
    · intro q
      have := q.1
      simp only [fa_lt, fa_le, zi_0] at h this
      omega
  · obtain ⟨n, hn, rfl⟩ := nI_of h
    rw [zPl_nat n hn, zPm_nat n hn]
    omega
theorem zAd : ∀ p q : Fin 12, zDi (nI p) (nI q) = if 0 ≤ (nI p - nI q) then (nI p - nI q) else 0 - (nI p - nI q) := by decide +kernel
/-- both count the same cells -/
theorem zS_same {a b : Int32} (ha : zPl a) (hb : zPl b) : zSw a b = zSm a b := by
  obtain ⟨n, hn, rfl⟩ := nI_of ha.1
  obtain ⟨k, hk, rfl⟩ := nI_of hb.1
  have h1 := (zPl_nat n hn).mp ha
  have h2 := (zPl_nat k hk).mp hb
  have e1 : nI n / 10 = nI (n / 10) := pk_div (d := 10) hn (by decide) (by decide)
  have e2 : nI n - nI n / 10 * 10 = nI (n % 10) := pk_rem (d := 10) hn (by decide) (by decide)
  have e3 : nI k / 10 = nI (k / 10) := pk_div (d := 10) hk (by decide) (by decide)
  have e4 : nI k - nI k / 10 * 10 = nI (k % 10) := pk_rem (d := 10) hk (by decide) (by decide)
  unfold zSw zSm
  rw [e2, e4, e1, e3]
  have A := zAd ⟨n / 10, by omega⟩ ⟨k / 10, by omega⟩
  have B := zAd ⟨n % 10, by omega⟩ ⟨k % 10, by omega⟩
  rw [show zDi (nI (n / 10)) (nI (k / 10)) = _ from A, show zDi (nI (n % 10)) (nI (k % 10)) = _ from B]
theorem zin {x M : Int32} {N : Nat} (hM : M.toInt = (N : Int)) (h0 : ¬ x < 0) (h1 : ¬ M ≤ x) : vp_in x N := vp_in_iff.mpr (by
  simp only [fa_lt, fa_le, zi_0] at h0 h1
  omega)
theorem zga {a b : List Cond} (ha : a.all goodWord = true) (hb : b.all goodWord = true) : (a ++ b).all goodWord = true := by rw [List.all_append, ha, hb]; rfl
theorem zgo {c : Cond} {a : List Cond} (hc : goodWord c = true) (ha : a.all goodWord = true) : (c :: a).all goodWord = true := by rw [List.all_cons, hc, ha]; rfl
theorem zgf (L : List Cond) : (L.filter goodWord).all goodWord = true := List.all_eq_true.mpr fun _ h => (List.mem_filter.mp h).2
theorem zgcX0 : wsX00.all goodWord = true := by decide +kernel
theorem zgcX1 : wsX10.all goodWord = true := by decide +kernel
theorem zgcX5 : wsX50.all goodWord = true := by decide +kernel
theorem zgcX6 : wsX60.all goodWord = true := by decide +kernel
theorem zgcX7 : wsX70.all goodWord = true := by decide +kernel
theorem zgcX8 : wsX80.all goodWord = true := by decide +kernel
theorem zgcX11 : wsX110.all goodWord = true := by decide +kernel
theorem zgcX12 : wsX120.all goodWord = true := by decide +kernel
theorem zgcJx4a65c : wsJx4a65c0.all goodWord = true := by decide +kernel
theorem zgcJx35411 : wsJx354110.all goodWord = true := by decide +kernel
theorem zgcJ6 : wsJ60.all goodWord = true := by decide +kernel
/-- the texts that exceptions are made with here, by their places in the class's pool -/
def zStr : List (Nat × String) := [(170, "no such variant"), (54, "no such panel"), (186, "no such station"), (181, "no such robot"), (192, "no such body"), (168, "no such place"), (289, "no stations"), (430, "none is off the line")]
/-- the exceptions that a new object throws -/
def zExc : List String := ["java/lang/IndexOutOfBoundsException", "java/lang/UnsupportedOperationException", "java/util/NoSuchElementException", "java/lang/IllegalArgumentException"]
abbrev zNames : List String := ["java/lang/RuntimeException", "java/lang/Exception"]
def zDec : List MethodName := [Bundle.initS "java/lang/RuntimeException", Bundle.initS "java/lang/Exception", Bundle.initS Bundle.tN]
def zI (U : State) : Prop := va_Fw RJx4a65c ⟨"java/util/List", "size", "()I"⟩ yJx4a65c_size_8abf5 U ∧ va_Fw RJx4a65c ⟨"java/util/List", "isEmpty", "()Z"⟩ yJx4a65c_isEmpty_aae02 U ∧ va_Fw RJx4a65c ⟨"java/util/List", "iterator", "()Ljava/util/Iterator;"⟩ yJx4a65c_iterator_32c93 U ∧ va_Fw RJx4a65c ⟨"java/util/List", "add", "(Ljava/lang/Object;)Z"⟩ yJx4a65c_add_9ea2d U ∧ va_Fw RJx35411 ⟨"java/util/Iterator", "hasNext", "()Z"⟩ yJx35411_hasNext_aae02 U ∧ va_Nw (.fieldLinkNest RJx35411 28 "java/util/ArrayList" "size" "I" "java/util/ArrayList") U ∧ va_Nw (.methodLinkNest RX12 109 yX11_init "SpotbeatModel") U
theorem zI.moved {s U : State} (ha : s.vm.Alike U.vm) (hW : s.WarmedH U.vm) (h : zI s) : zI U :=
  ⟨va_Fw.moved (by decide) ha h.1, va_Fw.moved (by decide) ha h.2.1, va_Fw.moved (by decide) ha h.2.2.1, va_Fw.moved (by decide) ha h.2.2.2.1, va_Fw.moved (by decide) ha h.2.2.2.2.1, va_Nw.warmF hW h.2.2.2.2.2.1, va_Nw.warmM hW h.2.2.2.2.2.2⟩
theorem zI.same {s U : State} (hv : s.vm = U.vm) (h : zI s) : zI U := by
  have ha : s.vm.Alike U.vm := by rw [hv]; exact Vm.Alike.refl _
  exact ⟨va_Fw.moved (by decide) ha h.1, va_Fw.moved (by decide) ha h.2.1, va_Fw.moved (by decide) ha h.2.2.1, va_Fw.moved (by decide) ha h.2.2.2.1, va_Fw.moved (by decide) ha h.2.2.2.2.1, va_Nw.same rfl hv h.2.2.2.2.2.1, va_Nw.same rfl hv h.2.2.2.2.2.2⟩
def zRow : List String := [RX0, RX3, RX4, RX5, RX6]
/-- what the tables say that no word of a method's own can carry -/
def zT (U : State) : Prop := (∀ q ∈ zStr, ∃ a, vk_R RX7 q.1 q.2 a U) ∧ (∀ q ∈ zExc, va_Nw (.castable q q) U) ∧ (∀ q ∈ zDec, va_Nw (.declares q) U) ∧ (∀ C ∈ zRow, va_AO C U) ∧ zI U
theorem zT.warm {s U : State} (hW : s.WarmedH U.vm) (h : zT s) : zT U :=
  ⟨fun q hq => by obtain ⟨a, ha⟩ := h.1 q hq; exact ⟨a, vk_R.warm hW ha⟩, fun q hq => va_Nw.warmC hW (h.2.1 q hq), fun q hq => va_Nw.warmD hW (h.2.2.1 q hq), fun C hC => va_AO.moved hW.alike (h.2.2.2.1 C hC), zI.moved hW.alike hW h.2.2.2.2⟩
theorem zT.same {s U : State} (hv : s.vm = U.vm) (h : zT s) : zT U :=
  ⟨fun q hq => by obtain ⟨a, ha⟩ := h.1 q hq; exact ⟨a, vk_R.same hv.symm ha⟩, fun q hq => va_Nw.same rfl hv (h.2.1 q hq), fun q hq => va_Nw.same rfl hv (h.2.2.1 q hq), fun C hC => va_AO.moved (by rw [hv]; exact Vm.Alike.refl _) (h.2.2.2.1 C hC), zI.same hv h.2.2.2.2⟩
/-- .. and the two statics that every exception reads; A: where it may be written -/
def zE (A : Nat → Prop) (U : State) (H : Heap) : Prop := vx_Zq Bundle.tN "UNASSIGNED_STACK" Bundle.steD A U H ∧ vx_Zq Bundle.tN "SUPPRESSED_SENTINEL" Bundle.listD A U H ∧ zT U
theorem zE.pass {A A1 : Nat → Prop} {s U : State} {H : Heap} {locs : List Loc} (h : zE A s s.heap) (hS : va_S A s.heap H locs) (hU : U.heap = H) (hW : s.WarmedH U.vm) (hA : ∀ q, A1 q → A q) : zE A1 U U.heap := by
  subst hU
  exact ⟨vx_Zq.moved hW.alike ((h.1.kept hS.2.1).narrow hA), vx_Zq.moved hW.alike ((h.2.1.kept hS.2.1).narrow hA), h.2.2.warm hW⟩
theorem zE.blind {A : Nat → Prop} {U : State} {g : JFrame} {mk : MethodId} {a : Array Value} (h : zE A U U.heap) : zE A (U.calling g mk a) (U.calling g mk a).heap :=
  ⟨vx_Zq.moved (u := U) (U := U.calling g mk a) (Vm.Alike.refl U.vm) h.1, vx_Zq.moved (u := U) (U := U.calling g mk a) (Vm.Alike.refl U.vm) h.2.1, zT.same (s := U) (U := U.calling g mk a) rfl h.2.2⟩
theorem zF {A : Nat → Prop} {s t : State} {H : Heap} {locs : List Loc} (hS : va_S A s.heap H locs) (h1 : H.size ≤ t.heap.size) (h2 : ∀ q : Nat, q < H.size → t.heap[q]? = H[q]?) : va_F A s t :=
  ⟨Nat.le_trans hS.1 h1, fun q h3 h4 => (h2 q (Nat.lt_of_lt_of_le h3 hS.1)).trans (hS.2.1 q h3 h4)⟩
/-- cells that a call doesn't write are there behind it -/
theorem zkp {D : va_G} {cl : List vw_C} {ws : va_W} {H H1 : Heap} {A1 : Nat → Prop} (hP : va_P D cl ws H) (hk : ∀ q : Nat, q < H.size → ¬ A1 q → H1[q]? = H[q]?) (hn : ∀ (k : Nat) (q : Nat × va_E), ws[k]? = some q → ¬ A1 q.1) : va_P D cl ws H1 :=
  hP.kept fun k q hq => hk q.1 (hP k q hq).lt (hn k q hq)
theorem zkn {D : va_G} {cl : List vw_C} {ws : va_W} {H H1 : Heap} (hP : va_P D cl ws H) (hk : ∀ q : Nat, q < H.size → ¬ H.size ≤ q → H1[q]? = H[q]?) : va_P D cl ws H1 :=
  zkp (A1 := fun q => H.size ≤ q) hP hk fun k q hq => Nat.not_le.mpr (hP k q hq).lt
/-- the world of a new object of the class: itself, its rows -/
abbrev xW (x : Nat) (ax : Nat → Nat) (kx : Nat → ClassId) : va_W := [(x, .inr (10, [.ref (ax 0), .ref (ax 1), .ref (ax 2), .ref (ax 3), .ref (ax 4), .ref (ax 5), .int 0, .int 0, .int 0, .int 0, .int 0, .int 0])), (ax 0, .inl (kx 0, 8, .inl (fun _ => 0))), (ax 1, .inl (kx 1, 24, .inr (.inr (.inr (.inr (fun _ => none)))))), (ax 2, .inl (kx 2, 4, .inr (.inr (.inr (.inr (fun _ => none)))))), (ax 3, .inl (kx 3, 12, .inr (.inr (.inr (.inr (fun _ => none)))))), (ax 4, .inl (kx 4, 40, .inr (.inr (.inr (.inr (fun _ => none))))))]
/-- the world of a new object of the reference: itself, its lists -/
abbrev mW (mo : Nat) (lm : Nat → Nat) (e0 : Nat) (th : Int32) : va_W := [(mo, .inr (15, [.int th, .ref (lm 0), .ref (lm 1), .ref (lm 2), .ref (lm 3), .ref (lm 4), .int 0, .int 0])), (lm 0, .inr (2, [.int 0, .ref e0, .int 0])), (lm 1, .inr (2, [.int 0, .ref e0, .int 0])), (lm 2, .inr (2, [.int 0, .ref e0, .int 0])), (lm 3, .inr (2, [.int 0, .ref e0, .int 0])), (lm 4, .inr (2, [.int 0, .ref e0, .int 0]))]
abbrev xT (kx : Nat → ClassId) : List (ClassId × FieldType) := [(kx 0, .int), (kx 1, .object RX4), (kx 2, .object RX5), (kx 3, .object RX3), (kx 4, .object RX0)]
def xPre (dC : Nat → ClassId) (dI : Nat → Nat → Nat) (A : Nat → Prop) (x : Nat) (ax : Nat → Nat) (kx : Nat → ClassId) (U : State) : Prop := va_P (dC, dI) vwCl (xW x ax kx) U.heap ∧ va_K (dC, dI) vwCl (xT kx) U ∧ zE A U U.heap
abbrev xPc (dC : Nat → ClassId) (dI : Nat → Nat → Nat) (sz : Nat) (x : Nat) (ax : Nat → Nat) (kx : Nat → ClassId) (av : List Value) : Array Value → State → Prop := va_Pc av (fun U => U.heap.size = sz ∧ xPre dC dI (fun q => sz ≤ q) x ax kx U)
theorem xPc_blind {dC : Nat → ClassId} {dI : Nat → Nat → Nat} {sz x : Nat} {ax : Nat → Nat} {kx : Nat → ClassId} {av : List Value} : FrameBlind (xPc dC dI sz x ax kx av) := fun a U g mk q => by
  obtain ⟨q0, q1, qP, qK, qE⟩ := q
  exact ⟨q0, q1, qP, va_K.moved (u := U) (U := U.calling g mk a) (Vm.Alike.refl U.vm) qK, qE.blind⟩
theorem xPc_pass {dC : Nat → ClassId} {dI : Nat → Nat → Nat} {x : Nat} {ax : Nat → Nat} {kx : Nat → ClassId} {av : List Value} {A : Nat → Prop} {s : State} {H : Heap} {locs : List Loc}
    (hP : va_P (dC, dI) vwCl (xW x ax kx) H) (hK : va_K (dC, dI) vwCl (xT kx) s) (hE : zE A s s.heap) (hS : va_S A s.heap H locs) (hA : ∀ q, H.size ≤ q → A q) : ∀ U : State, U.heap = H → s.WarmedH U.vm → xPc dC dI H.size x ax kx av av.toArray U := fun U hU hW =>
  ⟨rfl, by rw [hU], by rw [hU]; exact hP, va_K.moved hW.alike hK, hE.pass hS hU hW hA⟩
/-- a thing that a method without a world of its own needs: the statics, the texts -/
abbrev ePc (sz : Nat) (av : List Value) : Array Value → State → Prop := va_Pc av (fun U => U.heap.size = sz ∧ zE (fun q => sz ≤ q) U U.heap)
theorem ePc_blind {sz : Nat} {av : List Value} : FrameBlind (ePc sz av) := fun a U g mk q => by
  obtain ⟨q0, q1, qE⟩ := q
  exact ⟨q0, q1, qE.blind⟩
theorem ePc_pass {av : List Value} {A : Nat → Prop} {s : State} {H : Heap} {locs : List Loc} (hE : zE A s s.heap) (hS : va_S A s.heap H locs) (hA : ∀ q, H.size ≤ q → A q) : ∀ U : State, U.heap = H → s.WarmedH U.vm → ePc H.size av av.toArray U := fun U hU hW =>
  ⟨rfl, by rw [hU], hE.pass hS hU hW hA⟩
abbrev nPc (sz : Nat) (av : List Value) : Array Value → State → Prop := va_Pc av (fun U => U.heap.size = sz)
theorem nPc_blind {sz : Nat} {av : List Value} : FrameBlind (nPc sz av) := fun _ _ _ _ q => q
theorem nPc_pass {av : List Value} {s : State} {H : Heap} : ∀ U : State, U.heap = H → s.WarmedH U.vm → nPc H.size av av.toArray U := fun U hU _ => ⟨rfl, by show U.heap.size = H.size; rw [hU]⟩
/-- a world of its own, and the statics and texts -/
abbrev gPcE (dC : Nat → ClassId) (dI : Nat → Nat → Nat) (sz : Nat) (W : va_W) (T : List (ClassId × FieldType)) (av : List Value) : Array Value → State → Prop := va_Pc av (fun U => U.heap.size = sz ∧ va_P (dC, dI) vwCl W U.heap ∧ va_K (dC, dI) vwCl T U ∧ va_D (fun _ => True) W ∧ zE (va_A W sz) U U.heap)
theorem gPcE_blind {dC : Nat → ClassId} {dI : Nat → Nat → Nat} {sz : Nat} {W : va_W} {T : List (ClassId × FieldType)} {av : List Value} : FrameBlind (gPcE dC dI sz W T av) := fun a U g mk q => by
  obtain ⟨q0, q1, qP, qK, qD, qE⟩ := q
  exact ⟨q0, q1, qP, va_K.moved (u := U) (U := U.calling g mk a) (Vm.Alike.refl U.vm) qK, qD, qE.blind⟩
theorem gPcE_pass {dC : Nat → ClassId} {dI : Nat → Nat → Nat} {W : va_W} {T : List (ClassId × FieldType)} {av : List Value} {A : Nat → Prop} {s : State} {H : Heap} {locs : List Loc}
    (hP : va_P (dC, dI) vwCl W H) (hK : va_K (dC, dI) vwCl T s) (hD : va_D A W) (hE : zE A s s.heap) (hS : va_S A s.heap H locs) (hF : ∀ q, va_A W H.size q → A q) : ∀ U : State, U.heap = H → s.WarmedH U.vm → gPcE dC dI H.size W T av av.toArray U := fun U hU hW =>
  ⟨rfl, by rw [hU], by rw [hU]; exact hP, va_K.moved hW.alike hK, hD.weaken (fun _ _ _ _ => trivial), hE.pass hS hU hW hF⟩
abbrev gPc (dC : Nat → ClassId) (dI : Nat → Nat → Nat) (sz : Nat) (W : va_W) (T : List (ClassId × FieldType)) (av : List Value) : Array Value → State → Prop := va_Pc av (fun U => U.heap.size = sz ∧ va_P (dC, dI) vwCl W U.heap ∧ va_K (dC, dI) vwCl T U ∧ va_D (fun _ => True) W)
theorem gPc_blind {dC : Nat → ClassId} {dI : Nat → Nat → Nat} {sz : Nat} {W : va_W} {T : List (ClassId × FieldType)} {av : List Value} : FrameBlind (gPc dC dI sz W T av) := fun a U g mk q => by
  obtain ⟨q0, q1, qP, qK, qD⟩ := q
  exact ⟨q0, q1, qP, va_K.moved (u := U) (U := U.calling g mk a) (Vm.Alike.refl U.vm) qK, qD⟩
theorem gPc_pass {dC : Nat → ClassId} {dI : Nat → Nat → Nat} {W : va_W} {T : List (ClassId × FieldType)} {av : List Value} {A : Nat → Prop} {s : State} {H : Heap}
    (hP : va_P (dC, dI) vwCl W H) (hK : va_K (dC, dI) vwCl T s) (hD : va_D A W) : ∀ U : State, U.heap = H → s.WarmedH U.vm → gPc dC dI H.size W T av av.toArray U := fun U hU hW =>
  ⟨rfl, by rw [hU], by rw [hU]; exact hP, va_K.moved hW.alike hK, hD.weaken (fun _ _ _ _ => trivial)⟩
theorem zP_nil {D : va_G} {cl : List vw_C} {H : Heap} : va_P D cl [] H := fun _ _ h => nomatch h
theorem zD_nil {A : Nat → Prop} : va_D A [] := ⟨fun _ _ _ _ h => (nomatch h), fun _ _ h => (nomatch h)⟩
/-- the empty row that every new list begins with -/
def zD (e0 : Nat) (A : Nat → Prop) (U : State) (H : Heap) : Prop := va_Z "java/util/ArrayList" "DEFAULTCAPACITY_EMPTY_ELEMENTDATA" "[Ljava/lang/Object;" (.ref e0) A U H ∧ va_T (.object "java/lang/Object") e0 0 (fun _ => .null) A U H
theorem zD.pass {e0 : Nat} {A A1 : Nat → Prop} {s U : State} {H : Heap} {locs : List Loc} (h : zD e0 A s s.heap) (hS : va_S A s.heap H locs) (hU : U.heap = H) (hW : s.WarmedH U.vm) (hA : ∀ q, A1 q → A q) : zD e0 A1 U U.heap := by
  subst hU
  exact ⟨va_Z.moved hW.alike ((h.1.kept hS.2.1).narrow hA), va_T.moved hW.alike ((h.2.kept hS.2.1).narrow hA)⟩
theorem zD.blind {e0 : Nat} {A : Nat → Prop} {U : State} {g : JFrame} {mk : MethodId} {a : Array Value} (h : zD e0 A U U.heap) : zD e0 A (U.calling g mk a) (U.calling g mk a).heap :=
  ⟨va_Z.moved (u := U) (U := U.calling g mk a) (Vm.Alike.refl U.vm) h.1, va_T.moved (u := U) (U := U.calling g mk a) (Vm.Alike.refl U.vm) h.2⟩
abbrev gPcD (dC : Nat → ClassId) (dI : Nat → Nat → Nat) (sz : Nat) (W : va_W) (T : List (ClassId × FieldType)) (e0 : Nat) (av : List Value) : Array Value → State → Prop := va_Pc av (fun U => U.heap.size = sz ∧ va_P (dC, dI) vwCl W U.heap ∧ va_K (dC, dI) vwCl T U ∧ va_D (fun _ => True) W ∧ zE (va_A W sz) U U.heap ∧ zD e0 (va_A W sz) U U.heap)
theorem gPcD_blind {dC : Nat → ClassId} {dI : Nat → Nat → Nat} {sz e0 : Nat} {W : va_W} {T : List (ClassId × FieldType)} {av : List Value} : FrameBlind (gPcD dC dI sz W T e0 av) := fun a U g mk q => by
  obtain ⟨q0, q1, qP, qK, qD, qE, qZ⟩ := q
  exact ⟨q0, q1, qP, va_K.moved (u := U) (U := U.calling g mk a) (Vm.Alike.refl U.vm) qK, qD, qE.blind, qZ.blind⟩
theorem gPcD_pass {dC : Nat → ClassId} {dI : Nat → Nat → Nat} {e0 : Nat} {W : va_W} {T : List (ClassId × FieldType)} {av : List Value} {A : Nat → Prop} {s : State} {H : Heap} {locs : List Loc}
    (hP : va_P (dC, dI) vwCl W H) (hK : va_K (dC, dI) vwCl T s) (hD : va_D A W) (hE : zE A s s.heap) (hZ : zD e0 A s s.heap) (hS : va_S A s.heap H locs) (hF : ∀ q, va_A W H.size q → A q) : ∀ U : State, U.heap = H → s.WarmedH U.vm → gPcD dC dI H.size W T e0 av av.toArray U := fun U hU hW =>
  ⟨rfl, by rw [hU], by rw [hU]; exact hP, va_K.moved hW.alike hK, hD.weaken (fun _ _ _ _ => trivial), hE.pass hS hU hW hF, hZ.pass hS hU hW hF⟩
theorem zlc (x : Int64) : lg_cmp x x = 0 := by
  unfold lg_cmp
  simp
/-- what is thrown here: of the class E, old cells as they were but where A says -/
abbrev zX (px : Prop) (E : String) (A : Nat → Prop) : String → State → State → Prop := vx_X (fun _ : Unit => px) (fun E' _ _ => E' = E) A
theorem zot : (zExc.map fun E => (Cond.castable E E : Cond)).all vx_ot = true ∧ (zDec.map fun q => (Cond.declares q : Cond)).all vx_ot = true := by decide +kernel
def zBad (E : String) : List Cond := .castable E E :: zDec.map fun q => (Cond.declares q : Cond)
theorem zBad_ok {E : String} (hE : E ∈ zExc) {args : Array Value} {s : State} (h : zT s) : ∀ w ∈ zBad E, w.before args s = true := by
  intro w hw
  rcases List.mem_cons.mp hw with e | hw
  · rw [e]; exact va_Nw.use rfl (h.2.1 E hE)
  · obtain ⟨q, hq, e⟩ := List.mem_map.mp hw
    rw [← e]; exact va_Nw.use rfl (h.2.2.1 q hq)
variable {p : Program} {l : Launch} {e : Env} {R : Room} {s : State} {m : MethodId} {args : Array Value} {below : List Frame} {meth : Method} {c : Code} {H : Heap} {locs : List Loc} {cells slots : Nat}
/-- 'throw new E("text")' in the class -/
theorem zThrow {mc ms : Nat} {free : Addr → Prop} {ls : Array Slot} {rest : List Value} {Qc : Array Value → State → Outcome → State → Prop} {cc : ByteArray} {pc : Nat} {A : Nat → Prop} {px : Prop} {E text : String} {ik is ic : Nat} {Ts : List Cond}
    (hx : p.tables.exec = Jvm.exec) (hb : c.code = cc) (hst : l.stackTraces = false) (hown : s.vm.findClass RX7 = some m.cls) (hts : ∀ w ∈ Ts, w.before args s = true) (hE : zE A s s.heap) (hS : va_S A s.heap H locs) (hsz : ls.size = c.maxLocals)
    (hEx : E ∈ zExc) (hfit : Bundle.fit E = true) (htx : (is, text) ∈ zStr) (hk : Cond.classLink RX7 ik E ∈ Ts) (hini : Cond.initialized E ∈ Ts) (hG : ∀ w ∈ (vx_atS RX7 ic E zNames).filter goodWord, w ∈ Ts)
    (hBad : ∀ w ∈ (vx_atS RX7 ic E zNames).filter (fun w => !goodWord w), w ∈ zBad E) (hot : (vx_atS RX7 ic E zNames).all vx_ot = true)
    (d0 : decode cc pc = .ok (.new ik, 3)) (d3 : decode cc (pc + 3) = .ok (.dup, 1)) (d4 : decode cc (pc + 4) = .ok (.ldc is, 2)) (d6 : decode cc (pc + 6) = .ok (.invokespecial ic, 3)) (d9 : decode cc (pc + 9) = .ok (.athrow, 1))
    (hnt : ∀ x ∈ c.exceptionTable.toList, False) (hRf : 6 ≤ R.frames) (hRl : (rest.map fun v => v.category).sum + 82 ≤ R.locals) (hRc : cells + 1 ≤ R.cells) (hRs : slots + 6 ≤ R.slots) (hlocks : meth.locks = false)
    (hpx : px) (hf : ∀ z ∈ locs, free z.base) (hc : cells + 1 ≤ mc) (hs : slots + 6 ≤ ms) :
    W p l e R s m args below meth c H locs cells slots (vx_MQ below Qc (zX px E A) args s mc ms free) (F0 m pc ls rest) := by
  obtain ⟨sa, hsa⟩ := hE.2.2.1 _ htx
  exact vx_throwS hx hb hst (names := zNames) hown hfit (by decide) (hts _ hk) (hts _ hini) hsa
    (vx_hat (fun w hw => hts w (hG w hw)) hBad (zBad_ok hEx hE.2.2))
    (fun w hw => by
      rcases List.mem_cons.mp hw with e | hw
      · rw [e]; rfl
      · rcases List.mem_cons.mp hw with e | hw
        · rw [e]; rfl
        · exact List.all_eq_true.mp hot w hw) hE.1 hE.2.1 hS hsz d0 d3 d4 d6 d9 (fun x hx => (hnt x hx).elim) (by simp only [List.length_cons, List.length_nil]; omega) (by simp only [List.length_cons, List.length_nil]; omega) hRc hRs hlocks
    (fun t _ h1 h2 => ⟨(), hpx, rfl, zF hS h1 h2⟩) hf hc hs
/-- an exception of a callee goes on to the caller -/
theorem zOut {mc ms : Nat} {free : Addr → Prop} {ls : Array Slot} {rest : List Value} {Qc : Array Value → State → Outcome → State → Prop} {pc : Nat} {A : Nat → Prop} {px : Prop} {E : String} {ce : Cell} {q : Addr}
    (hnt : ∀ x ∈ c.exceptionTable.toList, False) (hlocks : meth.locks = false) (hcell : H[q]? = some ce) (hv : ce.vm = .none) (hcl : s.vm.findClass E = some ce.cls) (hS : va_S A s.heap H locs) (hpx : px) (hf : ∀ z ∈ locs, free z.base) (hc : cells ≤ mc) (hs : slots ≤ ms) :
    vx_W p l e R s m args below meth c H locs cells slots (vx_MQ below Qc (zX px E A) args s mc ms free) (F0 m pc ls rest) q :=
  vx_out (fun x hx => (hnt x hx).elim) hlocks hcell hv hcl (fun t ht _ => ⟨(), hpx, rfl, hS.F ht⟩) hf hc hs
/-- 'throw new E("text")' in the class, the text by a wide index -/
theorem zThrowW {mc ms : Nat} {free : Addr → Prop} {ls : Array Slot} {rest : List Value} {Qc : Array Value → State → Outcome → State → Prop} {cc : ByteArray} {pc : Nat} {A : Nat → Prop} {px : Prop} {E text : String} {ik is ic : Nat} {Ts : List Cond}
    (hx : p.tables.exec = Jvm.exec) (hb : c.code = cc) (hst : l.stackTraces = false) (hown : s.vm.findClass RX7 = some m.cls) (hts : ∀ w ∈ Ts, w.before args s = true) (hE : zE A s s.heap) (hS : va_S A s.heap H locs) (hsz : ls.size = c.maxLocals)
    (hEx : E ∈ zExc) (hfit : Bundle.fit E = true) (htx : (is, text) ∈ zStr) (hk : Cond.classLink RX7 ik E ∈ Ts) (hini : Cond.initialized E ∈ Ts) (hG : ∀ w ∈ (vx_atS RX7 ic E zNames).filter goodWord, w ∈ Ts)
    (hBad : ∀ w ∈ (vx_atS RX7 ic E zNames).filter (fun w => !goodWord w), w ∈ zBad E) (hot : (vx_atS RX7 ic E zNames).all vx_ot = true)
    (d0 : decode cc pc = .ok (.new ik, 3)) (d3 : decode cc (pc + 3) = .ok (.dup, 1)) (d4 : decode cc (pc + 4) = .ok (.ldc_w is, 3)) (d7 : decode cc (pc + 7) = .ok (.invokespecial ic, 3)) (d10 : decode cc (pc + 10) = .ok (.athrow, 1))
    (hnt : ∀ x ∈ c.exceptionTable.toList, False) (hRf : 6 ≤ R.frames) (hRl : (rest.map fun v => v.category).sum + 82 ≤ R.locals) (hRc : cells + 1 ≤ R.cells) (hRs : slots + 6 ≤ R.slots) (hlocks : meth.locks = false)
    (hpx : px) (hf : ∀ z ∈ locs, free z.base) (hc : cells + 1 ≤ mc) (hs : slots + 6 ≤ ms) :
    W p l e R s m args below meth c H locs cells slots (vx_MQ below Qc (zX px E A) args s mc ms free) (F0 m pc ls rest) := by
  obtain ⟨sa, hsa⟩ := hE.2.2.1 _ htx
  exact vx_throwSW hx hb hst (names := zNames) hown hfit (by decide) (hts _ hk) (hts _ hini) hsa
    (vx_hat (fun w hw => hts w (hG w hw)) hBad (zBad_ok hEx hE.2.2))
    (fun w hw => by
      rcases List.mem_cons.mp hw with e | hw
      · rw [e]; rfl
      · rcases List.mem_cons.mp hw with e | hw
        · rw [e]; rfl
        · exact List.all_eq_true.mp hot w hw) hE.1 hE.2.1 hS hsz d0 d3 d4 d7 d10 (fun x hx => (hnt x hx).elim) (by simp only [List.length_cons, List.length_nil]; omega) (by simp only [List.length_cons, List.length_nil]; omega) hRc hRs hlocks
    (fun t _ h1 h2 => ⟨(), hpx, rfl, zF hS h1 h2⟩) hf hc hs
/-- a loop from 0 on: I what holds at its head, with i rounds gone by -/
theorem zloop {N head : Nat} {Q : State → Prop} (I : Nat → Heap → List Loc → Array Slot → Prop)
    (step : ∀ (i : Nat) (H : Heap) (locs : List Loc) (ls : Array Slot), i ≤ N → I i H locs ls →
      (i < N → ∀ (H1 : Heap) (locs1 : List Loc) (ls1 : Array Slot), I (i + 1) H1 locs1 ls1 → W p l e R s m args below meth c H1 locs1 cells slots Q (F0 m head ls1 [])) →
      W p l e R s m args below meth c H locs cells slots Q (F0 m head ls [])) :
    ∀ (i : Nat) (H : Heap) (locs : List Loc) (ls : Array Slot), i ≤ N → I i H locs ls → W p l e R s m args below meth c H locs cells slots Q (F0 m head ls []) := by
  have key : ∀ (n i : Nat) (H : Heap) (locs : List Loc) (ls : Array Slot), i + n = N → I i H locs ls → W p l e R s m args below meth c H locs cells slots Q (F0 m head ls []) := by
    intro n
    induction n with
    | zero => intro i H locs ls hi h; exact step i H locs ls (by omega) h (fun hlt => absurd hlt (by omega))
    | succ n ih => intro i H locs ls hi h; exact step i H locs ls (by omega) h (fun _ H1 locs1 ls1 h1 => ih (i + 1) H1 locs1 ls1 (by omega) h1)
  intro i H locs ls hi h
  exact key (N - i) i H locs ls (by omega) h
end ZBase
