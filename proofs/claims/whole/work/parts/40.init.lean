/-! CONSTRUCTORS -/
def aoOK (U : State) : Prop := ∀ args : Array Value, (Cond.arrayOver (.array .int)).before args U = true
theorem ao_moved {s U : State} (h : s.vm.Alike U.vm) {a a' : Array Value} (w : (Cond.arrayOver (.array .int)).before a s = true) : (Cond.arrayOver (.array .int)).before a' U = true := by
  rw [← Cond.arrayOver_setVmC (args := a) h] at w
  exact w
/-- nest words of the constructors, and that an int[][] has been made before -/
def nwC (U : State) : Prop := nwOK U ∧ va_Nw (.methodLinkNest RX6 9 yX3_init RX6) U ∧ va_Nw (.methodLinkNest RX6 18 yX5_init RX6) U ∧ va_Nw (.methodLinkNest RX6 47 yX4_init RX6) U ∧ va_Nw (.methodLinkNest RX6 54 yX1_init RX6) U ∧ aoOK U
theorem nwC.warm {s U : State} (h : nwC s) (hW : s.WarmedH U.vm) : nwC U := ⟨nwOK.warm hW h.1, h.2.1.warmM hW, h.2.2.1.warmM hW, h.2.2.2.1.warmM hW, h.2.2.2.2.1.warmM hW, fun a => ao_moved hW.alike (h.2.2.2.2.2 a)⟩
theorem nwC.same {u U : State} (h : nwC u) (hv : u.vm = U.vm) : nwC U := ⟨nwOK.same hv h.1, h.2.1.same rfl hv, h.2.2.1.same rfl hv, h.2.2.2.1.same rfl hv, h.2.2.2.2.1.same rfl hv, fun a => ao_moved (by rw [hv]; exact Vm.Alike.refl _) (h.2.2.2.2.2 a)⟩
def PW (D : va_G) (cs : ClassId × ClassId × ClassId) (sz : Nat) (ws : va_W) (U : State) : Prop := U.heap.size = sz ∧ va_P D classes ws U.heap ∧ va_K D classes (tysOf cs) U ∧ va_D (fun _ => True) ws ∧ nwC U
def QW (D : va_G) (cs : ClassId × ClassId × ClassId) (A : Nat → Prop) (ws : va_W) (t : State) : Prop := va_P D classes ws t.heap ∧ va_K D classes (tysOf cs) t ∧ va_D A ws
theorem PW_blind (D : va_G) (cs : ClassId × ClassId × ClassId) (sz : Nat) (ws : va_W) (av : List Value) : FrameBlind (va_Pc av (PW D cs sz ws)) := fun a U g mk q => by
  obtain ⟨q0, q1, qP, qK, qD, qN⟩ := q
  exact ⟨q0, q1, qP, va_K.moved (u := U) (U := U.calling g mk a) (Vm.Alike.refl U.vm) qK, qD, qN.same (u := U) (U := U.calling g mk a) rfl⟩
def rmC (M : Meth) (mc ms : Nat) : Room := { frames := mD M, cells := mc, slots := ms, locals := 40 * mD M }
theorem K_int {D : va_G} {cs : ClassId × ClassId × ClassId} {U : State} {cA : ClassId} (h : va_K D classes (tysOf cs ++ [(cA, .int)]) U) : cs.1 = cA := by
  have h1 : U.vm.findClass ("[" ++ FieldType.int.toString) = some cs.1 := (h.2 0 _ rfl).2
  have h2 : U.vm.findClass ("[" ++ FieldType.int.toString) = some cA := (h.2 3 _ rfl).2
  exact Option.some.inj (h1.symm.trans h2)
theorem K_long {D : va_G} {cs : ClassId × ClassId × ClassId} {U : State} {cA : ClassId} (h : va_K D classes (tysOf cs ++ [(cA, .long)]) U) : cs.2.1 = cA := by
  have h1 : U.vm.findClass ("[" ++ FieldType.long.toString) = some cs.2.1 := (h.2 1 _ rfl).2
  have h2 : U.vm.findClass ("[" ++ FieldType.long.toString) = some cA := (h.2 3 _ rfl).2
  exact Option.some.inj (h1.symm.trans h2)

theorem dvX0 : ∀ j, j < 11 → defaultValue (tyX0 j) = vp_V [.null, .null, .null, .int 0, .int 0, .int 0, .int 0, .long 0, .long 0, .int 0, .int 0] j := by
  intro j hj
  rcases (show j = 0 ∨ j = 1 ∨ j = 2 ∨ j = 3 ∨ j = 4 ∨ j = 5 ∨ j = 6 ∨ j = 7 ∨ j = 8 ∨ j = 9 ∨ j = 10 by omega) with rfl | rfl | rfl | rfl | rfl | rfl | rfl | rfl | rfl | rfl | rfl <;> rfl

theorem dvX1 : ∀ j, j < 4 → defaultValue (tyX1 j) = vp_V [.int 0, .int 0, .int 0, .int 0] j := by
  intro j hj
  rcases (show j = 0 ∨ j = 1 ∨ j = 2 ∨ j = 3 by omega) with rfl | rfl | rfl | rfl <;> rfl

theorem dvX2 : ∀ j, j < 4 → defaultValue (tyX2 j) = vp_V [.null, .null, .null, .int 0] j := by
  intro j hj
  rcases (show j = 0 ∨ j = 1 ∨ j = 2 ∨ j = 3 by omega) with rfl | rfl | rfl | rfl <;> rfl

theorem dvX3 : ∀ j, j < 2 → defaultValue (tyX3 j) = vp_V [.null, .null] j := by
  intro j hj
  rcases (show j = 0 ∨ j = 1 by omega) with rfl | rfl <;> rfl

theorem dvX4 : ∀ j, j < 3 → defaultValue (tyX4 j) = vp_V [.null, .null, .int 0] j := by
  intro j hj
  rcases (show j = 0 ∨ j = 1 ∨ j = 2 by omega) with rfl | rfl | rfl <;> rfl

theorem dvX5 : ∀ j, j < 7 → defaultValue (tyX5 j) = vp_V [.null, .null, .null, .null, .null, .null, .int 0] j := by
  intro j hj
  rcases (show j = 0 ∨ j = 1 ∨ j = 2 ∨ j = 3 ∨ j = 4 ∨ j = 5 ∨ j = 6 by omega) with rfl | rfl | rfl | rfl | rfl | rfl | rfl <;> rfl

theorem dvX6 : ∀ j, j < 7 → defaultValue (tyX6 j) = vp_V [.null, .null, .null, .null, .null, .null, .null] j := by
  intro j hj
  rcases (show j = 0 ∨ j = 1 ∨ j = 2 ∨ j = 3 ∨ j = 4 ∨ j = 5 ∨ j = 6 by omega) with rfl | rfl | rfl | rfl | rfl | rfl | rfl <;> rfl

theorem dvX7 : ∀ j, j < 22 → defaultValue (tyX7 j) = vp_V [.int 0, .null, .null, .null, .null, .null, .null, .null, .null, .int 0, .int 0, .int 0, .int 0, .int 0, .null, .int 0, .null, .int 0, .int 0, .int 0, .int 0, .int 0] j := by
  intro j hj
  rcases (show j = 0 ∨ j = 1 ∨ j = 2 ∨ j = 3 ∨ j = 4 ∨ j = 5 ∨ j = 6 ∨ j = 7 ∨ j = 8 ∨ j = 9 ∨ j = 10 ∨ j = 11 ∨ j = 12 ∨ j = 13 ∨ j = 14 ∨ j = 15 ∨ j = 16 ∨ j = 17 ∨ j = 18 ∨ j = 19 ∨ j = 20 ∨ j = 21 by omega) with rfl | rfl | rfl | rfl | rfl | rfl | rfl | rfl | rfl | rfl | rfl | rfl | rfl | rfl | rfl | rfl | rfl | rfl | rfl | rfl | rfl | rfl <;> rfl

abbrev mX0_init : Meth := (yX0_init, cX0_init, 4, none, 2)
theorem mIX0_init : Cond.code (mN mX0_init) (mC mX0_init) (mX mX0_init) (mR mX0_init) ∈ TW := TW_of 127 (by decide +kernel) (by decide +kernel)
abbrev mX1_init : Meth := (yX1_init, cX1_init, 1, none, 2)
theorem mIX1_init : Cond.code (mN mX1_init) (mC mX1_init) (mX mX1_init) (mR mX1_init) ∈ TW := TW_of 206 (by decide +kernel) (by decide +kernel)
abbrev mX2_init : Meth := (yX2_init, cX2_init, 3, none, 2)
theorem mIX2_init : Cond.code (mN mX2_init) (mC mX2_init) (mX mX2_init) (mR mX2_init) ∈ TW := TW_of 167 (by decide +kernel) (by decide +kernel)
abbrev mX3_init : Meth := (yX3_init, cX3_init, 1, none, 2)
theorem mIX3_init : Cond.code (mN mX3_init) (mC mX3_init) (mX mX3_init) (mR mX3_init) ∈ TW := TW_of 67 (by decide +kernel) (by decide +kernel)
abbrev mX4_init : Meth := (yX4_init, cX4_init, 1, none, 2)
theorem mIX4_init : Cond.code (mN mX4_init) (mC mX4_init) (mX mX4_init) (mR mX4_init) ∈ TW := TW_of 187 (by decide +kernel) (by decide +kernel)
abbrev mX5_init : Meth := (yX5_init, cX5_init, 1, none, 2)
theorem mIX5_init : Cond.code (mN mX5_init) (mC mX5_init) (mX mX5_init) (mR mX5_init) ∈ TW := TW_of 86 (by decide +kernel) (by decide +kernel)
abbrev mX6_init : Meth := (yX6_init, cX6_init, 1, none, 8)
theorem mIX6_init : Cond.code (mN mX6_init) (mC mX6_init) (mX mX6_init) (mR mX6_init) ∈ TW := TW_of 59 (by decide +kernel) (by decide +kernel)
abbrev mX7_init : Meth := (yX7_init, cX7_init, 2, none, 8)
theorem mIX7_init : Cond.code (mN mX7_init) (mC mX7_init) (mX mX7_init) (mR mX7_init) ∈ TW := TW_of 681 (by decide +kernel) (by decide +kernel)
theorem n_X1 (l : Launch) (D : va_G) (cs : ClassId × ClassId × ClassId) (h0 sz : Nat) : Met l (mN mX1_init) (wsM mX1_init) (rmC mX1_init 0 0) (va_Pc [.ref h0] (PW D cs sz [(h0, .inr (1, [.int 0, .int 0, .int 0, .int 0]))])) (va_Qv (fun _ : Unit => True) (fun (u : Unit) t => QW D cs (va_A [(h0, .inr (1, [.int 0, .int 0, .int 0, .int 0]))] sz) [(h0, .inr (1, [.int 20, .int 30, .int 300, .int 3]))] t) (va_A [(h0, .inr (1, [.int 0, .int 0, .int 0, .int 0]))] sz)) 0 0 (va_A [(h0, .inr (1, [.int 0, .int 0, .int 0, .int 0]))] sz) := by
  refine Met.ofWF (cc := cX1_init) (maxL := 1) (ret := none) (ws' := TW) (plainFor_of_name (by decide)) rfl ?_
  intro p e s m args below meth c s₁ B hml hv
  obtain ⟨rfl, hsz, hP, hK, hD0, hN⟩ := hv
  have hx := B.exec
  have hb := B.bytes
  have hr := B.returns
  have hts0 := atoms_spec (ws := wsM mX1_init) B.pre
  have hts : ∀ w ∈ TW, w.before ([.ref h0] : List Value).toArray s = true := fun w hw => hts0 w (List.mem_cons_of_mem _ hw)
  have hown : s.vm.findClass RX1 = some m.cls := findClass_of_methodNamed B.named
  have hlocks := B.notSynchronized
  have hin : meth.name = "<init>" := (name_of_methodNamed B.named B.method).1
  subst hsz
  have hD := hD0.self (sz := s.heap.size)
  generalize hAe : va_A [(h0, .inr (1, [.int 0, .int 0, .int 0, .int 0]))] s.heap.size = A at hD ⊢
  have hA : ∀ q : Nat, s.heap.size ≤ q → A q := fun q h => by rw [← hAe]; exact Or.inr h
  have hS : va_S A s.heap s.heap [] := va_S.rf
  have hl := lv_entry ([.ref h0]) (n := 1) (Nat.le_of_ble_eq_true rfl)
  rw [lg_entry_eq]
  generalize (lg_sl ([.ref h0]) ++ List.replicate (1 - (lg_sl ([.ref h0])).length) Slot.unset).toArray = ls at hl ⊢
  have hl : lv_has ls 1 [(0, .ref h0)] := hl
  refine lv_aload_n hx hb dX1_init_0 rfl (lv_at hl 0 rfl) ?_
  refine W.objInit hx hb hown (hts _ (TW_of 207 (by decide +kernel) (by decide +kernel))) (hts _ (TW_of 61 (by decide +kernel) (by decide +kernel))) (hts _ (TW_of 62 (by decide +kernel) (by decide +kernel))) rfl (by rw [hml]; exact hl.1) rfl dX1_init_1 (Nat.le_of_ble_eq_true rfl) (Nat.le_of_ble_eq_true rfl) ?_
  refine W.eq (g2 := F0 m 4 ls []) rfl ?_
  refine lv_aload_n hx hb dX1_init_4 rfl (lv_at hl 0 rfl) ?_
  refine lv_bipush (v := 20) hx hb dX1_init_5 (by decide) ?_
  refine va_put (D := D) (ci := 1) (v := .int 20) (ty := .int) (C := RX1) (T := TX1) (N := 4) hx hb hts wkX1 tyX1 tyX1_ok nmX1 hown hK hP hD hS 0 rfl rfl 0 (by decide) (hts _ (TW_of 208 (by decide +kernel) (by decide +kernel))) (fun _ h9 => h9) rfl (by decide +kernel) rfl rfl (Nat.le_of_ble_eq_true rfl) dX1_init_7 (fun H locs hP hD hS => ?_)
  have hP : va_P D classes [(h0, .inr (1, [.int 20, .int 0, .int 0, .int 0]))] H := hP
  have hD : va_D A [(h0, .inr (1, [.int 20, .int 0, .int 0, .int 0]))] := hD
  refine lv_aload_n hx hb dX1_init_10 rfl (lv_at hl 0 rfl) ?_
  refine lv_bipush (v := 30) hx hb dX1_init_11 (by decide) ?_
  refine va_put (D := D) (ci := 1) (v := .int 30) (ty := .int) (C := RX1) (T := TX1) (N := 4) hx hb hts wkX1 tyX1 tyX1_ok nmX1 hown hK hP hD hS 0 rfl rfl 1 (by decide) (hts _ (TW_of 210 (by decide +kernel) (by decide +kernel))) (fun _ h9 => h9) rfl (by decide +kernel) rfl rfl (Nat.le_of_ble_eq_true rfl) dX1_init_13 (fun H locs hP hD hS => ?_)
  have hP : va_P D classes [(h0, .inr (1, [.int 20, .int 30, .int 0, .int 0]))] H := hP
  have hD : va_D A [(h0, .inr (1, [.int 20, .int 30, .int 0, .int 0]))] := hD
  refine lv_aload_n hx hb dX1_init_16 rfl (lv_at hl 0 rfl) ?_
  refine lv_sipush (v := 300) hx hb dX1_init_17 (by decide) ?_
  refine va_put (D := D) (ci := 1) (v := .int 300) (ty := .int) (C := RX1) (T := TX1) (N := 4) hx hb hts wkX1 tyX1 tyX1_ok nmX1 hown hK hP hD hS 0 rfl rfl 2 (by decide) (hts _ (TW_of 212 (by decide +kernel) (by decide +kernel))) (fun _ h9 => h9) rfl (by decide +kernel) rfl rfl (Nat.le_of_ble_eq_true rfl) dX1_init_20 (fun H locs hP hD hS => ?_)
  have hP : va_P D classes [(h0, .inr (1, [.int 20, .int 30, .int 300, .int 0]))] H := hP
  have hD : va_D A [(h0, .inr (1, [.int 20, .int 30, .int 300, .int 0]))] := hD
  refine lv_aload_n hx hb dX1_init_23 rfl (lv_at hl 0 rfl) ?_
  refine lv_iconst (v := 3) hx hb dX1_init_24 (by decide) ?_
  refine va_put (D := D) (ci := 1) (v := .int 3) (ty := .int) (C := RX1) (T := TX1) (N := 4) hx hb hts wkX1 tyX1 tyX1_ok nmX1 hown hK hP hD hS 0 rfl rfl 3 (by decide) (hts _ (TW_of 214 (by decide +kernel) (by decide +kernel))) (fun _ h9 => h9) rfl (by decide +kernel) rfl rfl (Nat.le_of_ble_eq_true rfl) dX1_init_25 (fun H locs hP hD hS => ?_)
  have hP : va_P D classes [(h0, .inr (1, [.int 20, .int 30, .int 300, .int 3]))] H := hP
  have hD : va_D A [(h0, .inr (1, [.int 20, .int 30, .int 300, .int 3]))] := hD
  exact W.vret hx hb hr (fun t ht hW => ⟨⟨(), rfl, trivial, by rw [ht]; exact hP, va_K.moved hW.alike hK, hD⟩, hS.F ht⟩) hS.2.2 dX1_init_28 hlocks

theorem n_X0 (l : Launch) (D : va_G) (cs : ClassId × ClassId × ClassId) (h0 sz : Nat) (h1 : Nat) (h2 : Nat) (h3 : Nat) : Met l (mN mX0_init) (wsM mX0_init) (rmC mX0_init 0 0) (va_Pc [.ref h0, .ref h1, .ref h2, .ref h3] (PW D cs sz [(h0, .inr (0, [.null, .null, .null, .int 0, .int 0, .int 0, .int 0, .long 0, .long 0, .int 0, .int 0]))])) (va_Qv (fun _ : Unit => True) (fun (u : Unit) t => QW D cs (va_A [(h0, .inr (0, [.null, .null, .null, .int 0, .int 0, .int 0, .int 0, .long 0, .long 0, .int 0, .int 0]))] sz) [(h0, .inr (0, [.ref h1, .ref h2, .ref h3, .int 0, .int 0, .int 0, .int 0, .long 0, .long 0, .int 0, .int 0]))] t) (va_A [(h0, .inr (0, [.null, .null, .null, .int 0, .int 0, .int 0, .int 0, .long 0, .long 0, .int 0, .int 0]))] sz)) 0 0 (va_A [(h0, .inr (0, [.null, .null, .null, .int 0, .int 0, .int 0, .int 0, .long 0, .long 0, .int 0, .int 0]))] sz) := by
  refine Met.ofWF (cc := cX0_init) (maxL := 4) (ret := none) (ws' := TW) (plainFor_of_name (by decide)) rfl ?_
  intro p e s m args below meth c s₁ B hml hv
  obtain ⟨rfl, hsz, hP, hK, hD0, hN⟩ := hv
  have hx := B.exec
  have hb := B.bytes
  have hr := B.returns
  have hts0 := atoms_spec (ws := wsM mX0_init) B.pre
  have hts : ∀ w ∈ TW, w.before ([.ref h0, .ref h1, .ref h2, .ref h3] : List Value).toArray s = true := fun w hw => hts0 w (List.mem_cons_of_mem _ hw)
  have hown : s.vm.findClass RX0 = some m.cls := findClass_of_methodNamed B.named
  have hlocks := B.notSynchronized
  have hin : meth.name = "<init>" := (name_of_methodNamed B.named B.method).1
  subst hsz
  have hD := hD0.self (sz := s.heap.size)
  generalize hAe : va_A [(h0, .inr (0, [.null, .null, .null, .int 0, .int 0, .int 0, .int 0, .long 0, .long 0, .int 0, .int 0]))] s.heap.size = A at hD ⊢
  have hA : ∀ q : Nat, s.heap.size ≤ q → A q := fun q h => by rw [← hAe]; exact Or.inr h
  have hS : va_S A s.heap s.heap [] := va_S.rf
  have hl := lv_entry ([.ref h0, .ref h1, .ref h2, .ref h3]) (n := 4) (Nat.le_of_ble_eq_true rfl)
  rw [lg_entry_eq]
  generalize (lg_sl ([.ref h0, .ref h1, .ref h2, .ref h3]) ++ List.replicate (4 - (lg_sl ([.ref h0, .ref h1, .ref h2, .ref h3])).length) Slot.unset).toArray = ls at hl ⊢
  have hl : lv_has ls 4 [(0, .ref h0), (1, .ref h1), (2, .ref h2), (3, .ref h3)] := hl
  refine lv_aload_n hx hb dX0_init_0 rfl (lv_at hl 0 rfl) ?_
  refine W.objInit hx hb hown (hts _ (TW_of 128 (by decide +kernel) (by decide +kernel))) (hts _ (TW_of 61 (by decide +kernel) (by decide +kernel))) (hts _ (TW_of 62 (by decide +kernel) (by decide +kernel))) rfl (by rw [hml]; exact hl.1) rfl dX0_init_1 (Nat.le_of_ble_eq_true rfl) (Nat.le_of_ble_eq_true rfl) ?_
  refine W.eq (g2 := F0 m 4 ls []) rfl ?_
  refine lv_aload_n hx hb dX0_init_4 rfl (lv_at hl 0 rfl) ?_
  refine lv_aload_n hx hb dX0_init_5 rfl (lv_at hl 1 rfl) ?_
  refine va_putF (D := D) (ci := 0) (v := .ref h1) (ty := (.object "WheelStand$Wheel")) (C := RX0) (T := TX0) (N := 11) hx hb hts wkX0 tyX0 tyX0_ok nmX0 hown hK hP hD hS 0 rfl rfl 0 (by decide) (hts _ (TW_of 129 (by decide +kernel) (by decide +kernel))) (fun _ h9 => h9) rfl hin rfl (by decide +kernel) rfl rfl (Nat.le_of_ble_eq_true rfl) dX0_init_6 (fun H locs hP hD hS => ?_)
  have hP : va_P D classes [(h0, .inr (0, [.ref h1, .null, .null, .int 0, .int 0, .int 0, .int 0, .long 0, .long 0, .int 0, .int 0]))] H := hP
  have hD : va_D A [(h0, .inr (0, [.ref h1, .null, .null, .int 0, .int 0, .int 0, .int 0, .long 0, .long 0, .int 0, .int 0]))] := hD
  refine lv_aload_n hx hb dX0_init_9 rfl (lv_at hl 0 rfl) ?_
  refine lv_aload_n hx hb dX0_init_10 rfl (lv_at hl 2 rfl) ?_
  refine va_putF (D := D) (ci := 0) (v := .ref h2) (ty := (.object "WheelStand$Tables")) (C := RX0) (T := TX0) (N := 11) hx hb hts wkX0 tyX0 tyX0_ok nmX0 hown hK hP hD hS 0 rfl rfl 1 (by decide) (hts _ (TW_of 130 (by decide +kernel) (by decide +kernel))) (fun _ h9 => h9) rfl hin rfl (by decide +kernel) rfl rfl (Nat.le_of_ble_eq_true rfl) dX0_init_11 (fun H locs hP hD hS => ?_)
  have hP : va_P D classes [(h0, .inr (0, [.ref h1, .ref h2, .null, .int 0, .int 0, .int 0, .int 0, .long 0, .long 0, .int 0, .int 0]))] H := hP
  have hD : va_D A [(h0, .inr (0, [.ref h1, .ref h2, .null, .int 0, .int 0, .int 0, .int 0, .long 0, .long 0, .int 0, .int 0]))] := hD
  refine lv_aload_n hx hb dX0_init_14 rfl (lv_at hl 0 rfl) ?_
  refine lv_aload_n hx hb dX0_init_15 rfl (lv_at hl 3 rfl) ?_
  refine va_putF (D := D) (ci := 0) (v := .ref h3) (ty := (.array .int)) (C := RX0) (T := TX0) (N := 11) hx hb hts wkX0 tyX0 tyX0_ok nmX0 hown hK hP hD hS 0 rfl rfl 2 (by decide) (hts _ (TW_of 131 (by decide +kernel) (by decide +kernel))) (fun _ h9 => h9) rfl hin rfl (by decide +kernel) rfl rfl (Nat.le_of_ble_eq_true rfl) dX0_init_16 (fun H locs hP hD hS => ?_)
  have hP : va_P D classes [(h0, .inr (0, [.ref h1, .ref h2, .ref h3, .int 0, .int 0, .int 0, .int 0, .long 0, .long 0, .int 0, .int 0]))] H := hP
  have hD : va_D A [(h0, .inr (0, [.ref h1, .ref h2, .ref h3, .int 0, .int 0, .int 0, .int 0, .long 0, .long 0, .int 0, .int 0]))] := hD
  exact W.vret hx hb hr (fun t ht hW => ⟨⟨(), rfl, trivial, by rw [ht]; exact hP, va_K.moved hW.alike hK, hD⟩, hS.F ht⟩) hS.2.2 dX0_init_19 hlocks

theorem n_X2 (l : Launch) (D : va_G) (cs : ClassId × ClassId × ClassId) (h0 sz : Nat) (h1 : Nat) (h2 : Nat) : Met l (mN mX2_init) (wsM mX2_init) (rmC mX2_init 1 5) (va_Pc [.ref h0, .ref h1, .ref h2] (PW D cs sz [(h0, .inr (2, [.null, .null, .null, .int 0]))])) (va_Qv (fun _ : Nat => True) (fun (u : Nat) t => QW D cs (va_A [(h0, .inr (2, [.null, .null, .null, .int 0]))] sz) [(h0, .inr (2, [.ref h1, .ref h2, .ref u, .int 0])), (u, .inl (cs.1, 5, .inl (fun _ => 0)))] t) (va_A [(h0, .inr (2, [.null, .null, .null, .int 0]))] sz)) 1 5 (va_A [(h0, .inr (2, [.null, .null, .null, .int 0]))] sz) := by
  refine Met.ofWF (cc := cX2_init) (maxL := 3) (ret := none) (ws' := TW) (plainFor_of_name (by decide)) rfl ?_
  intro p e s m args below meth c s₁ B hml hv
  obtain ⟨rfl, hsz, hP, hK, hD0, hN⟩ := hv
  have hx := B.exec
  have hb := B.bytes
  have hr := B.returns
  have hts0 := atoms_spec (ws := wsM mX2_init) B.pre
  have hts : ∀ w ∈ TW, w.before ([.ref h0, .ref h1, .ref h2] : List Value).toArray s = true := fun w hw => hts0 w (List.mem_cons_of_mem _ hw)
  have hown : s.vm.findClass RX2 = some m.cls := findClass_of_methodNamed B.named
  have hlocks := B.notSynchronized
  have hin : meth.name = "<init>" := (name_of_methodNamed B.named B.method).1
  subst hsz
  have hD := hD0.self (sz := s.heap.size)
  generalize hAe : va_A [(h0, .inr (2, [.null, .null, .null, .int 0]))] s.heap.size = A at hD ⊢
  have hA : ∀ q : Nat, s.heap.size ≤ q → A q := fun q h => by rw [← hAe]; exact Or.inr h
  have hS : va_S A s.heap s.heap [] := va_S.rf
  have hl := lv_entry ([.ref h0, .ref h1, .ref h2]) (n := 3) (Nat.le_of_ble_eq_true rfl)
  rw [lg_entry_eq]
  generalize (lg_sl ([.ref h0, .ref h1, .ref h2]) ++ List.replicate (3 - (lg_sl ([.ref h0, .ref h1, .ref h2])).length) Slot.unset).toArray = ls at hl ⊢
  have hl : lv_has ls 3 [(0, .ref h0), (1, .ref h1), (2, .ref h2)] := hl
  refine lv_aload_n hx hb dX2_init_0 rfl (lv_at hl 0 rfl) ?_
  refine W.objInit hx hb hown (hts _ (TW_of 168 (by decide +kernel) (by decide +kernel))) (hts _ (TW_of 61 (by decide +kernel) (by decide +kernel))) (hts _ (TW_of 62 (by decide +kernel) (by decide +kernel))) rfl (by rw [hml]; exact hl.1) rfl dX2_init_1 (Nat.le_of_ble_eq_true rfl) (Nat.le_of_ble_eq_true rfl) ?_
  refine W.eq (g2 := F0 m 4 ls []) rfl ?_
  refine lv_aload_n hx hb dX2_init_4 rfl (lv_at hl 0 rfl) ?_
  refine lv_iconst (v := 5) hx hb dX2_init_5 (by decide) ?_
  refine va_newa (D := D) (ty := .int) (N' := 5) (a0 := (5, .inl (fun _ => 0))) hx hb (hts _ (TW_of 81 (by decide +kernel) (by decide +kernel))) rfl hK hP hD hS hA (fun _ => rfl) (by decide) (by decide) (by decide) (Nat.le_of_ble_eq_true rfl) (Nat.le_of_ble_eq_true rfl) dX2_init_6 (fun q6 cA H hK2 hP hD hS => ?_)
  obtain rfl := K_int hK2
  have hP : va_P D classes [(h0, .inr (2, [.null, .null, .null, .int 0])), (q6, .inl (cs.1, 5, .inl (fun _ => 0)))] H := hP
  have hD : va_D A [(h0, .inr (2, [.null, .null, .null, .int 0])), (q6, .inl (cs.1, 5, .inl (fun _ => 0)))] := hD
  refine W.widen (k := 1) (n := 5) (by omega) (by omega) ?_
  refine va_putF (D := D) (ci := 2) (v := .ref q6) (ty := (.array .int)) (C := RX2) (T := TX2) (N := 4) hx hb hts wkX2 tyX2 tyX2_ok nmX2 hown hK hP hD hS 0 rfl rfl 2 (by decide) (hts _ (TW_of 171 (by decide +kernel) (by decide +kernel))) (fun _ h9 => h9) rfl hin rfl (by decide +kernel) rfl rfl (Nat.le_of_ble_eq_true rfl) dX2_init_8 (fun H locs hP hD hS => ?_)
  have hP : va_P D classes [(h0, .inr (2, [.null, .null, .ref q6, .int 0])), (q6, .inl (cs.1, 5, .inl (fun _ => 0)))] H := hP
  have hD : va_D A [(h0, .inr (2, [.null, .null, .ref q6, .int 0])), (q6, .inl (cs.1, 5, .inl (fun _ => 0)))] := hD
  refine lv_aload_n hx hb dX2_init_11 rfl (lv_at hl 0 rfl) ?_
  refine lv_aload_n hx hb dX2_init_12 rfl (lv_at hl 1 rfl) ?_
  refine va_putF (D := D) (ci := 2) (v := .ref h1) (ty := (.object "WheelStand$Wheel")) (C := RX2) (T := TX2) (N := 4) hx hb hts wkX2 tyX2 tyX2_ok nmX2 hown hK hP hD hS 0 rfl rfl 0 (by decide) (hts _ (TW_of 169 (by decide +kernel) (by decide +kernel))) (fun _ h9 => h9) rfl hin rfl (by decide +kernel) rfl rfl (Nat.le_of_ble_eq_true rfl) dX2_init_13 (fun H locs hP hD hS => ?_)
  have hP : va_P D classes [(h0, .inr (2, [.ref h1, .null, .ref q6, .int 0])), (q6, .inl (cs.1, 5, .inl (fun _ => 0)))] H := hP
  have hD : va_D A [(h0, .inr (2, [.ref h1, .null, .ref q6, .int 0])), (q6, .inl (cs.1, 5, .inl (fun _ => 0)))] := hD
  refine lv_aload_n hx hb dX2_init_16 rfl (lv_at hl 0 rfl) ?_
  refine lv_aload_n hx hb dX2_init_17 rfl (lv_at hl 2 rfl) ?_
  refine va_putF (D := D) (ci := 2) (v := .ref h2) (ty := (.object "WheelStand$Gauge")) (C := RX2) (T := TX2) (N := 4) hx hb hts wkX2 tyX2 tyX2_ok nmX2 hown hK hP hD hS 0 rfl rfl 1 (by decide) (hts _ (TW_of 170 (by decide +kernel) (by decide +kernel))) (fun _ h9 => h9) rfl hin rfl (by decide +kernel) rfl rfl (Nat.le_of_ble_eq_true rfl) dX2_init_18 (fun H locs hP hD hS => ?_)
  have hP : va_P D classes [(h0, .inr (2, [.ref h1, .ref h2, .ref q6, .int 0])), (q6, .inl (cs.1, 5, .inl (fun _ => 0)))] H := hP
  have hD : va_D A [(h0, .inr (2, [.ref h1, .ref h2, .ref q6, .int 0])), (q6, .inl (cs.1, 5, .inl (fun _ => 0)))] := hD
  exact W.vret hx hb hr (fun t ht hW => ⟨⟨(q6), rfl, trivial, by rw [ht]; exact hP, va_K.moved hW.alike hK, hD⟩, hS.F ht⟩) hS.2.2 dX2_init_21 hlocks

theorem n_X4 (l : Launch) (D : va_G) (cs : ClassId × ClassId × ClassId) (h0 sz : Nat) : Met l (mN mX4_init) (wsM mX4_init) (rmC mX4_init 2 120) (va_Pc [.ref h0] (PW D cs sz [(h0, .inr (4, [.null, .null, .int 0]))])) (va_Qv (fun _ : Nat × Nat => True) (fun (u : Nat × Nat) t => match u with | (n1, n2) => QW D cs (va_A [(h0, .inr (4, [.null, .null, .int 0]))] sz) [(h0, .inr (4, [.ref n1, .ref n2, .int 0])), (n1, .inl (cs.1, 60, .inl (fun _ => 0))), (n2, .inl (cs.1, 60, .inl (fun _ => 0)))] t) (va_A [(h0, .inr (4, [.null, .null, .int 0]))] sz)) 2 120 (va_A [(h0, .inr (4, [.null, .null, .int 0]))] sz) := by
  refine Met.ofWF (cc := cX4_init) (maxL := 1) (ret := none) (ws' := TW) (plainFor_of_name (by decide)) rfl ?_
  intro p e s m args below meth c s₁ B hml hv
  obtain ⟨rfl, hsz, hP, hK, hD0, hN⟩ := hv
  have hx := B.exec
  have hb := B.bytes
  have hr := B.returns
  have hts0 := atoms_spec (ws := wsM mX4_init) B.pre
  have hts : ∀ w ∈ TW, w.before ([.ref h0] : List Value).toArray s = true := fun w hw => hts0 w (List.mem_cons_of_mem _ hw)
  have hown : s.vm.findClass RX4 = some m.cls := findClass_of_methodNamed B.named
  have hlocks := B.notSynchronized
  have hin : meth.name = "<init>" := (name_of_methodNamed B.named B.method).1
  subst hsz
  have hD := hD0.self (sz := s.heap.size)
  generalize hAe : va_A [(h0, .inr (4, [.null, .null, .int 0]))] s.heap.size = A at hD ⊢
  have hA : ∀ q : Nat, s.heap.size ≤ q → A q := fun q h => by rw [← hAe]; exact Or.inr h
  have hS : va_S A s.heap s.heap [] := va_S.rf
  have hl := lv_entry ([.ref h0]) (n := 1) (Nat.le_of_ble_eq_true rfl)
  rw [lg_entry_eq]
  generalize (lg_sl ([.ref h0]) ++ List.replicate (1 - (lg_sl ([.ref h0])).length) Slot.unset).toArray = ls at hl ⊢
  have hl : lv_has ls 1 [(0, .ref h0)] := hl
  refine lv_aload_n hx hb dX4_init_0 rfl (lv_at hl 0 rfl) ?_
  refine W.objInit hx hb hown (hts _ (TW_of 188 (by decide +kernel) (by decide +kernel))) (hts _ (TW_of 61 (by decide +kernel) (by decide +kernel))) (hts _ (TW_of 62 (by decide +kernel) (by decide +kernel))) rfl (by rw [hml]; exact hl.1) rfl dX4_init_1 (Nat.le_of_ble_eq_true rfl) (Nat.le_of_ble_eq_true rfl) ?_
  refine W.eq (g2 := F0 m 4 ls []) rfl ?_
  refine lv_aload_n hx hb dX4_init_4 rfl (lv_at hl 0 rfl) ?_
  refine lv_bipush (v := 60) hx hb dX4_init_5 (by decide) ?_
  refine va_newa (D := D) (ty := .int) (N' := 60) (a0 := (60, .inl (fun _ => 0))) hx hb (hts _ (TW_of 81 (by decide +kernel) (by decide +kernel))) rfl hK hP hD hS hA (fun _ => rfl) (by decide) (by decide) (by decide) (Nat.le_of_ble_eq_true rfl) (Nat.le_of_ble_eq_true rfl) dX4_init_7 (fun q7 cA H hK2 hP hD hS => ?_)
  obtain rfl := K_int hK2
  have hP : va_P D classes [(h0, .inr (4, [.null, .null, .int 0])), (q7, .inl (cs.1, 60, .inl (fun _ => 0)))] H := hP
  have hD : va_D A [(h0, .inr (4, [.null, .null, .int 0])), (q7, .inl (cs.1, 60, .inl (fun _ => 0)))] := hD
  refine W.widen (k := 1) (n := 60) (by omega) (by omega) ?_
  refine va_putF (D := D) (ci := 4) (v := .ref q7) (ty := (.array .int)) (C := RX4) (T := TX4) (N := 3) hx hb hts wkX4 tyX4 tyX4_ok nmX4 hown hK hP hD hS 0 rfl rfl 0 (by decide) (hts _ (TW_of 189 (by decide +kernel) (by decide +kernel))) (fun _ h9 => h9) rfl hin rfl (by decide +kernel) rfl rfl (Nat.le_of_ble_eq_true rfl) dX4_init_9 (fun H locs hP hD hS => ?_)
  have hP : va_P D classes [(h0, .inr (4, [.ref q7, .null, .int 0])), (q7, .inl (cs.1, 60, .inl (fun _ => 0)))] H := hP
  have hD : va_D A [(h0, .inr (4, [.ref q7, .null, .int 0])), (q7, .inl (cs.1, 60, .inl (fun _ => 0)))] := hD
  refine lv_aload_n hx hb dX4_init_12 rfl (lv_at hl 0 rfl) ?_
  refine lv_bipush (v := 60) hx hb dX4_init_13 (by decide) ?_
  refine va_newa (D := D) (ty := .int) (N' := 60) (a0 := (60, .inl (fun _ => 0))) hx hb (hts _ (TW_of 81 (by decide +kernel) (by decide +kernel))) rfl hK hP hD hS hA (fun _ => rfl) (by decide) (by decide) (by decide) (Nat.le_of_ble_eq_true rfl) (Nat.le_of_ble_eq_true rfl) dX4_init_15 (fun q15 cA H hK2 hP hD hS => ?_)
  obtain rfl := K_int hK2
  have hP : va_P D classes [(h0, .inr (4, [.ref q7, .null, .int 0])), (q7, .inl (cs.1, 60, .inl (fun _ => 0))), (q15, .inl (cs.1, 60, .inl (fun _ => 0)))] H := hP
  have hD : va_D A [(h0, .inr (4, [.ref q7, .null, .int 0])), (q7, .inl (cs.1, 60, .inl (fun _ => 0))), (q15, .inl (cs.1, 60, .inl (fun _ => 0)))] := hD
  refine W.widen (k := 2) (n := 120) (by omega) (by omega) ?_
  refine va_putF (D := D) (ci := 4) (v := .ref q15) (ty := (.array .int)) (C := RX4) (T := TX4) (N := 3) hx hb hts wkX4 tyX4 tyX4_ok nmX4 hown hK hP hD hS 0 rfl rfl 1 (by decide) (hts _ (TW_of 191 (by decide +kernel) (by decide +kernel))) (fun _ h9 => h9) rfl hin rfl (by decide +kernel) rfl rfl (Nat.le_of_ble_eq_true rfl) dX4_init_17 (fun H locs hP hD hS => ?_)
  have hP : va_P D classes [(h0, .inr (4, [.ref q7, .ref q15, .int 0])), (q7, .inl (cs.1, 60, .inl (fun _ => 0))), (q15, .inl (cs.1, 60, .inl (fun _ => 0)))] H := hP
  have hD : va_D A [(h0, .inr (4, [.ref q7, .ref q15, .int 0])), (q7, .inl (cs.1, 60, .inl (fun _ => 0))), (q15, .inl (cs.1, 60, .inl (fun _ => 0)))] := hD
  exact W.vret hx hb hr (fun t ht hW => ⟨⟨(q7, q15), rfl, trivial, by rw [ht]; exact hP, va_K.moved hW.alike hK, hD⟩, hS.F ht⟩) hS.2.2 dX4_init_20 hlocks

theorem n_X3 (l : Launch) (D : va_G) (cs : ClassId × ClassId × ClassId) (h0 sz : Nat) : Met l (mN mX3_init) (wsM mX3_init) (rmC mX3_init 8 114) (va_Pc [.ref h0] (PW D cs sz [(h0, .inr (3, [.null, .null]))])) (va_Qv (fun _ : Nat × Nat => True) (fun (u : Nat × Nat) t => match u with | (n1, n2) => QW D cs (va_A [(h0, .inr (3, [.null, .null]))] sz) [(h0, .inr (3, [.ref n1, .ref n2])), (n1, .inl (cs.2.2, 6, .inr (.inr (.inr (.inr (fun i => if i < 6 then some (n1 + 1 + i) else none)))))), (n1 + 1 + 0, .inl (cs.1, 17, .inl (fun _ => 0))), (n1 + 1 + 1, .inl (cs.1, 17, .inl (fun _ => 0))), (n1 + 1 + 2, .inl (cs.1, 17, .inl (fun _ => 0))), (n1 + 1 + 3, .inl (cs.1, 17, .inl (fun _ => 0))), (n1 + 1 + 4, .inl (cs.1, 17, .inl (fun _ => 0))), (n1 + 1 + 5, .inl (cs.1, 17, .inl (fun _ => 0))), (n2, .inl (cs.1, 6, .inl (upd (upd (upd (upd (upd (upd (fun _ => 0) 0 (-1)) 1 (-1)) 2 (-1)) 3 (-1)) 4 (-1)) 5 (-1))))] t) (va_A [(h0, .inr (3, [.null, .null]))] sz)) 8 114 (va_A [(h0, .inr (3, [.null, .null]))] sz) := by
  refine Met.ofWF (cc := cX3_init) (maxL := 1) (ret := none) (ws' := TW) (plainFor_of_name (by decide)) rfl ?_
  intro p e s m args below meth c s₁ B hml hv
  obtain ⟨rfl, hsz, hP, hK, hD0, hN⟩ := hv
  have hx := B.exec
  have hb := B.bytes
  have hr := B.returns
  have hts0 := atoms_spec (ws := wsM mX3_init) B.pre
  have hts : ∀ w ∈ TW, w.before ([.ref h0] : List Value).toArray s = true := fun w hw => hts0 w (List.mem_cons_of_mem _ hw)
  have hown : s.vm.findClass RX3 = some m.cls := findClass_of_methodNamed B.named
  have hlocks := B.notSynchronized
  have hin : meth.name = "<init>" := (name_of_methodNamed B.named B.method).1
  subst hsz
  have hD := hD0.self (sz := s.heap.size)
  generalize hAe : va_A [(h0, .inr (3, [.null, .null]))] s.heap.size = A at hD ⊢
  have hA : ∀ q : Nat, s.heap.size ≤ q → A q := fun q h => by rw [← hAe]; exact Or.inr h
  have hS : va_S A s.heap s.heap [] := va_S.rf
  have hl := lv_entry ([.ref h0]) (n := 1) (Nat.le_of_ble_eq_true rfl)
  rw [lg_entry_eq]
  generalize (lg_sl ([.ref h0]) ++ List.replicate (1 - (lg_sl ([.ref h0])).length) Slot.unset).toArray = ls at hl ⊢
  have hl : lv_has ls 1 [(0, .ref h0)] := hl
  refine lv_aload_n hx hb dX3_init_0 rfl (lv_at hl 0 rfl) ?_
  refine W.objInit hx hb hown (hts _ (TW_of 68 (by decide +kernel) (by decide +kernel))) (hts _ (TW_of 61 (by decide +kernel) (by decide +kernel))) (hts _ (TW_of 62 (by decide +kernel) (by decide +kernel))) rfl (by rw [hml]; exact hl.1) rfl dX3_init_1 (Nat.le_of_ble_eq_true rfl) (Nat.le_of_ble_eq_true rfl) ?_
  refine W.eq (g2 := F0 m 4 ls []) rfl ?_
  refine lv_aload_n hx hb dX3_init_4 rfl (lv_at hl 0 rfl) ?_
  refine lv_bipush (v := 6) hx hb dX3_init_5 (by decide) ?_
  refine lv_bipush (v := 17) hx hb dX3_init_7 (by decide) ?_
  refine va_mna2 (D := D) (cA := cs.2.2) (cy := cs.1) (N' := 6) (K' := 17) hx hb hown (hts _ (TW_of 69 (by decide +kernel) (by decide +kernel))) (hN.2.2.2.2.2 _) (hts _ (TW_of 81 (by decide +kernel) (by decide +kernel))) (hK.2 2 _ rfl).2 (hK.2 0 _ rfl).2 hK hP hD hS hA (by decide) (by decide) (by decide) (by decide) (by decide) (by decide) (Nat.le_of_ble_eq_true rfl) (Nat.le_of_ble_eq_true rfl) dX3_init_9 (fun q9 H hP hD hS => ?_)
  have hP : va_P D classes [(h0, .inr (3, [.null, .null])), (q9, .inl (cs.2.2, 6, .inr (.inr (.inr (.inr (fun i => if i < 6 then some (q9 + 1 + i) else none)))))), (q9 + 1 + 0, .inl (cs.1, 17, .inl (fun _ => 0))), (q9 + 1 + 1, .inl (cs.1, 17, .inl (fun _ => 0))), (q9 + 1 + 2, .inl (cs.1, 17, .inl (fun _ => 0))), (q9 + 1 + 3, .inl (cs.1, 17, .inl (fun _ => 0))), (q9 + 1 + 4, .inl (cs.1, 17, .inl (fun _ => 0))), (q9 + 1 + 5, .inl (cs.1, 17, .inl (fun _ => 0)))] H := hP
  have hD : va_D A [(h0, .inr (3, [.null, .null])), (q9, .inl (cs.2.2, 6, .inr (.inr (.inr (.inr (fun i => if i < 6 then some (q9 + 1 + i) else none)))))), (q9 + 1 + 0, .inl (cs.1, 17, .inl (fun _ => 0))), (q9 + 1 + 1, .inl (cs.1, 17, .inl (fun _ => 0))), (q9 + 1 + 2, .inl (cs.1, 17, .inl (fun _ => 0))), (q9 + 1 + 3, .inl (cs.1, 17, .inl (fun _ => 0))), (q9 + 1 + 4, .inl (cs.1, 17, .inl (fun _ => 0))), (q9 + 1 + 5, .inl (cs.1, 17, .inl (fun _ => 0)))] := hD
  refine W.widen (k := 7) (n := 108) (by omega) (by omega) ?_
  refine va_putF (D := D) (ci := 3) (v := .ref q9) (ty := (.array (.array .int))) (C := RX3) (T := TX3) (N := 2) hx hb hts wkX3 tyX3 tyX3_ok nmX3 hown hK hP hD hS 0 rfl rfl 0 (by decide) (hts _ (TW_of 71 (by decide +kernel) (by decide +kernel))) (fun _ h9 => h9) rfl hin rfl (by decide +kernel) rfl rfl (Nat.le_of_ble_eq_true rfl) dX3_init_13 (fun H locs hP hD hS => ?_)
  have hP : va_P D classes [(h0, .inr (3, [.ref q9, .null])), (q9, .inl (cs.2.2, 6, .inr (.inr (.inr (.inr (fun i => if i < 6 then some (q9 + 1 + i) else none)))))), (q9 + 1 + 0, .inl (cs.1, 17, .inl (fun _ => 0))), (q9 + 1 + 1, .inl (cs.1, 17, .inl (fun _ => 0))), (q9 + 1 + 2, .inl (cs.1, 17, .inl (fun _ => 0))), (q9 + 1 + 3, .inl (cs.1, 17, .inl (fun _ => 0))), (q9 + 1 + 4, .inl (cs.1, 17, .inl (fun _ => 0))), (q9 + 1 + 5, .inl (cs.1, 17, .inl (fun _ => 0)))] H := hP
  have hD : va_D A [(h0, .inr (3, [.ref q9, .null])), (q9, .inl (cs.2.2, 6, .inr (.inr (.inr (.inr (fun i => if i < 6 then some (q9 + 1 + i) else none)))))), (q9 + 1 + 0, .inl (cs.1, 17, .inl (fun _ => 0))), (q9 + 1 + 1, .inl (cs.1, 17, .inl (fun _ => 0))), (q9 + 1 + 2, .inl (cs.1, 17, .inl (fun _ => 0))), (q9 + 1 + 3, .inl (cs.1, 17, .inl (fun _ => 0))), (q9 + 1 + 4, .inl (cs.1, 17, .inl (fun _ => 0))), (q9 + 1 + 5, .inl (cs.1, 17, .inl (fun _ => 0)))] := hD
  refine lv_aload_n hx hb dX3_init_16 rfl (lv_at hl 0 rfl) ?_
  refine lv_bipush (v := 6) hx hb dX3_init_17 (by decide) ?_
  refine va_newa (D := D) (ty := .int) (N' := 6) (a0 := (6, .inl (fun _ => 0))) hx hb (hts _ (TW_of 81 (by decide +kernel) (by decide +kernel))) rfl hK hP hD hS hA (fun _ => rfl) (by decide) (by decide) (by decide) (Nat.le_of_ble_eq_true rfl) (Nat.le_of_ble_eq_true rfl) dX3_init_19 (fun q19 cA H hK2 hP hD hS => ?_)
  obtain rfl := K_int hK2
  have hP : va_P D classes [(h0, .inr (3, [.ref q9, .null])), (q9, .inl (cs.2.2, 6, .inr (.inr (.inr (.inr (fun i => if i < 6 then some (q9 + 1 + i) else none)))))), (q9 + 1 + 0, .inl (cs.1, 17, .inl (fun _ => 0))), (q9 + 1 + 1, .inl (cs.1, 17, .inl (fun _ => 0))), (q9 + 1 + 2, .inl (cs.1, 17, .inl (fun _ => 0))), (q9 + 1 + 3, .inl (cs.1, 17, .inl (fun _ => 0))), (q9 + 1 + 4, .inl (cs.1, 17, .inl (fun _ => 0))), (q9 + 1 + 5, .inl (cs.1, 17, .inl (fun _ => 0))), (q19, .inl (cs.1, 6, .inl (fun _ => 0)))] H := hP
  have hD : va_D A [(h0, .inr (3, [.ref q9, .null])), (q9, .inl (cs.2.2, 6, .inr (.inr (.inr (.inr (fun i => if i < 6 then some (q9 + 1 + i) else none)))))), (q9 + 1 + 0, .inl (cs.1, 17, .inl (fun _ => 0))), (q9 + 1 + 1, .inl (cs.1, 17, .inl (fun _ => 0))), (q9 + 1 + 2, .inl (cs.1, 17, .inl (fun _ => 0))), (q9 + 1 + 3, .inl (cs.1, 17, .inl (fun _ => 0))), (q9 + 1 + 4, .inl (cs.1, 17, .inl (fun _ => 0))), (q9 + 1 + 5, .inl (cs.1, 17, .inl (fun _ => 0))), (q19, .inl (cs.1, 6, .inl (fun _ => 0)))] := hD
  refine W.widen (k := 8) (n := 114) (by omega) (by omega) ?_
  refine lv_dup hx hb dX3_init_21 rfl ?_
  refine lv_iconst (v := 0) hx hb dX3_init_22 (by decide) ?_
  refine lv_iconst (v := (-1)) hx hb dX3_init_23 (by decide) ?_
  refine va_iast (D := D) hx hb hK hP hD hS 8 0 rfl rfl (by unfold vp_in; decide) dX3_init_24 (fun H locs hP hD hS => ?_)
  have hP : va_P D classes [(h0, .inr (3, [.ref q9, .null])), (q9, .inl (cs.2.2, 6, .inr (.inr (.inr (.inr (fun i => if i < 6 then some (q9 + 1 + i) else none)))))), (q9 + 1 + 0, .inl (cs.1, 17, .inl (fun _ => 0))), (q9 + 1 + 1, .inl (cs.1, 17, .inl (fun _ => 0))), (q9 + 1 + 2, .inl (cs.1, 17, .inl (fun _ => 0))), (q9 + 1 + 3, .inl (cs.1, 17, .inl (fun _ => 0))), (q9 + 1 + 4, .inl (cs.1, 17, .inl (fun _ => 0))), (q9 + 1 + 5, .inl (cs.1, 17, .inl (fun _ => 0))), (q19, .inl (cs.1, 6, .inl (upd (fun _ => 0) 0 (-1))))] H := hP
  have hD : va_D A [(h0, .inr (3, [.ref q9, .null])), (q9, .inl (cs.2.2, 6, .inr (.inr (.inr (.inr (fun i => if i < 6 then some (q9 + 1 + i) else none)))))), (q9 + 1 + 0, .inl (cs.1, 17, .inl (fun _ => 0))), (q9 + 1 + 1, .inl (cs.1, 17, .inl (fun _ => 0))), (q9 + 1 + 2, .inl (cs.1, 17, .inl (fun _ => 0))), (q9 + 1 + 3, .inl (cs.1, 17, .inl (fun _ => 0))), (q9 + 1 + 4, .inl (cs.1, 17, .inl (fun _ => 0))), (q9 + 1 + 5, .inl (cs.1, 17, .inl (fun _ => 0))), (q19, .inl (cs.1, 6, .inl (upd (fun _ => 0) 0 (-1))))] := hD
  refine lv_dup hx hb dX3_init_25 rfl ?_
  refine lv_iconst (v := 1) hx hb dX3_init_26 (by decide) ?_
  refine lv_iconst (v := (-1)) hx hb dX3_init_27 (by decide) ?_
  refine va_iast (D := D) hx hb hK hP hD hS 8 0 rfl rfl (by unfold vp_in; decide) dX3_init_28 (fun H locs hP hD hS => ?_)
  have hP : va_P D classes [(h0, .inr (3, [.ref q9, .null])), (q9, .inl (cs.2.2, 6, .inr (.inr (.inr (.inr (fun i => if i < 6 then some (q9 + 1 + i) else none)))))), (q9 + 1 + 0, .inl (cs.1, 17, .inl (fun _ => 0))), (q9 + 1 + 1, .inl (cs.1, 17, .inl (fun _ => 0))), (q9 + 1 + 2, .inl (cs.1, 17, .inl (fun _ => 0))), (q9 + 1 + 3, .inl (cs.1, 17, .inl (fun _ => 0))), (q9 + 1 + 4, .inl (cs.1, 17, .inl (fun _ => 0))), (q9 + 1 + 5, .inl (cs.1, 17, .inl (fun _ => 0))), (q19, .inl (cs.1, 6, .inl (upd (upd (fun _ => 0) 0 (-1)) 1 (-1))))] H := hP
  have hD : va_D A [(h0, .inr (3, [.ref q9, .null])), (q9, .inl (cs.2.2, 6, .inr (.inr (.inr (.inr (fun i => if i < 6 then some (q9 + 1 + i) else none)))))), (q9 + 1 + 0, .inl (cs.1, 17, .inl (fun _ => 0))), (q9 + 1 + 1, .inl (cs.1, 17, .inl (fun _ => 0))), (q9 + 1 + 2, .inl (cs.1, 17, .inl (fun _ => 0))), (q9 + 1 + 3, .inl (cs.1, 17, .inl (fun _ => 0))), (q9 + 1 + 4, .inl (cs.1, 17, .inl (fun _ => 0))), (q9 + 1 + 5, .inl (cs.1, 17, .inl (fun _ => 0))), (q19, .inl (cs.1, 6, .inl (upd (upd (fun _ => 0) 0 (-1)) 1 (-1))))] := hD
  refine lv_dup hx hb dX3_init_29 rfl ?_
  refine lv_iconst (v := 2) hx hb dX3_init_30 (by decide) ?_
  refine lv_iconst (v := (-1)) hx hb dX3_init_31 (by decide) ?_
  refine va_iast (D := D) hx hb hK hP hD hS 8 0 rfl rfl (by unfold vp_in; decide) dX3_init_32 (fun H locs hP hD hS => ?_)
  have hP : va_P D classes [(h0, .inr (3, [.ref q9, .null])), (q9, .inl (cs.2.2, 6, .inr (.inr (.inr (.inr (fun i => if i < 6 then some (q9 + 1 + i) else none)))))), (q9 + 1 + 0, .inl (cs.1, 17, .inl (fun _ => 0))), (q9 + 1 + 1, .inl (cs.1, 17, .inl (fun _ => 0))), (q9 + 1 + 2, .inl (cs.1, 17, .inl (fun _ => 0))), (q9 + 1 + 3, .inl (cs.1, 17, .inl (fun _ => 0))), (q9 + 1 + 4, .inl (cs.1, 17, .inl (fun _ => 0))), (q9 + 1 + 5, .inl (cs.1, 17, .inl (fun _ => 0))), (q19, .inl (cs.1, 6, .inl (upd (upd (upd (fun _ => 0) 0 (-1)) 1 (-1)) 2 (-1))))] H := hP
  have hD : va_D A [(h0, .inr (3, [.ref q9, .null])), (q9, .inl (cs.2.2, 6, .inr (.inr (.inr (.inr (fun i => if i < 6 then some (q9 + 1 + i) else none)))))), (q9 + 1 + 0, .inl (cs.1, 17, .inl (fun _ => 0))), (q9 + 1 + 1, .inl (cs.1, 17, .inl (fun _ => 0))), (q9 + 1 + 2, .inl (cs.1, 17, .inl (fun _ => 0))), (q9 + 1 + 3, .inl (cs.1, 17, .inl (fun _ => 0))), (q9 + 1 + 4, .inl (cs.1, 17, .inl (fun _ => 0))), (q9 + 1 + 5, .inl (cs.1, 17, .inl (fun _ => 0))), (q19, .inl (cs.1, 6, .inl (upd (upd (upd (fun _ => 0) 0 (-1)) 1 (-1)) 2 (-1))))] := hD
  refine lv_dup hx hb dX3_init_33 rfl ?_
  refine lv_iconst (v := 3) hx hb dX3_init_34 (by decide) ?_
  refine lv_iconst (v := (-1)) hx hb dX3_init_35 (by decide) ?_
  refine va_iast (D := D) hx hb hK hP hD hS 8 0 rfl rfl (by unfold vp_in; decide) dX3_init_36 (fun H locs hP hD hS => ?_)
  have hP : va_P D classes [(h0, .inr (3, [.ref q9, .null])), (q9, .inl (cs.2.2, 6, .inr (.inr (.inr (.inr (fun i => if i < 6 then some (q9 + 1 + i) else none)))))), (q9 + 1 + 0, .inl (cs.1, 17, .inl (fun _ => 0))), (q9 + 1 + 1, .inl (cs.1, 17, .inl (fun _ => 0))), (q9 + 1 + 2, .inl (cs.1, 17, .inl (fun _ => 0))), (q9 + 1 + 3, .inl (cs.1, 17, .inl (fun _ => 0))), (q9 + 1 + 4, .inl (cs.1, 17, .inl (fun _ => 0))), (q9 + 1 + 5, .inl (cs.1, 17, .inl (fun _ => 0))), (q19, .inl (cs.1, 6, .inl (upd (upd (upd (upd (fun _ => 0) 0 (-1)) 1 (-1)) 2 (-1)) 3 (-1))))] H := hP
  have hD : va_D A [(h0, .inr (3, [.ref q9, .null])), (q9, .inl (cs.2.2, 6, .inr (.inr (.inr (.inr (fun i => if i < 6 then some (q9 + 1 + i) else none)))))), (q9 + 1 + 0, .inl (cs.1, 17, .inl (fun _ => 0))), (q9 + 1 + 1, .inl (cs.1, 17, .inl (fun _ => 0))), (q9 + 1 + 2, .inl (cs.1, 17, .inl (fun _ => 0))), (q9 + 1 + 3, .inl (cs.1, 17, .inl (fun _ => 0))), (q9 + 1 + 4, .inl (cs.1, 17, .inl (fun _ => 0))), (q9 + 1 + 5, .inl (cs.1, 17, .inl (fun _ => 0))), (q19, .inl (cs.1, 6, .inl (upd (upd (upd (upd (fun _ => 0) 0 (-1)) 1 (-1)) 2 (-1)) 3 (-1))))] := hD
  refine lv_dup hx hb dX3_init_37 rfl ?_
  refine lv_iconst (v := 4) hx hb dX3_init_38 (by decide) ?_
  refine lv_iconst (v := (-1)) hx hb dX3_init_39 (by decide) ?_
  refine va_iast (D := D) hx hb hK hP hD hS 8 0 rfl rfl (by unfold vp_in; decide) dX3_init_40 (fun H locs hP hD hS => ?_)
  have hP : va_P D classes [(h0, .inr (3, [.ref q9, .null])), (q9, .inl (cs.2.2, 6, .inr (.inr (.inr (.inr (fun i => if i < 6 then some (q9 + 1 + i) else none)))))), (q9 + 1 + 0, .inl (cs.1, 17, .inl (fun _ => 0))), (q9 + 1 + 1, .inl (cs.1, 17, .inl (fun _ => 0))), (q9 + 1 + 2, .inl (cs.1, 17, .inl (fun _ => 0))), (q9 + 1 + 3, .inl (cs.1, 17, .inl (fun _ => 0))), (q9 + 1 + 4, .inl (cs.1, 17, .inl (fun _ => 0))), (q9 + 1 + 5, .inl (cs.1, 17, .inl (fun _ => 0))), (q19, .inl (cs.1, 6, .inl (upd (upd (upd (upd (upd (fun _ => 0) 0 (-1)) 1 (-1)) 2 (-1)) 3 (-1)) 4 (-1))))] H := hP
  have hD : va_D A [(h0, .inr (3, [.ref q9, .null])), (q9, .inl (cs.2.2, 6, .inr (.inr (.inr (.inr (fun i => if i < 6 then some (q9 + 1 + i) else none)))))), (q9 + 1 + 0, .inl (cs.1, 17, .inl (fun _ => 0))), (q9 + 1 + 1, .inl (cs.1, 17, .inl (fun _ => 0))), (q9 + 1 + 2, .inl (cs.1, 17, .inl (fun _ => 0))), (q9 + 1 + 3, .inl (cs.1, 17, .inl (fun _ => 0))), (q9 + 1 + 4, .inl (cs.1, 17, .inl (fun _ => 0))), (q9 + 1 + 5, .inl (cs.1, 17, .inl (fun _ => 0))), (q19, .inl (cs.1, 6, .inl (upd (upd (upd (upd (upd (fun _ => 0) 0 (-1)) 1 (-1)) 2 (-1)) 3 (-1)) 4 (-1))))] := hD
  refine lv_dup hx hb dX3_init_41 rfl ?_
  refine lv_iconst (v := 5) hx hb dX3_init_42 (by decide) ?_
  refine lv_iconst (v := (-1)) hx hb dX3_init_43 (by decide) ?_
  refine va_iast (D := D) hx hb hK hP hD hS 8 0 rfl rfl (by unfold vp_in; decide) dX3_init_44 (fun H locs hP hD hS => ?_)
  have hP : va_P D classes [(h0, .inr (3, [.ref q9, .null])), (q9, .inl (cs.2.2, 6, .inr (.inr (.inr (.inr (fun i => if i < 6 then some (q9 + 1 + i) else none)))))), (q9 + 1 + 0, .inl (cs.1, 17, .inl (fun _ => 0))), (q9 + 1 + 1, .inl (cs.1, 17, .inl (fun _ => 0))), (q9 + 1 + 2, .inl (cs.1, 17, .inl (fun _ => 0))), (q9 + 1 + 3, .inl (cs.1, 17, .inl (fun _ => 0))), (q9 + 1 + 4, .inl (cs.1, 17, .inl (fun _ => 0))), (q9 + 1 + 5, .inl (cs.1, 17, .inl (fun _ => 0))), (q19, .inl (cs.1, 6, .inl (upd (upd (upd (upd (upd (upd (fun _ => 0) 0 (-1)) 1 (-1)) 2 (-1)) 3 (-1)) 4 (-1)) 5 (-1))))] H := hP
  have hD : va_D A [(h0, .inr (3, [.ref q9, .null])), (q9, .inl (cs.2.2, 6, .inr (.inr (.inr (.inr (fun i => if i < 6 then some (q9 + 1 + i) else none)))))), (q9 + 1 + 0, .inl (cs.1, 17, .inl (fun _ => 0))), (q9 + 1 + 1, .inl (cs.1, 17, .inl (fun _ => 0))), (q9 + 1 + 2, .inl (cs.1, 17, .inl (fun _ => 0))), (q9 + 1 + 3, .inl (cs.1, 17, .inl (fun _ => 0))), (q9 + 1 + 4, .inl (cs.1, 17, .inl (fun _ => 0))), (q9 + 1 + 5, .inl (cs.1, 17, .inl (fun _ => 0))), (q19, .inl (cs.1, 6, .inl (upd (upd (upd (upd (upd (upd (fun _ => 0) 0 (-1)) 1 (-1)) 2 (-1)) 3 (-1)) 4 (-1)) 5 (-1))))] := hD
  refine va_putF (D := D) (ci := 3) (v := .ref q19) (ty := (.array .int)) (C := RX3) (T := TX3) (N := 2) hx hb hts wkX3 tyX3 tyX3_ok nmX3 hown hK hP hD hS 0 rfl rfl 1 (by decide) (hts _ (TW_of 74 (by decide +kernel) (by decide +kernel))) (fun _ h9 => h9) rfl hin rfl (by decide +kernel) rfl rfl (Nat.le_of_ble_eq_true rfl) dX3_init_45 (fun H locs hP hD hS => ?_)
  have hP : va_P D classes [(h0, .inr (3, [.ref q9, .ref q19])), (q9, .inl (cs.2.2, 6, .inr (.inr (.inr (.inr (fun i => if i < 6 then some (q9 + 1 + i) else none)))))), (q9 + 1 + 0, .inl (cs.1, 17, .inl (fun _ => 0))), (q9 + 1 + 1, .inl (cs.1, 17, .inl (fun _ => 0))), (q9 + 1 + 2, .inl (cs.1, 17, .inl (fun _ => 0))), (q9 + 1 + 3, .inl (cs.1, 17, .inl (fun _ => 0))), (q9 + 1 + 4, .inl (cs.1, 17, .inl (fun _ => 0))), (q9 + 1 + 5, .inl (cs.1, 17, .inl (fun _ => 0))), (q19, .inl (cs.1, 6, .inl (upd (upd (upd (upd (upd (upd (fun _ => 0) 0 (-1)) 1 (-1)) 2 (-1)) 3 (-1)) 4 (-1)) 5 (-1))))] H := hP
  have hD : va_D A [(h0, .inr (3, [.ref q9, .ref q19])), (q9, .inl (cs.2.2, 6, .inr (.inr (.inr (.inr (fun i => if i < 6 then some (q9 + 1 + i) else none)))))), (q9 + 1 + 0, .inl (cs.1, 17, .inl (fun _ => 0))), (q9 + 1 + 1, .inl (cs.1, 17, .inl (fun _ => 0))), (q9 + 1 + 2, .inl (cs.1, 17, .inl (fun _ => 0))), (q9 + 1 + 3, .inl (cs.1, 17, .inl (fun _ => 0))), (q9 + 1 + 4, .inl (cs.1, 17, .inl (fun _ => 0))), (q9 + 1 + 5, .inl (cs.1, 17, .inl (fun _ => 0))), (q19, .inl (cs.1, 6, .inl (upd (upd (upd (upd (upd (upd (fun _ => 0) 0 (-1)) 1 (-1)) 2 (-1)) 3 (-1)) 4 (-1)) 5 (-1))))] := hD
  exact W.vret hx hb hr (fun t ht hW => ⟨⟨(q9, q19), rfl, trivial, by rw [ht]; exact hP, va_K.moved hW.alike hK, hD⟩, hS.F ht⟩) hS.2.2 dX3_init_48 hlocks

theorem n_X5 (l : Launch) (D : va_G) (cs : ClassId × ClassId × ClassId) (h0 sz : Nat) : Met l (mN mX5_init) (wsM mX5_init) (rmC mX5_init 12 294) (va_Pc [.ref h0] (PW D cs sz [(h0, .inr (5, [.null, .null, .null, .null, .null, .null, .int 0]))])) (va_Qv (fun _ : Nat × Nat × Nat × Nat × Nat × Nat => True) (fun (u : Nat × Nat × Nat × Nat × Nat × Nat) t => match u with | (n1, n2, n3, n4, n5, n6) => QW D cs (va_A [(h0, .inr (5, [.null, .null, .null, .null, .null, .null, .int 0]))] sz) [(h0, .inr (5, [.ref n1, .ref n2, .ref n3, .ref n4, .ref n5, .ref n6, .int 8])), (n1, .inl (cs.1, 32, .inl (fun _ => 0))), (n2, .inl (cs.1, 32, .inl (fun _ => 0))), (n3, .inl (cs.2.2, 2, .inr (.inr (.inr (.inr (fun i => if i < 2 then some (n3 + 1 + i) else none)))))), (n3 + 1 + 0, .inl (cs.1, 32, .inl (fun _ => 0))), (n3 + 1 + 1, .inl (cs.1, 32, .inl (fun _ => 0))), (n4, .inl (cs.2.2, 2, .inr (.inr (.inr (.inr (fun i => if i < 2 then some (n4 + 1 + i) else none)))))), (n4 + 1 + 0, .inl (cs.1, 32, .inl (fun _ => 0))), (n4 + 1 + 1, .inl (cs.1, 32, .inl (fun _ => 0))), (n5, .inl (cs.2.2, 2, .inr (.inr (.inr (.inr (fun i => if i < 2 then some (n5 + 1 + i) else none)))))), (n5 + 1 + 0, .inl (cs.1, 32, .inl (fun _ => 0))), (n5 + 1 + 1, .inl (cs.1, 32, .inl (fun _ => 0))), (n6, .inl (cs.1, 32, .inl (fun _ => 0)))] t) (va_A [(h0, .inr (5, [.null, .null, .null, .null, .null, .null, .int 0]))] sz)) 12 294 (va_A [(h0, .inr (5, [.null, .null, .null, .null, .null, .null, .int 0]))] sz) := by
  refine Met.ofWF (cc := cX5_init) (maxL := 1) (ret := none) (ws' := TW) (plainFor_of_name (by decide)) rfl ?_
  intro p e s m args below meth c s₁ B hml hv
  obtain ⟨rfl, hsz, hP, hK, hD0, hN⟩ := hv
  have hx := B.exec
  have hb := B.bytes
  have hr := B.returns
  have hts0 := atoms_spec (ws := wsM mX5_init) B.pre
  have hts : ∀ w ∈ TW, w.before ([.ref h0] : List Value).toArray s = true := fun w hw => hts0 w (List.mem_cons_of_mem _ hw)
  have hown : s.vm.findClass RX5 = some m.cls := findClass_of_methodNamed B.named
  have hlocks := B.notSynchronized
  have hin : meth.name = "<init>" := (name_of_methodNamed B.named B.method).1
  subst hsz
  have hD := hD0.self (sz := s.heap.size)
  generalize hAe : va_A [(h0, .inr (5, [.null, .null, .null, .null, .null, .null, .int 0]))] s.heap.size = A at hD ⊢
  have hA : ∀ q : Nat, s.heap.size ≤ q → A q := fun q h => by rw [← hAe]; exact Or.inr h
  have hS : va_S A s.heap s.heap [] := va_S.rf
  have hl := lv_entry ([.ref h0]) (n := 1) (Nat.le_of_ble_eq_true rfl)
  rw [lg_entry_eq]
  generalize (lg_sl ([.ref h0]) ++ List.replicate (1 - (lg_sl ([.ref h0])).length) Slot.unset).toArray = ls at hl ⊢
  have hl : lv_has ls 1 [(0, .ref h0)] := hl
  refine lv_aload_n hx hb dX5_init_0 rfl (lv_at hl 0 rfl) ?_
  refine W.objInit hx hb hown (hts _ (TW_of 87 (by decide +kernel) (by decide +kernel))) (hts _ (TW_of 61 (by decide +kernel) (by decide +kernel))) (hts _ (TW_of 62 (by decide +kernel) (by decide +kernel))) rfl (by rw [hml]; exact hl.1) rfl dX5_init_1 (Nat.le_of_ble_eq_true rfl) (Nat.le_of_ble_eq_true rfl) ?_
  refine W.eq (g2 := F0 m 4 ls []) rfl ?_
  refine lv_aload_n hx hb dX5_init_4 rfl (lv_at hl 0 rfl) ?_
  refine lv_bipush (v := 32) hx hb dX5_init_5 (by decide) ?_
  refine va_newa (D := D) (ty := .int) (N' := 32) (a0 := (32, .inl (fun _ => 0))) hx hb (hts _ (TW_of 81 (by decide +kernel) (by decide +kernel))) rfl hK hP hD hS hA (fun _ => rfl) (by decide) (by decide) (by decide) (Nat.le_of_ble_eq_true rfl) (Nat.le_of_ble_eq_true rfl) dX5_init_7 (fun q7 cA H hK2 hP hD hS => ?_)
  obtain rfl := K_int hK2
  have hP : va_P D classes [(h0, .inr (5, [.null, .null, .null, .null, .null, .null, .int 0])), (q7, .inl (cs.1, 32, .inl (fun _ => 0)))] H := hP
  have hD : va_D A [(h0, .inr (5, [.null, .null, .null, .null, .null, .null, .int 0])), (q7, .inl (cs.1, 32, .inl (fun _ => 0)))] := hD
  refine W.widen (k := 1) (n := 32) (by omega) (by omega) ?_
  refine va_putF (D := D) (ci := 5) (v := .ref q7) (ty := (.array .int)) (C := RX5) (T := TX5) (N := 7) hx hb hts wkX5 tyX5 tyX5_ok nmX5 hown hK hP hD hS 0 rfl rfl 0 (by decide) (hts _ (TW_of 89 (by decide +kernel) (by decide +kernel))) (fun _ h9 => h9) rfl hin rfl (by decide +kernel) rfl rfl (Nat.le_of_ble_eq_true rfl) dX5_init_9 (fun H locs hP hD hS => ?_)
  have hP : va_P D classes [(h0, .inr (5, [.ref q7, .null, .null, .null, .null, .null, .int 0])), (q7, .inl (cs.1, 32, .inl (fun _ => 0)))] H := hP
  have hD : va_D A [(h0, .inr (5, [.ref q7, .null, .null, .null, .null, .null, .int 0])), (q7, .inl (cs.1, 32, .inl (fun _ => 0)))] := hD
  refine lv_aload_n hx hb dX5_init_12 rfl (lv_at hl 0 rfl) ?_
  refine lv_bipush (v := 32) hx hb dX5_init_13 (by decide) ?_
  refine va_newa (D := D) (ty := .int) (N' := 32) (a0 := (32, .inl (fun _ => 0))) hx hb (hts _ (TW_of 81 (by decide +kernel) (by decide +kernel))) rfl hK hP hD hS hA (fun _ => rfl) (by decide) (by decide) (by decide) (Nat.le_of_ble_eq_true rfl) (Nat.le_of_ble_eq_true rfl) dX5_init_15 (fun q15 cA H hK2 hP hD hS => ?_)
  obtain rfl := K_int hK2
  have hP : va_P D classes [(h0, .inr (5, [.ref q7, .null, .null, .null, .null, .null, .int 0])), (q7, .inl (cs.1, 32, .inl (fun _ => 0))), (q15, .inl (cs.1, 32, .inl (fun _ => 0)))] H := hP
  have hD : va_D A [(h0, .inr (5, [.ref q7, .null, .null, .null, .null, .null, .int 0])), (q7, .inl (cs.1, 32, .inl (fun _ => 0))), (q15, .inl (cs.1, 32, .inl (fun _ => 0)))] := hD
  refine W.widen (k := 2) (n := 64) (by omega) (by omega) ?_
  refine va_putF (D := D) (ci := 5) (v := .ref q15) (ty := (.array .int)) (C := RX5) (T := TX5) (N := 7) hx hb hts wkX5 tyX5 tyX5_ok nmX5 hown hK hP hD hS 0 rfl rfl 1 (by decide) (hts _ (TW_of 92 (by decide +kernel) (by decide +kernel))) (fun _ h9 => h9) rfl hin rfl (by decide +kernel) rfl rfl (Nat.le_of_ble_eq_true rfl) dX5_init_17 (fun H locs hP hD hS => ?_)
  have hP : va_P D classes [(h0, .inr (5, [.ref q7, .ref q15, .null, .null, .null, .null, .int 0])), (q7, .inl (cs.1, 32, .inl (fun _ => 0))), (q15, .inl (cs.1, 32, .inl (fun _ => 0)))] H := hP
  have hD : va_D A [(h0, .inr (5, [.ref q7, .ref q15, .null, .null, .null, .null, .int 0])), (q7, .inl (cs.1, 32, .inl (fun _ => 0))), (q15, .inl (cs.1, 32, .inl (fun _ => 0)))] := hD
  refine lv_aload_n hx hb dX5_init_20 rfl (lv_at hl 0 rfl) ?_
  refine lv_iconst (v := 2) hx hb dX5_init_21 (by decide) ?_
  refine lv_bipush (v := 32) hx hb dX5_init_22 (by decide) ?_
  refine va_mna2 (D := D) (cA := cs.2.2) (cy := cs.1) (N' := 2) (K' := 32) hx hb hown (hts _ (TW_of 88 (by decide +kernel) (by decide +kernel))) (hN.2.2.2.2.2 _) (hts _ (TW_of 81 (by decide +kernel) (by decide +kernel))) (hK.2 2 _ rfl).2 (hK.2 0 _ rfl).2 hK hP hD hS hA (by decide) (by decide) (by decide) (by decide) (by decide) (by decide) (Nat.le_of_ble_eq_true rfl) (Nat.le_of_ble_eq_true rfl) dX5_init_24 (fun q24 H hP hD hS => ?_)
  have hP : va_P D classes [(h0, .inr (5, [.ref q7, .ref q15, .null, .null, .null, .null, .int 0])), (q7, .inl (cs.1, 32, .inl (fun _ => 0))), (q15, .inl (cs.1, 32, .inl (fun _ => 0))), (q24, .inl (cs.2.2, 2, .inr (.inr (.inr (.inr (fun i => if i < 2 then some (q24 + 1 + i) else none)))))), (q24 + 1 + 0, .inl (cs.1, 32, .inl (fun _ => 0))), (q24 + 1 + 1, .inl (cs.1, 32, .inl (fun _ => 0)))] H := hP
  have hD : va_D A [(h0, .inr (5, [.ref q7, .ref q15, .null, .null, .null, .null, .int 0])), (q7, .inl (cs.1, 32, .inl (fun _ => 0))), (q15, .inl (cs.1, 32, .inl (fun _ => 0))), (q24, .inl (cs.2.2, 2, .inr (.inr (.inr (.inr (fun i => if i < 2 then some (q24 + 1 + i) else none)))))), (q24 + 1 + 0, .inl (cs.1, 32, .inl (fun _ => 0))), (q24 + 1 + 1, .inl (cs.1, 32, .inl (fun _ => 0)))] := hD
  refine W.widen (k := 5) (n := 130) (by omega) (by omega) ?_
  refine va_putF (D := D) (ci := 5) (v := .ref q24) (ty := (.array (.array .int))) (C := RX5) (T := TX5) (N := 7) hx hb hts wkX5 tyX5 tyX5_ok nmX5 hown hK hP hD hS 0 rfl rfl 2 (by decide) (hts _ (TW_of 95 (by decide +kernel) (by decide +kernel))) (fun _ h9 => h9) rfl hin rfl (by decide +kernel) rfl rfl (Nat.le_of_ble_eq_true rfl) dX5_init_28 (fun H locs hP hD hS => ?_)
  have hP : va_P D classes [(h0, .inr (5, [.ref q7, .ref q15, .ref q24, .null, .null, .null, .int 0])), (q7, .inl (cs.1, 32, .inl (fun _ => 0))), (q15, .inl (cs.1, 32, .inl (fun _ => 0))), (q24, .inl (cs.2.2, 2, .inr (.inr (.inr (.inr (fun i => if i < 2 then some (q24 + 1 + i) else none)))))), (q24 + 1 + 0, .inl (cs.1, 32, .inl (fun _ => 0))), (q24 + 1 + 1, .inl (cs.1, 32, .inl (fun _ => 0)))] H := hP
  have hD : va_D A [(h0, .inr (5, [.ref q7, .ref q15, .ref q24, .null, .null, .null, .int 0])), (q7, .inl (cs.1, 32, .inl (fun _ => 0))), (q15, .inl (cs.1, 32, .inl (fun _ => 0))), (q24, .inl (cs.2.2, 2, .inr (.inr (.inr (.inr (fun i => if i < 2 then some (q24 + 1 + i) else none)))))), (q24 + 1 + 0, .inl (cs.1, 32, .inl (fun _ => 0))), (q24 + 1 + 1, .inl (cs.1, 32, .inl (fun _ => 0)))] := hD
  refine lv_aload_n hx hb dX5_init_31 rfl (lv_at hl 0 rfl) ?_
  refine lv_iconst (v := 2) hx hb dX5_init_32 (by decide) ?_
  refine lv_bipush (v := 32) hx hb dX5_init_33 (by decide) ?_
  refine va_mna2 (D := D) (cA := cs.2.2) (cy := cs.1) (N' := 2) (K' := 32) hx hb hown (hts _ (TW_of 88 (by decide +kernel) (by decide +kernel))) (hN.2.2.2.2.2 _) (hts _ (TW_of 81 (by decide +kernel) (by decide +kernel))) (hK.2 2 _ rfl).2 (hK.2 0 _ rfl).2 hK hP hD hS hA (by decide) (by decide) (by decide) (by decide) (by decide) (by decide) (Nat.le_of_ble_eq_true rfl) (Nat.le_of_ble_eq_true rfl) dX5_init_35 (fun q35 H hP hD hS => ?_)
  have hP : va_P D classes [(h0, .inr (5, [.ref q7, .ref q15, .ref q24, .null, .null, .null, .int 0])), (q7, .inl (cs.1, 32, .inl (fun _ => 0))), (q15, .inl (cs.1, 32, .inl (fun _ => 0))), (q24, .inl (cs.2.2, 2, .inr (.inr (.inr (.inr (fun i => if i < 2 then some (q24 + 1 + i) else none)))))), (q24 + 1 + 0, .inl (cs.1, 32, .inl (fun _ => 0))), (q24 + 1 + 1, .inl (cs.1, 32, .inl (fun _ => 0))), (q35, .inl (cs.2.2, 2, .inr (.inr (.inr (.inr (fun i => if i < 2 then some (q35 + 1 + i) else none)))))), (q35 + 1 + 0, .inl (cs.1, 32, .inl (fun _ => 0))), (q35 + 1 + 1, .inl (cs.1, 32, .inl (fun _ => 0)))] H := hP
  have hD : va_D A [(h0, .inr (5, [.ref q7, .ref q15, .ref q24, .null, .null, .null, .int 0])), (q7, .inl (cs.1, 32, .inl (fun _ => 0))), (q15, .inl (cs.1, 32, .inl (fun _ => 0))), (q24, .inl (cs.2.2, 2, .inr (.inr (.inr (.inr (fun i => if i < 2 then some (q24 + 1 + i) else none)))))), (q24 + 1 + 0, .inl (cs.1, 32, .inl (fun _ => 0))), (q24 + 1 + 1, .inl (cs.1, 32, .inl (fun _ => 0))), (q35, .inl (cs.2.2, 2, .inr (.inr (.inr (.inr (fun i => if i < 2 then some (q35 + 1 + i) else none)))))), (q35 + 1 + 0, .inl (cs.1, 32, .inl (fun _ => 0))), (q35 + 1 + 1, .inl (cs.1, 32, .inl (fun _ => 0)))] := hD
  refine W.widen (k := 8) (n := 196) (by omega) (by omega) ?_
  refine va_putF (D := D) (ci := 5) (v := .ref q35) (ty := (.array (.array .int))) (C := RX5) (T := TX5) (N := 7) hx hb hts wkX5 tyX5 tyX5_ok nmX5 hown hK hP hD hS 0 rfl rfl 3 (by decide) (hts _ (TW_of 97 (by decide +kernel) (by decide +kernel))) (fun _ h9 => h9) rfl hin rfl (by decide +kernel) rfl rfl (Nat.le_of_ble_eq_true rfl) dX5_init_39 (fun H locs hP hD hS => ?_)
  have hP : va_P D classes [(h0, .inr (5, [.ref q7, .ref q15, .ref q24, .ref q35, .null, .null, .int 0])), (q7, .inl (cs.1, 32, .inl (fun _ => 0))), (q15, .inl (cs.1, 32, .inl (fun _ => 0))), (q24, .inl (cs.2.2, 2, .inr (.inr (.inr (.inr (fun i => if i < 2 then some (q24 + 1 + i) else none)))))), (q24 + 1 + 0, .inl (cs.1, 32, .inl (fun _ => 0))), (q24 + 1 + 1, .inl (cs.1, 32, .inl (fun _ => 0))), (q35, .inl (cs.2.2, 2, .inr (.inr (.inr (.inr (fun i => if i < 2 then some (q35 + 1 + i) else none)))))), (q35 + 1 + 0, .inl (cs.1, 32, .inl (fun _ => 0))), (q35 + 1 + 1, .inl (cs.1, 32, .inl (fun _ => 0)))] H := hP
  have hD : va_D A [(h0, .inr (5, [.ref q7, .ref q15, .ref q24, .ref q35, .null, .null, .int 0])), (q7, .inl (cs.1, 32, .inl (fun _ => 0))), (q15, .inl (cs.1, 32, .inl (fun _ => 0))), (q24, .inl (cs.2.2, 2, .inr (.inr (.inr (.inr (fun i => if i < 2 then some (q24 + 1 + i) else none)))))), (q24 + 1 + 0, .inl (cs.1, 32, .inl (fun _ => 0))), (q24 + 1 + 1, .inl (cs.1, 32, .inl (fun _ => 0))), (q35, .inl (cs.2.2, 2, .inr (.inr (.inr (.inr (fun i => if i < 2 then some (q35 + 1 + i) else none)))))), (q35 + 1 + 0, .inl (cs.1, 32, .inl (fun _ => 0))), (q35 + 1 + 1, .inl (cs.1, 32, .inl (fun _ => 0)))] := hD
  refine lv_aload_n hx hb dX5_init_42 rfl (lv_at hl 0 rfl) ?_
  refine lv_iconst (v := 2) hx hb dX5_init_43 (by decide) ?_
  refine lv_bipush (v := 32) hx hb dX5_init_44 (by decide) ?_
  refine va_mna2 (D := D) (cA := cs.2.2) (cy := cs.1) (N' := 2) (K' := 32) hx hb hown (hts _ (TW_of 88 (by decide +kernel) (by decide +kernel))) (hN.2.2.2.2.2 _) (hts _ (TW_of 81 (by decide +kernel) (by decide +kernel))) (hK.2 2 _ rfl).2 (hK.2 0 _ rfl).2 hK hP hD hS hA (by decide) (by decide) (by decide) (by decide) (by decide) (by decide) (Nat.le_of_ble_eq_true rfl) (Nat.le_of_ble_eq_true rfl) dX5_init_46 (fun q46 H hP hD hS => ?_)
  have hP : va_P D classes [(h0, .inr (5, [.ref q7, .ref q15, .ref q24, .ref q35, .null, .null, .int 0])), (q7, .inl (cs.1, 32, .inl (fun _ => 0))), (q15, .inl (cs.1, 32, .inl (fun _ => 0))), (q24, .inl (cs.2.2, 2, .inr (.inr (.inr (.inr (fun i => if i < 2 then some (q24 + 1 + i) else none)))))), (q24 + 1 + 0, .inl (cs.1, 32, .inl (fun _ => 0))), (q24 + 1 + 1, .inl (cs.1, 32, .inl (fun _ => 0))), (q35, .inl (cs.2.2, 2, .inr (.inr (.inr (.inr (fun i => if i < 2 then some (q35 + 1 + i) else none)))))), (q35 + 1 + 0, .inl (cs.1, 32, .inl (fun _ => 0))), (q35 + 1 + 1, .inl (cs.1, 32, .inl (fun _ => 0))), (q46, .inl (cs.2.2, 2, .inr (.inr (.inr (.inr (fun i => if i < 2 then some (q46 + 1 + i) else none)))))), (q46 + 1 + 0, .inl (cs.1, 32, .inl (fun _ => 0))), (q46 + 1 + 1, .inl (cs.1, 32, .inl (fun _ => 0)))] H := hP
  have hD : va_D A [(h0, .inr (5, [.ref q7, .ref q15, .ref q24, .ref q35, .null, .null, .int 0])), (q7, .inl (cs.1, 32, .inl (fun _ => 0))), (q15, .inl (cs.1, 32, .inl (fun _ => 0))), (q24, .inl (cs.2.2, 2, .inr (.inr (.inr (.inr (fun i => if i < 2 then some (q24 + 1 + i) else none)))))), (q24 + 1 + 0, .inl (cs.1, 32, .inl (fun _ => 0))), (q24 + 1 + 1, .inl (cs.1, 32, .inl (fun _ => 0))), (q35, .inl (cs.2.2, 2, .inr (.inr (.inr (.inr (fun i => if i < 2 then some (q35 + 1 + i) else none)))))), (q35 + 1 + 0, .inl (cs.1, 32, .inl (fun _ => 0))), (q35 + 1 + 1, .inl (cs.1, 32, .inl (fun _ => 0))), (q46, .inl (cs.2.2, 2, .inr (.inr (.inr (.inr (fun i => if i < 2 then some (q46 + 1 + i) else none)))))), (q46 + 1 + 0, .inl (cs.1, 32, .inl (fun _ => 0))), (q46 + 1 + 1, .inl (cs.1, 32, .inl (fun _ => 0)))] := hD
  refine W.widen (k := 11) (n := 262) (by omega) (by omega) ?_
  refine va_putF (D := D) (ci := 5) (v := .ref q46) (ty := (.array (.array .int))) (C := RX5) (T := TX5) (N := 7) hx hb hts wkX5 tyX5 tyX5_ok nmX5 hown hK hP hD hS 0 rfl rfl 4 (by decide) (hts _ (TW_of 100 (by decide +kernel) (by decide +kernel))) (fun _ h9 => h9) rfl hin rfl (by decide +kernel) rfl rfl (Nat.le_of_ble_eq_true rfl) dX5_init_50 (fun H locs hP hD hS => ?_)
  have hP : va_P D classes [(h0, .inr (5, [.ref q7, .ref q15, .ref q24, .ref q35, .ref q46, .null, .int 0])), (q7, .inl (cs.1, 32, .inl (fun _ => 0))), (q15, .inl (cs.1, 32, .inl (fun _ => 0))), (q24, .inl (cs.2.2, 2, .inr (.inr (.inr (.inr (fun i => if i < 2 then some (q24 + 1 + i) else none)))))), (q24 + 1 + 0, .inl (cs.1, 32, .inl (fun _ => 0))), (q24 + 1 + 1, .inl (cs.1, 32, .inl (fun _ => 0))), (q35, .inl (cs.2.2, 2, .inr (.inr (.inr (.inr (fun i => if i < 2 then some (q35 + 1 + i) else none)))))), (q35 + 1 + 0, .inl (cs.1, 32, .inl (fun _ => 0))), (q35 + 1 + 1, .inl (cs.1, 32, .inl (fun _ => 0))), (q46, .inl (cs.2.2, 2, .inr (.inr (.inr (.inr (fun i => if i < 2 then some (q46 + 1 + i) else none)))))), (q46 + 1 + 0, .inl (cs.1, 32, .inl (fun _ => 0))), (q46 + 1 + 1, .inl (cs.1, 32, .inl (fun _ => 0)))] H := hP
  have hD : va_D A [(h0, .inr (5, [.ref q7, .ref q15, .ref q24, .ref q35, .ref q46, .null, .int 0])), (q7, .inl (cs.1, 32, .inl (fun _ => 0))), (q15, .inl (cs.1, 32, .inl (fun _ => 0))), (q24, .inl (cs.2.2, 2, .inr (.inr (.inr (.inr (fun i => if i < 2 then some (q24 + 1 + i) else none)))))), (q24 + 1 + 0, .inl (cs.1, 32, .inl (fun _ => 0))), (q24 + 1 + 1, .inl (cs.1, 32, .inl (fun _ => 0))), (q35, .inl (cs.2.2, 2, .inr (.inr (.inr (.inr (fun i => if i < 2 then some (q35 + 1 + i) else none)))))), (q35 + 1 + 0, .inl (cs.1, 32, .inl (fun _ => 0))), (q35 + 1 + 1, .inl (cs.1, 32, .inl (fun _ => 0))), (q46, .inl (cs.2.2, 2, .inr (.inr (.inr (.inr (fun i => if i < 2 then some (q46 + 1 + i) else none)))))), (q46 + 1 + 0, .inl (cs.1, 32, .inl (fun _ => 0))), (q46 + 1 + 1, .inl (cs.1, 32, .inl (fun _ => 0)))] := hD
  refine lv_aload_n hx hb dX5_init_53 rfl (lv_at hl 0 rfl) ?_
  refine lv_bipush (v := 32) hx hb dX5_init_54 (by decide) ?_
  refine va_newa (D := D) (ty := .int) (N' := 32) (a0 := (32, .inl (fun _ => 0))) hx hb (hts _ (TW_of 81 (by decide +kernel) (by decide +kernel))) rfl hK hP hD hS hA (fun _ => rfl) (by decide) (by decide) (by decide) (Nat.le_of_ble_eq_true rfl) (Nat.le_of_ble_eq_true rfl) dX5_init_56 (fun q56 cA H hK2 hP hD hS => ?_)
  obtain rfl := K_int hK2
  have hP : va_P D classes [(h0, .inr (5, [.ref q7, .ref q15, .ref q24, .ref q35, .ref q46, .null, .int 0])), (q7, .inl (cs.1, 32, .inl (fun _ => 0))), (q15, .inl (cs.1, 32, .inl (fun _ => 0))), (q24, .inl (cs.2.2, 2, .inr (.inr (.inr (.inr (fun i => if i < 2 then some (q24 + 1 + i) else none)))))), (q24 + 1 + 0, .inl (cs.1, 32, .inl (fun _ => 0))), (q24 + 1 + 1, .inl (cs.1, 32, .inl (fun _ => 0))), (q35, .inl (cs.2.2, 2, .inr (.inr (.inr (.inr (fun i => if i < 2 then some (q35 + 1 + i) else none)))))), (q35 + 1 + 0, .inl (cs.1, 32, .inl (fun _ => 0))), (q35 + 1 + 1, .inl (cs.1, 32, .inl (fun _ => 0))), (q46, .inl (cs.2.2, 2, .inr (.inr (.inr (.inr (fun i => if i < 2 then some (q46 + 1 + i) else none)))))), (q46 + 1 + 0, .inl (cs.1, 32, .inl (fun _ => 0))), (q46 + 1 + 1, .inl (cs.1, 32, .inl (fun _ => 0))), (q56, .inl (cs.1, 32, .inl (fun _ => 0)))] H := hP
  have hD : va_D A [(h0, .inr (5, [.ref q7, .ref q15, .ref q24, .ref q35, .ref q46, .null, .int 0])), (q7, .inl (cs.1, 32, .inl (fun _ => 0))), (q15, .inl (cs.1, 32, .inl (fun _ => 0))), (q24, .inl (cs.2.2, 2, .inr (.inr (.inr (.inr (fun i => if i < 2 then some (q24 + 1 + i) else none)))))), (q24 + 1 + 0, .inl (cs.1, 32, .inl (fun _ => 0))), (q24 + 1 + 1, .inl (cs.1, 32, .inl (fun _ => 0))), (q35, .inl (cs.2.2, 2, .inr (.inr (.inr (.inr (fun i => if i < 2 then some (q35 + 1 + i) else none)))))), (q35 + 1 + 0, .inl (cs.1, 32, .inl (fun _ => 0))), (q35 + 1 + 1, .inl (cs.1, 32, .inl (fun _ => 0))), (q46, .inl (cs.2.2, 2, .inr (.inr (.inr (.inr (fun i => if i < 2 then some (q46 + 1 + i) else none)))))), (q46 + 1 + 0, .inl (cs.1, 32, .inl (fun _ => 0))), (q46 + 1 + 1, .inl (cs.1, 32, .inl (fun _ => 0))), (q56, .inl (cs.1, 32, .inl (fun _ => 0)))] := hD
  refine W.widen (k := 12) (n := 294) (by omega) (by omega) ?_
  refine va_putF (D := D) (ci := 5) (v := .ref q56) (ty := (.array .int)) (C := RX5) (T := TX5) (N := 7) hx hb hts wkX5 tyX5 tyX5_ok nmX5 hown hK hP hD hS 0 rfl rfl 5 (by decide) (hts _ (TW_of 102 (by decide +kernel) (by decide +kernel))) (fun _ h9 => h9) rfl hin rfl (by decide +kernel) rfl rfl (Nat.le_of_ble_eq_true rfl) dX5_init_58 (fun H locs hP hD hS => ?_)
  have hP : va_P D classes [(h0, .inr (5, [.ref q7, .ref q15, .ref q24, .ref q35, .ref q46, .ref q56, .int 0])), (q7, .inl (cs.1, 32, .inl (fun _ => 0))), (q15, .inl (cs.1, 32, .inl (fun _ => 0))), (q24, .inl (cs.2.2, 2, .inr (.inr (.inr (.inr (fun i => if i < 2 then some (q24 + 1 + i) else none)))))), (q24 + 1 + 0, .inl (cs.1, 32, .inl (fun _ => 0))), (q24 + 1 + 1, .inl (cs.1, 32, .inl (fun _ => 0))), (q35, .inl (cs.2.2, 2, .inr (.inr (.inr (.inr (fun i => if i < 2 then some (q35 + 1 + i) else none)))))), (q35 + 1 + 0, .inl (cs.1, 32, .inl (fun _ => 0))), (q35 + 1 + 1, .inl (cs.1, 32, .inl (fun _ => 0))), (q46, .inl (cs.2.2, 2, .inr (.inr (.inr (.inr (fun i => if i < 2 then some (q46 + 1 + i) else none)))))), (q46 + 1 + 0, .inl (cs.1, 32, .inl (fun _ => 0))), (q46 + 1 + 1, .inl (cs.1, 32, .inl (fun _ => 0))), (q56, .inl (cs.1, 32, .inl (fun _ => 0)))] H := hP
  have hD : va_D A [(h0, .inr (5, [.ref q7, .ref q15, .ref q24, .ref q35, .ref q46, .ref q56, .int 0])), (q7, .inl (cs.1, 32, .inl (fun _ => 0))), (q15, .inl (cs.1, 32, .inl (fun _ => 0))), (q24, .inl (cs.2.2, 2, .inr (.inr (.inr (.inr (fun i => if i < 2 then some (q24 + 1 + i) else none)))))), (q24 + 1 + 0, .inl (cs.1, 32, .inl (fun _ => 0))), (q24 + 1 + 1, .inl (cs.1, 32, .inl (fun _ => 0))), (q35, .inl (cs.2.2, 2, .inr (.inr (.inr (.inr (fun i => if i < 2 then some (q35 + 1 + i) else none)))))), (q35 + 1 + 0, .inl (cs.1, 32, .inl (fun _ => 0))), (q35 + 1 + 1, .inl (cs.1, 32, .inl (fun _ => 0))), (q46, .inl (cs.2.2, 2, .inr (.inr (.inr (.inr (fun i => if i < 2 then some (q46 + 1 + i) else none)))))), (q46 + 1 + 0, .inl (cs.1, 32, .inl (fun _ => 0))), (q46 + 1 + 1, .inl (cs.1, 32, .inl (fun _ => 0))), (q56, .inl (cs.1, 32, .inl (fun _ => 0)))] := hD
  refine lv_aload_n hx hb dX5_init_61 rfl (lv_at hl 0 rfl) ?_
  refine lv_bipush (v := 8) hx hb dX5_init_62 (by decide) ?_
  refine va_put (D := D) (ci := 5) (v := .int 8) (ty := .int) (C := RX5) (T := TX5) (N := 7) hx hb hts wkX5 tyX5 tyX5_ok nmX5 hown hK hP hD hS 0 rfl rfl 6 (by decide) (hts _ (TW_of 103 (by decide +kernel) (by decide +kernel))) (fun _ h9 => h9) rfl (by decide +kernel) rfl rfl (Nat.le_of_ble_eq_true rfl) dX5_init_64 (fun H locs hP hD hS => ?_)
  have hP : va_P D classes [(h0, .inr (5, [.ref q7, .ref q15, .ref q24, .ref q35, .ref q46, .ref q56, .int 8])), (q7, .inl (cs.1, 32, .inl (fun _ => 0))), (q15, .inl (cs.1, 32, .inl (fun _ => 0))), (q24, .inl (cs.2.2, 2, .inr (.inr (.inr (.inr (fun i => if i < 2 then some (q24 + 1 + i) else none)))))), (q24 + 1 + 0, .inl (cs.1, 32, .inl (fun _ => 0))), (q24 + 1 + 1, .inl (cs.1, 32, .inl (fun _ => 0))), (q35, .inl (cs.2.2, 2, .inr (.inr (.inr (.inr (fun i => if i < 2 then some (q35 + 1 + i) else none)))))), (q35 + 1 + 0, .inl (cs.1, 32, .inl (fun _ => 0))), (q35 + 1 + 1, .inl (cs.1, 32, .inl (fun _ => 0))), (q46, .inl (cs.2.2, 2, .inr (.inr (.inr (.inr (fun i => if i < 2 then some (q46 + 1 + i) else none)))))), (q46 + 1 + 0, .inl (cs.1, 32, .inl (fun _ => 0))), (q46 + 1 + 1, .inl (cs.1, 32, .inl (fun _ => 0))), (q56, .inl (cs.1, 32, .inl (fun _ => 0)))] H := hP
  have hD : va_D A [(h0, .inr (5, [.ref q7, .ref q15, .ref q24, .ref q35, .ref q46, .ref q56, .int 8])), (q7, .inl (cs.1, 32, .inl (fun _ => 0))), (q15, .inl (cs.1, 32, .inl (fun _ => 0))), (q24, .inl (cs.2.2, 2, .inr (.inr (.inr (.inr (fun i => if i < 2 then some (q24 + 1 + i) else none)))))), (q24 + 1 + 0, .inl (cs.1, 32, .inl (fun _ => 0))), (q24 + 1 + 1, .inl (cs.1, 32, .inl (fun _ => 0))), (q35, .inl (cs.2.2, 2, .inr (.inr (.inr (.inr (fun i => if i < 2 then some (q35 + 1 + i) else none)))))), (q35 + 1 + 0, .inl (cs.1, 32, .inl (fun _ => 0))), (q35 + 1 + 1, .inl (cs.1, 32, .inl (fun _ => 0))), (q46, .inl (cs.2.2, 2, .inr (.inr (.inr (.inr (fun i => if i < 2 then some (q46 + 1 + i) else none)))))), (q46 + 1 + 0, .inl (cs.1, 32, .inl (fun _ => 0))), (q46 + 1 + 1, .inl (cs.1, 32, .inl (fun _ => 0))), (q56, .inl (cs.1, 32, .inl (fun _ => 0)))] := hD
  exact W.vret hx hb hr (fun t ht hW => ⟨⟨(q7, q15, q24, q35, q46, q56), rfl, trivial, by rw [ht]; exact hP, va_K.moved hW.alike hK, hD⟩, hS.F ht⟩) hS.2.2 dX5_init_67 hlocks
