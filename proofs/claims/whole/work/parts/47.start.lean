/-! THE CLAIM OUT OF ONE WALK OF THE LAW'S BODY. Your part is whole_start (and what it stands on); all else here is the same for every law, but numbers. -/
def R_law : String := "WheelStandLaw"
def lw_P (b : Addr) (xs : List Int32) (args : Array Value) (s : State) : Prop := args = #[.ref b] ∧ s.IntsAt b xs ∧ xs.length ≤ 2560 ∧ (Jvm.Cond.and given_1 narrow_1).before args s = true
def lw_Q (_ : Array Value) (s : State) (o : Outcome) (t : State) : Prop := o = .returned (some (.int 1)) ∧ Framed s o t [] 600000 7302250
def lw_Z (below : List Frame) (a : Array Value) (s : State) : State → Prop := fun t => ∃ o, t.status = .running ∧ Ended t below o ∧ lw_Q a s o t
/-- the law's own end, with 1 on the stack, nothing written that was there before, its room as the claim has it -/
theorem lw_ret {p : Program} {l : Launch} {e : Env} {s : State} {m : MethodId} {below : List Frame} {meth : Method} {c : Code} {b : Nat} (hx : p.tables.exec = Jvm.exec) (hb : c.code = code) (hr : meth.sig.returnType = ret) (hlocks : meth.locks = false) {pc : Nat} {H : Heap} {ls : Array Slot} (hdg : decode code pc = .ok (.ireturn, 1)) : W p l e room_1 s m #[Value.ref b] below meth c H [] 600000 7302250 (lw_Z below #[Value.ref b] s) (F0 m pc ls [.int 1]) := by
  intro T hT X
  obtain ⟨fs, hret, hrun, hended, hW, hframe⟩ := X.leave (v := some (.int 1)) (hlocks := hlocks) (fun h => by rw [hr] at h; cases h)
  have hmeth' : T.vm.method? m = some meth := X.method'
  refine ⟨T.setFrames fs, ?_, .returned (some (.int 1)), hrun, hended, rfl, ⟨_, rfl⟩, hW, hframe⟩
  jvm_step X.here [X.here.top, hx, hb, hdg, hmeth', hr, ret, narrow_b1]
  (try refine ⟨rfl, ?_⟩); (try refine ⟨rfl, ?_⟩)
  first | (intro acts; rw [hret _ acts rfl rfl rfl]) | rw [hret _ _ rfl rfl rfl]
  exact Steps.refl _
/-- what holds at the law's entry: the machine, the code, the tables' words (any of lw_tbl by 'hts w (by decide +kernel)'), the script of L ints xs at the cell b, what the Statement gives of the start (any of its parts by flat_of_before) -/
def lw_At (p : Program) (s : State) (m : MethodId) (meth : Method) (c : Code) (b L : Nat) (xs : Nat → Int32) : Prop :=
  p.tables.exec = Jvm.exec ∧ c.code = code ∧ meth.sig.returnType = ret ∧ c.maxLocals = 4 ∧ s.vm.findClass R_law = some m.cls ∧ (∀ w ∈ lw_tbl, w.before #[Value.ref b] s = true) ∧ va_X b L xs s s.heap ∧ b < s.heap.size ∧ meth.locks = false ∧ (Jvm.Cond.and given_1 narrow_1).before #[Value.ref b] s = true

theorem TW_sub {args : Array Value} {s : State} (hts : ∀ w ∈ lw_tbl, w.before args s = true) : ∀ w ∈ TW, w.before args s = true := fun w h => hts w (List.mem_filter.mp h).1
theorem ac_spec {args : Array Value} {s : State} {ty : FieldType} (h : (Cond.arrayClass ty).before args s = true) : ∃ c, s.vm.findClass ("[" ++ ty.toString) = some c ∧ ArrOfT s c ty := by
  simp only [Cond.before, Cond.holds, Cond.value, beq_iff_eq, Option.map_eq_some_iff, Option.bind_eq_some_iff] at h
  obtain ⟨k, ⟨c, hc, hk⟩, hd⟩ := h
  refine ⟨c, hc, fun N z => ?_⟩
  cases hkind : k.kind with
  | array comp ty' =>
    rw [hkind] at hd
    simp only [decide_eq_true_eq] at hd
    subst hd
    exact ⟨(fun q hq => by cases hq), k, hk, comp, hkind⟩
  | _ => rw [hkind] at hd; simp at hd
theorem ao_spec {args : Array Value} {s : State} (h : (Cond.arrayOver (.array .int)).before args s = true) : ∃ c, s.vm.findClass ("[" ++ (FieldType.array .int).toString) = some c ∧ ArrOfT s c (.array .int) := by
  simp only [Cond.before, Cond.holds, Cond.value, beq_iff_eq, Option.map_eq_some_iff, Option.bind_eq_some_iff] at h
  obtain ⟨comp0, hc0, c, hidx, k, hk, hd⟩ := h
  cases hkind : k.kind with
  | array comp ty' =>
    rw [hkind] at hd
    simp only [Bool.and_eq_true, decide_eq_true_eq] at hd
    obtain ⟨h1, h2⟩ := hd
    subst h1
    exact ⟨c, h2, fun N z => ⟨(fun q hq => by cases hq), k, hk, comp, hkind⟩⟩
  | _ => rw [hkind] at hd; simp at hd

theorem start_K {args : Array Value} {s : State} (hts : ∀ w ∈ lw_tbl, w.before args s = true) : ∃ (D : va_G) (cs : ClassId × ClassId × ClassId), va_K D classes (tysOf cs) s := by
  have hT := TW_sub hts
  obtain ⟨c0, i0, k0⟩ := u_known (C := RX0) (T := TX0) (N := 11) (n := 11) hT wkX0 (hts _ (List.mem_of_getElem? (i := 124) (by decide +kernel)))
  obtain ⟨c1, i1, k1⟩ := u_known (C := RX1) (T := TX1) (N := 4) (n := 4) hT wkX1 (hts _ (List.mem_of_getElem? (i := 203) (by decide +kernel)))
  obtain ⟨c2, i2, k2⟩ := u_known (C := RX2) (T := TX2) (N := 4) (n := 4) hT wkX2 (hts _ (List.mem_of_getElem? (i := 164) (by decide +kernel)))
  obtain ⟨c3, i3, k3⟩ := u_known (C := RX3) (T := TX3) (N := 2) (n := 2) hT wkX3 (hts _ (List.mem_of_getElem? (i := 64) (by decide +kernel)))
  obtain ⟨c4, i4, k4⟩ := u_known (C := RX4) (T := TX4) (N := 3) (n := 3) hT wkX4 (hts _ (List.mem_of_getElem? (i := 184) (by decide +kernel)))
  obtain ⟨c5, i5, k5⟩ := u_known (C := RX5) (T := TX5) (N := 7) (n := 7) hT wkX5 (hts _ (List.mem_of_getElem? (i := 83) (by decide +kernel)))
  obtain ⟨c6, i6, k6⟩ := u_known (C := RX6) (T := TX6) (N := 7) (n := 7) hT wkX6 (hts _ (List.mem_of_getElem? (i := 56) (by decide +kernel)))
  obtain ⟨c7, i7, k7⟩ := u_known (C := RX7) (T := TX7) (N := 22) (n := 22) hT wkX7 (hts _ (List.mem_of_getElem? (i := 678) (by decide +kernel)))
  obtain ⟨a1, f1, r1⟩ := ac_spec (ty := .int) (hts _ (List.mem_of_getElem? (i := 81) (by decide +kernel)))
  obtain ⟨a2, f2, r2⟩ := ac_spec (ty := .long) (hts _ (List.mem_of_getElem? (i := 755) (by decide +kernel)))
  obtain ⟨a3, f3, r3⟩ := ao_spec (hts _ (List.mem_of_getElem? (i := 70) (by decide +kernel)))
  refine ⟨(fun k => [c0, c1, c2, c3, c4, c5, c6, c7].getD k c0, fun k => [i0, i1, i2, i3, i4, i5, i6, i7].getD k i0), (a1, a2, a3), fun k q hq => ?_, fun k q hq => ?_⟩
  · match k, hq with
    | 0, hq => cases hq; exact k0
    | 1, hq => cases hq; exact k1
    | 2, hq => cases hq; exact k2
    | 3, hq => cases hq; exact k3
    | 4, hq => cases hq; exact k4
    | 5, hq => cases hq; exact k5
    | 6, hq => cases hq; exact k6
    | 7, hq => cases hq; exact k7
    | k + 8, hq => simp [classes] at hq
  · match k, hq with
    | 0, hq => cases hq; exact ⟨r1, f1⟩
    | 1, hq => cases hq; exact ⟨r2, f2⟩
    | 2, hq => cases hq; exact ⟨r3, f3⟩
    | k + 3, hq => simp [tysOf] at hq

theorem start_N {args : Array Value} {s : State} (hts : ∀ w ∈ lw_tbl, w.before args s = true) : nwC s := ⟨⟨va_Nw.of rfl (hts _ (List.mem_of_getElem? (i := 352) (by decide +kernel))), va_Nw.of rfl (hts _ (List.mem_of_getElem? (i := 358) (by decide +kernel))), va_Nw.of rfl (hts _ (List.mem_of_getElem? (i := 625) (by decide +kernel))), va_Nw.of rfl (hts _ (List.mem_of_getElem? (i := 267) (by decide +kernel)))⟩, va_Nw.of rfl (hts _ (List.mem_of_getElem? (i := 65) (by decide +kernel))), va_Nw.of rfl (hts _ (List.mem_of_getElem? (i := 84) (by decide +kernel))), va_Nw.of rfl (hts _ (List.mem_of_getElem? (i := 185) (by decide +kernel))), va_Nw.of rfl (hts _ (List.mem_of_getElem? (i := 204) (by decide +kernel))), fun a => ao_moved (Vm.Alike.refl _) (hts _ (List.mem_of_getElem? (i := 70) (by decide +kernel)))⟩

theorem rowLEANS {args : Array Value} {s : State} (hg : (Jvm.Cond.and given_1 narrow_1).before args s = true) : ∃ a, (Term.static "WheelStand" "LEANS" "[I").eval args s none [] s = some (.ref a) ∧ va_X a 6 (fun j => ([0, 1, (-1), (-1), 0, 1] : List Int32).getD j 0) s s.heap ∧ a < s.heap.size := by
  have hs := flat_of_before _ hg
  refine stR (by decide) (hs _ (by decide +kernel)) (hs _ (by decide +kernel)) (fun j hj => ?_)
  rcases (show j = 0 ∨ j = 1 ∨ j = 2 ∨ j = 3 ∨ j = 4 ∨ j = 5 by omega) with rfl | rfl | rfl | rfl | rfl | rfl <;> exact hs _ (by decide +kernel)

theorem rowFORCES {args : Array Value} {s : State} (hg : (Jvm.Cond.and given_1 narrow_1).before args s = true) : ∃ a, (Term.static "WheelStand" "FORCES" "[I").eval args s none [] s = some (.ref a) ∧ va_X a 6 (fun j => ([1, 1, 1, 2, 0, 1] : List Int32).getD j 0) s s.heap ∧ a < s.heap.size := by
  have hs := flat_of_before _ hg
  refine stR (by decide) (hs _ (by decide +kernel)) (hs _ (by decide +kernel)) (fun j hj => ?_)
  rcases (show j = 0 ∨ j = 1 ∨ j = 2 ∨ j = 3 ∨ j = 4 ∨ j = 5 by omega) with rfl | rfl | rfl | rfl | rfl | rfl <;> exact hs _ (by decide +kernel)

theorem rowALSO {args : Array Value} {s : State} (hg : (Jvm.Cond.and given_1 narrow_1).before args s = true) : ∃ a, (Term.static "WheelStand" "ALSO" "[I").eval args s none [] s = some (.ref a) ∧ va_X a 6 (fun j => ([0, 0, 0, 2, 0, 1] : List Int32).getD j 0) s s.heap ∧ a < s.heap.size := by
  have hs := flat_of_before _ hg
  refine stR (by decide) (hs _ (by decide +kernel)) (hs _ (by decide +kernel)) (fun j hj => ?_)
  rcases (show j = 0 ∨ j = 1 ∨ j = 2 ∨ j = 3 ∨ j = 4 ∨ j = 5 by omega) with rfl | rfl | rfl | rfl | rfl | rfl <;> exact hs _ (by decide +kernel)

theorem rowSINES {args : Array Value} {s : State} (hg : (Jvm.Cond.and given_1 narrow_1).before args s = true) : ∃ a, (Term.static "WheelStand" "SINES" "[I").eval args s none [] s = some (.ref a) ∧ va_X a 17 (fun j => ([0, 100, 200, 297, 392, 483, 569, 650, 724, 792, 851, 903, 946, 980, 1004, 1019, 1024] : List Int32).getD j 0) s s.heap ∧ a < s.heap.size := by
  have hs := flat_of_before _ hg
  refine stR (by decide) (hs _ (by decide +kernel)) (hs _ (by decide +kernel)) (fun j hj => ?_)
  rcases (show j = 0 ∨ j = 1 ∨ j = 2 ∨ j = 3 ∨ j = 4 ∨ j = 5 ∨ j = 6 ∨ j = 7 ∨ j = 8 ∨ j = 9 ∨ j = 10 ∨ j = 11 ∨ j = 12 ∨ j = 13 ∨ j = 14 ∨ j = 15 ∨ j = 16 by omega) with rfl | rfl | rfl | rfl | rfl | rfl | rfl | rfl | rfl | rfl | rfl | rfl | rfl | rfl | rfl | rfl | rfl <;> exact hs _ (by decide +kernel)
