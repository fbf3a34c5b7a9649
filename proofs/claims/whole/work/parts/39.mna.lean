/-! NEW ROWS OF ROWS: 'multianewarray' of two dimensions, int[n][m], out of the model's own step; the world behind it in one list -/
/-- the outer row when i of its rows stand behind it -/
def mnO (c : ClassId) (N h i : Nat) : Cell := arrV c N (fun j => va_rf (if j < i then some (h + 1 + j) else none))
def mnI (c : ClassId) (K : Nat) : Cell := arrV c K (fun _ => .int 0)
theorem mnO_0 (c : ClassId) (N h : Nat) : ({ cls := c, slots := Array.replicate N .null, vm := .none } : Cell) = mnO c N h 0 := by
  rw [arrV_new]
  exact congrArg (arrV c N) (funext fun j => by simp [va_rf])
theorem mnO_1 (c : ClassId) (N h i : Nat) : (mnO c N h i).setSlot i (.ref (h + 1 + i)) = mnO c N h (i + 1) := by
  unfold mnO
  rw [arrV_store]
  refine congrArg (arrV c N) (funext fun j => ?_)
  rcases Nat.lt_trichotomy j i with h | h | h
  · simp [updV, va_rf, h, Nat.lt_succ_of_lt h, Nat.ne_of_lt h]
  · subst h
    simp [updV, va_rf]
  · simp [updV, va_rf, show ¬ j < i by omega, show ¬ j < i + 1 by omega, show ¬ j = i by omega]
theorem mnI_0 (c : ClassId) (K : Nat) : ({ cls := c, slots := Array.replicate K (.int 0), vm := .none } : Cell) = mnI c K := arrV_new c K (.int 0)
/-- the state when the outer row and i rows stand -/
def mnS (T : State) (a c : ClassId) (N K : Nat) : Nat → State
  | 0 => T.pushCell (mnO a N T.heap.size 0)
  | i + 1 => ((mnS T a c N K i).pushCell (mnI c K)).setCell T.heap.size (mnO a N T.heap.size (i + 1))
def mnP (T : State) (a c : ClassId) (N K i : Nat) (U : State) : Prop := U.vm = T.vm ∧ U.heap.size = T.heap.size + 1 + i ∧ U.slotsUsed = T.slotsUsed + N + i * K ∧ U.heap[T.heap.size]? = some (mnO a N T.heap.size i) ∧ (∀ x, x < T.heap.size → U.heap[x]? = T.heap[x]?) ∧ ∀ j, j < i → U.heap[T.heap.size + 1 + j]? = some (mnI c K)
theorem mnS_P (T : State) (a c : ClassId) (N K : Nat) : ∀ i, mnP T a c N K i (mnS T a c N K i)
  | 0 => ⟨rfl, State.heap_size_pushCell _ _, by show T.slotsUsed + (mnO a N T.heap.size 0).slots.size = _; rw [mnO, arrV_size, Nat.zero_mul]; rfl, State.heap_pushCell_size _ _, fun x hx => State.heap_pushCell_of_lt _ _ hx, fun j hj => absurd hj (Nat.not_lt_zero j)⟩
  | i + 1 => by
    obtain ⟨p1, p2, p3, p4, p5, p6⟩ := mnS_P T a c N K i
    have q0 : ∀ x, x < T.heap.size + 1 + i → ((mnS T a c N K i).pushCell (mnI c K)).heap[x]? = (mnS T a c N K i).heap[x]? := fun x hx => State.heap_pushCell_of_lt _ _ (by rw [p2]; exact hx)
    refine ⟨p1, ?_, ?_, State.heap_setCell_self (c := mnO a N T.heap.size i) ((q0 _ (by omega)).trans p4), fun x hx => ?_, fun j hj => ?_⟩
    · show (((mnS T a c N K i).pushCell (mnI c K)).heap.setIfInBounds _ _).size = _
      rw [Array.size_setIfInBounds, State.heap_size_pushCell, p2]
      omega
    · show (mnS T a c N K i).slotsUsed + (mnI c K).slots.size = _
      rw [p3, mnI, arrV_size, Nat.succ_mul]
      omega
    · rw [mnS, State.heap_setCell_other (a := T.heap.size) (b := x) (Nat.ne_of_gt hx), q0 x (by omega)]
      exact p5 x hx
    · rw [mnS, State.heap_setCell_other (a := T.heap.size) (b := T.heap.size + 1 + j) (Nat.ne_of_lt (Nat.lt_of_lt_of_le (Nat.lt_succ_self _) (Nat.le_add_right _ _)))]
      rcases Nat.lt_or_eq_of_le (Nat.le_of_lt_succ hj) with h | h
      · rw [q0 _ (by omega)]
        exact p6 j h
      · subst h
        rw [← p2]
        exact State.heap_pushCell_size _ _
theorem mnS_top (T : State) (f : JFrame) (a c : ClassId) (N K : Nat) : ∀ i, mnS (T.setTop f) a c N K i = (mnS T a c N K i).setTop f
  | 0 => rfl
  | i + 1 => by
    show ((mnS (T.setTop f) a c N K i).pushCell (mnI c K)).setCell T.heap.size _ = _
    rw [mnS_top T f a c N K i]
    rfl
theorem mnS_X {p : Program} {l : Launch} {e : Env} {R : Room} {s : State} {m : MethodId} {args : Array Value} {below : List Frame} {meth : Method} {c : Code} {T : State} {locs : List Loc} {cells slots : Nat} (X : Stand p l e R s m args below meth c T locs cells slots) (a b : ClassId) (N K : Nat) : ∀ i, Stand p l e R s m args below meth c (mnS T a b N K i) locs (cells + 1 + i) (slots + N + i * K)
  | 0 => by
    have h := X.pushed (mnO a N T.heap.size 0)
    rw [show (mnO a N T.heap.size 0).slots.size = N from arrV_size _ _ _] at h
    rw [Nat.zero_mul]
    exact h
  | i + 1 => by
    have h := (mnS_X X a b N K i).pushed (mnI b K)
    rw [show (mnI b K).slots.size = K from arrV_size _ _ _] at h
    obtain ⟨-, p2, -, p4, -, -⟩ := mnS_P T a b N K i
    have hc : ((mnS T a b N K i).pushCell (mnI b K)).heap[T.heap.size]? = some (mnO a N T.heap.size i) := (State.heap_pushCell_of_lt _ _ (a := T.heap.size) (by rw [p2]; exact Nat.lt_of_lt_of_le (Nat.lt_succ_self _) (Nat.le_add_right _ _))).trans p4
    have h2 := h.stored hc i (.ref (T.heap.size + 1 + i))
    rw [mnO_1] at h2
    have h3 := h2.dropFresh (fun x hx => by
      rw [List.mem_singleton] at hx
      subst hx
      exact X.heapGrown)
    rw [show slots + N + (i + 1) * K = slots + N + i * K + K by rw [Nat.succ_mul]; omega]
    exact h3
/-- the model's 'make' of two dimensions -/
theorem mn_make {E : CtlPost} {e : Env} {d : Bool} {acts : List Action} {s : State} {a b cc : ClassId} {ka kb : Class} {n m : Int32} (ha : s.vm.classes[a]? = some ka) (hka : ka.kind = .array b (.array .int)) (hb : s.vm.classes[b]? = some kb) (hkb : kb.kind = .array cc .int) (hn : ¬ n < 0) (hm : ¬ m < 0) (l1 : n.toNatClampNeg ≤ e.platform.arrayLengthLimit) (l2 : n.toNatClampNeg * 4 ≤ e.platform.maxHeapBytes) (l3 : m.toNatClampNeg ≤ e.platform.arrayLengthLimit) (l4 : m.toNatClampNeg * 4 ≤ e.platform.maxHeapBytes) (hc : s.heap.size + (1 + n.toNatClampNeg) ≤ e.platform.maxCells) (hs : s.slotsUsed + (n.toNatClampNeg + n.toNatClampNeg * m.toNatClampNeg) ≤ e.platform.maxSlots) {Q : Addr → Pre} (hq : ∀ d' acts', Q s.heap.size d' acts' (mnS s a b n.toNatClampNeg m.toNatClampNeg n.toNatClampNeg)) : wp (Jvm.Op.multianewarray.make a [n, m]) Q E e d acts s := by
  have hfind : ([m].find? (fun x => decide (x < 0))) = none := by simp [hm]
  rw [Jvm.Op.multianewarray.make]
  simp only [wp_bind', W.ite, hn, if_false, wp_pure', W.theClass, ha, hka, Option.some.injEq, exists_eq_left']
  refine W.newArray_of ha hka (Nat.not_lt.mpr l1) (Nat.not_lt.mpr l2) (by omega) (by omega) rfl (fun acts1 => ?_)
  rw [mnO_0 a n.toNatClampNeg s.heap.size]
  simp only [hfind]
  rw [ite_self, wp_bind', Std.Legacy.Range.forIn_eq_forIn_range']
  have hsz : ([:n.toNatClampNeg] : Std.Legacy.Range).size = n.toNatClampNeg := by simp [Std.Legacy.Range.size]
  rw [hsz]
  refine wp_forIn_inv (fun rest U => ∃ i, rest = List.range' i (n.toNatClampNeg - i) ∧ i ≤ n.toNatClampNeg ∧ U = mnS s a b n.toNatClampNeg m.toNatClampNeg i) _ _ ⟨0, rfl, Nat.zero_le _, rfl⟩ (fun x rest U d1 acts1 Q1 hI hgo => ?_) (fun U d1 acts1 hI => ?_)
  · obtain ⟨i, hr, hi, rfl⟩ := hI
    have hlt : i < n.toNatClampNeg := by
      rcases Nat.lt_or_ge i n.toNatClampNeg with h | h
      · exact h
      · rw [Nat.sub_eq_zero_of_le h] at hr
        cases hr
    rw [show n.toNatClampNeg - i = n.toNatClampNeg - (i + 1) + 1 by omega, List.range'_succ] at hr
    obtain ⟨hx, rfl⟩ := List.cons.inj hr
    rw [hx]
    obtain ⟨p1, p2, p3, p4, -, -⟩ := mnS_P s a b n.toNatClampNeg m.toNatClampNeg i
    have hmul : i * m.toNatClampNeg + m.toNatClampNeg ≤ n.toNatClampNeg * m.toNatClampNeg := by
      rw [← Nat.succ_mul]
      exact Nat.mul_le_mul_right _ hlt
    rw [wp_bind', Jvm.Op.multianewarray.make]
    simp only [wp_bind', W.ite, hm, if_false, wp_pure', W.theClass, p1, hb, hkb, Option.some.injEq, exists_eq_left']
    refine W.newArray_of (by rw [p1]; exact hb) hkb (Nat.not_lt.mpr l3) (Nat.not_lt.mpr l4) (by omega) (by omega) rfl (fun acts2 => ?_)
    rw [show ({ cls := b, slots := Array.replicate m.toNatClampNeg (defaultValue .int) } : Cell) = mnI b m.toNatClampNeg from mnI_0 b _, p2]
    simp only [wp_bind', W.writeLoc, wp_pure']
    refine ⟨mnO a n.toNatClampNeg s.heap.size i, (State.heap_pushCell_of_lt _ _ (a := s.heap.size) (by rw [p2]; exact Nat.lt_of_lt_of_le (Nat.lt_succ_self _) (Nat.le_add_right _ _))).trans p4, by simp [mnO, arrV], by rw [mnO, arrV_size]; exact hlt, ?_, hgo _ _ _ ⟨i + 1, rfl, hlt, ?_⟩⟩
    · simp [mnO, arrV, State.fitsSlot, State.slotType?, p1, ha, hka]
      rfl
    · rw [mnO_1]
      rfl
  · obtain ⟨i, hr, hi, rfl⟩ := hI
    have hiN : i = n.toNatClampNeg := by
      rcases Nat.lt_or_ge i n.toNatClampNeg with h | h
      · rw [show n.toNatClampNeg - i = n.toNatClampNeg - (i + 1) + 1 by omega, List.range'_succ] at hr
        cases hr
      · omega
    rw [hiN]
    simp only [wp_pure']
    exact hq _ _
theorem va_D_grow {A : Nat → Prop} {ws Nw : va_W} {n0 : Nat} (hD : va_D A ws) (hlt : ∀ (k : Nat) (x : Nat × va_E), ws[k]? = some x → x.1 < n0) (hN : ∀ (k : Nat) (x : Nat × va_E), Nw[k]? = some x → x.1 = n0 + k) (hA : ∀ q, n0 ≤ q → A q) : va_D A (ws ++ Nw) := by
  have hc : ∀ (k : Nat) (x : Nat × va_E), (ws ++ Nw)[k]? = some x → (k < ws.length ∧ ws[k]? = some x) ∨ (ws.length ≤ k ∧ Nw[k - ws.length]? = some x) := fun k x h => by
    by_cases hk : k < ws.length
    · rw [List.getElem?_append_left hk] at h; exact Or.inl ⟨hk, h⟩
    · rw [List.getElem?_append_right (by omega)] at h; exact Or.inr ⟨by omega, h⟩
  refine ⟨fun i j x y hi hj hxy => ?_, fun k x hk => ?_⟩
  · rcases hc i x hi with ⟨a1, a2⟩ | ⟨a1, a2⟩ <;> rcases hc j y hj with ⟨b1, b2⟩ | ⟨b1, b2⟩
    · exact hD.1 i j x y a2 b2 hxy
    · have := hlt _ _ a2; have := hN _ _ b2; omega
    · have := hN _ _ a2; have := hlt _ _ b2; omega
    · have := hN _ _ a2; have := hN _ _ b2; omega
  · rcases hc k x hk with ⟨a1, a2⟩ | ⟨a1, a2⟩
    · exact hD.2 k x a2
    · exact hA _ (by have := hN _ _ a2; omega)
abbrev rowsOf (q N : Nat) (cA cy : ClassId) (z : vp_A) : va_W := (q, .inl (cA, N, .inr (.inr (.inr (.inr (fun i => if i < N then some (q + 1 + i) else none)))))) :: (List.range N).map (fun i => (q + 1 + i, .inl (cy, z)))
/-- an array class over int[]: its component is int[]'s own class -/
theorem mn_over {args : Array Value} {s : State} (h : (Cond.arrayOver (.array .int)).before args s = true) : ∃ b a k, s.vm.findClass (FieldType.array .int).toString = some b ∧ s.vm.findClass ("[" ++ (FieldType.array .int).toString) = some a ∧ s.vm.classes[a]? = some k ∧ k.kind = .array b (.array .int) := by
  simp only [Cond.before, Cond.holds, Cond.value, beq_iff_eq, Option.map_eq_some_iff, Option.bind_eq_some_iff] at h
  obtain ⟨b, hb, a, hidx, k, hk, hd⟩ := h
  obtain ⟨hlt, hp, -⟩ := Array.findIdx?_eq_some_iff_getElem.mp hidx
  rw [(Array.getElem?_eq_some_iff.mp hk).2] at hp
  cases hkind : k.kind with
  | array comp ty =>
    rw [hkind] at hd hp
    simp only [Bool.and_eq_true, decide_eq_true_eq] at hd
    simp at hp
    exact ⟨b, a, k, hb, hd.2, hk, by rw [hkind, hp, hd.1]⟩
  | _ => rw [hkind] at hd; simp at hd
theorem va_mna2 {p : Program} {l : Launch} {e : Env} {R : Room} {s : State} {m : MethodId} {args : Array Value} {below : List Frame} {meth : Method} {c : Code} {H : Heap} {locs : List Loc} {cells slots : Nat} {Q : State → Prop} {cc : ByteArray} {pc : Nat} {ls : Array Slot} {rest : List Value} {D : va_G} {cl : List vw_C} {A : Nat → Prop} {tys : List (ClassId × FieldType)} {ws : va_W} {H0 : Heap} (hexec : p.tables.exec = Jvm.exec) (hb : c.code = cc) {own : String} {index : Nat} {cA cy : ClassId} (hown : s.vm.findClass own = some m.cls) (hclink : (Cond.classLink own index ("[" ++ (FieldType.array .int).toString)).before args s = true) (hover : (Cond.arrayOver (.array .int)).before args s = true) (harr : (Cond.arrayClass .int).before args s = true) (hcA : s.vm.findClass ("[" ++ (FieldType.array .int).toString) = some cA) (hcy : s.vm.findClass (FieldType.array .int).toString = some cy)
    (hK : va_K D cl tys s) (hP : va_P D cl ws H) (hD : va_D A ws) (hS : va_S A H0 H locs) (hA : ∀ q, H0.size ≤ q → A q) {n k : Int32} {N' K' : Nat} (hn : ¬ n < 0) (hk : ¬ k < 0) (hN : n.toNatClampNeg = N') (hM : k.toNatClampNeg = K')
    (hb1 : N' * 4 ≤ 536870912) (hb2 : K' * 4 ≤ 536870912) (hcells : cells + (1 + N') ≤ R.cells) (hslots : slots + (N' + N' * K') ≤ R.slots) (hdg : decode cc pc = .ok (.multianewarray index 2, 4))
    (kk : ∀ (q : Nat) (H1 : Heap), va_P D cl (ws ++ rowsOf q N' cA cy (K', .inl (fun _ => 0))) H1 → va_D A (ws ++ rowsOf q N' cA cy (K', .inl (fun _ => 0))) → va_S A H0 H1 locs → W p l e R s m args below meth c H1 locs (cells + 1 + N') (slots + N' + N' * K') Q (F0 m (pc + 4) ls (.ref q :: rest))) : W p l e R s m args below meth c H locs cells slots Q (F0 m pc ls (.int k :: .int n :: rest)) := by
  subst hN
  subst hM
  intro T hT X
  have hpl : e.platform.magicAccessors = ({} : Platform).magicAccessors := by rw [X.admits.platform]
  obtain ⟨b9, a9, ka, g1, g2, g3, g4⟩ := mn_over hover
  cases hcy.symm.trans g1
  cases hcA.symm.trans g2
  obtain ⟨b8, kb, c8, f1, f2, f3⟩ := Cond.arrayClass_spec harr
  have eb : some cy = some b8 := hcy.symm.trans f1
  cases eb
  obtain ⟨c7, h7, hcl⟩ := Cond.classLink_spec hown hclink e.platform hpl
  cases hcA.symm.trans h7
  obtain ⟨hg1, hw1, -⟩ := State.classEntry (e := e) X.warmed hcl
  generalize T.vm.noted m.cls index (.cls cA) = vm1 at hg1 hw1
  obtain ⟨ka1, ga1, ea⟩ := hw1.alike.2.2 _ _ g3
  obtain ⟨kb1, gb1, eb⟩ := hw1.alike.2.2 _ _ f2
  have ga2 : ka1.kind = .array cy (.array .int) := by rw [ea]; exact g4
  have gb2 : kb1.kind = .array c8 .int := by rw [eb]; exact f3
  obtain ⟨r1, r2⟩ := X.roomAbove hcells hslots
  have XF := mnS_X (X.noted hw1) cA cy n.toNatClampNeg k.toNatClampNeg n.toNatClampNeg
  obtain ⟨-, p2, -, p4, p5, p6⟩ := mnS_P (T.setVm vm1) cA cy n.toNatClampNeg k.toNatClampNeg n.toNatClampNeg
  have hTh : (T.setVm vm1).heap = H := hT
  rw [hTh] at p2 p4 p5 p6
  generalize hF : mnS (T.setVm vm1) cA cy n.toNatClampNeg k.toNatClampNeg n.toNatClampNeg = F at XF p2 p4 p5 p6
  have hlt : ∀ (k9 : Nat) (x : Nat × va_E), ws[k9]? = some x → x.1 < H.size := fun k9 x hx => (hP k9 x hx).lt
  have hP0 : va_P D cl ws F.heap := hP.kept (fun k9 x hx => p5 x.1 ((hP k9 x hx).lt))
  have hnew : ∀ (k9 : Nat) (x : Nat × va_E), (rowsOf H.size n.toNatClampNeg cA cy (k.toNatClampNeg, .inl (fun _ => 0)))[k9]? = some x → x.1 = H.size + k9 ∧ va_at D cl x F.heap := fun k9 x hx => by
    cases k9 with
    | zero =>
      cases hx
      exact ⟨rfl, p4⟩
    | succ k9 =>
      have hx : ((List.range n.toNatClampNeg).map (fun i => ((H.size + 1 + i, .inl (cy, (k.toNatClampNeg, .inl (fun _ => 0)))) : Nat × va_E)))[k9]? = some x := hx
      rw [List.getElem?_map] at hx
      by_cases h9 : k9 < n.toNatClampNeg
      · rw [List.getElem?_range h9] at hx
        cases hx
        exact ⟨by show H.size + 1 + k9 = H.size + (k9 + 1); omega, p6 k9 h9⟩
      · have hn0 : (List.range n.toNatClampNeg)[k9]? = none := List.getElem?_eq_none (by rw [List.length_range]; omega)
        rw [hn0] at hx
        cases hx
  have hP2 : va_P D cl (ws ++ rowsOf H.size n.toNatClampNeg cA cy (k.toNatClampNeg, .inl (fun _ => 0))) F.heap := hP0.app (fun k9 x hx => (hnew k9 x hx).2)
  have hD2 : va_D A (ws ++ rowsOf H.size n.toNatClampNeg cA cy (k.toNatClampNeg, .inl (fun _ => 0))) := va_D_grow hD hlt (fun k9 x hx => (hnew k9 x hx).1) (fun q h => hA q (Nat.le_trans hS.1 h))
  have hS2 : va_S A H0 F.heap locs := ⟨Nat.le_trans hS.1 (by rw [p2]; omega), fun q h1 h2 => by rw [p5 q (Nat.lt_of_lt_of_le h1 hS.1)]; exact hS.2.1 q h1 h2, hS.2.2⟩
  obtain ⟨t, a1, b1⟩ := kk H.size F.heap hP2 hD2 hS2 F rfl XF
  refine ⟨t, ?_, b1⟩
  generalize hgg : F0 m pc ls (.int k :: .int n :: rest) = g
  have hgm : g.method = m := by rw [← hgg]
  have hgs : g.stack = .int k :: .int n :: rest := by rw [← hgg]
  have hgd : decode c.code g.pc = .ok (.multianewarray index 2, 4) := by rw [← hgg, hb]; exact hdg
  have hgo : F0 m (pc + 4) ls (.ref H.size :: rest) = { g with pc := g.pc + 4, stack := .ref H.size :: rest } := by rw [← hgg]
  rw [hgo] at a1
  subst hgm
  jvm_step X.here [hexec, hgd]
  simp only [Jvm.Op.multianewarray.sem, wp_bind', W.resolveClassAt_links (State.method?_setTop g X.here.top) hg1]
  rw [W.popN, if_neg (by decide)]
  refine ⟨g, State.topJava?_setTop' (s := T.setVm vm1) g X.here.top, [.int n, .int k], rest, rfl, hgs, ?_⟩
  simp only [List.mapM_cons, List.mapM_nil, wp_bind', wp_pure']
  refine mn_make (s := ((T.setTop g).setVm vm1).setTop { g with stack := rest }) (a := cA) (b := cy) (cc := c8) (ka := ka1) (kb := kb1) ga1 ga2 gb1 gb2 hn hk (by rw [Launch.admits_arrayLengthLimit X.admits]; omega) (by rw [Launch.admits_maxHeapBytes X.admits]; omega) (by rw [Launch.admits_arrayLengthLimit X.admits]; omega) (by rw [Launch.admits_maxHeapBytes X.admits]; omega) r1 r2 (fun d1 acts1 => ?_)
  rw [show ((T.setTop g).setVm vm1).setTop { g with stack := rest } = (T.setVm vm1).setTop { g with stack := rest } from State.setTop_setTop (s := T.setVm vm1) .., mnS_top, hF]
  simp only [wp_bind', W.mark, W.pushRef, State.topJava?_setTop' _ XF.here.top, Option.some.injEq, exists_eq_left', State.setTop_setTop, State.heap_setTop]
  intro acts2
  simp [jvm, XF.here.top]
  show Steps p.tables e below (F.setTop { g with pc := g.pc + 4, stack := .ref T.heap.size :: rest }) t
  rw [hT]
  exact a1
