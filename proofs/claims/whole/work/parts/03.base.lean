/-! MY MACHINE. A method is walked over an abstract memory: cells by number, their places by whole numbers; numbers are whole numbers, of which the machine holds the rest by 2^32 (2^64). 'Go' is the kit's W with all its context inside; 'Ret' a contract. -/
abbrev AV : Type := Nat ⊕ (Int ⊕ Int)
abbrev aR (k : Nat) : AV := .inl k
abbrev aI (x : Int) : AV := .inr (.inl x)
abbrev aL (x : Int) : AV := .inr (.inr x)
abbrev Mem : Type := Nat → Int → Int
def up (σ : Mem) (k : Nat) (j v : Int) : Mem := fun a b => if a = k ∧ b = j then v else σ a b
def cv (ad : Nat → Nat) : AV → Value
  | .inl k => .ref (ad k)
  | .inr (.inl x) => .int (Int32.ofInt x)
  | .inr (.inr x) => .long (Int64.ofInt x)
abbrev Sh : Type := (Nat × List Nat) ⊕ (Nat × Nat × List Nat)
/-- the cells: objects (class, a kind a field: 0 int, 1 long, r + 2 the cell r), arrays (0 int, 1 long, 2 of rows; places; the rows) -/
def sh : Nat → Sh
  | 0 => .inl (6, [3, 12, 24, 25, 26, 28, 31])
  | 1 => .inl (3, [4, 11])
  | 2 => .inr (2, 6, [3, 4, 5, 6, 7, 8])
  | 3 => .inr (0, 17, [])
  | 4 => .inr (0, 17, [])
  | 5 => .inr (0, 17, [])
  | 6 => .inr (0, 17, [])
  | 7 => .inr (0, 17, [])
  | 8 => .inr (0, 17, [])
  | 9 => .inr (0, 6, [])
  | 10 => .inl (5, [13, 14, 15, 18, 21, 43, 0])
  | 11 => .inr (0, 32, [])
  | 12 => .inr (0, 32, [])
  | 13 => .inr (2, 2, [14, 15])
  | 14 => .inr (0, 32, [])
  | 15 => .inr (0, 32, [])
  | 16 => .inr (2, 2, [17, 18])
  | 17 => .inr (0, 32, [])
  | 18 => .inr (0, 32, [])
  | 19 => .inr (2, 2, [20, 21])
  | 20 => .inr (0, 32, [])
  | 21 => .inr (0, 32, [])
  | 22 => .inr (0, 5, [])
  | 23 => .inl (0, [12, 3, 24, 0, 0, 0, 0, 1, 1, 0, 0])
  | 24 => .inl (2, [12, 25, 27, 0])
  | 25 => .inr (0, 5, [])
  | 26 => .inl (4, [29, 30, 0])
  | 27 => .inr (0, 60, [])
  | 28 => .inr (0, 60, [])
  | 29 => .inl (1, [0, 0, 0, 0])
  | 30 => .inl (7, [0, 33, 34, 35, 36, 37, 38, 39, 40, 0, 0, 0, 0, 0, 41, 0, 42, 0, 0, 0, 0, 0])
  | 31 => .inr (0, 32, [])
  | 32 => .inr (1, 32, [])
  | 33 => .inr (1, 64, [])
  | 34 => .inr (0, 64, [])
  | 35 => .inr (0, 6, [])
  | 36 => .inr (0, 102, [])
  | 37 => .inr (0, 5, [])
  | 38 => .inr (0, 120, [])
  | 39 => .inr (1, 64, [])
  | 40 => .inr (1, 192, [])
  | 41 => .inr (0, 32, [])
  | _ => .inr (0, 0, [])
abbrev classes : List vw_C := [(RX0, TX0, 11), (RX1, TX1, 4), (RX2, TX2, 4), (RX3, TX3, 2), (RX4, TX4, 3), (RX5, TX5, 7), (RX6, TX6, 7), (RX7, TX7, 22)]
def fv (ad : Nat → Nat) (f : Int → Int) (j : Nat) : Nat → Value
  | 0 => .int (Int32.ofInt (f j))
  | 1 => .long (Int64.ofInt (f j))
  | r + 2 => .ref (ad r)
def en (ad : Nat → Nat) (cs : ClassId × ClassId × ClassId) (f : Int → Int) : Sh → va_E
  | .inl (ci, fk) => .inr (ci, (List.range fk.length).map fun j => fv ad f j (fk.getD j 0))
  | .inr (0, n, _) => .inl (cs.1, n, .inl (fun j => Int32.ofInt (f j)))
  | .inr (1, n, _) => .inl (cs.2.1, n, .inr (.inl (fun j => Int64.ofInt (f j))))
  | .inr (_ + 2, n, rs) => .inl (cs.2.2, n, .inr (.inr (.inr (.inr (fun i => if i < n then some (ad (rs.getD i 0)) else none)))))
/-- the cells below K in their order, behind them the cell 41 -/
def wd (ad : Nat → Nat) (cs : ClassId × ClassId × ClassId) (σ : Mem) (K : Nat) : va_W := ((List.range K).map fun k => (ad k, en ad cs (σ k) (sh k))) ++ [(ad 41, en ad cs (σ 41) (sh 41))]
theorem wd_at {ad : Nat → Nat} {cs : ClassId × ClassId × ClassId} {σ : Mem} {K k : Nat} (h : k < K) : (wd ad cs σ K)[k]? = some (ad k, en ad cs (σ k) (sh k)) := by
  unfold wd
  rw [List.getElem?_append_left (by simpa using h), List.getElem?_map, List.getElem?_range h]
  rfl
theorem wd_end {ad : Nat → Nat} {cs : ClassId × ClassId × ClassId} {σ : Mem} {K : Nat} : (wd ad cs σ K)[K]? = some (ad 41, en ad cs (σ 41) (sh 41)) := by
  unfold wd
  rw [List.getElem?_append_right (by simp)]
  simp
theorem wd_out {ad : Nat → Nat} {cs : ClassId × ClassId × ClassId} {σ : Mem} {K k : Nat} (h : K < k) : (wd ad cs σ K)[k]? = none := by
  unfold wd
  exact List.getElem?_eq_none (by simp; omega)
theorem wd_set {ad : Nat → Nat} {cs : ClassId × ClassId × ClassId} {σ : Mem} {K k : Nat} {j v : Int} {e : va_E} (hk : k < K) (h41 : k < 41) (h : en ad cs (up σ k j v k) (sh k) = e) : (wd ad cs σ K).set k (ad k, e) = wd ad cs (up σ k j v) K := by
  apply List.ext_getElem?
  intro i
  rw [List.getElem?_set]
  by_cases hki : k = i
  · subst hki
    rw [if_pos rfl, if_pos (by unfold wd; simp; omega), wd_at hk, h]
  · rw [if_neg hki]
    have hup : ∀ q, q ≠ k → up σ k j v q = σ q := fun q hq => by
      funext b
      simp [up, hq]
    rcases Nat.lt_trichotomy i K with hi | hi | hi
    · rw [wd_at hi, wd_at hi, hup i (Ne.symm hki)]
    · subst hi
      rw [wd_end, wd_end, hup 41 (by omega)]
    · rw [wd_out hi, wd_out hi]
theorem wd_setE {ad : Nat → Nat} {cs : ClassId × ClassId × ClassId} {σ : Mem} {K : Nat} {j v : Int} {e : va_E} (hK : K ≤ 41) (h : en ad cs (up σ 41 j v 41) (sh 41) = e) : (wd ad cs σ K).set K (ad 41, e) = wd ad cs (up σ 41 j v) K := by
  apply List.ext_getElem?
  intro i
  rw [List.getElem?_set]
  by_cases hki : K = i
  · subst hki
    rw [if_pos rfl, if_pos (by unfold wd; simp), wd_end, h]
  · rw [if_neg hki]
    have hup : ∀ q, q ≠ 41 → up σ 41 j v q = σ q := fun q hq => by
      funext b
      simp [up, hq]
    rcases Nat.lt_trichotomy i K with hi | hi | hi
    · rw [wd_at hi, wd_at hi, hup i (by omega)]
    · exact absurd hi.symm hki
    · rw [wd_out hi, wd_out hi]
theorem up_same {σ : Mem} {k : Nat} {j v : Int} : up σ k j v k j = v := by simp [up]
theorem up_cell {σ : Mem} {k a : Nat} {j v : Int} (h : a ≠ k) : up σ k j v a = σ a := by
  funext b
  simp [up, h]
theorem up_ne {σ : Mem} {k a : Nat} {j b v : Int} (h : a ≠ k ∨ b ≠ j) : up σ k j v a b = σ a b := by
  rcases h with h | h <;> simp [up, h]
/-- words on nest mates, which no list of words may hold -/
def nwOK (U : State) : Prop := va_Nw (.fieldLinkNest RX5 46 RX6 "LEANS" "[I" RX6) U ∧ va_Nw (.fieldLinkNest RX5 49 RX6 "FORCES" "[I" RX6) U ∧ va_Nw (.fieldLinkNest RX1 63 RX6 "SINES" "[I" RX6) U ∧ va_Nw (.methodLinkNest RX5 42 ⟨RX6, "lies", "(III)Z"⟩ RX6) U
theorem nwOK.warm {s U : State} (hW : s.WarmedH U.vm) (h : nwOK s) : nwOK U := ⟨h.1.warmF hW, h.2.1.warmF hW, h.2.2.1.warmF hW, h.2.2.2.warmM hW⟩
theorem nwOK.same {u U : State} (hv : u.vm = U.vm) (h : nwOK u) : nwOK U := ⟨h.1.same rfl hv, h.2.1.same rfl hv, h.2.2.1.same rfl hv, h.2.2.2.same rfl hv⟩
abbrev tysOf (cs : ClassId × ClassId × ClassId) : List (ClassId × FieldType) := [(cs.1, .int), (cs.2.1, .long), (cs.2.2, .array .int)]
/-- what is only read: 100 LEANS, 101 FORCES, 102 ALSO, 103 SINES, 104 the script; at k + 100 their lengths -/
def roX (ad : Nat → Nat) (A : Nat → Prop) (σ : Mem) (U : State) (H : Heap) : Prop := ∀ k, 100 ≤ k → k < 105 → ∃ L : Nat, va_X (ad k) L (fun j => Int32.ofInt (σ k j)) U H ∧ (L : Int) = σ (k + 100) 0 ∧ L < 2 ^ 31 ∧ ad k < H.size ∧ ¬ A (ad k)
def stZ (ad : Nat → Nat) (A : Nat → Prop) (U : State) (H : Heap) : Prop := va_Z RX6 "LEANS" "[I" (.ref (ad 100)) A U H ∧ va_Z RX6 "FORCES" "[I" (.ref (ad 101)) A U H ∧ va_Z RX6 "ALSO" "[I" (.ref (ad 102)) A U H ∧ va_Z RX6 "SINES" "[I" (.ref (ad 103)) A U H
def HR (ad : Nat → Nat) (D : va_G) (cs : ClassId × ClassId × ClassId) (A : Nat → Prop) (K : Nat) (σ : Mem) (U : State) (H : Heap) : Prop :=
  va_K D classes (tysOf cs) U ∧ va_P D classes (wd ad cs σ K) H ∧ va_D A (wd ad cs σ K) ∧ roX ad A σ U H ∧ stZ ad A U H
theorem roX.moved {ad : Nat → Nat} {A : Nat → Prop} {σ : Mem} {u U : State} {H : Heap} (hvm : u.vm.Alike U.vm) (h : roX ad A σ u H) : roX ad A σ U H := fun k h1 h2 => by
  obtain ⟨L, a, b, c, d, e⟩ := h k h1 h2
  exact ⟨L, a.moved hvm, b, c, d, e⟩
theorem stZ.moved {ad : Nat → Nat} {A : Nat → Prop} {u U : State} {H : Heap} (hvm : u.vm.Alike U.vm) (h : stZ ad A u H) : stZ ad A U H := ⟨h.1.moved hvm, h.2.1.moved hvm, h.2.2.1.moved hvm, h.2.2.2.moved hvm⟩
theorem HR.moved {ad : Nat → Nat} {D : va_G} {cs : ClassId × ClassId × ClassId} {A : Nat → Prop} {K : Nat} {σ : Mem} {u U : State} {H : Heap} (hvm : u.vm.Alike U.vm) (h : HR ad D cs A K σ u H) : HR ad D cs A K σ U H := ⟨va_K.moved hvm h.1, h.2.1, h.2.2.1, h.2.2.2.1.moved hvm, h.2.2.2.2.moved hvm⟩
/-- behind a write of the cell k at j -/
theorem HR.put {ad : Nat → Nat} {D : va_G} {cs : ClassId × ClassId × ClassId} {A : Nat → Prop} {K k : Nat} {j v : Int} {σ : Mem} {U : State} {H H1 : Heap} {locs1 : List Loc} (h : HR ad D cs A K σ U H) (hk : k < 42) (hP : va_P D classes (wd ad cs (up σ k j v) K) H1) (hD : va_D A (wd ad cs (up σ k j v) K)) (hS : va_S A H H1 locs1) : HR ad D cs A K (up σ k j v) U H1 := by
  refine ⟨h.1, hP, hD, fun q h1 h2 => ?_, ?_⟩
  · obtain ⟨L, a, b, c, d, e⟩ := h.2.2.2.1 q h1 h2
    have e1 : up σ k j v q = σ q := up_cell (by omega)
    have e2 : up σ k j v (q + 100) = σ (q + 100) := up_cell (by omega)
    rw [e1, e2]
    exact ⟨L, a.kept (hS.2.1 _ d e), b, c, Nat.lt_of_lt_of_le d hS.1, e⟩
  · obtain ⟨a, b, c, d⟩ := h.2.2.2.2
    exact ⟨a.kept hS.2.1, b.kept hS.2.1, c.kept hS.2.1, d.kept hS.2.1⟩
theorem va_S.trans {A : Nat → Prop} {H0 H H1 : Heap} {l0 l1 : List Loc} (h : va_S A H0 H l0) (k : va_S A H H1 l1) : va_S A H0 H1 l1 := ⟨Nat.le_trans h.1 k.1, fun q h1 h2 => (k.2.1 q (Nat.lt_of_lt_of_le h1 h.1) h2).trans (h.2.1 q h1 h2), k.2.2⟩
theorem va_S.here {A : Nat → Prop} {H0 H : Heap} {l0 : List Loc} (h : va_S A H0 H l0) : va_S A H H l0 := ⟨Nat.le_refl _, fun _ _ _ => rfl, h.2.2⟩
/-! methods: name, bytes, locals, what it returns, how deep its calls go -/
abbrev Meth : Type := MethodName × ByteArray × Nat × Option FieldType × Nat
abbrev mN (M : Meth) : MethodName := M.1
abbrev mC (M : Meth) : ByteArray := M.2.1
abbrev mX (M : Meth) : Nat := M.2.2.1
abbrev mR (M : Meth) : Option FieldType := M.2.2.2.1
abbrev mD (M : Meth) : Nat := M.2.2.2.2
def TW : List Cond := lw_tbl.filter goodWord
theorem TW_of {w : Cond} (i : Nat) (h : lw_tbl[i]? = some w) (hg : goodWord w = true) : w ∈ TW := List.mem_filter.mpr ⟨List.mem_of_getElem? h, hg⟩
theorem TW_good : ∀ w ∈ TW, (w.onTables && w.keeps) = true ∨ ∃ ty, w = .arrayClass ty := fun w h => good_of_word (List.mem_filter.mp h).2
def wsM (M : Meth) : List Cond := Cond.code (mN M) (mC M) (mX M) (mR M) :: TW
theorem wsM_good {M : Meth} (hc : Cond.code (mN M) (mC M) (mX M) (mR M) ∈ TW) : GoodIn TW (wsM M) := fun w h => by
  rcases List.mem_cons.mp h with h | h
  · subst h
    exact ⟨hc, TW_good _ hc⟩
  · exact ⟨h, TW_good _ h⟩
def rmM (M : Meth) : Room := { frames := mD M, cells := 0, slots := 0, locals := 40 * mD M }
def rOK : Option FieldType → Option AV → Prop
  | none, none => True
  | some .int, some (.inr (.inl _)) => True
  | some .boolean, some (.inr (.inl x)) => x = 0 ∨ x = 1
  | some .long, some (.inr (.inr _)) => True
  | _, _ => False
def rI : Option AV → Instr
  | none => .return_
  | some (.inr (.inr _)) => .lreturn
  | some _ => .ireturn
def LR (ad : Nat → Nat) (nL : Nat) (ls : List (Option AV)) (lsC : Array Slot) : Prop := lsC.size = nL ∧ lv_wf lsC ∧ ∀ (i : Nat) (v : AV), ls[i]? = some (some v) → lsC[i]? = some (.val (cv ad v))
def Cx (M : Meth) (R : Room) (p : Program) (s : State) (m : MethodId) (args : Array Value) (c : Code) (cells slots : Nat) : Prop :=
  p.tables.exec = Jvm.exec ∧ c.code = mC M ∧ c.maxLocals = mX M ∧ s.vm.findClass (mN M).cls = some m.cls ∧ (∀ w ∈ TW, w.before args s = true) ∧ (mD M ≤ R.frames ∧ 40 * mD M ≤ R.locals ∧ cells ≤ R.cells ∧ slots ≤ R.slots) ∧ nwOK s
def Go (K : Nat) (M : Meth) (pc : Nat) (ls : List (Option AV)) (st : List AV) (σ : Mem) (Q : Option AV → Mem → Prop) : Prop :=
  ∀ (ad : Nat → Nat) (D : va_G) (cs : ClassId × ClassId × ClassId) (A : Nat → Prop) (p : Program) (l : Launch) (e : Env) (R : Room) (s : State) (m : MethodId) (args : Array Value) (below : List Frame) (meth : Method) (c : Code) (cells slots : Nat) (Z : State → Prop),
    Cx M R p s m args c cells slots →
    (∀ (r : Option AV) (τ : Mem) (H : Heap) (locs : List Loc) (lsC : Array Slot) (pc' : Nat), Q r τ → rOK (mR M) r → decode (mC M) pc' = .ok (rI r, 1) → HR ad D cs A K τ s H → va_S A s.heap H locs → W p l e R s m args below meth c H locs cells slots Z (F0 m pc' lsC (r.toList.map (cv ad)))) →
    ∀ (H : Heap) (locs : List Loc) (lsC : Array Slot), HR ad D cs A K σ s H → va_S A s.heap H locs → LR ad (mX M) ls lsC → W p l e R s m args below meth c H locs cells slots Z (F0 m pc lsC (st.map (cv ad)))
def PcM (ad : Nat → Nat) (D : va_G) (cs : ClassId × ClassId × ClassId) (A : Nat → Prop) (K : Nat) (as : List AV) (σ : Mem) : Array Value → State → Prop := fun v U => v = (as.map (cv ad)).toArray ∧ HR ad D cs A K σ U U.heap ∧ nwOK U
def QcM (ad : Nat → Nat) (D : va_G) (cs : ClassId × ClassId × ClassId) (A : Nat → Prop) (K : Nat) (Q : Option AV → Mem → Prop) : Array Value → State → Outcome → State → Prop := fun _ st o t => (∃ (r : Option AV) (τ : Mem), Q r τ ∧ o = .returned (r.map (cv ad)) ∧ HR ad D cs A K τ t t.heap) ∧ va_F A st t
def Ret (K : Nat) (M : Meth) (as : List AV) (σ : Mem) (Q : Option AV → Mem → Prop) : Prop :=
  ∀ (l : Launch) (ad : Nat → Nat) (D : va_G) (cs : ClassId × ClassId × ClassId) (A : Nat → Prop), Met l (mN M) (wsM M) (rmM M) (PcM ad D cs A K as σ) (QcM ad D cs A K Q) 0 0 A
abbrev RetV (K : Nat) (M : Meth) (as : List AV) (σ : Mem) (v : AV) : Prop := Ret K M as σ (fun r τ => r = some v ∧ τ = σ)
theorem PcM_blind (ad : Nat → Nat) (D : va_G) (cs : ClassId × ClassId × ClassId) (A : Nat → Prop) (K : Nat) (as : List AV) (σ : Mem) : FrameBlind (PcM ad D cs A K as σ) := fun a U g mk h => ⟨h.1, HR.moved (u := U) (U := U.calling g mk a) (Vm.Alike.refl U.vm) h.2.1, nwOK.same (u := U) (U := U.calling g mk a) rfl h.2.2⟩
/-! entry -/
def entl : List AV → List (Option AV)
  | [] => []
  | .inr (.inr x) :: as => some (aL x) :: none :: entl as
  | a :: as => some a :: entl as
def ent (as : List AV) (n : Nat) : List (Option AV) := entl as ++ List.replicate (n - (entl as).length) none
theorem entl_len (ad : Nat → Nat) : ∀ as : List AV, (lg_sl (as.map (cv ad))).length = (entl as).length
  | [] => rfl
  | .inl k :: as => by
    have h := entl_len ad as
    show (lg_sl (.ref (ad k) :: as.map (cv ad))).length = (entl as).length + 1
    rw [← h]
    simp [lg_sl, Value.category]
  | .inr (.inl k) :: as => by
    have h := entl_len ad as
    show (lg_sl (.int (Int32.ofInt k) :: as.map (cv ad))).length = (entl as).length + 1
    rw [← h]
    simp [lg_sl, Value.category]
  | .inr (.inr k) :: as => by
    have h := entl_len ad as
    show (lg_sl (.long (Int64.ofInt k) :: as.map (cv ad))).length = (entl as).length + 1 + 1
    rw [← h]
    simp [lg_sl, Value.category]
theorem entl_mem (ad : Nat → Nat) : ∀ (as : List AV) (i j : Nat) (v : AV), (entl as)[j]? = some (some v) → (i + j, cv ad v) ∈ lv_args i (as.map (cv ad))
  | [], i, j, v, h => by simp [entl] at h
  | .inl k :: as, i, j, v, h => by
    cases j with
    | zero => simp [entl] at h; subst h; simp [lv_args]
    | succ j =>
      have h : (entl as)[j]? = some (some v) := h
      have := entl_mem ad as (i + 1) j v h
      rw [show i + (j + 1) = i + 1 + j by omega]
      exact List.mem_cons_of_mem _ this
  | .inr (.inl k) :: as, i, j, v, h => by
    cases j with
    | zero => simp [entl] at h; subst h; simp [lv_args]
    | succ j =>
      have h : (entl as)[j]? = some (some v) := h
      have := entl_mem ad as (i + 1) j v h
      rw [show i + (j + 1) = i + 1 + j by omega]
      exact List.mem_cons_of_mem _ this
  | .inr (.inr k) :: as, i, j, v, h => by
    cases j with
    | zero => simp [entl] at h; subst h; simp [lv_args]
    | succ j =>
      cases j with
      | zero => simp [entl] at h
      | succ j =>
        have h : (entl as)[j]? = some (some v) := h
        have := entl_mem ad as (i + 2) j v h
        rw [show i + (j + 1 + 1) = i + 2 + j by omega]
        exact List.mem_cons_of_mem _ this
theorem ent_LR {ad : Nat → Nat} {as : List AV} {n : Nat} {lsC : Array Slot} (h : lv_has lsC n (lv_args 0 (as.map (cv ad)))) : LR ad n (ent as n) lsC := by
  refine ⟨h.1, h.2.1, fun i v hi => ?_⟩
  by_cases hl : i < (entl as).length
  · have h1 : (entl as)[i]? = some (some v) := by
      unfold ent at hi
      rwa [List.getElem?_append_left hl] at hi
    have := entl_mem ad as 0 i v h1
    rw [Nat.zero_add] at this
    exact h.2.2 _ this
  · unfold ent at hi
    rw [List.getElem?_append_right (by omega), List.getElem?_replicate] at hi
    split at hi <;> simp at hi
theorem Met.ofWF {l : Launch} {y : MethodName} {ws ws' : List Cond} {rm : Room} {Pc : Array Value → State → Prop} {Qc : Array Value → State → Outcome → State → Prop} {mc ms : Nat} {free : Addr → Prop} {cc : ByteArray} {maxL : Nat} {ret : Option FieldType}
    (hy : plainFor y = true) (hw : ws = Cond.code y cc maxL ret :: ws')
    (body : ∀ p e s m args below meth c s₁, BodyLoose p l y (headSpec ws rm) cc maxL ret e s m args below meth c s₁ → c.maxLocals = maxL → Pc args s →
      W p l e (headSpec ws rm).room s m args below meth c s.heap [] 0 0 (MQ below Qc args s mc ms free) (entryFrame m args maxL)) : Met l y ws rm Pc Qc mc ms free := by
  refine MetFree.of_bodySF (code := cc) (maxLocals := maxL) (ret := ret) hy ?_ ?_
  · intro args s m h hn
    obtain ⟨meth, c, h1, h2, h3, h4, h5, h6, -, -⟩ := Cond.code_spec hn (atoms_spec (ws := ws) h _ (by rw [hw]; exact List.mem_cons_self))
    exact ⟨meth, c, h1, h2, h3, h4, h5, h6⟩
  · intro p e s m args below meth c s₁ B hml hP _
    have hh0 : s₁.heap = s.heap := by rw [B.state]; rfl
    obtain ⟨t, a1, o, b1, b2, b3⟩ := body p e s m args below meth c s₁ B hml hP s₁ hh0 (Stand.of_body B)
    exact ⟨t, o, a1, b1, b2, ⟨b3.1, b3.2⟩⟩
theorem Ret.of {K : Nat} {M : Meth} {as : List AV} {σ : Mem} {Q : Option AV → Mem → Prop} (ls : List (Option AV)) (hls : ent as (mX M) = ls) (hy : plainFor (mN M) = true) (hlen : (entl as).length ≤ mX M) (h : Go K M 0 ls [] σ Q) : Ret K M as σ Q := by
  intro l ad D cs A
  refine Met.ofWF (cc := mC M) (maxL := mX M) (ret := mR M) (ws' := TW) hy rfl ?_
  intro p e s m args below meth c s₁ B hml hv
  obtain ⟨rfl, hH, hN⟩ := hv
  have hts0 := atoms_spec (ws := wsM M) B.pre
  have hts : ∀ w ∈ TW, w.before (as.map (cv ad)).toArray s = true := fun w hw => hts0 w (List.mem_cons_of_mem _ hw)
  have hown : s.vm.findClass (mN M).cls = some m.cls := findClass_of_methodNamed B.named
  have hlocks := B.notSynchronized
  have hr := B.returns
  have hx := B.exec
  have hb := B.bytes
  rw [lg_entry_eq]
  have hl := lv_entry (as.map (cv ad)) (n := mX M) (by rw [entl_len]; exact hlen)
  refine h ad D cs A p l e _ s m _ below meth c 0 0 _ ⟨hx, hb, hml, hown, hts, ⟨Nat.le_refl _, Nat.le_refl _, Nat.zero_le _, Nat.zero_le _⟩, hN⟩ ?_ s.heap [] _ hH va_S.rf (by rw [← hls]; exact ent_LR hl)
  intro r τ H locs lsC pc' hq hok hd hH' hS
  have hQ : ∀ t : State, t.heap = H → s.WarmedH t.vm → QcM ad D cs A K Q (as.map (cv ad)).toArray s (.returned (r.map (cv ad))) t := fun t ht hW => ⟨⟨r, τ, hq, rfl, by rw [ht]; exact HR.moved hW.alike hH'⟩, hS.F ht⟩
  have hf : ∀ q ∈ locs, A q.base := hS.2.2
  match r, hok, hd, hQ with
  | none, hok, hd, hQ =>
    have hn : mR M = none := by
      revert hok
      cases mR M with
      | none => intro _; rfl
      | some t => cases t <;> exact fun h => h.elim
    exact W.vret hx hb (hr.trans hn) hQ hf hd hlocks
  | some (.inr (.inr x)), hok, hd, hQ =>
    have hn : mR M = some .long := by
      revert hok
      cases mR M with
      | none => exact fun h => h.elim
      | some t => cases t <;> first | exact fun h => h.elim | exact fun _ => rfl
    exact W.lret hx hb (hr.trans hn) hQ hf hd hlocks
  | some (.inl x), hok, hd, hQ =>
    exfalso
    revert hok
    cases mR M with
    | none => exact fun h => h.elim
    | some t => cases t <;> exact fun h => h.elim
  | some (.inr (.inl x)), hok, hd, hQ =>
    have hn : mR M = some .int ∨ (mR M = some .boolean ∧ (x = 0 ∨ x = 1)) := by
      revert hok
      cases mR M with
      | none => exact fun h => h.elim
      | some t => cases t <;> first | exact fun h => h.elim | exact fun _ => Or.inl rfl | exact fun h => Or.inr ⟨rfl, h⟩
    rcases hn with hn | ⟨hn, hx0⟩
    · exact W.zret hx hb (hr.trans hn) (vp_nar_int _) hQ hf hd hlocks
    · refine W.zret hx hb (hr.trans hn) ?_ hQ hf hd hlocks
      rcases hx0 with rfl | rfl <;> rfl
theorem g_iconst {K : Nat} {M : Meth} {pc : Nat} {ls : List (Option AV)} {st : List AV} {σ : Mem} {Q : Option AV → Mem → Prop} {n : Int} (hd : decode (mC M) pc = .ok (.iconst n, 1)) (k : Go K M (pc + 1) ls (aI n :: st) σ Q) : Go K M pc ls st σ Q := by
  intro ad D cs A p l e R s m args below meth c cells slots Z C hret H locs lsC hH hS hL
  exact lv_iconst C.1 C.2.1 hd rfl (k ad D cs A p l e R s m args below meth c cells slots Z C hret H locs lsC hH hS hL)
theorem g_bipush {K : Nat} {M : Meth} {pc : Nat} {ls : List (Option AV)} {st : List AV} {σ : Mem} {Q : Option AV → Mem → Prop} {n v : Int} (hd : decode (mC M) pc = .ok (.bipush n, 2)) (hv : (Int8.ofInt n).toInt32 = Int32.ofInt v) (k : Go K M (pc + 2) ls (aI v :: st) σ Q) : Go K M pc ls st σ Q := by
  intro ad D cs A p l e R s m args below meth c cells slots Z C hret H locs lsC hH hS hL
  exact lv_bipush C.1 C.2.1 hd hv (k ad D cs A p l e R s m args below meth c cells slots Z C hret H locs lsC hH hS hL)
theorem g_sipush {K : Nat} {M : Meth} {pc : Nat} {ls : List (Option AV)} {st : List AV} {σ : Mem} {Q : Option AV → Mem → Prop} {n v : Int} (hd : decode (mC M) pc = .ok (.sipush n, 3)) (hv : (Int16.ofInt n).toInt32 = Int32.ofInt v) (k : Go K M (pc + 3) ls (aI v :: st) σ Q) : Go K M pc ls st σ Q := by
  intro ad D cs A p l e R s m args below meth c cells slots Z C hret H locs lsC hH hS hL
  exact lv_sipush C.1 C.2.1 hd hv (k ad D cs A p l e R s m args below meth c cells slots Z C hret H locs lsC hH hS hL)
theorem g_lconst {K : Nat} {M : Meth} {pc : Nat} {ls : List (Option AV)} {st : List AV} {σ : Mem} {Q : Option AV → Mem → Prop} {n : Fin 2} {v : Int} (hd : decode (mC M) pc = .ok (.lconst n, 1)) (hv : Int64.ofNat (n : Nat) = Int64.ofInt v) (k : Go K M (pc + 1) ls (aL v :: st) σ Q) : Go K M pc ls st σ Q := by
  intro ad D cs A p l e R s m args below meth c cells slots Z C hret H locs lsC hH hS hL
  exact lv_lconst C.1 C.2.1 hd hv (k ad D cs A p l e R s m args below meth c cells slots Z C hret H locs lsC hH hS hL)
theorem g_ldc {K : Nat} {M : Meth} {pc : Nat} {ls : List (Option AV)} {st : List AV} {σ : Mem} {Q : Option AV → Mem → Prop} {idx : Nat} {v : Int} (hd : decode (mC M) pc = .ok (.ldc idx, 2)) (hw : Cond.constant (mN M).cls idx (Int32.ofInt v) ∈ TW) (k : Go K M (pc + 2) ls (aI v :: st) σ Q) : Go K M pc ls st σ Q := by
  intro ad D cs A p l e R s m args below meth c cells slots Z C hret H locs lsC hH hS hL
  exact lv_ldc C.1 C.2.1 C.2.2.2.1 (C.2.2.2.2.1 _ hw) hd (k ad D cs A p l e R s m args below meth c cells slots Z C hret H locs lsC hH hS hL)
theorem g_ldcw {K : Nat} {M : Meth} {pc : Nat} {ls : List (Option AV)} {st : List AV} {σ : Mem} {Q : Option AV → Mem → Prop} {idx : Nat} {v : Int} (hd : decode (mC M) pc = .ok (.ldc_w idx, 3)) (hw : Cond.constant (mN M).cls idx (Int32.ofInt v) ∈ TW) (k : Go K M (pc + 3) ls (aI v :: st) σ Q) : Go K M pc ls st σ Q := by
  intro ad D cs A p l e R s m args below meth c cells slots Z C hret H locs lsC hH hS hL
  exact lv_ldcw C.1 C.2.1 C.2.2.2.1 (C.2.2.2.2.1 _ hw) hd (k ad D cs A p l e R s m args below meth c cells slots Z C hret H locs lsC hH hS hL)
theorem g_ldc2 {K : Nat} {M : Meth} {pc : Nat} {ls : List (Option AV)} {st : List AV} {σ : Mem} {Q : Option AV → Mem → Prop} {idx : Nat} {v : Int} (hd : decode (mC M) pc = .ok (.ldc2_w idx, 3)) (hw : Cond.constantLong (mN M).cls idx (Int64.ofInt v) ∈ TW) (k : Go K M (pc + 3) ls (aL v :: st) σ Q) : Go K M pc ls st σ Q := by
  intro ad D cs A p l e R s m args below meth c cells slots Z C hret H locs lsC hH hS hL
  exact lv_ldc2 C.1 C.2.1 C.2.2.2.1 (C.2.2.2.2.1 _ hw) hd (k ad D cs A p l e R s m args below meth c cells slots Z C hret H locs lsC hH hS hL)
theorem g_iload_n {K : Nat} {M : Meth} {pc : Nat} {ls : List (Option AV)} {st : List AV} {σ : Mem} {Q : Option AV → Mem → Prop} {i : Fin 4} {x : Int} (hd : decode (mC M) pc = .ok (.iload_n i, 1)) (hx : ls[(i : Nat)]? = some (some (aI x))) (k : Go K M (pc + 1) ls (aI x :: st) σ Q) : Go K M pc ls st σ Q := by
  intro ad D cs A p l e R s m args below meth c cells slots Z C hret H locs lsC hH hS hL
  exact lv_iload_n C.1 C.2.1 hd rfl (hL.2.2 _ _ hx) (k ad D cs A p l e R s m args below meth c cells slots Z C hret H locs lsC hH hS hL)
theorem g_iload {K : Nat} {M : Meth} {pc : Nat} {ls : List (Option AV)} {st : List AV} {σ : Mem} {Q : Option AV → Mem → Prop} {i : Nat} {x : Int} (hd : decode (mC M) pc = .ok (.iload i, 2)) (hx : ls[i]? = some (some (aI x))) (k : Go K M (pc + 2) ls (aI x :: st) σ Q) : Go K M pc ls st σ Q := by
  intro ad D cs A p l e R s m args below meth c cells slots Z C hret H locs lsC hH hS hL
  exact lv_iload C.1 C.2.1 hd (hL.2.2 _ _ hx) (k ad D cs A p l e R s m args below meth c cells slots Z C hret H locs lsC hH hS hL)
theorem g_lload_n {K : Nat} {M : Meth} {pc : Nat} {ls : List (Option AV)} {st : List AV} {σ : Mem} {Q : Option AV → Mem → Prop} {i : Fin 4} {x : Int} (hd : decode (mC M) pc = .ok (.lload_n i, 1)) (hx : ls[(i : Nat)]? = some (some (aL x))) (k : Go K M (pc + 1) ls (aL x :: st) σ Q) : Go K M pc ls st σ Q := by
  intro ad D cs A p l e R s m args below meth c cells slots Z C hret H locs lsC hH hS hL
  exact lv_lload_n C.1 C.2.1 hd rfl (hL.2.2 _ _ hx) (k ad D cs A p l e R s m args below meth c cells slots Z C hret H locs lsC hH hS hL)
theorem g_lload {K : Nat} {M : Meth} {pc : Nat} {ls : List (Option AV)} {st : List AV} {σ : Mem} {Q : Option AV → Mem → Prop} {i : Nat} {x : Int} (hd : decode (mC M) pc = .ok (.lload i, 2)) (hx : ls[i]? = some (some (aL x))) (k : Go K M (pc + 2) ls (aL x :: st) σ Q) : Go K M pc ls st σ Q := by
  intro ad D cs A p l e R s m args below meth c cells slots Z C hret H locs lsC hH hS hL
  exact lv_lload C.1 C.2.1 hd (hL.2.2 _ _ hx) (k ad D cs A p l e R s m args below meth c cells slots Z C hret H locs lsC hH hS hL)
theorem g_aload_n {K : Nat} {M : Meth} {pc : Nat} {ls : List (Option AV)} {st : List AV} {σ : Mem} {Q : Option AV → Mem → Prop} {i : Fin 4} {x : Nat} (hd : decode (mC M) pc = .ok (.aload_n i, 1)) (hx : ls[(i : Nat)]? = some (some (aR x))) (k : Go K M (pc + 1) ls (aR x :: st) σ Q) : Go K M pc ls st σ Q := by
  intro ad D cs A p l e R s m args below meth c cells slots Z C hret H locs lsC hH hS hL
  exact lv_aload_n C.1 C.2.1 hd rfl (hL.2.2 _ _ hx) (k ad D cs A p l e R s m args below meth c cells slots Z C hret H locs lsC hH hS hL)
theorem g_aload {K : Nat} {M : Meth} {pc : Nat} {ls : List (Option AV)} {st : List AV} {σ : Mem} {Q : Option AV → Mem → Prop} {i : Nat} {x : Nat} (hd : decode (mC M) pc = .ok (.aload i, 2)) (hx : ls[i]? = some (some (aR x))) (k : Go K M (pc + 2) ls (aR x :: st) σ Q) : Go K M pc ls st σ Q := by
  intro ad D cs A p l e R s m args below meth c cells slots Z C hret H locs lsC hH hS hL
  exact lv_aload C.1 C.2.1 hd (hL.2.2 _ _ hx) (k ad D cs A p l e R s m args below meth c cells slots Z C hret H locs lsC hH hS hL)
/-- the locals behind a store of one place, of two -/
def st1 (ls : List (Option AV)) (v : AV) : Nat → List (Option AV)
  | 0 => ls.set 0 (some v)
  | j + 1 => (match ls[j]? with
    | some (some (.inr (.inr _))) => ls.set j none
    | _ => ls).set (j + 1) (some v)
def st2 (ls : List (Option AV)) (v : AV) (i : Nat) : List (Option AV) := (st1 ls v i).set (i + 1) none
def lpr (ad : Nat → Nat) (ls : List (Option AV)) : List (Nat × Value) := (List.range ls.length).filterMap fun i => match ls[i]? with
  | some (some v) => some (i, cv ad v)
  | _ => none
theorem lpr_mem {ad : Nat → Nat} {ls : List (Option AV)} {i : Nat} {v : AV} (h : ls[i]? = some (some v)) : (i, cv ad v) ∈ lpr ad ls := by
  refine List.mem_filterMap.mpr ⟨i, List.mem_range.mpr (List.getElem?_eq_some_iff.mp h).1, ?_⟩
  simp [h]
theorem LR.has {ad : Nat → Nat} {n : Nat} {ls : List (Option AV)} {lsC : Array Slot} (h : LR ad n ls lsC) : lv_has lsC n (lpr ad ls) := by
  refine ⟨h.1, h.2.1, fun q hq => ?_⟩
  obtain ⟨i, -, hi⟩ := List.mem_filterMap.mp hq
  cases hl : ls[i]? with
  | none => simp [hl] at hi
  | some o =>
    cases o with
    | none => simp [hl] at hi
    | some v =>
      simp only [hl, Option.some.injEq] at hi
      rw [← hi]
      exact h.2.2 i v hl
theorem cv_cat (ad : Nat → Nat) (v : AV) : (cv ad v).category = 2 ↔ ∃ x, v = aL x := by
  match v with
  | .inl k => simp [cv, Value.category]
  | .inr (.inl k) => simp [cv, Value.category]
  | .inr (.inr k) => simp [cv, Value.category]
theorem st1_get {ls : List (Option AV)} {v w : AV} {i j : Nat} (h : (st1 ls v i)[j]? = some (some w)) : (j = i ∧ w = v) ∨ (j ≠ i ∧ ls[j]? = some (some w) ∧ ¬ (j + 1 = i ∧ ∃ x, w = aL x)) := by
  cases i with
  | zero =>
    simp only [st1, List.getElem?_set] at h
    by_cases hj : 0 = j
    · subst hj
      by_cases h0 : 0 < ls.length
      · rw [if_pos rfl, if_pos h0] at h
        exact Or.inl ⟨rfl, by simpa using h.symm⟩
      · rw [if_pos rfl, if_neg h0] at h
        cases h
    · rw [if_neg hj] at h
      exact Or.inr ⟨Ne.symm hj, h, by omega⟩
  | succ i =>
    simp only [st1, List.getElem?_set] at h
    by_cases hj : i + 1 = j
    · subst hj
      rw [if_pos rfl] at h
      refine Or.inl ⟨rfl, ?_⟩
      split at h
      · split at h
        · simpa using h.symm
        · simp at h
      · split at h
        · simpa using h.symm
        · simp at h
    · rw [if_neg hj] at h
      refine Or.inr ⟨Ne.symm hj, ?_⟩
      split at h
      next x hx =>
        rw [List.getElem?_set] at h
        by_cases hij : i = j
        · rw [if_pos hij] at h
          split at h <;> simp at h
        · rw [if_neg hij] at h
          exact ⟨h, by omega⟩
      next hx =>
        refine ⟨h, fun ⟨h1, x, h2⟩ => ?_⟩
        have : j = i := by omega
        subst this
        rw [h2] at h
        exact hx x h
theorem st1_LR {ad : Nat → Nat} {n : Nat} {ls : List (Option AV)} {lsC lsC' : Array Slot} {i : Nat} {v : AV} (h' : lv_has lsC' n ((i, cv ad v) :: (lpr ad ls).filter (fun q => !(q.1 == i) && !(q.1 + 1 == i && q.2.category == 2)))) : LR ad n (st1 ls v i) lsC' := by
  refine ⟨h'.1, h'.2.1, fun j w hw => ?_⟩
  rcases st1_get hw with ⟨rfl, rfl⟩ | ⟨h1, h2, h3⟩
  · exact h'.2.2 (j, cv ad w) List.mem_cons_self
  · refine h'.2.2 (j, cv ad w) (List.mem_cons_of_mem _ (List.mem_filter.mpr ⟨lpr_mem h2, ?_⟩))
    simp only [Bool.and_eq_true, Bool.not_eq_true', beq_eq_false_iff_ne, Bool.and_eq_false_iff, ne_eq]
    refine ⟨h1, ?_⟩
    by_cases hj : j + 1 = i
    · right
      exact fun hc => h3 ⟨hj, (cv_cat ad w).mp hc⟩
    · left
      exact hj
theorem st2_LR {ad : Nat → Nat} {n : Nat} {ls : List (Option AV)} {lsC lsC' : Array Slot} {i : Nat} {v : AV} (h' : lv_has lsC' n ((i, cv ad v) :: (lpr ad ls).filter (fun q => !(q.1 == i) && (!(q.1 == i + 1) && !(q.1 + 1 == i && q.2.category == 2))))) : LR ad n (st2 ls v i) lsC' := by
  refine ⟨h'.1, h'.2.1, fun j w hw => ?_⟩
  unfold st2 at hw
  rw [List.getElem?_set] at hw
  by_cases hj : i + 1 = j
  · rw [if_pos hj] at hw
    split at hw <;> simp at hw
  · rw [if_neg hj] at hw
    rcases st1_get hw with ⟨rfl, rfl⟩ | ⟨h1, h2, h3⟩
    · exact h'.2.2 (j, cv ad w) List.mem_cons_self
    · refine h'.2.2 (j, cv ad w) (List.mem_cons_of_mem _ (List.mem_filter.mpr ⟨lpr_mem h2, ?_⟩))
      simp only [Bool.and_eq_true, Bool.not_eq_true', beq_eq_false_iff_ne, Bool.and_eq_false_iff, ne_eq]
      refine ⟨h1, fun h => hj h.symm, ?_⟩
      by_cases hj2 : j + 1 = i
      · right
        exact fun hc => h3 ⟨hj2, (cv_cat ad w).mp hc⟩
      · left
        exact hj2
theorem g_istore_n {K : Nat} {M : Meth} {pc : Nat} {ls : List (Option AV)} {st : List AV} {σ : Mem} {Q : Option AV → Mem → Prop} {f : Fin 4} {i : Nat} {x : Int} (hd : decode (mC M) pc = .ok (.istore_n f, 1)) (hi : (f : Nat) = i) (hn : i < mX M) (k : Go K M (pc + 1) (st1 ls (aI x) i) st σ Q) : Go K M pc ls (aI x :: st) σ Q := by
  intro ad D cs A p l e R s m args below meth c cells slots Z C hret H locs lsC hH hS hL
  exact lv_istore_n C.1 C.2.1 hd hi hL.has hn rfl (fun lsC' hl' => k ad D cs A p l e R s m args below meth c cells slots Z C hret H locs lsC' hH hS (st1_LR (lsC := lsC) (v := aI x) hl'))
theorem g_istore {K : Nat} {M : Meth} {pc : Nat} {ls : List (Option AV)} {st : List AV} {σ : Mem} {Q : Option AV → Mem → Prop} {i : Nat} {x : Int} (hd : decode (mC M) pc = .ok (.istore i, 2)) (hn : i < mX M) (k : Go K M (pc + 2) (st1 ls (aI x) i) st σ Q) : Go K M pc ls (aI x :: st) σ Q := by
  intro ad D cs A p l e R s m args below meth c cells slots Z C hret H locs lsC hH hS hL
  exact lv_istore C.1 C.2.1 hd hL.has hn rfl (fun lsC' hl' => k ad D cs A p l e R s m args below meth c cells slots Z C hret H locs lsC' hH hS (st1_LR (lsC := lsC) (v := aI x) hl'))
theorem g_lstore_n {K : Nat} {M : Meth} {pc : Nat} {ls : List (Option AV)} {st : List AV} {σ : Mem} {Q : Option AV → Mem → Prop} {f : Fin 4} {i : Nat} {x : Int} (hd : decode (mC M) pc = .ok (.lstore_n f, 1)) (hi : (f : Nat) = i) (hn : i + 1 < mX M) (k : Go K M (pc + 1) (st2 ls (aL x) i) st σ Q) : Go K M pc ls (aL x :: st) σ Q := by
  intro ad D cs A p l e R s m args below meth c cells slots Z C hret H locs lsC hH hS hL
  exact lv_lstore_n C.1 C.2.1 hd hi hL.has hn rfl (fun lsC' hl' => k ad D cs A p l e R s m args below meth c cells slots Z C hret H locs lsC' hH hS (st2_LR (lsC := lsC) (v := aL x) hl'))
theorem g_lstore {K : Nat} {M : Meth} {pc : Nat} {ls : List (Option AV)} {st : List AV} {σ : Mem} {Q : Option AV → Mem → Prop} {i : Nat} {x : Int} (hd : decode (mC M) pc = .ok (.lstore i, 2)) (hn : i + 1 < mX M) (k : Go K M (pc + 2) (st2 ls (aL x) i) st σ Q) : Go K M pc ls (aL x :: st) σ Q := by
  intro ad D cs A p l e R s m args below meth c cells slots Z C hret H locs lsC hH hS hL
  exact lv_lstore C.1 C.2.1 hd hL.has hn rfl (fun lsC' hl' => k ad D cs A p l e R s m args below meth c cells slots Z C hret H locs lsC' hH hS (st2_LR (lsC := lsC) (v := aL x) hl'))
theorem g_astore_n {K : Nat} {M : Meth} {pc : Nat} {ls : List (Option AV)} {st : List AV} {σ : Mem} {Q : Option AV → Mem → Prop} {f : Fin 4} {i : Nat} {x : Nat} (hd : decode (mC M) pc = .ok (.astore_n f, 1)) (hi : (f : Nat) = i) (hn : i < mX M) (k : Go K M (pc + 1) (st1 ls (aR x) i) st σ Q) : Go K M pc ls (aR x :: st) σ Q := by
  intro ad D cs A p l e R s m args below meth c cells slots Z C hret H locs lsC hH hS hL
  exact lv_astore_n C.1 C.2.1 hd hi hL.has hn rfl (fun lsC' hl' => k ad D cs A p l e R s m args below meth c cells slots Z C hret H locs lsC' hH hS (st1_LR (lsC := lsC) (v := aR x) hl'))
theorem g_astore {K : Nat} {M : Meth} {pc : Nat} {ls : List (Option AV)} {st : List AV} {σ : Mem} {Q : Option AV → Mem → Prop} {i : Nat} {x : Nat} (hd : decode (mC M) pc = .ok (.astore i, 2)) (hn : i < mX M) (k : Go K M (pc + 2) (st1 ls (aR x) i) st σ Q) : Go K M pc ls (aR x :: st) σ Q := by
  intro ad D cs A p l e R s m args below meth c cells slots Z C hret H locs lsC hH hS hL
  exact lv_astore C.1 C.2.1 hd hL.has hn rfl (fun lsC' hl' => k ad D cs A p l e R s m args below meth c cells slots Z C hret H locs lsC' hH hS (st1_LR (lsC := lsC) (v := aR x) hl'))
theorem g_iinc {K : Nat} {M : Meth} {pc : Nat} {ls : List (Option AV)} {st : List AV} {σ : Mem} {Q : Option AV → Mem → Prop} {i : Nat} {n x : Int} (hd : decode (mC M) pc = .ok (.iinc i n, 3)) (hx : ls[i]? = some (some (aI x))) (hn : i < mX M) (k : Go K M (pc + 3) (st1 ls (aI (x + n)) i) st σ Q) : Go K M pc ls st σ Q := by
  intro ad D cs A p l e R s m args below meth c cells slots Z C hret H locs lsC hH hS hL
  obtain ⟨q, hq⟩ := List.getElem?_of_mem (lpr_mem (ad := ad) hx)
  exact lv_iinc C.1 C.2.1 hd hL.has hq (by rw [Int32.ofInt_add]) hn rfl (fun lsC' hl' => k ad D cs A p l e R s m args below meth c cells slots Z C hret H locs lsC' hH hS (st1_LR (lsC := lsC) (v := aI (x + n)) hl'))
theorem g_iadd {K : Nat} {M : Meth} {pc : Nat} {ls : List (Option AV)} {st : List AV} {σ : Mem} {Q : Option AV → Mem → Prop} {x y : Int} (hd : decode (mC M) pc = .ok (.iadd, 1)) (k : Go K M (pc + 1) ls (aI (x + y) :: st) σ Q) : Go K M pc ls (aI y :: aI x :: st) σ Q := by
  intro ad D cs A p l e R s m args below meth c cells slots Z C hret H locs lsC hH hS hL
  refine lv_iadd C.1 C.2.1 hd ?_
  rw [← Int32.ofInt_add]
  exact k ad D cs A p l e R s m args below meth c cells slots Z C hret H locs lsC hH hS hL
theorem g_ladd {K : Nat} {M : Meth} {pc : Nat} {ls : List (Option AV)} {st : List AV} {σ : Mem} {Q : Option AV → Mem → Prop} {x y : Int} (hd : decode (mC M) pc = .ok (.ladd, 1)) (k : Go K M (pc + 1) ls (aL (x + y) :: st) σ Q) : Go K M pc ls (aL y :: aL x :: st) σ Q := by
  intro ad D cs A p l e R s m args below meth c cells slots Z C hret H locs lsC hH hS hL
  refine lv_ladd C.1 C.2.1 hd ?_
  rw [← Int64.ofInt_add]
  exact k ad D cs A p l e R s m args below meth c cells slots Z C hret H locs lsC hH hS hL
theorem g_isub {K : Nat} {M : Meth} {pc : Nat} {ls : List (Option AV)} {st : List AV} {σ : Mem} {Q : Option AV → Mem → Prop} {x y : Int} (hd : decode (mC M) pc = .ok (.isub, 1)) (k : Go K M (pc + 1) ls (aI (x - y) :: st) σ Q) : Go K M pc ls (aI y :: aI x :: st) σ Q := by
  intro ad D cs A p l e R s m args below meth c cells slots Z C hret H locs lsC hH hS hL
  refine lv_isub C.1 C.2.1 hd ?_
  rw [← Int32.ofInt_sub]
  exact k ad D cs A p l e R s m args below meth c cells slots Z C hret H locs lsC hH hS hL
theorem g_lsub {K : Nat} {M : Meth} {pc : Nat} {ls : List (Option AV)} {st : List AV} {σ : Mem} {Q : Option AV → Mem → Prop} {x y : Int} (hd : decode (mC M) pc = .ok (.lsub, 1)) (k : Go K M (pc + 1) ls (aL (x - y) :: st) σ Q) : Go K M pc ls (aL y :: aL x :: st) σ Q := by
  intro ad D cs A p l e R s m args below meth c cells slots Z C hret H locs lsC hH hS hL
  refine lv_lsub C.1 C.2.1 hd ?_
  rw [← Int64.ofInt_sub]
  exact k ad D cs A p l e R s m args below meth c cells slots Z C hret H locs lsC hH hS hL
theorem g_imul {K : Nat} {M : Meth} {pc : Nat} {ls : List (Option AV)} {st : List AV} {σ : Mem} {Q : Option AV → Mem → Prop} {x y : Int} (hd : decode (mC M) pc = .ok (.imul, 1)) (k : Go K M (pc + 1) ls (aI (x * y) :: st) σ Q) : Go K M pc ls (aI y :: aI x :: st) σ Q := by
  intro ad D cs A p l e R s m args below meth c cells slots Z C hret H locs lsC hH hS hL
  refine lv_imul C.1 C.2.1 hd ?_
  rw [← Int32.ofInt_mul]
  exact k ad D cs A p l e R s m args below meth c cells slots Z C hret H locs lsC hH hS hL
theorem g_lmul {K : Nat} {M : Meth} {pc : Nat} {ls : List (Option AV)} {st : List AV} {σ : Mem} {Q : Option AV → Mem → Prop} {x y : Int} (hd : decode (mC M) pc = .ok (.lmul, 1)) (k : Go K M (pc + 1) ls (aL (x * y) :: st) σ Q) : Go K M pc ls (aL y :: aL x :: st) σ Q := by
  intro ad D cs A p l e R s m args below meth c cells slots Z C hret H locs lsC hH hS hL
  refine lv_lmul C.1 C.2.1 hd ?_
  rw [← Int64.ofInt_mul]
  exact k ad D cs A p l e R s m args below meth c cells slots Z C hret H locs lsC hH hS hL
theorem g_ineg {K : Nat} {M : Meth} {pc : Nat} {ls : List (Option AV)} {st : List AV} {σ : Mem} {Q : Option AV → Mem → Prop} {x : Int} (hd : decode (mC M) pc = .ok (.ineg, 1)) (k : Go K M (pc + 1) ls (aI (-x) :: st) σ Q) : Go K M pc ls (aI x :: st) σ Q := by
  intro ad D cs A p l e R s m args below meth c cells slots Z C hret H locs lsC hH hS hL
  refine lv_ineg C.1 C.2.1 hd ?_
  rw [← Int32.ofInt_neg]
  exact k ad D cs A p l e R s m args below meth c cells slots Z C hret H locs lsC hH hS hL
theorem g_lneg {K : Nat} {M : Meth} {pc : Nat} {ls : List (Option AV)} {st : List AV} {σ : Mem} {Q : Option AV → Mem → Prop} {x : Int} (hd : decode (mC M) pc = .ok (.lneg, 1)) (k : Go K M (pc + 1) ls (aL (-x) :: st) σ Q) : Go K M pc ls (aL x :: st) σ Q := by
  intro ad D cs A p l e R s m args below meth c cells slots Z C hret H locs lsC hH hS hL
  refine lv_lneg C.1 C.2.1 hd ?_
  rw [← Int64.ofInt_neg]
  exact k ad D cs A p l e R s m args below meth c cells slots Z C hret H locs lsC hH hS hL
abbrev i32 (x : Int) : Prop := -2147483648 ≤ x ∧ x ≤ 2147483647
abbrev i64 (x : Int) : Prop := -9223372036854775808 ≤ x ∧ x ≤ 9223372036854775807
theorem i32_to {x : Int} (h : i32 x) : (Int32.ofInt x).toInt = x := Int32.toInt_ofInt_of_le (by have := h.1; omega) (by have := h.2; omega)
theorem i64_to {x : Int} (h : i64 x) : (Int64.ofInt x).toInt = x := Int64.toInt_ofInt_of_le (by have := h.1; omega) (by have := h.2; omega)
theorem i32_lt {x y : Int} (hx : i32 x) (hy : i32 y) : Int32.ofInt x < Int32.ofInt y ↔ x < y := by rw [Int32.lt_iff_toInt_lt, i32_to hx, i32_to hy]
theorem i32_le {x y : Int} (hx : i32 x) (hy : i32 y) : Int32.ofInt x ≤ Int32.ofInt y ↔ x ≤ y := by rw [Int32.le_iff_toInt_le, i32_to hx, i32_to hy]
theorem i32_eq {x y : Int} (hx : i32 x) (hy : i32 y) : Int32.ofInt x = Int32.ofInt y ↔ x = y := by rw [← Int32.toInt_inj, i32_to hx, i32_to hy]
theorem i64_lt {x y : Int} (hx : i64 x) (hy : i64 y) : Int64.ofInt x < Int64.ofInt y ↔ x < y := by rw [Int64.lt_iff_toInt_lt, i64_to hx, i64_to hy]
theorem i64_eq {x y : Int} (hx : i64 x) (hy : i64 y) : Int64.ofInt x = Int64.ofInt y ↔ x = y := by rw [← Int64.toInt_inj, i64_to hx, i64_to hy]
theorem i32_0 : (0 : Int32) = Int32.ofInt 0 := rfl
theorem i64_0 : (0 : Int64) = Int64.ofInt 0 := rfl
theorem i32_div {x y : Int} (hx : i32 x) (hy : i32 y) : Int32.ofInt x / Int32.ofInt y = Int32.ofInt (x.tdiv y) := by
  rw [← Int32.toInt_inj, Int32.toInt_div, i32_to hx, i32_to hy, Int32.toInt_ofInt]
theorem i64_div {x y : Int} (hx : i64 x) (hy : i64 y) : Int64.ofInt x / Int64.ofInt y = Int64.ofInt (x.tdiv y) := by
  rw [← Int64.toInt_inj, Int64.toInt_div, i64_to hx, i64_to hy, Int64.toInt_ofInt]
theorem g_idiv {K : Nat} {M : Meth} {pc : Nat} {ls : List (Option AV)} {st : List AV} {σ : Mem} {Q : Option AV → Mem → Prop} {x y : Int} (hd : decode (mC M) pc = .ok (.idiv, 1)) (hx : i32 x) (hy : i32 y) (h0 : y ≠ 0) (k : Go K M (pc + 1) ls (aI (x.tdiv y) :: st) σ Q) : Go K M pc ls (aI y :: aI x :: st) σ Q := by
  intro ad D cs A p l e R s m args below meth c cells slots Z C hret H locs lsC hH hS hL
  refine lv_idiv C.1 C.2.1 hd (fun h => h0 ((i32_eq hy (by decide)).mp (h.trans i32_0))) ?_
  rw [i32_div hx hy]
  exact k ad D cs A p l e R s m args below meth c cells slots Z C hret H locs lsC hH hS hL
theorem g_irem {K : Nat} {M : Meth} {pc : Nat} {ls : List (Option AV)} {st : List AV} {σ : Mem} {Q : Option AV → Mem → Prop} {x y : Int} (hd : decode (mC M) pc = .ok (.irem, 1)) (hx : i32 x) (hy : i32 y) (h0 : y ≠ 0) (k : Go K M (pc + 1) ls (aI (x.tmod y) :: st) σ Q) : Go K M pc ls (aI y :: aI x :: st) σ Q := by
  intro ad D cs A p l e R s m args below meth c cells slots Z C hret H locs lsC hH hS hL
  refine lv_irem C.1 C.2.1 hd (fun h => h0 ((i32_eq hy (by decide)).mp (h.trans i32_0))) ?_
  rw [i32_div hx hy, ← Int32.ofInt_mul, ← Int32.ofInt_sub, show x - x.tdiv y * y = x.tmod y by rw [Int.tmod_def, Int.mul_comm]]
  exact k ad D cs A p l e R s m args below meth c cells slots Z C hret H locs lsC hH hS hL
theorem g_ldiv {K : Nat} {M : Meth} {pc : Nat} {ls : List (Option AV)} {st : List AV} {σ : Mem} {Q : Option AV → Mem → Prop} {x y : Int} (hd : decode (mC M) pc = .ok (.ldiv, 1)) (hx : i64 x) (hy : i64 y) (h0 : y ≠ 0) (k : Go K M (pc + 1) ls (aL (x.tdiv y) :: st) σ Q) : Go K M pc ls (aL y :: aL x :: st) σ Q := by
  intro ad D cs A p l e R s m args below meth c cells slots Z C hret H locs lsC hH hS hL
  refine lv_ldiv C.1 C.2.1 hd (fun h => h0 ((i64_eq hy (by decide)).mp (h.trans i64_0))) ?_
  rw [i64_div hx hy]
  exact k ad D cs A p l e R s m args below meth c cells slots Z C hret H locs lsC hH hS hL
theorem g_lrem {K : Nat} {M : Meth} {pc : Nat} {ls : List (Option AV)} {st : List AV} {σ : Mem} {Q : Option AV → Mem → Prop} {x y : Int} (hd : decode (mC M) pc = .ok (.lrem, 1)) (hx : i64 x) (hy : i64 y) (h0 : y ≠ 0) (k : Go K M (pc + 1) ls (aL (x.tmod y) :: st) σ Q) : Go K M pc ls (aL y :: aL x :: st) σ Q := by
  intro ad D cs A p l e R s m args below meth c cells slots Z C hret H locs lsC hH hS hL
  refine lv_lrem C.1 C.2.1 hd (fun h => h0 ((i64_eq hy (by decide)).mp (h.trans i64_0))) ?_
  rw [i64_div hx hy, ← Int64.ofInt_mul, ← Int64.ofInt_sub, show x - x.tdiv y * y = x.tmod y by rw [Int.tmod_def, Int.mul_comm]]
  exact k ad D cs A p l e R s m args below meth c cells slots Z C hret H locs lsC hH hS hL
theorem g_i2l {K : Nat} {M : Meth} {pc : Nat} {ls : List (Option AV)} {st : List AV} {σ : Mem} {Q : Option AV → Mem → Prop} {x : Int} (hd : decode (mC M) pc = .ok (.i2l, 1)) (hx : i32 x) (k : Go K M (pc + 1) ls (aL x :: st) σ Q) : Go K M pc ls (aI x :: st) σ Q := by
  intro ad D cs A p l e R s m args below meth c cells slots Z C hret H locs lsC hH hS hL
  refine lv_i2l C.1 C.2.1 hd (v := Int64.ofInt x) ?_ (k ad D cs A p l e R s m args below meth c cells slots Z C hret H locs lsC hH hS hL)
  rw [← Int64.toInt_inj, Int32.toInt_toInt64, i32_to hx, i64_to (by have := hx.1; have := hx.2; constructor <;> omega)]
theorem g_l2i {K : Nat} {M : Meth} {pc : Nat} {ls : List (Option AV)} {st : List AV} {σ : Mem} {Q : Option AV → Mem → Prop} {x : Int} (hd : decode (mC M) pc = .ok (.l2i, 1)) (k : Go K M (pc + 1) ls (aI x :: st) σ Q) : Go K M pc ls (aL x :: st) σ Q := by
  intro ad D cs A p l e R s m args below meth c cells slots Z C hret H locs lsC hH hS hL
  refine lv_l2i C.1 C.2.1 hd (v := Int32.ofInt x) ?_ (k ad D cs A p l e R s m args below meth c cells slots Z C hret H locs lsC hH hS hL)
  rw [← Int32.toInt_inj, Int64.toInt_toInt32, Int64.toInt_ofInt, Int32.toInt_ofInt]
  exact Int.bmod_bmod_of_dvd (by decide)
theorem g_dup {K : Nat} {M : Meth} {pc : Nat} {ls : List (Option AV)} {st : List AV} {σ : Mem} {Q : Option AV → Mem → Prop} {v : AV} (hd : decode (mC M) pc = .ok (.dup, 1)) (hv : ∀ x, v ≠ aL x) (k : Go K M (pc + 1) ls (v :: v :: st) σ Q) : Go K M pc ls (v :: st) σ Q := by
  intro ad D cs A p l e R s m args below meth c cells slots Z C hret H locs lsC hH hS hL
  refine lv_dup C.1 C.2.1 hd ?_ (k ad D cs A p l e R s m args below meth c cells slots Z C hret H locs lsC hH hS hL)
  rcases lv_cat (cv ad v) with h | h
  · exact h
  · obtain ⟨x, hx⟩ := (cv_cat ad v).mp h
    exact absurd hx (hv x)
theorem g_dup2 {K : Nat} {M : Meth} {pc : Nat} {ls : List (Option AV)} {st : List AV} {σ : Mem} {Q : Option AV → Mem → Prop} {v u : AV} (hd : decode (mC M) pc = .ok (.dup2, 1)) (hv : ∀ x, v ≠ aL x) (hu : ∀ x, u ≠ aL x) (k : Go K M (pc + 1) ls (v :: u :: v :: u :: st) σ Q) : Go K M pc ls (v :: u :: st) σ Q := by
  intro ad D cs A p l e R s m args below meth c cells slots Z C hret H locs lsC hH hS hL
  refine lv_dup2_11 C.1 C.2.1 hd ?_ ?_ (k ad D cs A p l e R s m args below meth c cells slots Z C hret H locs lsC hH hS hL)
  · rcases lv_cat (cv ad v) with h | h
    · exact h
    · obtain ⟨x, hx⟩ := (cv_cat ad v).mp h
      exact absurd hx (hv x)
  · rcases lv_cat (cv ad u) with h | h
    · exact h
    · obtain ⟨x, hx⟩ := (cv_cat ad u).mp h
      exact absurd hx (hu x)
theorem g_goto {K : Nat} {M : Meth} {pc : Nat} {ls : List (Option AV)} {st : List AV} {σ : Mem} {Q : Option AV → Mem → Prop} {off : Int} {tgt : Nat} (hd : decode (mC M) pc = .ok (.goto off, 3)) (ht : (pc : Int) + off = (tgt : Int)) (k : Go K M tgt ls st σ Q) : Go K M pc ls st σ Q := by
  intro ad D cs A p l e R s m args below meth c cells slots Z C hret H locs lsC hH hS hL
  exact lv_goto C.1 C.2.1 hd ht (k ad D cs A p l e R s m args below meth c cells slots Z C hret H locs lsC hH hS hL)
theorem g_icmp_eq {K : Nat} {M : Meth} {pc : Nat} {ls : List (Option AV)} {st : List AV} {σ : Mem} {Q : Option AV → Mem → Prop} {x y off : Int} {tgt : Nat} (hd : decode (mC M) pc = .ok (.if_icmp .eq off, 3)) (ht : (pc : Int) + off = (tgt : Int)) (hx : i32 x) (hy : i32 y) (kt : x = y → Go K M tgt ls st σ Q) (kf : x ≠ y → Go K M (pc + 3) ls st σ Q) : Go K M pc ls (aI y :: aI x :: st) σ Q := by
  intro ad D cs A p l e R s m args below meth c cells slots Z C hret H locs lsC hH hS hL
  refine lv_icmp_eq C.1 C.2.1 hd ht (fun h => kt ((i32_eq hx hy).mp h) ad D cs A p l e R s m args below meth c cells slots Z C hret H locs lsC hH hS hL) (fun h => kf (fun q => h ((i32_eq hx hy).mpr q)) ad D cs A p l e R s m args below meth c cells slots Z C hret H locs lsC hH hS hL)
theorem g_if_eq {K : Nat} {M : Meth} {pc : Nat} {ls : List (Option AV)} {st : List AV} {σ : Mem} {Q : Option AV → Mem → Prop} {x off : Int} {tgt : Nat} (hd : decode (mC M) pc = .ok (.ifCond .eq off, 3)) (ht : (pc : Int) + off = (tgt : Int)) (hx : i32 x) (kt : x = 0 → Go K M tgt ls st σ Q) (kf : x ≠ 0 → Go K M (pc + 3) ls st σ Q) : Go K M pc ls (aI x :: st) σ Q := by
  intro ad D cs A p l e R s m args below meth c cells slots Z C hret H locs lsC hH hS hL
  have hy : i32 0 := by decide
  refine lv_if_eq C.1 C.2.1 hd ht (fun h => kt ((i32_eq hx hy).mp h) ad D cs A p l e R s m args below meth c cells slots Z C hret H locs lsC hH hS hL) (fun h => kf (fun q => h ((i32_eq hx hy).mpr q)) ad D cs A p l e R s m args below meth c cells slots Z C hret H locs lsC hH hS hL)
theorem g_icmp_ne {K : Nat} {M : Meth} {pc : Nat} {ls : List (Option AV)} {st : List AV} {σ : Mem} {Q : Option AV → Mem → Prop} {x y off : Int} {tgt : Nat} (hd : decode (mC M) pc = .ok (.if_icmp .ne off, 3)) (ht : (pc : Int) + off = (tgt : Int)) (hx : i32 x) (hy : i32 y) (kt : x ≠ y → Go K M tgt ls st σ Q) (kf : x = y → Go K M (pc + 3) ls st σ Q) : Go K M pc ls (aI y :: aI x :: st) σ Q := by
  intro ad D cs A p l e R s m args below meth c cells slots Z C hret H locs lsC hH hS hL
  refine lv_icmp_ne C.1 C.2.1 hd ht (fun h => kt (fun q => h ((i32_eq hx hy).mpr q)) ad D cs A p l e R s m args below meth c cells slots Z C hret H locs lsC hH hS hL) (fun h => kf ((i32_eq hx hy).mp h) ad D cs A p l e R s m args below meth c cells slots Z C hret H locs lsC hH hS hL)
theorem g_if_ne {K : Nat} {M : Meth} {pc : Nat} {ls : List (Option AV)} {st : List AV} {σ : Mem} {Q : Option AV → Mem → Prop} {x off : Int} {tgt : Nat} (hd : decode (mC M) pc = .ok (.ifCond .ne off, 3)) (ht : (pc : Int) + off = (tgt : Int)) (hx : i32 x) (kt : x ≠ 0 → Go K M tgt ls st σ Q) (kf : x = 0 → Go K M (pc + 3) ls st σ Q) : Go K M pc ls (aI x :: st) σ Q := by
  intro ad D cs A p l e R s m args below meth c cells slots Z C hret H locs lsC hH hS hL
  have hy : i32 0 := by decide
  refine lv_if_ne C.1 C.2.1 hd ht (fun h => kt (fun q => h ((i32_eq hx hy).mpr q)) ad D cs A p l e R s m args below meth c cells slots Z C hret H locs lsC hH hS hL) (fun h => kf ((i32_eq hx hy).mp h) ad D cs A p l e R s m args below meth c cells slots Z C hret H locs lsC hH hS hL)
theorem g_icmp_lt {K : Nat} {M : Meth} {pc : Nat} {ls : List (Option AV)} {st : List AV} {σ : Mem} {Q : Option AV → Mem → Prop} {x y off : Int} {tgt : Nat} (hd : decode (mC M) pc = .ok (.if_icmp .lt off, 3)) (ht : (pc : Int) + off = (tgt : Int)) (hx : i32 x) (hy : i32 y) (kt : x < y → Go K M tgt ls st σ Q) (kf : y ≤ x → Go K M (pc + 3) ls st σ Q) : Go K M pc ls (aI y :: aI x :: st) σ Q := by
  intro ad D cs A p l e R s m args below meth c cells slots Z C hret H locs lsC hH hS hL
  refine lv_icmp_lt C.1 C.2.1 hd ht (fun h => kt ((i32_lt hx hy).mp h) ad D cs A p l e R s m args below meth c cells slots Z C hret H locs lsC hH hS hL) (fun h => kf (Int.not_lt.mp (fun q => h ((i32_lt hx hy).mpr q))) ad D cs A p l e R s m args below meth c cells slots Z C hret H locs lsC hH hS hL)
theorem g_if_lt {K : Nat} {M : Meth} {pc : Nat} {ls : List (Option AV)} {st : List AV} {σ : Mem} {Q : Option AV → Mem → Prop} {x off : Int} {tgt : Nat} (hd : decode (mC M) pc = .ok (.ifCond .lt off, 3)) (ht : (pc : Int) + off = (tgt : Int)) (hx : i32 x) (kt : x < 0 → Go K M tgt ls st σ Q) (kf : 0 ≤ x → Go K M (pc + 3) ls st σ Q) : Go K M pc ls (aI x :: st) σ Q := by
  intro ad D cs A p l e R s m args below meth c cells slots Z C hret H locs lsC hH hS hL
  have hy : i32 0 := by decide
  refine lv_if_lt C.1 C.2.1 hd ht (fun h => kt ((i32_lt hx hy).mp h) ad D cs A p l e R s m args below meth c cells slots Z C hret H locs lsC hH hS hL) (fun h => kf (Int.not_lt.mp (fun q => h ((i32_lt hx hy).mpr q))) ad D cs A p l e R s m args below meth c cells slots Z C hret H locs lsC hH hS hL)
theorem g_icmp_ge {K : Nat} {M : Meth} {pc : Nat} {ls : List (Option AV)} {st : List AV} {σ : Mem} {Q : Option AV → Mem → Prop} {x y off : Int} {tgt : Nat} (hd : decode (mC M) pc = .ok (.if_icmp .ge off, 3)) (ht : (pc : Int) + off = (tgt : Int)) (hx : i32 x) (hy : i32 y) (kt : y ≤ x → Go K M tgt ls st σ Q) (kf : x < y → Go K M (pc + 3) ls st σ Q) : Go K M pc ls (aI y :: aI x :: st) σ Q := by
  intro ad D cs A p l e R s m args below meth c cells slots Z C hret H locs lsC hH hS hL
  refine lv_icmp_ge C.1 C.2.1 hd ht (fun h => kt ((i32_le hy hx).mp h) ad D cs A p l e R s m args below meth c cells slots Z C hret H locs lsC hH hS hL) (fun h => kf (Int.not_le.mp (fun q => h ((i32_le hy hx).mpr q))) ad D cs A p l e R s m args below meth c cells slots Z C hret H locs lsC hH hS hL)
theorem g_if_ge {K : Nat} {M : Meth} {pc : Nat} {ls : List (Option AV)} {st : List AV} {σ : Mem} {Q : Option AV → Mem → Prop} {x off : Int} {tgt : Nat} (hd : decode (mC M) pc = .ok (.ifCond .ge off, 3)) (ht : (pc : Int) + off = (tgt : Int)) (hx : i32 x) (kt : 0 ≤ x → Go K M tgt ls st σ Q) (kf : x < 0 → Go K M (pc + 3) ls st σ Q) : Go K M pc ls (aI x :: st) σ Q := by
  intro ad D cs A p l e R s m args below meth c cells slots Z C hret H locs lsC hH hS hL
  have hy : i32 0 := by decide
  refine lv_if_ge C.1 C.2.1 hd ht (fun h => kt ((i32_le hy hx).mp h) ad D cs A p l e R s m args below meth c cells slots Z C hret H locs lsC hH hS hL) (fun h => kf (Int.not_le.mp (fun q => h ((i32_le hy hx).mpr q))) ad D cs A p l e R s m args below meth c cells slots Z C hret H locs lsC hH hS hL)
theorem g_icmp_gt {K : Nat} {M : Meth} {pc : Nat} {ls : List (Option AV)} {st : List AV} {σ : Mem} {Q : Option AV → Mem → Prop} {x y off : Int} {tgt : Nat} (hd : decode (mC M) pc = .ok (.if_icmp .gt off, 3)) (ht : (pc : Int) + off = (tgt : Int)) (hx : i32 x) (hy : i32 y) (kt : y < x → Go K M tgt ls st σ Q) (kf : x ≤ y → Go K M (pc + 3) ls st σ Q) : Go K M pc ls (aI y :: aI x :: st) σ Q := by
  intro ad D cs A p l e R s m args below meth c cells slots Z C hret H locs lsC hH hS hL
  refine lv_icmp_gt C.1 C.2.1 hd ht (fun h => kt ((i32_lt hy hx).mp h) ad D cs A p l e R s m args below meth c cells slots Z C hret H locs lsC hH hS hL) (fun h => kf (Int.not_lt.mp (fun q => h ((i32_lt hy hx).mpr q))) ad D cs A p l e R s m args below meth c cells slots Z C hret H locs lsC hH hS hL)
theorem g_if_gt {K : Nat} {M : Meth} {pc : Nat} {ls : List (Option AV)} {st : List AV} {σ : Mem} {Q : Option AV → Mem → Prop} {x off : Int} {tgt : Nat} (hd : decode (mC M) pc = .ok (.ifCond .gt off, 3)) (ht : (pc : Int) + off = (tgt : Int)) (hx : i32 x) (kt : 0 < x → Go K M tgt ls st σ Q) (kf : x ≤ 0 → Go K M (pc + 3) ls st σ Q) : Go K M pc ls (aI x :: st) σ Q := by
  intro ad D cs A p l e R s m args below meth c cells slots Z C hret H locs lsC hH hS hL
  have hy : i32 0 := by decide
  refine lv_if_gt C.1 C.2.1 hd ht (fun h => kt ((i32_lt hy hx).mp h) ad D cs A p l e R s m args below meth c cells slots Z C hret H locs lsC hH hS hL) (fun h => kf (Int.not_lt.mp (fun q => h ((i32_lt hy hx).mpr q))) ad D cs A p l e R s m args below meth c cells slots Z C hret H locs lsC hH hS hL)
theorem g_icmp_le {K : Nat} {M : Meth} {pc : Nat} {ls : List (Option AV)} {st : List AV} {σ : Mem} {Q : Option AV → Mem → Prop} {x y off : Int} {tgt : Nat} (hd : decode (mC M) pc = .ok (.if_icmp .le off, 3)) (ht : (pc : Int) + off = (tgt : Int)) (hx : i32 x) (hy : i32 y) (kt : x ≤ y → Go K M tgt ls st σ Q) (kf : y < x → Go K M (pc + 3) ls st σ Q) : Go K M pc ls (aI y :: aI x :: st) σ Q := by
  intro ad D cs A p l e R s m args below meth c cells slots Z C hret H locs lsC hH hS hL
  refine lv_icmp_le C.1 C.2.1 hd ht (fun h => kt ((i32_le hx hy).mp h) ad D cs A p l e R s m args below meth c cells slots Z C hret H locs lsC hH hS hL) (fun h => kf (Int.not_le.mp (fun q => h ((i32_le hx hy).mpr q))) ad D cs A p l e R s m args below meth c cells slots Z C hret H locs lsC hH hS hL)
theorem g_if_le {K : Nat} {M : Meth} {pc : Nat} {ls : List (Option AV)} {st : List AV} {σ : Mem} {Q : Option AV → Mem → Prop} {x off : Int} {tgt : Nat} (hd : decode (mC M) pc = .ok (.ifCond .le off, 3)) (ht : (pc : Int) + off = (tgt : Int)) (hx : i32 x) (kt : x ≤ 0 → Go K M tgt ls st σ Q) (kf : 0 < x → Go K M (pc + 3) ls st σ Q) : Go K M pc ls (aI x :: st) σ Q := by
  intro ad D cs A p l e R s m args below meth c cells slots Z C hret H locs lsC hH hS hL
  have hy : i32 0 := by decide
  refine lv_if_le C.1 C.2.1 hd ht (fun h => kt ((i32_le hx hy).mp h) ad D cs A p l e R s m args below meth c cells slots Z C hret H locs lsC hH hS hL) (fun h => kf (Int.not_le.mp (fun q => h ((i32_le hx hy).mpr q))) ad D cs A p l e R s m args below meth c cells slots Z C hret H locs lsC hH hS hL)
theorem lg_cmp_int {x y : Int} (hx : i64 x) (hy : i64 y) : lg_cmp (Int64.ofInt x) (Int64.ofInt y) = Int32.ofInt (if x < y then -1 else if x = y then 0 else 1) := by
  unfold lg_cmp
  simp only [i64_lt hx hy, i64_eq hx hy, i64_lt hy hx]
  by_cases h1 : x < y
  · have h2 : x ≠ y := by omega
    have h3 : ¬ y < x := by omega
    simp [h1, h2, h3]; try decide
  · by_cases h2 : x = y
    · simp [h2]; try decide
    · have h3 : y < x := by omega
      simp [h1, h2, h3]; try decide
theorem g_lcmp {K : Nat} {M : Meth} {pc : Nat} {ls : List (Option AV)} {st : List AV} {σ : Mem} {Q : Option AV → Mem → Prop} {x y : Int} (hd : decode (mC M) pc = .ok (.lcmp, 1)) (hx : i64 x) (hy : i64 y) (k : Go K M (pc + 1) ls (aI (if x < y then -1 else if x = y then 0 else 1) :: st) σ Q) : Go K M pc ls (aL y :: aL x :: st) σ Q := by
  intro ad D cs A p l e R s m args below meth c cells slots Z C hret H locs lsC hH hS hL
  refine W.lcmp C.1 C.2.1 hd ?_
  rw [lg_cmp_int hx hy]
  exact k ad D cs A p l e R s m args below meth c cells slots Z C hret H locs lsC hH hS hL
theorem lc_32 (x y : Int) : i32 (if x < y then -1 else if x = y then 0 else 1) := by
  by_cases h1 : x < y
  · rw [if_pos h1]; decide
  · by_cases h2 : x = y
    · rw [if_neg h1, if_pos h2]; decide
    · rw [if_neg h1, if_neg h2]; decide
theorem g_lcmp_eq {K : Nat} {M : Meth} {pc : Nat} {ls : List (Option AV)} {st : List AV} {σ : Mem} {Q : Option AV → Mem → Prop} {x y off : Int} {tgt : Nat} (hd : decode (mC M) pc = .ok (.lcmp, 1)) (hd2 : decode (mC M) (pc + 1) = .ok (.ifCond .eq off, 3)) (ht : ((pc + 1 : Nat) : Int) + off = (tgt : Int)) (hx : i64 x) (hy : i64 y) (kt : x = y → Go K M tgt ls st σ Q) (kf : x ≠ y → Go K M (pc + 4) ls st σ Q) : Go K M pc ls (aL y :: aL x :: st) σ Q := by
  refine g_lcmp hd hx hy (g_if_eq hd2 ht (lc_32 x y) (fun h => kt ?_) (fun h => kf ?_))
  · by_cases h1 : x < y <;> by_cases h2 : x = y <;> simp [h1, h2] at h <;> omega
  · by_cases h1 : x < y <;> by_cases h2 : x = y <;> simp [h1, h2] at h <;> omega
theorem g_lcmp_ne {K : Nat} {M : Meth} {pc : Nat} {ls : List (Option AV)} {st : List AV} {σ : Mem} {Q : Option AV → Mem → Prop} {x y off : Int} {tgt : Nat} (hd : decode (mC M) pc = .ok (.lcmp, 1)) (hd2 : decode (mC M) (pc + 1) = .ok (.ifCond .ne off, 3)) (ht : ((pc + 1 : Nat) : Int) + off = (tgt : Int)) (hx : i64 x) (hy : i64 y) (kt : x ≠ y → Go K M tgt ls st σ Q) (kf : x = y → Go K M (pc + 4) ls st σ Q) : Go K M pc ls (aL y :: aL x :: st) σ Q := by
  refine g_lcmp hd hx hy (g_if_ne hd2 ht (lc_32 x y) (fun h => kt ?_) (fun h => kf ?_))
  · by_cases h1 : x < y <;> by_cases h2 : x = y <;> simp [h1, h2] at h <;> omega
  · by_cases h1 : x < y <;> by_cases h2 : x = y <;> simp [h1, h2] at h <;> omega
theorem g_lcmp_lt {K : Nat} {M : Meth} {pc : Nat} {ls : List (Option AV)} {st : List AV} {σ : Mem} {Q : Option AV → Mem → Prop} {x y off : Int} {tgt : Nat} (hd : decode (mC M) pc = .ok (.lcmp, 1)) (hd2 : decode (mC M) (pc + 1) = .ok (.ifCond .lt off, 3)) (ht : ((pc + 1 : Nat) : Int) + off = (tgt : Int)) (hx : i64 x) (hy : i64 y) (kt : x < y → Go K M tgt ls st σ Q) (kf : y ≤ x → Go K M (pc + 4) ls st σ Q) : Go K M pc ls (aL y :: aL x :: st) σ Q := by
  refine g_lcmp hd hx hy (g_if_lt hd2 ht (lc_32 x y) (fun h => kt ?_) (fun h => kf ?_))
  · by_cases h1 : x < y <;> by_cases h2 : x = y <;> simp [h1, h2] at h <;> omega
  · by_cases h1 : x < y <;> by_cases h2 : x = y <;> simp [h1, h2] at h <;> omega
theorem g_lcmp_ge {K : Nat} {M : Meth} {pc : Nat} {ls : List (Option AV)} {st : List AV} {σ : Mem} {Q : Option AV → Mem → Prop} {x y off : Int} {tgt : Nat} (hd : decode (mC M) pc = .ok (.lcmp, 1)) (hd2 : decode (mC M) (pc + 1) = .ok (.ifCond .ge off, 3)) (ht : ((pc + 1 : Nat) : Int) + off = (tgt : Int)) (hx : i64 x) (hy : i64 y) (kt : y ≤ x → Go K M tgt ls st σ Q) (kf : x < y → Go K M (pc + 4) ls st σ Q) : Go K M pc ls (aL y :: aL x :: st) σ Q := by
  refine g_lcmp hd hx hy (g_if_ge hd2 ht (lc_32 x y) (fun h => kt ?_) (fun h => kf ?_))
  · by_cases h1 : x < y <;> by_cases h2 : x = y <;> simp [h1, h2] at h <;> omega
  · by_cases h1 : x < y <;> by_cases h2 : x = y <;> simp [h1, h2] at h <;> omega
theorem g_lcmp_gt {K : Nat} {M : Meth} {pc : Nat} {ls : List (Option AV)} {st : List AV} {σ : Mem} {Q : Option AV → Mem → Prop} {x y off : Int} {tgt : Nat} (hd : decode (mC M) pc = .ok (.lcmp, 1)) (hd2 : decode (mC M) (pc + 1) = .ok (.ifCond .gt off, 3)) (ht : ((pc + 1 : Nat) : Int) + off = (tgt : Int)) (hx : i64 x) (hy : i64 y) (kt : y < x → Go K M tgt ls st σ Q) (kf : x ≤ y → Go K M (pc + 4) ls st σ Q) : Go K M pc ls (aL y :: aL x :: st) σ Q := by
  refine g_lcmp hd hx hy (g_if_gt hd2 ht (lc_32 x y) (fun h => kt ?_) (fun h => kf ?_))
  · by_cases h1 : x < y <;> by_cases h2 : x = y <;> simp [h1, h2] at h <;> omega
  · by_cases h1 : x < y <;> by_cases h2 : x = y <;> simp [h1, h2] at h <;> omega
theorem g_lcmp_le {K : Nat} {M : Meth} {pc : Nat} {ls : List (Option AV)} {st : List AV} {σ : Mem} {Q : Option AV → Mem → Prop} {x y off : Int} {tgt : Nat} (hd : decode (mC M) pc = .ok (.lcmp, 1)) (hd2 : decode (mC M) (pc + 1) = .ok (.ifCond .le off, 3)) (ht : ((pc + 1 : Nat) : Int) + off = (tgt : Int)) (hx : i64 x) (hy : i64 y) (kt : x ≤ y → Go K M tgt ls st σ Q) (kf : y < x → Go K M (pc + 4) ls st σ Q) : Go K M pc ls (aL y :: aL x :: st) σ Q := by
  refine g_lcmp hd hx hy (g_if_le hd2 ht (lc_32 x y) (fun h => kt ?_) (fun h => kf ?_))
  · by_cases h1 : x < y <;> by_cases h2 : x = y <;> simp [h1, h2] at h <;> omega
  · by_cases h1 : x < y <;> by_cases h2 : x = y <;> simp [h1, h2] at h <;> omega
/-! memory -/
/-- a field: its class' number and its own, by the pool of the class own -/
def FL (own : String) (idx ci j : Nat) : Prop := ∃ (C : String) (T : u_T) (N : Nat) (ty : Nat → FieldType), classes[ci]? = some (C, T, N) ∧ j < N ∧ (∀ w ∈ u_ws C T N, w ∈ TW) ∧ (∀ k, k < N → parseFieldDescriptor (T k).2.2.1 = some (ty k)) ∧ (∀ a, a < N → ∀ b, b < N → a ≠ b → (T a).2.1 ≠ (T b).2.1) ∧ Cond.fieldLink own idx (T j).1 (T j).2.1 (T j).2.2.1 ∈ TW
/-- one that may be written, of type t -/
def FW (own : String) (idx ci j : Nat) (t : FieldType) : Prop := ∃ (C : String) (T : u_T) (N : Nat) (ty : Nat → FieldType), classes[ci]? = some (C, T, N) ∧ j < N ∧ (∀ w ∈ u_ws C T N, w ∈ TW) ∧ (∀ k, k < N → parseFieldDescriptor (T k).2.2.1 = some (ty k)) ∧ (∀ a, a < N → ∀ b, b < N → a ≠ b → (T a).2.1 ≠ (T b).2.1) ∧ Cond.fieldLink own idx (T j).1 (T j).2.1 (T j).2.2.1 ∈ TW ∧ (T j).2.2.2 = false ∧ ty j = t
theorem FW.fl {own : String} {idx ci j : Nat} {t : FieldType} (h : FW own idx ci j t) : FL own idx ci j := by
  obtain ⟨C, T, N, ty, h1, h2, h3, h4, h5, h6, -⟩ := h
  exact ⟨C, T, N, ty, h1, h2, h3, h4, h5, h6⟩
theorem en_obj {ad : Nat → Nat} {cs : ClassId × ClassId × ClassId} {f : Int → Int} {ci j kd : Nat} {fk : List Nat} (hf : fk[j]? = some kd) : ((List.range fk.length).map fun j => fv ad f j (fk.getD j 0))[j]? = some (fv ad f j kd) := by
  have hj : j < fk.length := (List.getElem?_eq_some_iff.mp hf).1
  rw [List.getElem?_map, List.getElem?_range hj]
  simp [List.getD, hf]
theorem g_getI {K : Nat} {M : Meth} {pc : Nat} {ls : List (Option AV)} {st : List AV} {σ : Mem} {Q : Option AV → Mem → Prop} {idx ci j k : Nat} {fk : List Nat} {ji : Int} (hj : (j : Int) = ji) (hd : decode (mC M) pc = .ok (.getfield idx, 3)) (hl : FL (mN M).cls idx ci j) (hs : sh k = .inl (ci, fk)) (hf : fk[j]? = some 0) (hk : k < K) (kk : Go K M (pc + 3) ls (aI (σ k ji) :: st) σ Q) : Go K M pc ls (aR k :: st) σ Q := by
  intro ad D cs A p l e R s m args below meth c cells slots Z C hret H locs lsC hH hS hL
  subst hj
  obtain ⟨C1, T, N, ty, h1, h2, h3, h4, h5, h6⟩ := hl
  have he : (wd ad cs σ K)[k]? = some (ad k, .inr (ci, (List.range fk.length).map fun j => fv ad (σ k) j (fk.getD j 0))) := by rw [wd_at hk, hs]; rfl
  exact va_get (C := C1) (T := T) (N := N) C.1 C.2.1 C.2.2.2.2.1 h3 C.2.2.2.1 hH.1 hH.2.1 k he h1 j h2 (C.2.2.2.2.1 _ h6) (fun x hx => hx) (en_obj (cs := cs) (ci := ci) hf) hd (kk ad D cs A p l e R s m args below meth c cells slots Z C hret H locs lsC hH hS hL)
theorem g_getL {K : Nat} {M : Meth} {pc : Nat} {ls : List (Option AV)} {st : List AV} {σ : Mem} {Q : Option AV → Mem → Prop} {idx ci j k : Nat} {fk : List Nat} {ji : Int} (hj : (j : Int) = ji) (hd : decode (mC M) pc = .ok (.getfield idx, 3)) (hl : FL (mN M).cls idx ci j) (hs : sh k = .inl (ci, fk)) (hf : fk[j]? = some 1) (hk : k < K) (kk : Go K M (pc + 3) ls (aL (σ k ji) :: st) σ Q) : Go K M pc ls (aR k :: st) σ Q := by
  intro ad D cs A p l e R s m args below meth c cells slots Z C hret H locs lsC hH hS hL
  subst hj
  obtain ⟨C1, T, N, ty, h1, h2, h3, h4, h5, h6⟩ := hl
  have he : (wd ad cs σ K)[k]? = some (ad k, .inr (ci, (List.range fk.length).map fun j => fv ad (σ k) j (fk.getD j 0))) := by rw [wd_at hk, hs]; rfl
  exact va_get (C := C1) (T := T) (N := N) C.1 C.2.1 C.2.2.2.2.1 h3 C.2.2.2.1 hH.1 hH.2.1 k he h1 j h2 (C.2.2.2.2.1 _ h6) (fun x hx => hx) (en_obj (cs := cs) (ci := ci) hf) hd (kk ad D cs A p l e R s m args below meth c cells slots Z C hret H locs lsC hH hS hL)
theorem g_getR {K : Nat} {M : Meth} {pc : Nat} {ls : List (Option AV)} {st : List AV} {σ : Mem} {Q : Option AV → Mem → Prop} {idx ci j k : Nat} {fk : List Nat} {r : Nat} (hd : decode (mC M) pc = .ok (.getfield idx, 3)) (hl : FL (mN M).cls idx ci j) (hs : sh k = .inl (ci, fk)) (hf : fk[j]? = some (r + 2)) (hk : k < K) (kk : Go K M (pc + 3) ls (aR r :: st) σ Q) : Go K M pc ls (aR k :: st) σ Q := by
  intro ad D cs A p l e R s m args below meth c cells slots Z C hret H locs lsC hH hS hL
  obtain ⟨C1, T, N, ty, h1, h2, h3, h4, h5, h6⟩ := hl
  have he : (wd ad cs σ K)[k]? = some (ad k, .inr (ci, (List.range fk.length).map fun j => fv ad (σ k) j (fk.getD j 0))) := by rw [wd_at hk, hs]; rfl
  exact va_get (C := C1) (T := T) (N := N) C.1 C.2.1 C.2.2.2.2.1 h3 C.2.2.2.1 hH.1 hH.2.1 k he h1 j h2 (C.2.2.2.2.1 _ h6) (fun x hx => hx) (en_obj (cs := cs) (ci := ci) hf) hd (kk ad D cs A p l e R s m args below meth c cells slots Z C hret H locs lsC hH hS hL)
theorem g_putI {K : Nat} {M : Meth} {pc : Nat} {ls : List (Option AV)} {st : List AV} {σ : Mem} {Q : Option AV → Mem → Prop} {idx ci j k : Nat} {x ji : Int} {fk : List Nat} (hj : (j : Int) = ji) (hd : decode (mC M) pc = .ok (.putfield idx, 3)) (hl : FW (mN M).cls idx ci j .int) (hs : sh k = .inl (ci, fk)) (hf : fk[j]? = some 0) (hk : k < K) (h41 : k < 41) (kk : Go K M (pc + 3) ls st (up σ k ji x) Q) : Go K M pc ls (aI x :: aR k :: st) σ Q := by
  intro ad D cs A p l e R s m args below meth c cells slots Z C hret H locs lsC hH hS hL
  subst hj
  obtain ⟨C1, T, N, ty, h1, h2, h3, h4, h5, h6, h7, h8⟩ := hl
  have he : (wd ad cs σ K)[k]? = some (ad k, .inr (ci, (List.range fk.length).map fun j => fv ad (σ k) j (fk.getD j 0))) := by rw [wd_at hk, hs]; rfl
  have hj : j < fk.length := (List.getElem?_eq_some_iff.mp hf).1
  have hset : (wd ad cs σ K).set k (ad k, .inr (ci, ((List.range fk.length).map fun j => fv ad (σ k) j (fk.getD j 0)).set j (.int (Int32.ofInt x)))) = wd ad cs (up σ k j x) K := by
    refine wd_set hk h41 ?_
    rw [hs]
    show Sum.inr (ci, _) = Sum.inr (ci, _)
    congr 2
    apply List.ext_getElem?
    intro i
    rw [List.getElem?_set]
    by_cases hi : i < fk.length
    · rw [List.getElem?_map, List.getElem?_map, List.getElem?_range hi]
      by_cases hij : j = i
      · subst hij
        have hg : fk.getD j 0 = 0 := by simp [List.getD, hf]
        simp only [Option.map_some, if_true, List.length_map, List.length_range, hi, hg, fv, up_same]
      · rw [if_neg hij]
        have hne : ((i : Nat) : Int) ≠ ((j : Nat) : Int) := by omega
        simp only [Option.map_some]
        congr 1
        cases hq : fk.getD i 0 with
        | zero => simp only [fv]; rw [up_ne (Or.inr hne)]
        | succ q =>
          cases q with
          | zero => simp only [fv]; rw [up_ne (Or.inr hne)]
          | succ q => rfl
    · have hij : j ≠ i := by omega
      rw [if_neg hij]
      simp [hi]
  refine va_put (C := C1) (T := T) (N := N) (ty := .int) (v := .int (Int32.ofInt x)) C.1 C.2.1 C.2.2.2.2.1 h3 ty h4 h5 C.2.2.2.1 hH.1 hH.2.1 hH.2.2.1 hS.here k he h1 j h2 (C.2.2.2.2.1 _ h6) (fun x hx => hx) h7 (by rw [h4 j h2, h8]) (vp_nar_int _) rfl (by simpa using hj) hd (fun H1 locs1 hP1 hD1 hS1 => ?_)
  rw [hset] at hP1 hD1
  exact kk ad D cs A p l e R s m args below meth c cells slots Z C hret H1 locs1 lsC (hH.put (Nat.lt_succ_of_lt h41) hP1 hD1 hS1) (hS.trans hS1) hL
theorem g_putZ {K : Nat} {M : Meth} {pc : Nat} {ls : List (Option AV)} {st : List AV} {σ : Mem} {Q : Option AV → Mem → Prop} {idx ci j k : Nat} {x ji : Int} {fk : List Nat} (hj : (j : Int) = ji) (hd : decode (mC M) pc = .ok (.putfield idx, 3)) (hl : FW (mN M).cls idx ci j .boolean) (hs : sh k = .inl (ci, fk)) (hf : fk[j]? = some 0) (hk : k < K) (h41 : k < 41) (hx : x = 0 ∨ x = 1) (kk : Go K M (pc + 3) ls st (up σ k ji x) Q) : Go K M pc ls (aI x :: aR k :: st) σ Q := by
  intro ad D cs A p l e R s m args below meth c cells slots Z C hret H locs lsC hH hS hL
  subst hj
  obtain ⟨C1, T, N, ty, h1, h2, h3, h4, h5, h6, h7, h8⟩ := hl
  have he : (wd ad cs σ K)[k]? = some (ad k, .inr (ci, (List.range fk.length).map fun j => fv ad (σ k) j (fk.getD j 0))) := by rw [wd_at hk, hs]; rfl
  have hj : j < fk.length := (List.getElem?_eq_some_iff.mp hf).1
  have hset : (wd ad cs σ K).set k (ad k, .inr (ci, ((List.range fk.length).map fun j => fv ad (σ k) j (fk.getD j 0)).set j (.int (Int32.ofInt x)))) = wd ad cs (up σ k j x) K := by
    refine wd_set hk h41 ?_
    rw [hs]
    show Sum.inr (ci, _) = Sum.inr (ci, _)
    congr 2
    apply List.ext_getElem?
    intro i
    rw [List.getElem?_set]
    by_cases hi : i < fk.length
    · rw [List.getElem?_map, List.getElem?_map, List.getElem?_range hi]
      by_cases hij : j = i
      · subst hij
        have hg : fk.getD j 0 = 0 := by simp [List.getD, hf]
        simp only [Option.map_some, if_true, List.length_map, List.length_range, hi, hg, fv, up_same]
      · rw [if_neg hij]
        have hne : ((i : Nat) : Int) ≠ ((j : Nat) : Int) := by omega
        simp only [Option.map_some]
        congr 1
        cases hq : fk.getD i 0 with
        | zero => simp only [fv]; rw [up_ne (Or.inr hne)]
        | succ q =>
          cases q with
          | zero => simp only [fv]; rw [up_ne (Or.inr hne)]
          | succ q => rfl
    · have hij : j ≠ i := by omega
      rw [if_neg hij]
      simp [hi]
  refine va_put (C := C1) (T := T) (N := N) (ty := .boolean) (v := .int (Int32.ofInt x)) C.1 C.2.1 C.2.2.2.2.1 h3 ty h4 h5 C.2.2.2.1 hH.1 hH.2.1 hH.2.2.1 hS.here k he h1 j h2 (C.2.2.2.2.1 _ h6) (fun x hx => hx) h7 (by rw [h4 j h2, h8]) (by rcases hx with rfl | rfl <;> rfl) (by rcases hx with rfl | rfl <;> rfl) (by simpa using hj) hd (fun H1 locs1 hP1 hD1 hS1 => ?_)
  rw [hset] at hP1 hD1
  exact kk ad D cs A p l e R s m args below meth c cells slots Z C hret H1 locs1 lsC (hH.put (Nat.lt_succ_of_lt h41) hP1 hD1 hS1) (hS.trans hS1) hL
theorem g_putL {K : Nat} {M : Meth} {pc : Nat} {ls : List (Option AV)} {st : List AV} {σ : Mem} {Q : Option AV → Mem → Prop} {idx ci j k : Nat} {x ji : Int} {fk : List Nat} (hj : (j : Int) = ji) (hd : decode (mC M) pc = .ok (.putfield idx, 3)) (hl : FW (mN M).cls idx ci j .long) (hs : sh k = .inl (ci, fk)) (hf : fk[j]? = some 1) (hk : k < K) (h41 : k < 41) (kk : Go K M (pc + 3) ls st (up σ k ji x) Q) : Go K M pc ls (aL x :: aR k :: st) σ Q := by
  intro ad D cs A p l e R s m args below meth c cells slots Z C hret H locs lsC hH hS hL
  subst hj
  obtain ⟨C1, T, N, ty, h1, h2, h3, h4, h5, h6, h7, h8⟩ := hl
  have he : (wd ad cs σ K)[k]? = some (ad k, .inr (ci, (List.range fk.length).map fun j => fv ad (σ k) j (fk.getD j 0))) := by rw [wd_at hk, hs]; rfl
  have hj : j < fk.length := (List.getElem?_eq_some_iff.mp hf).1
  have hset : (wd ad cs σ K).set k (ad k, .inr (ci, ((List.range fk.length).map fun j => fv ad (σ k) j (fk.getD j 0)).set j (.long (Int64.ofInt x)))) = wd ad cs (up σ k j x) K := by
    refine wd_set hk h41 ?_
    rw [hs]
    show Sum.inr (ci, _) = Sum.inr (ci, _)
    congr 2
    apply List.ext_getElem?
    intro i
    rw [List.getElem?_set]
    by_cases hi : i < fk.length
    · rw [List.getElem?_map, List.getElem?_map, List.getElem?_range hi]
      by_cases hij : j = i
      · subst hij
        have hg : fk.getD j 0 = 1 := by simp [List.getD, hf]
        simp only [Option.map_some, if_true, List.length_map, List.length_range, hi, hg, fv, up_same]
      · rw [if_neg hij]
        have hne : ((i : Nat) : Int) ≠ ((j : Nat) : Int) := by omega
        simp only [Option.map_some]
        congr 1
        cases hq : fk.getD i 0 with
        | zero => simp only [fv]; rw [up_ne (Or.inr hne)]
        | succ q =>
          cases q with
          | zero => simp only [fv]; rw [up_ne (Or.inr hne)]
          | succ q => rfl
    · have hij : j ≠ i := by omega
      rw [if_neg hij]
      simp [hi]
  refine va_put (C := C1) (T := T) (N := N) (ty := .long) (v := .long (Int64.ofInt x)) C.1 C.2.1 C.2.2.2.2.1 h3 ty h4 h5 C.2.2.2.1 hH.1 hH.2.1 hH.2.2.1 hS.here k he h1 j h2 (C.2.2.2.2.1 _ h6) (fun x hx => hx) h7 (by rw [h4 j h2, h8]) rfl rfl (by simpa using hj) hd (fun H1 locs1 hP1 hD1 hS1 => ?_)
  rw [hset] at hP1 hD1
  exact kk ad D cs A p l e R s m args below meth c cells slots Z C hret H1 locs1 lsC (hH.put (Nat.lt_succ_of_lt h41) hP1 hD1 hS1) (hS.trans hS1) hL
theorem vp_in_i {i : Int} {n : Nat} (h0 : 0 ≤ i) (h1 : i < n) (hn : n < 2 ^ 31) : vp_in (Int32.ofInt i) n := by
  rw [vp_in_iff, i32_to (by constructor <;> omega)]
  exact ⟨h0, h1⟩
theorem clamp_i {i : Int} {n : Nat} (h0 : 0 ≤ i) (h1 : i < n) (hn : n < 2 ^ 31) : (((Int32.ofInt i).toNatClampNeg : Nat) : Int) = i := by
  have h : (Int32.ofInt i).toInt = i := i32_to (by constructor <;> omega)
  unfold Int32.toNatClampNeg
  rw [h]
  omega
theorem g_iaload {K : Nat} {M : Meth} {pc : Nat} {ls : List (Option AV)} {st : List AV} {σ : Mem} {Q : Option AV → Mem → Prop} {k n : Nat} {i : Int} {rs : List Nat} (hd : decode (mC M) pc = .ok (.iaload, 1)) (hs : sh k = .inr (0, n, rs)) (hk : k < K) (h0 : 0 ≤ i) (h1 : i < n) (hn : n < 2 ^ 31) (kk : Go K M (pc + 1) ls (aI (σ k i) :: st) σ Q) : Go K M pc ls (aI i :: aR k :: st) σ Q := by
  intro ad D cs A p l e R s m args below meth c cells slots Z C hret H locs lsC hH hS hL
  have he : (wd ad cs σ K)[k]? = some (ad k, .inl (cs.1, n, .inl (fun j => Int32.ofInt (σ k j)))) := by rw [wd_at hk, hs]; rfl
  refine va_iald C.1 C.2.1 hH.1 hH.2.1 k 0 he rfl (vp_in_i h0 h1 hn) hd ?_
  rw [clamp_i h0 h1 hn]
  exact kk ad D cs A p l e R s m args below meth c cells slots Z C hret H locs lsC hH hS hL
theorem g_lwload {K : Nat} {M : Meth} {pc : Nat} {ls : List (Option AV)} {st : List AV} {σ : Mem} {Q : Option AV → Mem → Prop} {n : Nat} {i : Int} {rs : List Nat} (hd : decode (mC M) pc = .ok (.iaload, 1)) (hs : sh 41 = .inr (0, n, rs)) (h0 : 0 ≤ i) (h1 : i < n) (hn : n < 2 ^ 31) (kk : Go K M (pc + 1) ls (aI (σ 41 i) :: st) σ Q) : Go K M pc ls (aI i :: aR 41 :: st) σ Q := by
  intro ad D cs A p l e R s m args below meth c cells slots Z C hret H locs lsC hH hS hL
  have he : (wd ad cs σ K)[K]? = some (ad 41, .inl (cs.1, n, .inl (fun j => Int32.ofInt (σ 41 j)))) := by rw [wd_end, hs]; rfl
  refine va_iald C.1 C.2.1 hH.1 hH.2.1 K 0 he rfl (vp_in_i h0 h1 hn) hd ?_
  rw [clamp_i h0 h1 hn]
  exact kk ad D cs A p l e R s m args below meth c cells slots Z C hret H locs lsC hH hS hL
theorem g_laload {K : Nat} {M : Meth} {pc : Nat} {ls : List (Option AV)} {st : List AV} {σ : Mem} {Q : Option AV → Mem → Prop} {k n : Nat} {i : Int} {rs : List Nat} (hd : decode (mC M) pc = .ok (.laload, 1)) (hs : sh k = .inr (1, n, rs)) (hk : k < K) (h0 : 0 ≤ i) (h1 : i < n) (hn : n < 2 ^ 31) (kk : Go K M (pc + 1) ls (aL (σ k i) :: st) σ Q) : Go K M pc ls (aI i :: aR k :: st) σ Q := by
  intro ad D cs A p l e R s m args below meth c cells slots Z C hret H locs lsC hH hS hL
  have he : (wd ad cs σ K)[k]? = some (ad k, .inl (cs.2.1, n, .inr (.inl (fun j => Int64.ofInt (σ k j))))) := by rw [wd_at hk, hs]; rfl
  refine va_lald C.1 C.2.1 hH.1 hH.2.1 k 1 he rfl (vp_in_i h0 h1 hn) hd ?_
  rw [clamp_i h0 h1 hn]
  exact kk ad D cs A p l e R s m args below meth c cells slots Z C hret H locs lsC hH hS hL
theorem g_iastore {K : Nat} {M : Meth} {pc : Nat} {ls : List (Option AV)} {st : List AV} {σ : Mem} {Q : Option AV → Mem → Prop} {k n : Nat} {i x : Int} {rs : List Nat} (hd : decode (mC M) pc = .ok (.iastore, 1)) (hs : sh k = .inr (0, n, rs)) (hk : k < K) (h41 : k < 41) (h0 : 0 ≤ i) (h1 : i < n) (hn : n < 2 ^ 31) (kk : Go K M (pc + 1) ls st (up σ k i x) Q) : Go K M pc ls (aI x :: aI i :: aR k :: st) σ Q := by
  intro ad D cs A p l e R s m args below meth c cells slots Z C hret H locs lsC hH hS hL
  have he : (wd ad cs σ K)[k]? = some (ad k, .inl (cs.1, n, .inl (fun j => Int32.ofInt (σ k j)))) := by rw [wd_at hk, hs]; rfl
  have hset : (wd ad cs σ K).set k (ad k, .inl (cs.1, n, .inl (upd (fun j : Nat => Int32.ofInt (σ k j)) (Int32.ofInt i).toNatClampNeg (Int32.ofInt x)))) = wd ad cs (up σ k i x) K := by
    refine wd_set hk h41 ?_
    rw [hs]
    simp only [en]
    congr 4
    funext j
    have hc := clamp_i h0 h1 hn
    unfold upd
    by_cases hj : j = (Int32.ofInt i).toNatClampNeg
    · rw [if_pos hj, hj, hc, up_same]
    · rw [if_neg hj, up_ne (Or.inr (by omega))]
  refine va_iast C.1 C.2.1 hH.1 hH.2.1 hH.2.2.1 hS.here k 0 he rfl (vp_in_i h0 h1 hn) hd (fun H1 locs1 hP1 hD1 hS1 => ?_)
  rw [hset] at hP1 hD1
  exact kk ad D cs A p l e R s m args below meth c cells slots Z C hret H1 locs1 lsC (hH.put (Nat.lt_succ_of_lt h41) hP1 hD1 hS1) (hS.trans hS1) hL
theorem g_lwstore {K : Nat} {M : Meth} {pc : Nat} {ls : List (Option AV)} {st : List AV} {σ : Mem} {Q : Option AV → Mem → Prop} {n : Nat} {i x : Int} {rs : List Nat} (hd : decode (mC M) pc = .ok (.iastore, 1)) (hs : sh 41 = .inr (0, n, rs)) (hK : K ≤ 41) (h0 : 0 ≤ i) (h1 : i < n) (hn : n < 2 ^ 31) (kk : Go K M (pc + 1) ls st (up σ 41 i x) Q) : Go K M pc ls (aI x :: aI i :: aR 41 :: st) σ Q := by
  intro ad D cs A p l e R s m args below meth c cells slots Z C hret H locs lsC hH hS hL
  have he : (wd ad cs σ K)[K]? = some (ad 41, .inl (cs.1, n, .inl (fun j => Int32.ofInt (σ 41 j)))) := by rw [wd_end, hs]; rfl
  have hset : (wd ad cs σ K).set K (ad 41, .inl (cs.1, n, .inl (upd (fun j : Nat => Int32.ofInt (σ 41 j)) (Int32.ofInt i).toNatClampNeg (Int32.ofInt x)))) = wd ad cs (up σ 41 i x) K := by
    refine wd_setE hK ?_
    rw [hs]
    simp only [en]
    congr 4
    funext j
    have hc := clamp_i h0 h1 hn
    unfold upd
    by_cases hj : j = (Int32.ofInt i).toNatClampNeg
    · rw [if_pos hj, hj, hc, up_same]
    · rw [if_neg hj, up_ne (Or.inr (by omega))]
  refine va_iast C.1 C.2.1 hH.1 hH.2.1 hH.2.2.1 hS.here K 0 he rfl (vp_in_i h0 h1 hn) hd (fun H1 locs1 hP1 hD1 hS1 => ?_)
  rw [hset] at hP1 hD1
  exact kk ad D cs A p l e R s m args below meth c cells slots Z C hret H1 locs1 lsC (hH.put (by decide) hP1 hD1 hS1) (hS.trans hS1) hL
theorem g_lastore {K : Nat} {M : Meth} {pc : Nat} {ls : List (Option AV)} {st : List AV} {σ : Mem} {Q : Option AV → Mem → Prop} {k n : Nat} {i x : Int} {rs : List Nat} (hd : decode (mC M) pc = .ok (.lastore, 1)) (hs : sh k = .inr (1, n, rs)) (hk : k < K) (h41 : k < 41) (h0 : 0 ≤ i) (h1 : i < n) (hn : n < 2 ^ 31) (kk : Go K M (pc + 1) ls st (up σ k i x) Q) : Go K M pc ls (aL x :: aI i :: aR k :: st) σ Q := by
  intro ad D cs A p l e R s m args below meth c cells slots Z C hret H locs lsC hH hS hL
  have he : (wd ad cs σ K)[k]? = some (ad k, .inl (cs.2.1, n, .inr (.inl (fun j => Int64.ofInt (σ k j))))) := by rw [wd_at hk, hs]; rfl
  have hset : (wd ad cs σ K).set k (ad k, .inl (cs.2.1, n, .inr (.inl (vp_updL (fun j : Nat => Int64.ofInt (σ k j)) (Int32.ofInt i).toNatClampNeg (Int64.ofInt x))))) = wd ad cs (up σ k i x) K := by
    refine wd_set hk h41 ?_
    rw [hs]
    simp only [en]
    congr 5
    funext j
    have hc := clamp_i h0 h1 hn
    unfold vp_updL
    by_cases hj : j = (Int32.ofInt i).toNatClampNeg
    · rw [if_pos hj, hj, hc, up_same]
    · rw [if_neg hj, up_ne (Or.inr (by omega))]
  refine va_last C.1 C.2.1 hH.1 hH.2.1 hH.2.2.1 hS.here k 1 he rfl (vp_in_i h0 h1 hn) hd (fun H1 locs1 hP1 hD1 hS1 => ?_)
  rw [hset] at hP1 hD1
  exact kk ad D cs A p l e R s m args below meth c cells slots Z C hret H1 locs1 lsC (hH.put (Nat.lt_succ_of_lt h41) hP1 hD1 hS1) (hS.trans hS1) hL
theorem g_aaload {K : Nat} {M : Meth} {pc : Nat} {ls : List (Option AV)} {st : List AV} {σ : Mem} {Q : Option AV → Mem → Prop} {k n q : Nat} {i : Int} {rs : List Nat} (hd : decode (mC M) pc = .ok (.aaload, 1)) (hs : sh k = .inr (2, n, rs)) (hk : k < K) (h0 : 0 ≤ i) (h1 : i < n) (hn : n < 2 ^ 31) (hr : rs.getD i.toNat 0 = q) (kk : Go K M (pc + 1) ls (aR q :: st) σ Q) : Go K M pc ls (aI i :: aR k :: st) σ Q := by
  intro ad D cs A p l e R s m args below meth c cells slots Z C hret H locs lsC hH hS hL
  have he : (wd ad cs σ K)[k]? = some (ad k, .inl (cs.2.2, n, .inr (.inr (.inr (.inr (fun i => if i < n then some (ad (rs.getD i 0)) else none)))))) := by rw [wd_at hk, hs]; rfl
  have hc := clamp_i h0 h1 hn
  have hlt : (Int32.ofInt i).toNatClampNeg < n := by omega
  have hin := vp_in_i h0 h1 hn
  have e1 : i.toNat = (Int32.ofInt i).toNatClampNeg := by omega
  refine W.aald (v := .ref (ad q)) (ty := .array .int) C.1 C.2.1 (hH.2.1 k _ he) ((hH.1.2 2 _ rfl).1 n (fun j => va_rf ((fun i => if i < n then some (ad (rs.getD i 0)) else none) j))) rfl (fun q => by cases q) (by show ¬ (Int32.ofInt i < 0 ∨ (arrV _ _ _).slots.size ≤ _); rw [arrV_size]; exact hin) (by show (arrV _ _ _).slots[_]? = _; rw [arrV_read _ _ hlt]; simp only [hlt, if_true, va_rf]; rw [← hr, e1]) rfl rfl hd ?_
  exact kk ad D cs A p l e R s m args below meth c cells slots Z C hret H locs lsC hH hS hL
theorem g_roload {K : Nat} {M : Meth} {pc : Nat} {ls : List (Option AV)} {st : List AV} {σ : Mem} {Q : Option AV → Mem → Prop} {k : Nat} {i : Int} (hd : decode (mC M) pc = .ok (.iaload, 1)) (hk : 100 ≤ k) (hk2 : k < 105) (h0 : 0 ≤ i) (h1 : i < σ (k + 100) 0) (kk : Go K M (pc + 1) ls (aI (σ k i) :: st) σ Q) : Go K M pc ls (aI i :: aR k :: st) σ Q := by
  intro ad D cs A p l e R s m args below meth c cells slots Z C hret H locs lsC hH hS hL
  obtain ⟨L, a1, a2, a3, a4, a5⟩ := hH.2.2.2.1 k hk hk2
  rw [← a2] at h1
  refine va_sld C.1 C.2.1 a1 a4 a5 hS.here (vp_in_i h0 h1 a3) hd ?_
  rw [clamp_i h0 h1 a3]
  exact kk ad D cs A p l e R s m args below meth c cells slots Z C hret H locs lsC hH hS hL
theorem g_rolen {K : Nat} {M : Meth} {pc : Nat} {ls : List (Option AV)} {st : List AV} {σ : Mem} {Q : Option AV → Mem → Prop} {k : Nat} (hd : decode (mC M) pc = .ok (.arraylength, 1)) (hk : 100 ≤ k) (hk2 : k < 105) (kk : Go K M (pc + 1) ls (aI (σ (k + 100) 0) :: st) σ Q) : Go K M pc ls (aR k :: st) σ Q := by
  intro ad D cs A p l e R s m args below meth c cells slots Z C hret H locs lsC hH hS hL
  obtain ⟨L, a1, a2, a3, a4, a5⟩ := hH.2.2.2.1 k hk hk2
  refine va_slen C.1 C.2.1 a1 a4 a5 hS.here hd ?_
  have e1 : Int32.ofNat L = Int32.ofInt (σ (k + 100) 0) := by rw [← a2]; rfl
  rw [e1]
  exact kk ad D cs A p l e R s m args below meth c cells slots Z C hret H locs lsC hH hS hL
/-- a static array: which, by the pool of the class own -/
def SL (own : String) (idx t : Nat) : Prop := (own = RX5 ∧ idx = 46 ∧ t = 100) ∨ (own = RX5 ∧ idx = 49 ∧ t = 101) ∨ (own = RX1 ∧ idx = 63 ∧ t = 103) ∨ (t = 102 ∧ Cond.fieldLink own idx RX6 "ALSO" "[I" ∈ TW)
theorem g_getstatic {K : Nat} {M : Meth} {pc : Nat} {ls : List (Option AV)} {st : List AV} {σ : Mem} {Q : Option AV → Mem → Prop} {idx t : Nat} (hd : decode (mC M) pc = .ok (.getstatic idx, 3)) (hl : SL (mN M).cls idx t) (kk : Go K M (pc + 3) ls (aR t :: st) σ Q) : Go K M pc ls st σ Q := by
  intro ad D cs A p l e R s m args below meth c cells slots Z C hret H locs lsC hH hS hL
  have kk := kk ad D cs A p l e R s m args below meth c cells slots Z C hret H locs lsC hH hS hL
  obtain ⟨z1, z2, z3, z4⟩ := hH.2.2.2.2
  obtain ⟨n1, n2, n3, -⟩ := C.2.2.2.2.2.2
  have hown := C.2.2.2.1
  rcases hl with ⟨h1, h2, h3⟩ | ⟨h1, h2, h3⟩ | ⟨h1, h2, h3⟩ | ⟨h3, h4⟩
  · subst h2; subst h3
    rw [h1] at hown
    obtain ⟨cf, kf, fi, f, a, cell, q1, q2, q3, q4, q5, q6, q7, q8⟩ := z1
    exact va_WgetsN C.1 C.2.1 hown (n1.use rfl) q1 q2 q3 q4 q5 (fun e => by rw [e] at q6; cases q6) q7 rfl hd kk
  · subst h2; subst h3
    rw [h1] at hown
    obtain ⟨cf, kf, fi, f, a, cell, q1, q2, q3, q4, q5, q6, q7, q8⟩ := z2
    exact va_WgetsN C.1 C.2.1 hown (n2.use rfl) q1 q2 q3 q4 q5 (fun e => by rw [e] at q6; cases q6) q7 rfl hd kk
  · subst h2; subst h3
    rw [h1] at hown
    obtain ⟨cf, kf, fi, f, a, cell, q1, q2, q3, q4, q5, q6, q7, q8⟩ := z4
    exact va_WgetsN C.1 C.2.1 hown (n3.use rfl) q1 q2 q3 q4 q5 (fun e => by rw [e] at q6; cases q6) q7 rfl hd kk
  · subst h3
    obtain ⟨cf, kf, fi, f, a, cell, q1, q2, q3, q4, q5, q6, q7, q8⟩ := z3
    exact W.gets C.1 C.2.1 hown (C.2.2.2.2.1 _ h4) q1 q2 q3 q4 q5 (fun e => by rw [e] at q6; cases q6) q7 rfl hd kk
/-! calls -/
def MLc (M' : Meth) (n : Nat) : Prop := Cond.initialized (mN M').cls ∈ TW ∧ Cond.code (mN M') (mC M') (mX M') (mR M') ∈ TW ∧ ((mN M').cls ≠ "java/lang/invoke/MethodHandle" ∧ (mN M').cls ≠ "java/lang/invoke/VarHandle") ∧ (parseMethodDescriptor (mN M').desc).map (fun d => d.parameters.length) = some n ∧ mX M' ≤ 21
def MLV (own : String) (idx : Nat) (M' : Meth) (ci n : Nat) : Prop := MLc M' n ∧ (∃ q : vw_C, classes[ci]? = some q ∧ q.1 = (mN M').cls) ∧ Cond.methodLink own idx (mN M') ∈ TW ∧ Cond.instanceMethod (mN M') ∈ TW ∧ Cond.selects (mN M').cls (mN M') (mN M') ∈ TW
def MLS (own : String) (idx : Nat) (M' : Meth) (n : Nat) : Prop := MLc M' n ∧ Cond.static (mN M') ∈ TW ∧ (Cond.methodLink own idx (mN M') ∈ TW ∨ (own = RX5 ∧ idx = 42 ∧ mN M' = ⟨RX6, "lies", "(III)Z"⟩))
def stW (st : List AV) : Nat := (st.map fun v => match v with
  | .inr (.inr _) => 2
  | _ => 1).sum
theorem stW_eq (ad : Nat → Nat) : ∀ st : List AV, ((st.map (cv ad)).map fun v => v.category).sum = stW st
  | [] => rfl
  | .inl k :: st => by
    have := stW_eq ad st
    simp only [List.map_cons, List.sum_cons, stW, cv, Value.category] at this ⊢
    rw [this]
  | .inr (.inl k) :: st => by
    have := stW_eq ad st
    simp only [List.map_cons, List.sum_cons, stW, cv, Value.category] at this ⊢
    rw [this]
  | .inr (.inr k) :: st => by
    have := stW_eq ad st
    simp only [List.map_cons, List.sum_cons, stW, cv, Value.category] at this ⊢
    rw [this]
theorem g_after {K : Nat} {Q' : Option AV → Mem → Prop} {ad : Nat → Nat} {D : va_G} {cs : ClassId × ClassId × ClassId} {A : Nat → Prop} {p : Program} {l : Launch} {e : Env} {R : Room} {s : State} {m : MethodId} {args : Array Value} {below : List Frame} {meth : Method} {c : Code} {cells slots pc : Nat} {Z : State → Prop} {H : Heap} {locs : List Loc} {lsC : Array Slot} {st0 rest : List Value} {a : Array Value} {σ : Mem}
    (hr : va_Run p l e R s m args below meth c H locs cells slots 0 0 (F0 m pc lsC st0) rest (QcM ad D cs A K Q' a) A) (hH : HR ad D cs A K σ s H) (hS : va_S A s.heap H locs)
    (kk : ∀ (r : Option AV) (τ : Mem) (H1 : Heap) (locs1 : List Loc), Q' r τ → HR ad D cs A K τ s H1 → va_S A s.heap H1 locs1 → W p l e R s m args below meth c H1 locs1 cells slots Z (F0 m (pc + 3) lsC (r.toList.map (cv ad) ++ rest))) : W p l e R s m args below meth c H locs cells slots Z (F0 m pc lsC st0) := by
  intro T hT X
  obtain ⟨v, st₀, t, T', L, h0, X', hL, e1, e2, ⟨⟨r, τ, hq, hv, hb⟩, hz, hk⟩, st⟩ := hr T hT X
  have hvr : v = r.map (cv ad) := by simpa using hv
  subst hvr
  rw [h0] at hz hk
  have hvm : s.vm.Alike t.vm := by rw [← e2]; exact X'.warmed.alike
  have hH1 : HR ad D cs A K τ s T'.heap := by rw [e1]; exact HR.moved hvm.symm hb
  obtain ⟨t2, a1, b1⟩ := kk r τ T'.heap (locs ++ L) hq hH1
    ⟨Nat.le_trans hS.1 (by rw [e1]; exact hz), fun q h1 h2 => by rw [e1, hk q (Nat.lt_of_lt_of_le h1 hS.1) h2]; exact hS.2.1 q h1 h2, fun q hq => by
      rcases List.mem_append.mp hq with h | h
      · exact hS.2.2 q h
      · exact hL q h⟩ T' rfl X'
  refine ⟨t2, st t2 ?_, b1⟩
  have e3 : (r.map (cv ad)).toList = r.toList.map (cv ad) := by cases r <;> rfl
  rw [e3]
  exact a1
theorem g_callV {K : Nat} {M : Meth} {pc : Nat} {ls : List (Option AV)} {st : List AV} {σ : Mem} {Q : Option AV → Mem → Prop} {M' : Meth} {idx ci n k : Nat} {fk : List Nat} {as rest : List AV} {Q' : Option AV → Mem → Prop} (hd : decode (mC M) pc = .ok (.invokevirtual idx, 3)) (hl : MLV (mN M).cls idx M' ci n) (hs : sh k = .inl (ci, fk)) (hk : k < K) (hdp : mD M' < mD M) (hn : as.length = n) (hst : st = as.reverse ++ aR k :: rest) (hw : stW rest ≤ 8) (hR : Ret K M' (aR k :: as) σ Q') (kk : ∀ r τ, Q' r τ → Go K M (pc + 3) ls (r.toList ++ rest) τ Q) : Go K M pc ls st σ Q := by
  intro ad D cs A p l e R s m args below meth c cells slots Z C hret H locs lsC hH hS hL
  obtain ⟨⟨h1, h2, h3, h4, h5⟩, ⟨q, hq1, hq2⟩, h6, h7, h8⟩ := hl
  have he : (wd ad cs σ K)[k]? = some (ad k, .inr (ci, (List.range fk.length).map fun j => fv ad (σ k) j (fk.getD j 0))) := by rw [wd_at hk, hs]; rfl
  obtain ⟨r1, r2, r3, r4⟩ := C.2.2.2.2.2.1
  have hts := C.2.2.2.2.1
  refine g_after (Q' := Q') (va_runV (C := (mN M').cls) (As := as.map (cv ad)) (rest := rest.map (cv ad)) (b := ad k) (n := n) ⟨C.1, C.2.1, C.2.2.1, C.2.2.2.1, hts⟩ (hR l ad D cs A) ⟨callB_of n hts (wsM_good h2) rfl rfl rfl (hts _ h1) (hts _ h6) ⟨h3.1, h3.2, h4⟩ ⟨by show mD M' + 1 ≤ R.frames; omega, by show 8 + (mX M' + 11) + 40 * mD M' ≤ R.locals; omega⟩, hts _ h7, hts _ h8⟩ ⟨PcM_blind ad D cs A K _ σ, ?_, fun U hU hW => ⟨rfl, by rw [hU]; exact HR.moved hW.alike hH, C.2.2.2.2.2.2.warm hW⟩⟩ rfl (by simpa using hn) hL.1 (by rw [hst]; simp [cv]) (lv_room (by rw [stW_eq]; exact hw)) hd ⟨by omega, by omega⟩) hH hS (fun r τ H1 locs1 hq hH1 hS1 => ?_)
  · have hv := va_recv hH.1 hH.2.1 hq1 he
    rwa [hq2] at hv
  · have := kk r τ hq ad D cs A p l e R s m args below meth c cells slots Z C hret H1 locs1 lsC hH1 hS1 hL
    rwa [List.map_append] at this
theorem g_callS {K : Nat} {M : Meth} {pc : Nat} {ls : List (Option AV)} {st : List AV} {σ : Mem} {Q : Option AV → Mem → Prop} {M' : Meth} {idx n : Nat} {as rest : List AV} {Q' : Option AV → Mem → Prop} (hd : decode (mC M) pc = .ok (.invokestatic idx, 3)) (hl : MLS (mN M).cls idx M' n) (hdp : mD M' < mD M) (hn : as.length = n) (hst : st = as.reverse ++ rest) (hw : stW rest ≤ 8) (hR : Ret K M' as σ Q') (kk : ∀ r τ, Q' r τ → Go K M (pc + 3) ls (r.toList ++ rest) τ Q) : Go K M pc ls st σ Q := by
  intro ad D cs A p l e R s m args below meth c cells slots Z C hret H locs lsC hH hS hL
  obtain ⟨⟨h1, h2, h3, h4, h5⟩, h6, h7⟩ := hl
  obtain ⟨r1, r2, r3, r4⟩ := C.2.2.2.2.2.1
  have hts := C.2.2.2.2.1
  have hkk : ∀ (r : Option AV) (τ : Mem) (H1 : Heap) (locs1 : List Loc), Q' r τ → HR ad D cs A K τ s H1 → va_S A s.heap H1 locs1 → W p l e R s m args below meth c H1 locs1 cells slots Z (F0 m (pc + 3) lsC (r.toList.map (cv ad) ++ rest.map (cv ad))) := fun r τ H1 locs1 hq hH1 hS1 => by
    have := kk r τ hq ad D cs A p l e R s m args below meth c cells slots Z C hret H1 locs1 lsC hH1 hS1 hL
    rwa [List.map_append] at this
  rcases h7 with h7 | ⟨e1, e2, e3⟩
  · exact g_after (Q' := Q') (va_runS (As := as.map (cv ad)) (rest := rest.map (cv ad)) (n := n) ⟨C.1, C.2.1, C.2.2.1, C.2.2.2.1, hts⟩ (hR l ad D cs A) ⟨callB_of n hts (wsM_good h2) rfl rfl rfl (hts _ h1) (hts _ h7) ⟨h3.1, h3.2, h4⟩ ⟨by show mD M' + 1 ≤ R.frames; omega, by show 8 + (mX M' + 11) + 40 * mD M' ≤ R.locals; omega⟩, hts _ h6⟩ ⟨PcM_blind ad D cs A K _ σ, fun U hU hW => ⟨rfl, by rw [hU]; exact HR.moved hW.alike hH, C.2.2.2.2.2.2.warm hW⟩⟩ rfl (by simpa using hn) hL.1 (by rw [hst]; simp) (lv_room (by rw [stW_eq]; exact hw)) hd ⟨by omega, by omega⟩) hH hS hkk
  · have hown := C.2.2.2.1
    rw [e1] at hown
    subst e2
    exact g_after (Q' := Q') (va_runSN (host := RX6) (As := as.map (cv ad)) (rest := rest.map (cv ad)) (n := n) ⟨C.1, C.2.1, C.2.2.1, hown, hts⟩ (hR l ad D cs A) ⟨va_cnB n hts (wsM_good h2) rfl rfl rfl (by rw [e3]; exact C.2.2.2.2.2.2.2.2.2) (hts _ h1) ⟨h3.1, h3.2, h4⟩ ⟨by show mD M' + 1 ≤ R.frames; omega, by show 8 + (mX M' + 11) + 40 * mD M' ≤ R.locals; omega⟩, hts _ h6, trivial⟩ ⟨PcM_blind ad D cs A K _ σ, fun U hU hW => ⟨rfl, by rw [hU]; exact HR.moved hW.alike hH, C.2.2.2.2.2.2.warm hW⟩⟩ rfl (by simpa using hn) hL.1 (by rw [hst]; simp) (lv_room (by rw [stW_eq]; exact hw)) hd ⟨by omega, by omega⟩) hH hS hkk
theorem g_cV0 {K : Nat} {M : Meth} {pc : Nat} {ls : List (Option AV)} {st : List AV} {σ : Mem} {Q : Option AV → Mem → Prop} {M' : Meth} {idx ci k : Nat} {fk : List Nat} {Q' : Option AV → Mem → Prop} (hd : decode (mC M) pc = .ok (.invokevirtual idx, 3)) (hl : MLV (mN M).cls idx M' ci 0) (hs : sh k = .inl (ci, fk)) (hk : k < K) (hdp : mD M' < mD M) (hw : stW st ≤ 8) (hR : Ret K M' [aR k] σ Q') (kk : ∀ r τ, Q' r τ → Go K M (pc + 3) ls (r.toList ++ st) τ Q) : Go K M pc ls (aR k :: st) σ Q := g_callV hd hl hs hk hdp (as := []) rfl rfl hw hR kk
theorem g_pV0 {K : Nat} {M : Meth} {pc : Nat} {ls : List (Option AV)} {st : List AV} {σ : Mem} {Q : Option AV → Mem → Prop} {M' : Meth} {idx ci k : Nat} {fk : List Nat} {v : AV} (hd : decode (mC M) pc = .ok (.invokevirtual idx, 3)) (hl : MLV (mN M).cls idx M' ci 0) (hs : sh k = .inl (ci, fk)) (hk : k < K) (hdp : mD M' < mD M) (hw : stW st ≤ 8) (hR : RetV K M' [aR k] σ v) (kk : Go K M (pc + 3) ls (v :: st) σ Q) : Go K M pc ls (aR k :: st) σ Q := g_callV hd hl hs hk hdp (as := []) rfl rfl hw hR (fun r τ h => by obtain ⟨rfl, rfl⟩ := h; exact kk)
theorem g_cV1 {K : Nat} {M : Meth} {pc : Nat} {ls : List (Option AV)} {st : List AV} {σ : Mem} {Q : Option AV → Mem → Prop} {a : AV} {M' : Meth} {idx ci k : Nat} {fk : List Nat} {Q' : Option AV → Mem → Prop} (hd : decode (mC M) pc = .ok (.invokevirtual idx, 3)) (hl : MLV (mN M).cls idx M' ci 1) (hs : sh k = .inl (ci, fk)) (hk : k < K) (hdp : mD M' < mD M) (hw : stW st ≤ 8) (hR : Ret K M' [aR k, a] σ Q') (kk : ∀ r τ, Q' r τ → Go K M (pc + 3) ls (r.toList ++ st) τ Q) : Go K M pc ls (a :: aR k :: st) σ Q := g_callV hd hl hs hk hdp (as := [a]) rfl rfl hw hR kk
theorem g_pV1 {K : Nat} {M : Meth} {pc : Nat} {ls : List (Option AV)} {st : List AV} {σ : Mem} {Q : Option AV → Mem → Prop} {a : AV} {M' : Meth} {idx ci k : Nat} {fk : List Nat} {v : AV} (hd : decode (mC M) pc = .ok (.invokevirtual idx, 3)) (hl : MLV (mN M).cls idx M' ci 1) (hs : sh k = .inl (ci, fk)) (hk : k < K) (hdp : mD M' < mD M) (hw : stW st ≤ 8) (hR : RetV K M' [aR k, a] σ v) (kk : Go K M (pc + 3) ls (v :: st) σ Q) : Go K M pc ls (a :: aR k :: st) σ Q := g_callV hd hl hs hk hdp (as := [a]) rfl rfl hw hR (fun r τ h => by obtain ⟨rfl, rfl⟩ := h; exact kk)
theorem g_cV2 {K : Nat} {M : Meth} {pc : Nat} {ls : List (Option AV)} {st : List AV} {σ : Mem} {Q : Option AV → Mem → Prop} {a b : AV} {M' : Meth} {idx ci k : Nat} {fk : List Nat} {Q' : Option AV → Mem → Prop} (hd : decode (mC M) pc = .ok (.invokevirtual idx, 3)) (hl : MLV (mN M).cls idx M' ci 2) (hs : sh k = .inl (ci, fk)) (hk : k < K) (hdp : mD M' < mD M) (hw : stW st ≤ 8) (hR : Ret K M' [aR k, a, b] σ Q') (kk : ∀ r τ, Q' r τ → Go K M (pc + 3) ls (r.toList ++ st) τ Q) : Go K M pc ls (b :: a :: aR k :: st) σ Q := g_callV hd hl hs hk hdp (as := [a, b]) rfl rfl hw hR kk
theorem g_pV2 {K : Nat} {M : Meth} {pc : Nat} {ls : List (Option AV)} {st : List AV} {σ : Mem} {Q : Option AV → Mem → Prop} {a b : AV} {M' : Meth} {idx ci k : Nat} {fk : List Nat} {v : AV} (hd : decode (mC M) pc = .ok (.invokevirtual idx, 3)) (hl : MLV (mN M).cls idx M' ci 2) (hs : sh k = .inl (ci, fk)) (hk : k < K) (hdp : mD M' < mD M) (hw : stW st ≤ 8) (hR : RetV K M' [aR k, a, b] σ v) (kk : Go K M (pc + 3) ls (v :: st) σ Q) : Go K M pc ls (b :: a :: aR k :: st) σ Q := g_callV hd hl hs hk hdp (as := [a, b]) rfl rfl hw hR (fun r τ h => by obtain ⟨rfl, rfl⟩ := h; exact kk)
theorem g_cV3 {K : Nat} {M : Meth} {pc : Nat} {ls : List (Option AV)} {st : List AV} {σ : Mem} {Q : Option AV → Mem → Prop} {a b c : AV} {M' : Meth} {idx ci k : Nat} {fk : List Nat} {Q' : Option AV → Mem → Prop} (hd : decode (mC M) pc = .ok (.invokevirtual idx, 3)) (hl : MLV (mN M).cls idx M' ci 3) (hs : sh k = .inl (ci, fk)) (hk : k < K) (hdp : mD M' < mD M) (hw : stW st ≤ 8) (hR : Ret K M' [aR k, a, b, c] σ Q') (kk : ∀ r τ, Q' r τ → Go K M (pc + 3) ls (r.toList ++ st) τ Q) : Go K M pc ls (c :: b :: a :: aR k :: st) σ Q := g_callV hd hl hs hk hdp (as := [a, b, c]) rfl rfl hw hR kk
theorem g_pV3 {K : Nat} {M : Meth} {pc : Nat} {ls : List (Option AV)} {st : List AV} {σ : Mem} {Q : Option AV → Mem → Prop} {a b c : AV} {M' : Meth} {idx ci k : Nat} {fk : List Nat} {v : AV} (hd : decode (mC M) pc = .ok (.invokevirtual idx, 3)) (hl : MLV (mN M).cls idx M' ci 3) (hs : sh k = .inl (ci, fk)) (hk : k < K) (hdp : mD M' < mD M) (hw : stW st ≤ 8) (hR : RetV K M' [aR k, a, b, c] σ v) (kk : Go K M (pc + 3) ls (v :: st) σ Q) : Go K M pc ls (c :: b :: a :: aR k :: st) σ Q := g_callV hd hl hs hk hdp (as := [a, b, c]) rfl rfl hw hR (fun r τ h => by obtain ⟨rfl, rfl⟩ := h; exact kk)
theorem g_cV4 {K : Nat} {M : Meth} {pc : Nat} {ls : List (Option AV)} {st : List AV} {σ : Mem} {Q : Option AV → Mem → Prop} {a b c d : AV} {M' : Meth} {idx ci k : Nat} {fk : List Nat} {Q' : Option AV → Mem → Prop} (hd : decode (mC M) pc = .ok (.invokevirtual idx, 3)) (hl : MLV (mN M).cls idx M' ci 4) (hs : sh k = .inl (ci, fk)) (hk : k < K) (hdp : mD M' < mD M) (hw : stW st ≤ 8) (hR : Ret K M' [aR k, a, b, c, d] σ Q') (kk : ∀ r τ, Q' r τ → Go K M (pc + 3) ls (r.toList ++ st) τ Q) : Go K M pc ls (d :: c :: b :: a :: aR k :: st) σ Q := g_callV hd hl hs hk hdp (as := [a, b, c, d]) rfl rfl hw hR kk
theorem g_pV4 {K : Nat} {M : Meth} {pc : Nat} {ls : List (Option AV)} {st : List AV} {σ : Mem} {Q : Option AV → Mem → Prop} {a b c d : AV} {M' : Meth} {idx ci k : Nat} {fk : List Nat} {v : AV} (hd : decode (mC M) pc = .ok (.invokevirtual idx, 3)) (hl : MLV (mN M).cls idx M' ci 4) (hs : sh k = .inl (ci, fk)) (hk : k < K) (hdp : mD M' < mD M) (hw : stW st ≤ 8) (hR : RetV K M' [aR k, a, b, c, d] σ v) (kk : Go K M (pc + 3) ls (v :: st) σ Q) : Go K M pc ls (d :: c :: b :: a :: aR k :: st) σ Q := g_callV hd hl hs hk hdp (as := [a, b, c, d]) rfl rfl hw hR (fun r τ h => by obtain ⟨rfl, rfl⟩ := h; exact kk)
theorem g_pS1 {K : Nat} {M : Meth} {pc : Nat} {ls : List (Option AV)} {st : List AV} {σ : Mem} {Q : Option AV → Mem → Prop} {a : AV} {M' : Meth} {idx : Nat} {v : AV} (hd : decode (mC M) pc = .ok (.invokestatic idx, 3)) (hl : MLS (mN M).cls idx M' 1) (hdp : mD M' < mD M) (hw : stW st ≤ 8) (hR : RetV K M' [a] σ v) (kk : Go K M (pc + 3) ls (v :: st) σ Q) : Go K M pc ls (a :: st) σ Q := g_callS hd hl hdp (as := [a]) rfl rfl hw hR (fun r τ h => by obtain ⟨rfl, rfl⟩ := h; exact kk)
theorem g_pS2 {K : Nat} {M : Meth} {pc : Nat} {ls : List (Option AV)} {st : List AV} {σ : Mem} {Q : Option AV → Mem → Prop} {a b : AV} {M' : Meth} {idx : Nat} {v : AV} (hd : decode (mC M) pc = .ok (.invokestatic idx, 3)) (hl : MLS (mN M).cls idx M' 2) (hdp : mD M' < mD M) (hw : stW st ≤ 8) (hR : RetV K M' [a, b] σ v) (kk : Go K M (pc + 3) ls (v :: st) σ Q) : Go K M pc ls (b :: a :: st) σ Q := g_callS hd hl hdp (as := [a, b]) rfl rfl hw hR (fun r τ h => by obtain ⟨rfl, rfl⟩ := h; exact kk)
theorem g_pS3 {K : Nat} {M : Meth} {pc : Nat} {ls : List (Option AV)} {st : List AV} {σ : Mem} {Q : Option AV → Mem → Prop} {a b c : AV} {M' : Meth} {idx : Nat} {v : AV} (hd : decode (mC M) pc = .ok (.invokestatic idx, 3)) (hl : MLS (mN M).cls idx M' 3) (hdp : mD M' < mD M) (hw : stW st ≤ 8) (hR : RetV K M' [a, b, c] σ v) (kk : Go K M (pc + 3) ls (v :: st) σ Q) : Go K M pc ls (c :: b :: a :: st) σ Q := g_callS hd hl hdp (as := [a, b, c]) rfl rfl hw hR (fun r τ h => by obtain ⟨rfl, rfl⟩ := h; exact kk)
theorem g_iret {K : Nat} {M : Meth} {pc : Nat} {ls : List (Option AV)} {σ : Mem} {Q : Option AV → Mem → Prop} {x : Int} (hd : decode (mC M) pc = .ok (.ireturn, 1)) (hr : rOK (mR M) (some (aI x))) (hq : Q (some (aI x)) σ) : Go K M pc ls [aI x] σ Q := by
  intro ad D cs A p l e R s m args below meth c cells slots Z C hret H locs lsC hH hS hL
  exact hret _ _ H locs lsC pc hq hr hd hH hS
theorem g_lret {K : Nat} {M : Meth} {pc : Nat} {ls : List (Option AV)} {σ : Mem} {Q : Option AV → Mem → Prop} {x : Int} (hd : decode (mC M) pc = .ok (.lreturn, 1)) (hr : rOK (mR M) (some (aL x))) (hq : Q (some (aL x)) σ) : Go K M pc ls [aL x] σ Q := by
  intro ad D cs A p l e R s m args below meth c cells slots Z C hret H locs lsC hH hS hL
  exact hret _ _ H locs lsC pc hq hr hd hH hS
theorem g_vret {K : Nat} {M : Meth} {pc : Nat} {ls : List (Option AV)} {σ : Mem} {Q : Option AV → Mem → Prop} (hd : decode (mC M) pc = .ok (.return_, 1)) (hr : rOK (mR M) none) (hq : Q none σ) : Go K M pc ls [] σ Q := by
  intro ad D cs A p l e R s m args below meth c cells slots Z C hret H locs lsC hH hS hL
  exact hret _ _ H locs lsC pc hq hr hd hH hS
