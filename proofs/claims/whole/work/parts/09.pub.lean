/-! the calls: what is answered, and V behind it -/
def cBad : Int := -1000000001
def cNo : Int := -1000000002
def cFull : Int := -1000000003
def cNothing : Int := -1000000011
def cIndex : Int := -1000000013
abbrev isH (V : Mem) (k : Int) : Prop := 0 ≤ k ∧ k < V 0 0
abbrev isK (k : Int) : Prop := (0 ≤ k ∧ k ≤ 3) ∨ k = 5
def crsB (V : Mem) (s t : Int) : Bool := decide (leanK (V 1 s) ≠ 0 ∧ leanK (V 1 s) = leanK (V 1 t) ∧ ((t * 64 / V 0 0 - s * 64 / V 0 0) % 64 + hubV V t - hubV V s < 0 ∨ 64 < (t * 64 / V 0 0 - s * 64 / V 0 0) % 64 + hubV V t - hubV V s))
def p_wheel (V : Mem) (n : Int) : Int × Mem := if n = 8 ∨ n = 16 ∨ n = 32 then (n, whlV V n) else (cBad, V)
def p_kind (V : Mem) (s k : Int) : Int × Mem := if ¬ (isH V s ∧ isK k) then (cBad, V) else if V 1 s = 4 then (cNo, V) else (V 1 s, up V 1 s k)
def p_table (V : Mem) (t n : Int) : Int × Mem := if ¬ ((0 ≤ t ∧ t ≤ 5) ∧ (-1 ≤ n ∧ n ≤ 17)) then (cBad, V) else ((if n < 0 then 0 else n), tblV V t.toNat n)
def p_enter (V : Mem) (t p v : Int) : Int × Mem := if ¬ ((0 ≤ t ∧ t ≤ 5) ∧ (-1000 ≤ v ∧ v ≤ 1000)) then (cBad, V) else if V 7 t < 0 then (cNothing, V) else if ¬ (0 ≤ p ∧ p < V 7 t) then (cIndex, V) else (V (8 + t.toNat) p, up V (8 + t.toNat) p v)
def p_copy (V : Mem) (f t n : Int) : Int × Mem := if ¬ ((0 ≤ f ∧ f ≤ 5) ∧ (0 ≤ t ∧ t ≤ 5)) then (cBad, V) else if V 7 f < 0 ∨ V 7 t < 0 then (cNothing, V) else if ¬ (0 ≤ n ∧ n ≤ V 7 f ∧ n ≤ V 7 t) then (cIndex, V) else (n, cpyV V f.toNat t.toNat n)
def p_read (V : Mem) (r p v : Int) : Int × Mem := if ¬ ((0 ≤ r ∧ r ≤ 1) ∧ isH V p ∧ (-10000 ≤ v ∧ v ≤ 9999)) then (cBad, V) else (V (5 + r.toNat) p, up V (5 + r.toNat) p v)
def p_limit (V : Mem) (i v : Int) : Int × Mem := if ¬ ((0 ≤ i ∧ i ≤ 4) ∧ (1 ≤ v ∧ v ≤ 1000000)) then (cBad, V) else (V 14 i, up V 14 i v)
def p_tune (V : Mem) (s v : Int) : Int × Mem := if ¬ (isH V s ∧ (-100000 ≤ v ∧ v ≤ 100000)) then (cBad, V) else if V 1 s = 4 then (cNo, V) else (V 2 s, up V 2 s v)
def p_about (V : Mem) (s w : Int) : Int × Mem := if ¬ (isH V s ∧ (0 ≤ w ∧ w ≤ 3)) then (cBad, V) else ((if w = 0 then V 1 s else if w = 1 then leanK (V 1 s) else if w = 2 then forceK (V 1 s) else V 2 s), V)
def p_isOf (V : Mem) (s k : Int) : Int × Mem := if ¬ (isH V s ∧ (0 ≤ k ∧ k ≤ 5)) then (cBad, V) else (b2i (k = 0 ∨ V 1 s = k ∨ (k = 2 ∧ V 1 s = 3) ∨ (k = 1 ∧ V 1 s = 5)), V)
def p_tells (V : Mem) (t d : Int) : Int × Mem := if ¬ ((0 ≤ t ∧ t ≤ 5) ∧ (0 ≤ d ∧ d ≤ 16)) then (cBad, V) else (V (8 + t.toNat) d, V)
def p_unbent (V : Mem) (r p : Int) : Int × Mem := if ¬ ((0 ≤ r ∧ r ≤ 1) ∧ isH V p) then (cBad, V) else (unb V r.toNat p, V)
def p_reading (V : Mem) (r p : Int) : Int × Mem := if ¬ ((0 ≤ r ∧ r ≤ 1) ∧ isH V p) then (cBad, V) else (rdg V r.toNat p, V)
def p_state (V : Mem) (w : Int) : Int × Mem := ((if w = 0 then midV V else if w = 1 then sprV V 1 else if w = 2 then sprV V (-1) else if w = 3 then wstV V else if w = 4 then cntN (fun j => decide (V 2 j < 0)) (V 0 0).toNat else if w = 5 then b2i (fltV V = cNone) else cBad), V)
def p_why (V : Mem) : Int × Mem := (fltV V, V)
def p_turn (V : Mem) (s n : Int) : Int × Mem := if ¬ (isH V s ∧ (-100 ≤ n ∧ n ≤ 100) ∧ n ≠ 0) then (cBad, V) else if okV V s n = false then (cNo, V) else if V 17 0 = 60 then (cFull, V) else (mkV V s n 2 s, addV (mkV V s n) s n)
def p_next (V : Mem) : Int × Mem := (nqV V, V)
def p_plan (V : Mem) (n : Int) : Int × Mem := if ¬ (1 ≤ n ∧ n ≤ 60) then (cBad, V) else planV n.toNat V
def p_fewest (V : Mem) (w : Int) : Int × Mem := if ¬ (0 ≤ w ∧ w ≤ 4) then (cBad, V) else (fewV V w, V)
def p_log (V : Mem) (i w : Int) : Int × Mem := if i < 0 ∨ ¬ (0 ≤ w ∧ w ≤ 1) then (cBad, V) else if i < V 17 0 then ((if w = 0 then V 15 i else V 16 i), V) else (cNone, V)
def p_undo (V : Mem) : Int × Mem := if V 17 0 = 0 then (cNo, V) else (V 17 0 - 1, up (mkV V (V 15 (V 17 0 - 1)) (-V 16 (V 17 0 - 1))) 17 0 (V 17 0 - 1))
def p_snap (V : Mem) (s : Int) : Int × Mem := if ¬ isH V s then (cBad, V) else if V 1 s = 4 ∨ 0 ≤ brkBad V s then (cNo, V) else (V 2 s, brkV V s)
def p_anew (V : Mem) (s k v : Int) : Int × Mem := if ¬ (isH V s ∧ isK k ∧ (0 ≤ v ∧ v ≤ 100000)) then (cBad, V) else if V 1 s ≠ 4 then (cNo, V) else (0, up (up V 1 s k) 2 s v)
def p_loaded (V : Mem) (w p s : Int) : Int × Mem := if ¬ ((0 ≤ w ∧ w ≤ 100000) ∧ isH V p ∧ isH V s) then (cBad, V) else if V 1 s = 4 then (0, V) else (ldP V w p s, V)
def p_worstAt (V : Mem) (w : Int) : Int × Mem := if ¬ (0 ≤ w ∧ w ≤ 100000) then (cBad, V) else ((wrS V w (V 0 0).toNat).2, V)
def p_lace (V : Mem) (r o R c : Int) : Int × Mem := if ¬ ((1 ≤ r ∧ r ≤ 200) ∧ (0 ≤ o ∧ o ≤ 200) ∧ (1 ≤ R ∧ R ≤ 1000) ∧ (0 ≤ c ∧ c ≤ 7)) then (cBad, V) else (0, up (up (up (up V 18 0 r) 18 1 o) 18 2 R) 18 3 c)
def p_length (V : Mem) (s : Int) : Int × Mem := if ¬ isH V s then (cBad, V) else (rootV (sqV V s), V)
def p_hub (V : Mem) (s : Int) : Int × Mem := if ¬ isH V s then (cBad, V) else ((s * 64 / V 0 0 + hubV V s) % 64, V)
def p_crosses (V : Mem) (s t : Int) : Int × Mem := if ¬ (isH V s ∧ isH V t ∧ s ≠ t) then (cBad, V) else (b2i (crsB V s t = true), V)
def p_crossings (V : Mem) (s : Int) : Int × Mem := if ¬ isH V s then (cBad, V) else (cntN (fun t => decide (t ≠ s) && crsB V s t) (V 0 0).toNat, V)
def p_count (V : Mem) (w : Int) : Int × Mem := ((if w = 0 then V 0 0 else if w = 1 then cntN (fun j => decide (V 1 j ≠ 4)) (V 0 0).toNat else if w = 2 then V 17 0 else if w = 3 then sumN (fun i => ab (V 16 i)) (V 17 0).toNat else if w = 4 then cntN (fun p => decide (V 5 p ≠ -10000)) (V 0 0).toNat else if w = 5 then cntN (fun p => decide (V 6 p ≠ -10000)) (V 0 0).toNat else cBad), V)
/-- a contract of a call of the reference, of the class -/
abbrev OM (σ : Mem) (p : Int × Mem) : Option AV → Mem → Prop := fun r τ => r = some (aI p.1) ∧ RM p.2 τ ∧ keepM σ τ
abbrev OX (σ : Mem) (p : Int × Mem) : Option AV → Mem → Prop := fun r τ => r = some (aI p.1) ∧ RX p.2 τ ∧ keepX σ τ
theorem OM.of {σ τ : Mem} {p q : Int × Mem} {x : Int} (e : p = q) (hx : x = q.1) (h : RM q.2 τ) (k : keepM σ τ) : OM σ p (some (aI x)) τ := by subst e; subst hx; exact ⟨rfl, h, k⟩
theorem OX.of {σ τ : Mem} {p q : Int × Mem} {x : Int} (e : p = q) (hx : x = q.1) (h : RX q.2 τ) (k : keepX σ τ) : OX σ p (some (aI x)) τ := by subst e; subst hx; exact ⟨rfl, h, k⟩
/-! V changed at one place: what the cells hold then -/
theorem RM.kind' {V σ : Mem} {s k : Int} (h : RM V σ)  : RM (up V 1 s k) (up σ 31 s k) := by
  unfold RM at h ⊢
  obtain ⟨h1, h2, h3, h4, h5, h6, h7, h8, h9, h10⟩ := h
  refine ⟨by simpa (disch := omega) only [up_cell, unb] using h1,
    ?_,
    fun r hr j a b => by simpa (disch := omega) only [up_cell, unb] using h3 r hr j a (by simpa (disch := omega) only [up_cell] using b),
    fun t ht => by simpa (disch := omega) only [up_cell, unb] using h4 t ht,
    fun t ht d a b => by simpa (disch := omega) only [up_cell, unb] using h5 t ht d a b,
    fun i a b => by simpa (disch := omega) only [up_cell, unb] using h6 i a b,
    by simpa (disch := omega) only [up_cell, unb] using h7,
    fun i a b => by simpa (disch := omega) only [up_cell, unb] using h8 i a (by simpa (disch := omega) only [up_cell] using b),
    by simpa (disch := omega) only [up_cell, unb] using h9,
    h10.imp (fun e => by simpa (disch := omega) only [up_cell, unb] using e) (fun e => ⟨by simpa (disch := omega) only [up_cell, unb] using e.1, fun r hr p a b => by simpa (disch := omega) only [up_cell, unb] using e.2 r hr p a (by simpa (disch := omega) only [up_cell] using b)⟩)⟩
  · refine fun j a b => ⟨?_, by simpa (disch := omega) only [up_cell] using (h2 j a (by simpa (disch := omega) only [up_cell] using b)).2⟩
    by_cases hj : j = s
    · subst hj; rw [up_same, up_same]
    · rw [up_ne (Or.inr hj), up_ne (Or.inr hj)]; exact (h2 j a (by simpa (disch := omega) only [up_cell] using b)).1
theorem RM.pull' {V σ : Mem} {s k : Int} (h : RM V σ)  : RM (up V 2 s k) (up σ 32 s k) := by
  unfold RM at h ⊢
  obtain ⟨h1, h2, h3, h4, h5, h6, h7, h8, h9, h10⟩ := h
  refine ⟨by simpa (disch := omega) only [up_cell, unb] using h1,
    ?_,
    fun r hr j a b => by simpa (disch := omega) only [up_cell, unb] using h3 r hr j a (by simpa (disch := omega) only [up_cell] using b),
    fun t ht => by simpa (disch := omega) only [up_cell, unb] using h4 t ht,
    fun t ht d a b => by simpa (disch := omega) only [up_cell, unb] using h5 t ht d a b,
    fun i a b => by simpa (disch := omega) only [up_cell, unb] using h6 i a b,
    by simpa (disch := omega) only [up_cell, unb] using h7,
    fun i a b => by simpa (disch := omega) only [up_cell, unb] using h8 i a (by simpa (disch := omega) only [up_cell] using b),
    by simpa (disch := omega) only [up_cell, unb] using h9,
    h10.imp (fun e => by simpa (disch := omega) only [up_cell, unb] using e) (fun e => ⟨by simpa (disch := omega) only [up_cell, unb] using e.1, fun r hr p a b => by simpa (disch := omega) only [up_cell, unb] using e.2 r hr p a (by simpa (disch := omega) only [up_cell] using b)⟩)⟩
  · refine fun j a b => ⟨by simpa (disch := omega) only [up_cell] using (h2 j a (by simpa (disch := omega) only [up_cell] using b)).1, ?_⟩
    by_cases hj : j = s
    · subst hj; rw [up_same, up_same]
    · rw [up_ne (Or.inr hj), up_ne (Or.inr hj)]; exact (h2 j a (by simpa (disch := omega) only [up_cell] using b)).2
theorem RM.lim' {V σ : Mem} {s k : Int} (h : RM V σ)  : RM (up V 14 s k) (up σ 37 s k) := by
  unfold RM at h ⊢
  obtain ⟨h1, h2, h3, h4, h5, h6, h7, h8, h9, h10⟩ := h
  refine ⟨by simpa (disch := omega) only [up_cell, unb] using h1,
    fun j a b => by simpa (disch := omega) only [up_cell, unb] using h2 j a (by simpa (disch := omega) only [up_cell] using b),
    fun r hr j a b => by simpa (disch := omega) only [up_cell, unb] using h3 r hr j a (by simpa (disch := omega) only [up_cell] using b),
    fun t ht => by simpa (disch := omega) only [up_cell, unb] using h4 t ht,
    fun t ht d a b => by simpa (disch := omega) only [up_cell, unb] using h5 t ht d a b,
    ?_,
    by simpa (disch := omega) only [up_cell, unb] using h7,
    fun i a b => by simpa (disch := omega) only [up_cell, unb] using h8 i a (by simpa (disch := omega) only [up_cell] using b),
    by simpa (disch := omega) only [up_cell, unb] using h9,
    h10.imp (fun e => by simpa (disch := omega) only [up_cell, unb] using e) (fun e => ⟨by simpa (disch := omega) only [up_cell, unb] using e.1, fun r hr p a b => by simpa (disch := omega) only [up_cell, unb] using e.2 r hr p a (by simpa (disch := omega) only [up_cell] using b)⟩)⟩
  · intro j a b
    by_cases hj : j = s
    · subst hj; rw [up_same, up_same]
    · rw [up_ne (Or.inr hj), up_ne (Or.inr hj)]; exact h6 j a b
theorem RM.tab' {V σ : Mem} {t : Nat} {p k : Int} (h : RM V σ) (ht : t < 6) (hp : 0 ≤ p) (hp2 : p < 17) : RM (up V (8 + t) p k) (up σ 36 (17 * t + p) k) := by
  unfold RM at h ⊢
  obtain ⟨h1, h2, h3, h4, h5, h6, h7, h8, h9, h10⟩ := h
  refine ⟨by simpa (disch := omega) only [up_cell, unb] using h1,
    fun j a b => by simpa (disch := omega) only [up_cell, unb] using h2 j a (by simpa (disch := omega) only [up_cell] using b),
    fun r hr j a b => by simpa (disch := omega) only [up_cell, unb] using h3 r hr j a (by simpa (disch := omega) only [up_cell] using b),
    fun t ht => by simpa (disch := omega) only [up_cell, unb] using h4 t ht,
    ?_,
    fun i a b => by simpa (disch := omega) only [up_cell, unb] using h6 i a b,
    by simpa (disch := omega) only [up_cell, unb] using h7,
    fun i a b => by simpa (disch := omega) only [up_cell, unb] using h8 i a (by simpa (disch := omega) only [up_cell] using b),
    by simpa (disch := omega) only [up_cell, unb] using h9,
    h10.imp (fun e => by simpa (disch := omega) only [up_cell, unb] using e) (fun e => ⟨by simpa (disch := omega) only [up_cell, unb] using e.1, fun r hr p a b => by simpa (disch := omega) only [up_cell, unb] using e.2 r hr p a (by simpa (disch := omega) only [up_cell] using b)⟩)⟩
  · intro u hu d a b
    by_cases hj : u = t ∧ d = p
    · obtain ⟨rfl, rfl⟩ := hj; rw [up_same, up_same]
    · rw [up_ne (Or.inr (by omega)), up_ne (by omega)]; exact h5 u hu d a b
theorem RM.lac' {V σ : Mem} {r o R c : Int} (h : RM V σ)  : RM (up (up (up (up V 18 0 r) 18 1 o) 18 2 R) 18 3 c) (up (up (up (up σ 30 10 r) 30 11 o) 30 12 R) 30 13 c) := by
  unfold RM at h ⊢
  obtain ⟨h1, h2, h3, h4, h5, h6, h7, h8, h9, h10⟩ := h
  refine ⟨?_,
    fun j a b => by simpa (disch := omega) only [up_cell, unb] using h2 j a (by simpa (disch := omega) only [up_cell] using b),
    fun r hr j a b => by simpa (disch := omega) only [up_cell, unb] using h3 r hr j a (by simpa (disch := omega) only [up_cell] using b),
    fun t ht => by simpa (disch := omega) only [up_cell, unb] using h4 t ht,
    fun t ht d a b => by simpa (disch := omega) only [up_cell, unb] using h5 t ht d a b,
    fun i a b => by simpa (disch := omega) only [up_cell, unb] using h6 i a b,
    ?_,
    fun i a b => by simpa (disch := omega) only [up_cell, unb] using h8 i a (by simpa (disch := omega) only [up_cell] using b),
    ?_,
    ?_⟩
  · simpa [up] using h1
  · simpa [up] using h7
  · refine ⟨?_, ?_, ?_, ?_⟩ <;> simp [up]
  · refine h10.imp (fun e => by simpa [up] using e) (fun e => ⟨by simpa [up] using e.1, fun r hr p a b => by simpa (disch := omega) only [up_cell, unb] using e.2 r hr p a (by simpa (disch := omega) only [up_cell] using b)⟩)
theorem RM.read' {V σ : Mem} {r : Nat} {p k : Int} (h : RM V σ) (hN : V 0 0 ≤ 32) (hr : r < 2) (hp : 0 ≤ p) (hp2 : p < V 0 0) : RM (up V (5 + r) p k) (up (up σ 34 (32 * r + p) k) 30 15 0) := by
  unfold RM at h ⊢
  obtain ⟨h1, h2, h3, h4, h5, h6, h7, h8, h9, h10⟩ := h
  refine ⟨?_,
    fun j a b => by simpa (disch := omega) only [up_cell, unb] using h2 j a (by simpa (disch := omega) only [up_cell] using b),
    ?_,
    fun t ht => by simpa (disch := omega) only [up_cell, unb] using h4 t ht,
    fun t ht d a b => by simpa (disch := omega) only [up_cell, unb] using h5 t ht d a b,
    fun i a b => by simpa (disch := omega) only [up_cell, unb] using h6 i a b,
    ?_,
    fun i a b => by simpa (disch := omega) only [up_cell, unb] using h8 i a (by simpa (disch := omega) only [up_cell] using b),
    ?_,
    ?_⟩
  · rw [up_ne (Or.inr (by decide))]; simpa (disch := omega) only [up_cell] using h1
  · intro u hu j a b
    have b : j < V 0 0 := by simpa (disch := omega) only [up_cell] using b
    refine ⟨by simpa (disch := omega) only [up_cell] using (h3 u hu j a b).1, ?_⟩
    rw [up_cell (show 34 ≠ 30 by decide)]
    by_cases hj : u = r ∧ j = p
    · obtain ⟨rfl, rfl⟩ := hj; rw [up_same, up_same]
    · rw [up_ne (Or.inr (by omega)), up_ne (by omega)]; exact (h3 u hu j a b).2
  · rw [up_ne (Or.inr (by decide))]; simpa (disch := omega) only [up_cell] using h7
  · rw [up_cell (show 18 ≠ 5 + r by omega)]; simpa [up] using h9
  · left; rw [up_same]
