/-! A STATIC ROW OUT OF THE STATEMENT'S WORDS -/
theorem eq_int {args : Array Value} {s : State} {t : Term} {v : Int32} (h : (Cond.eq t (.int v)).before args s = true) : t.eval args s none [] s = some (.int v) := by
  simp only [Cond.before, Cond.holds, Cond.value, Term.eval] at h
  cases ht : t.eval args s none [] s with
  | none => simp [ht] at h
  | some x => cases x <;> simp_all
theorem stR {args : Array Value} {s : State} {t : Term} {N : Nat} {vs : Nat → Int32} (hN : N < 2 ^ 31) (h2 : (Cond.arrayOf t .int).before args s = true) (h3 : (Cond.eq (.length t) (.int (Int32.ofNat N))).before args s = true) (h4 : ∀ j, j < N → (Cond.eq (.elem t (.int (Int32.ofNat j))) (.int (vs j))).before args s = true) : ∃ a, t.eval args s none [] s = some (.ref a) ∧ va_X a N vs s s.heap ∧ a < s.heap.size := by
  have hv := eq_int h3
  obtain ⟨a, cell, ht, harr, he⟩ := Term.length_spec hv
  have hsz : cell.slots.size < 2 ^ 31 := by
    simp only [Term.eval, ht, harr, Option.bind_eq_bind, Option.bind_some] at hv
    by_cases hlt : cell.slots.size < 2147483648
    · exact hlt
    · simp [hlt] at hv
  obtain ⟨hcell, hkn, -, -⟩ := State.arrayAt?_spec harr
  have hof := (Cond.arrayOf_spec h2 ht hcell).1
  have hsize : cell.slots.size = N := by
    have h5 : Int32.ofNat N = Int32.ofNat cell.slots.size := by injection he
    have h6 := congrArg Int32.toInt h5
    rw [Int32.toInt_ofNat_small hN, Int32.toInt_ofNat_small hsz] at h6
    omega
  refine ⟨a, ht, ⟨cell, hcell, hof, hkn, hsize, fun j hj => ?_⟩, (Array.getElem?_eq_some_iff.mp hcell).1⟩
  obtain ⟨a', i, cell', ht', hi, harr', -, hel⟩ := Term.elem_spec (eq_int (h4 j hj))
  cases ht.symm.trans ht'
  cases harr.symm.trans harr'
  have hi' : Int32.ofNat j = i := by simpa [Term.eval] using hi
  subst hi'
  have hj2 : (Int32.ofNat j).toNatClampNeg = j := by
    show (Int32.ofNat j).toInt.toNat = j
    rw [Int32.toInt_ofNat_small (by omega)]; rfl
  rw [hj2] at hel
  exact hel
