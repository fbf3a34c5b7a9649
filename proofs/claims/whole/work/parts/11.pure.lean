/-! facts about the words of 07.spec -/
theorem firstI_cases (P : Int → Bool) : ∀ (n : Nat) (i : Int), 0 ≤ i → (firstI P n i = -1 ∧ ∀ k, i ≤ k → k < i + n → P k = false) ∨ (i ≤ firstI P n i ∧ firstI P n i < i + n ∧ P (firstI P n i) = true ∧ ∀ k, i ≤ k → k < firstI P n i → P k = false)
  | 0, i, h => Or.inl ⟨rfl, fun k h1 h2 => by omega⟩
  | n + 1, i, h => by
    unfold firstI
    by_cases hp : P i = true
    · rw [if_pos hp]
      exact Or.inr ⟨by omega, by omega, hp, fun k h1 h2 => by omega⟩
    · rw [if_neg hp]
      have hf : P i = false := by simpa using hp
      rcases firstI_cases P n (i + 1) (by omega) with ⟨h1, h2⟩ | ⟨h1, h2, h3, h4⟩
      · refine Or.inl ⟨h1, fun k a b => ?_⟩
        by_cases hk : k = i
        · rw [hk]; exact hf
        · exact h2 k (by omega) (by omega)
      · refine Or.inr ⟨by omega, by omega, h3, fun k a b => ?_⟩
        by_cases hk : k = i
        · rw [hk]; exact hf
        · exact h4 k (by omega) b
theorem firstI_eq {P : Int → Bool} {n : Nat} {i k : Int} (h0 : 0 ≤ i) (h1 : i ≤ k) (h2 : k < i + n) (hp : P k = true) (hf : ∀ q, i ≤ q → q < k → P q = false) : firstI P n i = k := by
  rcases firstI_cases P n i h0 with ⟨a, b⟩ | ⟨a, b, c, d⟩
  · rw [b k h1 h2] at hp; cases hp
  · rcases Int.lt_trichotomy (firstI P n i) k with h | h | h
    · rw [hf _ a h] at c; cases c
    · exact h
    · rw [d k h1 h] at hp; cases hp
theorem firstI_no {P : Int → Bool} {n : Nat} {i : Int} (h0 : 0 ≤ i) (hf : ∀ q, i ≤ q → q < i + n → P q = false) : firstI P n i = -1 := by
  rcases firstI_cases P n i h0 with ⟨a, b⟩ | ⟨a, b, c, d⟩
  · exact a
  · rw [hf _ a b] at c; cases c
theorem sumN_succ {f : Int → Int} {i : Int} (h : 0 ≤ i) : sumN f (i + 1).toNat = sumN f i.toNat + f i := by
  have e : (i + 1).toNat = i.toNat + 1 := by omega
  rw [e]
  show sumN f i.toNat + f (i.toNat : Int) = _
  rw [Int.toNat_of_nonneg h]
theorem cntN_succ {P : Int → Bool} {i : Int} (h : 0 ≤ i) : cntN P (i + 1).toNat = cntN P i.toNat + (if P i then 1 else 0) := by
  have e : (i + 1).toNat = i.toNat + 1 := by omega
  rw [e]
  show cntN P i.toNat + (if P (i.toNat : Int) then 1 else 0) = _
  rw [Int.toNat_of_nonneg h]
theorem mxN_succ {f : Int → Int} {i : Int} (h : 0 ≤ i) : mxN f (i + 1).toNat = max (mxN f i.toNat) (f i) := by
  have e : (i + 1).toNat = i.toNat + 1 := by omega
  rw [e]
  show max (mxN f i.toNat) (f (i.toNat : Int)) = _
  rw [Int.toNat_of_nonneg h]
theorem cntN_b (P : Int → Bool) : ∀ n : Nat, 0 ≤ cntN P n ∧ cntN P n ≤ n
  | 0 => by simp [cntN]
  | n + 1 => by
    have := cntN_b P n
    unfold cntN
    split <;> omega
theorem sumN_b {f : Int → Int} {B : Int} (hB : 0 ≤ B) : ∀ n : Nat, (∀ k, 0 ≤ k → k < n → -B ≤ f k ∧ f k ≤ B) → -(B * n) ≤ sumN f n ∧ sumN f n ≤ B * n
  | 0, _ => by simp [sumN]
  | n + 1, h => by
    have h1 := sumN_b hB n (fun k a b => h k a (by omega))
    have h2 := h n (by omega) (by omega)
    have e : B * ((n + 1 : Nat) : Int) = B * n + B := by
      rw [Int.natCast_succ, Int.mul_add, Int.mul_one]
    rw [e]
    unfold sumN
    omega
theorem mxN_b {f : Int → Int} {B : Int} (hB : 0 ≤ B) : ∀ n : Nat, (∀ k, 0 ≤ k → k < n → f k ≤ B) → 0 ≤ mxN f n ∧ mxN f n ≤ B
  | 0, _ => by simp [mxN]; exact hB
  | n + 1, h => by
    have h1 := mxN_b hB n (fun k a b => h k a (by omega))
    have h2 := h n (by omega) (by omega)
    unfold mxN
    omega
theorem mulb {a k A B : Int} (h1 : -A ≤ a) (h2 : a ≤ A) (h3 : -B ≤ k) (h4 : k ≤ B) (hA : 0 ≤ A) (hB : 0 ≤ B) : -(A * B) ≤ a * k ∧ a * k ≤ A * B := by
  have key : (a * k).natAbs ≤ (A * B).natAbs := by
    rw [Int.natAbs_mul, Int.natAbs_mul]
    exact Nat.mul_le_mul (by omega) (by omega)
  have h0 : 0 ≤ A * B := Int.mul_nonneg hA hB
  omega
theorem nxS_b (f : Int → Int) (N p w : Int) (hN : 1 ≤ N) : 0 ≤ nxS f N p w ∧ nxS f N p w ≤ N - 1 := by
  unfold nxS
  rcases firstI_cases (fun i => decide (f ((p + w * i) % N) ≠ -10000)) (N - 1).toNat 1 (by omega) with ⟨a, b⟩ | ⟨a, b, c, d⟩ <;> omega
theorem nxS_both {f : Int → Int} {N p : Int} (hN : N = 8 ∨ N = 16 ∨ N = 32) (h : nxS f N p (-1) ≠ 0) : nxS f N p 1 ≠ 0 := by
  intro h2
  have hb := nxS_b f N p (-1) (by omega)
  unfold nxS at h h2
  rcases firstI_cases (fun i => decide (f ((p + -1 * i) % N) ≠ -10000)) (N - 1).toNat 1 (by omega) with ⟨a, b⟩ | ⟨a, b, c, d⟩
  · omega
  · rcases firstI_cases (fun i => decide (f ((p + 1 * i) % N) ≠ -10000)) (N - 1).toNat 1 (by omega) with ⟨a', b'⟩ | ⟨a', b', c', d'⟩
    · generalize hq : firstI (fun i => decide (f ((p + -1 * i) % N) ≠ -10000)) (N - 1).toNat 1 = q at *
      have h3 := b' (N - q) (by omega) (by omega)
      simp only [decide_eq_true_eq, decide_eq_false_iff_not] at c h3
      have e : (p + 1 * (N - q)) % N = (p + -1 * q) % N := by rcases hN with hN | hN | hN <;> subst hN <;> omega
      rw [e] at h3
      exact h3 c
    · omega
theorem unbF_b {f : Int → Int} {N p : Int} (hN : N = 8 ∨ N = 16 ∨ N = 32) (hp : 0 ≤ p) (hp2 : p < N) (hf : ∀ j, 0 ≤ j → j < N → -10000 ≤ f j ∧ f j ≤ 9999) : -10000 ≤ unbF f N p ∧ unbF f N p ≤ 10000 := by
  unfold unbF
  split
  · have := hf p hp hp2; omega
  · split
    · omega
    · rename_i h1 h2
      have b1 := nxS_b f N p (-1) (by omega)
      have b2 := nxS_b f N p 1 (by omega)
      have m1 := hf ((p - nxS f N p (-1)) % N) (Int.emod_nonneg _ (by omega)) (Int.emod_lt_of_pos _ (by omega))
      have m2 := hf ((p + nxS f N p 1) % N) (Int.emod_nonneg _ (by omega)) (Int.emod_lt_of_pos _ (by omega))
      generalize nxS f N p (-1) = i at *
      generalize nxS f N p 1 = k at *
      generalize f ((p - i) % N) = a at *
      generalize f ((p + k) % N) = c at *
      have e1 : 0 ≤ (a + 10000) * k := Int.mul_nonneg (by omega) (by omega)
      have e2 : 0 ≤ (c + 10000) * i := Int.mul_nonneg (by omega) (by omega)
      have e3 : 0 ≤ (10000 - a) * k := Int.mul_nonneg (by omega) (by omega)
      have e4 : 0 ≤ (10000 - c) * i := Int.mul_nonneg (by omega) (by omega)
      rw [Int.add_mul] at e1 e2
      rw [Int.sub_mul] at e3 e4
      have hpos : 0 < i + k := by omega
      constructor
      · rw [Int.le_ediv_iff_mul_le hpos]
        omega
      · have : (a * k + c * i) / (i + k) < 10001 := by
          rw [Int.ediv_lt_iff_lt_mul hpos]
          omega
        omega
theorem unb_b {b : Int} {V : Mem} (hi : Inv b V) (r : Nat) (hr : r < 2) (p : Int) (hp : 0 ≤ p) (hp2 : p < V 0 0) : -10000 ≤ unb V r p ∧ unb V r p ≤ 10000 := unbF_b hi.N hp hp2 (fun j a c => hi.read r hr j a c)
theorem rdg_b {b : Int} {V : Mem} (hi : Inv b V) (r : Nat) (hr : r < 2) (p : Int) (hp : 0 ≤ p) (hp2 : p < V 0 0) : -(b + 10000) ≤ rdg V r p ∧ rdg V r p ≤ b + 10000 := by
  have h1 := unb_b hi r hr p hp hp2
  have h2 := hi.made r hr p hp hp2
  unfold rdg
  omega
theorem modN2 {N x : Int} (hN : N = 8 ∨ N = 16 ∨ N = 32) (hx : 0 ≤ x + N * 2) : (x + N * 2).tmod N = x % N := by
  rw [Int.tmod_eq_emod_of_nonneg hx]
  rcases hN with hN | hN | hN <;> subst hN <;> omega
theorem modN1 {N x : Int} (hN : N = 8 ∨ N = 16 ∨ N = 32) (hx : 0 ≤ x + N) : (x + N).tmod N = x % N := by
  rw [Int.tmod_eq_emod_of_nonneg hx]
  rcases hN with hN | hN | hN <;> subst hN <;> omega
theorem modN0 {N x : Int} (hx : 0 ≤ x) : x.tmod N = x % N := Int.tmod_eq_emod_of_nonneg hx
theorem modNb {N : Int} (x : Int) (hN : N = 8 ∨ N = 16 ∨ N = 32) : 0 ≤ x % N ∧ x % N < N := ⟨Int.emod_nonneg _ (by omega), Int.emod_lt_of_pos _ (by omega)⟩
theorem dm_facts {N k : Int} (hN : N = 8 ∨ N = 16 ∨ N = 32) (h0 : 0 ≤ k) (h1 : k < 2 * N) : ∃ (r : Nat) (p : Int), r < 2 ∧ 0 ≤ p ∧ p < N ∧ k.tdiv N = (r : Int) ∧ k.tmod N = p ∧ k = p + (if r = 0 then 0 else N) := by
  rw [Int.tmod_eq_emod_of_nonneg h0, Int.tdiv_eq_ediv_of_nonneg h0]
  by_cases h : k < N
  · exact ⟨0, k, by omega, h0, h, by rw [Int.ediv_eq_zero_of_lt h0 h]; rfl, Int.emod_eq_of_lt h0 h, by simp⟩
  · refine ⟨1, k - N, by omega, by omega, by omega, ?_, ?_, by simp⟩
    · rcases hN with hN | hN | hN <;> subst hN <;> omega
    · rcases hN with hN | hN | hN <;> subst hN <;> omega
theorem stp_b {N i j : Int} (hN : N = 8 ∨ N = 16 ∨ N = 32) (h0 : 0 ≤ i) (h1 : i < N) (h2 : 0 ≤ j) (h3 : j < N) : 0 ≤ stp N i j ∧ stp N i j ≤ 16 := by
  unfold stp dst
  omega
theorem ab_b {x B : Int} (h1 : -B ≤ x) (h2 : x ≤ B) : 0 ≤ ab x ∧ ab x ≤ B := by unfold ab; omega
theorem ediv_mono {a c L : Int} (hL : 0 < L) (h : a ≤ c) : a / L ≤ c / L := Int.ediv_le_ediv hL h
theorem shr_b {v L B : Int} (hL : 1 ≤ L) (h : ab v ≤ B) : 0 ≤ shr v L ∧ shr v L ≤ 1000 * B := by
  have h0 : 0 ≤ ab v := by unfold ab; omega
  unfold shr
  have h1 := (ediv_b (x := 1000 * ab v) (y := L) (by omega)).1 (by omega)
  omega
theorem spS_succ {V : Mem} {l i : Int} (h : 0 ≤ i) : spS V l (i + 1).toNat = if leanK (V 1 i) = l then (true, (if (spS V l i.toNat).1 = false ∨ V 2 i < (spS V l i.toNat).2.1 then V 2 i else (spS V l i.toNat).2.1), (if (spS V l i.toNat).1 = false ∨ (spS V l i.toNat).2.2 < V 2 i then V 2 i else (spS V l i.toNat).2.2)) else spS V l i.toNat := by
  have e : (i + 1).toNat = i.toNat + 1 := by omega
  rw [e]
  show (if leanK (V 1 (i.toNat : Int)) = l then _ else _) = _
  rw [Int.toNat_of_nonneg h]
theorem spS_b {b : Int} {V : Mem} (hi : Inv b V) (l : Int) : ∀ n : Nat, (n : Int) ≤ V 0 0 → -b ≤ (spS V l n).2.1 ∧ (spS V l n).2.1 ≤ b ∧ -b ≤ (spS V l n).2.2 ∧ (spS V l n).2.2 ≤ b ∧ (spS V l n).2.1 ≤ (spS V l n).2.2
  | 0, _ => by have := hi.b; simp only [spS]; omega
  | n + 1, h => by
    have h1 := spS_b hi l n (by omega)
    have h2 := hi.pull n (by omega) (by omega)
    unfold spS
    split
    · dsimp only
      generalize (spS V l n).1 = q at *
      generalize (spS V l n).2.1 = lo at *
      generalize (spS V l n).2.2 = hi' at *
      cases q <;> simp <;> omega
    · exact h1
theorem sprV_b {b : Int} {V : Mem} (hi : Inv b V) (l : Int) : 0 ≤ sprV V l ∧ sprV V l ≤ 2 * b := by
  have hN := hi.N
  have h := spS_b hi l (V 0 0).toNat (by omega)
  unfold sprV
  omega
theorem midV_b {b : Int} {V : Mem} (hi : Inv b V) : -(b + 10000) ≤ midV V ∧ midV V ≤ b + 10000 := by
  have hN := hi.N
  have hb := hi.b
  have h := sumN_b (f := rdg V 0) (B := b + 10000) (by omega) (V 0 0).toNat (fun k h0 h1 => rdg_b hi 0 (by decide) k (by omega) (by omega))
  rw [Int.toNat_of_nonneg (by omega)] at h
  unfold midV
  generalize sumN (rdg V 0) (V 0 0).toNat = S at *
  have hp : 0 < V 0 0 := by omega
  constructor
  · rw [Int.le_ediv_iff_mul_le hp, Int.neg_mul]
    exact h.1
  · have : S / V 0 0 < b + 10000 + 1 := by
      rw [Int.ediv_lt_iff_lt_mul hp, Int.add_mul, Int.one_mul]
      omega
    omega
theorem sum64 {b : Int} {V : Mem} (hi : Inv b V) (n : Nat) (hn : (n : Int) ≤ V 0 0) : i64 (sumN (rdg V 0) n) := by
  have hN := hi.N
  have hb := hi.b
  have h := sumN_b (f := rdg V 0) (B := b + 10000) (by omega) n (fun k h0 h1 => rdg_b hi 0 (by decide) k (by omega) (by omega))
  have h2 := mulb (a := b + 10000) (k := (n : Int)) (A := 500010000) (B := 32) (by omega) (by omega) (by omega) (by omega) (by omega) (by omega)
  omega
