theorem Inv.upb {b b2 : Int} {V : Mem} (hi : Inv b V) (h : b ≤ b2) (h2 : b2 ≤ 500000000) : Inv b2 V := by
  obtain ⟨g1, g2, g3, g4, g5, g6, g7, g8, g9, g10, g11, g12⟩ := hi
  refine ⟨g1, g2, fun j a c => ?_, fun r hr j a c => ?_, g5, g6, g7, g8, g9, g10, g11, ?_⟩
  · have := g3 j a c; omega
  · have := g4 r hr j a c; omega
  · omega

theorem Inv.k1 {b : Int} {V : Mem} (hi : Inv b V) {s k : Int} (hk : isK k) : Inv b (up V 1 s k) := by
  have e : ∀ a, a ≠ 1 → up V 1 s k a = V a := fun a h => up_cell h
  obtain ⟨g1, g2, g3, g4, g5, g6, g7, g8, g9, g10, g11, g12⟩ := hi
  unfold Inv
  rw [e 0 (by omega), e 2 (by omega), e 7 (by omega), e 14 (by omega), e 15 (by omega), e 16 (by omega), e 17 (by omega), e 18 (by omega)]
  refine ⟨g1, ?_, g3, fun r hr j a c => by rw [e (3 + r) (by omega)]; exact g4 r hr j a c, fun r hr j a c => by rw [e (5 + r) (by omega)]; exact g5 r hr j a c, g6, fun t ht d a c => by rw [e (8 + t) (by omega)]; exact g7 t ht d a c, g8, g9, g10, g11, g12⟩
  · intro j a c
    by_cases hj : j = s
    · rw [hj, up_same]; refine ⟨by omega, by omega, fun q => by omega⟩
    · rw [up_ne (Or.inr hj)]; exact g2 j a c

theorem Inv.k2 {b : Int} {V : Mem} (hi : Inv b V) {s v : Int} (h4 : V 1 s ≠ 4) (hv : -b ≤ v ∧ v ≤ b) : Inv b (up V 2 s v) := by
  have e : ∀ a, a ≠ 2 → up V 2 s v a = V a := fun a h => up_cell h
  obtain ⟨g1, g2, g3, g4, g5, g6, g7, g8, g9, g10, g11, g12⟩ := hi
  unfold Inv
  rw [e 0 (by omega), e 1 (by omega), e 7 (by omega), e 14 (by omega), e 15 (by omega), e 16 (by omega), e 17 (by omega), e 18 (by omega)]
  refine ⟨g1, ?_, ?_, fun r hr j a c => by rw [e (3 + r) (by omega)]; exact g4 r hr j a c, fun r hr j a c => by rw [e (5 + r) (by omega)]; exact g5 r hr j a c, g6, fun t ht d a c => by rw [e (8 + t) (by omega)]; exact g7 t ht d a c, g8, g9, g10, g11, g12⟩
  · intro j a c
    by_cases hj : j = s
    · rw [hj, up_same]; rw [hj] at a c; refine ⟨(g2 s a c).1, (g2 s a c).2.1, fun q => absurd q h4⟩
    · rw [up_ne (Or.inr hj)]; exact g2 j a c
  · intro j a c
    by_cases hj : j = s
    · rw [hj, up_same]; exact hv
    · rw [up_ne (Or.inr hj)]; exact g3 j a c

theorem Inv.k14 {b : Int} {V : Mem} (hi : Inv b V) {i v : Int} (hv : 1 ≤ v ∧ v ≤ 1000000) : Inv b (up V 14 i v) := by
  have e : ∀ a, a ≠ 14 → up V 14 i v a = V a := fun a h => up_cell h
  obtain ⟨g1, g2, g3, g4, g5, g6, g7, g8, g9, g10, g11, g12⟩ := hi
  unfold Inv
  rw [e 0 (by omega), e 1 (by omega), e 2 (by omega), e 7 (by omega), e 15 (by omega), e 16 (by omega), e 17 (by omega), e 18 (by omega)]
  refine ⟨g1, g2, g3, fun r hr j a c => by rw [e (3 + r) (by omega)]; exact g4 r hr j a c, fun r hr j a c => by rw [e (5 + r) (by omega)]; exact g5 r hr j a c, g6, fun t ht d a c => by rw [e (8 + t) (by omega)]; exact g7 t ht d a c, ?_, g9, g10, g11, g12⟩
  · intro j a c
    by_cases hj : j = i
    · rw [hj, up_same]; exact hv
    · rw [up_ne (Or.inr hj)]; exact g8 j a c

theorem Inv.k5 {b : Int} {V : Mem} (hi : Inv b V) {q : Nat} {p v : Int} (hq : q < 2) (hv : -10000 ≤ v ∧ v ≤ 9999) : Inv b (up V (5 + q) p v) := by
  have e : ∀ a, a ≠ 5 + q → up V (5 + q) p v a = V a := fun a h => up_cell h
  obtain ⟨g1, g2, g3, g4, g5, g6, g7, g8, g9, g10, g11, g12⟩ := hi
  unfold Inv
  rw [e 0 (by omega), e 1 (by omega), e 2 (by omega), e 7 (by omega), e 14 (by omega), e 15 (by omega), e 16 (by omega), e 17 (by omega), e 18 (by omega)]
  refine ⟨g1, g2, g3, fun r hr j a c => by rw [e (3 + r) (by omega)]; exact g4 r hr j a c, ?_, g6, fun t ht d a c => by rw [e (8 + t) (by omega)]; exact g7 t ht d a c, g8, g9, g10, g11, g12⟩
  · intro r hr j a c
    by_cases hj : 5 + r = 5 + q ∧ j = p
    · rw [hj.1, hj.2, up_same]; exact hv
    · rw [up_ne (by omega)]; exact g5 r hr j a c

theorem Inv.k8 {b : Int} {V : Mem} (hi : Inv b V) {q : Nat} {p v : Int} (hq : q < 6) (hp : 0 ≤ p ∧ p < V 7 q) (hv : -1000 ≤ v ∧ v ≤ 1000) : Inv b (up V (8 + q) p v) := by
  have e : ∀ a, a ≠ 8 + q → up V (8 + q) p v a = V a := fun a h => up_cell h
  obtain ⟨g1, g2, g3, g4, g5, g6, g7, g8, g9, g10, g11, g12⟩ := hi
  unfold Inv
  rw [e 0 (by omega), e 1 (by omega), e 2 (by omega), e 7 (by omega), e 14 (by omega), e 15 (by omega), e 16 (by omega), e 17 (by omega), e 18 (by omega)]
  refine ⟨g1, g2, g3, fun r hr j a c => by rw [e (3 + r) (by omega)]; exact g4 r hr j a c, fun r hr j a c => by rw [e (5 + r) (by omega)]; exact g5 r hr j a c, g6, ?_, g8, g9, g10, g11, g12⟩
  · intro r hr j a c
    by_cases hj : r = q ∧ j = p
    · obtain ⟨rfl, rfl⟩ := hj
      rw [up_same]; exact ⟨hv.1, hv.2, fun z => by omega⟩
    · rw [up_ne (by omega)]; exact g7 r hr j a c

theorem Inv.k18 {b : Int} {V : Mem} (hi : Inv b V) {r o R c : Int} (h : (1 ≤ r ∧ r ≤ 200) ∧ (0 ≤ o ∧ o ≤ 200) ∧ (1 ≤ R ∧ R ≤ 1000) ∧ (0 ≤ c ∧ c ≤ 7)) : Inv b (up (up (up (up V 18 0 r) 18 1 o) 18 2 R) 18 3 c) := by
  have e : ∀ a, a ≠ 18 → up (up (up (up V 18 0 r) 18 1 o) 18 2 R) 18 3 c a = V a := fun a h => by rw [up_cell h, up_cell h, up_cell h, up_cell h]
  obtain ⟨g1, g2, g3, g4, g5, g6, g7, g8, g9, g10, g11, g12⟩ := hi
  unfold Inv
  rw [e 0 (by omega), e 1 (by omega), e 2 (by omega), e 7 (by omega), e 14 (by omega), e 15 (by omega), e 16 (by omega), e 17 (by omega)]
  refine ⟨g1, g2, g3, fun r hr j a c => by rw [e (3 + r) (by omega)]; exact g4 r hr j a c, fun r hr j a c => by rw [e (5 + r) (by omega)]; exact g5 r hr j a c, g6, fun t ht d a c => by rw [e (8 + t) (by omega)]; exact g7 t ht d a c, g8, g9, g10, ?_, g12⟩
  · simp [up]
    omega

theorem Inv.tbl {b : Int} {V : Mem} (hi : Inv b V) {q : Nat} {n : Int} (hq : q < 6) (hn : -1 ≤ n ∧ n ≤ 17) : Inv b (tblV V q n) := by
  have e : ∀ a, a ≠ 7 → a ≠ 8 + q → tblV V q n a = V a := fun a h h2 => by funext j; simp [tblV, h, h2]
  obtain ⟨g1, g2, g3, g4, g5, g6, g7, g8, g9, g10, g11, g12⟩ := hi
  unfold Inv
  rw [e 0 (by omega) (by omega), e 1 (by omega) (by omega), e 2 (by omega) (by omega), e 14 (by omega) (by omega), e 15 (by omega) (by omega), e 16 (by omega) (by omega), e 17 (by omega) (by omega), e 18 (by omega) (by omega)]
  refine ⟨g1, g2, g3, fun r hr j a c => by rw [e (3 + r) (by omega) (by omega)]; exact g4 r hr j a c, fun r hr j a c => by rw [e (5 + r) (by omega) (by omega)]; exact g5 r hr j a c, ?_, ?_, g8, g9, g10, g11, g12⟩
  · intro t ht
    unfold tblV
    by_cases h1 : t = q
    · rw [if_pos ⟨rfl, by omega⟩]; exact hn
    · rw [if_neg (by omega), if_neg (by omega)]; exact g6 t ht
  · intro t ht d a c
    unfold tblV
    rw [if_neg (by omega)]
    by_cases h1 : t = q
    · rw [if_pos (by omega)]; refine ⟨by omega, by omega, fun _ => rfl⟩
    · rw [if_neg (by omega), if_neg (by omega), if_neg (by omega)]; exact g7 t ht d a c

theorem Inv.cpy {b : Int} {V : Mem} (hi : Inv b V) {f q : Nat} {n : Int} (hf : f < 6) (hq : q < 6) (hn : 0 ≤ n ∧ n ≤ 17 ∧ n ≤ V 7 q) : Inv b (cpyV V f q n) := by
  have e : ∀ a, a ≠ 8 + q → cpyV V f q n a = V a := fun a h => by funext j; simp [cpyV, h]
  obtain ⟨g1, g2, g3, g4, g5, g6, g7, g8, g9, g10, g11, g12⟩ := hi
  unfold Inv
  rw [e 0 (by omega), e 1 (by omega), e 2 (by omega), e 7 (by omega), e 14 (by omega), e 15 (by omega), e 16 (by omega), e 17 (by omega), e 18 (by omega)]
  refine ⟨g1, g2, g3, fun r hr j a c => by rw [e (3 + r) (by omega)]; exact g4 r hr j a c, fun r hr j a c => by rw [e (5 + r) (by omega)]; exact g5 r hr j a c, g6, ?_, g8, g9, g10, g11, g12⟩
  · intro t ht d a c
    unfold cpyV
    by_cases h1 : 8 + t = 8 + q ∧ 0 ≤ d ∧ d < n
    · rw [if_pos h1]
      have := g7 f hf d a c
      have h3 : t = q := by omega
      subst h3
      exact ⟨this.1, this.2.1, fun z => by omega⟩
    · rw [if_neg h1]; exact g7 t ht d a c

theorem Inv.whl {b : Int} {V : Mem} (hi : Inv b V) {n : Int} (hn : n = 8 ∨ n = 16 ∨ n = 32) (hb : 500 ≤ b) : Inv b (whlV V n) := by
  obtain ⟨g1, g2, g3, g4, g5, g6, g7, g8, g9, g10, g11, g12⟩ := hi
  have e7 : whlV V n 7 = V 7 := by funext j; simp [whlV]
  have e8 : ∀ t : Nat, whlV V n (8 + t) = if 8 + t = 17 then (fun _ => 0) else V (8 + t) := fun t => by
    funext j
    unfold whlV
    rw [if_neg (by omega), if_neg (by omega), if_neg (by omega), if_neg (by omega), if_neg (by omega)]
    split <;> rfl
  have e14 : whlV V n 14 = V 14 := by funext j; simp [whlV]
  have e18 : whlV V n 18 = V 18 := by funext j; simp [whlV]
  unfold Inv
  rw [e7, e14, e18]
  have e0 : whlV V n 0 0 = n := by simp [whlV]
  have e17 : whlV V n 17 0 = 0 := by simp [whlV]
  rw [e0, e17]
  refine ⟨hn, fun j a c => ?_, fun j a c => ?_, fun r hr j a c => ?_, fun r hr j a c => ?_, g6, fun t ht d a c => ?_, g8, by omega, fun i a c => by omega, g11, g12⟩
  · have e1 : whlV V n 1 j = if j % 2 = 0 then 1 else 2 := by simp [whlV]
    rw [e1]
    split <;> refine ⟨by omega, by omega, fun q => by omega⟩
  · have e2 : whlV V n 2 j = 500 := by simp [whlV]
    rw [e2]; omega
  · have e3 : whlV V n (3 + r) j = 0 := by
      rcases (show r = 0 ∨ r = 1 by omega) with rfl | rfl <;> simp [whlV]
    rw [e3]; omega
  · have e5 : whlV V n (5 + r) j = -10000 := by
      rcases (show r = 0 ∨ r = 1 by omega) with rfl | rfl <;> simp [whlV]
    rw [e5]; omega
  · rw [e8 t, if_neg (by omega)]; exact g7 t ht d a c
theorem Inv.brk {b : Int} {V : Mem} (hi : Inv b V) {s : Int} (h : ¬ 0 ≤ brkBad V s) (hb : 100000000 ≤ b) : Inv b (brkV V s) := by
  have hN := hi.N2
  have hbad : ∀ j, 0 ≤ j → j < V 0 0 → j ≠ s → V 1 j ≠ 4 → ab (brkP V s j) ≤ 100000000 := fun j a c hj h4 => by
    rcases Int.lt_or_le 100000000 (ab (brkP V s j)) with q | q
    · exfalso
      apply h
      rcases firstI_cases (fun j => decide (j ≠ s) && decide (V 1 j ≠ 4) && decide (100000000 < ab (brkP V s j))) (V 0 0).toNat 0 (by decide) with ⟨_, z⟩ | ⟨z, _⟩
      · have z2 := z j a (by omega)
        simp [hj, h4] at z2
        omega
      · exact z
    · exact q
  have e : ∀ a, a ≠ 1 → a ≠ 2 → brkV V s a = V a := fun a q1 q2 => by funext j; simp [brkV, q1, q2]
  obtain ⟨g1, g2, g3, g4, g5, g6, g7, g8, g9, g10, g11, g12⟩ := hi
  unfold Inv
  rw [e 0 (by decide) (by decide), e 7 (by decide) (by decide), e 14 (by decide) (by decide), e 15 (by decide) (by decide), e 16 (by decide) (by decide), e 17 (by decide) (by decide), e 18 (by decide) (by decide)]
  have e1 : ∀ j, brkV V s 1 j = if j = s then 4 else V 1 j := fun j => by simp [brkV]
  have e2 : ∀ j, 0 ≤ j → j < V 0 0 → brkV V s 2 j = if j = s then 0 else if V 1 j ≠ 4 then brkP V s j else V 2 j := fun j a c => by simp [brkV, a, c]
  refine ⟨g1, fun j a c => ?_, fun j a c => ?_, fun r hr j a c => by rw [e (3 + r) (by omega) (by omega)]; exact g4 r hr j a c, fun r hr j a c => by rw [e (5 + r) (by omega) (by omega)]; exact g5 r hr j a c, g6, fun t ht d a c => by rw [e (8 + t) (by omega) (by omega)]; exact g7 t ht d a c, g8, g9, g10, g11, g12⟩
  · rw [e1, e2 j a c]
    have := g2 j a c
    split
    · exact ⟨by omega, by omega, fun _ => rfl⟩
    · refine ⟨this.1, this.2.1, fun q => ?_⟩
      rw [if_neg (fun z => z q)]; exact this.2.2 q
  · rw [e2 j a c]
    have h3 := g3 j a c
    split
    · omega
    · rename_i hj
      split
      · rename_i h4
        have := hbad j a c hj h4
        unfold ab at this
        split at this <;> omega
      · exact h3

theorem planV_inv : ∀ (m : Nat) {b : Int} {V : Mem}, Inv b V → b + 2000 * m ≤ 500000000 → Inv (b + 2000 * m) (planV m V).2
  | 0, b, V, hi, hb => by simpa [planV] using hi
  | m + 1, b, V, hi, hb => by
    unfold planV
    split
    · exact hi.upb (by omega) (by omega)
    · rename_i h
      have hn := nqV_b hi (fun q => h (Or.inr q))
      have hm := hi.many
      have hq : -1 ≤ qOf (nqV V) ∧ qOf (nqV V) ≤ 1 := by unfold qOf; split <;> omega
      have hW := mkV_inv (m := 1) hi (nqV V / 2) (qOf (nqV V)) (by omega) (by omega) hq (by decide) (by omega)
      have hA := hW.add (s := nqV V / 2) (n := qOf (nqV V)) (by rw [mkV_o (by decide) (by decide) (by decide)]; omega) (by omega) (by rw [mk_N]; omega) (by omega)
      have := planV_inv m hA (by omega)
      exact this.upb (by omega) (by omega)

theorem i_state {b : Int} {V : Mem} (hi : Inv b V) (h1 : 100000000 ≤ b) (h2 : b + 200000 ≤ 500000000) (w : Int) : Inv (b + 200000) (p_state V w).2 := by
  have hu : Inv (b + 200000) V := hi.upb (by omega) h2
  unfold p_state
  exact hu

theorem i_why {b : Int} {V : Mem} (hi : Inv b V) (h1 : 100000000 ≤ b) (h2 : b + 200000 ≤ 500000000)  : Inv (b + 200000) (p_why V).2 := by
  have hu : Inv (b + 200000) V := hi.upb (by omega) h2
  unfold p_why
  exact hu

theorem i_next {b : Int} {V : Mem} (hi : Inv b V) (h1 : 100000000 ≤ b) (h2 : b + 200000 ≤ 500000000)  : Inv (b + 200000) (p_next V).2 := by
  have hu : Inv (b + 200000) V := hi.upb (by omega) h2
  unfold p_next
  exact hu

theorem i_count {b : Int} {V : Mem} (hi : Inv b V) (h1 : 100000000 ≤ b) (h2 : b + 200000 ≤ 500000000) (w : Int) : Inv (b + 200000) (p_count V w).2 := by
  have hu : Inv (b + 200000) V := hi.upb (by omega) h2
  unfold p_count
  exact hu

theorem i_about {b : Int} {V : Mem} (hi : Inv b V) (h1 : 100000000 ≤ b) (h2 : b + 200000 ≤ 500000000) (s w : Int) : Inv (b + 200000) (p_about V s w).2 := by
  have hu : Inv (b + 200000) V := hi.upb (by omega) h2
  unfold p_about
  repeat (first | exact hu | split)

theorem i_isOf {b : Int} {V : Mem} (hi : Inv b V) (h1 : 100000000 ≤ b) (h2 : b + 200000 ≤ 500000000) (s k : Int) : Inv (b + 200000) (p_isOf V s k).2 := by
  have hu : Inv (b + 200000) V := hi.upb (by omega) h2
  unfold p_isOf
  repeat (first | exact hu | split)

theorem i_tells {b : Int} {V : Mem} (hi : Inv b V) (h1 : 100000000 ≤ b) (h2 : b + 200000 ≤ 500000000) (t d : Int) : Inv (b + 200000) (p_tells V t d).2 := by
  have hu : Inv (b + 200000) V := hi.upb (by omega) h2
  unfold p_tells
  repeat (first | exact hu | split)

theorem i_unbent {b : Int} {V : Mem} (hi : Inv b V) (h1 : 100000000 ≤ b) (h2 : b + 200000 ≤ 500000000) (r p : Int) : Inv (b + 200000) (p_unbent V r p).2 := by
  have hu : Inv (b + 200000) V := hi.upb (by omega) h2
  unfold p_unbent
  repeat (first | exact hu | split)

theorem i_reading {b : Int} {V : Mem} (hi : Inv b V) (h1 : 100000000 ≤ b) (h2 : b + 200000 ≤ 500000000) (r p : Int) : Inv (b + 200000) (p_reading V r p).2 := by
  have hu : Inv (b + 200000) V := hi.upb (by omega) h2
  unfold p_reading
  repeat (first | exact hu | split)

theorem i_fewest {b : Int} {V : Mem} (hi : Inv b V) (h1 : 100000000 ≤ b) (h2 : b + 200000 ≤ 500000000) (w : Int) : Inv (b + 200000) (p_fewest V w).2 := by
  have hu : Inv (b + 200000) V := hi.upb (by omega) h2
  unfold p_fewest
  repeat (first | exact hu | split)

theorem i_log {b : Int} {V : Mem} (hi : Inv b V) (h1 : 100000000 ≤ b) (h2 : b + 200000 ≤ 500000000) (i w : Int) : Inv (b + 200000) (p_log V i w).2 := by
  have hu : Inv (b + 200000) V := hi.upb (by omega) h2
  unfold p_log
  repeat (first | exact hu | split)

theorem i_loaded {b : Int} {V : Mem} (hi : Inv b V) (h1 : 100000000 ≤ b) (h2 : b + 200000 ≤ 500000000) (w p s : Int) : Inv (b + 200000) (p_loaded V w p s).2 := by
  have hu : Inv (b + 200000) V := hi.upb (by omega) h2
  unfold p_loaded
  repeat (first | exact hu | split)

theorem i_worstAt {b : Int} {V : Mem} (hi : Inv b V) (h1 : 100000000 ≤ b) (h2 : b + 200000 ≤ 500000000) (w : Int) : Inv (b + 200000) (p_worstAt V w).2 := by
  have hu : Inv (b + 200000) V := hi.upb (by omega) h2
  unfold p_worstAt
  repeat (first | exact hu | split)

theorem i_length {b : Int} {V : Mem} (hi : Inv b V) (h1 : 100000000 ≤ b) (h2 : b + 200000 ≤ 500000000) (s : Int) : Inv (b + 200000) (p_length V s).2 := by
  have hu : Inv (b + 200000) V := hi.upb (by omega) h2
  unfold p_length
  repeat (first | exact hu | split)

theorem i_hub {b : Int} {V : Mem} (hi : Inv b V) (h1 : 100000000 ≤ b) (h2 : b + 200000 ≤ 500000000) (s : Int) : Inv (b + 200000) (p_hub V s).2 := by
  have hu : Inv (b + 200000) V := hi.upb (by omega) h2
  unfold p_hub
  repeat (first | exact hu | split)

theorem i_crosses {b : Int} {V : Mem} (hi : Inv b V) (h1 : 100000000 ≤ b) (h2 : b + 200000 ≤ 500000000) (s t : Int) : Inv (b + 200000) (p_crosses V s t).2 := by
  have hu : Inv (b + 200000) V := hi.upb (by omega) h2
  unfold p_crosses
  repeat (first | exact hu | split)

theorem i_crossings {b : Int} {V : Mem} (hi : Inv b V) (h1 : 100000000 ≤ b) (h2 : b + 200000 ≤ 500000000) (s : Int) : Inv (b + 200000) (p_crossings V s).2 := by
  have hu : Inv (b + 200000) V := hi.upb (by omega) h2
  unfold p_crossings
  repeat (first | exact hu | split)

theorem i_wheel {b : Int} {V : Mem} (hi : Inv b V) (h1 : 100000000 ≤ b) (h2 : b + 200000 ≤ 500000000) (n : Int) : Inv (b + 200000) (p_wheel V n).2 := by
  have hu : Inv (b + 200000) V := hi.upb (by omega) h2
  unfold p_wheel
  split
  · rename_i h
    exact hu.whl h (by omega)
  · exact hu

theorem i_kind {b : Int} {V : Mem} (hi : Inv b V) (h1 : 100000000 ≤ b) (h2 : b + 200000 ≤ 500000000) (s k : Int) : Inv (b + 200000) (p_kind V s k).2 := by
  have hu : Inv (b + 200000) V := hi.upb (by omega) h2
  unfold p_kind
  split
  · exact hu
  · rename_i h
    split
    · exact hu
    · exact hu.k1 (by omega)

theorem i_table {b : Int} {V : Mem} (hi : Inv b V) (h1 : 100000000 ≤ b) (h2 : b + 200000 ≤ 500000000) (t n : Int) : Inv (b + 200000) (p_table V t n).2 := by
  have hu : Inv (b + 200000) V := hi.upb (by omega) h2
  unfold p_table
  split
  · exact hu
  · rename_i h
    exact hu.tbl (by omega) (by omega)

theorem i_enter {b : Int} {V : Mem} (hi : Inv b V) (h1 : 100000000 ≤ b) (h2 : b + 200000 ≤ 500000000) (t p v : Int) : Inv (b + 200000) (p_enter V t p v).2 := by
  have hu : Inv (b + 200000) V := hi.upb (by omega) h2
  unfold p_enter
  split
  · exact hu
  · rename_i h
    split
    · exact hu
    · split
      · exact hu
      · rename_i h3
        exact hu.k8 (by omega) (by rw [show ((t.toNat : Nat) : Int) = t by omega]; omega) (by omega)

theorem i_copy {b : Int} {V : Mem} (hi : Inv b V) (h1 : 100000000 ≤ b) (h2 : b + 200000 ≤ 500000000) (f t n : Int) : Inv (b + 200000) (p_copy V f t n).2 := by
  have hu : Inv (b + 200000) V := hi.upb (by omega) h2
  unfold p_copy
  split
  · exact hu
  · rename_i h
    split
    · exact hu
    · split
      · exact hu
      · rename_i h3
        have := hi.size f.toNat (by omega)
        rw [show ((f.toNat : Nat) : Int) = f by omega] at this
        exact hu.cpy (by omega) (by omega) (by rw [show ((t.toNat : Nat) : Int) = t by omega]; omega)

theorem i_read {b : Int} {V : Mem} (hi : Inv b V) (h1 : 100000000 ≤ b) (h2 : b + 200000 ≤ 500000000) (r p v : Int) : Inv (b + 200000) (p_read V r p v).2 := by
  have hu : Inv (b + 200000) V := hi.upb (by omega) h2
  unfold p_read
  split
  · exact hu
  · rename_i h
    exact hu.k5 (by omega) (by omega)

theorem i_limit {b : Int} {V : Mem} (hi : Inv b V) (h1 : 100000000 ≤ b) (h2 : b + 200000 ≤ 500000000) (i v : Int) : Inv (b + 200000) (p_limit V i v).2 := by
  have hu : Inv (b + 200000) V := hi.upb (by omega) h2
  unfold p_limit
  split
  · exact hu
  · rename_i h
    exact hu.k14 (by omega)

theorem i_tune {b : Int} {V : Mem} (hi : Inv b V) (h1 : 100000000 ≤ b) (h2 : b + 200000 ≤ 500000000) (s v : Int) : Inv (b + 200000) (p_tune V s v).2 := by
  have hu : Inv (b + 200000) V := hi.upb (by omega) h2
  unfold p_tune
  split
  · exact hu
  · rename_i h
    split
    · exact hu
    · rename_i h4
      exact hu.k2 h4 (by omega)

theorem i_turn {b : Int} {V : Mem} (hi : Inv b V) (h1 : 100000000 ≤ b) (h2 : b + 200000 ≤ 500000000) (s n : Int) : Inv (b + 200000) (p_turn V s n).2 := by
  have hu : Inv (b + 200000) V := hi.upb (by omega) h2
  unfold p_turn
  split
  · exact hu
  · rename_i h
    split
    · exact hu
    · split
      · exact hu
      · rename_i h4
        have hm := hi.many
        exact Inv.add (mkV_inv (m := 100) hi s n (by omega) (by omega) (by omega) (by decide) (by omega)) (by rw [mkV_o (by decide) (by decide) (by decide)]; omega) (by omega) (by rw [mk_N]; omega) (by omega)

theorem i_plan {b : Int} {V : Mem} (hi : Inv b V) (h1 : 100000000 ≤ b) (h2 : b + 200000 ≤ 500000000) (n : Int) : Inv (b + 200000) (p_plan V n).2 := by
  have hu : Inv (b + 200000) V := hi.upb (by omega) h2
  unfold p_plan
  split
  · exact hu
  · rename_i h
    exact (planV_inv n.toNat hi (by omega)).upb (by omega) h2

theorem i_undo {b : Int} {V : Mem} (hi : Inv b V) (h1 : 100000000 ≤ b) (h2 : b + 200000 ≤ 500000000)  : Inv (b + 200000) (p_undo V).2 := by
  have hu : Inv (b + 200000) V := hi.upb (by omega) h2
  unfold p_undo
  split
  · exact hu
  · rename_i h
    have hm := hi.many
    have hl := hi.log (V 17 0 - 1) (by omega) (by omega)
    exact Inv.up17 (mkV_inv (m := 100) hi _ _ (by omega) (by omega) (by omega) (by decide) (by omega)) (by omega) (by rw [mkV_o (by decide) (by decide) (by decide)]; omega)

theorem i_snap {b : Int} {V : Mem} (hi : Inv b V) (h1 : 100000000 ≤ b) (h2 : b + 200000 ≤ 500000000) (s : Int) : Inv (b + 200000) (p_snap V s).2 := by
  have hu : Inv (b + 200000) V := hi.upb (by omega) h2
  unfold p_snap
  split
  · exact hu
  · split
    · exact hu
    · rename_i h
      exact hu.brk (fun q => h (Or.inr q)) (by omega)

theorem i_anew {b : Int} {V : Mem} (hi : Inv b V) (h1 : 100000000 ≤ b) (h2 : b + 200000 ≤ 500000000) (s k v : Int) : Inv (b + 200000) (p_anew V s k v).2 := by
  have hu : Inv (b + 200000) V := hi.upb (by omega) h2
  unfold p_anew
  split
  · exact hu
  · rename_i h
    split
    · exact hu
    · exact (hu.k1 (s := s) (k := k) (by omega)).k2 (by rw [up_same]; omega) (by omega)

theorem i_lace {b : Int} {V : Mem} (hi : Inv b V) (h1 : 100000000 ≤ b) (h2 : b + 200000 ≤ 500000000) (r o R c : Int) : Inv (b + 200000) (p_lace V r o R c).2 := by
  have hu : Inv (b + 200000) V := hi.upb (by omega) h2
  unfold p_lace
  split
  · exact hu
  · rename_i h
    exact hu.k18 (by omega)
