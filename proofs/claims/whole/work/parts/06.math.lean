theorem c_absI {K : Nat} {σ : Mem} {x : Int} (hx : i32 x) : RetV K mJ9_abs_0f7a4 [aI x] σ (aI (if x < 0 then -x else x)) := by
  refine Ret.of [some (aI x)] rfl (by decide +kernel) (Nat.le_of_ble_eq_true rfl) ?_
  refine g_iload_n dJ9_abs_0f7a4_0 rfl ?_
  refine g_if_ge (tgt := 9) dJ9_abs_0f7a4_1 (by decide) (by omega) (fun h1 => ?_) (fun h1 => ?_)
  · refine g_iload_n dJ9_abs_0f7a4_9 rfl ?_
    exact g_iret dJ9_abs_0f7a4_10 trivial ⟨by congr 2; omega, rfl⟩
  · refine g_iload_n dJ9_abs_0f7a4_4 rfl ?_
    refine g_ineg dJ9_abs_0f7a4_5 ?_
    refine g_goto (tgt := 10) dJ9_abs_0f7a4_6 (by decide) ?_
    exact g_iret dJ9_abs_0f7a4_10 trivial ⟨by congr 2; omega, rfl⟩

theorem c_absL {K : Nat} {σ : Mem} {x : Int} (hx : i64 x) : RetV K mJ9_abs_067f4 [aL x] σ (aL (if x < 0 then -x else x)) := by
  refine Ret.of [some (aL x), none] rfl (by decide +kernel) (Nat.le_of_ble_eq_true rfl) ?_
  refine g_lload_n dJ9_abs_067f4_0 rfl ?_
  refine g_lconst (v := 0) dJ9_abs_067f4_1 (by decide) ?_
  refine g_lcmp_ge (tgt := 11) dJ9_abs_067f4_2 dJ9_abs_067f4_3 (by decide) (by omega) (by omega) (fun h2 => ?_) (fun h2 => ?_)
  · refine g_lload_n dJ9_abs_067f4_11 rfl ?_
    exact g_lret dJ9_abs_067f4_12 trivial ⟨by congr 2; omega, rfl⟩
  · refine g_lload_n dJ9_abs_067f4_6 rfl ?_
    refine g_lneg dJ9_abs_067f4_7 ?_
    refine g_goto (tgt := 12) dJ9_abs_067f4_8 (by decide) ?_
    exact g_lret dJ9_abs_067f4_12 trivial ⟨by congr 2; omega, rfl⟩

theorem c_maxI {K : Nat} {σ : Mem} {x y : Int} (hx : i32 x) (hy : i32 y) : RetV K mJ9_max_7cf53 [aI x, aI y] σ (aI (if x < y then y else x)) := by
  refine Ret.of [some (aI x), some (aI y)] rfl (by decide +kernel) (Nat.le_of_ble_eq_true rfl) ?_
  refine g_iload_n dJ9_max_7cf53_0 rfl ?_
  refine g_iload_n dJ9_max_7cf53_1 rfl ?_
  refine g_icmp_lt (tgt := 9) dJ9_max_7cf53_2 (by decide) (by omega) (by omega) (fun h2 => ?_) (fun h2 => ?_)
  · refine g_iload_n dJ9_max_7cf53_9 rfl ?_
    exact g_iret dJ9_max_7cf53_10 trivial ⟨by congr 2; omega, rfl⟩
  · refine g_iload_n dJ9_max_7cf53_5 rfl ?_
    refine g_goto (tgt := 10) dJ9_max_7cf53_6 (by decide) ?_
    exact g_iret dJ9_max_7cf53_10 trivial ⟨by congr 2; omega, rfl⟩

theorem c_minI {K : Nat} {σ : Mem} {x y : Int} (hx : i32 x) (hy : i32 y) : RetV K mJ9_min_7cf53 [aI x, aI y] σ (aI (if y < x then y else x)) := by
  refine Ret.of [some (aI x), some (aI y)] rfl (by decide +kernel) (Nat.le_of_ble_eq_true rfl) ?_
  refine g_iload_n dJ9_min_7cf53_0 rfl ?_
  refine g_iload_n dJ9_min_7cf53_1 rfl ?_
  refine g_icmp_gt (tgt := 9) dJ9_min_7cf53_2 (by decide) (by omega) (by omega) (fun h2 => ?_) (fun h2 => ?_)
  · refine g_iload_n dJ9_min_7cf53_9 rfl ?_
    exact g_iret dJ9_min_7cf53_10 trivial ⟨by congr 2; omega, rfl⟩
  · refine g_iload_n dJ9_min_7cf53_5 rfl ?_
    refine g_goto (tgt := 10) dJ9_min_7cf53_6 (by decide) ?_
    exact g_iret dJ9_min_7cf53_10 trivial ⟨by congr 2; omega, rfl⟩

theorem c_maxL {K : Nat} {σ : Mem} {x y : Int} (hx : i64 x) (hy : i64 y) : RetV K mJ9_max_f86c9 [aL x, aL y] σ (aL (if x < y then y else x)) := by
  refine Ret.of [some (aL x), none, some (aL y), none] rfl (by decide +kernel) (Nat.le_of_ble_eq_true rfl) ?_
  refine g_lload_n dJ9_max_f86c9_0 rfl ?_
  refine g_lload_n dJ9_max_f86c9_1 rfl ?_
  refine g_lcmp_lt (tgt := 10) dJ9_max_f86c9_2 dJ9_max_f86c9_3 (by decide) (by omega) (by omega) (fun h2 => ?_) (fun h2 => ?_)
  · refine g_lload_n dJ9_max_f86c9_10 rfl ?_
    exact g_lret dJ9_max_f86c9_11 trivial ⟨by congr 2; omega, rfl⟩
  · refine g_lload_n dJ9_max_f86c9_6 rfl ?_
    refine g_goto (tgt := 11) dJ9_max_f86c9_7 (by decide) ?_
    exact g_lret dJ9_max_f86c9_11 trivial ⟨by congr 2; omega, rfl⟩

theorem c_minL {K : Nat} {σ : Mem} {x y : Int} (hx : i64 x) (hy : i64 y) : RetV K mJ9_min_f86c9 [aL x, aL y] σ (aL (if y < x then y else x)) := by
  refine Ret.of [some (aL x), none, some (aL y), none] rfl (by decide +kernel) (Nat.le_of_ble_eq_true rfl) ?_
  refine g_lload_n dJ9_min_f86c9_0 rfl ?_
  refine g_lload_n dJ9_min_f86c9_1 rfl ?_
  refine g_lcmp_gt (tgt := 10) dJ9_min_f86c9_2 dJ9_min_f86c9_3 (by decide) (by omega) (by omega) (fun h2 => ?_) (fun h2 => ?_)
  · refine g_lload_n dJ9_min_f86c9_10 rfl ?_
    exact g_lret dJ9_min_f86c9_11 trivial ⟨by congr 2; omega, rfl⟩
  · refine g_lload_n dJ9_min_f86c9_6 rfl ?_
    refine g_goto (tgt := 11) dJ9_min_f86c9_7 (by decide) ?_
    exact g_lret dJ9_min_f86c9_11 trivial ⟨by congr 2; omega, rfl⟩

/-- x = y (x/y) + x%y, for products that omega does not see -/
theorem ed_facts {x y : Int} (hy : 0 < y) : ∃ q r : Int, x / y = q ∧ x % y = r ∧ x = q * y + r ∧ 0 ≤ r ∧ r < y := ⟨x / y, x % y, rfl, rfl, by rw [Int.mul_comm]; exact (Int.mul_ediv_add_emod x y).symm, Int.emod_nonneg x (by omega), Int.emod_lt_of_pos x hy⟩
theorem neg_ediv_f {x y : Int} (hy : 0 < y) (hx : x < 0) : x / y = if (-x) % y = 0 then -((-x) / y) else -((-x) / y) - 1 := by
  obtain ⟨q, r, e1, e2, e3, e4, e5⟩ := ed_facts (x := -x) hy
  rw [e1, e2]
  split
  · rename_i h
    rw [show x = (-q) * y by rw [Int.neg_mul]; omega, Int.mul_ediv_cancel _ (by omega)]
  · rename_i h
    have h1 : x = (-q - 1) * y + (y - r) := by rw [Int.sub_mul, Int.neg_mul]; omega
    rw [h1, Int.add_comm, Int.add_mul_ediv_right _ _ (by omega), Int.ediv_eq_zero_of_lt (by omega) (by omega)]
    omega
theorem neg_emod_f {x y : Int} (hy : 0 < y) (hx : x < 0) : x % y = if (-x) % y = 0 then 0 else y - (-x) % y := by
  have h1 := neg_ediv_f hy hx
  obtain ⟨q, r, e1, e2, e3, e4, e5⟩ := ed_facts (x := x) hy
  obtain ⟨q', r', f1, f2, f3, f4, f5⟩ := ed_facts (x := -x) hy
  rw [e1, f1, f2] at h1
  rw [e2, f2]
  split
  · rename_i h
    rw [if_pos h] at h1
    have : q * y = -(q' * y) := by rw [h1, Int.neg_mul]
    omega
  · rename_i h
    rw [if_neg h] at h1
    have : q * y = -(q' * y) - y := by rw [h1, Int.sub_mul, Int.neg_mul, Int.one_mul]
    omega
theorem ediv_b {x y : Int} (hy : 0 < y) : (0 ≤ x → 0 ≤ x / y ∧ x / y ≤ x) ∧ (x < 0 → x / y < 0 ∧ x ≤ x / y) := by
  constructor
  · intro h
    exact ⟨Int.ediv_nonneg h (by omega), Int.ediv_le_self _ h⟩
  · intro h
    have h1 := neg_ediv_f hy h
    have h2 : 0 ≤ -x := by omega
    have h3 := Int.ediv_nonneg h2 (Int.le_of_lt hy)
    have h4 := Int.ediv_le_self y h2
    obtain ⟨q, r, e1, e2, e3, e4, e5⟩ := ed_facts (x := -x) hy
    rw [h1, e1, e2]
    rw [e1] at h3 h4
    split
    · rename_i h6
      have : q ≠ 0 := fun hq => by rw [hq] at e3; omega
      omega
    · rename_i h6
      have : q ≠ -x := fun hq => by
        rcases Int.lt_or_le y 2 with hy2 | hy2
        · have : y = 1 := by omega
          subst this
          omega
        · have h7 : q * y = q + q * (y - 1) := by rw [Int.mul_sub]; omega
          have h8 : 0 ≤ q * (y - 1) := Int.mul_nonneg h3 (by omega)
          omega
      omega

theorem td_facts {x y : Int} (hy : 0 < y) : ∃ q r : Int, x.tdiv y = q ∧ x.tmod y = r ∧ x = q * y + r ∧ (0 ≤ x → 0 ≤ r ∧ r < y) ∧ (x < 0 → -y < r ∧ r ≤ 0) ∧ x / y = (if x < 0 ∧ r ≠ 0 then q - 1 else q) ∧ x % y = (if r < 0 then r + y else r) ∧ (0 ≤ x → 0 ≤ q ∧ q ≤ x) ∧ (x < 0 → q ≤ 0 ∧ x ≤ q) := by
  refine ⟨x.tdiv y, x.tmod y, rfl, rfl, by rw [Int.mul_comm]; exact (Int.mul_tdiv_add_tmod x y).symm, ?_⟩
  rw [fdiv_t hy, tmod_t hy]
  by_cases h : 0 ≤ x
  · rw [if_pos h, if_pos h]
    have h1 := Int.emod_nonneg x (show y ≠ 0 by omega)
    have h2 := Int.emod_lt_of_pos x hy
    have h3 := (ediv_b hy).1 h
    refine ⟨fun _ => ⟨h1, h2⟩, fun h' => by omega, ?_, ?_, fun _ => h3, fun h' => by omega⟩
    · rw [if_neg (by omega)]
    · rw [if_neg (by omega)]
  · have hx : x < 0 := by omega
    rw [if_neg h, if_neg h]
    have h1 := Int.emod_nonneg (-x) (show y ≠ 0 by omega)
    have h2 := Int.emod_lt_of_pos (-x) hy
    have h3 := neg_ediv_f hy hx
    have h4 := neg_emod_f hy hx
    have h5 := (ediv_b (x := -x) hy).1 (by omega)
    generalize (-x) / y = q at *
    generalize (-x) % y = r at *
    refine ⟨fun h' => by omega, fun _ => by omega, ?_, ?_, fun h' => by omega, fun _ => by omega⟩
    · rw [h3]; split <;> split <;> omega
    · rw [h4]; split <;> split <;> omega

theorem c_fdI {K : Nat} {σ : Mem} {x y : Int} (hx : i32 x) (hy : i32 y) (h0 : 0 < y) : RetV K mJ9_floorDiv_7cf53 [aI x, aI y] σ (aI (x / y)) := by
  refine Ret.of [some (aI x), some (aI y), none] rfl (by decide +kernel) (Nat.le_of_ble_eq_true rfl) ?_
  obtain ⟨q, r, e1, e2, e3, e4, e5, e6, e7, e8, e9⟩ := td_facts (x := x) h0
  refine g_iload_n dJ9_floorDiv_7cf53_0 rfl ?_
  refine g_iload_n dJ9_floorDiv_7cf53_1 rfl ?_
  refine g_idiv dJ9_floorDiv_7cf53_2 (by omega) (by omega) (by omega) ?_
  rw [e1]
  refine g_istore_n (i := 2) dJ9_floorDiv_7cf53_3 rfl (by decide) ?_
  refine g_iload_n dJ9_floorDiv_7cf53_4 rfl ?_
  refine g_iload_n dJ9_floorDiv_7cf53_5 rfl ?_
  refine g_ixor dJ9_floorDiv_7cf53_6 (by omega) (by omega) (fun z hz hzs => ?_)
  refine g_if_ge (tgt := 21) dJ9_floorDiv_7cf53_7 (by decide) (by omega) (fun h7 => ?_) (fun h7 => ?_)
  · refine g_iload_n dJ9_floorDiv_7cf53_21 rfl ?_
    exact g_iret dJ9_floorDiv_7cf53_22 trivial ⟨by congr 2; rw [e6]; split <;> omega, rfl⟩
  · refine g_iload_n dJ9_floorDiv_7cf53_10 rfl ?_
    refine g_iload_n dJ9_floorDiv_7cf53_11 rfl ?_
    refine g_imul dJ9_floorDiv_7cf53_12 ?_
    refine g_iload_n dJ9_floorDiv_7cf53_13 rfl ?_
    refine g_icmp_eq (tgt := 21) dJ9_floorDiv_7cf53_14 (by decide) (by omega) (by omega) (fun h14 => ?_) (fun h14 => ?_)
    · refine g_iload_n dJ9_floorDiv_7cf53_21 rfl ?_
      exact g_iret dJ9_floorDiv_7cf53_22 trivial ⟨by congr 2; rw [e6]; split <;> omega, rfl⟩
    · refine g_iload_n dJ9_floorDiv_7cf53_17 rfl ?_
      refine g_iconst dJ9_floorDiv_7cf53_18 ?_
      refine g_isub dJ9_floorDiv_7cf53_19 ?_
      exact g_iret dJ9_floorDiv_7cf53_20 trivial ⟨by congr 2; rw [e6]; split <;> omega, rfl⟩

theorem c_fdL {K : Nat} {σ : Mem} {x y : Int} (hx : i64 x) (hy : i64 y) (h0 : 0 < y) : RetV K mJ9_floorDiv_f86c9 [aL x, aL y] σ (aL (x / y)) := by
  refine Ret.of [some (aL x), none, some (aL y), none, none, none] rfl (by decide +kernel) (Nat.le_of_ble_eq_true rfl) ?_
  obtain ⟨q, r, e1, e2, e3, e4, e5, e6, e7, e8, e9⟩ := td_facts (x := x) h0
  refine g_lload_n dJ9_floorDiv_f86c9_0 rfl ?_
  refine g_lload_n dJ9_floorDiv_f86c9_1 rfl ?_
  refine g_ldiv dJ9_floorDiv_f86c9_2 (by omega) (by omega) (by omega) ?_
  rw [e1]
  refine g_lstore dJ9_floorDiv_f86c9_3 (by decide) ?_
  refine g_lload_n dJ9_floorDiv_f86c9_5 rfl ?_
  refine g_lload_n dJ9_floorDiv_f86c9_6 rfl ?_
  refine g_lxor dJ9_floorDiv_f86c9_7 (by omega) (by omega) (fun z hz hzs => ?_)
  refine g_lconst (v := 0) dJ9_floorDiv_f86c9_8 (by decide) ?_
  refine g_lcmp_ge (tgt := 27) dJ9_floorDiv_f86c9_9 dJ9_floorDiv_f86c9_10 (by decide) (by omega) (by omega) (fun h9 => ?_) (fun h9 => ?_)
  · refine g_lload dJ9_floorDiv_f86c9_27 rfl ?_
    exact g_lret dJ9_floorDiv_f86c9_29 trivial ⟨by congr 2; rw [e6]; split <;> omega, rfl⟩
  · refine g_lload dJ9_floorDiv_f86c9_13 rfl ?_
    refine g_lload_n dJ9_floorDiv_f86c9_15 rfl ?_
    refine g_lmul dJ9_floorDiv_f86c9_16 ?_
    refine g_lload_n dJ9_floorDiv_f86c9_17 rfl ?_
    refine g_lcmp_eq (tgt := 27) dJ9_floorDiv_f86c9_18 dJ9_floorDiv_f86c9_19 (by decide) (by omega) (by omega) (fun h18 => ?_) (fun h18 => ?_)
    · refine g_lload dJ9_floorDiv_f86c9_27 rfl ?_
      exact g_lret dJ9_floorDiv_f86c9_29 trivial ⟨by congr 2; rw [e6]; split <;> omega, rfl⟩
    · refine g_lload dJ9_floorDiv_f86c9_22 rfl ?_
      refine g_lconst (v := 1) dJ9_floorDiv_f86c9_24 (by decide) ?_
      refine g_lsub dJ9_floorDiv_f86c9_25 ?_
      exact g_lret dJ9_floorDiv_f86c9_26 trivial ⟨by congr 2; rw [e6]; split <;> omega, rfl⟩

theorem c_fm {K : Nat} {σ : Mem} {x y : Int} (hx : i32 x) (hy : i32 y) (h0 : 0 < y) : RetV K mJ9_floorMod_7cf53 [aI x, aI y] σ (aI (x % y)) := by
  refine Ret.of [some (aI x), some (aI y), none] rfl (by decide +kernel) (Nat.le_of_ble_eq_true rfl) ?_
  obtain ⟨q, r, e1, e2, e3, e4, e5, e6, e7, e8, e9⟩ := td_facts (x := x) h0
  refine g_iload_n dJ9_floorMod_7cf53_0 rfl ?_
  refine g_iload_n dJ9_floorMod_7cf53_1 rfl ?_
  refine g_irem dJ9_floorMod_7cf53_2 (by omega) (by omega) (by omega) ?_
  rw [e2]
  refine g_istore_n (i := 2) dJ9_floorMod_7cf53_3 rfl (by decide) ?_
  refine g_iload_n dJ9_floorMod_7cf53_4 rfl ?_
  refine g_iload_n dJ9_floorMod_7cf53_5 rfl ?_
  refine g_ixor dJ9_floorMod_7cf53_6 (by omega) (by omega) (fun z hz hzs => ?_)
  refine g_if_ge (tgt := 18) dJ9_floorMod_7cf53_7 (by decide) (by omega) (fun h7 => ?_) (fun h7 => ?_)
  · refine g_iload_n dJ9_floorMod_7cf53_18 rfl ?_
    exact g_iret dJ9_floorMod_7cf53_19 trivial ⟨by congr 2; rw [e7]; split <;> omega, rfl⟩
  · refine g_iload_n dJ9_floorMod_7cf53_10 rfl ?_
    refine g_if_eq (tgt := 18) dJ9_floorMod_7cf53_11 (by decide) (by omega) (fun h11 => ?_) (fun h11 => ?_)
    · refine g_iload_n dJ9_floorMod_7cf53_18 rfl ?_
      exact g_iret dJ9_floorMod_7cf53_19 trivial ⟨by congr 2; rw [e7]; split <;> omega, rfl⟩
    · refine g_iload_n dJ9_floorMod_7cf53_14 rfl ?_
      refine g_iload_n dJ9_floorMod_7cf53_15 rfl ?_
      refine g_iadd dJ9_floorMod_7cf53_16 ?_
      exact g_iret dJ9_floorMod_7cf53_17 trivial ⟨by congr 2; rw [e7]; split <;> omega, rfl⟩
