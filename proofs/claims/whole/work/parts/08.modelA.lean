theorem c_isIn {K : Nat} {σ : Mem} (v : Int) (lo : Int) (hi : Int) (h1 : i32 v) (h2 : i32 lo) (h3 : i32 hi) : RetV K mX7_isIn [aI v, aI lo, aI hi] σ (aI (b2i (lo ≤ v ∧ v ≤ hi))) := by
  refine Ret.of [some (aI v), some (aI lo), some (aI hi)] rfl (plainFor_of_name (by decide)) (Nat.le_of_ble_eq_true rfl) ?_
  refine g_iload_n dX7_isIn_0 rfl ?_
  refine g_iload_n dX7_isIn_1 rfl ?_
  refine g_icmp_lt (tgt := 14) dX7_isIn_2 (by decide) (by omega) (by omega) (fun h2 => ?_) (fun h2 => ?_)
  · refine g_iconst dX7_isIn_14 ?_
    exact g_iret dX7_isIn_15 (by first | exact Or.inl rfl | exact Or.inr rfl | exact b2i_ok) (by first | exact aI_b2i1 (by omega) rfl | exact aI_b2i0 (by omega) rfl)
  · refine g_iload_n dX7_isIn_5 rfl ?_
    refine g_iload_n dX7_isIn_6 rfl ?_
    refine g_icmp_gt (tgt := 14) dX7_isIn_7 (by decide) (by omega) (by omega) (fun h7 => ?_) (fun h7 => ?_)
    · refine g_iconst dX7_isIn_14 ?_
      exact g_iret dX7_isIn_15 (by first | exact Or.inl rfl | exact Or.inr rfl | exact b2i_ok) (by first | exact aI_b2i1 (by omega) rfl | exact aI_b2i0 (by omega) rfl)
    · refine g_iconst dX7_isIn_10 ?_
      refine g_goto (tgt := 15) dX7_isIn_11 (by decide) ?_
      exact g_iret dX7_isIn_15 (by first | exact Or.inl rfl | exact Or.inr rfl | exact b2i_ok) (by first | exact aI_b2i1 (by omega) rfl | exact aI_b2i0 (by omega) rfl)

theorem c_isHole {b : Int} {V σ : Mem} (hi : Inv b V) (h : RM V σ) (k : Int) (hk : i32 k) : RetV 41 mX7_isHole [aR 30, aI k] σ (aI (b2i (0 ≤ k ∧ k < V 0 0))) := by
  refine Ret.of [some (aR 30), some (aI k)] rfl (plainFor_of_name (by decide)) (Nat.le_of_ble_eq_true rfl) ?_
  have hN := hi.N
  refine g_iload_n dX7_isHole_0 rfl ?_
  refine g_iconst dX7_isHole_1 ?_
  refine g_aload_n dX7_isHole_2 rfl ?_
  refine g_getI (ji := 0) rfl dX7_isHole_3 fX7_58 rfl rfl (by decide) ?_
  rw [h.N]
  refine g_iconst dX7_isHole_6 ?_
  refine g_isub dX7_isHole_7 ?_
  refine g_pS3 dX7_isHole_8 sX7_70 (by decide) (by decide) (c_isIn _ _ _ hk (by omega) (by omega)) ?_
  exact g_iret dX7_isHole_11 (by first | exact Or.inl rfl | exact Or.inr rfl | exact b2i_ok) ⟨congrArg (fun x => some (aI x)) (b2i_iff (by omega)), rfl⟩

theorem c_isGone {b : Int} {V σ : Mem} (hi : Inv b V) (h : RM V σ) (s : Int) (h0 : 0 ≤ s) (h1 : s < V 0 0) : RetV 41 mX7_isGone [aR 30, aI s] σ (aI (b2i (V 1 s = 4))) := by
  refine Ret.of [some (aR 30), some (aI s)] rfl (plainFor_of_name (by decide)) (Nat.le_of_ble_eq_true rfl) ?_
  have hN := hi.N
  have hk := hi.kind s h0 h1
  refine g_aload_n dX7_isGone_0 rfl ?_
  refine g_getR dX7_isGone_1 fX7_7 rfl rfl (by decide) ?_
  refine g_iload_n dX7_isGone_4 rfl ?_
  refine g_iaload dX7_isGone_5 rfl (by decide) (by omega) (by omega) (by decide) ?_
  rw [h.kind _ (by omega) (by omega)]
  refine g_iconst dX7_isGone_6 ?_
  refine g_icmp_ne (tgt := 14) dX7_isGone_7 (by decide) (by omega) (by omega) (fun h7 => ?_) (fun h7 => ?_)
  · refine g_iconst dX7_isGone_14 ?_
    exact g_iret dX7_isGone_15 (by first | exact Or.inl rfl | exact Or.inr rfl | exact b2i_ok) (by first | exact aI_b2i1 (by omega) rfl | exact aI_b2i0 (by omega) rfl)
  · refine g_iconst dX7_isGone_10 ?_
    refine g_goto (tgt := 15) dX7_isGone_11 (by decide) ?_
    exact g_iret dX7_isGone_15 (by first | exact Or.inl rfl | exact Or.inr rfl | exact b2i_ok) (by first | exact aI_b2i1 (by omega) rfl | exact aI_b2i0 (by omega) rfl)

theorem c_isKind {K : Nat} {σ : Mem} (k : Int) (hk : i32 k) : RetV K mX7_isKind [aI k] σ (aI (b2i ((0 ≤ k ∧ k ≤ 3) ∨ k = 5))) := by
  refine Ret.of [some (aI k)] rfl (plainFor_of_name (by decide)) (Nat.le_of_ble_eq_true rfl) ?_
  refine g_iload_n dX7_isKind_0 rfl ?_
  refine g_iconst dX7_isKind_1 ?_
  refine g_iconst dX7_isKind_2 ?_
  refine g_pS3 dX7_isKind_3 sX7_70 (by decide) (by decide) (c_isIn _ _ _ hk (by omega) (by omega)) ?_
  refine g_ifb_ne (tgt := 14) dX7_isKind_6 (by decide) (fun h6 => ?_) (fun h6 => ?_)
  · refine g_iconst dX7_isKind_14 ?_
    refine g_goto (tgt := 19) dX7_isKind_15 (by decide) ?_
    exact g_iret dX7_isKind_19 (by first | exact Or.inl rfl | exact Or.inr rfl | exact b2i_ok) (by first | exact aI_b2i1 (by omega) rfl | exact aI_b2i0 (by omega) rfl)
  · refine g_iload_n dX7_isKind_9 rfl ?_
    refine g_iconst dX7_isKind_10 ?_
    refine g_icmp_ne (tgt := 18) dX7_isKind_11 (by decide) (by omega) (by omega) (fun h11 => ?_) (fun h11 => ?_)
    · refine g_iconst dX7_isKind_18 ?_
      exact g_iret dX7_isKind_19 (by first | exact Or.inl rfl | exact Or.inr rfl | exact b2i_ok) (by first | exact aI_b2i1 (by omega) rfl | exact aI_b2i0 (by omega) rfl)
    · refine g_iconst dX7_isKind_14 ?_
      refine g_goto (tgt := 19) dX7_isKind_15 (by decide) ?_
      exact g_iret dX7_isKind_19 (by first | exact Or.inl rfl | exact Or.inr rfl | exact b2i_ok) (by first | exact aI_b2i1 (by omega) rfl | exact aI_b2i0 (by omega) rfl)

theorem c_leans {b : Int} {V σ : Mem} (hi : Inv b V) (h : RM V σ) (s : Int) (h0 : 0 ≤ s) (h1 : s < V 0 0) : RetV 41 mX7_leans [aR 30, aI s] σ (aI (leanK (V 1 s))) := by
  refine Ret.of [some (aR 30), some (aI s), none] rfl (plainFor_of_name (by decide)) (Nat.le_of_ble_eq_true rfl) ?_
  have hN := hi.N
  have hk := hi.kind s h0 h1
  refine g_aload_n dX7_leans_0 rfl ?_
  refine g_getR dX7_leans_1 fX7_7 rfl rfl (by decide) ?_
  refine g_iload_n dX7_leans_4 rfl ?_
  refine g_iaload dX7_leans_5 rfl (by decide) (by omega) (by omega) (by decide) ?_
  rw [h.kind _ (by omega) (by omega)]
  refine g_istore_n (i := 2) dX7_leans_6 rfl (by decide) ?_
  refine g_iload_n dX7_leans_7 rfl ?_
  refine g_iconst dX7_leans_8 ?_
  refine g_icmp_eq (tgt := 17) dX7_leans_9 (by decide) (by omega) (by omega) (fun h9 => ?_) (fun h9 => ?_)
  · refine g_iconst dX7_leans_17 ?_
    refine g_goto (tgt := 36) dX7_leans_18 (by decide) ?_
    exact g_iret dX7_leans_36 trivial ⟨by unfold leanK; congr 2; omega, rfl⟩
  · refine g_iload_n dX7_leans_12 rfl ?_
    refine g_iconst dX7_leans_13 ?_
    refine g_icmp_ne (tgt := 21) dX7_leans_14 (by decide) (by omega) (by omega) (fun h14 => ?_) (fun h14 => ?_)
    · refine g_iload_n dX7_leans_21 rfl ?_
      refine g_iconst dX7_leans_22 ?_
      refine g_icmp_eq (tgt := 31) dX7_leans_23 (by decide) (by omega) (by omega) (fun h23 => ?_) (fun h23 => ?_)
      · refine g_iconst dX7_leans_31 ?_
        refine g_goto (tgt := 36) dX7_leans_32 (by decide) ?_
        exact g_iret dX7_leans_36 trivial ⟨by unfold leanK; congr 2; omega, rfl⟩
      · refine g_iload_n dX7_leans_26 rfl ?_
        refine g_iconst dX7_leans_27 ?_
        refine g_icmp_ne (tgt := 35) dX7_leans_28 (by decide) (by omega) (by omega) (fun h28 => ?_) (fun h28 => ?_)
        · refine g_iconst dX7_leans_35 ?_
          exact g_iret dX7_leans_36 trivial ⟨by unfold leanK; congr 2; omega, rfl⟩
        · refine g_iconst dX7_leans_31 ?_
          refine g_goto (tgt := 36) dX7_leans_32 (by decide) ?_
          exact g_iret dX7_leans_36 trivial ⟨by unfold leanK; congr 2; omega, rfl⟩
    · refine g_iconst dX7_leans_17 ?_
      refine g_goto (tgt := 36) dX7_leans_18 (by decide) ?_
      exact g_iret dX7_leans_36 trivial ⟨by unfold leanK; congr 2; omega, rfl⟩

theorem c_force {b : Int} {V σ : Mem} (hi : Inv b V) (h : RM V σ) (s : Int) (h0 : 0 ≤ s) (h1 : s < V 0 0) : RetV 41 mX7_force [aR 30, aI s] σ (aI (forceK (V 1 s))) := by
  refine Ret.of [some (aR 30), some (aI s)] rfl (plainFor_of_name (by decide)) (Nat.le_of_ble_eq_true rfl) ?_
  have hN := hi.N
  have hk := hi.kind s h0 h1
  refine g_aload_n dX7_force_0 rfl ?_
  refine g_getR dX7_force_1 fX7_7 rfl rfl (by decide) ?_
  refine g_iload_n dX7_force_4 rfl ?_
  refine g_iaload dX7_force_5 rfl (by decide) (by omega) (by omega) (by decide) ?_
  rw [h.kind _ (by omega) (by omega)]
  refine g_iconst dX7_force_6 ?_
  refine g_icmp_ne (tgt := 14) dX7_force_7 (by decide) (by omega) (by omega) (fun h7 => ?_) (fun h7 => ?_)
  · refine g_aload_n dX7_force_14 rfl ?_
    refine g_iload_n dX7_force_15 rfl ?_
    refine g_pV1 dX7_force_16 qX7_74 rfl (by decide) (by decide) (by decide) (c_isGone hi h s h0 h1) ?_
    refine g_ifb_eq (tgt := 26) dX7_force_19 (by decide) (fun h19 => ?_) (fun h19 => ?_)
    · refine g_iconst dX7_force_26 ?_
      exact g_iret dX7_force_27 trivial ⟨by unfold forceK; congr 2; omega, rfl⟩
    · refine g_iconst dX7_force_22 ?_
      refine g_goto (tgt := 27) dX7_force_23 (by decide) ?_
      exact g_iret dX7_force_27 trivial ⟨by unfold forceK; congr 2; omega, rfl⟩
  · refine g_iconst dX7_force_10 ?_
    refine g_goto (tgt := 27) dX7_force_11 (by decide) ?_
    exact g_iret dX7_force_27 trivial ⟨by unfold forceK; congr 2; omega, rfl⟩

theorem c_steps {b : Int} {V σ : Mem} (hi : Inv b V) (h : RM V σ) (i : Int) (j : Int) (h0 : 0 ≤ i) (h1 : i < V 0 0) (h2 : 0 ≤ j) (h3 : j < V 0 0) : RetV 41 mX7_steps [aR 30, aI i, aI j] σ (aI (stp (V 0 0) i j)) := by
  refine Ret.of [some (aR 30), some (aI i), some (aI j), none] rfl (plainFor_of_name (by decide)) (Nat.le_of_ble_eq_true rfl) ?_
  have hN := hi.N
  refine g_iload_n dX7_steps_0 rfl ?_
  refine g_iload_n dX7_steps_1 rfl ?_
  refine g_icmp_ge (tgt := 11) dX7_steps_2 (by decide) (by omega) (by omega) (fun h2 => ?_) (fun h2 => ?_)
  · refine g_iload_n dX7_steps_11 rfl ?_
    refine g_iload_n dX7_steps_12 rfl ?_
    refine g_isub dX7_steps_13 ?_
    refine g_istore_n (i := 3) dX7_steps_14 rfl (by decide) ?_
    refine g_iload_n dX7_steps_15 rfl ?_
    refine g_aload_n dX7_steps_16 rfl ?_
    refine g_getI (ji := 0) rfl dX7_steps_17 fX7_58 rfl rfl (by decide) ?_
    rw [h.N]
    refine g_iload_n dX7_steps_20 rfl ?_
    refine g_isub dX7_steps_21 ?_
    refine g_icmp_ge (tgt := 29) dX7_steps_22 (by decide) (by omega) (by omega) (fun h22 => ?_) (fun h22 => ?_)
    · refine g_aload_n dX7_steps_29 rfl ?_
      refine g_getI (ji := 0) rfl dX7_steps_30 fX7_58 rfl rfl (by decide) ?_
      rw [h.N]
      refine g_iload_n dX7_steps_33 rfl ?_
      refine g_isub dX7_steps_34 ?_
      exact g_iret dX7_steps_35 trivial ⟨by unfold stp dst; congr 2; omega, rfl⟩
    · refine g_iload_n dX7_steps_25 rfl ?_
      refine g_goto (tgt := 35) dX7_steps_26 (by decide) ?_
      exact g_iret dX7_steps_35 trivial ⟨by unfold stp dst; congr 2; omega, rfl⟩
  · refine g_iload_n dX7_steps_5 rfl ?_
    refine g_iload_n dX7_steps_6 rfl ?_
    refine g_isub dX7_steps_7 ?_
    refine g_goto (tgt := 14) dX7_steps_8 (by decide) ?_
    refine g_istore_n (i := 3) dX7_steps_14 rfl (by decide) ?_
    refine g_iload_n dX7_steps_15 rfl ?_
    refine g_aload_n dX7_steps_16 rfl ?_
    refine g_getI (ji := 0) rfl dX7_steps_17 fX7_58 rfl rfl (by decide) ?_
    rw [h.N]
    refine g_iload_n dX7_steps_20 rfl ?_
    refine g_isub dX7_steps_21 ?_
    refine g_icmp_ge (tgt := 29) dX7_steps_22 (by decide) (by omega) (by omega) (fun h22 => ?_) (fun h22 => ?_)
    · refine g_aload_n dX7_steps_29 rfl ?_
      refine g_getI (ji := 0) rfl dX7_steps_30 fX7_58 rfl rfl (by decide) ?_
      rw [h.N]
      refine g_iload_n dX7_steps_33 rfl ?_
      refine g_isub dX7_steps_34 ?_
      exact g_iret dX7_steps_35 trivial ⟨by unfold stp dst; congr 2; omega, rfl⟩
    · refine g_iload_n dX7_steps_25 rfl ?_
      refine g_goto (tgt := 35) dX7_steps_26 (by decide) ?_
      exact g_iret dX7_steps_35 trivial ⟨by unfold stp dst; congr 2; omega, rfl⟩

theorem c_tell {b : Int} {V σ : Mem} (hi : Inv b V) (h : RM V σ) (d : Int) (t : Nat) (ht : t < 6) (h0 : 0 ≤ d) (h1 : d < 17) : RetV 41 mX7_tell [aR 30, aI (t : Int), aI d] σ (aI (V (8 + t) d)) := by
  refine Ret.of [some (aR 30), some (aI (t : Int)), some (aI d)] rfl (plainFor_of_name (by decide)) (Nat.le_of_ble_eq_true rfl) ?_
  have hz := hi.size t ht
  have hd := hi.tab t ht d h0 h1
  refine g_iload_n dX7_tell_0 rfl ?_
  refine g_aload_n dX7_tell_1 rfl ?_
  refine g_getR dX7_tell_2 fX7_23 rfl rfl (by decide) ?_
  refine g_iload_n dX7_tell_5 rfl ?_
  refine g_iaload dX7_tell_6 rfl (by decide) (by omega) (by omega) (by decide) ?_
  rw [h.size t ht]
  refine g_icmp_ge (tgt := 24) dX7_tell_7 (by decide) (by omega) (by omega) (fun h7 => ?_) (fun h7 => ?_)
  · refine g_iconst dX7_tell_24 ?_
    exact g_iret dX7_tell_25 trivial ⟨by first | rfl | (congr 2; omega), rfl⟩
  · refine g_aload_n dX7_tell_10 rfl ?_
    refine g_getR dX7_tell_11 fX7_26 rfl rfl (by decide) ?_
    refine g_bipush (v := 17) dX7_tell_14 (by decide) ?_
    refine g_iload_n dX7_tell_16 rfl ?_
    refine g_imul dX7_tell_17 ?_
    refine g_iload_n dX7_tell_18 rfl ?_
    refine g_iadd dX7_tell_19 ?_
    refine g_iaload dX7_tell_20 rfl (by decide) (by omega) (by omega) (by decide) ?_
    rw [h.tab t ht d h0 h1]
    refine g_goto (tgt := 25) dX7_tell_21 (by decide) ?_
    exact g_iret dX7_tell_25 trivial ⟨by first | rfl | (congr 2; omega), rfl⟩

theorem c_cut {K : Nat} {σ : Mem} (x : Int) (y : Int) (hx : i64 x) (hy : i64 y) (h0 : 0 < y) : RetV K mX7_cut [aL x, aL y] σ (aL (x / y)) := by
  refine Ret.of [some (aL x), none, some (aL y), none, none, none] rfl (plainFor_of_name (by decide)) (Nat.le_of_ble_eq_true rfl) ?_
  obtain ⟨q, r, e1, e2, e3, e4, e5, e6, e7, e8, e9⟩ := td_facts (x := x) h0
  refine g_lload_n dX7_cut_0 rfl ?_
  refine g_lload_n dX7_cut_1 rfl ?_
  refine g_ldiv dX7_cut_2 (by omega) (by omega) (by omega) ?_
  rw [e1]
  refine g_lstore dX7_cut_3 (by decide) ?_
  refine g_lload_n dX7_cut_5 rfl ?_
  refine g_lload_n dX7_cut_6 rfl ?_
  refine g_lrem dX7_cut_7 (by omega) (by omega) (by omega) ?_
  refine g_lconst (v := 0) dX7_cut_8 (by decide) ?_
  refine g_lcmp_eq (tgt := 26) dX7_cut_9 dX7_cut_10 (by decide) (by omega) (by omega) (fun h9 => ?_) (fun h9 => ?_)
  · refine g_lload dX7_cut_26 rfl ?_
    exact g_lret dX7_cut_28 trivial ⟨by congr 2; rw [e6]; split <;> omega, rfl⟩
  · refine g_lload_n dX7_cut_13 rfl ?_
    refine g_lconst (v := 0) dX7_cut_14 (by decide) ?_
    refine g_lcmp_ge (tgt := 26) dX7_cut_15 dX7_cut_16 (by decide) (by omega) (by omega) (fun h15 => ?_) (fun h15 => ?_)
    · refine g_lload dX7_cut_26 rfl ?_
      exact g_lret dX7_cut_28 trivial ⟨by congr 2; rw [e6]; split <;> omega, rfl⟩
    · refine g_lload dX7_cut_19 rfl ?_
      refine g_lconst (v := 1) dX7_cut_21 (by decide) ?_
      refine g_lsub dX7_cut_22 ?_
      refine g_goto (tgt := 28) dX7_cut_23 (by decide) ?_
      exact g_lret dX7_cut_28 trivial ⟨by congr 2; rw [e6]; split <;> omega, rfl⟩
