theorem RX.kind' {V σ : Mem} {s k : Int} (h : RX V σ)  : RX (up V 1 s k) (up σ 11 s k) := by
  unfold RX at h ⊢
  obtain ⟨h1, h2, h3, h4, h5, h6, h7, h8, h9, h10⟩ := h
  refine ⟨by simpa (disch := omega) only [up_cell, unb] using h1,
    ?_,
    fun r hr j a b => by simpa (disch := omega) only [up_cell, unb] using h3 r hr j a (by simpa (disch := omega) only [up_cell] using b),
    fun t ht => by simpa (disch := omega) only [up_cell, unb] using h4 t ht,
    fun t ht d a b => by simpa (disch := omega) only [up_cell, unb] using h5 t ht d a b,
    fun i a b => by simpa (disch := omega) only [up_cell, unb] using h6 i a b,
    by simpa (disch := omega) only [up_cell, unb] using h7,
    fun i a b => by simpa (disch := omega) only [up_cell, unb] using h8 i a (by simpa (disch := omega) only [up_cell] using b),
    by simpa (disch := omega) only [up_cell, unb] using h9,
    by simpa (disch := omega) only [up_cell, unb] using h10⟩
  · refine fun j a b => ⟨?_, by simpa (disch := omega) only [up_cell] using (h2 j a (by simpa (disch := omega) only [up_cell] using b)).2⟩
    by_cases hj : j = s
    · subst hj; rw [up_same, up_same]
    · rw [up_ne (Or.inr hj), up_ne (Or.inr hj)]; exact (h2 j a (by simpa (disch := omega) only [up_cell] using b)).1

theorem RX.pull' {V σ : Mem} {s k : Int} (h : RX V σ)  : RX (up V 2 s k) (up σ 12 s k) := by
  unfold RX at h ⊢
  obtain ⟨h1, h2, h3, h4, h5, h6, h7, h8, h9, h10⟩ := h
  refine ⟨by simpa (disch := omega) only [up_cell, unb] using h1,
    ?_,
    fun r hr j a b => by simpa (disch := omega) only [up_cell, unb] using h3 r hr j a (by simpa (disch := omega) only [up_cell] using b),
    fun t ht => by simpa (disch := omega) only [up_cell, unb] using h4 t ht,
    fun t ht d a b => by simpa (disch := omega) only [up_cell, unb] using h5 t ht d a b,
    fun i a b => by simpa (disch := omega) only [up_cell, unb] using h6 i a b,
    by simpa (disch := omega) only [up_cell, unb] using h7,
    fun i a b => by simpa (disch := omega) only [up_cell, unb] using h8 i a (by simpa (disch := omega) only [up_cell] using b),
    by simpa (disch := omega) only [up_cell, unb] using h9,
    by simpa (disch := omega) only [up_cell, unb] using h10⟩
  · refine fun j a b => ⟨by simpa (disch := omega) only [up_cell] using (h2 j a (by simpa (disch := omega) only [up_cell] using b)).1, ?_⟩
    by_cases hj : j = s
    · subst hj; rw [up_same, up_same]
    · rw [up_ne (Or.inr hj), up_ne (Or.inr hj)]; exact (h2 j a (by simpa (disch := omega) only [up_cell] using b)).2

theorem RX.lim' {V σ : Mem} {s k : Int} (h : RX V σ)  : RX (up V 14 s k) (up σ 22 s k) := by
  unfold RX at h ⊢
  obtain ⟨h1, h2, h3, h4, h5, h6, h7, h8, h9, h10⟩ := h
  refine ⟨by simpa (disch := omega) only [up_cell, unb] using h1,
    fun j a b => by simpa (disch := omega) only [up_cell, unb] using h2 j a (by simpa (disch := omega) only [up_cell] using b),
    fun r hr j a b => by simpa (disch := omega) only [up_cell, unb] using h3 r hr j a (by simpa (disch := omega) only [up_cell] using b),
    fun t ht => by simpa (disch := omega) only [up_cell, unb] using h4 t ht,
    fun t ht d a b => by simpa (disch := omega) only [up_cell, unb] using h5 t ht d a b,
    ?_,
    by simpa (disch := omega) only [up_cell, unb] using h7,
    fun i a b => by simpa (disch := omega) only [up_cell, unb] using h8 i a (by simpa (disch := omega) only [up_cell] using b),
    by simpa (disch := omega) only [up_cell, unb] using h9,
    by simpa (disch := omega) only [up_cell, unb] using h10⟩
  · intro j a b
    by_cases hj : j = s
    · subst hj; rw [up_same, up_same]
    · rw [up_ne (Or.inr hj), up_ne (Or.inr hj)]; exact h6 j a b

theorem RX.tab' {V σ : Mem} {t : Nat} {p k : Int} (h : RX V σ) (ht : t < 6) : RX (up V (8 + t) p k) (up σ (3 + t) p k) := by
  unfold RX at h ⊢
  obtain ⟨h1, h2, h3, h4, h5, h6, h7, h8, h9, h10⟩ := h
  refine ⟨by simpa (disch := omega) only [up_cell, unb] using h1,
    fun j a b => by simpa (disch := omega) only [up_cell, unb] using h2 j a (by simpa (disch := omega) only [up_cell] using b),
    fun r hr j a b => by simpa (disch := omega) only [up_cell, unb] using h3 r hr j a (by simpa (disch := omega) only [up_cell] using b),
    fun t ht => by simpa (disch := omega) only [up_cell, unb] using h4 t ht,
    ?_,
    fun i a b => by simpa (disch := omega) only [up_cell, unb] using h6 i a b,
    by simpa (disch := omega) only [up_cell, unb] using h7,
    fun i a b => by simpa (disch := omega) only [up_cell, unb] using h8 i a (by simpa (disch := omega) only [up_cell] using b),
    by simpa (disch := omega) only [up_cell, unb] using h9,
    by simpa (disch := omega) only [up_cell, unb] using h10⟩
  · intro u hu d a b
    by_cases hj : u = t ∧ d = p
    · obtain ⟨rfl, rfl⟩ := hj; rw [up_same, up_same]
    · rw [up_ne (by omega), up_ne (by omega)]; exact h5 u hu d a b

theorem RX.lac' {V σ : Mem} {r o R c : Int} (h : RX V σ)  : RX (up (up (up (up V 18 0 r) 18 1 o) 18 2 R) 18 3 c) (up (up (up (up σ 29 0 r) 29 1 o) 29 2 R) 29 3 c) := by
  unfold RX at h ⊢
  obtain ⟨h1, h2, h3, h4, h5, h6, h7, h8, h9, h10⟩ := h
  refine ⟨by simpa (disch := omega) only [up_cell, unb] using h1,
    fun j a b => by simpa (disch := omega) only [up_cell, unb] using h2 j a (by simpa (disch := omega) only [up_cell] using b),
    fun r hr j a b => by simpa (disch := omega) only [up_cell, unb] using h3 r hr j a (by simpa (disch := omega) only [up_cell] using b),
    fun t ht => by simpa (disch := omega) only [up_cell, unb] using h4 t ht,
    fun t ht d a b => by simpa (disch := omega) only [up_cell, unb] using h5 t ht d a b,
    fun i a b => by simpa (disch := omega) only [up_cell, unb] using h6 i a b,
    by simpa (disch := omega) only [up_cell, unb] using h7,
    fun i a b => by simpa (disch := omega) only [up_cell, unb] using h8 i a (by simpa (disch := omega) only [up_cell] using b),
    ?_,
    by simpa (disch := omega) only [up_cell, unb] using h10⟩
  · refine ⟨?_, ?_, ?_, ?_⟩ <;> simp [up]

theorem y_kind {b : Int} {V σ : Mem} (hi : Inv b V) (h : RX V σ) (s : Int) (k : Int) (i_s : i32 s) (i_k : i32 k)  : Ret 41 mX6_kind [aR 0, aI s, aI k] σ (OX σ (p_kind V s k)) := by
  refine Ret.of [some (aR 0), some (aI s), some (aI k), none] rfl (plainFor_of_name (by decide)) (Nat.le_of_ble_eq_true rfl) ?_
  have hN := hi.N2
  refine g_aload_n dX6_kind_0 rfl ?_
  refine g_getR dX6_kind_1 fX6_19 rfl rfl (by decide) ?_
  refine g_iload_n dX6_kind_4 rfl ?_
  refine g_pV1 dX6_kind_5 qX6_68 rfl (by decide) (by decide) (Nat.le_of_ble_eq_true rfl) (x_hasHole hi.i0 h.r0 _ (by omega)) ?_
  refine g_ifb_eq (tgt := 18) dX6_kind_8 (by decide) (fun h8 => ?_) (fun h8 => ?_)
  · refine g_ldc dX6_kind_18 kX6_63 ?_
    exact g_iret dX6_kind_20 trivial (OX.of (q := (cBad, V)) (by unfold p_kind; rw [if_pos (by omega)]) rfl h keepX.rfl)
  · refine g_iload_n dX6_kind_11 rfl ?_
    refine g_pS1 dX6_kind_12 sX6_72 (by decide) (Nat.le_of_ble_eq_true rfl) (x_canBePut _ (by omega)) ?_
    refine g_ifb_ne (tgt := 21) dX6_kind_15 (by decide) (fun h15 => ?_) (fun h15 => ?_)
    · refine g_aload_n dX6_kind_21 rfl ?_
      refine g_getR dX6_kind_22 fX6_19 rfl rfl (by decide) ?_
      refine g_iload_n dX6_kind_25 rfl ?_
      refine g_pV1 dX6_kind_26 qX6_75 rfl (by decide) (by decide) (Nat.le_of_ble_eq_true rfl) (x_isGone hi.i0 h.r0 _ (by omega) (by omega)) ?_
      refine g_ifb_eq (tgt := 35) dX6_kind_29 (by decide) (fun h29 => ?_) (fun h29 => ?_)
      · refine g_aload_n dX6_kind_35 rfl ?_
        refine g_getR dX6_kind_36 fX6_19 rfl rfl (by decide) ?_
        refine g_getR dX6_kind_39 fX6_79 rfl rfl (by decide) ?_
        refine g_iload_n dX6_kind_42 rfl ?_
        refine g_iaload dX6_kind_43 rfl (by decide) (by omega) (by omega) (by decide) ?_
        rw [h.kind _ (by omega) (by omega)]
        refine g_istore_n (i := 3) dX6_kind_44 rfl (by decide) ?_
        refine g_aload_n dX6_kind_45 rfl ?_
        refine g_getR dX6_kind_46 fX6_19 rfl rfl (by decide) ?_
        refine g_getR dX6_kind_49 fX6_79 rfl rfl (by decide) ?_
        refine g_iload_n dX6_kind_52 rfl ?_
        refine g_iload_n dX6_kind_53 rfl ?_
        refine g_iastore dX6_kind_54 rfl (by decide) (by decide) (by omega) (by omega) (by decide) ?_
        refine g_iload_n dX6_kind_55 rfl ?_
        exact g_iret dX6_kind_56 trivial (OX.of (q := (V 1 s, up V 1 s k)) (by unfold p_kind; rw [if_neg (by omega), if_neg (by omega)]) rfl h.kind' (keepX.rfl.up (by decide)))
      · refine g_ldc dX6_kind_32 kX6_78 ?_
        exact g_iret dX6_kind_34 trivial (OX.of (q := (cNo, V)) (by unfold p_kind; rw [if_neg (by omega), if_pos (by omega)]) rfl h keepX.rfl)
    · refine g_ldc dX6_kind_18 kX6_63 ?_
      exact g_iret dX6_kind_20 trivial (OX.of (q := (cBad, V)) (by unfold p_kind; rw [if_pos (by omega)]) rfl h keepX.rfl)

theorem y_limit {b : Int} {V σ : Mem} (hi : Inv b V) (h : RX V σ) (i : Int) (v : Int) (i_i : i32 i) (i_v : i32 v)  : Ret 41 mX6_limit [aR 0, aI i, aI v] σ (OX σ (p_limit V i v)) := by
  refine Ret.of [some (aR 0), some (aI i), some (aI v), none] rfl (plainFor_of_name (by decide)) (Nat.le_of_ble_eq_true rfl) ?_
  have hN := hi.N2
  refine g_iload_n dX6_limit_0 rfl ?_
  refine g_iconst dX6_limit_1 ?_
  refine g_iconst dX6_limit_2 ?_
  refine g_pS3 dX6_limit_3 sX6_85 (by decide) (Nat.le_of_ble_eq_true rfl) (x_lies _ _ _ (by omega) (by omega) (by omega)) ?_
  refine g_ifb_eq (tgt := 19) dX6_limit_6 (by decide) (fun h6 => ?_) (fun h6 => ?_)
  · refine g_ldc dX6_limit_19 kX6_63 ?_
    exact g_iret dX6_limit_21 trivial (OX.of (q := (cBad, V)) (by unfold p_limit; rw [if_pos (by omega)]) rfl h keepX.rfl)
  · refine g_iload_n dX6_limit_9 rfl ?_
    refine g_iconst dX6_limit_10 ?_
    refine g_ldc dX6_limit_11 kX6_122 ?_
    refine g_pS3 dX6_limit_13 sX6_85 (by decide) (Nat.le_of_ble_eq_true rfl) (x_lies _ _ _ (by omega) (by omega) (by omega)) ?_
    refine g_ifb_ne (tgt := 22) dX6_limit_16 (by decide) (fun h16 => ?_) (fun h16 => ?_)
    · refine g_aload_n dX6_limit_22 rfl ?_
      refine g_getR dX6_limit_23 fX6_23 rfl rfl (by decide) ?_
      refine g_iload_n dX6_limit_26 rfl ?_
      refine g_iaload dX6_limit_27 rfl (by decide) (by omega) (by omega) (by decide) ?_
      rw [h.lim _ (by omega) (by omega)]
      refine g_istore_n (i := 3) dX6_limit_28 rfl (by decide) ?_
      refine g_aload_n dX6_limit_29 rfl ?_
      refine g_getR dX6_limit_30 fX6_23 rfl rfl (by decide) ?_
      refine g_iload_n dX6_limit_33 rfl ?_
      refine g_iload_n dX6_limit_34 rfl ?_
      refine g_iastore dX6_limit_35 rfl (by decide) (by decide) (by omega) (by omega) (by decide) ?_
      refine g_iload_n dX6_limit_36 rfl ?_
      exact g_iret dX6_limit_37 trivial (OX.of (q := (V 14 i, up V 14 i v)) (by unfold p_limit; rw [if_neg (by omega)]) rfl h.lim' (keepX.rfl.up (by decide)))
    · refine g_ldc dX6_limit_19 kX6_63 ?_
      exact g_iret dX6_limit_21 trivial (OX.of (q := (cBad, V)) (by unfold p_limit; rw [if_pos (by omega)]) rfl h keepX.rfl)

theorem y_tune {b : Int} {V σ : Mem} (hi : Inv b V) (h : RX V σ) (s : Int) (v : Int) (i_s : i32 s) (i_v : i32 v)  : Ret 41 mX6_tune [aR 0, aI s, aI v] σ (OX σ (p_tune V s v)) := by
  refine Ret.of [some (aR 0), some (aI s), some (aI v), none] rfl (plainFor_of_name (by decide)) (Nat.le_of_ble_eq_true rfl) ?_
  have hN := hi.N2
  refine g_aload_n dX6_tune_0 rfl ?_
  refine g_getR dX6_tune_1 fX6_19 rfl rfl (by decide) ?_
  refine g_iload_n dX6_tune_4 rfl ?_
  refine g_pV1 dX6_tune_5 qX6_68 rfl (by decide) (by decide) (Nat.le_of_ble_eq_true rfl) (x_hasHole hi.i0 h.r0 _ (by omega)) ?_
  refine g_ifb_eq (tgt := 22) dX6_tune_8 (by decide) (fun h8 => ?_) (fun h8 => ?_)
  · refine g_ldc dX6_tune_22 kX6_63 ?_
    exact g_iret dX6_tune_24 trivial (OX.of (q := (cBad, V)) (by unfold p_tune; rw [if_pos (by omega)]) rfl h keepX.rfl)
  · refine g_iload_n dX6_tune_11 rfl ?_
    refine g_ldc dX6_tune_12 kX6_123 ?_
    refine g_ldc dX6_tune_14 kX6_124 ?_
    refine g_pS3 dX6_tune_16 sX6_85 (by decide) (Nat.le_of_ble_eq_true rfl) (x_lies _ _ _ (by omega) (by omega) (by omega)) ?_
    refine g_ifb_ne (tgt := 25) dX6_tune_19 (by decide) (fun h19 => ?_) (fun h19 => ?_)
    · refine g_aload_n dX6_tune_25 rfl ?_
      refine g_getR dX6_tune_26 fX6_19 rfl rfl (by decide) ?_
      refine g_iload_n dX6_tune_29 rfl ?_
      refine g_pV1 dX6_tune_30 qX6_75 rfl (by decide) (by decide) (Nat.le_of_ble_eq_true rfl) (x_isGone hi.i0 h.r0 _ (by omega) (by omega)) ?_
      refine g_ifb_eq (tgt := 39) dX6_tune_33 (by decide) (fun h33 => ?_) (fun h33 => ?_)
      · refine g_aload_n dX6_tune_39 rfl ?_
        refine g_getR dX6_tune_40 fX6_19 rfl rfl (by decide) ?_
        refine g_getR dX6_tune_43 fX6_125 rfl rfl (by decide) ?_
        refine g_iload_n dX6_tune_46 rfl ?_
        refine g_iaload dX6_tune_47 rfl (by decide) (by omega) (by omega) (by decide) ?_
        rw [h.pull _ (by omega) (by omega)]
        refine g_istore_n (i := 3) dX6_tune_48 rfl (by decide) ?_
        refine g_aload_n dX6_tune_49 rfl ?_
        refine g_getR dX6_tune_50 fX6_19 rfl rfl (by decide) ?_
        refine g_getR dX6_tune_53 fX6_125 rfl rfl (by decide) ?_
        refine g_iload_n dX6_tune_56 rfl ?_
        refine g_iload_n dX6_tune_57 rfl ?_
        refine g_iastore dX6_tune_58 rfl (by decide) (by decide) (by omega) (by omega) (by decide) ?_
        refine g_iload_n dX6_tune_59 rfl ?_
        exact g_iret dX6_tune_60 trivial (OX.of (q := (V 2 s, up V 2 s v)) (by unfold p_tune; rw [if_neg (by omega), if_neg (by omega)]) rfl h.pull' (keepX.rfl.up (by decide)))
      · refine g_ldc dX6_tune_36 kX6_78 ?_
        exact g_iret dX6_tune_38 trivial (OX.of (q := (cNo, V)) (by unfold p_tune; rw [if_neg (by omega), if_pos (by omega)]) rfl h keepX.rfl)
    · refine g_ldc dX6_tune_22 kX6_63 ?_
      exact g_iret dX6_tune_24 trivial (OX.of (q := (cBad, V)) (by unfold p_tune; rw [if_pos (by omega)]) rfl h keepX.rfl)

theorem y_lace {b : Int} {V σ : Mem} (hi : Inv b V) (h : RX V σ) (r : Int) (o : Int) (R : Int) (c : Int) (i_r : i32 r) (i_o : i32 o) (i_R : i32 R) (i_c : i32 c)  : Ret 41 mX6_lace [aR 0, aI r, aI o, aI R, aI c] σ (OX σ (p_lace V r o R c)) := by
  refine Ret.of [some (aR 0), some (aI r), some (aI o), some (aI R), some (aI c)] rfl (plainFor_of_name (by decide)) (Nat.le_of_ble_eq_true rfl) ?_
  have hN := hi.N2
  refine g_iload_n dX6_lace_0 rfl ?_
  refine g_iconst dX6_lace_1 ?_
  refine g_sipush (v := 200) dX6_lace_2 (by decide) ?_
  refine g_pS3 dX6_lace_5 sX6_85 (by decide) (Nat.le_of_ble_eq_true rfl) (x_lies _ _ _ (by omega) (by omega) (by omega)) ?_
  refine g_ifb_eq (tgt := 44) dX6_lace_8 (by decide) (fun h8 => ?_) (fun h8 => ?_)
  · refine g_ldc dX6_lace_44 kX6_63 ?_
    exact g_iret dX6_lace_46 trivial (OX.of (q := (cBad, V)) (by unfold p_lace; rw [if_pos (by omega)]) rfl h keepX.rfl)
  · refine g_iload_n dX6_lace_11 rfl ?_
    refine g_iconst dX6_lace_12 ?_
    refine g_sipush (v := 200) dX6_lace_13 (by decide) ?_
    refine g_pS3 dX6_lace_16 sX6_85 (by decide) (Nat.le_of_ble_eq_true rfl) (x_lies _ _ _ (by omega) (by omega) (by omega)) ?_
    refine g_ifb_eq (tgt := 44) dX6_lace_19 (by decide) (fun h19 => ?_) (fun h19 => ?_)
    · refine g_ldc dX6_lace_44 kX6_63 ?_
      exact g_iret dX6_lace_46 trivial (OX.of (q := (cBad, V)) (by unfold p_lace; rw [if_pos (by omega)]) rfl h keepX.rfl)
    · refine g_iload_n dX6_lace_22 rfl ?_
      refine g_iconst dX6_lace_23 ?_
      refine g_sipush (v := 1000) dX6_lace_24 (by decide) ?_
      refine g_pS3 dX6_lace_27 sX6_85 (by decide) (Nat.le_of_ble_eq_true rfl) (x_lies _ _ _ (by omega) (by omega) (by omega)) ?_
      refine g_ifb_eq (tgt := 44) dX6_lace_30 (by decide) (fun h30 => ?_) (fun h30 => ?_)
      · refine g_ldc dX6_lace_44 kX6_63 ?_
        exact g_iret dX6_lace_46 trivial (OX.of (q := (cBad, V)) (by unfold p_lace; rw [if_pos (by omega)]) rfl h keepX.rfl)
      · refine g_iload dX6_lace_33 rfl ?_
        refine g_iconst dX6_lace_35 ?_
        refine g_bipush (v := 7) dX6_lace_36 (by decide) ?_
        refine g_pS3 dX6_lace_38 sX6_85 (by decide) (Nat.le_of_ble_eq_true rfl) (x_lies _ _ _ (by omega) (by omega) (by omega)) ?_
        refine g_ifb_ne (tgt := 47) dX6_lace_41 (by decide) (fun h41 => ?_) (fun h41 => ?_)
        · refine g_aload_n dX6_lace_47 rfl ?_
          refine g_getR dX6_lace_48 fX6_55 rfl rfl (by decide) ?_
          refine g_iload_n dX6_lace_51 rfl ?_
          refine g_putI (ji := 0) rfl dX6_lace_52 vX6_217 rfl rfl (by decide) (by decide) ?_
          refine g_aload_n dX6_lace_55 rfl ?_
          refine g_getR dX6_lace_56 fX6_55 rfl rfl (by decide) ?_
          refine g_iload_n dX6_lace_59 rfl ?_
          refine g_putI (ji := 1) rfl dX6_lace_60 vX6_220 rfl rfl (by decide) (by decide) ?_
          refine g_aload_n dX6_lace_63 rfl ?_
          refine g_getR dX6_lace_64 fX6_55 rfl rfl (by decide) ?_
          refine g_iload_n dX6_lace_67 rfl ?_
          refine g_putI (ji := 2) rfl dX6_lace_68 vX6_223 rfl rfl (by decide) (by decide) ?_
          refine g_aload_n dX6_lace_71 rfl ?_
          refine g_getR dX6_lace_72 fX6_55 rfl rfl (by decide) ?_
          refine g_iload dX6_lace_75 rfl ?_
          refine g_putI (ji := 3) rfl dX6_lace_77 vX6_226 rfl rfl (by decide) (by decide) ?_
          refine g_iconst dX6_lace_80 ?_
          exact g_iret dX6_lace_81 trivial (OX.of (q := (0, up (up (up (up V 18 0 r) 18 1 o) 18 2 R) 18 3 c)) (by unfold p_lace; rw [if_neg (by omega)]) rfl h.lac' ((((keepX.rfl.up (by decide)).up (by decide)).up (by decide)).up (by decide)))
        · refine g_ldc dX6_lace_44 kX6_63 ?_
          exact g_iret dX6_lace_46 trivial (OX.of (q := (cBad, V)) (by unfold p_lace; rw [if_pos (by omega)]) rfl h keepX.rfl)

theorem y_anew {b : Int} {V σ : Mem} (hi : Inv b V) (h : RX V σ) (s : Int) (k : Int) (v : Int) (i_s : i32 s) (i_k : i32 k) (i_v : i32 v)  : Ret 41 mX6_anew [aR 0, aI s, aI k, aI v] σ (OX σ (p_anew V s k v)) := by
  refine Ret.of [some (aR 0), some (aI s), some (aI k), some (aI v)] rfl (plainFor_of_name (by decide)) (Nat.le_of_ble_eq_true rfl) ?_
  have hN := hi.N2
  refine g_aload_n dX6_anew_0 rfl ?_
  refine g_getR dX6_anew_1 fX6_19 rfl rfl (by decide) ?_
  refine g_iload_n dX6_anew_4 rfl ?_
  refine g_pV1 dX6_anew_5 qX6_68 rfl (by decide) (by decide) (Nat.le_of_ble_eq_true rfl) (x_hasHole hi.i0 h.r0 _ (by omega)) ?_
  refine g_ifb_eq (tgt := 28) dX6_anew_8 (by decide) (fun h8 => ?_) (fun h8 => ?_)
  · refine g_ldc dX6_anew_28 kX6_63 ?_
    exact g_iret dX6_anew_30 trivial (OX.of (q := (cBad, V)) (by unfold p_anew; rw [if_pos (by omega)]) rfl h keepX.rfl)
  · refine g_iload_n dX6_anew_11 rfl ?_
    refine g_pS1 dX6_anew_12 sX6_72 (by decide) (Nat.le_of_ble_eq_true rfl) (x_canBePut _ (by omega)) ?_
    refine g_ifb_eq (tgt := 28) dX6_anew_15 (by decide) (fun h15 => ?_) (fun h15 => ?_)
    · refine g_ldc dX6_anew_28 kX6_63 ?_
      exact g_iret dX6_anew_30 trivial (OX.of (q := (cBad, V)) (by unfold p_anew; rw [if_pos (by omega)]) rfl h keepX.rfl)
    · refine g_iload_n dX6_anew_18 rfl ?_
      refine g_iconst dX6_anew_19 ?_
      refine g_ldc dX6_anew_20 kX6_124 ?_
      refine g_pS3 dX6_anew_22 sX6_85 (by decide) (Nat.le_of_ble_eq_true rfl) (x_lies _ _ _ (by omega) (by omega) (by omega)) ?_
      refine g_ifb_ne (tgt := 31) dX6_anew_25 (by decide) (fun h25 => ?_) (fun h25 => ?_)
      · refine g_aload_n dX6_anew_31 rfl ?_
        refine g_getR dX6_anew_32 fX6_19 rfl rfl (by decide) ?_
        refine g_iload_n dX6_anew_35 rfl ?_
        refine g_pV1 dX6_anew_36 qX6_75 rfl (by decide) (by decide) (Nat.le_of_ble_eq_true rfl) (x_isGone hi.i0 h.r0 _ (by omega) (by omega)) ?_
        refine g_ifb_ne (tgt := 45) dX6_anew_39 (by decide) (fun h39 => ?_) (fun h39 => ?_)
        · refine g_aload_n dX6_anew_45 rfl ?_
          refine g_getR dX6_anew_46 fX6_19 rfl rfl (by decide) ?_
          refine g_getR dX6_anew_49 fX6_79 rfl rfl (by decide) ?_
          refine g_iload_n dX6_anew_52 rfl ?_
          refine g_iload_n dX6_anew_53 rfl ?_
          refine g_iastore dX6_anew_54 rfl (by decide) (by decide) (by omega) (by omega) (by decide) ?_
          refine g_aload_n dX6_anew_55 rfl ?_
          refine g_getR dX6_anew_56 fX6_19 rfl rfl (by decide) ?_
          refine g_getR dX6_anew_59 fX6_125 rfl rfl (by decide) ?_
          refine g_iload_n dX6_anew_62 rfl ?_
          refine g_iload_n dX6_anew_63 rfl ?_
          refine g_iastore dX6_anew_64 rfl (by decide) (by decide) (by omega) (by omega) (by decide) ?_
          refine g_iconst dX6_anew_65 ?_
          exact g_iret dX6_anew_66 trivial (OX.of (q := (0, up (up V 1 s k) 2 s v)) (by unfold p_anew; rw [if_neg (by omega), if_neg (by omega)]) rfl h.kind'.pull' ((keepX.rfl.up (by decide)).up (by decide)))
        · refine g_ldc dX6_anew_42 kX6_78 ?_
          exact g_iret dX6_anew_44 trivial (OX.of (q := (cNo, V)) (by unfold p_anew; rw [if_neg (by omega), if_pos (by omega)]) rfl h keepX.rfl)
      · refine g_ldc dX6_anew_28 kX6_63 ?_
        exact g_iret dX6_anew_30 trivial (OX.of (q := (cBad, V)) (by unfold p_anew; rw [if_pos (by omega)]) rfl h keepX.rfl)
