theorem k_kind {b : Int} {V σ : Mem} (hi : Inv b V) (h : RM V σ) (s : Int) (k : Int) (i_s : i32 s) (i_k : i32 k)  : Ret 41 mX7_kind [aR 30, aI s, aI k] σ (OM σ (p_kind V s k)) := by
  refine Ret.of [some (aR 30), some (aI s), some (aI k), none] rfl (plainFor_of_name (by decide)) (Nat.le_of_ble_eq_true rfl) ?_
  have hN := hi.N
  refine g_aload_n dX7_kind_0 rfl ?_
  refine g_iload_n dX7_kind_1 rfl ?_
  refine g_pV1 dX7_kind_2 qX7_79 rfl (by decide) (by decide) (by decide) (c_isHole hi h _ (by omega)) ?_
  refine g_ifb_eq (tgt := 15) dX7_kind_5 (by decide) (fun h5 => ?_) (fun h5 => ?_)
  · refine g_ldc dX7_kind_15 kX7_78 ?_
    exact g_iret dX7_kind_17 trivial (OM.of (q := (cBad, V)) (by unfold p_kind; rw [if_pos (by omega)]) rfl h keepM.rfl)
  · refine g_iload_n dX7_kind_8 rfl ?_
    refine g_pS1 dX7_kind_9 sX7_82 (by decide) (by decide) (c_isKind _ (by omega)) ?_
    refine g_ifb_ne (tgt := 18) dX7_kind_12 (by decide) (fun h12 => ?_) (fun h12 => ?_)
    · refine g_aload_n dX7_kind_18 rfl ?_
      refine g_iload_n dX7_kind_19 rfl ?_
      refine g_pV1 dX7_kind_20 qX7_74 rfl (by decide) (by decide) (by decide) (c_isGone hi h _ (by omega) (by omega)) ?_
      refine g_ifb_eq (tgt := 29) dX7_kind_23 (by decide) (fun h23 => ?_) (fun h23 => ?_)
      · refine g_aload_n dX7_kind_29 rfl ?_
        refine g_getR dX7_kind_30 fX7_7 rfl rfl (by decide) ?_
        refine g_iload_n dX7_kind_33 rfl ?_
        refine g_iaload dX7_kind_34 rfl (by decide) (by omega) (by omega) (by decide) ?_
        rw [h.kind _ (by omega) (by omega)]
        refine g_istore_n (i := 3) dX7_kind_35 rfl (by decide) ?_
        refine g_aload_n dX7_kind_36 rfl ?_
        refine g_getR dX7_kind_37 fX7_7 rfl rfl (by decide) ?_
        refine g_iload_n dX7_kind_40 rfl ?_
        refine g_iload_n dX7_kind_41 rfl ?_
        refine g_iastore dX7_kind_42 rfl (by decide) (by decide) (by omega) (by omega) (by decide) ?_
        refine g_iload_n dX7_kind_43 rfl ?_
        exact g_iret dX7_kind_44 trivial (OM.of (q := (V 1 s, up V 1 s k)) (by unfold p_kind; rw [if_neg (by omega), if_neg (by omega)]) rfl h.kind' (keepM.rfl.up (by decide) (by decide)))
      · refine g_ldc dX7_kind_26 kX7_85 ?_
        exact g_iret dX7_kind_28 trivial (OM.of (q := (cNo, V)) (by unfold p_kind; rw [if_neg (by omega), if_pos (by omega)]) rfl h keepM.rfl)
    · refine g_ldc dX7_kind_15 kX7_78 ?_
      exact g_iret dX7_kind_17 trivial (OM.of (q := (cBad, V)) (by unfold p_kind; rw [if_pos (by omega)]) rfl h keepM.rfl)

theorem k_enter {b : Int} {V σ : Mem} (hi : Inv b V) (h : RM V σ) (t : Int) (p : Int) (v : Int) (i_t : i32 t) (i_p : i32 p) (i_v : i32 v)  : Ret 41 mX7_enter [aR 30, aI t, aI p, aI v] σ (OM σ (p_enter V t p v)) := by
  refine Ret.of [some (aR 30), some (aI t), some (aI p), some (aI v), none] rfl (plainFor_of_name (by decide)) (Nat.le_of_ble_eq_true rfl) ?_
  have hN := hi.N
  refine g_iload_n dX7_enter_0 rfl ?_
  refine g_iconst dX7_enter_1 ?_
  refine g_iconst dX7_enter_2 ?_
  refine g_pS3 dX7_enter_3 sX7_70 (by decide) (by decide) (c_isIn _ _ _ (by omega) (by omega) (by omega)) ?_
  refine g_ifb_eq (tgt := 22) dX7_enter_6 (by decide) (fun h6 => ?_) (fun h6 => ?_)
  · refine g_ldc dX7_enter_22 kX7_78 ?_
    exact g_iret dX7_enter_24 trivial (OM.of (q := (cBad, V)) (by unfold p_enter; rw [if_pos (by omega)]) rfl h keepM.rfl)
  · refine g_iload_n dX7_enter_9 rfl ?_
    refine g_sipush (v := -1000) dX7_enter_10 (by decide) ?_
    refine g_sipush (v := 1000) dX7_enter_13 (by decide) ?_
    refine g_pS3 dX7_enter_16 sX7_70 (by decide) (by decide) (c_isIn _ _ _ (by omega) (by omega) (by omega)) ?_
    refine g_ifb_ne (tgt := 25) dX7_enter_19 (by decide) (fun h19 => ?_) (fun h19 => ?_)
    · obtain ⟨u, rfl⟩ : ∃ u : Nat, t = u := ⟨t.toNat, by omega⟩
      have hu : u < 6 := by omega
      have hz := hi.size u hu
      refine g_aload_n dX7_enter_25 rfl ?_
      refine g_getR dX7_enter_26 fX7_23 rfl rfl (by decide) ?_
      refine g_iload_n dX7_enter_29 rfl ?_
      refine g_iaload dX7_enter_30 rfl (by decide) (by omega) (by omega) (by decide) ?_
      rw [h.size u hu]
      refine g_if_ge (tgt := 37) dX7_enter_31 (by decide) (by omega) (fun h31 => ?_) (fun h31 => ?_)
      · refine g_iload_n dX7_enter_37 rfl ?_
        refine g_iconst dX7_enter_38 ?_
        refine g_aload_n dX7_enter_39 rfl ?_
        refine g_getR dX7_enter_40 fX7_23 rfl rfl (by decide) ?_
        refine g_iload_n dX7_enter_43 rfl ?_
        refine g_iaload dX7_enter_44 rfl (by decide) (by omega) (by omega) (by decide) ?_
        rw [h.size u hu]
        refine g_iconst dX7_enter_45 ?_
        refine g_isub dX7_enter_46 ?_
        refine g_pS3 dX7_enter_47 sX7_70 (by decide) (by decide) (c_isIn _ _ _ (by omega) (by omega) (by omega)) ?_
        refine g_ifb_ne (tgt := 56) dX7_enter_50 (by decide) (fun h50 => ?_) (fun h50 => ?_)
        · refine g_aload_n dX7_enter_56 rfl ?_
          refine g_getR dX7_enter_57 fX7_26 rfl rfl (by decide) ?_
          refine g_bipush (v := 17) dX7_enter_60 (by decide) ?_
          refine g_iload_n dX7_enter_62 rfl ?_
          refine g_imul dX7_enter_63 ?_
          refine g_iload_n dX7_enter_64 rfl ?_
          refine g_iadd dX7_enter_65 ?_
          refine g_iaload dX7_enter_66 rfl (by decide) (by omega) (by omega) (by decide) ?_
          rw [h.tab u hu p (by omega) (by omega)]
          refine g_istore dX7_enter_67 (by decide) ?_
          refine g_aload_n dX7_enter_69 rfl ?_
          refine g_getR dX7_enter_70 fX7_26 rfl rfl (by decide) ?_
          refine g_bipush (v := 17) dX7_enter_73 (by decide) ?_
          refine g_iload_n dX7_enter_75 rfl ?_
          refine g_imul dX7_enter_76 ?_
          refine g_iload_n dX7_enter_77 rfl ?_
          refine g_iadd dX7_enter_78 ?_
          refine g_iload_n dX7_enter_79 rfl ?_
          refine g_iastore dX7_enter_80 rfl (by decide) (by decide) (by omega) (by omega) (by decide) ?_
          refine g_iload dX7_enter_81 rfl ?_
          exact g_iret dX7_enter_83 trivial (OM.of (q := (V (8 + u) p, up V (8 + u) p v)) (by unfold p_enter; rw [if_neg (by omega), if_neg (by omega), if_neg (by omega), Int.toNat_natCast]) rfl (h.tab' hu (by omega) (by omega)) (keepM.rfl.up (by decide) (by decide)))
        · refine g_ldc dX7_enter_53 kX7_87 ?_
          exact g_iret dX7_enter_55 trivial (OM.of (q := (cIndex, V)) (by unfold p_enter; rw [if_neg (by omega), if_neg (by omega), if_pos (by omega)]) rfl h keepM.rfl)
      · refine g_ldc dX7_enter_34 kX7_86 ?_
        exact g_iret dX7_enter_36 trivial (OM.of (q := (cNothing, V)) (by unfold p_enter; rw [if_neg (by omega), if_pos (by omega)]) rfl h keepM.rfl)
    · refine g_ldc dX7_enter_22 kX7_78 ?_
      exact g_iret dX7_enter_24 trivial (OM.of (q := (cBad, V)) (by unfold p_enter; rw [if_pos (by omega)]) rfl h keepM.rfl)

theorem k_read {b : Int} {V σ : Mem} (hi : Inv b V) (h : RM V σ) (r : Int) (p : Int) (v : Int) (i_r : i32 r) (i_p : i32 p) (i_v : i32 v)  : Ret 41 mX7_read [aR 30, aI r, aI p, aI v] σ (OM σ (p_read V r p v)) := by
  refine Ret.of [some (aR 30), some (aI r), some (aI p), some (aI v), none] rfl (plainFor_of_name (by decide)) (Nat.le_of_ble_eq_true rfl) ?_
  have hN := hi.N
  refine g_iload_n dX7_read_0 rfl ?_
  refine g_iconst dX7_read_1 ?_
  refine g_iconst dX7_read_2 ?_
  refine g_pS3 dX7_read_3 sX7_70 (by decide) (by decide) (c_isIn _ _ _ (by omega) (by omega) (by omega)) ?_
  refine g_ifb_eq (tgt := 30) dX7_read_6 (by decide) (fun h6 => ?_) (fun h6 => ?_)
  · refine g_ldc dX7_read_30 kX7_78 ?_
    exact g_iret dX7_read_32 trivial (OM.of (q := (cBad, V)) (by unfold p_read; rw [if_pos (by omega)]) rfl h keepM.rfl)
  · refine g_aload_n dX7_read_9 rfl ?_
    refine g_iload_n dX7_read_10 rfl ?_
    refine g_pV1 dX7_read_11 qX7_79 rfl (by decide) (by decide) (by decide) (c_isHole hi h _ (by omega)) ?_
    refine g_ifb_eq (tgt := 30) dX7_read_14 (by decide) (fun h14 => ?_) (fun h14 => ?_)
    · refine g_ldc dX7_read_30 kX7_78 ?_
      exact g_iret dX7_read_32 trivial (OM.of (q := (cBad, V)) (by unfold p_read; rw [if_pos (by omega)]) rfl h keepM.rfl)
    · refine g_iload_n dX7_read_17 rfl ?_
      refine g_sipush (v := -10000) dX7_read_18 (by decide) ?_
      refine g_sipush (v := 9999) dX7_read_21 (by decide) ?_
      refine g_pS3 dX7_read_24 sX7_70 (by decide) (by decide) (c_isIn _ _ _ (by omega) (by omega) (by omega)) ?_
      refine g_ifb_ne (tgt := 33) dX7_read_27 (by decide) (fun h27 => ?_) (fun h27 => ?_)
      · obtain ⟨u, rfl⟩ : ∃ u : Nat, r = u := ⟨r.toNat, by omega⟩
        have hu : u < 2 := by omega
        refine g_aload_n dX7_read_33 rfl ?_
        refine g_getR dX7_read_34 fX7_20 rfl rfl (by decide) ?_
        refine g_bipush (v := 32) dX7_read_37 (by decide) ?_
        refine g_iload_n dX7_read_39 rfl ?_
        refine g_imul dX7_read_40 ?_
        refine g_iload_n dX7_read_41 rfl ?_
        refine g_iadd dX7_read_42 ?_
        refine g_iaload dX7_read_43 rfl (by decide) (by omega) (by omega) (by decide) ?_
        rw [h.read u hu p (by omega) (by omega)]
        refine g_istore dX7_read_44 (by decide) ?_
        refine g_aload_n dX7_read_46 rfl ?_
        refine g_getR dX7_read_47 fX7_20 rfl rfl (by decide) ?_
        refine g_bipush (v := 32) dX7_read_50 (by decide) ?_
        refine g_iload_n dX7_read_52 rfl ?_
        refine g_imul dX7_read_53 ?_
        refine g_iload_n dX7_read_54 rfl ?_
        refine g_iadd dX7_read_55 ?_
        refine g_iload_n dX7_read_56 rfl ?_
        refine g_iastore dX7_read_57 rfl (by decide) (by decide) (by omega) (by omega) (by decide) ?_
        refine g_aload_n dX7_read_58 rfl ?_
        refine g_iconst dX7_read_59 ?_
        refine g_putZ (ji := 15) rfl dX7_read_60 vX7_66 rfl rfl (by decide) (by decide) (by omega) ?_
        refine g_iload dX7_read_63 rfl ?_
        exact g_iret dX7_read_65 trivial (OM.of (q := (V (5 + u) p, up V (5 + u) p v)) (by unfold p_read; rw [if_neg (by omega), Int.toNat_natCast]) rfl (h.read' (by omega) hu (by omega) (by omega)) ((keepM.rfl.up (by decide) (by decide)).up (by decide) (by decide)))
      · refine g_ldc dX7_read_30 kX7_78 ?_
        exact g_iret dX7_read_32 trivial (OM.of (q := (cBad, V)) (by unfold p_read; rw [if_pos (by omega)]) rfl h keepM.rfl)

theorem k_limit {b : Int} {V σ : Mem} (hi : Inv b V) (h : RM V σ) (i : Int) (v : Int) (i_i : i32 i) (i_v : i32 v)  : Ret 41 mX7_limit [aR 30, aI i, aI v] σ (OM σ (p_limit V i v)) := by
  refine Ret.of [some (aR 30), some (aI i), some (aI v), none] rfl (plainFor_of_name (by decide)) (Nat.le_of_ble_eq_true rfl) ?_
  have hN := hi.N
  refine g_iload_n dX7_limit_0 rfl ?_
  refine g_iconst dX7_limit_1 ?_
  refine g_iconst dX7_limit_2 ?_
  refine g_pS3 dX7_limit_3 sX7_70 (by decide) (by decide) (c_isIn _ _ _ (by omega) (by omega) (by omega)) ?_
  refine g_ifb_eq (tgt := 19) dX7_limit_6 (by decide) (fun h6 => ?_) (fun h6 => ?_)
  · refine g_ldc dX7_limit_19 kX7_78 ?_
    exact g_iret dX7_limit_21 trivial (OM.of (q := (cBad, V)) (by unfold p_limit; rw [if_pos (by omega)]) rfl h keepM.rfl)
  · refine g_iload_n dX7_limit_9 rfl ?_
    refine g_iconst dX7_limit_10 ?_
    refine g_ldc dX7_limit_11 kX7_88 ?_
    refine g_pS3 dX7_limit_13 sX7_70 (by decide) (by decide) (c_isIn _ _ _ (by omega) (by omega) (by omega)) ?_
    refine g_ifb_ne (tgt := 22) dX7_limit_16 (by decide) (fun h16 => ?_) (fun h16 => ?_)
    · refine g_aload_n dX7_limit_22 rfl ?_
      refine g_getR dX7_limit_23 fX7_29 rfl rfl (by decide) ?_
      refine g_iload_n dX7_limit_26 rfl ?_
      refine g_iaload dX7_limit_27 rfl (by decide) (by omega) (by omega) (by decide) ?_
      rw [h.lim _ (by omega) (by omega)]
      refine g_istore_n (i := 3) dX7_limit_28 rfl (by decide) ?_
      refine g_aload_n dX7_limit_29 rfl ?_
      refine g_getR dX7_limit_30 fX7_29 rfl rfl (by decide) ?_
      refine g_iload_n dX7_limit_33 rfl ?_
      refine g_iload_n dX7_limit_34 rfl ?_
      refine g_iastore dX7_limit_35 rfl (by decide) (by decide) (by omega) (by omega) (by decide) ?_
      refine g_iload_n dX7_limit_36 rfl ?_
      exact g_iret dX7_limit_37 trivial (OM.of (q := (V 14 i, up V 14 i v)) (by unfold p_limit; rw [if_neg (by omega)]) rfl h.lim' (keepM.rfl.up (by decide) (by decide)))
    · refine g_ldc dX7_limit_19 kX7_78 ?_
      exact g_iret dX7_limit_21 trivial (OM.of (q := (cBad, V)) (by unfold p_limit; rw [if_pos (by omega)]) rfl h keepM.rfl)

theorem k_tune {b : Int} {V σ : Mem} (hi : Inv b V) (h : RM V σ) (s : Int) (v : Int) (i_s : i32 s) (i_v : i32 v)  : Ret 41 mX7_tune [aR 30, aI s, aI v] σ (OM σ (p_tune V s v)) := by
  refine Ret.of [some (aR 30), some (aI s), some (aI v), none] rfl (plainFor_of_name (by decide)) (Nat.le_of_ble_eq_true rfl) ?_
  have hN := hi.N
  refine g_aload_n dX7_tune_0 rfl ?_
  refine g_iload_n dX7_tune_1 rfl ?_
  refine g_pV1 dX7_tune_2 qX7_79 rfl (by decide) (by decide) (by decide) (c_isHole hi h _ (by omega)) ?_
  refine g_ifb_eq (tgt := 19) dX7_tune_5 (by decide) (fun h5 => ?_) (fun h5 => ?_)
  · refine g_ldc dX7_tune_19 kX7_78 ?_
    exact g_iret dX7_tune_21 trivial (OM.of (q := (cBad, V)) (by unfold p_tune; rw [if_pos (by omega)]) rfl h keepM.rfl)
  · refine g_iload_n dX7_tune_8 rfl ?_
    refine g_ldc dX7_tune_9 kX7_89 ?_
    refine g_ldc dX7_tune_11 kX7_90 ?_
    refine g_pS3 dX7_tune_13 sX7_70 (by decide) (by decide) (c_isIn _ _ _ (by omega) (by omega) (by omega)) ?_
    refine g_ifb_ne (tgt := 22) dX7_tune_16 (by decide) (fun h16 => ?_) (fun h16 => ?_)
    · refine g_aload_n dX7_tune_22 rfl ?_
      refine g_iload_n dX7_tune_23 rfl ?_
      refine g_pV1 dX7_tune_24 qX7_74 rfl (by decide) (by decide) (by decide) (c_isGone hi h _ (by omega) (by omega)) ?_
      refine g_ifb_eq (tgt := 33) dX7_tune_27 (by decide) (fun h27 => ?_) (fun h27 => ?_)
      · refine g_aload_n dX7_tune_33 rfl ?_
        refine g_getR dX7_tune_34 fX7_13 rfl rfl (by decide) ?_
        refine g_iload_n dX7_tune_37 rfl ?_
        refine g_laload dX7_tune_38 rfl (by decide) (by omega) (by omega) (by decide) ?_
        rw [h.pull _ (by omega) (by omega)]
        refine g_l2i dX7_tune_39 ?_
        refine g_istore_n (i := 3) dX7_tune_40 rfl (by decide) ?_
        refine g_aload_n dX7_tune_41 rfl ?_
        refine g_getR dX7_tune_42 fX7_13 rfl rfl (by decide) ?_
        refine g_iload_n dX7_tune_45 rfl ?_
        refine g_iload_n dX7_tune_46 rfl ?_
        refine g_i2l dX7_tune_47 (by omega) ?_
        refine g_lastore dX7_tune_48 rfl (by decide) (by decide) (by omega) (by omega) (by decide) ?_
        refine g_iload_n dX7_tune_49 rfl ?_
        exact g_iret dX7_tune_50 trivial (OM.of (q := (V 2 s, up V 2 s v)) (by unfold p_tune; rw [if_neg (by omega), if_neg (by omega)]) rfl h.pull' (keepM.rfl.up (by decide) (by decide)))
      · refine g_ldc dX7_tune_30 kX7_85 ?_
        exact g_iret dX7_tune_32 trivial (OM.of (q := (cNo, V)) (by unfold p_tune; rw [if_neg (by omega), if_pos (by omega)]) rfl h keepM.rfl)
    · refine g_ldc dX7_tune_19 kX7_78 ?_
      exact g_iret dX7_tune_21 trivial (OM.of (q := (cBad, V)) (by unfold p_tune; rw [if_pos (by omega)]) rfl h keepM.rfl)

theorem k_about {b : Int} {V σ : Mem} (hi : Inv b V) (h : RM V σ) (s : Int) (w : Int) (i_s : i32 s) (i_w : i32 w)  : Ret 41 mX7_about [aR 30, aI s, aI w] σ (OM σ (p_about V s w)) := by
  refine Ret.of [some (aR 30), some (aI s), some (aI w)] rfl (plainFor_of_name (by decide)) (Nat.le_of_ble_eq_true rfl) ?_
  have hN := hi.N
  refine g_aload_n dX7_about_0 rfl ?_
  refine g_iload_n dX7_about_1 rfl ?_
  refine g_pV1 dX7_about_2 qX7_79 rfl (by decide) (by decide) (by decide) (c_isHole hi h _ (by omega)) ?_
  refine g_ifb_eq (tgt := 17) dX7_about_5 (by decide) (fun h5 => ?_) (fun h5 => ?_)
  · refine g_ldc dX7_about_17 kX7_78 ?_
    exact g_iret dX7_about_19 trivial (OM.of (q := (cBad, V)) (by unfold p_about; rw [if_pos (by omega)]) rfl h keepM.rfl)
  · refine g_iload_n dX7_about_8 rfl ?_
    refine g_iconst dX7_about_9 ?_
    refine g_iconst dX7_about_10 ?_
    refine g_pS3 dX7_about_11 sX7_70 (by decide) (by decide) (c_isIn _ _ _ (by omega) (by omega) (by omega)) ?_
    refine g_ifb_ne (tgt := 20) dX7_about_14 (by decide) (fun h14 => ?_) (fun h14 => ?_)
    · refine g_iload_n dX7_about_20 rfl ?_
      refine g_if_ne (tgt := 33) dX7_about_21 (by decide) (by omega) (fun h21 => ?_) (fun h21 => ?_)
      · refine g_iload_n dX7_about_33 rfl ?_
        refine g_iconst dX7_about_34 ?_
        refine g_icmp_ne (tgt := 46) dX7_about_35 (by decide) (by omega) (by omega) (fun h35 => ?_) (fun h35 => ?_)
        · refine g_iload_n dX7_about_46 rfl ?_
          refine g_iconst dX7_about_47 ?_
          refine g_icmp_ne (tgt := 59) dX7_about_48 (by decide) (by omega) (by omega) (fun h48 => ?_) (fun h48 => ?_)
          · refine g_aload_n dX7_about_59 rfl ?_
            refine g_getR dX7_about_60 fX7_13 rfl rfl (by decide) ?_
            refine g_iload_n dX7_about_63 rfl ?_
            refine g_laload dX7_about_64 rfl (by decide) (by omega) (by omega) (by decide) ?_
            rw [h.pull _ (by omega) (by omega)]
            refine g_l2i dX7_about_65 ?_
            exact g_iret dX7_about_66 trivial (by first | exact (OM.of (q := (V 1 s, V)) (by unfold p_about; rw [if_neg (by omega), if_pos (by omega)]) rfl h keepM.rfl) | exact (OM.of (q := (leanK (V 1 s), V)) (by unfold p_about; rw [if_neg (by omega), if_neg (by omega), if_pos (by omega)]) rfl h keepM.rfl) | exact (OM.of (q := (forceK (V 1 s), V)) (by unfold p_about; rw [if_neg (by omega), if_neg (by omega), if_neg (by omega), if_pos (by omega)]) rfl h keepM.rfl) | exact (OM.of (q := (V 2 s, V)) (by unfold p_about; rw [if_neg (by omega), if_neg (by omega), if_neg (by omega), if_neg (by omega)]) rfl h keepM.rfl))
          · refine g_aload_n dX7_about_51 rfl ?_
            refine g_iload_n dX7_about_52 rfl ?_
            refine g_pV1 dX7_about_53 qX7_95 rfl (by decide) (by decide) (by decide) (c_force hi h _ (by omega) (by omega)) ?_
            refine g_goto (tgt := 66) dX7_about_56 (by decide) ?_
            exact g_iret dX7_about_66 trivial (by first | exact (OM.of (q := (V 1 s, V)) (by unfold p_about; rw [if_neg (by omega), if_pos (by omega)]) rfl h keepM.rfl) | exact (OM.of (q := (leanK (V 1 s), V)) (by unfold p_about; rw [if_neg (by omega), if_neg (by omega), if_pos (by omega)]) rfl h keepM.rfl) | exact (OM.of (q := (forceK (V 1 s), V)) (by unfold p_about; rw [if_neg (by omega), if_neg (by omega), if_neg (by omega), if_pos (by omega)]) rfl h keepM.rfl) | exact (OM.of (q := (V 2 s, V)) (by unfold p_about; rw [if_neg (by omega), if_neg (by omega), if_neg (by omega), if_neg (by omega)]) rfl h keepM.rfl))
        · refine g_aload_n dX7_about_38 rfl ?_
          refine g_iload_n dX7_about_39 rfl ?_
          refine g_pV1 dX7_about_40 qX7_91 rfl (by decide) (by decide) (by decide) (c_leans hi h _ (by omega) (by omega)) ?_
          refine g_goto (tgt := 66) dX7_about_43 (by decide) ?_
          exact g_iret dX7_about_66 trivial (by first | exact (OM.of (q := (V 1 s, V)) (by unfold p_about; rw [if_neg (by omega), if_pos (by omega)]) rfl h keepM.rfl) | exact (OM.of (q := (leanK (V 1 s), V)) (by unfold p_about; rw [if_neg (by omega), if_neg (by omega), if_pos (by omega)]) rfl h keepM.rfl) | exact (OM.of (q := (forceK (V 1 s), V)) (by unfold p_about; rw [if_neg (by omega), if_neg (by omega), if_neg (by omega), if_pos (by omega)]) rfl h keepM.rfl) | exact (OM.of (q := (V 2 s, V)) (by unfold p_about; rw [if_neg (by omega), if_neg (by omega), if_neg (by omega), if_neg (by omega)]) rfl h keepM.rfl))
      · refine g_aload_n dX7_about_24 rfl ?_
        refine g_getR dX7_about_25 fX7_7 rfl rfl (by decide) ?_
        refine g_iload_n dX7_about_28 rfl ?_
        refine g_iaload dX7_about_29 rfl (by decide) (by omega) (by omega) (by decide) ?_
        rw [h.kind _ (by omega) (by omega)]
        refine g_goto (tgt := 66) dX7_about_30 (by decide) ?_
        exact g_iret dX7_about_66 trivial (by first | exact (OM.of (q := (V 1 s, V)) (by unfold p_about; rw [if_neg (by omega), if_pos (by omega)]) rfl h keepM.rfl) | exact (OM.of (q := (leanK (V 1 s), V)) (by unfold p_about; rw [if_neg (by omega), if_neg (by omega), if_pos (by omega)]) rfl h keepM.rfl) | exact (OM.of (q := (forceK (V 1 s), V)) (by unfold p_about; rw [if_neg (by omega), if_neg (by omega), if_neg (by omega), if_pos (by omega)]) rfl h keepM.rfl) | exact (OM.of (q := (V 2 s, V)) (by unfold p_about; rw [if_neg (by omega), if_neg (by omega), if_neg (by omega), if_neg (by omega)]) rfl h keepM.rfl))
    · refine g_ldc dX7_about_17 kX7_78 ?_
      exact g_iret dX7_about_19 trivial (OM.of (q := (cBad, V)) (by unfold p_about; rw [if_pos (by omega)]) rfl h keepM.rfl)

theorem k_isOf {b : Int} {V σ : Mem} (hi : Inv b V) (h : RM V σ) (s : Int) (k : Int) (i_s : i32 s) (i_k : i32 k)  : Ret 41 mX7_isOf [aR 30, aI s, aI k] σ (OM σ (p_isOf V s k)) := by
  refine Ret.of [some (aR 30), some (aI s), some (aI k), none, none] rfl (plainFor_of_name (by decide)) (Nat.le_of_ble_eq_true rfl) ?_
  have hN := hi.N
  refine g_aload_n dX7_isOf_0 rfl ?_
  refine g_iload_n dX7_isOf_1 rfl ?_
  refine g_pV1 dX7_isOf_2 qX7_79 rfl (by decide) (by decide) (by decide) (c_isHole hi h _ (by omega)) ?_
  refine g_ifb_eq (tgt := 17) dX7_isOf_5 (by decide) (fun h5 => ?_) (fun h5 => ?_)
  · refine g_ldc dX7_isOf_17 kX7_78 ?_
    exact g_iret dX7_isOf_19 trivial (OM.of (q := (cBad, V)) (by unfold p_isOf; rw [if_pos (by omega)]) rfl h keepM.rfl)
  · refine g_iload_n dX7_isOf_8 rfl ?_
    refine g_iconst dX7_isOf_9 ?_
    refine g_iconst dX7_isOf_10 ?_
    refine g_pS3 dX7_isOf_11 sX7_70 (by decide) (by decide) (c_isIn _ _ _ (by omega) (by omega) (by omega)) ?_
    refine g_ifb_ne (tgt := 20) dX7_isOf_14 (by decide) (fun h14 => ?_) (fun h14 => ?_)
    · refine g_aload_n dX7_isOf_20 rfl ?_
      refine g_getR dX7_isOf_21 fX7_7 rfl rfl (by decide) ?_
      refine g_iload_n dX7_isOf_24 rfl ?_
      refine g_iaload dX7_isOf_25 rfl (by decide) (by omega) (by omega) (by decide) ?_
      rw [h.kind _ (by omega) (by omega)]
      refine g_istore_n (i := 3) dX7_isOf_26 rfl (by decide) ?_
      have hk := hi.kind s (by omega) (by omega)
      refine g_iload_n dX7_isOf_27 rfl ?_
      refine g_if_eq (tgt := 56) dX7_isOf_28 (by decide) (by omega) (fun h28 => ?_) (fun h28 => ?_)
      · refine g_iconst dX7_isOf_56 ?_
        refine g_goto (tgt := 61) dX7_isOf_57 (by decide) ?_
        refine g_istore dX7_isOf_61 (by decide) ?_
        refine g_iload dX7_isOf_63 rfl ?_
        refine g_if_eq (tgt := 72) dX7_isOf_65 (by decide) (by omega) (fun h65 => ?_) (fun h65 => ?_)
        · refine g_iconst dX7_isOf_72 ?_
          exact g_iret dX7_isOf_73 trivial (by first | exact (OM.of (q := (1, V)) (by unfold p_isOf; rw [if_neg (by omega), b2i_1 (by omega)]) rfl h keepM.rfl) | exact (OM.of (q := (0, V)) (by unfold p_isOf; rw [if_neg (by omega), b2i_0 (by omega)]) rfl h keepM.rfl))
        · refine g_iconst dX7_isOf_68 ?_
          refine g_goto (tgt := 73) dX7_isOf_69 (by decide) ?_
          exact g_iret dX7_isOf_73 trivial (by first | exact (OM.of (q := (1, V)) (by unfold p_isOf; rw [if_neg (by omega), b2i_1 (by omega)]) rfl h keepM.rfl) | exact (OM.of (q := (0, V)) (by unfold p_isOf; rw [if_neg (by omega), b2i_0 (by omega)]) rfl h keepM.rfl))
      · refine g_iload_n dX7_isOf_31 rfl ?_
        refine g_iload_n dX7_isOf_32 rfl ?_
        refine g_icmp_eq (tgt := 56) dX7_isOf_33 (by decide) (by omega) (by omega) (fun h33 => ?_) (fun h33 => ?_)
        · refine g_iconst dX7_isOf_56 ?_
          refine g_goto (tgt := 61) dX7_isOf_57 (by decide) ?_
          refine g_istore dX7_isOf_61 (by decide) ?_
          refine g_iload dX7_isOf_63 rfl ?_
          refine g_if_eq (tgt := 72) dX7_isOf_65 (by decide) (by omega) (fun h65 => ?_) (fun h65 => ?_)
          · refine g_iconst dX7_isOf_72 ?_
            exact g_iret dX7_isOf_73 trivial (by first | exact (OM.of (q := (1, V)) (by unfold p_isOf; rw [if_neg (by omega), b2i_1 (by omega)]) rfl h keepM.rfl) | exact (OM.of (q := (0, V)) (by unfold p_isOf; rw [if_neg (by omega), b2i_0 (by omega)]) rfl h keepM.rfl))
          · refine g_iconst dX7_isOf_68 ?_
            refine g_goto (tgt := 73) dX7_isOf_69 (by decide) ?_
            exact g_iret dX7_isOf_73 trivial (by first | exact (OM.of (q := (1, V)) (by unfold p_isOf; rw [if_neg (by omega), b2i_1 (by omega)]) rfl h keepM.rfl) | exact (OM.of (q := (0, V)) (by unfold p_isOf; rw [if_neg (by omega), b2i_0 (by omega)]) rfl h keepM.rfl))
        · refine g_iload_n dX7_isOf_36 rfl ?_
          refine g_iconst dX7_isOf_37 ?_
          refine g_icmp_ne (tgt := 46) dX7_isOf_38 (by decide) (by omega) (by omega) (fun h38 => ?_) (fun h38 => ?_)
          · refine g_iload_n dX7_isOf_46 rfl ?_
            refine g_iconst dX7_isOf_47 ?_
            refine g_icmp_ne (tgt := 60) dX7_isOf_48 (by decide) (by omega) (by omega) (fun h48 => ?_) (fun h48 => ?_)
            · refine g_iconst dX7_isOf_60 ?_
              refine g_istore dX7_isOf_61 (by decide) ?_
              refine g_iload dX7_isOf_63 rfl ?_
              refine g_if_eq (tgt := 72) dX7_isOf_65 (by decide) (by omega) (fun h65 => ?_) (fun h65 => ?_)
              · refine g_iconst dX7_isOf_72 ?_
                exact g_iret dX7_isOf_73 trivial (by first | exact (OM.of (q := (1, V)) (by unfold p_isOf; rw [if_neg (by omega), b2i_1 (by omega)]) rfl h keepM.rfl) | exact (OM.of (q := (0, V)) (by unfold p_isOf; rw [if_neg (by omega), b2i_0 (by omega)]) rfl h keepM.rfl))
              · refine g_iconst dX7_isOf_68 ?_
                refine g_goto (tgt := 73) dX7_isOf_69 (by decide) ?_
                exact g_iret dX7_isOf_73 trivial (by first | exact (OM.of (q := (1, V)) (by unfold p_isOf; rw [if_neg (by omega), b2i_1 (by omega)]) rfl h keepM.rfl) | exact (OM.of (q := (0, V)) (by unfold p_isOf; rw [if_neg (by omega), b2i_0 (by omega)]) rfl h keepM.rfl))
            · refine g_iload_n dX7_isOf_51 rfl ?_
              refine g_iconst dX7_isOf_52 ?_
              refine g_icmp_ne (tgt := 60) dX7_isOf_53 (by decide) (by omega) (by omega) (fun h53 => ?_) (fun h53 => ?_)
              · refine g_iconst dX7_isOf_60 ?_
                refine g_istore dX7_isOf_61 (by decide) ?_
                refine g_iload dX7_isOf_63 rfl ?_
                refine g_if_eq (tgt := 72) dX7_isOf_65 (by decide) (by omega) (fun h65 => ?_) (fun h65 => ?_)
                · refine g_iconst dX7_isOf_72 ?_
                  exact g_iret dX7_isOf_73 trivial (by first | exact (OM.of (q := (1, V)) (by unfold p_isOf; rw [if_neg (by omega), b2i_1 (by omega)]) rfl h keepM.rfl) | exact (OM.of (q := (0, V)) (by unfold p_isOf; rw [if_neg (by omega), b2i_0 (by omega)]) rfl h keepM.rfl))
                · refine g_iconst dX7_isOf_68 ?_
                  refine g_goto (tgt := 73) dX7_isOf_69 (by decide) ?_
                  exact g_iret dX7_isOf_73 trivial (by first | exact (OM.of (q := (1, V)) (by unfold p_isOf; rw [if_neg (by omega), b2i_1 (by omega)]) rfl h keepM.rfl) | exact (OM.of (q := (0, V)) (by unfold p_isOf; rw [if_neg (by omega), b2i_0 (by omega)]) rfl h keepM.rfl))
              · refine g_iconst dX7_isOf_56 ?_
                refine g_goto (tgt := 61) dX7_isOf_57 (by decide) ?_
                refine g_istore dX7_isOf_61 (by decide) ?_
                refine g_iload dX7_isOf_63 rfl ?_
                refine g_if_eq (tgt := 72) dX7_isOf_65 (by decide) (by omega) (fun h65 => ?_) (fun h65 => ?_)
                · refine g_iconst dX7_isOf_72 ?_
                  exact g_iret dX7_isOf_73 trivial (by first | exact (OM.of (q := (1, V)) (by unfold p_isOf; rw [if_neg (by omega), b2i_1 (by omega)]) rfl h keepM.rfl) | exact (OM.of (q := (0, V)) (by unfold p_isOf; rw [if_neg (by omega), b2i_0 (by omega)]) rfl h keepM.rfl))
                · refine g_iconst dX7_isOf_68 ?_
                  refine g_goto (tgt := 73) dX7_isOf_69 (by decide) ?_
                  exact g_iret dX7_isOf_73 trivial (by first | exact (OM.of (q := (1, V)) (by unfold p_isOf; rw [if_neg (by omega), b2i_1 (by omega)]) rfl h keepM.rfl) | exact (OM.of (q := (0, V)) (by unfold p_isOf; rw [if_neg (by omega), b2i_0 (by omega)]) rfl h keepM.rfl))
          · refine g_iload_n dX7_isOf_41 rfl ?_
            refine g_iconst dX7_isOf_42 ?_
            refine g_icmp_eq (tgt := 56) dX7_isOf_43 (by decide) (by omega) (by omega) (fun h43 => ?_) (fun h43 => ?_)
            · refine g_iconst dX7_isOf_56 ?_
              refine g_goto (tgt := 61) dX7_isOf_57 (by decide) ?_
              refine g_istore dX7_isOf_61 (by decide) ?_
              refine g_iload dX7_isOf_63 rfl ?_
              refine g_if_eq (tgt := 72) dX7_isOf_65 (by decide) (by omega) (fun h65 => ?_) (fun h65 => ?_)
              · refine g_iconst dX7_isOf_72 ?_
                exact g_iret dX7_isOf_73 trivial (by first | exact (OM.of (q := (1, V)) (by unfold p_isOf; rw [if_neg (by omega), b2i_1 (by omega)]) rfl h keepM.rfl) | exact (OM.of (q := (0, V)) (by unfold p_isOf; rw [if_neg (by omega), b2i_0 (by omega)]) rfl h keepM.rfl))
              · refine g_iconst dX7_isOf_68 ?_
                refine g_goto (tgt := 73) dX7_isOf_69 (by decide) ?_
                exact g_iret dX7_isOf_73 trivial (by first | exact (OM.of (q := (1, V)) (by unfold p_isOf; rw [if_neg (by omega), b2i_1 (by omega)]) rfl h keepM.rfl) | exact (OM.of (q := (0, V)) (by unfold p_isOf; rw [if_neg (by omega), b2i_0 (by omega)]) rfl h keepM.rfl))
            · refine g_iload_n dX7_isOf_46 rfl ?_
              refine g_iconst dX7_isOf_47 ?_
              refine g_icmp_ne (tgt := 60) dX7_isOf_48 (by decide) (by omega) (by omega) (fun h48 => ?_) (fun h48 => ?_)
              · refine g_iconst dX7_isOf_60 ?_
                refine g_istore dX7_isOf_61 (by decide) ?_
                refine g_iload dX7_isOf_63 rfl ?_
                refine g_if_eq (tgt := 72) dX7_isOf_65 (by decide) (by omega) (fun h65 => ?_) (fun h65 => ?_)
                · refine g_iconst dX7_isOf_72 ?_
                  exact g_iret dX7_isOf_73 trivial (by first | exact (OM.of (q := (1, V)) (by unfold p_isOf; rw [if_neg (by omega), b2i_1 (by omega)]) rfl h keepM.rfl) | exact (OM.of (q := (0, V)) (by unfold p_isOf; rw [if_neg (by omega), b2i_0 (by omega)]) rfl h keepM.rfl))
                · refine g_iconst dX7_isOf_68 ?_
                  refine g_goto (tgt := 73) dX7_isOf_69 (by decide) ?_
                  exact g_iret dX7_isOf_73 trivial (by first | exact (OM.of (q := (1, V)) (by unfold p_isOf; rw [if_neg (by omega), b2i_1 (by omega)]) rfl h keepM.rfl) | exact (OM.of (q := (0, V)) (by unfold p_isOf; rw [if_neg (by omega), b2i_0 (by omega)]) rfl h keepM.rfl))
              · refine g_iload_n dX7_isOf_51 rfl ?_
                refine g_iconst dX7_isOf_52 ?_
                refine g_icmp_ne (tgt := 60) dX7_isOf_53 (by decide) (by omega) (by omega) (fun h53 => ?_) (fun h53 => ?_)
                · refine g_iconst dX7_isOf_60 ?_
                  refine g_istore dX7_isOf_61 (by decide) ?_
                  refine g_iload dX7_isOf_63 rfl ?_
                  refine g_if_eq (tgt := 72) dX7_isOf_65 (by decide) (by omega) (fun h65 => ?_) (fun h65 => ?_)
                  · refine g_iconst dX7_isOf_72 ?_
                    exact g_iret dX7_isOf_73 trivial (by first | exact (OM.of (q := (1, V)) (by unfold p_isOf; rw [if_neg (by omega), b2i_1 (by omega)]) rfl h keepM.rfl) | exact (OM.of (q := (0, V)) (by unfold p_isOf; rw [if_neg (by omega), b2i_0 (by omega)]) rfl h keepM.rfl))
                  · refine g_iconst dX7_isOf_68 ?_
                    refine g_goto (tgt := 73) dX7_isOf_69 (by decide) ?_
                    exact g_iret dX7_isOf_73 trivial (by first | exact (OM.of (q := (1, V)) (by unfold p_isOf; rw [if_neg (by omega), b2i_1 (by omega)]) rfl h keepM.rfl) | exact (OM.of (q := (0, V)) (by unfold p_isOf; rw [if_neg (by omega), b2i_0 (by omega)]) rfl h keepM.rfl))
                · refine g_iconst dX7_isOf_56 ?_
                  refine g_goto (tgt := 61) dX7_isOf_57 (by decide) ?_
                  refine g_istore dX7_isOf_61 (by decide) ?_
                  refine g_iload dX7_isOf_63 rfl ?_
                  refine g_if_eq (tgt := 72) dX7_isOf_65 (by decide) (by omega) (fun h65 => ?_) (fun h65 => ?_)
                  · refine g_iconst dX7_isOf_72 ?_
                    exact g_iret dX7_isOf_73 trivial (by first | exact (OM.of (q := (1, V)) (by unfold p_isOf; rw [if_neg (by omega), b2i_1 (by omega)]) rfl h keepM.rfl) | exact (OM.of (q := (0, V)) (by unfold p_isOf; rw [if_neg (by omega), b2i_0 (by omega)]) rfl h keepM.rfl))
                  · refine g_iconst dX7_isOf_68 ?_
                    refine g_goto (tgt := 73) dX7_isOf_69 (by decide) ?_
                    exact g_iret dX7_isOf_73 trivial (by first | exact (OM.of (q := (1, V)) (by unfold p_isOf; rw [if_neg (by omega), b2i_1 (by omega)]) rfl h keepM.rfl) | exact (OM.of (q := (0, V)) (by unfold p_isOf; rw [if_neg (by omega), b2i_0 (by omega)]) rfl h keepM.rfl))
    · refine g_ldc dX7_isOf_17 kX7_78 ?_
      exact g_iret dX7_isOf_19 trivial (OM.of (q := (cBad, V)) (by unfold p_isOf; rw [if_pos (by omega)]) rfl h keepM.rfl)

theorem k_tells {b : Int} {V σ : Mem} (hi : Inv b V) (h : RM V σ) (t : Int) (d : Int) (i_t : i32 t) (i_d : i32 d)  : Ret 41 mX7_tells [aR 30, aI t, aI d] σ (OM σ (p_tells V t d)) := by
  refine Ret.of [some (aR 30), some (aI t), some (aI d)] rfl (plainFor_of_name (by decide)) (Nat.le_of_ble_eq_true rfl) ?_
  have hN := hi.N
  refine g_iload_n dX7_tells_0 rfl ?_
  refine g_iconst dX7_tells_1 ?_
  refine g_iconst dX7_tells_2 ?_
  refine g_pS3 dX7_tells_3 sX7_70 (by decide) (by decide) (c_isIn _ _ _ (by omega) (by omega) (by omega)) ?_
  refine g_ifb_eq (tgt := 28) dX7_tells_6 (by decide) (fun h6 => ?_) (fun h6 => ?_)
  · refine g_ldc dX7_tells_28 kX7_78 ?_
    exact g_iret dX7_tells_30 trivial (by first | exact (OM.of (q := (cBad, V)) (by unfold p_tells; rw [if_pos (by omega)]) rfl h keepM.rfl) | exact (OM.of (q := (V (8 + u) d, V)) (by unfold p_tells; rw [if_neg (by omega), Int.toNat_natCast]) rfl h keepM.rfl))
  · refine g_iload_n dX7_tells_9 rfl ?_
    refine g_iconst dX7_tells_10 ?_
    refine g_bipush (v := 16) dX7_tells_11 (by decide) ?_
    refine g_pS3 dX7_tells_13 sX7_70 (by decide) (by decide) (c_isIn _ _ _ (by omega) (by omega) (by omega)) ?_
    refine g_ifb_eq (tgt := 28) dX7_tells_16 (by decide) (fun h16 => ?_) (fun h16 => ?_)
    · refine g_ldc dX7_tells_28 kX7_78 ?_
      exact g_iret dX7_tells_30 trivial (by first | exact (OM.of (q := (cBad, V)) (by unfold p_tells; rw [if_pos (by omega)]) rfl h keepM.rfl) | exact (OM.of (q := (V (8 + u) d, V)) (by unfold p_tells; rw [if_neg (by omega), Int.toNat_natCast]) rfl h keepM.rfl))
    · obtain ⟨u, rfl⟩ : ∃ u : Nat, t = u := ⟨t.toNat, by omega⟩
      have hu : u < 6 := by omega
      refine g_aload_n dX7_tells_19 rfl ?_
      refine g_iload_n dX7_tells_20 rfl ?_
      refine g_iload_n dX7_tells_21 rfl ?_
      refine g_pV2 dX7_tells_22 qX7_98 rfl (by decide) (by decide) (by decide) (c_tell hi h d u hu (by omega) (by omega)) ?_
      refine g_goto (tgt := 30) dX7_tells_25 (by decide) ?_
      exact g_iret dX7_tells_30 trivial (by first | exact (OM.of (q := (cBad, V)) (by unfold p_tells; rw [if_pos (by omega)]) rfl h keepM.rfl) | exact (OM.of (q := (V (8 + u) d, V)) (by unfold p_tells; rw [if_neg (by omega), Int.toNat_natCast]) rfl h keepM.rfl))

theorem k_lace {b : Int} {V σ : Mem} (hi : Inv b V) (h : RM V σ) (r : Int) (o : Int) (R : Int) (c : Int) (i_r : i32 r) (i_o : i32 o) (i_R : i32 R) (i_c : i32 c)  : Ret 41 mX7_lace [aR 30, aI r, aI o, aI R, aI c] σ (OM σ (p_lace V r o R c)) := by
  refine Ret.of [some (aR 30), some (aI r), some (aI o), some (aI R), some (aI c)] rfl (plainFor_of_name (by decide)) (Nat.le_of_ble_eq_true rfl) ?_
  have hN := hi.N
  refine g_iload_n dX7_lace_0 rfl ?_
  refine g_iconst dX7_lace_1 ?_
  refine g_sipush (v := 200) dX7_lace_2 (by decide) ?_
  refine g_pS3 dX7_lace_5 sX7_70 (by decide) (by decide) (c_isIn _ _ _ (by omega) (by omega) (by omega)) ?_
  refine g_ifb_eq (tgt := 44) dX7_lace_8 (by decide) (fun h8 => ?_) (fun h8 => ?_)
  · refine g_ldc dX7_lace_44 kX7_78 ?_
    exact g_iret dX7_lace_46 trivial (OM.of (q := (cBad, V)) (by unfold p_lace; rw [if_pos (by omega)]) rfl h keepM.rfl)
  · refine g_iload_n dX7_lace_11 rfl ?_
    refine g_iconst dX7_lace_12 ?_
    refine g_sipush (v := 200) dX7_lace_13 (by decide) ?_
    refine g_pS3 dX7_lace_16 sX7_70 (by decide) (by decide) (c_isIn _ _ _ (by omega) (by omega) (by omega)) ?_
    refine g_ifb_eq (tgt := 44) dX7_lace_19 (by decide) (fun h19 => ?_) (fun h19 => ?_)
    · refine g_ldc dX7_lace_44 kX7_78 ?_
      exact g_iret dX7_lace_46 trivial (OM.of (q := (cBad, V)) (by unfold p_lace; rw [if_pos (by omega)]) rfl h keepM.rfl)
    · refine g_iload_n dX7_lace_22 rfl ?_
      refine g_iconst dX7_lace_23 ?_
      refine g_sipush (v := 1000) dX7_lace_24 (by decide) ?_
      refine g_pS3 dX7_lace_27 sX7_70 (by decide) (by decide) (c_isIn _ _ _ (by omega) (by omega) (by omega)) ?_
      refine g_ifb_eq (tgt := 44) dX7_lace_30 (by decide) (fun h30 => ?_) (fun h30 => ?_)
      · refine g_ldc dX7_lace_44 kX7_78 ?_
        exact g_iret dX7_lace_46 trivial (OM.of (q := (cBad, V)) (by unfold p_lace; rw [if_pos (by omega)]) rfl h keepM.rfl)
      · refine g_iload dX7_lace_33 rfl ?_
        refine g_iconst dX7_lace_35 ?_
        refine g_bipush (v := 7) dX7_lace_36 (by decide) ?_
        refine g_pS3 dX7_lace_38 sX7_70 (by decide) (by decide) (c_isIn _ _ _ (by omega) (by omega) (by omega)) ?_
        refine g_ifb_ne (tgt := 47) dX7_lace_41 (by decide) (fun h41 => ?_) (fun h41 => ?_)
        · refine g_aload_n dX7_lace_47 rfl ?_
          refine g_iload_n dX7_lace_48 rfl ?_
          refine g_putI (ji := 10) rfl dX7_lace_49 vX7_35 rfl rfl (by decide) (by decide) ?_
          refine g_aload_n dX7_lace_52 rfl ?_
          refine g_iload_n dX7_lace_53 rfl ?_
          refine g_putI (ji := 11) rfl dX7_lace_54 vX7_39 rfl rfl (by decide) (by decide) ?_
          refine g_aload_n dX7_lace_57 rfl ?_
          refine g_iload_n dX7_lace_58 rfl ?_
          refine g_putI (ji := 12) rfl dX7_lace_59 vX7_42 rfl rfl (by decide) (by decide) ?_
          refine g_aload_n dX7_lace_62 rfl ?_
          refine g_iload dX7_lace_63 rfl ?_
          refine g_putI (ji := 13) rfl dX7_lace_65 vX7_45 rfl rfl (by decide) (by decide) ?_
          refine g_iconst dX7_lace_68 ?_
          exact g_iret dX7_lace_69 trivial (OM.of (q := (0, up (up (up (up V 18 0 r) 18 1 o) 18 2 R) 18 3 c)) (by unfold p_lace; rw [if_neg (by omega)]) rfl h.lac' ((((keepM.rfl.up (by decide) (by decide)).up (by decide) (by decide)).up (by decide) (by decide)).up (by decide) (by decide)))
        · refine g_ldc dX7_lace_44 kX7_78 ?_
          exact g_iret dX7_lace_46 trivial (OM.of (q := (cBad, V)) (by unfold p_lace; rw [if_pos (by omega)]) rfl h keepM.rfl)

theorem k_anew {b : Int} {V σ : Mem} (hi : Inv b V) (h : RM V σ) (s : Int) (k : Int) (v : Int) (i_s : i32 s) (i_k : i32 k) (i_v : i32 v)  : Ret 41 mX7_anew [aR 30, aI s, aI k, aI v] σ (OM σ (p_anew V s k v)) := by
  refine Ret.of [some (aR 30), some (aI s), some (aI k), some (aI v)] rfl (plainFor_of_name (by decide)) (Nat.le_of_ble_eq_true rfl) ?_
  have hN := hi.N
  refine g_aload_n dX7_anew_0 rfl ?_
  refine g_iload_n dX7_anew_1 rfl ?_
  refine g_pV1 dX7_anew_2 qX7_79 rfl (by decide) (by decide) (by decide) (c_isHole hi h _ (by omega)) ?_
  refine g_ifb_eq (tgt := 25) dX7_anew_5 (by decide) (fun h5 => ?_) (fun h5 => ?_)
  · refine g_ldc dX7_anew_25 kX7_78 ?_
    exact g_iret dX7_anew_27 trivial (OM.of (q := (cBad, V)) (by unfold p_anew; rw [if_pos (by omega)]) rfl h keepM.rfl)
  · refine g_iload_n dX7_anew_8 rfl ?_
    refine g_pS1 dX7_anew_9 sX7_82 (by decide) (by decide) (c_isKind _ (by omega)) ?_
    refine g_ifb_eq (tgt := 25) dX7_anew_12 (by decide) (fun h12 => ?_) (fun h12 => ?_)
    · refine g_ldc dX7_anew_25 kX7_78 ?_
      exact g_iret dX7_anew_27 trivial (OM.of (q := (cBad, V)) (by unfold p_anew; rw [if_pos (by omega)]) rfl h keepM.rfl)
    · refine g_iload_n dX7_anew_15 rfl ?_
      refine g_iconst dX7_anew_16 ?_
      refine g_ldc dX7_anew_17 kX7_90 ?_
      refine g_pS3 dX7_anew_19 sX7_70 (by decide) (by decide) (c_isIn _ _ _ (by omega) (by omega) (by omega)) ?_
      refine g_ifb_ne (tgt := 28) dX7_anew_22 (by decide) (fun h22 => ?_) (fun h22 => ?_)
      · refine g_aload_n dX7_anew_28 rfl ?_
        refine g_iload_n dX7_anew_29 rfl ?_
        refine g_pV1 dX7_anew_30 qX7_74 rfl (by decide) (by decide) (by decide) (c_isGone hi h _ (by omega) (by omega)) ?_
        refine g_ifb_ne (tgt := 39) dX7_anew_33 (by decide) (fun h33 => ?_) (fun h33 => ?_)
        · refine g_aload_n dX7_anew_39 rfl ?_
          refine g_getR dX7_anew_40 fX7_7 rfl rfl (by decide) ?_
          refine g_iload_n dX7_anew_43 rfl ?_
          refine g_iload_n dX7_anew_44 rfl ?_
          refine g_iastore dX7_anew_45 rfl (by decide) (by decide) (by omega) (by omega) (by decide) ?_
          refine g_aload_n dX7_anew_46 rfl ?_
          refine g_getR dX7_anew_47 fX7_13 rfl rfl (by decide) ?_
          refine g_iload_n dX7_anew_50 rfl ?_
          refine g_iload_n dX7_anew_51 rfl ?_
          refine g_i2l dX7_anew_52 (by omega) ?_
          refine g_lastore dX7_anew_53 rfl (by decide) (by decide) (by omega) (by omega) (by decide) ?_
          refine g_iconst dX7_anew_54 ?_
          exact g_iret dX7_anew_55 trivial (OM.of (q := (0, up (up V 1 s k) 2 s v)) (by unfold p_anew; rw [if_neg (by omega), if_neg (by omega)]) rfl h.kind'.pull' ((keepM.rfl.up (by decide) (by decide)).up (by decide) (by decide)))
        · refine g_ldc dX7_anew_36 kX7_85 ?_
          exact g_iret dX7_anew_38 trivial (OM.of (q := (cNo, V)) (by unfold p_anew; rw [if_neg (by omega), if_pos (by omega)]) rfl h keepM.rfl)
      · refine g_ldc dX7_anew_25 kX7_78 ?_
        exact g_iret dX7_anew_27 trivial (OM.of (q := (cBad, V)) (by unfold p_anew; rw [if_pos (by omega)]) rfl h keepM.rfl)

theorem k_log {b : Int} {V σ : Mem} (hi : Inv b V) (h : RM V σ) (i : Int) (w : Int) (i_i : i32 i) (i_w : i32 w)  : Ret 41 mX7_log [aR 30, aI i, aI w] σ (OM σ (p_log V i w)) := by
  refine Ret.of [some (aR 30), some (aI i), some (aI w)] rfl (plainFor_of_name (by decide)) (Nat.le_of_ble_eq_true rfl) ?_
  have hN := hi.N
  refine g_iload_n dX7_log_0 rfl ?_
  refine g_if_lt (tgt := 13) dX7_log_1 (by decide) (by omega) (fun h1 => ?_) (fun h1 => ?_)
  · refine g_ldc dX7_log_13 kX7_78 ?_
    exact g_iret dX7_log_15 trivial (OM.of (q := (cBad, V)) (by unfold p_log; rw [if_pos (by omega)]) rfl h keepM.rfl)
  · refine g_iload_n dX7_log_4 rfl ?_
    refine g_iconst dX7_log_5 ?_
    refine g_iconst dX7_log_6 ?_
    refine g_pS3 dX7_log_7 sX7_70 (by decide) (by decide) (c_isIn _ _ _ (by omega) (by omega) (by omega)) ?_
    refine g_ifb_ne (tgt := 16) dX7_log_10 (by decide) (fun h10 => ?_) (fun h10 => ?_)
    · have hm := hi.many
      refine g_iload_n dX7_log_16 rfl ?_
      refine g_aload_n dX7_log_17 rfl ?_
      refine g_getI (ji := 9) rfl dX7_log_18 fX7_61 rfl rfl (by decide) ?_
      rw [h.many]
      refine g_icmp_ge (tgt := 37) dX7_log_21 (by decide) (by omega) (by omega) (fun h21 => ?_) (fun h21 => ?_)
      · refine g_ldc dX7_log_37 kX7_146 ?_
        exact g_iret dX7_log_39 trivial (by first | exact (OM.of (q := (cNone, V)) (by unfold p_log; rw [if_neg (by omega), if_neg (by omega)]) rfl h keepM.rfl) | exact (OM.of (q := (V 15 i, V)) (by unfold p_log; rw [if_neg (by omega), if_pos (by omega), if_pos (by omega)]) rfl h keepM.rfl) | exact (OM.of (q := (V 16 i, V)) (by unfold p_log; rw [if_neg (by omega), if_pos (by omega), if_neg (by omega)]) rfl h keepM.rfl))
      · have hl := h.log i (by omega) (by omega)
        refine g_aload_n dX7_log_24 rfl ?_
        refine g_getR dX7_log_25 fX7_32 rfl rfl (by decide) ?_
        refine g_iconst dX7_log_28 ?_
        refine g_iload_n dX7_log_29 rfl ?_
        refine g_imul dX7_log_30 ?_
        refine g_iload_n dX7_log_31 rfl ?_
        refine g_iadd dX7_log_32 ?_
        refine g_iaload dX7_log_33 rfl (by decide) (by omega) (by omega) (by decide) ?_
        rcases (show w = 0 ∨ w = 1 by omega) with rfl | rfl
        · rw [show 2 * i + 0 = 2 * i by omega, hl.1]
          refine g_goto (tgt := 39) dX7_log_34 (by decide) ?_
          exact g_iret dX7_log_39 trivial (OM.of (q := (V 15 i, V)) (by unfold p_log; rw [if_neg (by omega), if_pos (by omega), if_pos (by omega)]) rfl h keepM.rfl)
        rw [hl.2]
        refine g_goto (tgt := 39) dX7_log_34 (by decide) ?_
        exact g_iret dX7_log_39 trivial (by first | exact (OM.of (q := (cNone, V)) (by unfold p_log; rw [if_neg (by omega), if_neg (by omega)]) rfl h keepM.rfl) | exact (OM.of (q := (V 15 i, V)) (by unfold p_log; rw [if_neg (by omega), if_pos (by omega), if_pos (by omega)]) rfl h keepM.rfl) | exact (OM.of (q := (V 16 i, V)) (by unfold p_log; rw [if_neg (by omega), if_pos (by omega), if_neg (by omega)]) rfl h keepM.rfl))
    · refine g_ldc dX7_log_13 kX7_78 ?_
      exact g_iret dX7_log_15 trivial (OM.of (q := (cBad, V)) (by unfold p_log; rw [if_pos (by omega)]) rfl h keepM.rfl)
