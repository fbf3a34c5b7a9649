theorem y_enter {b : Int} {V σ : Mem} (hi : Inv b V) (h : RX V σ) (t : Int) (p : Int) (v : Int) (i_t : i32 t) (i_p : i32 p) (i_v : i32 v)  : Ret 41 mX6_enter [aR 0, aI t, aI p, aI v] σ (OX σ (p_enter V t p v)) := by
  refine Ret.of [some (aR 0), some (aI t), some (aI p), some (aI v), none] rfl (plainFor_of_name (by decide)) (Nat.le_of_ble_eq_true rfl) ?_
  have hN := hi.N2
  refine g_iload_n dX6_enter_0 rfl ?_
  refine g_pS1 dX6_enter_1 sX6_82 (by decide) (Nat.le_of_ble_eq_true rfl) (x_isTable _ (by omega)) ?_
  refine g_ifb_eq (tgt := 20) dX6_enter_4 (by decide) (fun h4 => ?_) (fun h4 => ?_)
  · refine g_ldc dX6_enter_20 kX6_63 ?_
    exact g_iret dX6_enter_22 trivial (OX.of (q := (cBad, V)) (by unfold p_enter; rw [if_pos (by omega)]) rfl h keepX.rfl)
  · refine g_iload_n dX6_enter_7 rfl ?_
    refine g_sipush (v := -1000) dX6_enter_8 (by decide) ?_
    refine g_sipush (v := 1000) dX6_enter_11 (by decide) ?_
    refine g_pS3 dX6_enter_14 sX6_85 (by decide) (Nat.le_of_ble_eq_true rfl) (x_lies _ _ _ (by omega) (by omega) (by omega)) ?_
    refine g_ifb_ne (tgt := 23) dX6_enter_17 (by decide) (fun h17 => ?_) (fun h17 => ?_)
    · obtain ⟨u, rfl⟩ : ∃ u : Nat, t = u := ⟨t.toNat, by omega⟩
      have hu : u < 6 := by omega
      have hz := hi.size u hu
      refine g_aload_n dX6_enter_23 rfl ?_
      refine g_getR dX6_enter_24 fX6_10 rfl rfl (by decide) ?_
      refine g_iload_n dX6_enter_27 rfl ?_
      refine g_pV1 dX6_enter_28 qX6_98 rfl (by decide) (by decide) (Nat.le_of_ble_eq_true rfl) (x_isMissing hi h u (by omega)) ?_
      refine g_ifb_eq (tgt := 37) dX6_enter_31 (by decide) (fun h31 => ?_) (fun h31 => ?_)
      · refine g_iload_n dX6_enter_37 rfl ?_
        refine g_iconst dX6_enter_38 ?_
        refine g_aload_n dX6_enter_39 rfl ?_
        refine g_getR dX6_enter_40 fX6_10 rfl rfl (by decide) ?_
        refine g_getR dX6_enter_43 fX6_102 rfl rfl (by decide) ?_
        refine g_iload_n dX6_enter_46 rfl ?_
        refine g_iaload dX6_enter_47 rfl (by decide) (by omega) (by omega) (by decide) ?_
        rw [h.size u hu]
        refine g_iconst dX6_enter_48 ?_
        refine g_isub dX6_enter_49 ?_
        refine g_pS3 dX6_enter_50 sX6_85 (by decide) (Nat.le_of_ble_eq_true rfl) (x_lies _ _ _ (by omega) (by omega) (by omega)) ?_
        refine g_ifb_ne (tgt := 59) dX6_enter_53 (by decide) (fun h53 => ?_) (fun h53 => ?_)
        · refine g_aload_n dX6_enter_59 rfl ?_
          refine g_getR dX6_enter_60 fX6_10 rfl rfl (by decide) ?_
          refine g_getR dX6_enter_63 fX6_106 rfl rfl (by decide) ?_
          refine g_iload_n dX6_enter_66 rfl ?_
          refine g_aaload dX6_enter_67 rfl (by decide) (by omega) (by omega) (by decide) (row_3 u (by omega)) ?_
          refine g_iload_n dX6_enter_68 rfl ?_
          refine g_iaload dX6_enter_69 (shr_3 u hu) (by omega) (by omega) (by omega) (by decide) ?_
          rw [h.tab u hu p (by omega) (by omega)]
          refine g_istore dX6_enter_70 (by decide) ?_
          refine g_aload_n dX6_enter_72 rfl ?_
          refine g_getR dX6_enter_73 fX6_10 rfl rfl (by decide) ?_
          refine g_getR dX6_enter_76 fX6_106 rfl rfl (by decide) ?_
          refine g_iload_n dX6_enter_79 rfl ?_
          refine g_aaload dX6_enter_80 rfl (by decide) (by omega) (by omega) (by decide) (row_3 u (by omega)) ?_
          refine g_iload_n dX6_enter_81 rfl ?_
          refine g_iload_n dX6_enter_82 rfl ?_
          refine g_iastore dX6_enter_83 (shr_3 u (by omega)) (by omega) (by omega) (by omega) (by omega) (by decide) ?_
          refine g_iload dX6_enter_84 rfl ?_
          exact g_iret dX6_enter_86 trivial (OX.of (q := (V (8 + u) p, up V (8 + u) p v)) (by unfold p_enter; rw [if_neg (by omega), if_neg (by omega), if_neg (by omega), Int.toNat_natCast]) rfl (h.tab' hu) (keepX.rfl.up (by omega)))
        · refine g_ldc dX6_enter_56 kX6_105 ?_
          exact g_iret dX6_enter_58 trivial (OX.of (q := (cIndex, V)) (by unfold p_enter; rw [if_neg (by omega), if_neg (by omega), if_pos (by omega)]) rfl h keepX.rfl)
      · refine g_ldc dX6_enter_34 kX6_101 ?_
        exact g_iret dX6_enter_36 trivial (OX.of (q := (cNothing, V)) (by unfold p_enter; rw [if_neg (by omega), if_pos (by omega)]) rfl h keepX.rfl)
    · refine g_ldc dX6_enter_20 kX6_63 ?_
      exact g_iret dX6_enter_22 trivial (OX.of (q := (cBad, V)) (by unfold p_enter; rw [if_pos (by omega)]) rfl h keepX.rfl)

theorem y_tells {b : Int} {V σ : Mem} (hi : Inv b V) (h : RX V σ) (t : Int) (d : Int) (i_t : i32 t) (i_d : i32 d)  : Ret 41 mX6_tells [aR 0, aI t, aI d] σ (OX σ (p_tells V t d)) := by
  refine Ret.of [some (aR 0), some (aI t), some (aI d)] rfl (plainFor_of_name (by decide)) (Nat.le_of_ble_eq_true rfl) ?_
  have hN := hi.N2
  refine g_iload_n dX6_tells_0 rfl ?_
  refine g_pS1 dX6_tells_1 sX6_82 (by decide) (Nat.le_of_ble_eq_true rfl) (x_isTable _ (by omega)) ?_
  refine g_ifb_eq (tgt := 17) dX6_tells_4 (by decide) (fun h4 => ?_) (fun h4 => ?_)
  · refine g_ldc dX6_tells_17 kX6_63 ?_
    exact g_iret dX6_tells_19 trivial (OX.of (q := (cBad, V)) (by unfold p_tells; rw [if_pos (by omega)]) rfl h keepX.rfl)
  · refine g_iload_n dX6_tells_7 rfl ?_
    refine g_iconst dX6_tells_8 ?_
    refine g_bipush (v := 16) dX6_tells_9 (by decide) ?_
    refine g_pS3 dX6_tells_11 sX6_85 (by decide) (Nat.le_of_ble_eq_true rfl) (x_lies _ _ _ (by omega) (by omega) (by omega)) ?_
    refine g_ifb_ne (tgt := 20) dX6_tells_14 (by decide) (fun h14 => ?_) (fun h14 => ?_)
    · obtain ⟨u, rfl⟩ : ∃ u : Nat, t = u := ⟨t.toNat, by omega⟩
      have hu : u < 6 := by omega
      refine g_aload_n dX6_tells_20 rfl ?_
      refine g_getR dX6_tells_21 fX6_10 rfl rfl (by decide) ?_
      refine g_getR dX6_tells_24 fX6_106 rfl rfl (by decide) ?_
      refine g_iload_n dX6_tells_27 rfl ?_
      refine g_aaload dX6_tells_28 rfl (by decide) (by omega) (by omega) (by decide) (row_3 u (by omega)) ?_
      refine g_iload_n dX6_tells_29 rfl ?_
      refine g_iaload dX6_tells_30 (shr_3 u hu) (by omega) (by omega) (by omega) (by decide) ?_
      rw [h.tab u hu d (by omega) (by omega)]
      exact g_iret dX6_tells_31 trivial (OX.of (q := (V (8 + u) d, V)) (by unfold p_tells; rw [if_neg (by omega), Int.toNat_natCast]) rfl h keepX.rfl)
    · refine g_ldc dX6_tells_17 kX6_63 ?_
      exact g_iret dX6_tells_19 trivial (OX.of (q := (cBad, V)) (by unfold p_tells; rw [if_pos (by omega)]) rfl h keepX.rfl)

theorem y_unbent {b : Int} {V σ : Mem} (hi : Inv b V) (h : RX V σ) (r : Int) (p : Int) (i_r : i32 r) (i_p : i32 p)  : Ret 41 mX6_unbent [aR 0, aI r, aI p] σ (OX σ (p_unbent V r p)) := by
  refine Ret.of [some (aR 0), some (aI r), some (aI p)] rfl (plainFor_of_name (by decide)) (Nat.le_of_ble_eq_true rfl) ?_
  have hN := hi.N2
  refine g_iload_n dX6_unbent_0 rfl ?_
  refine g_pS1 dX6_unbent_1 sX6_113 (by decide) (Nat.le_of_ble_eq_true rfl) (x_isRow _ (by omega)) ?_
  refine g_ifb_eq (tgt := 18) dX6_unbent_4 (by decide) (fun h4 => ?_) (fun h4 => ?_)
  · refine g_ldc dX6_unbent_18 kX6_63 ?_
    exact g_iret dX6_unbent_20 trivial (OX.of (q := (cBad, V)) (by unfold p_unbent; rw [if_pos (by omega)]) rfl h keepX.rfl)
  · refine g_aload_n dX6_unbent_7 rfl ?_
    refine g_getR dX6_unbent_8 fX6_19 rfl rfl (by decide) ?_
    refine g_iload_n dX6_unbent_11 rfl ?_
    refine g_pV1 dX6_unbent_12 qX6_68 rfl (by decide) (by decide) (Nat.le_of_ble_eq_true rfl) (x_hasHole hi.i0 h.r0 _ (by omega)) ?_
    refine g_ifb_ne (tgt := 21) dX6_unbent_15 (by decide) (fun h15 => ?_) (fun h15 => ?_)
    · obtain ⟨u, rfl⟩ : ∃ u : Nat, r = u := ⟨r.toNat, by omega⟩
      have hu : u < 2 := by omega
      refine g_aload_n dX6_unbent_21 rfl ?_
      refine g_getR dX6_unbent_22 fX6_19 rfl rfl (by decide) ?_
      refine g_getR dX6_unbent_25 fX6_142 rfl rfl (by decide) ?_
      refine g_iload_n dX6_unbent_28 rfl ?_
      refine g_aaload dX6_unbent_29 rfl (by decide) (by omega) (by omega) (by decide) (row_17 u (by omega)) ?_
      refine g_iload_n dX6_unbent_30 rfl ?_
      refine g_iaload dX6_unbent_31 (shr_17 u hu) (by omega) (by omega) (by omega) (by decide) ?_
      rw [h.str u hu p (by omega) (by omega)]
      exact g_iret dX6_unbent_32 trivial (OX.of (q := (unb V u p, V)) (by unfold p_unbent; rw [if_neg (by omega), Int.toNat_natCast]) rfl h keepX.rfl)
    · refine g_ldc dX6_unbent_18 kX6_63 ?_
      exact g_iret dX6_unbent_20 trivial (OX.of (q := (cBad, V)) (by unfold p_unbent; rw [if_pos (by omega)]) rfl h keepX.rfl)

theorem y_reading {b : Int} {V σ : Mem} (hi : Inv b V) (h : RX V σ) (r : Int) (p : Int) (i_r : i32 r) (i_p : i32 p)  : Ret 41 mX6_reading [aR 0, aI r, aI p] σ (OX σ (p_reading V r p)) := by
  refine Ret.of [some (aR 0), some (aI r), some (aI p)] rfl (plainFor_of_name (by decide)) (Nat.le_of_ble_eq_true rfl) ?_
  have hN := hi.N2
  refine g_iload_n dX6_reading_0 rfl ?_
  refine g_pS1 dX6_reading_1 sX6_113 (by decide) (Nat.le_of_ble_eq_true rfl) (x_isRow _ (by omega)) ?_
  refine g_ifb_eq (tgt := 18) dX6_reading_4 (by decide) (fun h4 => ?_) (fun h4 => ?_)
  · refine g_ldc dX6_reading_18 kX6_63 ?_
    exact g_iret dX6_reading_20 trivial (OX.of (q := (cBad, V)) (by unfold p_reading; rw [if_pos (by omega)]) rfl h keepX.rfl)
  · refine g_aload_n dX6_reading_7 rfl ?_
    refine g_getR dX6_reading_8 fX6_19 rfl rfl (by decide) ?_
    refine g_iload_n dX6_reading_11 rfl ?_
    refine g_pV1 dX6_reading_12 qX6_68 rfl (by decide) (by decide) (Nat.le_of_ble_eq_true rfl) (x_hasHole hi.i0 h.r0 _ (by omega)) ?_
    refine g_ifb_ne (tgt := 21) dX6_reading_15 (by decide) (fun h15 => ?_) (fun h15 => ?_)
    · obtain ⟨u, rfl⟩ : ∃ u : Nat, r = u := ⟨r.toNat, by omega⟩
      have hu : u < 2 := by omega
      refine g_aload_n dX6_reading_21 rfl ?_
      refine g_getR dX6_reading_22 fX6_19 rfl rfl (by decide) ?_
      refine g_iload_n dX6_reading_25 rfl ?_
      refine g_iload_n dX6_reading_26 rfl ?_
      refine g_pV2 dX6_reading_27 qX6_145 rfl (by decide) (by decide) (Nat.le_of_ble_eq_true rfl) (x_bentAt hi h u hu p (by omega) (by omega)) ?_
      exact g_iret dX6_reading_30 trivial (OX.of (q := (rdg V u p, V)) (by unfold p_reading; rw [if_neg (by omega), Int.toNat_natCast]) rfl h keepX.rfl)
    · refine g_ldc dX6_reading_18 kX6_63 ?_
      exact g_iret dX6_reading_20 trivial (OX.of (q := (cBad, V)) (by unfold p_reading; rw [if_pos (by omega)]) rfl h keepX.rfl)

theorem y_log {b : Int} {V σ : Mem} (hi : Inv b V) (h : RX V σ) (i : Int) (w : Int) (i_i : i32 i) (i_w : i32 w)  : Ret 41 mX6_log [aR 0, aI i, aI w] σ (OX σ (p_log V i w)) := by
  refine Ret.of [some (aR 0), some (aI i), some (aI w)] rfl (plainFor_of_name (by decide)) (Nat.le_of_ble_eq_true rfl) ?_
  have hm := hi.many
  refine g_iload_n dX6_log_0 rfl ?_
  refine g_if_lt (tgt := 13) dX6_log_1 (by decide) (by omega) (fun h1 => ?_) (fun h1 => ?_)
  · refine g_ldc dX6_log_13 kX6_63 ?_
    exact g_iret dX6_log_15 trivial (OX.of (q := (cBad, V)) (by unfold p_log; rw [if_pos (by omega)]) rfl h keepX.rfl)
  · refine g_iload_n dX6_log_4 rfl ?_
    refine g_iconst dX6_log_5 ?_
    refine g_iconst dX6_log_6 ?_
    refine g_pS3 dX6_log_7 sX6_85 (by decide) (Nat.le_of_ble_eq_true rfl) (x_lies _ _ _ (by omega) (by omega) (by omega)) ?_
    refine g_ifb_ne (tgt := 16) dX6_log_10 (by decide) (fun h10 => ?_) (fun h10 => ?_)
    · refine g_iload_n dX6_log_16 rfl ?_
      refine g_aload_n dX6_log_17 rfl ?_
      refine g_getR dX6_log_18 fX6_48 rfl rfl (by decide) ?_
      refine g_getI (ji := 2) rfl dX6_log_21 fX6_64 rfl rfl (by decide) ?_
      rw [h.many]
      refine g_icmp_lt (tgt := 30) dX6_log_24 (by decide) (by omega) (by omega) (fun h24 => ?_) (fun h24 => ?_)
      · have hl := h.log i (by omega) (by omega)
        refine g_iload_n dX6_log_30 rfl ?_
        refine g_if_ne (tgt := 46) dX6_log_31 (by decide) (by omega) (fun h31 => ?_) (fun h31 => ?_)
        · refine g_aload_n dX6_log_46 rfl ?_
          refine g_getR dX6_log_47 fX6_48 rfl rfl (by decide) ?_
          refine g_getR dX6_log_50 fX6_197 rfl rfl (by decide) ?_
          refine g_iload_n dX6_log_53 rfl ?_
          refine g_iaload dX6_log_54 rfl (by decide) (by omega) (by omega) (by decide) ?_
          rw [hl.2]
          exact g_iret dX6_log_55 trivial (by first | exact (OX.of (q := (V 15 i, V)) (by unfold p_log; rw [if_neg (by omega), if_pos (by omega), if_pos (by omega)]) rfl h keepX.rfl) | exact (OX.of (q := (V 16 i, V)) (by unfold p_log; rw [if_neg (by omega), if_pos (by omega), if_neg (by omega)]) rfl h keepX.rfl))
        · refine g_aload_n dX6_log_34 rfl ?_
          refine g_getR dX6_log_35 fX6_48 rfl rfl (by decide) ?_
          refine g_getR dX6_log_38 fX6_194 rfl rfl (by decide) ?_
          refine g_iload_n dX6_log_41 rfl ?_
          refine g_iaload dX6_log_42 rfl (by decide) (by omega) (by omega) (by decide) ?_
          rw [hl.1]
          refine g_goto (tgt := 55) dX6_log_43 (by decide) ?_
          exact g_iret dX6_log_55 trivial (by first | exact (OX.of (q := (V 15 i, V)) (by unfold p_log; rw [if_neg (by omega), if_pos (by omega), if_pos (by omega)]) rfl h keepX.rfl) | exact (OX.of (q := (V 16 i, V)) (by unfold p_log; rw [if_neg (by omega), if_pos (by omega), if_neg (by omega)]) rfl h keepX.rfl))
      · refine g_ldc dX6_log_27 kX6_167 ?_
        exact g_iret dX6_log_29 trivial (OX.of (q := (cNone, V)) (by unfold p_log; rw [if_neg (by omega), if_neg (by omega)]) rfl h keepX.rfl)
    · refine g_ldc dX6_log_13 kX6_63 ?_
      exact g_iret dX6_log_15 trivial (OX.of (q := (cBad, V)) (by unfold p_log; rw [if_pos (by omega)]) rfl h keepX.rfl)

theorem x_asNum {K : Nat} {σ : Mem} (x : Int) (hx : x = 0 ∨ x = 1) : RetV K mX6_asNumber [aI x] σ (aI x) := by
  rcases hx with rfl | rfl
  · exact Ret.eqv (x_asNumber (P := False)) rfl
  · exact Ret.eqv (x_asNumber (P := True)) rfl

theorem y_isOf {b : Int} {V σ : Mem} (hi : Inv b V) (h : RX V σ) (s : Int) (k : Int) (i_s : i32 s) (i_k : i32 k)  : Ret 41 mX6_isOf [aR 0, aI s, aI k] σ (OX σ (p_isOf V s k)) := by
  refine Ret.of [some (aR 0), some (aI s), some (aI k), none] rfl (plainFor_of_name (by decide)) (Nat.le_of_ble_eq_true rfl) ?_
  have hN := hi.N2
  refine g_aload_n dX6_isOf_0 rfl ?_
  refine g_getR dX6_isOf_1 fX6_19 rfl rfl (by decide) ?_
  refine g_iload_n dX6_isOf_4 rfl ?_
  refine g_pV1 dX6_isOf_5 qX6_68 rfl (by decide) (by decide) (Nat.le_of_ble_eq_true rfl) (x_hasHole hi.i0 h.r0 _ (by omega)) ?_
  refine g_ifb_eq (tgt := 20) dX6_isOf_8 (by decide) (fun h8 => ?_) (fun h8 => ?_)
  · refine g_ldc dX6_isOf_20 kX6_63 ?_
    exact g_iret dX6_isOf_22 trivial (OX.of (q := (cBad, V)) (by unfold p_isOf; rw [if_pos (by omega)]) rfl h keepX.rfl)
  · refine g_iload_n dX6_isOf_11 rfl ?_
    refine g_iconst dX6_isOf_12 ?_
    refine g_iconst dX6_isOf_13 ?_
    refine g_pS3 dX6_isOf_14 sX6_85 (by decide) (Nat.le_of_ble_eq_true rfl) (x_lies _ _ _ (by omega) (by omega) (by omega)) ?_
    refine g_ifb_ne (tgt := 23) dX6_isOf_17 (by decide) (fun h17 => ?_) (fun h17 => ?_)
    · refine g_aload_n dX6_isOf_23 rfl ?_
      refine g_getR dX6_isOf_24 fX6_19 rfl rfl (by decide) ?_
      refine g_getR dX6_isOf_27 fX6_79 rfl rfl (by decide) ?_
      refine g_iload_n dX6_isOf_30 rfl ?_
      refine g_iaload dX6_isOf_31 rfl (by decide) (by omega) (by omega) (by decide) ?_
      rw [h.kind _ (by omega) (by omega)]
      refine g_istore_n (i := 3) dX6_isOf_32 rfl (by decide) ?_
      have hk := hi.kind s (by omega) (by omega)
      have hr := h.ro
      have ha := (hr.1 (V 1 s) (by omega) (by omega)).2.2
      refine g_iload_n dX6_isOf_33 rfl ?_
      refine g_if_eq (tgt := 51) dX6_isOf_34 (by decide) (by omega) (fun h34 => ?_) (fun h34 => ?_)
      · refine g_iconst dX6_isOf_51 ?_
        refine g_goto (tgt := 56) dX6_isOf_52 (by decide) ?_
        refine g_pS1 dX6_isOf_56 sX6_138 (by decide) (Nat.le_of_ble_eq_true rfl) (x_asNum _ (by omega)) ?_
        exact g_iret dX6_isOf_59 trivial (by first | exact (OX.of (q := (1, V)) (by unfold p_isOf; rw [if_neg (by omega), b2i_1 (by omega)]) rfl h keepX.rfl) | exact (OX.of (q := (0, V)) (by unfold p_isOf; rw [if_neg (by omega), b2i_0 (by omega)]) rfl h keepX.rfl))
      · refine g_iload_n dX6_isOf_37 rfl ?_
        refine g_iload_n dX6_isOf_38 rfl ?_
        refine g_icmp_eq (tgt := 51) dX6_isOf_39 (by decide) (by omega) (by omega) (fun h39 => ?_) (fun h39 => ?_)
        · refine g_iconst dX6_isOf_51 ?_
          refine g_goto (tgt := 56) dX6_isOf_52 (by decide) ?_
          refine g_pS1 dX6_isOf_56 sX6_138 (by decide) (Nat.le_of_ble_eq_true rfl) (x_asNum _ (by omega)) ?_
          exact g_iret dX6_isOf_59 trivial (by first | exact (OX.of (q := (1, V)) (by unfold p_isOf; rw [if_neg (by omega), b2i_1 (by omega)]) rfl h keepX.rfl) | exact (OX.of (q := (0, V)) (by unfold p_isOf; rw [if_neg (by omega), b2i_0 (by omega)]) rfl h keepX.rfl))
        · refine g_iload_n dX6_isOf_42 rfl ?_
          refine g_getstatic dX6_isOf_43 zX6_135 ?_
          refine g_iload_n dX6_isOf_46 rfl ?_
          refine g_roload dX6_isOf_47 (by decide) (by decide) (by omega) (by rw [hr.2.2.2.2.1]; omega) ?_
          rw [ha]
          refine g_icmp_ne (tgt := 55) dX6_isOf_48 (by decide) (by omega) (by omega) (fun h48 => ?_) (fun h48 => ?_)
          · refine g_iconst dX6_isOf_55 ?_
            refine g_pS1 dX6_isOf_56 sX6_138 (by decide) (Nat.le_of_ble_eq_true rfl) (x_asNum _ (by omega)) ?_
            exact g_iret dX6_isOf_59 trivial (by first | exact (OX.of (q := (1, V)) (by unfold p_isOf; rw [if_neg (by omega), b2i_1 (by omega)]) rfl h keepX.rfl) | exact (OX.of (q := (0, V)) (by unfold p_isOf; rw [if_neg (by omega), b2i_0 (by omega)]) rfl h keepX.rfl))
          · refine g_iconst dX6_isOf_51 ?_
            refine g_goto (tgt := 56) dX6_isOf_52 (by decide) ?_
            refine g_pS1 dX6_isOf_56 sX6_138 (by decide) (Nat.le_of_ble_eq_true rfl) (x_asNum _ (by omega)) ?_
            exact g_iret dX6_isOf_59 trivial (by first | exact (OX.of (q := (1, V)) (by unfold p_isOf; rw [if_neg (by omega), b2i_1 (by omega)]) rfl h keepX.rfl) | exact (OX.of (q := (0, V)) (by unfold p_isOf; rw [if_neg (by omega), b2i_0 (by omega)]) rfl h keepX.rfl))
    · refine g_ldc dX6_isOf_20 kX6_63 ?_
      exact g_iret dX6_isOf_22 trivial (OX.of (q := (cBad, V)) (by unfold p_isOf; rw [if_pos (by omega)]) rfl h keepX.rfl)

theorem y_about {b : Int} {V σ : Mem} (hi : Inv b V) (h : RX V σ) (s : Int) (w : Int) (i_s : i32 s) (i_w : i32 w)  : Ret 41 mX6_about [aR 0, aI s, aI w] σ (OX σ (p_about V s w)) := by
  refine Ret.of [some (aR 0), some (aI s), some (aI w)] rfl (plainFor_of_name (by decide)) (Nat.le_of_ble_eq_true rfl) ?_
  have hN := hi.N2
  refine g_aload_n dX6_about_0 rfl ?_
  refine g_getR dX6_about_1 fX6_19 rfl rfl (by decide) ?_
  refine g_iload_n dX6_about_4 rfl ?_
  refine g_pV1 dX6_about_5 qX6_68 rfl (by decide) (by decide) (Nat.le_of_ble_eq_true rfl) (x_hasHole hi.i0 h.r0 _ (by omega)) ?_
  refine g_ifb_ne (tgt := 14) dX6_about_8 (by decide) (fun h8 => ?_) (fun h8 => ?_)
  · refine g_iload_n dX6_about_14 rfl ?_
    by_cases hw0 : w = 0
    · subst hw0
      refine g_tabIn (off := 29) (tgt := 44) dX6_about_15 (by omega) (by omega) (by omega) rfl (by decide) ?_
      refine g_aload_n dX6_about_44 rfl ?_
      refine g_getR dX6_about_45 fX6_19 rfl rfl (by decide) ?_
      refine g_getR dX6_about_48 fX6_79 rfl rfl (by decide) ?_
      refine g_iload_n dX6_about_51 rfl ?_
      refine g_iaload dX6_about_52 rfl (by decide) (by omega) (by omega) (by decide) ?_
      rw [h.kind _ (by omega) (by omega)]
      exact g_iret dX6_about_53 trivial (OX.of (q := (V 1 s, V)) (by unfold p_about; rw [if_neg (by omega), if_pos (by omega)]) rfl h keepX.rfl)
    by_cases hw1 : w = 1
    · subst hw1
      refine g_tabIn (off := 39) (tgt := 54) dX6_about_15 (by omega) (by omega) (by omega) rfl (by decide) ?_
      refine g_aload_n dX6_about_54 rfl ?_
      refine g_getR dX6_about_55 fX6_19 rfl rfl (by decide) ?_
      refine g_iload_n dX6_about_58 rfl ?_
      refine g_pV1 dX6_about_59 qX6_128 rfl (by decide) (by decide) (Nat.le_of_ble_eq_true rfl) (x_leanOf hi.i0 h.r0 _ (by omega) (by omega)) ?_
      exact g_iret dX6_about_62 trivial (OX.of (q := (leanK (V 1 s), V)) (by unfold p_about; rw [if_neg (by omega), if_neg (by omega), if_pos (by omega)]) rfl h keepX.rfl)
    by_cases hw2 : w = 2
    · subst hw2
      refine g_tabIn (off := 48) (tgt := 63) dX6_about_15 (by omega) (by omega) (by omega) rfl (by decide) ?_
      refine g_aload_n dX6_about_63 rfl ?_
      refine g_getR dX6_about_64 fX6_19 rfl rfl (by decide) ?_
      refine g_iload_n dX6_about_67 rfl ?_
      refine g_pV1 dX6_about_68 qX6_132 rfl (by decide) (by decide) (Nat.le_of_ble_eq_true rfl) (x_forceOf hi.i0 h.r0 _ (by omega) (by omega)) ?_
      exact g_iret dX6_about_71 trivial (OX.of (q := (forceK (V 1 s), V)) (by unfold p_about; rw [if_neg (by omega), if_neg (by omega), if_neg (by omega), if_pos (by omega)]) rfl h keepX.rfl)
    by_cases hw3 : w = 3
    · subst hw3
      refine g_tabIn (off := 57) (tgt := 72) dX6_about_15 (by omega) (by omega) (by omega) rfl (by decide) ?_
      refine g_aload_n dX6_about_72 rfl ?_
      refine g_getR dX6_about_73 fX6_19 rfl rfl (by decide) ?_
      refine g_getR dX6_about_76 fX6_125 rfl rfl (by decide) ?_
      refine g_iload_n dX6_about_79 rfl ?_
      refine g_iaload dX6_about_80 rfl (by decide) (by omega) (by omega) (by decide) ?_
      rw [h.pull _ (by omega) (by omega)]
      exact g_iret dX6_about_81 trivial (OX.of (q := (V 2 s, V)) (by unfold p_about; rw [if_neg (by omega), if_neg (by omega), if_neg (by omega), if_neg (by omega)]) rfl h keepX.rfl)
    refine g_tabOut (tgt := 82) dX6_about_15 (by omega) (by omega) (by decide) ?_
    refine g_ldc dX6_about_82 kX6_63 ?_
    exact g_iret dX6_about_84 trivial (OX.of (q := (cBad, V)) (by unfold p_about; rw [if_pos (by omega)]) rfl h keepX.rfl)
  · refine g_ldc dX6_about_11 kX6_63 ?_
    exact g_iret dX6_about_13 trivial (OX.of (q := (cBad, V)) (by unfold p_about; rw [if_pos (by omega)]) rfl h keepX.rfl)

theorem x_tbegin_lp {σ : Mem} (t : Nat) (q : Int) (ht : t < 6) : ∀ (fu : Nat) (k : Int) (τ : Mem), 0 ≤ k → k ≤ 17 → 17 - k < fu → τ 9 t = q → (∀ u : Nat, u < 6 → u ≠ t → τ 9 u = σ 9 u) → (∀ d, 0 ≤ d → d < k → τ (3 + t) d = 0) → (∀ a, a ≠ 9 → a ≠ 3 + t → τ a = σ a) → Go 41 mX3_begin 9 [some (aR 1), some (aI t), some (aI q), some (aI k)] [] τ (fun o τ => o = none ∧ (τ 9 t = q ∧ (∀ u : Nat, u < 6 → u ≠ t → τ 9 u = σ 9 u) ∧ (∀ d, 0 ≤ d → d < 17 → τ (3 + t) d = 0) ∧ ∀ a, a ≠ 9 → a ≠ 3 + t → τ a = σ a)) := by
  intro fu
  induction fu with
  | zero => intros; omega
  | succ fu ih =>
    intro k τ k0 k1 kn h1 h2 h3 h4
    refine g_iload_n dX3_begin_9 rfl ?_
    refine g_bipush (v := 17) dX3_begin_10 (by decide) ?_
    refine g_icmp_ge (tgt := 30) dX3_begin_12 (by decide) (by omega) (by omega) (fun h12 => ?_) (fun h12 => ?_)
    · exact g_vret dX3_begin_30 trivial ⟨rfl, h1, h2, fun d d0 d1 => h3 d d0 (by omega), h4⟩
    · refine g_aload_n dX3_begin_15 rfl ?_
      refine g_getR dX3_begin_16 fX3_11 rfl rfl (by decide) ?_
      refine g_iload_n dX3_begin_19 rfl ?_
      refine g_aaload dX3_begin_20 rfl (by decide) (by omega) (by omega) (by decide) (row_3 t (by omega)) ?_
      refine g_iload_n dX3_begin_21 rfl ?_
      refine g_iconst dX3_begin_22 ?_
      refine g_iastore dX3_begin_23 (shr_3 t (by omega)) (by omega) (by omega) (by omega) (by omega) (by decide) ?_
      refine g_iinc dX3_begin_24 rfl (by decide) ?_
      refine g_goto (tgt := 9) dX3_begin_27 (by decide) ?_
      exact ih (k + 1) _ (by omega) (by omega) (by omega) (by rw [up_cell (by omega)]; exact h1) (fun u u1 u2 => by rw [up_cell (by omega)]; exact h2 u u1 u2) (fun d d0 d1 => by
        by_cases hd : d = k
        · rw [hd, up_same]
        · rw [up_ne (Or.inr hd)]; exact h3 d d0 (by omega)) (fun a a1 a2 => by rw [up_cell a2]; exact h4 a a1 a2)

theorem x_tbegin {σ : Mem} (t : Nat) (q : Int) (ht : t < 6) : Ret 41 mX3_begin [aR 1, aI t, aI q] σ (fun o τ => o = none ∧ (τ 9 t = q ∧ (∀ u : Nat, u < 6 → u ≠ t → τ 9 u = σ 9 u) ∧ (∀ d, 0 ≤ d → d < 17 → τ (3 + t) d = 0) ∧ ∀ a, a ≠ 9 → a ≠ 3 + t → τ a = σ a)) := by
  refine Ret.of [some (aR 1), some (aI t), some (aI q), none] rfl (plainFor_of_name (by decide)) (Nat.le_of_ble_eq_true rfl) ?_
  refine g_aload_n dX3_begin_0 rfl ?_
  refine g_getR dX3_begin_1 fX3_16 rfl rfl (by decide) ?_
  refine g_iload_n dX3_begin_4 rfl ?_
  refine g_iload_n dX3_begin_5 rfl ?_
  refine g_iastore dX3_begin_6 rfl (by decide) (by decide) (by omega) (by omega) (by decide) ?_
  refine g_iconst dX3_begin_7 ?_
  refine g_istore_n (i := 3) dX3_begin_8 rfl (by decide) ?_
  exact x_tbegin_lp t q ht 18 0 _ (by omega) (by omega) (by omega) up_same (fun u u1 u2 => up_ne (Or.inr (by omega))) (fun d d0 d1 => by omega) (fun a a1 a2 => up_cell a1)

theorem RX.tbl {V σ τ : Mem} {t : Nat} {n : Int} (h : RX V σ) (ht : t < 6) (h2 : τ 9 t = n) (h3 : ∀ u : Nat, u < 6 → u ≠ t → τ 9 u = σ 9 u) (h4 : ∀ d, 0 ≤ d → d < 17 → τ (3 + t) d = 0) (h1 : ∀ a, a ≠ 9 → a ≠ 3 + t → τ a = σ a) : RX (tblV V t n) τ := by
  have e0 : ∀ a j, a ≠ 7 → a ≠ 8 + t → tblV V t n a j = V a j := fun a j q1 q2 => by simp [tblV, q1, q2]
  have ec : ∀ a, a ≠ 7 → a ≠ 8 + t → tblV V t n a = V a := fun a q1 q2 => funext fun j => e0 a j q1 q2
  unfold RX at h ⊢
  obtain ⟨g1, g2, g3, g4, g5, g6, g7, g8, g9, g10⟩ := h
  rw [ec 0 (by omega) (by omega), ec 1 (by omega) (by omega), ec 2 (by omega) (by omega), ec 14 (by omega) (by omega), ec 15 (by omega) (by omega), ec 16 (by omega) (by omega), ec 17 (by omega) (by omega), ec 18 (by omega) (by omega), h1 10 (by omega) (by omega), h1 41 (by omega) (by omega), h1 11 (by omega) (by omega), h1 12 (by omega) (by omega), h1 22 (by omega) (by omega), h1 26 (by omega) (by omega), h1 27 (by omega) (by omega), h1 28 (by omega) (by omega), h1 29 (by omega) (by omega), h1 100 (by omega) (by omega), h1 101 (by omega) (by omega), h1 102 (by omega) (by omega), h1 103 (by omega) (by omega), h1 200 (by omega) (by omega), h1 201 (by omega) (by omega), h1 202 (by omega) (by omega), h1 203 (by omega) (by omega)]
  refine ⟨g1, g2, fun r hr => ?_, fun u hu => ?_, fun u hu d a b => ?_, g6, g7, g8, g9, g10⟩
  · unfold unb
    rw [ec (3 + r) (by omega) (by omega), ec (5 + r) (by omega) (by omega), ec 0 (by omega) (by omega), h1 (20 + r) (by omega) (by omega), h1 (14 + r) (by omega) (by omega), h1 (17 + r) (by omega) (by omega)]; exact g3 r hr
  · by_cases hu2 : u = t
    · subst hu2; rw [h2]; simp [tblV]
    · rw [h3 u hu hu2, g4 u hu]
      simp only [tblV]
      rw [if_neg (by omega), if_neg (by omega)]
  · by_cases hu2 : u = t
    · subst hu2; rw [h4 d a b]; simp only [tblV]; rw [if_neg (by omega), if_pos trivial]
    · rw [h1 (3 + u) (by omega) (by omega), e0 _ _ (by omega) (by omega)]
      exact g5 u hu d a b

theorem y_table {b : Int} {V σ : Mem} (hi : Inv b V) (h : RX V σ) (t : Int) (n : Int) (i_t : i32 t) (i_n : i32 n)  : Ret 41 mX6_table [aR 0, aI t, aI n] σ (OX σ (p_table V t n)) := by
  refine Ret.of [some (aR 0), some (aI t), some (aI n)] rfl (plainFor_of_name (by decide)) (Nat.le_of_ble_eq_true rfl) ?_
  have hN := hi.N2
  refine g_iload_n dX6_table_0 rfl ?_
  refine g_pS1 dX6_table_1 sX6_82 (by decide) (Nat.le_of_ble_eq_true rfl) (x_isTable _ (by omega)) ?_
  refine g_ifb_eq (tgt := 17) dX6_table_4 (by decide) (fun h4 => ?_) (fun h4 => ?_)
  · refine g_ldc dX6_table_17 kX6_63 ?_
    exact g_iret dX6_table_19 trivial (OX.of (q := (cBad, V)) (by unfold p_table; rw [if_pos (by omega)]) rfl h keepX.rfl)
  · refine g_iload_n dX6_table_7 rfl ?_
    refine g_iconst dX6_table_8 ?_
    refine g_bipush (v := 17) dX6_table_9 (by decide) ?_
    refine g_pS3 dX6_table_11 sX6_85 (by decide) (Nat.le_of_ble_eq_true rfl) (x_lies _ _ _ (by omega) (by omega) (by omega)) ?_
    refine g_ifb_ne (tgt := 20) dX6_table_14 (by decide) (fun h14 => ?_) (fun h14 => ?_)
    · obtain ⟨u, rfl⟩ : ∃ u : Nat, t = u := ⟨t.toNat, by omega⟩
      have hu : u < 6 := by omega
      refine g_aload_n dX6_table_20 rfl ?_
      refine g_getR dX6_table_21 fX6_10 rfl rfl (by decide) ?_
      refine g_iload_n dX6_table_24 rfl ?_
      refine g_iload_n dX6_table_25 rfl ?_
      refine g_vV2 dX6_table_26 qX6_89 rfl (by decide) (by decide) (Nat.le_of_ble_eq_true rfl) (x_tbegin u n hu) ?_
      intro τ hb
      refine g_iload_n dX6_table_29 rfl ?_
      refine g_iconst dX6_table_30 ?_
      refine g_pS2 dX6_table_31 sX6_92 (by decide) (Nat.le_of_ble_eq_true rfl) (c_maxI (by omega) (by omega)) ?_
      exact g_iret dX6_table_34 trivial (OX.of (q := ((if n < 0 then 0 else n), tblV V u n)) (by unfold p_table; rw [if_neg (by omega), Int.toNat_natCast]) (by dsimp only) (h.tbl hu hb.1 hb.2.1 hb.2.2.1 hb.2.2.2) (fun a ha => hb.2.2.2 a (by omega) (by omega)))
    · refine g_ldc dX6_table_17 kX6_63 ?_
      exact g_iret dX6_table_19 trivial (OX.of (q := (cBad, V)) (by unfold p_table; rw [if_pos (by omega)]) rfl h keepX.rfl)

theorem RX.cpy {V σ τ : Mem} {f t : Nat} {n : Int} (h : RX V σ) (hf : f < 6) (ht : t < 6) (hn : n ≤ 17) (h4 : ∀ d, 0 ≤ d → d < n → τ (3 + t) d = σ (3 + f) d) (h5 : ∀ d, ¬ (0 ≤ d ∧ d < n) → τ (3 + t) d = σ (3 + t) d) (h1 : ∀ a, a ≠ 3 + t → τ a = σ a) : RX (cpyV V f t n) τ := by
  have e0 : ∀ a j, a ≠ 8 + t → cpyV V f t n a j = V a j := fun a j q2 => by simp [cpyV, q2]
  have ec : ∀ a, a ≠ 8 + t → cpyV V f t n a = V a := fun a q2 => funext fun j => e0 a j q2
  unfold RX at h ⊢
  obtain ⟨g1, g2, g3, g4, g5, g6, g7, g8, g9, g10⟩ := h
  rw [ec 0 (by omega), ec 1 (by omega), ec 2 (by omega), ec 7 (by omega), ec 14 (by omega), ec 15 (by omega), ec 16 (by omega), ec 17 (by omega), ec 18 (by omega), h1 9 (by omega), h1 10 (by omega), h1 41 (by omega), h1 11 (by omega), h1 12 (by omega), h1 22 (by omega), h1 26 (by omega), h1 27 (by omega), h1 28 (by omega), h1 29 (by omega), h1 100 (by omega), h1 101 (by omega), h1 102 (by omega), h1 103 (by omega), h1 200 (by omega), h1 201 (by omega), h1 202 (by omega), h1 203 (by omega)]
  refine ⟨g1, g2, fun r hr => ?_, g4, fun u hu d a b => ?_, g6, g7, g8, g9, g10⟩
  · unfold unb
    rw [ec (3 + r) (by omega), ec (5 + r) (by omega), ec 0 (by omega), h1 (20 + r) (by omega), h1 (14 + r) (by omega), h1 (17 + r) (by omega)]; exact g3 r hr
  · by_cases hu2 : u = t
    · subst hu2
      by_cases hd : d < n
      · rw [h4 d a hd, g5 f hf d a b]
        simp only [cpyV]
        rw [if_pos ⟨trivial, a, hd⟩]
      · rw [h5 _ (by omega), g5 u hu d a b]
        simp only [cpyV]
        rw [if_neg (by omega)]
    · rw [h1 (3 + u) (by omega), e0 _ _ (by omega)]
      exact g5 u hu d a b

theorem y_copy_lp {b : Int} {V σ : Mem} (hi : Inv b V) (h : RX V σ) (f t : Nat) (q : Int) (hf : f < 6) (ht : t < 6) (hq : 0 ≤ q ∧ q ≤ V 7 f ∧ q ≤ V 7 t) (hq7 : q ≤ 17) : ∀ (fu : Nat) (k : Int) (τ : Mem), 0 ≤ k → k ≤ q → q - k < fu → (∀ d, 0 ≤ d → d < k → τ (3 + t) d = σ (3 + f) d) → (∀ d, ¬ (0 ≤ d ∧ d < k) → τ (3 + t) d = σ (3 + t) d) → (∀ a, a ≠ 3 + t → τ a = σ a) → Go 41 mX6_copy 77 [some (aR 0), some (aI f), some (aI t), some (aI q), some (aI k)] [] τ (OX σ (p_copy V f t q)) := by
  intro fu
  induction fu with
  | zero => intros; omega
  | succ fu ih =>
    intro k τ k0 k1 kn h4 h5 h1
    refine g_iload dX6_copy_77 rfl ?_
    refine g_iload_n dX6_copy_79 rfl ?_
    refine g_icmp_ge (tgt := 113) dX6_copy_80 (by decide) (by omega) (by omega) (fun h80 => ?_) (fun h80 => ?_)
    · refine g_iload_n dX6_copy_113 rfl ?_
      exact g_iret dX6_copy_114 trivial (OX.of (q := (q, cpyV V f t q)) (by unfold p_copy; rw [if_neg (by omega), if_neg (by omega), if_neg (by omega), Int.toNat_natCast, Int.toNat_natCast]) rfl (h.cpy hf ht hq7 (by rw [show q = k by omega]; exact h4) (by rw [show q = k by omega]; exact h5) h1) (fun a ha => h1 a (by omega)))
    · refine g_aload_n dX6_copy_83 rfl ?_
      refine g_getR dX6_copy_84 fX6_10 rfl rfl (by decide) ?_
      refine g_getR dX6_copy_87 fX6_106 rfl rfl (by decide) ?_
      refine g_iload_n dX6_copy_90 rfl ?_
      refine g_aaload dX6_copy_91 rfl (by decide) (by omega) (by omega) (by decide) (row_3 t ht) ?_
      refine g_iload dX6_copy_92 rfl ?_
      refine g_aload_n dX6_copy_94 rfl ?_
      refine g_getR dX6_copy_95 fX6_10 rfl rfl (by decide) ?_
      refine g_getR dX6_copy_98 fX6_106 rfl rfl (by decide) ?_
      refine g_iload_n dX6_copy_101 rfl ?_
      refine g_aaload dX6_copy_102 rfl (by decide) (by omega) (by omega) (by decide) (row_3 f hf) ?_
      refine g_iload dX6_copy_103 rfl ?_
      refine g_iaload dX6_copy_105 (shr_3 f hf) (by omega) (by omega) (by omega) (by decide) ?_
      refine g_iastore dX6_copy_106 (shr_3 t ht) (by omega) (by omega) (by omega) (by omega) (by decide) ?_
      refine g_iinc dX6_copy_107 rfl (by decide) ?_
      refine g_goto (tgt := 77) dX6_copy_110 (by decide) ?_
      have hsrc : τ (3 + f) k = σ (3 + f) k := by
        by_cases hft : f = t
        · subst hft; exact h5 _ (by omega)
        · rw [h1 _ (by omega)]
      rw [hsrc]
      exact ih (k + 1) _ (by omega) (by omega) (by omega) (fun d d0 d1 => by
        by_cases hd : d = k
        · rw [hd, up_same]
        · rw [up_ne (Or.inr hd)]; exact h4 d d0 (by omega)) (fun d hd => by rw [up_ne (Or.inr (by omega))]; exact h5 d (by omega)) (fun a a1 => by rw [up_cell a1]; exact h1 a a1)

theorem y_copy {b : Int} {V σ : Mem} (hi : Inv b V) (h : RX V σ) (f : Int) (t : Int) (q : Int) (i_f : i32 f) (i_t : i32 t) (i_q : i32 q)  : Ret 41 mX6_copy [aR 0, aI f, aI t, aI q] σ (OX σ (p_copy V f t q)) := by
  refine Ret.of [some (aR 0), some (aI f), some (aI t), some (aI q), none] rfl (plainFor_of_name (by decide)) (Nat.le_of_ble_eq_true rfl) ?_
  have hN := hi.N2
  refine g_iload_n dX6_copy_0 rfl ?_
  refine g_pS1 dX6_copy_1 sX6_82 (by decide) (Nat.le_of_ble_eq_true rfl) (x_isTable _ (by omega)) ?_
  refine g_ifb_eq (tgt := 14) dX6_copy_4 (by decide) (fun h4 => ?_) (fun h4 => ?_)
  · refine g_ldc dX6_copy_14 kX6_63 ?_
    exact g_iret dX6_copy_16 trivial (OX.of (q := (cBad, V)) (by unfold p_copy; rw [if_pos (by omega)]) rfl h keepX.rfl)
  · refine g_iload_n dX6_copy_7 rfl ?_
    refine g_pS1 dX6_copy_8 sX6_82 (by decide) (Nat.le_of_ble_eq_true rfl) (x_isTable _ (by omega)) ?_
    refine g_ifb_ne (tgt := 17) dX6_copy_11 (by decide) (fun h11 => ?_) (fun h11 => ?_)
    · obtain ⟨u, rfl⟩ : ∃ u : Nat, f = u := ⟨f.toNat, by omega⟩
      obtain ⟨v, rfl⟩ : ∃ u : Nat, t = u := ⟨t.toNat, by omega⟩
      have hz := hi.size u (by omega)
      have hz2 := hi.size v (by omega)
      refine g_aload_n dX6_copy_17 rfl ?_
      refine g_getR dX6_copy_18 fX6_10 rfl rfl (by decide) ?_
      refine g_iload_n dX6_copy_21 rfl ?_
      refine g_pV1 dX6_copy_22 qX6_98 rfl (by decide) (by decide) (Nat.le_of_ble_eq_true rfl) (x_isMissing hi h u (by omega)) ?_
      refine g_ifb_ne (tgt := 39) dX6_copy_25 (by decide) (fun h25 => ?_) (fun h25 => ?_)
      · refine g_ldc dX6_copy_39 kX6_101 ?_
        exact g_iret dX6_copy_41 trivial (OX.of (q := (cNothing, V)) (by unfold p_copy; rw [if_neg (by omega), if_pos (by omega)]) rfl h keepX.rfl)
      · refine g_aload_n dX6_copy_28 rfl ?_
        refine g_getR dX6_copy_29 fX6_10 rfl rfl (by decide) ?_
        refine g_iload_n dX6_copy_32 rfl ?_
        refine g_pV1 dX6_copy_33 qX6_98 rfl (by decide) (by decide) (Nat.le_of_ble_eq_true rfl) (x_isMissing hi h v (by omega)) ?_
        refine g_ifb_eq (tgt := 42) dX6_copy_36 (by decide) (fun h36 => ?_) (fun h36 => ?_)
        · refine g_iload_n dX6_copy_42 rfl ?_
          refine g_iconst dX6_copy_43 ?_
          refine g_aload_n dX6_copy_44 rfl ?_
          refine g_getR dX6_copy_45 fX6_10 rfl rfl (by decide) ?_
          refine g_getR dX6_copy_48 fX6_102 rfl rfl (by decide) ?_
          refine g_iload_n dX6_copy_51 rfl ?_
          refine g_iaload dX6_copy_52 rfl (by decide) (by omega) (by omega) (by decide) ?_
          rw [h.size u (by omega)]
          refine g_aload_n dX6_copy_53 rfl ?_
          refine g_getR dX6_copy_54 fX6_10 rfl rfl (by decide) ?_
          refine g_getR dX6_copy_57 fX6_102 rfl rfl (by decide) ?_
          refine g_iload_n dX6_copy_60 rfl ?_
          refine g_iaload dX6_copy_61 rfl (by decide) (by omega) (by omega) (by decide) ?_
          rw [h.size v (by omega)]
          refine g_pS2 dX6_copy_62 sX6_110 (by decide) (Nat.le_of_ble_eq_true rfl) (c_minI (by omega) (by omega)) ?_
          refine g_pS3 dX6_copy_65 sX6_85 (by decide) (Nat.le_of_ble_eq_true rfl) (x_lies _ _ _ (by omega) (by omega) (by omega)) ?_
          refine g_ifb_ne (tgt := 74) dX6_copy_68 (by decide) (fun h68 => ?_) (fun h68 => ?_)
          · refine g_iconst dX6_copy_74 ?_
            refine g_istore dX6_copy_75 (by decide) ?_
            exact y_copy_lp hi h u v q (by omega) (by omega) (by omega) (by omega) 18 0 _ (by omega) (by omega) (by omega) (fun d d0 d1 => by omega) (fun d _ => rfl) (fun a _ => rfl)
          · refine g_ldc dX6_copy_71 kX6_105 ?_
            exact g_iret dX6_copy_73 trivial (OX.of (q := (cIndex, V)) (by unfold p_copy; rw [if_neg (by omega), if_neg (by omega), if_pos (by omega)]) rfl h keepX.rfl)
        · refine g_ldc dX6_copy_39 kX6_101 ?_
          exact g_iret dX6_copy_41 trivial (OX.of (q := (cNothing, V)) (by unfold p_copy; rw [if_neg (by omega), if_pos (by omega)]) rfl h keepX.rfl)
    · refine g_ldc dX6_copy_14 kX6_63 ?_
      exact g_iret dX6_copy_16 trivial (OX.of (q := (cBad, V)) (by unfold p_copy; rw [if_pos (by omega)]) rfl h keepX.rfl)
