theorem ld_b {b : Int} {V : Mem} (hi : Inv b V) (w p j : Int) (hw : 0 ≤ w ∧ w ≤ 100000) (p0 : 0 ≤ p) (p1 : p < V 0 0) (j0 : 0 ≤ j) (j1 : j < V 0 0) : (-100000000 ≤ w * V 13 (stp (V 0 0) p j) ∧ w * V 13 (stp (V 0 0) p j) ≤ 100000000) ∧ (-600000000 ≤ ldP V w p j ∧ ldP V w p j ≤ 600000000) := by
  have hb := hi.b
  have hst := stp_b hi.N p0 p1 j0 j1
  have hp2 := hi.pull j j0 j1
  have ht : -1000 ≤ V 13 (stp (V 0 0) p j) ∧ V 13 (stp (V 0 0) p j) ≤ 1000 ∧ _ := hi.tab 5 (by decide) _ hst.1 (by omega)
  have hm := mulb (a := w) (k := V 13 (stp (V 0 0) p j)) (A := 100000) (B := 1000) (by omega) (by omega) (by omega) (by omega) (by omega) (by omega)
  unfold ldP
  generalize w * V 13 (stp (V 0 0) p j) = x at *
  omega

theorem c_pullWith {b : Int} {V σ : Mem} (hi : Inv b V) (h : RM V σ) (w : Int) (p : Int) (s : Int) (hw : 0 ≤ w ∧ w ≤ 100000) (p0 : 0 ≤ p) (p1 : p < V 0 0) (s0 : 0 ≤ s) (s1 : s < V 0 0) : RetV 41 mX7_pullWith [aR 30, aI w, aI p, aI s] σ (aL (ldP V w p s)) := by
  refine Ret.of [some (aR 30), some (aI w), some (aI p), some (aI s)] rfl (plainFor_of_name (by decide)) (Nat.le_of_ble_eq_true rfl) ?_
  have hN := hi.N2
  have hld := ld_b hi w p s hw p0 p1 s0 s1
  have hst := stp_b hi.N p0 p1 s0 s1
  have hst32 : stp (V 0 0) p s < 17 := by omega
  have tb : -1000 ≤ V 13 (stp (V 0 0) p s) ∧ V 13 (stp (V 0 0) p s) ≤ 1000 ∧ _ := hi.tab 5 (by decide) _ hst.1 hst32
  refine g_aload_n dX7_pullWith_0 rfl ?_
  refine g_getR dX7_pullWith_1 fX7_13 rfl rfl (by decide) ?_
  refine g_iload_n dX7_pullWith_4 rfl ?_
  refine g_laload dX7_pullWith_5 rfl (by decide) (by omega) (by omega) (by decide) ?_
  rw [h.pull _ (by omega) (by omega)]
  refine g_iload_n dX7_pullWith_6 rfl ?_
  refine g_i2l dX7_pullWith_7 (by omega) ?_
  refine g_aload_n dX7_pullWith_8 rfl ?_
  refine g_iconst dX7_pullWith_9 ?_
  refine g_aload_n dX7_pullWith_10 rfl ?_
  refine g_iload_n dX7_pullWith_11 rfl ?_
  refine g_iload_n dX7_pullWith_12 rfl ?_
  refine g_pV2 dX7_pullWith_13 qX7_154 rfl (by decide) (by decide) (Nat.le_of_ble_eq_true rfl) (c0_steps hi.i0 h.r0 p s p0 p1 s0 s1) ?_
  refine g_pV2 dX7_pullWith_16 qX7_98 rfl (by decide) (by decide) (Nat.le_of_ble_eq_true rfl) (c0_t5 hi.i0 h.r0 _ hst.1 hst32) ?_
  refine g_i2l dX7_pullWith_19 (by omega) ?_
  refine g_lmul dX7_pullWith_20 ?_
  refine g_ldc2 dX7_pullWith_21 lX7_120 ?_
  refine g_pS2 dX7_pullWith_24 sX7_110 (by decide) (Nat.le_of_ble_eq_true rfl) (c_cut _ _ (by omega) (by omega) (by omega)) ?_
  refine g_lsub dX7_pullWith_27 ?_
  exact g_lret dX7_pullWith_28 trivial ⟨rfl, rfl⟩

theorem k_loaded {b : Int} {V σ : Mem} (hi : Inv b V) (h : RM V σ) (w : Int) (p : Int) (s : Int) (i_w : i32 w) (i_p : i32 p) (i_s : i32 s)  : Ret 41 mX7_loaded [aR 30, aI w, aI p, aI s] σ (OM σ (p_loaded V w p s)) := by
  refine Ret.of [some (aR 30), some (aI w), some (aI p), some (aI s)] rfl (plainFor_of_name (by decide)) (Nat.le_of_ble_eq_true rfl) ?_
  have hN := hi.N2
  refine g_iload_n dX7_loaded_0 rfl ?_
  refine g_iconst dX7_loaded_1 ?_
  refine g_ldc dX7_loaded_2 kX7_90 ?_
  refine g_pS3 dX7_loaded_4 sX7_70 (by decide) (Nat.le_of_ble_eq_true rfl) (c_isIn _ _ _ (by omega) (by omega) (by omega)) ?_
  refine g_ifb_eq (tgt := 26) dX7_loaded_7 (by decide) (fun h7 => ?_) (fun h7 => ?_)
  · refine g_ldc dX7_loaded_26 kX7_78 ?_
    exact g_iret dX7_loaded_28 trivial (OM.of (q := (cBad, V)) (by unfold p_loaded; rw [if_pos (by omega)]) rfl h keepM.rfl)
  · refine g_aload_n dX7_loaded_10 rfl ?_
    refine g_iload_n dX7_loaded_11 rfl ?_
    refine g_pV1 dX7_loaded_12 qX7_79 rfl (by decide) (by decide) (Nat.le_of_ble_eq_true rfl) (c_isHole hi h _ (by omega)) ?_
    refine g_ifb_eq (tgt := 26) dX7_loaded_15 (by decide) (fun h15 => ?_) (fun h15 => ?_)
    · refine g_ldc dX7_loaded_26 kX7_78 ?_
      exact g_iret dX7_loaded_28 trivial (OM.of (q := (cBad, V)) (by unfold p_loaded; rw [if_pos (by omega)]) rfl h keepM.rfl)
    · refine g_aload_n dX7_loaded_18 rfl ?_
      refine g_iload_n dX7_loaded_19 rfl ?_
      refine g_pV1 dX7_loaded_20 qX7_79 rfl (by decide) (by decide) (Nat.le_of_ble_eq_true rfl) (c_isHole hi h _ (by omega)) ?_
      refine g_ifb_ne (tgt := 29) dX7_loaded_23 (by decide) (fun h23 => ?_) (fun h23 => ?_)
      · refine g_aload_n dX7_loaded_29 rfl ?_
        refine g_iload_n dX7_loaded_30 rfl ?_
        refine g_pV1 dX7_loaded_31 qX7_74 rfl (by decide) (by decide) (Nat.le_of_ble_eq_true rfl) (c_isGone hi h _ (by omega) (by omega)) ?_
        refine g_ifb_eq (tgt := 41) dX7_loaded_34 (by decide) (fun h34 => ?_) (fun h34 => ?_)
        · refine g_aload_n dX7_loaded_41 rfl ?_
          refine g_iload_n dX7_loaded_42 rfl ?_
          refine g_iload_n dX7_loaded_43 rfl ?_
          refine g_iload_n dX7_loaded_44 rfl ?_
          refine g_pV3 dX7_loaded_45 qX7_208 rfl (by decide) (by decide) (Nat.le_of_ble_eq_true rfl) (c_pullWith hi h w p s (by omega) (by omega) (by omega) (by omega) (by omega)) ?_
          refine g_l2i dX7_loaded_48 ?_
          exact g_iret dX7_loaded_49 trivial (by first | exact (OM.of (q := (0, V)) (by unfold p_loaded; rw [if_neg (by omega), if_pos (by omega)]) rfl h keepM.rfl) | exact (OM.of (q := (ldP V w p s, V)) (by unfold p_loaded; rw [if_neg (by omega), if_neg (by omega)]) rfl h keepM.rfl))
        · refine g_iconst dX7_loaded_37 ?_
          refine g_goto (tgt := 49) dX7_loaded_38 (by decide) ?_
          exact g_iret dX7_loaded_49 trivial (by first | exact (OM.of (q := (0, V)) (by unfold p_loaded; rw [if_neg (by omega), if_pos (by omega)]) rfl h keepM.rfl) | exact (OM.of (q := (ldP V w p s, V)) (by unfold p_loaded; rw [if_neg (by omega), if_neg (by omega)]) rfl h keepM.rfl))
      · refine g_ldc dX7_loaded_26 kX7_78 ?_
        exact g_iret dX7_loaded_28 trivial (OM.of (q := (cBad, V)) (by unfold p_loaded; rw [if_pos (by omega)]) rfl h keepM.rfl)

theorem k_worstAt_in {b : Int} {V σ : Mem} {Q : Option AV → Mem → Prop} (hi : Inv b V) (h : RM V σ) (w p be mo : Int) (hw : 0 ≤ w ∧ w ≤ 100000) (p0 : 0 ≤ p) (p1 : p < V 0 0) (hE : Go 41 mX7_worstAt 83 [some (aR 30), some (aI w), some (aI be), some (aI mo), some (aI p), some (aI (ldC V w p)), some (aI (V 0 0))] [] σ Q) : ∀ (fu : Nat) (k a : Int), 0 ≤ k → k ≤ V 0 0 → V 0 0 - k < fu → a = cntN (fun j => decide (V 1 j ≠ 4) && decide (ldP V w p j < 0)) k.toNat → Go 41 mX7_worstAt 35 [some (aR 30), some (aI w), some (aI be), some (aI mo), some (aI p), some (aI a), some (aI k)] [] σ Q := by
  intro fu
  induction fu with
  | zero => intros; omega
  | succ fu ih =>
    intro k a k0 k1 kn ha
    have hN := hi.N2
    have hsu := cntN_succ (P := fun j => decide (V 1 j ≠ 4) && decide (ldP V w p j < 0)) k0
    rw [← ha] at hsu
    refine g_iload dX7_worstAt_35 rfl ?_
    refine g_aload_n dX7_worstAt_37 rfl ?_
    refine g_getI (ji := 0) rfl dX7_worstAt_38 fX7_58 rfl rfl (by decide) ?_
    rw [h.N]
    refine g_icmp_ge (tgt := 83) dX7_worstAt_41 (by decide) (by omega) (by omega) (fun h41 => ?_) (fun h41 => ?_)
    · have hk : k = V 0 0 := by omega
      rw [hk] at ha ⊢
      rw [ha]
      exact hE
    · have hkN : k < V 0 0 := h41
      have hld := ld_b hi w p k hw p0 p1 k0 hkN
      have e1 : 0 ≤ k + 1 := by omega
      have e2 : k + 1 ≤ V 0 0 := by omega
      have e3 : V 0 0 - (k + 1) < fu := by omega
      refine g_iload dX7_worstAt_44 rfl ?_
      refine g_aload_n dX7_worstAt_46 rfl ?_
      refine g_iload dX7_worstAt_47 rfl ?_
      refine g_pV1 dX7_worstAt_49 qX7_74 rfl (by decide) (by decide) (Nat.le_of_ble_eq_true rfl) (c_isGone hi h k k0 hkN) ?_
      refine g_ifb_ne (tgt := 73) dX7_worstAt_52 (by decide) (fun h52 => ?_) (fun h52 => ?_)
      · refine g_iconst dX7_worstAt_73 ?_
        refine g_iadd dX7_worstAt_74 ?_
        refine g_istore dX7_worstAt_75 (by decide) ?_
        refine g_iinc dX7_worstAt_77 rfl (by decide) ?_
        refine g_goto (tgt := 35) dX7_worstAt_80 (by decide) ?_
        exact ih (k + 1) _ e1 e2 e3 (by rw [hsu]; first | rw [if_pos (by simp; omega)] | rw [if_neg (by simp; omega)])
      · refine g_aload_n dX7_worstAt_55 rfl ?_
        refine g_iload_n dX7_worstAt_56 rfl ?_
        refine g_iload dX7_worstAt_57 rfl ?_
        refine g_iload dX7_worstAt_59 rfl ?_
        refine g_pV3 dX7_worstAt_61 qX7_208 rfl (by decide) (by decide) (Nat.le_of_ble_eq_true rfl) (c_pullWith hi h w p k hw p0 p1 k0 hkN) ?_
        refine g_lconst (v := 0) dX7_worstAt_64 (by decide) ?_
        refine g_lcmp_ge (tgt := 73) dX7_worstAt_65 dX7_worstAt_66 (by decide) (by omega) (by omega) (fun h65 => ?_) (fun h65 => ?_)
        · refine g_iconst dX7_worstAt_73 ?_
          refine g_iadd dX7_worstAt_74 ?_
          refine g_istore dX7_worstAt_75 (by decide) ?_
          refine g_iinc dX7_worstAt_77 rfl (by decide) ?_
          refine g_goto (tgt := 35) dX7_worstAt_80 (by decide) ?_
          exact ih (k + 1) _ e1 e2 e3 (by rw [hsu]; first | rw [if_pos (by simp; omega)] | rw [if_neg (by simp; omega)])
        · refine g_iconst dX7_worstAt_69 ?_
          refine g_goto (tgt := 74) dX7_worstAt_70 (by decide) ?_
          refine g_iadd dX7_worstAt_74 ?_
          refine g_istore dX7_worstAt_75 (by decide) ?_
          refine g_iinc dX7_worstAt_77 rfl (by decide) ?_
          refine g_goto (tgt := 35) dX7_worstAt_80 (by decide) ?_
          exact ih (k + 1) _ e1 e2 e3 (by rw [hsu]; first | rw [if_pos (by simp; omega)] | rw [if_neg (by simp; omega)])

theorem wrS_succ {V : Mem} {w k : Int} (h : 0 ≤ k) : wrS V w (k + 1).toNat = if (wrS V w k.toNat).1 < ldC V w k then (ldC V w k, k) else wrS V w k.toNat := by
  have e : (k + 1).toNat = k.toNat + 1 := by omega
  rw [e]
  show (if (wrS V w k.toNat).1 < ldC V w (k.toNat : Int) then _ else _) = _
  rw [Int.toNat_of_nonneg h]
theorem ldC_b (V : Mem) (w p : Int) (hN : V 0 0 ≤ 32) (hN0 : 0 ≤ V 0 0) : 0 ≤ ldC V w p ∧ ldC V w p ≤ 32 := by
  have := cntN_b (fun j => decide (V 1 j ≠ 4) && decide (ldP V w p j < 0)) (V 0 0).toNat
  unfold ldC
  omega

theorem k_worstAt_lp {b : Int} {V σ : Mem} (hi : Inv b V) (h : RM V σ) (w : Int) (hw : 0 ≤ w ∧ w ≤ 100000) : ∀ (fu : Nat) (p be mo : Int) (x5 x6 : Option AV), 0 ≤ p → p ≤ V 0 0 → V 0 0 - p < fu → (-1 ≤ mo ∧ mo ≤ 32) → ((p = 0 ∧ mo = -1 ∧ be = 0) ∨ (1 ≤ p ∧ wrS V w p.toNat = (mo, be))) → Go 41 mX7_worstAt 20 [some (aR 30), some (aI w), some (aI be), some (aI mo), some (aI p), x5, x6] [] σ (OM σ (p_worstAt V w)) := by
  intro fu
  induction fu with
  | zero => intros; omega
  | succ fu ih =>
    intro p be mo x5 x6 p0 p1 pn hmo hs
    have hN := hi.N2
    have hsu := wrS_succ (V := V) (w := w) p0
    have hlc := ldC_b V w p hN.2 (by omega)
    refine g_iload dX7_worstAt_20 rfl ?_
    refine g_aload_n dX7_worstAt_22 rfl ?_
    refine g_getI (ji := 0) rfl dX7_worstAt_23 fX7_58 rfl rfl (by decide) ?_
    rw [h.N]
    refine g_icmp_ge (tgt := 101) dX7_worstAt_26 (by decide) (by omega) (by omega) (fun h26 => ?_) (fun h26 => ?_)
    · refine g_iload_n dX7_worstAt_101 rfl ?_
      exact g_iret dX7_worstAt_102 trivial (OM.of (q := (be, V)) (by unfold p_worstAt; rw [if_neg (by omega)]; rcases hs with q | q; omega; rw [show V 0 0 = p by omega, q.2]) rfl h keepM.rfl)
    · have hpN : p < V 0 0 := h26
      have e1 : 0 ≤ p + 1 := by omega
      have e2 : p + 1 ≤ V 0 0 := by omega
      have e3 : V 0 0 - (p + 1) < fu := by omega
      refine g_iconst dX7_worstAt_29 ?_
      refine g_istore dX7_worstAt_30 (by decide) ?_
      refine g_iconst dX7_worstAt_32 ?_
      refine g_istore dX7_worstAt_33 (by decide) ?_
      refine k_worstAt_in hi h w p be mo hw p0 hpN ?_ 33 0 0 (by omega) (by omega) (by omega) rfl
      refine g_iload dX7_worstAt_83 rfl ?_
      refine g_iload_n dX7_worstAt_85 rfl ?_
      refine g_icmp_le (tgt := 95) dX7_worstAt_86 (by decide) (by omega) (by omega) (fun h86 => g_iinc dX7_worstAt_95 rfl (by decide) (g_goto (tgt := 20) dX7_worstAt_98 (by decide) (ih (p + 1) be mo _ _ e1 e2 e3 hmo (Or.inr ⟨by omega, by rcases hs with q | q; omega; rw [hsu, q.2, if_neg (by dsimp only; omega)]⟩)))) (fun h86 => ?_)
      refine g_iload dX7_worstAt_89 rfl ?_
      refine g_istore_n (i := 3) dX7_worstAt_91 rfl (by decide) ?_
      refine g_iload dX7_worstAt_92 rfl ?_
      refine g_istore_n (i := 2) dX7_worstAt_94 rfl (by decide) ?_
      refine g_iinc dX7_worstAt_95 rfl (by decide) ?_
      refine g_goto (tgt := 20) dX7_worstAt_98 (by decide) ?_
      exact ih (p + 1) p _ _ _ e1 e2 e3 (by omega) (Or.inr ⟨by omega, by
        rcases hs with q | q
        · rw [hsu]
          obtain ⟨q1, q2, q3⟩ := q
          subst q1
          show (if (0 : Int) < ldC V w 0 then (ldC V w 0, (0 : Int)) else (0, 0)) = _
          split
          · rfl
          · rw [show ldC V w 0 = 0 by omega]
        · rw [hsu, q.2, if_pos (by dsimp only; omega)]⟩)

theorem k_worstAt {b : Int} {V σ : Mem} (hi : Inv b V) (h : RM V σ) (w : Int) (i_w : i32 w)  : Ret 41 mX7_worstAt [aR 30, aI w] σ (OM σ (p_worstAt V w)) := by
  refine Ret.of [some (aR 30), some (aI w), none, none, none, none, none] rfl (plainFor_of_name (by decide)) (Nat.le_of_ble_eq_true rfl) ?_
  have hN := hi.N2
  refine g_iload_n dX7_worstAt_0 rfl ?_
  refine g_iconst dX7_worstAt_1 ?_
  refine g_ldc dX7_worstAt_2 kX7_90 ?_
  refine g_pS3 dX7_worstAt_4 sX7_70 (by decide) (Nat.le_of_ble_eq_true rfl) (c_isIn _ _ _ (by omega) (by omega) (by omega)) ?_
  refine g_ifb_ne (tgt := 13) dX7_worstAt_7 (by decide) (fun h7 => ?_) (fun h7 => ?_)
  · refine g_iconst dX7_worstAt_13 ?_
    refine g_istore_n (i := 2) dX7_worstAt_14 rfl (by decide) ?_
    refine g_iconst dX7_worstAt_15 ?_
    refine g_istore_n (i := 3) dX7_worstAt_16 rfl (by decide) ?_
    refine g_iconst dX7_worstAt_17 ?_
    refine g_istore dX7_worstAt_18 (by decide) ?_
    exact k_worstAt_lp hi h w (by omega) 33 0 0 (-1) _ _ (by omega) (by omega) (by omega) (by omega) (Or.inl ⟨rfl, rfl, rfl⟩)
  · refine g_ldc dX7_worstAt_10 kX7_78 ?_
    exact g_iret dX7_worstAt_12 trivial (OM.of (q := (cBad, V)) (by unfold p_worstAt; rw [if_pos (by omega)]) rfl h keepM.rfl)

theorem c_sine16 {σ : Mem} (k : Int) (h0 : 0 ≤ k) (h1 : k ≤ 16) : RetV 41 mX7_sine16 [aR 30, aI k] σ (aI (sinT k)) := by
  refine Ret.of [some (aR 30), some (aI k)] rfl (plainFor_of_name (by decide)) (Nat.le_of_ble_eq_true rfl) ?_
  refine g_iload_n dX7_sine16_0 rfl ?_
  rcases (show k = 0 ∨ k = 1 ∨ k = 2 ∨ k = 3 ∨ k = 4 ∨ k = 5 ∨ k = 6 ∨ k = 7 ∨ k = 8 ∨ k = 9 ∨ k = 10 ∨ k = 11 ∨ k = 12 ∨ k = 13 ∨ k = 14 ∨ k = 15 ∨ k = 16 by omega) with rfl | rfl | rfl | rfl | rfl | rfl | rfl | rfl | rfl | rfl | rfl | rfl | rfl | rfl | rfl | rfl | rfl
  · refine g_tabIn (off := 79) (tgt := 80) dX7_sine16_1 (by decide) (by decide) (by decide) rfl (by decide) ?_
    refine g_iconst dX7_sine16_80 ?_
    exact g_iret dX7_sine16_81 trivial ⟨rfl, rfl⟩
  · refine g_tabIn (off := 81) (tgt := 82) dX7_sine16_1 (by decide) (by decide) (by decide) rfl (by decide) ?_
    refine g_bipush (v := 100) dX7_sine16_82 (by decide) ?_
    exact g_iret dX7_sine16_84 trivial ⟨rfl, rfl⟩
  · refine g_tabIn (off := 84) (tgt := 85) dX7_sine16_1 (by decide) (by decide) (by decide) rfl (by decide) ?_
    refine g_sipush (v := 200) dX7_sine16_85 (by decide) ?_
    exact g_iret dX7_sine16_88 trivial ⟨rfl, rfl⟩
  · refine g_tabIn (off := 88) (tgt := 89) dX7_sine16_1 (by decide) (by decide) (by decide) rfl (by decide) ?_
    refine g_sipush (v := 297) dX7_sine16_89 (by decide) ?_
    exact g_iret dX7_sine16_92 trivial ⟨rfl, rfl⟩
  · refine g_tabIn (off := 92) (tgt := 93) dX7_sine16_1 (by decide) (by decide) (by decide) rfl (by decide) ?_
    refine g_sipush (v := 392) dX7_sine16_93 (by decide) ?_
    exact g_iret dX7_sine16_96 trivial ⟨rfl, rfl⟩
  · refine g_tabIn (off := 96) (tgt := 97) dX7_sine16_1 (by decide) (by decide) (by decide) rfl (by decide) ?_
    refine g_sipush (v := 483) dX7_sine16_97 (by decide) ?_
    exact g_iret dX7_sine16_100 trivial ⟨rfl, rfl⟩
  · refine g_tabIn (off := 100) (tgt := 101) dX7_sine16_1 (by decide) (by decide) (by decide) rfl (by decide) ?_
    refine g_sipush (v := 569) dX7_sine16_101 (by decide) ?_
    exact g_iret dX7_sine16_104 trivial ⟨rfl, rfl⟩
  · refine g_tabIn (off := 104) (tgt := 105) dX7_sine16_1 (by decide) (by decide) (by decide) rfl (by decide) ?_
    refine g_sipush (v := 650) dX7_sine16_105 (by decide) ?_
    exact g_iret dX7_sine16_108 trivial ⟨rfl, rfl⟩
  · refine g_tabIn (off := 108) (tgt := 109) dX7_sine16_1 (by decide) (by decide) (by decide) rfl (by decide) ?_
    refine g_sipush (v := 724) dX7_sine16_109 (by decide) ?_
    exact g_iret dX7_sine16_112 trivial ⟨rfl, rfl⟩
  · refine g_tabIn (off := 112) (tgt := 113) dX7_sine16_1 (by decide) (by decide) (by decide) rfl (by decide) ?_
    refine g_sipush (v := 792) dX7_sine16_113 (by decide) ?_
    exact g_iret dX7_sine16_116 trivial ⟨rfl, rfl⟩
  · refine g_tabIn (off := 116) (tgt := 117) dX7_sine16_1 (by decide) (by decide) (by decide) rfl (by decide) ?_
    refine g_sipush (v := 851) dX7_sine16_117 (by decide) ?_
    exact g_iret dX7_sine16_120 trivial ⟨rfl, rfl⟩
  · refine g_tabIn (off := 120) (tgt := 121) dX7_sine16_1 (by decide) (by decide) (by decide) rfl (by decide) ?_
    refine g_sipush (v := 903) dX7_sine16_121 (by decide) ?_
    exact g_iret dX7_sine16_124 trivial ⟨rfl, rfl⟩
  · refine g_tabIn (off := 124) (tgt := 125) dX7_sine16_1 (by decide) (by decide) (by decide) rfl (by decide) ?_
    refine g_sipush (v := 946) dX7_sine16_125 (by decide) ?_
    exact g_iret dX7_sine16_128 trivial ⟨rfl, rfl⟩
  · refine g_tabIn (off := 128) (tgt := 129) dX7_sine16_1 (by decide) (by decide) (by decide) rfl (by decide) ?_
    refine g_sipush (v := 980) dX7_sine16_129 (by decide) ?_
    exact g_iret dX7_sine16_132 trivial ⟨rfl, rfl⟩
  · refine g_tabIn (off := 132) (tgt := 133) dX7_sine16_1 (by decide) (by decide) (by decide) rfl (by decide) ?_
    refine g_sipush (v := 1004) dX7_sine16_133 (by decide) ?_
    exact g_iret dX7_sine16_136 trivial ⟨rfl, rfl⟩
  · refine g_tabIn (off := 136) (tgt := 137) dX7_sine16_1 (by decide) (by decide) (by decide) rfl (by decide) ?_
    refine g_sipush (v := 1019) dX7_sine16_137 (by decide) ?_
    exact g_iret dX7_sine16_140 trivial ⟨rfl, rfl⟩
  · refine g_tabOut (tgt := 141) dX7_sine16_1 (by decide) (by decide) (by decide) ?_
    refine g_sipush (v := 1024) dX7_sine16_141 (by decide) ?_
    exact g_iret dX7_sine16_144 trivial ⟨rfl, rfl⟩

theorem c_sine {σ : Mem} (d : Int) (hd : i32 d) : RetV 41 mX7_sine [aR 30, aI d] σ (aI (sinV d)) := by
  refine Ret.of [some (aR 30), some (aI d), none, none, none] rfl (plainFor_of_name (by decide)) (Nat.le_of_ble_eq_true rfl) ?_
  have hm : d % 64 % 32 = d % 32 := by omega
  refine g_iload_n dX7_sine_0 rfl ?_
  refine g_bipush (v := 63) dX7_sine_1 (by decide) ?_
  refine g_iand63 dX7_sine_3 ?_
  refine g_istore_n (i := 2) dX7_sine_4 rfl (by decide) ?_
  refine g_iload_n dX7_sine_5 rfl ?_
  refine g_bipush (v := 31) dX7_sine_6 (by decide) ?_
  refine g_iand31 dX7_sine_8 ?_
  rw [hm]
  refine g_istore_n (i := 3) dX7_sine_9 rfl (by decide) ?_
  refine g_aload_n dX7_sine_10 rfl ?_
  refine g_iload_n dX7_sine_11 rfl ?_
  refine g_bipush (v := 16) dX7_sine_12 (by decide) ?_
  refine g_icmp_le (tgt := 24) dX7_sine_14 (by decide) (by omega) (by omega) (fun h14 => ?_) (fun h14 => ?_)
  · refine g_iload_n dX7_sine_24 rfl ?_
    refine g_pV1 dX7_sine_25 qX7_212 rfl (by decide) (by decide) (Nat.le_of_ble_eq_true rfl) (c_sine16 _ (by omega) (by omega)) ?_
    refine g_istore dX7_sine_28 (by decide) ?_
    refine g_iload_n dX7_sine_30 rfl ?_
    refine g_bipush (v := 32) dX7_sine_31 (by decide) ?_
    refine g_icmp_ge (tgt := 41) dX7_sine_33 (by decide) (by omega) (by omega) (fun h33 => ?_) (fun h33 => ?_)
    · refine g_iload dX7_sine_41 rfl ?_
      refine g_ineg dX7_sine_43 ?_
      exact g_iret dX7_sine_44 trivial ⟨by unfold sinV; congr 2; first | rw [if_pos (by omega), if_pos (by omega)] | rw [if_pos (by omega), if_neg (by omega)] | rw [if_neg (by omega), if_pos (by omega)] | rw [if_neg (by omega), if_neg (by omega)], rfl⟩
    · refine g_iload dX7_sine_36 rfl ?_
      refine g_goto (tgt := 44) dX7_sine_38 (by decide) ?_
      exact g_iret dX7_sine_44 trivial ⟨by unfold sinV; congr 2; first | rw [if_pos (by omega), if_pos (by omega)] | rw [if_pos (by omega), if_neg (by omega)] | rw [if_neg (by omega), if_pos (by omega)] | rw [if_neg (by omega), if_neg (by omega)], rfl⟩
  · refine g_bipush (v := 32) dX7_sine_17 (by decide) ?_
    refine g_iload_n dX7_sine_19 rfl ?_
    refine g_isub dX7_sine_20 ?_
    refine g_goto (tgt := 25) dX7_sine_21 (by decide) ?_
    refine g_pV1 dX7_sine_25 qX7_212 rfl (by decide) (by decide) (Nat.le_of_ble_eq_true rfl) (c_sine16 _ (by omega) (by omega)) ?_
    refine g_istore dX7_sine_28 (by decide) ?_
    refine g_iload_n dX7_sine_30 rfl ?_
    refine g_bipush (v := 32) dX7_sine_31 (by decide) ?_
    refine g_icmp_ge (tgt := 41) dX7_sine_33 (by decide) (by omega) (by omega) (fun h33 => ?_) (fun h33 => ?_)
    · refine g_iload dX7_sine_41 rfl ?_
      refine g_ineg dX7_sine_43 ?_
      exact g_iret dX7_sine_44 trivial ⟨by unfold sinV; congr 2; first | rw [if_pos (by omega), if_pos (by omega)] | rw [if_pos (by omega), if_neg (by omega)] | rw [if_neg (by omega), if_pos (by omega)] | rw [if_neg (by omega), if_neg (by omega)], rfl⟩
    · refine g_iload dX7_sine_36 rfl ?_
      refine g_goto (tgt := 44) dX7_sine_38 (by decide) ?_
      exact g_iret dX7_sine_44 trivial ⟨by unfold sinV; congr 2; first | rw [if_pos (by omega), if_pos (by omega)] | rw [if_pos (by omega), if_neg (by omega)] | rw [if_neg (by omega), if_pos (by omega)] | rw [if_neg (by omega), if_neg (by omega)], rfl⟩

theorem hub_q {b : Int} {V : Mem} (hi : Inv b V) : 0 ≤ 2 * V 18 3 * 64 / V 0 0 ∧ 2 * V 18 3 * 64 / V 0 0 ≤ 112 := by
  have hl := hi.lac
  rcases hi.N with h | h | h <;> rw [h] <;> omega
theorem hub_b {b : Int} {V : Mem} (hi : Inv b V) (s : Int) : -112 ≤ hubV V s ∧ hubV V s ≤ 112 := by
  have h := hub_q hi
  unfold hubV
  split <;> split <;> omega
theorem rimh {b : Int} {V : Mem} (hi : Inv b V) (s : Int) (s0 : 0 ≤ s) (s1 : s < V 0 0) : 0 ≤ s * 64 / V 0 0 ∧ s * 64 / V 0 0 < 64 := by
  rcases hi.N with h | h | h <;> rw [h] at s1 ⊢ <;> omega

theorem c_round {b : Int} {V σ : Mem} (hi : Inv b V) (h : RM V σ) (s : Int) (s0 : 0 ≤ s) (s1 : s < V 0 0) : RetV 41 mX7_round [aR 30, aI s] σ (aI (hubV V s)) := by
  refine Ret.of [some (aR 30), some (aI s), none] rfl (plainFor_of_name (by decide)) (Nat.le_of_ble_eq_true rfl) ?_
  have hN := hi.N2
  have hl := hi.lac
  have hk := hi.kind s s0 s1
  have hq := hub_q hi
  refine g_aload_n dX7_round_0 rfl ?_
  refine g_getR dX7_round_1 fX7_7 rfl rfl (by decide) ?_
  refine g_iload_n dX7_round_4 rfl ?_
  refine g_iaload dX7_round_5 rfl (by decide) (by omega) (by omega) (by decide) ?_
  rw [h.kind _ (by omega) (by omega)]
  refine g_iconst dX7_round_6 ?_
  refine g_icmp_ne (tgt := 14) dX7_round_7 (by decide) (by omega) (by omega) (fun h7 => ?_) (fun h7 => ?_)
  · refine g_iconst dX7_round_14 ?_
    refine g_aload_n dX7_round_15 rfl ?_
    refine g_getI (ji := 13) rfl dX7_round_16 fX7_45 rfl rfl (by decide) ?_
    rw [h.lac.2.2.2]
    refine g_imul dX7_round_19 ?_
    refine g_bipush (v := 64) dX7_round_20 (by decide) ?_
    refine g_imul dX7_round_22 ?_
    refine g_aload_n dX7_round_23 rfl ?_
    refine g_getI (ji := 0) rfl dX7_round_24 fX7_58 rfl rfl (by decide) ?_
    rw [h.N]
    refine g_idiv dX7_round_27 (by omega) (by omega) (by omega) ?_
    rw [Int.tdiv_eq_ediv_of_nonneg (by omega)]
    refine g_istore_n (i := 2) dX7_round_28 rfl (by decide) ?_
    refine g_iload_n dX7_round_29 rfl ?_
    refine g_iconst dX7_round_30 ?_
    refine g_idiv dX7_round_31 (by omega) (by omega) (by omega) ?_
    rw [Int.tdiv_eq_ediv_of_nonneg s0]
    refine g_iconst dX7_round_32 ?_
    refine g_irem dX7_round_33 (by omega) (by omega) (by omega) ?_
    rw [modN0 (by omega)]
    refine g_if_ne (tgt := 41) dX7_round_34 (by decide) (by omega) (fun h34 => ?_) (fun h34 => ?_)
    · refine g_iload_n dX7_round_41 rfl ?_
      refine g_ineg dX7_round_42 ?_
      exact g_iret dX7_round_43 trivial ⟨by unfold hubV; congr 2; first | rw [if_pos (by omega), if_pos (by omega)] | rw [if_pos (by omega), if_neg (by omega)] | rw [if_neg (by omega), if_pos (by omega)] | rw [if_neg (by omega), if_neg (by omega)], rfl⟩
    · refine g_iload_n dX7_round_37 rfl ?_
      refine g_goto (tgt := 43) dX7_round_38 (by decide) ?_
      exact g_iret dX7_round_43 trivial ⟨by unfold hubV; congr 2; first | rw [if_pos (by omega), if_pos (by omega)] | rw [if_pos (by omega), if_neg (by omega)] | rw [if_neg (by omega), if_pos (by omega)] | rw [if_neg (by omega), if_neg (by omega)], rfl⟩
  · refine g_iconst dX7_round_10 ?_
    refine g_goto (tgt := 28) dX7_round_11 (by decide) ?_
    refine g_istore_n (i := 2) dX7_round_28 rfl (by decide) ?_
    refine g_iload_n dX7_round_29 rfl ?_
    refine g_iconst dX7_round_30 ?_
    refine g_idiv dX7_round_31 (by omega) (by omega) (by omega) ?_
    rw [Int.tdiv_eq_ediv_of_nonneg s0]
    refine g_iconst dX7_round_32 ?_
    refine g_irem dX7_round_33 (by omega) (by omega) (by omega) ?_
    rw [modN0 (by omega)]
    refine g_if_ne (tgt := 41) dX7_round_34 (by decide) (by omega) (fun h34 => ?_) (fun h34 => ?_)
    · refine g_iload_n dX7_round_41 rfl ?_
      refine g_ineg dX7_round_42 ?_
      exact g_iret dX7_round_43 trivial ⟨by unfold hubV; congr 2; first | rw [if_pos (by omega), if_pos (by omega)] | rw [if_pos (by omega), if_neg (by omega)] | rw [if_neg (by omega), if_pos (by omega)] | rw [if_neg (by omega), if_neg (by omega)], rfl⟩
    · refine g_iload_n dX7_round_37 rfl ?_
      refine g_goto (tgt := 43) dX7_round_38 (by decide) ?_
      exact g_iret dX7_round_43 trivial ⟨by unfold hubV; congr 2; first | rw [if_pos (by omega), if_pos (by omega)] | rw [if_pos (by omega), if_neg (by omega)] | rw [if_neg (by omega), if_pos (by omega)] | rw [if_neg (by omega), if_neg (by omega)], rfl⟩

theorem k_hub {b : Int} {V σ : Mem} (hi : Inv b V) (h : RM V σ) (s : Int) (i_s : i32 s)  : Ret 41 mX7_hub [aR 30, aI s] σ (OM σ (p_hub V s)) := by
  refine Ret.of [some (aR 30), some (aI s)] rfl (plainFor_of_name (by decide)) (Nat.le_of_ble_eq_true rfl) ?_
  have hN := hi.N2
  refine g_aload_n dX7_hub_0 rfl ?_
  refine g_iload_n dX7_hub_1 rfl ?_
  refine g_pV1 dX7_hub_2 qX7_79 rfl (by decide) (by decide) (Nat.le_of_ble_eq_true rfl) (c_isHole hi h _ (by omega)) ?_
  refine g_ifb_eq (tgt := 29) dX7_hub_5 (by decide) (fun h5 => ?_) (fun h5 => ?_)
  · refine g_ldc dX7_hub_29 kX7_78 ?_
    exact g_iret dX7_hub_31 trivial (by first | exact (OM.of (q := (cBad, V)) (by unfold p_hub; rw [if_pos (by omega)]) rfl h keepM.rfl) | exact (OM.of (q := ((s * 64 / V 0 0 + hubV V s) % 64, V)) (by unfold p_hub; rw [if_neg (by omega)]) rfl h keepM.rfl))
  · refine g_iload_n dX7_hub_8 rfl ?_
    refine g_bipush (v := 64) dX7_hub_9 (by decide) ?_
    refine g_imul dX7_hub_11 ?_
    refine g_aload_n dX7_hub_12 rfl ?_
    refine g_getI (ji := 0) rfl dX7_hub_13 fX7_58 rfl rfl (by decide) ?_
    rw [h.N]
    refine g_idiv dX7_hub_16 (by omega) (by omega) (by omega) ?_
    rw [Int.tdiv_eq_ediv_of_nonneg (by omega)]
    refine g_aload_n dX7_hub_17 rfl ?_
    refine g_iload_n dX7_hub_18 rfl ?_
    refine g_pV1 dX7_hub_19 qX7_219 rfl (by decide) (by decide) (Nat.le_of_ble_eq_true rfl) (c_round hi h s (by omega) (by omega)) ?_
    refine g_iadd dX7_hub_22 ?_
    refine g_bipush (v := 63) dX7_hub_23 (by decide) ?_
    refine g_iand63 dX7_hub_25 ?_
    refine g_goto (tgt := 31) dX7_hub_26 (by decide) ?_
    exact g_iret dX7_hub_31 trivial (by first | exact (OM.of (q := (cBad, V)) (by unfold p_hub; rw [if_pos (by omega)]) rfl h keepM.rfl) | exact (OM.of (q := ((s * 64 / V 0 0 + hubV V s) % 64, V)) (by unfold p_hub; rw [if_neg (by omega)]) rfl h keepM.rfl))

theorem c_isCross {b : Int} {V σ : Mem} (hi : Inv b V) (h : RM V σ) (s : Int) (t : Int) (s0 : 0 ≤ s) (s1 : s < V 0 0) (t0 : 0 ≤ t) (t1 : t < V 0 0) : RetV 41 mX7_isCross [aR 30, aI s, aI t] σ (aI (b2i (crsB V s t = true))) := by
  refine Ret.of [some (aR 30), some (aI s), some (aI t), none, none] rfl (plainFor_of_name (by decide)) (Nat.le_of_ble_eq_true rfl) ?_
  have hN := hi.N2
  have l1 := leanK_32 (V 1 s)
  have l2 := leanK_32 (V 1 t)
  have r1 := rimh hi s s0 s1
  have r2 := rimh hi t t0 t1
  have u1 := hub_b hi s
  have u2 := hub_b hi t
  refine g_aload_n dX7_isCross_0 rfl ?_
  refine g_iload_n dX7_isCross_1 rfl ?_
  refine g_pV1 dX7_isCross_2 qX7_91 rfl (by decide) (by decide) (Nat.le_of_ble_eq_true rfl) (c_leans hi h s s0 s1) ?_
  refine g_if_eq (tgt := 21) dX7_isCross_5 (by decide) (by omega) (fun h5 => ?_) (fun h5 => ?_)
  · refine g_iconst dX7_isCross_21 ?_
    exact g_iret dX7_isCross_22 (by first | exact Or.inl rfl | exact Or.inr rfl | exact b2i_ok) (by first | exact aI_b2i1 (by unfold crsB; simp only [decide_eq_true_eq]; omega) rfl | exact aI_b2i0 (by unfold crsB; simp only [decide_eq_true_eq]; omega) rfl)
  · refine g_aload_n dX7_isCross_8 rfl ?_
    refine g_iload_n dX7_isCross_9 rfl ?_
    refine g_pV1 dX7_isCross_10 qX7_91 rfl (by decide) (by decide) (Nat.le_of_ble_eq_true rfl) (c_leans hi h s s0 s1) ?_
    refine g_aload_n dX7_isCross_13 rfl ?_
    refine g_iload_n dX7_isCross_14 rfl ?_
    refine g_pV1 dX7_isCross_15 qX7_91 rfl (by decide) (by decide) (Nat.le_of_ble_eq_true rfl) (c_leans hi h t t0 t1) ?_
    refine g_icmp_eq (tgt := 23) dX7_isCross_18 (by decide) (by omega) (by omega) (fun h18 => ?_) (fun h18 => ?_)
    · refine g_iload_n dX7_isCross_23 rfl ?_
      refine g_bipush (v := 64) dX7_isCross_24 (by decide) ?_
      refine g_imul dX7_isCross_26 ?_
      refine g_aload_n dX7_isCross_27 rfl ?_
      refine g_getI (ji := 0) rfl dX7_isCross_28 fX7_58 rfl rfl (by decide) ?_
      rw [h.N]
      refine g_idiv dX7_isCross_31 (by omega) (by omega) (by omega) ?_
      rw [Int.tdiv_eq_ediv_of_nonneg (by omega)]
      refine g_iload_n dX7_isCross_32 rfl ?_
      refine g_bipush (v := 64) dX7_isCross_33 (by decide) ?_
      refine g_imul dX7_isCross_35 ?_
      refine g_aload_n dX7_isCross_36 rfl ?_
      refine g_getI (ji := 0) rfl dX7_isCross_37 fX7_58 rfl rfl (by decide) ?_
      rw [h.N]
      refine g_idiv dX7_isCross_40 (by omega) (by omega) (by omega) ?_
      rw [Int.tdiv_eq_ediv_of_nonneg (by omega)]
      refine g_isub dX7_isCross_41 ?_
      refine g_bipush (v := 63) dX7_isCross_42 (by decide) ?_
      refine g_iand63 dX7_isCross_44 ?_
      refine g_istore_n (i := 3) dX7_isCross_45 rfl (by decide) ?_
      refine g_iload_n dX7_isCross_46 rfl ?_
      refine g_aload_n dX7_isCross_47 rfl ?_
      refine g_iload_n dX7_isCross_48 rfl ?_
      refine g_pV1 dX7_isCross_49 qX7_219 rfl (by decide) (by decide) (Nat.le_of_ble_eq_true rfl) (c_round hi h t t0 t1) ?_
      refine g_iadd dX7_isCross_52 ?_
      refine g_aload_n dX7_isCross_53 rfl ?_
      refine g_iload_n dX7_isCross_54 rfl ?_
      refine g_pV1 dX7_isCross_55 qX7_219 rfl (by decide) (by decide) (Nat.le_of_ble_eq_true rfl) (c_round hi h s s0 s1) ?_
      refine g_isub dX7_isCross_58 ?_
      refine g_istore dX7_isCross_59 (by decide) ?_
      refine g_iload dX7_isCross_61 rfl ?_
      refine g_if_lt (tgt := 73) dX7_isCross_63 (by decide) (by omega) (fun h63 => ?_) (fun h63 => ?_)
      · refine g_iconst dX7_isCross_73 ?_
        refine g_goto (tgt := 78) dX7_isCross_74 (by decide) ?_
        exact g_iret dX7_isCross_78 (by first | exact Or.inl rfl | exact Or.inr rfl | exact b2i_ok) (by first | exact aI_b2i1 (by unfold crsB; simp only [decide_eq_true_eq]; omega) rfl | exact aI_b2i0 (by unfold crsB; simp only [decide_eq_true_eq]; omega) rfl)
      · refine g_iload dX7_isCross_66 rfl ?_
        refine g_bipush (v := 64) dX7_isCross_68 (by decide) ?_
        refine g_icmp_le (tgt := 77) dX7_isCross_70 (by decide) (by omega) (by omega) (fun h70 => ?_) (fun h70 => ?_)
        · refine g_iconst dX7_isCross_77 ?_
          exact g_iret dX7_isCross_78 (by first | exact Or.inl rfl | exact Or.inr rfl | exact b2i_ok) (by first | exact aI_b2i1 (by unfold crsB; simp only [decide_eq_true_eq]; omega) rfl | exact aI_b2i0 (by unfold crsB; simp only [decide_eq_true_eq]; omega) rfl)
        · refine g_iconst dX7_isCross_73 ?_
          refine g_goto (tgt := 78) dX7_isCross_74 (by decide) ?_
          exact g_iret dX7_isCross_78 (by first | exact Or.inl rfl | exact Or.inr rfl | exact b2i_ok) (by first | exact aI_b2i1 (by unfold crsB; simp only [decide_eq_true_eq]; omega) rfl | exact aI_b2i0 (by unfold crsB; simp only [decide_eq_true_eq]; omega) rfl)
    · refine g_iconst dX7_isCross_21 ?_
      exact g_iret dX7_isCross_22 (by first | exact Or.inl rfl | exact Or.inr rfl | exact b2i_ok) (by first | exact aI_b2i1 (by unfold crsB; simp only [decide_eq_true_eq]; omega) rfl | exact aI_b2i0 (by unfold crsB; simp only [decide_eq_true_eq]; omega) rfl)

theorem k_crosses {b : Int} {V σ : Mem} (hi : Inv b V) (h : RM V σ) (s : Int) (t : Int) (i_s : i32 s) (i_t : i32 t)  : Ret 41 mX7_crosses [aR 30, aI s, aI t] σ (OM σ (p_crosses V s t)) := by
  refine Ret.of [some (aR 30), some (aI s), some (aI t)] rfl (plainFor_of_name (by decide)) (Nat.le_of_ble_eq_true rfl) ?_
  have hN := hi.N2
  refine g_aload_n dX7_crosses_0 rfl ?_
  refine g_iload_n dX7_crosses_1 rfl ?_
  refine g_pV1 dX7_crosses_2 qX7_79 rfl (by decide) (by decide) (Nat.le_of_ble_eq_true rfl) (c_isHole hi h _ (by omega)) ?_
  refine g_ifb_eq (tgt := 21) dX7_crosses_5 (by decide) (fun h5 => ?_) (fun h5 => ?_)
  · refine g_ldc dX7_crosses_21 kX7_78 ?_
    exact g_iret dX7_crosses_23 trivial (OM.of (q := (cBad, V)) (by unfold p_crosses; rw [if_pos (by omega)]) rfl h keepM.rfl)
  · refine g_aload_n dX7_crosses_8 rfl ?_
    refine g_iload_n dX7_crosses_9 rfl ?_
    refine g_pV1 dX7_crosses_10 qX7_79 rfl (by decide) (by decide) (Nat.le_of_ble_eq_true rfl) (c_isHole hi h _ (by omega)) ?_
    refine g_ifb_eq (tgt := 21) dX7_crosses_13 (by decide) (fun h13 => ?_) (fun h13 => ?_)
    · refine g_ldc dX7_crosses_21 kX7_78 ?_
      exact g_iret dX7_crosses_23 trivial (OM.of (q := (cBad, V)) (by unfold p_crosses; rw [if_pos (by omega)]) rfl h keepM.rfl)
    · refine g_iload_n dX7_crosses_16 rfl ?_
      refine g_iload_n dX7_crosses_17 rfl ?_
      refine g_icmp_ne (tgt := 24) dX7_crosses_18 (by decide) (by omega) (by omega) (fun h18 => ?_) (fun h18 => ?_)
      · refine g_aload_n dX7_crosses_24 rfl ?_
        refine g_iload_n dX7_crosses_25 rfl ?_
        refine g_iload_n dX7_crosses_26 rfl ?_
        refine g_pV2 dX7_crosses_27 qX7_227 rfl (by decide) (by decide) (Nat.le_of_ble_eq_true rfl) (c_isCross hi h s t (by omega) (by omega) (by omega) (by omega)) ?_
        refine g_ifb_eq (tgt := 37) dX7_crosses_30 (by decide) (fun h30 => ?_) (fun h30 => ?_)
        · refine g_iconst dX7_crosses_37 ?_
          exact g_iret dX7_crosses_38 trivial (by first | exact (OM.of (q := (1, V)) (by unfold p_crosses; rw [if_neg (by omega), b2i_1 h30]) rfl h keepM.rfl) | exact (OM.of (q := (0, V)) (by unfold p_crosses; rw [if_neg (by omega), b2i_0 h30]) rfl h keepM.rfl))
        · refine g_iconst dX7_crosses_33 ?_
          refine g_goto (tgt := 38) dX7_crosses_34 (by decide) ?_
          exact g_iret dX7_crosses_38 trivial (by first | exact (OM.of (q := (1, V)) (by unfold p_crosses; rw [if_neg (by omega), b2i_1 h30]) rfl h keepM.rfl) | exact (OM.of (q := (0, V)) (by unfold p_crosses; rw [if_neg (by omega), b2i_0 h30]) rfl h keepM.rfl))
      · refine g_ldc dX7_crosses_21 kX7_78 ?_
        exact g_iret dX7_crosses_23 trivial (OM.of (q := (cBad, V)) (by unfold p_crosses; rw [if_pos (by omega)]) rfl h keepM.rfl)

theorem k_crossings_lp {b : Int} {V σ : Mem} (hi : Inv b V) (h : RM V σ) (s : Int) (s0 : 0 ≤ s) (s1 : s < V 0 0) : ∀ (fu : Nat) (k a : Int), 0 ≤ k → k ≤ V 0 0 → V 0 0 - k < fu → a = cntN (fun t => decide (t ≠ s) && crsB V s t) k.toNat → Go 41 mX7_crossings 15 [some (aR 30), some (aI s), some (aI a), some (aI k)] [] σ (OM σ (p_crossings V s)) := by
  intro fu
  induction fu with
  | zero => intros; omega
  | succ fu ih =>
    intro k a k0 k1 kn ha
    have hN := hi.N2
    have hsu := cntN_succ (P := fun t => decide (t ≠ s) && crsB V s t) k0
    rw [← ha] at hsu
    refine g_iload_n dX7_crossings_15 rfl ?_
    refine g_aload_n dX7_crossings_16 rfl ?_
    refine g_getI (ji := 0) rfl dX7_crossings_17 fX7_58 rfl rfl (by decide) ?_
    rw [h.N]
    refine g_icmp_ge (tgt := 51) dX7_crossings_20 (by decide) (by omega) (by omega) (fun h20 => ?_) (fun h20 => ?_)
    · refine g_iload_n dX7_crossings_51 rfl ?_
      exact g_iret dX7_crossings_52 trivial (OM.of (q := (a, V)) (by unfold p_crossings; rw [if_neg (by omega), ha, show V 0 0 = k by omega]) rfl h keepM.rfl)
    · have hkN : k < V 0 0 := h20
      have e1 : 0 ≤ k + 1 := by omega
      have e2 : k + 1 ≤ V 0 0 := by omega
      have e3 : V 0 0 - (k + 1) < fu := by omega
      refine g_iload_n dX7_crossings_23 rfl ?_
      refine g_iload_n dX7_crossings_24 rfl ?_
      refine g_iload_n dX7_crossings_25 rfl ?_
      refine g_icmp_eq (tgt := 42) dX7_crossings_26 (by decide) (by omega) (by omega) (fun h26 => ?_) (fun h26 => ?_)
      · refine g_iconst dX7_crossings_42 ?_
        refine g_iadd dX7_crossings_43 ?_
        refine g_istore_n (i := 2) dX7_crossings_44 rfl (by decide) ?_
        refine g_iinc dX7_crossings_45 rfl (by decide) ?_
        refine g_goto (tgt := 15) dX7_crossings_48 (by decide) ?_
        exact ih (k + 1) _ e1 e2 e3 (by rw [hsu, if_neg (by simp [h26])])
      · refine g_aload_n dX7_crossings_29 rfl ?_
        refine g_iload_n dX7_crossings_30 rfl ?_
        refine g_iload_n dX7_crossings_31 rfl ?_
        refine g_pV2 dX7_crossings_32 qX7_227 rfl (by decide) (by decide) (Nat.le_of_ble_eq_true rfl) (c_isCross hi h s k s0 s1 k0 hkN) ?_
        refine g_ifb_eq (tgt := 42) dX7_crossings_35 (by decide) (fun h35 => ?_) (fun h35 => ?_)
        · refine g_iconst dX7_crossings_42 ?_
          refine g_iadd dX7_crossings_43 ?_
          refine g_istore_n (i := 2) dX7_crossings_44 rfl (by decide) ?_
          refine g_iinc dX7_crossings_45 rfl (by decide) ?_
          refine g_goto (tgt := 15) dX7_crossings_48 (by decide) ?_
          exact ih (k + 1) _ e1 e2 e3 (by rw [hsu, if_neg (by simp [h35])])
        · refine g_iconst dX7_crossings_38 ?_
          refine g_goto (tgt := 43) dX7_crossings_39 (by decide) ?_
          refine g_iadd dX7_crossings_43 ?_
          refine g_istore_n (i := 2) dX7_crossings_44 rfl (by decide) ?_
          refine g_iinc dX7_crossings_45 rfl (by decide) ?_
          refine g_goto (tgt := 15) dX7_crossings_48 (by decide) ?_
          exact ih (k + 1) _ e1 e2 e3 (by rw [hsu, if_pos (by simp [h26, h35])])

theorem k_crossings {b : Int} {V σ : Mem} (hi : Inv b V) (h : RM V σ) (s : Int) (i_s : i32 s)  : Ret 41 mX7_crossings [aR 30, aI s] σ (OM σ (p_crossings V s)) := by
  refine Ret.of [some (aR 30), some (aI s), none, none] rfl (plainFor_of_name (by decide)) (Nat.le_of_ble_eq_true rfl) ?_
  have hN := hi.N2
  refine g_aload_n dX7_crossings_0 rfl ?_
  refine g_iload_n dX7_crossings_1 rfl ?_
  refine g_pV1 dX7_crossings_2 qX7_79 rfl (by decide) (by decide) (Nat.le_of_ble_eq_true rfl) (c_isHole hi h _ (by omega)) ?_
  refine g_ifb_ne (tgt := 11) dX7_crossings_5 (by decide) (fun h5 => ?_) (fun h5 => ?_)
  · refine g_iconst dX7_crossings_11 ?_
    refine g_istore_n (i := 2) dX7_crossings_12 rfl (by decide) ?_
    refine g_iconst dX7_crossings_13 ?_
    refine g_istore_n (i := 3) dX7_crossings_14 rfl (by decide) ?_
    exact k_crossings_lp hi h s (by omega) (by omega) 33 0 0 (by omega) (by omega) (by omega) rfl
  · refine g_ldc dX7_crossings_8 kX7_78 ?_
    exact g_iret dX7_crossings_10 trivial (OM.of (q := (cBad, V)) (by unfold p_crossings; rw [if_pos (by omega)]) rfl h keepM.rfl)
