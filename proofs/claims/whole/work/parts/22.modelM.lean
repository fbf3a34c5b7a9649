theorem sinT_b (j : Int) (h0 : 0 ≤ j) (h1 : j ≤ 16) : 0 ≤ sinT j ∧ sinT j ≤ 1024 := by
  rcases (show j = 0 ∨ j = 1 ∨ j = 2 ∨ j = 3 ∨ j = 4 ∨ j = 5 ∨ j = 6 ∨ j = 7 ∨ j = 8 ∨ j = 9 ∨ j = 10 ∨ j = 11 ∨ j = 12 ∨ j = 13 ∨ j = 14 ∨ j = 15 ∨ j = 16 by omega) with rfl | rfl | rfl | rfl | rfl | rfl | rfl | rfl | rfl | rfl | rfl | rfl | rfl | rfl | rfl | rfl | rfl <;> decide
theorem sinV_b (d : Int) : -1024 ≤ sinV d ∧ sinV d ≤ 1024 := by
  unfold sinV
  have h := sinT_b (if 16 < d % 32 then 32 - d % 32 else d % 32) (by split <;> omega) (by split <;> omega)
  split <;> omega
theorem sq_b {b : Int} {V : Mem} (hi : Inv b V) (s : Int) : (0 ≤ V 18 2 * V 18 2 ∧ V 18 2 * V 18 2 ≤ 1000000) ∧ (0 ≤ V 18 0 * V 18 0 ∧ V 18 0 * V 18 0 ≤ 40000) ∧ (0 ≤ V 18 1 * V 18 1 ∧ V 18 1 * V 18 1 ≤ 40000) ∧ (0 ≤ 200 * V 18 2 ∧ 200 * V 18 2 ≤ 200000) ∧ (0 ≤ 200 * V 18 2 * V 18 0 ∧ 200 * V 18 2 * V 18 0 ≤ 40000000) ∧ (-40960000000 ≤ 200 * V 18 2 * V 18 0 * sinV (16 + hubV V s) ∧ 200 * V 18 2 * V 18 0 * sinV (16 + hubV V s) ≤ 40960000000) ∧ (0 ≤ sqV V s ∧ sqV V s ≤ 200000000) := by
  have hl := hi.lac
  have hs := sinV_b (16 + hubV V s)
  have a1 := mulb (a := V 18 2) (k := V 18 2) (A := 1000) (B := 1000) (by omega) (by omega) (by omega) (by omega) (by omega) (by omega)
  have a2 := mulb (a := V 18 0) (k := V 18 0) (A := 200) (B := 200) (by omega) (by omega) (by omega) (by omega) (by omega) (by omega)
  have a3 := mulb (a := V 18 1) (k := V 18 1) (A := 200) (B := 200) (by omega) (by omega) (by omega) (by omega) (by omega) (by omega)
  have a4 := mulb (a := 200 * V 18 2) (k := V 18 0) (A := 200000) (B := 200) (by omega) (by omega) (by omega) (by omega) (by omega) (by omega)
  have a5 := mulb (a := 200 * V 18 2 * V 18 0) (k := sinV (16 + hubV V s)) (A := 40000000) (B := 1024) (by omega) (by omega) (by omega) (by omega) (by omega) (by omega)
  have b1 : 0 ≤ V 18 2 * V 18 2 := Int.mul_nonneg (by omega) (by omega)
  have b2 : 0 ≤ V 18 0 * V 18 0 := Int.mul_nonneg (by omega) (by omega)
  have b3 : 0 ≤ V 18 1 * V 18 1 := Int.mul_nonneg (by omega) (by omega)
  have b4 : 0 ≤ 200 * V 18 2 * V 18 0 := Int.mul_nonneg (by omega) (by omega)
  unfold sqV
  generalize 200 * V 18 2 * V 18 0 * sinV (16 + hubV V s) = x at *
  generalize V 18 2 * V 18 2 = y1 at *
  generalize V 18 0 * V 18 0 = y2 at *
  generalize V 18 1 * V 18 1 = y3 at *
  generalize 200 * V 18 2 * V 18 0 = y4 at *
  omega
theorem sq_big {m : Int} (h : 20000 ≤ m) : 400000000 ≤ m * m := by
  have h1 : 0 ≤ (m - 20000) * (m + 20000) := Int.mul_nonneg (by omega) (by omega)
  have h2 : (m - 20000) * (m + 20000) = m * m - 400000000 := by
    rw [Int.sub_mul, Int.mul_add, Int.mul_comm m 20000, Int.mul_add]
    omega
  omega

theorem k_length_lp {V σ : Mem} (h : RM V σ) (s v x : Int) (hs : isH V s) (hv : v = sqV V s) (hvb : 0 ≤ v ∧ v ≤ 200000000) : ∀ (fu : Nat) (k : Int), 0 ≤ k → k ≤ 20000 → 20000 - k < fu → (∀ j, 0 ≤ j → j < k → decide (v < (j + 1) * (j + 1)) = false) → Go 41 mX7_length 103 [some (aR 30), some (aI s), some (aL x), none, some (aL v), none, some (aL k), none] [] σ (OM σ (p_length V s)) := by
  intro fu
  induction fu with
  | zero => intros; omega
  | succ fu ih =>
    intro k k0 k1 kn hf
    have hm := mulb (a := k + 1) (k := k + 1) (A := 20001) (B := 20001) (by omega) (by omega) (by omega) (by omega) (by omega) (by omega)
    have hk2 : k < 20000 := by
      rcases Int.lt_or_le k 20000 with q | q
      · exact q
      · have h1 := hf (k - 1) (by omega) (by omega)
        have h2 := sq_big (m := k - 1 + 1) (by omega)
        simp only [decide_eq_false_iff_not] at h1
        omega
    refine g_lload dX7_length_103 rfl ?_
    refine g_lconst (v := 1) dX7_length_105 (by decide) ?_
    refine g_ladd dX7_length_106 ?_
    refine g_lload dX7_length_107 rfl ?_
    refine g_lconst (v := 1) dX7_length_109 (by decide) ?_
    refine g_ladd dX7_length_110 ?_
    refine g_lmul dX7_length_111 ?_
    refine g_lload dX7_length_112 rfl ?_
    refine g_lcmp_gt (tgt := 127) dX7_length_114 dX7_length_115 (by decide) (by omega) (by omega) (fun h114 => ?_) (fun h114 => ?_)
    · refine g_lload dX7_length_127 rfl ?_
      refine g_l2i dX7_length_129 ?_
      exact g_iret dX7_length_130 trivial (OM.of (q := (k, V)) (by
            unfold p_length
            rw [if_neg (by omega), ← hv]
            have e : rootV v = k := firstI_eq (by decide) k0 (by omega) (by simpa using h114) hf
            rw [e]) rfl h keepM.rfl)
    · refine g_lload dX7_length_118 rfl ?_
      refine g_lconst (v := 1) dX7_length_120 (by decide) ?_
      refine g_ladd dX7_length_121 ?_
      refine g_lstore dX7_length_122 (by decide) ?_
      refine g_goto (tgt := 103) dX7_length_124 (by decide) ?_
      exact ih (k + 1) (by omega) (by omega) (by omega) (fun j j0 j1 => by
        by_cases hj : j = k
        · rw [hj]; simpa using h114
        · exact hf j j0 (by omega))

theorem k_length {b : Int} {V σ : Mem} (hi : Inv b V) (h : RM V σ) (s : Int) (i_s : i32 s)  : Ret 41 mX7_length [aR 30, aI s] σ (OM σ (p_length V s)) := by
  refine Ret.of [some (aR 30), some (aI s), none, none, none, none, none, none] rfl (plainFor_of_name (by decide)) (Nat.le_of_ble_eq_true rfl) ?_
  have hN := hi.N2
  have hl := hi.lac
  have hq := sq_b hi s
  have hu := hub_b hi s
  have hsn := sinV_b (16 + hubV V s)
  refine g_aload_n dX7_length_0 rfl ?_
  refine g_iload_n dX7_length_1 rfl ?_
  refine g_pV1 dX7_length_2 qX7_79 rfl (by decide) (by decide) (Nat.le_of_ble_eq_true rfl) (c_isHole hi h _ (by omega)) ?_
  refine g_ifb_ne (tgt := 11) dX7_length_5 (by decide) (fun h5 => ?_) (fun h5 => ?_)
  · refine g_ldc2 dX7_length_11 lX7_215 ?_
    refine g_aload_n dX7_length_14 rfl ?_
    refine g_getI (ji := 12) rfl dX7_length_15 fX7_42 rfl rfl (by decide) ?_
    rw [h.lac.2.2.1]
    refine g_i2l dX7_length_18 (by omega) ?_
    refine g_aload_n dX7_length_19 rfl ?_
    refine g_getI (ji := 12) rfl dX7_length_20 fX7_42 rfl rfl (by decide) ?_
    rw [h.lac.2.2.1]
    refine g_i2l dX7_length_23 (by omega) ?_
    refine g_lmul dX7_length_24 ?_
    refine g_aload_n dX7_length_25 rfl ?_
    refine g_getI (ji := 10) rfl dX7_length_26 fX7_35 rfl rfl (by decide) ?_
    rw [h.lac.1]
    refine g_i2l dX7_length_29 (by omega) ?_
    refine g_aload_n dX7_length_30 rfl ?_
    refine g_getI (ji := 10) rfl dX7_length_31 fX7_35 rfl rfl (by decide) ?_
    rw [h.lac.1]
    refine g_i2l dX7_length_34 (by omega) ?_
    refine g_lmul dX7_length_35 ?_
    refine g_ladd dX7_length_36 ?_
    refine g_aload_n dX7_length_37 rfl ?_
    refine g_getI (ji := 11) rfl dX7_length_38 fX7_39 rfl rfl (by decide) ?_
    rw [h.lac.2.1]
    refine g_i2l dX7_length_41 (by omega) ?_
    refine g_aload_n dX7_length_42 rfl ?_
    refine g_getI (ji := 11) rfl dX7_length_43 fX7_39 rfl rfl (by decide) ?_
    rw [h.lac.2.1]
    refine g_i2l dX7_length_46 (by omega) ?_
    refine g_lmul dX7_length_47 ?_
    refine g_ladd dX7_length_48 ?_
    refine g_lmul dX7_length_49 ?_
    refine g_ldc2 dX7_length_50 lX7_217 ?_
    refine g_aload_n dX7_length_53 rfl ?_
    refine g_getI (ji := 12) rfl dX7_length_54 fX7_42 rfl rfl (by decide) ?_
    rw [h.lac.2.2.1]
    refine g_i2l dX7_length_57 (by omega) ?_
    refine g_lmul dX7_length_58 ?_
    refine g_aload_n dX7_length_59 rfl ?_
    refine g_getI (ji := 10) rfl dX7_length_60 fX7_35 rfl rfl (by decide) ?_
    rw [h.lac.1]
    refine g_i2l dX7_length_63 (by omega) ?_
    refine g_lmul dX7_length_64 ?_
    refine g_aload_n dX7_length_65 rfl ?_
    refine g_bipush (v := 16) dX7_length_66 (by decide) ?_
    refine g_aload_n dX7_length_68 rfl ?_
    refine g_iload_n dX7_length_69 rfl ?_
    refine g_pV1 dX7_length_70 qX7_219 rfl (by decide) (by decide) (Nat.le_of_ble_eq_true rfl) (c_round hi h s (by omega) (by omega)) ?_
    refine g_iadd dX7_length_73 ?_
    refine g_pV1 dX7_length_74 qX7_222 rfl (by decide) (by decide) (Nat.le_of_ble_eq_true rfl) (c_sine _ (by omega)) ?_
    refine g_i2l dX7_length_77 (by omega) ?_
    refine g_lmul dX7_length_78 ?_
    refine g_ldc2 dX7_length_79 lX7_225 ?_
    refine g_pS2 dX7_length_82 sX7_110 (by decide) (Nat.le_of_ble_eq_true rfl) (c_cut _ _ (by omega) (by omega) (by omega)) ?_
    refine g_lsub dX7_length_85 ?_
    refine g_lstore_n (i := 2) dX7_length_86 rfl (by decide) ?_
    refine g_lload_n dX7_length_87 rfl ?_
    refine g_lconst (v := 0) dX7_length_88 (by decide) ?_
    refine g_lcmp_ge (tgt := 97) dX7_length_89 dX7_length_90 (by decide) (by omega) (by omega) (fun h89 => ?_) (fun h89 => ?_)
    · refine g_lload_n dX7_length_97 rfl ?_
      refine g_lstore dX7_length_98 (by decide) ?_
      refine g_lconst (v := 0) dX7_length_100 (by decide) ?_
      refine g_lstore dX7_length_101 (by decide) ?_
      exact k_length_lp h s _ _ (by omega) (by unfold sqV; omega) (by unfold sqV at hq; omega) 20002 0 (by omega) (by omega) (by omega) (fun j j0 j1 => by omega)
    · refine g_lconst (v := 0) dX7_length_93 (by decide) ?_
      refine g_goto (tgt := 98) dX7_length_94 (by decide) ?_
      refine g_lstore dX7_length_98 (by decide) ?_
      refine g_lconst (v := 0) dX7_length_100 (by decide) ?_
      refine g_lstore dX7_length_101 (by decide) ?_
      exact k_length_lp h s _ _ (by omega) (by unfold sqV; omega) (by unfold sqV at hq; omega) 20002 0 (by omega) (by omega) (by omega) (fun j j0 j1 => by omega)
  · refine g_ldc dX7_length_8 kX7_78 ?_
    exact g_iret dX7_length_10 trivial (OM.of (q := (cBad, V)) (by unfold p_length; rw [if_pos (by omega)]) rfl h keepM.rfl)

theorem k_count_l1 {b : Int} {V σ : Mem} (hi : Inv b V) (h : RM V σ) : ∀ (fu : Nat) (k a : Int), 0 ≤ k → k ≤ V 0 0 → V 0 0 - k < fu → a = cntN (fun j => decide (V 1 j ≠ 4)) k.toNat → Go 41 mX7_count 47 [some (aR 30), some (aI 1), some (aI a), some (aI k)] [] σ (OM σ (p_count V 1)) := by
  intro fu
  induction fu with
  | zero => intros; omega
  | succ fu ih =>
    intro k a k0 k1 kn ha
    have hN := hi.N2
    have hsu := cntN_succ (P := fun j => decide (V 1 j ≠ 4)) k0
    rw [← ha] at hsu
    refine g_iload_n dX7_count_47 rfl ?_
    refine g_aload_n dX7_count_48 rfl ?_
    refine g_getI (ji := 0) rfl dX7_count_49 fX7_58 rfl rfl (by decide) ?_
    rw [h.N]
    refine g_icmp_ge (tgt := 77) dX7_count_52 (by decide) (by omega) (by omega) (fun h52 => ?_) (fun h52 => ?_)
    · refine g_iload_n dX7_count_77 rfl ?_
      exact g_iret dX7_count_78 trivial (OM.of (q := (a, V)) (by unfold p_count; rw [if_neg (by omega), if_pos rfl]; rw [ha, show V 0 0 = k by omega]) rfl h keepM.rfl)
    · refine g_iload_n dX7_count_55 rfl ?_
      refine g_aload_n dX7_count_56 rfl ?_
      refine g_iload_n dX7_count_57 rfl ?_
      refine g_pV1 dX7_count_58 qX7_74 rfl (by decide) (by decide) (Nat.le_of_ble_eq_true rfl) (c_isGone hi h k k0 (by omega)) ?_
      refine g_ifb_eq (tgt := 68) dX7_count_61 (by decide) (fun h61 => ?_) (fun h61 => ?_)
      · refine g_iconst dX7_count_68 ?_
        refine g_iadd dX7_count_69 ?_
        refine g_istore_n (i := 2) dX7_count_70 rfl (by decide) ?_
        refine g_iinc dX7_count_71 rfl (by decide) ?_
        refine g_goto (tgt := 47) dX7_count_74 (by decide) ?_
        exact ih (k + 1) _ (by omega) (by omega) (by omega) (by rw [hsu, if_pos (by simp [h61])])
      · refine g_iconst dX7_count_64 ?_
        refine g_goto (tgt := 69) dX7_count_65 (by decide) ?_
        refine g_iadd dX7_count_69 ?_
        refine g_istore_n (i := 2) dX7_count_70 rfl (by decide) ?_
        refine g_iinc dX7_count_71 rfl (by decide) ?_
        refine g_goto (tgt := 47) dX7_count_74 (by decide) ?_
        exact ih (k + 1) _ (by omega) (by omega) (by omega) (by rw [hsu, if_neg (by simp [h61])])

theorem k_count_l3 {b : Int} {V σ : Mem} (hi : Inv b V) (h : RM V σ) : ∀ (fu : Nat) (k a : Int), 0 ≤ k → k ≤ V 17 0 → V 17 0 - k < fu → a = sumN (fun i => ab (V 16 i)) k.toNat → Go 41 mX7_count 86 [some (aR 30), some (aI 3), some (aI a), some (aI k)] [] σ (OM σ (p_count V 3)) := by
  intro fu
  induction fu with
  | zero => intros; omega
  | succ fu ih =>
    intro k a k0 k1 kn ha
    have hm := hi.many
    have hsu := sumN_succ (f := fun i => ab (V 16 i)) k0
    rw [← ha] at hsu
    refine g_iload_n dX7_count_86 rfl ?_
    refine g_aload_n dX7_count_87 rfl ?_
    refine g_getI (ji := 9) rfl dX7_count_88 fX7_61 rfl rfl (by decide) ?_
    rw [h.many]
    refine g_icmp_ge (tgt := 140) dX7_count_91 (by decide) (by omega) (by omega) (fun h91 => ?_) (fun h91 => ?_)
    · refine g_iload_n dX7_count_140 rfl ?_
      exact g_iret dX7_count_141 trivial (OM.of (q := (a, V)) (by unfold p_count; rw [if_neg (by omega), if_neg (by omega), if_neg (by omega), if_pos rfl]; rw [ha, show V 17 0 = k by omega]) rfl h keepM.rfl)
    · have hkN : k < V 17 0 := h91
      have hlb := hi.log k k0 hkN
      refine g_iload_n dX7_count_94 rfl ?_
      refine g_aload_n dX7_count_95 rfl ?_
      refine g_getR dX7_count_96 fX7_32 rfl rfl (by decide) ?_
      refine g_iconst dX7_count_99 ?_
      refine g_iload_n dX7_count_100 rfl ?_
      refine g_imul dX7_count_101 ?_
      refine g_iconst dX7_count_102 ?_
      refine g_iadd dX7_count_103 ?_
      refine g_iaload dX7_count_104 rfl (by decide) (by omega) (by omega) (by decide) ?_
      rw [(h.log k k0 hkN).2]
      refine g_if_ge (tgt := 122) dX7_count_105 (by decide) (by omega) (fun h105 => ?_) (fun h105 => ?_)
      · refine g_aload_n dX7_count_122 rfl ?_
        refine g_getR dX7_count_123 fX7_32 rfl rfl (by decide) ?_
        refine g_iconst dX7_count_126 ?_
        refine g_iload_n dX7_count_127 rfl ?_
        refine g_imul dX7_count_128 ?_
        refine g_iconst dX7_count_129 ?_
        refine g_iadd dX7_count_130 ?_
        refine g_iaload dX7_count_131 rfl (by decide) (by omega) (by omega) (by decide) ?_
        rw [(h.log k k0 hkN).2]
        refine g_iadd dX7_count_132 ?_
        refine g_istore_n (i := 2) dX7_count_133 rfl (by decide) ?_
        refine g_iinc dX7_count_134 rfl (by decide) ?_
        refine g_goto (tgt := 86) dX7_count_137 (by decide) ?_
        exact ih (k + 1) _ (by omega) (by omega) (by omega) (by rw [hsu]; unfold ab; first | rw [if_pos (by omega)] | rw [if_neg (by omega)])
      · refine g_aload_n dX7_count_108 rfl ?_
        refine g_getR dX7_count_109 fX7_32 rfl rfl (by decide) ?_
        refine g_iconst dX7_count_112 ?_
        refine g_iload_n dX7_count_113 rfl ?_
        refine g_imul dX7_count_114 ?_
        refine g_iconst dX7_count_115 ?_
        refine g_iadd dX7_count_116 ?_
        refine g_iaload dX7_count_117 rfl (by decide) (by omega) (by omega) (by decide) ?_
        rw [(h.log k k0 hkN).2]
        refine g_ineg dX7_count_118 ?_
        refine g_goto (tgt := 132) dX7_count_119 (by decide) ?_
        refine g_iadd dX7_count_132 ?_
        refine g_istore_n (i := 2) dX7_count_133 rfl (by decide) ?_
        refine g_iinc dX7_count_134 rfl (by decide) ?_
        refine g_goto (tgt := 86) dX7_count_137 (by decide) ?_
        exact ih (k + 1) _ (by omega) (by omega) (by omega) (by rw [hsu]; unfold ab; first | rw [if_pos (by omega)] | rw [if_neg (by omega)])

theorem k_count_l4 {b : Int} {V σ : Mem} (hi : Inv b V) (h : RM V σ) (r : Nat) (hr : r < 2) (hp : p_count V (4 + r) = (cntN (fun p => decide (V (5 + r) p ≠ -10000)) (V 0 0).toNat, V)) : ∀ (fu : Nat) (k a : Int), 0 ≤ k → k ≤ V 0 0 → V 0 0 - k < fu → a = cntN (fun p => decide (V (5 + r) p ≠ -10000)) k.toNat → Go 41 mX7_count 144 [some (aR 30), some (aI (4 + r)), some (aI a), some (aI k)] [] σ (OM σ (p_count V (4 + r))) := by
  intro fu
  induction fu with
  | zero => intros; omega
  | succ fu ih =>
    intro k a k0 k1 kn ha
    have hN := hi.N2
    have hsu := cntN_succ (P := fun p => decide (V (5 + r) p ≠ -10000)) k0
    rw [← ha] at hsu
    refine g_iload_n dX7_count_144 rfl ?_
    refine g_aload_n dX7_count_145 rfl ?_
    refine g_getI (ji := 0) rfl dX7_count_146 fX7_58 rfl rfl (by decide) ?_
    rw [h.N]
    refine g_icmp_ge (tgt := 185) dX7_count_149 (by decide) (by omega) (by omega) (fun h149 => ?_) (fun h149 => ?_)
    · refine g_iload_n dX7_count_185 rfl ?_
      exact g_iret dX7_count_186 trivial (OM.of (q := (a, V)) (by rw [hp, ha, show V 0 0 = k by omega]) rfl h keepM.rfl)
    · have hkN : k < V 0 0 := h149
      have hrb := hi.read r hr k k0 hkN
      have hrd := h.read r hr k k0 hkN
      refine g_iload_n dX7_count_152 rfl ?_
      refine g_aload_n dX7_count_153 rfl ?_
      refine g_getR dX7_count_154 fX7_20 rfl rfl (by decide) ?_
      refine g_bipush (v := 32) dX7_count_157 (by decide) ?_
      refine g_iload_n dX7_count_159 rfl ?_
      refine g_iconst dX7_count_160 ?_
      refine g_isub dX7_count_161 ?_
      refine g_imul dX7_count_162 ?_
      refine g_iload_n dX7_count_163 rfl ?_
      refine g_iadd dX7_count_164 ?_
      refine g_iaload dX7_count_165 rfl (by decide) (by omega) (by omega) (by decide) ?_
      rw [show 32 * (4 + (r : Int) - 4) + k = 32 * r + k by omega, hrd]
      refine g_sipush (v := -10000) dX7_count_166 (by decide) ?_
      refine g_icmp_eq (tgt := 176) dX7_count_169 (by decide) (by omega) (by omega) (fun h169 => ?_) (fun h169 => ?_)
      · refine g_iconst dX7_count_176 ?_
        refine g_iadd dX7_count_177 ?_
        refine g_istore_n (i := 2) dX7_count_178 rfl (by decide) ?_
        refine g_iinc dX7_count_179 rfl (by decide) ?_
        refine g_goto (tgt := 144) dX7_count_182 (by decide) ?_
        exact ih (k + 1) _ (by omega) (by omega) (by omega) (by rw [hsu, if_neg (by simp [h169])])
      · refine g_iconst dX7_count_172 ?_
        refine g_goto (tgt := 177) dX7_count_173 (by decide) ?_
        refine g_iadd dX7_count_177 ?_
        refine g_istore_n (i := 2) dX7_count_178 rfl (by decide) ?_
        refine g_iinc dX7_count_179 rfl (by decide) ?_
        refine g_goto (tgt := 144) dX7_count_182 (by decide) ?_
        exact ih (k + 1) _ (by omega) (by omega) (by omega) (by rw [hsu, if_pos (by simp [h169])])

theorem k_count {b : Int} {V σ : Mem} (hi : Inv b V) (h : RM V σ) (w : Int) (i_w : i32 w) : Ret 41 mX7_count [aR 30, aI w] σ (OM σ (p_count V w)) := by
  have hN := hi.N2
  have hm := hi.many
  refine Ret.of [some (aR 30), some (aI w), none, none] rfl (plainFor_of_name (by decide)) (Nat.le_of_ble_eq_true rfl) ?_
  refine g_iconst dX7_count_0 ?_
  refine g_istore_n (i := 2) dX7_count_1 rfl (by decide) ?_
  refine g_iload_n dX7_count_2 rfl ?_
  by_cases hw0 : w = 0
  · subst hw0
    refine g_tabIn (off := 37) (tgt := 40) dX7_count_3 (by omega) (by omega) (by omega) rfl (by decide) ?_
    refine g_aload_n dX7_count_40 rfl ?_
    refine g_getI (ji := 0) rfl dX7_count_41 fX7_58 rfl rfl (by decide) ?_
    rw [h.N]
    exact g_iret dX7_count_44 trivial (OM.of (q := (V 0 0, V)) (by unfold p_count; rw [if_pos rfl]) rfl h keepM.rfl)
  by_cases hw1 : w = 1
  · subst hw1
    refine g_tabIn (off := 42) (tgt := 45) dX7_count_3 (by omega) (by omega) (by omega) rfl (by decide) ?_
    refine g_iconst dX7_count_45 ?_
    refine g_istore_n (i := 3) dX7_count_46 rfl (by decide) ?_
    exact k_count_l1 hi h 33 0 0 (by omega) (by omega) (by omega) rfl
  by_cases hw2 : w = 2
  · subst hw2
    refine g_tabIn (off := 76) (tgt := 79) dX7_count_3 (by omega) (by omega) (by omega) rfl (by decide) ?_
    refine g_aload_n dX7_count_79 rfl ?_
    refine g_getI (ji := 9) rfl dX7_count_80 fX7_61 rfl rfl (by decide) ?_
    rw [h.many]
    exact g_iret dX7_count_83 trivial (OM.of (q := (V 17 0, V)) (by unfold p_count; rw [if_neg (by omega), if_neg (by omega), if_pos rfl]) rfl h keepM.rfl)
  by_cases hw3 : w = 3
  · subst hw3
    refine g_tabIn (off := 81) (tgt := 84) dX7_count_3 (by omega) (by omega) (by omega) rfl (by decide) ?_
    refine g_iconst dX7_count_84 ?_
    refine g_istore_n (i := 3) dX7_count_85 rfl (by decide) ?_
    exact k_count_l3 hi h 61 0 0 (by omega) (by omega) (by omega) rfl
  by_cases hw4 : w = 4
  · subst hw4
    refine g_tabIn (off := 139) (tgt := 142) dX7_count_3 (by omega) (by omega) (by omega) rfl (by decide) ?_
    refine g_iconst dX7_count_142 ?_
    refine g_istore_n (i := 3) dX7_count_143 rfl (by decide) ?_
    exact k_count_l4 hi h 0 (by decide) (by unfold p_count; rw [if_neg (by omega), if_neg (by omega), if_neg (by omega), if_neg (by omega), if_pos (by omega)]) 33 0 0 (by omega) (by omega) (by omega) rfl
  by_cases hw5 : w = 5
  · subst hw5
    refine g_tabIn (off := 139) (tgt := 142) dX7_count_3 (by omega) (by omega) (by omega) rfl (by decide) ?_
    refine g_iconst dX7_count_142 ?_
    refine g_istore_n (i := 3) dX7_count_143 rfl (by decide) ?_
    exact k_count_l4 hi h 1 (by decide) (by unfold p_count; rw [if_neg (by omega), if_neg (by omega), if_neg (by omega), if_neg (by omega), if_neg (by omega), if_pos (by omega)]) 33 0 0 (by omega) (by omega) (by omega) rfl
  refine g_tabOut (tgt := 187) dX7_count_3 (by omega) (by omega) (by decide) ?_
  refine g_ldc dX7_count_187 kX7_78 ?_
  exact g_iret dX7_count_189 trivial (OM.of (q := (cBad, V)) (by unfold p_count; rw [if_neg (by omega), if_neg (by omega), if_neg (by omega), if_neg (by omega), if_neg (by omega), if_neg (by omega)]) rfl h keepM.rfl)
