theorem x_rimHole {b : Int} {V σ : Mem} (hi : Inv b V) (h : RX V σ) (s : Int) (s0 : 0 ≤ s) (s1 : s < V 0 0) : RetV 41 mX1_rimHole [aR 29, aR 10, aI s] σ (aI (s * 64 / V 0 0)) := by
  refine Ret.of [some (aR 29), some (aR 10), some (aI s)] rfl (plainFor_of_name (by decide)) (Nat.le_of_ble_eq_true rfl) ?_
  have hN := hi.N2
  refine g_iload_n dX1_rimHole_0 rfl ?_
  refine g_bipush (v := 64) dX1_rimHole_1 (by decide) ?_
  refine g_imul dX1_rimHole_3 ?_
  refine g_aload_n dX1_rimHole_4 rfl ?_
  refine g_getI (ji := 6) rfl dX1_rimHole_5 fX1_24 rfl rfl (by decide) ?_
  rw [h.N]
  refine g_idiv dX1_rimHole_8 (by omega) (by omega) (by omega) ?_
  rw [Int.tdiv_eq_ediv_of_nonneg (by omega)]
  exact g_iret dX1_rimHole_9 trivial ⟨rfl, rfl⟩

theorem x_ahead {b : Int} {V σ : Mem} (hi : Inv b V) (h : RX V σ) (s : Int) (s0 : 0 ≤ s) (s1 : s < V 0 0) : RetV 41 mX1_ahead [aR 29, aR 10, aI s] σ (aI (hubV V s)) := by
  refine Ret.of [some (aR 29), some (aR 10), some (aI s), none] rfl (plainFor_of_name (by decide)) (Nat.le_of_ble_eq_true rfl) ?_
  have hN := hi.N2
  have hl := hi.lac
  have hk := hi.kind s s0 s1
  have hq := hub_q hi
  refine g_aload_n dX1_ahead_0 rfl ?_
  refine g_getR dX1_ahead_1 fX1_29 rfl rfl (by decide) ?_
  refine g_iload_n dX1_ahead_4 rfl ?_
  refine g_iaload dX1_ahead_5 rfl (by decide) (by omega) (by omega) (by decide) ?_
  rw [h.kind _ (by omega) (by omega)]
  refine g_iconst dX1_ahead_6 ?_
  refine g_icmp_ne (tgt := 12) dX1_ahead_7 (by decide) (by omega) (by omega) (fun h7 => ?_) (fun h7 => ?_)
  · refine g_iconst dX1_ahead_12 ?_
    refine g_aload_n dX1_ahead_13 rfl ?_
    refine g_getI (ji := 3) rfl dX1_ahead_14 fX1_21 rfl rfl (by decide) ?_
    rw [h.lac.2.2.2]
    refine g_imul dX1_ahead_17 ?_
    refine g_bipush (v := 64) dX1_ahead_18 (by decide) ?_
    refine g_imul dX1_ahead_20 ?_
    refine g_aload_n dX1_ahead_21 rfl ?_
    refine g_getI (ji := 6) rfl dX1_ahead_22 fX1_24 rfl rfl (by decide) ?_
    rw [h.N]
    refine g_idiv dX1_ahead_25 (by omega) (by omega) (by omega) ?_
    rw [Int.tdiv_eq_ediv_of_nonneg (by omega)]
    refine g_istore_n (i := 3) dX1_ahead_26 rfl (by decide) ?_
    refine g_iload_n dX1_ahead_27 rfl ?_
    refine g_iconst dX1_ahead_28 ?_
    refine g_idiv dX1_ahead_29 (by omega) (by omega) (by omega) ?_
    rw [Int.tdiv_eq_ediv_of_nonneg s0]
    refine g_iconst dX1_ahead_30 ?_
    refine g_irem dX1_ahead_31 (by omega) (by omega) (by omega) ?_
    rw [modN0 (by omega)]
    refine g_if_ne (tgt := 39) dX1_ahead_32 (by decide) (by omega) (fun h32 => ?_) (fun h32 => ?_)
    · refine g_iload_n dX1_ahead_39 rfl ?_
      refine g_ineg dX1_ahead_40 ?_
      exact g_iret dX1_ahead_41 trivial ⟨by unfold hubV; rw [if_neg h7]; first | rw [if_pos h32] | rw [if_neg h32], rfl⟩
    · refine g_iload_n dX1_ahead_35 rfl ?_
      refine g_goto (tgt := 41) dX1_ahead_36 (by decide) ?_
      exact g_iret dX1_ahead_41 trivial ⟨by unfold hubV; rw [if_neg h7]; first | rw [if_pos h32] | rw [if_neg h32], rfl⟩
  · refine g_iconst dX1_ahead_10 ?_
    exact g_iret dX1_ahead_11 trivial ⟨by unfold hubV; rw [if_pos h7]; split <;> rfl, rfl⟩

theorem sin_neg {d : Int} (h : 32 < d % 64) : -(sinT (if 16 < 64 - d % 64 then 32 - (64 - d % 64) else 64 - d % 64)) = sinV d := by
  have e : (if 16 < 64 - d % 64 then 32 - (64 - d % 64) else 64 - d % 64) = if 16 < d % 32 then 32 - d % 32 else d % 32 := by
    split <;> split <;> omega
  rw [e]
  unfold sinV
  rw [if_neg (show ¬ d % 64 < 32 by omega)]
theorem sin_pos {d : Int} (h : ¬ 32 < d % 64) : sinT (if 16 < d % 64 then 32 - d % 64 else d % 64) = sinV d := by
  unfold sinV
  by_cases h2 : d % 64 = 32
  · have h3 : d % 32 = 0 := by omega
    rw [h2, h3]; decide
  · have e : d % 64 = d % 32 := by omega
    rw [e, if_pos (show d % 32 < 32 by omega)]

theorem x_halfSine {V σ : Mem} (hi : Inv0 V) (h : XS V σ) (k : Int) (k0 : 0 ≤ k) (k1 : k ≤ 32) : RetV 41 mX1_halfSine [aI k] σ (aI (sinT (if 16 < k then 32 - k else k))) := by
  refine Ret.of [some (aI k)] rfl (plainFor_of_name (by decide)) (Nat.le_of_ble_eq_true rfl) ?_
  have hN := hi.N2
  have hr := h.ro
  refine g_getstatic dX1_halfSine_0 zX1_63 ?_
  refine g_iload_n dX1_halfSine_3 rfl ?_
  refine g_bipush (v := 16) dX1_halfSine_4 (by decide) ?_
  refine g_icmp_le (tgt := 16) dX1_halfSine_6 (by decide) (by omega) (by omega) (fun h6 => ?_) (fun h6 => ?_)
  · refine g_iload_n dX1_halfSine_16 rfl ?_
    refine g_roload dX1_halfSine_17 (by decide) (by decide) (by omega) (by rw [hr.2.2.2.2.2]; omega) ?_
    rw [hr.2.1 _ (by omega) (by omega)]
    exact g_iret dX1_halfSine_18 trivial ⟨by first | rw [if_pos (by omega)] | rw [if_neg (by omega)], rfl⟩
  · refine g_bipush (v := 32) dX1_halfSine_9 (by decide) ?_
    refine g_iload_n dX1_halfSine_11 rfl ?_
    refine g_isub dX1_halfSine_12 ?_
    refine g_goto (tgt := 17) dX1_halfSine_13 (by decide) ?_
    refine g_roload dX1_halfSine_17 (by decide) (by decide) (by omega) (by rw [hr.2.2.2.2.2]; omega) ?_
    rw [hr.2.1 _ (by omega) (by omega)]
    exact g_iret dX1_halfSine_18 trivial ⟨by first | rw [if_pos (by omega)] | rw [if_neg (by omega)], rfl⟩

theorem x_sine {V σ : Mem} (hi : Inv0 V) (h : XS V σ) (d : Int) (hd : i32 d) : RetV 41 mX1_sine [aI d] σ (aI (sinV d)) := by
  refine Ret.of [some (aI d), none] rfl (plainFor_of_name (by decide)) (Nat.le_of_ble_eq_true rfl) ?_
  refine g_iload_n dX1_sine_0 rfl ?_
  refine g_bipush (v := 64) dX1_sine_1 (by decide) ?_
  refine g_pS2 dX1_sine_3 sX1_56 (by decide) (Nat.le_of_ble_eq_true rfl) (c_fm (by omega) (by omega) (by omega)) ?_
  refine g_istore_n (i := 1) dX1_sine_6 rfl (by decide) ?_
  refine g_iload_n dX1_sine_7 rfl ?_
  refine g_bipush (v := 32) dX1_sine_8 (by decide) ?_
  refine g_icmp_le (tgt := 22) dX1_sine_10 (by decide) (by omega) (by omega) (fun h10 => ?_) (fun h10 => ?_)
  · refine g_iload_n dX1_sine_22 rfl ?_
    refine g_pS1 dX1_sine_23 sX1_60 (by decide) (Nat.le_of_ble_eq_true rfl) (x_halfSine hi h _ (by omega) (by omega)) ?_
    exact g_iret dX1_sine_26 trivial ⟨by rw [sin_pos (by omega)], rfl⟩
  · refine g_bipush (v := 64) dX1_sine_13 (by decide) ?_
    refine g_iload_n dX1_sine_15 rfl ?_
    refine g_isub dX1_sine_16 ?_
    refine g_pS1 dX1_sine_17 sX1_60 (by decide) (Nat.le_of_ble_eq_true rfl) (x_halfSine hi h _ (by omega) (by omega)) ?_
    refine g_ineg dX1_sine_20 ?_
    exact g_iret dX1_sine_21 trivial ⟨by rw [sin_neg (by omega)], rfl⟩

theorem x_root_lp {K : Nat} {σ : Mem} (v : Int) (hv : 0 ≤ v ∧ v ≤ 200000000) : ∀ (n : Nat) (r B : Int) (x6 : Option AV), n ≤ 14 → B = (2 : Int) ^ n / 2 → 0 ≤ r → r * r ≤ v → v < (r + 2 ^ n) * (r + 2 ^ n) → Go K mX1_wholeRoot 7 [some (aL v), none, some (aL r), none, some (aL B), none, x6, none] [] σ (fun o τ => o = some (aI (rootV v)) ∧ τ = σ) := by
  intro n
  induction n with
  | zero =>
    intro r B x6 hn hB r0 r1 r2
    have hB0 : B = 0 := by rw [hB]; decide
    subst hB0
    have rb : r < 20000 := by
      rcases Int.lt_or_le r 20000 with q | q
      · exact q
      · have := sq_big q; omega
    refine g_lload dX1_wholeRoot_7 rfl ?_
    refine g_lconst (v := 0) dX1_wholeRoot_9 (by decide) ?_
    refine g_lcmp_le (tgt := 44) dX1_wholeRoot_10 dX1_wholeRoot_11 (by decide) (by omega) (by omega) (fun h10 => ?_) (fun h10 => absurd h10 (by omega))
    refine g_lload_n dX1_wholeRoot_44 rfl ?_
    refine g_l2i dX1_wholeRoot_45 ?_
    exact g_iret dX1_wholeRoot_46 trivial ⟨by
          have e : rootV v = r := firstI_eq (by decide) r0 (by omega) (by simpa using r2) (fun j j0 j1 => by
            have : (j + 1) * (j + 1) ≤ r * r := Int.mul_le_mul (by omega) (by omega) (by omega) (by omega)
            simp only [decide_eq_false_iff_not]
            omega)
          rw [e], rfl⟩
  | succ m ih =>
    intro r B x6 hn hB r0 r1 r2
    have hp : (2 : Int) ^ (m + 1) = 2 * 2 ^ m := by rw [Int.pow_succ, Int.mul_comm]
    have hB1 : B = 2 ^ m := by rw [hB, hp]; omega
    have hb0 : (1 : Int) ≤ 2 ^ m := by
      have := Int.pow_pos (n := 2) (m := m) (by decide)
      omega
    have hb1 : (2 : Int) ^ m ≤ 8192 := by
      rcases (show m = 0 ∨ m = 1 ∨ m = 2 ∨ m = 3 ∨ m = 4 ∨ m = 5 ∨ m = 6 ∨ m = 7 ∨ m = 8 ∨ m = 9 ∨ m = 10 ∨ m = 11 ∨ m = 12 ∨ m = 13 by omega) with rfl | rfl | rfl | rfl | rfl | rfl | rfl | rfl | rfl | rfl | rfl | rfl | rfl | rfl <;> decide
    rw [hp] at r2
    have rb : r < 20000 := by
      rcases Int.lt_or_le r 20000 with q | q
      · exact q
      · have := sq_big q; omega
    have hm := mulb (a := r + B) (k := r + B) (A := 30000) (B := 30000) (by omega) (by omega) (by omega) (by omega) (by omega) (by omega)
    refine g_lload dX1_wholeRoot_7 rfl ?_
    refine g_lconst (v := 0) dX1_wholeRoot_9 (by decide) ?_
    refine g_lcmp_le (tgt := 44) dX1_wholeRoot_10 dX1_wholeRoot_11 (by decide) (by omega) (by omega) (fun h10 => absurd h10 (by omega)) (fun h10 => ?_)
    refine g_lload_n dX1_wholeRoot_14 rfl ?_
    refine g_lload dX1_wholeRoot_15 rfl ?_
    refine g_ladd dX1_wholeRoot_17 ?_
    refine g_lstore dX1_wholeRoot_18 (by decide) ?_
    refine g_lload dX1_wholeRoot_20 rfl ?_
    refine g_lload dX1_wholeRoot_22 rfl ?_
    refine g_lmul dX1_wholeRoot_24 ?_
    refine g_lload_n dX1_wholeRoot_25 rfl ?_
    refine g_lcmp_gt (tgt := 33) dX1_wholeRoot_26 dX1_wholeRoot_27 (by decide) (by omega) (by omega) (fun h26 => ?_) (fun h26 => ?_)
    · refine g_lload dX1_wholeRoot_33 rfl ?_
      refine g_ldc2 dX1_wholeRoot_35 lX1_68 ?_
      refine g_ldiv dX1_wholeRoot_38 (by omega) (by omega) (by omega) ?_
      rw [Int.tdiv_eq_ediv_of_nonneg (by omega)]
      refine g_lstore dX1_wholeRoot_39 (by decide) ?_
      refine g_goto (tgt := 7) dX1_wholeRoot_41 (by decide) ?_
      exact ih r (B / 2) _ (by omega) (by rw [hB1]) r0 r1 (by rw [← hB1]; omega)
    · refine g_lload dX1_wholeRoot_30 rfl ?_
      refine g_lstore_n (i := 2) dX1_wholeRoot_32 rfl (by decide) ?_
      refine g_lload dX1_wholeRoot_33 rfl ?_
      refine g_ldc2 dX1_wholeRoot_35 lX1_68 ?_
      refine g_ldiv dX1_wholeRoot_38 (by omega) (by omega) (by omega) ?_
      rw [Int.tdiv_eq_ediv_of_nonneg (by omega)]
      refine g_lstore dX1_wholeRoot_39 (by decide) ?_
      refine g_goto (tgt := 7) dX1_wholeRoot_41 (by decide) ?_
      exact ih (r + B) (B / 2) _ (by omega) (by rw [hB1]) (by omega) (by omega) (by rw [show r + B + 2 ^ m = r + 2 * 2 ^ m by rw [hB1]; omega]; exact r2)

theorem x_root {K : Nat} {σ : Mem} (v : Int) (hv : 0 ≤ v ∧ v ≤ 200000000) : RetV K mX1_wholeRoot [aL v] σ (aI (rootV v)) := by
  refine Ret.of [some (aL v), none, none, none, none, none, none, none] rfl (plainFor_of_name (by decide)) (Nat.le_of_ble_eq_true rfl) ?_
  refine g_lconst (v := 0) dX1_wholeRoot_0 (by decide) ?_
  refine g_lstore_n (i := 2) dX1_wholeRoot_1 rfl (by decide) ?_
  refine g_ldc2 dX1_wholeRoot_2 lX1_66 ?_
  refine g_lstore dX1_wholeRoot_5 (by decide) ?_
  exact x_root_lp v hv 14 0 8192 _ (by decide) (by decide) (by decide) (by omega) (by rw [show ((0 : Int) + 2 ^ 14) * (0 + 2 ^ 14) = 268435456 by decide]; omega)

theorem mx0 (x : Int) : (if (0 : Int) < x then x else 0) = max 0 x := by omega

theorem x_tenths {b : Int} {V σ : Mem} (hi : Inv b V) (h : RX V σ) (a : Int) (s : Int) (ha : a = hubV V s) : RetV 41 mX1_tenths [aR 29, aI a] σ (aI (rootV (sqV V s))) := by
  refine Ret.of [some (aR 29), some (aI a), none, none, none, none] rfl (plainFor_of_name (by decide)) (Nat.le_of_ble_eq_true rfl) ?_
  have hN := hi.N2
  have hl := hi.lac
  have hq := sq_b hi s
  have hu := hub_b hi s
  have hsn := sinV_b (16 + hubV V s)
  subst ha
  refine g_ldc2 dX1_tenths_0 lX1_33 ?_
  refine g_aload_n dX1_tenths_3 rfl ?_
  refine g_getI (ji := 2) rfl dX1_tenths_4 fX1_18 rfl rfl (by decide) ?_
  rw [h.lac.2.2.1]
  refine g_aload_n dX1_tenths_7 rfl ?_
  refine g_getI (ji := 2) rfl dX1_tenths_8 fX1_18 rfl rfl (by decide) ?_
  rw [h.lac.2.2.1]
  refine g_imul dX1_tenths_11 ?_
  refine g_aload_n dX1_tenths_12 rfl ?_
  refine g_getI (ji := 0) rfl dX1_tenths_13 fX1_9 rfl rfl (by decide) ?_
  rw [h.lac.1]
  refine g_aload_n dX1_tenths_16 rfl ?_
  refine g_getI (ji := 0) rfl dX1_tenths_17 fX1_9 rfl rfl (by decide) ?_
  rw [h.lac.1]
  refine g_imul dX1_tenths_20 ?_
  refine g_iadd dX1_tenths_21 ?_
  refine g_aload_n dX1_tenths_22 rfl ?_
  refine g_getI (ji := 1) rfl dX1_tenths_23 fX1_15 rfl rfl (by decide) ?_
  rw [h.lac.2.1]
  refine g_aload_n dX1_tenths_26 rfl ?_
  refine g_getI (ji := 1) rfl dX1_tenths_27 fX1_15 rfl rfl (by decide) ?_
  rw [h.lac.2.1]
  refine g_imul dX1_tenths_30 ?_
  refine g_iadd dX1_tenths_31 ?_
  refine g_i2l dX1_tenths_32 (by omega) ?_
  refine g_lmul dX1_tenths_33 ?_
  refine g_lstore_n (i := 2) dX1_tenths_34 rfl (by decide) ?_
  refine g_ldc2 dX1_tenths_35 lX1_35 ?_
  refine g_aload_n dX1_tenths_38 rfl ?_
  refine g_getI (ji := 2) rfl dX1_tenths_39 fX1_18 rfl rfl (by decide) ?_
  rw [h.lac.2.2.1]
  refine g_i2l dX1_tenths_42 (by omega) ?_
  refine g_lmul dX1_tenths_43 ?_
  refine g_aload_n dX1_tenths_44 rfl ?_
  refine g_getI (ji := 0) rfl dX1_tenths_45 fX1_9 rfl rfl (by decide) ?_
  rw [h.lac.1]
  refine g_i2l dX1_tenths_48 (by omega) ?_
  refine g_lmul dX1_tenths_49 ?_
  refine g_bipush (v := 16) dX1_tenths_50 (by decide) ?_
  refine g_iload_n dX1_tenths_52 rfl ?_
  refine g_iadd dX1_tenths_53 ?_
  refine g_pS1 dX1_tenths_54 sX1_37 (by decide) (Nat.le_of_ble_eq_true rfl) (x_sine hi.i0 h.r0 _ (by omega)) ?_
  refine g_i2l dX1_tenths_57 (by omega) ?_
  refine g_lmul dX1_tenths_58 ?_
  refine g_ldc2 dX1_tenths_59 lX1_41 ?_
  refine g_pS2 dX1_tenths_62 sX1_43 (by decide) (Nat.le_of_ble_eq_true rfl) (c_fdL (by omega) (by omega) (by omega)) ?_
  refine g_lstore dX1_tenths_65 (by decide) ?_
  refine g_lconst (v := 0) dX1_tenths_67 (by decide) ?_
  refine g_lload_n dX1_tenths_68 rfl ?_
  refine g_lload dX1_tenths_69 rfl ?_
  refine g_lsub dX1_tenths_71 ?_
  refine g_pS2 dX1_tenths_72 sX1_49 (by decide) (Nat.le_of_ble_eq_true rfl) (c_maxL (by omega) (by omega)) ?_
  rw [mx0]
  refine g_pS1 dX1_tenths_75 sX1_52 (by decide) (Nat.le_of_ble_eq_true rfl) (x_root (sqV V s) (by omega)) ?_
  exact g_iret dX1_tenths_78 trivial ⟨rfl, rfl⟩

theorem y_length {b : Int} {V σ : Mem} (hi : Inv b V) (h : RX V σ) (s : Int) (i_s : i32 s)  : Ret 41 mX6_length [aR 0, aI s] σ (OX σ (p_length V s)) := by
  refine Ret.of [some (aR 0), some (aI s)] rfl (plainFor_of_name (by decide)) (Nat.le_of_ble_eq_true rfl) ?_
  have hN := hi.N2
  refine g_aload_n dX6_length_0 rfl ?_
  refine g_getR dX6_length_1 fX6_19 rfl rfl (by decide) ?_
  refine g_iload_n dX6_length_4 rfl ?_
  refine g_pV1 dX6_length_5 qX6_68 rfl (by decide) (by decide) (Nat.le_of_ble_eq_true rfl) (x_hasHole hi.i0 h.r0 _ (by omega)) ?_
  refine g_ifb_ne (tgt := 14) dX6_length_8 (by decide) (fun h8 => ?_) (fun h8 => ?_)
  · refine g_aload_n dX6_length_14 rfl ?_
    refine g_getR dX6_length_15 fX6_55 rfl rfl (by decide) ?_
    refine g_aload_n dX6_length_18 rfl ?_
    refine g_getR dX6_length_19 fX6_55 rfl rfl (by decide) ?_
    refine g_aload_n dX6_length_22 rfl ?_
    refine g_getR dX6_length_23 fX6_19 rfl rfl (by decide) ?_
    refine g_iload_n dX6_length_26 rfl ?_
    refine g_pV2 dX6_length_27 qX6_229 rfl (by decide) (by decide) (Nat.le_of_ble_eq_true rfl) (x_ahead hi h _ (by omega) (by omega)) ?_
    refine g_pV1 dX6_length_30 qX6_233 rfl (by decide) (by decide) (Nat.le_of_ble_eq_true rfl) (x_tenths hi h _ s rfl) ?_
    exact g_iret dX6_length_33 trivial (OX.of (q := (rootV (sqV V s), V)) (by unfold p_length; rw [if_neg (by omega)]) rfl h keepX.rfl)
  · refine g_ldc dX6_length_11 kX6_63 ?_
    exact g_iret dX6_length_13 trivial (OX.of (q := (cBad, V)) (by unfold p_length; rw [if_pos (by omega)]) rfl h keepX.rfl)

theorem y_hub {b : Int} {V σ : Mem} (hi : Inv b V) (h : RX V σ) (s : Int) (i_s : i32 s)  : Ret 41 mX6_hub [aR 0, aI s] σ (OX σ (p_hub V s)) := by
  refine Ret.of [some (aR 0), some (aI s)] rfl (plainFor_of_name (by decide)) (Nat.le_of_ble_eq_true rfl) ?_
  have hN := hi.N2
  refine g_aload_n dX6_hub_0 rfl ?_
  refine g_getR dX6_hub_1 fX6_19 rfl rfl (by decide) ?_
  refine g_iload_n dX6_hub_4 rfl ?_
  refine g_pV1 dX6_hub_5 qX6_68 rfl (by decide) (by decide) (Nat.le_of_ble_eq_true rfl) (x_hasHole hi.i0 h.r0 _ (by omega)) ?_
  refine g_ifb_ne (tgt := 14) dX6_hub_8 (by decide) (fun h8 => ?_) (fun h8 => ?_)
  · have r1 := rimh hi s (by omega) (by omega)
    have u1 := hub_b hi s
    refine g_aload_n dX6_hub_14 rfl ?_
    refine g_getR dX6_hub_15 fX6_55 rfl rfl (by decide) ?_
    refine g_aload_n dX6_hub_18 rfl ?_
    refine g_getR dX6_hub_19 fX6_19 rfl rfl (by decide) ?_
    refine g_iload_n dX6_hub_22 rfl ?_
    refine g_pV2 dX6_hub_23 qX6_236 rfl (by decide) (by decide) (Nat.le_of_ble_eq_true rfl) (x_rimHole hi h _ (by omega) (by omega)) ?_
    refine g_aload_n dX6_hub_26 rfl ?_
    refine g_getR dX6_hub_27 fX6_55 rfl rfl (by decide) ?_
    refine g_aload_n dX6_hub_30 rfl ?_
    refine g_getR dX6_hub_31 fX6_19 rfl rfl (by decide) ?_
    refine g_iload_n dX6_hub_34 rfl ?_
    refine g_pV2 dX6_hub_35 qX6_229 rfl (by decide) (by decide) (Nat.le_of_ble_eq_true rfl) (x_ahead hi h _ (by omega) (by omega)) ?_
    refine g_iadd dX6_hub_38 ?_
    refine g_bipush (v := 64) dX6_hub_39 (by decide) ?_
    refine g_pS2 dX6_hub_41 sX6_239 (by decide) (Nat.le_of_ble_eq_true rfl) (c_fm (by omega) (by omega) (by omega)) ?_
    exact g_iret dX6_hub_44 trivial (OX.of (q := ((s * 64 / V 0 0 + hubV V s) % 64, V)) (by unfold p_hub; rw [if_neg (by omega)]) rfl h keepX.rfl)
  · refine g_ldc dX6_hub_11 kX6_63 ?_
    exact g_iret dX6_hub_13 trivial (OX.of (q := (cBad, V)) (by unfold p_hub; rw [if_pos (by omega)]) rfl h keepX.rfl)

theorem x_doCross {b : Int} {V σ : Mem} (hi : Inv b V) (h : RX V σ) (s : Int) (t : Int) (s0 : 0 ≤ s) (s1 : s < V 0 0) (t0 : 0 ≤ t) (t1 : t < V 0 0) : RetV 41 mX1_doCross [aR 29, aR 10, aI s, aI t] σ (aI (b2i (crsB V s t = true))) := by
  refine Ret.of [some (aR 29), some (aR 10), some (aI s), some (aI t), none, none, none] rfl (plainFor_of_name (by decide)) (Nat.le_of_ble_eq_true rfl) ?_
  have hN := hi.N2
  have l1 := leanK_32 (V 1 s)
  have l2 := leanK_32 (V 1 t)
  have r1 := rimh hi s s0 s1
  have r2 := rimh hi t t0 t1
  have u1 := hub_b hi s
  have u2 := hub_b hi t
  refine g_aload_n dX1_doCross_0 rfl ?_
  refine g_iload_n dX1_doCross_1 rfl ?_
  refine g_pV1 dX1_doCross_2 qX1_70 rfl (by decide) (by decide) (Nat.le_of_ble_eq_true rfl) (x_leanOf hi.i0 h.r0 _ (by omega) (by omega)) ?_
  refine g_istore dX1_doCross_5 (by decide) ?_
  refine g_iload dX1_doCross_7 rfl ?_
  refine g_if_eq (tgt := 22) dX1_doCross_9 (by decide) (by omega) (fun h9 => ?_) (fun h9 => ?_)
  · refine g_iconst dX1_doCross_22 ?_
    exact g_iret dX1_doCross_23 (by first | exact Or.inl rfl | exact Or.inr rfl | exact b2i_ok) (by first | exact aI_b2i1 (by unfold crsB; simp only [decide_eq_true_eq]; omega) rfl | exact aI_b2i0 (by unfold crsB; simp only [decide_eq_true_eq]; omega) rfl)
  · refine g_iload dX1_doCross_12 rfl ?_
    refine g_aload_n dX1_doCross_14 rfl ?_
    refine g_iload_n dX1_doCross_15 rfl ?_
    refine g_pV1 dX1_doCross_16 qX1_70 rfl (by decide) (by decide) (Nat.le_of_ble_eq_true rfl) (x_leanOf hi.i0 h.r0 _ (by omega) (by omega)) ?_
    refine g_icmp_eq (tgt := 24) dX1_doCross_19 (by decide) (by omega) (by omega) (fun h19 => ?_) (fun h19 => ?_)
    · refine g_aload_n dX1_doCross_24 rfl ?_
      refine g_aload_n dX1_doCross_25 rfl ?_
      refine g_iload_n dX1_doCross_26 rfl ?_
      refine g_pV2 dX1_doCross_27 qX1_73 rfl (by decide) (by decide) (Nat.le_of_ble_eq_true rfl) (x_rimHole hi h _ (by omega) (by omega)) ?_
      refine g_aload_n dX1_doCross_30 rfl ?_
      refine g_aload_n dX1_doCross_31 rfl ?_
      refine g_iload_n dX1_doCross_32 rfl ?_
      refine g_pV2 dX1_doCross_33 qX1_73 rfl (by decide) (by decide) (Nat.le_of_ble_eq_true rfl) (x_rimHole hi h _ (by omega) (by omega)) ?_
      refine g_isub dX1_doCross_36 ?_
      refine g_bipush (v := 64) dX1_doCross_37 (by decide) ?_
      refine g_pS2 dX1_doCross_39 sX1_56 (by decide) (Nat.le_of_ble_eq_true rfl) (c_fm (by omega) (by omega) (by omega)) ?_
      refine g_istore dX1_doCross_42 (by decide) ?_
      refine g_iload dX1_doCross_44 rfl ?_
      refine g_aload_n dX1_doCross_46 rfl ?_
      refine g_aload_n dX1_doCross_47 rfl ?_
      refine g_iload_n dX1_doCross_48 rfl ?_
      refine g_pV2 dX1_doCross_49 qX1_77 rfl (by decide) (by decide) (Nat.le_of_ble_eq_true rfl) (x_ahead hi h _ (by omega) (by omega)) ?_
      refine g_iadd dX1_doCross_52 ?_
      refine g_aload_n dX1_doCross_53 rfl ?_
      refine g_aload_n dX1_doCross_54 rfl ?_
      refine g_iload_n dX1_doCross_55 rfl ?_
      refine g_pV2 dX1_doCross_56 qX1_77 rfl (by decide) (by decide) (Nat.le_of_ble_eq_true rfl) (x_ahead hi h _ (by omega) (by omega)) ?_
      refine g_isub dX1_doCross_59 ?_
      refine g_istore dX1_doCross_60 (by decide) ?_
      refine g_iload dX1_doCross_62 rfl ?_
      refine g_if_lt (tgt := 74) dX1_doCross_64 (by decide) (by omega) (fun h64 => ?_) (fun h64 => ?_)
      · refine g_iconst dX1_doCross_74 ?_
        refine g_goto (tgt := 79) dX1_doCross_75 (by decide) ?_
        exact g_iret dX1_doCross_79 (by first | exact Or.inl rfl | exact Or.inr rfl | exact b2i_ok) (by first | exact aI_b2i1 (by unfold crsB; simp only [decide_eq_true_eq]; omega) rfl | exact aI_b2i0 (by unfold crsB; simp only [decide_eq_true_eq]; omega) rfl)
      · refine g_iload dX1_doCross_67 rfl ?_
        refine g_bipush (v := 64) dX1_doCross_69 (by decide) ?_
        refine g_icmp_le (tgt := 78) dX1_doCross_71 (by decide) (by omega) (by omega) (fun h71 => ?_) (fun h71 => ?_)
        · refine g_iconst dX1_doCross_78 ?_
          exact g_iret dX1_doCross_79 (by first | exact Or.inl rfl | exact Or.inr rfl | exact b2i_ok) (by first | exact aI_b2i1 (by unfold crsB; simp only [decide_eq_true_eq]; omega) rfl | exact aI_b2i0 (by unfold crsB; simp only [decide_eq_true_eq]; omega) rfl)
        · refine g_iconst dX1_doCross_74 ?_
          refine g_goto (tgt := 79) dX1_doCross_75 (by decide) ?_
          exact g_iret dX1_doCross_79 (by first | exact Or.inl rfl | exact Or.inr rfl | exact b2i_ok) (by first | exact aI_b2i1 (by unfold crsB; simp only [decide_eq_true_eq]; omega) rfl | exact aI_b2i0 (by unfold crsB; simp only [decide_eq_true_eq]; omega) rfl)
    · refine g_iconst dX1_doCross_22 ?_
      exact g_iret dX1_doCross_23 (by first | exact Or.inl rfl | exact Or.inr rfl | exact b2i_ok) (by first | exact aI_b2i1 (by unfold crsB; simp only [decide_eq_true_eq]; omega) rfl | exact aI_b2i0 (by unfold crsB; simp only [decide_eq_true_eq]; omega) rfl)

theorem y_crosses {b : Int} {V σ : Mem} (hi : Inv b V) (h : RX V σ) (s : Int) (t : Int) (i_s : i32 s) (i_t : i32 t)  : Ret 41 mX6_crosses [aR 0, aI s, aI t] σ (OX σ (p_crosses V s t)) := by
  refine Ret.of [some (aR 0), some (aI s), some (aI t)] rfl (plainFor_of_name (by decide)) (Nat.le_of_ble_eq_true rfl) ?_
  have hN := hi.N2
  refine g_aload_n dX6_crosses_0 rfl ?_
  refine g_getR dX6_crosses_1 fX6_19 rfl rfl (by decide) ?_
  refine g_iload_n dX6_crosses_4 rfl ?_
  refine g_pV1 dX6_crosses_5 qX6_68 rfl (by decide) (by decide) (Nat.le_of_ble_eq_true rfl) (x_hasHole hi.i0 h.r0 _ (by omega)) ?_
  refine g_ifb_eq (tgt := 27) dX6_crosses_8 (by decide) (fun h8 => ?_) (fun h8 => ?_)
  · refine g_ldc dX6_crosses_27 kX6_63 ?_
    exact g_iret dX6_crosses_29 trivial (OX.of (q := (cBad, V)) (by unfold p_crosses; rw [if_pos (by omega)]) rfl h keepX.rfl)
  · refine g_aload_n dX6_crosses_11 rfl ?_
    refine g_getR dX6_crosses_12 fX6_19 rfl rfl (by decide) ?_
    refine g_iload_n dX6_crosses_15 rfl ?_
    refine g_pV1 dX6_crosses_16 qX6_68 rfl (by decide) (by decide) (Nat.le_of_ble_eq_true rfl) (x_hasHole hi.i0 h.r0 _ (by omega)) ?_
    refine g_ifb_eq (tgt := 27) dX6_crosses_19 (by decide) (fun h19 => ?_) (fun h19 => ?_)
    · refine g_ldc dX6_crosses_27 kX6_63 ?_
      exact g_iret dX6_crosses_29 trivial (OX.of (q := (cBad, V)) (by unfold p_crosses; rw [if_pos (by omega)]) rfl h keepX.rfl)
    · refine g_iload_n dX6_crosses_22 rfl ?_
      refine g_iload_n dX6_crosses_23 rfl ?_
      refine g_icmp_ne (tgt := 30) dX6_crosses_24 (by decide) (by omega) (by omega) (fun h24 => ?_) (fun h24 => ?_)
      · refine g_aload_n dX6_crosses_30 rfl ?_
        refine g_getR dX6_crosses_31 fX6_55 rfl rfl (by decide) ?_
        refine g_aload_n dX6_crosses_34 rfl ?_
        refine g_getR dX6_crosses_35 fX6_19 rfl rfl (by decide) ?_
        refine g_iload_n dX6_crosses_38 rfl ?_
        refine g_iload_n dX6_crosses_39 rfl ?_
        refine g_pV3 dX6_crosses_40 qX6_242 rfl (by decide) (by decide) (Nat.le_of_ble_eq_true rfl) (x_doCross hi h s t (by omega) (by omega) (by omega) (by omega)) ?_
        refine g_pS1 dX6_crosses_43 sX6_138 (by decide) (Nat.le_of_ble_eq_true rfl) x_asNumber ?_
        exact g_iret dX6_crosses_46 trivial (OX.of (q := (b2i (crsB V s t = true), V)) (by unfold p_crosses; rw [if_neg (by omega)]) rfl h keepX.rfl)
      · refine g_ldc dX6_crosses_27 kX6_63 ?_
        exact g_iret dX6_crosses_29 trivial (OX.of (q := (cBad, V)) (by unfold p_crosses; rw [if_pos (by omega)]) rfl h keepX.rfl)

theorem y_crossings_lp {b : Int} {V σ : Mem} (hi : Inv b V) (h : RX V σ) (s : Int) (s0 : 0 ≤ s) (s1 : s < V 0 0) : ∀ (fu : Nat) (k a : Int), 0 ≤ k → k ≤ V 0 0 → V 0 0 - k < fu → a = cntN (fun t => decide (t ≠ s) && crsB V s t) k.toNat → Go 41 mX6_crossings 18 [some (aR 0), some (aI s), some (aI a), some (aI k)] [] σ (OX σ (p_crossings V s)) := by
  intro fu
  induction fu with
  | zero => intros; omega
  | succ fu ih =>
    intro k a k0 k1 kn ha
    have hN := hi.N2
    have hsu := cntN_succ (P := fun t => decide (t ≠ s) && crsB V s t) k0
    rw [← ha] at hsu
    refine g_iload_n dX6_crossings_18 rfl ?_
    refine g_aload_n dX6_crossings_19 rfl ?_
    refine g_getR dX6_crossings_20 fX6_19 rfl rfl (by decide) ?_
    refine g_getI (ji := 6) rfl dX6_crossings_23 fX6_203 rfl rfl (by decide) ?_
    rw [h.N]
    refine g_icmp_ge (tgt := 59) dX6_crossings_26 (by decide) (by omega) (by omega) (fun h26 => ?_) (fun h26 => ?_)
    · refine g_iload_n dX6_crossings_59 rfl ?_
      exact g_iret dX6_crossings_60 trivial (OX.of (q := (a, V)) (by unfold p_crossings; rw [if_neg (by omega), ha, show V 0 0 = k by omega]) rfl h keepX.rfl)
    · have hkN : k < V 0 0 := h26
      have e1 : 0 ≤ k + 1 := by omega
      have e2 : k + 1 ≤ V 0 0 := by omega
      have e3 : V 0 0 - (k + 1) < fu := by omega
      refine g_iload_n dX6_crossings_29 rfl ?_
      refine g_iload_n dX6_crossings_30 rfl ?_
      refine g_icmp_eq (tgt := 53) dX6_crossings_31 (by decide) (by omega) (by omega) (fun h31 => ?_) (fun h31 => ?_)
      · refine g_iinc dX6_crossings_53 rfl (by decide) ?_
        refine g_goto (tgt := 18) dX6_crossings_56 (by decide) ?_
        exact ih (k + 1) _ e1 e2 e3 (by rw [hsu, if_neg (by simp [h31]), Int.add_zero])
      · refine g_aload_n dX6_crossings_34 rfl ?_
        refine g_getR dX6_crossings_35 fX6_55 rfl rfl (by decide) ?_
        refine g_aload_n dX6_crossings_38 rfl ?_
        refine g_getR dX6_crossings_39 fX6_19 rfl rfl (by decide) ?_
        refine g_iload_n dX6_crossings_42 rfl ?_
        refine g_iload_n dX6_crossings_43 rfl ?_
        refine g_pV3 dX6_crossings_44 qX6_242 rfl (by decide) (by decide) (Nat.le_of_ble_eq_true rfl) (x_doCross hi h s k s0 s1 k0 hkN) ?_
        refine g_ifb_eq (tgt := 53) dX6_crossings_47 (by decide) (fun h47 => ?_) (fun h47 => ?_)
        · refine g_iinc dX6_crossings_53 rfl (by decide) ?_
          refine g_goto (tgt := 18) dX6_crossings_56 (by decide) ?_
          exact ih (k + 1) _ e1 e2 e3 (by rw [hsu, if_neg (by simp [h47]), Int.add_zero])
        · refine g_iinc dX6_crossings_50 rfl (by decide) ?_
          refine g_iinc dX6_crossings_53 rfl (by decide) ?_
          refine g_goto (tgt := 18) dX6_crossings_56 (by decide) ?_
          exact ih (k + 1) _ e1 e2 e3 (by rw [hsu, if_pos (by simp [h31, h47])])

theorem y_crossings {b : Int} {V σ : Mem} (hi : Inv b V) (h : RX V σ) (s : Int) (i_s : i32 s)  : Ret 41 mX6_crossings [aR 0, aI s] σ (OX σ (p_crossings V s)) := by
  refine Ret.of [some (aR 0), some (aI s), none, none] rfl (plainFor_of_name (by decide)) (Nat.le_of_ble_eq_true rfl) ?_
  have hN := hi.N2
  refine g_aload_n dX6_crossings_0 rfl ?_
  refine g_getR dX6_crossings_1 fX6_19 rfl rfl (by decide) ?_
  refine g_iload_n dX6_crossings_4 rfl ?_
  refine g_pV1 dX6_crossings_5 qX6_68 rfl (by decide) (by decide) (Nat.le_of_ble_eq_true rfl) (x_hasHole hi.i0 h.r0 _ (by omega)) ?_
  refine g_ifb_ne (tgt := 14) dX6_crossings_8 (by decide) (fun h8 => ?_) (fun h8 => ?_)
  · refine g_iconst dX6_crossings_14 ?_
    refine g_istore_n (i := 2) dX6_crossings_15 rfl (by decide) ?_
    refine g_iconst dX6_crossings_16 ?_
    refine g_istore_n (i := 3) dX6_crossings_17 rfl (by decide) ?_
    exact y_crossings_lp hi h s (by omega) (by omega) 33 0 0 (by omega) (by omega) (by omega) rfl
  · refine g_ldc dX6_crossings_11 kX6_63 ?_
    exact g_iret dX6_crossings_13 trivial (OX.of (q := (cBad, V)) (by unfold p_crossings; rw [if_pos (by omega)]) rfl h keepX.rfl)

theorem x_stand_lp {b : Int} {V σ : Mem} (hi : Inv b V) (h : RX V σ) : ∀ (fu : Nat) (k a : Int), 0 ≤ k → k ≤ V 0 0 → V 0 0 - k < fu → a = cntN (fun j => decide (V 1 j ≠ 4)) k.toNat → Go 41 mX5_howManyStand 4 [some (aR 10), some (aI a), some (aI k)] [] σ (fun o τ => o = some (aI (cntN (fun j => decide (V 1 j ≠ 4)) (V 0 0).toNat)) ∧ τ = σ) := by
  intro fu
  induction fu with
  | zero => intros; omega
  | succ fu ih =>
    intro k a k0 k1 kn ha
    have hN := hi.N2
    have hsu := cntN_succ (P := fun j => decide (V 1 j ≠ 4)) k0
    rw [← ha] at hsu
    refine g_iload_n dX5_howManyStand_4 rfl ?_
    refine g_aload_n dX5_howManyStand_5 rfl ?_
    refine g_getI (ji := 6) rfl dX5_howManyStand_6 fX5_32 rfl rfl (by decide) ?_
    rw [h.N]
    refine g_icmp_ge (tgt := 29) dX5_howManyStand_9 (by decide) (by omega) (by omega) (fun h9 => ?_) (fun h9 => ?_)
    · refine g_iload_n dX5_howManyStand_29 rfl ?_
      exact g_iret dX5_howManyStand_30 trivial ⟨by rw [ha, show V 0 0 = k by omega], rfl⟩
    · refine g_aload_n dX5_howManyStand_12 rfl ?_
      refine g_iload_n dX5_howManyStand_13 rfl ?_
      refine g_pV1 dX5_howManyStand_14 qX5_65 rfl (by decide) (by decide) (Nat.le_of_ble_eq_true rfl) (x_isGone hi.i0 h.r0 k k0 (by omega)) ?_
      refine g_ifb_ne (tgt := 23) dX5_howManyStand_17 (by decide) (fun h17 => ?_) (fun h17 => ?_)
      · refine g_iinc dX5_howManyStand_23 rfl (by decide) ?_
        refine g_goto (tgt := 4) dX5_howManyStand_26 (by decide) ?_
        exact ih (k + 1) _ (by omega) (by omega) (by omega) (by rw [hsu, if_neg (by simp [h17]), Int.add_zero])
      · refine g_iinc dX5_howManyStand_20 rfl (by decide) ?_
        refine g_iinc dX5_howManyStand_23 rfl (by decide) ?_
        refine g_goto (tgt := 4) dX5_howManyStand_26 (by decide) ?_
        exact ih (k + 1) _ (by omega) (by omega) (by omega) (by rw [hsu, if_pos (by simp [h17])])

theorem x_stand {b : Int} {V σ : Mem} (hi : Inv b V) (h : RX V σ) : RetV 41 mX5_howManyStand [aR 10] σ (aI (cntN (fun j => decide (V 1 j ≠ 4)) (V 0 0).toNat)) := by
  refine Ret.of [some (aR 10), none, none] rfl (plainFor_of_name (by decide)) (Nat.le_of_ble_eq_true rfl) ?_
  have hN := hi.N2
  refine g_iconst dX5_howManyStand_0 ?_
  refine g_istore_n (i := 1) dX5_howManyStand_1 rfl (by decide) ?_
  refine g_iconst dX5_howManyStand_2 ?_
  refine g_istore_n (i := 2) dX5_howManyStand_3 rfl (by decide) ?_
  exact x_stand_lp hi h 33 0 0 (by omega) (by omega) (by omega) rfl

theorem x_quarters_lp {b : Int} {V σ : Mem} (hi : Inv b V) (h : RX V σ) : ∀ (fu : Nat) (k a : Int), 0 ≤ k → k ≤ V 17 0 → V 17 0 - k < fu → a = sumN (fun i => ab (V 16 i)) k.toNat → Go 41 mX4_allQuarters 4 [some (aR 26), some (aI a), some (aI k)] [] σ (fun o τ => o = some (aI (sumN (fun i => ab (V 16 i)) (V 17 0).toNat)) ∧ τ = σ) := by
  intro fu
  induction fu with
  | zero => intros; omega
  | succ fu ih =>
    intro k a k0 k1 kn ha
    have hm := hi.many
    have hsu := sumN_succ (f := fun i => ab (V 16 i)) k0
    rw [← ha] at hsu
    refine g_iload_n dX4_allQuarters_4 rfl ?_
    refine g_aload_n dX4_allQuarters_5 rfl ?_
    refine g_getI (ji := 2) rfl dX4_allQuarters_6 fX4_18 rfl rfl (by decide) ?_
    rw [h.many]
    refine g_icmp_ge (tgt := 30) dX4_allQuarters_9 (by decide) (by omega) (by omega) (fun h9 => ?_) (fun h9 => ?_)
    · refine g_iload_n dX4_allQuarters_30 rfl ?_
      exact g_iret dX4_allQuarters_31 trivial ⟨by rw [ha, show V 17 0 = k by omega], rfl⟩
    · have hkN : k < V 17 0 := h9
      have hlb := hi.log k k0 hkN
      refine g_iload_n dX4_allQuarters_12 rfl ?_
      refine g_aload_n dX4_allQuarters_13 rfl ?_
      refine g_getR dX4_allQuarters_14 fX4_15 rfl rfl (by decide) ?_
      refine g_iload_n dX4_allQuarters_17 rfl ?_
      refine g_iaload dX4_allQuarters_18 rfl (by decide) (by omega) (by omega) (by decide) ?_
      rw [(h.log k k0 hkN).2]
      refine g_pS1 dX4_allQuarters_19 sX4_26 (by decide) (Nat.le_of_ble_eq_true rfl) (c_absI (by omega)) ?_
      refine g_iadd dX4_allQuarters_22 ?_
      refine g_istore_n (i := 1) dX4_allQuarters_23 rfl (by decide) ?_
      refine g_iinc dX4_allQuarters_24 rfl (by decide) ?_
      refine g_goto (tgt := 4) dX4_allQuarters_27 (by decide) ?_
      exact ih (k + 1) _ (by omega) (by omega) (by omega) (by rw [hsu]; rfl)

theorem x_quarters {b : Int} {V σ : Mem} (hi : Inv b V) (h : RX V σ) : RetV 41 mX4_allQuarters [aR 26] σ (aI (sumN (fun i => ab (V 16 i)) (V 17 0).toNat)) := by
  refine Ret.of [some (aR 26), none, none] rfl (plainFor_of_name (by decide)) (Nat.le_of_ble_eq_true rfl) ?_
  have hm := hi.many
  refine g_iconst dX4_allQuarters_0 ?_
  refine g_istore_n (i := 1) dX4_allQuarters_1 rfl (by decide) ?_
  refine g_iconst dX4_allQuarters_2 ?_
  refine g_istore_n (i := 2) dX4_allQuarters_3 rfl (by decide) ?_
  exact x_quarters_lp hi h 61 0 0 (by omega) (by omega) (by omega) rfl

theorem x_hread0_lp {b : Int} {V σ : Mem} (hi : Inv b V) (h : RX V σ) : ∀ (fu : Nat) (k a : Int), 0 ≤ k → k ≤ V 0 0 → V 0 0 - k < fu → a = cntN (fun p => decide (V 5 p ≠ -10000)) k.toNat → Go 41 mX5_howManyRead 4 [some (aR 10), some (aI 0), some (aI a), some (aI k)] [] σ (fun o τ => o = some (aI (cntN (fun p => decide (V 5 p ≠ -10000)) (V 0 0).toNat)) ∧ τ = σ) := by
  intro fu
  induction fu with
  | zero => intros; omega
  | succ fu ih =>
    intro k a k0 k1 kn ha
    have hN := hi.N2
    have hsu := cntN_succ (P := fun p => decide (V 5 p ≠ -10000)) k0
    rw [← ha] at hsu
    refine g_iload_n dX5_howManyRead_4 rfl ?_
    refine g_aload_n dX5_howManyRead_5 rfl ?_
    refine g_getI (ji := 6) rfl dX5_howManyRead_6 fX5_32 rfl rfl (by decide) ?_
    rw [h.N]
    refine g_icmp_ge (tgt := 35) dX5_howManyRead_9 (by decide) (by omega) (by omega) (fun h9 => ?_) (fun h9 => ?_)
    · refine g_iload_n dX5_howManyRead_35 rfl ?_
      exact g_iret dX5_howManyRead_36 trivial ⟨by rw [ha, show V 0 0 = k by omega], rfl⟩
    · have hkN : k < V 0 0 := h9
      have hrb : _ ≤ V 5 k ∧ V 5 k ≤ _ := hi.read 0 (by decide) k k0 hkN
      have hrd : σ 14 k = V 5 k := h.read 0 (by decide) k k0 hkN
      refine g_aload_n dX5_howManyRead_12 rfl ?_
      refine g_getR dX5_howManyRead_13 fX5_20 rfl rfl (by decide) ?_
      refine g_iload_n dX5_howManyRead_16 rfl ?_
      refine g_aaload (q := 14) dX5_howManyRead_17 rfl (by decide) (by decide) (by decide) (by decide) rfl ?_
      refine g_iload_n dX5_howManyRead_18 rfl ?_
      refine g_iaload dX5_howManyRead_19 rfl (by decide) (by omega) (by omega) (by decide) ?_
      rw [hrd]
      refine g_sipush (v := -10000) dX5_howManyRead_20 (by decide) ?_
      refine g_icmp_eq (tgt := 29) dX5_howManyRead_23 (by decide) (by omega) (by omega) (fun h23 => ?_) (fun h23 => ?_)
      · refine g_iinc dX5_howManyRead_29 rfl (by decide) ?_
        refine g_goto (tgt := 4) dX5_howManyRead_32 (by decide) ?_
        exact ih (k + 1) _ (by omega) (by omega) (by omega) (by rw [hsu, if_neg (by simp [h23]), Int.add_zero])
      · refine g_iinc dX5_howManyRead_26 rfl (by decide) ?_
        refine g_iinc dX5_howManyRead_29 rfl (by decide) ?_
        refine g_goto (tgt := 4) dX5_howManyRead_32 (by decide) ?_
        exact ih (k + 1) _ (by omega) (by omega) (by omega) (by rw [hsu, if_pos (by simp [h23])])

theorem x_hread0 {b : Int} {V σ : Mem} (hi : Inv b V) (h : RX V σ) : RetV 41 mX5_howManyRead [aR 10, aI 0] σ (aI (cntN (fun p => decide (V 5 p ≠ -10000)) (V 0 0).toNat)) := by
  have hN := hi.N2
  refine Ret.of [some (aR 10), some (aI 0), none, none] rfl (plainFor_of_name (by decide)) (Nat.le_of_ble_eq_true rfl) ?_
  refine g_iconst dX5_howManyRead_0 ?_
  refine g_istore_n (i := 2) dX5_howManyRead_1 rfl (by decide) ?_
  refine g_iconst dX5_howManyRead_2 ?_
  refine g_istore_n (i := 3) dX5_howManyRead_3 rfl (by decide) ?_
  exact x_hread0_lp hi h 33 0 0 (by omega) (by omega) (by omega) rfl

theorem x_hread1_lp {b : Int} {V σ : Mem} (hi : Inv b V) (h : RX V σ) : ∀ (fu : Nat) (k a : Int), 0 ≤ k → k ≤ V 0 0 → V 0 0 - k < fu → a = cntN (fun p => decide (V 6 p ≠ -10000)) k.toNat → Go 41 mX5_howManyRead 4 [some (aR 10), some (aI 1), some (aI a), some (aI k)] [] σ (fun o τ => o = some (aI (cntN (fun p => decide (V 6 p ≠ -10000)) (V 0 0).toNat)) ∧ τ = σ) := by
  intro fu
  induction fu with
  | zero => intros; omega
  | succ fu ih =>
    intro k a k0 k1 kn ha
    have hN := hi.N2
    have hsu := cntN_succ (P := fun p => decide (V 6 p ≠ -10000)) k0
    rw [← ha] at hsu
    refine g_iload_n dX5_howManyRead_4 rfl ?_
    refine g_aload_n dX5_howManyRead_5 rfl ?_
    refine g_getI (ji := 6) rfl dX5_howManyRead_6 fX5_32 rfl rfl (by decide) ?_
    rw [h.N]
    refine g_icmp_ge (tgt := 35) dX5_howManyRead_9 (by decide) (by omega) (by omega) (fun h9 => ?_) (fun h9 => ?_)
    · refine g_iload_n dX5_howManyRead_35 rfl ?_
      exact g_iret dX5_howManyRead_36 trivial ⟨by rw [ha, show V 0 0 = k by omega], rfl⟩
    · have hkN : k < V 0 0 := h9
      have hrb : _ ≤ V 6 k ∧ V 6 k ≤ _ := hi.read 1 (by decide) k k0 hkN
      have hrd : σ 15 k = V 6 k := h.read 1 (by decide) k k0 hkN
      refine g_aload_n dX5_howManyRead_12 rfl ?_
      refine g_getR dX5_howManyRead_13 fX5_20 rfl rfl (by decide) ?_
      refine g_iload_n dX5_howManyRead_16 rfl ?_
      refine g_aaload (q := 15) dX5_howManyRead_17 rfl (by decide) (by decide) (by decide) (by decide) rfl ?_
      refine g_iload_n dX5_howManyRead_18 rfl ?_
      refine g_iaload dX5_howManyRead_19 rfl (by decide) (by omega) (by omega) (by decide) ?_
      rw [hrd]
      refine g_sipush (v := -10000) dX5_howManyRead_20 (by decide) ?_
      refine g_icmp_eq (tgt := 29) dX5_howManyRead_23 (by decide) (by omega) (by omega) (fun h23 => ?_) (fun h23 => ?_)
      · refine g_iinc dX5_howManyRead_29 rfl (by decide) ?_
        refine g_goto (tgt := 4) dX5_howManyRead_32 (by decide) ?_
        exact ih (k + 1) _ (by omega) (by omega) (by omega) (by rw [hsu, if_neg (by simp [h23]), Int.add_zero])
      · refine g_iinc dX5_howManyRead_26 rfl (by decide) ?_
        refine g_iinc dX5_howManyRead_29 rfl (by decide) ?_
        refine g_goto (tgt := 4) dX5_howManyRead_32 (by decide) ?_
        exact ih (k + 1) _ (by omega) (by omega) (by omega) (by rw [hsu, if_pos (by simp [h23])])

theorem x_hread1 {b : Int} {V σ : Mem} (hi : Inv b V) (h : RX V σ) : RetV 41 mX5_howManyRead [aR 10, aI 1] σ (aI (cntN (fun p => decide (V 6 p ≠ -10000)) (V 0 0).toNat)) := by
  have hN := hi.N2
  refine Ret.of [some (aR 10), some (aI 1), none, none] rfl (plainFor_of_name (by decide)) (Nat.le_of_ble_eq_true rfl) ?_
  refine g_iconst dX5_howManyRead_0 ?_
  refine g_istore_n (i := 2) dX5_howManyRead_1 rfl (by decide) ?_
  refine g_iconst dX5_howManyRead_2 ?_
  refine g_istore_n (i := 3) dX5_howManyRead_3 rfl (by decide) ?_
  exact x_hread1_lp hi h 33 0 0 (by omega) (by omega) (by omega) rfl

theorem y_count {b : Int} {V σ : Mem} (hi : Inv b V) (h : RX V σ) (w : Int) (i_w : i32 w)  : Ret 41 mX6_count [aR 0, aI w] σ (OX σ (p_count V w)) := by
  refine Ret.of [some (aR 0), some (aI w)] rfl (plainFor_of_name (by decide)) (Nat.le_of_ble_eq_true rfl) ?_
  have hN := hi.N2
  have hm := hi.many
  refine g_iload_n dX6_count_0 rfl ?_
  by_cases hw0 : w = 0
  · subst hw0
    refine g_tabIn (off := 39) (tgt := 40) dX6_count_1 (by omega) (by omega) (by omega) rfl (by decide) ?_
    refine g_aload_n dX6_count_40 rfl ?_
    refine g_getR dX6_count_41 fX6_19 rfl rfl (by decide) ?_
    refine g_getI (ji := 6) rfl dX6_count_44 fX6_203 rfl rfl (by decide) ?_
    rw [h.N]
    exact g_iret dX6_count_47 trivial (OX.of (q := (V 0 0, V)) (by unfold p_count; rw [if_pos rfl]) rfl h keepX.rfl)
  by_cases hw1 : w = 1
  · subst hw1
    refine g_tabIn (off := 47) (tgt := 48) dX6_count_1 (by omega) (by omega) (by omega) rfl (by decide) ?_
    refine g_aload_n dX6_count_48 rfl ?_
    refine g_getR dX6_count_49 fX6_19 rfl rfl (by decide) ?_
    refine g_pV0 dX6_count_52 qX6_246 rfl (by decide) (by decide) (Nat.le_of_ble_eq_true rfl) (x_stand hi h) ?_
    exact g_iret dX6_count_55 trivial (OX.of (q := (cntN (fun j => decide (V 1 j ≠ 4)) (V 0 0).toNat, V)) (by unfold p_count; rw [if_neg (by omega), if_pos rfl]) rfl h keepX.rfl)
  by_cases hw2 : w = 2
  · subst hw2
    refine g_tabIn (off := 55) (tgt := 56) dX6_count_1 (by omega) (by omega) (by omega) rfl (by decide) ?_
    refine g_aload_n dX6_count_56 rfl ?_
    refine g_getR dX6_count_57 fX6_48 rfl rfl (by decide) ?_
    refine g_getI (ji := 2) rfl dX6_count_60 fX6_64 rfl rfl (by decide) ?_
    rw [h.many]
    exact g_iret dX6_count_63 trivial (OX.of (q := (V 17 0, V)) (by unfold p_count; rw [if_neg (by omega), if_neg (by omega), if_pos rfl]) rfl h keepX.rfl)
  by_cases hw3 : w = 3
  · subst hw3
    refine g_tabIn (off := 63) (tgt := 64) dX6_count_1 (by omega) (by omega) (by omega) rfl (by decide) ?_
    refine g_aload_n dX6_count_64 rfl ?_
    refine g_getR dX6_count_65 fX6_48 rfl rfl (by decide) ?_
    refine g_pV0 dX6_count_68 qX6_249 rfl (by decide) (by decide) (Nat.le_of_ble_eq_true rfl) (x_quarters hi h) ?_
    exact g_iret dX6_count_71 trivial (OX.of (q := (sumN (fun i => ab (V 16 i)) (V 17 0).toNat, V)) (by unfold p_count; rw [if_neg (by omega), if_neg (by omega), if_neg (by omega), if_pos rfl]) rfl h keepX.rfl)
  by_cases hw4 : w = 4
  · subst hw4
    refine g_tabIn (off := 71) (tgt := 72) dX6_count_1 (by omega) (by omega) (by omega) rfl (by decide) ?_
    refine g_aload_n dX6_count_72 rfl ?_
    refine g_getR dX6_count_73 fX6_19 rfl rfl (by decide) ?_
    refine g_iconst dX6_count_76 ?_
    refine g_pV1 dX6_count_77 qX6_252 rfl (by decide) (by decide) (Nat.le_of_ble_eq_true rfl) (x_hread0 hi h) ?_
    exact g_iret dX6_count_80 trivial (OX.of (q := (cntN (fun p => decide (V 5 p ≠ -10000)) (V 0 0).toNat, V)) (by unfold p_count; rw [if_neg (by omega), if_neg (by omega), if_neg (by omega), if_neg (by omega), if_pos rfl]) rfl h keepX.rfl)
  by_cases hw5 : w = 5
  · subst hw5
    refine g_tabIn (off := 80) (tgt := 81) dX6_count_1 (by omega) (by omega) (by omega) rfl (by decide) ?_
    refine g_aload_n dX6_count_81 rfl ?_
    refine g_getR dX6_count_82 fX6_19 rfl rfl (by decide) ?_
    refine g_iconst dX6_count_85 ?_
    refine g_pV1 dX6_count_86 qX6_252 rfl (by decide) (by decide) (Nat.le_of_ble_eq_true rfl) (x_hread1 hi h) ?_
    exact g_iret dX6_count_89 trivial (OX.of (q := (cntN (fun p => decide (V 6 p ≠ -10000)) (V 0 0).toNat, V)) (by unfold p_count; rw [if_neg (by omega), if_neg (by omega), if_neg (by omega), if_neg (by omega), if_neg (by omega), if_pos rfl]) rfl h keepX.rfl)
  refine g_tabOut (tgt := 90) dX6_count_1 (by omega) (by omega) (by decide) ?_
  refine g_ldc dX6_count_90 kX6_63 ?_
  exact g_iret dX6_count_92 trivial (OX.of (q := (cBad, V)) (by unfold p_count; rw [if_neg (by omega), if_neg (by omega), if_neg (by omega), if_neg (by omega), if_neg (by omega), if_neg (by omega)]) rfl h keepX.rfl)
