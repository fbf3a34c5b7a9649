theorem RM.tbl {V σ τ : Mem} {t : Nat} {n : Int} (h : RM V σ) (ht : t < 6) (h1 : ∀ a, a ≠ 35 → a ≠ 36 → τ a = σ a) (h2 : τ 35 t = n) (h3 : ∀ u : Nat, u < 6 → u ≠ t → τ 35 u = σ 35 u) (h4 : ∀ d, 0 ≤ d → d < 17 → τ 36 (17 * t + d) = 0) (h5 : ∀ j : Int, ¬ (17 * t ≤ j ∧ j < 17 * t + 17) → τ 36 j = σ 36 j) : RM (tblV V t n) τ := by
  have e0 : ∀ a j, a ≠ 7 → a ≠ 8 + t → tblV V t n a j = V a j := fun a j q1 q2 => by simp [tblV, q1, q2]
  have ec : ∀ a, a ≠ 7 → a ≠ 8 + t → tblV V t n a = V a := fun a q1 q2 => funext fun j => e0 a j q1 q2
  unfold RM at h ⊢
  obtain ⟨g1, g2, g3, g4, g5, g6, g7, g8, g9, g10⟩ := h
  rw [ec 0 (by omega) (by omega), ec 1 (by omega) (by omega), ec 2 (by omega) (by omega), ec 14 (by omega) (by omega), ec 15 (by omega) (by omega), ec 16 (by omega) (by omega), ec 17 (by omega) (by omega), ec 18 (by omega) (by omega), h1 30 (by decide) (by decide), h1 31 (by decide) (by decide), h1 32 (by decide) (by decide), h1 33 (by decide) (by decide), h1 34 (by decide) (by decide), h1 37 (by decide) (by decide), h1 38 (by decide) (by decide), h1 39 (by decide) (by decide)]
  refine ⟨g1, g2, fun r hr => ?_, fun u hu => ?_, fun u hu d a b => ?_, g6, g7, g8, g9, g10.imp id (fun e => ⟨e.1, fun r hr => ?_⟩)⟩
  · rw [ec (3 + r) (by omega) (by omega), ec (5 + r) (by omega) (by omega)]; exact g3 r hr
  · by_cases hu2 : u = t
    · subst hu2; rw [h2]; simp [tblV]
    · rw [h3 u hu hu2, g4 u hu]
      simp only [tblV]
      rw [if_neg (by omega), if_neg (by omega)]
  · by_cases hu2 : u = t
    · subst hu2; rw [h4 d a b]; simp only [tblV]; rw [if_neg (by omega), if_pos trivial]
    · rw [h5 _ (by omega), e0 _ _ (by omega) (by omega)]
      exact g5 u hu d a b
  · unfold unb
    rw [ec (5 + r) (by omega) (by omega), ec 0 (by omega) (by omega)]
    exact e.2 r hr

theorem k_table_lp {b : Int} {V σ : Mem} (hi : Inv b V) (h : RM V σ) (t : Nat) (q : Int) (ht : t < 6) (hq : -1 ≤ q ∧ q ≤ 17) : ∀ (n : Nat) (k : Int) (τ : Mem), 0 ≤ k → k ≤ 17 → 17 - k < n → (∀ a, a ≠ 35 → a ≠ 36 → τ a = σ a) → τ 35 t = q → (∀ u : Nat, u < 6 → u ≠ t → τ 35 u = σ 35 u) → (∀ d, 0 ≤ d → d < k → τ 36 (17 * t + d) = 0) → (∀ j : Int, ¬ (17 * t ≤ j ∧ j < 17 * t + 17) → τ 36 j = σ 36 j) → Go 41 mX7_table 31 [some (aR 30), some (aI t), some (aI q), some (aI k)] [] τ (OM σ (p_table V t q)) := by
  intro n
  induction n with
  | zero => intros; omega
  | succ n ih =>
    intro k τ k0 k1 kn h1 h2 h3 h4 h5
    refine g_iload_n dX7_table_31 rfl ?_
    refine g_bipush (v := 17) dX7_table_32 (by decide) ?_
    refine g_icmp_ge (tgt := 55) dX7_table_34 (by decide) (by omega) (by omega) (fun h34 => ?_) (fun h34 => ?_)
    · have hk : k = 17 := by omega
      subst hk
      have hR := h.tbl ht h1 h2 h3 h4 h5
      have hK : keepM σ τ := fun a ha => h1 a (by omega) (by omega)
      refine g_iload_n dX7_table_55 rfl ?_
      refine g_if_ge (tgt := 63) dX7_table_56 (by decide) (by omega) (fun h56 => ?_) (fun h56 => ?_)
      · refine g_iload_n dX7_table_63 rfl ?_
        exact g_iret dX7_table_64 trivial (by first | exact OM.of (q := (0, tblV V t q)) (by unfold p_table; rw [if_neg (by omega), if_pos (by omega), Int.toNat_natCast]) rfl hR hK | exact OM.of (q := (q, tblV V t q)) (by unfold p_table; rw [if_neg (by omega), if_neg (by omega), Int.toNat_natCast]) rfl hR hK)
      · refine g_iconst dX7_table_59 ?_
        refine g_goto (tgt := 64) dX7_table_60 (by decide) ?_
        exact g_iret dX7_table_64 trivial (by first | exact OM.of (q := (0, tblV V t q)) (by unfold p_table; rw [if_neg (by omega), if_pos (by omega), Int.toNat_natCast]) rfl hR hK | exact OM.of (q := (q, tblV V t q)) (by unfold p_table; rw [if_neg (by omega), if_neg (by omega), Int.toNat_natCast]) rfl hR hK)
    · refine g_aload_n dX7_table_37 rfl ?_
      refine g_getR dX7_table_38 fX7_26 rfl rfl (by decide) ?_
      refine g_bipush (v := 17) dX7_table_41 (by decide) ?_
      refine g_iload_n dX7_table_43 rfl ?_
      refine g_imul dX7_table_44 ?_
      refine g_iload_n dX7_table_45 rfl ?_
      refine g_iadd dX7_table_46 ?_
      refine g_iconst dX7_table_47 ?_
      refine g_iastore dX7_table_48 rfl (by decide) (by decide) (by omega) (by omega) (by decide) ?_
      refine g_iinc dX7_table_49 rfl (by decide) ?_
      refine g_goto (tgt := 31) dX7_table_52 (by decide) ?_
      exact ih (k + 1) _ (by omega) (by omega) (by omega) (fun a a1 a2 => by rw [up_cell (by omega)]; exact h1 a a1 a2) (by rw [up_cell (by decide)]; exact h2) (fun u u1 u2 => by rw [up_cell (by decide)]; exact h3 u u1 u2) (fun d d0 d1 => by
        by_cases hd : d = k
        · rw [hd, up_same]
        · rw [up_ne (Or.inr (by omega))]; exact h4 d d0 (by omega)) (fun j hj => by rw [up_ne (Or.inr (by omega))]; exact h5 j hj)

theorem k_table {b : Int} {V σ : Mem} (hi : Inv b V) (h : RM V σ) (t : Int) (q : Int) (i_t : i32 t) (i_q : i32 q)  : Ret 41 mX7_table [aR 30, aI t, aI q] σ (OM σ (p_table V t q)) := by
  refine Ret.of [some (aR 30), some (aI t), some (aI q), none] rfl (plainFor_of_name (by decide)) (Nat.le_of_ble_eq_true rfl) ?_
  have hN := hi.N
  refine g_iload_n dX7_table_0 rfl ?_
  refine g_iconst dX7_table_1 ?_
  refine g_iconst dX7_table_2 ?_
  refine g_pS3 dX7_table_3 sX7_70 (by decide) (by decide) (c_isIn _ _ _ (by omega) (by omega) (by omega)) ?_
  refine g_ifb_eq (tgt := 19) dX7_table_6 (by decide) (fun h6 => ?_) (fun h6 => ?_)
  · refine g_ldc dX7_table_19 kX7_78 ?_
    exact g_iret dX7_table_21 trivial (OM.of (q := (cBad, V)) (by unfold p_table; rw [if_pos (by omega)]) rfl h keepM.rfl)
  · refine g_iload_n dX7_table_9 rfl ?_
    refine g_iconst dX7_table_10 ?_
    refine g_bipush (v := 17) dX7_table_11 (by decide) ?_
    refine g_pS3 dX7_table_13 sX7_70 (by decide) (by decide) (c_isIn _ _ _ (by omega) (by omega) (by omega)) ?_
    refine g_ifb_ne (tgt := 22) dX7_table_16 (by decide) (fun h16 => ?_) (fun h16 => ?_)
    · obtain ⟨u, rfl⟩ : ∃ u : Nat, t = u := ⟨t.toNat, by omega⟩
      refine g_aload_n dX7_table_22 rfl ?_
      refine g_getR dX7_table_23 fX7_23 rfl rfl (by decide) ?_
      refine g_iload_n dX7_table_26 rfl ?_
      refine g_iload_n dX7_table_27 rfl ?_
      refine g_iastore dX7_table_28 rfl (by decide) (by decide) (by omega) (by omega) (by decide) ?_
      refine g_iconst dX7_table_29 ?_
      refine g_istore_n (i := 3) dX7_table_30 rfl (by decide) ?_
      exact k_table_lp hi h u q (by omega) (by omega) 18 0 _ (by omega) (by omega) (by omega) (fun a a1 a2 => up_cell a1) up_same (fun v v1 v2 => up_ne (Or.inr (by omega))) (fun d d0 d1 => by omega) (fun j hj => by rw [up_cell (by decide)])
    · refine g_ldc dX7_table_19 kX7_78 ?_
      exact g_iret dX7_table_21 trivial (OM.of (q := (cBad, V)) (by unfold p_table; rw [if_pos (by omega)]) rfl h keepM.rfl)

theorem RM.cpy {V σ τ : Mem} {f t : Nat} {n : Int} (h : RM V σ) (hf : f < 6) (ht : t < 6) (hn : n ≤ 17) (h1 : ∀ a, a ≠ 36 → τ a = σ a) (h4 : ∀ d, 0 ≤ d → d < n → τ 36 (17 * t + d) = σ 36 (17 * f + d)) (h5 : ∀ j : Int, ¬ (17 * t ≤ j ∧ j < 17 * t + n) → τ 36 j = σ 36 j) : RM (cpyV V f t n) τ := by
  have e0 : ∀ a j, a ≠ 8 + t → cpyV V f t n a j = V a j := fun a j q2 => by simp [cpyV, q2]
  have ec : ∀ a, a ≠ 8 + t → cpyV V f t n a = V a := fun a q2 => funext fun j => e0 a j q2
  unfold RM at h ⊢
  obtain ⟨g1, g2, g3, g4, g5, g6, g7, g8, g9, g10⟩ := h
  rw [ec 0 (by omega), ec 1 (by omega), ec 2 (by omega), ec 7 (by omega), ec 14 (by omega), ec 15 (by omega), ec 16 (by omega), ec 17 (by omega), ec 18 (by omega), h1 30 (by decide), h1 31 (by decide), h1 32 (by decide), h1 33 (by decide), h1 34 (by decide), h1 35 (by decide), h1 37 (by decide), h1 38 (by decide), h1 39 (by decide)]
  refine ⟨g1, g2, fun r hr => ?_, g4, fun u hu d a b => ?_, g6, g7, g8, g9, g10.imp id (fun e => ⟨e.1, fun r hr => ?_⟩)⟩
  · rw [ec (3 + r) (by omega), ec (5 + r) (by omega)]; exact g3 r hr
  · by_cases hu2 : u = t
    · subst hu2
      by_cases hd : d < n
      · rw [h4 d a hd, g5 f hf d a b]
        simp only [cpyV]
        rw [if_pos ⟨trivial, a, hd⟩]
      · rw [h5 _ (by omega), g5 u hu d a b]
        simp only [cpyV]
        rw [if_neg (by omega)]
    · rw [h5 _ (by omega), e0 _ _ (by omega)]
      exact g5 u hu d a b
  · unfold unb
    rw [ec (5 + r) (by omega), ec 0 (by omega)]
    exact e.2 r hr

theorem k_copy_lp {b : Int} {V σ : Mem} (hi : Inv b V) (h : RM V σ) (f t : Nat) (q : Int) (hf : f < 6) (ht : t < 6) (hq : 0 ≤ q ∧ q ≤ V 7 f ∧ q ≤ V 7 t) (hq7 : q ≤ 17) : ∀ (n : Nat) (k : Int) (τ : Mem), 0 ≤ k → k ≤ q → q - k < n → (∀ a, a ≠ 36 → τ a = σ a) → (∀ d, 0 ≤ d → d < k → τ 36 (17 * t + d) = σ 36 (17 * f + d)) → (∀ j : Int, ¬ (17 * t ≤ j ∧ j < 17 * t + k) → τ 36 j = σ 36 j) → Go 41 mX7_copy 72 [some (aR 30), some (aI f), some (aI t), some (aI q), some (aI k)] [] τ (OM σ (p_copy V f t q)) := by
  intro n
  induction n with
  | zero => intros; omega
  | succ n ih =>
    intro k τ k0 k1 kn h1 h4 h5
    refine g_iload dX7_copy_72 rfl ?_
    refine g_iload_n dX7_copy_74 rfl ?_
    refine g_icmp_ge (tgt := 108) dX7_copy_75 (by decide) (by omega) (by omega) (fun h75 => ?_) (fun h75 => ?_)
    · refine g_iload_n dX7_copy_108 rfl ?_
      exact g_iret dX7_copy_109 trivial (OM.of (q := (q, cpyV V f t q)) (by unfold p_copy; rw [if_neg (by omega), if_neg (by omega), if_neg (by omega), Int.toNat_natCast, Int.toNat_natCast]) rfl (h.cpy hf ht hq7 h1 (by rw [show q = k by omega]; exact h4) (by rw [show q = k by omega]; exact h5)) (fun a ha => h1 a (by omega)))
    · refine g_aload_n dX7_copy_78 rfl ?_
      refine g_getR dX7_copy_79 fX7_26 rfl rfl (by decide) ?_
      refine g_bipush (v := 17) dX7_copy_82 (by decide) ?_
      refine g_iload_n dX7_copy_84 rfl ?_
      refine g_imul dX7_copy_85 ?_
      refine g_iload dX7_copy_86 rfl ?_
      refine g_iadd dX7_copy_88 ?_
      refine g_aload_n dX7_copy_89 rfl ?_
      refine g_getR dX7_copy_90 fX7_26 rfl rfl (by decide) ?_
      refine g_bipush (v := 17) dX7_copy_93 (by decide) ?_
      refine g_iload_n dX7_copy_95 rfl ?_
      refine g_imul dX7_copy_96 ?_
      refine g_iload dX7_copy_97 rfl ?_
      refine g_iadd dX7_copy_99 ?_
      refine g_iaload dX7_copy_100 rfl (by decide) (by omega) (by omega) (by decide) ?_
      refine g_iastore dX7_copy_101 rfl (by decide) (by decide) (by omega) (by omega) (by decide) ?_
      refine g_iinc dX7_copy_102 rfl (by decide) ?_
      refine g_goto (tgt := 72) dX7_copy_105 (by decide) ?_
      have hsrc : τ 36 (17 * f + k) = σ 36 (17 * f + k) := by
        by_cases hft : f = t
        · subst hft; exact h5 _ (by omega)
        · exact h5 _ (by omega)
      rw [hsrc]
      exact ih (k + 1) _ (by omega) (by omega) (by omega) (fun a a1 => by rw [up_cell a1]; exact h1 a a1) (fun d d0 d1 => by
        by_cases hd : d = k
        · rw [hd, up_same]
        · rw [up_ne (Or.inr (by omega))]; exact h4 d d0 (by omega)) (fun j hj => by rw [up_ne (Or.inr (by omega))]; exact h5 j (by omega))

theorem k_copy {b : Int} {V σ : Mem} (hi : Inv b V) (h : RM V σ) (f : Int) (t : Int) (q : Int) (i_f : i32 f) (i_t : i32 t) (i_q : i32 q)  : Ret 41 mX7_copy [aR 30, aI f, aI t, aI q] σ (OM σ (p_copy V f t q)) := by
  refine Ret.of [some (aR 30), some (aI f), some (aI t), some (aI q), none] rfl (plainFor_of_name (by decide)) (Nat.le_of_ble_eq_true rfl) ?_
  have hN := hi.N
  refine g_iload_n dX7_copy_0 rfl ?_
  refine g_iconst dX7_copy_1 ?_
  refine g_iconst dX7_copy_2 ?_
  refine g_pS3 dX7_copy_3 sX7_70 (by decide) (by decide) (c_isIn _ _ _ (by omega) (by omega) (by omega)) ?_
  refine g_ifb_eq (tgt := 18) dX7_copy_6 (by decide) (fun h6 => ?_) (fun h6 => ?_)
  · refine g_ldc dX7_copy_18 kX7_78 ?_
    exact g_iret dX7_copy_20 trivial (OM.of (q := (cBad, V)) (by unfold p_copy; rw [if_pos (by omega)]) rfl h keepM.rfl)
  · refine g_iload_n dX7_copy_9 rfl ?_
    refine g_iconst dX7_copy_10 ?_
    refine g_iconst dX7_copy_11 ?_
    refine g_pS3 dX7_copy_12 sX7_70 (by decide) (by decide) (c_isIn _ _ _ (by omega) (by omega) (by omega)) ?_
    refine g_ifb_ne (tgt := 21) dX7_copy_15 (by decide) (fun h15 => ?_) (fun h15 => ?_)
    · obtain ⟨u, rfl⟩ : ∃ u : Nat, f = u := ⟨f.toNat, by omega⟩
      obtain ⟨v, rfl⟩ : ∃ u : Nat, t = u := ⟨t.toNat, by omega⟩
      have hz := hi.size u (by omega)
      have hz2 := hi.size v (by omega)
      refine g_aload_n dX7_copy_21 rfl ?_
      refine g_getR dX7_copy_22 fX7_23 rfl rfl (by decide) ?_
      refine g_iload_n dX7_copy_25 rfl ?_
      refine g_iaload dX7_copy_26 rfl (by decide) (by omega) (by omega) (by decide) ?_
      rw [h.size u (by omega)]
      refine g_if_lt (tgt := 39) dX7_copy_27 (by decide) (by omega) (fun h27 => ?_) (fun h27 => ?_)
      · refine g_ldc dX7_copy_39 kX7_86 ?_
        exact g_iret dX7_copy_41 trivial (OM.of (q := (cNothing, V)) (by unfold p_copy; rw [if_neg (by omega), if_pos (by omega)]) rfl h keepM.rfl)
      · refine g_aload_n dX7_copy_30 rfl ?_
        refine g_getR dX7_copy_31 fX7_23 rfl rfl (by decide) ?_
        refine g_iload_n dX7_copy_34 rfl ?_
        refine g_iaload dX7_copy_35 rfl (by decide) (by omega) (by omega) (by decide) ?_
        rw [h.size v (by omega)]
        refine g_if_ge (tgt := 42) dX7_copy_36 (by decide) (by omega) (fun h36 => ?_) (fun h36 => ?_)
        · refine g_iload_n dX7_copy_42 rfl ?_
          refine g_iconst dX7_copy_43 ?_
          refine g_aload_n dX7_copy_44 rfl ?_
          refine g_getR dX7_copy_45 fX7_23 rfl rfl (by decide) ?_
          refine g_iload_n dX7_copy_48 rfl ?_
          refine g_iaload dX7_copy_49 rfl (by decide) (by omega) (by omega) (by decide) ?_
          rw [h.size u (by omega)]
          refine g_pS3 dX7_copy_50 sX7_70 (by decide) (by decide) (c_isIn _ _ _ (by omega) (by omega) (by omega)) ?_
          refine g_ifb_eq (tgt := 66) dX7_copy_53 (by decide) (fun h53 => ?_) (fun h53 => ?_)
          · refine g_ldc dX7_copy_66 kX7_87 ?_
            exact g_iret dX7_copy_68 trivial (OM.of (q := (cIndex, V)) (by unfold p_copy; rw [if_neg (by omega), if_neg (by omega), if_pos (by omega)]) rfl h keepM.rfl)
          · refine g_iload_n dX7_copy_56 rfl ?_
            refine g_aload_n dX7_copy_57 rfl ?_
            refine g_getR dX7_copy_58 fX7_23 rfl rfl (by decide) ?_
            refine g_iload_n dX7_copy_61 rfl ?_
            refine g_iaload dX7_copy_62 rfl (by decide) (by omega) (by omega) (by decide) ?_
            rw [h.size v (by omega)]
            refine g_icmp_le (tgt := 69) dX7_copy_63 (by decide) (by omega) (by omega) (fun h63 => ?_) (fun h63 => ?_)
            · refine g_iconst dX7_copy_69 ?_
              refine g_istore dX7_copy_70 (by decide) ?_
              exact k_copy_lp hi h u v q (by omega) (by omega) (by omega) (by omega) 18 0 _ (by omega) (by omega) (by omega) (fun a a1 => rfl) (fun d d0 d1 => by omega) (fun j hj => rfl)
            · refine g_ldc dX7_copy_66 kX7_87 ?_
              exact g_iret dX7_copy_68 trivial (OM.of (q := (cIndex, V)) (by unfold p_copy; rw [if_neg (by omega), if_neg (by omega), if_pos (by omega)]) rfl h keepM.rfl)
        · refine g_ldc dX7_copy_39 kX7_86 ?_
          exact g_iret dX7_copy_41 trivial (OM.of (q := (cNothing, V)) (by unfold p_copy; rw [if_neg (by omega), if_pos (by omega)]) rfl h keepM.rfl)
    · refine g_ldc dX7_copy_18 kX7_78 ?_
      exact g_iret dX7_copy_20 trivial (OM.of (q := (cBad, V)) (by unfold p_copy; rw [if_pos (by omega)]) rfl h keepM.rfl)
