def bgI (σ τ : Mem) (n k : Int) : Prop := τ 30 0 = n ∧ τ 30 9 = 0 ∧ (0 < k → τ 30 15 = 0) ∧ (∀ j, 0 ≤ j → j < k → τ 31 j = (if j % 2 = 0 then 1 else 2) ∧ τ 32 j = 500 ∧ τ 33 j = 0 ∧ τ 33 (32 + j) = 0 ∧ τ 34 j = -10000 ∧ τ 34 (32 + j) = -10000) ∧ (∀ a, (a < 30 ∨ 34 < a) → τ a = σ a) ∧ (∀ j, j ≠ 0 → j ≠ 9 → j ≠ 15 → τ 30 j = σ 30 j)
theorem bgI.step {σ τ τ' : Mem} {n k : Int} (h : bgI σ τ n k) (h0 : 0 ≤ k) (h1 : k < 32) (e0 : τ' 30 = up τ 30 15 0 30) (e1 : τ' 31 = up τ 31 k (if k % 2 = 0 then 1 else 2) 31) (e2 : τ' 32 = up τ 32 k 500 32) (e3 : τ' 33 = up (up τ 33 k 0) 33 (32 + k) 0 33) (e4 : τ' 34 = up (up τ 34 k (-10000)) 34 (32 + k) (-10000) 34) (e5 : ∀ a, (a < 30 ∨ 34 < a) → τ' a = τ a) : bgI σ τ' n (k + 1) := by
  obtain ⟨a0, a1, a2, a3, a4, a5⟩ := h
  unfold bgI
  rw [e0, e1, e2, e3, e4]
  refine ⟨by rw [up_ne (Or.inr (by decide))]; exact a0, by rw [up_ne (Or.inr (by decide))]; exact a1, fun _ => up_same, fun j j0 j1 => ?_, fun a ha => (e5 a ha).trans (a4 a ha), fun j q0 q1 q2 => by rw [up_ne (Or.inr q2)]; exact a5 j q0 q1 q2⟩
  by_cases hj : j = k
  · subst hj
    refine ⟨up_same, up_same, ?_, up_same, ?_, up_same⟩
    · rw [up_ne (Or.inr (by omega)), up_same]
    · rw [up_ne (Or.inr (by omega)), up_same]
  · obtain ⟨b1, b2, b3, b4, b5, b6⟩ := a3 j j0 (by omega)
    refine ⟨by rw [up_ne (Or.inr hj)]; exact b1, by rw [up_ne (Or.inr hj)]; exact b2, ?_, ?_, ?_, ?_⟩
    · rw [up_ne (Or.inr (by omega)), up_ne (Or.inr hj)]; exact b3
    · rw [up_ne (Or.inr (by omega)), up_ne (Or.inr (by omega))]; exact b4
    · rw [up_ne (Or.inr (by omega)), up_ne (Or.inr hj)]; exact b5
    · rw [up_ne (Or.inr (by omega)), up_ne (Or.inr (by omega))]; exact b6
theorem RM.whl {V σ τ : Mem} {n : Int} (h : RM V σ) (hn : n = 8 ∨ n = 16 ∨ n = 32) (hb : bgI σ τ n 32) : RM (whlV V n) τ := by
  obtain ⟨a0, a1, a2, a3, a4, a5⟩ := hb
  unfold RM at h ⊢
  obtain ⟨g1, g2, g3, g4, g5, g6, g7, g8, g9, g10⟩ := h
  have e0 : whlV V n 0 0 = n := by simp [whlV]
  have e17 : whlV V n 17 0 = 0 := by simp [whlV]
  rw [e0, e17]
  refine ⟨a0, fun j j0 j1 => ?_, fun r hr j j0 j1 => ?_, fun t ht => ?_, fun t ht d d0 d1 => ?_, fun i i0 i1 => ?_, a1, fun i i0 i1 => by omega, ?_, Or.inl (a2 (by decide))⟩
  · obtain ⟨b1, b2, -⟩ := a3 j j0 (by omega)
    exact ⟨by rw [b1]; simp [whlV], by rw [b2]; simp [whlV]⟩
  · obtain ⟨-, -, b3, b4, b5, b6⟩ := a3 j j0 (by omega)
    rcases (show r = 0 ∨ r = 1 by omega) with rfl | rfl
    · simp only [whlV]
      simp
      exact ⟨b3, b5⟩
    · simp only [whlV]
      simp
      exact ⟨b4, b6⟩
  · rw [a4 35 (by omega), g4 t ht]; simp [whlV]
  · rw [a4 36 (by omega), g5 t ht d d0 d1]
    simp only [whlV]
    rw [if_neg (by omega), if_neg (by omega), if_neg (by omega), if_neg (by omega), if_neg (by omega), if_neg (by omega)]
  · rw [a4 37 (by omega), g6 i i0 i1]; simp [whlV]
  · rw [a5 10 (by decide) (by decide) (by decide), a5 11 (by decide) (by decide) (by decide), a5 12 (by decide) (by decide) (by decide), a5 13 (by decide) (by decide) (by decide)]
    simpa [whlV] using g9

theorem k_begin_lp {σ : Mem} (q : Int) : ∀ (n : Nat) (k : Int) (τ : Mem), 0 ≤ k → k ≤ 32 → 32 - k < n → bgI σ τ q k → Go 41 mX7_begin 12 [some (aR 30), some (aI q), some (aI k)] [] τ (fun r τ => r = none ∧ bgI σ τ q 32) := by
  intro n
  induction n with
  | zero => intros; omega
  | succ n ih =>
    intro k τ k0 k1 kn hb
    refine g_iload_n dX7_begin_12 rfl ?_
    refine g_bipush (v := 32) dX7_begin_13 (by decide) ?_
    refine g_icmp_ge (tgt := 93) dX7_begin_15 (by decide) (by omega) (by omega) (fun h15 => ?_) (fun h15 => ?_)
    · exact g_vret dX7_begin_93 trivial ⟨rfl, by rw [show (32 : Int) = k by omega]; exact hb⟩
    · refine g_aload_n dX7_begin_18 rfl ?_
      refine g_getR dX7_begin_19 fX7_7 rfl rfl (by decide) ?_
      refine g_iload_n dX7_begin_22 rfl ?_
      refine g_iload_n dX7_begin_23 rfl ?_
      refine g_iconst dX7_begin_24 ?_
      refine g_irem dX7_begin_25 (by omega) (by omega) (by omega) ?_
      rw [modN0 k0]
      refine g_if_ne (tgt := 33) dX7_begin_26 (by decide) (by omega) (fun h26 => ?_) (fun h26 => ?_)
      · refine g_iconst dX7_begin_33 ?_
        refine g_iastore dX7_begin_34 rfl (by decide) (by decide) (by omega) (by omega) (by decide) ?_
        refine g_aload_n dX7_begin_35 rfl ?_
        refine g_getR dX7_begin_36 fX7_13 rfl rfl (by decide) ?_
        refine g_iload_n dX7_begin_39 rfl ?_
        refine g_ldc2 dX7_begin_40 lX7_64 ?_
        refine g_lastore dX7_begin_43 rfl (by decide) (by decide) (by omega) (by omega) (by decide) ?_
        refine g_aload_n dX7_begin_44 rfl ?_
        refine g_getR dX7_begin_45 fX7_17 rfl rfl (by decide) ?_
        refine g_iload_n dX7_begin_48 rfl ?_
        refine g_lconst (v := 0) dX7_begin_49 (by decide) ?_
        refine g_lastore dX7_begin_50 rfl (by decide) (by decide) (by omega) (by omega) (by decide) ?_
        refine g_aload_n dX7_begin_51 rfl ?_
        refine g_getR dX7_begin_52 fX7_17 rfl rfl (by decide) ?_
        refine g_bipush (v := 32) dX7_begin_55 (by decide) ?_
        refine g_iload_n dX7_begin_57 rfl ?_
        refine g_iadd dX7_begin_58 ?_
        refine g_lconst (v := 0) dX7_begin_59 (by decide) ?_
        refine g_lastore dX7_begin_60 rfl (by decide) (by decide) (by omega) (by omega) (by decide) ?_
        refine g_aload_n dX7_begin_61 rfl ?_
        refine g_iconst dX7_begin_62 ?_
        refine g_putZ (ji := 15) rfl dX7_begin_63 vX7_66 rfl rfl (by decide) (by decide) (by omega) ?_
        refine g_aload_n dX7_begin_66 rfl ?_
        refine g_getR dX7_begin_67 fX7_20 rfl rfl (by decide) ?_
        refine g_iload_n dX7_begin_70 rfl ?_
        refine g_sipush (v := -10000) dX7_begin_71 (by decide) ?_
        refine g_iastore dX7_begin_74 rfl (by decide) (by decide) (by omega) (by omega) (by decide) ?_
        refine g_aload_n dX7_begin_75 rfl ?_
        refine g_getR dX7_begin_76 fX7_20 rfl rfl (by decide) ?_
        refine g_bipush (v := 32) dX7_begin_79 (by decide) ?_
        refine g_iload_n dX7_begin_81 rfl ?_
        refine g_iadd dX7_begin_82 ?_
        refine g_sipush (v := -10000) dX7_begin_83 (by decide) ?_
        refine g_iastore dX7_begin_86 rfl (by decide) (by decide) (by omega) (by omega) (by decide) ?_
        refine g_iinc dX7_begin_87 rfl (by decide) ?_
        refine g_goto (tgt := 12) dX7_begin_90 (by decide) ?_
        refine ih (k + 1) _ (by omega) (by omega) (by omega) (hb.step k0 (by omega) rfl (by first | (rw [if_pos (by omega)]; rfl) | (rw [if_neg (by omega)]; rfl)) rfl rfl rfl (fun a ha => by rw [up_cell (by omega), up_cell (by omega), up_cell (by omega), up_cell (by omega), up_cell (by omega), up_cell (by omega), up_cell (by omega)]))
      · refine g_iconst dX7_begin_29 ?_
        refine g_goto (tgt := 34) dX7_begin_30 (by decide) ?_
        refine g_iastore dX7_begin_34 rfl (by decide) (by decide) (by omega) (by omega) (by decide) ?_
        refine g_aload_n dX7_begin_35 rfl ?_
        refine g_getR dX7_begin_36 fX7_13 rfl rfl (by decide) ?_
        refine g_iload_n dX7_begin_39 rfl ?_
        refine g_ldc2 dX7_begin_40 lX7_64 ?_
        refine g_lastore dX7_begin_43 rfl (by decide) (by decide) (by omega) (by omega) (by decide) ?_
        refine g_aload_n dX7_begin_44 rfl ?_
        refine g_getR dX7_begin_45 fX7_17 rfl rfl (by decide) ?_
        refine g_iload_n dX7_begin_48 rfl ?_
        refine g_lconst (v := 0) dX7_begin_49 (by decide) ?_
        refine g_lastore dX7_begin_50 rfl (by decide) (by decide) (by omega) (by omega) (by decide) ?_
        refine g_aload_n dX7_begin_51 rfl ?_
        refine g_getR dX7_begin_52 fX7_17 rfl rfl (by decide) ?_
        refine g_bipush (v := 32) dX7_begin_55 (by decide) ?_
        refine g_iload_n dX7_begin_57 rfl ?_
        refine g_iadd dX7_begin_58 ?_
        refine g_lconst (v := 0) dX7_begin_59 (by decide) ?_
        refine g_lastore dX7_begin_60 rfl (by decide) (by decide) (by omega) (by omega) (by decide) ?_
        refine g_aload_n dX7_begin_61 rfl ?_
        refine g_iconst dX7_begin_62 ?_
        refine g_putZ (ji := 15) rfl dX7_begin_63 vX7_66 rfl rfl (by decide) (by decide) (by omega) ?_
        refine g_aload_n dX7_begin_66 rfl ?_
        refine g_getR dX7_begin_67 fX7_20 rfl rfl (by decide) ?_
        refine g_iload_n dX7_begin_70 rfl ?_
        refine g_sipush (v := -10000) dX7_begin_71 (by decide) ?_
        refine g_iastore dX7_begin_74 rfl (by decide) (by decide) (by omega) (by omega) (by decide) ?_
        refine g_aload_n dX7_begin_75 rfl ?_
        refine g_getR dX7_begin_76 fX7_20 rfl rfl (by decide) ?_
        refine g_bipush (v := 32) dX7_begin_79 (by decide) ?_
        refine g_iload_n dX7_begin_81 rfl ?_
        refine g_iadd dX7_begin_82 ?_
        refine g_sipush (v := -10000) dX7_begin_83 (by decide) ?_
        refine g_iastore dX7_begin_86 rfl (by decide) (by decide) (by omega) (by omega) (by decide) ?_
        refine g_iinc dX7_begin_87 rfl (by decide) ?_
        refine g_goto (tgt := 12) dX7_begin_90 (by decide) ?_
        refine ih (k + 1) _ (by omega) (by omega) (by omega) (hb.step k0 (by omega) rfl (by first | (rw [if_pos (by omega)]; rfl) | (rw [if_neg (by omega)]; rfl)) rfl rfl rfl (fun a ha => by rw [up_cell (by omega), up_cell (by omega), up_cell (by omega), up_cell (by omega), up_cell (by omega), up_cell (by omega), up_cell (by omega)]))

theorem k_begin {σ : Mem} (q : Int) : Ret 41 mX7_begin [aR 30, aI q] σ (fun r τ => r = none ∧ bgI σ τ q 32) := by
  refine Ret.of [some (aR 30), some (aI q), none] rfl (plainFor_of_name (by decide)) (Nat.le_of_ble_eq_true rfl) ?_
  refine g_aload_n dX7_begin_0 rfl ?_
  refine g_iload_n dX7_begin_1 rfl ?_
  refine g_putI (ji := 0) rfl dX7_begin_2 vX7_58 rfl rfl (by decide) (by decide) ?_
  refine g_aload_n dX7_begin_5 rfl ?_
  refine g_iconst dX7_begin_6 ?_
  refine g_putI (ji := 9) rfl dX7_begin_7 vX7_61 rfl rfl (by decide) (by decide) ?_
  refine g_iconst dX7_begin_10 ?_
  refine g_istore_n (i := 2) dX7_begin_11 rfl (by decide) ?_
  exact k_begin_lp q 33 0 _ (by omega) (by omega) (by omega) ⟨by rw [up_ne (Or.inr (by decide)), up_same], up_same, fun h => by omega, fun j j0 j1 => by omega, fun a ha => by rw [up_cell (by omega), up_cell (by omega)], fun j q0 q1 q2 => by rw [up_ne (Or.inr q1), up_ne (Or.inr q0)]⟩

theorem k_wheel {b : Int} {V σ : Mem} (hi : Inv b V) (h : RM V σ) (n : Int) (i_n : i32 n)  : Ret 41 mX7_wheel [aR 30, aI n] σ (OM σ (p_wheel V n)) := by
  refine Ret.of [some (aR 30), some (aI n)] rfl (plainFor_of_name (by decide)) (Nat.le_of_ble_eq_true rfl) ?_
  have hN := hi.N
  refine g_iload_n dX7_wheel_0 rfl ?_
  refine g_bipush (v := 8) dX7_wheel_1 (by decide) ?_
  refine g_icmp_eq (tgt := 21) dX7_wheel_3 (by decide) (by omega) (by omega) (fun h3 => ?_) (fun h3 => ?_)
  · refine g_aload_n dX7_wheel_21 rfl ?_
    refine g_iload_n dX7_wheel_22 rfl ?_
    refine g_vV1 dX7_wheel_23 qX7_54 rfl (by decide) (by decide) (by decide) (k_begin n) ?_
    intro τ hb
    refine g_iload_n dX7_wheel_26 rfl ?_
    exact g_iret dX7_wheel_27 trivial (OM.of (q := (n, whlV V n)) (by unfold p_wheel; rw [if_pos (by omega)]) rfl (h.whl (by omega) hb) (fun a ha => hb.2.2.2.2.1 a (by omega)))
  · refine g_iload_n dX7_wheel_6 rfl ?_
    refine g_bipush (v := 16) dX7_wheel_7 (by decide) ?_
    refine g_icmp_eq (tgt := 21) dX7_wheel_9 (by decide) (by omega) (by omega) (fun h9 => ?_) (fun h9 => ?_)
    · refine g_aload_n dX7_wheel_21 rfl ?_
      refine g_iload_n dX7_wheel_22 rfl ?_
      refine g_vV1 dX7_wheel_23 qX7_54 rfl (by decide) (by decide) (by decide) (k_begin n) ?_
      intro τ hb
      refine g_iload_n dX7_wheel_26 rfl ?_
      exact g_iret dX7_wheel_27 trivial (OM.of (q := (n, whlV V n)) (by unfold p_wheel; rw [if_pos (by omega)]) rfl (h.whl (by omega) hb) (fun a ha => hb.2.2.2.2.1 a (by omega)))
    · refine g_iload_n dX7_wheel_12 rfl ?_
      refine g_bipush (v := 32) dX7_wheel_13 (by decide) ?_
      refine g_icmp_eq (tgt := 21) dX7_wheel_15 (by decide) (by omega) (by omega) (fun h15 => ?_) (fun h15 => ?_)
      · refine g_aload_n dX7_wheel_21 rfl ?_
        refine g_iload_n dX7_wheel_22 rfl ?_
        refine g_vV1 dX7_wheel_23 qX7_54 rfl (by decide) (by decide) (by decide) (k_begin n) ?_
        intro τ hb
        refine g_iload_n dX7_wheel_26 rfl ?_
        exact g_iret dX7_wheel_27 trivial (OM.of (q := (n, whlV V n)) (by unfold p_wheel; rw [if_pos (by omega)]) rfl (h.whl (by omega) hb) (fun a ha => hb.2.2.2.2.1 a (by omega)))
      · refine g_ldc dX7_wheel_18 kX7_78 ?_
        exact g_iret dX7_wheel_20 trivial (OM.of (q := (cBad, V)) (by unfold p_wheel; rw [if_neg (by omega)]) rfl h keepM.rfl)
