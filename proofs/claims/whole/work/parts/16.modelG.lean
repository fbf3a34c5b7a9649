/-! the part of a state that turns don't change -/
def Inv0 (V : Mem) : Prop := (V 0 0 = 8 ∨ V 0 0 = 16 ∨ V 0 0 = 32) ∧ (∀ j, 0 ≤ j → j < V 0 0 → 0 ≤ V 1 j ∧ V 1 j ≤ 5) ∧ (∀ t : Nat, t < 6 → -1 ≤ V 7 t ∧ V 7 t ≤ 17) ∧ (∀ t : Nat, t < 6 → ∀ d, 0 ≤ d → d < 17 → -1000 ≤ V (8 + t) d ∧ V (8 + t) d ≤ 1000 ∧ (V 7 t ≤ d → V (8 + t) d = 0))
theorem Inv0.N {V : Mem} (h : Inv0 V) : V 0 0 = 8 ∨ V 0 0 = 16 ∨ V 0 0 = 32 := h.1
theorem Inv0.N2 {V : Mem} (h : Inv0 V) : 8 ≤ V 0 0 ∧ V 0 0 ≤ 32 := by have := h.N; omega
theorem Inv0.kind {V : Mem} (h : Inv0 V) (j : Int) (h0 : 0 ≤ j) (h1 : j < V 0 0) : 0 ≤ V 1 j ∧ V 1 j ≤ 5 := h.2.1 j h0 h1
theorem Inv0.size {V : Mem} (h : Inv0 V) (t : Nat) (ht : t < 6) : -1 ≤ V 7 t ∧ V 7 t ≤ 17 := h.2.2.1 t ht
theorem Inv0.tab {V : Mem} (h : Inv0 V) (t : Nat) (ht : t < 6) (d : Int) (h0 : 0 ≤ d) (h1 : d < 17) : -1000 ≤ V (8 + t) d ∧ V (8 + t) d ≤ 1000 ∧ (V 7 t ≤ d → V (8 + t) d = 0) := h.2.2.2 t ht d h0 h1
theorem Inv.i0 {b : Int} {V : Mem} (h : Inv b V) : Inv0 V := ⟨h.N, fun j a c => ⟨(h.kind j a c).1, (h.kind j a c).2.1⟩, h.size, h.tab⟩
def RM0 (V σ : Mem) : Prop := σ 30 0 = V 0 0 ∧ (∀ j, 0 ≤ j → j < V 0 0 → σ 31 j = V 1 j) ∧ (∀ t : Nat, t < 6 → σ 35 t = V 7 t) ∧ (∀ t : Nat, t < 6 → ∀ d, 0 ≤ d → d < 17 → σ 36 (17 * t + d) = V (8 + t) d)
theorem RM0.N {V σ : Mem} (h : RM0 V σ) : σ 30 0 = V 0 0 := h.1
theorem RM0.kind {V σ : Mem} (h : RM0 V σ) (j : Int) (h0 : 0 ≤ j) (h1 : j < V 0 0) : σ 31 j = V 1 j := h.2.1 j h0 h1
theorem RM0.size {V σ : Mem} (h : RM0 V σ) (t : Nat) (ht : t < 6) : σ 35 t = V 7 t := h.2.2.1 t ht
theorem RM0.tab {V σ : Mem} (h : RM0 V σ) (t : Nat) (ht : t < 6) (d : Int) (h0 : 0 ≤ d) (h1 : d < 17) : σ 36 (17 * t + d) = V (8 + t) d := h.2.2.2 t ht d h0 h1
theorem RM.r0 {V σ : Mem} (h : RM V σ) : RM0 V σ := ⟨h.N, h.kind, h.size, h.tab⟩
theorem RM0.keep {V σ τ : Mem} (h : RM0 V σ) (e0 : τ 30 0 = σ 30 0) (e1 : τ 31 = σ 31) (e2 : τ 35 = σ 35) (e3 : τ 36 = σ 36) : RM0 V τ := by
  unfold RM0
  rw [e0, e1, e2, e3]
  exact h

theorem c0_isGone {V σ : Mem} (hi : Inv0 V) (h : RM0 V σ) (s : Int) (h0 : 0 ≤ s) (h1 : s < V 0 0) : RetV 41 mX7_isGone [aR 30, aI s] σ (aI (b2i (V 1 s = 4))) := by
  refine Ret.of [some (aR 30), some (aI s)] rfl (plainFor_of_name (by decide)) (Nat.le_of_ble_eq_true rfl) ?_
  have hN := hi.N2
  have hk := hi.kind s h0 h1
  refine g_aload_n dX7_isGone_0 rfl ?_
  refine g_getR dX7_isGone_1 fX7_7 rfl rfl (by decide) ?_
  refine g_iload_n dX7_isGone_4 rfl ?_
  refine g_iaload dX7_isGone_5 rfl (by decide) (by omega) (by omega) (by decide) ?_
  rw [h.kind _ (by omega) (by omega)]
  refine g_iconst dX7_isGone_6 ?_
  refine g_icmp_ne (tgt := 14) dX7_isGone_7 (by decide) (by omega) (by omega) (fun h7 => ?_) (fun h7 => ?_)
  · refine g_iconst dX7_isGone_14 ?_
    exact g_iret dX7_isGone_15 (by first | exact Or.inl rfl | exact Or.inr rfl | exact b2i_ok) (by first | exact aI_b2i1 (by omega) rfl | exact aI_b2i0 (by omega) rfl)
  · refine g_iconst dX7_isGone_10 ?_
    refine g_goto (tgt := 15) dX7_isGone_11 (by decide) ?_
    exact g_iret dX7_isGone_15 (by first | exact Or.inl rfl | exact Or.inr rfl | exact b2i_ok) (by first | exact aI_b2i1 (by omega) rfl | exact aI_b2i0 (by omega) rfl)

theorem c0_leans {V σ : Mem} (hi : Inv0 V) (h : RM0 V σ) (s : Int) (h0 : 0 ≤ s) (h1 : s < V 0 0) : RetV 41 mX7_leans [aR 30, aI s] σ (aI (leanK (V 1 s))) := by
  refine Ret.of [some (aR 30), some (aI s), none] rfl (plainFor_of_name (by decide)) (Nat.le_of_ble_eq_true rfl) ?_
  have hN := hi.N2
  have hk := hi.kind s h0 h1
  refine g_aload_n dX7_leans_0 rfl ?_
  refine g_getR dX7_leans_1 fX7_7 rfl rfl (by decide) ?_
  refine g_iload_n dX7_leans_4 rfl ?_
  refine g_iaload dX7_leans_5 rfl (by decide) (by omega) (by omega) (by decide) ?_
  rw [h.kind _ (by omega) (by omega)]
  refine g_istore_n (i := 2) dX7_leans_6 rfl (by decide) ?_
  refine g_iload_n dX7_leans_7 rfl ?_
  refine g_iconst dX7_leans_8 ?_
  refine g_icmp_eq (tgt := 17) dX7_leans_9 (by decide) (by omega) (by omega) (fun h9 => ?_) (fun h9 => ?_)
  · refine g_iconst dX7_leans_17 ?_
    refine g_goto (tgt := 36) dX7_leans_18 (by decide) ?_
    exact g_iret dX7_leans_36 trivial ⟨by unfold leanK; congr 2; omega, rfl⟩
  · refine g_iload_n dX7_leans_12 rfl ?_
    refine g_iconst dX7_leans_13 ?_
    refine g_icmp_ne (tgt := 21) dX7_leans_14 (by decide) (by omega) (by omega) (fun h14 => ?_) (fun h14 => ?_)
    · refine g_iload_n dX7_leans_21 rfl ?_
      refine g_iconst dX7_leans_22 ?_
      refine g_icmp_eq (tgt := 31) dX7_leans_23 (by decide) (by omega) (by omega) (fun h23 => ?_) (fun h23 => ?_)
      · refine g_iconst dX7_leans_31 ?_
        refine g_goto (tgt := 36) dX7_leans_32 (by decide) ?_
        exact g_iret dX7_leans_36 trivial ⟨by unfold leanK; congr 2; omega, rfl⟩
      · refine g_iload_n dX7_leans_26 rfl ?_
        refine g_iconst dX7_leans_27 ?_
        refine g_icmp_ne (tgt := 35) dX7_leans_28 (by decide) (by omega) (by omega) (fun h28 => ?_) (fun h28 => ?_)
        · refine g_iconst dX7_leans_35 ?_
          exact g_iret dX7_leans_36 trivial ⟨by unfold leanK; congr 2; omega, rfl⟩
        · refine g_iconst dX7_leans_31 ?_
          refine g_goto (tgt := 36) dX7_leans_32 (by decide) ?_
          exact g_iret dX7_leans_36 trivial ⟨by unfold leanK; congr 2; omega, rfl⟩
    · refine g_iconst dX7_leans_17 ?_
      refine g_goto (tgt := 36) dX7_leans_18 (by decide) ?_
      exact g_iret dX7_leans_36 trivial ⟨by unfold leanK; congr 2; omega, rfl⟩

theorem c0_force {V σ : Mem} (hi : Inv0 V) (h : RM0 V σ) (s : Int) (h0 : 0 ≤ s) (h1 : s < V 0 0) : RetV 41 mX7_force [aR 30, aI s] σ (aI (forceK (V 1 s))) := by
  refine Ret.of [some (aR 30), some (aI s)] rfl (plainFor_of_name (by decide)) (Nat.le_of_ble_eq_true rfl) ?_
  have hN := hi.N2
  have hk := hi.kind s h0 h1
  refine g_aload_n dX7_force_0 rfl ?_
  refine g_getR dX7_force_1 fX7_7 rfl rfl (by decide) ?_
  refine g_iload_n dX7_force_4 rfl ?_
  refine g_iaload dX7_force_5 rfl (by decide) (by omega) (by omega) (by decide) ?_
  rw [h.kind _ (by omega) (by omega)]
  refine g_iconst dX7_force_6 ?_
  refine g_icmp_ne (tgt := 14) dX7_force_7 (by decide) (by omega) (by omega) (fun h7 => ?_) (fun h7 => ?_)
  · refine g_aload_n dX7_force_14 rfl ?_
    refine g_iload_n dX7_force_15 rfl ?_
    refine g_pV1 dX7_force_16 qX7_74 rfl (by decide) (by decide) (Nat.le_of_ble_eq_true rfl) (c0_isGone hi h s h0 h1) ?_
    refine g_ifb_eq (tgt := 26) dX7_force_19 (by decide) (fun h19 => ?_) (fun h19 => ?_)
    · refine g_iconst dX7_force_26 ?_
      exact g_iret dX7_force_27 trivial ⟨by unfold forceK; congr 2; omega, rfl⟩
    · refine g_iconst dX7_force_22 ?_
      refine g_goto (tgt := 27) dX7_force_23 (by decide) ?_
      exact g_iret dX7_force_27 trivial ⟨by unfold forceK; congr 2; omega, rfl⟩
  · refine g_iconst dX7_force_10 ?_
    refine g_goto (tgt := 27) dX7_force_11 (by decide) ?_
    exact g_iret dX7_force_27 trivial ⟨by unfold forceK; congr 2; omega, rfl⟩

theorem c0_steps {V σ : Mem} (hi : Inv0 V) (h : RM0 V σ) (i : Int) (j : Int) (h0 : 0 ≤ i) (h1 : i < V 0 0) (h2 : 0 ≤ j) (h3 : j < V 0 0) : RetV 41 mX7_steps [aR 30, aI i, aI j] σ (aI (stp (V 0 0) i j)) := by
  refine Ret.of [some (aR 30), some (aI i), some (aI j), none] rfl (plainFor_of_name (by decide)) (Nat.le_of_ble_eq_true rfl) ?_
  have hN := hi.N2
  refine g_iload_n dX7_steps_0 rfl ?_
  refine g_iload_n dX7_steps_1 rfl ?_
  refine g_icmp_ge (tgt := 11) dX7_steps_2 (by decide) (by omega) (by omega) (fun h2 => ?_) (fun h2 => ?_)
  · refine g_iload_n dX7_steps_11 rfl ?_
    refine g_iload_n dX7_steps_12 rfl ?_
    refine g_isub dX7_steps_13 ?_
    refine g_istore_n (i := 3) dX7_steps_14 rfl (by decide) ?_
    refine g_iload_n dX7_steps_15 rfl ?_
    refine g_aload_n dX7_steps_16 rfl ?_
    refine g_getI (ji := 0) rfl dX7_steps_17 fX7_58 rfl rfl (by decide) ?_
    rw [h.N]
    refine g_iload_n dX7_steps_20 rfl ?_
    refine g_isub dX7_steps_21 ?_
    refine g_icmp_ge (tgt := 29) dX7_steps_22 (by decide) (by omega) (by omega) (fun h22 => ?_) (fun h22 => ?_)
    · refine g_aload_n dX7_steps_29 rfl ?_
      refine g_getI (ji := 0) rfl dX7_steps_30 fX7_58 rfl rfl (by decide) ?_
      rw [h.N]
      refine g_iload_n dX7_steps_33 rfl ?_
      refine g_isub dX7_steps_34 ?_
      exact g_iret dX7_steps_35 trivial ⟨by unfold stp dst; congr 2; omega, rfl⟩
    · refine g_iload_n dX7_steps_25 rfl ?_
      refine g_goto (tgt := 35) dX7_steps_26 (by decide) ?_
      exact g_iret dX7_steps_35 trivial ⟨by unfold stp dst; congr 2; omega, rfl⟩
  · refine g_iload_n dX7_steps_5 rfl ?_
    refine g_iload_n dX7_steps_6 rfl ?_
    refine g_isub dX7_steps_7 ?_
    refine g_goto (tgt := 14) dX7_steps_8 (by decide) ?_
    refine g_istore_n (i := 3) dX7_steps_14 rfl (by decide) ?_
    refine g_iload_n dX7_steps_15 rfl ?_
    refine g_aload_n dX7_steps_16 rfl ?_
    refine g_getI (ji := 0) rfl dX7_steps_17 fX7_58 rfl rfl (by decide) ?_
    rw [h.N]
    refine g_iload_n dX7_steps_20 rfl ?_
    refine g_isub dX7_steps_21 ?_
    refine g_icmp_ge (tgt := 29) dX7_steps_22 (by decide) (by omega) (by omega) (fun h22 => ?_) (fun h22 => ?_)
    · refine g_aload_n dX7_steps_29 rfl ?_
      refine g_getI (ji := 0) rfl dX7_steps_30 fX7_58 rfl rfl (by decide) ?_
      rw [h.N]
      refine g_iload_n dX7_steps_33 rfl ?_
      refine g_isub dX7_steps_34 ?_
      exact g_iret dX7_steps_35 trivial ⟨by unfold stp dst; congr 2; omega, rfl⟩
    · refine g_iload_n dX7_steps_25 rfl ?_
      refine g_goto (tgt := 35) dX7_steps_26 (by decide) ?_
      exact g_iret dX7_steps_35 trivial ⟨by unfold stp dst; congr 2; omega, rfl⟩

theorem c0_tell {V σ : Mem} (hi : Inv0 V) (h : RM0 V σ) (d : Int) (t : Nat) (ht : t < 6) (h0 : 0 ≤ d) (h1 : d < 17) : RetV 41 mX7_tell [aR 30, aI (t : Int), aI d] σ (aI (V (8 + t) d)) := by
  refine Ret.of [some (aR 30), some (aI (t : Int)), some (aI d)] rfl (plainFor_of_name (by decide)) (Nat.le_of_ble_eq_true rfl) ?_
  have hz := hi.size t ht
  have hd := hi.tab t ht d h0 h1
  refine g_iload_n dX7_tell_0 rfl ?_
  refine g_aload_n dX7_tell_1 rfl ?_
  refine g_getR dX7_tell_2 fX7_23 rfl rfl (by decide) ?_
  refine g_iload_n dX7_tell_5 rfl ?_
  refine g_iaload dX7_tell_6 rfl (by decide) (by omega) (by omega) (by decide) ?_
  rw [h.size t ht]
  refine g_icmp_ge (tgt := 24) dX7_tell_7 (by decide) (by omega) (by omega) (fun h7 => ?_) (fun h7 => ?_)
  · refine g_iconst dX7_tell_24 ?_
    exact g_iret dX7_tell_25 trivial ⟨by first | rfl | (congr 2; omega), rfl⟩
  · refine g_aload_n dX7_tell_10 rfl ?_
    refine g_getR dX7_tell_11 fX7_26 rfl rfl (by decide) ?_
    refine g_bipush (v := 17) dX7_tell_14 (by decide) ?_
    refine g_iload_n dX7_tell_16 rfl ?_
    refine g_imul dX7_tell_17 ?_
    refine g_iload_n dX7_tell_18 rfl ?_
    refine g_iadd dX7_tell_19 ?_
    refine g_iaload dX7_tell_20 rfl (by decide) (by omega) (by omega) (by decide) ?_
    rw [h.tab t ht d h0 h1]
    refine g_goto (tgt := 25) dX7_tell_21 (by decide) ?_
    exact g_iret dX7_tell_25 trivial ⟨by first | rfl | (congr 2; omega), rfl⟩

theorem c0_t0 {V σ : Mem} (hi : Inv0 V) (h : RM0 V σ) (d : Int) (h0 : 0 ≤ d) (h1 : d < 17) : RetV 41 mX7_tell [aR 30, aI 0, aI d] σ (aI (V 8 d)) := c0_tell hi h d 0 (by decide) h0 h1
theorem c0_t1 {V σ : Mem} (hi : Inv0 V) (h : RM0 V σ) (d : Int) (h0 : 0 ≤ d) (h1 : d < 17) : RetV 41 mX7_tell [aR 30, aI 1, aI d] σ (aI (V 9 d)) := c0_tell hi h d 1 (by decide) h0 h1
theorem c0_t2 {V σ : Mem} (hi : Inv0 V) (h : RM0 V σ) (d : Int) (h0 : 0 ≤ d) (h1 : d < 17) : RetV 41 mX7_tell [aR 30, aI 2, aI d] σ (aI (V 10 d)) := c0_tell hi h d 2 (by decide) h0 h1
theorem c0_t3 {V σ : Mem} (hi : Inv0 V) (h : RM0 V σ) (d : Int) (h0 : 0 ≤ d) (h1 : d < 17) : RetV 41 mX7_tell [aR 30, aI 3, aI d] σ (aI (V 11 d)) := c0_tell hi h d 3 (by decide) h0 h1
theorem c0_t4 {V σ : Mem} (hi : Inv0 V) (h : RM0 V σ) (d : Int) (h0 : 0 ≤ d) (h1 : d < 17) : RetV 41 mX7_tell [aR 30, aI 4, aI d] σ (aI (V 12 d)) := c0_tell hi h d 4 (by decide) h0 h1
theorem c0_t5 {V σ : Mem} (hi : Inv0 V) (h : RM0 V σ) (d : Int) (h0 : 0 ≤ d) (h1 : d < 17) : RetV 41 mX7_tell [aR 30, aI 5, aI d] σ (aI (V 13 d)) := c0_tell hi h d 5 (by decide) h0 h1
/-! mkV -/
theorem mkV_o {V : Mem} {s n : Int} {a : Nat} (h : a ≠ 2) (h3 : a ≠ 3) (h4 : a ≠ 4) : mkV V s n a = V a := by
  funext j
  simp [mkV, h, h3, h4]
theorem mkV_2 {V : Mem} {s n j : Int} (h0 : 0 ≤ j) (h1 : j < V 0 0) : mkV V s n 2 j = if V 1 j = 4 then V 2 j else V 2 j + forceK (V 1 s) * n * (if leanK (V 1 j) = leanK (V 1 s) then V 10 (stp (V 0 0) s j) else V 11 (stp (V 0 0) s j)) := by
  simp [mkV, h0, h1]
theorem mkV_3 {V : Mem} {s n j : Int} (h0 : 0 ≤ j) (h1 : j < V 0 0) : mkV V s n 3 j = V 3 j + forceK (V 1 s) * n * leanK (V 1 s) * V 8 (stp (V 0 0) s j) := by
  simp [mkV, h0, h1]
theorem mkV_4 {V : Mem} {s n j : Int} (h0 : 0 ≤ j) (h1 : j < V 0 0) : mkV V s n 4 j = V 4 j + forceK (V 1 s) * n * V 9 (stp (V 0 0) s j) := by
  simp [mkV, h0, h1]
theorem forceK_b (k : Int) : 0 ≤ forceK k ∧ forceK k ≤ 2 := by
  unfold forceK
  repeat' split
  all_goals omega
theorem forceK_4 {k : Int} (h : k = 4) : forceK k = 0 := by subst h; rfl
theorem mkV_inv {b m : Int} {V : Mem} (hi : Inv b V) (s n : Int) (h0 : 0 ≤ s) (h1 : s < V 0 0) (hn : -m ≤ n ∧ n ≤ m) (hm : 0 ≤ m) (hb : b + 2000 * m ≤ 500000000) : Inv (b + 2000 * m) (mkV V s n) := by
  have hN := hi.N
  have hf := forceK_b (V 1 s)
  have hl := leanK_b (V 1 s)
  have hbb := hi.b
  have f1 := mulb (a := forceK (V 1 s)) (k := n) (A := 2) (B := m) (by omega) (by omega) (by omega) (by omega) (by omega) (by omega)
  have f2 := mulb (a := forceK (V 1 s) * n) (k := leanK (V 1 s)) (A := 2 * m) (B := 1) (by omega) (by omega) (by omega) (by omega) (by omega) (by omega)
  have tb : ∀ (t : Nat), t < 6 → ∀ j, 0 ≤ j → j < V 0 0 → -1000 ≤ V (8 + t) (stp (V 0 0) s j) ∧ V (8 + t) (stp (V 0 0) s j) ≤ 1000 := fun t ht j a c => by
    have hs := stp_b hN h0 h1 a c
    have := hi.tab t ht (stp (V 0 0) s j) hs.1 (by omega)
    omega
  have gb : ∀ x t : Int, (-(2 * m) ≤ x ∧ x ≤ 2 * m) → (-1000 ≤ t ∧ t ≤ 1000) → -(2000 * m) ≤ x * t ∧ x * t ≤ 2000 * m := fun x t hx ht => by
    have := mulb (a := x) (k := t) (A := 2 * m) (B := 1000) (by omega) (by omega) (by omega) (by omega) (by omega) (by omega)
    omega
  have e : ∀ a, a ≠ 2 → a ≠ 3 → a ≠ 4 → mkV V s n a = V a := fun a q1 q2 q3 => mkV_o q1 q2 q3
  unfold Inv
  rw [e 0 (by decide) (by decide) (by decide), e 1 (by decide) (by decide) (by decide), e 7 (by decide) (by decide) (by decide), e 14 (by decide) (by decide) (by decide), e 15 (by decide) (by decide) (by decide), e 16 (by decide) (by decide) (by decide), e 17 (by decide) (by decide) (by decide), e 18 (by decide) (by decide) (by decide)]
  refine ⟨hN, fun j a c => ?_, fun j a c => ?_, fun r hr j a c => ?_, fun r hr => ?_, hi.size, fun t ht => ?_, fun i a c => hi.lim i a c, hi.many, hi.log, hi.lac, by omega⟩
  · have hk := hi.kind j a c
    refine ⟨hk.1, hk.2.1, fun h4 => ?_⟩
    rw [mkV_2 a c, if_pos h4]
    exact hk.2.2 h4
  · have hp := hi.pull j a c
    rw [mkV_2 a c]
    split
    · omega
    · have t1 : -1000 ≤ V 10 (stp (V 0 0) s j) ∧ V 10 (stp (V 0 0) s j) ≤ 1000 := tb 2 (by decide) j a c
      have t2 : -1000 ≤ V 11 (stp (V 0 0) s j) ∧ V 11 (stp (V 0 0) s j) ≤ 1000 := tb 3 (by decide) j a c
      have u1 := gb (forceK (V 1 s) * n) (V 10 (stp (V 0 0) s j)) ⟨by omega, by omega⟩ t1
      have u2 := gb (forceK (V 1 s) * n) (V 11 (stp (V 0 0) s j)) ⟨by omega, by omega⟩ t2
      split <;> omega
  · have hp := hi.made r hr j a c
    rcases (show r = 0 ∨ r = 1 by omega) with rfl | rfl
    · show _ ≤ mkV V s n 3 j ∧ mkV V s n 3 j ≤ _
      rw [mkV_3 a c]
      have hp : -b ≤ V 3 j ∧ V 3 j ≤ b := hp
      have this : -(2000 * m) ≤ forceK (V 1 s) * n * leanK (V 1 s) * V 8 (stp (V 0 0) s j) ∧ forceK (V 1 s) * n * leanK (V 1 s) * V 8 (stp (V 0 0) s j) ≤ 2000 * m := gb (forceK (V 1 s) * n * leanK (V 1 s)) (V 8 (stp (V 0 0) s j)) ⟨by omega, by omega⟩ (tb 0 (by decide) j a c)
      omega
    · show _ ≤ mkV V s n 4 j ∧ mkV V s n 4 j ≤ _
      rw [mkV_4 a c]
      have hp : -b ≤ V 4 j ∧ V 4 j ≤ b := hp
      have this : -(2000 * m) ≤ forceK (V 1 s) * n * V 9 (stp (V 0 0) s j) ∧ forceK (V 1 s) * n * V 9 (stp (V 0 0) s j) ≤ 2000 * m := gb (forceK (V 1 s) * n) (V 9 (stp (V 0 0) s j)) ⟨by omega, by omega⟩ (tb 1 (by decide) j a c)
      omega
  · rw [e (5 + r) (by omega) (by omega) (by omega)]
    exact hi.read r hr
  · rw [e (8 + t) (by omega) (by omega) (by omega)]
    exact hi.tab t ht
theorem unb_mk {V : Mem} {s n : Int} (r : Nat) (hr : r < 2) (p : Int) : unb (mkV V s n) r p = unb V r p := by
  unfold unb
  rw [mkV_o (a := 5 + r) (by omega) (by omega) (by omega), mkV_o (a := 0) (by decide) (by decide) (by decide)]
/-- behind 'make' -/
theorem RM.mk {V σ τ : Mem} {s n : Int} (h : RM V σ) (hk : ∀ a, a ≠ 32 → a ≠ 33 → τ a = σ a) (h2 : ∀ j, 0 ≤ j → j < V 0 0 → τ 32 j = mkV V s n 2 j) (h3 : ∀ r : Nat, r < 2 → ∀ j, 0 ≤ j → j < V 0 0 → τ 33 (32 * r + j) = mkV V s n (3 + r) j) : RM (mkV V s n) τ := by
  have e : ∀ a, a ≠ 2 → a ≠ 3 → a ≠ 4 → mkV V s n a = V a := fun a q1 q2 q3 => mkV_o q1 q2 q3
  unfold RM at h ⊢
  rw [e 0 (by decide) (by decide) (by decide), e 1 (by decide) (by decide) (by decide), e 7 (by decide) (by decide) (by decide), e 14 (by decide) (by decide) (by decide), e 15 (by decide) (by decide) (by decide), e 16 (by decide) (by decide) (by decide), e 17 (by decide) (by decide) (by decide), e 18 (by decide) (by decide) (by decide), hk 30 (by decide) (by decide), hk 31 (by decide) (by decide), hk 34 (by decide) (by decide), hk 35 (by decide) (by decide), hk 36 (by decide) (by decide), hk 37 (by decide) (by decide), hk 38 (by decide) (by decide), hk 39 (by decide) (by decide)]
  refine ⟨h.1, fun j a c => ⟨(h.2.1 j a c).1, h2 j a c⟩, fun r hr j a c => ⟨h3 r hr j a c, ?_⟩, h.2.2.2.1, fun t ht d a c => ?_, h.2.2.2.2.2.1, h.2.2.2.2.2.2.1, h.2.2.2.2.2.2.2.1, h.2.2.2.2.2.2.2.2.1, h.2.2.2.2.2.2.2.2.2.imp id (fun q => ⟨q.1, fun r hr p a c => by rw [unb_mk r hr]; exact q.2 r hr p a c⟩)⟩
  · rw [e (5 + r) (by omega) (by omega) (by omega)]; exact (h.2.2.1 r hr j a c).2
  · rw [e (8 + t) (by omega) (by omega) (by omega)]; exact h.2.2.2.2.1 t ht d a c

theorem c_make_l2 {b : Int} {V σ : Mem} (hi : Inv b V) (h : RM V σ) (s n : Int) (s0 : 0 ≤ s) (s1 : s < V 0 0) (dd : Option AV) (τ1 : Mem) (g1 : ∀ a, a ≠ 33 → τ1 a = σ a) (g2 : ∀ r : Nat, r < 2 → ∀ j, 0 ≤ j → j < V 0 0 → τ1 33 (32 * r + j) = mkV V s n (3 + r) j) : ∀ (f : Nat) (k : Int) (τ : Mem), 0 ≤ k → k ≤ V 0 0 → V 0 0 - k < f → (∀ a, a ≠ 32 → τ a = τ1 a) → (∀ j, 0 ≤ j → j < V 0 0 → τ 32 j = if j < k then mkV V s n 2 j else V 2 j) → Go 41 mX7_make 90 [some (aR 30), some (aI s), some (aI n), some (aL (forceK (V 1 s) * n)), none, some (aI k), dd] [] τ (fun o τ => o = none ∧ (RM (mkV V s n) τ ∧ ∀ a, a ≠ 32 → a ≠ 33 → τ a = σ a)) := by
  intro fu
  induction fu with
  | zero => intros; omega
  | succ fu ih =>
    intro k τ k0 k1 kn t1 t2
    have hN := hi.N2
    have h0 : RM0 V τ := h.r0.keep (by rw [t1 30 (by decide), g1 30 (by decide)]) (by rw [t1 31 (by decide), g1 31 (by decide)]) (by rw [t1 35 (by decide), g1 35 (by decide)]) (by rw [t1 36 (by decide), g1 36 (by decide)])
    refine g_iload dX7_make_90 rfl ?_
    refine g_aload_n dX7_make_92 rfl ?_
    refine g_getI (ji := 0) rfl dX7_make_93 fX7_58 rfl rfl (by decide) ?_
    rw [h0.N]
    refine g_icmp_ge (tgt := 157) dX7_make_96 (by decide) (by first | assumption | omega) (by first | assumption | omega) (fun h96 => ?_) (fun h96 => ?_)
    · exact g_vret dX7_make_157 trivial ⟨rfl, h.mk (fun a a1 a2 => by rw [t1 a a1]; exact g1 a a2) (fun j j0 j1 => by rw [t2 j j0 j1, if_pos (by omega)]) (fun r hr j j0 j1 => by rw [t1 33 (by decide)]; exact g2 r hr j j0 j1), fun a a1 a2 => by rw [t1 a a1]; exact g1 a a2⟩
    · have hkN : k < V 0 0 := h96
      have hst := stp_b hi.N s0 s1 k0 hkN
      have hl1 := leanK_32 (V 1 k)
      have hl2 := leanK_32 (V 1 s)
      have tb2 : -1000 ≤ V 10 (stp (V 0 0) s k) ∧ V 10 (stp (V 0 0) s k) ≤ 1000 ∧ _ := hi.tab 2 (by decide) _ hst.1 (by omega)
      have tb3 : -1000 ≤ V 11 (stp (V 0 0) s k) ∧ V 11 (stp (V 0 0) s k) ≤ 1000 ∧ _ := hi.tab 3 (by decide) _ hst.1 (by omega)
      have hm2 := mkV_2 (s := s) (n := n) k0 hkN
      have hk2 := t2 k k0 hkN
      rw [if_neg (by omega)] at hk2
      have hst32 : stp (V 0 0) s k < 17 := by omega
      have e1 : 0 ≤ k + 1 := by omega
      have e2 : k + 1 ≤ V 0 0 := by omega
      have e3 : V 0 0 - (k + 1) < fu := by omega
      have e4 : k < 32 := by omega
      refine g_aload_n dX7_make_99 rfl ?_
      refine g_iload dX7_make_100 rfl ?_
      refine g_pV1 dX7_make_102 qX7_74 rfl (by decide) (by decide) (Nat.le_of_ble_eq_true rfl) (c0_isGone hi.i0 h0 k k0 hkN) ?_
      refine g_ifb_ne (tgt := 151) dX7_make_105 (by decide) (fun h105 => g_iinc dX7_make_151 rfl (by decide) (g_goto (tgt := 90) dX7_make_154 (by decide) (ih (k + 1) τ e1 e2 e3 t1 (fun j j0 j1 => ?_)))) (fun h105 => ?_)
      · rw [t2 j j0 j1]
        by_cases hj : j = k
        · subst hj
          rw [if_neg (by omega), if_pos (by omega), hm2, if_pos h105]
        · by_cases hjk : j < k
          · rw [if_pos hjk, if_pos (by omega)]
          · rw [if_neg hjk, if_neg (by omega)]
      refine g_aload_n dX7_make_108 rfl ?_
      refine g_getR dX7_make_109 fX7_13 rfl rfl (by decide) ?_
      refine g_iload dX7_make_112 rfl ?_
      refine g_dup2 dX7_make_114 (fun x h => by cases h) (fun x h => by cases h) ?_
      refine g_laload dX7_make_115 rfl (by decide) k0 e4 (by decide) ?_
      rw [hk2]
      refine g_lload_n dX7_make_116 rfl ?_
      refine g_aload_n dX7_make_117 rfl ?_
      refine g_aload_n dX7_make_118 rfl ?_
      refine g_iload dX7_make_119 rfl ?_
      refine g_pV1 dX7_make_121 qX7_91 rfl (by decide) (by decide) (Nat.le_of_ble_eq_true rfl) (c0_leans hi.i0 h0 k k0 hkN) ?_
      refine g_aload_n dX7_make_124 rfl ?_
      refine g_iload_n dX7_make_125 rfl ?_
      refine g_pV1 dX7_make_126 qX7_91 rfl (by decide) (by decide) (Nat.le_of_ble_eq_true rfl) (c0_leans hi.i0 h0 s s0 s1) ?_
      refine g_icmp_ne (tgt := 136) dX7_make_129 (by decide) (by first | assumption | omega) (by first | assumption | omega) (fun h129 => ?_) (fun h129 => ?_)
      · refine g_iconst dX7_make_136 ?_
        refine g_aload_n dX7_make_137 rfl ?_
        refine g_iload_n dX7_make_138 rfl ?_
        refine g_iload dX7_make_139 rfl ?_
        refine g_pV2 dX7_make_141 qX7_154 rfl (by decide) (by decide) (Nat.le_of_ble_eq_true rfl) (c0_steps hi.i0 h0 s k s0 s1 k0 hkN) ?_
        refine g_pV2 dX7_make_144 qX7_98 rfl (by decide) (by decide) (Nat.le_of_ble_eq_true rfl) (c0_t3 hi.i0 h0 _ hst.1 hst32) ?_
        refine g_i2l dX7_make_147 (by first | assumption | omega) ?_
        refine g_lmul dX7_make_148 ?_
        refine g_ladd dX7_make_149 ?_
        refine g_lastore dX7_make_150 rfl (by decide) (by decide) k0 e4 (by decide) ?_
        refine g_iinc dX7_make_151 rfl (by decide) ?_
        refine g_goto (tgt := 90) dX7_make_154 (by decide) ?_
        refine ih (k + 1) _ e1 e2 e3 (fun a a1 => by rw [up_cell a1]; exact t1 a a1) (fun j j0 j1 => ?_)
        by_cases hj : j = k
        · subst hj
          rw [up_same, if_pos (by omega), hm2, if_neg h105]
          first | rw [if_pos h129] | rw [if_neg h129]
        · rw [up_ne (Or.inr hj), t2 j j0 j1]
          by_cases hjk : j < k
          · rw [if_pos hjk, if_pos (by omega)]
          · rw [if_neg hjk, if_neg (by omega)]
      · refine g_iconst dX7_make_132 ?_
        refine g_goto (tgt := 137) dX7_make_133 (by decide) ?_
        refine g_aload_n dX7_make_137 rfl ?_
        refine g_iload_n dX7_make_138 rfl ?_
        refine g_iload dX7_make_139 rfl ?_
        refine g_pV2 dX7_make_141 qX7_154 rfl (by decide) (by decide) (Nat.le_of_ble_eq_true rfl) (c0_steps hi.i0 h0 s k s0 s1 k0 hkN) ?_
        refine g_pV2 dX7_make_144 qX7_98 rfl (by decide) (by decide) (Nat.le_of_ble_eq_true rfl) (c0_t2 hi.i0 h0 _ hst.1 hst32) ?_
        refine g_i2l dX7_make_147 (by first | assumption | omega) ?_
        refine g_lmul dX7_make_148 ?_
        refine g_ladd dX7_make_149 ?_
        refine g_lastore dX7_make_150 rfl (by decide) (by decide) k0 e4 (by decide) ?_
        refine g_iinc dX7_make_151 rfl (by decide) ?_
        refine g_goto (tgt := 90) dX7_make_154 (by decide) ?_
        refine ih (k + 1) _ e1 e2 e3 (fun a a1 => by rw [up_cell a1]; exact t1 a a1) (fun j j0 j1 => ?_)
        by_cases hj : j = k
        · subst hj
          rw [up_same, if_pos (by omega), hm2, if_neg h105]
          first | rw [if_pos h129] | rw [if_neg h129]
        · rw [up_ne (Or.inr hj), t2 j j0 j1]
          by_cases hjk : j < k
          · rw [if_pos hjk, if_pos (by omega)]
          · rw [if_neg hjk, if_neg (by omega)]

theorem c_make_l1 {b : Int} {V σ : Mem} (hi : Inv b V) (h : RM V σ) (s n : Int) (s0 : 0 ≤ s) (s1 : s < V 0 0) : ∀ (f : Nat) (k : Int) (dd : Option AV) (τ : Mem), 0 ≤ k → k ≤ V 0 0 → V 0 0 - k < f → (∀ a, a ≠ 33 → τ a = σ a) → (∀ r : Nat, r < 2 → ∀ j, 0 ≤ j → j < V 0 0 → τ 33 (32 * r + j) = if j < k then mkV V s n (3 + r) j else V (3 + r) j) → Go 41 mX7_make 13 [some (aR 30), some (aI s), some (aI n), some (aL (forceK (V 1 s) * n)), none, some (aI k), dd] [] τ (fun o τ => o = none ∧ (RM (mkV V s n) τ ∧ ∀ a, a ≠ 32 → a ≠ 33 → τ a = σ a)) := by
  intro fu
  induction fu with
  | zero => intros; omega
  | succ fu ih =>
    intro k dd τ k0 k1 kn t1 t2
    have hN := hi.N2
    have h0 : RM0 V τ := h.r0.keep (by rw [t1 30 (by decide)]) (by rw [t1 31 (by decide)]) (by rw [t1 35 (by decide)]) (by rw [t1 36 (by decide)])
    refine g_iload dX7_make_13 rfl ?_
    refine g_aload_n dX7_make_15 rfl ?_
    refine g_getI (ji := 0) rfl dX7_make_16 fX7_58 rfl rfl (by decide) ?_
    rw [h0.N]
    refine g_icmp_ge (tgt := 87) dX7_make_19 (by decide) (by first | assumption | omega) (by first | assumption | omega) (fun h19 => ?_) (fun h19 => ?_)
    · refine g_iconst dX7_make_87 ?_
      refine g_istore dX7_make_88 (by decide) ?_
      exact c_make_l2 hi h s n s0 s1 _ τ t1 (fun r hr j j0 j1 => by rw [t2 r hr j j0 j1, if_pos (by omega)]) 33 0 τ (by omega) (by omega) (by omega) (fun a _ => rfl) (fun j j0 j1 => by rw [if_neg (by omega), t1 32 (by decide)]; exact h.pull j j0 j1)
    · have hkN : k < V 0 0 := h19
      have hst := stp_b hi.N s0 s1 k0 hkN
      have hl2 := leanK_32 (V 1 s)
      have tb0 : -1000 ≤ V 8 (stp (V 0 0) s k) ∧ V 8 (stp (V 0 0) s k) ≤ 1000 ∧ _ := hi.tab 0 (by decide) _ hst.1 (by omega)
      have tb1 : -1000 ≤ V 9 (stp (V 0 0) s k) ∧ V 9 (stp (V 0 0) s k) ≤ 1000 ∧ _ := hi.tab 1 (by decide) _ hst.1 (by omega)
      have hst32 : stp (V 0 0) s k < 17 := by omega
      have m0 : τ 33 k = V 3 k := by
        have q := t2 0 (by decide) k k0 hkN
        rw [if_neg (by omega)] at q
        simpa using q
      have m1 : τ 33 (32 + k) = V 4 k := by
        have q := t2 1 (by decide) k k0 hkN
        rw [if_neg (by omega)] at q
        simpa using q
      have e1 : 0 ≤ k + 1 := by omega
      have e2 : k + 1 ≤ V 0 0 := by omega
      have e3 : V 0 0 - (k + 1) < fu := by omega
      have e4 : k < 32 := by omega
      refine g_aload_n dX7_make_22 rfl ?_
      refine g_iload_n dX7_make_23 rfl ?_
      refine g_iload dX7_make_24 rfl ?_
      refine g_pV2 dX7_make_26 qX7_154 rfl (by decide) (by decide) (Nat.le_of_ble_eq_true rfl) (c0_steps hi.i0 h0 s k s0 s1 k0 hkN) ?_
      refine g_istore dX7_make_29 (by decide) ?_
      refine g_aload_n dX7_make_31 rfl ?_
      refine g_getR dX7_make_32 fX7_17 rfl rfl (by decide) ?_
      refine g_iload dX7_make_35 rfl ?_
      refine g_dup2 dX7_make_37 (fun x h => by cases h) (fun x h => by cases h) ?_
      refine g_laload dX7_make_38 rfl (by decide) (by omega) (by omega) (by decide) ?_
      rw [m0]
      refine g_lload_n dX7_make_39 rfl ?_
      refine g_aload_n dX7_make_40 rfl ?_
      refine g_iload_n dX7_make_41 rfl ?_
      refine g_pV1 dX7_make_42 qX7_91 rfl (by decide) (by decide) (Nat.le_of_ble_eq_true rfl) (c0_leans hi.i0 h0 s s0 s1) ?_
      refine g_i2l dX7_make_45 (by first | assumption | omega) ?_
      refine g_lmul dX7_make_46 ?_
      refine g_aload_n dX7_make_47 rfl ?_
      refine g_iconst dX7_make_48 ?_
      refine g_iload dX7_make_49 rfl ?_
      refine g_pV2 dX7_make_51 qX7_98 rfl (by decide) (by decide) (Nat.le_of_ble_eq_true rfl) (c0_t0 hi.i0 h0 _ hst.1 hst32) ?_
      refine g_i2l dX7_make_54 (by first | assumption | omega) ?_
      refine g_lmul dX7_make_55 ?_
      refine g_ladd dX7_make_56 ?_
      refine g_lastore dX7_make_57 rfl (by decide) (by decide) (by omega) (by omega) (by decide) ?_
      refine g_aload_n dX7_make_58 rfl ?_
      refine g_getR dX7_make_59 fX7_17 rfl rfl (by decide) ?_
      refine g_bipush (v := 32) dX7_make_62 (by decide) ?_
      refine g_iload dX7_make_64 rfl ?_
      refine g_iadd dX7_make_66 ?_
      refine g_dup2 dX7_make_67 (fun x h => by cases h) (fun x h => by cases h) ?_
      refine g_laload dX7_make_68 rfl (by decide) (by omega) (by omega) (by decide) ?_
      rw [up_ne (Or.inr (by omega)), m1]
      have h0' : RM0 V (up τ 33 k (V 3 k + forceK (V 1 s) * n * leanK (V 1 s) * V 8 (stp (V 0 0) s k))) := h0.keep (by rw [up_cell (by decide)]) (by rw [up_cell (by decide)]) (by rw [up_cell (by decide)]) (by rw [up_cell (by decide)])
      refine g_lload_n dX7_make_69 rfl ?_
      refine g_aload_n dX7_make_70 rfl ?_
      refine g_iconst dX7_make_71 ?_
      refine g_iload dX7_make_72 rfl ?_
      refine g_pV2 dX7_make_74 qX7_98 rfl (by decide) (by decide) (Nat.le_of_ble_eq_true rfl) (c0_t1 hi.i0 h0' _ hst.1 hst32) ?_
      refine g_i2l dX7_make_77 (by first | assumption | omega) ?_
      refine g_lmul dX7_make_78 ?_
      refine g_ladd dX7_make_79 ?_
      refine g_lastore dX7_make_80 rfl (by decide) (by decide) (by omega) (by omega) (by decide) ?_
      refine g_iinc dX7_make_81 rfl (by decide) ?_
      refine g_goto (tgt := 13) dX7_make_84 (by decide) ?_
      refine ih (k + 1) _ _ e1 e2 e3 (fun a a1 => by rw [up_cell a1, up_cell a1]; exact t1 a a1) (fun r hr j j0 j1 => ?_)
      rcases (show r = 0 ∨ r = 1 by omega) with rfl | rfl
      · by_cases hj : j = k
        · subst hj
          rw [if_pos (by omega), up_ne (Or.inr (by omega)), show 32 * ((0 : Nat) : Int) + j = j by omega, up_same]
          exact (mkV_3 k0 hkN).symm
        · rw [up_ne (Or.inr (by omega)), up_ne (Or.inr (by omega)), t2 0 (by decide) j j0 j1]
          by_cases hjk : j < k
          · rw [if_pos hjk, if_pos (by omega)]
          · rw [if_neg hjk, if_neg (by omega)]
      · by_cases hj : j = k
        · subst hj
          rw [if_pos (by omega), show 32 * ((1 : Nat) : Int) + j = 32 + j by omega, up_same]
          exact (mkV_4 k0 hkN).symm
        · rw [up_ne (Or.inr (by omega)), up_ne (Or.inr (by omega)), t2 1 (by decide) j j0 j1]
          by_cases hjk : j < k
          · rw [if_pos hjk, if_pos (by omega)]
          · rw [if_neg hjk, if_neg (by omega)]

theorem c_make {b : Int} {V σ : Mem} (hi : Inv b V) (h : RM V σ) (s n : Int) (s0 : 0 ≤ s) (s1 : s < V 0 0) (hn : i32 n) : Ret 41 mX7_make [aR 30, aI s, aI n] σ (fun o τ => o = none ∧ (RM (mkV V s n) τ ∧ ∀ a, a ≠ 32 → a ≠ 33 → τ a = σ a)) := by
  refine Ret.of [some (aR 30), some (aI s), some (aI n), none, none, none, none] rfl (plainFor_of_name (by decide)) (Nat.le_of_ble_eq_true rfl) ?_
  have hN := hi.N2
  have hf := forceK_b (V 1 s)
  refine g_aload_n dX7_make_0 rfl ?_
  refine g_iload_n dX7_make_1 rfl ?_
  refine g_pV1 dX7_make_2 qX7_95 rfl (by decide) (by decide) (Nat.le_of_ble_eq_true rfl) (c_force hi h s s0 s1) ?_
  refine g_i2l dX7_make_5 (by omega) ?_
  refine g_iload_n dX7_make_6 rfl ?_
  refine g_i2l dX7_make_7 (by omega) ?_
  refine g_lmul dX7_make_8 ?_
  refine g_lstore_n (i := 3) dX7_make_9 rfl (by decide) ?_
  refine g_iconst dX7_make_10 ?_
  refine g_istore dX7_make_11 (by decide) ?_
  exact c_make_l1 hi h s n s0 s1 33 0 _ σ (by omega) (by omega) (by omega) (fun a _ => rfl) (fun r hr j j0 j1 => by rw [if_neg (by omega)]; exact h.made r hr j j0 j1)
