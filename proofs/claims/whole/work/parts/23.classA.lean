/-! THE CLASS -/
theorem row_14 (r : Nat) (hr : r < 2) : ([14, 15] : List Nat).getD ((r : Int)).toNat 0 = 14 + r := by rcases (show r = 0 ∨ r = 1 by omega) with rfl | rfl <;> rfl
theorem row_17 (r : Nat) (hr : r < 2) : ([17, 18] : List Nat).getD ((r : Int)).toNat 0 = 17 + r := by rcases (show r = 0 ∨ r = 1 by omega) with rfl | rfl <;> rfl
theorem row_20 (r : Nat) (hr : r < 2) : ([20, 21] : List Nat).getD ((r : Int)).toNat 0 = 20 + r := by rcases (show r = 0 ∨ r = 1 by omega) with rfl | rfl <;> rfl
theorem row_3 (r : Nat) (hr : r < 6) : ([3, 4, 5, 6, 7, 8] : List Nat).getD ((r : Int)).toNat 0 = 3 + r := by rcases (show r = 0 ∨ r = 1 ∨ r = 2 ∨ r = 3 ∨ r = 4 ∨ r = 5 by omega) with rfl | rfl | rfl | rfl | rfl | rfl <;> rfl
theorem shr_14 (r : Nat) (hr : r < 2) : sh (14 + r) = .inr (0, 32, []) := by rcases (show r = 0 ∨ r = 1 by omega) with rfl | rfl <;> rfl
theorem shr_17 (r : Nat) (hr : r < 2) : sh (17 + r) = .inr (0, 32, []) := by rcases (show r = 0 ∨ r = 1 by omega) with rfl | rfl <;> rfl
theorem shr_20 (r : Nat) (hr : r < 2) : sh (20 + r) = .inr (0, 32, []) := by rcases (show r = 0 ∨ r = 1 by omega) with rfl | rfl <;> rfl
theorem shr_3 (r : Nat) (hr : r < 6) : sh (3 + r) = .inr (0, 17, []) := by rcases (show r = 0 ∨ r = 1 ∨ r = 2 ∨ r = 3 ∨ r = 4 ∨ r = 5 by omega) with rfl | rfl | rfl | rfl | rfl | rfl <;> rfl
/-- what turns don't change -/
def XS (V σ : Mem) : Prop := (σ 10 6 = V 0 0 ∧ ∀ d, 0 ≤ d → d < V 0 0 → σ 41 d = lw (V 0 0) d) ∧ (∀ j, 0 ≤ j → j < V 0 0 → σ 11 j = V 1 j) ∧ (∀ t : Nat, t < 6 → ∀ d, 0 ≤ d → d < 17 → σ (3 + t) d = V (8 + t) d) ∧ ((∀ k, 0 ≤ k → k < 6 → σ 100 k = leanK k ∧ σ 101 k = forceK k ∧ σ 102 k = (if k = 3 then 2 else if k = 5 then 1 else 0)) ∧ (∀ k, 0 ≤ k → k < 17 → σ 103 k = sinT k) ∧ σ 200 0 = 6 ∧ σ 201 0 = 6 ∧ σ 202 0 = 6 ∧ σ 203 0 = 17)
theorem XS.N {V σ : Mem} (h : XS V σ) : σ 10 6 = V 0 0 := h.1.1
theorem XS.lw {V σ : Mem} (h : XS V σ) (d : Int) (h0 : 0 ≤ d) (h1 : d < V 0 0) : σ 41 d = lw (V 0 0) d := h.1.2 d h0 h1
theorem lw_stp {N i j : Int} (hN : N = 8 ∨ N = 16 ∨ N = 32) (i0 : 0 ≤ i) (i1 : i < N) (j0 : 0 ≤ j) (j1 : j < N) : lw N ((j - i) % N) = stp N i j := by
  unfold lw stp dst
  rcases hN with rfl | rfl | rfl <;> omega
theorem XS.kind {V σ : Mem} (h : XS V σ) (j : Int) (h0 : 0 ≤ j) (h1 : j < V 0 0) : σ 11 j = V 1 j := h.2.1 j h0 h1
theorem XS.tab {V σ : Mem} (h : XS V σ) (t : Nat) (ht : t < 6) (d : Int) (h0 : 0 ≤ d) (h1 : d < 17) : σ (3 + t) d = V (8 + t) d := h.2.2.1 t ht d h0 h1
theorem XS.ro {V σ : Mem} (h : XS V σ) : (∀ k, 0 ≤ k → k < 6 → σ 100 k = leanK k ∧ σ 101 k = forceK k ∧ σ 102 k = (if k = 3 then 2 else if k = 5 then 1 else 0)) ∧ (∀ k, 0 ≤ k → k < 17 → σ 103 k = sinT k) ∧ σ 200 0 = 6 ∧ σ 201 0 = 6 ∧ σ 202 0 = 6 ∧ σ 203 0 = 17 := h.2.2.2
theorem RX.r0 {V σ : Mem} (h : RX V σ) : XS V σ := ⟨⟨h.N, h.lw⟩, h.kind, h.tab, h.ro⟩
theorem XS.keep {V σ τ : Mem} (h : XS V σ) (e : ∀ a, (a < 9 ∨ a = 10 ∨ a = 11 ∨ a = 41 ∨ 100 ≤ a) → τ a = σ a) : XS V τ := by
  unfold XS
  rw [e 10 (by omega), e 41 (by omega), e 11 (by omega), e 100 (by omega), e 101 (by omega), e 102 (by omega), e 103 (by omega), e 200 (by omega), e 201 (by omega), e 202 (by omega), e 203 (by omega)]
  refine ⟨h.1, h.2.1, fun t ht => ?_, h.2.2.2⟩
  rw [e (3 + t) (by omega)]
  exact h.2.2.1 t ht

theorem x_lies {K : Nat} {σ : Mem} (v : Int) (lo : Int) (hi : Int) (h1 : i32 v) (h2 : i32 lo) (h3 : i32 hi) : RetV K mX6_lies [aI v, aI lo, aI hi] σ (aI (b2i (lo ≤ v ∧ v ≤ hi))) := by
  refine Ret.of [some (aI v), some (aI lo), some (aI hi)] rfl (plainFor_of_name (by decide)) (Nat.le_of_ble_eq_true rfl) ?_
  refine g_iload_n dX6_lies_0 rfl ?_
  refine g_iload_n dX6_lies_1 rfl ?_
  refine g_icmp_lt (tgt := 14) dX6_lies_2 (by decide) (by omega) (by omega) (fun h2 => ?_) (fun h2 => ?_)
  · refine g_iconst dX6_lies_14 ?_
    exact g_iret dX6_lies_15 (by first | exact Or.inl rfl | exact Or.inr rfl | exact b2i_ok) (by first | exact aI_b2i1 (by omega) rfl | exact aI_b2i0 (by omega) rfl)
  · refine g_iload_n dX6_lies_5 rfl ?_
    refine g_iload_n dX6_lies_6 rfl ?_
    refine g_icmp_gt (tgt := 14) dX6_lies_7 (by decide) (by omega) (by omega) (fun h7 => ?_) (fun h7 => ?_)
    · refine g_iconst dX6_lies_14 ?_
      exact g_iret dX6_lies_15 (by first | exact Or.inl rfl | exact Or.inr rfl | exact b2i_ok) (by first | exact aI_b2i1 (by omega) rfl | exact aI_b2i0 (by omega) rfl)
    · refine g_iconst dX6_lies_10 ?_
      refine g_goto (tgt := 15) dX6_lies_11 (by decide) ?_
      exact g_iret dX6_lies_15 (by first | exact Or.inl rfl | exact Or.inr rfl | exact b2i_ok) (by first | exact aI_b2i1 (by omega) rfl | exact aI_b2i0 (by omega) rfl)

theorem x_isTable {K : Nat} {σ : Mem} (t : Int) (h1 : i32 t) : RetV K mX6_isTable [aI t] σ (aI (b2i (0 ≤ t ∧ t ≤ 5))) := by
  refine Ret.of [some (aI t)] rfl (plainFor_of_name (by decide)) (Nat.le_of_ble_eq_true rfl) ?_
  refine g_iload_n dX6_isTable_0 rfl ?_
  refine g_iconst dX6_isTable_1 ?_
  refine g_iconst dX6_isTable_2 ?_
  refine g_pS3 dX6_isTable_3 sX6_85 (by decide) (Nat.le_of_ble_eq_true rfl) (x_lies _ _ _ (by omega) (by omega) (by omega)) ?_
  exact g_iret dX6_isTable_6 (by first | exact Or.inl rfl | exact Or.inr rfl | exact b2i_ok) ⟨rfl, rfl⟩

theorem x_isRow {K : Nat} {σ : Mem} (t : Int) (h1 : i32 t) : RetV K mX6_isRow [aI t] σ (aI (b2i (0 ≤ t ∧ t ≤ 1))) := by
  refine Ret.of [some (aI t)] rfl (plainFor_of_name (by decide)) (Nat.le_of_ble_eq_true rfl) ?_
  refine g_iload_n dX6_isRow_0 rfl ?_
  refine g_iconst dX6_isRow_1 ?_
  refine g_iconst dX6_isRow_2 ?_
  refine g_pS3 dX6_isRow_3 sX6_85 (by decide) (Nat.le_of_ble_eq_true rfl) (x_lies _ _ _ (by omega) (by omega) (by omega)) ?_
  exact g_iret dX6_isRow_6 (by first | exact Or.inl rfl | exact Or.inr rfl | exact b2i_ok) ⟨rfl, rfl⟩

theorem x_canBePut {K : Nat} {σ : Mem} (k : Int) (h1 : i32 k) : RetV K mX6_canBePut [aI k] σ (aI (b2i (isK k))) := by
  refine Ret.of [some (aI k)] rfl (plainFor_of_name (by decide)) (Nat.le_of_ble_eq_true rfl) ?_
  refine g_iload_n dX6_canBePut_0 rfl ?_
  refine g_iconst dX6_canBePut_1 ?_
  refine g_iconst dX6_canBePut_2 ?_
  refine g_pS3 dX6_canBePut_3 sX6_85 (by decide) (Nat.le_of_ble_eq_true rfl) (x_lies _ _ _ (by omega) (by omega) (by omega)) ?_
  refine g_ifb_eq (tgt := 18) dX6_canBePut_6 (by decide) (fun h6 => ?_) (fun h6 => ?_)
  · refine g_iconst dX6_canBePut_18 ?_
    exact g_iret dX6_canBePut_19 (by first | exact Or.inl rfl | exact Or.inr rfl | exact b2i_ok) (by first | exact aI_b2i1 (by omega) rfl | exact aI_b2i0 (by omega) rfl)
  · refine g_iload_n dX6_canBePut_9 rfl ?_
    refine g_iconst dX6_canBePut_10 ?_
    refine g_icmp_eq (tgt := 18) dX6_canBePut_11 (by decide) (by omega) (by omega) (fun h11 => ?_) (fun h11 => ?_)
    · refine g_iconst dX6_canBePut_18 ?_
      exact g_iret dX6_canBePut_19 (by first | exact Or.inl rfl | exact Or.inr rfl | exact b2i_ok) (by first | exact aI_b2i1 (by omega) rfl | exact aI_b2i0 (by omega) rfl)
    · refine g_iconst dX6_canBePut_14 ?_
      refine g_goto (tgt := 19) dX6_canBePut_15 (by decide) ?_
      exact g_iret dX6_canBePut_19 (by first | exact Or.inl rfl | exact Or.inr rfl | exact b2i_ok) (by first | exact aI_b2i1 (by omega) rfl | exact aI_b2i0 (by omega) rfl)

theorem x_asNumber {K : Nat} {σ : Mem} {P : Prop} [Decidable P] : RetV K mX6_asNumber [aI (b2i P)] σ (aI (b2i P)) := by
  refine Ret.of [some (aI (b2i P))] rfl (plainFor_of_name (by decide)) (Nat.le_of_ble_eq_true rfl) ?_
  refine g_iload_n dX6_asNumber_0 rfl ?_
  refine g_ifb_eq (tgt := 8) dX6_asNumber_1 (by decide) (fun h1 => ?_) (fun h1 => ?_)
  · refine g_iconst dX6_asNumber_8 ?_
    exact g_iret dX6_asNumber_9 trivial (by first | exact aI_b2i1 h1 rfl | exact aI_b2i0 h1 rfl)
  · refine g_iconst dX6_asNumber_4 ?_
    refine g_goto (tgt := 9) dX6_asNumber_5 (by decide) ?_
    exact g_iret dX6_asNumber_9 trivial (by first | exact aI_b2i1 h1 rfl | exact aI_b2i0 h1 rfl)

theorem x_hasHole {V σ : Mem} (hi : Inv0 V) (h : XS V σ) (k : Int) (hk : i32 k) : RetV 41 mX5_hasHole [aR 10, aI k] σ (aI (b2i (isH V k))) := by
  refine Ret.of [some (aR 10), some (aI k)] rfl (plainFor_of_name (by decide)) (Nat.le_of_ble_eq_true rfl) ?_
  have hN := hi.N2
  refine g_iload_n dX5_hasHole_0 rfl ?_
  refine g_iconst dX5_hasHole_1 ?_
  refine g_aload_n dX5_hasHole_2 rfl ?_
  refine g_getI (ji := 6) rfl dX5_hasHole_3 fX5_32 rfl rfl (by decide) ?_
  rw [h.N]
  refine g_iconst dX5_hasHole_6 ?_
  refine g_isub dX5_hasHole_7 ?_
  refine g_pS3 dX5_hasHole_8 sX5_42 (by decide) (Nat.le_of_ble_eq_true rfl) (x_lies _ _ _ (by omega) (by omega) (by omega)) ?_
  exact g_iret dX5_hasHole_11 (by first | exact Or.inl rfl | exact Or.inr rfl | exact b2i_ok) ⟨congrArg (fun x => some (aI x)) (b2i_iff (by omega)), rfl⟩

theorem x_isGone {V σ : Mem} (hi : Inv0 V) (h : XS V σ) (s : Int) (h0 : 0 ≤ s) (h1 : s < V 0 0) : RetV 41 mX5_isGone [aR 10, aI s] σ (aI (b2i (V 1 s = 4))) := by
  refine Ret.of [some (aR 10), some (aI s)] rfl (plainFor_of_name (by decide)) (Nat.le_of_ble_eq_true rfl) ?_
  have hN := hi.N2
  have hk := hi.kind s h0 h1
  refine g_aload_n dX5_isGone_0 rfl ?_
  refine g_getR dX5_isGone_1 fX5_9 rfl rfl (by decide) ?_
  refine g_iload_n dX5_isGone_4 rfl ?_
  refine g_iaload dX5_isGone_5 rfl (by decide) (by omega) (by omega) (by decide) ?_
  rw [h.kind _ (by omega) (by omega)]
  refine g_iconst dX5_isGone_6 ?_
  refine g_icmp_ne (tgt := 14) dX5_isGone_7 (by decide) (by omega) (by omega) (fun h7 => ?_) (fun h7 => ?_)
  · refine g_iconst dX5_isGone_14 ?_
    exact g_iret dX5_isGone_15 (by first | exact Or.inl rfl | exact Or.inr rfl | exact b2i_ok) (by first | exact aI_b2i1 (by omega) rfl | exact aI_b2i0 (by omega) rfl)
  · refine g_iconst dX5_isGone_10 ?_
    refine g_goto (tgt := 15) dX5_isGone_11 (by decide) ?_
    exact g_iret dX5_isGone_15 (by first | exact Or.inl rfl | exact Or.inr rfl | exact b2i_ok) (by first | exact aI_b2i1 (by omega) rfl | exact aI_b2i0 (by omega) rfl)

theorem x_leanOf {V σ : Mem} (hi : Inv0 V) (h : XS V σ) (s : Int) (h0 : 0 ≤ s) (h1 : s < V 0 0) : RetV 41 mX5_leanOf [aR 10, aI s] σ (aI (leanK (V 1 s))) := by
  refine Ret.of [some (aR 10), some (aI s)] rfl (plainFor_of_name (by decide)) (Nat.le_of_ble_eq_true rfl) ?_
  have hN := hi.N2
  have hk := hi.kind s h0 h1
  have hr := h.ro
  refine g_getstatic dX5_leanOf_0 zX5_46 ?_
  refine g_aload_n dX5_leanOf_3 rfl ?_
  refine g_getR dX5_leanOf_4 fX5_9 rfl rfl (by decide) ?_
  refine g_iload_n dX5_leanOf_7 rfl ?_
  refine g_iaload dX5_leanOf_8 rfl (by decide) (by omega) (by omega) (by decide) ?_
  rw [h.kind _ (by omega) (by omega)]
  refine g_roload dX5_leanOf_9 (by decide) (by decide) (by omega) (by rw [hr.2.2.1]; omega) ?_
  rw [(hr.1 _ (by omega) (by omega)).1]
  exact g_iret dX5_leanOf_10 trivial ⟨rfl, rfl⟩

theorem x_forceOf {V σ : Mem} (hi : Inv0 V) (h : XS V σ) (s : Int) (h0 : 0 ≤ s) (h1 : s < V 0 0) : RetV 41 mX5_forceOf [aR 10, aI s] σ (aI (forceK (V 1 s))) := by
  refine Ret.of [some (aR 10), some (aI s)] rfl (plainFor_of_name (by decide)) (Nat.le_of_ble_eq_true rfl) ?_
  have hN := hi.N2
  have hk := hi.kind s h0 h1
  have hr := h.ro
  refine g_getstatic dX5_forceOf_0 zX5_49 ?_
  refine g_aload_n dX5_forceOf_3 rfl ?_
  refine g_getR dX5_forceOf_4 fX5_9 rfl rfl (by decide) ?_
  refine g_iload_n dX5_forceOf_7 rfl ?_
  refine g_iaload dX5_forceOf_8 rfl (by decide) (by omega) (by omega) (by decide) ?_
  rw [h.kind _ (by omega) (by omega)]
  refine g_roload dX5_forceOf_9 (by decide) (by decide) (by omega) (by rw [hr.2.2.2.1]; omega) ?_
  rw [(hr.1 _ (by omega) (by omega)).2.1]
  exact g_iret dX5_forceOf_10 trivial ⟨rfl, rfl⟩

theorem x_steps {V σ : Mem} (hi : Inv0 V) (h : XS V σ) (i : Int) (j : Int) (h0 : 0 ≤ i) (h1 : i < V 0 0) (h2 : 0 ≤ j) (h3 : j < V 0 0) : RetV 41 mX5_steps [aR 10, aI i, aI j] σ (aI (stp (V 0 0) i j)) := by
  refine Ret.of [some (aR 10), some (aI i), some (aI j)] rfl (plainFor_of_name (by decide)) (Nat.le_of_ble_eq_true rfl) ?_
  have hN := hi.N2
  have hm := modNb (j - i) hi.N
  refine g_aload_n dX5_steps_0 rfl ?_
  refine g_getR dX5_steps_1 fX5_29 rfl rfl (by decide) ?_
  refine g_iload_n dX5_steps_4 rfl ?_
  refine g_iload_n dX5_steps_5 rfl ?_
  refine g_isub dX5_steps_6 ?_
  refine g_aload_n dX5_steps_7 rfl ?_
  refine g_getI (ji := 6) rfl dX5_steps_8 fX5_32 rfl rfl (by decide) ?_
  rw [h.N]
  refine g_iconst dX5_steps_11 ?_
  refine g_isub dX5_steps_12 ?_
  refine g_iandN hi.N dX5_steps_13 ?_
  refine g_lwload dX5_steps_14 rfl hm.1 (by omega) (by decide) ?_
  rw [h.lw _ hm.1 hm.2, lw_stp hi.N h0 h1 h2 h3]
  exact g_iret dX5_steps_15 trivial ⟨rfl, rfl⟩

theorem x_bentAt {b : Int} {V σ : Mem} (hi : Inv b V) (h : RX V σ) (r : Nat) (hr : r < 2) (p : Int) (p0 : 0 ≤ p) (p1 : p < V 0 0) : RetV 41 mX5_bentAt [aR 10, aI r, aI p] σ (aI (rdg V r p)) := by
  refine Ret.of [some (aR 10), some (aI r), some (aI p)] rfl (plainFor_of_name (by decide)) (Nat.le_of_ble_eq_true rfl) ?_
  have hN := hi.N2
  refine g_aload_n dX5_bentAt_0 rfl ?_
  refine g_getR dX5_bentAt_1 fX5_23 rfl rfl (by decide) ?_
  refine g_iload_n dX5_bentAt_4 rfl ?_
  refine g_aaload dX5_bentAt_5 rfl (by decide) (by omega) (by omega) (by decide) (row_17 r (by omega)) ?_
  refine g_iload_n dX5_bentAt_6 rfl ?_
  refine g_iaload dX5_bentAt_7 (shr_17 r (by omega)) (by omega) (by omega) (by omega) (by decide) ?_
  refine g_aload_n dX5_bentAt_8 rfl ?_
  refine g_getR dX5_bentAt_9 fX5_26 rfl rfl (by decide) ?_
  refine g_iload_n dX5_bentAt_12 rfl ?_
  refine g_aaload dX5_bentAt_13 rfl (by decide) (by omega) (by omega) (by decide) (row_20 r (by omega)) ?_
  refine g_iload_n dX5_bentAt_14 rfl ?_
  refine g_iaload dX5_bentAt_15 (shr_20 r (by omega)) (by omega) (by omega) (by omega) (by decide) ?_
  refine g_iadd dX5_bentAt_16 ?_
  exact g_iret dX5_bentAt_17 trivial ⟨by rw [h.str r hr p p0 p1, h.made r hr p p0 p1]; rfl, rfl⟩

theorem x_isMissing {b : Int} {V σ : Mem} (hi : Inv b V) (h : RX V σ) (t : Nat) (ht : t < 6) : RetV 41 mX3_isMissing [aR 1, aI t] σ (aI (b2i (V 7 t < 0))) := by
  have hz := hi.size t ht
  refine Ret.of [some (aR 1), some (aI t)] rfl (plainFor_of_name (by decide)) (Nat.le_of_ble_eq_true rfl) ?_
  refine g_aload_n dX3_isMissing_0 rfl ?_
  refine g_getR dX3_isMissing_1 fX3_16 rfl rfl (by decide) ?_
  refine g_iload_n dX3_isMissing_4 rfl ?_
  refine g_iaload dX3_isMissing_5 rfl (by decide) (by omega) (by omega) (by decide) ?_
  rw [h.size t ht]
  refine g_iconst dX3_isMissing_6 ?_
  refine g_icmp_ne (tgt := 14) dX3_isMissing_7 (by decide) (by omega) (by omega) (fun h7 => ?_) (fun h7 => ?_)
  · refine g_iconst dX3_isMissing_14 ?_
    exact g_iret dX3_isMissing_15 (by first | exact Or.inl rfl | exact Or.inr rfl | exact b2i_ok) (by first | exact aI_b2i1 (by omega) rfl | exact aI_b2i0 (by omega) rfl)
  · refine g_iconst dX3_isMissing_10 ?_
    refine g_goto (tgt := 15) dX3_isMissing_11 (by decide) ?_
    exact g_iret dX3_isMissing_15 (by first | exact Or.inl rfl | exact Or.inr rfl | exact b2i_ok) (by first | exact aI_b2i1 (by omega) rfl | exact aI_b2i0 (by omega) rfl)

theorem x_isFull {b : Int} {V σ : Mem} (hi : Inv b V) (h : RX V σ)   : RetV 41 mX4_isFull [aR 26] σ (aI (b2i (V 17 0 = 60))) := by
  refine Ret.of [some (aR 26)] rfl (plainFor_of_name (by decide)) (Nat.le_of_ble_eq_true rfl) ?_
  have hm := hi.many
  refine g_aload_n dX4_isFull_0 rfl ?_
  refine g_getI (ji := 2) rfl dX4_isFull_1 fX4_18 rfl rfl (by decide) ?_
  rw [h.many]
  refine g_bipush (v := 60) dX4_isFull_4 (by decide) ?_
  refine g_icmp_lt (tgt := 13) dX4_isFull_6 (by decide) (by omega) (by omega) (fun h6 => ?_) (fun h6 => ?_)
  · refine g_iconst dX4_isFull_13 ?_
    exact g_iret dX4_isFull_14 (by first | exact Or.inl rfl | exact Or.inr rfl | exact b2i_ok) (by first | exact aI_b2i1 (by omega) rfl | exact aI_b2i0 (by omega) rfl)
  · refine g_iconst dX4_isFull_9 ?_
    refine g_goto (tgt := 14) dX4_isFull_10 (by decide) ?_
    exact g_iret dX4_isFull_14 (by first | exact Or.inl rfl | exact Or.inr rfl | exact b2i_ok) (by first | exact aI_b2i1 (by omega) rfl | exact aI_b2i0 (by omega) rfl)
