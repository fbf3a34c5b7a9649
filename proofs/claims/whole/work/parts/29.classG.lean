theorem x_gLoose {b b2 : Int} {V σ : Mem} {s n : Int} (hi : Inv b V) (hW : Inv b2 (mkV V s n)) (h : RX V σ) (hg : GA V σ s n) (hr : GR V σ) (s0 : 0 ≤ s) (s1 : s < V 0 0) (hn : -100 ≤ n ∧ n ≤ 100) (j : Int) (j0 : 0 ≤ j) (j1 : j < V 0 0) : RetV 41 mX0_isLoose [aR 23, aI j] σ (aI (b2i (mkV V s n 2 j < 0))) := by
  refine Ret.of [some (aR 23), some (aI j)] rfl (plainFor_of_name (by decide)) (Nat.le_of_ble_eq_true rfl) ?_
  have hN := hi.N2
  have eN := mk_N V s n
  have e14 := mk_14 V s n
  have hbb := hW.b
  have hp := hW.pull j j0 (by omega)
  refine g_aload_n dX0_isLoose_0 rfl ?_
  refine g_iload_n dX0_isLoose_1 rfl ?_
  refine g_pV1 dX0_isLoose_2 qX0_84 rfl (by decide) (by decide) (Nat.le_of_ble_eq_true rfl) (x_pullOf hi hW h hg hr s0 s1 hn j j0 j1) ?_
  refine g_if_ge (tgt := 12) dX0_isLoose_5 (by decide) (by omega) (fun h5 => ?_) (fun h5 => ?_)
  · refine g_iconst dX0_isLoose_12 ?_
    exact g_iret dX0_isLoose_13 (by first | exact Or.inl rfl | exact Or.inr rfl | exact b2i_ok) (by first | exact aI_b2i1 (by omega) rfl | exact aI_b2i0 (by omega) rfl)
  · refine g_iconst dX0_isLoose_8 ?_
    refine g_goto (tgt := 13) dX0_isLoose_9 (by decide) ?_
    exact g_iret dX0_isLoose_13 (by first | exact Or.inl rfl | exact Or.inr rfl | exact b2i_ok) (by first | exact aI_b2i1 (by omega) rfl | exact aI_b2i0 (by omega) rfl)

theorem x_bears {b b2 : Int} {V σ : Mem} {s n : Int} (hi : Inv b V) (hW : Inv b2 (mkV V s n)) (h : RX V σ) (hg : GA V σ s n) (hr : GR V σ) (s0 : 0 ≤ s) (s1 : s < V 0 0) (hn : -100 ≤ n ∧ n ≤ 100) (j : Int) (j0 : 0 ≤ j) (j1 : j < V 0 0) : RetV 41 mX0_bearsTooMuch [aR 23, aI j] σ (aI (b2i (mkV V s n 14 4 < mkV V s n 2 j))) := by
  refine Ret.of [some (aR 23), some (aI j)] rfl (plainFor_of_name (by decide)) (Nat.le_of_ble_eq_true rfl) ?_
  have hN := hi.N2
  have eN := mk_N V s n
  have e14 := mk_14 V s n
  have hbb := hW.b
  have hp := hW.pull j j0 (by omega)
  have hl := hi.lim 4 (by decide) (by decide)
  rw [e14]
  refine g_aload_n dX0_bearsTooMuch_0 rfl ?_
  refine g_iload_n dX0_bearsTooMuch_1 rfl ?_
  refine g_pV1 dX0_bearsTooMuch_2 qX0_84 rfl (by decide) (by decide) (Nat.le_of_ble_eq_true rfl) (x_pullOf hi hW h hg hr s0 s1 hn j j0 j1) ?_
  refine g_aload_n dX0_bearsTooMuch_5 rfl ?_
  refine g_getR dX0_bearsTooMuch_6 fX0_19 rfl rfl (by decide) ?_
  refine g_iconst dX0_bearsTooMuch_9 ?_
  refine g_iaload dX0_bearsTooMuch_10 rfl (by decide) (by omega) (by omega) (by decide) ?_
  rw [h.lim _ (by omega) (by omega)]
  refine g_icmp_le (tgt := 18) dX0_bearsTooMuch_11 (by decide) (by omega) (by omega) (fun h11 => ?_) (fun h11 => ?_)
  · refine g_iconst dX0_bearsTooMuch_18 ?_
    exact g_iret dX0_bearsTooMuch_19 (by first | exact Or.inl rfl | exact Or.inr rfl | exact b2i_ok) (by first | exact aI_b2i1 (by omega) rfl | exact aI_b2i0 (by omega) rfl)
  · refine g_iconst dX0_bearsTooMuch_14 ?_
    refine g_goto (tgt := 19) dX0_bearsTooMuch_15 (by decide) ?_
    exact g_iret dX0_bearsTooMuch_19 (by first | exact Or.inl rfl | exact Or.inr rfl | exact b2i_ok) (by first | exact aI_b2i1 (by omega) rfl | exact aI_b2i0 (by omega) rfl)

theorem x_offMid {b b2 : Int} {V σ : Mem} {s n : Int} (hi : Inv b V) (hW : Inv b2 (mkV V s n)) (h : RX V σ) (hg : GA V σ s n) (hr : GR V σ) (s0 : 0 ≤ s) (s1 : s < V 0 0) (hn : -100 ≤ n ∧ n ≤ 100)   : RetV 41 mX0_isOffMiddle [aR 23] σ (aI (b2i (mkV V s n 14 2 < ab (midV (mkV V s n))))) := by
  refine Ret.of [some (aR 23)] rfl (plainFor_of_name (by decide)) (Nat.le_of_ble_eq_true rfl) ?_
  have hN := hi.N2
  have eN := mk_N V s n
  have e14 := mk_14 V s n
  have hbb := hW.b
  have hm := midV_b hW
  have hl := hi.lim 2 (by decide) (by decide)
  rw [e14]
  unfold ab
  refine g_aload_n dX0_isOffMiddle_0 rfl ?_
  refine g_pV0 dX0_isOffMiddle_1 qX0_116 rfl (by decide) (by decide) (Nat.le_of_ble_eq_true rfl) (x_middle hi hW h hg hr s0 s1 hn) ?_
  refine g_pS1 dX0_isOffMiddle_4 sX0_120 (by decide) (Nat.le_of_ble_eq_true rfl) (c_absI (by omega)) ?_
  refine g_aload_n dX0_isOffMiddle_7 rfl ?_
  refine g_getR dX0_isOffMiddle_8 fX0_19 rfl rfl (by decide) ?_
  refine g_iconst dX0_isOffMiddle_11 ?_
  refine g_iaload dX0_isOffMiddle_12 rfl (by decide) (by omega) (by omega) (by decide) ?_
  rw [h.lim _ (by omega) (by omega)]
  refine g_icmp_le (tgt := 20) dX0_isOffMiddle_13 (by decide) (by omega) (by omega) (fun h13 => ?_) (fun h13 => ?_)
  · refine g_iconst dX0_isOffMiddle_20 ?_
    exact g_iret dX0_isOffMiddle_21 (by first | exact Or.inl rfl | exact Or.inr rfl | exact b2i_ok) (by first | exact aI_b2i1 (by omega) rfl | exact aI_b2i0 (by omega) rfl)
  · refine g_iconst dX0_isOffMiddle_16 ?_
    refine g_goto (tgt := 21) dX0_isOffMiddle_17 (by decide) ?_
    exact g_iret dX0_isOffMiddle_21 (by first | exact Or.inl rfl | exact Or.inr rfl | exact b2i_ok) (by first | exact aI_b2i1 (by omega) rfl | exact aI_b2i0 (by omega) rfl)

theorem x_gBent0 {b b2 : Int} {V σ : Mem} {s n : Int} (hi : Inv b V) (hW : Inv b2 (mkV V s n)) (h : RX V σ) (hg : GA V σ s n) (hr : GR V σ) (s0 : 0 ≤ s) (s1 : s < V 0 0) (hn : -100 ≤ n ∧ n ≤ 100) (p : Int) (p0 : 0 ≤ p) (p1 : p < V 0 0) : RetV 41 mX0_isBent [aR 23, aI 0, aI p] σ (aI (b2i (mkV V s n 14 0 < ab (rdg (mkV V s n) 0 p)))) := by
  have hN := hi.N2
  have eN := mk_N V s n
  have e14 := mk_14 V s n
  have hbb := hW.b
  have rb := rdg_b hW 0 (by decide) p p0 (by omega)
  have hl := hi.lim 0 (by decide) (by decide)
  rw [e14]
  unfold ab
  refine Ret.of [some (aR 23), some (aI 0), some (aI p)] rfl (plainFor_of_name (by decide)) (Nat.le_of_ble_eq_true rfl) ?_
  refine g_aload_n dX0_isBent_0 rfl ?_
  refine g_iload_n dX0_isBent_1 rfl ?_
  refine g_iload_n dX0_isBent_2 rfl ?_
  refine g_pV2 dX0_isBent_3 qX0_75 rfl (by decide) (by decide) (Nat.le_of_ble_eq_true rfl) (x_readingAt0 hi hW h hg hr s0 s1 hn p p0 p1) ?_
  refine g_pS1 dX0_isBent_6 sX0_120 (by decide) (Nat.le_of_ble_eq_true rfl) (c_absI (by omega)) ?_
  refine g_aload_n dX0_isBent_9 rfl ?_
  refine g_getR dX0_isBent_10 fX0_19 rfl rfl (by decide) ?_
  refine g_iload_n dX0_isBent_13 rfl ?_
  refine g_iaload dX0_isBent_14 rfl (by decide) (by omega) (by omega) (by decide) ?_
  rw [h.lim _ (by omega) (by omega)]
  refine g_icmp_le (tgt := 22) dX0_isBent_15 (by decide) (by omega) (by omega) (fun h15 => ?_) (fun h15 => ?_)
  · refine g_iconst dX0_isBent_22 ?_
    exact g_iret dX0_isBent_23 (by first | exact Or.inl rfl | exact Or.inr rfl | exact b2i_ok) (by first | exact aI_b2i1 (by omega) rfl | exact aI_b2i0 (by omega) rfl)
  · refine g_iconst dX0_isBent_18 ?_
    refine g_goto (tgt := 23) dX0_isBent_19 (by decide) ?_
    exact g_iret dX0_isBent_23 (by first | exact Or.inl rfl | exact Or.inr rfl | exact b2i_ok) (by first | exact aI_b2i1 (by omega) rfl | exact aI_b2i0 (by omega) rfl)

theorem x_gBent1 {b b2 : Int} {V σ : Mem} {s n : Int} (hi : Inv b V) (hW : Inv b2 (mkV V s n)) (h : RX V σ) (hg : GA V σ s n) (hr : GR V σ) (s0 : 0 ≤ s) (s1 : s < V 0 0) (hn : -100 ≤ n ∧ n ≤ 100) (p : Int) (p0 : 0 ≤ p) (p1 : p < V 0 0) : RetV 41 mX0_isBent [aR 23, aI 1, aI p] σ (aI (b2i (mkV V s n 14 1 < ab (rdg (mkV V s n) 1 p)))) := by
  have hN := hi.N2
  have eN := mk_N V s n
  have e14 := mk_14 V s n
  have hbb := hW.b
  have rb := rdg_b hW 1 (by decide) p p0 (by omega)
  have hl := hi.lim 1 (by decide) (by decide)
  rw [e14]
  unfold ab
  refine Ret.of [some (aR 23), some (aI 1), some (aI p)] rfl (plainFor_of_name (by decide)) (Nat.le_of_ble_eq_true rfl) ?_
  refine g_aload_n dX0_isBent_0 rfl ?_
  refine g_iload_n dX0_isBent_1 rfl ?_
  refine g_iload_n dX0_isBent_2 rfl ?_
  refine g_pV2 dX0_isBent_3 qX0_75 rfl (by decide) (by decide) (Nat.le_of_ble_eq_true rfl) (x_readingAt1 hi hW h hg hr s0 s1 hn p p0 p1) ?_
  refine g_pS1 dX0_isBent_6 sX0_120 (by decide) (Nat.le_of_ble_eq_true rfl) (c_absI (by omega)) ?_
  refine g_aload_n dX0_isBent_9 rfl ?_
  refine g_getR dX0_isBent_10 fX0_19 rfl rfl (by decide) ?_
  refine g_iload_n dX0_isBent_13 rfl ?_
  refine g_iaload dX0_isBent_14 rfl (by decide) (by omega) (by omega) (by decide) ?_
  rw [h.lim _ (by omega) (by omega)]
  refine g_icmp_le (tgt := 22) dX0_isBent_15 (by decide) (by omega) (by omega) (fun h15 => ?_) (fun h15 => ?_)
  · refine g_iconst dX0_isBent_22 ?_
    exact g_iret dX0_isBent_23 (by first | exact Or.inl rfl | exact Or.inr rfl | exact b2i_ok) (by first | exact aI_b2i1 (by omega) rfl | exact aI_b2i0 (by omega) rfl)
  · refine g_iconst dX0_isBent_18 ?_
    refine g_goto (tgt := 23) dX0_isBent_19 (by decide) ?_
    exact g_iret dX0_isBent_23 (by first | exact Or.inl rfl | exact Or.inr rfl | exact b2i_ok) (by first | exact aI_b2i1 (by omega) rfl | exact aI_b2i0 (by omega) rfl)

theorem x_howLoose_lp {b b2 : Int} {V σ : Mem} {s n : Int} (hi : Inv b V) (hW : Inv b2 (mkV V s n)) (h : RX V σ) (hg : GA V σ s n) (hr : GR V σ) (s0 : 0 ≤ s) (s1 : s < V 0 0) (hn : -100 ≤ n ∧ n ≤ 100) : ∀ (fu : Nat) (k a : Int), 0 ≤ k → k ≤ V 0 0 → V 0 0 - k < fu → a = cntN (fun j => decide (mkV V s n 2 j < 0)) k.toNat → Go 41 mX0_howManyLoose 4 [some (aR 23), some (aI a), some (aI k)] [] σ (fun o τ => o = some (aI (cntN (fun j => decide (mkV V s n 2 j < 0)) (V 0 0).toNat)) ∧ τ = σ) := by
  intro fu
  induction fu with
  | zero => intros; omega
  | succ fu ih =>
    intro k a k0 k1 kn ha
    have hN := hi.N2
    have hsu := cntN_succ (P := fun j => decide (mkV V s n 2 j < 0)) k0
    rw [← ha] at hsu
    refine g_iload_n dX0_howManyLoose_4 rfl ?_
    refine g_aload_n dX0_howManyLoose_5 rfl ?_
    refine g_getR dX0_howManyLoose_6 fX0_9 rfl rfl (by decide) ?_
    refine g_getI (ji := 6) rfl dX0_howManyLoose_9 fX0_34 rfl rfl (by decide) ?_
    rw [h.N]
    refine g_icmp_ge (tgt := 32) dX0_howManyLoose_12 (by decide) (by omega) (by omega) (fun h12 => ?_) (fun h12 => ?_)
    · refine g_iload_n dX0_howManyLoose_32 rfl ?_
      exact g_iret dX0_howManyLoose_33 trivial ⟨by rw [ha, show V 0 0 = k by omega], rfl⟩
    · have hkN : k < V 0 0 := h12
      refine g_aload_n dX0_howManyLoose_15 rfl ?_
      refine g_iload_n dX0_howManyLoose_16 rfl ?_
      refine g_pV1 dX0_howManyLoose_17 qX0_135 rfl (by decide) (by decide) (Nat.le_of_ble_eq_true rfl) (x_gLoose hi hW h hg hr s0 s1 hn k k0 hkN) ?_
      refine g_ifb_eq (tgt := 26) dX0_howManyLoose_20 (by decide) (fun h20 => ?_) (fun h20 => ?_)
      · refine g_iinc dX0_howManyLoose_26 rfl (by decide) ?_
        refine g_goto (tgt := 4) dX0_howManyLoose_29 (by decide) ?_
        exact ih (k + 1) _ (by omega) (by omega) (by omega) (by rw [hsu, if_neg (by simpa using h20)]; omega)
      · refine g_iinc dX0_howManyLoose_23 rfl (by decide) ?_
        refine g_iinc dX0_howManyLoose_26 rfl (by decide) ?_
        refine g_goto (tgt := 4) dX0_howManyLoose_29 (by decide) ?_
        exact ih (k + 1) _ (by omega) (by omega) (by omega) (by rw [hsu, if_pos (by simpa using h20)])

theorem x_howLoose {b b2 : Int} {V σ : Mem} {s n : Int} (hi : Inv b V) (hW : Inv b2 (mkV V s n)) (h : RX V σ) (hg : GA V σ s n) (hr : GR V σ) (s0 : 0 ≤ s) (s1 : s < V 0 0) (hn : -100 ≤ n ∧ n ≤ 100) : RetV 41 mX0_howManyLoose [aR 23] σ (aI (cntN (fun j => decide (mkV V s n 2 j < 0)) (V 0 0).toNat)) := by
  refine Ret.of [some (aR 23), none, none] rfl (plainFor_of_name (by decide)) (Nat.le_of_ble_eq_true rfl) ?_
  have hN := hi.N2
  refine g_iconst dX0_howManyLoose_0 ?_
  refine g_istore_n (i := 1) dX0_howManyLoose_1 rfl (by decide) ?_
  refine g_iconst dX0_howManyLoose_2 ?_
  refine g_istore_n (i := 2) dX0_howManyLoose_3 rfl (by decide) ?_
  exact x_howLoose_lp hi hW h hg hr s0 s1 hn 33 0 0 (by omega) (by omega) (by omega) rfl

theorem over_eq {V : Mem} {p : Int} (p0 : 0 ≤ p) (p1 : p < V 0 0) (hp : V 14 4 < V 2 p) (h : ∀ q, 0 ≤ q → q < p → V 2 q ≤ V 14 4) : overAt V = p := firstI_eq (by decide) p0 (by omega) (by simpa using hp) (fun q q0 q1 => by have := h q q0 q1; simp; omega)

theorem x_overload_lp {b b2 : Int} {V σ : Mem} {s n : Int} (hi : Inv b V) (hW : Inv b2 (mkV V s n)) (h : RX V σ) (hg : GA V σ s n) (hr : GR V σ) (s0 : 0 ≤ s) (s1 : s < V 0 0) (hn : -100 ≤ n ∧ n ≤ 100) : ∀ (fu : Nat) (k : Int), 0 ≤ k → k ≤ V 0 0 → V 0 0 - k < fu → (∀ q, 0 ≤ q → q < k → mkV V s n 2 q ≤ mkV V s n 14 4) → Go 41 mX0_firstOverload 2 [some (aR 23), some (aI k)] [] σ (fun o τ => o = some (aI (if overAt (mkV V s n) = -1 then cNone else 500 + overAt (mkV V s n))) ∧ τ = σ) := by
  intro fu
  induction fu with
  | zero => intros; omega
  | succ fu ih =>
    intro k k0 k1 kn hf
    have hN := hi.N2
    have eN := mk_N V s n
    refine g_iload_n dX0_firstOverload_2 rfl ?_
    refine g_aload_n dX0_firstOverload_3 rfl ?_
    refine g_getR dX0_firstOverload_4 fX0_9 rfl rfl (by decide) ?_
    refine g_getI (ji := 6) rfl dX0_firstOverload_7 fX0_34 rfl rfl (by decide) ?_
    rw [h.N]
    refine g_icmp_ge (tgt := 33) dX0_firstOverload_10 (by decide) (by omega) (by omega) (fun h10 => ?_) (fun h10 => ?_)
    · refine g_ldc dX0_firstOverload_33 kX0_146 ?_
      exact g_iret dX0_firstOverload_35 trivial ⟨by rw [over_no (by omega) (fun q q0 q1 => hf q q0 (by omega)), if_pos rfl]; rfl, rfl⟩
    · have hkN : k < V 0 0 := h10
      refine g_aload_n dX0_firstOverload_13 rfl ?_
      refine g_iload_n dX0_firstOverload_14 rfl ?_
      refine g_pV1 dX0_firstOverload_15 qX0_147 rfl (by decide) (by decide) (Nat.le_of_ble_eq_true rfl) (x_bears hi hW h hg hr s0 s1 hn k k0 hkN) ?_
      refine g_ifb_eq (tgt := 27) dX0_firstOverload_18 (by decide) (fun h18 => ?_) (fun h18 => ?_)
      · refine g_iinc dX0_firstOverload_27 rfl (by decide) ?_
        refine g_goto (tgt := 2) dX0_firstOverload_30 (by decide) ?_
        exact ih (k + 1) (by omega) (by omega) (by omega) (fun q q0 q1 => by
          by_cases hq : q = k
          · rw [hq]; omega
          · exact hf q q0 (by omega))
      · refine g_sipush (v := 500) dX0_firstOverload_21 (by decide) ?_
        refine g_iload_n dX0_firstOverload_24 rfl ?_
        refine g_iadd dX0_firstOverload_25 ?_
        exact g_iret dX0_firstOverload_26 trivial ⟨by rw [over_eq k0 (by omega) h18 hf, if_neg (by omega)], rfl⟩

theorem x_overload {b b2 : Int} {V σ : Mem} {s n : Int} (hi : Inv b V) (hW : Inv b2 (mkV V s n)) (h : RX V σ) (hg : GA V σ s n) (hr : GR V σ) (s0 : 0 ≤ s) (s1 : s < V 0 0) (hn : -100 ≤ n ∧ n ≤ 100) : RetV 41 mX0_firstOverload [aR 23] σ (aI (if overAt (mkV V s n) = -1 then cNone else 500 + overAt (mkV V s n))) := by
  refine Ret.of [some (aR 23), none] rfl (plainFor_of_name (by decide)) (Nat.le_of_ble_eq_true rfl) ?_
  have hN := hi.N2
  refine g_iconst dX0_firstOverload_0 ?_
  refine g_istore_n (i := 1) dX0_firstOverload_1 rfl (by decide) ?_
  exact x_overload_lp hi hW h hg hr s0 s1 hn 33 0 (by omega) (by omega) (by omega) (fun q q0 q1 => by omega)

theorem over_b (V : Mem) (hN : 0 ≤ V 0 0) : -1 ≤ overAt V ∧ overAt V < V 0 0 ∨ overAt V = -1 := by
  unfold overAt
  rcases firstI_cases (fun j => decide (V 14 4 < V 2 j)) (V 0 0).toNat 0 (by decide) with h | h
  · exact Or.inr h.1
  · exact Or.inl (by omega)

theorem x_refused {b b2 : Int} {V σ : Mem} {s n : Int} (hi : Inv b V) (hW : Inv b2 (mkV V s n)) (h : RX V σ) (hg : GA V σ s n) (hr : GR V σ) (s0 : 0 ≤ s) (s1 : s < V 0 0) (hn : -100 ≤ n ∧ n ≤ 100)   : RetV 41 mX0_isRefused [aR 23] σ (aI (b2i (okV V s n = false))) := by
  refine Ret.of [some (aR 23)] rfl (plainFor_of_name (by decide)) (Nat.le_of_ble_eq_true rfl) ?_
  have hN := hi.N2
  have eN := mk_N V s n
  have e14 := mk_14 V s n
  have hbb := hW.b
  have hob := over_b (mkV V s n) (by omega)
  have ho32 : i32 (if overAt (mkV V s n) = -1 then cNone else 500 + overAt (mkV V s n)) := by unfold cNone; omega
  refine g_aload_n dX0_isRefused_0 rfl ?_
  refine g_getR dX0_isRefused_1 fX0_9 rfl rfl (by decide) ?_
  refine g_aload_n dX0_isRefused_4 rfl ?_
  refine g_getI (ji := 3) rfl dX0_isRefused_5 fX0_53 rfl rfl (by decide) ?_
  rw [hg.1]
  refine g_pV1 dX0_isRefused_8 qX0_90 rfl (by decide) (by decide) (Nat.le_of_ble_eq_true rfl) (x_isGone hi.i0 h.r0 s s0 s1) ?_
  refine g_ifb_ne (tgt := 23) dX0_isRefused_11 (by decide) (fun h11 => ?_) (fun h11 => ?_)
  · refine g_iconst dX0_isRefused_23 ?_
    refine g_goto (tgt := 28) dX0_isRefused_24 (by decide) ?_
    exact g_iret dX0_isRefused_28 (by first | exact Or.inl rfl | exact Or.inr rfl | exact b2i_ok) (by first
        | exact aI_b2i1 (okV_gone h11) rfl
        | exact aI_b2i0 (by rw [okV_yes h11 (by rcases (show overAt (mkV V s n) = -1 ∨ overAt (mkV V s n) ≠ -1 by omega) with q | q; exact q; rw [if_neg q] at h20; omega)]; decide) rfl
        | exact aI_b2i1 (okV_over (fun q => h20 (by rw [if_pos q]; rfl))) rfl)
  · refine g_aload_n dX0_isRefused_14 rfl ?_
    refine g_pV0 dX0_isRefused_15 qX0_150 rfl (by decide) (by decide) (Nat.le_of_ble_eq_true rfl) (x_overload hi hW h hg hr s0 s1 hn) ?_
    refine g_ldc dX0_isRefused_18 kX0_146 ?_
    refine g_icmp_eq (tgt := 27) dX0_isRefused_20 (by decide) (by first | assumption | omega) (by first | assumption | omega) (fun h20 => ?_) (fun h20 => ?_)
    · refine g_iconst dX0_isRefused_27 ?_
      exact g_iret dX0_isRefused_28 (by first | exact Or.inl rfl | exact Or.inr rfl | exact b2i_ok) (by first
          | exact aI_b2i1 (okV_gone h11) rfl
          | exact aI_b2i0 (by rw [okV_yes h11 (by rcases (show overAt (mkV V s n) = -1 ∨ overAt (mkV V s n) ≠ -1 by omega) with q | q; exact q; rw [if_neg q] at h20; omega)]; decide) rfl
          | exact aI_b2i1 (okV_over (fun q => h20 (by rw [if_pos q]; rfl))) rfl)
    · refine g_iconst dX0_isRefused_23 ?_
      refine g_goto (tgt := 28) dX0_isRefused_24 (by decide) ?_
      exact g_iret dX0_isRefused_28 (by first | exact Or.inl rfl | exact Or.inr rfl | exact b2i_ok) (by first
          | exact aI_b2i1 (okV_gone h11) rfl
          | exact aI_b2i0 (by rw [okV_yes h11 (by rcases (show overAt (mkV V s n) = -1 ∨ overAt (mkV V s n) ≠ -1 by omega) with q | q; exact q; rw [if_neg q] at h20; omega)]; decide) rfl
          | exact aI_b2i1 (okV_over (fun q => h20 (by rw [if_pos q]; rfl))) rfl)

theorem x_fault_in0 {b b2 : Int} {V σ : Mem} {s n : Int} (hi : Inv b V) (hW : Inv b2 (mkV V s n)) (h : RX V σ) (hg : GA V σ s n) (hr : GR V σ) (s0 : 0 ≤ s) (s1 : s < V 0 0) (hn : -100 ≤ n ∧ n ≤ 100) {Q : Option AV → Mem → Prop} (hQ : ∀ p, bentAt (mkV V s n) 0 = p → 0 ≤ p → Q (some (aI (100 * 0 + p))) σ) (hE : bentAt (mkV V s n) 0 = -1 → Go 41 mX0_firstFault 42 [some (aR 23), some (aI 0), some (aI (V 0 0))] [] σ Q) : ∀ (fu : Nat) (k : Int), 0 ≤ k → k ≤ V 0 0 → V 0 0 - k < fu → (∀ q, 0 ≤ q → q < k → ab (rdg (mkV V s n) 0 q) ≤ mkV V s n 14 0) → Go 41 mX0_firstFault 9 [some (aR 23), some (aI 0), some (aI k)] [] σ Q := by
  intro fu
  induction fu with
  | zero => intros; omega
  | succ fu ih =>
    intro k k0 k1 kn hf
    have hN := hi.N2
    have eN := mk_N V s n
    refine g_iload_n dX0_firstFault_9 rfl ?_
    refine g_aload_n dX0_firstFault_10 rfl ?_
    refine g_getR dX0_firstFault_11 fX0_9 rfl rfl (by decide) ?_
    refine g_getI (ji := 6) rfl dX0_firstFault_14 fX0_34 rfl rfl (by decide) ?_
    rw [h.N]
    refine g_icmp_ge (tgt := 42) dX0_firstFault_17 (by decide) (by omega) (by omega) (fun h17 => ?_) (fun h17 => ?_)
    · have hk : k = V 0 0 := by omega
      rw [hk]
      exact hE (bent_no (by omega) (by rw [eN, ← hk]; exact hf))
    · have hkN : k < V 0 0 := h17
      refine g_aload_n dX0_firstFault_20 rfl ?_
      refine g_iload_n dX0_firstFault_21 rfl ?_
      refine g_iload_n dX0_firstFault_22 rfl ?_
      refine g_pV2 dX0_firstFault_23 qX0_138 rfl (by decide) (by decide) (Nat.le_of_ble_eq_true rfl) (x_gBent0 hi hW h hg hr s0 s1 hn k k0 hkN) ?_
      refine g_ifb_eq (tgt := 36) dX0_firstFault_26 (by decide) (fun h26 => ?_) (fun h26 => ?_)
      · refine g_iinc dX0_firstFault_36 rfl (by decide) ?_
        refine g_goto (tgt := 9) dX0_firstFault_39 (by decide) ?_
        exact ih (k + 1) (by omega) (by omega) (by omega) (fun q q0 q1 => by
          by_cases hq : q = k
          · rw [hq]; exact Int.not_lt.mp h26
          · exact hf q q0 (by omega))
      · refine g_bipush (v := 100) dX0_firstFault_29 (by decide) ?_
        refine g_iload_n dX0_firstFault_31 rfl ?_
        refine g_imul dX0_firstFault_32 ?_
        refine g_iload_n dX0_firstFault_33 rfl ?_
        refine g_iadd dX0_firstFault_34 ?_
        exact g_iret dX0_firstFault_35 trivial (hQ k (bent_at k0 (by omega) h26 hf) k0)

theorem x_fault_in1 {b b2 : Int} {V σ : Mem} {s n : Int} (hi : Inv b V) (hW : Inv b2 (mkV V s n)) (h : RX V σ) (hg : GA V σ s n) (hr : GR V σ) (s0 : 0 ≤ s) (s1 : s < V 0 0) (hn : -100 ≤ n ∧ n ≤ 100) {Q : Option AV → Mem → Prop} (hQ : ∀ p, bentAt (mkV V s n) 1 = p → 0 ≤ p → Q (some (aI (100 * 1 + p))) σ) (hE : bentAt (mkV V s n) 1 = -1 → Go 41 mX0_firstFault 42 [some (aR 23), some (aI 1), some (aI (V 0 0))] [] σ Q) : ∀ (fu : Nat) (k : Int), 0 ≤ k → k ≤ V 0 0 → V 0 0 - k < fu → (∀ q, 0 ≤ q → q < k → ab (rdg (mkV V s n) 1 q) ≤ mkV V s n 14 1) → Go 41 mX0_firstFault 9 [some (aR 23), some (aI 1), some (aI k)] [] σ Q := by
  intro fu
  induction fu with
  | zero => intros; omega
  | succ fu ih =>
    intro k k0 k1 kn hf
    have hN := hi.N2
    have eN := mk_N V s n
    refine g_iload_n dX0_firstFault_9 rfl ?_
    refine g_aload_n dX0_firstFault_10 rfl ?_
    refine g_getR dX0_firstFault_11 fX0_9 rfl rfl (by decide) ?_
    refine g_getI (ji := 6) rfl dX0_firstFault_14 fX0_34 rfl rfl (by decide) ?_
    rw [h.N]
    refine g_icmp_ge (tgt := 42) dX0_firstFault_17 (by decide) (by omega) (by omega) (fun h17 => ?_) (fun h17 => ?_)
    · have hk : k = V 0 0 := by omega
      rw [hk]
      exact hE (bent_no (by omega) (by rw [eN, ← hk]; exact hf))
    · have hkN : k < V 0 0 := h17
      refine g_aload_n dX0_firstFault_20 rfl ?_
      refine g_iload_n dX0_firstFault_21 rfl ?_
      refine g_iload_n dX0_firstFault_22 rfl ?_
      refine g_pV2 dX0_firstFault_23 qX0_138 rfl (by decide) (by decide) (Nat.le_of_ble_eq_true rfl) (x_gBent1 hi hW h hg hr s0 s1 hn k k0 hkN) ?_
      refine g_ifb_eq (tgt := 36) dX0_firstFault_26 (by decide) (fun h26 => ?_) (fun h26 => ?_)
      · refine g_iinc dX0_firstFault_36 rfl (by decide) ?_
        refine g_goto (tgt := 9) dX0_firstFault_39 (by decide) ?_
        exact ih (k + 1) (by omega) (by omega) (by omega) (fun q q0 q1 => by
          by_cases hq : q = k
          · rw [hq]; exact Int.not_lt.mp h26
          · exact hf q q0 (by omega))
      · refine g_bipush (v := 100) dX0_firstFault_29 (by decide) ?_
        refine g_iload_n dX0_firstFault_31 rfl ?_
        refine g_imul dX0_firstFault_32 ?_
        refine g_iload_n dX0_firstFault_33 rfl ?_
        refine g_iadd dX0_firstFault_34 ?_
        exact g_iret dX0_firstFault_35 trivial (hQ k (bent_at k0 (by omega) h26 hf) k0)

theorem x_fault_lo {b b2 : Int} {V σ : Mem} {s n : Int} (hi : Inv b V) (hW : Inv b2 (mkV V s n)) (h : RX V σ) (hg : GA V σ s n) (hr : GR V σ) (s0 : 0 ≤ s) (s1 : s < V 0 0) (hn : -100 ≤ n ∧ n ≤ 100) (h0 : bentAt (mkV V s n) 0 = -1) (h1 : bentAt (mkV V s n) 1 = -1) (h2 : ¬ mkV V s n 14 2 < ab (midV (mkV V s n))) (h3 : ¬ mkV V s n 14 3 < sprV (mkV V s n) 1) (h4 : ¬ mkV V s n 14 3 < sprV (mkV V s n) (-1)) {Q : Option AV → Mem → Prop} (hQ : ∀ f, f = fltV (mkV V s n) → (f = cNone ∨ 400 ≤ f) → Q (some (aI f)) σ) : ∀ (fu : Nat) (k : Int), 0 ≤ k → k ≤ V 0 0 → V 0 0 - k < fu → (∀ q, 0 ≤ q → q < k → 0 ≤ mkV V s n 2 q) → Go 41 mX0_firstFault 97 [some (aR 23), some (aI k), some (aI (V 0 0))] [] σ Q := by
  intro fu
  induction fu with
  | zero => intros; omega
  | succ fu ih =>
    intro k k0 k1 kn hf
    have hN := hi.N2
    have eN := mk_N V s n
    refine g_iload_n dX0_firstFault_97 rfl ?_
    refine g_aload_n dX0_firstFault_98 rfl ?_
    refine g_getR dX0_firstFault_99 fX0_9 rfl rfl (by decide) ?_
    refine g_getI (ji := 6) rfl dX0_firstFault_102 fX0_34 rfl rfl (by decide) ?_
    rw [h.N]
    refine g_icmp_ge (tgt := 128) dX0_firstFault_105 (by decide) (by omega) (by omega) (fun h105 => ?_) (fun h105 => ?_)
    · refine g_ldc dX0_firstFault_128 kX0_146 ?_
      exact g_iret dX0_firstFault_130 trivial (hQ _ (by unfold fltV; rw [h0, h1, if_neg (by decide), if_neg (by decide), if_neg h2, if_neg h3, if_neg h4, loose_no (by omega) (fun q q0 q1 => hf q q0 (by omega)), if_neg (by decide)]; rfl) (Or.inl rfl))
    · have hkN : k < V 0 0 := h105
      refine g_aload_n dX0_firstFault_108 rfl ?_
      refine g_iload_n dX0_firstFault_109 rfl ?_
      refine g_pV1 dX0_firstFault_110 qX0_135 rfl (by decide) (by decide) (Nat.le_of_ble_eq_true rfl) (x_gLoose hi hW h hg hr s0 s1 hn k k0 hkN) ?_
      refine g_ifb_eq (tgt := 122) dX0_firstFault_113 (by decide) (fun h113 => ?_) (fun h113 => ?_)
      · refine g_iinc dX0_firstFault_122 rfl (by decide) ?_
        refine g_goto (tgt := 97) dX0_firstFault_125 (by decide) ?_
        exact ih (k + 1) (by omega) (by omega) (by omega) (fun q q0 q1 => by
          by_cases hq : q = k
          · rw [hq]; omega
          · exact hf q q0 (by omega))
      · refine g_sipush (v := 400) dX0_firstFault_116 (by decide) ?_
        refine g_iload_n dX0_firstFault_119 rfl ?_
        refine g_iadd dX0_firstFault_120 ?_
        exact g_iret dX0_firstFault_121 trivial (hQ _ (by unfold fltV; rw [h0, h1, if_neg (by decide), if_neg (by decide), if_neg h2, if_neg h3, if_neg h4, loose_at k0 (by omega) h113 hf, if_pos k0]) (Or.inr (by omega)))

theorem x_fault_re {b b2 : Int} {V σ : Mem} {s n : Int} (hi : Inv b V) (hW : Inv b2 (mkV V s n)) (h : RX V σ) (hg : GA V σ s n) (hr : GR V σ) (s0 : 0 ≤ s) (s1 : s < V 0 0) (hn : -100 ≤ n ∧ n ≤ 100) (h0 : bentAt (mkV V s n) 0 = -1) (h1 : bentAt (mkV V s n) 1 = -1) : Go 41 mX0_firstFault 48 [some (aR 23), some (aI 2), some (aI (V 0 0))] [] σ (fun o τ => o = some (aI (fltV (mkV V s n))) ∧ (sp σ τ ∧ (fltV (mkV V s n) = 300 → okS V τ 1) ∧ (fltV (mkV V s n) = 301 → okS V τ (-1)))) := by
  have hN := hi.N2
  have e14 := mk_14 V s n
  have hl := hi.lim 3 (by decide) (by decide)
  have m2 := sprV_b hW 1
  have m3 := sprV_b hW (-1)
  have hbb := hW.b
  refine g_aload_n dX0_firstFault_48 rfl ?_
  refine g_pV0 dX0_firstFault_49 qX0_142 rfl (by decide) (by decide) (Nat.le_of_ble_eq_true rfl) (x_offMid hi hW h hg hr s0 s1 hn) ?_
  refine g_ifb_eq (tgt := 59) dX0_firstFault_52 (by decide) (fun h52 => ?_) (fun h52 => ?_)
  · refine g_aload_n dX0_firstFault_59 rfl ?_
    refine g_iconst dX0_firstFault_60 ?_
    refine g_eV1 dX0_firstFault_61 qX0_123 rfl (by decide) (by decide) (Nat.le_of_ble_eq_true rfl) (x_spreadOf hi hW h hg hr s0 s1 hn 1 (by omega)) ?_
    intro τ1 hq1
    obtain ⟨hs1, ho1⟩ := hq1
    have hX1 := h.kept hs1
    have hg1 := hg.kept hs1
    have hr1 := hr.kept hs1
    refine g_aload_n dX0_firstFault_64 rfl ?_
    refine g_getR dX0_firstFault_65 fX0_19 rfl rfl (by decide) ?_
    refine g_iconst dX0_firstFault_68 ?_
    refine g_iaload dX0_firstFault_69 rfl (by decide) (by omega) (by omega) (by decide) ?_
    rw [hX1.lim 3 (by decide) (by decide), ← e14]
    rw [← e14] at hl
    refine g_icmp_le (tgt := 77) dX0_firstFault_70 (by decide) (by omega) (by omega) (fun h70 => ?_) (fun h70 => ?_)
    · refine g_aload_n dX0_firstFault_77 rfl ?_
      refine g_iconst dX0_firstFault_78 ?_
      refine g_eV1 dX0_firstFault_79 qX0_123 rfl (by decide) (by decide) (Nat.le_of_ble_eq_true rfl) (x_spreadOf hi hW hX1 hg1 hr1 s0 s1 hn (-1) (by omega)) ?_
      intro τ2 hq2
      obtain ⟨hs2, ho2⟩ := hq2
      have hX2 := hX1.kept hs2
      have hg2 := hg1.kept hs2
      have hr2 := hr1.kept hs2
      refine g_aload_n dX0_firstFault_82 rfl ?_
      refine g_getR dX0_firstFault_83 fX0_19 rfl rfl (by decide) ?_
      refine g_iconst dX0_firstFault_86 ?_
      refine g_iaload dX0_firstFault_87 rfl (by decide) (by omega) (by omega) (by decide) ?_
      rw [hX2.lim 3 (by decide) (by decide), ← e14]
      refine g_icmp_le (tgt := 95) dX0_firstFault_88 (by decide) (by omega) (by omega) (fun h88 => ?_) (fun h88 => ?_)
      · refine g_iconst dX0_firstFault_95 ?_
        refine g_istore_n (i := 1) dX0_firstFault_96 rfl (by decide) ?_
        exact x_fault_lo hi hW hX2 hg2 hr2 s0 s1 hn h0 h1 h52 (Int.not_lt.mpr h70) (Int.not_lt.mpr h88) (fun f hf hz => ⟨by rw [hf], hs1.trans hs2, fun q => by rw [← hf] at q; unfold cNone at hz; omega, fun q => by rw [← hf] at q; unfold cNone at hz; omega⟩) 33 0 (by omega) (by omega) (by omega) (fun q q0 q1 => by omega)
      · have hf3 : fltV (mkV V s n) = 301 := by unfold fltV; rw [h0, h1, if_neg (by decide), if_neg (by decide), if_neg h52, if_neg (Int.not_lt.mpr h70), if_pos h88]
        refine g_sipush (v := 301) dX0_firstFault_91 (by decide) ?_
        exact g_iret dX0_firstFault_94 trivial ⟨by rw [hf3], hs1.trans hs2, fun q => absurd q (by rw [hf3]; decide), fun _ => ho2 (by omega)⟩
    · have hf3 : fltV (mkV V s n) = 300 := by unfold fltV; rw [h0, h1, if_neg (by decide), if_neg (by decide), if_neg h52, if_pos h70]
      refine g_sipush (v := 300) dX0_firstFault_73 (by decide) ?_
      exact g_iret dX0_firstFault_76 trivial ⟨by rw [hf3], hs1, fun _ => ho1 (by omega), fun q => absurd q (by rw [hf3]; decide)⟩
  · refine g_sipush (v := 200) dX0_firstFault_55 (by decide) ?_
    exact g_iret dX0_firstFault_58 trivial ⟨by unfold fltV; rw [h0, h1, if_neg (by decide), if_neg (by decide), if_pos h52], sp.rfl, fun q => absurd q (by unfold fltV; rw [h0, h1, if_neg (by decide), if_neg (by decide), if_pos h52]; decide), fun q => absurd q (by unfold fltV; rw [h0, h1, if_neg (by decide), if_neg (by decide), if_pos h52]; decide)⟩

theorem bent_b {V : Mem} {r : Nat} (hN : 0 ≤ V 0 0) : bentAt V r < V 0 0 ∨ bentAt V r = -1 := by
  unfold bentAt
  rcases firstI_cases (fun q => decide (V 14 r < ab (rdg V r q))) (V 0 0).toNat 0 (by decide) with h | h <;> omega
theorem x_fault {b b2 : Int} {V σ : Mem} {s n : Int} (hi : Inv b V) (hW : Inv b2 (mkV V s n)) (h : RX V σ) (hg : GA V σ s n) (hr : GR V σ) (s0 : 0 ≤ s) (s1 : s < V 0 0) (hn : -100 ≤ n ∧ n ≤ 100) : Ret 41 mX0_firstFault [aR 23] σ (fun o τ => o = some (aI (fltV (mkV V s n))) ∧ (sp σ τ ∧ (fltV (mkV V s n) = 300 → okS V τ 1) ∧ (fltV (mkV V s n) = 301 → okS V τ (-1)))) := by
  have hN := hi.N2
  have eN := mk_N V s n
  refine Ret.of [some (aR 23), none, none] rfl (plainFor_of_name (by decide)) (Nat.le_of_ble_eq_true rfl) ?_
  refine g_iconst dX0_firstFault_0 ?_
  refine g_istore_n (i := 1) dX0_firstFault_1 rfl (by decide) ?_
  refine g_iload_n dX0_firstFault_2 rfl ?_
  refine g_iconst dX0_firstFault_3 ?_
  refine g_icmp_ge (tgt := 48) dX0_firstFault_4 (by decide) (by omega) (by omega) (fun h4 => absurd h4 (by decide)) (fun h4 => ?_)
  refine g_iconst dX0_firstFault_7 ?_
  refine g_istore_n (i := 2) dX0_firstFault_8 rfl (by decide) ?_
  refine x_fault_in0 hi hW h hg hr s0 s1 hn (fun p hp p0 => by
    have hb := bent_b (V := mkV V s n) (r := 0) (by omega)
    have hv : fltV (mkV V s n) = p := by unfold fltV; rw [hp, if_pos p0]
    exact ⟨by rw [hv]; simp, sp.rfl, fun q => by omega, fun q => by omega⟩) (fun h0 => ?_) 33 0 (by omega) (by omega) (by omega) (fun q q0 q1 => by omega)
  refine g_iinc dX0_firstFault_42 rfl (by decide) ?_
  refine g_goto (tgt := 2) dX0_firstFault_45 (by decide) ?_
  refine g_iload_n dX0_firstFault_2 rfl ?_
  refine g_iconst dX0_firstFault_3 ?_
  refine g_icmp_ge (tgt := 48) dX0_firstFault_4 (by decide) (by omega) (by omega) (fun h4 => absurd h4 (by decide)) (fun h4 => ?_)
  refine g_iconst dX0_firstFault_7 ?_
  refine g_istore_n (i := 2) dX0_firstFault_8 rfl (by decide) ?_
  refine x_fault_in1 hi hW h hg hr s0 s1 hn (fun p hp p0 => by
    have hb := bent_b (V := mkV V s n) (r := 1) (by omega)
    have hv : fltV (mkV V s n) = 100 + p := by unfold fltV; rw [h0, hp, if_neg (by decide), if_pos p0]
    exact ⟨by rw [hv]; simp, sp.rfl, fun q => by omega, fun q => by omega⟩) (fun h1 => ?_) 33 0 (by omega) (by omega) (by omega) (fun q q0 q1 => by omega)
  refine g_iinc dX0_firstFault_42 rfl (by decide) ?_
  refine g_goto (tgt := 2) dX0_firstFault_45 (by decide) ?_
  refine g_iload_n dX0_firstFault_2 rfl ?_
  refine g_iconst dX0_firstFault_3 ?_
  refine g_icmp_ge (tgt := 48) dX0_firstFault_4 (by decide) (by omega) (by omega) (fun h4 => ?_) (fun h4 => absurd h4 (by decide))
  exact x_fault_re hi hW h hg hr s0 s1 hn h0 h1

def okF (N f : Int) : Prop := 0 ≤ f ∧ f < 600 ∧ f % 100 < N
/-- whether the fault of the number f is there; of a spread: whether the two, a and c, make one -/
def hasF (W : Mem) (a c f : Int) : Bool := if f < 100 then decide (W 14 0 < ab (rdg W 0 f)) else if f < 200 then decide (W 14 1 < ab (rdg W 1 (f - 100))) else if f < 300 then decide (W 14 2 < ab (midV W)) else if f < 400 then decide (W 14 3 < W 2 c - W 2 a) else if f < 500 then decide (W 2 (f - 400) < 0) else decide (W 14 4 < W 2 (f - 500))
theorem bent_lt {V : Mem} {r : Nat} {p : Int} (p0 : 0 ≤ p) (p1 : p < V 0 0) (hp : V 14 r < ab (rdg V r p)) : 0 ≤ bentAt V r := by
  unfold bentAt
  rcases firstI_cases (fun q => decide (V 14 r < ab (rdg V r q))) (V 0 0).toNat 0 (by decide) with ⟨a, c⟩ | ⟨a, c, d, e⟩
  · have := c p p0 (by omega)
    simp at this
    omega
  · exact a
theorem loose_lt {V : Mem} {p : Int} (p0 : 0 ≤ p) (p1 : p < V 0 0) (hp : V 2 p < 0) : 0 ≤ looseAt V := by
  unfold looseAt
  rcases firstI_cases (fun j => decide (V 2 j < 0)) (V 0 0).toNat 0 (by decide) with ⟨a, c⟩ | ⟨a, c, d, e⟩
  · have := c p p0 (by omega)
    simp at this
    omega
  · exact a
theorem flt_none {V : Mem} (h : fltV V = cNone) : ¬ 0 ≤ bentAt V 0 ∧ ¬ 0 ≤ bentAt V 1 ∧ ¬ V 14 2 < ab (midV V) ∧ ¬ V 14 3 < sprV V 1 ∧ ¬ V 14 3 < sprV V (-1) ∧ ¬ 0 ≤ looseAt V := by
  unfold fltV cNone at h
  repeat' split at h
  all_goals first | omega | (refine ⟨?_, ?_, ?_, ?_, ?_, ?_⟩ <;> assumption)
theorem spS_in {V : Mem} {l : Int} : ∀ (n : Nat) (j : Int), 0 ≤ j → j < n → leanK (V 1 j) = l → (spS V l n).1 = true ∧ (spS V l n).2.1 ≤ V 2 j ∧ V 2 j ≤ (spS V l n).2.2
  | 0, j, h0, h1, _ => by omega
  | n + 1, j, h0, h1, hl => by
    unfold spS
    by_cases hj : j = n
    · subst hj
      rw [if_pos hl]
      refine ⟨rfl, ?_, ?_⟩
      · dsimp only; split <;> omega
      · dsimp only; split <;> omega
    · obtain ⟨a1, a2, a3⟩ := spS_in n j h0 (by omega) hl
      split
      · refine ⟨rfl, ?_, ?_⟩
        · dsimp only; split
          · rename_i hq; rcases hq with hq | hq
            · rw [a1] at hq; cases hq
            · omega
          · exact a2
        · dsimp only; split
          · rename_i hq; rcases hq with hq | hq
            · rw [a1] at hq; cases hq
            · omega
          · exact a3
      · exact ⟨a1, a2, a3⟩
theorem spr_in {V : Mem} {l i j : Int} (i0 : 0 ≤ i) (i1 : i < V 0 0) (j0 : 0 ≤ j) (j1 : j < V 0 0) (hi : leanK (V 1 i) = l) (hj : leanK (V 1 j) = l) : V 2 i - V 2 j ≤ sprV V l := by
  have a := spS_in (V := V) (V 0 0).toNat i i0 (by omega) hi
  have c := spS_in (V := V) (V 0 0).toNat j j0 (by omega) hj
  unfold sprV
  omega
/-- what the search suspects -/
def okU (V τ : Mem) : Prop := okF (V 0 0) (τ 24 3) ∧ (300 ≤ τ 24 3 → τ 24 3 < 400 → okS V τ 1 ∨ okS V τ (-1))
theorem okU.of {V V' σ τ : Mem} (h : okU V σ) (e0 : V' 0 0 = V 0 0) (e1 : V' 1 = V 1) (e2 : τ 24 3 = σ 24 3) (e3 : sx σ τ) : okU V' τ := by
  unfold okU okS
  rw [e0, e1, e2, e3.1, e3.2]
  exact h
theorem hasF_no {V τ : Mem} (hk : okU V τ) (h1 : fltV V = cNone) (h2 : overAt V = -1) : hasF V (τ 23 9) (τ 23 10) (τ 24 3) = false := by
  obtain ⟨a1, a2, a3, a4, a5, a6⟩ := flt_none h1
  obtain ⟨⟨k1, k2, k3⟩, k4⟩ := hk
  unfold hasF
  repeat' split
  · simp; exact Int.not_lt.mp (fun q => a1 (bent_lt (r := 0) k1 (by omega) q))
  · simp; exact Int.not_lt.mp (fun q => a2 (bent_lt (r := 1) (by omega) (by omega) q))
  · simpa using a3
  · simp
    rcases k4 (by omega) (by omega) with ⟨z1, z2⟩ | ⟨z1, z2⟩
    · have := spr_in (V := V) z2.1 z2.2.1 z1.1 z1.2.1 z2.2.2 z1.2.2
      omega
    · have := spr_in (V := V) z2.1 z2.2.1 z1.1 z1.2.1 z2.2.2 z1.2.2
      omega
  · simp; exact Int.not_lt.mp (fun q => a6 (loose_lt (by omega) (by omega) q))
  · simp; exact Int.not_lt.mp (fun q => over_at (by omega) (by omega) q h2)
theorem flt_okF {V : Mem} (hN : 8 ≤ V 0 0 ∧ V 0 0 ≤ 32) (h : fltV V ≠ cNone) : okF (V 0 0) (fltV V) := by
  have h1 : -1 ≤ bentAt V 0 ∧ bentAt V 0 < V 0 0 := by unfold bentAt; rcases firstI_cases (fun p => decide (V 14 (0 : Nat) < ab (rdg V 0 p))) (V 0 0).toNat 0 (by decide) with h | h <;> omega
  have h2 : -1 ≤ bentAt V 1 ∧ bentAt V 1 < V 0 0 := by unfold bentAt; rcases firstI_cases (fun p => decide (V 14 (1 : Nat) < ab (rdg V 1 p))) (V 0 0).toNat 0 (by decide) with h | h <;> omega
  have h3 : -1 ≤ looseAt V ∧ looseAt V < V 0 0 := by unfold looseAt; rcases firstI_cases (fun j => decide (V 2 j < 0)) (V 0 0).toNat 0 (by decide) with h | h <;> omega
  unfold okF
  unfold fltV at h ⊢
  generalize bentAt V 0 = x1 at *
  generalize bentAt V 1 = x2 at *
  generalize looseAt V = x3 at *
  repeat' split
  all_goals first | omega | (exfalso; apply h; simp [*])
theorem flt_300 {V : Mem} (hN : 8 ≤ V 0 0 ∧ V 0 0 ≤ 32) (h : 300 ≤ fltV V) (h1 : fltV V < 400) : fltV V = 300 ∨ fltV V = 301 := by
  have q1 := bent_b (V := V) (r := 0) (by omega)
  have q2 := bent_b (V := V) (r := 1) (by omega)
  unfold fltV cNone at h h1 ⊢
  generalize bentAt V 0 = x1 at *
  generalize bentAt V 1 = x2 at *
  generalize looseAt V = x3 at *
  repeat' split
  all_goals simp_all
  all_goals omega
