theorem x_pullOfK {b b2 : Int} {V σ : Mem} {s n : Int} (hi : Inv b V) (hW : Inv b2 (mkV V s n)) (h : RX V σ) (hg : GA V σ s n) (s0 : 0 ≤ s) (s1 : s < V 0 0) (hn : -100 ≤ n ∧ n ≤ 100) (j : Int) (j0 : 0 ≤ j) (j1 : j < V 0 0) : RetV 41 mX0_pullOf [aR 23, aI j] σ (aI (mkV V s n 2 j)) := (x_pullOf0 hi.i0 h.r0 hg s0 s1 hn j (V 2 j) j0 j1 (h.pull j j0 j1)).eqv (by rw [mkV_2 j0 j1])

theorem x_bearsK {b b2 : Int} {V σ : Mem} {s n : Int} (hi : Inv b V) (hW : Inv b2 (mkV V s n)) (h : RX V σ) (hg : GA V σ s n) (s0 : 0 ≤ s) (s1 : s < V 0 0) (hn : -100 ≤ n ∧ n ≤ 100) (j : Int) (j0 : 0 ≤ j) (j1 : j < V 0 0) : RetV 41 mX0_bearsTooMuch [aR 23, aI j] σ (aI (b2i (mkV V s n 14 4 < mkV V s n 2 j))) := by
  refine Ret.of [some (aR 23), some (aI j)] rfl (plainFor_of_name (by decide)) (Nat.le_of_ble_eq_true rfl) ?_
  have hN := hi.N2
  have eN := mk_N V s n
  have e14 := mk_14 V s n
  have hbb := hW.b
  have hp := hW.pull j j0 (by omega)
  have hl := hi.lim 4 (by decide) (by decide)
  rw [e14]
  refine g_aload_n dX0_bearsTooMuch_0 rfl ?_
  refine g_iload_n dX0_bearsTooMuch_1 rfl ?_
  refine g_pV1 dX0_bearsTooMuch_2 qX0_84 rfl (by decide) (by decide) (Nat.le_of_ble_eq_true rfl) (x_pullOfK hi hW h hg s0 s1 hn j j0 j1) ?_
  refine g_aload_n dX0_bearsTooMuch_5 rfl ?_
  refine g_getR dX0_bearsTooMuch_6 fX0_19 rfl rfl (by decide) ?_
  refine g_iconst dX0_bearsTooMuch_9 ?_
  refine g_iaload dX0_bearsTooMuch_10 rfl (by decide) (by omega) (by omega) (by decide) ?_
  rw [h.lim _ (by omega) (by omega)]
  refine g_icmp_le (tgt := 18) dX0_bearsTooMuch_11 (by decide) (by omega) (by omega) (fun h11 => ?_) (fun h11 => ?_)
  · refine g_iconst dX0_bearsTooMuch_18 ?_
    exact g_iret dX0_bearsTooMuch_19 (by first | exact Or.inl rfl | exact Or.inr rfl | exact b2i_ok) (by first | exact aI_b2i1 (by omega) rfl | exact aI_b2i0 (by omega) rfl)
  · refine g_iconst dX0_bearsTooMuch_14 ?_
    refine g_goto (tgt := 19) dX0_bearsTooMuch_15 (by decide) ?_
    exact g_iret dX0_bearsTooMuch_19 (by first | exact Or.inl rfl | exact Or.inr rfl | exact b2i_ok) (by first | exact aI_b2i1 (by omega) rfl | exact aI_b2i0 (by omega) rfl)

theorem x_overloadK_lp {b b2 : Int} {V σ : Mem} {s n : Int} (hi : Inv b V) (hW : Inv b2 (mkV V s n)) (h : RX V σ) (hg : GA V σ s n) (s0 : 0 ≤ s) (s1 : s < V 0 0) (hn : -100 ≤ n ∧ n ≤ 100) : ∀ (fu : Nat) (k : Int), 0 ≤ k → k ≤ V 0 0 → V 0 0 - k < fu → (∀ q, 0 ≤ q → q < k → mkV V s n 2 q ≤ mkV V s n 14 4) → Go 41 mX0_firstOverload 2 [some (aR 23), some (aI k)] [] σ (fun o τ => o = some (aI (if overAt (mkV V s n) = -1 then cNone else 500 + overAt (mkV V s n))) ∧ τ = σ) := by
  intro fu
  induction fu with
  | zero => intros; omega
  | succ fu ih =>
    intro k k0 k1 kn hf
    have hN := hi.N2
    have eN := mk_N V s n
    refine g_iload_n dX0_firstOverload_2 rfl ?_
    refine g_aload_n dX0_firstOverload_3 rfl ?_
    refine g_getR dX0_firstOverload_4 fX0_9 rfl rfl (by decide) ?_
    refine g_getI (ji := 6) rfl dX0_firstOverload_7 fX0_34 rfl rfl (by decide) ?_
    rw [h.N]
    refine g_icmp_ge (tgt := 33) dX0_firstOverload_10 (by decide) (by omega) (by omega) (fun h10 => ?_) (fun h10 => ?_)
    · refine g_ldc dX0_firstOverload_33 kX0_146 ?_
      exact g_iret dX0_firstOverload_35 trivial ⟨by rw [over_no (by omega) (fun q q0 q1 => hf q q0 (by omega)), if_pos rfl]; rfl, rfl⟩
    · have hkN : k < V 0 0 := h10
      refine g_aload_n dX0_firstOverload_13 rfl ?_
      refine g_iload_n dX0_firstOverload_14 rfl ?_
      refine g_pV1 dX0_firstOverload_15 qX0_147 rfl (by decide) (by decide) (Nat.le_of_ble_eq_true rfl) (x_bearsK hi hW h hg s0 s1 hn k k0 hkN) ?_
      refine g_ifb_eq (tgt := 27) dX0_firstOverload_18 (by decide) (fun h18 => ?_) (fun h18 => ?_)
      · refine g_iinc dX0_firstOverload_27 rfl (by decide) ?_
        refine g_goto (tgt := 2) dX0_firstOverload_30 (by decide) ?_
        exact ih (k + 1) (by omega) (by omega) (by omega) (fun q q0 q1 => by
          by_cases hq : q = k
          · rw [hq]; omega
          · exact hf q q0 (by omega))
      · refine g_sipush (v := 500) dX0_firstOverload_21 (by decide) ?_
        refine g_iload_n dX0_firstOverload_24 rfl ?_
        refine g_iadd dX0_firstOverload_25 ?_
        exact g_iret dX0_firstOverload_26 trivial ⟨by rw [over_eq k0 (by omega) h18 hf, if_neg (by omega)], rfl⟩

theorem x_overloadK {b b2 : Int} {V σ : Mem} {s n : Int} (hi : Inv b V) (hW : Inv b2 (mkV V s n)) (h : RX V σ) (hg : GA V σ s n) (s0 : 0 ≤ s) (s1 : s < V 0 0) (hn : -100 ≤ n ∧ n ≤ 100) : RetV 41 mX0_firstOverload [aR 23] σ (aI (if overAt (mkV V s n) = -1 then cNone else 500 + overAt (mkV V s n))) := by
  refine Ret.of [some (aR 23), none] rfl (plainFor_of_name (by decide)) (Nat.le_of_ble_eq_true rfl) ?_
  have hN := hi.N2
  refine g_iconst dX0_firstOverload_0 ?_
  refine g_istore_n (i := 1) dX0_firstOverload_1 rfl (by decide) ?_
  exact x_overloadK_lp hi hW h hg s0 s1 hn 33 0 (by omega) (by omega) (by omega) (fun q q0 q1 => by omega)

theorem x_refusedK {b b2 : Int} {V σ : Mem} {s n : Int} (hi : Inv b V) (hW : Inv b2 (mkV V s n)) (h : RX V σ) (hg : GA V σ s n) (s0 : 0 ≤ s) (s1 : s < V 0 0) (hn : -100 ≤ n ∧ n ≤ 100)   : RetV 41 mX0_isRefused [aR 23] σ (aI (b2i (okV V s n = false))) := by
  refine Ret.of [some (aR 23)] rfl (plainFor_of_name (by decide)) (Nat.le_of_ble_eq_true rfl) ?_
  have hN := hi.N2
  have eN := mk_N V s n
  have e14 := mk_14 V s n
  have hbb := hW.b
  have hob := over_b (mkV V s n) (by omega)
  have ho32 : i32 (if overAt (mkV V s n) = -1 then cNone else 500 + overAt (mkV V s n)) := by unfold cNone; omega
  refine g_aload_n dX0_isRefused_0 rfl ?_
  refine g_getR dX0_isRefused_1 fX0_9 rfl rfl (by decide) ?_
  refine g_aload_n dX0_isRefused_4 rfl ?_
  refine g_getI (ji := 3) rfl dX0_isRefused_5 fX0_53 rfl rfl (by decide) ?_
  rw [hg.1]
  refine g_pV1 dX0_isRefused_8 qX0_90 rfl (by decide) (by decide) (Nat.le_of_ble_eq_true rfl) (x_isGone hi.i0 h.r0 s s0 s1) ?_
  refine g_ifb_ne (tgt := 23) dX0_isRefused_11 (by decide) (fun h11 => ?_) (fun h11 => ?_)
  · refine g_iconst dX0_isRefused_23 ?_
    refine g_goto (tgt := 28) dX0_isRefused_24 (by decide) ?_
    exact g_iret dX0_isRefused_28 (by first | exact Or.inl rfl | exact Or.inr rfl | exact b2i_ok) (by first
        | exact aI_b2i1 (okV_gone h11) rfl
        | exact aI_b2i0 (by rw [okV_yes h11 (by rcases (show overAt (mkV V s n) = -1 ∨ overAt (mkV V s n) ≠ -1 by omega) with q | q; exact q; rw [if_neg q] at h20; omega)]; decide) rfl
        | exact aI_b2i1 (okV_over (fun q => h20 (by rw [if_pos q]; rfl))) rfl)
  · refine g_aload_n dX0_isRefused_14 rfl ?_
    refine g_pV0 dX0_isRefused_15 qX0_150 rfl (by decide) (by decide) (Nat.le_of_ble_eq_true rfl) (x_overloadK hi hW h hg s0 s1 hn) ?_
    refine g_ldc dX0_isRefused_18 kX0_146 ?_
    refine g_icmp_eq (tgt := 27) dX0_isRefused_20 (by decide) (by first | assumption | omega) (by first | assumption | omega) (fun h20 => ?_) (fun h20 => ?_)
    · refine g_iconst dX0_isRefused_27 ?_
      exact g_iret dX0_isRefused_28 (by first | exact Or.inl rfl | exact Or.inr rfl | exact b2i_ok) (by first
          | exact aI_b2i1 (okV_gone h11) rfl
          | exact aI_b2i0 (by rw [okV_yes h11 (by rcases (show overAt (mkV V s n) = -1 ∨ overAt (mkV V s n) ≠ -1 by omega) with q | q; exact q; rw [if_neg q] at h20; omega)]; decide) rfl
          | exact aI_b2i1 (okV_over (fun q => h20 (by rw [if_pos q]; rfl))) rfl)
    · refine g_iconst dX0_isRefused_23 ?_
      refine g_goto (tgt := 28) dX0_isRefused_24 (by decide) ?_
      exact g_iret dX0_isRefused_28 (by first | exact Or.inl rfl | exact Or.inr rfl | exact b2i_ok) (by first
          | exact aI_b2i1 (okV_gone h11) rfl
          | exact aI_b2i0 (by rw [okV_yes h11 (by rcases (show overAt (mkV V s n) = -1 ∨ overAt (mkV V s n) ≠ -1 by omega) with q | q; exact q; rw [if_neg q] at h20; omega)]; decide) rfl
          | exact aI_b2i1 (okV_over (fun q => h20 (by rw [if_pos q]; rfl))) rfl)

theorem y_why {b : Int} {V σ : Mem} (hi : Inv b V) (h : RX V σ)    : Ret 41 mX6_why [aR 0] σ (OX σ (p_why V)) := by
  refine Ret.of [some (aR 0)] rfl (plainFor_of_name (by decide)) (Nat.le_of_ble_eq_true rfl) ?_
  have hN := hi.N2
  refine g_aload_n dX6_why_0 rfl ?_
  refine g_getR dX6_why_1 fX6_32 rfl rfl (by decide) ?_
  refine g_vV0 dX6_why_4 qX6_148 rfl (by decide) (by decide) (Nat.le_of_ble_eq_true rfl) (x_rest hi h) ?_
  intro τ hq
  obtain ⟨hga, hgr, hk, hsx⟩ := hq
  have hX : RX V τ := h.of23 (fun a a1 _ _ => hk a a1)
  have hW : Inv b (mkV V 0 0) := by rw [mkV_0]; exact hi
  have hkX : keepX σ τ := fun a ha => hk a (by omega)
  refine g_aload_n dX6_why_7 rfl ?_
  refine g_getR dX6_why_8 fX6_32 rfl rfl (by decide) ?_
  refine g_eV0 dX6_why_11 qX6_164 rfl (by decide) (by decide) (Nat.le_of_ble_eq_true rfl) (x_fault hi hW hX hga hgr (by decide) (by omega) (by omega)) ?_
  intro τ9 hq9
  obtain ⟨hs9, -⟩ := hq9
  replace hX := hX.kept hs9
  replace hkX : keepX σ τ9 := hkX.trans (fun a ha => hs9.1 a (by omega))
  exact g_iret dX6_why_14 trivial (OX.of (q := (fltV V, V)) rfl (by rw [mkV_0]) hX hkX)

theorem y_state {b : Int} {V σ : Mem} (hi : Inv b V) (h : RX V σ) (w : Int) (i_w : i32 w)  : Ret 41 mX6_state [aR 0, aI w] σ (OX σ (p_state V w)) := by
  refine Ret.of [some (aR 0), some (aI w)] rfl (plainFor_of_name (by decide)) (Nat.le_of_ble_eq_true rfl) ?_
  have hN := hi.N2
  refine g_aload_n dX6_state_0 rfl ?_
  refine g_getR dX6_state_1 fX6_32 rfl rfl (by decide) ?_
  refine g_vV0 dX6_state_4 qX6_148 rfl (by decide) (by decide) (Nat.le_of_ble_eq_true rfl) (x_rest hi h) ?_
  intro τ hq
  obtain ⟨hga, hgr, hk, hsx⟩ := hq
  have hX : RX V τ := h.of23 (fun a a1 _ _ => hk a a1)
  have hW : Inv b (mkV V 0 0) := by rw [mkV_0]; exact hi
  have hkX : keepX σ τ := fun a ha => hk a (by omega)
  refine g_iload_n dX6_state_7 rfl ?_
  by_cases hw0 : w = 0
  · subst hw0
    refine g_tabIn (off := 40) (tgt := 48) dX6_state_8 (by omega) (by omega) (by omega) rfl (by decide) ?_
    refine g_aload_n dX6_state_48 rfl ?_
    refine g_getR dX6_state_49 fX6_32 rfl rfl (by decide) ?_
    refine g_pV0 dX6_state_52 qX6_151 rfl (by decide) (by decide) (Nat.le_of_ble_eq_true rfl) (x_middle hi hW hX hga hgr (by decide) (by omega) (by omega)) ?_
    exact g_iret dX6_state_55 trivial (OX.of (q := (midV V, V)) (by unfold p_state; rw [if_pos rfl]) (by rw [mkV_0]) hX hkX)
  by_cases hw1 : w = 1
  · subst hw1
    refine g_tabIn (off := 48) (tgt := 56) dX6_state_8 (by omega) (by omega) (by omega) rfl (by decide) ?_
    refine g_aload_n dX6_state_56 rfl ?_
    refine g_getR dX6_state_57 fX6_32 rfl rfl (by decide) ?_
    refine g_iconst dX6_state_60 ?_
    refine g_eV1 dX6_state_61 qX6_155 rfl (by decide) (by decide) (Nat.le_of_ble_eq_true rfl) (x_spreadOf hi hW hX hga hgr (by decide) (by omega) (by omega) 1 (by omega)) ?_
    intro τ9 hq9
    obtain ⟨hs9, -⟩ := hq9
    replace hX := hX.kept hs9
    replace hkX : keepX σ τ9 := hkX.trans (fun a ha => hs9.1 a (by omega))
    exact g_iret dX6_state_64 trivial (OX.of (q := (sprV V 1, V)) (by unfold p_state; rw [if_neg (by omega), if_pos rfl]) (by rw [mkV_0]) hX hkX)
  by_cases hw2 : w = 2
  · subst hw2
    refine g_tabIn (off := 57) (tgt := 65) dX6_state_8 (by omega) (by omega) (by omega) rfl (by decide) ?_
    refine g_aload_n dX6_state_65 rfl ?_
    refine g_getR dX6_state_66 fX6_32 rfl rfl (by decide) ?_
    refine g_iconst dX6_state_69 ?_
    refine g_eV1 dX6_state_70 qX6_155 rfl (by decide) (by decide) (Nat.le_of_ble_eq_true rfl) (x_spreadOf hi hW hX hga hgr (by decide) (by omega) (by omega) (-1) (by omega)) ?_
    intro τ9 hq9
    obtain ⟨hs9, -⟩ := hq9
    replace hX := hX.kept hs9
    replace hkX : keepX σ τ9 := hkX.trans (fun a ha => hs9.1 a (by omega))
    exact g_iret dX6_state_73 trivial (OX.of (q := (sprV V (-1), V)) (by unfold p_state; rw [if_neg (by omega), if_neg (by omega), if_pos rfl]) (by rw [mkV_0]) hX hkX)
  by_cases hw3 : w = 3
  · subst hw3
    refine g_tabIn (off := 66) (tgt := 74) dX6_state_8 (by omega) (by omega) (by omega) rfl (by decide) ?_
    refine g_aload_n dX6_state_74 rfl ?_
    refine g_getR dX6_state_75 fX6_32 rfl rfl (by decide) ?_
    refine g_eV0 dX6_state_78 qX6_158 rfl (by decide) (by decide) (Nat.le_of_ble_eq_true rfl) (x_gworst hi hW hX hga hgr (by decide) (by omega) (by omega)) ?_
    intro τ9 hq9
    have hs9 := hq9
    replace hX := hX.kept hs9
    replace hkX : keepX σ τ9 := hkX.trans (fun a ha => hs9.1 a (by omega))
    exact g_iret dX6_state_81 trivial (OX.of (q := (wstV V, V)) (by unfold p_state; rw [if_neg (by omega), if_neg (by omega), if_neg (by omega), if_pos rfl]) (by rw [mkV_0]) hX hkX)
  by_cases hw4 : w = 4
  · subst hw4
    refine g_tabIn (off := 74) (tgt := 82) dX6_state_8 (by omega) (by omega) (by omega) rfl (by decide) ?_
    refine g_aload_n dX6_state_82 rfl ?_
    refine g_getR dX6_state_83 fX6_32 rfl rfl (by decide) ?_
    refine g_pV0 dX6_state_86 qX6_161 rfl (by decide) (by decide) (Nat.le_of_ble_eq_true rfl) (x_howLoose hi hW hX hga hgr (by decide) (by omega) (by omega)) ?_
    exact g_iret dX6_state_89 trivial (OX.of (q := (cntN (fun j => decide (V 2 j < 0)) (V 0 0).toNat, V)) (by unfold p_state; rw [if_neg (by omega), if_neg (by omega), if_neg (by omega), if_neg (by omega), if_pos rfl]) (by rw [mkV_0]) hX hkX)
  by_cases hw5 : w = 5
  · subst hw5
    refine g_tabIn (off := 82) (tgt := 90) dX6_state_8 (by omega) (by omega) (by omega) rfl (by decide) ?_
    refine g_aload_n dX6_state_90 rfl ?_
    refine g_getR dX6_state_91 fX6_32 rfl rfl (by decide) ?_
    refine g_eV0 dX6_state_94 qX6_164 rfl (by decide) (by decide) (Nat.le_of_ble_eq_true rfl) (x_fault hi hW hX hga hgr (by decide) (by omega) (by omega)) ?_
    intro τ9 hq9
    obtain ⟨hs9, -⟩ := hq9
    replace hX := hX.kept hs9
    replace hkX : keepX σ τ9 := hkX.trans (fun a ha => hs9.1 a (by omega))
    rw [mkV_0]
    have hfb := flt_32 hi
    refine g_ldc dX6_state_97 kX6_167 ?_
    refine g_icmp_ne (tgt := 106) dX6_state_99 (by decide) (by omega) (by omega) (fun h99 => ?_) (fun h99 => ?_)
    · refine g_iconst dX6_state_106 ?_
      refine g_pS1 dX6_state_107 sX6_138 (by decide) (Nat.le_of_ble_eq_true rfl) (x_asNum _ (by omega)) ?_
      exact g_iret dX6_state_110 trivial (by first | exact (OX.of (q := (1, V)) (by unfold p_state; rw [if_neg (by omega), if_neg (by omega), if_neg (by omega), if_neg (by omega), if_neg (by omega), if_pos rfl]; rw [b2i_1 (by first | exact h99 | omega)]) rfl hX hkX) | exact (OX.of (q := (0, V)) (by unfold p_state; rw [if_neg (by omega), if_neg (by omega), if_neg (by omega), if_neg (by omega), if_neg (by omega), if_pos rfl]; rw [b2i_0 (by first | exact h99 | omega)]) rfl hX hkX))
    · refine g_iconst dX6_state_102 ?_
      refine g_goto (tgt := 107) dX6_state_103 (by decide) ?_
      refine g_pS1 dX6_state_107 sX6_138 (by decide) (Nat.le_of_ble_eq_true rfl) (x_asNum _ (by omega)) ?_
      exact g_iret dX6_state_110 trivial (by first | exact (OX.of (q := (1, V)) (by unfold p_state; rw [if_neg (by omega), if_neg (by omega), if_neg (by omega), if_neg (by omega), if_neg (by omega), if_pos rfl]; rw [b2i_1 (by first | exact h99 | omega)]) rfl hX hkX) | exact (OX.of (q := (0, V)) (by unfold p_state; rw [if_neg (by omega), if_neg (by omega), if_neg (by omega), if_neg (by omega), if_neg (by omega), if_pos rfl]; rw [b2i_0 (by first | exact h99 | omega)]) rfl hX hkX))
  refine g_tabOut (tgt := 111) dX6_state_8 (by omega) (by omega) (by decide) ?_
  refine g_ldc dX6_state_111 kX6_63 ?_
  exact g_iret dX6_state_113 trivial (OX.of (q := (cBad, V)) (by unfold p_state; rw [if_neg (by omega), if_neg (by omega), if_neg (by omega), if_neg (by omega), if_neg (by omega), if_neg (by omega)]) rfl hX hkX)

theorem y_turn {b : Int} {V σ : Mem} (hi : Inv b V) (h : RX V σ) (s : Int) (n : Int) (i_s : i32 s) (i_n : i32 n) (hb : b + 200000 ≤ 500000000) : Ret 41 mX6_turn [aR 0, aI s, aI n] σ (OX σ (p_turn V s n)) := by
  refine Ret.of [some (aR 0), some (aI s), some (aI n)] rfl (plainFor_of_name (by decide)) (Nat.le_of_ble_eq_true rfl) ?_
  have hN := hi.N2
  have hmm := hi.many
  have hbb := hi.b
  refine g_aload_n dX6_turn_0 rfl ?_
  refine g_getR dX6_turn_1 fX6_19 rfl rfl (by decide) ?_
  refine g_iload_n dX6_turn_4 rfl ?_
  refine g_pV1 dX6_turn_5 qX6_68 rfl (by decide) (by decide) (Nat.le_of_ble_eq_true rfl) (x_hasHole hi.i0 h.r0 _ (by omega)) ?_
  refine g_ifb_eq (tgt := 26) dX6_turn_8 (by decide) (fun h8 => ?_) (fun h8 => ?_)
  · refine g_ldc dX6_turn_26 kX6_63 ?_
    exact g_iret dX6_turn_28 trivial (OX.of (q := (cBad, V)) (by unfold p_turn; rw [if_pos (by omega)]) rfl h keepX.rfl)
  · refine g_iload_n dX6_turn_11 rfl ?_
    refine g_bipush (v := -100) dX6_turn_12 (by decide) ?_
    refine g_bipush (v := 100) dX6_turn_14 (by decide) ?_
    refine g_pS3 dX6_turn_16 sX6_85 (by decide) (Nat.le_of_ble_eq_true rfl) (x_lies _ _ _ (by omega) (by omega) (by omega)) ?_
    refine g_ifb_eq (tgt := 26) dX6_turn_19 (by decide) (fun h19 => ?_) (fun h19 => ?_)
    · refine g_ldc dX6_turn_26 kX6_63 ?_
      exact g_iret dX6_turn_28 trivial (OX.of (q := (cBad, V)) (by unfold p_turn; rw [if_pos (by omega)]) rfl h keepX.rfl)
    · refine g_iload_n dX6_turn_22 rfl ?_
      refine g_if_ne (tgt := 29) dX6_turn_23 (by decide) (by omega) (fun h23 => ?_) (fun h23 => ?_)
      · refine g_aload_n dX6_turn_29 rfl ?_
        refine g_getR dX6_turn_30 fX6_32 rfl rfl (by decide) ?_
        refine g_iload_n dX6_turn_33 rfl ?_
        refine g_iload_n dX6_turn_34 rfl ?_
        refine g_vV2 dX6_turn_35 qX6_168 rfl (by decide) (by decide) (Nat.le_of_ble_eq_true rfl) (x_suppose hi.i0 h.r0 s n (by omega) (by omega)) ?_
        intro τ hq
        obtain ⟨hga, hk, -, -⟩ := hq
        have hX : RX V τ := h.of23 (fun a a1 _ _ => hk a a1)
        have hkX : keepX σ τ := fun a ha => hk a (by omega)
        have hW : Inv (b + 200000) (mkV V s n) := mkV_inv (m := 100) hi s n (by omega) (by omega) (by omega) (by omega) (by omega)
        refine g_aload_n dX6_turn_38 rfl ?_
        refine g_getR dX6_turn_39 fX6_32 rfl rfl (by decide) ?_
        refine g_pV0 dX6_turn_42 qX6_171 rfl (by decide) (by decide) (Nat.le_of_ble_eq_true rfl) (x_refusedK hi hW hX hga (by omega) (by omega) (by omega)) ?_
        refine g_ifb_eq (tgt := 51) dX6_turn_45 (by decide) (fun h45 => ?_) (fun h45 => ?_)
        · refine g_aload_n dX6_turn_51 rfl ?_
          refine g_getR dX6_turn_52 fX6_48 rfl rfl (by decide) ?_
          refine g_pV0 dX6_turn_55 qX6_175 rfl (by decide) (by decide) (Nat.le_of_ble_eq_true rfl) (x_isFull hi hX) ?_
          refine g_ifb_eq (tgt := 64) dX6_turn_58 (by decide) (fun h58 => ?_) (fun h58 => ?_)
          · refine g_aload_n dX6_turn_64 rfl ?_
            refine g_getR dX6_turn_65 fX6_32 rfl rfl (by decide) ?_
            refine g_vV0 dX6_turn_68 qX6_179 rfl (by decide) (by decide) (Nat.le_of_ble_eq_true rfl) (x_keep hi hW hX hga (by omega) (by omega) (by omega)) ?_
            intro τ2 hq2
            obtain ⟨h2, -, -, hk2, -⟩ := hq2
            have e17 : mkV V s n 17 0 = V 17 0 := by rw [mkV_o (by decide) (by decide) (by decide)]
            have e0 := mk_N V s n
            refine g_aload_n dX6_turn_71 rfl ?_
            refine g_getR dX6_turn_72 fX6_48 rfl rfl (by decide) ?_
            refine g_iload_n dX6_turn_75 rfl ?_
            refine g_iload_n dX6_turn_76 rfl ?_
            refine g_vV2 dX6_turn_77 qX6_182 rfl (by decide) (by decide) (Nat.le_of_ble_eq_true rfl) (x_add hW h2 s n (by omega)) ?_
            intro τ3 hq3
            obtain ⟨h3, hk3⟩ := hq3
            have ea : addV (mkV V s n) s n 2 s = mkV V s n 2 s := by unfold addV; rw [up_cell (by decide), up_cell (by decide), up_cell (by decide)]
            have ea0 : addV (mkV V s n) s n 0 0 = V 0 0 := by unfold addV; rw [up_cell (by decide), up_cell (by decide), up_cell (by decide), e0]
            refine g_aload_n dX6_turn_80 rfl ?_
            refine g_getR dX6_turn_81 fX6_19 rfl rfl (by decide) ?_
            refine g_getR dX6_turn_84 fX6_125 rfl rfl (by decide) ?_
            refine g_iload_n dX6_turn_87 rfl ?_
            refine g_iaload dX6_turn_88 rfl (by decide) (by omega) (by omega) (by decide) ?_
            rw [h3.pull s (by omega) (by omega), ea]
            exact g_iret dX6_turn_89 trivial (OX.of (q := (mkV V s n 2 s, addV (mkV V s n) s n)) (by unfold p_turn; rw [if_neg (by omega), if_neg h45, if_neg h58]) rfl h3 (fun a ha => by rw [hk3 a (by omega) (by omega) (by omega), hk2 a (by omega) (by omega) (by omega) (by omega)]; exact hkX a ha))
          · refine g_ldc dX6_turn_61 kX6_178 ?_
            exact g_iret dX6_turn_63 trivial (OX.of (q := (cFull, V)) (by unfold p_turn; rw [if_neg (by omega), if_neg h45, if_pos h58]) rfl hX hkX)
        · refine g_ldc dX6_turn_48 kX6_78 ?_
          exact g_iret dX6_turn_50 trivial (OX.of (q := (cNo, V)) (by unfold p_turn; rw [if_neg (by omega), if_pos h45]) rfl hX hkX)
      · refine g_ldc dX6_turn_26 kX6_63 ?_
        exact g_iret dX6_turn_28 trivial (OX.of (q := (cBad, V)) (by unfold p_turn; rw [if_pos (by omega)]) rfl h keepX.rfl)

theorem RX.up17 {V σ : Mem} {x : Int} (h : RX V σ) (hx : x ≤ V 17 0) : RX (up V 17 0 x) (up σ 26 2 x) := by
  unfold RX at h ⊢
  obtain ⟨h1, h2, h3, h4, h5, h6, h7, h8, h9, h10⟩ := h
  refine ⟨by simpa (disch := omega) only [up_cell, unb] using h1,
    fun j a b => by simpa (disch := omega) only [up_cell, unb] using h2 j a (by simpa (disch := omega) only [up_cell] using b),
    fun r hr j a b => by simpa (disch := omega) only [up_cell, unb] using h3 r hr j a (by simpa (disch := omega) only [up_cell] using b),
    fun t ht => by simpa (disch := omega) only [up_cell, unb] using h4 t ht,
    fun t ht d a b => by simpa (disch := omega) only [up_cell, unb] using h5 t ht d a b,
    fun i a b => by simpa (disch := omega) only [up_cell, unb] using h6 i a b,
    ?_,
    ?_,
    by simpa (disch := omega) only [up_cell, unb] using h9,
    by simpa (disch := omega) only [up_cell, unb] using h10⟩
  · rw [up_same, up_same]
  · intro i a c
    rw [up_same] at c
    rw [up_cell (by decide), up_cell (by decide), up_cell (by decide), up_cell (by decide)]
    exact h8 i a (by omega)

theorem y_undo {b : Int} {V σ : Mem} (hi : Inv b V) (h : RX V σ)   (hb : b + 200000 ≤ 500000000) : Ret 41 mX6_undo [aR 0] σ (OX σ (p_undo V)) := by
  refine Ret.of [some (aR 0), none] rfl (plainFor_of_name (by decide)) (Nat.le_of_ble_eq_true rfl) ?_
  have hmm := hi.many
  have hN := hi.N2
  have hbb := hi.b
  refine g_aload_n dX6_undo_0 rfl ?_
  refine g_getR dX6_undo_1 fX6_48 rfl rfl (by decide) ?_
  refine g_getI (ji := 2) rfl dX6_undo_4 fX6_64 rfl rfl (by decide) ?_
  rw [h.many]
  refine g_if_ne (tgt := 13) dX6_undo_7 (by decide) (by omega) (fun h7 => ?_) (fun h7 => ?_)
  · refine g_aload_n dX6_undo_13 rfl ?_
    refine g_getR dX6_undo_14 fX6_48 rfl rfl (by decide) ?_
    refine g_getI (ji := 2) rfl dX6_undo_17 fX6_64 rfl rfl (by decide) ?_
    rw [h.many]
    refine g_iconst dX6_undo_20 ?_
    refine g_isub dX6_undo_21 ?_
    refine g_istore_n (i := 1) dX6_undo_22 rfl (by decide) ?_
    have hlg := h.log (V 17 0 - 1) (by omega) (by omega)
    have hlb := hi.log (V 17 0 - 1) (by omega) (by omega)
    refine g_aload_n dX6_undo_23 rfl ?_
    refine g_getR dX6_undo_24 fX6_32 rfl rfl (by decide) ?_
    refine g_aload_n dX6_undo_27 rfl ?_
    refine g_getR dX6_undo_28 fX6_48 rfl rfl (by decide) ?_
    refine g_getR dX6_undo_31 fX6_194 rfl rfl (by decide) ?_
    refine g_iload_n dX6_undo_34 rfl ?_
    refine g_iaload dX6_undo_35 rfl (by decide) (by omega) (by omega) (by decide) ?_
    rw [hlg.1]
    refine g_aload_n dX6_undo_36 rfl ?_
    refine g_getR dX6_undo_37 fX6_48 rfl rfl (by decide) ?_
    refine g_getR dX6_undo_40 fX6_197 rfl rfl (by decide) ?_
    refine g_iload_n dX6_undo_43 rfl ?_
    refine g_iaload dX6_undo_44 rfl (by decide) (by omega) (by omega) (by decide) ?_
    rw [hlg.2]
    refine g_ineg dX6_undo_45 ?_
    refine g_vV2 dX6_undo_46 qX6_168 rfl (by decide) (by decide) (Nat.le_of_ble_eq_true rfl) (x_suppose hi.i0 h.r0 _ _ (by omega) (by omega)) ?_
    intro τ hq
    obtain ⟨hga, hk, -, -⟩ := hq
    have hX : RX V τ := h.of23 (fun a a1 _ _ => hk a a1)
    have hkX : keepX σ τ := fun a ha => hk a (by omega)
    have hW : Inv (b + 200000) (mkV V (V 15 (V 17 0 - 1)) (-V 16 (V 17 0 - 1))) := mkV_inv (m := 100) hi _ _ (by omega) (by omega) (by omega) (by omega) (by omega)
    refine g_aload_n dX6_undo_49 rfl ?_
    refine g_getR dX6_undo_50 fX6_32 rfl rfl (by decide) ?_
    refine g_vV0 dX6_undo_53 qX6_179 rfl (by decide) (by decide) (Nat.le_of_ble_eq_true rfl) (x_keep hi hW hX hga (by omega) (by omega) (by omega)) ?_
    intro τ2 hq2
    obtain ⟨h2, -, -, hk2, -⟩ := hq2
    refine g_aload_n dX6_undo_56 rfl ?_
    refine g_getR dX6_undo_57 fX6_48 rfl rfl (by decide) ?_
    refine g_iload_n dX6_undo_60 rfl ?_
    refine g_putI (ji := 2) rfl dX6_undo_61 vX6_64 rfl rfl (by decide) (by decide) ?_
    refine g_iload_n dX6_undo_64 rfl ?_
    exact g_iret dX6_undo_65 trivial (OX.of (q := (V 17 0 - 1, up (mkV V (V 15 (V 17 0 - 1)) (-V 16 (V 17 0 - 1))) 17 0 (V 17 0 - 1))) (by unfold p_undo; rw [if_neg h7]) rfl (h2.up17 (by rw [mkV_o (by decide) (by decide) (by decide)]; omega)) (fun a ha => by rw [up_cell (by omega), hk2 a (by omega) (by omega) (by omega) (by omega)]; exact hkX a ha))
  · refine g_ldc dX6_undo_10 kX6_78 ?_
    exact g_iret dX6_undo_12 trivial (OX.of (q := (cNo, V)) (by unfold p_undo; rw [if_pos (by omega)]) rfl h keepX.rfl)

theorem x_best_lp {b : Int} {V σ : Mem} (hi : Inv b V) (h : RX V σ) (hb : b + 200000 ≤ 500000000) : ∀ (fu : Nat) (k le be : Int) (x4 : Option AV) (τ : Mem), 0 ≤ k → k ≤ 2 * V 0 0 → 2 * V 0 0 - k < fu → (∀ a, a ≠ 23 → τ a = σ a) → GR V τ → (0 ≤ le ∧ le ≤ 1000000000) → nqS V k.toNat = (le, be) → Go 41 mX2_bestQuarter 20 [some (aR 24), some (aI le), some (aI be), some (aI k), x4] [] τ (fun o τ => o = some (aI (nqV V)) ∧ (RX V τ ∧ ∀ a, a ≠ 23 → τ a = σ a)) := by
  intro fu
  induction fu with
  | zero => intros; omega
  | succ fu ih =>
    intro k le be x4 τ k0 k1 kn hk hgr hlb hs
    have hN := hi.N2
    have hbb := hi.b
    have hX : RX V τ := h.of23 (fun a a1 _ _ => hk a a1)
    refine g_iload_n dX2_bestQuarter_20 rfl ?_
    refine g_iconst dX2_bestQuarter_21 ?_
    refine g_aload_n dX2_bestQuarter_22 rfl ?_
    refine g_getR dX2_bestQuarter_23 fX2_15 rfl rfl (by decide) ?_
    refine g_getI (ji := 6) rfl dX2_bestQuarter_26 fX2_33 rfl rfl (by decide) ?_
    rw [hX.N]
    refine g_imul dX2_bestQuarter_29 ?_
    refine g_icmp_ge (tgt := 90) dX2_bestQuarter_30 (by decide) (by omega) (by omega) (fun h30 => ?_) (fun h30 => ?_)
    · refine g_iload_n dX2_bestQuarter_90 rfl ?_
      exact g_iret dX2_bestQuarter_91 trivial ⟨by unfold nqV; rw [show 2 * V 0 0 = k by omega, hs], hX, hk⟩
    · have kh : k / 2 < V 0 0 := by omega
      have kh0 : 0 ≤ k / 2 := by omega
      have e1 : 0 ≤ k + 1 := by omega
      have e2 : k + 1 ≤ 2 * V 0 0 := by omega
      have e3 : 2 * V 0 0 - (k + 1) < fu := by omega
      have hsu := nqS_succ (V := V) k0
      rw [hs] at hsu
      refine g_aload_n dX2_bestQuarter_33 rfl ?_
      refine g_getR dX2_bestQuarter_34 fX2_19 rfl rfl (by decide) ?_
      refine g_iload_n dX2_bestQuarter_37 rfl ?_
      refine g_iconst dX2_bestQuarter_38 ?_
      refine g_ishr1 dX2_bestQuarter_39 (by omega) ?_
      refine g_iload_n dX2_bestQuarter_40 rfl ?_
      refine g_iconst dX2_bestQuarter_41 ?_
      refine g_iand1 dX2_bestQuarter_42 ?_
      refine g_if_ne (tgt := 50) dX2_bestQuarter_43 (by decide) (by omega) (fun h43 => ?_) (fun h43 => ?_)
      · have hqk : qOf k = -1 := if_neg h43
        rw [hqk] at hsu
        have hW : Inv (b + 200000) (mkV V (k / 2) (-1)) := mkV_inv (m := 100) hi (k / 2) (-1) kh0 kh (by omega) (by omega) (by omega)
        have hwb := wstV_b hW
        refine g_iconst dX2_bestQuarter_50 ?_
        refine g_vV2 dX2_bestQuarter_51 qX2_39 rfl (by decide) (by decide) (Nat.le_of_ble_eq_true rfl) (x_suppose hi.i0 hX.r0 (k / 2) _ kh0 kh) ?_
        intro τ2 hq2
        obtain ⟨hga2, hk2, q7, q8⟩ := hq2
        have hX2 : RX V τ2 := hX.of23 (fun a a1 _ _ => hk2 a a1)
        have hgr2 : GR V τ2 := by unfold GR; rw [q7.1, q7.2]; exact hgr
        have hkk : ∀ a, a ≠ 23 → τ2 a = σ a := fun a ha => (hk2 a ha).trans (hk a ha)
        refine g_aload_n dX2_bestQuarter_54 rfl ?_
        refine g_getR dX2_bestQuarter_55 fX2_19 rfl rfl (by decide) ?_
        refine g_pV0 dX2_bestQuarter_58 qX2_43 rfl (by decide) (by decide) (Nat.le_of_ble_eq_true rfl) (x_refused hi hW hX2 hga2 hgr2 kh0 kh (by omega)) ?_
        refine g_ifb_ne (tgt := 84) dX2_bestQuarter_61 (by decide) (fun h61 => g_iinc dX2_bestQuarter_84 rfl (by decide) (g_goto (tgt := 20) dX2_bestQuarter_87 (by decide) (ih (k + 1) le be _ τ2 e1 e2 e3 hkk hgr2 hlb (by rw [hsu, if_neg (fun q => by rw [h61] at q; exact absurd q.1 (by decide))])))) (fun h61 => ?_)
        refine g_aload_n dX2_bestQuarter_64 rfl ?_
        refine g_getR dX2_bestQuarter_65 fX2_19 rfl rfl (by decide) ?_
        refine g_eV0 dX2_bestQuarter_68 qX2_28 rfl (by decide) (by decide) (Nat.le_of_ble_eq_true rfl) (x_gworst hi hW hX2 hga2 hgr2 kh0 kh (by omega)) ?_
        intro τ3 hq3
        have hgr3 := hgr2.kept hq3
        have hkk3 : ∀ a, a ≠ 23 → τ3 a = σ a := fun a ha => (hq3.1 a ha).trans (hkk a ha)
        refine g_istore dX2_bestQuarter_71 (by decide) ?_
        refine g_iload dX2_bestQuarter_73 rfl ?_
        refine g_iload_n dX2_bestQuarter_75 rfl ?_
        refine g_icmp_ge (tgt := 84) dX2_bestQuarter_76 (by decide) (by omega) (by omega) (fun h76 => g_iinc dX2_bestQuarter_84 rfl (by decide) (g_goto (tgt := 20) dX2_bestQuarter_87 (by decide) (ih (k + 1) le be _ τ3 e1 e2 e3 hkk3 hgr3 hlb (by rw [hsu, if_neg (fun q => by have := q.2; dsimp only at this; omega)])))) (fun h76 => ?_)
        refine g_iload dX2_bestQuarter_79 rfl ?_
        refine g_istore_n (i := 1) dX2_bestQuarter_81 rfl (by decide) ?_
        refine g_iload_n dX2_bestQuarter_82 rfl ?_
        refine g_istore_n (i := 2) dX2_bestQuarter_83 rfl (by decide) ?_
        refine g_iinc dX2_bestQuarter_84 rfl (by decide) ?_
        refine g_goto (tgt := 20) dX2_bestQuarter_87 (by decide) ?_
        exact ih (k + 1) _ _ _ τ3 e1 e2 e3 hkk3 hgr3 hwb (by rw [hsu, if_pos ⟨by simpa using h61, h76⟩])
      · have hqk : qOf k = 1 := if_pos h43
        rw [hqk] at hsu
        have hW : Inv (b + 200000) (mkV V (k / 2) 1) := mkV_inv (m := 100) hi (k / 2) 1 kh0 kh (by omega) (by omega) (by omega)
        have hwb := wstV_b hW
        refine g_iconst dX2_bestQuarter_46 ?_
        refine g_goto (tgt := 51) dX2_bestQuarter_47 (by decide) ?_
        refine g_vV2 dX2_bestQuarter_51 qX2_39 rfl (by decide) (by decide) (Nat.le_of_ble_eq_true rfl) (x_suppose hi.i0 hX.r0 (k / 2) _ kh0 kh) ?_
        intro τ2 hq2
        obtain ⟨hga2, hk2, q7, q8⟩ := hq2
        have hX2 : RX V τ2 := hX.of23 (fun a a1 _ _ => hk2 a a1)
        have hgr2 : GR V τ2 := by unfold GR; rw [q7.1, q7.2]; exact hgr
        have hkk : ∀ a, a ≠ 23 → τ2 a = σ a := fun a ha => (hk2 a ha).trans (hk a ha)
        refine g_aload_n dX2_bestQuarter_54 rfl ?_
        refine g_getR dX2_bestQuarter_55 fX2_19 rfl rfl (by decide) ?_
        refine g_pV0 dX2_bestQuarter_58 qX2_43 rfl (by decide) (by decide) (Nat.le_of_ble_eq_true rfl) (x_refused hi hW hX2 hga2 hgr2 kh0 kh (by omega)) ?_
        refine g_ifb_ne (tgt := 84) dX2_bestQuarter_61 (by decide) (fun h61 => g_iinc dX2_bestQuarter_84 rfl (by decide) (g_goto (tgt := 20) dX2_bestQuarter_87 (by decide) (ih (k + 1) le be _ τ2 e1 e2 e3 hkk hgr2 hlb (by rw [hsu, if_neg (fun q => by rw [h61] at q; exact absurd q.1 (by decide))])))) (fun h61 => ?_)
        refine g_aload_n dX2_bestQuarter_64 rfl ?_
        refine g_getR dX2_bestQuarter_65 fX2_19 rfl rfl (by decide) ?_
        refine g_eV0 dX2_bestQuarter_68 qX2_28 rfl (by decide) (by decide) (Nat.le_of_ble_eq_true rfl) (x_gworst hi hW hX2 hga2 hgr2 kh0 kh (by omega)) ?_
        intro τ3 hq3
        have hgr3 := hgr2.kept hq3
        have hkk3 : ∀ a, a ≠ 23 → τ3 a = σ a := fun a ha => (hq3.1 a ha).trans (hkk a ha)
        refine g_istore dX2_bestQuarter_71 (by decide) ?_
        refine g_iload dX2_bestQuarter_73 rfl ?_
        refine g_iload_n dX2_bestQuarter_75 rfl ?_
        refine g_icmp_ge (tgt := 84) dX2_bestQuarter_76 (by decide) (by omega) (by omega) (fun h76 => g_iinc dX2_bestQuarter_84 rfl (by decide) (g_goto (tgt := 20) dX2_bestQuarter_87 (by decide) (ih (k + 1) le be _ τ3 e1 e2 e3 hkk3 hgr3 hlb (by rw [hsu, if_neg (fun q => by have := q.2; dsimp only at this; omega)])))) (fun h76 => ?_)
        refine g_iload dX2_bestQuarter_79 rfl ?_
        refine g_istore_n (i := 1) dX2_bestQuarter_81 rfl (by decide) ?_
        refine g_iload_n dX2_bestQuarter_82 rfl ?_
        refine g_istore_n (i := 2) dX2_bestQuarter_83 rfl (by decide) ?_
        refine g_iinc dX2_bestQuarter_84 rfl (by decide) ?_
        refine g_goto (tgt := 20) dX2_bestQuarter_87 (by decide) ?_
        exact ih (k + 1) _ _ _ τ3 e1 e2 e3 hkk3 hgr3 hwb (by rw [hsu, if_pos ⟨by simpa using h61, h76⟩])

theorem x_best {b : Int} {V σ : Mem} (hi : Inv b V) (h : RX V σ) (hb : b + 200000 ≤ 500000000) : Ret 41 mX2_bestQuarter [aR 24] σ (fun o τ => o = some (aI (nqV V)) ∧ (RX V τ ∧ ∀ a, a ≠ 23 → τ a = σ a)) := by
  refine Ret.of [some (aR 24), none, none, none, none] rfl (plainFor_of_name (by decide)) (Nat.le_of_ble_eq_true rfl) ?_
  have hN := hi.N2
  have hwb := wstV_b hi
  refine g_aload_n dX2_bestQuarter_0 rfl ?_
  refine g_getR dX2_bestQuarter_1 fX2_19 rfl rfl (by decide) ?_
  refine g_vV0 dX2_bestQuarter_4 qX2_23 rfl (by decide) (by decide) (Nat.le_of_ble_eq_true rfl) (x_rest hi h) ?_
  intro τ hq
  obtain ⟨hga, hgr, hk, hsx⟩ := hq
  have hX : RX V τ := h.of23 (fun a a1 _ _ => hk a a1)
  have hW : Inv b (mkV V 0 0) := by rw [mkV_0]; exact hi
  have hkX : keepX σ τ := fun a ha => hk a (by omega)
  refine g_aload_n dX2_bestQuarter_7 rfl ?_
  refine g_getR dX2_bestQuarter_8 fX2_19 rfl rfl (by decide) ?_
  refine g_eV0 dX2_bestQuarter_11 qX2_28 rfl (by decide) (by decide) (Nat.le_of_ble_eq_true rfl) (x_gworst hi hW hX hga hgr (by decide) (by omega) (by omega)) ?_
  intro τ3 hq3
  have hgr3 := hgr.kept hq3
  have hkk3 : ∀ a, a ≠ 23 → τ3 a = σ a := fun a ha => (hq3.1 a ha).trans (hk a ha)
  rw [mkV_0]
  refine g_istore_n (i := 1) dX2_bestQuarter_14 rfl (by decide) ?_
  refine g_ldc dX2_bestQuarter_15 kX2_32 ?_
  refine g_istore_n (i := 2) dX2_bestQuarter_17 rfl (by decide) ?_
  refine g_iconst dX2_bestQuarter_18 ?_
  refine g_istore_n (i := 3) dX2_bestQuarter_19 rfl (by decide) ?_
  exact x_best_lp hi h hb 65 0 _ _ _ _ (by omega) (by omega) (by omega) hkk3 hgr3 hwb rfl

theorem y_next {b : Int} {V σ : Mem} (hi : Inv b V) (h : RX V σ)   (hb : b + 200000 ≤ 500000000) : Ret 41 mX6_next [aR 0] σ (OX σ (p_next V)) := by
  refine Ret.of [some (aR 0)] rfl (plainFor_of_name (by decide)) (Nat.le_of_ble_eq_true rfl) ?_
  refine g_aload_n dX6_next_0 rfl ?_
  refine g_getR dX6_next_1 fX6_41 rfl rfl (by decide) ?_
  refine g_eV0 dX6_next_4 qX6_185 rfl (by decide) (by decide) (Nat.le_of_ble_eq_true rfl) (x_best hi h hb) ?_
  intro τ hq
  obtain ⟨h2, hk2⟩ := hq
  exact g_iret dX6_next_7 trivial ⟨rfl, h2, fun a ha => hk2 a (by omega)⟩

theorem y_plan_lp {σ : Mem} (q : Int) (hq : 1 ≤ q ∧ q ≤ 60) : ∀ (fu m : Nat) (d b : Int) (V τ : Mem) (x3 x4 x5 : Option AV), m < fu → d + m = q → 0 ≤ d → Inv b V → b + 200000 + 2000 * m ≤ 500000000 → RX V τ → keepX σ τ → Go 41 mX6_plan 15 [some (aR 0), some (aI q), some (aI d), x3, x4, x5] [] τ (OX σ (d + (planV m V).1, (planV m V).2)) := by
  intro fu
  induction fu with
  | zero => intros; omega
  | succ fu ih =>
    intro m d b V τ x3 x4 x5 hmf hdm d0 hi hb h hkp
    have hN := hi.N2
    have hmm := hi.many
    have hbb := hi.b
    refine g_iload_n dX6_plan_15 rfl ?_
    refine g_iload_n dX6_plan_16 rfl ?_
    refine g_icmp_ge (tgt := 104) dX6_plan_17 (by decide) (by omega) (by omega) (fun h17 => ?_) (fun h17 => ?_)
    · refine g_iload_n dX6_plan_104 rfl ?_
      exact g_iret dX6_plan_105 trivial (OX.of (q := (d, V)) (by rw [plan_stop (by omega)]; simp) (by dsimp only; omega) h hkp)
    · obtain ⟨m, rfl⟩ : ∃ m' : Nat, m = m' + 1 := ⟨m - 1, by omega⟩
      refine g_aload_n dX6_plan_20 rfl ?_
      refine g_getR dX6_plan_21 fX6_48 rfl rfl (by decide) ?_
      refine g_pV0 dX6_plan_24 qX6_175 rfl (by decide) (by decide) (Nat.le_of_ble_eq_true rfl) (x_isFull hi h) ?_
      refine g_ifb_eq (tgt := 35) dX6_plan_27 (by decide) (fun h27 => ?_) (fun h27 => ?_)
      · refine g_aload_n dX6_plan_35 rfl ?_
        refine g_getR dX6_plan_36 fX6_41 rfl rfl (by decide) ?_
        refine g_eV0 dX6_plan_39 qX6_185 rfl (by decide) (by decide) (Nat.le_of_ble_eq_true rfl) (x_best hi h (by omega)) ?_
        intro τ1 hq1
        obtain ⟨h, hc1⟩ := hq1
        replace hkp : keepX σ τ1 := hkp.trans (fun a ha => hc1 a (by omega))
        have hn32 : i32 (nqV V) := by
          by_cases hne : nqV V = cNone
          · rw [hne]; decide
          · have := nqV_b hi hne; omega
        skip
        refine g_istore_n (i := 3) dX6_plan_42 rfl (by decide) ?_
        refine g_iload_n dX6_plan_43 rfl ?_
        refine g_ldc dX6_plan_44 kX6_167 ?_
        refine g_icmp_ne (tgt := 51) dX6_plan_46 (by decide) (by omega) (by omega) (fun h46 => ?_) (fun h46 => ?_)
        · have hnb := nqV_b hi h46
          have hpl : planV (m + 1) V = ((planV m (addV (mkV V (nqV V / 2) (qOf (nqV V))) (nqV V / 2) (qOf (nqV V)))).1 + 1, (planV m (addV (mkV V (nqV V / 2) (qOf (nqV V))) (nqV V / 2) (qOf (nqV V)))).2) := by
            show (if V 17 0 = 60 ∨ nqV V = cNone then _ else _) = _
            rw [if_neg (by rintro (z | z); exact h27 z; exact h46 z)]
          have kh0 : 0 ≤ nqV V / 2 := by omega
          have kh : nqV V / 2 < V 0 0 := by omega
          refine g_iload_n dX6_plan_51 rfl ?_
          refine g_iconst dX6_plan_52 ?_
          refine g_ishr1 dX6_plan_53 (by omega) ?_
          refine g_istore dX6_plan_54 (by decide) ?_
          refine g_iload_n dX6_plan_56 rfl ?_
          refine g_iconst dX6_plan_57 ?_
          refine g_iand1 dX6_plan_58 ?_
          refine g_if_ne (tgt := 66) dX6_plan_59 (by decide) (by omega) (fun h59 => ?_) (fun h59 => ?_)
          · have hqk : qOf (nqV V) = -1 := if_neg h59
            rw [hqk] at hpl
            refine g_iconst dX6_plan_66 ?_
            refine g_istore dX6_plan_67 (by decide) ?_
            refine g_aload_n dX6_plan_69 rfl ?_
            refine g_getR dX6_plan_70 fX6_32 rfl rfl (by decide) ?_
            refine g_iload dX6_plan_73 rfl ?_
            refine g_iload dX6_plan_75 rfl ?_
            refine g_vV2 dX6_plan_77 qX6_168 rfl (by decide) (by decide) (Nat.le_of_ble_eq_true rfl) (x_suppose hi.i0 h.r0 (nqV V / 2) _ kh0 kh) ?_
            intro τ2 hq2
            obtain ⟨hga2, hk2, -, -⟩ := hq2
            have hX2 : RX V τ2 := h.of23 (fun a a1 _ _ => hk2 a a1)
            have hW := mkV_inv (m := 1) hi (nqV V / 2) (-1) kh0 kh (by decide) (by decide) (by omega)
            refine g_aload_n dX6_plan_80 rfl ?_
            refine g_getR dX6_plan_81 fX6_32 rfl rfl (by decide) ?_
            refine g_vV0 dX6_plan_84 qX6_179 rfl (by decide) (by decide) (Nat.le_of_ble_eq_true rfl) (x_keep hi hW hX2 hga2 kh0 kh (by omega)) ?_
            intro τ3 hq3
            obtain ⟨h3, -, -, hk3, -⟩ := hq3
            refine g_aload_n dX6_plan_87 rfl ?_
            refine g_getR dX6_plan_88 fX6_48 rfl rfl (by decide) ?_
            refine g_iload dX6_plan_91 rfl ?_
            refine g_iload dX6_plan_93 rfl ?_
            refine g_vV2 dX6_plan_95 qX6_182 rfl (by decide) (by decide) (Nat.le_of_ble_eq_true rfl) (x_add hW h3 (nqV V / 2) _ (by rw [mkV_o (by decide) (by decide) (by decide)]; omega)) ?_
            intro τ4 hq4
            obtain ⟨h4, hk4⟩ := hq4
            refine g_iinc dX6_plan_98 rfl (by decide) ?_
            refine g_goto (tgt := 15) dX6_plan_101 (by decide) ?_
            have hfin := ih m (d + 1) _ _ _ (x3 := some (aI (nqV V))) (x4 := some (aI (nqV V / 2))) (x5 := some (aI (-1))) (by omega) (by omega) (by omega) (Inv.add hW (by rw [mkV_o (by decide) (by decide) (by decide)]; omega) kh0 (by rw [mkV_o (by decide) (by decide) (by decide)]; omega) (by decide)) (by omega) h4 (fun a ha => by rw [hk4 a (by omega) (by omega) (by omega), hk3 a (by omega) (by omega) (by omega) (by omega), hk2 a (by omega)]; exact hkp a ha)
            rw [hpl]
            dsimp only
            rw [show d + ((planV m (addV (mkV V (nqV V / 2) (-1)) (nqV V / 2) (-1))).1 + 1) = d + 1 + (planV m (addV (mkV V (nqV V / 2) (-1)) (nqV V / 2) (-1))).1 by omega]
            exact hfin
          · have hqk : qOf (nqV V) = 1 := if_pos h59
            rw [hqk] at hpl
            refine g_iconst dX6_plan_62 ?_
            refine g_goto (tgt := 67) dX6_plan_63 (by decide) ?_
            refine g_istore dX6_plan_67 (by decide) ?_
            refine g_aload_n dX6_plan_69 rfl ?_
            refine g_getR dX6_plan_70 fX6_32 rfl rfl (by decide) ?_
            refine g_iload dX6_plan_73 rfl ?_
            refine g_iload dX6_plan_75 rfl ?_
            refine g_vV2 dX6_plan_77 qX6_168 rfl (by decide) (by decide) (Nat.le_of_ble_eq_true rfl) (x_suppose hi.i0 h.r0 (nqV V / 2) _ kh0 kh) ?_
            intro τ2 hq2
            obtain ⟨hga2, hk2, -, -⟩ := hq2
            have hX2 : RX V τ2 := h.of23 (fun a a1 _ _ => hk2 a a1)
            have hW := mkV_inv (m := 1) hi (nqV V / 2) (1) kh0 kh (by decide) (by decide) (by omega)
            refine g_aload_n dX6_plan_80 rfl ?_
            refine g_getR dX6_plan_81 fX6_32 rfl rfl (by decide) ?_
            refine g_vV0 dX6_plan_84 qX6_179 rfl (by decide) (by decide) (Nat.le_of_ble_eq_true rfl) (x_keep hi hW hX2 hga2 kh0 kh (by omega)) ?_
            intro τ3 hq3
            obtain ⟨h3, -, -, hk3, -⟩ := hq3
            refine g_aload_n dX6_plan_87 rfl ?_
            refine g_getR dX6_plan_88 fX6_48 rfl rfl (by decide) ?_
            refine g_iload dX6_plan_91 rfl ?_
            refine g_iload dX6_plan_93 rfl ?_
            refine g_vV2 dX6_plan_95 qX6_182 rfl (by decide) (by decide) (Nat.le_of_ble_eq_true rfl) (x_add hW h3 (nqV V / 2) _ (by rw [mkV_o (by decide) (by decide) (by decide)]; omega)) ?_
            intro τ4 hq4
            obtain ⟨h4, hk4⟩ := hq4
            refine g_iinc dX6_plan_98 rfl (by decide) ?_
            refine g_goto (tgt := 15) dX6_plan_101 (by decide) ?_
            have hfin := ih m (d + 1) _ _ _ (x3 := some (aI (nqV V))) (x4 := some (aI (nqV V / 2))) (x5 := some (aI (1))) (by omega) (by omega) (by omega) (Inv.add hW (by rw [mkV_o (by decide) (by decide) (by decide)]; omega) kh0 (by rw [mkV_o (by decide) (by decide) (by decide)]; omega) (by decide)) (by omega) h4 (fun a ha => by rw [hk4 a (by omega) (by omega) (by omega), hk3 a (by omega) (by omega) (by omega) (by omega), hk2 a (by omega)]; exact hkp a ha)
            rw [hpl]
            dsimp only
            rw [show d + ((planV m (addV (mkV V (nqV V / 2) (1)) (nqV V / 2) (1))).1 + 1) = d + 1 + (planV m (addV (mkV V (nqV V / 2) (1)) (nqV V / 2) (1))).1 by omega]
            exact hfin
        · refine g_iload_n dX6_plan_49 rfl ?_
          exact g_iret dX6_plan_50 trivial (OX.of (q := (d, V)) (by show (d + (planV (m + 1) V).1, (planV (m + 1) V).2) = _; rw [show planV (m + 1) V = (0, V) from if_pos (Or.inr h46)]; simp) rfl h hkp)
      · refine g_ldc dX6_plan_30 kX6_167 ?_
        refine g_goto (tgt := 42) dX6_plan_32 (by decide) ?_
        skip
        refine g_istore_n (i := 3) dX6_plan_42 rfl (by decide) ?_
        refine g_iload_n dX6_plan_43 rfl ?_
        refine g_ldc dX6_plan_44 kX6_167 ?_
        refine g_icmp_ne (tgt := 51) dX6_plan_46 (by decide) (by decide) (by decide) (fun h => absurd h (by decide)) (fun _ => ?_)
        refine g_iload_n dX6_plan_49 rfl ?_
        exact g_iret dX6_plan_50 trivial (OX.of (q := (d, V)) (by rw [plan_stop (Or.inr h27)]; simp) rfl h hkp)

theorem y_plan {b : Int} {V σ : Mem} (hi : Inv b V) (h : RX V σ) (q : Int) (i_q : i32 q) (hb : b + 200000 + 120000 ≤ 500000000) : Ret 41 mX6_plan [aR 0, aI q] σ (OX σ (p_plan V q)) := by
  refine Ret.of [some (aR 0), some (aI q), none, none, none, none] rfl (plainFor_of_name (by decide)) (Nat.le_of_ble_eq_true rfl) ?_
  have hN := hi.N2
  refine g_iload_n dX6_plan_0 rfl ?_
  refine g_iconst dX6_plan_1 ?_
  refine g_bipush (v := 60) dX6_plan_2 (by decide) ?_
  refine g_pS3 dX6_plan_4 sX6_85 (by decide) (Nat.le_of_ble_eq_true rfl) (x_lies _ _ _ (by omega) (by omega) (by omega)) ?_
  refine g_ifb_ne (tgt := 13) dX6_plan_7 (by decide) (fun h7 => ?_) (fun h7 => ?_)
  · refine g_iconst dX6_plan_13 ?_
    refine g_istore_n (i := 2) dX6_plan_14 rfl (by decide) ?_
    have e : p_plan V q = (0 + (planV q.toNat V).1, (planV q.toNat V).2) := by
      unfold p_plan
      rw [if_neg (by omega)]
      simp
    rw [e]
    exact y_plan_lp q (by omega) 61 q.toNat 0 b V σ _ _ _ (by omega) (by omega) (by omega) hi (by omega) h keepX.rfl
  · refine g_ldc dX6_plan_10 kX6_63 ?_
    exact g_iret dX6_plan_12 trivial (OX.of (q := (cBad, V)) (by unfold p_plan; rw [if_pos (by omega)]) rfl h keepX.rfl)
