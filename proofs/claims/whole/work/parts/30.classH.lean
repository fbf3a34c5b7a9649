theorem x_stillHas {b b2 : Int} {V σ : Mem} {s n : Int} (hi : Inv b V) (hW : Inv b2 (mkV V s n)) (h : RX V σ) (hg : GA V σ s n) (hr : GR V σ) (s0 : 0 ≤ s) (s1 : s < V 0 0) (hn : -100 ≤ n ∧ n ≤ 100) (hu : okU V σ) : RetV 41 mX0_stillHas [aR 23, aI (σ 24 3)] σ (aI (b2i (hasF (mkV V s n) (σ 23 9) (σ 23 10) (σ 24 3) = true))) := by
  have hN := hi.N2
  have eN := mk_N V s n
  have e14 := mk_14 V s n
  have hbb := hW.b
  have hl := hi.lim 3 (by decide) (by decide)
  obtain ⟨⟨k1, k2, k3⟩, k5⟩ := hu
  generalize σ 24 3 = f at *
  have k4 : 0 ≤ f % 100 := by omega
  refine Ret.of [some (aR 23), some (aI f), none] rfl (plainFor_of_name (by decide)) (Nat.le_of_ble_eq_true rfl) ?_
  refine g_iload_n dX0_stillHas_0 rfl ?_
  refine g_bipush (v := 100) dX0_stillHas_1 (by decide) ?_
  refine g_irem dX0_stillHas_3 (by omega) (by omega) (by omega) ?_
  rw [modN0 k1]
  refine g_istore_n (i := 2) dX0_stillHas_4 rfl (by decide) ?_
  refine g_iload_n dX0_stillHas_5 rfl ?_
  refine g_bipush (v := 100) dX0_stillHas_6 (by decide) ?_
  refine g_idiv dX0_stillHas_8 (by omega) (by omega) (by omega) ?_
  rw [Int.tdiv_eq_ediv_of_nonneg k1]
  rcases (show f / 100 = 0 ∨ f / 100 = 1 ∨ f / 100 = 2 ∨ f / 100 = 3 ∨ f / 100 = 4 ∨ f / 100 = 5 by omega) with hq | hq | hq | hq | hq | hq
  · rw [hq]
    refine g_tabIn (off := 39) (tgt := 48) dX0_stillHas_9 (by decide) (by decide) (by decide) rfl (by decide) ?_
    refine g_aload_n dX0_stillHas_48 rfl ?_
    refine g_iconst dX0_stillHas_49 ?_
    refine g_iload_n dX0_stillHas_50 rfl ?_
    refine g_pV2 dX0_stillHas_51 qX0_138 rfl (by decide) (by decide) (Nat.le_of_ble_eq_true rfl) (x_gBent0 hi hW h hg hr s0 s1 hn (f % 100) k4 k3) ?_
    exact g_iret dX0_stillHas_54 (by first | exact Or.inl rfl | exact Or.inr rfl | exact b2i_ok) ⟨congrArg (fun x => some (aI x)) (b2i_iff (by unfold hasF; rw [if_pos (by omega), show f % 100 = f by omega]; simp)), rfl⟩
  · rw [hq]
    refine g_tabIn (off := 46) (tgt := 55) dX0_stillHas_9 (by decide) (by decide) (by decide) rfl (by decide) ?_
    refine g_aload_n dX0_stillHas_55 rfl ?_
    refine g_iconst dX0_stillHas_56 ?_
    refine g_iload_n dX0_stillHas_57 rfl ?_
    refine g_pV2 dX0_stillHas_58 qX0_138 rfl (by decide) (by decide) (Nat.le_of_ble_eq_true rfl) (x_gBent1 hi hW h hg hr s0 s1 hn (f % 100) k4 k3) ?_
    exact g_iret dX0_stillHas_61 (by first | exact Or.inl rfl | exact Or.inr rfl | exact b2i_ok) ⟨congrArg (fun x => some (aI x)) (b2i_iff (by unfold hasF; rw [if_neg (by omega), if_pos (by omega), show f % 100 = f - 100 by omega]; simp)), rfl⟩
  · rw [hq]
    refine g_tabIn (off := 53) (tgt := 62) dX0_stillHas_9 (by decide) (by decide) (by decide) rfl (by decide) ?_
    refine g_aload_n dX0_stillHas_62 rfl ?_
    refine g_pV0 dX0_stillHas_63 qX0_142 rfl (by decide) (by decide) (Nat.le_of_ble_eq_true rfl) (x_offMid hi hW h hg hr s0 s1 hn) ?_
    exact g_iret dX0_stillHas_66 (by first | exact Or.inl rfl | exact Or.inr rfl | exact b2i_ok) ⟨congrArg (fun x => some (aI x)) (b2i_iff (by unfold hasF; rw [if_neg (by omega), if_neg (by omega), if_pos (by omega)]; simp)), rfl⟩
  · rw [hq]
    refine g_tabIn (off := 58) (tgt := 67) dX0_stillHas_9 (by decide) (by decide) (by decide) rfl (by decide) ?_
    have hz : (0 ≤ σ 23 9 ∧ σ 23 9 < V 0 0) ∧ (0 ≤ σ 23 10 ∧ σ 23 10 < V 0 0) := by
      rcases k5 (by omega) (by omega) with ⟨z1, z2⟩ | ⟨z1, z2⟩ <;> exact ⟨⟨z1.1, z1.2.1⟩, z2.1, z2.2.1⟩
    have p9 := hW.pull (σ 23 9) hz.1.1 (by omega)
    have p10 := hW.pull (σ 23 10) hz.2.1 (by omega)
    have hv3 : hasF (mkV V s n) (σ 23 9) (σ 23 10) f = decide (mkV V s n 14 3 < mkV V s n 2 (σ 23 10) - mkV V s n 2 (σ 23 9)) := by unfold hasF; rw [if_neg (by omega), if_neg (by omega), if_neg (by omega), if_pos (by omega)]
    rw [hv3, e14]
    refine g_aload_n dX0_stillHas_67 rfl ?_
    refine g_aload_n dX0_stillHas_68 rfl ?_
    refine g_getI (ji := 10) rfl dX0_stillHas_69 fX0_103 rfl rfl (by decide) ?_
    refine g_pV1 dX0_stillHas_72 qX0_84 rfl (by decide) (by decide) (Nat.le_of_ble_eq_true rfl) (x_pullOf hi hW h hg hr s0 s1 hn (σ 23 10) hz.2.1 hz.2.2) ?_
    refine g_aload_n dX0_stillHas_75 rfl ?_
    refine g_aload_n dX0_stillHas_76 rfl ?_
    refine g_getI (ji := 9) rfl dX0_stillHas_77 fX0_100 rfl rfl (by decide) ?_
    refine g_pV1 dX0_stillHas_80 qX0_84 rfl (by decide) (by decide) (Nat.le_of_ble_eq_true rfl) (x_pullOf hi hW h hg hr s0 s1 hn (σ 23 9) hz.1.1 hz.1.2) ?_
    refine g_isub dX0_stillHas_83 ?_
    refine g_aload_n dX0_stillHas_84 rfl ?_
    refine g_getR dX0_stillHas_85 fX0_19 rfl rfl (by decide) ?_
    refine g_iconst dX0_stillHas_88 ?_
    refine g_iaload dX0_stillHas_89 rfl (by decide) (by omega) (by omega) (by decide) ?_
    rw [h.lim _ (by omega) (by omega)]
    refine g_icmp_le (tgt := 97) dX0_stillHas_90 (by decide) (by omega) (by omega) (fun h90 => ?_) (fun h90 => ?_)
    · refine g_iconst dX0_stillHas_97 ?_
      exact g_iret dX0_stillHas_98 (by first | exact Or.inl rfl | exact Or.inr rfl | exact b2i_ok) (by first | exact aI_b2i1 (by simp; omega) rfl | exact aI_b2i0 (by simp; omega) rfl)
    · refine g_iconst dX0_stillHas_93 ?_
      refine g_goto (tgt := 98) dX0_stillHas_94 (by decide) ?_
      exact g_iret dX0_stillHas_98 (by first | exact Or.inl rfl | exact Or.inr rfl | exact b2i_ok) (by first | exact aI_b2i1 (by simp; omega) rfl | exact aI_b2i0 (by simp; omega) rfl)
  · rw [hq]
    refine g_tabIn (off := 90) (tgt := 99) dX0_stillHas_9 (by decide) (by decide) (by decide) rfl (by decide) ?_
    refine g_aload_n dX0_stillHas_99 rfl ?_
    refine g_iload_n dX0_stillHas_100 rfl ?_
    refine g_pV1 dX0_stillHas_101 qX0_135 rfl (by decide) (by decide) (Nat.le_of_ble_eq_true rfl) (x_gLoose hi hW h hg hr s0 s1 hn (f % 100) k4 k3) ?_
    exact g_iret dX0_stillHas_104 (by first | exact Or.inl rfl | exact Or.inr rfl | exact b2i_ok) ⟨congrArg (fun x => some (aI x)) (b2i_iff (by unfold hasF; rw [if_neg (by omega), if_neg (by omega), if_neg (by omega), if_neg (by omega), if_pos (by omega), show f % 100 = f - 400 by omega]; simp)), rfl⟩
  · rw [hq]
    refine g_tabIn (off := 96) (tgt := 105) dX0_stillHas_9 (by decide) (by decide) (by decide) rfl (by decide) ?_
    refine g_aload_n dX0_stillHas_105 rfl ?_
    refine g_iload_n dX0_stillHas_106 rfl ?_
    refine g_pV1 dX0_stillHas_107 qX0_147 rfl (by decide) (by decide) (Nat.le_of_ble_eq_true rfl) (x_bears hi hW h hg hr s0 s1 hn (f % 100) k4 k3) ?_
    exact g_iret dX0_stillHas_110 (by first | exact Or.inl rfl | exact Or.inr rfl | exact b2i_ok) ⟨congrArg (fun x => some (aI x)) (b2i_iff (by unfold hasF; rw [if_neg (by omega), if_neg (by omega), if_neg (by omega), if_neg (by omega), if_neg (by omega), show f % 100 = f - 500 by omega]; simp)), rfl⟩

/-- behind 'keep' -/
theorem RX.mk {V σ τ : Mem} {s n : Int} (h : RX V σ) (hk : ∀ a, a ≠ 12 → a ≠ 20 → a ≠ 21 → τ a = σ a) (h2 : ∀ j, 0 ≤ j → j < V 0 0 → τ 12 j = mkV V s n 2 j) (h3 : ∀ j, 0 ≤ j → j < V 0 0 → τ 20 j = mkV V s n 3 j) (h4 : ∀ j, 0 ≤ j → j < V 0 0 → τ 21 j = mkV V s n 4 j) : RX (mkV V s n) τ := by
  have e : ∀ a, a ≠ 2 → a ≠ 3 → a ≠ 4 → mkV V s n a = V a := fun a q1 q2 q3 => mkV_o q1 q2 q3
  unfold RX at h ⊢
  rw [e 0 (by decide) (by decide) (by decide), e 1 (by decide) (by decide) (by decide), e 7 (by decide) (by decide) (by decide), e 14 (by decide) (by decide) (by decide), e 15 (by decide) (by decide) (by decide), e 16 (by decide) (by decide) (by decide), e 17 (by decide) (by decide) (by decide), e 18 (by decide) (by decide) (by decide), hk 9 (by decide) (by decide) (by decide), hk 10 (by decide) (by decide) (by decide), hk 41 (by decide) (by decide) (by decide), hk 11 (by decide) (by decide) (by decide), hk 22 (by decide) (by decide) (by decide), hk 26 (by decide) (by decide) (by decide), hk 27 (by decide) (by decide) (by decide), hk 28 (by decide) (by decide) (by decide), hk 29 (by decide) (by decide) (by decide), hk 100 (by decide) (by decide) (by decide), hk 101 (by decide) (by decide) (by decide), hk 102 (by decide) (by decide) (by decide), hk 103 (by decide) (by decide) (by decide), hk 200 (by decide) (by decide) (by decide), hk 201 (by decide) (by decide) (by decide), hk 202 (by decide) (by decide) (by decide), hk 203 (by decide) (by decide) (by decide)]
  refine ⟨h.1, fun j a c => ⟨(h.2.1 j a c).1, h2 j a c⟩, fun r hr j a c => ⟨?_, ?_, ?_⟩, h.2.2.2.1, fun t ht d a c => ?_, h.2.2.2.2.2⟩
  · rcases (show r = 0 ∨ r = 1 by omega) with rfl | rfl
    · exact h3 j a c
    · exact h4 j a c
  · rw [e (5 + r) (by omega) (by omega) (by omega), hk (14 + r) (by omega) (by omega) (by omega)]; exact (h.2.2.1 r hr j a c).2.1
  · rw [unb_mk r hr, hk (17 + r) (by omega) (by omega) (by omega)]; exact (h.2.2.1 r hr j a c).2.2
  · rw [e (8 + t) (by omega) (by omega) (by omega), hk (3 + t) (by omega) (by omega) (by omega)]; exact h.2.2.2.2.1 t ht d a c

theorem x_keep_lp {b b2 : Int} {V σ : Mem} {s n : Int} (hi : Inv b V) (hW : Inv b2 (mkV V s n)) (h : RX V σ) (hg : GA V σ s n) (s0 : 0 ≤ s) (s1 : s < V 0 0) (hn : -100 ≤ n ∧ n ≤ 100) : ∀ (fu : Nat) (k : Int) (τ : Mem), 0 ≤ k → k ≤ V 0 0 → V 0 0 - k < fu → (∀ a, a ≠ 12 → a ≠ 20 → a ≠ 21 → τ a = σ a) → (∀ j, 0 ≤ j → j < V 0 0 → τ 12 j = if j < k then mkV V s n 2 j else V 2 j) → (∀ j, 0 ≤ j → j < V 0 0 → τ 20 j = if j < k then mkV V s n 3 j else V 3 j) → (∀ j, 0 ≤ j → j < V 0 0 → τ 21 j = if j < k then mkV V s n 4 j else V 4 j) → Go 41 mX0_keep 2 [some (aR 23), some (aI k)] [] τ (fun o τ => o = none ∧ (RX (mkV V s n) τ ∧ GA (mkV V s n) τ 0 0 ∧ GR (mkV V s n) τ ∧ (∀ a, a ≠ 12 → a ≠ 20 → a ≠ 21 → a ≠ 23 → τ a = σ a) ∧ sx σ τ)) := by
  intro fu
  induction fu with
  | zero => intros; omega
  | succ fu ih =>
    intro k τ k0 k1 kn t0 t2 t3 t4
    have hN := hi.N2
    have hX : XS V τ := h.r0.keep (fun a ha => t0 a (by omega) (by omega) (by omega))
    have hga : GA V τ s n := by unfold GA; rw [t0 23 (by decide) (by decide) (by decide)]; exact hg
    refine g_iload_n dX0_keep_2 rfl ?_
    refine g_aload_n dX0_keep_3 rfl ?_
    refine g_getR dX0_keep_4 fX0_9 rfl rfl (by decide) ?_
    refine g_getI (ji := 6) rfl dX0_keep_7 fX0_34 rfl rfl (by decide) ?_
    rw [hX.N]
    refine g_icmp_ge (tgt := 91) dX0_keep_10 (by decide) (by omega) (by omega) (fun h10 => ?_) (fun h10 => ?_)
    · have hXW : RX (mkV V s n) τ := h.mk t0 (fun j j0 j1 => by rw [t2 j j0 j1, if_pos (by omega)]) (fun j j0 j1 => by rw [t3 j j0 j1, if_pos (by omega)]) (fun j j0 j1 => by rw [t4 j j0 j1, if_pos (by omega)])
      refine g_aload_n dX0_keep_91 rfl ?_
      refine g_vV0 dX0_keep_92 qX0_87 rfl (by decide) (by decide) (Nat.le_of_ble_eq_true rfl) (x_rest hW hXW) ?_
      intro τ2 hq2
      obtain ⟨q1, q2, q3, q4⟩ := hq2
      exact g_vret dX0_keep_95 trivial ⟨rfl, hXW.of23 (fun a a1 _ _ => q3 a a1), q1, q2, fun a a1 a2 a3 a4 => by rw [q3 a a4]; exact t0 a a1 a2 a3, by unfold sx; rw [q4.1, q4.2, t0 23 (by decide) (by decide) (by decide)]; exact ⟨rfl, rfl⟩⟩
    · have hkN : k < V 0 0 := h10
      have m2 := t2 k k0 hkN
      have m3 := t3 k k0 hkN
      have m4 := t4 k k0 hkN
      rw [if_neg (by omega)] at m2 m3 m4
      have u0 : τ 17 k = unb V 0 k := by rw [t0 17 (by decide) (by decide) (by decide)]; exact h.str 0 (by decide) k k0 hkN
      have u1 : τ 18 k = unb V 1 k := by rw [t0 18 (by decide) (by decide) (by decide)]; exact h.str 1 (by decide) k k0 hkN
      have v0 : unb V 0 k + V 3 k + forceK (V 1 s) * n * leanK (V 1 s) * V 8 (stp (V 0 0) s k) - unb V 0 k = V 3 k + forceK (V 1 s) * n * leanK (V 1 s) * V 8 (stp (V 0 0) s k) := by omega
      have v1 : unb V 1 k + V 4 k + forceK (V 1 s) * n * V 9 (stp (V 0 0) s k) - unb V 1 k = V 4 k + forceK (V 1 s) * n * V 9 (stp (V 0 0) s k) := by omega
      have e4 : k < 32 := by omega
      have hX1 : XS V (up τ 20 k (V 3 k + forceK (V 1 s) * n * leanK (V 1 s) * V 8 (stp (V 0 0) s k))) := hX.keep (fun a ha => up_cell (by omega))
      have hX2 : XS V (up (up τ 20 k (V 3 k + forceK (V 1 s) * n * leanK (V 1 s) * V 8 (stp (V 0 0) s k))) 21 k (V 4 k + forceK (V 1 s) * n * V 9 (stp (V 0 0) s k))) := hX1.keep (fun a ha => up_cell (by omega))
      have hg1 : GA V (up τ 20 k (V 3 k + forceK (V 1 s) * n * leanK (V 1 s) * V 8 (stp (V 0 0) s k))) s n := hga
      have hg2 : GA V (up (up τ 20 k (V 3 k + forceK (V 1 s) * n * leanK (V 1 s) * V 8 (stp (V 0 0) s k))) 21 k (V 4 k + forceK (V 1 s) * n * V 9 (stp (V 0 0) s k))) s n := hga
      refine g_aload_n dX0_keep_13 rfl ?_
      refine g_getR dX0_keep_14 fX0_9 rfl rfl (by decide) ?_
      refine g_getR dX0_keep_17 fX0_72 rfl rfl (by decide) ?_
      refine g_iconst dX0_keep_20 ?_
      refine g_aaload (q := 20) dX0_keep_21 rfl (by decide) (by decide) (by decide) (by decide) rfl ?_
      refine g_iload_n dX0_keep_22 rfl ?_
      refine g_aload_n dX0_keep_23 rfl ?_
      refine g_iconst dX0_keep_24 ?_
      refine g_iload_n dX0_keep_25 rfl ?_
      refine g_pV2 dX0_keep_26 qX0_75 rfl (by decide) (by decide) (Nat.le_of_ble_eq_true rfl) (x_reading0 hi.i0 hX hga s0 s1 hn k (unb V 0 k) (V 3 k) k0 hkN u0 m3) ?_
      refine g_aload_n dX0_keep_29 rfl ?_
      refine g_getR dX0_keep_30 fX0_9 rfl rfl (by decide) ?_
      refine g_getR dX0_keep_33 fX0_78 rfl rfl (by decide) ?_
      refine g_iconst dX0_keep_36 ?_
      refine g_aaload (q := 17) dX0_keep_37 rfl (by decide) (by decide) (by decide) (by decide) rfl ?_
      refine g_iload_n dX0_keep_38 rfl ?_
      refine g_iaload dX0_keep_39 rfl (by decide) k0 e4 (by decide) ?_
      rw [u0]
      refine g_isub dX0_keep_40 ?_
      rw [v0]
      refine g_iastore dX0_keep_41 rfl (by decide) (by decide) k0 e4 (by decide) ?_
      refine g_aload_n dX0_keep_42 rfl ?_
      refine g_getR dX0_keep_43 fX0_9 rfl rfl (by decide) ?_
      refine g_getR dX0_keep_46 fX0_72 rfl rfl (by decide) ?_
      refine g_iconst dX0_keep_49 ?_
      refine g_aaload (q := 21) dX0_keep_50 rfl (by decide) (by decide) (by decide) (by decide) rfl ?_
      refine g_iload_n dX0_keep_51 rfl ?_
      refine g_aload_n dX0_keep_52 rfl ?_
      refine g_iconst dX0_keep_53 ?_
      refine g_iload_n dX0_keep_54 rfl ?_
      refine g_pV2 dX0_keep_55 qX0_75 rfl (by decide) (by decide) (Nat.le_of_ble_eq_true rfl) (x_reading1 hi.i0 hX1 hg1 s0 s1 hn k (unb V 1 k) (V 4 k) k0 hkN (show up τ 20 k _ 18 k = _ by rw [up_cell (by decide)]; exact u1) (show up τ 20 k _ 21 k = _ by rw [up_cell (by decide)]; exact m4)) ?_
      refine g_aload_n dX0_keep_58 rfl ?_
      refine g_getR dX0_keep_59 fX0_9 rfl rfl (by decide) ?_
      refine g_getR dX0_keep_62 fX0_78 rfl rfl (by decide) ?_
      refine g_iconst dX0_keep_65 ?_
      refine g_aaload (q := 18) dX0_keep_66 rfl (by decide) (by decide) (by decide) (by decide) rfl ?_
      refine g_iload_n dX0_keep_67 rfl ?_
      refine g_iaload dX0_keep_68 rfl (by decide) k0 e4 (by decide) ?_
      rw [up_cell (by decide), u1]
      refine g_isub dX0_keep_69 ?_
      rw [v1]
      refine g_iastore dX0_keep_70 rfl (by decide) (by decide) k0 e4 (by decide) ?_
      refine g_aload_n dX0_keep_71 rfl ?_
      refine g_getR dX0_keep_72 fX0_9 rfl rfl (by decide) ?_
      refine g_getR dX0_keep_75 fX0_81 rfl rfl (by decide) ?_
      refine g_iload_n dX0_keep_78 rfl ?_
      refine g_aload_n dX0_keep_79 rfl ?_
      refine g_iload_n dX0_keep_80 rfl ?_
      refine g_pV1 dX0_keep_81 qX0_84 rfl (by decide) (by decide) (Nat.le_of_ble_eq_true rfl) (x_pullOf0 hi.i0 hX2 hg2 s0 s1 hn k (V 2 k) k0 hkN (by rw [up_cell (by decide), up_cell (by decide)]; exact m2)) ?_
      refine g_iastore dX0_keep_84 rfl (by decide) (by decide) k0 e4 (by decide) ?_
      refine g_iinc dX0_keep_85 rfl (by decide) ?_
      refine g_goto (tgt := 2) dX0_keep_88 (by decide) ?_
      refine ih (k + 1) _ (by omega) (by omega) (by omega) (fun a a1 a2 a3 => by rw [up_cell a1, up_cell a3, up_cell a2]; exact t0 a a1 a2 a3) (fun j j0 j1 => ?_) (fun j j0 j1 => ?_) (fun j j0 j1 => ?_)
      · by_cases hj : j = k
        · subst hj
          rw [up_same, if_pos (show j < j + 1 by omega), mkV_2 k0 hkN]
        · rw [up_ne (Or.inr hj), up_cell (by decide), up_cell (by decide), t2 j j0 j1]
          by_cases hjk : j < k
          · rw [if_pos hjk, if_pos (by omega)]
          · rw [if_neg hjk, if_neg (by omega)]
      · rw [up_cell (by decide), up_cell (by decide)]
        by_cases hj : j = k
        · subst hj
          rw [up_same, if_pos (by omega), mkV_3 k0 hkN]
        · rw [up_ne (Or.inr hj), t3 j j0 j1]
          by_cases hjk : j < k
          · rw [if_pos hjk, if_pos (by omega)]
          · rw [if_neg hjk, if_neg (by omega)]
      · rw [up_cell (by decide)]
        by_cases hj : j = k
        · subst hj
          rw [up_same, if_pos (by omega), mkV_4 k0 hkN]
        · rw [up_ne (Or.inr hj), up_cell (by decide), t4 j j0 j1]
          by_cases hjk : j < k
          · rw [if_pos hjk, if_pos (by omega)]
          · rw [if_neg hjk, if_neg (by omega)]

theorem x_keep {b b2 : Int} {V σ : Mem} {s n : Int} (hi : Inv b V) (hW : Inv b2 (mkV V s n)) (h : RX V σ) (hg : GA V σ s n) (s0 : 0 ≤ s) (s1 : s < V 0 0) (hn : -100 ≤ n ∧ n ≤ 100) : Ret 41 mX0_keep [aR 23] σ (fun o τ => o = none ∧ (RX (mkV V s n) τ ∧ GA (mkV V s n) τ 0 0 ∧ GR (mkV V s n) τ ∧ (∀ a, a ≠ 12 → a ≠ 20 → a ≠ 21 → a ≠ 23 → τ a = σ a) ∧ sx σ τ)) := by
  refine Ret.of [some (aR 23), none] rfl (plainFor_of_name (by decide)) (Nat.le_of_ble_eq_true rfl) ?_
  have hN := hi.N2
  refine g_iconst dX0_keep_0 ?_
  refine g_istore_n (i := 1) dX0_keep_1 rfl (by decide) ?_
  exact x_keep_lp hi hW h hg s0 s1 hn 33 0 σ (by omega) (by omega) (by omega) (fun _ _ _ _ => rfl) (fun j j0 j1 => by rw [if_neg (by omega)]; exact h.pull j j0 j1) (fun j j0 j1 => by rw [if_neg (by omega)]; exact h.made 0 (by decide) j j0 j1) (fun j j0 j1 => by rw [if_neg (by omega)]; exact h.made 1 (by decide) j j0 j1)

theorem RX.add {V σ : Mem} {s n : Int} (h : RX V σ)  : RX (addV V s n) (up (up (up σ 27 (V 17 0) s) 28 (V 17 0) n) 26 2 (V 17 0 + 1)) := by
  unfold RX at h ⊢
  obtain ⟨h1, h2, h3, h4, h5, h6, h7, h8, h9, h10⟩ := h
  refine ⟨?_,
    ?_,
    ?_,
    ?_,
    ?_,
    ?_,
    ?_,
    ?_,
    ?_,
    ?_⟩
  · simpa [up, addV] using h1
  · intro j a c
    simpa [up, addV] using h2 j a (by simpa [up, addV] using c)
  · intro r hr j a c
    have c : j < V 0 0 := by simpa [up, addV] using c
    unfold addV unb
    simpa (disch := omega) only [up_cell, unb] using h3 r hr j a c
  · intro t ht
    simpa [up, addV] using h4 t ht
  · intro t ht d a c
    unfold addV
    simpa (disch := omega) only [up_cell] using h5 t ht d a c
  · intro i a c
    simpa [up, addV] using h6 i a c
  · simp [up, addV]
  · intro i a c
    have c : i < V 17 0 + 1 := by simpa [up, addV] using c
    rw [up_cell (show 27 ≠ 26 by decide), up_cell (show 28 ≠ 26 by decide), up_cell (show 27 ≠ 28 by decide)]
    unfold addV
    rw [up_cell (show 15 ≠ 17 by decide), up_cell (show 15 ≠ 16 by decide), up_cell (show 16 ≠ 17 by decide)]
    by_cases hj : i = V 17 0
    · subst hj
      exact ⟨by rw [up_same, up_same], by rw [up_same, up_same]⟩
    · have q := h8 i a (by omega)
      refine ⟨?_, ?_⟩
      · rw [up_ne (Or.inr hj), up_ne (Or.inr hj)]; exact q.1
      · rw [up_ne (Or.inr hj), up_ne (Or.inr hj), up_ne (Or.inr hj), up_cell (show 16 ≠ 15 by decide)]; exact q.2
  · simpa [up, addV] using h9
  · simpa (disch := omega) only [up_cell] using h10

theorem x_add {b : Int} {V σ : Mem} (hi : Inv b V) (h : RX V σ) (s n : Int) (hm : V 17 0 < 60) : Ret 41 mX4_add [aR 26, aI s, aI n] σ (fun o τ => o = none ∧ (RX (addV V s n) τ ∧ ∀ a, a ≠ 26 → a ≠ 27 → a ≠ 28 → τ a = σ a)) := by
  refine Ret.of [some (aR 26), some (aI s), some (aI n)] rfl (plainFor_of_name (by decide)) (Nat.le_of_ble_eq_true rfl) ?_
  have hmm := hi.many
  refine g_aload_n dX4_add_0 rfl ?_
  refine g_pV0 dX4_add_1 qX4_22 rfl (by decide) (by decide) (Nat.le_of_ble_eq_true rfl) (x_isFull hi h) ?_
  refine g_ifb_eq (tgt := 8) dX4_add_4 (by decide) (fun h4 => ?_) (fun h4 => absurd h4 (by omega))
  refine g_aload_n dX4_add_8 rfl ?_
  refine g_getR dX4_add_9 fX4_9 rfl rfl (by decide) ?_
  refine g_aload_n dX4_add_12 rfl ?_
  refine g_getI (ji := 2) rfl dX4_add_13 fX4_18 rfl rfl (by decide) ?_
  rw [h.many]
  refine g_iload_n dX4_add_16 rfl ?_
  refine g_iastore dX4_add_17 rfl (by decide) (by decide) (by omega) (by omega) (by decide) ?_
  refine g_aload_n dX4_add_18 rfl ?_
  refine g_getR dX4_add_19 fX4_15 rfl rfl (by decide) ?_
  refine g_aload_n dX4_add_22 rfl ?_
  refine g_getI (ji := 2) rfl dX4_add_23 fX4_18 rfl rfl (by decide) ?_
  rw [up_cell (by decide), h.many]
  refine g_iload_n dX4_add_26 rfl ?_
  refine g_iastore dX4_add_27 rfl (by decide) (by decide) (by omega) (by omega) (by decide) ?_
  refine g_aload_n dX4_add_28 rfl ?_
  refine g_dup dX4_add_29 (fun x h => by cases h) ?_
  refine g_getI (ji := 2) rfl dX4_add_30 fX4_18 rfl rfl (by decide) ?_
  rw [up_cell (by decide), up_cell (by decide), h.many]
  refine g_iconst dX4_add_33 ?_
  refine g_iadd dX4_add_34 ?_
  refine g_putI (ji := 2) rfl dX4_add_35 vX4_18 rfl rfl (by decide) (by decide) ?_
  exact g_vret dX4_add_38 trivial ⟨rfl, h.add, fun a a1 a2 a3 => by rw [up_cell a1, up_cell a3, up_cell a2]⟩
