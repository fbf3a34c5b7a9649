theorem x_two_lp {b : Int} {V σ : Mem} (hi : Inv b V) (hb : b + 400000 ≤ 500000000) : ∀ (fu : Nat) (s k : Int) (x3 : Option AV) (τ : Mem), 0 ≤ s → s < V 0 0 → 0 ≤ k → k ≤ 8 → 9 * (V 0 0 - s) - k < fu → RX V τ → okU V τ → keepX σ τ → (∀ c, 0 ≤ c → c < 8 * s + k → twoP V c = false) → Go 41 mX2_findsTwo 15 [some (aR 24), some (aI s), some (aI k), x3] [] τ (fun o τ => o = some (aI (b2i (0 ≤ twoV V))) ∧ (RX V τ ∧ (0 ≤ twoV V → τ 25 1 = twoV V / 8 ∧ τ 25 2 = qtr (twoV V % 8) ∧ τ 25 3 = oneV (mkV V (twoV V / 8) (qtr (twoV V % 8))) (twoV V / 8 + 1) / 8 ∧ τ 25 4 = qtr (oneV (mkV V (twoV V / 8) (qtr (twoV V % 8))) (twoV V / 8 + 1) % 8)) ∧ keepX σ τ)) := by
  intro fu
  induction fu with
  | zero => intros; omega
  | succ fu ih =>
    intro s k x3 τ s0 s1 k0 k1 kn hX hu hkp hno
    have hN := hi.N2
    have hbb := hi.b
    refine g_iload_n dX2_findsTwo_15 rfl ?_
    refine g_bipush (v := 8) dX2_findsTwo_16 (by decide) ?_
    refine g_icmp_ge (tgt := 108) dX2_findsTwo_18 (by decide) (by omega) (by omega) (fun h18 => ?_) (fun h18 => ?_)
    · have hk8 : k = 8 := by omega
      subst hk8
      refine g_iinc dX2_findsTwo_108 rfl (by decide) ?_
      refine g_goto (tgt := 2) dX2_findsTwo_111 (by decide) ?_
      refine g_iload_n dX2_findsTwo_2 rfl ?_
      refine g_aload_n dX2_findsTwo_3 rfl ?_
      refine g_getR dX2_findsTwo_4 fX2_15 rfl rfl (by decide) ?_
      refine g_getI (ji := 6) rfl dX2_findsTwo_7 fX2_33 rfl rfl (by decide) ?_
      rw [hX.N]
      refine g_icmp_ge (tgt := 114) dX2_findsTwo_10 (by decide) (by omega) (by omega) (fun h10 => ?_) (fun h10 => ?_)
      · refine g_iconst dX2_findsTwo_114 ?_
        exact g_iret dX2_findsTwo_115 (by first | exact Or.inl rfl | exact Or.inr rfl | exact b2i_ok) (by
              have hv : twoV V = -1 := firstI_no (by omega) (fun c c0 c1 => hno c c0 (by omega))
              exact ⟨by rw [b2i_0 (by omega)], hX, fun hn => by omega, hkp⟩)
      · refine g_iconst dX2_findsTwo_13 ?_
        refine g_istore_n (i := 2) dX2_findsTwo_14 rfl (by decide) ?_
        exact ih (s + 1) 0 x3 τ (by omega) (by omega) (by omega) (by omega) (by omega) hX hu hkp (fun c c0 c1 => hno c c0 (by omega))
    · have qb := qtr_b k0 h18
      have hW : Inv (b + 200000) (mkV V s (qtr k)) := mkV_inv (m := 100) hi s (qtr k) s0 s1 (by omega) (by omega) (by omega)
      have eW := mk_N V s (qtr k)
      have hB : Inv b (mkV (mkV V s (qtr k)) s (-qtr k)) := by rw [mk_back]; exact hi
      have e1 : 0 ≤ k + 1 := by omega
      have e2 : k + 1 ≤ 8 := by omega
      have e3 : 9 * (V 0 0 - s) - (k + 1) < fu := by omega
      refine g_aload_n dX2_findsTwo_21 rfl ?_
      refine g_getR dX2_findsTwo_22 fX2_19 rfl rfl (by decide) ?_
      refine g_iload_n dX2_findsTwo_25 rfl ?_
      refine g_iload_n dX2_findsTwo_26 rfl ?_
      refine g_pS1 dX2_findsTwo_27 sX2_60 (by decide) (Nat.le_of_ble_eq_true rfl) (x_nearest k k0 h18) ?_
      refine g_vV2 dX2_findsTwo_30 qX2_39 rfl (by decide) (by decide) (Nat.le_of_ble_eq_true rfl) (x_suppose hi.i0 hX.r0 s (qtr k) s0 s1) ?_
      intro τ2 hq2
      obtain ⟨hga2, hk2, -, hsx2⟩ := hq2
      have hX2 : RX V τ2 := hX.of23 (fun a a1 _ _ => hk2 a a1)
      have hu2 : okU V τ2 := hu.of rfl rfl (by rw [hk2 24 (by decide)]) hsx2
      have hkp2 : keepX σ τ2 := hkp.trans (fun a ha => hk2 a (by omega))
      refine g_aload_n dX2_findsTwo_33 rfl ?_
      refine g_getR dX2_findsTwo_34 fX2_19 rfl rfl (by decide) ?_
      refine g_pV0 dX2_findsTwo_37 qX2_43 rfl (by decide) (by decide) (Nat.le_of_ble_eq_true rfl) (x_refusedK hi hW hX2 hga2 s0 s1 (by omega)) ?_
      refine g_ifb_ne (tgt := 102) dX2_findsTwo_40 (by decide) (fun h40 => ?_) (fun h40 => ?_)
      · refine g_iinc dX2_findsTwo_102 rfl (by decide) ?_
        refine g_goto (tgt := 15) dX2_findsTwo_105 (by decide) ?_
        exact ih s (k + 1) x3 τ2 s0 s1 e1 e2 e3 hX2 hu2 hkp2 (fun c c0 c1 => by
          by_cases hc : c = 8 * s + k
          · rw [hc]; exact twoP_no k0 h18 (Or.inl (by rw [h40]; decide))
          · exact hno c c0 (by omega))
      · refine g_aload_n dX2_findsTwo_43 rfl ?_
        refine g_getR dX2_findsTwo_44 fX2_19 rfl rfl (by decide) ?_
        refine g_vV0 dX2_findsTwo_47 qX2_64 rfl (by decide) (by decide) (Nat.le_of_ble_eq_true rfl) (x_keep hi hW hX2 hga2 s0 s1 (by omega)) ?_
        intro τ3 hq3
        obtain ⟨h3, -, hgr3, hk3, hsx3⟩ := hq3
        have hu3 : okU (mkV V s (qtr k)) τ3 := hu2.of eW (mk_1 V s (qtr k)) (by rw [hk3 24 (by decide) (by decide) (by decide) (by decide)]) hsx3
        refine g_aload_n dX2_findsTwo_50 rfl ?_
        refine g_iload_n dX2_findsTwo_51 rfl ?_
        refine g_iconst dX2_findsTwo_52 ?_
        refine g_iadd dX2_findsTwo_53 ?_
        refine g_iconst dX2_findsTwo_54 ?_
        refine g_eV2 dX2_findsTwo_55 qX2_53 rfl (by decide) (by decide) (Nat.le_of_ble_eq_true rfl) (x_finds hW h3 hgr3 hu3 (by omega) (s + 1) 3 (by omega) (by rw [eW]; omega) (by omega)) ?_
        intro τ4 hq4
        obtain ⟨h4, -, hu4, hy4, -, hk4⟩ := hq4
        refine g_istore_n (i := 3) dX2_findsTwo_58 rfl (by decide) ?_
        refine g_aload_n dX2_findsTwo_59 rfl ?_
        refine g_getR dX2_findsTwo_60 fX2_19 rfl rfl (by decide) ?_
        refine g_iload_n dX2_findsTwo_63 rfl ?_
        refine g_iload_n dX2_findsTwo_64 rfl ?_
        refine g_pS1 dX2_findsTwo_65 sX2_60 (by decide) (Nat.le_of_ble_eq_true rfl) (x_nearest k k0 h18) ?_
        refine g_ineg dX2_findsTwo_68 ?_
        refine g_vV2 dX2_findsTwo_69 qX2_39 rfl (by decide) (by decide) (Nat.le_of_ble_eq_true rfl) (x_suppose hW.i0 h4.r0 s (-qtr k) s0 (by rw [eW]; exact s1)) ?_
        intro τ5 hq5
        obtain ⟨hga5, hk5, -, hsx5⟩ := hq5
        have hX5 : RX (mkV V s (qtr k)) τ5 := h4.of23 (fun a a1 _ _ => hk5 a a1)
        refine g_aload_n dX2_findsTwo_72 rfl ?_
        refine g_getR dX2_findsTwo_73 fX2_19 rfl rfl (by decide) ?_
        refine g_vV0 dX2_findsTwo_76 qX2_64 rfl (by decide) (by decide) (Nat.le_of_ble_eq_true rfl) (x_keep hW hB hX5 hga5 s0 (by rw [eW]; exact s1) (by omega)) ?_
        intro τ6 hq6
        obtain ⟨h6, -, -, hk6, hsx6⟩ := hq6
        rw [mk_back] at h6
        have hu6 : ¬ 0 ≤ oneV (mkV V s (qtr k)) (s + 1) → okU V τ6 := fun hz => (hu4 hz).of eW.symm (mk_1 V s (qtr k)).symm (by rw [hk6 24 (by decide) (by decide) (by decide) (by decide), hk5 24 (by decide)]) ⟨hsx6.1.trans hsx5.1, hsx6.2.trans hsx5.2⟩
        have hkp6 : keepX σ τ6 := fun a ha => by rw [hk6 a (by omega) (by omega) (by omega) (by omega), hk5 a (by omega), hk4 a (by omega) (by omega) (by omega), hk3 a (by omega) (by omega) (by omega) (by omega)]; exact hkp2 a ha
        have h256 : τ6 25 = τ4 25 := by rw [hk6 25 (by decide) (by decide) (by decide) (by decide), hk5 25 (by decide)]
        refine g_iload_n dX2_findsTwo_79 rfl ?_
        refine g_ifb_eq (tgt := 102) dX2_findsTwo_80 (by decide) (fun h80 => ?_) (fun h80 => ?_)
        · refine g_iinc dX2_findsTwo_102 rfl (by decide) ?_
          refine g_goto (tgt := 15) dX2_findsTwo_105 (by decide) ?_
          exact ih s (k + 1) _ τ6 s0 s1 e1 e2 e3 h6 (hu6 h80) hkp6 (fun c c0 c1 => by
            by_cases hc : c = 8 * s + k
            · rw [hc]; exact twoP_no k0 h18 (Or.inr h80)
            · exact hno c c0 (by omega))
        · refine g_aload_n dX2_findsTwo_83 rfl ?_
          refine g_getR dX2_findsTwo_84 fX2_9 rfl rfl (by decide) ?_
          refine g_iconst dX2_findsTwo_87 ?_
          refine g_iload_n dX2_findsTwo_88 rfl ?_
          refine g_iastore dX2_findsTwo_89 rfl (by decide) (by decide) (by omega) (by omega) (by decide) ?_
          refine g_aload_n dX2_findsTwo_90 rfl ?_
          refine g_getR dX2_findsTwo_91 fX2_9 rfl rfl (by decide) ?_
          refine g_iconst dX2_findsTwo_94 ?_
          refine g_iload_n dX2_findsTwo_95 rfl ?_
          refine g_pS1 dX2_findsTwo_96 sX2_60 (by decide) (Nat.le_of_ble_eq_true rfl) (x_nearest k k0 h18) ?_
          refine g_iastore dX2_findsTwo_99 rfl (by decide) (by decide) (by omega) (by omega) (by decide) ?_
          refine g_iconst dX2_findsTwo_100 ?_
          exact g_iret dX2_findsTwo_101 (by first | exact Or.inl rfl | exact Or.inr rfl | exact b2i_ok) (by
                have hv : twoV V = 8 * s + k := firstI_eq (by omega) (by omega) (by omega) (twoP_yes k0 h18 (by simpa using h40) h80) hno
                have hd := dm8 (s := s) k0 h18
                refine ⟨by rw [b2i_1 (by omega)], (h6.of23 (fun a _ _ a3 => up_cell a3)).of23 (fun a _ _ a3 => up_cell a3), fun _ => ?_, fun a ha => by rw [up_cell (by omega), up_cell (by omega)]; exact hkp6 a ha⟩
                rw [hv, hd.1, hd.2]
                refine ⟨by rw [up_ne (Or.inr (by omega)), up_same], up_same, ?_, ?_⟩
                · rw [up_ne (Or.inr (by omega)), up_ne (Or.inr (by omega)), h256]; exact (hy4 h80).1
                · rw [up_ne (Or.inr (by omega)), up_ne (Or.inr (by omega)), h256]; exact (hy4 h80).2)

theorem x_two {b : Int} {V σ : Mem} (hi : Inv b V) (h : RX V σ) (hu : okU V σ) (hb : b + 400000 ≤ 500000000) : Ret 41 mX2_findsTwo [aR 24] σ (fun o τ => o = some (aI (b2i (0 ≤ twoV V))) ∧ (RX V τ ∧ (0 ≤ twoV V → τ 25 1 = twoV V / 8 ∧ τ 25 2 = qtr (twoV V % 8) ∧ τ 25 3 = oneV (mkV V (twoV V / 8) (qtr (twoV V % 8))) (twoV V / 8 + 1) / 8 ∧ τ 25 4 = qtr (oneV (mkV V (twoV V / 8) (qtr (twoV V % 8))) (twoV V / 8 + 1) % 8)) ∧ keepX σ τ)) := by
  refine Ret.of [some (aR 24), none, none, none] rfl (plainFor_of_name (by decide)) (Nat.le_of_ble_eq_true rfl) ?_
  have hN := hi.N2
  refine g_iconst dX2_findsTwo_0 ?_
  refine g_istore_n (i := 1) dX2_findsTwo_1 rfl (by decide) ?_
  refine g_iload_n dX2_findsTwo_2 rfl ?_
  refine g_aload_n dX2_findsTwo_3 rfl ?_
  refine g_getR dX2_findsTwo_4 fX2_15 rfl rfl (by decide) ?_
  refine g_getI (ji := 6) rfl dX2_findsTwo_7 fX2_33 rfl rfl (by decide) ?_
  rw [h.N]
  refine g_icmp_ge (tgt := 114) dX2_findsTwo_10 (by decide) (by omega) (by omega) (fun h7 => absurd h7 (by omega)) (fun h7 => ?_)
  refine g_iconst dX2_findsTwo_13 ?_
  refine g_istore_n (i := 2) dX2_findsTwo_14 rfl (by decide) ?_
  exact x_two_lp hi hb 300 0 0 _ σ (by omega) (by omega) (by omega) (by omega) (by omega) h hu keepX.rfl (fun c c0 c1 => by omega)
