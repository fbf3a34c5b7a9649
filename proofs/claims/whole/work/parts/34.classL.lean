def fewM (V : Mem) : Int := if fltV V = cNone then 0 else if 0 ≤ oneV V 0 then 1 else if 0 ≤ twoV V then 2 else cNone
theorem fewM_0 {V : Mem} (h : fltV V = cNone) : fewM V = 0 := if_pos h
theorem fewM_1 {V : Mem} (h : fltV V ≠ cNone) (h1 : 0 ≤ oneV V 0) : fewM V = 1 := by unfold fewM; rw [if_neg h, if_pos h1]
theorem fewM_2 {V : Mem} (h : fltV V ≠ cNone) (h1 : ¬ 0 ≤ oneV V 0) (h2 : 0 ≤ twoV V) : fewM V = 2 := by unfold fewM; rw [if_neg h, if_neg h1, if_pos h2]
theorem fewM_n {V : Mem} (h : fltV V ≠ cNone) (h1 : ¬ 0 ≤ oneV V 0) (h2 : ¬ 0 ≤ twoV V) : fewM V = cNone := by unfold fewM; rw [if_neg h, if_neg h1, if_neg h2]
theorem few_n {V : Mem} {w : Int} (hw : fewM V = cNone) : fewV V w = cNone := by
  unfold fewM at hw
  unfold fewV
  split at hw
  · exact absurd hw (by decide)
  · rw [if_neg (by assumption)]
    split at hw
    · exact absurd hw (by decide)
    · rw [if_neg (by assumption)]
      split at hw
      · exact absurd hw (by decide)
      · rw [if_neg (by assumption)]
theorem few_0 {V : Mem} : fewV V 0 = fewM V := by unfold fewV fewM; rfl
theorem fewM_b {V : Mem} : fewM V = cNone ∨ fewM V = 0 ∨ fewM V = 1 ∨ fewM V = 2 := by
  unfold fewM
  split; simp; split; simp; split; simp; simp
theorem few_far {V : Mem} {w : Int} (h1 : 1 ≤ w) (h4 : w ≤ 4) (h : 2 * fewM V < w) : fewV V w = cNone := by
  unfold fewM at h
  unfold fewV
  split at h
  · rw [if_pos (by assumption), if_neg (by omega)]
  · rw [if_neg (by assumption)]
    split at h
    · rw [if_pos (by assumption), if_neg (by omega), if_neg (by omega), if_neg (by omega)]
    · rw [if_neg (by assumption)]
      split at h
      · exfalso; omega
      · rw [if_neg (by assumption)]

theorem x_few {b : Int} {V σ : Mem} (hi : Inv b V) (h : RX V σ) (hb : b + 400000 ≤ 500000000) : Ret 41 mX2_fewestSpokes [aR 24] σ (fun o τ => o = some (aI (fewM V)) ∧ (RX V τ ∧ (∀ w, 1 ≤ w → w ≤ 4 → w ≤ 2 * fewM V → τ 25 w = fewV V w) ∧ keepX σ τ)) := by
  refine Ret.of [some (aR 24)] rfl (plainFor_of_name (by decide)) (Nat.le_of_ble_eq_true rfl) ?_
  have hN := hi.N2
  have hfb := flt_32 hi
  refine g_aload_n dX2_fewestSpokes_0 rfl ?_
  refine g_getR dX2_fewestSpokes_1 fX2_19 rfl rfl (by decide) ?_
  refine g_vV0 dX2_fewestSpokes_4 qX2_23 rfl (by decide) (by decide) (Nat.le_of_ble_eq_true rfl) (x_rest hi h) ?_
  intro τ hq
  obtain ⟨hga, hgr, hk, hsx⟩ := hq
  have hX : RX V τ := h.of23 (fun a a1 _ _ => hk a a1)
  have hW : Inv b (mkV V 0 0) := by rw [mkV_0]; exact hi
  have hkX : keepX σ τ := fun a ha => hk a (by omega)
  refine g_aload_n dX2_fewestSpokes_7 rfl ?_
  refine g_aload_n dX2_fewestSpokes_8 rfl ?_
  refine g_getR dX2_fewestSpokes_9 fX2_19 rfl rfl (by decide) ?_
  refine g_eV0 dX2_fewestSpokes_12 qX2_47 rfl (by decide) (by decide) (Nat.le_of_ble_eq_true rfl) (x_fault hi hW hX hga hgr (by decide) (by omega) (by omega)) ?_
  intro τ1 hq1
  rw [mkV_0] at hq1
  obtain ⟨hs1, ho30, ho31⟩ := hq1
  replace hX := hX.kept hs1
  replace hgr := hgr.kept hs1
  replace hkX : keepX σ τ1 := hkX.trans (fun a ha => hs1.1 a (by omega))
  have hfu : fltV V ≠ cNone → okU V (up τ1 24 3 (fltV V)) := fun hz => by
    refine ⟨by rw [up_same]; exact flt_okF hN hz, fun z1 z2 => ?_⟩
    rw [up_same] at z1 z2
    rcases flt_300 hN z1 z2 with z | z
    · exact Or.inl ((ho30 z).kept ⟨rfl, rfl⟩)
    · exact Or.inr ((ho31 z).kept ⟨rfl, rfl⟩)
  rw [mkV_0]
  refine g_putI (ji := 3) rfl dX2_fewestSpokes_15 vX2_50 rfl rfl (by decide) (by decide) ?_
  have hfz : (up τ1 24 3 (fltV V)) 24 3 = fltV V := up_same
  refine g_aload_n dX2_fewestSpokes_18 rfl ?_
  refine g_getI (ji := 3) rfl dX2_fewestSpokes_19 fX2_50 rfl rfl (by decide) ?_
  rw [up_same]
  refine g_ldc dX2_fewestSpokes_22 kX2_32 ?_
  refine g_icmp_ne (tgt := 29) dX2_fewestSpokes_24 (by decide) (by omega) (by omega) (fun h24 => ?_) (fun h24 => ?_)
  · refine g_aload_n dX2_fewestSpokes_29 rfl ?_
    refine g_iconst dX2_fewestSpokes_30 ?_
    refine g_iconst dX2_fewestSpokes_31 ?_
    refine g_eV2 dX2_fewestSpokes_32 qX2_53 rfl (by decide) (by decide) (Nat.le_of_ble_eq_true rfl) (x_finds hi (hX.of23 (fun a _ a2 _ => up_cell a2)) (show GR V (up τ1 24 3 (fltV V)) by unfold GR; rw [up_cell (by decide)]; exact hgr) (hfu h24) (by omega) 0 1 (by omega) (by omega) (by omega)) ?_
    intro τ4 hq4
    obtain ⟨h4, -, hu4, hy4, -, hk4⟩ := hq4
    have hkp4 : keepX σ τ4 := fun a ha => by rw [hk4 a (by omega) (by omega) (by omega), up_cell (by omega)]; exact hkX a ha
    refine g_ifb_eq (tgt := 40) dX2_fewestSpokes_35 (by decide) (fun h35 => ?_) (fun h35 => ?_)
    · refine g_aload_n dX2_fewestSpokes_40 rfl ?_
      refine g_eV0 dX2_fewestSpokes_41 qX2_57 rfl (by decide) (by decide) (Nat.le_of_ble_eq_true rfl) (x_two hi h4 (hu4 h35) hb) ?_
      intro τ5 hq5
      obtain ⟨h5, hy5, hk5⟩ := hq5
      refine g_ifb_eq (tgt := 51) dX2_fewestSpokes_44 (by decide) (fun h44 => ?_) (fun h44 => ?_)
      · refine g_ldc dX2_fewestSpokes_51 kX2_32 ?_
        exact g_iret dX2_fewestSpokes_53 trivial ⟨by rw [fewM_n h24 h35 h44]; rfl, h5, fun w w0 w1 w2 => by
      rw [fewM_n h24 h35 h44] at w2
      unfold cNone at w2
      omega, hkp4.trans hk5⟩
      · refine g_iconst dX2_fewestSpokes_47 ?_
        refine g_goto (tgt := 53) dX2_fewestSpokes_48 (by decide) ?_
        exact g_iret dX2_fewestSpokes_53 trivial ⟨by rw [fewM_2 h24 h35 h44], h5, fun w w0 w1 w2 => by
      obtain ⟨z1, z2, z3, z4⟩ := hy5 h44
      unfold fewV
      rw [if_neg (show fltV V ≠ cNone from h24), if_neg h35, if_pos h44, if_neg (by omega)]
      rcases (show w = 1 ∨ w = 2 ∨ w = 3 ∨ w = 4 by omega) with rfl | rfl | rfl | rfl
      · rw [if_pos rfl]; exact z1
      · rw [if_neg (by decide), if_pos rfl]; exact z2
      · rw [if_neg (by decide), if_neg (by decide), if_pos rfl]; exact z3
      · rw [if_neg (by decide), if_neg (by decide), if_neg (by decide)]; exact z4, hkp4.trans hk5⟩
    · refine g_iconst dX2_fewestSpokes_38 ?_
      exact g_iret dX2_fewestSpokes_39 trivial ⟨by rw [fewM_1 h24 h35], h4, fun w w0 w1 w2 => by
            rw [fewM_1 h24 h35] at w2
            unfold fewV
            rw [if_neg (show fltV V ≠ cNone from h24), if_pos h35, if_neg (by omega)]
            rcases (show w = 1 ∨ w = 2 by omega) with rfl | rfl
            · rw [if_pos rfl]; exact (hy4 h35).1
            · rw [if_neg (by decide), if_pos rfl]; exact (hy4 h35).2, hkp4⟩
  · refine g_iconst dX2_fewestSpokes_27 ?_
    exact g_iret dX2_fewestSpokes_28 trivial ⟨by rw [fewM_0 h24], hX.of23 (fun a _ a2 _ => up_cell a2), fun w w0 w1 w2 => by rw [fewM_0 h24] at w2; omega, fun a ha => by rw [up_cell (by omega)]; exact hkX a ha⟩

theorem y_fewest {b : Int} {V σ : Mem} (hi : Inv b V) (h : RX V σ) (w : Int) (i_w : i32 w) (hb : b + 400000 ≤ 500000000) : Ret 41 mX6_fewest [aR 0, aI w] σ (OX σ (p_fewest V w)) := by
  refine Ret.of [some (aR 0), some (aI w), none] rfl (plainFor_of_name (by decide)) (Nat.le_of_ble_eq_true rfl) ?_
  have hN := hi.N2
  refine g_iload_n dX6_fewest_0 rfl ?_
  refine g_iconst dX6_fewest_1 ?_
  refine g_iconst dX6_fewest_2 ?_
  refine g_pS3 dX6_fewest_3 sX6_85 (by decide) (Nat.le_of_ble_eq_true rfl) (x_lies _ _ _ (by omega) (by omega) (by omega)) ?_
  refine g_ifb_ne (tgt := 12) dX6_fewest_6 (by decide) (fun h6 => ?_) (fun h6 => ?_)
  · refine g_aload_n dX6_fewest_12 rfl ?_
    refine g_getR dX6_fewest_13 fX6_41 rfl rfl (by decide) ?_
    refine g_eV0 dX6_fewest_16 qX6_188 rfl (by decide) (by decide) (Nat.le_of_ble_eq_true rfl) (x_few hi h hb) ?_
    intro τ hq
    obtain ⟨hX, hy, hkX⟩ := hq
    have hmb := fewM_b (V := V)
    have hm32 : i32 (fewM V) := by unfold cNone at hmb; omega
    have hm33 : fewM V ≠ cNone → 0 ≤ fewM V ∧ fewM V ≤ 2 := fun _ => by omega
    refine g_istore_n (i := 2) dX6_fewest_19 rfl (by decide) ?_
    refine g_iload_n dX6_fewest_20 rfl ?_
    refine g_ldc dX6_fewest_21 kX6_167 ?_
    refine g_icmp_eq (tgt := 33) dX6_fewest_23 (by decide) (by omega) (by omega) (fun h23 => ?_) (fun h23 => ?_)
    · refine g_ldc dX6_fewest_33 kX6_167 ?_
      exact g_iret dX6_fewest_35 trivial (OX.of (q := (cNone, V)) (by unfold p_fewest; rw [if_neg (by omega), few_n h23]) rfl hX hkX)
    · have hm34 := hm33 h23
      refine g_iload_n dX6_fewest_26 rfl ?_
      refine g_iconst dX6_fewest_27 ?_
      refine g_iload_n dX6_fewest_28 rfl ?_
      refine g_imul dX6_fewest_29 ?_
      refine g_icmp_le (tgt := 36) dX6_fewest_30 (by decide) (by omega) (by omega) (fun h30 => ?_) (fun h30 => ?_)
      · refine g_iload_n dX6_fewest_36 rfl ?_
        refine g_if_ne (tgt := 44) dX6_fewest_37 (by decide) (by omega) (fun h37 => ?_) (fun h37 => ?_)
        · refine g_aload_n dX6_fewest_44 rfl ?_
          refine g_getR dX6_fewest_45 fX6_41 rfl rfl (by decide) ?_
          refine g_getR dX6_fewest_48 fX6_191 rfl rfl (by decide) ?_
          refine g_iload_n dX6_fewest_51 rfl ?_
          refine g_iaload dX6_fewest_52 rfl (by decide) (by omega) (by omega) (by decide) ?_
          rw [hy w (by omega) (by omega) (by omega)]
          exact g_iret dX6_fewest_53 trivial (OX.of (q := (fewV V w, V)) (by unfold p_fewest; rw [if_neg (by omega)]) rfl hX hkX)
        · refine g_iload_n dX6_fewest_40 rfl ?_
          refine g_goto (tgt := 53) dX6_fewest_41 (by decide) ?_
          exact g_iret dX6_fewest_53 trivial (OX.of (q := (fewM V, V)) (by unfold p_fewest; rw [if_neg (by omega), show w = 0 by omega, few_0]) rfl hX hkX)
      · refine g_ldc dX6_fewest_33 kX6_167 ?_
        exact g_iret dX6_fewest_35 trivial (OX.of (q := (cNone, V)) (by unfold p_fewest; rw [if_neg (by omega), few_far (by omega) (by omega) (by omega)]) rfl hX hkX)
  · refine g_ldc dX6_fewest_9 kX6_63 ?_
    exact g_iret dX6_fewest_11 trivial (OX.of (q := (cBad, V)) (by unfold p_fewest; rw [if_pos (by omega)]) rfl h keepX.rfl)
