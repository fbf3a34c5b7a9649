theorem x_nearest {K : Nat} {σ : Mem} (k : Int) (h0 : 0 ≤ k) (h1 : k < 8) : RetV K mX2_nearest [aI k] σ (aI (qtr k)) := by
  refine Ret.of [some (aI k), none] rfl (plainFor_of_name (by decide)) (Nat.le_of_ble_eq_true rfl) ?_
  refine g_iload_n dX2_nearest_0 rfl ?_
  refine g_iconst dX2_nearest_1 ?_
  refine g_ishr1 dX2_nearest_2 (by omega) ?_
  refine g_iconst dX2_nearest_3 ?_
  refine g_iadd dX2_nearest_4 ?_
  refine g_istore_n (i := 1) dX2_nearest_5 rfl (by decide) ?_
  refine g_iload_n dX2_nearest_6 rfl ?_
  refine g_iconst dX2_nearest_7 ?_
  refine g_iand1 dX2_nearest_8 ?_
  refine g_if_ne (tgt := 16) dX2_nearest_9 (by decide) (by omega) (fun h9 => ?_) (fun h9 => ?_)
  · refine g_iload_n dX2_nearest_16 rfl ?_
    refine g_ineg dX2_nearest_17 ?_
    exact g_iret dX2_nearest_18 trivial ⟨by unfold qtr; congr 2; omega, rfl⟩
  · refine g_iload_n dX2_nearest_12 rfl ?_
    refine g_goto (tgt := 18) dX2_nearest_13 (by decide) ?_
    exact g_iret dX2_nearest_18 trivial ⟨by unfold qtr; congr 2; omega, rfl⟩

theorem x_brings {b b2 : Int} {V σ : Mem} {s n : Int} (hi : Inv b V) (hW : Inv b2 (mkV V s n)) (h : RX V σ) (hg : GA V σ s n) (hr : GR V σ) (s0 : 0 ≤ s) (s1 : s < V 0 0) (hn : -100 ≤ n ∧ n ≤ 100)  (hu : okF (V 0 0) (σ 24 3)) : Ret 41 mX2_bringsWithin [aR 24] σ ((fun o τ => o = some (aI (b2i (fltV (mkV V s n) = cNone ∧ overAt (mkV V s n) = -1))) ∧ (okF (V 0 0) (τ 24 3) ∧ (∀ a, a ≠ 24 → τ a = σ a) ∧ ∀ j, j ≠ 3 → τ 24 j = σ 24 j))) := by
  refine Ret.of [some (aR 24), none] rfl (plainFor_of_name (by decide)) (Nat.le_of_ble_eq_true rfl) ?_
  have hN := hi.N2
  have eN := mk_N V s n
  have e14 := mk_14 V s n
  have hbb := hW.b
  have hob := over_b (mkV V s n) (by omega)
  have ho32 : i32 (if overAt (mkV V s n) = -1 then cNone else 500 + overAt (mkV V s n)) := by unfold cNone; omega
  have hf32 := flt_32 hW
  refine g_aload_n dX2_bringsWithin_0 rfl ?_
  refine g_getR dX2_bringsWithin_1 fX2_19 rfl rfl (by decide) ?_
  refine g_aload_n dX2_bringsWithin_4 rfl ?_
  refine g_getI (ji := 3) rfl dX2_bringsWithin_5 fX2_50 rfl rfl (by decide) ?_
  refine g_pV1 dX2_bringsWithin_8 qX2_74 rfl (by decide) (by decide) (Nat.le_of_ble_eq_true rfl) (x_hasFault hi hW h hg hr s0 s1 hn _ hu) ?_
  refine g_ifb_eq (tgt := 16) dX2_bringsWithin_11 (by decide) (fun h11 => ?_) (fun h11 => ?_)
  · refine g_aload_n dX2_bringsWithin_16 rfl ?_
    refine g_getR dX2_bringsWithin_17 fX2_19 rfl rfl (by decide) ?_
    refine g_pV0 dX2_bringsWithin_20 qX2_47 rfl (by decide) (by decide) (Nat.le_of_ble_eq_true rfl) (x_fault hi hW h hg hr s0 s1 hn) ?_
    refine g_istore_n (i := 1) dX2_bringsWithin_23 rfl (by decide) ?_
    refine g_iload_n dX2_bringsWithin_24 rfl ?_
    refine g_ldc dX2_bringsWithin_25 kX2_32 ?_
    refine g_icmp_ne (tgt := 38) dX2_bringsWithin_27 (by decide) (by first | assumption | omega) (by first | assumption | omega) (fun h27 => ?_) (fun h27 => ?_)
    · refine g_iload_n dX2_bringsWithin_38 rfl ?_
      refine g_ldc dX2_bringsWithin_39 kX2_32 ?_
      refine g_icmp_ne (tgt := 46) dX2_bringsWithin_41 (by decide) (by first | assumption | omega) (by first | assumption | omega) (fun h41 => ?_) (fun h41 => ?_)
      · refine g_aload_n dX2_bringsWithin_46 rfl ?_
        refine g_iload_n dX2_bringsWithin_47 rfl ?_
        refine g_putI (ji := 3) rfl dX2_bringsWithin_48 vX2_50 rfl rfl (by decide) (by decide) ?_
        refine g_iconst dX2_bringsWithin_51 ?_
        exact g_iret dX2_bringsWithin_52 (by first | exact Or.inl rfl | exact Or.inr rfl | exact b2i_ok) ⟨by rw [b2i_0 (fun q => h27 q.1)], by rw [up_same, ← eN]; exact flt_okF (by omega) h27, fun a ha => up_cell ha, fun j hj => up_ne (Or.inr hj)⟩
      · refine g_iconst dX2_bringsWithin_44 ?_
        exact g_iret dX2_bringsWithin_45 (by first | exact Or.inl rfl | exact Or.inr rfl | exact b2i_ok) (by first | exact absurd h41 h27 | exact ⟨by rw [b2i_1 ⟨h27, by rcases (show overAt (mkV V s n) = -1 ∨ overAt (mkV V s n) ≠ -1 by omega) with q | q; exact q; rw [if_neg q] at h41; omega⟩], hu, fun _ _ => rfl, fun _ _ => rfl⟩)
    · refine g_aload_n dX2_bringsWithin_30 rfl ?_
      refine g_getR dX2_bringsWithin_31 fX2_19 rfl rfl (by decide) ?_
      refine g_pV0 dX2_bringsWithin_34 qX2_77 rfl (by decide) (by decide) (Nat.le_of_ble_eq_true rfl) (x_overload hi hW h hg hr s0 s1 hn) ?_
      refine g_istore_n (i := 1) dX2_bringsWithin_37 rfl (by decide) ?_
      refine g_iload_n dX2_bringsWithin_38 rfl ?_
      refine g_ldc dX2_bringsWithin_39 kX2_32 ?_
      refine g_icmp_ne (tgt := 46) dX2_bringsWithin_41 (by decide) (by first | assumption | omega) (by first | assumption | omega) (fun h41 => ?_) (fun h41 => ?_)
      · refine g_aload_n dX2_bringsWithin_46 rfl ?_
        refine g_iload_n dX2_bringsWithin_47 rfl ?_
        refine g_putI (ji := 3) rfl dX2_bringsWithin_48 vX2_50 rfl rfl (by decide) (by decide) ?_
        refine g_iconst dX2_bringsWithin_51 ?_
        exact g_iret dX2_bringsWithin_52 (by first | exact Or.inl rfl | exact Or.inr rfl | exact b2i_ok) (by
          have ho : overAt (mkV V s n) ≠ -1 := fun q => h41 (by rw [if_pos q]; rfl)
          exact ⟨by rw [b2i_0 (fun q => ho q.2)], by rw [up_same, if_neg ho]; unfold okF; omega, fun a ha => up_cell ha, fun j hj => up_ne (Or.inr hj)⟩)
      · refine g_iconst dX2_bringsWithin_44 ?_
        exact g_iret dX2_bringsWithin_45 (by first | exact Or.inl rfl | exact Or.inr rfl | exact b2i_ok) (by first | exact absurd h41 h27 | exact ⟨by rw [b2i_1 ⟨h27, by rcases (show overAt (mkV V s n) = -1 ∨ overAt (mkV V s n) ≠ -1 by omega) with q | q; exact q; rw [if_neg q] at h41; omega⟩], hu, fun _ _ => rfl, fun _ _ => rfl⟩)
  · refine g_iconst dX2_bringsWithin_14 ?_
    exact g_iret dX2_bringsWithin_15 (by first | exact Or.inl rfl | exact Or.inr rfl | exact b2i_ok) ⟨by rw [b2i_0 (fun q => by rw [hasF_no (by rw [eN]; exact hu) q.1 q.2] at h11; exact absurd h11 (by decide))], hu, fun _ _ => rfl, fun _ _ => rfl⟩

theorem x_finds_lp {b : Int} {V σ : Mem} (hi : Inv b V) (hb : b + 200000 ≤ 500000000) (fr q : Int) (hfr : 0 ≤ fr) (hq : 0 ≤ q ∧ q ≤ 3) : ∀ (fu : Nat) (t k : Int) (τ : Mem), fr ≤ t → t < V 0 0 → 0 ≤ k → k ≤ 8 → 9 * (V 0 0 - t) - k < fu → RX V τ → GR V τ → okF (V 0 0) (τ 24 3) → τ 25 = σ 25 → (∀ a, a ≠ 23 → a ≠ 24 → a ≠ 25 → τ a = σ a) → (∀ c, 8 * fr ≤ c → c < 8 * t + k → oneP V c = false) → Go 41 mX2_findsOne 16 [some (aR 24), some (aI fr), some (aI q), some (aI t), some (aI k)] [] τ (fun o τ => o = some (aI (b2i (0 ≤ oneV V fr))) ∧ (RX V τ ∧ GR V τ ∧ okF (V 0 0) (τ 24 3) ∧ (0 ≤ oneV V fr → τ 25 q = oneV V fr / 8 ∧ τ 25 (q + 1) = qtr (oneV V fr % 8)) ∧ (∀ j, j ≠ q → j ≠ q + 1 → τ 25 j = σ 25 j) ∧ (∀ a, a ≠ 23 → a ≠ 24 → a ≠ 25 → τ a = σ a))) := by
  intro fu
  induction fu with
  | zero => intros; omega
  | succ fu ih =>
    intro t k τ t0 t1 k0 k1 kn hX hgr hu h25 hk hno
    have hN := hi.N2
    have hbb := hi.b
    refine g_iload dX2_findsOne_16 rfl ?_
    refine g_bipush (v := 8) dX2_findsOne_18 (by decide) ?_
    refine g_icmp_ge (tgt := 82) dX2_findsOne_20 (by decide) (by omega) (by omega) (fun h20 => ?_) (fun h20 => ?_)
    · have hno8 : ∀ c, 8 * fr ≤ c → c < 8 * (t + 1) → oneP V c = false := fun c c0 c1 => hno c c0 (by omega)
      refine g_iinc dX2_findsOne_82 rfl (by decide) ?_
      refine g_goto (tgt := 2) dX2_findsOne_85 (by decide) ?_
      refine g_iload_n dX2_findsOne_2 rfl ?_
      refine g_aload_n dX2_findsOne_3 rfl ?_
      refine g_getR dX2_findsOne_4 fX2_15 rfl rfl (by decide) ?_
      refine g_getI (ji := 5) rfl dX2_findsOne_7 fX2_33 rfl rfl (by decide) ?_
      rw [hX.N]
      refine g_icmp_ge (tgt := 88) dX2_findsOne_10 (by decide) (by omega) (by omega) (fun h10 => ?_) (fun h10 => ?_)
      · refine g_iconst dX2_findsOne_88 ?_
        exact g_iret dX2_findsOne_89 (by first | exact Or.inl rfl | exact Or.inr rfl | exact b2i_ok) (by
              have hv : oneV V fr = -1 := oneV_no hfr (fun c c0 c1 => hno8 c c0 (by omega))
              exact ⟨by rw [b2i_0 (by omega)], hX, hgr, hu, fun hn => by omega, fun j _ _ => by rw [h25], hk⟩)
      · refine g_iconst dX2_findsOne_13 ?_
        refine g_istore dX2_findsOne_14 (by decide) ?_
        exact ih (t + 1) 0 τ (by omega) (by omega) (by omega) (by omega) (by omega) hX hgr hu h25 hk (fun c c0 c1 => hno8 c c0 (by omega))
    · refine g_aload_n dX2_findsOne_23 rfl ?_
      refine g_getR dX2_findsOne_24 fX2_15 rfl rfl (by decide) ?_
      refine g_iload_n dX2_findsOne_27 rfl ?_
      refine g_pV1 dX2_findsOne_28 qX2_67 rfl (by decide) (by decide) (Nat.le_of_ble_eq_true rfl) (x_isGone hi.i0 hX.r0 t (by omega) t1) ?_
      refine g_ifb_ne (tgt := 82) dX2_findsOne_31 (by decide) (fun h31 => ?_) (fun h31 => ?_)
      · have hno8 : ∀ c, 8 * fr ≤ c → c < 8 * (t + 1) → oneP V c = false := fun c c0 c1 => by
          by_cases hc : c < 8 * t + k
          · exact hno c c0 hc
          · rw [show c = 8 * t + (c - 8 * t) by omega]
            exact oneP_no (by omega) (by omega) (Or.inl (by rw [okV_gone h31]; decide))
        refine g_iinc dX2_findsOne_82 rfl (by decide) ?_
        refine g_goto (tgt := 2) dX2_findsOne_85 (by decide) ?_
        refine g_iload_n dX2_findsOne_2 rfl ?_
        refine g_aload_n dX2_findsOne_3 rfl ?_
        refine g_getR dX2_findsOne_4 fX2_15 rfl rfl (by decide) ?_
        refine g_getI (ji := 5) rfl dX2_findsOne_7 fX2_33 rfl rfl (by decide) ?_
        rw [hX.N]
        refine g_icmp_ge (tgt := 88) dX2_findsOne_10 (by decide) (by omega) (by omega) (fun h10 => ?_) (fun h10 => ?_)
        · refine g_iconst dX2_findsOne_88 ?_
          exact g_iret dX2_findsOne_89 (by first | exact Or.inl rfl | exact Or.inr rfl | exact b2i_ok) (by
                have hv : oneV V fr = -1 := oneV_no hfr (fun c c0 c1 => hno8 c c0 (by omega))
                exact ⟨by rw [b2i_0 (by omega)], hX, hgr, hu, fun hn => by omega, fun j _ _ => by rw [h25], hk⟩)
        · refine g_iconst dX2_findsOne_13 ?_
          refine g_istore dX2_findsOne_14 (by decide) ?_
          exact ih (t + 1) 0 τ (by omega) (by omega) (by omega) (by omega) (by omega) hX hgr hu h25 hk (fun c c0 c1 => hno8 c c0 (by omega))
      · have qb := qtr_b k0 h20
        have hW : Inv (b + 200000) (mkV V t (qtr k)) := mkV_inv (m := 100) hi t (qtr k) (by omega) t1 (by omega) (by omega) (by omega)
        have e1 : 0 ≤ k + 1 := by omega
        have e2 : k + 1 ≤ 8 := by omega
        have e3 : 9 * (V 0 0 - t) - (k + 1) < fu := by omega
        refine g_aload_n dX2_findsOne_34 rfl ?_
        refine g_getR dX2_findsOne_35 fX2_19 rfl rfl (by decide) ?_
        refine g_iload_n dX2_findsOne_38 rfl ?_
        refine g_iload dX2_findsOne_39 rfl ?_
        refine g_pS1 dX2_findsOne_41 sX2_60 (by decide) (Nat.le_of_ble_eq_true rfl) (x_nearest k k0 h20) ?_
        refine g_vV2 dX2_findsOne_44 qX2_39 rfl (by decide) (by decide) (Nat.le_of_ble_eq_true rfl) (x_suppose hi.i0 hX.r0 t (qtr k) (by omega) t1) ?_
        intro τ2 hq2
        obtain ⟨hga2, hk2, q7, q8⟩ := hq2
        have hX2 : RX V τ2 := hX.of23 (fun a a1 _ _ => hk2 a a1)
        have hgr2 : GR V τ2 := by unfold GR; rw [q7, q8]; exact hgr
        refine g_aload_n dX2_findsOne_47 rfl ?_
        refine g_eV0 dX2_findsOne_48 qX2_71 rfl (by decide) (by decide) (Nat.le_of_ble_eq_true rfl) (x_brings hi hW hX2 hga2 hgr2 (by omega) t1 (by omega) (by rw [hk2 24 (by decide)]; exact hu)) ?_
        intro τ3 hq3
        obtain ⟨hu3, hk3, hj3⟩ := hq3
        have hX3 : RX V τ3 := hX2.of23 (fun a a1 a2 _ => hk3 a a2)
        have hgr3 : GR V τ3 := by unfold GR; rw [hk3 23 (by decide)]; exact hgr2
        have hkk : ∀ a, a ≠ 23 → a ≠ 24 → a ≠ 25 → τ3 a = σ a := fun a a1 a2 a3 => by rw [hk3 a a2, hk2 a a1]; exact hk a a1 a2 a3
        have h253 : τ3 25 = σ 25 := by rw [hk3 25 (by decide), hk2 25 (by decide)]; exact h25
        refine g_ifb_eq (tgt := 76) dX2_findsOne_51 (by decide) (fun h51 => ?_) (fun h51 => ?_)
        · refine g_iinc dX2_findsOne_76 rfl (by decide) ?_
          refine g_goto (tgt := 16) dX2_findsOne_79 (by decide) ?_
          exact ih t (k + 1) τ3 t0 t1 e1 e2 e3 hX3 hgr3 hu3 h253 hkk (fun c c0 c1 => by
            by_cases hc : c = 8 * t + k
            · rw [hc]
              by_cases ho : okV V t (qtr k) = true
              · refine oneP_no k0 h20 (Or.inr (fun q => h51 ⟨q, ?_⟩))
                unfold okV at ho
                simp at ho
                exact ho.2
              · exact oneP_no k0 h20 (Or.inl ho)
            · exact hno c c0 (by omega))
        · refine g_aload_n dX2_findsOne_54 rfl ?_
          refine g_getR dX2_findsOne_55 fX2_9 rfl rfl (by decide) ?_
          refine g_iload_n dX2_findsOne_58 rfl ?_
          refine g_iload_n dX2_findsOne_59 rfl ?_
          refine g_iastore dX2_findsOne_60 rfl (by decide) (by decide) (by omega) (by omega) (by decide) ?_
          refine g_aload_n dX2_findsOne_61 rfl ?_
          refine g_getR dX2_findsOne_62 fX2_9 rfl rfl (by decide) ?_
          refine g_iload_n dX2_findsOne_65 rfl ?_
          refine g_iconst dX2_findsOne_66 ?_
          refine g_iadd dX2_findsOne_67 ?_
          refine g_iload dX2_findsOne_68 rfl ?_
          refine g_pS1 dX2_findsOne_70 sX2_60 (by decide) (Nat.le_of_ble_eq_true rfl) (x_nearest k k0 h20) ?_
          refine g_iastore dX2_findsOne_73 rfl (by decide) (by decide) (by omega) (by omega) (by decide) ?_
          refine g_iconst dX2_findsOne_74 ?_
          exact g_iret dX2_findsOne_75 (by first | exact Or.inl rfl | exact Or.inr rfl | exact b2i_ok) (by
                have hv : oneV V fr = 8 * t + k := oneV_at hfr (by omega) (by omega) (oneP_yes k0 h20 (okV_yes h31 h51.2) h51.1) hno
                have hd := dm8 (s := t) k0 h20
                refine ⟨by rw [b2i_1 (by omega)], (hX3.of23 (fun a _ _ a3 => up_cell a3)).of23 (fun a _ _ a3 => up_cell a3), by unfold GR; rw [up_cell (by decide), up_cell (by decide)]; exact hgr3, by rw [up_cell (by decide), up_cell (by decide)]; exact hu3, fun _ => ?_, fun j j1 j2 => by rw [up_ne (Or.inr j2), up_ne (Or.inr j1), h253], fun a a1 a2 a3 => by rw [up_cell a3, up_cell a3]; exact hkk a a1 a2 a3⟩
                rw [hv, hd.1, hd.2]
                exact ⟨by rw [up_ne (Or.inr (by omega)), up_same], up_same⟩)

theorem x_finds {b : Int} {V σ : Mem} (hi : Inv b V) (h : RX V σ) (hgr : GR V σ) (hu : okF (V 0 0) (σ 24 3)) (hb : b + 200000 ≤ 500000000) (fr q : Int) (hfr : 0 ≤ fr) (hf2 : fr ≤ V 0 0) (hq : 0 ≤ q ∧ q ≤ 3) : Ret 41 mX2_findsOne [aR 24, aI fr, aI q] σ (fun o τ => o = some (aI (b2i (0 ≤ oneV V fr))) ∧ (RX V τ ∧ GR V τ ∧ okF (V 0 0) (τ 24 3) ∧ (0 ≤ oneV V fr → τ 25 q = oneV V fr / 8 ∧ τ 25 (q + 1) = qtr (oneV V fr % 8)) ∧ (∀ j, j ≠ q → j ≠ q + 1 → τ 25 j = σ 25 j) ∧ (∀ a, a ≠ 23 → a ≠ 24 → a ≠ 25 → τ a = σ a))) := by
  refine Ret.of [some (aR 24), some (aI fr), some (aI q), none, none] rfl (plainFor_of_name (by decide)) (Nat.le_of_ble_eq_true rfl) ?_
  have hN := hi.N2
  refine g_iload_n dX2_findsOne_0 rfl ?_
  refine g_istore_n (i := 3) dX2_findsOne_1 rfl (by decide) ?_
  refine g_iload_n dX2_findsOne_2 rfl ?_
  refine g_aload_n dX2_findsOne_3 rfl ?_
  refine g_getR dX2_findsOne_4 fX2_15 rfl rfl (by decide) ?_
  refine g_getI (ji := 5) rfl dX2_findsOne_7 fX2_33 rfl rfl (by decide) ?_
  rw [h.N]
  refine g_icmp_ge (tgt := 88) dX2_findsOne_10 (by decide) (by omega) (by omega) (fun h10 => ?_) (fun h10 => ?_)
  · refine g_iconst dX2_findsOne_88 ?_
    exact g_iret dX2_findsOne_89 (by first | exact Or.inl rfl | exact Or.inr rfl | exact b2i_ok) (by
          have hv : oneV V fr = -1 := oneV_no hfr (fun c c0 c1 => by omega)
          exact ⟨by rw [b2i_0 (by omega)], h, hgr, hu, fun hn => by omega, fun j _ _ => rfl, fun _ _ _ _ => rfl⟩)
  · refine g_iconst dX2_findsOne_13 ?_
    refine g_istore dX2_findsOne_14 (by decide) ?_
    exact x_finds_lp hi hb fr q hfr hq 300 fr 0 σ (by omega) (by omega) (by omega) (by omega) (by omega) h hgr hu rfl (fun _ _ _ _ => rfl) (fun c c0 c1 => by omega)

theorem mk_back {V : Mem} (s n : Int) : mkV (mkV V s n) s (-n) = V := by
  have e : ∀ a, a ≠ 2 → a ≠ 3 → a ≠ 4 → mkV V s n a = V a := fun a q1 q2 q3 => mkV_o q1 q2 q3
  funext a j
  by_cases h2 : a = 2 ∨ a = 3 ∨ a = 4
  · by_cases hj : 0 ≤ j ∧ j < V 0 0
    · have hj' : j < mkV V s n 0 0 := by rw [mk_N]; exact hj.2
      rcases h2 with rfl | rfl | rfl
      · rw [mkV_2 hj.1 hj', mk_1, e 0 (by decide) (by decide) (by decide), e 10 (by decide) (by decide) (by decide), e 11 (by decide) (by decide) (by decide), mkV_2 hj.1 hj.2]
        split
        · rfl
        · rw [Int.mul_neg, Int.neg_mul]; omega
      · rw [mkV_3 hj.1 hj', mk_1, e 0 (by decide) (by decide) (by decide), e 8 (by decide) (by decide) (by decide), mkV_3 hj.1 hj.2, Int.mul_neg, Int.neg_mul, Int.neg_mul]; omega
      · rw [mkV_4 hj.1 hj', mk_1, e 0 (by decide) (by decide) (by decide), e 9 (by decide) (by decide) (by decide), mkV_4 hj.1 hj.2, Int.mul_neg, Int.neg_mul]; omega
    · unfold mkV
      simp only [show ¬ (a = 2 ∧ 0 ≤ j ∧ j < V 0 0) from fun q => hj q.2, show ¬ (a = 3 ∧ 0 ≤ j ∧ j < V 0 0) from fun q => hj q.2, show ¬ (a = 4 ∧ 0 ≤ j ∧ j < V 0 0) from fun q => hj q.2, if_false]
      rw [if_neg (fun q => hj ⟨q.2.1, by simpa using q.2.2⟩), if_neg (fun q => hj ⟨q.2.1, by simpa using q.2.2⟩), if_neg (fun q => hj ⟨q.2.1, by simpa using q.2.2⟩)]
  · rw [mkV_o (by omega) (by omega) (by omega), e a (by omega) (by omega) (by omega)]
