theorem x_nearest {K : Nat} {σ : Mem} (k : Int) (h0 : 0 ≤ k) (h1 : k < 8) : RetV K mX2_nearest [aI k] σ (aI (qtr k)) := by
  refine Ret.of [some (aI k), none] rfl (plainFor_of_name (by decide)) (Nat.le_of_ble_eq_true rfl) ?_
  refine g_iload_n dX2_nearest_0 rfl ?_
  refine g_iconst dX2_nearest_1 ?_
  refine g_ishr1 dX2_nearest_2 (by omega) ?_
  refine g_iconst dX2_nearest_3 ?_
  refine g_iadd dX2_nearest_4 ?_
  refine g_istore_n (i := 1) dX2_nearest_5 rfl (by decide) ?_
  refine g_iload_n dX2_nearest_6 rfl ?_
  refine g_iconst dX2_nearest_7 ?_
  refine g_iand1 dX2_nearest_8 ?_
  refine g_if_ne (tgt := 16) dX2_nearest_9 (by decide) (by omega) (fun h9 => ?_) (fun h9 => ?_)
  · refine g_iload_n dX2_nearest_16 rfl ?_
    refine g_ineg dX2_nearest_17 ?_
    exact g_iret dX2_nearest_18 trivial ⟨by unfold qtr; congr 2; omega, rfl⟩
  · refine g_iload_n dX2_nearest_12 rfl ?_
    refine g_goto (tgt := 18) dX2_nearest_13 (by decide) ?_
    exact g_iret dX2_nearest_18 trivial ⟨by unfold qtr; congr 2; omega, rfl⟩

theorem x_finds_lp {b : Int} {V σ : Mem} (hi : Inv b V) (hb : b + 200000 ≤ 500000000) (fr q : Int) (hfr : 0 ≤ fr) (hq : 0 ≤ q ∧ q ≤ 3) : ∀ (fu : Nat) (t k : Int) (τ : Mem), fr ≤ t → t < V 0 0 → 0 ≤ k → k ≤ 8 → 9 * (V 0 0 - t) - k < fu → RX V τ → GR V τ → okU V τ → τ 25 = σ 25 → (∀ a, a ≠ 23 → a ≠ 24 → a ≠ 25 → τ a = σ a) → (∀ c, 8 * fr ≤ c → c < 8 * t + k → oneP V c = false) → Go 41 mX2_findsOne 16 [some (aR 24), some (aI fr), some (aI q), some (aI t), some (aI k)] [] τ (fun o τ => o = some (aI (b2i (0 ≤ oneV V fr))) ∧ (RX V τ ∧ GR V τ ∧ (¬ 0 ≤ oneV V fr → okU V τ) ∧ (0 ≤ oneV V fr → τ 25 q = oneV V fr / 8 ∧ τ 25 (q + 1) = qtr (oneV V fr % 8)) ∧ (∀ j, j ≠ q → j ≠ q + 1 → τ 25 j = σ 25 j) ∧ (∀ a, a ≠ 23 → a ≠ 24 → a ≠ 25 → τ a = σ a))) := by
  intro fu
  induction fu with
  | zero => intros; omega
  | succ fu ih =>
    intro t k τ t0 t1 k0 k1 kn hX hgr hu h25 hk hno
    have hN := hi.N2
    have hbb := hi.b
    refine g_iload dX2_findsOne_16 rfl ?_
    refine g_bipush (v := 8) dX2_findsOne_18 (by decide) ?_
    refine g_icmp_ge (tgt := 132) dX2_findsOne_20 (by decide) (by first | assumption | omega) (by first | assumption | omega) (fun h20 => ?_) (fun h20 => ?_)
    · have hno8 : ∀ c, 8 * fr ≤ c → c < 8 * (t + 1) → oneP V c = false := fun c c0 c1 => hno c c0 (by omega)
      refine g_iinc dX2_findsOne_132 rfl (by decide) ?_
      refine g_goto (tgt := 2) dX2_findsOne_135 (by decide) ?_
      refine g_iload_n dX2_findsOne_2 rfl ?_
      refine g_aload_n dX2_findsOne_3 rfl ?_
      refine g_getR dX2_findsOne_4 fX2_15 rfl rfl (by decide) ?_
      refine g_getI (ji := 6) rfl dX2_findsOne_7 fX2_33 rfl rfl (by decide) ?_
      rw [hX.N]
      refine g_icmp_ge (tgt := 138) dX2_findsOne_10 (by decide) (by first | assumption | omega) (by first | assumption | omega) (fun h10 => ?_) (fun h10 => ?_)
      · refine g_iconst dX2_findsOne_138 ?_
        exact g_iret dX2_findsOne_139 (by first | exact Or.inl rfl | exact Or.inr rfl | exact b2i_ok) (by
              have hv : oneV V fr = -1 := oneV_no hfr (fun c c0 c1 => hno8 c c0 (by omega))
              exact ⟨by rw [b2i_0 (by omega)], hX, hgr, fun _ => hu, fun hn => by omega, fun j _ _ => by rw [h25], hk⟩)
      · refine g_iconst dX2_findsOne_13 ?_
        refine g_istore dX2_findsOne_14 (by decide) ?_
        exact ih (t + 1) 0 τ (by omega) (by omega) (by omega) (by omega) (by omega) hX hgr hu h25 hk (fun c c0 c1 => hno8 c c0 (by omega))
    · refine g_aload_n dX2_findsOne_23 rfl ?_
      refine g_getR dX2_findsOne_24 fX2_15 rfl rfl (by decide) ?_
      refine g_iload_n dX2_findsOne_27 rfl ?_
      refine g_pV1 dX2_findsOne_28 qX2_67 rfl (by decide) (by decide) (Nat.le_of_ble_eq_true rfl) (x_isGone hi.i0 hX.r0 t (by omega) t1) ?_
      refine g_ifb_ne (tgt := 132) dX2_findsOne_31 (by decide) (fun h31 => ?_) (fun h31 => ?_)
      · have hno8 : ∀ c, 8 * fr ≤ c → c < 8 * (t + 1) → oneP V c = false := fun c c0 c1 => by
          by_cases hc : c < 8 * t + k
          · exact hno c c0 hc
          · rw [show c = 8 * t + (c - 8 * t) by omega]
            exact oneP_no (by omega) (by omega) (Or.inl (by rw [okV_gone h31]; decide))
        refine g_iinc dX2_findsOne_132 rfl (by decide) ?_
        refine g_goto (tgt := 2) dX2_findsOne_135 (by decide) ?_
        refine g_iload_n dX2_findsOne_2 rfl ?_
        refine g_aload_n dX2_findsOne_3 rfl ?_
        refine g_getR dX2_findsOne_4 fX2_15 rfl rfl (by decide) ?_
        refine g_getI (ji := 6) rfl dX2_findsOne_7 fX2_33 rfl rfl (by decide) ?_
        rw [hX.N]
        refine g_icmp_ge (tgt := 138) dX2_findsOne_10 (by decide) (by first | assumption | omega) (by first | assumption | omega) (fun h10 => ?_) (fun h10 => ?_)
        · refine g_iconst dX2_findsOne_138 ?_
          exact g_iret dX2_findsOne_139 (by first | exact Or.inl rfl | exact Or.inr rfl | exact b2i_ok) (by
                have hv : oneV V fr = -1 := oneV_no hfr (fun c c0 c1 => hno8 c c0 (by omega))
                exact ⟨by rw [b2i_0 (by omega)], hX, hgr, fun _ => hu, fun hn => by omega, fun j _ _ => by rw [h25], hk⟩)
        · refine g_iconst dX2_findsOne_13 ?_
          refine g_istore dX2_findsOne_14 (by decide) ?_
          exact ih (t + 1) 0 τ (by omega) (by omega) (by omega) (by omega) (by omega) hX hgr hu h25 hk (fun c c0 c1 => hno8 c c0 (by omega))
      · have qb := qtr_b k0 h20
        have hW : Inv (b + 200000) (mkV V t (qtr k)) := mkV_inv (m := 100) hi t (qtr k) (by omega) t1 (by omega) (by omega) (by omega)
        have eW := mk_N V t (qtr k)
        have e1 : 0 ≤ k + 1 := by omega
        have e2 : k + 1 ≤ 8 := by omega
        have e3 : 9 * (V 0 0 - t) - (k + 1) < fu := by omega
        have tN : 0 ≤ t := by omega
        have qN : -100 ≤ qtr k ∧ qtr k ≤ 100 := by omega
        have qi : 0 ≤ q ∧ q < 5 := by omega
        have qj : 0 ≤ q + 1 ∧ q + 1 < 5 := by omega
        have hob := over_b (mkV V t (qtr k)) (by omega)
        have ho32 : i32 (if overAt (mkV V t (qtr k)) = -1 then cNone else 500 + overAt (mkV V t (qtr k))) := by unfold cNone; omega
        have hf32 := flt_32 hW
        refine g_aload_n dX2_findsOne_34 rfl ?_
        refine g_getR dX2_findsOne_35 fX2_19 rfl rfl (by decide) ?_
        refine g_iload_n dX2_findsOne_38 rfl ?_
        refine g_iload dX2_findsOne_39 rfl ?_
        refine g_pS1 dX2_findsOne_41 sX2_60 (by decide) (Nat.le_of_ble_eq_true rfl) (x_nearest k k0 h20) ?_
        refine g_vV2 dX2_findsOne_44 qX2_39 rfl (by decide) (by decide) (Nat.le_of_ble_eq_true rfl) (x_suppose hi.i0 hX.r0 t (qtr k) tN t1) ?_
        intro τ2 hq2
        obtain ⟨hga2, hk2, q7, hsx2⟩ := hq2
        have hX2 : RX V τ2 := hX.of23 (fun a a1 _ _ => hk2 a a1)
        have hgr2 : GR V τ2 := by unfold GR; rw [q7.1, q7.2]; exact hgr
        have hu2 : okU V τ2 := hu.of rfl rfl (by rw [hk2 24 (by decide)]) hsx2
        have hkk2 : ∀ a, a ≠ 23 → a ≠ 24 → a ≠ 25 → τ2 a = σ a := fun a a1 a2 a3 => by rw [hk2 a a1]; exact hk a a1 a2 a3
        have h252 : τ2 25 = σ 25 := by rw [hk2 25 (by decide)]; exact h25
        have hon : ¬ (fltV (mkV V t (qtr k)) = cNone ∧ overAt (mkV V t (qtr k)) = -1) → ∀ c, 8 * fr ≤ c → c < 8 * t + (k + 1) → oneP V c = false := fun hz c c0 c1 => by
          by_cases hc : c = 8 * t + k
          · rw [hc]
            by_cases ho : okV V t (qtr k) = true
            · refine oneP_no k0 h20 (Or.inr (fun q => hz ⟨q, ?_⟩))
              unfold okV at ho
              simp at ho
              exact ho.2
            · exact oneP_no k0 h20 (Or.inl ho)
          · exact hno c c0 (by omega)
        refine g_aload_n dX2_findsOne_47 rfl ?_
        refine g_getR dX2_findsOne_48 fX2_19 rfl rfl (by decide) ?_
        refine g_aload_n dX2_findsOne_51 rfl ?_
        refine g_getI (ji := 3) rfl dX2_findsOne_52 fX2_50 rfl rfl (by decide) ?_
        refine g_pV1 dX2_findsOne_55 qX2_71 rfl (by decide) (by decide) (Nat.le_of_ble_eq_true rfl) (x_stillHas hi hW hX2 hga2 hgr2 tN t1 qN hu2) ?_
        refine g_ifb_eq (tgt := 64) dX2_findsOne_58 (by decide) (fun h58 => ?_) (fun h58 => ?_)
        · refine g_aload_n dX2_findsOne_64 rfl ?_
          refine g_aload_n dX2_findsOne_65 rfl ?_
          refine g_getR dX2_findsOne_66 fX2_19 rfl rfl (by decide) ?_
          refine g_eV0 dX2_findsOne_69 qX2_47 rfl (by decide) (by decide) (Nat.le_of_ble_eq_true rfl) (x_fault hi hW hX2 hga2 hgr2 tN t1 qN) ?_
          intro τ3 hq3
          obtain ⟨hs3, ho30, ho31⟩ := hq3
          have hX3 : RX V τ3 := hX2.kept hs3
          have hga3 := hga2.kept hs3
          have hgr3 := hgr2.kept hs3
          have hkk3 : ∀ a, a ≠ 23 → a ≠ 24 → a ≠ 25 → τ3 a = σ a := fun a a1 a2 a3 => by rw [hs3.1 a a1]; exact hkk2 a a1 a2 a3
          have h253 : τ3 25 = σ 25 := by rw [hs3.1 25 (by decide)]; exact h252
          have hfu : fltV (mkV V t (qtr k)) ≠ cNone → okU V (up τ3 24 3 (fltV (mkV V t (qtr k)))) := fun hz => by
            refine ⟨by rw [up_same, ← eW]; exact flt_okF (by omega) hz, fun z1 z2 => ?_⟩
            rw [up_same] at z1 z2
            rcases flt_300 (by omega) z1 z2 with z | z
            · exact Or.inl ((ho30 z).kept ⟨rfl, rfl⟩)
            · exact Or.inr ((ho31 z).kept ⟨rfl, rfl⟩)
          refine g_putI (ji := 3) rfl dX2_findsOne_72 vX2_50 rfl rfl (by decide) (by decide) ?_
          refine g_aload_n dX2_findsOne_75 rfl ?_
          refine g_getI (ji := 3) rfl dX2_findsOne_76 fX2_50 rfl rfl (by decide) ?_
          rw [up_same]
          refine g_ldc dX2_findsOne_79 kX2_32 ?_
          refine g_icmp_ne (tgt := 95) dX2_findsOne_81 (by decide) (by first | assumption | omega) (by first | assumption | omega) (fun h81 => ?_) (fun h81 => ?_)
          · refine g_aload_n dX2_findsOne_95 rfl ?_
            refine g_getI (ji := 3) rfl dX2_findsOne_96 fX2_50 rfl rfl (by decide) ?_
            rw [up_same]
            refine g_ldc dX2_findsOne_99 kX2_32 ?_
            refine g_icmp_ne (tgt := 126) dX2_findsOne_101 (by decide) (by first | assumption | omega) (by first | assumption | omega) (fun h101 => ?_) (fun h101 => ?_)
            · refine g_iinc dX2_findsOne_126 rfl (by decide) ?_
              refine g_goto (tgt := 16) dX2_findsOne_129 (by decide) ?_
              exact ih t (k + 1) (up τ3 24 3 (fltV (mkV V t (qtr k)))) t0 t1 e1 e2 e3 (hX3.of23 (fun a _ a2 _ => up_cell a2)) hgr3 (hfu h81) (by rw [up_cell (by decide)]; exact h253) (fun a a1 a2 a3 => by rw [up_cell a2]; exact hkk3 a a1 a2 a3) (hon (fun z => h81 z.1))
            · refine g_aload_n dX2_findsOne_104 rfl ?_
              refine g_getR dX2_findsOne_105 fX2_9 rfl rfl (by decide) ?_
              refine g_iload_n dX2_findsOne_108 rfl ?_
              refine g_iload_n dX2_findsOne_109 rfl ?_
              refine g_iastore dX2_findsOne_110 rfl (by decide) (by decide) qi.1 qi.2 (by decide) ?_
              refine g_aload_n dX2_findsOne_111 rfl ?_
              refine g_getR dX2_findsOne_112 fX2_9 rfl rfl (by decide) ?_
              refine g_iload_n dX2_findsOne_115 rfl ?_
              refine g_iconst dX2_findsOne_116 ?_
              refine g_iadd dX2_findsOne_117 ?_
              refine g_iload dX2_findsOne_118 rfl ?_
              refine g_pS1 dX2_findsOne_120 sX2_60 (by decide) (Nat.le_of_ble_eq_true rfl) (x_nearest k k0 h20) ?_
              refine g_iastore dX2_findsOne_123 rfl (by decide) (by decide) qj.1 qj.2 (by decide) ?_
              refine g_iconst dX2_findsOne_124 ?_
              exact g_iret dX2_findsOne_125 (by first | exact Or.inl rfl | exact Or.inr rfl | exact b2i_ok) (absurd h101 h81)
          · refine g_aload_n dX2_findsOne_84 rfl ?_
            refine g_aload_n dX2_findsOne_85 rfl ?_
            refine g_getR dX2_findsOne_86 fX2_19 rfl rfl (by decide) ?_
            refine g_pV0 dX2_findsOne_89 qX2_74 rfl (by decide) (by decide) (Nat.le_of_ble_eq_true rfl) (x_overload hi hW (hX3.of23 (fun a _ a2 _ => up_cell a2)) (show GA V (up τ3 24 3 (fltV (mkV V t (qtr k)))) t (qtr k) from hga3) (show GR V (up τ3 24 3 (fltV (mkV V t (qtr k)))) from hgr3) tN t1 qN) ?_
            refine g_putI (ji := 3) rfl dX2_findsOne_92 vX2_50 rfl rfl (by decide) (by decide) ?_
            refine g_aload_n dX2_findsOne_95 rfl ?_
            refine g_getI (ji := 3) rfl dX2_findsOne_96 fX2_50 rfl rfl (by decide) ?_
            rw [up_same]
            refine g_ldc dX2_findsOne_99 kX2_32 ?_
            refine g_icmp_ne (tgt := 126) dX2_findsOne_101 (by decide) (by first | assumption | omega) (by first | assumption | omega) (fun h101 => ?_) (fun h101 => ?_)
            · refine g_iinc dX2_findsOne_126 rfl (by decide) ?_
              refine g_goto (tgt := 16) dX2_findsOne_129 (by decide) ?_
              have hov : overAt (mkV V t (qtr k)) ≠ -1 := fun z => h101 (by rw [if_pos z]; rfl)
              exact ih t (k + 1) _ t0 t1 e1 e2 e3 ((hX3.of23 (fun a _ a2 _ => up_cell a2)).of23 (fun a _ a2 _ => up_cell a2)) hgr3 ⟨by rw [up_same, if_neg hov]; unfold okF; omega, fun z1 z2 => by rw [up_same, if_neg hov] at z2; omega⟩ (by rw [up_cell (by decide), up_cell (by decide)]; exact h253) (fun a a1 a2 a3 => by rw [up_cell a2, up_cell a2]; exact hkk3 a a1 a2 a3) (hon (fun z => hov z.2))
            · refine g_aload_n dX2_findsOne_104 rfl ?_
              refine g_getR dX2_findsOne_105 fX2_9 rfl rfl (by decide) ?_
              refine g_iload_n dX2_findsOne_108 rfl ?_
              refine g_iload_n dX2_findsOne_109 rfl ?_
              refine g_iastore dX2_findsOne_110 rfl (by decide) (by decide) qi.1 qi.2 (by decide) ?_
              refine g_aload_n dX2_findsOne_111 rfl ?_
              refine g_getR dX2_findsOne_112 fX2_9 rfl rfl (by decide) ?_
              refine g_iload_n dX2_findsOne_115 rfl ?_
              refine g_iconst dX2_findsOne_116 ?_
              refine g_iadd dX2_findsOne_117 ?_
              refine g_iload dX2_findsOne_118 rfl ?_
              refine g_pS1 dX2_findsOne_120 sX2_60 (by decide) (Nat.le_of_ble_eq_true rfl) (x_nearest k k0 h20) ?_
              refine g_iastore dX2_findsOne_123 rfl (by decide) (by decide) qj.1 qj.2 (by decide) ?_
              refine g_iconst dX2_findsOne_124 ?_
              exact g_iret dX2_findsOne_125 (by first | exact Or.inl rfl | exact Or.inr rfl | exact b2i_ok) (by
      have hov : overAt (mkV V t (qtr k)) = -1 := by
        rcases (show overAt (mkV V t (qtr k)) = -1 ∨ overAt (mkV V t (qtr k)) ≠ -1 by omega) with q | q
        · exact q
        · rw [if_neg q] at h101; omega
      have hv : oneV V fr = 8 * t + k := oneV_at hfr (by omega) (by omega) (oneP_yes k0 h20 (okV_yes h31 hov) h81) hno
      have hd := dm8 (s := t) k0 h20
      refine ⟨by rw [b2i_1 (by omega)], (((hX3.of23 (fun a _ a2 _ => up_cell a2)).of23 (fun a _ a2 _ => up_cell a2)).of23 (fun a _ _ a3 => up_cell a3)).of23 (fun a _ _ a3 => up_cell a3), ?_, fun hn => by omega, fun _ => ?_, fun j j1 j2 => ?_, fun a a1 a2 a3 => ?_⟩
      · unfold GR
        rw [up_cell (by decide), up_cell (by decide), up_cell (by decide), up_cell (by decide)]
        exact hgr3
      · rw [hv, hd.1, hd.2]
        exact ⟨by rw [up_ne (Or.inr (by omega)), up_same], up_same⟩
      · rw [up_ne (Or.inr j2), up_ne (Or.inr j1), up_cell (by decide), up_cell (by decide), h253]
      · rw [up_cell a3, up_cell a3, up_cell a2, up_cell a2]; exact hkk3 a a1 a2 a3)
        · refine g_goto (tgt := 126) dX2_findsOne_61 (by decide) ?_
          refine g_iinc dX2_findsOne_126 rfl (by decide) ?_
          refine g_goto (tgt := 16) dX2_findsOne_129 (by decide) ?_
          exact ih t (k + 1) τ2 t0 t1 e1 e2 e3 hX2 hgr2 hu2 h252 hkk2 (hon (fun z => by rw [hasF_no (hu2.of eW (mk_1 V t (qtr k)) rfl ⟨rfl, rfl⟩) z.1 z.2] at h58; exact absurd h58 (by decide)))

theorem x_finds {b : Int} {V σ : Mem} (hi : Inv b V) (h : RX V σ) (hgr : GR V σ) (hu : okU V σ) (hb : b + 200000 ≤ 500000000) (fr q : Int) (hfr : 0 ≤ fr) (hf2 : fr ≤ V 0 0) (hq : 0 ≤ q ∧ q ≤ 3) : Ret 41 mX2_findsOne [aR 24, aI fr, aI q] σ (fun o τ => o = some (aI (b2i (0 ≤ oneV V fr))) ∧ (RX V τ ∧ GR V τ ∧ (¬ 0 ≤ oneV V fr → okU V τ) ∧ (0 ≤ oneV V fr → τ 25 q = oneV V fr / 8 ∧ τ 25 (q + 1) = qtr (oneV V fr % 8)) ∧ (∀ j, j ≠ q → j ≠ q + 1 → τ 25 j = σ 25 j) ∧ (∀ a, a ≠ 23 → a ≠ 24 → a ≠ 25 → τ a = σ a))) := by
  refine Ret.of [some (aR 24), some (aI fr), some (aI q), none, none] rfl (plainFor_of_name (by decide)) (Nat.le_of_ble_eq_true rfl) ?_
  have hN := hi.N2
  refine g_iload_n dX2_findsOne_0 rfl ?_
  refine g_istore_n (i := 3) dX2_findsOne_1 rfl (by decide) ?_
  refine g_iload_n dX2_findsOne_2 rfl ?_
  refine g_aload_n dX2_findsOne_3 rfl ?_
  refine g_getR dX2_findsOne_4 fX2_15 rfl rfl (by decide) ?_
  refine g_getI (ji := 6) rfl dX2_findsOne_7 fX2_33 rfl rfl (by decide) ?_
  rw [h.N]
  refine g_icmp_ge (tgt := 138) dX2_findsOne_10 (by decide) (by omega) (by omega) (fun h10 => ?_) (fun h10 => ?_)
  · refine g_iconst dX2_findsOne_138 ?_
    exact g_iret dX2_findsOne_139 (by first | exact Or.inl rfl | exact Or.inr rfl | exact b2i_ok) (by
          have hv : oneV V fr = -1 := oneV_no hfr (fun c c0 c1 => by omega)
          exact ⟨by rw [b2i_0 (by omega)], h, hgr, fun _ => hu, fun hn => by omega, fun j _ _ => rfl, fun _ _ _ _ => rfl⟩)
  · refine g_iconst dX2_findsOne_13 ?_
    refine g_istore dX2_findsOne_14 (by decide) ?_
    exact x_finds_lp hi hb fr q hfr hq 300 fr 0 σ (by omega) (by omega) (by omega) (by omega) (by omega) h hgr hu rfl (fun _ _ _ _ => rfl) (fun c c0 c1 => by omega)

theorem mk_back {V : Mem} (s n : Int) : mkV (mkV V s n) s (-n) = V := by
  have e : ∀ a, a ≠ 2 → a ≠ 3 → a ≠ 4 → mkV V s n a = V a := fun a q1 q2 q3 => mkV_o q1 q2 q3
  funext a j
  by_cases h2 : a = 2 ∨ a = 3 ∨ a = 4
  · by_cases hj : 0 ≤ j ∧ j < V 0 0
    · have hj' : j < mkV V s n 0 0 := by rw [mk_N]; exact hj.2
      rcases h2 with rfl | rfl | rfl
      · rw [mkV_2 hj.1 hj', mk_1, e 0 (by decide) (by decide) (by decide), e 10 (by decide) (by decide) (by decide), e 11 (by decide) (by decide) (by decide), mkV_2 hj.1 hj.2]
        split
        · rfl
        · rw [Int.mul_neg, Int.neg_mul]; omega
      · rw [mkV_3 hj.1 hj', mk_1, e 0 (by decide) (by decide) (by decide), e 8 (by decide) (by decide) (by decide), mkV_3 hj.1 hj.2, Int.mul_neg, Int.neg_mul, Int.neg_mul]; omega
      · rw [mkV_4 hj.1 hj', mk_1, e 0 (by decide) (by decide) (by decide), e 9 (by decide) (by decide) (by decide), mkV_4 hj.1 hj.2, Int.mul_neg, Int.neg_mul]; omega
    · unfold mkV
      simp only [show ¬ (a = 2 ∧ 0 ≤ j ∧ j < V 0 0) from fun q => hj q.2, show ¬ (a = 3 ∧ 0 ≤ j ∧ j < V 0 0) from fun q => hj q.2, show ¬ (a = 4 ∧ 0 ≤ j ∧ j < V 0 0) from fun q => hj q.2, if_false]
      rw [if_neg (fun q => hj ⟨q.2.1, by simpa using q.2.2⟩), if_neg (fun q => hj ⟨q.2.1, by simpa using q.2.2⟩), if_neg (fun q => hj ⟨q.2.1, by simpa using q.2.2⟩)]
  · rw [mkV_o (by omega) (by omega) (by omega), e a (by omega) (by omega) (by omega)]
