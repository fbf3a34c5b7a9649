theorem c_quarters {K : Nat} {σ : Mem} (k : Int) (h0 : 0 ≤ k) (h1 : k < 8) : RetV K mX7_quarters [aI k] σ (aI (qtr k)) := by
  refine Ret.of [some (aI k)] rfl (plainFor_of_name (by decide)) (Nat.le_of_ble_eq_true rfl) ?_
  refine g_iload_n dX7_quarters_0 rfl ?_
  refine g_iconst dX7_quarters_1 ?_
  refine g_irem dX7_quarters_2 (by omega) (by omega) (by omega) ?_
  rw [modN0 h0]
  refine g_if_ne (tgt := 14) dX7_quarters_3 (by decide) (by omega) (fun h3 => ?_) (fun h3 => ?_)
  · refine g_iload_n dX7_quarters_14 rfl ?_
    refine g_iconst dX7_quarters_15 ?_
    refine g_idiv dX7_quarters_16 (by omega) (by omega) (by omega) ?_
    rw [Int.tdiv_eq_ediv_of_nonneg h0]
    refine g_iconst dX7_quarters_17 ?_
    refine g_iadd dX7_quarters_18 ?_
    refine g_ineg dX7_quarters_19 ?_
    exact g_iret dX7_quarters_20 trivial ⟨by unfold qtr; congr 2; omega, rfl⟩
  · refine g_iload_n dX7_quarters_6 rfl ?_
    refine g_iconst dX7_quarters_7 ?_
    refine g_idiv dX7_quarters_8 (by omega) (by omega) (by omega) ?_
    rw [Int.tdiv_eq_ediv_of_nonneg h0]
    refine g_iconst dX7_quarters_9 ?_
    refine g_iadd dX7_quarters_10 ?_
    refine g_goto (tgt := 20) dX7_quarters_11 (by decide) ?_
    exact g_iret dX7_quarters_20 trivial ⟨by unfold qtr; congr 2; omega, rfl⟩

theorem qtr_b {k : Int} (h0 : 0 ≤ k) (h1 : k < 8) : -4 ≤ qtr k ∧ qtr k ≤ 4 ∧ qtr k ≠ 0 := by unfold qtr; omega
theorem dm8 {s k : Int} (h0 : 0 ≤ k) (h1 : k < 8) : (8 * s + k) / 8 = s ∧ (8 * s + k) % 8 = k := by omega
theorem RM.up30 {V σ : Mem} {j v : Int} (h : RM V σ) (hj : 16 ≤ j) : RM V (up σ 30 j v) := by
  unfold RM at h ⊢
  rw [up_ne (Or.inr (show (0 : Int) ≠ j by omega)), up_ne (Or.inr (show (9 : Int) ≠ j by omega)), up_ne (Or.inr (show (10 : Int) ≠ j by omega)), up_ne (Or.inr (show (11 : Int) ≠ j by omega)), up_ne (Or.inr (show (12 : Int) ≠ j by omega)), up_ne (Or.inr (show (13 : Int) ≠ j by omega)), up_ne (Or.inr (show (15 : Int) ≠ j by omega)), up_cell (show 31 ≠ 30 by decide), up_cell (show 32 ≠ 30 by decide), up_cell (show 33 ≠ 30 by decide), up_cell (show 34 ≠ 30 by decide), up_cell (show 35 ≠ 30 by decide), up_cell (show 36 ≠ 30 by decide), up_cell (show 37 ≠ 30 by decide), up_cell (show 38 ≠ 30 by decide), up_cell (show 39 ≠ 30 by decide)]
  exact h
theorem oneP_no {V : Mem} {s k : Int} (h0 : 0 ≤ k) (h1 : k < 8) (h : okV V s (qtr k) ≠ true ∨ fltV (mkV V s (qtr k)) ≠ cNone) : oneP V (8 * s + k) = false := by
  unfold oneP
  rw [(dm8 h0 h1).1, (dm8 h0 h1).2]
  rcases h with h | h
  · simp [Bool.eq_false_iff.mpr h]
  · simp [h]
theorem oneP_yes {V : Mem} {s k : Int} (h0 : 0 ≤ k) (h1 : k < 8) (h : okV V s (qtr k) = true) (h2 : fltV (mkV V s (qtr k)) = cNone) : oneP V (8 * s + k) = true := by
  unfold oneP
  rw [(dm8 h0 h1).1, (dm8 h0 h1).2, h, h2]
  rfl
theorem oneV_at {V : Mem} {s0 c : Int} (hs : 0 ≤ s0) (h0 : 8 * s0 ≤ c) (h1 : c < 8 * V 0 0) (h : oneP V c = true) (hf : ∀ q, 8 * s0 ≤ q → q < c → oneP V q = false) : oneV V s0 = c := firstI_eq (by omega) h0 (by omega) h hf
theorem oneV_no {V : Mem} {s0 : Int} (hs : 0 ≤ s0) (hf : ∀ q, 8 * s0 ≤ q → q < 8 * V 0 0 → oneP V q = false) : oneV V s0 = -1 := firstI_no (by omega) (fun q a c => hf q a (by omega))
theorem twoP_no {V : Mem} {s k : Int} (h0 : 0 ≤ k) (h1 : k < 8) (h : okV V s (qtr k) ≠ true ∨ ¬ 0 ≤ oneV (mkV V s (qtr k)) (s + 1)) : twoP V (8 * s + k) = false := by
  unfold twoP
  rw [(dm8 h0 h1).1, (dm8 h0 h1).2]
  rcases h with h | h
  · simp [Bool.eq_false_iff.mpr h]
  · simp [h]
theorem twoP_yes {V : Mem} {s k : Int} (h0 : 0 ≤ k) (h1 : k < 8) (h : okV V s (qtr k) = true) (h2 : 0 ≤ oneV (mkV V s (qtr k)) (s + 1)) : twoP V (8 * s + k) = true := by
  unfold twoP
  rw [(dm8 h0 h1).1, (dm8 h0 h1).2, h]
  simp [h2]

theorem c_byOne_lp {b : Int} {V σ : Mem} (hi : Inv b V) (hb : b + 200000 ≤ 500000000) : ∀ (fu : Nat) (s k : Int) (x3 : Option AV) (τ : Mem), 0 ≤ s → s < V 0 0 → 0 ≤ k → k ≤ 8 → 9 * (V 0 0 - s) - k < fu → RM V τ → keepM σ τ → τ 30 17 = σ 30 17 → (∀ c, 8 * 0 ≤ c → c < 8 * s + k → oneP V c = false) → Go 41 mX7_byOne 12 [some (aR 30), some (aI s), some (aI k), x3] [] τ (fun o τ => o = some (aI (b2i (0 ≤ oneV V 0))) ∧ (RM V τ ∧ keepM σ τ ∧ (0 ≤ oneV V 0 → τ 30 17 = 1 ∧ τ 30 18 = oneV V 0 / 8 ∧ τ 30 19 = qtr (oneV V 0 % 8)) ∧ (¬ 0 ≤ oneV V 0 → τ 30 17 = σ 30 17))) := by
  intro fu
  induction fu with
  | zero => intros; omega
  | succ fu ih =>
    intro s k x3 τ s0 s1 k0 k1 kn h hkp h17 hno
    have hN := hi.N2
    have hbb := hi.b
    refine g_iload_n dX7_byOne_12 rfl ?_
    refine g_bipush (v := 8) dX7_byOne_13 (by decide) ?_
    refine g_icmp_ge (tgt := 81) dX7_byOne_15 (by decide) (by omega) (by omega) (fun h15 => ?_) (fun h15 => ?_)
    · have hk8 : k = 8 := by omega
      subst hk8
      refine g_iinc dX7_byOne_81 rfl (by decide) ?_
      refine g_goto (tgt := 2) dX7_byOne_84 (by decide) ?_
      refine g_iload_n dX7_byOne_2 rfl ?_
      refine g_aload_n dX7_byOne_3 rfl ?_
      refine g_getI (ji := 0) rfl dX7_byOne_4 fX7_58 rfl rfl (by decide) ?_
      rw [h.N]
      refine g_icmp_ge (tgt := 87) dX7_byOne_7 (by decide) (by omega) (by omega) (fun h7 => ?_) (fun h7 => ?_)
      · refine g_iconst dX7_byOne_87 ?_
        exact g_iret dX7_byOne_88 (by first | exact Or.inl rfl | exact Or.inr rfl | exact b2i_ok) (by
              have hv : oneV V 0 = -1 := oneV_no (by omega) (fun c c0 c1 => hno c c0 (by omega))
              exact ⟨by rw [b2i_0 (by omega)], h, hkp, fun hn => by omega, fun _ => h17⟩)
      · refine g_iconst dX7_byOne_10 ?_
        refine g_istore_n (i := 2) dX7_byOne_11 rfl (by decide) ?_
        exact ih (s + 1) 0 x3 τ (by omega) (by omega) (by omega) (by omega) (by omega) h hkp h17 (fun c c0 c1 => hno c c0 (by omega))
    · have qb := qtr_b k0 h15
      have hiW := mkV_inv (m := 100) hi s (qtr k) s0 s1 (by omega) (by omega) (by omega)
      have e1 : 0 ≤ k + 1 := by omega
      have e2 : k + 1 ≤ 8 := by omega
      have e3 : 9 * (V 0 0 - s) - (k + 1) < fu := by omega
      refine g_aload_n dX7_byOne_18 rfl ?_
      refine g_iload_n dX7_byOne_19 rfl ?_
      refine g_iload_n dX7_byOne_20 rfl ?_
      refine g_pS1 dX7_byOne_21 sX7_177 (by decide) (Nat.le_of_ble_eq_true rfl) (c_quarters k k0 h15) ?_
      refine g_iconst dX7_byOne_24 ?_
      refine g_eV3 dX7_byOne_25 qX7_167 rfl (by decide) (by decide) (Nat.le_of_ble_eq_true rfl) (c_tries hi h s (qtr k) 0 s0 s1 (by omega) (by omega) hb) ?_
      intro τ1 hq1
      obtain ⟨h1, hA, hf, hf2⟩ := hq1
      refine g_ifb_eq (tgt := 75) dX7_byOne_28 (by decide) (fun h28 => g_iinc dX7_byOne_75 rfl (by decide) (g_goto (tgt := 12) dX7_byOne_78 (by decide) (ih s (k + 1) x3 τ1 s0 s1 e1 e2 e3 (h1.ifn h28) (fun a ha => by rw [hf a (by omega) (by omega) (by omega)]; exact hkp a ha) (by rw [hf 30 (by decide) (by decide) (by decide)]; exact h17) (fun c c0 c1 => by
        by_cases hc : c = 8 * s + k
        · rw [hc]; exact oneP_no k0 h15 (Or.inl h28)
        · exact hno c c0 (by omega))))) (fun h28 => ?_)
      refine g_aload_n dX7_byOne_31 rfl ?_
      refine g_eV0 dX7_byOne_32 qX7_150 rfl (by decide) (by decide) (Nat.le_of_ble_eq_true rfl) (c_fault hiW (h1.ifp h28)) ?_
      intro τ2 hq2
      obtain ⟨h2, hc2⟩ := hq2
      have hfb := flt_32 hiW
      refine g_ldc dX7_byOne_35 kX7_146 ?_
      refine g_icmp_ne (tgt := 44) dX7_byOne_37 (by decide) (by omega) (by omega) (fun h37 => ?_) (fun h37 => ?_)
      · refine g_iconst dX7_byOne_44 ?_
        refine g_istore_n (i := 3) dX7_byOne_45 rfl (by decide) ?_
        refine g_aload_n dX7_byOne_46 rfl ?_
        refine g_iconst dX7_byOne_47 ?_
        refine g_vV1 dX7_byOne_48 qX7_164 rfl (by decide) (by decide) (Nat.le_of_ble_eq_true rfl) (c_bring 0 (by omega) hN.2 h h2 (like_mk V s (qtr k)) (hA.keep (fun j _ _ => by rw [hc2.1 40 (by decide) (by decide)]))) ?_
        intro τ3 hq3
        obtain ⟨h3, hc3⟩ := hq3
        have hk3 : keepM σ τ3 := fun a ha => by rw [hc3 a (by omega) (by omega), hc2.1 a (by omega) (by omega), hf a (by omega) (by omega) (by omega)]; exact hkp a ha
        have h173 : τ3 30 17 = σ 30 17 := by rw [hc3 30 (by decide) (by decide), hc2.2 17 (by decide), hf 30 (by decide) (by decide) (by decide)]; exact h17
        refine g_iload_n dX7_byOne_51 rfl ?_
        refine g_if_eq (tgt := 75) dX7_byOne_52 (by decide) (by decide) (fun _ => ?_) (fun h => absurd h (by decide))
        refine g_iinc dX7_byOne_75 rfl (by decide) ?_
        refine g_goto (tgt := 12) dX7_byOne_78 (by decide) ?_
        exact ih s (k + 1) _ τ3 s0 s1 e1 e2 e3 h3 hk3 h173 (fun c c0 c1 => by
          by_cases hc : c = 8 * s + k
          · rw [hc]; exact oneP_no k0 h15 (Or.inr h37)
          · exact hno c c0 (by omega))
      · refine g_iconst dX7_byOne_40 ?_
        refine g_goto (tgt := 45) dX7_byOne_41 (by decide) ?_
        refine g_istore_n (i := 3) dX7_byOne_45 rfl (by decide) ?_
        refine g_aload_n dX7_byOne_46 rfl ?_
        refine g_iconst dX7_byOne_47 ?_
        refine g_vV1 dX7_byOne_48 qX7_164 rfl (by decide) (by decide) (Nat.le_of_ble_eq_true rfl) (c_bring 0 (by omega) hN.2 h h2 (like_mk V s (qtr k)) (hA.keep (fun j _ _ => by rw [hc2.1 40 (by decide) (by decide)]))) ?_
        intro τ3 hq3
        obtain ⟨h3, hc3⟩ := hq3
        have hk3 : keepM σ τ3 := fun a ha => by rw [hc3 a (by omega) (by omega), hc2.1 a (by omega) (by omega), hf a (by omega) (by omega) (by omega)]; exact hkp a ha
        have h173 : τ3 30 17 = σ 30 17 := by rw [hc3 30 (by decide) (by decide), hc2.2 17 (by decide), hf 30 (by decide) (by decide) (by decide)]; exact h17
        refine g_iload_n dX7_byOne_51 rfl ?_
        refine g_if_eq (tgt := 75) dX7_byOne_52 (by decide) (by decide) (fun h => absurd h (by decide)) (fun _ => ?_)
        refine g_aload_n dX7_byOne_55 rfl ?_
        refine g_iconst dX7_byOne_56 ?_
        refine g_putI (ji := 17) rfl dX7_byOne_57 vX7_180 rfl rfl (by decide) (by decide) ?_
        refine g_aload_n dX7_byOne_60 rfl ?_
        refine g_iload_n dX7_byOne_61 rfl ?_
        refine g_putI (ji := 18) rfl dX7_byOne_62 vX7_183 rfl rfl (by decide) (by decide) ?_
        refine g_aload_n dX7_byOne_65 rfl ?_
        refine g_iload_n dX7_byOne_66 rfl ?_
        refine g_pS1 dX7_byOne_67 sX7_177 (by decide) (Nat.le_of_ble_eq_true rfl) (c_quarters k k0 h15) ?_
        refine g_putI (ji := 19) rfl dX7_byOne_70 vX7_186 rfl rfl (by decide) (by decide) ?_
        refine g_iconst dX7_byOne_73 ?_
        exact g_iret dX7_byOne_74 (by first | exact Or.inl rfl | exact Or.inr rfl | exact b2i_ok) (by
              have hv : oneV V 0 = 8 * s + k := oneV_at (by omega) (by omega) (by omega) (oneP_yes k0 h15 h28 h37) hno
              have hd := dm8 (s := s) k0 h15
              refine ⟨by rw [b2i_1 (by omega)], ((h3.up30 (by decide)).up30 (by decide)).up30 (by decide), ((hk3.up (by decide) (by decide)).up (by decide) (by decide)).up (by decide) (by decide), fun _ => ?_, fun hn => absurd (by omega) hn⟩
              rw [hv, hd.1, hd.2]
              refine ⟨?_, ?_, up_same⟩
              · rw [up_ne (Or.inr (by decide)), up_ne (Or.inr (by decide)), up_same]
              · rw [up_ne (Or.inr (by decide)), up_same])

theorem c_byOne {b : Int} {V σ : Mem} (hi : Inv b V) (h : RM V σ) (hb : b + 200000 ≤ 500000000) : Ret 41 mX7_byOne [aR 30] σ (fun o τ => o = some (aI (b2i (0 ≤ oneV V 0))) ∧ (RM V τ ∧ keepM σ τ ∧ (0 ≤ oneV V 0 → τ 30 17 = 1 ∧ τ 30 18 = oneV V 0 / 8 ∧ τ 30 19 = qtr (oneV V 0 % 8)) ∧ (¬ 0 ≤ oneV V 0 → τ 30 17 = σ 30 17))) := by
  refine Ret.of [some (aR 30), none, none, none] rfl (plainFor_of_name (by decide)) (Nat.le_of_ble_eq_true rfl) ?_
  have hN := hi.N2
  refine g_iconst dX7_byOne_0 ?_
  refine g_istore_n (i := 1) dX7_byOne_1 rfl (by decide) ?_
  refine g_iload_n dX7_byOne_2 rfl ?_
  refine g_aload_n dX7_byOne_3 rfl ?_
  refine g_getI (ji := 0) rfl dX7_byOne_4 fX7_58 rfl rfl (by decide) ?_
  rw [h.N]
  refine g_icmp_ge (tgt := 87) dX7_byOne_7 (by decide) (by omega) (by omega) (fun h7 => absurd h7 (by omega)) (fun h7 => ?_)
  refine g_iconst dX7_byOne_10 ?_
  refine g_istore_n (i := 2) dX7_byOne_11 rfl (by decide) ?_
  exact c_byOne_lp hi hb 300 0 0 _ σ (by omega) (by omega) (by omega) (by omega) (by omega) h keepM.rfl rfl (fun c c0 c1 => by omega)

theorem c_bySecond_lp {b : Int} {V σ : Mem} (hi : Inv b V) (hb : b + 200000 ≤ 500000000) (s n : Int) (s0 : 0 ≤ s) : ∀ (fu : Nat) (t k : Int) (x5 : Option AV) (τ : Mem), s + 1 ≤ t → t < V 0 0 → 0 ≤ k → k ≤ 8 → 9 * (V 0 0 - t) - k < fu → RM V τ → keepM σ τ → (∀ j, j < 96 → τ 40 j = σ 40 j) → (∀ j, j ≠ 15 → τ 30 j = σ 30 j) → (∀ c, 8 * (s + 1) ≤ c → c < 8 * t + k → oneP V c = false) → Go 41 mX7_bySecond 15 [some (aR 30), some (aI s), some (aI n), some (aI t), some (aI k), x5] [] τ (fun o τ => o = some (aI (b2i (0 ≤ oneV V (s + 1)))) ∧ (RM V τ ∧ keepM σ τ ∧ (∀ j, j < 96 → τ 40 j = σ 40 j) ∧ (0 ≤ oneV V (s + 1) → τ 30 17 = 2 ∧ τ 30 18 = s ∧ τ 30 19 = n ∧ τ 30 20 = oneV V (s + 1) / 8 ∧ τ 30 21 = qtr (oneV V (s + 1) % 8)) ∧ (¬ 0 ≤ oneV V (s + 1) → ∀ j, j ≠ 15 → τ 30 j = σ 30 j))) := by
  intro fu
  induction fu with
  | zero => intros; omega
  | succ fu ih =>
    intro t k x5 τ t0 t1 k0 k1 kn h hkp h40 h30 hno
    have hN := hi.N2
    have hbb := hi.b
    refine g_iload dX7_bySecond_15 rfl ?_
    refine g_bipush (v := 8) dX7_bySecond_17 (by decide) ?_
    refine g_icmp_ge (tgt := 99) dX7_bySecond_19 (by decide) (by omega) (by omega) (fun h19 => ?_) (fun h19 => ?_)
    · have hk8 : k = 8 := by omega
      subst hk8
      refine g_iinc dX7_bySecond_99 rfl (by decide) ?_
      refine g_goto (tgt := 4) dX7_bySecond_102 (by decide) ?_
      refine g_iload_n dX7_bySecond_4 rfl ?_
      refine g_aload_n dX7_bySecond_5 rfl ?_
      refine g_getI (ji := 0) rfl dX7_bySecond_6 fX7_58 rfl rfl (by decide) ?_
      rw [h.N]
      refine g_icmp_ge (tgt := 105) dX7_bySecond_9 (by decide) (by omega) (by omega) (fun h9 => ?_) (fun h9 => ?_)
      · refine g_iconst dX7_bySecond_105 ?_
        exact g_iret dX7_bySecond_106 (by first | exact Or.inl rfl | exact Or.inr rfl | exact b2i_ok) (by
              have hv : oneV V (s + 1) = -1 := oneV_no (by omega) (fun c c0 c1 => hno c c0 (by omega))
              exact ⟨by rw [b2i_0 (by omega)], h, hkp, h40, fun hn => by omega, fun _ => h30⟩)
      · refine g_iconst dX7_bySecond_12 ?_
        refine g_istore dX7_bySecond_13 (by decide) ?_
        exact ih (t + 1) 0 x5 τ (by omega) (by omega) (by omega) (by omega) (by omega) h hkp h40 h30 (fun c c0 c1 => hno c c0 (by omega))
    · have qb := qtr_b k0 h19
      have hiW := mkV_inv (m := 100) hi t (qtr k) (by omega) t1 (by omega) (by omega) (by omega)
      have e1 : 0 ≤ k + 1 := by omega
      have e2 : k + 1 ≤ 8 := by omega
      have e3 : 9 * (V 0 0 - t) - (k + 1) < fu := by omega
      refine g_aload_n dX7_bySecond_22 rfl ?_
      refine g_iload_n dX7_bySecond_23 rfl ?_
      refine g_iload dX7_bySecond_24 rfl ?_
      refine g_pS1 dX7_bySecond_26 sX7_177 (by decide) (Nat.le_of_ble_eq_true rfl) (c_quarters k k0 h19) ?_
      refine g_iconst dX7_bySecond_29 ?_
      refine g_eV3 dX7_bySecond_30 qX7_167 rfl (by decide) (by decide) (Nat.le_of_ble_eq_true rfl) (c_tries hi h t (qtr k) 1 (by omega) t1 (by omega) (by omega) hb) ?_
      intro τ1 hq1
      obtain ⟨h1, hA, hf, hf2⟩ := hq1
      refine g_ifb_eq (tgt := 93) dX7_bySecond_33 (by decide) (fun h33 => g_iinc dX7_bySecond_93 rfl (by decide) (g_goto (tgt := 15) dX7_bySecond_96 (by decide) (ih t (k + 1) x5 τ1 t0 t1 e1 e2 e3 (h1.ifn h33) (fun a ha => by rw [hf a (by omega) (by omega) (by omega)]; exact hkp a ha) (fun j hj => by rw [hf2 j (by omega)]; exact h40 j hj) (fun j hj => by rw [hf 30 (by decide) (by decide) (by decide)]; exact h30 j hj) (fun c c0 c1 => by
        by_cases hc : c = 8 * t + k
        · rw [hc]; exact oneP_no k0 h19 (Or.inl h33)
        · exact hno c c0 (by omega))))) (fun h33 => ?_)
      refine g_aload_n dX7_bySecond_36 rfl ?_
      refine g_eV0 dX7_bySecond_37 qX7_150 rfl (by decide) (by decide) (Nat.le_of_ble_eq_true rfl) (c_fault hiW (h1.ifp h33)) ?_
      intro τ2 hq2
      obtain ⟨h2, hc2⟩ := hq2
      have hfb := flt_32 hiW
      refine g_ldc dX7_bySecond_40 kX7_146 ?_
      refine g_icmp_ne (tgt := 49) dX7_bySecond_42 (by decide) (by omega) (by omega) (fun h42 => ?_) (fun h42 => ?_)
      · refine g_iconst dX7_bySecond_49 ?_
        refine g_istore dX7_bySecond_50 (by decide) ?_
        refine g_aload_n dX7_bySecond_52 rfl ?_
        refine g_iconst dX7_bySecond_53 ?_
        refine g_vV1 dX7_bySecond_54 qX7_164 rfl (by decide) (by decide) (Nat.le_of_ble_eq_true rfl) (c_bring 1 (by omega) hN.2 h h2 (like_mk V t (qtr k)) (hA.keep (fun j _ _ => by rw [hc2.1 40 (by decide) (by decide)]))) ?_
        intro τ3 hq3
        obtain ⟨h3, hc3⟩ := hq3
        have hk3 : keepM σ τ3 := fun a ha => by rw [hc3 a (by omega) (by omega), hc2.1 a (by omega) (by omega), hf a (by omega) (by omega) (by omega)]; exact hkp a ha
        have h403 : ∀ j, j < 96 → τ3 40 j = σ 40 j := fun j hj => by rw [hc3 40 (by decide) (by decide), hc2.1 40 (by decide) (by decide), hf2 j (by omega)]; exact h40 j hj
        have h303 : ∀ j, j ≠ 15 → τ3 30 j = σ 30 j := fun j hj => by rw [hc3 30 (by decide) (by decide), hc2.2 j hj, hf 30 (by decide) (by decide) (by decide)]; exact h30 j hj
        refine g_iload dX7_bySecond_57 rfl ?_
        refine g_if_eq (tgt := 93) dX7_bySecond_59 (by decide) (by decide) (fun _ => ?_) (fun h => absurd h (by decide))
        refine g_iinc dX7_bySecond_93 rfl (by decide) ?_
        refine g_goto (tgt := 15) dX7_bySecond_96 (by decide) ?_
        exact ih t (k + 1) _ τ3 t0 t1 e1 e2 e3 h3 hk3 h403 h303 (fun c c0 c1 => by
          by_cases hc : c = 8 * t + k
          · rw [hc]; exact oneP_no k0 h19 (Or.inr h42)
          · exact hno c c0 (by omega))
      · refine g_iconst dX7_bySecond_45 ?_
        refine g_goto (tgt := 50) dX7_bySecond_46 (by decide) ?_
        refine g_istore dX7_bySecond_50 (by decide) ?_
        refine g_aload_n dX7_bySecond_52 rfl ?_
        refine g_iconst dX7_bySecond_53 ?_
        refine g_vV1 dX7_bySecond_54 qX7_164 rfl (by decide) (by decide) (Nat.le_of_ble_eq_true rfl) (c_bring 1 (by omega) hN.2 h h2 (like_mk V t (qtr k)) (hA.keep (fun j _ _ => by rw [hc2.1 40 (by decide) (by decide)]))) ?_
        intro τ3 hq3
        obtain ⟨h3, hc3⟩ := hq3
        have hk3 : keepM σ τ3 := fun a ha => by rw [hc3 a (by omega) (by omega), hc2.1 a (by omega) (by omega), hf a (by omega) (by omega) (by omega)]; exact hkp a ha
        have h403 : ∀ j, j < 96 → τ3 40 j = σ 40 j := fun j hj => by rw [hc3 40 (by decide) (by decide), hc2.1 40 (by decide) (by decide), hf2 j (by omega)]; exact h40 j hj
        have h303 : ∀ j, j ≠ 15 → τ3 30 j = σ 30 j := fun j hj => by rw [hc3 30 (by decide) (by decide), hc2.2 j hj, hf 30 (by decide) (by decide) (by decide)]; exact h30 j hj
        refine g_iload dX7_bySecond_57 rfl ?_
        refine g_if_eq (tgt := 93) dX7_bySecond_59 (by decide) (by decide) (fun h => absurd h (by decide)) (fun _ => ?_)
        refine g_aload_n dX7_bySecond_62 rfl ?_
        refine g_iconst dX7_bySecond_63 ?_
        refine g_putI (ji := 17) rfl dX7_bySecond_64 vX7_180 rfl rfl (by decide) (by decide) ?_
        refine g_aload_n dX7_bySecond_67 rfl ?_
        refine g_iload_n dX7_bySecond_68 rfl ?_
        refine g_putI (ji := 18) rfl dX7_bySecond_69 vX7_183 rfl rfl (by decide) (by decide) ?_
        refine g_aload_n dX7_bySecond_72 rfl ?_
        refine g_iload_n dX7_bySecond_73 rfl ?_
        refine g_putI (ji := 19) rfl dX7_bySecond_74 vX7_186 rfl rfl (by decide) (by decide) ?_
        refine g_aload_n dX7_bySecond_77 rfl ?_
        refine g_iload_n dX7_bySecond_78 rfl ?_
        refine g_putI (ji := 20) rfl dX7_bySecond_79 vX7_189 rfl rfl (by decide) (by decide) ?_
        refine g_aload_n dX7_bySecond_82 rfl ?_
        refine g_iload dX7_bySecond_83 rfl ?_
        refine g_pS1 dX7_bySecond_85 sX7_177 (by decide) (Nat.le_of_ble_eq_true rfl) (c_quarters k k0 h19) ?_
        refine g_putI (ji := 21) rfl dX7_bySecond_88 vX7_192 rfl rfl (by decide) (by decide) ?_
        refine g_iconst dX7_bySecond_91 ?_
        exact g_iret dX7_bySecond_92 (by first | exact Or.inl rfl | exact Or.inr rfl | exact b2i_ok) (by
              have hv : oneV V (s + 1) = 8 * t + k := oneV_at (by omega) (by omega) (by omega) (oneP_yes k0 h19 h33 h42) hno
              have hd := dm8 (s := t) k0 h19
              refine ⟨by rw [b2i_1 (by omega)], ((((h3.up30 (by decide)).up30 (by decide)).up30 (by decide)).up30 (by decide)).up30 (by decide), ((((hk3.up (by decide) (by decide)).up (by decide) (by decide)).up (by decide) (by decide)).up (by decide) (by decide)).up (by decide) (by decide), fun j hj => by rw [up_cell (by decide), up_cell (by decide), up_cell (by decide), up_cell (by decide), up_cell (by decide)]; exact h403 j hj, fun _ => ?_, fun hn => absurd (by omega) hn⟩
              rw [hv, hd.1, hd.2]
              refine ⟨?_, ?_, ?_, ?_, up_same⟩
              · rw [up_ne (Or.inr (by decide)), up_ne (Or.inr (by decide)), up_ne (Or.inr (by decide)), up_ne (Or.inr (by decide)), up_same]
              · rw [up_ne (Or.inr (by decide)), up_ne (Or.inr (by decide)), up_ne (Or.inr (by decide)), up_same]
              · rw [up_ne (Or.inr (by decide)), up_ne (Or.inr (by decide)), up_same]
              · rw [up_ne (Or.inr (by decide)), up_same])

theorem c_bySecond {b : Int} {V σ : Mem} (hi : Inv b V) (h : RM V σ) (hb : b + 200000 ≤ 500000000) (s n : Int) (s0 : 0 ≤ s) (s1 : s < V 0 0) : Ret 41 mX7_bySecond [aR 30, aI s, aI n] σ (fun o τ => o = some (aI (b2i (0 ≤ oneV V (s + 1)))) ∧ (RM V τ ∧ keepM σ τ ∧ (∀ j, j < 96 → τ 40 j = σ 40 j) ∧ (0 ≤ oneV V (s + 1) → τ 30 17 = 2 ∧ τ 30 18 = s ∧ τ 30 19 = n ∧ τ 30 20 = oneV V (s + 1) / 8 ∧ τ 30 21 = qtr (oneV V (s + 1) % 8)) ∧ (¬ 0 ≤ oneV V (s + 1) → ∀ j, j ≠ 15 → τ 30 j = σ 30 j))) := by
  refine Ret.of [some (aR 30), some (aI s), some (aI n), none, none, none] rfl (plainFor_of_name (by decide)) (Nat.le_of_ble_eq_true rfl) ?_
  have hN := hi.N2
  refine g_iload_n dX7_bySecond_0 rfl ?_
  refine g_iconst dX7_bySecond_1 ?_
  refine g_iadd dX7_bySecond_2 ?_
  refine g_istore_n (i := 3) dX7_bySecond_3 rfl (by decide) ?_
  refine g_iload_n dX7_bySecond_4 rfl ?_
  refine g_aload_n dX7_bySecond_5 rfl ?_
  refine g_getI (ji := 0) rfl dX7_bySecond_6 fX7_58 rfl rfl (by decide) ?_
  rw [h.N]
  refine g_icmp_ge (tgt := 105) dX7_bySecond_9 (by decide) (by omega) (by omega) (fun h9 => ?_) (fun h9 => ?_)
  · refine g_iconst dX7_bySecond_105 ?_
    exact g_iret dX7_bySecond_106 (by first | exact Or.inl rfl | exact Or.inr rfl | exact b2i_ok) (by
          have hv : oneV V (s + 1) = -1 := oneV_no (by omega) (fun c c0 c1 => by omega)
          exact ⟨by rw [b2i_0 (by omega)], h, keepM.rfl, fun _ _ => rfl, fun hn => by omega, fun _ _ _ => rfl⟩)
  · refine g_iconst dX7_bySecond_12 ?_
    refine g_istore dX7_bySecond_13 (by decide) ?_
    exact c_bySecond_lp hi hb s n s0 300 (s + 1) 0 _ σ (by omega) (by omega) (by omega) (by omega) (by omega) h keepM.rfl (fun _ _ => rfl) (fun _ _ => rfl) (fun c c0 c1 => by omega)

theorem c_byTwo_lp {b : Int} {V σ : Mem} (hi : Inv b V) (hb : b + 400000 ≤ 500000000) : ∀ (fu : Nat) (s k : Int) (x3 : Option AV) (τ : Mem), 0 ≤ s → s < V 0 0 → 0 ≤ k → k ≤ 8 → 9 * (V 0 0 - s) - k < fu → RM V τ → keepM σ τ → τ 30 17 = σ 30 17 → (∀ c, 0 ≤ c → c < 8 * s + k → twoP V c = false) → Go 41 mX7_byTwo 12 [some (aR 30), some (aI s), some (aI k), x3] [] τ (fun o τ => o = some (aI (b2i (0 ≤ twoV V))) ∧ (RM V τ ∧ keepM σ τ ∧ (0 ≤ twoV V → τ 30 17 = 2 ∧ τ 30 18 = twoV V / 8 ∧ τ 30 19 = qtr (twoV V % 8) ∧ τ 30 20 = oneV (mkV V (twoV V / 8) (qtr (twoV V % 8))) (twoV V / 8 + 1) / 8 ∧ τ 30 21 = qtr (oneV (mkV V (twoV V / 8) (qtr (twoV V % 8))) (twoV V / 8 + 1) % 8)) ∧ (¬ 0 ≤ twoV V → τ 30 17 = σ 30 17))) := by
  intro fu
  induction fu with
  | zero => intros; omega
  | succ fu ih =>
    intro s k x3 τ s0 s1 k0 k1 kn h hkp h17 hno
    have hN := hi.N2
    have hbb := hi.b
    refine g_iload_n dX7_byTwo_12 rfl ?_
    refine g_bipush (v := 8) dX7_byTwo_13 (by decide) ?_
    refine g_icmp_ge (tgt := 58) dX7_byTwo_15 (by decide) (by omega) (by omega) (fun h15 => ?_) (fun h15 => ?_)
    · have hk8 : k = 8 := by omega
      subst hk8
      refine g_iinc dX7_byTwo_58 rfl (by decide) ?_
      refine g_goto (tgt := 2) dX7_byTwo_61 (by decide) ?_
      refine g_iload_n dX7_byTwo_2 rfl ?_
      refine g_aload_n dX7_byTwo_3 rfl ?_
      refine g_getI (ji := 0) rfl dX7_byTwo_4 fX7_58 rfl rfl (by decide) ?_
      rw [h.N]
      refine g_icmp_ge (tgt := 64) dX7_byTwo_7 (by decide) (by omega) (by omega) (fun h7 => ?_) (fun h7 => ?_)
      · refine g_iconst dX7_byTwo_64 ?_
        exact g_iret dX7_byTwo_65 (by first | exact Or.inl rfl | exact Or.inr rfl | exact b2i_ok) (by
              have hv : twoV V = -1 := firstI_no (by omega) (fun c c0 c1 => hno c c0 (by omega))
              exact ⟨by rw [b2i_0 (by omega)], h, hkp, fun hn => by omega, fun _ => h17⟩)
      · refine g_iconst dX7_byTwo_10 ?_
        refine g_istore_n (i := 2) dX7_byTwo_11 rfl (by decide) ?_
        exact ih (s + 1) 0 x3 τ (by omega) (by omega) (by omega) (by omega) (by omega) h hkp h17 (fun c c0 c1 => hno c c0 (by omega))
    · have qb := qtr_b k0 h15
      have hiW := mkV_inv (m := 100) hi s (qtr k) s0 s1 (by omega) (by omega) (by omega)
      have eW : mkV V s (qtr k) 0 0 = V 0 0 := by rw [mkV_o (by decide) (by decide) (by decide)]
      have e1 : 0 ≤ k + 1 := by omega
      have e2 : k + 1 ≤ 8 := by omega
      have e3 : 9 * (V 0 0 - s) - (k + 1) < fu := by omega
      refine g_aload_n dX7_byTwo_18 rfl ?_
      refine g_iload_n dX7_byTwo_19 rfl ?_
      refine g_iload_n dX7_byTwo_20 rfl ?_
      refine g_pS1 dX7_byTwo_21 sX7_177 (by decide) (Nat.le_of_ble_eq_true rfl) (c_quarters k k0 h15) ?_
      refine g_iconst dX7_byTwo_24 ?_
      refine g_eV3 dX7_byTwo_25 qX7_167 rfl (by decide) (by decide) (Nat.le_of_ble_eq_true rfl) (c_tries hi h s (qtr k) 0 s0 s1 (by omega) (by omega) (by omega)) ?_
      intro τ1 hq1
      obtain ⟨h1, hA, hf, hf2⟩ := hq1
      refine g_ifb_eq (tgt := 52) dX7_byTwo_28 (by decide) (fun h28 => g_iinc dX7_byTwo_52 rfl (by decide) (g_goto (tgt := 12) dX7_byTwo_55 (by decide) (ih s (k + 1) x3 τ1 s0 s1 e1 e2 e3 (h1.ifn h28) (fun a ha => by rw [hf a (by omega) (by omega) (by omega)]; exact hkp a ha) (by rw [hf 30 (by decide) (by decide) (by decide)]; exact h17) (fun c c0 c1 => by
        by_cases hc : c = 8 * s + k
        · rw [hc]; exact twoP_no k0 h15 (Or.inl h28)
        · exact hno c c0 (by omega))))) (fun h28 => ?_)
      refine g_aload_n dX7_byTwo_31 rfl ?_
      refine g_iload_n dX7_byTwo_32 rfl ?_
      refine g_iload_n dX7_byTwo_33 rfl ?_
      refine g_pS1 dX7_byTwo_34 sX7_177 (by decide) (Nat.le_of_ble_eq_true rfl) (c_quarters k k0 h15) ?_
      refine g_eV2 dX7_byTwo_37 qX7_195 rfl (by decide) (by decide) (Nat.le_of_ble_eq_true rfl) (c_bySecond hiW (h1.ifp h28) (by omega) s (qtr k) s0 (by omega)) ?_
      intro τ2 hq2
      obtain ⟨h2, hc2, hd2, hy2, hn2⟩ := hq2
      refine g_istore_n (i := 3) dX7_byTwo_40 rfl (by decide) ?_
      refine g_aload_n dX7_byTwo_41 rfl ?_
      refine g_iconst dX7_byTwo_42 ?_
      refine g_vV1 dX7_byTwo_43 qX7_164 rfl (by decide) (by decide) (Nat.le_of_ble_eq_true rfl) (c_bring 0 (by omega) hN.2 h h2 (like_mk V s (qtr k)) (hA.keep (fun j _ _ => hd2 j (by omega)))) ?_
      intro τ3 hq3
      obtain ⟨h3, hc3⟩ := hq3
      have hk3 : keepM σ τ3 := fun a ha => by rw [hc3 a (by omega) (by omega), hc2 a (by omega), hf a (by omega) (by omega) (by omega)]; exact hkp a ha
      refine g_iload_n dX7_byTwo_46 rfl ?_
      refine g_ifb_eq (tgt := 52) dX7_byTwo_47 (by decide) (fun h47 => ?_) (fun h47 => ?_)
      · refine g_iinc dX7_byTwo_52 rfl (by decide) ?_
        refine g_goto (tgt := 12) dX7_byTwo_55 (by decide) ?_
        exact ih s (k + 1) _ τ3 s0 s1 e1 e2 e3 h3 hk3 (by rw [hc3 30 (by decide) (by decide), hn2 h47 17 (by decide), hf 30 (by decide) (by decide) (by decide)]; exact h17) (fun c c0 c1 => by
          by_cases hc : c = 8 * s + k
          · rw [hc]; exact twoP_no k0 h15 (Or.inr h47)
          · exact hno c c0 (by omega))
      · refine g_iconst dX7_byTwo_50 ?_
        exact g_iret dX7_byTwo_51 (by first | exact Or.inl rfl | exact Or.inr rfl | exact b2i_ok) (by
              have hv : twoV V = 8 * s + k := firstI_eq (by omega) (by omega) (by omega) (twoP_yes k0 h15 h28 h47) hno
              have hd := dm8 (s := s) k0 h15
              refine ⟨by rw [b2i_1 (by omega)], h3, hk3, fun _ => ?_, fun hn => absurd (by omega) hn⟩
              rw [hv, hd.1, hd.2, hc3 30 (by decide) (by decide)]
              exact hy2 h47)

theorem c_byTwo {b : Int} {V σ : Mem} (hi : Inv b V) (h : RM V σ) (hb : b + 400000 ≤ 500000000) : Ret 41 mX7_byTwo [aR 30] σ (fun o τ => o = some (aI (b2i (0 ≤ twoV V))) ∧ (RM V τ ∧ keepM σ τ ∧ (0 ≤ twoV V → τ 30 17 = 2 ∧ τ 30 18 = twoV V / 8 ∧ τ 30 19 = qtr (twoV V % 8) ∧ τ 30 20 = oneV (mkV V (twoV V / 8) (qtr (twoV V % 8))) (twoV V / 8 + 1) / 8 ∧ τ 30 21 = qtr (oneV (mkV V (twoV V / 8) (qtr (twoV V % 8))) (twoV V / 8 + 1) % 8)) ∧ (¬ 0 ≤ twoV V → τ 30 17 = σ 30 17))) := by
  refine Ret.of [some (aR 30), none, none, none] rfl (plainFor_of_name (by decide)) (Nat.le_of_ble_eq_true rfl) ?_
  have hN := hi.N2
  refine g_iconst dX7_byTwo_0 ?_
  refine g_istore_n (i := 1) dX7_byTwo_1 rfl (by decide) ?_
  refine g_iload_n dX7_byTwo_2 rfl ?_
  refine g_aload_n dX7_byTwo_3 rfl ?_
  refine g_getI (ji := 0) rfl dX7_byTwo_4 fX7_58 rfl rfl (by decide) ?_
  rw [h.N]
  refine g_icmp_ge (tgt := 64) dX7_byTwo_7 (by decide) (by omega) (by omega) (fun h7 => absurd h7 (by omega)) (fun h7 => ?_)
  refine g_iconst dX7_byTwo_10 ?_
  refine g_istore_n (i := 2) dX7_byTwo_11 rfl (by decide) ?_
  exact c_byTwo_lp hi hb 300 0 0 _ σ (by omega) (by omega) (by omega) (by omega) (by omega) h keepM.rfl rfl (fun c c0 c1 => by omega)
