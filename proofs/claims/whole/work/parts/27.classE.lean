/-! the gauge: a turn of s by n is supposed; the sums that stay -/
def GA (V σ : Mem) (s n : Int) : Prop := σ 23 3 = s ∧ σ 23 4 = leanK (V 1 s) ∧ σ 23 5 = forceK (V 1 s) * n * leanK (V 1 s) ∧ σ 23 6 = forceK (V 1 s) * n
def GR (V σ : Mem) : Prop := σ 23 7 = sumN (rdg V 0) (V 0 0).toNat ∧ σ 23 8 = sumN (fun p => V 8 (stp (V 0 0) 0 p)) (V 0 0).toNat
/-- the two that made the spread measured last stay -/
def sx (σ τ : Mem) : Prop := τ 23 9 = σ 23 9 ∧ τ 23 10 = σ 23 10
/-- nothing changes but they -/
def sp (σ τ : Mem) : Prop := (∀ a, a ≠ 23 → τ a = σ a) ∧ ∀ j, j ≠ 9 → j ≠ 10 → τ 23 j = σ 23 j
theorem sp.rfl {σ : Mem} : sp σ σ := ⟨fun _ _ => Eq.refl _, fun _ _ _ => Eq.refl _⟩
theorem sp.trans {a b c : Mem} (h : sp a b) (k : sp b c) : sp a c := ⟨fun q hq => (k.1 q hq).trans (h.1 q hq), fun j h1 h2 => (k.2 j h1 h2).trans (h.2 j h1 h2)⟩
theorem sp.put {σ τ : Mem} {j v : Int} (h : sp σ τ) (hj : j = 9 ∨ j = 10) : sp σ (up τ 23 j v) := ⟨fun a ha => by rw [up_cell ha]; exact h.1 a ha, fun i h1 h2 => by rw [up_ne (Or.inr (by omega))]; exact h.2 i h1 h2⟩
theorem GA.kept {V σ τ : Mem} {s n : Int} (h : GA V σ s n) (e : sp σ τ) : GA V τ s n := by
  unfold GA
  rw [e.2 3 (by decide) (by decide), e.2 4 (by decide) (by decide), e.2 5 (by decide) (by decide), e.2 6 (by decide) (by decide)]
  exact h
theorem GR.kept {V σ τ : Mem} (h : GR V σ) (e : sp σ τ) : GR V τ := by
  unfold GR
  rw [e.2 7 (by decide) (by decide), e.2 8 (by decide) (by decide)]
  exact h
theorem RX.of23 {V σ τ : Mem} (h : RX V σ) (e : ∀ a, a ≠ 23 → a ≠ 24 → a ≠ 25 → τ a = σ a) : RX V τ := by
  unfold RX at h ⊢
  rw [e 10 (by decide) (by decide) (by decide), e 41 (by decide) (by decide) (by decide), e 11 (by decide) (by decide) (by decide), e 12 (by decide) (by decide) (by decide), e 9 (by decide) (by decide) (by decide), e 22 (by decide) (by decide) (by decide), e 26 (by decide) (by decide) (by decide), e 27 (by decide) (by decide) (by decide), e 28 (by decide) (by decide) (by decide), e 29 (by decide) (by decide) (by decide), e 100 (by decide) (by decide) (by decide), e 101 (by decide) (by decide) (by decide), e 102 (by decide) (by decide) (by decide), e 103 (by decide) (by decide) (by decide), e 200 (by decide) (by decide) (by decide), e 201 (by decide) (by decide) (by decide), e 202 (by decide) (by decide) (by decide), e 203 (by decide) (by decide) (by decide)]
  refine ⟨h.1, h.2.1, fun r hr => ?_, h.2.2.2.1, fun t ht => ?_, h.2.2.2.2.2⟩
  · rw [e (20 + r) (by omega) (by omega) (by omega), e (14 + r) (by omega) (by omega) (by omega), e (17 + r) (by omega) (by omega) (by omega)]
    exact h.2.2.1 r hr
  · rw [e (3 + t) (by omega) (by omega) (by omega)]
    exact h.2.2.2.2.1 t ht
theorem RX.kept {V σ τ : Mem} (h : RX V σ) (e : sp σ τ) : RX V τ := h.of23 (fun a a1 _ _ => e.1 a a1)
theorem mkV_0 (V : Mem) (s : Int) : mkV V s 0 = V := by
  funext a j
  unfold mkV
  simp only [Int.mul_zero, Int.zero_mul, Int.add_zero, ite_self]
  repeat' split
  all_goals first | rfl | (rename_i h; rw [h.1]) | (rename_i h _; rw [h.1]) | (rename_i h _ _; rw [h.1])

theorem x_suppose {V σ : Mem} (hi : Inv0 V) (h : XS V σ) (s n : Int) (s0 : 0 ≤ s) (s1 : s < V 0 0) : Ret 41 mX0_suppose [aR 23, aI s, aI n] σ (fun o τ => o = none ∧ (GA V τ s n ∧ (∀ a, a ≠ 23 → τ a = σ a) ∧ (τ 23 7 = σ 23 7 ∧ τ 23 8 = σ 23 8) ∧ sx σ τ)) := by
  refine Ret.of [some (aR 23), some (aI s), some (aI n)] rfl (plainFor_of_name (by decide)) (Nat.le_of_ble_eq_true rfl) ?_
  have hN := hi.N2
  refine g_aload_n dX0_suppose_0 rfl ?_
  refine g_iload_n dX0_suppose_1 rfl ?_
  refine g_putI (ji := 3) rfl dX0_suppose_2 vX0_53 rfl rfl (by decide) (by decide) ?_
  refine g_aload_n dX0_suppose_5 rfl ?_
  refine g_aload_n dX0_suppose_6 rfl ?_
  refine g_getR dX0_suppose_7 fX0_9 rfl rfl (by decide) ?_
  refine g_iload_n dX0_suppose_10 rfl ?_
  refine g_pV1 dX0_suppose_11 qX0_56 rfl (by decide) (by decide) (Nat.le_of_ble_eq_true rfl) (x_leanOf hi (h.keep (fun a ha => up_cell (by omega))) s s0 s1) ?_
  refine g_putI (ji := 4) rfl dX0_suppose_14 vX0_60 rfl rfl (by decide) (by decide) ?_
  refine g_aload_n dX0_suppose_17 rfl ?_
  refine g_iload_n dX0_suppose_18 rfl ?_
  refine g_aload_n dX0_suppose_19 rfl ?_
  refine g_getR dX0_suppose_20 fX0_9 rfl rfl (by decide) ?_
  refine g_iload_n dX0_suppose_23 rfl ?_
  refine g_pV1 dX0_suppose_24 qX0_63 rfl (by decide) (by decide) (Nat.le_of_ble_eq_true rfl) (x_forceOf hi (h.keep (fun a ha => by rw [up_cell (by omega), up_cell (by omega)])) s s0 s1) ?_
  refine g_imul dX0_suppose_27 ?_
  refine g_putI (ji := 6) rfl dX0_suppose_28 vX0_66 rfl rfl (by decide) (by decide) ?_
  refine g_aload_n dX0_suppose_31 rfl ?_
  refine g_aload_n dX0_suppose_32 rfl ?_
  refine g_getI (ji := 6) rfl dX0_suppose_33 fX0_66 rfl rfl (by decide) ?_
  rw [up_same]
  refine g_aload_n dX0_suppose_36 rfl ?_
  refine g_getI (ji := 4) rfl dX0_suppose_37 fX0_60 rfl rfl (by decide) ?_
  rw [up_ne (Or.inr (by decide)), up_same]
  refine g_imul dX0_suppose_40 ?_
  refine g_putI (ji := 5) rfl dX0_suppose_41 vX0_69 rfl rfl (by decide) (by decide) ?_
  refine g_vret dX0_suppose_44 trivial ⟨rfl, ⟨?_, ?_, ?_, ?_⟩, fun a ha => by rw [up_cell ha, up_cell ha, up_cell ha, up_cell ha], ⟨?_, ?_⟩, ?_, ?_⟩
  · rw [up_ne (Or.inr (by decide)), up_ne (Or.inr (by decide)), up_ne (Or.inr (by decide)), up_same]
  · rw [up_ne (Or.inr (by decide)), up_ne (Or.inr (by decide)), up_same]
  · rw [up_same, Int.mul_comm n]
  · rw [up_ne (Or.inr (by decide)), up_same, Int.mul_comm n]
  · rw [up_ne (Or.inr (by decide)), up_ne (Or.inr (by decide)), up_ne (Or.inr (by decide)), up_ne (Or.inr (by decide))]
  · rw [up_ne (Or.inr (by decide)), up_ne (Or.inr (by decide)), up_ne (Or.inr (by decide)), up_ne (Or.inr (by decide))]
  · rw [up_ne (Or.inr (by decide)), up_ne (Or.inr (by decide)), up_ne (Or.inr (by decide)), up_ne (Or.inr (by decide))]
  · rw [up_ne (Or.inr (by decide)), up_ne (Or.inr (by decide)), up_ne (Or.inr (by decide)), up_ne (Or.inr (by decide))]

theorem x_rest_lp {b : Int} {V σ : Mem} (hi : Inv b V) (h : RX V σ) : ∀ (fu : Nat) (k : Int) (τ : Mem), 0 ≤ k → k ≤ V 0 0 → V 0 0 - k < fu → GA V τ 0 0 → τ 23 7 = sumN (rdg V 0) k.toNat → τ 23 8 = sumN (fun p => V 8 (stp (V 0 0) 0 p)) k.toNat → (∀ a, a ≠ 23 → τ a = σ a) → sx σ τ → Go 41 mX0_rest 18 [some (aR 23), some (aI k)] [] τ (fun o τ => o = none ∧ (GA V τ 0 0 ∧ GR V τ ∧ (∀ a, a ≠ 23 → τ a = σ a) ∧ sx σ τ)) := by
  intro fu
  induction fu with
  | zero => intros; omega
  | succ fu ih =>
    intro k τ k0 k1 kn hga e7 e8 hk hsx
    have hN := hi.N2
    have hX : RX V τ := h.of23 (fun a a1 _ _ => hk a a1)
    have hbb := hi.b
    refine g_iload_n dX0_rest_18 rfl ?_
    refine g_aload_n dX0_rest_19 rfl ?_
    refine g_getR dX0_rest_20 fX0_9 rfl rfl (by decide) ?_
    refine g_getI (ji := 6) rfl dX0_rest_23 fX0_34 rfl rfl (by decide) ?_
    rw [hX.N]
    refine g_icmp_ge (tgt := 83) dX0_rest_26 (by decide) (by omega) (by omega) (fun h26 => ?_) (fun h26 => ?_)
    · exact g_vret dX0_rest_83 trivial ⟨rfl, hga, ⟨by rw [e7, show k = V 0 0 by omega], by rw [e8, show k = V 0 0 by omega]⟩, hk, hsx⟩
    · have hkN : k < V 0 0 := h26
      have rb := rdg_b hi 0 (by decide) k k0 hkN
      have hst := stp_b hi.N (show (0 : Int) ≤ 0 by decide) (by omega) k0 hkN
      have tb : -1000 ≤ V 8 (stp (V 0 0) 0 k) ∧ V 8 (stp (V 0 0) 0 k) ≤ 1000 ∧ _ := hi.tab 0 (by decide) _ hst.1 (by omega)
      have ht : τ 3 (stp (V 0 0) 0 k) = V 8 (stp (V 0 0) 0 k) := hX.tab 0 (by decide) _ hst.1 (by omega)
      have hX2 : RX V (up τ 23 7 (sumN (rdg V 0) k.toNat + rdg V 0 k)) := hX.of23 (fun a a1 _ _ => up_cell a1)
      refine g_aload_n dX0_rest_29 rfl ?_
      refine g_dup dX0_rest_30 (fun x h => by cases h) ?_
      refine g_getL (ji := 7) rfl dX0_rest_31 fX0_27 rfl rfl (by decide) ?_
      rw [e7]
      refine g_aload_n dX0_rest_34 rfl ?_
      refine g_getR dX0_rest_35 fX0_9 rfl rfl (by decide) ?_
      refine g_iconst dX0_rest_38 ?_
      refine g_iload_n dX0_rest_39 rfl ?_
      refine g_pV2 dX0_rest_40 qX0_40 rfl (by decide) (by decide) (Nat.le_of_ble_eq_true rfl) (x_bentAt (r := 0) hi hX (by decide) k k0 hkN) ?_
      refine g_i2l dX0_rest_43 (by omega) ?_
      refine g_ladd dX0_rest_44 ?_
      refine g_putL (ji := 7) rfl dX0_rest_45 vX0_27 rfl rfl (by decide) (by decide) ?_
      refine g_aload_n dX0_rest_48 rfl ?_
      refine g_dup dX0_rest_49 (fun x h => by cases h) ?_
      refine g_getL (ji := 8) rfl dX0_rest_50 fX0_31 rfl rfl (by decide) ?_
      rw [up_ne (Or.inr (by decide)), e8]
      refine g_aload_n dX0_rest_53 rfl ?_
      refine g_getR dX0_rest_54 fX0_15 rfl rfl (by decide) ?_
      refine g_getR dX0_rest_57 fX0_44 rfl rfl (by decide) ?_
      refine g_iconst dX0_rest_60 ?_
      refine g_aaload (q := 3) dX0_rest_61 rfl (by decide) (by decide) (by decide) (by decide) rfl ?_
      refine g_aload_n dX0_rest_62 rfl ?_
      refine g_getR dX0_rest_63 fX0_9 rfl rfl (by decide) ?_
      refine g_iconst dX0_rest_66 ?_
      refine g_iload_n dX0_rest_67 rfl ?_
      refine g_pV2 dX0_rest_68 qX0_50 rfl (by decide) (by decide) (Nat.le_of_ble_eq_true rfl) (x_steps hi.i0 hX2.r0 0 k (by decide) (by omega) k0 hkN) ?_
      refine g_iaload dX0_rest_71 rfl (by decide) (by omega) (by omega) (by decide) ?_
      rw [up_cell (by decide), ht]
      refine g_i2l dX0_rest_72 (by omega) ?_
      refine g_ladd dX0_rest_73 ?_
      refine g_putL (ji := 8) rfl dX0_rest_74 vX0_31 rfl rfl (by decide) (by decide) ?_
      refine g_iinc dX0_rest_77 rfl (by decide) ?_
      refine g_goto (tgt := 18) dX0_rest_80 (by decide) ?_
      exact ih (k + 1) _ (by omega) (by omega) (by omega) ⟨by rw [up_ne (Or.inr (by decide)), up_ne (Or.inr (by decide))]; exact hga.1, by rw [up_ne (Or.inr (by decide)), up_ne (Or.inr (by decide))]; exact hga.2.1, by rw [up_ne (Or.inr (by decide)), up_ne (Or.inr (by decide))]; exact hga.2.2.1, by rw [up_ne (Or.inr (by decide)), up_ne (Or.inr (by decide))]; exact hga.2.2.2⟩ (by rw [up_ne (Or.inr (by decide)), up_same, sumN_succ k0]) (by rw [up_same, sumN_succ k0]) (fun a ha => by rw [up_cell ha, up_cell ha]; exact hk a ha) ⟨by rw [up_ne (Or.inr (by decide)), up_ne (Or.inr (by decide))]; exact hsx.1, by rw [up_ne (Or.inr (by decide)), up_ne (Or.inr (by decide))]; exact hsx.2⟩

theorem x_rest {b : Int} {V σ : Mem} (hi : Inv b V) (h : RX V σ) : Ret 41 mX0_rest [aR 23] σ (fun o τ => o = none ∧ (GA V τ 0 0 ∧ GR V τ ∧ (∀ a, a ≠ 23 → τ a = σ a) ∧ sx σ τ)) := by
  refine Ret.of [some (aR 23), none] rfl (plainFor_of_name (by decide)) (Nat.le_of_ble_eq_true rfl) ?_
  have hN := hi.N2
  refine g_aload_n dX0_rest_0 rfl ?_
  refine g_iconst dX0_rest_1 ?_
  refine g_iconst dX0_rest_2 ?_
  refine g_vV2 dX0_rest_3 qX0_23 rfl (by decide) (by decide) (Nat.le_of_ble_eq_true rfl) (x_suppose hi.i0 h.r0 0 0 (by decide) (by omega)) ?_
  intro τ hq
  obtain ⟨hga, hk, -, hsx⟩ := hq
  refine g_aload_n dX0_rest_6 rfl ?_
  refine g_lconst (v := 0) dX0_rest_7 (by decide) ?_
  refine g_putL (ji := 7) rfl dX0_rest_8 vX0_27 rfl rfl (by decide) (by decide) ?_
  refine g_aload_n dX0_rest_11 rfl ?_
  refine g_lconst (v := 0) dX0_rest_12 (by decide) ?_
  refine g_putL (ji := 8) rfl dX0_rest_13 vX0_31 rfl rfl (by decide) (by decide) ?_
  refine g_iconst dX0_rest_16 ?_
  refine g_istore_n (i := 1) dX0_rest_17 rfl (by decide) ?_
  exact x_rest_lp hi h 33 0 _ (by omega) (by omega) (by omega) ⟨by rw [up_ne (Or.inr (by decide)), up_ne (Or.inr (by decide))]; exact hga.1, by rw [up_ne (Or.inr (by decide)), up_ne (Or.inr (by decide))]; exact hga.2.1, by rw [up_ne (Or.inr (by decide)), up_ne (Or.inr (by decide))]; exact hga.2.2.1, by rw [up_ne (Or.inr (by decide)), up_ne (Or.inr (by decide))]; exact hga.2.2.2⟩ (by rw [up_ne (Or.inr (by decide)), up_same]; rfl) (by rw [up_same]; rfl) (fun a ha => by rw [up_cell ha, up_cell ha]; exact hk a ha) ⟨by rw [up_ne (Or.inr (by decide)), up_ne (Or.inr (by decide))]; exact hsx.1, by rw [up_ne (Or.inr (by decide)), up_ne (Or.inr (by decide))]; exact hsx.2⟩

theorem x_reading0 {V σ : Mem} {s n : Int} (hi : Inv0 V) (h : XS V σ) (hg : GA V σ s n) (s0 : 0 ≤ s) (s1 : s < V 0 0) (hn : -100 ≤ n ∧ n ≤ 100) (p u v : Int) (p0 : 0 ≤ p) (p1 : p < V 0 0) (hu : σ 17 p = u) (hv : σ 20 p = v) : RetV 41 mX0_readingAt [aR 23, aI 0, aI p] σ (aI (u + v + forceK (V 1 s) * n * leanK (V 1 s) * V 8 (stp (V 0 0) s p))) := by
  have hN := hi.N2
  have hst := stp_b hi.N s0 s1 p0 p1
  have ht : σ 3 (stp (V 0 0) s p) = V 8 (stp (V 0 0) s p) := h.tab 0 (by decide) _ hst.1 (by omega)
  refine Ret.of [some (aR 23), some (aI 0), some (aI p), none] rfl (plainFor_of_name (by decide)) (Nat.le_of_ble_eq_true rfl) ?_
  refine g_iload_n dX0_readingAt_0 rfl ?_
  refine g_if_ne (tgt := 11) dX0_readingAt_1 (by decide) (by decide) (fun h => absurd h (by decide)) (fun _ => ?_)
  refine g_aload_n dX0_readingAt_4 rfl ?_
  refine g_getI (ji := 5) rfl dX0_readingAt_5 fX0_69 rfl rfl (by decide) ?_
  rw [hg.2.2.1]
  refine g_goto (tgt := 15) dX0_readingAt_8 (by decide) ?_
  refine g_istore_n (i := 3) dX0_readingAt_15 rfl (by decide) ?_
  refine g_aload_n dX0_readingAt_16 rfl ?_
  refine g_getR dX0_readingAt_17 fX0_9 rfl rfl (by decide) ?_
  refine g_getR dX0_readingAt_20 fX0_78 rfl rfl (by decide) ?_
  refine g_iload_n dX0_readingAt_23 rfl ?_
  refine g_aaload (q := 17) dX0_readingAt_24 rfl (by decide) (by decide) (by decide) (by decide) rfl ?_
  refine g_iload_n dX0_readingAt_25 rfl ?_
  refine g_iaload dX0_readingAt_26 rfl (by decide) (by omega) (by omega) (by decide) ?_
  rw [hu]
  refine g_aload_n dX0_readingAt_27 rfl ?_
  refine g_getR dX0_readingAt_28 fX0_9 rfl rfl (by decide) ?_
  refine g_getR dX0_readingAt_31 fX0_72 rfl rfl (by decide) ?_
  refine g_iload_n dX0_readingAt_34 rfl ?_
  refine g_aaload (q := 20) dX0_readingAt_35 rfl (by decide) (by decide) (by decide) (by decide) rfl ?_
  refine g_iload_n dX0_readingAt_36 rfl ?_
  refine g_iaload dX0_readingAt_37 rfl (by decide) (by omega) (by omega) (by decide) ?_
  rw [hv]
  refine g_iadd dX0_readingAt_38 ?_
  refine g_iload_n dX0_readingAt_39 rfl ?_
  refine g_aload_n dX0_readingAt_40 rfl ?_
  refine g_getR dX0_readingAt_41 fX0_15 rfl rfl (by decide) ?_
  refine g_getR dX0_readingAt_44 fX0_44 rfl rfl (by decide) ?_
  refine g_iload_n dX0_readingAt_47 rfl ?_
  refine g_aaload (q := 3) dX0_readingAt_48 rfl (by decide) (by decide) (by decide) (by decide) rfl ?_
  refine g_aload_n dX0_readingAt_49 rfl ?_
  refine g_getR dX0_readingAt_50 fX0_9 rfl rfl (by decide) ?_
  refine g_aload_n dX0_readingAt_53 rfl ?_
  refine g_getI (ji := 3) rfl dX0_readingAt_54 fX0_53 rfl rfl (by decide) ?_
  rw [hg.1]
  refine g_iload_n dX0_readingAt_57 rfl ?_
  refine g_pV2 dX0_readingAt_58 qX0_50 rfl (by decide) (by decide) (Nat.le_of_ble_eq_true rfl) (x_steps hi h s p s0 s1 p0 p1) ?_
  refine g_iaload dX0_readingAt_61 rfl (by decide) (by omega) (by omega) (by decide) ?_
  rw [ht]
  refine g_imul dX0_readingAt_62 ?_
  refine g_iadd dX0_readingAt_63 ?_
  exact g_iret dX0_readingAt_64 trivial ⟨rfl, rfl⟩

theorem x_reading1 {V σ : Mem} {s n : Int} (hi : Inv0 V) (h : XS V σ) (hg : GA V σ s n) (s0 : 0 ≤ s) (s1 : s < V 0 0) (hn : -100 ≤ n ∧ n ≤ 100) (p u v : Int) (p0 : 0 ≤ p) (p1 : p < V 0 0) (hu : σ 18 p = u) (hv : σ 21 p = v) : RetV 41 mX0_readingAt [aR 23, aI 1, aI p] σ (aI (u + v + forceK (V 1 s) * n * V 9 (stp (V 0 0) s p))) := by
  have hN := hi.N2
  have hst := stp_b hi.N s0 s1 p0 p1
  have ht : σ 4 (stp (V 0 0) s p) = V 9 (stp (V 0 0) s p) := h.tab 1 (by decide) _ hst.1 (by omega)
  refine Ret.of [some (aR 23), some (aI 1), some (aI p), none] rfl (plainFor_of_name (by decide)) (Nat.le_of_ble_eq_true rfl) ?_
  refine g_iload_n dX0_readingAt_0 rfl ?_
  refine g_if_ne (tgt := 11) dX0_readingAt_1 (by decide) (by decide) (fun _ => ?_) (fun h => absurd h (by decide))
  refine g_aload_n dX0_readingAt_11 rfl ?_
  refine g_getI (ji := 6) rfl dX0_readingAt_12 fX0_66 rfl rfl (by decide) ?_
  rw [hg.2.2.2]
  refine g_istore_n (i := 3) dX0_readingAt_15 rfl (by decide) ?_
  refine g_aload_n dX0_readingAt_16 rfl ?_
  refine g_getR dX0_readingAt_17 fX0_9 rfl rfl (by decide) ?_
  refine g_getR dX0_readingAt_20 fX0_78 rfl rfl (by decide) ?_
  refine g_iload_n dX0_readingAt_23 rfl ?_
  refine g_aaload (q := 18) dX0_readingAt_24 rfl (by decide) (by decide) (by decide) (by decide) rfl ?_
  refine g_iload_n dX0_readingAt_25 rfl ?_
  refine g_iaload dX0_readingAt_26 rfl (by decide) (by omega) (by omega) (by decide) ?_
  rw [hu]
  refine g_aload_n dX0_readingAt_27 rfl ?_
  refine g_getR dX0_readingAt_28 fX0_9 rfl rfl (by decide) ?_
  refine g_getR dX0_readingAt_31 fX0_72 rfl rfl (by decide) ?_
  refine g_iload_n dX0_readingAt_34 rfl ?_
  refine g_aaload (q := 21) dX0_readingAt_35 rfl (by decide) (by decide) (by decide) (by decide) rfl ?_
  refine g_iload_n dX0_readingAt_36 rfl ?_
  refine g_iaload dX0_readingAt_37 rfl (by decide) (by omega) (by omega) (by decide) ?_
  rw [hv]
  refine g_iadd dX0_readingAt_38 ?_
  refine g_iload_n dX0_readingAt_39 rfl ?_
  refine g_aload_n dX0_readingAt_40 rfl ?_
  refine g_getR dX0_readingAt_41 fX0_15 rfl rfl (by decide) ?_
  refine g_getR dX0_readingAt_44 fX0_44 rfl rfl (by decide) ?_
  refine g_iload_n dX0_readingAt_47 rfl ?_
  refine g_aaload (q := 4) dX0_readingAt_48 rfl (by decide) (by decide) (by decide) (by decide) rfl ?_
  refine g_aload_n dX0_readingAt_49 rfl ?_
  refine g_getR dX0_readingAt_50 fX0_9 rfl rfl (by decide) ?_
  refine g_aload_n dX0_readingAt_53 rfl ?_
  refine g_getI (ji := 3) rfl dX0_readingAt_54 fX0_53 rfl rfl (by decide) ?_
  rw [hg.1]
  refine g_iload_n dX0_readingAt_57 rfl ?_
  refine g_pV2 dX0_readingAt_58 qX0_50 rfl (by decide) (by decide) (Nat.le_of_ble_eq_true rfl) (x_steps hi h s p s0 s1 p0 p1) ?_
  refine g_iaload dX0_readingAt_61 rfl (by decide) (by omega) (by omega) (by decide) ?_
  rw [ht]
  refine g_imul dX0_readingAt_62 ?_
  refine g_iadd dX0_readingAt_63 ?_
  exact g_iret dX0_readingAt_64 trivial ⟨rfl, rfl⟩

theorem x_pullOf0 {V σ : Mem} {s n : Int} (hi : Inv0 V) (h : XS V σ) (hg : GA V σ s n) (s0 : 0 ≤ s) (s1 : s < V 0 0) (hn : -100 ≤ n ∧ n ≤ 100) (j x : Int) (j0 : 0 ≤ j) (j1 : j < V 0 0) (hx : σ 12 j = x) : RetV 41 mX0_pullOf [aR 23, aI j] σ (aI (if V 1 j = 4 then x else x + forceK (V 1 s) * n * (if leanK (V 1 j) = leanK (V 1 s) then V 10 (stp (V 0 0) s j) else V 11 (stp (V 0 0) s j)))) := by
  have hN := hi.N2
  have hst := stp_b hi.N s0 s1 j0 j1
  have hf := forceK_b (V 1 s)
  have hfn := mulb (a := forceK (V 1 s)) (k := n) (A := 2) (B := 100) (by omega) (by omega) (by omega) (by omega) (by omega) (by omega)
  have l1 := leanK_32 (V 1 j)
  have l2 := leanK_32 (V 1 s)
  have t2 : σ 5 (stp (V 0 0) s j) = V 10 (stp (V 0 0) s j) := h.tab 2 (by decide) _ hst.1 (by omega)
  have t3 : σ 6 (stp (V 0 0) s j) = V 11 (stp (V 0 0) s j) := h.tab 3 (by decide) _ hst.1 (by omega)
  refine Ret.of [some (aR 23), some (aI j), none] rfl (plainFor_of_name (by decide)) (Nat.le_of_ble_eq_true rfl) ?_
  refine g_aload_n dX0_pullOf_0 rfl ?_
  refine g_getI (ji := 6) rfl dX0_pullOf_1 fX0_66 rfl rfl (by decide) ?_
  rw [hg.2.2.2]
  refine g_if_eq (tgt := 18) dX0_pullOf_4 (by decide) (by omega) (fun h4 => ?_) (fun h4 => ?_)
  · refine g_aload_n dX0_pullOf_18 rfl ?_
    refine g_getR dX0_pullOf_19 fX0_9 rfl rfl (by decide) ?_
    refine g_getR dX0_pullOf_22 fX0_81 rfl rfl (by decide) ?_
    refine g_iload_n dX0_pullOf_25 rfl ?_
    refine g_iaload dX0_pullOf_26 rfl (by decide) (by omega) (by omega) (by decide) ?_
    rw [hx]
    exact g_iret dX0_pullOf_27 trivial ⟨by first | rw [if_pos h15] | (rw [h4, Int.zero_mul, Int.add_zero, ite_self]), rfl⟩
  · refine g_aload_n dX0_pullOf_7 rfl ?_
    refine g_getR dX0_pullOf_8 fX0_9 rfl rfl (by decide) ?_
    refine g_iload_n dX0_pullOf_11 rfl ?_
    refine g_pV1 dX0_pullOf_12 qX0_90 rfl (by decide) (by decide) (Nat.le_of_ble_eq_true rfl) (x_isGone hi h j j0 j1) ?_
    refine g_ifb_eq (tgt := 28) dX0_pullOf_15 (by decide) (fun h15 => ?_) (fun h15 => ?_)
    · refine g_aload_n dX0_pullOf_28 rfl ?_
      refine g_getR dX0_pullOf_29 fX0_9 rfl rfl (by decide) ?_
      refine g_iload_n dX0_pullOf_32 rfl ?_
      refine g_pV1 dX0_pullOf_33 qX0_56 rfl (by decide) (by decide) (Nat.le_of_ble_eq_true rfl) (x_leanOf hi h j j0 j1) ?_
      refine g_aload_n dX0_pullOf_36 rfl ?_
      refine g_getI (ji := 4) rfl dX0_pullOf_37 fX0_60 rfl rfl (by decide) ?_
      rw [hg.2.1]
      refine g_icmp_ne (tgt := 47) dX0_pullOf_40 (by decide) (by omega) (by omega) (fun h40 => ?_) (fun h40 => ?_)
      · refine g_iconst dX0_pullOf_47 ?_
        refine g_istore_n (i := 2) dX0_pullOf_48 rfl (by decide) ?_
        refine g_aload_n dX0_pullOf_49 rfl ?_
        refine g_getR dX0_pullOf_50 fX0_9 rfl rfl (by decide) ?_
        refine g_getR dX0_pullOf_53 fX0_81 rfl rfl (by decide) ?_
        refine g_iload_n dX0_pullOf_56 rfl ?_
        refine g_iaload dX0_pullOf_57 rfl (by decide) (by omega) (by omega) (by decide) ?_
        rw [hx]
        refine g_aload_n dX0_pullOf_58 rfl ?_
        refine g_getI (ji := 6) rfl dX0_pullOf_59 fX0_66 rfl rfl (by decide) ?_
        rw [hg.2.2.2]
        refine g_aload_n dX0_pullOf_62 rfl ?_
        refine g_getR dX0_pullOf_63 fX0_15 rfl rfl (by decide) ?_
        refine g_getR dX0_pullOf_66 fX0_44 rfl rfl (by decide) ?_
        refine g_iload_n dX0_pullOf_69 rfl ?_
        refine g_aaload (q := 6) dX0_pullOf_70 rfl (by decide) (by decide) (by decide) (by decide) rfl ?_
        refine g_aload_n dX0_pullOf_71 rfl ?_
        refine g_getR dX0_pullOf_72 fX0_9 rfl rfl (by decide) ?_
        refine g_aload_n dX0_pullOf_75 rfl ?_
        refine g_getI (ji := 3) rfl dX0_pullOf_76 fX0_53 rfl rfl (by decide) ?_
        rw [hg.1]
        refine g_iload_n dX0_pullOf_79 rfl ?_
        refine g_pV2 dX0_pullOf_80 qX0_50 rfl (by decide) (by decide) (Nat.le_of_ble_eq_true rfl) (x_steps hi h s j s0 s1 j0 j1) ?_
        refine g_iaload dX0_pullOf_83 rfl (by decide) (by omega) (by omega) (by decide) ?_
        first | rw [t2] | rw [t3]
        refine g_imul dX0_pullOf_84 ?_
        refine g_iadd dX0_pullOf_85 ?_
        exact g_iret dX0_pullOf_86 trivial ⟨by rw [if_neg h15]; first | rw [if_pos h40] | rw [if_neg h40], rfl⟩
      · refine g_iconst dX0_pullOf_43 ?_
        refine g_goto (tgt := 48) dX0_pullOf_44 (by decide) ?_
        refine g_istore_n (i := 2) dX0_pullOf_48 rfl (by decide) ?_
        refine g_aload_n dX0_pullOf_49 rfl ?_
        refine g_getR dX0_pullOf_50 fX0_9 rfl rfl (by decide) ?_
        refine g_getR dX0_pullOf_53 fX0_81 rfl rfl (by decide) ?_
        refine g_iload_n dX0_pullOf_56 rfl ?_
        refine g_iaload dX0_pullOf_57 rfl (by decide) (by omega) (by omega) (by decide) ?_
        rw [hx]
        refine g_aload_n dX0_pullOf_58 rfl ?_
        refine g_getI (ji := 6) rfl dX0_pullOf_59 fX0_66 rfl rfl (by decide) ?_
        rw [hg.2.2.2]
        refine g_aload_n dX0_pullOf_62 rfl ?_
        refine g_getR dX0_pullOf_63 fX0_15 rfl rfl (by decide) ?_
        refine g_getR dX0_pullOf_66 fX0_44 rfl rfl (by decide) ?_
        refine g_iload_n dX0_pullOf_69 rfl ?_
        refine g_aaload (q := 5) dX0_pullOf_70 rfl (by decide) (by decide) (by decide) (by decide) rfl ?_
        refine g_aload_n dX0_pullOf_71 rfl ?_
        refine g_getR dX0_pullOf_72 fX0_9 rfl rfl (by decide) ?_
        refine g_aload_n dX0_pullOf_75 rfl ?_
        refine g_getI (ji := 3) rfl dX0_pullOf_76 fX0_53 rfl rfl (by decide) ?_
        rw [hg.1]
        refine g_iload_n dX0_pullOf_79 rfl ?_
        refine g_pV2 dX0_pullOf_80 qX0_50 rfl (by decide) (by decide) (Nat.le_of_ble_eq_true rfl) (x_steps hi h s j s0 s1 j0 j1) ?_
        refine g_iaload dX0_pullOf_83 rfl (by decide) (by omega) (by omega) (by decide) ?_
        first | rw [t2] | rw [t3]
        refine g_imul dX0_pullOf_84 ?_
        refine g_iadd dX0_pullOf_85 ?_
        exact g_iret dX0_pullOf_86 trivial ⟨by rw [if_neg h15]; first | rw [if_pos h40] | rw [if_neg h40], rfl⟩
    · refine g_aload_n dX0_pullOf_18 rfl ?_
      refine g_getR dX0_pullOf_19 fX0_9 rfl rfl (by decide) ?_
      refine g_getR dX0_pullOf_22 fX0_81 rfl rfl (by decide) ?_
      refine g_iload_n dX0_pullOf_25 rfl ?_
      refine g_iaload dX0_pullOf_26 rfl (by decide) (by omega) (by omega) (by decide) ?_
      rw [hx]
      exact g_iret dX0_pullOf_27 trivial ⟨by first | rw [if_pos h15] | (rw [h4, Int.zero_mul, Int.add_zero, ite_self]), rfl⟩
