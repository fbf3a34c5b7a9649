theorem c_nx_lp {b : Int} {V σ : Mem} (hi : Inv b V) (h : RM V σ) (r : Nat) (hr : r < 2) (p y : Int) (p0 : 0 ≤ p) (p1 : p < V 0 0) (hu : V (5 + r) p = -10000) (hy : y = 1 ∨ y = -1) : ∀ (n : Nat) (i : Int), 1 ≤ i → i ≤ V 0 0 + 1 → V 0 0 + 1 - i < n → (∀ q, 1 ≤ q → q < i → decide (V (5 + r) ((p + y * q) % V 0 0) ≠ -10000) = false) → Go 41 mX7_next 3 [some (aR 30), some (aI r), some (aI p), some (aI y), some (aI i)] [] σ (fun o τ => o = some (aI (nxS (V (5 + r)) (V 0 0) p y)) ∧ τ = σ) := by
  intro n
  induction n with
  | zero => intros; omega
  | succ n ih =>
    intro i i0 i1 kn hf
    have hN := hi.N
    have hyi : -i ≤ y * i ∧ y * i ≤ i := by rcases hy with rfl | rfl <;> omega
    have hm := modNb (p + y * i) hN
    have hrd := h.read r hr ((p + y * i) % V 0 0) hm.1 hm.2
    have hbd := hi.read r hr ((p + y * i) % V 0 0) hm.1 hm.2
    refine g_iload dX7_next_3 rfl ?_
    refine g_aload_n dX7_next_5 rfl ?_
    refine g_getI (ji := 0) rfl dX7_next_6 fX7_58 rfl rfl (by decide) ?_
    rw [h.N]
    refine g_icmp_gt (tgt := 55) dX7_next_9 (by decide) (by omega) (by omega) (fun h9 => ?_) (fun h9 => ?_)
    · refine g_iconst dX7_next_55 ?_
      exact g_iret dX7_next_56 trivial ⟨by
          unfold nxS
          rw [firstI_no (by omega) (fun q q0 q1 => hf q q0 (by omega))]
          rfl, rfl⟩
    · refine g_aload_n dX7_next_12 rfl ?_
      refine g_getR dX7_next_13 fX7_20 rfl rfl (by decide) ?_
      refine g_bipush (v := 32) dX7_next_16 (by decide) ?_
      refine g_iload_n dX7_next_18 rfl ?_
      refine g_imul dX7_next_19 ?_
      refine g_iload_n dX7_next_20 rfl ?_
      refine g_iload_n dX7_next_21 rfl ?_
      refine g_iload dX7_next_22 rfl ?_
      refine g_imul dX7_next_24 ?_
      refine g_iadd dX7_next_25 ?_
      refine g_aload_n dX7_next_26 rfl ?_
      refine g_getI (ji := 0) rfl dX7_next_27 fX7_58 rfl rfl (by decide) ?_
      rw [h.N]
      refine g_iconst dX7_next_30 ?_
      refine g_imul dX7_next_31 ?_
      refine g_iadd dX7_next_32 ?_
      refine g_aload_n dX7_next_33 rfl ?_
      refine g_getI (ji := 0) rfl dX7_next_34 fX7_58 rfl rfl (by decide) ?_
      rw [h.N]
      refine g_irem dX7_next_37 (by omega) (by omega) (by omega) ?_
      rw [modN2 hN (by omega)]
      refine g_iadd dX7_next_38 ?_
      refine g_iaload dX7_next_39 rfl (by decide) (by omega) (by omega) (by decide) ?_
      rw [hrd]
      refine g_sipush (v := -10000) dX7_next_40 (by decide) ?_
      refine g_icmp_eq (tgt := 49) dX7_next_43 (by decide) (by omega) (by omega) (fun h43 => ?_) (fun h43 => ?_)
      · refine g_iinc dX7_next_49 rfl (by decide) ?_
        refine g_goto (tgt := 3) dX7_next_52 (by decide) ?_
        exact ih (i + 1) (by omega) (by omega) (by omega) (fun q q0 q1 => by
          by_cases hq : q = i
          · rw [hq]; simpa using h43
          · exact hf q q0 (by omega))
      · have hiN : i ≠ V 0 0 := fun he => by
          have e : (p + y * i) % V 0 0 = p := by
            rw [he]
            rcases hy with rfl | rfl <;> rcases hN with hN | hN | hN <;> rw [hN] at p1 ⊢ <;> omega
          rw [e] at h43
          exact h43 hu
        have hz : nxS (V (5 + r)) (V 0 0) p y = i := by
          unfold nxS
          rw [firstI_eq (k := i) (by omega) i0 (by omega) (by simpa using h43) hf]
          omega
        refine g_iload dX7_next_46 rfl ?_
        exact g_iret dX7_next_48 trivial ⟨by rw [hz], rfl⟩

theorem c_nx {b : Int} {V σ : Mem} (hi : Inv b V) (h : RM V σ) (r : Nat) (hr : r < 2) (p y : Int) (p0 : 0 ≤ p) (p1 : p < V 0 0) (hu : V (5 + r) p = -10000) (hy : y = 1 ∨ y = -1) : RetV 41 mX7_next [aR 30, aI r, aI p, aI y] σ (aI (nxS (V (5 + r)) (V 0 0) p y)) := by
  refine Ret.of [some (aR 30), some (aI r), some (aI p), some (aI y), none] rfl (plainFor_of_name (by decide)) (Nat.le_of_ble_eq_true rfl) ?_
  refine g_iconst dX7_next_0 ?_
  refine g_istore dX7_next_1 (by decide) ?_
  have hN := hi.N
  exact c_nx_lp hi h r hr p y p0 p1 hu hy 34 1 (by omega) (by omega) (by omega) (fun q q0 q1 => by omega)

theorem c_between {b : Int} {V σ : Mem} (hi : Inv b V) (h : RM V σ) (r : Nat) (hr : r < 2) (p : Int) (p0 : 0 ≤ p) (p1 : p < V 0 0) : RetV 41 mX7_between [aR 30, aI r, aI p] σ (aL (unb V r p)) := by
  refine Ret.of [some (aR 30), some (aI r), some (aI p), none, none, none, none, none, none] rfl (plainFor_of_name (by decide)) (Nat.le_of_ble_eq_true rfl) ?_
  have hN := hi.N
  have hrd := h.read r hr p p0 p1
  have hbd := hi.read r hr p p0 p1
  have hb1 := nxS_b (V (5 + r)) (V 0 0) p (-1) (by omega)
  have hb2 := nxS_b (V (5 + r)) (V 0 0) p 1 (by omega)
  refine g_aload_n dX7_between_0 rfl ?_
  refine g_getR dX7_between_1 fX7_20 rfl rfl (by decide) ?_
  refine g_bipush (v := 32) dX7_between_4 (by decide) ?_
  refine g_iload_n dX7_between_6 rfl ?_
  refine g_imul dX7_between_7 ?_
  refine g_iload_n dX7_between_8 rfl ?_
  refine g_iadd dX7_between_9 ?_
  refine g_iaload dX7_between_10 rfl (by decide) (by omega) (by omega) (by decide) ?_
  rw [hrd]
  refine g_sipush (v := -10000) dX7_between_11 (by decide) ?_
  refine g_icmp_eq (tgt := 30) dX7_between_14 (by decide) (by omega) (by omega) (fun h14 => ?_) (fun h14 => ?_)
  · refine g_aload_n dX7_between_30 rfl ?_
    refine g_iload_n dX7_between_31 rfl ?_
    refine g_iload_n dX7_between_32 rfl ?_
    refine g_iconst dX7_between_33 ?_
    refine g_pV3 dX7_between_34 qX7_106 rfl (by decide) (by decide) (Nat.le_of_ble_eq_true rfl) (c_nx hi h r hr p (-1) p0 p1 h14 (by omega)) ?_
    refine g_istore_n (i := 3) dX7_between_37 rfl (by decide) ?_
    refine g_aload_n dX7_between_38 rfl ?_
    refine g_iload_n dX7_between_39 rfl ?_
    refine g_iload_n dX7_between_40 rfl ?_
    refine g_iconst dX7_between_41 ?_
    refine g_pV3 dX7_between_42 qX7_106 rfl (by decide) (by decide) (Nat.le_of_ble_eq_true rfl) (c_nx hi h r hr p 1 p0 p1 h14 (by omega)) ?_
    refine g_istore dX7_between_45 (by decide) ?_
    refine g_iload_n dX7_between_47 rfl ?_
    refine g_if_ne (tgt := 53) dX7_between_48 (by decide) (by omega) (fun h48 => ?_) (fun h48 => ?_)
    · have h2 := nxS_both hN h48
      have m1 := modNb (p - nxS (V (5 + r)) (V 0 0) p (-1)) hN
      have m2 := modNb (p + nxS (V (5 + r)) (V 0 0) p 1) hN
      have a1 := hi.read r hr _ m1.1 m1.2
      have a2 := hi.read r hr _ m2.1 m2.2
      have z1 := mulb (a := V (5 + r) ((p - nxS (V (5 + r)) (V 0 0) p (-1)) % V 0 0)) (k := nxS (V (5 + r)) (V 0 0) p 1) (A := 10000) (B := 32) (by omega) (by omega) (by omega) (by omega) (by omega) (by omega)
      have z2 := mulb (a := V (5 + r) ((p + nxS (V (5 + r)) (V 0 0) p 1) % V 0 0)) (k := nxS (V (5 + r)) (V 0 0) p (-1)) (A := 10000) (B := 32) (by omega) (by omega) (by omega) (by omega) (by omega) (by omega)
      refine g_aload_n dX7_between_53 rfl ?_
      refine g_getR dX7_between_54 fX7_20 rfl rfl (by decide) ?_
      refine g_bipush (v := 32) dX7_between_57 (by decide) ?_
      refine g_iload_n dX7_between_59 rfl ?_
      refine g_imul dX7_between_60 ?_
      refine g_iload_n dX7_between_61 rfl ?_
      refine g_iload_n dX7_between_62 rfl ?_
      refine g_isub dX7_between_63 ?_
      refine g_aload_n dX7_between_64 rfl ?_
      refine g_getI (ji := 0) rfl dX7_between_65 fX7_58 rfl rfl (by decide) ?_
      rw [h.N]
      refine g_iadd dX7_between_68 ?_
      refine g_aload_n dX7_between_69 rfl ?_
      refine g_getI (ji := 0) rfl dX7_between_70 fX7_58 rfl rfl (by decide) ?_
      rw [h.N]
      refine g_irem dX7_between_73 (by omega) (by omega) (by omega) ?_
      rw [modN1 hN (by omega)]
      refine g_iadd dX7_between_74 ?_
      refine g_iaload dX7_between_75 rfl (by decide) (by omega) (by omega) (by decide) ?_
      rw [h.read r hr _ m1.1 m1.2]
      refine g_i2l dX7_between_76 (by omega) ?_
      refine g_lstore dX7_between_77 (by decide) ?_
      refine g_aload_n dX7_between_79 rfl ?_
      refine g_getR dX7_between_80 fX7_20 rfl rfl (by decide) ?_
      refine g_bipush (v := 32) dX7_between_83 (by decide) ?_
      refine g_iload_n dX7_between_85 rfl ?_
      refine g_imul dX7_between_86 ?_
      refine g_iload_n dX7_between_87 rfl ?_
      refine g_iload dX7_between_88 rfl ?_
      refine g_iadd dX7_between_90 ?_
      refine g_aload_n dX7_between_91 rfl ?_
      refine g_getI (ji := 0) rfl dX7_between_92 fX7_58 rfl rfl (by decide) ?_
      rw [h.N]
      refine g_irem dX7_between_95 (by omega) (by omega) (by omega) ?_
      rw [modN0 (by omega)]
      refine g_iadd dX7_between_96 ?_
      refine g_iaload dX7_between_97 rfl (by decide) (by omega) (by omega) (by decide) ?_
      rw [h.read r hr _ m2.1 m2.2]
      refine g_i2l dX7_between_98 (by omega) ?_
      refine g_lstore dX7_between_99 (by decide) ?_
      refine g_lload dX7_between_101 rfl ?_
      refine g_iload dX7_between_103 rfl ?_
      refine g_i2l dX7_between_105 (by omega) ?_
      refine g_lmul dX7_between_106 ?_
      refine g_lload dX7_between_107 rfl ?_
      refine g_iload_n dX7_between_109 rfl ?_
      refine g_i2l dX7_between_110 (by omega) ?_
      refine g_lmul dX7_between_111 ?_
      refine g_ladd dX7_between_112 ?_
      refine g_iload_n dX7_between_113 rfl ?_
      refine g_iload dX7_between_114 rfl ?_
      refine g_iadd dX7_between_116 ?_
      refine g_i2l dX7_between_117 (by omega) ?_
      refine g_pS2 dX7_between_118 sX7_110 (by decide) (Nat.le_of_ble_eq_true rfl) (c_cut _ _ (by omega) (by omega) (by omega)) ?_
      exact g_lret dX7_between_121 trivial ⟨by unfold unb unbF; rw [if_neg (by omega), if_neg (by omega)], rfl⟩
    · refine g_lconst (v := 0) dX7_between_51 (by decide) ?_
      exact g_lret dX7_between_52 trivial ⟨by unfold unb unbF; rw [if_neg (by omega), if_pos (Or.inl h48)], rfl⟩
  · refine g_aload_n dX7_between_17 rfl ?_
    refine g_getR dX7_between_18 fX7_20 rfl rfl (by decide) ?_
    refine g_bipush (v := 32) dX7_between_21 (by decide) ?_
    refine g_iload_n dX7_between_23 rfl ?_
    refine g_imul dX7_between_24 ?_
    refine g_iload_n dX7_between_25 rfl ?_
    refine g_iadd dX7_between_26 ?_
    refine g_iaload dX7_between_27 rfl (by decide) (by omega) (by omega) (by decide) ?_
    rw [hrd]
    refine g_i2l dX7_between_28 (by omega) ?_
    exact g_lret dX7_between_29 trivial ⟨by unfold unb unbF; rw [if_pos h14], rfl⟩

def cac (σ τ : Mem) : Prop := (∀ a, a ≠ 39 → a ≠ 30 → τ a = σ a) ∧ (∀ j, j ≠ 15 → τ 30 j = σ 30 j)
theorem cac.rfl {σ : Mem} : cac σ σ := ⟨fun _ _ _ => Eq.refl _, fun _ _ => Eq.refl _⟩
theorem cac.trans {a b c : Mem} (h : cac a b) (k : cac b c) : cac a c := ⟨fun q h1 h2 => (k.1 q h1 h2).trans (h.1 q h1 h2), fun j hj => (k.2 j hj).trans (h.2 j hj)⟩
theorem cac.keepM {σ τ : Mem} (h : cac σ τ) : keepM σ τ := fun a ha => h.1 a (by omega) (by omega)
theorem RM.cac {V σ τ : Mem} (h : RM V σ) (c : cac σ τ) (hr : τ 30 15 = 0 ∨ (τ 30 15 = 1 ∧ ∀ r : Nat, r < 2 → ∀ p, 0 ≤ p → p < V 0 0 → τ 39 (32 * r + p) = unb V r p)) : RM V τ := by
  unfold RM at h ⊢
  rw [c.2 0 (by decide), c.2 9 (by decide), c.2 10 (by decide), c.2 11 (by decide), c.2 12 (by decide), c.2 13 (by decide), c.1 31 (by decide) (by decide), c.1 32 (by decide) (by decide), c.1 33 (by decide) (by decide), c.1 34 (by decide) (by decide), c.1 35 (by decide) (by decide), c.1 36 (by decide) (by decide), c.1 37 (by decide) (by decide), c.1 38 (by decide) (by decide)]
  exact ⟨h.1, h.2.1, h.2.2.1, h.2.2.2.1, h.2.2.2.2.1, h.2.2.2.2.2.1, h.2.2.2.2.2.2.1, h.2.2.2.2.2.2.2.1, h.2.2.2.2.2.2.2.2.1, hr⟩
/-- an effect of the reference: the answer v, and what is worked out -/
abbrev EC (V σ : Mem) (v : AV) : Option AV → Mem → Prop := fun o τ => o = some v ∧ (RM V τ ∧ cac σ τ)

theorem c_unbentAt_lp {b : Int} {V σ : Mem} (hi : Inv b V) (h : RM V σ) (r : Nat) (hr : r < 2) (p : Int) (p0 : 0 ≤ p) (p1 : p < V 0 0) : ∀ (n : Nat) (k : Int) (τ : Mem), 0 ≤ k → k ≤ 2 * V 0 0 → 2 * V 0 0 - k < n → RM V τ → cac σ τ → (τ 30 15 = 0 → ∀ u : Nat, u < 2 → ∀ q, 0 ≤ q → q < V 0 0 → q + (if u = 0 then 0 else V 0 0) < k → τ 39 (32 * u + q) = unb V u q) → (τ 30 15 ≠ 0 → k = 0) → Go 41 mX7_unbentAt 2 [some (aR 30), some (aI r), some (aI p), some (aI k)] [] τ (EC V σ (aL (unb V r p))) := by
  intro n
  induction n with
  | zero => intros; omega
  | succ n ih =>
    intro k τ k0 k1 kn h hc hz hk
    have hN := hi.N
    have hw : τ 30 15 = 0 ∨ τ 30 15 = 1 := h.rims.imp id (fun e => e.1)
    refine g_iload_n dX7_unbentAt_2 rfl ?_
    refine g_iconst dX7_unbentAt_3 ?_
    refine g_aload_n dX7_unbentAt_4 rfl ?_
    refine g_getI (ji := 0) rfl dX7_unbentAt_5 fX7_58 rfl rfl (by decide) ?_
    rw [h.N]
    refine g_imul dX7_unbentAt_8 ?_
    refine g_icmp_ge (tgt := 62) dX7_unbentAt_9 (by decide) (by omega) (by omega) (fun h9 => ?_) (fun h9 => ?_)
    · have hal : ∀ u : Nat, u < 2 → ∀ q, 0 ≤ q → q < V 0 0 → τ 39 (32 * u + q) = unb V u q := fun u hu q q0 q1 => by
        rcases h.rims with e | e
        · exact hz e u hu q q0 q1 (by split <;> omega)
        · exact e.2 u hu q q0 q1
      have hC : cac σ (up τ 30 15 1) := ⟨fun a a1 a2 => by rw [up_cell a2]; exact hc.1 a a1 a2, fun j hj => by rw [up_ne (Or.inr hj)]; exact hc.2 j hj⟩
      have hM : RM V (up τ 30 15 1) := h.cac ⟨fun a a1 a2 => up_cell a2, fun j hj => up_ne (Or.inr hj)⟩ (Or.inr ⟨up_same, fun u hu q q0 q1 => by rw [up_cell (by decide)]; exact hal u hu q q0 q1⟩)
      have hv : up τ 30 15 1 39 (32 * r + p) = unb V r p := by rw [up_cell (by decide)]; exact hal r hr p p0 p1
      refine g_aload_n dX7_unbentAt_62 rfl ?_
      refine g_iconst dX7_unbentAt_63 ?_
      refine g_putZ (ji := 15) rfl dX7_unbentAt_64 vX7_66 rfl rfl (by decide) (by decide) (by omega) ?_
      refine g_aload_n dX7_unbentAt_67 rfl ?_
      refine g_getR dX7_unbentAt_68 fX7_48 rfl rfl (by decide) ?_
      refine g_bipush (v := 32) dX7_unbentAt_71 (by decide) ?_
      refine g_iload_n dX7_unbentAt_73 rfl ?_
      refine g_imul dX7_unbentAt_74 ?_
      refine g_iload_n dX7_unbentAt_75 rfl ?_
      refine g_iadd dX7_unbentAt_76 ?_
      refine g_laload dX7_unbentAt_77 rfl (by decide) (by omega) (by omega) (by decide) ?_
      rw [hv]
      exact g_lret dX7_unbentAt_78 trivial ⟨rfl, hM, hC⟩
    · refine g_aload_n dX7_unbentAt_12 rfl ?_
      refine g_getI (ji := 15) rfl dX7_unbentAt_13 fX7_66 rfl rfl (by decide) ?_
      refine g_if_ne (tgt := 62) dX7_unbentAt_16 (by decide) (by omega) (fun h16 => ?_) (fun h16 => ?_)
      · have hal : ∀ u : Nat, u < 2 → ∀ q, 0 ≤ q → q < V 0 0 → τ 39 (32 * u + q) = unb V u q := fun u hu q q0 q1 => by
          rcases h.rims with e | e
          · exact hz e u hu q q0 q1 (by split <;> omega)
          · exact e.2 u hu q q0 q1
        have hC : cac σ (up τ 30 15 1) := ⟨fun a a1 a2 => by rw [up_cell a2]; exact hc.1 a a1 a2, fun j hj => by rw [up_ne (Or.inr hj)]; exact hc.2 j hj⟩
        have hM : RM V (up τ 30 15 1) := h.cac ⟨fun a a1 a2 => up_cell a2, fun j hj => up_ne (Or.inr hj)⟩ (Or.inr ⟨up_same, fun u hu q q0 q1 => by rw [up_cell (by decide)]; exact hal u hu q q0 q1⟩)
        have hv : up τ 30 15 1 39 (32 * r + p) = unb V r p := by rw [up_cell (by decide)]; exact hal r hr p p0 p1
        refine g_aload_n dX7_unbentAt_62 rfl ?_
        refine g_iconst dX7_unbentAt_63 ?_
        refine g_putZ (ji := 15) rfl dX7_unbentAt_64 vX7_66 rfl rfl (by decide) (by decide) (by omega) ?_
        refine g_aload_n dX7_unbentAt_67 rfl ?_
        refine g_getR dX7_unbentAt_68 fX7_48 rfl rfl (by decide) ?_
        refine g_bipush (v := 32) dX7_unbentAt_71 (by decide) ?_
        refine g_iload_n dX7_unbentAt_73 rfl ?_
        refine g_imul dX7_unbentAt_74 ?_
        refine g_iload_n dX7_unbentAt_75 rfl ?_
        refine g_iadd dX7_unbentAt_76 ?_
        refine g_laload dX7_unbentAt_77 rfl (by decide) (by omega) (by omega) (by decide) ?_
        rw [hv]
        exact g_lret dX7_unbentAt_78 trivial ⟨rfl, hM, hC⟩
      · obtain ⟨u, q, hu, q0, q1, e1, e2, e3⟩ := dm_facts hN k0 (by omega)
        have hub := unb_b hi u hu q q0 q1
        refine g_aload_n dX7_unbentAt_19 rfl ?_
        refine g_getR dX7_unbentAt_20 fX7_48 rfl rfl (by decide) ?_
        refine g_bipush (v := 32) dX7_unbentAt_23 (by decide) ?_
        refine g_iload_n dX7_unbentAt_25 rfl ?_
        refine g_aload_n dX7_unbentAt_26 rfl ?_
        refine g_getI (ji := 0) rfl dX7_unbentAt_27 fX7_58 rfl rfl (by decide) ?_
        rw [h.N]
        refine g_idiv dX7_unbentAt_30 (by omega) (by omega) (by omega) ?_
        rw [e1]
        refine g_imul dX7_unbentAt_31 ?_
        refine g_iload_n dX7_unbentAt_32 rfl ?_
        refine g_aload_n dX7_unbentAt_33 rfl ?_
        refine g_getI (ji := 0) rfl dX7_unbentAt_34 fX7_58 rfl rfl (by decide) ?_
        rw [h.N]
        refine g_irem dX7_unbentAt_37 (by omega) (by omega) (by omega) ?_
        rw [e2]
        refine g_iadd dX7_unbentAt_38 ?_
        refine g_aload_n dX7_unbentAt_39 rfl ?_
        refine g_iload_n dX7_unbentAt_40 rfl ?_
        refine g_aload_n dX7_unbentAt_41 rfl ?_
        refine g_getI (ji := 0) rfl dX7_unbentAt_42 fX7_58 rfl rfl (by decide) ?_
        rw [h.N]
        refine g_idiv dX7_unbentAt_45 (by omega) (by omega) (by omega) ?_
        rw [e1]
        refine g_iload_n dX7_unbentAt_46 rfl ?_
        refine g_aload_n dX7_unbentAt_47 rfl ?_
        refine g_getI (ji := 0) rfl dX7_unbentAt_48 fX7_58 rfl rfl (by decide) ?_
        rw [h.N]
        refine g_irem dX7_unbentAt_51 (by omega) (by omega) (by omega) ?_
        rw [e2]
        refine g_pV2 dX7_unbentAt_52 qX7_102 rfl (by decide) (by decide) (Nat.le_of_ble_eq_true rfl) (c_between hi h u hu q q0 q1) ?_
        refine g_lastore dX7_unbentAt_55 rfl (by decide) (by decide) (by omega) (by omega) (by decide) ?_
        refine g_iinc dX7_unbentAt_56 rfl (by decide) ?_
        refine g_goto (tgt := 2) dX7_unbentAt_59 (by decide) ?_
        have hc2 : cac τ (up τ 39 (32 * u + q) (unb V u q)) := ⟨fun a a1 a2 => up_cell a1, fun j hj => by rw [up_cell (by decide)]⟩
        refine ih (k + 1) _ (by omega) (by omega) (by omega) (h.cac hc2 (Or.inl (by rw [up_cell (by decide)]; exact h16))) (hc.trans hc2) (fun _ u' hu' q' a0 a1 a2 => ?_) (fun hne => absurd (by rw [up_cell (by decide)]; exact h16) hne)
        by_cases hq : u' = u ∧ q' = q
        · obtain ⟨rfl, rfl⟩ := hq; exact up_same
        · rw [up_ne (Or.inr (by omega))]
          refine hz h16 u' hu' q' a0 a1 ?_
          rcases (show u = 0 ∨ u = 1 by omega) with rfl | rfl <;> rcases (show u' = 0 ∨ u' = 1 by omega) with rfl | rfl <;> simp at * <;> omega

theorem c_unbentAt {b : Int} {V σ : Mem} (hi : Inv b V) (h : RM V σ) (r : Nat) (hr : r < 2) (p : Int) (p0 : 0 ≤ p) (p1 : p < V 0 0) : Ret 41 mX7_unbentAt [aR 30, aI r, aI p] σ (EC V σ (aL (unb V r p))) := by
  refine Ret.of [some (aR 30), some (aI r), some (aI p), none] rfl (plainFor_of_name (by decide)) (Nat.le_of_ble_eq_true rfl) ?_
  refine g_iconst dX7_unbentAt_0 ?_
  refine g_istore_n (i := 3) dX7_unbentAt_1 rfl (by decide) ?_
  have hN := hi.N
  exact c_unbentAt_lp hi h r hr p p0 p1 65 0 _ (by omega) (by omega) (by omega) h cac.rfl (fun _ u hu q q0 q1 q2 => by split at q2 <;> omega) (fun _ => rfl)

theorem c_readingAt {b : Int} {V σ : Mem} (hi : Inv b V) (h : RM V σ) (r : Nat) (hr : r < 2) (p : Int) (p0 : 0 ≤ p) (p1 : p < V 0 0) : Ret 41 mX7_readingAt [aR 30, aI r, aI p] σ (EC V σ (aL (rdg V r p))) := by
  refine Ret.of [some (aR 30), some (aI r), some (aI p)] rfl (plainFor_of_name (by decide)) (Nat.le_of_ble_eq_true rfl) ?_
  have hN := hi.N
  refine g_aload_n dX7_readingAt_0 rfl ?_
  refine g_iload_n dX7_readingAt_1 rfl ?_
  refine g_iload_n dX7_readingAt_2 rfl ?_
  refine g_eV2 dX7_readingAt_3 qX7_114 rfl (by decide) (by decide) (Nat.le_of_ble_eq_true rfl) (c_unbentAt hi h r hr p p0 p1) ?_
  intro τ hq
  obtain ⟨h, hc⟩ := hq
  refine g_aload_n dX7_readingAt_6 rfl ?_
  refine g_getR dX7_readingAt_7 fX7_17 rfl rfl (by decide) ?_
  refine g_bipush (v := 32) dX7_readingAt_10 (by decide) ?_
  refine g_iload_n dX7_readingAt_12 rfl ?_
  refine g_imul dX7_readingAt_13 ?_
  refine g_iload_n dX7_readingAt_14 rfl ?_
  refine g_iadd dX7_readingAt_15 ?_
  refine g_laload dX7_readingAt_16 rfl (by decide) (by omega) (by omega) (by decide) ?_
  rw [h.made r hr p p0 p1]
  refine g_ladd dX7_readingAt_17 ?_
  exact g_lret dX7_readingAt_18 trivial ⟨rfl, h, hc⟩

theorem k_unbent {b : Int} {V σ : Mem} (hi : Inv b V) (h : RM V σ) (r : Int) (p : Int) (i_r : i32 r) (i_p : i32 p)  : Ret 41 mX7_unbent [aR 30, aI r, aI p] σ (OM σ (p_unbent V r p)) := by
  refine Ret.of [some (aR 30), some (aI r), some (aI p)] rfl (plainFor_of_name (by decide)) (Nat.le_of_ble_eq_true rfl) ?_
  have hN := hi.N
  refine g_iload_n dX7_unbent_0 rfl ?_
  refine g_iconst dX7_unbent_1 ?_
  refine g_iconst dX7_unbent_2 ?_
  refine g_pS3 dX7_unbent_3 sX7_70 (by decide) (Nat.le_of_ble_eq_true rfl) (c_isIn _ _ _ (by omega) (by omega) (by omega)) ?_
  refine g_ifb_eq (tgt := 27) dX7_unbent_6 (by decide) (fun h6 => ?_) (fun h6 => ?_)
  · refine g_ldc dX7_unbent_27 kX7_78 ?_
    exact g_iret dX7_unbent_29 trivial (by first | exact (OM.of (q := (cBad, V)) (by unfold p_unbent; rw [if_pos (by omega)]) rfl h keepM.rfl) | exact (OM.of (q := (unb V u p, V)) (by unfold p_unbent; rw [if_neg (by omega), Int.toNat_natCast]) rfl h hc.keepM))
  · refine g_aload_n dX7_unbent_9 rfl ?_
    refine g_iload_n dX7_unbent_10 rfl ?_
    refine g_pV1 dX7_unbent_11 qX7_79 rfl (by decide) (by decide) (Nat.le_of_ble_eq_true rfl) (c_isHole hi h _ (by omega)) ?_
    refine g_ifb_eq (tgt := 27) dX7_unbent_14 (by decide) (fun h14 => ?_) (fun h14 => ?_)
    · refine g_ldc dX7_unbent_27 kX7_78 ?_
      exact g_iret dX7_unbent_29 trivial (by first | exact (OM.of (q := (cBad, V)) (by unfold p_unbent; rw [if_pos (by omega)]) rfl h keepM.rfl) | exact (OM.of (q := (unb V u p, V)) (by unfold p_unbent; rw [if_neg (by omega), Int.toNat_natCast]) rfl h hc.keepM))
    · obtain ⟨u, rfl⟩ : ∃ u : Nat, r = u := ⟨r.toNat, by omega⟩
      have hu : u < 2 := by omega
      refine g_aload_n dX7_unbent_17 rfl ?_
      refine g_iload_n dX7_unbent_18 rfl ?_
      refine g_iload_n dX7_unbent_19 rfl ?_
      refine g_eV2 dX7_unbent_20 qX7_114 rfl (by decide) (by decide) (Nat.le_of_ble_eq_true rfl) (c_unbentAt hi h u hu p (by omega) (by omega)) ?_
      intro τ hq
      obtain ⟨h, hc⟩ := hq
      refine g_l2i dX7_unbent_23 ?_
      refine g_goto (tgt := 29) dX7_unbent_24 (by decide) ?_
      exact g_iret dX7_unbent_29 trivial (by first | exact (OM.of (q := (cBad, V)) (by unfold p_unbent; rw [if_pos (by omega)]) rfl h keepM.rfl) | exact (OM.of (q := (unb V u p, V)) (by unfold p_unbent; rw [if_neg (by omega), Int.toNat_natCast]) rfl h hc.keepM))

theorem k_reading {b : Int} {V σ : Mem} (hi : Inv b V) (h : RM V σ) (r : Int) (p : Int) (i_r : i32 r) (i_p : i32 p)  : Ret 41 mX7_reading [aR 30, aI r, aI p] σ (OM σ (p_reading V r p)) := by
  refine Ret.of [some (aR 30), some (aI r), some (aI p)] rfl (plainFor_of_name (by decide)) (Nat.le_of_ble_eq_true rfl) ?_
  have hN := hi.N
  refine g_iload_n dX7_reading_0 rfl ?_
  refine g_iconst dX7_reading_1 ?_
  refine g_iconst dX7_reading_2 ?_
  refine g_pS3 dX7_reading_3 sX7_70 (by decide) (Nat.le_of_ble_eq_true rfl) (c_isIn _ _ _ (by omega) (by omega) (by omega)) ?_
  refine g_ifb_eq (tgt := 27) dX7_reading_6 (by decide) (fun h6 => ?_) (fun h6 => ?_)
  · refine g_ldc dX7_reading_27 kX7_78 ?_
    exact g_iret dX7_reading_29 trivial (by first | exact (OM.of (q := (cBad, V)) (by unfold p_reading; rw [if_pos (by omega)]) rfl h keepM.rfl) | exact (OM.of (q := (rdg V u p, V)) (by unfold p_reading; rw [if_neg (by omega), Int.toNat_natCast]) rfl h hc.keepM))
  · refine g_aload_n dX7_reading_9 rfl ?_
    refine g_iload_n dX7_reading_10 rfl ?_
    refine g_pV1 dX7_reading_11 qX7_79 rfl (by decide) (by decide) (Nat.le_of_ble_eq_true rfl) (c_isHole hi h _ (by omega)) ?_
    refine g_ifb_eq (tgt := 27) dX7_reading_14 (by decide) (fun h14 => ?_) (fun h14 => ?_)
    · refine g_ldc dX7_reading_27 kX7_78 ?_
      exact g_iret dX7_reading_29 trivial (by first | exact (OM.of (q := (cBad, V)) (by unfold p_reading; rw [if_pos (by omega)]) rfl h keepM.rfl) | exact (OM.of (q := (rdg V u p, V)) (by unfold p_reading; rw [if_neg (by omega), Int.toNat_natCast]) rfl h hc.keepM))
    · obtain ⟨u, rfl⟩ : ∃ u : Nat, r = u := ⟨r.toNat, by omega⟩
      have hu : u < 2 := by omega
      refine g_aload_n dX7_reading_17 rfl ?_
      refine g_iload_n dX7_reading_18 rfl ?_
      refine g_iload_n dX7_reading_19 rfl ?_
      refine g_eV2 dX7_reading_20 qX7_117 rfl (by decide) (by decide) (Nat.le_of_ble_eq_true rfl) (c_readingAt hi h u hu p (by omega) (by omega)) ?_
      intro τ hq
      obtain ⟨h, hc⟩ := hq
      refine g_l2i dX7_reading_23 ?_
      refine g_goto (tgt := 29) dX7_reading_24 (by decide) ?_
      exact g_iret dX7_reading_29 trivial (by first | exact (OM.of (q := (cBad, V)) (by unfold p_reading; rw [if_pos (by omega)]) rfl h keepM.rfl) | exact (OM.of (q := (rdg V u p, V)) (by unfold p_reading; rw [if_neg (by omega), Int.toNat_natCast]) rfl h hc.keepM))

theorem c_middle_lp {b : Int} {V σ : Mem} (hi : Inv b V) : ∀ (n : Nat) (k : Int) (τ : Mem), 0 ≤ k → k ≤ V 0 0 → V 0 0 - k < n → RM V τ → cac σ τ → Go 41 mX7_middle 4 [some (aR 30), some (aL (sumN (rdg V 0) k.toNat)), none, some (aI k)] [] τ (EC V σ (aL (midV V))) := by
  intro n
  induction n with
  | zero => intros; omega
  | succ n ih =>
    intro k τ k0 k1 kn h hc0
    have hN := hi.N
    refine g_iload_n dX7_middle_4 rfl ?_
    refine g_aload_n dX7_middle_5 rfl ?_
    refine g_getI (ji := 0) rfl dX7_middle_6 fX7_58 rfl rfl (by decide) ?_
    rw [h.N]
    refine g_icmp_ge (tgt := 27) dX7_middle_9 (by decide) (by omega) (by omega) (fun h9 => ?_) (fun h9 => ?_)
    · have hk : k = V 0 0 := by omega
      have hs64 := sum64 hi k.toNat (by omega)
      refine g_lload_n dX7_middle_27 rfl ?_
      refine g_aload_n dX7_middle_28 rfl ?_
      refine g_getI (ji := 0) rfl dX7_middle_29 fX7_58 rfl rfl (by decide) ?_
      rw [h.N]
      refine g_i2l dX7_middle_32 (by omega) ?_
      refine g_pS2 dX7_middle_33 sX7_110 (by decide) (Nat.le_of_ble_eq_true rfl) (c_cut _ _ hs64 (by omega) (by omega)) ?_
      exact g_lret dX7_middle_36 trivial ⟨by unfold midV; rw [hk], h, hc0⟩
    · refine g_lload_n dX7_middle_12 rfl ?_
      refine g_aload_n dX7_middle_13 rfl ?_
      refine g_iconst dX7_middle_14 ?_
      refine g_iload_n dX7_middle_15 rfl ?_
      refine g_eV2 dX7_middle_16 qX7_117 rfl (by decide) (by decide) (Nat.le_of_ble_eq_true rfl) (c_readingAt hi h 0 (by decide) k k0 (by omega)) ?_
      intro τ hq
      obtain ⟨h, hc⟩ := hq
      refine g_ladd dX7_middle_19 ?_
      refine g_lstore_n (i := 1) dX7_middle_20 rfl (by decide) ?_
      refine g_iinc dX7_middle_21 rfl (by decide) ?_
      refine g_goto (tgt := 4) dX7_middle_24 (by decide) ?_
      rw [← sumN_succ k0]
      exact ih (k + 1) _ (by omega) (by omega) (by omega) h (hc0.trans hc)

theorem c_middle {b : Int} {V σ : Mem} (hi : Inv b V) (h : RM V σ) : Ret 41 mX7_middle [aR 30] σ (EC V σ (aL (midV V))) := by
  refine Ret.of [some (aR 30), none, none, none] rfl (plainFor_of_name (by decide)) (Nat.le_of_ble_eq_true rfl) ?_
  refine g_lconst (v := 0) dX7_middle_0 (by decide) ?_
  refine g_lstore_n (i := 1) dX7_middle_1 rfl (by decide) ?_
  refine g_iconst dX7_middle_2 ?_
  refine g_istore_n (i := 3) dX7_middle_3 rfl (by decide) ?_
  have hN := hi.N
  exact c_middle_lp hi 33 0 _ (by omega) (by omega) (by omega) h cac.rfl
