theorem Inv.N2 {b : Int} {V : Mem} (h : Inv b V) : 8 ≤ V 0 0 ∧ V 0 0 ≤ 32 := by have := h.N; omega

theorem c_isLoose {b : Int} {V σ : Mem} (hi : Inv b V) (h : RM V σ) (s : Int) (h0 : 0 ≤ s) (h1 : s < V 0 0) : RetV 41 mX7_isLoose [aR 30, aI s] σ (aI (b2i (V 2 s < 0))) := by
  refine Ret.of [some (aR 30), some (aI s)] rfl (plainFor_of_name (by decide)) (Nat.le_of_ble_eq_true rfl) ?_
  have hN := hi.N2
  have hk := hi.kind s h0 h1
  have hp := hi.pull s h0 h1
  have hb := hi.b
  refine g_aload_n dX7_isLoose_0 rfl ?_
  refine g_iload_n dX7_isLoose_1 rfl ?_
  refine g_pV1 dX7_isLoose_2 qX7_74 rfl (by decide) (by decide) (Nat.le_of_ble_eq_true rfl) (c_isGone hi h _ (by omega) (by omega)) ?_
  refine g_ifb_ne (tgt := 23) dX7_isLoose_5 (by decide) (fun h5 => ?_) (fun h5 => ?_)
  · refine g_iconst dX7_isLoose_23 ?_
    exact g_iret dX7_isLoose_24 (by first | exact Or.inl rfl | exact Or.inr rfl | exact b2i_ok) (by first | exact aI_b2i1 (by omega) rfl | exact aI_b2i0 (by omega) rfl)
  · refine g_aload_n dX7_isLoose_8 rfl ?_
    refine g_getR dX7_isLoose_9 fX7_13 rfl rfl (by decide) ?_
    refine g_iload_n dX7_isLoose_12 rfl ?_
    refine g_laload dX7_isLoose_13 rfl (by decide) (by omega) (by omega) (by decide) ?_
    rw [h.pull _ (by omega) (by omega)]
    refine g_lconst (v := 0) dX7_isLoose_14 (by decide) ?_
    refine g_lcmp_ge (tgt := 23) dX7_isLoose_15 dX7_isLoose_16 (by decide) (by omega) (by omega) (fun h15 => ?_) (fun h15 => ?_)
    · refine g_iconst dX7_isLoose_23 ?_
      exact g_iret dX7_isLoose_24 (by first | exact Or.inl rfl | exact Or.inr rfl | exact b2i_ok) (by first | exact aI_b2i1 (by omega) rfl | exact aI_b2i0 (by omega) rfl)
    · refine g_iconst dX7_isLoose_19 ?_
      refine g_goto (tgt := 24) dX7_isLoose_20 (by decide) ?_
      exact g_iret dX7_isLoose_24 (by first | exact Or.inl rfl | exact Or.inr rfl | exact b2i_ok) (by first | exact aI_b2i1 (by omega) rfl | exact aI_b2i0 (by omega) rfl)

theorem c_size {K : Nat} {σ : Mem} (x : Int) (hx : i64 x) : RetV K mX7_size [aL x] σ (aL (ab x)) := by
  refine Ret.of [some (aL x), none] rfl (plainFor_of_name (by decide)) (Nat.le_of_ble_eq_true rfl) ?_
  refine g_lload_n dX7_size_0 rfl ?_
  refine g_lconst (v := 0) dX7_size_1 (by decide) ?_
  refine g_lcmp_ge (tgt := 11) dX7_size_2 dX7_size_3 (by decide) (by omega) (by omega) (fun h2 => ?_) (fun h2 => ?_)
  · refine g_lload_n dX7_size_11 rfl ?_
    exact g_lret dX7_size_12 trivial ⟨by unfold ab; congr 2; omega, rfl⟩
  · refine g_lload_n dX7_size_6 rfl ?_
    refine g_lneg dX7_size_7 ?_
    refine g_goto (tgt := 12) dX7_size_8 (by decide) ?_
    exact g_lret dX7_size_12 trivial ⟨by unfold ab; congr 2; omega, rfl⟩

theorem c_greater {K : Nat} {σ : Mem} (x : Int) (y : Int) (hx : i64 x) (hy : i64 y) : RetV K mX7_greater [aL x, aL y] σ (aL (max x y)) := by
  refine Ret.of [some (aL x), none, some (aL y), none] rfl (plainFor_of_name (by decide)) (Nat.le_of_ble_eq_true rfl) ?_
  refine g_lload_n dX7_greater_0 rfl ?_
  refine g_lload_n dX7_greater_1 rfl ?_
  refine g_lcmp_le (tgt := 10) dX7_greater_2 dX7_greater_3 (by decide) (by omega) (by omega) (fun h2 => ?_) (fun h2 => ?_)
  · refine g_lload_n dX7_greater_10 rfl ?_
    exact g_lret dX7_greater_11 trivial ⟨by congr 2; omega, rfl⟩
  · refine g_lload_n dX7_greater_6 rfl ?_
    refine g_goto (tgt := 11) dX7_greater_7 (by decide) ?_
    exact g_lret dX7_greater_11 trivial ⟨by congr 2; omega, rfl⟩

theorem c_share {b : Int} {V σ : Mem} (hi : Inv b V) (h : RM V σ) (v : Int) (i : Int) (h0 : 0 ≤ i) (h1 : i < 5) (hv : -2000000000 ≤ v ∧ v ≤ 2000000000) : RetV 41 mX7_share [aR 30, aL v, aI i] σ (aL (shr v (V 14 i))) := by
  refine Ret.of [some (aR 30), some (aL v), none, some (aI i)] rfl (plainFor_of_name (by decide)) (Nat.le_of_ble_eq_true rfl) ?_
  have hl := hi.lim i h0 h1
  have ha := ab_b hv.1 hv.2
  refine g_ldc2 dX7_share_0 lX7_120 ?_
  refine g_lload_n dX7_share_3 rfl ?_
  refine g_pS1 dX7_share_4 sX7_122 (by decide) (Nat.le_of_ble_eq_true rfl) (c_size _ (by omega)) ?_
  refine g_lmul dX7_share_7 ?_
  refine g_aload_n dX7_share_8 rfl ?_
  refine g_getR dX7_share_9 fX7_29 rfl rfl (by decide) ?_
  refine g_iload_n dX7_share_12 rfl ?_
  refine g_iaload dX7_share_13 rfl (by decide) (by omega) (by omega) (by decide) ?_
  rw [h.lim _ (by omega) (by omega)]
  refine g_i2l dX7_share_14 (by omega) ?_
  refine g_ldiv dX7_share_15 (by omega) (by omega) (by omega) ?_
  rw [Int.tdiv_eq_ediv_of_nonneg (by omega)]
  exact g_lret dX7_share_16 trivial ⟨rfl, rfl⟩

theorem leanK_b (k : Int) : -1 ≤ leanK k ∧ leanK k ≤ 1 := by
  unfold leanK
  repeat' split
  all_goals omega
theorem leanK_32 (k : Int) : i32 (leanK k) := by have := leanK_b k; omega
theorem spS_up {a : Bool} {x y lo hg : Int} (h1 : lo = x) (h2 : hg = y) : ((a, x, y) : Bool × Int × Int) = (a, lo, hg) := by rw [h1, h2]

theorem c_spread_lp {b : Int} {V σ : Mem} (hi : Inv b V) (h : RM V σ) (l : Int) (hl : l = 1 ∨ l = -1) : ∀ (n : Nat) (k lo hg : Int) (an : Bool), 0 ≤ k → k ≤ V 0 0 → V 0 0 - k < n → spS V l k.toNat = (an, lo, hg) → Go 41 mX7_spread 11 [some (aR 30), some (aI l), some (aL lo), none, some (aL hg), none, some (aI (b2i (an = true))), some (aI k)] [] σ (fun o τ => o = some (aL (sprV V l)) ∧ τ = σ) := by
  intro n
  induction n with
  | zero => intros; omega
  | succ n ih =>
    intro k lo hg an k0 k1 kn hs
    have hN := hi.N2
    have hb := hi.b
    have hl32 : i32 l := by omega
    clear hl
    have hbd := spS_b hi l k.toNat (by omega)
    rw [hs] at hbd
    have hsu := spS_succ (V := V) (l := l) k0
    rw [hs] at hsu
    dsimp only at hsu hbd
    have j1 : i64 lo := by omega
    have j2 : i64 hg := by omega
    have j3 : i32 k := by omega
    have j4 : i32 (V 0 0) := by omega
    refine g_iload dX7_spread_11 rfl ?_
    refine g_aload_n dX7_spread_13 rfl ?_
    refine g_getI (ji := 0) rfl dX7_spread_14 fX7_58 rfl rfl (by decide) ?_
    rw [h.N]
    refine g_icmp_ge (tgt := 100) dX7_spread_17 (by decide) (by first | assumption | omega) (by first | assumption | omega) (fun h17 => ?_) (fun h17 => ?_)
    · refine g_lload dX7_spread_100 rfl ?_
      refine g_lload_n dX7_spread_102 rfl ?_
      refine g_lsub dX7_spread_103 ?_
      exact g_lret dX7_spread_104 trivial ⟨by unfold sprV; rw [show V 0 0 = k by omega, hs], rfl⟩
    · have hkN : k < V 0 0 := h17
      have hpl := hi.pull k k0 hkN
      have hle : i32 (leanK (V 1 k)) := leanK_32 _
      have j5 : i64 (V 2 k) := by omega
      have e1 : 0 ≤ k + 1 := by omega
      have e2 : k + 1 ≤ V 0 0 := by omega
      have e3 : V 0 0 - (k + 1) < n := by omega
      have e4 : k < 32 := by omega
      refine g_aload_n dX7_spread_20 rfl ?_
      refine g_iload dX7_spread_21 rfl ?_
      refine g_pV1 dX7_spread_23 qX7_91 rfl (by decide) (by decide) (Nat.le_of_ble_eq_true rfl) (c_leans hi h k k0 hkN) ?_
      refine g_iload_n dX7_spread_26 rfl ?_
      refine g_icmp_ne (tgt := 94) dX7_spread_27 (by decide) hle hl32 (fun h27 => g_iinc dX7_spread_94 rfl (by decide) (g_goto (tgt := 11) dX7_spread_97 (by decide) (ih (k + 1) lo hg an e1 e2 e3 (by rw [hsu, if_neg h27])))) (fun h27 => ?_)
      refine g_iload dX7_spread_30 rfl ?_
      refine g_ifb_eq (tgt := 47) dX7_spread_32 (by decide) (fun h32 => ?_) (fun h32 => ?_)
      · refine g_aload_n dX7_spread_47 rfl ?_
        refine g_getR dX7_spread_48 fX7_13 rfl rfl (by decide) ?_
        refine g_iload dX7_spread_51 rfl ?_
        refine g_laload dX7_spread_53 rfl (by decide) k0 e4 (by decide) ?_
        rw [h.pull k k0 hkN]
        refine g_goto (tgt := 58) dX7_spread_54 (by decide) ?_
        refine g_lstore_n (i := 2) dX7_spread_58 rfl (by decide) ?_
        refine g_iload dX7_spread_59 rfl ?_
        refine g_ifb_eq (tgt := 77) dX7_spread_61 (by decide) (fun h61 => ?_) (fun h61 => ?_)
        · refine g_aload_n dX7_spread_77 rfl ?_
          refine g_getR dX7_spread_78 fX7_13 rfl rfl (by decide) ?_
          refine g_iload dX7_spread_81 rfl ?_
          refine g_laload dX7_spread_83 rfl (by decide) k0 e4 (by decide) ?_
          rw [h.pull k k0 hkN]
          refine g_goto (tgt := 89) dX7_spread_84 (by decide) ?_
          refine g_lstore dX7_spread_89 (by decide) ?_
          refine g_iconst dX7_spread_91 ?_
          refine g_istore dX7_spread_92 (by decide) ?_
          refine g_iinc dX7_spread_94 rfl (by decide) ?_
          refine g_goto (tgt := 11) dX7_spread_97 (by decide) ?_
          exact ih (k + 1) _ _ true e1 e2 e3 (by
                rw [hsu, if_pos h27]
                exact spS_up (by first | exact (if_pos (Or.inl (Bool.eq_false_iff.mpr h32))).symm | exact (if_pos (Or.inr (by omega))).symm | exact (if_neg (fun q => q.elim (fun e => by rw [h32] at e; cases e) (fun e => by omega))).symm) (by first | exact (if_pos (Or.inl (Bool.eq_false_iff.mpr h61))).symm | exact (if_pos (Or.inr (by omega))).symm | exact (if_neg (fun q => q.elim (fun e => by rw [h61] at e; cases e) (fun e => by omega))).symm))
        · refine g_aload_n dX7_spread_64 rfl ?_
          refine g_getR dX7_spread_65 fX7_13 rfl rfl (by decide) ?_
          refine g_iload dX7_spread_68 rfl ?_
          refine g_laload dX7_spread_70 rfl (by decide) k0 e4 (by decide) ?_
          rw [h.pull k k0 hkN]
          refine g_lload dX7_spread_71 rfl ?_
          refine g_lcmp_le (tgt := 87) dX7_spread_73 dX7_spread_74 (by decide) (by first | assumption | omega) (by first | assumption | omega) (fun h73 => ?_) (fun h73 => ?_)
          · refine g_lload dX7_spread_87 rfl ?_
            refine g_lstore dX7_spread_89 (by decide) ?_
            refine g_iconst dX7_spread_91 ?_
            refine g_istore dX7_spread_92 (by decide) ?_
            refine g_iinc dX7_spread_94 rfl (by decide) ?_
            refine g_goto (tgt := 11) dX7_spread_97 (by decide) ?_
            exact ih (k + 1) _ _ true e1 e2 e3 (by
                  rw [hsu, if_pos h27]
                  exact spS_up (by first | exact (if_pos (Or.inl (Bool.eq_false_iff.mpr h32))).symm | exact (if_pos (Or.inr (by omega))).symm | exact (if_neg (fun q => q.elim (fun e => by rw [h32] at e; cases e) (fun e => by omega))).symm) (by first | exact (if_pos (Or.inl (Bool.eq_false_iff.mpr h61))).symm | exact (if_pos (Or.inr (by omega))).symm | exact (if_neg (fun q => q.elim (fun e => by rw [h61] at e; cases e) (fun e => by omega))).symm))
          · refine g_aload_n dX7_spread_77 rfl ?_
            refine g_getR dX7_spread_78 fX7_13 rfl rfl (by decide) ?_
            refine g_iload dX7_spread_81 rfl ?_
            refine g_laload dX7_spread_83 rfl (by decide) k0 e4 (by decide) ?_
            rw [h.pull k k0 hkN]
            refine g_goto (tgt := 89) dX7_spread_84 (by decide) ?_
            refine g_lstore dX7_spread_89 (by decide) ?_
            refine g_iconst dX7_spread_91 ?_
            refine g_istore dX7_spread_92 (by decide) ?_
            refine g_iinc dX7_spread_94 rfl (by decide) ?_
            refine g_goto (tgt := 11) dX7_spread_97 (by decide) ?_
            exact ih (k + 1) _ _ true e1 e2 e3 (by
                  rw [hsu, if_pos h27]
                  exact spS_up (by first | exact (if_pos (Or.inl (Bool.eq_false_iff.mpr h32))).symm | exact (if_pos (Or.inr (by omega))).symm | exact (if_neg (fun q => q.elim (fun e => by rw [h32] at e; cases e) (fun e => by omega))).symm) (by first | exact (if_pos (Or.inl (Bool.eq_false_iff.mpr h61))).symm | exact (if_pos (Or.inr (by omega))).symm | exact (if_neg (fun q => q.elim (fun e => by rw [h61] at e; cases e) (fun e => by omega))).symm))
      · refine g_aload_n dX7_spread_35 rfl ?_
        refine g_getR dX7_spread_36 fX7_13 rfl rfl (by decide) ?_
        refine g_iload dX7_spread_39 rfl ?_
        refine g_laload dX7_spread_41 rfl (by decide) k0 e4 (by decide) ?_
        rw [h.pull k k0 hkN]
        refine g_lload_n dX7_spread_42 rfl ?_
        refine g_lcmp_ge (tgt := 57) dX7_spread_43 dX7_spread_44 (by decide) (by first | assumption | omega) (by first | assumption | omega) (fun h43 => ?_) (fun h43 => ?_)
        · refine g_lload_n dX7_spread_57 rfl ?_
          refine g_lstore_n (i := 2) dX7_spread_58 rfl (by decide) ?_
          refine g_iload dX7_spread_59 rfl ?_
          refine g_ifb_eq (tgt := 77) dX7_spread_61 (by decide) (fun h61 => ?_) (fun h61 => ?_)
          · refine g_aload_n dX7_spread_77 rfl ?_
            refine g_getR dX7_spread_78 fX7_13 rfl rfl (by decide) ?_
            refine g_iload dX7_spread_81 rfl ?_
            refine g_laload dX7_spread_83 rfl (by decide) k0 e4 (by decide) ?_
            rw [h.pull k k0 hkN]
            refine g_goto (tgt := 89) dX7_spread_84 (by decide) ?_
            refine g_lstore dX7_spread_89 (by decide) ?_
            refine g_iconst dX7_spread_91 ?_
            refine g_istore dX7_spread_92 (by decide) ?_
            refine g_iinc dX7_spread_94 rfl (by decide) ?_
            refine g_goto (tgt := 11) dX7_spread_97 (by decide) ?_
            exact ih (k + 1) _ _ true e1 e2 e3 (by
                  rw [hsu, if_pos h27]
                  exact spS_up (by first | exact (if_pos (Or.inl (Bool.eq_false_iff.mpr h32))).symm | exact (if_pos (Or.inr (by omega))).symm | exact (if_neg (fun q => q.elim (fun e => by rw [h32] at e; cases e) (fun e => by omega))).symm) (by first | exact (if_pos (Or.inl (Bool.eq_false_iff.mpr h61))).symm | exact (if_pos (Or.inr (by omega))).symm | exact (if_neg (fun q => q.elim (fun e => by rw [h61] at e; cases e) (fun e => by omega))).symm))
          · refine g_aload_n dX7_spread_64 rfl ?_
            refine g_getR dX7_spread_65 fX7_13 rfl rfl (by decide) ?_
            refine g_iload dX7_spread_68 rfl ?_
            refine g_laload dX7_spread_70 rfl (by decide) k0 e4 (by decide) ?_
            rw [h.pull k k0 hkN]
            refine g_lload dX7_spread_71 rfl ?_
            refine g_lcmp_le (tgt := 87) dX7_spread_73 dX7_spread_74 (by decide) (by first | assumption | omega) (by first | assumption | omega) (fun h73 => ?_) (fun h73 => ?_)
            · refine g_lload dX7_spread_87 rfl ?_
              refine g_lstore dX7_spread_89 (by decide) ?_
              refine g_iconst dX7_spread_91 ?_
              refine g_istore dX7_spread_92 (by decide) ?_
              refine g_iinc dX7_spread_94 rfl (by decide) ?_
              refine g_goto (tgt := 11) dX7_spread_97 (by decide) ?_
              exact ih (k + 1) _ _ true e1 e2 e3 (by
                    rw [hsu, if_pos h27]
                    exact spS_up (by first | exact (if_pos (Or.inl (Bool.eq_false_iff.mpr h32))).symm | exact (if_pos (Or.inr (by omega))).symm | exact (if_neg (fun q => q.elim (fun e => by rw [h32] at e; cases e) (fun e => by omega))).symm) (by first | exact (if_pos (Or.inl (Bool.eq_false_iff.mpr h61))).symm | exact (if_pos (Or.inr (by omega))).symm | exact (if_neg (fun q => q.elim (fun e => by rw [h61] at e; cases e) (fun e => by omega))).symm))
            · refine g_aload_n dX7_spread_77 rfl ?_
              refine g_getR dX7_spread_78 fX7_13 rfl rfl (by decide) ?_
              refine g_iload dX7_spread_81 rfl ?_
              refine g_laload dX7_spread_83 rfl (by decide) k0 e4 (by decide) ?_
              rw [h.pull k k0 hkN]
              refine g_goto (tgt := 89) dX7_spread_84 (by decide) ?_
              refine g_lstore dX7_spread_89 (by decide) ?_
              refine g_iconst dX7_spread_91 ?_
              refine g_istore dX7_spread_92 (by decide) ?_
              refine g_iinc dX7_spread_94 rfl (by decide) ?_
              refine g_goto (tgt := 11) dX7_spread_97 (by decide) ?_
              exact ih (k + 1) _ _ true e1 e2 e3 (by
                    rw [hsu, if_pos h27]
                    exact spS_up (by first | exact (if_pos (Or.inl (Bool.eq_false_iff.mpr h32))).symm | exact (if_pos (Or.inr (by omega))).symm | exact (if_neg (fun q => q.elim (fun e => by rw [h32] at e; cases e) (fun e => by omega))).symm) (by first | exact (if_pos (Or.inl (Bool.eq_false_iff.mpr h61))).symm | exact (if_pos (Or.inr (by omega))).symm | exact (if_neg (fun q => q.elim (fun e => by rw [h61] at e; cases e) (fun e => by omega))).symm))
        · refine g_aload_n dX7_spread_47 rfl ?_
          refine g_getR dX7_spread_48 fX7_13 rfl rfl (by decide) ?_
          refine g_iload dX7_spread_51 rfl ?_
          refine g_laload dX7_spread_53 rfl (by decide) k0 e4 (by decide) ?_
          rw [h.pull k k0 hkN]
          refine g_goto (tgt := 58) dX7_spread_54 (by decide) ?_
          refine g_lstore_n (i := 2) dX7_spread_58 rfl (by decide) ?_
          refine g_iload dX7_spread_59 rfl ?_
          refine g_ifb_eq (tgt := 77) dX7_spread_61 (by decide) (fun h61 => ?_) (fun h61 => ?_)
          · refine g_aload_n dX7_spread_77 rfl ?_
            refine g_getR dX7_spread_78 fX7_13 rfl rfl (by decide) ?_
            refine g_iload dX7_spread_81 rfl ?_
            refine g_laload dX7_spread_83 rfl (by decide) k0 e4 (by decide) ?_
            rw [h.pull k k0 hkN]
            refine g_goto (tgt := 89) dX7_spread_84 (by decide) ?_
            refine g_lstore dX7_spread_89 (by decide) ?_
            refine g_iconst dX7_spread_91 ?_
            refine g_istore dX7_spread_92 (by decide) ?_
            refine g_iinc dX7_spread_94 rfl (by decide) ?_
            refine g_goto (tgt := 11) dX7_spread_97 (by decide) ?_
            exact ih (k + 1) _ _ true e1 e2 e3 (by
                  rw [hsu, if_pos h27]
                  exact spS_up (by first | exact (if_pos (Or.inl (Bool.eq_false_iff.mpr h32))).symm | exact (if_pos (Or.inr (by omega))).symm | exact (if_neg (fun q => q.elim (fun e => by rw [h32] at e; cases e) (fun e => by omega))).symm) (by first | exact (if_pos (Or.inl (Bool.eq_false_iff.mpr h61))).symm | exact (if_pos (Or.inr (by omega))).symm | exact (if_neg (fun q => q.elim (fun e => by rw [h61] at e; cases e) (fun e => by omega))).symm))
          · refine g_aload_n dX7_spread_64 rfl ?_
            refine g_getR dX7_spread_65 fX7_13 rfl rfl (by decide) ?_
            refine g_iload dX7_spread_68 rfl ?_
            refine g_laload dX7_spread_70 rfl (by decide) k0 e4 (by decide) ?_
            rw [h.pull k k0 hkN]
            refine g_lload dX7_spread_71 rfl ?_
            refine g_lcmp_le (tgt := 87) dX7_spread_73 dX7_spread_74 (by decide) (by first | assumption | omega) (by first | assumption | omega) (fun h73 => ?_) (fun h73 => ?_)
            · refine g_lload dX7_spread_87 rfl ?_
              refine g_lstore dX7_spread_89 (by decide) ?_
              refine g_iconst dX7_spread_91 ?_
              refine g_istore dX7_spread_92 (by decide) ?_
              refine g_iinc dX7_spread_94 rfl (by decide) ?_
              refine g_goto (tgt := 11) dX7_spread_97 (by decide) ?_
              exact ih (k + 1) _ _ true e1 e2 e3 (by
                    rw [hsu, if_pos h27]
                    exact spS_up (by first | exact (if_pos (Or.inl (Bool.eq_false_iff.mpr h32))).symm | exact (if_pos (Or.inr (by omega))).symm | exact (if_neg (fun q => q.elim (fun e => by rw [h32] at e; cases e) (fun e => by omega))).symm) (by first | exact (if_pos (Or.inl (Bool.eq_false_iff.mpr h61))).symm | exact (if_pos (Or.inr (by omega))).symm | exact (if_neg (fun q => q.elim (fun e => by rw [h61] at e; cases e) (fun e => by omega))).symm))
            · refine g_aload_n dX7_spread_77 rfl ?_
              refine g_getR dX7_spread_78 fX7_13 rfl rfl (by decide) ?_
              refine g_iload dX7_spread_81 rfl ?_
              refine g_laload dX7_spread_83 rfl (by decide) k0 e4 (by decide) ?_
              rw [h.pull k k0 hkN]
              refine g_goto (tgt := 89) dX7_spread_84 (by decide) ?_
              refine g_lstore dX7_spread_89 (by decide) ?_
              refine g_iconst dX7_spread_91 ?_
              refine g_istore dX7_spread_92 (by decide) ?_
              refine g_iinc dX7_spread_94 rfl (by decide) ?_
              refine g_goto (tgt := 11) dX7_spread_97 (by decide) ?_
              exact ih (k + 1) _ _ true e1 e2 e3 (by
                    rw [hsu, if_pos h27]
                    exact spS_up (by first | exact (if_pos (Or.inl (Bool.eq_false_iff.mpr h32))).symm | exact (if_pos (Or.inr (by omega))).symm | exact (if_neg (fun q => q.elim (fun e => by rw [h32] at e; cases e) (fun e => by omega))).symm) (by first | exact (if_pos (Or.inl (Bool.eq_false_iff.mpr h61))).symm | exact (if_pos (Or.inr (by omega))).symm | exact (if_neg (fun q => q.elim (fun e => by rw [h61] at e; cases e) (fun e => by omega))).symm))

theorem c_spread {b : Int} {V σ : Mem} (hi : Inv b V) (h : RM V σ) (l : Int) (hl : l = 1 ∨ l = -1) : RetV 41 mX7_spread [aR 30, aI l] σ (aL (sprV V l)) := by
  refine Ret.of [some (aR 30), some (aI l), none, none, none, none, none, none] rfl (plainFor_of_name (by decide)) (Nat.le_of_ble_eq_true rfl) ?_
  refine g_lconst (v := 0) dX7_spread_0 (by decide) ?_
  refine g_lstore_n (i := 2) dX7_spread_1 rfl (by decide) ?_
  refine g_lconst (v := 0) dX7_spread_2 (by decide) ?_
  refine g_lstore dX7_spread_3 (by decide) ?_
  refine g_iconst dX7_spread_5 ?_
  refine g_istore dX7_spread_6 (by decide) ?_
  refine g_iconst dX7_spread_8 ?_
  refine g_istore dX7_spread_9 (by decide) ?_
  have hN := hi.N2
  exact c_spread_lp hi h l hl 33 0 0 0 false (by omega) (by omega) (by omega) rfl

theorem wst_b {b : Int} {V : Mem} (hi : Inv b V) : (0 ≤ shr (midV V) (V 14 2) ∧ shr (midV V) (V 14 2) ≤ 2000000000000) ∧ (0 ≤ shr (sprV V 1) (V 14 3) ∧ shr (sprV V 1) (V 14 3) ≤ 2000000000000) ∧ (0 ≤ shr (sprV V (-1)) (V 14 3) ∧ shr (sprV V (-1)) (V 14 3) ≤ 2000000000000) ∧ ∀ r : Nat, r < 2 → ∀ p, 0 ≤ p → p < V 0 0 → 0 ≤ shr (rdg V r p) (V 14 r) ∧ shr (rdg V r p) (V 14 r) ≤ 2000000000000 := by
  have hb := hi.b
  have h1 := midV_b hi
  have h2 := sprV_b hi 1
  have h3 := sprV_b hi (-1)
  have l2 := hi.lim 2 (by decide) (by decide)
  have l3 := hi.lim 3 (by decide) (by decide)
  have a1 := shr_b (v := midV V) (L := V 14 2) (B := 2000000000) l2.1 (ab_b (by omega) (by omega)).2
  have a2 := shr_b (v := sprV V 1) (L := V 14 3) (B := 2000000000) l3.1 (ab_b (by omega) (by omega)).2
  have a3 := shr_b (v := sprV V (-1)) (L := V 14 3) (B := 2000000000) l3.1 (ab_b (by omega) (by omega)).2
  refine ⟨by omega, by omega, by omega, fun r hr p p0 p1 => ?_⟩
  have h4 := rdg_b hi r hr p p0 p1
  have l4 := hi.lim r (by omega) (by omega)
  have a4 := shr_b (v := rdg V r p) (L := V 14 r) (B := 2000000000) l4.1 (ab_b (by omega) (by omega)).2
  omega
theorem wst_mx {b : Int} {V : Mem} (hi : Inv b V) (r : Nat) (hr : r < 2) (n : Nat) (hn : (n : Int) ≤ V 0 0) : 0 ≤ mxN (fun p => shr (rdg V r p) (V 14 r)) n ∧ mxN (fun p => shr (rdg V r p) (V 14 r)) n ≤ 2000000000000 :=
  mxN_b (by decide) n (fun k h0 h1 => ((wst_b hi).2.2.2 r hr k (by omega) (by omega)).2)

theorem c_worst_lp {b : Int} {V σ : Mem} (hi : Inv b V) (v : Int) (hv : v = max (max (shr (midV V) (V 14 2)) (shr (sprV V 1) (V 14 3))) (shr (sprV V (-1)) (V 14 3))) : ∀ (n : Nat) (k a : Int) (τ : Mem), 0 ≤ k → k ≤ V 0 0 → V 0 0 - k < n → RM V τ → cac σ τ → a = max v (max (mxN (fun p => shr (rdg V 0 p) (V 14 0)) k.toNat) (mxN (fun p => shr (rdg V 1 p) (V 14 1)) k.toNat)) → Go 41 mX7_worst 42 [some (aR 30), some (aL a), none, some (aI k)] [] τ (EC V σ (aL (wstV V))) := by
  intro n
  induction n with
  | zero => intros; omega
  | succ n ih =>
    intro k a τ k0 k1 kn h hc ha
    have hN := hi.N2
    have hb := hi.b
    have hw := wst_b hi
    have hx0 : 0 ≤ mxN (fun p => shr (rdg V 0 p) (V 14 0)) k.toNat ∧ mxN (fun p => shr (rdg V 0 p) (V 14 0)) k.toNat ≤ 2000000000000 := wst_mx hi 0 (by decide) k.toNat (by omega)
    have hx1 : 0 ≤ mxN (fun p => shr (rdg V 1 p) (V 14 1)) k.toNat ∧ mxN (fun p => shr (rdg V 1 p) (V 14 1)) k.toNat ≤ 2000000000000 := wst_mx hi 1 (by decide) k.toNat (by omega)
    have hab : 0 ≤ a ∧ a ≤ 2000000000000 := by omega
    refine g_iload_n dX7_worst_42 rfl ?_
    refine g_aload_n dX7_worst_43 rfl ?_
    refine g_getI (ji := 0) rfl dX7_worst_44 fX7_58 rfl rfl (by decide) ?_
    rw [h.N]
    refine g_icmp_ge (tgt := 86) dX7_worst_47 (by decide) (by omega) (by omega) (fun h47 => ?_) (fun h47 => ?_)
    · refine g_lload_n dX7_worst_86 rfl ?_
      refine g_ldc2 dX7_worst_87 lX7_141 ?_
      refine g_lcmp_le (tgt := 100) dX7_worst_90 dX7_worst_91 (by decide) (by omega) (by omega) (fun h90 => ?_) (fun h90 => ?_)
      · refine g_lload_n dX7_worst_100 rfl ?_
        exact g_lret dX7_worst_101 trivial ⟨by unfold wstV; rw [← hv, show V 0 0 = k by omega, ← ha]; congr 2; omega, h, hc⟩
      · refine g_ldc2 dX7_worst_94 lX7_141 ?_
        refine g_goto (tgt := 101) dX7_worst_97 (by decide) ?_
        exact g_lret dX7_worst_101 trivial ⟨by unfold wstV; rw [← hv, show V 0 0 = k by omega, ← ha]; congr 2; omega, h, hc⟩
    · have r0 := rdg_b hi 0 (by decide) k k0 (by omega)
      have r1 := rdg_b hi 1 (by decide) k k0 (by omega)
      have s0 : 0 ≤ shr (rdg V 0 k) (V 14 0) ∧ shr (rdg V 0 k) (V 14 0) ≤ 2000000000000 := hw.2.2.2 0 (by decide) k k0 (by omega)
      have s1 : 0 ≤ shr (rdg V 1 k) (V 14 1) ∧ shr (rdg V 1 k) (V 14 1) ≤ 2000000000000 := hw.2.2.2 1 (by decide) k k0 (by omega)
      refine g_lload_n dX7_worst_50 rfl ?_
      refine g_aload_n dX7_worst_51 rfl ?_
      refine g_aload_n dX7_worst_52 rfl ?_
      refine g_iconst dX7_worst_53 ?_
      refine g_iload_n dX7_worst_54 rfl ?_
      refine g_eV2 dX7_worst_55 qX7_117 rfl (by decide) (by decide) (Nat.le_of_ble_eq_true rfl) (c_readingAt (r := 0) hi h (by decide) k k0 (by omega)) ?_
      intro τ hq
      obtain ⟨h, hc1⟩ := hq
      replace hc := hc.trans hc1
      refine g_iconst dX7_worst_58 ?_
      refine g_pV2 dX7_worst_59 qX7_130 rfl (by decide) (by decide) (Nat.le_of_ble_eq_true rfl) (c_share hi h _ _ (by omega) (by omega) (by omega)) ?_
      refine g_aload_n dX7_worst_62 rfl ?_
      refine g_aload_n dX7_worst_63 rfl ?_
      refine g_iconst dX7_worst_64 ?_
      refine g_iload_n dX7_worst_65 rfl ?_
      refine g_eV2 dX7_worst_66 qX7_117 rfl (by decide) (by decide) (Nat.le_of_ble_eq_true rfl) (c_readingAt (r := 1) hi h (by decide) k k0 (by omega)) ?_
      intro τ hq
      obtain ⟨h, hc1⟩ := hq
      replace hc := hc.trans hc1
      refine g_iconst dX7_worst_69 ?_
      refine g_pV2 dX7_worst_70 qX7_130 rfl (by decide) (by decide) (Nat.le_of_ble_eq_true rfl) (c_share hi h _ _ (by omega) (by omega) (by omega)) ?_
      refine g_pS2 dX7_worst_73 sX7_138 (by decide) (Nat.le_of_ble_eq_true rfl) (c_greater _ _ (by omega) (by omega)) ?_
      refine g_pS2 dX7_worst_76 sX7_138 (by decide) (Nat.le_of_ble_eq_true rfl) (c_greater _ _ (by omega) (by omega)) ?_
      refine g_lstore_n (i := 1) dX7_worst_79 rfl (by decide) ?_
      refine g_iinc dX7_worst_80 rfl (by decide) ?_
      refine g_goto (tgt := 42) dX7_worst_83 (by decide) ?_
      exact ih (k + 1) _ _ (by omega) (by omega) (by omega) h hc (by rw [mxN_succ k0, mxN_succ k0]; omega)

theorem c_worst {b : Int} {V σ : Mem} (hi : Inv b V) (h : RM V σ) : Ret 41 mX7_worst [aR 30] σ (EC V σ (aL (wstV V))) := by
  refine Ret.of [some (aR 30), none, none, none] rfl (plainFor_of_name (by decide)) (Nat.le_of_ble_eq_true rfl) ?_
  have hN := hi.N2
  have hb := hi.b
  have hw := wst_b hi
  have m1 := midV_b hi
  have m2 := sprV_b hi 1
  have m3 := sprV_b hi (-1)
  have hc : cac σ σ := cac.rfl
  refine g_aload_n dX7_worst_0 rfl ?_
  refine g_aload_n dX7_worst_1 rfl ?_
  refine g_eV0 dX7_worst_2 qX7_126 rfl (by decide) (by decide) (Nat.le_of_ble_eq_true rfl) (c_middle hi h) ?_
  intro τ hq
  obtain ⟨h, hc1⟩ := hq
  replace hc := hc.trans hc1
  refine g_iconst dX7_worst_5 ?_
  refine g_pV2 dX7_worst_6 qX7_130 rfl (by decide) (by decide) (Nat.le_of_ble_eq_true rfl) (c_share hi h _ _ (by omega) (by omega) (by omega)) ?_
  refine g_lstore_n (i := 1) dX7_worst_9 rfl (by decide) ?_
  refine g_lload_n dX7_worst_10 rfl ?_
  refine g_aload_n dX7_worst_11 rfl ?_
  refine g_aload_n dX7_worst_12 rfl ?_
  refine g_iconst dX7_worst_13 ?_
  refine g_pV1 dX7_worst_14 qX7_134 rfl (by decide) (by decide) (Nat.le_of_ble_eq_true rfl) (c_spread hi h 1 (by omega)) ?_
  refine g_iconst dX7_worst_17 ?_
  refine g_pV2 dX7_worst_18 qX7_130 rfl (by decide) (by decide) (Nat.le_of_ble_eq_true rfl) (c_share hi h _ _ (by omega) (by omega) (by omega)) ?_
  refine g_pS2 dX7_worst_21 sX7_138 (by decide) (Nat.le_of_ble_eq_true rfl) (c_greater _ _ (by omega) (by omega)) ?_
  refine g_lstore_n (i := 1) dX7_worst_24 rfl (by decide) ?_
  refine g_lload_n dX7_worst_25 rfl ?_
  refine g_aload_n dX7_worst_26 rfl ?_
  refine g_aload_n dX7_worst_27 rfl ?_
  refine g_iconst dX7_worst_28 ?_
  refine g_pV1 dX7_worst_29 qX7_134 rfl (by decide) (by decide) (Nat.le_of_ble_eq_true rfl) (c_spread hi h (-1) (by omega)) ?_
  refine g_iconst dX7_worst_32 ?_
  refine g_pV2 dX7_worst_33 qX7_130 rfl (by decide) (by decide) (Nat.le_of_ble_eq_true rfl) (c_share hi h _ _ (by omega) (by omega) (by omega)) ?_
  refine g_pS2 dX7_worst_36 sX7_138 (by decide) (Nat.le_of_ble_eq_true rfl) (c_greater _ _ (by omega) (by omega)) ?_
  refine g_lstore_n (i := 1) dX7_worst_39 rfl (by decide) ?_
  refine g_iconst dX7_worst_40 ?_
  refine g_istore_n (i := 3) dX7_worst_41 rfl (by decide) ?_
  exact c_worst_lp hi _ rfl 33 0 _ _ (by omega) (by omega) (by omega) h hc (by simp [mxN]; omega)

theorem bent_no {V : Mem} {r : Nat} (hN : 0 ≤ V 0 0) (h : ∀ q, 0 ≤ q → q < V 0 0 → ab (rdg V r q) ≤ V 14 r) : bentAt V r = -1 := firstI_no (by decide) (fun q q0 q1 => by simpa using h q q0 (by omega))
theorem bent_at {V : Mem} {r : Nat} {p : Int} (p0 : 0 ≤ p) (p1 : p < V 0 0) (hp : V 14 r < ab (rdg V r p)) (h : ∀ q, 0 ≤ q → q < p → ab (rdg V r q) ≤ V 14 r) : bentAt V r = p := firstI_eq (by decide) p0 (by omega) (by simpa using hp) (fun q q0 q1 => by simpa using h q q0 q1)
theorem loose_no {V : Mem} (hN : 0 ≤ V 0 0) (h : ∀ q, 0 ≤ q → q < V 0 0 → 0 ≤ V 2 q) : looseAt V = -1 := firstI_no (by decide) (fun q q0 q1 => by have := h q q0 (by omega); simp; omega)
theorem loose_at {V : Mem} {p : Int} (p0 : 0 ≤ p) (p1 : p < V 0 0) (hp : V 2 p < 0) (h : ∀ q, 0 ≤ q → q < p → 0 ≤ V 2 q) : looseAt V = p := firstI_eq (by decide) p0 (by omega) (by simpa using hp) (fun q q0 q1 => by have := h q q0 q1; simp; omega)

theorem c_fault_in {b : Int} {V σ : Mem} {Q : Option AV → Mem → Prop} (hi : Inv b V) (r : Nat) (hr : r < 2) (hQ : ∀ p τ, bentAt V r = p → 0 ≤ p → RM V τ → cac σ τ → Q (some (aI (100 * r + p))) τ) (hE : ∀ τ, bentAt V r = -1 → RM V τ → cac σ τ → Go 41 mX7_fault 50 [some (aR 30), some (aI r), some (aI (V 0 0))] [] τ Q) : ∀ (n : Nat) (k : Int) (τ : Mem), 0 ≤ k → k ≤ V 0 0 → V 0 0 - k < n → RM V τ → cac σ τ → (∀ q, 0 ≤ q → q < k → ab (rdg V r q) ≤ V 14 r) → Go 41 mX7_fault 9 [some (aR 30), some (aI r), some (aI k)] [] τ Q := by
  intro n
  induction n with
  | zero => intros; omega
  | succ n ih =>
    intro k τ k0 k1 kn h hc hf
    have hN := hi.N2
    have hb := hi.b
    have hl := hi.lim r (by omega) (by omega)
    refine g_iload_n dX7_fault_9 rfl ?_
    refine g_aload_n dX7_fault_10 rfl ?_
    refine g_getI (ji := 0) rfl dX7_fault_11 fX7_58 rfl rfl (by decide) ?_
    rw [h.N]
    refine g_icmp_ge (tgt := 50) dX7_fault_14 (by decide) (by omega) (by omega) (fun h14 => ?_) (fun h14 => ?_)
    · have hk : k = V 0 0 := by omega
      rw [hk]
      exact hE _ (bent_no (by omega) (by rw [← hk]; exact hf)) h hc
    · have r0 := rdg_b hi r hr k k0 (by omega)
      have ha := ab_b r0.1 r0.2
      refine g_aload_n dX7_fault_17 rfl ?_
      refine g_iload_n dX7_fault_18 rfl ?_
      refine g_iload_n dX7_fault_19 rfl ?_
      refine g_eV2 dX7_fault_20 qX7_117 rfl (by decide) (by decide) (Nat.le_of_ble_eq_true rfl) (c_readingAt hi h r hr k k0 (by omega)) ?_
      intro τ hq
      obtain ⟨h, hc1⟩ := hq
      replace hc := hc.trans hc1
      refine g_pS1 dX7_fault_23 sX7_122 (by decide) (Nat.le_of_ble_eq_true rfl) (c_size _ (by omega)) ?_
      refine g_aload_n dX7_fault_26 rfl ?_
      refine g_getR dX7_fault_27 fX7_29 rfl rfl (by decide) ?_
      refine g_iload_n dX7_fault_30 rfl ?_
      refine g_iaload dX7_fault_31 rfl (by decide) (by omega) (by omega) (by decide) ?_
      rw [h.lim _ (by omega) (by omega)]
      refine g_i2l dX7_fault_32 (by omega) ?_
      refine g_lcmp_le (tgt := 44) dX7_fault_33 dX7_fault_34 (by decide) (by omega) (by omega) (fun h33 => ?_) (fun h33 => ?_)
      · refine g_iinc dX7_fault_44 rfl (by decide) ?_
        refine g_goto (tgt := 9) dX7_fault_47 (by decide) ?_
        exact ih (k + 1) _ (by omega) (by omega) (by omega) h hc (fun q q0 q1 => by
          by_cases hq : q = k
          · rw [hq]; omega
          · exact hf q q0 (by omega))
      · refine g_bipush (v := 100) dX7_fault_37 (by decide) ?_
        refine g_iload_n dX7_fault_39 rfl ?_
        refine g_imul dX7_fault_40 ?_
        refine g_iload_n dX7_fault_41 rfl ?_
        refine g_iadd dX7_fault_42 ?_
        exact g_iret dX7_fault_43 trivial (hQ k _ (bent_at k0 (by omega) h33 hf) k0 h hc)

theorem c_fault_lo {b : Int} {V σ : Mem} (hi : Inv b V) (h0 : bentAt V 0 = -1) (h1 : bentAt V 1 = -1) (h2 : ab (midV V) ≤ V 14 2) (h3 : sprV V 1 ≤ V 14 3) (h4 : sprV V (-1) ≤ V 14 3) {τ : Mem} (h : RM V τ) (hc : cac σ τ) : ∀ (n : Nat) (k : Int), 0 ≤ k → k ≤ V 0 0 → V 0 0 - k < n → (∀ q, 0 ≤ q → q < k → 0 ≤ V 2 q) → Go 41 mX7_fault 120 [some (aR 30), some (aI k), some (aI (V 0 0))] [] τ (EC V σ (aI (fltV V))) := by
  intro n
  induction n with
  | zero => intros; omega
  | succ n ih =>
    intro k k0 k1 kn hf
    have hN := hi.N
    refine g_iload_n dX7_fault_120 rfl ?_
    refine g_aload_n dX7_fault_121 rfl ?_
    refine g_getI (ji := 0) rfl dX7_fault_122 fX7_58 rfl rfl (by decide) ?_
    rw [h.N]
    refine g_icmp_ge (tgt := 148) dX7_fault_125 (by decide) (by omega) (by omega) (fun h125 => ?_) (fun h125 => ?_)
    · refine g_ldc dX7_fault_148 kX7_146 ?_
      exact g_iret dX7_fault_150 trivial ⟨by unfold fltV; rw [h0, h1, if_neg (by decide), if_neg (by decide), if_neg (by omega), if_neg (by omega), if_neg (by omega), loose_no (by omega) (fun q q0 q1 => hf q q0 (by omega)), if_neg (by decide)]; rfl, h, hc⟩
    · refine g_aload_n dX7_fault_128 rfl ?_
      refine g_iload_n dX7_fault_129 rfl ?_
      refine g_pV1 dX7_fault_130 qX7_143 rfl (by decide) (by decide) (Nat.le_of_ble_eq_true rfl) (c_isLoose hi h k k0 (by omega)) ?_
      refine g_ifb_eq (tgt := 142) dX7_fault_133 (by decide) (fun h133 => ?_) (fun h133 => ?_)
      · refine g_iinc dX7_fault_142 rfl (by decide) ?_
        refine g_goto (tgt := 120) dX7_fault_145 (by decide) ?_
        exact ih (k + 1) (by omega) (by omega) (by omega) (fun q q0 q1 => by
          by_cases hq : q = k
          · rw [hq]; omega
          · exact hf q q0 (by omega))
      · refine g_sipush (v := 400) dX7_fault_136 (by decide) ?_
        refine g_iload_n dX7_fault_139 rfl ?_
        refine g_iadd dX7_fault_140 ?_
        exact g_iret dX7_fault_141 trivial ⟨by unfold fltV; rw [h0, h1, if_neg (by decide), if_neg (by decide), if_neg (by omega), if_neg (by omega), if_neg (by omega), loose_at k0 (by omega) h133 hf, if_pos k0], h, hc⟩

theorem c_fault_re {b : Int} {V σ τ : Mem} (hi : Inv b V) (h : RM V τ) (hc : cac σ τ) (h0 : bentAt V 0 = -1) (h1 : bentAt V 1 = -1) : Go 41 mX7_fault 56 [some (aR 30), some (aI 2), some (aI (V 0 0))] [] τ (EC V σ (aI (fltV V))) := by
  have hN := hi.N2
  have hb := hi.b
  have m1 := midV_b hi
  have m2 := sprV_b hi 1
  have m3 := sprV_b hi (-1)
  have l2 := hi.lim 2 (by decide) (by decide)
  have l3 := hi.lim 3 (by decide) (by decide)
  have ha := ab_b m1.1 m1.2
  refine g_aload_n dX7_fault_56 rfl ?_
  refine g_eV0 dX7_fault_57 qX7_126 rfl (by decide) (by decide) (Nat.le_of_ble_eq_true rfl) (c_middle hi h) ?_
  intro τ hq
  obtain ⟨h, hc1⟩ := hq
  replace hc := hc.trans hc1
  refine g_pS1 dX7_fault_60 sX7_122 (by decide) (Nat.le_of_ble_eq_true rfl) (c_size _ (by omega)) ?_
  refine g_aload_n dX7_fault_63 rfl ?_
  refine g_getR dX7_fault_64 fX7_29 rfl rfl (by decide) ?_
  refine g_iconst dX7_fault_67 ?_
  refine g_iaload dX7_fault_68 rfl (by decide) (by omega) (by omega) (by decide) ?_
  rw [h.lim _ (by omega) (by omega)]
  refine g_i2l dX7_fault_69 (by omega) ?_
  refine g_lcmp_le (tgt := 78) dX7_fault_70 dX7_fault_71 (by decide) (by omega) (by omega) (fun h70 => ?_) (fun h70 => ?_)
  · refine g_aload_n dX7_fault_78 rfl ?_
    refine g_iconst dX7_fault_79 ?_
    refine g_pV1 dX7_fault_80 qX7_134 rfl (by decide) (by decide) (Nat.le_of_ble_eq_true rfl) (c_spread hi h 1 (by omega)) ?_
    refine g_aload_n dX7_fault_83 rfl ?_
    refine g_getR dX7_fault_84 fX7_29 rfl rfl (by decide) ?_
    refine g_iconst dX7_fault_87 ?_
    refine g_iaload dX7_fault_88 rfl (by decide) (by omega) (by omega) (by decide) ?_
    rw [h.lim _ (by omega) (by omega)]
    refine g_i2l dX7_fault_89 (by omega) ?_
    refine g_lcmp_le (tgt := 98) dX7_fault_90 dX7_fault_91 (by decide) (by omega) (by omega) (fun h90 => ?_) (fun h90 => ?_)
    · refine g_aload_n dX7_fault_98 rfl ?_
      refine g_iconst dX7_fault_99 ?_
      refine g_pV1 dX7_fault_100 qX7_134 rfl (by decide) (by decide) (Nat.le_of_ble_eq_true rfl) (c_spread hi h (-1) (by omega)) ?_
      refine g_aload_n dX7_fault_103 rfl ?_
      refine g_getR dX7_fault_104 fX7_29 rfl rfl (by decide) ?_
      refine g_iconst dX7_fault_107 ?_
      refine g_iaload dX7_fault_108 rfl (by decide) (by omega) (by omega) (by decide) ?_
      rw [h.lim _ (by omega) (by omega)]
      refine g_i2l dX7_fault_109 (by omega) ?_
      refine g_lcmp_le (tgt := 118) dX7_fault_110 dX7_fault_111 (by decide) (by omega) (by omega) (fun h110 => ?_) (fun h110 => ?_)
      · refine g_iconst dX7_fault_118 ?_
        refine g_istore_n (i := 1) dX7_fault_119 rfl (by decide) ?_
        exact c_fault_lo hi h0 h1 (by omega) (by omega) (by omega) h hc 33 0 (by omega) (by omega) (by omega) (fun q q0 q1 => by omega)
      · refine g_sipush (v := 301) dX7_fault_114 (by decide) ?_
        exact g_iret dX7_fault_117 trivial ⟨by unfold fltV; rw [h0, h1, if_neg (by decide), if_neg (by decide), if_neg (by omega), if_neg (by omega), if_pos (by omega)], h, hc⟩
    · refine g_sipush (v := 300) dX7_fault_94 (by decide) ?_
      exact g_iret dX7_fault_97 trivial ⟨by unfold fltV; rw [h0, h1, if_neg (by decide), if_neg (by decide), if_neg (by omega), if_pos (by omega)], h, hc⟩
  · refine g_sipush (v := 200) dX7_fault_74 (by decide) ?_
    exact g_iret dX7_fault_77 trivial ⟨by unfold fltV; rw [h0, h1, if_neg (by decide), if_neg (by decide), if_pos (by omega)], h, hc⟩

theorem c_fault {b : Int} {V σ : Mem} (hi : Inv b V) (h : RM V σ) : Ret 41 mX7_fault [aR 30] σ (EC V σ (aI (fltV V))) := by
  have hN := hi.N2
  refine Ret.of [some (aR 30), none, none] rfl (plainFor_of_name (by decide)) (Nat.le_of_ble_eq_true rfl) ?_
  refine g_iconst dX7_fault_0 ?_
  refine g_istore_n (i := 1) dX7_fault_1 rfl (by decide) ?_
  refine g_iload_n dX7_fault_2 rfl ?_
  refine g_iconst dX7_fault_3 ?_
  refine g_icmp_ge (tgt := 56) dX7_fault_4 (by decide) (by omega) (by omega) (fun h4 => absurd h4 (by decide)) (fun h4 => ?_)
  refine g_iconst dX7_fault_7 ?_
  refine g_istore_n (i := 2) dX7_fault_8 rfl (by decide) ?_
  refine c_fault_in (σ := σ) hi 0 (by decide) (fun p τ hp p0 h hc => ⟨by unfold fltV; rw [hp, if_pos p0]; simp, h, hc⟩) (fun τ h0 h hc => ?_) 33 0 σ (by omega) (by omega) (by omega) h cac.rfl (fun q q0 q1 => by omega)
  refine g_iinc dX7_fault_50 rfl (by decide) ?_
  refine g_goto (tgt := 2) dX7_fault_53 (by decide) ?_
  refine g_iload_n dX7_fault_2 rfl ?_
  refine g_iconst dX7_fault_3 ?_
  refine g_icmp_ge (tgt := 56) dX7_fault_4 (by decide) (by omega) (by omega) (fun h4 => absurd h4 (by decide)) (fun h4 => ?_)
  refine g_iconst dX7_fault_7 ?_
  refine g_istore_n (i := 2) dX7_fault_8 rfl (by decide) ?_
  refine c_fault_in (σ := σ) hi 1 (by decide) (fun p τ hp p0 h hc => ⟨by unfold fltV; rw [h0, hp, if_neg (by decide), if_pos p0]; simp, h, hc⟩) (fun τ h1 h hc => ?_) 33 0 τ (by omega) (by omega) (by omega) h hc (fun q q0 q1 => by omega)
  refine g_iinc dX7_fault_50 rfl (by decide) ?_
  refine g_goto (tgt := 2) dX7_fault_53 (by decide) ?_
  refine g_iload_n dX7_fault_2 rfl ?_
  refine g_iconst dX7_fault_3 ?_
  refine g_icmp_ge (tgt := 56) dX7_fault_4 (by decide) (by omega) (by omega) (fun h4 => ?_) (fun h4 => absurd h4 (by decide))
  exact c_fault_re hi h hc h0 h1

theorem k_why {b : Int} {V σ : Mem} (hi : Inv b V) (h : RM V σ)    : Ret 41 mX7_why [aR 30] σ (OM σ (p_why V)) := by
  refine Ret.of [some (aR 30)] rfl (plainFor_of_name (by decide)) (Nat.le_of_ble_eq_true rfl) ?_
  have hc : cac σ σ := cac.rfl
  refine g_aload_n dX7_why_0 rfl ?_
  refine g_eV0 dX7_why_1 qX7_150 rfl (by decide) (by decide) (Nat.le_of_ble_eq_true rfl) (c_fault hi h) ?_
  intro τ hq
  obtain ⟨h, hc1⟩ := hq
  replace hc := hc.trans hc1
  exact g_iret dX7_why_4 trivial (by exact ⟨rfl, h, hc.keepM⟩)

theorem k_state_lp {b : Int} {V σ : Mem} (hi : Inv b V) (h : RM V σ) : ∀ (n : Nat) (k a : Int), 0 ≤ k → k ≤ V 0 0 → V 0 0 - k < n → a = cntN (fun j => decide (V 2 j < 0)) k.toNat → Go 41 mX7_state 68 [some (aR 30), some (aI 4), some (aI a), some (aI k)] [] σ (OM σ (p_state V 4)) := by
  intro n
  induction n with
  | zero => intros; omega
  | succ n ih =>
    intro k a k0 k1 kn ha
    have hN := hi.N2
    have hcs := cntN_succ (P := fun j => decide (V 2 j < 0)) k0
    refine g_iload_n dX7_state_68 rfl ?_
    refine g_aload_n dX7_state_69 rfl ?_
    refine g_getI (ji := 0) rfl dX7_state_70 fX7_58 rfl rfl (by decide) ?_
    rw [h.N]
    refine g_icmp_ge (tgt := 98) dX7_state_73 (by decide) (by omega) (by omega) (fun h73 => ?_) (fun h73 => ?_)
    · refine g_iload_n dX7_state_98 rfl ?_
      exact g_iret dX7_state_99 trivial (OM.of (q := (a, V)) (by unfold p_state; rw [if_neg (by decide), if_neg (by decide), if_neg (by decide), if_neg (by decide), if_pos rfl, ha, show V 0 0 = k by omega]) rfl h keepM.rfl)
    · refine g_iload_n dX7_state_76 rfl ?_
      refine g_aload_n dX7_state_77 rfl ?_
      refine g_iload_n dX7_state_78 rfl ?_
      refine g_pV1 dX7_state_79 qX7_143 rfl (by decide) (by decide) (Nat.le_of_ble_eq_true rfl) (c_isLoose hi h k k0 (by omega)) ?_
      refine g_ifb_eq (tgt := 89) dX7_state_82 (by decide) (fun h82 => ?_) (fun h82 => ?_)
      · refine g_iconst dX7_state_89 ?_
        refine g_iadd dX7_state_90 ?_
        refine g_istore_n (i := 2) dX7_state_91 rfl (by decide) ?_
        refine g_iinc dX7_state_92 rfl (by decide) ?_
        refine g_goto (tgt := 68) dX7_state_95 (by decide) ?_
        exact ih (k + 1) _ (by omega) (by omega) (by omega) (by rw [hcs, ← ha]; first | (rw [if_pos (by simpa using h82)]) | (rw [if_neg (by simpa using h82)]))
      · refine g_iconst dX7_state_85 ?_
        refine g_goto (tgt := 90) dX7_state_86 (by decide) ?_
        refine g_iadd dX7_state_90 ?_
        refine g_istore_n (i := 2) dX7_state_91 rfl (by decide) ?_
        refine g_iinc dX7_state_92 rfl (by decide) ?_
        refine g_goto (tgt := 68) dX7_state_95 (by decide) ?_
        exact ih (k + 1) _ (by omega) (by omega) (by omega) (by rw [hcs, ← ha]; first | (rw [if_pos (by simpa using h82)]) | (rw [if_neg (by simpa using h82)]))

theorem flt_32 {b : Int} {V : Mem} (hi : Inv b V) : i32 (fltV V) := by
  have hN := hi.N2
  have h1 : -1 ≤ bentAt V 0 ∧ bentAt V 0 ≤ 32 := by unfold bentAt; rcases firstI_cases (fun p => decide (V 14 (0 : Nat) < ab (rdg V 0 p))) (V 0 0).toNat 0 (by decide) with h | h <;> omega
  have h2 : -1 ≤ bentAt V 1 ∧ bentAt V 1 ≤ 32 := by unfold bentAt; rcases firstI_cases (fun p => decide (V 14 (1 : Nat) < ab (rdg V 1 p))) (V 0 0).toNat 0 (by decide) with h | h <;> omega
  have h3 : -1 ≤ looseAt V ∧ looseAt V ≤ 32 := by unfold looseAt; rcases firstI_cases (fun j => decide (V 2 j < 0)) (V 0 0).toNat 0 (by decide) with h | h <;> omega
  unfold fltV cNone
  generalize bentAt V 0 = x1 at *
  generalize bentAt V 1 = x2 at *
  generalize looseAt V = x3 at *
  repeat' split
  all_goals omega

theorem k_state {b : Int} {V σ : Mem} (hi : Inv b V) (h : RM V σ) (w : Int) (i_w : i32 w) : Ret 41 mX7_state [aR 30, aI w] σ (OM σ (p_state V w)) := by
  have hN := hi.N2
  have hc : cac σ σ := cac.rfl
  refine Ret.of [some (aR 30), some (aI w), none, none] rfl (plainFor_of_name (by decide)) (Nat.le_of_ble_eq_true rfl) ?_
  refine g_iconst dX7_state_0 ?_
  refine g_istore_n (i := 2) dX7_state_1 rfl (by decide) ?_
  refine g_iload_n dX7_state_2 rfl ?_
  by_cases hw0 : w = 0
  · subst hw0
    refine g_tabIn (off := 37) (tgt := 40) dX7_state_3 (by omega) (by omega) (by omega) rfl (by decide) ?_
    refine g_aload_n dX7_state_40 rfl ?_
    refine g_eV0 dX7_state_41 qX7_126 rfl (by decide) (by decide) (Nat.le_of_ble_eq_true rfl) (c_middle hi h) ?_
    intro τ hq
    obtain ⟨h, hc1⟩ := hq
    replace hc := hc.trans hc1
    refine g_l2i dX7_state_44 ?_
    exact g_iret dX7_state_45 trivial (OM.of (q := (midV V, V)) (by unfold p_state; rw [if_pos rfl]) rfl h hc.keepM)
  by_cases hw1 : w = 1
  · subst hw1
    refine g_tabIn (off := 43) (tgt := 46) dX7_state_3 (by omega) (by omega) (by omega) rfl (by decide) ?_
    refine g_aload_n dX7_state_46 rfl ?_
    refine g_iconst dX7_state_47 ?_
    refine g_pV1 dX7_state_48 qX7_134 rfl (by decide) (by decide) (Nat.le_of_ble_eq_true rfl) (c_spread hi h 1 (by omega)) ?_
    refine g_l2i dX7_state_51 ?_
    exact g_iret dX7_state_52 trivial (OM.of (q := (sprV V 1, V)) (by unfold p_state; rw [if_neg (by omega), if_pos rfl]) rfl h keepM.rfl)
  by_cases hw2 : w = 2
  · subst hw2
    refine g_tabIn (off := 50) (tgt := 53) dX7_state_3 (by omega) (by omega) (by omega) rfl (by decide) ?_
    refine g_aload_n dX7_state_53 rfl ?_
    refine g_iconst dX7_state_54 ?_
    refine g_pV1 dX7_state_55 qX7_134 rfl (by decide) (by decide) (Nat.le_of_ble_eq_true rfl) (c_spread hi h (-1) (by omega)) ?_
    refine g_l2i dX7_state_58 ?_
    exact g_iret dX7_state_59 trivial (OM.of (q := (sprV V (-1), V)) (by unfold p_state; rw [if_neg (by omega), if_neg (by omega), if_pos rfl]) rfl h keepM.rfl)
  by_cases hw3 : w = 3
  · subst hw3
    refine g_tabIn (off := 57) (tgt := 60) dX7_state_3 (by omega) (by omega) (by omega) rfl (by decide) ?_
    refine g_aload_n dX7_state_60 rfl ?_
    refine g_eV0 dX7_state_61 qX7_147 rfl (by decide) (by decide) (Nat.le_of_ble_eq_true rfl) (c_worst hi h) ?_
    intro τ hq
    obtain ⟨h, hc1⟩ := hq
    replace hc := hc.trans hc1
    refine g_l2i dX7_state_64 ?_
    exact g_iret dX7_state_65 trivial (OM.of (q := (wstV V, V)) (by unfold p_state; rw [if_neg (by omega), if_neg (by omega), if_neg (by omega), if_pos rfl]) rfl h hc.keepM)
  by_cases hw4 : w = 4
  · subst hw4
    refine g_tabIn (off := 63) (tgt := 66) dX7_state_3 (by omega) (by omega) (by omega) rfl (by decide) ?_
    refine g_iconst dX7_state_66 ?_
    refine g_istore_n (i := 3) dX7_state_67 rfl (by decide) ?_
    exact k_state_lp hi h 33 0 0 (by omega) (by omega) (by omega) rfl
  by_cases hw5 : w = 5
  · subst hw5
    refine g_tabIn (off := 97) (tgt := 100) dX7_state_3 (by omega) (by omega) (by omega) rfl (by decide) ?_
    refine g_aload_n dX7_state_100 rfl ?_
    refine g_eV0 dX7_state_101 qX7_150 rfl (by decide) (by decide) (Nat.le_of_ble_eq_true rfl) (c_fault hi h) ?_
    intro τ hq
    obtain ⟨h, hc1⟩ := hq
    replace hc := hc.trans hc1
    have hfb := flt_32 hi
    refine g_ldc dX7_state_104 kX7_146 ?_
    refine g_icmp_ne (tgt := 113) dX7_state_106 (by decide) (by omega) (by omega) (fun h106 => ?_) (fun h106 => ?_)
    · refine g_iconst dX7_state_113 ?_
      exact g_iret dX7_state_114 trivial (by first | exact (OM.of (q := (1, V)) (by unfold p_state; rw [if_neg (by omega), if_neg (by omega), if_neg (by omega), if_neg (by omega), if_neg (by omega), if_pos rfl]; rw [b2i_1 (by first | exact h106 | omega)]) rfl h hc.keepM) | exact (OM.of (q := (0, V)) (by unfold p_state; rw [if_neg (by omega), if_neg (by omega), if_neg (by omega), if_neg (by omega), if_neg (by omega), if_pos rfl]; rw [b2i_0 (by first | exact h106 | omega)]) rfl h hc.keepM))
    · refine g_iconst dX7_state_109 ?_
      refine g_goto (tgt := 114) dX7_state_110 (by decide) ?_
      exact g_iret dX7_state_114 trivial (by first | exact (OM.of (q := (1, V)) (by unfold p_state; rw [if_neg (by omega), if_neg (by omega), if_neg (by omega), if_neg (by omega), if_neg (by omega), if_pos rfl]; rw [b2i_1 (by first | exact h106 | omega)]) rfl h hc.keepM) | exact (OM.of (q := (0, V)) (by unfold p_state; rw [if_neg (by omega), if_neg (by omega), if_neg (by omega), if_neg (by omega), if_neg (by omega), if_pos rfl]; rw [b2i_0 (by first | exact h106 | omega)]) rfl h hc.keepM))
  refine g_tabOut (tgt := 115) dX7_state_3 (by omega) (by omega) (by decide) ?_
  refine g_ldc dX7_state_115 kX7_78 ?_
  exact g_iret dX7_state_117 trivial (OM.of (q := (cBad, V)) (by unfold p_state; rw [if_neg (by omega), if_neg (by omega), if_neg (by omega), if_neg (by omega), if_neg (by omega), if_neg (by omega)]) rfl h keepM.rfl)
