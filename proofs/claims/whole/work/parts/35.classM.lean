theorem RX.brk {V σ τ : Mem} {s : Int} (h : RX V σ) (hk : ∀ a, a ≠ 11 → a ≠ 12 → τ a = σ a) (h1 : ∀ j, 0 ≤ j → j < V 0 0 → τ 11 j = if j = s then 4 else V 1 j) (h2 : ∀ j, 0 ≤ j → j < V 0 0 → τ 12 j = if j = s then 0 else if V 1 j ≠ 4 then brkP V s j else V 2 j) : RX (brkV V s) τ := by
  have e : ∀ a, a ≠ 1 → a ≠ 2 → brkV V s a = V a := fun a q1 q2 => by funext j; simp [brkV, q1, q2]
  unfold RX at h ⊢
  rw [e 0 (by decide) (by decide), e 7 (by decide) (by decide), e 14 (by decide) (by decide), e 15 (by decide) (by decide), e 16 (by decide) (by decide), e 17 (by decide) (by decide), e 18 (by decide) (by decide), hk 10 (by decide) (by decide), hk 41 (by decide) (by decide), hk 9 (by decide) (by decide), hk 22 (by decide) (by decide), hk 26 (by decide) (by decide), hk 27 (by decide) (by decide), hk 28 (by decide) (by decide), hk 29 (by decide) (by decide)]
  obtain ⟨g1, g2, g3, g4, g5, g6, g7, g8, g9, g10⟩ := h
  refine ⟨g1, fun j a c => ⟨?_, ?_⟩, fun r hr j a c => ?_, g4, fun t ht d a c => ?_, g6, g7, g8, g9, ?_⟩
  · rw [h1 j a c]; simp [brkV]
  · rw [h2 j a c]; simp [brkV, a, c]
  · unfold unb
    rw [e (3 + r) (by omega) (by omega), e (5 + r) (by omega) (by omega), e 0 (by decide) (by decide), hk (20 + r) (by omega) (by omega), hk (14 + r) (by omega) (by omega), hk (17 + r) (by omega) (by omega)]
    exact g3 r hr j a c
  · rw [e (8 + t) (by omega) (by omega), hk (3 + t) (by omega) (by omega)]; exact g5 t ht d a c
  · rw [hk 100 (by decide) (by decide), hk 101 (by decide) (by decide), hk 102 (by decide) (by decide), hk 103 (by decide) (by decide), hk 200 (by decide) (by decide), hk 201 (by decide) (by decide), hk 202 (by decide) (by decide), hk 203 (by decide) (by decide)]
    exact g10

theorem x_pab {b : Int} {V σ : Mem} (hi : Inv b V) (h : XS V σ) (s j : Int) (s0 : 0 ≤ s) (s1 : s < V 0 0) (j0 : 0 ≤ j) (j1 : j < V 0 0) (hs : σ 12 s = V 2 s) (hj : σ 12 j = V 2 j) : RetV 41 mX6_pullAfterBreak [aR 0, aI s, aI j] σ (aL (brkP V s j)) := by
  have hN := hi.N2
  have hb := brk_b hi s j s0 s1 j0 j1
  have hp := hi.pull s s0 s1
  have hpj := hi.pull j j0 j1
  have hbb := hi.b
  have hst := stp_b hi.N s0 s1 j0 j1
  have tb : -1000 ≤ V 12 (stp (V 0 0) s j) ∧ V 12 (stp (V 0 0) s j) ≤ 1000 ∧ _ := hi.tab 4 (by decide) _ hst.1 (by omega)
  have ht : σ 7 (stp (V 0 0) s j) = V 12 (stp (V 0 0) s j) := h.tab 4 (by decide) _ hst.1 (by omega)
  refine Ret.of [some (aR 0), some (aI s), some (aI j), none, none] rfl (plainFor_of_name (by decide)) (Nat.le_of_ble_eq_true rfl) ?_
  refine g_aload_n dX6_pullAfterBreak_0 rfl ?_
  refine g_getR dX6_pullAfterBreak_1 fX6_19 rfl rfl (by decide) ?_
  refine g_getR dX6_pullAfterBreak_4 fX6_125 rfl rfl (by decide) ?_
  refine g_iload_n dX6_pullAfterBreak_7 rfl ?_
  refine g_iaload dX6_pullAfterBreak_8 rfl (by decide) (by omega) (by omega) (by decide) ?_
  rw [hs]
  refine g_i2l dX6_pullAfterBreak_9 (by omega) ?_
  refine g_aload_n dX6_pullAfterBreak_10 rfl ?_
  refine g_getR dX6_pullAfterBreak_11 fX6_10 rfl rfl (by decide) ?_
  refine g_getR dX6_pullAfterBreak_14 fX6_106 rfl rfl (by decide) ?_
  refine g_iconst dX6_pullAfterBreak_17 ?_
  refine g_aaload (q := 7) dX6_pullAfterBreak_18 rfl (by decide) (by decide) (by decide) (by decide) rfl ?_
  refine g_aload_n dX6_pullAfterBreak_19 rfl ?_
  refine g_getR dX6_pullAfterBreak_20 fX6_19 rfl rfl (by decide) ?_
  refine g_iload_n dX6_pullAfterBreak_23 rfl ?_
  refine g_iload_n dX6_pullAfterBreak_24 rfl ?_
  refine g_pV2 dX6_pullAfterBreak_25 qX6_255 rfl (by decide) (by decide) (Nat.le_of_ble_eq_true rfl) (x_steps hi.i0 h s j s0 s1 j0 j1) ?_
  refine g_iaload dX6_pullAfterBreak_28 rfl (by decide) (by omega) (by omega) (by decide) ?_
  rw [ht]
  refine g_i2l dX6_pullAfterBreak_29 (by omega) ?_
  refine g_lmul dX6_pullAfterBreak_30 ?_
  refine g_lstore_n (i := 3) dX6_pullAfterBreak_31 rfl (by decide) ?_
  refine g_aload_n dX6_pullAfterBreak_32 rfl ?_
  refine g_getR dX6_pullAfterBreak_33 fX6_19 rfl rfl (by decide) ?_
  refine g_getR dX6_pullAfterBreak_36 fX6_125 rfl rfl (by decide) ?_
  refine g_iload_n dX6_pullAfterBreak_39 rfl ?_
  refine g_iaload dX6_pullAfterBreak_40 rfl (by decide) (by omega) (by omega) (by decide) ?_
  rw [hj]
  refine g_i2l dX6_pullAfterBreak_41 (by omega) ?_
  refine g_lload_n dX6_pullAfterBreak_42 rfl ?_
  refine g_ldc2 dX6_pullAfterBreak_43 lX6_258 ?_
  refine g_pS2 dX6_pullAfterBreak_46 sX6_260 (by decide) (Nat.le_of_ble_eq_true rfl) (c_fdL (by omega) (by omega) (by omega)) ?_
  refine g_ladd dX6_pullAfterBreak_49 ?_
  exact g_lret dX6_pullAfterBreak_50 trivial ⟨rfl, rfl⟩

theorem x_btm_lp {b : Int} {V σ : Mem} (hi : Inv b V) (h : RX V σ) (s : Int) (s0 : 0 ≤ s) (s1 : s < V 0 0) : ∀ (fu : Nat) (k : Int), 0 ≤ k → k ≤ V 0 0 → V 0 0 - k < fu → (∀ j, 0 ≤ j → j < k → (decide (j ≠ s) && decide (V 1 j ≠ 4) && decide (100000000 < ab (brkP V s j))) = false) → Go 41 mX6_breaksTooMuch 2 [some (aR 0), some (aI s), some (aI k)] [] σ (fun o τ => o = some (aI (b2i (0 ≤ brkBad V s))) ∧ τ = σ) := by
  intro fu
  induction fu with
  | zero => intros; omega
  | succ fu ih =>
    intro k k0 k1 kn hf
    have hN := hi.N2
    have hbb := hi.b
    refine g_iload_n dX6_breaksTooMuch_2 rfl ?_
    refine g_aload_n dX6_breaksTooMuch_3 rfl ?_
    refine g_getR dX6_breaksTooMuch_4 fX6_19 rfl rfl (by decide) ?_
    refine g_getI (ji := 6) rfl dX6_breaksTooMuch_7 fX6_203 rfl rfl (by decide) ?_
    rw [h.N]
    refine g_icmp_ge (tgt := 53) dX6_breaksTooMuch_10 (by decide) (by omega) (by omega) (fun h10 => ?_) (fun h10 => ?_)
    · refine g_iconst dX6_breaksTooMuch_53 ?_
      exact g_iret dX6_breaksTooMuch_54 (by first | exact Or.inl rfl | exact Or.inr rfl | exact b2i_ok) ⟨by rw [b2i_0 (by rw [show brkBad V s = -1 from firstI_no (by decide) (fun j j0 j1 => hf j j0 (by omega))]; decide)], rfl⟩
    · have hkN : k < V 0 0 := h10
      have hbk := brk_b hi s k s0 s1 k0 hkN
      have hab := ab_b hbk.2.1 hbk.2.2
      have e1 : 0 ≤ k + 1 := by omega
      have e2 : k + 1 ≤ V 0 0 := by omega
      have e3 : V 0 0 - (k + 1) < fu := by omega
      have hfx : (decide (k ≠ s) && decide (V 1 k ≠ 4) && decide (100000000 < ab (brkP V s k))) = false → ∀ j, 0 ≤ j → j < k + 1 → (decide (j ≠ s) && decide (V 1 j ≠ 4) && decide (100000000 < ab (brkP V s j))) = false := fun hz j j0 j1 => by
        by_cases hj : j = k
        · rw [hj]; exact hz
        · exact hf j j0 (by omega)
      refine g_iload_n dX6_breaksTooMuch_13 rfl ?_
      refine g_iload_n dX6_breaksTooMuch_14 rfl ?_
      refine g_icmp_eq (tgt := 47) dX6_breaksTooMuch_15 (by decide) (by omega) (by omega) (fun h15 => g_iinc dX6_breaksTooMuch_47 rfl (by decide) (g_goto (tgt := 2) dX6_breaksTooMuch_50 (by decide) (ih (k + 1) e1 e2 e3 (hfx (by simp [h15]))))) (fun h15 => ?_)
      refine g_aload_n dX6_breaksTooMuch_18 rfl ?_
      refine g_getR dX6_breaksTooMuch_19 fX6_19 rfl rfl (by decide) ?_
      refine g_iload_n dX6_breaksTooMuch_22 rfl ?_
      refine g_pV1 dX6_breaksTooMuch_23 qX6_75 rfl (by decide) (by decide) (Nat.le_of_ble_eq_true rfl) (x_isGone hi.i0 h.r0 k k0 hkN) ?_
      refine g_ifb_ne (tgt := 47) dX6_breaksTooMuch_26 (by decide) (fun h26 => g_iinc dX6_breaksTooMuch_47 rfl (by decide) (g_goto (tgt := 2) dX6_breaksTooMuch_50 (by decide) (ih (k + 1) e1 e2 e3 (hfx (by simp [h26]))))) (fun h26 => ?_)
      refine g_aload_n dX6_breaksTooMuch_29 rfl ?_
      refine g_iload_n dX6_breaksTooMuch_30 rfl ?_
      refine g_iload_n dX6_breaksTooMuch_31 rfl ?_
      refine g_pV2 dX6_breaksTooMuch_32 qX6_206 rfl (by decide) (by decide) (Nat.le_of_ble_eq_true rfl) (x_pab hi h.r0 s k s0 s1 k0 hkN (h.pull s s0 s1) (h.pull k k0 hkN)) ?_
      refine g_pS1 dX6_breaksTooMuch_35 sX6_264 (by decide) (Nat.le_of_ble_eq_true rfl) (c_absL (by omega)) ?_
      show Go 41 mX6_breaksTooMuch _ _ (aL (ab (brkP V s k)) :: _) _ _
      refine g_ldc2 dX6_breaksTooMuch_38 lX6_268 ?_
      refine g_lcmp_le (tgt := 47) dX6_breaksTooMuch_41 dX6_breaksTooMuch_42 (by decide) (by omega) (by omega) (fun h41 => ?_) (fun h41 => ?_)
      · refine g_iinc dX6_breaksTooMuch_47 rfl (by decide) ?_
        refine g_goto (tgt := 2) dX6_breaksTooMuch_50 (by decide) ?_
        exact ih (k + 1) e1 e2 e3 (hfx (by simp; omega))
      · refine g_iconst dX6_breaksTooMuch_45 ?_
        exact g_iret dX6_breaksTooMuch_46 (by first | exact Or.inl rfl | exact Or.inr rfl | exact b2i_ok) ⟨by rw [b2i_1 (by rw [show brkBad V s = k from firstI_eq (by decide) k0 (by omega) (by simp [h15, h26]; omega) hf]; exact k0)], rfl⟩

theorem x_btm {b : Int} {V σ : Mem} (hi : Inv b V) (h : RX V σ) (s : Int) (s0 : 0 ≤ s) (s1 : s < V 0 0) : RetV 41 mX6_breaksTooMuch [aR 0, aI s] σ (aI (b2i (0 ≤ brkBad V s))) := by
  refine Ret.of [some (aR 0), some (aI s), none] rfl (plainFor_of_name (by decide)) (Nat.le_of_ble_eq_true rfl) ?_
  have hN := hi.N2
  refine g_iconst dX6_breaksTooMuch_0 ?_
  refine g_istore_n (i := 2) dX6_breaksTooMuch_1 rfl (by decide) ?_
  exact x_btm_lp hi h s s0 s1 33 0 (by omega) (by omega) (by omega) (fun j j0 j1 => by omega)

theorem y_snap_lp {b : Int} {V σ : Mem} (hi : Inv b V) (h : RX V σ) (s : Int) (s0 : 0 ≤ s) (s1 : s < V 0 0) (hp : p_snap V s = (V 2 s, brkV V s)) : ∀ (fu : Nat) (k : Int) (τ : Mem), 0 ≤ k → k ≤ V 0 0 → V 0 0 - k < fu → (∀ a, a ≠ 12 → τ a = σ a) → (∀ j, 0 ≤ j → j < V 0 0 → τ 12 j = if j < k ∧ j ≠ s ∧ V 1 j ≠ 4 then brkP V s j else V 2 j) → Go 41 mX6_snap 48 [some (aR 0), some (aI s), some (aI (V 2 s)), some (aI k)] [] τ (OX σ (p_snap V s)) := by
  intro fu
  induction fu with
  | zero => intros; omega
  | succ fu ih =>
    intro k τ k0 k1 kn t1 t2
    have hN := hi.N2
    have hbb := hi.b
    have h0 : XS V τ := h.r0.keep (fun a ha => t1 a (by omega))
    refine g_iload_n dX6_snap_48 rfl ?_
    refine g_aload_n dX6_snap_49 rfl ?_
    refine g_getR dX6_snap_50 fX6_19 rfl rfl (by decide) ?_
    refine g_getI (ji := 6) rfl dX6_snap_53 fX6_203 rfl rfl (by decide) ?_
    rw [h0.N]
    refine g_icmp_ge (tgt := 97) dX6_snap_56 (by decide) (by omega) (by omega) (fun h56 => ?_) (fun h56 => ?_)
    · refine g_aload_n dX6_snap_97 rfl ?_
      refine g_getR dX6_snap_98 fX6_19 rfl rfl (by decide) ?_
      refine g_getR dX6_snap_101 fX6_79 rfl rfl (by decide) ?_
      refine g_iload_n dX6_snap_104 rfl ?_
      refine g_iconst dX6_snap_105 ?_
      refine g_iastore dX6_snap_106 rfl (by decide) (by decide) (by omega) (by omega) (by decide) ?_
      refine g_aload_n dX6_snap_107 rfl ?_
      refine g_getR dX6_snap_108 fX6_19 rfl rfl (by decide) ?_
      refine g_getR dX6_snap_111 fX6_125 rfl rfl (by decide) ?_
      refine g_iload_n dX6_snap_114 rfl ?_
      refine g_iconst dX6_snap_115 ?_
      refine g_iastore dX6_snap_116 rfl (by decide) (by decide) (by omega) (by omega) (by decide) ?_
      refine g_iload_n dX6_snap_117 rfl ?_
      exact g_iret dX6_snap_118 trivial (OX.of (q := (V 2 s, brkV V s)) hp rfl (h.brk (fun a a1 a2 => by rw [up_cell a2, up_cell a1]; exact t1 a a2) (fun j j0 j1 => by
            rw [up_cell (by decide)]
            by_cases hj : j = s
            · rw [hj, up_same, if_pos rfl]
            · rw [up_ne (Or.inr hj), if_neg hj, t1 11 (by decide)]; exact h.kind j j0 j1) (fun j j0 j1 => by
            by_cases hj : j = s
            · rw [hj, up_same, if_pos rfl]
            · rw [up_ne (Or.inr hj), up_cell (by decide), if_neg hj, t2 j j0 j1]
              by_cases hg : V 1 j ≠ 4
              · rw [if_pos ⟨by omega, hj, hg⟩, if_pos hg]
              · rw [if_neg (fun q => hg q.2.2), if_neg hg])) (fun a ha => by rw [up_cell (by omega), up_cell (by omega)]; exact t1 a (by omega)))
    · have hkN : k < V 0 0 := h56
      have hbk := brk_b hi s k s0 s1 k0 hkN
      have hk2 := t2 k k0 hkN
      rw [if_neg (by omega)] at hk2
      have hs2 := t2 s s0 s1
      rw [if_neg (fun q => q.2.1 rfl)] at hs2
      have e1 : 0 ≤ k + 1 := by omega
      have e2 : k + 1 ≤ V 0 0 := by omega
      have e3 : V 0 0 - (k + 1) < fu := by omega
      have e4 : k < 32 := by omega
      have t2' : (k = s ∨ V 1 k = 4) → ∀ j, 0 ≤ j → j < V 0 0 → τ 12 j = if j < k + 1 ∧ j ≠ s ∧ V 1 j ≠ 4 then brkP V s j else V 2 j := fun hks j j0 j1 => by
        rw [t2 j j0 j1]
        by_cases hj : j = k
        · subst hj
          rw [if_neg (by omega), if_neg (by rintro ⟨-, q1, q2⟩; rcases hks with q | q; exact q1 q; exact q2 q)]
        · by_cases hc : j < k ∧ j ≠ s ∧ V 1 j ≠ 4
          · rw [if_pos hc, if_pos ⟨by omega, hc.2.1, hc.2.2⟩]
          · rw [if_neg hc, if_neg (fun q => hc ⟨by omega, q.2.1, q.2.2⟩)]
      refine g_iload_n dX6_snap_59 rfl ?_
      refine g_iload_n dX6_snap_60 rfl ?_
      refine g_icmp_eq (tgt := 91) dX6_snap_61 (by decide) (by omega) (by omega) (fun h61 => g_iinc dX6_snap_91 rfl (by decide) (g_goto (tgt := 48) dX6_snap_94 (by decide) (ih (k + 1) τ e1 e2 e3 t1 (t2' (Or.inl h61))))) (fun h61 => ?_)
      refine g_aload_n dX6_snap_64 rfl ?_
      refine g_getR dX6_snap_65 fX6_19 rfl rfl (by decide) ?_
      refine g_iload_n dX6_snap_68 rfl ?_
      refine g_pV1 dX6_snap_69 qX6_75 rfl (by decide) (by decide) (Nat.le_of_ble_eq_true rfl) (x_isGone hi.i0 h0 k k0 hkN) ?_
      refine g_ifb_ne (tgt := 91) dX6_snap_72 (by decide) (fun h72 => g_iinc dX6_snap_91 rfl (by decide) (g_goto (tgt := 48) dX6_snap_94 (by decide) (ih (k + 1) τ e1 e2 e3 t1 (t2' (Or.inr h72))))) (fun h72 => ?_)
      refine g_aload_n dX6_snap_75 rfl ?_
      refine g_getR dX6_snap_76 fX6_19 rfl rfl (by decide) ?_
      refine g_getR dX6_snap_79 fX6_125 rfl rfl (by decide) ?_
      refine g_iload_n dX6_snap_82 rfl ?_
      refine g_aload_n dX6_snap_83 rfl ?_
      refine g_iload_n dX6_snap_84 rfl ?_
      refine g_iload_n dX6_snap_85 rfl ?_
      refine g_pV2 dX6_snap_86 qX6_206 rfl (by decide) (by decide) (Nat.le_of_ble_eq_true rfl) (x_pab hi h0 s k s0 s1 k0 hkN hs2 hk2) ?_
      refine g_l2i dX6_snap_89 ?_
      refine g_iastore dX6_snap_90 rfl (by decide) (by decide) (by omega) (by omega) (by decide) ?_
      refine g_iinc dX6_snap_91 rfl (by decide) ?_
      refine g_goto (tgt := 48) dX6_snap_94 (by decide) ?_
      refine ih (k + 1) _ e1 e2 e3 (fun a a1 => by rw [up_cell a1]; exact t1 a a1) (fun j j0 j1 => ?_)
      by_cases hj : j = k
      · subst hj
        rw [up_same, if_pos ⟨by omega, h61, h72⟩]
      · rw [up_ne (Or.inr hj), t2 j j0 j1]
        by_cases hc : j < k ∧ j ≠ s ∧ V 1 j ≠ 4
        · rw [if_pos hc, if_pos ⟨by omega, hc.2.1, hc.2.2⟩]
        · rw [if_neg hc, if_neg (fun q => hc ⟨by omega, q.2.1, q.2.2⟩)]

theorem y_snap {b : Int} {V σ : Mem} (hi : Inv b V) (h : RX V σ) (s : Int) (i_s : i32 s)  : Ret 41 mX6_snap [aR 0, aI s] σ (OX σ (p_snap V s)) := by
  refine Ret.of [some (aR 0), some (aI s), none, none] rfl (plainFor_of_name (by decide)) (Nat.le_of_ble_eq_true rfl) ?_
  have hN := hi.N2
  refine g_aload_n dX6_snap_0 rfl ?_
  refine g_getR dX6_snap_1 fX6_19 rfl rfl (by decide) ?_
  refine g_iload_n dX6_snap_4 rfl ?_
  refine g_pV1 dX6_snap_5 qX6_68 rfl (by decide) (by decide) (Nat.le_of_ble_eq_true rfl) (x_hasHole hi.i0 h.r0 _ (by omega)) ?_
  refine g_ifb_ne (tgt := 14) dX6_snap_8 (by decide) (fun h8 => ?_) (fun h8 => ?_)
  · refine g_aload_n dX6_snap_14 rfl ?_
    refine g_getR dX6_snap_15 fX6_19 rfl rfl (by decide) ?_
    refine g_iload_n dX6_snap_18 rfl ?_
    refine g_pV1 dX6_snap_19 qX6_75 rfl (by decide) (by decide) (Nat.le_of_ble_eq_true rfl) (x_isGone hi.i0 h.r0 s (by omega) (by omega)) ?_
    refine g_ifb_ne (tgt := 33) dX6_snap_22 (by decide) (fun h22 => ?_) (fun h22 => ?_)
    · refine g_ldc dX6_snap_33 kX6_78 ?_
      exact g_iret dX6_snap_35 trivial (by first | exact OX.of (q := (cNo, V)) (by unfold p_snap; rw [if_neg (by omega), if_pos (Or.inl h22)]) rfl h keepX.rfl | exact OX.of (q := (cNo, V)) (by unfold p_snap; rw [if_neg (by omega), if_pos (Or.inr h30)]) rfl h keepX.rfl)
    · refine g_aload_n dX6_snap_25 rfl ?_
      refine g_iload_n dX6_snap_26 rfl ?_
      refine g_pV1 dX6_snap_27 qX6_200 rfl (by decide) (by decide) (Nat.le_of_ble_eq_true rfl) (x_btm hi h s (by omega) (by omega)) ?_
      refine g_ifb_eq (tgt := 36) dX6_snap_30 (by decide) (fun h30 => ?_) (fun h30 => ?_)
      · refine g_aload_n dX6_snap_36 rfl ?_
        refine g_getR dX6_snap_37 fX6_19 rfl rfl (by decide) ?_
        refine g_getR dX6_snap_40 fX6_125 rfl rfl (by decide) ?_
        refine g_iload_n dX6_snap_43 rfl ?_
        refine g_iaload dX6_snap_44 rfl (by decide) (by omega) (by omega) (by decide) ?_
        rw [h.pull _ (by omega) (by omega)]
        refine g_istore_n (i := 2) dX6_snap_45 rfl (by decide) ?_
        refine g_iconst dX6_snap_46 ?_
        refine g_istore_n (i := 3) dX6_snap_47 rfl (by decide) ?_
        exact y_snap_lp hi h s (by omega) (by omega) (by unfold p_snap; rw [if_neg (by omega), if_neg (by rintro (q | q); exact h22 q; exact h30 q)]) 33 0 σ (by omega) (by omega) (by omega) (fun _ _ => rfl) (fun j j0 j1 => by rw [if_neg (by omega)]; exact h.pull j j0 j1)
      · refine g_ldc dX6_snap_33 kX6_78 ?_
        exact g_iret dX6_snap_35 trivial (by first | exact OX.of (q := (cNo, V)) (by unfold p_snap; rw [if_neg (by omega), if_pos (Or.inl h22)]) rfl h keepX.rfl | exact OX.of (q := (cNo, V)) (by unfold p_snap; rw [if_neg (by omega), if_pos (Or.inr h30)]) rfl h keepX.rfl)
  · refine g_ldc dX6_snap_11 kX6_63 ?_
    exact g_iret dX6_snap_13 trivial (OX.of (q := (cBad, V)) (by unfold p_snap; rw [if_pos (by omega)]) rfl h keepX.rfl)

theorem x_pu {b : Int} {V σ : Mem} (hi : Inv b V) (h : RX V σ) (w p s : Int) (hw : 0 ≤ w ∧ w ≤ 100000) (p0 : 0 ≤ p) (p1 : p < V 0 0) (s0 : 0 ≤ s) (s1 : s < V 0 0) : RetV 41 mX6_pullUnder [aR 0, aI w, aI p, aI s] σ (aI (if V 1 s = 4 then 0 else ldP V w p s)) := by
  have hN := hi.N2
  have hld := ld_b hi w p s hw p0 p1 s0 s1
  have hp := hi.pull s s0 s1
  have hbb := hi.b
  have hst := stp_b hi.N p0 p1 s0 s1
  have tb : -1000 ≤ V 13 (stp (V 0 0) p s) ∧ V 13 (stp (V 0 0) p s) ≤ 1000 ∧ _ := hi.tab 5 (by decide) _ hst.1 (by omega)
  have ht : σ 8 (stp (V 0 0) p s) = V 13 (stp (V 0 0) p s) := h.tab 5 (by decide) _ hst.1 (by omega)
  refine Ret.of [some (aR 0), some (aI w), some (aI p), some (aI s)] rfl (plainFor_of_name (by decide)) (Nat.le_of_ble_eq_true rfl) ?_
  refine g_aload_n dX6_pullUnder_0 rfl ?_
  refine g_getR dX6_pullUnder_1 fX6_19 rfl rfl (by decide) ?_
  refine g_iload_n dX6_pullUnder_4 rfl ?_
  refine g_pV1 dX6_pullUnder_5 qX6_75 rfl (by decide) (by decide) (Nat.le_of_ble_eq_true rfl) (x_isGone hi.i0 h.r0 s s0 s1) ?_
  refine g_ifb_eq (tgt := 13) dX6_pullUnder_8 (by decide) (fun h8 => ?_) (fun h8 => ?_)
  · refine g_aload_n dX6_pullUnder_13 rfl ?_
    refine g_getR dX6_pullUnder_14 fX6_19 rfl rfl (by decide) ?_
    refine g_getR dX6_pullUnder_17 fX6_125 rfl rfl (by decide) ?_
    refine g_iload_n dX6_pullUnder_20 rfl ?_
    refine g_iaload dX6_pullUnder_21 rfl (by decide) (by omega) (by omega) (by decide) ?_
    rw [h.pull _ (by omega) (by omega)]
    refine g_iload_n dX6_pullUnder_22 rfl ?_
    refine g_aload_n dX6_pullUnder_23 rfl ?_
    refine g_getR dX6_pullUnder_24 fX6_10 rfl rfl (by decide) ?_
    refine g_getR dX6_pullUnder_27 fX6_106 rfl rfl (by decide) ?_
    refine g_iconst dX6_pullUnder_30 ?_
    refine g_aaload (q := 8) dX6_pullUnder_31 rfl (by decide) (by decide) (by decide) (by decide) rfl ?_
    refine g_aload_n dX6_pullUnder_32 rfl ?_
    refine g_getR dX6_pullUnder_33 fX6_19 rfl rfl (by decide) ?_
    refine g_iload_n dX6_pullUnder_36 rfl ?_
    refine g_iload_n dX6_pullUnder_37 rfl ?_
    refine g_pV2 dX6_pullUnder_38 qX6_255 rfl (by decide) (by decide) (Nat.le_of_ble_eq_true rfl) (x_steps hi.i0 h.r0 p s p0 p1 s0 s1) ?_
    refine g_iaload dX6_pullUnder_41 rfl (by decide) (by omega) (by omega) (by decide) ?_
    rw [ht]
    refine g_imul dX6_pullUnder_42 ?_
    refine g_sipush (v := 1000) dX6_pullUnder_43 (by decide) ?_
    refine g_pS2 dX6_pullUnder_46 sX6_270 (by decide) (Nat.le_of_ble_eq_true rfl) (c_fdI (by omega) (by omega) (by omega)) ?_
    refine g_isub dX6_pullUnder_49 ?_
    exact g_iret dX6_pullUnder_50 trivial ⟨by rw [if_neg h8]; rfl, rfl⟩
  · refine g_iconst dX6_pullUnder_11 ?_
    exact g_iret dX6_pullUnder_12 trivial ⟨by rw [if_pos h8], rfl⟩

theorem y_loaded {b : Int} {V σ : Mem} (hi : Inv b V) (h : RX V σ) (w : Int) (p : Int) (s : Int) (i_w : i32 w) (i_p : i32 p) (i_s : i32 s)  : Ret 41 mX6_loaded [aR 0, aI w, aI p, aI s] σ (OX σ (p_loaded V w p s)) := by
  refine Ret.of [some (aR 0), some (aI w), some (aI p), some (aI s)] rfl (plainFor_of_name (by decide)) (Nat.le_of_ble_eq_true rfl) ?_
  have hN := hi.N2
  refine g_iload_n dX6_loaded_0 rfl ?_
  refine g_iconst dX6_loaded_1 ?_
  refine g_ldc dX6_loaded_2 kX6_124 ?_
  refine g_pS3 dX6_loaded_4 sX6_85 (by decide) (Nat.le_of_ble_eq_true rfl) (x_lies _ _ _ (by omega) (by omega) (by omega)) ?_
  refine g_ifb_eq (tgt := 32) dX6_loaded_7 (by decide) (fun h7 => ?_) (fun h7 => ?_)
  · refine g_ldc dX6_loaded_32 kX6_63 ?_
    exact g_iret dX6_loaded_34 trivial (OX.of (q := (cBad, V)) (by unfold p_loaded; rw [if_pos (by omega)]) rfl h keepX.rfl)
  · refine g_aload_n dX6_loaded_10 rfl ?_
    refine g_getR dX6_loaded_11 fX6_19 rfl rfl (by decide) ?_
    refine g_iload_n dX6_loaded_14 rfl ?_
    refine g_pV1 dX6_loaded_15 qX6_68 rfl (by decide) (by decide) (Nat.le_of_ble_eq_true rfl) (x_hasHole hi.i0 h.r0 _ (by omega)) ?_
    refine g_ifb_eq (tgt := 32) dX6_loaded_18 (by decide) (fun h18 => ?_) (fun h18 => ?_)
    · refine g_ldc dX6_loaded_32 kX6_63 ?_
      exact g_iret dX6_loaded_34 trivial (OX.of (q := (cBad, V)) (by unfold p_loaded; rw [if_pos (by omega)]) rfl h keepX.rfl)
    · refine g_aload_n dX6_loaded_21 rfl ?_
      refine g_getR dX6_loaded_22 fX6_19 rfl rfl (by decide) ?_
      refine g_iload_n dX6_loaded_25 rfl ?_
      refine g_pV1 dX6_loaded_26 qX6_68 rfl (by decide) (by decide) (Nat.le_of_ble_eq_true rfl) (x_hasHole hi.i0 h.r0 _ (by omega)) ?_
      refine g_ifb_ne (tgt := 35) dX6_loaded_29 (by decide) (fun h29 => ?_) (fun h29 => ?_)
      · refine g_aload_n dX6_loaded_35 rfl ?_
        refine g_iload_n dX6_loaded_36 rfl ?_
        refine g_iload_n dX6_loaded_37 rfl ?_
        refine g_iload_n dX6_loaded_38 rfl ?_
        refine g_pV3 dX6_loaded_39 qX6_210 rfl (by decide) (by decide) (Nat.le_of_ble_eq_true rfl) (x_pu hi h w p s (by omega) (by omega) (by omega) (by omega) (by omega)) ?_
        exact g_iret dX6_loaded_42 trivial (OX.of (q := ((if V 1 s = 4 then 0 else ldP V w p s), V)) (by unfold p_loaded; rw [if_neg (by omega)]; split <;> rfl) rfl h keepX.rfl)
      · refine g_ldc dX6_loaded_32 kX6_63 ?_
        exact g_iret dX6_loaded_34 trivial (OX.of (q := (cBad, V)) (by unfold p_loaded; rw [if_pos (by omega)]) rfl h keepX.rfl)

theorem x_hml_lp {b : Int} {V σ : Mem} (hi : Inv b V) (h : RX V σ) (w p : Int) (hw : 0 ≤ w ∧ w ≤ 100000) (p0 : 0 ≤ p) (p1 : p < V 0 0) : ∀ (fu : Nat) (k a : Int), 0 ≤ k → k ≤ V 0 0 → V 0 0 - k < fu → a = cntN (fun j => decide (V 1 j ≠ 4) && decide (ldP V w p j < 0)) k.toNat → Go 41 mX6_howManyLooseUnder 5 [some (aR 0), some (aI w), some (aI p), some (aI a), some (aI k)] [] σ (fun o τ => o = some (aI (ldC V w p)) ∧ τ = σ) := by
  intro fu
  induction fu with
  | zero => intros; omega
  | succ fu ih =>
    intro k a k0 k1 kn ha
    have hN := hi.N2
    have hsu := cntN_succ (P := fun j => decide (V 1 j ≠ 4) && decide (ldP V w p j < 0)) k0
    rw [← ha] at hsu
    refine g_iload dX6_howManyLooseUnder_5 rfl ?_
    refine g_aload_n dX6_howManyLooseUnder_7 rfl ?_
    refine g_getR dX6_howManyLooseUnder_8 fX6_19 rfl rfl (by decide) ?_
    refine g_getI (ji := 6) rfl dX6_howManyLooseUnder_11 fX6_203 rfl rfl (by decide) ?_
    rw [h.N]
    refine g_icmp_ge (tgt := 37) dX6_howManyLooseUnder_14 (by decide) (by omega) (by omega) (fun h14 => ?_) (fun h14 => ?_)
    · refine g_iload_n dX6_howManyLooseUnder_37 rfl ?_
      exact g_iret dX6_howManyLooseUnder_38 trivial ⟨by rw [ha, show k = V 0 0 by omega]; rfl, rfl⟩
    · have hkN : k < V 0 0 := h14
      have hld := ld_b hi w p k hw p0 p1 k0 hkN
      have hcb := cntN_b (fun j => decide (V 1 j ≠ 4) && decide (ldP V w p j < 0)) k.toNat
      rw [← ha] at hcb
      have hl32 : i32 (if V 1 k = 4 then 0 else ldP V w p k) := by split <;> omega
      have e1 : 0 ≤ k + 1 := by omega
      have e2 : k + 1 ≤ V 0 0 := by omega
      have e3 : V 0 0 - (k + 1) < fu := by omega
      refine g_aload_n dX6_howManyLooseUnder_17 rfl ?_
      refine g_iload_n dX6_howManyLooseUnder_18 rfl ?_
      refine g_iload_n dX6_howManyLooseUnder_19 rfl ?_
      refine g_iload dX6_howManyLooseUnder_20 rfl ?_
      refine g_pV3 dX6_howManyLooseUnder_22 qX6_210 rfl (by decide) (by decide) (Nat.le_of_ble_eq_true rfl) (x_pu hi h w p k hw p0 p1 k0 hkN) ?_
      refine g_if_ge (tgt := 31) dX6_howManyLooseUnder_25 (by decide) (by omega) (fun h25 => ?_) (fun h25 => ?_)
      · refine g_iinc dX6_howManyLooseUnder_31 rfl (by decide) ?_
        refine g_goto (tgt := 5) dX6_howManyLooseUnder_34 (by decide) ?_
        exact ih (k + 1) _ e1 e2 e3 (by rw [hsu, if_neg (by simp; split at h25 <;> omega), Int.add_zero])
      · refine g_iinc dX6_howManyLooseUnder_28 rfl (by decide) ?_
        refine g_iinc dX6_howManyLooseUnder_31 rfl (by decide) ?_
        refine g_goto (tgt := 5) dX6_howManyLooseUnder_34 (by decide) ?_
        exact ih (k + 1) _ e1 e2 e3 (by rw [hsu, if_pos (by simp; split at h25 <;> omega)])

theorem x_hml {b : Int} {V σ : Mem} (hi : Inv b V) (h : RX V σ) (w p : Int) (hw : 0 ≤ w ∧ w ≤ 100000) (p0 : 0 ≤ p) (p1 : p < V 0 0) : RetV 41 mX6_howManyLooseUnder [aR 0, aI w, aI p] σ (aI (ldC V w p)) := by
  refine Ret.of [some (aR 0), some (aI w), some (aI p), none, none] rfl (plainFor_of_name (by decide)) (Nat.le_of_ble_eq_true rfl) ?_
  have hN := hi.N2
  refine g_iconst dX6_howManyLooseUnder_0 ?_
  refine g_istore_n (i := 3) dX6_howManyLooseUnder_1 rfl (by decide) ?_
  refine g_iconst dX6_howManyLooseUnder_2 ?_
  refine g_istore dX6_howManyLooseUnder_3 (by decide) ?_
  exact x_hml_lp hi h w p hw p0 p1 33 0 0 (by omega) (by omega) (by omega) rfl

theorem y_worstAt_lp {b : Int} {V σ : Mem} (hi : Inv b V) (h : RX V σ) (w : Int) (hw : 0 ≤ w ∧ w ≤ 100000) : ∀ (fu : Nat) (p be mo : Int) (x5 : Option AV), 0 ≤ p → p ≤ V 0 0 → V 0 0 - p < fu → (0 ≤ mo ∧ mo ≤ 32) → wrS V w p.toNat = (mo, be) → Go 41 mX6_worstAt 20 [some (aR 0), some (aI w), some (aI be), some (aI mo), some (aI p), x5] [] σ (OX σ (p_worstAt V w)) := by
  intro fu
  induction fu with
  | zero => intros; omega
  | succ fu ih =>
    intro p be mo x5 p0 p1 pn hmo hs
    have hN := hi.N2
    have hsu := wrS_succ (V := V) (w := w) p0
    have hlc := ldC_b V w p hN.2 (by omega)
    refine g_iload dX6_worstAt_20 rfl ?_
    refine g_aload_n dX6_worstAt_22 rfl ?_
    refine g_getR dX6_worstAt_23 fX6_19 rfl rfl (by decide) ?_
    refine g_getI (ji := 6) rfl dX6_worstAt_26 fX6_203 rfl rfl (by decide) ?_
    rw [h.N]
    refine g_icmp_ge (tgt := 59) dX6_worstAt_29 (by decide) (by omega) (by omega) (fun h29 => ?_) (fun h29 => ?_)
    · refine g_iload_n dX6_worstAt_59 rfl ?_
      exact g_iret dX6_worstAt_60 trivial (OX.of (q := (be, V)) (by unfold p_worstAt; rw [if_neg (by omega), show V 0 0 = p by omega, hs]) rfl h keepX.rfl)
    · have hpN : p < V 0 0 := h29
      have e1 : 0 ≤ p + 1 := by omega
      have e2 : p + 1 ≤ V 0 0 := by omega
      have e3 : V 0 0 - (p + 1) < fu := by omega
      refine g_aload_n dX6_worstAt_32 rfl ?_
      refine g_iload_n dX6_worstAt_33 rfl ?_
      refine g_iload dX6_worstAt_34 rfl ?_
      refine g_pV2 dX6_worstAt_36 qX6_214 rfl (by decide) (by decide) (Nat.le_of_ble_eq_true rfl) (x_hml hi h w p hw p0 hpN) ?_
      refine g_istore dX6_worstAt_39 (by decide) ?_
      refine g_iload dX6_worstAt_41 rfl ?_
      refine g_iload_n dX6_worstAt_43 rfl ?_
      refine g_icmp_le (tgt := 53) dX6_worstAt_44 (by decide) (by omega) (by omega) (fun h44 => ?_) (fun h44 => ?_)
      · refine g_iinc dX6_worstAt_53 rfl (by decide) ?_
        refine g_goto (tgt := 20) dX6_worstAt_56 (by decide) ?_
        exact ih (p + 1) be mo _ e1 e2 e3 hmo (by rw [hsu, hs, if_neg (by dsimp only; omega)])
      · refine g_iload dX6_worstAt_47 rfl ?_
        refine g_istore_n (i := 3) dX6_worstAt_49 rfl (by decide) ?_
        refine g_iload dX6_worstAt_50 rfl ?_
        refine g_istore_n (i := 2) dX6_worstAt_52 rfl (by decide) ?_
        refine g_iinc dX6_worstAt_53 rfl (by decide) ?_
        refine g_goto (tgt := 20) dX6_worstAt_56 (by decide) ?_
        exact ih (p + 1) p _ _ e1 e2 e3 (by omega) (by rw [hsu, hs, if_pos (by dsimp only; omega)])

theorem y_worstAt {b : Int} {V σ : Mem} (hi : Inv b V) (h : RX V σ) (w : Int) (i_w : i32 w)  : Ret 41 mX6_worstAt [aR 0, aI w] σ (OX σ (p_worstAt V w)) := by
  refine Ret.of [some (aR 0), some (aI w), none, none, none, none] rfl (plainFor_of_name (by decide)) (Nat.le_of_ble_eq_true rfl) ?_
  have hN := hi.N2
  refine g_iload_n dX6_worstAt_0 rfl ?_
  refine g_iconst dX6_worstAt_1 ?_
  refine g_ldc dX6_worstAt_2 kX6_124 ?_
  refine g_pS3 dX6_worstAt_4 sX6_85 (by decide) (Nat.le_of_ble_eq_true rfl) (x_lies _ _ _ (by omega) (by omega) (by omega)) ?_
  refine g_ifb_ne (tgt := 13) dX6_worstAt_7 (by decide) (fun h7 => ?_) (fun h7 => ?_)
  · refine g_iconst dX6_worstAt_13 ?_
    refine g_istore_n (i := 2) dX6_worstAt_14 rfl (by decide) ?_
    refine g_iconst dX6_worstAt_15 ?_
    refine g_istore_n (i := 3) dX6_worstAt_16 rfl (by decide) ?_
    refine g_iconst dX6_worstAt_17 ?_
    refine g_istore dX6_worstAt_18 (by decide) ?_
    exact y_worstAt_lp hi h w (by omega) 33 0 0 0 _ (by omega) (by omega) (by omega) (by omega) rfl
  · refine g_ldc dX6_worstAt_10 kX6_63 ?_
    exact g_iret dX6_worstAt_12 trivial (OX.of (q := (cBad, V)) (by unfold p_worstAt; rw [if_pos (by omega)]) rfl h keepX.rfl)
