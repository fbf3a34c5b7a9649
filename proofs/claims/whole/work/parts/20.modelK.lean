theorem k_few_tail {V σ τ : Mem} (h : RM V τ) (hk : keepM σ τ) (w : Int) (hw : 0 ≤ w ∧ w ≤ 4) (hf : 0 ≤ τ 30 17 ∧ τ 30 17 ≤ 2) (hv : p_fewest V w = (if w = 0 then τ 30 17 else if w < 3 then (if τ 30 17 < 1 then cNone else if w = 1 then τ 30 18 else τ 30 19) else (if τ 30 17 < 2 then cNone else if w = 3 then τ 30 20 else τ 30 21), V)) : Go 41 mX7_fewest 43 [some (aR 30), some (aI w)] [] τ (OM σ (p_fewest V w)) := by
  refine g_iload_n dX7_fewest_43 rfl ?_
  refine g_if_ne (tgt := 52) dX7_fewest_44 (by decide) (by omega) (fun h44 => ?_) (fun h44 => ?_)
  · refine g_iload_n dX7_fewest_52 rfl ?_
    refine g_iconst dX7_fewest_53 ?_
    refine g_icmp_ge (tgt := 87) dX7_fewest_54 (by decide) (by omega) (by omega) (fun h54 => ?_) (fun h54 => ?_)
    · refine g_aload_n dX7_fewest_87 rfl ?_
      refine g_getI (ji := 17) rfl dX7_fewest_88 fX7_180 rfl rfl (by decide) ?_
      refine g_iconst dX7_fewest_91 ?_
      refine g_icmp_ge (tgt := 100) dX7_fewest_92 (by decide) (by omega) (by omega) (fun h92 => ?_) (fun h92 => ?_)
      · refine g_iload_n dX7_fewest_100 rfl ?_
        refine g_iconst dX7_fewest_101 ?_
        refine g_icmp_ne (tgt := 112) dX7_fewest_102 (by decide) (by omega) (by omega) (fun h102 => ?_) (fun h102 => ?_)
        · refine g_aload_n dX7_fewest_112 rfl ?_
          refine g_getI (ji := 21) rfl dX7_fewest_113 fX7_192 rfl rfl (by decide) ?_
          exact g_iret dX7_fewest_116 trivial (by first | exact (OM.of (q := (cNone, V)) (by rw [hv, if_neg (by omega), if_neg (by omega), if_pos (by omega)]) rfl h hk) | exact (OM.of (q := (τ 30 20, V)) (by rw [hv, if_neg (by omega), if_neg (by omega), if_neg (by omega), if_pos (by omega)]) rfl h hk) | exact (OM.of (q := (τ 30 21, V)) (by rw [hv, if_neg (by omega), if_neg (by omega), if_neg (by omega), if_neg (by omega)]) rfl h hk))
        · refine g_aload_n dX7_fewest_105 rfl ?_
          refine g_getI (ji := 20) rfl dX7_fewest_106 fX7_189 rfl rfl (by decide) ?_
          refine g_goto (tgt := 116) dX7_fewest_109 (by decide) ?_
          exact g_iret dX7_fewest_116 trivial (by first | exact (OM.of (q := (cNone, V)) (by rw [hv, if_neg (by omega), if_neg (by omega), if_pos (by omega)]) rfl h hk) | exact (OM.of (q := (τ 30 20, V)) (by rw [hv, if_neg (by omega), if_neg (by omega), if_neg (by omega), if_pos (by omega)]) rfl h hk) | exact (OM.of (q := (τ 30 21, V)) (by rw [hv, if_neg (by omega), if_neg (by omega), if_neg (by omega), if_neg (by omega)]) rfl h hk))
      · refine g_ldc dX7_fewest_95 kX7_146 ?_
        refine g_goto (tgt := 116) dX7_fewest_97 (by decide) ?_
        exact g_iret dX7_fewest_116 trivial (by first | exact (OM.of (q := (cNone, V)) (by rw [hv, if_neg (by omega), if_neg (by omega), if_pos (by omega)]) rfl h hk) | exact (OM.of (q := (τ 30 20, V)) (by rw [hv, if_neg (by omega), if_neg (by omega), if_neg (by omega), if_pos (by omega)]) rfl h hk) | exact (OM.of (q := (τ 30 21, V)) (by rw [hv, if_neg (by omega), if_neg (by omega), if_neg (by omega), if_neg (by omega)]) rfl h hk))
    · refine g_aload_n dX7_fewest_57 rfl ?_
      refine g_getI (ji := 17) rfl dX7_fewest_58 fX7_180 rfl rfl (by decide) ?_
      refine g_iconst dX7_fewest_61 ?_
      refine g_icmp_ge (tgt := 70) dX7_fewest_62 (by decide) (by omega) (by omega) (fun h62 => ?_) (fun h62 => ?_)
      · refine g_iload_n dX7_fewest_70 rfl ?_
        refine g_iconst dX7_fewest_71 ?_
        refine g_icmp_ne (tgt := 82) dX7_fewest_72 (by decide) (by omega) (by omega) (fun h72 => ?_) (fun h72 => ?_)
        · refine g_aload_n dX7_fewest_82 rfl ?_
          refine g_getI (ji := 19) rfl dX7_fewest_83 fX7_186 rfl rfl (by decide) ?_
          exact g_iret dX7_fewest_86 trivial (by first | exact (OM.of (q := (cNone, V)) (by rw [hv, if_neg (by omega), if_pos (by omega), if_pos (by omega)]) rfl h hk) | exact (OM.of (q := (τ 30 18, V)) (by rw [hv, if_neg (by omega), if_pos (by omega), if_neg (by omega), if_pos (by omega)]) rfl h hk) | exact (OM.of (q := (τ 30 19, V)) (by rw [hv, if_neg (by omega), if_pos (by omega), if_neg (by omega), if_neg (by omega)]) rfl h hk))
        · refine g_aload_n dX7_fewest_75 rfl ?_
          refine g_getI (ji := 18) rfl dX7_fewest_76 fX7_183 rfl rfl (by decide) ?_
          refine g_goto (tgt := 86) dX7_fewest_79 (by decide) ?_
          exact g_iret dX7_fewest_86 trivial (by first | exact (OM.of (q := (cNone, V)) (by rw [hv, if_neg (by omega), if_pos (by omega), if_pos (by omega)]) rfl h hk) | exact (OM.of (q := (τ 30 18, V)) (by rw [hv, if_neg (by omega), if_pos (by omega), if_neg (by omega), if_pos (by omega)]) rfl h hk) | exact (OM.of (q := (τ 30 19, V)) (by rw [hv, if_neg (by omega), if_pos (by omega), if_neg (by omega), if_neg (by omega)]) rfl h hk))
      · refine g_ldc dX7_fewest_65 kX7_146 ?_
        refine g_goto (tgt := 86) dX7_fewest_67 (by decide) ?_
        exact g_iret dX7_fewest_86 trivial (by first | exact (OM.of (q := (cNone, V)) (by rw [hv, if_neg (by omega), if_pos (by omega), if_pos (by omega)]) rfl h hk) | exact (OM.of (q := (τ 30 18, V)) (by rw [hv, if_neg (by omega), if_pos (by omega), if_neg (by omega), if_pos (by omega)]) rfl h hk) | exact (OM.of (q := (τ 30 19, V)) (by rw [hv, if_neg (by omega), if_pos (by omega), if_neg (by omega), if_neg (by omega)]) rfl h hk))
  · refine g_aload_n dX7_fewest_47 rfl ?_
    refine g_getI (ji := 17) rfl dX7_fewest_48 fX7_180 rfl rfl (by decide) ?_
    exact g_iret dX7_fewest_51 trivial (OM.of (q := (τ 30 17, V)) (by rw [hv, if_pos (by omega)]) rfl h hk)

theorem k_fewest {b : Int} {V σ : Mem} (hi : Inv b V) (h : RM V σ) (w : Int) (i_w : i32 w) (hb : b + 400000 ≤ 500000000) : Ret 41 mX7_fewest [aR 30, aI w] σ (OM σ (p_fewest V w)) := by
  refine Ret.of [some (aR 30), some (aI w)] rfl (plainFor_of_name (by decide)) (Nat.le_of_ble_eq_true rfl) ?_
  have hN := hi.N2
  refine g_iload_n dX7_fewest_0 rfl ?_
  refine g_iconst dX7_fewest_1 ?_
  refine g_iconst dX7_fewest_2 ?_
  refine g_pS3 dX7_fewest_3 sX7_70 (by decide) (Nat.le_of_ble_eq_true rfl) (c_isIn _ _ _ (by omega) (by omega) (by omega)) ?_
  refine g_ifb_ne (tgt := 12) dX7_fewest_6 (by decide) (fun h6 => ?_) (fun h6 => ?_)
  · refine g_aload_n dX7_fewest_12 rfl ?_
    refine g_iconst dX7_fewest_13 ?_
    refine g_putI (ji := 17) rfl dX7_fewest_14 vX7_180 rfl rfl (by decide) (by decide) ?_
    have h1 := h.up30 (j := 17) (v := 0) (by decide)
    refine g_aload_n dX7_fewest_17 rfl ?_
    refine g_eV0 dX7_fewest_18 qX7_150 rfl (by decide) (by decide) (Nat.le_of_ble_eq_true rfl) (c_fault hi h1) ?_
    intro τ2 hq2
    obtain ⟨h2, hc2⟩ := hq2
    have h172 : τ2 30 17 = 0 := by rw [hc2.2 17 (by decide), up_same]
    have hfb := flt_32 hi
    refine g_ldc dX7_fewest_21 kX7_146 ?_
    refine g_icmp_eq (tgt := 43) dX7_fewest_23 (by decide) (by omega) (by omega) (fun h23 => ?_) (fun h23 => ?_)
    · exact k_few_tail h2 (fun a ha => by rw [hc2.1 a (by omega) (by omega), up_cell (by omega)]) w (by omega) (by omega) (by
        unfold p_fewest fewV
        rw [if_neg (by omega), if_pos (c := fltV V = cNone) h23, h172]
        rcases (show w = 0 ∨ w = 1 ∨ w = 2 ∨ w = 3 ∨ w = 4 by omega) with rfl | rfl | rfl | rfl | rfl <;> rfl)
    · refine g_aload_n dX7_fewest_26 rfl ?_
      refine g_eV0 dX7_fewest_27 qX7_199 rfl (by decide) (by decide) (Nat.le_of_ble_eq_true rfl) (c_byOne hi h2 (by omega)) ?_
      intro τ3 hq3
      obtain ⟨h3, hk3, hy3, hn3⟩ := hq3
      refine g_ifb_ne (tgt := 43) dX7_fewest_30 (by decide) (fun h30 => ?_) (fun h30 => ?_)
      · obtain ⟨y1, y2, y3⟩ := hy3 h30
        exact k_few_tail h3 (fun a ha => by rw [hk3 a ha, hc2.1 a (by omega) (by omega), up_cell (by omega)]) w (by omega) (by omega) (by
          unfold p_fewest fewV
          rw [if_neg (by omega), if_neg (c := fltV V = cNone) h23, if_pos h30, y1, y2, y3]
          rcases (show w = 0 ∨ w = 1 ∨ w = 2 ∨ w = 3 ∨ w = 4 by omega) with rfl | rfl | rfl | rfl | rfl <;> rfl)
      · refine g_aload_n dX7_fewest_33 rfl ?_
        refine g_eV0 dX7_fewest_34 qX7_203 rfl (by decide) (by decide) (Nat.le_of_ble_eq_true rfl) (c_byTwo hi h3 hb) ?_
        intro τ4 hq4
        obtain ⟨h4, hk4, hy4, hn4⟩ := hq4
        refine g_ifb_ne (tgt := 43) dX7_fewest_37 (by decide) (fun h37 => ?_) (fun h37 => ?_)
        · obtain ⟨y1, y2, y3, y4, y5⟩ := hy4 h37
          exact k_few_tail h4 (fun a ha => by rw [hk4 a ha, hk3 a ha, hc2.1 a (by omega) (by omega), up_cell (by omega)]) w (by omega) (by omega) (by
            unfold p_fewest fewV
            rw [if_neg (by omega), if_neg (c := fltV V = cNone) h23, if_neg h30, if_pos h37, y1, y2, y3, y4, y5]
            rcases (show w = 0 ∨ w = 1 ∨ w = 2 ∨ w = 3 ∨ w = 4 by omega) with rfl | rfl | rfl | rfl | rfl <;> rfl)
        · refine g_ldc dX7_fewest_40 kX7_146 ?_
          exact g_iret dX7_fewest_42 trivial (OM.of (q := (cNone, V)) (by unfold p_fewest fewV; rw [if_neg (by omega), if_neg (c := fltV V = cNone) h23, if_neg h30, if_neg h37]) rfl h4 (fun a ha => by rw [hk4 a ha, hk3 a ha, hc2.1 a (by omega) (by omega), up_cell (by omega)]))
  · refine g_ldc dX7_fewest_9 kX7_78 ?_
    exact g_iret dX7_fewest_11 trivial (OM.of (q := (cBad, V)) (by unfold p_fewest; rw [if_pos (by omega)]) rfl h keepM.rfl)

theorem brk_b {b : Int} {V : Mem} (hi : Inv b V) (s j : Int) (s0 : 0 ≤ s) (s1 : s < V 0 0) (j0 : 0 ≤ j) (j1 : j < V 0 0) : (-500000000000 ≤ V 2 s * V 12 (stp (V 0 0) s j) ∧ V 2 s * V 12 (stp (V 0 0) s j) ≤ 500000000000) ∧ (-1000000000 ≤ brkP V s j ∧ brkP V s j ≤ 1000000000) := by
  have hb := hi.b
  have hst := stp_b hi.N s0 s1 j0 j1
  have hp := hi.pull s s0 s1
  have hp2 := hi.pull j j0 j1
  have ht : -1000 ≤ V 12 (stp (V 0 0) s j) ∧ V 12 (stp (V 0 0) s j) ≤ 1000 ∧ _ := hi.tab 4 (by decide) _ hst.1 (by omega)
  have hm := mulb (a := V 2 s) (k := V 12 (stp (V 0 0) s j)) (A := b) (B := 1000) (by omega) (by omega) (by omega) (by omega) (by omega) (by omega)
  unfold brkP
  generalize V 2 s * V 12 (stp (V 0 0) s j) = x at *
  omega
theorem RM.brk {V σ τ : Mem} {s : Int} (h : RM V σ) (hk : ∀ a, a ≠ 31 → a ≠ 32 → τ a = σ a) (h1 : ∀ j, 0 ≤ j → j < V 0 0 → τ 31 j = if j = s then 4 else V 1 j) (h2 : ∀ j, 0 ≤ j → j < V 0 0 → τ 32 j = if j = s then 0 else if V 1 j ≠ 4 then brkP V s j else V 2 j) : RM (brkV V s) τ := by
  have e : ∀ a, a ≠ 1 → a ≠ 2 → brkV V s a = V a := fun a q1 q2 => by funext j; simp [brkV, q1, q2]
  unfold RM at h ⊢
  rw [e 0 (by decide) (by decide), e 7 (by decide) (by decide), e 14 (by decide) (by decide), e 15 (by decide) (by decide), e 16 (by decide) (by decide), e 17 (by decide) (by decide), e 18 (by decide) (by decide), hk 30 (by decide) (by decide), hk 33 (by decide) (by decide), hk 34 (by decide) (by decide), hk 35 (by decide) (by decide), hk 36 (by decide) (by decide), hk 37 (by decide) (by decide), hk 38 (by decide) (by decide), hk 39 (by decide) (by decide)]
  obtain ⟨g1, g2, g3, g4, g5, g6, g7, g8, g9, g10⟩ := h
  refine ⟨g1, fun j a c => ⟨?_, ?_⟩, fun r hr j a c => ?_, g4, fun t ht d a c => ?_, g6, g7, g8, g9, g10.imp id (fun q => ⟨q.1, fun r hr p a c => ?_⟩)⟩
  · rw [h1 j a c]; simp [brkV]
  · rw [h2 j a c]; simp [brkV, a, c]
  · rw [e (3 + r) (by omega) (by omega), e (5 + r) (by omega) (by omega)]; exact g3 r hr j a c
  · rw [e (8 + t) (by omega) (by omega)]; exact g5 t ht d a c
  · unfold unb
    rw [e (5 + r) (by omega) (by omega), e 0 (by decide) (by decide)]
    exact q.2 r hr p a c

theorem k_snap_l2 {b : Int} {V σ : Mem} (hi : Inv b V) (h : RM V σ) (s : Int) (s0 : 0 ≤ s) (s1 : s < V 0 0) (hp : p_snap V s = (V 2 s, brkV V s)) : ∀ (fu : Nat) (k : Int) (τ : Mem), 0 ≤ k → k ≤ V 0 0 → V 0 0 - k < fu → (∀ a, a ≠ 32 → τ a = σ a) → (∀ j, 0 ≤ j → j < V 0 0 → τ 32 j = if j < k ∧ j ≠ s ∧ V 1 j ≠ 4 then brkP V s j else V 2 j) → Go 41 mX7_snap 107 [some (aR 30), some (aI s), some (aL (V 2 s)), none, some (aI k)] [] τ (OM σ (p_snap V s)) := by
  intro fu
  induction fu with
  | zero => intros; omega
  | succ fu ih =>
    intro k τ k0 k1 kn t1 t2
    have hN := hi.N2
    have hbb := hi.b
    have h0 : RM0 V τ := h.r0.keep (by rw [t1 30 (by decide)]) (by rw [t1 31 (by decide)]) (by rw [t1 35 (by decide)]) (by rw [t1 36 (by decide)])
    refine g_iload dX7_snap_107 rfl ?_
    refine g_aload_n dX7_snap_109 rfl ?_
    refine g_getI (ji := 0) rfl dX7_snap_110 fX7_58 rfl rfl (by decide) ?_
    rw [h0.N]
    refine g_icmp_ge (tgt := 168) dX7_snap_113 (by decide) (by omega) (by omega) (fun h113 => ?_) (fun h113 => ?_)
    · refine g_aload_n dX7_snap_168 rfl ?_
      refine g_getR dX7_snap_169 fX7_7 rfl rfl (by decide) ?_
      refine g_iload_n dX7_snap_172 rfl ?_
      refine g_iconst dX7_snap_173 ?_
      refine g_iastore dX7_snap_174 rfl (by decide) (by decide) (by omega) (by omega) (by decide) ?_
      refine g_aload_n dX7_snap_175 rfl ?_
      refine g_getR dX7_snap_176 fX7_13 rfl rfl (by decide) ?_
      refine g_iload_n dX7_snap_179 rfl ?_
      refine g_lconst (v := 0) dX7_snap_180 (by decide) ?_
      refine g_lastore dX7_snap_181 rfl (by decide) (by decide) (by omega) (by omega) (by decide) ?_
      refine g_lload_n dX7_snap_182 rfl ?_
      refine g_l2i dX7_snap_183 ?_
      exact g_iret dX7_snap_184 trivial (OM.of (q := (V 2 s, brkV V s)) hp rfl (h.brk (fun a a1 a2 => by rw [up_cell a2, up_cell a1]; exact t1 a a2) (fun j j0 j1 => by
            rw [up_cell (by decide)]
            by_cases hj : j = s
            · rw [hj, up_same, if_pos rfl]
            · rw [up_ne (Or.inr hj), if_neg hj, t1 31 (by decide)]; exact h.kind j j0 j1) (fun j j0 j1 => by
            by_cases hj : j = s
            · rw [hj, up_same, if_pos rfl]
            · rw [up_ne (Or.inr hj), up_cell (by decide), if_neg hj, t2 j j0 j1]
              by_cases hg : V 1 j ≠ 4
              · rw [if_pos ⟨by omega, hj, hg⟩, if_pos hg]
              · rw [if_neg (fun q => hg q.2.2), if_neg hg])) (fun a ha => by rw [up_cell (by omega), up_cell (by omega)]; exact t1 a (by omega)))
    · have hkN : k < V 0 0 := h113
      have hbk := brk_b hi s k s0 s1 k0 hkN
      have hst := stp_b hi.N s0 s1 k0 hkN
      have hst32 : stp (V 0 0) s k < 17 := by omega
      have tb : -1000 ≤ V 12 (stp (V 0 0) s k) ∧ V 12 (stp (V 0 0) s k) ≤ 1000 ∧ _ := hi.tab 4 (by decide) _ hst.1 hst32
      have hk2 := t2 k k0 hkN
      rw [if_neg (by omega)] at hk2
      have e1 : 0 ≤ k + 1 := by omega
      have e2 : k + 1 ≤ V 0 0 := by omega
      have e3 : V 0 0 - (k + 1) < fu := by omega
      have e4 : k < 32 := by omega
      have t2' : (k = s ∨ V 1 k = 4) → ∀ j, 0 ≤ j → j < V 0 0 → τ 32 j = if j < k + 1 ∧ j ≠ s ∧ V 1 j ≠ 4 then brkP V s j else V 2 j := fun hks j j0 j1 => by
        rw [t2 j j0 j1]
        by_cases hj : j = k
        · subst hj
          rw [if_neg (by omega), if_neg (by rintro ⟨-, q1, q2⟩; rcases hks with q | q; exact q1 q; exact q2 q)]
        · by_cases hc : j < k ∧ j ≠ s ∧ V 1 j ≠ 4
          · rw [if_pos hc, if_pos ⟨by omega, hc.2.1, hc.2.2⟩]
          · rw [if_neg hc, if_neg (fun q => hc ⟨by omega, q.2.1, q.2.2⟩)]
      refine g_iload dX7_snap_116 rfl ?_
      refine g_iload_n dX7_snap_118 rfl ?_
      refine g_icmp_eq (tgt := 162) dX7_snap_119 (by decide) (by omega) (by omega) (fun h119 => g_iinc dX7_snap_162 rfl (by decide) (g_goto (tgt := 107) dX7_snap_165 (by decide) (ih (k + 1) τ e1 e2 e3 t1 (t2' (Or.inl h119))))) (fun h119 => ?_)
      refine g_aload_n dX7_snap_122 rfl ?_
      refine g_iload dX7_snap_123 rfl ?_
      refine g_pV1 dX7_snap_125 qX7_74 rfl (by decide) (by decide) (Nat.le_of_ble_eq_true rfl) (c0_isGone hi.i0 h0 k k0 hkN) ?_
      refine g_ifb_ne (tgt := 162) dX7_snap_128 (by decide) (fun h128 => g_iinc dX7_snap_162 rfl (by decide) (g_goto (tgt := 107) dX7_snap_165 (by decide) (ih (k + 1) τ e1 e2 e3 t1 (t2' (Or.inr h128))))) (fun h128 => ?_)
      refine g_aload_n dX7_snap_131 rfl ?_
      refine g_getR dX7_snap_132 fX7_13 rfl rfl (by decide) ?_
      refine g_iload dX7_snap_135 rfl ?_
      refine g_dup2 dX7_snap_137 (fun x h => by cases h) (fun x h => by cases h) ?_
      refine g_laload dX7_snap_138 rfl (by decide) k0 e4 (by decide) ?_
      rw [hk2]
      refine g_lload_n dX7_snap_139 rfl ?_
      refine g_aload_n dX7_snap_140 rfl ?_
      refine g_iconst dX7_snap_141 ?_
      refine g_aload_n dX7_snap_142 rfl ?_
      refine g_iload_n dX7_snap_143 rfl ?_
      refine g_iload dX7_snap_144 rfl ?_
      refine g_pV2 dX7_snap_146 qX7_154 rfl (by decide) (by decide) (Nat.le_of_ble_eq_true rfl) (c0_steps hi.i0 h0 s k s0 s1 k0 hkN) ?_
      refine g_pV2 dX7_snap_149 qX7_98 rfl (by decide) (by decide) (Nat.le_of_ble_eq_true rfl) (c0_t4 hi.i0 h0 _ hst.1 hst32) ?_
      refine g_i2l dX7_snap_152 (by omega) ?_
      refine g_lmul dX7_snap_153 ?_
      refine g_ldc2 dX7_snap_154 lX7_120 ?_
      refine g_pS2 dX7_snap_157 sX7_110 (by decide) (Nat.le_of_ble_eq_true rfl) (c_cut _ _ (by omega) (by omega) (by omega)) ?_
      refine g_ladd dX7_snap_160 ?_
      refine g_lastore dX7_snap_161 rfl (by decide) (by decide) (by omega) (by omega) (by decide) ?_
      refine g_iinc dX7_snap_162 rfl (by decide) ?_
      refine g_goto (tgt := 107) dX7_snap_165 (by decide) ?_
      refine ih (k + 1) _ e1 e2 e3 (fun a a1 => by rw [up_cell a1]; exact t1 a a1) (fun j j0 j1 => ?_)
      by_cases hj : j = k
      · subst hj
        rw [up_same, if_pos ⟨by omega, h119, h128⟩]
        rfl
      · rw [up_ne (Or.inr hj), t2 j j0 j1]
        by_cases hc : j < k ∧ j ≠ s ∧ V 1 j ≠ 4
        · rw [if_pos hc, if_pos ⟨by omega, hc.2.1, hc.2.2⟩]
        · rw [if_neg hc, if_neg (fun q => hc ⟨by omega, q.2.1, q.2.2⟩)]

theorem k_snap_l1 {b : Int} {V σ : Mem} (hi : Inv b V) (h : RM V σ) (s : Int) (s0 : 0 ≤ s) (s1 : s < V 0 0) (hg : V 1 s ≠ 4) : ∀ (fu : Nat) (k : Int), 0 ≤ k → k ≤ V 0 0 → V 0 0 - k < fu → (∀ j, 0 ≤ j → j < k → (decide (j ≠ s) && decide (V 1 j ≠ 4) && decide (100000000 < ab (brkP V s j))) = false) → Go 41 mX7_snap 32 [some (aR 30), some (aI s), some (aL (V 2 s)), none, some (aI k)] [] σ (OM σ (p_snap V s)) := by
  intro fu
  induction fu with
  | zero => intros; omega
  | succ fu ih =>
    intro k k0 k1 kn hf
    have hN := hi.N2
    have hbb := hi.b
    refine g_iload dX7_snap_32 rfl ?_
    refine g_aload_n dX7_snap_34 rfl ?_
    refine g_getI (ji := 0) rfl dX7_snap_35 fX7_58 rfl rfl (by decide) ?_
    rw [h.N]
    refine g_icmp_ge (tgt := 104) dX7_snap_38 (by decide) (by omega) (by omega) (fun h38 => ?_) (fun h38 => ?_)
    · refine g_iconst dX7_snap_104 ?_
      refine g_istore dX7_snap_105 (by decide) ?_
      exact k_snap_l2 hi h s s0 s1 (by unfold p_snap; rw [if_neg (by omega), if_neg (by rintro (q | q); exact hg q; rw [show brkBad V s = -1 from firstI_no (by decide) (fun j j0 j1 => hf j j0 (by omega))] at q; omega)]) 33 0 σ (by omega) (by omega) (by omega) (fun _ _ => rfl) (fun j j0 j1 => by rw [if_neg (by omega)]; exact h.pull j j0 j1)
    · have hkN : k < V 0 0 := h38
      have hbk := brk_b hi s k s0 s1 k0 hkN
      have hst := stp_b hi.N s0 s1 k0 hkN
      have hst32 : stp (V 0 0) s k < 17 := by omega
      have tb : -1000 ≤ V 12 (stp (V 0 0) s k) ∧ V 12 (stp (V 0 0) s k) ≤ 1000 ∧ _ := hi.tab 4 (by decide) _ hst.1 hst32
      have hab := ab_b hbk.2.1 hbk.2.2
      have e1 : 0 ≤ k + 1 := by omega
      have e2 : k + 1 ≤ V 0 0 := by omega
      have e3 : V 0 0 - (k + 1) < fu := by omega
      have e4 : k < 32 := by omega
      have hfx : (decide (k ≠ s) && decide (V 1 k ≠ 4) && decide (100000000 < ab (brkP V s k))) = false → ∀ j, 0 ≤ j → j < k + 1 → (decide (j ≠ s) && decide (V 1 j ≠ 4) && decide (100000000 < ab (brkP V s j))) = false := fun hz j j0 j1 => by
        by_cases hj : j = k
        · rw [hj]; exact hz
        · exact hf j j0 (by omega)
      refine g_iload dX7_snap_41 rfl ?_
      refine g_iload_n dX7_snap_43 rfl ?_
      refine g_icmp_eq (tgt := 98) dX7_snap_44 (by decide) (by omega) (by omega) (fun h44 => g_iinc dX7_snap_98 rfl (by decide) (g_goto (tgt := 32) dX7_snap_101 (by decide) (ih (k + 1) e1 e2 e3 (hfx (by simp [h44]))))) (fun h44 => ?_)
      refine g_aload_n dX7_snap_47 rfl ?_
      refine g_iload dX7_snap_48 rfl ?_
      refine g_pV1 dX7_snap_50 qX7_74 rfl (by decide) (by decide) (Nat.le_of_ble_eq_true rfl) (c_isGone hi h k k0 hkN) ?_
      refine g_ifb_ne (tgt := 98) dX7_snap_53 (by decide) (fun h53 => g_iinc dX7_snap_98 rfl (by decide) (g_goto (tgt := 32) dX7_snap_101 (by decide) (ih (k + 1) e1 e2 e3 (hfx (by simp [h53]))))) (fun h53 => ?_)
      refine g_aload_n dX7_snap_56 rfl ?_
      refine g_getR dX7_snap_57 fX7_13 rfl rfl (by decide) ?_
      refine g_iload dX7_snap_60 rfl ?_
      refine g_laload dX7_snap_62 rfl (by decide) k0 e4 (by decide) ?_
      rw [h.pull k k0 hkN]
      refine g_lload_n dX7_snap_63 rfl ?_
      refine g_aload_n dX7_snap_64 rfl ?_
      refine g_iconst dX7_snap_65 ?_
      refine g_aload_n dX7_snap_66 rfl ?_
      refine g_iload_n dX7_snap_67 rfl ?_
      refine g_iload dX7_snap_68 rfl ?_
      refine g_pV2 dX7_snap_70 qX7_154 rfl (by decide) (by decide) (Nat.le_of_ble_eq_true rfl) (c0_steps hi.i0 h.r0 s k s0 s1 k0 hkN) ?_
      refine g_pV2 dX7_snap_73 qX7_98 rfl (by decide) (by decide) (Nat.le_of_ble_eq_true rfl) (c0_t4 hi.i0 h.r0 _ hst.1 hst32) ?_
      refine g_i2l dX7_snap_76 (by omega) ?_
      refine g_lmul dX7_snap_77 ?_
      refine g_ldc2 dX7_snap_78 lX7_120 ?_
      refine g_pS2 dX7_snap_81 sX7_110 (by decide) (Nat.le_of_ble_eq_true rfl) (c_cut _ _ (by omega) (by omega) (by omega)) ?_
      refine g_ladd dX7_snap_84 ?_
      show Go 41 mX7_snap _ _ (aL (brkP V s k) :: _) _ _
      refine g_pS1 dX7_snap_85 sX7_122 (by decide) (Nat.le_of_ble_eq_true rfl) (c_size _ (by omega)) ?_
      refine g_ldc2 dX7_snap_88 lX7_206 ?_
      refine g_lcmp_le (tgt := 98) dX7_snap_91 dX7_snap_92 (by decide) (by omega) (by omega) (fun h91 => ?_) (fun h91 => ?_)
      · refine g_iinc dX7_snap_98 rfl (by decide) ?_
        refine g_goto (tgt := 32) dX7_snap_101 (by decide) ?_
        exact ih (k + 1) e1 e2 e3 (hfx (by simp; omega))
      · refine g_ldc dX7_snap_95 kX7_85 ?_
        exact g_iret dX7_snap_97 trivial (OM.of (q := (cNo, V)) (by unfold p_snap; rw [if_neg (by omega), if_pos (Or.inr (by rw [show brkBad V s = k from firstI_eq (by decide) k0 (by omega) (by simp [h44, h53]; omega) hf]; exact k0))]) rfl h keepM.rfl)

theorem k_snap {b : Int} {V σ : Mem} (hi : Inv b V) (h : RM V σ) (s : Int) (i_s : i32 s)  : Ret 41 mX7_snap [aR 30, aI s] σ (OM σ (p_snap V s)) := by
  refine Ret.of [some (aR 30), some (aI s), none, none, none] rfl (plainFor_of_name (by decide)) (Nat.le_of_ble_eq_true rfl) ?_
  have hN := hi.N2
  refine g_aload_n dX7_snap_0 rfl ?_
  refine g_iload_n dX7_snap_1 rfl ?_
  refine g_pV1 dX7_snap_2 qX7_79 rfl (by decide) (by decide) (Nat.le_of_ble_eq_true rfl) (c_isHole hi h _ (by omega)) ?_
  refine g_ifb_ne (tgt := 11) dX7_snap_5 (by decide) (fun h5 => ?_) (fun h5 => ?_)
  · refine g_aload_n dX7_snap_11 rfl ?_
    refine g_iload_n dX7_snap_12 rfl ?_
    refine g_pV1 dX7_snap_13 qX7_74 rfl (by decide) (by decide) (Nat.le_of_ble_eq_true rfl) (c_isGone hi h _ (by omega) (by omega)) ?_
    refine g_ifb_eq (tgt := 22) dX7_snap_16 (by decide) (fun h16 => ?_) (fun h16 => ?_)
    · refine g_aload_n dX7_snap_22 rfl ?_
      refine g_getR dX7_snap_23 fX7_13 rfl rfl (by decide) ?_
      refine g_iload_n dX7_snap_26 rfl ?_
      refine g_laload dX7_snap_27 rfl (by decide) (by omega) (by omega) (by decide) ?_
      rw [h.pull _ (by omega) (by omega)]
      refine g_lstore_n (i := 2) dX7_snap_28 rfl (by decide) ?_
      refine g_iconst dX7_snap_29 ?_
      refine g_istore dX7_snap_30 (by decide) ?_
      exact k_snap_l1 hi h s (by omega) (by omega) h16 33 0 (by omega) (by omega) (by omega) (fun j j0 j1 => by omega)
    · refine g_ldc dX7_snap_19 kX7_85 ?_
      exact g_iret dX7_snap_21 trivial (OM.of (q := (cNo, V)) (by unfold p_snap; rw [if_neg (by omega), if_pos (Or.inl h16)]) rfl h keepM.rfl)
  · refine g_ldc dX7_snap_8 kX7_78 ?_
    exact g_iret dX7_snap_10 trivial (OM.of (q := (cBad, V)) (by unfold p_snap; rw [if_pos (by omega)]) rfl h keepM.rfl)
