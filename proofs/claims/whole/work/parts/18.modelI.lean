theorem mk_up17 {V : Mem} {s n x : Int} : mkV (up V 17 0 x) s n = up (mkV V s n) 17 0 x := by
  have e : ∀ a, a ≠ 17 → up V 17 0 x a = V a := fun a h => up_cell h
  funext a j
  by_cases ha : a = 17
  · subst ha
    rw [mkV_o (by decide) (by decide) (by decide)]
    unfold up
    rw [mkV_o (by decide) (by decide) (by decide)]
  · rw [up_cell ha]
    unfold mkV
    rw [e a ha, e 0 (by decide), e 1 (by decide), e 2 (by decide), e 3 (by decide), e 4 (by decide), e 8 (by decide), e 9 (by decide), e 10 (by decide), e 11 (by decide)]
theorem Inv.up17 {b : Int} {V : Mem} (hi : Inv b V) {x : Int} (h0 : 0 ≤ x) (h1 : x ≤ V 17 0) : Inv b (up V 17 0 x) := by
  have hmm := hi.many
  have e : ∀ a, a ≠ 17 → up V 17 0 x a = V a := fun a h => up_cell h
  unfold Inv
  rw [e 0 (by decide), e 1 (by decide), e 2 (by decide), e 7 (by decide), e 14 (by decide), e 15 (by decide), e 16 (by decide), e 18 (by decide), up_same]
  refine ⟨hi.N, hi.kind, hi.pull, fun r hr => ?_, fun r hr => ?_, hi.size, fun t ht => ?_, hi.lim, by omega, fun i a c => hi.log i a (by omega), hi.lac, hi.b⟩
  · rw [e (3 + r) (by omega)]; exact hi.made r hr
  · rw [e (5 + r) (by omega)]; exact hi.read r hr
  · rw [e (8 + t) (by omega)]; exact hi.tab t ht

theorem RM.up17 {V σ : Mem} {x : Int} (h : RM V σ) (hx : x ≤ V 17 0) : RM (up V 17 0 x) (up σ 30 9 x) := by
  unfold RM at h ⊢
  obtain ⟨h1, h2, h3, h4, h5, h6, h7, h8, h9, h10⟩ := h
  refine ⟨?_,
    fun j a b => by simpa (disch := omega) only [up_cell, unb] using h2 j a (by simpa (disch := omega) only [up_cell] using b),
    fun r hr j a b => by simpa (disch := omega) only [up_cell, unb] using h3 r hr j a (by simpa (disch := omega) only [up_cell] using b),
    fun t ht => by simpa (disch := omega) only [up_cell, unb] using h4 t ht,
    fun t ht d a b => by simpa (disch := omega) only [up_cell, unb] using h5 t ht d a b,
    fun i a b => by simpa (disch := omega) only [up_cell, unb] using h6 i a b,
    ?_,
    ?_,
    ?_,
    ?_⟩
  · simpa [up] using h1
  · rw [up_same, up_same]
  · intro i a c
    rw [up_same] at c
    rw [up_cell (by decide), up_cell (by decide), up_cell (by decide)]
    exact h8 i a (by omega)
  · simpa [up] using h9
  · rw [up_ne (Or.inr (by decide))]
    refine h10.imp id (fun e => ⟨e.1, fun r hr p a c => ?_⟩)
    have e2 := e.2 r hr p a (by simpa (disch := omega) only [up_cell] using c)
    unfold unb at e2 ⊢
    simpa (disch := omega) only [up_cell] using e2

theorem k_undo {b : Int} {V σ : Mem} (hi : Inv b V) (h : RM V σ)    : Ret 41 mX7_undo [aR 30] σ (OM σ (p_undo V)) := by
  refine Ret.of [some (aR 30)] rfl (plainFor_of_name (by decide)) (Nat.le_of_ble_eq_true rfl) ?_
  have hmm := hi.many
  have hN := hi.N2
  refine g_aload_n dX7_undo_0 rfl ?_
  refine g_getI (ji := 9) rfl dX7_undo_1 fX7_61 rfl rfl (by decide) ?_
  rw [h.many]
  refine g_if_ne (tgt := 10) dX7_undo_4 (by decide) (by omega) (fun h4 => ?_) (fun h4 => ?_)
  · refine g_aload_n dX7_undo_10 rfl ?_
    refine g_dup dX7_undo_11 (fun x h => by cases h) ?_
    refine g_getI (ji := 9) rfl dX7_undo_12 fX7_61 rfl rfl (by decide) ?_
    rw [h.many]
    refine g_iconst dX7_undo_15 ?_
    refine g_isub dX7_undo_16 ?_
    refine g_putI (ji := 9) rfl dX7_undo_17 vX7_61 rfl rfl (by decide) (by decide) ?_
    have h1 := h.up17 (x := V 17 0 - 1) (by omega)
    have hi1 := hi.up17 (x := V 17 0 - 1) (by omega) (by omega)
    have hlg := h.log (V 17 0 - 1) (by omega) (by omega)
    have hlb := hi.log (V 17 0 - 1) (by omega) (by omega)
    refine g_aload_n dX7_undo_20 rfl ?_
    refine g_aload_n dX7_undo_21 rfl ?_
    refine g_getR dX7_undo_22 fX7_32 rfl rfl (by decide) ?_
    refine g_iconst dX7_undo_25 ?_
    refine g_aload_n dX7_undo_26 rfl ?_
    refine g_getI (ji := 9) rfl dX7_undo_27 fX7_61 rfl rfl (by decide) ?_
    rw [up_same]
    refine g_imul dX7_undo_30 ?_
    refine g_iaload dX7_undo_31 rfl (by decide) (by omega) (by omega) (by decide) ?_
    rw [up_cell (show 38 ≠ 30 by decide), hlg.1]
    refine g_aload_n dX7_undo_32 rfl ?_
    refine g_getR dX7_undo_33 fX7_32 rfl rfl (by decide) ?_
    refine g_iconst dX7_undo_36 ?_
    refine g_aload_n dX7_undo_37 rfl ?_
    refine g_getI (ji := 9) rfl dX7_undo_38 fX7_61 rfl rfl (by decide) ?_
    rw [up_same]
    refine g_imul dX7_undo_41 ?_
    refine g_iconst dX7_undo_42 ?_
    refine g_iadd dX7_undo_43 ?_
    refine g_iaload dX7_undo_44 rfl (by decide) (by omega) (by omega) (by decide) ?_
    rw [up_cell (show 38 ≠ 30 by decide), hlg.2]
    refine g_ineg dX7_undo_45 ?_
    refine g_vV2 dX7_undo_46 qX7_160 rfl (by decide) (by decide) (Nat.le_of_ble_eq_true rfl) (c_make hi1 h1 _ _ (by omega) (by rw [up_cell (by decide)]; omega) (by omega)) ?_
    intro τ2 hq2
    obtain ⟨h2, hc2⟩ := hq2
    refine g_aload_n dX7_undo_49 rfl ?_
    refine g_getI (ji := 9) rfl dX7_undo_50 fX7_61 rfl rfl (by decide) ?_
    rw [hc2 30 (by decide) (by decide), up_same]
    exact g_iret dX7_undo_53 trivial (OM.of (q := (V 17 0 - 1, up (mkV V (V 15 (V 17 0 - 1)) (-V 16 (V 17 0 - 1))) 17 0 (V 17 0 - 1))) (by unfold p_undo; rw [if_neg h4]) rfl (by rw [← mk_up17]; exact h2) (fun a ha => by rw [hc2 a (by omega) (by omega), up_cell (by omega)]))
  · refine g_ldc dX7_undo_7 kX7_85 ?_
    exact g_iret dX7_undo_9 trivial (OM.of (q := (cNo, V)) (by unfold p_undo; rw [if_pos (by omega)]) rfl h keepM.rfl)

theorem RM.ifp {c : Prop} [Decidable c] {A B τ : Mem} (h : RM (if c then A else B) τ) (hc : c) : RM A τ := by rwa [if_pos hc] at h
theorem RM.ifn {c : Prop} [Decidable c] {A B τ : Mem} (h : RM (if c then A else B) τ) (hc : ¬ c) : RM B τ := by rwa [if_neg hc] at h
theorem wstV_b {b : Int} {V : Mem} (hi : Inv b V) : 0 ≤ wstV V ∧ wstV V ≤ 1000000000 := by
  have h := (wst_b hi).1
  unfold wstV
  omega
theorem nqS_succ {V : Mem} {k : Int} (h : 0 ≤ k) : nqS V (k + 1).toNat = if okV V (k / 2) (qOf k) = true ∧ wstV (mkV V (k / 2) (qOf k)) < (nqS V k.toNat).1 then (wstV (mkV V (k / 2) (qOf k)), k) else nqS V k.toNat := by
  have e : (k + 1).toNat = k.toNat + 1 := by omega
  rw [e]
  show (if okV V ((k.toNat : Int) / 2) (qOf (k.toNat : Int)) = true ∧ _ then _ else _) = _
  rw [Int.toNat_of_nonneg h]
theorem nqS_b (V : Mem) : ∀ n : Nat, (nqS V n).2 = cNone ∨ (0 ≤ (nqS V n).2 ∧ (nqS V n).2 < n)
  | 0 => Or.inl rfl
  | n + 1 => by
    unfold nqS
    split
    · right
      dsimp only
      omega
    · rcases nqS_b V n with h | h
      · exact Or.inl h
      · exact Or.inr (by omega)
theorem nqV_b {b : Int} {V : Mem} (hi : Inv b V) (h : nqV V ≠ cNone) : 0 ≤ nqV V ∧ nqV V < 2 * V 0 0 := by
  have hN := hi.N2
  unfold nqV at *
  rcases nqS_b V (2 * V 0 0).toNat with h1 | h1
  · exact absurd h1 h
  · omega

theorem c_nq_lp {b : Int} {V σ : Mem} (hi : Inv b V) (hb : b + 200000 ≤ 500000000) : ∀ (fu : Nat) (k le be : Int) (x5 : Option AV) (τ : Mem), 0 ≤ k → k ≤ 2 * V 0 0 → 2 * V 0 0 - k < fu → RM V τ → keepM σ τ → (0 ≤ le ∧ le ≤ 1000000000) → nqS V k.toNat = (le, be) → Go 41 mX7_nextQuarter 11 [some (aR 30), some (aL le), none, some (aI be), some (aI k), x5, none] [] τ (fun o τ => o = some (aI (nqV V)) ∧ (RM V τ ∧ keepM σ τ)) := by
  intro fu
  induction fu with
  | zero => intros; omega
  | succ fu ih =>
    intro k le be x5 τ k0 k1 kn h hkp hlb hs
    have hN := hi.N2
    have hbb := hi.b
    refine g_iload dX7_nextQuarter_11 rfl ?_
    refine g_iconst dX7_nextQuarter_13 ?_
    refine g_aload_n dX7_nextQuarter_14 rfl ?_
    refine g_getI (ji := 0) rfl dX7_nextQuarter_15 fX7_58 rfl rfl (by decide) ?_
    rw [h.N]
    refine g_imul dX7_nextQuarter_18 ?_
    refine g_icmp_ge (tgt := 76) dX7_nextQuarter_19 (by decide) (by omega) (by omega) (fun h19 => ?_) (fun h19 => ?_)
    · refine g_iload_n dX7_nextQuarter_76 rfl ?_
      exact g_iret dX7_nextQuarter_77 trivial ⟨by unfold nqV; rw [show 2 * V 0 0 = k by omega, hs], h, hkp⟩
    · have kh : k / 2 < V 0 0 := by omega
      have kh0 : 0 ≤ k / 2 := by omega
      have e1 : 0 ≤ k + 1 := by omega
      have e2 : k + 1 ≤ 2 * V 0 0 := by omega
      have e3 : 2 * V 0 0 - (k + 1) < fu := by omega
      have hsu := nqS_succ (V := V) k0
      rw [hs] at hsu
      refine g_aload_n dX7_nextQuarter_22 rfl ?_
      refine g_iload dX7_nextQuarter_23 rfl ?_
      refine g_iconst dX7_nextQuarter_25 ?_
      refine g_idiv dX7_nextQuarter_26 (by omega) (by omega) (by omega) ?_
      rw [Int.tdiv_eq_ediv_of_nonneg k0]
      refine g_iload dX7_nextQuarter_27 rfl ?_
      refine g_iconst dX7_nextQuarter_29 ?_
      refine g_irem dX7_nextQuarter_30 (by omega) (by omega) (by omega) ?_
      rw [modN0 k0]
      refine g_if_ne (tgt := 38) dX7_nextQuarter_31 (by decide) (by omega) (fun h31 => ?_) (fun h31 => ?_)
      · have hqk : qOf k = -1 := if_neg h31
        rw [hqk] at hsu
        refine g_iconst dX7_nextQuarter_38 ?_
        refine g_iconst dX7_nextQuarter_39 ?_
        refine g_eV3 dX7_nextQuarter_40 qX7_167 rfl (by decide) (by decide) (Nat.le_of_ble_eq_true rfl) (c_tries hi h (k / 2) _ 0 kh0 kh (by omega) (by omega) hb) ?_
        intro τ1 hq1
        obtain ⟨h1, hA, hf, hf2⟩ := hq1
        refine g_ifb_eq (tgt := 70) dX7_nextQuarter_43 (by decide) (fun h43 => g_iinc dX7_nextQuarter_70 rfl (by decide) (g_goto (tgt := 11) dX7_nextQuarter_73 (by decide) (ih (k + 1) le be _ τ1 e1 e2 e3 (h1.ifn h43) (fun a ha => by rw [hf a (by omega) (by omega) (by omega)]; exact hkp a ha) hlb (by rw [hsu, if_neg (fun q => h43 q.1)])))) (fun h43 => ?_)
        refine g_aload_n dX7_nextQuarter_46 rfl ?_
        refine g_eV0 dX7_nextQuarter_47 qX7_147 rfl (by decide) (by decide) (Nat.le_of_ble_eq_true rfl) (c_worst (mkV_inv (m := 100) hi (k / 2) (-1) kh0 kh (by omega) (by omega) (by omega)) (h1.ifp h43)) ?_
        intro τ2 hq2
        obtain ⟨h2, hc2⟩ := hq2
        refine g_lstore dX7_nextQuarter_50 (by decide) ?_
        refine g_aload_n dX7_nextQuarter_52 rfl ?_
        refine g_iconst dX7_nextQuarter_53 ?_
        refine g_vV1 dX7_nextQuarter_54 qX7_164 rfl (by decide) (by decide) (Nat.le_of_ble_eq_true rfl) (c_bring 0 (by omega) hN.2 h h2 (like_mk V (k / 2) (-1)) (hA.keep (fun j _ _ => by rw [hc2.1 40 (by decide) (by decide)]))) ?_
        intro τ3 hq3
        obtain ⟨h3, hc3⟩ := hq3
        have hk3 : keepM σ τ3 := fun a ha => by rw [hc3 a (by omega) (by omega), hc2.1 a (by omega) (by omega), hf a (by omega) (by omega) (by omega)]; exact hkp a ha
        have hwb := wstV_b (mkV_inv (m := 100) hi (k / 2) (-1) kh0 kh (by omega) (by omega) (by omega))
        refine g_lload dX7_nextQuarter_57 rfl ?_
        refine g_lload_n dX7_nextQuarter_59 rfl ?_
        refine g_lcmp_ge (tgt := 70) dX7_nextQuarter_60 dX7_nextQuarter_61 (by decide) (by omega) (by omega) (fun h60 => g_iinc dX7_nextQuarter_70 rfl (by decide) (g_goto (tgt := 11) dX7_nextQuarter_73 (by decide) (ih (k + 1) le be _ τ3 e1 e2 e3 h3 hk3 hlb (by rw [hsu, if_neg (fun q => by have := q.2; dsimp only at this; omega)])))) (fun h60 => ?_)
        refine g_lload dX7_nextQuarter_64 rfl ?_
        refine g_lstore_n (i := 1) dX7_nextQuarter_66 rfl (by decide) ?_
        refine g_iload dX7_nextQuarter_67 rfl ?_
        refine g_istore_n (i := 3) dX7_nextQuarter_69 rfl (by decide) ?_
        refine g_iinc dX7_nextQuarter_70 rfl (by decide) ?_
        refine g_goto (tgt := 11) dX7_nextQuarter_73 (by decide) ?_
        exact ih (k + 1) _ _ _ τ3 e1 e2 e3 h3 hk3 hwb (by rw [hsu, if_pos ⟨h43, h60⟩])
      · have hqk : qOf k = 1 := if_pos h31
        rw [hqk] at hsu
        refine g_iconst dX7_nextQuarter_34 ?_
        refine g_goto (tgt := 39) dX7_nextQuarter_35 (by decide) ?_
        refine g_iconst dX7_nextQuarter_39 ?_
        refine g_eV3 dX7_nextQuarter_40 qX7_167 rfl (by decide) (by decide) (Nat.le_of_ble_eq_true rfl) (c_tries hi h (k / 2) _ 0 kh0 kh (by omega) (by omega) hb) ?_
        intro τ1 hq1
        obtain ⟨h1, hA, hf, hf2⟩ := hq1
        refine g_ifb_eq (tgt := 70) dX7_nextQuarter_43 (by decide) (fun h43 => g_iinc dX7_nextQuarter_70 rfl (by decide) (g_goto (tgt := 11) dX7_nextQuarter_73 (by decide) (ih (k + 1) le be _ τ1 e1 e2 e3 (h1.ifn h43) (fun a ha => by rw [hf a (by omega) (by omega) (by omega)]; exact hkp a ha) hlb (by rw [hsu, if_neg (fun q => h43 q.1)])))) (fun h43 => ?_)
        refine g_aload_n dX7_nextQuarter_46 rfl ?_
        refine g_eV0 dX7_nextQuarter_47 qX7_147 rfl (by decide) (by decide) (Nat.le_of_ble_eq_true rfl) (c_worst (mkV_inv (m := 100) hi (k / 2) (1) kh0 kh (by omega) (by omega) (by omega)) (h1.ifp h43)) ?_
        intro τ2 hq2
        obtain ⟨h2, hc2⟩ := hq2
        refine g_lstore dX7_nextQuarter_50 (by decide) ?_
        refine g_aload_n dX7_nextQuarter_52 rfl ?_
        refine g_iconst dX7_nextQuarter_53 ?_
        refine g_vV1 dX7_nextQuarter_54 qX7_164 rfl (by decide) (by decide) (Nat.le_of_ble_eq_true rfl) (c_bring 0 (by omega) hN.2 h h2 (like_mk V (k / 2) (1)) (hA.keep (fun j _ _ => by rw [hc2.1 40 (by decide) (by decide)]))) ?_
        intro τ3 hq3
        obtain ⟨h3, hc3⟩ := hq3
        have hk3 : keepM σ τ3 := fun a ha => by rw [hc3 a (by omega) (by omega), hc2.1 a (by omega) (by omega), hf a (by omega) (by omega) (by omega)]; exact hkp a ha
        have hwb := wstV_b (mkV_inv (m := 100) hi (k / 2) (1) kh0 kh (by omega) (by omega) (by omega))
        refine g_lload dX7_nextQuarter_57 rfl ?_
        refine g_lload_n dX7_nextQuarter_59 rfl ?_
        refine g_lcmp_ge (tgt := 70) dX7_nextQuarter_60 dX7_nextQuarter_61 (by decide) (by omega) (by omega) (fun h60 => g_iinc dX7_nextQuarter_70 rfl (by decide) (g_goto (tgt := 11) dX7_nextQuarter_73 (by decide) (ih (k + 1) le be _ τ3 e1 e2 e3 h3 hk3 hlb (by rw [hsu, if_neg (fun q => by have := q.2; dsimp only at this; omega)])))) (fun h60 => ?_)
        refine g_lload dX7_nextQuarter_64 rfl ?_
        refine g_lstore_n (i := 1) dX7_nextQuarter_66 rfl (by decide) ?_
        refine g_iload dX7_nextQuarter_67 rfl ?_
        refine g_istore_n (i := 3) dX7_nextQuarter_69 rfl (by decide) ?_
        refine g_iinc dX7_nextQuarter_70 rfl (by decide) ?_
        refine g_goto (tgt := 11) dX7_nextQuarter_73 (by decide) ?_
        exact ih (k + 1) _ _ _ τ3 e1 e2 e3 h3 hk3 hwb (by rw [hsu, if_pos ⟨h43, h60⟩])

theorem c_nq {b : Int} {V σ : Mem} (hi : Inv b V) (h : RM V σ) (hb : b + 200000 ≤ 500000000) : Ret 41 mX7_nextQuarter [aR 30] σ (fun o τ => o = some (aI (nqV V)) ∧ (RM V τ ∧ keepM σ τ)) := by
  refine Ret.of [some (aR 30), none, none, none, none, none, none] rfl (plainFor_of_name (by decide)) (Nat.le_of_ble_eq_true rfl) ?_
  have hN := hi.N2
  have hc : cac σ σ := cac.rfl
  have hwb := wstV_b hi
  refine g_aload_n dX7_nextQuarter_0 rfl ?_
  refine g_eV0 dX7_nextQuarter_1 qX7_147 rfl (by decide) (by decide) (Nat.le_of_ble_eq_true rfl) (c_worst hi h) ?_
  intro τ hq
  obtain ⟨h, hc1⟩ := hq
  replace hc := hc.trans hc1
  refine g_lstore_n (i := 1) dX7_nextQuarter_4 rfl (by decide) ?_
  refine g_ldc dX7_nextQuarter_5 kX7_146 ?_
  refine g_istore_n (i := 3) dX7_nextQuarter_7 rfl (by decide) ?_
  refine g_iconst dX7_nextQuarter_8 ?_
  refine g_istore dX7_nextQuarter_9 (by decide) ?_
  exact c_nq_lp hi hb 65 0 _ _ _ _ (by omega) (by omega) (by omega) h hc.keepM hwb rfl

theorem k_next {b : Int} {V σ : Mem} (hi : Inv b V) (h : RM V σ) (hb : b + 200000 ≤ 500000000) : Ret 41 mX7_next_ [aR 30] σ (OM σ (p_next V)) := by
  refine Ret.of [some (aR 30)] rfl (plainFor_of_name (by decide)) (Nat.le_of_ble_eq_true rfl) ?_
  refine g_aload_n dX7_next__0 rfl ?_
  refine g_eV0 dX7_next__1 qX7_174 rfl (by decide) (by decide) (Nat.le_of_ble_eq_true rfl) (c_nq hi h hb) ?_
  intro τ hq
  obtain ⟨h2, hc2⟩ := hq
  exact g_iret dX7_next__4 trivial ⟨rfl, h2, hc2⟩

theorem plan_stop {m : Nat} {V : Mem} (h : m = 0 ∨ V 17 0 = 60) : planV m V = (0, V) := by
  cases m with
  | zero => rfl
  | succ m => exact if_pos (Or.inl (by omega))

theorem k_plan_lp {σ : Mem} (q : Int) (hq : 1 ≤ q ∧ q ≤ 60) : ∀ (fu m : Nat) (d b : Int) (V τ : Mem) (x3 x4 : Option AV), m < fu → d + m = q → 0 ≤ d → Inv b V → b + 200000 + 2000 * m ≤ 500000000 → RM V τ → keepM σ τ → Go 41 mX7_plan 15 [some (aR 30), some (aI q), some (aI d), x3, x4] [] τ (OM σ (d + (planV m V).1, (planV m V).2)) := by
  intro fu
  induction fu with
  | zero => intros; omega
  | succ fu ih =>
    intro m d b V τ x3 x4 hmf hdm d0 hi hb h hkp
    have hN := hi.N2
    have hmm := hi.many
    have hbb := hi.b
    refine g_iload_n dX7_plan_15 rfl ?_
    refine g_iload_n dX7_plan_16 rfl ?_
    refine g_icmp_ge (tgt := 79) dX7_plan_17 (by decide) (by omega) (by omega) (fun h17 => ?_) (fun h17 => ?_)
    · refine g_iload_n dX7_plan_79 rfl ?_
      exact g_iret dX7_plan_80 trivial (OM.of (q := (d, V)) (by rw [plan_stop (by omega)]; simp) rfl h hkp)
    · obtain ⟨m, rfl⟩ : ∃ m' : Nat, m = m' + 1 := ⟨m - 1, by omega⟩
      refine g_aload_n dX7_plan_20 rfl ?_
      refine g_getI (ji := 9) rfl dX7_plan_21 fX7_61 rfl rfl (by decide) ?_
      rw [h.many]
      refine g_bipush (v := 60) dX7_plan_24 (by decide) ?_
      refine g_icmp_ge (tgt := 79) dX7_plan_26 (by decide) (by omega) (by omega) (fun h26 => ?_) (fun h26 => ?_)
      · refine g_iload_n dX7_plan_79 rfl ?_
        exact g_iret dX7_plan_80 trivial (OM.of (q := (d, V)) (by rw [plan_stop (by omega)]; simp) rfl h hkp)
      · refine g_aload_n dX7_plan_29 rfl ?_
        refine g_eV0 dX7_plan_30 qX7_174 rfl (by decide) (by decide) (Nat.le_of_ble_eq_true rfl) (c_nq hi h (by omega)) ?_
        intro τ1 hq1
        obtain ⟨h, hc1⟩ := hq1
        replace hkp := hkp.trans hc1
        refine g_istore_n (i := 3) dX7_plan_33 rfl (by decide) ?_
        have hn32 : i32 (nqV V) := by
          by_cases hne : nqV V = cNone
          · rw [hne]; decide
          · have := nqV_b hi hne; omega
        refine g_iload_n dX7_plan_34 rfl ?_
        refine g_ldc dX7_plan_35 kX7_146 ?_
        refine g_icmp_ne (tgt := 42) dX7_plan_37 (by decide) (by omega) (by omega) (fun h37 => ?_) (fun h37 => ?_)
        · have hnb := nqV_b hi h37
          have hpl : planV (m + 1) V = ((planV m (addV (mkV V (nqV V / 2) (qOf (nqV V))) (nqV V / 2) (qOf (nqV V)))).1 + 1, (planV m (addV (mkV V (nqV V / 2) (qOf (nqV V))) (nqV V / 2) (qOf (nqV V)))).2) := by
            show (if V 17 0 = 60 ∨ nqV V = cNone then _ else _) = _
            rw [if_neg (by rintro (z | z); omega; exact h37 z)]
          have kh0 : 0 ≤ nqV V / 2 := by omega
          have kh : nqV V / 2 < V 0 0 := by omega
          refine g_iload_n dX7_plan_42 rfl ?_
          refine g_iconst dX7_plan_43 ?_
          refine g_irem dX7_plan_44 (by omega) (by omega) (by omega) ?_
          rw [modN0 hnb.1]
          refine g_if_ne (tgt := 52) dX7_plan_45 (by decide) (by omega) (fun h45 => ?_) (fun h45 => ?_)
          · have hqk : qOf (nqV V) = -1 := if_neg h45
            rw [hqk] at hpl
            refine g_iconst dX7_plan_52 ?_
            refine g_istore dX7_plan_53 (by decide) ?_
            refine g_aload_n dX7_plan_55 rfl ?_
            refine g_iload_n dX7_plan_56 rfl ?_
            refine g_iconst dX7_plan_57 ?_
            refine g_idiv dX7_plan_58 (by omega) (by omega) (by omega) ?_
            rw [Int.tdiv_eq_ediv_of_nonneg hnb.1]
            refine g_iload dX7_plan_59 rfl ?_
            refine g_vV2 dX7_plan_61 qX7_160 rfl (by decide) (by decide) (Nat.le_of_ble_eq_true rfl) (c_make hi h (nqV V / 2) _ kh0 kh (by omega)) ?_
            intro τ2 hq2
            obtain ⟨h2, hc2⟩ := hq2
            have hiW := mkV_inv (m := 1) hi (nqV V / 2) (-1) kh0 kh (by decide) (by decide) (by omega)
            refine g_aload_n dX7_plan_64 rfl ?_
            refine g_iload_n dX7_plan_65 rfl ?_
            refine g_iconst dX7_plan_66 ?_
            refine g_idiv dX7_plan_67 (by omega) (by omega) (by omega) ?_
            rw [Int.tdiv_eq_ediv_of_nonneg hnb.1]
            refine g_iload dX7_plan_68 rfl ?_
            refine g_vV2 dX7_plan_70 qX7_171 rfl (by decide) (by decide) (Nat.le_of_ble_eq_true rfl) (c_enterLog hiW h2 (nqV V / 2) _ (by rw [mkV_o (by decide) (by decide) (by decide)]; omega)) ?_
            intro τ3 hq3
            obtain ⟨h3, hc3⟩ := hq3
            refine g_iinc dX7_plan_73 rfl (by decide) ?_
            refine g_goto (tgt := 15) dX7_plan_76 (by decide) ?_
            have hfin := ih m (d + 1) _ _ _ (x3 := some (aI (nqV V))) (x4 := some (aI (-1))) (by omega) (by omega) (by omega) (Inv.add hiW (by rw [mkV_o (by decide) (by decide) (by decide)]; omega) kh0 (by rw [mkV_o (by decide) (by decide) (by decide)]; omega) (by decide)) (by omega) h3 (fun a ha => by rw [hc3 a (by omega) (by omega), hc2 a (by omega) (by omega)]; exact hkp a ha)
            rw [hpl]
            dsimp only
            rw [show d + ((planV m (addV (mkV V (nqV V / 2) (-1)) (nqV V / 2) (-1))).1 + 1) = d + 1 + (planV m (addV (mkV V (nqV V / 2) (-1)) (nqV V / 2) (-1))).1 by omega]
            exact hfin
          · have hqk : qOf (nqV V) = 1 := if_pos h45
            rw [hqk] at hpl
            refine g_iconst dX7_plan_48 ?_
            refine g_goto (tgt := 53) dX7_plan_49 (by decide) ?_
            refine g_istore dX7_plan_53 (by decide) ?_
            refine g_aload_n dX7_plan_55 rfl ?_
            refine g_iload_n dX7_plan_56 rfl ?_
            refine g_iconst dX7_plan_57 ?_
            refine g_idiv dX7_plan_58 (by omega) (by omega) (by omega) ?_
            rw [Int.tdiv_eq_ediv_of_nonneg hnb.1]
            refine g_iload dX7_plan_59 rfl ?_
            refine g_vV2 dX7_plan_61 qX7_160 rfl (by decide) (by decide) (Nat.le_of_ble_eq_true rfl) (c_make hi h (nqV V / 2) _ kh0 kh (by omega)) ?_
            intro τ2 hq2
            obtain ⟨h2, hc2⟩ := hq2
            have hiW := mkV_inv (m := 1) hi (nqV V / 2) (1) kh0 kh (by decide) (by decide) (by omega)
            refine g_aload_n dX7_plan_64 rfl ?_
            refine g_iload_n dX7_plan_65 rfl ?_
            refine g_iconst dX7_plan_66 ?_
            refine g_idiv dX7_plan_67 (by omega) (by omega) (by omega) ?_
            rw [Int.tdiv_eq_ediv_of_nonneg hnb.1]
            refine g_iload dX7_plan_68 rfl ?_
            refine g_vV2 dX7_plan_70 qX7_171 rfl (by decide) (by decide) (Nat.le_of_ble_eq_true rfl) (c_enterLog hiW h2 (nqV V / 2) _ (by rw [mkV_o (by decide) (by decide) (by decide)]; omega)) ?_
            intro τ3 hq3
            obtain ⟨h3, hc3⟩ := hq3
            refine g_iinc dX7_plan_73 rfl (by decide) ?_
            refine g_goto (tgt := 15) dX7_plan_76 (by decide) ?_
            have hfin := ih m (d + 1) _ _ _ (x3 := some (aI (nqV V))) (x4 := some (aI (1))) (by omega) (by omega) (by omega) (Inv.add hiW (by rw [mkV_o (by decide) (by decide) (by decide)]; omega) kh0 (by rw [mkV_o (by decide) (by decide) (by decide)]; omega) (by decide)) (by omega) h3 (fun a ha => by rw [hc3 a (by omega) (by omega), hc2 a (by omega) (by omega)]; exact hkp a ha)
            rw [hpl]
            dsimp only
            rw [show d + ((planV m (addV (mkV V (nqV V / 2) (1)) (nqV V / 2) (1))).1 + 1) = d + 1 + (planV m (addV (mkV V (nqV V / 2) (1)) (nqV V / 2) (1))).1 by omega]
            exact hfin
        · refine g_iload_n dX7_plan_40 rfl ?_
          exact g_iret dX7_plan_41 trivial (OM.of (q := (d, V)) (by show (d + (planV (m + 1) V).1, (planV (m + 1) V).2) = _; rw [show planV (m + 1) V = (0, V) from if_pos (Or.inr h37)]; simp) rfl h hkp)

theorem k_plan {b : Int} {V σ : Mem} (hi : Inv b V) (h : RM V σ) (q : Int) (i_q : i32 q) (hb : b + 200000 + 120000 ≤ 500000000) : Ret 41 mX7_plan [aR 30, aI q] σ (OM σ (p_plan V q)) := by
  refine Ret.of [some (aR 30), some (aI q), none, none, none] rfl (plainFor_of_name (by decide)) (Nat.le_of_ble_eq_true rfl) ?_
  have hN := hi.N2
  refine g_iload_n dX7_plan_0 rfl ?_
  refine g_iconst dX7_plan_1 ?_
  refine g_bipush (v := 60) dX7_plan_2 (by decide) ?_
  refine g_pS3 dX7_plan_4 sX7_70 (by decide) (Nat.le_of_ble_eq_true rfl) (c_isIn _ _ _ (by omega) (by omega) (by omega)) ?_
  refine g_ifb_ne (tgt := 13) dX7_plan_7 (by decide) (fun h7 => ?_) (fun h7 => ?_)
  · refine g_iconst dX7_plan_13 ?_
    refine g_istore_n (i := 2) dX7_plan_14 rfl (by decide) ?_
    have e : p_plan V q = (0 + (planV q.toNat V).1, (planV q.toNat V).2) := by
      unfold p_plan
      rw [if_neg (by omega)]
      simp
    rw [e]
    exact k_plan_lp q (by omega) 61 q.toNat 0 b V σ _ _ (by omega) (by omega) (by omega) hi (by omega) h keepM.rfl
  · refine g_ldc dX7_plan_10 kX7_78 ?_
    exact g_iret dX7_plan_12 trivial (OM.of (q := (cBad, V)) (by unfold p_plan; rw [if_pos (by omega)]) rfl h keepM.rfl)
