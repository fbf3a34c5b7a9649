def bgX (σ τ : Mem) (n k : Int) : Prop := τ 10 6 = n ∧ (∀ j, 0 ≤ j → j < k → τ 11 j = (if j % 2 = 0 then 1 else 2) ∧ τ 12 j = 500 ∧ τ 14 j = -10000 ∧ τ 15 j = -10000 ∧ τ 17 j = 0 ∧ τ 18 j = 0 ∧ τ 20 j = 0 ∧ τ 21 j = 0 ∧ τ 41 j = lw n j) ∧ (∀ a, (a < 10 ∨ a = 13 ∨ a = 16 ∨ a = 19 ∨ (21 < a ∧ a ≠ 41)) → τ a = σ a) ∧ (∀ j, j ≠ 6 → τ 10 j = σ 10 j)
theorem bgX.step {σ τ τ' : Mem} {n k : Int} (h : bgX σ τ n k) (e1 : τ' 11 = up τ 11 k (if k % 2 = 0 then 1 else 2) 11) (e2 : τ' 12 = up τ 12 k 500 12) (e3 : τ' 14 = up τ 14 k (-10000) 14) (e4 : τ' 15 = up τ 15 k (-10000) 15) (e5 : τ' 17 = up τ 17 k 0 17) (e6 : τ' 18 = up τ 18 k 0 18) (e7 : τ' 20 = up τ 20 k 0 20) (e8 : τ' 21 = up τ 21 k 0 21) (e10 : τ' 41 = up τ 41 k (lw n k) 41) (e9 : ∀ a, (a < 11 ∨ a = 13 ∨ a = 16 ∨ a = 19 ∨ (21 < a ∧ a ≠ 41)) → τ' a = τ a) : bgX σ τ' n (k + 1) := by
  obtain ⟨a0, a1, a2, a3⟩ := h
  unfold bgX
  rw [e1, e2, e3, e4, e5, e6, e7, e8, e10, e9 10 (by omega)]
  refine ⟨a0, fun j j0 j1 => ?_, fun a ha => (e9 a (by omega)).trans (a2 a ha), a3⟩
  by_cases hj : j = k
  · subst hj
    exact ⟨up_same, up_same, up_same, up_same, up_same, up_same, up_same, up_same, up_same⟩
  · obtain ⟨b1, b2, b3, b4, b5, b6, b7, b8, b9⟩ := a1 j j0 (by omega)
    rw [up_ne (Or.inr hj), up_ne (Or.inr hj), up_ne (Or.inr hj), up_ne (Or.inr hj), up_ne (Or.inr hj), up_ne (Or.inr hj), up_ne (Or.inr hj), up_ne (Or.inr hj), up_ne (Or.inr hj)]
    exact ⟨b1, b2, b3, b4, b5, b6, b7, b8, b9⟩
theorem unbF_no {f : Int → Int} {N p : Int} (h : ∀ j, f j = -10000) : unbF f N p = 0 := by
  have e : nxS f N p (-1) = 0 := by
    unfold nxS
    rw [firstI_no (by decide) (fun q _ _ => by simp [h])]
    rfl
  unfold unbF
  rw [if_neg (by simp [h]), if_pos (Or.inl e)]
theorem RX.whl {V σ τ : Mem} {n : Int} (h : RX V σ) (hn : n = 8 ∨ n = 16 ∨ n = 32) (hb : bgX σ τ n n) : RX (whlV V n) (up τ 26 2 0) := by
  obtain ⟨a0, a1, a2, a3⟩ := hb
  have hu : ∀ r : Nat, r < 2 → ∀ j, unb (whlV V n) r j = 0 := fun r hr j => by
    unfold unb
    refine unbF_no (fun q => ?_)
    simp only [whlV]
    rw [if_neg (by omega), if_neg (by omega), if_neg (by omega), if_neg (by omega), if_pos (by omega)]
  unfold RX at h ⊢
  obtain ⟨g1, g2, g3, g4, g5, g6, g7, g8, g9, g10⟩ := h
  have e0 : whlV V n 0 0 = n := by simp [whlV]
  have e17 : whlV V n 17 0 = 0 := by simp [whlV]
  rw [e0, e17]
  refine ⟨⟨by rw [up_cell (by decide)]; exact a0, fun d d0 d1 => by rw [up_cell (by decide)]; exact (a1 d d0 d1).2.2.2.2.2.2.2.2⟩, fun j j0 j1 => ?_, fun r hr j j0 j1 => ?_, fun t ht => ?_, fun t ht d d0 d1 => ?_, fun i i0 i1 => ?_, up_same, fun i i0 i1 => by omega, ?_, ?_⟩
  · obtain ⟨b1, b2, -⟩ := a1 j j0 j1
    rw [up_cell (by decide), up_cell (by decide), b1, b2]
    exact ⟨by simp [whlV], by simp [whlV]⟩
  · obtain ⟨-, -, b3, b4, b5, b6, b7, b8, -⟩ := a1 j j0 j1
    rw [hu r hr, up_cell (by omega), up_cell (by omega), up_cell (by omega)]
    rcases (show r = 0 ∨ r = 1 by omega) with rfl | rfl
    · exact ⟨by rw [b7]; simp [whlV], by rw [b3]; simp [whlV], b5⟩
    · exact ⟨by rw [b8]; simp [whlV], by rw [b4]; simp [whlV], b6⟩
  · rw [up_cell (by decide), a2 9 (by omega), g4 t ht]; simp [whlV]
  · rw [up_cell (by omega), a2 (3 + t) (by omega), g5 t ht d d0 d1]
    simp only [whlV]
    rw [if_neg (by omega), if_neg (by omega), if_neg (by omega), if_neg (by omega), if_neg (by omega), if_neg (by omega)]
  · rw [up_cell (by decide), a2 22 (by omega), g6 i i0 i1]; simp [whlV]
  · rw [up_cell (by decide), a2 29 (by omega)]
    simpa [whlV] using g9
  · rw [up_cell (by decide), up_cell (by decide), up_cell (by decide), up_cell (by decide), up_cell (by decide), up_cell (by decide), up_cell (by decide), up_cell (by decide), a2 100 (by omega), a2 101 (by omega), a2 102 (by omega), a2 103 (by omega), a2 200 (by omega), a2 201 (by omega), a2 202 (by omega), a2 203 (by omega)]
    exact g10

theorem x_begin_lp {K : Nat} (hK : 30 ≤ K ∧ K ≤ 41) {σ : Mem} (q : Int) (hq : 0 ≤ q ∧ q ≤ 32) : ∀ (fu : Nat) (k : Int) (x3 : Option AV) (τ : Mem), 0 ≤ k → k ≤ q → q - k < fu → bgX σ τ q k → Go K mX5_begin 7 [some (aR 10), some (aI q), some (aI k), x3] [] τ (fun o τ => o = none ∧ bgX σ τ q q) := by
  intro fu
  induction fu with
  | zero => intros; omega
  | succ fu ih =>
    intro k x3 τ k0 k1 kn hb
    refine g_iload_n dX5_begin_7 rfl ?_
    refine g_iload_n dX5_begin_8 rfl ?_
    refine g_icmp_ge (tgt := 99) dX5_begin_9 (by decide) (by omega) (by omega) (fun h9 => ?_) (fun h9 => ?_)
    · exact g_vret dX5_begin_99 trivial ⟨rfl, by rw [show k = q by omega] at hb; exact hb⟩
    · refine g_aload_n dX5_begin_12 rfl ?_
      refine g_getR dX5_begin_13 fX5_29 rfl rfl (by omega) ?_
      refine g_iload_n dX5_begin_16 rfl ?_
      refine g_iload_n dX5_begin_17 rfl ?_
      refine g_iload_n dX5_begin_18 rfl ?_
      refine g_iload_n dX5_begin_19 rfl ?_
      refine g_isub dX5_begin_20 ?_
      refine g_pS2 dX5_begin_21 sX5_36 (by decide) (Nat.le_of_ble_eq_true rfl) (c_minI (by omega) (by omega)) ?_
      refine g_lwstore dX5_begin_24 rfl (by omega) (by omega) (by omega) (by decide) ?_
      refine g_aload_n dX5_begin_25 rfl ?_
      refine g_getR dX5_begin_26 fX5_9 rfl rfl (by omega) ?_
      refine g_iload_n dX5_begin_29 rfl ?_
      refine g_iload_n dX5_begin_30 rfl ?_
      refine g_iconst dX5_begin_31 ?_
      refine g_irem dX5_begin_32 (by omega) (by omega) (by omega) ?_
      rw [modN0 k0]
      refine g_if_ne (tgt := 40) dX5_begin_33 (by decide) (by omega) (fun h33 => ?_) (fun h33 => ?_)
      · refine g_iconst dX5_begin_40 ?_
        refine g_iastore dX5_begin_41 rfl (by omega) (by decide) (by omega) (by omega) (by decide) ?_
        refine g_aload_n dX5_begin_42 rfl ?_
        refine g_getR dX5_begin_43 fX5_15 rfl rfl (by omega) ?_
        refine g_iload_n dX5_begin_46 rfl ?_
        refine g_sipush (v := 500) dX5_begin_47 (by decide) ?_
        refine g_iastore dX5_begin_50 rfl (by omega) (by decide) (by omega) (by omega) (by decide) ?_
        refine g_iconst dX5_begin_51 ?_
        refine g_istore_n (i := 3) dX5_begin_52 rfl (by decide) ?_
        refine g_iload_n dX5_begin_53 rfl ?_
        refine g_iconst dX5_begin_54 ?_
        refine g_icmp_ge (tgt := 93) dX5_begin_55 (by decide) (by decide) (by decide) (fun h => absurd h (by decide)) (fun _ => ?_)
        refine g_aload_n dX5_begin_58 rfl ?_
        refine g_getR dX5_begin_59 fX5_20 rfl rfl (by omega) ?_
        refine g_iload_n dX5_begin_62 rfl ?_
        refine g_aaload (q := 14) dX5_begin_63 rfl (by omega) (by decide) (by decide) (by decide) rfl ?_
        refine g_iload_n dX5_begin_64 rfl ?_
        refine g_sipush (v := -10000) dX5_begin_65 (by decide) ?_
        refine g_iastore dX5_begin_68 rfl (by omega) (by decide) (by omega) (by omega) (by decide) ?_
        refine g_aload_n dX5_begin_69 rfl ?_
        refine g_getR dX5_begin_70 fX5_23 rfl rfl (by omega) ?_
        refine g_iload_n dX5_begin_73 rfl ?_
        refine g_aaload (q := 17) dX5_begin_74 rfl (by omega) (by decide) (by decide) (by decide) rfl ?_
        refine g_iload_n dX5_begin_75 rfl ?_
        refine g_iconst dX5_begin_76 ?_
        refine g_iastore dX5_begin_77 rfl (by omega) (by decide) (by omega) (by omega) (by decide) ?_
        refine g_aload_n dX5_begin_78 rfl ?_
        refine g_getR dX5_begin_79 fX5_26 rfl rfl (by omega) ?_
        refine g_iload_n dX5_begin_82 rfl ?_
        refine g_aaload (q := 20) dX5_begin_83 rfl (by omega) (by decide) (by decide) (by decide) rfl ?_
        refine g_iload_n dX5_begin_84 rfl ?_
        refine g_iconst dX5_begin_85 ?_
        refine g_iastore dX5_begin_86 rfl (by omega) (by decide) (by omega) (by omega) (by decide) ?_
        refine g_iinc dX5_begin_87 rfl (by decide) ?_
        refine g_goto (tgt := 53) dX5_begin_90 (by decide) ?_
        refine g_iload_n dX5_begin_53 rfl ?_
        refine g_iconst dX5_begin_54 ?_
        refine g_icmp_ge (tgt := 93) dX5_begin_55 (by decide) (by decide) (by decide) (fun h => absurd h (by decide)) (fun _ => ?_)
        refine g_aload_n dX5_begin_58 rfl ?_
        refine g_getR dX5_begin_59 fX5_20 rfl rfl (by omega) ?_
        refine g_iload_n dX5_begin_62 rfl ?_
        refine g_aaload (q := 15) dX5_begin_63 rfl (by omega) (by decide) (by decide) (by decide) rfl ?_
        refine g_iload_n dX5_begin_64 rfl ?_
        refine g_sipush (v := -10000) dX5_begin_65 (by decide) ?_
        refine g_iastore dX5_begin_68 rfl (by omega) (by decide) (by omega) (by omega) (by decide) ?_
        refine g_aload_n dX5_begin_69 rfl ?_
        refine g_getR dX5_begin_70 fX5_23 rfl rfl (by omega) ?_
        refine g_iload_n dX5_begin_73 rfl ?_
        refine g_aaload (q := 18) dX5_begin_74 rfl (by omega) (by decide) (by decide) (by decide) rfl ?_
        refine g_iload_n dX5_begin_75 rfl ?_
        refine g_iconst dX5_begin_76 ?_
        refine g_iastore dX5_begin_77 rfl (by omega) (by decide) (by omega) (by omega) (by decide) ?_
        refine g_aload_n dX5_begin_78 rfl ?_
        refine g_getR dX5_begin_79 fX5_26 rfl rfl (by omega) ?_
        refine g_iload_n dX5_begin_82 rfl ?_
        refine g_aaload (q := 21) dX5_begin_83 rfl (by omega) (by decide) (by decide) (by decide) rfl ?_
        refine g_iload_n dX5_begin_84 rfl ?_
        refine g_iconst dX5_begin_85 ?_
        refine g_iastore dX5_begin_86 rfl (by omega) (by decide) (by omega) (by omega) (by decide) ?_
        refine g_iinc dX5_begin_87 rfl (by decide) ?_
        refine g_goto (tgt := 53) dX5_begin_90 (by decide) ?_
        refine g_iload_n dX5_begin_53 rfl ?_
        refine g_iconst dX5_begin_54 ?_
        refine g_icmp_ge (tgt := 93) dX5_begin_55 (by decide) (by decide) (by decide) (fun _ => ?_) (fun h => absurd h (by decide))
        refine g_iinc dX5_begin_93 rfl (by decide) ?_
        refine g_goto (tgt := 7) dX5_begin_96 (by decide) ?_
        exact ih (k + 1) _ _ (by omega) (by omega) (by omega) (hb.step (by first | (rw [if_pos (show k % 2 = 0 by omega)]; rfl) | (rw [if_neg (show ¬ k % 2 = 0 by omega)]; rfl)) rfl rfl rfl rfl rfl rfl rfl rfl (fun a ha => by rw [up_cell (by omega), up_cell (by omega), up_cell (by omega), up_cell (by omega), up_cell (by omega), up_cell (by omega), up_cell (by omega), up_cell (by omega), up_cell (by omega)]))
      · refine g_iconst dX5_begin_36 ?_
        refine g_goto (tgt := 41) dX5_begin_37 (by decide) ?_
        refine g_iastore dX5_begin_41 rfl (by omega) (by decide) (by omega) (by omega) (by decide) ?_
        refine g_aload_n dX5_begin_42 rfl ?_
        refine g_getR dX5_begin_43 fX5_15 rfl rfl (by omega) ?_
        refine g_iload_n dX5_begin_46 rfl ?_
        refine g_sipush (v := 500) dX5_begin_47 (by decide) ?_
        refine g_iastore dX5_begin_50 rfl (by omega) (by decide) (by omega) (by omega) (by decide) ?_
        refine g_iconst dX5_begin_51 ?_
        refine g_istore_n (i := 3) dX5_begin_52 rfl (by decide) ?_
        refine g_iload_n dX5_begin_53 rfl ?_
        refine g_iconst dX5_begin_54 ?_
        refine g_icmp_ge (tgt := 93) dX5_begin_55 (by decide) (by decide) (by decide) (fun h => absurd h (by decide)) (fun _ => ?_)
        refine g_aload_n dX5_begin_58 rfl ?_
        refine g_getR dX5_begin_59 fX5_20 rfl rfl (by omega) ?_
        refine g_iload_n dX5_begin_62 rfl ?_
        refine g_aaload (q := 14) dX5_begin_63 rfl (by omega) (by decide) (by decide) (by decide) rfl ?_
        refine g_iload_n dX5_begin_64 rfl ?_
        refine g_sipush (v := -10000) dX5_begin_65 (by decide) ?_
        refine g_iastore dX5_begin_68 rfl (by omega) (by decide) (by omega) (by omega) (by decide) ?_
        refine g_aload_n dX5_begin_69 rfl ?_
        refine g_getR dX5_begin_70 fX5_23 rfl rfl (by omega) ?_
        refine g_iload_n dX5_begin_73 rfl ?_
        refine g_aaload (q := 17) dX5_begin_74 rfl (by omega) (by decide) (by decide) (by decide) rfl ?_
        refine g_iload_n dX5_begin_75 rfl ?_
        refine g_iconst dX5_begin_76 ?_
        refine g_iastore dX5_begin_77 rfl (by omega) (by decide) (by omega) (by omega) (by decide) ?_
        refine g_aload_n dX5_begin_78 rfl ?_
        refine g_getR dX5_begin_79 fX5_26 rfl rfl (by omega) ?_
        refine g_iload_n dX5_begin_82 rfl ?_
        refine g_aaload (q := 20) dX5_begin_83 rfl (by omega) (by decide) (by decide) (by decide) rfl ?_
        refine g_iload_n dX5_begin_84 rfl ?_
        refine g_iconst dX5_begin_85 ?_
        refine g_iastore dX5_begin_86 rfl (by omega) (by decide) (by omega) (by omega) (by decide) ?_
        refine g_iinc dX5_begin_87 rfl (by decide) ?_
        refine g_goto (tgt := 53) dX5_begin_90 (by decide) ?_
        refine g_iload_n dX5_begin_53 rfl ?_
        refine g_iconst dX5_begin_54 ?_
        refine g_icmp_ge (tgt := 93) dX5_begin_55 (by decide) (by decide) (by decide) (fun h => absurd h (by decide)) (fun _ => ?_)
        refine g_aload_n dX5_begin_58 rfl ?_
        refine g_getR dX5_begin_59 fX5_20 rfl rfl (by omega) ?_
        refine g_iload_n dX5_begin_62 rfl ?_
        refine g_aaload (q := 15) dX5_begin_63 rfl (by omega) (by decide) (by decide) (by decide) rfl ?_
        refine g_iload_n dX5_begin_64 rfl ?_
        refine g_sipush (v := -10000) dX5_begin_65 (by decide) ?_
        refine g_iastore dX5_begin_68 rfl (by omega) (by decide) (by omega) (by omega) (by decide) ?_
        refine g_aload_n dX5_begin_69 rfl ?_
        refine g_getR dX5_begin_70 fX5_23 rfl rfl (by omega) ?_
        refine g_iload_n dX5_begin_73 rfl ?_
        refine g_aaload (q := 18) dX5_begin_74 rfl (by omega) (by decide) (by decide) (by decide) rfl ?_
        refine g_iload_n dX5_begin_75 rfl ?_
        refine g_iconst dX5_begin_76 ?_
        refine g_iastore dX5_begin_77 rfl (by omega) (by decide) (by omega) (by omega) (by decide) ?_
        refine g_aload_n dX5_begin_78 rfl ?_
        refine g_getR dX5_begin_79 fX5_26 rfl rfl (by omega) ?_
        refine g_iload_n dX5_begin_82 rfl ?_
        refine g_aaload (q := 21) dX5_begin_83 rfl (by omega) (by decide) (by decide) (by decide) rfl ?_
        refine g_iload_n dX5_begin_84 rfl ?_
        refine g_iconst dX5_begin_85 ?_
        refine g_iastore dX5_begin_86 rfl (by omega) (by decide) (by omega) (by omega) (by decide) ?_
        refine g_iinc dX5_begin_87 rfl (by decide) ?_
        refine g_goto (tgt := 53) dX5_begin_90 (by decide) ?_
        refine g_iload_n dX5_begin_53 rfl ?_
        refine g_iconst dX5_begin_54 ?_
        refine g_icmp_ge (tgt := 93) dX5_begin_55 (by decide) (by decide) (by decide) (fun _ => ?_) (fun h => absurd h (by decide))
        refine g_iinc dX5_begin_93 rfl (by decide) ?_
        refine g_goto (tgt := 7) dX5_begin_96 (by decide) ?_
        exact ih (k + 1) _ _ (by omega) (by omega) (by omega) (hb.step (by first | (rw [if_pos (show k % 2 = 0 by omega)]; rfl) | (rw [if_neg (show ¬ k % 2 = 0 by omega)]; rfl)) rfl rfl rfl rfl rfl rfl rfl rfl (fun a ha => by rw [up_cell (by omega), up_cell (by omega), up_cell (by omega), up_cell (by omega), up_cell (by omega), up_cell (by omega), up_cell (by omega), up_cell (by omega), up_cell (by omega)]))

theorem x_begin {K : Nat} (hK : 30 ≤ K ∧ K ≤ 41) {σ : Mem} (q : Int) (hq : 0 ≤ q ∧ q ≤ 32) : Ret K mX5_begin [aR 10, aI q] σ (fun o τ => o = none ∧ bgX σ τ q q) := by
  refine Ret.of [some (aR 10), some (aI q), none, none] rfl (plainFor_of_name (by decide)) (Nat.le_of_ble_eq_true rfl) ?_
  refine g_aload_n dX5_begin_0 rfl ?_
  refine g_iload_n dX5_begin_1 rfl ?_
  refine g_putI (ji := 6) rfl dX5_begin_2 vX5_32 rfl rfl (by omega) (by decide) ?_
  refine g_iconst dX5_begin_5 ?_
  refine g_istore_n (i := 2) dX5_begin_6 rfl (by decide) ?_
  exact x_begin_lp hK q hq 33 0 _ _ (by omega) (by omega) (by omega) ⟨up_same, fun j j0 j1 => by omega, fun a ha => up_cell (by omega), fun j hj => up_ne (Or.inr hj)⟩

theorem y_wheel {b : Int} {V σ : Mem} (hi : Inv b V) (h : RX V σ) (n : Int) (i_n : i32 n)  : Ret 41 mX6_wheel [aR 0, aI n] σ (OX σ (p_wheel V n)) := by
  refine Ret.of [some (aR 0), some (aI n)] rfl (plainFor_of_name (by decide)) (Nat.le_of_ble_eq_true rfl) ?_
  have hN := hi.N2
  refine g_iload_n dX6_wheel_0 rfl ?_
  refine g_bipush (v := 8) dX6_wheel_1 (by decide) ?_
  refine g_icmp_eq (tgt := 21) dX6_wheel_3 (by decide) (by omega) (by omega) (fun h3 => ?_) (fun h3 => ?_)
  · refine g_aload_n dX6_wheel_21 rfl ?_
    refine g_getR dX6_wheel_22 fX6_19 rfl rfl (by decide) ?_
    refine g_iload_n dX6_wheel_25 rfl ?_
    refine g_vV1 dX6_wheel_26 qX6_59 rfl (by decide) (by decide) (Nat.le_of_ble_eq_true rfl) (x_begin (by decide) n (by omega)) ?_
    intro τ hb
    refine g_aload_n dX6_wheel_29 rfl ?_
    refine g_getR dX6_wheel_30 fX6_48 rfl rfl (by decide) ?_
    refine g_iconst dX6_wheel_33 ?_
    refine g_putI (ji := 2) rfl dX6_wheel_34 vX6_64 rfl rfl (by decide) (by decide) ?_
    refine g_iload_n dX6_wheel_37 rfl ?_
    exact g_iret dX6_wheel_38 trivial (OX.of (q := (n, whlV V n)) (by unfold p_wheel; rw [if_pos (by omega)]) rfl (h.whl (by omega) hb) (fun a ha => by rw [up_cell (by omega)]; exact hb.2.2.1 a (by omega)))
  · refine g_iload_n dX6_wheel_6 rfl ?_
    refine g_bipush (v := 16) dX6_wheel_7 (by decide) ?_
    refine g_icmp_eq (tgt := 21) dX6_wheel_9 (by decide) (by omega) (by omega) (fun h9 => ?_) (fun h9 => ?_)
    · refine g_aload_n dX6_wheel_21 rfl ?_
      refine g_getR dX6_wheel_22 fX6_19 rfl rfl (by decide) ?_
      refine g_iload_n dX6_wheel_25 rfl ?_
      refine g_vV1 dX6_wheel_26 qX6_59 rfl (by decide) (by decide) (Nat.le_of_ble_eq_true rfl) (x_begin (by decide) n (by omega)) ?_
      intro τ hb
      refine g_aload_n dX6_wheel_29 rfl ?_
      refine g_getR dX6_wheel_30 fX6_48 rfl rfl (by decide) ?_
      refine g_iconst dX6_wheel_33 ?_
      refine g_putI (ji := 2) rfl dX6_wheel_34 vX6_64 rfl rfl (by decide) (by decide) ?_
      refine g_iload_n dX6_wheel_37 rfl ?_
      exact g_iret dX6_wheel_38 trivial (OX.of (q := (n, whlV V n)) (by unfold p_wheel; rw [if_pos (by omega)]) rfl (h.whl (by omega) hb) (fun a ha => by rw [up_cell (by omega)]; exact hb.2.2.1 a (by omega)))
    · refine g_iload_n dX6_wheel_12 rfl ?_
      refine g_bipush (v := 32) dX6_wheel_13 (by decide) ?_
      refine g_icmp_eq (tgt := 21) dX6_wheel_15 (by decide) (by omega) (by omega) (fun h15 => ?_) (fun h15 => ?_)
      · refine g_aload_n dX6_wheel_21 rfl ?_
        refine g_getR dX6_wheel_22 fX6_19 rfl rfl (by decide) ?_
        refine g_iload_n dX6_wheel_25 rfl ?_
        refine g_vV1 dX6_wheel_26 qX6_59 rfl (by decide) (by decide) (Nat.le_of_ble_eq_true rfl) (x_begin (by decide) n (by omega)) ?_
        intro τ hb
        refine g_aload_n dX6_wheel_29 rfl ?_
        refine g_getR dX6_wheel_30 fX6_48 rfl rfl (by decide) ?_
        refine g_iconst dX6_wheel_33 ?_
        refine g_putI (ji := 2) rfl dX6_wheel_34 vX6_64 rfl rfl (by decide) (by decide) ?_
        refine g_iload_n dX6_wheel_37 rfl ?_
        exact g_iret dX6_wheel_38 trivial (OX.of (q := (n, whlV V n)) (by unfold p_wheel; rw [if_pos (by omega)]) rfl (h.whl (by omega) hb) (fun a ha => by rw [up_cell (by omega)]; exact hb.2.2.1 a (by omega)))
      · refine g_ldc dX6_wheel_18 kX6_63 ?_
        exact g_iret dX6_wheel_20 trivial (OX.of (q := (cBad, V)) (by unfold p_wheel; rw [if_neg (by omega)]) rfl h keepX.rfl)

theorem x_nx_lp {σ : Mem} {f : Int → Int} {N : Int} (hN : N = 8 ∨ N = 16 ∨ N = 32) (r : Nat) (hr : r < 2) (hs : σ 10 6 = N) (hf : ∀ j, 0 ≤ j → j < N → σ (14 + r) j = f j) (hb : ∀ j, 0 ≤ j → j < N → -10000 ≤ f j ∧ f j ≤ 9999) (p y : Int) (p0 : 0 ≤ p) (p1 : p < N) (hy : y = 1 ∨ y = -1) : ∀ (n : Nat) (i : Int), 1 ≤ i → i ≤ N → N - i < n → (∀ q, 1 ≤ q → q < i → decide (f ((p + y * q) % N) ≠ -10000) = false) → Go 41 mX5_stepsToRead 3 [some (aR 10), some (aI r), some (aI p), some (aI y), some (aI i)] [] σ (fun o τ => o = some (aI (nxS f N p y)) ∧ τ = σ) := by
  intro n
  induction n with
  | zero => intros; omega
  | succ n ih =>
    intro i i0 i1 kn hfl
    have hyi : -i ≤ y * i ∧ y * i ≤ i := by rcases hy with rfl | rfl <;> omega
    have hm := modNb (p + y * i) hN
    have hrd := hf ((p + y * i) % N) hm.1 hm.2
    have hbd := hb ((p + y * i) % N) hm.1 hm.2
    refine g_iload dX5_stepsToRead_3 rfl ?_
    refine g_aload_n dX5_stepsToRead_5 rfl ?_
    refine g_getI (ji := 6) rfl dX5_stepsToRead_6 fX5_32 rfl rfl (by decide) ?_
    rw [hs]
    refine g_icmp_ge (tgt := 47) dX5_stepsToRead_9 (by decide) (by omega) (by omega) (fun h9 => ?_) (fun h9 => ?_)
    · refine g_iconst dX5_stepsToRead_47 ?_
      exact g_iret dX5_stepsToRead_48 trivial ⟨by
          unfold nxS
          rw [firstI_no (by omega) (fun q q0 q1 => hfl q q0 (by omega))]
          rfl, rfl⟩
    · refine g_aload_n dX5_stepsToRead_12 rfl ?_
      refine g_getR dX5_stepsToRead_13 fX5_20 rfl rfl (by decide) ?_
      refine g_iload_n dX5_stepsToRead_16 rfl ?_
      refine g_aaload dX5_stepsToRead_17 rfl (by decide) (by omega) (by omega) (by decide) (row_14 r (by omega)) ?_
      refine g_iload_n dX5_stepsToRead_18 rfl ?_
      refine g_iload_n dX5_stepsToRead_19 rfl ?_
      refine g_iload dX5_stepsToRead_20 rfl ?_
      refine g_imul dX5_stepsToRead_22 ?_
      refine g_iadd dX5_stepsToRead_23 ?_
      refine g_aload_n dX5_stepsToRead_24 rfl ?_
      refine g_getI (ji := 6) rfl dX5_stepsToRead_25 fX5_32 rfl rfl (by decide) ?_
      rw [hs]
      refine g_pS2 dX5_stepsToRead_28 sX5_59 (by decide) (Nat.le_of_ble_eq_true rfl) (c_fm (by omega) (by omega) (by omega)) ?_
      refine g_iaload dX5_stepsToRead_31 (shr_14 r hr) (by omega) hm.1 (by omega) (by decide) ?_
      rw [hrd]
      refine g_sipush (v := -10000) dX5_stepsToRead_32 (by decide) ?_
      refine g_icmp_eq (tgt := 41) dX5_stepsToRead_35 (by decide) (by omega) (by omega) (fun h35 => ?_) (fun h35 => ?_)
      · refine g_iinc dX5_stepsToRead_41 rfl (by decide) ?_
        refine g_goto (tgt := 3) dX5_stepsToRead_44 (by decide) ?_
        exact ih (i + 1) (by omega) (by omega) (by omega) (fun q q0 q1 => by
          by_cases hq : q = i
          · rw [hq]; simpa using h35
          · exact hfl q q0 (by omega))
      · refine g_iload dX5_stepsToRead_38 rfl ?_
        exact g_iret dX5_stepsToRead_40 trivial ⟨by
            unfold nxS
            rw [firstI_eq (k := i) (by omega) i0 (by omega) (by simpa using h35) hfl]
            congr 2
            omega, rfl⟩

theorem x_nx {σ : Mem} {f : Int → Int} {N : Int} (hN : N = 8 ∨ N = 16 ∨ N = 32) (r : Nat) (hr : r < 2) (hs : σ 10 6 = N) (hf : ∀ j, 0 ≤ j → j < N → σ (14 + r) j = f j) (hb : ∀ j, 0 ≤ j → j < N → -10000 ≤ f j ∧ f j ≤ 9999) (p y : Int) (p0 : 0 ≤ p) (p1 : p < N) (hy : y = 1 ∨ y = -1) : RetV 41 mX5_stepsToRead [aR 10, aI r, aI p, aI y] σ (aI (nxS f N p y)) := by
  refine Ret.of [some (aR 10), some (aI r), some (aI p), some (aI y), none] rfl (plainFor_of_name (by decide)) (Nat.le_of_ble_eq_true rfl) ?_
  refine g_iconst dX5_stepsToRead_0 ?_
  refine g_istore dX5_stepsToRead_1 (by decide) ?_
  exact x_nx_lp hN r hr hs hf hb p y p0 p1 hy 33 1 (by omega) (by omega) (by omega) (fun q q0 q1 => by omega)

theorem x_between {σ : Mem} {f : Int → Int} {N : Int} (hN : N = 8 ∨ N = 16 ∨ N = 32) (r : Nat) (hr : r < 2) (hs : σ 10 6 = N) (hf : ∀ j, 0 ≤ j → j < N → σ (14 + r) j = f j) (hb : ∀ j, 0 ≤ j → j < N → -10000 ≤ f j ∧ f j ≤ 9999) (p : Int) (p0 : 0 ≤ p) (p1 : p < N) : RetV 41 mX5_between [aR 10, aI r, aI p] σ (aI (unbF f N p)) := by
  refine Ret.of [some (aR 10), some (aI r), some (aI p), none, none, none, none, none] rfl (plainFor_of_name (by decide)) (Nat.le_of_ble_eq_true rfl) ?_
  have hrd := hf p p0 p1
  have hbd := hb p p0 p1
  have hb1 := nxS_b f N p (-1) (by omega)
  have hb2 := nxS_b f N p 1 (by omega)
  refine g_aload_n dX5_between_0 rfl ?_
  refine g_getR dX5_between_1 fX5_20 rfl rfl (by decide) ?_
  refine g_iload_n dX5_between_4 rfl ?_
  refine g_aaload dX5_between_5 rfl (by decide) (by omega) (by omega) (by decide) (row_14 r (by omega)) ?_
  refine g_astore_n (i := 3) dX5_between_6 rfl (by decide) ?_
  refine g_aload_n dX5_between_7 rfl ?_
  refine g_iload_n dX5_between_8 rfl ?_
  refine g_iaload dX5_between_9 (shr_14 r hr) (by omega) (by omega) (by omega) (by decide) ?_
  rw [hrd]
  refine g_sipush (v := -10000) dX5_between_10 (by decide) ?_
  refine g_icmp_eq (tgt := 20) dX5_between_13 (by decide) (by omega) (by omega) (fun h13 => ?_) (fun h13 => ?_)
  · refine g_aload_n dX5_between_20 rfl ?_
    refine g_iload_n dX5_between_21 rfl ?_
    refine g_iload_n dX5_between_22 rfl ?_
    refine g_iconst dX5_between_23 ?_
    refine g_pV3 dX5_between_24 qX5_55 rfl (by decide) (by decide) (Nat.le_of_ble_eq_true rfl) (x_nx hN r hr hs hf hb p (-1) p0 p1 (by omega)) ?_
    refine g_istore dX5_between_27 (by decide) ?_
    refine g_aload_n dX5_between_29 rfl ?_
    refine g_iload_n dX5_between_30 rfl ?_
    refine g_iload_n dX5_between_31 rfl ?_
    refine g_iconst dX5_between_32 ?_
    refine g_pV3 dX5_between_33 qX5_55 rfl (by decide) (by decide) (Nat.le_of_ble_eq_true rfl) (x_nx hN r hr hs hf hb p 1 p0 p1 (by omega)) ?_
    refine g_istore dX5_between_36 (by decide) ?_
    refine g_iload dX5_between_38 rfl ?_
    refine g_if_eq (tgt := 48) dX5_between_40 (by decide) (by omega) (fun h40 => ?_) (fun h40 => ?_)
    · refine g_iconst dX5_between_48 ?_
      exact g_iret dX5_between_49 trivial ⟨by unfold unbF; rw [if_neg (by omega), if_pos (by omega)], rfl⟩
    · refine g_iload dX5_between_43 rfl ?_
      refine g_if_ne (tgt := 50) dX5_between_45 (by decide) (by omega) (fun h45 => ?_) (fun h45 => ?_)
      · have m1 := modNb (p - nxS f N p (-1)) hN
        have m2 := modNb (p + nxS f N p 1) hN
        have a1 := hb _ m1.1 m1.2
        have a2 := hb _ m2.1 m2.2
        have z1 := mulb (a := f ((p - nxS f N p (-1)) % N)) (k := nxS f N p 1) (A := 10000) (B := 32) (by omega) (by omega) (by omega) (by omega) (by omega) (by omega)
        have z2 := mulb (a := f ((p + nxS f N p 1) % N)) (k := nxS f N p (-1)) (A := 10000) (B := 32) (by omega) (by omega) (by omega) (by omega) (by omega) (by omega)
        refine g_aload_n dX5_between_50 rfl ?_
        refine g_iload_n dX5_between_51 rfl ?_
        refine g_iload dX5_between_52 rfl ?_
        refine g_isub dX5_between_54 ?_
        refine g_aload_n dX5_between_55 rfl ?_
        refine g_getI (ji := 6) rfl dX5_between_56 fX5_32 rfl rfl (by decide) ?_
        rw [hs]
        refine g_pS2 dX5_between_59 sX5_59 (by decide) (Nat.le_of_ble_eq_true rfl) (c_fm (by omega) (by omega) (by omega)) ?_
        refine g_iaload dX5_between_62 (shr_14 r hr) (by omega) m1.1 (by omega) (by decide) ?_
        rw [hf _ m1.1 m1.2]
        refine g_istore dX5_between_63 (by decide) ?_
        refine g_aload_n dX5_between_65 rfl ?_
        refine g_iload_n dX5_between_66 rfl ?_
        refine g_iload dX5_between_67 rfl ?_
        refine g_iadd dX5_between_69 ?_
        refine g_aload_n dX5_between_70 rfl ?_
        refine g_getI (ji := 6) rfl dX5_between_71 fX5_32 rfl rfl (by decide) ?_
        rw [hs]
        refine g_pS2 dX5_between_74 sX5_59 (by decide) (Nat.le_of_ble_eq_true rfl) (c_fm (by omega) (by omega) (by omega)) ?_
        refine g_iaload dX5_between_77 (shr_14 r hr) (by omega) m2.1 (by omega) (by decide) ?_
        rw [hf _ m2.1 m2.2]
        refine g_istore dX5_between_78 (by decide) ?_
        refine g_iload dX5_between_80 rfl ?_
        refine g_iload dX5_between_82 rfl ?_
        refine g_imul dX5_between_84 ?_
        refine g_iload dX5_between_85 rfl ?_
        refine g_iload dX5_between_87 rfl ?_
        refine g_imul dX5_between_89 ?_
        refine g_iadd dX5_between_90 ?_
        refine g_iload dX5_between_91 rfl ?_
        refine g_iload dX5_between_93 rfl ?_
        refine g_iadd dX5_between_95 ?_
        refine g_pS2 dX5_between_96 sX5_62 (by decide) (Nat.le_of_ble_eq_true rfl) (c_fdI (by omega) (by omega) (by omega)) ?_
        exact g_iret dX5_between_99 trivial ⟨by unfold unbF; rw [if_neg (by omega), if_neg (by omega)], rfl⟩
      · refine g_iconst dX5_between_48 ?_
        exact g_iret dX5_between_49 trivial ⟨by unfold unbF; rw [if_neg (by omega), if_pos (by omega)], rfl⟩
  · refine g_aload_n dX5_between_16 rfl ?_
    refine g_iload_n dX5_between_17 rfl ?_
    refine g_iaload dX5_between_18 (shr_14 r hr) (by omega) (by omega) (by omega) (by decide) ?_
    rw [hrd]
    exact g_iret dX5_between_19 trivial ⟨by unfold unbF; rw [if_pos h13], rfl⟩

theorem x_lay_lp {σ : Mem} {f : Int → Int} {N : Int} (hN : N = 8 ∨ N = 16 ∨ N = 32) (r : Nat) (hr : r < 2) (hs : σ 10 6 = N) (hf : ∀ j, 0 ≤ j → j < N → σ (14 + r) j = f j) (hb : ∀ j, 0 ≤ j → j < N → -10000 ≤ f j ∧ f j ≤ 9999) : ∀ (n : Nat) (k : Int) (τ : Mem), 0 ≤ k → k ≤ N → N - k < n → (∀ j, 0 ≤ j → j < k → τ (17 + r) j = unbF f N j) → (∀ a, a ≠ 17 + r → τ a = σ a) → Go 41 mX5_layStraight 2 [some (aR 10), some (aI r), some (aI k)] [] τ (fun o τ => o = none ∧ ((∀ j, 0 ≤ j → j < N → τ (17 + r) j = unbF f N j) ∧ ∀ a, a ≠ 17 + r → τ a = σ a)) := by
  intro n
  induction n with
  | zero => intros; omega
  | succ n ih =>
    intro k τ k0 k1 kn t1 t2
    have hs2 : τ 10 6 = N := by rw [t2 10 (by omega)]; exact hs
    have hf2 : ∀ j, 0 ≤ j → j < N → τ (14 + r) j = f j := fun j a c => by rw [t2 (14 + r) (by omega)]; exact hf j a c
    refine g_iload_n dX5_layStraight_2 rfl ?_
    refine g_aload_n dX5_layStraight_3 rfl ?_
    refine g_getI (ji := 6) rfl dX5_layStraight_4 fX5_32 rfl rfl (by decide) ?_
    rw [hs2]
    refine g_icmp_ge (tgt := 30) dX5_layStraight_7 (by decide) (by omega) (by omega) (fun h7 => ?_) (fun h7 => ?_)
    · exact g_vret dX5_layStraight_30 trivial ⟨rfl, fun j a c => t1 j a (by omega), t2⟩
    · refine g_aload_n dX5_layStraight_10 rfl ?_
      refine g_getR dX5_layStraight_11 fX5_23 rfl rfl (by decide) ?_
      refine g_iload_n dX5_layStraight_14 rfl ?_
      refine g_aaload dX5_layStraight_15 rfl (by decide) (by omega) (by omega) (by decide) (row_17 r (by omega)) ?_
      refine g_iload_n dX5_layStraight_16 rfl ?_
      refine g_aload_n dX5_layStraight_17 rfl ?_
      refine g_iload_n dX5_layStraight_18 rfl ?_
      refine g_iload_n dX5_layStraight_19 rfl ?_
      refine g_pV2 dX5_layStraight_20 qX5_52 rfl (by decide) (by decide) (Nat.le_of_ble_eq_true rfl) (x_between hN r hr hs2 hf2 hb k k0 (by omega)) ?_
      refine g_iastore dX5_layStraight_23 (shr_17 r (by omega)) (by omega) (by omega) (by omega) (by omega) (by decide) ?_
      refine g_iinc dX5_layStraight_24 rfl (by decide) ?_
      refine g_goto (tgt := 2) dX5_layStraight_27 (by decide) ?_
      exact ih (k + 1) _ (by omega) (by omega) (by omega) (fun j a c => by
        by_cases hj : j = k
        · rw [hj, up_same]
        · rw [up_ne (Or.inr hj)]; exact t1 j a (by omega)) (fun a a1 => by rw [up_cell a1]; exact t2 a a1)

theorem x_layStraight {σ : Mem} {f : Int → Int} {N : Int} (hN : N = 8 ∨ N = 16 ∨ N = 32) (r : Nat) (hr : r < 2) (hs : σ 10 6 = N) (hf : ∀ j, 0 ≤ j → j < N → σ (14 + r) j = f j) (hb : ∀ j, 0 ≤ j → j < N → -10000 ≤ f j ∧ f j ≤ 9999) : Ret 41 mX5_layStraight [aR 10, aI r] σ (fun o τ => o = none ∧ ((∀ j, 0 ≤ j → j < N → τ (17 + r) j = unbF f N j) ∧ ∀ a, a ≠ 17 + r → τ a = σ a)) := by
  refine Ret.of [some (aR 10), some (aI r), none] rfl (plainFor_of_name (by decide)) (Nat.le_of_ble_eq_true rfl) ?_
  refine g_iconst dX5_layStraight_0 ?_
  refine g_istore_n (i := 2) dX5_layStraight_1 rfl (by decide) ?_
  exact x_lay_lp hN r hr hs hf hb 33 0 σ (by omega) (by omega) (by omega) (fun j a c => by omega) (fun _ _ => rfl)

theorem RX.read' {V σ τ : Mem} {r : Nat} {p k : Int} (h : RX V σ) (hr : r < 2) (h1 : ∀ j, 0 ≤ j → j < V 0 0 → τ (17 + r) j = unbF (up V (5 + r) p k (5 + r)) (V 0 0) j) (h2 : ∀ a, a ≠ 17 + r → τ a = up σ (14 + r) p k a) : RX (up V (5 + r) p k) τ := by
  have e : ∀ a, a ≠ 17 + r → a ≠ 14 + r → τ a = σ a := fun a q1 q2 => by rw [h2 a q1, up_cell q2]
  have ev : ∀ a, a ≠ 5 + r → up V (5 + r) p k a = V a := fun a q => up_cell q
  unfold RX at h ⊢
  obtain ⟨g1, g2, g3, g4, g5, g6, g7, g8, g9, g10⟩ := h
  rw [ev 0 (by omega), ev 1 (by omega), ev 2 (by omega), ev 7 (by omega), ev 14 (by omega), ev 15 (by omega), ev 16 (by omega), ev 17 (by omega), ev 18 (by omega), e 9 (by omega) (by omega), e 10 (by omega) (by omega), e 41 (by omega) (by omega), e 11 (by omega) (by omega), e 12 (by omega) (by omega), e 22 (by omega) (by omega), e 26 (by omega) (by omega), e 27 (by omega) (by omega), e 28 (by omega) (by omega), e 29 (by omega) (by omega), e 100 (by omega) (by omega), e 101 (by omega) (by omega), e 102 (by omega) (by omega), e 103 (by omega) (by omega), e 200 (by omega) (by omega), e 201 (by omega) (by omega), e 202 (by omega) (by omega), e 203 (by omega) (by omega)]
  refine ⟨g1, g2, fun u hu j a c => ?_, g4, fun t ht d a c => ?_, g6, g7, g8, g9, g10⟩
  · obtain ⟨q1, q2, q3⟩ := g3 u hu j a c
    rw [e (20 + u) (by omega) (by omega), ev (3 + u) (by omega)]
    by_cases hur : u = r
    · subst hur
      refine ⟨q1, ?_, ?_⟩
      · rw [h2 (14 + u) (by omega)]
        by_cases hj : j = p
        · rw [hj, up_same, up_same]
        · rw [up_ne (Or.inr hj), up_ne (Or.inr hj)]; exact q2
      · rw [h1 j a c]
        unfold unb
        rw [ev 0 (by omega)]
    · refine ⟨q1, ?_, ?_⟩
      · rw [e (14 + u) (by omega) (by omega), ev (5 + u) (by omega)]; exact q2
      · rw [e (17 + u) (by omega) (by omega), q3]
        unfold unb
        rw [ev 0 (by omega), ev (5 + u) (by omega)]
  · rw [e (3 + t) (by omega) (by omega), ev (8 + t) (by omega)]; exact g5 t ht d a c

theorem y_read {b : Int} {V σ : Mem} (hi : Inv b V) (h : RX V σ) (r : Int) (p : Int) (v : Int) (i_r : i32 r) (i_p : i32 p) (i_v : i32 v)  : Ret 41 mX6_read [aR 0, aI r, aI p, aI v] σ (OX σ (p_read V r p v)) := by
  refine Ret.of [some (aR 0), some (aI r), some (aI p), some (aI v), none] rfl (plainFor_of_name (by decide)) (Nat.le_of_ble_eq_true rfl) ?_
  have hN := hi.N2
  refine g_iload_n dX6_read_0 rfl ?_
  refine g_pS1 dX6_read_1 sX6_113 (by decide) (Nat.le_of_ble_eq_true rfl) (x_isRow _ (by omega)) ?_
  refine g_ifb_eq (tgt := 31) dX6_read_4 (by decide) (fun h4 => ?_) (fun h4 => ?_)
  · refine g_ldc dX6_read_31 kX6_63 ?_
    exact g_iret dX6_read_33 trivial (OX.of (q := (cBad, V)) (by unfold p_read; rw [if_pos (by omega)]) rfl h keepX.rfl)
  · refine g_aload_n dX6_read_7 rfl ?_
    refine g_getR dX6_read_8 fX6_19 rfl rfl (by decide) ?_
    refine g_iload_n dX6_read_11 rfl ?_
    refine g_pV1 dX6_read_12 qX6_68 rfl (by decide) (by decide) (Nat.le_of_ble_eq_true rfl) (x_hasHole hi.i0 h.r0 _ (by omega)) ?_
    refine g_ifb_eq (tgt := 31) dX6_read_15 (by decide) (fun h15 => ?_) (fun h15 => ?_)
    · refine g_ldc dX6_read_31 kX6_63 ?_
      exact g_iret dX6_read_33 trivial (OX.of (q := (cBad, V)) (by unfold p_read; rw [if_pos (by omega)]) rfl h keepX.rfl)
    · refine g_iload_n dX6_read_18 rfl ?_
      refine g_sipush (v := -10000) dX6_read_19 (by decide) ?_
      refine g_sipush (v := 9999) dX6_read_22 (by decide) ?_
      refine g_pS3 dX6_read_25 sX6_85 (by decide) (Nat.le_of_ble_eq_true rfl) (x_lies _ _ _ (by omega) (by omega) (by omega)) ?_
      refine g_ifb_ne (tgt := 34) dX6_read_28 (by decide) (fun h28 => ?_) (fun h28 => ?_)
      · obtain ⟨u, rfl⟩ : ∃ u : Nat, r = u := ⟨r.toNat, by omega⟩
        have hu : u < 2 := by omega
        refine g_aload_n dX6_read_34 rfl ?_
        refine g_getR dX6_read_35 fX6_19 rfl rfl (by decide) ?_
        refine g_getR dX6_read_38 fX6_116 rfl rfl (by decide) ?_
        refine g_iload_n dX6_read_41 rfl ?_
        refine g_aaload dX6_read_42 rfl (by decide) (by omega) (by omega) (by decide) (row_14 u (by omega)) ?_
        refine g_iload_n dX6_read_43 rfl ?_
        refine g_iaload dX6_read_44 (shr_14 u hu) (by omega) (by omega) (by omega) (by decide) ?_
        rw [h.read u hu p (by omega) (by omega)]
        refine g_istore dX6_read_45 (by decide) ?_
        refine g_aload_n dX6_read_47 rfl ?_
        refine g_getR dX6_read_48 fX6_19 rfl rfl (by decide) ?_
        refine g_getR dX6_read_51 fX6_116 rfl rfl (by decide) ?_
        refine g_iload_n dX6_read_54 rfl ?_
        refine g_aaload dX6_read_55 rfl (by decide) (by omega) (by omega) (by decide) (row_14 u (by omega)) ?_
        refine g_iload_n dX6_read_56 rfl ?_
        refine g_iload_n dX6_read_57 rfl ?_
        refine g_iastore dX6_read_58 (shr_14 u (by omega)) (by omega) (by omega) (by omega) (by omega) (by decide) ?_
        refine g_aload_n dX6_read_59 rfl ?_
        refine g_getR dX6_read_60 fX6_19 rfl rfl (by decide) ?_
        refine g_iload_n dX6_read_63 rfl ?_
        refine g_vV1 dX6_read_64 qX6_119 rfl (by decide) (by decide) (Nat.le_of_ble_eq_true rfl) (x_layStraight (f := up V (5 + u) p v (5 + u)) (N := V 0 0) hi.N u hu (by rw [up_cell (by omega)]; exact h.N) (fun j a c => by
          by_cases hj : j = p
          · rw [hj, up_same, up_same]
          · rw [up_ne (Or.inr hj), up_ne (Or.inr hj)]; exact h.read u hu j a c) (fun j a c => by
          by_cases hj : j = p
          · rw [hj, up_same]; omega
          · rw [up_ne (Or.inr hj)]; exact hi.read u hu j a c)) ?_
        intro τ hb
        refine g_iload dX6_read_67 rfl ?_
        exact g_iret dX6_read_69 trivial (OX.of (q := (V (5 + u) p, up V (5 + u) p v)) (by unfold p_read; rw [if_neg (by omega), Int.toNat_natCast]) rfl (h.read' hu hb.1 hb.2) (fun a ha => by rw [hb.2 a (by omega), up_cell (by omega)]))
      · refine g_ldc dX6_read_31 kX6_63 ?_
        exact g_iret dX6_read_33 trivial (OX.of (q := (cBad, V)) (by unfold p_read; rw [if_pos (by omega)]) rfl h keepX.rfl)
