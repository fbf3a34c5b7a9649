/-- aside k holds what S had: made, pulls -/
def Asd (σ : Mem) (k : Int) (S : Mem) : Prop := (∀ j, 0 ≤ j → j < 64 → σ 40 (96 * k + j) = S 33 j) ∧ (∀ j, 0 ≤ j → j < 32 → σ 40 (96 * k + 64 + j) = S 32 j)
theorem Asd.keep {σ τ S : Mem} {k : Int} (h : Asd σ k S) (e : ∀ j, 96 * k ≤ j → j < 96 * k + 96 → τ 40 j = σ 40 j) : Asd τ k S := ⟨fun j a c => by rw [e _ (by omega) (by omega)]; exact h.1 j a c, fun j a c => by rw [e _ (by omega) (by omega)]; exact h.2 j a c⟩
theorem RM.of40 {V σ τ : Mem} (h : RM V σ) (e : ∀ a, a ≠ 40 → τ a = σ a) : RM V τ := by
  unfold RM at h ⊢
  rw [e 30 (by decide), e 31 (by decide), e 32 (by decide), e 33 (by decide), e 34 (by decide), e 35 (by decide), e 36 (by decide), e 37 (by decide), e 38 (by decide), e 39 (by decide)]
  exact h
/-- W is V but for what turns change -/
def like (V W : Mem) : Prop := ∀ a, a ≠ 2 → a ≠ 3 → a ≠ 4 → W a = V a
theorem like_mk (V : Mem) (s n : Int) : like V (mkV V s n) := fun a h1 h2 h3 => mkV_o h1 h2 h3
theorem like.rfl {V : Mem} : like V V := fun _ _ _ _ => Eq.refl _
theorem like.unb {V W : Mem} (h : like V W) (r : Nat) (p : Int) : unb W r p = unb V r p := by
  show unbF (W (5 + r)) (W 0 0) p = unbF (V (5 + r)) (V 0 0) p
  rw [h (5 + r) (by omega) (by omega) (by omega), h 0 (by decide) (by decide) (by decide)]
theorem RM.back {V W S σ τ : Mem} {k : Int} (hS : RM V S) (hσ : RM W σ) (hw : like V W) (hN : V 0 0 ≤ 32) (hA : Asd σ k S) (h3 : ∀ j, 0 ≤ j → j < 64 → τ 33 j = σ 40 (96 * k + j)) (h2 : ∀ j, 0 ≤ j → j < 32 → τ 32 j = σ 40 (96 * k + 64 + j)) (hk : ∀ a, a ≠ 32 → a ≠ 33 → τ a = σ a) : RM V τ := by
  unfold RM at hσ hS ⊢
  obtain ⟨g1, g2, g3, g4, g5, g6, g7, g8, g9, g10⟩ := hσ
  rw [hk 30 (by decide) (by decide), hk 31 (by decide) (by decide), hk 34 (by decide) (by decide), hk 35 (by decide) (by decide), hk 36 (by decide) (by decide), hk 37 (by decide) (by decide), hk 38 (by decide) (by decide), hk 39 (by decide) (by decide)]
  rw [hw 0 (by decide) (by decide) (by decide)] at g1 g2 g3 g10
  rw [hw 1 (by decide) (by decide) (by decide)] at g2
  rw [hw 7 (by decide) (by decide) (by decide)] at g4
  rw [hw 14 (by decide) (by decide) (by decide)] at g6
  rw [hw 17 (by decide) (by decide) (by decide)] at g7 g8
  rw [hw 15 (by decide) (by decide) (by decide), hw 16 (by decide) (by decide) (by decide)] at g8
  rw [hw 18 (by decide) (by decide) (by decide)] at g9
  refine ⟨g1, fun j a c => ⟨(g2 j a c).1, ?_⟩, fun r hr j a c => ⟨?_, ?_⟩, g4, fun t ht d a c => ?_, g6, g7, g8, g9, g10.imp id (fun q => ⟨q.1, fun r hr p a c => by rw [← hw.unb r p]; exact q.2 r hr p a c⟩)⟩
  · rw [h2 j a (by omega), hA.2 j a (by omega)]; exact (hS.2.1 j a c).2
  · rw [h3 _ (by omega) (by omega), hA.1 _ (by omega) (by omega)]; exact (hS.2.2.1 r hr j a c).1
  · have := (g3 r hr j a c).2
    rw [hw (5 + r) (by omega) (by omega) (by omega)] at this
    exact this
  · have := g5 t ht d a c
    rw [hw (8 + t) (by omega) (by omega) (by omega)] at this
    exact this

theorem c_lay_l2 {σ : Mem} (q : Int) (hq : 0 ≤ q ∧ q ≤ 1) : ∀ (n : Nat) (k : Int) (τ : Mem), 0 ≤ k → k ≤ 32 → 32 - k < n → (∀ a, a ≠ 40 → τ a = σ a) → (∀ j, 0 ≤ j → j < 64 → τ 40 (96 * q + j) = σ 33 j) → (∀ j, 0 ≤ j → j < k → τ 40 (96 * q + 64 + j) = σ 32 j) → (∀ j : Int, ¬ (96 * q ≤ j ∧ j < 96 * q + 96) → τ 40 j = σ 40 j) → Go 41 mX7_lay 33 [some (aR 30), some (aI q), some (aI k)] [] τ (fun o τ => o = none ∧ (Asd τ q σ ∧ (∀ a, a ≠ 40 → τ a = σ a) ∧ ∀ j : Int, ¬ (96 * q ≤ j ∧ j < 96 * q + 96) → τ 40 j = σ 40 j)) := by
  intro n
  induction n with
  | zero => intros; omega
  | succ n ih =>
    intro k τ k0 k1 kn h1 h2 h3 h4
    refine g_iload_n dX7_lay_33 rfl ?_
    refine g_bipush (v := 32) dX7_lay_34 (by decide) ?_
    refine g_icmp_ge (tgt := 65) dX7_lay_36 (by decide) (by omega) (by omega) (fun h36 => ?_) (fun h36 => ?_)
    · exact g_vret dX7_lay_65 trivial ⟨rfl, ⟨h2, fun j a c => h3 j a (by omega)⟩, h1, h4⟩
    · refine g_aload_n dX7_lay_39 rfl ?_
      refine g_getR dX7_lay_40 fX7_51 rfl rfl (by decide) ?_
      refine g_bipush (v := 96) dX7_lay_43 (by decide) ?_
      refine g_iload_n dX7_lay_45 rfl ?_
      refine g_imul dX7_lay_46 ?_
      refine g_bipush (v := 64) dX7_lay_47 (by decide) ?_
      refine g_iadd dX7_lay_49 ?_
      refine g_iload_n dX7_lay_50 rfl ?_
      refine g_iadd dX7_lay_51 ?_
      refine g_aload_n dX7_lay_52 rfl ?_
      refine g_getR dX7_lay_53 fX7_13 rfl rfl (by decide) ?_
      refine g_iload_n dX7_lay_56 rfl ?_
      refine g_laload dX7_lay_57 rfl (by decide) (by omega) (by omega) (by decide) ?_
      rw [h1 32 (by decide)]
      refine g_lastore dX7_lay_58 rfl (by decide) (by decide) (by omega) (by omega) (by decide) ?_
      refine g_iinc dX7_lay_59 rfl (by decide) ?_
      refine g_goto (tgt := 33) dX7_lay_62 (by decide) ?_
      exact ih (k + 1) _ (by omega) (by omega) (by omega) (fun a a1 => by rw [up_cell a1]; exact h1 a a1) (fun j a c => by rw [up_ne (Or.inr (by omega))]; exact h2 j a c) (fun j a c => by
        by_cases hj : j = k
        · rw [hj, up_same]
        · rw [up_ne (Or.inr (by omega))]; exact h3 j a (by omega)) (fun j hj => by rw [up_ne (Or.inr (by omega))]; exact h4 j hj)

theorem c_lay_l1 {σ : Mem} (q : Int) (hq : 0 ≤ q ∧ q ≤ 1) : ∀ (n : Nat) (k : Int) (τ : Mem), 0 ≤ k → k ≤ 64 → 64 - k < n → (∀ a, a ≠ 40 → τ a = σ a) → (∀ j, 0 ≤ j → j < k → τ 40 (96 * q + j) = σ 33 j) → (∀ j : Int, ¬ (96 * q ≤ j ∧ j < 96 * q + 96) → τ 40 j = σ 40 j) → Go 41 mX7_lay 2 [some (aR 30), some (aI q), some (aI k)] [] τ (fun o τ => o = none ∧ (Asd τ q σ ∧ (∀ a, a ≠ 40 → τ a = σ a) ∧ ∀ j : Int, ¬ (96 * q ≤ j ∧ j < 96 * q + 96) → τ 40 j = σ 40 j)) := by
  intro n
  induction n with
  | zero => intros; omega
  | succ n ih =>
    intro k τ k0 k1 kn h1 h2 h4
    refine g_iload_n dX7_lay_2 rfl ?_
    refine g_bipush (v := 64) dX7_lay_3 (by decide) ?_
    refine g_icmp_ge (tgt := 31) dX7_lay_5 (by decide) (by omega) (by omega) (fun h5 => ?_) (fun h5 => ?_)
    · refine g_iconst dX7_lay_31 ?_
      refine g_istore_n (i := 2) dX7_lay_32 rfl (by decide) ?_
      exact c_lay_l2 q hq 33 0 τ (by omega) (by omega) (by omega) h1 (fun j a c => h2 j a (by omega)) (fun j a c => by omega) h4
    · refine g_aload_n dX7_lay_8 rfl ?_
      refine g_getR dX7_lay_9 fX7_51 rfl rfl (by decide) ?_
      refine g_bipush (v := 96) dX7_lay_12 (by decide) ?_
      refine g_iload_n dX7_lay_14 rfl ?_
      refine g_imul dX7_lay_15 ?_
      refine g_iload_n dX7_lay_16 rfl ?_
      refine g_iadd dX7_lay_17 ?_
      refine g_aload_n dX7_lay_18 rfl ?_
      refine g_getR dX7_lay_19 fX7_17 rfl rfl (by decide) ?_
      refine g_iload_n dX7_lay_22 rfl ?_
      refine g_laload dX7_lay_23 rfl (by decide) (by omega) (by omega) (by decide) ?_
      rw [h1 33 (by decide)]
      refine g_lastore dX7_lay_24 rfl (by decide) (by decide) (by omega) (by omega) (by decide) ?_
      refine g_iinc dX7_lay_25 rfl (by decide) ?_
      refine g_goto (tgt := 2) dX7_lay_28 (by decide) ?_
      exact ih (k + 1) _ (by omega) (by omega) (by omega) (fun a a1 => by rw [up_cell a1]; exact h1 a a1) (fun j a c => by
        by_cases hj : j = k
        · rw [hj, up_same]
        · rw [up_ne (Or.inr (by omega))]; exact h2 j a (by omega)) (fun j hj => by rw [up_ne (Or.inr (by omega))]; exact h4 j hj)

theorem c_lay {σ : Mem} (q : Int) (hq : 0 ≤ q ∧ q ≤ 1) : Ret 41 mX7_lay [aR 30, aI q] σ (fun o τ => o = none ∧ (Asd τ q σ ∧ (∀ a, a ≠ 40 → τ a = σ a) ∧ ∀ j : Int, ¬ (96 * q ≤ j ∧ j < 96 * q + 96) → τ 40 j = σ 40 j)) := by
  refine Ret.of [some (aR 30), some (aI q), none] rfl (plainFor_of_name (by decide)) (Nat.le_of_ble_eq_true rfl) ?_
  refine g_iconst dX7_lay_0 ?_
  refine g_istore_n (i := 2) dX7_lay_1 rfl (by decide) ?_
  exact c_lay_l1 q hq 65 0 σ (by omega) (by omega) (by omega) (fun a _ => rfl) (fun j a c => by omega) (fun j _ => rfl)

theorem c_bring_l2 {σ : Mem} (q : Int) (hq : 0 ≤ q ∧ q ≤ 1) : ∀ (n : Nat) (k : Int) (τ : Mem), 0 ≤ k → k ≤ 32 → 32 - k < n → (∀ a, a ≠ 32 → a ≠ 33 → τ a = σ a) → (∀ j, 0 ≤ j → j < 64 → τ 33 j = σ 40 (96 * q + j)) → (∀ j, 0 ≤ j → j < k → τ 32 j = σ 40 (96 * q + 64 + j)) → Go 41 mX7_bring 33 [some (aR 30), some (aI q), some (aI k)] [] τ (fun o τ => o = none ∧ ((∀ j, 0 ≤ j → j < 64 → τ 33 j = σ 40 (96 * q + j)) ∧ (∀ j, 0 ≤ j → j < 32 → τ 32 j = σ 40 (96 * q + 64 + j)) ∧ ∀ a, a ≠ 32 → a ≠ 33 → τ a = σ a)) := by
  intro n
  induction n with
  | zero => intros; omega
  | succ n ih =>
    intro k τ k0 k1 kn h1 h2 h3
    refine g_iload_n dX7_bring_33 rfl ?_
    refine g_bipush (v := 32) dX7_bring_34 (by decide) ?_
    refine g_icmp_ge (tgt := 65) dX7_bring_36 (by decide) (by omega) (by omega) (fun h36 => ?_) (fun h36 => ?_)
    · exact g_vret dX7_bring_65 trivial ⟨rfl, h2, fun j a c => h3 j a (by omega), h1⟩
    · refine g_aload_n dX7_bring_39 rfl ?_
      refine g_getR dX7_bring_40 fX7_13 rfl rfl (by decide) ?_
      refine g_iload_n dX7_bring_43 rfl ?_
      refine g_aload_n dX7_bring_44 rfl ?_
      refine g_getR dX7_bring_45 fX7_51 rfl rfl (by decide) ?_
      refine g_bipush (v := 96) dX7_bring_48 (by decide) ?_
      refine g_iload_n dX7_bring_50 rfl ?_
      refine g_imul dX7_bring_51 ?_
      refine g_bipush (v := 64) dX7_bring_52 (by decide) ?_
      refine g_iadd dX7_bring_54 ?_
      refine g_iload_n dX7_bring_55 rfl ?_
      refine g_iadd dX7_bring_56 ?_
      refine g_laload dX7_bring_57 rfl (by decide) (by omega) (by omega) (by decide) ?_
      rw [h1 40 (by decide) (by decide)]
      refine g_lastore dX7_bring_58 rfl (by decide) (by decide) (by omega) (by omega) (by decide) ?_
      refine g_iinc dX7_bring_59 rfl (by decide) ?_
      refine g_goto (tgt := 33) dX7_bring_62 (by decide) ?_
      exact ih (k + 1) _ (by omega) (by omega) (by omega) (fun a a1 a2 => by rw [up_cell a1]; exact h1 a a1 a2) (fun j a c => by rw [up_cell (by decide)]; exact h2 j a c) (fun j a c => by
        by_cases hj : j = k
        · rw [hj, up_same]
        · rw [up_ne (Or.inr (by omega))]; exact h3 j a (by omega))

theorem c_bring_l1 {σ : Mem} (q : Int) (hq : 0 ≤ q ∧ q ≤ 1) : ∀ (n : Nat) (k : Int) (τ : Mem), 0 ≤ k → k ≤ 64 → 64 - k < n → (∀ a, a ≠ 33 → τ a = σ a) → (∀ j, 0 ≤ j → j < k → τ 33 j = σ 40 (96 * q + j)) → Go 41 mX7_bring 2 [some (aR 30), some (aI q), some (aI k)] [] τ (fun o τ => o = none ∧ ((∀ j, 0 ≤ j → j < 64 → τ 33 j = σ 40 (96 * q + j)) ∧ (∀ j, 0 ≤ j → j < 32 → τ 32 j = σ 40 (96 * q + 64 + j)) ∧ ∀ a, a ≠ 32 → a ≠ 33 → τ a = σ a)) := by
  intro n
  induction n with
  | zero => intros; omega
  | succ n ih =>
    intro k τ k0 k1 kn h1 h2
    refine g_iload_n dX7_bring_2 rfl ?_
    refine g_bipush (v := 64) dX7_bring_3 (by decide) ?_
    refine g_icmp_ge (tgt := 31) dX7_bring_5 (by decide) (by omega) (by omega) (fun h5 => ?_) (fun h5 => ?_)
    · refine g_iconst dX7_bring_31 ?_
      refine g_istore_n (i := 2) dX7_bring_32 rfl (by decide) ?_
      exact c_bring_l2 q hq 33 0 τ (by omega) (by omega) (by omega) (fun a _ a2 => h1 a a2) (fun j a c => h2 j a (by omega)) (fun j a c => by omega)
    · refine g_aload_n dX7_bring_8 rfl ?_
      refine g_getR dX7_bring_9 fX7_17 rfl rfl (by decide) ?_
      refine g_iload_n dX7_bring_12 rfl ?_
      refine g_aload_n dX7_bring_13 rfl ?_
      refine g_getR dX7_bring_14 fX7_51 rfl rfl (by decide) ?_
      refine g_bipush (v := 96) dX7_bring_17 (by decide) ?_
      refine g_iload_n dX7_bring_19 rfl ?_
      refine g_imul dX7_bring_20 ?_
      refine g_iload_n dX7_bring_21 rfl ?_
      refine g_iadd dX7_bring_22 ?_
      refine g_laload dX7_bring_23 rfl (by decide) (by omega) (by omega) (by decide) ?_
      rw [h1 40 (by decide)]
      refine g_lastore dX7_bring_24 rfl (by decide) (by decide) (by omega) (by omega) (by decide) ?_
      refine g_iinc dX7_bring_25 rfl (by decide) ?_
      refine g_goto (tgt := 2) dX7_bring_28 (by decide) ?_
      exact ih (k + 1) _ (by omega) (by omega) (by omega) (fun a a1 => by rw [up_cell a1]; exact h1 a a1) (fun j a c => by
        by_cases hj : j = k
        · rw [hj, up_same]
        · rw [up_ne (Or.inr (by omega))]; exact h2 j a (by omega))

theorem c_bring0 {σ : Mem} (q : Int) (hq : 0 ≤ q ∧ q ≤ 1) : Ret 41 mX7_bring [aR 30, aI q] σ (fun o τ => o = none ∧ ((∀ j, 0 ≤ j → j < 64 → τ 33 j = σ 40 (96 * q + j)) ∧ (∀ j, 0 ≤ j → j < 32 → τ 32 j = σ 40 (96 * q + 64 + j)) ∧ ∀ a, a ≠ 32 → a ≠ 33 → τ a = σ a)) := by
  refine Ret.of [some (aR 30), some (aI q), none] rfl (plainFor_of_name (by decide)) (Nat.le_of_ble_eq_true rfl) ?_
  refine g_iconst dX7_bring_0 ?_
  refine g_istore_n (i := 2) dX7_bring_1 rfl (by decide) ?_
  exact c_bring_l1 q hq 65 0 σ (by omega) (by omega) (by omega) (fun a _ => rfl) (fun j a c => by omega)

/-- back to V, that S held when it was laid aside -/
theorem c_bring {V W S σ : Mem} (q : Int) (hq : 0 ≤ q ∧ q ≤ 1) (hN : V 0 0 ≤ 32) (hS : RM V S) (hσ : RM W σ) (hw : like V W) (hA : Asd σ q S) : Ret 41 mX7_bring [aR 30, aI q] σ (fun o τ => o = none ∧ (RM V τ ∧ ∀ a, a ≠ 32 → a ≠ 33 → τ a = σ a)) :=
  (c_bring0 q hq).mono (fun r τ h => ⟨h.1, hS.back hσ hw hN hA h.2.1 h.2.2.1 h.2.2.2, h.2.2.2⟩)
theorem over_no {V : Mem} (hN : 0 ≤ V 0 0) (h : ∀ q, 0 ≤ q → q < V 0 0 → V 2 q ≤ V 14 4) : overAt V = -1 := firstI_no (by decide) (fun q q0 q1 => by have := h q q0 (by omega); simp; omega)
theorem over_at {V : Mem} {p : Int} (p0 : 0 ≤ p) (p1 : p < V 0 0) (hp : V 14 4 < V 2 p) : overAt V ≠ -1 := by
  intro h
  unfold overAt at h
  rcases firstI_cases (fun j => decide (V 14 4 < V 2 j)) (V 0 0).toNat 0 (by decide) with ⟨a, c⟩ | ⟨a, c, d, e⟩
  · have := c p p0 (by omega)
    simp at this
    omega
  · omega
theorem okV_gone {V : Mem} {s n : Int} (h : V 1 s = 4) : okV V s n = false := by simp [okV, h]
theorem okV_over {V : Mem} {s n : Int} (h : overAt (mkV V s n) ≠ -1) : okV V s n = false := by simp [okV, h]
theorem okV_yes {V : Mem} {s n : Int} (h1 : V 1 s ≠ 4) (h : overAt (mkV V s n) = -1) : okV V s n = true := by simp [okV, h1, h]

theorem c_tries_lp {b : Int} {V σ τ1 : Mem} (hi : Inv b V) (s n q : Int) (hq : 0 ≤ q ∧ q ≤ 1) (hg : V 1 s ≠ 4) (hiW : Inv (b + 200000) (mkV V s n)) (hS : RM V σ) (h : RM (mkV V s n) τ1) (hA : Asd τ1 q σ) (hf : ∀ a, a ≠ 32 → a ≠ 33 → a ≠ 40 → τ1 a = σ a) (hf2 : ∀ j : Int, ¬ (96 * q ≤ j ∧ j < 96 * q + 96) → τ1 40 j = σ 40 j) : ∀ (fu : Nat) (k : Int), 0 ≤ k → k ≤ V 0 0 → V 0 0 - k < fu → (∀ j, 0 ≤ j → j < k → mkV V s n 2 j ≤ mkV V s n 14 4) → Go 41 mX7_tries 24 [some (aR 30), some (aI s), some (aI n), some (aI q), some (aI k)] [] τ1 (fun o τ => o = some (aI (b2i (okV V s n = true))) ∧ (RM (if okV V s n = true then mkV V s n else V) τ ∧ Asd τ q σ ∧ (∀ a, a ≠ 32 → a ≠ 33 → a ≠ 40 → τ a = σ a) ∧ ∀ j : Int, ¬ (96 * q ≤ j ∧ j < 96 * q + 96) → τ 40 j = σ 40 j)) := by
  intro fu
  induction fu with
  | zero => intros; omega
  | succ fu ih =>
    intro k k0 k1 kn ho
    have hN := hi.N2
    have hW : mkV V s n 0 0 = V 0 0 := by rw [mkV_o (by decide) (by decide) (by decide)]
    have hb := hiW.b
    have hl := hiW.lim 4 (by decide) (by decide)
    refine g_iload dX7_tries_24 rfl ?_
    refine g_aload_n dX7_tries_26 rfl ?_
    refine g_getI (ji := 0) rfl dX7_tries_27 fX7_58 rfl rfl (by decide) ?_
    rw [h.N, hW]
    refine g_icmp_ge (tgt := 73) dX7_tries_30 (by decide) (by omega) (by omega) (fun h30 => ?_) (fun h30 => ?_)
    · refine g_iconst dX7_tries_73 ?_
      exact g_iret dX7_tries_74 (by first | exact Or.inl rfl | exact Or.inr rfl | exact b2i_ok) (by have hy := okV_yes hg (over_no (by omega) (fun j j0 j1 => ho j j0 (by omega))); exact ⟨by rw [b2i_1 hy], by rw [if_pos hy]; exact h, hA, hf, hf2⟩)
    · have hkd := hiW.kind k k0 (by omega)
      have hpl := hiW.pull k k0 (by omega)
      refine g_aload_n dX7_tries_33 rfl ?_
      refine g_iload dX7_tries_34 rfl ?_
      refine g_pV1 dX7_tries_36 qX7_74 rfl (by decide) (by decide) (Nat.le_of_ble_eq_true rfl) (c_isGone hiW h k k0 (by omega)) ?_
      refine g_ifb_ne (tgt := 67) dX7_tries_39 (by decide) (fun h39 => ?_) (fun h39 => ?_)
      · refine g_iinc dX7_tries_67 rfl (by decide) ?_
        refine g_goto (tgt := 24) dX7_tries_70 (by decide) ?_
        exact ih (k + 1) (by omega) (by omega) (by omega) (fun j j0 j1 => by
          by_cases hj : j = k
          · rw [hj]; omega
          · exact ho j j0 (by omega))
      · refine g_aload_n dX7_tries_42 rfl ?_
        refine g_getR dX7_tries_43 fX7_13 rfl rfl (by decide) ?_
        refine g_iload dX7_tries_46 rfl ?_
        refine g_laload dX7_tries_48 rfl (by decide) (by omega) (by omega) (by decide) ?_
        rw [h.pull k k0 (by omega)]
        refine g_aload_n dX7_tries_49 rfl ?_
        refine g_getR dX7_tries_50 fX7_29 rfl rfl (by decide) ?_
        refine g_iconst dX7_tries_53 ?_
        refine g_iaload dX7_tries_54 rfl (by decide) (by omega) (by omega) (by decide) ?_
        rw [h.lim 4 (by decide) (by decide)]
        refine g_i2l dX7_tries_55 (by omega) ?_
        refine g_lcmp_le (tgt := 67) dX7_tries_56 dX7_tries_57 (by decide) (by omega) (by omega) (fun h56 => ?_) (fun h56 => ?_)
        · refine g_iinc dX7_tries_67 rfl (by decide) ?_
          refine g_goto (tgt := 24) dX7_tries_70 (by decide) ?_
          exact ih (k + 1) (by omega) (by omega) (by omega) (fun j j0 j1 => by
            by_cases hj : j = k
            · rw [hj]; omega
            · exact ho j j0 (by omega))
        · refine g_aload_n dX7_tries_60 rfl ?_
          refine g_iload_n dX7_tries_61 rfl ?_
          refine g_vV1 dX7_tries_62 qX7_164 rfl (by decide) (by decide) (Nat.le_of_ble_eq_true rfl) (c_bring q hq hN.2 hS h (like_mk V s n) hA) ?_
          intro τ2 hq2
          obtain ⟨h2, hc2⟩ := hq2
          have hno := okV_over (over_at k0 (by omega) (by omega : mkV V s n 14 4 < mkV V s n 2 k))
          refine g_iconst dX7_tries_65 ?_
          exact g_iret dX7_tries_66 (by first | exact Or.inl rfl | exact Or.inr rfl | exact b2i_ok) ⟨by rw [b2i_0 (by rw [hno]; decide)], by rw [if_neg (by rw [hno]; decide)]; exact h2, hA.keep (fun j _ _ => by rw [hc2 40 (by decide) (by decide)]), fun a a1 a2 a3 => by rw [hc2 a a1 a2]; exact hf a a1 a2 a3, fun j hj => by rw [hc2 40 (by decide) (by decide)]; exact hf2 j hj⟩

theorem c_tries {b : Int} {V σ : Mem} (hi : Inv b V) (h : RM V σ) (s n q : Int) (s0 : 0 ≤ s) (s1 : s < V 0 0) (hn : -100 ≤ n ∧ n ≤ 100) (hq : 0 ≤ q ∧ q ≤ 1) (hb : b + 200000 ≤ 500000000) : Ret 41 mX7_tries [aR 30, aI s, aI n, aI q] σ (fun o τ => o = some (aI (b2i (okV V s n = true))) ∧ (RM (if okV V s n = true then mkV V s n else V) τ ∧ Asd τ q σ ∧ (∀ a, a ≠ 32 → a ≠ 33 → a ≠ 40 → τ a = σ a) ∧ ∀ j : Int, ¬ (96 * q ≤ j ∧ j < 96 * q + 96) → τ 40 j = σ 40 j)) := by
  refine Ret.of [some (aR 30), some (aI s), some (aI n), some (aI q), none] rfl (plainFor_of_name (by decide)) (Nat.le_of_ble_eq_true rfl) ?_
  have hN := hi.N2
  have hbb := hi.b
  have hiW : Inv (b + 200000) (mkV V s n) := mkV_inv (m := 100) hi s n s0 s1 hn (by omega) (by omega)
  refine g_aload_n dX7_tries_0 rfl ?_
  refine g_iload_n dX7_tries_1 rfl ?_
  refine g_vV1 dX7_tries_2 qX7_157 rfl (by decide) (by decide) (Nat.le_of_ble_eq_true rfl) (c_lay q hq) ?_
  intro τ1 hq1
  obtain ⟨hA, hf, hf2⟩ := hq1
  have h1 := h.of40 hf
  refine g_aload_n dX7_tries_5 rfl ?_
  refine g_iload_n dX7_tries_6 rfl ?_
  refine g_pV1 dX7_tries_7 qX7_74 rfl (by decide) (by decide) (Nat.le_of_ble_eq_true rfl) (c_isGone hi h1 s s0 s1) ?_
  refine g_ifb_eq (tgt := 15) dX7_tries_10 (by decide) (fun h10 => ?_) (fun h10 => ?_)
  · refine g_aload_n dX7_tries_15 rfl ?_
    refine g_iload_n dX7_tries_16 rfl ?_
    refine g_iload_n dX7_tries_17 rfl ?_
    refine g_vV2 dX7_tries_18 qX7_160 rfl (by decide) (by decide) (Nat.le_of_ble_eq_true rfl) (c_make hi h1 s n s0 s1 (by omega)) ?_
    intro τ2 hq2
    obtain ⟨h2, hc2⟩ := hq2
    refine g_iconst dX7_tries_21 ?_
    refine g_istore dX7_tries_22 (by decide) ?_
    exact c_tries_lp hi s n q hq h10 hiW h h2 (hA.keep (fun j _ _ => by rw [hc2 40 (by decide) (by decide)])) (fun a a1 a2 a3 => by rw [hc2 a a1 a2]; exact hf a a3) (fun j hj => by rw [hc2 40 (by decide) (by decide)]; exact hf2 j hj) 33 0 (by omega) (by omega) (by omega) (fun j j0 j1 => by omega)
  · refine g_iconst dX7_tries_13 ?_
    exact g_iret dX7_tries_14 (by first | exact Or.inl rfl | exact Or.inr rfl | exact b2i_ok) ⟨by rw [b2i_0 (by rw [okV_gone h10]; decide)], by rw [if_neg (by rw [okV_gone h10]; decide)]; exact h1, hA, fun a _ _ a3 => hf a a3, hf2⟩

theorem RM.add {V σ : Mem} {s n : Int} (h : RM V σ)  : RM (addV V s n) (up (up (up σ 38 (2 * V 17 0) s) 38 (2 * V 17 0 + 1) n) 30 9 (V 17 0 + 1)) := by
  unfold RM at h ⊢
  obtain ⟨h1, h2, h3, h4, h5, h6, h7, h8, h9, h10⟩ := h
  refine ⟨?_,
    ?_,
    ?_,
    ?_,
    ?_,
    ?_,
    ?_,
    ?_,
    ?_,
    ?_⟩
  · simpa [up, addV] using h1
  · intro j a c
    simpa [up, addV] using h2 j a (by simpa [up, addV] using c)
  · intro r hr j a c
    have c : j < V 0 0 := by simpa [up, addV] using c
    unfold addV
    simpa (disch := omega) only [up_cell] using h3 r hr j a c
  · intro t ht
    simpa [up, addV] using h4 t ht
  · intro t ht d a c
    unfold addV
    simpa (disch := omega) only [up_cell] using h5 t ht d a c
  · intro i a c
    simpa [up, addV] using h6 i a c
  · simp [up, addV]
  · intro i a c
    have c : i < V 17 0 + 1 := by simpa [up, addV] using c
    rw [up_cell (show 38 ≠ 30 by decide)]
    unfold addV
    rw [up_cell (show 15 ≠ 17 by decide), up_cell (show 15 ≠ 16 by decide), up_cell (show 16 ≠ 17 by decide)]
    by_cases hj : i = V 17 0
    · subst hj
      refine ⟨?_, ?_⟩
      · rw [up_ne (Or.inr (by omega)), up_same, up_same]
      · rw [up_same, up_same]
    · have q := h8 i a (by omega)
      refine ⟨?_, ?_⟩
      · rw [up_ne (Or.inr (by omega)), up_ne (Or.inr (by omega)), up_ne (Or.inr hj)]; exact q.1
      · rw [up_ne (Or.inr (by omega)), up_ne (Or.inr (by omega)), up_ne (Or.inr hj), up_cell (show 16 ≠ 15 by decide)]; exact q.2
  · simpa [up, addV] using h9
  · refine h10.imp (fun e => by simpa [up, addV] using e) (fun e => ⟨by simpa [up, addV] using e.1, fun r hr p a c => ?_⟩)
    have c : p < V 0 0 := by simpa [up, addV] using c
    have e2 := e.2 r hr p a c
    unfold unb at e2
    unfold addV unb
    simpa (disch := omega) only [up_cell] using e2

theorem c_enterLog {b : Int} {V σ : Mem} (hi : Inv b V) (h : RM V σ) (s n : Int) (hm : V 17 0 < 60) : Ret 41 mX7_enterLog [aR 30, aI s, aI n] σ (fun o τ => o = none ∧ (RM (addV V s n) τ ∧ (∀ a, a ≠ 30 → a ≠ 38 → τ a = σ a))) := by
  refine Ret.of [some (aR 30), some (aI s), some (aI n)] rfl (plainFor_of_name (by decide)) (Nat.le_of_ble_eq_true rfl) ?_
  have hmm := hi.many
  refine g_aload_n dX7_enterLog_0 rfl ?_
  refine g_getR dX7_enterLog_1 fX7_32 rfl rfl (by decide) ?_
  refine g_iconst dX7_enterLog_4 ?_
  refine g_aload_n dX7_enterLog_5 rfl ?_
  refine g_getI (ji := 9) rfl dX7_enterLog_6 fX7_61 rfl rfl (by decide) ?_
  rw [h.many]
  refine g_imul dX7_enterLog_9 ?_
  refine g_iload_n dX7_enterLog_10 rfl ?_
  refine g_iastore dX7_enterLog_11 rfl (by decide) (by decide) (by omega) (by omega) (by decide) ?_
  refine g_aload_n dX7_enterLog_12 rfl ?_
  refine g_getR dX7_enterLog_13 fX7_32 rfl rfl (by decide) ?_
  refine g_iconst dX7_enterLog_16 ?_
  refine g_aload_n dX7_enterLog_17 rfl ?_
  refine g_getI (ji := 9) rfl dX7_enterLog_18 fX7_61 rfl rfl (by decide) ?_
  rw [up_cell (show 30 ≠ 38 by decide), h.many]
  refine g_imul dX7_enterLog_21 ?_
  refine g_iconst dX7_enterLog_22 ?_
  refine g_iadd dX7_enterLog_23 ?_
  refine g_iload_n dX7_enterLog_24 rfl ?_
  refine g_iastore dX7_enterLog_25 rfl (by decide) (by decide) (by omega) (by omega) (by decide) ?_
  refine g_aload_n dX7_enterLog_26 rfl ?_
  refine g_dup dX7_enterLog_27 (fun x h => by cases h) ?_
  refine g_getI (ji := 9) rfl dX7_enterLog_28 fX7_61 rfl rfl (by decide) ?_
  rw [up_cell (show 30 ≠ 38 by decide), up_cell (show 30 ≠ 38 by decide), h.many]
  refine g_iconst dX7_enterLog_31 ?_
  refine g_iadd dX7_enterLog_32 ?_
  refine g_putI (ji := 9) rfl dX7_enterLog_33 vX7_61 rfl rfl (by decide) (by decide) ?_
  exact g_vret dX7_enterLog_36 trivial ⟨rfl, h.add, fun a a1 a2 => by rw [up_cell a1, up_cell a2, up_cell a2]⟩

theorem Inv.add {b : Int} {V : Mem} (hi : Inv b V) {s n : Int} (hm : V 17 0 < 60) (h0 : 0 ≤ s) (h1 : s < V 0 0) (hn : -100 ≤ n ∧ n ≤ 100) : Inv b (addV V s n) := by
  have hmm := hi.many
  have e : ∀ a, a ≠ 15 → a ≠ 16 → a ≠ 17 → addV V s n a = V a := fun a q1 q2 q3 => by unfold addV; rw [up_cell q3, up_cell q2, up_cell q1]
  have e17 : addV V s n 17 0 = V 17 0 + 1 := by unfold addV; rw [up_same]
  unfold Inv
  rw [e 0 (by decide) (by decide) (by decide), e 1 (by decide) (by decide) (by decide), e 2 (by decide) (by decide) (by decide), e 7 (by decide) (by decide) (by decide), e 14 (by decide) (by decide) (by decide), e 18 (by decide) (by decide) (by decide), e17]
  refine ⟨hi.N, hi.kind, hi.pull, fun r hr => ?_, fun r hr => ?_, hi.size, fun t ht => ?_, hi.lim, by omega, fun i a c => ?_, hi.lac, hi.b⟩
  · rw [e (3 + r) (by omega) (by omega) (by omega)]; exact hi.made r hr
  · rw [e (5 + r) (by omega) (by omega) (by omega)]; exact hi.read r hr
  · rw [e (8 + t) (by omega) (by omega) (by omega)]; exact hi.tab t ht
  · unfold addV
    rw [up_cell (show 15 ≠ 17 by decide), up_cell (show 15 ≠ 16 by decide), up_cell (show 16 ≠ 17 by decide)]
    by_cases hj : i = V 17 0
    · subst hj
      rw [up_same, up_same]
      omega
    · rw [up_ne (Or.inr hj), up_ne (Or.inr hj), up_cell (show 16 ≠ 15 by decide)]
      exact hi.log i a (by omega)

theorem k_turn {b : Int} {V σ : Mem} (hi : Inv b V) (h : RM V σ) (s : Int) (n : Int) (i_s : i32 s) (i_n : i32 n) (hb : b + 200000 ≤ 500000000) : Ret 41 mX7_turn [aR 30, aI s, aI n] σ (OM σ (p_turn V s n)) := by
  refine Ret.of [some (aR 30), some (aI s), some (aI n)] rfl (plainFor_of_name (by decide)) (Nat.le_of_ble_eq_true rfl) ?_
  have hN := hi.N2
  have hmm := hi.many
  have hbb := hi.b
  refine g_aload_n dX7_turn_0 rfl ?_
  refine g_iload_n dX7_turn_1 rfl ?_
  refine g_pV1 dX7_turn_2 qX7_79 rfl (by decide) (by decide) (Nat.le_of_ble_eq_true rfl) (c_isHole hi h _ (by omega)) ?_
  refine g_ifb_eq (tgt := 23) dX7_turn_5 (by decide) (fun h5 => ?_) (fun h5 => ?_)
  · refine g_ldc dX7_turn_23 kX7_78 ?_
    exact g_iret dX7_turn_25 trivial (OM.of (q := (cBad, V)) (by unfold p_turn; rw [if_pos (by omega)]) rfl h keepM.rfl)
  · refine g_iload_n dX7_turn_8 rfl ?_
    refine g_bipush (v := -100) dX7_turn_9 (by decide) ?_
    refine g_bipush (v := 100) dX7_turn_11 (by decide) ?_
    refine g_pS3 dX7_turn_13 sX7_70 (by decide) (Nat.le_of_ble_eq_true rfl) (c_isIn _ _ _ (by omega) (by omega) (by omega)) ?_
    refine g_ifb_eq (tgt := 23) dX7_turn_16 (by decide) (fun h16 => ?_) (fun h16 => ?_)
    · refine g_ldc dX7_turn_23 kX7_78 ?_
      exact g_iret dX7_turn_25 trivial (OM.of (q := (cBad, V)) (by unfold p_turn; rw [if_pos (by omega)]) rfl h keepM.rfl)
    · refine g_iload_n dX7_turn_19 rfl ?_
      refine g_if_ne (tgt := 26) dX7_turn_20 (by decide) (by omega) (fun h20 => ?_) (fun h20 => ?_)
      · refine g_aload_n dX7_turn_26 rfl ?_
        refine g_iload_n dX7_turn_27 rfl ?_
        refine g_iload_n dX7_turn_28 rfl ?_
        refine g_iconst dX7_turn_29 ?_
        refine g_eV3 dX7_turn_30 qX7_167 rfl (by decide) (by decide) (Nat.le_of_ble_eq_true rfl) (c_tries hi h s n 0 (by omega) (by omega) (by omega) (by omega) hb) ?_
        intro τ hq
        obtain ⟨h1, hA, hf, hf2⟩ := hq
        refine g_ifb_ne (tgt := 39) dX7_turn_33 (by decide) (fun h33 => ?_) (fun h33 => ?_)
        · rw [if_pos h33] at h1
          have hiW : Inv (b + 200000) (mkV V s n) := mkV_inv (m := 100) hi s n (by omega) (by omega) (by omega) (by omega) (by omega)
          have e17 : mkV V s n 17 0 = V 17 0 := by rw [mkV_o (by decide) (by decide) (by decide)]
          have e0 : mkV V s n 0 0 = V 0 0 := by rw [mkV_o (by decide) (by decide) (by decide)]
          refine g_aload_n dX7_turn_39 rfl ?_
          refine g_getI (ji := 9) rfl dX7_turn_40 fX7_61 rfl rfl (by decide) ?_
          rw [h1.many, e17]
          refine g_bipush (v := 60) dX7_turn_43 (by decide) ?_
          refine g_icmp_ne (tgt := 56) dX7_turn_45 (by decide) (by omega) (by omega) (fun h45 => ?_) (fun h45 => ?_)
          · refine g_aload_n dX7_turn_56 rfl ?_
            refine g_iload_n dX7_turn_57 rfl ?_
            refine g_iload_n dX7_turn_58 rfl ?_
            refine g_vV2 dX7_turn_59 qX7_171 rfl (by decide) (by decide) (Nat.le_of_ble_eq_true rfl) (c_enterLog hiW h1 s n (by omega)) ?_
            intro τ2 hq2
            obtain ⟨h2, hc2⟩ := hq2
            have ea : addV (mkV V s n) s n 2 s = mkV V s n 2 s := by unfold addV; rw [up_cell (by decide), up_cell (by decide), up_cell (by decide)]
            have ea0 : addV (mkV V s n) s n 0 0 = V 0 0 := by unfold addV; rw [up_cell (by decide), up_cell (by decide), up_cell (by decide), e0]
            refine g_aload_n dX7_turn_62 rfl ?_
            refine g_getR dX7_turn_63 fX7_13 rfl rfl (by decide) ?_
            refine g_iload_n dX7_turn_66 rfl ?_
            refine g_laload dX7_turn_67 rfl (by decide) (by omega) (by omega) (by decide) ?_
            rw [h2.pull s (by omega) (by omega), ea]
            refine g_l2i dX7_turn_68 ?_
            exact g_iret dX7_turn_69 trivial (OM.of (q := (mkV V s n 2 s, addV (mkV V s n) s n)) (by unfold p_turn; rw [if_neg (by omega), if_neg (by rw [h33]; decide), if_neg (by omega)]) rfl h2 (fun a ha => by rw [hc2 a (by omega) (by omega)]; exact hf a (by omega) (by omega) (by omega)))
          · refine g_aload_n dX7_turn_48 rfl ?_
            refine g_iconst dX7_turn_49 ?_
            refine g_vV1 dX7_turn_50 qX7_164 rfl (by decide) (by decide) (Nat.le_of_ble_eq_true rfl) (c_bring 0 (by omega) hN.2 h h1 (like_mk V s n) hA) ?_
            intro τ2 hq2
            obtain ⟨h2, hc2⟩ := hq2
            refine g_ldc dX7_turn_53 kX7_170 ?_
            exact g_iret dX7_turn_55 trivial (OM.of (q := (cFull, V)) (by unfold p_turn; rw [if_neg (by omega), if_neg (by rw [h33]; decide), if_pos (by omega)]) rfl h2 (fun a ha => by rw [hc2 a (by omega) (by omega)]; exact hf a (by omega) (by omega) (by omega)))
        · refine g_ldc dX7_turn_36 kX7_85 ?_
          exact g_iret dX7_turn_38 trivial (OM.of (q := (cNo, V)) (by unfold p_turn; rw [if_neg (by omega), if_pos (Bool.eq_false_iff.mpr h33)]) rfl (by rw [if_neg h33] at h1; exact h1) (fun a ha => hf a (by omega) (by omega) (by omega)))
      · refine g_ldc dX7_turn_23 kX7_78 ?_
        exact g_iret dX7_turn_25 trivial (OM.of (q := (cBad, V)) (by unfold p_turn; rw [if_pos (by omega)]) rfl h keepM.rfl)
