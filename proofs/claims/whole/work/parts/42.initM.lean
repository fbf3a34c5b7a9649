theorem Go.weak {K : Nat} {M : Meth} {pc : Nat} {ls : List (Option AV)} {st : List AV} {σ : Mem} {Q Q' : Option AV → Mem → Prop} (h : Go K M pc ls st σ Q) (hq : ∀ o τ, Q o τ → Q' o τ) : Go K M pc ls st σ Q' := by
  intro ad D cs A p l e R s m args below meth c cells slots Z C hret H locs lsC hH hS hL
  exact h ad D cs A p l e R s m args below meth c cells slots Z C (fun r τ H locs lsC pc' q => hret r τ H locs lsC pc' (hq r τ q)) H locs lsC hH hS hL

theorem m_l2 {σ : Mem} : ∀ (fu : Nat) (k : Int) (τ : Mem), 0 ≤ k → k ≤ 5 → 5 - k < fu → (∀ a, a ≠ 37 → τ a = σ a) → (∀ i, 0 ≤ i → i < k → τ 37 i = if i = 4 then 1000 else 100) → Go 41 mX7_init 131 [some (aR 30), some (aI k)] [] τ (fun o τ => o = none ∧ ∃ ρ, (∀ a, a ≠ 37 → ρ a = σ a) ∧ (∀ i, 0 ≤ i → i < 5 → ρ 37 i = if i = 4 then 1000 else 100) ∧ bgI ρ τ 8 32) := by
  intro fu
  induction fu with
  | zero => intros; omega
  | succ fu ih =>
    intro k τ k0 k1 kn h1 h2
    refine g_iload_n dX7_init_131 rfl ?_
    refine g_iconst dX7_init_132 ?_
    refine g_icmp_ge (tgt := 161) dX7_init_133 (by decide) (by omega) (by omega) (fun h133 => ?_) (fun h133 => ?_)
    · refine g_aload_n dX7_init_161 rfl ?_
      refine g_bipush (v := 8) dX7_init_162 (by decide) ?_
      refine g_vV1 dX7_init_164 qX7_54 rfl (by decide) (by decide) (Nat.le_of_ble_eq_true rfl) (k_begin 8) ?_
      intro τ2 hq2
      exact g_vret dX7_init_167 trivial ⟨rfl, τ, h1, fun i i0 i1 => h2 i i0 (by omega), hq2⟩
    · refine g_aload_n dX7_init_136 rfl ?_
      refine g_getR dX7_init_137 fX7_29 rfl rfl (by decide) ?_
      refine g_iload_n dX7_init_140 rfl ?_
      refine g_iload_n dX7_init_141 rfl ?_
      refine g_iconst dX7_init_142 ?_
      refine g_icmp_ne (tgt := 152) dX7_init_143 (by decide) (by omega) (by omega) (fun h143 => ?_) (fun h143 => ?_)
      · refine g_bipush (v := 100) dX7_init_152 (by decide) ?_
        refine g_iastore dX7_init_154 rfl (by decide) (by decide) (by omega) (by omega) (by decide) ?_
        refine g_iinc dX7_init_155 rfl (by decide) ?_
        refine g_goto (tgt := 131) dX7_init_158 (by decide) ?_
        refine ih (k + 1) _ (by omega) (by omega) (by omega) (fun a ha => by rw [up_cell ha]; exact h1 a ha) (fun i i0 i1 => ?_)
        by_cases hi : i = k
        · rw [hi, up_same, if_neg h143]
        · rw [up_ne (Or.inr hi)]; exact h2 i i0 (by omega)
      · refine g_sipush (v := 1000) dX7_init_146 (by decide) ?_
        refine g_goto (tgt := 154) dX7_init_149 (by decide) ?_
        refine g_iastore dX7_init_154 rfl (by decide) (by decide) (by omega) (by omega) (by decide) ?_
        refine g_iinc dX7_init_155 rfl (by decide) ?_
        refine g_goto (tgt := 131) dX7_init_158 (by decide) ?_
        refine ih (k + 1) _ (by omega) (by omega) (by omega) (fun a ha => by rw [up_cell ha]; exact h1 a ha) (fun i i0 i1 => ?_)
        by_cases hi : i = k
        · rw [hi, up_same, if_pos h143]
        · rw [up_ne (Or.inr hi)]; exact h2 i i0 (by omega)

theorem m_l1 {σ : Mem} : ∀ (fu : Nat) (k : Int) (τ : Mem), 0 ≤ k → k ≤ 6 → 6 - k < fu → (∀ a, a ≠ 35 → τ a = σ a) → (∀ i, 0 ≤ i → i < k → τ 35 i = -1) → Go 41 mX7_init 110 [some (aR 30), some (aI k)] [] τ (fun o τ => o = none ∧ ∃ ρ, (∀ a, a ≠ 35 → a ≠ 37 → ρ a = σ a) ∧ (∀ i, 0 ≤ i → i < 6 → ρ 35 i = -1) ∧ (∀ i, 0 ≤ i → i < 5 → ρ 37 i = if i = 4 then 1000 else 100) ∧ bgI ρ τ 8 32) := by
  intro fu
  induction fu with
  | zero => intros; omega
  | succ fu ih =>
    intro k τ k0 k1 kn h1 h2
    refine g_iload_n dX7_init_110 rfl ?_
    refine g_bipush (v := 6) dX7_init_111 (by decide) ?_
    refine g_icmp_ge (tgt := 129) dX7_init_113 (by decide) (by omega) (by omega) (fun h113 => ?_) (fun h113 => ?_)
    · refine g_iconst dX7_init_129 ?_
      refine g_istore_n (i := 1) dX7_init_130 rfl (by decide) ?_
      refine Go.weak (m_l2 (σ := τ) 6 0 τ (by omega) (by omega) (by omega) (fun _ _ => rfl) (fun i i0 i1 => by omega)) (fun o τ2 hq => ?_)
      obtain ⟨rfl, ρ, a1, a2, a3⟩ := hq
      exact ⟨rfl, ρ, fun a e1 e2 => (a1 a e2).trans (h1 a e1), fun i i0 i1 => by rw [a1 35 (by decide)]; exact h2 i i0 (by omega), a2, a3⟩
    · refine g_aload_n dX7_init_116 rfl ?_
      refine g_getR dX7_init_117 fX7_23 rfl rfl (by decide) ?_
      refine g_iload_n dX7_init_120 rfl ?_
      refine g_iconst dX7_init_121 ?_
      refine g_iastore dX7_init_122 rfl (by decide) (by decide) (by omega) (by omega) (by decide) ?_
      refine g_iinc dX7_init_123 rfl (by decide) ?_
      refine g_goto (tgt := 110) dX7_init_126 (by decide) ?_
      refine ih (k + 1) _ (by omega) (by omega) (by omega) (fun a ha => by rw [up_cell ha]; exact h1 a ha) (fun i i0 i1 => ?_)
      by_cases hi : i = k
      · rw [hi, up_same]
      · rw [up_ne (Or.inr hi)]; exact h2 i i0 (by omega)

theorem m_tail {σ : Mem} : Go 41 mX7_init 108 [some (aR 30), none] [] σ (fun o τ => o = none ∧ ∃ ρ, (∀ a, a ≠ 35 → a ≠ 37 → ρ a = σ a) ∧ (∀ i, 0 ≤ i → i < 6 → ρ 35 i = -1) ∧ (∀ i, 0 ≤ i → i < 5 → ρ 37 i = if i = 4 then 1000 else 100) ∧ bgI ρ τ 8 32) := by
  refine g_iconst dX7_init_108 ?_
  refine g_istore_n (i := 1) dX7_init_109 rfl (by decide) ?_
  exact m_l1 (σ := σ) 7 0 σ (by omega) (by omega) (by omega) (fun _ _ => rfl) (fun i i0 i1 => by omega)

def sgM (τX σ0 : Mem) : Mem := fun k j => if k < 30 ∨ k = 41 then τX k j else if 42 ≤ k then σ0 k j else if k = 30 then (if j = 10 then 20 else if j = 11 then 30 else if j = 12 then 300 else if j = 13 then 3 else 0) else 0
theorem sgM_out {τX σ0 : Mem} {k : Nat} (h : 42 ≤ k) : sgM τX σ0 k = σ0 k := by
  funext j
  unfold sgM
  rw [if_neg (by omega), if_pos h]
theorem sgM_in {τX σ0 : Mem} {k : Nat} (h : k < 30 ∨ k = 41) : sgM τX σ0 k = τX k := by
  funext j
  unfold sgM
  rw [if_pos h]
theorem sgM_0 {τX σ0 : Mem} (k : Nat) (h : 30 < k) (h2 : k < 41) : sgM τX σ0 k = fun _ => 0 := by
  funext j
  unfold sgM
  rw [if_neg (by omega), if_neg (by omega), if_neg (by omega)]
theorem RM_0 {τX σ0 ρ τ : Mem} (h1 : ∀ a, a ≠ 35 → a ≠ 37 → ρ a = sgM τX σ0 a) (h2 : ∀ i, 0 ≤ i → i < 6 → ρ 35 i = -1) (h3 : ∀ i, 0 ≤ i → i < 5 → ρ 37 i = if i = 4 then 1000 else 100) (hb : bgI ρ τ 8 32) : RM V0 τ := by
  refine RM.whl (V := Vz) (σ := ρ) ?_ (Or.inl rfl) hb
  have z0 : Vz 0 0 = 0 := by simp [Vz]
  have z17 : Vz 17 0 = 0 := by simp [Vz]
  have e30 := h1 30 (by decide) (by decide)
  unfold RM
  rw [z0, z17, e30]
  refine ⟨by simp [sgM], fun j a c => by omega, fun r hr j a c => by omega, fun t ht => ?_, fun t ht d a c => ?_, fun i a c => ?_, by simp [sgM], fun i a c => by omega, by simp [sgM, Vz], Or.inl (by simp [sgM])⟩
  · rw [h2 t (by omega) (by omega)]; simp [Vz]
  · rw [h1 36 (by decide) (by decide), sgM_0 36 (by decide) (by decide)]
    unfold Vz
    rw [if_neg (by omega), if_neg (by omega), if_neg (by omega)]
  · rw [h3 i a c]; simp [Vz]
theorem out_eq2 {n : Nat} {g g' : Nat → Nat} (h : ∀ i, i < n → g i = g' i) : (fun i => if i < n then some (g i) else none) = fun i => if i < n then some (g' i) else none := by
  funext i
  by_cases hi : i < n
  · rw [if_pos hi, if_pos hi, h i hi]
  · rw [if_neg hi, if_neg hi]
