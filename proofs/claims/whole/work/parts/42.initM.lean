theorem Go.weak {K : Nat} {M : Meth} {pc : Nat} {ls : List (Option AV)} {st : List AV} {σ : Mem} {Q Q' : Option AV → Mem → Prop} (h : Go K M pc ls st σ Q) (hq : ∀ o τ, Q o τ → Q' o τ) : Go K M pc ls st σ Q' := by
  intro ad D cs A p l e R s m args below meth c cells slots Z C hret H locs lsC hH hS hL
  exact h ad D cs A p l e R s m args below meth c cells slots Z C (fun r τ H locs lsC pc' q => hret r τ H locs lsC pc' (hq r τ q)) H locs lsC hH hS hL

theorem m_l2 {σ : Mem} : ∀ (fu : Nat) (k : Int) (τ : Mem), 0 ≤ k → k ≤ 5 → 5 - k < fu → (∀ a, a ≠ 37 → τ a = σ a) → (∀ i, 0 ≤ i → i < k → τ 37 i = if i = 4 then 1000 else 100) → Go 41 mX7_init 131 [some (aR 30), some (aI k)] [] τ (fun o τ => o = none ∧ ∃ ρ, (∀ a, a ≠ 37 → ρ a = σ a) ∧ (∀ i, 0 ≤ i → i < 5 → ρ 37 i = if i = 4 then 1000 else 100) ∧ bgI ρ τ 8 32) := by
  intro fu
  induction fu with
  | zero => intros; omega
  | succ fu ih =>
    intro k τ k0 k1 kn h1 h2
    refine g_iload_n dX7_init_131 rfl ?_
    refine g_iconst dX7_init_132 ?_
    refine g_icmp_ge (tgt := 161) dX7_init_133 (by decide) (by omega) (by omega) (fun h133 => ?_) (fun h133 => ?_)
    · refine g_aload_n dX7_init_161 rfl ?_
      refine g_bipush (v := 8) dX7_init_162 (by decide) ?_
      refine g_vV1 dX7_init_164 qX7_54 rfl (by decide) (by decide) (Nat.le_of_ble_eq_true rfl) (k_begin 8) ?_
      intro τ2 hq2
      exact g_vret dX7_init_167 trivial ⟨rfl, τ, h1, fun i i0 i1 => h2 i i0 (by omega), hq2⟩
    · refine g_aload_n dX7_init_136 rfl ?_
      refine g_getR dX7_init_137 fX7_29 rfl rfl (by decide) ?_
      refine g_iload_n dX7_init_140 rfl ?_
      refine g_iload_n dX7_init_141 rfl ?_
      refine g_iconst dX7_init_142 ?_
      refine g_icmp_ne (tgt := 152) dX7_init_143 (by decide) (by omega) (by omega) (fun h143 => ?_) (fun h143 => ?_)
      · refine g_bipush (v := 100) dX7_init_152 (by decide) ?_
        refine g_iastore dX7_init_154 rfl (by decide) (by decide) (by omega) (by omega) (by decide) ?_
        refine g_iinc dX7_init_155 rfl (by decide) ?_
        refine g_goto (tgt := 131) dX7_init_158 (by decide) ?_
        refine ih (k + 1) _ (by omega) (by omega) (by omega) (fun a ha => by rw [up_cell ha]; exact h1 a ha) (fun i i0 i1 => ?_)
        by_cases hi : i = k
        · rw [hi, up_same, if_neg h143]
        · rw [up_ne (Or.inr hi)]; exact h2 i i0 (by omega)
      · refine g_sipush (v := 1000) dX7_init_146 (by decide) ?_
        refine g_goto (tgt := 154) dX7_init_149 (by decide) ?_
        refine g_iastore dX7_init_154 rfl (by decide) (by decide) (by omega) (by omega) (by decide) ?_
        refine g_iinc dX7_init_155 rfl (by decide) ?_
        refine g_goto (tgt := 131) dX7_init_158 (by decide) ?_
        refine ih (k + 1) _ (by omega) (by omega) (by omega) (fun a ha => by rw [up_cell ha]; exact h1 a ha) (fun i i0 i1 => ?_)
        by_cases hi : i = k
        · rw [hi, up_same, if_pos h143]
        · rw [up_ne (Or.inr hi)]; exact h2 i i0 (by omega)

theorem m_l1 {σ : Mem} : ∀ (fu : Nat) (k : Int) (τ : Mem), 0 ≤ k → k ≤ 6 → 6 - k < fu → (∀ a, a ≠ 35 → τ a = σ a) → (∀ i, 0 ≤ i → i < k → τ 35 i = -1) → Go 41 mX7_init 110 [some (aR 30), some (aI k)] [] τ (fun o τ => o = none ∧ ∃ ρ, (∀ a, a ≠ 35 → a ≠ 37 → ρ a = σ a) ∧ (∀ i, 0 ≤ i → i < 6 → ρ 35 i = -1) ∧ (∀ i, 0 ≤ i → i < 5 → ρ 37 i = if i = 4 then 1000 else 100) ∧ bgI ρ τ 8 32) := by
  intro fu
  induction fu with
  | zero => intros; omega
  | succ fu ih =>
    intro k τ k0 k1 kn h1 h2
    refine g_iload_n dX7_init_110 rfl ?_
    refine g_bipush (v := 6) dX7_init_111 (by decide) ?_
    refine g_icmp_ge (tgt := 129) dX7_init_113 (by decide) (by omega) (by omega) (fun h113 => ?_) (fun h113 => ?_)
    · refine g_iconst dX7_init_129 ?_
      refine g_istore_n (i := 1) dX7_init_130 rfl (by decide) ?_
      refine Go.weak (m_l2 (σ := τ) 6 0 τ (by omega) (by omega) (by omega) (fun _ _ => rfl) (fun i i0 i1 => by omega)) (fun o τ2 hq => ?_)
      obtain ⟨rfl, ρ, a1, a2, a3⟩ := hq
      exact ⟨rfl, ρ, fun a e1 e2 => (a1 a e2).trans (h1 a e1), fun i i0 i1 => by rw [a1 35 (by decide)]; exact h2 i i0 (by omega), a2, a3⟩
    · refine g_aload_n dX7_init_116 rfl ?_
      refine g_getR dX7_init_117 fX7_23 rfl rfl (by decide) ?_
      refine g_iload_n dX7_init_120 rfl ?_
      refine g_iconst dX7_init_121 ?_
      refine g_iastore dX7_init_122 rfl (by decide) (by decide) (by omega) (by omega) (by decide) ?_
      refine g_iinc dX7_init_123 rfl (by decide) ?_
      refine g_goto (tgt := 110) dX7_init_126 (by decide) ?_
      refine ih (k + 1) _ (by omega) (by omega) (by omega) (fun a ha => by rw [up_cell ha]; exact h1 a ha) (fun i i0 i1 => ?_)
      by_cases hi : i = k
      · rw [hi, up_same]
      · rw [up_ne (Or.inr hi)]; exact h2 i i0 (by omega)

theorem m_tail {σ : Mem} : Go 41 mX7_init 108 [some (aR 30), none] [] σ (fun o τ => o = none ∧ ∃ ρ, (∀ a, a ≠ 35 → a ≠ 37 → ρ a = σ a) ∧ (∀ i, 0 ≤ i → i < 6 → ρ 35 i = -1) ∧ (∀ i, 0 ≤ i → i < 5 → ρ 37 i = if i = 4 then 1000 else 100) ∧ bgI ρ τ 8 32) := by
  refine g_iconst dX7_init_108 ?_
  refine g_istore_n (i := 1) dX7_init_109 rfl (by decide) ?_
  exact m_l1 (σ := σ) 7 0 σ (by omega) (by omega) (by omega) (fun _ _ => rfl) (fun i i0 i1 => by omega)

def sgM (τX σ0 : Mem) : Mem := fun k j => if k < 30 then τX k j else if 41 ≤ k then σ0 k j else if k = 30 then (if j = 10 then 20 else if j = 11 then 30 else if j = 12 then 300 else if j = 13 then 3 else 0) else 0
theorem sgM_out {τX σ0 : Mem} {k : Nat} (h : 41 ≤ k) : sgM τX σ0 k = σ0 k := by
  funext j
  unfold sgM
  rw [if_neg (by omega), if_pos h]
theorem sgM_in {τX σ0 : Mem} {k : Nat} (h : k < 30) : sgM τX σ0 k = τX k := by
  funext j
  unfold sgM
  rw [if_pos h]
theorem sgM_0 {τX σ0 : Mem} (k : Nat) (h : 30 < k) (h2 : k < 41) : sgM τX σ0 k = fun _ => 0 := by
  funext j
  unfold sgM
  rw [if_neg (by omega), if_neg (by omega), if_neg (by omega)]
theorem RM_0 {τX σ0 ρ τ : Mem} (h1 : ∀ a, a ≠ 35 → a ≠ 37 → ρ a = sgM τX σ0 a) (h2 : ∀ i, 0 ≤ i → i < 6 → ρ 35 i = -1) (h3 : ∀ i, 0 ≤ i → i < 5 → ρ 37 i = if i = 4 then 1000 else 100) (hb : bgI ρ τ 8 32) : RM V0 τ := by
  refine RM.whl (V := Vz) (σ := ρ) ?_ (Or.inl rfl) hb
  have z0 : Vz 0 0 = 0 := by simp [Vz]
  have z17 : Vz 17 0 = 0 := by simp [Vz]
  have e30 := h1 30 (by decide) (by decide)
  unfold RM
  rw [z0, z17, e30]
  refine ⟨by simp [sgM], fun j a c => by omega, fun r hr j a c => by omega, fun t ht => ?_, fun t ht d a c => ?_, fun i a c => ?_, by simp [sgM], fun i a c => by omega, by simp [sgM, Vz], Or.inl (by simp [sgM])⟩
  · rw [h2 t (by omega) (by omega)]; simp [Vz]
  · rw [h1 36 (by decide) (by decide), sgM_0 36 (by decide) (by decide)]
    unfold Vz
    rw [if_neg (by omega), if_neg (by omega), if_neg (by omega)]
  · rw [h3 i a c]; simp [Vz]
theorem out_eq2 {n : Nat} {g g' : Nat → Nat} (h : ∀ i, i < n → g i = g' i) : (fun i => if i < n then some (g i) else none) = fun i => if i < n then some (g' i) else none := by
  funext i
  by_cases hi : i < n
  · rw [if_pos hi, if_pos hi, h i hi]
  · rw [if_neg hi, if_neg hi]

theorem wdM (cs : ClassId × ClassId × ClassId) (adX ad0 : Nat → Nat) (τX σ0 : Mem) (h0 q7 q15 q23 q31 q39 q47 q54 q62 q94 q103 : Nat) : wd (adL [adX 0, adX 1, adX 2, adX 3, adX 4, adX 5, adX 6, adX 7, adX 8, adX 9, adX 10, adX 11, adX 12, adX 13, adX 14, adX 15, adX 16, adX 17, adX 18, adX 19, adX 20, adX 21, adX 22, adX 23, adX 24, adX 25, adX 26, adX 27, adX 28, adX 29, h0, q7, q15, q23, q31, q39, q47, q54, q62, q94, q103] ad0) cs (sgM τX σ0) 41 = [(adX 0, en adX cs (τX 0) (sh 0)), (adX 1, en adX cs (τX 1) (sh 1)), (adX 2, en adX cs (τX 2) (sh 2)), (adX 3, en adX cs (τX 3) (sh 3)), (adX 4, en adX cs (τX 4) (sh 4)), (adX 5, en adX cs (τX 5) (sh 5)), (adX 6, en adX cs (τX 6) (sh 6)), (adX 7, en adX cs (τX 7) (sh 7)), (adX 8, en adX cs (τX 8) (sh 8)), (adX 9, en adX cs (τX 9) (sh 9)), (adX 10, en adX cs (τX 10) (sh 10)), (adX 11, en adX cs (τX 11) (sh 11)), (adX 12, en adX cs (τX 12) (sh 12)), (adX 13, en adX cs (τX 13) (sh 13)), (adX 14, en adX cs (τX 14) (sh 14)), (adX 15, en adX cs (τX 15) (sh 15)), (adX 16, en adX cs (τX 16) (sh 16)), (adX 17, en adX cs (τX 17) (sh 17)), (adX 18, en adX cs (τX 18) (sh 18)), (adX 19, en adX cs (τX 19) (sh 19)), (adX 20, en adX cs (τX 20) (sh 20)), (adX 21, en adX cs (τX 21) (sh 21)), (adX 22, en adX cs (τX 22) (sh 22)), (adX 23, en adX cs (τX 23) (sh 23)), (adX 24, en adX cs (τX 24) (sh 24)), (adX 25, en adX cs (τX 25) (sh 25)), (adX 26, en adX cs (τX 26) (sh 26)), (adX 27, en adX cs (τX 27) (sh 27)), (adX 28, en adX cs (τX 28) (sh 28)), (adX 29, en adX cs (τX 29) (sh 29)), (h0, .inr (7, [.int 0, .ref q7, .ref q15, .ref q23, .ref q31, .ref q39, .ref q47, .ref q54, .ref q62, .int 0, .int 20, .int 30, .int 300, .int 3, .ref q94, .int 0, .ref q103, .int 0, .int 0, .int 0, .int 0, .int 0])), (q7, .inl (cs.1, 32, .inl (fun _ => 0))), (q15, .inl (cs.2.1, 32, .inr (.inl (fun _ => 0)))), (q23, .inl (cs.2.1, 64, .inr (.inl (fun _ => 0)))), (q31, .inl (cs.1, 64, .inl (fun _ => 0))), (q39, .inl (cs.1, 6, .inl (fun _ => 0))), (q47, .inl (cs.1, 102, .inl (fun _ => 0))), (q54, .inl (cs.1, 5, .inl (fun _ => 0))), (q62, .inl (cs.1, 120, .inl (fun _ => 0))), (q94, .inl (cs.2.1, 64, .inr (.inl (fun _ => 0)))), (q103, .inl (cs.2.1, 192, .inr (.inl (fun _ => 0))))] := by
  refine (cons2 ?_ (cons2 ?_ (cons2 ?_ (cons2 ?_ (cons2 ?_ (cons2 ?_ (cons2 ?_ (cons2 ?_ (cons2 ?_ (cons2 ?_ (cons2 ?_ (cons2 ?_ (cons2 ?_ (cons2 ?_ (cons2 ?_ (cons2 ?_ (cons2 ?_ (cons2 ?_ (cons2 ?_ (cons2 ?_ (cons2 ?_ (cons2 ?_ (cons2 ?_ (cons2 ?_ (cons2 ?_ (cons2 ?_ (cons2 ?_ (cons2 ?_ (cons2 ?_ (cons2 ?_ (cons2 ?_ (cons2 ?_ (cons2 ?_ (cons2 ?_ (cons2 ?_ (cons2 ?_ (cons2 ?_ (cons2 ?_ (cons2 ?_ (cons2 ?_ (cons2 ?_ rfl)))))))))))))))))))))))))))))))))))))))))
  · rfl
  · rfl
  · exact Prod.ext rfl (congrArg (fun f : Nat → Option Nat => (Sum.inl (cs.2.2, 6, Sum.inr (Sum.inr (Sum.inr (Sum.inr f)))) : va_E)) (out_eq2 (fun i hi => by rcases (show i = 0 ∨ i = 1 ∨ i = 2 ∨ i = 3 ∨ i = 4 ∨ i = 5 by omega) with rfl | rfl | rfl | rfl | rfl | rfl <;> rfl)))
  · rfl
  · rfl
  · rfl
  · rfl
  · rfl
  · rfl
  · rfl
  · rfl
  · rfl
  · rfl
  · exact Prod.ext rfl (congrArg (fun f : Nat → Option Nat => (Sum.inl (cs.2.2, 2, Sum.inr (Sum.inr (Sum.inr (Sum.inr f)))) : va_E)) (out_eq2 (fun i hi => by rcases (show i = 0 ∨ i = 1 by omega) with rfl | rfl <;> rfl)))
  · rfl
  · rfl
  · exact Prod.ext rfl (congrArg (fun f : Nat → Option Nat => (Sum.inl (cs.2.2, 2, Sum.inr (Sum.inr (Sum.inr (Sum.inr f)))) : va_E)) (out_eq2 (fun i hi => by rcases (show i = 0 ∨ i = 1 by omega) with rfl | rfl <;> rfl)))
  · rfl
  · rfl
  · exact Prod.ext rfl (congrArg (fun f : Nat → Option Nat => (Sum.inl (cs.2.2, 2, Sum.inr (Sum.inr (Sum.inr (Sum.inr f)))) : va_E)) (out_eq2 (fun i hi => by rcases (show i = 0 ∨ i = 1 by omega) with rfl | rfl <;> rfl)))
  · rfl
  · rfl
  · rfl
  · rfl
  · rfl
  · rfl
  · rfl
  · rfl
  · rfl
  · rfl
  · rfl
  · exact Prod.ext rfl (congrArg (fun f : Int → Int => (Sum.inl (cs.1, 32, Sum.inl (fun j : Nat => Int32.ofInt (f j))) : va_E)) (sgM_0 31 (by decide) (by decide)))
  · exact Prod.ext rfl (congrArg (fun f : Int → Int => (Sum.inl (cs.2.1, 32, Sum.inr (Sum.inl (fun j : Nat => Int64.ofInt (f j)))) : va_E)) (sgM_0 32 (by decide) (by decide)))
  · exact Prod.ext rfl (congrArg (fun f : Int → Int => (Sum.inl (cs.2.1, 64, Sum.inr (Sum.inl (fun j : Nat => Int64.ofInt (f j)))) : va_E)) (sgM_0 33 (by decide) (by decide)))
  · exact Prod.ext rfl (congrArg (fun f : Int → Int => (Sum.inl (cs.1, 64, Sum.inl (fun j : Nat => Int32.ofInt (f j))) : va_E)) (sgM_0 34 (by decide) (by decide)))
  · exact Prod.ext rfl (congrArg (fun f : Int → Int => (Sum.inl (cs.1, 6, Sum.inl (fun j : Nat => Int32.ofInt (f j))) : va_E)) (sgM_0 35 (by decide) (by decide)))
  · exact Prod.ext rfl (congrArg (fun f : Int → Int => (Sum.inl (cs.1, 102, Sum.inl (fun j : Nat => Int32.ofInt (f j))) : va_E)) (sgM_0 36 (by decide) (by decide)))
  · exact Prod.ext rfl (congrArg (fun f : Int → Int => (Sum.inl (cs.1, 5, Sum.inl (fun j : Nat => Int32.ofInt (f j))) : va_E)) (sgM_0 37 (by decide) (by decide)))
  · exact Prod.ext rfl (congrArg (fun f : Int → Int => (Sum.inl (cs.1, 120, Sum.inl (fun j : Nat => Int32.ofInt (f j))) : va_E)) (sgM_0 38 (by decide) (by decide)))
  · exact Prod.ext rfl (congrArg (fun f : Int → Int => (Sum.inl (cs.2.1, 64, Sum.inr (Sum.inl (fun j : Nat => Int64.ofInt (f j)))) : va_E)) (sgM_0 39 (by decide) (by decide)))
  · exact Prod.ext rfl (congrArg (fun f : Int → Int => (Sum.inl (cs.2.1, 192, Sum.inr (Sum.inl (fun j : Nat => Int64.ofInt (f j)))) : va_E)) (sgM_0 40 (by decide) (by decide)))

/-- what a new reference is -/
def isM (ad0 adX : Nat → Nat) (σ0 : Mem) (h0 : Nat) (u : (Nat → Nat) × Mem) : Prop := u.1 0 = adX 0 ∧ u.1 30 = h0 ∧ (∀ k, 41 ≤ k → u.1 k = ad0 k ∧ u.2 k = σ0 k) ∧ RX V0 u.2 ∧ RM V0 u.2
theorem n_X7 (l : Launch) (D : va_G) (cs : ClassId × ClassId × ClassId) (ad0 adX : Nat → Nat) (σ0 τX : Mem) (hX : RX V0 τX) (hX2 : ∀ k, 30 ≤ k → τX k = σ0 k) (h0 sz : Nat) : Met l (mN mX7_init) (wsM mX7_init) (rmC mX7_init 10 681) (va_Pc [.ref h0] (PR D cs ad0 σ0 sz (wd adX cs τX 30 ++ [(h0, .inr (7, [.int 0, .null, .null, .null, .null, .null, .null, .null, .null, .int 0, .int 0, .int 0, .int 0, .int 0, .null, .int 0, .null, .int 0, .int 0, .int 0, .int 0, .int 0]))]) (wd adX cs τX 30 ++ [(h0, .inr (7, [.int 0, .null, .null, .null, .null, .null, .null, .null, .null, .int 0, .int 0, .int 0, .int 0, .int 0, .null, .int 0, .null, .int 0, .int 0, .int 0, .int 0, .int 0]))]))) (va_Qv (isM ad0 adX σ0 h0) (fun u t => QW D cs (va_A (wd adX cs τX 30 ++ [(h0, .inr (7, [.int 0, .null, .null, .null, .null, .null, .null, .null, .null, .int 0, .int 0, .int 0, .int 0, .int 0, .null, .int 0, .null, .int 0, .int 0, .int 0, .int 0, .int 0]))]) sz) (wd u.1 cs u.2 41) t) (va_A (wd adX cs τX 30 ++ [(h0, .inr (7, [.int 0, .null, .null, .null, .null, .null, .null, .null, .null, .int 0, .int 0, .int 0, .int 0, .int 0, .null, .int 0, .null, .int 0, .int 0, .int 0, .int 0, .int 0]))]) sz)) 10 681 (va_A (wd adX cs τX 30 ++ [(h0, .inr (7, [.int 0, .null, .null, .null, .null, .null, .null, .null, .null, .int 0, .int 0, .int 0, .int 0, .int 0, .null, .int 0, .null, .int 0, .int 0, .int 0, .int 0, .int 0]))]) sz) := by
  refine Met.ofWF (cc := cX7_init) (maxL := 2) (ret := none) (ws' := TW) (plainFor_of_name (by decide)) rfl ?_
  intro p e s m args below meth c s₁ B hml hv
  obtain ⟨rfl, ⟨hsz, hP, hK, hD0, hN⟩, hro, hst⟩ := hv
  have hx := B.exec
  have hb := B.bytes
  have hr := B.returns
  have hts0 := atoms_spec (ws := wsM mX7_init) B.pre
  have hts : ∀ w ∈ TW, w.before ([.ref h0] : List Value).toArray s = true := fun w hw => hts0 w (List.mem_cons_of_mem _ hw)
  have hown : s.vm.findClass RX7 = some m.cls := findClass_of_methodNamed B.named
  have hlocks := B.notSynchronized
  have hin : meth.name = "<init>" := (name_of_methodNamed B.named B.method).1
  subst hsz
  have hD := hD0.self (sz := s.heap.size)
  generalize hAe : va_A (wd adX cs τX 30 ++ [(h0, .inr (7, [.int 0, .null, .null, .null, .null, .null, .null, .null, .null, .int 0, .int 0, .int 0, .int 0, .int 0, .null, .int 0, .null, .int 0, .int 0, .int 0, .int 0, .int 0]))]) s.heap.size = A at hD hro hst ⊢
  have hA : ∀ q : Nat, s.heap.size ≤ q → A q := fun q h => by rw [← hAe]; exact Or.inr h
  have hS : va_S A s.heap s.heap [] := va_S.rf
  have hl := lv_entry ([.ref h0]) (n := 2) (Nat.le_of_ble_eq_true rfl)
  rw [lg_entry_eq]
  generalize (lg_sl ([.ref h0]) ++ List.replicate (2 - (lg_sl ([.ref h0])).length) Slot.unset).toArray = ls at hl ⊢
  have hl : lv_has ls 2 [(0, .ref h0)] := hl
  have hP : va_P D classes [(adX 0, en adX cs (τX 0) (sh 0)), (adX 1, en adX cs (τX 1) (sh 1)), (adX 2, en adX cs (τX 2) (sh 2)), (adX 3, en adX cs (τX 3) (sh 3)), (adX 4, en adX cs (τX 4) (sh 4)), (adX 5, en adX cs (τX 5) (sh 5)), (adX 6, en adX cs (τX 6) (sh 6)), (adX 7, en adX cs (τX 7) (sh 7)), (adX 8, en adX cs (τX 8) (sh 8)), (adX 9, en adX cs (τX 9) (sh 9)), (adX 10, en adX cs (τX 10) (sh 10)), (adX 11, en adX cs (τX 11) (sh 11)), (adX 12, en adX cs (τX 12) (sh 12)), (adX 13, en adX cs (τX 13) (sh 13)), (adX 14, en adX cs (τX 14) (sh 14)), (adX 15, en adX cs (τX 15) (sh 15)), (adX 16, en adX cs (τX 16) (sh 16)), (adX 17, en adX cs (τX 17) (sh 17)), (adX 18, en adX cs (τX 18) (sh 18)), (adX 19, en adX cs (τX 19) (sh 19)), (adX 20, en adX cs (τX 20) (sh 20)), (adX 21, en adX cs (τX 21) (sh 21)), (adX 22, en adX cs (τX 22) (sh 22)), (adX 23, en adX cs (τX 23) (sh 23)), (adX 24, en adX cs (τX 24) (sh 24)), (adX 25, en adX cs (τX 25) (sh 25)), (adX 26, en adX cs (τX 26) (sh 26)), (adX 27, en adX cs (τX 27) (sh 27)), (adX 28, en adX cs (τX 28) (sh 28)), (adX 29, en adX cs (τX 29) (sh 29)), (h0, .inr (7, [.int 0, .null, .null, .null, .null, .null, .null, .null, .null, .int 0, .int 0, .int 0, .int 0, .int 0, .null, .int 0, .null, .int 0, .int 0, .int 0, .int 0, .int 0]))] s.heap := hP
  have hD : va_D A [(adX 0, en adX cs (τX 0) (sh 0)), (adX 1, en adX cs (τX 1) (sh 1)), (adX 2, en adX cs (τX 2) (sh 2)), (adX 3, en adX cs (τX 3) (sh 3)), (adX 4, en adX cs (τX 4) (sh 4)), (adX 5, en adX cs (τX 5) (sh 5)), (adX 6, en adX cs (τX 6) (sh 6)), (adX 7, en adX cs (τX 7) (sh 7)), (adX 8, en adX cs (τX 8) (sh 8)), (adX 9, en adX cs (τX 9) (sh 9)), (adX 10, en adX cs (τX 10) (sh 10)), (adX 11, en adX cs (τX 11) (sh 11)), (adX 12, en adX cs (τX 12) (sh 12)), (adX 13, en adX cs (τX 13) (sh 13)), (adX 14, en adX cs (τX 14) (sh 14)), (adX 15, en adX cs (τX 15) (sh 15)), (adX 16, en adX cs (τX 16) (sh 16)), (adX 17, en adX cs (τX 17) (sh 17)), (adX 18, en adX cs (τX 18) (sh 18)), (adX 19, en adX cs (τX 19) (sh 19)), (adX 20, en adX cs (τX 20) (sh 20)), (adX 21, en adX cs (τX 21) (sh 21)), (adX 22, en adX cs (τX 22) (sh 22)), (adX 23, en adX cs (τX 23) (sh 23)), (adX 24, en adX cs (τX 24) (sh 24)), (adX 25, en adX cs (τX 25) (sh 25)), (adX 26, en adX cs (τX 26) (sh 26)), (adX 27, en adX cs (τX 27) (sh 27)), (adX 28, en adX cs (τX 28) (sh 28)), (adX 29, en adX cs (τX 29) (sh 29)), (h0, .inr (7, [.int 0, .null, .null, .null, .null, .null, .null, .null, .null, .int 0, .int 0, .int 0, .int 0, .int 0, .null, .int 0, .null, .int 0, .int 0, .int 0, .int 0, .int 0]))] := hD
  generalize g0 : (adX 0, en adX cs (τX 0) (sh 0)) = e0 at hP hD
  generalize g1 : (adX 1, en adX cs (τX 1) (sh 1)) = e1 at hP hD
  generalize g2 : (adX 2, en adX cs (τX 2) (sh 2)) = e2 at hP hD
  generalize g3 : (adX 3, en adX cs (τX 3) (sh 3)) = e3 at hP hD
  generalize g4 : (adX 4, en adX cs (τX 4) (sh 4)) = e4 at hP hD
  generalize g5 : (adX 5, en adX cs (τX 5) (sh 5)) = e5 at hP hD
  generalize g6 : (adX 6, en adX cs (τX 6) (sh 6)) = e6 at hP hD
  generalize g7 : (adX 7, en adX cs (τX 7) (sh 7)) = e7 at hP hD
  generalize g8 : (adX 8, en adX cs (τX 8) (sh 8)) = e8 at hP hD
  generalize g9 : (adX 9, en adX cs (τX 9) (sh 9)) = e9 at hP hD
  generalize g10 : (adX 10, en adX cs (τX 10) (sh 10)) = e10 at hP hD
  generalize g11 : (adX 11, en adX cs (τX 11) (sh 11)) = e11 at hP hD
  generalize g12 : (adX 12, en adX cs (τX 12) (sh 12)) = e12 at hP hD
  generalize g13 : (adX 13, en adX cs (τX 13) (sh 13)) = e13 at hP hD
  generalize g14 : (adX 14, en adX cs (τX 14) (sh 14)) = e14 at hP hD
  generalize g15 : (adX 15, en adX cs (τX 15) (sh 15)) = e15 at hP hD
  generalize g16 : (adX 16, en adX cs (τX 16) (sh 16)) = e16 at hP hD
  generalize g17 : (adX 17, en adX cs (τX 17) (sh 17)) = e17 at hP hD
  generalize g18 : (adX 18, en adX cs (τX 18) (sh 18)) = e18 at hP hD
  generalize g19 : (adX 19, en adX cs (τX 19) (sh 19)) = e19 at hP hD
  generalize g20 : (adX 20, en adX cs (τX 20) (sh 20)) = e20 at hP hD
  generalize g21 : (adX 21, en adX cs (τX 21) (sh 21)) = e21 at hP hD
  generalize g22 : (adX 22, en adX cs (τX 22) (sh 22)) = e22 at hP hD
  generalize g23 : (adX 23, en adX cs (τX 23) (sh 23)) = e23 at hP hD
  generalize g24 : (adX 24, en adX cs (τX 24) (sh 24)) = e24 at hP hD
  generalize g25 : (adX 25, en adX cs (τX 25) (sh 25)) = e25 at hP hD
  generalize g26 : (adX 26, en adX cs (τX 26) (sh 26)) = e26 at hP hD
  generalize g27 : (adX 27, en adX cs (τX 27) (sh 27)) = e27 at hP hD
  generalize g28 : (adX 28, en adX cs (τX 28) (sh 28)) = e28 at hP hD
  generalize g29 : (adX 29, en adX cs (τX 29) (sh 29)) = e29 at hP hD
  refine lv_aload_n hx hb dX7_init_0 rfl (lv_at hl 0 rfl) ?_
  refine W.objInit hx hb hown (hts _ (TW_of 691 (by decide +kernel) (by decide +kernel))) (hts _ (TW_of 64 (by decide +kernel) (by decide +kernel))) (hts _ (TW_of 65 (by decide +kernel) (by decide +kernel))) rfl (by rw [hml]; exact hl.1) rfl dX7_init_1 (Nat.le_of_ble_eq_true rfl) (Nat.le_of_ble_eq_true rfl) ?_
  refine W.eq (g2 := F0 m 4 ls []) rfl ?_
  refine lv_aload_n hx hb dX7_init_4 rfl (lv_at hl 0 rfl) ?_
  refine lv_bipush (v := 32) hx hb dX7_init_5 (by decide) ?_
  refine va_newa (D := D) (ty := .int) (N' := 32) (a0 := (32, .inl (fun _ => 0))) hx hb (hts _ (TW_of 84 (by decide +kernel) (by decide +kernel))) rfl hK hP hD hS hA (fun _ => rfl) (by decide) (by decide) (by decide) (Nat.le_of_ble_eq_true rfl) (Nat.le_of_ble_eq_true rfl) dX7_init_7 (fun q7 cA H hK2 hP hD hS => ?_)
  obtain rfl := K_int hK2
  have hP : va_P D classes [e0, e1, e2, e3, e4, e5, e6, e7, e8, e9, e10, e11, e12, e13, e14, e15, e16, e17, e18, e19, e20, e21, e22, e23, e24, e25, e26, e27, e28, e29, (h0, .inr (7, [.int 0, .null, .null, .null, .null, .null, .null, .null, .null, .int 0, .int 0, .int 0, .int 0, .int 0, .null, .int 0, .null, .int 0, .int 0, .int 0, .int 0, .int 0])), (q7, .inl (cs.1, 32, .inl (fun _ => 0)))] H := hP
  have hD : va_D A [e0, e1, e2, e3, e4, e5, e6, e7, e8, e9, e10, e11, e12, e13, e14, e15, e16, e17, e18, e19, e20, e21, e22, e23, e24, e25, e26, e27, e28, e29, (h0, .inr (7, [.int 0, .null, .null, .null, .null, .null, .null, .null, .null, .int 0, .int 0, .int 0, .int 0, .int 0, .null, .int 0, .null, .int 0, .int 0, .int 0, .int 0, .int 0])), (q7, .inl (cs.1, 32, .inl (fun _ => 0)))] := hD
  refine W.widen (k := 1) (n := 32) (by omega) (by omega) ?_
  refine va_putF (D := D) (ci := 7) (v := .ref q7) (ty := (.array .int)) (C := RX7) (T := TX7) (N := 22) hx hb hts wkX7 tyX7 tyX7_ok nmX7 hown hK hP hD hS 30 rfl rfl 1 (by decide) (hts _ (TW_of 698 (by decide +kernel) (by decide +kernel))) (fun _ h9 => h9) rfl hin rfl (by decide +kernel) rfl rfl (Nat.le_of_ble_eq_true rfl) dX7_init_9 (fun H locs hP hD hS => ?_)
  have hP : va_P D classes [e0, e1, e2, e3, e4, e5, e6, e7, e8, e9, e10, e11, e12, e13, e14, e15, e16, e17, e18, e19, e20, e21, e22, e23, e24, e25, e26, e27, e28, e29, (h0, .inr (7, [.int 0, .ref q7, .null, .null, .null, .null, .null, .null, .null, .int 0, .int 0, .int 0, .int 0, .int 0, .null, .int 0, .null, .int 0, .int 0, .int 0, .int 0, .int 0])), (q7, .inl (cs.1, 32, .inl (fun _ => 0)))] H := hP
  have hD : va_D A [e0, e1, e2, e3, e4, e5, e6, e7, e8, e9, e10, e11, e12, e13, e14, e15, e16, e17, e18, e19, e20, e21, e22, e23, e24, e25, e26, e27, e28, e29, (h0, .inr (7, [.int 0, .ref q7, .null, .null, .null, .null, .null, .null, .null, .int 0, .int 0, .int 0, .int 0, .int 0, .null, .int 0, .null, .int 0, .int 0, .int 0, .int 0, .int 0])), (q7, .inl (cs.1, 32, .inl (fun _ => 0)))] := hD
  refine lv_aload_n hx hb dX7_init_12 rfl (lv_at hl 0 rfl) ?_
  refine lv_bipush (v := 32) hx hb dX7_init_13 (by decide) ?_
  refine va_newa (D := D) (ty := .long) (N' := 32) (a0 := (32, .inr (.inl (fun _ => 0)))) hx hb (hts _ (TW_of 764 (by decide +kernel) (by decide +kernel))) rfl hK hP hD hS hA (fun _ => rfl) (by decide) (by decide) (by decide) (Nat.le_of_ble_eq_true rfl) (Nat.le_of_ble_eq_true rfl) dX7_init_15 (fun q15 cA H hK2 hP hD hS => ?_)
  obtain rfl := K_long hK2
  have hP : va_P D classes [e0, e1, e2, e3, e4, e5, e6, e7, e8, e9, e10, e11, e12, e13, e14, e15, e16, e17, e18, e19, e20, e21, e22, e23, e24, e25, e26, e27, e28, e29, (h0, .inr (7, [.int 0, .ref q7, .null, .null, .null, .null, .null, .null, .null, .int 0, .int 0, .int 0, .int 0, .int 0, .null, .int 0, .null, .int 0, .int 0, .int 0, .int 0, .int 0])), (q7, .inl (cs.1, 32, .inl (fun _ => 0))), (q15, .inl (cs.2.1, 32, .inr (.inl (fun _ => 0))))] H := hP
  have hD : va_D A [e0, e1, e2, e3, e4, e5, e6, e7, e8, e9, e10, e11, e12, e13, e14, e15, e16, e17, e18, e19, e20, e21, e22, e23, e24, e25, e26, e27, e28, e29, (h0, .inr (7, [.int 0, .ref q7, .null, .null, .null, .null, .null, .null, .null, .int 0, .int 0, .int 0, .int 0, .int 0, .null, .int 0, .null, .int 0, .int 0, .int 0, .int 0, .int 0])), (q7, .inl (cs.1, 32, .inl (fun _ => 0))), (q15, .inl (cs.2.1, 32, .inr (.inl (fun _ => 0))))] := hD
  refine W.widen (k := 2) (n := 64) (by omega) (by omega) ?_
  refine va_putF (D := D) (ci := 7) (v := .ref q15) (ty := (.array .long)) (C := RX7) (T := TX7) (N := 22) hx hb hts wkX7 tyX7 tyX7_ok nmX7 hown hK hP hD hS 30 rfl rfl 2 (by decide) (hts _ (TW_of 699 (by decide +kernel) (by decide +kernel))) (fun _ h9 => h9) rfl hin rfl (by decide +kernel) rfl rfl (Nat.le_of_ble_eq_true rfl) dX7_init_17 (fun H locs hP hD hS => ?_)
  have hP : va_P D classes [e0, e1, e2, e3, e4, e5, e6, e7, e8, e9, e10, e11, e12, e13, e14, e15, e16, e17, e18, e19, e20, e21, e22, e23, e24, e25, e26, e27, e28, e29, (h0, .inr (7, [.int 0, .ref q7, .ref q15, .null, .null, .null, .null, .null, .null, .int 0, .int 0, .int 0, .int 0, .int 0, .null, .int 0, .null, .int 0, .int 0, .int 0, .int 0, .int 0])), (q7, .inl (cs.1, 32, .inl (fun _ => 0))), (q15, .inl (cs.2.1, 32, .inr (.inl (fun _ => 0))))] H := hP
  have hD : va_D A [e0, e1, e2, e3, e4, e5, e6, e7, e8, e9, e10, e11, e12, e13, e14, e15, e16, e17, e18, e19, e20, e21, e22, e23, e24, e25, e26, e27, e28, e29, (h0, .inr (7, [.int 0, .ref q7, .ref q15, .null, .null, .null, .null, .null, .null, .int 0, .int 0, .int 0, .int 0, .int 0, .null, .int 0, .null, .int 0, .int 0, .int 0, .int 0, .int 0])), (q7, .inl (cs.1, 32, .inl (fun _ => 0))), (q15, .inl (cs.2.1, 32, .inr (.inl (fun _ => 0))))] := hD
  refine lv_aload_n hx hb dX7_init_20 rfl (lv_at hl 0 rfl) ?_
  refine lv_bipush (v := 64) hx hb dX7_init_21 (by decide) ?_
  refine va_newa (D := D) (ty := .long) (N' := 64) (a0 := (64, .inr (.inl (fun _ => 0)))) hx hb (hts _ (TW_of 764 (by decide +kernel) (by decide +kernel))) rfl hK hP hD hS hA (fun _ => rfl) (by decide) (by decide) (by decide) (Nat.le_of_ble_eq_true rfl) (Nat.le_of_ble_eq_true rfl) dX7_init_23 (fun q23 cA H hK2 hP hD hS => ?_)
  obtain rfl := K_long hK2
  have hP : va_P D classes [e0, e1, e2, e3, e4, e5, e6, e7, e8, e9, e10, e11, e12, e13, e14, e15, e16, e17, e18, e19, e20, e21, e22, e23, e24, e25, e26, e27, e28, e29, (h0, .inr (7, [.int 0, .ref q7, .ref q15, .null, .null, .null, .null, .null, .null, .int 0, .int 0, .int 0, .int 0, .int 0, .null, .int 0, .null, .int 0, .int 0, .int 0, .int 0, .int 0])), (q7, .inl (cs.1, 32, .inl (fun _ => 0))), (q15, .inl (cs.2.1, 32, .inr (.inl (fun _ => 0)))), (q23, .inl (cs.2.1, 64, .inr (.inl (fun _ => 0))))] H := hP
  have hD : va_D A [e0, e1, e2, e3, e4, e5, e6, e7, e8, e9, e10, e11, e12, e13, e14, e15, e16, e17, e18, e19, e20, e21, e22, e23, e24, e25, e26, e27, e28, e29, (h0, .inr (7, [.int 0, .ref q7, .ref q15, .null, .null, .null, .null, .null, .null, .int 0, .int 0, .int 0, .int 0, .int 0, .null, .int 0, .null, .int 0, .int 0, .int 0, .int 0, .int 0])), (q7, .inl (cs.1, 32, .inl (fun _ => 0))), (q15, .inl (cs.2.1, 32, .inr (.inl (fun _ => 0)))), (q23, .inl (cs.2.1, 64, .inr (.inl (fun _ => 0))))] := hD
  refine W.widen (k := 3) (n := 128) (by omega) (by omega) ?_
  refine va_putF (D := D) (ci := 7) (v := .ref q23) (ty := (.array .long)) (C := RX7) (T := TX7) (N := 22) hx hb hts wkX7 tyX7 tyX7_ok nmX7 hown hK hP hD hS 30 rfl rfl 3 (by decide) (hts _ (TW_of 700 (by decide +kernel) (by decide +kernel))) (fun _ h9 => h9) rfl hin rfl (by decide +kernel) rfl rfl (Nat.le_of_ble_eq_true rfl) dX7_init_25 (fun H locs hP hD hS => ?_)
  have hP : va_P D classes [e0, e1, e2, e3, e4, e5, e6, e7, e8, e9, e10, e11, e12, e13, e14, e15, e16, e17, e18, e19, e20, e21, e22, e23, e24, e25, e26, e27, e28, e29, (h0, .inr (7, [.int 0, .ref q7, .ref q15, .ref q23, .null, .null, .null, .null, .null, .int 0, .int 0, .int 0, .int 0, .int 0, .null, .int 0, .null, .int 0, .int 0, .int 0, .int 0, .int 0])), (q7, .inl (cs.1, 32, .inl (fun _ => 0))), (q15, .inl (cs.2.1, 32, .inr (.inl (fun _ => 0)))), (q23, .inl (cs.2.1, 64, .inr (.inl (fun _ => 0))))] H := hP
  have hD : va_D A [e0, e1, e2, e3, e4, e5, e6, e7, e8, e9, e10, e11, e12, e13, e14, e15, e16, e17, e18, e19, e20, e21, e22, e23, e24, e25, e26, e27, e28, e29, (h0, .inr (7, [.int 0, .ref q7, .ref q15, .ref q23, .null, .null, .null, .null, .null, .int 0, .int 0, .int 0, .int 0, .int 0, .null, .int 0, .null, .int 0, .int 0, .int 0, .int 0, .int 0])), (q7, .inl (cs.1, 32, .inl (fun _ => 0))), (q15, .inl (cs.2.1, 32, .inr (.inl (fun _ => 0)))), (q23, .inl (cs.2.1, 64, .inr (.inl (fun _ => 0))))] := hD
  refine lv_aload_n hx hb dX7_init_28 rfl (lv_at hl 0 rfl) ?_
  refine lv_bipush (v := 64) hx hb dX7_init_29 (by decide) ?_
  refine va_newa (D := D) (ty := .int) (N' := 64) (a0 := (64, .inl (fun _ => 0))) hx hb (hts _ (TW_of 84 (by decide +kernel) (by decide +kernel))) rfl hK hP hD hS hA (fun _ => rfl) (by decide) (by decide) (by decide) (Nat.le_of_ble_eq_true rfl) (Nat.le_of_ble_eq_true rfl) dX7_init_31 (fun q31 cA H hK2 hP hD hS => ?_)
  obtain rfl := K_int hK2
  have hP : va_P D classes [e0, e1, e2, e3, e4, e5, e6, e7, e8, e9, e10, e11, e12, e13, e14, e15, e16, e17, e18, e19, e20, e21, e22, e23, e24, e25, e26, e27, e28, e29, (h0, .inr (7, [.int 0, .ref q7, .ref q15, .ref q23, .null, .null, .null, .null, .null, .int 0, .int 0, .int 0, .int 0, .int 0, .null, .int 0, .null, .int 0, .int 0, .int 0, .int 0, .int 0])), (q7, .inl (cs.1, 32, .inl (fun _ => 0))), (q15, .inl (cs.2.1, 32, .inr (.inl (fun _ => 0)))), (q23, .inl (cs.2.1, 64, .inr (.inl (fun _ => 0)))), (q31, .inl (cs.1, 64, .inl (fun _ => 0)))] H := hP
  have hD : va_D A [e0, e1, e2, e3, e4, e5, e6, e7, e8, e9, e10, e11, e12, e13, e14, e15, e16, e17, e18, e19, e20, e21, e22, e23, e24, e25, e26, e27, e28, e29, (h0, .inr (7, [.int 0, .ref q7, .ref q15, .ref q23, .null, .null, .null, .null, .null, .int 0, .int 0, .int 0, .int 0, .int 0, .null, .int 0, .null, .int 0, .int 0, .int 0, .int 0, .int 0])), (q7, .inl (cs.1, 32, .inl (fun _ => 0))), (q15, .inl (cs.2.1, 32, .inr (.inl (fun _ => 0)))), (q23, .inl (cs.2.1, 64, .inr (.inl (fun _ => 0)))), (q31, .inl (cs.1, 64, .inl (fun _ => 0)))] := hD
  refine W.widen (k := 4) (n := 192) (by omega) (by omega) ?_
  refine va_putF (D := D) (ci := 7) (v := .ref q31) (ty := (.array .int)) (C := RX7) (T := TX7) (N := 22) hx hb hts wkX7 tyX7 tyX7_ok nmX7 hown hK hP hD hS 30 rfl rfl 4 (by decide) (hts _ (TW_of 701 (by decide +kernel) (by decide +kernel))) (fun _ h9 => h9) rfl hin rfl (by decide +kernel) rfl rfl (Nat.le_of_ble_eq_true rfl) dX7_init_33 (fun H locs hP hD hS => ?_)
  have hP : va_P D classes [e0, e1, e2, e3, e4, e5, e6, e7, e8, e9, e10, e11, e12, e13, e14, e15, e16, e17, e18, e19, e20, e21, e22, e23, e24, e25, e26, e27, e28, e29, (h0, .inr (7, [.int 0, .ref q7, .ref q15, .ref q23, .ref q31, .null, .null, .null, .null, .int 0, .int 0, .int 0, .int 0, .int 0, .null, .int 0, .null, .int 0, .int 0, .int 0, .int 0, .int 0])), (q7, .inl (cs.1, 32, .inl (fun _ => 0))), (q15, .inl (cs.2.1, 32, .inr (.inl (fun _ => 0)))), (q23, .inl (cs.2.1, 64, .inr (.inl (fun _ => 0)))), (q31, .inl (cs.1, 64, .inl (fun _ => 0)))] H := hP
  have hD : va_D A [e0, e1, e2, e3, e4, e5, e6, e7, e8, e9, e10, e11, e12, e13, e14, e15, e16, e17, e18, e19, e20, e21, e22, e23, e24, e25, e26, e27, e28, e29, (h0, .inr (7, [.int 0, .ref q7, .ref q15, .ref q23, .ref q31, .null, .null, .null, .null, .int 0, .int 0, .int 0, .int 0, .int 0, .null, .int 0, .null, .int 0, .int 0, .int 0, .int 0, .int 0])), (q7, .inl (cs.1, 32, .inl (fun _ => 0))), (q15, .inl (cs.2.1, 32, .inr (.inl (fun _ => 0)))), (q23, .inl (cs.2.1, 64, .inr (.inl (fun _ => 0)))), (q31, .inl (cs.1, 64, .inl (fun _ => 0)))] := hD
  refine lv_aload_n hx hb dX7_init_36 rfl (lv_at hl 0 rfl) ?_
  refine lv_bipush (v := 6) hx hb dX7_init_37 (by decide) ?_
  refine va_newa (D := D) (ty := .int) (N' := 6) (a0 := (6, .inl (fun _ => 0))) hx hb (hts _ (TW_of 84 (by decide +kernel) (by decide +kernel))) rfl hK hP hD hS hA (fun _ => rfl) (by decide) (by decide) (by decide) (Nat.le_of_ble_eq_true rfl) (Nat.le_of_ble_eq_true rfl) dX7_init_39 (fun q39 cA H hK2 hP hD hS => ?_)
  obtain rfl := K_int hK2
  have hP : va_P D classes [e0, e1, e2, e3, e4, e5, e6, e7, e8, e9, e10, e11, e12, e13, e14, e15, e16, e17, e18, e19, e20, e21, e22, e23, e24, e25, e26, e27, e28, e29, (h0, .inr (7, [.int 0, .ref q7, .ref q15, .ref q23, .ref q31, .null, .null, .null, .null, .int 0, .int 0, .int 0, .int 0, .int 0, .null, .int 0, .null, .int 0, .int 0, .int 0, .int 0, .int 0])), (q7, .inl (cs.1, 32, .inl (fun _ => 0))), (q15, .inl (cs.2.1, 32, .inr (.inl (fun _ => 0)))), (q23, .inl (cs.2.1, 64, .inr (.inl (fun _ => 0)))), (q31, .inl (cs.1, 64, .inl (fun _ => 0))), (q39, .inl (cs.1, 6, .inl (fun _ => 0)))] H := hP
  have hD : va_D A [e0, e1, e2, e3, e4, e5, e6, e7, e8, e9, e10, e11, e12, e13, e14, e15, e16, e17, e18, e19, e20, e21, e22, e23, e24, e25, e26, e27, e28, e29, (h0, .inr (7, [.int 0, .ref q7, .ref q15, .ref q23, .ref q31, .null, .null, .null, .null, .int 0, .int 0, .int 0, .int 0, .int 0, .null, .int 0, .null, .int 0, .int 0, .int 0, .int 0, .int 0])), (q7, .inl (cs.1, 32, .inl (fun _ => 0))), (q15, .inl (cs.2.1, 32, .inr (.inl (fun _ => 0)))), (q23, .inl (cs.2.1, 64, .inr (.inl (fun _ => 0)))), (q31, .inl (cs.1, 64, .inl (fun _ => 0))), (q39, .inl (cs.1, 6, .inl (fun _ => 0)))] := hD
  refine W.widen (k := 5) (n := 198) (by omega) (by omega) ?_
  refine va_putF (D := D) (ci := 7) (v := .ref q39) (ty := (.array .int)) (C := RX7) (T := TX7) (N := 22) hx hb hts wkX7 tyX7 tyX7_ok nmX7 hown hK hP hD hS 30 rfl rfl 5 (by decide) (hts _ (TW_of 702 (by decide +kernel) (by decide +kernel))) (fun _ h9 => h9) rfl hin rfl (by decide +kernel) rfl rfl (Nat.le_of_ble_eq_true rfl) dX7_init_41 (fun H locs hP hD hS => ?_)
  have hP : va_P D classes [e0, e1, e2, e3, e4, e5, e6, e7, e8, e9, e10, e11, e12, e13, e14, e15, e16, e17, e18, e19, e20, e21, e22, e23, e24, e25, e26, e27, e28, e29, (h0, .inr (7, [.int 0, .ref q7, .ref q15, .ref q23, .ref q31, .ref q39, .null, .null, .null, .int 0, .int 0, .int 0, .int 0, .int 0, .null, .int 0, .null, .int 0, .int 0, .int 0, .int 0, .int 0])), (q7, .inl (cs.1, 32, .inl (fun _ => 0))), (q15, .inl (cs.2.1, 32, .inr (.inl (fun _ => 0)))), (q23, .inl (cs.2.1, 64, .inr (.inl (fun _ => 0)))), (q31, .inl (cs.1, 64, .inl (fun _ => 0))), (q39, .inl (cs.1, 6, .inl (fun _ => 0)))] H := hP
  have hD : va_D A [e0, e1, e2, e3, e4, e5, e6, e7, e8, e9, e10, e11, e12, e13, e14, e15, e16, e17, e18, e19, e20, e21, e22, e23, e24, e25, e26, e27, e28, e29, (h0, .inr (7, [.int 0, .ref q7, .ref q15, .ref q23, .ref q31, .ref q39, .null, .null, .null, .int 0, .int 0, .int 0, .int 0, .int 0, .null, .int 0, .null, .int 0, .int 0, .int 0, .int 0, .int 0])), (q7, .inl (cs.1, 32, .inl (fun _ => 0))), (q15, .inl (cs.2.1, 32, .inr (.inl (fun _ => 0)))), (q23, .inl (cs.2.1, 64, .inr (.inl (fun _ => 0)))), (q31, .inl (cs.1, 64, .inl (fun _ => 0))), (q39, .inl (cs.1, 6, .inl (fun _ => 0)))] := hD
  refine lv_aload_n hx hb dX7_init_44 rfl (lv_at hl 0 rfl) ?_
  refine lv_bipush (v := 102) hx hb dX7_init_45 (by decide) ?_
  refine va_newa (D := D) (ty := .int) (N' := 102) (a0 := (102, .inl (fun _ => 0))) hx hb (hts _ (TW_of 84 (by decide +kernel) (by decide +kernel))) rfl hK hP hD hS hA (fun _ => rfl) (by decide) (by decide) (by decide) (Nat.le_of_ble_eq_true rfl) (Nat.le_of_ble_eq_true rfl) dX7_init_47 (fun q47 cA H hK2 hP hD hS => ?_)
  obtain rfl := K_int hK2
  have hP : va_P D classes [e0, e1, e2, e3, e4, e5, e6, e7, e8, e9, e10, e11, e12, e13, e14, e15, e16, e17, e18, e19, e20, e21, e22, e23, e24, e25, e26, e27, e28, e29, (h0, .inr (7, [.int 0, .ref q7, .ref q15, .ref q23, .ref q31, .ref q39, .null, .null, .null, .int 0, .int 0, .int 0, .int 0, .int 0, .null, .int 0, .null, .int 0, .int 0, .int 0, .int 0, .int 0])), (q7, .inl (cs.1, 32, .inl (fun _ => 0))), (q15, .inl (cs.2.1, 32, .inr (.inl (fun _ => 0)))), (q23, .inl (cs.2.1, 64, .inr (.inl (fun _ => 0)))), (q31, .inl (cs.1, 64, .inl (fun _ => 0))), (q39, .inl (cs.1, 6, .inl (fun _ => 0))), (q47, .inl (cs.1, 102, .inl (fun _ => 0)))] H := hP
  have hD : va_D A [e0, e1, e2, e3, e4, e5, e6, e7, e8, e9, e10, e11, e12, e13, e14, e15, e16, e17, e18, e19, e20, e21, e22, e23, e24, e25, e26, e27, e28, e29, (h0, .inr (7, [.int 0, .ref q7, .ref q15, .ref q23, .ref q31, .ref q39, .null, .null, .null, .int 0, .int 0, .int 0, .int 0, .int 0, .null, .int 0, .null, .int 0, .int 0, .int 0, .int 0, .int 0])), (q7, .inl (cs.1, 32, .inl (fun _ => 0))), (q15, .inl (cs.2.1, 32, .inr (.inl (fun _ => 0)))), (q23, .inl (cs.2.1, 64, .inr (.inl (fun _ => 0)))), (q31, .inl (cs.1, 64, .inl (fun _ => 0))), (q39, .inl (cs.1, 6, .inl (fun _ => 0))), (q47, .inl (cs.1, 102, .inl (fun _ => 0)))] := hD
  refine W.widen (k := 6) (n := 300) (by omega) (by omega) ?_
  refine va_putF (D := D) (ci := 7) (v := .ref q47) (ty := (.array .int)) (C := RX7) (T := TX7) (N := 22) hx hb hts wkX7 tyX7 tyX7_ok nmX7 hown hK hP hD hS 30 rfl rfl 6 (by decide) (hts _ (TW_of 703 (by decide +kernel) (by decide +kernel))) (fun _ h9 => h9) rfl hin rfl (by decide +kernel) rfl rfl (Nat.le_of_ble_eq_true rfl) dX7_init_49 (fun H locs hP hD hS => ?_)
  have hP : va_P D classes [e0, e1, e2, e3, e4, e5, e6, e7, e8, e9, e10, e11, e12, e13, e14, e15, e16, e17, e18, e19, e20, e21, e22, e23, e24, e25, e26, e27, e28, e29, (h0, .inr (7, [.int 0, .ref q7, .ref q15, .ref q23, .ref q31, .ref q39, .ref q47, .null, .null, .int 0, .int 0, .int 0, .int 0, .int 0, .null, .int 0, .null, .int 0, .int 0, .int 0, .int 0, .int 0])), (q7, .inl (cs.1, 32, .inl (fun _ => 0))), (q15, .inl (cs.2.1, 32, .inr (.inl (fun _ => 0)))), (q23, .inl (cs.2.1, 64, .inr (.inl (fun _ => 0)))), (q31, .inl (cs.1, 64, .inl (fun _ => 0))), (q39, .inl (cs.1, 6, .inl (fun _ => 0))), (q47, .inl (cs.1, 102, .inl (fun _ => 0)))] H := hP
  have hD : va_D A [e0, e1, e2, e3, e4, e5, e6, e7, e8, e9, e10, e11, e12, e13, e14, e15, e16, e17, e18, e19, e20, e21, e22, e23, e24, e25, e26, e27, e28, e29, (h0, .inr (7, [.int 0, .ref q7, .ref q15, .ref q23, .ref q31, .ref q39, .ref q47, .null, .null, .int 0, .int 0, .int 0, .int 0, .int 0, .null, .int 0, .null, .int 0, .int 0, .int 0, .int 0, .int 0])), (q7, .inl (cs.1, 32, .inl (fun _ => 0))), (q15, .inl (cs.2.1, 32, .inr (.inl (fun _ => 0)))), (q23, .inl (cs.2.1, 64, .inr (.inl (fun _ => 0)))), (q31, .inl (cs.1, 64, .inl (fun _ => 0))), (q39, .inl (cs.1, 6, .inl (fun _ => 0))), (q47, .inl (cs.1, 102, .inl (fun _ => 0)))] := hD
  refine lv_aload_n hx hb dX7_init_52 rfl (lv_at hl 0 rfl) ?_
  refine lv_iconst (v := 5) hx hb dX7_init_53 (by decide) ?_
  refine va_newa (D := D) (ty := .int) (N' := 5) (a0 := (5, .inl (fun _ => 0))) hx hb (hts _ (TW_of 84 (by decide +kernel) (by decide +kernel))) rfl hK hP hD hS hA (fun _ => rfl) (by decide) (by decide) (by decide) (Nat.le_of_ble_eq_true rfl) (Nat.le_of_ble_eq_true rfl) dX7_init_54 (fun q54 cA H hK2 hP hD hS => ?_)
  obtain rfl := K_int hK2
  have hP : va_P D classes [e0, e1, e2, e3, e4, e5, e6, e7, e8, e9, e10, e11, e12, e13, e14, e15, e16, e17, e18, e19, e20, e21, e22, e23, e24, e25, e26, e27, e28, e29, (h0, .inr (7, [.int 0, .ref q7, .ref q15, .ref q23, .ref q31, .ref q39, .ref q47, .null, .null, .int 0, .int 0, .int 0, .int 0, .int 0, .null, .int 0, .null, .int 0, .int 0, .int 0, .int 0, .int 0])), (q7, .inl (cs.1, 32, .inl (fun _ => 0))), (q15, .inl (cs.2.1, 32, .inr (.inl (fun _ => 0)))), (q23, .inl (cs.2.1, 64, .inr (.inl (fun _ => 0)))), (q31, .inl (cs.1, 64, .inl (fun _ => 0))), (q39, .inl (cs.1, 6, .inl (fun _ => 0))), (q47, .inl (cs.1, 102, .inl (fun _ => 0))), (q54, .inl (cs.1, 5, .inl (fun _ => 0)))] H := hP
  have hD : va_D A [e0, e1, e2, e3, e4, e5, e6, e7, e8, e9, e10, e11, e12, e13, e14, e15, e16, e17, e18, e19, e20, e21, e22, e23, e24, e25, e26, e27, e28, e29, (h0, .inr (7, [.int 0, .ref q7, .ref q15, .ref q23, .ref q31, .ref q39, .ref q47, .null, .null, .int 0, .int 0, .int 0, .int 0, .int 0, .null, .int 0, .null, .int 0, .int 0, .int 0, .int 0, .int 0])), (q7, .inl (cs.1, 32, .inl (fun _ => 0))), (q15, .inl (cs.2.1, 32, .inr (.inl (fun _ => 0)))), (q23, .inl (cs.2.1, 64, .inr (.inl (fun _ => 0)))), (q31, .inl (cs.1, 64, .inl (fun _ => 0))), (q39, .inl (cs.1, 6, .inl (fun _ => 0))), (q47, .inl (cs.1, 102, .inl (fun _ => 0))), (q54, .inl (cs.1, 5, .inl (fun _ => 0)))] := hD
  refine W.widen (k := 7) (n := 305) (by omega) (by omega) ?_
  refine va_putF (D := D) (ci := 7) (v := .ref q54) (ty := (.array .int)) (C := RX7) (T := TX7) (N := 22) hx hb hts wkX7 tyX7 tyX7_ok nmX7 hown hK hP hD hS 30 rfl rfl 7 (by decide) (hts _ (TW_of 704 (by decide +kernel) (by decide +kernel))) (fun _ h9 => h9) rfl hin rfl (by decide +kernel) rfl rfl (Nat.le_of_ble_eq_true rfl) dX7_init_56 (fun H locs hP hD hS => ?_)
  have hP : va_P D classes [e0, e1, e2, e3, e4, e5, e6, e7, e8, e9, e10, e11, e12, e13, e14, e15, e16, e17, e18, e19, e20, e21, e22, e23, e24, e25, e26, e27, e28, e29, (h0, .inr (7, [.int 0, .ref q7, .ref q15, .ref q23, .ref q31, .ref q39, .ref q47, .ref q54, .null, .int 0, .int 0, .int 0, .int 0, .int 0, .null, .int 0, .null, .int 0, .int 0, .int 0, .int 0, .int 0])), (q7, .inl (cs.1, 32, .inl (fun _ => 0))), (q15, .inl (cs.2.1, 32, .inr (.inl (fun _ => 0)))), (q23, .inl (cs.2.1, 64, .inr (.inl (fun _ => 0)))), (q31, .inl (cs.1, 64, .inl (fun _ => 0))), (q39, .inl (cs.1, 6, .inl (fun _ => 0))), (q47, .inl (cs.1, 102, .inl (fun _ => 0))), (q54, .inl (cs.1, 5, .inl (fun _ => 0)))] H := hP
  have hD : va_D A [e0, e1, e2, e3, e4, e5, e6, e7, e8, e9, e10, e11, e12, e13, e14, e15, e16, e17, e18, e19, e20, e21, e22, e23, e24, e25, e26, e27, e28, e29, (h0, .inr (7, [.int 0, .ref q7, .ref q15, .ref q23, .ref q31, .ref q39, .ref q47, .ref q54, .null, .int 0, .int 0, .int 0, .int 0, .int 0, .null, .int 0, .null, .int 0, .int 0, .int 0, .int 0, .int 0])), (q7, .inl (cs.1, 32, .inl (fun _ => 0))), (q15, .inl (cs.2.1, 32, .inr (.inl (fun _ => 0)))), (q23, .inl (cs.2.1, 64, .inr (.inl (fun _ => 0)))), (q31, .inl (cs.1, 64, .inl (fun _ => 0))), (q39, .inl (cs.1, 6, .inl (fun _ => 0))), (q47, .inl (cs.1, 102, .inl (fun _ => 0))), (q54, .inl (cs.1, 5, .inl (fun _ => 0)))] := hD
  refine lv_aload_n hx hb dX7_init_59 rfl (lv_at hl 0 rfl) ?_
  refine lv_bipush (v := 120) hx hb dX7_init_60 (by decide) ?_
  refine va_newa (D := D) (ty := .int) (N' := 120) (a0 := (120, .inl (fun _ => 0))) hx hb (hts _ (TW_of 84 (by decide +kernel) (by decide +kernel))) rfl hK hP hD hS hA (fun _ => rfl) (by decide) (by decide) (by decide) (Nat.le_of_ble_eq_true rfl) (Nat.le_of_ble_eq_true rfl) dX7_init_62 (fun q62 cA H hK2 hP hD hS => ?_)
  obtain rfl := K_int hK2
  have hP : va_P D classes [e0, e1, e2, e3, e4, e5, e6, e7, e8, e9, e10, e11, e12, e13, e14, e15, e16, e17, e18, e19, e20, e21, e22, e23, e24, e25, e26, e27, e28, e29, (h0, .inr (7, [.int 0, .ref q7, .ref q15, .ref q23, .ref q31, .ref q39, .ref q47, .ref q54, .null, .int 0, .int 0, .int 0, .int 0, .int 0, .null, .int 0, .null, .int 0, .int 0, .int 0, .int 0, .int 0])), (q7, .inl (cs.1, 32, .inl (fun _ => 0))), (q15, .inl (cs.2.1, 32, .inr (.inl (fun _ => 0)))), (q23, .inl (cs.2.1, 64, .inr (.inl (fun _ => 0)))), (q31, .inl (cs.1, 64, .inl (fun _ => 0))), (q39, .inl (cs.1, 6, .inl (fun _ => 0))), (q47, .inl (cs.1, 102, .inl (fun _ => 0))), (q54, .inl (cs.1, 5, .inl (fun _ => 0))), (q62, .inl (cs.1, 120, .inl (fun _ => 0)))] H := hP
  have hD : va_D A [e0, e1, e2, e3, e4, e5, e6, e7, e8, e9, e10, e11, e12, e13, e14, e15, e16, e17, e18, e19, e20, e21, e22, e23, e24, e25, e26, e27, e28, e29, (h0, .inr (7, [.int 0, .ref q7, .ref q15, .ref q23, .ref q31, .ref q39, .ref q47, .ref q54, .null, .int 0, .int 0, .int 0, .int 0, .int 0, .null, .int 0, .null, .int 0, .int 0, .int 0, .int 0, .int 0])), (q7, .inl (cs.1, 32, .inl (fun _ => 0))), (q15, .inl (cs.2.1, 32, .inr (.inl (fun _ => 0)))), (q23, .inl (cs.2.1, 64, .inr (.inl (fun _ => 0)))), (q31, .inl (cs.1, 64, .inl (fun _ => 0))), (q39, .inl (cs.1, 6, .inl (fun _ => 0))), (q47, .inl (cs.1, 102, .inl (fun _ => 0))), (q54, .inl (cs.1, 5, .inl (fun _ => 0))), (q62, .inl (cs.1, 120, .inl (fun _ => 0)))] := hD
  refine W.widen (k := 8) (n := 425) (by omega) (by omega) ?_
  refine va_putF (D := D) (ci := 7) (v := .ref q62) (ty := (.array .int)) (C := RX7) (T := TX7) (N := 22) hx hb hts wkX7 tyX7 tyX7_ok nmX7 hown hK hP hD hS 30 rfl rfl 8 (by decide) (hts _ (TW_of 705 (by decide +kernel) (by decide +kernel))) (fun _ h9 => h9) rfl hin rfl (by decide +kernel) rfl rfl (Nat.le_of_ble_eq_true rfl) dX7_init_64 (fun H locs hP hD hS => ?_)
  have hP : va_P D classes [e0, e1, e2, e3, e4, e5, e6, e7, e8, e9, e10, e11, e12, e13, e14, e15, e16, e17, e18, e19, e20, e21, e22, e23, e24, e25, e26, e27, e28, e29, (h0, .inr (7, [.int 0, .ref q7, .ref q15, .ref q23, .ref q31, .ref q39, .ref q47, .ref q54, .ref q62, .int 0, .int 0, .int 0, .int 0, .int 0, .null, .int 0, .null, .int 0, .int 0, .int 0, .int 0, .int 0])), (q7, .inl (cs.1, 32, .inl (fun _ => 0))), (q15, .inl (cs.2.1, 32, .inr (.inl (fun _ => 0)))), (q23, .inl (cs.2.1, 64, .inr (.inl (fun _ => 0)))), (q31, .inl (cs.1, 64, .inl (fun _ => 0))), (q39, .inl (cs.1, 6, .inl (fun _ => 0))), (q47, .inl (cs.1, 102, .inl (fun _ => 0))), (q54, .inl (cs.1, 5, .inl (fun _ => 0))), (q62, .inl (cs.1, 120, .inl (fun _ => 0)))] H := hP
  have hD : va_D A [e0, e1, e2, e3, e4, e5, e6, e7, e8, e9, e10, e11, e12, e13, e14, e15, e16, e17, e18, e19, e20, e21, e22, e23, e24, e25, e26, e27, e28, e29, (h0, .inr (7, [.int 0, .ref q7, .ref q15, .ref q23, .ref q31, .ref q39, .ref q47, .ref q54, .ref q62, .int 0, .int 0, .int 0, .int 0, .int 0, .null, .int 0, .null, .int 0, .int 0, .int 0, .int 0, .int 0])), (q7, .inl (cs.1, 32, .inl (fun _ => 0))), (q15, .inl (cs.2.1, 32, .inr (.inl (fun _ => 0)))), (q23, .inl (cs.2.1, 64, .inr (.inl (fun _ => 0)))), (q31, .inl (cs.1, 64, .inl (fun _ => 0))), (q39, .inl (cs.1, 6, .inl (fun _ => 0))), (q47, .inl (cs.1, 102, .inl (fun _ => 0))), (q54, .inl (cs.1, 5, .inl (fun _ => 0))), (q62, .inl (cs.1, 120, .inl (fun _ => 0)))] := hD
  refine lv_aload_n hx hb dX7_init_67 rfl (lv_at hl 0 rfl) ?_
  refine lv_bipush (v := 20) hx hb dX7_init_68 (by decide) ?_
  refine va_put (D := D) (ci := 7) (v := .int 20) (ty := .int) (C := RX7) (T := TX7) (N := 22) hx hb hts wkX7 tyX7 tyX7_ok nmX7 hown hK hP hD hS 30 rfl rfl 10 (by decide) (hts _ (TW_of 707 (by decide +kernel) (by decide +kernel))) (fun _ h9 => h9) rfl (by decide +kernel) rfl rfl (Nat.le_of_ble_eq_true rfl) dX7_init_70 (fun H locs hP hD hS => ?_)
  have hP : va_P D classes [e0, e1, e2, e3, e4, e5, e6, e7, e8, e9, e10, e11, e12, e13, e14, e15, e16, e17, e18, e19, e20, e21, e22, e23, e24, e25, e26, e27, e28, e29, (h0, .inr (7, [.int 0, .ref q7, .ref q15, .ref q23, .ref q31, .ref q39, .ref q47, .ref q54, .ref q62, .int 0, .int 20, .int 0, .int 0, .int 0, .null, .int 0, .null, .int 0, .int 0, .int 0, .int 0, .int 0])), (q7, .inl (cs.1, 32, .inl (fun _ => 0))), (q15, .inl (cs.2.1, 32, .inr (.inl (fun _ => 0)))), (q23, .inl (cs.2.1, 64, .inr (.inl (fun _ => 0)))), (q31, .inl (cs.1, 64, .inl (fun _ => 0))), (q39, .inl (cs.1, 6, .inl (fun _ => 0))), (q47, .inl (cs.1, 102, .inl (fun _ => 0))), (q54, .inl (cs.1, 5, .inl (fun _ => 0))), (q62, .inl (cs.1, 120, .inl (fun _ => 0)))] H := hP
  have hD : va_D A [e0, e1, e2, e3, e4, e5, e6, e7, e8, e9, e10, e11, e12, e13, e14, e15, e16, e17, e18, e19, e20, e21, e22, e23, e24, e25, e26, e27, e28, e29, (h0, .inr (7, [.int 0, .ref q7, .ref q15, .ref q23, .ref q31, .ref q39, .ref q47, .ref q54, .ref q62, .int 0, .int 20, .int 0, .int 0, .int 0, .null, .int 0, .null, .int 0, .int 0, .int 0, .int 0, .int 0])), (q7, .inl (cs.1, 32, .inl (fun _ => 0))), (q15, .inl (cs.2.1, 32, .inr (.inl (fun _ => 0)))), (q23, .inl (cs.2.1, 64, .inr (.inl (fun _ => 0)))), (q31, .inl (cs.1, 64, .inl (fun _ => 0))), (q39, .inl (cs.1, 6, .inl (fun _ => 0))), (q47, .inl (cs.1, 102, .inl (fun _ => 0))), (q54, .inl (cs.1, 5, .inl (fun _ => 0))), (q62, .inl (cs.1, 120, .inl (fun _ => 0)))] := hD
  refine lv_aload_n hx hb dX7_init_73 rfl (lv_at hl 0 rfl) ?_
  refine lv_bipush (v := 30) hx hb dX7_init_74 (by decide) ?_
  refine va_put (D := D) (ci := 7) (v := .int 30) (ty := .int) (C := RX7) (T := TX7) (N := 22) hx hb hts wkX7 tyX7 tyX7_ok nmX7 hown hK hP hD hS 30 rfl rfl 11 (by decide) (hts _ (TW_of 708 (by decide +kernel) (by decide +kernel))) (fun _ h9 => h9) rfl (by decide +kernel) rfl rfl (Nat.le_of_ble_eq_true rfl) dX7_init_76 (fun H locs hP hD hS => ?_)
  have hP : va_P D classes [e0, e1, e2, e3, e4, e5, e6, e7, e8, e9, e10, e11, e12, e13, e14, e15, e16, e17, e18, e19, e20, e21, e22, e23, e24, e25, e26, e27, e28, e29, (h0, .inr (7, [.int 0, .ref q7, .ref q15, .ref q23, .ref q31, .ref q39, .ref q47, .ref q54, .ref q62, .int 0, .int 20, .int 30, .int 0, .int 0, .null, .int 0, .null, .int 0, .int 0, .int 0, .int 0, .int 0])), (q7, .inl (cs.1, 32, .inl (fun _ => 0))), (q15, .inl (cs.2.1, 32, .inr (.inl (fun _ => 0)))), (q23, .inl (cs.2.1, 64, .inr (.inl (fun _ => 0)))), (q31, .inl (cs.1, 64, .inl (fun _ => 0))), (q39, .inl (cs.1, 6, .inl (fun _ => 0))), (q47, .inl (cs.1, 102, .inl (fun _ => 0))), (q54, .inl (cs.1, 5, .inl (fun _ => 0))), (q62, .inl (cs.1, 120, .inl (fun _ => 0)))] H := hP
  have hD : va_D A [e0, e1, e2, e3, e4, e5, e6, e7, e8, e9, e10, e11, e12, e13, e14, e15, e16, e17, e18, e19, e20, e21, e22, e23, e24, e25, e26, e27, e28, e29, (h0, .inr (7, [.int 0, .ref q7, .ref q15, .ref q23, .ref q31, .ref q39, .ref q47, .ref q54, .ref q62, .int 0, .int 20, .int 30, .int 0, .int 0, .null, .int 0, .null, .int 0, .int 0, .int 0, .int 0, .int 0])), (q7, .inl (cs.1, 32, .inl (fun _ => 0))), (q15, .inl (cs.2.1, 32, .inr (.inl (fun _ => 0)))), (q23, .inl (cs.2.1, 64, .inr (.inl (fun _ => 0)))), (q31, .inl (cs.1, 64, .inl (fun _ => 0))), (q39, .inl (cs.1, 6, .inl (fun _ => 0))), (q47, .inl (cs.1, 102, .inl (fun _ => 0))), (q54, .inl (cs.1, 5, .inl (fun _ => 0))), (q62, .inl (cs.1, 120, .inl (fun _ => 0)))] := hD
  refine lv_aload_n hx hb dX7_init_79 rfl (lv_at hl 0 rfl) ?_
  refine lv_sipush (v := 300) hx hb dX7_init_80 (by decide) ?_
  refine va_put (D := D) (ci := 7) (v := .int 300) (ty := .int) (C := RX7) (T := TX7) (N := 22) hx hb hts wkX7 tyX7 tyX7_ok nmX7 hown hK hP hD hS 30 rfl rfl 12 (by decide) (hts _ (TW_of 709 (by decide +kernel) (by decide +kernel))) (fun _ h9 => h9) rfl (by decide +kernel) rfl rfl (Nat.le_of_ble_eq_true rfl) dX7_init_83 (fun H locs hP hD hS => ?_)
  have hP : va_P D classes [e0, e1, e2, e3, e4, e5, e6, e7, e8, e9, e10, e11, e12, e13, e14, e15, e16, e17, e18, e19, e20, e21, e22, e23, e24, e25, e26, e27, e28, e29, (h0, .inr (7, [.int 0, .ref q7, .ref q15, .ref q23, .ref q31, .ref q39, .ref q47, .ref q54, .ref q62, .int 0, .int 20, .int 30, .int 300, .int 0, .null, .int 0, .null, .int 0, .int 0, .int 0, .int 0, .int 0])), (q7, .inl (cs.1, 32, .inl (fun _ => 0))), (q15, .inl (cs.2.1, 32, .inr (.inl (fun _ => 0)))), (q23, .inl (cs.2.1, 64, .inr (.inl (fun _ => 0)))), (q31, .inl (cs.1, 64, .inl (fun _ => 0))), (q39, .inl (cs.1, 6, .inl (fun _ => 0))), (q47, .inl (cs.1, 102, .inl (fun _ => 0))), (q54, .inl (cs.1, 5, .inl (fun _ => 0))), (q62, .inl (cs.1, 120, .inl (fun _ => 0)))] H := hP
  have hD : va_D A [e0, e1, e2, e3, e4, e5, e6, e7, e8, e9, e10, e11, e12, e13, e14, e15, e16, e17, e18, e19, e20, e21, e22, e23, e24, e25, e26, e27, e28, e29, (h0, .inr (7, [.int 0, .ref q7, .ref q15, .ref q23, .ref q31, .ref q39, .ref q47, .ref q54, .ref q62, .int 0, .int 20, .int 30, .int 300, .int 0, .null, .int 0, .null, .int 0, .int 0, .int 0, .int 0, .int 0])), (q7, .inl (cs.1, 32, .inl (fun _ => 0))), (q15, .inl (cs.2.1, 32, .inr (.inl (fun _ => 0)))), (q23, .inl (cs.2.1, 64, .inr (.inl (fun _ => 0)))), (q31, .inl (cs.1, 64, .inl (fun _ => 0))), (q39, .inl (cs.1, 6, .inl (fun _ => 0))), (q47, .inl (cs.1, 102, .inl (fun _ => 0))), (q54, .inl (cs.1, 5, .inl (fun _ => 0))), (q62, .inl (cs.1, 120, .inl (fun _ => 0)))] := hD
  refine lv_aload_n hx hb dX7_init_86 rfl (lv_at hl 0 rfl) ?_
  refine lv_iconst (v := 3) hx hb dX7_init_87 (by decide) ?_
  refine va_put (D := D) (ci := 7) (v := .int 3) (ty := .int) (C := RX7) (T := TX7) (N := 22) hx hb hts wkX7 tyX7 tyX7_ok nmX7 hown hK hP hD hS 30 rfl rfl 13 (by decide) (hts _ (TW_of 710 (by decide +kernel) (by decide +kernel))) (fun _ h9 => h9) rfl (by decide +kernel) rfl rfl (Nat.le_of_ble_eq_true rfl) dX7_init_88 (fun H locs hP hD hS => ?_)
  have hP : va_P D classes [e0, e1, e2, e3, e4, e5, e6, e7, e8, e9, e10, e11, e12, e13, e14, e15, e16, e17, e18, e19, e20, e21, e22, e23, e24, e25, e26, e27, e28, e29, (h0, .inr (7, [.int 0, .ref q7, .ref q15, .ref q23, .ref q31, .ref q39, .ref q47, .ref q54, .ref q62, .int 0, .int 20, .int 30, .int 300, .int 3, .null, .int 0, .null, .int 0, .int 0, .int 0, .int 0, .int 0])), (q7, .inl (cs.1, 32, .inl (fun _ => 0))), (q15, .inl (cs.2.1, 32, .inr (.inl (fun _ => 0)))), (q23, .inl (cs.2.1, 64, .inr (.inl (fun _ => 0)))), (q31, .inl (cs.1, 64, .inl (fun _ => 0))), (q39, .inl (cs.1, 6, .inl (fun _ => 0))), (q47, .inl (cs.1, 102, .inl (fun _ => 0))), (q54, .inl (cs.1, 5, .inl (fun _ => 0))), (q62, .inl (cs.1, 120, .inl (fun _ => 0)))] H := hP
  have hD : va_D A [e0, e1, e2, e3, e4, e5, e6, e7, e8, e9, e10, e11, e12, e13, e14, e15, e16, e17, e18, e19, e20, e21, e22, e23, e24, e25, e26, e27, e28, e29, (h0, .inr (7, [.int 0, .ref q7, .ref q15, .ref q23, .ref q31, .ref q39, .ref q47, .ref q54, .ref q62, .int 0, .int 20, .int 30, .int 300, .int 3, .null, .int 0, .null, .int 0, .int 0, .int 0, .int 0, .int 0])), (q7, .inl (cs.1, 32, .inl (fun _ => 0))), (q15, .inl (cs.2.1, 32, .inr (.inl (fun _ => 0)))), (q23, .inl (cs.2.1, 64, .inr (.inl (fun _ => 0)))), (q31, .inl (cs.1, 64, .inl (fun _ => 0))), (q39, .inl (cs.1, 6, .inl (fun _ => 0))), (q47, .inl (cs.1, 102, .inl (fun _ => 0))), (q54, .inl (cs.1, 5, .inl (fun _ => 0))), (q62, .inl (cs.1, 120, .inl (fun _ => 0)))] := hD
  refine lv_aload_n hx hb dX7_init_91 rfl (lv_at hl 0 rfl) ?_
  refine lv_bipush (v := 64) hx hb dX7_init_92 (by decide) ?_
  refine va_newa (D := D) (ty := .long) (N' := 64) (a0 := (64, .inr (.inl (fun _ => 0)))) hx hb (hts _ (TW_of 764 (by decide +kernel) (by decide +kernel))) rfl hK hP hD hS hA (fun _ => rfl) (by decide) (by decide) (by decide) (Nat.le_of_ble_eq_true rfl) (Nat.le_of_ble_eq_true rfl) dX7_init_94 (fun q94 cA H hK2 hP hD hS => ?_)
  obtain rfl := K_long hK2
  have hP : va_P D classes [e0, e1, e2, e3, e4, e5, e6, e7, e8, e9, e10, e11, e12, e13, e14, e15, e16, e17, e18, e19, e20, e21, e22, e23, e24, e25, e26, e27, e28, e29, (h0, .inr (7, [.int 0, .ref q7, .ref q15, .ref q23, .ref q31, .ref q39, .ref q47, .ref q54, .ref q62, .int 0, .int 20, .int 30, .int 300, .int 3, .null, .int 0, .null, .int 0, .int 0, .int 0, .int 0, .int 0])), (q7, .inl (cs.1, 32, .inl (fun _ => 0))), (q15, .inl (cs.2.1, 32, .inr (.inl (fun _ => 0)))), (q23, .inl (cs.2.1, 64, .inr (.inl (fun _ => 0)))), (q31, .inl (cs.1, 64, .inl (fun _ => 0))), (q39, .inl (cs.1, 6, .inl (fun _ => 0))), (q47, .inl (cs.1, 102, .inl (fun _ => 0))), (q54, .inl (cs.1, 5, .inl (fun _ => 0))), (q62, .inl (cs.1, 120, .inl (fun _ => 0))), (q94, .inl (cs.2.1, 64, .inr (.inl (fun _ => 0))))] H := hP
  have hD : va_D A [e0, e1, e2, e3, e4, e5, e6, e7, e8, e9, e10, e11, e12, e13, e14, e15, e16, e17, e18, e19, e20, e21, e22, e23, e24, e25, e26, e27, e28, e29, (h0, .inr (7, [.int 0, .ref q7, .ref q15, .ref q23, .ref q31, .ref q39, .ref q47, .ref q54, .ref q62, .int 0, .int 20, .int 30, .int 300, .int 3, .null, .int 0, .null, .int 0, .int 0, .int 0, .int 0, .int 0])), (q7, .inl (cs.1, 32, .inl (fun _ => 0))), (q15, .inl (cs.2.1, 32, .inr (.inl (fun _ => 0)))), (q23, .inl (cs.2.1, 64, .inr (.inl (fun _ => 0)))), (q31, .inl (cs.1, 64, .inl (fun _ => 0))), (q39, .inl (cs.1, 6, .inl (fun _ => 0))), (q47, .inl (cs.1, 102, .inl (fun _ => 0))), (q54, .inl (cs.1, 5, .inl (fun _ => 0))), (q62, .inl (cs.1, 120, .inl (fun _ => 0))), (q94, .inl (cs.2.1, 64, .inr (.inl (fun _ => 0))))] := hD
  refine W.widen (k := 9) (n := 489) (by omega) (by omega) ?_
  refine va_putF (D := D) (ci := 7) (v := .ref q94) (ty := (.array .long)) (C := RX7) (T := TX7) (N := 22) hx hb hts wkX7 tyX7 tyX7_ok nmX7 hown hK hP hD hS 30 rfl rfl 14 (by decide) (hts _ (TW_of 711 (by decide +kernel) (by decide +kernel))) (fun _ h9 => h9) rfl hin rfl (by decide +kernel) rfl rfl (Nat.le_of_ble_eq_true rfl) dX7_init_96 (fun H locs hP hD hS => ?_)
  have hP : va_P D classes [e0, e1, e2, e3, e4, e5, e6, e7, e8, e9, e10, e11, e12, e13, e14, e15, e16, e17, e18, e19, e20, e21, e22, e23, e24, e25, e26, e27, e28, e29, (h0, .inr (7, [.int 0, .ref q7, .ref q15, .ref q23, .ref q31, .ref q39, .ref q47, .ref q54, .ref q62, .int 0, .int 20, .int 30, .int 300, .int 3, .ref q94, .int 0, .null, .int 0, .int 0, .int 0, .int 0, .int 0])), (q7, .inl (cs.1, 32, .inl (fun _ => 0))), (q15, .inl (cs.2.1, 32, .inr (.inl (fun _ => 0)))), (q23, .inl (cs.2.1, 64, .inr (.inl (fun _ => 0)))), (q31, .inl (cs.1, 64, .inl (fun _ => 0))), (q39, .inl (cs.1, 6, .inl (fun _ => 0))), (q47, .inl (cs.1, 102, .inl (fun _ => 0))), (q54, .inl (cs.1, 5, .inl (fun _ => 0))), (q62, .inl (cs.1, 120, .inl (fun _ => 0))), (q94, .inl (cs.2.1, 64, .inr (.inl (fun _ => 0))))] H := hP
  have hD : va_D A [e0, e1, e2, e3, e4, e5, e6, e7, e8, e9, e10, e11, e12, e13, e14, e15, e16, e17, e18, e19, e20, e21, e22, e23, e24, e25, e26, e27, e28, e29, (h0, .inr (7, [.int 0, .ref q7, .ref q15, .ref q23, .ref q31, .ref q39, .ref q47, .ref q54, .ref q62, .int 0, .int 20, .int 30, .int 300, .int 3, .ref q94, .int 0, .null, .int 0, .int 0, .int 0, .int 0, .int 0])), (q7, .inl (cs.1, 32, .inl (fun _ => 0))), (q15, .inl (cs.2.1, 32, .inr (.inl (fun _ => 0)))), (q23, .inl (cs.2.1, 64, .inr (.inl (fun _ => 0)))), (q31, .inl (cs.1, 64, .inl (fun _ => 0))), (q39, .inl (cs.1, 6, .inl (fun _ => 0))), (q47, .inl (cs.1, 102, .inl (fun _ => 0))), (q54, .inl (cs.1, 5, .inl (fun _ => 0))), (q62, .inl (cs.1, 120, .inl (fun _ => 0))), (q94, .inl (cs.2.1, 64, .inr (.inl (fun _ => 0))))] := hD
  refine lv_aload_n hx hb dX7_init_99 rfl (lv_at hl 0 rfl) ?_
  refine lv_sipush (v := 192) hx hb dX7_init_100 (by decide) ?_
  refine va_newa (D := D) (ty := .long) (N' := 192) (a0 := (192, .inr (.inl (fun _ => 0)))) hx hb (hts _ (TW_of 764 (by decide +kernel) (by decide +kernel))) rfl hK hP hD hS hA (fun _ => rfl) (by decide) (by decide) (by decide) (Nat.le_of_ble_eq_true rfl) (Nat.le_of_ble_eq_true rfl) dX7_init_103 (fun q103 cA H hK2 hP hD hS => ?_)
  obtain rfl := K_long hK2
  have hP : va_P D classes [e0, e1, e2, e3, e4, e5, e6, e7, e8, e9, e10, e11, e12, e13, e14, e15, e16, e17, e18, e19, e20, e21, e22, e23, e24, e25, e26, e27, e28, e29, (h0, .inr (7, [.int 0, .ref q7, .ref q15, .ref q23, .ref q31, .ref q39, .ref q47, .ref q54, .ref q62, .int 0, .int 20, .int 30, .int 300, .int 3, .ref q94, .int 0, .null, .int 0, .int 0, .int 0, .int 0, .int 0])), (q7, .inl (cs.1, 32, .inl (fun _ => 0))), (q15, .inl (cs.2.1, 32, .inr (.inl (fun _ => 0)))), (q23, .inl (cs.2.1, 64, .inr (.inl (fun _ => 0)))), (q31, .inl (cs.1, 64, .inl (fun _ => 0))), (q39, .inl (cs.1, 6, .inl (fun _ => 0))), (q47, .inl (cs.1, 102, .inl (fun _ => 0))), (q54, .inl (cs.1, 5, .inl (fun _ => 0))), (q62, .inl (cs.1, 120, .inl (fun _ => 0))), (q94, .inl (cs.2.1, 64, .inr (.inl (fun _ => 0)))), (q103, .inl (cs.2.1, 192, .inr (.inl (fun _ => 0))))] H := hP
  have hD : va_D A [e0, e1, e2, e3, e4, e5, e6, e7, e8, e9, e10, e11, e12, e13, e14, e15, e16, e17, e18, e19, e20, e21, e22, e23, e24, e25, e26, e27, e28, e29, (h0, .inr (7, [.int 0, .ref q7, .ref q15, .ref q23, .ref q31, .ref q39, .ref q47, .ref q54, .ref q62, .int 0, .int 20, .int 30, .int 300, .int 3, .ref q94, .int 0, .null, .int 0, .int 0, .int 0, .int 0, .int 0])), (q7, .inl (cs.1, 32, .inl (fun _ => 0))), (q15, .inl (cs.2.1, 32, .inr (.inl (fun _ => 0)))), (q23, .inl (cs.2.1, 64, .inr (.inl (fun _ => 0)))), (q31, .inl (cs.1, 64, .inl (fun _ => 0))), (q39, .inl (cs.1, 6, .inl (fun _ => 0))), (q47, .inl (cs.1, 102, .inl (fun _ => 0))), (q54, .inl (cs.1, 5, .inl (fun _ => 0))), (q62, .inl (cs.1, 120, .inl (fun _ => 0))), (q94, .inl (cs.2.1, 64, .inr (.inl (fun _ => 0)))), (q103, .inl (cs.2.1, 192, .inr (.inl (fun _ => 0))))] := hD
  refine W.widen (k := 10) (n := 681) (by omega) (by omega) ?_
  refine va_putF (D := D) (ci := 7) (v := .ref q103) (ty := (.array .long)) (C := RX7) (T := TX7) (N := 22) hx hb hts wkX7 tyX7 tyX7_ok nmX7 hown hK hP hD hS 30 rfl rfl 16 (by decide) (hts _ (TW_of 713 (by decide +kernel) (by decide +kernel))) (fun _ h9 => h9) rfl hin rfl (by decide +kernel) rfl rfl (Nat.le_of_ble_eq_true rfl) dX7_init_105 (fun H locs hP hD hS => ?_)
  have hP : va_P D classes [e0, e1, e2, e3, e4, e5, e6, e7, e8, e9, e10, e11, e12, e13, e14, e15, e16, e17, e18, e19, e20, e21, e22, e23, e24, e25, e26, e27, e28, e29, (h0, .inr (7, [.int 0, .ref q7, .ref q15, .ref q23, .ref q31, .ref q39, .ref q47, .ref q54, .ref q62, .int 0, .int 20, .int 30, .int 300, .int 3, .ref q94, .int 0, .ref q103, .int 0, .int 0, .int 0, .int 0, .int 0])), (q7, .inl (cs.1, 32, .inl (fun _ => 0))), (q15, .inl (cs.2.1, 32, .inr (.inl (fun _ => 0)))), (q23, .inl (cs.2.1, 64, .inr (.inl (fun _ => 0)))), (q31, .inl (cs.1, 64, .inl (fun _ => 0))), (q39, .inl (cs.1, 6, .inl (fun _ => 0))), (q47, .inl (cs.1, 102, .inl (fun _ => 0))), (q54, .inl (cs.1, 5, .inl (fun _ => 0))), (q62, .inl (cs.1, 120, .inl (fun _ => 0))), (q94, .inl (cs.2.1, 64, .inr (.inl (fun _ => 0)))), (q103, .inl (cs.2.1, 192, .inr (.inl (fun _ => 0))))] H := hP
  have hD : va_D A [e0, e1, e2, e3, e4, e5, e6, e7, e8, e9, e10, e11, e12, e13, e14, e15, e16, e17, e18, e19, e20, e21, e22, e23, e24, e25, e26, e27, e28, e29, (h0, .inr (7, [.int 0, .ref q7, .ref q15, .ref q23, .ref q31, .ref q39, .ref q47, .ref q54, .ref q62, .int 0, .int 20, .int 30, .int 300, .int 3, .ref q94, .int 0, .ref q103, .int 0, .int 0, .int 0, .int 0, .int 0])), (q7, .inl (cs.1, 32, .inl (fun _ => 0))), (q15, .inl (cs.2.1, 32, .inr (.inl (fun _ => 0)))), (q23, .inl (cs.2.1, 64, .inr (.inl (fun _ => 0)))), (q31, .inl (cs.1, 64, .inl (fun _ => 0))), (q39, .inl (cs.1, 6, .inl (fun _ => 0))), (q47, .inl (cs.1, 102, .inl (fun _ => 0))), (q54, .inl (cs.1, 5, .inl (fun _ => 0))), (q62, .inl (cs.1, 120, .inl (fun _ => 0))), (q94, .inl (cs.2.1, 64, .inr (.inl (fun _ => 0)))), (q103, .inl (cs.2.1, 192, .inr (.inl (fun _ => 0))))] := hD
  subst g0 g1 g2 g3 g4 g5 g6 g7 g8 g9 g10 g11 g12 g13 g14 g15 g16 g17 g18 g19 g20 g21 g22 g23 g24 g25 g26 g27 g28 g29
  rw [← wdM cs adX ad0 τX σ0 h0 q7 q15 q23 q31 q39 q47 q54 q62 q94 q103] at hP hD
  generalize hde : adL [adX 0, adX 1, adX 2, adX 3, adX 4, adX 5, adX 6, adX 7, adX 8, adX 9, adX 10, adX 11, adX 12, adX 13, adX 14, adX 15, adX 16, adX 17, adX 18, adX 19, adX 20, adX 21, adX 22, adX 23, adX 24, adX 25, adX 26, adX 27, adX 28, adX 29, h0, q7, q15, q23, q31, q39, q47, q54, q62, q94, q103] ad0 = ad at hP hD
  have hd0 : ad 0 = adX 0 := by rw [← hde]; rfl
  have hd1 : ad 30 = h0 := by rw [← hde]; rfl
  have hd3 : ∀ k, 41 ≤ k → ad k = ad0 k := fun k hk => by rw [← hde]; exact adL_out hk
  refine m_tail ad D cs A p l e _ s m _ below meth c 10 681 _ ⟨hx, hb, hml, hown, hts, ⟨Nat.le_of_ble_eq_true rfl, Nat.le_of_ble_eq_true rfl, Nat.le_of_ble_eq_true rfl, Nat.le_of_ble_eq_true rfl⟩, hN.1⟩ (fun r τ H locs lsC pc' hq hok hd hH hS => ?_) H locs ls ⟨hK, hP, hD, hro.cong (fun k hk => ⟨hd3 k (by omega), sgM_out (by omega)⟩) hS, hst.cong (fun k hk => hd3 k (by omega)) hS⟩ hS ⟨hl.1, hl.2.1, fun i v hi => ?_⟩
  · obtain ⟨rfl, ρ, r1, r2, r3, hbg⟩ := hq
    have hk2 : ∀ k, 41 ≤ k → τ k = σ0 k := fun k hk => by rw [hbg.2.2.2.2.1 k (by omega), r1 k (by omega) (by omega), sgM_out hk]
    have hkM : keepM τX τ := fun k hk => by
      rcases hk with hk | hk
      · rw [hbg.2.2.2.2.1 k (by omega), r1 k (by omega) (by omega), sgM_in hk]
      · rw [hk2 k hk, hX2 k (by omega)]
    exact W.vret hx hb hr (fun t ht hW => ⟨⟨(ad, τ), rfl, ⟨hd0, hd1, fun k hk => ⟨hd3 k hk, hk2 k hk⟩, hX.keep hkM, RM_0 r1 r2 r3 hbg⟩, by rw [ht]; exact hH.2.1, va_K.moved hW.alike hK, hH.2.2.1⟩, hS.F ht⟩) hS.2.2 hd hlocks
  · cases i with
    | zero =>
      cases hi
      show ls[0]? = some (.val (.ref (ad 30)))
      rw [hd1]
      exact lv_at hl 0 rfl
    | succ i =>
      cases i with
      | zero => cases hi
      | succ i => cases hi
