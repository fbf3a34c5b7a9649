theorem sumN_cong {f g : Int → Int} : ∀ n : Nat, (∀ k : Int, 0 ≤ k → k < n → f k = g k) → sumN f n = sumN g n
  | 0, _ => rfl
  | n + 1, h => by
    unfold sumN
    rw [sumN_cong n (fun k a c => h k a (by omega)), h n (by omega) (by omega)]
theorem sumN_add {f g : Int → Int} : ∀ n : Nat, sumN (fun k => f k + g k) n = sumN f n + sumN g n
  | 0 => rfl
  | n + 1 => by
    unfold sumN
    rw [sumN_add n]
    omega
theorem sumN_mul {c : Int} {f : Int → Int} : ∀ n : Nat, sumN (fun k => c * f k) n = c * sumN f n
  | 0 => by simp [sumN]
  | n + 1 => by
    unfold sumN
    rw [sumN_mul n, Int.mul_add]
theorem sumN_front {f : Int → Int} : ∀ n : Nat, sumN f (n + 1) = f 0 + sumN (fun k => f (k + 1)) n
  | 0 => by simp [sumN]
  | n + 1 => by
    have h := sumN_front (f := f) n
    have e1 : sumN f (n + 1 + 1) = sumN f (n + 1) + f ((n + 1 : Nat) : Int) := rfl
    have e2 : sumN (fun k => f (k + 1)) (n + 1) = sumN (fun k => f (k + 1)) n + f ((n : Int) + 1) := rfl
    rw [e1, e2, h, Int.natCast_succ]
    omega
theorem rot1 {N : Int} {f : Int → Int} (hN : N = 8 ∨ N = 16 ∨ N = 32) (s : Int) (s0 : 0 ≤ s) (s1 : s + 1 < N) : sumN (fun p => f (stp N (s + 1) p)) N.toNat = sumN (fun p => f (stp N s p)) N.toNat := by
  obtain ⟨m, hm⟩ : ∃ m : Nat, N.toNat = m + 1 := ⟨N.toNat - 1, by omega⟩
  rw [hm, sumN_front]
  have e1 : sumN (fun p => f (stp N s p)) (m + 1) = sumN (fun p => f (stp N s p)) m + f (stp N s (m : Int)) := rfl
  have e2 : sumN (fun k => f (stp N (s + 1) (k + 1))) m = sumN (fun p => f (stp N s p)) m := sumN_cong m (fun k k0 k1 => by
    have : stp N (s + 1) (k + 1) = stp N s k := by unfold stp dst; omega
    rw [this])
  have e3 : stp N (s + 1) 0 = stp N s (m : Int) := by unfold stp dst; omega
  rw [e1, e2, e3]
  omega
theorem rotN {N : Int} {f : Int → Int} (hN : N = 8 ∨ N = 16 ∨ N = 32) : ∀ (k : Nat), (k : Int) < N → sumN (fun p => f (stp N k p)) N.toNat = sumN (fun p => f (stp N 0 p)) N.toNat
  | 0, _ => rfl
  | k + 1, h => by
    have := rot1 (f := f) hN (k : Int) (by omega) (by omega)
    rw [Int.natCast_succ, this, rotN hN k (by omega)]
theorem rotS {N : Int} {f : Int → Int} (hN : N = 8 ∨ N = 16 ∨ N = 32) (s : Int) (s0 : 0 ≤ s) (s1 : s < N) : sumN (fun p => f (stp N s p)) N.toNat = sumN (fun p => f (stp N 0 p)) N.toNat := by
  have := rotN (f := f) hN s.toNat (by omega)
  rwa [Int.toNat_of_nonneg s0] at this
theorem rdg_mk0 {V : Mem} {s n p : Int} (p0 : 0 ≤ p) (p1 : p < V 0 0) : rdg (mkV V s n) 0 p = rdg V 0 p + forceK (V 1 s) * n * leanK (V 1 s) * V 8 (stp (V 0 0) s p) := by
  show unb (mkV V s n) 0 p + mkV V s n 3 p = unb V 0 p + V 3 p + _
  rw [unb_mk 0 (by decide), mkV_3 p0 p1]
  omega
theorem rdg_mk1 {V : Mem} {s n p : Int} (p0 : 0 ≤ p) (p1 : p < V 0 0) : rdg (mkV V s n) 1 p = rdg V 1 p + forceK (V 1 s) * n * V 9 (stp (V 0 0) s p) := by
  show unb (mkV V s n) 1 p + mkV V s n 4 p = unb V 1 p + V 4 p + _
  rw [unb_mk 1 (by decide), mkV_4 p0 p1]
  omega
theorem mk_N (V : Mem) (s n : Int) : mkV V s n 0 0 = V 0 0 := by rw [mkV_o (by decide) (by decide) (by decide)]
theorem mk_14 (V : Mem) (s n : Int) : mkV V s n 14 = V 14 := mkV_o (by decide) (by decide) (by decide)
theorem mk_1 (V : Mem) (s n : Int) : mkV V s n 1 = V 1 := mkV_o (by decide) (by decide) (by decide)
theorem mid_mk {b : Int} {V : Mem} (hi : Inv b V) {s n : Int} (s0 : 0 ≤ s) (s1 : s < V 0 0) : midV (mkV V s n) = (sumN (rdg V 0) (V 0 0).toNat + forceK (V 1 s) * n * leanK (V 1 s) * sumN (fun p => V 8 (stp (V 0 0) 0 p)) (V 0 0).toNat) / V 0 0 := by
  have hN := hi.N
  unfold midV
  rw [mk_N]
  congr 1
  rw [← rotS hN s s0 s1 (f := V 8), ← sumN_mul, ← sumN_add]
  exact sumN_cong _ (fun k k0 k1 => rdg_mk0 k0 (by omega))
theorem gr_b {b : Int} {V : Mem} (hi : Inv b V) : -32000 ≤ sumN (fun p => V 8 (stp (V 0 0) 0 p)) (V 0 0).toNat ∧ sumN (fun p => V 8 (stp (V 0 0) 0 p)) (V 0 0).toNat ≤ 32000 := by
  have hN := hi.N2
  have h := sumN_b (f := fun p => V 8 (stp (V 0 0) 0 p)) (B := 1000) (by decide) (V 0 0).toNat (fun k h0 h1 => by
    have hst := stp_b hi.N (show (0 : Int) ≤ 0 by decide) (by omega) (show (0 : Int) ≤ (k : Int) by omega) (by omega)
    have := hi.tab 0 (by decide) _ hst.1 (by omega)
    exact ⟨this.1, this.2.1⟩)
  omega

theorem x_readingAt0 {b b2 : Int} {V σ : Mem} {s n : Int} (hi : Inv b V) (hW : Inv b2 (mkV V s n)) (h : RX V σ) (hg : GA V σ s n) (hr : GR V σ) (s0 : 0 ≤ s) (s1 : s < V 0 0) (hn : -100 ≤ n ∧ n ≤ 100) (p : Int) (p0 : 0 ≤ p) (p1 : p < V 0 0) : RetV 41 mX0_readingAt [aR 23, aI 0, aI p] σ (aI (rdg (mkV V s n) 0 p)) := (x_reading0 hi.i0 h.r0 hg s0 s1 hn p (unb V 0 p) (V 3 p) p0 p1 (h.str 0 (by decide) p p0 p1) (h.made 0 (by decide) p p0 p1)).eqv (by first | (rw [rdg_mk0 p0 p1]; rfl) | rw [rdg_mk0 p0 p1])

theorem x_readingAt1 {b b2 : Int} {V σ : Mem} {s n : Int} (hi : Inv b V) (hW : Inv b2 (mkV V s n)) (h : RX V σ) (hg : GA V σ s n) (hr : GR V σ) (s0 : 0 ≤ s) (s1 : s < V 0 0) (hn : -100 ≤ n ∧ n ≤ 100) (p : Int) (p0 : 0 ≤ p) (p1 : p < V 0 0) : RetV 41 mX0_readingAt [aR 23, aI 1, aI p] σ (aI (rdg (mkV V s n) 1 p)) := (x_reading1 hi.i0 h.r0 hg s0 s1 hn p (unb V 1 p) (V 4 p) p0 p1 (h.str 1 (by decide) p p0 p1) (h.made 1 (by decide) p p0 p1)).eqv (by first | (rw [rdg_mk1 p0 p1]; rfl) | rw [rdg_mk1 p0 p1])

theorem x_pullOf {b b2 : Int} {V σ : Mem} {s n : Int} (hi : Inv b V) (hW : Inv b2 (mkV V s n)) (h : RX V σ) (hg : GA V σ s n) (hr : GR V σ) (s0 : 0 ≤ s) (s1 : s < V 0 0) (hn : -100 ≤ n ∧ n ≤ 100) (j : Int) (j0 : 0 ≤ j) (j1 : j < V 0 0) : RetV 41 mX0_pullOf [aR 23, aI j] σ (aI (mkV V s n 2 j)) := (x_pullOf0 hi.i0 h.r0 hg s0 s1 hn j (V 2 j) j0 j1 (h.pull j j0 j1)).eqv (by rw [mkV_2 j0 j1])

theorem x_middle {b b2 : Int} {V σ : Mem} {s n : Int} (hi : Inv b V) (hW : Inv b2 (mkV V s n)) (h : RX V σ) (hg : GA V σ s n) (hr : GR V σ) (s0 : 0 ≤ s) (s1 : s < V 0 0) (hn : -100 ≤ n ∧ n ≤ 100)   : RetV 41 mX0_middle [aR 23] σ (aI (midV (mkV V s n))) := by
  refine Ret.of [some (aR 23)] rfl (plainFor_of_name (by decide)) (Nat.le_of_ble_eq_true rfl) ?_
  have hN := hi.N2
  have eN := mk_N V s n
  have e14 := mk_14 V s n
  have hbb := hW.b
  have hs64 := sum64 hi (V 0 0).toNat (by omega)
  have hgb := gr_b hi
  have hf := forceK_b (V 1 s)
  have hl := leanK_b (V 1 s)
  have f1 := mulb (a := forceK (V 1 s)) (k := n) (A := 2) (B := 100) (by omega) (by omega) (by omega) (by omega) (by omega) (by omega)
  have f2 := mulb (a := forceK (V 1 s) * n) (k := leanK (V 1 s)) (A := 200) (B := 1) (by omega) (by omega) (by omega) (by omega) (by omega) (by omega)
  have f3 := mulb (a := forceK (V 1 s) * n * leanK (V 1 s)) (k := sumN (fun p => V 8 (stp (V 0 0) 0 p)) (V 0 0).toNat) (A := 200) (B := 32000) (by omega) (by omega) (by omega) (by omega) (by omega) (by omega)
  have hsb := sumN_b (f := rdg V 0) (B := 500010000) (by decide) (V 0 0).toNat (fun k h0 h1 => by have := rdg_b hi 0 (by decide) k (by omega) (by omega); have := hi.b; omega)
  refine g_aload_n dX0_middle_0 rfl ?_
  refine g_getL (ji := 7) rfl dX0_middle_1 fX0_27 rfl rfl (by decide) ?_
  rw [hr.1]
  refine g_aload_n dX0_middle_4 rfl ?_
  refine g_getI (ji := 5) rfl dX0_middle_5 fX0_69 rfl rfl (by decide) ?_
  rw [hg.2.2.1]
  refine g_i2l dX0_middle_8 (by omega) ?_
  refine g_aload_n dX0_middle_9 rfl ?_
  refine g_getL (ji := 8) rfl dX0_middle_10 fX0_31 rfl rfl (by decide) ?_
  rw [hr.2]
  refine g_lmul dX0_middle_13 ?_
  refine g_ladd dX0_middle_14 ?_
  refine g_aload_n dX0_middle_15 rfl ?_
  refine g_getR dX0_middle_16 fX0_9 rfl rfl (by decide) ?_
  refine g_getI (ji := 6) rfl dX0_middle_19 fX0_34 rfl rfl (by decide) ?_
  rw [h.N]
  refine g_i2l dX0_middle_22 (by omega) ?_
  refine g_pS2 dX0_middle_23 sX0_94 (by decide) (Nat.le_of_ble_eq_true rfl) (c_fdL (by omega) (by omega) (by omega)) ?_
  refine g_l2i dX0_middle_26 ?_
  exact g_iret dX0_middle_27 trivial ⟨by rw [mid_mk hi s0 s1], rfl⟩

theorem spS_none {V : Mem} {l : Int} : ∀ n : Nat, (spS V l n).1 = false → spS V l n = (false, 0, 0)
  | 0, _ => rfl
  | n + 1, h => by
    unfold spS at h ⊢
    split
    · rename_i hl
      rw [if_pos hl] at h
      cases h
    · rename_i hl
      rw [if_neg hl] at h
      exact spS_none n h

/-- two spokes that lean l -/
def okS (V τ : Mem) (l : Int) : Prop := (0 ≤ τ 23 9 ∧ τ 23 9 < V 0 0 ∧ leanK (V 1 (τ 23 9)) = l) ∧ (0 ≤ τ 23 10 ∧ τ 23 10 < V 0 0 ∧ leanK (V 1 (τ 23 10)) = l)
theorem okS.step {V τ τ' : Mem} {l k le gr le' gr' p ai : Int} {an : Bool} (ha : ai = if an = true then 1 else 0) (hc : an = true → okS V τ l) (hk : 0 ≤ k ∧ k < V 0 0 ∧ leanK (V 1 k) = l) (h1 : ((ai ≠ 0 ∧ le ≤ p) ∧ le' = le ∧ τ' 23 9 = τ 23 9) ∨ ((ai = 0 ∨ p < le) ∧ le' = p ∧ τ' 23 9 = k)) (h2 : ((ai ≠ 0 ∧ p ≤ gr) ∧ gr' = gr ∧ τ' 23 10 = τ 23 10) ∨ ((ai = 0 ∨ gr < p) ∧ gr' = p ∧ τ' 23 10 = k)) : le' = (if an = false ∨ p < le then p else le) ∧ gr' = (if an = false ∨ gr < p then p else gr) ∧ okS V τ' l := by
  cases an with
  | false =>
    rw [if_neg (by decide)] at ha
    rcases h1 with ⟨⟨z0, -⟩, -⟩ | ⟨-, z2, z3⟩
    · exact absurd ha z0
    · rcases h2 with ⟨⟨y0, -⟩, -⟩ | ⟨-, y2, y3⟩
      · exact absurd ha y0
      · rw [if_pos (Or.inl rfl), if_pos (Or.inl rfl)]
        refine ⟨z2, y2, ?_⟩
        unfold okS
        rw [z3, y3]
        exact ⟨hk, hk⟩
  | true =>
    rw [if_pos rfl] at ha
    have q3 := hc rfl
    simp only [Bool.true_eq_false, false_or]
    refine ⟨?_, ?_, ?_, ?_⟩
    · rcases h1 with ⟨z1, z2, -⟩ | ⟨z1, z2, -⟩
      · rw [if_neg (by omega)]; exact z2
      · rw [if_pos (by omega)]; exact z2
    · rcases h2 with ⟨z1, z2, -⟩ | ⟨z1, z2, -⟩
      · rw [if_neg (by omega)]; exact z2
      · rw [if_pos (by omega)]; exact z2
    · rcases h1 with ⟨-, -, z3⟩ | ⟨-, -, z3⟩
      · rw [z3]; exact q3.1
      · rw [z3]; exact hk
    · rcases h2 with ⟨-, -, z3⟩ | ⟨-, -, z3⟩
      · rw [z3]; exact q3.2
      · rw [z3]; exact hk
theorem okS.kept {V σ τ : Mem} {l : Int} (h : okS V σ l) (e : sx σ τ) : okS V τ l := by
  unfold okS
  rw [e.1, e.2]
  exact h

theorem x_spreadOf_lp {b b2 : Int} {V σ : Mem} {s n : Int} (hi : Inv b V) (hW : Inv b2 (mkV V s n)) (h : RX V σ) (hg : GA V σ s n) (hr : GR V σ) (s0 : 0 ≤ s) (s1 : s < V 0 0) (hn : -100 ≤ n ∧ n ≤ 100) (l : Int) (hl : l = 1 ∨ l = -1) : ∀ (fu : Nat) (k le gr ai : Int) (an : Bool) (x6 : Option AV) (τ : Mem), 0 ≤ k → k ≤ V 0 0 → V 0 0 - k < fu → sp σ τ → spS (mkV V s n) l k.toNat = (an, le, gr) → (ai = if an = true then 1 else 0) → (an = true → okS V τ l) → Go 41 mX0_spreadOf 10 [some (aR 23), some (aI l), some (aI le), some (aI gr), some (aI ai), some (aI k), x6] [] τ (fun o τ => o = some (aI (sprV (mkV V s n) l)) ∧ (sp σ τ ∧ (0 < sprV (mkV V s n) l → okS V τ l))) := by
  intro fu
  induction fu with
  | zero => intros; omega
  | succ fu ih =>
    intro k le gr ai an x6 τ k0 k1 kn hsp hs ha hc
    have hN := hi.N2
    have eN := mk_N V s n
    have e14 := mk_14 V s n
    have hbb := hW.b
    have hT := h.kept hsp
    have hgT := hg.kept hsp
    have hrT := hr.kept hsp
    have hl32 : i32 l := by omega
    clear hl
    have hbd := spS_b hW l k.toNat (by omega)
    rw [hs] at hbd
    have hsu := spS_succ (V := mkV V s n) (l := l) k0
    rw [hs, mk_1] at hsu
    dsimp only at hsu hbd
    have hc32 : i32 le ∧ i32 gr := by omega
    have hai : i32 ai := by rw [ha]; split <;> decide
    refine g_iload dX0_spreadOf_10 rfl ?_
    refine g_aload_n dX0_spreadOf_12 rfl ?_
    refine g_getR dX0_spreadOf_13 fX0_9 rfl rfl (by decide) ?_
    refine g_getI (ji := 6) rfl dX0_spreadOf_16 fX0_34 rfl rfl (by decide) ?_
    rw [hT.N]
    refine g_icmp_ge (tgt := 92) dX0_spreadOf_19 (by decide) (by first | exact hc32.1 | exact hc32.2 | exact hai | exact j5 | omega) (by first | exact hc32.1 | exact hc32.2 | exact hai | exact j5 | omega) (fun h19 => ?_) (fun h19 => ?_)
    · refine g_iload_n dX0_spreadOf_92 rfl ?_
      refine g_iload_n dX0_spreadOf_93 rfl ?_
      refine g_isub dX0_spreadOf_94 ?_
      exact g_iret dX0_spreadOf_95 trivial (by
          have hv : sprV (mkV V s n) l = gr - le := by unfold sprV; rw [eN, show V 0 0 = k by omega, hs]
          rw [hv]
          refine ⟨rfl, hsp, fun hz => ?_⟩
          cases han : an with
          | true => exact hc han
          | false =>
            have q2 := spS_none k.toNat (V := mkV V s n) (l := l) (by rw [hs]; exact han)
            rw [hs] at q2
            simp at q2
            omega)
    · have hkN : k < V 0 0 := h19
      have hpl := hW.pull k k0 (by omega)
      have hle : i32 (leanK (V 1 k)) := leanK_32 _
      have e1 : 0 ≤ k + 1 := by omega
      have e2 : k + 1 ≤ V 0 0 := by omega
      have e3 : V 0 0 - (k + 1) < fu := by omega
      have j5 : i32 (mkV V s n 2 k) := by omega
      refine g_aload_n dX0_spreadOf_22 rfl ?_
      refine g_getR dX0_spreadOf_23 fX0_9 rfl rfl (by decide) ?_
      refine g_iload dX0_spreadOf_26 rfl ?_
      refine g_pV1 dX0_spreadOf_28 qX0_56 rfl (by decide) (by decide) (Nat.le_of_ble_eq_true rfl) (x_leanOf hi.i0 hT.r0 k k0 hkN) ?_
      refine g_iload_n dX0_spreadOf_31 rfl ?_
      refine g_icmp_ne (tgt := 86) dX0_spreadOf_32 (by decide) hle hl32 (fun h32 => g_iinc dX0_spreadOf_86 rfl (by decide) (g_goto (tgt := 10) dX0_spreadOf_89 (by decide) (ih (k + 1) le gr ai an x6 τ e1 e2 e3 hsp (by rw [hsu, if_neg h32]) ha hc))) (fun h32 => ?_)
      refine g_aload_n dX0_spreadOf_35 rfl ?_
      refine g_iload dX0_spreadOf_36 rfl ?_
      refine g_pV1 dX0_spreadOf_38 qX0_84 rfl (by decide) (by decide) (Nat.le_of_ble_eq_true rfl) (x_pullOf hi hW hT hgT hrT s0 s1 hn k k0 hkN) ?_
      refine g_istore dX0_spreadOf_41 (by decide) ?_
      refine g_iload dX0_spreadOf_43 rfl ?_
      refine g_if_eq (tgt := 54) dX0_spreadOf_45 (by decide) (by first | exact hc32.1 | exact hc32.2 | exact hai | exact j5 | omega) (fun h45 => ?_) (fun h45 => ?_)
      · refine g_iload dX0_spreadOf_54 rfl ?_
        refine g_istore_n (i := 2) dX0_spreadOf_56 rfl (by decide) ?_
        refine g_aload_n dX0_spreadOf_57 rfl ?_
        refine g_iload dX0_spreadOf_58 rfl ?_
        refine g_putI (ji := 9) rfl dX0_spreadOf_60 vX0_100 rfl rfl (by decide) (by decide) ?_
        refine g_iload dX0_spreadOf_63 rfl ?_
        refine g_if_eq (tgt := 74) dX0_spreadOf_65 (by decide) (by first | exact hc32.1 | exact hc32.2 | exact hai | exact j5 | omega) (fun h65 => ?_) (fun h65 => ?_)
        · refine g_iload dX0_spreadOf_74 rfl ?_
          refine g_istore_n (i := 3) dX0_spreadOf_76 rfl (by decide) ?_
          refine g_aload_n dX0_spreadOf_77 rfl ?_
          refine g_iload dX0_spreadOf_78 rfl ?_
          refine g_putI (ji := 10) rfl dX0_spreadOf_80 vX0_103 rfl rfl (by decide) (by decide) ?_
          refine g_iconst dX0_spreadOf_83 ?_
          refine g_istore dX0_spreadOf_84 (by decide) ?_
          refine g_iinc dX0_spreadOf_86 rfl (by decide) ?_
          refine g_goto (tgt := 10) dX0_spreadOf_89 (by decide) ?_
          obtain ⟨z1, z2, z3⟩ := okS.step (τ' := up (up τ 23 9 k) 23 10 k) (le := le) (gr := gr) (p := mkV V s n 2 k) ha hc ⟨k0, hkN, h32⟩ (Or.inr ⟨Or.inl h45, rfl, rfl⟩) (Or.inr ⟨Or.inl h45, rfl, up_same⟩)
          exact ih (k + 1) _ _ 1 true _ _ e1 e2 e3 ((hsp.put (Or.inl rfl)).put (Or.inr rfl)) (by rw [hsu, if_pos h32, ← z1, ← z2]) rfl (fun _ => z3)
        · refine g_iload dX0_spreadOf_68 rfl ?_
          refine g_iload_n dX0_spreadOf_70 rfl ?_
          refine g_icmp_le (tgt := 83) dX0_spreadOf_71 (by decide) (by first | exact hc32.1 | exact hc32.2 | exact hai | exact j5 | omega) (by first | exact hc32.1 | exact hc32.2 | exact hai | exact j5 | omega) (fun h71 => ?_) (fun h71 => ?_)
          · refine g_iconst dX0_spreadOf_83 ?_
            refine g_istore dX0_spreadOf_84 (by decide) ?_
            refine g_iinc dX0_spreadOf_86 rfl (by decide) ?_
            refine g_goto (tgt := 10) dX0_spreadOf_89 (by decide) ?_
            exact absurd h45 h65
          · refine g_iload dX0_spreadOf_74 rfl ?_
            refine g_istore_n (i := 3) dX0_spreadOf_76 rfl (by decide) ?_
            refine g_aload_n dX0_spreadOf_77 rfl ?_
            refine g_iload dX0_spreadOf_78 rfl ?_
            refine g_putI (ji := 10) rfl dX0_spreadOf_80 vX0_103 rfl rfl (by decide) (by decide) ?_
            refine g_iconst dX0_spreadOf_83 ?_
            refine g_istore dX0_spreadOf_84 (by decide) ?_
            refine g_iinc dX0_spreadOf_86 rfl (by decide) ?_
            refine g_goto (tgt := 10) dX0_spreadOf_89 (by decide) ?_
            exact absurd h45 h65
      · refine g_iload dX0_spreadOf_48 rfl ?_
        refine g_iload_n dX0_spreadOf_50 rfl ?_
        refine g_icmp_ge (tgt := 63) dX0_spreadOf_51 (by decide) (by first | exact hc32.1 | exact hc32.2 | exact hai | exact j5 | omega) (by first | exact hc32.1 | exact hc32.2 | exact hai | exact j5 | omega) (fun h51 => ?_) (fun h51 => ?_)
        · refine g_iload dX0_spreadOf_63 rfl ?_
          refine g_if_eq (tgt := 74) dX0_spreadOf_65 (by decide) (by first | exact hc32.1 | exact hc32.2 | exact hai | exact j5 | omega) (fun h65 => ?_) (fun h65 => ?_)
          · refine g_iload dX0_spreadOf_74 rfl ?_
            refine g_istore_n (i := 3) dX0_spreadOf_76 rfl (by decide) ?_
            refine g_aload_n dX0_spreadOf_77 rfl ?_
            refine g_iload dX0_spreadOf_78 rfl ?_
            refine g_putI (ji := 10) rfl dX0_spreadOf_80 vX0_103 rfl rfl (by decide) (by decide) ?_
            refine g_iconst dX0_spreadOf_83 ?_
            refine g_istore dX0_spreadOf_84 (by decide) ?_
            refine g_iinc dX0_spreadOf_86 rfl (by decide) ?_
            refine g_goto (tgt := 10) dX0_spreadOf_89 (by decide) ?_
            exact absurd h65 h45
          · refine g_iload dX0_spreadOf_68 rfl ?_
            refine g_iload_n dX0_spreadOf_70 rfl ?_
            refine g_icmp_le (tgt := 83) dX0_spreadOf_71 (by decide) (by first | exact hc32.1 | exact hc32.2 | exact hai | exact j5 | omega) (by first | exact hc32.1 | exact hc32.2 | exact hai | exact j5 | omega) (fun h71 => ?_) (fun h71 => ?_)
            · refine g_iconst dX0_spreadOf_83 ?_
              refine g_istore dX0_spreadOf_84 (by decide) ?_
              refine g_iinc dX0_spreadOf_86 rfl (by decide) ?_
              refine g_goto (tgt := 10) dX0_spreadOf_89 (by decide) ?_
              obtain ⟨z1, z2, z3⟩ := okS.step (τ' := τ) (le := le) (gr := gr) (p := mkV V s n 2 k) ha hc ⟨k0, hkN, h32⟩ (Or.inl ⟨⟨h45, h51⟩, rfl, rfl⟩) (Or.inl ⟨⟨h45, h71⟩, rfl, rfl⟩)
              exact ih (k + 1) _ _ 1 true _ _ e1 e2 e3 hsp (by rw [hsu, if_pos h32, ← z1, ← z2]) rfl (fun _ => z3)
            · refine g_iload dX0_spreadOf_74 rfl ?_
              refine g_istore_n (i := 3) dX0_spreadOf_76 rfl (by decide) ?_
              refine g_aload_n dX0_spreadOf_77 rfl ?_
              refine g_iload dX0_spreadOf_78 rfl ?_
              refine g_putI (ji := 10) rfl dX0_spreadOf_80 vX0_103 rfl rfl (by decide) (by decide) ?_
              refine g_iconst dX0_spreadOf_83 ?_
              refine g_istore dX0_spreadOf_84 (by decide) ?_
              refine g_iinc dX0_spreadOf_86 rfl (by decide) ?_
              refine g_goto (tgt := 10) dX0_spreadOf_89 (by decide) ?_
              obtain ⟨z1, z2, z3⟩ := okS.step (τ' := up τ 23 10 k) (le := le) (gr := gr) (p := mkV V s n 2 k) ha hc ⟨k0, hkN, h32⟩ (Or.inl ⟨⟨h45, h51⟩, rfl, rfl⟩) (Or.inr ⟨Or.inr (by omega), rfl, up_same⟩)
              exact ih (k + 1) _ _ 1 true _ _ e1 e2 e3 (hsp.put (Or.inr rfl)) (by rw [hsu, if_pos h32, ← z1, ← z2]) rfl (fun _ => z3)
        · refine g_iload dX0_spreadOf_54 rfl ?_
          refine g_istore_n (i := 2) dX0_spreadOf_56 rfl (by decide) ?_
          refine g_aload_n dX0_spreadOf_57 rfl ?_
          refine g_iload dX0_spreadOf_58 rfl ?_
          refine g_putI (ji := 9) rfl dX0_spreadOf_60 vX0_100 rfl rfl (by decide) (by decide) ?_
          refine g_iload dX0_spreadOf_63 rfl ?_
          refine g_if_eq (tgt := 74) dX0_spreadOf_65 (by decide) (by first | exact hc32.1 | exact hc32.2 | exact hai | exact j5 | omega) (fun h65 => ?_) (fun h65 => ?_)
          · refine g_iload dX0_spreadOf_74 rfl ?_
            refine g_istore_n (i := 3) dX0_spreadOf_76 rfl (by decide) ?_
            refine g_aload_n dX0_spreadOf_77 rfl ?_
            refine g_iload dX0_spreadOf_78 rfl ?_
            refine g_putI (ji := 10) rfl dX0_spreadOf_80 vX0_103 rfl rfl (by decide) (by decide) ?_
            refine g_iconst dX0_spreadOf_83 ?_
            refine g_istore dX0_spreadOf_84 (by decide) ?_
            refine g_iinc dX0_spreadOf_86 rfl (by decide) ?_
            refine g_goto (tgt := 10) dX0_spreadOf_89 (by decide) ?_
            exact absurd h65 h45
          · refine g_iload dX0_spreadOf_68 rfl ?_
            refine g_iload_n dX0_spreadOf_70 rfl ?_
            refine g_icmp_le (tgt := 83) dX0_spreadOf_71 (by decide) (by first | exact hc32.1 | exact hc32.2 | exact hai | exact j5 | omega) (by first | exact hc32.1 | exact hc32.2 | exact hai | exact j5 | omega) (fun h71 => ?_) (fun h71 => ?_)
            · refine g_iconst dX0_spreadOf_83 ?_
              refine g_istore dX0_spreadOf_84 (by decide) ?_
              refine g_iinc dX0_spreadOf_86 rfl (by decide) ?_
              refine g_goto (tgt := 10) dX0_spreadOf_89 (by decide) ?_
              obtain ⟨z1, z2, z3⟩ := okS.step (τ' := up τ 23 9 k) (le := le) (gr := gr) (p := mkV V s n 2 k) ha hc ⟨k0, hkN, h32⟩ (Or.inr ⟨Or.inr (by omega), rfl, up_same⟩) (Or.inl ⟨⟨h45, h71⟩, rfl, rfl⟩)
              exact ih (k + 1) _ _ 1 true _ _ e1 e2 e3 (hsp.put (Or.inl rfl)) (by rw [hsu, if_pos h32, ← z1, ← z2]) rfl (fun _ => z3)
            · refine g_iload dX0_spreadOf_74 rfl ?_
              refine g_istore_n (i := 3) dX0_spreadOf_76 rfl (by decide) ?_
              refine g_aload_n dX0_spreadOf_77 rfl ?_
              refine g_iload dX0_spreadOf_78 rfl ?_
              refine g_putI (ji := 10) rfl dX0_spreadOf_80 vX0_103 rfl rfl (by decide) (by decide) ?_
              refine g_iconst dX0_spreadOf_83 ?_
              refine g_istore dX0_spreadOf_84 (by decide) ?_
              refine g_iinc dX0_spreadOf_86 rfl (by decide) ?_
              refine g_goto (tgt := 10) dX0_spreadOf_89 (by decide) ?_
              obtain ⟨z1, z2, z3⟩ := okS.step (τ' := up (up τ 23 9 k) 23 10 k) (le := le) (gr := gr) (p := mkV V s n 2 k) ha hc ⟨k0, hkN, h32⟩ (Or.inr ⟨Or.inr (by omega), rfl, rfl⟩) (Or.inr ⟨Or.inr (by omega), rfl, up_same⟩)
              exact ih (k + 1) _ _ 1 true _ _ e1 e2 e3 ((hsp.put (Or.inl rfl)).put (Or.inr rfl)) (by rw [hsu, if_pos h32, ← z1, ← z2]) rfl (fun _ => z3)

theorem x_spreadOf {b b2 : Int} {V σ : Mem} {s n : Int} (hi : Inv b V) (hW : Inv b2 (mkV V s n)) (h : RX V σ) (hg : GA V σ s n) (hr : GR V σ) (s0 : 0 ≤ s) (s1 : s < V 0 0) (hn : -100 ≤ n ∧ n ≤ 100) (l : Int) (hl : l = 1 ∨ l = -1) : Ret 41 mX0_spreadOf [aR 23, aI l] σ (fun o τ => o = some (aI (sprV (mkV V s n) l)) ∧ (sp σ τ ∧ (0 < sprV (mkV V s n) l → okS V τ l))) := by
  refine Ret.of [some (aR 23), some (aI l), none, none, none, none, none] rfl (plainFor_of_name (by decide)) (Nat.le_of_ble_eq_true rfl) ?_
  have hN := hi.N2
  refine g_iconst dX0_spreadOf_0 ?_
  refine g_istore_n (i := 2) dX0_spreadOf_1 rfl (by decide) ?_
  refine g_iconst dX0_spreadOf_2 ?_
  refine g_istore_n (i := 3) dX0_spreadOf_3 rfl (by decide) ?_
  refine g_iconst dX0_spreadOf_4 ?_
  refine g_istore dX0_spreadOf_5 (by decide) ?_
  refine g_iconst dX0_spreadOf_7 ?_
  refine g_istore dX0_spreadOf_8 (by decide) ?_
  exact x_spreadOf_lp hi hW h hg hr s0 s1 hn l hl 33 0 0 0 0 false _ _ (by omega) (by omega) (by omega) sp.rfl rfl rfl (fun q => absurd q (by decide))

theorem x_gshare {b b2 : Int} {V σ : Mem} {s n : Int} (hi : Inv b V) (hW : Inv b2 (mkV V s n)) (h : RX V σ) (hg : GA V σ s n) (hr : GR V σ) (s0 : 0 ≤ s) (s1 : s < V 0 0) (hn : -100 ≤ n ∧ n ≤ 100) (v : Int) (i : Int) (i0 : 0 ≤ i) (i1 : i < 5) (hv : 0 ≤ v ∧ v ≤ 2000000000) : RetV 41 mX0_share [aR 23, aI v, aI i] σ (aL (shr v (V 14 i))) := by
  refine Ret.of [some (aR 23), some (aI v), some (aI i)] rfl (plainFor_of_name (by decide)) (Nat.le_of_ble_eq_true rfl) ?_
  have hl := hi.lim i i0 i1
  refine g_ldc2 dX0_share_0 lX0_133 ?_
  refine g_iload_n dX0_share_3 rfl ?_
  refine g_i2l dX0_share_4 (by omega) ?_
  refine g_lmul dX0_share_5 ?_
  refine g_aload_n dX0_share_6 rfl ?_
  refine g_getR dX0_share_7 fX0_19 rfl rfl (by decide) ?_
  refine g_iload_n dX0_share_10 rfl ?_
  refine g_iaload dX0_share_11 rfl (by decide) (by omega) (by omega) (by decide) ?_
  rw [h.lim _ (by omega) (by omega)]
  refine g_i2l dX0_share_12 (by omega) ?_
  refine g_pS2 dX0_share_13 sX0_94 (by decide) (Nat.le_of_ble_eq_true rfl) (c_fdL (by omega) (by omega) (by omega)) ?_
  exact g_lret dX0_share_16 trivial ⟨by unfold shr ab; rw [if_neg (by omega)], rfl⟩

theorem x_gsize_lp0 {b b2 : Int} {V σ : Mem} {s n : Int} (hi : Inv b V) (hW : Inv b2 (mkV V s n)) (h : RX V σ) (hg : GA V σ s n) (hr : GR V σ) (s0 : 0 ≤ s) (s1 : s < V 0 0) (hn : -100 ≤ n ∧ n ≤ 100) : ∀ (fu : Nat) (k a : Int), 0 ≤ k → k ≤ V 0 0 → V 0 0 - k < fu → a = mxN (fun p => ab (rdg (mkV V s n) 0 p)) k.toNat → Go 41 mX0_greatestSize 4 [some (aR 23), some (aI 0), some (aI a), some (aI k)] [] σ (fun o τ => o = some (aI (mxN (fun p => ab (rdg (mkV V s n) 0 p)) (V 0 0).toNat)) ∧ τ = σ) := by
  intro fu
  induction fu with
  | zero => intros; omega
  | succ fu ih =>
    intro k a k0 k1 kn ha
    have hN := hi.N2
    have eN := mk_N V s n
    have e14 := mk_14 V s n
    have hbb := hW.b
    have hab : 0 ≤ a ∧ a ≤ 600000000 := by rw [ha]; exact mxN_b (by decide) k.toNat (fun j j0 j1 => by have := rdg_b hW 0 (by decide) j (by omega) (by omega); have := ab_b this.1 this.2; omega)
    refine g_iload_n dX0_greatestSize_4 rfl ?_
    refine g_aload_n dX0_greatestSize_5 rfl ?_
    refine g_getR dX0_greatestSize_6 fX0_9 rfl rfl (by decide) ?_
    refine g_getI (ji := 6) rfl dX0_greatestSize_9 fX0_34 rfl rfl (by decide) ?_
    rw [h.N]
    refine g_icmp_ge (tgt := 35) dX0_greatestSize_12 (by decide) (by omega) (by omega) (fun h12 => ?_) (fun h12 => ?_)
    · refine g_iload_n dX0_greatestSize_35 rfl ?_
      exact g_iret dX0_greatestSize_36 trivial ⟨by rw [ha, show V 0 0 = k by omega], rfl⟩
    · have hkN : k < V 0 0 := h12
      have rb := rdg_b hW 0 (by decide) k k0 (by omega)
      have abk : ab (rdg (mkV V s n) 0 k) = if rdg (mkV V s n) 0 k < 0 then -rdg (mkV V s n) 0 k else rdg (mkV V s n) 0 k := rfl
      have hmx := mxN_succ (f := fun p => ab (rdg (mkV V s n) 0 p)) k0
      rw [← ha] at hmx
      refine g_iload_n dX0_greatestSize_15 rfl ?_
      refine g_aload_n dX0_greatestSize_16 rfl ?_
      refine g_iload_n dX0_greatestSize_17 rfl ?_
      refine g_iload_n dX0_greatestSize_18 rfl ?_
      refine g_pV2 dX0_greatestSize_19 qX0_75 rfl (by decide) (by decide) (Nat.le_of_ble_eq_true rfl) (x_readingAt0 hi hW h hg hr s0 s1 hn k k0 hkN) ?_
      refine g_pS1 dX0_greatestSize_22 sX0_120 (by decide) (Nat.le_of_ble_eq_true rfl) (c_absI (by omega)) ?_
      refine g_pS2 dX0_greatestSize_25 sX0_126 (by decide) (Nat.le_of_ble_eq_true rfl) (c_maxI (by omega) (by omega)) ?_
      refine g_istore_n (i := 2) dX0_greatestSize_28 rfl (by decide) ?_
      refine g_iinc dX0_greatestSize_29 rfl (by decide) ?_
      refine g_goto (tgt := 4) dX0_greatestSize_32 (by decide) ?_
      exact ih (k + 1) _ (by omega) (by omega) (by omega) (by rw [hmx]; omega)

theorem x_gsize0 {b b2 : Int} {V σ : Mem} {s n : Int} (hi : Inv b V) (hW : Inv b2 (mkV V s n)) (h : RX V σ) (hg : GA V σ s n) (hr : GR V σ) (s0 : 0 ≤ s) (s1 : s < V 0 0) (hn : -100 ≤ n ∧ n ≤ 100) : RetV 41 mX0_greatestSize [aR 23, aI 0] σ (aI (mxN (fun p => ab (rdg (mkV V s n) 0 p)) (V 0 0).toNat)) := by
  have hN := hi.N2
  refine Ret.of [some (aR 23), some (aI 0), none, none] rfl (plainFor_of_name (by decide)) (Nat.le_of_ble_eq_true rfl) ?_
  refine g_iconst dX0_greatestSize_0 ?_
  refine g_istore_n (i := 2) dX0_greatestSize_1 rfl (by decide) ?_
  refine g_iconst dX0_greatestSize_2 ?_
  refine g_istore_n (i := 3) dX0_greatestSize_3 rfl (by decide) ?_
  exact x_gsize_lp0 hi hW h hg hr s0 s1 hn 33 0 0 (by omega) (by omega) (by omega) rfl

theorem x_gsize_lp1 {b b2 : Int} {V σ : Mem} {s n : Int} (hi : Inv b V) (hW : Inv b2 (mkV V s n)) (h : RX V σ) (hg : GA V σ s n) (hr : GR V σ) (s0 : 0 ≤ s) (s1 : s < V 0 0) (hn : -100 ≤ n ∧ n ≤ 100) : ∀ (fu : Nat) (k a : Int), 0 ≤ k → k ≤ V 0 0 → V 0 0 - k < fu → a = mxN (fun p => ab (rdg (mkV V s n) 1 p)) k.toNat → Go 41 mX0_greatestSize 4 [some (aR 23), some (aI 1), some (aI a), some (aI k)] [] σ (fun o τ => o = some (aI (mxN (fun p => ab (rdg (mkV V s n) 1 p)) (V 0 0).toNat)) ∧ τ = σ) := by
  intro fu
  induction fu with
  | zero => intros; omega
  | succ fu ih =>
    intro k a k0 k1 kn ha
    have hN := hi.N2
    have eN := mk_N V s n
    have e14 := mk_14 V s n
    have hbb := hW.b
    have hab : 0 ≤ a ∧ a ≤ 600000000 := by rw [ha]; exact mxN_b (by decide) k.toNat (fun j j0 j1 => by have := rdg_b hW 1 (by decide) j (by omega) (by omega); have := ab_b this.1 this.2; omega)
    refine g_iload_n dX0_greatestSize_4 rfl ?_
    refine g_aload_n dX0_greatestSize_5 rfl ?_
    refine g_getR dX0_greatestSize_6 fX0_9 rfl rfl (by decide) ?_
    refine g_getI (ji := 6) rfl dX0_greatestSize_9 fX0_34 rfl rfl (by decide) ?_
    rw [h.N]
    refine g_icmp_ge (tgt := 35) dX0_greatestSize_12 (by decide) (by omega) (by omega) (fun h12 => ?_) (fun h12 => ?_)
    · refine g_iload_n dX0_greatestSize_35 rfl ?_
      exact g_iret dX0_greatestSize_36 trivial ⟨by rw [ha, show V 0 0 = k by omega], rfl⟩
    · have hkN : k < V 0 0 := h12
      have rb := rdg_b hW 1 (by decide) k k0 (by omega)
      have abk : ab (rdg (mkV V s n) 1 k) = if rdg (mkV V s n) 1 k < 0 then -rdg (mkV V s n) 1 k else rdg (mkV V s n) 1 k := rfl
      have hmx := mxN_succ (f := fun p => ab (rdg (mkV V s n) 1 p)) k0
      rw [← ha] at hmx
      refine g_iload_n dX0_greatestSize_15 rfl ?_
      refine g_aload_n dX0_greatestSize_16 rfl ?_
      refine g_iload_n dX0_greatestSize_17 rfl ?_
      refine g_iload_n dX0_greatestSize_18 rfl ?_
      refine g_pV2 dX0_greatestSize_19 qX0_75 rfl (by decide) (by decide) (Nat.le_of_ble_eq_true rfl) (x_readingAt1 hi hW h hg hr s0 s1 hn k k0 hkN) ?_
      refine g_pS1 dX0_greatestSize_22 sX0_120 (by decide) (Nat.le_of_ble_eq_true rfl) (c_absI (by omega)) ?_
      refine g_pS2 dX0_greatestSize_25 sX0_126 (by decide) (Nat.le_of_ble_eq_true rfl) (c_maxI (by omega) (by omega)) ?_
      refine g_istore_n (i := 2) dX0_greatestSize_28 rfl (by decide) ?_
      refine g_iinc dX0_greatestSize_29 rfl (by decide) ?_
      refine g_goto (tgt := 4) dX0_greatestSize_32 (by decide) ?_
      exact ih (k + 1) _ (by omega) (by omega) (by omega) (by rw [hmx]; omega)

theorem x_gsize1 {b b2 : Int} {V σ : Mem} {s n : Int} (hi : Inv b V) (hW : Inv b2 (mkV V s n)) (h : RX V σ) (hg : GA V σ s n) (hr : GR V σ) (s0 : 0 ≤ s) (s1 : s < V 0 0) (hn : -100 ≤ n ∧ n ≤ 100) : RetV 41 mX0_greatestSize [aR 23, aI 1] σ (aI (mxN (fun p => ab (rdg (mkV V s n) 1 p)) (V 0 0).toNat)) := by
  have hN := hi.N2
  refine Ret.of [some (aR 23), some (aI 1), none, none] rfl (plainFor_of_name (by decide)) (Nat.le_of_ble_eq_true rfl) ?_
  refine g_iconst dX0_greatestSize_0 ?_
  refine g_istore_n (i := 2) dX0_greatestSize_1 rfl (by decide) ?_
  refine g_iconst dX0_greatestSize_2 ?_
  refine g_istore_n (i := 3) dX0_greatestSize_3 rfl (by decide) ?_
  exact x_gsize_lp1 hi hW h hg hr s0 s1 hn 33 0 0 (by omega) (by omega) (by omega) rfl

theorem ediv_max {a c L : Int} (hL : 0 < L) : (1000 * max a c) / L = max (1000 * a / L) (1000 * c / L) := by
  rcases Int.le_total a c with h | h
  · have := ediv_mono hL (show 1000 * a ≤ 1000 * c by omega)
    rw [Int.max_eq_right h, Int.max_eq_right this]
  · have := ediv_mono hL (show 1000 * c ≤ 1000 * a by omega)
    rw [Int.max_eq_left h, Int.max_eq_left this]
theorem mx_shr {f : Int → Int} {L : Int} (hL : 0 < L) : ∀ n : Nat, 1000 * mxN (fun p => ab (f p)) n / L = mxN (fun p => shr (f p) L) n
  | 0 => by simp [mxN]
  | n + 1 => by
    unfold mxN
    rw [ediv_max hL, mx_shr hL n]
    rfl
theorem shr_ab {v L : Int} (h : 0 ≤ v) : shr v L = 1000 * v / L := by unfold shr ab; rw [if_neg (by omega)]
theorem ab_ab (x : Int) : ab (ab x) = ab x := by unfold ab; omega
theorem ab_nn (x : Int) : 0 ≤ ab x := by unfold ab; omega

theorem x_gworst {b b2 : Int} {V σ : Mem} {s n : Int} (hi : Inv b V) (hW : Inv b2 (mkV V s n)) (h : RX V σ) (hg : GA V σ s n) (hr : GR V σ) (s0 : 0 ≤ s) (s1 : s < V 0 0) (hn : -100 ≤ n ∧ n ≤ 100)   : Ret 41 mX0_worst [aR 23] σ (fun o τ => o = some (aI (wstV (mkV V s n))) ∧ sp σ τ) := by
  refine Ret.of [some (aR 23), none, none] rfl (plainFor_of_name (by decide)) (Nat.le_of_ble_eq_true rfl) ?_
  have hN := hi.N2
  have eN := mk_N V s n
  have e14 := mk_14 V s n
  have hbb := hW.b
  have hw := wst_b hW
  have m1 := midV_b hW
  have m2 := sprV_b hW 1
  have m3 := sprV_b hW (-1)
  have gs : ∀ r : Nat, r < 2 → 0 ≤ mxN (fun p => ab (rdg (mkV V s n) r p)) (V 0 0).toNat ∧ mxN (fun p => ab (rdg (mkV V s n) r p)) (V 0 0).toNat ≤ 600000000 := fun r hr2 => mxN_b (by decide) (V 0 0).toNat (fun j j0 j1 => by have := rdg_b hW r hr2 j (by omega) (by omega); have := ab_b this.1 this.2; omega)
  have g0 := gs 0 (by decide)
  have g1 := gs 1 (by decide)
  have l0 := hi.lim 0 (by decide) (by decide)
  have l1 := hi.lim 1 (by decide) (by decide)
  have l2 := hi.lim 2 (by decide) (by decide)
  have l3 := hi.lim 3 (by decide) (by decide)
  have a0 := shr_b (v := mxN (fun p => ab (rdg (mkV V s n) 0 p)) (V 0 0).toNat) (L := V 14 0) (B := 600000000) l0.1 (ab_b (by omega) (by omega)).2
  have a1 := shr_b (v := mxN (fun p => ab (rdg (mkV V s n) 1 p)) (V 0 0).toNat) (L := V 14 1) (B := 600000000) l1.1 (ab_b (by omega) (by omega)).2
  have a2 := shr_b (v := (if midV (mkV V s n) < 0 then -midV (mkV V s n) else midV (mkV V s n))) (L := V 14 2) (B := 600000000) l2.1 (ab_b (by omega) (by omega)).2
  have a3 := shr_b (v := (if sprV (mkV V s n) 1 < sprV (mkV V s n) (-1) then sprV (mkV V s n) (-1) else sprV (mkV V s n) 1)) (L := V 14 3) (B := 1200000000) l3.1 (ab_b (by omega) (by omega)).2
  have i0 : i32 (midV (mkV V s n)) := by omega
  have i1 : i32 (sprV (mkV V s n) 1) := by omega
  have i2 : i32 (sprV (mkV V s n) (-1)) := by omega
  have m1' : -600000000 ≤ midV (mkV V s n) ∧ midV (mkV V s n) ≤ 600000000 := by omega
  clear hw gs m1
  refine g_aload_n dX0_worst_0 rfl ?_
  refine g_aload_n dX0_worst_1 rfl ?_
  refine g_iconst dX0_worst_2 ?_
  refine g_pV1 dX0_worst_3 qX0_106 rfl (by decide) (by decide) (Nat.le_of_ble_eq_true rfl) (x_gsize0 hi hW h hg hr s0 s1 hn) ?_
  refine g_iconst dX0_worst_6 ?_
  refine g_pV2 dX0_worst_7 qX0_109 rfl (by decide) (by decide) (Nat.le_of_ble_eq_true rfl) (x_gshare hi hW h hg hr s0 s1 hn _ _ (by omega) (by omega) (by omega)) ?_
  refine g_aload_n dX0_worst_10 rfl ?_
  refine g_aload_n dX0_worst_11 rfl ?_
  refine g_iconst dX0_worst_12 ?_
  refine g_pV1 dX0_worst_13 qX0_106 rfl (by decide) (by decide) (Nat.le_of_ble_eq_true rfl) (x_gsize1 hi hW h hg hr s0 s1 hn) ?_
  refine g_iconst dX0_worst_16 ?_
  refine g_pV2 dX0_worst_17 qX0_109 rfl (by decide) (by decide) (Nat.le_of_ble_eq_true rfl) (x_gshare hi hW h hg hr s0 s1 hn _ _ (by omega) (by omega) (by omega)) ?_
  refine g_pS2 dX0_worst_20 sX0_113 (by decide) (Nat.le_of_ble_eq_true rfl) (c_maxL (by omega) (by omega)) ?_
  refine g_lstore_n (i := 1) dX0_worst_23 rfl (by decide) ?_
  refine g_lload_n dX0_worst_24 rfl ?_
  refine g_aload_n dX0_worst_25 rfl ?_
  refine g_aload_n dX0_worst_26 rfl ?_
  refine g_pV0 dX0_worst_27 qX0_116 rfl (by decide) (by decide) (Nat.le_of_ble_eq_true rfl) (x_middle hi hW h hg hr s0 s1 hn) ?_
  refine g_pS1 dX0_worst_30 sX0_120 (by decide) (Nat.le_of_ble_eq_true rfl) (c_absI i0) ?_
  refine g_iconst dX0_worst_33 ?_
  refine g_pV2 dX0_worst_34 qX0_109 rfl (by decide) (by decide) (Nat.le_of_ble_eq_true rfl) (x_gshare hi hW h hg hr s0 s1 hn _ _ (by omega) (by omega) (by omega)) ?_
  refine g_pS2 dX0_worst_37 sX0_113 (by decide) (Nat.le_of_ble_eq_true rfl) (c_maxL (by omega) (by omega)) ?_
  refine g_lstore_n (i := 1) dX0_worst_40 rfl (by decide) ?_
  refine g_lload_n dX0_worst_41 rfl ?_
  refine g_aload_n dX0_worst_42 rfl ?_
  refine g_aload_n dX0_worst_43 rfl ?_
  refine g_iconst dX0_worst_44 ?_
  refine g_eV1 dX0_worst_45 qX0_123 rfl (by decide) (by decide) (Nat.le_of_ble_eq_true rfl) (x_spreadOf hi hW h hg hr s0 s1 hn 1 (by omega)) ?_
  intro τ1 hq1
  obtain ⟨hs1, -⟩ := hq1
  have hX1 := h.kept hs1
  have hg1 := hg.kept hs1
  have hr1 := hr.kept hs1
  refine g_aload_n dX0_worst_48 rfl ?_
  refine g_iconst dX0_worst_49 ?_
  refine g_eV1 dX0_worst_50 qX0_123 rfl (by decide) (by decide) (Nat.le_of_ble_eq_true rfl) (x_spreadOf hi hW hX1 hg1 hr1 s0 s1 hn (-1) (by omega)) ?_
  intro τ2 hq2
  obtain ⟨hs2, -⟩ := hq2
  have hX2 := hX1.kept hs2
  have hg2 := hg1.kept hs2
  have hr2 := hr1.kept hs2
  refine g_pS2 dX0_worst_53 sX0_126 (by decide) (Nat.le_of_ble_eq_true rfl) (c_maxI i1 i2) ?_
  refine g_iconst dX0_worst_56 ?_
  refine g_pV2 dX0_worst_57 qX0_109 rfl (by decide) (by decide) (Nat.le_of_ble_eq_true rfl) (x_gshare hi hW hX2 hg2 hr2 s0 s1 hn _ _ (by omega) (by omega) (by omega)) ?_
  refine g_pS2 dX0_worst_60 sX0_113 (by decide) (Nat.le_of_ble_eq_true rfl) (c_maxL (by omega) (by omega)) ?_
  refine g_lstore_n (i := 1) dX0_worst_63 rfl (by decide) ?_
  refine g_lload_n dX0_worst_64 rfl ?_
  refine g_ldc2 dX0_worst_65 lX0_128 ?_
  refine g_pS2 dX0_worst_68 sX0_130 (by decide) (Nat.le_of_ble_eq_true rfl) (c_minL (by omega) (by omega)) ?_
  refine g_l2i dX0_worst_71 ?_
  exact g_iret dX0_worst_72 trivial ⟨by
      have q0 : shr (mxN (fun p => ab (rdg (mkV V s n) 0 p)) (V 0 0).toNat) (V 14 0) = mxN (fun p => shr (rdg (mkV V s n) 0 p) (V 14 0)) (V 0 0).toNat := by rw [shr_ab g0.1]; exact mx_shr (by omega) _
      have q1 : shr (mxN (fun p => ab (rdg (mkV V s n) 1 p)) (V 0 0).toNat) (V 14 1) = mxN (fun p => shr (rdg (mkV V s n) 1 p) (V 14 1)) (V 0 0).toNat := by rw [shr_ab g1.1]; exact mx_shr (by omega) _
      have q2 : shr (if midV (mkV V s n) < 0 then -midV (mkV V s n) else midV (mkV V s n)) (V 14 2) = shr (midV (mkV V s n)) (V 14 2) := by
        show shr (ab (midV (mkV V s n))) _ = _
        unfold shr
        rw [ab_ab]
      have q3 : shr (if sprV (mkV V s n) 1 < sprV (mkV V s n) (-1) then sprV (mkV V s n) (-1) else sprV (mkV V s n) 1) (V 14 3) = max (shr (sprV (mkV V s n) 1) (V 14 3)) (shr (sprV (mkV V s n) (-1)) (V 14 3)) := by
        rw [shr_ab m2.1, shr_ab m3.1, ← ediv_max (by omega)]
        rw [shr_ab (by split <;> omega)]
        congr 2
        omega
      unfold wstV
      rw [eN, e14]
      rw [q0, q1, q2, q3] at *
      generalize mxN (fun p => shr (rdg (mkV V s n) 0 p) (V 14 0)) (V 0 0).toNat = z0 at *
      generalize mxN (fun p => shr (rdg (mkV V s n) 1 p) (V 14 1)) (V 0 0).toNat = z1 at *
      generalize shr (midV (mkV V s n)) (V 14 2) = z2 at *
      generalize shr (sprV (mkV V s n) 1) (V 14 3) = z3 at *
      generalize shr (sprV (mkV V s n) (-1)) (V 14 3) = z4 at *
      congr 2
      omega, hs1.trans hs2⟩
