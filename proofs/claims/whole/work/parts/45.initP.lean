/-- what a new reference is -/
def isM (ad0 adX : Nat → Nat) (σ0 : Mem) (h0 : Nat) (u : (Nat → Nat) × Mem) : Prop := u.1 0 = adX 0 ∧ u.1 30 = h0 ∧ (∀ k, 42 ≤ k → u.1 k = ad0 k ∧ u.2 k = σ0 k) ∧ RX V0 u.2 ∧ RM V0 u.2
theorem n_X7 (l : Launch) (D : va_G) (cs : ClassId × ClassId × ClassId) (ad0 adX : Nat → Nat) (σ0 τX : Mem) (hX : RX V0 τX) (hX2 : ∀ k, (30 ≤ k ∧ k ≠ 41) → τX k = σ0 k) (h0 sz : Nat) : Met l (mN mX7_init) (wsM mX7_init) (rmC mX7_init 10 681) (va_Pc [.ref h0] (PR D cs ad0 σ0 sz (wd adX cs τX 30 ++ [(h0, .inr (7, [.int 0, .null, .null, .null, .null, .null, .null, .null, .null, .int 0, .int 0, .int 0, .int 0, .int 0, .null, .int 0, .null, .int 0, .int 0, .int 0, .int 0, .int 0]))]) (wd adX cs τX 30 ++ [(h0, .inr (7, [.int 0, .null, .null, .null, .null, .null, .null, .null, .null, .int 0, .int 0, .int 0, .int 0, .int 0, .null, .int 0, .null, .int 0, .int 0, .int 0, .int 0, .int 0]))]))) (va_Qv (isM ad0 adX σ0 h0) (fun u t => QW D cs (va_A (wd adX cs τX 30 ++ [(h0, .inr (7, [.int 0, .null, .null, .null, .null, .null, .null, .null, .null, .int 0, .int 0, .int 0, .int 0, .int 0, .null, .int 0, .null, .int 0, .int 0, .int 0, .int 0, .int 0]))]) sz) (wd u.1 cs u.2 41) t) (va_A (wd adX cs τX 30 ++ [(h0, .inr (7, [.int 0, .null, .null, .null, .null, .null, .null, .null, .null, .int 0, .int 0, .int 0, .int 0, .int 0, .null, .int 0, .null, .int 0, .int 0, .int 0, .int 0, .int 0]))]) sz)) 10 681 (va_A (wd adX cs τX 30 ++ [(h0, .inr (7, [.int 0, .null, .null, .null, .null, .null, .null, .null, .null, .int 0, .int 0, .int 0, .int 0, .int 0, .null, .int 0, .null, .int 0, .int 0, .int 0, .int 0, .int 0]))]) sz) := by
  refine Met.ofWF (cc := cX7_init) (maxL := 2) (ret := none) (ws' := TW) (plainFor_of_name (by decide)) rfl ?_
  intro p e s m args below meth c s₁ B hml hv
  obtain ⟨rfl, ⟨hsz, hP, hK, hD0, hN⟩, hro, hst⟩ := hv
  have hx := B.exec
  have hb := B.bytes
  have hr := B.returns
  have hts0 := atoms_spec (ws := wsM mX7_init) B.pre
  have hts : ∀ w ∈ TW, w.before ([.ref h0] : List Value).toArray s = true := fun w hw => hts0 w (List.mem_cons_of_mem _ hw)
  have hown : s.vm.findClass RX7 = some m.cls := findClass_of_methodNamed B.named
  have hlocks := B.notSynchronized
  have hin : meth.name = "<init>" := (name_of_methodNamed B.named B.method).1
  subst hsz
  have hD := hD0.self (sz := s.heap.size)
  generalize hAe : va_A (wd adX cs τX 30 ++ [(h0, .inr (7, [.int 0, .null, .null, .null, .null, .null, .null, .null, .null, .int 0, .int 0, .int 0, .int 0, .int 0, .null, .int 0, .null, .int 0, .int 0, .int 0, .int 0, .int 0]))]) s.heap.size = A at hD hro hst ⊢
  have hA : ∀ q : Nat, s.heap.size ≤ q → A q := fun q h => by rw [← hAe]; exact Or.inr h
  have hS : va_S A s.heap s.heap [] := va_S.rf
  have hl := lv_entry ([.ref h0]) (n := 2) (Nat.le_of_ble_eq_true rfl)
  rw [lg_entry_eq]
  generalize (lg_sl ([.ref h0]) ++ List.replicate (2 - (lg_sl ([.ref h0])).length) Slot.unset).toArray = ls at hl ⊢
  have hl : lv_has ls 2 [(0, .ref h0)] := hl
  refine x7_walk hx hb hml hts hown hin hK hA hl (adX 0, en adX cs (τX 0) (sh 0)) (adX 1, en adX cs (τX 1) (sh 1)) (adX 2, en adX cs (τX 2) (sh 2)) (adX 3, en adX cs (τX 3) (sh 3)) (adX 4, en adX cs (τX 4) (sh 4)) (adX 5, en adX cs (τX 5) (sh 5)) (adX 6, en adX cs (τX 6) (sh 6)) (adX 7, en adX cs (τX 7) (sh 7)) (adX 8, en adX cs (τX 8) (sh 8)) (adX 9, en adX cs (τX 9) (sh 9)) (adX 10, en adX cs (τX 10) (sh 10)) (adX 11, en adX cs (τX 11) (sh 11)) (adX 12, en adX cs (τX 12) (sh 12)) (adX 13, en adX cs (τX 13) (sh 13)) (adX 14, en adX cs (τX 14) (sh 14)) (adX 15, en adX cs (τX 15) (sh 15)) (adX 16, en adX cs (τX 16) (sh 16)) (adX 17, en adX cs (τX 17) (sh 17)) (adX 18, en adX cs (τX 18) (sh 18)) (adX 19, en adX cs (τX 19) (sh 19)) (adX 20, en adX cs (τX 20) (sh 20)) (adX 21, en adX cs (τX 21) (sh 21)) (adX 22, en adX cs (τX 22) (sh 22)) (adX 23, en adX cs (τX 23) (sh 23)) (adX 24, en adX cs (τX 24) (sh 24)) (adX 25, en adX cs (τX 25) (sh 25)) (adX 26, en adX cs (τX 26) (sh 26)) (adX 27, en adX cs (τX 27) (sh 27)) (adX 28, en adX cs (τX 28) (sh 28)) (adX 29, en adX cs (τX 29) (sh 29)) (adX 41, en adX cs (τX 41) (sh 41)) hP hD hS ?_
  intro q7 q15 q23 q31 q39 q47 q54 q62 q94 q103 H locs hP hD hS
  rw [← wdM cs adX ad0 τX σ0 h0 q7 q15 q23 q31 q39 q47 q54 q62 q94 q103] at hP hD
  generalize hde : adL [adX 0, adX 1, adX 2, adX 3, adX 4, adX 5, adX 6, adX 7, adX 8, adX 9, adX 10, adX 11, adX 12, adX 13, adX 14, adX 15, adX 16, adX 17, adX 18, adX 19, adX 20, adX 21, adX 22, adX 23, adX 24, adX 25, adX 26, adX 27, adX 28, adX 29, h0, q7, q15, q23, q31, q39, q47, q54, q62, q94, q103] (fun k => if k = 41 then adX 41 else ad0 k) = ad at hP hD
  have hd0 : ad 0 = adX 0 := by rw [← hde]; rfl
  have hd1 : ad 30 = h0 := by rw [← hde]; rfl
  have hd3 : ∀ k, 42 ≤ k → ad k = ad0 k := fun k hk => by rw [← hde, adL_out (Nat.le_of_succ_le hk)]; exact if_neg (by omega)
  refine m_tail ad D cs A p l e _ s m _ below meth c 10 681 _ ⟨hx, hb, hml, hown, hts, ⟨Nat.le_of_ble_eq_true rfl, Nat.le_of_ble_eq_true rfl, Nat.le_of_ble_eq_true rfl, Nat.le_of_ble_eq_true rfl⟩, hN.1⟩ (fun r τ H locs lsC pc' hq hok hd hH hS => ?_) H locs ls ⟨hK, hP, hD, hro.cong (fun k hk => ⟨hd3 k (by omega), sgM_out (by omega)⟩) hS, hst.cong (fun k hk => hd3 k (by omega)) hS⟩ hS ⟨hl.1, hl.2.1, fun i v hi => ?_⟩
  · obtain ⟨rfl, ρ, r1, r2, r3, hbg⟩ := hq
    have hk2 : ∀ k, 42 ≤ k → τ k = σ0 k := fun k hk => by rw [hbg.2.2.2.2.1 k (by omega), r1 k (by omega) (by omega), sgM_out hk]
    have hkM : keepM τX τ := fun k hk => by
      rcases (show (k < 30 ∨ k = 41) ∨ 42 ≤ k by omega) with hk | hk
      · rw [hbg.2.2.2.2.1 k (by omega), r1 k (by omega) (by omega), sgM_in hk]
      · rw [hk2 k hk, hX2 k (by omega)]
    exact W.vret hx hb hr (fun t ht hW => ⟨⟨(ad, τ), rfl, ⟨hd0, hd1, fun k hk => ⟨hd3 k hk, hk2 k hk⟩, hX.keep hkM, RM_0 r1 r2 r3 hbg⟩, by rw [ht]; exact hH.2.1, va_K.moved hW.alike hK, hH.2.2.1⟩, hS.F ht⟩) hS.2.2 hd hlocks
  · cases i with
    | zero =>
      cases hi
      show ls[0]? = some (.val (.ref (ad 30)))
      rw [hd1]
      exact lv_at hl 0 rfl
    | succ i =>
      cases i with
      | zero => cases hi
      | succ i => cases hi
