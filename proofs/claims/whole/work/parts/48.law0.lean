/-- memory at the start: the static rows, the script -/
def sg0 (L : Nat) (xs : Nat → Int32) : Mem := fun k j => if k = 100 then (([0, 1, (-1), (-1), 0, 1] : List Int32).getD j.toNat 0).toInt else if k = 101 then (([1, 1, 1, 2, 0, 1] : List Int32).getD j.toNat 0).toInt else if k = 102 then (([0, 0, 0, 2, 0, 1] : List Int32).getD j.toNat 0).toInt else if k = 103 then (([0, 100, 200, 297, 392, 483, 569, 650, 724, 792, 851, 903, 946, 980, 1004, 1019, 1024] : List Int32).getD j.toNat 0).toInt else if k = 104 then (xs j.toNat).toInt else if k = 203 then 17 else if k = 204 then L else if 200 ≤ k then 6 else 0
theorem sg0_ok (L : Nat) (xs : Nat → Int32) : ROk (sg0 L xs) := by
  refine ⟨fun k k0 k1 => ?_, fun k k0 k1 => ?_, rfl, rfl, rfl, rfl⟩
  · rcases (show k = 0 ∨ k = 1 ∨ k = 2 ∨ k = 3 ∨ k = 4 ∨ k = 5 by omega) with rfl | rfl | rfl | rfl | rfl | rfl <;> exact ⟨rfl, rfl, rfl⟩
  · rcases (show k = 0 ∨ k = 1 ∨ k = 2 ∨ k = 3 ∨ k = 4 ∨ k = 5 ∨ k = 6 ∨ k = 7 ∨ k = 8 ∨ k = 9 ∨ k = 10 ∨ k = 11 ∨ k = 12 ∨ k = 13 ∨ k = 14 ∨ k = 15 ∨ k = 16 by omega) with rfl | rfl | rfl | rfl | rfl | rfl | rfl | rfl | rfl | rfl | rfl | rfl | rfl | rfl | rfl | rfl | rfl <;> rfl
theorem sg0_SC (L : Nat) (xs : Nat → Int32) : SC (sg0 L xs) L := ⟨rfl, fun j => by
  have h1 := Int32.le_toInt (xs j.toNat)
  have h2 := Int32.toInt_lt (xs j.toNat)
  show i32 (xs j.toNat).toInt
  omega⟩

theorem start_R {args : Array Value} {s : State} {b L : Nat} {xs : Nat → Int32} (hL : L ≤ 2560) (hts : ∀ w ∈ lw_tbl, w.before args s = true) (hg : (Jvm.Cond.and given_1 narrow_1).before args s = true) (hX : va_X b L xs s s.heap) (hbl : b < s.heap.size) : ∃ ad0 : Nat → Nat, ad0 104 = b ∧ roX ad0 (fun q => s.heap.size ≤ q) (sg0 L xs) s s.heap ∧ stZ ad0 (fun q => s.heap.size ≤ q) s s.heap := by
  obtain ⟨a0, e0, x0, y0⟩ := rowLEANS hg
  obtain ⟨a1, e1, x1, y1⟩ := rowFORCES hg
  obtain ⟨a2, e2, x2, y2⟩ := rowALSO hg
  obtain ⟨a3, e3, x3, y3⟩ := rowSINES hg
  have hn : ∀ a : Nat, a < s.heap.size → ¬ s.heap.size ≤ a := fun a h => Nat.not_le.mpr h
  refine ⟨fun k => if k = 100 then a0 else if k = 101 then a1 else if k = 102 then a2 else if k = 103 then a3 else b, rfl, fun k h1 h2 => ?_, ?_⟩
  · rcases (show k = 100 ∨ k = 101 ∨ k = 102 ∨ k = 103 ∨ k = 104 by omega) with rfl | rfl | rfl | rfl | rfl
    · exact ⟨6, by have := x0; rw [← of_f (fun j => ([0, 1, (-1), (-1), 0, 1] : List Int32).getD j 0)] at this; exact this, rfl, by decide, y0, hn _ y0⟩
    · exact ⟨6, by have := x1; rw [← of_f (fun j => ([1, 1, 1, 2, 0, 1] : List Int32).getD j 0)] at this; exact this, rfl, by decide, y1, hn _ y1⟩
    · exact ⟨6, by have := x2; rw [← of_f (fun j => ([0, 0, 0, 2, 0, 1] : List Int32).getD j 0)] at this; exact this, rfl, by decide, y2, hn _ y2⟩
    · exact ⟨17, by have := x3; rw [← of_f (fun j => ([0, 100, 200, 297, 392, 483, 569, 650, 724, 792, 851, 903, 946, 980, 1004, 1019, 1024] : List Int32).getD j 0)] at this; exact this, rfl, by decide, y3, hn _ y3⟩
    · exact ⟨L, by have := hX; rw [← of_f xs] at this; exact this, rfl, by omega, hbl, hn _ hbl⟩
  · exact ⟨va_Zof (hts _ (List.mem_of_getElem? (i := 353) (by decide +kernel))) (hts _ (List.mem_of_getElem? (i := 46) (by decide +kernel))) e0 hn, va_Zof (hts _ (List.mem_of_getElem? (i := 359) (by decide +kernel))) (hts _ (List.mem_of_getElem? (i := 46) (by decide +kernel))) e1 hn, va_Zof (hts _ (List.mem_of_getElem? (i := 365) (by decide +kernel))) (hts _ (List.mem_of_getElem? (i := 46) (by decide +kernel))) e2 hn, va_Zof (hts _ (List.mem_of_getElem? (i := 626) (by decide +kernel))) (hts _ (List.mem_of_getElem? (i := 46) (by decide +kernel))) e3 hn⟩

theorem roX.less {ad : Nat → Nat} {A B : Nat → Prop} {σ : Mem} {U : State} {H : Heap} (h : roX ad A σ U H) (hAB : ∀ q, B q → A q) : roX ad B σ U H := fun k a b => by
  obtain ⟨L, x1, x2, x3, x4, x5⟩ := h k a b
  exact ⟨L, x1, x2, x3, x4, fun q => x5 (hAB _ q)⟩
theorem va_Z_less {C n d : String} {v : Value} {A B : Nat → Prop} {U : State} {H : Heap} (h : va_Z C n d v A U H) (hAB : ∀ q, B q → A q) : va_Z C n d v B U H := by
  obtain ⟨cf, kf, fi, f, a, cell, h1, h2, h3, h4, h5, h6, h7, h8⟩ := h
  exact ⟨cf, kf, fi, f, a, cell, h1, h2, h3, h4, h5, h6, h7, fun q => h8 (hAB _ q)⟩
theorem stZ.less {ad : Nat → Nat} {A B : Nat → Prop} {U : State} {H : Heap} (h : stZ ad A U H) (hAB : ∀ q, B q → A q) : stZ ad B U H := ⟨va_Z_less h.1 hAB, va_Z_less h.2.1 hAB, va_Z_less h.2.2.1 hAB, va_Z_less h.2.2.2 hAB⟩
theorem whole_start {p : Program} {e : Env} {s : State} {m : MethodId} {below : List Frame} {meth : Method} {c : Code} (l : Launch) {b L : Nat} {xs : Nat → Int32} (hL : L ≤ 2560) (C0 : lw_At p s m meth c b L xs) : W p l e room_1 s m #[Value.ref b] below meth c s.heap [] 0 0 (lw_Z below #[Value.ref b] s) (entryFrame m ([Value.ref b] : List Value).toArray 4) := by
  obtain ⟨hx, hb, hr, hml, hown, hts, hX, hbl, hlocks, hgv⟩ := C0
  have hT := TW_sub hts
  obtain ⟨D, cs, hK⟩ := start_K hts
  have hN := start_N hts
  obtain ⟨ad0, hab, hro, hst⟩ := start_R hL hts hgv hX hbl
  generalize hAe : (fun q : Nat => s.heap.size ≤ q) = A at hro hst
  have hA : ∀ q : Nat, s.heap.size ≤ q → A q := fun _ h => by rw [← hAe]; exact h
  have hA2 : ∀ q : Nat, A q → s.heap.size ≤ q := fun _ h => by rw [← hAe] at h; exact h
  have hS : va_S A s.heap s.heap [] := va_S.rf
  have hP : va_P D classes [] s.heap := fun k q h => by simp at h
  have hD : va_D A [] := ⟨fun i j p q h => by simp at h, fun k q h => by simp at h⟩
  have hl := lv_entry ([.ref b]) (n := 4) (Nat.le_of_ble_eq_true rfl)
  rw [lg_entry_eq]
  generalize (lg_sl ([.ref b]) ++ List.replicate (4 - (lg_sl ([.ref b])).length) Slot.unset).toArray = ls at hl ⊢
  have hl : lv_has ls 4 [(0, .ref b)] := hl
  refine va_new (D := D) (ci := 6) (fs := [.null, .null, .null, .null, .null, .null, .null]) (C := RX6) (T := TX6) (N := 7) hx hb hT wkX6 tyX6 tyX6_ok hown (hT _ (TW_of 55 (by decide +kernel) (by decide +kernel))) (hT _ (TW_of 56 (by decide +kernel) (by decide +kernel))) (hT _ (TW_of 46 (by decide +kernel) (by decide +kernel))) hK hP hD hS hA rfl (dvX6) (Nat.le_of_ble_eq_true rfl) (Nat.le_of_ble_eq_true rfl) dL_law_0 (fun q0 H hP hD hS => ?_)
  have hP : va_P D classes [(q0, .inr (6, [.null, .null, .null, .null, .null, .null, .null]))] H := hP
  have hD : va_D A [(q0, .inr (6, [.null, .null, .null, .null, .null, .null, .null]))] := hD
  refine W.widen (k := 1) (n := 7) (by omega) (by omega) ?_
  refine lv_dup hx hb dL_law_3 rfl ?_
  have hFc := va_free (wc := [(q0, .inr (6, [.null, .null, .null, .null, .null, .null, .null]))]) hD hS hA [0] rfl
  have hro1 := (hro.cong (ad := ad0) (σ := sg0 L xs) (fun _ _ => ⟨rfl, rfl⟩) hS).less hFc
  have hst1 := (hst.cong (ad := ad0) (fun _ _ => rfl) hS).less hFc
  refine va_callv (va_runI (As := []) (rest := [.ref q0]) ⟨hx, hb, hml, hown, hT⟩ (n_X6 l D cs ad0 (sg0 L xs) (sg0_ok L xs) q0 H.size) ⟨callB_of 0 hT (wsM_good mIX6_init) rfl rfl rfl (hT _ (TW_of 46 (by decide +kernel) (by decide +kernel))) (hT _ (TW_of 57 (by decide +kernel) (by decide +kernel))) ⟨by decide, by decide, by decide +kernel⟩ ⟨Nat.le_of_ble_eq_true rfl, Nat.le_of_ble_eq_true rfl⟩, rfl, hT _ (TW_of 58 (by decide +kernel) (by decide +kernel))⟩ ⟨PR_blind _ _ _ _ _ _ _ _, fun U hU hW => ⟨rfl, ⟨by rw [hU], by rw [hU]; exact hP, va_K.moved hW.alike hK, hD.weaken (fun _ _ _ _ => trivial), hN.warm hW⟩, by rw [hU]; exact hro1.moved hW.alike, by rw [hU]; exact hst1.moved hW.alike⟩⟩ rfl rfl hl.1 rfl (lv_room (Nat.le_of_ble_eq_true rfl)) dL_law_4 ⟨Nat.le_of_ble_eq_true rfl, Nat.le_of_ble_eq_true rfl⟩) hS (fun q _ h => hFc q h) hFc (fun u t H1 locs ht hvm h5 hB hz1 hk1 hS => ?_)
  obtain ⟨adX, τX⟩ := u
  obtain ⟨hX0, hX1, hX2⟩ := h5
  obtain ⟨hP1, hK1, hD1⟩ := hB
  rw [ht] at hP1
  obtain ⟨hP, hD⟩ := va_join (wr := []) (w1 := wd adX cs τX 30) hP hD [0] [] rfl rfl (by decide) (by decide) hk1 hFc hP1 hD1
  generalize H1 = H at hP hS ⊢
  have hP : va_P D classes (wd adX cs τX 30) H := hP
  have hD : va_D A (wd adX cs τX 30) := hD
  refine W.widen (k := 31) (n := 576) (by omega) (by omega) ?_
  refine lv_astore_n (lv' := [(1, .ref q0), (0, .ref b)]) hx hb dL_law_7 rfl hl (by decide) rfl (fun ls hl => ?_)
  refine va_new (D := D) (ci := 7) (fs := [.int 0, .null, .null, .null, .null, .null, .null, .null, .null, .int 0, .int 0, .int 0, .int 0, .int 0, .null, .int 0, .null, .int 0, .int 0, .int 0, .int 0, .int 0]) (C := RX7) (T := TX7) (N := 22) hx hb hT wkX7 tyX7 tyX7_ok hown (hT _ (TW_of 677 (by decide +kernel) (by decide +kernel))) (hT _ (TW_of 678 (by decide +kernel) (by decide +kernel))) (hT _ (TW_of 54 (by decide +kernel) (by decide +kernel))) hK hP hD hS hA rfl (dvX7) (Nat.le_of_ble_eq_true rfl) (Nat.le_of_ble_eq_true rfl) dL_law_8 (fun q8 H hP hD hS => ?_)
  refine W.widen (k := 32) (n := 598) (by omega) (by omega) ?_
  refine lv_dup hx hb dL_law_11 rfl ?_
  have hFc : ∀ q, va_A (wd adX cs τX 30 ++ [(q8, .inr (7, [.int 0, .null, .null, .null, .null, .null, .null, .null, .null, .int 0, .int 0, .int 0, .int 0, .int 0, .null, .int 0, .null, .int 0, .int 0, .int 0, .int 0, .int 0]))]) H.size q → A q := fun q h => by
    rcases h with ⟨k, e, h⟩ | h
    · exact hD.2 k _ h
    · exact hA q (Nat.le_trans hS.1 h)
  have hro1 := (hro.cong (ad := ad0) (σ := sg0 L xs) (fun _ _ => ⟨rfl, rfl⟩) hS).less hFc
  have hst1 := (hst.cong (ad := ad0) (fun _ _ => rfl) hS).less hFc
  refine va_callv (va_runI (As := []) (rest := [.ref q8]) ⟨hx, hb, hml, hown, hT⟩ (n_X7 l D cs ad0 adX (sg0 L xs) τX hX2 (fun k hk => (hX1 k hk).2) q8 H.size) ⟨callB_of 0 hT (wsM_good mIX7_init) rfl rfl rfl (hT _ (TW_of 54 (by decide +kernel) (by decide +kernel))) (hT _ (TW_of 679 (by decide +kernel) (by decide +kernel))) ⟨by decide, by decide, by decide +kernel⟩ ⟨Nat.le_of_ble_eq_true rfl, Nat.le_of_ble_eq_true rfl⟩, rfl, hT _ (TW_of 680 (by decide +kernel) (by decide +kernel))⟩ ⟨PR_blind _ _ _ _ _ _ _ _, fun U hU hW => ⟨rfl, ⟨by rw [hU], by rw [hU]; exact hP, va_K.moved hW.alike hK, hD.weaken (fun _ _ _ _ => trivial), hN.warm hW⟩, by rw [hU]; exact hro1.moved hW.alike, by rw [hU]; exact hst1.moved hW.alike⟩⟩ rfl rfl hl.1 rfl (lv_room (Nat.le_of_ble_eq_true rfl)) dL_law_12 ⟨Nat.le_of_ble_eq_true rfl, Nat.le_of_ble_eq_true rfl⟩) hS (fun q _ h => hFc q h) hFc (fun u t H1 locs ht hvm h5 hB hz1 hk1 hS => ?_)
  obtain ⟨ad, τ⟩ := u
  obtain ⟨hM0, hM1, hM2, hM3, hM4⟩ := h5
  obtain ⟨hP, hK1, hD1⟩ := hB
  rw [ht] at hP
  have hD : va_D A (wd ad cs τ 41) := hD1.weaken (fun k q _ h => hFc _ h)
  have hP : va_P D classes (wd ad cs τ 41) H1 := hP
  refine W.widen (k := 42) (n := 1279) (by omega) (by omega) ?_
  refine lv_astore_n (lv' := [(2, .ref q8), (1, .ref q0), (0, .ref b)]) hx hb dL_law_15 rfl hl (by decide) rfl (fun ls hl => ?_)
  refine lv_iconst (v := 0) hx hb dL_law_16 (by decide) ?_
  refine lv_istore_n (lv' := [(3, .int 0), (2, .ref q8), (1, .ref q0), (0, .ref b)]) hx hb dL_law_17 rfl hl (by decide) rfl (fun ls hl => ?_)
  have h204 : τ 204 = sg0 L xs 204 := (hM2 204 (by decide)).2
  have h104 : τ 104 = sg0 L xs 104 := (hM2 104 (by decide)).2
  have hM1 : ad 30 = q8 := hM1
  have hsc : SC τ L := ⟨by rw [h204]; exact (sg0_SC L xs).1, fun j => by rw [h104]; exact (sg0_SC L xs).2 j⟩
  refine law_lp (by omega) (by omega) 2561 0 100000000 V0 τ (by omega) (by omega) (by omega) V0_inv (by omega) (by omega) hM3 hM4 hsc ad D cs A p l e room_1 s m #[Value.ref b] below meth c 42 1279 _ ⟨hx, hb, hml, hown, hT, ⟨Nat.le_of_ble_eq_true rfl, Nat.le_of_ble_eq_true rfl, Nat.le_of_ble_eq_true rfl, Nat.le_of_ble_eq_true rfl⟩, hN.1⟩ (fun r τ2 H locs lsC pc' hq hok hd hH hS => ?_) H1 locs ls ⟨hK, hP, hD, hro.cong (fun k hk => ⟨(hM2 k (by omega)).1, (hM2 k (by omega)).2⟩) hS, hst.cong (fun k hk => (hM2 k (by omega)).1) hS⟩ hS ⟨hl.1, hl.2.1, fun i v hi => ?_⟩
  · have hq : r = some (aI 1) := hq
    subst hq
    refine va_forget (fun q h => hA2 _ (hS.2.2 q h)) ?_
    refine W.widen (k := 600000) (n := 7302250) (by decide) (by decide) ?_
    exact lw_ret hx hb hr hlocks hd
  · have e0 : ad 0 = q0 := hM0.trans hX0
    have e4 : ad 104 = b := (hM2 104 (by decide)).1.trans hab
    match i, hi with
    | 0, hi => cases hi; show ls[0]? = some (.val (.ref (ad 104))); rw [e4]; exact lv_at hl 3 rfl
    | 1, hi => cases hi; show ls[1]? = some (.val (.ref (ad 0))); rw [e0]; exact lv_at hl 2 rfl
    | 2, hi => cases hi; show ls[2]? = some (.val (.ref (ad 30))); rw [hM1]; exact lv_at hl 1 rfl
    | 3, hi => cases hi; exact lv_at hl 0 rfl
    | i + 4, hi => cases hi
