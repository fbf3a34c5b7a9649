/-! more rules: booleans, masks, shifts, signs, switches -/
def b2i (P : Prop) [Decidable P] : Int := if P then 1 else 0
theorem b2i_1 {P : Prop} [Decidable P] (h : P) : b2i P = 1 := if_pos h
theorem b2i_0 {P : Prop} [Decidable P] (h : ¬ P) : b2i P = 0 := if_neg h
theorem b2i_32 {P : Prop} [Decidable P] : i32 (b2i P) := by unfold b2i; split <;> decide
theorem b2i_ok {P : Prop} [Decidable P] : b2i P = 0 ∨ b2i P = 1 := by unfold b2i; split <;> simp
theorem b2i_iff {P R : Prop} [Decidable P] [Decidable R] (h : P ↔ R) : b2i P = b2i R := by
  unfold b2i
  by_cases hp : P
  · rw [if_pos hp, if_pos (h.mp hp)]
  · rw [if_neg hp, if_neg (fun r => hp (h.mpr r))]
theorem aI_b2i1 {P : Prop} [Decidable P] {σ τ : Mem} (h : P) (e : τ = σ) : (some (aI 1) : Option AV) = some (aI (b2i P)) ∧ τ = σ := ⟨by rw [b2i_1 h], e⟩
theorem aI_b2i0 {P : Prop} [Decidable P] {σ τ : Mem} (h : ¬ P) (e : τ = σ) : (some (aI 0) : Option AV) = some (aI (b2i P)) ∧ τ = σ := ⟨by rw [b2i_0 h], e⟩
section RB
variable {K : Nat} {M : Meth} {pc : Nat} {ls : List (Option AV)} {st : List AV} {σ : Mem} {Q : Option AV → Mem → Prop}
theorem g_ifb_eq {P : Prop} [Decidable P] {off : Int} {tgt : Nat} (hd : decode (mC M) pc = .ok (.ifCond .eq off, 3)) (ht : (pc : Int) + off = (tgt : Int)) (kt : ¬ P → Go K M tgt ls st σ Q) (kf : P → Go K M (pc + 3) ls st σ Q) : Go K M pc ls (aI (b2i P) :: st) σ Q := by
  refine g_if_eq hd ht b2i_32 (fun h => ?_) (fun h => ?_)
  · exact kt (fun hp => by rw [b2i_1 hp] at h; omega)
  · by_cases hp : P
    · exact kf hp
    · exact absurd (b2i_0 hp) h
theorem g_ifb_ne {P : Prop} [Decidable P] {off : Int} {tgt : Nat} (hd : decode (mC M) pc = .ok (.ifCond .ne off, 3)) (ht : (pc : Int) + off = (tgt : Int)) (kt : P → Go K M tgt ls st σ Q) (kf : ¬ P → Go K M (pc + 3) ls st σ Q) : Go K M pc ls (aI (b2i P) :: st) σ Q := by
  refine g_if_ne hd ht b2i_32 (fun h => ?_) (fun h => ?_)
  · by_cases hp : P
    · exact kt hp
    · exact absurd (b2i_0 hp) h
  · exact kf (fun hp => by rw [b2i_1 hp] at h; omega)
theorem and_k {x : Int} {m : Int32} (k : Nat) (hk : k ≤ 32) (hm : m.toBitVec.toNat = 2 ^ k - 1) : Int32.ofInt x &&& m = Int32.ofInt (x % (2 ^ k : Nat)) := by
  rw [pk_and _ k hm]
  have h1 : (Int32.ofInt x).toBitVec.toNat = (x % ((2 ^ 32 : Nat) : Int)).toNat := by
    rw [Int32.toBitVec_ofInt, BitVec.toNat_ofInt]
  rw [h1]
  have hd : (2 ^ k : Nat) ∣ 2 ^ 32 := Nat.pow_dvd_pow 2 hk
  have h0 : 0 ≤ x % ((2 ^ 32 : Nat) : Int) := Int.emod_nonneg _ (by decide)
  have h2 : ((((x % ((2 ^ 32 : Nat) : Int)).toNat % 2 ^ k : Nat)) : Int) = x % ((2 ^ k : Nat) : Int) := by
    rw [Int.natCast_emod, Int.toNat_of_nonneg h0]
    exact Int.emod_emod_of_dvd _ (Int.natCast_dvd_natCast.mpr hd)
  show Int32.ofNat _ = _
  rw [← h2]
  rfl
theorem g_iand1 {x : Int} (hd : decode (mC M) pc = .ok (.iand, 1)) (k : Go K M (pc + 1) ls (aI (x % 2) :: st) σ Q) : Go K M pc ls (aI 1 :: aI x :: st) σ Q := by
  intro ad D cs A p l e R s m args below meth c cells slots Z C hret H locs lsC hH hS hL
  refine lv_iand C.1 C.2.1 hd ?_
  rw [and_k 1 (by decide) (by decide)]
  exact k ad D cs A p l e R s m args below meth c cells slots Z C hret H locs lsC hH hS hL
theorem g_iand31 {x : Int} (hd : decode (mC M) pc = .ok (.iand, 1)) (k : Go K M (pc + 1) ls (aI (x % 32) :: st) σ Q) : Go K M pc ls (aI 31 :: aI x :: st) σ Q := by
  intro ad D cs A p l e R s m args below meth c cells slots Z C hret H locs lsC hH hS hL
  refine lv_iand C.1 C.2.1 hd ?_
  rw [and_k 5 (by decide) (by decide)]
  exact k ad D cs A p l e R s m args below meth c cells slots Z C hret H locs lsC hH hS hL
theorem g_iand63 {x : Int} (hd : decode (mC M) pc = .ok (.iand, 1)) (k : Go K M (pc + 1) ls (aI (x % 64) :: st) σ Q) : Go K M pc ls (aI 63 :: aI x :: st) σ Q := by
  intro ad D cs A p l e R s m args below meth c cells slots Z C hret H locs lsC hH hS hL
  refine lv_iand C.1 C.2.1 hd ?_
  rw [and_k 6 (by decide) (by decide)]
  exact k ad D cs A p l e R s m args below meth c cells slots Z C hret H locs lsC hH hS hL
theorem g_iandN {x N : Int} (hN : N = 8 ∨ N = 16 ∨ N = 32) (hd : decode (mC M) pc = .ok (.iand, 1)) (k : Go K M (pc + 1) ls (aI (x % N) :: st) σ Q) : Go K M pc ls (aI (N - 1) :: aI x :: st) σ Q := by
  intro ad D cs A p l e R s m args below meth c cells slots Z C hret H locs lsC hH hS hL
  refine lv_iand C.1 C.2.1 hd ?_
  have he : Int32.ofInt x &&& Int32.ofInt (N - 1) = Int32.ofInt (x % N) := by
    rcases hN with rfl | rfl | rfl
    · exact and_k 3 (by decide) (by decide)
    · exact and_k 4 (by decide) (by decide)
    · exact and_k 5 (by decide) (by decide)
  rw [he]
  exact k ad D cs A p l e R s m args below meth c cells slots Z C hret H locs lsC hH hS hL
theorem g_ishr1 {x : Int} (hd : decode (mC M) pc = .ok (.ishr, 1)) (hx : i32 x) (k : Go K M (pc + 1) ls (aI (x / 2) :: st) σ Q) : Go K M pc ls (aI 1 :: aI x :: st) σ Q := by
  intro ad D cs A p l e R s m args below meth c cells slots Z C hret H locs lsC hH hS hL
  refine lv_ishr C.1 C.2.1 hd ?_
  have h : Int32.ofInt x >>> (Int32.ofInt 1 &&& 31) = Int32.ofInt (x / 2) := by
    rw [← Int32.toInt_inj, pk_shr _ _ 1 (by decide), i32_to hx, i32_to (by omega), Int.shiftRight_eq_div_pow]
    rfl
  rw [h]
  exact k ad D cs A p l e R s m args below meth c cells slots Z C hret H locs lsC hH hS hL
theorem xor_s32 (a b : Int32) : (a ^^^ b).toInt < 0 ↔ ¬ (a.toInt < 0 ↔ b.toInt < 0) := by
  have h1 : ∀ z : Int32, z.toInt < 0 ↔ z.toBitVec.msb = true := fun z => by
    rw [BitVec.msb_eq_toInt]; simp only [decide_eq_true_eq]; exact Iff.rfl
  rw [h1, h1, h1, Int32.toBitVec_xor, BitVec.msb_xor]
  cases a.toBitVec.msb <;> cases b.toBitVec.msb <;> simp
theorem xor_s64 (a b : Int64) : (a ^^^ b).toInt < 0 ↔ ¬ (a.toInt < 0 ↔ b.toInt < 0) := by
  have h1 : ∀ z : Int64, z.toInt < 0 ↔ z.toBitVec.msb = true := fun z => by
    rw [BitVec.msb_eq_toInt]; simp only [decide_eq_true_eq]; exact Iff.rfl
  rw [h1, h1, h1, Int64.toBitVec_xor, BitVec.msb_xor]
  cases a.toBitVec.msb <;> cases b.toBitVec.msb <;> simp
theorem g_ixor {x y : Int} (hd : decode (mC M) pc = .ok (.ixor, 1)) (hx : i32 x) (hy : i32 y) (k : ∀ z : Int, i32 z → (z < 0 ↔ ¬ (x < 0 ↔ y < 0)) → Go K M (pc + 1) ls (aI z :: st) σ Q) : Go K M pc ls (aI y :: aI x :: st) σ Q := by
  intro ad D cs A p l e R s m args below meth c cells slots Z C hret H locs lsC hH hS hL
  refine lv_ixor C.1 C.2.1 hd ?_
  have h := xor_s32 (Int32.ofInt x) (Int32.ofInt y)
  rw [i32_to hx, i32_to hy] at h
  rw [← Int32.ofInt_toInt (Int32.ofInt x ^^^ Int32.ofInt y)]
  exact k _ ⟨by have := Int32.le_toInt (Int32.ofInt x ^^^ Int32.ofInt y); omega, by have := Int32.toInt_lt (Int32.ofInt x ^^^ Int32.ofInt y); omega⟩ h ad D cs A p l e R s m args below meth c cells slots Z C hret H locs lsC hH hS hL
theorem g_lxor {x y : Int} (hd : decode (mC M) pc = .ok (.lxor, 1)) (hx : i64 x) (hy : i64 y) (k : ∀ z : Int, i64 z → (z < 0 ↔ ¬ (x < 0 ↔ y < 0)) → Go K M (pc + 1) ls (aL z :: st) σ Q) : Go K M pc ls (aL y :: aL x :: st) σ Q := by
  intro ad D cs A p l e R s m args below meth c cells slots Z C hret H locs lsC hH hS hL
  refine lv_lxor C.1 C.2.1 hd ?_
  have h := xor_s64 (Int64.ofInt x) (Int64.ofInt y)
  rw [i64_to hx, i64_to hy] at h
  rw [← Int64.ofInt_toInt (Int64.ofInt x ^^^ Int64.ofInt y)]
  exact k _ ⟨by have := Int64.le_toInt (Int64.ofInt x ^^^ Int64.ofInt y); omega, by have := Int64.toInt_lt (Int64.ofInt x ^^^ Int64.ofInt y); omega⟩ h ad D cs A p l e R s m args below meth c cells slots Z C hret H locs lsC hH hS hL
theorem g_tabOut {x dflt lo hi : Int} {offs : Array Int} {len tgt : Nat} (hd : decode (mC M) pc = .ok (.tableswitch dflt lo hi offs, len)) (hx : i32 x) (h : x < lo ∨ hi < x) (ht : (pc : Int) + dflt = (tgt : Int)) (k : Go K M tgt ls st σ Q) : Go K M pc ls (aI x :: st) σ Q := by
  intro ad D cs A p l e R s m args below meth c cells slots Z C hret H locs lsC hH hS hL
  exact lv_tableOut C.1 C.2.1 hd (by rw [i32_to hx]; exact h) ht (k ad D cs A p l e R s m args below meth c cells slots Z C hret H locs lsC hH hS hL)
theorem g_tabIn {x dflt lo hi off : Int} {offs : Array Int} {len tgt : Nat} (hd : decode (mC M) pc = .ok (.tableswitch dflt lo hi offs, len)) (hx : i32 x) (h1 : lo ≤ x) (h2 : x ≤ hi) (ho : offs[(x - lo).toNat]? = some off) (ht : (pc : Int) + off = (tgt : Int)) (k : Go K M tgt ls st σ Q) : Go K M pc ls (aI x :: st) σ Q := by
  intro ad D cs A p l e R s m args below meth c cells slots Z C hret H locs lsC hH hS hL
  exact lv_tableIn C.1 C.2.1 hd (by rw [i32_to hx]; omega) (by rw [i32_to hx]; omega) (by rw [i32_to hx]; exact ho) ht (k ad D cs A p l e R s m args below meth c cells slots Z C hret H locs lsC hH hS hL)
/-- weaker ends -/
theorem Go.mono {Q' : Option AV → Mem → Prop} (h : Go K M pc ls st σ Q') (hq : ∀ r τ, Q' r τ → Q r τ) : Go K M pc ls st σ Q := by
  intro ad D cs A p l e R s m args below meth c cells slots Z C hret H locs lsC hH hS hL
  exact h ad D cs A p l e R s m args below meth c cells slots Z C (fun r τ H locs lsC pc' q => hret r τ H locs lsC pc' (hq r τ q)) H locs lsC hH hS hL
theorem Ret.mono {as : List AV} {Q' : Option AV → Mem → Prop} (h : Ret K M as σ Q') (hq : ∀ r τ, Q' r τ → Q r τ) : Ret K M as σ Q := by
  intro l ad D cs A p e h1 h2 h3 s m args below h4 h5 h6 h7
  obtain ⟨k, o, a1, a2, a3, ⟨⟨r, τ, b1, b2, b3⟩, b4⟩, a5⟩ := h l ad D cs A p e h1 h2 h3 s m args below h4 h5 h6 h7
  exact ⟨k, o, a1, a2, a3, ⟨⟨r, τ, hq r τ b1, b2, b3⟩, b4⟩, a5⟩
theorem Ret.eqv {as : List AV} {v w : AV} (h : RetV K M as σ v) (e : v = w) : RetV K M as σ w := e ▸ h
end RB
theorem fdiv_t {x y : Int} (hy : 0 < y) : x.tdiv y = if 0 ≤ x then x / y else -((-x) / y) := by
  split
  · rename_i h; rw [Int.tdiv_eq_ediv_of_nonneg h]
  · rename_i h
    have h1 : x = -(-x) := by omega
    rw [h1, Int.neg_tdiv, Int.tdiv_eq_ediv_of_nonneg (by omega), Int.neg_neg]
theorem tmod_t {x y : Int} (hy : 0 < y) : x.tmod y = if 0 ≤ x then x % y else -((-x) % y) := by
  split
  · rename_i h; rw [Int.tmod_eq_emod_of_nonneg h]
  · rename_i h
    have h1 : x = -(-x) := by omega
    rw [h1, Int.neg_tmod, Int.tmod_eq_emod_of_nonneg (by omega), Int.neg_neg]
