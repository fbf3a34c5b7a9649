/-! WHAT THE STAND IS: V, a ghost memory, and the document's words as functions of it.
V 0 0 holes; V 1 kinds; V 2 pulls; V 3, V 4 what turns made (side, up); V 5, V 6 read; V 7 sizes of tables; V (8 + t) the table t; V 14 limits; V 15, V 16, V 17 0 the log (spokes, quarters, many); V 18 lacing (r, o, R, c) -/
def cNone : Int := -1000000005
def ab (x : Int) : Int := if x < 0 then -x else x
def leanK (k : Int) : Int := if k = 1 ∨ k = 5 then 1 else if k = 2 ∨ k = 3 then -1 else 0
def forceK (k : Int) : Int := if k = 3 then 2 else if k = 4 then 0 else 1
def dst (i j : Int) : Int := if i < j then j - i else i - j
/-- how far it is round, by how far it is on -/
def lw (N d : Int) : Int := if N - d < d then N - d else d
def stp (N i j : Int) : Int := if dst i j < N - dst i j then dst i j else N - dst i j
/-- the first i, of n from i on, with P; -1 if there is none -/
def firstI (P : Int → Bool) : Nat → Int → Int
  | 0, _ => -1
  | n + 1, i => if P i then i else firstI P n (i + 1)
def sumN (f : Int → Int) : Nat → Int
  | 0 => 0
  | n + 1 => sumN f n + f n
def cntN (P : Int → Bool) : Nat → Int
  | 0 => 0
  | n + 1 => cntN P n + (if P n then 1 else 0)
def mxN (f : Int → Int) : Nat → Int
  | 0 => 0
  | n + 1 => max (mxN f n) (f n)
/-- steps to the nearest read place, one way round; 0, if there is none -/
def nxS (f : Int → Int) (N p w : Int) : Int := max 0 (firstI (fun i => decide (f ((p + w * i) % N) ≠ -10000)) (N - 1).toNat 1)
def unbF (f : Int → Int) (N p : Int) : Int := if f p ≠ -10000 then f p else if nxS f N p (-1) = 0 ∨ nxS f N p 1 = 0 then 0 else (f ((p - nxS f N p (-1)) % N) * nxS f N p 1 + f ((p + nxS f N p 1) % N) * nxS f N p (-1)) / (nxS f N p (-1) + nxS f N p 1)
def unb (V : Mem) (r : Nat) (p : Int) : Int := unbF (V (5 + r)) (V 0 0) p
def rdg (V : Mem) (r : Nat) (p : Int) : Int := unb V r p + V (3 + r) p
def midV (V : Mem) : Int := sumN (rdg V 0) (V 0 0).toNat / V 0 0
/-- of those that lean l: whether there is one, the least pull, the greatest -/
def spS (V : Mem) (l : Int) : Nat → Bool × Int × Int
  | 0 => (false, 0, 0)
  | n + 1 => if leanK (V 1 n) = l then (true, (if (spS V l n).1 = false ∨ V 2 n < (spS V l n).2.1 then V 2 n else (spS V l n).2.1), (if (spS V l n).1 = false ∨ (spS V l n).2.2 < V 2 n then V 2 n else (spS V l n).2.2)) else spS V l n
def sprV (V : Mem) (l : Int) : Int := (spS V l (V 0 0).toNat).2.2 - (spS V l (V 0 0).toNat).2.1
def shr (v L : Int) : Int := 1000 * ab v / L
def wstV (V : Mem) : Int := min 1000000000 (max (max (max (shr (midV V) (V 14 2)) (shr (sprV V 1) (V 14 3))) (shr (sprV V (-1)) (V 14 3))) (max (mxN (fun p => shr (rdg V 0 p) (V 14 0)) (V 0 0).toNat) (mxN (fun p => shr (rdg V 1 p) (V 14 1)) (V 0 0).toNat)))
def bentAt (V : Mem) (r : Nat) : Int := firstI (fun p => decide (V 14 r < ab (rdg V r p))) (V 0 0).toNat 0
def looseAt (V : Mem) : Int := firstI (fun j => decide (V 2 j < 0)) (V 0 0).toNat 0
def fltV (V : Mem) : Int := if 0 ≤ bentAt V 0 then bentAt V 0 else if 0 ≤ bentAt V 1 then 100 + bentAt V 1 else if V 14 2 < ab (midV V) then 200 else if V 14 3 < sprV V 1 then 300 else if V 14 3 < sprV V (-1) then 301 else if 0 ≤ looseAt V then 400 + looseAt V else cNone
def overAt (V : Mem) : Int := firstI (fun j => decide (V 14 4 < V 2 j)) (V 0 0).toNat 0
/-- a turn of s by n quarters, made -/
def mkV (V : Mem) (s n : Int) : Mem := fun a j =>
  if a = 2 ∧ 0 ≤ j ∧ j < V 0 0 then (if V 1 j = 4 then V 2 j else V 2 j + forceK (V 1 s) * n * (if leanK (V 1 j) = leanK (V 1 s) then V 10 (stp (V 0 0) s j) else V 11 (stp (V 0 0) s j)))
  else if a = 3 ∧ 0 ≤ j ∧ j < V 0 0 then V 3 j + forceK (V 1 s) * n * leanK (V 1 s) * V 8 (stp (V 0 0) s j)
  else if a = 4 ∧ 0 ≤ j ∧ j < V 0 0 then V 4 j + forceK (V 1 s) * n * V 9 (stp (V 0 0) s j)
  else V a j
/-- the turn is not refused -/
def okV (V : Mem) (s n : Int) : Bool := decide (V 1 s ≠ 4) && decide (overAt (mkV V s n) = -1)
def qOf (k : Int) : Int := if k % 2 = 0 then 1 else -1
/-- the next quarter: the least WORST, and which -/
def nqS (V : Mem) : Nat → Int × Int
  | 0 => (wstV V, cNone)
  | k + 1 => if okV V ((k : Int) / 2) (qOf k) = true ∧ wstV (mkV V ((k : Int) / 2) (qOf k)) < (nqS V k).1 then (wstV (mkV V ((k : Int) / 2) (qOf k)), k) else nqS V k
def nqV (V : Mem) : Int := (nqS V (2 * V 0 0).toNat).2
def addV (V : Mem) (s n : Int) : Mem := up (up (up V 15 (V 17 0) s) 16 (V 17 0) n) 17 0 (V 17 0 + 1)
def planV : Nat → Mem → Int × Mem
  | 0, V => (0, V)
  | n + 1, V => if V 17 0 = 60 ∨ nqV V = cNone then (0, V) else ((planV n (addV (mkV V (nqV V / 2) (qOf (nqV V))) (nqV V / 2) (qOf (nqV V)))).1 + 1, (planV n (addV (mkV V (nqV V / 2) (qOf (nqV V))) (nqV V / 2) (qOf (nqV V)))).2)
def qtr (k : Int) : Int := if k % 2 = 0 then k / 2 + 1 else -(k / 2 + 1)
def oneP (V : Mem) (c : Int) : Bool := okV V (c / 8) (qtr (c % 8)) && decide (fltV (mkV V (c / 8) (qtr (c % 8))) = cNone)
/-- by one spoke, none below s: 8 times the spoke, and which number of quarters; -1 -/
def oneV (V : Mem) (s : Int) : Int := firstI (oneP V) (8 * (V 0 0 - s)).toNat (8 * s)
def twoP (V : Mem) (c : Int) : Bool := okV V (c / 8) (qtr (c % 8)) && decide (0 ≤ oneV (mkV V (c / 8) (qtr (c % 8))) (c / 8 + 1))
def twoV (V : Mem) : Int := firstI (twoP V) (8 * V 0 0).toNat 0
/-- the fewest: how many, s, its quarters, t, its quarters -/
def fewV (V : Mem) (w : Int) : Int :=
  if fltV V = cNone then (if w = 0 then 0 else cNone)
  else if 0 ≤ oneV V 0 then (if w = 0 then 1 else if w = 1 then oneV V 0 / 8 else if w = 2 then qtr (oneV V 0 % 8) else cNone)
  else if 0 ≤ twoV V then (if w = 0 then 2 else if w = 1 then twoV V / 8 else if w = 2 then qtr (twoV V % 8) else if w = 3 then oneV (mkV V (twoV V / 8) (qtr (twoV V % 8))) (twoV V / 8 + 1) / 8 else qtr (oneV (mkV V (twoV V / 8) (qtr (twoV V % 8))) (twoV V / 8 + 1) % 8))
  else cNone
/-- the pull of j behind a break of s -/
def brkP (V : Mem) (s j : Int) : Int := V 2 j + V 2 s * V 12 (stp (V 0 0) s j) / 1000
def brkBad (V : Mem) (s : Int) : Int := firstI (fun j => decide (j ≠ s) && decide (V 1 j ≠ 4) && decide (100000000 < ab (brkP V s j))) (V 0 0).toNat 0
def brkV (V : Mem) (s : Int) : Mem := fun a j => if a = 1 ∧ j = s then 4 else if a = 2 ∧ j = s then 0 else if a = 2 ∧ 0 ≤ j ∧ j < V 0 0 ∧ V 1 j ≠ 4 then brkP V s j else V a j
def ldP (V : Mem) (w p j : Int) : Int := V 2 j - w * V 13 (stp (V 0 0) p j) / 1000
def ldC (V : Mem) (w p : Int) : Int := cntN (fun j => decide (V 1 j ≠ 4) && decide (ldP V w p j < 0)) (V 0 0).toNat
/-- most loose ones, and the least place of them -/
def wrS (V : Mem) (w : Int) : Nat → Int × Int
  | 0 => (0, 0)
  | n + 1 => if (wrS V w n).1 < ldC V w n then (ldC V w n, n) else wrS V w n
def sinT (j : Int) : Int := [0, 100, 200, 297, 392, 483, 569, 650, 724, 792, 851, 903, 946, 980, 1004, 1019, 1024].getD j.toNat 0
def sinV (d : Int) : Int := if d % 64 < 32 then sinT (if 16 < d % 32 then 32 - d % 32 else d % 32) else -sinT (if 16 < d % 32 then 32 - d % 32 else d % 32)
def hubV (V : Mem) (s : Int) : Int := if s / 2 % 2 = 0 then (if V 1 s = 5 then 0 else 2 * V 18 3 * 64 / V 0 0) else -(if V 1 s = 5 then 0 else 2 * V 18 3 * 64 / V 0 0)
def sqV (V : Mem) (s : Int) : Int := max 0 (100 * (V 18 2 * V 18 2 + V 18 0 * V 18 0 + V 18 1 * V 18 1) - 200 * V 18 2 * V 18 0 * sinV (16 + hubV V s) / 1024)
def rootV (v : Int) : Int := firstI (fun r => decide (v < (r + 1) * (r + 1))) 20000 0
def crsV (V : Mem) (s t : Int) : Prop := leanK (V 1 s) ≠ 0 ∧ leanK (V 1 s) = leanK (V 1 t) ∧ ((t * 64 / V 0 0 - s * 64 / V 0 0) % 64 + hubV V t - hubV V s < 0 ∨ 64 < (t * 64 / V 0 0 - s * 64 / V 0 0) % 64 + hubV V t - hubV V s)
/-- a new wheel -/
def whlV (V : Mem) (n : Int) : Mem := fun a j => if a = 0 ∧ j = 0 then n else if a = 1 then (if j % 2 = 0 then 1 else 2) else if a = 2 then 500 else if a = 3 ∨ a = 4 then 0 else if a = 5 ∨ a = 6 then -10000 else if a = 17 then 0 else V a j
def tblV (V : Mem) (t : Nat) (n : Int) : Mem := fun a j => if a = 7 ∧ j = t then n else if a = 8 + t then 0 else V a j
def cpyV (V : Mem) (f t : Nat) (n : Int) : Mem := fun a j => if a = 8 + t ∧ 0 ≤ j ∧ j < n then V (8 + f) j else V a j
def Inv (b : Int) (V : Mem) : Prop :=
  (V 0 0 = 8 ∨ V 0 0 = 16 ∨ V 0 0 = 32) ∧
  (∀ j, 0 ≤ j → j < V 0 0 → 0 ≤ V 1 j ∧ V 1 j ≤ 5 ∧ (V 1 j = 4 → V 2 j = 0)) ∧
  (∀ j, 0 ≤ j → j < V 0 0 → -b ≤ V 2 j ∧ V 2 j ≤ b) ∧
  (∀ r : Nat, r < 2 → ∀ j, 0 ≤ j → j < V 0 0 → -b ≤ V (3 + r) j ∧ V (3 + r) j ≤ b) ∧
  (∀ r : Nat, r < 2 → ∀ j, 0 ≤ j → j < V 0 0 → -10000 ≤ V (5 + r) j ∧ V (5 + r) j ≤ 9999) ∧
  (∀ t : Nat, t < 6 → -1 ≤ V 7 t ∧ V 7 t ≤ 17) ∧
  (∀ t : Nat, t < 6 → ∀ d, 0 ≤ d → d < 17 → -1000 ≤ V (8 + t) d ∧ V (8 + t) d ≤ 1000 ∧ (V 7 t ≤ d → V (8 + t) d = 0)) ∧
  (∀ i, 0 ≤ i → i < 5 → 1 ≤ V 14 i ∧ V 14 i ≤ 1000000) ∧
  (0 ≤ V 17 0 ∧ V 17 0 ≤ 60) ∧
  (∀ i, 0 ≤ i → i < V 17 0 → 0 ≤ V 15 i ∧ V 15 i < V 0 0 ∧ -100 ≤ V 16 i ∧ V 16 i ≤ 100) ∧
  (1 ≤ V 18 0 ∧ V 18 0 ≤ 200 ∧ 0 ≤ V 18 1 ∧ V 18 1 ≤ 200 ∧ 1 ≤ V 18 2 ∧ V 18 2 ≤ 1000 ∧ 0 ≤ V 18 3 ∧ V 18 3 ≤ 7) ∧
  (0 ≤ b ∧ b ≤ 500000000)
theorem Inv.N {b : Int} {V : Mem} (h : Inv b V) : V 0 0 = 8 ∨ V 0 0 = 16 ∨ V 0 0 = 32 := h.1
theorem Inv.kind {b : Int} {V : Mem} (h : Inv b V) (j : Int) (h0 : 0 ≤ j) (h1 : j < V 0 0) : 0 ≤ V 1 j ∧ V 1 j ≤ 5 ∧ (V 1 j = 4 → V 2 j = 0) := h.2.1 j h0 h1
theorem Inv.pull {b : Int} {V : Mem} (h : Inv b V) (j : Int) (h0 : 0 ≤ j) (h1 : j < V 0 0) : -b ≤ V 2 j ∧ V 2 j ≤ b := h.2.2.1 j h0 h1
theorem Inv.made {b : Int} {V : Mem} (h : Inv b V) (r : Nat) (hr : r < 2) (j : Int) (h0 : 0 ≤ j) (h1 : j < V 0 0) : -b ≤ V (3 + r) j ∧ V (3 + r) j ≤ b := h.2.2.2.1 r hr j h0 h1
theorem Inv.read {b : Int} {V : Mem} (h : Inv b V) (r : Nat) (hr : r < 2) (j : Int) (h0 : 0 ≤ j) (h1 : j < V 0 0) : -10000 ≤ V (5 + r) j ∧ V (5 + r) j ≤ 9999 := h.2.2.2.2.1 r hr j h0 h1
theorem Inv.size {b : Int} {V : Mem} (h : Inv b V) (t : Nat) (ht : t < 6) : -1 ≤ V 7 t ∧ V 7 t ≤ 17 := h.2.2.2.2.2.1 t ht
theorem Inv.tab {b : Int} {V : Mem} (h : Inv b V) (t : Nat) (ht : t < 6) (d : Int) (h0 : 0 ≤ d) (h1 : d < 17) : -1000 ≤ V (8 + t) d ∧ V (8 + t) d ≤ 1000 ∧ (V 7 t ≤ d → V (8 + t) d = 0) := h.2.2.2.2.2.2.1 t ht d h0 h1
theorem Inv.lim {b : Int} {V : Mem} (h : Inv b V) (i : Int) (h0 : 0 ≤ i) (h1 : i < 5) : 1 ≤ V 14 i ∧ V 14 i ≤ 1000000 := h.2.2.2.2.2.2.2.1 i h0 h1
theorem Inv.many {b : Int} {V : Mem} (h : Inv b V) : 0 ≤ V 17 0 ∧ V 17 0 ≤ 60 := h.2.2.2.2.2.2.2.2.1
theorem Inv.log {b : Int} {V : Mem} (h : Inv b V) (i : Int) (h0 : 0 ≤ i) (h1 : i < V 17 0) : 0 ≤ V 15 i ∧ V 15 i < V 0 0 ∧ -100 ≤ V 16 i ∧ V 16 i ≤ 100 := h.2.2.2.2.2.2.2.2.2.1 i h0 h1
theorem Inv.lac {b : Int} {V : Mem} (h : Inv b V) : 1 ≤ V 18 0 ∧ V 18 0 ≤ 200 ∧ 0 ≤ V 18 1 ∧ V 18 1 ≤ 200 ∧ 1 ≤ V 18 2 ∧ V 18 2 ≤ 1000 ∧ 0 ≤ V 18 3 ∧ V 18 3 ≤ 7 := h.2.2.2.2.2.2.2.2.2.2.1
theorem Inv.b {b : Int} {V : Mem} (h : Inv b V) : 0 ≤ b ∧ b ≤ 500000000 := h.2.2.2.2.2.2.2.2.2.2.2
/-- the reference's cells hold V -/
def RM (V σ : Mem) : Prop :=
  σ 30 0 = V 0 0 ∧
  (∀ j, 0 ≤ j → j < V 0 0 → σ 31 j = V 1 j ∧ σ 32 j = V 2 j) ∧
  (∀ r : Nat, r < 2 → ∀ j, 0 ≤ j → j < V 0 0 → σ 33 (32 * r + j) = V (3 + r) j ∧ σ 34 (32 * r + j) = V (5 + r) j) ∧
  (∀ t : Nat, t < 6 → σ 35 t = V 7 t) ∧
  (∀ t : Nat, t < 6 → ∀ d, 0 ≤ d → d < 17 → σ 36 (17 * t + d) = V (8 + t) d) ∧
  (∀ i, 0 ≤ i → i < 5 → σ 37 i = V 14 i) ∧
  σ 30 9 = V 17 0 ∧
  (∀ i, 0 ≤ i → i < V 17 0 → σ 38 (2 * i) = V 15 i ∧ σ 38 (2 * i + 1) = V 16 i) ∧
  (σ 30 10 = V 18 0 ∧ σ 30 11 = V 18 1 ∧ σ 30 12 = V 18 2 ∧ σ 30 13 = V 18 3) ∧
  (σ 30 15 = 0 ∨ (σ 30 15 = 1 ∧ ∀ r : Nat, r < 2 → ∀ p, 0 ≤ p → p < V 0 0 → σ 39 (32 * r + p) = unb V r p))
theorem RM.N {V σ : Mem} (h : RM V σ) : σ 30 0 = V 0 0 := h.1
theorem RM.kind {V σ : Mem} (h : RM V σ) (j : Int) (h0 : 0 ≤ j) (h1 : j < V 0 0) : σ 31 j = V 1 j := (h.2.1 j h0 h1).1
theorem RM.pull {V σ : Mem} (h : RM V σ) (j : Int) (h0 : 0 ≤ j) (h1 : j < V 0 0) : σ 32 j = V 2 j := (h.2.1 j h0 h1).2
theorem RM.made {V σ : Mem} (h : RM V σ) (r : Nat) (hr : r < 2) (j : Int) (h0 : 0 ≤ j) (h1 : j < V 0 0) : σ 33 (32 * r + j) = V (3 + r) j := (h.2.2.1 r hr j h0 h1).1
theorem RM.read {V σ : Mem} (h : RM V σ) (r : Nat) (hr : r < 2) (j : Int) (h0 : 0 ≤ j) (h1 : j < V 0 0) : σ 34 (32 * r + j) = V (5 + r) j := (h.2.2.1 r hr j h0 h1).2
theorem RM.size {V σ : Mem} (h : RM V σ) (t : Nat) (ht : t < 6) : σ 35 t = V 7 t := h.2.2.2.1 t ht
theorem RM.tab {V σ : Mem} (h : RM V σ) (t : Nat) (ht : t < 6) (d : Int) (h0 : 0 ≤ d) (h1 : d < 17) : σ 36 (17 * t + d) = V (8 + t) d := h.2.2.2.2.1 t ht d h0 h1
theorem RM.lim {V σ : Mem} (h : RM V σ) (i : Int) (h0 : 0 ≤ i) (h1 : i < 5) : σ 37 i = V 14 i := h.2.2.2.2.2.1 i h0 h1
theorem RM.many {V σ : Mem} (h : RM V σ) : σ 30 9 = V 17 0 := h.2.2.2.2.2.2.1
theorem RM.log {V σ : Mem} (h : RM V σ) (i : Int) (h0 : 0 ≤ i) (h1 : i < V 17 0) : σ 38 (2 * i) = V 15 i ∧ σ 38 (2 * i + 1) = V 16 i := h.2.2.2.2.2.2.2.1 i h0 h1
theorem RM.lac {V σ : Mem} (h : RM V σ) : σ 30 10 = V 18 0 ∧ σ 30 11 = V 18 1 ∧ σ 30 12 = V 18 2 ∧ σ 30 13 = V 18 3 := h.2.2.2.2.2.2.2.2.1
theorem RM.rims {V σ : Mem} (h : RM V σ) : σ 30 15 = 0 ∨ (σ 30 15 = 1 ∧ ∀ r : Nat, r < 2 → ∀ p, 0 ≤ p → p < V 0 0 → σ 39 (32 * r + p) = unb V r p) := h.2.2.2.2.2.2.2.2.2
/-- the class' cells hold V -/
def RX (V σ : Mem) : Prop :=
  (σ 10 6 = V 0 0 ∧ ∀ d, 0 ≤ d → d < V 0 0 → σ 41 d = lw (V 0 0) d) ∧
  (∀ j, 0 ≤ j → j < V 0 0 → σ 11 j = V 1 j ∧ σ 12 j = V 2 j) ∧
  (∀ r : Nat, r < 2 → ∀ j, 0 ≤ j → j < V 0 0 → σ (20 + r) j = V (3 + r) j ∧ σ (14 + r) j = V (5 + r) j ∧ σ (17 + r) j = unb V r j) ∧
  (∀ t : Nat, t < 6 → σ 9 t = V 7 t) ∧
  (∀ t : Nat, t < 6 → ∀ d, 0 ≤ d → d < 17 → σ (3 + t) d = V (8 + t) d) ∧
  (∀ i, 0 ≤ i → i < 5 → σ 22 i = V 14 i) ∧
  σ 26 2 = V 17 0 ∧
  (∀ i, 0 ≤ i → i < V 17 0 → σ 27 i = V 15 i ∧ σ 28 i = V 16 i) ∧
  (σ 29 0 = V 18 0 ∧ σ 29 1 = V 18 1 ∧ σ 29 2 = V 18 2 ∧ σ 29 3 = V 18 3) ∧
  ((∀ k, 0 ≤ k → k < 6 → σ 100 k = leanK k ∧ σ 101 k = forceK k ∧ σ 102 k = (if k = 3 then 2 else if k = 5 then 1 else 0)) ∧ (∀ k, 0 ≤ k → k < 17 → σ 103 k = sinT k) ∧ σ 200 0 = 6 ∧ σ 201 0 = 6 ∧ σ 202 0 = 6 ∧ σ 203 0 = 17)
theorem RX.N {V σ : Mem} (h : RX V σ) : σ 10 6 = V 0 0 := h.1.1
theorem RX.lw {V σ : Mem} (h : RX V σ) (d : Int) (h0 : 0 ≤ d) (h1 : d < V 0 0) : σ 41 d = lw (V 0 0) d := h.1.2 d h0 h1
theorem RX.kind {V σ : Mem} (h : RX V σ) (j : Int) (h0 : 0 ≤ j) (h1 : j < V 0 0) : σ 11 j = V 1 j := (h.2.1 j h0 h1).1
theorem RX.pull {V σ : Mem} (h : RX V σ) (j : Int) (h0 : 0 ≤ j) (h1 : j < V 0 0) : σ 12 j = V 2 j := (h.2.1 j h0 h1).2
theorem RX.made {V σ : Mem} (h : RX V σ) (r : Nat) (hr : r < 2) (j : Int) (h0 : 0 ≤ j) (h1 : j < V 0 0) : σ (20 + r) j = V (3 + r) j := (h.2.2.1 r hr j h0 h1).1
theorem RX.read {V σ : Mem} (h : RX V σ) (r : Nat) (hr : r < 2) (j : Int) (h0 : 0 ≤ j) (h1 : j < V 0 0) : σ (14 + r) j = V (5 + r) j := (h.2.2.1 r hr j h0 h1).2.1
theorem RX.str {V σ : Mem} (h : RX V σ) (r : Nat) (hr : r < 2) (j : Int) (h0 : 0 ≤ j) (h1 : j < V 0 0) : σ (17 + r) j = unb V r j := (h.2.2.1 r hr j h0 h1).2.2
theorem RX.size {V σ : Mem} (h : RX V σ) (t : Nat) (ht : t < 6) : σ 9 t = V 7 t := h.2.2.2.1 t ht
theorem RX.tab {V σ : Mem} (h : RX V σ) (t : Nat) (ht : t < 6) (d : Int) (h0 : 0 ≤ d) (h1 : d < 17) : σ (3 + t) d = V (8 + t) d := h.2.2.2.2.1 t ht d h0 h1
theorem RX.lim {V σ : Mem} (h : RX V σ) (i : Int) (h0 : 0 ≤ i) (h1 : i < 5) : σ 22 i = V 14 i := h.2.2.2.2.2.1 i h0 h1
theorem RX.many {V σ : Mem} (h : RX V σ) : σ 26 2 = V 17 0 := h.2.2.2.2.2.2.1
theorem RX.log {V σ : Mem} (h : RX V σ) (i : Int) (h0 : 0 ≤ i) (h1 : i < V 17 0) : σ 27 i = V 15 i ∧ σ 28 i = V 16 i := h.2.2.2.2.2.2.2.1 i h0 h1
theorem RX.lac {V σ : Mem} (h : RX V σ) : σ 29 0 = V 18 0 ∧ σ 29 1 = V 18 1 ∧ σ 29 2 = V 18 2 ∧ σ 29 3 = V 18 3 := h.2.2.2.2.2.2.2.2.1
theorem RX.ro {V σ : Mem} (h : RX V σ) : (∀ k, 0 ≤ k → k < 6 → σ 100 k = leanK k ∧ σ 101 k = forceK k ∧ σ 102 k = (if k = 3 then 2 else if k = 5 then 1 else 0)) ∧ (∀ k, 0 ≤ k → k < 17 → σ 103 k = sinT k) ∧ σ 200 0 = 6 ∧ σ 201 0 = 6 ∧ σ 202 0 = 6 ∧ σ 203 0 = 17 := h.2.2.2.2.2.2.2.2.2
/-- what isn't the class', what isn't the reference's, stays -/
def keepX (σ τ : Mem) : Prop := ∀ k, (30 ≤ k ∧ k ≠ 41) → τ k = σ k
def keepM (σ τ : Mem) : Prop := ∀ k, (k < 30 ∨ 41 ≤ k) → τ k = σ k
theorem RM.keep {V σ τ : Mem} (h : RM V σ) (k : keepX σ τ) : RM V τ := by
  unfold RM at *
  rw [k 30 (by decide), k 31 (by decide), k 32 (by decide), k 33 (by decide), k 34 (by decide), k 35 (by decide), k 36 (by decide), k 37 (by decide), k 38 (by decide), k 39 (by decide)]
  exact h
theorem RX.keep {V σ τ : Mem} (h : RX V σ) (k : keepM σ τ) : RX V τ := by
  unfold RX at *
  rw [k 10 (by decide), k 41 (by decide), k 11 (by decide), k 12 (by decide), k 9 (by decide), k 22 (by decide), k 26 (by decide), k 27 (by decide), k 28 (by decide), k 29 (by decide), k 100 (by decide), k 101 (by decide), k 102 (by decide), k 103 (by decide), k 200 (by decide), k 201 (by decide), k 202 (by decide), k 203 (by decide)]
  refine ⟨h.1, h.2.1, fun r hr => ?_, h.2.2.2.1, fun t ht => ?_, h.2.2.2.2.2⟩
  · rw [k (20 + r) (by omega), k (14 + r) (by omega), k (17 + r) (by omega)]
    exact h.2.2.1 r hr
  · rw [k (3 + t) (by omega)]
    exact h.2.2.2.2.1 t ht
theorem keepX.rfl {σ : Mem} : keepX σ σ := fun _ _ => Eq.refl _
theorem keepM.rfl {σ : Mem} : keepM σ σ := fun _ _ => Eq.refl _
theorem keepX.trans {a b c : Mem} (h : keepX a b) (k : keepX b c) : keepX a c := fun q hq => (k q hq).trans (h q hq)
theorem keepM.trans {a b c : Mem} (h : keepM a b) (k : keepM b c) : keepM a c := fun q hq => (k q hq).trans (h q hq)
theorem keepX.up {σ τ : Mem} {k : Nat} {j v : Int} (h : keepX σ τ) (hk : k < 30 ∨ k = 41) : keepX σ (up τ k j v) := fun q hq => by rw [up_cell (by omega)]; exact h q hq
theorem keepM.up {σ τ : Mem} {k : Nat} {j v : Int} (h : keepM σ τ) (hk : 30 ≤ k) (hk2 : k < 41) : keepM σ (up τ k j v) := fun q hq => by rw [up_cell (by omega)]; exact h q hq
