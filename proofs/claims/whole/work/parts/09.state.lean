/-! THE STATE, in my words. A state σ : numbers σ.1 field place, values σ.2 field place; what each call answers and makes of it; how the class and the reference hold it -/
abbrev Sg : Type := (Nat → Nat → Nat) × (Nat → Nat → Int32)
abbrev gMade (σ : Sg) : Nat := σ.1 0 0
abbrev gAlive (σ : Sg) : Nat := σ.1 1 0
abbrev gThere (σ : Sg) (o : Nat) : Nat := σ.1 2 o
abbrev gGlob (σ : Sg) (o : Nat) : Nat := σ.1 3 o
abbrev gSv (σ : Sg) : Nat := σ.1 4 0
abbrev gLast (σ : Sg) : Nat := σ.1 5 0
abbrev gDeep (σ : Sg) : Nat := σ.1 6 0
abbrev gNum (σ : Sg) (k : Nat) : Nat := σ.1 7 k
abbrev gFst (σ : Sg) (k : Nat) : Nat := σ.1 8 k
abbrev gRb (σ : Sg) (k : Nat) : Nat := σ.1 9 k
abbrev gSb (σ : Sg) (k : Nat) : Nat := σ.1 10 k
abbrev gRows (σ : Sg) : Nat := σ.1 11 0
abbrev gPl (σ : Sg) (r : Nat) : Nat := σ.1 12 r
abbrev gSt (σ : Sg) : Nat := σ.1 13 0
abbrev gCe (σ : Sg) (j : Nat) : Int32 := σ.2 0 j
abbrev gOc (σ : Sg) (j : Nat) : Int32 := σ.2 1 j
abbrev gPa (σ : Sg) (j : Nat) : Int32 := σ.2 2 j
abbrev gHad (σ : Sg) (j : Nat) : Int32 := σ.2 3 j
abbrev gVal (σ : Sg) (j : Nat) : Int32 := σ.2 4 j
abbrev gPu (σ : Sg) (j : Nat) : Int32 := σ.2 5 j
/-- field f becomes g -/
def sf (σ : Sg) (f : Nat) (g : Nat → Nat) : Sg := (fun f' => if f' = f then g else σ.1 f', σ.2)
def sw (σ : Sg) (f : Nat) (g : Nat → Int32) : Sg := (σ.1, fun f' => if f' = f then g else σ.2 f')
def sk (n : Nat) : Nat → Nat := fun _ => n
theorem sf_1 (σ : Sg) (f f' : Nat) (g : Nat → Nat) : (sf σ f g).1 f' = if f' = f then g else σ.1 f' := rfl
theorem sf_2 (σ : Sg) (f : Nat) (g : Nat → Nat) : (sf σ f g).2 = σ.2 := rfl
theorem sw_1 (σ : Sg) (f : Nat) (g : Nat → Int32) : (sw σ f g).1 = σ.1 := rfl
theorem sw_2 (σ : Sg) (f f' : Nat) (g : Nat → Int32) : (sw σ f g).2 f' = if f' = f then g else σ.2 f' := rfl
theorem sk_a (n j : Nat) : sk n j = n := rfl
/-- there is such an object; a value is a number or refers to one -/
def isO (σ : Sg) (k : Int32) : Bool := decide (0 ≤ k ∧ k.toNatClampNeg < gMade σ ∧ gThere σ k.toNatClampNeg = 1)
def isV (σ : Sg) (v : Int32) : Bool := decide (0 ≤ v) || isO σ (-1 - v)
def isN (n : Nat) (i : Int32) : Bool := decide (0 ≤ i ∧ i.toNatClampNeg < n)
def rfOf (v : Int32) : Nat := (-1 - v).toNatClampNeg
/-- a row for the place c among lo .. hi - 1 -/
def hasR (σ : Sg) (lo hi c : Nat) : Bool := (List.range hi).any (fun r => decide (lo ≤ r) && decide (gPl σ r = c))
theorem hasR_iff {σ : Sg} {lo hi c : Nat} : hasR σ lo hi c = true ↔ ∃ r, lo ≤ r ∧ r < hi ∧ gPl σ r = c := by
  simp only [hasR, List.any_eq_true, List.mem_range, Bool.and_eq_true, decide_eq_true_eq]
  exact ⟨fun ⟨r, h1, h2, h3⟩ => ⟨r, h2, h1, h3⟩, fun ⟨r, h1, h2, h3⟩ => ⟨r, h2, h1, h3⟩⟩
/-- the rows of save k are rbx k .. rbx (k + 1) - 1 -/
def rbx (σ : Sg) (k : Nat) : Nat := if k < gSv σ then gRb σ k else gRows σ
/-- the number of the latest save below k that has a row for c; 0: none -/
def ownr (σ : Sg) : Nat → Nat → Nat
  | 0, _ => 0
  | k + 1, c => if hasR σ (rbx σ k) (rbx σ (k + 1)) c then gNum σ k else ownr σ k c
/-- what a call does: the number of its exception (0: none), its answer, the state behind it -/
def oObject (σ : Sg) (g : Int32) : Nat × Int32 × Sg :=
  if gAlive σ = 200 then (1, 0, σ) else (0, nI (gMade σ), sf (sf (sf (sf σ 2 (va_up (σ.1 2) (gMade σ) 1)) 3 (va_up (σ.1 3) (gMade σ) (if g = 0 then 0 else 1))) 1 (sk (gAlive σ + 1))) 0 (sk (gMade σ + 1)))
def kept (σ : Sg) (o c : Nat) : Bool := decide (0 < gSv σ ∧ gGlob σ o = 0 ∧ o < gFst σ (gSv σ - 1)) && !hasR σ (gRb σ (gSv σ - 1)) (gRows σ) c
def doKeep (σ : Sg) (c : Nat) : Sg := sf (sw (sf σ 12 (va_up (σ.1 12) (gRows σ) c)) 4 (va_up (σ.2 4) (gRows σ) (gCe σ c))) 11 (sk (gRows σ + 1))
def oPut (σ : Sg) (o i v : Int32) : Nat × Int32 × Sg :=
  if isO σ o = false ∨ isV σ v = false then (1, 0, σ) else if isN 8 i = false then (2, 0, σ) else if gGlob σ o.toNatClampNeg = 1 ∧ v < 0 ∧ gGlob σ (rfOf v) = 0 then (3, 0, σ) else
  (0, gCe σ (8 * o.toNatClampNeg + i.toNatClampNeg), sw (if kept σ o.toNatClampNeg (8 * o.toNatClampNeg + i.toNatClampNeg) then doKeep σ (8 * o.toNatClampNeg + i.toNatClampNeg) else σ) 0 (va_up (σ.2 0) (8 * o.toNatClampNeg + i.toNatClampNeg) v))
def oGet (σ : Sg) (o i : Int32) : Nat × Int32 × Sg :=
  if isO σ o = false then (1, 0, σ) else if isN 8 i = false then (2, 0, σ) else (0, gCe σ (8 * o.toNatClampNeg + i.toNatClampNeg), σ)
def oSave (σ : Sg) : Nat × Int32 × Sg :=
  if gSv σ = 16 then (1, 0, σ) else (0, nI (gLast σ + 1), sf (sf (sw (sf (sf (sf (sf (sf σ 5 (sk (gLast σ + 1))) 7 (va_up (σ.1 7) (gSv σ) (gLast σ + 1))) 8 (va_up (σ.1 8) (gSv σ) (gMade σ))) 9 (va_up (σ.1 9) (gSv σ) (gRows σ))) 10 (va_up (σ.1 10) (gSv σ) (gSt σ))) 3 (va_cpy (σ.2 2) (σ.2 3) 0 (10 * gSv σ) 10)) 4 (sk (gSv σ + 1))) 6 (sk (max (gDeep σ) (gSv σ + 1))))
def isLv (σ : Sg) (n : Int32) : Bool := (List.range (gSv σ)).any (fun k => decide (nI (gNum σ k) = n))
def isNw (σ : Sg) (v : Int32) (f : Nat) : Bool := decide (v < 0 ∧ f ≤ rfOf v ∧ gGlob σ (rfOf v) = 0)
/-- the cells behind a restore of the rows lo .. hi - 1 -/
def undo (σ : Sg) (lo : Nat) : Nat → Nat → Int32
  | 0 => σ.2 0
  | n + 1 => va_up (undo σ lo n) (gPl σ (lo + n)) (gVal σ (lo + n))
def goneC (σ : Sg) (f : Nat) : Nat → Nat
  | 0 => 0
  | n + 1 => goneC σ f n + (if gThere σ (f + n) = 1 ∧ gGlob σ (f + n) = 0 then 1 else 0)
def doRestore (σ : Sg) (k : Nat) : Sg :=
  sf (sw (sf (sf (sf (sf (sw σ 0 (undo σ (gRb σ k) (gRows σ - gRb σ k))) 11 (sk (gRb σ k))) 13 (sk (gSb σ k))) 2 (fun o => if gFst σ k ≤ o ∧ o < gMade σ ∧ gGlob σ o = 0 then 0 else gThere σ o)) 1 (sk (gAlive σ - goneC σ (gFst σ k) (gMade σ - gFst σ k)))) 2 (va_cpy (σ.2 3) (σ.2 2) (10 * k) 0 8)) 4 (sk k)
def oRestore (σ : Sg) (n : Int32) : Int32 × Sg :=
  if n < 1 ∨ nI (gLast σ) < n then (-1, σ) else if isLv σ n = false then (-2, σ) else if nI (gNum σ (gSv σ - 1)) ≠ n then (-3, σ) else if isNw σ (gPa σ 8) (gFst σ (gSv σ - 1)) = true ∨ isNw σ (gPa σ 9) (gFst σ (gSv σ - 1)) = true then (-4, σ) else (1, doRestore σ (gSv σ - 1))
def oState (σ : Sg) (w v : Int32) : Nat × Int32 × Sg :=
  if isV σ v = false then (1, 0, σ) else if isN 10 w = false then (2, 0, σ) else (0, gPa σ w.toNatClampNeg, sw σ 2 (va_up (σ.2 2) w.toNatClampNeg v))
def oStateOf (σ : Sg) (w : Int32) : Nat × Int32 × Sg := if isN 10 w = false then (1, 0, σ) else (0, gPa σ w.toNatClampNeg, σ)
def ownS (σ : Sg) : Nat := if gSv σ = 0 then gSt σ else gSt σ - gSb σ (gSv σ - 1)
def oPush (σ : Sg) : Nat × Int32 × Sg :=
  if gSt σ = 30 then (1, 0, σ) else (0, nI (ownS σ + 1), sf (sw σ 5 (va_cpy (σ.2 2) (σ.2 5) 0 (8 * gSt σ) 8)) 13 (sk (gSt σ + 1)))
def oPop (σ : Sg) : Int32 × Sg :=
  if ownS σ = 0 then (-1, σ) else (nI (ownS σ - 1), sw (sf σ 13 (sk (gSt σ - 1))) 2 (va_cpy (σ.2 5) (σ.2 2) (8 * (gSt σ - 1)) 0 8))
def oBytes (σ : Sg) (o i v : Int32) : Nat × Int32 × Sg :=
  if isO σ o = false then (1, 0, σ) else if isN 8 i = false ∨ v < -1 ∨ 255 < v then (2, 0, σ) else
  (0, gOc σ (8 * o.toNatClampNeg + i.toNatClampNeg), sw σ 1 (va_up (σ.2 1) (8 * o.toNatClampNeg + i.toNatClampNeg) (if 0 ≤ v then v else gOc σ (8 * o.toNatClampNeg + i.toNatClampNeg))))
def oUsed (σ : Sg) : Int32 := nI (12 * gAlive σ + 3 * gRows σ + 6 * gSv σ + 10 * gSt σ)
def newS (σ : Sg) (o : Nat) : Nat → Nat
  | 0 => 0
  | k + 1 => newS σ o k + (if gFst σ k ≤ o then 1 else 0)
def oOld (σ : Sg) (o : Int32) : Nat × Int32 × Sg := if isO σ o = false then (1, 0, σ) else (0, nI (newS σ o.toNatClampNeg (gSv σ)), σ)
/-- what holds of σ behind at most B calls -/
def Inv (B : Nat) (σ : Sg) : Prop :=
  (gMade σ ≤ B ∧ gRows σ ≤ B ∧ gLast σ ≤ B ∧ gAlive σ ≤ 200 ∧ gSv σ ≤ 16 ∧ gSt σ ≤ 30 ∧ gSv σ ≤ gDeep σ ∧ gDeep σ ≤ 16) ∧
  ((∀ o, gThere σ o ≤ 1) ∧ (∀ o, gGlob σ o ≤ 1) ∧ (∀ o, gThere σ o = 1 → o < gMade σ) ∧ (∀ j, 8 * gMade σ ≤ j → gCe σ j = 0 ∧ gOc σ j = 0)) ∧
  ((∀ k, k < gSv σ → 1 ≤ gNum σ k ∧ gNum σ k ≤ gLast σ) ∧ (∀ j k, j < k → k < gSv σ → gNum σ j < gNum σ k) ∧ (∀ k, k < gSv σ → gFst σ k ≤ gMade σ) ∧ (∀ j k, j ≤ k → k < gSv σ → gFst σ j ≤ gFst σ k)) ∧
  ((∀ k, k < gSv σ → gRb σ k ≤ gRows σ) ∧ (∀ j k, j ≤ k → k < gSv σ → gRb σ j ≤ gRb σ k) ∧ (∀ k, k < gSv σ → gSb σ k ≤ gSt σ) ∧ (∀ j k, j ≤ k → k < gSv σ → gSb σ j ≤ gSb σ k) ∧ (gSv σ = 0 → gRows σ = 0) ∧ (0 < gSv σ → gRb σ 0 = 0)) ∧
  ((isV σ (gPa σ 8) = true ∧ isV σ (gPa σ 9) = true) ∧ ∀ k r r', k < gSv σ → rbx σ k ≤ r → r < r' → r' < rbx σ (k + 1) → gPl σ r ≠ gPl σ r') ∧
  (∀ k r, k < gSv σ → rbx σ k ≤ r → r < rbx σ (k + 1) → gPl σ r / 8 < gFst σ k ∧ gThere σ (gPl σ r / 8) = 1 ∧ gGlob σ (gPl σ r / 8) = 0)
/-- an int array of N places that holds g; of booleans -/
def arI (ct : Nat → ClassId) (M : Mem) (a N : Nat) (g : Nat → Int32) : Prop := ∃ f, M a = some (.inl (ct 0, N, .inl f)) ∧ ∀ j, j < N → f j = g j
def arZ (ct : Nat → ClassId) (M : Mem) (a N : Nat) (g : Nat → Int32) : Prop := ∃ f, M a = some (.inl (ct 1, N, .inl f)) ∧ ∀ j, j < N → f j = g j
def nF (g : Nat → Nat) : Nat → Int32 := fun j => nI (g j)
/-- the class's own cell -/
abbrev xE (A : Nat → Nat → Nat) (σ : Sg) : va_E := .inr (3, [.ref (A 1 0), .int (nI (gAlive σ)), .int (nI (gMade σ)), .ref (A 2 0), .int (nI (gSv σ)), .int (nI (gLast σ)), .int (nI (gDeep σ)), .ref (A 3 0), .ref (A 4 0), .int (nI (gSt σ))])
abbrev tE (A : Nat → Nat → Nat) (σ : Sg) (o : Nat) : va_E := .inr (2, [.int (nI o), .int (nI (gGlob σ o)), .ref (A 9 o), .ref (A 10 o), .ref (A 11 o)])
/-- the objects that are there, in order -/
def RepO (ob : Nat → Nat) (σ : Sg) : Prop := (∀ j, j < gAlive σ → ob j < gMade σ ∧ gThere σ (ob j) = 1) ∧ (∀ i j, i < j → j < gAlive σ → ob i < ob j) ∧ (∀ o, o < gMade σ → gThere σ o = 1 → ∃ j, j < gAlive σ ∧ ob j = o)
/-- the class's arrays -/
def RepA (ct : Nat → ClassId) (A : Nat → Nat → Nat) (ob : Nat → Nat) (σ : Sg) (M : Mem) : Prop :=
  (∃ tf, M (A 1 0) = some (.inl (ct 4, 200, .inr (.inr (.inr (.inr tf))))) ∧ ∀ j, j < gAlive σ → tf j = some (A 8 (ob j))) ∧
  (∃ sf, M (A 2 0) = some (.inl (ct 3, 16, .inr (.inr (.inr (.inr sf))))) ∧ ∀ k, k < 16 → sf k = some (A 6 k)) ∧
  arI ct M (A 3 0) 10 (σ.2 2) ∧
  (∃ uf, M (A 4 0) = some (.inl (ct 5, 30, .inr (.inr (.inr (.inr uf))))) ∧ ∀ k, k < 30 → uf k = some (A 5 k)) ∧
  (∀ k, k < 30 → ∃ f, M (A 5 k) = some (.inl (ct 0, 8, .inl f)) ∧ (k < gSt σ → ∀ j, j < 8 → f j = gPu σ (8 * k + j)))
/-- an object -/
def RepT (ct : Nat → ClassId) (A : Nat → Nat → Nat) (σ : Sg) (M : Mem) (o : Nat) : Prop :=
  M (A 8 o) = some (tE A σ o) ∧ arI ct M (A 9 o) 8 (fun i => gCe σ (8 * o + i)) ∧ arI ct M (A 10 o) 8 (fun i => gOc σ (8 * o + i)) ∧ arI ct M (A 11 o) 8 (fun i => nI (ownr σ (gSv σ) (8 * o + i)))
abbrev sE (A : Nat → Nat → Nat) (σ : Sg) (k : Nat) (n f p : Int32) (rows : Option Nat) (rc : Int32) : va_E := .inr (1, [.int n, .int f, .int p, .ref (A 7 k), va_rf rows, .int rc])
def rowOf (A : Nat → Nat → Nat) (lo hi : Nat) : Option Nat := if lo < hi then some (A 12 (hi - 1)) else none
/-- a save -/
def RepS (ct : Nat → ClassId) (A : Nat → Nat → Nat) (σ : Sg) (M : Mem) (k : Nat) : Prop :=
  (k < gSv σ → M (A 6 k) = some (sE A σ k (nI (gNum σ k)) (nI (gFst σ k)) (nI (gSb σ k)) (rowOf A (rbx σ k) (rbx σ (k + 1))) (nI (rbx σ (k + 1) - rbx σ k))) ∧ arI ct M (A 7 k) 8 (fun j => gHad σ (10 * k + j))) ∧
  (gSv σ ≤ k → ∃ n f p g, M (A 6 k) = some (sE A σ k n f p none 0) ∧ M (A 7 k) = some (.inl (ct 0, 8, .inl g)))
/-- a row -/
def RepR (A : Nat → Nat → Nat) (σ : Sg) (M : Mem) (k r : Nat) : Prop :=
  M (A 12 r) = some (.inr (0, [.ref (A 8 (gPl σ r / 8)), .int (nI (gPl σ r % 8)), .int (gVal σ r), .int (nI (ownr σ k (gPl σ r))), va_rf (rowOf A (rbx σ k) r)]))
/-- whose cell an address is -/
def RepG (A : Nat → Nat → Nat) (G : Nat → Nat) (σ : Sg) (x : Nat) : Prop :=
  G x = 13 ∧ (∀ k, 1 ≤ k → k < 5 → G (A k 0) = k) ∧ (∀ k, k < 30 → G (A 5 k) = 16 * k + 5) ∧ (∀ k, k < 16 → G (A 6 k) = 16 * k + 6 ∧ G (A 7 k) = 16 * k + 7) ∧
  (∀ o, gThere σ o = 1 → G (A 8 o) = 16 * o + 8 ∧ G (A 9 o) = 16 * o + 9 ∧ G (A 10 o) = 16 * o + 10 ∧ G (A 11 o) = 16 * o + 11) ∧ (∀ r, r < gRows σ → G (A 12 r) = 16 * r + 12)
/-- THE CLASS at x holds σ -/
def RepC (ct : Nat → ClassId) (A : Nat → Nat → Nat) (G ob : Nat → Nat) (σ : Sg) (M : Mem) (x : Nat) : Prop :=
  M x = some (xE A σ) ∧ RepG A G σ x ∧ RepO ob σ ∧ RepA ct A ob σ M ∧ (∀ o, gThere σ o = 1 → RepT ct A σ M o) ∧ (∀ k, k < 16 → RepS ct A σ M k) ∧ (∀ k r, k < gSv σ → rbx σ k ≤ r → r < rbx σ (k + 1) → RepR A σ M k r)
