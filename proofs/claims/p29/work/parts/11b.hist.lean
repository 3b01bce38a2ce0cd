theorem isS_sl {la : Nat} (h : la < 4) : isS (15 * (la + 1)) := by unfold isS; omega
theorem slot_at {la : Nat} (h : la < 4) : ([15, 30, 45, 60] : List Nat)[(nI la).toNatClampNeg]? = some (15 * (la + 1)) := by
  rw [nI_clamp (by omega)]
  rcases (show la = 0 ∨ la = 1 ∨ la = 2 ∨ la = 3 by omega) with rfl | rfl | rfl | rfl <;> rfl
theorem nI_4 (i : Nat) : nI i + 4 = nI (i + 4) := by
  show nI i + nI 4 = _
  rw [nI_add]
theorem cpB_out {μ : Mm} {s o p q : Nat} (hs : isS s) (ho : isS o) (hp : p < s ∨ s + 15 ≤ p) : ∀ j, j ≤ 7 → cpB μ s o j p q = μ p q
  | 0, _ => by
    show cpA μ s o p q = _
    unfold cpA
    rw [uM_n (by omega), uM_n (by omega), uM_n (by omega), uM_n (by omega), uM_n (by omega), uM_n (by omega)]
  | j + 1, h => by
    show setRow (cpB μ s o j) (s + 8 + j) _ _ p q = _
    rw [setRow_out (by omega)]
    exact cpB_out hs ho hp j (by omega)
theorem cpS_out {μ : Mm} {s o p q : Nat} (hs : isS s) (ho : isS o) (hp : p < s ∨ s + 15 ≤ p) : cpS μ s o p q = μ p q := by
  unfold cpS
  rw [uM_n (by omega)]
  exact cpB_out hs ho hp 7 (by decide)
def saveM (μ : Mm) (la cn : Nat) : Mm := uM (cpS (uM μ 107 1 (nI ((la + 1) % 4))) (15 * ((la + 1) % 4 + 1)) 0) 107 2 (if 4 < nI cn + 1 then 4 else nI cn + 1)
def restM (μ : Mm) (la cn : Nat) : Mm := uM (uM (cpS μ 0 (15 * (la + 1))) 107 1 (nI ((la + 3) % 4))) 107 2 (nI cn)
theorem m384 (k j : Nat) : (384 : Int32) * nI k + nI j = nI (384 * k + j) := by
  show nI 384 * nI k + nI j = _
  rw [pk_mul, nI_add]
def ushI (x k : Int32) : Int32 := (x.toUInt32 >>> (k.toUInt32 &&& Int32.toUInt32 31)).toInt32
def bc1 (x : Int32) : Int32 := x - (ushI x 1 &&& 1431655765)
def bc2 (x : Int32) : Int32 := (x &&& 858993459) + (ushI x 2 &&& 858993459)
def bc3 (x : Int32) : Int32 := (x + ushI x 4) &&& 252645135
def bc4 (x : Int32) : Int32 := x + ushI x 8
def bc5 (x : Int32) : Int32 := x + ushI x 16
def bcI (x : Int32) : Int32 := bc5 (bc4 (bc3 (bc2 (bc1 x)))) &&& 63
def sevB (x : Int32) : Int32 := if bcI x < 2 then 0 else 1
