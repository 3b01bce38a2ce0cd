theorem ptC_out {A : Nat} {t : Int32} {base p q : Nat} (h : p ≠ A) : ∀ (n : Nat) (z : Int32 × Mm), (ptC A t base n z).2 p q = z.2 p q
  | 0, _ => rfl
  | n + 1, z => by
    show uM (ptC A t base n z).2 A (base + n) t p q = _
    rw [uM_n (by omega)]
    exact ptC_out h n z
theorem ptR_out {A : Nat} {t : Int32} {c a w b p q : Nat} (h : p ≠ A) : ∀ (n : Nat) (z : Int32 × Mm), (ptR A t c a w b n z).2 p q = z.2 p q
  | 0, _ => rfl
  | n + 1, z => by
    show (ptC A t ((b + n) * c + a) w (ptR A t c a w b n z)).2 p q = _
    rw [ptC_out h]
    exact ptR_out h n z
theorem ix_lt {y c x : Nat} (hy : y < 16) (hx : x < c) (hc : c ≤ 24) : y * c + x < 384 := by
  have h1 : y * c ≤ 15 * c := Nat.mul_le_mul_right c (by omega)
  omega
theorem ix_lt2 {y c r x : Nat} (hy : y < r) (hx : x < c) : y * c + x < c * r := by
  have h1 : (y + 1) * c ≤ r * c := Nat.mul_le_mul_right c (by omega)
  rw [Nat.succ_mul] at h1
  rw [Nat.mul_comm c r]
  omega
theorem ptIx {m : Mm} {s c y x : Nat} {v : Int32} (hv : v = nI c) : nI y * v + nI x = nI (y * c + x) := by
  rw [hv, pk_mul, nI_add]
theorem sS (s o : Nat) (hs : isS s) (ho : isS o) (h : s ≠ o) : s + 15 ≤ o ∨ o + 15 ≤ s := by
  unfold isS at hs ho; omega
