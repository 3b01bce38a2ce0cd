def ρl : List Nat := [109, 0, 1, 8, 2, 9, 3, 10, 4, 11, 5, 12, 6, 13, 7, 14, 93, 75, 76, 80, 77, 81, 78, 82, 79, 83, 94, 98, 95, 99, 96, 100, 97, 101, 84, 85, 89, 86, 90, 87, 91, 88, 92, 107, 108, 15, 16, 23, 17, 24, 18, 25, 19, 26, 20, 27, 21, 28, 22, 29, 30, 31, 38, 32, 39, 33, 40, 34, 41, 35, 42, 36, 43, 37, 44, 45, 46, 53, 47, 54, 48, 55, 49, 56, 50, 57, 51, 58, 52, 59, 60, 61, 68, 62, 69, 63, 70, 64, 71, 65, 72, 66, 73, 67, 74, 102, 103, 105, 104, 106]
theorem ρ_ok : ∀ i, i < 110 → ρl.getD (πl.getD i 0) 0 = i := by decide +kernel
section W1
variable {G : G3} {a u : Nat → Nat} {A : Nat → Prop} {H : Heap}
theorem W_C (h : va_P G.1 vwCl (WX6 G a) H) : va_P G.1 vwCl (wO (ggC G a u) ΛC V0) H := fun k q hk => by
  have hl : k < 110 := by have := (wO_fst hk).1; rw [ΛC_len] at this; exact this
  rw [pw_all k hl] at hk
  exact h _ q hk
theorem wO_some (g : GG) (Λ : List LE) (μ : Mm) {k : Nat} (h : k < Λ.length) : ∃ e, (wO g Λ μ)[k]? = some (g.1 k, e) := by
  obtain ⟨e, he⟩ : ∃ e, Λ[k]? = some e := ⟨_, List.getElem?_eq_getElem h⟩
  exact ⟨_, wO_at he μ⟩
theorem C_at {k : Nat} (u : Nat → Nat) (h : k < 110) : ∃ e, (WX6 G a)[πl.getD k 0]? = some (adC a u k, e) := by
  obtain ⟨e, he⟩ := wO_some (ggC G a u) ΛC V0 (k := k) (by rw [ΛC_len]; exact h)
  exact ⟨e, (pw_all k h).symm.trans he⟩
theorem AD_C (h : va_D A (WX6 G a)) : AD (ggC G a u) ΛC A := by
  refine ⟨fun i j hi hj hij => ?_, fun i hi => ?_⟩
  · rw [ΛC_len] at hi hj
    obtain ⟨e1, h1⟩ := C_at (G := G) (a := a) u hi
    obtain ⟨e2, h2⟩ := C_at (G := G) (a := a) u hj
    have := h.1 _ _ _ _ h1 h2 hij
    rw [← ρ_ok i hi, ← ρ_ok j hj, this]
  · rw [ΛC_len] at hi
    obtain ⟨e1, h1⟩ := C_at (G := G) (a := a) u hi
    exact h.2 _ _ h1
end W1
theorem adC_hi {a u : Nat → Nat} (k : Nat) (h : 1000 ≤ k) : adC a u k = u k := by
  unfold adC
  have e : Nat.blt k 1000 = false := by
    cases e : Nat.blt k 1000 with
    | false => rfl
    | true => exact absurd (Nat.le_of_ble_eq_true e) (by omega)
  rw [e]
  rfl
