def ρl : List Nat := [109, 0, 1, 8, 2, 9, 3, 10, 4, 11, 5, 12, 6, 13, 7, 14, 93, 75, 76, 80, 77, 81, 78, 82, 79, 83, 94, 98, 95, 99, 96, 100, 97, 101, 84, 85, 89, 86, 90, 87, 91, 88, 92, 107, 108, 15, 16, 23, 17, 24, 18, 25, 19, 26, 20, 27, 21, 28, 22, 29, 30, 31, 38, 32, 39, 33, 40, 34, 41, 35, 42, 36, 43, 37, 44, 45, 46, 53, 47, 54, 48, 55, 49, 56, 50, 57, 51, 58, 52, 59, 60, 61, 68, 62, 69, 63, 70, 64, 71, 65, 72, 66, 73, 67, 74, 102, 103, 105, 104, 106]
theorem ρ_ok : ∀ i, i < 110 → ρl.getD (πl.getD i 0) 0 = i := by decide +kernel
section W1
variable {G : G3} {a u : Nat → Nat} {A : Nat → Prop} {H : Heap}
theorem W_C (h : va_P G.1 vwCl (WX6 G a) H) : va_P G.1 vwCl (wO (ggC G a u) ΛC V0) H := fun k q hk => by
  have hl : k < 110 := by have := (wO_fst hk).1; rw [ΛC_len] at this; exact this
  rw [pw_all k hl] at hk
  exact h _ q hk
theorem W_M (h : va_P G.1 vwCl (WX7 G a) H) : va_P G.1 vwCl (wO (ggM G a u) ΛM μ0) H := fun k q hk => by
  have hl : k < 9 := (wO_fst hk).1
  rw [pz_all k hl] at hk
  exact h _ q hk
theorem wO_some (g : GG) (Λ : List LE) (μ : Mm) {k : Nat} (h : k < Λ.length) : ∃ e, (wO g Λ μ)[k]? = some (g.1 k, e) := by
  obtain ⟨e, he⟩ : ∃ e, Λ[k]? = some e := ⟨_, List.getElem?_eq_getElem h⟩
  exact ⟨_, wO_at he μ⟩
theorem C_at {k : Nat} (u : Nat → Nat) (h : k < 110) : ∃ e, (WX6 G a)[πl.getD k 0]? = some (adC a u k, e) := by
  obtain ⟨e, he⟩ := wO_some (ggC G a u) ΛC V0 (k := k) (by rw [ΛC_len]; exact h)
  exact ⟨e, (pw_all k h).symm.trans he⟩
theorem M_at {k : Nat} (u : Nat → Nat) (h : k < 9) : ∃ e, (WX7 G a)[k]? = some (adM a u k, e) := by
  obtain ⟨e, he⟩ := wO_some (ggM G a u) ΛM μ0 (k := k) h
  exact ⟨e, (pz_all k h).symm.trans he⟩
theorem AD_C (h : va_D A (WX6 G a)) : AD (ggC G a u) ΛC A := by
  refine ⟨fun i j hi hj hij => ?_, fun i hi => ?_⟩
  · rw [ΛC_len] at hi hj
    obtain ⟨e1, h1⟩ := C_at (G := G) (a := a) u hi
    obtain ⟨e2, h2⟩ := C_at (G := G) (a := a) u hj
    have := h.1 _ _ _ _ h1 h2 hij
    rw [← ρ_ok i hi, ← ρ_ok j hj, this]
  · rw [ΛC_len] at hi
    obtain ⟨e1, h1⟩ := C_at (G := G) (a := a) u hi
    exact h.2 _ _ h1
theorem AD_M (h : va_D A (WX7 G a)) : AD (ggM G a u) ΛM A := by
  refine ⟨fun i j hi hj hij => ?_, fun i hi => ?_⟩
  · obtain ⟨e1, h1⟩ := M_at (G := G) (a := a) u (k := i) hi
    obtain ⟨e2, h2⟩ := M_at (G := G) (a := a) u (k := j) hj
    exact h.1 _ _ _ _ h1 h2 hij
  · obtain ⟨e1, h1⟩ := M_at (G := G) (a := a) u (k := i) hi
    exact h.2 _ _ h1
theorem WX6_len : (WX6 G a).length = 110 := rfl
theorem WX7_len : (WX7 G a).length = 9 := rfl
/-- the two worlds and the row of one long, as the start makes them -/
theorem DL_00 {a6 a7 : Nat → Nat} {q : Nat} {cj : ClassId} {b L : Nat} {xs : Nat → Int32} (h : va_D A ((WX6 G a6 ++ WX7 G a7) ++ [(q, outE cj (fun _ => 0))])) : DL (ggC G a6 u, ggM G a7 u, q, cj, b, L, xs) A := by
  have hx : ∀ k, k < 110 → ((WX6 G a6 ++ WX7 G a7) ++ [(q, outE cj (fun _ => 0))])[k]? = (WX6 G a6)[k]? := fun k hk => by
    rw [List.append_assoc, List.getElem?_append_left (by rw [WX6_len]; exact hk)]
  have hy : ∀ k, k < 9 → ((WX6 G a6 ++ WX7 G a7) ++ [(q, outE cj (fun _ => 0))])[110 + k]? = (WX7 G a7)[k]? := fun k hk => by
    rw [List.append_assoc, List.getElem?_append_right (by rw [WX6_len]; omega), WX6_len, show 110 + k - 110 = k by omega, List.getElem?_append_left (by rw [WX7_len]; exact hk)]
  have hz : ((WX6 G a6 ++ WX7 G a7) ++ [(q, outE cj (fun _ => 0))])[119]? = some (q, outE cj (fun _ => 0)) := by
    rw [List.getElem?_append_right (by rw [List.length_append, WX6_len, WX7_len]; omega), List.length_append, WX6_len, WX7_len]
    rfl
  have hk6 : ∀ {k : Nat} {x : Nat × va_E}, (WX6 G a6)[k]? = some x → k < 110 := fun {k x} hk => by
    obtain ⟨e, -⟩ := List.getElem?_eq_some_iff.mp hk; rw [WX6_len] at e; exact e
  have hk7 : ∀ {k : Nat} {x : Nat × va_E}, (WX7 G a7)[k]? = some x → k < 9 := fun {k x} hk => by
    obtain ⟨e, -⟩ := List.getElem?_eq_some_iff.mp hk; rw [WX7_len] at e; exact e
  have h6 : va_D A (WX6 G a6) := ⟨fun i j x y hi hj => h.1 i j x y ((hx i (hk6 hi)).trans hi) ((hx j (hk6 hj)).trans hj), fun i x hi => h.2 i x ((hx i (hk6 hi)).trans hi)⟩
  have h7 : va_D A (WX7 G a7) := ⟨fun i j x y hi hj hxy => by have := h.1 (110 + i) (110 + j) x y ((hy i (hk7 hi)).trans hi) ((hy j (hk7 hj)).trans hj) hxy; omega, fun i x hi => h.2 (110 + i) x ((hy i (hk7 hi)).trans hi)⟩
  refine ⟨AD_C h6, AD_M h7, h.2 119 _ hz, fun i j hi hj hij => ?_, fun i hi hij => ?_, fun j hj hij => ?_, rfl⟩
  · rw [ΛC_len] at hi
    obtain ⟨e1, h1⟩ := C_at (G := G) (a := a6) u hi
    obtain ⟨e2, h2⟩ := M_at (G := G) (a := a7) u (k := j) hj
    have := h.1 _ (110 + j) _ _ ((hx _ (hk6 h1)).trans h1) ((hy _ (hk7 h2)).trans h2) hij
    have := hk6 h1
    omega
  · rw [ΛC_len] at hi
    obtain ⟨e1, h1⟩ := C_at (G := G) (a := a6) u hi
    have := h.1 _ 119 _ _ ((hx _ (hk6 h1)).trans h1) hz hij
    have := hk6 h1
    omega
  · obtain ⟨e2, h2⟩ := M_at (G := G) (a := a7) u (k := j) hj
    have := h.1 (110 + j) 119 _ _ ((hy _ (hk7 h2)).trans h2) hz hij
    have := hk7 h2
    omega
theorem WPL_00 {a6 a7 : Nat → Nat} {q : Nat} {cj : ClassId} {b L : Nat} {xs : Nat → Int32} (h : va_P G.1 vwCl ((WX6 G a6 ++ WX7 G a7) ++ [(q, outE cj (fun _ => 0))]) H) : WPL (ggC G a6 u, ggM G a7 u, q, cj, b, L, xs) (V0, μ0, fun _ => 0) H := by
  obtain ⟨h1, h3⟩ := P_app.mp h
  obtain ⟨h1, h2⟩ := P_app.mp h1
  exact WPL_3.mpr ⟨W_C h1, W_M h2, h3⟩
end W1
