section W0b
variable {G : G3} {a u : Nat → Nat}
theorem mi_M (f : Nat → FE → Value) : fsM.mapIdx f = [f 0 (.inr 1), f 1 (.inr 2), f 2 (.inr 3), f 3 (.inl 0), f 4 (.inr 4), f 5 (.inl 0), f 6 (.inl 0), f 7 (.inl 0), f 8 (.inl 0), f 9 (.inr 5), f 10 (.inr 6), f 11 (.inl 0), f 12 (.inl 0), f 13 (.inl 0), f 14 (.inl 0), f 15 (.inl 0), f 16 (.inl 0), f 17 (.inl 0), f 18 (.inr 7), f 19 (.inl 0), f 20 (.inl 0), f 21 (.inr 8), f 22 (.inl 1)] := by
  simp only [fsM, List.mapIdx_cons, List.mapIdx_nil, Nat.zero_add, Nat.reduceAdd]
theorem pz_0 : (wO (ggM G a u) ΛM μ0)[0]? = (WX7 G a)[0]? := by
  rw [wO_at (k := 0) (e := .inl (7, fsM)) rfl μ0]
  show some (a 0, Sum.inr (7, fsM.mapIdx (fun f e => fv (adM a u) μ0 0 f e))) = _
  rw [mi_M]
  show some ((a 0, Sum.inr (7, [.ref (a 1), .ref (a 2), .ref (a 3), .int (fM0 3), .ref (a 4), .int (fM0 5), .int (fM0 6), .int (fM0 7), .int (fM0 8), .ref (a 5), .ref (a 6), .int (fM0 11), .int (fM0 12), .int (fM0 13), .int (fM0 14), .int (fM0 15), .int (fM0 16), .int (fM0 17), .ref (a 7), .int (fM0 19), .int (fM0 20), .ref (a 8), .long (jL (μ0 0 22) (μ0 0 (22 + 1000)))])) : Nat × va_E) = _
  rw [show jL (μ0 0 22) (μ0 0 (22 + 1000)) = 0 from by decide +kernel]
  rfl
theorem pz_1 : (wO (ggM G a u) ΛM μ0)[1]? = (WX7 G a)[1]? := (wO_at (k := 1) rfl μ0).trans rfl
theorem pz_2 : (wO (ggM G a u) ΛM μ0)[2]? = (WX7 G a)[2]? := (wO_at (k := 2) rfl μ0).trans rfl
theorem pz_3 : (wO (ggM G a u) ΛM μ0)[3]? = (WX7 G a)[3]? := (wO_at (k := 3) rfl μ0).trans rfl
theorem pz_4 : (wO (ggM G a u) ΛM μ0)[4]? = (WX7 G a)[4]? := (wO_at (k := 4) rfl μ0).trans rfl
theorem pz_5 : (wO (ggM G a u) ΛM μ0)[5]? = (WX7 G a)[5]? := (wO_at (k := 5) rfl μ0).trans rfl
theorem pz_6 : (wO (ggM G a u) ΛM μ0)[6]? = (WX7 G a)[6]? := (wO_at (k := 6) rfl μ0).trans rfl
theorem pz_7 : (wO (ggM G a u) ΛM μ0)[7]? = (WX7 G a)[7]? := (wO_at (k := 7) rfl μ0).trans rfl
theorem pz_8 : (wO (ggM G a u) ΛM μ0)[8]? = (WX7 G a)[8]? := (wO_at (k := 8) rfl μ0).trans rfl
theorem pz_all : ∀ k, k < 9 → (wO (ggM G a u) ΛM μ0)[k]? = (WX7 G a)[k]? := fun k h => match k, h with
  | 0, _ => pz_0
  | 1, _ => pz_1
  | 2, _ => pz_2
  | 3, _ => pz_3
  | 4, _ => pz_4
  | 5, _ => pz_5
  | 6, _ => pz_6
  | 7, _ => pz_7
  | 8, _ => pz_8
  | _ + 9, h => absurd h (by omega)
end W0b
