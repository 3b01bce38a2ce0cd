/-! the worlds at the start -/
def fS0 : Nat → Int32 := fun q => bif Nat.beq q 0 then 12 else bif Nat.beq q 1 then 8 else bif Nat.beq q 6 then 1 else 0
def fC0 : Nat → Int32 := fun q => bif Nat.beq q 4 then -1000 else 0
def V0 : Mm := fun p => bif (Nat.beq p 0 || (Nat.beq p 15 || (Nat.beq p 30 || (Nat.beq p 45 || Nat.beq p 60)))) then fS0 else bif Nat.beq p 102 then fC0 else fun _ => 0
def fM0 : Nat → Int32 := fun q => bif Nat.beq q 8 then -1000 else 0
def μ0 : Mm := fun p => bif Nat.beq p 0 then fM0 else bif Nat.beq p 1 then upd (upd (fun _ => 0) 0 (12)) 1 (8) else fun _ => 0
def πl : List Nat := [1, 2, 4, 6, 8, 10, 12, 14, 3, 5, 7, 9, 11, 13, 15, 45, 46, 48, 50, 52, 54, 56, 58, 47, 49, 51, 53, 55, 57, 59, 60, 61, 63, 65, 67, 69, 71, 73, 62, 64, 66, 68, 70, 72, 74, 75, 76, 78, 80, 82, 84, 86, 88, 77, 79, 81, 83, 85, 87, 89, 90, 91, 93, 95, 97, 99, 101, 103, 92, 94, 96, 98, 100, 102, 104, 17, 18, 20, 22, 24, 19, 21, 23, 25, 34, 35, 37, 39, 41, 36, 38, 40, 42, 16, 26, 28, 30, 32, 27, 29, 31, 33, 105, 106, 108, 107, 109, 43, 44, 0]
def adC (a : Nat → Nat) (u : Nat → Nat) : Nat → Nat := fun k => bif Nat.blt k 1000 then a (πl.getD k 0) else u k
def adM (a : Nat → Nat) (u : Nat → Nat) : Nat → Nat := fun k => bif Nat.blt k 1000 then a k else u k
theorem μ0_z (q : Nat) (h : 2 ≤ q) : μ0 1 q = 0 := by
  show upd (upd (fun _ => 0) 0 12) 1 8 q = 0
  simp only [upd]
  rw [if_neg (by omega), if_neg (by omega)]
theorem aL_2 (k w : Nat) : 2 ≤ aL k w := by unfold aL; omega
theorem rg_0 {a b : Int32} (ha : a ≤ 0) (hb : 0 ≤ b) : rgI 0 a b := ⟨ha, hb⟩
theorem REP00 : REP 0 V0 (μ0 1) 12 8 0 := by
  refine ⟨by decide, ⟨⟨?_, ?_⟩, fun j hj => ?_, fun k hk => ?_⟩, fun k hk => ?_, fun k i hk hi => ?_, fun x y hx hy => ?_⟩
  · rw [μ0_z _ (by decide)]; exact rg_0 (by decide) (by decide)
  · rw [μ0_z _ (by decide)]; exact rg_0 (by decide) (by decide)
  · rw [μ0_z _ (by omega)]; exact rg_0 (by decide) (by decide)
  · rw [μ0_z _ (aL_2 k 8), μ0_z _ (aL_2 k 9), μ0_z _ (aL_2 k 10), μ0_z _ (aL_2 k 11)]
    refine ⟨rg_0 (by decide) (by decide), rg_0 (by decide) (by decide), rg_0 (by decide) (by decide), Or.inl rfl, fun i hi => ?_⟩
    rw [μ0_z _ (aL_2 k i)]; exact rg_0 (by decide) (by decide)
  · rw [μ0_z _ (aL_2 k 8), μ0_z _ (aL_2 k 9), μ0_z _ (aL_2 k 10), μ0_z _ (aL_2 k 11)]
    exact ⟨rfl, rfl, rfl, rfl⟩
  · rw [μ0_z _ (aL_2 k i), μ0_z _ (aL_2 k (4 + i))]
    exact ⟨rfl, rfl⟩
  · rw [μ0_z _ (by omega)]; rfl
theorem bt00 (i : Nat) : bt V0 i = 0 := by unfold bt; split <;> rfl
theorem REL00 : REL V0 μ0 := by
  refine ⟨12, 8, 0, 0, 0, 0, ⟨by decide, by decide, by decide, by decide, by decide, by decide, fun h => absurd h (by decide)⟩, ⟨REP00, by decide, by decide, by decide, by decide⟩, by decide, ⟨by decide, by decide, fun i _ => bt00 i⟩, ⟨by decide, by decide, fun i h => absurd h (by omega), fun i _ => bt00 i⟩, fun j h => absurd h (by omega)⟩
