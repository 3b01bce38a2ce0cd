/-! the worlds at the start -/
def fS0 : Nat → Int32 := fun q => bif Nat.beq q 0 then 12 else bif Nat.beq q 1 then 8 else bif Nat.beq q 6 then 1 else 0
def fC0 : Nat → Int32 := fun q => bif Nat.beq q 4 then -1000 else 0
def V0 : Mm := fun p => bif (Nat.beq p 0 || (Nat.beq p 15 || (Nat.beq p 30 || (Nat.beq p 45 || Nat.beq p 60)))) then fS0 else bif Nat.beq p 102 then fC0 else fun _ => 0
def πl : List Nat := [1, 2, 4, 6, 8, 10, 12, 14, 3, 5, 7, 9, 11, 13, 15, 45, 46, 48, 50, 52, 54, 56, 58, 47, 49, 51, 53, 55, 57, 59, 60, 61, 63, 65, 67, 69, 71, 73, 62, 64, 66, 68, 70, 72, 74, 75, 76, 78, 80, 82, 84, 86, 88, 77, 79, 81, 83, 85, 87, 89, 90, 91, 93, 95, 97, 99, 101, 103, 92, 94, 96, 98, 100, 102, 104, 17, 18, 20, 22, 24, 19, 21, 23, 25, 34, 35, 37, 39, 41, 36, 38, 40, 42, 16, 26, 28, 30, 32, 27, 29, 31, 33, 105, 106, 108, 107, 109, 43, 44, 0]
def adC (a : Nat → Nat) (u : Nat → Nat) : Nat → Nat := fun k => bif Nat.blt k 1000 then a (πl.getD k 0) else u k
