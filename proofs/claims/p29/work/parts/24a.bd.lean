/-! small numbers: no sum, no product of them overflows -/
def bd (x : Int32) (n : Nat) : Prop := x.toInt.natAbs ≤ n
theorem bd_rg {x lo hi : Int32} {n : Nat} (h : rgI x lo hi) (h1 : lo.toInt.natAbs ≤ n) (h2 : hi.toInt.natAbs ≤ n) : bd x n := by
  have a := Int32.le_iff_toInt_le.mp h.1
  have b := Int32.le_iff_toInt_le.mp h.2
  unfold bd
  omega
theorem bd_mono {x : Int32} {n m : Nat} (h : bd x n) (hm : n ≤ m) : bd x m := Nat.le_trans h hm
theorem bd_add {x y : Int32} {a b : Nat} (hx : bd x a) (hy : bd y b) (h : a + b < 2147483648) : (x + y).toInt = x.toInt + y.toInt ∧ bd (x + y) (a + b) := by
  unfold bd at *
  have e : (x + y).toInt = x.toInt + y.toInt := by
    rw [Int32.toInt_add]
    exact Int.bmod_eq_of_le (by omega) (by omega)
  exact ⟨e, by rw [e]; omega⟩
theorem bd_sub {x y : Int32} {a b : Nat} (hx : bd x a) (hy : bd y b) (h : a + b < 2147483648) : (x - y).toInt = x.toInt - y.toInt ∧ bd (x - y) (a + b) := by
  unfold bd at *
  have e : (x - y).toInt = x.toInt - y.toInt := by
    rw [Int32.toInt_sub]
    exact Int.bmod_eq_of_le (by omega) (by omega)
  exact ⟨e, by rw [e]; omega⟩
theorem bd_mul {x y : Int32} {a b : Nat} (hx : bd x a) (hy : bd y b) (h : a * b < 2147483648) : (x * y).toInt = x.toInt * y.toInt ∧ bd (x * y) (a * b) := by
  unfold bd at *
  have m : (x.toInt * y.toInt).natAbs ≤ a * b := by
    rw [Int.natAbs_mul]
    exact Nat.mul_le_mul hx hy
  have e : (x * y).toInt = x.toInt * y.toInt := by
    rw [Int32.toInt_mul]
    exact Int.bmod_eq_of_le (by omega) (by omega)
  exact ⟨e, by rw [e]; exact m⟩
theorem bd_neg {x : Int32} {a : Nat} (hx : bd x a) (h : a < 2147483648) : (-x).toInt = -x.toInt ∧ bd (-x) a := by
  unfold bd at *
  have e : (-x).toInt = -x.toInt := by
    rw [Int32.toInt_neg]
    exact Int.bmod_eq_of_le (by omega) (by omega)
  exact ⟨e, by rw [e]; omega⟩
theorem ring_t (a b c d e f : Int32) : (2 * b - 2 * a) * (2 * f - 2 * e) - (2 * e - 2 * d) * (2 * c - 2 * b) = 4 * ((b - a) * (f - e) - (e - d) * (c - b)) := by grind
theorem ring_a (a b c d : Int32) (z : Int32) : 4 * z + (2 * a * (2 * b) - 2 * c * (2 * d)) = 4 * (z + (a * b - c * d)) := by grind
theorem ring_w (a b : Int32) : 2 * a - 2 * b = 2 * (a - b) := by grind
theorem four_neg {x : Int32} (h : bd x 500000000) : 4 * x < 0 ↔ x < 0 := by
  have h4 := (bd_mul (x := 4) (y := x) (a := 4) (by unfold bd; decide) h (by decide)).1
  rw [Int32.lt_iff_toInt_lt, Int32.lt_iff_toInt_lt, h4, show (4 : Int32).toInt = 4 from rfl, Int32.toInt_zero]
  omega
theorem four_pos {x : Int32} (h : bd x 500000000) : 0 < 4 * x ↔ 0 < x := by
  have h4 := (bd_mul (x := 4) (y := x) (a := 4) (by unfold bd; decide) h (by decide)).1
  rw [Int32.lt_iff_toInt_lt, Int32.lt_iff_toInt_lt, h4, show (4 : Int32).toInt = 4 from rfl, Int32.toInt_zero]
  omega
theorem cx_bd {s : Nat} {V : Mm} {f : Nat → Int32} {c r lc k j : Nat} (hR : REP s V f c r lc) (hk : k < 8) : bd (V (s + 13) (4 * k + j % 4)) 40 := by
  rw [(hR.2.2.2.1 k (j % 4) hk (by omega)).1]
  exact bd_rg ((hR.2.1.2.2 k hk).2.2.2.2 (j % 4) (by omega)) (by decide) (by decide)
theorem cy_bd {s : Nat} {V : Mm} {f : Nat → Int32} {c r lc k j : Nat} (hR : REP s V f c r lc) (hk : k < 8) : bd (V (s + 14) (4 * k + j % 4)) 40 := by
  rw [(hR.2.2.2.1 k (j % 4) hk (by omega)).2]
  exact bd_rg ((hR.2.1.2.2 k hk).2.2.2.2 (4 + j % 4) (by omega)) (by decide) (by decide)
theorem turn_bd {s : Nat} {V : Mm} {f : Nat → Int32} {c r lc k i : Nat} (hR : REP s V f c r lc) (hk : k < 8) (hi : i < 4) : bd (turnS V s k i) 500000000 := by
  have e : i % 4 = i := by omega
  have x0 := cx_bd (j := i) hR hk
  have y0 := cy_bd (j := i) hR hk
  rw [e] at x0 y0
  have x1 := cx_bd (j := i + 1) hR hk
  have y1 := cy_bd (j := i + 1) hR hk
  have x2 := cx_bd (j := i + 2) hR hk
  have y2 := cy_bd (j := i + 2) hR hk
  have p := (bd_mul (bd_sub x1 x0 (by decide)).2 (bd_sub y2 y1 (by decide)).2 (by decide)).2
  have q := (bd_mul (bd_sub y1 y0 (by decide)).2 (bd_sub x2 x1 (by decide)).2 (by decide)).2
  exact bd_mono (bd_sub p q (by decide)).2 (by decide)
theorem area_bd {s : Nat} {V : Mm} {f : Nat → Int32} {c r lc k : Nat} (hR : REP s V f c r lc) (hk : k < 8) : ∀ n, n ≤ 4 → bd (areaS V s k n) (3200 * n) := by
  intro n
  induction n with
  | zero => intro _; show (0 : Int32).toInt.natAbs ≤ 0; decide
  | succ n ih =>
    intro hn
    have e : n % 4 = n := by omega
    have x0 := cx_bd (j := n) hR hk
    have y0 := cy_bd (j := n) hR hk
    rw [e] at x0 y0
    have x1 := cx_bd (j := n + 1) hR hk
    have y1 := cy_bd (j := n + 1) hR hk
    have p := (bd_mul x0 y1 (by decide)).2
    have q := (bd_mul y0 x1 (by decide)).2
    have t := (bd_sub p q (by decide)).2
    have u := (bd_add (ih (by omega)) t (by omega)).2
    exact bd_mono u (by omega)
theorem turn_m {s : Nat} {V : Mm} {k i : Nat} (hi : i < 4) : (2 * V (s + 13) (4 * k + (i + 1) % 4) - 2 * V (s + 13) (4 * k + i % 4)) * (2 * V (s + 14) (4 * k + (i + 2) % 4) - 2 * V (s + 14) (4 * k + (i + 1) % 4)) - (2 * V (s + 14) (4 * k + (i + 1) % 4) - 2 * V (s + 14) (4 * k + i % 4)) * (2 * V (s + 13) (4 * k + (i + 2) % 4) - 2 * V (s + 13) (4 * k + (i + 1) % 4)) = 4 * turnS V s k i := by
  rw [show i % 4 = i by omega]
  exact ring_t _ _ _ _ _ _
theorem area_m {s : Nat} {V : Mm} {k i : Nat} (hi : i < 4) : 4 * areaS V s k i + (2 * V (s + 13) (4 * k + i % 4) * (2 * V (s + 14) (4 * k + (i + 1) % 4)) - 2 * V (s + 14) (4 * k + i % 4) * (2 * V (s + 13) (4 * k + (i + 1) % 4))) = 4 * areaS V s k (i + 1) := by
  rw [show i % 4 = i by omega]
  exact ring_a _ _ _ _ _
theorem way_x {s : Nat} {V : Mm} {k i : Nat} (hi : i < 4) : 2 * V (s + 13) (4 * k + (i + 1) % 4) - 2 * V (s + 13) (4 * k + i % 4) = wayX V s k i := by
  rw [show i % 4 = i by omega]
  exact ring_w _ _
theorem way_y {s : Nat} {V : Mm} {k i : Nat} (hi : i < 4) : 2 * V (s + 14) (4 * k + (i + 1) % 4) - 2 * V (s + 14) (4 * k + i % 4) = wayY V s k i := by
  rw [show i % 4 = i by omega]
  exact ring_w _ _
theorem ht_m {s : Nat} {V : Mm} {k i : Nat} {px py : Int32} (hi : i < 4) : wayX V s k i * (py - 2 * V (s + 14) (4 * k + i % 4)) - wayY V s k i * (px - 2 * V (s + 13) (4 * k + i % 4)) = htS V s k px py i := by
  rw [show i % 4 = i by omega]
  rfl
theorem abs_bd {x : Int32} {n : Nat} (h : bd x n) (hn : n < 2147483648) : bd (absI x) n ∧ 0 ≤ (absI x).toInt := by
  unfold absI
  by_cases h0 : 0 ≤ x
  · rw [if_pos h0]
    exact ⟨h, by have := Int32.le_iff_toInt_le.mp h0; rwa [Int32.toInt_zero] at this⟩
  · rw [if_neg h0]
    have e := bd_sub (x := 0) (a := 0) (by unfold bd; decide) h (by omega)
    refine ⟨bd_mono e.2 (by omega), ?_⟩
    have h1 := Int32.lt_iff_toInt_lt.mp (Int32.not_le.mp h0)
    rw [Int32.toInt_zero] at h1
    rw [e.1, Int32.toInt_zero]
    omega
theorem len_bd {s : Nat} {V : Mm} {f : Nat → Int32} {c r lc k i : Nat} (hR : REP s V f c r lc) (hk : k < 8) (hi : i < 4) : bd (lenS V s k i) 320 ∧ 0 ≤ (lenS V s k i).toInt := by
  have e : i % 4 = i := by omega
  have x0 := cx_bd (j := i) hR hk
  have y0 := cy_bd (j := i) hR hk
  rw [e] at x0 y0
  have x1 := cx_bd (j := i + 1) hR hk
  have y1 := cy_bd (j := i + 1) hR hk
  have wx : bd (wayX V s k i) 160 := (bd_mul (x := 2) (a := 2) (by unfold bd; decide) (bd_sub x1 x0 (by decide)).2 (by decide)).2
  have wy : bd (wayY V s k i) 160 := (bd_mul (x := 2) (a := 2) (by unfold bd; decide) (bd_sub y1 y0 (by decide)).2 (by decide)).2
  have ax := abs_bd wx (by decide)
  have ay := abs_bd wy (by decide)
  have t := bd_add ax.1 ay.1 (by decide)
  refine ⟨bd_mono t.2 (by decide), ?_⟩
  show 0 ≤ (absI (wayX V s k i) + absI (wayY V s k i)).toInt
  rw [t.1]
  omega
theorem len_nn {s : Nat} {V : Mm} {f : Nat → Int32} {c r lc k i : Nat} (hR : REP s V f c r lc) (hk : k < 8) (hi : i < 4) : 0 ≤ lenS V s k i := by
  rw [Int32.le_iff_toInt_le, Int32.toInt_zero]
  exact (len_bd hR hk hi).2
theorem div_nn {x y : Int32} (hx : 0 ≤ x) (hy : 0 < y) : 0 ≤ x / y ∧ (x / y).toInt ≤ x.toInt := by
  have h1 := Int32.le_iff_toInt_le.mp hx
  have h2 := Int32.lt_iff_toInt_lt.mp hy
  rw [Int32.toInt_zero] at h1 h2
  have a : (x.toInt.tdiv y.toInt) = x.toInt / y.toInt := Int.tdiv_eq_ediv_of_nonneg h1
  have b : 0 ≤ x.toInt / y.toInt := Int.ediv_nonneg h1 (by omega)
  have c : x.toInt / y.toInt ≤ x.toInt := Int.ediv_le_self _ h1
  have u := x.toInt_lt
  have e : (x / y).toInt = x.toInt / y.toInt := by
    rw [Int32.toInt_div, a]
    exact Int.bmod_eq_of_le (by omega) (by omega)
  exact ⟨by rw [Int32.le_iff_toInt_le, Int32.toInt_zero, e]; exact b, by rw [e]; exact c⟩
