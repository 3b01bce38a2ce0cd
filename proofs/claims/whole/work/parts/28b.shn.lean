theorem SHP_J {V : Mm} {c lc x y : Nat} (hx : x < c) : SHP 0 V (zzS V lc) (V 0 2) (V 0 3) c lc x y = SHJ V lc c (y * c + x) := by
  funext μ m
  unfold SHP SHJ cvJ brJ ltJ
  rw [(ixd hx).1, (ixd hx).2]
theorem e_shn (s : Nat) (V : Mm) (c r lc : Nat) (z : Int32) (x y : Nat) (m : Mm) (f : Nat → Int32) (e : m 1 = f) (hR : REP s V f c r lc) (hz : HZ s V lc (m 0 8) z) (hx : x < c) (hy : y < r) : EvN ΛM mX7_shines [.ref 0, .int (nI x), .int (nI y)] m (qV (SHP s V z (f 2) (f 3) c lc x y m)) := by
  subst e
  exact e_X7_shines s V c r lc z x y m hR hz hx hy
theorem e_shJ (V : Mm) (c r lc x y : Nat) (m : Mm) (hM : MI V c r lc m) (hx : x < c) (hy : y < r) : EvN ΛM mX7_shines [.ref 0, .int (nI x), .int (nI y)] m (qV (SHJ V lc c (y * c + x) m)) := by
  have h := e_X7_shines 0 V c r lc (zzS V lc) x y m hM.1 (by rw [hM.2.2.2.2]; exact HZ_zz hM.1.1.2.2.2.2.2.2.2) hx hy
  rw [hM.2.1, hM.2.2.1, SHP_J hx] at h
  exact h
