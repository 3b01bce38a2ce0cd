def rgI (v lo hi : Int32) : Prop := lo ≤ v ∧ v ≤ hi
def wallOK (a b : Int32) : Prop := rgI a 1 24 ∧ rgI b 1 16
def plOK (μ : Mm) (x y : Int32) : Prop := 0 ≤ x ∧ x < μ 0 0 ∧ 0 ≤ y ∧ y < μ 0 1
def lpOK (μ : Mm) (n : Int32) : Prop := 0 ≤ n ∧ n < μ 0 5
def ptOK (x y u v t : Int32) : Prop := x ≤ u ∧ y ≤ v ∧ rgI t 0 255
def nlOK (a b : Int32) : Prop := rgI a 0 255 ∧ rgI b 0 255
def rcOK (x y u v : Int32) : Prop := (rgI x (-20) 39 ∧ rgI y (-20) 39) ∧ (x < u ∧ u ≤ 40) ∧ (y < v ∧ v ≤ 40)
def lvOK (w v : Int32) : Prop := rgI w 0 2 ∧ rgI v 0 (if w = 2 then 900 else 255)
def shOK (a b : Int32) : Prop := rgI a (-10) 10 ∧ rgI b (-10) 10
def coOK (x y : Int32) : Prop := rgI x (-20) 40 ∧ rgI y (-20) 40
def CIv (μ : Mm) (c r lc la cn : Nat) : Prop := μ 0 0 = nI c ∧ μ 0 1 = nI r ∧ μ 0 5 = nI lc ∧ μ 107 1 = nI la ∧ μ 107 2 = nI cn ∧ (1 ≤ c ∧ c ≤ 24 ∧ 1 ≤ r ∧ r ≤ 16 ∧ lc ≤ 8 ∧ la < 4 ∧ cn ≤ 4) ∧ (μ 0 6 = 0 → SVok μ lc c r)
def RfP (μ : Mm) (lc c r : Nat) (m : Mm) : Prop := SVok m lc c r ∧ m 0 6 = 0 ∧ sameRf μ m
def zzS (μ : Mm) (lc : Nat) : Int32 := orN lc (shiB μ 0)
def cvJ (μ : Mm) (lc c j : Nat) : Int32 := cvP μ 0 (zzS μ lc) (μ 0 2) (μ 0 3) (j % c) (j / c)
def brJ (μ : Mm) (lc c j : Nat) : Int32 := brP μ 0 (zzS μ lc) (μ 0 2) (μ 0 3) c (j % c) (j / c)
def stJ (μ : Mm) (lc c j : Nat) : Int32 := stP μ 0 (zzS μ lc) (μ 0 2) (μ 0 3) c (j % c) (j / c)
def ltJ (μ : Mm) (lc c k j : Nat) : Int32 := ltP μ 0 (zzS μ lc) (μ 0 2) (μ 0 3) c (j % c) (j / c) k
theorem RfP_get {μ m : Mm} {lc c r x y : Nat} (h : RfP μ lc c r m) (hx : x < c) (hy : y < r) :
    m 99 (y * c + x) = cvP μ 0 (zzS μ lc) (μ 0 2) (μ 0 3) x y ∧ m 100 (y * c + x) = brP μ 0 (zzS μ lc) (μ 0 2) (μ 0 3) c x y ∧ m 101 (y * c + x) = stP μ 0 (zzS μ lc) (μ 0 2) (μ 0 3) c x y ∧ ∀ k, k < 8 → m 98 (384 * k + (y * c + x)) = ltP μ 0 (zzS μ lc) (μ 0 2) (μ 0 3) c x y k := by
  obtain ⟨⟨h5, hS⟩, h6, hR⟩ := h
  have hsc := scE_rf hR
  have e2 : m 0 2 = μ 0 2 := hR 0 2 (by omega) (by omega) (by omega) (by omega)
  have e3 : m 0 3 = μ 0 3 := hR 0 3 (by omega) (by omega) (by omega) (by omega)
  have g := hS y x hx (ix_lt2 hy hx)
  rw [shi_sc hsc, e2, e3, cvP_sc hsc, brP_sc hsc, stP_sc hsc] at g
  obtain ⟨g1, g2, g3, g4⟩ := g
  exact ⟨g1, g2, g3, fun k hk => by rw [← ltP_sc hsc]; exact g4 k hk⟩
theorem RfP_j {μ m : Mm} {lc c r j : Nat} (h : RfP μ lc c r m) (hj : j < c * r) :
    m 99 j = cvJ μ lc c j ∧ m 100 j = brJ μ lc c j ∧ m 101 j = stJ μ lc c j ∧ ∀ k, k < 8 → m 98 (384 * k + j) = ltJ μ lc c k j := by
  have hc : 0 < c := by
    rcases Nat.eq_zero_or_pos c with q | q
    · subst q; omega
    · exact q
  have hx : j % c < c := Nat.mod_lt j hc
  have hy : j / c < r := (Nat.div_lt_iff_lt_mul hc).mpr (by rw [Nat.mul_comm r c]; exact hj)
  have hjj : j / c * c + j % c = j := by rw [Nat.mul_comm]; exact Nat.div_add_mod j c
  have g := RfP_get h hx hy
  rw [hjj] at g
  exact g
def plcJ (μ : Mm) (lc c r k : Nat) : Int32 := sumN (c * r) (fun j => if bitB (cvJ μ lc c j) k = true then 1 else 0)
def slJ (μ : Mm) (lc c r k : Nat) : Int32 := sumN (c * r) (fun j => if bitB (cvJ μ lc c j) k = true then ltJ μ lc c k j else 0)
def mxlJ (μ : Mm) (lc c k : Nat) : Nat → Int32
  | 0 => 0
  | j + 1 => if bitB (cvJ μ lc c j) k = true then mxI (mxlJ μ lc c k j) (ltJ μ lc c k j) else mxlJ μ lc c k j
def onlJ (μ : Mm) (lc c r k : Nat) : Int32 := sumN (c * r) (fun j => if cvJ μ lc c j = oneI k then 1 else 0)
def ldJ (μ : Mm) (lc c r k : Nat) : Int32 := if plcJ μ lc c r k * lim μ 0 k ≤ 0 then 0 else 100 * slJ μ lc c r k / (plcJ μ lc c r k * lim μ 0 k)
def pstJ (μ : Mm) (lc c r : Nat) (z : Int32) : Int32 := sumN (c * r) (fun j => if stJ μ lc c j = z then 1 else 0)
def sbJ (μ : Mm) (lc c r : Nat) : Int32 := sumN (c * r) (brJ μ lc c)
def sevJ (μ : Mm) (lc c r : Nat) : Int32 := sumN (c * r) (fun j => sevB (cvJ μ lc c j))
theorem plc_J {μ m : Mm} {lc c r k : Nat} (h : RfP μ lc c r m) : plcN m k (c * r) = plcJ μ lc c r k := sumN_congr fun j hj => by unfold covB; rw [(RfP_j h hj).1]
theorem sl_J {μ m : Mm} {lc c r k : Nat} (h : RfP μ lc c r m) (hk : k < 8) : slN m k (c * r) = slJ μ lc c r k := sumN_congr fun j hj => by unfold covB; rw [(RfP_j h hj).1, (RfP_j h hj).2.2.2 k hk]
theorem mxl_J {μ m : Mm} {lc c r k : Nat} (h : RfP μ lc c r m) (hk : k < 8) : ∀ {n : Nat}, n ≤ c * r → mxlN m k n = mxlJ μ lc c k n
  | 0, _ => rfl
  | n + 1, hn => by
    simp only [mxlN, mxlJ, covB, mxl_J h hk (n := n) (by omega), (RfP_j h (j := n) (by omega)).1, (RfP_j h (j := n) (by omega)).2.2.2 k hk]
theorem onl_J {μ m : Mm} {lc c r k : Nat} (h : RfP μ lc c r m) : sumN (c * r) (fun j => if m 99 j = oneI k then (1 : Int32) else 0) = onlJ μ lc c r k := sumN_congr fun j hj => by rw [(RfP_j h hj).1]
theorem pst_J {μ m : Mm} {lc c r : Nat} {z : Int32} (h : RfP μ lc c r m) : pstN m z (c * r) = pstJ μ lc c r z := sumN_congr fun j hj => by rw [(RfP_j h hj).2.2.1]
theorem sb_J {μ m : Mm} {lc c r : Nat} (h : RfP μ lc c r m) : sumN (c * r) (m 100) = sbJ μ lc c r := sumN_congr fun j hj => (RfP_j h hj).2.1
theorem sev_J {μ m : Mm} {lc c r : Nat} (h : RfP μ lc c r m) : sumN (c * r) (fun j => sevB (m 99 j)) = sevJ μ lc c r := sumN_congr fun j hj => by rw [(RfP_j h hj).1]
theorem rf_s {μ m : Mm} {lc c r : Nat} (h : RfP μ lc c r m) (q : Nat) (hq : q < 6) : m 0 q = μ 0 q := h.2.2 0 q (by omega) (by omega) (by omega) (by omega)
theorem rf_r {μ m : Mm} {lc c r : Nat} (h : RfP μ lc c r m) (p q : Nat) (h1 : 1 ≤ p) (hp : p < 75) : m p q = μ p q := h.2.2 p q (by omega) (by omega) (by omega) (by omega)
theorem rf_lim {μ m : Mm} {lc c r k : Nat} (h : RfP μ lc c r m) : lim m 0 k = lim μ 0 k := lim_sc (scE_rf h.2.2)
theorem rf_flo {μ m : Mm} {lc c r k : Nat} (h : RfP μ lc c r m) : flo m 0 k = flo μ 0 k := flo_sc (scE_rf h.2.2)
theorem cr_le {c r : Nat} (h1 : c ≤ 24) (h2 : r ≤ 16) : c * r ≤ 384 := Nat.mul_le_mul h1 h2
def lvV (μ : Mm) (lc c r k : Nat) (w : Nat) : Int32 := match w with
  | 0 => μ 9 k
  | 1 => μ 10 k
  | 2 => μ 11 k
  | 3 => if wkB μ 0 k = true then 1 else 0
  | 4 => lim μ 0 k
  | 5 => flo μ 0 k
  | 6 => if goodB μ 0 k = true then 1 else 0
  | 7 => plcJ μ lc c r k
  | 8 => slJ μ lc c r k
  | 9 => ldJ μ lc c r k
  | 10 => mxlJ μ lc c k (c * r)
  | _ => onlJ μ lc c r k
def whV (μ : Mm) (lc c r : Nat) (tl : Int32) (w : Nat) : Int32 := match w with
  | 0 => μ 0 0
  | 1 => μ 0 1
  | 2 => μ 0 2
  | 3 => μ 0 3
  | 4 => μ 0 5
  | 5 => sumN lc (μ 12)
  | 6 => pstJ μ lc c r 0
  | 7 => pstJ μ lc c r 1
  | 8 => pstJ μ lc c r 2
  | 9 => pstJ μ lc c r 3
  | 10 => sumN (c * r) (μ 8)
  | 11 => sbJ μ lc c r
  | 12 => μ 0 4
  | 13 => sevJ μ lc c r
  | _ => tl
def smL (μ : Mm) (lc : Nat) (z : Int32) : Int32 := sumN lc (fun k => if bitB z k = true then lim μ 0 k else 0)
def smF (μ : Mm) (lc : Nat) (z : Int32) : Int32 := sumN lc (fun k => if bitB z k = true then flo μ 0 k else 0)
def plV (μ : Mm) (lc c x y : Nat) (w : Nat) : Int32 := match w with
  | 0 => μ 8 (y * c + x)
  | 1 => brP μ 0 (zzS μ lc) (μ 0 2) (μ 0 3) c x y
  | 2 => stP μ 0 (zzS μ lc) (μ 0 2) (μ 0 3) c x y
  | 3 => cvP μ 0 (zzS μ lc) (μ 0 2) (μ 0 3) x y
  | 4 => smL μ lc (cvP μ 0 (zzS μ lc) (μ 0 2) (μ 0 3) x y)
  | _ => smF μ lc (cvP μ 0 (zzS μ lc) (μ 0 2) (μ 0 3) x y)
def hF (h : Int64) (f : Nat → Int32) : Nat → Int64
  | 0 => h
  | n + 1 => 31 * hF h f n + (f n).toInt64
