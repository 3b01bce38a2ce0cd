/-! p29: the object's state as the law sees it: a scene, the saved scenes, a text -/
def RG (S : Mm) : Prop := (rgI (S 0 2) (-10) 10 ∧ rgI (S 0 3) (-10) 10) ∧ (∀ q, q < 384 → rgI (S 8 q) 0 255) ∧ ∀ k, k < 8 → rgI (S 9 k) 0 255 ∧ rgI (S 10 k) 0 255 ∧ rgI (S 11 k) 0 900 ∧ (S 12 k = 0 ∨ S 12 k = 1) ∧ ∀ i, i < 4 → rgI (S 13 (4 * k + i)) (-20) 40 ∧ rgI (S 14 (4 * k + i)) (-20) 40
def DM (S : Mm) (c r lc : Nat) : Prop := (S 0 0 = nI c ∧ S 0 1 = nI r ∧ S 0 5 = nI lc) ∧ (1 ≤ c ∧ c ≤ 24) ∧ (1 ≤ r ∧ r ≤ 16) ∧ lc ≤ 8
def SOK (S : Mm) : Prop := RG S ∧ ∃ c r lc, DM S c r lc
theorem RG_RS {V W : Mm} (h : RS 0 0 V W) (g : RG W) : RG V := by
  obtain ⟨⟨a1, a2⟩, b, d⟩ := g
  refine ⟨⟨?_, ?_⟩, fun q hq => ?_, fun k hk => ?_⟩
  · rw [h.1 2 (by decide)]; exact a1
  · rw [h.1 3 (by decide)]; exact a2
  · rw [show V 8 q = W 8 q from rs_tg h hq]; exact b q hq
  · obtain ⟨d1, d2, d3, d4, d5⟩ := d k hk
    refine ⟨?_, ?_, ?_, ?_, fun i hi => ⟨?_, ?_⟩⟩
    · rw [show V 9 k = W 9 k from rs_gr h hk]; exact d1
    · rw [show V 10 k = W 10 k from rs_le h hk]; exact d2
    · rw [show V 11 k = W 11 k from rs_we h hk]; exact d3
    · rw [show V 12 k = W 12 k from rs_wk h hk]; exact d4
    · rw [show V 13 (4 * k + i) = W 13 (4 * k + i) from rs_cx h hk hi]; exact (d5 i hi).1
    · rw [show V 14 (4 * k + i) = W 14 (4 * k + i) from rs_cy h hk hi]; exact (d5 i hi).2
theorem DM_RS {V W : Mm} {c r lc : Nat} (h : RS 0 0 V W) (g : DM W c r lc) : DM V c r lc := by
  obtain ⟨⟨a, b, d⟩, g⟩ := g
  exact ⟨⟨(h.1 0 (by decide)).trans a, (h.1 1 (by decide)).trans b, (h.1 5 (by decide)).trans d⟩, g⟩
def slP (la j : Nat) : Nat := 15 * ((la + 4 - j) % 4 + 1)
/-- the memory V, whose latest saved scene lies at la, shows the scene S with its numbers c r lc, the saved scenes T 0 (the latest) .. T (cn - 1), the text b of L bytes -/
def STa (V S : Mm) (c r lc la : Nat) (T : Nat → Mm) (cn L : Nat) (b : Nat → Int32) : Prop := CIv V c r lc la cn ∧ RS 0 0 V S ∧ RG S ∧ (∀ j, j < cn → RS (slP la j) 0 V (T j) ∧ SOK (T j)) ∧ TX V L ∧ bt V = b
def ST (V S : Mm) (c r lc : Nat) (T : Nat → Mm) (cn L : Nat) (b : Nat → Int32) : Prop := ∃ la, STa V S c r lc la T cn L b
def pT (S : Mm) (T : Nat → Mm) : Nat → Mm
  | 0 => S
  | j + 1 => T j
def nx (cn : Nat) : Nat := if cn < 4 then cn + 1 else 4
theorem CIv_dim {V : Mm} {c r lc la cn : Nat} (h : CIv V c r lc la cn) : (1 ≤ c ∧ c ≤ 24) ∧ (1 ≤ r ∧ r ≤ 16) ∧ lc ≤ 8 := by
  obtain ⟨-, -, -, -, -, ⟨g1, g2, g3, g4, g5, g6, g7⟩, -⟩ := h
  exact ⟨⟨g1, g2⟩, ⟨g3, g4⟩, g5⟩
theorem CIv_la {V : Mm} {c r lc la cn : Nat} (h : CIv V c r lc la cn) : la < 4 ∧ cn ≤ 4 := by
  obtain ⟨-, -, -, -, -, ⟨g1, g2, g3, g4, g5, g6, g7⟩, -⟩ := h
  exact ⟨g6, g7⟩
section STS
variable {V S V2 S2 : Mm} {c r lc la cn L c2 r2 l2 : Nat} {T : Nat → Mm} {b : Nat → Int32}
theorem STa.dim (h : STa V S c r lc la T cn L b) : (1 ≤ c ∧ c ≤ 24) ∧ (1 ≤ r ∧ r ≤ 16) ∧ lc ≤ 8 := CIv_dim h.1
theorem ST.dim (h : ST V S c r lc T cn L b) : (1 ≤ c ∧ c ≤ 24) ∧ (1 ≤ r ∧ r ≤ 16) ∧ lc ≤ 8 := by obtain ⟨la, h⟩ := h; exact h.dim
theorem ST.cr (h : ST V S c r lc T cn L b) : c * r ≤ 384 := cr_le h.dim.1.2 h.dim.2.1.2
theorem STa.dm (h : STa V S c r lc la T cn L b) : DM S c r lc := ⟨⟨(h.2.1.1 0 (by decide)).symm.trans h.1.1, (h.2.1.1 1 (by decide)).symm.trans h.1.2.1, (h.2.1.1 5 (by decide)).symm.trans h.1.2.2.1⟩, h.dim⟩
theorem ST.dm (h : ST V S c r lc T cn L b) : DM S c r lc := by obtain ⟨la, h⟩ := h; exact h.dm
theorem STa.ok (h : STa V S c r lc la T cn L b) : SOK S := ⟨h.2.2.1, c, r, lc, h.dm⟩
theorem ST.rg (h : ST V S c r lc T cn L b) : RG S := by obtain ⟨la, h⟩ := h; exact h.2.2.1
theorem ST.v0 (h : ST V S c r lc T cn L b) : V 0 0 = nI c ∧ V 0 1 = nI r ∧ V 0 5 = nI lc := by obtain ⟨la, h⟩ := h; exact ⟨h.1.1, h.1.2.1, h.1.2.2.1⟩
/-- a memory that shows the same -/
theorem STa_q (h : STa V S c r lc la T cn L b) (hv : ∀ p q : Nat, ¬ (p = 0 ∧ q = 6) → (p < 75 ∨ 105 ≤ p ∧ p ≠ 106) → V2 p q = V p q) (h2 : V2 102 2 = V 102 2) (hs : V2 0 6 = 0 → SVok V2 lc c r) : STa V2 S c r lc la T cn L b := by
  obtain ⟨⟨h1, g2, h3, h4, h5, h6, h7⟩, hR, hG, hT, hX, hb⟩ := h
  have e5 : ∀ q, V2 105 q = V 105 q := fun q => hv 105 q (by omega) (by omega)
  have hla := h6.2.2.2.2.2.1
  refine ⟨⟨(hv 0 0 (by omega) (by omega)).trans h1, (hv 0 1 (by omega) (by omega)).trans g2, (hv 0 5 (by omega) (by omega)).trans h3, (hv 107 1 (by omega) (by omega)).trans h4, (hv 107 2 (by omega) (by omega)).trans h5, h6, hs⟩, hR.keep (fun p q hp hp2 hn => hv p q (by omega) (by omega)), hG, fun j hj => ?_, TX_same hX h2 e5, (bt_same e5).trans hb⟩
  refine ⟨(hT j hj).1.keep (fun p q hp hp2 hn => hv p q ?_ ?_), (hT j hj).2⟩ <;> unfold slP at hp hp2 <;> omega
theorem ST_rf (h : ST V S c r lc T cn L b) (hR : Rf0 V lc c r V2) : ST V2 S c r lc T cn L b := by
  obtain ⟨la, h⟩ := h
  exact ⟨la, STa_q h (fun p q h0 hp => hR.1 p q h0 (by omega) (by omega) (by omega)) (hR.1 102 2 (by omega) (by omega) (by omega) (by omega)) hR.2⟩
theorem ST_so (h : ST V S c r lc T cn L b) (hR : sameOut 84 93 V V2) : ST V2 S c r lc T cn L b := by
  obtain ⟨la, h⟩ := h
  exact ⟨la, STa_q h (fun p q h0 hp => hR p q (by omega)) (hR 102 2 (by omega)) (CIv_so h.1 hR).2.2.2.2.2.2⟩
/-- a change, with a saving -/
theorem STa_mut (h : STa V S c r lc la T cn L b) (hC : CIv V2 c2 r2 l2 ((la + 1) % 4) (nx cn)) (hS : RS 0 0 V2 S2) (hG : RG S2) (hK : ∀ p q : Nat, 15 ≤ p → p < 75 → V2 p q = saveM V la cn p q) (h2 : V2 102 2 = V 102 2) (h5 : ∀ q, V2 105 q = V 105 q) : STa V2 S2 c2 r2 l2 ((la + 1) % 4) (pT S T) (nx cn) L b := by
  have hla := CIv_la h.1
  have hso := h.ok
  obtain ⟨h1, hR, hG0, hT, hX, hb⟩ := h
  have hsv : ∀ p q : Nat, 15 ≤ p → p < 75 → V2 p q = cpS (uM V 107 1 (nI ((la + 1) % 4))) (15 * ((la + 1) % 4 + 1)) 0 p q := fun p q hp hp2 => by
    rw [hK p q hp hp2]; unfold saveM; rw [uM_n (by omega)]
  refine ⟨hC, hS, hG, fun j hj => ?_, TX_same hX h2 h5, (bt_same h5).trans hb⟩
  cases j with
  | zero =>
    have es : slP ((la + 1) % 4) 0 = 15 * ((la + 1) % 4 + 1) := by unfold slP; omega
    rw [es]
    have e1 : RS 0 0 (uM V 107 1 (nI ((la + 1) % 4))) S := hR.keep (fun p q hp hp2 hn => uM_n (by omega))
    refine ⟨((RS_cp _ _ _).trans e1).keep (fun p q hp hp2 hn => hsv p q (by omega) (by omega)), hso⟩
  | succ j =>
    have hj2 : j + 1 < 4 ∧ j < cn := by unfold nx at hj; split at hj <;> omega
    have es : slP ((la + 1) % 4) (j + 1) = slP la j := by unfold slP; omega
    rw [es]
    refine ⟨(hT j hj2.2).1.keep (fun p q hp hp2 hn => ?_), (hT j hj2.2).2⟩
    have hne : slP la j + 15 ≤ 15 * ((la + 1) % 4 + 1) ∨ 15 * ((la + 1) % 4 + 1) + 15 ≤ slP la j := by unfold slP; omega
    have hlo : 15 ≤ slP la j ∧ slP la j + 15 ≤ 75 := by unfold slP; omega
    rw [hsv p q (by omega) (by omega), cpS_out (isS_sl (by omega)) (Or.inl rfl) (by omega), uM_n (by omega)]
/-- undo -/
theorem STa_un (h : STa V S c r lc la T (cn + 1) L b) : ∃ c2 r2 l2, STa (restM V la cn) (T 0) c2 r2 l2 ((la + 3) % 4) (fun j => T (j + 1)) cn L b := by
  have hla := CIv_la h.1
  obtain ⟨h1, hR, hG0, hT, hX, hb⟩ := h
  obtain ⟨hT0, hG2, c2, r2, l2, hD⟩ := hT 0 (by omega)
  have es0 : slP la 0 = 15 * (la + 1) := by unfold slP; omega
  rw [es0] at hT0
  have ho : ∀ p q, 107 ≠ p → restM V la cn p q = cpS V 0 (15 * (la + 1)) p q := fun p q hp => by
    unfold restM; rw [uM_n (by omega), uM_n (by omega)]
  have hf : ∀ p q, 15 ≤ p → 107 ≠ p → restM V la cn p q = V p q := fun p q hp hp2 => by
    rw [ho p q hp2]; exact cpS_out (Or.inl rfl) (isS_sl hla.1) (by omega)
  have e105 : ∀ q, restM V la cn 105 q = V 105 q := fun q => hf _ _ (by omega) (by omega)
  have hRS : RS 0 0 (restM V la cn) (T 0) := ((RS_cp V 0 (15 * (la + 1))).trans hT0).keep (fun p q hp hp2 hn => ho p q (by omega))
  have hD2 := DM_RS hRS hD
  refine ⟨c2, r2, l2, ⟨hD2.1.1, hD2.1.2.1, hD2.1.2.2, ?_, ?_, ⟨hD.2.1.1, hD.2.1.2, hD.2.2.1.1, hD.2.2.1.2, hD.2.2.2, by omega, by omega⟩, fun h0 => ?_⟩, hRS, hG2, fun j hj => ?_, TX_same hX (hf _ _ (by omega) (by omega)) e105, (bt_same e105).trans hb⟩
  · unfold restM; rw [uM_n (by omega), uM_s]
  · unfold restM; rw [uM_s]
  · rw [ho _ _ (by decide)] at h0
    unfold cpS at h0
    rw [uM_s] at h0
    exact absurd h0 (by decide)
  · have es : slP ((la + 3) % 4) j = slP la (j + 1) := by unfold slP; omega
    rw [es]
    have hlo : 15 ≤ slP la (j + 1) ∧ slP la (j + 1) + 15 ≤ 75 := by unfold slP; omega
    exact ⟨(hT (j + 1) (by omega)).1.keep (fun p q hp hp2 hn => hf p q (by omega) (by omega)), (hT (j + 1) (by omega)).2⟩
/-- the same scene, named otherwise -/
theorem ST_lit (h : ST V S c r lc T cn L b) (e : RS 0 0 S S2) : ST V S2 c r lc T cn L b := by
  obtain ⟨la, h1, hR, hG, hT⟩ := h
  exact ⟨la, h1, hR.trans e, RG_RS e.symm hG, hT⟩
theorem RS_dec (h : (∀ q, q < 6 → S 0 q = S2 0 q) ∧ ∀ j, j < 7 → ∀ q, q < lnR j → S (8 + j) q = S2 (8 + j) q) : RS 0 0 S S2 := ⟨h.1, fun j q hj hq => by rw [Nat.zero_add]; exact h.2 j hj q hq⟩
end STS
/-! changes of a scene -/
section RSO
variable {V W : Mm}
theorem RS_uM (h : RS 0 0 V W) (p k : Nat) (x : Int32) : RS 0 0 (uM V p k x) (uM W p k x) :=
  ⟨fun q hq => by show (if _ then _ else _) = _; rw [h.1 q hq]; rfl, fun j q hj hq => by show (if _ then _ else _) = _; rw [h.2 j q hj hq]; rfl⟩
theorem RS_setRow (h : RS 0 0 V W) (p n : Nat) (f : Nat → Int32) : RS 0 0 (setRow V p n f) (setRow W p n f) :=
  ⟨fun q hq => by show (if _ then _ else _) = _; rw [h.1 q hq]; rfl, fun j q hj hq => by show (if _ then _ else _) = _; rw [h.2 j q hj hq]; rfl⟩
theorem RS_wall (h : RS 0 0 V W) (a b : Int32) : RS 0 0 (wallM V 0 a b) (wallM W 0 a b) := RS_uM (RS_setRow (RS_uM (RS_uM (RS_uM (RS_uM h _ _ _) _ _ _) _ _ _) _ _ _) _ _ _) _ _ _
theorem RS_mvc (h : RS 0 0 V W) (j : Nat) (x y : Int32) : RS 0 0 (mvc V 0 j x y) (mvc W 0 j x y) := RS_uM (RS_uM (RS_uM h _ _ _) _ _ _) _ _ _
theorem RS_rect (h : RS 0 0 V W) (k : Nat) (x y u v : Int32) : RS 0 0 (rectM V k x y u v) (rectM W k x y u v) := RS_mvc (RS_mvc (RS_mvc (RS_mvc h _ _ _) _ _ _) _ _ _) _ _ _
theorem RS_mov (h : RS 0 0 V W) (a b : Int32) : RS 0 0 (movM V a b) (movM W a b) := RS_uM (RS_uM (RS_uM h _ _ _) _ _ _) _ _ _
theorem RS_hang (h : RS 0 0 V W) (k : Nat) (g l : Int32) : RS 0 0 (hang V 0 k g l) (hang W 0 k g l) := by
  have h0 : RS 0 0 (hang0 V 0 k g l) (hang0 W 0 k g l) := RS_uM (RS_uM (RS_uM (RS_uM (RS_uM h _ _ _) _ _ _) _ _ _) _ _ _) _ _ _
  have hC : ∀ i, RS 0 0 (hangC V 0 k g l i) (hangC W 0 k g l i) := fun i => by
    induction i with
    | zero => exact h0
    | succ i ih => exact RS_mvc ih _ _ _
  exact RS_uM (hC 4) _ _ _
theorem ptC_c {t : Int32} {base : Nat} : ∀ (n : Nat) (z z2 : Int32 × Mm), base + n ≤ 384 → z.1 = z2.1 → RS 0 0 z.2 z2.2 → (ptC 8 t base n z).1 = (ptC 8 t base n z2).1 ∧ RS 0 0 (ptC 8 t base n z).2 (ptC 8 t base n z2).2
  | 0, z, z2, _, h1, h2 => ⟨h1, h2⟩
  | n + 1, z, z2, hn, h1, h2 => by
    obtain ⟨i1, i2⟩ := ptC_c (t := t) (base := base) n z z2 (by omega) h1 h2
    refine ⟨?_, RS_uM i2 _ _ _⟩
    show (if (ptC 8 t base n z).2 8 (base + n) = t then (ptC 8 t base n z).1 else (ptC 8 t base n z).1 + 1) = (if (ptC 8 t base n z2).2 8 (base + n) = t then (ptC 8 t base n z2).1 else (ptC 8 t base n z2).1 + 1)
    rw [i1, show (ptC 8 t base n z).2 8 (base + n) = (ptC 8 t base n z2).2 8 (base + n) from rs_tg i2 (by omega)]
theorem ptR_c {t : Int32} {c a w b : Nat} : ∀ (n : Nat) (z z2 : Int32 × Mm), (∀ i, i < n → (b + i) * c + a + w ≤ 384) → z.1 = z2.1 → RS 0 0 z.2 z2.2 → (ptR 8 t c a w b n z).1 = (ptR 8 t c a w b n z2).1 ∧ RS 0 0 (ptR 8 t c a w b n z).2 (ptR 8 t c a w b n z2).2
  | 0, z, z2, _, h1, h2 => ⟨h1, h2⟩
  | n + 1, z, z2, hn, h1, h2 => by
    obtain ⟨i1, i2⟩ := ptR_c (t := t) (c := c) (a := a) (w := w) (b := b) n z z2 (fun i hi => hn i (by omega)) h1 h2
    exact ptC_c w _ _ (hn n (by omega)) i1 i2
theorem pt_in {c r x y u v : Nat} (hc : c ≤ 24) (hr : r ≤ 16) (h1 : x ≤ u) (h2 : u < c) (h4 : y ≤ v) (h5 : v < r) : ∀ i, i < v - y + 1 → (y + i) * c + x + (u - x + 1) ≤ 384 := fun i hi => by
  have e : (y + i) * c ≤ 15 * c := Nat.mul_le_mul_right c (by omega)
  omega
/-- paint -/
def pnt (S : Mm) (c x y u v : Nat) (t : Int32) : Int32 × Mm := ((ptR 8 t c x (u - x + 1) y (v - y + 1) (0, S)).1, uM (ptR 8 t c x (u - x + 1) y (v - y + 1) (0, S)).2 0 6 1)
theorem pnt_c (h : RS 0 0 V W) {c r x y u v : Nat} {t : Int32} (hc : c ≤ 24) (hr : r ≤ 16) (h1 : x ≤ u) (h2 : u < c) (h4 : y ≤ v) (h5 : v < r) : (pnt V c x y u v t).1 = (pnt W c x y u v t).1 ∧ RS 0 0 (pnt V c x y u v t).2 (pnt W c x y u v t).2 := by
  obtain ⟨i1, i2⟩ := ptR_c (t := t) (c := c) (a := x) (w := u - x + 1) (b := y) (v - y + 1) (0, V) (0, W) (pt_in hc hr h1 h2 h4 h5) rfl h
  exact ⟨i1, RS_uM i2 _ _ _⟩
/-- setLamp, setWorks, burn -/
def setM (S : Mm) (k w : Nat) (x : Int32) : Mm := uM (uM S (0 + 9 + w) k x) 0 6 1
def wrkM (S : Mm) (k : Nat) (z : Int32) : Mm := uM (uM S 12 k (if z = 0 then 0 else 1)) 0 6 1
theorem RS_set (h : RS 0 0 V W) (k w : Nat) (x : Int32) : RS 0 0 (setM V k w x) (setM W k w x) := RS_uM (RS_uM h _ _ _) _ _ _
theorem RS_wrk (h : RS 0 0 V W) (k : Nat) (z : Int32) : RS 0 0 (wrkM V k z) (wrkM W k z) := RS_uM (RS_uM h _ _ _) _ _ _
theorem wear_c {z : Int32} (h : RS 0 0 V W) {k : Nat} (hk : k < 8) : RS 0 0 (wearM V k z) (wearM W k z) := by
  unfold wearM
  rw [show V 11 k = W 11 k from rs_we h hk]
  exact RS_uM (RS_uM h _ _ _) _ _ _
theorem brn_c (h : RS 0 0 V W) {ld ld2 : Nat → Int32} {hr : Int32} (hl : ∀ k, k < 8 → ld k = ld2 k) : ∀ n, n ≤ 8 → RS 0 0 (brnM V ld hr n) (brnM W ld2 hr n)
  | 0, _ => h
  | n + 1, hn => by
    have ih := brn_c h (hr := hr) hl n (by omega)
    show RS 0 0 (if wkB V 0 n = true then wearM (brnM V ld hr n) n (hr * ld n / 100) else brnM V ld hr n) (if wkB W 0 n = true then wearM (brnM W ld2 hr n) n (hr * ld2 n / 100) else brnM W ld2 hr n)
    rw [wk_c h (show n < 8 by omega), hl n (by omega)]
    split
    · exact wear_c ih (by omega)
    · exact ih
theorem burn_c (h : RS 0 0 V W) {ld ld2 : Nat → Int32} {hr : Int32} {lc : Nat} (h8 : lc ≤ 8) (hl : ∀ k, k < 8 → ld k = ld2 k) : RS 0 0 (burnM V ld hr lc) (burnM W ld2 hr lc) := by
  have hb := brn_c h (hr := hr) hl lc h8
  unfold burnM
  rw [hb.1 4 (by decide)]
  exact RS_uM hb _ _ _
end RSO
/-! the ranges stay -/
section RGS
variable {S : Mm}
theorem RG_of {S2 : Mm} (g : RG S) (h0 : rgI (S2 0 2) (-10) 10 ∧ rgI (S2 0 3) (-10) 10) (h8 : ∀ q, q < 384 → rgI (S2 8 q) 0 255) (h9 : ∀ p q : Nat, 9 ≤ p → p < 15 → S2 p q = S p q) : RG S2 :=
  ⟨h0, h8, fun k hk => by rw [h9 9 k (by omega) (by omega), h9 10 k (by omega) (by omega), h9 11 k (by omega) (by omega), h9 12 k (by omega) (by omega)]; exact ⟨(g.2.2 k hk).1, (g.2.2 k hk).2.1, (g.2.2 k hk).2.2.1, (g.2.2 k hk).2.2.2.1, fun i hi => by rw [h9 13 _ (by omega) (by omega), h9 14 _ (by omega) (by omega)]; exact (g.2.2 k hk).2.2.2.2 i hi⟩⟩
theorem RG_wall (g : RG S) (a b : Int32) : RG (wallM S 0 a b) := by
  refine RG_of g ⟨?_, ?_⟩ (fun q hq => ?_) (fun p q hp hp2 => wallM_out (by omega) (by omega))
  · unfold wallM; rw [uM_n (by omega), setRow_out (by omega), uM_n (by omega), uM_s]; exact ⟨by decide, by decide⟩
  · unfold wallM; rw [uM_n (by omega), setRow_out (by omega), uM_s]; exact ⟨by decide, by decide⟩
  · unfold wallM; rw [uM_n (by omega), show (0 : Nat) + 8 = 8 from rfl, setRow_in hq]; exact ⟨by decide, by decide⟩
theorem RG_mov (g : RG S) {a b : Int32} (h : shOK a b) : RG (movM S a b) := by
  refine RG_of g ⟨?_, ?_⟩ (fun q hq => ?_) (fun p q hp hp2 => movM_out (by omega))
  · unfold movM; rw [uM_n (by omega), uM_n (by omega), uM_s]; exact h.1
  · unfold movM; rw [uM_n (by omega), uM_s]; exact h.2
  · rw [movM_out (by omega)]; exact g.2.1 q hq
theorem ptC_v {t : Int32} {base q : Nat} : ∀ (n : Nat) (z : Int32 × Mm), (ptC 8 t base n z).2 8 q = t ∨ (ptC 8 t base n z).2 8 q = z.2 8 q
  | 0, z => Or.inr rfl
  | n + 1, z => by
    show uM (ptC 8 t base n z).2 8 (base + n) t 8 q = t ∨ uM (ptC 8 t base n z).2 8 (base + n) t 8 q = z.2 8 q
    by_cases e : q = base + n
    · subst e; exact Or.inl (uM_s _ _ _ _)
    · rw [uM_n (by omega)]; exact ptC_v n z
theorem ptR_v {t : Int32} {c a w b q : Nat} : ∀ (n : Nat) (z : Int32 × Mm), (ptR 8 t c a w b n z).2 8 q = t ∨ (ptR 8 t c a w b n z).2 8 q = z.2 8 q
  | 0, z => Or.inr rfl
  | n + 1, z => by
    show (ptC 8 t ((b + n) * c + a) w (ptR 8 t c a w b n z)).2 8 q = t ∨ (ptC 8 t ((b + n) * c + a) w (ptR 8 t c a w b n z)).2 8 q = z.2 8 q
    rcases ptC_v (t := t) (base := (b + n) * c + a) (q := q) w (ptR 8 t c a w b n z) with h | h
    · exact Or.inl h
    · rw [h]; exact ptR_v n z
theorem RG_pnt (g : RG S) {c x y u v : Nat} {t : Int32} (ht : rgI t 0 255) : RG (pnt S c x y u v t).2 := by
  have ho : ∀ p q : Nat, p ≠ 8 → ¬ (p = 0 ∧ q = 6) → (pnt S c x y u v t).2 p q = S p q := fun p q hp hq => by
    show uM _ 0 6 1 p q = _
    rw [uM_n (by omega), ptR_out hp]
  refine RG_of g ⟨?_, ?_⟩ (fun q hq => ?_) (fun p q hp hp2 => ho p q (by omega) (by omega))
  · rw [ho _ _ (by omega) (by omega)]; exact g.1.1
  · rw [ho _ _ (by omega) (by omega)]; exact g.1.2
  · have e : (pnt S c x y u v t).2 8 q = (ptR 8 t c x (u - x + 1) y (v - y + 1) (0, S)).2 8 q := by
      show uM (ptR 8 t c x (u - x + 1) y (v - y + 1) (0, S)).2 0 6 1 8 q = _
      exact uM_n (by omega)
    rw [e]
    rcases ptR_v (t := t) (c := c) (a := x) (w := u - x + 1) (b := y) (q := q) (v - y + 1) (0, S) with h | h
    · rw [h]; exact ht
    · rw [h]; exact g.2.1 q hq
/-- the lamps' part, cell by cell -/
theorem RG_l {S2 : Mm} (g : RG S) (h0 : ∀ p q : Nat, p = 8 ∨ (p = 0 ∧ (q = 2 ∨ q = 3)) → S2 p q = S p q) (h9 : ∀ k, k < 8 → rgI (S2 9 k) 0 255 ∧ rgI (S2 10 k) 0 255 ∧ rgI (S2 11 k) 0 900 ∧ (S2 12 k = 0 ∨ S2 12 k = 1) ∧ ∀ i, i < 4 → rgI (S2 13 (4 * k + i)) (-20) 40 ∧ rgI (S2 14 (4 * k + i)) (-20) 40) : RG S2 :=
  ⟨by rw [h0 0 2 (by omega), h0 0 3 (by omega)]; exact g.1, fun q hq => by rw [h0 8 q (by omega)]; exact g.2.1 q hq, h9⟩
theorem uM_or (μ : Mm) (a k : Nat) (x : Int32) (q : Nat) : uM μ a k x a q = x ∨ uM μ a k x a q = μ a q := by
  by_cases e : q = k
  · subst e; exact Or.inl (uM_s _ _ _ _)
  · exact Or.inr (uM_n (by omega))
theorem mvc_x {μ : Mm} {j : Nat} {x y : Int32} (q : Nat) : mvc μ 0 j x y 13 q = x ∨ mvc μ 0 j x y 13 q = μ 13 q := by
  unfold mvc
  rw [uM_n (by omega), uM_n (by omega)]
  exact uM_or μ 13 j x q
theorem mvc_y {μ : Mm} {j : Nat} {x y : Int32} (q : Nat) : mvc μ 0 j x y 14 q = y ∨ mvc μ 0 j x y 14 q = μ 14 q := by
  unfold mvc
  rw [uM_n (by omega)]
  rcases uM_or (uM μ (0 + 13) j x) 14 j y q with h | h
  · exact Or.inl h
  · refine Or.inr (h.trans (uM_n (by omega)))
theorem RG_mvc (g : RG S) {j : Nat} {x y : Int32} (h : coOK x y) : RG (mvc S 0 j x y) := by
  refine RG_l g (fun p q hp => mvc_out (by omega) (by omega) (by omega)) (fun k hk => ?_)
  obtain ⟨d1, d2, d3, d4, d5⟩ := g.2.2 k hk
  rw [mvc_out (p := 9) (by decide) (by decide) (by omega), mvc_out (p := 10) (by decide) (by decide) (by omega), mvc_out (p := 11) (by decide) (by decide) (by omega), mvc_out (p := 12) (by decide) (by decide) (by omega)]
  refine ⟨d1, d2, d3, d4, fun i hi => ⟨?_, ?_⟩⟩
  · rcases mvc_x (μ := S) (j := j) (x := x) (y := y) (4 * k + i) with e | e
    · rw [e]; exact h.1
    · rw [e]; exact (d5 i hi).1
  · rcases mvc_y (μ := S) (j := j) (x := x) (y := y) (4 * k + i) with e | e
    · rw [e]; exact h.2
    · rw [e]; exact (d5 i hi).2
theorem RG_rect (g : RG S) {k : Nat} {x y u v : Int32} (h : rcOK x y u v) : RG (rectM S k x y u v) := by
  obtain ⟨⟨h1, h2⟩, ⟨h3, h4⟩, h5, h6⟩ := h
  have hx : rgI x (-20) 40 := ⟨h1.1, Int32.le_trans h1.2 (by decide)⟩
  have hy : rgI y (-20) 40 := ⟨h2.1, Int32.le_trans h2.2 (by decide)⟩
  have hu : rgI u (-20) 40 := ⟨Int32.le_trans h1.1 (Int32.le_of_lt h3), h4⟩
  have hv : rgI v (-20) 40 := ⟨Int32.le_trans h2.1 (Int32.le_of_lt h5), h6⟩
  exact RG_mvc (RG_mvc (RG_mvc (RG_mvc g ⟨hx, hy⟩) ⟨hu, hy⟩) ⟨hu, hv⟩) ⟨hx, hv⟩
theorem RG_6 (g : RG S) (x : Int32) : RG (uM S 0 6 x) := by
  refine RG_l g (fun p q hp => uM_n (by omega)) (fun k hk => ?_)
  rw [uM_n (a := 9) (by omega), uM_n (a := 10) (by omega), uM_n (a := 11) (by omega), uM_n (a := 12) (by omega)]
  obtain ⟨d1, d2, d3, d4, d5⟩ := g.2.2 k hk
  exact ⟨d1, d2, d3, d4, fun i hi => by rw [uM_n (by omega), uM_n (by omega)]; exact d5 i hi⟩
theorem RG_row {S2 : Mm} (g : RG S) (a k0 : Nat) (x : Int32) (ha : 9 ≤ a ∧ a < 13) (hx : (a = 9 ∨ a = 10) ∧ rgI x 0 255 ∨ a = 11 ∧ rgI x 0 900 ∨ a = 12 ∧ (x = 0 ∨ x = 1)) (e : uM S a k0 x = S2) : RG S2 := by
  subst e
  refine RG_l g (fun p q hp => uM_n (by omega)) (fun k hk => ?_)
  obtain ⟨d1, d2, d3, d4, d5⟩ := g.2.2 k hk
  refine ⟨?_, ?_, ?_, ?_, fun i hi => by rw [uM_n (by omega), uM_n (by omega)]; exact d5 i hi⟩
  · by_cases h : 9 = a ∧ k = k0
    · obtain ⟨rfl, rfl⟩ := h; rw [uM_s]; rcases hx with h | h | h
      · exact h.2
      · omega
      · omega
    · rw [uM_n h]; exact d1
  · by_cases h : 10 = a ∧ k = k0
    · obtain ⟨rfl, rfl⟩ := h; rw [uM_s]; rcases hx with h | h | h
      · exact h.2
      · omega
      · omega
    · rw [uM_n h]; exact d2
  · by_cases h : 11 = a ∧ k = k0
    · obtain ⟨rfl, rfl⟩ := h; rw [uM_s]; rcases hx with h | h | h
      · omega
      · exact h.2
      · omega
    · rw [uM_n h]; exact d3
  · by_cases h : 12 = a ∧ k = k0
    · obtain ⟨rfl, rfl⟩ := h; rw [uM_s]; rcases hx with h | h | h
      · omega
      · omega
      · exact h.2
    · rw [uM_n h]; exact d4
theorem RG_f (g : RG S) (q0 : Nat) (x : Int32) (h : q0 ≠ 2 ∧ q0 ≠ 3) : RG (uM S 0 q0 x) := by
  refine RG_l g (fun p q hp => uM_n (by omega)) (fun k hk => ?_)
  rw [uM_n (a := 9) (by omega), uM_n (a := 10) (by omega), uM_n (a := 11) (by omega), uM_n (a := 12) (by omega)]
  obtain ⟨d1, d2, d3, d4, d5⟩ := g.2.2 k hk
  exact ⟨d1, d2, d3, d4, fun i hi => by rw [uM_n (by omega), uM_n (by omega)]; exact d5 i hi⟩
theorem RG_hang (g : RG S) {k : Nat} {a l : Int32} (h : nlOK a l) : RG (hang S 0 k a l) := by
  have h0 : RG (hang0 S 0 k a l) := RG_row (RG_row (RG_row (RG_row (RG_f g 5 _ ⟨by decide, by decide⟩) 9 k a ⟨by decide, by decide⟩ (Or.inl ⟨Or.inl rfl, h.1⟩) rfl) 10 k l ⟨by decide, by decide⟩ (Or.inl ⟨Or.inr rfl, h.2⟩) rfl) 11 k 0 ⟨by decide, by decide⟩ (Or.inr (Or.inl ⟨rfl, ⟨by decide, by decide⟩⟩)) rfl) 12 k 1 ⟨by decide, by decide⟩ (Or.inr (Or.inr ⟨rfl, Or.inr rfl⟩)) rfl
  have hC : ∀ i, RG (hangC S 0 k a l i) := fun i => by
    induction i with
    | zero => exact h0
    | succ i ih => exact RG_mvc ih ⟨⟨by decide, by decide⟩, ⟨by decide, by decide⟩⟩
  exact RG_6 (hC 4) 1
theorem RG_set (g : RG S) {k w : Nat} {x : Int32} (hw : w < 3) (h : lvOK (nI w) x) : RG (setM S k w x) := by
  refine RG_6 (RG_row g (0 + 9 + w) k x (by omega) ?_ rfl) 1
  rcases (show w = 0 ∨ w = 1 ∨ w = 2 by omega) with rfl | rfl | rfl
  · exact Or.inl ⟨Or.inl rfl, h.2⟩
  · exact Or.inl ⟨Or.inr rfl, h.2⟩
  · exact Or.inr (Or.inl ⟨rfl, h.2⟩)
theorem RG_wrk (g : RG S) {k : Nat} {z : Int32} : RG (wrkM S k z) := by
  refine RG_6 (RG_row g 12 k _ ⟨by decide, by decide⟩ (Or.inr (Or.inr ⟨rfl, ?_⟩)) rfl) 1
  split
  · exact Or.inl rfl
  · exact Or.inr rfl
/-- numbers as the bounds of weights and loads want them -/
def fV (V : Mm) (c r lc : Nat) : Nat → Int32 := fun i =>
  if i = 0 then nI c else if i = 1 then nI r else if i = 2 then V 0 2 else if i = 3 then V 0 3 else if i = 4 then nI lc else if i = 5 then V 0 4 else
  if i < 390 then (if (i - 6) % 24 < c ∧ (i - 6) / 24 < r then V 8 ((i - 6) / 24 * c + (i - 6) % 24) else 0) else
  if (i - 390) % 12 < 4 then V 13 (4 * ((i - 390) / 12) + (i - 390) % 12) else if (i - 390) % 12 < 8 then V 14 (4 * ((i - 390) / 12) + ((i - 390) % 12 - 4)) else V ((i - 390) % 12 + 1) ((i - 390) / 12)
theorem fV_l {V : Mm} {c r lc k w : Nat} (hw : w < 12) : fV V c r lc (aL k w) = if w < 4 then V 13 (4 * k + w) else if w < 8 then V 14 (4 * k + (w - 4)) else V (w + 1) k := by
  have e1 : (aL k w - 390) % 12 = w := by unfold aL; omega
  have e2 : (aL k w - 390) / 12 = k := by unfold aL; omega
  unfold fV
  rw [if_neg (by unfold aL; omega), if_neg (by unfold aL; omega), if_neg (by unfold aL; omega), if_neg (by unfold aL; omega), if_neg (by unfold aL; omega), if_neg (by unfold aL; omega), if_neg (by unfold aL; omega), e1, e2]
theorem REP_of {V : Mm} {c r lc : Nat} (g : RG V) (hd : (1 ≤ c ∧ c ≤ 24) ∧ (1 ≤ r ∧ r ≤ 16) ∧ lc ≤ 8) : REP 0 V (fV V c r lc) c r lc := by
  refine ⟨⟨rfl, rfl, rfl, hd.1.1, hd.1.2, hd.2.1.1, hd.2.1.2, hd.2.2⟩, ⟨⟨g.1.1, g.1.2⟩, fun j hj => ?_, fun k hk => ?_⟩, fun k hk => ?_, fun k i hk hi => ?_, fun x y hx hy => ?_⟩
  · have e : fV V c r lc (6 + j) = if j % 24 < c ∧ j / 24 < r then V 8 (j / 24 * c + j % 24) else 0 := by
      unfold fV
      rw [if_neg (by omega), if_neg (by omega), if_neg (by omega), if_neg (by omega), if_neg (by omega), if_neg (by omega), if_pos (by omega), show 6 + j - 6 = j by omega]
    rw [e]
    split
    · next hh => exact g.2.1 _ (ix_lt (show j / 24 < 16 by omega) hh.1 hd.1.2)
    · exact ⟨by decide, by decide⟩
  · obtain ⟨d1, d2, d3, d4, d5⟩ := g.2.2 k hk
    rw [fV_l (by decide), fV_l (by decide), fV_l (by decide), fV_l (by decide)]
    refine ⟨d1, d2, d3, d4, fun i hi => ?_⟩
    rw [fV_l (by omega)]
    split
    · exact (d5 i (by omega)).1
    · exact (d5 (i - 4) (by omega)).2
  · rw [fV_l (by decide), fV_l (by decide), fV_l (by decide), fV_l (by decide)]
    exact ⟨rfl, rfl, rfl, rfl⟩
  · rw [fV_l (by omega), fV_l (by omega), if_pos hi, if_neg (by omega), if_pos (by omega), show 4 + i - 4 = i by omega]
    exact ⟨rfl, rfl⟩
  · have e1 : (6 + 24 * y + x - 6) % 24 = x := by omega
    have e2 : (6 + 24 * y + x - 6) / 24 = y := by omega
    unfold fV
    rw [if_neg (by omega), if_neg (by omega), if_neg (by omega), if_neg (by omega), if_neg (by omega), if_neg (by omega), if_pos (by omega), e1, e2, if_pos ⟨hx, hy⟩]
theorem MI_of {V : Mm} {c r lc : Nat} (g : RG V) (hd : (1 ≤ c ∧ c ≤ 24) ∧ (1 ≤ r ∧ r ≤ 16) ∧ lc ≤ 8) : MI V c r lc (fun p q => if p = 1 then fV V c r lc q else -1000) := ⟨REP_of g hd, rfl, rfl, rfl, rfl⟩
theorem RG_burn (g : RG S) {c r lc : Nat} {h : Int32} (hd : (1 ≤ c ∧ c ≤ 24) ∧ (1 ≤ r ∧ r ≤ 16) ∧ lc ≤ 8) (hh : rgI h 1 9999) : RG (burnM S (ldJ S lc c r) h lc) := by
  have hb : ∀ i, i ≤ 8 → RG (brnM S (ldJ S lc c r) h i) := fun i => by
    induction i with
    | zero => intro _; exact g
    | succ i ih =>
      intro hi
      have gi := ih (by omega)
      show RG (if wkB S 0 i = true then wearM (brnM S (ldJ S lc c r) h i) i (h * ldJ S lc c r i / 100) else brnM S (ldJ S lc c r) h i)
      split
      · exact RG_6 (RG_row gi 11 i _ ⟨by decide, by decide⟩ (Or.inr (Or.inl ⟨rfl, wear_rg (gi.2.2 i (by omega)).2.2.1 hh (ld_rg (MI_of g hd) (show i < 8 by omega))⟩)) rfl) 1
      · exact gi
  exact RG_f (hb lc hd.2.2) 4 _ ⟨by decide, by decide⟩
end RGS
