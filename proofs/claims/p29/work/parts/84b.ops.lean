/-! p29: the class's methods over the state that the law sees -/
theorem EvN_mono {Λ : List LE} {M : MD} {av : List Value} {V : Mm} {P P2 : Option Value → Mm → Prop} (h : EvN Λ M av V P) (hp : ∀ r m, P r m → P2 r m) : EvN Λ M av V P2 := fun l g sz hst =>
  MetFree.mono (h l g sz hst) (fun _ _ q => q) (fun _ _ _ _ _ q => q) (fun a s o s' _ hq => by
    obtain ⟨⟨⟨r, m, e, hP, hw⟩, hF⟩, hL⟩ := hq
    exact ⟨⟨⟨r, m, e, hp r m hP, hw⟩, hF⟩, hL⟩)
theorem EvI {Λ : List LE} {M : MD} {av : List Value} {V : Mm} {P P2 : Int32 → Mm → Prop} (h : EvN Λ M av V (qI P)) (hp : ∀ v m, P v m → P2 v m) : EvN Λ M av V (qI P2) := EvN_mono h (fun r m ⟨x, e, hx⟩ => ⟨x, e, hp x m hx⟩)
theorem nx_le (cn : Nat) (h : cn ≤ 4) : nx cn ≤ 4 ∧ 1 ≤ nx cn := by unfold nx; split <;> omega
section OPS
variable {V S V2 S2 : Mm} {c r lc la cn L : Nat} {T : Nat → Mm} {b : Nat → Int32}
theorem ST.v2 (h : ST V S c r lc T cn L b) : V 102 2 = nI L := by obtain ⟨la, h⟩ := h; exact h.2.2.2.2.1.1
theorem ST.rs (h : ST V S c r lc T cn L b) : RS 0 0 V S := by obtain ⟨la, h⟩ := h; exact h.2.1
/-! questions -/
theorem o_whole (h : ST V S c r lc T cn L b) {w : Nat} (hw : w ≤ 14) : EvN ΛC mX6_whole [.ref 109, .int (nI w)] V (qI (fun v V2 => whV S lc c r (nI L) w = v ∧ ST V2 S c r lc T cn L b)) := by
  obtain ⟨la, h0⟩ := id h
  refine EvI (e_X6_whole c r lc la cn w V h0.1 hw) (fun v m hm => ⟨?_, ST_rf h (RfP_Rf0 hm.2)⟩)
  rw [← hm.1, h.v2, whV_c h.rs h.dim.2.2 h.cr]
theorem o_lamp (h : ST V S c r lc T cn L b) {k w : Nat} (hk : k < lc) (hw : w ≤ 11) : EvN ΛC mX6_lamp [.ref 109, .int (nI k), .int (nI w)] V (qI (fun v V2 => lvV S lc c r k w = v ∧ ST V2 S c r lc T cn L b)) := by
  obtain ⟨la, h0⟩ := id h
  have h8 := h.dim.2.2
  refine EvI (e_X6_lamp c r lc la cn k w V h0.1 hk hw) (fun v m hm => ⟨?_, ST_rf h (RfP_Rf0 hm.2)⟩)
  rw [← hm.1, lvV_c h.rs h8 h.cr (by omega)]
theorem o_corner (h : ST V S c r lc T cn L b) {k i a : Nat} (hk : k < lc) (hi : i < 4) (ha : a < 2) : EvN ΛC mX6_corner [.ref 109, .int (nI k), .int (nI i), .int (nI a)] V (qI (fun v V2 => (if a = 0 then S 13 (4 * k + i) else S 14 (4 * k + i)) = v ∧ ST V2 S c r lc T cn L b)) := by
  obtain ⟨la, h0⟩ := id h
  have h8 := h.dim.2.2
  refine EvI (e_X6_corner c r lc la cn k i a V h0.1 hk hi ha) (fun v m hm => ⟨?_, by rw [← hm.2]; exact h⟩)
  rw [← hm.1, show V 13 (4 * k + i) = S 13 (4 * k + i) from rs_cx h.rs (by omega) hi, show V 14 (4 * k + i) = S 14 (4 * k + i) from rs_cy h.rs (by omega) hi]
theorem o_place (h : ST V S c r lc T cn L b) {x y w : Nat} (hx : x < c) (hy : y < r) (hw : w ≤ 5) : EvN ΛC mX6_place [.ref 109, .int (nI x), .int (nI y), .int (nI w)] V (qI (fun v V2 => plV S lc c x y w = v ∧ ST V2 S c r lc T cn L b)) := by
  obtain ⟨la, h0⟩ := id h
  have hd := h.dim
  refine EvI (e_X6_place c r lc la cn x y w V h0.1 hx hy hw) (fun v m hm => ⟨?_, ST_rf h (RfP_Rf0 hm.2)⟩)
  rw [← hm.1, plV_c h.rs hd.2.2 (ix_lt (show y < 16 by omega) hx hd.1.2)]
theorem o_light (h : ST V S c r lc T cn L b) {k x y : Nat} (hk : k < lc) (hx : x < c) (hy : y < r) : EvN ΛC mX6_light [.ref 109, .int (nI k), .int (nI x), .int (nI y)] V (qI (fun v V2 => ltV S lc c x y k = v ∧ ST V2 S c r lc T cn L b)) := by
  obtain ⟨la, h0⟩ := id h
  have hd := h.dim
  refine EvI (e_X6_light c r lc la cn k x y V h0.1 hk hx hy) (fun v m hm => ⟨?_, ST_rf h (RfP_Rf0 hm.2)⟩)
  rw [← hm.1]
  exact (ltV_c h.rs hd.2.2 (ix_lt (show y < 16 by omega) hx hd.1.2) (by omega)).symm
theorem o_weight (h : ST V S c r lc T cn L b) {k x y : Nat} (hk : k < lc) (hx : x < c) (hy : y < r) : EvN ΛC mX6_weight [.ref 109, .int (nI k), .int (nI x), .int (nI y)] V (qI (fun v V2 => wtV S lc x y k = v ∧ ST V2 S c r lc T cn L b)) := by
  obtain ⟨la, h0⟩ := id h
  have hd := h.dim
  refine EvI (e_X6_weight c r lc la cn k x y V h0.1 hk hx hy) (fun v m hm => ⟨?_, ST_rf h (RfP_Rf0 hm.2)⟩)
  rw [← hm.1]
  exact (wtV_c h.rs hd.2.2 (by omega)).symm
theorem o_wrong (h : ST V S c r lc T cn L b) {x : Int32} (hx : ¬ x < 0) : EvN ΛC mX6_wrong [.ref 109, .int x] V (qI (fun v V2 => wrV S lc c r x = v ∧ ST V2 S c r lc T cn L b)) := by
  obtain ⟨la, h0⟩ := id h
  refine EvI (e_X6_wrong c r lc la cn x V h0.1 hx) (fun v m hm => ⟨?_, ST_rf h (RfP_Rf0 hm.2)⟩)
  rw [← hm.1, wrV_c h.rs h.dim.2.2 h.cr]
theorem o_wrongWithout (h : ST V S c r lc T cn L b) {k : Nat} (hk : k < lc) : EvN ΛC mX6_wrongWithout [.ref 109, .int (nI k)] V (qI (fun v V2 => wrgV S lc c k r = v ∧ ST V2 S c r lc T cn L b)) := by
  obtain ⟨la, h0⟩ := id h
  refine EvI (e_X6_wrongWithout c r lc la cn k V h0.1 hk) (fun v m hm => ⟨?_, ST_so h hm.2⟩)
  rw [← hm.1, wrgV_c h.rs h.dim.2.2 h.dim.1.2 h.dim.2.1.2]
theorem o_dearestLamp (h : ST V S c r lc T cn L b) : EvN ΛC mX6_dearestLamp [.ref 109] V (qI (fun v V2 => (dlN S lc c r lc).2 = v ∧ ST V2 S c r lc T cn L b)) := by
  obtain ⟨la, h0⟩ := id h
  refine EvI (e_X6_dearestLamp c r lc la cn V h0.1) (fun v m hm => ⟨?_, ST_so h hm.2⟩)
  rw [← hm.1, dlN_c h.rs h.dim.2.2 h.dim.1.2 h.dim.2.1.2]
theorem o_wrongShifted (h : ST V S c r lc T cn L b) {x y : Int32} (hs : shOK x y) : EvN ΛC mX6_wrongShifted [.ref 109, .int x, .int y] V (qI (fun v V2 => shW S lc c r x y = v ∧ ST V2 S c r lc T cn L b)) := by
  obtain ⟨la, h0⟩ := id h
  refine EvI (e_X6_wrongShifted c r lc la cn x y V h0.1 hs) (fun v m hm => ⟨?_, ST_so h hm.2⟩)
  rw [← hm.1, shW_c h.rs h.dim.2.2 h.dim.1.2 h.dim.2.1.2]
theorem o_bestShift (h : ST V S c r lc T cn L b) {k : Nat} (hk : k ≤ 3) : EvN ΛC mX6_bestShift [.ref 109, .int (nI k)] V (qI (fun v V2 => (bsR S lc c r k (2 * k + 1)).2 = v ∧ ST V2 S c r lc T cn L b)) := by
  obtain ⟨la, h0⟩ := id h
  refine EvI (e_X6_bestShift c r lc la cn k V h0.1 hk) (fun v m hm => ⟨?_, ST_so h hm.2⟩)
  rw [← hm.1, bsR_c h.rs h.dim.2.2 h.dim.1.2 h.dim.2.1.2]
theorem o_neededLimit (h : ST V S c r lc T cn L b) {k : Nat} (hk : k < lc) : EvN ΛC mX6_neededLimit [.ref 109, .int (nI k)] V (qI (fun v V2 => ndJ S lc c k (c * r) = v ∧ ST V2 S c r lc T cn L b)) := by
  obtain ⟨la, h0⟩ := id h
  have hd := h.dim
  refine EvI (e_X6_neededLimit c r lc la cn k V h0.1 hk) (fun v m hm => ⟨?_, ST_rf h (RfP_Rf0 hm.2)⟩)
  rw [← hm.1, ndJ_c h.rs hd.2.2 (by omega) _ h.cr]
theorem o_digest (h : ST V S c r lc T cn L b) : EvN ΛC mX6_digest [.ref 109] V (qL (fun v V2 => dgV S lc c r (nI L) (nI cn) = v ∧ ST V2 S c r lc T cn L b)) := by
  obtain ⟨la, h0⟩ := id h
  refine EvN_mono (e_X6_digest c r lc la cn V h0.1) (fun v m ⟨x, e, hx, hR⟩ => ⟨x, e, ?_, ST_rf h hR⟩)
  rw [← hx, h.v2, dgV_c h.rs h.dim.2.2 h.cr]
/-! changes -/
theorem sv_rs (h : STa V S c r lc la T cn L b) : RS 0 0 (saveM V la cn) S := h.2.1.keep (fun p q _ hp2 _ => saveM_out (CIv_la h.1).1 (by omega))
theorem ST_do {w : Nat} {n : Nat → Int32} (h : STa V S c r lc la T cn L b) (hw : 1 ≤ w) (hw8 : w ≤ 8) (ho : cmdOK (saveM V la cn) w n) (hd : doC (saveM V la cn) lc c r w n V2) (hS : RS 0 0 V2 S2) (hG : RG S2) : ST V2 S2 (cmC w n c) (cmR w n r) (cmL w lc) (pT S T) (nx cn) L b :=
  ⟨_, STa_mut h (doC_CIv (CIv_save h.1) hw hw8 ho hd) hS hG (fun p q hp hp2 => doC_out hd (Or.inl ⟨hp, hp2⟩)) ((doC_out hd (by omega)).trans (saveM_out (CIv_la h.1).1 (by omega))) (fun q => (doC_out hd (by omega)).trans (saveM_out (CIv_la h.1).1 (by omega)))⟩
theorem CIv_8 {m : Mm} (h : CIv V c r lc la cn) (h0 : ∀ p q : Nat, (p = 0 ∧ (q = 0 ∨ q = 1 ∨ q = 5)) ∨ p = 107 → m p q = V p q) (h6 : m 0 6 = 1) : CIv m c r lc la cn := by
  obtain ⟨h1, h2, h3, h4, h5, h7, h8⟩ := h
  exact ⟨(h0 0 0 (by omega)).trans h1, (h0 0 1 (by omega)).trans h2, (h0 0 5 (by omega)).trans h3, (h0 107 1 (by omega)).trans h4, (h0 107 2 (by omega)).trans h5, h7, fun z => absurd (h6.symm.trans z) (by decide)⟩
/-- a change W of the saved memory, and then perhaps a new survey -/
theorem ST_mr {W : Mm} (h : STa V S c r lc la T cn L b) (h0 : ∀ p q : Nat, (p = 0 ∧ (q = 0 ∨ q = 1 ∨ q = 5)) ∨ 15 ≤ p → W p q = saveM V la cn p q) (h6 : W 0 6 = 1) (hR : Rf0 W lc c r V2) (hS : RS 0 0 W S2) (hG : RG S2) : ST V2 S2 c r lc (pT S T) (nx cn) L b := by
  have hl := CIv_la h.1
  have hC := CIv_8 (CIv_save h.1) (fun p q hp => h0 p q (by omega)) h6
  refine ⟨_, STa_mut h (CIv_rf hC hR) (hS.keep (fun p q _ hp2 hn => hR.1 p q (by omega) (by omega) (by omega) (by omega))) hG (fun p q hp hp2 => ?_) ?_ (fun q => ?_)⟩
  · exact (hR.1 p q (by omega) (by omega) (by omega) (by omega)).trans (h0 p q (by omega))
  · exact ((hR.1 102 2 (by omega) (by omega) (by omega) (by omega)).trans (h0 _ _ (by omega))).trans (saveM_out hl.1 (by omega))
  · exact ((hR.1 105 q (by omega) (by omega) (by omega) (by omega)).trans (h0 _ _ (by omega))).trans (saveM_out hl.1 (by omega))
theorem Rf0_r1 {W : Mm} (h6 : W 0 6 = 1) : Rf0 W lc c r W := ⟨fun _ _ _ _ _ _ => rfl, fun z => absurd (h6.symm.trans z) (by decide)⟩
theorem o_begin (h : ST V S c r lc T cn L b) {x y : Int32} (hw : wallOK x y) : EvN ΛC mX6_begin [.ref 109, .int x, .int y] V (qI (fun v V2 => nI (c * r) = v ∧ ST V2 (wallM S 0 x y) (tn x) (tn y) lc (pT S T) (nx cn) L b)) := by
  obtain ⟨la, h⟩ := h
  refine EvI (e_X6_begin c r lc la cn x y V h.1 hw) (fun v m ⟨hv, hm⟩ => ⟨hv, ?_⟩)
  exact ST_do (w := 1) (n := fun j => if j = 0 then x else y) h (by decide) (by decide) hw hm (by rw [← hm]; exact RS_wall (sv_rs h) x y) (RG_wall h.2.2.1 x y)
theorem o_paint (h : ST V S c r lc T cn L b) {x y u v : Nat} {t : Int32} (h1 : x ≤ u) (h2 : u < c) (h4 : y ≤ v) (h5 : v < r) (ht : rgI t 0 255) : EvN ΛC mX6_paint [.ref 109, .int (nI x), .int (nI y), .int (nI u), .int (nI v), .int t] V (qI (fun z V2 => (pnt S c x y u v t).1 = z ∧ ST V2 (pnt S c x y u v t).2 c r lc (pT S T) (nx cn) L b)) := by
  obtain ⟨la, h⟩ := h
  have hd := h.dim
  have hc := pnt_c (t := t) (sv_rs h) hd.1.2 hd.2.1.2 h1 h2 h4 h5
  refine EvI (e_X6_paint c r lc la cn x y u v t V h.1 h1 h2 h4 h5 ht) (fun z m ⟨hv, hm⟩ => ⟨hc.1.symm.trans hv, ?_⟩)
  have e6 : (pnt (saveM V la cn) c x y u v t).2 0 6 = 1 := by
    show uM (ptR 8 t c x (u - x + 1) y (v - y + 1) (0, saveM V la cn)).2 0 6 1 0 6 = 1
    exact uM_s _ _ _ _
  refine ST_mr (W := (pnt (saveM V la cn) c x y u v t).2) h (fun p q hp => ?_) e6 (by rw [← hm]; exact Rf0_r1 e6) hc.2 (RG_pnt h.2.2.1 ht)
  show uM _ 0 6 1 p q = _
  rw [uM_n (by omega), ptR_out (by omega)]
theorem o_addLamp (h : ST V S c r lc T cn L b) {x y : Int32} (hn : nlOK x y) (hl : lc < 8) : EvN ΛC mX6_addLamp [.ref 109, .int x, .int y] V (qI (fun v V2 => nI lc = v ∧ ST V2 (hang S 0 lc x y) c r (lc + 1) (pT S T) (nx cn) L b)) := by
  obtain ⟨la, h⟩ := h
  have hl4 := CIv_la h.1
  refine EvI (e_X6_addLamp c r lc la cn x y V h.1 hn hl) (fun v m ⟨hv, hm⟩ => ⟨hv, ?_⟩)
  exact ST_do (w := 3) (n := fun j => if j = 0 then x else y) h (by decide) (by decide) ⟨hn, by rw [saveM_out hl4.1 (by omega), h.1.2.2.1]; exact (nI_ltI (b := 8) (by omega) (by decide)).mpr hl⟩ hm (by rw [← hm]; exact RS_hang (sv_rs h) lc x y) (RG_hang h.2.2.1 hn)
theorem o_setCorner (h : ST V S c r lc T cn L b) {k i : Nat} {x y : Int32} (hk : k < lc) (hi : i < 4) (hxy : coOK x y) : EvN ΛC mX6_setCorner [.ref 109, .int (nI k), .int (nI i), .int x, .int y] V (qI (fun v V2 => (if goodB (mvc S 0 (4 * k + i) x y) 0 k = true then 1 else 0) = v ∧ ST V2 (mvc S 0 (4 * k + i) x y) c r lc (pT S T) (nx cn) L b)) := by
  obtain ⟨la, h⟩ := h
  have hd := h.dim
  have hR := RS_mvc (sv_rs h) (4 * k + i) x y
  refine EvI (e_X6_setCorner c r lc la cn k i x y V h.1 hk hi hxy) (fun v m ⟨hv, hm⟩ => ⟨by rw [← hv, good_c hR (show k < 8 by omega)], ?_⟩)
  have e6 := mvc_6 (saveM V la cn) (4 * k + i) x y
  exact ST_mr (W := mvc (saveM V la cn) 0 (4 * k + i) x y) h (fun p q hp => mvc_out (by omega) (by omega) (by omega)) e6 (by rw [← hm]; exact Rf0_r1 e6) hR (RG_mvc h.2.2.1 hxy)
theorem o_setRectangle (h : ST V S c r lc T cn L b) {k : Nat} {x y u v : Int32} (hk : k < lc) (hrc : rcOK x y u v) : EvN ΛC mX6_setRectangle [.ref 109, .int (nI k), .int x, .int y, .int u, .int v] V (qI (fun z V2 => plcJ (rectM S k x y u v) lc c r k = z ∧ ST V2 (rectM S k x y u v) c r lc (pT S T) (nx cn) L b)) := by
  obtain ⟨la, h⟩ := h
  have hR := RS_rect (sv_rs h) k x y u v
  refine EvI (e_X6_setRectangle c r lc la cn k x y u v V h.1 hk hrc) (fun z m ⟨hv, hm⟩ => ⟨by rw [← hv, plcJ_c hR h.dim.2.2], ?_⟩)
  exact ST_mr (W := rectM (saveM V la cn) k x y u v) h (fun p q hp => rectM_out (by omega) (by omega) (by omega)) (mvc_6 _ _ _ _) (RfP_Rf0 hm) hR (RG_rect h.2.2.1 hrc)
theorem o_setLamp (h : ST V S c r lc T cn L b) {k w : Nat} {x : Int32} (hk : k < lc) (hw : w < 3) (hx : lvOK (nI w) x) : EvN ΛC mX6_setLamp [.ref 109, .int (nI k), .int (nI w), .int x] V (qI (fun v V2 => lvV S lc c r k w = v ∧ ST V2 (setM S k w x) c r lc (pT S T) (nx cn) L b)) := by
  obtain ⟨la, h⟩ := h
  have hd := h.dim
  refine EvI (e_X6_setLamp c r lc la cn k w x V h.1 hk hw hx) (fun v m ⟨hv, m0, hR, hm⟩ => ⟨by rw [← hv, lvV_c (sv_rs h) hd.2.2 (cr_le hd.1.2 hd.2.1.2) (show k < 8 by omega)], ?_⟩)
  have hl := CIv_la h.1
  have hm0 : ∀ p q : Nat, ¬ (p = 0 ∧ q = 6) → p < 75 ∨ 102 ≤ p → m0 p q = saveM V la cn p q := fun p q h0 hp => hR.2.2 p q h0 (by omega) (by omega) (by omega)
  have e6 : m 0 6 = 1 := by rw [← hm]; exact uM_s _ _ _ _
  have hme : ∀ p q : Nat, (p = 0 ∧ (q = 0 ∨ q = 1 ∨ q = 5)) ∨ 15 ≤ p → m p q = m0 p q := fun p q hp => by
    rw [← hm, uM_n (by omega), uM_n (by omega)]
  have hC := CIv_8 (CIv_rf (CIv_save h.1) (RfP_Rf0 hR)) (fun p q hp => hme p q (by omega)) e6
  refine ⟨_, STa_mut h hC ?_ (RG_set h.2.2.1 hw hx) (fun p q hp hp2 => (hme p q (by omega)).trans (hm0 p q (by omega) (by omega))) ?_ (fun q => ?_)⟩
  · rw [← hm]
    exact RS_set ((sv_rs h).keep (fun p q _ hp2 hn => hm0 p q (by omega) (by omega))) k w x
  · exact ((hme _ _ (by omega)).trans (hm0 _ _ (by omega) (by omega))).trans (saveM_out hl.1 (by omega))
  · exact ((hme _ _ (by omega)).trans (hm0 _ _ (by omega) (by omega))).trans (saveM_out hl.1 (by omega))
theorem o_setWorks (h : ST V S c r lc T cn L b) {k : Nat} {z : Int32} (hk : k < lc) : EvN ΛC mX6_setWorks [.ref 109, .int (nI k), .int z] V (qI (fun v V2 => (if wkB S 0 k = true then 1 else 0) = v ∧ ST V2 (wrkM S k z) c r lc (pT S T) (nx cn) L b)) := by
  obtain ⟨la, h⟩ := h
  have hd := h.dim
  refine EvI (e_X6_setWorks c r lc la cn k z V h.1 hk) (fun v m ⟨hv, hm⟩ => ⟨by rw [← hv, wk_c h.2.1 (show k < 8 by omega)], ?_⟩)
  have e6 : wrkM (saveM V la cn) k z 0 6 = 1 := uM_s _ _ _ _
  refine ST_mr (W := wrkM (saveM V la cn) k z) h (fun p q hp => ?_) e6 (by rw [← hm]; exact Rf0_r1 e6) (RS_wrk (sv_rs h) k z) (RG_wrk h.2.2.1)
  unfold wrkM; rw [uM_n (by omega), uM_n (by omega)]
theorem o_shift (h : ST V S c r lc T cn L b) {x y : Int32} (hs : shOK x y) : EvN ΛC mX6_shift [.ref 109, .int x, .int y] V (qI (fun v V2 => nI (c * r) - pstJ (movM S x y) lc c r 0 = v ∧ ST V2 (movM S x y) c r lc (pT S T) (nx cn) L b)) := by
  obtain ⟨la, h⟩ := h
  have hd := h.dim
  have hR := RS_mov (sv_rs h) x y
  refine EvI (e_X6_shift c r lc la cn x y V h.1 hs) (fun v m ⟨hv, hm⟩ => ⟨by rw [← hv, pstJ_c hR hd.2.2 (cr_le hd.1.2 hd.2.1.2)], ?_⟩)
  exact ST_mr (W := movM (saveM V la cn) x y) h (fun p q hp => movM_out (by omega)) (uM_s _ _ _ _) (RfP_Rf0 hm) hR (RG_mov h.2.2.1 hs)
theorem o_burn (h : ST V S c r lc T cn L b) {x : Int32} (hh : rgI x 1 9999) : EvN ΛC mX6_burn [.ref 109, .int x] V (qI (fun v V2 => maxN lc (burnM S (ldJ S lc c r) x lc 11) = v ∧ ST V2 (burnM S (ldJ S lc c r) x lc) c r lc (pT S T) (nx cn) L b)) := by
  obtain ⟨la, h⟩ := h
  have hd := h.dim
  refine EvI (e_X6_burn c r lc la cn x V h.1 hh) (fun v m ⟨m0, hR, hm, hv⟩ => ?_)
  have hl := CIv_la h.1
  have h0 : RS 0 0 m0 S := (sv_rs h).keep (fun p q _ hp2 hn => hR.2.2 p q hn (by omega) (by omega) (by omega))
  have hB : RS 0 0 m (burnM S (ldJ S lc c r) x lc) := by
    rw [← hm]
    exact burn_c h0 hd.2.2 (fun k hk => ldJ_c (sv_rs h) hd.2.2 (cr_le hd.1.2 hd.2.1.2) hk)
  refine ⟨by rw [← hv]; exact maxN_congr fun k hk => (rs_we hB (show k < 8 by omega)).symm, ?_⟩
  exact ST_do (w := 8) (n := fun _ => x) h (by decide) (by decide) hh ⟨m0, hR, hm⟩ hB (RG_burn h.2.2.1 hd hh)
theorem o_undo (h : ST V S c r lc T (cn + 1) L b) : EvN ΛC mX6_undo [.ref 109] V (qI (fun v V2 => nI cn = v ∧ ∃ c2 r2 l2, ST V2 (T 0) c2 r2 l2 (fun j => T (j + 1)) cn L b)) := by
  obtain ⟨la, h⟩ := h
  refine EvI (e_X6_undo c r lc la cn V h.1) (fun v m ⟨hv, hm⟩ => ⟨hv, ?_⟩)
  obtain ⟨c2, r2, l2, hs⟩ := STa_un h
  rw [hm] at hs
  exact ⟨c2, r2, l2, _, hs⟩
/-! the text -/
def upB (b : Nat → Int32) (L : Nat) (v : Int32) : Nat → Int32 := fun i => if i = L then v else b i
theorem STa_tx {b2 : Nat → Int32} {L2 : Nat} (h : STa V S c r lc la T cn L b) (hv : ∀ p q : Nat, p ≠ 102 → p ≠ 105 → V2 p q = V p q) (hT : TX V2 L2) (hb : bt V2 = b2) : STa V2 S c r lc la T cn L2 b2 := by
  obtain ⟨⟨h1, h2, h3, h4, h5, h6, h7⟩, hR, hG, hH, hX, hb0⟩ := h
  have hla := h6.2.2.2.2.2.1
  refine ⟨⟨(hv _ _ (by decide) (by decide)).trans h1, (hv _ _ (by decide) (by decide)).trans h2, (hv _ _ (by decide) (by decide)).trans h3, (hv _ _ (by decide) (by decide)).trans h4, (hv _ _ (by decide) (by decide)).trans h5, h6, fun h0 => ?_⟩, hR.keep (fun p q _ hp2 _ => hv p q (by omega) (by omega)), hG, fun j hj => ⟨(hH j hj).1.keep (fun p q hp hp2 _ => ?_), (hH j hj).2⟩, hT, hb⟩
  · rw [hv _ _ (by decide) (by decide)] at h0
    exact SVok_same (h7 h0) (fun j q _ _ => hv _ _ (by omega) (by omega)) (hv _ _ (by decide) (by decide)) (hv _ _ (by decide) (by decide)) (hv _ _ (by decide) (by decide)) (fun p q _ _ => hv _ _ (by omega) (by omega))
  · unfold slP at hp hp2; exact hv p q (by omega) (by omega)
theorem o_type (h : ST V S c r lc T cn L b) {v : Int32} (ht : rgI v 0 127) (hL : L < 150) : EvN ΛC mX6_type [.ref 109, .int v] V (qI (fun z V2 => nI (L + 1) = z ∧ ST V2 S c r lc T cn (L + 1) (upB b L v))) := by
  obtain ⟨la, h⟩ := h
  refine EvI (e_X6_type L v V ht h.2.2.2.2.1.1 hL) (fun z m ⟨hv, hm⟩ => ⟨hv, la, ?_⟩)
  have hb : bt m = upB b L v := by
    funext i
    have e0 : bt V i = b i := congrFun h.2.2.2.2.2 i
    unfold upB
    by_cases e : i = L
    · subst e
      rw [if_pos rfl, ← hm]
      unfold bt
      rw [if_pos hL, uM_n (by omega), uM_s]
    · rw [if_neg e, ← e0, ← hm]
      unfold bt
      split
      · rw [uM_n (by omega), uM_n (by omega)]
      · rfl
  refine STa_tx h (fun p q h1 h2 => by rw [← hm, uM_n (by omega), uM_n (by omega)]) ⟨by rw [← hm]; exact uM_s _ _ _ _, by omega, fun i hi => ?_⟩ hb
  rw [hb]
  unfold upB
  rw [if_neg (by omega), ← h.2.2.2.2.2]
  exact h.2.2.2.2.1.2.2 i (by omega)
theorem o_clear (h : ST V S c r lc T cn L b) : EvN ΛC mX6_clearCommands [.ref 109] V (qI (fun z V2 => nI L = z ∧ ST V2 S c r lc T cn 0 (fun _ => 0))) := by
  obtain ⟨la, h⟩ := h
  refine EvI (e_X6_clearCommands V) (fun z m ⟨hv, hm⟩ => ⟨h.2.2.2.2.1.1.symm.trans hv, la, ?_⟩)
  have hb : bt m = fun _ => 0 := by
    funext i
    rw [← hm]
    unfold bt
    split
    · next hi => exact setRow_in hi
    · rfl
  exact STa_tx h (fun p q h1 h2 => by rw [← hm, setRow_out (by omega), uM_n (by omega)]) ⟨by rw [← hm, setRow_out (by omega), uM_s]; rfl, by decide, fun i _ => by rw [hb]⟩ hb
end OPS
