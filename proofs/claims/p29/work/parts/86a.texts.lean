/-! texts: a reader that can be reckoned -/
def isWd (b : Nat → Int32) (s e i : Nat) : Bool := decide (e = s + lnS i) && allN (lnS i) (fun k => decide (b (s + k) = chS i k))
theorem isWd_iff {b : Nat → Int32} {s e i : Nat} : isWd b s e i = true ↔ isW b s e i := by
  unfold isWd isW
  rw [Bool.and_eq_true, decide_eq_true_eq, allN_iff]
  exact ⟨fun h => ⟨h.1, fun k hk => of_decide_eq_true (h.2 k hk)⟩, fun h => ⟨h.1, fun k hk => decide_eq_true (h.2 k hk)⟩⟩
theorem pI_d {b : Nat → Int32} {s e i x y : Nat} : pI (isW b s e i) x y = bif isWd b s e i then x else y := by
  by_cases h : isW b s e i
  · rw [pI_t h, isWd_iff.mpr h]; rfl
  · rw [pI_f h, show isWd b s e i = false from Bool.eq_false_iff.mpr (fun z => h (isWd_iff.mp z))]; rfl
def wdK (b : Nat → Int32) (s e : Nat) : Nat := bif isWd b s e 0 then 1 else bif isWd b s e 1 then 2 else bif isWd b s e 2 then 3 else bif isWd b s e 3 then 4 else bif isWd b s e 4 then 5 else bif isWd b s e 5 then 6 else bif isWd b s e 6 then 7 else bif isWd b s e 7 then 8 else 0
theorem wdOf_K (b : Nat → Int32) (s e : Nat) : wdOf b s e = wdK b s e := by
  unfold wdOf wdK
  rw [pI_d, pI_d, pI_d, pI_d, pI_d, pI_d, pI_d, pI_d]
def rdCK (b : Nat → Int32) (L p : Nat) (f w : Int32) (n : Nat → Int32) : CR :=
  if L ≤ sk b p then (false, sk b p, f, w, n) else rdW b f n (sk b p) (lt b (sk b p)) (wdK b (sk b p) (lt b (sk b p)))
theorem rdC_K (b : Nat → Int32) (L p : Nat) (f w : Int32) (n : Nat → Int32) : rdC b L p f w n = rdCK b L p f w n := by
  unfold rdC rdCK
  rw [wdOf_K]
def rdAK (b : Nat → Int32) (L : Nat) : Nat → CR → CR
  | 0, r => r
  | k + 1, r => if (rdCK b L r.2.1 r.2.2.1 r.2.2.2.1 r.2.2.2.2).1 = true then rdAK b L k (rdCK b L r.2.1 r.2.2.1 r.2.2.2.1 r.2.2.2.2) else rdCK b L r.2.1 r.2.2.1 r.2.2.2.1 r.2.2.2.2
theorem rdA_K (b : Nat → Int32) (L : Nat) : ∀ k r, rdA b L k r = rdAK b L k r
  | 0, _ => rfl
  | k + 1, r => by
    unfold rdA rdAK
    rw [rdC_K, rdA_K b L k]
theorem rdCK_i (b : Nat → Int32) (L p : Nat) (f w w2 : Int32) (n n2 : Nat → Int32) : (rdCK b L p f w n).1 = (rdCK b L p f w2 n2).1 ∧ (rdCK b L p f w n).2.1 = (rdCK b L p f w2 n2).2.1 ∧ (rdCK b L p f w n).2.2.1 = (rdCK b L p f w2 n2).2.2.1 := by
  unfold rdCK
  split
  · exact ⟨rfl, rfl, rfl⟩
  · unfold rdW
    split
    · exact ⟨rfl, rfl, rfl⟩
    · exact ⟨rfl, rfl, rfl⟩
theorem rdAK_i (b : Nat → Int32) (L : Nat) : ∀ (k : Nat) (r r2 : CR), r.2.1 = r2.2.1 → r.2.2.1 = r2.2.2.1 → (rdAK b L k r).2.2.1 = (rdAK b L k r2).2.2.1
  | 0, _, _, _, h => h
  | k + 1, r, r2, h1, h2 => by
    obtain ⟨e1, e2, e3⟩ := rdCK_i b L r.2.1 r.2.2.1 r.2.2.2.1 r2.2.2.2.1 r.2.2.2.2 r2.2.2.2.2
    unfold rdAK
    rw [e1]
    rw [h1, h2] at e2 e3 ⊢
    split
    · exact rdAK_i b L k _ _ e2 e3
    · exact e3
/-- the fault; below 0: none -/
def ffV (b : Nat → Int32) (L : Nat) : Int32 := (rdAK b L 150 (true, 0, -1000, 0, fun _ => 0)).2.2.1
theorem ffC_V (V : Mm) (L : Nat) : (ffC V L).2.2.1 = ffV (bt V) L := by
  unfold ffC ffV
  rw [rdA_K]
  exact rdAK_i _ _ _ _ _ rfl rfl
theorem rdCK_t {b : Nat → Int32} {L p : Nat} {f w : Int32} {n : Nat → Int32} (f2 w2 : Int32) (n2 : Nat → Int32) (h : (rdCK b L p f w n).1 = true) : (rdCK b L p f2 w2 n2).1 = true ∧ (rdCK b L p f2 w2 n2).2.1 = (rdCK b L p f w n).2.1 ∧ (rdCK b L p f2 w2 n2).2.2.2 = (rdCK b L p f w n).2.2.2 := by
  unfold rdCK at h ⊢
  split at h
  · cases h
  · next hh =>
    rw [if_neg hh, if_neg hh]
    unfold rdW at h ⊢
    split at h
    · cases h
    · next h3 =>
      rw [if_neg h3, if_neg h3]
      unfold rdE at h ⊢
      split at h
      · next h4 =>
        rw [if_pos h4, if_pos h4]
        split at h
        · next h5 => rw [if_pos h5, if_pos h5]; exact ⟨rfl, rfl, rfl⟩
        · cases h
      · cases h
theorem rdCK_f {b : Nat → Int32} {L p : Nat} {f w : Int32} {n : Nat → Int32} (f2 w2 : Int32) (n2 : Nat → Int32) (h : ¬ (rdCK b L p f w n).1 = true) : ¬ (rdCK b L p f2 w2 n2).1 = true := fun z => h (rdCK_t f w n z).1
/-! may a command be carried out? -/
def rgB (x lo hi : Int32) : Bool := decide (lo ≤ x) && decide (x ≤ hi)
theorem rgB_i {x lo hi : Int32} : rgB x lo hi = true ↔ rgI x lo hi := by unfold rgB rgI; rw [Bool.and_eq_true, decide_eq_true_eq, decide_eq_true_eq]
def plB (c r : Nat) (x y : Int32) : Bool := (decide (0 ≤ x) && decide (x < nI c)) && (decide (0 ≤ y) && decide (y < nI r))
def lpB (lc : Nat) (n : Int32) : Bool := decide (0 ≤ n) && decide (n < nI lc)
def okK (c r lc w : Nat) (n : Nat → Int32) : Bool := match w with
  | 1 => rgB (n 0) 1 24 && rgB (n 1) 1 16
  | 2 => (plB c r (n 0) (n 1) && plB c r (n 2) (n 3)) && (decide (n 0 ≤ n 2) && (decide (n 1 ≤ n 3) && rgB (n 4) 0 255))
  | 3 => (rgB (n 0) 0 255 && rgB (n 1) 0 255) && decide (nI lc < 8)
  | 4 => (lpB lc (n 0) && rgB (n 1) 0 3) && (rgB (n 2) (-20) 40 && rgB (n 3) (-20) 40)
  | 5 => rgB (n 0) (-10) 10 && rgB (n 1) (-10) 10
  | 6 => lpB lc (n 0)
  | 7 => lpB lc (n 0)
  | _ => rgB (n 0) 1 9999
theorem okK_i {V : Mm} {c r lc w : Nat} {n : Nat → Int32} (hw : 1 ≤ w) (hw8 : w ≤ 8) (h0 : V 0 0 = nI c) (h1 : V 0 1 = nI r) (h5 : V 0 5 = nI lc) : okK c r lc w n = true ↔ cmdOK V w n := by
  have hp : ∀ x y, plB c r x y = true ↔ plOK V x y := fun x y => by unfold plB plOK; rw [h0, h1]; simp only [Bool.and_eq_true, decide_eq_true_eq, and_assoc]
  have hl : ∀ x, lpB lc x = true ↔ lpOK V x := fun x => by unfold lpB lpOK; rw [h5]; simp only [Bool.and_eq_true, decide_eq_true_eq]
  rcases (show w = 1 ∨ w = 2 ∨ w = 3 ∨ w = 4 ∨ w = 5 ∨ w = 6 ∨ w = 7 ∨ w = 8 by omega) with rfl | rfl | rfl | rfl | rfl | rfl | rfl | rfl
  · simp only [okK, cmdOK, Bool.and_eq_true, rgB_i, wallOK]
  · simp only [okK, cmdOK, Bool.and_eq_true, decide_eq_true_eq, hp, rgB_i, ptOK]
  · simp only [okK, cmdOK, Bool.and_eq_true, decide_eq_true_eq, rgB_i, nlOK, h5]
  · simp only [okK, cmdOK, Bool.and_eq_true, hl, rgB_i, coOK]
  · simp only [okK, cmdOK, Bool.and_eq_true, rgB_i, shOK]
  · exact hl _
  · exact hl _
  · exact rgB_i
theorem okK_n {c r lc w : Nat} {n n2 : Nat → Int32} (h : ∀ j, j < 5 → n j = n2 j) : okK c r lc w n = okK c r lc w n2 := by
  unfold okK
  rw [h 0 (by decide), h 1 (by decide), h 2 (by decide), h 3 (by decide), h 4 (by decide)]
/-- how many commands are carried out -/
def runK (b : Nat → Int32) (L : Nat) : Nat → Nat → Nat → Nat → Nat → Nat
  | 0, _, _, _, _ => 0
  | F + 1, p, c, r, lc => bif (rdCK b L p 0 0 (fun _ => 0)).1 && okK c r lc (tn (rdCK b L p 0 0 (fun _ => 0)).2.2.2.1) (rdCK b L p 0 0 (fun _ => 0)).2.2.2.2 then
      runK b L F (rdCK b L p 0 0 (fun _ => 0)).2.1 (cmC (tn (rdCK b L p 0 0 (fun _ => 0)).2.2.2.1) (rdCK b L p 0 0 (fun _ => 0)).2.2.2.2 c) (cmR (tn (rdCK b L p 0 0 (fun _ => 0)).2.2.2.1) (rdCK b L p 0 0 (fun _ => 0)).2.2.2.2 r) (cmL (tn (rdCK b L p 0 0 (fun _ => 0)).2.2.2.1) lc) + 1 else 0
theorem runK_s (b : Nat → Int32) (L F p c r lc : Nat) : runK b L (F + 1) p c r lc = bif (rdCK b L p 0 0 (fun _ => 0)).1 && okK c r lc (tn (rdCK b L p 0 0 (fun _ => 0)).2.2.2.1) (rdCK b L p 0 0 (fun _ => 0)).2.2.2.2 then
      runK b L F (rdCK b L p 0 0 (fun _ => 0)).2.1 (cmC (tn (rdCK b L p 0 0 (fun _ => 0)).2.2.2.1) (rdCK b L p 0 0 (fun _ => 0)).2.2.2.2 c) (cmR (tn (rdCK b L p 0 0 (fun _ => 0)).2.2.2.1) (rdCK b L p 0 0 (fun _ => 0)).2.2.2.2 r) (cmL (tn (rdCK b L p 0 0 (fun _ => 0)).2.2.2.1) lc) + 1 else 0 := rfl
theorem doC_RG {V m : Mm} {c r lc la cn w : Nat} {n : Nat → Int32} (h : CIv V c r lc la cn) (g : RG V) (hw : 1 ≤ w) (hw8 : w ≤ 8) (ho : cmdOK V w n) (hd : doC V lc c r w n m) : RG m := by
  rcases (show w = 1 ∨ w = 2 ∨ w = 3 ∨ w = 4 ∨ w = 5 ∨ w = 6 ∨ w = 7 ∨ w = 8 by omega) with rfl | rfl | rfl | rfl | rfl | rfl | rfl | rfl
  · have hd2 : wallM V 0 (n 0) (n 1) = m := hd
    rw [← hd2]; exact RG_wall g _ _
  · have hd2 : (pnt V c (tn (n 0)) (tn (n 1)) (tn (n 2)) (tn (n 3)) (n 4)).2 = m := hd
    rw [← hd2]; exact RG_pnt g ho.2.2.2
  · have hd2 : hang V 0 lc (n 0) (n 1) = m := hd
    rw [← hd2]; exact RG_hang g ho.1
  · have hd2 : mvc V 0 (4 * tn (n 0) + tn (n 1)) (n 2) (n 3) = m := hd
    rw [← hd2]; exact RG_mvc g ho.2
  · have hd2 : movM V (n 0) (n 1) = m := hd
    rw [← hd2]; exact RG_mov g ho
  · have hd2 : uM (uM V 12 (tn (n 0)) 0) 0 6 1 = m := hd
    rw [← hd2]; exact RG_wrk (z := 0) g
  · have hd2 : uM (uM V 12 (tn (n 0)) 1) 0 6 1 = m := hd
    rw [← hd2]; exact RG_wrk (z := 1) g
  · obtain ⟨m0, hR, hm⟩ := (hd : ∃ m0, RfP V lc c r m0 ∧ burnM m0 (ldJ V lc c r) (n 0) lc = m)
    have hdm := CIv_dim h
    have h0 : RS 0 0 m0 V := RS.refl.keep (fun p q _ hp2 hn => hR.2.2 p q hn (by omega) (by omega) (by omega))
    rw [← hm]
    exact RG_RS (burn_c h0 hdm.2.2 (fun _ _ => rfl)) (RG_burn g hdm ho)
theorem runC_inv {L la cn : Nat} : ∀ (F p c r lc : Nat) (V : Mm) (k : Nat) (m : Mm), runC L F p c r lc V k m → CIv V c r lc la cn → RG V → k = runK (bt V) L F p c r lc ∧ ∃ c2 r2 l2, CIv m c2 r2 l2 la cn ∧ RG m ∧ (∀ p q : Nat, 15 ≤ p → p < 75 → m p q = V p q) ∧ m 102 2 = V 102 2 ∧ ∀ q, m 105 q = V 105 q
  | 0, p, c, r, lc, V, k, m, h, hC, hG => by
    obtain ⟨rfl, rfl⟩ := h
    exact ⟨rfl, c, r, lc, hC, hG, fun _ _ _ _ => rfl, rfl, fun _ => rfl⟩
  | F + 1, p, c, r, lc, V, k, m, h, hC, hG => by
    have hCm := CIv_cm hC
    have hcell : ∀ (z : CR) (p q : Nat), p ≠ 102 → p ≠ 106 → CM V z p q = V p q := fun z p q h1 h2 => cm_o h1 h2
    have hGm : ∀ z : CR, RG (CM V z) := fun z => RG_RS (RS.refl.keep (fun p q _ hp2 _ => hcell z p q (by omega) (by omega))) hG
    rcases h with ⟨h1, hok, k1, m1, rfl, hd, hr⟩ | ⟨hno, rfl, rfl⟩
    · obtain ⟨w, hw1, hw8, ew, -⟩ := rdC_wd h1
      generalize hz : rdC (bt V) L p (V 102 4) (V 102 5) (V 106) = z at *
      rw [rdC_K] at hz
      have h1' : (rdCK (bt V) L p (V 102 4) (V 102 5) (V 106)).1 = true := by rw [hz]; exact h1
      obtain ⟨t1, t2, t3⟩ := rdCK_t 0 0 (fun _ => 0) h1'
      rw [hz] at t2 t3
      have eW : wOf (CM V z) = tn z.2.2.2.1 := congrArg tn (cm_5 V z.2.1 z.2.2.1 z.2.2.2.1 z.2.2.2.2)
      have eT : tn z.2.2.2.1 = w := by rw [ew]; exact nI_clamp (by omega)
      have eN : ∀ j, j < 5 → CM V z 106 j = z.2.2.2.2 j := fun j hj => cm_n hj
      rw [eW, eT] at hok hd hr
      have hCd := doC_CIv (hCm z.2.1 z.2.2.1 z.2.2.2.1 z.2.2.2.2) hw1 hw8 hok hd
      have hGd := doC_RG (hCm z.2.1 z.2.2.1 z.2.2.2.1 z.2.2.2.2) (hGm z) hw1 hw8 hok hd
      have eb : bt m1 = bt V := (bt_same (fun q => doC_out hd (Or.inr (by omega)))).trans (bt_cm _ _ _ _ _)
      obtain ⟨ih1, c2, r2, l2, i1, i2, i3, i4, i5⟩ := runC_inv F _ _ _ _ m1 k1 m hr hCd hGd
      have hC0 := hCm z.2.1 z.2.2.1 z.2.2.2.1 z.2.2.2.2
      have ok1 : okK c r lc w z.2.2.2.2 = true := by
        rw [← okK_n eN]; exact (okK_i hw1 hw8 hC0.1 hC0.2.1 hC0.2.2.1).mpr hok
      refine ⟨?_, c2, r2, l2, i1, i2, fun p q hp hp2 => ((i3 p q hp hp2).trans (doC_out hd (Or.inl ⟨hp, hp2⟩))).trans (hcell z p q (by omega) (by omega)), (i4.trans (doC_out hd (Or.inr (by omega)))).trans (cm_2 _ _ _ _ _), fun q => ((i5 q).trans (doC_out hd (Or.inr (by omega)))).trans (hcell z _ q (by decide) (by decide))⟩
      have eC : cmC w (CM V z 106) c = cmC w z.2.2.2.2 c := by unfold cmC; rw [eN 0 (by decide)]
      have eR : cmR w (CM V z 106) r = cmR w z.2.2.2.2 r := by unfold cmR; rw [eN 1 (by decide)]
      rw [ih1, eb, eC, eR, runK_s, t1, t2, t3, eT, ok1]
      rfl
    · refine ⟨?_, c, r, lc, hCm _ _ _ _, hGm _, fun p q hp hp2 => hcell _ p q (by omega) (by omega), cm_2 _ _ _ _ _, fun q => hcell _ _ q (by decide) (by decide)⟩
      have hwd := fun q => rdC_wd (b := bt V) (L := L) (p := p) (f := V 102 4) (w := V 102 5) (n := V 106) q
      generalize hz : rdC (bt V) L p (V 102 4) (V 102 5) (V 106) = z at *
      rw [rdC_K] at hz
      rw [runK_s]
      by_cases h1 : z.1 = true
      · have h1' : (rdCK (bt V) L p (V 102 4) (V 102 5) (V 106)).1 = true := by rw [hz]; exact h1
        obtain ⟨t1, t2, t3⟩ := rdCK_t 0 0 (fun _ => 0) h1'
        rw [hz] at t3
        have hno2 : ¬ cmdOK (CM V z) (wOf (CM V z)) (CM V z 106) := fun q => hno ⟨h1, q⟩
        have eW : wOf (CM V z) = tn z.2.2.2.1 := congrArg tn (cm_5 V z.2.1 z.2.2.1 z.2.2.2.1 z.2.2.2.2)
        have eN : ∀ j, j < 5 → CM V z 106 j = z.2.2.2.2 j := fun j hj => cm_n hj
        have hC0 := hCm z.2.1 z.2.2.1 z.2.2.2.1 z.2.2.2.2
        obtain ⟨w, hw1, hw8, ew, -⟩ := hwd h1
        have eT : tn z.2.2.2.1 = w := by rw [ew]; exact nI_clamp (by omega)
        rw [eW, eT] at hno2
        have ok0 : okK c r lc w z.2.2.2.2 = false := by
          rw [← okK_n eN]
          exact Bool.eq_false_iff.mpr (fun q => hno2 ((okK_i hw1 hw8 hC0.1 hC0.2.1 hC0.2.2.1).mp q))
        rw [t1, t3, eT, ok0]
        rfl
      · have h1' : ¬ (rdCK (bt V) L p (V 102 4) (V 102 5) (V 106)).1 = true := by rw [hz]; exact h1
        rw [show (rdCK (bt V) L p 0 0 (fun _ => 0)).1 = false from Bool.eq_false_iff.mpr (rdCK_f 0 0 (fun _ => 0) h1')]
        rfl
theorem DM_u {S : Mm} {c r lc c2 r2 l2 : Nat} (h : DM S c r lc) (h2 : DM S c2 r2 l2) : c2 = c ∧ r2 = r ∧ l2 = lc := by
  have inj : ∀ a b : Nat, a < 1000 → b < 1000 → nI a = nI b → b = a := fun a b ha hb e => by
    have := congrArg Int32.toNatClampNeg e
    rw [nI_clamp (by omega), nI_clamp (by omega)] at this
    exact this.symm
  obtain ⟨⟨a1, a2, a3⟩, b1, b2, b3⟩ := h
  obtain ⟨⟨d1, d2, d3⟩, e1, e2, e3⟩ := h2
  exact ⟨inj _ _ (by omega) (by omega) (a1.symm.trans d1), inj _ _ (by omega) (by omega) (a2.symm.trans d2), inj _ _ (by omega) (by omega) (a3.symm.trans d3)⟩
section RUN
variable {V S : Mm} {c r lc cn L : Nat} {T : Nat → Mm} {b : Nat → Int32}
theorem o_undo2 (h : ST V S c r lc T (cn + 1) L b) {c2 r2 l2 : Nat} (hD : DM (T 0) c2 r2 l2) : EvN ΛC mX6_undo [.ref 109] V (qI (fun v V2 => nI cn = v ∧ ST V2 (T 0) c2 r2 l2 (fun j => T (j + 1)) cn L b)) := by
  refine EvI (o_undo h) (fun v m ⟨hv, c3, r3, l3, hs⟩ => ⟨hv, ?_⟩)
  obtain ⟨rfl, rfl, rfl⟩ := DM_u hD hs.dm
  exact hs
theorem o_runCommands (h : ST V S c r lc T cn L b) : EvN ΛC mX6_runCommands [.ref 109] V (qI (fun v V2 => (¬ ffV b L < 0 ∧ -10 - ffV b L = v ∧ ST V2 S c r lc T cn L b) ∨ (ffV b L < 0 ∧ nI (runK b L 150 0 c r lc) = v ∧ ∃ S2 c2 r2 l2, ST V2 S2 c2 r2 l2 (pT S T) (nx cn) L b))) := by
  obtain ⟨la, h⟩ := h
  refine EvI (e_X6_runCommands c r lc la cn L V h.1 h.2.2.2.2.1) (fun v m hm => ?_)
  rw [ffC_V, h.2.2.2.2.2] at hm
  rcases hm with ⟨h1, h2, h3⟩ | ⟨h1, k, h2, h3⟩
  · refine Or.inl ⟨h1, h2, la, ?_⟩
    rw [← h3]
    exact STa_q h (fun p q h0 hp => cm_o (by omega) (by omega)) (cm_2 _ _ _ _ _) (CIv_cm h.1 _ _ _ _).2.2.2.2.2.2
  · have hl := CIv_la h.1
    have h0 : STa (CM V (ffC V L)) S c r lc la T cn L b := STa_q h (fun p q h0 hp => cm_o (by omega) (by omega)) (cm_2 _ _ _ _ _) (CIv_cm h.1 _ _ _ _).2.2.2.2.2.2
    generalize CM V (ffC V L) = W at *
    have hCs := CIv_save h0.1
    have hGs : RG (saveM W la cn) := RG_RS (sv_rs h0) h0.2.2.1
    have hGm : RG (cmM (saveM W la cn) 0 (-1000) (saveM W la cn 102 5) (saveM W la cn 106)) := RG_RS (RS.refl.keep (fun p q _ hp2 _ => cm_o (by omega) (by omega))) hGs
    obtain ⟨e, c2, r2, l2, i1, i2, i3, i4, i5⟩ := runC_inv _ _ _ _ _ _ _ _ h3 (CIv_cm hCs _ _ _ _) hGm
    have eb : bt (saveM W la cn) = b := (bt_same (fun q => saveM_out hl.1 (by omega))).trans h0.2.2.2.2.2
    rw [bt_cm, eb] at e
    refine Or.inr ⟨h1, by rw [← e]; exact h2, m, c2, r2, l2, _, STa_mut h0 i1 RS.refl i2 (fun p q hp hp2 => (i3 p q hp hp2).trans (cm_o (by omega) (by omega))) ((i4.trans (cm_2 _ _ _ _ _)).trans (saveM_out hl.1 (by omega))) (fun q => ((i5 q).trans (cm_o (by decide) (by decide))).trans (saveM_out hl.1 (by omega)))⟩
end RUN
/-! a new object -/
theorem z255 : rgI 0 0 255 := ⟨by decide, by decide⟩
theorem z900 : rgI 0 0 900 := ⟨by decide, by decide⟩
theorem z40 : rgI 0 (-20) 40 := ⟨by decide, by decide⟩
theorem RG00 : RG V0 := ⟨⟨⟨by decide, by decide⟩, ⟨by decide, by decide⟩⟩, fun _ _ => z255, fun _ _ => ⟨z255, z255, z900, Or.inl rfl, fun _ _ => ⟨z40, z40⟩⟩⟩
theorem bt00 (i : Nat) : bt V0 i = 0 := by unfold bt; split <;> rfl
theorem ST00 (T : Nat → Mm) : ST V0 V0 12 8 0 T 0 0 (fun _ => 0) :=
  ⟨0, ⟨by decide, by decide, by decide, by decide, by decide, by decide, fun h => absurd h (by decide)⟩, RS.refl, RG00, fun j hj => absurd hj (by omega), ⟨by decide, by decide, fun i _ => bt00 i⟩, funext bt00⟩
