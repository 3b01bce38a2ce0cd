/-! the methods of the law -/
def wsL (M : MD) (HH : List (Nat × Nat × Nat × Nat)) : List Cond := Cond.codeWith (mdY M) (mdB M) (mdN M) (mdR M) HH :: WS
def PcL (gl : GLT) (sz : Nat) (av : List Value) (ω : WDt) : Array Value → State → Prop :=
  va_Pc (av.map (cv (adL gl))) (fun U => U.heap.size = sz ∧ WPL gl ω U.heap ∧ DL gl (AAL gl sz) ∧ SFL gl (AAL gl sz) U U.heap)
def EvL (M : MD) (HH : List (Nat × Nat × Nat × Nat)) (av : List Value) (ω : WDt) (P : Int32 → WDt → Prop) : Prop := ∀ (l : Launch) (gl : GLT) (sz : Nat), l.stackTraces = false → vx_Met l (mdY M) (wsL M HH) (mdG M) (PcL gl sz av ω) (QcL gl (AAL gl sz) P) (fun _ _ _ => False) 1 6 (AAL gl sz)
theorem SFL.step {gl : GLT} {A B : Nat → Prop} {s U : State} {H0 H : Heap} (h : SFL gl A s H0) (hW : s.WarmedH U.vm) (hk : ∀ a : Nat, a < H0.size → ¬ A a → H[a]? = H0[a]?) (hB : ∀ q, B q → A q) : SFL gl B U H :=
  ⟨h.1.step hW hk hB, h.2.1.step hW hk hB, h.2.2.1.moved hW.alike, h.2.2.2.1.moved hW.alike, h.2.2.2.2.moved hW.alike⟩
theorem SFL.same {gl : GLT} {A : Nat → Prop} {s U : State} {H : Heap} (h : SFL gl A s H) (hv : s.vm = U.vm) : SFL gl A U H :=
  h.step (by rw [← hv]; exact State.WarmedH.refl s) (fun _ _ _ => rfl) (fun _ h => h)
theorem PcL_blind {gl : GLT} {sz : Nat} {av : List Value} {ω : WDt} : FrameBlind (PcL gl sz av ω) := by
  intro a U gf mk h
  obtain ⟨h0, h1, h2, h3, h4⟩ := h
  exact ⟨h0, h1, h2, h3, SFL.same (U := U.calling gf mk a) h4 rfl⟩
theorem DL_self {gl : GLT} {A : Nat → Prop} (h : DL gl A) (sz : Nat) : DL gl (AAL gl sz) :=
  ⟨⟨h.1.1, fun i hi => Or.inl (Or.inl ⟨i, hi, rfl⟩)⟩, ⟨h.2.1.1, fun i hi => Or.inr (Or.inl (Or.inl ⟨i, hi, rfl⟩))⟩, Or.inr (Or.inr rfl), h.2.2.2⟩
theorem AAL_in {gl : GLT} {A : Nat → Prop} {sz sz2 : Nat} (h : DL gl A) (hA : ∀ q, sz ≤ q → A q) (hz : sz ≤ sz2) : ∀ q, AAL gl sz2 q → A q := by
  rintro q (h1 | h1 | rfl)
  · exact AA_in h.1 hA hz q h1
  · exact AA_in h.2.1 hA hz q h1
  · exact h.2.2.1
theorem AAL_ge {gl : GLT} {sz q : Nat} (h : sz ≤ q) : AAL gl sz q := Or.inl (Or.inr h)
theorem good_wsL {M : MD} {HH : List (Nat × Nat × Nat × Nat)} (h : Cond.codeWith (mdY M) (mdB M) (mdN M) (mdR M) HH ∈ WS) : GoodIn WS (wsL M HH) := by
  intro w hw
  rcases List.mem_cons.mp hw with rfl | hw
  · exact ⟨h, goodWS h⟩
  · exact ⟨hw, goodWS hw⟩
theorem EvL_of {M : MD} {HH : List (Nat × Nat × Nat × Nat)} {av : List Value} {ω : WDt} {P : Int32 → WDt → Prop} {ls : List (Nat × Value)} (hy : plainName (mdY M).cls = true) (ho : (mdY M).cls = mdO M) (hl : ∀ ad : Nat → Nat, lv_args 0 (av.map (cv ad)) = lm ad ls) (hn : ∀ ad : Nat → Nat, (lg_sl (av.map (cv ad))).length ≤ mdN M)
    (k : XL (.inl P) M HH 0 0 0 ls [] ω) : EvL M HH av ω P := by
  intro l gl sz hst
  refine vx_ofWH (cc := mdB M) (maxL := mdN M) (ret := mdR M) (hh := HH) hy rfl ?_
  intro p e s m args below meth c s₁ B hml hv
  obtain ⟨rfl, hsz, hP, hD, hF⟩ := hv
  subst hsz
  have hts : ∀ w ∈ wsL M HH, w.before (av.map (cv (adL gl))).toArray s = true := atoms_spec (ws := wsL M HH) B.pre
  have htab := vx_table (x := mdY M) B (hts _ List.mem_cons_self)
  have hown : s.vm.findClass (mdY M).cls = some m.cls := findClass_of_methodNamed B.named
  have hle := lv_entry (av.map (cv (adL gl))) (n := mdN M) (hn (adL gl))
  rw [lg_entry_eq]
  rw [hl (adL gl)] at hle
  exact k p l e s m _ below meth c s.heap [] gl (AAL gl s.heap.size) _ ⟨B.exec, B.bytes, hml, by rw [← ho]; exact hown, fun w hw => hts w (List.mem_cons_of_mem _ hw), B.returns, B.notSynchronized, fun _ => htab, hst, hD, fun q hq => AAL_ge hq, hF, fun r q => by simp at q⟩ hP va_S.rf hle
section LD
variable {kp : KPt} {M : MD} {HH : List (Nat × Nat × Nat × Nat)} {nc ns : Nat} {ls : List (Nat × Value)} {st rest : List Value} {pc : Nat}
/-- a call of a method of the law -/
theorem L_callW {M2 : MD} {H2 : List (Nat × Nat × Nat × Nat)} {index : Nat} {ω : WDt} {P : Int32 → WDt → Prop} (pc : Nat) (As : List Value) (hE : EvL M2 H2 As ω P) (d : decode (mdB M) pc = .ok (.invokestatic index, 3)) (hL : Cond.methodLink (mdO M) index (mdY M2) ∈ WS) (hc : Cond.codeWith (mdY M2) (mdB M2) (mdN M2) (mdR M2) H2 ∈ WS) (hi : Cond.initialized (mdY M2).cls ∈ WS) (hs : Cond.static (mdY M2) ∈ WS) (hh : (mdY M2).cls ≠ "java/lang/invoke/MethodHandle" ∧ (mdY M2).cls ≠ "java/lang/invoke/VarHandle") (hn : (parseMethodDescriptor (mdY M2).desc).map (fun d => d.parameters.length) = some As.length) (hR : ROK M M2) (h0 : (mdG M2).cells = 1 ∧ (mdG M2).slots = 6) (hcr : nc + 1 ≤ (mdG M).cells ∧ ns + 6 ≤ (mdG M).slots) (hst : st = As.reverse ++ rest) (hcat : (rest.map fun v => v.category).sum ≤ 8)
    (k : ∀ r ω2, P r ω2 → XL kp M HH (nc + 1) (ns + 6) (pc + 3) ls (.int r :: rest) ω2) : XL kp M HH nc ns pc ls st ω := by
  subst hst
  intro p l e s m args below meth c H locs gl A lsA C0 hP hS hl
  have hts := C0.2.2.2.2.1
  have hown := C0.2.2.2.1
  have hD := C0.2.2.2.2.2.2.2.2.2.1
  have hA := AAL_in hD C0.2.2.2.2.2.2.2.2.2.2.1 hS.1
  have hsz : lsA.size = mdN M := lv_size hl
  have hpre : PreS s H (PcL gl H.size As ω) (As.map (cv (adL gl))) := ⟨PcL_blind, fun U hU hW => ⟨rfl, by rw [hU], by rw [hU]; exact hP, DL_self hD _, by rw [hU]; exact SFL.step C0.2.2.2.2.2.2.2.2.2.2.2.1 hW hS.2.1 hA⟩⟩
  have hcat2 : 2 * (F0 m pc lsA ((As.reverse ++ rest).map (cv (adL gl)))).monitorRoom + ((rest.map (cv (adL gl))).map fun v => v.category).sum ≤ 8 := by
    rw [cat_map]; exact lv_room hcat
  have hstk : (As.reverse ++ rest).map (cv (adL gl)) = (As.map (cv (adL gl))).reverse ++ rest.map (cv (adL gl)) := by
    rw [List.map_append, List.map_reverse]
  have run := vx_runSX (p := p) (l := l) (e := e) (below := below) (meth := meth) (R := mdG M) (s := s) (m := m) (args := args) (c := c) (H := H) (locs := locs) (cells := nc) (slots := ns) (hh := H2) (As := As.map (cv (adL gl))) (rest := rest.map (cv (adL gl))) ⟨C0.1, C0.2.1, C0.2.2.1, hown, hts⟩ (hE l gl H.size C0.2.2.2.2.2.2.2.2.1) ⟨⟨h0.1, h0.2, hR.1, hR.2, pay_in hts (good_wsL hc), List.mem_cons_self⟩, hts _ hc, hts _ hi, hh, fun sig h => by rw [h] at hn; exact (Option.some.inj hn).symm, hts _ hL, hts _ hs⟩ hpre (g := F0 m pc lsA ((As.reverse ++ rest).map (cv (adL gl)))) rfl (by simp) hsz hstk hcat2 d hcr
  intro T hT X0
  rcases run T hT X0 with ⟨v, st₀, t, T', L, h0', X', hL', e1, e2, ⟨⟨r, ω2, hv, hp, hw⟩, hF⟩, stp⟩ | ⟨q, st₀, t, T', L, E, ce, h0', X', hL', e1, e2, hx, -⟩
  · cases hv
    obtain ⟨hz, hkp, hS1⟩ := vx_keep h0' e1 hS (fun q _ h => hA q h) hA hL' hF
    have hk := k r ω2 hp p l e s m args below meth c T'.heap (locs ++ L) gl A lsA C0 (by rw [e1]; exact hw) hS1 hl
    obtain ⟨t2, a1, b1⟩ := hk T' rfl X'
    exact ⟨t2, stp t2 a1, b1⟩
  · exact hx.elim
/-- a call of the class that throws, and is caught here by the first row of the table, or behind a row that does not take it -/
theorem L_catch {M2 : MD} {index : Nat} {ω : WDt} {E0 : String} {kf : Int32 → WDt → Prop} (pc : Nat) (As : List Value) (hI : ∀ ad : Nat → Nat, As.map (cv ad) = As) (hE : EvX ΛC M2 (.ref 109 :: As) ω.1 (fun E V2 => E0 = E ∧ ω.1 = V2)) (d : decode (mdB M) pc = .ok (.invokevirtual index, 3)) (hL : Cond.methodLink (mdO M) index (mdY M2) ∈ WS) (hm : WMV M2) (hn : (parseMethodDescriptor (mdY M2).desc).map (fun d => d.parameters.length) = some As.length) (hR : ROK M M2) (h0 : (mdG M2).cells = 1 ∧ (mdG M2).slots = 6) (hyc : (mdY M2).cls = RX6) (hcr : nc + 1 ≤ (mdG M).cells ∧ ns + 6 ≤ (mdG M).slots) (hst : st = As.reverse ++ .ref 0 :: rest) (hcat : (rest.map fun v => v.category).sum ≤ 8)
    (pre : List ExceptionTableEntry) (x : ExceptionTableEntry) (suf : List ExceptionTableEntry) (hsp : tableOf HH = pre ++ x :: suf) (hpass : ∀ z ∈ pre, z.catchType ≠ 0 ∧ ∃ nm : String, Cond.classLink (mdO M) z.catchType nm ∈ WS ∧ ((E0 = "java/lang/IllegalArgumentException" ∧ nm = "java/lang/IndexOutOfBoundsException") ∨ (E0 = "java/lang/IllegalStateException" ∧ nm = "java/lang/IllegalArgumentException"))) (hx : covers x pc = true) (hx0 : x.catchType ≠ 0) (hlk : Cond.classLink (mdO M) x.catchType E0 ∈ WS) (hex : E0 ∈ EXC)
    (k : ∀ q : Nat, XL (.inl kf) M HH (nc + 1) (ns + 6) x.handlerPc ls [.ref (q + 10)] ω) : XL (.inl kf) M HH nc ns pc ls st ω := by
  subst hst
  intro p l e s m args below meth c H locs gl A lsA C0 hP hS hl
  have hts := C0.2.2.2.2.1
  have hown := C0.2.2.2.1
  have hD := C0.2.2.2.2.2.2.2.2.2.1
  have hSF := C0.2.2.2.2.2.2.2.2.2.2.2.1
  have hK := hSF.1.1
  have hsz : lsA.size = mdN M := lv_size hl
  have hpre : PreV s H RX6 (gl.1.1 109) (PcN ΛC gl.1 H.size (.ref 109 :: As) ω.1) (As.map (cv gl.1.1)) := ⟨PcN_blind, va_recv hK (WPL_3.mp hP).1 vc6 (wO_at lyL ω.1), LPc C0 hP hS (.ref 109 :: As)⟩
  have hcat2 : 2 * (F0 m pc lsA ((As.reverse ++ .ref 0 :: rest).map (cv (adL gl)))).monitorRoom + ((rest.map (cv (adL gl))).map fun v => v.category).sum ≤ 8 := by
    rw [cat_map]; exact lv_room hcat
  have hstk : (As.reverse ++ .ref 0 :: rest).map (cv (adL gl)) = (As.map (cv gl.1.1)).reverse ++ .ref (gl.1.1 109) :: rest.map (cv (adL gl)) := by
    rw [List.map_append, List.map_reverse, hI, hI]; rfl
  have run := vx_runV (p := p) (l := l) (e := e) (below := below) (meth := meth) (R := mdG M) (s := s) (m := m) (args := args) (c := c) (H := H) (locs := locs) (cells := nc) (slots := ns) (As := As.map (cv gl.1.1)) (rest := rest.map (cv (adL gl))) ⟨C0.1, C0.2.1, C0.2.2.1, hown, hts⟩ (hE l gl.1 H.size C0.2.2.2.2.2.2.2.2.1) ⟨callB_of As.length hts (good_wsM hm.1.2.1) rfl h0.1 h0.2 (hts _ hm.1.1) (hts _ hL) ⟨hm.1.2.2.1, hm.1.2.2.2, hn⟩ hR, hts _ hm.2.1, by rw [← hyc]; exact hts _ hm.2.2⟩ hpre (g := F0 m pc lsA ((As.reverse ++ .ref 0 :: rest).map (cv (adL gl)))) rfl (by simp) hsz hstk hcat2 d hcr
  intro T hT X0
  have hA := AA_in hD.1 C0.2.2.2.2.2.2.2.2.2.2.1 hS.1
  rcases run T hT X0 with ⟨v, st₀, t, T', L, h0', X', hL', e1, e2, hF, -⟩ | ⟨q, st₀, t, T', L, E, ce, h0', X', hL', e1, e2, ⟨⟨V2, ⟨hp1, hp2⟩, hw⟩, hF⟩, hce, hcv, hcl, stp⟩
  · exact hF.elim
  · subst hp1
    subst hp2
    obtain ⟨hz, hkp, hS1⟩ := vx_keep h0' e1 hS (fun q _ h => hA q h) hA hL' hF
    have hW2 : WPL gl (ω.1, ω.2) T'.heap := WPL_C (V := ω.1) (r := ω.2) hP hD (by rw [e1]; exact hw) hkp
    have hk := k q p l e s m args below meth c T'.heap (locs ++ L) gl A lsA C0 hW2 hS1 hl
    have hcat := vx_catch (p := p) (l := l) (e := e) (R := mdG M) (s := s) (m := m) (args := args) (below := below) (meth := meth) (c := c) (H := T'.heap) (locs := locs ++ L) (cells := nc + 1) (slots := ns + 6) (pc := pc) (ls := lsA) (rest := rest.map (cv (adL gl))) (E := E0) (name := E0) (ce := ce) (q := q) hown pre x suf ((C0.2.2.2.2.2.2.2.1 rfl).trans hsp)
      (fun z hz => by
        obtain ⟨hz0, nm, hl1, hor⟩ := hpass z hz
        refine Or.inr ⟨hz0, nm, hts _ hl1, ?_⟩
        rcases hor with ⟨rfl, rfl⟩ | ⟨rfl, rfl⟩
        · exact hSF.2.2.2.1
        · exact hSF.2.2.2.2) hx hx0 (hts _ hlk) (va_Nw.use rfl (hSF.1.2.2.2.2.1.1 _ hex)) (by rw [e1]; exact hce) hcv hcl hk
    obtain ⟨t2, a1, b1⟩ := hcat T' rfl X'
    exact ⟨t2, stp.trans a1, b1⟩
/-- a method of the law ends -/
theorem L_ret {P : Int32 → WDt → Prop} {v : Int32} {ω : WDt} (pc : Nat) (d : decode (mdB M) pc = .ok (.ireturn, 1)) (hr : mdR M = some .int) (hc : nc ≤ 1) (hs : ns ≤ 6) (hQ : P v ω) : XL (.inl P) M HH nc ns pc ls [.int v] ω := by
  intro p l e s m args below meth c H locs gl A lsA C0 hP hS hl
  have hlk : meth.locks = false := C0.2.2.2.2.2.2.1
  refine W.widen (k := 1) (n := 6) hc hs ?_
  exact vx_ret (W.zret (Qc := QcL gl A P) C0.1 C0.2.1 (C0.2.2.2.2.2.1.trans hr) rfl (fun t ht _ => ⟨⟨v, ω, rfl, hQ, by rw [ht]; exact hP⟩, hS.F ht⟩) hS.2.2 d hlk)
/-- the law ends, with true -/
theorem L_end {y : MethodName} {ω : WDt} {sc : Nat × (Nat → Int32)} (pc : Nat) (d : decode code pc = .ok (.ireturn, 1)) (hc : nc ≤ 601024) (hs : ns ≤ 7293034) : XL (.inr sc) (RL, y, code, 7, ret, room_1) HH nc ns pc ls [.int 1] ω := by
  intro p l e s m args below meth c H locs gl A lsA C0 hP hS hl
  obtain ⟨ha, -, -, -, hA⟩ := C0.2.2.2.2.2.2.2.2.2.2.2.2 _ rfl
  subst ha
  refine va_forget (fun q hq => hA _ (hS.2.2 q hq)) ?_
  refine W.widen (k := 601024) (n := 7293034) hc hs ?_
  exact lw_ret C0.1 C0.2.1 C0.2.2.2.2.2.1 C0.2.2.2.2.2.2.1 d
theorem L_laload {ω : WDt} (pc : Nat) (d : decode (mdB M) pc = .ok (.laload, 1)) (k : XL kp M HH nc ns (pc + 1) ls (.long (ω.2.2 0) :: st) ω) : XL kp M HH nc ns pc ls (.int 0 :: .ref 2 :: st) ω := by
  intro p l e s m args below meth c H locs gl A lsA C0 hP hS hl
  exact va_lald C0.1 C0.2.1 C0.2.2.2.2.2.2.2.2.2.2.2.1.2.2.1 (WPL_3.mp hP).2.2 0 0 (a := gl.2.2.1) (f := ω.2.2) (n := 1) rfl rfl (vp_in_nI (n := 0) (by decide) (by decide)) d (k p l e s m args below meth c H locs gl A lsA C0 hP hS hl)
theorem L_lastore {ω : WDt} {v : Int64} (pc : Nat) (d : decode (mdB M) pc = .ok (.lastore, 1)) (k : ∀ f : Nat → Int64, f 0 = v → XL kp M HH nc ns (pc + 1) ls st (ω.1, ω.2.1, f)) : XL kp M HH nc ns pc ls (.long v :: .int 0 :: .ref 2 :: st) ω := by
  intro p l e s m args below meth c H locs gl A lsA C0 hP hS hl
  have hlen : (wO gl.1 ΛC ω.1 ++ wO gl.2.1 ΛM ω.2.1).length = 119 := by rw [List.length_append, wO_len, wO_len, lenC, lenM]
  have hat : (WL gl ω)[119]? = some (gl.2.2.1, .inl (gl.2.2.2.1, 1, .inr (.inl ω.2.2))) := by
    unfold WL
    rw [← List.append_assoc, List.getElem?_append_right (by omega), hlen]; rfl
  refine va_last C0.1 C0.2.1 C0.2.2.2.2.2.2.2.2.2.2.2.1.2.2.1 hP (D_WL C0.2.2.2.2.2.2.2.2.2.1 ω) hS 119 0 (a := gl.2.2.1) (f := ω.2.2) (n := 1) hat rfl (vp_in_nI (n := 0) (by decide) (by decide)) d (fun H1 locs1 hP1 _ hS1 => ?_)
  refine k (vp_updL ω.2.2 (0 : Int32).toNatClampNeg v) (if_pos rfl) p l e s m args below meth c H1 locs1 gl A lsA C0 ?_ hS1 hl
  have e2 : (WL gl ω).set 119 (gl.2.2.1, .inl (gl.2.2.2.1, 1, .inr (.inl (vp_updL ω.2.2 (0 : Int32).toNatClampNeg v)))) = WL gl (ω.1, ω.2.1, vp_updL ω.2.2 (0 : Int32).toNatClampNeg v) := by
    unfold WL
    rw [← List.append_assoc, List.set_append_right _ _ (by omega), hlen, List.append_assoc]; rfl
  unfold WPL
  rw [← e2]; exact hP1
theorem lg_cmp_rf (x : Int64) : lg_cmp x x = 0 := by simp [lg_cmp]
theorem L_lcmp {ω : WDt} {x y : Int64} (pc : Nat) (d : decode (mdB M) pc = .ok (.lcmp, 1)) (hxy : x = y) (k : XL kp M HH nc ns (pc + 1) ls (.int 0 :: st) ω) : XL kp M HH nc ns pc ls (.long y :: .long x :: st) ω := by
  subst hxy
  intro p l e s m args below meth c H locs gl A lsA C0 hP hS hl
  refine W.lcmp C0.1 C0.2.1 d ?_
  rw [lg_cmp_rf]
  exact k p l e s m args below meth c H locs gl A lsA C0 hP hS hl
end LD
section LE
variable {M : MD} {HH : List (Nat × Nat × Nat × Nat)} {nc ns : Nat} {ls : List (Nat × Value)} {st : List Value} {pc : Nat}
/-- the script's length and numbers: for the law alone -/
theorem L_slen {sc : Nat × (Nat → Int32)} {ω : WDt} (pc : Nat) (d : decode (mdB M) pc = .ok (.arraylength, 1)) (k : XL (.inr sc) M HH nc ns (pc + 1) ls (.int (nI sc.1) :: st) ω) : XL (.inr sc) M HH nc ns pc ls (.ref 3 :: st) ω := by
  intro p l e s m args below meth c H locs gl A lsA C0 hP hS hl
  obtain ⟨-, h2, h3, h4, -⟩ := C0.2.2.2.2.2.2.2.2.2.2.2.2 _ rfl
  exact va_slen C0.1 C0.2.1 h2 h3 h4 hS d (k p l e s m args below meth c H locs gl A lsA C0 hP hS hl)
theorem L_sld {sc : Nat × (Nat → Int32)} {i : Nat} {ω : WDt} (pc : Nat) (d : decode (mdB M) pc = .ok (.iaload, 1)) (hi : i < sc.1) (hL : sc.1 < 2147483648) (k : XL (.inr sc) M HH nc ns (pc + 1) ls (.int (sc.2 i) :: st) ω) : XL (.inr sc) M HH nc ns pc ls (.int (nI i) :: .ref 3 :: st) ω := by
  intro p l e s m args below meth c H locs gl A lsA C0 hP hS hl
  obtain ⟨-, h2, h3, h4, -⟩ := C0.2.2.2.2.2.2.2.2.2.2.2.2 _ rfl
  refine va_sld C0.1 C0.2.1 h2 h3 h4 hS (vp_in_nI hi hL) d ?_
  rw [nI_clamp (by omega)]
  exact k p l e s m args below meth c H locs gl A lsA C0 hP hS hl
end LE
