theorem WL_1 {gl : GLT} {ω : WDt} : WL 1 gl ω = wO (ggL gl) ΛC ω.1 := rfl
theorem WL_2 {n : Nat} {gl : GLT} {ω : WDt} : WL (n + 2) gl ω = wO (ggL gl) ΛC ω.1 ++ [(gl.2.2.1, outE gl.2.1.2.1 ω.2)] := rfl
theorem sg_12 {sg : Nat} (h1 : 1 ≤ sg) : sg = 1 ∨ ∃ n, sg = n + 2 := by
  rcases Nat.lt_or_ge sg 2 with h | h
  · exact Or.inl (by omega)
  · exact Or.inr ⟨sg - 2, by omega⟩
theorem WPL_1 {sg : Nat} {gl : GLT} {ω : WDt} {H : Heap} (h1 : 1 ≤ sg) (h : WPL sg gl ω H) : va_P gl.2.1.1.1 vwCl (wO (ggL gl) ΛC ω.1) H := by
  unfold WPL at h
  rcases sg_12 h1 with e | ⟨n, e⟩
  · rw [e, WL_1] at h; exact h
  · rw [e, WL_2, P_app] at h; exact h.1
theorem WPL_fresh {sg : Nat} {gl : GLT} {ω : WDt} {H H2 : Heap} (h : WPL sg gl ω H) (hk : ∀ q : Nat, q < H.size → H2[q]? = H[q]?) : WPL sg gl ω H2 := P_cong h (fun _ _ hq => hk _ (vx_lt h hq))
theorem WPL_up {sg : Nat} {gl : GLT} {A : Nat → Prop} {V V2 : Mm} {f : Nat → Int64} {H H2 : Heap} (h1 : 1 ≤ sg) (hW : WPL sg gl (V, f) H) (hD : DL sg gl A) (hP : va_P gl.2.1.1.1 vwCl (wO (ggL gl) ΛC V2) H2) (hk : ∀ q : Nat, q < H.size → ¬ AA (ggL gl) ΛC H.size q → H2[q]? = H[q]?) : WPL sg gl (V2, f) H2 := by
  unfold WPL at hW ⊢
  rcases sg_12 h1 with e | ⟨n, e⟩
  · rw [e, WL_1]; exact hP
  · rw [e, WL_2, P_app] at hW ⊢
    refine ⟨hP, P_cong hW.2 (fun k q hq => ?_)⟩
    have hlt := vx_lt hW.2 hq
    obtain ⟨b, eb⟩ := List.getElem?_eq_some_iff.mp hq
    simp at b
    subst b
    have eq1 : q.1 = gl.2.2.1 := by rw [← eb]; rfl
    refine hk _ hlt ?_
    rintro (⟨i, hi, e2⟩ | e2)
    · exact (hD.2 (by omega)).2 i hi (e2.symm.trans eq1)
    · omega
theorem SCR0_none {gl : GLT} {A : Nat → Prop} {U : State} {H : Heap} : SCR0 none gl A U H := fun r h => by cases h
/-! contracts -/
def hdC (M : MD) (HH : Option (List (Nat × Nat × Nat × Nat))) : Cond := match HH with
  | none => Cond.code (mdY M) (mdB M) (mdN M) (mdR M)
  | some hh => Cond.codeWith (mdY M) (mdB M) (mdN M) (mdR M) hh
def wsW (M : MD) (HH : Option (List (Nat × Nat × Nat × Nat))) : List Cond := hdC M HH :: WS
theorem good_wsW {M : MD} {HH : Option (List (Nat × Nat × Nat × Nat))} (h : hdC M HH ∈ WS) : GoodIn WS (wsW M HH) := by
  intro w hw
  rcases List.mem_cons.mp hw with rfl | hw
  · exact ⟨h, goodWS h⟩
  · exact ⟨hw, goodWS hw⟩
def PcW (gl : GLT) (sz : Nat) (av : List Value) (V : Mm) : Array Value → State → Prop :=
  va_Pc (av.map (cv (adL gl))) (fun U => U.heap.size = sz ∧ va_P gl.2.1.1.1 vwCl (wO (ggL gl) ΛC V) U.heap ∧ DL 1 gl (AA (ggL gl) ΛC sz) ∧ FA gl.2.1 (AA (ggL gl) ΛC sz) U U.heap)
def PcA (sc : SCT) (gl : GLT) (sz : Nat) (av : List Value) : Array Value → State → Prop :=
  va_Pc (av.map (cv (adL gl))) (fun U => U.heap.size = sz ∧ FA gl.2.1 (fun q => sz ≤ q) U U.heap ∧ SCR0 sc gl (fun q => sz ≤ q) U U.heap)
theorem SCR0.same {sc : SCT} {gl : GLT} {A : Nat → Prop} {s U : State} {H : Heap} (h : SCR0 sc gl A s H) (hv : s.vm.Alike U.vm) : SCR0 sc gl A U H := fun r hr => by
  obtain ⟨h1, h2, h3, h4⟩ := h r hr
  exact ⟨h1, h2.moved hv, h3, h4⟩
theorem PcW_blind {gl : GLT} {sz : Nat} {av : List Value} {V : Mm} : FrameBlind (PcW gl sz av V) := by
  intro a U gf mk h
  obtain ⟨h0, h1, h2, h3, h4⟩ := h
  exact ⟨h0, h1, h2, h3, FA.same (U := U.calling gf mk a) h4 rfl⟩
theorem PcA_blind {sc : SCT} {gl : GLT} {sz : Nat} {av : List Value} : FrameBlind (PcA sc gl sz av) := by
  intro a U gf mk h
  obtain ⟨h0, h1, h2, h3⟩ := h
  exact ⟨h0, h1, FA.same (U := U.calling gf mk a) h2 rfl, SCR0.same (U := U.calling gf mk a) h3 (State.WarmedH.refl U).alike⟩
/-- a method of the law, on an object with this memory, returns so that P -/
def EvW (M : MD) (HH : Option (List (Nat × Nat × Nat × Nat))) (av : List Value) (V : Mm) (P : Option Value → Mm → Prop) : Prop := ∀ (l : Launch) (gl : GLT) (sz : Nat), l.stackTraces = false → vx_Met l (mdY M) (wsW M HH) (mdG M) (PcW gl sz av V) (QcW gl (AA (ggL gl) ΛC sz) P) (fun _ _ _ => False) (mdG M).cells (mdG M).slots (AA (ggL gl) ΛC sz)
/-- a method of the law, without an object, returns so that P -/
def EvA (M : MD) (sc : SCT) (av : List Value) (P : Option Value → Prop) : Prop := ∀ (l : Launch) (gl : GLT) (sz : Nat), l.stackTraces = false → vx_Met l (mdY M) (wsW M none) (mdG M) (PcA sc gl sz av) (QcA (fun q => sz ≤ q) P) (fun _ _ _ => False) (mdG M).cells (mdG M).slots (fun q => sz ≤ q)
theorem DL_self {sg : Nat} {gl : GLT} {A : Nat → Prop} (h1 : 1 ≤ sg) (h : DL sg gl A) (sz : Nat) : DL 1 gl (AA (ggL gl) ΛC sz) :=
  ⟨fun _ => ⟨AD_self (h.1 h1).1 sz, (h.1 h1).2⟩, fun h => absurd h (by decide)⟩
theorem tab_nil {c : Code} (h : ∀ x ∈ c.exceptionTable.toList, False) : c.exceptionTable.toList = tableOf [] := by
  rw [show tableOf [] = [] from rfl]
  exact List.eq_nil_iff_forall_not_mem.mpr fun x hx => h x hx
theorem EvW_of {M : MD} {av : List Value} {V : Mm} {P : Option Value → Mm → Prop} {ls : List (Nat × Value)} (hy : plainName (mdY M).cls = true) (ho : (mdY M).cls = mdO M) (hl : ∀ ad : Nat → Nat, lv_args 0 (av.map (cv ad)) = lm ad ls) (hn : ∀ ad : Nat → Nat, (lg_sl (av.map (cv ad))).length ≤ mdN M)
    (k : ∀ f : Nat → Int64, XL (.inl P) none 1 M [] 0 0 0 ls [] (V, f)) : EvW M none av V P := by
  intro l gl sz hst
  refine vx_ofW (cc := mdB M) (maxL := mdN M) (ret := mdR M) hy rfl ?_
  intro p e s m args below meth c s₁ B hml htab hv
  obtain ⟨rfl, hsz, hP, hD, hF⟩ := hv
  subst hsz
  have hts : ∀ w ∈ wsW M none, w.before (av.map (cv (adL gl))).toArray s = true := atoms_spec (ws := wsW M none) B.pre
  have hown : s.vm.findClass (mdY M).cls = some m.cls := findClass_of_methodNamed B.named
  have hle := lv_entry (av.map (cv (adL gl))) (n := mdN M) (hn (adL gl))
  rw [lg_entry_eq]
  rw [hl (adL gl)] at hle
  exact k (fun _ => 0) p l e s m _ below meth c s.heap [] gl (AA (ggL gl) ΛC s.heap.size) _ ⟨B.exec, B.bytes, hml, by rw [← ho]; exact hown, fun w hw => hts w (List.mem_cons_of_mem _ hw), B.returns, B.notSynchronized, fun _ => tab_nil htab, hst, hD, fun q hq => Or.inr hq, hF, SCR0_none, fun q => absurd (show false = true from q) (by decide)⟩ hP va_S.rf hle
theorem EvW_ofH {M : MD} {HH : List (Nat × Nat × Nat × Nat)} {av : List Value} {V : Mm} {P : Option Value → Mm → Prop} {ls : List (Nat × Value)} (hy : plainName (mdY M).cls = true) (ho : (mdY M).cls = mdO M) (hl : ∀ ad : Nat → Nat, lv_args 0 (av.map (cv ad)) = lm ad ls) (hn : ∀ ad : Nat → Nat, (lg_sl (av.map (cv ad))).length ≤ mdN M)
    (k : ∀ f : Nat → Int64, XL (.inl P) none 1 M HH 0 0 0 ls [] (V, f)) : EvW M (some HH) av V P := by
  intro l gl sz hst
  refine vx_ofWH (cc := mdB M) (maxL := mdN M) (ret := mdR M) (hh := HH) hy rfl ?_
  intro p e s m args below meth c s₁ B hml hv
  obtain ⟨rfl, hsz, hP, hD, hF⟩ := hv
  subst hsz
  have hts : ∀ w ∈ wsW M (some HH), w.before (av.map (cv (adL gl))).toArray s = true := atoms_spec (ws := wsW M (some HH)) B.pre
  have htab := vx_table (x := mdY M) B (hts _ List.mem_cons_self)
  have hown : s.vm.findClass (mdY M).cls = some m.cls := findClass_of_methodNamed B.named
  have hle := lv_entry (av.map (cv (adL gl))) (n := mdN M) (hn (adL gl))
  rw [lg_entry_eq]
  rw [hl (adL gl)] at hle
  exact k (fun _ => 0) p l e s m _ below meth c s.heap [] gl (AA (ggL gl) ΛC s.heap.size) _ ⟨B.exec, B.bytes, hml, by rw [← ho]; exact hown, fun w hw => hts w (List.mem_cons_of_mem _ hw), B.returns, B.notSynchronized, fun _ => htab, hst, hD, fun q hq => Or.inr hq, hF, SCR0_none, fun q => absurd (show false = true from q) (by decide)⟩ hP va_S.rf hle
theorem EvA_of {M : MD} {sc : SCT} {av : List Value} {P : Option Value → Prop} {ls : List (Nat × Value)} (hy : plainName (mdY M).cls = true) (ho : (mdY M).cls = mdO M) (hl : ∀ ad : Nat → Nat, lv_args 0 (av.map (cv ad)) = lm ad ls) (hn : ∀ ad : Nat → Nat, (lg_sl (av.map (cv ad))).length ≤ mdN M)
    (k : ∀ ω : WDt, XL (.inr (.inl P)) sc 0 M [] 0 0 0 ls [] ω) : EvA M sc av P := by
  intro l gl sz hst
  refine vx_ofW (cc := mdB M) (maxL := mdN M) (ret := mdR M) hy rfl ?_
  intro p e s m args below meth c s₁ B hml htab hv
  obtain ⟨rfl, hsz, hF, hX⟩ := hv
  subst hsz
  have hts : ∀ w ∈ wsW M none, w.before (av.map (cv (adL gl))).toArray s = true := atoms_spec (ws := wsW M none) B.pre
  have hown : s.vm.findClass (mdY M).cls = some m.cls := findClass_of_methodNamed B.named
  have hle := lv_entry (av.map (cv (adL gl))) (n := mdN M) (hn (adL gl))
  rw [lg_entry_eq]
  rw [hl (adL gl)] at hle
  exact k (fun _ _ => 0, fun _ => 0) p l e s m _ below meth c s.heap [] gl (fun q => s.heap.size ≤ q) _ ⟨B.exec, B.bytes, hml, by rw [← ho]; exact hown, fun w hw => hts w (List.mem_cons_of_mem _ hw), B.returns, B.notSynchronized, fun _ => tab_nil htab, hst, ⟨fun h => absurd h (by decide), fun h => absurd h (by decide)⟩, fun q hq => hq, hF, hX, fun q => absurd (show false = true from q) (by decide)⟩ (fun k q h => by cases h) va_S.rf hle
section LC
variable {who : WHO} {sc : SCT} {sg : Nat} {M : MD} {HH : List (Nat × Nat × Nat × Nat)} {nc ns : Nat} {ls : List (Nat × Value)} {st rest : List Value} {pc : Nat}
theorem CL_SF {gl : GLT} {A : Nat → Prop} {p : Program} {l : Launch} {s : State} {m : MethodId} {args : Array Value} {meth : Method} {c : Code} (h1 : 1 ≤ sg) (C0 : CL who sc sg M HH gl A p l s m args meth c) : SF (ggL gl) A s s.heap := C0.2.2.2.2.2.2.2.2.2.2.2.1.2.2.1 gl.1 (C0.2.2.2.2.2.2.2.2.2.1.1 h1).2
theorem LPc {gl : GLT} {A : Nat → Prop} {p : Program} {l : Launch} {s : State} {m : MethodId} {args : Array Value} {meth : Method} {c : Code} {H : Heap} {locs : List Loc} {ω : WDt} (h1 : 1 ≤ sg) (C0 : CL who sc sg M HH gl A p l s m args meth c) (hP : WPL sg gl ω H) (hS : va_S A s.heap H locs) (av : List Value) :
    ∀ U : State, U.heap = H → s.WarmedH U.vm → PcN ΛC (ggL gl) H.size av ω.1 (av.map (cv gl.1)).toArray U := by
  intro U hU hW
  have hD := (C0.2.2.2.2.2.2.2.2.2.1.1 h1).1
  refine ⟨rfl, by rw [hU], by rw [hU]; exact WPL_1 h1 hP, AD_self hD _, ?_⟩
  rw [hU]
  exact SF.step (CL_SF h1 C0) hW hS.2.1 (AA_in hD C0.2.2.2.2.2.2.2.2.2.2.1 hS.1)
/-- a call of the class that returns -/
theorem L_callC {M2 : MD} {index : Nat} {ω : WDt} {P : Option Value → Mm → Prop} (pc : Nat) (As : List Value) (h1 : 1 ≤ sg) (hI : ∀ ad : Nat → Nat, As.map (cv ad) = As) (hE : EvN ΛC M2 (.ref 109 :: As) ω.1 P) (hr : ∀ r m, P r m → ∀ ad : Nat → Nat, r.map (cv ad) = r) (d : decode (mdB M) pc = .ok (.invokevirtual index, 3)) (hL : Cond.methodLink (mdO M) index (mdY M2) ∈ WS) (hm : WMV M2) (hn : (parseMethodDescriptor (mdY M2).desc).map (fun d => d.parameters.length) = some As.length) (hR : ROK M M2) (h0 : (mdG M2).cells = 0 ∧ (mdG M2).slots = 0) (hyc : (mdY M2).cls = RX6) (hcr : nc ≤ (mdG M).cells ∧ ns ≤ (mdG M).slots) (hst : st = As.reverse ++ .ref 109 :: rest) (hcat : (rest.map fun v => v.category).sum ≤ 8)
    (k : ∀ r V2, P r V2 → XL who sc sg M HH nc ns (pc + 3) ls (r.toList ++ rest) (V2, ω.2)) : XL who sc sg M HH nc ns pc ls st ω := by
  subst hst
  intro p l e s m args below meth c H locs gl A lsA C0 hP hS hl
  have hts := C0.2.2.2.2.1
  have hown := C0.2.2.2.1
  have hDL := C0.2.2.2.2.2.2.2.2.2.1
  have hD := (hDL.1 h1).1
  have hK := (CL_SF h1 C0).1
  have hsz : lsA.size = mdN M := lv_size hl
  have hpre : PreV s H RX6 (gl.1 109) (PcN ΛC (ggL gl) H.size (.ref 109 :: As) ω.1) (As.map (cv gl.1)) := ⟨PcN_blind, va_recv hK (WPL_1 h1 hP) vc6 (wO_at lyL ω.1), LPc h1 C0 hP hS (.ref 109 :: As)⟩
  have hcat2 : 2 * (F0 m pc lsA ((As.reverse ++ .ref 109 :: rest).map (cv (adL gl)))).monitorRoom + ((rest.map (cv (adL gl))).map fun v => v.category).sum ≤ 8 := by
    rw [cat_map]; exact lv_room hcat
  have hstk : (As.reverse ++ .ref 109 :: rest).map (cv (adL gl)) = (As.map (cv gl.1)).reverse ++ .ref (gl.1 109) :: rest.map (cv (adL gl)) := by
    rw [List.map_append, List.map_reverse, hI, hI]; rfl
  have run := va_runV (p := p) (l := l) (e := e) (below := below) (meth := meth) (R := mdG M) (s := s) (m := m) (args := args) (c := c) (H := H) (locs := locs) (cells := nc) (slots := ns) (As := As.map (cv gl.1)) (rest := rest.map (cv (adL gl))) ⟨C0.1, C0.2.1, C0.2.2.1, hown, hts⟩ (hE l (ggL gl) H.size C0.2.2.2.2.2.2.2.2.1) ⟨callB_of As.length hts (good_wsM hm.1.2.1) rfl h0.1 h0.2 (hts _ hm.1.1) (hts _ hL) ⟨hm.1.2.2.1, hm.1.2.2.2, hn⟩ hR, hts _ hm.2.1, by rw [← hyc]; exact hts _ hm.2.2⟩ hpre (g := F0 m pc lsA ((As.reverse ++ .ref 109 :: rest).map (cv (adL gl)))) rfl (by simp) hsz hstk hcat2 d hcr
  intro T hT X0
  obtain ⟨v, st₀, t, T', L, h0', X', hL', e1, e2, ⟨⟨r, V2, hv, hp, hw⟩, hF⟩, stp⟩ := run T hT X0
  have hA := AA_in hD C0.2.2.2.2.2.2.2.2.2.2.1 hS.1
  obtain ⟨hz, hkp, hS1⟩ := vx_keep h0' e1 hS (fun q _ h => hA q h) hA hL' hF
  have hvr : v = r := by
    rw [hr r V2 hp] at hv
    cases hv; rfl
  subst hvr
  have hW2 : WPL sg gl (V2, ω.2) T'.heap := WPL_up (V := ω.1) (f := ω.2) h1 hP hDL (by rw [e1]; exact hw) hkp
  have hk := k v V2 hp p l e s m args below meth c T'.heap (locs ++ L) gl A lsA C0 hW2 hS1 hl
  have hm2 : (v.toList ++ rest).map (cv (adL gl)) = v.toList ++ rest.map (cv (adL gl)) := by
    rw [List.map_append]
    congr 1
    have := hr v V2 hp (adL gl)
    cases v with
    | none => rfl
    | some w =>
      simp at this
      show [cv (adL gl) w] = [w]
      rw [this]
  rw [hm2] at hk
  obtain ⟨t2, a1, b1⟩ := hk T' rfl X'
  exact ⟨t2, stp t2 a1, b1⟩
theorem callW_any {R : Room} {s : State} {args : Array Value} {own : String} {index : Nat} {M2 : MD} (n : Nat) (hts : ∀ w ∈ WS, w.before args s = true) (hL : Cond.methodLink own index (mdY M2) ∈ WS) (hi : Cond.initialized (mdY M2).cls ∈ WS) (hc : hdC M2 none ∈ WS) (hh : (mdY M2).cls ≠ "java/lang/invoke/MethodHandle" ∧ (mdY M2).cls ≠ "java/lang/invoke/VarHandle") (hn : (parseMethodDescriptor (mdY M2).desc).map (fun d => d.parameters.length) = some n) (hR : (mdG M2).frames + 1 ≤ R.frames ∧ 8 + (mdN M2 + 11) + (mdG M2).locals ≤ R.locals) : CallB R s args own index (mdY M2) (mdB M2) (mdN M2) (mdR M2) (wsW M2 none) (mdG M2) (mdG M2).cells (mdG M2).slots n :=
  callB_of n hts (good_wsW hc) rfl rfl rfl (hts _ hi) (hts _ hL) ⟨hh.1, hh.2, hn⟩ hR
/-- a call of a method of the law, on the object -/
theorem L_callW {M2 : MD} {H2 : Option (List (Nat × Nat × Nat × Nat))} {index : Nat} {ω : WDt} {P : Option Value → Mm → Prop} (pc : Nat) (As : List Value) (h1 : 1 ≤ sg) (hE : EvW M2 H2 As ω.1 P) (hr : ∀ r m, P r m → ∀ ad : Nat → Nat, r.map (cv ad) = r) (d : decode (mdB M) pc = .ok (.invokestatic index, 3)) (hL : Cond.methodLink (mdO M) index (mdY M2) ∈ WS) (hc : hdC M2 H2 ∈ WS) (hi : Cond.initialized (mdY M2).cls ∈ WS) (hs : Cond.static (mdY M2) ∈ WS) (hh : (mdY M2).cls ≠ "java/lang/invoke/MethodHandle" ∧ (mdY M2).cls ≠ "java/lang/invoke/VarHandle") (hn : (parseMethodDescriptor (mdY M2).desc).map (fun d => d.parameters.length) = some As.length) (hR : ROK M M2) (hcr : nc + (mdG M2).cells ≤ (mdG M).cells ∧ ns + (mdG M2).slots ≤ (mdG M).slots) (hst : st = As.reverse ++ rest) (hcat : (rest.map fun v => v.category).sum ≤ 8)
    (k : ∀ r V2, P r V2 → XL who sc sg M HH (nc + (mdG M2).cells) (ns + (mdG M2).slots) (pc + 3) ls (r.toList ++ rest) (V2, ω.2)) : XL who sc sg M HH nc ns pc ls st ω := by
  subst hst
  intro p l e s m args below meth c H locs gl A lsA C0 hP hS hl
  have hts := C0.2.2.2.2.1
  have hown := C0.2.2.2.1
  have hDL := C0.2.2.2.2.2.2.2.2.2.1
  have hD := (hDL.1 h1).1
  have hA := AA_in hD C0.2.2.2.2.2.2.2.2.2.2.1 hS.1
  have hsz : lsA.size = mdN M := lv_size hl
  have hpre : PreS s H (PcW gl H.size As ω.1) (As.map (cv (adL gl))) := ⟨PcW_blind, fun U hU hW => ⟨rfl, by rw [hU], by rw [hU]; exact WPL_1 h1 hP, DL_self h1 hDL _, by rw [hU]; exact FA.step C0.2.2.2.2.2.2.2.2.2.2.2.1 hW hS.2.1 hA⟩⟩
  have hcat2 : 2 * (F0 m pc lsA ((As.reverse ++ rest).map (cv (adL gl)))).monitorRoom + ((rest.map (cv (adL gl))).map fun v => v.category).sum ≤ 8 := by
    rw [cat_map]; exact lv_room hcat
  have hstk : (As.reverse ++ rest).map (cv (adL gl)) = (As.map (cv (adL gl))).reverse ++ rest.map (cv (adL gl)) := by
    rw [List.map_append, List.map_reverse]
  have run : vx_Run p l e (mdG M) s m args below meth c H locs nc ns (mdG M2).cells (mdG M2).slots (F0 m pc lsA ((As.reverse ++ rest).map (cv (adL gl)))) (rest.map (cv (adL gl))) (QcW gl (AA (ggL gl) ΛC H.size) P (As.map (cv (adL gl))).toArray) (fun _ _ _ => False) (AA (ggL gl) ΛC H.size) := by
    cases H2 with
    | none => exact vx_runS (As := As.map (cv (adL gl))) ⟨C0.1, C0.2.1, C0.2.2.1, hown, hts⟩ (hE l gl H.size C0.2.2.2.2.2.2.2.2.1) ⟨callW_any As.length hts hL hi hc hh hn hR, hts _ hs⟩ hpre rfl (by simp) hsz hstk hcat2 d hcr
    | some hh2 => exact vx_runSX (hh := hh2) (As := As.map (cv (adL gl))) ⟨C0.1, C0.2.1, C0.2.2.1, hown, hts⟩ (hE l gl H.size C0.2.2.2.2.2.2.2.2.1) ⟨⟨rfl, rfl, hR.1, hR.2, pay_in hts (good_wsW hc), List.mem_cons_self⟩, hts _ hc, hts _ hi, hh, fun sig h => by rw [h] at hn; exact (Option.some.inj hn).symm, hts _ hL, hts _ hs⟩ hpre rfl (by simp) hsz hstk hcat2 d hcr
  intro T hT X0
  rcases run T hT X0 with ⟨v, st₀, t, T', L, h0', X', hL', e1, e2, ⟨⟨r, V2, hv, hp, hw⟩, hF⟩, stp⟩ | ⟨q, st₀, t, T', L, E, ce, h0', X', hL', e1, e2, hx, -⟩
  · cases hv
    obtain ⟨hz, hkp, hS1⟩ := vx_keep h0' e1 hS (fun q _ h => hA q h) hA hL' hF
    have hW2 : WPL sg gl (V2, ω.2) T'.heap := WPL_up (V := ω.1) (f := ω.2) h1 hP hDL (by rw [e1]; exact hw) hkp
    have hk := k v V2 hp p l e s m args below meth c T'.heap (locs ++ L) gl A lsA C0 hW2 hS1 hl
    have hm2 : (v.toList ++ rest).map (cv (adL gl)) = v.toList ++ rest.map (cv (adL gl)) := by
      rw [List.map_append]
      congr 1
      have := hr v V2 hp (adL gl)
      cases v with
      | none => rfl
      | some w =>
        simp at this
        show [cv (adL gl) w] = [w]
        rw [this]
    rw [hm2] at hk
    obtain ⟨t2, a1, b1⟩ := hk T' rfl X'
    exact ⟨t2, stp t2 a1, b1⟩
  · exact hx.elim
/-- a call of a method of the law, without an object -/
theorem L_callA {M2 : MD} {sc2 : SCT} {index : Nat} {ω : WDt} {P : Option Value → Prop} (pc : Nat) (As : List Value) (hs2 : ∀ r, sc2 = some r → sc = some r) (hE : EvA M2 sc2 As P) (hr : ∀ r, P r → ∀ ad : Nat → Nat, r.map (cv ad) = r) (d : decode (mdB M) pc = .ok (.invokestatic index, 3)) (hL : Cond.methodLink (mdO M) index (mdY M2) ∈ WS) (hc : hdC M2 none ∈ WS) (hi : Cond.initialized (mdY M2).cls ∈ WS) (hs : Cond.static (mdY M2) ∈ WS) (hh : (mdY M2).cls ≠ "java/lang/invoke/MethodHandle" ∧ (mdY M2).cls ≠ "java/lang/invoke/VarHandle") (hn : (parseMethodDescriptor (mdY M2).desc).map (fun d => d.parameters.length) = some As.length) (hR : ROK M M2) (hcr : nc + (mdG M2).cells ≤ (mdG M).cells ∧ ns + (mdG M2).slots ≤ (mdG M).slots) (hst : st = As.reverse ++ rest) (hcat : (rest.map fun v => v.category).sum ≤ 8)
    (k : ∀ r, P r → XL who sc sg M HH (nc + (mdG M2).cells) (ns + (mdG M2).slots) (pc + 3) ls (r.toList ++ rest) ω) : XL who sc sg M HH nc ns pc ls st ω := by
  subst hst
  intro p l e s m args below meth c H locs gl A lsA C0 hP hS hl
  have hts := C0.2.2.2.2.1
  have hown := C0.2.2.2.1
  have hAg : ∀ q : Nat, H.size ≤ q → A q := fun q hq => C0.2.2.2.2.2.2.2.2.2.2.1 q (Nat.le_trans hS.1 hq)
  have hsz : lsA.size = mdN M := lv_size hl
  have hscr : ∀ U : State, s.WarmedH U.vm → SCR0 sc2 gl (fun q => H.size ≤ q) U H := fun U hW r hr2 => by
    obtain ⟨g1, g2, g3, g4⟩ := C0.2.2.2.2.2.2.2.2.2.2.2.2.1 r (hs2 r hr2)
    have hlt : gl.2.2.2.1 < H.size := Nat.lt_of_lt_of_le g3 hS.1
    exact ⟨g1, (g2.kept (hS.2.1 _ g3 g4)).moved hW.alike, hlt, Nat.not_le.mpr hlt⟩
  have hpre : PreS s H (PcA sc2 gl H.size As) (As.map (cv (adL gl))) := ⟨PcA_blind, fun U hU hW => ⟨rfl, by rw [hU], by rw [hU]; exact FA.step C0.2.2.2.2.2.2.2.2.2.2.2.1 hW hS.2.1 hAg, by rw [hU]; exact hscr U hW⟩⟩
  have hcat2 : 2 * (F0 m pc lsA ((As.reverse ++ rest).map (cv (adL gl)))).monitorRoom + ((rest.map (cv (adL gl))).map fun v => v.category).sum ≤ 8 := by
    rw [cat_map]; exact lv_room hcat
  have hstk : (As.reverse ++ rest).map (cv (adL gl)) = (As.map (cv (adL gl))).reverse ++ rest.map (cv (adL gl)) := by
    rw [List.map_append, List.map_reverse]
  have run := vx_runS (p := p) (l := l) (e := e) (below := below) (meth := meth) (R := mdG M) (s := s) (m := m) (args := args) (c := c) (H := H) (locs := locs) (cells := nc) (slots := ns) (As := As.map (cv (adL gl))) (rest := rest.map (cv (adL gl))) ⟨C0.1, C0.2.1, C0.2.2.1, hown, hts⟩ (hE l gl H.size C0.2.2.2.2.2.2.2.2.1) ⟨callW_any As.length hts hL hi hc hh hn hR, hts _ hs⟩ hpre (g := F0 m pc lsA ((As.reverse ++ rest).map (cv (adL gl)))) rfl (by simp) hsz hstk hcat2 d hcr
  intro T hT X0
  rcases run T hT X0 with ⟨v, st₀, t, T', L, h0', X', hL', e1, e2, ⟨⟨r, hv, hp⟩, hF⟩, stp⟩ | ⟨q, st₀, t, T', L, E, ce, h0', X', hL', e1, e2, hx, -⟩
  · cases hv
    obtain ⟨hz, hkp, hS1⟩ := vx_keep h0' e1 hS (fun q _ h => hAg q h) hAg hL' hF
    have hW2 : WPL sg gl ω T'.heap := WPL_fresh hP (fun q hq => hkp q hq (Nat.not_le.mpr hq))
    have hk := k v hp p l e s m args below meth c T'.heap (locs ++ L) gl A lsA C0 hW2 hS1 hl
    have hm2 : (v.toList ++ rest).map (cv (adL gl)) = v.toList ++ rest.map (cv (adL gl)) := by
      rw [List.map_append]
      congr 1
      have := hr v hp (adL gl)
      cases v with
      | none => rfl
      | some w =>
        simp at this
        show [cv (adL gl) w] = [w]
        rw [this]
    rw [hm2] at hk
    obtain ⟨t2, a1, b1⟩ := hk T' rfl X'
    exact ⟨t2, stp t2 a1, b1⟩
  · exact hx.elim
/-- a call of the class that throws, and is caught here -/
theorem L_catch {P9 : Option Value → Mm → Prop} {M2 : MD} {index : Nat} {ω : WDt} {E0 : String} (pc : Nat) (As : List Value) (h1 : 1 ≤ sg) (hI : ∀ ad : Nat → Nat, As.map (cv ad) = As) (hE : EvX ΛC M2 (.ref 109 :: As) ω.1 (fun E V2 => E0 = E ∧ ω.1 = V2)) (d : decode (mdB M) pc = .ok (.invokevirtual index, 3)) (hL : Cond.methodLink (mdO M) index (mdY M2) ∈ WS) (hm : WMV M2) (hn : (parseMethodDescriptor (mdY M2).desc).map (fun d => d.parameters.length) = some As.length) (hR : ROK M M2) (h0 : (mdG M2).cells = 1 ∧ (mdG M2).slots = 6) (hyc : (mdY M2).cls = RX6) (hcr : nc + 1 ≤ (mdG M).cells ∧ ns + 6 ≤ (mdG M).slots) (hst : st = As.reverse ++ .ref 109 :: rest) (hcat : (rest.map fun v => v.category).sum ≤ 8)
    (pre : List ExceptionTableEntry) (x : ExceptionTableEntry) (suf : List ExceptionTableEntry) (hsp : tableOf HH = pre ++ x :: suf) (hpass : ∀ z ∈ pre, z.catchType ≠ 0 ∧ ∃ nm : String, Cond.classLink (mdO M) z.catchType nm ∈ WS ∧ ((E0 = "java/lang/IllegalArgumentException" ∧ nm = "java/lang/IndexOutOfBoundsException") ∨ (E0 = "java/lang/IllegalStateException" ∧ nm = "java/lang/IllegalArgumentException"))) (hx : covers x pc = true) (hx0 : x.catchType ≠ 0) (hlk : Cond.classLink (mdO M) x.catchType E0 ∈ WS) (hex : E0 ∈ EXC)
    (k : ∀ q : Nat, XL (.inl P9) sc sg M HH (nc + 1) (ns + 6) x.handlerPc ls [.ref (q + 200)] ω) : XL (.inl P9) sc sg M HH nc ns pc ls st ω := by
  subst hst
  intro p l e s m args below meth c H locs gl A lsA C0 hP hS hl
  have hts := C0.2.2.2.2.1
  have hown := C0.2.2.2.1
  have hDL := C0.2.2.2.2.2.2.2.2.2.1
  have hD := (hDL.1 h1).1
  have hSF := CL_SF h1 C0
  have hFA := C0.2.2.2.2.2.2.2.2.2.2.2.1
  have hK := hSF.1
  have hsz : lsA.size = mdN M := lv_size hl
  have hpre : PreV s H RX6 (gl.1 109) (PcN ΛC (ggL gl) H.size (.ref 109 :: As) ω.1) (As.map (cv gl.1)) := ⟨PcN_blind, va_recv hK (WPL_1 h1 hP) vc6 (wO_at lyL ω.1), LPc h1 C0 hP hS (.ref 109 :: As)⟩
  have hcat2 : 2 * (F0 m pc lsA ((As.reverse ++ .ref 109 :: rest).map (cv (adL gl)))).monitorRoom + ((rest.map (cv (adL gl))).map fun v => v.category).sum ≤ 8 := by
    rw [cat_map]; exact lv_room hcat
  have hstk : (As.reverse ++ .ref 109 :: rest).map (cv (adL gl)) = (As.map (cv gl.1)).reverse ++ .ref (gl.1 109) :: rest.map (cv (adL gl)) := by
    rw [List.map_append, List.map_reverse, hI, hI]; rfl
  have run := vx_runV (p := p) (l := l) (e := e) (below := below) (meth := meth) (R := mdG M) (s := s) (m := m) (args := args) (c := c) (H := H) (locs := locs) (cells := nc) (slots := ns) (As := As.map (cv gl.1)) (rest := rest.map (cv (adL gl))) ⟨C0.1, C0.2.1, C0.2.2.1, hown, hts⟩ (hE l (ggL gl) H.size C0.2.2.2.2.2.2.2.2.1) ⟨callB_of As.length hts (good_wsM hm.1.2.1) rfl h0.1 h0.2 (hts _ hm.1.1) (hts _ hL) ⟨hm.1.2.2.1, hm.1.2.2.2, hn⟩ hR, hts _ hm.2.1, by rw [← hyc]; exact hts _ hm.2.2⟩ hpre (g := F0 m pc lsA ((As.reverse ++ .ref 109 :: rest).map (cv (adL gl)))) rfl (by simp) hsz hstk hcat2 d hcr
  intro T hT X0
  have hA := AA_in hD C0.2.2.2.2.2.2.2.2.2.2.1 hS.1
  rcases run T hT X0 with ⟨v, st₀, t, T', L, h0', X', hL', e1, e2, hF, -⟩ | ⟨q, st₀, t, T', L, E, ce, h0', X', hL', e1, e2, ⟨⟨V2, ⟨hp1, hp2⟩, hw⟩, hF⟩, hce, hcv, hcl, stp⟩
  · exact hF.elim
  · subst hp1
    subst hp2
    obtain ⟨hz, hkp, hS1⟩ := vx_keep h0' e1 hS (fun q _ h => hA q h) hA hL' hF
    have hW2 : WPL sg gl (ω.1, ω.2) T'.heap := WPL_up (V := ω.1) (f := ω.2) h1 hP hDL (by rw [e1]; exact hw) hkp
    have hk := k q p l e s m args below meth c T'.heap (locs ++ L) gl A lsA C0 hW2 hS1 hl
    have hqe : adL gl (q + 200) = q := by
      unfold adL
      rw [if_neg (by omega), if_neg (by omega), if_neg (by omega)]
      omega
    have hcat := vx_catch (p := p) (l := l) (e := e) (R := mdG M) (s := s) (m := m) (args := args) (below := below) (meth := meth) (c := c) (H := T'.heap) (locs := locs ++ L) (cells := nc + 1) (slots := ns + 6) (pc := pc) (ls := lsA) (rest := rest.map (cv (adL gl))) (E := E0) (name := E0) (ce := ce) (q := q) hown pre x suf ((C0.2.2.2.2.2.2.2.1 rfl).trans hsp)
      (fun z hz => by
        obtain ⟨hz0, nm, hl1, hor⟩ := hpass z hz
        refine Or.inr ⟨hz0, nm, hts _ hl1, ?_⟩
        rcases hor with ⟨rfl, rfl⟩ | ⟨rfl, rfl⟩
        · exact hFA.2.2.2.1
        · exact hFA.2.2.2.2) hx hx0 (hts _ hlk) (va_Nw.use rfl (hSF.2.2.2.2.1.1 _ hex)) (by rw [e1]; exact hce) hcv hcl (by
          have e9 : ([Value.ref (q + 200)] : List Value).map (cv (adL gl)) = [Value.ref q] := by
            show [Value.ref (adL gl (q + 200))] = _
            rw [hqe]
          rw [e9] at hk
          exact hk)
    obtain ⟨t2, a1, b1⟩ := hcat T' rfl X'
    exact ⟨t2, stp.trans a1, b1⟩
/-- ends -/
theorem L_iret {P : Option Value → Mm → Prop} {v : Int32} {ty : FieldType} {V : Mm} {f : Nat → Int64} (pc : Nat) (d : decode (mdB M) pc = .ok (.ireturn, 1)) (hr : mdR M = some ty) (hn : narrow ty (.int v) = .int v) (hc : nc ≤ (mdG M).cells ∧ ns ≤ (mdG M).slots) (hQ : P (some (.int v)) V) : XL (.inl P) sc 1 M HH nc ns pc ls [.int v] (V, f) := by
  intro p l e s m args below meth c H locs gl A lsA C0 hP hS hl
  have hlk : meth.locks = false := C0.2.2.2.2.2.2.1
  refine W.widen (k := (mdG M).cells) (n := (mdG M).slots) hc.1 hc.2 ?_
  exact vx_ret (W.zret (Qc := QcW gl A P) C0.1 C0.2.1 (C0.2.2.2.2.2.1.trans hr) hn (fun t ht _ => ⟨⟨_, V, rfl, hQ, by rw [ht]; exact hP⟩, hS.F ht⟩) hS.2.2 d hlk)
theorem L_lret {P : Option Value → Mm → Prop} {v : Int64} {V : Mm} {f : Nat → Int64} (pc : Nat) (d : decode (mdB M) pc = .ok (.lreturn, 1)) (hr : mdR M = some .long) (hc : nc ≤ (mdG M).cells ∧ ns ≤ (mdG M).slots) (hQ : P (some (.long v)) V) : XL (.inl P) sc 1 M HH nc ns pc ls [.long v] (V, f) := by
  intro p l e s m args below meth c H locs gl A lsA C0 hP hS hl
  have hlk : meth.locks = false := C0.2.2.2.2.2.2.1
  refine W.widen (k := (mdG M).cells) (n := (mdG M).slots) hc.1 hc.2 ?_
  exact vx_ret (W.lret (Qc := QcW gl A P) C0.1 C0.2.1 (C0.2.2.2.2.2.1.trans hr) (fun t ht _ => ⟨⟨_, V, rfl, hQ, by rw [ht]; exact hP⟩, hS.F ht⟩) hS.2.2 d hlk)
theorem L_vret {P : Option Value → Mm → Prop} {V : Mm} {f : Nat → Int64} (pc : Nat) (d : decode (mdB M) pc = .ok (.return_, 1)) (hr : mdR M = none) (hc : nc ≤ (mdG M).cells ∧ ns ≤ (mdG M).slots) (hQ : P none V) : XL (.inl P) sc 1 M HH nc ns pc ls [] (V, f) := by
  intro p l e s m args below meth c H locs gl A lsA C0 hP hS hl
  have hlk : meth.locks = false := C0.2.2.2.2.2.2.1
  refine W.widen (k := (mdG M).cells) (n := (mdG M).slots) hc.1 hc.2 ?_
  exact vx_ret (W.vret (Qc := QcW gl A P) C0.1 C0.2.1 (C0.2.2.2.2.2.1.trans hr) (fun t ht _ => ⟨⟨none, V, rfl, hQ, by rw [ht]; exact hP⟩, hS.F ht⟩) hS.2.2 d hlk)
theorem L_iretA {P : Option Value → Prop} {v : Int32} {ty : FieldType} {ω : WDt} (pc : Nat) (d : decode (mdB M) pc = .ok (.ireturn, 1)) (hr : mdR M = some ty) (hn : narrow ty (.int v) = .int v) (hc : nc ≤ (mdG M).cells ∧ ns ≤ (mdG M).slots) (hQ : P (some (.int v))) : XL (.inr (.inl P)) sc sg M HH nc ns pc ls [.int v] ω := by
  intro p l e s m args below meth c H locs gl A lsA C0 hP hS hl
  have hlk : meth.locks = false := C0.2.2.2.2.2.2.1
  refine W.widen (k := (mdG M).cells) (n := (mdG M).slots) hc.1 hc.2 ?_
  exact vx_ret (W.zret (Qc := QcA A P) C0.1 C0.2.1 (C0.2.2.2.2.2.1.trans hr) hn (fun t ht _ => ⟨⟨_, rfl, hQ⟩, hS.F ht⟩) hS.2.2 d hlk)
theorem L_lretA {P : Option Value → Prop} {v : Int64} {ω : WDt} (pc : Nat) (d : decode (mdB M) pc = .ok (.lreturn, 1)) (hr : mdR M = some .long) (hc : nc ≤ (mdG M).cells ∧ ns ≤ (mdG M).slots) (hQ : P (some (.long v))) : XL (.inr (.inl P)) sc sg M HH nc ns pc ls [.long v] ω := by
  intro p l e s m args below meth c H locs gl A lsA C0 hP hS hl
  have hlk : meth.locks = false := C0.2.2.2.2.2.2.1
  refine W.widen (k := (mdG M).cells) (n := (mdG M).slots) hc.1 hc.2 ?_
  exact vx_ret (W.lret (Qc := QcA A P) C0.1 C0.2.1 (C0.2.2.2.2.2.1.trans hr) (fun t ht _ => ⟨⟨_, rfl, hQ⟩, hS.F ht⟩) hS.2.2 d hlk)
end LC
abbrev mLaw : MD := (RL, yL_law, code, 12, ret, room_1)
section LE
variable {sc : SCT} {sg : Nat} {nc ns : Nat} {ls : List (Nat × Value)} {st : List Value} {pc : Nat} {HH : List (Nat × Nat × Nat × Nat)} {ω : WDt}
/-- the law ends, with true -/
theorem L_end (pc : Nat) (d : decode code pc = .ok (.ireturn, 1)) (hc : nc ≤ 600086) (hs : ns ≤ 7301442) : XL (.inr (.inr ())) sc sg mLaw HH nc ns pc ls [.int 1] ω := by
  intro p l e s m args below meth c H locs gl A lsA C0 hP hS hl
  obtain ⟨ha, hA⟩ := C0.2.2.2.2.2.2.2.2.2.2.2.2.2 rfl
  subst ha
  refine va_forget (fun q hq => hA _ (hS.2.2 q hq)) ?_
  refine W.widen (k := 600086) (n := 7301442) hc hs ?_
  exact lw_ret C0.1 C0.2.1 C0.2.2.2.2.2.1 C0.2.2.2.2.2.2.1 d
end LE
section LF
variable {who : WHO} {sg : Nat} {M : MD} {HH : List (Nat × Nat × Nat × Nat)} {nc ns : Nat} {ls : List (Nat × Value)} {st : List Value} {ω : WDt} {r : Nat × (Nat → Int32)}
/-- the script's length and numbers -/
theorem L_slen (pc : Nat) (d : decode (mdB M) pc = .ok (.arraylength, 1)) (k : XL who (some r) sg M HH nc ns (pc + 1) ls (.int (nI r.1) :: st) ω) : XL who (some r) sg M HH nc ns pc ls (.ref 3 :: st) ω := by
  intro p l e s m args below meth c H locs gl A lsA C0 hP hS hl
  obtain ⟨-, h2, h3, h4⟩ := C0.2.2.2.2.2.2.2.2.2.2.2.2.1 r rfl
  exact va_slen C0.1 C0.2.1 h2 h3 h4 hS d (k p l e s m args below meth c H locs gl A lsA C0 hP hS hl)
theorem L_sld {i : Nat} (pc : Nat) (d : decode (mdB M) pc = .ok (.iaload, 1)) (hi : i < r.1) (hL : r.1 < 2147483648) (k : XL who (some r) sg M HH nc ns (pc + 1) ls (.int (r.2 i) :: st) ω) : XL who (some r) sg M HH nc ns pc ls (.int (nI i) :: .ref 3 :: st) ω := by
  intro p l e s m args below meth c H locs gl A lsA C0 hP hS hl
  obtain ⟨-, h2, h3, h4⟩ := C0.2.2.2.2.2.2.2.2.2.2.2.2.1 r rfl
  refine va_sld C0.1 C0.2.1 h2 h3 h4 hS (vp_in_nI hi hL) d ?_
  rw [nI_clamp (by omega)]
  exact k p l e s m args below meth c H locs gl A lsA C0 hP hS hl
end LF
