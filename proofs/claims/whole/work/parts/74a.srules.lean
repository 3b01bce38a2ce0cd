def CS (G : G3) (A : Nat → Prop) (p : Program) (s : State) (m : MethodId) (args : Array Value) (c : Code) : Prop :=
  p.tables.exec = Jvm.exec ∧ c.code = mdB mLaw ∧ c.maxLocals = mdN mLaw ∧ s.vm.findClass (mdO mLaw) = some m.cls ∧ (∀ w ∈ WS, w.before args s = true) ∧ KC G s ∧ ∀ q : Nat, s.heap.size ≤ q → A q
def XS (G : G3) (A : Nat → Prop) (p : Program) (l : Launch) (e : Env) (s : State) (m : MethodId) (args : Array Value) (below : List Frame) (meth : Method) (c : Code) (Q : State → Prop) (nc ns pc : Nat) (ls : List (Nat × Value)) (st : List Value) (ws : va_W) : Prop :=
  ∀ (H : Heap) (locs : List Loc) (lsA : Array Slot), va_P G.1 vwCl ws H → va_D A ws → va_S A s.heap H locs → lv_has lsA (mdN mLaw) ls →
    W p l e (mdG mLaw) s m args below meth c H locs nc ns Q (F0 m pc lsA st)
section SS
variable {G : G3} {A : Nat → Prop} {p : Program} {l : Launch} {e : Env} {s : State} {m : MethodId} {args : Array Value} {below : List Frame} {meth : Method} {c : Code} {Q : State → Prop} {nc ns pc : Nat} {ls : List (Nat × Value)} {st rest : List Value} {ws : va_W}
theorem S_new {ci index N : Nat} {C : String} {T : u_T} (pc : Nat) (ty : Nat → FieldType) (fs : List Value) (C0 : CS G A p s m args c) (d : decode (mdB mLaw) pc = .ok (.new index, 3)) (hin : ∀ w ∈ u_ws C T N, w ∈ WS) (hty : ∀ k, k < N → parseFieldDescriptor (T k).2.2.1 = some (ty k)) (hcl : Cond.classLink (mdO mLaw) index C ∈ WS) (hinst : Cond.instantiable C N ∈ WS) (hini : Cond.initialized C ∈ WS) (hc : vwCl[ci]? = some (C, T, N)) (hfs : ∀ j, j < N → defaultValue (ty j) = vp_V fs j) (hR : nc + 1 ≤ (mdG mLaw).cells ∧ ns + N ≤ (mdG mLaw).slots)
    (k : ∀ q : Nat, XS G A p l e s m args below meth c Q (nc + 1) (ns + N) (pc + 3) ls (.ref q :: st) (ws ++ [(q, .inr (ci, fs))])) : XS G A p l e s m args below meth c Q nc ns pc ls st ws := by
  intro H locs lsA hP hD hS hl
  have hts := C0.2.2.2.2.1
  exact va_new C0.1 C0.2.1 hts hin ty hty C0.2.2.2.1 (hts _ hcl) (hts _ hinst) (hts _ hini) C0.2.2.2.2.2.1.1 hP hD hS C0.2.2.2.2.2.2 hc hfs hR.1 hR.2 d (fun q H1 hP1 hD1 hS1 => k q H1 locs lsA hP1 hD1 hS1 hl)
theorem S_dup (pc : Nat) {x : Nat} (C0 : CS G A p s m args c) (d : decode (mdB mLaw) pc = .ok (.dup, 1)) (k : XS G A p l e s m args below meth c Q nc ns (pc + 1) ls (.ref x :: .ref x :: st) ws) : XS G A p l e s m args below meth c Q nc ns pc ls (.ref x :: st) ws := fun H locs lsA hP hD hS hl => lv_dup C0.1 C0.2.1 d rfl (k H locs lsA hP hD hS hl)
theorem S_iconst (pc : Nat) (v : Int32) {n : Int} (C0 : CS G A p s m args c) (d : decode (mdB mLaw) pc = .ok (.iconst n, 1)) (hv : Int32.ofInt n = v) (k : XS G A p l e s m args below meth c Q nc ns (pc + 1) ls (.int v :: st) ws) : XS G A p l e s m args below meth c Q nc ns pc ls st ws := fun H locs lsA hP hD hS hl => lv_iconst C0.1 C0.2.1 d hv (k H locs lsA hP hD hS hl)
theorem S_astore_n {kf : Fin 4} {i x : Nat} {ls2 : List (Nat × Value)} (pc : Nat) (C0 : CS G A p s m args c) (d : decode (mdB mLaw) pc = .ok (.astore_n kf, 1)) (hi : (kf : Nat) = i) (hn : i < mdN mLaw) (hl2 : (i, Value.ref x) :: ls.filter (fun q => !(q.1 == i) && !(q.1 + 1 == i && q.2.category == 2)) = ls2) (k : XS G A p l e s m args below meth c Q nc ns (pc + 1) ls2 st ws) : XS G A p l e s m args below meth c Q nc ns pc ls (.ref x :: st) ws := fun H locs lsA hP hD hS hl => lv_astore_n C0.1 C0.2.1 d hi hl hn hl2 (fun lsB hlB => k H locs lsB hP hD hS hlB)
theorem S_istore {i : Nat} {x : Int32} {ls2 : List (Nat × Value)} (pc : Nat) (C0 : CS G A p s m args c) (d : decode (mdB mLaw) pc = .ok (.istore i, 2)) (hn : i < mdN mLaw) (hl2 : (i, Value.int x) :: ls.filter (fun q => !(q.1 == i) && !(q.1 + 1 == i && q.2.category == 2)) = ls2) (k : XS G A p l e s m args below meth c Q nc ns (pc + 2) ls2 st ws) : XS G A p l e s m args below meth c Q nc ns pc ls (.int x :: st) ws := fun H locs lsA hP hD hS hl => lv_istore C0.1 C0.2.1 d hl hn hl2 (fun lsB hlB => k H locs lsB hP hD hS hlB)
theorem S_call {M2 : MD} {index q mc2 ms2 : Nat} {e2 : va_E} {av : List Value} {P2 : G3 → Nat → va_W → Prop} {R : va_W} (pc : Nat) (C0 : CS G A p s m args c) (hE : EvK M2 e2 av mc2 ms2 P2) (d : decode (mdB mLaw) pc = .ok (.invokespecial index, 3)) (hL : Cond.methodLink (mdO mLaw) index (mdY M2) ∈ WS ∨ ∃ host : String, (mdO mLaw, index, mdY M2, host) ∈ NWM) (hm : WMC M2) (hin : Cond.instanceMethod (mdY M2) ∈ WS) (hnm : (mdY M2).name = "<init>") (hr : mdR M2 = none) (hn : (parseMethodDescriptor (mdY M2).desc).map (fun d => d.parameters.length) = some av.length) (hR : ROK mLaw M2) (h0 : (mdG M2).cells = mc2 ∧ (mdG M2).slots = ms2) (hcr : nc + mc2 ≤ (mdG mLaw).cells ∧ ns + ms2 ≤ (mdG mLaw).slots) (hws : ws = R ++ [(q, e2)]) (hst : st = av.reverse ++ .ref q :: rest) (hcat : (rest.map fun v => v.category).sum ≤ 8)
    (k : ∀ ws2, P2 G q ws2 → XS G A p l e s m args below meth c Q (nc + mc2) (ns + ms2) (pc + 3) ls rest (R ++ ws2)) : XS G A p l e s m args below meth c Q nc ns pc ls st ws := by
  subst hws
  subst hst
  intro H locs lsA hP hD hS hl
  have hts := C0.2.2.2.2.1
  have hown := C0.2.2.2.1
  have hKC := C0.2.2.2.2.2.1
  have hAge := C0.2.2.2.2.2.2
  have hsz : lsA.size = mdN mLaw := lv_size hl
  obtain ⟨hPR, hPq⟩ := P_app.mp hP
  have hqA : A q := hD.2 R.length (q, e2) (by rw [List.getElem?_append_right (Nat.le_refl _), Nat.sub_self]; rfl)
  have hFA : ∀ x, FK q H.size x → A x := by
    rintro x (rfl | hx)
    · exact hqA
    · exact hAge x (Nat.le_trans hS.1 hx)
  have hpre : PreS s H (PcK G q H.size e2 av) (.ref q :: av) := ⟨PcK_blind, fun U hU hW => ⟨rfl, by rw [hU], by rw [hU]; exact hPq, hKC.warm hW⟩⟩
  have hcat2 : 2 * (F0 m pc lsA (av.reverse ++ .ref q :: rest)).monitorRoom + (rest.map fun v => v.category).sum ≤ 8 := lv_room hcat
  have run : va_Run p l e (mdG mLaw) s m args below meth c H locs nc ns mc2 ms2 (F0 m pc lsA (av.reverse ++ .ref q :: rest)) rest (QcK G (FK q H.size) (P2 G q) (Value.ref q :: av).toArray) (FK q H.size) := by
    rcases hL with hL | ⟨host, hL⟩
    · have cb := callB_of (R := mdG mLaw) (s := s) (args := args) av.length hts (good_wsM hm.2.1) rfl h0.1 h0.2 (hts _ hm.1) (hts _ hL) ⟨hm.2.2.1, hm.2.2.2, hn⟩ hR
      rw [hr] at cb
      exact va_runI (As := av) ⟨C0.1, C0.2.1, C0.2.2.1, hown, hts⟩ (hE l G q H.size) ⟨cb, hnm, hts _ hin⟩ hpre rfl rfl hsz rfl hcat2 d hcr
    · have cb := va_cnB (R := mdG mLaw) (s := s) (args := args) (ret := mdR M2) av.length hts (good_wsM hm.2.1) rfl h0.1 h0.2 (hKC.2.1 _ hL) (hts _ hm.1) ⟨hm.2.2.1, hm.2.2.2, hn⟩ hR
      rw [hr] at cb
      exact va_runIN (As := av) ⟨C0.1, C0.2.1, C0.2.2.1, hown, hts⟩ (hE l G q H.size) ⟨cb, hnm, hts _ hin⟩ hpre rfl rfl hsz rfl hcat2 d hcr
  intro T hT X0
  obtain ⟨v, st₀, t, T', L, h0', X', hL', e1, e2', ⟨⟨ws2, hv, hp2, hw, hD2⟩, hF⟩, stp⟩ := run T hT X0
  cases hv
  obtain ⟨hz, hkp, hS1⟩ := vx_keep h0' e1 hS (fun x _ h => hFA x h) hFA hL' hF
  have hne : ∀ (k : Nat) (x : Nat × va_E), R[k]? = some x → x.1 < H.size ∧ x.1 ≠ q := fun k x hx => by
    refine ⟨vx_lt hPR hx, fun hq => ?_⟩
    obtain ⟨hkl, -⟩ := List.getElem?_eq_some_iff.mp hx
    have := hD.1 k R.length x (q, e2) (by rw [List.getElem?_append_left hkl]; exact hx) (by rw [List.getElem?_append_right (Nat.le_refl _), Nat.sub_self]; rfl) hq
    omega
  have hP2 : va_P G.1 vwCl (R ++ ws2) T'.heap := P_app.mpr ⟨P_cong hPR (fun k x hx => hkp _ (hne k x hx).1 (by
    rintro (h | h)
    · exact (hne k x hx).2 h
    · have := (hne k x hx).1; omega)), by rw [e1]; exact hw⟩
  have hDR : va_D A R := ⟨fun i j a b ha hb => hD.1 i j a b (by obtain ⟨h, -⟩ := List.getElem?_eq_some_iff.mp ha; rw [List.getElem?_append_left h]; exact ha) (by obtain ⟨h, -⟩ := List.getElem?_eq_some_iff.mp hb; rw [List.getElem?_append_left h]; exact hb), fun i a ha => hD.2 i a (by obtain ⟨h, -⟩ := List.getElem?_eq_some_iff.mp ha; rw [List.getElem?_append_left h]; exact ha)⟩
  have hDD : va_D A (R ++ ws2) := hDR.app (hD2.weaken (fun _ x _ h => hFA x.1 h)) (fun i j a b ha hb hab => by
    have h1 := hne i a ha
    rcases hD2.2 j b hb with h2 | h2
    · exact h1.2 (hab.trans h2)
    · rw [← hab] at h2; omega)
  have hk := k ws2 hp2 T'.heap (locs ++ L) lsA hP2 hDD hS1 hl
  obtain ⟨t2, a1, b1⟩ := hk T' rfl X'
  exact ⟨t2, stp t2 a1, b1⟩
theorem S_newl {cj : ClassId} (pc : Nat) (C0 : CS G A p s m args c) (hJ : va_K G.1 vwCl [(cj, .long)] s) (d : decode (mdB mLaw) pc = .ok (.newarray .long, 2)) (hR : nc + 1 ≤ (mdG mLaw).cells ∧ ns + 1 ≤ (mdG mLaw).slots) (k : ∀ q : Nat, XS G A p l e s m args below meth c Q (nc + 1) (ns + 1) (pc + 2) ls (.ref q :: st) (ws ++ [(q, outE cj (fun _ => 0))])) : XS G A p l e s m args below meth c Q nc ns pc ls (.int 1 :: st) ws := by
  intro H locs lsA hP hD hS hl
  refine va_newa (atype := .long) (N' := 1) (a0 := (1, .inr (.inl (fun _ => 0)))) C0.1 C0.2.1 (C0.2.2.2.2.1 _ kn_1493) (ty := .long) rfl C0.2.2.2.2.2.1.1 hP hD hS C0.2.2.2.2.2.2 (fun _ => rfl) (by decide) (by decide) (by decide) hR.1 hR.2 d fun q cA H1 hK1 hP1 hD1 hS1 => ?_
  have h1 : s.vm.findClass ("[" ++ FieldType.long.toString) = some cA := (hK1.2 2 (cA, .long) rfl).2
  have h2 : s.vm.findClass ("[" ++ FieldType.long.toString) = some cj := (hJ.2 0 (cj, .long) rfl).2
  have hc : cA = cj := Option.some.inj (h1.symm.trans h2)
  subst hc
  exact k q H1 locs lsA hP1 hD1 hS1 hl
end SS
