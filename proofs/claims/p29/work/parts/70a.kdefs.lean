/-! constructors: what they make -/
abbrev G3 : Type := va_G × ClassId × ClassId
def KC (G : G3) (U : State) : Prop := va_K G.1 vwCl [(G.2.1, .int), (G.2.2, .object "LampMural$Scene")] U ∧ (∀ q ∈ NWM, va_Nw (.methodLinkNest q.1 q.2.1 q.2.2.1 q.2.2.2) U) ∧ U.vm.findClass ("[" ++ (newarray.typeOf .int).toString) = some G.2.1 ∧ U.vm.findClass ("[" ++ (FieldType.object "LampMural$Scene").toString) = some G.2.2 ∧ va_AO "LampMural$Scene" U
theorem KC.warm {G : G3} {s U : State} (h : KC G s) (hW : s.WarmedH U.vm) : KC G U :=
  ⟨h.1.moved hW.alike, fun q hq => va_Nw.warmM hW (h.2.1 q hq), by rw [hW.alike.findClass]; exact h.2.2.1, by rw [hW.alike.findClass]; exact h.2.2.2.1, h.2.2.2.2.moved hW.alike⟩
theorem KC.same {G : G3} {s U : State} (h : KC G s) (hv : s.vm = U.vm) : KC G U := h.warm (by rw [← hv]; exact State.WarmedH.refl s)
def FK (q0 sz : Nat) : Nat → Prop := fun q => q = q0 ∨ sz ≤ q
def PcK (G : G3) (q0 sz : Nat) (e : va_E) (av : List Value) : Array Value → State → Prop := va_Pc (.ref q0 :: av) (fun U => U.heap.size = sz ∧ va_P G.1 vwCl [(q0, e)] U.heap ∧ KC G U)
def QcK (G : G3) (A : Nat → Prop) (P : va_W → Prop) : Array Value → State → Outcome → State → Prop := fun _ st o t =>
  (∃ ws, o = .returned none ∧ P ws ∧ va_P G.1 vwCl ws t.heap ∧ va_D A ws) ∧ va_F A st t
theorem PcK_blind {G : G3} {q0 sz : Nat} {e : va_E} {av : List Value} : FrameBlind (PcK G q0 sz e av) := by
  intro a U gf mk h
  obtain ⟨h0, h1, h2, h3⟩ := h
  exact ⟨h0, h1, h2, KC.same (U := U.calling gf mk a) h3 rfl⟩
/-- the constructor M, called on the fresh object e, makes P -/
def EvK (M : MD) (e : va_E) (av : List Value) (mc ms : Nat) (P : G3 → Nat → va_W → Prop) : Prop := ∀ (l : Launch) (G : G3) (q0 sz : Nat), Met l (mdY M) (wsM M) (mdG M) (PcK G q0 sz e av) (QcK G (FK q0 sz) (P G q0)) mc ms (FK q0 sz)
def CK (M : MD) (G : G3) (A : Nat → Prop) (p : Program) (s : State) (m : MethodId) (args : Array Value) (meth : Method) (c : Code) : Prop :=
  p.tables.exec = Jvm.exec ∧ c.code = mdB M ∧ c.maxLocals = mdN M ∧ s.vm.findClass (mdO M) = some m.cls ∧ (∀ w ∈ WS, w.before args s = true) ∧ meth.sig.returnType = none ∧ meth.locks = false ∧ meth.name = "<init>" ∧ KC G s ∧ ∀ q : Nat, s.heap.size ≤ q → A q
def XK (M : MD) (G : G3) (A : Nat → Prop) (P : va_W → Prop) (mc ms nc ns pc : Nat) (ls : List (Nat × Value)) (st : List Value) (ws : va_W) : Prop :=
  ∀ (p : Program) (l : Launch) (e : Env) (s : State) (m : MethodId) (args : Array Value) (below : List Frame) (meth : Method) (c : Code) (H : Heap) (locs : List Loc) (lsA : Array Slot),
    CK M G A p s m args meth c → va_P G.1 vwCl ws H → va_D A ws → va_S A s.heap H locs → lv_has lsA (mdN M) ls →
    W p l e (mdG M) s m args below meth c H locs nc ns (MQ below (QcK G A P) args s mc ms A) (F0 m pc lsA st)
theorem EvK_of {M : MD} {e : va_E} {av : List Value} {mc ms : Nat} {P : G3 → Nat → va_W → Prop} (hy : plainName (mdY M).cls = true) (ho : (mdY M).cls = mdO M) (hi : (mdY M).name = "<init>") (hr : mdR M = none) (hn : ∀ q0 : Nat, (lg_sl (.ref q0 :: av)).length ≤ mdN M)
    (k : ∀ (G : G3) (q0 : Nat) (A : Nat → Prop), XK M G A (P G q0) mc ms 0 0 0 (lv_args 0 (.ref q0 :: av)) [] [(q0, e)]) : EvK M e av mc ms P := by
  intro l G q0 sz
  refine Met.ofW (cc := mdB M) (maxL := mdN M) (ret := mdR M) hy rfl ?_
  intro p ev s m args below meth c s₁ B hml hv
  obtain ⟨rfl, hsz, hP, hK⟩ := hv
  subst hsz
  have hts : ∀ w ∈ wsM M, w.before (Value.ref q0 :: av).toArray s = true := atoms_spec (ws := wsM M) B.pre
  have hown : s.vm.findClass (mdY M).cls = some m.cls := findClass_of_methodNamed B.named
  have hle := lv_entry (Value.ref q0 :: av) (n := mdN M) (hn q0)
  rw [lg_entry_eq]
  have hnm : meth.name = "<init>" := (name_of_methodNamed B.named B.method).1.trans hi
  have hD : va_D (FK q0 s.heap.size) [(q0, e)] := by
    refine ⟨fun i j p q h1 h2 _ => ?_, fun k q h => ?_⟩
    · obtain ⟨a, -⟩ := List.getElem?_eq_some_iff.mp h1
      obtain ⟨b, -⟩ := List.getElem?_eq_some_iff.mp h2
      simp at a b; omega
    · obtain ⟨a, eq⟩ := List.getElem?_eq_some_iff.mp h
      simp at a
      subst a
      rw [← eq]; exact Or.inl rfl
  exact k G q0 (FK q0 s.heap.size) p l ev s m _ below meth c s.heap [] _ ⟨B.exec, B.bytes, hml, by rw [← ho]; exact hown, fun w hw => hts w (List.mem_cons_of_mem _ hw), B.returns.trans hr, B.notSynchronized, hnm, hK, fun q hq => Or.inr hq⟩ hP hD va_S.rf hle
section KR
variable {M : MD} {G : G3} {A : Nat → Prop} {P : va_W → Prop} {mc ms nc ns pc : Nat} {ls : List (Nat × Value)} {st rest : List Value} {ws : va_W}
theorem K_aload_n (pc k0 : Nat) {kf : Fin 4} {i : Nat} {x : Nat} (d : decode (mdB M) pc = .ok (.aload_n kf, 1)) (hk : ls[k0]? = some (i, .ref x)) (hi : (kf : Nat) = i) (k : XK M G A P mc ms nc ns (pc + 1) ls (.ref x :: st) ws) : XK M G A P mc ms nc ns pc ls st ws := by
  intro p l e s m args below meth c H locs lsA C hP hD hS hl
  exact lv_aload_n C.1 C.2.1 d hi (lv_at hl k0 hk) (k p l e s m args below meth c H locs lsA C hP hD hS hl)
theorem K_iload_n (pc k0 : Nat) {kf : Fin 4} {i : Nat} {x : Int32} (d : decode (mdB M) pc = .ok (.iload_n kf, 1)) (hk : ls[k0]? = some (i, .int x)) (hi : (kf : Nat) = i) (k : XK M G A P mc ms nc ns (pc + 1) ls (.int x :: st) ws) : XK M G A P mc ms nc ns pc ls st ws := by
  intro p l e s m args below meth c H locs lsA C hP hD hS hl
  exact lv_iload_n C.1 C.2.1 d hi (lv_at hl k0 hk) (k p l e s m args below meth c H locs lsA C hP hD hS hl)
theorem K_iconst (pc : Nat) (v : Int32) {n : Int} (d : decode (mdB M) pc = .ok (.iconst n, 1)) (hv : Int32.ofInt n = v) (k : XK M G A P mc ms nc ns (pc + 1) ls (.int v :: st) ws) : XK M G A P mc ms nc ns pc ls st ws := by
  intro p l e s m args below meth c H locs lsA C hP hD hS hl
  exact lv_iconst C.1 C.2.1 d hv (k p l e s m args below meth c H locs lsA C hP hD hS hl)
theorem K_bipush (pc : Nat) (v : Int32) {n : Int} (d : decode (mdB M) pc = .ok (.bipush n, 2)) (hv : (Int8.ofInt n).toInt32 = v) (k : XK M G A P mc ms nc ns (pc + 2) ls (.int v :: st) ws) : XK M G A P mc ms nc ns pc ls st ws := by
  intro p l e s m args below meth c H locs lsA C hP hD hS hl
  exact lv_bipush C.1 C.2.1 d hv (k p l e s m args below meth c H locs lsA C hP hD hS hl)
theorem K_sipush (pc : Nat) (v : Int32) {n : Int} (d : decode (mdB M) pc = .ok (.sipush n, 3)) (hv : (Int16.ofInt n).toInt32 = v) (k : XK M G A P mc ms nc ns (pc + 3) ls (.int v :: st) ws) : XK M G A P mc ms nc ns pc ls st ws := by
  intro p l e s m args below meth c H locs lsA C hP hD hS hl
  exact lv_sipush C.1 C.2.1 d hv (k p l e s m args below meth c H locs lsA C hP hD hS hl)
theorem K_dup (pc : Nat) {x : Nat} (d : decode (mdB M) pc = .ok (.dup, 1)) (k : XK M G A P mc ms nc ns (pc + 1) ls (.ref x :: .ref x :: st) ws) : XK M G A P mc ms nc ns pc ls (.ref x :: st) ws := by
  intro p l e s m args below meth c H locs lsA C hP hD hS hl
  exact lv_dup C.1 C.2.1 d rfl (k p l e s m args below meth c H locs lsA C hP hD hS hl)
theorem K_ifge (pc tgt : Nat) {x : Int32} {off : Int} (d : decode (mdB M) pc = .ok (.ifCond .ge off, 3)) (ht : (pc : Int) + off = (tgt : Int)) (hx : 0 ≤ x) (k : XK M G A P mc ms nc ns tgt ls st ws) : XK M G A P mc ms nc ns pc ls (.int x :: st) ws := by
  intro p l e s m args below meth c H locs lsA C hP hD hS hl
  exact lv_if_ge C.1 C.2.1 d ht (fun _ => k p l e s m args below meth c H locs lsA C hP hD hS hl) (fun q => absurd hx q)
theorem K_obj (pc : Nat) {index x : Nat} (d : decode (mdB M) pc = .ok (.invokespecial index, 3)) (hL : Cond.methodLink (mdO M) index objectInit ∈ WS) (hi : Cond.instanceMethod objectInit ∈ WS) (hc : Cond.code objectInit ⟨#[0xb1]⟩ 1 none ∈ WS) (hR : 1 ≤ (mdG M).frames ∧ 12 ≤ (mdG M).locals) (k : XK M G A P mc ms nc ns (pc + 3) ls [] ws) : XK M G A P mc ms nc ns pc ls [.ref x] ws := by
  intro p l e s m args below meth c H locs lsA C hP hD hS hl
  refine W.objInit C.1 C.2.1 C.2.2.2.1 (C.2.2.2.2.1 _ hL) (C.2.2.2.2.1 _ hi) (C.2.2.2.2.1 _ hc) rfl (by rw [C.2.2.1]; exact lv_size hl) rfl d hR.1 hR.2 ?_
  exact W.eq (g2 := F0 m (pc + 3) lsA []) rfl (k p l e s m args below meth c H locs lsA C hP hD hS hl)
theorem K_vret (pc : Nat) (d : decode (mdB M) pc = .ok (.return_, 1)) (hc : nc ≤ mc) (hs : ns ≤ ms) (hQ : P ws) : XK M G A P mc ms nc ns pc ls [] ws := by
  intro p l e s m args below meth c H locs lsA C hP hD hS hl
  refine W.widen (k := mc) (n := ms) hc hs ?_
  exact W.vret (Qc := QcK G A P) C.1 C.2.1 C.2.2.2.2.2.1 (fun t ht _ => ⟨⟨ws, rfl, hQ, by rw [ht]; exact hP, hD⟩, hS.F ht⟩) hS.2.2 d C.2.2.2.2.2.2.1
theorem K_newa {N : Nat} (pc : Nat) (d : decode (mdB M) pc = .ok (.newarray .int, 2)) (ha : Cond.arrayClass (newarray.typeOf .int) ∈ WS) (hN : N ≤ 4000) (hR : nc + 1 ≤ (mdG M).cells ∧ ns + N ≤ (mdG M).slots) (k : ∀ q : Nat, XK M G A P mc ms (nc + 1) (ns + N) (pc + 2) ls (.ref q :: st) (ws ++ [(q, .inl (G.2.1, N, .inl (fun _ => 0)))])) : XK M G A P mc ms nc ns pc ls (.int (nI N) :: st) ws := by
  intro p l e s m args below meth c H locs lsA C hP hD hS hl
  have hA := C.2.2.2.2.2.2.2.2.2
  refine va_newaK C.1 C.2.1 (C.2.2.2.2.1 _ ha) (g := F0 m pc lsA (.int (nI N) :: st)) rfl d rfl (by rw [Int32.not_lt]; exact nI_pos' (by omega)) (nI_clamp (by omega)) (by show N * 4 ≤ _; omega) hR.1 hR.2 rfl fun H1 cA e1 z1 o1 hAr hNm => ?_
  have hcA : cA = G.2.1 := Option.some.inj (hNm.symm.trans C.2.2.2.2.2.2.2.2.1.2.2.1)
  subst hcA
  have hk : ∀ (k : Nat) (x : Nat × va_E), ws[k]? = some x → H1[x.1]? = H[x.1]? := fun k x hx => o1 x.1 ((hP k x hx).lt)
  refine k H.size p l e s m args below meth c H1 locs lsA C ?_ (hD.push hP rfl (hA _ hS.1)) ⟨Nat.le_trans hS.1 (by omega), fun x h1 h2 => (o1 x (Nat.lt_of_lt_of_le h1 hS.1)).trans (hS.2.1 x h1 h2), hS.2.2⟩ hl
  refine P_app.mpr ⟨P_cong hP hk, fun k q hq => ?_⟩
  obtain ⟨a, eq⟩ := List.getElem?_eq_some_iff.mp hq
  simp at a
  subst a
  rw [← eq]
  exact e1
end KR
