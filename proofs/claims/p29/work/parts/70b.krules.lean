section KS
variable {M : MD} {G : G3} {A : Nat → Prop} {P : va_W → Prop} {mc ms nc ns pc : Nat} {ls : List (Nat × Value)} {st rest : List Value} {ws : va_W}
theorem K_new {ci index N : Nat} {C : String} {T : u_T} (pc : Nat) (ty : Nat → FieldType) (fs : List Value) (d : decode (mdB M) pc = .ok (.new index, 3)) (hin : ∀ w ∈ u_ws C T N, w ∈ WS) (hty : ∀ k, k < N → parseFieldDescriptor (T k).2.2.1 = some (ty k)) (hcl : Cond.classLink (mdO M) index C ∈ WS) (hinst : Cond.instantiable C N ∈ WS) (hini : Cond.initialized C ∈ WS) (hc : vwCl[ci]? = some (C, T, N)) (hfs : ∀ j, j < N → defaultValue (ty j) = vp_V fs j) (hR : nc + 1 ≤ (mdG M).cells ∧ ns + N ≤ (mdG M).slots)
    (k : ∀ q : Nat, XK M G A P mc ms (nc + 1) (ns + N) (pc + 3) ls (.ref q :: st) (ws ++ [(q, .inr (ci, fs))])) : XK M G A P mc ms nc ns pc ls st ws := by
  intro p l e s m args below meth c H locs lsA C0 hP hD hS hl
  have hts := C0.2.2.2.2.1
  exact va_new C0.1 C0.2.1 hts hin ty hty C0.2.2.2.1 (hts _ hcl) (hts _ hinst) (hts _ hini) C0.2.2.2.2.2.2.2.2.1.1 hP hD hS C0.2.2.2.2.2.2.2.2.2 hc hfs hR.1 hR.2 d (fun q H1 hP1 hD1 hS1 => k q p l e s m args below meth c H1 locs lsA C0 hP1 hD1 hS1 hl)
theorem K_putF {ci index N q0 a : Nat} {C : String} {T : u_T} {fs : List Value} {v : Value} {ws2 : va_W} (pc f : Nat) (ty : FieldType) (ty0 : Nat → FieldType) (d : decode (mdB M) pc = .ok (.putfield index, 3)) (hin : ∀ w ∈ u_ws C T N, w ∈ WS) (hty : ∀ k, k < N → parseFieldDescriptor (T k).2.2.1 = some (ty0 k)) (hnm : ∀ a, a < N → ∀ b, b < N → a ≠ b → (T a).2.1 ≠ (T b).2.1) (hL : Cond.fieldLink (mdO M) index (T f).1 (T f).2.1 (T f).2.2.1 ∈ WS) (he : ws[q0]? = some (a, .inr (ci, fs))) (hc : vwCl[ci]? = some (C, T, N)) (hk : f < N) (hfin : (T f).2.2.2 = true) (hdecl : (T f).1 = mdO M) (hd : parseFieldDescriptor (T f).2.2.1 = some ty) (hn : narrow ty v = v) (hfit : fits ty v = true) (hl0 : f < fs.length) (hset : ws.set q0 (a, .inr (ci, fs.set f v)) = ws2)
    (k : XK M G A P mc ms nc ns (pc + 3) ls rest ws2) : XK M G A P mc ms nc ns pc ls (v :: .ref a :: rest) ws := by
  intro p l e s m args below meth c H locs lsA C0 hP hD hS hl
  have hts := C0.2.2.2.2.1
  subst hset
  exact va_putF C0.1 C0.2.1 hts hin ty0 hty hnm C0.2.2.2.1 C0.2.2.2.2.2.2.2.2.1.1 hP hD hS q0 he hc f hk (hts _ hL) (fun _ h => h) hfin C0.2.2.2.2.2.2.2.1 hdecl hd hn hfit hl0 d (fun H1 locs1 hP1 hD1 hS1 => k p l e s m args below meth c H1 locs1 lsA C0 hP1 hD1 hS1 hl)
theorem K_put {ci index N q0 a : Nat} {C : String} {T : u_T} {fs : List Value} {v : Value} {ws2 : va_W} (pc f : Nat) (ty : FieldType) (ty0 : Nat → FieldType) (d : decode (mdB M) pc = .ok (.putfield index, 3)) (hin : ∀ w ∈ u_ws C T N, w ∈ WS) (hty : ∀ k, k < N → parseFieldDescriptor (T k).2.2.1 = some (ty0 k)) (hnm : ∀ a, a < N → ∀ b, b < N → a ≠ b → (T a).2.1 ≠ (T b).2.1) (hL : Cond.fieldLink (mdO M) index (T f).1 (T f).2.1 (T f).2.2.1 ∈ WS) (he : ws[q0]? = some (a, .inr (ci, fs))) (hc : vwCl[ci]? = some (C, T, N)) (hk : f < N) (hfin : (T f).2.2.2 = false) (hd : parseFieldDescriptor (T f).2.2.1 = some ty) (hn : narrow ty v = v) (hfit : fits ty v = true) (hl0 : f < fs.length) (hset : ws.set q0 (a, .inr (ci, fs.set f v)) = ws2)
    (k : XK M G A P mc ms nc ns (pc + 3) ls rest ws2) : XK M G A P mc ms nc ns pc ls (v :: .ref a :: rest) ws := by
  intro p l e s m args below meth c H locs lsA C0 hP hD hS hl
  have hts := C0.2.2.2.2.1
  subst hset
  exact va_put C0.1 C0.2.1 hts hin ty0 hty hnm C0.2.2.2.1 C0.2.2.2.2.2.2.2.2.1.1 hP hD hS q0 he hc f hk (hts _ hL) (fun _ h => h) hfin hd hn hfit hl0 d (fun H1 locs1 hP1 hD1 hS1 => k p l e s m args below meth c H1 locs1 lsA C0 hP1 hD1 hS1 hl)
theorem K_getR {ci index N q0 a : Nat} {C : String} {T : u_T} {fs : List Value} {v : Value} (pc f : Nat) (d : decode (mdB M) pc = .ok (.getfield index, 3)) (hin : ∀ w ∈ u_ws C T N, w ∈ WS) (hL : Cond.fieldLink (mdO M) index (T f).1 (T f).2.1 (T f).2.2.1 ∈ WS) (he : ws[q0]? = some (a, .inr (ci, fs))) (hc : vwCl[ci]? = some (C, T, N)) (hk : f < N) (hv : fs[f]? = some v) (k : XK M G A P mc ms nc ns (pc + 3) ls (v :: rest) ws) : XK M G A P mc ms nc ns pc ls (.ref a :: rest) ws := by
  intro p l e s m args below meth c H locs lsA C0 hP hD hS hl
  have hts := C0.2.2.2.2.1
  exact va_get C0.1 C0.2.1 hts hin C0.2.2.2.1 C0.2.2.2.2.2.2.2.2.1.1 hP q0 he hc f hk (hts _ hL) (fun _ h => h) hv d (k p l e s m args below meth c H locs lsA C0 hP hD hS hl)
theorem K_iast {q0 a n : Nat} {f : Nat → Int32} {i v : Int32} {ws2 : va_W} (pc : Nat) (d : decode (mdB M) pc = .ok (.iastore, 1)) (he : ws[q0]? = some (a, .inl (G.2.1, n, .inl f))) (hin : vp_in i n) (hset : ws.set q0 (a, .inl (G.2.1, n, .inl (upd f i.toNatClampNeg v))) = ws2) (k : XK M G A P mc ms nc ns (pc + 1) ls rest ws2) : XK M G A P mc ms nc ns pc ls (.int v :: .int i :: .ref a :: rest) ws := by
  intro p l e s m args below meth c H locs lsA C0 hP hD hS hl
  subst hset
  exact va_iast C0.1 C0.2.1 C0.2.2.2.2.2.2.2.2.1.1 hP hD hS q0 0 he rfl hin d (fun H1 locs1 hP1 hD1 hS1 => k p l e s m args below meth c H1 locs1 lsA C0 hP1 hD1 hS1 hl)
/-- a call of a constructor on the object made last -/
theorem K_call {M2 : MD} {index q mc2 ms2 : Nat} {e2 : va_E} {av : List Value} {P2 : G3 → Nat → va_W → Prop} {R : va_W} (pc : Nat) (hE : EvK M2 e2 av mc2 ms2 P2) (d : decode (mdB M) pc = .ok (.invokespecial index, 3)) (hL : Cond.methodLink (mdO M) index (mdY M2) ∈ WS ∨ ∃ host : String, (mdO M, index, mdY M2, host) ∈ NWM) (hm : WMC M2) (hin : Cond.instanceMethod (mdY M2) ∈ WS) (hnm : (mdY M2).name = "<init>") (hr : mdR M2 = none) (hn : (parseMethodDescriptor (mdY M2).desc).map (fun d => d.parameters.length) = some av.length) (hR : ROK M M2) (h0 : (mdG M2).cells = mc2 ∧ (mdG M2).slots = ms2) (hcr : nc + mc2 ≤ (mdG M).cells ∧ ns + ms2 ≤ (mdG M).slots) (hws : ws = R ++ [(q, e2)]) (hst : st = av.reverse ++ .ref q :: rest) (hcat : (rest.map fun v => v.category).sum ≤ 8)
    (k : ∀ ws2, P2 G q ws2 → XK M G A P mc ms (nc + mc2) (ns + ms2) (pc + 3) ls rest (R ++ ws2)) : XK M G A P mc ms nc ns pc ls st ws := by
  subst hws
  subst hst
  intro p l e s m args below meth c H locs lsA C0 hP hD hS hl
  have hts := C0.2.2.2.2.1
  have hown := C0.2.2.2.1
  have hKC := C0.2.2.2.2.2.2.2.2.1
  have hAge := C0.2.2.2.2.2.2.2.2.2
  have hsz : lsA.size = mdN M := lv_size hl
  obtain ⟨hPR, hPq⟩ := P_app.mp hP
  have hqA : A q := hD.2 R.length (q, e2) (by rw [List.getElem?_append_right (Nat.le_refl _), Nat.sub_self]; rfl)
  have hFA : ∀ x, FK q H.size x → A x := by
    rintro x (rfl | hx)
    · exact hqA
    · exact hAge x (Nat.le_trans hS.1 hx)
  have hpre : PreS s H (PcK G q H.size e2 av) (.ref q :: av) := ⟨PcK_blind, fun U hU hW => ⟨rfl, by rw [hU], by rw [hU]; exact hPq, hKC.warm hW⟩⟩
  have hcat2 : 2 * (F0 m pc lsA (av.reverse ++ .ref q :: rest)).monitorRoom + (rest.map fun v => v.category).sum ≤ 8 := lv_room hcat
  have run : va_Run p l e (mdG M) s m args below meth c H locs nc ns mc2 ms2 (F0 m pc lsA (av.reverse ++ .ref q :: rest)) rest (QcK G (FK q H.size) (P2 G q) (Value.ref q :: av).toArray) (FK q H.size) := by
    rcases hL with hL | ⟨host, hL⟩
    · have cb := callB_of (R := mdG M) (s := s) (args := args) av.length hts (good_wsM hm.2.1) rfl h0.1 h0.2 (hts _ hm.1) (hts _ hL) ⟨hm.2.2.1, hm.2.2.2, hn⟩ hR
      rw [hr] at cb
      exact va_runI (As := av) ⟨C0.1, C0.2.1, C0.2.2.1, hown, hts⟩ (hE l G q H.size) ⟨cb, hnm, hts _ hin⟩ hpre rfl rfl hsz rfl hcat2 d hcr
    · have cb := va_cnB (R := mdG M) (s := s) (args := args) (ret := mdR M2) av.length hts (good_wsM hm.2.1) rfl h0.1 h0.2 (hKC.2.1 _ hL) (hts _ hm.1) ⟨hm.2.2.1, hm.2.2.2, hn⟩ hR
      rw [hr] at cb
      exact va_runIN (As := av) ⟨C0.1, C0.2.1, C0.2.2.1, hown, hts⟩ (hE l G q H.size) ⟨cb, hnm, hts _ hin⟩ hpre rfl rfl hsz rfl hcat2 d hcr
  intro T hT X0
  obtain ⟨v, st₀, t, T', L, h0', X', hL', e1, e2', ⟨⟨ws2, hv, hp2, hw, hD2⟩, hF⟩, stp⟩ := run T hT X0
  cases hv
  obtain ⟨hz, hkp, hS1⟩ := vx_keep h0' e1 hS (fun x _ h => hFA x h) hFA hL' hF
  have hne : ∀ (k : Nat) (x : Nat × va_E), R[k]? = some x → x.1 < H.size ∧ x.1 ≠ q := fun k x hx => by
    refine ⟨vx_lt hPR hx, fun hq => ?_⟩
    obtain ⟨hkl, -⟩ := List.getElem?_eq_some_iff.mp hx
    have := hD.1 k R.length x (q, e2) (by rw [List.getElem?_append_left hkl]; exact hx) (by rw [List.getElem?_append_right (Nat.le_refl _), Nat.sub_self]; rfl) hq
    omega
  have hP2 : va_P G.1 vwCl (R ++ ws2) T'.heap := P_app.mpr ⟨P_cong hPR (fun k x hx => hkp _ (hne k x hx).1 (by
    rintro (h | h)
    · exact (hne k x hx).2 h
    · have := (hne k x hx).1; omega)), by rw [e1]; exact hw⟩
  have hDR : va_D A R := ⟨fun i j a b ha hb => hD.1 i j a b (by obtain ⟨h, -⟩ := List.getElem?_eq_some_iff.mp ha; rw [List.getElem?_append_left h]; exact ha) (by obtain ⟨h, -⟩ := List.getElem?_eq_some_iff.mp hb; rw [List.getElem?_append_left h]; exact hb), fun i a ha => hD.2 i a (by obtain ⟨h, -⟩ := List.getElem?_eq_some_iff.mp ha; rw [List.getElem?_append_left h]; exact ha)⟩
  have hDD : va_D A (R ++ ws2) := hDR.app (hD2.weaken (fun _ x _ h => hFA x.1 h)) (fun i j a b ha hb hab => by
    have h1 := hne i a ha
    rcases hD2.2 j b hb with h2 | h2
    · exact h1.2 (hab.trans h2)
    · rw [← hab] at h2; omega)
  have hk := k ws2 hp2 p l e s m args below meth c T'.heap (locs ++ L) lsA C0 hP2 hDD hS1 hl
  obtain ⟨t2, a1, b1⟩ := hk T' rfl X'
  exact ⟨t2, stp t2 a1, b1⟩
end KS
