section KU
variable {M : MD} {G : G3} {A : Nat → Prop} {P : va_W → Prop} {mc ms nc ns pc : Nat} {ls : List (Nat × Value)} {st rest : List Value} {ws : va_W}
theorem K_goto (pc tgt : Nat) {off : Int} (d : decode (mdB M) pc = .ok (.goto off, 3)) (ht : (pc : Int) + off = (tgt : Int)) (k : XK M G A P mc ms nc ns tgt ls st ws) : XK M G A P mc ms nc ns pc ls st ws := by
  intro p l e s m args below meth c H locs lsA C hP hD hS hl
  exact lv_goto C.1 C.2.1 d ht (k p l e s m args below meth c H locs lsA C hP hD hS hl)
theorem K_icge (pc tgt : Nat) {x y : Int32} {off : Int} (d : decode (mdB M) pc = .ok (.if_icmp .ge off, 3)) (ht : (pc : Int) + off = (tgt : Int)) (hx : y ≤ x) (k : XK M G A P mc ms nc ns tgt ls st ws) : XK M G A P mc ms nc ns pc ls (.int y :: .int x :: st) ws := by
  intro p l e s m args below meth c H locs lsA C hP hD hS hl
  exact lv_icmp_ge C.1 C.2.1 d ht (fun _ => k p l e s m args below meth c H locs lsA C hP hD hS hl) (fun q => absurd hx q)
theorem K_iclt (pc tgt : Nat) {x y : Int32} {off : Int} (d : decode (mdB M) pc = .ok (.if_icmp .ge off, 3)) (ht : (pc : Int) + off = (tgt : Int)) (hx : ¬ y ≤ x) (k : XK M G A P mc ms nc ns (pc + 3) ls st ws) : XK M G A P mc ms nc ns pc ls (.int y :: .int x :: st) ws := by
  intro p l e s m args below meth c H locs lsA C hP hD hS hl
  exact lv_icmp_ge C.1 C.2.1 d ht (fun q => absurd q hx) (fun _ => k p l e s m args below meth c H locs lsA C hP hD hS hl)
theorem K_istore_n {kf : Fin 4} {i : Nat} {x : Int32} {ls2 : List (Nat × Value)} (pc : Nat) (d : decode (mdB M) pc = .ok (.istore_n kf, 1)) (hi : (kf : Nat) = i) (hn : i < mdN M) (hl2 : (i, Value.int x) :: ls.filter (fun q => !(q.1 == i) && !(q.1 + 1 == i && q.2.category == 2)) = ls2) (k : XK M G A P mc ms nc ns (pc + 1) ls2 st ws) : XK M G A P mc ms nc ns pc ls (.int x :: st) ws := by
  intro p l e s m args below meth c H locs lsA C hP hD hS hl
  exact lv_istore_n C.1 C.2.1 d hi hl hn hl2 (fun lsB hlB => k p l e s m args below meth c H locs lsB C hP hD hS hlB)
theorem K_iinc {i : Nat} {n : Int} {x : Int32} {ls2 : List (Nat × Value)} (pc k0 : Nat) (v : Int32) (d : decode (mdB M) pc = .ok (.iinc i n, 3)) (hk : ls[k0]? = some (i, .int x)) (hv : x + Int32.ofInt n = v) (hn : i < mdN M) (hl2 : (i, Value.int v) :: ls.filter (fun q => !(q.1 == i) && !(q.1 + 1 == i && q.2.category == 2)) = ls2) (k : XK M G A P mc ms nc ns (pc + 3) ls2 st ws) : XK M G A P mc ms nc ns pc ls st ws := by
  intro p l e s m args below meth c H locs lsA C hP hD hS hl
  exact lv_iinc C.1 C.2.1 d hl hk hv hn hl2 (fun lsB hlB => k p l e s m args below meth c H locs lsB C hP hD hS hlB)
theorem K_alen {q0 a : Nat} {x : vp_A} (pc : Nat) (v : Int32) (d : decode (mdB M) pc = .ok (.arraylength, 1)) (he : ws[q0]? = some (a, .inl (G.2.2, x))) (hv : Int32.ofNat x.1 = v) (k : XK M G A P mc ms nc ns (pc + 1) ls (.int v :: rest) ws) : XK M G A P mc ms nc ns pc ls (.ref a :: rest) ws := by
  intro p l e s m args below meth c H locs lsA C0 hP hD hS hl
  exact va_alen C0.1 C0.2.1 C0.2.2.2.2.2.2.2.2.1.1 hP q0 1 he rfl hv d (k p l e s m args below meth c H locs lsA C0 hP hD hS hl)
theorem K_newq {N index : Nat} {n : Int32} (pc : Nat) (d : decode (mdB M) pc = .ok (.anewarray index, 3)) (hL : Cond.classLink (mdO M) index "LampMural$Scene" ∈ WS) (hn : ¬ n < 0) (hN : n.toNatClampNeg = N) (hb : N * 4 ≤ 536870912) (hR : nc + 1 ≤ (mdG M).cells ∧ ns + N ≤ (mdG M).slots) (k : ∀ q : Nat, XK M G A P mc ms (nc + 1) (ns + N) (pc + 3) ls (.ref q :: st) (ws ++ [(q, .inl (G.2.2, N, .inr (.inr (.inr (.inr (fun _ => none))))))])) : XK M G A P mc ms nc ns pc ls (.int n :: st) ws := by
  intro p l e s m args below meth c H locs lsA C0 hP hD hS hl
  have hts := C0.2.2.2.2.1
  have hKC := C0.2.2.2.2.2.2.2.2.1
  refine va_newq C0.1 C0.2.1 C0.2.2.2.1 (hts _ hL) hKC.2.2.2.2 hKC.1 hP hD hS C0.2.2.2.2.2.2.2.2.2 hn hN hb hR.1 hR.2 d fun q cA H1 hK1 hP1 hD1 hS1 => ?_
  obtain ⟨kA, comp, -, -, -, hf⟩ := (hK1.2 2 (cA, .object "LampMural$Scene") rfl).2
  have hcA : cA = G.2.2 := Option.some.inj (hf.symm.trans hKC.2.2.2.1)
  subst hcA
  exact k q p l e s m args below meth c H1 locs lsA C0 hP1 hD1 hS1 hl
theorem K_astq {q0 a n v : Nat} {f : Nat → Option Nat} {vs : List Value} {i : Int32} {ws2 : va_W} (pc qk j : Nat) (d : decode (mdB M) pc = .ok (.aastore, 1)) (he : ws[q0]? = some (a, .inl (G.2.2, n, .inr (.inr (.inr (.inr f)))))) (hv : ws[qk]? = some (v, .inr (4, vs))) (hin : vp_in i n) (hj : i.toNatClampNeg = j) (hset : ws.set q0 (a, .inl (G.2.2, n, .inr (.inr (.inr (.inr (va_up f j (some v))))))) = ws2) (k : XK M G A P mc ms nc ns (pc + 1) ls rest ws2) : XK M G A P mc ms nc ns pc ls (.ref v :: .int i :: .ref a :: rest) ws := by
  intro p l e s m args below meth c H locs lsA C0 hP hD hS hl
  subst hset
  subst hj
  exact va_astq C0.1 C0.2.1 C0.2.2.2.2.2.2.2.2.1.1 hP hD hS q0 1 qk 4 he rfl hv vc4 hin d (fun H1 locs1 hP1 hD1 hS1 => k p l e s m args below meth c H1 locs1 lsA C0 hP1 hD1 hS1 hl)
end KU
