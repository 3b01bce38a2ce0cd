/-! the law of p29: its frame -/
theorem lenC : ΛC.length = 110 := by decide +kernel
abbrev WDt : Type := Mm × (Nat → Int64)
abbrev FFT : Type := G3 × ClassId × (Nat → Nat)
/-- the class's places, the facts' numbers, where the row of longs lies, the script's place, its length, its numbers -/
abbrev GLT : Type := (Nat → Nat) × FFT × Nat × Nat × Nat × (Nat → Int32)
abbrev ggL (gl : GLT) : GG := (gl.1, gl.2.1.1.1, gl.2.1.1.2.1, gl.2.1.1.2.2, fun _ => 0)
/-- a method on an object; a method without; the law -/
abbrev WHO : Type := (Option Value → Mm → Prop) ⊕ ((Option Value → Prop) ⊕ Unit)
def outE (cj : ClassId) (f : Nat → Int64) : va_E := .inl (cj, 32, .inr (.inl f))
def WL (sg : Nat) (gl : GLT) (ω : WDt) : va_W := match sg with
  | 0 => []
  | 1 => wO (ggL gl) ΛC ω.1
  | _ => wO (ggL gl) ΛC ω.1 ++ [(gl.2.2.1, outE gl.2.1.2.1 ω.2)]
def adL (gl : GLT) (k : Nat) : Nat := if k = 109 then gl.1 109 else if k = 2 then gl.2.2.1 else if k = 3 then gl.2.2.2.1 else k - 200
def WPL (sg : Nat) (gl : GLT) (ω : WDt) (H : Heap) : Prop := va_P gl.2.1.1.1 vwCl (WL sg gl ω) H
def FA (F : FFT) (A : Nat → Prop) (U : State) (H : Heap) : Prop :=
  KC F.1 U ∧ va_K F.1.1 vwCl [(F.2.1, .long)] U ∧ (∀ ad : Nat → Nat, (∀ k, 1000 ≤ k → ad k = F.2.2 k) → SF (ad, F.1.1, F.1.2.1, F.1.2.2, fun _ => 0) A U H) ∧ va_Nc "java/lang/IllegalArgumentException" "java/lang/IndexOutOfBoundsException" U ∧ va_Nc "java/lang/IllegalStateException" "java/lang/IllegalArgumentException" U
theorem FA.step {F : FFT} {A B : Nat → Prop} {s U : State} {H0 H : Heap} (h : FA F A s H0) (hW : s.WarmedH U.vm) (hk : ∀ a : Nat, a < H0.size → ¬ A a → H[a]? = H0[a]?) (hB : ∀ q, B q → A q) : FA F B U H :=
  ⟨h.1.warm hW, h.2.1.moved hW.alike, fun ad had => (h.2.2.1 ad had).step hW hk hB, h.2.2.2.1.moved hW.alike, h.2.2.2.2.moved hW.alike⟩
theorem FA.same {F : FFT} {A : Nat → Prop} {s U : State} {H : Heap} (h : FA F A s H) (hv : s.vm = U.vm) : FA F A U H :=
  h.step (by rw [← hv]; exact State.WarmedH.refl s) (fun _ _ _ => rfl) (fun _ h => h)
def DL (sg : Nat) (gl : GLT) (A : Nat → Prop) : Prop := (1 ≤ sg → AD (ggL gl) ΛC A ∧ ∀ k, 1000 ≤ k → gl.1 k = gl.2.1.2.2 k) ∧ (2 ≤ sg → A gl.2.2.1 ∧ ∀ i : Nat, i < ΛC.length → gl.1 i ≠ gl.2.2.1)
/-- the script, where it is given -/
abbrev SCT : Type := Option (Nat × (Nat → Int32))
def SCR0 (sc : SCT) (gl : GLT) (A : Nat → Prop) (U : State) (H : Heap) : Prop := ∀ r, sc = some r → gl.2.2.2.2 = r ∧ va_X gl.2.2.2.1 r.1 r.2 U H ∧ gl.2.2.2.1 < H.size ∧ ¬ A gl.2.2.2.1
def isLaw (who : WHO) : Bool := match who with
  | .inr (.inr _) => true
  | _ => false
def CL (who : WHO) (sc : SCT) (sg : Nat) (M : MD) (HH : List (Nat × Nat × Nat × Nat)) (gl : GLT) (A : Nat → Prop) (p : Program) (l : Launch) (s : State) (m : MethodId) (args : Array Value) (meth : Method) (c : Code) : Prop :=
  p.tables.exec = Jvm.exec ∧ c.code = mdB M ∧ c.maxLocals = mdN M ∧ s.vm.findClass (mdO M) = some m.cls ∧ (∀ w ∈ WS, w.before args s = true) ∧ meth.sig.returnType = mdR M ∧ meth.locks = false ∧ (isLaw who = false → c.exceptionTable.toList = tableOf HH) ∧ l.stackTraces = false ∧ DL sg gl A ∧ (∀ q : Nat, s.heap.size ≤ q → A q) ∧ FA gl.2.1 A s s.heap ∧ SCR0 sc gl A s s.heap ∧
  (isLaw who = true → args = #[Value.ref gl.2.2.2.1] ∧ (∀ q : Nat, A q → s.heap.size ≤ q))
def QcW (gl : GLT) (A : Nat → Prop) (P : Option Value → Mm → Prop) : Array Value → State → Outcome → State → Prop := fun _ st o t =>
  (∃ (r : Option Value) (V : Mm), o = .returned r ∧ P r V ∧ va_P gl.2.1.1.1 vwCl (wO (ggL gl) ΛC V) t.heap) ∧ va_F A st t
def QcA (A : Nat → Prop) (P : Option Value → Prop) : Array Value → State → Outcome → State → Prop := fun _ st o t =>
  (∃ r : Option Value, o = .returned r ∧ P r) ∧ va_F A st t
def ZL (who : WHO) (M : MD) (gl : GLT) (A : Nat → Prop) (below : List Frame) (args : Array Value) (s : State) : State → Prop := match who with
  | .inl P => vx_MQ below (QcW gl A P) (fun _ _ _ => False) args s (mdG M).cells (mdG M).slots A
  | .inr (.inl P) => vx_MQ below (QcA A P) (fun _ _ _ => False) args s (mdG M).cells (mdG M).slots A
  | .inr (.inr _) => lw_Z below args s
/-- inside the law, or a method of it: from pc, with these locals, this stack, this world, with this much made so far, it comes to its end -/
def XL (who : WHO) (sc : SCT) (sg : Nat) (M : MD) (HH : List (Nat × Nat × Nat × Nat)) (nc ns : Nat) (pc : Nat) (ls : List (Nat × Value)) (st : List Value) (ω : WDt) : Prop :=
  ∀ (p : Program) (l : Launch) (e : Env) (s : State) (m : MethodId) (args : Array Value) (below : List Frame) (meth : Method) (c : Code) (H : Heap) (locs : List Loc) (gl : GLT) (A : Nat → Prop) (lsA : Array Slot),
    CL who sc sg M HH gl A p l s m args meth c → WPL sg gl ω H → va_S A s.heap H locs → lv_has lsA (mdN M) (lm (adL gl) ls) →
    W p l e (mdG M) s m args below meth c H locs nc ns (ZL who M gl A below args s) (F0 m pc lsA (st.map (cv (adL gl))))

section LR
variable {who : WHO} {sc : SCT} {sg : Nat} {M : MD} {HH : List (Nat × Nat × Nat × Nat)} {nc ns : Nat} {ls : List (Nat × Value)} {st : List Value} {ω : WDt} {pc : Nat}
theorem L_iadd (pc : Nat) {x y : Int32} (d : decode (mdB M) pc = .ok (.iadd, 1)) (k : XL who sc sg M HH nc ns (pc + 1) ls (.int (x + y) :: st) ω) : XL who sc sg M HH nc ns pc ls (.int y :: .int x :: st) ω := by
  intro p l e s m args below meth c H locs gl A lsA C hP hS hl
  exact lv_iadd C.1 C.2.1 d  (k p l e s m args below meth c H locs gl A lsA C hP hS hl)
theorem L_isub (pc : Nat) {x y : Int32} (d : decode (mdB M) pc = .ok (.isub, 1)) (k : XL who sc sg M HH nc ns (pc + 1) ls (.int (x - y) :: st) ω) : XL who sc sg M HH nc ns pc ls (.int y :: .int x :: st) ω := by
  intro p l e s m args below meth c H locs gl A lsA C hP hS hl
  exact lv_isub C.1 C.2.1 d  (k p l e s m args below meth c H locs gl A lsA C hP hS hl)
theorem L_imul (pc : Nat) {x y : Int32} (d : decode (mdB M) pc = .ok (.imul, 1)) (k : XL who sc sg M HH nc ns (pc + 1) ls (.int (x * y) :: st) ω) : XL who sc sg M HH nc ns pc ls (.int y :: .int x :: st) ω := by
  intro p l e s m args below meth c H locs gl A lsA C hP hS hl
  exact lv_imul C.1 C.2.1 d  (k p l e s m args below meth c H locs gl A lsA C hP hS hl)
theorem L_iand (pc : Nat) {x y : Int32} (d : decode (mdB M) pc = .ok (.iand, 1)) (k : XL who sc sg M HH nc ns (pc + 1) ls (.int (x &&& y) :: st) ω) : XL who sc sg M HH nc ns pc ls (.int y :: .int x :: st) ω := by
  intro p l e s m args below meth c H locs gl A lsA C hP hS hl
  exact lv_iand C.1 C.2.1 d  (k p l e s m args below meth c H locs gl A lsA C hP hS hl)
theorem L_ixor (pc : Nat) {x y : Int32} (d : decode (mdB M) pc = .ok (.ixor, 1)) (k : XL who sc sg M HH nc ns (pc + 1) ls (.int (x ^^^ y) :: st) ω) : XL who sc sg M HH nc ns pc ls (.int y :: .int x :: st) ω := by
  intro p l e s m args below meth c H locs gl A lsA C hP hS hl
  exact lv_ixor C.1 C.2.1 d  (k p l e s m args below meth c H locs gl A lsA C hP hS hl)
theorem L_idiv (pc : Nat) {x y : Int32} (d : decode (mdB M) pc = .ok (.idiv, 1)) (h : ¬ y = 0) (k : XL who sc sg M HH nc ns (pc + 1) ls (.int (x / y) :: st) ω) : XL who sc sg M HH nc ns pc ls (.int y :: .int x :: st) ω := by
  intro p l e s m args below meth c H locs gl A lsA C hP hS hl
  exact lv_idiv C.1 C.2.1 d h (k p l e s m args below meth c H locs gl A lsA C hP hS hl)
theorem L_irem (pc : Nat) {x y : Int32} (d : decode (mdB M) pc = .ok (.irem, 1)) (h : ¬ y = 0) (k : XL who sc sg M HH nc ns (pc + 1) ls (.int (x - x / y * y) :: st) ω) : XL who sc sg M HH nc ns pc ls (.int y :: .int x :: st) ω := by
  intro p l e s m args below meth c H locs gl A lsA C hP hS hl
  exact lv_irem C.1 C.2.1 d h (k p l e s m args below meth c H locs gl A lsA C hP hS hl)
theorem L_ishr (pc : Nat) {x y : Int32} (d : decode (mdB M) pc = .ok (.ishr, 1)) (k : XL who sc sg M HH nc ns (pc + 1) ls (.int (x >>> (y &&& 31)) :: st) ω) : XL who sc sg M HH nc ns pc ls (.int y :: .int x :: st) ω := by
  intro p l e s m args below meth c H locs gl A lsA C hP hS hl
  exact lv_ishr C.1 C.2.1 d  (k p l e s m args below meth c H locs gl A lsA C hP hS hl)
theorem L_ladd (pc : Nat) {x y : Int64} (d : decode (mdB M) pc = .ok (.ladd, 1)) (k : XL who sc sg M HH nc ns (pc + 1) ls (.long (x + y) :: st) ω) : XL who sc sg M HH nc ns pc ls (.long y :: .long x :: st) ω := by
  intro p l e s m args below meth c H locs gl A lsA C hP hS hl
  exact lv_ladd C.1 C.2.1 d  (k p l e s m args below meth c H locs gl A lsA C hP hS hl)
theorem L_lmul (pc : Nat) {x y : Int64} (d : decode (mdB M) pc = .ok (.lmul, 1)) (k : XL who sc sg M HH nc ns (pc + 1) ls (.long (x * y) :: st) ω) : XL who sc sg M HH nc ns pc ls (.long y :: .long x :: st) ω := by
  intro p l e s m args below meth c H locs gl A lsA C hP hS hl
  exact lv_lmul C.1 C.2.1 d  (k p l e s m args below meth c H locs gl A lsA C hP hS hl)
theorem L_i2l (pc : Nat) {x : Int32} (d : decode (mdB M) pc = .ok (.i2l, 1)) (k : XL who sc sg M HH nc ns (pc + 1) ls (.long (x.toInt64) :: st) ω) : XL who sc sg M HH nc ns pc ls (.int x :: st) ω := by
  intro p l e s m args below meth c H locs gl A lsA C hP hS hl
  exact lv_i2l C.1 C.2.1 d rfl (k p l e s m args below meth c H locs gl A lsA C hP hS hl)
theorem L_iconst (pc : Nat) (v : Int32) {n : Int} (d : decode (mdB M) pc = .ok (.iconst n, 1)) (hv : Int32.ofInt n = v) (k : XL who sc sg M HH nc ns (pc + 1) ls (.int v :: st) ω) : XL who sc sg M HH nc ns pc ls (st) ω := by
  intro p l e s m args below meth c H locs gl A lsA C hP hS hl
  exact lv_iconst C.1 C.2.1 d hv (k p l e s m args below meth c H locs gl A lsA C hP hS hl)
theorem L_bipush (pc : Nat) (v : Int32) {n : Int} (d : decode (mdB M) pc = .ok (.bipush n, 2)) (hv : (Int8.ofInt n).toInt32 = v) (k : XL who sc sg M HH nc ns (pc + 2) ls (.int v :: st) ω) : XL who sc sg M HH nc ns pc ls (st) ω := by
  intro p l e s m args below meth c H locs gl A lsA C hP hS hl
  exact lv_bipush C.1 C.2.1 d hv (k p l e s m args below meth c H locs gl A lsA C hP hS hl)
theorem L_sipush (pc : Nat) (v : Int32) {n : Int} (d : decode (mdB M) pc = .ok (.sipush n, 3)) (hv : (Int16.ofInt n).toInt32 = v) (k : XL who sc sg M HH nc ns (pc + 3) ls (.int v :: st) ω) : XL who sc sg M HH nc ns pc ls (st) ω := by
  intro p l e s m args below meth c H locs gl A lsA C hP hS hl
  exact lv_sipush C.1 C.2.1 d hv (k p l e s m args below meth c H locs gl A lsA C hP hS hl)
theorem L_dupr (pc : Nat) {v : Nat} (d : decode (mdB M) pc = .ok (.dup, 1)) (k : XL who sc sg M HH nc ns (pc + 1) ls (.ref v :: .ref v :: st) ω) : XL who sc sg M HH nc ns pc ls (.ref v :: st) ω := by
  intro p l e s m args below meth c H locs gl A lsA C hP hS hl
  exact lv_dup C.1 C.2.1 d rfl (k p l e s m args below meth c H locs gl A lsA C hP hS hl)
theorem L_iload_n (pc k0 : Nat) {kf : Fin 4} {i : Nat} {x : Int32} (d : decode (mdB M) pc = .ok (.iload_n kf, 1)) (hk : ls[k0]? = some (i, .int x)) (hi : (kf : Nat) = i) (k : XL who sc sg M HH nc ns (pc + 1) ls (.int x :: st) ω) : XL who sc sg M HH nc ns pc ls st ω := by
  intro p l e s m args below meth c H locs gl A lsA C hP hS hl
  exact lv_iload_n C.1 C.2.1 d hi (lv_at hl k0 (lm_at hk)) (k p l e s m args below meth c H locs gl A lsA C hP hS hl)
theorem L_iload (pc k0 : Nat) {i : Nat} {x : Int32} (d : decode (mdB M) pc = .ok (.iload i, 2)) (hk : ls[k0]? = some (i, .int x)) (k : XL who sc sg M HH nc ns (pc + 2) ls (.int x :: st) ω) : XL who sc sg M HH nc ns pc ls st ω := by
  intro p l e s m args below meth c H locs gl A lsA C hP hS hl
  exact lv_iload C.1 C.2.1 d (lv_at hl k0 (lm_at hk)) (k p l e s m args below meth c H locs gl A lsA C hP hS hl)
theorem L_lload_n (pc k0 : Nat) {kf : Fin 4} {i : Nat} {x : Int64} (d : decode (mdB M) pc = .ok (.lload_n kf, 1)) (hk : ls[k0]? = some (i, .long x)) (hi : (kf : Nat) = i) (k : XL who sc sg M HH nc ns (pc + 1) ls (.long x :: st) ω) : XL who sc sg M HH nc ns pc ls st ω := by
  intro p l e s m args below meth c H locs gl A lsA C hP hS hl
  exact lv_lload_n C.1 C.2.1 d hi (lv_at hl k0 (lm_at hk)) (k p l e s m args below meth c H locs gl A lsA C hP hS hl)
theorem L_lload (pc k0 : Nat) {i : Nat} {x : Int64} (d : decode (mdB M) pc = .ok (.lload i, 2)) (hk : ls[k0]? = some (i, .long x)) (k : XL who sc sg M HH nc ns (pc + 2) ls (.long x :: st) ω) : XL who sc sg M HH nc ns pc ls st ω := by
  intro p l e s m args below meth c H locs gl A lsA C hP hS hl
  exact lv_lload C.1 C.2.1 d (lv_at hl k0 (lm_at hk)) (k p l e s m args below meth c H locs gl A lsA C hP hS hl)
theorem L_aload_n (pc k0 : Nat) {kf : Fin 4} {i : Nat} {x : Nat} (d : decode (mdB M) pc = .ok (.aload_n kf, 1)) (hk : ls[k0]? = some (i, .ref x)) (hi : (kf : Nat) = i) (k : XL who sc sg M HH nc ns (pc + 1) ls (.ref x :: st) ω) : XL who sc sg M HH nc ns pc ls st ω := by
  intro p l e s m args below meth c H locs gl A lsA C hP hS hl
  exact lv_aload_n C.1 C.2.1 d hi (lv_at hl k0 (lm_at hk)) (k p l e s m args below meth c H locs gl A lsA C hP hS hl)
theorem L_aload (pc k0 : Nat) {i : Nat} {x : Nat} (d : decode (mdB M) pc = .ok (.aload i, 2)) (hk : ls[k0]? = some (i, .ref x)) (k : XL who sc sg M HH nc ns (pc + 2) ls (.ref x :: st) ω) : XL who sc sg M HH nc ns pc ls st ω := by
  intro p l e s m args below meth c H locs gl A lsA C hP hS hl
  exact lv_aload C.1 C.2.1 d (lv_at hl k0 (lm_at hk)) (k p l e s m args below meth c H locs gl A lsA C hP hS hl)
theorem L_istore_n (pc : Nat) {kf : Fin 4} {i : Nat} {x : Int32} (ls2 : List (Nat × Value)) (d : decode (mdB M) pc = .ok (.istore_n kf, 1)) (hi : (kf : Nat) = i) (hn : i < mdN M) (h2 : stL i (.int x) ls = ls2) (k : XL who sc sg M HH nc ns (pc + 1) ls2 st ω) : XL who sc sg M HH nc ns pc ls (.int x :: st) ω := by
  subst h2
  intro p l e s m args below meth c H locs gl A lsA C hP hS hl
  exact lv_istore_n C.1 C.2.1 d hi hl hn (lm_stL (adL gl) i (.int x) ls) (fun lsB hl2 => k p l e s m args below meth c H locs gl A lsB C hP hS hl2)
theorem L_istore (pc : Nat) {i : Nat} {x : Int32} (ls2 : List (Nat × Value)) (d : decode (mdB M) pc = .ok (.istore i, 2)) (hn : i < mdN M) (h2 : stL i (.int x) ls = ls2) (k : XL who sc sg M HH nc ns (pc + 2) ls2 st ω) : XL who sc sg M HH nc ns pc ls (.int x :: st) ω := by
  subst h2
  intro p l e s m args below meth c H locs gl A lsA C hP hS hl
  exact lv_istore C.1 C.2.1 d hl hn (lm_stL (adL gl) i (.int x) ls) (fun lsB hl2 => k p l e s m args below meth c H locs gl A lsB C hP hS hl2)
theorem L_lstore_n (pc : Nat) {kf : Fin 4} {i : Nat} {x : Int64} (ls2 : List (Nat × Value)) (d : decode (mdB M) pc = .ok (.lstore_n kf, 1)) (hi : (kf : Nat) = i) (hn : i + 1 < mdN M) (h2 : stL2 i (.long x) ls = ls2) (k : XL who sc sg M HH nc ns (pc + 1) ls2 st ω) : XL who sc sg M HH nc ns pc ls (.long x :: st) ω := by
  subst h2
  intro p l e s m args below meth c H locs gl A lsA C hP hS hl
  exact lv_lstore_n C.1 C.2.1 d hi hl hn (lm_stL2 (adL gl) i (.long x) ls) (fun lsB hl2 => k p l e s m args below meth c H locs gl A lsB C hP hS hl2)
theorem L_lstore (pc : Nat) {i : Nat} {x : Int64} (ls2 : List (Nat × Value)) (d : decode (mdB M) pc = .ok (.lstore i, 2)) (hn : i + 1 < mdN M) (h2 : stL2 i (.long x) ls = ls2) (k : XL who sc sg M HH nc ns (pc + 2) ls2 st ω) : XL who sc sg M HH nc ns pc ls (.long x :: st) ω := by
  subst h2
  intro p l e s m args below meth c H locs gl A lsA C hP hS hl
  exact lv_lstore C.1 C.2.1 d hl hn (lm_stL2 (adL gl) i (.long x) ls) (fun lsB hl2 => k p l e s m args below meth c H locs gl A lsB C hP hS hl2)
theorem L_astore_n (pc : Nat) {kf : Fin 4} {i : Nat} {x : Nat} (ls2 : List (Nat × Value)) (d : decode (mdB M) pc = .ok (.astore_n kf, 1)) (hi : (kf : Nat) = i) (hn : i < mdN M) (h2 : stL i (.ref x) ls = ls2) (k : XL who sc sg M HH nc ns (pc + 1) ls2 st ω) : XL who sc sg M HH nc ns pc ls (.ref x :: st) ω := by
  subst h2
  intro p l e s m args below meth c H locs gl A lsA C hP hS hl
  exact lv_astore_n C.1 C.2.1 d hi hl hn (lm_stL (adL gl) i (.ref x) ls) (fun lsB hl2 => k p l e s m args below meth c H locs gl A lsB C hP hS hl2)
theorem L_astore (pc : Nat) {i : Nat} {x : Nat} (ls2 : List (Nat × Value)) (d : decode (mdB M) pc = .ok (.astore i, 2)) (hn : i < mdN M) (h2 : stL i (.ref x) ls = ls2) (k : XL who sc sg M HH nc ns (pc + 2) ls2 st ω) : XL who sc sg M HH nc ns pc ls (.ref x :: st) ω := by
  subst h2
  intro p l e s m args below meth c H locs gl A lsA C hP hS hl
  exact lv_astore C.1 C.2.1 d hl hn (lm_stL (adL gl) i (.ref x) ls) (fun lsB hl2 => k p l e s m args below meth c H locs gl A lsB C hP hS hl2)
theorem L_iinc (pc k0 : Nat) {i : Nat} {n : Int} {x : Int32} (v : Int32) (ls2 : List (Nat × Value)) (d : decode (mdB M) pc = .ok (.iinc i n, 3)) (hk : ls[k0]? = some (i, .int x)) (hv : x + Int32.ofInt n = v) (hn : i < mdN M) (h2 : stL i (.int v) ls = ls2) (k : XL who sc sg M HH nc ns (pc + 3) ls2 st ω) : XL who sc sg M HH nc ns pc ls st ω := by
  subst h2
  intro p l e s m args below meth c H locs gl A lsA C hP hS hl
  exact lv_iinc C.1 C.2.1 d hl (lm_at hk) hv hn (lm_stL (adL gl) i (.int v) ls) (fun lsB hl2 => k p l e s m args below meth c H locs gl A lsB C hP hS hl2)
theorem L_sub (ks : List Nat) (ls2 : List (Nat × Value)) (h : lv_pick ls ks = ls2) (k : XL who sc sg M HH nc ns pc ls2 st ω) : XL who sc sg M HH nc ns pc ls st ω := by
  intro p l e s m args below meth c H locs gl A lsA C hP hS hl
  refine k p l e s m args below meth c H locs gl A lsA C hP hS (lv_sub hl ks ?_)
  subst h
  unfold lv_pick lm
  rw [List.map_filterMap]
  congr 1
  funext i
  rw [List.getElem?_map]
theorem L_goto (pc tgt : Nat) {off : Int} (d : decode (mdB M) pc = .ok (.goto off, 3)) (ht : (pc : Int) + off = (tgt : Int)) (k : XL who sc sg M HH nc ns tgt ls st ω) : XL who sc sg M HH nc ns pc ls st ω := by
  intro p l e s m args below meth c H locs gl A lsA C hP hS hl
  exact lv_goto C.1 C.2.1 d ht (k p l e s m args below meth c H locs gl A lsA C hP hS hl)
theorem L_if_eq (pc tgt : Nat) {x : Int32} {off : Int} (d : decode (mdB M) pc = .ok (.ifCond .eq off, 3)) (ht : (pc : Int) + off = (tgt : Int)) (kt : x = 0 → XL who sc sg M HH nc ns tgt ls st ω) (kf : ¬ x = 0 → XL who sc sg M HH nc ns (pc + 3) ls st ω) : XL who sc sg M HH nc ns pc ls (.int x :: st) ω := by
  intro p l e s m args below meth c H locs gl A lsA C hP hS hl
  exact lv_if_eq C.1 C.2.1 d ht (fun q => kt q p l e s m args below meth c H locs gl A lsA C hP hS hl) (fun q => kf q p l e s m args below meth c H locs gl A lsA C hP hS hl)
theorem L_if_ne (pc tgt : Nat) {x : Int32} {off : Int} (d : decode (mdB M) pc = .ok (.ifCond .ne off, 3)) (ht : (pc : Int) + off = (tgt : Int)) (kt : ¬ x = 0 → XL who sc sg M HH nc ns tgt ls st ω) (kf : x = 0 → XL who sc sg M HH nc ns (pc + 3) ls st ω) : XL who sc sg M HH nc ns pc ls (.int x :: st) ω := by
  intro p l e s m args below meth c H locs gl A lsA C hP hS hl
  exact lv_if_ne C.1 C.2.1 d ht (fun q => kt q p l e s m args below meth c H locs gl A lsA C hP hS hl) (fun q => kf q p l e s m args below meth c H locs gl A lsA C hP hS hl)
theorem L_if_lt (pc tgt : Nat) {x : Int32} {off : Int} (d : decode (mdB M) pc = .ok (.ifCond .lt off, 3)) (ht : (pc : Int) + off = (tgt : Int)) (kt : x < 0 → XL who sc sg M HH nc ns tgt ls st ω) (kf : ¬ x < 0 → XL who sc sg M HH nc ns (pc + 3) ls st ω) : XL who sc sg M HH nc ns pc ls (.int x :: st) ω := by
  intro p l e s m args below meth c H locs gl A lsA C hP hS hl
  exact lv_if_lt C.1 C.2.1 d ht (fun q => kt q p l e s m args below meth c H locs gl A lsA C hP hS hl) (fun q => kf q p l e s m args below meth c H locs gl A lsA C hP hS hl)
theorem L_if_ge (pc tgt : Nat) {x : Int32} {off : Int} (d : decode (mdB M) pc = .ok (.ifCond .ge off, 3)) (ht : (pc : Int) + off = (tgt : Int)) (kt : 0 ≤ x → XL who sc sg M HH nc ns tgt ls st ω) (kf : ¬ 0 ≤ x → XL who sc sg M HH nc ns (pc + 3) ls st ω) : XL who sc sg M HH nc ns pc ls (.int x :: st) ω := by
  intro p l e s m args below meth c H locs gl A lsA C hP hS hl
  exact lv_if_ge C.1 C.2.1 d ht (fun q => kt q p l e s m args below meth c H locs gl A lsA C hP hS hl) (fun q => kf q p l e s m args below meth c H locs gl A lsA C hP hS hl)
theorem L_if_gt (pc tgt : Nat) {x : Int32} {off : Int} (d : decode (mdB M) pc = .ok (.ifCond .gt off, 3)) (ht : (pc : Int) + off = (tgt : Int)) (kt : 0 < x → XL who sc sg M HH nc ns tgt ls st ω) (kf : ¬ 0 < x → XL who sc sg M HH nc ns (pc + 3) ls st ω) : XL who sc sg M HH nc ns pc ls (.int x :: st) ω := by
  intro p l e s m args below meth c H locs gl A lsA C hP hS hl
  exact lv_if_gt C.1 C.2.1 d ht (fun q => kt q p l e s m args below meth c H locs gl A lsA C hP hS hl) (fun q => kf q p l e s m args below meth c H locs gl A lsA C hP hS hl)
theorem L_if_le (pc tgt : Nat) {x : Int32} {off : Int} (d : decode (mdB M) pc = .ok (.ifCond .le off, 3)) (ht : (pc : Int) + off = (tgt : Int)) (kt : x ≤ 0 → XL who sc sg M HH nc ns tgt ls st ω) (kf : ¬ x ≤ 0 → XL who sc sg M HH nc ns (pc + 3) ls st ω) : XL who sc sg M HH nc ns pc ls (.int x :: st) ω := by
  intro p l e s m args below meth c H locs gl A lsA C hP hS hl
  exact lv_if_le C.1 C.2.1 d ht (fun q => kt q p l e s m args below meth c H locs gl A lsA C hP hS hl) (fun q => kf q p l e s m args below meth c H locs gl A lsA C hP hS hl)
theorem L_icmp_eq (pc tgt : Nat) {x y : Int32} {off : Int} (d : decode (mdB M) pc = .ok (.if_icmp .eq off, 3)) (ht : (pc : Int) + off = (tgt : Int)) (kt : x = y → XL who sc sg M HH nc ns tgt ls st ω) (kf : ¬ x = y → XL who sc sg M HH nc ns (pc + 3) ls st ω) : XL who sc sg M HH nc ns pc ls (.int y :: .int x :: st) ω := by
  intro p l e s m args below meth c H locs gl A lsA C hP hS hl
  exact lv_icmp_eq C.1 C.2.1 d ht (fun q => kt q p l e s m args below meth c H locs gl A lsA C hP hS hl) (fun q => kf q p l e s m args below meth c H locs gl A lsA C hP hS hl)
theorem L_icmp_ne (pc tgt : Nat) {x y : Int32} {off : Int} (d : decode (mdB M) pc = .ok (.if_icmp .ne off, 3)) (ht : (pc : Int) + off = (tgt : Int)) (kt : ¬ x = y → XL who sc sg M HH nc ns tgt ls st ω) (kf : x = y → XL who sc sg M HH nc ns (pc + 3) ls st ω) : XL who sc sg M HH nc ns pc ls (.int y :: .int x :: st) ω := by
  intro p l e s m args below meth c H locs gl A lsA C hP hS hl
  exact lv_icmp_ne C.1 C.2.1 d ht (fun q => kt q p l e s m args below meth c H locs gl A lsA C hP hS hl) (fun q => kf q p l e s m args below meth c H locs gl A lsA C hP hS hl)
theorem L_icmp_lt (pc tgt : Nat) {x y : Int32} {off : Int} (d : decode (mdB M) pc = .ok (.if_icmp .lt off, 3)) (ht : (pc : Int) + off = (tgt : Int)) (kt : x < y → XL who sc sg M HH nc ns tgt ls st ω) (kf : ¬ x < y → XL who sc sg M HH nc ns (pc + 3) ls st ω) : XL who sc sg M HH nc ns pc ls (.int y :: .int x :: st) ω := by
  intro p l e s m args below meth c H locs gl A lsA C hP hS hl
  exact lv_icmp_lt C.1 C.2.1 d ht (fun q => kt q p l e s m args below meth c H locs gl A lsA C hP hS hl) (fun q => kf q p l e s m args below meth c H locs gl A lsA C hP hS hl)
theorem L_icmp_ge (pc tgt : Nat) {x y : Int32} {off : Int} (d : decode (mdB M) pc = .ok (.if_icmp .ge off, 3)) (ht : (pc : Int) + off = (tgt : Int)) (kt : y ≤ x → XL who sc sg M HH nc ns tgt ls st ω) (kf : ¬ y ≤ x → XL who sc sg M HH nc ns (pc + 3) ls st ω) : XL who sc sg M HH nc ns pc ls (.int y :: .int x :: st) ω := by
  intro p l e s m args below meth c H locs gl A lsA C hP hS hl
  exact lv_icmp_ge C.1 C.2.1 d ht (fun q => kt q p l e s m args below meth c H locs gl A lsA C hP hS hl) (fun q => kf q p l e s m args below meth c H locs gl A lsA C hP hS hl)
theorem L_icmp_gt (pc tgt : Nat) {x y : Int32} {off : Int} (d : decode (mdB M) pc = .ok (.if_icmp .gt off, 3)) (ht : (pc : Int) + off = (tgt : Int)) (kt : y < x → XL who sc sg M HH nc ns tgt ls st ω) (kf : ¬ y < x → XL who sc sg M HH nc ns (pc + 3) ls st ω) : XL who sc sg M HH nc ns pc ls (.int y :: .int x :: st) ω := by
  intro p l e s m args below meth c H locs gl A lsA C hP hS hl
  exact lv_icmp_gt C.1 C.2.1 d ht (fun q => kt q p l e s m args below meth c H locs gl A lsA C hP hS hl) (fun q => kf q p l e s m args below meth c H locs gl A lsA C hP hS hl)
theorem L_icmp_le (pc tgt : Nat) {x y : Int32} {off : Int} (d : decode (mdB M) pc = .ok (.if_icmp .le off, 3)) (ht : (pc : Int) + off = (tgt : Int)) (kt : x ≤ y → XL who sc sg M HH nc ns tgt ls st ω) (kf : ¬ x ≤ y → XL who sc sg M HH nc ns (pc + 3) ls st ω) : XL who sc sg M HH nc ns pc ls (.int y :: .int x :: st) ω := by
  intro p l e s m args below meth c H locs gl A lsA C hP hS hl
  exact lv_icmp_le C.1 C.2.1 d ht (fun q => kt q p l e s m args below meth c H locs gl A lsA C hP hS hl) (fun q => kf q p l e s m args below meth c H locs gl A lsA C hP hS hl)
theorem L_ldc2 (pc : Nat) {index : Nat} {v : Int64} (d : decode (mdB M) pc = .ok (.ldc2_w index, 3)) (hw : Cond.constantLong (mdO M) index v ∈ WS) (k : XL who sc sg M HH nc ns (pc + 3) ls (.long v :: st) ω) : XL who sc sg M HH nc ns pc ls st ω := by
  intro p l e s m args below meth c H locs gl A lsA C hP hS hl
  exact lv_ldc2 C.1 C.2.1 C.2.2.2.1 (C.2.2.2.2.1 _ hw) d (k p l e s m args below meth c H locs gl A lsA C hP hS hl)
theorem L_lshr (pc : Nat) {x : Int64} {y : Int32} (d : decode (mdB M) pc = .ok (.lshr, 1)) (k : XL who sc sg M HH nc ns (pc + 1) ls (.long (x >>> (y.toInt64 &&& 63)) :: st) ω) : XL who sc sg M HH nc ns pc ls (.int y :: .long x :: st) ω := by
  intro p l e s m args below meth c H locs gl A lsA C hP hS hl
  exact lv_lshr C.1 C.2.1 d rfl (k p l e s m args below meth c H locs gl A lsA C hP hS hl)
theorem L_land (pc : Nat) {x y : Int64} (d : decode (mdB M) pc = .ok (.land, 1)) (k : XL who sc sg M HH nc ns (pc + 1) ls (.long (x &&& y) :: st) ω) : XL who sc sg M HH nc ns pc ls (.long y :: .long x :: st) ω := by
  intro p l e s m args below meth c H locs gl A lsA C hP hS hl
  exact lv_land C.1 C.2.1 d (k p l e s m args below meth c H locs gl A lsA C hP hS hl)
theorem L_l2i (pc : Nat) {x : Int64} (d : decode (mdB M) pc = .ok (.l2i, 1)) (k : XL who sc sg M HH nc ns (pc + 1) ls (.int x.toInt32 :: st) ω) : XL who sc sg M HH nc ns pc ls (.long x :: st) ω := by
  intro p l e s m args below meth c H locs gl A lsA C hP hS hl
  exact lv_l2i C.1 C.2.1 d rfl (k p l e s m args below meth c H locs gl A lsA C hP hS hl)
theorem L_lconst (pc : Nat) (v : Int64) {n : Fin 2} (d : decode (mdB M) pc = .ok (.lconst n, 1)) (hv : Int64.ofNat (n : Nat) = v) (k : XL who sc sg M HH nc ns (pc + 1) ls (.long v :: st) ω) : XL who sc sg M HH nc ns pc ls st ω := by
  intro p l e s m args below meth c H locs gl A lsA C hP hS hl
  exact lv_lconst C.1 C.2.1 d hv (k p l e s m args below meth c H locs gl A lsA C hP hS hl)
theorem L_ldc (pc : Nat) {index : Nat} {v : Int32} (d : decode (mdB M) pc = .ok (.ldc index, 2)) (hw : Cond.constant (mdO M) index v ∈ WS) (k : XL who sc sg M HH nc ns (pc + 2) ls (.int v :: st) ω) : XL who sc sg M HH nc ns pc ls st ω := by
  intro p l e s m args below meth c H locs gl A lsA C hP hS hl
  exact lv_ldc C.1 C.2.1 C.2.2.2.1 (C.2.2.2.2.1 _ hw) d (k p l e s m args below meth c H locs gl A lsA C hP hS hl)
theorem L_lcmp (pc : Nat) {x y : Int64} (d : decode (mdB M) pc = .ok (.lcmp, 1)) (k : XL who sc sg M HH nc ns (pc + 1) ls (.int (lg_cmp x y) :: st) ω) : XL who sc sg M HH nc ns pc ls (.long y :: .long x :: st) ω := by
  intro p l e s m args below meth c H locs gl A lsA C hP hS hl
  exact W.lcmp C.1 C.2.1 d (k p l e s m args below meth c H locs gl A lsA C hP hS hl)
theorem L_wid {nc2 ns2 : Nat} (h1 : nc ≤ nc2) (h2 : ns ≤ ns2) (k : XL who sc sg M HH nc2 ns2 pc ls st ω) : XL who sc sg M HH nc ns pc ls st ω := by
  intro p l e s m args below meth c H locs gl A lsA C0 hP hS hl
  exact W.widen (k := nc2) (n := ns2) h1 h2 (k p l e s m args below meth c H locs gl A lsA C0 hP hS hl)
theorem L_eq {pc2 : Nat} {ls2 : List (Nat × Value)} {st2 : List Value} {ω2 : WDt} (k : XL who sc sg M HH nc ns pc2 ls2 st2 ω2) (h1 : pc2 = pc) (h2 : ls2 = ls) (h3 : st2 = st) (h4 : ω2 = ω) : XL who sc sg M HH nc ns pc ls st ω := by subst h1; subst h2; subst h3; subst h4; exact k

end LR
