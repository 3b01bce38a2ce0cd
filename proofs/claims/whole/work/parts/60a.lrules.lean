/-! the law: class, model and the row of one long side by side -/
abbrev WDt : Type := Mm × Mm × (Nat → Int64)
/-- a method's end, or the law's script -/
abbrev KPt : Type := (Int32 → WDt → Prop) ⊕ (Nat × (Nat → Int32))
/-- the class's places, the model's places, where the row lies, its class, the script's place, its length, its numbers -/
abbrev GLT : Type := GG × GG × Nat × ClassId × Nat × Nat × (Nat → Int32)
def outE (cj : ClassId) (f : Nat → Int64) : va_E := .inl (cj, 1, .inr (.inl f))
def WL (gl : GLT) (ω : WDt) : va_W := wO gl.1 ΛC ω.1 ++ (wO gl.2.1 ΛM ω.2.1 ++ [(gl.2.2.1, outE gl.2.2.2.1 ω.2.2)])
def adL (gl : GLT) (k : Nat) : Nat := if k = 0 then gl.1.1 109 else if k = 1 then gl.2.1.1 0 else if k = 2 then gl.2.2.1 else if k = 3 then gl.2.2.2.2.1 else k - 10
def WPL (gl : GLT) (ω : WDt) (H : Heap) : Prop := va_P gl.1.2.1 vwCl (WL gl ω) H
def DL (gl : GLT) (A : Nat → Prop) : Prop := AD gl.1 ΛC A ∧ AD gl.2.1 ΛM A ∧ A gl.2.2.1 ∧ (∀ i j : Nat, i < ΛC.length → j < ΛM.length → gl.1.1 i ≠ gl.2.1.1 j) ∧ (∀ i : Nat, i < ΛC.length → gl.1.1 i ≠ gl.2.2.1) ∧ (∀ j : Nat, j < ΛM.length → gl.2.1.1 j ≠ gl.2.2.1) ∧ gl.2.1.2 = gl.1.2
def AAL (gl : GLT) (sz : Nat) : Nat → Prop := fun q => AA gl.1 ΛC sz q ∨ AA gl.2.1 ΛM sz q ∨ q = gl.2.2.1
def SFL (gl : GLT) (A : Nat → Prop) (U : State) (H : Heap) : Prop := SF gl.1 A U H ∧ SF gl.2.1 A U H ∧ va_K gl.1.2.1 vwCl [(gl.2.2.2.1, .long)] U ∧ va_Nc "java/lang/IllegalArgumentException" "java/lang/IndexOutOfBoundsException" U ∧ va_Nc "java/lang/IllegalStateException" "java/lang/IllegalArgumentException" U
def CL (kp : KPt) (M : MD) (HH : List (Nat × Nat × Nat × Nat)) (gl : GLT) (A : Nat → Prop) (p : Program) (l : Launch) (s : State) (m : MethodId) (args : Array Value) (meth : Method) (c : Code) : Prop :=
  p.tables.exec = Jvm.exec ∧ c.code = mdB M ∧ c.maxLocals = mdN M ∧ s.vm.findClass (mdO M) = some m.cls ∧ (∀ w ∈ WS, w.before args s = true) ∧ meth.sig.returnType = mdR M ∧ meth.locks = false ∧ (kp.isLeft = true → c.exceptionTable.toList = tableOf HH) ∧ l.stackTraces = false ∧ DL gl A ∧ (∀ q : Nat, s.heap.size ≤ q → A q) ∧ SFL gl A s s.heap ∧
  (∀ r : Nat × (Nat → Int32), kp = .inr r → args = #[Value.ref gl.2.2.2.2.1] ∧ va_X gl.2.2.2.2.1 r.1 r.2 s s.heap ∧ gl.2.2.2.2.1 < s.heap.size ∧ ¬ A gl.2.2.2.2.1 ∧ (∀ q : Nat, A q → s.heap.size ≤ q))
def QcL (gl : GLT) (A : Nat → Prop) (P : Int32 → WDt → Prop) : Array Value → State → Outcome → State → Prop := fun _ st o t =>
  (∃ (r : Int32) (ω : WDt), o = .returned (some (.int r)) ∧ P r ω ∧ WPL gl ω t.heap) ∧ va_F A st t
def ZL (kp : KPt) (gl : GLT) (A : Nat → Prop) (below : List Frame) (args : Array Value) (s : State) : State → Prop := match kp with
  | .inl P => vx_MQ below (QcL gl A P) (fun _ _ _ => False) args s 1 6 A
  | .inr _ => lw_Z below args s
/-- inside the law, or a method of it: from pc, with these locals, this stack, these worlds, with this much made so far, it comes to its end -/
def XL (kp : KPt) (M : MD) (HH : List (Nat × Nat × Nat × Nat)) (nc ns : Nat) (pc : Nat) (ls : List (Nat × Value)) (st : List Value) (ω : WDt) : Prop :=
  ∀ (p : Program) (l : Launch) (e : Env) (s : State) (m : MethodId) (args : Array Value) (below : List Frame) (meth : Method) (c : Code) (H : Heap) (locs : List Loc) (gl : GLT) (A : Nat → Prop) (lsA : Array Slot),
    CL kp M HH gl A p l s m args meth c → WPL gl ω H → va_S A s.heap H locs → lv_has lsA (mdN M) (lm (adL gl) ls) →
    W p l e (mdG M) s m args below meth c H locs nc ns (ZL kp gl A below args s) (F0 m pc lsA (st.map (cv (adL gl))))
/-! the worlds, part by part -/
theorem P_app {D : va_G} {cl : List vw_C} {a b : va_W} {H : Heap} : va_P D cl (a ++ b) H ↔ va_P D cl a H ∧ va_P D cl b H := by
  constructor
  · intro h
    refine ⟨fun k q hk => h k q ?_, fun k q hk => h (a.length + k) q ?_⟩
    · obtain ⟨hl, -⟩ := List.getElem?_eq_some_iff.mp hk
      rw [List.getElem?_append_left hl]; exact hk
    · rw [List.getElem?_append_right (by omega), show a.length + k - a.length = k by omega]; exact hk
  · intro h k q hk
    rcases Nat.lt_or_ge k a.length with hl | hl
    · rw [List.getElem?_append_left hl] at hk; exact h.1 k q hk
    · rw [List.getElem?_append_right hl] at hk; exact h.2 _ q hk
theorem at_cong {D : va_G} {cl : List vw_C} {q : Nat × va_E} {H H1 : Heap} (h : va_at D cl q H) (e : H1[q.1]? = H[q.1]?) : va_at D cl q H1 := by
  unfold va_at at h ⊢
  split at h
  · rw [e]; exact h
  · obtain ⟨r, h1, cell, q1, q2⟩ := h
    exact ⟨r, h1, cell, by rw [e]; exact q1, q2⟩
theorem P_cong {D : va_G} {cl : List vw_C} {ws : va_W} {H H1 : Heap} (h : va_P D cl ws H) (e : ∀ (k : Nat) (q : Nat × va_E), ws[k]? = some q → H1[q.1]? = H[q.1]?) : va_P D cl ws H1 := fun k q hk => at_cong (h k q hk) (e k q hk)
theorem WPL_3 {gl : GLT} {ω : WDt} {H : Heap} : WPL gl ω H ↔ va_P gl.1.2.1 vwCl (wO gl.1 ΛC ω.1) H ∧ va_P gl.1.2.1 vwCl (wO gl.2.1 ΛM ω.2.1) H ∧ va_P gl.1.2.1 vwCl [(gl.2.2.1, outE gl.2.2.2.1 ω.2.2)] H := by
  unfold WPL WL
  rw [P_app, P_app]
theorem D_WL {gl : GLT} {A : Nat → Prop} (h : DL gl A) (ω : WDt) : va_D A (WL gl ω) := by
  obtain ⟨h1, h2, h3, h4, h5, h6, h7⟩ := h
  have hs : va_D A [(gl.2.2.1, outE gl.2.2.2.1 ω.2.2)] := by
    refine ⟨fun i j p q hi hj _ => ?_, fun k q hk => ?_⟩
    · obtain ⟨a, -⟩ := List.getElem?_eq_some_iff.mp hi
      obtain ⟨b, -⟩ := List.getElem?_eq_some_iff.mp hj
      simp at a b; omega
    · obtain ⟨a, e⟩ := List.getElem?_eq_some_iff.mp hk
      simp at a
      subst a
      rw [← e]; exact h3
  refine (AD_D h1 ω.1).app ((AD_D h2 ω.2.1).app hs ?_) ?_
  · intro i j p q hi hj e
    obtain ⟨a, ea⟩ := wO_fst hi
    obtain ⟨b, eb⟩ := List.getElem?_eq_some_iff.mp hj
    simp at b
    subst b
    rw [ea, ← eb] at e
    exact h6 i a e
  · intro i j p q hi hj e
    obtain ⟨a, ea⟩ := wO_fst hi
    rcases Nat.lt_or_ge j (wO gl.2.1 ΛM ω.2.1).length with hl | hl
    · rw [List.getElem?_append_left hl] at hj
      obtain ⟨b, eb⟩ := wO_fst hj
      rw [ea, eb] at e
      exact h4 i j a b e
    · rw [List.getElem?_append_right hl] at hj
      obtain ⟨b, eb⟩ := List.getElem?_eq_some_iff.mp hj
      rw [ea, ← eb] at e
      have : ∀ k (hk : k < [(gl.2.2.1, outE gl.2.2.2.1 ω.2.2)].length), ([(gl.2.2.1, outE gl.2.2.2.1 ω.2.2)][k]).1 = gl.2.2.1 := fun k hk => by simp at hk; subst hk; rfl
      rw [this] at e
      exact h5 i a e

section LR
variable {kp : KPt} {M : MD} {HH : List (Nat × Nat × Nat × Nat)} {nc ns : Nat} {ls : List (Nat × Value)} {st : List Value} {ω : WDt} {pc : Nat}
theorem L_iadd (pc : Nat) {x y : Int32} (d : decode (mdB M) pc = .ok (.iadd, 1)) (k : XL kp M HH nc ns (pc + 1) ls (.int (x + y) :: st) ω) : XL kp M HH nc ns pc ls (.int y :: .int x :: st) ω := by
  intro p l e s m args below meth c H locs gl A lsA C hP hS hl
  exact lv_iadd C.1 C.2.1 d  (k p l e s m args below meth c H locs gl A lsA C hP hS hl)
theorem L_isub (pc : Nat) {x y : Int32} (d : decode (mdB M) pc = .ok (.isub, 1)) (k : XL kp M HH nc ns (pc + 1) ls (.int (x - y) :: st) ω) : XL kp M HH nc ns pc ls (.int y :: .int x :: st) ω := by
  intro p l e s m args below meth c H locs gl A lsA C hP hS hl
  exact lv_isub C.1 C.2.1 d  (k p l e s m args below meth c H locs gl A lsA C hP hS hl)
theorem L_iand (pc : Nat) {x y : Int32} (d : decode (mdB M) pc = .ok (.iand, 1)) (k : XL kp M HH nc ns (pc + 1) ls (.int (x &&& y) :: st) ω) : XL kp M HH nc ns pc ls (.int y :: .int x :: st) ω := by
  intro p l e s m args below meth c H locs gl A lsA C hP hS hl
  exact lv_iand C.1 C.2.1 d  (k p l e s m args below meth c H locs gl A lsA C hP hS hl)
theorem L_i2l (pc : Nat) {x : Int32} (d : decode (mdB M) pc = .ok (.i2l, 1)) (k : XL kp M HH nc ns (pc + 1) ls (.long (x.toInt64) :: st) ω) : XL kp M HH nc ns pc ls (.int x :: st) ω := by
  intro p l e s m args below meth c H locs gl A lsA C hP hS hl
  exact lv_i2l C.1 C.2.1 d rfl (k p l e s m args below meth c H locs gl A lsA C hP hS hl)
theorem L_iconst (pc : Nat) (v : Int32) {n : Int} (d : decode (mdB M) pc = .ok (.iconst n, 1)) (hv : Int32.ofInt n = v) (k : XL kp M HH nc ns (pc + 1) ls (.int v :: st) ω) : XL kp M HH nc ns pc ls (st) ω := by
  intro p l e s m args below meth c H locs gl A lsA C hP hS hl
  exact lv_iconst C.1 C.2.1 d hv (k p l e s m args below meth c H locs gl A lsA C hP hS hl)
theorem L_bipush (pc : Nat) (v : Int32) {n : Int} (d : decode (mdB M) pc = .ok (.bipush n, 2)) (hv : (Int8.ofInt n).toInt32 = v) (k : XL kp M HH nc ns (pc + 2) ls (.int v :: st) ω) : XL kp M HH nc ns pc ls (st) ω := by
  intro p l e s m args below meth c H locs gl A lsA C hP hS hl
  exact lv_bipush C.1 C.2.1 d hv (k p l e s m args below meth c H locs gl A lsA C hP hS hl)
theorem L_sipush (pc : Nat) (v : Int32) {n : Int} (d : decode (mdB M) pc = .ok (.sipush n, 3)) (hv : (Int16.ofInt n).toInt32 = v) (k : XL kp M HH nc ns (pc + 3) ls (.int v :: st) ω) : XL kp M HH nc ns pc ls (st) ω := by
  intro p l e s m args below meth c H locs gl A lsA C hP hS hl
  exact lv_sipush C.1 C.2.1 d hv (k p l e s m args below meth c H locs gl A lsA C hP hS hl)
theorem L_dupr (pc : Nat) {v : Nat} (d : decode (mdB M) pc = .ok (.dup, 1)) (k : XL kp M HH nc ns (pc + 1) ls (.ref v :: .ref v :: st) ω) : XL kp M HH nc ns pc ls (.ref v :: st) ω := by
  intro p l e s m args below meth c H locs gl A lsA C hP hS hl
  exact lv_dup C.1 C.2.1 d rfl (k p l e s m args below meth c H locs gl A lsA C hP hS hl)
theorem L_iload_n (pc k0 : Nat) {kf : Fin 4} {i : Nat} {x : Int32} (d : decode (mdB M) pc = .ok (.iload_n kf, 1)) (hk : ls[k0]? = some (i, .int x)) (hi : (kf : Nat) = i) (k : XL kp M HH nc ns (pc + 1) ls (.int x :: st) ω) : XL kp M HH nc ns pc ls st ω := by
  intro p l e s m args below meth c H locs gl A lsA C hP hS hl
  exact lv_iload_n C.1 C.2.1 d hi (lv_at hl k0 (lm_at hk)) (k p l e s m args below meth c H locs gl A lsA C hP hS hl)
theorem L_iload (pc k0 : Nat) {i : Nat} {x : Int32} (d : decode (mdB M) pc = .ok (.iload i, 2)) (hk : ls[k0]? = some (i, .int x)) (k : XL kp M HH nc ns (pc + 2) ls (.int x :: st) ω) : XL kp M HH nc ns pc ls st ω := by
  intro p l e s m args below meth c H locs gl A lsA C hP hS hl
  exact lv_iload C.1 C.2.1 d (lv_at hl k0 (lm_at hk)) (k p l e s m args below meth c H locs gl A lsA C hP hS hl)
theorem L_aload_n (pc k0 : Nat) {kf : Fin 4} {i : Nat} {x : Nat} (d : decode (mdB M) pc = .ok (.aload_n kf, 1)) (hk : ls[k0]? = some (i, .ref x)) (hi : (kf : Nat) = i) (k : XL kp M HH nc ns (pc + 1) ls (.ref x :: st) ω) : XL kp M HH nc ns pc ls st ω := by
  intro p l e s m args below meth c H locs gl A lsA C hP hS hl
  exact lv_aload_n C.1 C.2.1 d hi (lv_at hl k0 (lm_at hk)) (k p l e s m args below meth c H locs gl A lsA C hP hS hl)
theorem L_aload (pc k0 : Nat) {i : Nat} {x : Nat} (d : decode (mdB M) pc = .ok (.aload i, 2)) (hk : ls[k0]? = some (i, .ref x)) (k : XL kp M HH nc ns (pc + 2) ls (.ref x :: st) ω) : XL kp M HH nc ns pc ls st ω := by
  intro p l e s m args below meth c H locs gl A lsA C hP hS hl
  exact lv_aload C.1 C.2.1 d (lv_at hl k0 (lm_at hk)) (k p l e s m args below meth c H locs gl A lsA C hP hS hl)
theorem L_istore_n (pc : Nat) {kf : Fin 4} {i : Nat} {x : Int32} (ls2 : List (Nat × Value)) (d : decode (mdB M) pc = .ok (.istore_n kf, 1)) (hi : (kf : Nat) = i) (hn : i < mdN M) (h2 : stL i (.int x) ls = ls2) (k : XL kp M HH nc ns (pc + 1) ls2 st ω) : XL kp M HH nc ns pc ls (.int x :: st) ω := by
  subst h2
  intro p l e s m args below meth c H locs gl A lsA C hP hS hl
  exact lv_istore_n C.1 C.2.1 d hi hl hn (lm_stL (adL gl) i (.int x) ls) (fun lsB hl2 => k p l e s m args below meth c H locs gl A lsB C hP hS hl2)
theorem L_istore (pc : Nat) {i : Nat} {x : Int32} (ls2 : List (Nat × Value)) (d : decode (mdB M) pc = .ok (.istore i, 2)) (hn : i < mdN M) (h2 : stL i (.int x) ls = ls2) (k : XL kp M HH nc ns (pc + 2) ls2 st ω) : XL kp M HH nc ns pc ls (.int x :: st) ω := by
  subst h2
  intro p l e s m args below meth c H locs gl A lsA C hP hS hl
  exact lv_istore C.1 C.2.1 d hl hn (lm_stL (adL gl) i (.int x) ls) (fun lsB hl2 => k p l e s m args below meth c H locs gl A lsB C hP hS hl2)
theorem L_astore_n (pc : Nat) {kf : Fin 4} {i : Nat} {x : Nat} (ls2 : List (Nat × Value)) (d : decode (mdB M) pc = .ok (.astore_n kf, 1)) (hi : (kf : Nat) = i) (hn : i < mdN M) (h2 : stL i (.ref x) ls = ls2) (k : XL kp M HH nc ns (pc + 1) ls2 st ω) : XL kp M HH nc ns pc ls (.ref x :: st) ω := by
  subst h2
  intro p l e s m args below meth c H locs gl A lsA C hP hS hl
  exact lv_astore_n C.1 C.2.1 d hi hl hn (lm_stL (adL gl) i (.ref x) ls) (fun lsB hl2 => k p l e s m args below meth c H locs gl A lsB C hP hS hl2)
theorem L_astore (pc : Nat) {i : Nat} {x : Nat} (ls2 : List (Nat × Value)) (d : decode (mdB M) pc = .ok (.astore i, 2)) (hn : i < mdN M) (h2 : stL i (.ref x) ls = ls2) (k : XL kp M HH nc ns (pc + 2) ls2 st ω) : XL kp M HH nc ns pc ls (.ref x :: st) ω := by
  subst h2
  intro p l e s m args below meth c H locs gl A lsA C hP hS hl
  exact lv_astore C.1 C.2.1 d hl hn (lm_stL (adL gl) i (.ref x) ls) (fun lsB hl2 => k p l e s m args below meth c H locs gl A lsB C hP hS hl2)
theorem L_iinc (pc k0 : Nat) {i : Nat} {n : Int} {x : Int32} (v : Int32) (ls2 : List (Nat × Value)) (d : decode (mdB M) pc = .ok (.iinc i n, 3)) (hk : ls[k0]? = some (i, .int x)) (hv : x + Int32.ofInt n = v) (hn : i < mdN M) (h2 : stL i (.int v) ls = ls2) (k : XL kp M HH nc ns (pc + 3) ls2 st ω) : XL kp M HH nc ns pc ls st ω := by
  subst h2
  intro p l e s m args below meth c H locs gl A lsA C hP hS hl
  exact lv_iinc C.1 C.2.1 d hl (lm_at hk) hv hn (lm_stL (adL gl) i (.int v) ls) (fun lsB hl2 => k p l e s m args below meth c H locs gl A lsB C hP hS hl2)
theorem L_sub (ks : List Nat) (ls2 : List (Nat × Value)) (h : lv_pick ls ks = ls2) (k : XL kp M HH nc ns pc ls2 st ω) : XL kp M HH nc ns pc ls st ω := by
  intro p l e s m args below meth c H locs gl A lsA C hP hS hl
  refine k p l e s m args below meth c H locs gl A lsA C hP hS (lv_sub hl ks ?_)
  subst h
  unfold lv_pick lm
  rw [List.map_filterMap]
  congr 1
  funext i
  rw [List.getElem?_map]
theorem L_goto (pc tgt : Nat) {off : Int} (d : decode (mdB M) pc = .ok (.goto off, 3)) (ht : (pc : Int) + off = (tgt : Int)) (k : XL kp M HH nc ns tgt ls st ω) : XL kp M HH nc ns pc ls st ω := by
  intro p l e s m args below meth c H locs gl A lsA C hP hS hl
  exact lv_goto C.1 C.2.1 d ht (k p l e s m args below meth c H locs gl A lsA C hP hS hl)
theorem L_if_eq (pc tgt : Nat) {x : Int32} {off : Int} (d : decode (mdB M) pc = .ok (.ifCond .eq off, 3)) (ht : (pc : Int) + off = (tgt : Int)) (kt : x = 0 → XL kp M HH nc ns tgt ls st ω) (kf : ¬ x = 0 → XL kp M HH nc ns (pc + 3) ls st ω) : XL kp M HH nc ns pc ls (.int x :: st) ω := by
  intro p l e s m args below meth c H locs gl A lsA C hP hS hl
  exact lv_if_eq C.1 C.2.1 d ht (fun q => kt q p l e s m args below meth c H locs gl A lsA C hP hS hl) (fun q => kf q p l e s m args below meth c H locs gl A lsA C hP hS hl)
theorem L_if_ne (pc tgt : Nat) {x : Int32} {off : Int} (d : decode (mdB M) pc = .ok (.ifCond .ne off, 3)) (ht : (pc : Int) + off = (tgt : Int)) (kt : ¬ x = 0 → XL kp M HH nc ns tgt ls st ω) (kf : x = 0 → XL kp M HH nc ns (pc + 3) ls st ω) : XL kp M HH nc ns pc ls (.int x :: st) ω := by
  intro p l e s m args below meth c H locs gl A lsA C hP hS hl
  exact lv_if_ne C.1 C.2.1 d ht (fun q => kt q p l e s m args below meth c H locs gl A lsA C hP hS hl) (fun q => kf q p l e s m args below meth c H locs gl A lsA C hP hS hl)
theorem L_if_lt (pc tgt : Nat) {x : Int32} {off : Int} (d : decode (mdB M) pc = .ok (.ifCond .lt off, 3)) (ht : (pc : Int) + off = (tgt : Int)) (kt : x < 0 → XL kp M HH nc ns tgt ls st ω) (kf : ¬ x < 0 → XL kp M HH nc ns (pc + 3) ls st ω) : XL kp M HH nc ns pc ls (.int x :: st) ω := by
  intro p l e s m args below meth c H locs gl A lsA C hP hS hl
  exact lv_if_lt C.1 C.2.1 d ht (fun q => kt q p l e s m args below meth c H locs gl A lsA C hP hS hl) (fun q => kf q p l e s m args below meth c H locs gl A lsA C hP hS hl)
theorem L_if_ge (pc tgt : Nat) {x : Int32} {off : Int} (d : decode (mdB M) pc = .ok (.ifCond .ge off, 3)) (ht : (pc : Int) + off = (tgt : Int)) (kt : 0 ≤ x → XL kp M HH nc ns tgt ls st ω) (kf : ¬ 0 ≤ x → XL kp M HH nc ns (pc + 3) ls st ω) : XL kp M HH nc ns pc ls (.int x :: st) ω := by
  intro p l e s m args below meth c H locs gl A lsA C hP hS hl
  exact lv_if_ge C.1 C.2.1 d ht (fun q => kt q p l e s m args below meth c H locs gl A lsA C hP hS hl) (fun q => kf q p l e s m args below meth c H locs gl A lsA C hP hS hl)
theorem L_if_gt (pc tgt : Nat) {x : Int32} {off : Int} (d : decode (mdB M) pc = .ok (.ifCond .gt off, 3)) (ht : (pc : Int) + off = (tgt : Int)) (kt : 0 < x → XL kp M HH nc ns tgt ls st ω) (kf : ¬ 0 < x → XL kp M HH nc ns (pc + 3) ls st ω) : XL kp M HH nc ns pc ls (.int x :: st) ω := by
  intro p l e s m args below meth c H locs gl A lsA C hP hS hl
  exact lv_if_gt C.1 C.2.1 d ht (fun q => kt q p l e s m args below meth c H locs gl A lsA C hP hS hl) (fun q => kf q p l e s m args below meth c H locs gl A lsA C hP hS hl)
theorem L_if_le (pc tgt : Nat) {x : Int32} {off : Int} (d : decode (mdB M) pc = .ok (.ifCond .le off, 3)) (ht : (pc : Int) + off = (tgt : Int)) (kt : x ≤ 0 → XL kp M HH nc ns tgt ls st ω) (kf : ¬ x ≤ 0 → XL kp M HH nc ns (pc + 3) ls st ω) : XL kp M HH nc ns pc ls (.int x :: st) ω := by
  intro p l e s m args below meth c H locs gl A lsA C hP hS hl
  exact lv_if_le C.1 C.2.1 d ht (fun q => kt q p l e s m args below meth c H locs gl A lsA C hP hS hl) (fun q => kf q p l e s m args below meth c H locs gl A lsA C hP hS hl)
theorem L_icmp_eq (pc tgt : Nat) {x y : Int32} {off : Int} (d : decode (mdB M) pc = .ok (.if_icmp .eq off, 3)) (ht : (pc : Int) + off = (tgt : Int)) (kt : x = y → XL kp M HH nc ns tgt ls st ω) (kf : ¬ x = y → XL kp M HH nc ns (pc + 3) ls st ω) : XL kp M HH nc ns pc ls (.int y :: .int x :: st) ω := by
  intro p l e s m args below meth c H locs gl A lsA C hP hS hl
  exact lv_icmp_eq C.1 C.2.1 d ht (fun q => kt q p l e s m args below meth c H locs gl A lsA C hP hS hl) (fun q => kf q p l e s m args below meth c H locs gl A lsA C hP hS hl)
theorem L_icmp_ne (pc tgt : Nat) {x y : Int32} {off : Int} (d : decode (mdB M) pc = .ok (.if_icmp .ne off, 3)) (ht : (pc : Int) + off = (tgt : Int)) (kt : ¬ x = y → XL kp M HH nc ns tgt ls st ω) (kf : x = y → XL kp M HH nc ns (pc + 3) ls st ω) : XL kp M HH nc ns pc ls (.int y :: .int x :: st) ω := by
  intro p l e s m args below meth c H locs gl A lsA C hP hS hl
  exact lv_icmp_ne C.1 C.2.1 d ht (fun q => kt q p l e s m args below meth c H locs gl A lsA C hP hS hl) (fun q => kf q p l e s m args below meth c H locs gl A lsA C hP hS hl)
theorem L_icmp_lt (pc tgt : Nat) {x y : Int32} {off : Int} (d : decode (mdB M) pc = .ok (.if_icmp .lt off, 3)) (ht : (pc : Int) + off = (tgt : Int)) (kt : x < y → XL kp M HH nc ns tgt ls st ω) (kf : ¬ x < y → XL kp M HH nc ns (pc + 3) ls st ω) : XL kp M HH nc ns pc ls (.int y :: .int x :: st) ω := by
  intro p l e s m args below meth c H locs gl A lsA C hP hS hl
  exact lv_icmp_lt C.1 C.2.1 d ht (fun q => kt q p l e s m args below meth c H locs gl A lsA C hP hS hl) (fun q => kf q p l e s m args below meth c H locs gl A lsA C hP hS hl)
theorem L_icmp_ge (pc tgt : Nat) {x y : Int32} {off : Int} (d : decode (mdB M) pc = .ok (.if_icmp .ge off, 3)) (ht : (pc : Int) + off = (tgt : Int)) (kt : y ≤ x → XL kp M HH nc ns tgt ls st ω) (kf : ¬ y ≤ x → XL kp M HH nc ns (pc + 3) ls st ω) : XL kp M HH nc ns pc ls (.int y :: .int x :: st) ω := by
  intro p l e s m args below meth c H locs gl A lsA C hP hS hl
  exact lv_icmp_ge C.1 C.2.1 d ht (fun q => kt q p l e s m args below meth c H locs gl A lsA C hP hS hl) (fun q => kf q p l e s m args below meth c H locs gl A lsA C hP hS hl)
theorem L_icmp_gt (pc tgt : Nat) {x y : Int32} {off : Int} (d : decode (mdB M) pc = .ok (.if_icmp .gt off, 3)) (ht : (pc : Int) + off = (tgt : Int)) (kt : y < x → XL kp M HH nc ns tgt ls st ω) (kf : ¬ y < x → XL kp M HH nc ns (pc + 3) ls st ω) : XL kp M HH nc ns pc ls (.int y :: .int x :: st) ω := by
  intro p l e s m args below meth c H locs gl A lsA C hP hS hl
  exact lv_icmp_gt C.1 C.2.1 d ht (fun q => kt q p l e s m args below meth c H locs gl A lsA C hP hS hl) (fun q => kf q p l e s m args below meth c H locs gl A lsA C hP hS hl)
theorem L_icmp_le (pc tgt : Nat) {x y : Int32} {off : Int} (d : decode (mdB M) pc = .ok (.if_icmp .le off, 3)) (ht : (pc : Int) + off = (tgt : Int)) (kt : x ≤ y → XL kp M HH nc ns tgt ls st ω) (kf : ¬ x ≤ y → XL kp M HH nc ns (pc + 3) ls st ω) : XL kp M HH nc ns pc ls (.int y :: .int x :: st) ω := by
  intro p l e s m args below meth c H locs gl A lsA C hP hS hl
  exact lv_icmp_le C.1 C.2.1 d ht (fun q => kt q p l e s m args below meth c H locs gl A lsA C hP hS hl) (fun q => kf q p l e s m args below meth c H locs gl A lsA C hP hS hl)
theorem L_tabIn (pc tgt : Nat) {dflt lo hi : Int} {offs : Array Int} {len : Nat} {x : Int32} {off : Int} (d : decode (mdB M) pc = .ok (.tableswitch dflt lo hi offs, len)) (h1 : ¬ x.toInt < lo) (h2 : ¬ hi < x.toInt) (ho : offs[(x.toInt - lo).toNat]? = some off) (ht : (pc : Int) + off = (tgt : Int)) (k : XL kp M HH nc ns tgt ls st ω) : XL kp M HH nc ns pc ls (.int x :: st) ω := by
  intro p l e s m args below meth c H locs gl A lsA C hP hS hl
  exact lv_tableIn C.1 C.2.1 d h1 h2 ho ht (k p l e s m args below meth c H locs gl A lsA C hP hS hl)
theorem L_tabOut (pc tgt : Nat) {dflt lo hi : Int} {offs : Array Int} {len : Nat} {x : Int32} (d : decode (mdB M) pc = .ok (.tableswitch dflt lo hi offs, len)) (h : x.toInt < lo ∨ hi < x.toInt) (ht : (pc : Int) + dflt = (tgt : Int)) (k : XL kp M HH nc ns tgt ls st ω) : XL kp M HH nc ns pc ls (.int x :: st) ω := by
  intro p l e s m args below meth c H locs gl A lsA C hP hS hl
  exact lv_tableOut C.1 C.2.1 d h ht (k p l e s m args below meth c H locs gl A lsA C hP hS hl)
end LR
