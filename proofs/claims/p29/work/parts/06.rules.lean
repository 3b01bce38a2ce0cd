section XR
variable {tw : Bool} {Λ : List LE} {M : MD} {Q : Rs → Mm → Prop} {ls : List (Nat × Value)} {st : List Value} {μ : Mm} {pc : Nat}
theorem X_iadd (pc : Nat) {x y : Int32} (d : decode (mdB M) pc = .ok (.iadd, 1)) (k : X tw Λ M Q (pc + 1) ls (.int (x + y) :: st) μ) : X tw Λ M Q pc ls (.int y :: .int x :: st) μ := by
  intro p l e s m args below meth c H locs g A lsA C hP hS hl
  exact lv_iadd C.1 C.2.1 d  (k p l e s m args below meth c H locs g A lsA C hP hS hl)
theorem X_isub (pc : Nat) {x y : Int32} (d : decode (mdB M) pc = .ok (.isub, 1)) (k : X tw Λ M Q (pc + 1) ls (.int (x - y) :: st) μ) : X tw Λ M Q pc ls (.int y :: .int x :: st) μ := by
  intro p l e s m args below meth c H locs g A lsA C hP hS hl
  exact lv_isub C.1 C.2.1 d  (k p l e s m args below meth c H locs g A lsA C hP hS hl)
theorem X_imul (pc : Nat) {x y : Int32} (d : decode (mdB M) pc = .ok (.imul, 1)) (k : X tw Λ M Q (pc + 1) ls (.int (x * y) :: st) μ) : X tw Λ M Q pc ls (.int y :: .int x :: st) μ := by
  intro p l e s m args below meth c H locs g A lsA C hP hS hl
  exact lv_imul C.1 C.2.1 d  (k p l e s m args below meth c H locs g A lsA C hP hS hl)
theorem X_iand (pc : Nat) {x y : Int32} (d : decode (mdB M) pc = .ok (.iand, 1)) (k : X tw Λ M Q (pc + 1) ls (.int (x &&& y) :: st) μ) : X tw Λ M Q pc ls (.int y :: .int x :: st) μ := by
  intro p l e s m args below meth c H locs g A lsA C hP hS hl
  exact lv_iand C.1 C.2.1 d  (k p l e s m args below meth c H locs g A lsA C hP hS hl)
theorem X_ior (pc : Nat) {x y : Int32} (d : decode (mdB M) pc = .ok (.ior, 1)) (k : X tw Λ M Q (pc + 1) ls (.int (x ||| y) :: st) μ) : X tw Λ M Q pc ls (.int y :: .int x :: st) μ := by
  intro p l e s m args below meth c H locs g A lsA C hP hS hl
  exact lv_ior C.1 C.2.1 d  (k p l e s m args below meth c H locs g A lsA C hP hS hl)
theorem X_ixor (pc : Nat) {x y : Int32} (d : decode (mdB M) pc = .ok (.ixor, 1)) (k : X tw Λ M Q (pc + 1) ls (.int (x ^^^ y) :: st) μ) : X tw Λ M Q pc ls (.int y :: .int x :: st) μ := by
  intro p l e s m args below meth c H locs g A lsA C hP hS hl
  exact lv_ixor C.1 C.2.1 d  (k p l e s m args below meth c H locs g A lsA C hP hS hl)
theorem X_idiv (pc : Nat) {x y : Int32} (d : decode (mdB M) pc = .ok (.idiv, 1)) (h : ¬ y = 0) (k : X tw Λ M Q (pc + 1) ls (.int (x / y) :: st) μ) : X tw Λ M Q pc ls (.int y :: .int x :: st) μ := by
  intro p l e s m args below meth c H locs g A lsA C hP hS hl
  exact lv_idiv C.1 C.2.1 d h (k p l e s m args below meth c H locs g A lsA C hP hS hl)
theorem X_irem (pc : Nat) {x y : Int32} (d : decode (mdB M) pc = .ok (.irem, 1)) (h : ¬ y = 0) (k : X tw Λ M Q (pc + 1) ls (.int (x - x / y * y) :: st) μ) : X tw Λ M Q pc ls (.int y :: .int x :: st) μ := by
  intro p l e s m args below meth c H locs g A lsA C hP hS hl
  exact lv_irem C.1 C.2.1 d h (k p l e s m args below meth c H locs g A lsA C hP hS hl)
theorem X_ineg (pc : Nat) {x : Int32} (d : decode (mdB M) pc = .ok (.ineg, 1)) (k : X tw Λ M Q (pc + 1) ls (.int (-x) :: st) μ) : X tw Λ M Q pc ls (.int x :: st) μ := by
  intro p l e s m args below meth c H locs g A lsA C hP hS hl
  exact lv_ineg C.1 C.2.1 d  (k p l e s m args below meth c H locs g A lsA C hP hS hl)
theorem X_ishl (pc : Nat) {x y : Int32} (d : decode (mdB M) pc = .ok (.ishl, 1)) (k : X tw Λ M Q (pc + 1) ls (.int (x <<< (y &&& 31)) :: st) μ) : X tw Λ M Q pc ls (.int y :: .int x :: st) μ := by
  intro p l e s m args below meth c H locs g A lsA C hP hS hl
  exact lv_ishl C.1 C.2.1 d  (k p l e s m args below meth c H locs g A lsA C hP hS hl)
theorem X_ishr (pc : Nat) {x y : Int32} (d : decode (mdB M) pc = .ok (.ishr, 1)) (k : X tw Λ M Q (pc + 1) ls (.int (x >>> (y &&& 31)) :: st) μ) : X tw Λ M Q pc ls (.int y :: .int x :: st) μ := by
  intro p l e s m args below meth c H locs g A lsA C hP hS hl
  exact lv_ishr C.1 C.2.1 d  (k p l e s m args below meth c H locs g A lsA C hP hS hl)
theorem X_iushr (pc : Nat) {x y : Int32} (d : decode (mdB M) pc = .ok (.iushr, 1)) (k : X tw Λ M Q (pc + 1) ls (.int ((x.toUInt32 >>> (y.toUInt32 &&& Int32.toUInt32 31)).toInt32) :: st) μ) : X tw Λ M Q pc ls (.int y :: .int x :: st) μ := by
  intro p l e s m args below meth c H locs g A lsA C hP hS hl
  exact lv_iushr C.1 C.2.1 d rfl (k p l e s m args below meth c H locs g A lsA C hP hS hl)
theorem X_ladd (pc : Nat) {x y : Int64} (d : decode (mdB M) pc = .ok (.ladd, 1)) (k : X tw Λ M Q (pc + 1) ls (.long (x + y) :: st) μ) : X tw Λ M Q pc ls (.long y :: .long x :: st) μ := by
  intro p l e s m args below meth c H locs g A lsA C hP hS hl
  exact lv_ladd C.1 C.2.1 d  (k p l e s m args below meth c H locs g A lsA C hP hS hl)
theorem X_lmul (pc : Nat) {x y : Int64} (d : decode (mdB M) pc = .ok (.lmul, 1)) (k : X tw Λ M Q (pc + 1) ls (.long (x * y) :: st) μ) : X tw Λ M Q pc ls (.long y :: .long x :: st) μ := by
  intro p l e s m args below meth c H locs g A lsA C hP hS hl
  exact lv_lmul C.1 C.2.1 d  (k p l e s m args below meth c H locs g A lsA C hP hS hl)
theorem X_i2l (pc : Nat) {x : Int32} (d : decode (mdB M) pc = .ok (.i2l, 1)) (k : X tw Λ M Q (pc + 1) ls (.long (x.toInt64) :: st) μ) : X tw Λ M Q pc ls (.int x :: st) μ := by
  intro p l e s m args below meth c H locs g A lsA C hP hS hl
  exact lv_i2l C.1 C.2.1 d rfl (k p l e s m args below meth c H locs g A lsA C hP hS hl)
theorem X_iconst (pc : Nat) (v : Int32) {n : Int} (d : decode (mdB M) pc = .ok (.iconst n, 1)) (hv : Int32.ofInt n = v) (k : X tw Λ M Q (pc + 1) ls (.int v :: st) μ) : X tw Λ M Q pc ls (st) μ := by
  intro p l e s m args below meth c H locs g A lsA C hP hS hl
  exact lv_iconst C.1 C.2.1 d hv (k p l e s m args below meth c H locs g A lsA C hP hS hl)
theorem X_bipush (pc : Nat) (v : Int32) {n : Int} (d : decode (mdB M) pc = .ok (.bipush n, 2)) (hv : (Int8.ofInt n).toInt32 = v) (k : X tw Λ M Q (pc + 2) ls (.int v :: st) μ) : X tw Λ M Q pc ls (st) μ := by
  intro p l e s m args below meth c H locs g A lsA C hP hS hl
  exact lv_bipush C.1 C.2.1 d hv (k p l e s m args below meth c H locs g A lsA C hP hS hl)
theorem X_sipush (pc : Nat) (v : Int32) {n : Int} (d : decode (mdB M) pc = .ok (.sipush n, 3)) (hv : (Int16.ofInt n).toInt32 = v) (k : X tw Λ M Q (pc + 3) ls (.int v :: st) μ) : X tw Λ M Q pc ls (st) μ := by
  intro p l e s m args below meth c H locs g A lsA C hP hS hl
  exact lv_sipush C.1 C.2.1 d hv (k p l e s m args below meth c H locs g A lsA C hP hS hl)
theorem X_popi (pc : Nat) {v : Int32} (d : decode (mdB M) pc = .ok (.pop, 1)) (k : X tw Λ M Q (pc + 1) ls (st) μ) : X tw Λ M Q pc ls (.int v :: st) μ := by
  intro p l e s m args below meth c H locs g A lsA C hP hS hl
  exact lv_pop C.1 C.2.1 d rfl (k p l e s m args below meth c H locs g A lsA C hP hS hl)
theorem X_dupi (pc : Nat) {v : Int32} (d : decode (mdB M) pc = .ok (.dup, 1)) (k : X tw Λ M Q (pc + 1) ls (.int v :: .int v :: st) μ) : X tw Λ M Q pc ls (.int v :: st) μ := by
  intro p l e s m args below meth c H locs g A lsA C hP hS hl
  exact lv_dup C.1 C.2.1 d rfl (k p l e s m args below meth c H locs g A lsA C hP hS hl)
theorem X_dupr (pc : Nat) {v : Nat} (d : decode (mdB M) pc = .ok (.dup, 1)) (k : X tw Λ M Q (pc + 1) ls (.ref v :: .ref v :: st) μ) : X tw Λ M Q pc ls (.ref v :: st) μ := by
  intro p l e s m args below meth c H locs g A lsA C hP hS hl
  exact lv_dup C.1 C.2.1 d rfl (k p l e s m args below meth c H locs g A lsA C hP hS hl)
theorem X_dup2 (pc : Nat) {i : Int32} {a : Nat} (d : decode (mdB M) pc = .ok (.dup2, 1)) (k : X tw Λ M Q (pc + 1) ls (.int i :: .ref a :: .int i :: .ref a :: st) μ) : X tw Λ M Q pc ls (.int i :: .ref a :: st) μ := by
  intro p l e s m args below meth c H locs g A lsA C hP hS hl
  exact lv_dup2_11 C.1 C.2.1 d rfl rfl (k p l e s m args below meth c H locs g A lsA C hP hS hl)
theorem lm_at {ad : Nat → Nat} {ls : List (Nat × Value)} {k i : Nat} {v : Value} (h : ls[k]? = some (i, v)) : (lm ad ls)[k]? = some (i, cv ad v) := by simp [lm, h]
theorem X_iload_n (pc k0 : Nat) {kf : Fin 4} {i : Nat} {x : Int32} (d : decode (mdB M) pc = .ok (.iload_n kf, 1)) (hk : ls[k0]? = some (i, .int x)) (hi : (kf : Nat) = i) (k : X tw Λ M Q (pc + 1) ls (.int x :: st) μ) : X tw Λ M Q pc ls st μ := by
  intro p l e s m args below meth c H locs g A lsA C hP hS hl
  exact lv_iload_n C.1 C.2.1 d hi (lv_at hl k0 (lm_at hk)) (k p l e s m args below meth c H locs g A lsA C hP hS hl)
theorem X_iload (pc k0 : Nat) {i : Nat} {x : Int32} (d : decode (mdB M) pc = .ok (.iload i, 2)) (hk : ls[k0]? = some (i, .int x)) (k : X tw Λ M Q (pc + 2) ls (.int x :: st) μ) : X tw Λ M Q pc ls st μ := by
  intro p l e s m args below meth c H locs g A lsA C hP hS hl
  exact lv_iload C.1 C.2.1 d (lv_at hl k0 (lm_at hk)) (k p l e s m args below meth c H locs g A lsA C hP hS hl)
theorem X_lload_n (pc k0 : Nat) {kf : Fin 4} {i : Nat} {x : Int64} (d : decode (mdB M) pc = .ok (.lload_n kf, 1)) (hk : ls[k0]? = some (i, .long x)) (hi : (kf : Nat) = i) (k : X tw Λ M Q (pc + 1) ls (.long x :: st) μ) : X tw Λ M Q pc ls st μ := by
  intro p l e s m args below meth c H locs g A lsA C hP hS hl
  exact lv_lload_n C.1 C.2.1 d hi (lv_at hl k0 (lm_at hk)) (k p l e s m args below meth c H locs g A lsA C hP hS hl)
theorem X_lload (pc k0 : Nat) {i : Nat} {x : Int64} (d : decode (mdB M) pc = .ok (.lload i, 2)) (hk : ls[k0]? = some (i, .long x)) (k : X tw Λ M Q (pc + 2) ls (.long x :: st) μ) : X tw Λ M Q pc ls st μ := by
  intro p l e s m args below meth c H locs g A lsA C hP hS hl
  exact lv_lload C.1 C.2.1 d (lv_at hl k0 (lm_at hk)) (k p l e s m args below meth c H locs g A lsA C hP hS hl)
theorem X_aload_n (pc k0 : Nat) {kf : Fin 4} {i : Nat} {x : Nat} (d : decode (mdB M) pc = .ok (.aload_n kf, 1)) (hk : ls[k0]? = some (i, .ref x)) (hi : (kf : Nat) = i) (k : X tw Λ M Q (pc + 1) ls (.ref x :: st) μ) : X tw Λ M Q pc ls st μ := by
  intro p l e s m args below meth c H locs g A lsA C hP hS hl
  exact lv_aload_n C.1 C.2.1 d hi (lv_at hl k0 (lm_at hk)) (k p l e s m args below meth c H locs g A lsA C hP hS hl)
theorem X_aload (pc k0 : Nat) {i : Nat} {x : Nat} (d : decode (mdB M) pc = .ok (.aload i, 2)) (hk : ls[k0]? = some (i, .ref x)) (k : X tw Λ M Q (pc + 2) ls (.ref x :: st) μ) : X tw Λ M Q pc ls st μ := by
  intro p l e s m args below meth c H locs g A lsA C hP hS hl
  exact lv_aload C.1 C.2.1 d (lv_at hl k0 (lm_at hk)) (k p l e s m args below meth c H locs g A lsA C hP hS hl)
def stL (i : Nat) (v : Value) (ls : List (Nat × Value)) : List (Nat × Value) := (i, v) :: ls.filter (fun q => !(q.1 == i) && !(q.1 + 1 == i && q.2.category == 2))
def stL2 (i : Nat) (v : Value) (ls : List (Nat × Value)) : List (Nat × Value) := (i, v) :: ls.filter (fun q => !(q.1 == i) && (!(q.1 == i + 1) && !(q.1 + 1 == i && q.2.category == 2)))
theorem lm_filter {ad : Nat → Nat} {F : Nat × Value → Bool} (hF : ∀ q : Nat × Value, F (q.1, cv ad q.2) = F q) (ls : List (Nat × Value)) : (lm ad ls).filter F = lm ad (ls.filter F) := by
  unfold lm
  rw [List.filter_map]
  congr 1
  congr 1
  funext q
  exact hF q
theorem lm_stL (ad : Nat → Nat) (i : Nat) (v : Value) (ls : List (Nat × Value)) : (i, cv ad v) :: (lm ad ls).filter (fun q => !(q.1 == i) && !(q.1 + 1 == i && q.2.category == 2)) = lm ad (stL i v ls) := by
  rw [lm_filter (fun q => by simp only [cv_cat])]
  rfl
theorem lm_stL2 (ad : Nat → Nat) (i : Nat) (v : Value) (ls : List (Nat × Value)) : (i, cv ad v) :: (lm ad ls).filter (fun q => !(q.1 == i) && (!(q.1 == i + 1) && !(q.1 + 1 == i && q.2.category == 2))) = lm ad (stL2 i v ls) := by
  rw [lm_filter (fun q => by simp only [cv_cat])]
  rfl
theorem X_istore_n (pc : Nat) {kf : Fin 4} {i : Nat} {x : Int32} (ls2 : List (Nat × Value)) (d : decode (mdB M) pc = .ok (.istore_n kf, 1)) (hi : (kf : Nat) = i) (hn : i < mdN M) (h2 : stL i (.int x) ls = ls2) (k : X tw Λ M Q (pc + 1) ls2 st μ) : X tw Λ M Q pc ls (.int x :: st) μ := by
  subst h2
  intro p l e s m args below meth c H locs g A lsA C hP hS hl
  exact lv_istore_n C.1 C.2.1 d hi hl hn (lm_stL g.1 i (.int x) ls) (fun lsB hl2 => k p l e s m args below meth c H locs g A lsB C hP hS hl2)
theorem X_istore (pc : Nat) {i : Nat} {x : Int32} (ls2 : List (Nat × Value)) (d : decode (mdB M) pc = .ok (.istore i, 2)) (hn : i < mdN M) (h2 : stL i (.int x) ls = ls2) (k : X tw Λ M Q (pc + 2) ls2 st μ) : X tw Λ M Q pc ls (.int x :: st) μ := by
  subst h2
  intro p l e s m args below meth c H locs g A lsA C hP hS hl
  exact lv_istore C.1 C.2.1 d hl hn (lm_stL g.1 i (.int x) ls) (fun lsB hl2 => k p l e s m args below meth c H locs g A lsB C hP hS hl2)
theorem X_lstore_n (pc : Nat) {kf : Fin 4} {i : Nat} {x : Int64} (ls2 : List (Nat × Value)) (d : decode (mdB M) pc = .ok (.lstore_n kf, 1)) (hi : (kf : Nat) = i) (hn : i + 1 < mdN M) (h2 : stL2 i (.long x) ls = ls2) (k : X tw Λ M Q (pc + 1) ls2 st μ) : X tw Λ M Q pc ls (.long x :: st) μ := by
  subst h2
  intro p l e s m args below meth c H locs g A lsA C hP hS hl
  exact lv_lstore_n C.1 C.2.1 d hi hl hn (lm_stL2 g.1 i (.long x) ls) (fun lsB hl2 => k p l e s m args below meth c H locs g A lsB C hP hS hl2)
theorem X_lstore (pc : Nat) {i : Nat} {x : Int64} (ls2 : List (Nat × Value)) (d : decode (mdB M) pc = .ok (.lstore i, 2)) (hn : i + 1 < mdN M) (h2 : stL2 i (.long x) ls = ls2) (k : X tw Λ M Q (pc + 2) ls2 st μ) : X tw Λ M Q pc ls (.long x :: st) μ := by
  subst h2
  intro p l e s m args below meth c H locs g A lsA C hP hS hl
  exact lv_lstore C.1 C.2.1 d hl hn (lm_stL2 g.1 i (.long x) ls) (fun lsB hl2 => k p l e s m args below meth c H locs g A lsB C hP hS hl2)
theorem X_astore_n (pc : Nat) {kf : Fin 4} {i : Nat} {x : Nat} (ls2 : List (Nat × Value)) (d : decode (mdB M) pc = .ok (.astore_n kf, 1)) (hi : (kf : Nat) = i) (hn : i < mdN M) (h2 : stL i (.ref x) ls = ls2) (k : X tw Λ M Q (pc + 1) ls2 st μ) : X tw Λ M Q pc ls (.ref x :: st) μ := by
  subst h2
  intro p l e s m args below meth c H locs g A lsA C hP hS hl
  exact lv_astore_n C.1 C.2.1 d hi hl hn (lm_stL g.1 i (.ref x) ls) (fun lsB hl2 => k p l e s m args below meth c H locs g A lsB C hP hS hl2)
theorem X_astore (pc : Nat) {i : Nat} {x : Nat} (ls2 : List (Nat × Value)) (d : decode (mdB M) pc = .ok (.astore i, 2)) (hn : i < mdN M) (h2 : stL i (.ref x) ls = ls2) (k : X tw Λ M Q (pc + 2) ls2 st μ) : X tw Λ M Q pc ls (.ref x :: st) μ := by
  subst h2
  intro p l e s m args below meth c H locs g A lsA C hP hS hl
  exact lv_astore C.1 C.2.1 d hl hn (lm_stL g.1 i (.ref x) ls) (fun lsB hl2 => k p l e s m args below meth c H locs g A lsB C hP hS hl2)
theorem X_iinc (pc k0 : Nat) {i : Nat} {n : Int} {x : Int32} (v : Int32) (ls2 : List (Nat × Value)) (d : decode (mdB M) pc = .ok (.iinc i n, 3)) (hk : ls[k0]? = some (i, .int x)) (hv : x + Int32.ofInt n = v) (hn : i < mdN M) (h2 : stL i (.int v) ls = ls2) (k : X tw Λ M Q (pc + 3) ls2 st μ) : X tw Λ M Q pc ls st μ := by
  subst h2
  intro p l e s m args below meth c H locs g A lsA C hP hS hl
  exact lv_iinc C.1 C.2.1 d hl (lm_at hk) hv hn (lm_stL g.1 i (.int v) ls) (fun lsB hl2 => k p l e s m args below meth c H locs g A lsB C hP hS hl2)
theorem X_sub (ks : List Nat) (ls2 : List (Nat × Value)) (h : lv_pick ls ks = ls2) (k : X tw Λ M Q pc ls2 st μ) : X tw Λ M Q pc ls st μ := by
  intro p l e s m args below meth c H locs g A lsA C hP hS hl
  refine k p l e s m args below meth c H locs g A lsA C hP hS (lv_sub hl ks ?_)
  subst h
  unfold lv_pick lm
  rw [List.map_filterMap]
  congr 1
  funext i
  rw [List.getElem?_map]
theorem X_eq {pc2 : Nat} {ls2 : List (Nat × Value)} {st2 : List Value} {μ2 : Mm} (k : X tw Λ M Q pc2 ls2 st2 μ2) (h0 : pc = pc2) (h1 : ls = ls2) (h2 : st = st2) (h3 : μ = μ2) : X tw Λ M Q pc ls st μ := by subst h0 h1 h2 h3; exact k
theorem X_goto (pc tgt : Nat) {off : Int} (d : decode (mdB M) pc = .ok (.goto off, 3)) (ht : (pc : Int) + off = (tgt : Int)) (k : X tw Λ M Q tgt ls st μ) : X tw Λ M Q pc ls st μ := by
  intro p l e s m args below meth c H locs g A lsA C hP hS hl
  exact lv_goto C.1 C.2.1 d ht (k p l e s m args below meth c H locs g A lsA C hP hS hl)
theorem X_if_eq (pc tgt : Nat) {x : Int32} {off : Int} (d : decode (mdB M) pc = .ok (.ifCond .eq off, 3)) (ht : (pc : Int) + off = (tgt : Int)) (kt : x = 0 → X tw Λ M Q tgt ls st μ) (kf : ¬ x = 0 → X tw Λ M Q (pc + 3) ls st μ) : X tw Λ M Q pc ls (.int x :: st) μ := by
  intro p l e s m args below meth c H locs g A lsA C hP hS hl
  exact lv_if_eq C.1 C.2.1 d ht (fun q => kt q p l e s m args below meth c H locs g A lsA C hP hS hl) (fun q => kf q p l e s m args below meth c H locs g A lsA C hP hS hl)
theorem X_if_ne (pc tgt : Nat) {x : Int32} {off : Int} (d : decode (mdB M) pc = .ok (.ifCond .ne off, 3)) (ht : (pc : Int) + off = (tgt : Int)) (kt : ¬ x = 0 → X tw Λ M Q tgt ls st μ) (kf : x = 0 → X tw Λ M Q (pc + 3) ls st μ) : X tw Λ M Q pc ls (.int x :: st) μ := by
  intro p l e s m args below meth c H locs g A lsA C hP hS hl
  exact lv_if_ne C.1 C.2.1 d ht (fun q => kt q p l e s m args below meth c H locs g A lsA C hP hS hl) (fun q => kf q p l e s m args below meth c H locs g A lsA C hP hS hl)
theorem X_if_lt (pc tgt : Nat) {x : Int32} {off : Int} (d : decode (mdB M) pc = .ok (.ifCond .lt off, 3)) (ht : (pc : Int) + off = (tgt : Int)) (kt : x < 0 → X tw Λ M Q tgt ls st μ) (kf : ¬ x < 0 → X tw Λ M Q (pc + 3) ls st μ) : X tw Λ M Q pc ls (.int x :: st) μ := by
  intro p l e s m args below meth c H locs g A lsA C hP hS hl
  exact lv_if_lt C.1 C.2.1 d ht (fun q => kt q p l e s m args below meth c H locs g A lsA C hP hS hl) (fun q => kf q p l e s m args below meth c H locs g A lsA C hP hS hl)
theorem X_if_ge (pc tgt : Nat) {x : Int32} {off : Int} (d : decode (mdB M) pc = .ok (.ifCond .ge off, 3)) (ht : (pc : Int) + off = (tgt : Int)) (kt : 0 ≤ x → X tw Λ M Q tgt ls st μ) (kf : ¬ 0 ≤ x → X tw Λ M Q (pc + 3) ls st μ) : X tw Λ M Q pc ls (.int x :: st) μ := by
  intro p l e s m args below meth c H locs g A lsA C hP hS hl
  exact lv_if_ge C.1 C.2.1 d ht (fun q => kt q p l e s m args below meth c H locs g A lsA C hP hS hl) (fun q => kf q p l e s m args below meth c H locs g A lsA C hP hS hl)
theorem X_if_gt (pc tgt : Nat) {x : Int32} {off : Int} (d : decode (mdB M) pc = .ok (.ifCond .gt off, 3)) (ht : (pc : Int) + off = (tgt : Int)) (kt : 0 < x → X tw Λ M Q tgt ls st μ) (kf : ¬ 0 < x → X tw Λ M Q (pc + 3) ls st μ) : X tw Λ M Q pc ls (.int x :: st) μ := by
  intro p l e s m args below meth c H locs g A lsA C hP hS hl
  exact lv_if_gt C.1 C.2.1 d ht (fun q => kt q p l e s m args below meth c H locs g A lsA C hP hS hl) (fun q => kf q p l e s m args below meth c H locs g A lsA C hP hS hl)
theorem X_if_le (pc tgt : Nat) {x : Int32} {off : Int} (d : decode (mdB M) pc = .ok (.ifCond .le off, 3)) (ht : (pc : Int) + off = (tgt : Int)) (kt : x ≤ 0 → X tw Λ M Q tgt ls st μ) (kf : ¬ x ≤ 0 → X tw Λ M Q (pc + 3) ls st μ) : X tw Λ M Q pc ls (.int x :: st) μ := by
  intro p l e s m args below meth c H locs g A lsA C hP hS hl
  exact lv_if_le C.1 C.2.1 d ht (fun q => kt q p l e s m args below meth c H locs g A lsA C hP hS hl) (fun q => kf q p l e s m args below meth c H locs g A lsA C hP hS hl)
theorem X_icmp_eq (pc tgt : Nat) {x y : Int32} {off : Int} (d : decode (mdB M) pc = .ok (.if_icmp .eq off, 3)) (ht : (pc : Int) + off = (tgt : Int)) (kt : x = y → X tw Λ M Q tgt ls st μ) (kf : ¬ x = y → X tw Λ M Q (pc + 3) ls st μ) : X tw Λ M Q pc ls (.int y :: .int x :: st) μ := by
  intro p l e s m args below meth c H locs g A lsA C hP hS hl
  exact lv_icmp_eq C.1 C.2.1 d ht (fun q => kt q p l e s m args below meth c H locs g A lsA C hP hS hl) (fun q => kf q p l e s m args below meth c H locs g A lsA C hP hS hl)
theorem X_icmp_ne (pc tgt : Nat) {x y : Int32} {off : Int} (d : decode (mdB M) pc = .ok (.if_icmp .ne off, 3)) (ht : (pc : Int) + off = (tgt : Int)) (kt : ¬ x = y → X tw Λ M Q tgt ls st μ) (kf : x = y → X tw Λ M Q (pc + 3) ls st μ) : X tw Λ M Q pc ls (.int y :: .int x :: st) μ := by
  intro p l e s m args below meth c H locs g A lsA C hP hS hl
  exact lv_icmp_ne C.1 C.2.1 d ht (fun q => kt q p l e s m args below meth c H locs g A lsA C hP hS hl) (fun q => kf q p l e s m args below meth c H locs g A lsA C hP hS hl)
theorem X_icmp_lt (pc tgt : Nat) {x y : Int32} {off : Int} (d : decode (mdB M) pc = .ok (.if_icmp .lt off, 3)) (ht : (pc : Int) + off = (tgt : Int)) (kt : x < y → X tw Λ M Q tgt ls st μ) (kf : ¬ x < y → X tw Λ M Q (pc + 3) ls st μ) : X tw Λ M Q pc ls (.int y :: .int x :: st) μ := by
  intro p l e s m args below meth c H locs g A lsA C hP hS hl
  exact lv_icmp_lt C.1 C.2.1 d ht (fun q => kt q p l e s m args below meth c H locs g A lsA C hP hS hl) (fun q => kf q p l e s m args below meth c H locs g A lsA C hP hS hl)
theorem X_icmp_ge (pc tgt : Nat) {x y : Int32} {off : Int} (d : decode (mdB M) pc = .ok (.if_icmp .ge off, 3)) (ht : (pc : Int) + off = (tgt : Int)) (kt : y ≤ x → X tw Λ M Q tgt ls st μ) (kf : ¬ y ≤ x → X tw Λ M Q (pc + 3) ls st μ) : X tw Λ M Q pc ls (.int y :: .int x :: st) μ := by
  intro p l e s m args below meth c H locs g A lsA C hP hS hl
  exact lv_icmp_ge C.1 C.2.1 d ht (fun q => kt q p l e s m args below meth c H locs g A lsA C hP hS hl) (fun q => kf q p l e s m args below meth c H locs g A lsA C hP hS hl)
theorem X_icmp_gt (pc tgt : Nat) {x y : Int32} {off : Int} (d : decode (mdB M) pc = .ok (.if_icmp .gt off, 3)) (ht : (pc : Int) + off = (tgt : Int)) (kt : y < x → X tw Λ M Q tgt ls st μ) (kf : ¬ y < x → X tw Λ M Q (pc + 3) ls st μ) : X tw Λ M Q pc ls (.int y :: .int x :: st) μ := by
  intro p l e s m args below meth c H locs g A lsA C hP hS hl
  exact lv_icmp_gt C.1 C.2.1 d ht (fun q => kt q p l e s m args below meth c H locs g A lsA C hP hS hl) (fun q => kf q p l e s m args below meth c H locs g A lsA C hP hS hl)
theorem X_icmp_le (pc tgt : Nat) {x y : Int32} {off : Int} (d : decode (mdB M) pc = .ok (.if_icmp .le off, 3)) (ht : (pc : Int) + off = (tgt : Int)) (kt : x ≤ y → X tw Λ M Q tgt ls st μ) (kf : ¬ x ≤ y → X tw Λ M Q (pc + 3) ls st μ) : X tw Λ M Q pc ls (.int y :: .int x :: st) μ := by
  intro p l e s m args below meth c H locs g A lsA C hP hS hl
  exact lv_icmp_le C.1 C.2.1 d ht (fun q => kt q p l e s m args below meth c H locs g A lsA C hP hS hl) (fun q => kf q p l e s m args below meth c H locs g A lsA C hP hS hl)
theorem X_ifnull (pc : Nat) {x : Nat} {off : Int} (d : decode (mdB M) pc = .ok (.ifnull off, 3)) (k : X tw Λ M Q (pc + 3) ls st μ) : X tw Λ M Q pc ls (.ref x :: st) μ := by
  intro p l e s m args below meth c H locs g A lsA C hP hS hl
  exact lv_ifnull C.1 C.2.1 d (k p l e s m args below meth c H locs g A lsA C hP hS hl)
theorem X_ifnonnull (pc tgt : Nat) {x : Nat} {off : Int} (d : decode (mdB M) pc = .ok (.ifnonnull off, 3)) (ht : (pc : Int) + off = (tgt : Int)) (k : X tw Λ M Q tgt ls st μ) : X tw Λ M Q pc ls (.ref x :: st) μ := by
  intro p l e s m args below meth c H locs g A lsA C hP hS hl
  exact lv_ifnonnull C.1 C.2.1 d ht (k p l e s m args below meth c H locs g A lsA C hP hS hl)
theorem X_tabIn (pc tgt : Nat) {dflt lo hi : Int} {offs : Array Int} {len : Nat} {x : Int32} {off : Int} (d : decode (mdB M) pc = .ok (.tableswitch dflt lo hi offs, len)) (h1 : ¬ x.toInt < lo) (h2 : ¬ hi < x.toInt) (ho : offs[(x.toInt - lo).toNat]? = some off) (ht : (pc : Int) + off = (tgt : Int)) (k : X tw Λ M Q tgt ls st μ) : X tw Λ M Q pc ls (.int x :: st) μ := by
  intro p l e s m args below meth c H locs g A lsA C hP hS hl
  exact lv_tableIn C.1 C.2.1 d h1 h2 ho ht (k p l e s m args below meth c H locs g A lsA C hP hS hl)
theorem X_tabOut (pc tgt : Nat) {dflt lo hi : Int} {offs : Array Int} {len : Nat} {x : Int32} (d : decode (mdB M) pc = .ok (.tableswitch dflt lo hi offs, len)) (h : x.toInt < lo ∨ hi < x.toInt) (ht : (pc : Int) + dflt = (tgt : Int)) (k : X tw Λ M Q tgt ls st μ) : X tw Λ M Q pc ls (.int x :: st) μ := by
  intro p l e s m args below meth c H locs g A lsA C hP hS hl
  exact lv_tableOut C.1 C.2.1 d h ht (k p l e s m args below meth c H locs g A lsA C hP hS hl)
theorem X_lookup (pc tgt : Nat) {dflt : Int} {ps : Array (Int × Int)} {len : Nat} {x : Int32} {off : Int} (d : decode (mdB M) pc = .ok (.lookupswitch dflt ps, len)) (hp : (ps.toList.zip (ps.toList.drop 1)).all (fun (a, next) => a.1 < next.1) = true) (ho : Op.lookupswitch.offset ps.toList dflt x.toInt = off) (ht : (pc : Int) + off = (tgt : Int)) (k : X tw Λ M Q tgt ls st μ) : X tw Λ M Q pc ls (.int x :: st) μ := by
  intro p l e s m args below meth c H locs g A lsA C hP hS hl
  exact lv_lookup C.1 C.2.1 d hp ho ht (k p l e s m args below meth c H locs g A lsA C hP hS hl)
theorem X_ldc2 (pc : Nat) {index : Nat} {v : Int64} (d : decode (mdB M) pc = .ok (.ldc2_w index, 3)) (hw : Cond.constantLong (mdO M) index v ∈ WS) (k : X tw Λ M Q (pc + 3) ls (.long v :: st) μ) : X tw Λ M Q pc ls st μ := by
  intro p l e s m args below meth c H locs g A lsA C hP hS hl
  exact lv_ldc2 C.1 C.2.1 C.2.2.2.1 (C.2.2.2.2.1 _ hw) d (k p l e s m args below meth c H locs g A lsA C hP hS hl)
theorem X_ldcw (pc : Nat) {index : Nat} {v : Int32} (d : decode (mdB M) pc = .ok (.ldc_w index, 3)) (hw : Cond.constant (mdO M) index v ∈ WS) (k : X tw Λ M Q (pc + 3) ls (.int v :: st) μ) : X tw Λ M Q pc ls st μ := by
  intro p l e s m args below meth c H locs g A lsA C hP hS hl
  exact lv_ldcw C.1 C.2.1 C.2.2.2.1 (C.2.2.2.2.1 _ hw) d (k p l e s m args below meth c H locs g A lsA C hP hS hl)
def LKF (own : String) (index : Nat) (C n d : String) : Prop := Cond.fieldLink own index C n d ∈ WS ∨ ∃ host : String, (own, index, C, n, d, host) ∈ NWF
def LKM (own : String) (index : Nat) (y : MethodName) : Prop := Cond.methodLink own index y ∈ WS ∨ ∃ host : String, (own, index, y, host) ∈ NWM
/-- a field's facts: class number ci with its table, the place f -/
theorem X_get {q ci f index N : Nat} {fs : List FE} {C : String} {T : u_T} (pc : Nat) (d : decode (mdB M) pc = .ok (.getfield index, 3)) (hL : LKF (mdO M) index (T f).1 (T f).2.1 (T f).2.2.1) (hin : ∀ w ∈ u_ws C T N, w ∈ WS) (hc : vwCl[ci]? = some (C, T, N)) (hN : f < N) (hq : Λ[q]? = some (.inl (ci, fs))) {fe : FE} (hf : fs[f]? = some fe)
    (k : ∀ (p : Program) (l : Launch) (e : Env) (s : State) (m : MethodId) (args : Array Value) (below : List Frame) (meth : Method) (c : Code) (H : Heap) (locs : List Loc) (g : GG) (A : Nat → Prop) (lsA : Array Slot),
    CX tw Λ M g A p l s m args meth c → va_P g.2.1 vwCl (wO g Λ μ) H → va_S A s.heap H locs → lv_has lsA (mdN M) (lm g.1 ls) →
    W p l e (mdG M) s m args below meth c H locs 0 0 (ZZ tw Λ g A Q below args s) (F0 m (pc + 3) lsA (fv g.1 μ q f fe :: st.map (cv g.1)))) : X tw Λ M Q pc ls (.ref q :: st) μ := by
  intro p l e s m args below meth c H locs g A lsA C0 hP hS hl
  have hfe : (fs.mapIdx (fun f e => fv g.1 μ q f e))[f]? = some (fv g.1 μ q f fe) := by simp [hf]
  rcases hL with hL | ⟨host, hL⟩
  · exact va_get C0.1 C0.2.1 C0.2.2.2.2.1 hin C0.2.2.2.1 C0.2.2.2.2.2.2.2.2.2.2.2.1 hP q (wO_at hq μ) hc f hN (C0.2.2.2.2.1 _ hL) (fun _ h => h) hfe d (k p l e s m args below meth c H locs g A lsA C0 hP hS hl)
  · exact va_getN C0.1 C0.2.1 C0.2.2.2.2.1 hin C0.2.2.2.1 C0.2.2.2.2.2.2.2.2.2.2.2.1 hP q (wO_at hq μ) hc f hN (va_Nw.use rfl (C0.2.2.2.2.2.2.2.2.2.2.2.2.1 _ hL)) (fun _ h => h) hfe d (k p l e s m args below meth c H locs g A lsA C0 hP hS hl)
theorem X_getI {q ci f index N : Nat} {fs : List FE} {C : String} {T : u_T} (pc : Nat) (d : decode (mdB M) pc = .ok (.getfield index, 3)) (hL : LKF (mdO M) index (T f).1 (T f).2.1 (T f).2.2.1) (hin : ∀ w ∈ u_ws C T N, w ∈ WS) (hc : vwCl[ci]? = some (C, T, N)) (hN : f < N) (hq : Λ[q]? = some (.inl (ci, fs))) (hf : fs[f]? = some (.inl 0))
    (k : X tw Λ M Q (pc + 3) ls (.int (μ q f) :: st) μ) : X tw Λ M Q pc ls (.ref q :: st) μ := X_get pc d hL hin hc hN hq hf k
theorem X_getR {q ci f index N q2 : Nat} {fs : List FE} {C : String} {T : u_T} (pc : Nat) (d : decode (mdB M) pc = .ok (.getfield index, 3)) (hL : LKF (mdO M) index (T f).1 (T f).2.1 (T f).2.2.1) (hin : ∀ w ∈ u_ws C T N, w ∈ WS) (hc : vwCl[ci]? = some (C, T, N)) (hN : f < N) (hq : Λ[q]? = some (.inl (ci, fs))) (hf : fs[f]? = some (.inr q2))
    (k : X tw Λ M Q (pc + 3) ls (.ref q2 :: st) μ) : X tw Λ M Q pc ls (.ref q :: st) μ := X_get pc d hL hin hc hN hq hf k
theorem X_getL {q ci f index N m : Nat} {fs : List FE} {C : String} {T : u_T} (pc : Nat) (d : decode (mdB M) pc = .ok (.getfield index, 3)) (hL : LKF (mdO M) index (T f).1 (T f).2.1 (T f).2.2.1) (hin : ∀ w ∈ u_ws C T N, w ∈ WS) (hc : vwCl[ci]? = some (C, T, N)) (hN : f < N) (hq : Λ[q]? = some (.inl (ci, fs))) (hf : fs[f]? = some (.inl (m + 1)))
    (k : X tw Λ M Q (pc + 3) ls (.long (jL (μ q f) (μ q (f + 1000))) :: st) μ) : X tw Λ M Q pc ls (.ref q :: st) μ := X_get pc d hL hin hc hN hq hf k
theorem X_put {q ci f index N : Nat} {fs : List FE} {C : String} {T : u_T} (pc : Nat) {v : Value} {μ2 : Mm} {ty : FieldType} {ty0 : Nat → FieldType} (d : decode (mdB M) pc = .ok (.putfield index, 3)) (hL : LKF (mdO M) index (T f).1 (T f).2.1 (T f).2.2.1) (hin : ∀ w ∈ u_ws C T N, w ∈ WS) (hc : vwCl[ci]? = some (C, T, N)) (hN : f < N) (hq : Λ[q]? = some (.inl (ci, fs)))
    (hty : ∀ k, k < N → parseFieldDescriptor (T k).2.2.1 = some (ty0 k)) (hnm : ∀ a, a < N → ∀ b, b < N → a ≠ b → (T a).2.1 ≠ (T b).2.1) (hfin : (T f).2.2.2 = false) (hd : ty0 f = ty) (hlen : f < fs.length) (hn : narrow ty v = v) (hfit : fits ty v = true) (hcv : ∀ ad, cv ad v = v)
    (hset : ∀ g : GG, (wO g Λ μ).set q (g.1 q, .inr (ci, (fs.mapIdx (fun f e => fv g.1 μ q f e)).set f v)) = wO g Λ μ2)
    (k : X tw Λ M Q (pc + 3) ls st μ2) : X tw Λ M Q pc ls (v :: .ref q :: st) μ := by
  intro p l e s m args below meth c H locs g A lsA C0 hP hS hl
  have hD : va_D A (wO g Λ μ) := AD_D C0.2.2.2.2.2.2.2.2.2.1 μ
  have hpd : parseFieldDescriptor (T f).2.2.1 = some ty := by rw [hty f hN, hd]
  show W p l e (mdG M) s m args below meth c H locs 0 0 (ZZ tw Λ g A Q below args s) (F0 m pc lsA (cv g.1 v :: .ref (g.1 q) :: st.map (cv g.1)))
  rw [hcv]
  have kk : ∀ (H1 : Heap) (locs1 : List Loc), va_P g.2.1 vwCl ((wO g Λ μ).set q (g.1 q, .inr (ci, (fs.mapIdx (fun f e => fv g.1 μ q f e)).set f v))) H1 → va_D A ((wO g Λ μ).set q (g.1 q, .inr (ci, (fs.mapIdx (fun f e => fv g.1 μ q f e)).set f v))) → va_S A s.heap H1 locs1 → W p l e (mdG M) s m args below meth c H1 locs1 0 0 (ZZ tw Λ g A Q below args s) (F0 m (pc + 3) lsA (st.map (cv g.1))) := by
    intro H1 locs1 hP1 _ hS1
    rw [hset g] at hP1
    exact k p l e s m args below meth c H1 locs1 g A lsA C0 hP1 hS1 hl
  rcases hL with hL | ⟨host, hL⟩
  · exact va_put C0.1 C0.2.1 C0.2.2.2.2.1 hin ty0 hty hnm C0.2.2.2.1 C0.2.2.2.2.2.2.2.2.2.2.2.1 hP hD hS q (wO_at hq μ) hc f hN (C0.2.2.2.2.1 _ hL) (fun _ h => h) hfin hpd hn hfit (by simpa using hlen) d kk
  · exact va_putN C0.1 C0.2.1 C0.2.2.2.2.1 hin ty0 hty hnm C0.2.2.2.1 C0.2.2.2.2.2.2.2.2.2.2.2.1 hP hD hS q (wO_at hq μ) hc f hN (va_Nw.use rfl (C0.2.2.2.2.2.2.2.2.2.2.2.2.1 _ hL)) (fun _ h => h) hfin hpd hn hfit (by simpa using hlen) d kk
theorem X_putI {q ci f index N : Nat} {fs : List FE} {C : String} {T : u_T} (pc : Nat) {x : Int32} {ty : FieldType} {ty0 : Nat → FieldType} (d : decode (mdB M) pc = .ok (.putfield index, 3)) (hL : LKF (mdO M) index (T f).1 (T f).2.1 (T f).2.2.1) (hin : ∀ w ∈ u_ws C T N, w ∈ WS) (hc : vwCl[ci]? = some (C, T, N)) (hN : f < N) (hq : Λ[q]? = some (.inl (ci, fs)))
    (hty : ∀ k, k < N → parseFieldDescriptor (T k).2.2.1 = some (ty0 k)) (hnm : ∀ a, a < N → ∀ b, b < N → a ≠ b → (T a).2.1 ≠ (T b).2.1) (hfin : (T f).2.2.2 = false) (hd : ty0 f = ty) (hf : fs[f]? = some (.inl 0)) (hl9 : f < 1000) (hn : narrow ty (.int x) = .int x) (hfit : fits ty (.int x) = true)
    (k : X tw Λ M Q (pc + 3) ls st (uM μ q f x)) : X tw Λ M Q pc ls (.int x :: .ref q :: st) μ :=
  X_put pc d hL hin hc hN hq hty hnm hfin hd (List.getElem?_eq_some_iff.mp hf).1 hn hfit (fun _ => rfl) (fun g => wO_set hq (ce_setI hf hl9)) k
theorem X_putL {q ci f index N m : Nat} {fs : List FE} {C : String} {T : u_T} (pc : Nat) {x : Int64} {ty : FieldType} {ty0 : Nat → FieldType} (d : decode (mdB M) pc = .ok (.putfield index, 3)) (hL : LKF (mdO M) index (T f).1 (T f).2.1 (T f).2.2.1) (hin : ∀ w ∈ u_ws C T N, w ∈ WS) (hc : vwCl[ci]? = some (C, T, N)) (hN : f < N) (hq : Λ[q]? = some (.inl (ci, fs)))
    (hty : ∀ k, k < N → parseFieldDescriptor (T k).2.2.1 = some (ty0 k)) (hnm : ∀ a, a < N → ∀ b, b < N → a ≠ b → (T a).2.1 ≠ (T b).2.1) (hfin : (T f).2.2.2 = false) (hd : ty0 f = ty) (hf : fs[f]? = some (.inl (m + 1))) (hl9 : fs.length < 1000) (hn : narrow ty (.long x) = .long x) (hfit : fits ty (.long x) = true)
    (k : X tw Λ M Q (pc + 3) ls st (uL μ q f x)) : X tw Λ M Q pc ls (.long x :: .ref q :: st) μ :=
  X_put pc d hL hin hc hN hq hty hnm hfin hd (List.getElem?_eq_some_iff.mp hf).1 hn hfit (fun _ => rfl) (fun g => wO_setL hq hf hl9) k
/-! arrays -/
theorem X_iald {a n : Nat} {i : Int32} (pc : Nat) (d : decode (mdB M) pc = .ok (.iaload, 1)) (ha : Λ[a]? = some (.inr (.inl n))) (hin : vp_in i n) (k : X tw Λ M Q (pc + 1) ls (.int (μ a i.toNatClampNeg) :: st) μ) : X tw Λ M Q pc ls (.int i :: .ref a :: st) μ := by
  intro p l e s m args below meth c H locs g A lsA C0 hP hS hl
  exact va_iald C0.1 C0.2.1 C0.2.2.2.2.2.2.2.2.2.2.2.1 hP a 0 (wO_at ha μ) rfl hin d (k p l e s m args below meth c H locs g A lsA C0 hP hS hl)
theorem X_iast {a n : Nat} {i x : Int32} (pc : Nat) (d : decode (mdB M) pc = .ok (.iastore, 1)) (ha : Λ[a]? = some (.inr (.inl n))) (hin : vp_in i n) (k : X tw Λ M Q (pc + 1) ls st (uM μ a i.toNatClampNeg x)) : X tw Λ M Q pc ls (.int x :: .int i :: .ref a :: st) μ := by
  intro p l e s m args below meth c H locs g A lsA C0 hP hS hl
  have hD : va_D A (wO g Λ μ) := AD_D C0.2.2.2.2.2.2.2.2.2.1 μ
  refine va_iast C0.1 C0.2.1 C0.2.2.2.2.2.2.2.2.2.2.2.1 hP hD hS a 0 (wO_at ha μ) rfl hin d (fun H1 locs1 hP1 _ hS1 => ?_)
  have hset : (wO g Λ μ).set a (g.1 a, .inl (g.2.2.1, n, .inl (upd (μ a) i.toNatClampNeg x))) = wO g Λ (uM μ a i.toNatClampNeg x) := by
    refine wO_set ha ?_
    show Sum.inl _ = Sum.inl _
    have : upd (μ a) i.toNatClampNeg x = uM μ a i.toNatClampNeg x a := by
      funext j
      simp [upd, uM]
    rw [this]
  rw [hset] at hP1
  exact k p l e s m args below meth c H1 locs1 g A lsA C0 hP1 hS1 hl
theorem X_aald {a q : Nat} {qs : List Nat} {i : Int32} (pc : Nat) (d : decode (mdB M) pc = .ok (.aaload, 1)) (ha : Λ[a]? = some (.inr (.inr qs))) (hin : vp_in i qs.length) (hq : qs[i.toNatClampNeg]? = some q) (k : X tw Λ M Q (pc + 1) ls (.ref q :: st) μ) : X tw Λ M Q pc ls (.int i :: .ref a :: st) μ := by
  intro p l e s m args below meth c H locs g A lsA C0 hP hS hl
  refine va_aldq C0.1 C0.2.1 C0.2.2.2.2.2.2.2.2.2.2.2.1 hP a 1 (wO_at ha μ) rfl hin d ?_
  rw [hq]
  exact k p l e s m args below meth c H locs g A lsA C0 hP hS hl
theorem X_alen {a n : Nat} {v : Int32} (pc : Nat) (d : decode (mdB M) pc = .ok (.arraylength, 1)) (ha : Λ[a]? = some (.inr (.inl n))) (hv : Int32.ofNat n = v) (k : X tw Λ M Q (pc + 1) ls (.int v :: st) μ) : X tw Λ M Q pc ls (.ref a :: st) μ := by
  intro p l e s m args below meth c H locs g A lsA C0 hP hS hl
  exact va_alen C0.1 C0.2.1 C0.2.2.2.2.2.2.2.2.2.2.2.1 hP a 0 (wO_at ha μ) rfl hv d (k p l e s m args below meth c H locs g A lsA C0 hP hS hl)
theorem X_alenq {a : Nat} {qs : List Nat} {v : Int32} (pc : Nat) (d : decode (mdB M) pc = .ok (.arraylength, 1)) (ha : Λ[a]? = some (.inr (.inr qs))) (hv : Int32.ofNat qs.length = v) (k : X tw Λ M Q (pc + 1) ls (.int v :: st) μ) : X tw Λ M Q pc ls (.ref a :: st) μ := by
  intro p l e s m args below meth c H locs g A lsA C0 hP hS hl
  exact va_alen C0.1 C0.2.1 C0.2.2.2.2.2.2.2.2.2.2.2.1 hP a 1 (wO_at ha μ) rfl hv d (k p l e s m args below meth c H locs g A lsA C0 hP hS hl)
/-! Math -/
theorem lv_size {ls : Array Slot} {n : Nat} {l : List (Nat × Value)} (h : lv_has ls n l) : ls.size = n := h.1
theorem cat_map (ad : Nat → Nat) (st : List Value) : (st.map (cv ad)).map (fun v => v.category) = st.map (fun v => v.category) := by
  rw [List.map_map]
  exact List.map_congr_left fun v _ => cv_cat ad v
theorem X_mmax (pc : Nat) {index : Nat} {x y : Int32} (d : decode (mdB M) pc = .ok (.invokestatic index, 3)) (h1 : Cond.methodLink (mdO M) index Lib.Math.max.name ∈ WS) (h2 : Cond.static Lib.Math.max.name ∈ WS) (h3 : Cond.initialized "java/lang/Math" ∈ WS) (h4 : Cond.code Lib.Math.max.name Lib.Math.max.code 2 (some .int) ∈ WS) (hR : 1 ≤ (mdG M).frames ∧ (st.map fun v => v.category).sum + 13 ≤ (mdG M).locals) (k : X tw Λ M Q (pc + 3) ls (.int (if x < y then y else x) :: st) μ) : X tw Λ M Q pc ls (.int y :: .int x :: st) μ := by
  intro p l e s m args below meth c H locs g A lsA C0 hP hS hl
  exact va_mmax C0.1 C0.2.1 (by rw [C0.2.2.1, lv_size hl]) C0.2.2.2.1 (C0.2.2.2.2.1 _ h1) (C0.2.2.2.2.1 _ h2) (C0.2.2.2.2.1 _ h3) (C0.2.2.2.2.1 _ h4) hR.1 (by rw [cat_map]; exact hR.2) (Nat.zero_le _) (Nat.zero_le _) d (k p l e s m args below meth c H locs g A lsA C0 hP hS hl)
theorem X_mmin (pc : Nat) {index : Nat} {x y : Int32} (d : decode (mdB M) pc = .ok (.invokestatic index, 3)) (h1 : Cond.methodLink (mdO M) index Lib.Math.min.name ∈ WS) (h2 : Cond.static Lib.Math.min.name ∈ WS) (h3 : Cond.initialized "java/lang/Math" ∈ WS) (h4 : Cond.code Lib.Math.min.name Lib.Math.min.code 2 (some .int) ∈ WS) (hR : 1 ≤ (mdG M).frames ∧ (st.map fun v => v.category).sum + 13 ≤ (mdG M).locals) (k : X tw Λ M Q (pc + 3) ls (.int (if y < x then y else x) :: st) μ) : X tw Λ M Q pc ls (.int y :: .int x :: st) μ := by
  intro p l e s m args below meth c H locs g A lsA C0 hP hS hl
  exact va_mmin C0.1 C0.2.1 (by rw [C0.2.2.1, lv_size hl]) C0.2.2.2.1 (C0.2.2.2.2.1 _ h1) (C0.2.2.2.2.1 _ h2) (C0.2.2.2.2.1 _ h3) (C0.2.2.2.2.1 _ h4) hR.1 (by rw [cat_map]; exact hR.2) (Nat.zero_le _) (Nat.zero_le _) d (k p l e s m args below meth c H locs g A lsA C0 hP hS hl)
theorem X_mabs (pc : Nat) {index : Nat} {x : Int32} (d : decode (mdB M) pc = .ok (.invokestatic index, 3)) (h1 : Cond.methodLink (mdO M) index Lib.Math.abs.name ∈ WS) (h2 : Cond.static Lib.Math.abs.name ∈ WS) (h3 : Cond.initialized "java/lang/Math" ∈ WS) (h4 : Cond.code Lib.Math.abs.name Lib.Math.abs.code 1 (some .int) ∈ WS) (hR : 1 ≤ (mdG M).frames ∧ (st.map fun v => v.category).sum + 13 ≤ (mdG M).locals) (k : X tw Λ M Q (pc + 3) ls (.int (if 0 ≤ x then x else 0 - x) :: st) μ) : X tw Λ M Q pc ls (.int x :: st) μ := by
  intro p l e s m args below meth c H locs g A lsA C0 hP hS hl
  exact va_mabs C0.1 C0.2.1 (by rw [C0.2.2.1, lv_size hl]) C0.2.2.2.1 (C0.2.2.2.2.1 _ h1) (C0.2.2.2.2.1 _ h2) (C0.2.2.2.2.1 _ h3) (C0.2.2.2.2.1 _ h4) hR.1 (by rw [cat_map]; exact hR.2) (Nat.zero_le _) (Nat.zero_le _) d (k p l e s m args below meth c H locs g A lsA C0 hP hS hl)
/-! ends -/
theorem X_iret {v : Int32} {ty : FieldType} (pc : Nat) (d : decode (mdB M) pc = .ok (.ireturn, 1)) (hr : mdR M = some ty) (hn : narrow ty (.int v) = .int v) (hQ : Q (.inl (some (.int v))) μ) : X false Λ M Q pc ls [.int v] μ := by
  intro p l e s m args below meth c H locs g A lsA C0 hP hS hl
  have hlk : meth.locks = false := C0.2.2.2.2.2.2.1
  exact W.zret (Qc := QcN Λ g A fun r => Q (.inl r)) C0.1 C0.2.1 (C0.2.2.2.2.2.1.trans hr) hn (fun t ht _ => ⟨⟨some (.int v), μ, rfl, hQ, by rw [ht]; exact hP⟩, hS.F ht⟩) hS.2.2 d hlk
theorem X_lret {v : Int64} (pc : Nat) (d : decode (mdB M) pc = .ok (.lreturn, 1)) (hr : mdR M = some .long) (hQ : Q (.inl (some (.long v))) μ) : X false Λ M Q pc ls [.long v] μ := by
  intro p l e s m args below meth c H locs g A lsA C0 hP hS hl
  have hlk : meth.locks = false := C0.2.2.2.2.2.2.1
  exact W.lret (Qc := QcN Λ g A fun r => Q (.inl r)) C0.1 C0.2.1 (C0.2.2.2.2.2.1.trans hr) (fun t ht _ => ⟨⟨some (.long v), μ, rfl, hQ, by rw [ht]; exact hP⟩, hS.F ht⟩) hS.2.2 d hlk
theorem X_vret (pc : Nat) (d : decode (mdB M) pc = .ok (.return_, 1)) (hr : mdR M = none) (hQ : Q (.inl none) μ) : X false Λ M Q pc ls [] μ := by
  intro p l e s m args below meth c H locs g A lsA C0 hP hS hl
  have hlk : meth.locks = false := C0.2.2.2.2.2.2.1
  exact W.vret (Qc := QcN Λ g A fun r => Q (.inl r)) C0.1 C0.2.1 (C0.2.2.2.2.2.1.trans hr) (fun t ht _ => ⟨⟨none, μ, rfl, hQ, by rw [ht]; exact hP⟩, hS.F ht⟩) hS.2.2 d hlk
theorem X_aret {q : Nat} {C : String} (pc : Nat) (d : decode (mdB M) pc = .ok (.areturn, 1)) (hr : mdR M = some (.object C)) (hQ : Q (.inl (some (.ref q))) μ) : X false Λ M Q pc ls [.ref q] μ := by
  intro p l e s m args below meth c H locs g A lsA C0 hP hS hl
  have hlk : meth.locks = false := C0.2.2.2.2.2.2.1
  exact W.aret (Qc := QcN Λ g A fun r => Q (.inl r)) C0.1 C0.2.1 (C0.2.2.2.2.2.1.trans hr) (Or.inl ⟨C, rfl⟩) (Or.inr ⟨_, rfl⟩) (fun t ht _ => ⟨⟨some (.ref q), μ, rfl, hQ, by rw [ht]; exact hP⟩, hS.F ht⟩) hS.2.2 d hlk
/-! calls -/
def WMC (M2 : MD) : Prop := Cond.initialized (mdY M2).cls ∈ WS ∧ Cond.code (mdY M2) (mdB M2) (mdN M2) (mdR M2) ∈ WS ∧ ((mdY M2).cls ≠ "java/lang/invoke/MethodHandle" ∧ (mdY M2).cls ≠ "java/lang/invoke/VarHandle")
def WMV (M2 : MD) : Prop := WMC M2 ∧ Cond.instanceMethod (mdY M2) ∈ WS ∧ Cond.selects (mdY M2).cls (mdY M2) (mdY M2) ∈ WS
def WMS (M2 : MD) : Prop := WMC M2 ∧ Cond.static (mdY M2) ∈ WS
def ROK (M M2 : MD) : Prop := (mdG M2).frames + 1 ≤ (mdG M).frames ∧ 8 + (mdN M2 + 11) + (mdG M2).locals ≤ (mdG M).locals
theorem XPc {g : GG} {A : Nat → Prop} {p : Program} {l : Launch} {s : State} {m : MethodId} {args : Array Value} {meth : Method} {c : Code} {H : Heap} {locs : List Loc} (C0 : CX tw Λ M g A p l s m args meth c) (hP : va_P g.2.1 vwCl (wO g Λ μ) H) (hS : va_S A s.heap H locs) (av : List Value) :
    ∀ U : State, U.heap = H → s.WarmedH U.vm → PcN Λ g H.size av μ (av.map (cv g.1)).toArray U := by
  intro U hU hW
  have hD : AD g Λ A := C0.2.2.2.2.2.2.2.2.2.1
  refine ⟨rfl, by rw [hU], by rw [hU]; exact hP, AD_self hD _, ?_⟩
  rw [hU]
  exact SF.step C0.2.2.2.2.2.2.2.2.2.2.2 hW hS.2.1 (AA_in hD C0.2.2.2.2.2.2.2.2.2.2.1 hS.1)
/-- behind a call that returns -/
theorem X_after {g : GG} {A : Nat → Prop} {p : Program} {l : Launch} {e : Env} {s : State} {m : MethodId} {args a2 : Array Value} {below : List Frame} {meth : Method} {c : Code} {H : Heap} {locs : List Loc} {lsA : Array Slot} {st0 rest : List Value} {P : Option Value → Mm → Prop} (C0 : CX tw Λ M g A p l s m args meth c) (hS : va_S A s.heap H locs) (hl : lv_has lsA (mdN M) (lm g.1 ls))
    (run : va_Run p l e (mdG M) s m args below meth c H locs 0 0 0 0 (F0 m pc lsA st0) (rest.map (cv g.1)) (QcN Λ g (AA g Λ H.size) P a2) (AA g Λ H.size))
    (k : ∀ r μ', P r μ' → X tw Λ M Q (pc + 3) ls (r.toList ++ rest) μ') : W p l e (mdG M) s m args below meth c H locs 0 0 (ZZ tw Λ g A Q below args s) (F0 m pc lsA st0) := by
  intro T hT X0
  obtain ⟨v, st₀, t, T', L, h0, X', hL, e1, e2, ⟨⟨r, μ', hv, hp, hw⟩, hF⟩, stp⟩ := run T hT X0
  have hA := AA_in C0.2.2.2.2.2.2.2.2.2.1 C0.2.2.2.2.2.2.2.2.2.2.1 hS.1
  obtain ⟨-, -, hS1⟩ := vx_keep h0 e1 hS (fun q _ h => hA q h) hA hL hF
  have hvr : v = r.map (cv g.1) := by cases hv; rfl
  have hk := k r μ' hp p l e s m args below meth c T'.heap (locs ++ L) g A lsA C0 (by rw [e1]; exact hw) hS1 hl
  have hm : (r.toList ++ rest).map (cv g.1) = (r.map (cv g.1)).toList ++ rest.map (cv g.1) := by cases r <;> rfl
  rw [hm] at hk
  subst hvr
  obtain ⟨t2, a1, b1⟩ := hk T' rfl X'
  exact ⟨t2, stp t2 a1, b1⟩
theorem X_callV {M2 : MD} {q ci index : Nat} {fs : List FE} {C : String} {T : u_T} {N : Nat} {rest : List Value} {P : Option Value → Mm → Prop} (pc : Nat) (As : List Value) (hE : EvN Λ M2 (.ref q :: As) μ P) (d : decode (mdB M) pc = .ok (.invokevirtual index, 3)) (hL : LKM (mdO M) index (mdY M2)) (hm : WMV M2) (hn : (parseMethodDescriptor (mdY M2).desc).map (fun d => d.parameters.length) = some As.length) (hR : ROK M M2) (h0 : (mdG M2).cells = 0 ∧ (mdG M2).slots = 0) (hq : Λ[q]? = some (.inl (ci, fs))) (hc : vwCl[ci]? = some (C, T, N)) (hyc : (mdY M2).cls = C) (hst : st = As.reverse ++ .ref q :: rest) (hcat : (rest.map fun v => v.category).sum ≤ 8)
    (k : ∀ r μ', P r μ' → X tw Λ M Q (pc + 3) ls (r.toList ++ rest) μ') : X tw Λ M Q pc ls st μ := by
  subst hst
  intro p l e s m args below meth c H locs g A lsA C0 hP hS hl
  have hts := C0.2.2.2.2.1
  have hown := C0.2.2.2.1
  have hK := C0.2.2.2.2.2.2.2.2.2.2.2.1
  have hsz : lsA.size = mdN M := lv_size hl
  have hpre : PreV s H C (g.1 q) (PcN Λ g H.size (.ref q :: As) μ) (As.map (cv g.1)) := ⟨PcN_blind, va_recv hK hP hc (wO_at hq μ), XPc C0 hP hS (.ref q :: As)⟩
  have hcat2 : 2 * (F0 m pc lsA ((As.reverse ++ .ref q :: rest).map (cv g.1))).monitorRoom + ((rest.map (cv g.1)).map fun v => v.category).sum ≤ 8 := by
    rw [cat_map]; exact lv_room hcat
  have hstk : (As.reverse ++ .ref q :: rest).map (cv g.1) = (As.map (cv g.1)).reverse ++ .ref (g.1 q) :: rest.map (cv g.1) := by
    rw [List.map_append, List.map_reverse]; rfl
  subst hyc
  refine X_after (a2 := (Value.ref (g.1 q) :: As.map (cv g.1)).toArray) C0 hS hl (rest := rest) (P := P) ?_ k
  rcases hL with hL | ⟨host, hL⟩
  · exact va_runV (As := As.map (cv g.1)) ⟨C0.1, C0.2.1, C0.2.2.1, hown, hts⟩ (hE l g H.size C0.2.2.2.2.2.2.2.2.1) ⟨callB_of As.length hts (good_wsM hm.1.2.1) rfl h0.1 h0.2 (hts _ hm.1.1) (hts _ hL) ⟨hm.1.2.2.1, hm.1.2.2.2, hn⟩ hR, hts _ hm.2.1, hts _ hm.2.2⟩ hpre rfl (by simp) hsz hstk hcat2 d ⟨Nat.zero_le _, Nat.zero_le _⟩
  · exact va_runVN (As := As.map (cv g.1)) ⟨C0.1, C0.2.1, C0.2.2.1, hown, hts⟩ (hE l g H.size C0.2.2.2.2.2.2.2.2.1) ⟨va_cnB As.length hts (good_wsM hm.1.2.1) rfl h0.1 h0.2 (C0.2.2.2.2.2.2.2.2.2.2.2.2.2.1 _ hL) (hts _ hm.1.1) ⟨hm.1.2.2.1, hm.1.2.2.2, hn⟩ hR, hts _ hm.2.1, hts _ hm.2.2⟩ hpre rfl (by simp) hsz hstk hcat2 d ⟨Nat.zero_le _, Nat.zero_le _⟩
theorem X_callS {M2 : MD} {index : Nat} {rest : List Value} {P : Option Value → Mm → Prop} (pc : Nat) (As : List Value) (hE : EvN Λ M2 As μ P) (d : decode (mdB M) pc = .ok (.invokestatic index, 3)) (hL : LKM (mdO M) index (mdY M2)) (hm : WMS M2) (hn : (parseMethodDescriptor (mdY M2).desc).map (fun d => d.parameters.length) = some As.length) (hR : ROK M M2) (h0 : (mdG M2).cells = 0 ∧ (mdG M2).slots = 0) (hst : st = As.reverse ++ rest) (hcat : (rest.map fun v => v.category).sum ≤ 8)
    (k : ∀ r μ', P r μ' → X tw Λ M Q (pc + 3) ls (r.toList ++ rest) μ') : X tw Λ M Q pc ls st μ := by
  subst hst
  intro p l e s m args below meth c H locs g A lsA C0 hP hS hl
  have hts := C0.2.2.2.2.1
  have hown := C0.2.2.2.1
  have hsz : lsA.size = mdN M := lv_size hl
  have hpre : PreS s H (PcN Λ g H.size As μ) (As.map (cv g.1)) := ⟨PcN_blind, XPc C0 hP hS As⟩
  have hcat2 : 2 * (F0 m pc lsA ((As.reverse ++ rest).map (cv g.1))).monitorRoom + ((rest.map (cv g.1)).map fun v => v.category).sum ≤ 8 := by
    rw [cat_map]; exact lv_room hcat
  have hstk : (As.reverse ++ rest).map (cv g.1) = (As.map (cv g.1)).reverse ++ rest.map (cv g.1) := by
    rw [List.map_append, List.map_reverse]
  refine X_after (a2 := (As.map (cv g.1)).toArray) C0 hS hl (rest := rest) (P := P) ?_ k
  rcases hL with hL | ⟨host, hL⟩
  · exact va_runS (As := As.map (cv g.1)) ⟨C0.1, C0.2.1, C0.2.2.1, hown, hts⟩ (hE l g H.size C0.2.2.2.2.2.2.2.2.1) ⟨callB_of As.length hts (good_wsM hm.1.2.1) rfl h0.1 h0.2 (hts _ hm.1.1) (hts _ hL) ⟨hm.1.2.2.1, hm.1.2.2.2, hn⟩ hR, hts _ hm.2⟩ hpre rfl (by simp) hsz hstk hcat2 d ⟨Nat.zero_le _, Nat.zero_le _⟩
  · exact va_runSN (As := As.map (cv g.1)) ⟨C0.1, C0.2.1, C0.2.2.1, hown, hts⟩ (hE l g H.size C0.2.2.2.2.2.2.2.2.1) ⟨va_cnB As.length hts (good_wsM hm.1.2.1) rfl h0.1 h0.2 (C0.2.2.2.2.2.2.2.2.2.2.2.2.2.1 _ hL) (hts _ hm.1.1) ⟨hm.1.2.2.1, hm.1.2.2.2, hn⟩ hR, hts _ hm.2, trivial⟩ hpre rfl (by simp) hsz hstk hcat2 d ⟨Nat.zero_le _, Nat.zero_le _⟩
/-- a static callee of the same class that throws: it goes on to the caller -/
theorem X_callX {M2 : MD} {index : Nat} {rest : List Value} {P : String → Mm → Prop} (pc : Nat) (As : List Value) (hE : EvX Λ M2 As μ P) (d : decode (mdB M) pc = .ok (.invokestatic index, 3)) (hL : Cond.methodLink (mdO M) index (mdY M2) ∈ WS) (hm : WMS M2) (hn : (parseMethodDescriptor (mdY M2).desc).map (fun d => d.parameters.length) = some As.length) (hR : ROK M M2) (h0 : (mdG M2).cells = 1 ∧ (mdG M2).slots = 6) (h1 : 1 ≤ (mdG M).cells ∧ 6 ≤ (mdG M).slots) (hst : st = As.reverse ++ rest) (hcat : (rest.map fun v => v.category).sum ≤ 8)
    (k : ∀ E μ', P E μ' → Q (.inr E) μ') : X true Λ M Q pc ls st μ := by
  subst hst
  intro p l e s m args below meth c H locs g A lsA C0 hP hS hl
  have hts := C0.2.2.2.2.1
  have hown := C0.2.2.2.1
  have hsz : lsA.size = mdN M := lv_size hl
  have hpre : PreS s H (PcN Λ g H.size As μ) (As.map (cv g.1)) := ⟨PcN_blind, XPc C0 hP hS As⟩
  have hcat2 : 2 * (F0 m pc lsA ((As.reverse ++ rest).map (cv g.1))).monitorRoom + ((rest.map (cv g.1)).map fun v => v.category).sum ≤ 8 := by
    rw [cat_map]; exact lv_room hcat
  have hstk : (As.reverse ++ rest).map (cv g.1) = (As.map (cv g.1)).reverse ++ rest.map (cv g.1) := by
    rw [List.map_append, List.map_reverse]
  have run := vx_runS (As := As.map (cv g.1)) (rest := rest.map (cv g.1)) (below := below) (e := e) (meth := meth) (locs := locs) (cells := 0) (slots := 0) (R := mdG M) ⟨C0.1, C0.2.1, C0.2.2.1, hown, hts⟩ (hE l g H.size C0.2.2.2.2.2.2.2.2.1) ⟨callB_of As.length hts (good_wsM hm.1.2.1) rfl h0.1 h0.2 (hts _ hm.1.1) (hts _ hL) ⟨hm.1.2.2.1, hm.1.2.2.2, hn⟩ hR, hts _ hm.2⟩ hpre (g := F0 m pc lsA ((As.reverse ++ rest).map (cv g.1))) rfl (by simp) hsz hstk hcat2 d ⟨by omega, by omega⟩
  have hA := AA_in C0.2.2.2.2.2.2.2.2.2.1 C0.2.2.2.2.2.2.2.2.2.2.1 hS.1
  intro T hT X0
  rcases run T hT X0 with ⟨v, st₀, t, T', L, h0, X', hL, e1, e2, hF, -⟩ | ⟨q, st₀, t, T', L, E, ce, h0, X', hL, e1, e2, ⟨⟨μ', hp, hw⟩, hF⟩, hce, hcv, hcl, stp⟩
  · exact hF.elim
  · obtain ⟨-, -, hS1⟩ := vx_keep h0 e1 hS (fun q _ h => hA q h) hA hL hF
    have ho := vx_out (p := p) (l := l) (e := e) (R := mdG M) (below := below) (Qc := fun _ _ _ _ => False) (XC := XcN Λ g A fun E => Q (.inr E)) (pc := pc) (ls := lsA) (rest := rest.map (cv g.1)) (H := T'.heap) (locs := locs ++ L) (cells := 0 + 1) (slots := 0 + 6) (mc := 1) (ms := 6) (free := A) (q := q) (E := E) (ce := ce) (s := s) (m := m) (args := args) (meth := meth) (c := c)
      (fun x hx => ((C0.2.2.2.2.2.2.2.1 rfl) x hx).elim) C0.2.2.2.2.2.2.1 (by rw [e1]; exact hce) hcv hcl (fun t2 ht2 _ => ⟨⟨μ', k E μ' hp, by rw [ht2, e1]; exact hw⟩, hS1.F ht2⟩) hS1.2.2 (Nat.le_refl _) (Nat.le_refl _)
    obtain ⟨t2, a1, b1⟩ := ho T' rfl X'
    exact ⟨t2, stp.trans a1, b1⟩
end XR
