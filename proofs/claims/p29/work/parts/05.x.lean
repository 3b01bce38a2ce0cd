def NWF : List (String × Nat × String × String × String × String) := [("LampMural$Survey", 57, "LampMural$Scene", "columns", "I", "LampMural"), ("LampMural$Dimmer", 53, "LampMural$Scene", "columns", "I", "LampMural"), ("LampMural", 189, "LampMural$Scene", "columns", "I", "LampMural"), ("LampMural$Survey", 54, "LampMural$Scene", "rows", "I", "LampMural"), ("LampMural$Dimmer", 50, "LampMural$Scene", "rows", "I", "LampMural"), ("LampMural", 186, "LampMural$Scene", "rows", "I", "LampMural"), ("LampMural$Survey", 60, "LampMural$Scene", "shiftX", "I", "LampMural"), ("LampMural", 163, "LampMural$Scene", "shiftX", "I", "LampMural"), ("LampMural$Survey", 67, "LampMural$Scene", "shiftY", "I", "LampMural"), ("LampMural", 170, "LampMural$Scene", "shiftY", "I", "LampMural"), ("LampMural", 312, "LampMural$Scene", "hours", "I", "LampMural"), ("LampMural", 198, "LampMural$Scene", "lampCount", "I", "LampMural"), ("LampMural$Survey", 36, "LampMural$Scene", "changed", "Z", "LampMural"), ("LampMural", 267, "LampMural$Scene", "greatest", "LLampMural$Row;", "LampMural"), ("LampMural", 276, "LampMural$Scene", "least", "LLampMural$Row;", "LampMural"), ("LampMural", 279, "LampMural$Scene", "wear", "LLampMural$Row;", "LampMural"), ("LampMural$Survey", 92, "LampMural$Dimmer", "lights", "LLampMural$Row;", "LampMural"), ("LampMural$Survey", 81, "LampMural$Dimmer", "covering", "I", "LampMural"), ("LampMural$Survey", 87, "LampMural$Dimmer", "brightness", "I", "LampMural"), ("LampMural$Survey", 89, "LampMural$Dimmer", "state", "I", "LampMural"), ("LampMural", 241, "LampMural$History", "count", "I", "LampMural"), ("LampMural", 219, "LampMural$CommandText", "length", "I", "LampMural"), ("LampMural", 330, "LampMural$CommandText", "word", "I", "LampMural")]
def NWM : List (String × Nat × MethodName × String) := [("LampMural", 11, ⟨"LampMural$Scene", "<init>", "()V"⟩, "LampMural"), ("LampMural", 18, ⟨"LampMural$Survey", "<init>", "()V"⟩, "LampMural"), ("LampMural$Survey", 11, ⟨"LampMural$Dimmer", "<init>", "()V"⟩, "LampMural"), ("LampMural", 25, ⟨"LampMural$Dimmer", "<init>", "()V"⟩, "LampMural"), ("LampMural$History", 17, ⟨"LampMural$Scene", "<init>", "()V"⟩, "LampMural"), ("LampMural", 39, ⟨"LampMural$CommandText", "<init>", "()V"⟩, "LampMural"), ("LampMural$Scene", 102, ⟨"LampMural", "cross", "(IIII)I"⟩, "LampMural"), ("LampMural$Survey", 63, ⟨"LampMural", "pointOf", "(II)I"⟩, "LampMural"), ("LampMural$Dimmer", 76, ⟨"LampMural", "isIn", "(II)Z"⟩, "LampMural"), ("LampMural$Survey", 96, ⟨"LampMural", "isIn", "(II)Z"⟩, "LampMural"), ("LampMural$Scene", 95, ⟨"LampMural", "isIn", "(II)Z"⟩, "LampMural"), ("LampMural$Dimmer", 63, ⟨"LampMural", "pointOf", "(II)I"⟩, "LampMural"), ("LampMural$CommandText", 70, ⟨"LampMural", "within", "(III)Z"⟩, "LampMural")]
def STR : List (String × Nat × String × Nat) := [("LampMural$CommandText", 81, "wall", 0), ("LampMural$CommandText", 87, "paint", 1), ("LampMural$CommandText", 89, "lamp", 2), ("LampMural$CommandText", 91, "corner", 3), ("LampMural$CommandText", 93, "shift", 4), ("LampMural$CommandText", 95, "fail", 5), ("LampMural$CommandText", 97, "mend", 6), ("LampMural$CommandText", 99, "burn", 7), ("LampMural", 348, "an argument is out of range", 8), ("LampMural", 341, "there is no such lamp, corner or place", 9), ("LampMural", 353, "there is no room for more, or nothing to undo", 10)]
def nST : Nat := 11
def lnST : List Nat := [4, 5, 4, 6, 5, 4, 4, 4, 27, 38, 45]
def byST : List (List Int32) := [[119, 97, 108, 108], [112, 97, 105, 110, 116], [108, 97, 109, 112], [99, 111, 114, 110, 101, 114], [115, 104, 105, 102, 116], [102, 97, 105, 108], [109, 101, 110, 100], [98, 117, 114, 110], [97, 110, 32, 97, 114, 103, 117, 109, 101, 110, 116, 32, 105, 115, 32, 111, 117, 116, 32, 111, 102, 32, 114, 97, 110, 103, 101], [116, 104, 101, 114, 101, 32, 105, 115, 32, 110, 111, 32, 115, 117, 99, 104, 32, 108, 97, 109, 112, 44, 32, 99, 111, 114, 110, 101, 114, 32, 111, 114, 32, 112, 108, 97, 99, 101], [116, 104, 101, 114, 101, 32, 105, 115, 32, 110, 111, 32, 114, 111, 111, 109, 32, 102, 111, 114, 32, 109, 111, 114, 101, 44, 32, 111, 114, 32, 110, 111, 116, 104, 105, 110, 103, 32, 116, 111, 32, 117, 110, 100, 111]]
def DCL : List MethodName := [⟨"java/lang/RuntimeException", "<init>", "()V"⟩, ⟨"java/lang/RuntimeException", "<init>", "(Ljava/lang/String;)V"⟩, ⟨"java/lang/Exception", "<init>", "()V"⟩, ⟨"java/lang/Exception", "<init>", "(Ljava/lang/String;)V"⟩, ⟨"java/lang/Throwable", "<init>", "()V"⟩, ⟨"java/lang/Throwable", "<init>", "(Ljava/lang/String;)V"⟩]
def EXC : List String := ["java/lang/IllegalArgumentException", "java/lang/IllegalStateException", "java/lang/IndexOutOfBoundsException"]
/-! words, method data -/
def WS : List Cond := lw_tbl.filter goodWord
theorem mW {w : Cond} (i : Nat) (h : lw_tbl[i]? = some w) (g : goodWord w = true) : w ∈ WS := List.mem_filter.mpr ⟨List.mem_of_getElem? h, g⟩
theorem goodWS {w : Cond} (h : w ∈ WS) : (w.onTables && w.keeps) = true ∨ ∃ ty, w = .arrayClass ty := good_of_word (List.mem_filter.mp h).2
abbrev MD : Type := String × MethodName × ByteArray × Nat × Option FieldType × Room
abbrev mdO (M : MD) : String := M.1
abbrev mdY (M : MD) : MethodName := M.2.1
abbrev mdB (M : MD) : ByteArray := M.2.2.1
abbrev mdN (M : MD) : Nat := M.2.2.2.1
abbrev mdR (M : MD) : Option FieldType := M.2.2.2.2.1
abbrev mdG (M : MD) : Room := M.2.2.2.2.2
def wsM (M : MD) : List Cond := Cond.code (mdY M) (mdB M) (mdN M) (mdR M) :: WS
theorem good_wsM {M : MD} (h : Cond.code (mdY M) (mdB M) (mdN M) (mdR M) ∈ WS) : GoodIn WS (wsM M) := by
  intro w hw
  rcases List.mem_cons.mp hw with rfl | hw
  · exact ⟨h, goodWS h⟩
  · exact ⟨hw, goodWS hw⟩
/-! memory, layout, world -/
abbrev Mm : Type := Nat → Nat → Int32
abbrev FE : Type := Nat ⊕ Nat
abbrev LE : Type := (Nat × List FE) ⊕ (Nat ⊕ List Nat)
abbrev GG : Type := (Nat → Nat) × va_G × ClassId × ClassId × (Nat → Nat)
def jL (hi lo : Int32) : Int64 := Int64.ofInt (hi.toInt * 4294967296 + lo.toInt % 4294967296)
def hiL (v : Int64) : Int32 := Int32.ofInt (v.toInt / 4294967296)
def loL (v : Int64) : Int32 := Int32.ofInt v.toInt
theorem jL_hl (v : Int64) : jL (hiL v) (loL v) = v := by
  have h1 := v.le_toInt
  have h2 := v.toInt_lt
  have e1 : (hiL v).toInt = v.toInt / 4294967296 := Int32.toInt_ofInt_of_le (by omega) (by omega)
  have e2 : (loL v).toInt % 4294967296 = v.toInt % 4294967296 := by
    unfold loL
    rw [Int32.toInt_ofInt]
    exact Int.bmod_emod
  unfold jL
  rw [e1, e2]
  apply Int64.toInt_inj.mp
  rw [Int64.toInt_ofInt_of_le (by omega) (by omega)]
  omega
def uM (μ : Mm) (k j : Nat) (x : Int32) : Mm := fun a b => if a = k ∧ b = j then x else μ a b
theorem uM_s (μ : Mm) (k j : Nat) (x : Int32) : uM μ k j x k j = x := by simp [uM]
theorem uM_n {μ : Mm} {k j a b : Nat} {x : Int32} (h : ¬ (a = k ∧ b = j)) : uM μ k j x a b = μ a b := by simp [uM, h]
def uL (μ : Mm) (k j : Nat) (v : Int64) : Mm := uM (uM μ k j (hiL v)) k (j + 1000) (loL v)
def fv (ad : Nat → Nat) (μ : Mm) (k f : Nat) (e : FE) : Value := match e with
  | .inl 0 => .int (μ k f)
  | .inl (_ + 1) => .long (jL (μ k f) (μ k (f + 1000)))
  | .inr q => .ref (ad q)
def ce (g : GG) (μ : Mm) (k : Nat) (e : LE) : va_E := match e with
  | .inl o => .inr (o.1, o.2.mapIdx (fun f e => fv g.1 μ k f e))
  | .inr (.inl n) => .inl (g.2.2.1, n, .inl (μ k))
  | .inr (.inr qs) => .inl (g.2.2.2.1, qs.length, .inr (.inr (.inr (.inr (fun j => (qs[j]?).map g.1)))))
def wO (g : GG) (Λ : List LE) (μ : Mm) : va_W := Λ.mapIdx (fun k e => (g.1 k, ce g μ k e))
theorem wO_at {g : GG} {Λ : List LE} {k : Nat} {e : LE} (h : Λ[k]? = some e) (μ : Mm) : (wO g Λ μ)[k]? = some (g.1 k, ce g μ k e) := by simp [wO, h]
theorem fv_ne {ad : Nat → Nat} {μ : Mm} {k f a j : Nat} {x : Int32} (e : FE) (h : ¬ (a = k ∧ (f = j ∨ f + 1000 = j))) : fv ad (uM μ k j x) a f e = fv ad μ a f e := by
  rcases e with (_ | n) | q
  · show Value.int _ = Value.int _
    rw [uM_n (by omega)]
  · show Value.long _ = Value.long _
    rw [uM_n (by omega), uM_n (by omega)]
  · rfl
theorem ce_ne {g : GG} {μ : Mm} {k a j : Nat} {x : Int32} (e : LE) (h : a ≠ k) : ce g (uM μ k j x) a e = ce g μ a e := by
  rcases e with o | n | qs
  · show Sum.inr _ = Sum.inr _
    congr 1
    congr 1
    apply List.ext_getElem?
    intro i
    simp only [List.getElem?_mapIdx]
    cases o.2[i]? with
    | none => rfl
    | some e => simp only [Option.map_some]; rw [fv_ne e (by omega)]
  · show Sum.inl _ = Sum.inl _
    have : uM μ k j x a = μ a := funext fun b => uM_n (by omega)
    rw [this]
  · rfl
theorem wO_set {g : GG} {Λ : List LE} {μ : Mm} {k j : Nat} {x : Int32} {e : LE} {v : va_E} (h : Λ[k]? = some e) (hv : v = ce g (uM μ k j x) k e) : (wO g Λ μ).set k (g.1 k, v) = wO g Λ (uM μ k j x) := by
  subst hv
  apply List.ext_getElem?
  intro i
  rw [List.getElem?_set]
  by_cases hi : k = i
  · subst hi
    have hl : k < (wO g Λ μ).length := by
      obtain ⟨hk, -⟩ := List.getElem?_eq_some_iff.mp h
      simp [wO, hk]
    rw [if_pos rfl, if_pos hl, wO_at h]
  · rw [if_neg hi]
    simp only [wO, List.getElem?_mapIdx]
    cases Λ[i]? with
    | none => rfl
    | some e' => simp only [Option.map_some]; rw [ce_ne e' (fun q => hi q.symm)]
theorem ce_setI {g : GG} {μ : Mm} {k f ci : Nat} {x : Int32} {fs : List FE} (hf : fs[f]? = some (.inl 0)) (hl : f < 1000) : (.inr (ci, (fs.mapIdx (fun f e => fv g.1 μ k f e)).set f (.int x)) : va_E) = ce g (uM μ k f x) k (.inl (ci, fs)) := by
  show Sum.inr _ = Sum.inr _
  congr 1
  congr 1
  apply List.ext_getElem?
  intro i
  rw [List.getElem?_set]
  obtain ⟨hlt, hfe⟩ := List.getElem?_eq_some_iff.mp hf
  by_cases hi : f = i
  · subst hi
    rw [if_pos rfl, if_pos (by simpa using hlt)]
    simp only [List.getElem?_mapIdx, hf, Option.map_some, fv, uM_s]
  · rw [if_neg hi]
    simp only [List.getElem?_mapIdx]
    cases fs[i]? with
    | none => rfl
    | some e => simp only [Option.map_some]; rw [fv_ne e (by omega)]
theorem ce_setL {g : GG} {μ : Mm} {k f ci m : Nat} {v : Int64} {fs : List FE} (hf : fs[f]? = some (.inl (m + 1))) (hl : fs.length < 1000) : (.inr (ci, (fs.mapIdx (fun f e => fv g.1 μ k f e)).set f (.long v)) : va_E) = ce g (uL μ k f v) k (.inl (ci, fs)) := by
  show Sum.inr _ = Sum.inr _
  congr 1
  congr 1
  apply List.ext_getElem?
  intro i
  rw [List.getElem?_set]
  obtain ⟨hlt, hfe⟩ := List.getElem?_eq_some_iff.mp hf
  by_cases hi : f = i
  · subst hi
    rw [if_pos rfl, if_pos (by simpa using hlt)]
    simp only [List.getElem?_mapIdx, hf, Option.map_some, fv]
    unfold uL
    rw [uM_s, uM_n (by omega), uM_s, jL_hl]
  · rw [if_neg hi]
    simp only [List.getElem?_mapIdx]
    cases hfi : fs[i]? with
    | none => rfl
    | some e =>
      obtain ⟨hli, -⟩ := List.getElem?_eq_some_iff.mp hfi
      simp only [Option.map_some]
      unfold uL
      rw [fv_ne e (by omega), fv_ne e (by omega)]
theorem wO_setL {g : GG} {Λ : List LE} {μ : Mm} {k f ci m : Nat} {v : Int64} {fs : List FE} (h : Λ[k]? = some (.inl (ci, fs))) (hf : fs[f]? = some (.inl (m + 1))) (hl : fs.length < 1000) : (wO g Λ μ).set k (g.1 k, .inr (ci, (fs.mapIdx (fun f e => fv g.1 μ k f e)).set f (.long v))) = wO g Λ (uL μ k f v) := by
  rw [ce_setL hf hl]
  have h1 := wO_set (g := g) (μ := uM μ k f (hiL v)) (j := f + 1000) (x := loL v) h rfl
  have h2 := wO_set (g := g) (μ := μ) (j := f) (x := hiL v) h rfl
  rw [← h2, List.set_set] at h1
  exact h1
def AD (g : GG) (Λ : List LE) (A : Nat → Prop) : Prop := (∀ i j : Nat, i < Λ.length → j < Λ.length → g.1 i = g.1 j → i = j) ∧ ∀ i : Nat, i < Λ.length → A (g.1 i)
theorem wO_len {g : GG} {Λ : List LE} {μ : Mm} : (wO g Λ μ).length = Λ.length := by simp [wO]
theorem wO_fst {g : GG} {Λ : List LE} {μ : Mm} {k : Nat} {q : Nat × va_E} (h : (wO g Λ μ)[k]? = some q) : k < Λ.length ∧ q.1 = g.1 k := by
  obtain ⟨hk, -⟩ := List.getElem?_eq_some_iff.mp h
  rw [wO_len] at hk
  refine ⟨hk, ?_⟩
  rw [wO_at (List.getElem?_eq_getElem hk)] at h
  cases h
  rfl
theorem AD_D {g : GG} {Λ : List LE} {A : Nat → Prop} (h : AD g Λ A) (μ : Mm) : va_D A (wO g Λ μ) := by
  refine ⟨fun i j p q hp hq hpq => ?_, fun k q hq => ?_⟩
  · obtain ⟨a1, a2⟩ := wO_fst hp
    obtain ⟨b1, b2⟩ := wO_fst hq
    exact h.1 i j a1 b1 (by rw [← a2, ← b2]; exact hpq)
  · obtain ⟨a1, a2⟩ := wO_fst hq
    rw [a2]; exact h.2 k a1
theorem AD_of {g : GG} {Λ : List LE} {A : Nat → Prop} {μ : Mm} (h : va_D A (wO g Λ μ)) : AD g Λ A := by
  refine ⟨fun i j hi hj hij => ?_, fun i hi => ?_⟩
  · exact h.1 i j _ _ (wO_at (List.getElem?_eq_getElem hi) μ) (wO_at (List.getElem?_eq_getElem hj) μ) hij
  · exact h.2 i _ (wO_at (List.getElem?_eq_getElem hi) μ)
/-- the cells that a method of this world may touch -/
def AA (g : GG) (Λ : List LE) (sz : Nat) : Nat → Prop := fun q => (∃ i : Nat, i < Λ.length ∧ q = g.1 i) ∨ sz ≤ q
theorem AD_self {g : GG} {Λ : List LE} {A : Nat → Prop} (h : AD g Λ A) (sz : Nat) : AD g Λ (AA g Λ sz) := ⟨h.1, fun i hi => Or.inl ⟨i, hi, rfl⟩⟩
theorem AA_in {g : GG} {Λ : List LE} {A : Nat → Prop} {sz sz2 : Nat} (h : AD g Λ A) (hA : ∀ q, sz ≤ q → A q) (hz : sz ≤ sz2) : ∀ q, AA g Λ sz2 q → A q := by
  rintro q (⟨i, hi, rfl⟩ | hq)
  · exact h.2 i hi
  · exact hA q (Nat.le_trans hz hq)
/-! facts about the machine's state that last -/
def sfS : String := "Ljava/util/function/BiFunction;"
def SF (g : GG) (A : Nat → Prop) (U : State) (H : Heap) : Prop :=
  va_K g.2.1 vwCl [(g.2.2.1, .int), (g.2.2.2.1, .object "LampMural$Scene")] U ∧
  (∀ q ∈ NWF, va_Nw (.fieldLinkNest q.1 q.2.1 q.2.2.1 q.2.2.2.1 q.2.2.2.2.1 q.2.2.2.2.2) U) ∧
  (∀ q ∈ NWM, va_Nw (.methodLinkNest q.1 q.2.1 q.2.2.1 q.2.2.2) U) ∧
  (∀ q ∈ STR, vk_R q.1 q.2.1 q.2.2.1 (g.1 (1000 + q.2.2.2)) U) ∧
  ((∀ E ∈ EXC, va_Nw (.castable E E) U) ∧ (∀ x ∈ DCL, va_Nw (.declares x) U)) ∧
  vk_S nST lnST byST (fun i => g.1 (1000 + i)) (fun i => g.1 (2000 + i)) A U H ∧
  vx_Zq Bundle.tN "UNASSIGNED_STACK" Bundle.steD A U H ∧ vx_Zq Bundle.tN "SUPPRESSED_SENTINEL" Bundle.listD A U H ∧
  va_Z "java/lang/String" "COMPACT_STRINGS" "Z" (.int 1) A U H ∧ (va_Z "jdk/internal/util/Preconditions" "SIOOBE_FORMATTER" sfS .null A U H ∨ va_Z "jdk/internal/util/Preconditions" "SIOOBE_FORMATTER" sfS (.ref (g.1 3000)) A U H)
theorem SF.step {g : GG} {A B : Nat → Prop} {s U : State} {H0 H : Heap} (h : SF g A s H0) (hW : s.WarmedH U.vm) (hk : ∀ a : Nat, a < H0.size → ¬ A a → H[a]? = H0[a]?) (hB : ∀ q, B q → A q) : SF g B U H := by
  obtain ⟨h1, h2, h3, h4, h5, h6, h7, h8, h9, h10⟩ := h
  have hv : s.vm.Alike U.vm := hW.alike
  exact ⟨h1.moved hv, fun q hq => va_Nw.warmF hW (h2 q hq), fun q hq => va_Nw.warmM hW (h3 q hq), fun q hq => vk_R.warm hW (h4 q hq), ⟨fun E hE => va_Nw.warmC hW (h5.1 E hE), fun x hx => va_Nw.warmD hW (h5.2 x hx)⟩,
    (vk_S.moved hv (h6.kept hk)).narrow hB, (vx_Zq.moved hv (h7.kept hk)).narrow hB, (vx_Zq.moved hv (h8.kept hk)).narrow hB, (va_Z.moved hv (h9.kept hk)).narrow hB, h10.imp (fun h10 => (va_Z.moved hv (h10.kept hk)).narrow hB) (fun h10 => (va_Z.moved hv (h10.kept hk)).narrow hB)⟩
theorem SF.same {g : GG} {A : Nat → Prop} {s U : State} {H : Heap} (h : SF g A s H) (hv : s.vm = U.vm) : SF g A U H :=
  h.step (by rw [← hv]; exact State.WarmedH.refl s) (fun _ _ _ => rfl) (fun _ h => h)
/-! values, results, contracts -/
def cv (ad : Nat → Nat) (v : Value) : Value := match v with
  | .ref q => .ref (ad q)
  | v => v
theorem cv_cat (ad : Nat → Nat) (v : Value) : (cv ad v).category = v.category := by cases v <;> rfl
abbrev lm (ad : Nat → Nat) (ls : List (Nat × Value)) : List (Nat × Value) := ls.map (fun q => (q.1, cv ad q.2))
abbrev Rs : Type := Option Value ⊕ String
def QcN (Λ : List LE) (g : GG) (A : Nat → Prop) (P : Option Value → Mm → Prop) : Array Value → State → Outcome → State → Prop := fun _ st o t =>
  (∃ (r : Option Value) (μ' : Mm), o = .returned (r.map (cv g.1)) ∧ P r μ' ∧ va_P g.2.1 vwCl (wO g Λ μ') t.heap) ∧ va_F A st t
def XcN (Λ : List LE) (g : GG) (A : Nat → Prop) (P : String → Mm → Prop) : String → State → State → Prop := fun E st t =>
  (∃ μ' : Mm, P E μ' ∧ va_P g.2.1 vwCl (wO g Λ μ') t.heap) ∧ va_F A st t
def PcN (Λ : List LE) (g : GG) (sz : Nat) (av : List Value) (μ : Mm) : Array Value → State → Prop :=
  va_Pc (av.map (cv g.1)) (fun U => U.heap.size = sz ∧ va_P g.2.1 vwCl (wO g Λ μ) U.heap ∧ AD g Λ (AA g Λ sz) ∧ SF g (AA g Λ sz) U U.heap)
theorem PcN_blind {Λ : List LE} {g : GG} {sz : Nat} {av : List Value} {μ : Mm} : FrameBlind (PcN Λ g sz av μ) := by
  intro a U gf mk h
  obtain ⟨h0, h1, h2, h3, h4⟩ := h
  exact ⟨h0, h1, h2, h3, SF.same (U := U.calling gf mk a) h4 rfl⟩
/-- the method M on the world μ, called with av, returns so that P -/
def EvN (Λ : List LE) (M : MD) (av : List Value) (μ : Mm) (P : Option Value → Mm → Prop) : Prop := ∀ (l : Launch) (g : GG) (sz : Nat), l.stackTraces = false → Met l (mdY M) (wsM M) (mdG M) (PcN Λ g sz av μ) (QcN Λ g (AA g Λ sz) P) 0 0 (AA g Λ sz)
/-- it throws -/
def EvX (Λ : List LE) (M : MD) (av : List Value) (μ : Mm) (P : String → Mm → Prop) : Prop := ∀ (l : Launch) (g : GG) (sz : Nat), l.stackTraces = false → vx_Met l (mdY M) (wsM M) (mdG M) (PcN Λ g sz av μ) (fun _ _ _ _ => False) (XcN Λ g (AA g Λ sz) P) 1 6 (AA g Λ sz)
def CX (tw : Bool) (Λ : List LE) (M : MD) (g : GG) (A : Nat → Prop) (p : Program) (l : Launch) (s : State) (m : MethodId) (args : Array Value) (meth : Method) (c : Code) : Prop :=
  p.tables.exec = Jvm.exec ∧ c.code = mdB M ∧ c.maxLocals = mdN M ∧ s.vm.findClass (mdO M) = some m.cls ∧ (∀ w ∈ WS, w.before args s = true) ∧ meth.sig.returnType = mdR M ∧ meth.locks = false ∧ (tw = true → ∀ x ∈ c.exceptionTable.toList, False) ∧ l.stackTraces = false ∧ AD g Λ A ∧ (∀ q : Nat, s.heap.size ≤ q → A q) ∧ SF g A s s.heap
def ZZ (tw : Bool) (Λ : List LE) (g : GG) (A : Nat → Prop) (Q : Rs → Mm → Prop) (below : List Frame) (args : Array Value) (s : State) : State → Prop := match tw with
  | false => MQ below (QcN Λ g A fun r => Q (.inl r)) args s 0 0 A
  | true => vx_MQ below (fun _ _ _ _ => False) (XcN Λ g A fun E => Q (.inr E)) args s 1 6 A
/-- inside the method M: from pc, with these locals, this stack, this memory, it comes to an end so that Q -/
def X (tw : Bool) (Λ : List LE) (M : MD) (Q : Rs → Mm → Prop) (pc : Nat) (ls : List (Nat × Value)) (st : List Value) (μ : Mm) : Prop :=
  ∀ (p : Program) (l : Launch) (e : Env) (s : State) (m : MethodId) (args : Array Value) (below : List Frame) (meth : Method) (c : Code) (H : Heap) (locs : List Loc) (g : GG) (A : Nat → Prop) (lsA : Array Slot),
    CX tw Λ M g A p l s m args meth c → va_P g.2.1 vwCl (wO g Λ μ) H → va_S A s.heap H locs → lv_has lsA (mdN M) (lm g.1 ls) →
    W p l e (mdG M) s m args below meth c H locs 0 0 (ZZ tw Λ g A Q below args s) (F0 m pc lsA (st.map (cv g.1)))
theorem EvN_of {Λ : List LE} {M : MD} {av : List Value} {μ : Mm} {P : Option Value → Mm → Prop} {ls : List (Nat × Value)} (hy : plainName (mdY M).cls = true) (ho : (mdY M).cls = mdO M) (hl : ∀ ad : Nat → Nat, lv_args 0 (av.map (cv ad)) = lm ad ls) (hn : ∀ ad : Nat → Nat, (lg_sl (av.map (cv ad))).length ≤ mdN M)
    (k : X false Λ M (fun r μ' => ∃ v, r = .inl v ∧ P v μ') 0 ls [] μ) : EvN Λ M av μ P := by
  intro l g sz hst
  refine Met.ofW (cc := mdB M) (maxL := mdN M) (ret := mdR M) hy rfl ?_
  intro p e s m args below meth c s₁ B hml hv
  obtain ⟨rfl, hsz, hP, hD, hF⟩ := hv
  subst hsz
  have hts : ∀ w ∈ wsM M, w.before (av.map (cv g.1)).toArray s = true := atoms_spec (ws := wsM M) B.pre
  have hown : s.vm.findClass (mdY M).cls = some m.cls := findClass_of_methodNamed B.named
  have hle := lv_entry (av.map (cv g.1)) (n := mdN M) (hn g.1)
  rw [lg_entry_eq]
  rw [hl g.1] at hle
  have h := k p l e s m _ below meth c s.heap [] g (AA g Λ s.heap.size) _ ⟨B.exec, B.bytes, hml, by rw [← ho]; exact hown, fun w hw => hts w (List.mem_cons_of_mem _ hw), B.returns, B.notSynchronized, fun q => by simp at q, hst, hD, fun q hq => Or.inr hq, hF⟩ hP va_S.rf hle
  have e1 : (fun (r : Option Value) => (fun r μ' => ∃ v, r = Sum.inl v ∧ P v μ' : Rs → Mm → Prop) (.inl r)) = P := by
    funext r μ'
    apply propext
    constructor
    · rintro ⟨v, hv, h⟩; cases hv; exact h
    · intro h; exact ⟨r, rfl, h⟩
  unfold ZZ at h
  rw [e1] at h
  exact h
theorem EvX_of {Λ : List LE} {M : MD} {av : List Value} {μ : Mm} {P : String → Mm → Prop} {ls : List (Nat × Value)} (hy : plainName (mdY M).cls = true) (ho : (mdY M).cls = mdO M) (hl : ∀ ad : Nat → Nat, lv_args 0 (av.map (cv ad)) = lm ad ls) (hn : ∀ ad : Nat → Nat, (lg_sl (av.map (cv ad))).length ≤ mdN M)
    (k : X true Λ M (fun r μ' => ∃ v, r = .inr v ∧ P v μ') 0 ls [] μ) : EvX Λ M av μ P := by
  intro l g sz hst
  refine vx_ofW (cc := mdB M) (maxL := mdN M) (ret := mdR M) hy rfl ?_
  intro p e s m args below meth c s₁ B hml htab hv
  obtain ⟨rfl, hsz, hP, hD, hF⟩ := hv
  subst hsz
  have hts : ∀ w ∈ wsM M, w.before (av.map (cv g.1)).toArray s = true := atoms_spec (ws := wsM M) B.pre
  have hown : s.vm.findClass (mdY M).cls = some m.cls := findClass_of_methodNamed B.named
  have hle := lv_entry (av.map (cv g.1)) (n := mdN M) (hn g.1)
  rw [lg_entry_eq]
  rw [hl g.1] at hle
  have h := k p l e s m _ below meth c s.heap [] g (AA g Λ s.heap.size) _ ⟨B.exec, B.bytes, hml, by rw [← ho]; exact hown, fun w hw => hts w (List.mem_cons_of_mem _ hw), B.returns, B.notSynchronized, fun _ => htab, hst, hD, fun q hq => Or.inr hq, hF⟩ hP va_S.rf hle
  have e1 : (fun (r : String) => (fun r μ' => ∃ v, r = Sum.inr v ∧ P v μ' : Rs → Mm → Prop) (.inr r)) = P := by
    funext r μ'
    apply propext
    constructor
    · rintro ⟨v, hv, h⟩; cases hv; exact h
    · intro h; exact ⟨r, rfl, h⟩
  unfold ZZ at h
  rw [e1] at h
  exact h
