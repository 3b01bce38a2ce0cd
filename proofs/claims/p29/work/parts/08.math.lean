abbrev qI (P : Int32 → Mm → Prop) : Option Value → Mm → Prop := fun r μ' => ∃ x, r = some (.int x) ∧ P x μ'
abbrev qV (P : Mm → Prop) : Option Value → Mm → Prop := fun r μ' => r = none ∧ P μ'
abbrev qL (P : Int64 → Mm → Prop) : Option Value → Mm → Prop := fun r μ' => ∃ x, r = some (.long x) ∧ P x μ'
abbrev qR (P : Nat → Mm → Prop) : Option Value → Mm → Prop := fun r μ' => ∃ x, r = some (.ref x) ∧ P x μ'
/-- a boolean answer, nothing written -/
abbrev qB (c : Prop) (μ : Mm) : Option Value → Mm → Prop := qI (fun x μ' => μ = μ' ∧ ((x = 1 ∧ c) ∨ (x = 0 ∧ ¬ c)))
/-- an int answer, nothing written -/
abbrev qE (e : Int32) (μ : Mm) : Option Value → Mm → Prop := qI (fun x μ' => e = x ∧ μ = μ')
section XC
variable {tw : Bool} {Λ : List LE} {M : MD} {Q : Rs → Mm → Prop} {ls : List (Nat × Value)} {st : List Value} {μ : Mm}
abbrev WV (M2 : MD) (n : Nat) : Prop := WMV M2 ∧ (parseMethodDescriptor (mdY M2).desc).map (fun d => d.parameters.length) = some n ∧ (mdG M2).cells = 0 ∧ (mdG M2).slots = 0
abbrev WT (M2 : MD) (n : Nat) : Prop := WMS M2 ∧ (parseMethodDescriptor (mdY M2).desc).map (fun d => d.parameters.length) = some n ∧ (mdG M2).cells = 0 ∧ (mdG M2).slots = 0
theorem X_cVI {M2 : MD} {q ci index : Nat} {fs : List FE} {C : String} {T : u_T} {N : Nat} {rest : List Value} {P : Int32 → Mm → Prop} (pc : Nat) (As : List Value) (hE : EvN Λ M2 (.ref q :: As) μ (qI P)) (d : decode (mdB M) pc = .ok (.invokevirtual index, 3)) (hL : LKM (mdO M) index (mdY M2)) (n : Nat) (hm : WV M2 n) (hna : As.length = n) (hR : ROK M M2) (hq : Λ[q]? = some (.inl (ci, fs))) (hc : vwCl[ci]? = some (C, T, N)) (hyc : (mdY M2).cls = C) (hst : st = As.reverse ++ .ref q :: rest) (hcat : (rest.map fun v => v.category).sum ≤ 8)
    (k : ∀ x μ', P x μ' → X tw Λ M Q (pc + 3) ls (.int x :: rest) μ') : X tw Λ M Q pc ls st μ :=
  X_callV pc As hE d hL hm.1 (by rw [hna]; exact hm.2.1) hR hm.2.2 hq hc hyc hst hcat (fun r μ' ⟨x, hr, hp⟩ => by subst hr; exact k x μ' hp)
theorem X_cVV {M2 : MD} {q ci index : Nat} {fs : List FE} {C : String} {T : u_T} {N : Nat} {rest : List Value} {P : Mm → Prop} (pc : Nat) (As : List Value) (hE : EvN Λ M2 (.ref q :: As) μ (qV P)) (d : decode (mdB M) pc = .ok (.invokevirtual index, 3)) (hL : LKM (mdO M) index (mdY M2)) (n : Nat) (hm : WV M2 n) (hna : As.length = n) (hR : ROK M M2) (hq : Λ[q]? = some (.inl (ci, fs))) (hc : vwCl[ci]? = some (C, T, N)) (hyc : (mdY M2).cls = C) (hst : st = As.reverse ++ .ref q :: rest) (hcat : (rest.map fun v => v.category).sum ≤ 8)
    (k : ∀ μ', P μ' → X tw Λ M Q (pc + 3) ls rest μ') : X tw Λ M Q pc ls st μ :=
  X_callV pc As hE d hL hm.1 (by rw [hna]; exact hm.2.1) hR hm.2.2 hq hc hyc hst hcat (fun r μ' ⟨hr, hp⟩ => by subst hr; exact k μ' hp)
theorem X_cVL {M2 : MD} {q ci index : Nat} {fs : List FE} {C : String} {T : u_T} {N : Nat} {rest : List Value} {P : Int64 → Mm → Prop} (pc : Nat) (As : List Value) (hE : EvN Λ M2 (.ref q :: As) μ (qL P)) (d : decode (mdB M) pc = .ok (.invokevirtual index, 3)) (hL : LKM (mdO M) index (mdY M2)) (n : Nat) (hm : WV M2 n) (hna : As.length = n) (hR : ROK M M2) (hq : Λ[q]? = some (.inl (ci, fs))) (hc : vwCl[ci]? = some (C, T, N)) (hyc : (mdY M2).cls = C) (hst : st = As.reverse ++ .ref q :: rest) (hcat : (rest.map fun v => v.category).sum ≤ 8)
    (k : ∀ x μ', P x μ' → X tw Λ M Q (pc + 3) ls (.long x :: rest) μ') : X tw Λ M Q pc ls st μ :=
  X_callV pc As hE d hL hm.1 (by rw [hna]; exact hm.2.1) hR hm.2.2 hq hc hyc hst hcat (fun r μ' ⟨x, hr, hp⟩ => by subst hr; exact k x μ' hp)
theorem X_cVR {M2 : MD} {q ci index : Nat} {fs : List FE} {C : String} {T : u_T} {N : Nat} {rest : List Value} {P : Nat → Mm → Prop} (pc : Nat) (As : List Value) (hE : EvN Λ M2 (.ref q :: As) μ (qR P)) (d : decode (mdB M) pc = .ok (.invokevirtual index, 3)) (hL : LKM (mdO M) index (mdY M2)) (n : Nat) (hm : WV M2 n) (hna : As.length = n) (hR : ROK M M2) (hq : Λ[q]? = some (.inl (ci, fs))) (hc : vwCl[ci]? = some (C, T, N)) (hyc : (mdY M2).cls = C) (hst : st = As.reverse ++ .ref q :: rest) (hcat : (rest.map fun v => v.category).sum ≤ 8)
    (k : ∀ x μ', P x μ' → X tw Λ M Q (pc + 3) ls (.ref x :: rest) μ') : X tw Λ M Q pc ls st μ :=
  X_callV pc As hE d hL hm.1 (by rw [hna]; exact hm.2.1) hR hm.2.2 hq hc hyc hst hcat (fun r μ' ⟨x, hr, hp⟩ => by subst hr; exact k x μ' hp)
theorem X_cSI {M2 : MD} {index : Nat} {rest : List Value} {P : Int32 → Mm → Prop} (pc : Nat) (As : List Value) (hE : EvN Λ M2 As μ (qI P)) (d : decode (mdB M) pc = .ok (.invokestatic index, 3)) (hL : LKM (mdO M) index (mdY M2)) (n : Nat) (hm : WT M2 n) (hna : As.length = n) (hR : ROK M M2) (hst : st = As.reverse ++ rest) (hcat : (rest.map fun v => v.category).sum ≤ 8)
    (k : ∀ x μ', P x μ' → X tw Λ M Q (pc + 3) ls (.int x :: rest) μ') : X tw Λ M Q pc ls st μ :=
  X_callS pc As hE d hL hm.1 (by rw [hna]; exact hm.2.1) hR hm.2.2 hst hcat (fun r μ' ⟨x, hr, hp⟩ => by subst hr; exact k x μ' hp)
theorem X_cSV {M2 : MD} {index : Nat} {rest : List Value} {P : Mm → Prop} (pc : Nat) (As : List Value) (hE : EvN Λ M2 As μ (qV P)) (d : decode (mdB M) pc = .ok (.invokestatic index, 3)) (hL : LKM (mdO M) index (mdY M2)) (n : Nat) (hm : WT M2 n) (hna : As.length = n) (hR : ROK M M2) (hst : st = As.reverse ++ rest) (hcat : (rest.map fun v => v.category).sum ≤ 8)
    (k : ∀ μ', P μ' → X tw Λ M Q (pc + 3) ls rest μ') : X tw Λ M Q pc ls st μ :=
  X_callS pc As hE d hL hm.1 (by rw [hna]; exact hm.2.1) hR hm.2.2 hst hcat (fun r μ' ⟨hr, hp⟩ => by subst hr; exact k μ' hp)
end XC
/-! rows of numbers -/
theorem c_lt {k i : Nat} {K : Int32} (hK : K = nI k) (hk : k < 2147483648) (hi : i < 2147483648) (c : ¬ K ≤ nI i) : i < k := by
  subst hK; exact Nat.lt_of_not_le fun q => c ((nI_leI hk hi).mpr q)
theorem c_ge {k i : Nat} {K : Int32} (hK : K = nI k) (hk : k < 2147483648) (hi : i < 2147483648) (c : K ≤ nI i) : k ≤ i := by
  subst hK; exact (nI_leI hk hi).mp c
def gt (μ : Mm) (a n : Nat) (i : Int32) : Int32 := if i < 0 ∨ n ≤ i.toNatClampNeg then 0 else μ a i.toNatClampNeg
def stR (μ : Mm) (a n : Nat) (i x : Int32) : Mm := if i < 0 ∨ n ≤ i.toNatClampNeg then μ else uM μ a i.toNatClampNeg x
theorem gt_in {μ : Mm} {a n : Nat} {i : Int32} (h : vp_in i n) : gt μ a n i = μ a i.toNatClampNeg := if_neg h
theorem stR_in {μ : Mm} {a n : Nat} {i x : Int32} (h : vp_in i n) : stR μ a n i x = uM μ a i.toNatClampNeg x := if_neg h
theorem gt_out {μ : Mm} {a n : Nat} {i : Int32} (h : i < 0 ∨ n ≤ i.toNatClampNeg) : gt μ a n i = 0 := if_pos h
theorem stR_out {μ : Mm} {a n : Nat} {i x : Int32} (h : i < 0 ∨ n ≤ i.toNatClampNeg) : stR μ a n i x = μ := if_pos h
theorem gt_nI {μ : Mm} {a n k : Nat} (h : k < n) (hn : n < 2147483648) : gt μ a n (nI k) = μ a k := by
  rw [gt_in (vp_in_nI h hn), nI_clamp (by omega)]
theorem stR_nI {μ : Mm} {a n k : Nat} {x : Int32} (h : k < n) (hn : n < 2147483648) : stR μ a n (nI k) x = uM μ a k x := by
  rw [stR_in (vp_in_nI h hn), nI_clamp (by omega)]
theorem in_of {i : Int32} {n : Nat} (hn : n < 2147483648) (h1 : ¬ i < 0) (h2 : ¬ nI n ≤ i) : vp_in i n := by
  rintro (q | q)
  · exact h1 q
  · obtain ⟨j, hj, rfl⟩ := nI_of h1
    rw [nI_clamp hj] at q
    exact h2 (nI_le q hj)
theorem in_not1 {i : Int32} {n : Nat} (h1 : i < 0) : i < 0 ∨ n ≤ i.toNatClampNeg := Or.inl h1
theorem in_not2 {i : Int32} {n : Nat} (hn : n < 2147483648) (h2 : nI n ≤ i) : i < 0 ∨ n ≤ i.toNatClampNeg := by
  by_cases h1 : i < 0
  · exact Or.inl h1
  · obtain ⟨j, hj, rfl⟩ := nI_of h1
    rw [nI_clamp hj]
    exact Or.inr ((nI_leI hn hj).mp h2)
/-- the first n places of the row a hold f -/
def setRow (μ : Mm) (a n : Nat) (f : Nat → Int32) : Mm := fun p j => if p = a ∧ j < n then f j else μ p j
theorem setRow_0 (μ : Mm) (a : Nat) (f : Nat → Int32) : setRow μ a 0 f = μ := by
  funext p j; simp [setRow]
theorem setRow_succ (μ : Mm) (a n : Nat) (f : Nat → Int32) : uM (setRow μ a n f) a n (f n) = setRow μ a (n + 1) f := by
  funext p j
  simp only [uM, setRow]
  by_cases h : p = a
  · subst h
    by_cases h2 : j = n
    · subst h2; simp
    · by_cases h3 : j < n
      · simp [h2, h3, show j < n + 1 by omega]
      · simp [h2, h3, show ¬ j < n + 1 by omega]
  · simp [h]
theorem setRow_out {μ : Mm} {a n p j : Nat} {f : Nat → Int32} (h : ¬ (p = a ∧ j < n)) : setRow μ a n f p j = μ p j := if_neg h
theorem setRow_in {μ : Mm} {a n j : Nat} {f : Nat → Int32} (h : j < n) : setRow μ a n f a j = f j := if_pos ⟨rfl, h⟩
theorem setRow_same (μ : Mm) (a n : Nat) : setRow μ a n (μ a) = μ := by
  funext p j
  simp only [setRow]
  split
  · next h => rw [h.1]
  · rfl
def sumN (n : Nat) (f : Nat → Int32) : Int32 := match n with
  | 0 => 0
  | n + 1 => sumN n f + f n
theorem sumN_congr {f g : Nat → Int32} : ∀ {n : Nat}, (∀ k, k < n → f k = g k) → sumN n f = sumN n g
  | 0, _ => rfl
  | n + 1, h => by
    show sumN n f + f n = sumN n g + g n
    rw [sumN_congr (fun k hk => h k (by omega)), h n (by omega)]
def maxN (n : Nat) (f : Nat → Int32) : Int32 := match n with
  | 0 => 0
  | n + 1 => if maxN n f < f n then f n else maxN n f
theorem maxN_congr {f g : Nat → Int32} : ∀ {n : Nat}, (∀ k, k < n → f k = g k) → maxN n f = maxN n g
  | 0, _ => rfl
  | n + 1, h => by
    show (if maxN n f < f n then f n else maxN n f) = _
    rw [maxN_congr (fun k hk => h k (by omega)), h n (by omega)]
    rfl
def bitB (s : Int32) (k : Nat) : Bool := (s >>> (nI k &&& 31)) &&& 1 == 1
theorem bitB_t {s : Int32} {k : Nat} (h : (s >>> (nI k &&& 31)) &&& 1 = 1) : bitB s k = true := by simp [bitB, h]
theorem bitB_f {s : Int32} {k : Nat} (h : ¬ (s >>> (nI k &&& 31)) &&& 1 = 1) : ¬ bitB s k = true := by simp [bitB, h]
def oneI (k : Nat) : Int32 := 1 <<< (nI k &&& 31)
/-- the set of those below n for which c -/
def orN (n : Nat) (c : Nat → Bool) : Int32 := match n with
  | 0 => 0
  | n + 1 => if c n = true then orN n c ||| oneI n else orN n c
theorem orN_congr {f g : Nat → Bool} : ∀ {n : Nat}, (∀ k, k < n → f k = g k) → orN n f = orN n g
  | 0, _ => rfl
  | n + 1, h => by
    show (if f n = true then orN n f ||| oneI n else orN n f) = (if g n = true then orN n g ||| oneI n else orN n g)
    rw [orN_congr (fun k hk => h k (by omega)), h n (by omega)]
theorem orN_t {f : Nat → Bool} {n : Nat} (h : f n = true) : orN (n + 1) f = orN n f ||| oneI n := if_pos h
theorem orN_f {f : Nat → Bool} {n : Nat} (h : ¬ f n = true) : orN (n + 1) f = orN n f := if_neg h
abbrev QN (P : Option Value → Mm → Prop) : Rs → Mm → Prop := fun r μ' => ∃ v, r = .inl v ∧ P v μ'
abbrev QX (P : String → Mm → Prop) : Rs → Mm → Prop := fun r μ' => ∃ v, r = .inr v ∧ P v μ'
theorem EvN_ofQ {Λ : List LE} {M : MD} {av : List Value} {μ : Mm} {P : Option Value → Mm → Prop} {ls : List (Nat × Value)} (hy : plainName (mdY M).cls = true) (ho : (mdY M).cls = mdO M) (hl : ∀ ad : Nat → Nat, lv_args 0 (av.map (cv ad)) = lm ad ls) (hn : ∀ ad : Nat → Nat, (lg_sl (av.map (cv ad))).length ≤ mdN M)
    (k : X false Λ M (QN P) 0 ls [] μ) : EvN Λ M av μ P := EvN_of hy ho hl hn k
theorem EvX_ofQ {Λ : List LE} {M : MD} {av : List Value} {μ : Mm} {P : String → Mm → Prop} {ls : List (Nat × Value)} (hy : plainName (mdY M).cls = true) (ho : (mdY M).cls = mdO M) (hl : ∀ ad : Nat → Nat, lv_args 0 (av.map (cv ad)) = lm ad ls) (hn : ∀ ad : Nat → Nat, (lg_sl (av.map (cv ad))).length ≤ mdN M)
    (k : X true Λ M (QX P) 0 ls [] μ) : EvX Λ M av μ P := EvX_of hy ho hl hn k
def lim (μ : Mm) (s k : Nat) : Int32 := μ (s + 9) k * (1000 - μ (s + 11) k) / 1000
def flo (μ : Mm) (s k : Nat) : Int32 := if lim μ s k < μ (s + 10) k then lim μ s k else μ (s + 10) k
theorem m4 (k i : Nat) : (4 : Int32) * nI k + nI i = nI (4 * k + i) := by
  show nI 4 * nI k + nI i = _
  rw [pk_mul, nI_add]
theorem nI_2 (i : Nat) : nI i + 2 = nI (i + 2) := by
  show nI i + nI 2 = _
  rw [nI_add]
theorem rem4 {a : Nat} (h : a < 2147483648) : nI a - nI a / 4 * 4 = nI (a % 4) := pk_rem (d := 4) h (by decide) (by decide)
theorem ne_of_pos {y : Int32} (h : ¬ y ≤ 0) : ¬ y = 0 := fun e => h (by rw [e]; exact Int32.le_refl 0)
def allN (n : Nat) (f : Nat → Bool) : Bool := match n with
  | 0 => true
  | n + 1 => allN n f && f n
theorem allN_iff {f : Nat → Bool} : ∀ {n : Nat}, allN n f = true ↔ ∀ i, i < n → f i = true
  | 0 => ⟨fun _ i h => absurd h (Nat.not_lt_zero i), fun _ => rfl⟩
  | n + 1 => by
    show (allN n f && f n) = true ↔ _
    rw [Bool.and_eq_true, allN_iff]
    constructor
    · rintro ⟨h1, h2⟩ i hi
      rcases Nat.lt_or_ge i n with q | q
      · exact h1 i q
      · have : i = n := by omega
        subst this; exact h2
    · intro h
      exact ⟨fun i hi => h i (by omega), h n (by omega)⟩
theorem allN_succ {f : Nat → Bool} {n : Nat} (h : allN n f = true) (h2 : f n = true) : allN (n + 1) f = true := by
  show (allN n f && f n) = true
  rw [h, h2]; rfl
theorem allN_congr {f g : Nat → Bool} : ∀ {n : Nat}, (∀ k, k < n → f k = g k) → allN n f = allN n g
  | 0, _ => rfl
  | n + 1, h => by
    show (allN n f && f n) = (allN n g && g n)
    rw [allN_congr (fun k hk => h k (by omega)), h n (by omega)]
def turnS (μ : Mm) (s k i : Nat) : Int32 := (μ (s + 13) (4 * k + (i + 1) % 4) - μ (s + 13) (4 * k + i)) * (μ (s + 14) (4 * k + (i + 2) % 4) - μ (s + 14) (4 * k + (i + 1) % 4)) - (μ (s + 14) (4 * k + (i + 1) % 4) - μ (s + 14) (4 * k + i)) * (μ (s + 13) (4 * k + (i + 2) % 4) - μ (s + 13) (4 * k + (i + 1) % 4))
def areaS (μ : Mm) (s k : Nat) (n : Nat) : Int32 := sumN n (fun i => μ (s + 13) (4 * k + i) * μ (s + 14) (4 * k + (i + 1) % 4) - μ (s + 14) (4 * k + i) * μ (s + 13) (4 * k + (i + 1) % 4))
def goodB (μ : Mm) (s k : Nat) : Bool := allN 4 (fun i => decide (0 ≤ turnS μ s k i)) && decide (0 < areaS μ s k 4)
def wayX (μ : Mm) (s k i : Nat) : Int32 := 2 * (μ (s + 13) (4 * k + (i + 1) % 4) - μ (s + 13) (4 * k + i))
def wayY (μ : Mm) (s k i : Nat) : Int32 := 2 * (μ (s + 14) (4 * k + (i + 1) % 4) - μ (s + 14) (4 * k + i))
def htS (μ : Mm) (s k : Nat) (px py : Int32) (i : Nat) : Int32 := wayX μ s k i * (py - 2 * μ (s + 14) (4 * k + i)) - wayY μ s k i * (px - 2 * μ (s + 13) (4 * k + i))
def absI (x : Int32) : Int32 := if 0 ≤ x then x else 0 - x
def lenS (μ : Mm) (s k i : Nat) : Int32 := absI (wayX μ s k i) + absI (wayY μ s k i)
def nearS (μ : Mm) (s k : Nat) (px py : Int32) : Nat → Int32
  | 0 => -1
  | i + 1 => if lenS μ s k i ≤ 0 then nearS μ s k px py i else if 0 ≤ nearS μ s k px py i then (if htS μ s k px py i / lenS μ s k i < nearS μ s k px py i then htS μ s k px py i / lenS μ s k i else nearS μ s k px py i) else htS μ s k px py i / lenS μ s k i
def wgt (μ : Mm) (s k : Nat) (px py : Int32) : Int32 := if allN 4 (fun i => decide (0 ≤ htS μ s k px py i)) = true then 1 + nearS μ s k px py 4 else 0
def wkB (μ : Mm) (s k : Nat) : Bool := μ (s + 12) k == 1
def shiB (μ : Mm) (s k : Nat) : Bool := wkB μ s k && goodB μ s k
theorem shi_t {μ : Mm} {s k : Nat} (h1 : wkB μ s k = true) (h2 : goodB μ s k = true) : shiB μ s k = true := Bool.and_eq_true_iff.mpr ⟨h1, h2⟩
theorem shi_f1 {μ : Mm} {s k : Nat} (h1 : ¬ wkB μ s k = true) : ¬ shiB μ s k = true := fun h => h1 (Bool.and_eq_true_iff.mp h).1
theorem shi_f2 {μ : Mm} {s k : Nat} (h1 : ¬ goodB μ s k = true) : ¬ shiB μ s k = true := fun h => h1 (Bool.and_eq_true_iff.mp h).2
def mvc (μ : Mm) (s j : Nat) (x y : Int32) : Mm := uM (uM (uM μ (s + 13) j x) (s + 14) j y) s 6 1
def hang0 (μ : Mm) (s k : Nat) (g l : Int32) : Mm := uM (uM (uM (uM (uM μ s 5 (nI k + 1)) (s + 9) k g) (s + 10) k l) (s + 11) k 0) (s + 12) k 1
def hangC (μ : Mm) (s k : Nat) (g l : Int32) : Nat → Mm
  | 0 => hang0 μ s k g l
  | i + 1 => mvc (hangC μ s k g l i) s (4 * k + i) 0 0
def hang (μ : Mm) (s k : Nat) (g l : Int32) : Mm := uM (hangC μ s k g l 4) s 6 1
def ptC (A : Nat) (t : Int32) (base : Nat) : Nat → Int32 × Mm → Int32 × Mm
  | 0, z => z
  | n + 1, z => (if (ptC A t base n z).2 A (base + n) = t then (ptC A t base n z).1 else (ptC A t base n z).1 + 1, uM (ptC A t base n z).2 A (base + n) t)
def ptR (A : Nat) (t : Int32) (c a w b : Nat) : Nat → Int32 × Mm → Int32 × Mm
  | 0, z => z
  | n + 1, z => ptC A t ((b + n) * c + a) w (ptR A t c a w b n z)
def cpA (μ : Mm) (s o : Nat) : Mm := uM (uM (uM (uM (uM (uM μ s 0 (μ o 0)) s 1 (μ o 1)) s 2 (μ o 2)) s 3 (μ o 3)) s 4 (μ o 4)) s 5 (μ o 5)
def cpB (μ : Mm) (s o : Nat) : Nat → Mm
  | 0 => cpA μ s o
  | j + 1 => setRow (cpB μ s o j) (s + 8 + j) (if j = 0 then 384 else if j < 5 then 8 else 32) (μ (o + 8 + j))
def cpS (μ : Mm) (s o : Nat) : Mm := uM (cpB μ s o 7) s 6 1
def wallM (μ : Mm) (s : Nat) (c r : Int32) : Mm := uM (setRow (uM (uM (uM (uM μ s 0 c) s 1 r) s 2 0) s 3 0) (s + 8) 384 (fun _ => 0)) s 6 1
