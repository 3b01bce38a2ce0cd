/-! questions -/
def Q2 (A : Prop) (a : Int32) (μ : Mm) (v : Int32) (m : Mm) : Prop := (¬ A ∧ m 0 6 = 1 ∧ KP μ m) ∨ (A ∧ a = v ∧ m 0 6 = 0 ∧ KP μ m)
def Q3 (A B : Prop) (a : Int32) (μ : Mm) (v : Int32) (m : Mm) : Prop := (¬ A ∧ m 0 6 = 1 ∧ KP μ m) ∨ (A ∧ ¬ B ∧ m 0 6 = 2 ∧ KP μ m) ∨ (A ∧ B ∧ a = v ∧ m 0 6 = 0 ∧ KP μ m)
theorem KP_c {μ m : Mm} {x : Int32} (h : SCR μ m) : KP μ (uM m 0 6 x) := fun p q h3 h5 h6 h7 h8 h0 => by
  rw [uM_n (by omega)]; exact h p q (by omega) h5 h6
theorem q_ok {μ m : Mm} (h : SCR μ m) : uM m 0 6 0 0 6 = 0 ∧ KP μ (uM m 0 6 0) := ⟨uM_s _ _ _ _, KP_c h⟩
theorem e_shP (V : Mm) (c r lc x y : Nat) (m : Mm) (hM : MI V c r lc m) (hx : x < c) (hy : y < r) : EvN ΛM mX7_shines [.ref 0, .int (nI x), .int (nI y)] m (qV (SHP 0 V (zzS V lc) (V 0 2) (V 0 3) c lc x y m)) := by
  have h := e_X7_shines 0 V c r lc (zzS V lc) x y m hM.1 (by rw [hM.2.2.2.2]; exact HZ_zz hM.1.1.2.2.2.2.2.2.2) hx hy
  rw [hM.2.1, hM.2.2.1] at h
  exact h
def smZ (V : Mm) (z cv : Int32) (k : Nat) : Int32 := if bitB cv k = true then (if z = 0 then lim V 0 k else flo V 0 k) else 0
theorem smZ_0 (V : Mm) (lc : Nat) (cv : Int32) : sumN lc (smZ V 0 cv) = smL V lc cv := sumN_congr fun k _ => by
  unfold smZ
  rw [if_pos (rfl : (0 : Int32) = 0)]
theorem smZ_1 (V : Mm) (lc : Nat) (cv : Int32) : sumN lc (smZ V 1 cv) = smF V lc cv := sumN_congr fun k _ => by
  unfold smZ
  rw [if_neg (by decide : ¬ (1 : Int32) = 0)]
theorem sum_st {f : Nat → Int32} {n : Nat} {v : Int32} (h : f n = v) : sumN (n + 1) f = sumN n f + v := by rw [← h]; rfl
theorem wg_ans {V μ : Mm} {c r lc x y k : Nat} (hM : MI V c r lc μ) (hx : x < c) (hy : y < r) (hk : k < lc) : (if bitB (cvP V 0 (zzS V lc) (V 0 2) (V 0 3) x y) k = true then wgt V 0 k (2 * (nI x + V 0 2) + 1) (2 * (nI y + V 0 3) + 1) else -1000) = if bitB (covV (plW V 0 (zzS V lc) (2 * (nI x + V 0 2) + 1) (2 * (nI y + V 0 3) + 1)) lc) k = true then plW V 0 (zzS V lc) (2 * (nI x + V 0 2) + 1) (2 * (nI y + V 0 3) + 1) k else -1000 := by
  obtain ⟨⟨hc1, hc2⟩, ⟨hr1, hr2⟩, h8⟩ := MI_lc hM
  have b2 : bd (V 0 2) 10 := by rw [← hM.2.1]; exact bd_rg hM.1.2.1.1.1 (by decide) (by decide)
  have b3 : bd (V 0 3) 10 := by rw [← hM.2.2.1]; exact bd_rg hM.1.2.1.1.2 (by decide) (by decide)
  have hW : WB (plW V 0 (zzS V lc) (2 * (nI x + V 0 2) + 1) (2 * (nI y + V 0 3) + 1)) lc := WB_pl (x := x) (y := y) hM.1 (HZ_zz h8) (by omega) (by omega) b2 b3
  unfold cvP
  rw [cov_8 hW 8 h8 (Nat.le_refl _)]
  by_cases hb : bitB (covV (plW V 0 (zzS V lc) (2 * (nI x + V 0 2) + 1) (2 * (nI y + V 0 3) + 1)) lc) k = true
  · rw [if_pos hb, if_pos hb]
    have h2 := hb
    unfold covV at h2
    rw [bitB_orN (by omega) lc h8] at h2
    have h0 := of_decide_eq_true (Bool.and_eq_true_iff.mp h2).2
    unfold plW at h0 ⊢
    by_cases hz : bitB (zzS V lc) k = true
    · rw [if_pos hz]
    · rw [if_neg hz] at h0; exact absurd h0 (by decide)
  · rw [if_neg hb, if_neg hb]
def ovV (V : Mm) (lc c : Nat) (w : Int32) (j : Nat) : Int32 := if w = 10 then V 8 j else if w = 11 then brJ V lc c j else if w = 13 then (if 1 < bcI (cvJ V lc c j) then 1 else 0) else if stJ V lc c j = w - 6 then 1 else 0
theorem ov_whV {V : Mm} {lc c r w : Nat} {tl : Int32} (h : w = 6 ∨ w = 7 ∨ w = 8 ∨ w = 9 ∨ w = 10 ∨ w = 11 ∨ w = 13) : sumN (c * r) (ovV V lc c (nI w)) = whV V lc c r tl w := by
  rcases h with rfl | rfl | rfl | rfl | rfl | rfl | rfl
  · exact sumN_congr fun j _ => by unfold ovV; rw [if_neg (by decide), if_neg (by decide), if_neg (by decide)]; rfl
  · exact sumN_congr fun j _ => by unfold ovV; rw [if_neg (by decide), if_neg (by decide), if_neg (by decide)]; rfl
  · exact sumN_congr fun j _ => by unfold ovV; rw [if_neg (by decide), if_neg (by decide), if_neg (by decide)]; rfl
  · exact sumN_congr fun j _ => by unfold ovV; rw [if_neg (by decide), if_neg (by decide), if_neg (by decide)]; rfl
  · exact sumN_congr fun j _ => by unfold ovV; rw [if_pos (by decide)]
  · exact sumN_congr fun j _ => by unfold ovV; rw [if_neg (by decide), if_pos (by decide)]
  · exact sumN_congr fun j _ => by
      unfold ovV sevB
      rw [if_neg (by decide), if_neg (by decide), if_pos (by decide)]
      by_cases q : bcI (cvJ V lc c j) < 2
      · rw [if_pos q]
        exact if_neg (fun z => by
          have a := Int32.lt_iff_toInt_lt.mp q
          have b := Int32.lt_iff_toInt_lt.mp z
          rw [show (2 : Int32).toInt = 2 from rfl] at a
          rw [show (1 : Int32).toInt = 1 from rfl] at b
          omega)
      · rw [if_neg q]
        exact if_pos (by
          rw [Int32.lt_iff_toInt_lt]
          have a := Int32.le_iff_toInt_le.mp (Int32.not_lt.mp q)
          rw [show (2 : Int32).toInt = 2 from rfl] at a
          rw [show (1 : Int32).toInt = 1 from rfl]
          omega)
theorem wr_none {V : Mm} {lc c r : Nat} {idx : Int32} (h : fnd V lc c idx (c * r) = none) : wrV V lc c r idx = -1000 := by
  unfold wrV; rw [h]
theorem cwN_le {V : Mm} {s c : Nat} {z sx sy : Int32} (hc : c ≤ 24) : ∀ r, r ≤ 16 → 0 ≤ (cwN V s z sx sy c r).toInt ∧ (cwN V s z sx sy c r).toInt ≤ 24 * r := by
  intro r
  induction r with
  | zero => intro _; exact ⟨Int.le_refl 0, Int.le_refl 0⟩
  | succ y ih =>
    intro hy
    have ih := ih (by omega)
    have e := cnt_bd (f := fun x => if stP V s z sx sy c x y = 0 then (0 : Int32) else 1) (fun x => by
      show (if stP V s z sx sy c x y = 0 then (0 : Int32) else 1) = 0 ∨ _
      split
      · exact Or.inl rfl
      · exact Or.inr rfl) c (by omega)
    have a := bd_add (x := cwN V s z sx sy c y) (y := sumN c (fun x => if stP V s z sx sy c x y = 0 then (0 : Int32) else 1)) (a := 384) (b := 24) (by unfold bd; omega) (by unfold bd; omega) (by decide)
    show 0 ≤ (cwN V s z sx sy c y + sumN c (fun x => if stP V s z sx sy c x y = 0 then (0 : Int32) else 1)).toInt ∧ (cwN V s z sx sy c y + sumN c (fun x => if stP V s z sx sy c x y = 0 then (0 : Int32) else 1)).toInt ≤ _
    rw [a.1]
    omega
/-! what-if -/
theorem SCR_bt {V μ m9 : Mm} {c r lc : Nat} {v : Int32} (hM : MI V c r lc μ) (h : SC0 (uM μ 0 8 v) m9) : SCR μ (uM m9 0 8 (-1000)) := fun p q h1 h5 h6 => by
  by_cases e : p = 0 ∧ q = 8
  · obtain ⟨rfl, rfl⟩ := e
    rw [uM_s, hM.2.2.2.2]
  · rw [uM_n e, h p q (by omega) h5 h6, uM_n e]
theorem uM8_1 {μ : Mm} {v : Int32} : uM μ 0 8 v 1 = μ 1 := funext fun q => uM_n (by omega)
def SCA (μ m : Mm) : Prop := ∀ p q : Nat, ¬ (p = 0 ∧ 11 ≤ q ∧ q ≤ 17) → p ≠ 3 → p ≠ 5 → p ≠ 6 → m p q = μ p q
theorem SCA_r {μ : Mm} : SCA μ μ := fun _ _ _ _ _ _ => rfl
theorem SCA_t {a b d : Mm} (h : SCA a b) (h2 : SCA b d) : SCA a d := fun p q h1 h3 h5 h6 => (h2 p q h1 h3 h5 h6).trans (h p q h1 h3 h5 h6)
theorem KP_a {μ m : Mm} {x : Int32} (h : SCA μ m) : KP μ (uM m 0 6 x) := fun p q h3 h5 h6 h7 h8 h0 => by
  rw [uM_n (by omega)]; exact h p q (by omega) h3 h5 h6
theorem MI_A {V μ m : Mm} {c r lc : Nat} (h : MI V c r lc μ) (hs : SCA μ m) : MI V c r lc m := MI_e h (funext fun q => hs 1 q (by omega) (by decide) (by decide) (by decide)) (hs 0 8 (by decide) (by decide) (by decide) (by decide))
theorem mv_REP {V μ : Mm} {c r lc : Nat} {a b : Int32} (hM : MI V c r lc μ) (hs : shOK a b) : REP 0 V (mvB μ a b 1) c r lc := by
  obtain ⟨h1, h2, h3, h4, h5⟩ := (mv_MI hM hs).1
  refine ⟨h1, h2, fun k hk => ?_, fun k i hk hi => ?_, fun x y hx hy => ?_⟩
  · have z := h3 k hk
    rw [movM_out (by omega), movM_out (by omega), movM_out (by omega), movM_out (by omega)] at z; exact z
  · have z := h4 k i hk hi
    rw [movM_out (by omega), movM_out (by omega)] at z; exact z
  · have z := h5 x y hx hy
    rw [movM_out (by omega)] at z; exact z
theorem SCA_by {μ m9 : Mm} {a b : Int32} (h : SC0 (mvB (lay μ) a b) m9) : SCA μ (setRow m9 1 486 (m9 3)) := fun p q h1 h3 h5 h6 => by
  have o : ∀ p q, p ≠ 1 → mvB (lay μ) a b p q = lay μ p q := fun p q hp => by unfold mvB; rw [uM_n (by omega), uM_n (by omega)]
  by_cases e : p = 1 ∧ q < 486
  · obtain ⟨rfl, hq⟩ := e
    rw [setRow_in hq, h 3 q (by omega) (by decide) (by decide), o 3 q (by decide)]
    exact setRow_in hq
  · rw [setRow_out e, h p q (by omega) h5 h6]
    by_cases e1 : p = 1
    · subst e1
      have hq : 486 ≤ q := by omega
      unfold mvB
      rw [uM_n (by omega), uM_n (by omega), lay_o (by decide)]
    · rw [o p q e1, lay_o h3]
theorem sh_k3 : ∀ k, k < 4 → ∀ i, i < 7 → rgI (-nI k + nI i) (-10) 10 := by
  intro k hk i hi
  have h : ∀ k, k < 4 → ∀ i, i < 7 → (-10 : Int32) ≤ -nI k + nI i ∧ -nI k + nI i ≤ 10 := by decide +kernel
  exact h k hk i hi
theorem code_k : ∀ k, k < 4 → ∀ i, i < 7 → ∀ j, j < 7 → ¬ (100 * (-nI k + nI i + 10) + (-nI k + nI j + 10) = -1000) := by decide +kernel
/-- the class's search z and the model's best and fewest go side by side -/
def BSI (z : Int32 × Int32) (best few : Int32) (n : Nat) : Prop := (n = 0 ∧ z = (385, 0) ∧ best = -1000) ∨ (z = (few, best) ∧ ¬ best = -1000)
theorem BSI_y {z : Int32 × Int32} {best few w code : Int32} {n : Nat} (h : BSI z best few n) (hw : w.toInt ≤ 384) (hc : ¬ code = -1000) (hq : best = -1000 ∨ ¬ few ≤ w) : BSI (if z.1 ≤ w then z else (w, code)) code w (n + 1) := by
  refine Or.inr ⟨?_, hc⟩
  rcases h with ⟨_, rfl, _⟩ | ⟨rfl, hb⟩
  · exact if_neg (fun q => by
      have := Int32.le_iff_toInt_le.mp q
      rw [show ((385 : Int32), (0 : Int32)).1.toInt = 385 from rfl] at this
      omega)
  · exact if_neg (hq.resolve_left hb)
theorem BSI_n {z : Int32 × Int32} {best few w code : Int32} {n : Nat} (h : BSI z best few n) (hb : ¬ best = -1000) (hq : few ≤ w) : BSI (if z.1 ≤ w then z else (w, code)) best few (n + 1) := by
  rcases h with ⟨_, _, e⟩ | ⟨rfl, hb⟩
  · exact absurd e hb
  · exact Or.inr ⟨if_pos hq, hb⟩
theorem BSI_up {z : Int32 × Int32} {best few : Int32} {n m : Nat} (h : BSI z best few n) (hn : 0 < n) : BSI z best few m := by
  rcases h with ⟨h0, _⟩ | h
  · omega
  · exact Or.inr h
theorem lk_out : ∀ w, w < 15 → ¬ (w = 5 ∨ w = 12 ∨ w = 14) → Op.lookupswitch.offset [(5, 35), (12, 40), (14, 47)] 52 (nI w).toInt = 52 := by decide +kernel
