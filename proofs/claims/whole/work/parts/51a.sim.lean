/-! each call keeps the relation, and both answer alike -/
def REL (V μ : Mm) : Prop := ∃ c r lc la cn L, RLc V μ c r lc la cn L
def MOK (M : MD) (av : List Value) (μ : Mm) (T : Int32 → Mm → Prop) : Prop := ∃ S : Int32 → Mm → Prop, EvN ΛM M av μ (qI S) ∧ ∀ w m, S w m → T w m
def COK (M : MD) (av : List Value) (μ : Mm) (T : Int32 → Mm → Prop) : Prop := ∃ S : Int32 → Mm → Prop, EvN ΛC M av μ (qI S) ∧ ∀ w m, S w m → T w m
/-- both return the same -/
def SR (MC MM : MD) (av : List Value) (V μ : Mm) : Prop := COK MC (.ref 109 :: av) V (fun v V2 => MOK MM (.ref 0 :: av) μ (fun w m => w = v ∧ m 0 6 = 0 ∧ REL V2 m))
/-- the class throws E, the model says k -/
def ST (E : String) (k : Int32) (MC MM : MD) (av : List Value) (V μ : Mm) : Prop := EvX ΛC MC (.ref 109 :: av) V (fun E2 V2 => E = E2 ∧ V = V2) ∧ MOK MM (.ref 0 :: av) μ (fun _ m => m 0 6 = k ∧ REL V m)
abbrev xI : String := "java/lang/IndexOutOfBoundsException"
abbrev xA : String := "java/lang/IllegalArgumentException"
abbrev xS : String := "java/lang/IllegalStateException"
section
variable {V μ m : Mm} {c r lc la cn L : Nat}
theorem KP_r : KP m m := fun _ _ _ _ _ _ _ _ => rfl
theorem RLc_la (h : RLc V μ c r lc la cn L) : la < 4 ∧ cn ≤ 4 := ⟨h.1.2.2.2.2.2.1.2.2.2.2.2.1, h.1.2.2.2.2.2.1.2.2.2.2.2.2⟩
theorem RLc_8 (h : RLc V μ c r lc la cn L) : (c ≤ 24 ∧ r ≤ 16) ∧ lc ≤ 8 := ⟨⟨h.1.2.2.2.2.2.1.2.1, h.1.2.2.2.2.2.1.2.2.2.1⟩, h.1.2.2.2.2.2.1.2.2.2.2.1⟩
theorem p2_n {A : Prop} {W : Mm} {c2 r2 l2 pn : Nat} {a w : Int32} (h : RLc V μ c r lc la cn L) (hS : P2 pn A W c2 r2 l2 a μ w m) (hn : ¬ A) : m 0 6 = 1 ∧ REL V m := by
  rcases hS with ⟨_, h6, hk⟩ | ⟨hy, _⟩
  · exact ⟨h6, _, _, _, _, _, _, RLc_k h hk⟩
  · exact absurd hy hn
theorem p2_y {A : Prop} {W : Mm} {c2 r2 l2 pn : Nat} {a w : Int32} (hS : P2 pn A W c2 r2 l2 a μ w m) (hy : A) : OPS pn W c2 r2 l2 a μ w m := by
  rcases hS with ⟨hn, _⟩ | ⟨_, h⟩
  · exact absurd hy hn
  · exact h
theorem p3_a {A B : Prop} {W : Mm} {c2 r2 l2 pn : Nat} {a w : Int32} (h : RLc V μ c r lc la cn L) (hS : P3 pn A B W c2 r2 l2 a μ w m) (hn : ¬ A) : m 0 6 = 1 ∧ REL V m := by
  rcases hS with ⟨_, h6, hk⟩ | ⟨hy, _⟩ | ⟨hy, _⟩
  · exact ⟨h6, _, _, _, _, _, _, RLc_k h hk⟩
  · exact absurd hy hn
  · exact absurd hy hn
theorem p3_b {A B : Prop} {W : Mm} {c2 r2 l2 pn : Nat} {a w : Int32} (h : RLc V μ c r lc la cn L) (hS : P3 pn A B W c2 r2 l2 a μ w m) (ha : A) (hn : ¬ B) : m 0 6 = 2 ∧ REL V m := by
  rcases hS with ⟨hy, _⟩ | ⟨_, _, h6, hk⟩ | ⟨_, hy, _⟩
  · exact absurd ha hy
  · exact ⟨h6, _, _, _, _, _, _, RLc_k h hk⟩
  · exact absurd hy hn
theorem p3_y {A B : Prop} {W : Mm} {c2 r2 l2 pn : Nat} {a w : Int32} (hS : P3 pn A B W c2 r2 l2 a μ w m) (ha : A) (hb : B) : OPS pn W c2 r2 l2 a μ w m := by
  rcases hS with ⟨hn, _⟩ | ⟨_, hn, _⟩ | ⟨_, _, h⟩
  · exact absurd ha hn
  · exact absurd hb hn
  · exact h
theorem q2_n {A : Prop} {a w : Int32} (h : RLc V μ c r lc la cn L) (hS : Q2 A a μ w m) (hn : ¬ A) : m 0 6 = 1 ∧ REL V m := by
  rcases hS with ⟨_, h6, hk⟩ | ⟨hy, _⟩
  · exact ⟨h6, _, _, _, _, _, _, RLc_k h hk⟩
  · exact absurd hy hn
theorem q2_y {A : Prop} {a w : Int32} (hS : Q2 A a μ w m) (hy : A) : a = w ∧ m 0 6 = 0 ∧ KP μ m := by
  rcases hS with ⟨hn, _⟩ | ⟨_, h⟩
  · exact absurd hy hn
  · exact h
theorem q3_a {A B : Prop} {a w : Int32} (h : RLc V μ c r lc la cn L) (hS : Q3 A B a μ w m) (hn : ¬ A) : m 0 6 = 1 ∧ REL V m := by
  rcases hS with ⟨_, h6, hk⟩ | ⟨hy, _⟩ | ⟨hy, _⟩
  · exact ⟨h6, _, _, _, _, _, _, RLc_k h hk⟩
  · exact absurd hy hn
  · exact absurd hy hn
theorem q3_b {A B : Prop} {a w : Int32} (h : RLc V μ c r lc la cn L) (hS : Q3 A B a μ w m) (ha : A) (hn : ¬ B) : m 0 6 = 2 ∧ REL V m := by
  rcases hS with ⟨hy, _⟩ | ⟨_, _, h6, hk⟩ | ⟨_, hy, _⟩
  · exact absurd ha hy
  · exact ⟨h6, _, _, _, _, _, _, RLc_k h hk⟩
  · exact absurd hy hn
theorem q3_y {A B : Prop} {a w : Int32} (hS : Q3 A B a μ w m) (ha : A) (hb : B) : a = w ∧ m 0 6 = 0 ∧ KP μ m := by
  rcases hS with ⟨hn, _⟩ | ⟨_, hn, _⟩ | ⟨_, _, h⟩
  · exact absurd ha hn
  · exact absurd hb hn
  · exact h
theorem HV_r (h : RLc V μ c r lc la cn L) : HVd V c r lc := HVd_C h.1
/-- a command's change, saved -/
theorem RLc_do {W V2 : Mm} {wd c2 r2 l2 : Nat} {n : Nat → Int32} {a v : Int32} (h : RLc V μ c r lc la cn L) (hw : 1 ≤ wd) (hw8 : wd ≤ 8) (ho : cmdOK (saveM V la cn) wd n) (hd : doC (saveM V la cn) lc c r wd n V2) (hO : OPS cn W c2 r2 l2 a μ v m) (hW : ∀ p q : Nat, p < 15 → ¬ (p = 0 ∧ q = 6) → V2 p q = W p q) (ec : cmC wd n c = c2) (er : cmR wd n r = r2) (el : cmL wd lc = l2) : RLc V2 m c2 r2 l2 ((la + 1) % 4) (if cn < 4 then cn + 1 else 4) L := by
  subst ec
  subst er
  subst el
  have hl := RLc_la h
  have e105 : ∀ q, V2 105 q = V 105 q := fun q => (doC_out hd (by omega)).trans (saveM_out hl.1 (by omega))
  exact RLc_sv h (doC_CIv (CIv_save h.1) hw hw8 ho hd) hO hW (fun p q h1 h2 => doC_out hd (by omega)) (TX_same h.2.2.2.1 ((doC_out hd (by omega)).trans (saveM_out hl.1 (by omega))) e105) (bt_same e105)
theorem HV_s (h : RLc V μ c r lc la cn L) : HVd (saveM V la cn) c r lc := HVd_C (CIv_save h.1)
theorem MI_s (h : RLc V μ c r lc la cn L) : MI (saveM V la cn) c r lc μ := MI_sv h.2.1 (RLc_la h).1
theorem CIv_1 {W : Mm} (h : CIv V c r lc la cn) (hs : ∀ q, q = 0 ∨ q = 1 ∨ q = 5 → W 0 q = V 0 q) (hh : ∀ q, W 107 q = V 107 q) (h6 : W 0 6 = 1) : CIv W c r lc la cn := by
  obtain ⟨hc, hr, hlc, hla, hcn, g, _⟩ := h
  exact ⟨(hs 0 (by decide)).trans hc, (hs 1 (by decide)).trans hr, (hs 5 (by decide)).trans hlc, (hh 1).trans hla, (hh 2).trans hcn, g, fun h0 => absurd (h6.symm.trans h0) (by decide)⟩
/-! mutators -/
theorem s_begin (h : REL V μ) (a b : Int32) : SR mX6_begin mX7_begin [.int a, .int b] V μ ∨ ST xA 1 xX6_begin mX7_begin [.int a, .int b] V μ := by
  obtain ⟨c, r, lc, la, cn, L, h⟩ := h
  by_cases hw : wallOK a b
  · refine Or.inl ⟨_, e_X6_begin c r lc la cn a b V h.1 hw, ?_⟩
    rintro v V2 ⟨rfl, rfl⟩
    refine ⟨_, e_X7_begin (saveM V la cn) c r lc cn a b μ (MI_s h) h.2.2.1 (RLc_la h).2, fun w m hS => ?_⟩
    have hO := p2_y hS hw
    exact ⟨hO.1.symm, hO.2.1, _, _, _, _, _, _, RLc_do (wd := 1) (n := fun j => if j = 0 then a else b) h (by decide) (by decide) hw rfl hO (fun _ _ _ _ => rfl) rfl rfl rfl⟩
  · exact Or.inr ⟨x_X6_begin_Argument a b V hw, _, e_X7_begin V c r lc cn a b μ h.2.1 h.2.2.1 (RLc_la h).2, fun w m hS => p2_n h hS hw⟩
theorem s_paint (h : REL V μ) (x y u v t : Int32) : SR mX6_paint mX7_paint [.int x, .int y, .int u, .int v, .int t] V μ ∨ ST xI 1 xX6_paint mX7_paint [.int x, .int y, .int u, .int v, .int t] V μ ∨ ST xA 2 xX6_paint mX7_paint [.int x, .int y, .int u, .int v, .int t] V μ := by
  obtain ⟨c, r, lc, la, cn, L, h⟩ := h
  have h8 := RLc_8 h
  by_cases hA : PL c r x y ∧ PL c r u v
  · by_cases hB : ptOK x y u v t
    · left
      obtain ⟨X1, hX, rfl⟩ := nat_lt hA.1.1.1 hA.1.1.2 (by omega)
      obtain ⟨Y1, hY, rfl⟩ := nat_lt hA.1.2.1 hA.1.2.2 (by omega)
      obtain ⟨U1, hU, rfl⟩ := nat_lt hA.2.1.1 hA.2.1.2 (by omega)
      obtain ⟨W1, hW, rfl⟩ := nat_lt hA.2.2.1 hA.2.2.2 (by omega)
      have eX : tn (nI X1) = X1 := nI_clamp (by omega)
      have eY : tn (nI Y1) = Y1 := nI_clamp (by omega)
      have eU : tn (nI U1) = U1 := nI_clamp (by omega)
      have eW : tn (nI W1) = W1 := nI_clamp (by omega)
      have hXU : X1 ≤ U1 := (nI_leI (by omega) (by omega)).mp hB.1
      have hYW : Y1 ≤ W1 := (nI_leI (by omega) (by omega)).mp hB.2.1
      refine ⟨_, e_X6_paint c r lc la cn X1 Y1 U1 W1 t V h.1 hXU hU hYW hW hB.2.2, ?_⟩
      rintro v V2 ⟨rfl, rfl⟩
      refine ⟨_, e_X7_paint (saveM V la cn) c r lc cn (nI X1) (nI Y1) (nI U1) (nI W1) t μ (MI_s h) h.2.2.1 (RLc_la h).2, fun w m hS => ?_⟩
      have hO := p3_y hS hA hB
      rw [eX, eY, eU, eW] at hO
      refine ⟨hO.1.symm, hO.2.1, _, _, _, _, _, _, RLc_do (wd := 2) (n := fun j => if j = 0 then nI X1 else if j = 1 then nI Y1 else if j = 2 then nI U1 else if j = 3 then nI W1 else t) h (by decide) (by decide) ⟨⟨(pl_iff (HV_s h)).mp hA.1, (pl_iff (HV_s h)).mp hA.2⟩, hB⟩ ?_ hO (fun _ _ _ _ => rfl) rfl rfl rfl⟩
      show uM (ptR 8 t c (tn (nI X1)) (tn (nI U1) - tn (nI X1) + 1) (tn (nI Y1)) (tn (nI W1) - tn (nI Y1) + 1) (0, saveM V la cn)).2 0 6 1 = _
      rw [eX, eY, eU, eW]
    · exact Or.inr (Or.inr ⟨x_X6_paint_Argument x y u v t V ⟨⟨(pl_iff (HV_r h)).mp hA.1, (pl_iff (HV_r h)).mp hA.2⟩, hB⟩, _, e_X7_paint V c r lc cn x y u v t μ h.2.1 h.2.2.1 (RLc_la h).2, fun w m hS => p3_b h hS hA hB⟩)
  · exact Or.inr (Or.inl ⟨x_X6_paint_Index x y u v t V (fun z => hA ⟨(pl_iff (HV_r h)).mpr z.1, (pl_iff (HV_r h)).mpr z.2⟩), _, e_X7_paint V c r lc cn x y u v t μ h.2.1 h.2.2.1 (RLc_la h).2, fun w m hS => p3_a h hS hA⟩)
theorem s_addLamp (h : REL V μ) (a b : Int32) : SR mX6_addLamp mX7_addLamp [.int a, .int b] V μ ∨ ST xA 1 xX6_addLamp mX7_addLamp [.int a, .int b] V μ ∨ ST xS 2 xX6_addLamp mX7_addLamp [.int a, .int b] V μ := by
  obtain ⟨c, r, lc, la, cn, L, h⟩ := h
  have h8 := RLc_8 h
  by_cases hA : nlOK a b
  · by_cases hB : lc < 8
    · refine Or.inl ⟨_, e_X6_addLamp c r lc la cn a b V h.1 hA hB, ?_⟩
      rintro v V2 ⟨rfl, rfl⟩
      refine ⟨_, e_X7_addLamp (saveM V la cn) c r lc cn a b μ (MI_s h) h.2.2.1 (RLc_la h).2, fun w m hS => ?_⟩
      have hO := p3_y hS hA hB
      exact ⟨hO.1.symm, hO.2.1, _, _, _, _, _, _, RLc_do (wd := 3) (n := fun j => if j = 0 then a else b) h (by decide) (by decide) ⟨hA, (l8_iff (HV_s h) h8.2).mp hB⟩ rfl hO (fun _ _ _ _ => rfl) rfl rfl rfl⟩
    · exact Or.inr (Or.inr ⟨x_X6_addLamp_State a b V ⟨hA, fun z => hB ((l8_iff (HV_r h) h8.2).mpr z)⟩, _, e_X7_addLamp V c r lc cn a b μ h.2.1 h.2.2.1 (RLc_la h).2, fun w m hS => p3_b h hS hA hB⟩)
  · exact Or.inr (Or.inl ⟨x_X6_addLamp_Argument a b V hA, _, e_X7_addLamp V c r lc cn a b μ h.2.1 h.2.2.1 (RLc_la h).2, fun w m hS => p3_a h hS hA⟩)
theorem s_setCorner (h : REL V μ) (n i x y : Int32) : SR mX6_setCorner mX7_setCorner [.int n, .int i, .int x, .int y] V μ ∨ ST xI 1 xX6_setCorner mX7_setCorner [.int n, .int i, .int x, .int y] V μ ∨ ST xA 2 xX6_setCorner mX7_setCorner [.int n, .int i, .int x, .int y] V μ := by
  obtain ⟨c, r, lc, la, cn, L, h⟩ := h
  have h8 := RLc_8 h
  by_cases hA : LPn lc n ∧ rgI i 0 3
  · by_cases hB : coOK x y
    · left
      obtain ⟨k, hk, rfl⟩ := nat_lt hA.1.1 hA.1.2 (by omega)
      obtain ⟨j, hj, rfl⟩ := nat_le (n := 3) rfl hA.2 (by omega)
      have ek : tn (nI k) = k := nI_clamp (by omega)
      have ej : tn (nI j) = j := nI_clamp (by omega)
      refine ⟨_, e_X6_setCorner c r lc la cn k j x y V h.1 hk (by omega) hB, ?_⟩
      rintro v V2 ⟨rfl, rfl⟩
      refine ⟨_, e_X7_setCorner (saveM V la cn) c r lc cn (nI k) (nI j) x y μ (MI_s h) h.2.2.1 (RLc_la h).2, fun w m hS => ?_⟩
      have hO := p3_y hS hA hB
      rw [ek, ej] at hO
      refine ⟨hO.1.symm, hO.2.1, _, _, _, _, _, _, RLc_do (wd := 4) (n := fun q => if q = 0 then nI k else if q = 1 then nI j else if q = 2 then x else y) h (by decide) (by decide) ⟨⟨(lp_iff (HV_s h)).mp hA.1, hA.2⟩, hB⟩ ?_ hO (fun _ _ _ _ => rfl) rfl rfl rfl⟩
      show mvc (saveM V la cn) 0 (4 * tn (nI k) + tn (nI j)) x y = _
      rw [ek, ej]
    · exact Or.inr (Or.inr ⟨x_X6_setCorner_Argument n i x y V ⟨⟨(lp_iff (HV_r h)).mp hA.1, hA.2⟩, hB⟩, _, e_X7_setCorner V c r lc cn n i x y μ h.2.1 h.2.2.1 (RLc_la h).2, fun w m hS => p3_b h hS hA hB⟩)
  · exact Or.inr (Or.inl ⟨x_X6_setCorner_Index n i x y V (fun z => hA ⟨(lp_iff (HV_r h)).mpr z.1, z.2⟩), _, e_X7_setCorner V c r lc cn n i x y μ h.2.1 h.2.2.1 (RLc_la h).2, fun w m hS => p3_a h hS hA⟩)
theorem s_setRectangle (h : REL V μ) (n x y u v : Int32) : SR mX6_setRectangle mX7_setRectangle [.int n, .int x, .int y, .int u, .int v] V μ ∨ ST xI 1 xX6_setRectangle mX7_setRectangle [.int n, .int x, .int y, .int u, .int v] V μ ∨ ST xA 2 xX6_setRectangle mX7_setRectangle [.int n, .int x, .int y, .int u, .int v] V μ := by
  obtain ⟨c, r, lc, la, cn, L, h⟩ := h
  have h8 := RLc_8 h
  have hl := RLc_la h
  by_cases hA : LPn lc n
  · by_cases hB : rcOK x y u v
    · left
      obtain ⟨k, hk, rfl⟩ := nat_lt hA.1 hA.2 (by omega)
      have ek : tn (nI k) = k := nI_clamp (by omega)
      refine ⟨_, e_X6_setRectangle c r lc la cn k x y u v V h.1 hk hB, ?_⟩
      rintro a V2 ⟨rfl, hR⟩
      refine ⟨_, e_X7_setRectangle (saveM V la cn) c r lc cn (nI k) x y u v μ (MI_s h) h.2.2.1 hl.2, fun w m hS => ?_⟩
      have hO := p3_y hS hA hB
      rw [ek] at hO
      have ho : ∀ p q, p ≠ 13 → p ≠ 14 → ¬ (p = 0 ∧ q = 6) → rectM (saveM V la cn) k x y u v p q = saveM V la cn p q := fun p q => rectM_out
      have e105 : ∀ q, rectM (saveM V la cn) k x y u v 105 q = V 105 q := fun q => (ho _ _ (by decide) (by decide) (by omega)).trans (saveM_out hl.1 (by omega))
      have hC : CIv (rectM (saveM V la cn) k x y u v) c r lc ((la + 1) % 4) (if cn < 4 then cn + 1 else 4) := CIv_1 (CIv_save h.1) (fun q hq => ho _ _ (by decide) (by decide) (by omega)) (fun q => ho _ _ (by decide) (by decide) (by omega)) (mvc_6 _ _ _ _)
      have hR2 := RLc_sv h hC hO (fun _ _ _ _ => rfl) (fun p q h1 h2 => ho _ _ (by omega) (by omega) (by omega)) (TX_same h.2.2.2.1 ((ho _ _ (by decide) (by decide) (by omega)).trans (saveM_out hl.1 (by omega))) e105) (bt_same e105)
      exact ⟨hO.1.symm, hO.2.1, _, _, _, _, _, _, RLc_rf hR2 (RfP_Rf0 hR) KP_r⟩
    · exact Or.inr (Or.inr ⟨x_X6_setRectangle_Argument n x y u v V ⟨(lp_iff (HV_r h)).mp hA, hB⟩, _, e_X7_setRectangle V c r lc cn n x y u v μ h.2.1 h.2.2.1 hl.2, fun w m hS => p3_b h hS hA hB⟩)
  · exact Or.inr (Or.inl ⟨x_X6_setRectangle_Index n x y u v V (fun z => hA ((lp_iff (HV_r h)).mpr z)), _, e_X7_setRectangle V c r lc cn n x y u v μ h.2.1 h.2.2.1 hl.2, fun w m hS => p3_a h hS hA⟩)
theorem s_setLamp (h : REL V μ) (n w v : Int32) : SR mX6_setLamp mX7_setLamp [.int n, .int w, .int v] V μ ∨ ST xI 1 xX6_setLamp mX7_setLamp [.int n, .int w, .int v] V μ ∨ ST xA 2 xX6_setLamp mX7_setLamp [.int n, .int w, .int v] V μ := by
  obtain ⟨c, r, lc, la, cn, L, h⟩ := h
  have h8 := RLc_8 h
  have hl := RLc_la h
  by_cases hA : LPn lc n
  · by_cases hB : lvOK w v
    · left
      obtain ⟨k, hk, rfl⟩ := nat_lt hA.1 hA.2 (by omega)
      obtain ⟨j, hj, rfl⟩ := nat_le (n := 2) rfl hB.1 (by omega)
      have ek : tn (nI k) = k := nI_clamp (by omega)
      have ej : tn (nI j) = j := nI_clamp (by omega)
      refine ⟨_, e_X6_setLamp c r lc la cn k j v V h.1 hk (by omega) hB, ?_⟩
      rintro a V2 ⟨rfl, m0, hR, rfl⟩
      refine ⟨_, e_X7_setLamp (saveM V la cn) c r lc cn (nI k) (nI j) v μ (MI_s h) h.2.2.1 hl.2, fun w m hS => ?_⟩
      have hO := p3_y hS hA hB
      rw [ek, ej] at hO
      have ho : ∀ p q, ¬ (9 ≤ p ∧ p < 12) → ¬ (p = 0 ∧ q = 6) → (p < 75 ∨ 102 ≤ p) → uM (uM m0 (0 + 9 + j) k v) 0 6 1 p q = saveM V la cn p q := fun p q h1 h2 h3 => by
        rw [uM_n h2, uM_n (by omega)]; exact hR.2.2 p q h2 (by omega) (by omega) (by omega)
      have e105 : ∀ q, uM (uM m0 (0 + 9 + j) k v) 0 6 1 105 q = V 105 q := fun q => (ho _ _ (by omega) (by omega) (by omega)).trans (saveM_out hl.1 (by omega))
      refine ⟨hO.1.symm, hO.2.1, _, _, _, _, _, _, RLc_sv h (CIv_1 (CIv_save h.1) (fun q hq => ho _ _ (by omega) (by omega) (by omega)) (fun q => ho _ _ (by omega) (by omega) (by omega)) (uM_s _ _ _ _)) hO (fun p q hp h0 => ?_) (fun p q h1 h2 => ho _ _ (by omega) (by omega) (by omega)) (TX_same h.2.2.2.1 ((ho _ _ (by omega) (by omega) (by omega)).trans (saveM_out hl.1 (by omega))) e105) (bt_same e105)⟩
      rw [uM_n h0, uM_n h0]
      by_cases e : p = 9 + j ∧ q = k
      · obtain ⟨rfl, rfl⟩ := e
        rw [show 0 + 9 + j = 9 + j by omega, uM_s, uM_s]
      · rw [uM_n (by omega), uM_n e]; exact hR.2.2 p q h0 (by omega) (by omega) (by omega)
    · exact Or.inr (Or.inr ⟨x_X6_setLamp_Argument n w v V ⟨(lp_iff (HV_r h)).mp hA, hB⟩, _, e_X7_setLamp V c r lc cn n w v μ h.2.1 h.2.2.1 hl.2, fun w m hS => p3_b h hS hA hB⟩)
  · exact Or.inr (Or.inl ⟨x_X6_setLamp_Index n w v V (fun z => hA ((lp_iff (HV_r h)).mpr z)), _, e_X7_setLamp V c r lc cn n w v μ h.2.1 h.2.2.1 hl.2, fun w m hS => p3_a h hS hA⟩)
theorem s_setWorks (h : REL V μ) (n z : Int32) : SR mX6_setWorks mX7_setWorks [.int n, .int z] V μ ∨ ST xI 1 xX6_setWorks mX7_setWorks [.int n, .int z] V μ := by
  obtain ⟨c, r, lc, la, cn, L, h⟩ := h
  have h8 := RLc_8 h
  have hl := RLc_la h
  by_cases hA : LPn lc n
  · left
    obtain ⟨k, hk, rfl⟩ := nat_lt hA.1 hA.2 (by omega)
    have ek : tn (nI k) = k := nI_clamp (by omega)
    refine ⟨_, e_X6_setWorks c r lc la cn k z V h.1 hk, ?_⟩
    rintro v V2 ⟨rfl, rfl⟩
    refine ⟨_, e_X7_setWorks (saveM V la cn) c r lc cn (nI k) z μ (MI_s h) h.2.2.1 hl.2, fun w m hS => ?_⟩
    have hO := p2_y hS hA
    rw [ek] at hO
    have ew : wkB (saveM V la cn) 0 k = wkB V 0 k := by
      unfold wkB; rw [show saveM V la cn (0 + 12) k = V (0 + 12) k from saveM_out hl.1 (by omega)]
    suffices hX : RLc (uM (uM (saveM V la cn) 12 k (if z = 0 then 0 else 1)) 0 6 1) m c r lc ((la + 1) % 4) (if cn < 4 then cn + 1 else 4) L from ⟨by rw [← hO.1, ew], hO.2.1, _, _, _, _, _, _, hX⟩
    by_cases hz : z = 0
    · rw [if_pos hz] at hO ⊢
      exact RLc_do (wd := 6) (n := fun _ => nI k) h (by decide) (by decide) ((lp_iff (HV_s h)).mp hA) (by show uM (uM (saveM V la cn) 12 (tn (nI k)) 0) 0 6 1 = _; rw [ek]) hO (fun _ _ _ _ => rfl) rfl rfl rfl
    · rw [if_neg hz] at hO ⊢
      exact RLc_do (wd := 7) (n := fun _ => nI k) h (by decide) (by decide) ((lp_iff (HV_s h)).mp hA) (by show uM (uM (saveM V la cn) 12 (tn (nI k)) 1) 0 6 1 = _; rw [ek]) hO (fun _ _ _ _ => rfl) rfl rfl rfl
  · exact Or.inr ⟨x_X6_setWorks_Index n z V (fun z => hA ((lp_iff (HV_r h)).mpr z)), _, e_X7_setWorks V c r lc cn n z μ h.2.1 h.2.2.1 hl.2, fun w m hS => p2_n h hS hA⟩
theorem s_shift (h : REL V μ) (a b : Int32) : SR mX6_shift mX7_shift [.int a, .int b] V μ ∨ ST xA 1 xX6_shift mX7_shift [.int a, .int b] V μ := by
  obtain ⟨c, r, lc, la, cn, L, h⟩ := h
  by_cases hw : shOK a b
  · refine Or.inl ⟨_, e_X6_shift c r lc la cn a b V h.1 hw, ?_⟩
    rintro v V2 ⟨rfl, hR⟩
    refine ⟨_, e_X7_shift (saveM V la cn) c r lc cn a b μ (MI_s h) h.2.2.1 (RLc_la h).2, fun w m hS => ?_⟩
    have hO := p2_y hS hw
    have h2 := RLc_do (wd := 5) (n := fun j => if j = 0 then a else b) h (by decide) (by decide) hw rfl hO (fun _ _ _ _ => rfl) rfl rfl rfl
    exact ⟨hO.1.symm, hO.2.1, _, _, _, _, _, _, RLc_rf h2 (RfP_Rf0 hR) KP_r⟩
  · exact Or.inr ⟨x_X6_shift_Argument a b V hw, _, e_X7_shift V c r lc cn a b μ h.2.1 h.2.2.1 (RLc_la h).2, fun w m hS => p2_n h hS hw⟩
theorem s_burn (h : REL V μ) (a : Int32) : SR mX6_burn mX7_burn [.int a] V μ ∨ ST xA 1 xX6_burn mX7_burn [.int a] V μ := by
  obtain ⟨c, r, lc, la, cn, L, h⟩ := h
  by_cases hw : rgI a 1 9999
  · refine Or.inl ⟨_, e_X6_burn c r lc la cn a V h.1 hw, ?_⟩
    rintro v V2 ⟨m0, hR, hB, rfl⟩
    refine ⟨_, e_X7_burn (saveM V la cn) c r lc cn a μ (MI_s h) h.2.2.1 (RLc_la h).2, fun w m hS => ?_⟩
    have hO := p2_y hS hw
    refine ⟨?_, hO.2.1, _, _, _, _, _, _, RLc_do (wd := 8) (n := fun _ => a) h (by decide) (by decide) hw ⟨m0, hR, hB⟩ hO (fun p q hp h0 => by rw [← hB]; exact burn_V hR p q hp h0) rfl rfl rfl⟩
    rw [← hO.1, ← hB]
    exact maxN_congr fun k _ => ((burn_V hR 11 k (by decide) (by omega)).trans (uM_n (by omega))).symm
  · exact Or.inr ⟨x_X6_burn_Argument a V hw, _, e_X7_burn V c r lc cn a μ h.2.1 h.2.2.1 (RLc_la h).2, fun w m hS => p2_n h hS hw⟩
theorem s_undo (h : REL V μ) : SR mX6_undo mX7_undo [] V μ ∨ ST xS 1 xX6_undo mX7_undo [] V μ := by
  obtain ⟨c, r, lc, la, cn, L, h⟩ := h
  have hl := RLc_la h
  cases cn with
  | zero =>
    refine Or.inr ⟨x_X6_undo_State V (by rw [h.1.2.2.2.2.1]; decide), _, e_X7_undo 0 μ h.2.2.1 hl.2, ?_⟩
    rintro w m (⟨_, rfl⟩ | ⟨h0, _⟩)
    · exact ⟨uM_s _ _ _ _, _, _, _, _, _, _, RLc_k h KP_u⟩
    · exact absurd rfl h0
  | succ cn =>
    refine Or.inl ⟨_, e_X6_undo c r lc la cn V h.1, ?_⟩
    rintro v V2 ⟨rfl, rfl⟩
    refine ⟨_, e_X7_undo (cn + 1) μ h.2.2.1 hl.2, ?_⟩
    rintro w m (⟨h0, _⟩ | ⟨_, rfl, rfl⟩)
    · exact absurd h0 (by omega)
    · obtain ⟨c2, r2, l2, h2⟩ := RLc_un h
      exact ⟨rfl, uM_s _ _ _ _, _, _, _, _, _, _, h2⟩
end
