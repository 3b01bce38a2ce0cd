section
variable {V μ m : Mm} {c r lc la cn L : Nat}
theorem s_place (h : REL V μ) (x y w : Int32) : SR mX6_place mX7_place [.int x, .int y, .int w] V μ ∨ ST xI 1 xX6_place mX7_place [.int x, .int y, .int w] V μ ∨ ST xA 2 xX6_place mX7_place [.int x, .int y, .int w] V μ := by
  obtain ⟨c, r, lc, la, cn, L, h⟩ := h
  have h8 := RLc_8 h
  by_cases hA : PL c r x y
  · by_cases hB : rgI w 0 5
    · left
      obtain ⟨X1, hX, rfl⟩ := nat_lt hA.1.1 hA.1.2 (by omega)
      obtain ⟨Y1, hY, rfl⟩ := nat_lt hA.2.1 hA.2.2 (by omega)
      obtain ⟨j, hj, rfl⟩ := nat_le (n := 5) rfl hB (by omega)
      have eX : tn (nI X1) = X1 := nI_clamp (by omega)
      have eY : tn (nI Y1) = Y1 := nI_clamp (by omega)
      have ej : tn (nI j) = j := nI_clamp (by omega)
      refine ⟨_, e_X6_place c r lc la cn X1 Y1 j V h.1 hX hY hj, ?_⟩
      rintro v V2 ⟨rfl, hR⟩
      refine ⟨_, e_X7_place V c r lc (nI X1) (nI Y1) (nI j) μ h.2.1, fun w m hS => ?_⟩
      have hO := q3_y hS hA hB
      rw [eX, eY, ej] at hO
      exact ⟨hO.1.symm, hO.2.1, _, _, _, _, _, _, RLc_rf h (RfP_Rf0 hR) hO.2.2⟩
    · exact Or.inr (Or.inr ⟨x_X6_place_Argument x y w V ⟨(pl_iff (HV_r h)).mp hA, hB⟩, _, e_X7_place V c r lc x y w μ h.2.1, fun w m hS => q3_b h hS hA hB⟩)
  · exact Or.inr (Or.inl ⟨x_X6_place_Index x y w V (fun z => hA ((pl_iff (HV_r h)).mpr z)), _, e_X7_place V c r lc x y w μ h.2.1, fun w m hS => q3_a h hS hA⟩)
theorem s_light (h : REL V μ) (n x y : Int32) : SR mX6_light mX7_light [.int n, .int x, .int y] V μ ∨ ST xI 1 xX6_light mX7_light [.int n, .int x, .int y] V μ := by
  obtain ⟨c, r, lc, la, cn, L, h⟩ := h
  have h8 := RLc_8 h
  by_cases hA : LPn lc n
  · by_cases hB : PL c r x y
    · left
      obtain ⟨k, hk, rfl⟩ := nat_lt hA.1 hA.2 (by omega)
      obtain ⟨X1, hX, rfl⟩ := nat_lt hB.1.1 hB.1.2 (by omega)
      obtain ⟨Y1, hY, rfl⟩ := nat_lt hB.2.1 hB.2.2 (by omega)
      have ek : tn (nI k) = k := nI_clamp (by omega)
      have eX : tn (nI X1) = X1 := nI_clamp (by omega)
      have eY : tn (nI Y1) = Y1 := nI_clamp (by omega)
      refine ⟨_, e_X6_light c r lc la cn k X1 Y1 V h.1 hk hX hY, ?_⟩
      rintro v V2 ⟨rfl, hR⟩
      refine ⟨_, e_X7_light V c r lc (nI k) (nI X1) (nI Y1) μ h.2.1, fun w m hS => ?_⟩
      have hO := q2_y hS ⟨hA, hB⟩
      rw [ek, eX, eY] at hO
      exact ⟨hO.1.symm, hO.2.1, _, _, _, _, _, _, RLc_rf h (RfP_Rf0 hR) hO.2.2⟩
    · exact Or.inr ⟨x_X6_light_Index2 n x y V ⟨(lp_iff (HV_r h)).mp hA, fun z => hB ((pl_iff (HV_r h)).mpr z)⟩, _, e_X7_light V c r lc n x y μ h.2.1, fun w m hS => q2_n h hS (fun z => hB z.2)⟩
  · exact Or.inr ⟨x_X6_light_Index n x y V (fun z => hA ((lp_iff (HV_r h)).mpr z)), _, e_X7_light V c r lc n x y μ h.2.1, fun w m hS => q2_n h hS (fun z => hA z.1)⟩
theorem s_weight (h : REL V μ) (n x y : Int32) : SR mX6_weight mX7_weight [.int n, .int x, .int y] V μ ∨ ST xI 1 xX6_weight mX7_weight [.int n, .int x, .int y] V μ := by
  obtain ⟨c, r, lc, la, cn, L, h⟩ := h
  have h8 := RLc_8 h
  by_cases hA : LPn lc n
  · by_cases hB : PL c r x y
    · left
      obtain ⟨k, hk, rfl⟩ := nat_lt hA.1 hA.2 (by omega)
      obtain ⟨X1, hX, rfl⟩ := nat_lt hB.1.1 hB.1.2 (by omega)
      obtain ⟨Y1, hY, rfl⟩ := nat_lt hB.2.1 hB.2.2 (by omega)
      have ek : tn (nI k) = k := nI_clamp (by omega)
      have eX : tn (nI X1) = X1 := nI_clamp (by omega)
      have eY : tn (nI Y1) = Y1 := nI_clamp (by omega)
      refine ⟨_, e_X6_weight c r lc la cn k X1 Y1 V h.1 hk hX hY, ?_⟩
      rintro v V2 ⟨rfl, hR⟩
      refine ⟨_, e_X7_weight V c r lc (nI k) (nI X1) (nI Y1) μ h.2.1, fun w m hS => ?_⟩
      have hO := q2_y hS ⟨hA, hB⟩
      rw [ek, eX, eY] at hO
      exact ⟨hO.1.symm, hO.2.1, _, _, _, _, _, _, RLc_rf h (RfP_Rf0 hR) hO.2.2⟩
    · exact Or.inr ⟨x_X6_weight_Index2 n x y V ⟨(lp_iff (HV_r h)).mp hA, fun z => hB ((pl_iff (HV_r h)).mpr z)⟩, _, e_X7_weight V c r lc n x y μ h.2.1, fun w m hS => q2_n h hS (fun z => hB z.2)⟩
  · exact Or.inr ⟨x_X6_weight_Index n x y V (fun z => hA ((lp_iff (HV_r h)).mpr z)), _, e_X7_weight V c r lc n x y μ h.2.1, fun w m hS => q2_n h hS (fun z => hA z.1)⟩
theorem s_lamp (h : REL V μ) (n w : Int32) : SR mX6_lamp mX7_lamp [.int n, .int w] V μ ∨ ST xI 1 xX6_lamp mX7_lamp [.int n, .int w] V μ ∨ ST xA 2 xX6_lamp mX7_lamp [.int n, .int w] V μ := by
  obtain ⟨c, r, lc, la, cn, L, h⟩ := h
  have h8 := RLc_8 h
  by_cases hA : LPn lc n
  · by_cases hB : rgI w 0 11
    · left
      obtain ⟨k, hk, rfl⟩ := nat_lt hA.1 hA.2 (by omega)
      obtain ⟨j, hj, rfl⟩ := nat_le (n := 11) rfl hB (by omega)
      have ek : tn (nI k) = k := nI_clamp (by omega)
      have ej : tn (nI j) = j := nI_clamp (by omega)
      refine ⟨_, e_X6_lamp c r lc la cn k j V h.1 hk hj, ?_⟩
      rintro v V2 ⟨rfl, hR⟩
      refine ⟨_, e_X7_lamp V c r lc (nI k) (nI j) μ h.2.1, fun w m hS => ?_⟩
      have hO := q3_y hS hA hB
      rw [ek, ej] at hO
      exact ⟨hO.1.symm, hO.2.1, _, _, _, _, _, _, RLc_rf h (RfP_Rf0 hR) hO.2.2⟩
    · exact Or.inr (Or.inr ⟨x_X6_lamp_Argument n w V ⟨(lp_iff (HV_r h)).mp hA, hB⟩, _, e_X7_lamp V c r lc n w μ h.2.1, fun w m hS => q3_b h hS hA hB⟩)
  · exact Or.inr (Or.inl ⟨x_X6_lamp_Index n w V (fun z => hA ((lp_iff (HV_r h)).mpr z)), _, e_X7_lamp V c r lc n w μ h.2.1, fun w m hS => q3_a h hS hA⟩)
theorem s_corner (h : REL V μ) (n i a : Int32) : SR mX6_corner mX7_corner [.int n, .int i, .int a] V μ ∨ ST xI 1 xX6_corner mX7_corner [.int n, .int i, .int a] V μ ∨ ST xA 2 xX6_corner mX7_corner [.int n, .int i, .int a] V μ := by
  obtain ⟨c, r, lc, la, cn, L, h⟩ := h
  have h8 := RLc_8 h
  by_cases hA : LPn lc n
  · by_cases hI : rgI i 0 3
    · by_cases hB : rgI a 0 1
      · left
        obtain ⟨k, hk, rfl⟩ := nat_lt hA.1 hA.2 (by omega)
        obtain ⟨j, hj, rfl⟩ := nat_le (n := 3) rfl hI (by omega)
        obtain ⟨b, hb, rfl⟩ := nat_le (n := 1) rfl hB (by omega)
        have ek : tn (nI k) = k := nI_clamp (by omega)
        have ej : tn (nI j) = j := nI_clamp (by omega)
        refine ⟨_, e_X6_corner c r lc la cn k j b V h.1 hk (by omega) (by omega), ?_⟩
        rintro v V2 ⟨rfl, rfl⟩
        refine ⟨_, e_X7_corner V c r lc (nI k) (nI j) (nI b) μ h.2.1, fun w m hS => ?_⟩
        have hO := q3_y hS ⟨hA, hI⟩ hB
        rw [ek, ej] at hO
        refine ⟨hO.1.symm.trans ?_, hO.2.1, _, _, _, _, _, _, RLc_k h hO.2.2⟩
        by_cases e : b = 0
        · rw [if_pos e, if_pos (by rw [e]; rfl)]
        · rw [if_neg (fun z => e ((nI_eq (b := 0) (by omega) (by decide)).mp z) : ¬ nI b = 0), if_neg e]
      · exact Or.inr (Or.inr ⟨x_X6_corner_Argument n i a V ⟨⟨(lp_iff (HV_r h)).mp hA, hI⟩, hB⟩, _, e_X7_corner V c r lc n i a μ h.2.1, fun w m hS => q3_b h hS ⟨hA, hI⟩ hB⟩)
    · exact Or.inr (Or.inl ⟨x_X6_corner_Index2 n i a V ⟨(lp_iff (HV_r h)).mp hA, hI⟩, _, e_X7_corner V c r lc n i a μ h.2.1, fun w m hS => q3_a h hS (fun z => hI z.2)⟩)
  · exact Or.inr (Or.inl ⟨x_X6_corner_Index n i a V (fun z => hA ((lp_iff (HV_r h)).mpr z)), _, e_X7_corner V c r lc n i a μ h.2.1, fun w m hS => q3_a h hS (fun z => hA z.1)⟩)
theorem s_whole (h : REL V μ) (w : Int32) : SR mX6_whole mX7_whole [.int w] V μ ∨ ST xA 1 xX6_whole mX7_whole [.int w] V μ := by
  obtain ⟨c, r, lc, la, cn, L, h⟩ := h
  by_cases hB : rgI w 0 14
  · left
    obtain ⟨j, hj, rfl⟩ := nat_le (n := 14) rfl hB (by omega)
    have ej : tn (nI j) = j := nI_clamp (by omega)
    refine ⟨_, e_X6_whole c r lc la cn j V h.1 hj, ?_⟩
    rintro v V2 ⟨rfl, hR⟩
    refine ⟨_, e_X7_whole V c r lc (nI j) μ h.2.1 (HV_r h), fun w m hS => ?_⟩
    have hO := q2_y hS hB
    rw [ej] at hO
    exact ⟨by rw [← hO.1, h.2.2.2.1.1, h.2.2.2.2.1.1], hO.2.1, _, _, _, _, _, _, RLc_rf h (RfP_Rf0 hR) hO.2.2⟩
  · exact Or.inr ⟨x_X6_whole_Argument w V hB, _, e_X7_whole V c r lc w μ h.2.1 (HV_r h), fun w m hS => q2_n h hS hB⟩
theorem s_wrong (h : REL V μ) (i : Int32) : SR mX6_wrong mX7_wrong [.int i] V μ ∨ ST xA 1 xX6_wrong mX7_wrong [.int i] V μ := by
  obtain ⟨c, r, lc, la, cn, L, h⟩ := h
  by_cases hB : i < 0
  · exact Or.inr ⟨x_X6_wrong_Argument i V hB, _, e_X7_wrong V c r lc i μ h.2.1, fun w m hS => q2_n h hS (fun z => z hB)⟩
  · refine Or.inl ⟨_, e_X6_wrong c r lc la cn i V h.1 hB, ?_⟩
    rintro v V2 ⟨rfl, hR⟩
    refine ⟨_, e_X7_wrong V c r lc i μ h.2.1, fun w m hS => ?_⟩
    have hO := q2_y hS hB
    exact ⟨hO.1.symm, hO.2.1, _, _, _, _, _, _, RLc_rf h (RfP_Rf0 hR) hO.2.2⟩
theorem s_wrongWithout (h : REL V μ) (n : Int32) : SR mX6_wrongWithout mX7_wrongWithout [.int n] V μ ∨ ST xI 1 xX6_wrongWithout mX7_wrongWithout [.int n] V μ := by
  obtain ⟨c, r, lc, la, cn, L, h⟩ := h
  have h8 := RLc_8 h
  by_cases hA : LPn lc n
  · left
    obtain ⟨k, hk, rfl⟩ := nat_lt hA.1 hA.2 (by omega)
    have ek : tn (nI k) = k := nI_clamp (by omega)
    refine ⟨_, e_X6_wrongWithout c r lc la cn k V h.1 hk, ?_⟩
    rintro v V2 ⟨rfl, hR⟩
    refine ⟨_, e_X7_wrongWithout V c r lc (nI k) μ h.2.1, fun w m hS => ?_⟩
    have hO := q2_y hS hA
    rw [ek] at hO
    exact ⟨hO.1.symm, hO.2.1, _, _, _, _, _, _, RLc_so h hR hO.2.2⟩
  · exact Or.inr ⟨x_X6_wrongWithout_Index n V (fun z => hA ((lp_iff (HV_r h)).mpr z)), _, e_X7_wrongWithout V c r lc n μ h.2.1, fun w m hS => q2_n h hS hA⟩
theorem s_dearestLamp (h : REL V μ) : SR mX6_dearestLamp mX7_dearestLamp [] V μ := by
  obtain ⟨c, r, lc, la, cn, L, h⟩ := h
  refine ⟨_, e_X6_dearestLamp c r lc la cn V h.1, ?_⟩
  rintro v V2 ⟨rfl, hR⟩
  exact ⟨_, e_X7_dearestLamp V c r lc μ h.2.1, fun w m hO => ⟨hO.1.symm, hO.2.1, _, _, _, _, _, _, RLc_so h hR hO.2.2⟩⟩
theorem s_wrongShifted (h : REL V μ) (a b : Int32) : SR mX6_wrongShifted mX7_wrongShifted [.int a, .int b] V μ ∨ ST xA 1 xX6_wrongShifted mX7_wrongShifted [.int a, .int b] V μ := by
  obtain ⟨c, r, lc, la, cn, L, h⟩ := h
  by_cases hB : shOK a b
  · refine Or.inl ⟨_, e_X6_wrongShifted c r lc la cn a b V h.1 hB, ?_⟩
    rintro v V2 ⟨rfl, hR⟩
    refine ⟨_, e_X7_wrongShifted V c r lc a b μ h.2.1, fun w m hS => ?_⟩
    have hO := q2_y hS hB
    exact ⟨hO.1.symm, hO.2.1, _, _, _, _, _, _, RLc_so h hR hO.2.2⟩
  · exact Or.inr ⟨x_X6_wrongShifted_Argument a b V hB, _, e_X7_wrongShifted V c r lc a b μ h.2.1, fun w m hS => q2_n h hS hB⟩
theorem s_bestShift (h : REL V μ) (a : Int32) : SR mX6_bestShift mX7_bestShift [.int a] V μ ∨ ST xA 1 xX6_bestShift mX7_bestShift [.int a] V μ := by
  obtain ⟨c, r, lc, la, cn, L, h⟩ := h
  by_cases hB : rgI a 0 3
  · left
    obtain ⟨k, hk, rfl⟩ := nat_le (n := 3) rfl hB (by omega)
    have ek : tn (nI k) = k := nI_clamp (by omega)
    refine ⟨_, e_X6_bestShift c r lc la cn k V h.1 hk, ?_⟩
    rintro v V2 ⟨rfl, hR⟩
    refine ⟨_, e_X7_bestShift V c r lc (nI k) μ h.2.1, fun w m hS => ?_⟩
    have hO := q2_y hS hB
    rw [ek] at hO
    exact ⟨hO.1.symm, hO.2.1, _, _, _, _, _, _, RLc_so h hR hO.2.2⟩
  · exact Or.inr ⟨x_X6_bestShift_Argument a V hB, _, e_X7_bestShift V c r lc a μ h.2.1, fun w m hS => q2_n h hS hB⟩
theorem s_neededLimit (h : REL V μ) (n : Int32) : SR mX6_neededLimit mX7_neededLimit [.int n] V μ ∨ ST xI 1 xX6_neededLimit mX7_neededLimit [.int n] V μ := by
  obtain ⟨c, r, lc, la, cn, L, h⟩ := h
  have h8 := RLc_8 h
  by_cases hA : LPn lc n
  · left
    obtain ⟨k, hk, rfl⟩ := nat_lt hA.1 hA.2 (by omega)
    have ek : tn (nI k) = k := nI_clamp (by omega)
    refine ⟨_, e_X6_neededLimit c r lc la cn k V h.1 hk, ?_⟩
    rintro v V2 ⟨rfl, hR⟩
    refine ⟨_, e_X7_neededLimit V c r lc (nI k) μ h.2.1, fun w m hS => ?_⟩
    have hO := q2_y hS hA
    rw [ek] at hO
    exact ⟨hO.1.symm, hO.2.1, _, _, _, _, _, _, RLc_rf h (RfP_Rf0 hR) hO.2.2⟩
  · exact Or.inr ⟨x_X6_neededLimit_Index n V (fun z => hA ((lp_iff (HV_r h)).mpr z)), _, e_X7_neededLimit V c r lc n μ h.2.1, fun w m hS => q2_n h hS hA⟩
/-! the text -/
theorem RLc_tx {V2 : Mm} {L2 : Nat} (h : RLc V μ c r lc la cn L) (hs : ∀ p q : Nat, p ≠ 102 → p ≠ 105 → V2 p q = V p q) (hk : ∀ p q : Nat, p ≠ 4 → ¬ (p = 0 ∧ (q = 5 ∨ q = 6)) → m p q = μ p q) (hT : TX V2 L2) (hM : TM (bt V2) L2 m) : RLc V2 m c r lc la cn L2 := by
  obtain ⟨g1, g2, g3, g4, g5, g6⟩ := h
  refine ⟨?_, MI_e (MI_V g2 (fun p q hp h0 => hs p q (by omega) (by omega))) (funext fun q => hk 1 q (by decide) (by omega)) (hk 0 8 (by decide) (by decide)), (hk 0 3 (by decide) (by decide)).trans g3, hT, hM, fun j hj => ?_⟩
  · obtain ⟨hc, hr, hlc, hla, hcn, g, hv⟩ := g1
    refine ⟨(hs _ _ (by decide) (by decide)).trans hc, (hs _ _ (by decide) (by decide)).trans hr, (hs _ _ (by decide) (by decide)).trans hlc, (hs _ _ (by decide) (by decide)).trans hla, (hs _ _ (by decide) (by decide)).trans hcn, g, fun h0 => ?_⟩
    rw [hs _ _ (by decide) (by decide)] at h0
    exact SVok_same (hv h0) (fun j q _ _ => hs _ _ (by omega) (by omega)) (hs _ _ (by decide) (by decide)) (hs _ _ (by decide) (by decide)) (hs _ _ (by decide) (by decide)) (fun p q h1 h2 => hs _ _ (by omega) (by omega))
  · have hlo : 15 ≤ slP la cn j ∧ slP la cn j + 15 ≤ 75 := by unfold slP; omega
    exact SREP_f (SREP_V (g6 j hj) (fun p q h1 h2 _ => hs p q (by omega) (by omega))) (fun q hq => hk 2 _ (by decide) (by omega))
theorem s_type (h : REL V μ) (v : Int32) : SR mX6_type mX7_type [.int v] V μ ∨ ST xA 1 xX6_type mX7_type [.int v] V μ ∨ ST xS 2 xX6_type mX7_type [.int v] V μ := by
  obtain ⟨c, r, lc, la, cn, L, h⟩ := h
  have hT := h.2.2.2.1
  have hM := h.2.2.2.2.1
  by_cases hA : rgI v 0 127
  · by_cases hB : L < 150
    · refine Or.inl ⟨_, e_X6_type L v V hA hT.1 hB, ?_⟩
      rintro a V2 ⟨rfl, rfl⟩
      refine ⟨_, e_X7_type L v μ hM.1 hT.2.1, fun w m hS => ?_⟩
      rcases hS with ⟨hn, _⟩ | ⟨_, hn, _⟩ | ⟨_, _, rfl, rfl⟩
      · exact absurd hA hn
      · exact absurd hB hn
      · have eb : ∀ i, bt (uM (uM V 105 L v) 102 2 (nI (L + 1))) i = if i = L then v else bt V i := fun i => by
          unfold bt
          by_cases e : i = L
          · subst e
            rw [if_pos hB, if_pos rfl, uM_n (by omega), uM_s]
          · rw [if_neg e, uM_n (by omega), uM_n (by omega)]
        have hz : ∀ i, L + 1 ≤ i → bt (uM (uM V 105 L v) 102 2 (nI (L + 1))) i = 0 := fun i hi => by
          rw [eb, if_neg (by omega)]; exact hT.2.2 i (by omega)
        refine ⟨rfl, uM_s _ _ _ _, _, _, _, _, _, _, RLc_tx (L2 := L + 1) h (fun p q h1 h2 => by rw [uM_n (by omega), uM_n (by omega)]) (fun p q h1 h2 => by rw [uM_n (by omega), uM_n (by omega), uM_n (by omega)]) ⟨uM_s _ _ _ _, by omega, hz⟩ ⟨?_, by omega, fun i hi => ?_, hz⟩⟩
        · rw [uM_n (by omega), uM_s]
        · rw [eb, uM_n (by omega), uM_n (by omega)]
          by_cases e : i = L
          · subst e; rw [uM_s, if_pos rfl]
          · rw [uM_n (by omega), if_neg e]; exact hM.2.2.1 i (by omega)
    · refine Or.inr (Or.inr ⟨x_X6_type_State v V ⟨hA, fun z => hB ?_⟩, _, e_X7_type L v μ hM.1 hT.2.1, fun w m hS => ?_⟩)
      · rw [hT.1] at z
        exact (nI_ltI (b := 150) (by have := hT.2.1; omega) (by decide)).mp z
      · rcases hS with ⟨hn, _⟩ | ⟨_, _, h6, hk⟩ | ⟨_, hn, _⟩
        · exact absurd hA hn
        · exact ⟨h6, _, _, _, _, _, _, RLc_k h hk⟩
        · exact absurd hn hB
  · refine Or.inr (Or.inl ⟨x_X6_type_Argument v V hA, _, e_X7_type L v μ hM.1 hT.2.1, fun w m hS => ?_⟩)
    rcases hS with ⟨_, h6, hk⟩ | ⟨hn, _⟩ | ⟨hn, _⟩
    · exact ⟨h6, _, _, _, _, _, _, RLc_k h hk⟩
    · exact absurd hn hA
    · exact absurd hn hA
theorem s_clearCommands (h : REL V μ) : SR mX6_clearCommands mX7_clearCommands [] V μ := by
  obtain ⟨c, r, lc, la, cn, L, h⟩ := h
  have hT := h.2.2.2.1
  have hM := h.2.2.2.2.1
  refine ⟨_, e_X6_clearCommands V, ?_⟩
  rintro v V2 ⟨rfl, rfl⟩
  refine ⟨_, e_X7_clearCommands μ, ?_⟩
  rintro w m ⟨rfl, rfl⟩
  have hz : ∀ i, 0 ≤ i → bt (setRow (uM V 102 2 0) 105 150 (fun _ => 0)) i = 0 := fun i _ => by
    unfold bt
    by_cases e : i < 150
    · rw [if_pos e, setRow_in e]
    · rw [if_neg e]
  refine ⟨hM.1.trans hT.1.symm, uM_s _ _ _ _, _, _, _, _, _, _, RLc_tx (L2 := 0) h (fun p q h1 h2 => by rw [setRow_out (by omega), uM_n (by omega)]) (fun p q h1 h2 => by rw [uM_n (by omega), uM_n (by omega)]) ⟨?_, by decide, hz⟩ ⟨?_, by decide, fun i hi => absurd hi (Nat.not_lt_zero i), hz⟩⟩
  · rw [setRow_out (by omega), uM_s]; rfl
  · rw [uM_n (by omega), uM_s]; rfl
theorem RLc_cm {p : Nat} {f w : Int32} {n : Nat → Int32} (h : RLc V μ c r lc la cn L) : RLc (cmM V p f w n) μ c r lc la cn L := by
  obtain ⟨g1, g2, g3, g4, g5, g6⟩ := h
  refine ⟨CIv_cm g1 _ _ _ _, MI_V g2 (fun p q hp _ => cm_o (by omega) (by omega)), g3, g4.cm _ _ _ _, by rw [bt_cm]; exact g5, fun j hj => ?_⟩
  have hlo : 15 ≤ slP la cn j ∧ slP la cn j + 15 ≤ 75 := by unfold slP; omega
  exact SREP_V (g6 j hj) (fun p q h1 h2 _ => cm_o (by omega) (by omega))
theorem runC_keep : ∀ F p c r lc (W : Mm) k (V2 : Mm), runC L F p c r lc W k V2 → (∀ p q : Nat, 15 ≤ p → p < 75 → V2 p q = W p q) ∧ (∀ q, V2 105 q = W 105 q) ∧ V2 102 2 = W 102 2 := by
  intro F
  induction F with
  | zero =>
    rintro p c r lc W k V2 ⟨_, rfl⟩
    exact ⟨fun _ _ _ _ => rfl, fun _ => rfl, rfl⟩
  | succ F ih =>
    rintro p c r lc W k V2 (⟨_, _, k1, W1, _, hd, hr⟩ | ⟨_, _, rfl⟩)
    · obtain ⟨a, b, d⟩ := ih _ _ _ _ _ _ _ hr
      exact ⟨fun p q h1 h2 => (a p q h1 h2).trans ((doC_out hd (by omega)).trans (cm_o (by omega) (by omega))), fun q => (b q).trans ((doC_out hd (by omega)).trans (cm_o (by decide) (by decide))), d.trans ((doC_out hd (by omega)).trans (cm_2 _ _ _ _ _))⟩
    · exact ⟨fun p q h1 h2 => cm_o (by omega) (by omega), fun q => cm_o (by decide) (by decide), cm_2 _ _ _ _ _⟩
theorem s_runCommands (h : REL V μ) : SR mX6_runCommands mX7_runCommands [] V μ := by
  obtain ⟨c, r, lc, la, cn, L, h⟩ := h
  have hl := RLc_la h
  have hT := h.2.2.2.1
  have hM := h.2.2.2.2.1
  refine ⟨_, e_X6_runCommands c r lc la cn L V h.1 hT, fun v V2 hS => ?_⟩
  by_cases hF : (ffC V L).2.2.1 = -1000
  · rcases hS with ⟨hn, _⟩ | ⟨_, k, rfl, hr⟩
    · rw [hF] at hn; exact absurd (by decide) hn
    · generalize eW : cmM (saveM (CM V (ffC V L)) la cn) 0 (-1000) ((saveM (CM V (ffC V L)) la cn) 102 5) ((saveM (CM V (ffC V L)) la cn) 106) = W at hr
      have hC : CIv W c r lc ((la + 1) % 4) (if cn < 4 then cn + 1 else 4) := by rw [← eW]; exact CIv_cm (CIv_save (CIv_cm h.1 _ _ _ _)) _ _ _ _
      have hm : ∀ p q, p < 15 → W p q = V p q := fun p q hp => by rw [← eW, cm_o (by omega) (by omega), saveM_out hl.1 (by omega)]; exact cm_o (by omega) (by omega)
      have h105 : ∀ q, W 105 q = V 105 q := fun q => by rw [← eW, cm_o (by omega) (by omega), saveM_out hl.1 (by omega)]; exact cm_o (by omega) (by omega)
      have h102 : W 102 2 = V 102 2 := by rw [← eW, cm_2, saveM_out hl.1 (by omega)]; exact cm_2 _ _ _ _ _
      have hX : TX W L := TX_same hT h102 h105
      have hb : bt W = bt V := bt_same h105
      have h0 := RLc_cm (p := (ffC V L).2.1) (f := (ffC V L).2.2.1) (w := (ffC V L).2.2.2.1) (n := (ffC V L).2.2.2.2) h
      refine ⟨_, e_X7_runC (bt V) L (V 102 5) (V 106) W c r lc ((la + 1) % 4) (if cn < 4 then cn + 1 else 4) cn k V2 μ hM hF hC (MI_V h.2.1 (fun p q hp _ => hm p q hp)) hX hb hr h.2.2.1 hl.2, ?_⟩
      rintro w m ⟨c2, r2, l2, hC2, hO⟩
      obtain ⟨k1, k2, k3⟩ := runC_keep _ _ _ _ _ _ _ _ hr
      exact ⟨hO.1.symm, hO.2.1, _, _, _, _, _, _, RLc_sv h0 hC2 hO (fun _ _ _ _ => rfl) (fun p q h1 h2 => (k1 p q h1 h2).trans (by rw [← eW]; exact cm_o (by omega) (by omega))) (TX_same hX k3 k2) ((bt_same k2).trans (hb.trans (bt_cm _ _ _ _ _).symm))⟩
  · refine ⟨_, e_X7_runF (bt V) L (V 102 5) (V 106) μ hM hF, ?_⟩
    rintro w m ⟨hn, hv, h6, hk⟩
    rcases hS with ⟨_, hv2, rfl⟩ | ⟨hy, _⟩
    · exact ⟨hv.symm.trans hv2, h6, _, _, _, _, _, _, RLc_k (RLc_cm h) hk⟩
    · exact absurd hy hn
/-- both return the same number of 64 bits -/
def SRL (MC MM : MD) (V μ : Mm) : Prop := ∃ S : Int64 → Mm → Prop, EvN ΛC MC [.ref 109] V (qL S) ∧ ∀ v V2, S v V2 → ∃ T : Int64 → Mm → Prop, EvN ΛM MM [.ref 0] μ (qL T) ∧ ∀ w m, T w m → w = v ∧ m 0 6 = 0 ∧ REL V2 m
theorem s_digest (h : REL V μ) : SRL mX6_digest mX7_digest V μ := by
  obtain ⟨c, r, lc, la, cn, L, h⟩ := h
  refine ⟨_, e_X6_digest c r lc la cn V h.1, ?_⟩
  rintro v V2 ⟨rfl, hR⟩
  refine ⟨_, e_X7_digest V c r lc cn μ h.2.1 (HV_r h) h.2.2.1, ?_⟩
  rintro w m ⟨rfl, h6, hk⟩
  exact ⟨by rw [h.2.2.2.1.1, h.2.2.2.2.1.1], h6, _, _, _, _, _, _, RLc_rf h hR hk⟩
end
