abbrev mL_part : MD := (RL, yL_part, cL_part, 2, (some FieldType.int), { frames := 0, cells := 0, slots := 0, locals := 0 })
theorem hc_part : hdC mL_part none ∈ WS := kl_266
theorem hs_part : Cond.static (mdY mL_part) ∈ WS := kl_265
abbrev mL_take : MD := (RL, yL_take, cL_take, 2, (some FieldType.int), { frames := 0, cells := 0, slots := 0, locals := 0 })
theorem hc_take : hdC mL_take none ∈ WS := kl_270
theorem hs_take : Cond.static (mdY mL_take) ∈ WS := kl_269
abbrev mL_beginning : MD := (RL, yL_beginning, cL_beginning, 4, (some FieldType.int), { frames := 8, cells := 0, slots := 0, locals := 143 })
theorem hc_beginning : hdC mL_beginning (some [(0, 6, 7, 15)]) ∈ WS := kl_274
theorem hs_beginning : Cond.static (mdY mL_beginning) ∈ WS := kl_273
abbrev xL_beginning : MD := (RL, yL_beginning, cL_beginning, 4, (some FieldType.int), { frames := 8, cells := 1, slots := 6, locals := 143 })
abbrev hL_beginning : List (Nat × Nat × Nat × Nat) := [(0, 6, 7, 15)]
abbrev mL_painting : MD := (RL, yL_painting, cL_painting, 7, (some FieldType.int), { frames := 8, cells := 0, slots := 0, locals := 146 })
theorem hc_painting : hdC mL_painting (some [(0, 11, 12, 21), (0, 11, 18, 15)]) ∈ WS := kl_390
theorem hs_painting : Cond.static (mdY mL_painting) ∈ WS := kl_389
abbrev xL_painting : MD := (RL, yL_painting, cL_painting, 7, (some FieldType.int), { frames := 8, cells := 1, slots := 6, locals := 146 })
abbrev hL_painting : List (Nat × Nat × Nat × Nat) := [(0, 11, 12, 21), (0, 11, 18, 15)]
abbrev mL_adding : MD := (RL, yL_adding, cL_adding, 4, (some FieldType.int), { frames := 8, cells := 0, slots := 0, locals := 143 })
theorem hc_adding : hdC mL_adding (some [(0, 6, 7, 15), (0, 6, 12, 26)]) ∈ WS := kl_441
theorem hs_adding : Cond.static (mdY mL_adding) ∈ WS := kl_440
abbrev xL_adding : MD := (RL, yL_adding, cL_adding, 4, (some FieldType.int), { frames := 8, cells := 1, slots := 6, locals := 143 })
abbrev hL_adding : List (Nat × Nat × Nat × Nat) := [(0, 6, 7, 15), (0, 6, 12, 26)]
abbrev mL_cornering : MD := (RL, yL_cornering, cL_cornering, 6, (some FieldType.int), { frames := 8, cells := 0, slots := 0, locals := 145 })
theorem hc_cornering : hdC mL_cornering (some [(0, 9, 10, 21), (0, 9, 16, 15)]) ∈ WS := kl_480
theorem hs_cornering : Cond.static (mdY mL_cornering) ∈ WS := kl_479
abbrev xL_cornering : MD := (RL, yL_cornering, cL_cornering, 6, (some FieldType.int), { frames := 8, cells := 1, slots := 6, locals := 145 })
abbrev hL_cornering : List (Nat × Nat × Nat × Nat) := [(0, 9, 10, 21), (0, 9, 16, 15)]
abbrev mL_squaring : MD := (RL, yL_squaring, cL_squaring, 7, (some FieldType.int), { frames := 8, cells := 0, slots := 0, locals := 146 })
theorem hc_squaring : hdC mL_squaring (some [(0, 11, 12, 21), (0, 11, 18, 15)]) ∈ WS := kl_503
theorem hs_squaring : Cond.static (mdY mL_squaring) ∈ WS := kl_502
abbrev xL_squaring : MD := (RL, yL_squaring, cL_squaring, 7, (some FieldType.int), { frames := 8, cells := 1, slots := 6, locals := 146 })
abbrev hL_squaring : List (Nat × Nat × Nat × Nat) := [(0, 11, 12, 21), (0, 11, 18, 15)]
abbrev mL_setting : MD := (RL, yL_setting, cL_setting, 5, (some FieldType.int), { frames := 8, cells := 0, slots := 0, locals := 156 })
theorem hc_setting : hdC mL_setting (some [(0, 7, 8, 21), (0, 7, 14, 15)]) ∈ WS := kl_599
theorem hs_setting : Cond.static (mdY mL_setting) ∈ WS := kl_598
abbrev xL_setting : MD := (RL, yL_setting, cL_setting, 5, (some FieldType.int), { frames := 8, cells := 1, slots := 6, locals := 156 })
abbrev hL_setting : List (Nat × Nat × Nat × Nat) := [(0, 7, 8, 21), (0, 7, 14, 15)]
abbrev mL_working : MD := (RL, yL_working, cL_working, 4, (some FieldType.int), { frames := 8, cells := 0, slots := 0, locals := 143 })
theorem hc_working : hdC mL_working (some [(0, 6, 7, 21)]) ∈ WS := kl_641
theorem hs_working : Cond.static (mdY mL_working) ∈ WS := kl_640
abbrev xL_working : MD := (RL, yL_working, cL_working, 4, (some FieldType.int), { frames := 8, cells := 1, slots := 6, locals := 143 })
abbrev hL_working : List (Nat × Nat × Nat × Nat) := [(0, 6, 7, 21)]
abbrev mL_shifting : MD := (RL, yL_shifting, cL_shifting, 4, (some FieldType.int), { frames := 8, cells := 0, slots := 0, locals := 142 })
theorem hc_shifting : hdC mL_shifting (some [(0, 6, 7, 15)]) ∈ WS := kl_656
theorem hs_shifting : Cond.static (mdY mL_shifting) ∈ WS := kl_655
abbrev xL_shifting : MD := (RL, yL_shifting, cL_shifting, 4, (some FieldType.int), { frames := 8, cells := 1, slots := 6, locals := 142 })
abbrev hL_shifting : List (Nat × Nat × Nat × Nat) := [(0, 6, 7, 15)]
abbrev mL_burning : MD := (RL, yL_burning, cL_burning, 3, (some FieldType.int), { frames := 8, cells := 0, slots := 0, locals := 152 })
theorem hc_burning : hdC mL_burning (some [(0, 5, 6, 15)]) ∈ WS := kl_678
theorem hs_burning : Cond.static (mdY mL_burning) ∈ WS := kl_677
abbrev xL_burning : MD := (RL, yL_burning, cL_burning, 3, (some FieldType.int), { frames := 8, cells := 1, slots := 6, locals := 152 })
abbrev hL_burning : List (Nat × Nat × Nat × Nat) := [(0, 5, 6, 15)]
abbrev mL_placing : MD := (RL, yL_placing, cL_placing, 5, (some FieldType.int), { frames := 8, cells := 0, slots := 0, locals := 154 })
theorem hc_placing : hdC mL_placing (some [(0, 7, 8, 21), (0, 7, 14, 15)]) ∈ WS := kl_785
theorem hs_placing : Cond.static (mdY mL_placing) ∈ WS := kl_784
abbrev xL_placing : MD := (RL, yL_placing, cL_placing, 5, (some FieldType.int), { frames := 8, cells := 1, slots := 6, locals := 154 })
abbrev hL_placing : List (Nat × Nat × Nat × Nat) := [(0, 7, 8, 21), (0, 7, 14, 15)]
abbrev mL_lighting : MD := (RL, yL_lighting, cL_lighting, 5, (some FieldType.int), { frames := 8, cells := 0, slots := 0, locals := 143 })
theorem hc_lighting : hdC mL_lighting (some [(0, 7, 8, 21)]) ∈ WS := kl_824
theorem hs_lighting : Cond.static (mdY mL_lighting) ∈ WS := kl_823
abbrev xL_lighting : MD := (RL, yL_lighting, cL_lighting, 5, (some FieldType.int), { frames := 8, cells := 1, slots := 6, locals := 143 })
abbrev hL_lighting : List (Nat × Nat × Nat × Nat) := [(0, 7, 8, 21)]
abbrev mL_weighing : MD := (RL, yL_weighing, cL_weighing, 5, (some FieldType.int), { frames := 8, cells := 0, slots := 0, locals := 143 })
theorem hc_weighing : hdC mL_weighing (some [(0, 7, 8, 21)]) ∈ WS := kl_859
theorem hs_weighing : Cond.static (mdY mL_weighing) ∈ WS := kl_858
abbrev xL_weighing : MD := (RL, yL_weighing, cL_weighing, 5, (some FieldType.int), { frames := 8, cells := 1, slots := 6, locals := 143 })
abbrev hL_weighing : List (Nat × Nat × Nat × Nat) := [(0, 7, 8, 21)]
abbrev mL_lamping : MD := (RL, yL_lamping, cL_lamping, 4, (some FieldType.int), { frames := 8, cells := 0, slots := 0, locals := 153 })
theorem hc_lamping : hdC mL_lamping (some [(0, 6, 7, 21), (0, 6, 12, 15)]) ∈ WS := kl_764
theorem hs_lamping : Cond.static (mdY mL_lamping) ∈ WS := kl_763
abbrev xL_lamping : MD := (RL, yL_lamping, cL_lamping, 4, (some FieldType.int), { frames := 8, cells := 1, slots := 6, locals := 153 })
abbrev hL_lamping : List (Nat × Nat × Nat × Nat) := [(0, 6, 7, 21), (0, 6, 12, 15)]
abbrev mL_cornerAt : MD := (RL, yL_cornerAt, cL_cornerAt, 5, (some FieldType.int), { frames := 8, cells := 0, slots := 0, locals := 143 })
theorem hc_cornerAt : hdC mL_cornerAt (some [(0, 7, 8, 21), (0, 7, 14, 15)]) ∈ WS := kl_771
theorem hs_cornerAt : Cond.static (mdY mL_cornerAt) ∈ WS := kl_770
abbrev xL_cornerAt : MD := (RL, yL_cornerAt, cL_cornerAt, 5, (some FieldType.int), { frames := 8, cells := 1, slots := 6, locals := 143 })
abbrev hL_cornerAt : List (Nat × Nat × Nat × Nat) := [(0, 7, 8, 21), (0, 7, 14, 15)]
abbrev mL_all : MD := (RL, yL_all, cL_all, 3, (some FieldType.int), { frames := 8, cells := 0, slots := 0, locals := 151 })
theorem hc_all : hdC mL_all (some [(0, 5, 6, 15)]) ∈ WS := kl_708
theorem hs_all : Cond.static (mdY mL_all) ∈ WS := kl_707
abbrev xL_all : MD := (RL, yL_all, cL_all, 3, (some FieldType.int), { frames := 8, cells := 1, slots := 6, locals := 151 })
abbrev hL_all : List (Nat × Nat × Nat × Nat) := [(0, 5, 6, 15)]
abbrev mL_wrongAt : MD := (RL, yL_wrongAt, cL_wrongAt, 3, (some FieldType.int), { frames := 8, cells := 0, slots := 0, locals := 144 })
theorem hc_wrongAt : hdC mL_wrongAt (some [(0, 5, 6, 15)]) ∈ WS := kl_927
theorem hs_wrongAt : Cond.static (mdY mL_wrongAt) ∈ WS := kl_926
abbrev xL_wrongAt : MD := (RL, yL_wrongAt, cL_wrongAt, 3, (some FieldType.int), { frames := 8, cells := 1, slots := 6, locals := 144 })
abbrev hL_wrongAt : List (Nat × Nat × Nat × Nat) := [(0, 5, 6, 15)]
abbrev mL_wrongBut : MD := (RL, yL_wrongBut, cL_wrongBut, 3, (some FieldType.int), { frames := 8, cells := 0, slots := 0, locals := 157 })
theorem hc_wrongBut : hdC mL_wrongBut (some [(0, 5, 6, 21)]) ∈ WS := kl_869
theorem hs_wrongBut : Cond.static (mdY mL_wrongBut) ∈ WS := kl_868
abbrev xL_wrongBut : MD := (RL, yL_wrongBut, cL_wrongBut, 3, (some FieldType.int), { frames := 8, cells := 1, slots := 6, locals := 157 })
abbrev hL_wrongBut : List (Nat × Nat × Nat × Nat) := [(0, 5, 6, 21)]
abbrev mL_wrongBy : MD := (RL, yL_wrongBy, cL_wrongBy, 4, (some FieldType.int), { frames := 8, cells := 0, slots := 0, locals := 142 })
theorem hc_wrongBy : hdC mL_wrongBy (some [(0, 6, 7, 15)]) ∈ WS := kl_901
theorem hs_wrongBy : Cond.static (mdY mL_wrongBy) ∈ WS := kl_900
abbrev xL_wrongBy : MD := (RL, yL_wrongBy, cL_wrongBy, 4, (some FieldType.int), { frames := 8, cells := 1, slots := 6, locals := 142 })
abbrev hL_wrongBy : List (Nat × Nat × Nat × Nat) := [(0, 6, 7, 15)]
abbrev mL_besting : MD := (RL, yL_besting, cL_besting, 3, (some FieldType.int), { frames := 8, cells := 0, slots := 0, locals := 147 })
theorem hc_besting : hdC mL_besting (some [(0, 5, 6, 15)]) ∈ WS := kl_908
theorem hs_besting : Cond.static (mdY mL_besting) ∈ WS := kl_907
abbrev xL_besting : MD := (RL, yL_besting, cL_besting, 3, (some FieldType.int), { frames := 8, cells := 1, slots := 6, locals := 147 })
abbrev hL_besting : List (Nat × Nat × Nat × Nat) := [(0, 5, 6, 15)]
abbrev mL_needing : MD := (RL, yL_needing, cL_needing, 3, (some FieldType.int), { frames := 8, cells := 0, slots := 0, locals := 144 })
theorem hc_needing : hdC mL_needing (some [(0, 5, 6, 21)]) ∈ WS := kl_890
theorem hs_needing : Cond.static (mdY mL_needing) ∈ WS := kl_889
abbrev xL_needing : MD := (RL, yL_needing, cL_needing, 3, (some FieldType.int), { frames := 8, cells := 1, slots := 6, locals := 144 })
abbrev hL_needing : List (Nat × Nat × Nat × Nat) := [(0, 5, 6, 21)]
abbrev mL_typing : MD := (RL, yL_typing, cL_typing, 3, (some FieldType.int), { frames := 8, cells := 0, slots := 0, locals := 141 })
theorem hc_typing : hdC mL_typing (some [(0, 5, 6, 15), (0, 5, 11, 26)]) ∈ WS := kl_915
theorem hs_typing : Cond.static (mdY mL_typing) ∈ WS := kl_914
abbrev xL_typing : MD := (RL, yL_typing, cL_typing, 3, (some FieldType.int), { frames := 8, cells := 1, slots := 6, locals := 141 })
abbrev hL_typing : List (Nat × Nat × Nat × Nat) := [(0, 5, 6, 15), (0, 5, 11, 26)]
abbrev mL_undoing : MD := (RL, yL_undoing, cL_undoing, 2, (some FieldType.int), { frames := 8, cells := 0, slots := 0, locals := 140 })
theorem hc_undoing : hdC mL_undoing (some [(0, 4, 5, 26)]) ∈ WS := kl_742
theorem hs_undoing : Cond.static (mdY mL_undoing) ∈ WS := kl_741
abbrev xL_undoing : MD := (RL, yL_undoing, cL_undoing, 2, (some FieldType.int), { frames := 8, cells := 1, slots := 6, locals := 140 })
abbrev hL_undoing : List (Nat × Nat × Nat × Nat) := [(0, 4, 5, 26)]
abbrev mL_mixed : MD := (RL, yL_mixed, cL_mixed, 4, (some FieldType.long), { frames := 0, cells := 0, slots := 0, locals := 0 })
theorem hc_mixed : hdC mL_mixed none ∈ WS := kl_757
theorem hs_mixed : Cond.static (mdY mL_mixed) ∈ WS := kl_756
abbrev mL_lampsOf : MD := (RL, yL_lampsOf, cL_lampsOf, 7, (some FieldType.long), { frames := 9, cells := 0, slots := 0, locals := 176 })
theorem hc_lampsOf : hdC mL_lampsOf none ∈ WS := kl_761
theorem hs_lampsOf : Cond.static (mdY mL_lampsOf) ∈ WS := kl_760
abbrev mL_placesOf : MD := (RL, yL_placesOf, cL_placesOf, 7, (some FieldType.long), { frames := 9, cells := 0, slots := 0, locals := 178 })
theorem hc_placesOf : hdC mL_placesOf none ∈ WS := kl_782
theorem hs_placesOf : Cond.static (mdY mL_placesOf) ∈ WS := kl_781
abbrev mL_seen : MD := (RL, yL_seen, cL_seen, 4, (some FieldType.long), { frames := 10, cells := 0, slots := 0, locals := 204 })
theorem hc_seen : hdC mL_seen none ∈ WS := kl_753
theorem hs_seen : Cond.static (mdY mL_seen) ∈ WS := kl_752
abbrev mL_isDigest : MD := (RL, yL_isDigest, cL_isDigest, 5, (some FieldType.boolean), { frames := 10, cells := 0, slots := 0, locals := 204 })
theorem hc_isDigest : hdC mL_isDigest none ∈ WS := kl_835
theorem hs_isDigest : Cond.static (mdY mL_isDigest) ∈ WS := kl_834
abbrev mL_refusesPlaces : MD := (RL, yL_refusesPlaces, cL_refusesPlaces, 5, (some FieldType.boolean), { frames := 9, cells := 46, slots := 276, locals := 180 })
theorem hc_refusesPlaces : hdC mL_refusesPlaces none ∈ WS := kl_856
theorem hs_refusesPlaces : Cond.static (mdY mL_refusesPlaces) ∈ WS := kl_855
abbrev mL_refusesLamps : MD := (RL, yL_refusesLamps, cL_refusesLamps, 2, (some FieldType.boolean), { frames := 9, cells := 24, slots := 144, locals := 180 })
theorem hc_refusesLamps : hdC mL_refusesLamps none ∈ WS := kl_898
theorem hs_refusesLamps : Cond.static (mdY mL_refusesLamps) ∈ WS := kl_897
abbrev mL_refused : MD := (RL, yL_refused, cL_refused, 4, (some FieldType.boolean), { frames := 10, cells := 101, slots := 606, locals := 204 })
theorem hc_refused : hdC mL_refused none ∈ WS := kl_853
theorem hs_refused : Cond.static (mdY mL_refused) ∈ WS := kl_852
abbrev mL_types : MD := (RL, yL_types, cL_types, 5, none, { frames := 9, cells := 0, slots := 0, locals := 163 })
theorem hc_types : hdC mL_types none ∈ WS := kl_940
theorem hs_types : Cond.static (mdY mL_types) ∈ WS := kl_939
abbrev mL_told : MD := (RL, yL_told, cL_told, 10, (some FieldType.int), { frames := 11, cells := 111, slots := 7008, locals := 238 })
theorem hc_told : hdC mL_told none ∈ WS := kl_937
theorem hs_told : Cond.static (mdY mL_told) ∈ WS := kl_936
abbrev mL_texts : MD := (RL, yL_texts, cL_texts, 2, (some FieldType.boolean), { frames := 12, cells := 3665, slots := 231276, locals := 267 })
theorem hc_texts : hdC mL_texts none ∈ WS := kl_934
theorem hs_texts : Cond.static (mdY mL_texts) ∈ WS := kl_933
abbrev mL_known : MD := (RL, yL_known, cL_known, 1, (some FieldType.boolean), { frames := 11, cells := 312, slots := 8214, locals := 228 })
theorem hc_known : hdC mL_known none ∈ WS := kl_1113
theorem hs_known : Cond.static (mdY mL_known) ∈ WS := kl_1112
theorem w_beginning (a0 a1 : Int32) (V : Mm) (P : Int32 → Mm → Prop) (hE : EvN ΛC mX6_begin [.ref 109, .int a0, .int a1] V (qI P)) : EvW mL_beginning (some hL_beginning) [.ref 109, .int a0, .int a1] V (qI P) := by
  refine EvW_ofH (by decide +kernel) rfl (fun _ => rfl) (fun _ => Nat.le_of_ble_eq_true rfl) (ls := [(0, .ref 109), (1, .int a0), (2, .int a1)]) (fun f => ?_)
  refine L_aload_n 0 0 dL_beginning_0 rfl rfl ?_
  refine L_iload_n 1 1 dL_beginning_1 rfl rfl ?_
  refine L_iload_n 2 2 dL_beginning_2 rfl rfl ?_
  refine L_callC 3 [.int a0, .int a1] (Nat.le_refl 1) (fun _ => rfl) hE (by rintro r m ⟨x, rfl, _⟩ _; rfl) dL_beginning_3 kl_276 wm_X6_begin (show _ = some 2 from by decide +kernel) ⟨Nat.le_of_ble_eq_true rfl, Nat.le_of_ble_eq_true rfl⟩ ⟨rfl, rfl⟩ rfl ⟨Nat.zero_le _, Nat.zero_le _⟩ rfl (Nat.le_of_ble_eq_true rfl) ?_
  rintro _ V2 ⟨v, rfl, hv⟩
  exact L_iret 6 dL_beginning_6 rfl rfl ⟨Nat.zero_le _, Nat.zero_le _⟩ ⟨v, rfl, hv⟩
theorem t_beginning_2 (a0 a1 : Int32) (V : Mm) (hX : EvX ΛC xX6_begin [.ref 109, .int a0, .int a1] V (fun E V2 => "java/lang/IllegalArgumentException" = E ∧ V = V2)) : EvW xL_beginning (some hL_beginning) [.ref 109, .int a0, .int a1] V (qI (fun v V2 => -3002 = v ∧ V = V2)) := by
  refine EvW_ofH (by decide +kernel) rfl (fun _ => rfl) (fun _ => Nat.le_of_ble_eq_true rfl) (ls := [(0, .ref 109), (1, .int a0), (2, .int a1)]) (fun f => ?_)
  refine L_aload_n 0 0 dL_beginning_0 rfl rfl ?_
  refine L_iload_n 1 1 dL_beginning_1 rfl rfl ?_
  refine L_iload_n 2 2 dL_beginning_2 rfl rfl ?_
  refine L_catch 3 [.int a0, .int a1] (Nat.le_refl 1) (fun _ => rfl) hX dL_beginning_3 kl_276 wm_X6_begin (show _ = some 2 from by decide +kernel) ⟨Nat.le_of_ble_eq_true rfl, Nat.le_of_ble_eq_true rfl⟩ ⟨rfl, rfl⟩ rfl ⟨Nat.le_refl 1, Nat.le_refl 6⟩ rfl (Nat.le_of_ble_eq_true rfl) [] _ _ rfl (fun z hz => nomatch hz) (by decide) (by decide) kl_275 (by decide) ?_
  intro q
  refine L_astore_n 7 _ dL_beginning_7 rfl (by decide) rfl ?_
  refine L_sipush 8 (-3002) dL_beginning_8 (by decide) ?_
  exact L_iret 11 dL_beginning_11 rfl rfl ⟨Nat.le_refl 1, Nat.le_refl 6⟩ ⟨_, rfl, rfl, rfl⟩
theorem w_painting (a0 a1 a2 a3 a4 : Int32) (V : Mm) (P : Int32 → Mm → Prop) (hE : EvN ΛC mX6_paint [.ref 109, .int a0, .int a1, .int a2, .int a3, .int a4] V (qI P)) : EvW mL_painting (some hL_painting) [.ref 109, .int a0, .int a1, .int a2, .int a3, .int a4] V (qI P) := by
  refine EvW_ofH (by decide +kernel) rfl (fun _ => rfl) (fun _ => Nat.le_of_ble_eq_true rfl) (ls := [(0, .ref 109), (1, .int a0), (2, .int a1), (3, .int a2), (4, .int a3), (5, .int a4)]) (fun f => ?_)
  refine L_aload_n 0 0 dL_painting_0 rfl rfl ?_
  refine L_iload_n 1 1 dL_painting_1 rfl rfl ?_
  refine L_iload_n 2 2 dL_painting_2 rfl rfl ?_
  refine L_iload_n 3 3 dL_painting_3 rfl rfl ?_
  refine L_iload 4 4 dL_painting_4 rfl ?_
  refine L_iload 6 5 dL_painting_6 rfl ?_
  refine L_callC 8 [.int a0, .int a1, .int a2, .int a3, .int a4] (Nat.le_refl 1) (fun _ => rfl) hE (by rintro r m ⟨x, rfl, _⟩ _; rfl) dL_painting_8 kl_392 wm_X6_paint (show _ = some 5 from by decide +kernel) ⟨Nat.le_of_ble_eq_true rfl, Nat.le_of_ble_eq_true rfl⟩ ⟨rfl, rfl⟩ rfl ⟨Nat.zero_le _, Nat.zero_le _⟩ rfl (Nat.le_of_ble_eq_true rfl) ?_
  rintro _ V2 ⟨v, rfl, hv⟩
  exact L_iret 11 dL_painting_11 rfl rfl ⟨Nat.zero_le _, Nat.zero_le _⟩ ⟨v, rfl, hv⟩
theorem t_painting_1 (a0 a1 a2 a3 a4 : Int32) (V : Mm) (hX : EvX ΛC xX6_paint [.ref 109, .int a0, .int a1, .int a2, .int a3, .int a4] V (fun E V2 => "java/lang/IndexOutOfBoundsException" = E ∧ V = V2)) : EvW xL_painting (some hL_painting) [.ref 109, .int a0, .int a1, .int a2, .int a3, .int a4] V (qI (fun v V2 => -3001 = v ∧ V = V2)) := by
  refine EvW_ofH (by decide +kernel) rfl (fun _ => rfl) (fun _ => Nat.le_of_ble_eq_true rfl) (ls := [(0, .ref 109), (1, .int a0), (2, .int a1), (3, .int a2), (4, .int a3), (5, .int a4)]) (fun f => ?_)
  refine L_aload_n 0 0 dL_painting_0 rfl rfl ?_
  refine L_iload_n 1 1 dL_painting_1 rfl rfl ?_
  refine L_iload_n 2 2 dL_painting_2 rfl rfl ?_
  refine L_iload_n 3 3 dL_painting_3 rfl rfl ?_
  refine L_iload 4 4 dL_painting_4 rfl ?_
  refine L_iload 6 5 dL_painting_6 rfl ?_
  refine L_catch 8 [.int a0, .int a1, .int a2, .int a3, .int a4] (Nat.le_refl 1) (fun _ => rfl) hX dL_painting_8 kl_392 wm_X6_paint (show _ = some 5 from by decide +kernel) ⟨Nat.le_of_ble_eq_true rfl, Nat.le_of_ble_eq_true rfl⟩ ⟨rfl, rfl⟩ rfl ⟨Nat.le_refl 1, Nat.le_refl 6⟩ rfl (Nat.le_of_ble_eq_true rfl) [] _ _ rfl (fun z hz => nomatch hz) (by decide) (by decide) kl_391 (by decide) ?_
  intro q
  refine L_astore 12 _ dL_painting_12 (by decide) rfl ?_
  refine L_sipush 14 (-3001) dL_painting_14 (by decide) ?_
  exact L_iret 17 dL_painting_17 rfl rfl ⟨Nat.le_refl 1, Nat.le_refl 6⟩ ⟨_, rfl, rfl, rfl⟩
theorem t_painting_2 (a0 a1 a2 a3 a4 : Int32) (V : Mm) (hX : EvX ΛC xX6_paint [.ref 109, .int a0, .int a1, .int a2, .int a3, .int a4] V (fun E V2 => "java/lang/IllegalArgumentException" = E ∧ V = V2)) : EvW xL_painting (some hL_painting) [.ref 109, .int a0, .int a1, .int a2, .int a3, .int a4] V (qI (fun v V2 => -3002 = v ∧ V = V2)) := by
  refine EvW_ofH (by decide +kernel) rfl (fun _ => rfl) (fun _ => Nat.le_of_ble_eq_true rfl) (ls := [(0, .ref 109), (1, .int a0), (2, .int a1), (3, .int a2), (4, .int a3), (5, .int a4)]) (fun f => ?_)
  refine L_aload_n 0 0 dL_painting_0 rfl rfl ?_
  refine L_iload_n 1 1 dL_painting_1 rfl rfl ?_
  refine L_iload_n 2 2 dL_painting_2 rfl rfl ?_
  refine L_iload_n 3 3 dL_painting_3 rfl rfl ?_
  refine L_iload 4 4 dL_painting_4 rfl ?_
  refine L_iload 6 5 dL_painting_6 rfl ?_
  refine L_catch 8 [.int a0, .int a1, .int a2, .int a3, .int a4] (Nat.le_refl 1) (fun _ => rfl) hX dL_painting_8 kl_392 wm_X6_paint (show _ = some 5 from by decide +kernel) ⟨Nat.le_of_ble_eq_true rfl, Nat.le_of_ble_eq_true rfl⟩ ⟨rfl, rfl⟩ rfl ⟨Nat.le_refl 1, Nat.le_refl 6⟩ rfl (Nat.le_of_ble_eq_true rfl) [_] _ _ rfl (fun z hz => by cases List.mem_singleton.mp hz; exact ⟨by decide, "java/lang/IndexOutOfBoundsException", kl_391, by first | exact Or.inl ⟨rfl, rfl⟩ | exact Or.inr ⟨rfl, rfl⟩⟩) (by decide) (by decide) kl_275 (by decide) ?_
  intro q
  refine L_astore 18 _ dL_painting_18 (by decide) rfl ?_
  refine L_sipush 20 (-3002) dL_painting_20 (by decide) ?_
  exact L_iret 23 dL_painting_23 rfl rfl ⟨Nat.le_refl 1, Nat.le_refl 6⟩ ⟨_, rfl, rfl, rfl⟩
theorem w_adding (a0 a1 : Int32) (V : Mm) (P : Int32 → Mm → Prop) (hE : EvN ΛC mX6_addLamp [.ref 109, .int a0, .int a1] V (qI P)) : EvW mL_adding (some hL_adding) [.ref 109, .int a0, .int a1] V (qI P) := by
  refine EvW_ofH (by decide +kernel) rfl (fun _ => rfl) (fun _ => Nat.le_of_ble_eq_true rfl) (ls := [(0, .ref 109), (1, .int a0), (2, .int a1)]) (fun f => ?_)
  refine L_aload_n 0 0 dL_adding_0 rfl rfl ?_
  refine L_iload_n 1 1 dL_adding_1 rfl rfl ?_
  refine L_iload_n 2 2 dL_adding_2 rfl rfl ?_
  refine L_callC 3 [.int a0, .int a1] (Nat.le_refl 1) (fun _ => rfl) hE (by rintro r m ⟨x, rfl, _⟩ _; rfl) dL_adding_3 kl_443 wm_X6_addLamp (show _ = some 2 from by decide +kernel) ⟨Nat.le_of_ble_eq_true rfl, Nat.le_of_ble_eq_true rfl⟩ ⟨rfl, rfl⟩ rfl ⟨Nat.zero_le _, Nat.zero_le _⟩ rfl (Nat.le_of_ble_eq_true rfl) ?_
  rintro _ V2 ⟨v, rfl, hv⟩
  exact L_iret 6 dL_adding_6 rfl rfl ⟨Nat.zero_le _, Nat.zero_le _⟩ ⟨v, rfl, hv⟩
theorem t_adding_2 (a0 a1 : Int32) (V : Mm) (hX : EvX ΛC xX6_addLamp [.ref 109, .int a0, .int a1] V (fun E V2 => "java/lang/IllegalArgumentException" = E ∧ V = V2)) : EvW xL_adding (some hL_adding) [.ref 109, .int a0, .int a1] V (qI (fun v V2 => -3002 = v ∧ V = V2)) := by
  refine EvW_ofH (by decide +kernel) rfl (fun _ => rfl) (fun _ => Nat.le_of_ble_eq_true rfl) (ls := [(0, .ref 109), (1, .int a0), (2, .int a1)]) (fun f => ?_)
  refine L_aload_n 0 0 dL_adding_0 rfl rfl ?_
  refine L_iload_n 1 1 dL_adding_1 rfl rfl ?_
  refine L_iload_n 2 2 dL_adding_2 rfl rfl ?_
  refine L_catch 3 [.int a0, .int a1] (Nat.le_refl 1) (fun _ => rfl) hX dL_adding_3 kl_443 wm_X6_addLamp (show _ = some 2 from by decide +kernel) ⟨Nat.le_of_ble_eq_true rfl, Nat.le_of_ble_eq_true rfl⟩ ⟨rfl, rfl⟩ rfl ⟨Nat.le_refl 1, Nat.le_refl 6⟩ rfl (Nat.le_of_ble_eq_true rfl) [] _ _ rfl (fun z hz => nomatch hz) (by decide) (by decide) kl_275 (by decide) ?_
  intro q
  refine L_astore_n 7 _ dL_adding_7 rfl (by decide) rfl ?_
  refine L_sipush 8 (-3002) dL_adding_8 (by decide) ?_
  exact L_iret 11 dL_adding_11 rfl rfl ⟨Nat.le_refl 1, Nat.le_refl 6⟩ ⟨_, rfl, rfl, rfl⟩
theorem t_adding_3 (a0 a1 : Int32) (V : Mm) (hX : EvX ΛC xX6_addLamp [.ref 109, .int a0, .int a1] V (fun E V2 => "java/lang/IllegalStateException" = E ∧ V = V2)) : EvW xL_adding (some hL_adding) [.ref 109, .int a0, .int a1] V (qI (fun v V2 => -3003 = v ∧ V = V2)) := by
  refine EvW_ofH (by decide +kernel) rfl (fun _ => rfl) (fun _ => Nat.le_of_ble_eq_true rfl) (ls := [(0, .ref 109), (1, .int a0), (2, .int a1)]) (fun f => ?_)
  refine L_aload_n 0 0 dL_adding_0 rfl rfl ?_
  refine L_iload_n 1 1 dL_adding_1 rfl rfl ?_
  refine L_iload_n 2 2 dL_adding_2 rfl rfl ?_
  refine L_catch 3 [.int a0, .int a1] (Nat.le_refl 1) (fun _ => rfl) hX dL_adding_3 kl_443 wm_X6_addLamp (show _ = some 2 from by decide +kernel) ⟨Nat.le_of_ble_eq_true rfl, Nat.le_of_ble_eq_true rfl⟩ ⟨rfl, rfl⟩ rfl ⟨Nat.le_refl 1, Nat.le_refl 6⟩ rfl (Nat.le_of_ble_eq_true rfl) [_] _ _ rfl (fun z hz => by cases List.mem_singleton.mp hz; exact ⟨by decide, "java/lang/IllegalArgumentException", kl_275, by first | exact Or.inl ⟨rfl, rfl⟩ | exact Or.inr ⟨rfl, rfl⟩⟩) (by decide) (by decide) kl_442 (by decide) ?_
  intro q
  refine L_astore_n 12 _ dL_adding_12 rfl (by decide) rfl ?_
  refine L_sipush 13 (-3003) dL_adding_13 (by decide) ?_
  exact L_iret 16 dL_adding_16 rfl rfl ⟨Nat.le_refl 1, Nat.le_refl 6⟩ ⟨_, rfl, rfl, rfl⟩
theorem w_cornering (a0 a1 a2 a3 : Int32) (V : Mm) (P : Int32 → Mm → Prop) (hE : EvN ΛC mX6_setCorner [.ref 109, .int a0, .int a1, .int a2, .int a3] V (qI P)) : EvW mL_cornering (some hL_cornering) [.ref 109, .int a0, .int a1, .int a2, .int a3] V (qI P) := by
  refine EvW_ofH (by decide +kernel) rfl (fun _ => rfl) (fun _ => Nat.le_of_ble_eq_true rfl) (ls := [(0, .ref 109), (1, .int a0), (2, .int a1), (3, .int a2), (4, .int a3)]) (fun f => ?_)
  refine L_aload_n 0 0 dL_cornering_0 rfl rfl ?_
  refine L_iload_n 1 1 dL_cornering_1 rfl rfl ?_
  refine L_iload_n 2 2 dL_cornering_2 rfl rfl ?_
  refine L_iload_n 3 3 dL_cornering_3 rfl rfl ?_
  refine L_iload 4 4 dL_cornering_4 rfl ?_
  refine L_callC 6 [.int a0, .int a1, .int a2, .int a3] (Nat.le_refl 1) (fun _ => rfl) hE (by rintro r m ⟨x, rfl, _⟩ _; rfl) dL_cornering_6 kl_481 wm_X6_setCorner (show _ = some 4 from by decide +kernel) ⟨Nat.le_of_ble_eq_true rfl, Nat.le_of_ble_eq_true rfl⟩ ⟨rfl, rfl⟩ rfl ⟨Nat.zero_le _, Nat.zero_le _⟩ rfl (Nat.le_of_ble_eq_true rfl) ?_
  rintro _ V2 ⟨v, rfl, hv⟩
  exact L_iret 9 dL_cornering_9 rfl rfl ⟨Nat.zero_le _, Nat.zero_le _⟩ ⟨v, rfl, hv⟩
theorem t_cornering_1 (a0 a1 a2 a3 : Int32) (V : Mm) (hX : EvX ΛC xX6_setCorner [.ref 109, .int a0, .int a1, .int a2, .int a3] V (fun E V2 => "java/lang/IndexOutOfBoundsException" = E ∧ V = V2)) : EvW xL_cornering (some hL_cornering) [.ref 109, .int a0, .int a1, .int a2, .int a3] V (qI (fun v V2 => -3001 = v ∧ V = V2)) := by
  refine EvW_ofH (by decide +kernel) rfl (fun _ => rfl) (fun _ => Nat.le_of_ble_eq_true rfl) (ls := [(0, .ref 109), (1, .int a0), (2, .int a1), (3, .int a2), (4, .int a3)]) (fun f => ?_)
  refine L_aload_n 0 0 dL_cornering_0 rfl rfl ?_
  refine L_iload_n 1 1 dL_cornering_1 rfl rfl ?_
  refine L_iload_n 2 2 dL_cornering_2 rfl rfl ?_
  refine L_iload_n 3 3 dL_cornering_3 rfl rfl ?_
  refine L_iload 4 4 dL_cornering_4 rfl ?_
  refine L_catch 6 [.int a0, .int a1, .int a2, .int a3] (Nat.le_refl 1) (fun _ => rfl) hX dL_cornering_6 kl_481 wm_X6_setCorner (show _ = some 4 from by decide +kernel) ⟨Nat.le_of_ble_eq_true rfl, Nat.le_of_ble_eq_true rfl⟩ ⟨rfl, rfl⟩ rfl ⟨Nat.le_refl 1, Nat.le_refl 6⟩ rfl (Nat.le_of_ble_eq_true rfl) [] _ _ rfl (fun z hz => nomatch hz) (by decide) (by decide) kl_391 (by decide) ?_
  intro q
  refine L_astore 10 _ dL_cornering_10 (by decide) rfl ?_
  refine L_sipush 12 (-3001) dL_cornering_12 (by decide) ?_
  exact L_iret 15 dL_cornering_15 rfl rfl ⟨Nat.le_refl 1, Nat.le_refl 6⟩ ⟨_, rfl, rfl, rfl⟩
theorem t_cornering_2 (a0 a1 a2 a3 : Int32) (V : Mm) (hX : EvX ΛC xX6_setCorner [.ref 109, .int a0, .int a1, .int a2, .int a3] V (fun E V2 => "java/lang/IllegalArgumentException" = E ∧ V = V2)) : EvW xL_cornering (some hL_cornering) [.ref 109, .int a0, .int a1, .int a2, .int a3] V (qI (fun v V2 => -3002 = v ∧ V = V2)) := by
  refine EvW_ofH (by decide +kernel) rfl (fun _ => rfl) (fun _ => Nat.le_of_ble_eq_true rfl) (ls := [(0, .ref 109), (1, .int a0), (2, .int a1), (3, .int a2), (4, .int a3)]) (fun f => ?_)
  refine L_aload_n 0 0 dL_cornering_0 rfl rfl ?_
  refine L_iload_n 1 1 dL_cornering_1 rfl rfl ?_
  refine L_iload_n 2 2 dL_cornering_2 rfl rfl ?_
  refine L_iload_n 3 3 dL_cornering_3 rfl rfl ?_
  refine L_iload 4 4 dL_cornering_4 rfl ?_
  refine L_catch 6 [.int a0, .int a1, .int a2, .int a3] (Nat.le_refl 1) (fun _ => rfl) hX dL_cornering_6 kl_481 wm_X6_setCorner (show _ = some 4 from by decide +kernel) ⟨Nat.le_of_ble_eq_true rfl, Nat.le_of_ble_eq_true rfl⟩ ⟨rfl, rfl⟩ rfl ⟨Nat.le_refl 1, Nat.le_refl 6⟩ rfl (Nat.le_of_ble_eq_true rfl) [_] _ _ rfl (fun z hz => by cases List.mem_singleton.mp hz; exact ⟨by decide, "java/lang/IndexOutOfBoundsException", kl_391, by first | exact Or.inl ⟨rfl, rfl⟩ | exact Or.inr ⟨rfl, rfl⟩⟩) (by decide) (by decide) kl_275 (by decide) ?_
  intro q
  refine L_astore 16 _ dL_cornering_16 (by decide) rfl ?_
  refine L_sipush 18 (-3002) dL_cornering_18 (by decide) ?_
  exact L_iret 21 dL_cornering_21 rfl rfl ⟨Nat.le_refl 1, Nat.le_refl 6⟩ ⟨_, rfl, rfl, rfl⟩
theorem w_squaring (a0 a1 a2 a3 a4 : Int32) (V : Mm) (P : Int32 → Mm → Prop) (hE : EvN ΛC mX6_setRectangle [.ref 109, .int a0, .int a1, .int a2, .int a3, .int a4] V (qI P)) : EvW mL_squaring (some hL_squaring) [.ref 109, .int a0, .int a1, .int a2, .int a3, .int a4] V (qI P) := by
  refine EvW_ofH (by decide +kernel) rfl (fun _ => rfl) (fun _ => Nat.le_of_ble_eq_true rfl) (ls := [(0, .ref 109), (1, .int a0), (2, .int a1), (3, .int a2), (4, .int a3), (5, .int a4)]) (fun f => ?_)
  refine L_aload_n 0 0 dL_squaring_0 rfl rfl ?_
  refine L_iload_n 1 1 dL_squaring_1 rfl rfl ?_
  refine L_iload_n 2 2 dL_squaring_2 rfl rfl ?_
  refine L_iload_n 3 3 dL_squaring_3 rfl rfl ?_
  refine L_iload 4 4 dL_squaring_4 rfl ?_
  refine L_iload 6 5 dL_squaring_6 rfl ?_
  refine L_callC 8 [.int a0, .int a1, .int a2, .int a3, .int a4] (Nat.le_refl 1) (fun _ => rfl) hE (by rintro r m ⟨x, rfl, _⟩ _; rfl) dL_squaring_8 kl_504 wm_X6_setRectangle (show _ = some 5 from by decide +kernel) ⟨Nat.le_of_ble_eq_true rfl, Nat.le_of_ble_eq_true rfl⟩ ⟨rfl, rfl⟩ rfl ⟨Nat.zero_le _, Nat.zero_le _⟩ rfl (Nat.le_of_ble_eq_true rfl) ?_
  rintro _ V2 ⟨v, rfl, hv⟩
  exact L_iret 11 dL_squaring_11 rfl rfl ⟨Nat.zero_le _, Nat.zero_le _⟩ ⟨v, rfl, hv⟩
theorem t_squaring_1 (a0 a1 a2 a3 a4 : Int32) (V : Mm) (hX : EvX ΛC xX6_setRectangle [.ref 109, .int a0, .int a1, .int a2, .int a3, .int a4] V (fun E V2 => "java/lang/IndexOutOfBoundsException" = E ∧ V = V2)) : EvW xL_squaring (some hL_squaring) [.ref 109, .int a0, .int a1, .int a2, .int a3, .int a4] V (qI (fun v V2 => -3001 = v ∧ V = V2)) := by
  refine EvW_ofH (by decide +kernel) rfl (fun _ => rfl) (fun _ => Nat.le_of_ble_eq_true rfl) (ls := [(0, .ref 109), (1, .int a0), (2, .int a1), (3, .int a2), (4, .int a3), (5, .int a4)]) (fun f => ?_)
  refine L_aload_n 0 0 dL_squaring_0 rfl rfl ?_
  refine L_iload_n 1 1 dL_squaring_1 rfl rfl ?_
  refine L_iload_n 2 2 dL_squaring_2 rfl rfl ?_
  refine L_iload_n 3 3 dL_squaring_3 rfl rfl ?_
  refine L_iload 4 4 dL_squaring_4 rfl ?_
  refine L_iload 6 5 dL_squaring_6 rfl ?_
  refine L_catch 8 [.int a0, .int a1, .int a2, .int a3, .int a4] (Nat.le_refl 1) (fun _ => rfl) hX dL_squaring_8 kl_504 wm_X6_setRectangle (show _ = some 5 from by decide +kernel) ⟨Nat.le_of_ble_eq_true rfl, Nat.le_of_ble_eq_true rfl⟩ ⟨rfl, rfl⟩ rfl ⟨Nat.le_refl 1, Nat.le_refl 6⟩ rfl (Nat.le_of_ble_eq_true rfl) [] _ _ rfl (fun z hz => nomatch hz) (by decide) (by decide) kl_391 (by decide) ?_
  intro q
  refine L_astore 12 _ dL_squaring_12 (by decide) rfl ?_
  refine L_sipush 14 (-3001) dL_squaring_14 (by decide) ?_
  exact L_iret 17 dL_squaring_17 rfl rfl ⟨Nat.le_refl 1, Nat.le_refl 6⟩ ⟨_, rfl, rfl, rfl⟩
theorem t_squaring_2 (a0 a1 a2 a3 a4 : Int32) (V : Mm) (hX : EvX ΛC xX6_setRectangle [.ref 109, .int a0, .int a1, .int a2, .int a3, .int a4] V (fun E V2 => "java/lang/IllegalArgumentException" = E ∧ V = V2)) : EvW xL_squaring (some hL_squaring) [.ref 109, .int a0, .int a1, .int a2, .int a3, .int a4] V (qI (fun v V2 => -3002 = v ∧ V = V2)) := by
  refine EvW_ofH (by decide +kernel) rfl (fun _ => rfl) (fun _ => Nat.le_of_ble_eq_true rfl) (ls := [(0, .ref 109), (1, .int a0), (2, .int a1), (3, .int a2), (4, .int a3), (5, .int a4)]) (fun f => ?_)
  refine L_aload_n 0 0 dL_squaring_0 rfl rfl ?_
  refine L_iload_n 1 1 dL_squaring_1 rfl rfl ?_
  refine L_iload_n 2 2 dL_squaring_2 rfl rfl ?_
  refine L_iload_n 3 3 dL_squaring_3 rfl rfl ?_
  refine L_iload 4 4 dL_squaring_4 rfl ?_
  refine L_iload 6 5 dL_squaring_6 rfl ?_
  refine L_catch 8 [.int a0, .int a1, .int a2, .int a3, .int a4] (Nat.le_refl 1) (fun _ => rfl) hX dL_squaring_8 kl_504 wm_X6_setRectangle (show _ = some 5 from by decide +kernel) ⟨Nat.le_of_ble_eq_true rfl, Nat.le_of_ble_eq_true rfl⟩ ⟨rfl, rfl⟩ rfl ⟨Nat.le_refl 1, Nat.le_refl 6⟩ rfl (Nat.le_of_ble_eq_true rfl) [_] _ _ rfl (fun z hz => by cases List.mem_singleton.mp hz; exact ⟨by decide, "java/lang/IndexOutOfBoundsException", kl_391, by first | exact Or.inl ⟨rfl, rfl⟩ | exact Or.inr ⟨rfl, rfl⟩⟩) (by decide) (by decide) kl_275 (by decide) ?_
  intro q
  refine L_astore 18 _ dL_squaring_18 (by decide) rfl ?_
  refine L_sipush 20 (-3002) dL_squaring_20 (by decide) ?_
  exact L_iret 23 dL_squaring_23 rfl rfl ⟨Nat.le_refl 1, Nat.le_refl 6⟩ ⟨_, rfl, rfl, rfl⟩
theorem w_setting (a0 a1 a2 : Int32) (V : Mm) (P : Int32 → Mm → Prop) (hE : EvN ΛC mX6_setLamp [.ref 109, .int a0, .int a1, .int a2] V (qI P)) : EvW mL_setting (some hL_setting) [.ref 109, .int a0, .int a1, .int a2] V (qI P) := by
  refine EvW_ofH (by decide +kernel) rfl (fun _ => rfl) (fun _ => Nat.le_of_ble_eq_true rfl) (ls := [(0, .ref 109), (1, .int a0), (2, .int a1), (3, .int a2)]) (fun f => ?_)
  refine L_aload_n 0 0 dL_setting_0 rfl rfl ?_
  refine L_iload_n 1 1 dL_setting_1 rfl rfl ?_
  refine L_iload_n 2 2 dL_setting_2 rfl rfl ?_
  refine L_iload_n 3 3 dL_setting_3 rfl rfl ?_
  refine L_callC 4 [.int a0, .int a1, .int a2] (Nat.le_refl 1) (fun _ => rfl) hE (by rintro r m ⟨x, rfl, _⟩ _; rfl) dL_setting_4 kl_600 wm_X6_setLamp (show _ = some 3 from by decide +kernel) ⟨Nat.le_of_ble_eq_true rfl, Nat.le_of_ble_eq_true rfl⟩ ⟨rfl, rfl⟩ rfl ⟨Nat.zero_le _, Nat.zero_le _⟩ rfl (Nat.le_of_ble_eq_true rfl) ?_
  rintro _ V2 ⟨v, rfl, hv⟩
  exact L_iret 7 dL_setting_7 rfl rfl ⟨Nat.zero_le _, Nat.zero_le _⟩ ⟨v, rfl, hv⟩
theorem t_setting_1 (a0 a1 a2 : Int32) (V : Mm) (hX : EvX ΛC xX6_setLamp [.ref 109, .int a0, .int a1, .int a2] V (fun E V2 => "java/lang/IndexOutOfBoundsException" = E ∧ V = V2)) : EvW xL_setting (some hL_setting) [.ref 109, .int a0, .int a1, .int a2] V (qI (fun v V2 => -3001 = v ∧ V = V2)) := by
  refine EvW_ofH (by decide +kernel) rfl (fun _ => rfl) (fun _ => Nat.le_of_ble_eq_true rfl) (ls := [(0, .ref 109), (1, .int a0), (2, .int a1), (3, .int a2)]) (fun f => ?_)
  refine L_aload_n 0 0 dL_setting_0 rfl rfl ?_
  refine L_iload_n 1 1 dL_setting_1 rfl rfl ?_
  refine L_iload_n 2 2 dL_setting_2 rfl rfl ?_
  refine L_iload_n 3 3 dL_setting_3 rfl rfl ?_
  refine L_catch 4 [.int a0, .int a1, .int a2] (Nat.le_refl 1) (fun _ => rfl) hX dL_setting_4 kl_600 wm_X6_setLamp (show _ = some 3 from by decide +kernel) ⟨Nat.le_of_ble_eq_true rfl, Nat.le_of_ble_eq_true rfl⟩ ⟨rfl, rfl⟩ rfl ⟨Nat.le_refl 1, Nat.le_refl 6⟩ rfl (Nat.le_of_ble_eq_true rfl) [] _ _ rfl (fun z hz => nomatch hz) (by decide) (by decide) kl_391 (by decide) ?_
  intro q
  refine L_astore 8 _ dL_setting_8 (by decide) rfl ?_
  refine L_sipush 10 (-3001) dL_setting_10 (by decide) ?_
  exact L_iret 13 dL_setting_13 rfl rfl ⟨Nat.le_refl 1, Nat.le_refl 6⟩ ⟨_, rfl, rfl, rfl⟩
theorem t_setting_2 (a0 a1 a2 : Int32) (V : Mm) (hX : EvX ΛC xX6_setLamp [.ref 109, .int a0, .int a1, .int a2] V (fun E V2 => "java/lang/IllegalArgumentException" = E ∧ V = V2)) : EvW xL_setting (some hL_setting) [.ref 109, .int a0, .int a1, .int a2] V (qI (fun v V2 => -3002 = v ∧ V = V2)) := by
  refine EvW_ofH (by decide +kernel) rfl (fun _ => rfl) (fun _ => Nat.le_of_ble_eq_true rfl) (ls := [(0, .ref 109), (1, .int a0), (2, .int a1), (3, .int a2)]) (fun f => ?_)
  refine L_aload_n 0 0 dL_setting_0 rfl rfl ?_
  refine L_iload_n 1 1 dL_setting_1 rfl rfl ?_
  refine L_iload_n 2 2 dL_setting_2 rfl rfl ?_
  refine L_iload_n 3 3 dL_setting_3 rfl rfl ?_
  refine L_catch 4 [.int a0, .int a1, .int a2] (Nat.le_refl 1) (fun _ => rfl) hX dL_setting_4 kl_600 wm_X6_setLamp (show _ = some 3 from by decide +kernel) ⟨Nat.le_of_ble_eq_true rfl, Nat.le_of_ble_eq_true rfl⟩ ⟨rfl, rfl⟩ rfl ⟨Nat.le_refl 1, Nat.le_refl 6⟩ rfl (Nat.le_of_ble_eq_true rfl) [_] _ _ rfl (fun z hz => by cases List.mem_singleton.mp hz; exact ⟨by decide, "java/lang/IndexOutOfBoundsException", kl_391, by first | exact Or.inl ⟨rfl, rfl⟩ | exact Or.inr ⟨rfl, rfl⟩⟩) (by decide) (by decide) kl_275 (by decide) ?_
  intro q
  refine L_astore 14 _ dL_setting_14 (by decide) rfl ?_
  refine L_sipush 16 (-3002) dL_setting_16 (by decide) ?_
  exact L_iret 19 dL_setting_19 rfl rfl ⟨Nat.le_refl 1, Nat.le_refl 6⟩ ⟨_, rfl, rfl, rfl⟩
theorem w_working (a0 a1 : Int32) (V : Mm) (P : Int32 → Mm → Prop) (hE : EvN ΛC mX6_setWorks [.ref 109, .int a0, .int a1] V (qI P)) : EvW mL_working (some hL_working) [.ref 109, .int a0, .int a1] V (qI P) := by
  refine EvW_ofH (by decide +kernel) rfl (fun _ => rfl) (fun _ => Nat.le_of_ble_eq_true rfl) (ls := [(0, .ref 109), (1, .int a0), (2, .int a1)]) (fun f => ?_)
  refine L_aload_n 0 0 dL_working_0 rfl rfl ?_
  refine L_iload_n 1 1 dL_working_1 rfl rfl ?_
  refine L_iload_n 2 2 dL_working_2 rfl rfl ?_
  refine L_callC 3 [.int a0, .int a1] (Nat.le_refl 1) (fun _ => rfl) hE (by rintro r m ⟨x, rfl, _⟩ _; rfl) dL_working_3 kl_642 wm_X6_setWorks (show _ = some 2 from by decide +kernel) ⟨Nat.le_of_ble_eq_true rfl, Nat.le_of_ble_eq_true rfl⟩ ⟨rfl, rfl⟩ rfl ⟨Nat.zero_le _, Nat.zero_le _⟩ rfl (Nat.le_of_ble_eq_true rfl) ?_
  rintro _ V2 ⟨v, rfl, hv⟩
  exact L_iret 6 dL_working_6 rfl rfl ⟨Nat.zero_le _, Nat.zero_le _⟩ ⟨v, rfl, hv⟩
theorem t_working_1 (a0 a1 : Int32) (V : Mm) (hX : EvX ΛC xX6_setWorks [.ref 109, .int a0, .int a1] V (fun E V2 => "java/lang/IndexOutOfBoundsException" = E ∧ V = V2)) : EvW xL_working (some hL_working) [.ref 109, .int a0, .int a1] V (qI (fun v V2 => -3001 = v ∧ V = V2)) := by
  refine EvW_ofH (by decide +kernel) rfl (fun _ => rfl) (fun _ => Nat.le_of_ble_eq_true rfl) (ls := [(0, .ref 109), (1, .int a0), (2, .int a1)]) (fun f => ?_)
  refine L_aload_n 0 0 dL_working_0 rfl rfl ?_
  refine L_iload_n 1 1 dL_working_1 rfl rfl ?_
  refine L_iload_n 2 2 dL_working_2 rfl rfl ?_
  refine L_catch 3 [.int a0, .int a1] (Nat.le_refl 1) (fun _ => rfl) hX dL_working_3 kl_642 wm_X6_setWorks (show _ = some 2 from by decide +kernel) ⟨Nat.le_of_ble_eq_true rfl, Nat.le_of_ble_eq_true rfl⟩ ⟨rfl, rfl⟩ rfl ⟨Nat.le_refl 1, Nat.le_refl 6⟩ rfl (Nat.le_of_ble_eq_true rfl) [] _ _ rfl (fun z hz => nomatch hz) (by decide) (by decide) kl_391 (by decide) ?_
  intro q
  refine L_astore_n 7 _ dL_working_7 rfl (by decide) rfl ?_
  refine L_sipush 8 (-3001) dL_working_8 (by decide) ?_
  exact L_iret 11 dL_working_11 rfl rfl ⟨Nat.le_refl 1, Nat.le_refl 6⟩ ⟨_, rfl, rfl, rfl⟩
theorem w_shifting (a0 a1 : Int32) (V : Mm) (P : Int32 → Mm → Prop) (hE : EvN ΛC mX6_shift [.ref 109, .int a0, .int a1] V (qI P)) : EvW mL_shifting (some hL_shifting) [.ref 109, .int a0, .int a1] V (qI P) := by
  refine EvW_ofH (by decide +kernel) rfl (fun _ => rfl) (fun _ => Nat.le_of_ble_eq_true rfl) (ls := [(0, .ref 109), (1, .int a0), (2, .int a1)]) (fun f => ?_)
  refine L_aload_n 0 0 dL_shifting_0 rfl rfl ?_
  refine L_iload_n 1 1 dL_shifting_1 rfl rfl ?_
  refine L_iload_n 2 2 dL_shifting_2 rfl rfl ?_
  refine L_callC 3 [.int a0, .int a1] (Nat.le_refl 1) (fun _ => rfl) hE (by rintro r m ⟨x, rfl, _⟩ _; rfl) dL_shifting_3 kl_657 wm_X6_shift (show _ = some 2 from by decide +kernel) ⟨Nat.le_of_ble_eq_true rfl, Nat.le_of_ble_eq_true rfl⟩ ⟨rfl, rfl⟩ rfl ⟨Nat.zero_le _, Nat.zero_le _⟩ rfl (Nat.le_of_ble_eq_true rfl) ?_
  rintro _ V2 ⟨v, rfl, hv⟩
  exact L_iret 6 dL_shifting_6 rfl rfl ⟨Nat.zero_le _, Nat.zero_le _⟩ ⟨v, rfl, hv⟩
theorem t_shifting_2 (a0 a1 : Int32) (V : Mm) (hX : EvX ΛC xX6_shift [.ref 109, .int a0, .int a1] V (fun E V2 => "java/lang/IllegalArgumentException" = E ∧ V = V2)) : EvW xL_shifting (some hL_shifting) [.ref 109, .int a0, .int a1] V (qI (fun v V2 => -3002 = v ∧ V = V2)) := by
  refine EvW_ofH (by decide +kernel) rfl (fun _ => rfl) (fun _ => Nat.le_of_ble_eq_true rfl) (ls := [(0, .ref 109), (1, .int a0), (2, .int a1)]) (fun f => ?_)
  refine L_aload_n 0 0 dL_shifting_0 rfl rfl ?_
  refine L_iload_n 1 1 dL_shifting_1 rfl rfl ?_
  refine L_iload_n 2 2 dL_shifting_2 rfl rfl ?_
  refine L_catch 3 [.int a0, .int a1] (Nat.le_refl 1) (fun _ => rfl) hX dL_shifting_3 kl_657 wm_X6_shift (show _ = some 2 from by decide +kernel) ⟨Nat.le_of_ble_eq_true rfl, Nat.le_of_ble_eq_true rfl⟩ ⟨rfl, rfl⟩ rfl ⟨Nat.le_refl 1, Nat.le_refl 6⟩ rfl (Nat.le_of_ble_eq_true rfl) [] _ _ rfl (fun z hz => nomatch hz) (by decide) (by decide) kl_275 (by decide) ?_
  intro q
  refine L_astore_n 7 _ dL_shifting_7 rfl (by decide) rfl ?_
  refine L_sipush 8 (-3002) dL_shifting_8 (by decide) ?_
  exact L_iret 11 dL_shifting_11 rfl rfl ⟨Nat.le_refl 1, Nat.le_refl 6⟩ ⟨_, rfl, rfl, rfl⟩
theorem w_burning (a0 : Int32) (V : Mm) (P : Int32 → Mm → Prop) (hE : EvN ΛC mX6_burn [.ref 109, .int a0] V (qI P)) : EvW mL_burning (some hL_burning) [.ref 109, .int a0] V (qI P) := by
  refine EvW_ofH (by decide +kernel) rfl (fun _ => rfl) (fun _ => Nat.le_of_ble_eq_true rfl) (ls := [(0, .ref 109), (1, .int a0)]) (fun f => ?_)
  refine L_aload_n 0 0 dL_burning_0 rfl rfl ?_
  refine L_iload_n 1 1 dL_burning_1 rfl rfl ?_
  refine L_callC 2 [.int a0] (Nat.le_refl 1) (fun _ => rfl) hE (by rintro r m ⟨x, rfl, _⟩ _; rfl) dL_burning_2 kl_679 wm_X6_burn (show _ = some 1 from by decide +kernel) ⟨Nat.le_of_ble_eq_true rfl, Nat.le_of_ble_eq_true rfl⟩ ⟨rfl, rfl⟩ rfl ⟨Nat.zero_le _, Nat.zero_le _⟩ rfl (Nat.le_of_ble_eq_true rfl) ?_
  rintro _ V2 ⟨v, rfl, hv⟩
  exact L_iret 5 dL_burning_5 rfl rfl ⟨Nat.zero_le _, Nat.zero_le _⟩ ⟨v, rfl, hv⟩
theorem t_burning_2 (a0 : Int32) (V : Mm) (hX : EvX ΛC xX6_burn [.ref 109, .int a0] V (fun E V2 => "java/lang/IllegalArgumentException" = E ∧ V = V2)) : EvW xL_burning (some hL_burning) [.ref 109, .int a0] V (qI (fun v V2 => -3002 = v ∧ V = V2)) := by
  refine EvW_ofH (by decide +kernel) rfl (fun _ => rfl) (fun _ => Nat.le_of_ble_eq_true rfl) (ls := [(0, .ref 109), (1, .int a0)]) (fun f => ?_)
  refine L_aload_n 0 0 dL_burning_0 rfl rfl ?_
  refine L_iload_n 1 1 dL_burning_1 rfl rfl ?_
  refine L_catch 2 [.int a0] (Nat.le_refl 1) (fun _ => rfl) hX dL_burning_2 kl_679 wm_X6_burn (show _ = some 1 from by decide +kernel) ⟨Nat.le_of_ble_eq_true rfl, Nat.le_of_ble_eq_true rfl⟩ ⟨rfl, rfl⟩ rfl ⟨Nat.le_refl 1, Nat.le_refl 6⟩ rfl (Nat.le_of_ble_eq_true rfl) [] _ _ rfl (fun z hz => nomatch hz) (by decide) (by decide) kl_275 (by decide) ?_
  intro q
  refine L_astore_n 6 _ dL_burning_6 rfl (by decide) rfl ?_
  refine L_sipush 7 (-3002) dL_burning_7 (by decide) ?_
  exact L_iret 10 dL_burning_10 rfl rfl ⟨Nat.le_refl 1, Nat.le_refl 6⟩ ⟨_, rfl, rfl, rfl⟩
theorem w_placing (a0 a1 a2 : Int32) (V : Mm) (P : Int32 → Mm → Prop) (hE : EvN ΛC mX6_place [.ref 109, .int a0, .int a1, .int a2] V (qI P)) : EvW mL_placing (some hL_placing) [.ref 109, .int a0, .int a1, .int a2] V (qI P) := by
  refine EvW_ofH (by decide +kernel) rfl (fun _ => rfl) (fun _ => Nat.le_of_ble_eq_true rfl) (ls := [(0, .ref 109), (1, .int a0), (2, .int a1), (3, .int a2)]) (fun f => ?_)
  refine L_aload_n 0 0 dL_placing_0 rfl rfl ?_
  refine L_iload_n 1 1 dL_placing_1 rfl rfl ?_
  refine L_iload_n 2 2 dL_placing_2 rfl rfl ?_
  refine L_iload_n 3 3 dL_placing_3 rfl rfl ?_
  refine L_callC 4 [.int a0, .int a1, .int a2] (Nat.le_refl 1) (fun _ => rfl) hE (by rintro r m ⟨x, rfl, _⟩ _; rfl) dL_placing_4 kl_786 wm_X6_place (show _ = some 3 from by decide +kernel) ⟨Nat.le_of_ble_eq_true rfl, Nat.le_of_ble_eq_true rfl⟩ ⟨rfl, rfl⟩ rfl ⟨Nat.zero_le _, Nat.zero_le _⟩ rfl (Nat.le_of_ble_eq_true rfl) ?_
  rintro _ V2 ⟨v, rfl, hv⟩
  exact L_iret 7 dL_placing_7 rfl rfl ⟨Nat.zero_le _, Nat.zero_le _⟩ ⟨v, rfl, hv⟩
theorem t_placing_1 (a0 a1 a2 : Int32) (V : Mm) (hX : EvX ΛC xX6_place [.ref 109, .int a0, .int a1, .int a2] V (fun E V2 => "java/lang/IndexOutOfBoundsException" = E ∧ V = V2)) : EvW xL_placing (some hL_placing) [.ref 109, .int a0, .int a1, .int a2] V (qI (fun v V2 => -3001 = v ∧ V = V2)) := by
  refine EvW_ofH (by decide +kernel) rfl (fun _ => rfl) (fun _ => Nat.le_of_ble_eq_true rfl) (ls := [(0, .ref 109), (1, .int a0), (2, .int a1), (3, .int a2)]) (fun f => ?_)
  refine L_aload_n 0 0 dL_placing_0 rfl rfl ?_
  refine L_iload_n 1 1 dL_placing_1 rfl rfl ?_
  refine L_iload_n 2 2 dL_placing_2 rfl rfl ?_
  refine L_iload_n 3 3 dL_placing_3 rfl rfl ?_
  refine L_catch 4 [.int a0, .int a1, .int a2] (Nat.le_refl 1) (fun _ => rfl) hX dL_placing_4 kl_786 wm_X6_place (show _ = some 3 from by decide +kernel) ⟨Nat.le_of_ble_eq_true rfl, Nat.le_of_ble_eq_true rfl⟩ ⟨rfl, rfl⟩ rfl ⟨Nat.le_refl 1, Nat.le_refl 6⟩ rfl (Nat.le_of_ble_eq_true rfl) [] _ _ rfl (fun z hz => nomatch hz) (by decide) (by decide) kl_391 (by decide) ?_
  intro q
  refine L_astore 8 _ dL_placing_8 (by decide) rfl ?_
  refine L_sipush 10 (-3001) dL_placing_10 (by decide) ?_
  exact L_iret 13 dL_placing_13 rfl rfl ⟨Nat.le_refl 1, Nat.le_refl 6⟩ ⟨_, rfl, rfl, rfl⟩
theorem t_placing_2 (a0 a1 a2 : Int32) (V : Mm) (hX : EvX ΛC xX6_place [.ref 109, .int a0, .int a1, .int a2] V (fun E V2 => "java/lang/IllegalArgumentException" = E ∧ V = V2)) : EvW xL_placing (some hL_placing) [.ref 109, .int a0, .int a1, .int a2] V (qI (fun v V2 => -3002 = v ∧ V = V2)) := by
  refine EvW_ofH (by decide +kernel) rfl (fun _ => rfl) (fun _ => Nat.le_of_ble_eq_true rfl) (ls := [(0, .ref 109), (1, .int a0), (2, .int a1), (3, .int a2)]) (fun f => ?_)
  refine L_aload_n 0 0 dL_placing_0 rfl rfl ?_
  refine L_iload_n 1 1 dL_placing_1 rfl rfl ?_
  refine L_iload_n 2 2 dL_placing_2 rfl rfl ?_
  refine L_iload_n 3 3 dL_placing_3 rfl rfl ?_
  refine L_catch 4 [.int a0, .int a1, .int a2] (Nat.le_refl 1) (fun _ => rfl) hX dL_placing_4 kl_786 wm_X6_place (show _ = some 3 from by decide +kernel) ⟨Nat.le_of_ble_eq_true rfl, Nat.le_of_ble_eq_true rfl⟩ ⟨rfl, rfl⟩ rfl ⟨Nat.le_refl 1, Nat.le_refl 6⟩ rfl (Nat.le_of_ble_eq_true rfl) [_] _ _ rfl (fun z hz => by cases List.mem_singleton.mp hz; exact ⟨by decide, "java/lang/IndexOutOfBoundsException", kl_391, by first | exact Or.inl ⟨rfl, rfl⟩ | exact Or.inr ⟨rfl, rfl⟩⟩) (by decide) (by decide) kl_275 (by decide) ?_
  intro q
  refine L_astore 14 _ dL_placing_14 (by decide) rfl ?_
  refine L_sipush 16 (-3002) dL_placing_16 (by decide) ?_
  exact L_iret 19 dL_placing_19 rfl rfl ⟨Nat.le_refl 1, Nat.le_refl 6⟩ ⟨_, rfl, rfl, rfl⟩
theorem w_lighting (a0 a1 a2 : Int32) (V : Mm) (P : Int32 → Mm → Prop) (hE : EvN ΛC mX6_light [.ref 109, .int a0, .int a1, .int a2] V (qI P)) : EvW mL_lighting (some hL_lighting) [.ref 109, .int a0, .int a1, .int a2] V (qI P) := by
  refine EvW_ofH (by decide +kernel) rfl (fun _ => rfl) (fun _ => Nat.le_of_ble_eq_true rfl) (ls := [(0, .ref 109), (1, .int a0), (2, .int a1), (3, .int a2)]) (fun f => ?_)
  refine L_aload_n 0 0 dL_lighting_0 rfl rfl ?_
  refine L_iload_n 1 1 dL_lighting_1 rfl rfl ?_
  refine L_iload_n 2 2 dL_lighting_2 rfl rfl ?_
  refine L_iload_n 3 3 dL_lighting_3 rfl rfl ?_
  refine L_callC 4 [.int a0, .int a1, .int a2] (Nat.le_refl 1) (fun _ => rfl) hE (by rintro r m ⟨x, rfl, _⟩ _; rfl) dL_lighting_4 kl_825 wm_X6_light (show _ = some 3 from by decide +kernel) ⟨Nat.le_of_ble_eq_true rfl, Nat.le_of_ble_eq_true rfl⟩ ⟨rfl, rfl⟩ rfl ⟨Nat.zero_le _, Nat.zero_le _⟩ rfl (Nat.le_of_ble_eq_true rfl) ?_
  rintro _ V2 ⟨v, rfl, hv⟩
  exact L_iret 7 dL_lighting_7 rfl rfl ⟨Nat.zero_le _, Nat.zero_le _⟩ ⟨v, rfl, hv⟩
theorem t_lighting_1 (a0 a1 a2 : Int32) (V : Mm) (hX : EvX ΛC xX6_light [.ref 109, .int a0, .int a1, .int a2] V (fun E V2 => "java/lang/IndexOutOfBoundsException" = E ∧ V = V2)) : EvW xL_lighting (some hL_lighting) [.ref 109, .int a0, .int a1, .int a2] V (qI (fun v V2 => -3001 = v ∧ V = V2)) := by
  refine EvW_ofH (by decide +kernel) rfl (fun _ => rfl) (fun _ => Nat.le_of_ble_eq_true rfl) (ls := [(0, .ref 109), (1, .int a0), (2, .int a1), (3, .int a2)]) (fun f => ?_)
  refine L_aload_n 0 0 dL_lighting_0 rfl rfl ?_
  refine L_iload_n 1 1 dL_lighting_1 rfl rfl ?_
  refine L_iload_n 2 2 dL_lighting_2 rfl rfl ?_
  refine L_iload_n 3 3 dL_lighting_3 rfl rfl ?_
  refine L_catch 4 [.int a0, .int a1, .int a2] (Nat.le_refl 1) (fun _ => rfl) hX dL_lighting_4 kl_825 wm_X6_light (show _ = some 3 from by decide +kernel) ⟨Nat.le_of_ble_eq_true rfl, Nat.le_of_ble_eq_true rfl⟩ ⟨rfl, rfl⟩ rfl ⟨Nat.le_refl 1, Nat.le_refl 6⟩ rfl (Nat.le_of_ble_eq_true rfl) [] _ _ rfl (fun z hz => nomatch hz) (by decide) (by decide) kl_391 (by decide) ?_
  intro q
  refine L_astore 8 _ dL_lighting_8 (by decide) rfl ?_
  refine L_sipush 10 (-3001) dL_lighting_10 (by decide) ?_
  exact L_iret 13 dL_lighting_13 rfl rfl ⟨Nat.le_refl 1, Nat.le_refl 6⟩ ⟨_, rfl, rfl, rfl⟩
theorem w_weighing (a0 a1 a2 : Int32) (V : Mm) (P : Int32 → Mm → Prop) (hE : EvN ΛC mX6_weight [.ref 109, .int a0, .int a1, .int a2] V (qI P)) : EvW mL_weighing (some hL_weighing) [.ref 109, .int a0, .int a1, .int a2] V (qI P) := by
  refine EvW_ofH (by decide +kernel) rfl (fun _ => rfl) (fun _ => Nat.le_of_ble_eq_true rfl) (ls := [(0, .ref 109), (1, .int a0), (2, .int a1), (3, .int a2)]) (fun f => ?_)
  refine L_aload_n 0 0 dL_weighing_0 rfl rfl ?_
  refine L_iload_n 1 1 dL_weighing_1 rfl rfl ?_
  refine L_iload_n 2 2 dL_weighing_2 rfl rfl ?_
  refine L_iload_n 3 3 dL_weighing_3 rfl rfl ?_
  refine L_callC 4 [.int a0, .int a1, .int a2] (Nat.le_refl 1) (fun _ => rfl) hE (by rintro r m ⟨x, rfl, _⟩ _; rfl) dL_weighing_4 kl_860 wm_X6_weight (show _ = some 3 from by decide +kernel) ⟨Nat.le_of_ble_eq_true rfl, Nat.le_of_ble_eq_true rfl⟩ ⟨rfl, rfl⟩ rfl ⟨Nat.zero_le _, Nat.zero_le _⟩ rfl (Nat.le_of_ble_eq_true rfl) ?_
  rintro _ V2 ⟨v, rfl, hv⟩
  exact L_iret 7 dL_weighing_7 rfl rfl ⟨Nat.zero_le _, Nat.zero_le _⟩ ⟨v, rfl, hv⟩
theorem t_weighing_1 (a0 a1 a2 : Int32) (V : Mm) (hX : EvX ΛC xX6_weight [.ref 109, .int a0, .int a1, .int a2] V (fun E V2 => "java/lang/IndexOutOfBoundsException" = E ∧ V = V2)) : EvW xL_weighing (some hL_weighing) [.ref 109, .int a0, .int a1, .int a2] V (qI (fun v V2 => -3001 = v ∧ V = V2)) := by
  refine EvW_ofH (by decide +kernel) rfl (fun _ => rfl) (fun _ => Nat.le_of_ble_eq_true rfl) (ls := [(0, .ref 109), (1, .int a0), (2, .int a1), (3, .int a2)]) (fun f => ?_)
  refine L_aload_n 0 0 dL_weighing_0 rfl rfl ?_
  refine L_iload_n 1 1 dL_weighing_1 rfl rfl ?_
  refine L_iload_n 2 2 dL_weighing_2 rfl rfl ?_
  refine L_iload_n 3 3 dL_weighing_3 rfl rfl ?_
  refine L_catch 4 [.int a0, .int a1, .int a2] (Nat.le_refl 1) (fun _ => rfl) hX dL_weighing_4 kl_860 wm_X6_weight (show _ = some 3 from by decide +kernel) ⟨Nat.le_of_ble_eq_true rfl, Nat.le_of_ble_eq_true rfl⟩ ⟨rfl, rfl⟩ rfl ⟨Nat.le_refl 1, Nat.le_refl 6⟩ rfl (Nat.le_of_ble_eq_true rfl) [] _ _ rfl (fun z hz => nomatch hz) (by decide) (by decide) kl_391 (by decide) ?_
  intro q
  refine L_astore 8 _ dL_weighing_8 (by decide) rfl ?_
  refine L_sipush 10 (-3001) dL_weighing_10 (by decide) ?_
  exact L_iret 13 dL_weighing_13 rfl rfl ⟨Nat.le_refl 1, Nat.le_refl 6⟩ ⟨_, rfl, rfl, rfl⟩
theorem w_lamping (a0 a1 : Int32) (V : Mm) (P : Int32 → Mm → Prop) (hE : EvN ΛC mX6_lamp [.ref 109, .int a0, .int a1] V (qI P)) : EvW mL_lamping (some hL_lamping) [.ref 109, .int a0, .int a1] V (qI P) := by
  refine EvW_ofH (by decide +kernel) rfl (fun _ => rfl) (fun _ => Nat.le_of_ble_eq_true rfl) (ls := [(0, .ref 109), (1, .int a0), (2, .int a1)]) (fun f => ?_)
  refine L_aload_n 0 0 dL_lamping_0 rfl rfl ?_
  refine L_iload_n 1 1 dL_lamping_1 rfl rfl ?_
  refine L_iload_n 2 2 dL_lamping_2 rfl rfl ?_
  refine L_callC 3 [.int a0, .int a1] (Nat.le_refl 1) (fun _ => rfl) hE (by rintro r m ⟨x, rfl, _⟩ _; rfl) dL_lamping_3 kl_765 wm_X6_lamp (show _ = some 2 from by decide +kernel) ⟨Nat.le_of_ble_eq_true rfl, Nat.le_of_ble_eq_true rfl⟩ ⟨rfl, rfl⟩ rfl ⟨Nat.zero_le _, Nat.zero_le _⟩ rfl (Nat.le_of_ble_eq_true rfl) ?_
  rintro _ V2 ⟨v, rfl, hv⟩
  exact L_iret 6 dL_lamping_6 rfl rfl ⟨Nat.zero_le _, Nat.zero_le _⟩ ⟨v, rfl, hv⟩
theorem t_lamping_1 (a0 a1 : Int32) (V : Mm) (hX : EvX ΛC xX6_lamp [.ref 109, .int a0, .int a1] V (fun E V2 => "java/lang/IndexOutOfBoundsException" = E ∧ V = V2)) : EvW xL_lamping (some hL_lamping) [.ref 109, .int a0, .int a1] V (qI (fun v V2 => -3001 = v ∧ V = V2)) := by
  refine EvW_ofH (by decide +kernel) rfl (fun _ => rfl) (fun _ => Nat.le_of_ble_eq_true rfl) (ls := [(0, .ref 109), (1, .int a0), (2, .int a1)]) (fun f => ?_)
  refine L_aload_n 0 0 dL_lamping_0 rfl rfl ?_
  refine L_iload_n 1 1 dL_lamping_1 rfl rfl ?_
  refine L_iload_n 2 2 dL_lamping_2 rfl rfl ?_
  refine L_catch 3 [.int a0, .int a1] (Nat.le_refl 1) (fun _ => rfl) hX dL_lamping_3 kl_765 wm_X6_lamp (show _ = some 2 from by decide +kernel) ⟨Nat.le_of_ble_eq_true rfl, Nat.le_of_ble_eq_true rfl⟩ ⟨rfl, rfl⟩ rfl ⟨Nat.le_refl 1, Nat.le_refl 6⟩ rfl (Nat.le_of_ble_eq_true rfl) [] _ _ rfl (fun z hz => nomatch hz) (by decide) (by decide) kl_391 (by decide) ?_
  intro q
  refine L_astore_n 7 _ dL_lamping_7 rfl (by decide) rfl ?_
  refine L_sipush 8 (-3001) dL_lamping_8 (by decide) ?_
  exact L_iret 11 dL_lamping_11 rfl rfl ⟨Nat.le_refl 1, Nat.le_refl 6⟩ ⟨_, rfl, rfl, rfl⟩
theorem t_lamping_2 (a0 a1 : Int32) (V : Mm) (hX : EvX ΛC xX6_lamp [.ref 109, .int a0, .int a1] V (fun E V2 => "java/lang/IllegalArgumentException" = E ∧ V = V2)) : EvW xL_lamping (some hL_lamping) [.ref 109, .int a0, .int a1] V (qI (fun v V2 => -3002 = v ∧ V = V2)) := by
  refine EvW_ofH (by decide +kernel) rfl (fun _ => rfl) (fun _ => Nat.le_of_ble_eq_true rfl) (ls := [(0, .ref 109), (1, .int a0), (2, .int a1)]) (fun f => ?_)
  refine L_aload_n 0 0 dL_lamping_0 rfl rfl ?_
  refine L_iload_n 1 1 dL_lamping_1 rfl rfl ?_
  refine L_iload_n 2 2 dL_lamping_2 rfl rfl ?_
  refine L_catch 3 [.int a0, .int a1] (Nat.le_refl 1) (fun _ => rfl) hX dL_lamping_3 kl_765 wm_X6_lamp (show _ = some 2 from by decide +kernel) ⟨Nat.le_of_ble_eq_true rfl, Nat.le_of_ble_eq_true rfl⟩ ⟨rfl, rfl⟩ rfl ⟨Nat.le_refl 1, Nat.le_refl 6⟩ rfl (Nat.le_of_ble_eq_true rfl) [_] _ _ rfl (fun z hz => by cases List.mem_singleton.mp hz; exact ⟨by decide, "java/lang/IndexOutOfBoundsException", kl_391, by first | exact Or.inl ⟨rfl, rfl⟩ | exact Or.inr ⟨rfl, rfl⟩⟩) (by decide) (by decide) kl_275 (by decide) ?_
  intro q
  refine L_astore_n 12 _ dL_lamping_12 rfl (by decide) rfl ?_
  refine L_sipush 13 (-3002) dL_lamping_13 (by decide) ?_
  exact L_iret 16 dL_lamping_16 rfl rfl ⟨Nat.le_refl 1, Nat.le_refl 6⟩ ⟨_, rfl, rfl, rfl⟩
theorem w_cornerAt (a0 a1 a2 : Int32) (V : Mm) (P : Int32 → Mm → Prop) (hE : EvN ΛC mX6_corner [.ref 109, .int a0, .int a1, .int a2] V (qI P)) : EvW mL_cornerAt (some hL_cornerAt) [.ref 109, .int a0, .int a1, .int a2] V (qI P) := by
  refine EvW_ofH (by decide +kernel) rfl (fun _ => rfl) (fun _ => Nat.le_of_ble_eq_true rfl) (ls := [(0, .ref 109), (1, .int a0), (2, .int a1), (3, .int a2)]) (fun f => ?_)
  refine L_aload_n 0 0 dL_cornerAt_0 rfl rfl ?_
  refine L_iload_n 1 1 dL_cornerAt_1 rfl rfl ?_
  refine L_iload_n 2 2 dL_cornerAt_2 rfl rfl ?_
  refine L_iload_n 3 3 dL_cornerAt_3 rfl rfl ?_
  refine L_callC 4 [.int a0, .int a1, .int a2] (Nat.le_refl 1) (fun _ => rfl) hE (by rintro r m ⟨x, rfl, _⟩ _; rfl) dL_cornerAt_4 kl_772 wm_X6_corner (show _ = some 3 from by decide +kernel) ⟨Nat.le_of_ble_eq_true rfl, Nat.le_of_ble_eq_true rfl⟩ ⟨rfl, rfl⟩ rfl ⟨Nat.zero_le _, Nat.zero_le _⟩ rfl (Nat.le_of_ble_eq_true rfl) ?_
  rintro _ V2 ⟨v, rfl, hv⟩
  exact L_iret 7 dL_cornerAt_7 rfl rfl ⟨Nat.zero_le _, Nat.zero_le _⟩ ⟨v, rfl, hv⟩
theorem t_cornerAt_1 (a0 a1 a2 : Int32) (V : Mm) (hX : EvX ΛC xX6_corner [.ref 109, .int a0, .int a1, .int a2] V (fun E V2 => "java/lang/IndexOutOfBoundsException" = E ∧ V = V2)) : EvW xL_cornerAt (some hL_cornerAt) [.ref 109, .int a0, .int a1, .int a2] V (qI (fun v V2 => -3001 = v ∧ V = V2)) := by
  refine EvW_ofH (by decide +kernel) rfl (fun _ => rfl) (fun _ => Nat.le_of_ble_eq_true rfl) (ls := [(0, .ref 109), (1, .int a0), (2, .int a1), (3, .int a2)]) (fun f => ?_)
  refine L_aload_n 0 0 dL_cornerAt_0 rfl rfl ?_
  refine L_iload_n 1 1 dL_cornerAt_1 rfl rfl ?_
  refine L_iload_n 2 2 dL_cornerAt_2 rfl rfl ?_
  refine L_iload_n 3 3 dL_cornerAt_3 rfl rfl ?_
  refine L_catch 4 [.int a0, .int a1, .int a2] (Nat.le_refl 1) (fun _ => rfl) hX dL_cornerAt_4 kl_772 wm_X6_corner (show _ = some 3 from by decide +kernel) ⟨Nat.le_of_ble_eq_true rfl, Nat.le_of_ble_eq_true rfl⟩ ⟨rfl, rfl⟩ rfl ⟨Nat.le_refl 1, Nat.le_refl 6⟩ rfl (Nat.le_of_ble_eq_true rfl) [] _ _ rfl (fun z hz => nomatch hz) (by decide) (by decide) kl_391 (by decide) ?_
  intro q
  refine L_astore 8 _ dL_cornerAt_8 (by decide) rfl ?_
  refine L_sipush 10 (-3001) dL_cornerAt_10 (by decide) ?_
  exact L_iret 13 dL_cornerAt_13 rfl rfl ⟨Nat.le_refl 1, Nat.le_refl 6⟩ ⟨_, rfl, rfl, rfl⟩
theorem t_cornerAt_2 (a0 a1 a2 : Int32) (V : Mm) (hX : EvX ΛC xX6_corner [.ref 109, .int a0, .int a1, .int a2] V (fun E V2 => "java/lang/IllegalArgumentException" = E ∧ V = V2)) : EvW xL_cornerAt (some hL_cornerAt) [.ref 109, .int a0, .int a1, .int a2] V (qI (fun v V2 => -3002 = v ∧ V = V2)) := by
  refine EvW_ofH (by decide +kernel) rfl (fun _ => rfl) (fun _ => Nat.le_of_ble_eq_true rfl) (ls := [(0, .ref 109), (1, .int a0), (2, .int a1), (3, .int a2)]) (fun f => ?_)
  refine L_aload_n 0 0 dL_cornerAt_0 rfl rfl ?_
  refine L_iload_n 1 1 dL_cornerAt_1 rfl rfl ?_
  refine L_iload_n 2 2 dL_cornerAt_2 rfl rfl ?_
  refine L_iload_n 3 3 dL_cornerAt_3 rfl rfl ?_
  refine L_catch 4 [.int a0, .int a1, .int a2] (Nat.le_refl 1) (fun _ => rfl) hX dL_cornerAt_4 kl_772 wm_X6_corner (show _ = some 3 from by decide +kernel) ⟨Nat.le_of_ble_eq_true rfl, Nat.le_of_ble_eq_true rfl⟩ ⟨rfl, rfl⟩ rfl ⟨Nat.le_refl 1, Nat.le_refl 6⟩ rfl (Nat.le_of_ble_eq_true rfl) [_] _ _ rfl (fun z hz => by cases List.mem_singleton.mp hz; exact ⟨by decide, "java/lang/IndexOutOfBoundsException", kl_391, by first | exact Or.inl ⟨rfl, rfl⟩ | exact Or.inr ⟨rfl, rfl⟩⟩) (by decide) (by decide) kl_275 (by decide) ?_
  intro q
  refine L_astore 14 _ dL_cornerAt_14 (by decide) rfl ?_
  refine L_sipush 16 (-3002) dL_cornerAt_16 (by decide) ?_
  exact L_iret 19 dL_cornerAt_19 rfl rfl ⟨Nat.le_refl 1, Nat.le_refl 6⟩ ⟨_, rfl, rfl, rfl⟩
theorem w_all (a0 : Int32) (V : Mm) (P : Int32 → Mm → Prop) (hE : EvN ΛC mX6_whole [.ref 109, .int a0] V (qI P)) : EvW mL_all (some hL_all) [.ref 109, .int a0] V (qI P) := by
  refine EvW_ofH (by decide +kernel) rfl (fun _ => rfl) (fun _ => Nat.le_of_ble_eq_true rfl) (ls := [(0, .ref 109), (1, .int a0)]) (fun f => ?_)
  refine L_aload_n 0 0 dL_all_0 rfl rfl ?_
  refine L_iload_n 1 1 dL_all_1 rfl rfl ?_
  refine L_callC 2 [.int a0] (Nat.le_refl 1) (fun _ => rfl) hE (by rintro r m ⟨x, rfl, _⟩ _; rfl) dL_all_2 kl_709 wm_X6_whole (show _ = some 1 from by decide +kernel) ⟨Nat.le_of_ble_eq_true rfl, Nat.le_of_ble_eq_true rfl⟩ ⟨rfl, rfl⟩ rfl ⟨Nat.zero_le _, Nat.zero_le _⟩ rfl (Nat.le_of_ble_eq_true rfl) ?_
  rintro _ V2 ⟨v, rfl, hv⟩
  exact L_iret 5 dL_all_5 rfl rfl ⟨Nat.zero_le _, Nat.zero_le _⟩ ⟨v, rfl, hv⟩
theorem t_all_2 (a0 : Int32) (V : Mm) (hX : EvX ΛC xX6_whole [.ref 109, .int a0] V (fun E V2 => "java/lang/IllegalArgumentException" = E ∧ V = V2)) : EvW xL_all (some hL_all) [.ref 109, .int a0] V (qI (fun v V2 => -3002 = v ∧ V = V2)) := by
  refine EvW_ofH (by decide +kernel) rfl (fun _ => rfl) (fun _ => Nat.le_of_ble_eq_true rfl) (ls := [(0, .ref 109), (1, .int a0)]) (fun f => ?_)
  refine L_aload_n 0 0 dL_all_0 rfl rfl ?_
  refine L_iload_n 1 1 dL_all_1 rfl rfl ?_
  refine L_catch 2 [.int a0] (Nat.le_refl 1) (fun _ => rfl) hX dL_all_2 kl_709 wm_X6_whole (show _ = some 1 from by decide +kernel) ⟨Nat.le_of_ble_eq_true rfl, Nat.le_of_ble_eq_true rfl⟩ ⟨rfl, rfl⟩ rfl ⟨Nat.le_refl 1, Nat.le_refl 6⟩ rfl (Nat.le_of_ble_eq_true rfl) [] _ _ rfl (fun z hz => nomatch hz) (by decide) (by decide) kl_275 (by decide) ?_
  intro q
  refine L_astore_n 6 _ dL_all_6 rfl (by decide) rfl ?_
  refine L_sipush 7 (-3002) dL_all_7 (by decide) ?_
  exact L_iret 10 dL_all_10 rfl rfl ⟨Nat.le_refl 1, Nat.le_refl 6⟩ ⟨_, rfl, rfl, rfl⟩
theorem w_wrongAt (a0 : Int32) (V : Mm) (P : Int32 → Mm → Prop) (hE : EvN ΛC mX6_wrong [.ref 109, .int a0] V (qI P)) : EvW mL_wrongAt (some hL_wrongAt) [.ref 109, .int a0] V (qI P) := by
  refine EvW_ofH (by decide +kernel) rfl (fun _ => rfl) (fun _ => Nat.le_of_ble_eq_true rfl) (ls := [(0, .ref 109), (1, .int a0)]) (fun f => ?_)
  refine L_aload_n 0 0 dL_wrongAt_0 rfl rfl ?_
  refine L_iload_n 1 1 dL_wrongAt_1 rfl rfl ?_
  refine L_callC 2 [.int a0] (Nat.le_refl 1) (fun _ => rfl) hE (by rintro r m ⟨x, rfl, _⟩ _; rfl) dL_wrongAt_2 kl_928 wm_X6_wrong (show _ = some 1 from by decide +kernel) ⟨Nat.le_of_ble_eq_true rfl, Nat.le_of_ble_eq_true rfl⟩ ⟨rfl, rfl⟩ rfl ⟨Nat.zero_le _, Nat.zero_le _⟩ rfl (Nat.le_of_ble_eq_true rfl) ?_
  rintro _ V2 ⟨v, rfl, hv⟩
  exact L_iret 5 dL_wrongAt_5 rfl rfl ⟨Nat.zero_le _, Nat.zero_le _⟩ ⟨v, rfl, hv⟩
theorem t_wrongAt_2 (a0 : Int32) (V : Mm) (hX : EvX ΛC xX6_wrong [.ref 109, .int a0] V (fun E V2 => "java/lang/IllegalArgumentException" = E ∧ V = V2)) : EvW xL_wrongAt (some hL_wrongAt) [.ref 109, .int a0] V (qI (fun v V2 => -3002 = v ∧ V = V2)) := by
  refine EvW_ofH (by decide +kernel) rfl (fun _ => rfl) (fun _ => Nat.le_of_ble_eq_true rfl) (ls := [(0, .ref 109), (1, .int a0)]) (fun f => ?_)
  refine L_aload_n 0 0 dL_wrongAt_0 rfl rfl ?_
  refine L_iload_n 1 1 dL_wrongAt_1 rfl rfl ?_
  refine L_catch 2 [.int a0] (Nat.le_refl 1) (fun _ => rfl) hX dL_wrongAt_2 kl_928 wm_X6_wrong (show _ = some 1 from by decide +kernel) ⟨Nat.le_of_ble_eq_true rfl, Nat.le_of_ble_eq_true rfl⟩ ⟨rfl, rfl⟩ rfl ⟨Nat.le_refl 1, Nat.le_refl 6⟩ rfl (Nat.le_of_ble_eq_true rfl) [] _ _ rfl (fun z hz => nomatch hz) (by decide) (by decide) kl_275 (by decide) ?_
  intro q
  refine L_astore_n 6 _ dL_wrongAt_6 rfl (by decide) rfl ?_
  refine L_sipush 7 (-3002) dL_wrongAt_7 (by decide) ?_
  exact L_iret 10 dL_wrongAt_10 rfl rfl ⟨Nat.le_refl 1, Nat.le_refl 6⟩ ⟨_, rfl, rfl, rfl⟩
theorem w_wrongBut (a0 : Int32) (V : Mm) (P : Int32 → Mm → Prop) (hE : EvN ΛC mX6_wrongWithout [.ref 109, .int a0] V (qI P)) : EvW mL_wrongBut (some hL_wrongBut) [.ref 109, .int a0] V (qI P) := by
  refine EvW_ofH (by decide +kernel) rfl (fun _ => rfl) (fun _ => Nat.le_of_ble_eq_true rfl) (ls := [(0, .ref 109), (1, .int a0)]) (fun f => ?_)
  refine L_aload_n 0 0 dL_wrongBut_0 rfl rfl ?_
  refine L_iload_n 1 1 dL_wrongBut_1 rfl rfl ?_
  refine L_callC 2 [.int a0] (Nat.le_refl 1) (fun _ => rfl) hE (by rintro r m ⟨x, rfl, _⟩ _; rfl) dL_wrongBut_2 kl_870 wm_X6_wrongWithout (show _ = some 1 from by decide +kernel) ⟨Nat.le_of_ble_eq_true rfl, Nat.le_of_ble_eq_true rfl⟩ ⟨rfl, rfl⟩ rfl ⟨Nat.zero_le _, Nat.zero_le _⟩ rfl (Nat.le_of_ble_eq_true rfl) ?_
  rintro _ V2 ⟨v, rfl, hv⟩
  exact L_iret 5 dL_wrongBut_5 rfl rfl ⟨Nat.zero_le _, Nat.zero_le _⟩ ⟨v, rfl, hv⟩
theorem t_wrongBut_1 (a0 : Int32) (V : Mm) (hX : EvX ΛC xX6_wrongWithout [.ref 109, .int a0] V (fun E V2 => "java/lang/IndexOutOfBoundsException" = E ∧ V = V2)) : EvW xL_wrongBut (some hL_wrongBut) [.ref 109, .int a0] V (qI (fun v V2 => -3001 = v ∧ V = V2)) := by
  refine EvW_ofH (by decide +kernel) rfl (fun _ => rfl) (fun _ => Nat.le_of_ble_eq_true rfl) (ls := [(0, .ref 109), (1, .int a0)]) (fun f => ?_)
  refine L_aload_n 0 0 dL_wrongBut_0 rfl rfl ?_
  refine L_iload_n 1 1 dL_wrongBut_1 rfl rfl ?_
  refine L_catch 2 [.int a0] (Nat.le_refl 1) (fun _ => rfl) hX dL_wrongBut_2 kl_870 wm_X6_wrongWithout (show _ = some 1 from by decide +kernel) ⟨Nat.le_of_ble_eq_true rfl, Nat.le_of_ble_eq_true rfl⟩ ⟨rfl, rfl⟩ rfl ⟨Nat.le_refl 1, Nat.le_refl 6⟩ rfl (Nat.le_of_ble_eq_true rfl) [] _ _ rfl (fun z hz => nomatch hz) (by decide) (by decide) kl_391 (by decide) ?_
  intro q
  refine L_astore_n 6 _ dL_wrongBut_6 rfl (by decide) rfl ?_
  refine L_sipush 7 (-3001) dL_wrongBut_7 (by decide) ?_
  exact L_iret 10 dL_wrongBut_10 rfl rfl ⟨Nat.le_refl 1, Nat.le_refl 6⟩ ⟨_, rfl, rfl, rfl⟩
theorem w_wrongBy (a0 a1 : Int32) (V : Mm) (P : Int32 → Mm → Prop) (hE : EvN ΛC mX6_wrongShifted [.ref 109, .int a0, .int a1] V (qI P)) : EvW mL_wrongBy (some hL_wrongBy) [.ref 109, .int a0, .int a1] V (qI P) := by
  refine EvW_ofH (by decide +kernel) rfl (fun _ => rfl) (fun _ => Nat.le_of_ble_eq_true rfl) (ls := [(0, .ref 109), (1, .int a0), (2, .int a1)]) (fun f => ?_)
  refine L_aload_n 0 0 dL_wrongBy_0 rfl rfl ?_
  refine L_iload_n 1 1 dL_wrongBy_1 rfl rfl ?_
  refine L_iload_n 2 2 dL_wrongBy_2 rfl rfl ?_
  refine L_callC 3 [.int a0, .int a1] (Nat.le_refl 1) (fun _ => rfl) hE (by rintro r m ⟨x, rfl, _⟩ _; rfl) dL_wrongBy_3 kl_902 wm_X6_wrongShifted (show _ = some 2 from by decide +kernel) ⟨Nat.le_of_ble_eq_true rfl, Nat.le_of_ble_eq_true rfl⟩ ⟨rfl, rfl⟩ rfl ⟨Nat.zero_le _, Nat.zero_le _⟩ rfl (Nat.le_of_ble_eq_true rfl) ?_
  rintro _ V2 ⟨v, rfl, hv⟩
  exact L_iret 6 dL_wrongBy_6 rfl rfl ⟨Nat.zero_le _, Nat.zero_le _⟩ ⟨v, rfl, hv⟩
theorem t_wrongBy_2 (a0 a1 : Int32) (V : Mm) (hX : EvX ΛC xX6_wrongShifted [.ref 109, .int a0, .int a1] V (fun E V2 => "java/lang/IllegalArgumentException" = E ∧ V = V2)) : EvW xL_wrongBy (some hL_wrongBy) [.ref 109, .int a0, .int a1] V (qI (fun v V2 => -3002 = v ∧ V = V2)) := by
  refine EvW_ofH (by decide +kernel) rfl (fun _ => rfl) (fun _ => Nat.le_of_ble_eq_true rfl) (ls := [(0, .ref 109), (1, .int a0), (2, .int a1)]) (fun f => ?_)
  refine L_aload_n 0 0 dL_wrongBy_0 rfl rfl ?_
  refine L_iload_n 1 1 dL_wrongBy_1 rfl rfl ?_
  refine L_iload_n 2 2 dL_wrongBy_2 rfl rfl ?_
  refine L_catch 3 [.int a0, .int a1] (Nat.le_refl 1) (fun _ => rfl) hX dL_wrongBy_3 kl_902 wm_X6_wrongShifted (show _ = some 2 from by decide +kernel) ⟨Nat.le_of_ble_eq_true rfl, Nat.le_of_ble_eq_true rfl⟩ ⟨rfl, rfl⟩ rfl ⟨Nat.le_refl 1, Nat.le_refl 6⟩ rfl (Nat.le_of_ble_eq_true rfl) [] _ _ rfl (fun z hz => nomatch hz) (by decide) (by decide) kl_275 (by decide) ?_
  intro q
  refine L_astore_n 7 _ dL_wrongBy_7 rfl (by decide) rfl ?_
  refine L_sipush 8 (-3002) dL_wrongBy_8 (by decide) ?_
  exact L_iret 11 dL_wrongBy_11 rfl rfl ⟨Nat.le_refl 1, Nat.le_refl 6⟩ ⟨_, rfl, rfl, rfl⟩
theorem w_besting (a0 : Int32) (V : Mm) (P : Int32 → Mm → Prop) (hE : EvN ΛC mX6_bestShift [.ref 109, .int a0] V (qI P)) : EvW mL_besting (some hL_besting) [.ref 109, .int a0] V (qI P) := by
  refine EvW_ofH (by decide +kernel) rfl (fun _ => rfl) (fun _ => Nat.le_of_ble_eq_true rfl) (ls := [(0, .ref 109), (1, .int a0)]) (fun f => ?_)
  refine L_aload_n 0 0 dL_besting_0 rfl rfl ?_
  refine L_iload_n 1 1 dL_besting_1 rfl rfl ?_
  refine L_callC 2 [.int a0] (Nat.le_refl 1) (fun _ => rfl) hE (by rintro r m ⟨x, rfl, _⟩ _; rfl) dL_besting_2 kl_909 wm_X6_bestShift (show _ = some 1 from by decide +kernel) ⟨Nat.le_of_ble_eq_true rfl, Nat.le_of_ble_eq_true rfl⟩ ⟨rfl, rfl⟩ rfl ⟨Nat.zero_le _, Nat.zero_le _⟩ rfl (Nat.le_of_ble_eq_true rfl) ?_
  rintro _ V2 ⟨v, rfl, hv⟩
  exact L_iret 5 dL_besting_5 rfl rfl ⟨Nat.zero_le _, Nat.zero_le _⟩ ⟨v, rfl, hv⟩
theorem t_besting_2 (a0 : Int32) (V : Mm) (hX : EvX ΛC xX6_bestShift [.ref 109, .int a0] V (fun E V2 => "java/lang/IllegalArgumentException" = E ∧ V = V2)) : EvW xL_besting (some hL_besting) [.ref 109, .int a0] V (qI (fun v V2 => -3002 = v ∧ V = V2)) := by
  refine EvW_ofH (by decide +kernel) rfl (fun _ => rfl) (fun _ => Nat.le_of_ble_eq_true rfl) (ls := [(0, .ref 109), (1, .int a0)]) (fun f => ?_)
  refine L_aload_n 0 0 dL_besting_0 rfl rfl ?_
  refine L_iload_n 1 1 dL_besting_1 rfl rfl ?_
  refine L_catch 2 [.int a0] (Nat.le_refl 1) (fun _ => rfl) hX dL_besting_2 kl_909 wm_X6_bestShift (show _ = some 1 from by decide +kernel) ⟨Nat.le_of_ble_eq_true rfl, Nat.le_of_ble_eq_true rfl⟩ ⟨rfl, rfl⟩ rfl ⟨Nat.le_refl 1, Nat.le_refl 6⟩ rfl (Nat.le_of_ble_eq_true rfl) [] _ _ rfl (fun z hz => nomatch hz) (by decide) (by decide) kl_275 (by decide) ?_
  intro q
  refine L_astore_n 6 _ dL_besting_6 rfl (by decide) rfl ?_
  refine L_sipush 7 (-3002) dL_besting_7 (by decide) ?_
  exact L_iret 10 dL_besting_10 rfl rfl ⟨Nat.le_refl 1, Nat.le_refl 6⟩ ⟨_, rfl, rfl, rfl⟩
theorem w_needing (a0 : Int32) (V : Mm) (P : Int32 → Mm → Prop) (hE : EvN ΛC mX6_neededLimit [.ref 109, .int a0] V (qI P)) : EvW mL_needing (some hL_needing) [.ref 109, .int a0] V (qI P) := by
  refine EvW_ofH (by decide +kernel) rfl (fun _ => rfl) (fun _ => Nat.le_of_ble_eq_true rfl) (ls := [(0, .ref 109), (1, .int a0)]) (fun f => ?_)
  refine L_aload_n 0 0 dL_needing_0 rfl rfl ?_
  refine L_iload_n 1 1 dL_needing_1 rfl rfl ?_
  refine L_callC 2 [.int a0] (Nat.le_refl 1) (fun _ => rfl) hE (by rintro r m ⟨x, rfl, _⟩ _; rfl) dL_needing_2 kl_891 wm_X6_neededLimit (show _ = some 1 from by decide +kernel) ⟨Nat.le_of_ble_eq_true rfl, Nat.le_of_ble_eq_true rfl⟩ ⟨rfl, rfl⟩ rfl ⟨Nat.zero_le _, Nat.zero_le _⟩ rfl (Nat.le_of_ble_eq_true rfl) ?_
  rintro _ V2 ⟨v, rfl, hv⟩
  exact L_iret 5 dL_needing_5 rfl rfl ⟨Nat.zero_le _, Nat.zero_le _⟩ ⟨v, rfl, hv⟩
theorem t_needing_1 (a0 : Int32) (V : Mm) (hX : EvX ΛC xX6_neededLimit [.ref 109, .int a0] V (fun E V2 => "java/lang/IndexOutOfBoundsException" = E ∧ V = V2)) : EvW xL_needing (some hL_needing) [.ref 109, .int a0] V (qI (fun v V2 => -3001 = v ∧ V = V2)) := by
  refine EvW_ofH (by decide +kernel) rfl (fun _ => rfl) (fun _ => Nat.le_of_ble_eq_true rfl) (ls := [(0, .ref 109), (1, .int a0)]) (fun f => ?_)
  refine L_aload_n 0 0 dL_needing_0 rfl rfl ?_
  refine L_iload_n 1 1 dL_needing_1 rfl rfl ?_
  refine L_catch 2 [.int a0] (Nat.le_refl 1) (fun _ => rfl) hX dL_needing_2 kl_891 wm_X6_neededLimit (show _ = some 1 from by decide +kernel) ⟨Nat.le_of_ble_eq_true rfl, Nat.le_of_ble_eq_true rfl⟩ ⟨rfl, rfl⟩ rfl ⟨Nat.le_refl 1, Nat.le_refl 6⟩ rfl (Nat.le_of_ble_eq_true rfl) [] _ _ rfl (fun z hz => nomatch hz) (by decide) (by decide) kl_391 (by decide) ?_
  intro q
  refine L_astore_n 6 _ dL_needing_6 rfl (by decide) rfl ?_
  refine L_sipush 7 (-3001) dL_needing_7 (by decide) ?_
  exact L_iret 10 dL_needing_10 rfl rfl ⟨Nat.le_refl 1, Nat.le_refl 6⟩ ⟨_, rfl, rfl, rfl⟩
theorem w_typing (a0 : Int32) (V : Mm) (P : Int32 → Mm → Prop) (hE : EvN ΛC mX6_type [.ref 109, .int a0] V (qI P)) : EvW mL_typing (some hL_typing) [.ref 109, .int a0] V (qI P) := by
  refine EvW_ofH (by decide +kernel) rfl (fun _ => rfl) (fun _ => Nat.le_of_ble_eq_true rfl) (ls := [(0, .ref 109), (1, .int a0)]) (fun f => ?_)
  refine L_aload_n 0 0 dL_typing_0 rfl rfl ?_
  refine L_iload_n 1 1 dL_typing_1 rfl rfl ?_
  refine L_callC 2 [.int a0] (Nat.le_refl 1) (fun _ => rfl) hE (by rintro r m ⟨x, rfl, _⟩ _; rfl) dL_typing_2 kl_916 wm_X6_type (show _ = some 1 from by decide +kernel) ⟨Nat.le_of_ble_eq_true rfl, Nat.le_of_ble_eq_true rfl⟩ ⟨rfl, rfl⟩ rfl ⟨Nat.zero_le _, Nat.zero_le _⟩ rfl (Nat.le_of_ble_eq_true rfl) ?_
  rintro _ V2 ⟨v, rfl, hv⟩
  exact L_iret 5 dL_typing_5 rfl rfl ⟨Nat.zero_le _, Nat.zero_le _⟩ ⟨v, rfl, hv⟩
theorem t_typing_2 (a0 : Int32) (V : Mm) (hX : EvX ΛC xX6_type [.ref 109, .int a0] V (fun E V2 => "java/lang/IllegalArgumentException" = E ∧ V = V2)) : EvW xL_typing (some hL_typing) [.ref 109, .int a0] V (qI (fun v V2 => -3002 = v ∧ V = V2)) := by
  refine EvW_ofH (by decide +kernel) rfl (fun _ => rfl) (fun _ => Nat.le_of_ble_eq_true rfl) (ls := [(0, .ref 109), (1, .int a0)]) (fun f => ?_)
  refine L_aload_n 0 0 dL_typing_0 rfl rfl ?_
  refine L_iload_n 1 1 dL_typing_1 rfl rfl ?_
  refine L_catch 2 [.int a0] (Nat.le_refl 1) (fun _ => rfl) hX dL_typing_2 kl_916 wm_X6_type (show _ = some 1 from by decide +kernel) ⟨Nat.le_of_ble_eq_true rfl, Nat.le_of_ble_eq_true rfl⟩ ⟨rfl, rfl⟩ rfl ⟨Nat.le_refl 1, Nat.le_refl 6⟩ rfl (Nat.le_of_ble_eq_true rfl) [] _ _ rfl (fun z hz => nomatch hz) (by decide) (by decide) kl_275 (by decide) ?_
  intro q
  refine L_astore_n 6 _ dL_typing_6 rfl (by decide) rfl ?_
  refine L_sipush 7 (-3002) dL_typing_7 (by decide) ?_
  exact L_iret 10 dL_typing_10 rfl rfl ⟨Nat.le_refl 1, Nat.le_refl 6⟩ ⟨_, rfl, rfl, rfl⟩
theorem t_typing_3 (a0 : Int32) (V : Mm) (hX : EvX ΛC xX6_type [.ref 109, .int a0] V (fun E V2 => "java/lang/IllegalStateException" = E ∧ V = V2)) : EvW xL_typing (some hL_typing) [.ref 109, .int a0] V (qI (fun v V2 => -3003 = v ∧ V = V2)) := by
  refine EvW_ofH (by decide +kernel) rfl (fun _ => rfl) (fun _ => Nat.le_of_ble_eq_true rfl) (ls := [(0, .ref 109), (1, .int a0)]) (fun f => ?_)
  refine L_aload_n 0 0 dL_typing_0 rfl rfl ?_
  refine L_iload_n 1 1 dL_typing_1 rfl rfl ?_
  refine L_catch 2 [.int a0] (Nat.le_refl 1) (fun _ => rfl) hX dL_typing_2 kl_916 wm_X6_type (show _ = some 1 from by decide +kernel) ⟨Nat.le_of_ble_eq_true rfl, Nat.le_of_ble_eq_true rfl⟩ ⟨rfl, rfl⟩ rfl ⟨Nat.le_refl 1, Nat.le_refl 6⟩ rfl (Nat.le_of_ble_eq_true rfl) [_] _ _ rfl (fun z hz => by cases List.mem_singleton.mp hz; exact ⟨by decide, "java/lang/IllegalArgumentException", kl_275, by first | exact Or.inl ⟨rfl, rfl⟩ | exact Or.inr ⟨rfl, rfl⟩⟩) (by decide) (by decide) kl_442 (by decide) ?_
  intro q
  refine L_astore_n 11 _ dL_typing_11 rfl (by decide) rfl ?_
  refine L_sipush 12 (-3003) dL_typing_12 (by decide) ?_
  exact L_iret 15 dL_typing_15 rfl rfl ⟨Nat.le_refl 1, Nat.le_refl 6⟩ ⟨_, rfl, rfl, rfl⟩
theorem w_undoing (V : Mm) (P : Int32 → Mm → Prop) (hE : EvN ΛC mX6_undo [.ref 109] V (qI P)) : EvW mL_undoing (some hL_undoing) [.ref 109] V (qI P) := by
  refine EvW_ofH (by decide +kernel) rfl (fun _ => rfl) (fun _ => Nat.le_of_ble_eq_true rfl) (ls := [(0, .ref 109)]) (fun f => ?_)
  refine L_aload_n 0 0 dL_undoing_0 rfl rfl ?_
  refine L_callC 1 [] (Nat.le_refl 1) (fun _ => rfl) hE (by rintro r m ⟨x, rfl, _⟩ _; rfl) dL_undoing_1 kl_743 wm_X6_undo (show _ = some 0 from by decide +kernel) ⟨Nat.le_of_ble_eq_true rfl, Nat.le_of_ble_eq_true rfl⟩ ⟨rfl, rfl⟩ rfl ⟨Nat.zero_le _, Nat.zero_le _⟩ rfl (Nat.le_of_ble_eq_true rfl) ?_
  rintro _ V2 ⟨v, rfl, hv⟩
  exact L_iret 4 dL_undoing_4 rfl rfl ⟨Nat.zero_le _, Nat.zero_le _⟩ ⟨v, rfl, hv⟩
theorem t_undoing_3 (V : Mm) (hX : EvX ΛC xX6_undo [.ref 109] V (fun E V2 => "java/lang/IllegalStateException" = E ∧ V = V2)) : EvW xL_undoing (some hL_undoing) [.ref 109] V (qI (fun v V2 => -3003 = v ∧ V = V2)) := by
  refine EvW_ofH (by decide +kernel) rfl (fun _ => rfl) (fun _ => Nat.le_of_ble_eq_true rfl) (ls := [(0, .ref 109)]) (fun f => ?_)
  refine L_aload_n 0 0 dL_undoing_0 rfl rfl ?_
  refine L_catch 1 [] (Nat.le_refl 1) (fun _ => rfl) hX dL_undoing_1 kl_743 wm_X6_undo (show _ = some 0 from by decide +kernel) ⟨Nat.le_of_ble_eq_true rfl, Nat.le_of_ble_eq_true rfl⟩ ⟨rfl, rfl⟩ rfl ⟨Nat.le_refl 1, Nat.le_refl 6⟩ rfl (Nat.le_of_ble_eq_true rfl) [] _ _ rfl (fun z hz => nomatch hz) (by decide) (by decide) kl_442 (by decide) ?_
  intro q
  refine L_astore_n 5 _ dL_undoing_5 rfl (by decide) rfl ?_
  refine L_sipush 6 (-3003) dL_undoing_6 (by decide) ?_
  exact L_iret 9 dL_undoing_9 rfl rfl ⟨Nat.le_refl 1, Nat.le_refl 6⟩ ⟨_, rfl, rfl, rfl⟩
