/-! told -/
def okW (x : Int64) : Bool := allN 8 (fun k => decide (bK x k = 0) || rgB (bK x k) 0 127)
theorem okW_i {x : Int64} (h : okW x = true) : ∀ k, k < 8 → bK x k = 0 ∨ rgI (bK x k) 0 127 := fun k hk => by
  have := allN_iff.mp h k hk
  rw [Bool.or_eq_true, decide_eq_true_eq, rgB_i] at this
  exact this
theorem tyF_le (x : Int64) : ∀ (n L : Nat) (b : Nat → Int32), (tyF x n L b).1 ≤ L + n
  | 0, _, _ => Nat.le_refl _
  | n + 1, L, b => by
    unfold tyF
    split
    · have := tyF_le x n L b; omega
    · have := tyF_le x n (L + 1) (upB b L (bK x n)); omega
def tdT (x y z : Int64) : Nat × (Nat → Int32) := tyF z 8 (tyF y 8 (tyF x 8 0 (fun _ => 0)).1 (tyF x 8 0 (fun _ => 0)).2).1 (tyF y 8 (tyF x 8 0 (fun _ => 0)).1 (tyF x 8 0 (fun _ => 0)).2).2
/-- the answer v of told, reckoned -/
def tdB (x y z : Int64) (v : Int32) : Bool := (okW x && (okW y && okW z)) && bif decide (ffV (tdT x y z).2 (tdT x y z).1 < 0) then decide (nI (runK (tdT x y z).2 (tdT x y z).1 150 0 12 8 0) = v) else (decide (-10 - ffV (tdT x y z).2 (tdT x y z).1 = v) && decide (v < 0))
theorem runK_le (b : Nat → Int32) (L : Nat) : ∀ F p c r lc, runK b L F p c r lc ≤ F
  | 0, _, _, _, _ => Nat.le_refl _
  | F + 1, p, c, r, lc => by
    rw [runK_s]
    cases h : (rdCK b L p 0 0 (fun _ => 0)).1 && okK c r lc (tn (rdCK b L p 0 0 (fun _ => 0)).2.2.2.1) (rdCK b L p 0 0 (fun _ => 0)).2.2.2.2 with
    | false => exact Nat.zero_le _
    | true => exact Nat.succ_le_succ (runK_le b L F _ _ _ _)
theorem DM00 : DM V0 12 8 0 := (ST00 (fun _ => V0)).dm
theorem st0 {V S : Mm} {c r lc L : Nat} {T : Nat → Mm} {b : Nat → Int32} (h : ST V S c r lc T 0 L b) : V 107 2 ≤ 0 := by
  obtain ⟨la, h⟩ := h
  rw [h.1.2.2.2.2.1]
  exact Int32.le_refl _
set_option maxHeartbeats 8000000 in
set_option maxRecDepth 100000 in
theorem a_told {x y z : Int64} {v : Int32} (hv : tdB x y z v = true) : EvA mL_told none [.long x, .long y, .long z] (fun r => ∃ u : Int32, r = some (.int u) ∧ v = u) := by
  refine EvA_of (by decide +kernel) rfl (fun _ => rfl) (fun _ => Nat.le_of_ble_eq_true rfl) (ls := [(0, .long x), (2, .long y), (4, .long z)]) (fun ω => ?_)
  unfold tdB at hv
  rw [Bool.and_eq_true, Bool.and_eq_true, Bool.and_eq_true] at hv
  obtain ⟨⟨hx, hy, hz⟩, hv⟩ := hv
  have l1 := tyF_le x 8 0 (fun _ => 0)
  have l2 := tyF_le y 8 (tyF x 8 0 (fun _ => 0)).1 (tyF x 8 0 (fun _ => 0)).2
  refine L_newC 0 dL_told_0 dL_told_3 dL_told_4 kz_c lk_191 ⟨Nat.le_of_ble_eq_true rfl, Nat.le_of_ble_eq_true rfl⟩ ⟨Nat.le_of_ble_eq_true rfl, Nat.le_of_ble_eq_true rfl⟩ (fun _ _ => rfl) (fun f => ?_)
  have hS := ST00 (fun _ => V0)
  refine L_astore 7 [(6, .ref 109), (0, .long x), (2, .long y), (4, .long z)] dL_told_7 (by decide) rfl ?_
  refine L_aload 9 0 dL_told_9 rfl ?_
  refine L_lload_n 11 1 dL_told_11 rfl rfl ?_
  refine L_cWv 12 [.ref 109, .long x] (Nat.le_refl 1) (w_types hS (okW_i hx) (by omega)) dL_told_12 lk_192 hc_types hs_types hp_types rfl ⟨rfl, rfl⟩ ⟨Nat.le_of_ble_eq_true rfl, Nat.le_of_ble_eq_true rfl⟩ ⟨Nat.le_of_ble_eq_true rfl, Nat.le_of_ble_eq_true rfl⟩ rfl (Nat.le_of_ble_eq_true rfl) ?_
  rintro V hS
  refine L_aload 15 0 dL_told_15 rfl ?_
  refine L_lload_n 17 2 dL_told_17 rfl rfl ?_
  refine L_cWv 18 [.ref 109, .long y] (Nat.le_refl 1) (w_types hS (okW_i hy) (by omega)) dL_told_18 lk_192 hc_types hs_types hp_types rfl ⟨rfl, rfl⟩ ⟨Nat.le_of_ble_eq_true rfl, Nat.le_of_ble_eq_true rfl⟩ ⟨Nat.le_of_ble_eq_true rfl, Nat.le_of_ble_eq_true rfl⟩ rfl (Nat.le_of_ble_eq_true rfl) ?_
  rintro V hS
  refine L_aload 21 0 dL_told_21 rfl ?_
  refine L_lload 23 3 dL_told_23 rfl ?_
  refine L_cWv 25 [.ref 109, .long z] (Nat.le_refl 1) (w_types hS (okW_i hz) (by omega)) dL_told_25 lk_192 hc_types hs_types hp_types rfl ⟨rfl, rfl⟩ ⟨Nat.le_of_ble_eq_true rfl, Nat.le_of_ble_eq_true rfl⟩ ⟨Nat.le_of_ble_eq_true rfl, Nat.le_of_ble_eq_true rfl⟩ rfl (Nat.le_of_ble_eq_true rfl) ?_
  rintro V hS
  change ST V V0 12 8 0 (fun _ => V0) 0 (tdT x y z).1 (tdT x y z).2 at hS
  have l3 : (tdT x y z).1 ≤ 24 := by have := tyF_le z 8 (tyF y 8 (tyF x 8 0 (fun _ => 0)).1 (tyF x 8 0 (fun _ => 0)).2).1 (tyF y 8 (tyF x 8 0 (fun _ => 0)).1 (tyF x 8 0 (fun _ => 0)).2).2; unfold tdT; omega
  revert hv l3 hS
  generalize (tdT x y z).1 = L
  generalize (tdT x y z).2 = b
  intro hv hS l3
  refine L_aload 28 0 dL_told_28 rfl ?_
  refine L_cCl 30 (Nat.le_refl 1) (o_digest hS) dL_told_30 lk_127 wm_X6_digest hq_digest rfl ⟨rfl, rfl⟩ ⟨Nat.le_of_ble_eq_true rfl, Nat.le_of_ble_eq_true rfl⟩ ⟨Nat.le_of_ble_eq_true rfl, Nat.le_of_ble_eq_true rfl⟩ rfl (Nat.le_of_ble_eq_true rfl) ?_
  rintro _ V ⟨rfl, hS⟩
  refine L_lstore 33 [(7, .long (dgV V0 0 12 8 (nI L) (nI 0))), (6, .ref 109), (0, .long x), (2, .long y), (4, .long z)] dL_told_33 (by decide) rfl ?_
  refine L_aload 35 1 dL_told_35 rfl ?_
  refine L_cC 37 (Nat.le_refl 1) (o_runCommands hS) dL_told_37 lk_196 wm_X6_runCommands hq_runCommands rfl ⟨rfl, rfl⟩ ⟨Nat.le_of_ble_eq_true rfl, Nat.le_of_ble_eq_true rfl⟩ ⟨Nat.le_of_ble_eq_true rfl, Nat.le_of_ble_eq_true rfl⟩ rfl (Nat.le_of_ble_eq_true rfl) ?_
  rintro u V hu
  rcases hu with ⟨h1, h2, hS⟩ | ⟨h1, h2, S2, c2, r2, l2, hS⟩
  · rw [show decide (ffV b L < 0) = false from decide_eq_false h1] at hv
    rw [cond_false, Bool.and_eq_true, decide_eq_true_eq, decide_eq_true_eq] at hv
    have e : u = v := h2.symm.trans hv.1
    subst e
    refine L_istore 40 [(9, .int u), (7, .long (dgV V0 0 12 8 (nI L) (nI 0))), (6, .ref 109), (0, .long x), (2, .long y), (4, .long z)] dL_told_40 (by decide) rfl ?_
    refine L_iload 42 0 dL_told_42 rfl ?_
    refine L_if_ge 44 78 dL_told_44 (by decide) (fun c_0 => absurd c_0 (Int32.not_le.mpr hv.2)) (fun _ => ?_)
    refine L_aload 47 2 dL_told_47 rfl ?_
    refine L_cCl 49 (Nat.le_refl 1) (o_digest hS) dL_told_49 lk_127 wm_X6_digest hq_digest rfl ⟨rfl, rfl⟩ ⟨Nat.le_of_ble_eq_true rfl, Nat.le_of_ble_eq_true rfl⟩ ⟨Nat.le_of_ble_eq_true rfl, Nat.le_of_ble_eq_true rfl⟩ rfl (Nat.le_of_ble_eq_true rfl) ?_
    rintro _ V ⟨rfl, hS⟩
    refine L_lload 52 1 dL_told_52 rfl ?_
    refine L_lcmp 54 dL_told_54 ?_
    rw [lg_cmp_rf]
    refine L_if_ne 55 74 dL_told_55 (by decide) (fun c_0 => by first | exact absurd rfl c_0 | exact absurd c_0 (by decide) | exact absurd (by decide) c_0) (fun _ => ?_)
    refine L_aload 58 2 dL_told_58 rfl ?_
    refine L_cT 60 [.ref 109] 111 7008 (Nat.le_refl 1) (t_undoing_3  V (x_X6_undo_State V (st0 hS))) dL_told_60 lk_199 hc_undoing hs_undoing hp_undoing rfl ⟨rfl, rfl⟩ ⟨Nat.le_of_ble_eq_true rfl, Nat.le_of_ble_eq_true rfl⟩ ⟨Nat.le_of_ble_eq_true rfl, Nat.le_of_ble_eq_true rfl⟩ rfl (Nat.le_of_ble_eq_true rfl) ?_
    rintro _ _ ⟨rfl, rfl⟩
    refine L_sipush 63 (-3003) dL_told_63 (by decide) ?_
    refine L_icmp_ne 66 74 dL_told_66 (by decide) (fun c_0 => by first | exact absurd rfl c_0 | exact absurd c_0 (by decide) | exact absurd (by decide) c_0) (fun _ => ?_)
    refine L_iload 69 0 dL_told_69 rfl ?_
    refine L_goto 71 77 dL_told_71 (by decide) ?_
    exact L_iretA 77 dL_told_77 rfl rfl ⟨Nat.le_of_ble_eq_true rfl, Nat.le_of_ble_eq_true rfl⟩ ⟨_, rfl, rfl⟩
  · rw [show decide (ffV b L < 0) = true from decide_eq_true h1] at hv
    rw [cond_true, decide_eq_true_eq] at hv
    subst hv
    subst h2
    refine L_istore 40 [(9, .int (nI (runK b L 150 0 12 8 0))), (7, .long (dgV V0 0 12 8 (nI L) (nI 0))), (6, .ref 109), (0, .long x), (2, .long y), (4, .long z)] dL_told_40 (by decide) rfl ?_
    refine L_iload 42 0 dL_told_42 rfl ?_
    refine L_if_ge 44 78 dL_told_44 (by decide) (fun _ => ?_) (fun c_0 => absurd (nI_pos' (by have := runK_le b L 150 0 12 8 0; omega)) c_0)
    refine L_aload 78 2 dL_told_78 rfl ?_
    refine L_cW 80 [.ref 109] (Nat.le_refl 1) (w_undoing _ _ (o_undo2 (T := pT V0 (fun _ => V0)) (cn := 0) hS DM00)) dL_told_80 lk_199 hc_undoing hs_undoing hp_undoing rfl ⟨rfl, rfl⟩ ⟨Nat.le_of_ble_eq_true rfl, Nat.le_of_ble_eq_true rfl⟩ ⟨Nat.le_of_ble_eq_true rfl, Nat.le_of_ble_eq_true rfl⟩ rfl (Nat.le_of_ble_eq_true rfl) ?_
    rintro _ V ⟨rfl, hS⟩
    change ST V V0 12 8 0 (fun j => pT V0 (fun x => V0) (j + 1)) 0 L b at hS
    refine L_if_ne 83 102 dL_told_83 (by decide) (fun c_0 => by first | exact absurd rfl c_0 | exact absurd c_0 (by decide) | exact absurd (by decide) c_0) (fun _ => ?_)
    refine L_aload 86 2 dL_told_86 rfl ?_
    refine L_cCl 88 (Nat.le_refl 1) (o_digest hS) dL_told_88 lk_127 wm_X6_digest hq_digest rfl ⟨rfl, rfl⟩ ⟨Nat.le_of_ble_eq_true rfl, Nat.le_of_ble_eq_true rfl⟩ ⟨Nat.le_of_ble_eq_true rfl, Nat.le_of_ble_eq_true rfl⟩ rfl (Nat.le_of_ble_eq_true rfl) ?_
    rintro _ V ⟨rfl, hS⟩
    refine L_lload 91 1 dL_told_91 rfl ?_
    refine L_lcmp 93 dL_told_93 ?_
    rw [lg_cmp_rf]
    refine L_if_ne 94 102 dL_told_94 (by decide) (fun c_0 => by first | exact absurd rfl c_0 | exact absurd c_0 (by decide) | exact absurd (by decide) c_0) (fun _ => ?_)
    refine L_iload 97 0 dL_told_97 rfl ?_
    refine L_goto 99 105 dL_told_99 (by decide) ?_
    exact L_iretA 105 dL_told_105 rfl rfl ⟨Nat.le_of_ble_eq_true rfl, Nat.le_of_ble_eq_true rfl⟩ ⟨_, rfl, rfl⟩
