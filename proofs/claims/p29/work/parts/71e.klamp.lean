abbrev mX6_init : MD := (RX6, yX6_init, cX6_init, 1, none, { frames := 5, cells := 109, slots := 6997, locals := 110 })
theorem wmi_6 : WMC mX6_init := ⟨kn_30, kn_53, (show RX6 ≠ _ by decide +kernel), (show RX6 ≠ _ by decide +kernel)⟩
def WX6 (G : G3) (ad : Nat → Nat) : va_W := [(ad 0, .inr (6, [.ref (ad 1), .ref (ad 16), .ref (ad 34), .ref (ad 43), .ref (ad 105)]))] ++ (WX4 G (fun k => ad (k + 1)) ++ (WX5 G (fun k => ad (k + 16)) ++ (WX1 G (fun k => ad (k + 34)) ++ (WX2 G (fun k => ad (k + 43)) ++ (WX0 G (fun k => ad (k + 105)))))))
def PX6 (G : G3) (q0 : Nat) (ws : va_W) : Prop := ∃ ad : Nat → Nat, ad 0 = q0 ∧ ws = WX6 G ad
theorem jn_hi {n k : Nat} {a b : Nat → Nat} : jn n a b (k + n) = b k := by
  unfold jn
  have h : Nat.blt (k + n) n = false := by
    cases e : Nat.blt (k + n) n with
    | false => rfl
    | true => exact absurd (Nat.le_of_ble_eq_true e) (by omega)
  rw [h]
  show b (k + n - n) = b k
  rw [Nat.add_sub_cancel]
theorem jn_lo {n k : Nat} {a b : Nat → Nat} (h : k < n) : jn n a b k = a k := by
  unfold jn
  have e : Nat.blt k n = true := Nat.ble_eq_true_of_le h
  rw [e]
  rfl
theorem WX4_c {G : G3} {a b : Nat → Nat} (h : ∀ k, k < 15 → a k = b k) : WX4 G a = WX4 G b := by
  simp only [WX4, h 0 (by decide), h 1 (by decide), h 2 (by decide), h 3 (by decide), h 4 (by decide), h 5 (by decide), h 6 (by decide), h 7 (by decide), h 8 (by decide), h 9 (by decide), h 10 (by decide), h 11 (by decide), h 12 (by decide), h 13 (by decide), h 14 (by decide)]
theorem WX1_c {G : G3} {a b : Nat → Nat} (h : ∀ k, k < 9 → a k = b k) : WX1 G a = WX1 G b := by
  simp only [WX1, h 0 (by decide), h 1 (by decide), h 2 (by decide), h 3 (by decide), h 4 (by decide), h 5 (by decide), h 6 (by decide), h 7 (by decide), h 8 (by decide)]
theorem WX5_c {G : G3} {a b : Nat → Nat} (h : ∀ k, k < 18 → a k = b k) : WX5 G a = WX5 G b := by
  have e1 : WX1 G (fun k => a (k + 1)) = WX1 G (fun k => b (k + 1)) := WX1_c (fun k hk => h _ (by omega))
  simp only [WX5, e1, h 1 (by decide), h 0 (by decide), h 10 (by decide), h 11 (by decide), h 12 (by decide), h 13 (by decide), h 14 (by decide), h 15 (by decide), h 16 (by decide), h 17 (by decide)]
theorem WX2_c {G : G3} {a b : Nat → Nat} (h : ∀ k, k < 62 → a k = b k) : WX2 G a = WX2 G b := by
  have e1 : WX4 G (fun k => a (k + 2)) = WX4 G (fun k => b (k + 2)) := WX4_c (fun k hk => h _ (by omega))
  have e2 : WX4 G (fun k => a (k + 17)) = WX4 G (fun k => b (k + 17)) := WX4_c (fun k hk => h _ (by omega))
  have e3 : WX4 G (fun k => a (k + 32)) = WX4 G (fun k => b (k + 32)) := WX4_c (fun k hk => h _ (by omega))
  have e4 : WX4 G (fun k => a (k + 47)) = WX4 G (fun k => b (k + 47)) := WX4_c (fun k hk => h _ (by omega))
  simp only [WX2, e1, e2, e3, e4, h 0 (by decide), h 1 (by decide), h 2 (by decide), h 17 (by decide), h 32 (by decide), h 47 (by decide)]
theorem WX0_c {G : G3} {a b : Nat → Nat} (h : ∀ k, k < 5 → a k = b k) : WX0 G a = WX0 G b := by
  simp only [WX0, h 0 (by decide), h 1 (by decide), h 2 (by decide), h 3 (by decide), h 4 (by decide)]
theorem WX6_cat {G : G3} {q0 : Nat} {a2 a4 a6 a8 a10 : Nat → Nat} : ((((([(q0, .inr (6, [.ref (a2 0), .ref (a4 0), .ref (a6 0), .ref (a8 0), .ref (a10 0)]))] ++ WX4 G a2) ++ WX5 G a4) ++ WX1 G a6) ++ WX2 G a8) ++ WX0 G a10 : va_W) = WX6 G (jn 1 (fun k => ([q0] : List Nat).getD k 0) (jn 15 a2 (jn 18 a4 (jn 9 a6 (jn 62 a8 a10))))) := by
  generalize hA : (jn 1 (fun k => ([q0] : List Nat).getD k 0) (jn 15 a2 (jn 18 a4 (jn 9 a6 (jn 62 a8 a10))))) = ad
  have h0 : ad 0 = q0 := by rw [← hA]; rfl
  have e1 : ∀ k, k < 15 → ad (k + 1) = a2 k := fun k h => by rw [← hA, jn_hi, jn_lo h]
  have e2 : ∀ k, k < 18 → ad (k + 16) = a4 k := fun k h => by rw [← hA, show k + 16 = k + 15 + 1 from rfl, jn_hi, jn_hi, jn_lo h]
  have e3 : ∀ k, k < 9 → ad (k + 34) = a6 k := fun k h => by rw [← hA, show k + 34 = k + 18 + 15 + 1 from rfl, jn_hi, jn_hi, jn_hi, jn_lo h]
  have e4 : ∀ k, k < 62 → ad (k + 43) = a8 k := fun k h => by rw [← hA, show k + 43 = k + 9 + 18 + 15 + 1 from rfl, jn_hi, jn_hi, jn_hi, jn_hi, jn_lo h]
  have e5 : ∀ k, ad (k + 105) = a10 k := fun k => by rw [← hA, show k + 105 = k + 62 + 9 + 18 + 15 + 1 from rfl, jn_hi, jn_hi, jn_hi, jn_hi, jn_hi]
  have w1 := WX4_c (G := G) e1
  have w2 := WX5_c (G := G) e2
  have w3 := WX1_c (G := G) e3
  have w4 := WX2_c (G := G) e4
  have w5 := WX0_c (G := G) (fun k (_ : k < 5) => e5 k)
  have f1 := e1 0 (by decide)
  have f2 := e2 0 (by decide)
  have f3 := e3 0 (by decide)
  have f4 := e4 0 (by decide)
  have f5 := e5 0
  simp only [Nat.zero_add] at f1 f2 f3 f4 f5
  simp only [WX6, w1, w2, w3, w4, w5, h0, f1, f2, f3, f4, f5, List.append_assoc]
theorem k_X6_init : EvK mX6_init (.inr (6, [.null, .null, .null, .null, .null])) [] 109 6997 PX6 := by
  refine EvK_of (show plainName RX6 = true by decide +kernel) rfl rfl rfl (fun _ => Nat.le_of_ble_eq_true rfl) fun G q0 A => ?_
  refine K_aload_n 0 0 dX6_init_0 rfl rfl ?_
  refine K_obj 1 dX6_init_1 kn_54 kn_55 kn_56 ⟨Nat.le_of_ble_eq_true rfl, Nat.le_of_ble_eq_true rfl⟩ ?_
  refine K_aload_n 4 0 dX6_init_4 rfl rfl ?_
  refine K_new 5 tyX4 [.int 0, .int 0, .int 0, .int 0, .int 0, .int 0, .int 0, .null, .null, .null, .null, .null, .null, .null] dX6_init_5 iw4 tyX4_ok kn_57 kn_58 kn_31 vc4 df_4 ⟨Nat.le_of_ble_eq_true rfl, Nat.le_of_ble_eq_true rfl⟩ fun o1 => ?_
  refine K_dup 8 dX6_init_8 ?_
  refine K_call (av := []) 9 k_X4_init dX6_init_9 (Or.inr ⟨_, List.mem_of_getElem? (i := 0) rfl⟩) (wmi_4) kn_60 rfl rfl hnd_V ⟨Nat.le_of_ble_eq_true rfl, Nat.le_of_ble_eq_true rfl⟩ ⟨rfl, rfl⟩ ⟨Nat.le_of_ble_eq_true rfl, Nat.le_of_ble_eq_true rfl⟩ rfl rfl (Nat.le_of_ble_eq_true rfl) ?_
  rintro _ ⟨ad2, rfl, rfl⟩
  refine K_putF (q0 := 0) (ws2 := ([(q0, .inr (6, [.ref (ad2 0), .null, .null, .null, .null]))] ++ WX4 G ad2)) 12 0 (tyX6 0) tyX6 dX6_init_12 iw6 tyX6_ok nmX6 kn_248 rfl vc6 (by decide) rfl rfl (tyX6_ok 0 (by decide)) rfl rfl (Nat.le_of_ble_eq_true rfl) rfl ?_
  refine K_aload_n 15 0 dX6_init_15 rfl rfl ?_
  refine K_new 16 tyX5 [.null, .null, .null, .null, .null, .int 0] dX6_init_16 iw5 tyX5_ok kn_133 kn_134 kn_33 vc5 df_5 ⟨Nat.le_of_ble_eq_true rfl, Nat.le_of_ble_eq_true rfl⟩ fun o3 => ?_
  refine K_dup 19 dX6_init_19 ?_
  refine K_call (av := []) 20 k_X5_init dX6_init_20 (Or.inr ⟨_, List.mem_of_getElem? (i := 1) rfl⟩) (wmi_5) kn_136 rfl rfl hnd_V ⟨Nat.le_of_ble_eq_true rfl, Nat.le_of_ble_eq_true rfl⟩ ⟨rfl, rfl⟩ ⟨Nat.le_of_ble_eq_true rfl, Nat.le_of_ble_eq_true rfl⟩ rfl rfl (Nat.le_of_ble_eq_true rfl) ?_
  rintro _ ⟨ad4, rfl, rfl⟩
  refine K_putF (q0 := 0) (ws2 := (([(q0, .inr (6, [.ref (ad2 0), .ref (ad4 0), .null, .null, .null]))] ++ WX4 G ad2) ++ WX5 G ad4)) 23 1 (tyX6 1) tyX6 dX6_init_23 iw6 tyX6_ok nmX6 kn_249 rfl vc6 (by decide) rfl rfl (tyX6_ok 1 (by decide)) rfl rfl (Nat.le_of_ble_eq_true rfl) rfl ?_
  refine K_aload_n 26 0 dX6_init_26 rfl rfl ?_
  refine K_new 27 tyX1 [.null, .null, .null, .null, .int 0, .int 0, .int 0, .int 0] dX6_init_27 iw1 tyX1_ok kn_197 kn_140 kn_34 vc1 df_1 ⟨Nat.le_of_ble_eq_true rfl, Nat.le_of_ble_eq_true rfl⟩ fun o5 => ?_
  refine K_dup 30 dX6_init_30 ?_
  refine K_call (av := []) 31 k_X1_init dX6_init_31 (Or.inr ⟨_, List.mem_of_getElem? (i := 3) rfl⟩) (wmi_1) kn_142 rfl rfl hnd_V ⟨Nat.le_of_ble_eq_true rfl, Nat.le_of_ble_eq_true rfl⟩ ⟨rfl, rfl⟩ ⟨Nat.le_of_ble_eq_true rfl, Nat.le_of_ble_eq_true rfl⟩ rfl rfl (Nat.le_of_ble_eq_true rfl) ?_
  rintro _ ⟨ad6, rfl, rfl⟩
  refine K_putF (q0 := 0) (ws2 := ((([(q0, .inr (6, [.ref (ad2 0), .ref (ad4 0), .ref (ad6 0), .null, .null]))] ++ WX4 G ad2) ++ WX5 G ad4) ++ WX1 G ad6)) 34 2 (tyX6 2) tyX6 dX6_init_34 iw6 tyX6_ok nmX6 kn_250 rfl vc6 (by decide) rfl rfl (tyX6_ok 2 (by decide)) rfl rfl (Nat.le_of_ble_eq_true rfl) rfl ?_
  refine K_aload_n 37 0 dX6_init_37 rfl rfl ?_
  refine K_new 38 tyX2 [.null, .int 0, .int 0] dX6_init_38 iw2 tyX2_ok kn_199 kn_200 kn_35 vc2 df_2 ⟨Nat.le_of_ble_eq_true rfl, Nat.le_of_ble_eq_true rfl⟩ fun o7 => ?_
  refine K_dup 41 dX6_init_41 ?_
  refine K_call (av := []) 42 k_X2_init dX6_init_42 (Or.inl kn_201) (wmi_2) kn_202 rfl rfl hnd_V ⟨Nat.le_of_ble_eq_true rfl, Nat.le_of_ble_eq_true rfl⟩ ⟨rfl, rfl⟩ ⟨Nat.le_of_ble_eq_true rfl, Nat.le_of_ble_eq_true rfl⟩ rfl rfl (Nat.le_of_ble_eq_true rfl) ?_
  rintro _ ⟨ad8, rfl, rfl⟩
  refine K_putF (q0 := 0) (ws2 := (((([(q0, .inr (6, [.ref (ad2 0), .ref (ad4 0), .ref (ad6 0), .ref (ad8 0), .null]))] ++ WX4 G ad2) ++ WX5 G ad4) ++ WX1 G ad6) ++ WX2 G ad8)) 45 3 (tyX6 3) tyX6 dX6_init_45 iw6 tyX6_ok nmX6 kn_251 rfl vc6 (by decide) rfl rfl (tyX6_ok 3 (by decide)) rfl rfl (Nat.le_of_ble_eq_true rfl) rfl ?_
  refine K_aload_n 48 0 dX6_init_48 rfl rfl ?_
  refine K_new 49 tyX0 [.null, .null, .int 0, .int 0, .int 0, .int 0] dX6_init_49 iw0 tyX0_ok kn_219 kn_220 kn_36 vc0 df_0 ⟨Nat.le_of_ble_eq_true rfl, Nat.le_of_ble_eq_true rfl⟩ fun o9 => ?_
  refine K_dup 52 dX6_init_52 ?_
  refine K_call (av := []) 53 k_X0_init dX6_init_53 (Or.inr ⟨_, List.mem_of_getElem? (i := 5) rfl⟩) (wmi_0) kn_222 rfl rfl hnd_V ⟨Nat.le_of_ble_eq_true rfl, Nat.le_of_ble_eq_true rfl⟩ ⟨rfl, rfl⟩ ⟨Nat.le_of_ble_eq_true rfl, Nat.le_of_ble_eq_true rfl⟩ rfl rfl (Nat.le_of_ble_eq_true rfl) ?_
  rintro _ ⟨ad10, rfl, rfl⟩
  refine K_putF (q0 := 0) (ws2 := ((((([(q0, .inr (6, [.ref (ad2 0), .ref (ad4 0), .ref (ad6 0), .ref (ad8 0), .ref (ad10 0)]))] ++ WX4 G ad2) ++ WX5 G ad4) ++ WX1 G ad6) ++ WX2 G ad8) ++ WX0 G ad10)) 56 4 (tyX6 4) tyX6 dX6_init_56 iw6 tyX6_ok nmX6 kn_252 rfl vc6 (by decide) rfl rfl (tyX6_ok 4 (by decide)) rfl rfl (Nat.le_of_ble_eq_true rfl) rfl ?_
  exact K_vret 59 dX6_init_59 (Nat.le_of_ble_eq_true rfl) (Nat.le_of_ble_eq_true rfl) ⟨(jn 1 (fun k => ([q0] : List Nat).getD k 0) (jn 15 ad2 (jn 18 ad4 (jn 9 ad6 (jn 62 ad8 ad10))))), rfl, WX6_cat⟩
