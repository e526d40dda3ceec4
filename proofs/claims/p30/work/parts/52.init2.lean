/-! constructors of objects -/
def v1 : Nat → Nat → Int32 := fun r => if r = 1 then fz_first else fun _ => 0
set_option maxHeartbeats 4000000 in
set_option maxRecDepth 100000 in
/-- a new X1 -/
theorem c_X1_init (l : Launch) (D : va_G) (cy : Nat → ClassId) (q sz : Nat) : fz_NW l yX1_init wsX1_init 2 23 402 40 D cy q 0 [.int 0, .null, .null, .null, .null, .null] sz fz_En (fun (a : Nat → Nat) => CW cy a v1) (fun a => a 0 = q) := by
  refine Met.ofW (cc := cX1_init) (maxL := 1) (ret := none) (by decide) rfl ?_
  intro p e s m args below meth c s₁ B hml hv
  obtain ⟨rfl, hsz, hP, hK, hD0, hE⟩ := hv
  have hx := B.exec
  have hb := B.bytes
  have hr := B.returns
  have hts := atoms_spec (ws := wsX1_init) B.pre
  have hown : s.vm.findClass RX1 = some m.cls := findClass_of_methodNamed B.named
  have hlocks := B.notSynchronized
  have hin : meth.name = "<init>" := (name_of_methodNamed B.named B.method).1
  subst hsz
  have hD := hD0.self (sz := s.heap.size)
  obtain ⟨A, hAe⟩ : ∃ A : Nat → Prop, A = va_A [(q, .inr (0, [.int 0, .null, .null, .null, .null, .null]))] s.heap.size := ⟨_, rfl⟩
  rw [← hAe] at hD
  have hE : fz_En A s := by rw [hAe]; exact hE
  have hA : ∀ x : Nat, s.heap.size ≤ x → A x := fun x h => by rw [hAe]; exact Or.inr h
  have hS : va_S A s.heap s.heap [] := va_S.rf
  have hl := lv_entry ([.ref q]) (n := 1) (Nat.le_of_ble_eq_true rfl)
  rw [lg_entry_eq]
  generalize (lg_sl ([.ref q]) ++ List.replicate (1 - (lg_sl ([.ref q])).length) Slot.unset).toArray = ls at hl ⊢
  have hl : lv_has ls 1 [(0, .ref q)] := hl
  have inX1 : ∀ w ∈ u_ws RX1 TX1 6, w ∈ wsX1_init := by decide +kernel
  refine lv_aload_n hx hb dX1_init_0 rfl (lv_at hl 0 rfl) ?_
  refine W.objInit hx hb hown (hts (.methodLink RX1 3 objectInit) (by decide +kernel)) (hts (.instanceMethod objectInit) (by decide +kernel)) (hts (.code objectInit ⟨#[0xb1]⟩ 1 none) (by decide +kernel)) rfl (by rw [hml]; exact hl.1) rfl dX1_init_1 (Nat.le_of_ble_eq_true rfl) (Nat.le_of_ble_eq_true rfl) ?_
  refine W.eq (g2 := F0 m 4 ls []) rfl ?_
  obtain ⟨t, cell, hZ, hc1, hc2, hc3, hc4, hc5, hc6⟩ := hE.2.2.1
  have hc7 : cell.cls = cy 0 := Option.some.inj (hc2.symm.trans (hK.2 0 _ rfl).2)
  refine lv_aload_n hx hb dX1_init_4 rfl (lv_at hl 0 rfl) ?_
  refine va_getsN (v := .ref t) hx hb hZ hS hown (va_Nw.use rfl (fz_Nw_at hE.1 11 rfl)) (fun _ h9 => h9) dX1_init_5 ?_
  refine fz_cloneT (f := fz_first) (N := 4) hx hb (hml.trans hl.1.symm) hown (hts (.methodLink RX1 13 ⟨"[I", "clone", "()Ljava/lang/Object;"⟩) (by decide +kernel)) (hts (.sameMethod "[I" "java/lang/Object" "clone" "()Ljava/lang/Object;") (by decide +kernel)) (hts (.native ⟨"java/lang/Object", "clone", "()Ljava/lang/Object;"⟩) (by decide +kernel)) (hts (.instanceMethod ⟨"java/lang/Object", "clone", "()Ljava/lang/Object;"⟩) (by decide +kernel)) (hts (.selects "[I" ⟨"[I", "clone", "()Ljava/lang/Object;"⟩ ⟨"java/lang/Object", "clone", "()Ljava/lang/Object;"⟩) (by decide +kernel)) hE.2.1 hK hP hD hS hA hc1 hc2 hc7 hc3 hc4 hc5 (Nat.le_of_ble_eq_true rfl) (Nat.le_of_ble_eq_true rfl) (Nat.le_of_ble_eq_true rfl) (Nat.le_of_ble_eq_true rfl) dX1_init_8 (fun q1 H hP hD hS => ?_)
  have hP : va_P D vwCl ([(q, .inr (0, [.int 0, .null, .null, .null, .null, .null])), (q1, .inl (cy 0, 4, .inl fz_first))]) H := hP
  have hD : va_D A ([(q, .inr (0, [.int 0, .null, .null, .null, .null, .null])), (q1, .inl (cy 0, 4, .inl fz_first))]) := hD
  refine va_castA hx hb hown (hts (.classLink RX1 14 "[I") (by decide +kernel)) hP 1 rfl (by rw [← hc7]; exact hc2) dX1_init_11 ?_
  refine va_putF (D := D) (ci := 0) (v := .ref q1) (ty := tyX1 1) (C := RX1) (T := TX1) (N := 6) hx hb hts inX1 tyX1 tyX1_ok nmX1 hown hK hP hD hS 0 rfl rfl 1 (by decide) (hts (.fieldLink RX1 18 "FreezeCredits$Calendar" "settings" "[I") (by decide +kernel)) (fun _ h9 => h9) rfl hin rfl (by decide +kernel) rfl rfl (Nat.le_of_ble_eq_true rfl) dX1_init_14 (fun H locs hP hD hS => ?_)
  have hP : va_P D vwCl ([(q, .inr (0, [.int 0, .ref q1, .null, .null, .null, .null])), (q1, .inl (cy 0, 4, .inl fz_first))]) H := hP
  have hD : va_D A ([(q, .inr (0, [.int 0, .ref q1, .null, .null, .null, .null])), (q1, .inl (cy 0, 4, .inl fz_first))]) := hD
  refine lv_aload_n hx hb dX1_init_17 rfl (lv_at hl 0 rfl) ?_
  refine lv_bipush (v := 40) hx hb dX1_init_18 (by decide) ?_
  refine va_newa (atype := .boolean) (N' := 40) (a0 := (40, .inl (fun _ => 0))) hx hb (hts (.arrayClass .boolean) (by decide +kernel)) rfl hK hP hD hS hA (fun _ => rfl) (by decide) rfl (Nat.le_of_ble_eq_true rfl) (Nat.le_of_ble_eq_true rfl) (Nat.le_of_ble_eq_true rfl) dX1_init_20 (fun q2 cA H hK2 hP hD hS => ?_)
  obtain rfl := fz_cyZ hK2
  have hP : va_P D vwCl ([(q, .inr (0, [.int 0, .ref q1, .null, .null, .null, .null])), (q1, .inl (cy 0, 4, .inl fz_first)), (q2, .inl (cy 1, 40, .inl (fun _ => 0)))]) H := hP
  have hD : va_D A ([(q, .inr (0, [.int 0, .ref q1, .null, .null, .null, .null])), (q1, .inl (cy 0, 4, .inl fz_first)), (q2, .inl (cy 1, 40, .inl (fun _ => 0)))]) := hD
  refine va_putF (D := D) (ci := 0) (v := .ref q2) (ty := tyX1 2) (C := RX1) (T := TX1) (N := 6) hx hb hts inX1 tyX1 tyX1_ok nmX1 hown hK hP hD hS 0 rfl rfl 2 (by decide) (hts (.fieldLink RX1 23 "FreezeCredits$Calendar" "frozenWeeks" "[Z") (by decide +kernel)) (fun _ h9 => h9) rfl hin rfl (by decide +kernel) rfl rfl (Nat.le_of_ble_eq_true rfl) dX1_init_22 (fun H locs hP hD hS => ?_)
  have hP : va_P D vwCl ([(q, .inr (0, [.int 0, .ref q1, .ref q2, .null, .null, .null])), (q1, .inl (cy 0, 4, .inl fz_first)), (q2, .inl (cy 1, 40, .inl (fun _ => 0)))]) H := hP
  have hD : va_D A ([(q, .inr (0, [.int 0, .ref q1, .ref q2, .null, .null, .null])), (q1, .inl (cy 0, 4, .inl fz_first)), (q2, .inl (cy 1, 40, .inl (fun _ => 0)))]) := hD
  refine lv_aload_n hx hb dX1_init_25 rfl (lv_at hl 0 rfl) ?_
  refine va_new (ci := 5) (fs := [.int 0, .null, .null, .null, .null]) (C := RX6) (T := TX6) (N := 5) hx hb hts (by decide +kernel) tyX6 tyX6_ok hown (hts (.classLink RX1 27 RX6) (by decide +kernel)) (hts (.instantiable RX6 5) (by decide +kernel)) (hts (.initialized RX6) (by decide +kernel)) hK hP hD hS hA rfl (fun j hj => by rcases (show j = 0 ∨ j = 1 ∨ j = 2 ∨ j = 3 ∨ j = 4 from by omega) with rfl | rfl | rfl | rfl | rfl <;> rfl) (Nat.le_of_ble_eq_true rfl) (Nat.le_of_ble_eq_true rfl) dX1_init_26 (fun p3 H hP hD hS => ?_)
  refine lv_dup hx hb dX1_init_29 rfl ?_
  refine fz_retN (pre := ([(q, .inr (0, [.int 0, .ref q1, .ref q2, .null, .null, .null])), (q1, .inl (cy 0, 4, .inl fz_first)), (q2, .inl (cy 1, 40, .inl (fun _ => 0)))])) (va_runIN (As := []) (rest := [.ref p3, .ref q]) ⟨hx, hb, hml, hown, hts⟩ (c_X6_init l D cy p3 H.size) ⟨va_cnB 0 hts gX1_init_X6_init_n29 rfl rfl rfl (fz_Nw_at hE.1 3 rfl) (hts (.initialized RX6) (by decide +kernel)) (by decide +kernel) ⟨Nat.le_of_ble_eq_true rfl, Nat.le_of_ble_eq_true rfl⟩, rfl, hts (.instanceMethod yX6_init) (by decide +kernel)⟩ (fz_preN hK hP hD fz_T_bl (fun _ _ _ => trivial)) rfl rfl hl.1 rfl (lv_room (Nat.le_of_ble_eq_true rfl)) dX1_init_30 ⟨Nat.le_of_ble_eq_true rfl, Nat.le_of_ble_eq_true rfl⟩) hP hD hS hA (fun a3 H locs ha hP8 hD8 hS8 => ?_)
  obtain rfl := ha
  have hP : va_P D vwCl (([(q, .inr (0, [.int 0, .ref q1, .ref q2, .null, .null, .null])), (q1, .inl (cy 0, 4, .inl fz_first)), (q2, .inl (cy 1, 40, .inl (fun _ => 0)))]) ++ (TW cy a3 zV)) H := hP8
  have hD : va_D A (([(q, .inr (0, [.int 0, .ref q1, .ref q2, .null, .null, .null])), (q1, .inl (cy 0, 4, .inl fz_first)), (q2, .inl (cy 1, 40, .inl (fun _ => 0)))]) ++ (TW cy a3 zV)) := hD8
  have hS := hS8
  refine va_putF (D := D) (ci := 0) (v := .ref (a3 3)) (ty := tyX1 3) (C := RX1) (T := TX1) (N := 6) hx hb hts inX1 tyX1 tyX1_ok nmX1 hown hK hP hD hS 0 rfl rfl 3 (by decide) (hts (.fieldLink RX1 30 "FreezeCredits$Calendar" "teams" "LFreezeCredits$Teams;") (by decide +kernel)) (fun _ h9 => h9) rfl hin rfl (by decide +kernel) rfl rfl (Nat.le_of_ble_eq_true rfl) dX1_init_33 (fun H locs hP hD hS => ?_)
  have hP : va_P D vwCl (([(q, .inr (0, [.int 0, .ref q1, .ref q2, .ref (a3 3), .null, .null])), (q1, .inl (cy 0, 4, .inl fz_first)), (q2, .inl (cy 1, 40, .inl (fun _ => 0)))]) ++ (TW cy a3 zV)) H := hP
  have hD : va_D A (([(q, .inr (0, [.int 0, .ref q1, .ref q2, .ref (a3 3), .null, .null])), (q1, .inl (cy 0, 4, .inl fz_first)), (q2, .inl (cy 1, 40, .inl (fun _ => 0)))]) ++ (TW cy a3 zV)) := hD
  refine lv_aload_n hx hb dX1_init_36 rfl (lv_at hl 0 rfl) ?_
  refine va_new (ci := 1) (fs := [.int 0, .null, .null, .null, .null, .null, .null, .null, .int 0, .null]) (C := RX2) (T := TX2) (N := 10) hx hb hts (by decide +kernel) tyX2 tyX2_ok hown (hts (.classLink RX1 34 RX2) (by decide +kernel)) (hts (.instantiable RX2 10) (by decide +kernel)) (hts (.initialized RX2) (by decide +kernel)) hK hP hD hS hA rfl (fun j hj => by rcases (show j = 0 ∨ j = 1 ∨ j = 2 ∨ j = 3 ∨ j = 4 ∨ j = 5 ∨ j = 6 ∨ j = 7 ∨ j = 8 ∨ j = 9 from by omega) with rfl | rfl | rfl | rfl | rfl | rfl | rfl | rfl | rfl | rfl <;> rfl) (Nat.le_of_ble_eq_true rfl) (Nat.le_of_ble_eq_true rfl) dX1_init_37 (fun p8 H hP hD hS => ?_)
  refine lv_dup hx hb dX1_init_40 rfl ?_
  refine fz_retN (pre := (([(q, .inr (0, [.int 0, .ref q1, .ref q2, .ref (a3 3), .null, .null])), (q1, .inl (cy 0, 4, .inl fz_first)), (q2, .inl (cy 1, 40, .inl (fun _ => 0)))]) ++ (TW cy a3 zV))) (va_runIN (As := []) (rest := [.ref p8, .ref q]) ⟨hx, hb, hml, hown, hts⟩ (c_X2_init l D cy p8 H.size) ⟨va_cnB 0 hts gX1_init_X2_init_n36 rfl rfl rfl (fz_Nw_at hE.1 4 rfl) (hts (.initialized RX2) (by decide +kernel)) (by decide +kernel) ⟨Nat.le_of_ble_eq_true rfl, Nat.le_of_ble_eq_true rfl⟩, rfl, hts (.instanceMethod yX2_init) (by decide +kernel)⟩ (fz_preN hK hP hD fz_T_bl (fun _ _ _ => trivial)) rfl rfl hl.1 rfl (lv_room (Nat.le_of_ble_eq_true rfl)) dX1_init_41 ⟨Nat.le_of_ble_eq_true rfl, Nat.le_of_ble_eq_true rfl⟩) hP hD hS hA (fun a8 H locs ha hP8 hD8 hS8 => ?_)
  obtain rfl := ha
  have hP : va_P D vwCl ((([(q, .inr (0, [.int 0, .ref q1, .ref q2, .ref (a3 3), .null, .null])), (q1, .inl (cy 0, 4, .inl fz_first)), (q2, .inl (cy 1, 40, .inl (fun _ => 0)))]) ++ (TW cy a3 zV)) ++ (GW cy a8 zV)) H := hP8
  have hD : va_D A ((([(q, .inr (0, [.int 0, .ref q1, .ref q2, .ref (a3 3), .null, .null])), (q1, .inl (cy 0, 4, .inl fz_first)), (q2, .inl (cy 1, 40, .inl (fun _ => 0)))]) ++ (TW cy a3 zV)) ++ (GW cy a8 zV)) := hD8
  have hS := hS8
  refine va_putF (D := D) (ci := 0) (v := .ref (a8 8)) (ty := tyX1 4) (C := RX1) (T := TX1) (N := 6) hx hb hts inX1 tyX1 tyX1_ok nmX1 hown hK hP hD hS 0 rfl rfl 4 (by decide) (hts (.fieldLink RX1 37 "FreezeCredits$Calendar" "changes" "LFreezeCredits$Changes;") (by decide +kernel)) (fun _ h9 => h9) rfl hin rfl (by decide +kernel) rfl rfl (Nat.le_of_ble_eq_true rfl) dX1_init_44 (fun H locs hP hD hS => ?_)
  have hP : va_P D vwCl ((([(q, .inr (0, [.int 0, .ref q1, .ref q2, .ref (a3 3), .ref (a8 8), .null])), (q1, .inl (cy 0, 4, .inl fz_first)), (q2, .inl (cy 1, 40, .inl (fun _ => 0)))]) ++ (TW cy a3 zV)) ++ (GW cy a8 zV)) H := hP
  have hD : va_D A ((([(q, .inr (0, [.int 0, .ref q1, .ref q2, .ref (a3 3), .ref (a8 8), .null])), (q1, .inl (cy 0, 4, .inl fz_first)), (q2, .inl (cy 1, 40, .inl (fun _ => 0)))]) ++ (TW cy a3 zV)) ++ (GW cy a8 zV)) := hD
  refine lv_aload_n hx hb dX1_init_47 rfl (lv_at hl 0 rfl) ?_
  refine va_new (ci := 4) (fs := [.int 0, .null, .null, .null, .null, .null, .null]) (C := RX5) (T := TX5) (N := 7) hx hb hts (by decide +kernel) tyX5 tyX5_ok hown (hts (.classLink RX1 41 RX5) (by decide +kernel)) (hts (.instantiable RX5 7) (by decide +kernel)) (hts (.initialized RX5) (by decide +kernel)) hK hP hD hS hA rfl (fun j hj => by rcases (show j = 0 ∨ j = 1 ∨ j = 2 ∨ j = 3 ∨ j = 4 ∨ j = 5 ∨ j = 6 from by omega) with rfl | rfl | rfl | rfl | rfl | rfl | rfl <;> rfl) (Nat.le_of_ble_eq_true rfl) (Nat.le_of_ble_eq_true rfl) dX1_init_48 (fun p17 H hP hD hS => ?_)
  refine lv_dup hx hb dX1_init_51 rfl ?_
  refine fz_retN (pre := ((([(q, .inr (0, [.int 0, .ref q1, .ref q2, .ref (a3 3), .ref (a8 8), .null])), (q1, .inl (cy 0, 4, .inl fz_first)), (q2, .inl (cy 1, 40, .inl (fun _ => 0)))]) ++ (TW cy a3 zV)) ++ (GW cy a8 zV))) (va_runIN (As := []) (rest := [.ref p17, .ref q]) ⟨hx, hb, hml, hown, hts⟩ (c_X5_init l D cy p17 H.size) ⟨va_cnB 0 hts gX1_init_X5_init_n43 rfl rfl rfl (fz_Nw_at hE.1 5 rfl) (hts (.initialized RX5) (by decide +kernel)) (by decide +kernel) ⟨Nat.le_of_ble_eq_true rfl, Nat.le_of_ble_eq_true rfl⟩, rfl, hts (.instanceMethod yX5_init) (by decide +kernel)⟩ (fz_preN hK hP hD fz_T_bl (fun _ _ _ => trivial)) rfl rfl hl.1 rfl (lv_room (Nat.le_of_ble_eq_true rfl)) dX1_init_52 ⟨Nat.le_of_ble_eq_true rfl, Nat.le_of_ble_eq_true rfl⟩) hP hD hS hA (fun a17 H locs ha hP8 hD8 hS8 => ?_)
  obtain rfl := ha
  have hP : va_P D vwCl (((([(q, .inr (0, [.int 0, .ref q1, .ref q2, .ref (a3 3), .ref (a8 8), .null])), (q1, .inl (cy 0, 4, .inl fz_first)), (q2, .inl (cy 1, 40, .inl (fun _ => 0)))]) ++ (TW cy a3 zV)) ++ (GW cy a8 zV)) ++ (LW cy a17 zV)) H := hP8
  have hD : va_D A (((([(q, .inr (0, [.int 0, .ref q1, .ref q2, .ref (a3 3), .ref (a8 8), .null])), (q1, .inl (cy 0, 4, .inl fz_first)), (q2, .inl (cy 1, 40, .inl (fun _ => 0)))]) ++ (TW cy a3 zV)) ++ (GW cy a8 zV)) ++ (LW cy a17 zV)) := hD8
  have hS := hS8
  refine va_putF (D := D) (ci := 0) (v := .ref (a17 17)) (ty := tyX1 5) (C := RX1) (T := TX1) (N := 6) hx hb hts inX1 tyX1 tyX1_ok nmX1 hown hK hP hD hS 0 rfl rfl 5 (by decide) (hts (.fieldLink RX1 44 "FreezeCredits$Calendar" "loans" "LFreezeCredits$Loans;") (by decide +kernel)) (fun _ h9 => h9) rfl hin rfl (by decide +kernel) rfl rfl (Nat.le_of_ble_eq_true rfl) dX1_init_55 (fun H locs hP hD hS => ?_)
  have hP : va_P D vwCl (((([(q, .inr (0, [.int 0, .ref q1, .ref q2, .ref (a3 3), .ref (a8 8), .ref (a17 17)])), (q1, .inl (cy 0, 4, .inl fz_first)), (q2, .inl (cy 1, 40, .inl (fun _ => 0)))]) ++ (TW cy a3 zV)) ++ (GW cy a8 zV)) ++ (LW cy a17 zV)) H := hP
  have hD : va_D A (((([(q, .inr (0, [.int 0, .ref q1, .ref q2, .ref (a3 3), .ref (a8 8), .ref (a17 17)])), (q1, .inl (cy 0, 4, .inl fz_first)), (q2, .inl (cy 1, 40, .inl (fun _ => 0)))]) ++ (TW cy a3 zV)) ++ (GW cy a8 zV)) ++ (LW cy a17 zV)) := hD
  subst hAe
  exact W.vret hx hb hr (fun t9 ht9 hW9 => ⟨⟨(fun i => if i < 3 then [q, q1, q2].getD i 0 else if i < 8 then a3 i else if i < 17 then a8 i else a17 i), rfl, rfl, fz_to ht9 hP, hD⟩, hS.F ht9⟩) hS.2.2 dX1_init_58
set_option maxHeartbeats 4000000 in
set_option maxRecDepth 100000 in
/-- a new X4 -/
theorem c_X4_init (l : Launch) (D : va_G) (cy : Nat → ClassId) (q sz : Nat) : fz_NW l yX4_init wsX4_init 3 121 2045 60 D cy q 3 [.int 0, .null] sz fz_En (fun (a : (Nat → Nat) × (Nat → Nat → Nat)) => HW cy a.1 (fun k => some (a.2 k 0)) 0 ++ (CW cy (a.2 0) v1 ++ (CW cy (a.2 1) v1 ++ (CW cy (a.2 2) v1 ++ (CW cy (a.2 3) v1 ++ CW cy (a.2 4) v1))))) (fun a => a.1 0 = q) := by
  refine Met.ofW (cc := cX4_init) (maxL := 2) (ret := none) (by decide) rfl ?_
  intro p e s m args below meth c s₁ B hml hv
  obtain ⟨rfl, hsz, hP, hK, hD0, hE⟩ := hv
  have hx := B.exec
  have hb := B.bytes
  have hr := B.returns
  have hts := atoms_spec (ws := wsX4_init) B.pre
  have hown : s.vm.findClass RX4 = some m.cls := findClass_of_methodNamed B.named
  have hlocks := B.notSynchronized
  have hin : meth.name = "<init>" := (name_of_methodNamed B.named B.method).1
  subst hsz
  have hD := hD0.self (sz := s.heap.size)
  obtain ⟨A, hAe⟩ : ∃ A : Nat → Prop, A = va_A [(q, .inr (3, [.int 0, .null]))] s.heap.size := ⟨_, rfl⟩
  rw [← hAe] at hD
  have hE : fz_En A s := by rw [hAe]; exact hE
  have hA : ∀ x : Nat, s.heap.size ≤ x → A x := fun x h => by rw [hAe]; exact Or.inr h
  have hS : va_S A s.heap s.heap [] := va_S.rf
  have hl := lv_entry ([.ref q]) (n := 2) (Nat.le_of_ble_eq_true rfl)
  rw [lg_entry_eq]
  generalize (lg_sl ([.ref q]) ++ List.replicate (2 - (lg_sl ([.ref q])).length) Slot.unset).toArray = ls at hl ⊢
  have hl : lv_has ls 2 [(0, .ref q)] := hl
  have inX4 : ∀ w ∈ u_ws RX4 TX4 2, w ∈ wsX4_init := by decide +kernel
  refine lv_aload_n hx hb dX4_init_0 rfl (lv_at hl 0 rfl) ?_
  refine W.objInit hx hb hown (hts (.methodLink RX4 3 objectInit) (by decide +kernel)) (hts (.instanceMethod objectInit) (by decide +kernel)) (hts (.code objectInit ⟨#[0xb1]⟩ 1 none) (by decide +kernel)) rfl (by rw [hml]; exact hl.1) rfl dX4_init_1 (Nat.le_of_ble_eq_true rfl) (Nat.le_of_ble_eq_true rfl) ?_
  refine W.eq (g2 := F0 m 4 ls []) rfl ?_
  refine lv_aload_n hx hb dX4_init_4 rfl (lv_at hl 0 rfl) ?_
  refine lv_iconst (v := 5) hx hb dX4_init_5 (by decide) ?_
  refine va_newq (C := "FreezeCredits$Calendar") (N' := 5) hx hb hown (hts (.classLink RX4 9 "FreezeCredits$Calendar") (by decide +kernel)) hE.2.2.2 hK hP hD hS hA (by decide) rfl (Nat.le_of_ble_eq_true rfl) (Nat.le_of_ble_eq_true rfl) (Nat.le_of_ble_eq_true rfl) dX4_init_6 (fun q1 cA H hK2 hP hD hS => ?_)
  obtain rfl := fz_cyQ hK2
  have hP : va_P D vwCl ([(q, .inr (3, [.int 0, .null])), (q1, .inl (cy 3, 5, .inr (.inr (.inr (.inr (fun _ => none))))))]) H := hP
  have hD : va_D A ([(q, .inr (3, [.int 0, .null])), (q1, .inl (cy 3, 5, .inr (.inr (.inr (.inr (fun _ => none))))))]) := hD
  refine va_putF (D := D) (ci := 3) (v := .ref q1) (ty := tyX4 1) (C := RX4) (T := TX4) (N := 2) hx hb hts inX4 tyX4 tyX4_ok nmX4 hown hK hP hD hS 0 rfl rfl 1 (by decide) (hts (.fieldLink RX4 11 "FreezeCredits$History" "slots" "[LFreezeCredits$Calendar;") (by decide +kernel)) (fun _ h9 => h9) rfl hin rfl (by decide +kernel) rfl rfl (Nat.le_of_ble_eq_true rfl) dX4_init_9 (fun H locs hP hD hS => ?_)
  have hP : va_P D vwCl ([(q, .inr (3, [.int 0, .ref q1])), (q1, .inl (cy 3, 5, .inr (.inr (.inr (.inr (fun _ => none))))))]) H := hP
  have hD : va_D A ([(q, .inr (3, [.int 0, .ref q1])), (q1, .inl (cy 3, 5, .inr (.inr (.inr (.inr (fun _ => none))))))]) := hD
  refine lv_iconst (v := 0) hx hb dX4_init_12 (by decide) ?_
  refine lv_istore_n (lv' := [(1, .int 0), (0, .ref q)]) hx hb dX4_init_13 rfl hl (by decide) rfl (fun ls hl => ?_)
  refine lv_iload_n hx hb dX4_init_14 rfl (lv_at hl 0 rfl) ?_
  refine lv_iconst (v := 4) hx hb dX4_init_15 (by decide) ?_
  refine lv_icmp_gt (tgt := 38) hx hb dX4_init_16 (by decide) (fun c_9 => absurd c_9 (by decide)) (fun _ => ?_)
  refine lv_aload_n hx hb dX4_init_19 rfl (lv_at hl 1 rfl) ?_
  refine va_get (D := D) (ci := 3) (v := .ref q1) (C := RX4) (T := TX4) (N := 2) hx hb hts inX4 hown hK hP 0 rfl rfl 1 (by decide) (hts (.fieldLink RX4 11 "FreezeCredits$History" "slots" "[LFreezeCredits$Calendar;") (by decide +kernel)) (fun _ h9 => h9) rfl dX4_init_20 ?_
  refine lv_iload_n hx hb dX4_init_23 rfl (lv_at hl 0 rfl) ?_
  refine va_new (ci := 0) (fs := [.int 0, .null, .null, .null, .null, .null]) (C := RX1) (T := TX1) (N := 6) hx hb hts (by decide +kernel) tyX1 tyX1_ok hown (hts (.classLink RX4 9 RX1) (by decide +kernel)) (hts (.instantiable RX1 6) (by decide +kernel)) (hts (.initialized RX1) (by decide +kernel)) hK hP hD hS hA rfl (fun j hj => by rcases (show j = 0 ∨ j = 1 ∨ j = 2 ∨ j = 3 ∨ j = 4 ∨ j = 5 from by omega) with rfl | rfl | rfl | rfl | rfl | rfl <;> rfl) (Nat.le_of_ble_eq_true rfl) (Nat.le_of_ble_eq_true rfl) dX4_init_24 (fun p0 H hP hD hS => ?_)
  refine lv_dup hx hb dX4_init_27 rfl ?_
  refine fz_retN (pre := ([(q, .inr (3, [.int 0, .ref q1])), (q1, .inl (cy 3, 5, .inr (.inr (.inr (.inr (fun _ => none))))))])) (va_runIN (As := []) (rest := [.ref p0, .int 0, .ref q1]) ⟨hx, hb, hml, hown, hts⟩ (c_X1_init l D cy p0 H.size) ⟨va_cnB 0 hts gX4_init_X1_init_n17 rfl rfl rfl (fz_Nw_at hE.1 8 rfl) (hts (.initialized RX1) (by decide +kernel)) (by decide +kernel) ⟨Nat.le_of_ble_eq_true rfl, Nat.le_of_ble_eq_true rfl⟩, rfl, hts (.instanceMethod yX1_init) (by decide +kernel)⟩ (fz_preN hK hP hD fz_En_bl (fun U hU hW => hE.up hU hS hW (fz_lastA hD hS hA))) rfl rfl hl.1 rfl (lv_room (Nat.le_of_ble_eq_true rfl)) dX4_init_28 ⟨Nat.le_of_ble_eq_true rfl, Nat.le_of_ble_eq_true rfl⟩) hP hD hS hA (fun s0 H locs ha hP8 hD8 hS8 => ?_)
  obtain rfl := ha
  have hP : va_P D vwCl (([(q, .inr (3, [.int 0, .ref q1])), (q1, .inl (cy 3, 5, .inr (.inr (.inr (.inr (fun _ => none))))))]) ++ (CW cy s0 v1)) H := hP8
  have hD : va_D A (([(q, .inr (3, [.int 0, .ref q1])), (q1, .inl (cy 3, 5, .inr (.inr (.inr (.inr (fun _ => none))))))]) ++ (CW cy s0 v1)) := hD8
  have hS := hS8
  refine fz_aast hx hb hK hP hD hS 1 3 0 rfl rfl (List.mem_append_right _ List.mem_cons_self) rfl 0 rfl (by decide) (by decide) dX4_init_31 (fun H locs hP hD hS => ?_)
  have hP : va_P D vwCl (([(q, .inr (3, [.int 0, .ref q1])), (q1, .inl (cy 3, 5, .inr (.inr (.inr (.inr (va_up (fun _ => none) 0 (some (s0 0))))))))]) ++ (CW cy s0 v1)) H := hP
  have hD : va_D A (([(q, .inr (3, [.int 0, .ref q1])), (q1, .inl (cy 3, 5, .inr (.inr (.inr (.inr (va_up (fun _ => none) 0 (some (s0 0))))))))]) ++ (CW cy s0 v1)) := hD
  refine lv_iinc (v := 1) (lv' := [(1, .int 1), (0, .ref q)]) hx hb dX4_init_32 hl (k := 0) rfl (by decide) (by decide) rfl (fun ls hl => ?_)
  refine lv_goto (tgt := 14) hx hb dX4_init_35 (by decide) ?_
  refine lv_iload_n hx hb dX4_init_14 rfl (lv_at hl 0 rfl) ?_
  refine lv_iconst (v := 4) hx hb dX4_init_15 (by decide) ?_
  refine lv_icmp_gt (tgt := 38) hx hb dX4_init_16 (by decide) (fun c_9 => absurd c_9 (by decide)) (fun _ => ?_)
  refine lv_aload_n hx hb dX4_init_19 rfl (lv_at hl 1 rfl) ?_
  refine va_get (D := D) (ci := 3) (v := .ref q1) (C := RX4) (T := TX4) (N := 2) hx hb hts inX4 hown hK hP 0 rfl rfl 1 (by decide) (hts (.fieldLink RX4 11 "FreezeCredits$History" "slots" "[LFreezeCredits$Calendar;") (by decide +kernel)) (fun _ h9 => h9) rfl dX4_init_20 ?_
  refine lv_iload_n hx hb dX4_init_23 rfl (lv_at hl 0 rfl) ?_
  refine va_new (ci := 0) (fs := [.int 0, .null, .null, .null, .null, .null]) (C := RX1) (T := TX1) (N := 6) hx hb hts (by decide +kernel) tyX1 tyX1_ok hown (hts (.classLink RX4 9 RX1) (by decide +kernel)) (hts (.instantiable RX1 6) (by decide +kernel)) (hts (.initialized RX1) (by decide +kernel)) hK hP hD hS hA rfl (fun j hj => by rcases (show j = 0 ∨ j = 1 ∨ j = 2 ∨ j = 3 ∨ j = 4 ∨ j = 5 from by omega) with rfl | rfl | rfl | rfl | rfl | rfl <;> rfl) (Nat.le_of_ble_eq_true rfl) (Nat.le_of_ble_eq_true rfl) dX4_init_24 (fun p1 H hP hD hS => ?_)
  refine lv_dup hx hb dX4_init_27 rfl ?_
  refine fz_retN (pre := (([(q, .inr (3, [.int 0, .ref q1])), (q1, .inl (cy 3, 5, .inr (.inr (.inr (.inr (va_up (fun _ => none) 0 (some (s0 0))))))))]) ++ (CW cy s0 v1))) (va_runIN (As := []) (rest := [.ref p1, .int 1, .ref q1]) ⟨hx, hb, hml, hown, hts⟩ (c_X1_init l D cy p1 H.size) ⟨va_cnB 0 hts gX4_init_X1_init_n17 rfl rfl rfl (fz_Nw_at hE.1 8 rfl) (hts (.initialized RX1) (by decide +kernel)) (by decide +kernel) ⟨Nat.le_of_ble_eq_true rfl, Nat.le_of_ble_eq_true rfl⟩, rfl, hts (.instanceMethod yX1_init) (by decide +kernel)⟩ (fz_preN hK hP hD fz_En_bl (fun U hU hW => hE.up hU hS hW (fz_lastA hD hS hA))) rfl rfl hl.1 rfl (lv_room (Nat.le_of_ble_eq_true rfl)) dX4_init_28 ⟨Nat.le_of_ble_eq_true rfl, Nat.le_of_ble_eq_true rfl⟩) hP hD hS hA (fun s1 H locs ha hP8 hD8 hS8 => ?_)
  obtain rfl := ha
  have hP : va_P D vwCl ((([(q, .inr (3, [.int 0, .ref q1])), (q1, .inl (cy 3, 5, .inr (.inr (.inr (.inr (va_up (fun _ => none) 0 (some (s0 0))))))))]) ++ (CW cy s0 v1)) ++ (CW cy s1 v1)) H := hP8
  have hD : va_D A ((([(q, .inr (3, [.int 0, .ref q1])), (q1, .inl (cy 3, 5, .inr (.inr (.inr (.inr (va_up (fun _ => none) 0 (some (s0 0))))))))]) ++ (CW cy s0 v1)) ++ (CW cy s1 v1)) := hD8
  have hS := hS8
  refine fz_aast hx hb hK hP hD hS 1 3 0 rfl rfl (List.mem_append_right _ List.mem_cons_self) rfl 1 rfl (by decide) (by decide) dX4_init_31 (fun H locs hP hD hS => ?_)
  have hP : va_P D vwCl ((([(q, .inr (3, [.int 0, .ref q1])), (q1, .inl (cy 3, 5, .inr (.inr (.inr (.inr (va_up (va_up (fun _ => none) 0 (some (s0 0))) 1 (some (s1 0))))))))]) ++ (CW cy s0 v1)) ++ (CW cy s1 v1)) H := hP
  have hD : va_D A ((([(q, .inr (3, [.int 0, .ref q1])), (q1, .inl (cy 3, 5, .inr (.inr (.inr (.inr (va_up (va_up (fun _ => none) 0 (some (s0 0))) 1 (some (s1 0))))))))]) ++ (CW cy s0 v1)) ++ (CW cy s1 v1)) := hD
  refine lv_iinc (v := 2) (lv' := [(1, .int 2), (0, .ref q)]) hx hb dX4_init_32 hl (k := 0) rfl (by decide) (by decide) rfl (fun ls hl => ?_)
  refine lv_goto (tgt := 14) hx hb dX4_init_35 (by decide) ?_
  refine lv_iload_n hx hb dX4_init_14 rfl (lv_at hl 0 rfl) ?_
  refine lv_iconst (v := 4) hx hb dX4_init_15 (by decide) ?_
  refine lv_icmp_gt (tgt := 38) hx hb dX4_init_16 (by decide) (fun c_9 => absurd c_9 (by decide)) (fun _ => ?_)
  refine lv_aload_n hx hb dX4_init_19 rfl (lv_at hl 1 rfl) ?_
  refine va_get (D := D) (ci := 3) (v := .ref q1) (C := RX4) (T := TX4) (N := 2) hx hb hts inX4 hown hK hP 0 rfl rfl 1 (by decide) (hts (.fieldLink RX4 11 "FreezeCredits$History" "slots" "[LFreezeCredits$Calendar;") (by decide +kernel)) (fun _ h9 => h9) rfl dX4_init_20 ?_
  refine lv_iload_n hx hb dX4_init_23 rfl (lv_at hl 0 rfl) ?_
  refine va_new (ci := 0) (fs := [.int 0, .null, .null, .null, .null, .null]) (C := RX1) (T := TX1) (N := 6) hx hb hts (by decide +kernel) tyX1 tyX1_ok hown (hts (.classLink RX4 9 RX1) (by decide +kernel)) (hts (.instantiable RX1 6) (by decide +kernel)) (hts (.initialized RX1) (by decide +kernel)) hK hP hD hS hA rfl (fun j hj => by rcases (show j = 0 ∨ j = 1 ∨ j = 2 ∨ j = 3 ∨ j = 4 ∨ j = 5 from by omega) with rfl | rfl | rfl | rfl | rfl | rfl <;> rfl) (Nat.le_of_ble_eq_true rfl) (Nat.le_of_ble_eq_true rfl) dX4_init_24 (fun p2 H hP hD hS => ?_)
  refine lv_dup hx hb dX4_init_27 rfl ?_
  refine fz_retN (pre := ((([(q, .inr (3, [.int 0, .ref q1])), (q1, .inl (cy 3, 5, .inr (.inr (.inr (.inr (va_up (va_up (fun _ => none) 0 (some (s0 0))) 1 (some (s1 0))))))))]) ++ (CW cy s0 v1)) ++ (CW cy s1 v1))) (va_runIN (As := []) (rest := [.ref p2, .int 2, .ref q1]) ⟨hx, hb, hml, hown, hts⟩ (c_X1_init l D cy p2 H.size) ⟨va_cnB 0 hts gX4_init_X1_init_n17 rfl rfl rfl (fz_Nw_at hE.1 8 rfl) (hts (.initialized RX1) (by decide +kernel)) (by decide +kernel) ⟨Nat.le_of_ble_eq_true rfl, Nat.le_of_ble_eq_true rfl⟩, rfl, hts (.instanceMethod yX1_init) (by decide +kernel)⟩ (fz_preN hK hP hD fz_En_bl (fun U hU hW => hE.up hU hS hW (fz_lastA hD hS hA))) rfl rfl hl.1 rfl (lv_room (Nat.le_of_ble_eq_true rfl)) dX4_init_28 ⟨Nat.le_of_ble_eq_true rfl, Nat.le_of_ble_eq_true rfl⟩) hP hD hS hA (fun s2 H locs ha hP8 hD8 hS8 => ?_)
  obtain rfl := ha
  have hP : va_P D vwCl (((([(q, .inr (3, [.int 0, .ref q1])), (q1, .inl (cy 3, 5, .inr (.inr (.inr (.inr (va_up (va_up (fun _ => none) 0 (some (s0 0))) 1 (some (s1 0))))))))]) ++ (CW cy s0 v1)) ++ (CW cy s1 v1)) ++ (CW cy s2 v1)) H := hP8
  have hD : va_D A (((([(q, .inr (3, [.int 0, .ref q1])), (q1, .inl (cy 3, 5, .inr (.inr (.inr (.inr (va_up (va_up (fun _ => none) 0 (some (s0 0))) 1 (some (s1 0))))))))]) ++ (CW cy s0 v1)) ++ (CW cy s1 v1)) ++ (CW cy s2 v1)) := hD8
  have hS := hS8
  refine fz_aast hx hb hK hP hD hS 1 3 0 rfl rfl (List.mem_append_right _ List.mem_cons_self) rfl 2 rfl (by decide) (by decide) dX4_init_31 (fun H locs hP hD hS => ?_)
  have hP : va_P D vwCl (((([(q, .inr (3, [.int 0, .ref q1])), (q1, .inl (cy 3, 5, .inr (.inr (.inr (.inr (va_up (va_up (va_up (fun _ => none) 0 (some (s0 0))) 1 (some (s1 0))) 2 (some (s2 0))))))))]) ++ (CW cy s0 v1)) ++ (CW cy s1 v1)) ++ (CW cy s2 v1)) H := hP
  have hD : va_D A (((([(q, .inr (3, [.int 0, .ref q1])), (q1, .inl (cy 3, 5, .inr (.inr (.inr (.inr (va_up (va_up (va_up (fun _ => none) 0 (some (s0 0))) 1 (some (s1 0))) 2 (some (s2 0))))))))]) ++ (CW cy s0 v1)) ++ (CW cy s1 v1)) ++ (CW cy s2 v1)) := hD
  refine lv_iinc (v := 3) (lv' := [(1, .int 3), (0, .ref q)]) hx hb dX4_init_32 hl (k := 0) rfl (by decide) (by decide) rfl (fun ls hl => ?_)
  refine lv_goto (tgt := 14) hx hb dX4_init_35 (by decide) ?_
  refine lv_iload_n hx hb dX4_init_14 rfl (lv_at hl 0 rfl) ?_
  refine lv_iconst (v := 4) hx hb dX4_init_15 (by decide) ?_
  refine lv_icmp_gt (tgt := 38) hx hb dX4_init_16 (by decide) (fun c_9 => absurd c_9 (by decide)) (fun _ => ?_)
  refine lv_aload_n hx hb dX4_init_19 rfl (lv_at hl 1 rfl) ?_
  refine va_get (D := D) (ci := 3) (v := .ref q1) (C := RX4) (T := TX4) (N := 2) hx hb hts inX4 hown hK hP 0 rfl rfl 1 (by decide) (hts (.fieldLink RX4 11 "FreezeCredits$History" "slots" "[LFreezeCredits$Calendar;") (by decide +kernel)) (fun _ h9 => h9) rfl dX4_init_20 ?_
  refine lv_iload_n hx hb dX4_init_23 rfl (lv_at hl 0 rfl) ?_
  refine va_new (ci := 0) (fs := [.int 0, .null, .null, .null, .null, .null]) (C := RX1) (T := TX1) (N := 6) hx hb hts (by decide +kernel) tyX1 tyX1_ok hown (hts (.classLink RX4 9 RX1) (by decide +kernel)) (hts (.instantiable RX1 6) (by decide +kernel)) (hts (.initialized RX1) (by decide +kernel)) hK hP hD hS hA rfl (fun j hj => by rcases (show j = 0 ∨ j = 1 ∨ j = 2 ∨ j = 3 ∨ j = 4 ∨ j = 5 from by omega) with rfl | rfl | rfl | rfl | rfl | rfl <;> rfl) (Nat.le_of_ble_eq_true rfl) (Nat.le_of_ble_eq_true rfl) dX4_init_24 (fun p3 H hP hD hS => ?_)
  refine lv_dup hx hb dX4_init_27 rfl ?_
  refine fz_retN (pre := (((([(q, .inr (3, [.int 0, .ref q1])), (q1, .inl (cy 3, 5, .inr (.inr (.inr (.inr (va_up (va_up (va_up (fun _ => none) 0 (some (s0 0))) 1 (some (s1 0))) 2 (some (s2 0))))))))]) ++ (CW cy s0 v1)) ++ (CW cy s1 v1)) ++ (CW cy s2 v1))) (va_runIN (As := []) (rest := [.ref p3, .int 3, .ref q1]) ⟨hx, hb, hml, hown, hts⟩ (c_X1_init l D cy p3 H.size) ⟨va_cnB 0 hts gX4_init_X1_init_n17 rfl rfl rfl (fz_Nw_at hE.1 8 rfl) (hts (.initialized RX1) (by decide +kernel)) (by decide +kernel) ⟨Nat.le_of_ble_eq_true rfl, Nat.le_of_ble_eq_true rfl⟩, rfl, hts (.instanceMethod yX1_init) (by decide +kernel)⟩ (fz_preN hK hP hD fz_En_bl (fun U hU hW => hE.up hU hS hW (fz_lastA hD hS hA))) rfl rfl hl.1 rfl (lv_room (Nat.le_of_ble_eq_true rfl)) dX4_init_28 ⟨Nat.le_of_ble_eq_true rfl, Nat.le_of_ble_eq_true rfl⟩) hP hD hS hA (fun s3 H locs ha hP8 hD8 hS8 => ?_)
  obtain rfl := ha
  have hP : va_P D vwCl ((((([(q, .inr (3, [.int 0, .ref q1])), (q1, .inl (cy 3, 5, .inr (.inr (.inr (.inr (va_up (va_up (va_up (fun _ => none) 0 (some (s0 0))) 1 (some (s1 0))) 2 (some (s2 0))))))))]) ++ (CW cy s0 v1)) ++ (CW cy s1 v1)) ++ (CW cy s2 v1)) ++ (CW cy s3 v1)) H := hP8
  have hD : va_D A ((((([(q, .inr (3, [.int 0, .ref q1])), (q1, .inl (cy 3, 5, .inr (.inr (.inr (.inr (va_up (va_up (va_up (fun _ => none) 0 (some (s0 0))) 1 (some (s1 0))) 2 (some (s2 0))))))))]) ++ (CW cy s0 v1)) ++ (CW cy s1 v1)) ++ (CW cy s2 v1)) ++ (CW cy s3 v1)) := hD8
  have hS := hS8
  refine fz_aast hx hb hK hP hD hS 1 3 0 rfl rfl (List.mem_append_right _ List.mem_cons_self) rfl 3 rfl (by decide) (by decide) dX4_init_31 (fun H locs hP hD hS => ?_)
  have hP : va_P D vwCl ((((([(q, .inr (3, [.int 0, .ref q1])), (q1, .inl (cy 3, 5, .inr (.inr (.inr (.inr (va_up (va_up (va_up (va_up (fun _ => none) 0 (some (s0 0))) 1 (some (s1 0))) 2 (some (s2 0))) 3 (some (s3 0))))))))]) ++ (CW cy s0 v1)) ++ (CW cy s1 v1)) ++ (CW cy s2 v1)) ++ (CW cy s3 v1)) H := hP
  have hD : va_D A ((((([(q, .inr (3, [.int 0, .ref q1])), (q1, .inl (cy 3, 5, .inr (.inr (.inr (.inr (va_up (va_up (va_up (va_up (fun _ => none) 0 (some (s0 0))) 1 (some (s1 0))) 2 (some (s2 0))) 3 (some (s3 0))))))))]) ++ (CW cy s0 v1)) ++ (CW cy s1 v1)) ++ (CW cy s2 v1)) ++ (CW cy s3 v1)) := hD
  refine lv_iinc (v := 4) (lv' := [(1, .int 4), (0, .ref q)]) hx hb dX4_init_32 hl (k := 0) rfl (by decide) (by decide) rfl (fun ls hl => ?_)
  refine lv_goto (tgt := 14) hx hb dX4_init_35 (by decide) ?_
  refine lv_iload_n hx hb dX4_init_14 rfl (lv_at hl 0 rfl) ?_
  refine lv_iconst (v := 4) hx hb dX4_init_15 (by decide) ?_
  refine lv_icmp_gt (tgt := 38) hx hb dX4_init_16 (by decide) (fun c_9 => absurd c_9 (by decide)) (fun _ => ?_)
  refine lv_aload_n hx hb dX4_init_19 rfl (lv_at hl 1 rfl) ?_
  refine va_get (D := D) (ci := 3) (v := .ref q1) (C := RX4) (T := TX4) (N := 2) hx hb hts inX4 hown hK hP 0 rfl rfl 1 (by decide) (hts (.fieldLink RX4 11 "FreezeCredits$History" "slots" "[LFreezeCredits$Calendar;") (by decide +kernel)) (fun _ h9 => h9) rfl dX4_init_20 ?_
  refine lv_iload_n hx hb dX4_init_23 rfl (lv_at hl 0 rfl) ?_
  refine va_new (ci := 0) (fs := [.int 0, .null, .null, .null, .null, .null]) (C := RX1) (T := TX1) (N := 6) hx hb hts (by decide +kernel) tyX1 tyX1_ok hown (hts (.classLink RX4 9 RX1) (by decide +kernel)) (hts (.instantiable RX1 6) (by decide +kernel)) (hts (.initialized RX1) (by decide +kernel)) hK hP hD hS hA rfl (fun j hj => by rcases (show j = 0 ∨ j = 1 ∨ j = 2 ∨ j = 3 ∨ j = 4 ∨ j = 5 from by omega) with rfl | rfl | rfl | rfl | rfl | rfl <;> rfl) (Nat.le_of_ble_eq_true rfl) (Nat.le_of_ble_eq_true rfl) dX4_init_24 (fun p4 H hP hD hS => ?_)
  refine lv_dup hx hb dX4_init_27 rfl ?_
  refine fz_retN (pre := ((((([(q, .inr (3, [.int 0, .ref q1])), (q1, .inl (cy 3, 5, .inr (.inr (.inr (.inr (va_up (va_up (va_up (va_up (fun _ => none) 0 (some (s0 0))) 1 (some (s1 0))) 2 (some (s2 0))) 3 (some (s3 0))))))))]) ++ (CW cy s0 v1)) ++ (CW cy s1 v1)) ++ (CW cy s2 v1)) ++ (CW cy s3 v1))) (va_runIN (As := []) (rest := [.ref p4, .int 4, .ref q1]) ⟨hx, hb, hml, hown, hts⟩ (c_X1_init l D cy p4 H.size) ⟨va_cnB 0 hts gX4_init_X1_init_n17 rfl rfl rfl (fz_Nw_at hE.1 8 rfl) (hts (.initialized RX1) (by decide +kernel)) (by decide +kernel) ⟨Nat.le_of_ble_eq_true rfl, Nat.le_of_ble_eq_true rfl⟩, rfl, hts (.instanceMethod yX1_init) (by decide +kernel)⟩ (fz_preN hK hP hD fz_En_bl (fun U hU hW => hE.up hU hS hW (fz_lastA hD hS hA))) rfl rfl hl.1 rfl (lv_room (Nat.le_of_ble_eq_true rfl)) dX4_init_28 ⟨Nat.le_of_ble_eq_true rfl, Nat.le_of_ble_eq_true rfl⟩) hP hD hS hA (fun s4 H locs ha hP8 hD8 hS8 => ?_)
  obtain rfl := ha
  have hP : va_P D vwCl (((((([(q, .inr (3, [.int 0, .ref q1])), (q1, .inl (cy 3, 5, .inr (.inr (.inr (.inr (va_up (va_up (va_up (va_up (fun _ => none) 0 (some (s0 0))) 1 (some (s1 0))) 2 (some (s2 0))) 3 (some (s3 0))))))))]) ++ (CW cy s0 v1)) ++ (CW cy s1 v1)) ++ (CW cy s2 v1)) ++ (CW cy s3 v1)) ++ (CW cy s4 v1)) H := hP8
  have hD : va_D A (((((([(q, .inr (3, [.int 0, .ref q1])), (q1, .inl (cy 3, 5, .inr (.inr (.inr (.inr (va_up (va_up (va_up (va_up (fun _ => none) 0 (some (s0 0))) 1 (some (s1 0))) 2 (some (s2 0))) 3 (some (s3 0))))))))]) ++ (CW cy s0 v1)) ++ (CW cy s1 v1)) ++ (CW cy s2 v1)) ++ (CW cy s3 v1)) ++ (CW cy s4 v1)) := hD8
  have hS := hS8
  refine fz_aast hx hb hK hP hD hS 1 3 0 rfl rfl (List.mem_append_right _ List.mem_cons_self) rfl 4 rfl (by decide) (by decide) dX4_init_31 (fun H locs hP hD hS => ?_)
  have hP : va_P D vwCl (((((([(q, .inr (3, [.int 0, .ref q1])), (q1, .inl (cy 3, 5, .inr (.inr (.inr (.inr (va_up (va_up (va_up (va_up (va_up (fun _ => none) 0 (some (s0 0))) 1 (some (s1 0))) 2 (some (s2 0))) 3 (some (s3 0))) 4 (some (s4 0))))))))]) ++ (CW cy s0 v1)) ++ (CW cy s1 v1)) ++ (CW cy s2 v1)) ++ (CW cy s3 v1)) ++ (CW cy s4 v1)) H := hP
  have hD : va_D A (((((([(q, .inr (3, [.int 0, .ref q1])), (q1, .inl (cy 3, 5, .inr (.inr (.inr (.inr (va_up (va_up (va_up (va_up (va_up (fun _ => none) 0 (some (s0 0))) 1 (some (s1 0))) 2 (some (s2 0))) 3 (some (s3 0))) 4 (some (s4 0))))))))]) ++ (CW cy s0 v1)) ++ (CW cy s1 v1)) ++ (CW cy s2 v1)) ++ (CW cy s3 v1)) ++ (CW cy s4 v1)) := hD
  refine lv_iinc (v := 5) (lv' := [(1, .int 5), (0, .ref q)]) hx hb dX4_init_32 hl (k := 0) rfl (by decide) (by decide) rfl (fun ls hl => ?_)
  refine lv_goto (tgt := 14) hx hb dX4_init_35 (by decide) ?_
  refine lv_iload_n hx hb dX4_init_14 rfl (lv_at hl 0 rfl) ?_
  refine lv_iconst (v := 4) hx hb dX4_init_15 (by decide) ?_
  refine lv_icmp_gt (tgt := 38) hx hb dX4_init_16 (by decide) (fun _ => ?_) (fun c_9 => absurd (by decide) c_9)
  obtain ⟨hh, ehh⟩ : ∃ hh : Nat → Nat, hh = fun i => [q, q1].getD i 0 := ⟨_, rfl⟩
  obtain ⟨sl, esl⟩ : ∃ sl : Nat → Nat → Nat, sl = fun k => [s0, s1, s2, s3, s4].getD k (fun _ => 0) := ⟨_, rfl⟩
  have hP : va_P D vwCl ([] ++ (HW cy hh (va_up (va_up (va_up (va_up (va_up (fun _ => none) 0 (some (s0 0))) 1 (some (s1 0))) 2 (some (s2 0))) 3 (some (s3 0))) 4 (some (s4 0))) 0 ++ (CW cy s0 v1 ++ (CW cy s1 v1 ++ (CW cy s2 v1 ++ (CW cy s3 v1 ++ CW cy s4 v1)))))) H := by rw [ehh]; exact hP
  have hD : va_D A (HW cy hh (va_up (va_up (va_up (va_up (va_up (fun _ => none) 0 (some (s0 0))) 1 (some (s1 0))) 2 (some (s2 0))) 3 (some (s3 0))) 4 (some (s4 0))) 0 ++ (CW cy s0 v1 ++ (CW cy s1 v1 ++ (CW cy s2 v1 ++ (CW cy s3 v1 ++ CW cy s4 v1))))) := by rw [ehh]; exact hD
  have hP := fz_HWe (g' := fun k => some (sl k 0)) (fun k hk => by rw [esl]; rcases (show k = 0 ∨ k = 1 ∨ k = 2 ∨ k = 3 ∨ k = 4 by omega) with rfl | rfl | rfl | rfl | rfl <;> rfl) hP
  have hD : va_D A (HW cy hh (fun k => some (sl k 0)) 0 ++ (CW cy s0 v1 ++ (CW cy s1 v1 ++ (CW cy s2 v1 ++ (CW cy s3 v1 ++ CW cy s4 v1))))) := fz_Dc (W := HW cy hh (va_up (va_up (va_up (va_up (va_up (fun _ => none) 0 (some (s0 0))) 1 (some (s1 0))) 2 (some (s2 0))) 3 (some (s3 0))) 4 (some (s4 0))) 0 ++ (CW cy s0 v1 ++ (CW cy s1 v1 ++ (CW cy s2 v1 ++ (CW cy s3 v1 ++ CW cy s4 v1))))) rfl hD
  subst hAe
  exact W.vret hx hb hr (fun t9 ht9 hW9 => ⟨⟨(hh, sl), rfl, by rw [ehh]; rfl, fz_to ht9 (by rw [esl] at hP ⊢; exact hP), (by rw [esl] at hD ⊢; exact hD)⟩, hS.F ht9⟩) hS.2.2 dX4_init_38
set_option maxHeartbeats 4000000 in
set_option maxRecDepth 100000 in
/-- a new X8 -/
theorem c_X8_init (l : Launch) (D : va_G) (cy : Nat → ClassId) (q sz : Nat) : fz_NW l yX8_init wsX8_init 4 173 3022 90 D cy q 6 [.null, .null, .null, .null] sz fz_En (fun (a : (Nat → Nat) × (Nat → Nat) × (Nat → Nat) × ((Nat → Nat) × (Nat → Nat → Nat)) × (Nat → Nat)) => (((FW a.1 a.2.1 a.2.2.1 a.2.2.2.1.1 a.2.2.2.2 ++ CW cy a.2.1 v1) ++ CW cy a.2.2.1 v1) ++ (HW cy a.2.2.2.1.1 (fun k => some (a.2.2.2.1.2 k 0)) 0 ++ (CW cy (a.2.2.2.1.2 0) v1 ++ (CW cy (a.2.2.2.1.2 1) v1 ++ (CW cy (a.2.2.2.1.2 2) v1 ++ (CW cy (a.2.2.2.1.2 3) v1 ++ CW cy (a.2.2.2.1.2 4) v1)))))) ++ XW cy (fun _ => 0) a.2.2.2.2 zV none) (fun a => a.1 0 = q) := by
  refine Met.ofW (cc := cX8_init) (maxL := 1) (ret := none) (by decide) rfl ?_
  intro p e s m args below meth c s₁ B hml hv
  obtain ⟨rfl, hsz, hP, hK, hD0, hE⟩ := hv
  have hx := B.exec
  have hb := B.bytes
  have hr := B.returns
  have hts := atoms_spec (ws := wsX8_init) B.pre
  have hown : s.vm.findClass RX8 = some m.cls := findClass_of_methodNamed B.named
  have hlocks := B.notSynchronized
  have hin : meth.name = "<init>" := (name_of_methodNamed B.named B.method).1
  subst hsz
  have hD := hD0.self (sz := s.heap.size)
  obtain ⟨A, hAe⟩ : ∃ A : Nat → Prop, A = va_A [(q, .inr (6, [.null, .null, .null, .null]))] s.heap.size := ⟨_, rfl⟩
  rw [← hAe] at hD
  have hE : fz_En A s := by rw [hAe]; exact hE
  have hA : ∀ x : Nat, s.heap.size ≤ x → A x := fun x h => by rw [hAe]; exact Or.inr h
  have hS : va_S A s.heap s.heap [] := va_S.rf
  have hl := lv_entry ([.ref q]) (n := 1) (Nat.le_of_ble_eq_true rfl)
  rw [lg_entry_eq]
  generalize (lg_sl ([.ref q]) ++ List.replicate (1 - (lg_sl ([.ref q])).length) Slot.unset).toArray = ls at hl ⊢
  have hl : lv_has ls 1 [(0, .ref q)] := hl
  have inX8 : ∀ w ∈ u_ws RX8 TX8 4, w ∈ wsX8_init := by decide +kernel
  refine lv_aload_n hx hb dX8_init_0 rfl (lv_at hl 0 rfl) ?_
  refine W.objInit hx hb hown (hts (.methodLink RX8 3 objectInit) (by decide +kernel)) (hts (.instanceMethod objectInit) (by decide +kernel)) (hts (.code objectInit ⟨#[0xb1]⟩ 1 none) (by decide +kernel)) rfl (by rw [hml]; exact hl.1) rfl dX8_init_1 (Nat.le_of_ble_eq_true rfl) (Nat.le_of_ble_eq_true rfl) ?_
  refine W.eq (g2 := F0 m 4 ls []) rfl ?_
  refine lv_aload_n hx hb dX8_init_4 rfl (lv_at hl 0 rfl) ?_
  refine va_new (ci := 0) (fs := [.int 0, .null, .null, .null, .null, .null]) (C := RX1) (T := TX1) (N := 6) hx hb hts (by decide +kernel) tyX1 tyX1_ok hown (hts (.classLink RX8 9 RX1) (by decide +kernel)) (hts (.instantiable RX1 6) (by decide +kernel)) (hts (.initialized RX1) (by decide +kernel)) hK hP hD hS hA rfl (fun j hj => by rcases (show j = 0 ∨ j = 1 ∨ j = 2 ∨ j = 3 ∨ j = 4 ∨ j = 5 from by omega) with rfl | rfl | rfl | rfl | rfl | rfl <;> rfl) (Nat.le_of_ble_eq_true rfl) (Nat.le_of_ble_eq_true rfl) dX8_init_5 (fun pna H hP hD hS => ?_)
  refine lv_dup hx hb dX8_init_8 rfl ?_
  refine fz_retN (pre := ([(q, .inr (6, [.null, .null, .null, .null]))])) (va_runIN (As := []) (rest := [.ref pna, .ref q]) ⟨hx, hb, hml, hown, hts⟩ (c_X1_init l D cy pna H.size) ⟨va_cnB 0 hts gX8_init_X1_init_n11 rfl rfl rfl (fz_Nw_at hE.1 6 rfl) (hts (.initialized RX1) (by decide +kernel)) (by decide +kernel) ⟨Nat.le_of_ble_eq_true rfl, Nat.le_of_ble_eq_true rfl⟩, rfl, hts (.instanceMethod yX1_init) (by decide +kernel)⟩ (fz_preN hK hP hD fz_En_bl (fun U hU hW => hE.up hU hS hW (fz_lastA hD hS hA))) rfl rfl hl.1 rfl (lv_room (Nat.le_of_ble_eq_true rfl)) dX8_init_9 ⟨Nat.le_of_ble_eq_true rfl, Nat.le_of_ble_eq_true rfl⟩) hP hD hS hA (fun na H locs ha hP8 hD8 hS8 => ?_)
  obtain rfl := ha
  have hP : va_P D vwCl (([(q, .inr (6, [.null, .null, .null, .null]))]) ++ (CW cy na v1)) H := hP8
  have hD : va_D A (([(q, .inr (6, [.null, .null, .null, .null]))]) ++ (CW cy na v1)) := hD8
  have hS := hS8
  refine va_putF (D := D) (ci := 6) (v := .ref (na 0)) (ty := tyX8 0) (C := RX8) (T := TX8) (N := 4) hx hb hts inX8 tyX8 tyX8_ok nmX8 hown hK hP hD hS 0 rfl rfl 0 (by decide) (hts (.fieldLink RX8 12 "FreezeCredits" "now" "LFreezeCredits$Calendar;") (by decide +kernel)) (fun _ h9 => h9) rfl hin rfl (by decide +kernel) rfl rfl (Nat.le_of_ble_eq_true rfl) dX8_init_12 (fun H locs hP hD hS => ?_)
  have hP : va_P D vwCl (([(q, .inr (6, [.ref (na 0), .null, .null, .null]))]) ++ (CW cy na v1)) H := hP
  have hD : va_D A (([(q, .inr (6, [.ref (na 0), .null, .null, .null]))]) ++ (CW cy na v1)) := hD
  refine lv_aload_n hx hb dX8_init_15 rfl (lv_at hl 0 rfl) ?_
  refine va_new (ci := 0) (fs := [.int 0, .null, .null, .null, .null, .null]) (C := RX1) (T := TX1) (N := 6) hx hb hts (by decide +kernel) tyX1 tyX1_ok hown (hts (.classLink RX8 9 RX1) (by decide +kernel)) (hts (.instantiable RX1 6) (by decide +kernel)) (hts (.initialized RX1) (by decide +kernel)) hK hP hD hS hA rfl (fun j hj => by rcases (show j = 0 ∨ j = 1 ∨ j = 2 ∨ j = 3 ∨ j = 4 ∨ j = 5 from by omega) with rfl | rfl | rfl | rfl | rfl | rfl <;> rfl) (Nat.le_of_ble_eq_true rfl) (Nat.le_of_ble_eq_true rfl) dX8_init_16 (fun ptr H hP hD hS => ?_)
  refine lv_dup hx hb dX8_init_19 rfl ?_
  refine fz_retN (pre := (([(q, .inr (6, [.ref (na 0), .null, .null, .null]))]) ++ (CW cy na v1))) (va_runIN (As := []) (rest := [.ref ptr, .ref q]) ⟨hx, hb, hml, hown, hts⟩ (c_X1_init l D cy ptr H.size) ⟨va_cnB 0 hts gX8_init_X1_init_n11 rfl rfl rfl (fz_Nw_at hE.1 6 rfl) (hts (.initialized RX1) (by decide +kernel)) (by decide +kernel) ⟨Nat.le_of_ble_eq_true rfl, Nat.le_of_ble_eq_true rfl⟩, rfl, hts (.instanceMethod yX1_init) (by decide +kernel)⟩ (fz_preN hK hP hD fz_En_bl (fun U hU hW => hE.up hU hS hW (fz_lastA hD hS hA))) rfl rfl hl.1 rfl (lv_room (Nat.le_of_ble_eq_true rfl)) dX8_init_20 ⟨Nat.le_of_ble_eq_true rfl, Nat.le_of_ble_eq_true rfl⟩) hP hD hS hA (fun tr H locs ha hP8 hD8 hS8 => ?_)
  obtain rfl := ha
  have hP : va_P D vwCl ((([(q, .inr (6, [.ref (na 0), .null, .null, .null]))]) ++ (CW cy na v1)) ++ (CW cy tr v1)) H := hP8
  have hD : va_D A ((([(q, .inr (6, [.ref (na 0), .null, .null, .null]))]) ++ (CW cy na v1)) ++ (CW cy tr v1)) := hD8
  have hS := hS8
  refine va_putF (D := D) (ci := 6) (v := .ref (tr 0)) (ty := tyX8 1) (C := RX8) (T := TX8) (N := 4) hx hb hts inX8 tyX8 tyX8_ok nmX8 hown hK hP hD hS 0 rfl rfl 1 (by decide) (hts (.fieldLink RX8 16 "FreezeCredits" "trial" "LFreezeCredits$Calendar;") (by decide +kernel)) (fun _ h9 => h9) rfl hin rfl (by decide +kernel) rfl rfl (Nat.le_of_ble_eq_true rfl) dX8_init_23 (fun H locs hP hD hS => ?_)
  have hP : va_P D vwCl ((([(q, .inr (6, [.ref (na 0), .ref (tr 0), .null, .null]))]) ++ (CW cy na v1)) ++ (CW cy tr v1)) H := hP
  have hD : va_D A ((([(q, .inr (6, [.ref (na 0), .ref (tr 0), .null, .null]))]) ++ (CW cy na v1)) ++ (CW cy tr v1)) := hD
  refine lv_aload_n hx hb dX8_init_26 rfl (lv_at hl 0 rfl) ?_
  refine va_new (ci := 3) (fs := [.int 0, .null]) (C := RX4) (T := TX4) (N := 2) hx hb hts (by decide +kernel) tyX4 tyX4_ok hown (hts (.classLink RX8 19 RX4) (by decide +kernel)) (hts (.instantiable RX4 2) (by decide +kernel)) (hts (.initialized RX4) (by decide +kernel)) hK hP hD hS hA rfl (fun j hj => by rcases (show j = 0 ∨ j = 1 from by omega) with rfl | rfl <;> rfl) (Nat.le_of_ble_eq_true rfl) (Nat.le_of_ble_eq_true rfl) dX8_init_27 (fun phs H hP hD hS => ?_)
  refine lv_dup hx hb dX8_init_30 rfl ?_
  refine fz_retN (pre := ((([(q, .inr (6, [.ref (na 0), .ref (tr 0), .null, .null]))]) ++ (CW cy na v1)) ++ (CW cy tr v1))) (va_runI (As := []) (rest := [.ref phs, .ref q]) ⟨hx, hb, hml, hown, hts⟩ (c_X4_init l D cy phs H.size) (cwI 0 hts gX8_init_X4_init rfl rfl rfl (hts (.initialized RX4) (by decide +kernel)) (hts (.methodLink RX8 21 yX4_init) (by decide +kernel)) (hts (.instanceMethod yX4_init) (by decide +kernel)) rfl (by decide +kernel) ⟨Nat.le_of_ble_eq_true rfl, Nat.le_of_ble_eq_true rfl⟩) (fz_preN hK hP hD fz_En_bl (fun U hU hW => hE.up hU hS hW (fz_lastA hD hS hA))) rfl rfl hl.1 rfl (lv_room (Nat.le_of_ble_eq_true rfl)) dX8_init_31 ⟨Nat.le_of_ble_eq_true rfl, Nat.le_of_ble_eq_true rfl⟩) hP hD hS hA (fun hs H locs ha hP8 hD8 hS8 => ?_)
  obtain rfl := ha
  have hP : va_P D vwCl (((([(q, .inr (6, [.ref (na 0), .ref (tr 0), .null, .null]))]) ++ (CW cy na v1)) ++ (CW cy tr v1)) ++ (HW cy hs.1 (fun k => some (hs.2 k 0)) 0 ++ (CW cy (hs.2 0) v1 ++ (CW cy (hs.2 1) v1 ++ (CW cy (hs.2 2) v1 ++ (CW cy (hs.2 3) v1 ++ CW cy (hs.2 4) v1)))))) H := hP8
  have hD : va_D A (((([(q, .inr (6, [.ref (na 0), .ref (tr 0), .null, .null]))]) ++ (CW cy na v1)) ++ (CW cy tr v1)) ++ (HW cy hs.1 (fun k => some (hs.2 k 0)) 0 ++ (CW cy (hs.2 0) v1 ++ (CW cy (hs.2 1) v1 ++ (CW cy (hs.2 2) v1 ++ (CW cy (hs.2 3) v1 ++ CW cy (hs.2 4) v1)))))) := hD8
  have hS := hS8
  refine va_putF (D := D) (ci := 6) (v := .ref (hs.1 0)) (ty := tyX8 2) (C := RX8) (T := TX8) (N := 4) hx hb hts inX8 tyX8 tyX8_ok nmX8 hown hK hP hD hS 0 rfl rfl 2 (by decide) (hts (.fieldLink RX8 22 "FreezeCredits" "history" "LFreezeCredits$History;") (by decide +kernel)) (fun _ h9 => h9) rfl hin rfl (by decide +kernel) rfl rfl (Nat.le_of_ble_eq_true rfl) dX8_init_34 (fun H locs hP hD hS => ?_)
  have hP : va_P D vwCl (((([(q, .inr (6, [.ref (na 0), .ref (tr 0), .ref (hs.1 0), .null]))]) ++ (CW cy na v1)) ++ (CW cy tr v1)) ++ (HW cy hs.1 (fun k => some (hs.2 k 0)) 0 ++ (CW cy (hs.2 0) v1 ++ (CW cy (hs.2 1) v1 ++ (CW cy (hs.2 2) v1 ++ (CW cy (hs.2 3) v1 ++ CW cy (hs.2 4) v1)))))) H := hP
  have hD : va_D A (((([(q, .inr (6, [.ref (na 0), .ref (tr 0), .ref (hs.1 0), .null]))]) ++ (CW cy na v1)) ++ (CW cy tr v1)) ++ (HW cy hs.1 (fun k => some (hs.2 k 0)) 0 ++ (CW cy (hs.2 0) v1 ++ (CW cy (hs.2 1) v1 ++ (CW cy (hs.2 2) v1 ++ (CW cy (hs.2 3) v1 ++ CW cy (hs.2 4) v1)))))) := hD
  refine lv_aload_n hx hb dX8_init_37 rfl (lv_at hl 0 rfl) ?_
  refine va_new (ci := 2) (fs := [.int 0, .null, .null, .null, .int 0]) (C := RX3) (T := TX3) (N := 5) hx hb hts (by decide +kernel) tyX3 tyX3_ok hown (hts (.classLink RX8 26 RX3) (by decide +kernel)) (hts (.instantiable RX3 5) (by decide +kernel)) (hts (.initialized RX3) (by decide +kernel)) hK hP hD hS hA rfl (fun j hj => by rcases (show j = 0 ∨ j = 1 ∨ j = 2 ∨ j = 3 ∨ j = 4 from by omega) with rfl | rfl | rfl | rfl | rfl <;> rfl) (Nat.le_of_ble_eq_true rfl) (Nat.le_of_ble_eq_true rfl) dX8_init_38 (fun ptx H hP hD hS => ?_)
  refine lv_dup hx hb dX8_init_41 rfl ?_
  refine fz_retN (pre := (((([(q, .inr (6, [.ref (na 0), .ref (tr 0), .ref (hs.1 0), .null]))]) ++ (CW cy na v1)) ++ (CW cy tr v1)) ++ (HW cy hs.1 (fun k => some (hs.2 k 0)) 0 ++ (CW cy (hs.2 0) v1 ++ (CW cy (hs.2 1) v1 ++ (CW cy (hs.2 2) v1 ++ (CW cy (hs.2 3) v1 ++ CW cy (hs.2 4) v1))))))) (va_runIN (As := []) (rest := [.ref ptx, .ref q]) ⟨hx, hb, hml, hown, hts⟩ (c_X3_init l D cy ptx H.size) ⟨va_cnB 0 hts gX8_init_X3_init_n28 rfl rfl rfl (fz_Nw_at hE.1 7 rfl) (hts (.initialized RX3) (by decide +kernel)) (by decide +kernel) ⟨Nat.le_of_ble_eq_true rfl, Nat.le_of_ble_eq_true rfl⟩, rfl, hts (.instanceMethod yX3_init) (by decide +kernel)⟩ (fz_preN hK hP hD fz_T_bl (fun _ _ _ => trivial)) rfl rfl hl.1 rfl (lv_room (Nat.le_of_ble_eq_true rfl)) dX8_init_42 ⟨Nat.le_of_ble_eq_true rfl, Nat.le_of_ble_eq_true rfl⟩) hP hD hS hA (fun tx H locs ha hP8 hD8 hS8 => ?_)
  obtain rfl := ha
  have hP : va_P D vwCl ((((([(q, .inr (6, [.ref (na 0), .ref (tr 0), .ref (hs.1 0), .null]))]) ++ (CW cy na v1)) ++ (CW cy tr v1)) ++ (HW cy hs.1 (fun k => some (hs.2 k 0)) 0 ++ (CW cy (hs.2 0) v1 ++ (CW cy (hs.2 1) v1 ++ (CW cy (hs.2 2) v1 ++ (CW cy (hs.2 3) v1 ++ CW cy (hs.2 4) v1)))))) ++ (XW cy (fun _ => 0) tx zV none)) H := hP8
  have hD : va_D A ((((([(q, .inr (6, [.ref (na 0), .ref (tr 0), .ref (hs.1 0), .null]))]) ++ (CW cy na v1)) ++ (CW cy tr v1)) ++ (HW cy hs.1 (fun k => some (hs.2 k 0)) 0 ++ (CW cy (hs.2 0) v1 ++ (CW cy (hs.2 1) v1 ++ (CW cy (hs.2 2) v1 ++ (CW cy (hs.2 3) v1 ++ CW cy (hs.2 4) v1)))))) ++ (XW cy (fun _ => 0) tx zV none)) := hD8
  have hS := hS8
  refine va_putF (D := D) (ci := 6) (v := .ref (tx 0)) (ty := tyX8 3) (C := RX8) (T := TX8) (N := 4) hx hb hts inX8 tyX8 tyX8_ok nmX8 hown hK hP hD hS 0 rfl rfl 3 (by decide) (hts (.fieldLink RX8 29 "FreezeCredits" "text" "LFreezeCredits$CommandText;") (by decide +kernel)) (fun _ h9 => h9) rfl hin rfl (by decide +kernel) rfl rfl (Nat.le_of_ble_eq_true rfl) dX8_init_45 (fun H locs hP hD hS => ?_)
  have hP : va_P D vwCl ((((([(q, .inr (6, [.ref (na 0), .ref (tr 0), .ref (hs.1 0), .ref (tx 0)]))]) ++ (CW cy na v1)) ++ (CW cy tr v1)) ++ (HW cy hs.1 (fun k => some (hs.2 k 0)) 0 ++ (CW cy (hs.2 0) v1 ++ (CW cy (hs.2 1) v1 ++ (CW cy (hs.2 2) v1 ++ (CW cy (hs.2 3) v1 ++ CW cy (hs.2 4) v1)))))) ++ (XW cy (fun _ => 0) tx zV none)) H := hP
  have hD : va_D A ((((([(q, .inr (6, [.ref (na 0), .ref (tr 0), .ref (hs.1 0), .ref (tx 0)]))]) ++ (CW cy na v1)) ++ (CW cy tr v1)) ++ (HW cy hs.1 (fun k => some (hs.2 k 0)) 0 ++ (CW cy (hs.2 0) v1 ++ (CW cy (hs.2 1) v1 ++ (CW cy (hs.2 2) v1 ++ (CW cy (hs.2 3) v1 ++ CW cy (hs.2 4) v1)))))) ++ (XW cy (fun _ => 0) tx zV none)) := hD
  subst hAe
  exact W.vret hx hb hr (fun t9 ht9 hW9 => ⟨⟨(fun _ => q, na, tr, hs, tx), rfl, rfl, fz_to ht9 hP, hD⟩, hS.F ht9⟩) hS.2.2 dX8_init_48
