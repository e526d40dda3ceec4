/-! constructors -/
set_option maxHeartbeats 4000000 in
set_option maxRecDepth 100000 in
/-- a new X6 -/
theorem c_X6_init (l : Launch) (D : va_G) (cy : Nat → ClassId) (q sz : Nat) : fz_NW l yX6_init wsX6_init 1 4 24 20 D cy q 5 [.int 0, .null, .null, .null, .null] sz (fun _ => fz_T) (fun (a : Nat → Nat) => TW cy a zV) (fun a => a 3 = q) := by
  refine Met.ofW (cc := cX6_init) (maxL := 1) (ret := none) (by decide) rfl ?_
  intro p e s m args below meth c s₁ B hml hv
  obtain ⟨rfl, hsz, hP, hK, hD0, hE⟩ := hv
  have hx := B.exec
  have hb := B.bytes
  have hr := B.returns
  have hts := atoms_spec (ws := wsX6_init) B.pre
  have hown : s.vm.findClass RX6 = some m.cls := findClass_of_methodNamed B.named
  have hlocks := B.notSynchronized
  have hin : meth.name = "<init>" := (name_of_methodNamed B.named B.method).1
  subst hsz
  have hD := hD0.self (sz := s.heap.size)
  obtain ⟨A, hAe⟩ : ∃ A : Nat → Prop, A = va_A [(q, .inr (5, [.int 0, .null, .null, .null, .null]))] s.heap.size := ⟨_, rfl⟩
  rw [← hAe] at hD
  have hA : ∀ x : Nat, s.heap.size ≤ x → A x := fun x h => by rw [hAe]; exact Or.inr h
  have hS : va_S A s.heap s.heap [] := va_S.rf
  have hl := lv_entry ([.ref q]) (n := 1) (Nat.le_of_ble_eq_true rfl)
  rw [lg_entry_eq]
  generalize (lg_sl ([.ref q]) ++ List.replicate (1 - (lg_sl ([.ref q])).length) Slot.unset).toArray = ls at hl ⊢
  have hl : lv_has ls 1 [(0, .ref q)] := hl
  have inX6 : ∀ w ∈ u_ws RX6 TX6 5, w ∈ wsX6_init := by decide +kernel
  refine lv_aload_n hx hb dX6_init_0 rfl (lv_at hl 0 rfl) ?_
  refine W.objInit hx hb hown (hts (.methodLink RX6 3 objectInit) (by decide +kernel)) (hts (.instanceMethod objectInit) (by decide +kernel)) (hts (.code objectInit ⟨#[0xb1]⟩ 1 none) (by decide +kernel)) rfl (by rw [hml]; exact hl.1) rfl dX6_init_1 (Nat.le_of_ble_eq_true rfl) (Nat.le_of_ble_eq_true rfl) ?_
  refine W.eq (g2 := F0 m 4 ls []) rfl ?_
  refine lv_aload_n hx hb dX6_init_4 rfl (lv_at hl 0 rfl) ?_
  refine lv_bipush (v := 6) hx hb dX6_init_5 (by decide) ?_
  refine va_newa (atype := .int) (N' := 6) (a0 := (6, .inl (fun _ => 0))) hx hb (hts (.arrayClass .int) (by decide +kernel)) rfl hK hP hD hS hA (fun _ => rfl) (by decide) rfl (Nat.le_of_ble_eq_true rfl) (Nat.le_of_ble_eq_true rfl) (Nat.le_of_ble_eq_true rfl) dX6_init_7 (fun q1 cA H hK2 hP hD hS => ?_)
  obtain rfl := fz_cyE hK2
  have hP : va_P D vwCl [(q, .inr (5, [.int 0, .null, .null, .null, .null])), (q1, .inl (cy 0, 6, .inl (fun _ => 0)))] H := hP
  have hD : va_D A [(q, .inr (5, [.int 0, .null, .null, .null, .null])), (q1, .inl (cy 0, 6, .inl (fun _ => 0)))] := hD
  refine va_putF (D := D) (ci := 5) (v := .ref q1) (ty := tyX6 1) (C := RX6) (T := TX6) (N := 5) hx hb hts inX6 tyX6 tyX6_ok nmX6 hown hK hP hD hS 0 rfl rfl 1 (by decide) (hts (.fieldLink RX6 9 "FreezeCredits$Teams" "free" "[I") (by decide +kernel)) (fun _ h9 => h9) rfl hin rfl (by decide +kernel) rfl rfl (Nat.le_of_ble_eq_true rfl) dX6_init_9 (fun H locs hP hD hS => ?_)
  have hP : va_P D vwCl [(q, .inr (5, [.int 0, .ref q1, .null, .null, .null])), (q1, .inl (cy 0, 6, .inl (fun _ => 0)))] H := hP
  have hD : va_D A [(q, .inr (5, [.int 0, .ref q1, .null, .null, .null])), (q1, .inl (cy 0, 6, .inl (fun _ => 0)))] := hD
  refine lv_aload_n hx hb dX6_init_12 rfl (lv_at hl 0 rfl) ?_
  refine lv_bipush (v := 6) hx hb dX6_init_13 (by decide) ?_
  refine va_newa (atype := .int) (N' := 6) (a0 := (6, .inl (fun _ => 0))) hx hb (hts (.arrayClass .int) (by decide +kernel)) rfl hK hP hD hS hA (fun _ => rfl) (by decide) rfl (Nat.le_of_ble_eq_true rfl) (Nat.le_of_ble_eq_true rfl) (Nat.le_of_ble_eq_true rfl) dX6_init_15 (fun q2 cA H hK2 hP hD hS => ?_)
  obtain rfl := fz_cyE hK2
  have hP : va_P D vwCl [(q, .inr (5, [.int 0, .ref q1, .null, .null, .null])), (q1, .inl (cy 0, 6, .inl (fun _ => 0))), (q2, .inl (cy 0, 6, .inl (fun _ => 0)))] H := hP
  have hD : va_D A [(q, .inr (5, [.int 0, .ref q1, .null, .null, .null])), (q1, .inl (cy 0, 6, .inl (fun _ => 0))), (q2, .inl (cy 0, 6, .inl (fun _ => 0)))] := hD
  refine va_putF (D := D) (ci := 5) (v := .ref q2) (ty := tyX6 2) (C := RX6) (T := TX6) (N := 5) hx hb hts inX6 tyX6 tyX6_ok nmX6 hown hK hP hD hS 0 rfl rfl 2 (by decide) (hts (.fieldLink RX6 15 "FreezeCredits$Teams" "broughtIn" "[I") (by decide +kernel)) (fun _ h9 => h9) rfl hin rfl (by decide +kernel) rfl rfl (Nat.le_of_ble_eq_true rfl) dX6_init_17 (fun H locs hP hD hS => ?_)
  have hP : va_P D vwCl [(q, .inr (5, [.int 0, .ref q1, .ref q2, .null, .null])), (q1, .inl (cy 0, 6, .inl (fun _ => 0))), (q2, .inl (cy 0, 6, .inl (fun _ => 0)))] H := hP
  have hD : va_D A [(q, .inr (5, [.int 0, .ref q1, .ref q2, .null, .null])), (q1, .inl (cy 0, 6, .inl (fun _ => 0))), (q2, .inl (cy 0, 6, .inl (fun _ => 0)))] := hD
  refine lv_aload_n hx hb dX6_init_20 rfl (lv_at hl 0 rfl) ?_
  refine lv_bipush (v := 6) hx hb dX6_init_21 (by decide) ?_
  refine va_newa (atype := .int) (N' := 6) (a0 := (6, .inl (fun _ => 0))) hx hb (hts (.arrayClass .int) (by decide +kernel)) rfl hK hP hD hS hA (fun _ => rfl) (by decide) rfl (Nat.le_of_ble_eq_true rfl) (Nat.le_of_ble_eq_true rfl) (Nat.le_of_ble_eq_true rfl) dX6_init_23 (fun q3 cA H hK2 hP hD hS => ?_)
  obtain rfl := fz_cyE hK2
  have hP : va_P D vwCl [(q, .inr (5, [.int 0, .ref q1, .ref q2, .null, .null])), (q1, .inl (cy 0, 6, .inl (fun _ => 0))), (q2, .inl (cy 0, 6, .inl (fun _ => 0))), (q3, .inl (cy 0, 6, .inl (fun _ => 0)))] H := hP
  have hD : va_D A [(q, .inr (5, [.int 0, .ref q1, .ref q2, .null, .null])), (q1, .inl (cy 0, 6, .inl (fun _ => 0))), (q2, .inl (cy 0, 6, .inl (fun _ => 0))), (q3, .inl (cy 0, 6, .inl (fun _ => 0)))] := hD
  refine va_putF (D := D) (ci := 5) (v := .ref q3) (ty := tyX6 3) (C := RX6) (T := TX6) (N := 5) hx hb hts inX6 tyX6 tyX6_ok nmX6 hown hK hP hD hS 0 rfl rfl 3 (by decide) (hts (.fieldLink RX6 18 "FreezeCredits$Teams" "earned" "[I") (by decide +kernel)) (fun _ h9 => h9) rfl hin rfl (by decide +kernel) rfl rfl (Nat.le_of_ble_eq_true rfl) dX6_init_25 (fun H locs hP hD hS => ?_)
  have hP : va_P D vwCl [(q, .inr (5, [.int 0, .ref q1, .ref q2, .ref q3, .null])), (q1, .inl (cy 0, 6, .inl (fun _ => 0))), (q2, .inl (cy 0, 6, .inl (fun _ => 0))), (q3, .inl (cy 0, 6, .inl (fun _ => 0)))] H := hP
  have hD : va_D A [(q, .inr (5, [.int 0, .ref q1, .ref q2, .ref q3, .null])), (q1, .inl (cy 0, 6, .inl (fun _ => 0))), (q2, .inl (cy 0, 6, .inl (fun _ => 0))), (q3, .inl (cy 0, 6, .inl (fun _ => 0)))] := hD
  refine lv_aload_n hx hb dX6_init_28 rfl (lv_at hl 0 rfl) ?_
  refine lv_bipush (v := 6) hx hb dX6_init_29 (by decide) ?_
  refine va_newa (atype := .int) (N' := 6) (a0 := (6, .inl (fun _ => 0))) hx hb (hts (.arrayClass .int) (by decide +kernel)) rfl hK hP hD hS hA (fun _ => rfl) (by decide) rfl (Nat.le_of_ble_eq_true rfl) (Nat.le_of_ble_eq_true rfl) (Nat.le_of_ble_eq_true rfl) dX6_init_31 (fun q4 cA H hK2 hP hD hS => ?_)
  obtain rfl := fz_cyE hK2
  have hP : va_P D vwCl [(q, .inr (5, [.int 0, .ref q1, .ref q2, .ref q3, .null])), (q1, .inl (cy 0, 6, .inl (fun _ => 0))), (q2, .inl (cy 0, 6, .inl (fun _ => 0))), (q3, .inl (cy 0, 6, .inl (fun _ => 0))), (q4, .inl (cy 0, 6, .inl (fun _ => 0)))] H := hP
  have hD : va_D A [(q, .inr (5, [.int 0, .ref q1, .ref q2, .ref q3, .null])), (q1, .inl (cy 0, 6, .inl (fun _ => 0))), (q2, .inl (cy 0, 6, .inl (fun _ => 0))), (q3, .inl (cy 0, 6, .inl (fun _ => 0))), (q4, .inl (cy 0, 6, .inl (fun _ => 0)))] := hD
  refine va_putF (D := D) (ci := 5) (v := .ref q4) (ty := tyX6 4) (C := RX6) (T := TX6) (N := 5) hx hb hts inX6 tyX6 tyX6_ok nmX6 hown hK hP hD hS 0 rfl rfl 4 (by decide) (hts (.fieldLink RX6 21 "FreezeCredits$Teams" "burnt" "[I") (by decide +kernel)) (fun _ h9 => h9) rfl hin rfl (by decide +kernel) rfl rfl (Nat.le_of_ble_eq_true rfl) dX6_init_33 (fun H locs hP hD hS => ?_)
  have hP : va_P D vwCl [(q, .inr (5, [.int 0, .ref q1, .ref q2, .ref q3, .ref q4])), (q1, .inl (cy 0, 6, .inl (fun _ => 0))), (q2, .inl (cy 0, 6, .inl (fun _ => 0))), (q3, .inl (cy 0, 6, .inl (fun _ => 0))), (q4, .inl (cy 0, 6, .inl (fun _ => 0)))] H := hP
  have hD : va_D A [(q, .inr (5, [.int 0, .ref q1, .ref q2, .ref q3, .ref q4])), (q1, .inl (cy 0, 6, .inl (fun _ => 0))), (q2, .inl (cy 0, 6, .inl (fun _ => 0))), (q3, .inl (cy 0, 6, .inl (fun _ => 0))), (q4, .inl (cy 0, 6, .inl (fun _ => 0)))] := hD
  subst hAe
  exact W.vret hx hb hr (fun t9 ht9 hW9 => ⟨⟨(fun i => [q, q1, q2, q3, q4].getD (i - 3) 0), rfl, rfl, fz_to ht9 hP, hD⟩, hS.F ht9⟩) hS.2.2 dX6_init_36
set_option maxHeartbeats 4000000 in
set_option maxRecDepth 100000 in
/-- a new X2 -/
theorem c_X2_init (l : Launch) (D : va_G) (cy : Nat → ClassId) (q sz : Nat) : fz_NW l yX2_init wsX2_init 1 8 240 20 D cy q 1 [.int 0, .null, .null, .null, .null, .null, .null, .null, .int 0, .null] sz (fun _ => fz_T) (fun (a : Nat → Nat) => GW cy a zV) (fun a => a 8 = q) := by
  refine Met.ofW (cc := cX2_init) (maxL := 1) (ret := none) (by decide) rfl ?_
  intro p e s m args below meth c s₁ B hml hv
  obtain ⟨rfl, hsz, hP, hK, hD0, hE⟩ := hv
  have hx := B.exec
  have hb := B.bytes
  have hr := B.returns
  have hts := atoms_spec (ws := wsX2_init) B.pre
  have hown : s.vm.findClass RX2 = some m.cls := findClass_of_methodNamed B.named
  have hlocks := B.notSynchronized
  have hin : meth.name = "<init>" := (name_of_methodNamed B.named B.method).1
  subst hsz
  have hD := hD0.self (sz := s.heap.size)
  obtain ⟨A, hAe⟩ : ∃ A : Nat → Prop, A = va_A [(q, .inr (1, [.int 0, .null, .null, .null, .null, .null, .null, .null, .int 0, .null]))] s.heap.size := ⟨_, rfl⟩
  rw [← hAe] at hD
  have hA : ∀ x : Nat, s.heap.size ≤ x → A x := fun x h => by rw [hAe]; exact Or.inr h
  have hS : va_S A s.heap s.heap [] := va_S.rf
  have hl := lv_entry ([.ref q]) (n := 1) (Nat.le_of_ble_eq_true rfl)
  rw [lg_entry_eq]
  generalize (lg_sl ([.ref q]) ++ List.replicate (1 - (lg_sl ([.ref q])).length) Slot.unset).toArray = ls at hl ⊢
  have hl : lv_has ls 1 [(0, .ref q)] := hl
  have inX2 : ∀ w ∈ u_ws RX2 TX2 10, w ∈ wsX2_init := by decide +kernel
  refine lv_aload_n hx hb dX2_init_0 rfl (lv_at hl 0 rfl) ?_
  refine W.objInit hx hb hown (hts (.methodLink RX2 3 objectInit) (by decide +kernel)) (hts (.instanceMethod objectInit) (by decide +kernel)) (hts (.code objectInit ⟨#[0xb1]⟩ 1 none) (by decide +kernel)) rfl (by rw [hml]; exact hl.1) rfl dX2_init_1 (Nat.le_of_ble_eq_true rfl) (Nat.le_of_ble_eq_true rfl) ?_
  refine W.eq (g2 := F0 m 4 ls []) rfl ?_
  refine lv_aload_n hx hb dX2_init_4 rfl (lv_at hl 0 rfl) ?_
  refine lv_bipush (v := 30) hx hb dX2_init_5 (by decide) ?_
  refine va_newa (atype := .int) (N' := 30) (a0 := (30, .inl (fun _ => 0))) hx hb (hts (.arrayClass .int) (by decide +kernel)) rfl hK hP hD hS hA (fun _ => rfl) (by decide) rfl (Nat.le_of_ble_eq_true rfl) (Nat.le_of_ble_eq_true rfl) (Nat.le_of_ble_eq_true rfl) dX2_init_7 (fun q1 cA H hK2 hP hD hS => ?_)
  obtain rfl := fz_cyE hK2
  have hP : va_P D vwCl [(q, .inr (1, [.int 0, .null, .null, .null, .null, .null, .null, .null, .int 0, .null])), (q1, .inl (cy 0, 30, .inl (fun _ => 0)))] H := hP
  have hD : va_D A [(q, .inr (1, [.int 0, .null, .null, .null, .null, .null, .null, .null, .int 0, .null])), (q1, .inl (cy 0, 30, .inl (fun _ => 0)))] := hD
  refine va_putF (D := D) (ci := 1) (v := .ref q1) (ty := tyX2 1) (C := RX2) (T := TX2) (N := 10) hx hb hts inX2 tyX2 tyX2_ok nmX2 hown hK hP hD hS 0 rfl rfl 1 (by decide) (hts (.fieldLink RX2 9 "FreezeCredits$Changes" "team" "[I") (by decide +kernel)) (fun _ h9 => h9) rfl hin rfl (by decide +kernel) rfl rfl (Nat.le_of_ble_eq_true rfl) dX2_init_9 (fun H locs hP hD hS => ?_)
  have hP : va_P D vwCl [(q, .inr (1, [.int 0, .ref q1, .null, .null, .null, .null, .null, .null, .int 0, .null])), (q1, .inl (cy 0, 30, .inl (fun _ => 0)))] H := hP
  have hD : va_D A [(q, .inr (1, [.int 0, .ref q1, .null, .null, .null, .null, .null, .null, .int 0, .null])), (q1, .inl (cy 0, 30, .inl (fun _ => 0)))] := hD
  refine lv_aload_n hx hb dX2_init_12 rfl (lv_at hl 0 rfl) ?_
  refine lv_bipush (v := 30) hx hb dX2_init_13 (by decide) ?_
  refine va_newa (atype := .int) (N' := 30) (a0 := (30, .inl (fun _ => 0))) hx hb (hts (.arrayClass .int) (by decide +kernel)) rfl hK hP hD hS hA (fun _ => rfl) (by decide) rfl (Nat.le_of_ble_eq_true rfl) (Nat.le_of_ble_eq_true rfl) (Nat.le_of_ble_eq_true rfl) dX2_init_15 (fun q2 cA H hK2 hP hD hS => ?_)
  obtain rfl := fz_cyE hK2
  have hP : va_P D vwCl [(q, .inr (1, [.int 0, .ref q1, .null, .null, .null, .null, .null, .null, .int 0, .null])), (q1, .inl (cy 0, 30, .inl (fun _ => 0))), (q2, .inl (cy 0, 30, .inl (fun _ => 0)))] H := hP
  have hD : va_D A [(q, .inr (1, [.int 0, .ref q1, .null, .null, .null, .null, .null, .null, .int 0, .null])), (q1, .inl (cy 0, 30, .inl (fun _ => 0))), (q2, .inl (cy 0, 30, .inl (fun _ => 0)))] := hD
  refine va_putF (D := D) (ci := 1) (v := .ref q2) (ty := tyX2 2) (C := RX2) (T := TX2) (N := 10) hx hb hts inX2 tyX2 tyX2_ok nmX2 hown hK hP hD hS 0 rfl rfl 2 (by decide) (hts (.fieldLink RX2 15 "FreezeCredits$Changes" "risk" "[I") (by decide +kernel)) (fun _ h9 => h9) rfl hin rfl (by decide +kernel) rfl rfl (Nat.le_of_ble_eq_true rfl) dX2_init_17 (fun H locs hP hD hS => ?_)
  have hP : va_P D vwCl [(q, .inr (1, [.int 0, .ref q1, .ref q2, .null, .null, .null, .null, .null, .int 0, .null])), (q1, .inl (cy 0, 30, .inl (fun _ => 0))), (q2, .inl (cy 0, 30, .inl (fun _ => 0)))] H := hP
  have hD : va_D A [(q, .inr (1, [.int 0, .ref q1, .ref q2, .null, .null, .null, .null, .null, .int 0, .null])), (q1, .inl (cy 0, 30, .inl (fun _ => 0))), (q2, .inl (cy 0, 30, .inl (fun _ => 0)))] := hD
  refine lv_aload_n hx hb dX2_init_20 rfl (lv_at hl 0 rfl) ?_
  refine lv_bipush (v := 30) hx hb dX2_init_21 (by decide) ?_
  refine va_newa (atype := .int) (N' := 30) (a0 := (30, .inl (fun _ => 0))) hx hb (hts (.arrayClass .int) (by decide +kernel)) rfl hK hP hD hS hA (fun _ => rfl) (by decide) rfl (Nat.le_of_ble_eq_true rfl) (Nat.le_of_ble_eq_true rfl) (Nat.le_of_ble_eq_true rfl) dX2_init_23 (fun q3 cA H hK2 hP hD hS => ?_)
  obtain rfl := fz_cyE hK2
  have hP : va_P D vwCl [(q, .inr (1, [.int 0, .ref q1, .ref q2, .null, .null, .null, .null, .null, .int 0, .null])), (q1, .inl (cy 0, 30, .inl (fun _ => 0))), (q2, .inl (cy 0, 30, .inl (fun _ => 0))), (q3, .inl (cy 0, 30, .inl (fun _ => 0)))] H := hP
  have hD : va_D A [(q, .inr (1, [.int 0, .ref q1, .ref q2, .null, .null, .null, .null, .null, .int 0, .null])), (q1, .inl (cy 0, 30, .inl (fun _ => 0))), (q2, .inl (cy 0, 30, .inl (fun _ => 0))), (q3, .inl (cy 0, 30, .inl (fun _ => 0)))] := hD
  refine va_putF (D := D) (ci := 1) (v := .ref q3) (ty := tyX2 3) (C := RX2) (T := TX2) (N := 10) hx hb hts inX2 tyX2 tyX2_ok nmX2 hown hK hP hD hS 0 rfl rfl 3 (by decide) (hts (.fieldLink RX2 18 "FreezeCredits$Changes" "state" "[I") (by decide +kernel)) (fun _ h9 => h9) rfl hin rfl (by decide +kernel) rfl rfl (Nat.le_of_ble_eq_true rfl) dX2_init_25 (fun H locs hP hD hS => ?_)
  have hP : va_P D vwCl [(q, .inr (1, [.int 0, .ref q1, .ref q2, .ref q3, .null, .null, .null, .null, .int 0, .null])), (q1, .inl (cy 0, 30, .inl (fun _ => 0))), (q2, .inl (cy 0, 30, .inl (fun _ => 0))), (q3, .inl (cy 0, 30, .inl (fun _ => 0)))] H := hP
  have hD : va_D A [(q, .inr (1, [.int 0, .ref q1, .ref q2, .ref q3, .null, .null, .null, .null, .int 0, .null])), (q1, .inl (cy 0, 30, .inl (fun _ => 0))), (q2, .inl (cy 0, 30, .inl (fun _ => 0))), (q3, .inl (cy 0, 30, .inl (fun _ => 0)))] := hD
  refine lv_aload_n hx hb dX2_init_28 rfl (lv_at hl 0 rfl) ?_
  refine lv_bipush (v := 30) hx hb dX2_init_29 (by decide) ?_
  refine va_newa (atype := .int) (N' := 30) (a0 := (30, .inl (fun _ => 0))) hx hb (hts (.arrayClass .int) (by decide +kernel)) rfl hK hP hD hS hA (fun _ => rfl) (by decide) rfl (Nat.le_of_ble_eq_true rfl) (Nat.le_of_ble_eq_true rfl) (Nat.le_of_ble_eq_true rfl) dX2_init_31 (fun q4 cA H hK2 hP hD hS => ?_)
  obtain rfl := fz_cyE hK2
  have hP : va_P D vwCl [(q, .inr (1, [.int 0, .ref q1, .ref q2, .ref q3, .null, .null, .null, .null, .int 0, .null])), (q1, .inl (cy 0, 30, .inl (fun _ => 0))), (q2, .inl (cy 0, 30, .inl (fun _ => 0))), (q3, .inl (cy 0, 30, .inl (fun _ => 0))), (q4, .inl (cy 0, 30, .inl (fun _ => 0)))] H := hP
  have hD : va_D A [(q, .inr (1, [.int 0, .ref q1, .ref q2, .ref q3, .null, .null, .null, .null, .int 0, .null])), (q1, .inl (cy 0, 30, .inl (fun _ => 0))), (q2, .inl (cy 0, 30, .inl (fun _ => 0))), (q3, .inl (cy 0, 30, .inl (fun _ => 0))), (q4, .inl (cy 0, 30, .inl (fun _ => 0)))] := hD
  refine va_putF (D := D) (ci := 1) (v := .ref q4) (ty := tyX2 4) (C := RX2) (T := TX2) (N := 10) hx hb hts inX2 tyX2 tyX2_ok nmX2 hown hK hP hD hS 0 rfl rfl 4 (by decide) (hts (.fieldLink RX2 21 "FreezeCredits$Changes" "held" "[I") (by decide +kernel)) (fun _ h9 => h9) rfl hin rfl (by decide +kernel) rfl rfl (Nat.le_of_ble_eq_true rfl) dX2_init_33 (fun H locs hP hD hS => ?_)
  have hP : va_P D vwCl [(q, .inr (1, [.int 0, .ref q1, .ref q2, .ref q3, .ref q4, .null, .null, .null, .int 0, .null])), (q1, .inl (cy 0, 30, .inl (fun _ => 0))), (q2, .inl (cy 0, 30, .inl (fun _ => 0))), (q3, .inl (cy 0, 30, .inl (fun _ => 0))), (q4, .inl (cy 0, 30, .inl (fun _ => 0)))] H := hP
  have hD : va_D A [(q, .inr (1, [.int 0, .ref q1, .ref q2, .ref q3, .ref q4, .null, .null, .null, .int 0, .null])), (q1, .inl (cy 0, 30, .inl (fun _ => 0))), (q2, .inl (cy 0, 30, .inl (fun _ => 0))), (q3, .inl (cy 0, 30, .inl (fun _ => 0))), (q4, .inl (cy 0, 30, .inl (fun _ => 0)))] := hD
  refine lv_aload_n hx hb dX2_init_36 rfl (lv_at hl 0 rfl) ?_
  refine lv_bipush (v := 30) hx hb dX2_init_37 (by decide) ?_
  refine va_newa (atype := .int) (N' := 30) (a0 := (30, .inl (fun _ => 0))) hx hb (hts (.arrayClass .int) (by decide +kernel)) rfl hK hP hD hS hA (fun _ => rfl) (by decide) rfl (Nat.le_of_ble_eq_true rfl) (Nat.le_of_ble_eq_true rfl) (Nat.le_of_ble_eq_true rfl) dX2_init_39 (fun q5 cA H hK2 hP hD hS => ?_)
  obtain rfl := fz_cyE hK2
  have hP : va_P D vwCl [(q, .inr (1, [.int 0, .ref q1, .ref q2, .ref q3, .ref q4, .null, .null, .null, .int 0, .null])), (q1, .inl (cy 0, 30, .inl (fun _ => 0))), (q2, .inl (cy 0, 30, .inl (fun _ => 0))), (q3, .inl (cy 0, 30, .inl (fun _ => 0))), (q4, .inl (cy 0, 30, .inl (fun _ => 0))), (q5, .inl (cy 0, 30, .inl (fun _ => 0)))] H := hP
  have hD : va_D A [(q, .inr (1, [.int 0, .ref q1, .ref q2, .ref q3, .ref q4, .null, .null, .null, .int 0, .null])), (q1, .inl (cy 0, 30, .inl (fun _ => 0))), (q2, .inl (cy 0, 30, .inl (fun _ => 0))), (q3, .inl (cy 0, 30, .inl (fun _ => 0))), (q4, .inl (cy 0, 30, .inl (fun _ => 0))), (q5, .inl (cy 0, 30, .inl (fun _ => 0)))] := hD
  refine va_putF (D := D) (ci := 1) (v := .ref q5) (ty := tyX2 5) (C := RX2) (T := TX2) (N := 10) hx hb hts inX2 tyX2 tyX2_ok nmX2 hown hK hP hD hS 0 rfl rfl 5 (by decide) (hts (.fieldLink RX2 24 "FreezeCredits$Changes" "askedIn" "[I") (by decide +kernel)) (fun _ h9 => h9) rfl hin rfl (by decide +kernel) rfl rfl (Nat.le_of_ble_eq_true rfl) dX2_init_41 (fun H locs hP hD hS => ?_)
  have hP : va_P D vwCl [(q, .inr (1, [.int 0, .ref q1, .ref q2, .ref q3, .ref q4, .ref q5, .null, .null, .int 0, .null])), (q1, .inl (cy 0, 30, .inl (fun _ => 0))), (q2, .inl (cy 0, 30, .inl (fun _ => 0))), (q3, .inl (cy 0, 30, .inl (fun _ => 0))), (q4, .inl (cy 0, 30, .inl (fun _ => 0))), (q5, .inl (cy 0, 30, .inl (fun _ => 0)))] H := hP
  have hD : va_D A [(q, .inr (1, [.int 0, .ref q1, .ref q2, .ref q3, .ref q4, .ref q5, .null, .null, .int 0, .null])), (q1, .inl (cy 0, 30, .inl (fun _ => 0))), (q2, .inl (cy 0, 30, .inl (fun _ => 0))), (q3, .inl (cy 0, 30, .inl (fun _ => 0))), (q4, .inl (cy 0, 30, .inl (fun _ => 0))), (q5, .inl (cy 0, 30, .inl (fun _ => 0)))] := hD
  refine lv_aload_n hx hb dX2_init_44 rfl (lv_at hl 0 rfl) ?_
  refine lv_bipush (v := 30) hx hb dX2_init_45 (by decide) ?_
  refine va_newa (atype := .int) (N' := 30) (a0 := (30, .inl (fun _ => 0))) hx hb (hts (.arrayClass .int) (by decide +kernel)) rfl hK hP hD hS hA (fun _ => rfl) (by decide) rfl (Nat.le_of_ble_eq_true rfl) (Nat.le_of_ble_eq_true rfl) (Nat.le_of_ble_eq_true rfl) dX2_init_47 (fun q6 cA H hK2 hP hD hS => ?_)
  obtain rfl := fz_cyE hK2
  have hP : va_P D vwCl [(q, .inr (1, [.int 0, .ref q1, .ref q2, .ref q3, .ref q4, .ref q5, .null, .null, .int 0, .null])), (q1, .inl (cy 0, 30, .inl (fun _ => 0))), (q2, .inl (cy 0, 30, .inl (fun _ => 0))), (q3, .inl (cy 0, 30, .inl (fun _ => 0))), (q4, .inl (cy 0, 30, .inl (fun _ => 0))), (q5, .inl (cy 0, 30, .inl (fun _ => 0))), (q6, .inl (cy 0, 30, .inl (fun _ => 0)))] H := hP
  have hD : va_D A [(q, .inr (1, [.int 0, .ref q1, .ref q2, .ref q3, .ref q4, .ref q5, .null, .null, .int 0, .null])), (q1, .inl (cy 0, 30, .inl (fun _ => 0))), (q2, .inl (cy 0, 30, .inl (fun _ => 0))), (q3, .inl (cy 0, 30, .inl (fun _ => 0))), (q4, .inl (cy 0, 30, .inl (fun _ => 0))), (q5, .inl (cy 0, 30, .inl (fun _ => 0))), (q6, .inl (cy 0, 30, .inl (fun _ => 0)))] := hD
  refine va_putF (D := D) (ci := 1) (v := .ref q6) (ty := tyX2 6) (C := RX2) (T := TX2) (N := 10) hx hb hts inX2 tyX2 tyX2_ok nmX2 hown hK hP hD hS 0 rfl rfl 6 (by decide) (hts (.fieldLink RX2 27 "FreezeCredits$Changes" "madeIn" "[I") (by decide +kernel)) (fun _ h9 => h9) rfl hin rfl (by decide +kernel) rfl rfl (Nat.le_of_ble_eq_true rfl) dX2_init_49 (fun H locs hP hD hS => ?_)
  have hP : va_P D vwCl [(q, .inr (1, [.int 0, .ref q1, .ref q2, .ref q3, .ref q4, .ref q5, .ref q6, .null, .int 0, .null])), (q1, .inl (cy 0, 30, .inl (fun _ => 0))), (q2, .inl (cy 0, 30, .inl (fun _ => 0))), (q3, .inl (cy 0, 30, .inl (fun _ => 0))), (q4, .inl (cy 0, 30, .inl (fun _ => 0))), (q5, .inl (cy 0, 30, .inl (fun _ => 0))), (q6, .inl (cy 0, 30, .inl (fun _ => 0)))] H := hP
  have hD : va_D A [(q, .inr (1, [.int 0, .ref q1, .ref q2, .ref q3, .ref q4, .ref q5, .ref q6, .null, .int 0, .null])), (q1, .inl (cy 0, 30, .inl (fun _ => 0))), (q2, .inl (cy 0, 30, .inl (fun _ => 0))), (q3, .inl (cy 0, 30, .inl (fun _ => 0))), (q4, .inl (cy 0, 30, .inl (fun _ => 0))), (q5, .inl (cy 0, 30, .inl (fun _ => 0))), (q6, .inl (cy 0, 30, .inl (fun _ => 0)))] := hD
  refine lv_aload_n hx hb dX2_init_52 rfl (lv_at hl 0 rfl) ?_
  refine lv_bipush (v := 30) hx hb dX2_init_53 (by decide) ?_
  refine va_newa (atype := .int) (N' := 30) (a0 := (30, .inl (fun _ => 0))) hx hb (hts (.arrayClass .int) (by decide +kernel)) rfl hK hP hD hS hA (fun _ => rfl) (by decide) rfl (Nat.le_of_ble_eq_true rfl) (Nat.le_of_ble_eq_true rfl) (Nat.le_of_ble_eq_true rfl) dX2_init_55 (fun q7 cA H hK2 hP hD hS => ?_)
  obtain rfl := fz_cyE hK2
  have hP : va_P D vwCl [(q, .inr (1, [.int 0, .ref q1, .ref q2, .ref q3, .ref q4, .ref q5, .ref q6, .null, .int 0, .null])), (q1, .inl (cy 0, 30, .inl (fun _ => 0))), (q2, .inl (cy 0, 30, .inl (fun _ => 0))), (q3, .inl (cy 0, 30, .inl (fun _ => 0))), (q4, .inl (cy 0, 30, .inl (fun _ => 0))), (q5, .inl (cy 0, 30, .inl (fun _ => 0))), (q6, .inl (cy 0, 30, .inl (fun _ => 0))), (q7, .inl (cy 0, 30, .inl (fun _ => 0)))] H := hP
  have hD : va_D A [(q, .inr (1, [.int 0, .ref q1, .ref q2, .ref q3, .ref q4, .ref q5, .ref q6, .null, .int 0, .null])), (q1, .inl (cy 0, 30, .inl (fun _ => 0))), (q2, .inl (cy 0, 30, .inl (fun _ => 0))), (q3, .inl (cy 0, 30, .inl (fun _ => 0))), (q4, .inl (cy 0, 30, .inl (fun _ => 0))), (q5, .inl (cy 0, 30, .inl (fun _ => 0))), (q6, .inl (cy 0, 30, .inl (fun _ => 0))), (q7, .inl (cy 0, 30, .inl (fun _ => 0)))] := hD
  refine va_putF (D := D) (ci := 1) (v := .ref q7) (ty := tyX2 7) (C := RX2) (T := TX2) (N := 10) hx hb hts inX2 tyX2 tyX2_ok nmX2 hown hK hP hD hS 0 rfl rfl 7 (by decide) (hts (.fieldLink RX2 30 "FreezeCredits$Changes" "madeExempt" "[I") (by decide +kernel)) (fun _ h9 => h9) rfl hin rfl (by decide +kernel) rfl rfl (Nat.le_of_ble_eq_true rfl) dX2_init_57 (fun H locs hP hD hS => ?_)
  have hP : va_P D vwCl [(q, .inr (1, [.int 0, .ref q1, .ref q2, .ref q3, .ref q4, .ref q5, .ref q6, .ref q7, .int 0, .null])), (q1, .inl (cy 0, 30, .inl (fun _ => 0))), (q2, .inl (cy 0, 30, .inl (fun _ => 0))), (q3, .inl (cy 0, 30, .inl (fun _ => 0))), (q4, .inl (cy 0, 30, .inl (fun _ => 0))), (q5, .inl (cy 0, 30, .inl (fun _ => 0))), (q6, .inl (cy 0, 30, .inl (fun _ => 0))), (q7, .inl (cy 0, 30, .inl (fun _ => 0)))] H := hP
  have hD : va_D A [(q, .inr (1, [.int 0, .ref q1, .ref q2, .ref q3, .ref q4, .ref q5, .ref q6, .ref q7, .int 0, .null])), (q1, .inl (cy 0, 30, .inl (fun _ => 0))), (q2, .inl (cy 0, 30, .inl (fun _ => 0))), (q3, .inl (cy 0, 30, .inl (fun _ => 0))), (q4, .inl (cy 0, 30, .inl (fun _ => 0))), (q5, .inl (cy 0, 30, .inl (fun _ => 0))), (q6, .inl (cy 0, 30, .inl (fun _ => 0))), (q7, .inl (cy 0, 30, .inl (fun _ => 0)))] := hD
  refine lv_aload_n hx hb dX2_init_60 rfl (lv_at hl 0 rfl) ?_
  refine lv_bipush (v := 30) hx hb dX2_init_61 (by decide) ?_
  refine va_newa (atype := .int) (N' := 30) (a0 := (30, .inl (fun _ => 0))) hx hb (hts (.arrayClass .int) (by decide +kernel)) rfl hK hP hD hS hA (fun _ => rfl) (by decide) rfl (Nat.le_of_ble_eq_true rfl) (Nat.le_of_ble_eq_true rfl) (Nat.le_of_ble_eq_true rfl) dX2_init_63 (fun q8 cA H hK2 hP hD hS => ?_)
  obtain rfl := fz_cyE hK2
  have hP : va_P D vwCl [(q, .inr (1, [.int 0, .ref q1, .ref q2, .ref q3, .ref q4, .ref q5, .ref q6, .ref q7, .int 0, .null])), (q1, .inl (cy 0, 30, .inl (fun _ => 0))), (q2, .inl (cy 0, 30, .inl (fun _ => 0))), (q3, .inl (cy 0, 30, .inl (fun _ => 0))), (q4, .inl (cy 0, 30, .inl (fun _ => 0))), (q5, .inl (cy 0, 30, .inl (fun _ => 0))), (q6, .inl (cy 0, 30, .inl (fun _ => 0))), (q7, .inl (cy 0, 30, .inl (fun _ => 0))), (q8, .inl (cy 0, 30, .inl (fun _ => 0)))] H := hP
  have hD : va_D A [(q, .inr (1, [.int 0, .ref q1, .ref q2, .ref q3, .ref q4, .ref q5, .ref q6, .ref q7, .int 0, .null])), (q1, .inl (cy 0, 30, .inl (fun _ => 0))), (q2, .inl (cy 0, 30, .inl (fun _ => 0))), (q3, .inl (cy 0, 30, .inl (fun _ => 0))), (q4, .inl (cy 0, 30, .inl (fun _ => 0))), (q5, .inl (cy 0, 30, .inl (fun _ => 0))), (q6, .inl (cy 0, 30, .inl (fun _ => 0))), (q7, .inl (cy 0, 30, .inl (fun _ => 0))), (q8, .inl (cy 0, 30, .inl (fun _ => 0)))] := hD
  refine va_putF (D := D) (ci := 1) (v := .ref q8) (ty := tyX2 9) (C := RX2) (T := TX2) (N := 10) hx hb hts inX2 tyX2 tyX2_ok nmX2 hown hK hP hD hS 0 rfl rfl 9 (by decide) (hts (.fieldLink RX2 33 "FreezeCredits$Changes" "queue" "[I") (by decide +kernel)) (fun _ h9 => h9) rfl hin rfl (by decide +kernel) rfl rfl (Nat.le_of_ble_eq_true rfl) dX2_init_65 (fun H locs hP hD hS => ?_)
  have hP : va_P D vwCl [(q, .inr (1, [.int 0, .ref q1, .ref q2, .ref q3, .ref q4, .ref q5, .ref q6, .ref q7, .int 0, .ref q8])), (q1, .inl (cy 0, 30, .inl (fun _ => 0))), (q2, .inl (cy 0, 30, .inl (fun _ => 0))), (q3, .inl (cy 0, 30, .inl (fun _ => 0))), (q4, .inl (cy 0, 30, .inl (fun _ => 0))), (q5, .inl (cy 0, 30, .inl (fun _ => 0))), (q6, .inl (cy 0, 30, .inl (fun _ => 0))), (q7, .inl (cy 0, 30, .inl (fun _ => 0))), (q8, .inl (cy 0, 30, .inl (fun _ => 0)))] H := hP
  have hD : va_D A [(q, .inr (1, [.int 0, .ref q1, .ref q2, .ref q3, .ref q4, .ref q5, .ref q6, .ref q7, .int 0, .ref q8])), (q1, .inl (cy 0, 30, .inl (fun _ => 0))), (q2, .inl (cy 0, 30, .inl (fun _ => 0))), (q3, .inl (cy 0, 30, .inl (fun _ => 0))), (q4, .inl (cy 0, 30, .inl (fun _ => 0))), (q5, .inl (cy 0, 30, .inl (fun _ => 0))), (q6, .inl (cy 0, 30, .inl (fun _ => 0))), (q7, .inl (cy 0, 30, .inl (fun _ => 0))), (q8, .inl (cy 0, 30, .inl (fun _ => 0)))] := hD
  subst hAe
  exact W.vret hx hb hr (fun t9 ht9 hW9 => ⟨⟨(fun i => [q, q1, q2, q3, q4, q5, q6, q7, q8].getD (i - 8) 0), rfl, rfl, fz_to ht9 hP, hD⟩, hS.F ht9⟩) hS.2.2 dX2_init_68
set_option maxHeartbeats 4000000 in
set_option maxRecDepth 100000 in
/-- a new X5 -/
theorem c_X5_init (l : Launch) (D : va_G) (cy : Nat → ClassId) (q sz : Nat) : fz_NW l yX5_init wsX5_init 1 6 72 20 D cy q 4 [.int 0, .null, .null, .null, .null, .null, .null] sz (fun _ => fz_T) (fun (a : Nat → Nat) => LW cy a zV) (fun a => a 17 = q) := by
  refine Met.ofW (cc := cX5_init) (maxL := 1) (ret := none) (by decide) rfl ?_
  intro p e s m args below meth c s₁ B hml hv
  obtain ⟨rfl, hsz, hP, hK, hD0, hE⟩ := hv
  have hx := B.exec
  have hb := B.bytes
  have hr := B.returns
  have hts := atoms_spec (ws := wsX5_init) B.pre
  have hown : s.vm.findClass RX5 = some m.cls := findClass_of_methodNamed B.named
  have hlocks := B.notSynchronized
  have hin : meth.name = "<init>" := (name_of_methodNamed B.named B.method).1
  subst hsz
  have hD := hD0.self (sz := s.heap.size)
  obtain ⟨A, hAe⟩ : ∃ A : Nat → Prop, A = va_A [(q, .inr (4, [.int 0, .null, .null, .null, .null, .null, .null]))] s.heap.size := ⟨_, rfl⟩
  rw [← hAe] at hD
  have hA : ∀ x : Nat, s.heap.size ≤ x → A x := fun x h => by rw [hAe]; exact Or.inr h
  have hS : va_S A s.heap s.heap [] := va_S.rf
  have hl := lv_entry ([.ref q]) (n := 1) (Nat.le_of_ble_eq_true rfl)
  rw [lg_entry_eq]
  generalize (lg_sl ([.ref q]) ++ List.replicate (1 - (lg_sl ([.ref q])).length) Slot.unset).toArray = ls at hl ⊢
  have hl : lv_has ls 1 [(0, .ref q)] := hl
  have inX5 : ∀ w ∈ u_ws RX5 TX5 7, w ∈ wsX5_init := by decide +kernel
  refine lv_aload_n hx hb dX5_init_0 rfl (lv_at hl 0 rfl) ?_
  refine W.objInit hx hb hown (hts (.methodLink RX5 3 objectInit) (by decide +kernel)) (hts (.instanceMethod objectInit) (by decide +kernel)) (hts (.code objectInit ⟨#[0xb1]⟩ 1 none) (by decide +kernel)) rfl (by rw [hml]; exact hl.1) rfl dX5_init_1 (Nat.le_of_ble_eq_true rfl) (Nat.le_of_ble_eq_true rfl) ?_
  refine W.eq (g2 := F0 m 4 ls []) rfl ?_
  refine lv_aload_n hx hb dX5_init_4 rfl (lv_at hl 0 rfl) ?_
  refine lv_bipush (v := 12) hx hb dX5_init_5 (by decide) ?_
  refine va_newa (atype := .int) (N' := 12) (a0 := (12, .inl (fun _ => 0))) hx hb (hts (.arrayClass .int) (by decide +kernel)) rfl hK hP hD hS hA (fun _ => rfl) (by decide) rfl (Nat.le_of_ble_eq_true rfl) (Nat.le_of_ble_eq_true rfl) (Nat.le_of_ble_eq_true rfl) dX5_init_7 (fun q1 cA H hK2 hP hD hS => ?_)
  obtain rfl := fz_cyE hK2
  have hP : va_P D vwCl [(q, .inr (4, [.int 0, .null, .null, .null, .null, .null, .null])), (q1, .inl (cy 0, 12, .inl (fun _ => 0)))] H := hP
  have hD : va_D A [(q, .inr (4, [.int 0, .null, .null, .null, .null, .null, .null])), (q1, .inl (cy 0, 12, .inl (fun _ => 0)))] := hD
  refine va_putF (D := D) (ci := 4) (v := .ref q1) (ty := tyX5 1) (C := RX5) (T := TX5) (N := 7) hx hb hts inX5 tyX5 tyX5_ok nmX5 hown hK hP hD hS 0 rfl rfl 1 (by decide) (hts (.fieldLink RX5 9 "FreezeCredits$Loans" "giver" "[I") (by decide +kernel)) (fun _ h9 => h9) rfl hin rfl (by decide +kernel) rfl rfl (Nat.le_of_ble_eq_true rfl) dX5_init_9 (fun H locs hP hD hS => ?_)
  have hP : va_P D vwCl [(q, .inr (4, [.int 0, .ref q1, .null, .null, .null, .null, .null])), (q1, .inl (cy 0, 12, .inl (fun _ => 0)))] H := hP
  have hD : va_D A [(q, .inr (4, [.int 0, .ref q1, .null, .null, .null, .null, .null])), (q1, .inl (cy 0, 12, .inl (fun _ => 0)))] := hD
  refine lv_aload_n hx hb dX5_init_12 rfl (lv_at hl 0 rfl) ?_
  refine lv_bipush (v := 12) hx hb dX5_init_13 (by decide) ?_
  refine va_newa (atype := .int) (N' := 12) (a0 := (12, .inl (fun _ => 0))) hx hb (hts (.arrayClass .int) (by decide +kernel)) rfl hK hP hD hS hA (fun _ => rfl) (by decide) rfl (Nat.le_of_ble_eq_true rfl) (Nat.le_of_ble_eq_true rfl) (Nat.le_of_ble_eq_true rfl) dX5_init_15 (fun q2 cA H hK2 hP hD hS => ?_)
  obtain rfl := fz_cyE hK2
  have hP : va_P D vwCl [(q, .inr (4, [.int 0, .ref q1, .null, .null, .null, .null, .null])), (q1, .inl (cy 0, 12, .inl (fun _ => 0))), (q2, .inl (cy 0, 12, .inl (fun _ => 0)))] H := hP
  have hD : va_D A [(q, .inr (4, [.int 0, .ref q1, .null, .null, .null, .null, .null])), (q1, .inl (cy 0, 12, .inl (fun _ => 0))), (q2, .inl (cy 0, 12, .inl (fun _ => 0)))] := hD
  refine va_putF (D := D) (ci := 4) (v := .ref q2) (ty := tyX5 2) (C := RX5) (T := TX5) (N := 7) hx hb hts inX5 tyX5 tyX5_ok nmX5 hown hK hP hD hS 0 rfl rfl 2 (by decide) (hts (.fieldLink RX5 15 "FreezeCredits$Loans" "taker" "[I") (by decide +kernel)) (fun _ h9 => h9) rfl hin rfl (by decide +kernel) rfl rfl (Nat.le_of_ble_eq_true rfl) dX5_init_17 (fun H locs hP hD hS => ?_)
  have hP : va_P D vwCl [(q, .inr (4, [.int 0, .ref q1, .ref q2, .null, .null, .null, .null])), (q1, .inl (cy 0, 12, .inl (fun _ => 0))), (q2, .inl (cy 0, 12, .inl (fun _ => 0)))] H := hP
  have hD : va_D A [(q, .inr (4, [.int 0, .ref q1, .ref q2, .null, .null, .null, .null])), (q1, .inl (cy 0, 12, .inl (fun _ => 0))), (q2, .inl (cy 0, 12, .inl (fun _ => 0)))] := hD
  refine lv_aload_n hx hb dX5_init_20 rfl (lv_at hl 0 rfl) ?_
  refine lv_bipush (v := 12) hx hb dX5_init_21 (by decide) ?_
  refine va_newa (atype := .int) (N' := 12) (a0 := (12, .inl (fun _ => 0))) hx hb (hts (.arrayClass .int) (by decide +kernel)) rfl hK hP hD hS hA (fun _ => rfl) (by decide) rfl (Nat.le_of_ble_eq_true rfl) (Nat.le_of_ble_eq_true rfl) (Nat.le_of_ble_eq_true rfl) dX5_init_23 (fun q3 cA H hK2 hP hD hS => ?_)
  obtain rfl := fz_cyE hK2
  have hP : va_P D vwCl [(q, .inr (4, [.int 0, .ref q1, .ref q2, .null, .null, .null, .null])), (q1, .inl (cy 0, 12, .inl (fun _ => 0))), (q2, .inl (cy 0, 12, .inl (fun _ => 0))), (q3, .inl (cy 0, 12, .inl (fun _ => 0)))] H := hP
  have hD : va_D A [(q, .inr (4, [.int 0, .ref q1, .ref q2, .null, .null, .null, .null])), (q1, .inl (cy 0, 12, .inl (fun _ => 0))), (q2, .inl (cy 0, 12, .inl (fun _ => 0))), (q3, .inl (cy 0, 12, .inl (fun _ => 0)))] := hD
  refine va_putF (D := D) (ci := 4) (v := .ref q3) (ty := tyX5 3) (C := RX5) (T := TX5) (N := 7) hx hb hts inX5 tyX5 tyX5_ok nmX5 hown hK hP hD hS 0 rfl rfl 3 (by decide) (hts (.fieldLink RX5 18 "FreezeCredits$Loans" "amount" "[I") (by decide +kernel)) (fun _ h9 => h9) rfl hin rfl (by decide +kernel) rfl rfl (Nat.le_of_ble_eq_true rfl) dX5_init_25 (fun H locs hP hD hS => ?_)
  have hP : va_P D vwCl [(q, .inr (4, [.int 0, .ref q1, .ref q2, .ref q3, .null, .null, .null])), (q1, .inl (cy 0, 12, .inl (fun _ => 0))), (q2, .inl (cy 0, 12, .inl (fun _ => 0))), (q3, .inl (cy 0, 12, .inl (fun _ => 0)))] H := hP
  have hD : va_D A [(q, .inr (4, [.int 0, .ref q1, .ref q2, .ref q3, .null, .null, .null])), (q1, .inl (cy 0, 12, .inl (fun _ => 0))), (q2, .inl (cy 0, 12, .inl (fun _ => 0))), (q3, .inl (cy 0, 12, .inl (fun _ => 0)))] := hD
  refine lv_aload_n hx hb dX5_init_28 rfl (lv_at hl 0 rfl) ?_
  refine lv_bipush (v := 12) hx hb dX5_init_29 (by decide) ?_
  refine va_newa (atype := .int) (N' := 12) (a0 := (12, .inl (fun _ => 0))) hx hb (hts (.arrayClass .int) (by decide +kernel)) rfl hK hP hD hS hA (fun _ => rfl) (by decide) rfl (Nat.le_of_ble_eq_true rfl) (Nat.le_of_ble_eq_true rfl) (Nat.le_of_ble_eq_true rfl) dX5_init_31 (fun q4 cA H hK2 hP hD hS => ?_)
  obtain rfl := fz_cyE hK2
  have hP : va_P D vwCl [(q, .inr (4, [.int 0, .ref q1, .ref q2, .ref q3, .null, .null, .null])), (q1, .inl (cy 0, 12, .inl (fun _ => 0))), (q2, .inl (cy 0, 12, .inl (fun _ => 0))), (q3, .inl (cy 0, 12, .inl (fun _ => 0))), (q4, .inl (cy 0, 12, .inl (fun _ => 0)))] H := hP
  have hD : va_D A [(q, .inr (4, [.int 0, .ref q1, .ref q2, .ref q3, .null, .null, .null])), (q1, .inl (cy 0, 12, .inl (fun _ => 0))), (q2, .inl (cy 0, 12, .inl (fun _ => 0))), (q3, .inl (cy 0, 12, .inl (fun _ => 0))), (q4, .inl (cy 0, 12, .inl (fun _ => 0)))] := hD
  refine va_putF (D := D) (ci := 4) (v := .ref q4) (ty := tyX5 4) (C := RX5) (T := TX5) (N := 7) hx hb hts inX5 tyX5 tyX5_ok nmX5 hown hK hP hD hS 0 rfl rfl 4 (by decide) (hts (.fieldLink RX5 21 "FreezeCredits$Loans" "left" "[I") (by decide +kernel)) (fun _ h9 => h9) rfl hin rfl (by decide +kernel) rfl rfl (Nat.le_of_ble_eq_true rfl) dX5_init_33 (fun H locs hP hD hS => ?_)
  have hP : va_P D vwCl [(q, .inr (4, [.int 0, .ref q1, .ref q2, .ref q3, .ref q4, .null, .null])), (q1, .inl (cy 0, 12, .inl (fun _ => 0))), (q2, .inl (cy 0, 12, .inl (fun _ => 0))), (q3, .inl (cy 0, 12, .inl (fun _ => 0))), (q4, .inl (cy 0, 12, .inl (fun _ => 0)))] H := hP
  have hD : va_D A [(q, .inr (4, [.int 0, .ref q1, .ref q2, .ref q3, .ref q4, .null, .null])), (q1, .inl (cy 0, 12, .inl (fun _ => 0))), (q2, .inl (cy 0, 12, .inl (fun _ => 0))), (q3, .inl (cy 0, 12, .inl (fun _ => 0))), (q4, .inl (cy 0, 12, .inl (fun _ => 0)))] := hD
  refine lv_aload_n hx hb dX5_init_36 rfl (lv_at hl 0 rfl) ?_
  refine lv_bipush (v := 12) hx hb dX5_init_37 (by decide) ?_
  refine va_newa (atype := .int) (N' := 12) (a0 := (12, .inl (fun _ => 0))) hx hb (hts (.arrayClass .int) (by decide +kernel)) rfl hK hP hD hS hA (fun _ => rfl) (by decide) rfl (Nat.le_of_ble_eq_true rfl) (Nat.le_of_ble_eq_true rfl) (Nat.le_of_ble_eq_true rfl) dX5_init_39 (fun q5 cA H hK2 hP hD hS => ?_)
  obtain rfl := fz_cyE hK2
  have hP : va_P D vwCl [(q, .inr (4, [.int 0, .ref q1, .ref q2, .ref q3, .ref q4, .null, .null])), (q1, .inl (cy 0, 12, .inl (fun _ => 0))), (q2, .inl (cy 0, 12, .inl (fun _ => 0))), (q3, .inl (cy 0, 12, .inl (fun _ => 0))), (q4, .inl (cy 0, 12, .inl (fun _ => 0))), (q5, .inl (cy 0, 12, .inl (fun _ => 0)))] H := hP
  have hD : va_D A [(q, .inr (4, [.int 0, .ref q1, .ref q2, .ref q3, .ref q4, .null, .null])), (q1, .inl (cy 0, 12, .inl (fun _ => 0))), (q2, .inl (cy 0, 12, .inl (fun _ => 0))), (q3, .inl (cy 0, 12, .inl (fun _ => 0))), (q4, .inl (cy 0, 12, .inl (fun _ => 0))), (q5, .inl (cy 0, 12, .inl (fun _ => 0)))] := hD
  refine va_putF (D := D) (ci := 4) (v := .ref q5) (ty := tyX5 5) (C := RX5) (T := TX5) (N := 7) hx hb hts inX5 tyX5 tyX5_ok nmX5 hown hK hP hD hS 0 rfl rfl 5 (by decide) (hts (.fieldLink RX5 24 "FreezeCredits$Loans" "due" "[I") (by decide +kernel)) (fun _ h9 => h9) rfl hin rfl (by decide +kernel) rfl rfl (Nat.le_of_ble_eq_true rfl) dX5_init_41 (fun H locs hP hD hS => ?_)
  have hP : va_P D vwCl [(q, .inr (4, [.int 0, .ref q1, .ref q2, .ref q3, .ref q4, .ref q5, .null])), (q1, .inl (cy 0, 12, .inl (fun _ => 0))), (q2, .inl (cy 0, 12, .inl (fun _ => 0))), (q3, .inl (cy 0, 12, .inl (fun _ => 0))), (q4, .inl (cy 0, 12, .inl (fun _ => 0))), (q5, .inl (cy 0, 12, .inl (fun _ => 0)))] H := hP
  have hD : va_D A [(q, .inr (4, [.int 0, .ref q1, .ref q2, .ref q3, .ref q4, .ref q5, .null])), (q1, .inl (cy 0, 12, .inl (fun _ => 0))), (q2, .inl (cy 0, 12, .inl (fun _ => 0))), (q3, .inl (cy 0, 12, .inl (fun _ => 0))), (q4, .inl (cy 0, 12, .inl (fun _ => 0))), (q5, .inl (cy 0, 12, .inl (fun _ => 0)))] := hD
  refine lv_aload_n hx hb dX5_init_44 rfl (lv_at hl 0 rfl) ?_
  refine lv_bipush (v := 12) hx hb dX5_init_45 (by decide) ?_
  refine va_newa (atype := .int) (N' := 12) (a0 := (12, .inl (fun _ => 0))) hx hb (hts (.arrayClass .int) (by decide +kernel)) rfl hK hP hD hS hA (fun _ => rfl) (by decide) rfl (Nat.le_of_ble_eq_true rfl) (Nat.le_of_ble_eq_true rfl) (Nat.le_of_ble_eq_true rfl) dX5_init_47 (fun q6 cA H hK2 hP hD hS => ?_)
  obtain rfl := fz_cyE hK2
  have hP : va_P D vwCl [(q, .inr (4, [.int 0, .ref q1, .ref q2, .ref q3, .ref q4, .ref q5, .null])), (q1, .inl (cy 0, 12, .inl (fun _ => 0))), (q2, .inl (cy 0, 12, .inl (fun _ => 0))), (q3, .inl (cy 0, 12, .inl (fun _ => 0))), (q4, .inl (cy 0, 12, .inl (fun _ => 0))), (q5, .inl (cy 0, 12, .inl (fun _ => 0))), (q6, .inl (cy 0, 12, .inl (fun _ => 0)))] H := hP
  have hD : va_D A [(q, .inr (4, [.int 0, .ref q1, .ref q2, .ref q3, .ref q4, .ref q5, .null])), (q1, .inl (cy 0, 12, .inl (fun _ => 0))), (q2, .inl (cy 0, 12, .inl (fun _ => 0))), (q3, .inl (cy 0, 12, .inl (fun _ => 0))), (q4, .inl (cy 0, 12, .inl (fun _ => 0))), (q5, .inl (cy 0, 12, .inl (fun _ => 0))), (q6, .inl (cy 0, 12, .inl (fun _ => 0)))] := hD
  refine va_putF (D := D) (ci := 4) (v := .ref q6) (ty := tyX5 6) (C := RX5) (T := TX5) (N := 7) hx hb hts inX5 tyX5 tyX5_ok nmX5 hown hK hP hD hS 0 rfl rfl 6 (by decide) (hts (.fieldLink RX5 27 "FreezeCredits$Loans" "madeIn" "[I") (by decide +kernel)) (fun _ h9 => h9) rfl hin rfl (by decide +kernel) rfl rfl (Nat.le_of_ble_eq_true rfl) dX5_init_49 (fun H locs hP hD hS => ?_)
  have hP : va_P D vwCl [(q, .inr (4, [.int 0, .ref q1, .ref q2, .ref q3, .ref q4, .ref q5, .ref q6])), (q1, .inl (cy 0, 12, .inl (fun _ => 0))), (q2, .inl (cy 0, 12, .inl (fun _ => 0))), (q3, .inl (cy 0, 12, .inl (fun _ => 0))), (q4, .inl (cy 0, 12, .inl (fun _ => 0))), (q5, .inl (cy 0, 12, .inl (fun _ => 0))), (q6, .inl (cy 0, 12, .inl (fun _ => 0)))] H := hP
  have hD : va_D A [(q, .inr (4, [.int 0, .ref q1, .ref q2, .ref q3, .ref q4, .ref q5, .ref q6])), (q1, .inl (cy 0, 12, .inl (fun _ => 0))), (q2, .inl (cy 0, 12, .inl (fun _ => 0))), (q3, .inl (cy 0, 12, .inl (fun _ => 0))), (q4, .inl (cy 0, 12, .inl (fun _ => 0))), (q5, .inl (cy 0, 12, .inl (fun _ => 0))), (q6, .inl (cy 0, 12, .inl (fun _ => 0)))] := hD
  subst hAe
  exact W.vret hx hb hr (fun t9 ht9 hW9 => ⟨⟨(fun i => [q, q1, q2, q3, q4, q5, q6].getD (i - 17) 0), rfl, rfl, fz_to ht9 hP, hD⟩, hS.F ht9⟩) hS.2.2 dX5_init_52
set_option maxHeartbeats 4000000 in
set_option maxRecDepth 100000 in
/-- a new X3 -/
theorem c_X3_init (l : Launch) (D : va_G) (cy : Nat → ClassId) (q sz : Nat) : fz_NW l yX3_init wsX3_init 1 2 154 20 D cy q 2 [.int 0, .null, .null, .null, .int 0] sz (fun _ => fz_T) (fun (a : Nat → Nat) => XW cy (fun _ => 0) a zV none) (fun a => a 0 = q) := by
  refine Met.ofW (cc := cX3_init) (maxL := 1) (ret := none) (by decide) rfl ?_
  intro p e s m args below meth c s₁ B hml hv
  obtain ⟨rfl, hsz, hP, hK, hD0, hE⟩ := hv
  have hx := B.exec
  have hb := B.bytes
  have hr := B.returns
  have hts := atoms_spec (ws := wsX3_init) B.pre
  have hown : s.vm.findClass RX3 = some m.cls := findClass_of_methodNamed B.named
  have hlocks := B.notSynchronized
  have hin : meth.name = "<init>" := (name_of_methodNamed B.named B.method).1
  subst hsz
  have hD := hD0.self (sz := s.heap.size)
  obtain ⟨A, hAe⟩ : ∃ A : Nat → Prop, A = va_A [(q, .inr (2, [.int 0, .null, .null, .null, .int 0]))] s.heap.size := ⟨_, rfl⟩
  rw [← hAe] at hD
  have hA : ∀ x : Nat, s.heap.size ≤ x → A x := fun x h => by rw [hAe]; exact Or.inr h
  have hS : va_S A s.heap s.heap [] := va_S.rf
  have hl := lv_entry ([.ref q]) (n := 1) (Nat.le_of_ble_eq_true rfl)
  rw [lg_entry_eq]
  generalize (lg_sl ([.ref q]) ++ List.replicate (1 - (lg_sl ([.ref q])).length) Slot.unset).toArray = ls at hl ⊢
  have hl : lv_has ls 1 [(0, .ref q)] := hl
  have inX3 : ∀ w ∈ u_ws RX3 TX3 5, w ∈ wsX3_init := by decide +kernel
  refine lv_aload_n hx hb dX3_init_0 rfl (lv_at hl 0 rfl) ?_
  refine W.objInit hx hb hown (hts (.methodLink RX3 3 objectInit) (by decide +kernel)) (hts (.instanceMethod objectInit) (by decide +kernel)) (hts (.code objectInit ⟨#[0xb1]⟩ 1 none) (by decide +kernel)) rfl (by rw [hml]; exact hl.1) rfl dX3_init_1 (Nat.le_of_ble_eq_true rfl) (Nat.le_of_ble_eq_true rfl) ?_
  refine W.eq (g2 := F0 m 4 ls []) rfl ?_
  refine lv_aload_n hx hb dX3_init_4 rfl (lv_at hl 0 rfl) ?_
  refine lv_iconst (v := 4) hx hb dX3_init_5 (by decide) ?_
  refine va_newa (atype := .int) (N' := 4) (a0 := (4, .inl (fun _ => 0))) hx hb (hts (.arrayClass .int) (by decide +kernel)) rfl hK hP hD hS hA (fun _ => rfl) (by decide) rfl (Nat.le_of_ble_eq_true rfl) (Nat.le_of_ble_eq_true rfl) (Nat.le_of_ble_eq_true rfl) dX3_init_6 (fun q1 cA H hK2 hP hD hS => ?_)
  obtain rfl := fz_cyE hK2
  have hP : va_P D vwCl [(q, .inr (2, [.int 0, .null, .null, .null, .int 0])), (q1, .inl (cy 0, 4, .inl (fun _ => 0)))] H := hP
  have hD : va_D A [(q, .inr (2, [.int 0, .null, .null, .null, .int 0])), (q1, .inl (cy 0, 4, .inl (fun _ => 0)))] := hD
  refine va_putF (D := D) (ci := 2) (v := .ref q1) (ty := tyX3 2) (C := RX3) (T := TX3) (N := 5) hx hb hts inX3 tyX3 tyX3_ok nmX3 hown hK hP hD hS 0 rfl rfl 2 (by decide) (hts (.fieldLink RX3 9 "FreezeCredits$CommandText" "numbers" "[I") (by decide +kernel)) (fun _ h9 => h9) rfl hin rfl (by decide +kernel) rfl rfl (Nat.le_of_ble_eq_true rfl) dX3_init_8 (fun H locs hP hD hS => ?_)
  have hP : va_P D vwCl [(q, .inr (2, [.int 0, .null, .ref q1, .null, .int 0])), (q1, .inl (cy 0, 4, .inl (fun _ => 0)))] H := hP
  have hD : va_D A [(q, .inr (2, [.int 0, .null, .ref q1, .null, .int 0])), (q1, .inl (cy 0, 4, .inl (fun _ => 0)))] := hD
  refine lv_aload_n hx hb dX3_init_11 rfl (lv_at hl 0 rfl) ?_
  refine lv_sipush (v := 150) hx hb dX3_init_12 (by decide) ?_
  refine va_newa (atype := .byte) (N' := 150) (a0 := (150, .inl (fun _ => 0))) hx hb (hts (.arrayClass .byte) (by decide +kernel)) rfl hK hP hD hS hA (fun _ => rfl) (by decide) rfl (Nat.le_of_ble_eq_true rfl) (Nat.le_of_ble_eq_true rfl) (Nat.le_of_ble_eq_true rfl) dX3_init_15 (fun q2 cA H hK2 hP hD hS => ?_)
  obtain rfl := fz_cyB hK2
  have hP : va_P D vwCl [(q, .inr (2, [.int 0, .null, .ref q1, .null, .int 0])), (q1, .inl (cy 0, 4, .inl (fun _ => 0))), (q2, .inl (cy 2, 150, .inl (fun _ => 0)))] H := hP
  have hD : va_D A [(q, .inr (2, [.int 0, .null, .ref q1, .null, .int 0])), (q1, .inl (cy 0, 4, .inl (fun _ => 0))), (q2, .inl (cy 2, 150, .inl (fun _ => 0)))] := hD
  refine va_putF (D := D) (ci := 2) (v := .ref q2) (ty := tyX3 3) (C := RX3) (T := TX3) (N := 5) hx hb hts inX3 tyX3 tyX3_ok nmX3 hown hK hP hD hS 0 rfl rfl 3 (by decide) (hts (.fieldLink RX3 15 "FreezeCredits$CommandText" "bytes" "[B") (by decide +kernel)) (fun _ h9 => h9) rfl hin rfl (by decide +kernel) rfl rfl (Nat.le_of_ble_eq_true rfl) dX3_init_17 (fun H locs hP hD hS => ?_)
  have hP : va_P D vwCl [(q, .inr (2, [.int 0, .null, .ref q1, .ref q2, .int 0])), (q1, .inl (cy 0, 4, .inl (fun _ => 0))), (q2, .inl (cy 2, 150, .inl (fun _ => 0)))] H := hP
  have hD : va_D A [(q, .inr (2, [.int 0, .null, .ref q1, .ref q2, .int 0])), (q1, .inl (cy 0, 4, .inl (fun _ => 0))), (q2, .inl (cy 2, 150, .inl (fun _ => 0)))] := hD
  subst hAe
  exact W.vret hx hb hr (fun t9 ht9 hW9 => ⟨⟨(fun i => [q, q1, q2].getD i 0), rfl, rfl, fz_to ht9 hP, hD⟩, hS.F ht9⟩) hS.2.2 dX3_init_20
def mV : Nat → Nat → Int32 := fun r => if r = 1 then upd (upd (upd (upd (fun _ => 0) 4 3) 5 4) 6 2) 7 100 else fun _ => 0
