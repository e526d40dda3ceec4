/-! copies of a calendar; a setting -/
/-- a row that agrees with another on its length may stand for it -/
theorem fz_rowE {D : va_G} {cl : List vw_C} {ws : va_W} {q a : Nat} {cA : ClassId} {n : Nat} {f g : Nat → Int32} {H : Heap} (ha : ws[q]? = some (a, .inl (cA, n, .inl f))) (h : ∀ j, j < n → f j = g j) (hP : va_P D cl ws H) : va_P D cl (ws.set q (a, .inl (cA, n, .inl g))) H := by
  intro k z hz
  by_cases hk : k = q
  · subst hk
    have hl : k < ws.length := (List.getElem?_eq_some_iff.mp ha).1
    rw [List.getElem?_set_self hl] at hz
    cases hz
    exact fz_atE (fz_cellE h cA) (hP k _ ha)
  · rw [List.getElem?_set_ne (Ne.symm hk)] at hz
    exact hP k z hz
theorem fz_cpS {f g : Nat → Int32} {k : Nat} (h : ∀ i, i < k → f i = g i) : ∀ i, i < k + 1 → upd f k (g k) i = g i := by
  intro i hi
  by_cases e : i = k
  · rw [e]
    exact if_pos rfl
  · rw [pk_un e]
    exact h i (by omega)
theorem fz_zo_nar {f : Nat → Int32} {n k : Nat} (h : fz_zo f n) (hk : k < n) : vp_nar .boolean (f k) = f k := by
  rcases h k hk with e | e <;> rw [e] <;> decide
theorem fz_ix4 {x : Int32} (h1 : ¬ x < 0) (h2 : x < 4) : ∃ z : Nat, z < 4 ∧ x = nI z := by
  rcases pk_ix x (n := 4) (by decide) with q | q | q
  · exact absurd q h1
  · exact absurd h2 (Int32.not_lt.mpr q)
  · exact q
def fz_set (V : Nat → Nat → Int32) (x y : Int32) : Int32 × (Nat → Nat → Int32) := if x < 0 then (-2, V) else if x < 4 then (if y < fz_from x.toNatClampNeg then (-2, V) else if y ≤ fz_upto x.toNatClampNeg then (V 1 x.toNatClampNeg, fz_up V 1 (upd (V 1) x.toNatClampNeg y)) else (-2, V)) else (-2, V)
set_option maxHeartbeats 4000000 in
set_option maxRecDepth 100000 in
/-- Teams.copyFrom -/
theorem c_X6_copyFrom (l : Launch) (D : va_G) (cy : Nat → ClassId) (a : Nat → Nat) (V : Nat → Nat → Int32) (b : Nat → Nat) (N : Nat → Nat → Int32) : fz_MV l yX6_copyFrom wsX6_copyFrom 1 26 D cy [.ref (a 3), .ref (b 3)] ((TW cy a V) ++ (TW cy b N)) fz_T ((TW cy a N) ++ (TW cy b N)) := by
  refine Met.ofW (cc := cX6_copyFrom) (maxL := 2) (ret := none) (by decide) rfl ?_
  intro p e s m args below meth c s₁ B hml hv
  obtain ⟨rfl, hP, hK, hD0, hE⟩ := hv
  have hx := B.exec
  have hb := B.bytes
  have hr := B.returns
  have hts := atoms_spec (ws := wsX6_copyFrom) B.pre
  have hown : s.vm.findClass RX6 = some m.cls := findClass_of_methodNamed B.named
  have hlocks := B.notSynchronized
  have hD := fz_self hD0
  generalize hAe : fz_in ((TW cy a V) ++ (TW cy b N)) = A at hD ⊢
  have hS : va_S A s.heap s.heap [] := va_S.rf
  have hl := lv_entry ([.ref (a 3), .ref (b 3)]) (n := 2) (Nat.le_of_ble_eq_true rfl)
  rw [lg_entry_eq]
  generalize (lg_sl ([.ref (a 3), .ref (b 3)]) ++ List.replicate (2 - (lg_sl ([.ref (a 3), .ref (b 3)])).length) Slot.unset).toArray = ls at hl ⊢
  have hl : lv_has ls 2 [(0, .ref (a 3)), (1, .ref (b 3))] := hl
  have k_24 := hts (.fieldLink RX6 24 "FreezeCredits$Teams" "count" "I") (by decide +kernel)
  have inX6 : ∀ w ∈ u_ws RX6 TX6 5, w ∈ wsX6_copyFrom := by decide +kernel
  have k_9 := hts (.fieldLink RX6 9 "FreezeCredits$Teams" "free" "[I") (by decide +kernel)
  have k_15 := hts (.fieldLink RX6 15 "FreezeCredits$Teams" "broughtIn" "[I") (by decide +kernel)
  have k_18 := hts (.fieldLink RX6 18 "FreezeCredits$Teams" "earned" "[I") (by decide +kernel)
  have k_21 := hts (.fieldLink RX6 21 "FreezeCredits$Teams" "burnt" "[I") (by decide +kernel)
  refine lv_aload_n hx hb dX6_copyFrom_0 rfl (lv_at hl 0 rfl) ?_
  refine lv_aload_n hx hb dX6_copyFrom_1 rfl (lv_at hl 1 rfl) ?_
  refine va_get (D := D) (ci := 5) (v := .int (N 3 0)) (C := RX6) (T := TX6) (N := 5) hx hb hts inX6 hown hK hP 5 rfl rfl 0 (by decide) k_24 (fun _ h9 => h9) rfl dX6_copyFrom_2 ?_
  refine va_put (D := D) (ci := 5) (v := .int (N 3 0)) (ty := tyX6 0) (C := RX6) (T := TX6) (N := 5) hx hb hts inX6 tyX6 tyX6_ok nmX6 hown hK hP hD hS 0 rfl rfl 0 (by decide) k_24 (fun _ h9 => h9) rfl (by decide +kernel) rfl rfl (Nat.le_of_ble_eq_true rfl) dX6_copyFrom_5 (fun H locs hP hD hS => ?_)
  have hP : va_P D vwCl ((TE cy a (N 3 0) (V 4) (V 5) (V 6) (V 7)) ++ (TW cy b N)) H := hP
  have hD : va_D A ((TE cy a (N 3 0) (V 4) (V 5) (V 6) (V 7)) ++ (TW cy b N)) := hD
  refine lv_aload_n hx hb dX6_copyFrom_8 rfl (lv_at hl 1 rfl) ?_
  refine va_get (D := D) (ci := 5) (v := .ref (b 4)) (C := RX6) (T := TX6) (N := 5) hx hb hts inX6 hown hK hP 5 rfl rfl 1 (by decide) k_9 (fun _ h9 => h9) rfl dX6_copyFrom_9 ?_
  refine lv_iconst (v := 0) hx hb dX6_copyFrom_12 (by decide) ?_
  refine lv_aload_n hx hb dX6_copyFrom_13 rfl (lv_at hl 0 rfl) ?_
  refine va_get (D := D) (ci := 5) (v := .ref (a 4)) (C := RX6) (T := TX6) (N := 5) hx hb hts inX6 hown hK hP 0 rfl rfl 1 (by decide) k_9 (fun _ h9 => h9) rfl dX6_copyFrom_14 ?_
  refine lv_iconst (v := 0) hx hb dX6_copyFrom_17 (by decide) ?_
  refine lv_bipush (v := 6) hx hb dX6_copyFrom_18 (by decide) ?_
  refine fz_copyi (n := 6) (ty := .int) hx hb (hml.trans hl.1.symm) hown (hts (.methodLink RX6 28 arraycopyName) (by decide +kernel)) (hts (.native arraycopyName) (by decide +kernel)) (hts (.static arraycopyName) (by decide +kernel)) (hts (.initialized "java/lang/System") (by decide +kernel)) hK hP hD hS 6 1 0 rfl rfl rfl rfl (by decide) fz_int_fit (Nat.le_of_ble_eq_true rfl) (Nat.le_of_ble_eq_true rfl) dX6_copyFrom_20 (fun H locs hP hD hS => ?_)
  have hP : va_P D vwCl ((TE cy a (N 3 0) (N 4) (V 5) (V 6) (V 7)) ++ (TW cy b N)) H := hP
  have hD : va_D A ((TE cy a (N 3 0) (N 4) (V 5) (V 6) (V 7)) ++ (TW cy b N)) := hD
  refine lv_aload_n hx hb dX6_copyFrom_23 rfl (lv_at hl 1 rfl) ?_
  refine va_get (D := D) (ci := 5) (v := .ref (b 5)) (C := RX6) (T := TX6) (N := 5) hx hb hts inX6 hown hK hP 5 rfl rfl 2 (by decide) k_15 (fun _ h9 => h9) rfl dX6_copyFrom_24 ?_
  refine lv_iconst (v := 0) hx hb dX6_copyFrom_27 (by decide) ?_
  refine lv_aload_n hx hb dX6_copyFrom_28 rfl (lv_at hl 0 rfl) ?_
  refine va_get (D := D) (ci := 5) (v := .ref (a 5)) (C := RX6) (T := TX6) (N := 5) hx hb hts inX6 hown hK hP 0 rfl rfl 2 (by decide) k_15 (fun _ h9 => h9) rfl dX6_copyFrom_29 ?_
  refine lv_iconst (v := 0) hx hb dX6_copyFrom_32 (by decide) ?_
  refine lv_bipush (v := 6) hx hb dX6_copyFrom_33 (by decide) ?_
  refine fz_copyi (n := 6) (ty := .int) hx hb (hml.trans hl.1.symm) hown (hts (.methodLink RX6 28 arraycopyName) (by decide +kernel)) (hts (.native arraycopyName) (by decide +kernel)) (hts (.static arraycopyName) (by decide +kernel)) (hts (.initialized "java/lang/System") (by decide +kernel)) hK hP hD hS 7 2 0 rfl rfl rfl rfl (by decide) fz_int_fit (Nat.le_of_ble_eq_true rfl) (Nat.le_of_ble_eq_true rfl) dX6_copyFrom_35 (fun H locs hP hD hS => ?_)
  have hP : va_P D vwCl ((TE cy a (N 3 0) (N 4) (N 5) (V 6) (V 7)) ++ (TW cy b N)) H := hP
  have hD : va_D A ((TE cy a (N 3 0) (N 4) (N 5) (V 6) (V 7)) ++ (TW cy b N)) := hD
  refine lv_aload_n hx hb dX6_copyFrom_38 rfl (lv_at hl 1 rfl) ?_
  refine va_get (D := D) (ci := 5) (v := .ref (b 6)) (C := RX6) (T := TX6) (N := 5) hx hb hts inX6 hown hK hP 5 rfl rfl 3 (by decide) k_18 (fun _ h9 => h9) rfl dX6_copyFrom_39 ?_
  refine lv_iconst (v := 0) hx hb dX6_copyFrom_42 (by decide) ?_
  refine lv_aload_n hx hb dX6_copyFrom_43 rfl (lv_at hl 0 rfl) ?_
  refine va_get (D := D) (ci := 5) (v := .ref (a 6)) (C := RX6) (T := TX6) (N := 5) hx hb hts inX6 hown hK hP 0 rfl rfl 3 (by decide) k_18 (fun _ h9 => h9) rfl dX6_copyFrom_44 ?_
  refine lv_iconst (v := 0) hx hb dX6_copyFrom_47 (by decide) ?_
  refine lv_bipush (v := 6) hx hb dX6_copyFrom_48 (by decide) ?_
  refine fz_copyi (n := 6) (ty := .int) hx hb (hml.trans hl.1.symm) hown (hts (.methodLink RX6 28 arraycopyName) (by decide +kernel)) (hts (.native arraycopyName) (by decide +kernel)) (hts (.static arraycopyName) (by decide +kernel)) (hts (.initialized "java/lang/System") (by decide +kernel)) hK hP hD hS 8 3 0 rfl rfl rfl rfl (by decide) fz_int_fit (Nat.le_of_ble_eq_true rfl) (Nat.le_of_ble_eq_true rfl) dX6_copyFrom_50 (fun H locs hP hD hS => ?_)
  have hP : va_P D vwCl ((TE cy a (N 3 0) (N 4) (N 5) (N 6) (V 7)) ++ (TW cy b N)) H := hP
  have hD : va_D A ((TE cy a (N 3 0) (N 4) (N 5) (N 6) (V 7)) ++ (TW cy b N)) := hD
  refine lv_aload_n hx hb dX6_copyFrom_53 rfl (lv_at hl 1 rfl) ?_
  refine va_get (D := D) (ci := 5) (v := .ref (b 7)) (C := RX6) (T := TX6) (N := 5) hx hb hts inX6 hown hK hP 5 rfl rfl 4 (by decide) k_21 (fun _ h9 => h9) rfl dX6_copyFrom_54 ?_
  refine lv_iconst (v := 0) hx hb dX6_copyFrom_57 (by decide) ?_
  refine lv_aload_n hx hb dX6_copyFrom_58 rfl (lv_at hl 0 rfl) ?_
  refine va_get (D := D) (ci := 5) (v := .ref (a 7)) (C := RX6) (T := TX6) (N := 5) hx hb hts inX6 hown hK hP 0 rfl rfl 4 (by decide) k_21 (fun _ h9 => h9) rfl dX6_copyFrom_59 ?_
  refine lv_iconst (v := 0) hx hb dX6_copyFrom_62 (by decide) ?_
  refine lv_bipush (v := 6) hx hb dX6_copyFrom_63 (by decide) ?_
  refine fz_copyi (n := 6) (ty := .int) hx hb (hml.trans hl.1.symm) hown (hts (.methodLink RX6 28 arraycopyName) (by decide +kernel)) (hts (.native arraycopyName) (by decide +kernel)) (hts (.static arraycopyName) (by decide +kernel)) (hts (.initialized "java/lang/System") (by decide +kernel)) hK hP hD hS 9 4 0 rfl rfl rfl rfl (by decide) fz_int_fit (Nat.le_of_ble_eq_true rfl) (Nat.le_of_ble_eq_true rfl) dX6_copyFrom_65 (fun H locs hP hD hS => ?_)
  have hP : va_P D vwCl ((TE cy a (N 3 0) (N 4) (N 5) (N 6) (N 7)) ++ (TW cy b N)) H := hP
  have hD : va_D A ((TE cy a (N 3 0) (N 4) (N 5) (N 6) (N 7)) ++ (TW cy b N)) := hD
  exact W.vret hx hb hr (fun t9 ht9 hW9 => ⟨⟨(), rfl, trivial, fz_to ht9 hP⟩, hS.F ht9⟩) hS.2.2 dX6_copyFrom_68
set_option maxHeartbeats 4000000 in
set_option maxRecDepth 100000 in
/-- Changes.copyFrom -/
theorem c_X2_copyFrom (l : Launch) (D : va_G) (cy : Nat → ClassId) (a : Nat → Nat) (V : Nat → Nat → Int32) (b : Nat → Nat) (N : Nat → Nat → Int32) : fz_MV l yX2_copyFrom wsX2_copyFrom 1 26 D cy [.ref (a 8), .ref (b 8)] ((GW cy a V) ++ (GW cy b N)) fz_T ((GW cy a N) ++ (GW cy b N)) := by
  refine Met.ofW (cc := cX2_copyFrom) (maxL := 2) (ret := none) (by decide) rfl ?_
  intro p e s m args below meth c s₁ B hml hv
  obtain ⟨rfl, hP, hK, hD0, hE⟩ := hv
  have hx := B.exec
  have hb := B.bytes
  have hr := B.returns
  have hts := atoms_spec (ws := wsX2_copyFrom) B.pre
  have hown : s.vm.findClass RX2 = some m.cls := findClass_of_methodNamed B.named
  have hlocks := B.notSynchronized
  have hD := fz_self hD0
  generalize hAe : fz_in ((GW cy a V) ++ (GW cy b N)) = A at hD ⊢
  have hS : va_S A s.heap s.heap [] := va_S.rf
  have hl := lv_entry ([.ref (a 8), .ref (b 8)]) (n := 2) (Nat.le_of_ble_eq_true rfl)
  rw [lg_entry_eq]
  generalize (lg_sl ([.ref (a 8), .ref (b 8)]) ++ List.replicate (2 - (lg_sl ([.ref (a 8), .ref (b 8)])).length) Slot.unset).toArray = ls at hl ⊢
  have hl : lv_has ls 2 [(0, .ref (a 8)), (1, .ref (b 8))] := hl
  have k_36 := hts (.fieldLink RX2 36 "FreezeCredits$Changes" "count" "I") (by decide +kernel)
  have inX2 : ∀ w ∈ u_ws RX2 TX2 10, w ∈ wsX2_copyFrom := by decide +kernel
  have k_40 := hts (.fieldLink RX2 40 "FreezeCredits$Changes" "queued" "I") (by decide +kernel)
  have k_9 := hts (.fieldLink RX2 9 "FreezeCredits$Changes" "team" "[I") (by decide +kernel)
  have k_15 := hts (.fieldLink RX2 15 "FreezeCredits$Changes" "risk" "[I") (by decide +kernel)
  have k_18 := hts (.fieldLink RX2 18 "FreezeCredits$Changes" "state" "[I") (by decide +kernel)
  have k_21 := hts (.fieldLink RX2 21 "FreezeCredits$Changes" "held" "[I") (by decide +kernel)
  have k_24 := hts (.fieldLink RX2 24 "FreezeCredits$Changes" "askedIn" "[I") (by decide +kernel)
  have k_27 := hts (.fieldLink RX2 27 "FreezeCredits$Changes" "madeIn" "[I") (by decide +kernel)
  have k_30 := hts (.fieldLink RX2 30 "FreezeCredits$Changes" "madeExempt" "[I") (by decide +kernel)
  have k_33 := hts (.fieldLink RX2 33 "FreezeCredits$Changes" "queue" "[I") (by decide +kernel)
  refine lv_aload_n hx hb dX2_copyFrom_0 rfl (lv_at hl 0 rfl) ?_
  refine lv_aload_n hx hb dX2_copyFrom_1 rfl (lv_at hl 1 rfl) ?_
  refine va_get (D := D) (ci := 1) (v := .int (N 8 0)) (C := RX2) (T := TX2) (N := 10) hx hb hts inX2 hown hK hP 9 rfl rfl 0 (by decide) k_36 (fun _ h9 => h9) rfl dX2_copyFrom_2 ?_
  refine va_put (D := D) (ci := 1) (v := .int (N 8 0)) (ty := tyX2 0) (C := RX2) (T := TX2) (N := 10) hx hb hts inX2 tyX2 tyX2_ok nmX2 hown hK hP hD hS 0 rfl rfl 0 (by decide) k_36 (fun _ h9 => h9) rfl (by decide +kernel) rfl rfl (Nat.le_of_ble_eq_true rfl) dX2_copyFrom_5 (fun H locs hP hD hS => ?_)
  have hP : va_P D vwCl ((GE cy a (N 8 0) (V 8 1) (V 9) (V 10) (V 11) (V 12) (V 13) (V 14) (V 15) (V 16)) ++ (GW cy b N)) H := hP
  have hD : va_D A ((GE cy a (N 8 0) (V 8 1) (V 9) (V 10) (V 11) (V 12) (V 13) (V 14) (V 15) (V 16)) ++ (GW cy b N)) := hD
  refine lv_aload_n hx hb dX2_copyFrom_8 rfl (lv_at hl 0 rfl) ?_
  refine lv_aload_n hx hb dX2_copyFrom_9 rfl (lv_at hl 1 rfl) ?_
  refine va_get (D := D) (ci := 1) (v := .int (N 8 1)) (C := RX2) (T := TX2) (N := 10) hx hb hts inX2 hown hK hP 9 rfl rfl 8 (by decide) k_40 (fun _ h9 => h9) rfl dX2_copyFrom_10 ?_
  refine va_put (D := D) (ci := 1) (v := .int (N 8 1)) (ty := tyX2 8) (C := RX2) (T := TX2) (N := 10) hx hb hts inX2 tyX2 tyX2_ok nmX2 hown hK hP hD hS 0 rfl rfl 8 (by decide) k_40 (fun _ h9 => h9) rfl (by decide +kernel) rfl rfl (Nat.le_of_ble_eq_true rfl) dX2_copyFrom_13 (fun H locs hP hD hS => ?_)
  have hP : va_P D vwCl ((GE cy a (N 8 0) (N 8 1) (V 9) (V 10) (V 11) (V 12) (V 13) (V 14) (V 15) (V 16)) ++ (GW cy b N)) H := hP
  have hD : va_D A ((GE cy a (N 8 0) (N 8 1) (V 9) (V 10) (V 11) (V 12) (V 13) (V 14) (V 15) (V 16)) ++ (GW cy b N)) := hD
  refine lv_aload_n hx hb dX2_copyFrom_16 rfl (lv_at hl 1 rfl) ?_
  refine va_get (D := D) (ci := 1) (v := .ref (b 9)) (C := RX2) (T := TX2) (N := 10) hx hb hts inX2 hown hK hP 9 rfl rfl 1 (by decide) k_9 (fun _ h9 => h9) rfl dX2_copyFrom_17 ?_
  refine lv_iconst (v := 0) hx hb dX2_copyFrom_20 (by decide) ?_
  refine lv_aload_n hx hb dX2_copyFrom_21 rfl (lv_at hl 0 rfl) ?_
  refine va_get (D := D) (ci := 1) (v := .ref (a 9)) (C := RX2) (T := TX2) (N := 10) hx hb hts inX2 hown hK hP 0 rfl rfl 1 (by decide) k_9 (fun _ h9 => h9) rfl dX2_copyFrom_22 ?_
  refine lv_iconst (v := 0) hx hb dX2_copyFrom_25 (by decide) ?_
  refine lv_bipush (v := 30) hx hb dX2_copyFrom_26 (by decide) ?_
  refine fz_copyi (n := 30) (ty := .int) hx hb (hml.trans hl.1.symm) hown (hts (.methodLink RX2 43 arraycopyName) (by decide +kernel)) (hts (.native arraycopyName) (by decide +kernel)) (hts (.static arraycopyName) (by decide +kernel)) (hts (.initialized "java/lang/System") (by decide +kernel)) hK hP hD hS 10 1 0 rfl rfl rfl rfl (by decide) fz_int_fit (Nat.le_of_ble_eq_true rfl) (Nat.le_of_ble_eq_true rfl) dX2_copyFrom_28 (fun H locs hP hD hS => ?_)
  have hP : va_P D vwCl ((GE cy a (N 8 0) (N 8 1) (N 9) (V 10) (V 11) (V 12) (V 13) (V 14) (V 15) (V 16)) ++ (GW cy b N)) H := hP
  have hD : va_D A ((GE cy a (N 8 0) (N 8 1) (N 9) (V 10) (V 11) (V 12) (V 13) (V 14) (V 15) (V 16)) ++ (GW cy b N)) := hD
  refine lv_aload_n hx hb dX2_copyFrom_31 rfl (lv_at hl 1 rfl) ?_
  refine va_get (D := D) (ci := 1) (v := .ref (b 10)) (C := RX2) (T := TX2) (N := 10) hx hb hts inX2 hown hK hP 9 rfl rfl 2 (by decide) k_15 (fun _ h9 => h9) rfl dX2_copyFrom_32 ?_
  refine lv_iconst (v := 0) hx hb dX2_copyFrom_35 (by decide) ?_
  refine lv_aload_n hx hb dX2_copyFrom_36 rfl (lv_at hl 0 rfl) ?_
  refine va_get (D := D) (ci := 1) (v := .ref (a 10)) (C := RX2) (T := TX2) (N := 10) hx hb hts inX2 hown hK hP 0 rfl rfl 2 (by decide) k_15 (fun _ h9 => h9) rfl dX2_copyFrom_37 ?_
  refine lv_iconst (v := 0) hx hb dX2_copyFrom_40 (by decide) ?_
  refine lv_bipush (v := 30) hx hb dX2_copyFrom_41 (by decide) ?_
  refine fz_copyi (n := 30) (ty := .int) hx hb (hml.trans hl.1.symm) hown (hts (.methodLink RX2 43 arraycopyName) (by decide +kernel)) (hts (.native arraycopyName) (by decide +kernel)) (hts (.static arraycopyName) (by decide +kernel)) (hts (.initialized "java/lang/System") (by decide +kernel)) hK hP hD hS 11 2 0 rfl rfl rfl rfl (by decide) fz_int_fit (Nat.le_of_ble_eq_true rfl) (Nat.le_of_ble_eq_true rfl) dX2_copyFrom_43 (fun H locs hP hD hS => ?_)
  have hP : va_P D vwCl ((GE cy a (N 8 0) (N 8 1) (N 9) (N 10) (V 11) (V 12) (V 13) (V 14) (V 15) (V 16)) ++ (GW cy b N)) H := hP
  have hD : va_D A ((GE cy a (N 8 0) (N 8 1) (N 9) (N 10) (V 11) (V 12) (V 13) (V 14) (V 15) (V 16)) ++ (GW cy b N)) := hD
  refine lv_aload_n hx hb dX2_copyFrom_46 rfl (lv_at hl 1 rfl) ?_
  refine va_get (D := D) (ci := 1) (v := .ref (b 11)) (C := RX2) (T := TX2) (N := 10) hx hb hts inX2 hown hK hP 9 rfl rfl 3 (by decide) k_18 (fun _ h9 => h9) rfl dX2_copyFrom_47 ?_
  refine lv_iconst (v := 0) hx hb dX2_copyFrom_50 (by decide) ?_
  refine lv_aload_n hx hb dX2_copyFrom_51 rfl (lv_at hl 0 rfl) ?_
  refine va_get (D := D) (ci := 1) (v := .ref (a 11)) (C := RX2) (T := TX2) (N := 10) hx hb hts inX2 hown hK hP 0 rfl rfl 3 (by decide) k_18 (fun _ h9 => h9) rfl dX2_copyFrom_52 ?_
  refine lv_iconst (v := 0) hx hb dX2_copyFrom_55 (by decide) ?_
  refine lv_bipush (v := 30) hx hb dX2_copyFrom_56 (by decide) ?_
  refine fz_copyi (n := 30) (ty := .int) hx hb (hml.trans hl.1.symm) hown (hts (.methodLink RX2 43 arraycopyName) (by decide +kernel)) (hts (.native arraycopyName) (by decide +kernel)) (hts (.static arraycopyName) (by decide +kernel)) (hts (.initialized "java/lang/System") (by decide +kernel)) hK hP hD hS 12 3 0 rfl rfl rfl rfl (by decide) fz_int_fit (Nat.le_of_ble_eq_true rfl) (Nat.le_of_ble_eq_true rfl) dX2_copyFrom_58 (fun H locs hP hD hS => ?_)
  have hP : va_P D vwCl ((GE cy a (N 8 0) (N 8 1) (N 9) (N 10) (N 11) (V 12) (V 13) (V 14) (V 15) (V 16)) ++ (GW cy b N)) H := hP
  have hD : va_D A ((GE cy a (N 8 0) (N 8 1) (N 9) (N 10) (N 11) (V 12) (V 13) (V 14) (V 15) (V 16)) ++ (GW cy b N)) := hD
  refine lv_aload_n hx hb dX2_copyFrom_61 rfl (lv_at hl 1 rfl) ?_
  refine va_get (D := D) (ci := 1) (v := .ref (b 12)) (C := RX2) (T := TX2) (N := 10) hx hb hts inX2 hown hK hP 9 rfl rfl 4 (by decide) k_21 (fun _ h9 => h9) rfl dX2_copyFrom_62 ?_
  refine lv_iconst (v := 0) hx hb dX2_copyFrom_65 (by decide) ?_
  refine lv_aload_n hx hb dX2_copyFrom_66 rfl (lv_at hl 0 rfl) ?_
  refine va_get (D := D) (ci := 1) (v := .ref (a 12)) (C := RX2) (T := TX2) (N := 10) hx hb hts inX2 hown hK hP 0 rfl rfl 4 (by decide) k_21 (fun _ h9 => h9) rfl dX2_copyFrom_67 ?_
  refine lv_iconst (v := 0) hx hb dX2_copyFrom_70 (by decide) ?_
  refine lv_bipush (v := 30) hx hb dX2_copyFrom_71 (by decide) ?_
  refine fz_copyi (n := 30) (ty := .int) hx hb (hml.trans hl.1.symm) hown (hts (.methodLink RX2 43 arraycopyName) (by decide +kernel)) (hts (.native arraycopyName) (by decide +kernel)) (hts (.static arraycopyName) (by decide +kernel)) (hts (.initialized "java/lang/System") (by decide +kernel)) hK hP hD hS 13 4 0 rfl rfl rfl rfl (by decide) fz_int_fit (Nat.le_of_ble_eq_true rfl) (Nat.le_of_ble_eq_true rfl) dX2_copyFrom_73 (fun H locs hP hD hS => ?_)
  have hP : va_P D vwCl ((GE cy a (N 8 0) (N 8 1) (N 9) (N 10) (N 11) (N 12) (V 13) (V 14) (V 15) (V 16)) ++ (GW cy b N)) H := hP
  have hD : va_D A ((GE cy a (N 8 0) (N 8 1) (N 9) (N 10) (N 11) (N 12) (V 13) (V 14) (V 15) (V 16)) ++ (GW cy b N)) := hD
  refine lv_aload_n hx hb dX2_copyFrom_76 rfl (lv_at hl 1 rfl) ?_
  refine va_get (D := D) (ci := 1) (v := .ref (b 13)) (C := RX2) (T := TX2) (N := 10) hx hb hts inX2 hown hK hP 9 rfl rfl 5 (by decide) k_24 (fun _ h9 => h9) rfl dX2_copyFrom_77 ?_
  refine lv_iconst (v := 0) hx hb dX2_copyFrom_80 (by decide) ?_
  refine lv_aload_n hx hb dX2_copyFrom_81 rfl (lv_at hl 0 rfl) ?_
  refine va_get (D := D) (ci := 1) (v := .ref (a 13)) (C := RX2) (T := TX2) (N := 10) hx hb hts inX2 hown hK hP 0 rfl rfl 5 (by decide) k_24 (fun _ h9 => h9) rfl dX2_copyFrom_82 ?_
  refine lv_iconst (v := 0) hx hb dX2_copyFrom_85 (by decide) ?_
  refine lv_bipush (v := 30) hx hb dX2_copyFrom_86 (by decide) ?_
  refine fz_copyi (n := 30) (ty := .int) hx hb (hml.trans hl.1.symm) hown (hts (.methodLink RX2 43 arraycopyName) (by decide +kernel)) (hts (.native arraycopyName) (by decide +kernel)) (hts (.static arraycopyName) (by decide +kernel)) (hts (.initialized "java/lang/System") (by decide +kernel)) hK hP hD hS 14 5 0 rfl rfl rfl rfl (by decide) fz_int_fit (Nat.le_of_ble_eq_true rfl) (Nat.le_of_ble_eq_true rfl) dX2_copyFrom_88 (fun H locs hP hD hS => ?_)
  have hP : va_P D vwCl ((GE cy a (N 8 0) (N 8 1) (N 9) (N 10) (N 11) (N 12) (N 13) (V 14) (V 15) (V 16)) ++ (GW cy b N)) H := hP
  have hD : va_D A ((GE cy a (N 8 0) (N 8 1) (N 9) (N 10) (N 11) (N 12) (N 13) (V 14) (V 15) (V 16)) ++ (GW cy b N)) := hD
  refine lv_aload_n hx hb dX2_copyFrom_91 rfl (lv_at hl 1 rfl) ?_
  refine va_get (D := D) (ci := 1) (v := .ref (b 14)) (C := RX2) (T := TX2) (N := 10) hx hb hts inX2 hown hK hP 9 rfl rfl 6 (by decide) k_27 (fun _ h9 => h9) rfl dX2_copyFrom_92 ?_
  refine lv_iconst (v := 0) hx hb dX2_copyFrom_95 (by decide) ?_
  refine lv_aload_n hx hb dX2_copyFrom_96 rfl (lv_at hl 0 rfl) ?_
  refine va_get (D := D) (ci := 1) (v := .ref (a 14)) (C := RX2) (T := TX2) (N := 10) hx hb hts inX2 hown hK hP 0 rfl rfl 6 (by decide) k_27 (fun _ h9 => h9) rfl dX2_copyFrom_97 ?_
  refine lv_iconst (v := 0) hx hb dX2_copyFrom_100 (by decide) ?_
  refine lv_bipush (v := 30) hx hb dX2_copyFrom_101 (by decide) ?_
  refine fz_copyi (n := 30) (ty := .int) hx hb (hml.trans hl.1.symm) hown (hts (.methodLink RX2 43 arraycopyName) (by decide +kernel)) (hts (.native arraycopyName) (by decide +kernel)) (hts (.static arraycopyName) (by decide +kernel)) (hts (.initialized "java/lang/System") (by decide +kernel)) hK hP hD hS 15 6 0 rfl rfl rfl rfl (by decide) fz_int_fit (Nat.le_of_ble_eq_true rfl) (Nat.le_of_ble_eq_true rfl) dX2_copyFrom_103 (fun H locs hP hD hS => ?_)
  have hP : va_P D vwCl ((GE cy a (N 8 0) (N 8 1) (N 9) (N 10) (N 11) (N 12) (N 13) (N 14) (V 15) (V 16)) ++ (GW cy b N)) H := hP
  have hD : va_D A ((GE cy a (N 8 0) (N 8 1) (N 9) (N 10) (N 11) (N 12) (N 13) (N 14) (V 15) (V 16)) ++ (GW cy b N)) := hD
  refine lv_aload_n hx hb dX2_copyFrom_106 rfl (lv_at hl 1 rfl) ?_
  refine va_get (D := D) (ci := 1) (v := .ref (b 15)) (C := RX2) (T := TX2) (N := 10) hx hb hts inX2 hown hK hP 9 rfl rfl 7 (by decide) k_30 (fun _ h9 => h9) rfl dX2_copyFrom_107 ?_
  refine lv_iconst (v := 0) hx hb dX2_copyFrom_110 (by decide) ?_
  refine lv_aload_n hx hb dX2_copyFrom_111 rfl (lv_at hl 0 rfl) ?_
  refine va_get (D := D) (ci := 1) (v := .ref (a 15)) (C := RX2) (T := TX2) (N := 10) hx hb hts inX2 hown hK hP 0 rfl rfl 7 (by decide) k_30 (fun _ h9 => h9) rfl dX2_copyFrom_112 ?_
  refine lv_iconst (v := 0) hx hb dX2_copyFrom_115 (by decide) ?_
  refine lv_bipush (v := 30) hx hb dX2_copyFrom_116 (by decide) ?_
  refine fz_copyi (n := 30) (ty := .int) hx hb (hml.trans hl.1.symm) hown (hts (.methodLink RX2 43 arraycopyName) (by decide +kernel)) (hts (.native arraycopyName) (by decide +kernel)) (hts (.static arraycopyName) (by decide +kernel)) (hts (.initialized "java/lang/System") (by decide +kernel)) hK hP hD hS 16 7 0 rfl rfl rfl rfl (by decide) fz_int_fit (Nat.le_of_ble_eq_true rfl) (Nat.le_of_ble_eq_true rfl) dX2_copyFrom_118 (fun H locs hP hD hS => ?_)
  have hP : va_P D vwCl ((GE cy a (N 8 0) (N 8 1) (N 9) (N 10) (N 11) (N 12) (N 13) (N 14) (N 15) (V 16)) ++ (GW cy b N)) H := hP
  have hD : va_D A ((GE cy a (N 8 0) (N 8 1) (N 9) (N 10) (N 11) (N 12) (N 13) (N 14) (N 15) (V 16)) ++ (GW cy b N)) := hD
  refine lv_aload_n hx hb dX2_copyFrom_121 rfl (lv_at hl 1 rfl) ?_
  refine va_get (D := D) (ci := 1) (v := .ref (b 16)) (C := RX2) (T := TX2) (N := 10) hx hb hts inX2 hown hK hP 9 rfl rfl 9 (by decide) k_33 (fun _ h9 => h9) rfl dX2_copyFrom_122 ?_
  refine lv_iconst (v := 0) hx hb dX2_copyFrom_125 (by decide) ?_
  refine lv_aload_n hx hb dX2_copyFrom_126 rfl (lv_at hl 0 rfl) ?_
  refine va_get (D := D) (ci := 1) (v := .ref (a 16)) (C := RX2) (T := TX2) (N := 10) hx hb hts inX2 hown hK hP 0 rfl rfl 9 (by decide) k_33 (fun _ h9 => h9) rfl dX2_copyFrom_127 ?_
  refine lv_iconst (v := 0) hx hb dX2_copyFrom_130 (by decide) ?_
  refine lv_bipush (v := 30) hx hb dX2_copyFrom_131 (by decide) ?_
  refine fz_copyi (n := 30) (ty := .int) hx hb (hml.trans hl.1.symm) hown (hts (.methodLink RX2 43 arraycopyName) (by decide +kernel)) (hts (.native arraycopyName) (by decide +kernel)) (hts (.static arraycopyName) (by decide +kernel)) (hts (.initialized "java/lang/System") (by decide +kernel)) hK hP hD hS 17 8 0 rfl rfl rfl rfl (by decide) fz_int_fit (Nat.le_of_ble_eq_true rfl) (Nat.le_of_ble_eq_true rfl) dX2_copyFrom_133 (fun H locs hP hD hS => ?_)
  have hP : va_P D vwCl ((GE cy a (N 8 0) (N 8 1) (N 9) (N 10) (N 11) (N 12) (N 13) (N 14) (N 15) (N 16)) ++ (GW cy b N)) H := hP
  have hD : va_D A ((GE cy a (N 8 0) (N 8 1) (N 9) (N 10) (N 11) (N 12) (N 13) (N 14) (N 15) (N 16)) ++ (GW cy b N)) := hD
  exact W.vret hx hb hr (fun t9 ht9 hW9 => ⟨⟨(), rfl, trivial, fz_to ht9 hP⟩, hS.F ht9⟩) hS.2.2 dX2_copyFrom_136
set_option maxHeartbeats 4000000 in
set_option maxRecDepth 100000 in
/-- Loans.copyFrom -/
theorem c_X5_copyFrom (l : Launch) (D : va_G) (cy : Nat → ClassId) (a : Nat → Nat) (V : Nat → Nat → Int32) (b : Nat → Nat) (N : Nat → Nat → Int32) : fz_MV l yX5_copyFrom wsX5_copyFrom 1 26 D cy [.ref (a 17), .ref (b 17)] ((LW cy a V) ++ (LW cy b N)) fz_T ((LW cy a N) ++ (LW cy b N)) := by
  refine Met.ofW (cc := cX5_copyFrom) (maxL := 2) (ret := none) (by decide) rfl ?_
  intro p e s m args below meth c s₁ B hml hv
  obtain ⟨rfl, hP, hK, hD0, hE⟩ := hv
  have hx := B.exec
  have hb := B.bytes
  have hr := B.returns
  have hts := atoms_spec (ws := wsX5_copyFrom) B.pre
  have hown : s.vm.findClass RX5 = some m.cls := findClass_of_methodNamed B.named
  have hlocks := B.notSynchronized
  have hD := fz_self hD0
  generalize hAe : fz_in ((LW cy a V) ++ (LW cy b N)) = A at hD ⊢
  have hS : va_S A s.heap s.heap [] := va_S.rf
  have hl := lv_entry ([.ref (a 17), .ref (b 17)]) (n := 2) (Nat.le_of_ble_eq_true rfl)
  rw [lg_entry_eq]
  generalize (lg_sl ([.ref (a 17), .ref (b 17)]) ++ List.replicate (2 - (lg_sl ([.ref (a 17), .ref (b 17)])).length) Slot.unset).toArray = ls at hl ⊢
  have hl : lv_has ls 2 [(0, .ref (a 17)), (1, .ref (b 17))] := hl
  have k_30 := hts (.fieldLink RX5 30 "FreezeCredits$Loans" "count" "I") (by decide +kernel)
  have inX5 : ∀ w ∈ u_ws RX5 TX5 7, w ∈ wsX5_copyFrom := by decide +kernel
  have k_9 := hts (.fieldLink RX5 9 "FreezeCredits$Loans" "giver" "[I") (by decide +kernel)
  have k_15 := hts (.fieldLink RX5 15 "FreezeCredits$Loans" "taker" "[I") (by decide +kernel)
  have k_18 := hts (.fieldLink RX5 18 "FreezeCredits$Loans" "amount" "[I") (by decide +kernel)
  have k_21 := hts (.fieldLink RX5 21 "FreezeCredits$Loans" "left" "[I") (by decide +kernel)
  have k_24 := hts (.fieldLink RX5 24 "FreezeCredits$Loans" "due" "[I") (by decide +kernel)
  have k_27 := hts (.fieldLink RX5 27 "FreezeCredits$Loans" "madeIn" "[I") (by decide +kernel)
  refine lv_aload_n hx hb dX5_copyFrom_0 rfl (lv_at hl 0 rfl) ?_
  refine lv_aload_n hx hb dX5_copyFrom_1 rfl (lv_at hl 1 rfl) ?_
  refine va_get (D := D) (ci := 4) (v := .int (N 17 0)) (C := RX5) (T := TX5) (N := 7) hx hb hts inX5 hown hK hP 7 rfl rfl 0 (by decide) k_30 (fun _ h9 => h9) rfl dX5_copyFrom_2 ?_
  refine va_put (D := D) (ci := 4) (v := .int (N 17 0)) (ty := tyX5 0) (C := RX5) (T := TX5) (N := 7) hx hb hts inX5 tyX5 tyX5_ok nmX5 hown hK hP hD hS 0 rfl rfl 0 (by decide) k_30 (fun _ h9 => h9) rfl (by decide +kernel) rfl rfl (Nat.le_of_ble_eq_true rfl) dX5_copyFrom_5 (fun H locs hP hD hS => ?_)
  have hP : va_P D vwCl ((LE cy a (N 17 0) (V 18) (V 19) (V 20) (V 21) (V 22) (V 23)) ++ (LW cy b N)) H := hP
  have hD : va_D A ((LE cy a (N 17 0) (V 18) (V 19) (V 20) (V 21) (V 22) (V 23)) ++ (LW cy b N)) := hD
  refine lv_aload_n hx hb dX5_copyFrom_8 rfl (lv_at hl 1 rfl) ?_
  refine va_get (D := D) (ci := 4) (v := .ref (b 18)) (C := RX5) (T := TX5) (N := 7) hx hb hts inX5 hown hK hP 7 rfl rfl 1 (by decide) k_9 (fun _ h9 => h9) rfl dX5_copyFrom_9 ?_
  refine lv_iconst (v := 0) hx hb dX5_copyFrom_12 (by decide) ?_
  refine lv_aload_n hx hb dX5_copyFrom_13 rfl (lv_at hl 0 rfl) ?_
  refine va_get (D := D) (ci := 4) (v := .ref (a 18)) (C := RX5) (T := TX5) (N := 7) hx hb hts inX5 hown hK hP 0 rfl rfl 1 (by decide) k_9 (fun _ h9 => h9) rfl dX5_copyFrom_14 ?_
  refine lv_iconst (v := 0) hx hb dX5_copyFrom_17 (by decide) ?_
  refine lv_bipush (v := 12) hx hb dX5_copyFrom_18 (by decide) ?_
  refine fz_copyi (n := 12) (ty := .int) hx hb (hml.trans hl.1.symm) hown (hts (.methodLink RX5 34 arraycopyName) (by decide +kernel)) (hts (.native arraycopyName) (by decide +kernel)) (hts (.static arraycopyName) (by decide +kernel)) (hts (.initialized "java/lang/System") (by decide +kernel)) hK hP hD hS 8 1 0 rfl rfl rfl rfl (by decide) fz_int_fit (Nat.le_of_ble_eq_true rfl) (Nat.le_of_ble_eq_true rfl) dX5_copyFrom_20 (fun H locs hP hD hS => ?_)
  have hP : va_P D vwCl ((LE cy a (N 17 0) (N 18) (V 19) (V 20) (V 21) (V 22) (V 23)) ++ (LW cy b N)) H := hP
  have hD : va_D A ((LE cy a (N 17 0) (N 18) (V 19) (V 20) (V 21) (V 22) (V 23)) ++ (LW cy b N)) := hD
  refine lv_aload_n hx hb dX5_copyFrom_23 rfl (lv_at hl 1 rfl) ?_
  refine va_get (D := D) (ci := 4) (v := .ref (b 19)) (C := RX5) (T := TX5) (N := 7) hx hb hts inX5 hown hK hP 7 rfl rfl 2 (by decide) k_15 (fun _ h9 => h9) rfl dX5_copyFrom_24 ?_
  refine lv_iconst (v := 0) hx hb dX5_copyFrom_27 (by decide) ?_
  refine lv_aload_n hx hb dX5_copyFrom_28 rfl (lv_at hl 0 rfl) ?_
  refine va_get (D := D) (ci := 4) (v := .ref (a 19)) (C := RX5) (T := TX5) (N := 7) hx hb hts inX5 hown hK hP 0 rfl rfl 2 (by decide) k_15 (fun _ h9 => h9) rfl dX5_copyFrom_29 ?_
  refine lv_iconst (v := 0) hx hb dX5_copyFrom_32 (by decide) ?_
  refine lv_bipush (v := 12) hx hb dX5_copyFrom_33 (by decide) ?_
  refine fz_copyi (n := 12) (ty := .int) hx hb (hml.trans hl.1.symm) hown (hts (.methodLink RX5 34 arraycopyName) (by decide +kernel)) (hts (.native arraycopyName) (by decide +kernel)) (hts (.static arraycopyName) (by decide +kernel)) (hts (.initialized "java/lang/System") (by decide +kernel)) hK hP hD hS 9 2 0 rfl rfl rfl rfl (by decide) fz_int_fit (Nat.le_of_ble_eq_true rfl) (Nat.le_of_ble_eq_true rfl) dX5_copyFrom_35 (fun H locs hP hD hS => ?_)
  have hP : va_P D vwCl ((LE cy a (N 17 0) (N 18) (N 19) (V 20) (V 21) (V 22) (V 23)) ++ (LW cy b N)) H := hP
  have hD : va_D A ((LE cy a (N 17 0) (N 18) (N 19) (V 20) (V 21) (V 22) (V 23)) ++ (LW cy b N)) := hD
  refine lv_aload_n hx hb dX5_copyFrom_38 rfl (lv_at hl 1 rfl) ?_
  refine va_get (D := D) (ci := 4) (v := .ref (b 20)) (C := RX5) (T := TX5) (N := 7) hx hb hts inX5 hown hK hP 7 rfl rfl 3 (by decide) k_18 (fun _ h9 => h9) rfl dX5_copyFrom_39 ?_
  refine lv_iconst (v := 0) hx hb dX5_copyFrom_42 (by decide) ?_
  refine lv_aload_n hx hb dX5_copyFrom_43 rfl (lv_at hl 0 rfl) ?_
  refine va_get (D := D) (ci := 4) (v := .ref (a 20)) (C := RX5) (T := TX5) (N := 7) hx hb hts inX5 hown hK hP 0 rfl rfl 3 (by decide) k_18 (fun _ h9 => h9) rfl dX5_copyFrom_44 ?_
  refine lv_iconst (v := 0) hx hb dX5_copyFrom_47 (by decide) ?_
  refine lv_bipush (v := 12) hx hb dX5_copyFrom_48 (by decide) ?_
  refine fz_copyi (n := 12) (ty := .int) hx hb (hml.trans hl.1.symm) hown (hts (.methodLink RX5 34 arraycopyName) (by decide +kernel)) (hts (.native arraycopyName) (by decide +kernel)) (hts (.static arraycopyName) (by decide +kernel)) (hts (.initialized "java/lang/System") (by decide +kernel)) hK hP hD hS 10 3 0 rfl rfl rfl rfl (by decide) fz_int_fit (Nat.le_of_ble_eq_true rfl) (Nat.le_of_ble_eq_true rfl) dX5_copyFrom_50 (fun H locs hP hD hS => ?_)
  have hP : va_P D vwCl ((LE cy a (N 17 0) (N 18) (N 19) (N 20) (V 21) (V 22) (V 23)) ++ (LW cy b N)) H := hP
  have hD : va_D A ((LE cy a (N 17 0) (N 18) (N 19) (N 20) (V 21) (V 22) (V 23)) ++ (LW cy b N)) := hD
  refine lv_aload_n hx hb dX5_copyFrom_53 rfl (lv_at hl 1 rfl) ?_
  refine va_get (D := D) (ci := 4) (v := .ref (b 21)) (C := RX5) (T := TX5) (N := 7) hx hb hts inX5 hown hK hP 7 rfl rfl 4 (by decide) k_21 (fun _ h9 => h9) rfl dX5_copyFrom_54 ?_
  refine lv_iconst (v := 0) hx hb dX5_copyFrom_57 (by decide) ?_
  refine lv_aload_n hx hb dX5_copyFrom_58 rfl (lv_at hl 0 rfl) ?_
  refine va_get (D := D) (ci := 4) (v := .ref (a 21)) (C := RX5) (T := TX5) (N := 7) hx hb hts inX5 hown hK hP 0 rfl rfl 4 (by decide) k_21 (fun _ h9 => h9) rfl dX5_copyFrom_59 ?_
  refine lv_iconst (v := 0) hx hb dX5_copyFrom_62 (by decide) ?_
  refine lv_bipush (v := 12) hx hb dX5_copyFrom_63 (by decide) ?_
  refine fz_copyi (n := 12) (ty := .int) hx hb (hml.trans hl.1.symm) hown (hts (.methodLink RX5 34 arraycopyName) (by decide +kernel)) (hts (.native arraycopyName) (by decide +kernel)) (hts (.static arraycopyName) (by decide +kernel)) (hts (.initialized "java/lang/System") (by decide +kernel)) hK hP hD hS 11 4 0 rfl rfl rfl rfl (by decide) fz_int_fit (Nat.le_of_ble_eq_true rfl) (Nat.le_of_ble_eq_true rfl) dX5_copyFrom_65 (fun H locs hP hD hS => ?_)
  have hP : va_P D vwCl ((LE cy a (N 17 0) (N 18) (N 19) (N 20) (N 21) (V 22) (V 23)) ++ (LW cy b N)) H := hP
  have hD : va_D A ((LE cy a (N 17 0) (N 18) (N 19) (N 20) (N 21) (V 22) (V 23)) ++ (LW cy b N)) := hD
  refine lv_aload_n hx hb dX5_copyFrom_68 rfl (lv_at hl 1 rfl) ?_
  refine va_get (D := D) (ci := 4) (v := .ref (b 22)) (C := RX5) (T := TX5) (N := 7) hx hb hts inX5 hown hK hP 7 rfl rfl 5 (by decide) k_24 (fun _ h9 => h9) rfl dX5_copyFrom_69 ?_
  refine lv_iconst (v := 0) hx hb dX5_copyFrom_72 (by decide) ?_
  refine lv_aload_n hx hb dX5_copyFrom_73 rfl (lv_at hl 0 rfl) ?_
  refine va_get (D := D) (ci := 4) (v := .ref (a 22)) (C := RX5) (T := TX5) (N := 7) hx hb hts inX5 hown hK hP 0 rfl rfl 5 (by decide) k_24 (fun _ h9 => h9) rfl dX5_copyFrom_74 ?_
  refine lv_iconst (v := 0) hx hb dX5_copyFrom_77 (by decide) ?_
  refine lv_bipush (v := 12) hx hb dX5_copyFrom_78 (by decide) ?_
  refine fz_copyi (n := 12) (ty := .int) hx hb (hml.trans hl.1.symm) hown (hts (.methodLink RX5 34 arraycopyName) (by decide +kernel)) (hts (.native arraycopyName) (by decide +kernel)) (hts (.static arraycopyName) (by decide +kernel)) (hts (.initialized "java/lang/System") (by decide +kernel)) hK hP hD hS 12 5 0 rfl rfl rfl rfl (by decide) fz_int_fit (Nat.le_of_ble_eq_true rfl) (Nat.le_of_ble_eq_true rfl) dX5_copyFrom_80 (fun H locs hP hD hS => ?_)
  have hP : va_P D vwCl ((LE cy a (N 17 0) (N 18) (N 19) (N 20) (N 21) (N 22) (V 23)) ++ (LW cy b N)) H := hP
  have hD : va_D A ((LE cy a (N 17 0) (N 18) (N 19) (N 20) (N 21) (N 22) (V 23)) ++ (LW cy b N)) := hD
  refine lv_aload_n hx hb dX5_copyFrom_83 rfl (lv_at hl 1 rfl) ?_
  refine va_get (D := D) (ci := 4) (v := .ref (b 23)) (C := RX5) (T := TX5) (N := 7) hx hb hts inX5 hown hK hP 7 rfl rfl 6 (by decide) k_27 (fun _ h9 => h9) rfl dX5_copyFrom_84 ?_
  refine lv_iconst (v := 0) hx hb dX5_copyFrom_87 (by decide) ?_
  refine lv_aload_n hx hb dX5_copyFrom_88 rfl (lv_at hl 0 rfl) ?_
  refine va_get (D := D) (ci := 4) (v := .ref (a 23)) (C := RX5) (T := TX5) (N := 7) hx hb hts inX5 hown hK hP 0 rfl rfl 6 (by decide) k_27 (fun _ h9 => h9) rfl dX5_copyFrom_89 ?_
  refine lv_iconst (v := 0) hx hb dX5_copyFrom_92 (by decide) ?_
  refine lv_bipush (v := 12) hx hb dX5_copyFrom_93 (by decide) ?_
  refine fz_copyi (n := 12) (ty := .int) hx hb (hml.trans hl.1.symm) hown (hts (.methodLink RX5 34 arraycopyName) (by decide +kernel)) (hts (.native arraycopyName) (by decide +kernel)) (hts (.static arraycopyName) (by decide +kernel)) (hts (.initialized "java/lang/System") (by decide +kernel)) hK hP hD hS 13 6 0 rfl rfl rfl rfl (by decide) fz_int_fit (Nat.le_of_ble_eq_true rfl) (Nat.le_of_ble_eq_true rfl) dX5_copyFrom_95 (fun H locs hP hD hS => ?_)
  have hP : va_P D vwCl ((LE cy a (N 17 0) (N 18) (N 19) (N 20) (N 21) (N 22) (N 23)) ++ (LW cy b N)) H := hP
  have hD : va_D A ((LE cy a (N 17 0) (N 18) (N 19) (N 20) (N 21) (N 22) (N 23)) ++ (LW cy b N)) := hD
  exact W.vret hx hb hr (fun t9 ht9 hW9 => ⟨⟨(), rfl, trivial, fz_to ht9 hP⟩, hS.F ht9⟩) hS.2.2 dX5_copyFrom_98
set_option maxHeartbeats 4000000 in
set_option maxRecDepth 100000 in
/-- Calendar.copyFrom -/
theorem c_X1_copyFrom (l : Launch) (D : va_G) (cy : Nat → ClassId) (a : Nat → Nat) (V : Nat → Nat → Int32) (b : Nat → Nat) (N : Nat → Nat → Int32) (hz : fz_zo (N 2) 40) : fz_MV l yX1_copyFrom wsX1_copyFrom 2 47 D cy [.ref (a 0), .ref (b 0)] ((CW cy a V) ++ (CW cy b N)) fz_T ((CW cy a N) ++ (CW cy b N)) := by
  refine Met.ofW (cc := cX1_copyFrom) (maxL := 3) (ret := none) (by decide) rfl ?_
  intro p e s m args below meth c s₁ B hml hv
  obtain ⟨rfl, hP, hK, hD0, hE⟩ := hv
  have hx := B.exec
  have hb := B.bytes
  have hr := B.returns
  have hts := atoms_spec (ws := wsX1_copyFrom) B.pre
  have hown : s.vm.findClass RX1 = some m.cls := findClass_of_methodNamed B.named
  have hlocks := B.notSynchronized
  have hD := fz_self hD0
  generalize hAe : fz_in ((CW cy a V) ++ (CW cy b N)) = A at hD ⊢
  have hS : va_S A s.heap s.heap [] := va_S.rf
  have hl := lv_entry ([.ref (a 0), .ref (b 0)]) (n := 3) (Nat.le_of_ble_eq_true rfl)
  rw [lg_entry_eq]
  generalize (lg_sl ([.ref (a 0), .ref (b 0)]) ++ List.replicate (3 - (lg_sl ([.ref (a 0), .ref (b 0)])).length) Slot.unset).toArray = ls at hl ⊢
  have hl : lv_has ls 3 [(0, .ref (a 0)), (1, .ref (b 0))] := hl
  have k_48 := hts (.fieldLink RX1 48 "FreezeCredits$Calendar" "week" "I") (by decide +kernel)
  have inX1 : ∀ w ∈ u_ws RX1 TX1 6, w ∈ wsX1_copyFrom := by decide +kernel
  have k_18 := hts (.fieldLink RX1 18 "FreezeCredits$Calendar" "settings" "[I") (by decide +kernel)
  have k_23 := hts (.fieldLink RX1 23 "FreezeCredits$Calendar" "frozenWeeks" "[Z") (by decide +kernel)
  have k_30 := hts (.fieldLink RX1 30 "FreezeCredits$Calendar" "teams" "LFreezeCredits$Teams;") (by decide +kernel)
  have k_37 := hts (.fieldLink RX1 37 "FreezeCredits$Calendar" "changes" "LFreezeCredits$Changes;") (by decide +kernel)
  have k_44 := hts (.fieldLink RX1 44 "FreezeCredits$Calendar" "loans" "LFreezeCredits$Loans;") (by decide +kernel)
  refine lv_aload_n hx hb dX1_copyFrom_0 rfl (lv_at hl 0 rfl) ?_
  refine lv_aload_n hx hb dX1_copyFrom_1 rfl (lv_at hl 1 rfl) ?_
  refine va_get (D := D) (ci := 0) (v := .int (N 0 0)) (C := RX1) (T := TX1) (N := 6) hx hb hts inX1 hown hK hP 24 rfl rfl 0 (by decide) k_48 (fun _ h9 => h9) rfl dX1_copyFrom_2 ?_
  refine va_put (D := D) (ci := 0) (v := .int (N 0 0)) (ty := tyX1 0) (C := RX1) (T := TX1) (N := 6) hx hb hts inX1 tyX1 tyX1_ok nmX1 hown hK hP hD hS 0 rfl rfl 0 (by decide) k_48 (fun _ h9 => h9) rfl (by decide +kernel) rfl rfl (Nat.le_of_ble_eq_true rfl) dX1_copyFrom_5 (fun H locs hP hD hS => ?_)
  have hP : va_P D vwCl ((CE cy a (N 0 0) (V 3 0) (V 8 0) (V 8 1) (V 17 0) (V 1) (V 2) (V 4) (V 5) (V 6) (V 7) (V 9) (V 10) (V 11) (V 12) (V 13) (V 14) (V 15) (V 16) (V 18) (V 19) (V 20) (V 21) (V 22) (V 23)) ++ (CW cy b N)) H := hP
  have hD : va_D A ((CE cy a (N 0 0) (V 3 0) (V 8 0) (V 8 1) (V 17 0) (V 1) (V 2) (V 4) (V 5) (V 6) (V 7) (V 9) (V 10) (V 11) (V 12) (V 13) (V 14) (V 15) (V 16) (V 18) (V 19) (V 20) (V 21) (V 22) (V 23)) ++ (CW cy b N)) := hD
  refine lv_aload_n hx hb dX1_copyFrom_8 rfl (lv_at hl 1 rfl) ?_
  refine va_get (D := D) (ci := 0) (v := .ref (b 1)) (C := RX1) (T := TX1) (N := 6) hx hb hts inX1 hown hK hP 24 rfl rfl 1 (by decide) k_18 (fun _ h9 => h9) rfl dX1_copyFrom_9 ?_
  refine lv_iconst (v := 0) hx hb dX1_copyFrom_12 (by decide) ?_
  refine lv_aload_n hx hb dX1_copyFrom_13 rfl (lv_at hl 0 rfl) ?_
  refine va_get (D := D) (ci := 0) (v := .ref (a 1)) (C := RX1) (T := TX1) (N := 6) hx hb hts inX1 hown hK hP 0 rfl rfl 1 (by decide) k_18 (fun _ h9 => h9) rfl dX1_copyFrom_14 ?_
  refine lv_iconst (v := 0) hx hb dX1_copyFrom_17 (by decide) ?_
  refine lv_iconst (v := 4) hx hb dX1_copyFrom_18 (by decide) ?_
  refine fz_copyi (n := 4) (ty := .int) hx hb (hml.trans hl.1.symm) hown (hts (.methodLink RX1 52 arraycopyName) (by decide +kernel)) (hts (.native arraycopyName) (by decide +kernel)) (hts (.static arraycopyName) (by decide +kernel)) (hts (.initialized "java/lang/System") (by decide +kernel)) hK hP hD hS 25 1 0 rfl rfl rfl rfl (by decide) fz_int_fit (Nat.le_of_ble_eq_true rfl) (Nat.le_of_ble_eq_true rfl) dX1_copyFrom_19 (fun H locs hP hD hS => ?_)
  have hP : va_P D vwCl ((CE cy a (N 0 0) (V 3 0) (V 8 0) (V 8 1) (V 17 0) (N 1) (V 2) (V 4) (V 5) (V 6) (V 7) (V 9) (V 10) (V 11) (V 12) (V 13) (V 14) (V 15) (V 16) (V 18) (V 19) (V 20) (V 21) (V 22) (V 23)) ++ (CW cy b N)) H := hP
  have hD : va_D A ((CE cy a (N 0 0) (V 3 0) (V 8 0) (V 8 1) (V 17 0) (N 1) (V 2) (V 4) (V 5) (V 6) (V 7) (V 9) (V 10) (V 11) (V 12) (V 13) (V 14) (V 15) (V 16) (V 18) (V 19) (V 20) (V 21) (V 22) (V 23)) ++ (CW cy b N)) := hD
  refine lv_iconst (v := 0) hx hb dX1_copyFrom_22 (by decide) ?_
  refine lv_istore_n (lv' := [(2, .int 0), (0, .ref (a 0)), (1, .ref (b 0))]) hx hb dX1_copyFrom_23 rfl hl (by decide) rfl (fun ls hl => ?_)
  refine fz_loopM (σ := Nat × (Nat → Int32)) (pc := 24) (nL := 3) (fun x9 => match x9 with | (k, Z) => [(0, .ref (a 0)), (1, .ref (b 0)), (2, .int (nI k))]) (fun x9 => match x9 with | (k, Z) => (CE cy a (N 0 0) (V 3 0) (V 8 0) (V 8 1) (V 17 0) (N 1) Z (V 4) (V 5) (V 6) (V 7) (V 9) (V 10) (V 11) (V 12) (V 13) (V 14) (V 15) (V 16) (V 18) (V 19) (V 20) (V 21) (V 22) (V 23)) ++ (CW cy b N)) (fun x9 => match x9 with | (k, Z) => (k ≤ 40) ∧ (∀ i, i < k → Z i = N 2 i)) (fun x9 => match x9 with | (k, Z) => 40 - k) ?_ (0, V 2) (show (0 ≤ 40) ∧ (∀ i, i < 0 → (V 2) i = N 2 i) from ⟨(by omega), (fun _ h9 => absurd h9 (Nat.not_lt_zero _))⟩) _ _ ls hP hD hS (lv_sub hl [1, 2, 0] rfl)
  rintro ⟨k, Z⟩ ⟨hk, hZ⟩ ih24 H locs ls hP hD hS hl
  have hP : va_P D vwCl ((CE cy a (N 0 0) (V 3 0) (V 8 0) (V 8 1) (V 17 0) (N 1) Z (V 4) (V 5) (V 6) (V 7) (V 9) (V 10) (V 11) (V 12) (V 13) (V 14) (V 15) (V 16) (V 18) (V 19) (V 20) (V 21) (V 22) (V 23)) ++ (CW cy b N)) H := hP
  have hD : va_D A ((CE cy a (N 0 0) (V 3 0) (V 8 0) (V 8 1) (V 17 0) (N 1) Z (V 4) (V 5) (V 6) (V 7) (V 9) (V 10) (V 11) (V 12) (V 13) (V 14) (V 15) (V 16) (V 18) (V 19) (V 20) (V 21) (V 22) (V 23)) ++ (CW cy b N)) := hD
  have hk : k ≤ 40 := hk
  have hZ : ∀ i, i < k → Z i = N 2 i := hZ
  have hl : lv_has ls 3 [(0, .ref (a 0)), (1, .ref (b 0)), (2, .int (nI k))] := hl
  refine lv_iload_n hx hb dX1_copyFrom_24 rfl (lv_at hl 2 rfl) ?_
  refine lv_bipush (v := 40) hx hb dX1_copyFrom_25 (by decide) ?_
  refine fz_geN (tgt := 48) hx hb k 40 rfl rfl dX1_copyFrom_27 (by decide) (by omega) (by omega) (fun c_1 => ?_) (fun c_1 => ?_)
  · skip
    have hP := fz_rowE (q := 2) (g := N 2) rfl (fun j hj => hZ j (by omega)) hP
    have hD := hD.set (p := 2) (e := .inl (cy 1, 40, .inl (N 2))) rfl
    have hP : va_P D vwCl ((CE cy a (N 0 0) (V 3 0) (V 8 0) (V 8 1) (V 17 0) (N 1) (N 2) (V 4) (V 5) (V 6) (V 7) (V 9) (V 10) (V 11) (V 12) (V 13) (V 14) (V 15) (V 16) (V 18) (V 19) (V 20) (V 21) (V 22) (V 23)) ++ (CW cy b N)) H := hP
    have hD : va_D A ((CE cy a (N 0 0) (V 3 0) (V 8 0) (V 8 1) (V 17 0) (N 1) (N 2) (V 4) (V 5) (V 6) (V 7) (V 9) (V 10) (V 11) (V 12) (V 13) (V 14) (V 15) (V 16) (V 18) (V 19) (V 20) (V 21) (V 22) (V 23)) ++ (CW cy b N)) := hD
    refine lv_aload_n hx hb dX1_copyFrom_48 rfl (lv_at hl 0 rfl) ?_
    refine va_get (D := D) (ci := 0) (v := .ref (a 3)) (C := RX1) (T := TX1) (N := 6) hx hb hts inX1 hown hK hP 0 rfl rfl 3 (by decide) k_30 (fun _ h9 => h9) rfl dX1_copyFrom_49 ?_
    refine lv_aload_n hx hb dX1_copyFrom_52 rfl (lv_at hl 1 rfl) ?_
    refine va_get (D := D) (ci := 0) (v := .ref (b 3)) (C := RX1) (T := TX1) (N := 6) hx hb hts inX1 hown hK hP 24 rfl rfl 3 (by decide) k_30 (fun _ h9 => h9) rfl dX1_copyFrom_53 ?_
    refine fz_retMV (ws' := (CE cy a (N 0 0) (N 3 0) (V 8 0) (V 8 1) (V 17 0) (N 1) (N 2) (N 4) (N 5) (N 6) (N 7) (V 9) (V 10) (V 11) (V 12) (V 13) (V 14) (V 15) (V 16) (V 18) (V 19) (V 20) (V 21) (V 22) (V 23)) ++ (CW cy b N)) (va_runV (As := [.ref (b 3)]) (rest := []) ⟨hx, hb, hml, hown, hts⟩ (c_X6_copyFrom l D cy a V b N) (cwV 1 hts gX1_copyFrom_X6_copyFrom rfl rfl rfl (by decide +kernel) ⟨Nat.le_of_ble_eq_true rfl, Nat.le_of_ble_eq_true rfl⟩) (fz_preMV (ci := 5) (q0 := 0) hK (hP.sub (ws' := (TW cy a V) ++ (TW cy b N)) [3, 4, 5, 6, 7, 27, 28, 29, 30, 31] rfl) (hD.sub (ws' := (TW cy a V) ++ (TW cy b N)) [3, 4, 5, 6, 7, 27, 28, 29, 30, 31] (by decide) rfl) rfl rfl rfl fz_T_bl (fun _ _ _ => trivial)) rfl rfl hl.1 rfl (lv_room (Nat.le_of_ble_eq_true rfl)) dX1_copyFrom_56 ⟨Nat.zero_le _, Nat.zero_le _⟩) hP hD hS [3, 4, 5, 6, 7, 27, 28, 29, 30, 31] [0, 1, 2, 8, 9, 10, 11, 12, 13, 14, 15, 16, 17, 18, 19, 20, 21, 22, 23, 24, 25, 26, 32, 33, 34, 35, 36, 37, 38, 39, 40, 41, 42, 43, 44, 45, 46, 47] rfl rfl [false, false, false, true, true, true, true, true, false, false, false, false, false, false, false, false, false, false, false, false, false, false, false, false, false, false, false, true, true, true, true, true, false, false, false, false, false, false, false, false, false, false, false, false, false, false, false, false] (And.intro rfl (And.intro rfl (And.intro rfl (And.intro rfl (And.intro rfl (And.intro rfl (And.intro rfl (And.intro rfl (And.intro rfl (And.intro rfl (And.intro rfl (And.intro rfl (And.intro rfl (And.intro rfl (And.intro rfl (And.intro rfl (And.intro rfl (And.intro rfl (And.intro rfl (And.intro rfl (And.intro rfl (And.intro rfl (And.intro rfl (And.intro rfl (And.intro rfl (And.intro rfl (And.intro rfl (And.intro rfl (And.intro rfl (And.intro rfl (And.intro rfl (And.intro rfl (And.intro rfl (And.intro rfl (And.intro rfl (And.intro rfl (And.intro rfl (And.intro rfl (And.intro rfl (And.intro rfl (And.intro rfl (And.intro rfl (And.intro rfl (And.intro rfl (And.intro rfl (And.intro rfl (And.intro rfl (And.intro rfl trivial)))))))))))))))))))))))))))))))))))))))))))))))) rfl rfl (fun H locs hP hD hS => ?_)
    have hP : va_P D vwCl ((CE cy a (N 0 0) (N 3 0) (V 8 0) (V 8 1) (V 17 0) (N 1) (N 2) (N 4) (N 5) (N 6) (N 7) (V 9) (V 10) (V 11) (V 12) (V 13) (V 14) (V 15) (V 16) (V 18) (V 19) (V 20) (V 21) (V 22) (V 23)) ++ (CW cy b N)) H := hP
    have hD : va_D A ((CE cy a (N 0 0) (N 3 0) (V 8 0) (V 8 1) (V 17 0) (N 1) (N 2) (N 4) (N 5) (N 6) (N 7) (V 9) (V 10) (V 11) (V 12) (V 13) (V 14) (V 15) (V 16) (V 18) (V 19) (V 20) (V 21) (V 22) (V 23)) ++ (CW cy b N)) := hD
    refine lv_aload_n hx hb dX1_copyFrom_59 rfl (lv_at hl 0 rfl) ?_
    refine va_get (D := D) (ci := 0) (v := .ref (a 8)) (C := RX1) (T := TX1) (N := 6) hx hb hts inX1 hown hK hP 0 rfl rfl 4 (by decide) k_37 (fun _ h9 => h9) rfl dX1_copyFrom_60 ?_
    refine lv_aload_n hx hb dX1_copyFrom_63 rfl (lv_at hl 1 rfl) ?_
    refine va_get (D := D) (ci := 0) (v := .ref (b 8)) (C := RX1) (T := TX1) (N := 6) hx hb hts inX1 hown hK hP 24 rfl rfl 4 (by decide) k_37 (fun _ h9 => h9) rfl dX1_copyFrom_64 ?_
    refine fz_retMV (ws' := (CE cy a (N 0 0) (N 3 0) (N 8 0) (N 8 1) (V 17 0) (N 1) (N 2) (N 4) (N 5) (N 6) (N 7) (N 9) (N 10) (N 11) (N 12) (N 13) (N 14) (N 15) (N 16) (V 18) (V 19) (V 20) (V 21) (V 22) (V 23)) ++ (CW cy b N)) (va_runV (As := [.ref (b 8)]) (rest := []) ⟨hx, hb, hml, hown, hts⟩ (c_X2_copyFrom l D cy a V b N) (cwV 1 hts gX1_copyFrom_X2_copyFrom rfl rfl rfl (by decide +kernel) ⟨Nat.le_of_ble_eq_true rfl, Nat.le_of_ble_eq_true rfl⟩) (fz_preMV (ci := 1) (q0 := 0) hK (hP.sub (ws' := (GW cy a V) ++ (GW cy b N)) [8, 9, 10, 11, 12, 13, 14, 15, 16, 32, 33, 34, 35, 36, 37, 38, 39, 40] rfl) (hD.sub (ws' := (GW cy a V) ++ (GW cy b N)) [8, 9, 10, 11, 12, 13, 14, 15, 16, 32, 33, 34, 35, 36, 37, 38, 39, 40] (by decide) rfl) rfl rfl rfl fz_T_bl (fun _ _ _ => trivial)) rfl rfl hl.1 rfl (lv_room (Nat.le_of_ble_eq_true rfl)) dX1_copyFrom_67 ⟨Nat.zero_le _, Nat.zero_le _⟩) hP hD hS [8, 9, 10, 11, 12, 13, 14, 15, 16, 32, 33, 34, 35, 36, 37, 38, 39, 40] [0, 1, 2, 3, 4, 5, 6, 7, 17, 18, 19, 20, 21, 22, 23, 24, 25, 26, 27, 28, 29, 30, 31, 41, 42, 43, 44, 45, 46, 47] rfl rfl [false, false, false, false, false, false, false, false, true, true, true, true, true, true, true, true, true, false, false, false, false, false, false, false, false, false, false, false, false, false, false, false, true, true, true, true, true, true, true, true, true, false, false, false, false, false, false, false] (And.intro rfl (And.intro rfl (And.intro rfl (And.intro rfl (And.intro rfl (And.intro rfl (And.intro rfl (And.intro rfl (And.intro rfl (And.intro rfl (And.intro rfl (And.intro rfl (And.intro rfl (And.intro rfl (And.intro rfl (And.intro rfl (And.intro rfl (And.intro rfl (And.intro rfl (And.intro rfl (And.intro rfl (And.intro rfl (And.intro rfl (And.intro rfl (And.intro rfl (And.intro rfl (And.intro rfl (And.intro rfl (And.intro rfl (And.intro rfl (And.intro rfl (And.intro rfl (And.intro rfl (And.intro rfl (And.intro rfl (And.intro rfl (And.intro rfl (And.intro rfl (And.intro rfl (And.intro rfl (And.intro rfl (And.intro rfl (And.intro rfl (And.intro rfl (And.intro rfl (And.intro rfl (And.intro rfl (And.intro rfl trivial)))))))))))))))))))))))))))))))))))))))))))))))) rfl rfl (fun H locs hP hD hS => ?_)
    have hP : va_P D vwCl ((CE cy a (N 0 0) (N 3 0) (N 8 0) (N 8 1) (V 17 0) (N 1) (N 2) (N 4) (N 5) (N 6) (N 7) (N 9) (N 10) (N 11) (N 12) (N 13) (N 14) (N 15) (N 16) (V 18) (V 19) (V 20) (V 21) (V 22) (V 23)) ++ (CW cy b N)) H := hP
    have hD : va_D A ((CE cy a (N 0 0) (N 3 0) (N 8 0) (N 8 1) (V 17 0) (N 1) (N 2) (N 4) (N 5) (N 6) (N 7) (N 9) (N 10) (N 11) (N 12) (N 13) (N 14) (N 15) (N 16) (V 18) (V 19) (V 20) (V 21) (V 22) (V 23)) ++ (CW cy b N)) := hD
    refine lv_aload_n hx hb dX1_copyFrom_70 rfl (lv_at hl 0 rfl) ?_
    refine va_get (D := D) (ci := 0) (v := .ref (a 17)) (C := RX1) (T := TX1) (N := 6) hx hb hts inX1 hown hK hP 0 rfl rfl 5 (by decide) k_44 (fun _ h9 => h9) rfl dX1_copyFrom_71 ?_
    refine lv_aload_n hx hb dX1_copyFrom_74 rfl (lv_at hl 1 rfl) ?_
    refine va_get (D := D) (ci := 0) (v := .ref (b 17)) (C := RX1) (T := TX1) (N := 6) hx hb hts inX1 hown hK hP 24 rfl rfl 5 (by decide) k_44 (fun _ h9 => h9) rfl dX1_copyFrom_75 ?_
    refine fz_retMV (ws' := (CE cy a (N 0 0) (N 3 0) (N 8 0) (N 8 1) (N 17 0) (N 1) (N 2) (N 4) (N 5) (N 6) (N 7) (N 9) (N 10) (N 11) (N 12) (N 13) (N 14) (N 15) (N 16) (N 18) (N 19) (N 20) (N 21) (N 22) (N 23)) ++ (CW cy b N)) (va_runV (As := [.ref (b 17)]) (rest := []) ⟨hx, hb, hml, hown, hts⟩ (c_X5_copyFrom l D cy a V b N) (cwV 1 hts gX1_copyFrom_X5_copyFrom rfl rfl rfl (by decide +kernel) ⟨Nat.le_of_ble_eq_true rfl, Nat.le_of_ble_eq_true rfl⟩) (fz_preMV (ci := 4) (q0 := 0) hK (hP.sub (ws' := (LW cy a V) ++ (LW cy b N)) [17, 18, 19, 20, 21, 22, 23, 41, 42, 43, 44, 45, 46, 47] rfl) (hD.sub (ws' := (LW cy a V) ++ (LW cy b N)) [17, 18, 19, 20, 21, 22, 23, 41, 42, 43, 44, 45, 46, 47] (by decide) rfl) rfl rfl rfl fz_T_bl (fun _ _ _ => trivial)) rfl rfl hl.1 rfl (lv_room (Nat.le_of_ble_eq_true rfl)) dX1_copyFrom_78 ⟨Nat.zero_le _, Nat.zero_le _⟩) hP hD hS [17, 18, 19, 20, 21, 22, 23, 41, 42, 43, 44, 45, 46, 47] [0, 1, 2, 3, 4, 5, 6, 7, 8, 9, 10, 11, 12, 13, 14, 15, 16, 24, 25, 26, 27, 28, 29, 30, 31, 32, 33, 34, 35, 36, 37, 38, 39, 40] rfl rfl [false, false, false, false, false, false, false, false, false, false, false, false, false, false, false, false, false, true, true, true, true, true, true, true, false, false, false, false, false, false, false, false, false, false, false, false, false, false, false, false, false, true, true, true, true, true, true, true] (And.intro rfl (And.intro rfl (And.intro rfl (And.intro rfl (And.intro rfl (And.intro rfl (And.intro rfl (And.intro rfl (And.intro rfl (And.intro rfl (And.intro rfl (And.intro rfl (And.intro rfl (And.intro rfl (And.intro rfl (And.intro rfl (And.intro rfl (And.intro rfl (And.intro rfl (And.intro rfl (And.intro rfl (And.intro rfl (And.intro rfl (And.intro rfl (And.intro rfl (And.intro rfl (And.intro rfl (And.intro rfl (And.intro rfl (And.intro rfl (And.intro rfl (And.intro rfl (And.intro rfl (And.intro rfl (And.intro rfl (And.intro rfl (And.intro rfl (And.intro rfl (And.intro rfl (And.intro rfl (And.intro rfl (And.intro rfl (And.intro rfl (And.intro rfl (And.intro rfl (And.intro rfl (And.intro rfl (And.intro rfl trivial)))))))))))))))))))))))))))))))))))))))))))))))) rfl rfl (fun H locs hP hD hS => ?_)
    have hP : va_P D vwCl ((CE cy a (N 0 0) (N 3 0) (N 8 0) (N 8 1) (N 17 0) (N 1) (N 2) (N 4) (N 5) (N 6) (N 7) (N 9) (N 10) (N 11) (N 12) (N 13) (N 14) (N 15) (N 16) (N 18) (N 19) (N 20) (N 21) (N 22) (N 23)) ++ (CW cy b N)) H := hP
    have hD : va_D A ((CE cy a (N 0 0) (N 3 0) (N 8 0) (N 8 1) (N 17 0) (N 1) (N 2) (N 4) (N 5) (N 6) (N 7) (N 9) (N 10) (N 11) (N 12) (N 13) (N 14) (N 15) (N 16) (N 18) (N 19) (N 20) (N 21) (N 22) (N 23)) ++ (CW cy b N)) := hD
    exact W.vret hx hb hr (fun t9 ht9 hW9 => ⟨⟨(), rfl, trivial, fz_to ht9 hP⟩, hS.F ht9⟩) hS.2.2 dX1_copyFrom_81
  · skip
    refine lv_aload_n hx hb dX1_copyFrom_30 rfl (lv_at hl 0 rfl) ?_
    refine va_get (D := D) (ci := 0) (v := .ref (a 2)) (C := RX1) (T := TX1) (N := 6) hx hb hts inX1 hown hK hP 0 rfl rfl 2 (by decide) k_23 (fun _ h9 => h9) rfl dX1_copyFrom_31 ?_
    refine lv_iload_n hx hb dX1_copyFrom_34 rfl (lv_at hl 2 rfl) ?_
    refine lv_aload_n hx hb dX1_copyFrom_35 rfl (lv_at hl 1 rfl) ?_
    refine va_get (D := D) (ci := 0) (v := .ref (b 2)) (C := RX1) (T := TX1) (N := 6) hx hb hts inX1 hown hK hP 24 rfl rfl 2 (by decide) k_23 (fun _ h9 => h9) rfl dX1_copyFrom_36 ?_
    refine lv_iload_n hx hb dX1_copyFrom_39 rfl (lv_at hl 2 rfl) ?_
    refine fz_zald (f := N 2) hx hb hK hP 26 1 rfl rfl k rfl (by omega) (by decide) dX1_copyFrom_40 ?_
    refine fz_zast (f := Z) hx hb hK hP hD hS 2 1 rfl rfl (y := N 2 k) (fz_zo_nar hz (by omega)) k rfl (by omega) (by decide) dX1_copyFrom_41 (fun H locs hP hD hS => ?_)
    have hP : va_P D vwCl ((CE cy a (N 0 0) (V 3 0) (V 8 0) (V 8 1) (V 17 0) (N 1) (upd Z k (N 2 k)) (V 4) (V 5) (V 6) (V 7) (V 9) (V 10) (V 11) (V 12) (V 13) (V 14) (V 15) (V 16) (V 18) (V 19) (V 20) (V 21) (V 22) (V 23)) ++ (CW cy b N)) H := hP
    have hD : va_D A ((CE cy a (N 0 0) (V 3 0) (V 8 0) (V 8 1) (V 17 0) (N 1) (upd Z k (N 2 k)) (V 4) (V 5) (V 6) (V 7) (V 9) (V 10) (V 11) (V 12) (V 13) (V 14) (V 15) (V 16) (V 18) (V 19) (V 20) (V 21) (V 22) (V 23)) ++ (CW cy b N)) := hD
    refine lv_iinc (v := nI (k + 1)) (lv' := [(2, .int (nI (k + 1))), (0, .ref (a 0)), (1, .ref (b 0))]) hx hb dX1_copyFrom_42 hl (k := 2) rfl (fz_inc rfl) (by decide) rfl (fun ls hl => ?_)
    refine lv_goto (tgt := 24) hx hb dX1_copyFrom_45 (by decide) ?_
    exact ih24 (k + 1, upd Z k (N 2 k)) (show ((k + 1) ≤ 40) ∧ (∀ i, i < (k + 1) → (upd Z k (N 2 k)) i = N 2 i) from ⟨(by omega), (fz_cpS hZ)⟩) (by show 40 - (k + 1) < 40 - k; omega) _ _ ls hP hD hS (lv_sub hl [1, 2, 0] rfl)
set_option maxHeartbeats 4000000 in
set_option maxRecDepth 100000 in
/-- Calendar.changeSetting -/
theorem c_X1_changeSetting (l : Launch) (D : va_G) (cy : Nat → ClassId) (a : Nat → Nat) (V : Nat → Nat → Int32) (nt nc nq nl wk : Nat) (wf : fz_wf V nt nc nq nl wk) (x y : Int32) : fz_MI l yX1_changeSetting wsX1_changeSetting 0 0 D cy [.ref (a 0), .int x, .int y] (CW cy a V) (fz_Sg (fz_in (CW cy a V))) ((fz_set V x y).1) (CW cy a ((fz_set V x y).2)) := by
  refine Met.ofW (cc := cX1_changeSetting) (maxL := 4) (ret := (some .int)) (by decide) rfl ?_
  intro p e s m args below meth c s₁ B hml hv
  obtain ⟨rfl, hP, hK, hD0, hE⟩ := hv
  have hx := B.exec
  have hb := B.bytes
  have hr := B.returns
  have hts := atoms_spec (ws := wsX1_changeSetting) B.pre
  have hown : s.vm.findClass RX1 = some m.cls := findClass_of_methodNamed B.named
  have hlocks := B.notSynchronized
  have hD := fz_self hD0
  generalize hAe : fz_in (CW cy a V) = A at hD hE ⊢
  have hS : va_S A s.heap s.heap [] := va_S.rf
  have hl := lv_entry ([.ref (a 0), .int x, .int y]) (n := 4) (Nat.le_of_ble_eq_true rfl)
  rw [lg_entry_eq]
  generalize (lg_sl ([.ref (a 0), .int x, .int y]) ++ List.replicate (4 - (lg_sl ([.ref (a 0), .int x, .int y])).length) Slot.unset).toArray = ls at hl ⊢
  have hl : lv_has ls 4 [(0, .ref (a 0)), (1, .int x), (2, .int y)] := hl
  have k_18 := hts (.fieldLink RX1 18 "FreezeCredits$Calendar" "settings" "[I") (by decide +kernel)
  have inX1 : ∀ w ∈ u_ws RX1 TX1 6, w ∈ wsX1_changeSetting := by decide +kernel
  obtain ⟨hnt, hnt6, hnc, hnc30, hnq, hqc, hnl, hnl12, hwk, hwk39, hT, hQ, hG, hB⟩ := id wf
  obtain ⟨hNw, ⟨tF, hZF, hTF⟩, ⟨tO, hZO, hTO⟩⟩ := id hE
  refine lv_iload_n hx hb dX1_changeSetting_0 rfl (lv_at hl 1 rfl) ?_
  refine lv_if_lt (tgt := 9) hx hb dX1_changeSetting_1 (by decide) (fun c_1 => ?_) (fun c_1 => ?_)
  · skip
    refine lv_bipush (v := (-2)) hx hb dX1_changeSetting_9 (by decide) ?_
    have eF : fz_set V x y = ((-2), V) := by simp only [fz_set, c_1, ↓reduceIte, Bool.false_eq_true]
    exact W.iret (v := (-2)) hx hb hr (fun t9 ht9 hW9 => ⟨⟨_, (), rfl, (by rw [eF] <;> rfl), fz_to ht9 (by rw [eF]; exact hP)⟩, hS.F ht9⟩) hS.2.2 dX1_changeSetting_11
  · skip
    refine lv_iload_n hx hb dX1_changeSetting_4 rfl (lv_at hl 1 rfl) ?_
    refine lv_iconst (v := 4) hx hb dX1_changeSetting_5 (by decide) ?_
    refine lv_icmp_lt (tgt := 12) hx hb dX1_changeSetting_6 (by decide) (fun c_2 => ?_) (fun c_2 => ?_)
    · skip
      obtain ⟨z, hz, ez⟩ := fz_ix4 c_1 c_2
      have ez' := fz_tnat ez (by omega)
      refine lv_iload_n hx hb dX1_changeSetting_12 rfl (lv_at hl 2 rfl) ?_
      refine va_getsN (v := .ref tF) hx hb hZF hS hown (va_Nw.use rfl (fz_Nw_at hNw 9 rfl)) (fun _ h9 => h9) dX1_changeSetting_13 ?_
      refine lv_iload_n hx hb dX1_changeSetting_16 rfl (lv_at hl 1 rfl) ?_
      refine va_ti hx hb hTF hS (i := x) (by rw [show x = nI z from ez]; exact vp_in_nI (by omega) (by decide)) (v := .int (fz_from z)) (by show Value.int _ = _; rw [show x = nI z from ez, nI_clamp (by omega)]) dX1_changeSetting_17 ?_
      refine lv_icmp_lt (tgt := 30) hx hb dX1_changeSetting_18 (by decide) (fun c_3 => ?_) (fun c_3 => ?_)
      · skip
        refine lv_bipush (v := (-2)) hx hb dX1_changeSetting_30 (by decide) ?_
        have eF : fz_set V x y = ((-2), V) := by simp only [fz_set, c_1, c_2, c_3, ez', ↓reduceIte, Bool.false_eq_true]
        exact W.iret (v := (-2)) hx hb hr (fun t9 ht9 hW9 => ⟨⟨_, (), rfl, (by rw [eF] <;> rfl), fz_to ht9 (by rw [eF]; exact hP)⟩, hS.F ht9⟩) hS.2.2 dX1_changeSetting_32
      · skip
        refine lv_iload_n hx hb dX1_changeSetting_21 rfl (lv_at hl 2 rfl) ?_
        refine va_getsN (v := .ref tO) hx hb hZO hS hown (va_Nw.use rfl (fz_Nw_at hNw 10 rfl)) (fun _ h9 => h9) dX1_changeSetting_22 ?_
        refine lv_iload_n hx hb dX1_changeSetting_25 rfl (lv_at hl 1 rfl) ?_
        refine va_ti hx hb hTO hS (i := x) (by rw [show x = nI z from ez]; exact vp_in_nI (by omega) (by decide)) (v := .int (fz_upto z)) (by show Value.int _ = _; rw [show x = nI z from ez, nI_clamp (by omega)]) dX1_changeSetting_26 ?_
        refine lv_icmp_le (tgt := 33) hx hb dX1_changeSetting_27 (by decide) (fun c_4 => ?_) (fun c_4 => ?_)
        · skip
          refine lv_aload_n hx hb dX1_changeSetting_33 rfl (lv_at hl 0 rfl) ?_
          refine va_get (D := D) (ci := 0) (v := .ref (a 1)) (C := RX1) (T := TX1) (N := 6) hx hb hts inX1 hown hK hP 0 rfl rfl 1 (by decide) k_18 (fun _ h9 => h9) rfl dX1_changeSetting_34 ?_
          refine lv_iload_n hx hb dX1_changeSetting_37 rfl (lv_at hl 1 rfl) ?_
          refine fz_iald (f := V 1) hx hb hK hP 1 0 rfl rfl z ez (by omega) (by decide) dX1_changeSetting_38 ?_
          refine lv_istore_n (lv' := [(3, .int (V 1 z)), (0, .ref (a 0)), (1, .int x), (2, .int y)]) hx hb dX1_changeSetting_39 rfl hl (by decide) rfl (fun ls hl => ?_)
          refine lv_aload_n hx hb dX1_changeSetting_40 rfl (lv_at hl 1 rfl) ?_
          refine va_get (D := D) (ci := 0) (v := .ref (a 1)) (C := RX1) (T := TX1) (N := 6) hx hb hts inX1 hown hK hP 0 rfl rfl 1 (by decide) k_18 (fun _ h9 => h9) rfl dX1_changeSetting_41 ?_
          refine lv_iload_n hx hb dX1_changeSetting_44 rfl (lv_at hl 2 rfl) ?_
          refine lv_iload_n hx hb dX1_changeSetting_45 rfl (lv_at hl 3 rfl) ?_
          refine fz_iast (f := V 1) hx hb hK hP hD hS 1 0 rfl rfl z ez (by omega) (by decide) dX1_changeSetting_46 (fun H locs hP hD hS => ?_)
          have hP : va_P D vwCl (CE cy a (V 0 0) (V 3 0) (V 8 0) (V 8 1) (V 17 0) (upd (V 1) z y) (V 2) (V 4) (V 5) (V 6) (V 7) (V 9) (V 10) (V 11) (V 12) (V 13) (V 14) (V 15) (V 16) (V 18) (V 19) (V 20) (V 21) (V 22) (V 23)) H := hP
          have hD : va_D A (CE cy a (V 0 0) (V 3 0) (V 8 0) (V 8 1) (V 17 0) (upd (V 1) z y) (V 2) (V 4) (V 5) (V 6) (V 7) (V 9) (V 10) (V 11) (V 12) (V 13) (V 14) (V 15) (V 16) (V 18) (V 19) (V 20) (V 21) (V 22) (V 23)) := hD
          refine lv_iload_n hx hb dX1_changeSetting_47 rfl (lv_at hl 0 rfl) ?_
          have eF : fz_set V x y = (V 1 z, fz_up V 1 (upd (V 1) z y)) := by simp only [fz_set, c_1, c_2, c_3, c_4, ez', ↓reduceIte, Bool.false_eq_true]
          exact W.iret (v := (V 1 z)) hx hb hr (fun t9 ht9 hW9 => ⟨⟨_, (), rfl, (by rw [eF] <;> rfl), fz_to ht9 (by rw [eF]; exact hP)⟩, hS.F ht9⟩) hS.2.2 dX1_changeSetting_48
        · skip
          refine lv_bipush (v := (-2)) hx hb dX1_changeSetting_30 (by decide) ?_
          have eF : fz_set V x y = ((-2), V) := by simp only [fz_set, c_1, c_2, c_3, c_4, ez', ↓reduceIte, Bool.false_eq_true]
          exact W.iret (v := (-2)) hx hb hr (fun t9 ht9 hW9 => ⟨⟨_, (), rfl, (by rw [eF] <;> rfl), fz_to ht9 (by rw [eF]; exact hP)⟩, hS.F ht9⟩) hS.2.2 dX1_changeSetting_32
    · skip
      refine lv_bipush (v := (-2)) hx hb dX1_changeSetting_9 (by decide) ?_
      have eF : fz_set V x y = ((-2), V) := by simp only [fz_set, c_1, c_2, ↓reduceIte, Bool.false_eq_true]
      exact W.iret (v := (-2)) hx hb hr (fun t9 ht9 hW9 => ⟨⟨_, (), rfl, (by rw [eF] <;> rfl), fz_to ht9 (by rw [eF]; exact hP)⟩, hS.F ht9⟩) hS.2.2 dX1_changeSetting_11
