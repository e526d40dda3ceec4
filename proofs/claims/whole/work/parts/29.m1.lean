/-! the model: what all its methods stand on -/
set_option maxHeartbeats 4000000 in
set_option maxRecDepth 100000 in
/-- the model: thrown -/
theorem c_X9_thrown (l : Launch) (D : va_G) (cy : Nat → ClassId) (b : Nat → Nat) (M : Nat → Nat → Int32) (h : Int64) : fz_RI l yX9_thrown wsX9_thrown 0 0 D cy [.ref (b 0)] (MW cy b M h) fz_T (M 0 2) := by
  refine Met.ofW (cc := cX9_thrown) (maxL := 1) (ret := (some .int)) (by decide) rfl ?_
  intro p e s m args below meth c s₁ B hml hv
  obtain ⟨rfl, hP, hK, hE⟩ := hv
  have hx := B.exec
  have hb := B.bytes
  have hr := B.returns
  have hts := atoms_spec (ws := wsX9_thrown) B.pre
  have hown : s.vm.findClass RX9 = some m.cls := findClass_of_methodNamed B.named
  have hlocks := B.notSynchronized
  have hl := lv_entry ([.ref (b 0)]) (n := 1) (Nat.le_of_ble_eq_true rfl)
  rw [lg_entry_eq]
  generalize (lg_sl ([.ref (b 0)]) ++ List.replicate (1 - (lg_sl ([.ref (b 0)])).length) Slot.unset).toArray = ls at hl ⊢
  have hl : lv_has ls 1 [(0, .ref (b 0))] := hl
  have k_25 := hts (.fieldLink RX9 25 "FreezeCreditsModel" "thrown" "I") (by decide +kernel)
  have inX9 : ∀ w ∈ u_ws RX9 TX9 13, w ∈ wsX9_thrown := by decide +kernel
  refine lv_aload_n hx hb dX9_thrown_0 rfl (lv_at hl 0 rfl) ?_
  refine va_get (D := D) (ci := 7) (v := .int (M 0 2)) (C := RX9) (T := TX9) (N := 13) hx hb hts inX9 hown hK hP 0 rfl rfl 6 (by decide) k_25 (fun _ h9 => h9) rfl dX9_thrown_1 ?_
  exact W.iret (v := (M 0 2)) hx hb hr (fun t9 ht9 hW9 => ⟨_, rfl, rfl, ht9⟩) (fun _ h => nomatch h) dX9_thrown_4
set_option maxHeartbeats 4000000 in
set_option maxRecDepth 100000 in
/-- the model: fails -/
theorem c_X9_fails (l : Launch) (D : va_G) (cy : Nat → ClassId) (b : Nat → Nat) (M : Nat → Nat → Int32) (h : Int64) (x : Int32) : fz_MI l yX9_fails wsX9_fails 0 0 D cy [.ref (b 0), .int x] (MW cy b M h) fz_T 0 (MW cy b (fz_up M 0 (upd (M 0) 2 x)) h) := by
  refine Met.ofW (cc := cX9_fails) (maxL := 2) (ret := (some .int)) (by decide) rfl ?_
  intro p e s m args below meth c s₁ B hml hv
  obtain ⟨rfl, hP, hK, hD0, hE⟩ := hv
  have hx := B.exec
  have hb := B.bytes
  have hr := B.returns
  have hts := atoms_spec (ws := wsX9_fails) B.pre
  have hown : s.vm.findClass RX9 = some m.cls := findClass_of_methodNamed B.named
  have hlocks := B.notSynchronized
  have hD := fz_self hD0
  generalize hAe : fz_in (MW cy b M h) = A at hD ⊢
  have hS : va_S A s.heap s.heap [] := va_S.rf
  have hl := lv_entry ([.ref (b 0), .int x]) (n := 2) (Nat.le_of_ble_eq_true rfl)
  rw [lg_entry_eq]
  generalize (lg_sl ([.ref (b 0), .int x]) ++ List.replicate (2 - (lg_sl ([.ref (b 0), .int x])).length) Slot.unset).toArray = ls at hl ⊢
  have hl : lv_has ls 2 [(0, .ref (b 0)), (1, .int x)] := hl
  have k_25 := hts (.fieldLink RX9 25 "FreezeCreditsModel" "thrown" "I") (by decide +kernel)
  have inX9 : ∀ w ∈ u_ws RX9 TX9 13, w ∈ wsX9_fails := by decide +kernel
  refine lv_aload_n hx hb dX9_fails_0 rfl (lv_at hl 0 rfl) ?_
  refine lv_iload_n hx hb dX9_fails_1 rfl (lv_at hl 1 rfl) ?_
  refine va_put (D := D) (ci := 7) (v := .int x) (ty := tyX9 6) (C := RX9) (T := TX9) (N := 13) hx hb hts inX9 tyX9 tyX9_ok nmX9 hown hK hP hD hS 0 rfl rfl 6 (by decide) k_25 (fun _ h9 => h9) rfl (by decide +kernel) rfl rfl (Nat.le_of_ble_eq_true rfl) dX9_fails_2 (fun H locs hP hD hS => ?_)
  have hP : va_P D vwCl (ME cy b (M 0 0) (M 0 1) x (M 0 3) (M 0 4) (M 0 5) (M 0 6) (M 1) (M 2) (M 3) (M 4) (M 5) h) H := hP
  have hD : va_D A (ME cy b (M 0 0) (M 0 1) x (M 0 3) (M 0 4) (M 0 5) (M 0 6) (M 1) (M 2) (M 3) (M 4) (M 5) h) := hD
  refine lv_iconst (v := 0) hx hb dX9_fails_5 (by decide) ?_
  exact W.iret (v := 0) hx hb hr (fun t9 ht9 hW9 => ⟨⟨_, (), rfl, rfl, fz_to ht9 hP⟩, hS.F ht9⟩) hS.2.2 dX9_fails_6
set_option maxHeartbeats 4000000 in
set_option maxRecDepth 100000 in
/-- the model: well -/
theorem c_X9_well (l : Launch) (D : va_G) (cy : Nat → ClassId) (b : Nat → Nat) (M : Nat → Nat → Int32) (h : Int64) (x : Int32) : fz_MI l yX9_well wsX9_well 0 0 D cy [.ref (b 0), .int x] (MW cy b M h) fz_T x (MW cy b (fz_up M 0 (upd (M 0) 2 0)) h) := by
  refine Met.ofW (cc := cX9_well) (maxL := 2) (ret := (some .int)) (by decide) rfl ?_
  intro p e s m args below meth c s₁ B hml hv
  obtain ⟨rfl, hP, hK, hD0, hE⟩ := hv
  have hx := B.exec
  have hb := B.bytes
  have hr := B.returns
  have hts := atoms_spec (ws := wsX9_well) B.pre
  have hown : s.vm.findClass RX9 = some m.cls := findClass_of_methodNamed B.named
  have hlocks := B.notSynchronized
  have hD := fz_self hD0
  generalize hAe : fz_in (MW cy b M h) = A at hD ⊢
  have hS : va_S A s.heap s.heap [] := va_S.rf
  have hl := lv_entry ([.ref (b 0), .int x]) (n := 2) (Nat.le_of_ble_eq_true rfl)
  rw [lg_entry_eq]
  generalize (lg_sl ([.ref (b 0), .int x]) ++ List.replicate (2 - (lg_sl ([.ref (b 0), .int x])).length) Slot.unset).toArray = ls at hl ⊢
  have hl : lv_has ls 2 [(0, .ref (b 0)), (1, .int x)] := hl
  have k_25 := hts (.fieldLink RX9 25 "FreezeCreditsModel" "thrown" "I") (by decide +kernel)
  have inX9 : ∀ w ∈ u_ws RX9 TX9 13, w ∈ wsX9_well := by decide +kernel
  refine lv_aload_n hx hb dX9_well_0 rfl (lv_at hl 0 rfl) ?_
  refine lv_iconst (v := 0) hx hb dX9_well_1 (by decide) ?_
  refine va_put (D := D) (ci := 7) (v := .int 0) (ty := tyX9 6) (C := RX9) (T := TX9) (N := 13) hx hb hts inX9 tyX9 tyX9_ok nmX9 hown hK hP hD hS 0 rfl rfl 6 (by decide) k_25 (fun _ h9 => h9) rfl (by decide +kernel) rfl rfl (Nat.le_of_ble_eq_true rfl) dX9_well_2 (fun H locs hP hD hS => ?_)
  have hP : va_P D vwCl (ME cy b (M 0 0) (M 0 1) 0 (M 0 3) (M 0 4) (M 0 5) (M 0 6) (M 1) (M 2) (M 3) (M 4) (M 5) h) H := hP
  have hD : va_D A (ME cy b (M 0 0) (M 0 1) 0 (M 0 3) (M 0 4) (M 0 5) (M 0 6) (M 1) (M 2) (M 3) (M 4) (M 5) h) := hD
  refine lv_iload_n hx hb dX9_well_5 rfl (lv_at hl 1 rfl) ?_
  exact W.iret (v := x) hx hb hr (fun t9 ht9 hW9 => ⟨⟨_, (), rfl, rfl, fz_to ht9 hP⟩, hS.F ht9⟩) hS.2.2 dX9_well_6
set_option maxHeartbeats 4000000 in
set_option maxRecDepth 100000 in
/-- the model: in -/
theorem c_X9_in (l : Launch) (D : va_G) (cy : Nat → ClassId) (x lo hi : Int32) : fz_RI l yX9_in wsX9_in 0 0 D cy [.int x, .int lo, .int hi] ([] : va_W) fz_T (fz_b (fm_in x lo hi)) := by
  refine Met.ofW (cc := cX9_in) (maxL := 3) (ret := (some .boolean)) (by decide) rfl ?_
  intro p e s m args below meth c s₁ B hml hv
  obtain ⟨rfl, hP, hK, hE⟩ := hv
  have hx := B.exec
  have hb := B.bytes
  have hr := B.returns
  have hts := atoms_spec (ws := wsX9_in) B.pre
  have hown : s.vm.findClass RX9 = some m.cls := findClass_of_methodNamed B.named
  have hlocks := B.notSynchronized
  have hl := lv_entry ([.int x, .int lo, .int hi]) (n := 3) (Nat.le_of_ble_eq_true rfl)
  rw [lg_entry_eq]
  generalize (lg_sl ([.int x, .int lo, .int hi]) ++ List.replicate (3 - (lg_sl ([.int x, .int lo, .int hi])).length) Slot.unset).toArray = ls at hl ⊢
  have hl : lv_has ls 3 [(0, .int x), (1, .int lo), (2, .int hi)] := hl
  refine lv_iload_n hx hb dX9_in_0 rfl (lv_at hl 0 rfl) ?_
  refine lv_iload_n hx hb dX9_in_1 rfl (lv_at hl 1 rfl) ?_
  refine lv_icmp_lt (tgt := 14) hx hb dX9_in_2 (by decide) (fun c_1 => ?_) (fun c_1 => ?_)
  · skip
    refine lv_iconst (v := 0) hx hb dX9_in_14 (by decide) ?_
    exact W.zret (v := 0) hx hb hr (by decide) (fun t9 ht9 hW9 => ⟨_, rfl, (by simp [fm_in, fz_b, c_1]), ht9⟩) (fun _ h => nomatch h) dX9_in_15
  · skip
    refine lv_iload_n hx hb dX9_in_5 rfl (lv_at hl 0 rfl) ?_
    refine lv_iload_n hx hb dX9_in_6 rfl (lv_at hl 2 rfl) ?_
    refine lv_icmp_gt (tgt := 14) hx hb dX9_in_7 (by decide) (fun c_2 => ?_) (fun c_2 => ?_)
    · skip
      refine lv_iconst (v := 0) hx hb dX9_in_14 (by decide) ?_
      exact W.zret (v := 0) hx hb hr (by decide) (fun t9 ht9 hW9 => ⟨_, rfl, (by simp [fm_in, fz_b, c_1, c_2]), ht9⟩) (fun _ h => nomatch h) dX9_in_15
    · skip
      refine lv_iconst (v := 1) hx hb dX9_in_10 (by decide) ?_
      refine lv_goto (tgt := 15) hx hb dX9_in_11 (by decide) ?_
      exact W.zret (v := 1) hx hb hr (by decide) (fun t9 ht9 hW9 => ⟨_, rfl, (by simp [fm_in, fz_b, c_1, c_2]), ht9⟩) (fun _ h => nomatch h) dX9_in_15
set_option maxHeartbeats 4000000 in
set_option maxRecDepth 100000 in
/-- the model: of -/
theorem c_X9_of (l : Launch) (D : va_G) (cy : Nat → ClassId) (b : Nat → Nat) (M : Nat → Nat → Int32) (h : Int64) (t w : Nat) (ht : t < 6) (hw : w < 3) : fz_RI l yX9_of wsX9_of 0 0 D cy [.ref (b 0), .int (nI t), .int (nI w)] (MW cy b M h) fz_T (fm_t (M 1) w t) := by
  refine Met.ofW (cc := cX9_of) (maxL := 3) (ret := (some .int)) (by decide) rfl ?_
  intro p e s m args below meth c s₁ B hml hv
  obtain ⟨rfl, hP, hK, hE⟩ := hv
  have hx := B.exec
  have hb := B.bytes
  have hr := B.returns
  have hts := atoms_spec (ws := wsX9_of) B.pre
  have hown : s.vm.findClass RX9 = some m.cls := findClass_of_methodNamed B.named
  have hlocks := B.notSynchronized
  have hl := lv_entry ([.ref (b 0), .int (nI t), .int (nI w)]) (n := 3) (Nat.le_of_ble_eq_true rfl)
  rw [lg_entry_eq]
  generalize (lg_sl ([.ref (b 0), .int (nI t), .int (nI w)]) ++ List.replicate (3 - (lg_sl ([.ref (b 0), .int (nI t), .int (nI w)])).length) Slot.unset).toArray = ls at hl ⊢
  have hl : lv_has ls 3 [(0, .ref (b 0)), (1, .int (nI t)), (2, .int (nI w))] := hl
  have k_7 := hts (.fieldLink RX9 7 "FreezeCreditsModel" "now" "[I") (by decide +kernel)
  have inX9 : ∀ w ∈ u_ws RX9 TX9 13, w ∈ wsX9_of := by decide +kernel
  refine lv_aload_n hx hb dX9_of_0 rfl (lv_at hl 0 rfl) ?_
  refine va_get (D := D) (ci := 7) (v := .ref (b 1)) (C := RX9) (T := TX9) (N := 13) hx hb hts inX9 hown hK hP 0 rfl rfl 0 (by decide) k_7 (fun _ h9 => h9) rfl dX9_of_1 ?_
  refine lv_bipush (v := 49) hx hb dX9_of_4 (by decide) ?_
  refine lv_iconst (v := 3) hx hb dX9_of_6 (by decide) ?_
  refine lv_iload_n hx hb dX9_of_7 rfl (lv_at hl 1 rfl) ?_
  refine fz_imulN hx hb 3 t rfl rfl dX9_of_8 ?_
  refine fz_iaddN hx hb 49 (3 * t) rfl rfl dX9_of_9 ?_
  refine lv_iload_n hx hb dX9_of_10 rfl (lv_at hl 2 rfl) ?_
  refine fz_iaddN hx hb (49 + (3 * t)) w rfl rfl dX9_of_11 ?_
  refine fz_iald (f := M 1) hx hb hK hP 1 0 rfl rfl ((49 + (3 * t)) + w) rfl (by omega) (by decide) dX9_of_12 ?_
  exact W.iret (v := (M 1 ((49 + (3 * t)) + w))) hx hb hr (fun t9 ht9 hW9 => ⟨_, rfl, rfl, ht9⟩) (fun _ h => nomatch h) dX9_of_13
set_option maxHeartbeats 4000000 in
set_option maxRecDepth 100000 in
/-- the model: adds -/
theorem c_X9_adds (l : Launch) (D : va_G) (cy : Nat → ClassId) (b : Nat → Nat) (M : Nat → Nat → Int32) (h : Int64) (t w : Nat) (ht : t < 6) (hw : w < 3) (x : Int32) : fz_MV l yX9_adds wsX9_adds 0 0 D cy [.ref (b 0), .int (nI t), .int (nI w), .int x] (MW cy b M h) fz_T (MW cy b (fz_up M 1 (fm_ta (M 1) w t x)) h) := by
  refine Met.ofW (cc := cX9_adds) (maxL := 4) (ret := none) (by decide) rfl ?_
  intro p e s m args below meth c s₁ B hml hv
  obtain ⟨rfl, hP, hK, hD0, hE⟩ := hv
  have hx := B.exec
  have hb := B.bytes
  have hr := B.returns
  have hts := atoms_spec (ws := wsX9_adds) B.pre
  have hown : s.vm.findClass RX9 = some m.cls := findClass_of_methodNamed B.named
  have hlocks := B.notSynchronized
  have hD := fz_self hD0
  generalize hAe : fz_in (MW cy b M h) = A at hD ⊢
  have hS : va_S A s.heap s.heap [] := va_S.rf
  have hl := lv_entry ([.ref (b 0), .int (nI t), .int (nI w), .int x]) (n := 4) (Nat.le_of_ble_eq_true rfl)
  rw [lg_entry_eq]
  generalize (lg_sl ([.ref (b 0), .int (nI t), .int (nI w), .int x]) ++ List.replicate (4 - (lg_sl ([.ref (b 0), .int (nI t), .int (nI w), .int x])).length) Slot.unset).toArray = ls at hl ⊢
  have hl : lv_has ls 4 [(0, .ref (b 0)), (1, .int (nI t)), (2, .int (nI w)), (3, .int x)] := hl
  have k_7 := hts (.fieldLink RX9 7 "FreezeCreditsModel" "now" "[I") (by decide +kernel)
  have inX9 : ∀ w ∈ u_ws RX9 TX9 13, w ∈ wsX9_adds := by decide +kernel
  refine lv_aload_n hx hb dX9_adds_0 rfl (lv_at hl 0 rfl) ?_
  refine va_get (D := D) (ci := 7) (v := .ref (b 1)) (C := RX9) (T := TX9) (N := 13) hx hb hts inX9 hown hK hP 0 rfl rfl 0 (by decide) k_7 (fun _ h9 => h9) rfl dX9_adds_1 ?_
  refine lv_bipush (v := 49) hx hb dX9_adds_4 (by decide) ?_
  refine lv_iconst (v := 3) hx hb dX9_adds_6 (by decide) ?_
  refine lv_iload_n hx hb dX9_adds_7 rfl (lv_at hl 1 rfl) ?_
  refine fz_imulN hx hb 3 t rfl rfl dX9_adds_8 ?_
  refine fz_iaddN hx hb 49 (3 * t) rfl rfl dX9_adds_9 ?_
  refine lv_iload_n hx hb dX9_adds_10 rfl (lv_at hl 2 rfl) ?_
  refine fz_iaddN hx hb (49 + (3 * t)) w rfl rfl dX9_adds_11 ?_
  refine lv_dup2_11 hx hb dX9_adds_12 rfl rfl ?_
  refine fz_iald (f := M 1) hx hb hK hP 1 0 rfl rfl ((49 + (3 * t)) + w) rfl (by omega) (by decide) dX9_adds_13 ?_
  refine lv_iload_n hx hb dX9_adds_14 rfl (lv_at hl 3 rfl) ?_
  refine lv_iadd hx hb dX9_adds_15 ?_
  refine fz_iast (f := M 1) hx hb hK hP hD hS 1 0 rfl rfl ((49 + (3 * t)) + w) rfl (by omega) (by decide) dX9_adds_16 (fun H locs hP hD hS => ?_)
  have hP : va_P D vwCl (ME cy b (M 0 0) (M 0 1) (M 0 2) (M 0 3) (M 0 4) (M 0 5) (M 0 6) (upd (M 1) ((49 + (3 * t)) + w) ((M 1 ((49 + (3 * t)) + w)) + x)) (M 2) (M 3) (M 4) (M 5) h) H := hP
  have hD : va_D A (ME cy b (M 0 0) (M 0 1) (M 0 2) (M 0 3) (M 0 4) (M 0 5) (M 0 6) (upd (M 1) ((49 + (3 * t)) + w) ((M 1 ((49 + (3 * t)) + w)) + x)) (M 2) (M 3) (M 4) (M 5) h) := hD
  exact W.vret hx hb hr (fun t9 ht9 hW9 => ⟨⟨(), rfl, trivial, fz_to ht9 hP⟩, hS.F ht9⟩) hS.2.2 dX9_adds_17
set_option maxHeartbeats 4000000 in
set_option maxRecDepth 100000 in
/-- the model: told -/
theorem c_X9_told (l : Launch) (D : va_G) (cy : Nat → ClassId) (b : Nat → Nat) (M : Nat → Nat → Int32) (h : Int64) (z w : Nat) (hz : z < 30) (hw : w < 7) : fz_RI l yX9_told wsX9_told 0 0 D cy [.ref (b 0), .int (nI z), .int (nI w)] (MW cy b M h) fz_T (fm_c (M 1) w z) := by
  refine Met.ofW (cc := cX9_told) (maxL := 3) (ret := (some .int)) (by decide) rfl ?_
  intro p e s m args below meth c s₁ B hml hv
  obtain ⟨rfl, hP, hK, hE⟩ := hv
  have hx := B.exec
  have hb := B.bytes
  have hr := B.returns
  have hts := atoms_spec (ws := wsX9_told) B.pre
  have hown : s.vm.findClass RX9 = some m.cls := findClass_of_methodNamed B.named
  have hlocks := B.notSynchronized
  have hl := lv_entry ([.ref (b 0), .int (nI z), .int (nI w)]) (n := 3) (Nat.le_of_ble_eq_true rfl)
  rw [lg_entry_eq]
  generalize (lg_sl ([.ref (b 0), .int (nI z), .int (nI w)]) ++ List.replicate (3 - (lg_sl ([.ref (b 0), .int (nI z), .int (nI w)])).length) Slot.unset).toArray = ls at hl ⊢
  have hl : lv_has ls 3 [(0, .ref (b 0)), (1, .int (nI z)), (2, .int (nI w))] := hl
  have k_7 := hts (.fieldLink RX9 7 "FreezeCreditsModel" "now" "[I") (by decide +kernel)
  have inX9 : ∀ w ∈ u_ws RX9 TX9 13, w ∈ wsX9_told := by decide +kernel
  refine lv_aload_n hx hb dX9_told_0 rfl (lv_at hl 0 rfl) ?_
  refine va_get (D := D) (ci := 7) (v := .ref (b 1)) (C := RX9) (T := TX9) (N := 13) hx hb hts inX9 hown hK hP 0 rfl rfl 0 (by decide) k_7 (fun _ h9 => h9) rfl dX9_told_1 ?_
  refine lv_bipush (v := 67) hx hb dX9_told_4 (by decide) ?_
  refine lv_bipush (v := 7) hx hb dX9_told_6 (by decide) ?_
  refine lv_iload_n hx hb dX9_told_8 rfl (lv_at hl 1 rfl) ?_
  refine fz_imulN hx hb 7 z rfl rfl dX9_told_9 ?_
  refine fz_iaddN hx hb 67 (7 * z) rfl rfl dX9_told_10 ?_
  refine lv_iload_n hx hb dX9_told_11 rfl (lv_at hl 2 rfl) ?_
  refine fz_iaddN hx hb (67 + (7 * z)) w rfl rfl dX9_told_12 ?_
  refine fz_iald (f := M 1) hx hb hK hP 1 0 rfl rfl ((67 + (7 * z)) + w) rfl (by omega) (by decide) dX9_told_13 ?_
  exact W.iret (v := (M 1 ((67 + (7 * z)) + w))) hx hb hr (fun t9 ht9 hW9 => ⟨_, rfl, rfl, ht9⟩) (fun _ h => nomatch h) dX9_told_14
set_option maxHeartbeats 4000000 in
set_option maxRecDepth 100000 in
/-- the model: tells -/
theorem c_X9_tells (l : Launch) (D : va_G) (cy : Nat → ClassId) (b : Nat → Nat) (M : Nat → Nat → Int32) (h : Int64) (z w : Nat) (hz : z < 30) (hw : w < 7) (x : Int32) : fz_MV l yX9_tells wsX9_tells 0 0 D cy [.ref (b 0), .int (nI z), .int (nI w), .int x] (MW cy b M h) fz_T (MW cy b (fz_up M 1 (fm_cs (M 1) w z x)) h) := by
  refine Met.ofW (cc := cX9_tells) (maxL := 4) (ret := none) (by decide) rfl ?_
  intro p e s m args below meth c s₁ B hml hv
  obtain ⟨rfl, hP, hK, hD0, hE⟩ := hv
  have hx := B.exec
  have hb := B.bytes
  have hr := B.returns
  have hts := atoms_spec (ws := wsX9_tells) B.pre
  have hown : s.vm.findClass RX9 = some m.cls := findClass_of_methodNamed B.named
  have hlocks := B.notSynchronized
  have hD := fz_self hD0
  generalize hAe : fz_in (MW cy b M h) = A at hD ⊢
  have hS : va_S A s.heap s.heap [] := va_S.rf
  have hl := lv_entry ([.ref (b 0), .int (nI z), .int (nI w), .int x]) (n := 4) (Nat.le_of_ble_eq_true rfl)
  rw [lg_entry_eq]
  generalize (lg_sl ([.ref (b 0), .int (nI z), .int (nI w), .int x]) ++ List.replicate (4 - (lg_sl ([.ref (b 0), .int (nI z), .int (nI w), .int x])).length) Slot.unset).toArray = ls at hl ⊢
  have hl : lv_has ls 4 [(0, .ref (b 0)), (1, .int (nI z)), (2, .int (nI w)), (3, .int x)] := hl
  have k_7 := hts (.fieldLink RX9 7 "FreezeCreditsModel" "now" "[I") (by decide +kernel)
  have inX9 : ∀ w ∈ u_ws RX9 TX9 13, w ∈ wsX9_tells := by decide +kernel
  refine lv_aload_n hx hb dX9_tells_0 rfl (lv_at hl 0 rfl) ?_
  refine va_get (D := D) (ci := 7) (v := .ref (b 1)) (C := RX9) (T := TX9) (N := 13) hx hb hts inX9 hown hK hP 0 rfl rfl 0 (by decide) k_7 (fun _ h9 => h9) rfl dX9_tells_1 ?_
  refine lv_bipush (v := 67) hx hb dX9_tells_4 (by decide) ?_
  refine lv_bipush (v := 7) hx hb dX9_tells_6 (by decide) ?_
  refine lv_iload_n hx hb dX9_tells_8 rfl (lv_at hl 1 rfl) ?_
  refine fz_imulN hx hb 7 z rfl rfl dX9_tells_9 ?_
  refine fz_iaddN hx hb 67 (7 * z) rfl rfl dX9_tells_10 ?_
  refine lv_iload_n hx hb dX9_tells_11 rfl (lv_at hl 2 rfl) ?_
  refine fz_iaddN hx hb (67 + (7 * z)) w rfl rfl dX9_tells_12 ?_
  refine lv_iload_n hx hb dX9_tells_13 rfl (lv_at hl 3 rfl) ?_
  refine fz_iast (f := M 1) hx hb hK hP hD hS 1 0 rfl rfl ((67 + (7 * z)) + w) rfl (by omega) (by decide) dX9_tells_14 (fun H locs hP hD hS => ?_)
  have hP : va_P D vwCl (ME cy b (M 0 0) (M 0 1) (M 0 2) (M 0 3) (M 0 4) (M 0 5) (M 0 6) (upd (M 1) ((67 + (7 * z)) + w) x) (M 2) (M 3) (M 4) (M 5) h) H := hP
  have hD : va_D A (ME cy b (M 0 0) (M 0 1) (M 0 2) (M 0 3) (M 0 4) (M 0 5) (M 0 6) (upd (M 1) ((67 + (7 * z)) + w) x) (M 2) (M 3) (M 4) (M 5) h) := hD
  exact W.vret hx hb hr (fun t9 ht9 hW9 => ⟨⟨(), rfl, trivial, fz_to ht9 hP⟩, hS.F ht9⟩) hS.2.2 dX9_tells_15
set_option maxHeartbeats 4000000 in
set_option maxRecDepth 100000 in
/-- the model: loanOf -/
theorem c_X9_loanOf (l : Launch) (D : va_G) (cy : Nat → ClassId) (b : Nat → Nat) (M : Nat → Nat → Int32) (h : Int64) (q w : Nat) (hq : q < 12) (hw : w < 6) : fz_RI l yX9_loanOf wsX9_loanOf 0 0 D cy [.ref (b 0), .int (nI q), .int (nI w)] (MW cy b M h) fz_T (fm_l (M 1) w q) := by
  refine Met.ofW (cc := cX9_loanOf) (maxL := 3) (ret := (some .int)) (by decide) rfl ?_
  intro p e s m args below meth c s₁ B hml hv
  obtain ⟨rfl, hP, hK, hE⟩ := hv
  have hx := B.exec
  have hb := B.bytes
  have hr := B.returns
  have hts := atoms_spec (ws := wsX9_loanOf) B.pre
  have hown : s.vm.findClass RX9 = some m.cls := findClass_of_methodNamed B.named
  have hlocks := B.notSynchronized
  have hl := lv_entry ([.ref (b 0), .int (nI q), .int (nI w)]) (n := 3) (Nat.le_of_ble_eq_true rfl)
  rw [lg_entry_eq]
  generalize (lg_sl ([.ref (b 0), .int (nI q), .int (nI w)]) ++ List.replicate (3 - (lg_sl ([.ref (b 0), .int (nI q), .int (nI w)])).length) Slot.unset).toArray = ls at hl ⊢
  have hl : lv_has ls 3 [(0, .ref (b 0)), (1, .int (nI q)), (2, .int (nI w))] := hl
  have k_7 := hts (.fieldLink RX9 7 "FreezeCreditsModel" "now" "[I") (by decide +kernel)
  have inX9 : ∀ w ∈ u_ws RX9 TX9 13, w ∈ wsX9_loanOf := by decide +kernel
  refine lv_aload_n hx hb dX9_loanOf_0 rfl (lv_at hl 0 rfl) ?_
  refine va_get (D := D) (ci := 7) (v := .ref (b 1)) (C := RX9) (T := TX9) (N := 13) hx hb hts inX9 hown hK hP 0 rfl rfl 0 (by decide) k_7 (fun _ h9 => h9) rfl dX9_loanOf_1 ?_
  refine lv_sipush (v := 277) hx hb dX9_loanOf_4 (by decide) ?_
  refine lv_bipush (v := 6) hx hb dX9_loanOf_7 (by decide) ?_
  refine lv_iload_n hx hb dX9_loanOf_9 rfl (lv_at hl 1 rfl) ?_
  refine fz_imulN hx hb 6 q rfl rfl dX9_loanOf_10 ?_
  refine fz_iaddN hx hb 277 (6 * q) rfl rfl dX9_loanOf_11 ?_
  refine lv_iload_n hx hb dX9_loanOf_12 rfl (lv_at hl 2 rfl) ?_
  refine fz_iaddN hx hb (277 + (6 * q)) w rfl rfl dX9_loanOf_13 ?_
  refine fz_iald (f := M 1) hx hb hK hP 1 0 rfl rfl ((277 + (6 * q)) + w) rfl (by omega) (by decide) dX9_loanOf_14 ?_
  exact W.iret (v := (M 1 ((277 + (6 * q)) + w))) hx hb hr (fun t9 ht9 hW9 => ⟨_, rfl, rfl, ht9⟩) (fun _ h => nomatch h) dX9_loanOf_15
set_option maxHeartbeats 4000000 in
set_option maxRecDepth 100000 in
/-- the model: isTeam -/
theorem c_X9_isTeam (l : Launch) (D : va_G) (cy : Nat → ClassId) (b : Nat → Nat) (M : Nat → Nat → Int32) (h : Int64) (x : Int32) (n : Nat) (hn : M 1 1 = nI n) (hn30 : n ≤ 30) : fz_RI l yX9_isTeam wsX9_isTeam 1 22 D cy [.ref (b 0), .int x] (MW cy b M h) fz_T (fz_b (fz_ix x (M 1 1))) := by
  refine Met.ofW (cc := cX9_isTeam) (maxL := 2) (ret := (some .boolean)) (by decide) rfl ?_
  intro p e s m args below meth c s₁ B hml hv
  obtain ⟨rfl, hP, hK, hE⟩ := hv
  have hx := B.exec
  have hb := B.bytes
  have hr := B.returns
  have hts := atoms_spec (ws := wsX9_isTeam) B.pre
  have hown : s.vm.findClass RX9 = some m.cls := findClass_of_methodNamed B.named
  have hlocks := B.notSynchronized
  have hl := lv_entry ([.ref (b 0), .int x]) (n := 2) (Nat.le_of_ble_eq_true rfl)
  rw [lg_entry_eq]
  generalize (lg_sl ([.ref (b 0), .int x]) ++ List.replicate (2 - (lg_sl ([.ref (b 0), .int x])).length) Slot.unset).toArray = ls at hl ⊢
  have hl : lv_has ls 2 [(0, .ref (b 0)), (1, .int x)] := hl
  have k_7 := hts (.fieldLink RX9 7 "FreezeCreditsModel" "now" "[I") (by decide +kernel)
  have inX9 : ∀ w ∈ u_ws RX9 TX9 13, w ∈ wsX9_isTeam := by decide +kernel
  refine lv_iload_n hx hb dX9_isTeam_0 rfl (lv_at hl 1 rfl) ?_
  refine lv_iconst (v := 0) hx hb dX9_isTeam_1 (by decide) ?_
  refine lv_aload_n hx hb dX9_isTeam_2 rfl (lv_at hl 0 rfl) ?_
  refine va_get (D := D) (ci := 7) (v := .ref (b 1)) (C := RX9) (T := TX9) (N := 13) hx hb hts inX9 hown hK hP 0 rfl rfl 0 (by decide) k_7 (fun _ h9 => h9) rfl dX9_isTeam_3 ?_
  refine lv_iconst (v := 1) hx hb dX9_isTeam_6 (by decide) ?_
  refine fz_iald (f := M 1) hx hb hK hP 1 0 rfl rfl 1 rfl (by omega) (by decide) dX9_isTeam_7 ?_
  refine lv_iconst (v := 1) hx hb dX9_isTeam_8 (by decide) ?_
  refine lv_isub hx hb dX9_isTeam_9 ?_
  refine fz_retR (va_runS (As := [.int x, .int 0, .int ((M 1 1) - 1)]) (rest := []) ⟨hx, hb, hml, hown, hts⟩ (c_X9_in l D cy x 0 ((M 1 1) - 1)) (va_cwS 3 hts gX9_isTeam_X9_in rfl rfl rfl (by decide +kernel) ⟨Nat.le_of_ble_eq_true rfl, Nat.le_of_ble_eq_true rfl⟩) (fz_preS hK (fz_nil) fz_T_bl (fun _ _ _ => trivial)) rfl rfl hl.1 rfl (lv_room (Nat.le_of_ble_eq_true rfl)) dX9_isTeam_10 ⟨Nat.zero_le _, Nat.zero_le _⟩) ?_
  exact W.zret (v := (fz_b (fm_in x 0 ((M 1 1) - 1)))) hx hb hr (fz_b_narrow (fm_in x 0 ((M 1 1) - 1))) (fun t9 ht9 hW9 => ⟨_, rfl, (by rw [hn, fm_in_ix (by omega)]), ht9⟩) (fun _ h => nomatch h) dX9_isTeam_13
set_option maxHeartbeats 4000000 in
set_option maxRecDepth 100000 in
/-- the model: isChange -/
theorem c_X9_isChange (l : Launch) (D : va_G) (cy : Nat → ClassId) (b : Nat → Nat) (M : Nat → Nat → Int32) (h : Int64) (x : Int32) (n : Nat) (hn : M 1 2 = nI n) (hn30 : n ≤ 30) : fz_RI l yX9_isChange wsX9_isChange 1 22 D cy [.ref (b 0), .int x] (MW cy b M h) fz_T (fz_b (fz_ix x (M 1 2))) := by
  refine Met.ofW (cc := cX9_isChange) (maxL := 2) (ret := (some .boolean)) (by decide) rfl ?_
  intro p e s m args below meth c s₁ B hml hv
  obtain ⟨rfl, hP, hK, hE⟩ := hv
  have hx := B.exec
  have hb := B.bytes
  have hr := B.returns
  have hts := atoms_spec (ws := wsX9_isChange) B.pre
  have hown : s.vm.findClass RX9 = some m.cls := findClass_of_methodNamed B.named
  have hlocks := B.notSynchronized
  have hl := lv_entry ([.ref (b 0), .int x]) (n := 2) (Nat.le_of_ble_eq_true rfl)
  rw [lg_entry_eq]
  generalize (lg_sl ([.ref (b 0), .int x]) ++ List.replicate (2 - (lg_sl ([.ref (b 0), .int x])).length) Slot.unset).toArray = ls at hl ⊢
  have hl : lv_has ls 2 [(0, .ref (b 0)), (1, .int x)] := hl
  have k_7 := hts (.fieldLink RX9 7 "FreezeCreditsModel" "now" "[I") (by decide +kernel)
  have inX9 : ∀ w ∈ u_ws RX9 TX9 13, w ∈ wsX9_isChange := by decide +kernel
  refine lv_iload_n hx hb dX9_isChange_0 rfl (lv_at hl 1 rfl) ?_
  refine lv_iconst (v := 0) hx hb dX9_isChange_1 (by decide) ?_
  refine lv_aload_n hx hb dX9_isChange_2 rfl (lv_at hl 0 rfl) ?_
  refine va_get (D := D) (ci := 7) (v := .ref (b 1)) (C := RX9) (T := TX9) (N := 13) hx hb hts inX9 hown hK hP 0 rfl rfl 0 (by decide) k_7 (fun _ h9 => h9) rfl dX9_isChange_3 ?_
  refine lv_iconst (v := 2) hx hb dX9_isChange_6 (by decide) ?_
  refine fz_iald (f := M 1) hx hb hK hP 1 0 rfl rfl 2 rfl (by omega) (by decide) dX9_isChange_7 ?_
  refine lv_iconst (v := 1) hx hb dX9_isChange_8 (by decide) ?_
  refine lv_isub hx hb dX9_isChange_9 ?_
  refine fz_retR (va_runS (As := [.int x, .int 0, .int ((M 1 2) - 1)]) (rest := []) ⟨hx, hb, hml, hown, hts⟩ (c_X9_in l D cy x 0 ((M 1 2) - 1)) (va_cwS 3 hts gX9_isChange_X9_in rfl rfl rfl (by decide +kernel) ⟨Nat.le_of_ble_eq_true rfl, Nat.le_of_ble_eq_true rfl⟩) (fz_preS hK (fz_nil) fz_T_bl (fun _ _ _ => trivial)) rfl rfl hl.1 rfl (lv_room (Nat.le_of_ble_eq_true rfl)) dX9_isChange_10 ⟨Nat.zero_le _, Nat.zero_le _⟩) ?_
  exact W.zret (v := (fz_b (fm_in x 0 ((M 1 2) - 1)))) hx hb hr (fz_b_narrow (fm_in x 0 ((M 1 2) - 1))) (fun t9 ht9 hW9 => ⟨_, rfl, (by rw [hn, fm_in_ix (by omega)]), ht9⟩) (fun _ h => nomatch h) dX9_isChange_13
set_option maxHeartbeats 4000000 in
set_option maxRecDepth 100000 in
/-- the model: isLoan -/
theorem c_X9_isLoan (l : Launch) (D : va_G) (cy : Nat → ClassId) (b : Nat → Nat) (M : Nat → Nat → Int32) (h : Int64) (x : Int32) (n : Nat) (hn : M 1 3 = nI n) (hn30 : n ≤ 30) : fz_RI l yX9_isLoan wsX9_isLoan 1 22 D cy [.ref (b 0), .int x] (MW cy b M h) fz_T (fz_b (fz_ix x (M 1 3))) := by
  refine Met.ofW (cc := cX9_isLoan) (maxL := 2) (ret := (some .boolean)) (by decide) rfl ?_
  intro p e s m args below meth c s₁ B hml hv
  obtain ⟨rfl, hP, hK, hE⟩ := hv
  have hx := B.exec
  have hb := B.bytes
  have hr := B.returns
  have hts := atoms_spec (ws := wsX9_isLoan) B.pre
  have hown : s.vm.findClass RX9 = some m.cls := findClass_of_methodNamed B.named
  have hlocks := B.notSynchronized
  have hl := lv_entry ([.ref (b 0), .int x]) (n := 2) (Nat.le_of_ble_eq_true rfl)
  rw [lg_entry_eq]
  generalize (lg_sl ([.ref (b 0), .int x]) ++ List.replicate (2 - (lg_sl ([.ref (b 0), .int x])).length) Slot.unset).toArray = ls at hl ⊢
  have hl : lv_has ls 2 [(0, .ref (b 0)), (1, .int x)] := hl
  have k_7 := hts (.fieldLink RX9 7 "FreezeCreditsModel" "now" "[I") (by decide +kernel)
  have inX9 : ∀ w ∈ u_ws RX9 TX9 13, w ∈ wsX9_isLoan := by decide +kernel
  refine lv_iload_n hx hb dX9_isLoan_0 rfl (lv_at hl 1 rfl) ?_
  refine lv_iconst (v := 0) hx hb dX9_isLoan_1 (by decide) ?_
  refine lv_aload_n hx hb dX9_isLoan_2 rfl (lv_at hl 0 rfl) ?_
  refine va_get (D := D) (ci := 7) (v := .ref (b 1)) (C := RX9) (T := TX9) (N := 13) hx hb hts inX9 hown hK hP 0 rfl rfl 0 (by decide) k_7 (fun _ h9 => h9) rfl dX9_isLoan_3 ?_
  refine lv_iconst (v := 3) hx hb dX9_isLoan_6 (by decide) ?_
  refine fz_iald (f := M 1) hx hb hK hP 1 0 rfl rfl 3 rfl (by omega) (by decide) dX9_isLoan_7 ?_
  refine lv_iconst (v := 1) hx hb dX9_isLoan_8 (by decide) ?_
  refine lv_isub hx hb dX9_isLoan_9 ?_
  refine fz_retR (va_runS (As := [.int x, .int 0, .int ((M 1 3) - 1)]) (rest := []) ⟨hx, hb, hml, hown, hts⟩ (c_X9_in l D cy x 0 ((M 1 3) - 1)) (va_cwS 3 hts gX9_isLoan_X9_in rfl rfl rfl (by decide +kernel) ⟨Nat.le_of_ble_eq_true rfl, Nat.le_of_ble_eq_true rfl⟩) (fz_preS hK (fz_nil) fz_T_bl (fun _ _ _ => trivial)) rfl rfl hl.1 rfl (lv_room (Nat.le_of_ble_eq_true rfl)) dX9_isLoan_10 ⟨Nat.zero_le _, Nat.zero_le _⟩) ?_
  exact W.zret (v := (fz_b (fm_in x 0 ((M 1 3) - 1)))) hx hb hr (fz_b_narrow (fm_in x 0 ((M 1 3) - 1))) (fun t9 ht9 hW9 => ⟨_, rfl, (by rw [hn, fm_in_ix (by omega)]), ht9⟩) (fun _ h => nomatch h) dX9_isLoan_13
set_option maxHeartbeats 4000000 in
set_option maxRecDepth 100000 in
/-- the model: isFrozen -/
theorem c_X9_isFrozen (l : Launch) (D : va_G) (cy : Nat → ClassId) (b : Nat → Nat) (M : Nat → Nat → Int32) (h : Int64) (wk : Nat) (hwk : M 1 0 = nI wk) (hwk39 : wk ≤ 39) : fz_RI l yX9_isFrozen wsX9_isFrozen 0 0 D cy [.ref (b 0)] (MW cy b M h) fz_T (fz_b (decide (M 1 (9 + wk) = 1))) := by
  refine Met.ofW (cc := cX9_isFrozen) (maxL := 1) (ret := (some .boolean)) (by decide) rfl ?_
  intro p e s m args below meth c s₁ B hml hv
  obtain ⟨rfl, hP, hK, hE⟩ := hv
  have hx := B.exec
  have hb := B.bytes
  have hr := B.returns
  have hts := atoms_spec (ws := wsX9_isFrozen) B.pre
  have hown : s.vm.findClass RX9 = some m.cls := findClass_of_methodNamed B.named
  have hlocks := B.notSynchronized
  have hl := lv_entry ([.ref (b 0)]) (n := 1) (Nat.le_of_ble_eq_true rfl)
  rw [lg_entry_eq]
  generalize (lg_sl ([.ref (b 0)]) ++ List.replicate (1 - (lg_sl ([.ref (b 0)])).length) Slot.unset).toArray = ls at hl ⊢
  have hl : lv_has ls 1 [(0, .ref (b 0))] := hl
  have k_7 := hts (.fieldLink RX9 7 "FreezeCreditsModel" "now" "[I") (by decide +kernel)
  have inX9 : ∀ w ∈ u_ws RX9 TX9 13, w ∈ wsX9_isFrozen := by decide +kernel
  refine lv_aload_n hx hb dX9_isFrozen_0 rfl (lv_at hl 0 rfl) ?_
  refine va_get (D := D) (ci := 7) (v := .ref (b 1)) (C := RX9) (T := TX9) (N := 13) hx hb hts inX9 hown hK hP 0 rfl rfl 0 (by decide) k_7 (fun _ h9 => h9) rfl dX9_isFrozen_1 ?_
  refine lv_bipush (v := 9) hx hb dX9_isFrozen_4 (by decide) ?_
  refine lv_aload_n hx hb dX9_isFrozen_6 rfl (lv_at hl 0 rfl) ?_
  refine va_get (D := D) (ci := 7) (v := .ref (b 1)) (C := RX9) (T := TX9) (N := 13) hx hb hts inX9 hown hK hP 0 rfl rfl 0 (by decide) k_7 (fun _ h9 => h9) rfl dX9_isFrozen_7 ?_
  refine lv_iconst (v := 0) hx hb dX9_isFrozen_10 (by decide) ?_
  refine fz_iald (f := M 1) hx hb hK hP 1 0 rfl rfl 0 rfl (by omega) (by decide) dX9_isFrozen_11 ?_
  refine fz_iaddN hx hb 9 wk rfl hwk dX9_isFrozen_12 ?_
  refine fz_iald (f := M 1) hx hb hK hP 1 0 rfl rfl (9 + wk) rfl (by omega) (by decide) dX9_isFrozen_13 ?_
  refine lv_iconst (v := 1) hx hb dX9_isFrozen_14 (by decide) ?_
  refine lv_icmp_ne (tgt := 22) hx hb dX9_isFrozen_15 (by decide) (fun c_1 => ?_) (fun c_1 => ?_)
  · skip
    refine lv_iconst (v := 0) hx hb dX9_isFrozen_22 (by decide) ?_
    exact W.zret (v := 0) hx hb hr (by decide) (fun t9 ht9 hW9 => ⟨_, rfl, (by simp [fz_b, c_1]), ht9⟩) (fun _ h => nomatch h) dX9_isFrozen_23
  · skip
    refine lv_iconst (v := 1) hx hb dX9_isFrozen_18 (by decide) ?_
    refine lv_goto (tgt := 23) hx hb dX9_isFrozen_19 (by decide) ?_
    exact W.zret (v := 1) hx hb hr (by decide) (fun t9 ht9 hW9 => ⟨_, rfl, (by simp [fz_b, c_1]), ht9⟩) (fun _ h => nomatch h) dX9_isFrozen_23
set_option maxHeartbeats 4000000 in
set_option maxRecDepth 100000 in
/-- the model: owes -/
theorem c_X9_owes (l : Launch) (D : va_G) (cy : Nat → ClassId) (b : Nat → Nat) (M : Nat → Nat → Int32) (h : Int64) (t : Int32) (nl : Nat) (hnl : M 1 3 = nI nl) (hnl12 : nl ≤ 12) : fz_RI l yX9_owes wsX9_owes 1 22 D cy [.ref (b 0), .int t] (MW cy b M h) fz_T (fz_b (fz_owes (fm_l (M 1) 1) (fm_l (M 1) 3) (fm_l (M 1) 4) (M 1 0) nl t)) := by
  refine Met.ofW (cc := cX9_owes) (maxL := 3) (ret := (some .boolean)) (by decide) rfl ?_
  intro p e s m args below meth c s₁ B hml hv
  obtain ⟨rfl, hP, hK, hE⟩ := hv
  have hx := B.exec
  have hb := B.bytes
  have hr := B.returns
  have hts := atoms_spec (ws := wsX9_owes) B.pre
  have hown : s.vm.findClass RX9 = some m.cls := findClass_of_methodNamed B.named
  have hlocks := B.notSynchronized
  have hl := lv_entry ([.ref (b 0), .int t]) (n := 3) (Nat.le_of_ble_eq_true rfl)
  rw [lg_entry_eq]
  generalize (lg_sl ([.ref (b 0), .int t]) ++ List.replicate (3 - (lg_sl ([.ref (b 0), .int t])).length) Slot.unset).toArray = ls at hl ⊢
  have hl : lv_has ls 3 [(0, .ref (b 0)), (1, .int t)] := hl
  have k_7 := hts (.fieldLink RX9 7 "FreezeCreditsModel" "now" "[I") (by decide +kernel)
  have inX9 : ∀ w ∈ u_ws RX9 TX9 13, w ∈ wsX9_owes := by decide +kernel
  refine lv_iconst (v := 0) hx hb dX9_owes_0 (by decide) ?_
  refine lv_istore_n (lv' := [(2, .int 0), (0, .ref (b 0)), (1, .int t)]) hx hb dX9_owes_1 rfl hl (by decide) rfl (fun ls hl => ?_)
  refine fz_loop (σ := Nat) (pc := 2) (nL := 3) (fun k => [(0, .ref (b 0)), (1, .int t), (2, .int (nI k))]) (fun k => (k ≤ nl) ∧ (fz_any (fun i => decide (fm_l (M 1) 1 i = t) && !(decide (fm_l (M 1) 3 i ≤ 0)) && !(decide (M 1 0 ≤ fm_l (M 1) 4 i))) k = false)) (fun k => nl - k) ?_ 0 (show (0 ≤ nl) ∧ (fz_any (fun i => decide (fm_l (M 1) 1 i = t) && !(decide (fm_l (M 1) 3 i ≤ 0)) && !(decide (M 1 0 ≤ fm_l (M 1) 4 i))) 0 = false) from ⟨(by omega), rfl⟩) ls (lv_sub hl [1, 2, 0] rfl)
  rintro k ⟨hk, ha⟩ ih2 ls hl
  have hk : k ≤ nl := hk
  have ha : fz_any (fun i => decide (fm_l (M 1) 1 i = t) && !(decide (fm_l (M 1) 3 i ≤ 0)) && !(decide (M 1 0 ≤ fm_l (M 1) 4 i))) k = false := ha
  have hl : lv_has ls 3 [(0, .ref (b 0)), (1, .int t), (2, .int (nI k))] := hl
  refine lv_iload_n hx hb dX9_owes_2 rfl (lv_at hl 2 rfl) ?_
  refine lv_aload_n hx hb dX9_owes_3 rfl (lv_at hl 0 rfl) ?_
  refine va_get (D := D) (ci := 7) (v := .ref (b 1)) (C := RX9) (T := TX9) (N := 13) hx hb hts inX9 hown hK hP 0 rfl rfl 0 (by decide) k_7 (fun _ h9 => h9) rfl dX9_owes_4 ?_
  refine lv_iconst (v := 3) hx hb dX9_owes_7 (by decide) ?_
  refine fz_iald (f := M 1) hx hb hK hP 1 0 rfl rfl 3 rfl (by omega) (by decide) dX9_owes_8 ?_
  refine fz_geN (tgt := 54) hx hb k nl rfl hnl dX9_owes_9 (by decide) (by omega) (by omega) (fun c_1 => ?_) (fun c_1 => ?_)
  · skip
    refine lv_iconst (v := 0) hx hb dX9_owes_54 (by decide) ?_
    exact W.zret (v := 0) hx hb hr (by decide) (fun t9 ht9 hW9 => ⟨_, rfl, (by rw [fz_owes, show nl = k by omega, ha]; rfl), ht9⟩) (fun _ h => nomatch h) dX9_owes_55
  · skip
    refine lv_aload_n hx hb dX9_owes_12 rfl (lv_at hl 0 rfl) ?_
    refine lv_iload_n hx hb dX9_owes_13 rfl (lv_at hl 2 rfl) ?_
    refine lv_iconst (v := 1) hx hb dX9_owes_14 (by decide) ?_
    refine fz_retR (va_runV (As := [.int (nI k), .int (nI 1)]) (rest := []) ⟨hx, hb, hml, hown, hts⟩ (c_X9_loanOf l D cy b M h k 1 (by omega) (by omega)) (cwV 2 hts gX9_owes_X9_loanOf rfl rfl rfl (by decide +kernel) ⟨Nat.le_of_ble_eq_true rfl, Nat.le_of_ble_eq_true rfl⟩) (fz_preV (ci := 7) (q0 := 0) hK hP rfl rfl rfl fz_T_bl (fun _ _ _ => trivial)) rfl rfl hl.1 rfl (lv_room (Nat.le_of_ble_eq_true rfl)) dX9_owes_15 ⟨Nat.zero_le _, Nat.zero_le _⟩) ?_
    refine lv_iload_n hx hb dX9_owes_18 rfl (lv_at hl 1 rfl) ?_
    refine lv_icmp_ne (tgt := 48) hx hb dX9_owes_19 (by decide) (fun c_2 => ?_) (fun c_2 => ?_)
    · skip
      refine lv_iinc (v := nI (k + 1)) (lv' := [(2, .int (nI (k + 1))), (0, .ref (b 0)), (1, .int t)]) hx hb dX9_owes_48 hl (k := 2) rfl (fz_inc rfl) (by decide) rfl (fun ls hl => ?_)
      refine lv_goto (tgt := 2) hx hb dX9_owes_51 (by decide) ?_
      exact ih2 (k + 1) (show ((k + 1) ≤ nl) ∧ (fz_any (fun i => decide (fm_l (M 1) 1 i = t) && !(decide (fm_l (M 1) 3 i ≤ 0)) && !(decide (M 1 0 ≤ fm_l (M 1) 4 i))) (k + 1) = false) from ⟨(by omega), (fz_any_step ha (by simp [c_1, c_2]))⟩) (by show nl - (k + 1) < nl - k; omega) ls (lv_sub hl [1, 2, 0] rfl)
    · skip
      refine lv_aload_n hx hb dX9_owes_22 rfl (lv_at hl 0 rfl) ?_
      refine lv_iload_n hx hb dX9_owes_23 rfl (lv_at hl 2 rfl) ?_
      refine lv_iconst (v := 3) hx hb dX9_owes_24 (by decide) ?_
      refine fz_retR (va_runV (As := [.int (nI k), .int (nI 3)]) (rest := []) ⟨hx, hb, hml, hown, hts⟩ (c_X9_loanOf l D cy b M h k 3 (by omega) (by omega)) (cwV 2 hts gX9_owes_X9_loanOf rfl rfl rfl (by decide +kernel) ⟨Nat.le_of_ble_eq_true rfl, Nat.le_of_ble_eq_true rfl⟩) (fz_preV (ci := 7) (q0 := 0) hK hP rfl rfl rfl fz_T_bl (fun _ _ _ => trivial)) rfl rfl hl.1 rfl (lv_room (Nat.le_of_ble_eq_true rfl)) dX9_owes_25 ⟨Nat.zero_le _, Nat.zero_le _⟩) ?_
      refine lv_if_le (tgt := 48) hx hb dX9_owes_28 (by decide) (fun c_3 => ?_) (fun c_3 => ?_)
      · skip
        refine lv_iinc (v := nI (k + 1)) (lv' := [(2, .int (nI (k + 1))), (0, .ref (b 0)), (1, .int t)]) hx hb dX9_owes_48 hl (k := 2) rfl (fz_inc rfl) (by decide) rfl (fun ls hl => ?_)
        refine lv_goto (tgt := 2) hx hb dX9_owes_51 (by decide) ?_
        exact ih2 (k + 1) (show ((k + 1) ≤ nl) ∧ (fz_any (fun i => decide (fm_l (M 1) 1 i = t) && !(decide (fm_l (M 1) 3 i ≤ 0)) && !(decide (M 1 0 ≤ fm_l (M 1) 4 i))) (k + 1) = false) from ⟨(by omega), (fz_any_step ha (by simp [c_1, c_2, c_3]))⟩) (by show nl - (k + 1) < nl - k; omega) ls (lv_sub hl [1, 2, 0] rfl)
      · skip
        refine lv_aload_n hx hb dX9_owes_31 rfl (lv_at hl 0 rfl) ?_
        refine lv_iload_n hx hb dX9_owes_32 rfl (lv_at hl 2 rfl) ?_
        refine lv_iconst (v := 4) hx hb dX9_owes_33 (by decide) ?_
        refine fz_retR (va_runV (As := [.int (nI k), .int (nI 4)]) (rest := []) ⟨hx, hb, hml, hown, hts⟩ (c_X9_loanOf l D cy b M h k 4 (by omega) (by omega)) (cwV 2 hts gX9_owes_X9_loanOf rfl rfl rfl (by decide +kernel) ⟨Nat.le_of_ble_eq_true rfl, Nat.le_of_ble_eq_true rfl⟩) (fz_preV (ci := 7) (q0 := 0) hK hP rfl rfl rfl fz_T_bl (fun _ _ _ => trivial)) rfl rfl hl.1 rfl (lv_room (Nat.le_of_ble_eq_true rfl)) dX9_owes_34 ⟨Nat.zero_le _, Nat.zero_le _⟩) ?_
        refine lv_aload_n hx hb dX9_owes_37 rfl (lv_at hl 0 rfl) ?_
        refine va_get (D := D) (ci := 7) (v := .ref (b 1)) (C := RX9) (T := TX9) (N := 13) hx hb hts inX9 hown hK hP 0 rfl rfl 0 (by decide) k_7 (fun _ h9 => h9) rfl dX9_owes_38 ?_
        refine lv_iconst (v := 0) hx hb dX9_owes_41 (by decide) ?_
        refine fz_iald (f := M 1) hx hb hK hP 1 0 rfl rfl 0 rfl (by omega) (by decide) dX9_owes_42 ?_
        refine lv_icmp_ge (tgt := 48) hx hb dX9_owes_43 (by decide) (fun c_4 => ?_) (fun c_4 => ?_)
        · skip
          refine lv_iinc (v := nI (k + 1)) (lv' := [(2, .int (nI (k + 1))), (0, .ref (b 0)), (1, .int t)]) hx hb dX9_owes_48 hl (k := 2) rfl (fz_inc rfl) (by decide) rfl (fun ls hl => ?_)
          refine lv_goto (tgt := 2) hx hb dX9_owes_51 (by decide) ?_
          exact ih2 (k + 1) (show ((k + 1) ≤ nl) ∧ (fz_any (fun i => decide (fm_l (M 1) 1 i = t) && !(decide (fm_l (M 1) 3 i ≤ 0)) && !(decide (M 1 0 ≤ fm_l (M 1) 4 i))) (k + 1) = false) from ⟨(by omega), (fz_any_step ha (by simp [c_1, c_2, c_3, c_4]))⟩) (by show nl - (k + 1) < nl - k; omega) ls (lv_sub hl [1, 2, 0] rfl)
        · skip
          refine lv_iconst (v := 1) hx hb dX9_owes_46 (by decide) ?_
          exact W.zret (v := 1) hx hb hr (by decide) (fun t9 ht9 hW9 => ⟨_, rfl, (by rw [fz_owes, fz_any_hit (k := k) (by simp [c_1, c_2, c_3, c_4]) (by omega)]; rfl), ht9⟩) (fun _ h => nomatch h) dX9_owes_47
set_option maxHeartbeats 4000000 in
set_option maxRecDepth 100000 in
/-- the model: wasFaulty -/
theorem c_X9_wasFaulty (l : Launch) (D : va_G) (cy : Nat → ClassId) (b : Nat → Nat) (M : Nat → Nat → Int32) (h : Int64) (t : Int32) (nc : Nat) (hnc : M 1 2 = nI nc) (hnc30 : nc ≤ 30) : fz_RI l yX9_wasFaulty wsX9_wasFaulty 1 22 D cy [.ref (b 0), .int t] (MW cy b M h) fz_T (fz_b (fz_flt (fm_c (M 1) 0) (fm_c (M 1) 2) (fm_c (M 1) 5) nc t (M 1 0))) := by
  refine Met.ofW (cc := cX9_wasFaulty) (maxL := 3) (ret := (some .boolean)) (by decide) rfl ?_
  intro p e s m args below meth c s₁ B hml hv
  obtain ⟨rfl, hP, hK, hE⟩ := hv
  have hx := B.exec
  have hb := B.bytes
  have hr := B.returns
  have hts := atoms_spec (ws := wsX9_wasFaulty) B.pre
  have hown : s.vm.findClass RX9 = some m.cls := findClass_of_methodNamed B.named
  have hlocks := B.notSynchronized
  have hl := lv_entry ([.ref (b 0), .int t]) (n := 3) (Nat.le_of_ble_eq_true rfl)
  rw [lg_entry_eq]
  generalize (lg_sl ([.ref (b 0), .int t]) ++ List.replicate (3 - (lg_sl ([.ref (b 0), .int t])).length) Slot.unset).toArray = ls at hl ⊢
  have hl : lv_has ls 3 [(0, .ref (b 0)), (1, .int t)] := hl
  have k_7 := hts (.fieldLink RX9 7 "FreezeCreditsModel" "now" "[I") (by decide +kernel)
  have inX9 : ∀ w ∈ u_ws RX9 TX9 13, w ∈ wsX9_wasFaulty := by decide +kernel
  refine lv_iconst (v := 0) hx hb dX9_wasFaulty_0 (by decide) ?_
  refine lv_istore_n (lv' := [(2, .int 0), (0, .ref (b 0)), (1, .int t)]) hx hb dX9_wasFaulty_1 rfl hl (by decide) rfl (fun ls hl => ?_)
  refine fz_loop (σ := Nat) (pc := 2) (nL := 3) (fun k => [(0, .ref (b 0)), (1, .int t), (2, .int (nI k))]) (fun k => (k ≤ nc) ∧ (fz_any (fun i => decide (fm_c (M 1) 0 i = t) && decide (fm_c (M 1) 2 i = 3) && decide (fm_c (M 1) 5 i = M 1 0)) k = false)) (fun k => nc - k) ?_ 0 (show (0 ≤ nc) ∧ (fz_any (fun i => decide (fm_c (M 1) 0 i = t) && decide (fm_c (M 1) 2 i = 3) && decide (fm_c (M 1) 5 i = M 1 0)) 0 = false) from ⟨(by omega), rfl⟩) ls (lv_sub hl [1, 2, 0] rfl)
  rintro k ⟨hk, ha⟩ ih2 ls hl
  have hk : k ≤ nc := hk
  have ha : fz_any (fun i => decide (fm_c (M 1) 0 i = t) && decide (fm_c (M 1) 2 i = 3) && decide (fm_c (M 1) 5 i = M 1 0)) k = false := ha
  have hl : lv_has ls 3 [(0, .ref (b 0)), (1, .int t), (2, .int (nI k))] := hl
  refine lv_iload_n hx hb dX9_wasFaulty_2 rfl (lv_at hl 2 rfl) ?_
  refine lv_aload_n hx hb dX9_wasFaulty_3 rfl (lv_at hl 0 rfl) ?_
  refine va_get (D := D) (ci := 7) (v := .ref (b 1)) (C := RX9) (T := TX9) (N := 13) hx hb hts inX9 hown hK hP 0 rfl rfl 0 (by decide) k_7 (fun _ h9 => h9) rfl dX9_wasFaulty_4 ?_
  refine lv_iconst (v := 2) hx hb dX9_wasFaulty_7 (by decide) ?_
  refine fz_iald (f := M 1) hx hb hK hP 1 0 rfl rfl 2 rfl (by omega) (by decide) dX9_wasFaulty_8 ?_
  refine fz_geN (tgt := 55) hx hb k nc rfl hnc dX9_wasFaulty_9 (by decide) (by omega) (by omega) (fun c_1 => ?_) (fun c_1 => ?_)
  · skip
    refine lv_iconst (v := 0) hx hb dX9_wasFaulty_55 (by decide) ?_
    exact W.zret (v := 0) hx hb hr (by decide) (fun t9 ht9 hW9 => ⟨_, rfl, (by rw [fz_flt, show nc = k by omega, ha]; rfl), ht9⟩) (fun _ h => nomatch h) dX9_wasFaulty_56
  · skip
    refine lv_aload_n hx hb dX9_wasFaulty_12 rfl (lv_at hl 0 rfl) ?_
    refine lv_iload_n hx hb dX9_wasFaulty_13 rfl (lv_at hl 2 rfl) ?_
    refine lv_iconst (v := 0) hx hb dX9_wasFaulty_14 (by decide) ?_
    refine fz_retR (va_runV (As := [.int (nI k), .int (nI 0)]) (rest := []) ⟨hx, hb, hml, hown, hts⟩ (c_X9_told l D cy b M h k 0 (by omega) (by omega)) (cwV 2 hts gX9_wasFaulty_X9_told rfl rfl rfl (by decide +kernel) ⟨Nat.le_of_ble_eq_true rfl, Nat.le_of_ble_eq_true rfl⟩) (fz_preV (ci := 7) (q0 := 0) hK hP rfl rfl rfl fz_T_bl (fun _ _ _ => trivial)) rfl rfl hl.1 rfl (lv_room (Nat.le_of_ble_eq_true rfl)) dX9_wasFaulty_15 ⟨Nat.zero_le _, Nat.zero_le _⟩) ?_
    refine lv_iload_n hx hb dX9_wasFaulty_18 rfl (lv_at hl 1 rfl) ?_
    refine lv_icmp_ne (tgt := 49) hx hb dX9_wasFaulty_19 (by decide) (fun c_2 => ?_) (fun c_2 => ?_)
    · skip
      refine lv_iinc (v := nI (k + 1)) (lv' := [(2, .int (nI (k + 1))), (0, .ref (b 0)), (1, .int t)]) hx hb dX9_wasFaulty_49 hl (k := 2) rfl (fz_inc rfl) (by decide) rfl (fun ls hl => ?_)
      refine lv_goto (tgt := 2) hx hb dX9_wasFaulty_52 (by decide) ?_
      exact ih2 (k + 1) (show ((k + 1) ≤ nc) ∧ (fz_any (fun i => decide (fm_c (M 1) 0 i = t) && decide (fm_c (M 1) 2 i = 3) && decide (fm_c (M 1) 5 i = M 1 0)) (k + 1) = false) from ⟨(by omega), (fz_any_step ha (by simp [c_1, c_2]))⟩) (by show nc - (k + 1) < nc - k; omega) ls (lv_sub hl [1, 2, 0] rfl)
    · skip
      refine lv_aload_n hx hb dX9_wasFaulty_22 rfl (lv_at hl 0 rfl) ?_
      refine lv_iload_n hx hb dX9_wasFaulty_23 rfl (lv_at hl 2 rfl) ?_
      refine lv_iconst (v := 2) hx hb dX9_wasFaulty_24 (by decide) ?_
      refine fz_retR (va_runV (As := [.int (nI k), .int (nI 2)]) (rest := []) ⟨hx, hb, hml, hown, hts⟩ (c_X9_told l D cy b M h k 2 (by omega) (by omega)) (cwV 2 hts gX9_wasFaulty_X9_told rfl rfl rfl (by decide +kernel) ⟨Nat.le_of_ble_eq_true rfl, Nat.le_of_ble_eq_true rfl⟩) (fz_preV (ci := 7) (q0 := 0) hK hP rfl rfl rfl fz_T_bl (fun _ _ _ => trivial)) rfl rfl hl.1 rfl (lv_room (Nat.le_of_ble_eq_true rfl)) dX9_wasFaulty_25 ⟨Nat.zero_le _, Nat.zero_le _⟩) ?_
      refine lv_iconst (v := 3) hx hb dX9_wasFaulty_28 (by decide) ?_
      refine lv_icmp_ne (tgt := 49) hx hb dX9_wasFaulty_29 (by decide) (fun c_3 => ?_) (fun c_3 => ?_)
      · skip
        refine lv_iinc (v := nI (k + 1)) (lv' := [(2, .int (nI (k + 1))), (0, .ref (b 0)), (1, .int t)]) hx hb dX9_wasFaulty_49 hl (k := 2) rfl (fz_inc rfl) (by decide) rfl (fun ls hl => ?_)
        refine lv_goto (tgt := 2) hx hb dX9_wasFaulty_52 (by decide) ?_
        exact ih2 (k + 1) (show ((k + 1) ≤ nc) ∧ (fz_any (fun i => decide (fm_c (M 1) 0 i = t) && decide (fm_c (M 1) 2 i = 3) && decide (fm_c (M 1) 5 i = M 1 0)) (k + 1) = false) from ⟨(by omega), (fz_any_step ha (by simp [c_1, c_2, c_3]))⟩) (by show nc - (k + 1) < nc - k; omega) ls (lv_sub hl [1, 2, 0] rfl)
      · skip
        refine lv_aload_n hx hb dX9_wasFaulty_32 rfl (lv_at hl 0 rfl) ?_
        refine lv_iload_n hx hb dX9_wasFaulty_33 rfl (lv_at hl 2 rfl) ?_
        refine lv_iconst (v := 5) hx hb dX9_wasFaulty_34 (by decide) ?_
        refine fz_retR (va_runV (As := [.int (nI k), .int (nI 5)]) (rest := []) ⟨hx, hb, hml, hown, hts⟩ (c_X9_told l D cy b M h k 5 (by omega) (by omega)) (cwV 2 hts gX9_wasFaulty_X9_told rfl rfl rfl (by decide +kernel) ⟨Nat.le_of_ble_eq_true rfl, Nat.le_of_ble_eq_true rfl⟩) (fz_preV (ci := 7) (q0 := 0) hK hP rfl rfl rfl fz_T_bl (fun _ _ _ => trivial)) rfl rfl hl.1 rfl (lv_room (Nat.le_of_ble_eq_true rfl)) dX9_wasFaulty_35 ⟨Nat.zero_le _, Nat.zero_le _⟩) ?_
        refine lv_aload_n hx hb dX9_wasFaulty_38 rfl (lv_at hl 0 rfl) ?_
        refine va_get (D := D) (ci := 7) (v := .ref (b 1)) (C := RX9) (T := TX9) (N := 13) hx hb hts inX9 hown hK hP 0 rfl rfl 0 (by decide) k_7 (fun _ h9 => h9) rfl dX9_wasFaulty_39 ?_
        refine lv_iconst (v := 0) hx hb dX9_wasFaulty_42 (by decide) ?_
        refine fz_iald (f := M 1) hx hb hK hP 1 0 rfl rfl 0 rfl (by omega) (by decide) dX9_wasFaulty_43 ?_
        refine lv_icmp_ne (tgt := 49) hx hb dX9_wasFaulty_44 (by decide) (fun c_4 => ?_) (fun c_4 => ?_)
        · skip
          refine lv_iinc (v := nI (k + 1)) (lv' := [(2, .int (nI (k + 1))), (0, .ref (b 0)), (1, .int t)]) hx hb dX9_wasFaulty_49 hl (k := 2) rfl (fz_inc rfl) (by decide) rfl (fun ls hl => ?_)
          refine lv_goto (tgt := 2) hx hb dX9_wasFaulty_52 (by decide) ?_
          exact ih2 (k + 1) (show ((k + 1) ≤ nc) ∧ (fz_any (fun i => decide (fm_c (M 1) 0 i = t) && decide (fm_c (M 1) 2 i = 3) && decide (fm_c (M 1) 5 i = M 1 0)) (k + 1) = false) from ⟨(by omega), (fz_any_step ha (by simp [c_1, c_2, c_3, c_4]))⟩) (by show nc - (k + 1) < nc - k; omega) ls (lv_sub hl [1, 2, 0] rfl)
        · skip
          refine lv_iconst (v := 1) hx hb dX9_wasFaulty_47 (by decide) ?_
          exact W.zret (v := 1) hx hb hr (by decide) (fun t9 ht9 hW9 => ⟨_, rfl, (by rw [fz_flt, fz_any_hit (k := k) (by simp [c_1, c_2, c_3, c_4]) (by omega)]; rfl), ht9⟩) (fun _ h => nomatch h) dX9_wasFaulty_48
set_option maxHeartbeats 4000000 in
set_option maxRecDepth 100000 in
/-- the model: asides -/
theorem c_X9_asides (l : Launch) (D : va_G) (cy : Nat → ClassId) (b : Nat → Nat) (M : Nat → Nat → Int32) (h : Int64) : fz_MV l yX9_asides wsX9_asides 0 0 D cy [.ref (b 0)] (MW cy b M h) fz_T (MW cy b (fz_up M 3 (M 1)) h) := by
  refine Met.ofW (cc := cX9_asides) (maxL := 2) (ret := none) (by decide) rfl ?_
  intro p e s m args below meth c s₁ B hml hv
  obtain ⟨rfl, hP, hK, hD0, hE⟩ := hv
  have hx := B.exec
  have hb := B.bytes
  have hr := B.returns
  have hts := atoms_spec (ws := wsX9_asides) B.pre
  have hown : s.vm.findClass RX9 = some m.cls := findClass_of_methodNamed B.named
  have hlocks := B.notSynchronized
  have hD := fz_self hD0
  generalize hAe : fz_in (MW cy b M h) = A at hD ⊢
  have hS : va_S A s.heap s.heap [] := va_S.rf
  have hl := lv_entry ([.ref (b 0)]) (n := 2) (Nat.le_of_ble_eq_true rfl)
  rw [lg_entry_eq]
  generalize (lg_sl ([.ref (b 0)]) ++ List.replicate (2 - (lg_sl ([.ref (b 0)])).length) Slot.unset).toArray = ls at hl ⊢
  have hl : lv_has ls 2 [(0, .ref (b 0))] := hl
  have k_16 := hts (.fieldLink RX9 16 "FreezeCreditsModel" "aside" "[I") (by decide +kernel)
  have inX9 : ∀ w ∈ u_ws RX9 TX9 13, w ∈ wsX9_asides := by decide +kernel
  have k_7 := hts (.fieldLink RX9 7 "FreezeCreditsModel" "now" "[I") (by decide +kernel)
  refine lv_iconst (v := 0) hx hb dX9_asides_0 (by decide) ?_
  refine lv_istore_n (lv' := [(1, .int 0), (0, .ref (b 0))]) hx hb dX9_asides_1 rfl hl (by decide) rfl (fun ls hl => ?_)
  refine fz_loopM (σ := Nat × (Nat → Int32)) (pc := 2) (nL := 2) (fun x => match x with | (k, Z) => [(0, .ref (b 0)), (1, .int (nI k))]) (fun x => match x with | (k, Z) => ME cy b (M 0 0) (M 0 1) (M 0 2) (M 0 3) (M 0 4) (M 0 5) (M 0 6) (M 1) (M 2) Z (M 4) (M 5) h) (fun x => match x with | (k, Z) => (k ≤ 349) ∧ (Z = fm_cp (M 1) (M 3) k)) (fun x => match x with | (k, Z) => 349 - k) ?_ (0, M 3) (show (0 ≤ 349) ∧ ((M 3) = fm_cp (M 1) (M 3) 0) from ⟨(by omega), (fm_cp_0 _ _).symm⟩) _ _ ls hP hD hS (lv_sub hl [1, 0] rfl)
  rintro ⟨k, Z⟩ ⟨hk, eZ⟩ ih2 H locs ls hP hD hS hl
  have hP : va_P D vwCl (ME cy b (M 0 0) (M 0 1) (M 0 2) (M 0 3) (M 0 4) (M 0 5) (M 0 6) (M 1) (M 2) Z (M 4) (M 5) h) H := hP
  have hD : va_D A (ME cy b (M 0 0) (M 0 1) (M 0 2) (M 0 3) (M 0 4) (M 0 5) (M 0 6) (M 1) (M 2) Z (M 4) (M 5) h) := hD
  have hk : k ≤ 349 := hk
  have eZ : Z = fm_cp (M 1) (M 3) k := eZ
  have hl : lv_has ls 2 [(0, .ref (b 0)), (1, .int (nI k))] := hl
  refine lv_iload_n hx hb dX9_asides_2 rfl (lv_at hl 1 rfl) ?_
  refine lv_sipush (v := 349) hx hb dX9_asides_3 (by decide) ?_
  refine fz_geN (tgt := 27) hx hb k 349 rfl rfl dX9_asides_6 (by decide) (by omega) (by omega) (fun c_1 => ?_) (fun c_1 => ?_)
  · skip
    exact W.vret hx hb hr (fun t9 ht9 hW9 => ⟨⟨(), rfl, trivial, fz_to ht9 (ME_same (fun _ _ => rfl) (fun _ _ => rfl) (fun j hj => by rw [eZ, fm_cp, if_pos (by omega)]; rfl) (fun _ _ => rfl) (fun _ _ => rfl) hP)⟩, hS.F ht9⟩) hS.2.2 dX9_asides_27
  · skip
    refine lv_aload_n hx hb dX9_asides_9 rfl (lv_at hl 0 rfl) ?_
    refine va_get (D := D) (ci := 7) (v := .ref (b 3)) (C := RX9) (T := TX9) (N := 13) hx hb hts inX9 hown hK hP 0 rfl rfl 3 (by decide) k_16 (fun _ h9 => h9) rfl dX9_asides_10 ?_
    refine lv_iload_n hx hb dX9_asides_13 rfl (lv_at hl 1 rfl) ?_
    refine lv_aload_n hx hb dX9_asides_14 rfl (lv_at hl 0 rfl) ?_
    refine va_get (D := D) (ci := 7) (v := .ref (b 1)) (C := RX9) (T := TX9) (N := 13) hx hb hts inX9 hown hK hP 0 rfl rfl 0 (by decide) k_7 (fun _ h9 => h9) rfl dX9_asides_15 ?_
    refine lv_iload_n hx hb dX9_asides_18 rfl (lv_at hl 1 rfl) ?_
    refine fz_iald (f := M 1) hx hb hK hP 1 0 rfl rfl k rfl (by omega) (by decide) dX9_asides_19 ?_
    refine fz_iast (f := Z) hx hb hK hP hD hS 3 0 rfl rfl k rfl (by omega) (by decide) dX9_asides_20 (fun H locs hP hD hS => ?_)
    have hP : va_P D vwCl (ME cy b (M 0 0) (M 0 1) (M 0 2) (M 0 3) (M 0 4) (M 0 5) (M 0 6) (M 1) (M 2) (upd Z k (M 1 k)) (M 4) (M 5) h) H := hP
    have hD : va_D A (ME cy b (M 0 0) (M 0 1) (M 0 2) (M 0 3) (M 0 4) (M 0 5) (M 0 6) (M 1) (M 2) (upd Z k (M 1 k)) (M 4) (M 5) h) := hD
    refine lv_iinc (v := nI (k + 1)) (lv' := [(1, .int (nI (k + 1))), (0, .ref (b 0))]) hx hb dX9_asides_21 hl (k := 1) rfl (fz_inc rfl) (by decide) rfl (fun ls hl => ?_)
    refine lv_goto (tgt := 2) hx hb dX9_asides_24 (by decide) ?_
    exact ih2 (k + 1, upd Z k (M 1 k)) (show ((k + 1) ≤ 349) ∧ ((upd Z k (M 1 k)) = fm_cp (M 1) (M 3) (k + 1)) from ⟨(by omega), (by rw [eZ, fm_cp_s])⟩) (by show 349 - (k + 1) < 349 - k; omega) _ _ ls hP hD hS (lv_sub hl [1, 0] rfl)
set_option maxHeartbeats 4000000 in
set_option maxRecDepth 100000 in
/-- the model: backs -/
theorem c_X9_backs (l : Launch) (D : va_G) (cy : Nat → ClassId) (b : Nat → Nat) (M : Nat → Nat → Int32) (h : Int64) : fz_MV l yX9_backs wsX9_backs 0 0 D cy [.ref (b 0)] (MW cy b M h) fz_T (MW cy b (fz_up M 1 (M 3)) h) := by
  refine Met.ofW (cc := cX9_backs) (maxL := 2) (ret := none) (by decide) rfl ?_
  intro p e s m args below meth c s₁ B hml hv
  obtain ⟨rfl, hP, hK, hD0, hE⟩ := hv
  have hx := B.exec
  have hb := B.bytes
  have hr := B.returns
  have hts := atoms_spec (ws := wsX9_backs) B.pre
  have hown : s.vm.findClass RX9 = some m.cls := findClass_of_methodNamed B.named
  have hlocks := B.notSynchronized
  have hD := fz_self hD0
  generalize hAe : fz_in (MW cy b M h) = A at hD ⊢
  have hS : va_S A s.heap s.heap [] := va_S.rf
  have hl := lv_entry ([.ref (b 0)]) (n := 2) (Nat.le_of_ble_eq_true rfl)
  rw [lg_entry_eq]
  generalize (lg_sl ([.ref (b 0)]) ++ List.replicate (2 - (lg_sl ([.ref (b 0)])).length) Slot.unset).toArray = ls at hl ⊢
  have hl : lv_has ls 2 [(0, .ref (b 0))] := hl
  have k_7 := hts (.fieldLink RX9 7 "FreezeCreditsModel" "now" "[I") (by decide +kernel)
  have inX9 : ∀ w ∈ u_ws RX9 TX9 13, w ∈ wsX9_backs := by decide +kernel
  have k_16 := hts (.fieldLink RX9 16 "FreezeCreditsModel" "aside" "[I") (by decide +kernel)
  refine lv_iconst (v := 0) hx hb dX9_backs_0 (by decide) ?_
  refine lv_istore_n (lv' := [(1, .int 0), (0, .ref (b 0))]) hx hb dX9_backs_1 rfl hl (by decide) rfl (fun ls hl => ?_)
  refine fz_loopM (σ := Nat × (Nat → Int32)) (pc := 2) (nL := 2) (fun x => match x with | (k, Z) => [(0, .ref (b 0)), (1, .int (nI k))]) (fun x => match x with | (k, Z) => ME cy b (M 0 0) (M 0 1) (M 0 2) (M 0 3) (M 0 4) (M 0 5) (M 0 6) Z (M 2) (M 3) (M 4) (M 5) h) (fun x => match x with | (k, Z) => (k ≤ 349) ∧ (Z = fm_cp (M 3) (M 1) k)) (fun x => match x with | (k, Z) => 349 - k) ?_ (0, M 1) (show (0 ≤ 349) ∧ ((M 1) = fm_cp (M 3) (M 1) 0) from ⟨(by omega), (fm_cp_0 _ _).symm⟩) _ _ ls hP hD hS (lv_sub hl [1, 0] rfl)
  rintro ⟨k, Z⟩ ⟨hk, eZ⟩ ih2 H locs ls hP hD hS hl
  have hP : va_P D vwCl (ME cy b (M 0 0) (M 0 1) (M 0 2) (M 0 3) (M 0 4) (M 0 5) (M 0 6) Z (M 2) (M 3) (M 4) (M 5) h) H := hP
  have hD : va_D A (ME cy b (M 0 0) (M 0 1) (M 0 2) (M 0 3) (M 0 4) (M 0 5) (M 0 6) Z (M 2) (M 3) (M 4) (M 5) h) := hD
  have hk : k ≤ 349 := hk
  have eZ : Z = fm_cp (M 3) (M 1) k := eZ
  have hl : lv_has ls 2 [(0, .ref (b 0)), (1, .int (nI k))] := hl
  refine lv_iload_n hx hb dX9_backs_2 rfl (lv_at hl 1 rfl) ?_
  refine lv_sipush (v := 349) hx hb dX9_backs_3 (by decide) ?_
  refine fz_geN (tgt := 27) hx hb k 349 rfl rfl dX9_backs_6 (by decide) (by omega) (by omega) (fun c_1 => ?_) (fun c_1 => ?_)
  · skip
    exact W.vret hx hb hr (fun t9 ht9 hW9 => ⟨⟨(), rfl, trivial, fz_to ht9 (ME_same (fun j hj => by rw [eZ, fm_cp, if_pos (by omega)]; rfl) (fun _ _ => rfl) (fun _ _ => rfl) (fun _ _ => rfl) (fun _ _ => rfl) hP)⟩, hS.F ht9⟩) hS.2.2 dX9_backs_27
  · skip
    refine lv_aload_n hx hb dX9_backs_9 rfl (lv_at hl 0 rfl) ?_
    refine va_get (D := D) (ci := 7) (v := .ref (b 1)) (C := RX9) (T := TX9) (N := 13) hx hb hts inX9 hown hK hP 0 rfl rfl 0 (by decide) k_7 (fun _ h9 => h9) rfl dX9_backs_10 ?_
    refine lv_iload_n hx hb dX9_backs_13 rfl (lv_at hl 1 rfl) ?_
    refine lv_aload_n hx hb dX9_backs_14 rfl (lv_at hl 0 rfl) ?_
    refine va_get (D := D) (ci := 7) (v := .ref (b 3)) (C := RX9) (T := TX9) (N := 13) hx hb hts inX9 hown hK hP 0 rfl rfl 3 (by decide) k_16 (fun _ h9 => h9) rfl dX9_backs_15 ?_
    refine lv_iload_n hx hb dX9_backs_18 rfl (lv_at hl 1 rfl) ?_
    refine fz_iald (f := M 3) hx hb hK hP 3 0 rfl rfl k rfl (by omega) (by decide) dX9_backs_19 ?_
    refine fz_iast (f := Z) hx hb hK hP hD hS 1 0 rfl rfl k rfl (by omega) (by decide) dX9_backs_20 (fun H locs hP hD hS => ?_)
    have hP : va_P D vwCl (ME cy b (M 0 0) (M 0 1) (M 0 2) (M 0 3) (M 0 4) (M 0 5) (M 0 6) (upd Z k (M 3 k)) (M 2) (M 3) (M 4) (M 5) h) H := hP
    have hD : va_D A (ME cy b (M 0 0) (M 0 1) (M 0 2) (M 0 3) (M 0 4) (M 0 5) (M 0 6) (upd Z k (M 3 k)) (M 2) (M 3) (M 4) (M 5) h) := hD
    refine lv_iinc (v := nI (k + 1)) (lv' := [(1, .int (nI (k + 1))), (0, .ref (b 0))]) hx hb dX9_backs_21 hl (k := 1) rfl (fz_inc rfl) (by decide) rfl (fun ls hl => ?_)
    refine lv_goto (tgt := 2) hx hb dX9_backs_24 (by decide) ?_
    exact ih2 (k + 1, upd Z k (M 3 k)) (show ((k + 1) ≤ 349) ∧ ((upd Z k (M 3 k)) = fm_cp (M 3) (M 1) (k + 1)) from ⟨(by omega), (by rw [eZ, fm_cp_s])⟩) (by show 349 - (k + 1) < 349 - k; omega) _ _ ls hP hD hS (lv_sub hl [1, 0] rfl)
set_option maxHeartbeats 4000000 in
set_option maxRecDepth 100000 in
/-- the model: saves -/
theorem c_X9_saves (l : Launch) (D : va_G) (cy : Nat → ClassId) (b : Nat → Nat) (M : Nat → Nat → Int32) (h : Int64) (ns : Nat) (hs : M 0 0 = nI ns) (hs4 : ns ≤ 4) : fz_MV l yX9_saves wsX9_saves 0 0 D cy [.ref (b 0)] (MW cy b M h) fz_T (MW cy b (fz_up (fz_up M 0 (upd (M 0) 0 (nI (fm_ns ns)))) 2 (fm_sv (M 2) (M 3) ns)) h) := by
  refine Met.ofW (cc := cX9_saves) (maxL := 2) (ret := none) (by decide) rfl ?_
  intro p e s m args below meth c s₁ B hml hv
  obtain ⟨rfl, hP, hK, hD0, hE⟩ := hv
  have hx := B.exec
  have hb := B.bytes
  have hr := B.returns
  have hts := atoms_spec (ws := wsX9_saves) B.pre
  have hown : s.vm.findClass RX9 = some m.cls := findClass_of_methodNamed B.named
  have hlocks := B.notSynchronized
  have hD := fz_self hD0
  generalize hAe : fz_in (MW cy b M h) = A at hD ⊢
  have hS : va_S A s.heap s.heap [] := va_S.rf
  have hl := lv_entry ([.ref (b 0)]) (n := 2) (Nat.le_of_ble_eq_true rfl)
  rw [lg_entry_eq]
  generalize (lg_sl ([.ref (b 0)]) ++ List.replicate (2 - (lg_sl ([.ref (b 0)])).length) Slot.unset).toArray = ls at hl ⊢
  have hl : lv_has ls 2 [(0, .ref (b 0))] := hl
  have k_37 := hts (.fieldLink RX9 37 "FreezeCreditsModel" "states" "I") (by decide +kernel)
  have inX9 : ∀ w ∈ u_ws RX9 TX9 13, w ∈ wsX9_saves := by decide +kernel
  have k_13 := hts (.fieldLink RX9 13 "FreezeCreditsModel" "kept" "[I") (by decide +kernel)
  have k_16 := hts (.fieldLink RX9 16 "FreezeCreditsModel" "aside" "[I") (by decide +kernel)
  refine lv_aload_n hx hb dX9_saves_0 rfl (lv_at hl 0 rfl) ?_
  refine va_get (D := D) (ci := 7) (v := .int (M 0 0)) (C := RX9) (T := TX9) (N := 13) hx hb hts inX9 hown hK hP 0 rfl rfl 2 (by decide) k_37 (fun _ h9 => h9) rfl dX9_saves_1 ?_
  refine lv_iconst (v := 4) hx hb dX9_saves_4 (by decide) ?_
  refine fz_neN (tgt := 46) hx hb ns 4 hs rfl dX9_saves_5 (by decide) (by omega) (by omega) (fun c_1 => ?_) (fun c_1 => ?_)
  · skip
    refine lv_iconst (v := 0) hx hb dX9_saves_46 (by decide) ?_
    refine lv_istore_n (lv' := [(1, .int 0), (0, .ref (b 0))]) hx hb dX9_saves_47 rfl hl (by decide) rfl (fun ls hl => ?_)
    refine fz_loopM (σ := Nat × (Nat → Int32)) (pc := 48) (nL := 2) (fun x => match x with | (i, U) => [(0, .ref (b 0)), (1, .int (nI i))]) (fun x => match x with | (i, U) => ME cy b (M 0 0) (M 0 1) (M 0 2) (M 0 3) (M 0 4) (M 0 5) (M 0 6) (M 1) U (M 3) (M 4) (M 5) h) (fun x => match x with | (i, U) => (i ≤ 349) ∧ (U = fm_put (M 2) (M 3) ns i)) (fun x => match x with | (i, U) => 349 - i) ?_ (0, M 2) (show (0 ≤ 349) ∧ ((M 2) = fm_put (M 2) (M 3) ns 0) from ⟨(by omega), (fm_put_0 _ _ _).symm⟩) _ _ ls hP hD hS (lv_sub hl [1, 0] rfl)
    rintro ⟨i, U⟩ ⟨hi, eU⟩ ih48 H locs ls hP hD hS hl
    have hP : va_P D vwCl (ME cy b (M 0 0) (M 0 1) (M 0 2) (M 0 3) (M 0 4) (M 0 5) (M 0 6) (M 1) U (M 3) (M 4) (M 5) h) H := hP
    have hD : va_D A (ME cy b (M 0 0) (M 0 1) (M 0 2) (M 0 3) (M 0 4) (M 0 5) (M 0 6) (M 1) U (M 3) (M 4) (M 5) h) := hD
    have hi : i ≤ 349 := hi
    have eU : U = fm_put (M 2) (M 3) ns i := eU
    have hl : lv_has ls 2 [(0, .ref (b 0)), (1, .int (nI i))] := hl
    refine lv_iload_n hx hb dX9_saves_48 rfl (lv_at hl 1 rfl) ?_
    refine lv_sipush (v := 349) hx hb dX9_saves_49 (by decide) ?_
    refine fz_geN (tgt := 82) hx hb i 349 rfl rfl dX9_saves_52 (by decide) (by omega) (by omega) (fun c_2 => ?_) (fun c_2 => ?_)
    · skip
      have e9 : U = fm_put (M 2) (M 3) ns 349 := by rw [eU, show i = 349 by omega]
      refine lv_aload_n hx hb dX9_saves_82 rfl (lv_at hl 0 rfl) ?_
      refine lv_dup hx hb dX9_saves_83 rfl ?_
      refine va_get (D := D) (ci := 7) (v := .int (M 0 0)) (C := RX9) (T := TX9) (N := 13) hx hb hts inX9 hown hK hP 0 rfl rfl 2 (by decide) k_37 (fun _ h9 => h9) rfl dX9_saves_84 ?_
      refine lv_iconst (v := 1) hx hb dX9_saves_87 (by decide) ?_
      refine fz_iaddN hx hb ns 1 hs rfl dX9_saves_88 ?_
      refine va_put (D := D) (ci := 7) (v := .int (nI (ns + 1))) (ty := tyX9 2) (C := RX9) (T := TX9) (N := 13) hx hb hts inX9 tyX9 tyX9_ok nmX9 hown hK hP hD hS 0 rfl rfl 2 (by decide) k_37 (fun _ h9 => h9) rfl (by decide +kernel) rfl rfl (Nat.le_of_ble_eq_true rfl) dX9_saves_89 (fun H locs hP hD hS => ?_)
      have hP : va_P D vwCl (ME cy b (nI (ns + 1)) (M 0 1) (M 0 2) (M 0 3) (M 0 4) (M 0 5) (M 0 6) (M 1) U (M 3) (M 4) (M 5) h) H := hP
      have hD : va_D A (ME cy b (nI (ns + 1)) (M 0 1) (M 0 2) (M 0 3) (M 0 4) (M 0 5) (M 0 6) (M 1) U (M 3) (M 4) (M 5) h) := hD
      exact W.vret hx hb hr (fun t9 ht9 hW9 => ⟨⟨(), rfl, trivial, fz_to ht9 (by rw [fm_ns, fm_sv, if_neg c_1, if_neg c_1, ← e9]; exact hP)⟩, hS.F ht9⟩) hS.2.2 dX9_saves_92
    · skip
      refine lv_aload_n hx hb dX9_saves_55 rfl (lv_at hl 0 rfl) ?_
      refine va_get (D := D) (ci := 7) (v := .ref (b 2)) (C := RX9) (T := TX9) (N := 13) hx hb hts inX9 hown hK hP 0 rfl rfl 1 (by decide) k_13 (fun _ h9 => h9) rfl dX9_saves_56 ?_
      refine lv_sipush (v := 349) hx hb dX9_saves_59 (by decide) ?_
      refine lv_aload_n hx hb dX9_saves_62 rfl (lv_at hl 0 rfl) ?_
      refine va_get (D := D) (ci := 7) (v := .int (M 0 0)) (C := RX9) (T := TX9) (N := 13) hx hb hts inX9 hown hK hP 0 rfl rfl 2 (by decide) k_37 (fun _ h9 => h9) rfl dX9_saves_63 ?_
      refine fz_imulN hx hb 349 ns rfl hs dX9_saves_66 ?_
      refine lv_iload_n hx hb dX9_saves_67 rfl (lv_at hl 1 rfl) ?_
      refine fz_iaddN hx hb (349 * ns) i rfl rfl dX9_saves_68 ?_
      refine lv_aload_n hx hb dX9_saves_69 rfl (lv_at hl 0 rfl) ?_
      refine va_get (D := D) (ci := 7) (v := .ref (b 3)) (C := RX9) (T := TX9) (N := 13) hx hb hts inX9 hown hK hP 0 rfl rfl 3 (by decide) k_16 (fun _ h9 => h9) rfl dX9_saves_70 ?_
      refine lv_iload_n hx hb dX9_saves_73 rfl (lv_at hl 1 rfl) ?_
      refine fz_iald (f := M 3) hx hb hK hP 3 0 rfl rfl i rfl (by omega) (by decide) dX9_saves_74 ?_
      refine fz_iast (f := U) hx hb hK hP hD hS 2 0 rfl rfl ((349 * ns) + i) rfl (by omega) (by decide) dX9_saves_75 (fun H locs hP hD hS => ?_)
      have hP : va_P D vwCl (ME cy b (M 0 0) (M 0 1) (M 0 2) (M 0 3) (M 0 4) (M 0 5) (M 0 6) (M 1) (upd U ((349 * ns) + i) (M 3 i)) (M 3) (M 4) (M 5) h) H := hP
      have hD : va_D A (ME cy b (M 0 0) (M 0 1) (M 0 2) (M 0 3) (M 0 4) (M 0 5) (M 0 6) (M 1) (upd U ((349 * ns) + i) (M 3 i)) (M 3) (M 4) (M 5) h) := hD
      refine lv_iinc (v := nI (i + 1)) (lv' := [(1, .int (nI (i + 1))), (0, .ref (b 0))]) hx hb dX9_saves_76 hl (k := 1) rfl (fz_inc rfl) (by decide) rfl (fun ls hl => ?_)
      refine lv_goto (tgt := 48) hx hb dX9_saves_79 (by decide) ?_
      exact ih48 (i + 1, upd U ((349 * ns) + i) (M 3 i)) (show ((i + 1) ≤ 349) ∧ ((upd U ((349 * ns) + i) (M 3 i)) = fm_put (M 2) (M 3) ns (i + 1)) from ⟨(by omega), (by rw [eU, fm_put_s])⟩) (by show 349 - (i + 1) < 349 - i; omega) _ _ ls hP hD hS (lv_sub hl [1, 0] rfl)
  · skip
    refine lv_sipush (v := 349) hx hb dX9_saves_8 (by decide) ?_
    refine lv_istore_n (lv' := [(1, .int 349), (0, .ref (b 0))]) hx hb dX9_saves_11 rfl hl (by decide) rfl (fun ls hl => ?_)
    refine fz_loopM (σ := Nat × (Nat → Int32)) (pc := 12) (nL := 2) (fun x => match x with | (k, Z) => [(0, .ref (b 0)), (1, .int (nI k))]) (fun x => match x with | (k, Z) => ME cy b (M 0 0) (M 0 1) (M 0 2) (M 0 3) (M 0 4) (M 0 5) (M 0 6) (M 1) Z (M 3) (M 4) (M 5) h) (fun x => match x with | (k, Z) => (349 ≤ k) ∧ (k ≤ 1396) ∧ (Z = fm_sh (M 2) k)) (fun x => match x with | (k, Z) => 1396 - k) ?_ (349, M 2) (show (349 ≤ 349) ∧ (349 ≤ 1396) ∧ ((M 2) = fm_sh (M 2) 349) from ⟨(by omega), (by omega), (fm_sh_0 _).symm⟩) _ _ ls hP hD hS (lv_sub hl [1, 0] rfl)
    rintro ⟨k, Z⟩ ⟨hk0, hk, eZ⟩ ih12 H locs ls hP hD hS hl
    have hP : va_P D vwCl (ME cy b (M 0 0) (M 0 1) (M 0 2) (M 0 3) (M 0 4) (M 0 5) (M 0 6) (M 1) Z (M 3) (M 4) (M 5) h) H := hP
    have hD : va_D A (ME cy b (M 0 0) (M 0 1) (M 0 2) (M 0 3) (M 0 4) (M 0 5) (M 0 6) (M 1) Z (M 3) (M 4) (M 5) h) := hD
    have hk0 : 349 ≤ k := hk0
    have hk : k ≤ 1396 := hk
    have eZ : Z = fm_sh (M 2) k := eZ
    have hl : lv_has ls 2 [(0, .ref (b 0)), (1, .int (nI k))] := hl
    refine lv_iload_n hx hb dX9_saves_12 rfl (lv_at hl 1 rfl) ?_
    refine lv_sipush (v := 1396) hx hb dX9_saves_13 (by decide) ?_
    refine fz_geN (tgt := 41) hx hb k 1396 rfl rfl dX9_saves_16 (by decide) (by omega) (by omega) (fun c_3 => ?_) (fun c_3 => ?_)
    · skip
      refine lv_aload_n hx hb dX9_saves_41 rfl (lv_at hl 0 rfl) ?_
      refine lv_iconst (v := 3) hx hb dX9_saves_42 (by decide) ?_
      refine va_put (D := D) (ci := 7) (v := .int 3) (ty := tyX9 2) (C := RX9) (T := TX9) (N := 13) hx hb hts inX9 tyX9 tyX9_ok nmX9 hown hK hP hD hS 0 rfl rfl 2 (by decide) k_37 (fun _ h9 => h9) rfl (by decide +kernel) rfl rfl (Nat.le_of_ble_eq_true rfl) dX9_saves_43 (fun H locs hP hD hS => ?_)
      have hP : va_P D vwCl (ME cy b 3 (M 0 1) (M 0 2) (M 0 3) (M 0 4) (M 0 5) (M 0 6) (M 1) Z (M 3) (M 4) (M 5) h) H := hP
      have hD : va_D A (ME cy b 3 (M 0 1) (M 0 2) (M 0 3) (M 0 4) (M 0 5) (M 0 6) (M 1) Z (M 3) (M 4) (M 5) h) := hD
      refine lv_iconst (v := 0) hx hb dX9_saves_46 (by decide) ?_
      refine lv_istore_n (lv' := [(1, .int 0), (0, .ref (b 0))]) hx hb dX9_saves_47 rfl hl (by decide) rfl (fun ls hl => ?_)
      have e8 : Z = fm_sh (M 2) 1396 := by rw [eZ, show k = 1396 by omega]
      refine fz_loopM (σ := Nat × (Nat → Int32)) (pc := 48) (nL := 2) (fun x => match x with | (i, U) => [(0, .ref (b 0)), (1, .int (nI i))]) (fun x => match x with | (i, U) => ME cy b 3 (M 0 1) (M 0 2) (M 0 3) (M 0 4) (M 0 5) (M 0 6) (M 1) U (M 3) (M 4) (M 5) h) (fun x => match x with | (i, U) => (i ≤ 349) ∧ (U = fm_put (fm_sh (M 2) 1396) (M 3) 3 i)) (fun x => match x with | (i, U) => 349 - i) ?_ (0, Z) (show (0 ≤ 349) ∧ (Z = fm_put (fm_sh (M 2) 1396) (M 3) 3 0) from ⟨(by omega), (by rw [fm_put_0]; exact e8)⟩) _ _ ls hP hD hS (lv_sub hl [1, 0] rfl)
      rintro ⟨i, U⟩ ⟨hi, eU⟩ ih48 H locs ls hP hD hS hl
      have hP : va_P D vwCl (ME cy b 3 (M 0 1) (M 0 2) (M 0 3) (M 0 4) (M 0 5) (M 0 6) (M 1) U (M 3) (M 4) (M 5) h) H := hP
      have hD : va_D A (ME cy b 3 (M 0 1) (M 0 2) (M 0 3) (M 0 4) (M 0 5) (M 0 6) (M 1) U (M 3) (M 4) (M 5) h) := hD
      have hi : i ≤ 349 := hi
      have eU : U = fm_put (fm_sh (M 2) 1396) (M 3) 3 i := eU
      have hl : lv_has ls 2 [(0, .ref (b 0)), (1, .int (nI i))] := hl
      refine lv_iload_n hx hb dX9_saves_48 rfl (lv_at hl 1 rfl) ?_
      refine lv_sipush (v := 349) hx hb dX9_saves_49 (by decide) ?_
      refine fz_geN (tgt := 82) hx hb i 349 rfl rfl dX9_saves_52 (by decide) (by omega) (by omega) (fun c_4 => ?_) (fun c_4 => ?_)
      · skip
        have e9 : U = fm_put (fm_sh (M 2) 1396) (M 3) 3 349 := by rw [eU, show i = 349 by omega]
        refine lv_aload_n hx hb dX9_saves_82 rfl (lv_at hl 0 rfl) ?_
        refine lv_dup hx hb dX9_saves_83 rfl ?_
        refine va_get (D := D) (ci := 7) (v := .int 3) (C := RX9) (T := TX9) (N := 13) hx hb hts inX9 hown hK hP 0 rfl rfl 2 (by decide) k_37 (fun _ h9 => h9) rfl dX9_saves_84 ?_
        refine lv_iconst (v := 1) hx hb dX9_saves_87 (by decide) ?_
        refine lv_iadd hx hb dX9_saves_88 ?_
        refine fz_top (show (3 : Int32) + 1 = nI 4 from by decide) ?_
        refine va_put (D := D) (ci := 7) (v := .int (nI 4)) (ty := tyX9 2) (C := RX9) (T := TX9) (N := 13) hx hb hts inX9 tyX9 tyX9_ok nmX9 hown hK hP hD hS 0 rfl rfl 2 (by decide) k_37 (fun _ h9 => h9) rfl (by decide +kernel) rfl rfl (Nat.le_of_ble_eq_true rfl) dX9_saves_89 (fun H locs hP hD hS => ?_)
        have hP : va_P D vwCl (ME cy b (nI 4) (M 0 1) (M 0 2) (M 0 3) (M 0 4) (M 0 5) (M 0 6) (M 1) U (M 3) (M 4) (M 5) h) H := hP
        have hD : va_D A (ME cy b (nI 4) (M 0 1) (M 0 2) (M 0 3) (M 0 4) (M 0 5) (M 0 6) (M 1) U (M 3) (M 4) (M 5) h) := hD
        exact W.vret hx hb hr (fun t9 ht9 hW9 => ⟨⟨(), rfl, trivial, fz_to ht9 (by rw [fm_ns, fm_sv, if_pos c_1, if_pos c_1, ← e9]; exact hP)⟩, hS.F ht9⟩) hS.2.2 dX9_saves_92
      · skip
        refine lv_aload_n hx hb dX9_saves_55 rfl (lv_at hl 0 rfl) ?_
        refine va_get (D := D) (ci := 7) (v := .ref (b 2)) (C := RX9) (T := TX9) (N := 13) hx hb hts inX9 hown hK hP 0 rfl rfl 1 (by decide) k_13 (fun _ h9 => h9) rfl dX9_saves_56 ?_
        refine lv_sipush (v := 349) hx hb dX9_saves_59 (by decide) ?_
        refine lv_aload_n hx hb dX9_saves_62 rfl (lv_at hl 0 rfl) ?_
        refine va_get (D := D) (ci := 7) (v := .int 3) (C := RX9) (T := TX9) (N := 13) hx hb hts inX9 hown hK hP 0 rfl rfl 2 (by decide) k_37 (fun _ h9 => h9) rfl dX9_saves_63 ?_
        refine fz_imulN hx hb 349 3 rfl rfl dX9_saves_66 ?_
        refine lv_iload_n hx hb dX9_saves_67 rfl (lv_at hl 1 rfl) ?_
        refine fz_iaddN hx hb (349 * 3) i rfl rfl dX9_saves_68 ?_
        refine lv_aload_n hx hb dX9_saves_69 rfl (lv_at hl 0 rfl) ?_
        refine va_get (D := D) (ci := 7) (v := .ref (b 3)) (C := RX9) (T := TX9) (N := 13) hx hb hts inX9 hown hK hP 0 rfl rfl 3 (by decide) k_16 (fun _ h9 => h9) rfl dX9_saves_70 ?_
        refine lv_iload_n hx hb dX9_saves_73 rfl (lv_at hl 1 rfl) ?_
        refine fz_iald (f := M 3) hx hb hK hP 3 0 rfl rfl i rfl (by omega) (by decide) dX9_saves_74 ?_
        refine fz_iast (f := U) hx hb hK hP hD hS 2 0 rfl rfl ((349 * 3) + i) rfl (by omega) (by decide) dX9_saves_75 (fun H locs hP hD hS => ?_)
        have hP : va_P D vwCl (ME cy b 3 (M 0 1) (M 0 2) (M 0 3) (M 0 4) (M 0 5) (M 0 6) (M 1) (upd U ((349 * 3) + i) (M 3 i)) (M 3) (M 4) (M 5) h) H := hP
        have hD : va_D A (ME cy b 3 (M 0 1) (M 0 2) (M 0 3) (M 0 4) (M 0 5) (M 0 6) (M 1) (upd U ((349 * 3) + i) (M 3 i)) (M 3) (M 4) (M 5) h) := hD
        refine lv_iinc (v := nI (i + 1)) (lv' := [(1, .int (nI (i + 1))), (0, .ref (b 0))]) hx hb dX9_saves_76 hl (k := 1) rfl (fz_inc rfl) (by decide) rfl (fun ls hl => ?_)
        refine lv_goto (tgt := 48) hx hb dX9_saves_79 (by decide) ?_
        exact ih48 (i + 1, upd U ((349 * 3) + i) (M 3 i)) (show ((i + 1) ≤ 349) ∧ ((upd U ((349 * 3) + i) (M 3 i)) = fm_put (fm_sh (M 2) 1396) (M 3) 3 (i + 1)) from ⟨(by omega), (by rw [eU, fm_put_s])⟩) (by show 349 - (i + 1) < 349 - i; omega) _ _ ls hP hD hS (lv_sub hl [1, 0] rfl)
    · skip
      refine lv_aload_n hx hb dX9_saves_19 rfl (lv_at hl 0 rfl) ?_
      refine va_get (D := D) (ci := 7) (v := .ref (b 2)) (C := RX9) (T := TX9) (N := 13) hx hb hts inX9 hown hK hP 0 rfl rfl 1 (by decide) k_13 (fun _ h9 => h9) rfl dX9_saves_20 ?_
      refine lv_iload_n hx hb dX9_saves_23 rfl (lv_at hl 1 rfl) ?_
      refine lv_sipush (v := 349) hx hb dX9_saves_24 (by decide) ?_
      refine fz_isubN hx hb k 349 rfl rfl (by omega) dX9_saves_27 ?_
      refine lv_aload_n hx hb dX9_saves_28 rfl (lv_at hl 0 rfl) ?_
      refine va_get (D := D) (ci := 7) (v := .ref (b 2)) (C := RX9) (T := TX9) (N := 13) hx hb hts inX9 hown hK hP 0 rfl rfl 1 (by decide) k_13 (fun _ h9 => h9) rfl dX9_saves_29 ?_
      refine lv_iload_n hx hb dX9_saves_32 rfl (lv_at hl 1 rfl) ?_
      refine fz_iald (f := Z) hx hb hK hP 2 0 rfl rfl k rfl (by omega) (by decide) dX9_saves_33 ?_
      refine fz_iast (f := Z) hx hb hK hP hD hS 2 0 rfl rfl (k - 349) rfl (by omega) (by decide) dX9_saves_34 (fun H locs hP hD hS => ?_)
      have hP : va_P D vwCl (ME cy b (M 0 0) (M 0 1) (M 0 2) (M 0 3) (M 0 4) (M 0 5) (M 0 6) (M 1) (upd Z (k - 349) (Z k)) (M 3) (M 4) (M 5) h) H := hP
      have hD : va_D A (ME cy b (M 0 0) (M 0 1) (M 0 2) (M 0 3) (M 0 4) (M 0 5) (M 0 6) (M 1) (upd Z (k - 349) (Z k)) (M 3) (M 4) (M 5) h) := hD
      refine lv_iinc (v := nI (k + 1)) (lv' := [(1, .int (nI (k + 1))), (0, .ref (b 0))]) hx hb dX9_saves_35 hl (k := 1) rfl (fz_inc rfl) (by decide) rfl (fun ls hl => ?_)
      refine lv_goto (tgt := 12) hx hb dX9_saves_38 (by decide) ?_
      exact ih12 (k + 1, upd Z (k - 349) (Z k)) (show (349 ≤ (k + 1)) ∧ ((k + 1) ≤ 1396) ∧ ((upd Z (k - 349) (Z k)) = fm_sh (M 2) (k + 1)) from ⟨(by omega), (by omega), (by rw [eZ, fm_sh_s hk0])⟩) (by show 1396 - (k + 1) < 1396 - k; omega) _ _ ls hP hD hS (lv_sub hl [1, 0] rfl)
set_option maxHeartbeats 4000000 in
set_option maxRecDepth 100000 in
/-- the model: ends -/
theorem c_X9_ends (l : Launch) (D : va_G) (cy : Nat → ClassId) (b : Nat → Nat) (M : Nat → Nat → Int32) (h : Int64) (x : Int32) (ns : Nat) (hs : M 0 0 = nI ns) (hs4 : ns ≤ 4) : fz_MI l yX9_ends wsX9_ends 1 21 D cy [.ref (b 0), .int x] (MW cy b M h) fz_T ((fm_ends M ns x).1) (MW cy b ((fm_ends M ns x).2) h) := by
  refine Met.ofW (cc := cX9_ends) (maxL := 2) (ret := (some .int)) (by decide) rfl ?_
  intro p e s m args below meth c s₁ B hml hv
  obtain ⟨rfl, hP, hK, hD0, hE⟩ := hv
  have hx := B.exec
  have hb := B.bytes
  have hr := B.returns
  have hts := atoms_spec (ws := wsX9_ends) B.pre
  have hown : s.vm.findClass RX9 = some m.cls := findClass_of_methodNamed B.named
  have hlocks := B.notSynchronized
  have hD := fz_self hD0
  generalize hAe : fz_in (MW cy b M h) = A at hD ⊢
  have hS : va_S A s.heap s.heap [] := va_S.rf
  have hl := lv_entry ([.ref (b 0), .int x]) (n := 2) (Nat.le_of_ble_eq_true rfl)
  rw [lg_entry_eq]
  generalize (lg_sl ([.ref (b 0), .int x]) ++ List.replicate (2 - (lg_sl ([.ref (b 0), .int x])).length) Slot.unset).toArray = ls at hl ⊢
  have hl : lv_has ls 2 [(0, .ref (b 0)), (1, .int x)] := hl
  have k_47 := hts (.fieldLink RX9 47 "FreezeCreditsModel" "answer" "I") (by decide +kernel)
  have inX9 : ∀ w ∈ u_ws RX9 TX9 13, w ∈ wsX9_ends := by decide +kernel
  refine lv_iload_n hx hb dX9_ends_0 rfl (lv_at hl 1 rfl) ?_
  refine lv_if_le (tgt := 10) hx hb dX9_ends_1 (by decide) (fun c_1 => ?_) (fun c_1 => ?_)
  · skip
    refine lv_aload_n hx hb dX9_ends_10 rfl (lv_at hl 0 rfl) ?_
    refine fz_retMV (ws' := ME cy b (nI (fm_ns ns)) (M 0 1) (M 0 2) (M 0 3) (M 0 4) (M 0 5) (M 0 6) (M 1) (fm_sv (M 2) (M 3) ns) (M 3) (M 4) (M 5) h) (va_runV (As := []) (rest := []) ⟨hx, hb, hml, hown, hts⟩ (c_X9_saves l D cy b M h ns hs hs4) (cwV 0 hts gX9_ends_X9_saves rfl rfl rfl (by decide +kernel) ⟨Nat.le_of_ble_eq_true rfl, Nat.le_of_ble_eq_true rfl⟩) (fz_preMV (ci := 7) (q0 := 0) hK hP hD rfl rfl rfl fz_T_bl (fun _ _ _ => trivial)) rfl rfl hl.1 rfl (lv_room (Nat.le_of_ble_eq_true rfl)) dX9_ends_11 ⟨Nat.zero_le _, Nat.zero_le _⟩) hP hD hS [0, 1, 2, 3, 4, 5] [] rfl rfl [true, true, true, true, true, true] (And.intro rfl (And.intro rfl (And.intro rfl (And.intro rfl (And.intro rfl (And.intro rfl trivial)))))) rfl rfl (fun H locs hP hD hS => ?_)
    have hP : va_P D vwCl (ME cy b (nI (fm_ns ns)) (M 0 1) (M 0 2) (M 0 3) (M 0 4) (M 0 5) (M 0 6) (M 1) (fm_sv (M 2) (M 3) ns) (M 3) (M 4) (M 5) h) H := hP
    have hD : va_D A (ME cy b (nI (fm_ns ns)) (M 0 1) (M 0 2) (M 0 3) (M 0 4) (M 0 5) (M 0 6) (M 1) (fm_sv (M 2) (M 3) ns) (M 3) (M 4) (M 5) h) := hD
    refine lv_aload_n hx hb dX9_ends_14 rfl (lv_at hl 0 rfl) ?_
    refine lv_aload_n hx hb dX9_ends_15 rfl (lv_at hl 0 rfl) ?_
    refine va_get (D := D) (ci := 7) (v := .int (M 0 3)) (C := RX9) (T := TX9) (N := 13) hx hb hts inX9 hown hK hP 0 rfl rfl 7 (by decide) k_47 (fun _ h9 => h9) rfl dX9_ends_16 ?_
    refine fz_retM (ws' := ME cy b (nI (fm_ns ns)) (M 0 1) 0 (M 0 3) (M 0 4) (M 0 5) (M 0 6) (M 1) (fm_sv (M 2) (M 3) ns) (M 3) (M 4) (M 5) h) (va_runV (As := [.int (M 0 3)]) (rest := []) ⟨hx, hb, hml, hown, hts⟩ (c_X9_well l D cy b (fz_up (fz_up M 0 (upd (M 0) 0 (nI (fm_ns ns)))) 2 (fm_sv (M 2) (M 3) ns)) h (M 0 3)) (cwV 1 hts gX9_ends_X9_well rfl rfl rfl (by decide +kernel) ⟨Nat.le_of_ble_eq_true rfl, Nat.le_of_ble_eq_true rfl⟩) (fz_preMV (ci := 7) (q0 := 0) hK hP hD rfl rfl rfl fz_T_bl (fun _ _ _ => trivial)) rfl rfl hl.1 rfl (lv_room (Nat.le_of_ble_eq_true rfl)) dX9_ends_19 ⟨Nat.zero_le _, Nat.zero_le _⟩) hP hD hS [0, 1, 2, 3, 4, 5] [] rfl rfl [true, true, true, true, true, true] (And.intro rfl (And.intro rfl (And.intro rfl (And.intro rfl (And.intro rfl (And.intro rfl trivial)))))) rfl rfl (fun H locs hP hD hS => ?_)
    have hP : va_P D vwCl (ME cy b (nI (fm_ns ns)) (M 0 1) 0 (M 0 3) (M 0 4) (M 0 5) (M 0 6) (M 1) (fm_sv (M 2) (M 3) ns) (M 3) (M 4) (M 5) h) H := hP
    have hD : va_D A (ME cy b (nI (fm_ns ns)) (M 0 1) 0 (M 0 3) (M 0 4) (M 0 5) (M 0 6) (M 1) (fm_sv (M 2) (M 3) ns) (M 3) (M 4) (M 5) h) := hD
    have eF : fm_ends M ns x = ((M 0 3), fz_up (fz_up M 0 (upd (upd (M 0) 0 (nI (fm_ns ns))) 2 0)) 2 (fm_sv (M 2) (M 3) ns)) := by simp only [fm_ends, c_1, ↓reduceIte, Bool.false_eq_true]
    exact W.iret (v := (M 0 3)) hx hb hr (fun t9 ht9 hW9 => ⟨⟨_, (), rfl, (by rw [eF] <;> rfl), fz_to ht9 (by rw [eF]; exact hP)⟩, hS.F ht9⟩) hS.2.2 dX9_ends_22
  · skip
    refine lv_aload_n hx hb dX9_ends_4 rfl (lv_at hl 0 rfl) ?_
    refine lv_iload_n hx hb dX9_ends_5 rfl (lv_at hl 1 rfl) ?_
    refine fz_retM (ws' := ME cy b (M 0 0) (M 0 1) x (M 0 3) (M 0 4) (M 0 5) (M 0 6) (M 1) (M 2) (M 3) (M 4) (M 5) h) (va_runV (As := [.int x]) (rest := []) ⟨hx, hb, hml, hown, hts⟩ (c_X9_fails l D cy b M h x) (cwV 1 hts gX9_ends_X9_fails rfl rfl rfl (by decide +kernel) ⟨Nat.le_of_ble_eq_true rfl, Nat.le_of_ble_eq_true rfl⟩) (fz_preMV (ci := 7) (q0 := 0) hK hP hD rfl rfl rfl fz_T_bl (fun _ _ _ => trivial)) rfl rfl hl.1 rfl (lv_room (Nat.le_of_ble_eq_true rfl)) dX9_ends_6 ⟨Nat.zero_le _, Nat.zero_le _⟩) hP hD hS [0, 1, 2, 3, 4, 5] [] rfl rfl [true, true, true, true, true, true] (And.intro rfl (And.intro rfl (And.intro rfl (And.intro rfl (And.intro rfl (And.intro rfl trivial)))))) rfl rfl (fun H locs hP hD hS => ?_)
    have hP : va_P D vwCl (ME cy b (M 0 0) (M 0 1) x (M 0 3) (M 0 4) (M 0 5) (M 0 6) (M 1) (M 2) (M 3) (M 4) (M 5) h) H := hP
    have hD : va_D A (ME cy b (M 0 0) (M 0 1) x (M 0 3) (M 0 4) (M 0 5) (M 0 6) (M 1) (M 2) (M 3) (M 4) (M 5) h) := hD
    have eF : fm_ends M ns x = (0, fz_up M 0 (upd (M 0) 2 x)) := by simp only [fm_ends, c_1, ↓reduceIte, Bool.false_eq_true]
    exact W.iret (v := 0) hx hb hr (fun t9 ht9 hW9 => ⟨⟨_, (), rfl, (by rw [eF] <;> rfl), fz_to ht9 (by rw [eF]; exact hP)⟩, hS.F ht9⟩) hS.2.2 dX9_ends_9
set_option maxHeartbeats 4000000 in
set_option maxRecDepth 100000 in
/-- the model: undo -/
theorem c_X9_undo (l : Launch) (D : va_G) (cy : Nat → ClassId) (b : Nat → Nat) (M : Nat → Nat → Int32) (h : Int64) (ns : Nat) (hs : M 0 0 = nI ns) (hs4 : ns ≤ 4) : fz_MI l yX9_undo wsX9_undo 1 21 D cy [.ref (b 0)] (MW cy b M h) fz_T ((fm_undo M ns).1) (MW cy b ((fm_undo M ns).2) h) := by
  refine Met.ofW (cc := cX9_undo) (maxL := 2) (ret := (some .int)) (by decide) rfl ?_
  intro p e s m args below meth c s₁ B hml hv
  obtain ⟨rfl, hP, hK, hD0, hE⟩ := hv
  have hx := B.exec
  have hb := B.bytes
  have hr := B.returns
  have hts := atoms_spec (ws := wsX9_undo) B.pre
  have hown : s.vm.findClass RX9 = some m.cls := findClass_of_methodNamed B.named
  have hlocks := B.notSynchronized
  have hD := fz_self hD0
  generalize hAe : fz_in (MW cy b M h) = A at hD ⊢
  have hS : va_S A s.heap s.heap [] := va_S.rf
  have hl := lv_entry ([.ref (b 0)]) (n := 2) (Nat.le_of_ble_eq_true rfl)
  rw [lg_entry_eq]
  generalize (lg_sl ([.ref (b 0)]) ++ List.replicate (2 - (lg_sl ([.ref (b 0)])).length) Slot.unset).toArray = ls at hl ⊢
  have hl : lv_has ls 2 [(0, .ref (b 0))] := hl
  have k_37 := hts (.fieldLink RX9 37 "FreezeCreditsModel" "states" "I") (by decide +kernel)
  have inX9 : ∀ w ∈ u_ws RX9 TX9 13, w ∈ wsX9_undo := by decide +kernel
  have k_7 := hts (.fieldLink RX9 7 "FreezeCreditsModel" "now" "[I") (by decide +kernel)
  have k_13 := hts (.fieldLink RX9 13 "FreezeCreditsModel" "kept" "[I") (by decide +kernel)
  refine lv_aload_n hx hb dX9_undo_0 rfl (lv_at hl 0 rfl) ?_
  refine va_get (D := D) (ci := 7) (v := .int (M 0 0)) (C := RX9) (T := TX9) (N := 13) hx hb hts inX9 hown hK hP 0 rfl rfl 2 (by decide) k_37 (fun _ h9 => h9) rfl dX9_undo_1 ?_
  refine fz_ifneN (tgt := 13) hx hb ns hs dX9_undo_4 (by decide) (by omega) (fun c_1 => ?_) (fun c_1 => ?_)
  · skip
    refine lv_aload_n hx hb dX9_undo_13 rfl (lv_at hl 0 rfl) ?_
    refine lv_dup hx hb dX9_undo_14 rfl ?_
    refine va_get (D := D) (ci := 7) (v := .int (M 0 0)) (C := RX9) (T := TX9) (N := 13) hx hb hts inX9 hown hK hP 0 rfl rfl 2 (by decide) k_37 (fun _ h9 => h9) rfl dX9_undo_15 ?_
    refine lv_iconst (v := 1) hx hb dX9_undo_18 (by decide) ?_
    refine fz_isubN hx hb ns 1 hs rfl (by omega) dX9_undo_19 ?_
    refine va_put (D := D) (ci := 7) (v := .int (nI (ns - 1))) (ty := tyX9 2) (C := RX9) (T := TX9) (N := 13) hx hb hts inX9 tyX9 tyX9_ok nmX9 hown hK hP hD hS 0 rfl rfl 2 (by decide) k_37 (fun _ h9 => h9) rfl (by decide +kernel) rfl rfl (Nat.le_of_ble_eq_true rfl) dX9_undo_20 (fun H locs hP hD hS => ?_)
    have hP : va_P D vwCl (ME cy b (nI (ns - 1)) (M 0 1) (M 0 2) (M 0 3) (M 0 4) (M 0 5) (M 0 6) (M 1) (M 2) (M 3) (M 4) (M 5) h) H := hP
    have hD : va_D A (ME cy b (nI (ns - 1)) (M 0 1) (M 0 2) (M 0 3) (M 0 4) (M 0 5) (M 0 6) (M 1) (M 2) (M 3) (M 4) (M 5) h) := hD
    refine lv_iconst (v := 0) hx hb dX9_undo_23 (by decide) ?_
    refine lv_istore_n (lv' := [(1, .int 0), (0, .ref (b 0))]) hx hb dX9_undo_24 rfl hl (by decide) rfl (fun ls hl => ?_)
    refine fz_loopM (σ := Nat × (Nat → Int32)) (pc := 25) (nL := 2) (fun x => match x with | (k, Z) => [(0, .ref (b 0)), (1, .int (nI k))]) (fun x => match x with | (k, Z) => ME cy b (nI (ns - 1)) (M 0 1) (M 0 2) (M 0 3) (M 0 4) (M 0 5) (M 0 6) Z (M 2) (M 3) (M 4) (M 5) h) (fun x => match x with | (k, Z) => (k ≤ 349) ∧ (Z = fm_cp (fun i => M 2 (349 * (ns - 1) + i)) (M 1) k)) (fun x => match x with | (k, Z) => 349 - k) ?_ (0, M 1) (show (0 ≤ 349) ∧ ((M 1) = fm_cp (fun i => M 2 (349 * (ns - 1) + i)) (M 1) 0) from ⟨(by omega), (fm_cp_0 _ _).symm⟩) _ _ ls hP hD hS (lv_sub hl [1, 0] rfl)
    rintro ⟨k, Z⟩ ⟨hk, eZ⟩ ih25 H locs ls hP hD hS hl
    have hP : va_P D vwCl (ME cy b (nI (ns - 1)) (M 0 1) (M 0 2) (M 0 3) (M 0 4) (M 0 5) (M 0 6) Z (M 2) (M 3) (M 4) (M 5) h) H := hP
    have hD : va_D A (ME cy b (nI (ns - 1)) (M 0 1) (M 0 2) (M 0 3) (M 0 4) (M 0 5) (M 0 6) Z (M 2) (M 3) (M 4) (M 5) h) := hD
    have hk : k ≤ 349 := hk
    have eZ : Z = fm_cp (fun i => M 2 (349 * (ns - 1) + i)) (M 1) k := eZ
    have hl : lv_has ls 2 [(0, .ref (b 0)), (1, .int (nI k))] := hl
    refine lv_iload_n hx hb dX9_undo_25 rfl (lv_at hl 1 rfl) ?_
    refine lv_sipush (v := 349) hx hb dX9_undo_26 (by decide) ?_
    refine fz_geN (tgt := 59) hx hb k 349 rfl rfl dX9_undo_29 (by decide) (by omega) (by omega) (fun c_2 => ?_) (fun c_2 => ?_)
    · skip
      refine lv_aload_n hx hb dX9_undo_59 rfl (lv_at hl 0 rfl) ?_
      refine lv_aload_n hx hb dX9_undo_60 rfl (lv_at hl 0 rfl) ?_
      refine va_get (D := D) (ci := 7) (v := .int (nI (ns - 1))) (C := RX9) (T := TX9) (N := 13) hx hb hts inX9 hown hK hP 0 rfl rfl 2 (by decide) k_37 (fun _ h9 => h9) rfl dX9_undo_61 ?_
      refine fz_retM (ws' := ME cy b (nI (ns - 1)) (M 0 1) 0 (M 0 3) (M 0 4) (M 0 5) (M 0 6) Z (M 2) (M 3) (M 4) (M 5) h) (va_runV (As := [.int (nI (ns - 1))]) (rest := []) ⟨hx, hb, hml, hown, hts⟩ (c_X9_well l D cy b (fz_up (fz_up M 0 (upd (M 0) 0 (nI (ns - 1)))) 1 Z) h (nI (ns - 1))) (cwV 1 hts gX9_undo_X9_well rfl rfl rfl (by decide +kernel) ⟨Nat.le_of_ble_eq_true rfl, Nat.le_of_ble_eq_true rfl⟩) (fz_preMV (ci := 7) (q0 := 0) hK hP hD rfl rfl rfl fz_T_bl (fun _ _ _ => trivial)) rfl rfl hl.1 rfl (lv_room (Nat.le_of_ble_eq_true rfl)) dX9_undo_64 ⟨Nat.zero_le _, Nat.zero_le _⟩) hP hD hS [0, 1, 2, 3, 4, 5] [] rfl rfl [true, true, true, true, true, true] (And.intro rfl (And.intro rfl (And.intro rfl (And.intro rfl (And.intro rfl (And.intro rfl trivial)))))) rfl rfl (fun H locs hP hD hS => ?_)
      have hP : va_P D vwCl (ME cy b (nI (ns - 1)) (M 0 1) 0 (M 0 3) (M 0 4) (M 0 5) (M 0 6) Z (M 2) (M 3) (M 4) (M 5) h) H := hP
      have hD : va_D A (ME cy b (nI (ns - 1)) (M 0 1) 0 (M 0 3) (M 0 4) (M 0 5) (M 0 6) Z (M 2) (M 3) (M 4) (M 5) h) := hD
      have eF : fm_undo M ns = (nI (ns - 1), fz_up (fz_up M 0 (upd (upd (M 0) 0 (nI (ns - 1))) 2 0)) 1 (fun i => M 2 (349 * (ns - 1) + i))) := by rw [fm_undo, if_neg (by omega)]
      exact W.iret (v := (nI (ns - 1))) hx hb hr (fun t9 ht9 hW9 => ⟨⟨_, (), rfl, (by rw [eF] <;> rfl), fz_to ht9 (by rw [eF]; exact ME_same (fun j hj => by rw [eZ, fm_cp, if_pos (by omega)]; rfl) (fun _ _ => rfl) (fun _ _ => rfl) (fun _ _ => rfl) (fun _ _ => rfl) hP)⟩, hS.F ht9⟩) hS.2.2 dX9_undo_67
    · skip
      refine lv_aload_n hx hb dX9_undo_32 rfl (lv_at hl 0 rfl) ?_
      refine va_get (D := D) (ci := 7) (v := .ref (b 1)) (C := RX9) (T := TX9) (N := 13) hx hb hts inX9 hown hK hP 0 rfl rfl 0 (by decide) k_7 (fun _ h9 => h9) rfl dX9_undo_33 ?_
      refine lv_iload_n hx hb dX9_undo_36 rfl (lv_at hl 1 rfl) ?_
      refine lv_aload_n hx hb dX9_undo_37 rfl (lv_at hl 0 rfl) ?_
      refine va_get (D := D) (ci := 7) (v := .ref (b 2)) (C := RX9) (T := TX9) (N := 13) hx hb hts inX9 hown hK hP 0 rfl rfl 1 (by decide) k_13 (fun _ h9 => h9) rfl dX9_undo_38 ?_
      refine lv_sipush (v := 349) hx hb dX9_undo_41 (by decide) ?_
      refine lv_aload_n hx hb dX9_undo_44 rfl (lv_at hl 0 rfl) ?_
      refine va_get (D := D) (ci := 7) (v := .int (nI (ns - 1))) (C := RX9) (T := TX9) (N := 13) hx hb hts inX9 hown hK hP 0 rfl rfl 2 (by decide) k_37 (fun _ h9 => h9) rfl dX9_undo_45 ?_
      refine fz_imulN hx hb 349 (ns - 1) rfl rfl dX9_undo_48 ?_
      refine lv_iload_n hx hb dX9_undo_49 rfl (lv_at hl 1 rfl) ?_
      refine fz_iaddN hx hb (349 * (ns - 1)) k rfl rfl dX9_undo_50 ?_
      refine fz_iald (f := M 2) hx hb hK hP 2 0 rfl rfl ((349 * (ns - 1)) + k) rfl (by omega) (by decide) dX9_undo_51 ?_
      refine fz_iast (f := Z) hx hb hK hP hD hS 1 0 rfl rfl k rfl (by omega) (by decide) dX9_undo_52 (fun H locs hP hD hS => ?_)
      have hP : va_P D vwCl (ME cy b (nI (ns - 1)) (M 0 1) (M 0 2) (M 0 3) (M 0 4) (M 0 5) (M 0 6) (upd Z k (M 2 ((349 * (ns - 1)) + k))) (M 2) (M 3) (M 4) (M 5) h) H := hP
      have hD : va_D A (ME cy b (nI (ns - 1)) (M 0 1) (M 0 2) (M 0 3) (M 0 4) (M 0 5) (M 0 6) (upd Z k (M 2 ((349 * (ns - 1)) + k))) (M 2) (M 3) (M 4) (M 5) h) := hD
      refine lv_iinc (v := nI (k + 1)) (lv' := [(1, .int (nI (k + 1))), (0, .ref (b 0))]) hx hb dX9_undo_53 hl (k := 1) rfl (fz_inc rfl) (by decide) rfl (fun ls hl => ?_)
      refine lv_goto (tgt := 25) hx hb dX9_undo_56 (by decide) ?_
      exact ih25 (k + 1, upd Z k (M 2 ((349 * (ns - 1)) + k))) (show ((k + 1) ≤ 349) ∧ ((upd Z k (M 2 ((349 * (ns - 1)) + k))) = fm_cp (fun i => M 2 (349 * (ns - 1) + i)) (M 1) (k + 1)) from ⟨(by omega), (by rw [eZ]; exact (fm_cp_s _ _ _).symm ▸ rfl)⟩) (by show 349 - (k + 1) < 349 - k; omega) _ _ ls hP hD hS (lv_sub hl [1, 0] rfl)
  · skip
    refine lv_aload_n hx hb dX9_undo_7 rfl (lv_at hl 0 rfl) ?_
    refine lv_iconst (v := 1) hx hb dX9_undo_8 (by decide) ?_
    refine fz_retM (ws' := ME cy b (M 0 0) (M 0 1) 1 (M 0 3) (M 0 4) (M 0 5) (M 0 6) (M 1) (M 2) (M 3) (M 4) (M 5) h) (va_runV (As := [.int 1]) (rest := []) ⟨hx, hb, hml, hown, hts⟩ (c_X9_fails l D cy b M h 1) (cwV 1 hts gX9_undo_X9_fails rfl rfl rfl (by decide +kernel) ⟨Nat.le_of_ble_eq_true rfl, Nat.le_of_ble_eq_true rfl⟩) (fz_preMV (ci := 7) (q0 := 0) hK hP hD rfl rfl rfl fz_T_bl (fun _ _ _ => trivial)) rfl rfl hl.1 rfl (lv_room (Nat.le_of_ble_eq_true rfl)) dX9_undo_9 ⟨Nat.zero_le _, Nat.zero_le _⟩) hP hD hS [0, 1, 2, 3, 4, 5] [] rfl rfl [true, true, true, true, true, true] (And.intro rfl (And.intro rfl (And.intro rfl (And.intro rfl (And.intro rfl (And.intro rfl trivial)))))) rfl rfl (fun H locs hP hD hS => ?_)
    have hP : va_P D vwCl (ME cy b (M 0 0) (M 0 1) 1 (M 0 3) (M 0 4) (M 0 5) (M 0 6) (M 1) (M 2) (M 3) (M 4) (M 5) h) H := hP
    have hD : va_D A (ME cy b (M 0 0) (M 0 1) 1 (M 0 3) (M 0 4) (M 0 5) (M 0 6) (M 1) (M 2) (M 3) (M 4) (M 5) h) := hD
    have eF : fm_undo M ns = (0, fz_up M 0 (upd (M 0) 2 1)) := by rw [fm_undo, if_pos c_1]
    exact W.iret (v := 0) hx hb hr (fun t9 ht9 hW9 => ⟨⟨_, (), rfl, (by rw [eF] <;> rfl), fz_to ht9 (by rw [eF]; exact hP)⟩, hS.F ht9⟩) hS.2.2 dX9_undo_12
