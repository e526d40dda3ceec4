set_option maxHeartbeats 4000000 in
set_option maxRecDepth 100000 in
/-- isRisk -/
theorem c_X8_isRisk (l : Launch) (D : va_G) (cy : Nat → ClassId) (x : Int32) : fz_RI l yX8_isRisk wsX8_isRisk 0 0 D cy [.int x] ([] : va_W) fz_T (fz_b (fz_risk x)) := by
  refine Met.ofW (cc := cX8_isRisk) (maxL := 1) (ret := (some .boolean)) (by decide) rfl ?_
  intro p e s m args below meth c s₁ B hml hv
  obtain ⟨rfl, hP, hK, hE⟩ := hv
  have hx := B.exec
  have hb := B.bytes
  have hr := B.returns
  have hts := atoms_spec (ws := wsX8_isRisk) B.pre
  have hown : s.vm.findClass RX8 = some m.cls := findClass_of_methodNamed B.named
  have hlocks := B.notSynchronized
  have hl := lv_entry ([.int x]) (n := 1) (Nat.le_of_ble_eq_true rfl)
  rw [lg_entry_eq]
  generalize (lg_sl ([.int x]) ++ List.replicate (1 - (lg_sl ([.int x])).length) Slot.unset).toArray = ls at hl ⊢
  have hl : lv_has ls 1 [(0, .int x)] := hl
  refine lv_iload_n hx hb dX8_isRisk_0 rfl (lv_at hl 0 rfl) ?_
  refine lv_iconst (v := 1) hx hb dX8_isRisk_1 (by decide) ?_
  refine lv_icmp_lt (tgt := 15) hx hb dX8_isRisk_2 (by decide) (fun c_1 => ?_) (fun c_1 => ?_)
  · skip
    refine lv_iconst (v := 0) hx hb dX8_isRisk_15 (by decide) ?_
    exact W.zret (v := 0) hx hb hr (by decide) (fun t9 ht9 hW9 => ⟨_, rfl, (by simp [fz_risk, fz_b, c_1]), ht9⟩) (fun _ h => nomatch h) dX8_isRisk_16
  · skip
    refine lv_iload_n hx hb dX8_isRisk_5 rfl (lv_at hl 0 rfl) ?_
    refine lv_bipush (v := 9) hx hb dX8_isRisk_6 (by decide) ?_
    refine lv_icmp_gt (tgt := 15) hx hb dX8_isRisk_8 (by decide) (fun c_2 => ?_) (fun c_2 => ?_)
    · skip
      refine lv_iconst (v := 0) hx hb dX8_isRisk_15 (by decide) ?_
      exact W.zret (v := 0) hx hb hr (by decide) (fun t9 ht9 hW9 => ⟨_, rfl, (by simp [fz_risk, fz_b, c_1, c_2]), ht9⟩) (fun _ h => nomatch h) dX8_isRisk_16
    · skip
      refine lv_iconst (v := 1) hx hb dX8_isRisk_11 (by decide) ?_
      refine lv_goto (tgt := 16) hx hb dX8_isRisk_12 (by decide) ?_
      exact W.zret (v := 1) hx hb hr (by decide) (fun t9 ht9 hW9 => ⟨_, rfl, (by simp [fz_risk, fz_b, c_1, c_2]), ht9⟩) (fun _ h => nomatch h) dX8_isRisk_16
set_option maxHeartbeats 4000000 in
set_option maxRecDepth 100000 in
/-- asNumber -/
theorem c_X8_asNumber (l : Launch) (D : va_G) (cy : Nat → ClassId) (x : Int32) : fz_RI l yX8_asNumber wsX8_asNumber 0 0 D cy [.int x] ([] : va_W) fz_T (fz_nz x) := by
  refine Met.ofW (cc := cX8_asNumber) (maxL := 1) (ret := (some .int)) (by decide) rfl ?_
  intro p e s m args below meth c s₁ B hml hv
  obtain ⟨rfl, hP, hK, hE⟩ := hv
  have hx := B.exec
  have hb := B.bytes
  have hr := B.returns
  have hts := atoms_spec (ws := wsX8_asNumber) B.pre
  have hown : s.vm.findClass RX8 = some m.cls := findClass_of_methodNamed B.named
  have hlocks := B.notSynchronized
  have hl := lv_entry ([.int x]) (n := 1) (Nat.le_of_ble_eq_true rfl)
  rw [lg_entry_eq]
  generalize (lg_sl ([.int x]) ++ List.replicate (1 - (lg_sl ([.int x])).length) Slot.unset).toArray = ls at hl ⊢
  have hl : lv_has ls 1 [(0, .int x)] := hl
  refine lv_iload_n hx hb dX8_asNumber_0 rfl (lv_at hl 0 rfl) ?_
  refine lv_if_eq (tgt := 8) hx hb dX8_asNumber_1 (by decide) (fun c_1 => ?_) (fun c_1 => ?_)
  · skip
    refine lv_iconst (v := 0) hx hb dX8_asNumber_8 (by decide) ?_
    exact W.iret (v := 0) hx hb hr (fun t9 ht9 hW9 => ⟨_, rfl, (by simp [fz_nz, c_1]), ht9⟩) (fun _ h => nomatch h) dX8_asNumber_9
  · skip
    refine lv_iconst (v := 1) hx hb dX8_asNumber_4 (by decide) ?_
    refine lv_goto (tgt := 9) hx hb dX8_asNumber_5 (by decide) ?_
    exact W.iret (v := 1) hx hb hr (fun t9 ht9 hW9 => ⟨_, rfl, (by simp [fz_nz, c_1]), ht9⟩) (fun _ h => nomatch h) dX8_asNumber_9
set_option maxHeartbeats 4000000 in
set_option maxRecDepth 100000 in
/-- sum -/
theorem c_X8_sum (l : Launch) (D : va_G) (cy : Nat → ClassId) (q : Nat) (z : Nat) (g : Nat → Int32) (k : Nat) (hk : k ≤ z) (hz : z < 100) : fz_RI l yX8_sum wsX8_sum 0 0 D cy [.ref q, .int (nI k)] (AW cy q z g) fz_T (fz_sum g k) := by
  refine Met.ofW (cc := cX8_sum) (maxL := 4) (ret := (some .int)) (by decide) rfl ?_
  intro p e s m args below meth c s₁ B hml hv
  obtain ⟨rfl, hP, hK, hE⟩ := hv
  have hx := B.exec
  have hb := B.bytes
  have hr := B.returns
  have hts := atoms_spec (ws := wsX8_sum) B.pre
  have hown : s.vm.findClass RX8 = some m.cls := findClass_of_methodNamed B.named
  have hlocks := B.notSynchronized
  have hl := lv_entry ([.ref q, .int (nI k)]) (n := 4) (Nat.le_of_ble_eq_true rfl)
  rw [lg_entry_eq]
  generalize (lg_sl ([.ref q, .int (nI k)]) ++ List.replicate (4 - (lg_sl ([.ref q, .int (nI k)])).length) Slot.unset).toArray = ls at hl ⊢
  have hl : lv_has ls 4 [(0, .ref q), (1, .int (nI k))] := hl
  refine lv_iconst (v := 0) hx hb dX8_sum_0 (by decide) ?_
  refine lv_istore_n (lv' := [(2, .int 0), (0, .ref q), (1, .int (nI k))]) hx hb dX8_sum_1 rfl hl (by decide) rfl (fun ls hl => ?_)
  refine lv_iconst (v := 0) hx hb dX8_sum_2 (by decide) ?_
  refine lv_istore_n (lv' := [(3, .int 0), (2, .int 0), (0, .ref q), (1, .int (nI k))]) hx hb dX8_sum_3 rfl hl (by decide) rfl (fun ls hl => ?_)
  refine fz_loop (σ := Nat × Int32) (pc := 4) (nL := 4) (fun x => match x with | (i, r) => [(0, .ref q), (1, .int (nI k)), (2, .int r), (3, .int (nI i))]) (fun x => match x with | (i, r) => (i ≤ k) ∧ (r = fz_sum g i)) (fun x => match x with | (i, r) => k - i) ?_ (0, 0) (show (0 ≤ k) ∧ (0 = fz_sum g 0) from ⟨(by omega), rfl⟩) ls (lv_sub hl [2, 3, 1, 0] rfl)
  rintro ⟨i, r⟩ ⟨hi, er⟩ ih4 ls hl
  have hi : i ≤ k := hi
  have er : r = fz_sum g i := er
  have hl : lv_has ls 4 [(0, .ref q), (1, .int (nI k)), (2, .int r), (3, .int (nI i))] := hl
  refine lv_iload_n hx hb dX8_sum_4 rfl (lv_at hl 3 rfl) ?_
  refine lv_iload_n hx hb dX8_sum_5 rfl (lv_at hl 1 rfl) ?_
  refine fz_geN (tgt := 21) hx hb i k rfl rfl dX8_sum_6 (by decide) (by omega) (by omega) (fun c_1 => ?_) (fun c_1 => ?_)
  · skip
    refine lv_iload_n hx hb dX8_sum_21 rfl (lv_at hl 2 rfl) ?_
    exact W.iret (v := r) hx hb hr (fun t9 ht9 hW9 => ⟨_, rfl, (by rw [er, show k = i by omega]), ht9⟩) (fun _ h => nomatch h) dX8_sum_22
  · skip
    refine lv_iload_n hx hb dX8_sum_9 rfl (lv_at hl 2 rfl) ?_
    refine lv_aload_n hx hb dX8_sum_10 rfl (lv_at hl 0 rfl) ?_
    refine lv_iload_n hx hb dX8_sum_11 rfl (lv_at hl 3 rfl) ?_
    refine fz_iald (f := g) hx hb hK hP 0 0 rfl rfl i rfl (by omega) (by omega) dX8_sum_12 ?_
    refine lv_iadd hx hb dX8_sum_13 ?_
    refine lv_istore_n (lv' := [(2, .int (r + (g i))), (0, .ref q), (1, .int (nI k)), (3, .int (nI i))]) hx hb dX8_sum_14 rfl hl (by decide) rfl (fun ls hl => ?_)
    refine lv_iinc (v := nI (i + 1)) (lv' := [(3, .int (nI (i + 1))), (2, .int (r + (g i))), (0, .ref q), (1, .int (nI k))]) hx hb dX8_sum_15 hl (k := 3) rfl (fz_inc rfl) (by decide) rfl (fun ls hl => ?_)
    refine lv_goto (tgt := 4) hx hb dX8_sum_18 (by decide) ?_
    exact ih4 (i + 1, r + (g i)) (show ((i + 1) ≤ k) ∧ ((r + (g i)) = fz_sum g (i + 1)) from ⟨(by omega), (by rw [fz_sum, er])⟩) (by show k - (i + 1) < k - i; omega) ls (lv_sub hl [2, 3, 1, 0] rfl)
