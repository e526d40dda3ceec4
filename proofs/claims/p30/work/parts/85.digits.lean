set_option maxHeartbeats 4000000 in
set_option maxRecDepth 100000 in
theorem m_digits {l : Launch} {D : va_G} {cy : Nat → ClassId} {A : Nat → Prop} {f a t h x ad adK adV : Nat → Nat} {cn : Nat} {V : Nat → Nat → Int32} {L : List Int32} (hst : l.stackTraces = false) {j : Nat} (hj : j < 10) (hL : L.length < 100) : pm_M l yL_digits wsL_digits 8 125 10 60 D cy A (pE ad adK adV A) [.ref (f 0), .int (nI j)] (pS cy f a t h x ad cn V L) (fun r W9 => r = nI (L.length + 4) ∧ pS cy f a t h x ad cn V (L ++ [32] ++ [48] ++ [48] ++ [nI (48 + j)]) W9) := by
  refine Met.ofW (cc := cL_digits) (maxL := 2) (ret := (some .int)) (by decide) rfl ?_
  intro p e s m args below meth c s₁ B9 hml hv
  obtain ⟨rfl, hG, hK, hE⟩ := hv
  have hx := B9.exec
  have hb := B9.bytes
  have hr := B9.returns
  have hts := atoms_spec (ws := wsL_digits) B9.pre
  have hown : s.vm.findClass RL = some m.cls := findClass_of_methodNamed B9.named
  have hlocks := B9.notSynchronized
  have hS : va_S A s.heap s.heap [] := va_S.rf
  have hl := lv_entry ([.ref (f 0), .int (nI j)]) (n := 2) (Nat.le_of_ble_eq_true rfl)
  rw [lg_entry_eq]
  generalize (lg_sl ([.ref (f 0), .int (nI j)]) ++ List.replicate (2 - (lg_sl ([.ref (f 0), .int (nI j)])).length) Slot.unset).toArray = ls at hl ⊢
  have hl : lv_has ls 2 [(0, .ref (f 0)), (1, .int (nI j))] := hl
  refine lv_aload_n hx hb dL_digits_0 rfl (lv_at hl 0 rfl) ?_
  refine lv_bipush (v := 32) hx hb dL_digits_1 (by decide) ?_
  refine pw_call (rest := []) (pw_type_t (L := L) hst 32 (by decide) (by omega)) ⟨hx, hb, hml, hown, hts⟩ (vx_cwSW 2 hts gL_digits_L_type rfl rfl rfl (by decide +kernel) ⟨Nat.le_of_ble_eq_true rfl, Nat.le_of_ble_eq_true rfl⟩) hK hG hS hE.1 rfl hl.1 rfl (Nat.le_of_ble_eq_true rfl) dL_digits_3 ⟨by show _ + 1 ≤ 10; omega, by show _ + 6 ≤ 60; omega⟩ (fun H locs hG hS => ?_)
  refine fz_top (show _ = nI (L.length + 1) from rfl) ?_
  refine lv_pop hx hb dL_digits_6 rfl ?_
  refine lv_aload_n hx hb dL_digits_7 rfl (lv_at hl 0 rfl) ?_
  refine lv_bipush (v := 48) hx hb dL_digits_8 (by decide) ?_
  refine lv_iload_n hx hb dL_digits_10 rfl (lv_at hl 1 rfl) ?_
  refine lv_bipush (v := 100) hx hb dL_digits_11 (by decide) ?_
  refine lv_idiv hx hb dL_digits_13 (by decide) ?_
  refine lv_iadd hx hb dL_digits_14 ?_
  refine fz_top (show _ = 48 from dg1 j hj) ?_
  refine pw_call (rest := []) (pw_type_t (L := (L ++ [32])) hst 48 (by decide) (by simp only [List.length_append, List.length_cons, List.length_nil]; omega)) ⟨hx, hb, hml, hown, hts⟩ (vx_cwSW 2 hts gL_digits_L_type rfl rfl rfl (by decide +kernel) ⟨Nat.le_of_ble_eq_true rfl, Nat.le_of_ble_eq_true rfl⟩) hK hG hS hE.1 rfl hl.1 rfl (Nat.le_of_ble_eq_true rfl) dL_digits_15 ⟨by show _ + 1 ≤ 10; omega, by show _ + 6 ≤ 60; omega⟩ (fun H locs hG hS => ?_)
  refine fz_top (show _ = nI ((L ++ [32]).length + 1) from rfl) ?_
  refine lv_pop hx hb dL_digits_18 rfl ?_
  refine lv_aload_n hx hb dL_digits_19 rfl (lv_at hl 0 rfl) ?_
  refine lv_bipush (v := 48) hx hb dL_digits_20 (by decide) ?_
  refine lv_iload_n hx hb dL_digits_22 rfl (lv_at hl 1 rfl) ?_
  refine lv_bipush (v := 10) hx hb dL_digits_23 (by decide) ?_
  refine lv_idiv hx hb dL_digits_25 (by decide) ?_
  refine lv_bipush (v := 10) hx hb dL_digits_26 (by decide) ?_
  refine lv_irem hx hb dL_digits_28 (by decide) ?_
  refine lv_iadd hx hb dL_digits_29 ?_
  refine fz_top (show _ = 48 from dg2 j hj) ?_
  refine pw_call (rest := []) (pw_type_t (L := (L ++ [32] ++ [48])) hst 48 (by decide) (by simp only [List.length_append, List.length_cons, List.length_nil]; omega)) ⟨hx, hb, hml, hown, hts⟩ (vx_cwSW 2 hts gL_digits_L_type rfl rfl rfl (by decide +kernel) ⟨Nat.le_of_ble_eq_true rfl, Nat.le_of_ble_eq_true rfl⟩) hK hG hS hE.1 rfl hl.1 rfl (Nat.le_of_ble_eq_true rfl) dL_digits_30 ⟨by show _ + 1 ≤ 10; omega, by show _ + 6 ≤ 60; omega⟩ (fun H locs hG hS => ?_)
  refine fz_top (show _ = nI ((L ++ [32] ++ [48]).length + 1) from rfl) ?_
  refine lv_pop hx hb dL_digits_33 rfl ?_
  refine lv_aload_n hx hb dL_digits_34 rfl (lv_at hl 0 rfl) ?_
  refine lv_bipush (v := 48) hx hb dL_digits_35 (by decide) ?_
  refine lv_iload_n hx hb dL_digits_37 rfl (lv_at hl 1 rfl) ?_
  refine lv_bipush (v := 10) hx hb dL_digits_38 (by decide) ?_
  refine lv_irem hx hb dL_digits_40 (by decide) ?_
  refine lv_iadd hx hb dL_digits_41 ?_
  refine fz_top (show _ = nI (48 + j) from dg3 j hj) ?_
  refine pw_call (rest := []) (pw_type_t (L := (L ++ [32] ++ [48] ++ [48])) hst (nI (48 + j)) (dgv j hj) (by simp only [List.length_append, List.length_cons, List.length_nil]; omega)) ⟨hx, hb, hml, hown, hts⟩ (vx_cwSW 2 hts gL_digits_L_type rfl rfl rfl (by decide +kernel) ⟨Nat.le_of_ble_eq_true rfl, Nat.le_of_ble_eq_true rfl⟩) hK hG hS hE.1 rfl hl.1 rfl (Nat.le_of_ble_eq_true rfl) dL_digits_42 ⟨by show _ + 1 ≤ 10; omega, by show _ + 6 ≤ 60; omega⟩ (fun H locs hG hS => ?_)
  refine fz_top (show _ = nI ((L ++ [32] ++ [48] ++ [48]).length + 1) from rfl) ?_
  refine W.widen (k := 10) (n := 60) (by omega) (by omega) ?_
  obtain ⟨Wn, h9, hP, hD⟩ := hG
  refine W.iret hx hb hr (fun t9 ht9 hW9 => ?_) hS.2.2 dL_digits_45
  exact ⟨⟨_, Wn, rfl, ⟨⟨congrArg nI (by simp only [List.length_append, List.length_cons, List.length_nil]; try omega), h9⟩, hD⟩, fz_to ht9 hP⟩, hS.F ht9⟩
