/-! undo; a text is run -/
set_option maxHeartbeats 4000000 in
set_option maxRecDepth 100000 in
/-- FreezeCredits.undo -/
theorem c_X8_undo_z (l : Launch) (hst : l.stackTraces = false) (D : va_G) (cy : Nat → ClassId) (f a t h x : Nat → Nat) (g : Nat → Option Nat) (Z : va_W) : fz_XI l yX8_undo wsX8_undo 6 90 1 6 D cy [.ref (f 0)] (FW f a t h x ++ (HW cy h g 0 ++ Z)) (fz_Ev (fz_in (FW f a t h x ++ (HW cy h g 0 ++ Z)))) 0 (FW f a t h x ++ (HW cy h g 0 ++ Z)) false xIS (FW f a t h x ++ (HW cy h g 0 ++ Z)) := by
  refine vx_ofW (cc := cX8_undo) (maxL := 1) (ret := (some .int)) (by decide) rfl ?_
  intro p e s m args below meth c s₁ B hml ht hv
  obtain ⟨rfl, hP, hK, hD0, hE⟩ := hv
  have hx := B.exec
  have hb := B.bytes
  have hr := B.returns
  have hts := atoms_spec (ws := wsX8_undo) B.pre
  have hown : s.vm.findClass RX8 = some m.cls := findClass_of_methodNamed B.named
  have hlocks := B.notSynchronized
  have hD := fz_self hD0
  obtain ⟨A, hAe⟩ : ∃ A : Nat → Prop, A = fz_in (FW f a t h x ++ (HW cy h g 0 ++ Z)) := ⟨_, rfl⟩
  rw [← hAe] at hD
  have hE : fz_Ev A s := by rw [hAe]; exact hE
  have hS : va_S A s.heap s.heap [] := va_S.rf
  have hl := lv_entry ([.ref (f 0)]) (n := 1) (Nat.le_of_ble_eq_true rfl)
  rw [lg_entry_eq]
  generalize (lg_sl ([.ref (f 0)]) ++ List.replicate (1 - (lg_sl ([.ref (f 0)])).length) Slot.unset).toArray = ls at hl ⊢
  have hl : lv_has ls 1 [(0, .ref (f 0))] := hl
  have k_history := hts (.fieldLink RX8 22 "FreezeCredits" "history" "LFreezeCredits$History;") (by decide +kernel)
  have inX8 : ∀ w ∈ u_ws RX8 TX8 4, w ∈ wsX8_undo := by decide +kernel
  have k_c := hts (.fieldLink RX8 209 "FreezeCredits$History" "count" "I") (by decide +kernel)
  have inX4 : ∀ w ∈ u_ws RX4 TX4 2, w ∈ wsX8_undo := by decide +kernel
  refine lv_aload_n hx hb dX8_undo_0 rfl (lv_at hl 0 rfl) ?_
  refine va_get (D := D) (ci := 6) (v := .ref (h 0)) (C := RX8) (T := TX8) (N := 4) hx hb hts inX8 hown hK hP 0 rfl rfl 2 (by decide) k_history (fun _ h9 => h9) rfl dX8_undo_1 ?_
  refine va_get (D := D) (ci := 3) (v := .int (0)) (C := RX4) (T := TX4) (N := 2) hx hb hts inX4 hown hK hP 1 rfl rfl 0 (by decide) k_c (fun _ h9 => h9) rfl dX8_undo_4 ?_
  refine lv_if_gt (tgt := 20) hx hb dX8_undo_7 (by decide) (fun c_1 => absurd c_1 (by decide)) (fun c_1 => ?_)
  subst hAe
  exact fz_throw (text := "the undo stack is empty") (cls := xIS) (ik := 192) (is := 212) (ic := 196) hx hb hst (hl.1.trans hml.symm) ht hlocks hown hts hE.1 (by decide +kernel) (by decide +kernel) (by decide +kernel) (by decide +kernel) (by decide +kernel) (by decide +kernel) (by decide +kernel) rfl hP hS dX8_undo_10 dX8_undo_13 dX8_undo_14 dX8_undo_16 dX8_undo_19 (Nat.le_of_ble_eq_true rfl) (Nat.le_of_ble_eq_true rfl) (Nat.le_of_ble_eq_true rfl) (Nat.le_of_ble_eq_true rfl) (Nat.le_of_ble_eq_true rfl) (Nat.le_of_ble_eq_true rfl)
set_option maxHeartbeats 4000000 in
set_option maxRecDepth 100000 in
/-- FreezeCredits.undo -/
theorem c_X8_undo_s (l : Launch) (hst : l.stackTraces = false) (D : va_G) (cy : Nat → ClassId) (f a t h x : Nat → Nat) (g : Nat → Option Nat) (cn : Nat) (V : Nat → Nat → Int32) (w : Nat → Nat) (N : Nat → Nat → Int32) (Z : va_W) (hn : cn < 5) (hw : g cn = some (w 0)) (hz : fz_zo (N 2) 40) : fz_XI l yX8_undo wsX8_undo 6 90 1 6 D cy [.ref (f 0)] (FW f a t h x ++ (HW cy h g (nI (cn + 1)) ++ (CW cy a V ++ (CW cy w N ++ Z)))) (fz_Ev (fz_in (FW f a t h x ++ (HW cy h g (nI (cn + 1)) ++ (CW cy a V ++ (CW cy w N ++ Z)))))) (nI cn) (FW f a t h x ++ (HW cy h g (nI cn) ++ (CW cy a N ++ (CW cy w N ++ Z)))) true xIS (FW f a t h x ++ (HW cy h g (nI (cn + 1)) ++ (CW cy a V ++ (CW cy w N ++ Z)))) := by
  refine vx_ofW (cc := cX8_undo) (maxL := 1) (ret := (some .int)) (by decide) rfl ?_
  intro p e s m args below meth c s₁ B hml ht hv
  obtain ⟨rfl, hP, hK, hD0, hE⟩ := hv
  have hx := B.exec
  have hb := B.bytes
  have hr := B.returns
  have hts := atoms_spec (ws := wsX8_undo) B.pre
  have hown : s.vm.findClass RX8 = some m.cls := findClass_of_methodNamed B.named
  have hlocks := B.notSynchronized
  have hD := fz_self hD0
  obtain ⟨A, hAe⟩ : ∃ A : Nat → Prop, A = fz_in (FW f a t h x ++ (HW cy h g (nI (cn + 1)) ++ (CW cy a V ++ (CW cy w N ++ Z)))) := ⟨_, rfl⟩
  rw [← hAe] at hD
  have hE : fz_Ev A s := by rw [hAe]; exact hE
  have hS : va_S A s.heap s.heap [] := va_S.rf
  have hl := lv_entry ([.ref (f 0)]) (n := 1) (Nat.le_of_ble_eq_true rfl)
  rw [lg_entry_eq]
  generalize (lg_sl ([.ref (f 0)]) ++ List.replicate (1 - (lg_sl ([.ref (f 0)])).length) Slot.unset).toArray = ls at hl ⊢
  have hl : lv_has ls 1 [(0, .ref (f 0))] := hl
  have k_history := hts (.fieldLink RX8 22 "FreezeCredits" "history" "LFreezeCredits$History;") (by decide +kernel)
  have k_now := hts (.fieldLink RX8 12 "FreezeCredits" "now" "LFreezeCredits$Calendar;") (by decide +kernel)
  have inX8 : ∀ w ∈ u_ws RX8 TX8 4, w ∈ wsX8_undo := by decide +kernel
  have k_c := hts (.fieldLink RX8 209 "FreezeCredits$History" "count" "I") (by decide +kernel)
  have inX4 : ∀ w ∈ u_ws RX4 TX4 2, w ∈ wsX8_undo := by decide +kernel
  refine lv_aload_n hx hb dX8_undo_0 rfl (lv_at hl 0 rfl) ?_
  refine va_get (D := D) (ci := 6) (v := .ref (h 0)) (C := RX8) (T := TX8) (N := 4) hx hb hts inX8 hown hK hP 0 rfl rfl 2 (by decide) k_history (fun _ h9 => h9) rfl dX8_undo_1 ?_
  refine va_get (D := D) (ci := 3) (v := .int (nI (cn + 1))) (C := RX4) (T := TX4) (N := 2) hx hb hts inX4 hown hK hP 1 rfl rfl 0 (by decide) k_c (fun _ h9 => h9) rfl dX8_undo_4 ?_
  refine fz_ifgtN (tgt := 20) hx hb (cn + 1) rfl dX8_undo_7 (by decide) (by omega) (fun c_1 => ?_) (fun c_1 => absurd c_1 (by omega))
  refine lv_aload_n hx hb dX8_undo_20 rfl (lv_at hl 0 rfl) ?_
  refine va_get (D := D) (ci := 6) (v := .ref (h 0)) (C := RX8) (T := TX8) (N := 4) hx hb hts inX8 hown hK hP 0 rfl rfl 2 (by decide) k_history (fun _ h9 => h9) rfl dX8_undo_21 ?_
  refine lv_aload_n hx hb dX8_undo_24 rfl (lv_at hl 0 rfl) ?_
  refine va_get (D := D) (ci := 6) (v := .ref (a 0)) (C := RX8) (T := TX8) (N := 4) hx hb hts inX8 hown hK hP 0 rfl rfl 0 (by decide) k_now (fun _ h9 => h9) rfl dX8_undo_25 ?_
  refine fz_sretM (P := FW f a t h x) (S := Z) (Wc := HW cy h g (nI (cn + 1)) ++ (CW cy a V ++ CW cy w N)) (Wc' := HW cy h g (nI cn) ++ (CW cy a N ++ CW cy w N)) (va_runV (As := [.ref (a 0)]) (rest := []) ⟨hx, hb, hml, hown, hts⟩ (c_X4_restore l D cy h g cn a V w N hn hw hz) (cwV 1 hts gX8_undo_X4_restore rfl rfl rfl (by decide +kernel) ⟨Nat.le_of_ble_eq_true rfl, Nat.le_of_ble_eq_true rfl⟩) (fz_preMV (ci := 3) (q0 := 0) hK (fz_seg (P := FW f a t h x) (S := Z) hP) (fz_segD (P := FW f a t h x) (S := Z) hD) rfl rfl rfl fz_T_bl (fun _ _ _ => trivial)) rfl rfl hl.1 rfl (lv_room (Nat.le_of_ble_eq_true rfl)) dX8_undo_28 ⟨Nat.le_of_ble_eq_true rfl, Nat.le_of_ble_eq_true rfl⟩) hP hD hS rfl (fun H locs hP hD hS => ?_)
  have hP : va_P D vwCl (FW f a t h x ++ (HW cy h g (nI cn) ++ (CW cy a N ++ (CW cy w N ++ Z)))) H := hP
  refine fz_wd (k := 1) (n := 6) (Nat.le_of_ble_eq_true rfl) (Nat.le_of_ble_eq_true rfl) ?_
  refine vx_ret ?_
  subst hAe
  exact W.iret (v := nI cn) hx hb hr (fun t9 ht9 hW9 => ⟨⟨_, (), rfl, ⟨rfl, rfl⟩, fz_to ht9 hP⟩, hS.F ht9⟩) hS.2.2 dX8_undo_31
/-- the text's rows behind the search for a fault, and behind the run -/
def cx_F (X : Nat → Nat → Int32) (ln : Nat) (vb : Option Nat) : Int32 × Nat × Option Nat × (Nat → Int32) := cx_ff (X 2) ln 150 0 vb (X 1)
def cx_X1 (X : Nat → Nat → Int32) (ln : Nat) (vb : Option Nat) : Nat → Nat → Int32 := fz_up (fz_up X 0 (upd (X 0) 1 (nI (cx_F X ln vb).2.1))) 1 (cx_F X ln vb).2.2.2
def cx_C (X : Nat → Nat → Int32) (ln : Nat) (vb : Option Nat) (V : Nat → Nat → Int32) : Nat × (Nat → Nat → Int32) × Nat × Option Nat × (Nat → Int32) := cx_ct (cx_X1 X ln vb 2) ln (cx_F X ln vb).2.2.1 (cx_X1 X ln vb 1) V
def cx_X2 (X : Nat → Nat → Int32) (ln : Nat) (vb : Option Nat) (V : Nat → Nat → Int32) : Nat → Nat → Int32 := fz_up (fz_up (cx_X1 X ln vb) 0 (upd (cx_X1 X ln vb 0) 1 (nI (cx_C X ln vb V).2.2.1))) 1 (cx_C X ln vb V).2.2.2.2
set_option maxHeartbeats 4000000 in
set_option maxRecDepth 100000 in
/-- FreezeCredits.runCommands -/
theorem c_X8_runCommands_f (l : Launch) (D : va_G) (cy : Nat → ClassId) (f a t h x : Nat → Nat) (g : Nat → Option Nat) (ad adK adV : Nat → Nat) (X : Nat → Nat → Int32) (vb : Option Nat) (ln : Nat) (hln : X 0 0 = nI ln) (hln150 : ln ≤ 150) (Z : va_W) (hf : ¬ (cx_F X ln vb).1 = -1) : fz_MI l yX8_runCommands wsX8_runCommands 8 176 D cy [.ref (f 0)] (FW f a t h x ++ (XW cy ad x X vb ++ Z)) (fz_Er ad adK adV (fz_in (FW f a t h x ++ (XW cy ad x X vb ++ Z)))) ((-10) - (cx_F X ln vb).1) (FW f a t h x ++ (XW cy ad x (cx_X1 X ln vb) (cx_F X ln vb).2.2.1 ++ Z)) := by
  refine Met.ofW (cc := cX8_runCommands) (maxL := 3) (ret := (some .int)) (by decide) rfl ?_
  intro p e s m args below meth c s₁ B hml hv
  obtain ⟨rfl, hP, hK, hD0, hE⟩ := hv
  have hx := B.exec
  have hb := B.bytes
  have hr := B.returns
  have hts := atoms_spec (ws := wsX8_runCommands) B.pre
  have hown : s.vm.findClass RX8 = some m.cls := findClass_of_methodNamed B.named
  have hlocks := B.notSynchronized
  have hD := fz_self hD0
  obtain ⟨A, hAe⟩ : ∃ A : Nat → Prop, A = fz_in (FW f a t h x ++ (XW cy ad x X vb ++ Z)) := ⟨_, rfl⟩
  rw [← hAe] at hD
  have hE : fz_Er ad adK adV A s := by rw [hAe]; exact hE
  have hS : va_S A s.heap s.heap [] := va_S.rf
  have hl := lv_entry ([.ref (f 0)]) (n := 3) (Nat.le_of_ble_eq_true rfl)
  rw [lg_entry_eq]
  generalize (lg_sl ([.ref (f 0)]) ++ List.replicate (3 - (lg_sl ([.ref (f 0)])).length) Slot.unset).toArray = ls at hl ⊢
  have hl : lv_has ls 3 [(0, .ref (f 0))] := hl
  have k_text := hts (.fieldLink RX8 29 "FreezeCredits" "text" "LFreezeCredits$CommandText;") (by decide +kernel)
  have inX8 : ∀ w ∈ u_ws RX8 TX8 4, w ∈ wsX8_runCommands := by decide +kernel
  refine lv_aload_n hx hb dX8_runCommands_0 rfl (lv_at hl 0 rfl) ?_
  refine va_get (D := D) (ci := 6) (v := .ref (x 0)) (C := RX8) (T := TX8) (N := 4) hx hb hts inX8 hown hK hP 0 rfl rfl 3 (by decide) k_text (fun _ h9 => h9) rfl dX8_runCommands_1 ?_
  refine fz_sretM (P := FW f a t h x) (S := Z) (Wc := XW cy ad x X vb) (Wc' := XW cy ad x (cx_X1 X ln vb) (cx_F X ln vb).2.2.1) (va_runV (As := []) (rest := []) ⟨hx, hb, hml, hown, hts⟩ (c_X3_findFault l D cy x ad X vb adK adV ln hln hln150) (cwV 0 hts gX8_runCommands_X3_findFault rfl rfl rfl (by decide +kernel) ⟨Nat.le_of_ble_eq_true rfl, Nat.le_of_ble_eq_true rfl⟩) (fz_preMV (ci := 2) (q0 := 0) hK (fz_seg (P := FW f a t h x) (S := Z) hP) (fz_segD (P := FW f a t h x) (S := Z) hD) rfl rfl rfl fz_Vb_bl (fun U hU hW => hE.2.to (by rw [hU]; exact hS) hW.alike (fun q h9 => fz_inD (fz_segD (P := FW f a t h x) (S := Z) hD) h9))) rfl rfl hl.1 rfl (lv_room (Nat.le_of_ble_eq_true rfl)) dX8_runCommands_4 ⟨Nat.le_of_ble_eq_true rfl, Nat.le_of_ble_eq_true rfl⟩) hP hD hS rfl (fun H locs hP hD hS => ?_)
  refine fz_top (show _ = (cx_F X ln vb).1 from rfl) ?_
  refine lv_istore_n (lv' := [(1, .int (cx_F X ln vb).1), (0, .ref (f 0))]) hx hb dX8_runCommands_7 rfl hl (by decide) rfl (fun ls hl => ?_)
  refine lv_iload_n hx hb dX8_runCommands_8 rfl (lv_at hl 0 rfl) ?_
  refine lv_iconst (v := (-1)) hx hb dX8_runCommands_9 (by decide) ?_
  refine lv_icmp_eq (tgt := 18) hx hb dX8_runCommands_10 (by decide) (fun c_1 => absurd c_1 hf) (fun _ => ?_)
  refine lv_bipush (v := (-10)) hx hb dX8_runCommands_13 (by decide) ?_
  refine lv_iload_n hx hb dX8_runCommands_15 rfl (lv_at hl 0 rfl) ?_
  refine lv_isub hx hb dX8_runCommands_16 ?_
  subst hAe
  exact W.iret (v := (-10) - (cx_F X ln vb).1) hx hb hr (fun t9 ht9 hW9 => ⟨⟨_, (), rfl, rfl, fz_to ht9 hP⟩, hS.F ht9⟩) hS.2.2 dX8_runCommands_17
set_option maxHeartbeats 4000000 in
set_option maxRecDepth 100000 in
/-- FreezeCredits.runCommands -/
theorem c_X8_runCommands_n (l : Launch) (D : va_G) (cy : Nat → ClassId) (f a t h x : Nat → Nat) (g : Nat → Option Nat) (ad adK adV : Nat → Nat) (X : Nat → Nat → Int32) (vb : Option Nat) (ln : Nat) (hln : X 0 0 = nI ln) (hln150 : ln ≤ 150) (cn : Nat) (V : Nat → Nat → Int32) (w : Nat → Nat) (N : Nat → Nat → Int32) (Z : va_W) (hf : (cx_F X ln vb).1 = -1) (hV : fz_wfx V) (hn : cn < 5) (hw : g cn = some (w 0)) (hz : fz_zo (V 2) 40) (hh : ∀ k, k < 5 → ∃ x, g k = some x ∧ fz_hd (CW cy w N ++ Z) x) : fz_MI l yX8_runCommands wsX8_runCommands 8 176 D cy [.ref (f 0)] (FW f a t h x ++ (XW cy ad x X vb ++ (HW cy h g (nI cn) ++ (CW cy a V ++ (CW cy w N ++ Z))))) (fz_Er ad adK adV (fz_in (FW f a t h x ++ (XW cy ad x X vb ++ (HW cy h g (nI cn) ++ (CW cy a V ++ (CW cy w N ++ Z))))))) (nI (cx_C X ln vb V).1) (FW f a t h x ++ (XW cy ad x (cx_X2 X ln vb V) (cx_C X ln vb V).2.2.2.1 ++ (HW cy h (hs_g g cn) (nI (hs_n cn)) ++ (CW cy a (cx_C X ln vb V).2.1 ++ (CW cy w V ++ Z))))) := by
  refine Met.ofW (cc := cX8_runCommands) (maxL := 3) (ret := (some .int)) (by decide) rfl ?_
  intro p e s m args below meth c s₁ B hml hv
  obtain ⟨rfl, hP, hK, hD0, hE⟩ := hv
  have hx := B.exec
  have hb := B.bytes
  have hr := B.returns
  have hts := atoms_spec (ws := wsX8_runCommands) B.pre
  have hown : s.vm.findClass RX8 = some m.cls := findClass_of_methodNamed B.named
  have hlocks := B.notSynchronized
  have hD := fz_self hD0
  obtain ⟨A, hAe⟩ : ∃ A : Nat → Prop, A = fz_in (FW f a t h x ++ (XW cy ad x X vb ++ (HW cy h g (nI cn) ++ (CW cy a V ++ (CW cy w N ++ Z))))) := ⟨_, rfl⟩
  rw [← hAe] at hD
  have hE : fz_Er ad adK adV A s := by rw [hAe]; exact hE
  have hS : va_S A s.heap s.heap [] := va_S.rf
  have hl := lv_entry ([.ref (f 0)]) (n := 3) (Nat.le_of_ble_eq_true rfl)
  rw [lg_entry_eq]
  generalize (lg_sl ([.ref (f 0)]) ++ List.replicate (3 - (lg_sl ([.ref (f 0)])).length) Slot.unset).toArray = ls at hl ⊢
  have hl : lv_has ls 3 [(0, .ref (f 0))] := hl
  have k_text := hts (.fieldLink RX8 29 "FreezeCredits" "text" "LFreezeCredits$CommandText;") (by decide +kernel)
  have k_history := hts (.fieldLink RX8 22 "FreezeCredits" "history" "LFreezeCredits$History;") (by decide +kernel)
  have k_now := hts (.fieldLink RX8 12 "FreezeCredits" "now" "LFreezeCredits$Calendar;") (by decide +kernel)
  have inX8 : ∀ w ∈ u_ws RX8 TX8 4, w ∈ wsX8_runCommands := by decide +kernel
  refine lv_aload_n hx hb dX8_runCommands_0 rfl (lv_at hl 0 rfl) ?_
  refine va_get (D := D) (ci := 6) (v := .ref (x 0)) (C := RX8) (T := TX8) (N := 4) hx hb hts inX8 hown hK hP 0 rfl rfl 3 (by decide) k_text (fun _ h9 => h9) rfl dX8_runCommands_1 ?_
  refine fz_sretM (P := FW f a t h x) (S := (HW cy h g (nI cn) ++ (CW cy a V ++ (CW cy w N ++ Z)))) (Wc := XW cy ad x X vb) (Wc' := XW cy ad x (cx_X1 X ln vb) (cx_F X ln vb).2.2.1) (va_runV (As := []) (rest := []) ⟨hx, hb, hml, hown, hts⟩ (c_X3_findFault l D cy x ad X vb adK adV ln hln hln150) (cwV 0 hts gX8_runCommands_X3_findFault rfl rfl rfl (by decide +kernel) ⟨Nat.le_of_ble_eq_true rfl, Nat.le_of_ble_eq_true rfl⟩) (fz_preMV (ci := 2) (q0 := 0) hK (fz_seg (P := FW f a t h x) (S := (HW cy h g (nI cn) ++ (CW cy a V ++ (CW cy w N ++ Z)))) hP) (fz_segD (P := FW f a t h x) (S := (HW cy h g (nI cn) ++ (CW cy a V ++ (CW cy w N ++ Z)))) hD) rfl rfl rfl fz_Vb_bl (fun U hU hW => hE.2.to (by rw [hU]; exact hS) hW.alike (fun q h9 => fz_inD (fz_segD (P := FW f a t h x) (S := (HW cy h g (nI cn) ++ (CW cy a V ++ (CW cy w N ++ Z)))) hD) h9))) rfl rfl hl.1 rfl (lv_room (Nat.le_of_ble_eq_true rfl)) dX8_runCommands_4 ⟨Nat.le_of_ble_eq_true rfl, Nat.le_of_ble_eq_true rfl⟩) hP hD hS rfl (fun H locs hP hD hS => ?_)
  refine fz_top (show _ = (cx_F X ln vb).1 from rfl) ?_
  refine lv_istore_n (lv' := [(1, .int (cx_F X ln vb).1), (0, .ref (f 0))]) hx hb dX8_runCommands_7 rfl hl (by decide) rfl (fun ls hl => ?_)
  refine lv_iload_n hx hb dX8_runCommands_8 rfl (lv_at hl 0 rfl) ?_
  refine lv_iconst (v := (-1)) hx hb dX8_runCommands_9 (by decide) ?_
  refine lv_icmp_eq (tgt := 18) hx hb dX8_runCommands_10 (by decide) (fun _ => ?_) (fun c_1 => absurd hf c_1)
  refine lv_aload_n hx hb dX8_runCommands_18 rfl (lv_at hl 1 rfl) ?_
  refine va_get (D := D) (ci := 6) (v := .ref (h 0)) (C := RX8) (T := TX8) (N := 4) hx hb hts inX8 hown hK hP 0 rfl rfl 2 (by decide) k_history (fun _ h9 => h9) rfl dX8_runCommands_19 ?_
  refine lv_aload_n hx hb dX8_runCommands_22 rfl (lv_at hl 1 rfl) ?_
  refine va_get (D := D) (ci := 6) (v := .ref (a 0)) (C := RX8) (T := TX8) (N := 4) hx hb hts inX8 hown hK hP 0 rfl rfl 0 (by decide) k_now (fun _ h9 => h9) rfl dX8_runCommands_23 ?_
  refine fz_sretMV (P := FW f a t h x ++ XW cy ad x (cx_X1 X ln vb) (cx_F X ln vb).2.2.1) (S := Z) (Wc := HW cy h g (nI cn) ++ (CW cy a V ++ CW cy w N)) (Wc' := HW cy h g (nI cn) ++ (CW cy a V ++ CW cy w V)) (va_runV (As := [.ref (a 0)]) (rest := []) ⟨hx, hb, hml, hown, hts⟩ (c_X4_prepare l D cy h g cn a V w N hn hw hz) (cwV 1 hts gX8_runCommands_X4_prepare rfl rfl rfl (by decide +kernel) ⟨Nat.le_of_ble_eq_true rfl, Nat.le_of_ble_eq_true rfl⟩) (fz_preMV (ci := 3) (q0 := 0) hK (fz_seg (P := FW f a t h x ++ XW cy ad x (cx_X1 X ln vb) (cx_F X ln vb).2.2.1) (S := Z) hP) (fz_segD (P := FW f a t h x ++ XW cy ad x (cx_X1 X ln vb) (cx_F X ln vb).2.2.1) (S := Z) hD) rfl rfl rfl fz_T_bl (fun _ _ _ => trivial)) rfl rfl hl.1 rfl (lv_room (Nat.le_of_ble_eq_true rfl)) dX8_runCommands_26 ⟨Nat.le_of_ble_eq_true rfl, Nat.le_of_ble_eq_true rfl⟩) hP hD hS rfl (fun H locs hP hD hS => ?_)
  have hP : va_P D vwCl (FW f a t h x ++ (XW cy ad x (cx_X1 X ln vb) (cx_F X ln vb).2.2.1 ++ (HW cy h g (nI cn) ++ (CW cy a V ++ (CW cy w V ++ Z))))) H := hP
  have hD : va_D A (FW f a t h x ++ (XW cy ad x (cx_X1 X ln vb) (cx_F X ln vb).2.2.1 ++ (HW cy h g (nI cn) ++ (CW cy a V ++ (CW cy w V ++ Z))))) := hD
  refine lv_aload_n hx hb dX8_runCommands_29 rfl (lv_at hl 1 rfl) ?_
  refine fz_sretM (P := []) (S := CW cy w V ++ Z) (Wc := FW f a t h x ++ (XW cy ad x (cx_X1 X ln vb) (cx_F X ln vb).2.2.1 ++ (HW cy h g (nI cn) ++ CW cy a V))) (Wc' := FW f a t h x ++ (XW cy ad x (cx_X2 X ln vb V) (cx_C X ln vb V).2.2.2.1 ++ (HW cy h g (nI cn) ++ CW cy a (cx_C X ln vb V).2.1))) (va_runV (As := []) (rest := []) ⟨hx, hb, hml, hown, hts⟩ (c_X8_carryOutText l D cy f t x ad (cx_X1 X ln vb) (cx_F X ln vb).2.2.1 h g (nI cn) a V adK adV hV ln hln hln150) (cwV 0 hts gX8_runCommands_X8_carryOutText rfl rfl rfl (by decide +kernel) ⟨Nat.le_of_ble_eq_true rfl, Nat.le_of_ble_eq_true rfl⟩) (fz_preMV (ci := 6) (q0 := 0) hK (fz_seg (P := []) (S := CW cy w V ++ Z) hP) (fz_segD (P := []) (S := CW cy w V ++ Z) hD) rfl rfl rfl fz_Er_bl (fun U hU hW => hE.up hU hS hW (fun q h9 => fz_inD (fz_segD (P := []) (S := CW cy w V ++ Z) hD) h9))) rfl rfl hl.1 rfl (lv_room (Nat.le_of_ble_eq_true rfl)) dX8_runCommands_30 ⟨Nat.le_of_ble_eq_true rfl, Nat.le_of_ble_eq_true rfl⟩) hP hD hS rfl (fun H locs hP hD hS => ?_)
  have hP : va_P D vwCl (FW f a t h x ++ (XW cy ad x (cx_X2 X ln vb V) (cx_C X ln vb V).2.2.2.1 ++ (HW cy h g (nI cn) ++ (CW cy a (cx_C X ln vb V).2.1 ++ (CW cy w V ++ Z))))) H := hP
  have hD : va_D A (FW f a t h x ++ (XW cy ad x (cx_X2 X ln vb V) (cx_C X ln vb V).2.2.2.1 ++ (HW cy h g (nI cn) ++ (CW cy a (cx_C X ln vb V).2.1 ++ (CW cy w V ++ Z))))) := hD
  refine fz_top (show _ = nI (cx_C X ln vb V).1 from rfl) ?_
  refine lv_istore_n (lv' := [(2, .int (nI (cx_C X ln vb V).1)), (1, .int (cx_F X ln vb).1), (0, .ref (f 0))]) hx hb dX8_runCommands_33 rfl hl (by decide) rfl (fun ls hl => ?_)
  refine lv_aload_n hx hb dX8_runCommands_34 rfl (lv_at hl 2 rfl) ?_
  refine va_get (D := D) (ci := 6) (v := .ref (h 0)) (C := RX8) (T := TX8) (N := 4) hx hb hts inX8 hown hK hP 0 rfl rfl 2 (by decide) k_history (fun _ h9 => h9) rfl dX8_runCommands_35 ?_
  refine fz_sretMV (P := FW f a t h x ++ XW cy ad x (cx_X2 X ln vb V) (cx_C X ln vb V).2.2.2.1) (S := []) (Wc := HW cy h g (nI cn) ++ (CW cy a (cx_C X ln vb V).2.1 ++ (CW cy w V ++ Z))) (Wc' := HW cy h (hs_g g cn) (nI (hs_n cn)) ++ (CW cy a (cx_C X ln vb V).2.1 ++ (CW cy w V ++ Z))) (va_runV (As := []) (rest := []) ⟨hx, hb, hml, hown, hts⟩ (c_X4_keep l D cy h g cn (CW cy a (cx_C X ln vb V).2.1 ++ (CW cy w V ++ Z)) hn (fun k hk => by obtain ⟨x, h1, h2⟩ := hh k hk; exact ⟨x, h1, fz_hd_r (fz_hd_c h2)⟩)) (cwV 0 hts gX8_runCommands_X4_keep rfl rfl rfl (by decide +kernel) ⟨Nat.le_of_ble_eq_true rfl, Nat.le_of_ble_eq_true rfl⟩) (fz_preMV (ci := 3) (q0 := 0) hK (fz_seg (fz_nilP (P := FW f a t h x ++ XW cy ad x (cx_X2 X ln vb V) (cx_C X ln vb V).2.2.2.1) hP)) (fz_segD (fz_nilD (P := FW f a t h x ++ XW cy ad x (cx_X2 X ln vb V) (cx_C X ln vb V).2.2.2.1) hD)) rfl rfl rfl fz_T_bl (fun _ _ _ => trivial)) rfl rfl hl.1 rfl (lv_room (Nat.le_of_ble_eq_true rfl)) dX8_runCommands_38 ⟨Nat.le_of_ble_eq_true rfl, Nat.le_of_ble_eq_true rfl⟩) (fz_nilP (P := FW f a t h x ++ XW cy ad x (cx_X2 X ln vb V) (cx_C X ln vb V).2.2.2.1) hP) (fz_nilD (P := FW f a t h x ++ XW cy ad x (cx_X2 X ln vb V) (cx_C X ln vb V).2.2.2.1) hD) hS rfl (fun H locs hP hD hS => ?_)
  have hP := fz_nilP' (P := FW f a t h x ++ XW cy ad x (cx_X2 X ln vb V) (cx_C X ln vb V).2.2.2.1) hP
  have hP : va_P D vwCl (FW f a t h x ++ (XW cy ad x (cx_X2 X ln vb V) (cx_C X ln vb V).2.2.2.1 ++ (HW cy h (hs_g g cn) (nI (hs_n cn)) ++ (CW cy a (cx_C X ln vb V).2.1 ++ (CW cy w V ++ Z))))) H := hP
  refine lv_iload_n hx hb dX8_runCommands_41 rfl (lv_at hl 0 rfl) ?_
  subst hAe
  exact W.iret (v := nI (cx_C X ln vb V).1) hx hb hr (fun t9 ht9 hW9 => ⟨⟨_, (), rfl, rfl, fz_to ht9 hP⟩, hS.F ht9⟩) hS.2.2 dX8_runCommands_42
