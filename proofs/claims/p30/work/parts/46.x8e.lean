/-! calls that can be undone -/
def fz_ok (y : Int32) : Bool := !(decide (y = -1)) && !(decide (y = -2)) && !(decide (y = -3))
def fz_en (y : Int32) : String := if y = -1 then xIO else if y = -2 then xIA else xIS
section FZX2
variable {p : Program} {l : Launch} {e : Env} {R : Room} {s : State} {m : MethodId} {args : Array Value} {below : List Frame} {meth : Method} {c : Code} {H : Heap} {locs : List Loc} {cells slots : Nat} {Q : State → Prop}
variable {cc : ByteArray} {pc : Nat} {ls : Array Slot} {rest st0 : List Value} {D : va_G} {A : Nat → Prop} {a : Nat} {ws : va_W} {H0 : Heap} {k n : Nat}
theorem fz_nilP {P Wc : va_W} (h : va_P D vwCl (P ++ Wc) H) : va_P D vwCl (P ++ (Wc ++ [])) H := by
  rw [List.append_nil]
  exact h
theorem fz_nilP' {P Wc : va_W} (h : va_P D vwCl (P ++ (Wc ++ [])) H) : va_P D vwCl (P ++ Wc) H := by
  rw [List.append_nil] at h
  exact h
theorem fz_nilD {P Wc : va_W} (h : va_D A (P ++ Wc)) : va_D A (P ++ (Wc ++ [])) := by
  rw [List.append_nil]
  exact h
theorem fz_nilD' {P Wc : va_W} (h : va_D A (P ++ (Wc ++ []))) : va_D A (P ++ Wc) := by
  rw [List.append_nil] at h
  exact h
end FZX2
set_option maxHeartbeats 4000000 in
set_option maxRecDepth 100000 in
/-- FreezeCredits.settle -/
theorem c_X8_settle (l : Launch) (hst : l.stackTraces = false) (D : va_G) (cy : Nat → ClassId) (f a t h x : Nat → Nat) (g : Nat → Option Nat) (cn : Nat) (Z : va_W) (y : Int32) (hn : cn < 5) (hh : ∀ k, k < 5 → ∃ x, g k = some x ∧ fz_hd Z x) : fz_XI l yX8_settle wsX8_settle 6 82 1 6 D cy [.ref (f 0), .int y] (FW f a t h x ++ (HW cy h g (nI cn) ++ Z)) (fz_Ev (fz_in (FW f a t h x ++ (HW cy h g (nI cn) ++ Z)))) y (FW f a t h x ++ (HW cy h (hs_g g cn) (nI (hs_n cn)) ++ Z)) (fz_ok y) (fz_en y) (FW f a t h x ++ (HW cy h g (nI cn) ++ Z)) := by
  refine vx_ofW (cc := cX8_settle) (maxL := 2) (ret := (some .int)) (by decide) rfl ?_
  intro p e s m args below meth c s₁ B hml ht hv
  obtain ⟨rfl, hP, hK, hD0, hE⟩ := hv
  have hx := B.exec
  have hb := B.bytes
  have hr := B.returns
  have hts := atoms_spec (ws := wsX8_settle) B.pre
  have hown : s.vm.findClass RX8 = some m.cls := findClass_of_methodNamed B.named
  have hlocks := B.notSynchronized
  have hD := fz_self hD0
  obtain ⟨A, hAe⟩ : ∃ A : Nat → Prop, A = fz_in (FW f a t h x ++ (HW cy h g (nI cn) ++ Z)) := ⟨_, rfl⟩
  rw [← hAe] at hD
  have hE : fz_Ev A s := by rw [hAe]; exact hE
  have hS : va_S A s.heap s.heap [] := va_S.rf
  have hl := lv_entry ([.ref (f 0), .int y]) (n := 2) (Nat.le_of_ble_eq_true rfl)
  rw [lg_entry_eq]
  generalize (lg_sl ([.ref (f 0), .int y]) ++ List.replicate (2 - (lg_sl ([.ref (f 0), .int y])).length) Slot.unset).toArray = ls at hl ⊢
  have hl : lv_has ls 2 [(0, .ref (f 0)), (1, .int y)] := hl
  have k_history := hts (.fieldLink RX8 22 "FreezeCredits" "history" "LFreezeCredits$History;") (by decide +kernel)
  have inX8 : ∀ w ∈ u_ws RX8 TX8 4, w ∈ wsX8_settle := by decide +kernel
  refine lv_iload_n hx hb dX8_settle_0 rfl (lv_at hl 1 rfl) ?_
  refine lv_iconst (v := (-1)) hx hb dX8_settle_1 (by decide) ?_
  refine lv_icmp_ne (tgt := 15) hx hb dX8_settle_2 (by decide) (fun c_1 => ?_) (fun c_1 => ?_)
  rotate_left
  · skip
    rw [show fz_en y = xIO from by simp [fz_en, c_1]]
    subst hAe
    exact fz_throw (text := "there is no such team, change or loan") (cls := xIO) (ik := 109) (is := 234) (ic := 113) hx hb hst (hl.1.trans hml.symm) ht hlocks hown hts hE.1 (by decide +kernel) (by decide +kernel) (by decide +kernel) (by decide +kernel) (by decide +kernel) (by decide +kernel) (by decide +kernel) (by simp [fz_ok, c_1]) hP hS dX8_settle_5 dX8_settle_8 dX8_settle_9 dX8_settle_11 dX8_settle_14 (Nat.le_of_ble_eq_true rfl) (Nat.le_of_ble_eq_true rfl) (Nat.le_of_ble_eq_true rfl) (Nat.le_of_ble_eq_true rfl) (Nat.le_of_ble_eq_true rfl) (Nat.le_of_ble_eq_true rfl)
  refine lv_iload_n hx hb dX8_settle_15 rfl (lv_at hl 1 rfl) ?_
  refine lv_bipush (v := (-2)) hx hb dX8_settle_16 (by decide) ?_
  refine lv_icmp_ne (tgt := 31) hx hb dX8_settle_18 (by decide) (fun c_2 => ?_) (fun c_2 => ?_)
  rotate_left
  · skip
    rw [show fz_en y = xIA from by simp [fz_en, c_1, c_2]]
    subst hAe
    exact fz_throw (text := "a value is out of range") (cls := xIA) (ik := 117) (is := 236) (ic := 121) hx hb hst (hl.1.trans hml.symm) ht hlocks hown hts hE.1 (by decide +kernel) (by decide +kernel) (by decide +kernel) (by decide +kernel) (by decide +kernel) (by decide +kernel) (by decide +kernel) (by simp [fz_ok, c_1, c_2]) hP hS dX8_settle_21 dX8_settle_24 dX8_settle_25 dX8_settle_27 dX8_settle_30 (Nat.le_of_ble_eq_true rfl) (Nat.le_of_ble_eq_true rfl) (Nat.le_of_ble_eq_true rfl) (Nat.le_of_ble_eq_true rfl) (Nat.le_of_ble_eq_true rfl) (Nat.le_of_ble_eq_true rfl)
  refine lv_iload_n hx hb dX8_settle_31 rfl (lv_at hl 1 rfl) ?_
  refine lv_bipush (v := (-3)) hx hb dX8_settle_32 (by decide) ?_
  refine lv_icmp_ne (tgt := 47) hx hb dX8_settle_34 (by decide) (fun c_3 => ?_) (fun c_3 => ?_)
  rotate_left
  · skip
    rw [show fz_en y = xIS from by simp [fz_en, c_1, c_2, c_3]]
    subst hAe
    exact fz_throw (text := "the state does not allow this") (cls := xIS) (ik := 192) (is := 238) (ic := 196) hx hb hst (hl.1.trans hml.symm) ht hlocks hown hts hE.1 (by decide +kernel) (by decide +kernel) (by decide +kernel) (by decide +kernel) (by decide +kernel) (by decide +kernel) (by decide +kernel) (by simp [fz_ok, c_1, c_2, c_3]) hP hS dX8_settle_37 dX8_settle_40 dX8_settle_41 dX8_settle_43 dX8_settle_46 (Nat.le_of_ble_eq_true rfl) (Nat.le_of_ble_eq_true rfl) (Nat.le_of_ble_eq_true rfl) (Nat.le_of_ble_eq_true rfl) (Nat.le_of_ble_eq_true rfl) (Nat.le_of_ble_eq_true rfl)
  refine lv_aload_n hx hb dX8_settle_47 rfl (lv_at hl 0 rfl) ?_
  refine va_get (D := D) (ci := 6) (v := .ref (h 0)) (C := RX8) (T := TX8) (N := 4) hx hb hts inX8 hown hK hP 0 rfl rfl 2 (by decide) k_history (fun _ h9 => h9) rfl dX8_settle_48 ?_
  refine fz_sretMV (P := FW f a t h x) (S := []) (Wc := HW cy h g (nI cn) ++ Z) (Wc' := HW cy h (hs_g g cn) (nI (hs_n cn)) ++ Z) (va_runV (As := []) (rest := []) ⟨hx, hb, hml, hown, hts⟩ (c_X4_keep l D cy h g cn Z hn hh) (cwV 0 hts gX8_settle_X4_keep rfl rfl rfl (by decide +kernel) ⟨Nat.le_of_ble_eq_true rfl, Nat.le_of_ble_eq_true rfl⟩) (fz_preMV (ci := 3) (q0 := 0) hK (fz_seg (fz_nilP (P := FW f a t h x) hP)) (fz_segD (fz_nilD (P := FW f a t h x) hD)) rfl rfl rfl fz_T_bl (fun _ _ _ => trivial)) rfl rfl hl.1 rfl (lv_room (Nat.le_of_ble_eq_true rfl)) dX8_settle_51 ⟨Nat.le_of_ble_eq_true rfl, Nat.le_of_ble_eq_true rfl⟩) (fz_nilP hP) (fz_nilD hD) hS rfl (fun H locs hP hD hS => ?_)
  have hP := fz_nilP' hP
  refine lv_iload_n hx hb dX8_settle_54 rfl (lv_at hl 1 rfl) ?_
  refine fz_wd (k := 1) (n := 6) (Nat.le_of_ble_eq_true rfl) (Nat.le_of_ble_eq_true rfl) ?_
  refine vx_ret ?_
  subst hAe
  exact W.iret (v := y) hx hb hr (fun t9 ht9 hW9 => ⟨⟨_, (), rfl, ⟨rfl, by simp [fz_ok, c_1, c_2, c_3]⟩, fz_to ht9 hP⟩, hS.F ht9⟩) hS.2.2 dX8_settle_55
set_option maxHeartbeats 4000000 in
set_option maxRecDepth 100000 in
/-- FreezeCredits.addTeam -/
theorem c_X8_addTeam (l : Launch) (hst : l.stackTraces = false) (D : va_G) (cy : Nat → ClassId) (f a t h x : Nat → Nat) (g : Nat → Option Nat) (cn : Nat) (V : Nat → Nat → Int32) (w : Nat → Nat) (N : Nat → Nat → Int32) (Z : va_W) (nt nc nq nl wk : Nat) (wf : fz_wf V nt nc nq nl wk) (hn : cn < 5) (hw : g cn = some (w 0)) (hz : fz_zo (V 2) 40) (hh : ∀ k, k < 5 → ∃ x, g k = some x ∧ fz_hd (CW cy w N ++ Z) x) (y : Int32) : fz_XI l yX8_addTeam wsX8_addTeam 7 103 1 6 D cy [.ref (f 0), .int y] (FW f a t h x ++ (HW cy h g (nI cn) ++ (CW cy a V ++ (CW cy w N ++ Z)))) (fz_Ev (fz_in (FW f a t h x ++ (HW cy h g (nI cn) ++ (CW cy a V ++ (CW cy w N ++ Z)))))) (fz_bring V nt y).1 (FW f a t h x ++ (HW cy h (hs_g g cn) (nI (hs_n cn)) ++ (CW cy a (fz_bring V nt y).2 ++ (CW cy w V ++ Z)))) (fz_ok (fz_bring V nt y).1) (fz_en (fz_bring V nt y).1) (FW f a t h x ++ (HW cy h g (nI cn) ++ (CW cy a (fz_bring V nt y).2 ++ (CW cy w V ++ Z)))) := by
  refine vx_ofW (cc := cX8_addTeam) (maxL := 2) (ret := (some .int)) (by decide) rfl ?_
  intro p e s m args below meth c s₁ B hml ht hv
  obtain ⟨rfl, hP, hK, hD0, hE⟩ := hv
  have hx := B.exec
  have hb := B.bytes
  have hr := B.returns
  have hts := atoms_spec (ws := wsX8_addTeam) B.pre
  have hown : s.vm.findClass RX8 = some m.cls := findClass_of_methodNamed B.named
  have hlocks := B.notSynchronized
  have hD := fz_self hD0
  obtain ⟨A, hAe⟩ : ∃ A : Nat → Prop, A = fz_in (FW f a t h x ++ (HW cy h g (nI cn) ++ (CW cy a V ++ (CW cy w N ++ Z)))) := ⟨_, rfl⟩
  rw [← hAe] at hD
  have hE : fz_Ev A s := by rw [hAe]; exact hE
  have hS : va_S A s.heap s.heap [] := va_S.rf
  have hl := lv_entry ([.ref (f 0), .int y]) (n := 2) (Nat.le_of_ble_eq_true rfl)
  rw [lg_entry_eq]
  generalize (lg_sl ([.ref (f 0), .int y]) ++ List.replicate (2 - (lg_sl ([.ref (f 0), .int y])).length) Slot.unset).toArray = ls at hl ⊢
  have hl : lv_has ls 2 [(0, .ref (f 0)), (1, .int y)] := hl
  have k_history := hts (.fieldLink RX8 22 "FreezeCredits" "history" "LFreezeCredits$History;") (by decide +kernel)
  have k_now := hts (.fieldLink RX8 12 "FreezeCredits" "now" "LFreezeCredits$Calendar;") (by decide +kernel)
  have inX8 : ∀ w ∈ u_ws RX8 TX8 4, w ∈ wsX8_addTeam := by decide +kernel
  refine lv_aload_n hx hb dX8_addTeam_0 rfl (lv_at hl 0 rfl) ?_
  refine va_get (D := D) (ci := 6) (v := .ref (h 0)) (C := RX8) (T := TX8) (N := 4) hx hb hts inX8 hown hK hP 0 rfl rfl 2 (by decide) k_history (fun _ h9 => h9) rfl dX8_addTeam_1 ?_
  refine lv_aload_n hx hb dX8_addTeam_4 rfl (lv_at hl 0 rfl) ?_
  refine va_get (D := D) (ci := 6) (v := .ref (a 0)) (C := RX8) (T := TX8) (N := 4) hx hb hts inX8 hown hK hP 0 rfl rfl 0 (by decide) k_now (fun _ h9 => h9) rfl dX8_addTeam_5 ?_
  refine fz_sretMV (P := FW f a t h x) (S := Z) (Wc := HW cy h g (nI cn) ++ (CW cy a V ++ CW cy w N)) (Wc' := HW cy h g (nI cn) ++ (CW cy a V ++ CW cy w V)) (va_runV (As := [.ref (a 0)]) (rest := []) ⟨hx, hb, hml, hown, hts⟩ (c_X4_prepare l D cy h g cn a V w N hn hw hz) (cwV 1 hts gX8_addTeam_X4_prepare rfl rfl rfl (by decide +kernel) ⟨Nat.le_of_ble_eq_true rfl, Nat.le_of_ble_eq_true rfl⟩) (fz_preMV (ci := 3) (q0 := 0) hK (fz_seg (P := FW f a t h x) (S := Z) hP) (fz_segD (P := FW f a t h x) (S := Z) hD) rfl rfl rfl fz_T_bl (fun _ _ _ => trivial)) rfl rfl hl.1 rfl (lv_room (Nat.le_of_ble_eq_true rfl)) dX8_addTeam_8 ⟨Nat.le_of_ble_eq_true rfl, Nat.le_of_ble_eq_true rfl⟩) hP hD hS rfl (fun H locs hP hD hS => ?_)
  have hP : va_P D vwCl (FW f a t h x ++ (HW cy h g (nI cn) ++ (CW cy a V ++ (CW cy w V ++ Z)))) H := hP
  have hD : va_D A (FW f a t h x ++ (HW cy h g (nI cn) ++ (CW cy a V ++ (CW cy w V ++ Z)))) := hD
  refine lv_aload_n hx hb dX8_addTeam_11 rfl (lv_at hl 0 rfl) ?_
  refine lv_aload_n hx hb dX8_addTeam_12 rfl (lv_at hl 0 rfl) ?_
  refine va_get (D := D) (ci := 6) (v := .ref (a 0)) (C := RX8) (T := TX8) (N := 4) hx hb hts inX8 hown hK hP 0 rfl rfl 0 (by decide) k_now (fun _ h9 => h9) rfl dX8_addTeam_13 ?_
  refine lv_iload_n hx hb dX8_addTeam_16 rfl (lv_at hl 1 rfl) ?_
  refine fz_sretM (P := FW f a t h x ++ HW cy h g (nI cn)) (S := CW cy w V ++ Z) (Wc := CW cy a V) (Wc' := CW cy a (fz_bring V nt y).2) (va_runV (As := [.int y]) (rest := [.ref (f 0)]) ⟨hx, hb, hml, hown, hts⟩ (c_X1_bringTeam l D cy a V nt nc nq nl wk wf y) (cwV 1 hts gX8_addTeam_X1_bringTeam rfl rfl rfl (by decide +kernel) ⟨Nat.le_of_ble_eq_true rfl, Nat.le_of_ble_eq_true rfl⟩) (fz_preMV (ci := 0) (q0 := 0) hK (fz_seg (P := FW f a t h x ++ HW cy h g (nI cn)) (S := CW cy w V ++ Z) hP) (fz_segD (P := FW f a t h x ++ HW cy h g (nI cn)) (S := CW cy w V ++ Z) hD) rfl rfl rfl fz_T_bl (fun _ _ _ => trivial)) rfl rfl hl.1 rfl (lv_room (Nat.le_of_ble_eq_true rfl)) dX8_addTeam_17 ⟨Nat.le_of_ble_eq_true rfl, Nat.le_of_ble_eq_true rfl⟩) hP hD hS rfl (fun H locs hP hD hS => ?_)
  have hP : va_P D vwCl (FW f a t h x ++ (HW cy h g (nI cn) ++ (CW cy a (fz_bring V nt y).2 ++ (CW cy w V ++ Z)))) H := hP
  have hD : va_D A (FW f a t h x ++ (HW cy h g (nI cn) ++ (CW cy a (fz_bring V nt y).2 ++ (CW cy w V ++ Z)))) := hD
  refine fz_xretI (P := []) (S := []) (Wc := FW f a t h x ++ (HW cy h g (nI cn) ++ (CW cy a (fz_bring V nt y).2 ++ (CW cy w V ++ Z)))) (Wc' := FW f a t h x ++ (HW cy h (hs_g g cn) (nI (hs_n cn)) ++ (CW cy a (fz_bring V nt y).2 ++ (CW cy w V ++ Z)))) (WX := FW f a t h x ++ (HW cy h g (nI cn) ++ (CW cy a (fz_bring V nt y).2 ++ (CW cy w V ++ Z)))) (vx_runV (As := [.int (fz_bring V nt y).1]) (rest := []) ⟨hx, hb, hml, hown, hts⟩ (c_X8_settle l hst D cy f a t h x g cn (CW cy a (fz_bring V nt y).2 ++ (CW cy w V ++ Z)) (fz_bring V nt y).1 hn (fun k hk => by obtain ⟨x, h1, h2⟩ := hh k hk; exact ⟨x, h1, fz_hd_r (fz_hd_c h2)⟩)) (cwV 1 hts gX8_addTeam_X8_settle rfl rfl rfl (by decide +kernel) ⟨Nat.le_of_ble_eq_true rfl, Nat.le_of_ble_eq_true rfl⟩) (fz_preMV (ci := 6) (q0 := 0) hK hP hD rfl rfl rfl fz_Ev_bl (fun U hU hW => hE.up hU hS hW (fun q h9 => fz_inD hD h9))) rfl rfl hl.1 rfl (lv_room (Nat.le_of_ble_eq_true rfl)) dX8_addTeam_20 ⟨Nat.le_of_ble_eq_true rfl, Nat.le_of_ble_eq_true rfl⟩) (fz_nilP (P := []) hP) (fz_nilD (P := []) hD) hS rfl rfl (fun c_9 H locs q9 ce hP hD hS h7 h8 h9 => ?_) (fun c_9 H locs hP hD hS => ?_)
  · skip
    have hP := fz_nilP' (P := []) hP
    subst hAe
    exact fz_xout ht hlocks c_9 rfl hP hS h7 h8 h9 (Nat.le_of_ble_eq_true rfl) (Nat.le_of_ble_eq_true rfl)
  · skip
    have hP := fz_nilP' (P := []) hP
    refine fz_wd (k := 1) (n := 6) (Nat.le_of_ble_eq_true rfl) (Nat.le_of_ble_eq_true rfl) ?_
    refine vx_ret ?_
    subst hAe
    exact W.iret (v := (fz_bring V nt y).1) hx hb hr (fun t9 ht9 hW9 => ⟨⟨_, (), rfl, ⟨rfl, c_9⟩, fz_to ht9 hP⟩, hS.F ht9⟩) hS.2.2 dX8_addTeam_23
set_option maxHeartbeats 4000000 in
set_option maxRecDepth 100000 in
/-- FreezeCredits.freeze -/
theorem c_X8_freeze (l : Launch) (hst : l.stackTraces = false) (D : va_G) (cy : Nat → ClassId) (f a t h x : Nat → Nat) (g : Nat → Option Nat) (cn : Nat) (V : Nat → Nat → Int32) (w : Nat → Nat) (N : Nat → Nat → Int32) (Z : va_W) (nt nc nq nl wk : Nat) (wf : fz_wf V nt nc nq nl wk) (hn : cn < 5) (hw : g cn = some (w 0)) (hz : fz_zo (V 2) 40) (hh : ∀ k, k < 5 → ∃ x, g k = some x ∧ fz_hd (CW cy w N ++ Z) x) (y z : Int32) (fr : Bool) : fz_XI l yX8_freeze wsX8_freeze 7 103 1 6 D cy [.ref (f 0), .int y, .int z, .int (fz_b fr)] (FW f a t h x ++ (HW cy h g (nI cn) ++ (CW cy a V ++ (CW cy w N ++ Z)))) (fz_Ev (fz_in (FW f a t h x ++ (HW cy h g (nI cn) ++ (CW cy a V ++ (CW cy w N ++ Z)))))) (fz_markw V wk y z fr).1 (FW f a t h x ++ (HW cy h (hs_g g cn) (nI (hs_n cn)) ++ (CW cy a (fz_markw V wk y z fr).2 ++ (CW cy w V ++ Z)))) (fz_ok (fz_markw V wk y z fr).1) (fz_en (fz_markw V wk y z fr).1) (FW f a t h x ++ (HW cy h g (nI cn) ++ (CW cy a (fz_markw V wk y z fr).2 ++ (CW cy w V ++ Z)))) := by
  refine vx_ofW (cc := cX8_freeze) (maxL := 4) (ret := (some .int)) (by decide) rfl ?_
  intro p e s m args below meth c s₁ B hml ht hv
  obtain ⟨rfl, hP, hK, hD0, hE⟩ := hv
  have hx := B.exec
  have hb := B.bytes
  have hr := B.returns
  have hts := atoms_spec (ws := wsX8_freeze) B.pre
  have hown : s.vm.findClass RX8 = some m.cls := findClass_of_methodNamed B.named
  have hlocks := B.notSynchronized
  have hD := fz_self hD0
  obtain ⟨A, hAe⟩ : ∃ A : Nat → Prop, A = fz_in (FW f a t h x ++ (HW cy h g (nI cn) ++ (CW cy a V ++ (CW cy w N ++ Z)))) := ⟨_, rfl⟩
  rw [← hAe] at hD
  have hE : fz_Ev A s := by rw [hAe]; exact hE
  have hS : va_S A s.heap s.heap [] := va_S.rf
  have hl := lv_entry ([.ref (f 0), .int y, .int z, .int (fz_b fr)]) (n := 4) (Nat.le_of_ble_eq_true rfl)
  rw [lg_entry_eq]
  generalize (lg_sl ([.ref (f 0), .int y, .int z, .int (fz_b fr)]) ++ List.replicate (4 - (lg_sl ([.ref (f 0), .int y, .int z, .int (fz_b fr)])).length) Slot.unset).toArray = ls at hl ⊢
  have hl : lv_has ls 4 [(0, .ref (f 0)), (1, .int y), (2, .int z), (3, .int (fz_b fr))] := hl
  have k_history := hts (.fieldLink RX8 22 "FreezeCredits" "history" "LFreezeCredits$History;") (by decide +kernel)
  have k_now := hts (.fieldLink RX8 12 "FreezeCredits" "now" "LFreezeCredits$Calendar;") (by decide +kernel)
  have inX8 : ∀ w ∈ u_ws RX8 TX8 4, w ∈ wsX8_freeze := by decide +kernel
  refine lv_aload_n hx hb dX8_freeze_0 rfl (lv_at hl 0 rfl) ?_
  refine va_get (D := D) (ci := 6) (v := .ref (h 0)) (C := RX8) (T := TX8) (N := 4) hx hb hts inX8 hown hK hP 0 rfl rfl 2 (by decide) k_history (fun _ h9 => h9) rfl dX8_freeze_1 ?_
  refine lv_aload_n hx hb dX8_freeze_4 rfl (lv_at hl 0 rfl) ?_
  refine va_get (D := D) (ci := 6) (v := .ref (a 0)) (C := RX8) (T := TX8) (N := 4) hx hb hts inX8 hown hK hP 0 rfl rfl 0 (by decide) k_now (fun _ h9 => h9) rfl dX8_freeze_5 ?_
  refine fz_sretMV (P := FW f a t h x) (S := Z) (Wc := HW cy h g (nI cn) ++ (CW cy a V ++ CW cy w N)) (Wc' := HW cy h g (nI cn) ++ (CW cy a V ++ CW cy w V)) (va_runV (As := [.ref (a 0)]) (rest := []) ⟨hx, hb, hml, hown, hts⟩ (c_X4_prepare l D cy h g cn a V w N hn hw hz) (cwV 1 hts gX8_freeze_X4_prepare rfl rfl rfl (by decide +kernel) ⟨Nat.le_of_ble_eq_true rfl, Nat.le_of_ble_eq_true rfl⟩) (fz_preMV (ci := 3) (q0 := 0) hK (fz_seg (P := FW f a t h x) (S := Z) hP) (fz_segD (P := FW f a t h x) (S := Z) hD) rfl rfl rfl fz_T_bl (fun _ _ _ => trivial)) rfl rfl hl.1 rfl (lv_room (Nat.le_of_ble_eq_true rfl)) dX8_freeze_8 ⟨Nat.le_of_ble_eq_true rfl, Nat.le_of_ble_eq_true rfl⟩) hP hD hS rfl (fun H locs hP hD hS => ?_)
  have hP : va_P D vwCl (FW f a t h x ++ (HW cy h g (nI cn) ++ (CW cy a V ++ (CW cy w V ++ Z)))) H := hP
  have hD : va_D A (FW f a t h x ++ (HW cy h g (nI cn) ++ (CW cy a V ++ (CW cy w V ++ Z)))) := hD
  refine lv_aload_n hx hb dX8_freeze_11 rfl (lv_at hl 0 rfl) ?_
  refine lv_aload_n hx hb dX8_freeze_12 rfl (lv_at hl 0 rfl) ?_
  refine va_get (D := D) (ci := 6) (v := .ref (a 0)) (C := RX8) (T := TX8) (N := 4) hx hb hts inX8 hown hK hP 0 rfl rfl 0 (by decide) k_now (fun _ h9 => h9) rfl dX8_freeze_13 ?_
  refine lv_iload_n hx hb dX8_freeze_16 rfl (lv_at hl 1 rfl) ?_
  refine lv_iload_n hx hb dX8_freeze_17 rfl (lv_at hl 2 rfl) ?_
  refine lv_iload_n hx hb dX8_freeze_18 rfl (lv_at hl 3 rfl) ?_
  refine fz_sretM (P := FW f a t h x ++ HW cy h g (nI cn)) (S := CW cy w V ++ Z) (Wc := CW cy a V) (Wc' := CW cy a (fz_markw V wk y z fr).2) (va_runV (As := [.int y, .int z, .int (fz_b fr)]) (rest := [.ref (f 0)]) ⟨hx, hb, hml, hown, hts⟩ (c_X1_markWeeks l D cy a V nt nc nq nl wk wf y z fr) (cwV 3 hts gX8_freeze_X1_markWeeks rfl rfl rfl (by decide +kernel) ⟨Nat.le_of_ble_eq_true rfl, Nat.le_of_ble_eq_true rfl⟩) (fz_preMV (ci := 0) (q0 := 0) hK (fz_seg (P := FW f a t h x ++ HW cy h g (nI cn)) (S := CW cy w V ++ Z) hP) (fz_segD (P := FW f a t h x ++ HW cy h g (nI cn)) (S := CW cy w V ++ Z) hD) rfl rfl rfl fz_Nw_bl (fun U _ hW => fz_Nw_warm hW hE.2.1)) rfl rfl hl.1 rfl (lv_room (Nat.le_of_ble_eq_true rfl)) dX8_freeze_19 ⟨Nat.le_of_ble_eq_true rfl, Nat.le_of_ble_eq_true rfl⟩) hP hD hS rfl (fun H locs hP hD hS => ?_)
  have hP : va_P D vwCl (FW f a t h x ++ (HW cy h g (nI cn) ++ (CW cy a (fz_markw V wk y z fr).2 ++ (CW cy w V ++ Z)))) H := hP
  have hD : va_D A (FW f a t h x ++ (HW cy h g (nI cn) ++ (CW cy a (fz_markw V wk y z fr).2 ++ (CW cy w V ++ Z)))) := hD
  refine fz_xretI (P := []) (S := []) (Wc := FW f a t h x ++ (HW cy h g (nI cn) ++ (CW cy a (fz_markw V wk y z fr).2 ++ (CW cy w V ++ Z)))) (Wc' := FW f a t h x ++ (HW cy h (hs_g g cn) (nI (hs_n cn)) ++ (CW cy a (fz_markw V wk y z fr).2 ++ (CW cy w V ++ Z)))) (WX := FW f a t h x ++ (HW cy h g (nI cn) ++ (CW cy a (fz_markw V wk y z fr).2 ++ (CW cy w V ++ Z)))) (vx_runV (As := [.int (fz_markw V wk y z fr).1]) (rest := []) ⟨hx, hb, hml, hown, hts⟩ (c_X8_settle l hst D cy f a t h x g cn (CW cy a (fz_markw V wk y z fr).2 ++ (CW cy w V ++ Z)) (fz_markw V wk y z fr).1 hn (fun k hk => by obtain ⟨x, h1, h2⟩ := hh k hk; exact ⟨x, h1, fz_hd_r (fz_hd_c h2)⟩)) (cwV 1 hts gX8_freeze_X8_settle rfl rfl rfl (by decide +kernel) ⟨Nat.le_of_ble_eq_true rfl, Nat.le_of_ble_eq_true rfl⟩) (fz_preMV (ci := 6) (q0 := 0) hK hP hD rfl rfl rfl fz_Ev_bl (fun U hU hW => hE.up hU hS hW (fun q h9 => fz_inD hD h9))) rfl rfl hl.1 rfl (lv_room (Nat.le_of_ble_eq_true rfl)) dX8_freeze_22 ⟨Nat.le_of_ble_eq_true rfl, Nat.le_of_ble_eq_true rfl⟩) (fz_nilP (P := []) hP) (fz_nilD (P := []) hD) hS rfl rfl (fun c_9 H locs q9 ce hP hD hS h7 h8 h9 => ?_) (fun c_9 H locs hP hD hS => ?_)
  · skip
    have hP := fz_nilP' (P := []) hP
    subst hAe
    exact fz_xout ht hlocks c_9 rfl hP hS h7 h8 h9 (Nat.le_of_ble_eq_true rfl) (Nat.le_of_ble_eq_true rfl)
  · skip
    have hP := fz_nilP' (P := []) hP
    refine fz_wd (k := 1) (n := 6) (Nat.le_of_ble_eq_true rfl) (Nat.le_of_ble_eq_true rfl) ?_
    refine vx_ret ?_
    subst hAe
    exact W.iret (v := (fz_markw V wk y z fr).1) hx hb hr (fun t9 ht9 hW9 => ⟨⟨_, (), rfl, ⟨rfl, c_9⟩, fz_to ht9 hP⟩, hS.F ht9⟩) hS.2.2 dX8_freeze_25
set_option maxHeartbeats 4000000 in
set_option maxRecDepth 100000 in
/-- FreezeCredits.set -/
theorem c_X8_set (l : Launch) (hst : l.stackTraces = false) (D : va_G) (cy : Nat → ClassId) (f a t h x : Nat → Nat) (g : Nat → Option Nat) (cn : Nat) (V : Nat → Nat → Int32) (w : Nat → Nat) (N : Nat → Nat → Int32) (Z : va_W) (nt nc nq nl wk : Nat) (wf : fz_wf V nt nc nq nl wk) (hn : cn < 5) (hw : g cn = some (w 0)) (hz : fz_zo (V 2) 40) (hh : ∀ k, k < 5 → ∃ x, g k = some x ∧ fz_hd (CW cy w N ++ Z) x) (y z : Int32) : fz_XI l yX8_set wsX8_set 7 103 1 6 D cy [.ref (f 0), .int y, .int z] (FW f a t h x ++ (HW cy h g (nI cn) ++ (CW cy a V ++ (CW cy w N ++ Z)))) (fz_Ev (fz_in (FW f a t h x ++ (HW cy h g (nI cn) ++ (CW cy a V ++ (CW cy w N ++ Z)))))) (fz_set V y z).1 (FW f a t h x ++ (HW cy h (hs_g g cn) (nI (hs_n cn)) ++ (CW cy a (fz_set V y z).2 ++ (CW cy w V ++ Z)))) (fz_ok (fz_set V y z).1) (fz_en (fz_set V y z).1) (FW f a t h x ++ (HW cy h g (nI cn) ++ (CW cy a (fz_set V y z).2 ++ (CW cy w V ++ Z)))) := by
  refine vx_ofW (cc := cX8_set) (maxL := 3) (ret := (some .int)) (by decide) rfl ?_
  intro p e s m args below meth c s₁ B hml ht hv
  obtain ⟨rfl, hP, hK, hD0, hE⟩ := hv
  have hx := B.exec
  have hb := B.bytes
  have hr := B.returns
  have hts := atoms_spec (ws := wsX8_set) B.pre
  have hown : s.vm.findClass RX8 = some m.cls := findClass_of_methodNamed B.named
  have hlocks := B.notSynchronized
  have hD := fz_self hD0
  obtain ⟨A, hAe⟩ : ∃ A : Nat → Prop, A = fz_in (FW f a t h x ++ (HW cy h g (nI cn) ++ (CW cy a V ++ (CW cy w N ++ Z)))) := ⟨_, rfl⟩
  rw [← hAe] at hD
  have hE : fz_Ev A s := by rw [hAe]; exact hE
  have hS : va_S A s.heap s.heap [] := va_S.rf
  have hl := lv_entry ([.ref (f 0), .int y, .int z]) (n := 3) (Nat.le_of_ble_eq_true rfl)
  rw [lg_entry_eq]
  generalize (lg_sl ([.ref (f 0), .int y, .int z]) ++ List.replicate (3 - (lg_sl ([.ref (f 0), .int y, .int z])).length) Slot.unset).toArray = ls at hl ⊢
  have hl : lv_has ls 3 [(0, .ref (f 0)), (1, .int y), (2, .int z)] := hl
  have k_history := hts (.fieldLink RX8 22 "FreezeCredits" "history" "LFreezeCredits$History;") (by decide +kernel)
  have k_now := hts (.fieldLink RX8 12 "FreezeCredits" "now" "LFreezeCredits$Calendar;") (by decide +kernel)
  have inX8 : ∀ w ∈ u_ws RX8 TX8 4, w ∈ wsX8_set := by decide +kernel
  refine lv_aload_n hx hb dX8_set_0 rfl (lv_at hl 0 rfl) ?_
  refine va_get (D := D) (ci := 6) (v := .ref (h 0)) (C := RX8) (T := TX8) (N := 4) hx hb hts inX8 hown hK hP 0 rfl rfl 2 (by decide) k_history (fun _ h9 => h9) rfl dX8_set_1 ?_
  refine lv_aload_n hx hb dX8_set_4 rfl (lv_at hl 0 rfl) ?_
  refine va_get (D := D) (ci := 6) (v := .ref (a 0)) (C := RX8) (T := TX8) (N := 4) hx hb hts inX8 hown hK hP 0 rfl rfl 0 (by decide) k_now (fun _ h9 => h9) rfl dX8_set_5 ?_
  refine fz_sretMV (P := FW f a t h x) (S := Z) (Wc := HW cy h g (nI cn) ++ (CW cy a V ++ CW cy w N)) (Wc' := HW cy h g (nI cn) ++ (CW cy a V ++ CW cy w V)) (va_runV (As := [.ref (a 0)]) (rest := []) ⟨hx, hb, hml, hown, hts⟩ (c_X4_prepare l D cy h g cn a V w N hn hw hz) (cwV 1 hts gX8_set_X4_prepare rfl rfl rfl (by decide +kernel) ⟨Nat.le_of_ble_eq_true rfl, Nat.le_of_ble_eq_true rfl⟩) (fz_preMV (ci := 3) (q0 := 0) hK (fz_seg (P := FW f a t h x) (S := Z) hP) (fz_segD (P := FW f a t h x) (S := Z) hD) rfl rfl rfl fz_T_bl (fun _ _ _ => trivial)) rfl rfl hl.1 rfl (lv_room (Nat.le_of_ble_eq_true rfl)) dX8_set_8 ⟨Nat.le_of_ble_eq_true rfl, Nat.le_of_ble_eq_true rfl⟩) hP hD hS rfl (fun H locs hP hD hS => ?_)
  have hP : va_P D vwCl (FW f a t h x ++ (HW cy h g (nI cn) ++ (CW cy a V ++ (CW cy w V ++ Z)))) H := hP
  have hD : va_D A (FW f a t h x ++ (HW cy h g (nI cn) ++ (CW cy a V ++ (CW cy w V ++ Z)))) := hD
  refine lv_aload_n hx hb dX8_set_11 rfl (lv_at hl 0 rfl) ?_
  refine lv_aload_n hx hb dX8_set_12 rfl (lv_at hl 0 rfl) ?_
  refine va_get (D := D) (ci := 6) (v := .ref (a 0)) (C := RX8) (T := TX8) (N := 4) hx hb hts inX8 hown hK hP 0 rfl rfl 0 (by decide) k_now (fun _ h9 => h9) rfl dX8_set_13 ?_
  refine lv_iload_n hx hb dX8_set_16 rfl (lv_at hl 1 rfl) ?_
  refine lv_iload_n hx hb dX8_set_17 rfl (lv_at hl 2 rfl) ?_
  refine fz_sretM (P := FW f a t h x ++ HW cy h g (nI cn)) (S := CW cy w V ++ Z) (Wc := CW cy a V) (Wc' := CW cy a (fz_set V y z).2) (va_runV (As := [.int y, .int z]) (rest := [.ref (f 0)]) ⟨hx, hb, hml, hown, hts⟩ (c_X1_changeSetting l D cy a V nt nc nq nl wk wf y z) (cwV 2 hts gX8_set_X1_changeSetting rfl rfl rfl (by decide +kernel) ⟨Nat.le_of_ble_eq_true rfl, Nat.le_of_ble_eq_true rfl⟩) (fz_preMV (ci := 0) (q0 := 0) hK (fz_seg (P := FW f a t h x ++ HW cy h g (nI cn)) (S := CW cy w V ++ Z) hP) (fz_segD (P := FW f a t h x ++ HW cy h g (nI cn)) (S := CW cy w V ++ Z) hD) rfl rfl rfl fz_Sg_bl (fun U hU hW => hE.2.to (by rw [hU]; exact hS) hW (fun q h9 => fz_inD (fz_segD (P := FW f a t h x ++ HW cy h g (nI cn)) (S := CW cy w V ++ Z) hD) h9))) rfl rfl hl.1 rfl (lv_room (Nat.le_of_ble_eq_true rfl)) dX8_set_18 ⟨Nat.le_of_ble_eq_true rfl, Nat.le_of_ble_eq_true rfl⟩) hP hD hS rfl (fun H locs hP hD hS => ?_)
  have hP : va_P D vwCl (FW f a t h x ++ (HW cy h g (nI cn) ++ (CW cy a (fz_set V y z).2 ++ (CW cy w V ++ Z)))) H := hP
  have hD : va_D A (FW f a t h x ++ (HW cy h g (nI cn) ++ (CW cy a (fz_set V y z).2 ++ (CW cy w V ++ Z)))) := hD
  refine fz_xretI (P := []) (S := []) (Wc := FW f a t h x ++ (HW cy h g (nI cn) ++ (CW cy a (fz_set V y z).2 ++ (CW cy w V ++ Z)))) (Wc' := FW f a t h x ++ (HW cy h (hs_g g cn) (nI (hs_n cn)) ++ (CW cy a (fz_set V y z).2 ++ (CW cy w V ++ Z)))) (WX := FW f a t h x ++ (HW cy h g (nI cn) ++ (CW cy a (fz_set V y z).2 ++ (CW cy w V ++ Z)))) (vx_runV (As := [.int (fz_set V y z).1]) (rest := []) ⟨hx, hb, hml, hown, hts⟩ (c_X8_settle l hst D cy f a t h x g cn (CW cy a (fz_set V y z).2 ++ (CW cy w V ++ Z)) (fz_set V y z).1 hn (fun k hk => by obtain ⟨x, h1, h2⟩ := hh k hk; exact ⟨x, h1, fz_hd_r (fz_hd_c h2)⟩)) (cwV 1 hts gX8_set_X8_settle rfl rfl rfl (by decide +kernel) ⟨Nat.le_of_ble_eq_true rfl, Nat.le_of_ble_eq_true rfl⟩) (fz_preMV (ci := 6) (q0 := 0) hK hP hD rfl rfl rfl fz_Ev_bl (fun U hU hW => hE.up hU hS hW (fun q h9 => fz_inD hD h9))) rfl rfl hl.1 rfl (lv_room (Nat.le_of_ble_eq_true rfl)) dX8_set_21 ⟨Nat.le_of_ble_eq_true rfl, Nat.le_of_ble_eq_true rfl⟩) (fz_nilP (P := []) hP) (fz_nilD (P := []) hD) hS rfl rfl (fun c_9 H locs q9 ce hP hD hS h7 h8 h9 => ?_) (fun c_9 H locs hP hD hS => ?_)
  · skip
    have hP := fz_nilP' (P := []) hP
    subst hAe
    exact fz_xout ht hlocks c_9 rfl hP hS h7 h8 h9 (Nat.le_of_ble_eq_true rfl) (Nat.le_of_ble_eq_true rfl)
  · skip
    have hP := fz_nilP' (P := []) hP
    refine fz_wd (k := 1) (n := 6) (Nat.le_of_ble_eq_true rfl) (Nat.le_of_ble_eq_true rfl) ?_
    refine vx_ret ?_
    subst hAe
    exact W.iret (v := (fz_set V y z).1) hx hb hr (fun t9 ht9 hW9 => ⟨⟨_, (), rfl, ⟨rfl, c_9⟩, fz_to ht9 hP⟩, hS.F ht9⟩) hS.2.2 dX8_set_24
set_option maxHeartbeats 4000000 in
set_option maxRecDepth 100000 in
/-- FreezeCredits.endWeek -/
theorem c_X8_endWeek (l : Launch) (hst : l.stackTraces = false) (D : va_G) (cy : Nat → ClassId) (f a t h x : Nat → Nat) (g : Nat → Option Nat) (cn : Nat) (V : Nat → Nat → Int32) (w : Nat → Nat) (N : Nat → Nat → Int32) (Z : va_W) (nt nc nq nl wk : Nat) (wf : fz_wf V nt nc nq nl wk) (hn : cn < 5) (hw : g cn = some (w 0)) (hz : fz_zo (V 2) 40) (hh : ∀ k, k < 5 → ∃ x, g k = some x ∧ fz_hd (CW cy w N ++ Z) x)  : fz_XI l yX8_endWeek wsX8_endWeek 7 103 1 6 D cy [.ref (f 0)] (FW f a t h x ++ (HW cy h g (nI cn) ++ (CW cy a V ++ (CW cy w N ++ Z)))) (fz_Ev (fz_in (FW f a t h x ++ (HW cy h g (nI cn) ++ (CW cy a V ++ (CW cy w N ++ Z)))))) (fz_close V nt nc nl wk).1 (FW f a t h x ++ (HW cy h (hs_g g cn) (nI (hs_n cn)) ++ (CW cy a (fz_close V nt nc nl wk).2 ++ (CW cy w V ++ Z)))) (fz_ok (fz_close V nt nc nl wk).1) (fz_en (fz_close V nt nc nl wk).1) (FW f a t h x ++ (HW cy h g (nI cn) ++ (CW cy a (fz_close V nt nc nl wk).2 ++ (CW cy w V ++ Z)))) := by
  refine vx_ofW (cc := cX8_endWeek) (maxL := 1) (ret := (some .int)) (by decide) rfl ?_
  intro p e s m args below meth c s₁ B hml ht hv
  obtain ⟨rfl, hP, hK, hD0, hE⟩ := hv
  have hx := B.exec
  have hb := B.bytes
  have hr := B.returns
  have hts := atoms_spec (ws := wsX8_endWeek) B.pre
  have hown : s.vm.findClass RX8 = some m.cls := findClass_of_methodNamed B.named
  have hlocks := B.notSynchronized
  have hD := fz_self hD0
  obtain ⟨A, hAe⟩ : ∃ A : Nat → Prop, A = fz_in (FW f a t h x ++ (HW cy h g (nI cn) ++ (CW cy a V ++ (CW cy w N ++ Z)))) := ⟨_, rfl⟩
  rw [← hAe] at hD
  have hE : fz_Ev A s := by rw [hAe]; exact hE
  have hS : va_S A s.heap s.heap [] := va_S.rf
  have hl := lv_entry ([.ref (f 0)]) (n := 1) (Nat.le_of_ble_eq_true rfl)
  rw [lg_entry_eq]
  generalize (lg_sl ([.ref (f 0)]) ++ List.replicate (1 - (lg_sl ([.ref (f 0)])).length) Slot.unset).toArray = ls at hl ⊢
  have hl : lv_has ls 1 [(0, .ref (f 0))] := hl
  have k_history := hts (.fieldLink RX8 22 "FreezeCredits" "history" "LFreezeCredits$History;") (by decide +kernel)
  have k_now := hts (.fieldLink RX8 12 "FreezeCredits" "now" "LFreezeCredits$Calendar;") (by decide +kernel)
  have inX8 : ∀ w ∈ u_ws RX8 TX8 4, w ∈ wsX8_endWeek := by decide +kernel
  refine lv_aload_n hx hb dX8_endWeek_0 rfl (lv_at hl 0 rfl) ?_
  refine va_get (D := D) (ci := 6) (v := .ref (h 0)) (C := RX8) (T := TX8) (N := 4) hx hb hts inX8 hown hK hP 0 rfl rfl 2 (by decide) k_history (fun _ h9 => h9) rfl dX8_endWeek_1 ?_
  refine lv_aload_n hx hb dX8_endWeek_4 rfl (lv_at hl 0 rfl) ?_
  refine va_get (D := D) (ci := 6) (v := .ref (a 0)) (C := RX8) (T := TX8) (N := 4) hx hb hts inX8 hown hK hP 0 rfl rfl 0 (by decide) k_now (fun _ h9 => h9) rfl dX8_endWeek_5 ?_
  refine fz_sretMV (P := FW f a t h x) (S := Z) (Wc := HW cy h g (nI cn) ++ (CW cy a V ++ CW cy w N)) (Wc' := HW cy h g (nI cn) ++ (CW cy a V ++ CW cy w V)) (va_runV (As := [.ref (a 0)]) (rest := []) ⟨hx, hb, hml, hown, hts⟩ (c_X4_prepare l D cy h g cn a V w N hn hw hz) (cwV 1 hts gX8_endWeek_X4_prepare rfl rfl rfl (by decide +kernel) ⟨Nat.le_of_ble_eq_true rfl, Nat.le_of_ble_eq_true rfl⟩) (fz_preMV (ci := 3) (q0 := 0) hK (fz_seg (P := FW f a t h x) (S := Z) hP) (fz_segD (P := FW f a t h x) (S := Z) hD) rfl rfl rfl fz_T_bl (fun _ _ _ => trivial)) rfl rfl hl.1 rfl (lv_room (Nat.le_of_ble_eq_true rfl)) dX8_endWeek_8 ⟨Nat.le_of_ble_eq_true rfl, Nat.le_of_ble_eq_true rfl⟩) hP hD hS rfl (fun H locs hP hD hS => ?_)
  have hP : va_P D vwCl (FW f a t h x ++ (HW cy h g (nI cn) ++ (CW cy a V ++ (CW cy w V ++ Z)))) H := hP
  have hD : va_D A (FW f a t h x ++ (HW cy h g (nI cn) ++ (CW cy a V ++ (CW cy w V ++ Z)))) := hD
  refine lv_aload_n hx hb dX8_endWeek_11 rfl (lv_at hl 0 rfl) ?_
  refine lv_aload_n hx hb dX8_endWeek_12 rfl (lv_at hl 0 rfl) ?_
  refine va_get (D := D) (ci := 6) (v := .ref (a 0)) (C := RX8) (T := TX8) (N := 4) hx hb hts inX8 hown hK hP 0 rfl rfl 0 (by decide) k_now (fun _ h9 => h9) rfl dX8_endWeek_13 ?_
  refine fz_sretM (P := FW f a t h x ++ HW cy h g (nI cn)) (S := CW cy w V ++ Z) (Wc := CW cy a V) (Wc' := CW cy a (fz_close V nt nc nl wk).2) (va_runV (As := []) (rest := [.ref (f 0)]) ⟨hx, hb, hml, hown, hts⟩ (c_X1_closeWeek l D cy a V nt nc nq nl wk wf) (cwV 0 hts gX8_endWeek_X1_closeWeek rfl rfl rfl (by decide +kernel) ⟨Nat.le_of_ble_eq_true rfl, Nat.le_of_ble_eq_true rfl⟩) (fz_preMV (ci := 0) (q0 := 0) hK (fz_seg (P := FW f a t h x ++ HW cy h g (nI cn)) (S := CW cy w V ++ Z) hP) (fz_segD (P := FW f a t h x ++ HW cy h g (nI cn)) (S := CW cy w V ++ Z) hD) rfl rfl rfl fz_T_bl (fun _ _ _ => trivial)) rfl rfl hl.1 rfl (lv_room (Nat.le_of_ble_eq_true rfl)) dX8_endWeek_16 ⟨Nat.le_of_ble_eq_true rfl, Nat.le_of_ble_eq_true rfl⟩) hP hD hS rfl (fun H locs hP hD hS => ?_)
  have hP : va_P D vwCl (FW f a t h x ++ (HW cy h g (nI cn) ++ (CW cy a (fz_close V nt nc nl wk).2 ++ (CW cy w V ++ Z)))) H := hP
  have hD : va_D A (FW f a t h x ++ (HW cy h g (nI cn) ++ (CW cy a (fz_close V nt nc nl wk).2 ++ (CW cy w V ++ Z)))) := hD
  refine fz_xretI (P := []) (S := []) (Wc := FW f a t h x ++ (HW cy h g (nI cn) ++ (CW cy a (fz_close V nt nc nl wk).2 ++ (CW cy w V ++ Z)))) (Wc' := FW f a t h x ++ (HW cy h (hs_g g cn) (nI (hs_n cn)) ++ (CW cy a (fz_close V nt nc nl wk).2 ++ (CW cy w V ++ Z)))) (WX := FW f a t h x ++ (HW cy h g (nI cn) ++ (CW cy a (fz_close V nt nc nl wk).2 ++ (CW cy w V ++ Z)))) (vx_runV (As := [.int (fz_close V nt nc nl wk).1]) (rest := []) ⟨hx, hb, hml, hown, hts⟩ (c_X8_settle l hst D cy f a t h x g cn (CW cy a (fz_close V nt nc nl wk).2 ++ (CW cy w V ++ Z)) (fz_close V nt nc nl wk).1 hn (fun k hk => by obtain ⟨x, h1, h2⟩ := hh k hk; exact ⟨x, h1, fz_hd_r (fz_hd_c h2)⟩)) (cwV 1 hts gX8_endWeek_X8_settle rfl rfl rfl (by decide +kernel) ⟨Nat.le_of_ble_eq_true rfl, Nat.le_of_ble_eq_true rfl⟩) (fz_preMV (ci := 6) (q0 := 0) hK hP hD rfl rfl rfl fz_Ev_bl (fun U hU hW => hE.up hU hS hW (fun q h9 => fz_inD hD h9))) rfl rfl hl.1 rfl (lv_room (Nat.le_of_ble_eq_true rfl)) dX8_endWeek_19 ⟨Nat.le_of_ble_eq_true rfl, Nat.le_of_ble_eq_true rfl⟩) (fz_nilP (P := []) hP) (fz_nilD (P := []) hD) hS rfl rfl (fun c_9 H locs q9 ce hP hD hS h7 h8 h9 => ?_) (fun c_9 H locs hP hD hS => ?_)
  · skip
    have hP := fz_nilP' (P := []) hP
    subst hAe
    exact fz_xout ht hlocks c_9 rfl hP hS h7 h8 h9 (Nat.le_of_ble_eq_true rfl) (Nat.le_of_ble_eq_true rfl)
  · skip
    have hP := fz_nilP' (P := []) hP
    refine fz_wd (k := 1) (n := 6) (Nat.le_of_ble_eq_true rfl) (Nat.le_of_ble_eq_true rfl) ?_
    refine vx_ret ?_
    subst hAe
    exact W.iret (v := (fz_close V nt nc nl wk).1) hx hb hr (fun t9 ht9 hW9 => ⟨⟨_, (), rfl, ⟨rfl, c_9⟩, fz_to ht9 hP⟩, hS.F ht9⟩) hS.2.2 dX8_endWeek_22
set_option maxHeartbeats 4000000 in
set_option maxRecDepth 100000 in
/-- FreezeCredits.ask -/
theorem c_X8_ask (l : Launch) (hst : l.stackTraces = false) (D : va_G) (cy : Nat → ClassId) (f a t h x : Nat → Nat) (g : Nat → Option Nat) (cn : Nat) (V : Nat → Nat → Int32) (w : Nat → Nat) (N : Nat → Nat → Int32) (Z : va_W) (nt nc nq nl wk : Nat) (wf : fz_wf V nt nc nq nl wk) (hn : cn < 5) (hw : g cn = some (w 0)) (hz : fz_zo (V 2) 40) (hh : ∀ k, k < 5 → ∃ x, g k = some x ∧ fz_hd (CW cy w N ++ Z) x) (y z : Int32) : fz_XI l yX8_ask wsX8_ask 7 103 1 6 D cy [.ref (f 0), .int y, .int z] (FW f a t h x ++ (HW cy h g (nI cn) ++ (CW cy a V ++ (CW cy w N ++ Z)))) (fz_Ev (fz_in (FW f a t h x ++ (HW cy h g (nI cn) ++ (CW cy a V ++ (CW cy w N ++ Z)))))) (fz_enter V nc nq y z).1 (FW f a t h x ++ (HW cy h (hs_g g cn) (nI (hs_n cn)) ++ (CW cy a (fz_enter V nc nq y z).2 ++ (CW cy w V ++ Z)))) (fz_ok (fz_enter V nc nq y z).1) (fz_en (fz_enter V nc nq y z).1) (FW f a t h x ++ (HW cy h g (nI cn) ++ (CW cy a (fz_enter V nc nq y z).2 ++ (CW cy w V ++ Z)))) := by
  refine vx_ofW (cc := cX8_ask) (maxL := 3) (ret := (some .int)) (by decide) rfl ?_
  intro p e s m args below meth c s₁ B hml ht hv
  obtain ⟨rfl, hP, hK, hD0, hE⟩ := hv
  have hx := B.exec
  have hb := B.bytes
  have hr := B.returns
  have hts := atoms_spec (ws := wsX8_ask) B.pre
  have hown : s.vm.findClass RX8 = some m.cls := findClass_of_methodNamed B.named
  have hlocks := B.notSynchronized
  have hD := fz_self hD0
  obtain ⟨A, hAe⟩ : ∃ A : Nat → Prop, A = fz_in (FW f a t h x ++ (HW cy h g (nI cn) ++ (CW cy a V ++ (CW cy w N ++ Z)))) := ⟨_, rfl⟩
  rw [← hAe] at hD
  have hE : fz_Ev A s := by rw [hAe]; exact hE
  have hS : va_S A s.heap s.heap [] := va_S.rf
  have hl := lv_entry ([.ref (f 0), .int y, .int z]) (n := 3) (Nat.le_of_ble_eq_true rfl)
  rw [lg_entry_eq]
  generalize (lg_sl ([.ref (f 0), .int y, .int z]) ++ List.replicate (3 - (lg_sl ([.ref (f 0), .int y, .int z])).length) Slot.unset).toArray = ls at hl ⊢
  have hl : lv_has ls 3 [(0, .ref (f 0)), (1, .int y), (2, .int z)] := hl
  have k_history := hts (.fieldLink RX8 22 "FreezeCredits" "history" "LFreezeCredits$History;") (by decide +kernel)
  have k_now := hts (.fieldLink RX8 12 "FreezeCredits" "now" "LFreezeCredits$Calendar;") (by decide +kernel)
  have inX8 : ∀ w ∈ u_ws RX8 TX8 4, w ∈ wsX8_ask := by decide +kernel
  refine lv_aload_n hx hb dX8_ask_0 rfl (lv_at hl 0 rfl) ?_
  refine va_get (D := D) (ci := 6) (v := .ref (h 0)) (C := RX8) (T := TX8) (N := 4) hx hb hts inX8 hown hK hP 0 rfl rfl 2 (by decide) k_history (fun _ h9 => h9) rfl dX8_ask_1 ?_
  refine lv_aload_n hx hb dX8_ask_4 rfl (lv_at hl 0 rfl) ?_
  refine va_get (D := D) (ci := 6) (v := .ref (a 0)) (C := RX8) (T := TX8) (N := 4) hx hb hts inX8 hown hK hP 0 rfl rfl 0 (by decide) k_now (fun _ h9 => h9) rfl dX8_ask_5 ?_
  refine fz_sretMV (P := FW f a t h x) (S := Z) (Wc := HW cy h g (nI cn) ++ (CW cy a V ++ CW cy w N)) (Wc' := HW cy h g (nI cn) ++ (CW cy a V ++ CW cy w V)) (va_runV (As := [.ref (a 0)]) (rest := []) ⟨hx, hb, hml, hown, hts⟩ (c_X4_prepare l D cy h g cn a V w N hn hw hz) (cwV 1 hts gX8_ask_X4_prepare rfl rfl rfl (by decide +kernel) ⟨Nat.le_of_ble_eq_true rfl, Nat.le_of_ble_eq_true rfl⟩) (fz_preMV (ci := 3) (q0 := 0) hK (fz_seg (P := FW f a t h x) (S := Z) hP) (fz_segD (P := FW f a t h x) (S := Z) hD) rfl rfl rfl fz_T_bl (fun _ _ _ => trivial)) rfl rfl hl.1 rfl (lv_room (Nat.le_of_ble_eq_true rfl)) dX8_ask_8 ⟨Nat.le_of_ble_eq_true rfl, Nat.le_of_ble_eq_true rfl⟩) hP hD hS rfl (fun H locs hP hD hS => ?_)
  have hP : va_P D vwCl (FW f a t h x ++ (HW cy h g (nI cn) ++ (CW cy a V ++ (CW cy w V ++ Z)))) H := hP
  have hD : va_D A (FW f a t h x ++ (HW cy h g (nI cn) ++ (CW cy a V ++ (CW cy w V ++ Z)))) := hD
  refine lv_aload_n hx hb dX8_ask_11 rfl (lv_at hl 0 rfl) ?_
  refine lv_aload_n hx hb dX8_ask_12 rfl (lv_at hl 0 rfl) ?_
  refine va_get (D := D) (ci := 6) (v := .ref (a 0)) (C := RX8) (T := TX8) (N := 4) hx hb hts inX8 hown hK hP 0 rfl rfl 0 (by decide) k_now (fun _ h9 => h9) rfl dX8_ask_13 ?_
  refine lv_iload_n hx hb dX8_ask_16 rfl (lv_at hl 1 rfl) ?_
  refine lv_iload_n hx hb dX8_ask_17 rfl (lv_at hl 2 rfl) ?_
  refine fz_sretM (P := FW f a t h x ++ HW cy h g (nI cn)) (S := CW cy w V ++ Z) (Wc := CW cy a V) (Wc' := CW cy a (fz_enter V nc nq y z).2) (va_runV (As := [.int y, .int z]) (rest := [.ref (f 0)]) ⟨hx, hb, hml, hown, hts⟩ (c_X1_enterChange l D cy a V nt nc nq nl wk wf y z) (cwV 2 hts gX8_ask_X1_enterChange rfl rfl rfl (by decide +kernel) ⟨Nat.le_of_ble_eq_true rfl, Nat.le_of_ble_eq_true rfl⟩) (fz_preMV (ci := 0) (q0 := 0) hK (fz_seg (P := FW f a t h x ++ HW cy h g (nI cn)) (S := CW cy w V ++ Z) hP) (fz_segD (P := FW f a t h x ++ HW cy h g (nI cn)) (S := CW cy w V ++ Z) hD) rfl rfl rfl fz_Nw_bl (fun U _ hW => fz_Nw_warm hW hE.2.1)) rfl rfl hl.1 rfl (lv_room (Nat.le_of_ble_eq_true rfl)) dX8_ask_18 ⟨Nat.le_of_ble_eq_true rfl, Nat.le_of_ble_eq_true rfl⟩) hP hD hS rfl (fun H locs hP hD hS => ?_)
  have hP : va_P D vwCl (FW f a t h x ++ (HW cy h g (nI cn) ++ (CW cy a (fz_enter V nc nq y z).2 ++ (CW cy w V ++ Z)))) H := hP
  have hD : va_D A (FW f a t h x ++ (HW cy h g (nI cn) ++ (CW cy a (fz_enter V nc nq y z).2 ++ (CW cy w V ++ Z)))) := hD
  refine fz_xretI (P := []) (S := []) (Wc := FW f a t h x ++ (HW cy h g (nI cn) ++ (CW cy a (fz_enter V nc nq y z).2 ++ (CW cy w V ++ Z)))) (Wc' := FW f a t h x ++ (HW cy h (hs_g g cn) (nI (hs_n cn)) ++ (CW cy a (fz_enter V nc nq y z).2 ++ (CW cy w V ++ Z)))) (WX := FW f a t h x ++ (HW cy h g (nI cn) ++ (CW cy a (fz_enter V nc nq y z).2 ++ (CW cy w V ++ Z)))) (vx_runV (As := [.int (fz_enter V nc nq y z).1]) (rest := []) ⟨hx, hb, hml, hown, hts⟩ (c_X8_settle l hst D cy f a t h x g cn (CW cy a (fz_enter V nc nq y z).2 ++ (CW cy w V ++ Z)) (fz_enter V nc nq y z).1 hn (fun k hk => by obtain ⟨x, h1, h2⟩ := hh k hk; exact ⟨x, h1, fz_hd_r (fz_hd_c h2)⟩)) (cwV 1 hts gX8_ask_X8_settle rfl rfl rfl (by decide +kernel) ⟨Nat.le_of_ble_eq_true rfl, Nat.le_of_ble_eq_true rfl⟩) (fz_preMV (ci := 6) (q0 := 0) hK hP hD rfl rfl rfl fz_Ev_bl (fun U hU hW => hE.up hU hS hW (fun q h9 => fz_inD hD h9))) rfl rfl hl.1 rfl (lv_room (Nat.le_of_ble_eq_true rfl)) dX8_ask_21 ⟨Nat.le_of_ble_eq_true rfl, Nat.le_of_ble_eq_true rfl⟩) (fz_nilP (P := []) hP) (fz_nilD (P := []) hD) hS rfl rfl (fun c_9 H locs q9 ce hP hD hS h7 h8 h9 => ?_) (fun c_9 H locs hP hD hS => ?_)
  · skip
    have hP := fz_nilP' (P := []) hP
    subst hAe
    exact fz_xout ht hlocks c_9 rfl hP hS h7 h8 h9 (Nat.le_of_ble_eq_true rfl) (Nat.le_of_ble_eq_true rfl)
  · skip
    have hP := fz_nilP' (P := []) hP
    refine fz_wd (k := 1) (n := 6) (Nat.le_of_ble_eq_true rfl) (Nat.le_of_ble_eq_true rfl) ?_
    refine vx_ret ?_
    subst hAe
    exact W.iret (v := (fz_enter V nc nq y z).1) hx hb hr (fun t9 ht9 hW9 => ⟨⟨_, (), rfl, ⟨rfl, c_9⟩, fz_to ht9 hP⟩, hS.F ht9⟩) hS.2.2 dX8_ask_24
set_option maxHeartbeats 4000000 in
set_option maxRecDepth 100000 in
/-- FreezeCredits.exempt -/
theorem c_X8_exempt (l : Launch) (hst : l.stackTraces = false) (D : va_G) (cy : Nat → ClassId) (f a t h x : Nat → Nat) (g : Nat → Option Nat) (cn : Nat) (V : Nat → Nat → Int32) (w : Nat → Nat) (N : Nat → Nat → Int32) (Z : va_W) (nt nc nq nl wk : Nat) (wf : fz_wf V nt nc nq nl wk) (hn : cn < 5) (hw : g cn = some (w 0)) (hz : fz_zo (V 2) 40) (hh : ∀ k, k < 5 → ∃ x, g k = some x ∧ fz_hd (CW cy w N ++ Z) x) (y : Int32) : fz_XI l yX8_exempt wsX8_exempt 7 103 1 6 D cy [.ref (f 0), .int y] (FW f a t h x ++ (HW cy h g (nI cn) ++ (CW cy a V ++ (CW cy w N ++ Z)))) (fz_Ev (fz_in (FW f a t h x ++ (HW cy h g (nI cn) ++ (CW cy a V ++ (CW cy w N ++ Z)))))) (fz_exempt V nc nl y).1 (FW f a t h x ++ (HW cy h (hs_g g cn) (nI (hs_n cn)) ++ (CW cy a (fz_exempt V nc nl y).2 ++ (CW cy w V ++ Z)))) (fz_ok (fz_exempt V nc nl y).1) (fz_en (fz_exempt V nc nl y).1) (FW f a t h x ++ (HW cy h g (nI cn) ++ (CW cy a (fz_exempt V nc nl y).2 ++ (CW cy w V ++ Z)))) := by
  refine vx_ofW (cc := cX8_exempt) (maxL := 2) (ret := (some .int)) (by decide) rfl ?_
  intro p e s m args below meth c s₁ B hml ht hv
  obtain ⟨rfl, hP, hK, hD0, hE⟩ := hv
  have hx := B.exec
  have hb := B.bytes
  have hr := B.returns
  have hts := atoms_spec (ws := wsX8_exempt) B.pre
  have hown : s.vm.findClass RX8 = some m.cls := findClass_of_methodNamed B.named
  have hlocks := B.notSynchronized
  have hD := fz_self hD0
  obtain ⟨A, hAe⟩ : ∃ A : Nat → Prop, A = fz_in (FW f a t h x ++ (HW cy h g (nI cn) ++ (CW cy a V ++ (CW cy w N ++ Z)))) := ⟨_, rfl⟩
  rw [← hAe] at hD
  have hE : fz_Ev A s := by rw [hAe]; exact hE
  have hS : va_S A s.heap s.heap [] := va_S.rf
  have hl := lv_entry ([.ref (f 0), .int y]) (n := 2) (Nat.le_of_ble_eq_true rfl)
  rw [lg_entry_eq]
  generalize (lg_sl ([.ref (f 0), .int y]) ++ List.replicate (2 - (lg_sl ([.ref (f 0), .int y])).length) Slot.unset).toArray = ls at hl ⊢
  have hl : lv_has ls 2 [(0, .ref (f 0)), (1, .int y)] := hl
  have k_history := hts (.fieldLink RX8 22 "FreezeCredits" "history" "LFreezeCredits$History;") (by decide +kernel)
  have k_now := hts (.fieldLink RX8 12 "FreezeCredits" "now" "LFreezeCredits$Calendar;") (by decide +kernel)
  have inX8 : ∀ w ∈ u_ws RX8 TX8 4, w ∈ wsX8_exempt := by decide +kernel
  refine lv_aload_n hx hb dX8_exempt_0 rfl (lv_at hl 0 rfl) ?_
  refine va_get (D := D) (ci := 6) (v := .ref (h 0)) (C := RX8) (T := TX8) (N := 4) hx hb hts inX8 hown hK hP 0 rfl rfl 2 (by decide) k_history (fun _ h9 => h9) rfl dX8_exempt_1 ?_
  refine lv_aload_n hx hb dX8_exempt_4 rfl (lv_at hl 0 rfl) ?_
  refine va_get (D := D) (ci := 6) (v := .ref (a 0)) (C := RX8) (T := TX8) (N := 4) hx hb hts inX8 hown hK hP 0 rfl rfl 0 (by decide) k_now (fun _ h9 => h9) rfl dX8_exempt_5 ?_
  refine fz_sretMV (P := FW f a t h x) (S := Z) (Wc := HW cy h g (nI cn) ++ (CW cy a V ++ CW cy w N)) (Wc' := HW cy h g (nI cn) ++ (CW cy a V ++ CW cy w V)) (va_runV (As := [.ref (a 0)]) (rest := []) ⟨hx, hb, hml, hown, hts⟩ (c_X4_prepare l D cy h g cn a V w N hn hw hz) (cwV 1 hts gX8_exempt_X4_prepare rfl rfl rfl (by decide +kernel) ⟨Nat.le_of_ble_eq_true rfl, Nat.le_of_ble_eq_true rfl⟩) (fz_preMV (ci := 3) (q0 := 0) hK (fz_seg (P := FW f a t h x) (S := Z) hP) (fz_segD (P := FW f a t h x) (S := Z) hD) rfl rfl rfl fz_T_bl (fun _ _ _ => trivial)) rfl rfl hl.1 rfl (lv_room (Nat.le_of_ble_eq_true rfl)) dX8_exempt_8 ⟨Nat.le_of_ble_eq_true rfl, Nat.le_of_ble_eq_true rfl⟩) hP hD hS rfl (fun H locs hP hD hS => ?_)
  have hP : va_P D vwCl (FW f a t h x ++ (HW cy h g (nI cn) ++ (CW cy a V ++ (CW cy w V ++ Z)))) H := hP
  have hD : va_D A (FW f a t h x ++ (HW cy h g (nI cn) ++ (CW cy a V ++ (CW cy w V ++ Z)))) := hD
  refine lv_aload_n hx hb dX8_exempt_11 rfl (lv_at hl 0 rfl) ?_
  refine lv_aload_n hx hb dX8_exempt_12 rfl (lv_at hl 0 rfl) ?_
  refine va_get (D := D) (ci := 6) (v := .ref (a 0)) (C := RX8) (T := TX8) (N := 4) hx hb hts inX8 hown hK hP 0 rfl rfl 0 (by decide) k_now (fun _ h9 => h9) rfl dX8_exempt_13 ?_
  refine lv_iload_n hx hb dX8_exempt_16 rfl (lv_at hl 1 rfl) ?_
  refine fz_sretM (P := FW f a t h x ++ HW cy h g (nI cn)) (S := CW cy w V ++ Z) (Wc := CW cy a V) (Wc' := CW cy a (fz_exempt V nc nl y).2) (va_runV (As := [.int y]) (rest := [.ref (f 0)]) ⟨hx, hb, hml, hown, hts⟩ (c_X1_exemptChange l D cy a V nt nc nq nl wk wf y) (cwV 1 hts gX8_exempt_X1_exemptChange rfl rfl rfl (by decide +kernel) ⟨Nat.le_of_ble_eq_true rfl, Nat.le_of_ble_eq_true rfl⟩) (fz_preMV (ci := 0) (q0 := 0) hK (fz_seg (P := FW f a t h x ++ HW cy h g (nI cn)) (S := CW cy w V ++ Z) hP) (fz_segD (P := FW f a t h x ++ HW cy h g (nI cn)) (S := CW cy w V ++ Z) hD) rfl rfl rfl fz_T_bl (fun _ _ _ => trivial)) rfl rfl hl.1 rfl (lv_room (Nat.le_of_ble_eq_true rfl)) dX8_exempt_17 ⟨Nat.le_of_ble_eq_true rfl, Nat.le_of_ble_eq_true rfl⟩) hP hD hS rfl (fun H locs hP hD hS => ?_)
  have hP : va_P D vwCl (FW f a t h x ++ (HW cy h g (nI cn) ++ (CW cy a (fz_exempt V nc nl y).2 ++ (CW cy w V ++ Z)))) H := hP
  have hD : va_D A (FW f a t h x ++ (HW cy h g (nI cn) ++ (CW cy a (fz_exempt V nc nl y).2 ++ (CW cy w V ++ Z)))) := hD
  refine fz_xretI (P := []) (S := []) (Wc := FW f a t h x ++ (HW cy h g (nI cn) ++ (CW cy a (fz_exempt V nc nl y).2 ++ (CW cy w V ++ Z)))) (Wc' := FW f a t h x ++ (HW cy h (hs_g g cn) (nI (hs_n cn)) ++ (CW cy a (fz_exempt V nc nl y).2 ++ (CW cy w V ++ Z)))) (WX := FW f a t h x ++ (HW cy h g (nI cn) ++ (CW cy a (fz_exempt V nc nl y).2 ++ (CW cy w V ++ Z)))) (vx_runV (As := [.int (fz_exempt V nc nl y).1]) (rest := []) ⟨hx, hb, hml, hown, hts⟩ (c_X8_settle l hst D cy f a t h x g cn (CW cy a (fz_exempt V nc nl y).2 ++ (CW cy w V ++ Z)) (fz_exempt V nc nl y).1 hn (fun k hk => by obtain ⟨x, h1, h2⟩ := hh k hk; exact ⟨x, h1, fz_hd_r (fz_hd_c h2)⟩)) (cwV 1 hts gX8_exempt_X8_settle rfl rfl rfl (by decide +kernel) ⟨Nat.le_of_ble_eq_true rfl, Nat.le_of_ble_eq_true rfl⟩) (fz_preMV (ci := 6) (q0 := 0) hK hP hD rfl rfl rfl fz_Ev_bl (fun U hU hW => hE.up hU hS hW (fun q h9 => fz_inD hD h9))) rfl rfl hl.1 rfl (lv_room (Nat.le_of_ble_eq_true rfl)) dX8_exempt_20 ⟨Nat.le_of_ble_eq_true rfl, Nat.le_of_ble_eq_true rfl⟩) (fz_nilP (P := []) hP) (fz_nilD (P := []) hD) hS rfl rfl (fun c_9 H locs q9 ce hP hD hS h7 h8 h9 => ?_) (fun c_9 H locs hP hD hS => ?_)
  · skip
    have hP := fz_nilP' (P := []) hP
    subst hAe
    exact fz_xout ht hlocks c_9 rfl hP hS h7 h8 h9 (Nat.le_of_ble_eq_true rfl) (Nat.le_of_ble_eq_true rfl)
  · skip
    have hP := fz_nilP' (P := []) hP
    refine fz_wd (k := 1) (n := 6) (Nat.le_of_ble_eq_true rfl) (Nat.le_of_ble_eq_true rfl) ?_
    refine vx_ret ?_
    subst hAe
    exact W.iret (v := (fz_exempt V nc nl y).1) hx hb hr (fun t9 ht9 hW9 => ⟨⟨_, (), rfl, ⟨rfl, c_9⟩, fz_to ht9 hP⟩, hS.F ht9⟩) hS.2.2 dX8_exempt_23
set_option maxHeartbeats 4000000 in
set_option maxRecDepth 100000 in
/-- FreezeCredits.make -/
theorem c_X8_make (l : Launch) (hst : l.stackTraces = false) (D : va_G) (cy : Nat → ClassId) (f a t h x : Nat → Nat) (g : Nat → Option Nat) (cn : Nat) (V : Nat → Nat → Int32) (w : Nat → Nat) (N : Nat → Nat → Int32) (Z : va_W) (nt nc nq nl wk : Nat) (wf : fz_wf V nt nc nq nl wk) (hn : cn < 5) (hw : g cn = some (w 0)) (hz : fz_zo (V 2) 40) (hh : ∀ k, k < 5 → ∃ x, g k = some x ∧ fz_hd (CW cy w N ++ Z) x) (y : Int32) (fr : Bool) : fz_XI l yX8_make wsX8_make 7 103 1 6 D cy [.ref (f 0), .int y, .int (fz_b fr)] (FW f a t h x ++ (HW cy h g (nI cn) ++ (CW cy a V ++ (CW cy w N ++ Z)))) (fz_Ev (fz_in (FW f a t h x ++ (HW cy h g (nI cn) ++ (CW cy a V ++ (CW cy w N ++ Z)))))) (fz_make V nc nq wk y fr).1 (FW f a t h x ++ (HW cy h (hs_g g cn) (nI (hs_n cn)) ++ (CW cy a (fz_make V nc nq wk y fr).2 ++ (CW cy w V ++ Z)))) (fz_ok (fz_make V nc nq wk y fr).1) (fz_en (fz_make V nc nq wk y fr).1) (FW f a t h x ++ (HW cy h g (nI cn) ++ (CW cy a (fz_make V nc nq wk y fr).2 ++ (CW cy w V ++ Z)))) := by
  refine vx_ofW (cc := cX8_make) (maxL := 3) (ret := (some .int)) (by decide) rfl ?_
  intro p e s m args below meth c s₁ B hml ht hv
  obtain ⟨rfl, hP, hK, hD0, hE⟩ := hv
  have hx := B.exec
  have hb := B.bytes
  have hr := B.returns
  have hts := atoms_spec (ws := wsX8_make) B.pre
  have hown : s.vm.findClass RX8 = some m.cls := findClass_of_methodNamed B.named
  have hlocks := B.notSynchronized
  have hD := fz_self hD0
  obtain ⟨A, hAe⟩ : ∃ A : Nat → Prop, A = fz_in (FW f a t h x ++ (HW cy h g (nI cn) ++ (CW cy a V ++ (CW cy w N ++ Z)))) := ⟨_, rfl⟩
  rw [← hAe] at hD
  have hE : fz_Ev A s := by rw [hAe]; exact hE
  have hS : va_S A s.heap s.heap [] := va_S.rf
  have hl := lv_entry ([.ref (f 0), .int y, .int (fz_b fr)]) (n := 3) (Nat.le_of_ble_eq_true rfl)
  rw [lg_entry_eq]
  generalize (lg_sl ([.ref (f 0), .int y, .int (fz_b fr)]) ++ List.replicate (3 - (lg_sl ([.ref (f 0), .int y, .int (fz_b fr)])).length) Slot.unset).toArray = ls at hl ⊢
  have hl : lv_has ls 3 [(0, .ref (f 0)), (1, .int y), (2, .int (fz_b fr))] := hl
  have k_history := hts (.fieldLink RX8 22 "FreezeCredits" "history" "LFreezeCredits$History;") (by decide +kernel)
  have k_now := hts (.fieldLink RX8 12 "FreezeCredits" "now" "LFreezeCredits$Calendar;") (by decide +kernel)
  have inX8 : ∀ w ∈ u_ws RX8 TX8 4, w ∈ wsX8_make := by decide +kernel
  refine lv_aload_n hx hb dX8_make_0 rfl (lv_at hl 0 rfl) ?_
  refine va_get (D := D) (ci := 6) (v := .ref (h 0)) (C := RX8) (T := TX8) (N := 4) hx hb hts inX8 hown hK hP 0 rfl rfl 2 (by decide) k_history (fun _ h9 => h9) rfl dX8_make_1 ?_
  refine lv_aload_n hx hb dX8_make_4 rfl (lv_at hl 0 rfl) ?_
  refine va_get (D := D) (ci := 6) (v := .ref (a 0)) (C := RX8) (T := TX8) (N := 4) hx hb hts inX8 hown hK hP 0 rfl rfl 0 (by decide) k_now (fun _ h9 => h9) rfl dX8_make_5 ?_
  refine fz_sretMV (P := FW f a t h x) (S := Z) (Wc := HW cy h g (nI cn) ++ (CW cy a V ++ CW cy w N)) (Wc' := HW cy h g (nI cn) ++ (CW cy a V ++ CW cy w V)) (va_runV (As := [.ref (a 0)]) (rest := []) ⟨hx, hb, hml, hown, hts⟩ (c_X4_prepare l D cy h g cn a V w N hn hw hz) (cwV 1 hts gX8_make_X4_prepare rfl rfl rfl (by decide +kernel) ⟨Nat.le_of_ble_eq_true rfl, Nat.le_of_ble_eq_true rfl⟩) (fz_preMV (ci := 3) (q0 := 0) hK (fz_seg (P := FW f a t h x) (S := Z) hP) (fz_segD (P := FW f a t h x) (S := Z) hD) rfl rfl rfl fz_T_bl (fun _ _ _ => trivial)) rfl rfl hl.1 rfl (lv_room (Nat.le_of_ble_eq_true rfl)) dX8_make_8 ⟨Nat.le_of_ble_eq_true rfl, Nat.le_of_ble_eq_true rfl⟩) hP hD hS rfl (fun H locs hP hD hS => ?_)
  have hP : va_P D vwCl (FW f a t h x ++ (HW cy h g (nI cn) ++ (CW cy a V ++ (CW cy w V ++ Z)))) H := hP
  have hD : va_D A (FW f a t h x ++ (HW cy h g (nI cn) ++ (CW cy a V ++ (CW cy w V ++ Z)))) := hD
  refine lv_aload_n hx hb dX8_make_11 rfl (lv_at hl 0 rfl) ?_
  refine lv_aload_n hx hb dX8_make_12 rfl (lv_at hl 0 rfl) ?_
  refine va_get (D := D) (ci := 6) (v := .ref (a 0)) (C := RX8) (T := TX8) (N := 4) hx hb hts inX8 hown hK hP 0 rfl rfl 0 (by decide) k_now (fun _ h9 => h9) rfl dX8_make_13 ?_
  refine lv_iload_n hx hb dX8_make_16 rfl (lv_at hl 1 rfl) ?_
  refine lv_iload_n hx hb dX8_make_17 rfl (lv_at hl 2 rfl) ?_
  refine fz_sretM (P := FW f a t h x ++ HW cy h g (nI cn)) (S := CW cy w V ++ Z) (Wc := CW cy a V) (Wc' := CW cy a (fz_make V nc nq wk y fr).2) (va_runV (As := [.int y, .int (fz_b fr)]) (rest := [.ref (f 0)]) ⟨hx, hb, hml, hown, hts⟩ (c_X1_makeChange l D cy a V nt nc nq nl wk wf y fr) (cwV 2 hts gX8_make_X1_makeChange rfl rfl rfl (by decide +kernel) ⟨Nat.le_of_ble_eq_true rfl, Nat.le_of_ble_eq_true rfl⟩) (fz_preMV (ci := 0) (q0 := 0) hK (fz_seg (P := FW f a t h x ++ HW cy h g (nI cn)) (S := CW cy w V ++ Z) hP) (fz_segD (P := FW f a t h x ++ HW cy h g (nI cn)) (S := CW cy w V ++ Z) hD) rfl rfl rfl fz_Nw_bl (fun U _ hW => fz_Nw_warm hW hE.2.1)) rfl rfl hl.1 rfl (lv_room (Nat.le_of_ble_eq_true rfl)) dX8_make_18 ⟨Nat.le_of_ble_eq_true rfl, Nat.le_of_ble_eq_true rfl⟩) hP hD hS rfl (fun H locs hP hD hS => ?_)
  have hP : va_P D vwCl (FW f a t h x ++ (HW cy h g (nI cn) ++ (CW cy a (fz_make V nc nq wk y fr).2 ++ (CW cy w V ++ Z)))) H := hP
  have hD : va_D A (FW f a t h x ++ (HW cy h g (nI cn) ++ (CW cy a (fz_make V nc nq wk y fr).2 ++ (CW cy w V ++ Z)))) := hD
  refine fz_xretI (P := []) (S := []) (Wc := FW f a t h x ++ (HW cy h g (nI cn) ++ (CW cy a (fz_make V nc nq wk y fr).2 ++ (CW cy w V ++ Z)))) (Wc' := FW f a t h x ++ (HW cy h (hs_g g cn) (nI (hs_n cn)) ++ (CW cy a (fz_make V nc nq wk y fr).2 ++ (CW cy w V ++ Z)))) (WX := FW f a t h x ++ (HW cy h g (nI cn) ++ (CW cy a (fz_make V nc nq wk y fr).2 ++ (CW cy w V ++ Z)))) (vx_runV (As := [.int (fz_make V nc nq wk y fr).1]) (rest := []) ⟨hx, hb, hml, hown, hts⟩ (c_X8_settle l hst D cy f a t h x g cn (CW cy a (fz_make V nc nq wk y fr).2 ++ (CW cy w V ++ Z)) (fz_make V nc nq wk y fr).1 hn (fun k hk => by obtain ⟨x, h1, h2⟩ := hh k hk; exact ⟨x, h1, fz_hd_r (fz_hd_c h2)⟩)) (cwV 1 hts gX8_make_X8_settle rfl rfl rfl (by decide +kernel) ⟨Nat.le_of_ble_eq_true rfl, Nat.le_of_ble_eq_true rfl⟩) (fz_preMV (ci := 6) (q0 := 0) hK hP hD rfl rfl rfl fz_Ev_bl (fun U hU hW => hE.up hU hS hW (fun q h9 => fz_inD hD h9))) rfl rfl hl.1 rfl (lv_room (Nat.le_of_ble_eq_true rfl)) dX8_make_21 ⟨Nat.le_of_ble_eq_true rfl, Nat.le_of_ble_eq_true rfl⟩) (fz_nilP (P := []) hP) (fz_nilD (P := []) hD) hS rfl rfl (fun c_9 H locs q9 ce hP hD hS h7 h8 h9 => ?_) (fun c_9 H locs hP hD hS => ?_)
  · skip
    have hP := fz_nilP' (P := []) hP
    subst hAe
    exact fz_xout ht hlocks c_9 rfl hP hS h7 h8 h9 (Nat.le_of_ble_eq_true rfl) (Nat.le_of_ble_eq_true rfl)
  · skip
    have hP := fz_nilP' (P := []) hP
    refine fz_wd (k := 1) (n := 6) (Nat.le_of_ble_eq_true rfl) (Nat.le_of_ble_eq_true rfl) ?_
    refine vx_ret ?_
    subst hAe
    exact W.iret (v := (fz_make V nc nq wk y fr).1) hx hb hr (fun t9 ht9 hW9 => ⟨⟨_, (), rfl, ⟨rfl, c_9⟩, fz_to ht9 hP⟩, hS.F ht9⟩) hS.2.2 dX8_make_24
set_option maxHeartbeats 4000000 in
set_option maxRecDepth 100000 in
/-- FreezeCredits.giveUp -/
theorem c_X8_giveUp (l : Launch) (hst : l.stackTraces = false) (D : va_G) (cy : Nat → ClassId) (f a t h x : Nat → Nat) (g : Nat → Option Nat) (cn : Nat) (V : Nat → Nat → Int32) (w : Nat → Nat) (N : Nat → Nat → Int32) (Z : va_W) (nt nc nq nl wk : Nat) (wf : fz_wf V nt nc nq nl wk) (hn : cn < 5) (hw : g cn = some (w 0)) (hz : fz_zo (V 2) 40) (hh : ∀ k, k < 5 → ∃ x, g k = some x ∧ fz_hd (CW cy w N ++ Z) x) (y : Int32) : fz_XI l yX8_giveUp wsX8_giveUp 7 103 1 6 D cy [.ref (f 0), .int y] (FW f a t h x ++ (HW cy h g (nI cn) ++ (CW cy a V ++ (CW cy w N ++ Z)))) (fz_Ev (fz_in (FW f a t h x ++ (HW cy h g (nI cn) ++ (CW cy a V ++ (CW cy w N ++ Z)))))) (fz_drop V nc nq y).1 (FW f a t h x ++ (HW cy h (hs_g g cn) (nI (hs_n cn)) ++ (CW cy a (fz_drop V nc nq y).2 ++ (CW cy w V ++ Z)))) (fz_ok (fz_drop V nc nq y).1) (fz_en (fz_drop V nc nq y).1) (FW f a t h x ++ (HW cy h g (nI cn) ++ (CW cy a (fz_drop V nc nq y).2 ++ (CW cy w V ++ Z)))) := by
  refine vx_ofW (cc := cX8_giveUp) (maxL := 2) (ret := (some .int)) (by decide) rfl ?_
  intro p e s m args below meth c s₁ B hml ht hv
  obtain ⟨rfl, hP, hK, hD0, hE⟩ := hv
  have hx := B.exec
  have hb := B.bytes
  have hr := B.returns
  have hts := atoms_spec (ws := wsX8_giveUp) B.pre
  have hown : s.vm.findClass RX8 = some m.cls := findClass_of_methodNamed B.named
  have hlocks := B.notSynchronized
  have hD := fz_self hD0
  obtain ⟨A, hAe⟩ : ∃ A : Nat → Prop, A = fz_in (FW f a t h x ++ (HW cy h g (nI cn) ++ (CW cy a V ++ (CW cy w N ++ Z)))) := ⟨_, rfl⟩
  rw [← hAe] at hD
  have hE : fz_Ev A s := by rw [hAe]; exact hE
  have hS : va_S A s.heap s.heap [] := va_S.rf
  have hl := lv_entry ([.ref (f 0), .int y]) (n := 2) (Nat.le_of_ble_eq_true rfl)
  rw [lg_entry_eq]
  generalize (lg_sl ([.ref (f 0), .int y]) ++ List.replicate (2 - (lg_sl ([.ref (f 0), .int y])).length) Slot.unset).toArray = ls at hl ⊢
  have hl : lv_has ls 2 [(0, .ref (f 0)), (1, .int y)] := hl
  have k_history := hts (.fieldLink RX8 22 "FreezeCredits" "history" "LFreezeCredits$History;") (by decide +kernel)
  have k_now := hts (.fieldLink RX8 12 "FreezeCredits" "now" "LFreezeCredits$Calendar;") (by decide +kernel)
  have inX8 : ∀ w ∈ u_ws RX8 TX8 4, w ∈ wsX8_giveUp := by decide +kernel
  refine lv_aload_n hx hb dX8_giveUp_0 rfl (lv_at hl 0 rfl) ?_
  refine va_get (D := D) (ci := 6) (v := .ref (h 0)) (C := RX8) (T := TX8) (N := 4) hx hb hts inX8 hown hK hP 0 rfl rfl 2 (by decide) k_history (fun _ h9 => h9) rfl dX8_giveUp_1 ?_
  refine lv_aload_n hx hb dX8_giveUp_4 rfl (lv_at hl 0 rfl) ?_
  refine va_get (D := D) (ci := 6) (v := .ref (a 0)) (C := RX8) (T := TX8) (N := 4) hx hb hts inX8 hown hK hP 0 rfl rfl 0 (by decide) k_now (fun _ h9 => h9) rfl dX8_giveUp_5 ?_
  refine fz_sretMV (P := FW f a t h x) (S := Z) (Wc := HW cy h g (nI cn) ++ (CW cy a V ++ CW cy w N)) (Wc' := HW cy h g (nI cn) ++ (CW cy a V ++ CW cy w V)) (va_runV (As := [.ref (a 0)]) (rest := []) ⟨hx, hb, hml, hown, hts⟩ (c_X4_prepare l D cy h g cn a V w N hn hw hz) (cwV 1 hts gX8_giveUp_X4_prepare rfl rfl rfl (by decide +kernel) ⟨Nat.le_of_ble_eq_true rfl, Nat.le_of_ble_eq_true rfl⟩) (fz_preMV (ci := 3) (q0 := 0) hK (fz_seg (P := FW f a t h x) (S := Z) hP) (fz_segD (P := FW f a t h x) (S := Z) hD) rfl rfl rfl fz_T_bl (fun _ _ _ => trivial)) rfl rfl hl.1 rfl (lv_room (Nat.le_of_ble_eq_true rfl)) dX8_giveUp_8 ⟨Nat.le_of_ble_eq_true rfl, Nat.le_of_ble_eq_true rfl⟩) hP hD hS rfl (fun H locs hP hD hS => ?_)
  have hP : va_P D vwCl (FW f a t h x ++ (HW cy h g (nI cn) ++ (CW cy a V ++ (CW cy w V ++ Z)))) H := hP
  have hD : va_D A (FW f a t h x ++ (HW cy h g (nI cn) ++ (CW cy a V ++ (CW cy w V ++ Z)))) := hD
  refine lv_aload_n hx hb dX8_giveUp_11 rfl (lv_at hl 0 rfl) ?_
  refine lv_aload_n hx hb dX8_giveUp_12 rfl (lv_at hl 0 rfl) ?_
  refine va_get (D := D) (ci := 6) (v := .ref (a 0)) (C := RX8) (T := TX8) (N := 4) hx hb hts inX8 hown hK hP 0 rfl rfl 0 (by decide) k_now (fun _ h9 => h9) rfl dX8_giveUp_13 ?_
  refine lv_iload_n hx hb dX8_giveUp_16 rfl (lv_at hl 1 rfl) ?_
  refine fz_sretM (P := FW f a t h x ++ HW cy h g (nI cn)) (S := CW cy w V ++ Z) (Wc := CW cy a V) (Wc' := CW cy a (fz_drop V nc nq y).2) (va_runV (As := [.int y]) (rest := [.ref (f 0)]) ⟨hx, hb, hml, hown, hts⟩ (c_X1_dropChange l D cy a V nt nc nq nl wk wf y) (cwV 1 hts gX8_giveUp_X1_dropChange rfl rfl rfl (by decide +kernel) ⟨Nat.le_of_ble_eq_true rfl, Nat.le_of_ble_eq_true rfl⟩) (fz_preMV (ci := 0) (q0 := 0) hK (fz_seg (P := FW f a t h x ++ HW cy h g (nI cn)) (S := CW cy w V ++ Z) hP) (fz_segD (P := FW f a t h x ++ HW cy h g (nI cn)) (S := CW cy w V ++ Z) hD) rfl rfl rfl fz_T_bl (fun _ _ _ => trivial)) rfl rfl hl.1 rfl (lv_room (Nat.le_of_ble_eq_true rfl)) dX8_giveUp_17 ⟨Nat.le_of_ble_eq_true rfl, Nat.le_of_ble_eq_true rfl⟩) hP hD hS rfl (fun H locs hP hD hS => ?_)
  have hP : va_P D vwCl (FW f a t h x ++ (HW cy h g (nI cn) ++ (CW cy a (fz_drop V nc nq y).2 ++ (CW cy w V ++ Z)))) H := hP
  have hD : va_D A (FW f a t h x ++ (HW cy h g (nI cn) ++ (CW cy a (fz_drop V nc nq y).2 ++ (CW cy w V ++ Z)))) := hD
  refine fz_xretI (P := []) (S := []) (Wc := FW f a t h x ++ (HW cy h g (nI cn) ++ (CW cy a (fz_drop V nc nq y).2 ++ (CW cy w V ++ Z)))) (Wc' := FW f a t h x ++ (HW cy h (hs_g g cn) (nI (hs_n cn)) ++ (CW cy a (fz_drop V nc nq y).2 ++ (CW cy w V ++ Z)))) (WX := FW f a t h x ++ (HW cy h g (nI cn) ++ (CW cy a (fz_drop V nc nq y).2 ++ (CW cy w V ++ Z)))) (vx_runV (As := [.int (fz_drop V nc nq y).1]) (rest := []) ⟨hx, hb, hml, hown, hts⟩ (c_X8_settle l hst D cy f a t h x g cn (CW cy a (fz_drop V nc nq y).2 ++ (CW cy w V ++ Z)) (fz_drop V nc nq y).1 hn (fun k hk => by obtain ⟨x, h1, h2⟩ := hh k hk; exact ⟨x, h1, fz_hd_r (fz_hd_c h2)⟩)) (cwV 1 hts gX8_giveUp_X8_settle rfl rfl rfl (by decide +kernel) ⟨Nat.le_of_ble_eq_true rfl, Nat.le_of_ble_eq_true rfl⟩) (fz_preMV (ci := 6) (q0 := 0) hK hP hD rfl rfl rfl fz_Ev_bl (fun U hU hW => hE.up hU hS hW (fun q h9 => fz_inD hD h9))) rfl rfl hl.1 rfl (lv_room (Nat.le_of_ble_eq_true rfl)) dX8_giveUp_20 ⟨Nat.le_of_ble_eq_true rfl, Nat.le_of_ble_eq_true rfl⟩) (fz_nilP (P := []) hP) (fz_nilD (P := []) hD) hS rfl rfl (fun c_9 H locs q9 ce hP hD hS h7 h8 h9 => ?_) (fun c_9 H locs hP hD hS => ?_)
  · skip
    have hP := fz_nilP' (P := []) hP
    subst hAe
    exact fz_xout ht hlocks c_9 rfl hP hS h7 h8 h9 (Nat.le_of_ble_eq_true rfl) (Nat.le_of_ble_eq_true rfl)
  · skip
    have hP := fz_nilP' (P := []) hP
    refine fz_wd (k := 1) (n := 6) (Nat.le_of_ble_eq_true rfl) (Nat.le_of_ble_eq_true rfl) ?_
    refine vx_ret ?_
    subst hAe
    exact W.iret (v := (fz_drop V nc nq y).1) hx hb hr (fun t9 ht9 hW9 => ⟨⟨_, (), rfl, ⟨rfl, c_9⟩, fz_to ht9 hP⟩, hS.F ht9⟩) hS.2.2 dX8_giveUp_23
set_option maxHeartbeats 4000000 in
set_option maxRecDepth 100000 in
/-- FreezeCredits.lend -/
theorem c_X8_lend (l : Launch) (hst : l.stackTraces = false) (D : va_G) (cy : Nat → ClassId) (f a t h x : Nat → Nat) (g : Nat → Option Nat) (cn : Nat) (V : Nat → Nat → Int32) (w : Nat → Nat) (N : Nat → Nat → Int32) (Z : va_W) (nt nc nq nl wk : Nat) (wf : fz_wf V nt nc nq nl wk) (hn : cn < 5) (hw : g cn = some (w 0)) (hz : fz_zo (V 2) 40) (hh : ∀ k, k < 5 → ∃ x, g k = some x ∧ fz_hd (CW cy w N ++ Z) x) (y z u v : Int32) : fz_XI l yX8_lend wsX8_lend 7 103 1 6 D cy [.ref (f 0), .int y, .int z, .int u, .int v] (FW f a t h x ++ (HW cy h g (nI cn) ++ (CW cy a V ++ (CW cy w N ++ Z)))) (fz_Ev (fz_in (FW f a t h x ++ (HW cy h g (nI cn) ++ (CW cy a V ++ (CW cy w N ++ Z)))))) (fz_lend V nt nl y z u v).1 (FW f a t h x ++ (HW cy h (hs_g g cn) (nI (hs_n cn)) ++ (CW cy a (fz_lend V nt nl y z u v).2 ++ (CW cy w V ++ Z)))) (fz_ok (fz_lend V nt nl y z u v).1) (fz_en (fz_lend V nt nl y z u v).1) (FW f a t h x ++ (HW cy h g (nI cn) ++ (CW cy a (fz_lend V nt nl y z u v).2 ++ (CW cy w V ++ Z)))) := by
  refine vx_ofW (cc := cX8_lend) (maxL := 5) (ret := (some .int)) (by decide) rfl ?_
  intro p e s m args below meth c s₁ B hml ht hv
  obtain ⟨rfl, hP, hK, hD0, hE⟩ := hv
  have hx := B.exec
  have hb := B.bytes
  have hr := B.returns
  have hts := atoms_spec (ws := wsX8_lend) B.pre
  have hown : s.vm.findClass RX8 = some m.cls := findClass_of_methodNamed B.named
  have hlocks := B.notSynchronized
  have hD := fz_self hD0
  obtain ⟨A, hAe⟩ : ∃ A : Nat → Prop, A = fz_in (FW f a t h x ++ (HW cy h g (nI cn) ++ (CW cy a V ++ (CW cy w N ++ Z)))) := ⟨_, rfl⟩
  rw [← hAe] at hD
  have hE : fz_Ev A s := by rw [hAe]; exact hE
  have hS : va_S A s.heap s.heap [] := va_S.rf
  have hl := lv_entry ([.ref (f 0), .int y, .int z, .int u, .int v]) (n := 5) (Nat.le_of_ble_eq_true rfl)
  rw [lg_entry_eq]
  generalize (lg_sl ([.ref (f 0), .int y, .int z, .int u, .int v]) ++ List.replicate (5 - (lg_sl ([.ref (f 0), .int y, .int z, .int u, .int v])).length) Slot.unset).toArray = ls at hl ⊢
  have hl : lv_has ls 5 [(0, .ref (f 0)), (1, .int y), (2, .int z), (3, .int u), (4, .int v)] := hl
  have k_history := hts (.fieldLink RX8 22 "FreezeCredits" "history" "LFreezeCredits$History;") (by decide +kernel)
  have k_now := hts (.fieldLink RX8 12 "FreezeCredits" "now" "LFreezeCredits$Calendar;") (by decide +kernel)
  have inX8 : ∀ w ∈ u_ws RX8 TX8 4, w ∈ wsX8_lend := by decide +kernel
  refine lv_aload_n hx hb dX8_lend_0 rfl (lv_at hl 0 rfl) ?_
  refine va_get (D := D) (ci := 6) (v := .ref (h 0)) (C := RX8) (T := TX8) (N := 4) hx hb hts inX8 hown hK hP 0 rfl rfl 2 (by decide) k_history (fun _ h9 => h9) rfl dX8_lend_1 ?_
  refine lv_aload_n hx hb dX8_lend_4 rfl (lv_at hl 0 rfl) ?_
  refine va_get (D := D) (ci := 6) (v := .ref (a 0)) (C := RX8) (T := TX8) (N := 4) hx hb hts inX8 hown hK hP 0 rfl rfl 0 (by decide) k_now (fun _ h9 => h9) rfl dX8_lend_5 ?_
  refine fz_sretMV (P := FW f a t h x) (S := Z) (Wc := HW cy h g (nI cn) ++ (CW cy a V ++ CW cy w N)) (Wc' := HW cy h g (nI cn) ++ (CW cy a V ++ CW cy w V)) (va_runV (As := [.ref (a 0)]) (rest := []) ⟨hx, hb, hml, hown, hts⟩ (c_X4_prepare l D cy h g cn a V w N hn hw hz) (cwV 1 hts gX8_lend_X4_prepare rfl rfl rfl (by decide +kernel) ⟨Nat.le_of_ble_eq_true rfl, Nat.le_of_ble_eq_true rfl⟩) (fz_preMV (ci := 3) (q0 := 0) hK (fz_seg (P := FW f a t h x) (S := Z) hP) (fz_segD (P := FW f a t h x) (S := Z) hD) rfl rfl rfl fz_T_bl (fun _ _ _ => trivial)) rfl rfl hl.1 rfl (lv_room (Nat.le_of_ble_eq_true rfl)) dX8_lend_8 ⟨Nat.le_of_ble_eq_true rfl, Nat.le_of_ble_eq_true rfl⟩) hP hD hS rfl (fun H locs hP hD hS => ?_)
  have hP : va_P D vwCl (FW f a t h x ++ (HW cy h g (nI cn) ++ (CW cy a V ++ (CW cy w V ++ Z)))) H := hP
  have hD : va_D A (FW f a t h x ++ (HW cy h g (nI cn) ++ (CW cy a V ++ (CW cy w V ++ Z)))) := hD
  refine lv_aload_n hx hb dX8_lend_11 rfl (lv_at hl 0 rfl) ?_
  refine lv_aload_n hx hb dX8_lend_12 rfl (lv_at hl 0 rfl) ?_
  refine va_get (D := D) (ci := 6) (v := .ref (a 0)) (C := RX8) (T := TX8) (N := 4) hx hb hts inX8 hown hK hP 0 rfl rfl 0 (by decide) k_now (fun _ h9 => h9) rfl dX8_lend_13 ?_
  refine lv_iload_n hx hb dX8_lend_16 rfl (lv_at hl 1 rfl) ?_
  refine lv_iload_n hx hb dX8_lend_17 rfl (lv_at hl 2 rfl) ?_
  refine lv_iload_n hx hb dX8_lend_18 rfl (lv_at hl 3 rfl) ?_
  refine lv_iload hx hb dX8_lend_19 (lv_at hl 4 rfl) ?_
  refine fz_sretM (P := FW f a t h x ++ HW cy h g (nI cn)) (S := CW cy w V ++ Z) (Wc := CW cy a V) (Wc' := CW cy a (fz_lend V nt nl y z u v).2) (va_runV (As := [.int y, .int z, .int u, .int v]) (rest := [.ref (f 0)]) ⟨hx, hb, hml, hown, hts⟩ (c_X1_lendCredits l D cy a V nt nc nq nl wk wf y z u v) (cwV 4 hts gX8_lend_X1_lendCredits rfl rfl rfl (by decide +kernel) ⟨Nat.le_of_ble_eq_true rfl, Nat.le_of_ble_eq_true rfl⟩) (fz_preMV (ci := 0) (q0 := 0) hK (fz_seg (P := FW f a t h x ++ HW cy h g (nI cn)) (S := CW cy w V ++ Z) hP) (fz_segD (P := FW f a t h x ++ HW cy h g (nI cn)) (S := CW cy w V ++ Z) hD) rfl rfl rfl fz_T_bl (fun _ _ _ => trivial)) rfl rfl hl.1 rfl (lv_room (Nat.le_of_ble_eq_true rfl)) dX8_lend_21 ⟨Nat.le_of_ble_eq_true rfl, Nat.le_of_ble_eq_true rfl⟩) hP hD hS rfl (fun H locs hP hD hS => ?_)
  have hP : va_P D vwCl (FW f a t h x ++ (HW cy h g (nI cn) ++ (CW cy a (fz_lend V nt nl y z u v).2 ++ (CW cy w V ++ Z)))) H := hP
  have hD : va_D A (FW f a t h x ++ (HW cy h g (nI cn) ++ (CW cy a (fz_lend V nt nl y z u v).2 ++ (CW cy w V ++ Z)))) := hD
  refine fz_xretI (P := []) (S := []) (Wc := FW f a t h x ++ (HW cy h g (nI cn) ++ (CW cy a (fz_lend V nt nl y z u v).2 ++ (CW cy w V ++ Z)))) (Wc' := FW f a t h x ++ (HW cy h (hs_g g cn) (nI (hs_n cn)) ++ (CW cy a (fz_lend V nt nl y z u v).2 ++ (CW cy w V ++ Z)))) (WX := FW f a t h x ++ (HW cy h g (nI cn) ++ (CW cy a (fz_lend V nt nl y z u v).2 ++ (CW cy w V ++ Z)))) (vx_runV (As := [.int (fz_lend V nt nl y z u v).1]) (rest := []) ⟨hx, hb, hml, hown, hts⟩ (c_X8_settle l hst D cy f a t h x g cn (CW cy a (fz_lend V nt nl y z u v).2 ++ (CW cy w V ++ Z)) (fz_lend V nt nl y z u v).1 hn (fun k hk => by obtain ⟨x, h1, h2⟩ := hh k hk; exact ⟨x, h1, fz_hd_r (fz_hd_c h2)⟩)) (cwV 1 hts gX8_lend_X8_settle rfl rfl rfl (by decide +kernel) ⟨Nat.le_of_ble_eq_true rfl, Nat.le_of_ble_eq_true rfl⟩) (fz_preMV (ci := 6) (q0 := 0) hK hP hD rfl rfl rfl fz_Ev_bl (fun U hU hW => hE.up hU hS hW (fun q h9 => fz_inD hD h9))) rfl rfl hl.1 rfl (lv_room (Nat.le_of_ble_eq_true rfl)) dX8_lend_24 ⟨Nat.le_of_ble_eq_true rfl, Nat.le_of_ble_eq_true rfl⟩) (fz_nilP (P := []) hP) (fz_nilD (P := []) hD) hS rfl rfl (fun c_9 H locs q9 ce hP hD hS h7 h8 h9 => ?_) (fun c_9 H locs hP hD hS => ?_)
  · skip
    have hP := fz_nilP' (P := []) hP
    subst hAe
    exact fz_xout ht hlocks c_9 rfl hP hS h7 h8 h9 (Nat.le_of_ble_eq_true rfl) (Nat.le_of_ble_eq_true rfl)
  · skip
    have hP := fz_nilP' (P := []) hP
    refine fz_wd (k := 1) (n := 6) (Nat.le_of_ble_eq_true rfl) (Nat.le_of_ble_eq_true rfl) ?_
    refine vx_ret ?_
    subst hAe
    exact W.iret (v := (fz_lend V nt nl y z u v).1) hx hb hr (fun t9 ht9 hW9 => ⟨⟨_, (), rfl, ⟨rfl, c_9⟩, fz_to ht9 hP⟩, hS.F ht9⟩) hS.2.2 dX8_lend_27
set_option maxHeartbeats 4000000 in
set_option maxRecDepth 100000 in
/-- FreezeCredits.repay -/
theorem c_X8_repay (l : Launch) (hst : l.stackTraces = false) (D : va_G) (cy : Nat → ClassId) (f a t h x : Nat → Nat) (g : Nat → Option Nat) (cn : Nat) (V : Nat → Nat → Int32) (w : Nat → Nat) (N : Nat → Nat → Int32) (Z : va_W) (nt nc nq nl wk : Nat) (wf : fz_wf V nt nc nq nl wk) (hn : cn < 5) (hw : g cn = some (w 0)) (hz : fz_zo (V 2) 40) (hh : ∀ k, k < 5 → ∃ x, g k = some x ∧ fz_hd (CW cy w N ++ Z) x) (y z : Int32) : fz_XI l yX8_repay wsX8_repay 7 103 1 6 D cy [.ref (f 0), .int y, .int z] (FW f a t h x ++ (HW cy h g (nI cn) ++ (CW cy a V ++ (CW cy w N ++ Z)))) (fz_Ev (fz_in (FW f a t h x ++ (HW cy h g (nI cn) ++ (CW cy a V ++ (CW cy w N ++ Z)))))) (fz_repay V nl y z).1 (FW f a t h x ++ (HW cy h (hs_g g cn) (nI (hs_n cn)) ++ (CW cy a (fz_repay V nl y z).2 ++ (CW cy w V ++ Z)))) (fz_ok (fz_repay V nl y z).1) (fz_en (fz_repay V nl y z).1) (FW f a t h x ++ (HW cy h g (nI cn) ++ (CW cy a (fz_repay V nl y z).2 ++ (CW cy w V ++ Z)))) := by
  refine vx_ofW (cc := cX8_repay) (maxL := 3) (ret := (some .int)) (by decide) rfl ?_
  intro p e s m args below meth c s₁ B hml ht hv
  obtain ⟨rfl, hP, hK, hD0, hE⟩ := hv
  have hx := B.exec
  have hb := B.bytes
  have hr := B.returns
  have hts := atoms_spec (ws := wsX8_repay) B.pre
  have hown : s.vm.findClass RX8 = some m.cls := findClass_of_methodNamed B.named
  have hlocks := B.notSynchronized
  have hD := fz_self hD0
  obtain ⟨A, hAe⟩ : ∃ A : Nat → Prop, A = fz_in (FW f a t h x ++ (HW cy h g (nI cn) ++ (CW cy a V ++ (CW cy w N ++ Z)))) := ⟨_, rfl⟩
  rw [← hAe] at hD
  have hE : fz_Ev A s := by rw [hAe]; exact hE
  have hS : va_S A s.heap s.heap [] := va_S.rf
  have hl := lv_entry ([.ref (f 0), .int y, .int z]) (n := 3) (Nat.le_of_ble_eq_true rfl)
  rw [lg_entry_eq]
  generalize (lg_sl ([.ref (f 0), .int y, .int z]) ++ List.replicate (3 - (lg_sl ([.ref (f 0), .int y, .int z])).length) Slot.unset).toArray = ls at hl ⊢
  have hl : lv_has ls 3 [(0, .ref (f 0)), (1, .int y), (2, .int z)] := hl
  have k_history := hts (.fieldLink RX8 22 "FreezeCredits" "history" "LFreezeCredits$History;") (by decide +kernel)
  have k_now := hts (.fieldLink RX8 12 "FreezeCredits" "now" "LFreezeCredits$Calendar;") (by decide +kernel)
  have inX8 : ∀ w ∈ u_ws RX8 TX8 4, w ∈ wsX8_repay := by decide +kernel
  refine lv_aload_n hx hb dX8_repay_0 rfl (lv_at hl 0 rfl) ?_
  refine va_get (D := D) (ci := 6) (v := .ref (h 0)) (C := RX8) (T := TX8) (N := 4) hx hb hts inX8 hown hK hP 0 rfl rfl 2 (by decide) k_history (fun _ h9 => h9) rfl dX8_repay_1 ?_
  refine lv_aload_n hx hb dX8_repay_4 rfl (lv_at hl 0 rfl) ?_
  refine va_get (D := D) (ci := 6) (v := .ref (a 0)) (C := RX8) (T := TX8) (N := 4) hx hb hts inX8 hown hK hP 0 rfl rfl 0 (by decide) k_now (fun _ h9 => h9) rfl dX8_repay_5 ?_
  refine fz_sretMV (P := FW f a t h x) (S := Z) (Wc := HW cy h g (nI cn) ++ (CW cy a V ++ CW cy w N)) (Wc' := HW cy h g (nI cn) ++ (CW cy a V ++ CW cy w V)) (va_runV (As := [.ref (a 0)]) (rest := []) ⟨hx, hb, hml, hown, hts⟩ (c_X4_prepare l D cy h g cn a V w N hn hw hz) (cwV 1 hts gX8_repay_X4_prepare rfl rfl rfl (by decide +kernel) ⟨Nat.le_of_ble_eq_true rfl, Nat.le_of_ble_eq_true rfl⟩) (fz_preMV (ci := 3) (q0 := 0) hK (fz_seg (P := FW f a t h x) (S := Z) hP) (fz_segD (P := FW f a t h x) (S := Z) hD) rfl rfl rfl fz_T_bl (fun _ _ _ => trivial)) rfl rfl hl.1 rfl (lv_room (Nat.le_of_ble_eq_true rfl)) dX8_repay_8 ⟨Nat.le_of_ble_eq_true rfl, Nat.le_of_ble_eq_true rfl⟩) hP hD hS rfl (fun H locs hP hD hS => ?_)
  have hP : va_P D vwCl (FW f a t h x ++ (HW cy h g (nI cn) ++ (CW cy a V ++ (CW cy w V ++ Z)))) H := hP
  have hD : va_D A (FW f a t h x ++ (HW cy h g (nI cn) ++ (CW cy a V ++ (CW cy w V ++ Z)))) := hD
  refine lv_aload_n hx hb dX8_repay_11 rfl (lv_at hl 0 rfl) ?_
  refine lv_aload_n hx hb dX8_repay_12 rfl (lv_at hl 0 rfl) ?_
  refine va_get (D := D) (ci := 6) (v := .ref (a 0)) (C := RX8) (T := TX8) (N := 4) hx hb hts inX8 hown hK hP 0 rfl rfl 0 (by decide) k_now (fun _ h9 => h9) rfl dX8_repay_13 ?_
  refine lv_iload_n hx hb dX8_repay_16 rfl (lv_at hl 1 rfl) ?_
  refine lv_iload_n hx hb dX8_repay_17 rfl (lv_at hl 2 rfl) ?_
  refine fz_sretM (P := FW f a t h x ++ HW cy h g (nI cn)) (S := CW cy w V ++ Z) (Wc := CW cy a V) (Wc' := CW cy a (fz_repay V nl y z).2) (va_runV (As := [.int y, .int z]) (rest := [.ref (f 0)]) ⟨hx, hb, hml, hown, hts⟩ (c_X1_repayLoan l D cy a V nt nc nq nl wk wf y z) (cwV 2 hts gX8_repay_X1_repayLoan rfl rfl rfl (by decide +kernel) ⟨Nat.le_of_ble_eq_true rfl, Nat.le_of_ble_eq_true rfl⟩) (fz_preMV (ci := 0) (q0 := 0) hK (fz_seg (P := FW f a t h x ++ HW cy h g (nI cn)) (S := CW cy w V ++ Z) hP) (fz_segD (P := FW f a t h x ++ HW cy h g (nI cn)) (S := CW cy w V ++ Z) hD) rfl rfl rfl fz_T_bl (fun _ _ _ => trivial)) rfl rfl hl.1 rfl (lv_room (Nat.le_of_ble_eq_true rfl)) dX8_repay_18 ⟨Nat.le_of_ble_eq_true rfl, Nat.le_of_ble_eq_true rfl⟩) hP hD hS rfl (fun H locs hP hD hS => ?_)
  have hP : va_P D vwCl (FW f a t h x ++ (HW cy h g (nI cn) ++ (CW cy a (fz_repay V nl y z).2 ++ (CW cy w V ++ Z)))) H := hP
  have hD : va_D A (FW f a t h x ++ (HW cy h g (nI cn) ++ (CW cy a (fz_repay V nl y z).2 ++ (CW cy w V ++ Z)))) := hD
  refine fz_xretI (P := []) (S := []) (Wc := FW f a t h x ++ (HW cy h g (nI cn) ++ (CW cy a (fz_repay V nl y z).2 ++ (CW cy w V ++ Z)))) (Wc' := FW f a t h x ++ (HW cy h (hs_g g cn) (nI (hs_n cn)) ++ (CW cy a (fz_repay V nl y z).2 ++ (CW cy w V ++ Z)))) (WX := FW f a t h x ++ (HW cy h g (nI cn) ++ (CW cy a (fz_repay V nl y z).2 ++ (CW cy w V ++ Z)))) (vx_runV (As := [.int (fz_repay V nl y z).1]) (rest := []) ⟨hx, hb, hml, hown, hts⟩ (c_X8_settle l hst D cy f a t h x g cn (CW cy a (fz_repay V nl y z).2 ++ (CW cy w V ++ Z)) (fz_repay V nl y z).1 hn (fun k hk => by obtain ⟨x, h1, h2⟩ := hh k hk; exact ⟨x, h1, fz_hd_r (fz_hd_c h2)⟩)) (cwV 1 hts gX8_repay_X8_settle rfl rfl rfl (by decide +kernel) ⟨Nat.le_of_ble_eq_true rfl, Nat.le_of_ble_eq_true rfl⟩) (fz_preMV (ci := 6) (q0 := 0) hK hP hD rfl rfl rfl fz_Ev_bl (fun U hU hW => hE.up hU hS hW (fun q h9 => fz_inD hD h9))) rfl rfl hl.1 rfl (lv_room (Nat.le_of_ble_eq_true rfl)) dX8_repay_21 ⟨Nat.le_of_ble_eq_true rfl, Nat.le_of_ble_eq_true rfl⟩) (fz_nilP (P := []) hP) (fz_nilD (P := []) hD) hS rfl rfl (fun c_9 H locs q9 ce hP hD hS h7 h8 h9 => ?_) (fun c_9 H locs hP hD hS => ?_)
  · skip
    have hP := fz_nilP' (P := []) hP
    subst hAe
    exact fz_xout ht hlocks c_9 rfl hP hS h7 h8 h9 (Nat.le_of_ble_eq_true rfl) (Nat.le_of_ble_eq_true rfl)
  · skip
    have hP := fz_nilP' (P := []) hP
    refine fz_wd (k := 1) (n := 6) (Nat.le_of_ble_eq_true rfl) (Nat.le_of_ble_eq_true rfl) ?_
    refine vx_ret ?_
    subst hAe
    exact W.iret (v := (fz_repay V nl y z).1) hx hb hr (fun t9 ht9 hW9 => ⟨⟨_, (), rfl, ⟨rfl, c_9⟩, fz_to ht9 hP⟩, hS.F ht9⟩) hS.2.2 dX8_repay_24
