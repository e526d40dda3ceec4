/-! the class's own methods -/
section FZW
variable {p : Program} {l : Launch} {e : Env} {R : Room} {s : State} {m : MethodId} {args : Array Value} {below : List Frame} {meth : Method} {c : Code} {H : Heap} {locs : List Loc} {cells slots : Nat} {Q : State → Prop}
theorem fz_wd {g : JFrame} {k n : Nat} (h1 : cells ≤ k) (h2 : slots ≤ n) (kk : W p l e R s m args below meth c H locs k n Q g) : W p l e R s m args below meth c H locs cells slots Q g := fun T hT X => kk T hT (stand_widen X h1 h2)
end FZW
set_option maxHeartbeats 4000000 in
set_option maxRecDepth 100000 in
/-- FreezeCredits.needTeam -/
theorem c_X8_needTeam (l : Launch) (hst : l.stackTraces = false) (D : va_G) (cy : Nat → ClassId) (f t h x : Nat → Nat) (a : Nat → Nat) (V : Nat → Nat → Int32) (y : Int32) (nt : Nat) (hnt : V 3 0 = nI nt) (hnt6 : nt ≤ 6) : fz_XV l yX8_needTeam wsX8_needTeam 6 82 1 6 D cy [.ref (f 0), .int y] ((FW f a t h x) ++ (CW cy a V)) (fz_Xc (fz_in ((FW f a t h x) ++ (CW cy a V)))) ((FW f a t h x) ++ (CW cy a V)) (fz_ix y (V 3 0)) xIO ((FW f a t h x) ++ (CW cy a V)) := by
  refine vx_ofW (cc := cX8_needTeam) (maxL := 2) (ret := none) (by decide) rfl ?_
  intro p e s m args below meth c s₁ B hml ht hv
  obtain ⟨rfl, hP, hK, hD0, hE⟩ := hv
  have hx := B.exec
  have hb := B.bytes
  have hr := B.returns
  have hts := atoms_spec (ws := wsX8_needTeam) B.pre
  have hown : s.vm.findClass RX8 = some m.cls := findClass_of_methodNamed B.named
  have hlocks := B.notSynchronized
  have hD := fz_self hD0
  obtain ⟨A, hAe⟩ : ∃ A : Nat → Prop, A = fz_in ((FW f a t h x) ++ (CW cy a V)) := ⟨_, rfl⟩
  rw [← hAe] at hD
  have hS : va_S A s.heap s.heap [] := va_S.rf
  have hl := lv_entry ([.ref (f 0), .int y]) (n := 2) (Nat.le_of_ble_eq_true rfl)
  rw [lg_entry_eq]
  generalize (lg_sl ([.ref (f 0), .int y]) ++ List.replicate (2 - (lg_sl ([.ref (f 0), .int y])).length) Slot.unset).toArray = ls at hl ⊢
  have hl : lv_has ls 2 [(0, .ref (f 0)), (1, .int y)] := hl
  have k_12 := hts (.fieldLink RX8 12 "FreezeCredits" "now" "LFreezeCredits$Calendar;") (by decide +kernel)
  have inX8 : ∀ w ∈ u_ws RX8 TX8 4, w ∈ wsX8_needTeam := by decide +kernel
  have k_161 := hts (.fieldLink RX8 161 "FreezeCredits$Calendar" "teams" "LFreezeCredits$Teams;") (by decide +kernel)
  have inX1 : ∀ w ∈ u_ws RX1 TX1 6, w ∈ wsX8_needTeam := by decide +kernel
  refine lv_aload_n hx hb dX8_needTeam_0 rfl (lv_at hl 0 rfl) ?_
  refine va_get (D := D) (ci := 6) (v := .ref (a 0)) (C := RX8) (T := TX8) (N := 4) hx hb hts inX8 hown hK hP 0 rfl rfl 0 (by decide) k_12 (fun _ h9 => h9) rfl dX8_needTeam_1 ?_
  refine va_get (D := D) (ci := 0) (v := .ref (a 3)) (C := RX1) (T := TX1) (N := 6) hx hb hts inX1 hown hK hP 1 rfl rfl 3 (by decide) k_161 (fun _ h9 => h9) rfl dX8_needTeam_4 ?_
  refine lv_iload_n hx hb dX8_needTeam_7 rfl (lv_at hl 1 rfl) ?_
  refine fz_retR (va_runV (As := [.int y]) (rest := []) ⟨hx, hb, hml, hown, hts⟩ (c_X6_has l D cy a V y) (cwV 1 hts gX8_needTeam_X6_has rfl rfl rfl (by decide +kernel) ⟨Nat.le_of_ble_eq_true rfl, Nat.le_of_ble_eq_true rfl⟩) (fz_preV (ci := 5) (q0 := 0) hK (hP.sub (ws' := TW cy a V) [4, 5, 6, 7, 8] rfl) rfl rfl rfl fz_T_bl (fun _ _ _ => trivial)) rfl rfl hl.1 rfl (lv_room (Nat.le_of_ble_eq_true rfl)) dX8_needTeam_8 ⟨Nat.zero_le _, Nat.zero_le _⟩) ?_
  refine fz_ifneB (tgt := 24) hx hb dX8_needTeam_11 (by decide) (fun c_1 => ?_) (fun c_1 => ?_)
  · skip
    refine fz_wd (k := 1) (n := 6) (Nat.le_of_ble_eq_true rfl) (Nat.le_of_ble_eq_true rfl) ?_
    refine vx_ret ?_
    subst hAe
    exact W.vret hx hb hr (fun t9 ht9 hW9 => ⟨⟨(), rfl, (by simp [c_1]), fz_to ht9 hP⟩, hS.F ht9⟩) hS.2.2 dX8_needTeam_24
  · skip
    subst hAe
    exact fz_throw (text := "there is no such team") (cls := xIO) (ik := 109) (is := 241) (ic := 113) hx hb hst (hl.1.trans hml.symm) ht hlocks hown hts hE (by decide +kernel) (by decide +kernel) (by decide +kernel) (by decide +kernel) (by decide +kernel) (by decide +kernel) (by decide +kernel) (by simp [c_1]) hP hS dX8_needTeam_14 dX8_needTeam_17 dX8_needTeam_18 dX8_needTeam_20 dX8_needTeam_23 (Nat.le_of_ble_eq_true rfl) (Nat.le_of_ble_eq_true rfl) (Nat.le_of_ble_eq_true rfl) (Nat.le_of_ble_eq_true rfl) (Nat.le_of_ble_eq_true rfl) (Nat.le_of_ble_eq_true rfl)
set_option maxHeartbeats 4000000 in
set_option maxRecDepth 100000 in
/-- FreezeCredits.needChange -/
theorem c_X8_needChange (l : Launch) (hst : l.stackTraces = false) (D : va_G) (cy : Nat → ClassId) (f t h x : Nat → Nat) (a : Nat → Nat) (V : Nat → Nat → Int32) (y : Int32) : fz_XV l yX8_needChange wsX8_needChange 6 82 1 6 D cy [.ref (f 0), .int y] ((FW f a t h x) ++ (CW cy a V)) (fz_Xc (fz_in ((FW f a t h x) ++ (CW cy a V)))) ((FW f a t h x) ++ (CW cy a V)) (fz_ix y (V 8 0)) xIO ((FW f a t h x) ++ (CW cy a V)) := by
  refine vx_ofW (cc := cX8_needChange) (maxL := 2) (ret := none) (by decide) rfl ?_
  intro p e s m args below meth c s₁ B hml ht hv
  obtain ⟨rfl, hP, hK, hD0, hE⟩ := hv
  have hx := B.exec
  have hb := B.bytes
  have hr := B.returns
  have hts := atoms_spec (ws := wsX8_needChange) B.pre
  have hown : s.vm.findClass RX8 = some m.cls := findClass_of_methodNamed B.named
  have hlocks := B.notSynchronized
  have hD := fz_self hD0
  obtain ⟨A, hAe⟩ : ∃ A : Nat → Prop, A = fz_in ((FW f a t h x) ++ (CW cy a V)) := ⟨_, rfl⟩
  rw [← hAe] at hD
  have hS : va_S A s.heap s.heap [] := va_S.rf
  have hl := lv_entry ([.ref (f 0), .int y]) (n := 2) (Nat.le_of_ble_eq_true rfl)
  rw [lg_entry_eq]
  generalize (lg_sl ([.ref (f 0), .int y]) ++ List.replicate (2 - (lg_sl ([.ref (f 0), .int y])).length) Slot.unset).toArray = ls at hl ⊢
  have hl : lv_has ls 2 [(0, .ref (f 0)), (1, .int y)] := hl
  have k_12 := hts (.fieldLink RX8 12 "FreezeCredits" "now" "LFreezeCredits$Calendar;") (by decide +kernel)
  have inX8 : ∀ w ∈ u_ws RX8 TX8 4, w ∈ wsX8_needChange := by decide +kernel
  have k_90 := hts (.fieldLink RX8 90 "FreezeCredits$Calendar" "changes" "LFreezeCredits$Changes;") (by decide +kernel)
  have inX1 : ∀ w ∈ u_ws RX1 TX1 6, w ∈ wsX8_needChange := by decide +kernel
  refine lv_aload_n hx hb dX8_needChange_0 rfl (lv_at hl 0 rfl) ?_
  refine va_get (D := D) (ci := 6) (v := .ref (a 0)) (C := RX8) (T := TX8) (N := 4) hx hb hts inX8 hown hK hP 0 rfl rfl 0 (by decide) k_12 (fun _ h9 => h9) rfl dX8_needChange_1 ?_
  refine va_get (D := D) (ci := 0) (v := .ref (a 8)) (C := RX1) (T := TX1) (N := 6) hx hb hts inX1 hown hK hP 1 rfl rfl 4 (by decide) k_90 (fun _ h9 => h9) rfl dX8_needChange_4 ?_
  refine lv_iload_n hx hb dX8_needChange_7 rfl (lv_at hl 1 rfl) ?_
  refine fz_retR (va_runV (As := [.int y]) (rest := []) ⟨hx, hb, hml, hown, hts⟩ (c_X2_has l D cy a V y) (cwV 1 hts gX8_needChange_X2_has rfl rfl rfl (by decide +kernel) ⟨Nat.le_of_ble_eq_true rfl, Nat.le_of_ble_eq_true rfl⟩) (fz_preV (ci := 1) (q0 := 0) hK (hP.sub (ws' := GW cy a V) [9, 10, 11, 12, 13, 14, 15, 16, 17] rfl) rfl rfl rfl fz_T_bl (fun _ _ _ => trivial)) rfl rfl hl.1 rfl (lv_room (Nat.le_of_ble_eq_true rfl)) dX8_needChange_8 ⟨Nat.zero_le _, Nat.zero_le _⟩) ?_
  refine fz_ifneB (tgt := 24) hx hb dX8_needChange_11 (by decide) (fun c_1 => ?_) (fun c_1 => ?_)
  · skip
    refine fz_wd (k := 1) (n := 6) (Nat.le_of_ble_eq_true rfl) (Nat.le_of_ble_eq_true rfl) ?_
    refine vx_ret ?_
    subst hAe
    exact W.vret hx hb hr (fun t9 ht9 hW9 => ⟨⟨(), rfl, (by simp [c_1]), fz_to ht9 hP⟩, hS.F ht9⟩) hS.2.2 dX8_needChange_24
  · skip
    subst hAe
    exact fz_throw (text := "there is no such change") (cls := xIO) (ik := 109) (is := 244) (ic := 113) hx hb hst (hl.1.trans hml.symm) ht hlocks hown hts hE (by decide +kernel) (by decide +kernel) (by decide +kernel) (by decide +kernel) (by decide +kernel) (by decide +kernel) (by decide +kernel) (by simp [c_1]) hP hS dX8_needChange_14 dX8_needChange_17 dX8_needChange_18 dX8_needChange_20 dX8_needChange_23 (Nat.le_of_ble_eq_true rfl) (Nat.le_of_ble_eq_true rfl) (Nat.le_of_ble_eq_true rfl) (Nat.le_of_ble_eq_true rfl) (Nat.le_of_ble_eq_true rfl) (Nat.le_of_ble_eq_true rfl)
set_option maxHeartbeats 4000000 in
set_option maxRecDepth 100000 in
/-- FreezeCredits.needRisk -/
theorem c_X8_needRisk (l : Launch) (hst : l.stackTraces = false) (D : va_G) (cy : Nat → ClassId) (f t h x : Nat → Nat) (a : Nat → Nat) (V : Nat → Nat → Int32) (y : Int32) : fz_XV l yX8_needRisk wsX8_needRisk 6 82 1 6 D cy [.ref (f 0), .int y] ((FW f a t h x) ++ (CW cy a V)) (fz_Xc (fz_in ((FW f a t h x) ++ (CW cy a V)))) ((FW f a t h x) ++ (CW cy a V)) (fz_risk y) xIA ((FW f a t h x) ++ (CW cy a V)) := by
  refine vx_ofW (cc := cX8_needRisk) (maxL := 2) (ret := none) (by decide) rfl ?_
  intro p e s m args below meth c s₁ B hml ht hv
  obtain ⟨rfl, hP, hK, hD0, hE⟩ := hv
  have hx := B.exec
  have hb := B.bytes
  have hr := B.returns
  have hts := atoms_spec (ws := wsX8_needRisk) B.pre
  have hown : s.vm.findClass RX8 = some m.cls := findClass_of_methodNamed B.named
  have hlocks := B.notSynchronized
  have hD := fz_self hD0
  obtain ⟨A, hAe⟩ : ∃ A : Nat → Prop, A = fz_in ((FW f a t h x) ++ (CW cy a V)) := ⟨_, rfl⟩
  rw [← hAe] at hD
  have hS : va_S A s.heap s.heap [] := va_S.rf
  have hl := lv_entry ([.ref (f 0), .int y]) (n := 2) (Nat.le_of_ble_eq_true rfl)
  rw [lg_entry_eq]
  generalize (lg_sl ([.ref (f 0), .int y]) ++ List.replicate (2 - (lg_sl ([.ref (f 0), .int y])).length) Slot.unset).toArray = ls at hl ⊢
  have hl : lv_has ls 2 [(0, .ref (f 0)), (1, .int y)] := hl
  refine lv_iload_n hx hb dX8_needRisk_0 rfl (lv_at hl 1 rfl) ?_
  refine fz_retR (va_runS (As := [.int y]) (rest := []) ⟨hx, hb, hml, hown, hts⟩ (c_X8_isRisk l D cy y) (va_cwS 1 hts gX8_needRisk_X8_isRisk rfl rfl rfl (by decide +kernel) ⟨Nat.le_of_ble_eq_true rfl, Nat.le_of_ble_eq_true rfl⟩) (fz_preS hK (fz_nil) fz_T_bl (fun _ _ _ => trivial)) rfl rfl hl.1 rfl (lv_room (Nat.le_of_ble_eq_true rfl)) dX8_needRisk_1 ⟨Nat.zero_le _, Nat.zero_le _⟩) ?_
  refine fz_ifneB (tgt := 17) hx hb dX8_needRisk_4 (by decide) (fun c_1 => ?_) (fun c_1 => ?_)
  · skip
    refine fz_wd (k := 1) (n := 6) (Nat.le_of_ble_eq_true rfl) (Nat.le_of_ble_eq_true rfl) ?_
    refine vx_ret ?_
    subst hAe
    exact W.vret hx hb hr (fun t9 ht9 hW9 => ⟨⟨(), rfl, (by simp [c_1]), fz_to ht9 hP⟩, hS.F ht9⟩) hS.2.2 dX8_needRisk_17
  · skip
    subst hAe
    exact fz_throw (text := "the risk is out of range") (cls := xIA) (ik := 117) (is := 249) (ic := 121) hx hb hst (hl.1.trans hml.symm) ht hlocks hown hts hE (by decide +kernel) (by decide +kernel) (by decide +kernel) (by decide +kernel) (by decide +kernel) (by decide +kernel) (by decide +kernel) (by simp [c_1]) hP hS dX8_needRisk_7 dX8_needRisk_10 dX8_needRisk_11 dX8_needRisk_13 dX8_needRisk_16 (Nat.le_of_ble_eq_true rfl) (Nat.le_of_ble_eq_true rfl) (Nat.le_of_ble_eq_true rfl) (Nat.le_of_ble_eq_true rfl) (Nat.le_of_ble_eq_true rfl) (Nat.le_of_ble_eq_true rfl)
set_option maxHeartbeats 4000000 in
set_option maxRecDepth 100000 in
/-- FreezeCredits.needValue -/
theorem c_X8_needValue (l : Launch) (hst : l.stackTraces = false) (D : va_G) (cy : Nat → ClassId) (f t h x : Nat → Nat) (a : Nat → Nat) (V : Nat → Nat → Int32) (y n : Int32) : fz_XV l yX8_needValue wsX8_needValue 6 82 1 6 D cy [.ref (f 0), .int y, .int n] ((FW f a t h x) ++ (CW cy a V)) (fz_Xc (fz_in ((FW f a t h x) ++ (CW cy a V)))) ((FW f a t h x) ++ (CW cy a V)) (fz_ix y n) xIA ((FW f a t h x) ++ (CW cy a V)) := by
  refine vx_ofW (cc := cX8_needValue) (maxL := 3) (ret := none) (by decide) rfl ?_
  intro p e s m args below meth c s₁ B hml ht hv
  obtain ⟨rfl, hP, hK, hD0, hE⟩ := hv
  have hx := B.exec
  have hb := B.bytes
  have hr := B.returns
  have hts := atoms_spec (ws := wsX8_needValue) B.pre
  have hown : s.vm.findClass RX8 = some m.cls := findClass_of_methodNamed B.named
  have hlocks := B.notSynchronized
  have hD := fz_self hD0
  obtain ⟨A, hAe⟩ : ∃ A : Nat → Prop, A = fz_in ((FW f a t h x) ++ (CW cy a V)) := ⟨_, rfl⟩
  rw [← hAe] at hD
  have hS : va_S A s.heap s.heap [] := va_S.rf
  have hl := lv_entry ([.ref (f 0), .int y, .int n]) (n := 3) (Nat.le_of_ble_eq_true rfl)
  rw [lg_entry_eq]
  generalize (lg_sl ([.ref (f 0), .int y, .int n]) ++ List.replicate (3 - (lg_sl ([.ref (f 0), .int y, .int n])).length) Slot.unset).toArray = ls at hl ⊢
  have hl : lv_has ls 3 [(0, .ref (f 0)), (1, .int y), (2, .int n)] := hl
  refine lv_iload_n hx hb dX8_needValue_0 rfl (lv_at hl 1 rfl) ?_
  refine lv_if_lt (tgt := 9) hx hb dX8_needValue_1 (by decide) (fun c_1 => ?_) (fun c_1 => ?_)
  · skip
    subst hAe
    exact fz_throw (text := "there is no such value") (cls := xIA) (ik := 117) (is := 251) (ic := 121) hx hb hst (hl.1.trans hml.symm) ht hlocks hown hts hE (by decide +kernel) (by decide +kernel) (by decide +kernel) (by decide +kernel) (by decide +kernel) (by decide +kernel) (by decide +kernel) (by simp [fz_ix, c_1]) hP hS dX8_needValue_9 dX8_needValue_12 dX8_needValue_13 dX8_needValue_15 dX8_needValue_18 (Nat.le_of_ble_eq_true rfl) (Nat.le_of_ble_eq_true rfl) (Nat.le_of_ble_eq_true rfl) (Nat.le_of_ble_eq_true rfl) (Nat.le_of_ble_eq_true rfl) (Nat.le_of_ble_eq_true rfl)
  · skip
    refine lv_iload_n hx hb dX8_needValue_4 rfl (lv_at hl 1 rfl) ?_
    refine lv_iload_n hx hb dX8_needValue_5 rfl (lv_at hl 2 rfl) ?_
    refine lv_icmp_lt (tgt := 19) hx hb dX8_needValue_6 (by decide) (fun c_2 => ?_) (fun c_2 => ?_)
    · skip
      refine fz_wd (k := 1) (n := 6) (Nat.le_of_ble_eq_true rfl) (Nat.le_of_ble_eq_true rfl) ?_
      refine vx_ret ?_
      subst hAe
      exact W.vret hx hb hr (fun t9 ht9 hW9 => ⟨⟨(), rfl, (by simp [fz_ix, c_1, c_2]), fz_to ht9 hP⟩, hS.F ht9⟩) hS.2.2 dX8_needValue_19
    · skip
      subst hAe
      exact fz_throw (text := "there is no such value") (cls := xIA) (ik := 117) (is := 251) (ic := 121) hx hb hst (hl.1.trans hml.symm) ht hlocks hown hts hE (by decide +kernel) (by decide +kernel) (by decide +kernel) (by decide +kernel) (by decide +kernel) (by decide +kernel) (by decide +kernel) (by simp [fz_ix, c_1, c_2]) hP hS dX8_needValue_9 dX8_needValue_12 dX8_needValue_13 dX8_needValue_15 dX8_needValue_18 (Nat.le_of_ble_eq_true rfl) (Nat.le_of_ble_eq_true rfl) (Nat.le_of_ble_eq_true rfl) (Nat.le_of_ble_eq_true rfl) (Nat.le_of_ble_eq_true rfl) (Nat.le_of_ble_eq_true rfl)
