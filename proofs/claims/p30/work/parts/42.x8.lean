/-! the class's own methods -/
section FZW
variable {p : Program} {l : Launch} {e : Env} {R : Room} {s : State} {m : MethodId} {args : Array Value} {below : List Frame} {meth : Method} {c : Code} {H : Heap} {locs : List Loc} {cells slots : Nat} {Q : State → Prop}
theorem fz_wd {g : JFrame} {k n : Nat} (h1 : cells ≤ k) (h2 : slots ≤ n) (kk : W p l e R s m args below meth c H locs k n Q g) : W p l e R s m args below meth c H locs cells slots Q g := fun T hT X => kk T hT (stand_widen X h1 h2)
end FZW
theorem fz_inD {A : Nat → Prop} {W : va_W} (h : va_D A W) {q : Nat} (hq : fz_in W q) : A q := by
  obtain ⟨k, x, hk⟩ := hq
  exact h.2 k _ hk
/-- y is a number below n -/
def fz_vo (y n : Int32) : Bool := !(decide (y < 0)) && decide (y < n)
theorem fz_vo_s {z : Int32} {n : Nat} (hn : n < 2 ^ 31) (h : fz_vo z (nI n) = true) : z = nI z.toNatClampNeg ∧ z.toNatClampNeg < n := by
  simp only [fz_vo, Bool.and_eq_true, Bool.not_eq_true', decide_eq_false_iff_not, decide_eq_true_eq] at h
  rcases pk_ix z hn with q | q | q
  · exact absurd q h.1
  · exact absurd h.2 (Int32.not_lt.mpr q)
  · exact fz_tn q (by omega)
theorem fz_vo_40 {y : Int32} (h1 : ¬ y < 0) (h2 : y ≤ 39) : fz_vo y 40 = true := by
  rcases pk_ix y (n := 40) (by decide) with q | q | ⟨j, q, rfl⟩
  · exact absurd q h1
  · exact absurd (Int32.le_trans q h2) (by decide)
  · simp only [fz_vo, Bool.and_eq_true, Bool.not_eq_true', decide_eq_false_iff_not, decide_eq_true_eq]
    exact ⟨h1, nI_lt q (by decide)⟩
theorem fz_vo_40n {y : Int32} (h : ¬ y ≤ 39) : fz_vo y 40 = false := by
  cases hc : fz_vo y 40 with
  | false => rfl
  | true =>
    obtain ⟨e, g⟩ := fz_vo_s (n := 40) (by decide) hc
    refine absurd ?_ h
    rw [e, show (39 : Int32) = nI 39 from rfl]
    exact (nI_leI (by omega) (by decide)).mpr (by omega)
/-- what the class's methods may want besides their words -/
def fz_Ev (A : Nat → Prop) (U : State) : Prop := fz_Xc A U ∧ fz_Sg A U
theorem fz_Ev.to {A B : Nat → Prop} {s U : State} {locs : List Loc} (h : fz_Ev A s) (hS : va_S A s.heap U.heap locs) (hW : s.WarmedH U.vm) (hAB : ∀ q, B q → A q) : fz_Ev B U := ⟨h.1.to hS hW hAB, h.2.to hS hW hAB⟩
theorem fz_Ev.up {A B : Nat → Prop} {s U : State} {H : Heap} {locs : List Loc} (h : fz_Ev A s) (hU : U.heap = H) (hS : va_S A s.heap H locs) (hW : s.WarmedH U.vm) (hAB : ∀ q, B q → A q) : fz_Ev B U := h.to (by rw [hU]; exact hS) hW hAB
theorem fz_Ev_bl {A : Nat → Prop} : fz_bl (fz_Ev A) := fun a U g mk h => ⟨fz_Xc_bl a U g mk h.1, fz_Sg_bl a U g mk h.2⟩
/-- who could lend -/
def fz_ldr (V : Nat → Nat → Int32) (nt nl : Nat) (y z : Int32) : Int32 := if z * V 1 0 - V 4 y.toNatClampNeg ≤ 0 then -1 else bif fz_owes (V 19) (V 21) (V 22) (V 0 0) nl y then -1 else fz_rich (V 4) y (z * V 1 0 - V 4 y.toNatClampNeg) nt
set_option maxHeartbeats 4000000 in
set_option maxRecDepth 100000 in
/-- FreezeCredits.needTeam -/
theorem c_X8_needTeam (l : Launch) (hst : l.stackTraces = false) (D : va_G) (cy : Nat → ClassId) (f t h x : Nat → Nat) (a : Nat → Nat) (V : Nat → Nat → Int32) (y : Int32) : fz_XV l yX8_needTeam wsX8_needTeam 6 82 1 6 D cy [.ref (f 0), .int y] ((FW f a t h x) ++ (CW cy a V)) (fz_Ev (fz_in ((FW f a t h x) ++ (CW cy a V)))) ((FW f a t h x) ++ (CW cy a V)) (fz_ix y (V 3 0)) xIO ((FW f a t h x) ++ (CW cy a V)) := by
  refine vx_ofW (cc := cX8_needTeam) (maxL := 2) (ret := none) (by decide) rfl ?_
  intro p e s m args below meth c s₁ B hml ht hv
  obtain ⟨rfl, hP, hK, hD0, hE⟩ := hv
  have hx := B.exec
  have hb := B.bytes
  have hr := B.returns
  have hts := atoms_spec (ws := wsX8_needTeam) B.pre
  have hown : s.vm.findClass RX8 = some m.cls := findClass_of_methodNamed B.named
  have hlocks := B.notSynchronized
  have hD := fz_self hD0
  obtain ⟨A, hAe⟩ : ∃ A : Nat → Prop, A = fz_in ((FW f a t h x) ++ (CW cy a V)) := ⟨_, rfl⟩
  rw [← hAe] at hD
  have hE : fz_Ev A s := by rw [hAe]; exact hE
  have hS : va_S A s.heap s.heap [] := va_S.rf
  have hl := lv_entry ([.ref (f 0), .int y]) (n := 2) (Nat.le_of_ble_eq_true rfl)
  rw [lg_entry_eq]
  generalize (lg_sl ([.ref (f 0), .int y]) ++ List.replicate (2 - (lg_sl ([.ref (f 0), .int y])).length) Slot.unset).toArray = ls at hl ⊢
  have hl : lv_has ls 2 [(0, .ref (f 0)), (1, .int y)] := hl
  have k_12 := hts (.fieldLink RX8 12 "FreezeCredits" "now" "LFreezeCredits$Calendar;") (by decide +kernel)
  have inX8 : ∀ w ∈ u_ws RX8 TX8 4, w ∈ wsX8_needTeam := by decide +kernel
  have k_161 := hts (.fieldLink RX8 161 "FreezeCredits$Calendar" "teams" "LFreezeCredits$Teams;") (by decide +kernel)
  have inX1 : ∀ w ∈ u_ws RX1 TX1 6, w ∈ wsX8_needTeam := by decide +kernel
  refine lv_aload_n hx hb dX8_needTeam_0 rfl (lv_at hl 0 rfl) ?_
  refine va_get (D := D) (ci := 6) (v := .ref (a 0)) (C := RX8) (T := TX8) (N := 4) hx hb hts inX8 hown hK hP 0 rfl rfl 0 (by decide) k_12 (fun _ h9 => h9) rfl dX8_needTeam_1 ?_
  refine va_get (D := D) (ci := 0) (v := .ref (a 3)) (C := RX1) (T := TX1) (N := 6) hx hb hts inX1 hown hK hP 1 rfl rfl 3 (by decide) k_161 (fun _ h9 => h9) rfl dX8_needTeam_4 ?_
  refine lv_iload_n hx hb dX8_needTeam_7 rfl (lv_at hl 1 rfl) ?_
  refine fz_retR (va_runV (As := [.int y]) (rest := []) ⟨hx, hb, hml, hown, hts⟩ (c_X6_has l D cy a V y) (cwV 1 hts gX8_needTeam_X6_has rfl rfl rfl (by decide +kernel) ⟨Nat.le_of_ble_eq_true rfl, Nat.le_of_ble_eq_true rfl⟩) (fz_preV (ci := 5) (q0 := 0) hK (hP.sub (ws' := TW cy a V) [4, 5, 6, 7, 8] rfl) rfl rfl rfl fz_T_bl (fun _ _ _ => trivial)) rfl rfl hl.1 rfl (lv_room (Nat.le_of_ble_eq_true rfl)) dX8_needTeam_8 ⟨Nat.le_of_ble_eq_true rfl, Nat.le_of_ble_eq_true rfl⟩) ?_
  refine fz_ifneB (tgt := 24) hx hb dX8_needTeam_11 (by decide) (fun c_1 => ?_) (fun c_1 => ?_)
  · skip
    refine fz_wd (k := 1) (n := 6) (Nat.le_of_ble_eq_true rfl) (Nat.le_of_ble_eq_true rfl) ?_
    refine vx_ret ?_
    subst hAe
    exact W.vret hx hb hr (fun t9 ht9 hW9 => ⟨⟨(), rfl, (by simp [c_1]), fz_to ht9 hP⟩, hS.F ht9⟩) hS.2.2 dX8_needTeam_24
  · skip
    subst hAe
    exact fz_throw (text := "there is no such team") (cls := xIO) (ik := 109) (is := 241) (ic := 113) hx hb hst (hl.1.trans hml.symm) ht hlocks hown hts hE.1 (by decide +kernel) (by decide +kernel) (by decide +kernel) (by decide +kernel) (by decide +kernel) (by decide +kernel) (by decide +kernel) (by simp [c_1]) hP hS dX8_needTeam_14 dX8_needTeam_17 dX8_needTeam_18 dX8_needTeam_20 dX8_needTeam_23 (Nat.le_of_ble_eq_true rfl) (Nat.le_of_ble_eq_true rfl) (Nat.le_of_ble_eq_true rfl) (Nat.le_of_ble_eq_true rfl) (Nat.le_of_ble_eq_true rfl) (Nat.le_of_ble_eq_true rfl)
set_option maxHeartbeats 4000000 in
set_option maxRecDepth 100000 in
/-- FreezeCredits.needChange -/
theorem c_X8_needChange (l : Launch) (hst : l.stackTraces = false) (D : va_G) (cy : Nat → ClassId) (f t h x : Nat → Nat) (a : Nat → Nat) (V : Nat → Nat → Int32) (y : Int32) : fz_XV l yX8_needChange wsX8_needChange 6 82 1 6 D cy [.ref (f 0), .int y] ((FW f a t h x) ++ (CW cy a V)) (fz_Ev (fz_in ((FW f a t h x) ++ (CW cy a V)))) ((FW f a t h x) ++ (CW cy a V)) (fz_ix y (V 8 0)) xIO ((FW f a t h x) ++ (CW cy a V)) := by
  refine vx_ofW (cc := cX8_needChange) (maxL := 2) (ret := none) (by decide) rfl ?_
  intro p e s m args below meth c s₁ B hml ht hv
  obtain ⟨rfl, hP, hK, hD0, hE⟩ := hv
  have hx := B.exec
  have hb := B.bytes
  have hr := B.returns
  have hts := atoms_spec (ws := wsX8_needChange) B.pre
  have hown : s.vm.findClass RX8 = some m.cls := findClass_of_methodNamed B.named
  have hlocks := B.notSynchronized
  have hD := fz_self hD0
  obtain ⟨A, hAe⟩ : ∃ A : Nat → Prop, A = fz_in ((FW f a t h x) ++ (CW cy a V)) := ⟨_, rfl⟩
  rw [← hAe] at hD
  have hE : fz_Ev A s := by rw [hAe]; exact hE
  have hS : va_S A s.heap s.heap [] := va_S.rf
  have hl := lv_entry ([.ref (f 0), .int y]) (n := 2) (Nat.le_of_ble_eq_true rfl)
  rw [lg_entry_eq]
  generalize (lg_sl ([.ref (f 0), .int y]) ++ List.replicate (2 - (lg_sl ([.ref (f 0), .int y])).length) Slot.unset).toArray = ls at hl ⊢
  have hl : lv_has ls 2 [(0, .ref (f 0)), (1, .int y)] := hl
  have k_12 := hts (.fieldLink RX8 12 "FreezeCredits" "now" "LFreezeCredits$Calendar;") (by decide +kernel)
  have inX8 : ∀ w ∈ u_ws RX8 TX8 4, w ∈ wsX8_needChange := by decide +kernel
  have k_90 := hts (.fieldLink RX8 90 "FreezeCredits$Calendar" "changes" "LFreezeCredits$Changes;") (by decide +kernel)
  have inX1 : ∀ w ∈ u_ws RX1 TX1 6, w ∈ wsX8_needChange := by decide +kernel
  refine lv_aload_n hx hb dX8_needChange_0 rfl (lv_at hl 0 rfl) ?_
  refine va_get (D := D) (ci := 6) (v := .ref (a 0)) (C := RX8) (T := TX8) (N := 4) hx hb hts inX8 hown hK hP 0 rfl rfl 0 (by decide) k_12 (fun _ h9 => h9) rfl dX8_needChange_1 ?_
  refine va_get (D := D) (ci := 0) (v := .ref (a 8)) (C := RX1) (T := TX1) (N := 6) hx hb hts inX1 hown hK hP 1 rfl rfl 4 (by decide) k_90 (fun _ h9 => h9) rfl dX8_needChange_4 ?_
  refine lv_iload_n hx hb dX8_needChange_7 rfl (lv_at hl 1 rfl) ?_
  refine fz_retR (va_runV (As := [.int y]) (rest := []) ⟨hx, hb, hml, hown, hts⟩ (c_X2_has l D cy a V y) (cwV 1 hts gX8_needChange_X2_has rfl rfl rfl (by decide +kernel) ⟨Nat.le_of_ble_eq_true rfl, Nat.le_of_ble_eq_true rfl⟩) (fz_preV (ci := 1) (q0 := 0) hK (hP.sub (ws' := GW cy a V) [9, 10, 11, 12, 13, 14, 15, 16, 17] rfl) rfl rfl rfl fz_T_bl (fun _ _ _ => trivial)) rfl rfl hl.1 rfl (lv_room (Nat.le_of_ble_eq_true rfl)) dX8_needChange_8 ⟨Nat.le_of_ble_eq_true rfl, Nat.le_of_ble_eq_true rfl⟩) ?_
  refine fz_ifneB (tgt := 24) hx hb dX8_needChange_11 (by decide) (fun c_1 => ?_) (fun c_1 => ?_)
  · skip
    refine fz_wd (k := 1) (n := 6) (Nat.le_of_ble_eq_true rfl) (Nat.le_of_ble_eq_true rfl) ?_
    refine vx_ret ?_
    subst hAe
    exact W.vret hx hb hr (fun t9 ht9 hW9 => ⟨⟨(), rfl, (by simp [c_1]), fz_to ht9 hP⟩, hS.F ht9⟩) hS.2.2 dX8_needChange_24
  · skip
    subst hAe
    exact fz_throw (text := "there is no such change") (cls := xIO) (ik := 109) (is := 244) (ic := 113) hx hb hst (hl.1.trans hml.symm) ht hlocks hown hts hE.1 (by decide +kernel) (by decide +kernel) (by decide +kernel) (by decide +kernel) (by decide +kernel) (by decide +kernel) (by decide +kernel) (by simp [c_1]) hP hS dX8_needChange_14 dX8_needChange_17 dX8_needChange_18 dX8_needChange_20 dX8_needChange_23 (Nat.le_of_ble_eq_true rfl) (Nat.le_of_ble_eq_true rfl) (Nat.le_of_ble_eq_true rfl) (Nat.le_of_ble_eq_true rfl) (Nat.le_of_ble_eq_true rfl) (Nat.le_of_ble_eq_true rfl)
set_option maxHeartbeats 4000000 in
set_option maxRecDepth 100000 in
/-- FreezeCredits.needRisk -/
theorem c_X8_needRisk (l : Launch) (hst : l.stackTraces = false) (D : va_G) (cy : Nat → ClassId) (f t h x : Nat → Nat) (a : Nat → Nat) (V : Nat → Nat → Int32) (y : Int32) : fz_XV l yX8_needRisk wsX8_needRisk 6 82 1 6 D cy [.ref (f 0), .int y] ((FW f a t h x) ++ (CW cy a V)) (fz_Ev (fz_in ((FW f a t h x) ++ (CW cy a V)))) ((FW f a t h x) ++ (CW cy a V)) (fz_risk y) xIA ((FW f a t h x) ++ (CW cy a V)) := by
  refine vx_ofW (cc := cX8_needRisk) (maxL := 2) (ret := none) (by decide) rfl ?_
  intro p e s m args below meth c s₁ B hml ht hv
  obtain ⟨rfl, hP, hK, hD0, hE⟩ := hv
  have hx := B.exec
  have hb := B.bytes
  have hr := B.returns
  have hts := atoms_spec (ws := wsX8_needRisk) B.pre
  have hown : s.vm.findClass RX8 = some m.cls := findClass_of_methodNamed B.named
  have hlocks := B.notSynchronized
  have hD := fz_self hD0
  obtain ⟨A, hAe⟩ : ∃ A : Nat → Prop, A = fz_in ((FW f a t h x) ++ (CW cy a V)) := ⟨_, rfl⟩
  rw [← hAe] at hD
  have hE : fz_Ev A s := by rw [hAe]; exact hE
  have hS : va_S A s.heap s.heap [] := va_S.rf
  have hl := lv_entry ([.ref (f 0), .int y]) (n := 2) (Nat.le_of_ble_eq_true rfl)
  rw [lg_entry_eq]
  generalize (lg_sl ([.ref (f 0), .int y]) ++ List.replicate (2 - (lg_sl ([.ref (f 0), .int y])).length) Slot.unset).toArray = ls at hl ⊢
  have hl : lv_has ls 2 [(0, .ref (f 0)), (1, .int y)] := hl
  refine lv_iload_n hx hb dX8_needRisk_0 rfl (lv_at hl 1 rfl) ?_
  refine fz_retR (va_runS (As := [.int y]) (rest := []) ⟨hx, hb, hml, hown, hts⟩ (c_X8_isRisk l D cy y) (va_cwS 1 hts gX8_needRisk_X8_isRisk rfl rfl rfl (by decide +kernel) ⟨Nat.le_of_ble_eq_true rfl, Nat.le_of_ble_eq_true rfl⟩) (fz_preS hK (fz_nil) fz_T_bl (fun _ _ _ => trivial)) rfl rfl hl.1 rfl (lv_room (Nat.le_of_ble_eq_true rfl)) dX8_needRisk_1 ⟨Nat.le_of_ble_eq_true rfl, Nat.le_of_ble_eq_true rfl⟩) ?_
  refine fz_ifneB (tgt := 17) hx hb dX8_needRisk_4 (by decide) (fun c_1 => ?_) (fun c_1 => ?_)
  · skip
    refine fz_wd (k := 1) (n := 6) (Nat.le_of_ble_eq_true rfl) (Nat.le_of_ble_eq_true rfl) ?_
    refine vx_ret ?_
    subst hAe
    exact W.vret hx hb hr (fun t9 ht9 hW9 => ⟨⟨(), rfl, (by simp [c_1]), fz_to ht9 hP⟩, hS.F ht9⟩) hS.2.2 dX8_needRisk_17
  · skip
    subst hAe
    exact fz_throw (text := "the risk is out of range") (cls := xIA) (ik := 117) (is := 249) (ic := 121) hx hb hst (hl.1.trans hml.symm) ht hlocks hown hts hE.1 (by decide +kernel) (by decide +kernel) (by decide +kernel) (by decide +kernel) (by decide +kernel) (by decide +kernel) (by decide +kernel) (by simp [c_1]) hP hS dX8_needRisk_7 dX8_needRisk_10 dX8_needRisk_11 dX8_needRisk_13 dX8_needRisk_16 (Nat.le_of_ble_eq_true rfl) (Nat.le_of_ble_eq_true rfl) (Nat.le_of_ble_eq_true rfl) (Nat.le_of_ble_eq_true rfl) (Nat.le_of_ble_eq_true rfl) (Nat.le_of_ble_eq_true rfl)
set_option maxHeartbeats 4000000 in
set_option maxRecDepth 100000 in
/-- FreezeCredits.needValue -/
theorem c_X8_needValue (l : Launch) (hst : l.stackTraces = false) (D : va_G) (cy : Nat → ClassId) (f t h x : Nat → Nat) (a : Nat → Nat) (V : Nat → Nat → Int32) (y n : Int32) : fz_XV l yX8_needValue wsX8_needValue 6 82 1 6 D cy [.ref (f 0), .int y, .int n] ((FW f a t h x) ++ (CW cy a V)) (fz_Ev (fz_in ((FW f a t h x) ++ (CW cy a V)))) ((FW f a t h x) ++ (CW cy a V)) (fz_vo y n) xIA ((FW f a t h x) ++ (CW cy a V)) := by
  refine vx_ofW (cc := cX8_needValue) (maxL := 3) (ret := none) (by decide) rfl ?_
  intro p e s m args below meth c s₁ B hml ht hv
  obtain ⟨rfl, hP, hK, hD0, hE⟩ := hv
  have hx := B.exec
  have hb := B.bytes
  have hr := B.returns
  have hts := atoms_spec (ws := wsX8_needValue) B.pre
  have hown : s.vm.findClass RX8 = some m.cls := findClass_of_methodNamed B.named
  have hlocks := B.notSynchronized
  have hD := fz_self hD0
  obtain ⟨A, hAe⟩ : ∃ A : Nat → Prop, A = fz_in ((FW f a t h x) ++ (CW cy a V)) := ⟨_, rfl⟩
  rw [← hAe] at hD
  have hE : fz_Ev A s := by rw [hAe]; exact hE
  have hS : va_S A s.heap s.heap [] := va_S.rf
  have hl := lv_entry ([.ref (f 0), .int y, .int n]) (n := 3) (Nat.le_of_ble_eq_true rfl)
  rw [lg_entry_eq]
  generalize (lg_sl ([.ref (f 0), .int y, .int n]) ++ List.replicate (3 - (lg_sl ([.ref (f 0), .int y, .int n])).length) Slot.unset).toArray = ls at hl ⊢
  have hl : lv_has ls 3 [(0, .ref (f 0)), (1, .int y), (2, .int n)] := hl
  refine lv_iload_n hx hb dX8_needValue_0 rfl (lv_at hl 1 rfl) ?_
  refine lv_if_lt (tgt := 9) hx hb dX8_needValue_1 (by decide) (fun c_1 => ?_) (fun c_1 => ?_)
  · skip
    subst hAe
    exact fz_throw (text := "there is no such value") (cls := xIA) (ik := 117) (is := 251) (ic := 121) hx hb hst (hl.1.trans hml.symm) ht hlocks hown hts hE.1 (by decide +kernel) (by decide +kernel) (by decide +kernel) (by decide +kernel) (by decide +kernel) (by decide +kernel) (by decide +kernel) (by simp [fz_vo, c_1]) hP hS dX8_needValue_9 dX8_needValue_12 dX8_needValue_13 dX8_needValue_15 dX8_needValue_18 (Nat.le_of_ble_eq_true rfl) (Nat.le_of_ble_eq_true rfl) (Nat.le_of_ble_eq_true rfl) (Nat.le_of_ble_eq_true rfl) (Nat.le_of_ble_eq_true rfl) (Nat.le_of_ble_eq_true rfl)
  · skip
    refine lv_iload_n hx hb dX8_needValue_4 rfl (lv_at hl 1 rfl) ?_
    refine lv_iload_n hx hb dX8_needValue_5 rfl (lv_at hl 2 rfl) ?_
    refine lv_icmp_lt (tgt := 19) hx hb dX8_needValue_6 (by decide) (fun c_2 => ?_) (fun c_2 => ?_)
    · skip
      refine fz_wd (k := 1) (n := 6) (Nat.le_of_ble_eq_true rfl) (Nat.le_of_ble_eq_true rfl) ?_
      refine vx_ret ?_
      subst hAe
      exact W.vret hx hb hr (fun t9 ht9 hW9 => ⟨⟨(), rfl, (by simp [fz_vo, c_1, c_2]), fz_to ht9 hP⟩, hS.F ht9⟩) hS.2.2 dX8_needValue_19
    · skip
      subst hAe
      exact fz_throw (text := "there is no such value") (cls := xIA) (ik := 117) (is := 251) (ic := 121) hx hb hst (hl.1.trans hml.symm) ht hlocks hown hts hE.1 (by decide +kernel) (by decide +kernel) (by decide +kernel) (by decide +kernel) (by decide +kernel) (by decide +kernel) (by decide +kernel) (by simp [fz_vo, c_1, c_2]) hP hS dX8_needValue_9 dX8_needValue_12 dX8_needValue_13 dX8_needValue_15 dX8_needValue_18 (Nat.le_of_ble_eq_true rfl) (Nat.le_of_ble_eq_true rfl) (Nat.le_of_ble_eq_true rfl) (Nat.le_of_ble_eq_true rfl) (Nat.le_of_ble_eq_true rfl) (Nat.le_of_ble_eq_true rfl)
set_option maxHeartbeats 4000000 in
set_option maxRecDepth 100000 in
/-- FreezeCredits.team -/
theorem c_X8_team (l : Launch) (hst : l.stackTraces = false) (D : va_G) (cy : Nat → ClassId) (f t h x : Nat → Nat) (a : Nat → Nat) (V : Nat → Nat → Int32) (nt nc nq nl wk : Nat) (wf : fz_wf V nt nc nq nl wk) (y z : Int32) : fz_XI l yX8_team wsX8_team 7 104 2 12 D cy [.ref (f 0), .int y, .int z] ((FW f a t h x) ++ (CW cy a V)) (fz_Ev (fz_in ((FW f a t h x) ++ (CW cy a V)))) (fz_tval V nc nl y.toNatClampNeg z.toNatClampNeg) ((FW f a t h x) ++ (CW cy a V)) (fz_ix y (V 3 0) && fz_vo z 11) (bif fz_ix y (V 3 0) then xIA else xIO) ((FW f a t h x) ++ (CW cy a V)) := by
  refine vx_ofW (cc := cX8_team) (maxL := 3) (ret := (some .int)) (by decide) rfl ?_
  intro p e s m args below meth c s₁ B hml ht hv
  obtain ⟨rfl, hP, hK, hD0, hE⟩ := hv
  have hx := B.exec
  have hb := B.bytes
  have hr := B.returns
  have hts := atoms_spec (ws := wsX8_team) B.pre
  have hown : s.vm.findClass RX8 = some m.cls := findClass_of_methodNamed B.named
  have hlocks := B.notSynchronized
  have hD := fz_self hD0
  obtain ⟨A, hAe⟩ : ∃ A : Nat → Prop, A = fz_in ((FW f a t h x) ++ (CW cy a V)) := ⟨_, rfl⟩
  rw [← hAe] at hD
  have hE : fz_Ev A s := by rw [hAe]; exact hE
  have hS : va_S A s.heap s.heap [] := va_S.rf
  have hl := lv_entry ([.ref (f 0), .int y, .int z]) (n := 3) (Nat.le_of_ble_eq_true rfl)
  rw [lg_entry_eq]
  generalize (lg_sl ([.ref (f 0), .int y, .int z]) ++ List.replicate (3 - (lg_sl ([.ref (f 0), .int y, .int z])).length) Slot.unset).toArray = ls at hl ⊢
  have hl : lv_has ls 3 [(0, .ref (f 0)), (1, .int y), (2, .int z)] := hl
  have k_12 := hts (.fieldLink RX8 12 "FreezeCredits" "now" "LFreezeCredits$Calendar;") (by decide +kernel)
  have inX8 : ∀ w ∈ u_ws RX8 TX8 4, w ∈ wsX8_team := by decide +kernel
  obtain ⟨hnt, hnt6, hnc, hnc30, hnq, hqc, hnl, hnl12, hwk, hwk39, hT, hQ, hG, hB⟩ := id wf
  refine lv_aload_n hx hb dX8_team_0 rfl (lv_at hl 0 rfl) ?_
  refine lv_iload_n hx hb dX8_team_1 rfl (lv_at hl 1 rfl) ?_
  refine fz_xretV (P := ([] : va_W)) (S := ([] : va_W)) (Wc := ((FW f a t h x) ++ (CW cy a V))) (Wc' := ((FW f a t h x) ++ (CW cy a V))) (WX := ((FW f a t h x) ++ (CW cy a V))) (vx_runV (As := [.int y]) (rest := []) ⟨hx, hb, hml, hown, hts⟩ (c_X8_needTeam l hst D cy f t h x a V y) (cwV 1 hts gX8_team_X8_needTeam rfl rfl rfl (by decide +kernel) ⟨Nat.le_of_ble_eq_true rfl, Nat.le_of_ble_eq_true rfl⟩) (fz_preMV (ci := 6) (q0 := 0) hK hP hD rfl rfl rfl fz_Ev_bl (fun U hU hW => hE.up hU hS hW (fun q h => fz_inD hD h))) rfl rfl hl.1 rfl (lv_room (Nat.le_of_ble_eq_true rfl)) dX8_team_2 ⟨Nat.le_of_ble_eq_true rfl, Nat.le_of_ble_eq_true rfl⟩) hP hD hS rfl rfl (fun c_1 H locs q9 ce hP hD hS h7 h8 h9 => ?_) (fun c_1 H locs hP hD hS => ?_)
  · skip
    subst hAe
    exact fz_xout ht hlocks (by simp [c_1]) (by simp [c_1]) hP hS h7 h8 h9 (Nat.le_of_ble_eq_true rfl) (Nat.le_of_ble_eq_true rfl)
  have hP : va_P D vwCl ((FW f a t h x) ++ (CW cy a V)) H := hP
  have hD : va_D A ((FW f a t h x) ++ (CW cy a V)) := hD
  refine lv_aload_n hx hb dX8_team_5 rfl (lv_at hl 0 rfl) ?_
  refine lv_iload_n hx hb dX8_team_6 rfl (lv_at hl 2 rfl) ?_
  refine lv_bipush (v := 11) hx hb dX8_team_7 (by decide) ?_
  refine fz_xretV (P := ([] : va_W)) (S := ([] : va_W)) (Wc := ((FW f a t h x) ++ (CW cy a V))) (Wc' := ((FW f a t h x) ++ (CW cy a V))) (WX := ((FW f a t h x) ++ (CW cy a V))) (vx_runV (As := [.int z, .int 11]) (rest := []) ⟨hx, hb, hml, hown, hts⟩ (c_X8_needValue l hst D cy f t h x a V z 11) (cwV 2 hts gX8_team_X8_needValue rfl rfl rfl (by decide +kernel) ⟨Nat.le_of_ble_eq_true rfl, Nat.le_of_ble_eq_true rfl⟩) (fz_preMV (ci := 6) (q0 := 0) hK hP hD rfl rfl rfl fz_Ev_bl (fun U hU hW => hE.up hU hS hW (fun q h => fz_inD hD h))) rfl rfl hl.1 rfl (lv_room (Nat.le_of_ble_eq_true rfl)) dX8_team_9 ⟨Nat.le_of_ble_eq_true rfl, Nat.le_of_ble_eq_true rfl⟩) hP hD hS rfl rfl (fun c_2 H locs q9 ce hP hD hS h7 h8 h9 => ?_) (fun c_2 H locs hP hD hS => ?_)
  · skip
    subst hAe
    exact fz_xout ht hlocks (by simp [c_1, c_2]) (by simp [c_1]) hP hS h7 h8 h9 (Nat.le_of_ble_eq_true rfl) (Nat.le_of_ble_eq_true rfl)
  have hP : va_P D vwCl ((FW f a t h x) ++ (CW cy a V)) H := hP
  have hD : va_D A ((FW f a t h x) ++ (CW cy a V)) := hD
  refine lv_aload_n hx hb dX8_team_12 rfl (lv_at hl 0 rfl) ?_
  refine va_get (D := D) (ci := 6) (v := .ref (a 0)) (C := RX8) (T := TX8) (N := 4) hx hb hts inX8 hown hK hP 0 rfl rfl 0 (by decide) k_12 (fun _ h9 => h9) rfl dX8_team_13 ?_
  refine lv_iload_n hx hb dX8_team_16 rfl (lv_at hl 1 rfl) ?_
  refine lv_iload_n hx hb dX8_team_17 rfl (lv_at hl 2 rfl) ?_
  have hy := fz_ix_s c_1 hnt (by omega)
  have hz := fz_vo_s (n := 11) (by decide) c_2
  refine fz_at0 (show z = nI z.toNatClampNeg from hz.1) ?_
  refine fz_at1 (show y = nI y.toNatClampNeg from hy.1) ?_
  refine fz_retR (va_runV (As := [.int (nI y.toNatClampNeg), .int (nI z.toNatClampNeg)]) (rest := []) ⟨hx, hb, hml, hown, hts⟩ (c_X1_teamValue l D cy a V nt nc nq nl wk wf y.toNatClampNeg z.toNatClampNeg (by omega) (by omega)) (cwV 2 hts gX8_team_X1_teamValue rfl rfl rfl (by decide +kernel) ⟨Nat.le_of_ble_eq_true rfl, Nat.le_of_ble_eq_true rfl⟩) (fz_preV (ci := 0) (q0 := 0) hK (hP.sub (ws' := CW cy a V) [1, 2, 3, 4, 5, 6, 7, 8, 9, 10, 11, 12, 13, 14, 15, 16, 17, 18, 19, 20, 21, 22, 23, 24] rfl) rfl rfl rfl fz_Nw_bl (fun U _ hW => fz_Nw_warm hW hE.2.1)) rfl rfl hl.1 rfl (lv_room (Nat.le_of_ble_eq_true rfl)) dX8_team_18 ⟨Nat.le_of_ble_eq_true rfl, Nat.le_of_ble_eq_true rfl⟩) ?_
  refine fz_wd (k := 2) (n := 12) (Nat.le_of_ble_eq_true rfl) (Nat.le_of_ble_eq_true rfl) ?_
  refine vx_ret ?_
  subst hAe
  exact W.iret (v := (fz_tval V nc nl y.toNatClampNeg z.toNatClampNeg)) hx hb hr (fun t9 ht9 hW9 => ⟨⟨_, (), rfl, ⟨rfl, (by simp [c_1, c_2])⟩, fz_to ht9 hP⟩, hS.F ht9⟩) hS.2.2 dX8_team_21
set_option maxHeartbeats 4000000 in
set_option maxRecDepth 100000 in
/-- FreezeCredits.change -/
theorem c_X8_change (l : Launch) (hst : l.stackTraces = false) (D : va_G) (cy : Nat → ClassId) (f t h x : Nat → Nat) (a : Nat → Nat) (V : Nat → Nat → Int32) (nt nc nq nl wk : Nat) (wf : fz_wf V nt nc nq nl wk) (y z : Int32) : fz_XI l yX8_change wsX8_change 7 104 2 12 D cy [.ref (f 0), .int y, .int z] ((FW f a t h x) ++ (CW cy a V)) (fz_Ev (fz_in ((FW f a t h x) ++ (CW cy a V)))) (V (9 + z.toNatClampNeg) y.toNatClampNeg) ((FW f a t h x) ++ (CW cy a V)) (fz_ix y (V 8 0) && fz_vo z 7) (bif fz_ix y (V 8 0) then xIA else xIO) ((FW f a t h x) ++ (CW cy a V)) := by
  refine vx_ofW (cc := cX8_change) (maxL := 3) (ret := (some .int)) (by decide) rfl ?_
  intro p e s m args below meth c s₁ B hml ht hv
  obtain ⟨rfl, hP, hK, hD0, hE⟩ := hv
  have hx := B.exec
  have hb := B.bytes
  have hr := B.returns
  have hts := atoms_spec (ws := wsX8_change) B.pre
  have hown : s.vm.findClass RX8 = some m.cls := findClass_of_methodNamed B.named
  have hlocks := B.notSynchronized
  have hD := fz_self hD0
  obtain ⟨A, hAe⟩ : ∃ A : Nat → Prop, A = fz_in ((FW f a t h x) ++ (CW cy a V)) := ⟨_, rfl⟩
  rw [← hAe] at hD
  have hE : fz_Ev A s := by rw [hAe]; exact hE
  have hS : va_S A s.heap s.heap [] := va_S.rf
  have hl := lv_entry ([.ref (f 0), .int y, .int z]) (n := 3) (Nat.le_of_ble_eq_true rfl)
  rw [lg_entry_eq]
  generalize (lg_sl ([.ref (f 0), .int y, .int z]) ++ List.replicate (3 - (lg_sl ([.ref (f 0), .int y, .int z])).length) Slot.unset).toArray = ls at hl ⊢
  have hl : lv_has ls 3 [(0, .ref (f 0)), (1, .int y), (2, .int z)] := hl
  have k_12 := hts (.fieldLink RX8 12 "FreezeCredits" "now" "LFreezeCredits$Calendar;") (by decide +kernel)
  have inX8 : ∀ w ∈ u_ws RX8 TX8 4, w ∈ wsX8_change := by decide +kernel
  have k_90 := hts (.fieldLink RX8 90 "FreezeCredits$Calendar" "changes" "LFreezeCredits$Changes;") (by decide +kernel)
  have inX1 : ∀ w ∈ u_ws RX1 TX1 6, w ∈ wsX8_change := by decide +kernel
  obtain ⟨hnt, hnt6, hnc, hnc30, hnq, hqc, hnl, hnl12, hwk, hwk39, hT, hQ, hG, hB⟩ := id wf
  refine lv_aload_n hx hb dX8_change_0 rfl (lv_at hl 0 rfl) ?_
  refine lv_iload_n hx hb dX8_change_1 rfl (lv_at hl 1 rfl) ?_
  refine fz_xretV (P := ([] : va_W)) (S := ([] : va_W)) (Wc := ((FW f a t h x) ++ (CW cy a V))) (Wc' := ((FW f a t h x) ++ (CW cy a V))) (WX := ((FW f a t h x) ++ (CW cy a V))) (vx_runV (As := [.int y]) (rest := []) ⟨hx, hb, hml, hown, hts⟩ (c_X8_needChange l hst D cy f t h x a V y) (cwV 1 hts gX8_change_X8_needChange rfl rfl rfl (by decide +kernel) ⟨Nat.le_of_ble_eq_true rfl, Nat.le_of_ble_eq_true rfl⟩) (fz_preMV (ci := 6) (q0 := 0) hK hP hD rfl rfl rfl fz_Ev_bl (fun U hU hW => hE.up hU hS hW (fun q h => fz_inD hD h))) rfl rfl hl.1 rfl (lv_room (Nat.le_of_ble_eq_true rfl)) dX8_change_2 ⟨Nat.le_of_ble_eq_true rfl, Nat.le_of_ble_eq_true rfl⟩) hP hD hS rfl rfl (fun c_1 H locs q9 ce hP hD hS h7 h8 h9 => ?_) (fun c_1 H locs hP hD hS => ?_)
  · skip
    subst hAe
    exact fz_xout ht hlocks (by simp [c_1]) (by simp [c_1]) hP hS h7 h8 h9 (Nat.le_of_ble_eq_true rfl) (Nat.le_of_ble_eq_true rfl)
  have hP : va_P D vwCl ((FW f a t h x) ++ (CW cy a V)) H := hP
  have hD : va_D A ((FW f a t h x) ++ (CW cy a V)) := hD
  refine lv_aload_n hx hb dX8_change_5 rfl (lv_at hl 0 rfl) ?_
  refine lv_iload_n hx hb dX8_change_6 rfl (lv_at hl 2 rfl) ?_
  refine lv_bipush (v := 7) hx hb dX8_change_7 (by decide) ?_
  refine fz_xretV (P := ([] : va_W)) (S := ([] : va_W)) (Wc := ((FW f a t h x) ++ (CW cy a V))) (Wc' := ((FW f a t h x) ++ (CW cy a V))) (WX := ((FW f a t h x) ++ (CW cy a V))) (vx_runV (As := [.int z, .int 7]) (rest := []) ⟨hx, hb, hml, hown, hts⟩ (c_X8_needValue l hst D cy f t h x a V z 7) (cwV 2 hts gX8_change_X8_needValue rfl rfl rfl (by decide +kernel) ⟨Nat.le_of_ble_eq_true rfl, Nat.le_of_ble_eq_true rfl⟩) (fz_preMV (ci := 6) (q0 := 0) hK hP hD rfl rfl rfl fz_Ev_bl (fun U hU hW => hE.up hU hS hW (fun q h => fz_inD hD h))) rfl rfl hl.1 rfl (lv_room (Nat.le_of_ble_eq_true rfl)) dX8_change_9 ⟨Nat.le_of_ble_eq_true rfl, Nat.le_of_ble_eq_true rfl⟩) hP hD hS rfl rfl (fun c_2 H locs q9 ce hP hD hS h7 h8 h9 => ?_) (fun c_2 H locs hP hD hS => ?_)
  · skip
    subst hAe
    exact fz_xout ht hlocks (by simp [c_1, c_2]) (by simp [c_1]) hP hS h7 h8 h9 (Nat.le_of_ble_eq_true rfl) (Nat.le_of_ble_eq_true rfl)
  have hP : va_P D vwCl ((FW f a t h x) ++ (CW cy a V)) H := hP
  have hD : va_D A ((FW f a t h x) ++ (CW cy a V)) := hD
  refine lv_aload_n hx hb dX8_change_12 rfl (lv_at hl 0 rfl) ?_
  refine va_get (D := D) (ci := 6) (v := .ref (a 0)) (C := RX8) (T := TX8) (N := 4) hx hb hts inX8 hown hK hP 0 rfl rfl 0 (by decide) k_12 (fun _ h9 => h9) rfl dX8_change_13 ?_
  refine va_get (D := D) (ci := 0) (v := .ref (a 8)) (C := RX1) (T := TX1) (N := 6) hx hb hts inX1 hown hK hP 1 rfl rfl 4 (by decide) k_90 (fun _ h9 => h9) rfl dX8_change_16 ?_
  refine lv_iload_n hx hb dX8_change_19 rfl (lv_at hl 1 rfl) ?_
  refine lv_iload_n hx hb dX8_change_20 rfl (lv_at hl 2 rfl) ?_
  have hy := fz_ix_s c_1 hnc (by omega)
  have hz := fz_vo_s (n := 7) (by decide) c_2
  refine fz_at0 (show z = nI z.toNatClampNeg from hz.1) ?_
  refine fz_at1 (show y = nI y.toNatClampNeg from hy.1) ?_
  refine fz_retR (va_runV (As := [.int (nI y.toNatClampNeg), .int (nI z.toNatClampNeg)]) (rest := []) ⟨hx, hb, hml, hown, hts⟩ (c_X2_value l D cy a V y.toNatClampNeg z.toNatClampNeg (by omega) (by omega)) (cwV 2 hts gX8_change_X2_value rfl rfl rfl (by decide +kernel) ⟨Nat.le_of_ble_eq_true rfl, Nat.le_of_ble_eq_true rfl⟩) (fz_preV (ci := 1) (q0 := 0) hK (hP.sub (ws' := GW cy a V) [9, 10, 11, 12, 13, 14, 15, 16, 17] rfl) rfl rfl rfl fz_T_bl (fun _ _ _ => trivial)) rfl rfl hl.1 rfl (lv_room (Nat.le_of_ble_eq_true rfl)) dX8_change_21 ⟨Nat.le_of_ble_eq_true rfl, Nat.le_of_ble_eq_true rfl⟩) ?_
  refine fz_wd (k := 2) (n := 12) (Nat.le_of_ble_eq_true rfl) (Nat.le_of_ble_eq_true rfl) ?_
  refine vx_ret ?_
  subst hAe
  exact W.iret (v := (V (9 + z.toNatClampNeg) y.toNatClampNeg)) hx hb hr (fun t9 ht9 hW9 => ⟨⟨_, (), rfl, ⟨rfl, (by simp [c_1, c_2])⟩, fz_to ht9 hP⟩, hS.F ht9⟩) hS.2.2 dX8_change_24
set_option maxHeartbeats 4000000 in
set_option maxRecDepth 100000 in
/-- FreezeCredits.loan -/
theorem c_X8_loan (l : Launch) (hst : l.stackTraces = false) (D : va_G) (cy : Nat → ClassId) (f t h x : Nat → Nat) (a : Nat → Nat) (V : Nat → Nat → Int32) (nt nc nq nl wk : Nat) (wf : fz_wf V nt nc nq nl wk) (y z : Int32) : fz_XI l yX8_loan wsX8_loan 7 104 1 6 D cy [.ref (f 0), .int y, .int z] ((FW f a t h x) ++ (CW cy a V)) (fz_Ev (fz_in ((FW f a t h x) ++ (CW cy a V)))) (V (18 + z.toNatClampNeg) y.toNatClampNeg) ((FW f a t h x) ++ (CW cy a V)) (fz_ix y (V 17 0) && fz_vo z 6) (bif fz_ix y (V 17 0) then xIA else xIO) ((FW f a t h x) ++ (CW cy a V)) := by
  refine vx_ofW (cc := cX8_loan) (maxL := 3) (ret := (some .int)) (by decide) rfl ?_
  intro p e s m args below meth c s₁ B hml ht hv
  obtain ⟨rfl, hP, hK, hD0, hE⟩ := hv
  have hx := B.exec
  have hb := B.bytes
  have hr := B.returns
  have hts := atoms_spec (ws := wsX8_loan) B.pre
  have hown : s.vm.findClass RX8 = some m.cls := findClass_of_methodNamed B.named
  have hlocks := B.notSynchronized
  have hD := fz_self hD0
  obtain ⟨A, hAe⟩ : ∃ A : Nat → Prop, A = fz_in ((FW f a t h x) ++ (CW cy a V)) := ⟨_, rfl⟩
  rw [← hAe] at hD
  have hE : fz_Ev A s := by rw [hAe]; exact hE
  have hS : va_S A s.heap s.heap [] := va_S.rf
  have hl := lv_entry ([.ref (f 0), .int y, .int z]) (n := 3) (Nat.le_of_ble_eq_true rfl)
  rw [lg_entry_eq]
  generalize (lg_sl ([.ref (f 0), .int y, .int z]) ++ List.replicate (3 - (lg_sl ([.ref (f 0), .int y, .int z])).length) Slot.unset).toArray = ls at hl ⊢
  have hl : lv_has ls 3 [(0, .ref (f 0)), (1, .int y), (2, .int z)] := hl
  have k_12 := hts (.fieldLink RX8 12 "FreezeCredits" "now" "LFreezeCredits$Calendar;") (by decide +kernel)
  have inX8 : ∀ w ∈ u_ws RX8 TX8 4, w ∈ wsX8_loan := by decide +kernel
  have k_99 := hts (.fieldLink RX8 99 "FreezeCredits$Calendar" "loans" "LFreezeCredits$Loans;") (by decide +kernel)
  have inX1 : ∀ w ∈ u_ws RX1 TX1 6, w ∈ wsX8_loan := by decide +kernel
  obtain ⟨hnt, hnt6, hnc, hnc30, hnq, hqc, hnl, hnl12, hwk, hwk39, hT, hQ, hG, hB⟩ := id wf
  refine lv_aload_n hx hb dX8_loan_0 rfl (lv_at hl 0 rfl) ?_
  refine va_get (D := D) (ci := 6) (v := .ref (a 0)) (C := RX8) (T := TX8) (N := 4) hx hb hts inX8 hown hK hP 0 rfl rfl 0 (by decide) k_12 (fun _ h9 => h9) rfl dX8_loan_1 ?_
  refine va_get (D := D) (ci := 0) (v := .ref (a 17)) (C := RX1) (T := TX1) (N := 6) hx hb hts inX1 hown hK hP 1 rfl rfl 5 (by decide) k_99 (fun _ h9 => h9) rfl dX8_loan_4 ?_
  refine lv_iload_n hx hb dX8_loan_7 rfl (lv_at hl 1 rfl) ?_
  refine fz_retR (va_runV (As := [.int y]) (rest := []) ⟨hx, hb, hml, hown, hts⟩ (c_X5_has l D cy a V y) (cwV 1 hts gX8_loan_X5_has rfl rfl rfl (by decide +kernel) ⟨Nat.le_of_ble_eq_true rfl, Nat.le_of_ble_eq_true rfl⟩) (fz_preV (ci := 4) (q0 := 0) hK (hP.sub (ws' := LW cy a V) [18, 19, 20, 21, 22, 23, 24] rfl) rfl rfl rfl fz_T_bl (fun _ _ _ => trivial)) rfl rfl hl.1 rfl (lv_room (Nat.le_of_ble_eq_true rfl)) dX8_loan_8 ⟨Nat.le_of_ble_eq_true rfl, Nat.le_of_ble_eq_true rfl⟩) ?_
  refine fz_ifneB (tgt := 24) hx hb dX8_loan_11 (by decide) (fun c_1 => ?_) (fun c_1 => ?_)
  · skip
    refine lv_aload_n hx hb dX8_loan_24 rfl (lv_at hl 0 rfl) ?_
    refine lv_iload_n hx hb dX8_loan_25 rfl (lv_at hl 2 rfl) ?_
    refine lv_bipush (v := 6) hx hb dX8_loan_26 (by decide) ?_
    refine fz_xretV (P := ([] : va_W)) (S := ([] : va_W)) (Wc := ((FW f a t h x) ++ (CW cy a V))) (Wc' := ((FW f a t h x) ++ (CW cy a V))) (WX := ((FW f a t h x) ++ (CW cy a V))) (vx_runV (As := [.int z, .int 6]) (rest := []) ⟨hx, hb, hml, hown, hts⟩ (c_X8_needValue l hst D cy f t h x a V z 6) (cwV 2 hts gX8_loan_X8_needValue rfl rfl rfl (by decide +kernel) ⟨Nat.le_of_ble_eq_true rfl, Nat.le_of_ble_eq_true rfl⟩) (fz_preMV (ci := 6) (q0 := 0) hK hP hD rfl rfl rfl fz_Ev_bl (fun U hU hW => hE.up hU hS hW (fun q h => fz_inD hD h))) rfl rfl hl.1 rfl (lv_room (Nat.le_of_ble_eq_true rfl)) dX8_loan_28 ⟨Nat.le_of_ble_eq_true rfl, Nat.le_of_ble_eq_true rfl⟩) hP hD hS rfl rfl (fun c_2 H locs q9 ce hP hD hS h7 h8 h9 => ?_) (fun c_2 H locs hP hD hS => ?_)
    · skip
      subst hAe
      exact fz_xout ht hlocks (by simp [c_1, c_2]) (by simp [c_1]) hP hS h7 h8 h9 (Nat.le_of_ble_eq_true rfl) (Nat.le_of_ble_eq_true rfl)
    have hP : va_P D vwCl ((FW f a t h x) ++ (CW cy a V)) H := hP
    have hD : va_D A ((FW f a t h x) ++ (CW cy a V)) := hD
    refine lv_aload_n hx hb dX8_loan_31 rfl (lv_at hl 0 rfl) ?_
    refine va_get (D := D) (ci := 6) (v := .ref (a 0)) (C := RX8) (T := TX8) (N := 4) hx hb hts inX8 hown hK hP 0 rfl rfl 0 (by decide) k_12 (fun _ h9 => h9) rfl dX8_loan_32 ?_
    refine va_get (D := D) (ci := 0) (v := .ref (a 17)) (C := RX1) (T := TX1) (N := 6) hx hb hts inX1 hown hK hP 1 rfl rfl 5 (by decide) k_99 (fun _ h9 => h9) rfl dX8_loan_35 ?_
    refine lv_iload_n hx hb dX8_loan_38 rfl (lv_at hl 1 rfl) ?_
    refine lv_iload_n hx hb dX8_loan_39 rfl (lv_at hl 2 rfl) ?_
    have hy := fz_ix_s c_1 hnl (by omega)
    have hz := fz_vo_s (n := 6) (by decide) c_2
    refine fz_at0 (show z = nI z.toNatClampNeg from hz.1) ?_
    refine fz_at1 (show y = nI y.toNatClampNeg from hy.1) ?_
    refine fz_retR (va_runV (As := [.int (nI y.toNatClampNeg), .int (nI z.toNatClampNeg)]) (rest := []) ⟨hx, hb, hml, hown, hts⟩ (c_X5_value l D cy a V y.toNatClampNeg z.toNatClampNeg (by omega) (by omega)) (cwV 2 hts gX8_loan_X5_value rfl rfl rfl (by decide +kernel) ⟨Nat.le_of_ble_eq_true rfl, Nat.le_of_ble_eq_true rfl⟩) (fz_preV (ci := 4) (q0 := 0) hK (hP.sub (ws' := LW cy a V) [18, 19, 20, 21, 22, 23, 24] rfl) rfl rfl rfl fz_T_bl (fun _ _ _ => trivial)) rfl rfl hl.1 rfl (lv_room (Nat.le_of_ble_eq_true rfl)) dX8_loan_40 ⟨Nat.le_of_ble_eq_true rfl, Nat.le_of_ble_eq_true rfl⟩) ?_
    refine fz_wd (k := 1) (n := 6) (Nat.le_of_ble_eq_true rfl) (Nat.le_of_ble_eq_true rfl) ?_
    refine vx_ret ?_
    subst hAe
    exact W.iret (v := (V (18 + z.toNatClampNeg) y.toNatClampNeg)) hx hb hr (fun t9 ht9 hW9 => ⟨⟨_, (), rfl, ⟨rfl, (by simp [c_1, c_2])⟩, fz_to ht9 hP⟩, hS.F ht9⟩) hS.2.2 dX8_loan_43
  · skip
    rw [show (bif fz_ix y (V 17 0) then xIA else xIO) = xIO from (by simp [c_1])]
    subst hAe
    exact fz_throw (text := "there is no such loan") (cls := xIO) (ik := 109) (is := 111) (ic := 113) hx hb hst (hl.1.trans hml.symm) ht hlocks hown hts hE.1 (by decide +kernel) (by decide +kernel) (by decide +kernel) (by decide +kernel) (by decide +kernel) (by decide +kernel) (by decide +kernel) (by simp [c_1]) hP hS dX8_loan_14 dX8_loan_17 dX8_loan_18 dX8_loan_20 dX8_loan_23 (Nat.le_of_ble_eq_true rfl) (Nat.le_of_ble_eq_true rfl) (Nat.le_of_ble_eq_true rfl) (Nat.le_of_ble_eq_true rfl) (Nat.le_of_ble_eq_true rfl) (Nat.le_of_ble_eq_true rfl)
set_option maxHeartbeats 4000000 in
set_option maxRecDepth 100000 in
/-- FreezeCredits.waiting -/
theorem c_X8_waiting (l : Launch) (hst : l.stackTraces = false) (D : va_G) (cy : Nat → ClassId) (f t h x : Nat → Nat) (a : Nat → Nat) (V : Nat → Nat → Int32) (nt nc nq nl wk : Nat) (wf : fz_wf V nt nc nq nl wk) (y : Int32) : fz_XI l yX8_waiting wsX8_waiting 6 82 1 6 D cy [.ref (f 0), .int y] ((FW f a t h x) ++ (CW cy a V)) (fz_Ev (fz_in ((FW f a t h x) ++ (CW cy a V)))) (if y < V 8 1 then V 16 y.toNatClampNeg else -1) ((FW f a t h x) ++ (CW cy a V)) (!(decide (y < 0))) xIA ((FW f a t h x) ++ (CW cy a V)) := by
  refine vx_ofW (cc := cX8_waiting) (maxL := 2) (ret := (some .int)) (by decide) rfl ?_
  intro p e s m args below meth c s₁ B hml ht hv
  obtain ⟨rfl, hP, hK, hD0, hE⟩ := hv
  have hx := B.exec
  have hb := B.bytes
  have hr := B.returns
  have hts := atoms_spec (ws := wsX8_waiting) B.pre
  have hown : s.vm.findClass RX8 = some m.cls := findClass_of_methodNamed B.named
  have hlocks := B.notSynchronized
  have hD := fz_self hD0
  obtain ⟨A, hAe⟩ : ∃ A : Nat → Prop, A = fz_in ((FW f a t h x) ++ (CW cy a V)) := ⟨_, rfl⟩
  rw [← hAe] at hD
  have hE : fz_Ev A s := by rw [hAe]; exact hE
  have hS : va_S A s.heap s.heap [] := va_S.rf
  have hl := lv_entry ([.ref (f 0), .int y]) (n := 2) (Nat.le_of_ble_eq_true rfl)
  rw [lg_entry_eq]
  generalize (lg_sl ([.ref (f 0), .int y]) ++ List.replicate (2 - (lg_sl ([.ref (f 0), .int y])).length) Slot.unset).toArray = ls at hl ⊢
  have hl : lv_has ls 2 [(0, .ref (f 0)), (1, .int y)] := hl
  have k_12 := hts (.fieldLink RX8 12 "FreezeCredits" "now" "LFreezeCredits$Calendar;") (by decide +kernel)
  have inX8 : ∀ w ∈ u_ws RX8 TX8 4, w ∈ wsX8_waiting := by decide +kernel
  have k_90 := hts (.fieldLink RX8 90 "FreezeCredits$Calendar" "changes" "LFreezeCredits$Changes;") (by decide +kernel)
  have inX1 : ∀ w ∈ u_ws RX1 TX1 6, w ∈ wsX8_waiting := by decide +kernel
  have k_122 := hts (.fieldLink RX8 122 "FreezeCredits$Changes" "queued" "I") (by decide +kernel)
  have inX2 : ∀ w ∈ u_ws RX2 TX2 10, w ∈ wsX8_waiting := by decide +kernel
  have k_126 := hts (.fieldLink RX8 126 "FreezeCredits$Changes" "queue" "[I") (by decide +kernel)
  obtain ⟨hnt, hnt6, hnc, hnc30, hnq, hqc, hnl, hnl12, hwk, hwk39, hT, hQ, hG, hB⟩ := id wf
  refine lv_iload_n hx hb dX8_waiting_0 rfl (lv_at hl 1 rfl) ?_
  refine lv_if_ge (tgt := 14) hx hb dX8_waiting_1 (by decide) (fun c_1 => ?_) (fun c_1 => ?_)
  · skip
    refine lv_iload_n hx hb dX8_waiting_14 rfl (lv_at hl 1 rfl) ?_
    refine lv_aload_n hx hb dX8_waiting_15 rfl (lv_at hl 0 rfl) ?_
    refine va_get (D := D) (ci := 6) (v := .ref (a 0)) (C := RX8) (T := TX8) (N := 4) hx hb hts inX8 hown hK hP 0 rfl rfl 0 (by decide) k_12 (fun _ h9 => h9) rfl dX8_waiting_16 ?_
    refine va_get (D := D) (ci := 0) (v := .ref (a 8)) (C := RX1) (T := TX1) (N := 6) hx hb hts inX1 hown hK hP 1 rfl rfl 4 (by decide) k_90 (fun _ h9 => h9) rfl dX8_waiting_19 ?_
    refine va_get (D := D) (ci := 1) (v := .int (V 8 1)) (C := RX2) (T := TX2) (N := 10) hx hb hts inX2 hown hK hP 9 rfl rfl 8 (by decide) k_122 (fun _ h9 => h9) rfl dX8_waiting_22 ?_
    refine lv_icmp_ge (tgt := 43) hx hb dX8_waiting_25 (by decide) (fun c_2 => ?_) (fun c_2 => ?_)
    · skip
      refine lv_iconst (v := (-1)) hx hb dX8_waiting_43 (by decide) ?_
      refine fz_wd (k := 1) (n := 6) (Nat.le_of_ble_eq_true rfl) (Nat.le_of_ble_eq_true rfl) ?_
      refine vx_ret ?_
      subst hAe
      exact W.iret (v := (-1)) hx hb hr (fun t9 ht9 hW9 => ⟨⟨_, (), rfl, ⟨(by rw [if_neg (Int32.not_lt.mpr c_2)]), (by simp [Int32.not_lt.mpr c_1])⟩, fz_to ht9 hP⟩, hS.F ht9⟩) hS.2.2 dX8_waiting_44
    · skip
      refine lv_aload_n hx hb dX8_waiting_28 rfl (lv_at hl 0 rfl) ?_
      refine va_get (D := D) (ci := 6) (v := .ref (a 0)) (C := RX8) (T := TX8) (N := 4) hx hb hts inX8 hown hK hP 0 rfl rfl 0 (by decide) k_12 (fun _ h9 => h9) rfl dX8_waiting_29 ?_
      refine va_get (D := D) (ci := 0) (v := .ref (a 8)) (C := RX1) (T := TX1) (N := 6) hx hb hts inX1 hown hK hP 1 rfl rfl 4 (by decide) k_90 (fun _ h9 => h9) rfl dX8_waiting_32 ?_
      refine va_get (D := D) (ci := 1) (v := .ref (a 16)) (C := RX2) (T := TX2) (N := 10) hx hb hts inX2 hown hK hP 9 rfl rfl 9 (by decide) k_126 (fun _ h9 => h9) rfl dX8_waiting_35 ?_
      have hy := fz_vo_s (z := y) (n := nq) (by omega) (by rw [← hnq, fz_vo, decide_eq_false (Int32.not_lt.mpr c_1), decide_eq_true (Int32.not_le.mp c_2)]; rfl)
      refine lv_iload_n hx hb dX8_waiting_38 rfl (lv_at hl 1 rfl) ?_
      refine fz_iald (f := V 16) hx hb hK hP 17 0 rfl rfl y.toNatClampNeg hy.1 (by omega) (by decide) dX8_waiting_39 ?_
      refine lv_goto (tgt := 44) hx hb dX8_waiting_40 (by decide) ?_
      refine fz_wd (k := 1) (n := 6) (Nat.le_of_ble_eq_true rfl) (Nat.le_of_ble_eq_true rfl) ?_
      refine vx_ret ?_
      subst hAe
      exact W.iret (v := (V 16 y.toNatClampNeg)) hx hb hr (fun t9 ht9 hW9 => ⟨⟨_, (), rfl, ⟨(by rw [if_pos (Int32.not_le.mp c_2)]), (by simp [Int32.not_lt.mpr c_1])⟩, fz_to ht9 hP⟩, hS.F ht9⟩) hS.2.2 dX8_waiting_44
  · skip
    subst hAe
    exact fz_throw (text := "the index is negative") (cls := xIA) (ik := 117) (is := 119) (ic := 121) hx hb hst (hl.1.trans hml.symm) ht hlocks hown hts hE.1 (by decide +kernel) (by decide +kernel) (by decide +kernel) (by decide +kernel) (by decide +kernel) (by decide +kernel) (by decide +kernel) (by simp [Int32.not_le.mp c_1]) hP hS dX8_waiting_4 dX8_waiting_7 dX8_waiting_8 dX8_waiting_10 dX8_waiting_13 (Nat.le_of_ble_eq_true rfl) (Nat.le_of_ble_eq_true rfl) (Nat.le_of_ble_eq_true rfl) (Nat.le_of_ble_eq_true rfl) (Nat.le_of_ble_eq_true rfl) (Nat.le_of_ble_eq_true rfl)
set_option maxHeartbeats 4000000 in
set_option maxRecDepth 100000 in
/-- FreezeCredits.frozen -/
theorem c_X8_frozen (l : Launch) (hst : l.stackTraces = false) (D : va_G) (cy : Nat → ClassId) (f t h x : Nat → Nat) (a : Nat → Nat) (V : Nat → Nat → Int32) (y : Int32) : fz_XI l yX8_frozen wsX8_frozen 6 82 1 6 D cy [.ref (f 0), .int y] ((FW f a t h x) ++ (CW cy a V)) (fz_Ev (fz_in ((FW f a t h x) ++ (CW cy a V)))) (fz_nz (V 2 y.toNatClampNeg)) ((FW f a t h x) ++ (CW cy a V)) (fz_vo y 40) xIA ((FW f a t h x) ++ (CW cy a V)) := by
  refine vx_ofW (cc := cX8_frozen) (maxL := 2) (ret := (some .int)) (by decide) rfl ?_
  intro p e s m args below meth c s₁ B hml ht hv
  obtain ⟨rfl, hP, hK, hD0, hE⟩ := hv
  have hx := B.exec
  have hb := B.bytes
  have hr := B.returns
  have hts := atoms_spec (ws := wsX8_frozen) B.pre
  have hown : s.vm.findClass RX8 = some m.cls := findClass_of_methodNamed B.named
  have hlocks := B.notSynchronized
  have hD := fz_self hD0
  obtain ⟨A, hAe⟩ : ∃ A : Nat → Prop, A = fz_in ((FW f a t h x) ++ (CW cy a V)) := ⟨_, rfl⟩
  rw [← hAe] at hD
  have hE : fz_Ev A s := by rw [hAe]; exact hE
  have hS : va_S A s.heap s.heap [] := va_S.rf
  have hl := lv_entry ([.ref (f 0), .int y]) (n := 2) (Nat.le_of_ble_eq_true rfl)
  rw [lg_entry_eq]
  generalize (lg_sl ([.ref (f 0), .int y]) ++ List.replicate (2 - (lg_sl ([.ref (f 0), .int y])).length) Slot.unset).toArray = ls at hl ⊢
  have hl : lv_has ls 2 [(0, .ref (f 0)), (1, .int y)] := hl
  have k_12 := hts (.fieldLink RX8 12 "FreezeCredits" "now" "LFreezeCredits$Calendar;") (by decide +kernel)
  have inX8 : ∀ w ∈ u_ws RX8 TX8 4, w ∈ wsX8_frozen := by decide +kernel
  have k_132 := hts (.fieldLink RX8 132 "FreezeCredits$Calendar" "frozenWeeks" "[Z") (by decide +kernel)
  have inX1 : ∀ w ∈ u_ws RX1 TX1 6, w ∈ wsX8_frozen := by decide +kernel
  refine lv_iload_n hx hb dX8_frozen_0 rfl (lv_at hl 1 rfl) ?_
  refine lv_if_lt (tgt := 10) hx hb dX8_frozen_1 (by decide) (fun c_1 => ?_) (fun c_1 => ?_)
  · skip
    subst hAe
    exact fz_throw (text := "the week is out of range") (cls := xIA) (ik := 117) (is := 130) (ic := 121) hx hb hst (hl.1.trans hml.symm) ht hlocks hown hts hE.1 (by decide +kernel) (by decide +kernel) (by decide +kernel) (by decide +kernel) (by decide +kernel) (by decide +kernel) (by decide +kernel) (by simp [fz_vo, c_1]) hP hS dX8_frozen_10 dX8_frozen_13 dX8_frozen_14 dX8_frozen_16 dX8_frozen_19 (Nat.le_of_ble_eq_true rfl) (Nat.le_of_ble_eq_true rfl) (Nat.le_of_ble_eq_true rfl) (Nat.le_of_ble_eq_true rfl) (Nat.le_of_ble_eq_true rfl) (Nat.le_of_ble_eq_true rfl)
  · skip
    refine lv_iload_n hx hb dX8_frozen_4 rfl (lv_at hl 1 rfl) ?_
    refine lv_bipush (v := 39) hx hb dX8_frozen_5 (by decide) ?_
    refine lv_icmp_le (tgt := 20) hx hb dX8_frozen_7 (by decide) (fun c_2 => ?_) (fun c_2 => ?_)
    · skip
      refine lv_aload_n hx hb dX8_frozen_20 rfl (lv_at hl 0 rfl) ?_
      refine va_get (D := D) (ci := 6) (v := .ref (a 0)) (C := RX8) (T := TX8) (N := 4) hx hb hts inX8 hown hK hP 0 rfl rfl 0 (by decide) k_12 (fun _ h9 => h9) rfl dX8_frozen_21 ?_
      refine va_get (D := D) (ci := 0) (v := .ref (a 2)) (C := RX1) (T := TX1) (N := 6) hx hb hts inX1 hown hK hP 1 rfl rfl 2 (by decide) k_132 (fun _ h9 => h9) rfl dX8_frozen_24 ?_
      refine lv_iload_n hx hb dX8_frozen_27 rfl (lv_at hl 1 rfl) ?_
      have hy := fz_vo_s (z := y) (n := 40) (by decide) (fz_vo_40 c_1 c_2)
      refine fz_zald (f := V 2) hx hb hK hP 3 1 rfl rfl y.toNatClampNeg hy.1 (by omega) (by decide) dX8_frozen_28 ?_
      refine fz_retR (va_runS (As := [.int (V 2 y.toNatClampNeg)]) (rest := []) ⟨hx, hb, hml, hown, hts⟩ (c_X8_asNumber l D cy (V 2 y.toNatClampNeg)) (va_cwS 1 hts gX8_frozen_X8_asNumber rfl rfl rfl (by decide +kernel) ⟨Nat.le_of_ble_eq_true rfl, Nat.le_of_ble_eq_true rfl⟩) (fz_preS hK (fz_nil) fz_T_bl (fun _ _ _ => trivial)) rfl rfl hl.1 rfl (lv_room (Nat.le_of_ble_eq_true rfl)) dX8_frozen_29 ⟨Nat.le_of_ble_eq_true rfl, Nat.le_of_ble_eq_true rfl⟩) ?_
      refine fz_wd (k := 1) (n := 6) (Nat.le_of_ble_eq_true rfl) (Nat.le_of_ble_eq_true rfl) ?_
      refine vx_ret ?_
      subst hAe
      exact W.iret (v := (fz_nz (V 2 y.toNatClampNeg))) hx hb hr (fun t9 ht9 hW9 => ⟨⟨_, (), rfl, ⟨rfl, (fz_vo_40 c_1 c_2)⟩, fz_to ht9 hP⟩, hS.F ht9⟩) hS.2.2 dX8_frozen_32
    · skip
      subst hAe
      exact fz_throw (text := "the week is out of range") (cls := xIA) (ik := 117) (is := 130) (ic := 121) hx hb hst (hl.1.trans hml.symm) ht hlocks hown hts hE.1 (by decide +kernel) (by decide +kernel) (by decide +kernel) (by decide +kernel) (by decide +kernel) (by decide +kernel) (by decide +kernel) (fz_vo_40n c_2) hP hS dX8_frozen_10 dX8_frozen_13 dX8_frozen_14 dX8_frozen_16 dX8_frozen_19 (Nat.le_of_ble_eq_true rfl) (Nat.le_of_ble_eq_true rfl) (Nat.le_of_ble_eq_true rfl) (Nat.le_of_ble_eq_true rfl) (Nat.le_of_ble_eq_true rfl) (Nat.le_of_ble_eq_true rfl)
set_option maxHeartbeats 4000000 in
set_option maxRecDepth 100000 in
/-- FreezeCredits.wholeValue -/
theorem c_X8_wholeValue (l : Launch) (D : va_G) (cy : Nat → ClassId) (f t h : Nat → Nat) (a : Nat → Nat) (V : Nat → Nat → Int32) (x : Nat → Nat) (ad : Nat → Nat) (X : Nat → Nat → Int32) (vb : Option Nat) (nt nc nq nl wk : Nat) (wf : fz_wf V nt nc nq nl wk) (z : Nat) (hz : z < 18) (X : Nat → Nat → Int32) (ad : Nat → Nat) (vb : Option Nat) : fz_RI l yX8_wholeValue wsX8_wholeValue 4 87 D cy [.ref (f 0), .int (nI z)] ((FW f a t h x) ++ ((CW cy a V) ++ (XW cy ad x X vb))) fz_Nw (if z = 17 then X 0 0 else fz_wval V nt nc nl wk z) := by
  refine Met.ofW (cc := cX8_wholeValue) (maxL := 2) (ret := (some .int)) (by decide) rfl ?_
  intro p e s m args below meth c s₁ B hml hv
  obtain ⟨rfl, hP, hK, hE⟩ := hv
  have hx := B.exec
  have hb := B.bytes
  have hr := B.returns
  have hts := atoms_spec (ws := wsX8_wholeValue) B.pre
  have hown : s.vm.findClass RX8 = some m.cls := findClass_of_methodNamed B.named
  have hlocks := B.notSynchronized
  have hl := lv_entry ([.ref (f 0), .int (nI z)]) (n := 2) (Nat.le_of_ble_eq_true rfl)
  rw [lg_entry_eq]
  generalize (lg_sl ([.ref (f 0), .int (nI z)]) ++ List.replicate (2 - (lg_sl ([.ref (f 0), .int (nI z)])).length) Slot.unset).toArray = ls at hl ⊢
  have hl : lv_has ls 2 [(0, .ref (f 0)), (1, .int (nI z))] := hl
  have k_29 := hts (.fieldLink RX8 29 "FreezeCredits" "text" "LFreezeCredits$CommandText;") (by decide +kernel)
  have inX8 : ∀ w ∈ u_ws RX8 TX8 4, w ∈ wsX8_wholeValue := by decide +kernel
  have k_189 := hts (.fieldLink RX8 189 "FreezeCredits$CommandText" "length" "I") (by decide +kernel)
  have inX3 : ∀ w ∈ u_ws RX3 TX3 5, w ∈ wsX8_wholeValue := by decide +kernel
  have k_12 := hts (.fieldLink RX8 12 "FreezeCredits" "now" "LFreezeCredits$Calendar;") (by decide +kernel)
  obtain ⟨hnt, hnt6, hnc, hnc30, hnq, hqc, hnl, hnl12, hwk, hwk39, hT, hQ, hG, hB⟩ := id wf
  refine lv_iload_n hx hb dX8_wholeValue_0 rfl (lv_at hl 1 rfl) ?_
  refine lv_bipush (v := 17) hx hb dX8_wholeValue_1 (by decide) ?_
  refine fz_neN (tgt := 16) hx hb z 17 rfl rfl dX8_wholeValue_3 (by decide) (by omega) (by omega) (fun c_1 => ?_) (fun c_1 => ?_)
  · skip
    refine lv_aload_n hx hb dX8_wholeValue_16 rfl (lv_at hl 0 rfl) ?_
    refine va_get (D := D) (ci := 6) (v := .ref (a 0)) (C := RX8) (T := TX8) (N := 4) hx hb hts inX8 hown hK hP 0 rfl rfl 0 (by decide) k_12 (fun _ h9 => h9) rfl dX8_wholeValue_17 ?_
    refine lv_iload_n hx hb dX8_wholeValue_20 rfl (lv_at hl 1 rfl) ?_
    refine fz_retR (va_runV (As := [.int (nI z)]) (rest := []) ⟨hx, hb, hml, hown, hts⟩ (c_X1_valueOfAll l D cy a V nt nc nq nl wk wf z (by omega)) (cwV 1 hts gX8_wholeValue_X1_valueOfAll rfl rfl rfl (by decide +kernel) ⟨Nat.le_of_ble_eq_true rfl, Nat.le_of_ble_eq_true rfl⟩) (fz_preV (ci := 0) (q0 := 0) hK (hP.sub (ws' := CW cy a V) [1, 2, 3, 4, 5, 6, 7, 8, 9, 10, 11, 12, 13, 14, 15, 16, 17, 18, 19, 20, 21, 22, 23, 24] rfl) rfl rfl rfl fz_Nw_bl (fun U _ hW => fz_Nw_warm hW hE)) rfl rfl hl.1 rfl (lv_room (Nat.le_of_ble_eq_true rfl)) dX8_wholeValue_21 ⟨Nat.zero_le _, Nat.zero_le _⟩) ?_
    exact W.iret (v := (fz_wval V nt nc nl wk z)) hx hb hr (fun t9 ht9 hW9 => ⟨_, rfl, (by rw [if_neg c_1]), ht9⟩) (fun _ h => nomatch h) dX8_wholeValue_24
  · skip
    refine lv_aload_n hx hb dX8_wholeValue_6 rfl (lv_at hl 0 rfl) ?_
    refine va_get (D := D) (ci := 6) (v := .ref (x 0)) (C := RX8) (T := TX8) (N := 4) hx hb hts inX8 hown hK hP 0 rfl rfl 3 (by decide) k_29 (fun _ h9 => h9) rfl dX8_wholeValue_7 ?_
    refine va_get (D := D) (ci := 2) (v := .int (X 0 0)) (C := RX3) (T := TX3) (N := 5) hx hb hts inX3 hown hK hP 25 rfl rfl 0 (by decide) k_189 (fun _ h9 => h9) rfl dX8_wholeValue_10 ?_
    refine lv_goto (tgt := 24) hx hb dX8_wholeValue_13 (by decide) ?_
    exact W.iret (v := (X 0 0)) hx hb hr (fun t9 ht9 hW9 => ⟨_, rfl, (by rw [if_pos c_1]), ht9⟩) (fun _ h => nomatch h) dX8_wholeValue_24
set_option maxHeartbeats 4000000 in
set_option maxRecDepth 100000 in
/-- FreezeCredits.reason -/
theorem c_X8_reason (l : Launch) (hst : l.stackTraces = false) (D : va_G) (cy : Nat → ClassId) (f t h x : Nat → Nat) (a : Nat → Nat) (V : Nat → Nat → Int32) (nt nc nq nl wk : Nat) (wf : fz_wf V nt nc nq nl wk) (y : Int32) : fz_XI l yX8_reason wsX8_reason 7 103 1 6 D cy [.ref (f 0), .int y] ((FW f a t h x) ++ (CW cy a V)) (fz_Ev (fz_in ((FW f a t h x) ++ (CW cy a V)))) (fz_reason V nl y.toNatClampNeg) ((FW f a t h x) ++ (CW cy a V)) (fz_ix y (V 8 0)) xIO ((FW f a t h x) ++ (CW cy a V)) := by
  refine vx_ofW (cc := cX8_reason) (maxL := 2) (ret := (some .int)) (by decide) rfl ?_
  intro p e s m args below meth c s₁ B hml ht hv
  obtain ⟨rfl, hP, hK, hD0, hE⟩ := hv
  have hx := B.exec
  have hb := B.bytes
  have hr := B.returns
  have hts := atoms_spec (ws := wsX8_reason) B.pre
  have hown : s.vm.findClass RX8 = some m.cls := findClass_of_methodNamed B.named
  have hlocks := B.notSynchronized
  have hD := fz_self hD0
  obtain ⟨A, hAe⟩ : ∃ A : Nat → Prop, A = fz_in ((FW f a t h x) ++ (CW cy a V)) := ⟨_, rfl⟩
  rw [← hAe] at hD
  have hE : fz_Ev A s := by rw [hAe]; exact hE
  have hS : va_S A s.heap s.heap [] := va_S.rf
  have hl := lv_entry ([.ref (f 0), .int y]) (n := 2) (Nat.le_of_ble_eq_true rfl)
  rw [lg_entry_eq]
  generalize (lg_sl ([.ref (f 0), .int y]) ++ List.replicate (2 - (lg_sl ([.ref (f 0), .int y])).length) Slot.unset).toArray = ls at hl ⊢
  have hl : lv_has ls 2 [(0, .ref (f 0)), (1, .int y)] := hl
  have k_12 := hts (.fieldLink RX8 12 "FreezeCredits" "now" "LFreezeCredits$Calendar;") (by decide +kernel)
  have inX8 : ∀ w ∈ u_ws RX8 TX8 4, w ∈ wsX8_reason := by decide +kernel
  obtain ⟨hnt, hnt6, hnc, hnc30, hnq, hqc, hnl, hnl12, hwk, hwk39, hT, hQ, hG, hB⟩ := id wf
  refine lv_aload_n hx hb dX8_reason_0 rfl (lv_at hl 0 rfl) ?_
  refine lv_iload_n hx hb dX8_reason_1 rfl (lv_at hl 1 rfl) ?_
  refine fz_xretV (P := ([] : va_W)) (S := ([] : va_W)) (Wc := ((FW f a t h x) ++ (CW cy a V))) (Wc' := ((FW f a t h x) ++ (CW cy a V))) (WX := ((FW f a t h x) ++ (CW cy a V))) (vx_runV (As := [.int y]) (rest := []) ⟨hx, hb, hml, hown, hts⟩ (c_X8_needChange l hst D cy f t h x a V y) (cwV 1 hts gX8_reason_X8_needChange rfl rfl rfl (by decide +kernel) ⟨Nat.le_of_ble_eq_true rfl, Nat.le_of_ble_eq_true rfl⟩) (fz_preMV (ci := 6) (q0 := 0) hK hP hD rfl rfl rfl fz_Ev_bl (fun U hU hW => hE.up hU hS hW (fun q h => fz_inD hD h))) rfl rfl hl.1 rfl (lv_room (Nat.le_of_ble_eq_true rfl)) dX8_reason_2 ⟨Nat.le_of_ble_eq_true rfl, Nat.le_of_ble_eq_true rfl⟩) hP hD hS rfl rfl (fun c_1 H locs q9 ce hP hD hS h7 h8 h9 => ?_) (fun c_1 H locs hP hD hS => ?_)
  · skip
    subst hAe
    exact fz_xout ht hlocks (by simp [c_1]) rfl hP hS h7 h8 h9 (Nat.le_of_ble_eq_true rfl) (Nat.le_of_ble_eq_true rfl)
  have hP : va_P D vwCl ((FW f a t h x) ++ (CW cy a V)) H := hP
  have hD : va_D A ((FW f a t h x) ++ (CW cy a V)) := hD
  refine lv_aload_n hx hb dX8_reason_5 rfl (lv_at hl 0 rfl) ?_
  refine va_get (D := D) (ci := 6) (v := .ref (a 0)) (C := RX8) (T := TX8) (N := 4) hx hb hts inX8 hown hK hP 0 rfl rfl 0 (by decide) k_12 (fun _ h9 => h9) rfl dX8_reason_6 ?_
  refine lv_iload_n hx hb dX8_reason_9 rfl (lv_at hl 1 rfl) ?_
  have hy := fz_ix_s c_1 hnc (by omega)
  refine fz_at0 (show y = nI y.toNatClampNeg from hy.1) ?_
  refine fz_retR (va_runV (As := [.int (nI y.toNatClampNeg)]) (rest := []) ⟨hx, hb, hml, hown, hts⟩ (c_X1_reasonAgainst l D cy a V nt nc nq nl wk wf y.toNatClampNeg (by omega)) (cwV 1 hts gX8_reason_X1_reasonAgainst rfl rfl rfl (by decide +kernel) ⟨Nat.le_of_ble_eq_true rfl, Nat.le_of_ble_eq_true rfl⟩) (fz_preV (ci := 0) (q0 := 0) hK (hP.sub (ws' := CW cy a V) [1, 2, 3, 4, 5, 6, 7, 8, 9, 10, 11, 12, 13, 14, 15, 16, 17, 18, 19, 20, 21, 22, 23, 24] rfl) rfl rfl rfl fz_T_bl (fun _ _ _ => trivial)) rfl rfl hl.1 rfl (lv_room (Nat.le_of_ble_eq_true rfl)) dX8_reason_10 ⟨Nat.le_of_ble_eq_true rfl, Nat.le_of_ble_eq_true rfl⟩) ?_
  refine fz_wd (k := 1) (n := 6) (Nat.le_of_ble_eq_true rfl) (Nat.le_of_ble_eq_true rfl) ?_
  refine vx_ret ?_
  subst hAe
  exact W.iret (v := (fz_reason V nl y.toNatClampNeg)) hx hb hr (fun t9 ht9 hW9 => ⟨⟨_, (), rfl, ⟨rfl, (by simp [c_1])⟩, fz_to ht9 hP⟩, hS.F ht9⟩) hS.2.2 dX8_reason_13
set_option maxHeartbeats 4000000 in
set_option maxRecDepth 100000 in
/-- FreezeCredits.exemptible -/
theorem c_X8_exemptible (l : Launch) (hst : l.stackTraces = false) (D : va_G) (cy : Nat → ClassId) (f t h x : Nat → Nat) (a : Nat → Nat) (V : Nat → Nat → Int32) (nt nc nq nl wk : Nat) (wf : fz_wf V nt nc nq nl wk) (y : Int32) : fz_XI l yX8_exemptible wsX8_exemptible 7 103 1 6 D cy [.ref (f 0), .int y] ((FW f a t h x) ++ (CW cy a V)) (fz_Ev (fz_in ((FW f a t h x) ++ (CW cy a V)))) (fz_xc V nl nq y.toNatClampNeg) ((FW f a t h x) ++ (CW cy a V)) (fz_ix y (V 3 0)) xIO ((FW f a t h x) ++ (CW cy a V)) := by
  refine vx_ofW (cc := cX8_exemptible) (maxL := 2) (ret := (some .int)) (by decide) rfl ?_
  intro p e s m args below meth c s₁ B hml ht hv
  obtain ⟨rfl, hP, hK, hD0, hE⟩ := hv
  have hx := B.exec
  have hb := B.bytes
  have hr := B.returns
  have hts := atoms_spec (ws := wsX8_exemptible) B.pre
  have hown : s.vm.findClass RX8 = some m.cls := findClass_of_methodNamed B.named
  have hlocks := B.notSynchronized
  have hD := fz_self hD0
  obtain ⟨A, hAe⟩ : ∃ A : Nat → Prop, A = fz_in ((FW f a t h x) ++ (CW cy a V)) := ⟨_, rfl⟩
  rw [← hAe] at hD
  have hE : fz_Ev A s := by rw [hAe]; exact hE
  have hS : va_S A s.heap s.heap [] := va_S.rf
  have hl := lv_entry ([.ref (f 0), .int y]) (n := 2) (Nat.le_of_ble_eq_true rfl)
  rw [lg_entry_eq]
  generalize (lg_sl ([.ref (f 0), .int y]) ++ List.replicate (2 - (lg_sl ([.ref (f 0), .int y])).length) Slot.unset).toArray = ls at hl ⊢
  have hl : lv_has ls 2 [(0, .ref (f 0)), (1, .int y)] := hl
  have k_12 := hts (.fieldLink RX8 12 "FreezeCredits" "now" "LFreezeCredits$Calendar;") (by decide +kernel)
  have inX8 : ∀ w ∈ u_ws RX8 TX8 4, w ∈ wsX8_exemptible := by decide +kernel
  obtain ⟨hnt, hnt6, hnc, hnc30, hnq, hqc, hnl, hnl12, hwk, hwk39, hT, hQ, hG, hB⟩ := id wf
  refine lv_aload_n hx hb dX8_exemptible_0 rfl (lv_at hl 0 rfl) ?_
  refine lv_iload_n hx hb dX8_exemptible_1 rfl (lv_at hl 1 rfl) ?_
  refine fz_xretV (P := ([] : va_W)) (S := ([] : va_W)) (Wc := ((FW f a t h x) ++ (CW cy a V))) (Wc' := ((FW f a t h x) ++ (CW cy a V))) (WX := ((FW f a t h x) ++ (CW cy a V))) (vx_runV (As := [.int y]) (rest := []) ⟨hx, hb, hml, hown, hts⟩ (c_X8_needTeam l hst D cy f t h x a V y) (cwV 1 hts gX8_exemptible_X8_needTeam rfl rfl rfl (by decide +kernel) ⟨Nat.le_of_ble_eq_true rfl, Nat.le_of_ble_eq_true rfl⟩) (fz_preMV (ci := 6) (q0 := 0) hK hP hD rfl rfl rfl fz_Ev_bl (fun U hU hW => hE.up hU hS hW (fun q h => fz_inD hD h))) rfl rfl hl.1 rfl (lv_room (Nat.le_of_ble_eq_true rfl)) dX8_exemptible_2 ⟨Nat.le_of_ble_eq_true rfl, Nat.le_of_ble_eq_true rfl⟩) hP hD hS rfl rfl (fun c_1 H locs q9 ce hP hD hS h7 h8 h9 => ?_) (fun c_1 H locs hP hD hS => ?_)
  · skip
    subst hAe
    exact fz_xout ht hlocks (by simp [c_1]) rfl hP hS h7 h8 h9 (Nat.le_of_ble_eq_true rfl) (Nat.le_of_ble_eq_true rfl)
  have hP : va_P D vwCl ((FW f a t h x) ++ (CW cy a V)) H := hP
  have hD : va_D A ((FW f a t h x) ++ (CW cy a V)) := hD
  refine lv_aload_n hx hb dX8_exemptible_5 rfl (lv_at hl 0 rfl) ?_
  refine va_get (D := D) (ci := 6) (v := .ref (a 0)) (C := RX8) (T := TX8) (N := 4) hx hb hts inX8 hown hK hP 0 rfl rfl 0 (by decide) k_12 (fun _ h9 => h9) rfl dX8_exemptible_6 ?_
  refine lv_iload_n hx hb dX8_exemptible_9 rfl (lv_at hl 1 rfl) ?_
  have hy := fz_ix_s c_1 hnt (by omega)
  refine fz_at0 (show y = nI y.toNatClampNeg from hy.1) ?_
  refine fz_retR (va_runV (As := [.int (nI y.toNatClampNeg)]) (rest := []) ⟨hx, hb, hml, hown, hts⟩ (c_X1_countExemptible l D cy a V nt nc nq nl wk wf y.toNatClampNeg (by omega)) (cwV 1 hts gX8_exemptible_X1_countExemptible rfl rfl rfl (by decide +kernel) ⟨Nat.le_of_ble_eq_true rfl, Nat.le_of_ble_eq_true rfl⟩) (fz_preV (ci := 0) (q0 := 0) hK (hP.sub (ws' := CW cy a V) [1, 2, 3, 4, 5, 6, 7, 8, 9, 10, 11, 12, 13, 14, 15, 16, 17, 18, 19, 20, 21, 22, 23, 24] rfl) rfl rfl rfl fz_T_bl (fun _ _ _ => trivial)) rfl rfl hl.1 rfl (lv_room (Nat.le_of_ble_eq_true rfl)) dX8_exemptible_10 ⟨Nat.le_of_ble_eq_true rfl, Nat.le_of_ble_eq_true rfl⟩) ?_
  refine fz_wd (k := 1) (n := 6) (Nat.le_of_ble_eq_true rfl) (Nat.le_of_ble_eq_true rfl) ?_
  refine vx_ret ?_
  subst hAe
  exact W.iret (v := (fz_xc V nl nq y.toNatClampNeg)) hx hb hr (fun t9 ht9 hW9 => ⟨⟨_, (), rfl, ⟨rfl, (by simp [c_1])⟩, fz_to ht9 hP⟩, hS.F ht9⟩) hS.2.2 dX8_exemptible_13
set_option maxHeartbeats 4000000 in
set_option maxRecDepth 100000 in
/-- FreezeCredits.lender -/
theorem c_X8_lender (l : Launch) (hst : l.stackTraces = false) (D : va_G) (cy : Nat → ClassId) (f t h x : Nat → Nat) (a : Nat → Nat) (V : Nat → Nat → Int32) (nt nc nq nl wk : Nat) (wf : fz_wf V nt nc nq nl wk) (y z : Int32) : fz_XI l yX8_lender wsX8_lender 7 103 2 12 D cy [.ref (f 0), .int y, .int z] ((FW f a t h x) ++ (CW cy a V)) (fz_Ev (fz_in ((FW f a t h x) ++ (CW cy a V)))) (fz_ldr V nt nl y z) ((FW f a t h x) ++ (CW cy a V)) (fz_ix y (V 3 0) && fz_risk z) (bif fz_ix y (V 3 0) then xIA else xIO) ((FW f a t h x) ++ (CW cy a V)) := by
  refine vx_ofW (cc := cX8_lender) (maxL := 4) (ret := (some .int)) (by decide) rfl ?_
  intro p e s m args below meth c s₁ B hml ht hv
  obtain ⟨rfl, hP, hK, hD0, hE⟩ := hv
  have hx := B.exec
  have hb := B.bytes
  have hr := B.returns
  have hts := atoms_spec (ws := wsX8_lender) B.pre
  have hown : s.vm.findClass RX8 = some m.cls := findClass_of_methodNamed B.named
  have hlocks := B.notSynchronized
  have hD := fz_self hD0
  obtain ⟨A, hAe⟩ : ∃ A : Nat → Prop, A = fz_in ((FW f a t h x) ++ (CW cy a V)) := ⟨_, rfl⟩
  rw [← hAe] at hD
  have hE : fz_Ev A s := by rw [hAe]; exact hE
  have hS : va_S A s.heap s.heap [] := va_S.rf
  have hl := lv_entry ([.ref (f 0), .int y, .int z]) (n := 4) (Nat.le_of_ble_eq_true rfl)
  rw [lg_entry_eq]
  generalize (lg_sl ([.ref (f 0), .int y, .int z]) ++ List.replicate (4 - (lg_sl ([.ref (f 0), .int y, .int z])).length) Slot.unset).toArray = ls at hl ⊢
  have hl : lv_has ls 4 [(0, .ref (f 0)), (1, .int y), (2, .int z)] := hl
  have k_12 := hts (.fieldLink RX8 12 "FreezeCredits" "now" "LFreezeCredits$Calendar;") (by decide +kernel)
  have inX8 : ∀ w ∈ u_ws RX8 TX8 4, w ∈ wsX8_lender := by decide +kernel
  have k_161 := hts (.fieldLink RX8 161 "FreezeCredits$Calendar" "teams" "LFreezeCredits$Teams;") (by decide +kernel)
  have inX1 : ∀ w ∈ u_ws RX1 TX1 6, w ∈ wsX8_lender := by decide +kernel
  have k_165 := hts (.fieldLink RX8 165 "FreezeCredits$Teams" "free" "[I") (by decide +kernel)
  have inX6 : ∀ w ∈ u_ws RX6 TX6 5, w ∈ wsX8_lender := by decide +kernel
  obtain ⟨hnt, hnt6, hnc, hnc30, hnq, hqc, hnl, hnl12, hwk, hwk39, hT, hQ, hG, hB⟩ := id wf
  refine lv_aload_n hx hb dX8_lender_0 rfl (lv_at hl 0 rfl) ?_
  refine lv_iload_n hx hb dX8_lender_1 rfl (lv_at hl 1 rfl) ?_
  refine fz_xretV (P := ([] : va_W)) (S := ([] : va_W)) (Wc := ((FW f a t h x) ++ (CW cy a V))) (Wc' := ((FW f a t h x) ++ (CW cy a V))) (WX := ((FW f a t h x) ++ (CW cy a V))) (vx_runV (As := [.int y]) (rest := []) ⟨hx, hb, hml, hown, hts⟩ (c_X8_needTeam l hst D cy f t h x a V y) (cwV 1 hts gX8_lender_X8_needTeam rfl rfl rfl (by decide +kernel) ⟨Nat.le_of_ble_eq_true rfl, Nat.le_of_ble_eq_true rfl⟩) (fz_preMV (ci := 6) (q0 := 0) hK hP hD rfl rfl rfl fz_Ev_bl (fun U hU hW => hE.up hU hS hW (fun q h => fz_inD hD h))) rfl rfl hl.1 rfl (lv_room (Nat.le_of_ble_eq_true rfl)) dX8_lender_2 ⟨Nat.le_of_ble_eq_true rfl, Nat.le_of_ble_eq_true rfl⟩) hP hD hS rfl rfl (fun c_1 H locs q9 ce hP hD hS h7 h8 h9 => ?_) (fun c_1 H locs hP hD hS => ?_)
  · skip
    subst hAe
    exact fz_xout ht hlocks (by simp [c_1]) (by simp [c_1]) hP hS h7 h8 h9 (Nat.le_of_ble_eq_true rfl) (Nat.le_of_ble_eq_true rfl)
  have hP : va_P D vwCl ((FW f a t h x) ++ (CW cy a V)) H := hP
  have hD : va_D A ((FW f a t h x) ++ (CW cy a V)) := hD
  refine lv_aload_n hx hb dX8_lender_5 rfl (lv_at hl 0 rfl) ?_
  refine lv_iload_n hx hb dX8_lender_6 rfl (lv_at hl 2 rfl) ?_
  refine fz_xretV (P := ([] : va_W)) (S := ([] : va_W)) (Wc := ((FW f a t h x) ++ (CW cy a V))) (Wc' := ((FW f a t h x) ++ (CW cy a V))) (WX := ((FW f a t h x) ++ (CW cy a V))) (vx_runV (As := [.int z]) (rest := []) ⟨hx, hb, hml, hown, hts⟩ (c_X8_needRisk l hst D cy f t h x a V z) (cwV 1 hts gX8_lender_X8_needRisk rfl rfl rfl (by decide +kernel) ⟨Nat.le_of_ble_eq_true rfl, Nat.le_of_ble_eq_true rfl⟩) (fz_preMV (ci := 6) (q0 := 0) hK hP hD rfl rfl rfl fz_Ev_bl (fun U hU hW => hE.up hU hS hW (fun q h => fz_inD hD h))) rfl rfl hl.1 rfl (lv_room (Nat.le_of_ble_eq_true rfl)) dX8_lender_7 ⟨Nat.le_of_ble_eq_true rfl, Nat.le_of_ble_eq_true rfl⟩) hP hD hS rfl rfl (fun c_2 H locs q9 ce hP hD hS h7 h8 h9 => ?_) (fun c_2 H locs hP hD hS => ?_)
  · skip
    subst hAe
    exact fz_xout ht hlocks (by simp [c_1, c_2]) (by simp [c_1]) hP hS h7 h8 h9 (Nat.le_of_ble_eq_true rfl) (Nat.le_of_ble_eq_true rfl)
  have hP : va_P D vwCl ((FW f a t h x) ++ (CW cy a V)) H := hP
  have hD : va_D A ((FW f a t h x) ++ (CW cy a V)) := hD
  refine lv_aload_n hx hb dX8_lender_10 rfl (lv_at hl 0 rfl) ?_
  refine va_get (D := D) (ci := 6) (v := .ref (a 0)) (C := RX8) (T := TX8) (N := 4) hx hb hts inX8 hown hK hP 0 rfl rfl 0 (by decide) k_12 (fun _ h9 => h9) rfl dX8_lender_11 ?_
  refine lv_iload_n hx hb dX8_lender_14 rfl (lv_at hl 2 rfl) ?_
  refine fz_retR (va_runV (As := [.int z]) (rest := []) ⟨hx, hb, hml, hown, hts⟩ (c_X1_creditsOf l D cy a V nt nc nq nl wk wf z) (cwV 1 hts gX8_lender_X1_creditsOf rfl rfl rfl (by decide +kernel) ⟨Nat.le_of_ble_eq_true rfl, Nat.le_of_ble_eq_true rfl⟩) (fz_preV (ci := 0) (q0 := 0) hK (hP.sub (ws' := CW cy a V) [1, 2, 3, 4, 5, 6, 7, 8, 9, 10, 11, 12, 13, 14, 15, 16, 17, 18, 19, 20, 21, 22, 23, 24] rfl) rfl rfl rfl fz_T_bl (fun _ _ _ => trivial)) rfl rfl hl.1 rfl (lv_room (Nat.le_of_ble_eq_true rfl)) dX8_lender_15 ⟨Nat.le_of_ble_eq_true rfl, Nat.le_of_ble_eq_true rfl⟩) ?_
  refine lv_aload_n hx hb dX8_lender_18 rfl (lv_at hl 0 rfl) ?_
  refine va_get (D := D) (ci := 6) (v := .ref (a 0)) (C := RX8) (T := TX8) (N := 4) hx hb hts inX8 hown hK hP 0 rfl rfl 0 (by decide) k_12 (fun _ h9 => h9) rfl dX8_lender_19 ?_
  refine va_get (D := D) (ci := 0) (v := .ref (a 3)) (C := RX1) (T := TX1) (N := 6) hx hb hts inX1 hown hK hP 1 rfl rfl 3 (by decide) k_161 (fun _ h9 => h9) rfl dX8_lender_22 ?_
  refine va_get (D := D) (ci := 5) (v := .ref (a 4)) (C := RX6) (T := TX6) (N := 5) hx hb hts inX6 hown hK hP 4 rfl rfl 1 (by decide) k_165 (fun _ h9 => h9) rfl dX8_lender_25 ?_
  refine lv_iload_n hx hb dX8_lender_28 rfl (lv_at hl 1 rfl) ?_
  have hy := fz_ix_s c_1 hnt (by omega)
  refine fz_iald (f := V 4) hx hb hK hP 5 0 rfl rfl y.toNatClampNeg hy.1 (by omega) (by decide) dX8_lender_29 ?_
  refine lv_isub hx hb dX8_lender_30 ?_
  refine lv_istore_n (lv' := [(3, .int ((z * V 1 0) - (V 4 y.toNatClampNeg))), (0, .ref (f 0)), (1, .int y), (2, .int z)]) hx hb dX8_lender_31 rfl hl (by decide) rfl (fun ls hl => ?_)
  refine lv_iload_n hx hb dX8_lender_32 rfl (lv_at hl 0 rfl) ?_
  refine lv_if_le (tgt := 47) hx hb dX8_lender_33 (by decide) (fun c_3 => ?_) (fun c_3 => ?_)
  · skip
    refine lv_iconst (v := (-1)) hx hb dX8_lender_47 (by decide) ?_
    refine fz_wd (k := 2) (n := 12) (Nat.le_of_ble_eq_true rfl) (Nat.le_of_ble_eq_true rfl) ?_
    refine vx_ret ?_
    subst hAe
    exact W.iret (v := (-1)) hx hb hr (fun t9 ht9 hW9 => ⟨⟨_, (), rfl, ⟨(by simp [fz_ldr, c_3]), (by rw [c_1, c_2]; rfl)⟩, fz_to ht9 hP⟩, hS.F ht9⟩) hS.2.2 dX8_lender_48
  · skip
    refine lv_aload_n hx hb dX8_lender_36 rfl (lv_at hl 1 rfl) ?_
    refine va_get (D := D) (ci := 6) (v := .ref (a 0)) (C := RX8) (T := TX8) (N := 4) hx hb hts inX8 hown hK hP 0 rfl rfl 0 (by decide) k_12 (fun _ h9 => h9) rfl dX8_lender_37 ?_
    refine lv_iload_n hx hb dX8_lender_40 rfl (lv_at hl 2 rfl) ?_
    refine fz_retR (va_runV (As := [.int y]) (rest := []) ⟨hx, hb, hml, hown, hts⟩ (c_X1_owes l D cy a V nt nc nq nl wk wf y) (cwV 1 hts gX8_lender_X1_owes rfl rfl rfl (by decide +kernel) ⟨Nat.le_of_ble_eq_true rfl, Nat.le_of_ble_eq_true rfl⟩) (fz_preV (ci := 0) (q0 := 0) hK (hP.sub (ws' := CW cy a V) [1, 2, 3, 4, 5, 6, 7, 8, 9, 10, 11, 12, 13, 14, 15, 16, 17, 18, 19, 20, 21, 22, 23, 24] rfl) rfl rfl rfl fz_T_bl (fun _ _ _ => trivial)) rfl rfl hl.1 rfl (lv_room (Nat.le_of_ble_eq_true rfl)) dX8_lender_41 ⟨Nat.le_of_ble_eq_true rfl, Nat.le_of_ble_eq_true rfl⟩) ?_
    refine fz_ifeqB (tgt := 49) hx hb dX8_lender_44 (by decide) (fun c_4 => ?_) (fun c_4 => ?_)
    · skip
      refine lv_aload_n hx hb dX8_lender_49 rfl (lv_at hl 1 rfl) ?_
      refine va_get (D := D) (ci := 6) (v := .ref (a 0)) (C := RX8) (T := TX8) (N := 4) hx hb hts inX8 hown hK hP 0 rfl rfl 0 (by decide) k_12 (fun _ h9 => h9) rfl dX8_lender_50 ?_
      refine va_get (D := D) (ci := 0) (v := .ref (a 3)) (C := RX1) (T := TX1) (N := 6) hx hb hts inX1 hown hK hP 1 rfl rfl 3 (by decide) k_161 (fun _ h9 => h9) rfl dX8_lender_53 ?_
      refine lv_iload_n hx hb dX8_lender_56 rfl (lv_at hl 2 rfl) ?_
      refine lv_iload_n hx hb dX8_lender_57 rfl (lv_at hl 0 rfl) ?_
      refine fz_retR (va_runV (As := [.int y, .int ((z * V 1 0) - (V 4 y.toNatClampNeg))]) (rest := []) ⟨hx, hb, hml, hown, hts⟩ (c_X6_richestOther l D cy a V y ((z * V 1 0) - (V 4 y.toNatClampNeg)) nt hnt hnt6) (cwV 2 hts gX8_lender_X6_richestOther rfl rfl rfl (by decide +kernel) ⟨Nat.le_of_ble_eq_true rfl, Nat.le_of_ble_eq_true rfl⟩) (fz_preV (ci := 5) (q0 := 0) hK (hP.sub (ws' := TW cy a V) [4, 5, 6, 7, 8] rfl) rfl rfl rfl fz_T_bl (fun _ _ _ => trivial)) rfl rfl hl.1 rfl (lv_room (Nat.le_of_ble_eq_true rfl)) dX8_lender_58 ⟨Nat.le_of_ble_eq_true rfl, Nat.le_of_ble_eq_true rfl⟩) ?_
      refine fz_wd (k := 2) (n := 12) (Nat.le_of_ble_eq_true rfl) (Nat.le_of_ble_eq_true rfl) ?_
      refine vx_ret ?_
      subst hAe
      exact W.iret (v := (fz_rich (V 4) y ((z * V 1 0) - (V 4 y.toNatClampNeg)) nt)) hx hb hr (fun t9 ht9 hW9 => ⟨⟨_, (), rfl, ⟨(by simp [fz_ldr, c_3, c_4]), (by rw [c_1, c_2]; rfl)⟩, fz_to ht9 hP⟩, hS.F ht9⟩) hS.2.2 dX8_lender_61
    · skip
      refine lv_iconst (v := (-1)) hx hb dX8_lender_47 (by decide) ?_
      refine fz_wd (k := 2) (n := 12) (Nat.le_of_ble_eq_true rfl) (Nat.le_of_ble_eq_true rfl) ?_
      refine vx_ret ?_
      subst hAe
      exact W.iret (v := (-1)) hx hb hr (fun t9 ht9 hW9 => ⟨⟨_, (), rfl, ⟨(by simp [fz_ldr, c_3, c_4]), (by rw [c_1, c_2]; rfl)⟩, fz_to ht9 hP⟩, hS.F ht9⟩) hS.2.2 dX8_lender_48
set_option maxHeartbeats 4000000 in
set_option maxRecDepth 100000 in
/-- FreezeCredits.nextThaw -/
theorem c_X8_nextThaw (l : Launch) (D : va_G) (cy : Nat → ClassId) (f t h x : Nat → Nat) (a : Nat → Nat) (V : Nat → Nat → Int32) (nt nc nq nl wk : Nat) (wf : fz_wf V nt nc nq nl wk) : fz_RI l yX8_nextThaw wsX8_nextThaw 1 21 D cy [.ref (f 0)] ((FW f a t h x) ++ (CW cy a V)) fz_T (fz_thaw (V 2) wk) := by
  refine Met.ofW (cc := cX8_nextThaw) (maxL := 1) (ret := (some .int)) (by decide) rfl ?_
  intro p e s m args below meth c s₁ B hml hv
  obtain ⟨rfl, hP, hK, hE⟩ := hv
  have hx := B.exec
  have hb := B.bytes
  have hr := B.returns
  have hts := atoms_spec (ws := wsX8_nextThaw) B.pre
  have hown : s.vm.findClass RX8 = some m.cls := findClass_of_methodNamed B.named
  have hlocks := B.notSynchronized
  have hl := lv_entry ([.ref (f 0)]) (n := 1) (Nat.le_of_ble_eq_true rfl)
  rw [lg_entry_eq]
  generalize (lg_sl ([.ref (f 0)]) ++ List.replicate (1 - (lg_sl ([.ref (f 0)])).length) Slot.unset).toArray = ls at hl ⊢
  have hl : lv_has ls 1 [(0, .ref (f 0))] := hl
  have k_12 := hts (.fieldLink RX8 12 "FreezeCredits" "now" "LFreezeCredits$Calendar;") (by decide +kernel)
  have inX8 : ∀ w ∈ u_ws RX8 TX8 4, w ∈ wsX8_nextThaw := by decide +kernel
  obtain ⟨hnt, hnt6, hnc, hnc30, hnq, hqc, hnl, hnl12, hwk, hwk39, hT, hQ, hG, hB⟩ := id wf
  refine lv_aload_n hx hb dX8_nextThaw_0 rfl (lv_at hl 0 rfl) ?_
  refine va_get (D := D) (ci := 6) (v := .ref (a 0)) (C := RX8) (T := TX8) (N := 4) hx hb hts inX8 hown hK hP 0 rfl rfl 0 (by decide) k_12 (fun _ h9 => h9) rfl dX8_nextThaw_1 ?_
  refine fz_retR (va_runV (As := []) (rest := []) ⟨hx, hb, hml, hown, hts⟩ (c_X1_firstThaw l D cy a V nt nc nq nl wk wf) (cwV 0 hts gX8_nextThaw_X1_firstThaw rfl rfl rfl (by decide +kernel) ⟨Nat.le_of_ble_eq_true rfl, Nat.le_of_ble_eq_true rfl⟩) (fz_preV (ci := 0) (q0 := 0) hK (hP.sub (ws' := CW cy a V) [1, 2, 3, 4, 5, 6, 7, 8, 9, 10, 11, 12, 13, 14, 15, 16, 17, 18, 19, 20, 21, 22, 23, 24] rfl) rfl rfl rfl fz_T_bl (fun _ _ _ => trivial)) rfl rfl hl.1 rfl (lv_room (Nat.le_of_ble_eq_true rfl)) dX8_nextThaw_4 ⟨Nat.zero_le _, Nat.zero_le _⟩) ?_
  exact W.iret (v := (fz_thaw (V 2) wk)) hx hb hr (fun t9 ht9 hW9 => ⟨_, rfl, rfl, ht9⟩) (fun _ h => nomatch h) dX8_nextThaw_7
