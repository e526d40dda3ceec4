/-! a value of the whole -/
set_option maxHeartbeats 4000000 in
set_option maxRecDepth 100000 in
/-- FreezeCredits.whole -/
theorem c_X8_whole (l : Launch) (hst : l.stackTraces = false) (D : va_G) (cy : Nat → ClassId) (f t h : Nat → Nat) (a : Nat → Nat) (V : Nat → Nat → Int32) (x : Nat → Nat) (ad : Nat → Nat) (X : Nat → Nat → Int32) (vb : Option Nat) (nt nc nq nl wk : Nat) (wf : fz_wf V nt nc nq nl wk) (y : Int32) : fz_XI l yX8_whole wsX8_whole 7 108 1 6 D cy [.ref (f 0), .int y] ((FW f a t h x) ++ ((CW cy a V) ++ (XW cy ad x X vb))) (fz_Ev (fz_in ((FW f a t h x) ++ ((CW cy a V) ++ (XW cy ad x X vb))))) (if y.toNatClampNeg = 17 then X 0 0 else fz_wval V nt nc nl wk y.toNatClampNeg) ((FW f a t h x) ++ ((CW cy a V) ++ (XW cy ad x X vb))) (fz_vo y 18) xIA ((FW f a t h x) ++ ((CW cy a V) ++ (XW cy ad x X vb))) := by
  refine vx_ofW (cc := cX8_whole) (maxL := 2) (ret := (some .int)) (by decide) rfl ?_
  intro p e s m args below meth c s₁ B hml ht hv
  obtain ⟨rfl, hP, hK, hD0, hE⟩ := hv
  have hx := B.exec
  have hb := B.bytes
  have hr := B.returns
  have hts := atoms_spec (ws := wsX8_whole) B.pre
  have hown : s.vm.findClass RX8 = some m.cls := findClass_of_methodNamed B.named
  have hlocks := B.notSynchronized
  have hD := fz_self hD0
  obtain ⟨A, hAe⟩ : ∃ A : Nat → Prop, A = fz_in ((FW f a t h x) ++ ((CW cy a V) ++ (XW cy ad x X vb))) := ⟨_, rfl⟩
  rw [← hAe] at hD
  have hE : fz_Ev A s := by rw [hAe]; exact hE
  have hS : va_S A s.heap s.heap [] := va_S.rf
  have hl := lv_entry ([.ref (f 0), .int y]) (n := 2) (Nat.le_of_ble_eq_true rfl)
  rw [lg_entry_eq]
  generalize (lg_sl ([.ref (f 0), .int y]) ++ List.replicate (2 - (lg_sl ([.ref (f 0), .int y])).length) Slot.unset).toArray = ls at hl ⊢
  have hl : lv_has ls 2 [(0, .ref (f 0)), (1, .int y)] := hl
  obtain ⟨hnt, hnt6, hnc, hnc30, hnq, hqc, hnl, hnl12, hwk, hwk39, hT, hQ, hG, hB⟩ := id wf
  refine lv_aload_n hx hb dX8_whole_0 rfl (lv_at hl 0 rfl) ?_
  refine lv_iload_n hx hb dX8_whole_1 rfl (lv_at hl 1 rfl) ?_
  refine lv_bipush (v := 18) hx hb dX8_whole_2 (by decide) ?_
  refine fz_xretV (P := ([] : va_W)) (S := (XW cy ad x X vb)) (Wc := ((FW f a t h x) ++ (CW cy a V))) (Wc' := ((FW f a t h x) ++ (CW cy a V))) (WX := ((FW f a t h x) ++ (CW cy a V))) (vx_runV (As := [.int y, .int 18]) (rest := []) ⟨hx, hb, hml, hown, hts⟩ (c_X8_needValue l hst D cy f t h x a V y 18) (cwV 2 hts gX8_whole_X8_needValue rfl rfl rfl (by decide +kernel) ⟨Nat.le_of_ble_eq_true rfl, Nat.le_of_ble_eq_true rfl⟩) (fz_preMV (ci := 6) (q0 := 0) hK (hP.sub (ws' := (FW f a t h x) ++ (CW cy a V)) [0, 1, 2, 3, 4, 5, 6, 7, 8, 9, 10, 11, 12, 13, 14, 15, 16, 17, 18, 19, 20, 21, 22, 23, 24] rfl) (hD.sub (ws' := (FW f a t h x) ++ (CW cy a V)) [0, 1, 2, 3, 4, 5, 6, 7, 8, 9, 10, 11, 12, 13, 14, 15, 16, 17, 18, 19, 20, 21, 22, 23, 24] (by decide) rfl) rfl rfl rfl fz_Ev_bl (fun U hU hW => hE.up hU hS hW (fun q h9 => fz_inD (hD.sub (ws' := (FW f a t h x) ++ (CW cy a V)) [0, 1, 2, 3, 4, 5, 6, 7, 8, 9, 10, 11, 12, 13, 14, 15, 16, 17, 18, 19, 20, 21, 22, 23, 24] (by decide) rfl) h9))) rfl rfl hl.1 rfl (lv_room (Nat.le_of_ble_eq_true rfl)) dX8_whole_4 ⟨Nat.le_of_ble_eq_true rfl, Nat.le_of_ble_eq_true rfl⟩) hP hD hS rfl rfl (fun c_1 H locs q9 ce hP hD hS h7 h8 h9 => ?_) (fun c_1 H locs hP hD hS => ?_)
  · skip
    subst hAe
    exact fz_xout ht hlocks c_1 rfl hP hS h7 h8 h9 (Nat.le_of_ble_eq_true rfl) (Nat.le_of_ble_eq_true rfl)
  have hP : va_P D vwCl ((FW f a t h x) ++ ((CW cy a V) ++ (XW cy ad x X vb))) H := hP
  have hD : va_D A ((FW f a t h x) ++ ((CW cy a V) ++ (XW cy ad x X vb))) := hD
  refine lv_aload_n hx hb dX8_whole_7 rfl (lv_at hl 0 rfl) ?_
  refine lv_iload_n hx hb dX8_whole_8 rfl (lv_at hl 1 rfl) ?_
  have hy := fz_vo_s (n := 18) (by decide) c_1
  refine fz_at0 (show y = nI y.toNatClampNeg from hy.1) ?_
  refine fz_retR (va_runV (As := [.int (nI y.toNatClampNeg)]) (rest := []) ⟨hx, hb, hml, hown, hts⟩ (c_X8_wholeValue l D cy f t h a V x ad X vb nt nc nq nl wk wf y.toNatClampNeg (by omega) X ad vb) (cwV 1 hts gX8_whole_X8_wholeValue rfl rfl rfl (by decide +kernel) ⟨Nat.le_of_ble_eq_true rfl, Nat.le_of_ble_eq_true rfl⟩) (fz_preV (ci := 6) (q0 := 0) hK hP rfl rfl rfl fz_Nw_bl (fun U _ hW => fz_Nw_warm hW hE.2.1)) rfl rfl hl.1 rfl (lv_room (Nat.le_of_ble_eq_true rfl)) dX8_whole_9 ⟨Nat.le_of_ble_eq_true rfl, Nat.le_of_ble_eq_true rfl⟩) ?_
  refine fz_wd (k := 1) (n := 6) (Nat.le_of_ble_eq_true rfl) (Nat.le_of_ble_eq_true rfl) ?_
  refine vx_ret ?_
  subst hAe
  exact W.iret (v := (if y.toNatClampNeg = 17 then X 0 0 else fz_wval V nt nc nl wk y.toNatClampNeg)) hx hb hr (fun t9 ht9 hW9 => ⟨⟨_, (), rfl, ⟨rfl, c_1⟩, fz_to ht9 hP⟩, hS.F ht9⟩) hS.2.2 dX8_whole_12
