/-! the law's wrappers -/
def fz_Ew (A : Nat → Prop) (U : State) : Prop := fz_Ev A U ∧ va_Nc xIS xIA U ∧ va_Nc xIA xIO U ∧ va_Nc xIS xIO U
theorem fz_Ew.to {A B : Nat → Prop} {s U : State} {locs : List Loc} (h : fz_Ew A s) (hS : va_S A s.heap U.heap locs) (hW : s.WarmedH U.vm) (hAB : ∀ q, B q → A q) : fz_Ew B U := ⟨h.1.to hS hW hAB, h.2.1.moved hW.alike, h.2.2.1.moved hW.alike, h.2.2.2.moved hW.alike⟩
theorem fz_Ew.up {A B : Nat → Prop} {s U : State} {H : Heap} {locs : List Loc} (h : fz_Ew A s) (hU : U.heap = H) (hS : va_S A s.heap H locs) (hW : s.WarmedH U.vm) (hAB : ∀ q, B q → A q) : fz_Ew B U := h.to (by rw [hU]; exact hS) hW hAB
theorem fz_Ew_bl {A : Nat → Prop} : fz_bl (fz_Ew A) := fun a U g mk h => ⟨fz_Ev_bl a U g mk h.1, va_Nc.moved (u := U) (U := U.calling g mk a) (Vm.Alike.refl U.vm) h.2.1, va_Nc.moved (u := U) (U := U.calling g mk a) (Vm.Alike.refl U.vm) h.2.2.1, va_Nc.moved (u := U) (U := U.calling g mk a) (Vm.Alike.refl U.vm) h.2.2.2⟩
set_option maxHeartbeats 4000000 in
set_option maxRecDepth 100000 in
/-- the law calls addTeam -/
theorem c_L_addTeam_t (l : Launch) (hst : l.stackTraces = false) (D : va_G) (cy : Nat → ClassId) (f a t h x : Nat → Nat) (g : Nat → Option Nat) (cn : Nat) (V : Nat → Nat → Int32) (w : Nat → Nat) (N : Nat → Nat → Int32) (Z : va_W) (nt nc nq nl wk : Nat) (wf : fz_wf V nt nc nq nl wk) (hn : cn < 5) (hw : g cn = some (w 0)) (hz : fz_zo (V 2) 40) (hh : ∀ k, k < 5 → ∃ x, g k = some x ∧ fz_hd (CW cy w N ++ Z) x) (y : Int32) (hok : (fz_ok (fz_bring V nt y).1) = true) : fz_XI l yL_addTeam wsL_addTeam 8 124 1 6 D cy [.ref (f 0), .int y] (FW f a t h x ++ (HW cy h g (nI cn) ++ (CW cy a V ++ (CW cy w N ++ Z)))) (fz_Ew (fz_in (FW f a t h x ++ (HW cy h g (nI cn) ++ (CW cy a V ++ (CW cy w N ++ Z)))))) ((fz_bring V nt y).1) (FW f a t h x ++ (HW cy h (hs_g g cn) (nI (hs_n cn)) ++ (CW cy a (fz_bring V nt y).2 ++ (CW cy w V ++ Z)))) true xIS (FW f a t h x ++ (HW cy h (hs_g g cn) (nI (hs_n cn)) ++ (CW cy a (fz_bring V nt y).2 ++ (CW cy w V ++ Z)))) := by
  refine vx_ofWH (cc := cL_addTeam) (maxL := 3) (ret := (some .int)) (hh := [(0, 5, 6, 15), (0, 5, 10, 17)]) (by decide) rfl ?_
  intro p e s m args below meth c s₁ B hml hv
  obtain ⟨rfl, hP, hK, hD0, hE⟩ := hv
  have hx := B.exec
  have hb := B.bytes
  have hr := B.returns
  have hts := atoms_spec (ws := wsL_addTeam) B.pre
  have hown : s.vm.findClass RL = some m.cls := findClass_of_methodNamed B.named
  have hlocks := B.notSynchronized
  have hD := fz_self hD0
  obtain ⟨A, hAe⟩ : ∃ A : Nat → Prop, A = fz_in (FW f a t h x ++ (HW cy h g (nI cn) ++ (CW cy a V ++ (CW cy w N ++ Z)))) := ⟨_, rfl⟩
  rw [← hAe] at hD
  have hE : fz_Ew A s := by rw [hAe]; exact hE
  have hS : va_S A s.heap s.heap [] := va_S.rf
  have hl := lv_entry ([.ref (f 0), .int y]) (n := 3) (Nat.le_of_ble_eq_true rfl)
  rw [lg_entry_eq]
  generalize (lg_sl ([.ref (f 0), .int y]) ++ List.replicate (3 - (lg_sl ([.ref (f 0), .int y])).length) Slot.unset).toArray = ls at hl ⊢
  have hl : lv_has ls 3 [(0, .ref (f 0)), (1, .int y)] := hl
  have htab := vx_table (x := yL_addTeam) B (hts (.codeWith yL_addTeam cL_addTeam 3 (some .int) [(0, 5, 6, 15), (0, 5, 10, 17)]) (by decide +kernel))
  refine lv_aload_n hx hb dL_addTeam_0 rfl (lv_at hl 0 rfl) ?_
  refine lv_iload_n hx hb dL_addTeam_1 rfl (lv_at hl 1 rfl) ?_
  refine fz_xretI (P := ([] : va_W)) (S := []) (Wc := (FW f a t h x ++ (HW cy h g (nI cn) ++ (CW cy a V ++ (CW cy w N ++ Z))))) (Wc' := (FW f a t h x ++ (HW cy h (hs_g g cn) (nI (hs_n cn)) ++ (CW cy a (fz_bring V nt y).2 ++ (CW cy w V ++ Z))))) (WX := (FW f a t h x ++ (HW cy h g (nI cn) ++ (CW cy a (fz_bring V nt y).2 ++ (CW cy w V ++ Z))))) (vx_runV (As := [.int y]) (rest := []) ⟨hx, hb, hml, hown, hts⟩ (c_X8_addTeam l hst D cy f a t h x g cn V w N Z nt nc nq nl wk wf hn hw hz hh y) (cwV 1 hts gL_addTeam_X8_addTeam rfl rfl rfl (by decide +kernel) ⟨Nat.le_of_ble_eq_true rfl, Nat.le_of_ble_eq_true rfl⟩) (fz_preMV (ci := 6) (q0 := 0) hK (fz_seg (fz_nilP (P := ([] : va_W)) hP)) (fz_segD (fz_nilD (P := ([] : va_W)) hD)) rfl rfl rfl fz_Ev_bl (fun U hU hW => hE.1.up hU hS hW (fun q h9 => fz_inD (fz_segD (fz_nilD (P := ([] : va_W)) hD)) h9))) rfl rfl hl.1 rfl (lv_room (Nat.le_of_ble_eq_true rfl)) dL_addTeam_2 ⟨Nat.le_of_ble_eq_true rfl, Nat.le_of_ble_eq_true rfl⟩) (fz_nilP (P := ([] : va_W)) hP) (fz_nilD (P := ([] : va_W)) hD) hS rfl rfl (fun c_9 H locs q9 ce hP hD hS h7 h8 h9 => ?_) (fun c_9 H locs hP hD hS => ?_)
  · skip
    exact absurd (hok.symm.trans c_9) (by decide)
  · skip
    have hP := fz_nilP' (P := ([] : va_W)) hP
    refine fz_wd (k := 1) (n := 6) (Nat.le_of_ble_eq_true rfl) (Nat.le_of_ble_eq_true rfl) ?_
    refine vx_ret ?_
    subst hAe
    exact W.iret (v := ((fz_bring V nt y).1)) hx hb hr (fun t9 ht9 hW9 => ⟨⟨_, (), rfl, ⟨rfl, rfl⟩, fz_to ht9 hP⟩, hS.F ht9⟩) hS.2.2 dL_addTeam_5
set_option maxHeartbeats 4000000 in
set_option maxRecDepth 100000 in
/-- the law calls addTeam -/
theorem c_L_addTeam_IA (l : Launch) (hst : l.stackTraces = false) (D : va_G) (cy : Nat → ClassId) (f a t h x : Nat → Nat) (g : Nat → Option Nat) (cn : Nat) (V : Nat → Nat → Int32) (w : Nat → Nat) (N : Nat → Nat → Int32) (Z : va_W) (nt nc nq nl wk : Nat) (wf : fz_wf V nt nc nq nl wk) (hn : cn < 5) (hw : g cn = some (w 0)) (hz : fz_zo (V 2) 40) (hh : ∀ k, k < 5 → ∃ x, g k = some x ∧ fz_hd (CW cy w N ++ Z) x) (y : Int32) (hok : (fz_ok (fz_bring V nt y).1) = false) (hen : (fz_en (fz_bring V nt y).1) = xIA) : fz_XI l yL_addTeam wsL_addTeam 8 124 1 6 D cy [.ref (f 0), .int y] (FW f a t h x ++ (HW cy h g (nI cn) ++ (CW cy a V ++ (CW cy w N ++ Z)))) (fz_Ew (fz_in (FW f a t h x ++ (HW cy h g (nI cn) ++ (CW cy a V ++ (CW cy w N ++ Z)))))) (-11) (FW f a t h x ++ (HW cy h g (nI cn) ++ (CW cy a (fz_bring V nt y).2 ++ (CW cy w V ++ Z)))) true xIS (FW f a t h x ++ (HW cy h g (nI cn) ++ (CW cy a (fz_bring V nt y).2 ++ (CW cy w V ++ Z)))) := by
  refine vx_ofWH (cc := cL_addTeam) (maxL := 3) (ret := (some .int)) (hh := [(0, 5, 6, 15), (0, 5, 10, 17)]) (by decide) rfl ?_
  intro p e s m args below meth c s₁ B hml hv
  obtain ⟨rfl, hP, hK, hD0, hE⟩ := hv
  have hx := B.exec
  have hb := B.bytes
  have hr := B.returns
  have hts := atoms_spec (ws := wsL_addTeam) B.pre
  have hown : s.vm.findClass RL = some m.cls := findClass_of_methodNamed B.named
  have hlocks := B.notSynchronized
  have hD := fz_self hD0
  obtain ⟨A, hAe⟩ : ∃ A : Nat → Prop, A = fz_in (FW f a t h x ++ (HW cy h g (nI cn) ++ (CW cy a V ++ (CW cy w N ++ Z)))) := ⟨_, rfl⟩
  rw [← hAe] at hD
  have hE : fz_Ew A s := by rw [hAe]; exact hE
  have hS : va_S A s.heap s.heap [] := va_S.rf
  have hl := lv_entry ([.ref (f 0), .int y]) (n := 3) (Nat.le_of_ble_eq_true rfl)
  rw [lg_entry_eq]
  generalize (lg_sl ([.ref (f 0), .int y]) ++ List.replicate (3 - (lg_sl ([.ref (f 0), .int y])).length) Slot.unset).toArray = ls at hl ⊢
  have hl : lv_has ls 3 [(0, .ref (f 0)), (1, .int y)] := hl
  have htab := vx_table (x := yL_addTeam) B (hts (.codeWith yL_addTeam cL_addTeam 3 (some .int) [(0, 5, 6, 15), (0, 5, 10, 17)]) (by decide +kernel))
  refine lv_aload_n hx hb dL_addTeam_0 rfl (lv_at hl 0 rfl) ?_
  refine lv_iload_n hx hb dL_addTeam_1 rfl (lv_at hl 1 rfl) ?_
  refine fz_xretI (P := ([] : va_W)) (S := []) (Wc := (FW f a t h x ++ (HW cy h g (nI cn) ++ (CW cy a V ++ (CW cy w N ++ Z))))) (Wc' := (FW f a t h x ++ (HW cy h (hs_g g cn) (nI (hs_n cn)) ++ (CW cy a (fz_bring V nt y).2 ++ (CW cy w V ++ Z))))) (WX := (FW f a t h x ++ (HW cy h g (nI cn) ++ (CW cy a (fz_bring V nt y).2 ++ (CW cy w V ++ Z))))) (vx_runV (As := [.int y]) (rest := []) ⟨hx, hb, hml, hown, hts⟩ (c_X8_addTeam l hst D cy f a t h x g cn V w N Z nt nc nq nl wk wf hn hw hz hh y) (cwV 1 hts gL_addTeam_X8_addTeam rfl rfl rfl (by decide +kernel) ⟨Nat.le_of_ble_eq_true rfl, Nat.le_of_ble_eq_true rfl⟩) (fz_preMV (ci := 6) (q0 := 0) hK (fz_seg (fz_nilP (P := ([] : va_W)) hP)) (fz_segD (fz_nilD (P := ([] : va_W)) hD)) rfl rfl rfl fz_Ev_bl (fun U hU hW => hE.1.up hU hS hW (fun q h9 => fz_inD (fz_segD (fz_nilD (P := ([] : va_W)) hD)) h9))) rfl rfl hl.1 rfl (lv_room (Nat.le_of_ble_eq_true rfl)) dL_addTeam_2 ⟨Nat.le_of_ble_eq_true rfl, Nat.le_of_ble_eq_true rfl⟩) (fz_nilP (P := ([] : va_W)) hP) (fz_nilD (P := ([] : va_W)) hD) hS rfl rfl (fun c_9 H locs q9 ce hP hD hS h7 h8 h9 => ?_) (fun c_9 H locs hP hD hS => ?_)
  · skip
    rw [hen] at h9
    refine vx_catch (name := xIA) hown [] ⟨0, 5, 6, 15⟩ [⟨0, 5, 10, 17⟩] (by rw [htab]; rfl) (fun z hz => nomatch hz) (by decide) (by decide) (hts (.classLink RL 15 xIA) (by decide +kernel)) (va_Nw.use rfl (hE.1.1.2.2.1 (.castable xIA xIA) (by decide +kernel))) h7 h8 h9 ?_
    have hP := fz_nilP' (P := ([] : va_W)) hP
    refine lv_astore_n (lv' := [(2, .ref q9), (0, .ref (f 0)), (1, .int y)]) hx hb dL_addTeam_6 rfl hl (by decide) rfl (fun ls hl => ?_)
    refine lv_bipush (v := (-11)) hx hb dL_addTeam_7 (by decide) ?_
    refine fz_wd (k := 1) (n := 6) (Nat.le_of_ble_eq_true rfl) (Nat.le_of_ble_eq_true rfl) ?_
    refine vx_ret ?_
    subst hAe
    exact W.iret (v := (-11)) hx hb hr (fun t9 ht9 hW9 => ⟨⟨_, (), rfl, ⟨rfl, rfl⟩, fz_to ht9 hP⟩, hS.F ht9⟩) hS.2.2 dL_addTeam_9
  · skip
    exact absurd (hok.symm.trans c_9) (by decide)
set_option maxHeartbeats 4000000 in
set_option maxRecDepth 100000 in
/-- the law calls addTeam -/
theorem c_L_addTeam_IS (l : Launch) (hst : l.stackTraces = false) (D : va_G) (cy : Nat → ClassId) (f a t h x : Nat → Nat) (g : Nat → Option Nat) (cn : Nat) (V : Nat → Nat → Int32) (w : Nat → Nat) (N : Nat → Nat → Int32) (Z : va_W) (nt nc nq nl wk : Nat) (wf : fz_wf V nt nc nq nl wk) (hn : cn < 5) (hw : g cn = some (w 0)) (hz : fz_zo (V 2) 40) (hh : ∀ k, k < 5 → ∃ x, g k = some x ∧ fz_hd (CW cy w N ++ Z) x) (y : Int32) (hok : (fz_ok (fz_bring V nt y).1) = false) (hen : (fz_en (fz_bring V nt y).1) = xIS) : fz_XI l yL_addTeam wsL_addTeam 8 124 1 6 D cy [.ref (f 0), .int y] (FW f a t h x ++ (HW cy h g (nI cn) ++ (CW cy a V ++ (CW cy w N ++ Z)))) (fz_Ew (fz_in (FW f a t h x ++ (HW cy h g (nI cn) ++ (CW cy a V ++ (CW cy w N ++ Z)))))) (-12) (FW f a t h x ++ (HW cy h g (nI cn) ++ (CW cy a (fz_bring V nt y).2 ++ (CW cy w V ++ Z)))) true xIS (FW f a t h x ++ (HW cy h g (nI cn) ++ (CW cy a (fz_bring V nt y).2 ++ (CW cy w V ++ Z)))) := by
  refine vx_ofWH (cc := cL_addTeam) (maxL := 3) (ret := (some .int)) (hh := [(0, 5, 6, 15), (0, 5, 10, 17)]) (by decide) rfl ?_
  intro p e s m args below meth c s₁ B hml hv
  obtain ⟨rfl, hP, hK, hD0, hE⟩ := hv
  have hx := B.exec
  have hb := B.bytes
  have hr := B.returns
  have hts := atoms_spec (ws := wsL_addTeam) B.pre
  have hown : s.vm.findClass RL = some m.cls := findClass_of_methodNamed B.named
  have hlocks := B.notSynchronized
  have hD := fz_self hD0
  obtain ⟨A, hAe⟩ : ∃ A : Nat → Prop, A = fz_in (FW f a t h x ++ (HW cy h g (nI cn) ++ (CW cy a V ++ (CW cy w N ++ Z)))) := ⟨_, rfl⟩
  rw [← hAe] at hD
  have hE : fz_Ew A s := by rw [hAe]; exact hE
  have hS : va_S A s.heap s.heap [] := va_S.rf
  have hl := lv_entry ([.ref (f 0), .int y]) (n := 3) (Nat.le_of_ble_eq_true rfl)
  rw [lg_entry_eq]
  generalize (lg_sl ([.ref (f 0), .int y]) ++ List.replicate (3 - (lg_sl ([.ref (f 0), .int y])).length) Slot.unset).toArray = ls at hl ⊢
  have hl : lv_has ls 3 [(0, .ref (f 0)), (1, .int y)] := hl
  have htab := vx_table (x := yL_addTeam) B (hts (.codeWith yL_addTeam cL_addTeam 3 (some .int) [(0, 5, 6, 15), (0, 5, 10, 17)]) (by decide +kernel))
  refine lv_aload_n hx hb dL_addTeam_0 rfl (lv_at hl 0 rfl) ?_
  refine lv_iload_n hx hb dL_addTeam_1 rfl (lv_at hl 1 rfl) ?_
  refine fz_xretI (P := ([] : va_W)) (S := []) (Wc := (FW f a t h x ++ (HW cy h g (nI cn) ++ (CW cy a V ++ (CW cy w N ++ Z))))) (Wc' := (FW f a t h x ++ (HW cy h (hs_g g cn) (nI (hs_n cn)) ++ (CW cy a (fz_bring V nt y).2 ++ (CW cy w V ++ Z))))) (WX := (FW f a t h x ++ (HW cy h g (nI cn) ++ (CW cy a (fz_bring V nt y).2 ++ (CW cy w V ++ Z))))) (vx_runV (As := [.int y]) (rest := []) ⟨hx, hb, hml, hown, hts⟩ (c_X8_addTeam l hst D cy f a t h x g cn V w N Z nt nc nq nl wk wf hn hw hz hh y) (cwV 1 hts gL_addTeam_X8_addTeam rfl rfl rfl (by decide +kernel) ⟨Nat.le_of_ble_eq_true rfl, Nat.le_of_ble_eq_true rfl⟩) (fz_preMV (ci := 6) (q0 := 0) hK (fz_seg (fz_nilP (P := ([] : va_W)) hP)) (fz_segD (fz_nilD (P := ([] : va_W)) hD)) rfl rfl rfl fz_Ev_bl (fun U hU hW => hE.1.up hU hS hW (fun q h9 => fz_inD (fz_segD (fz_nilD (P := ([] : va_W)) hD)) h9))) rfl rfl hl.1 rfl (lv_room (Nat.le_of_ble_eq_true rfl)) dL_addTeam_2 ⟨Nat.le_of_ble_eq_true rfl, Nat.le_of_ble_eq_true rfl⟩) (fz_nilP (P := ([] : va_W)) hP) (fz_nilD (P := ([] : va_W)) hD) hS rfl rfl (fun c_9 H locs q9 ce hP hD hS h7 h8 h9 => ?_) (fun c_9 H locs hP hD hS => ?_)
  · skip
    rw [hen] at h9
    refine vx_catch (name := xIS) hown [⟨0, 5, 6, 15⟩] ⟨0, 5, 10, 17⟩ [] (by rw [htab]; rfl) (fun z hz => by rcases List.mem_cons.mp hz with rfl | hz; exact Or.inr ⟨by decide, xIA, hts (.classLink RL 15 xIA) (by decide +kernel), hE.2.1⟩; exact nomatch hz) (by decide) (by decide) (hts (.classLink RL 17 xIS) (by decide +kernel)) (va_Nw.use rfl (hE.1.1.2.2.1 (.castable xIS xIS) (by decide +kernel))) h7 h8 h9 ?_
    have hP := fz_nilP' (P := ([] : va_W)) hP
    refine lv_astore_n (lv' := [(2, .ref q9), (0, .ref (f 0)), (1, .int y)]) hx hb dL_addTeam_10 rfl hl (by decide) rfl (fun ls hl => ?_)
    refine lv_bipush (v := (-12)) hx hb dL_addTeam_11 (by decide) ?_
    refine fz_wd (k := 1) (n := 6) (Nat.le_of_ble_eq_true rfl) (Nat.le_of_ble_eq_true rfl) ?_
    refine vx_ret ?_
    subst hAe
    exact W.iret (v := (-12)) hx hb hr (fun t9 ht9 hW9 => ⟨⟨_, (), rfl, ⟨rfl, rfl⟩, fz_to ht9 hP⟩, hS.F ht9⟩) hS.2.2 dL_addTeam_13
  · skip
    exact absurd (hok.symm.trans c_9) (by decide)
set_option maxHeartbeats 4000000 in
set_option maxRecDepth 100000 in
/-- the law calls freeze -/
theorem c_L_freeze_t (l : Launch) (hst : l.stackTraces = false) (D : va_G) (cy : Nat → ClassId) (f a t h x : Nat → Nat) (g : Nat → Option Nat) (cn : Nat) (V : Nat → Nat → Int32) (w : Nat → Nat) (N : Nat → Nat → Int32) (Z : va_W) (nt nc nq nl wk : Nat) (wf : fz_wf V nt nc nq nl wk) (hn : cn < 5) (hw : g cn = some (w 0)) (hz : fz_zo (V 2) 40) (hh : ∀ k, k < 5 → ∃ x, g k = some x ∧ fz_hd (CW cy w N ++ Z) x) (y z : Int32) (fr : Bool) (hok : (fz_ok (fz_markw V wk y z fr).1) = true) : fz_XI l yL_freeze wsL_freeze 8 126 1 6 D cy [.ref (f 0), .int y, .int z, .int (fz_b fr)] (FW f a t h x ++ (HW cy h g (nI cn) ++ (CW cy a V ++ (CW cy w N ++ Z)))) (fz_Ew (fz_in (FW f a t h x ++ (HW cy h g (nI cn) ++ (CW cy a V ++ (CW cy w N ++ Z)))))) ((fz_markw V wk y z fr).1) (FW f a t h x ++ (HW cy h (hs_g g cn) (nI (hs_n cn)) ++ (CW cy a (fz_markw V wk y z fr).2 ++ (CW cy w V ++ Z)))) true xIS (FW f a t h x ++ (HW cy h (hs_g g cn) (nI (hs_n cn)) ++ (CW cy a (fz_markw V wk y z fr).2 ++ (CW cy w V ++ Z)))) := by
  refine vx_ofWH (cc := cL_freeze) (maxL := 5) (ret := (some .int)) (hh := [(0, 7, 8, 15), (0, 7, 13, 17)]) (by decide) rfl ?_
  intro p e s m args below meth c s₁ B hml hv
  obtain ⟨rfl, hP, hK, hD0, hE⟩ := hv
  have hx := B.exec
  have hb := B.bytes
  have hr := B.returns
  have hts := atoms_spec (ws := wsL_freeze) B.pre
  have hown : s.vm.findClass RL = some m.cls := findClass_of_methodNamed B.named
  have hlocks := B.notSynchronized
  have hD := fz_self hD0
  obtain ⟨A, hAe⟩ : ∃ A : Nat → Prop, A = fz_in (FW f a t h x ++ (HW cy h g (nI cn) ++ (CW cy a V ++ (CW cy w N ++ Z)))) := ⟨_, rfl⟩
  rw [← hAe] at hD
  have hE : fz_Ew A s := by rw [hAe]; exact hE
  have hS : va_S A s.heap s.heap [] := va_S.rf
  have hl := lv_entry ([.ref (f 0), .int y, .int z, .int (fz_b fr)]) (n := 5) (Nat.le_of_ble_eq_true rfl)
  rw [lg_entry_eq]
  generalize (lg_sl ([.ref (f 0), .int y, .int z, .int (fz_b fr)]) ++ List.replicate (5 - (lg_sl ([.ref (f 0), .int y, .int z, .int (fz_b fr)])).length) Slot.unset).toArray = ls at hl ⊢
  have hl : lv_has ls 5 [(0, .ref (f 0)), (1, .int y), (2, .int z), (3, .int (fz_b fr))] := hl
  have htab := vx_table (x := yL_freeze) B (hts (.codeWith yL_freeze cL_freeze 5 (some .int) [(0, 7, 8, 15), (0, 7, 13, 17)]) (by decide +kernel))
  refine lv_aload_n hx hb dL_freeze_0 rfl (lv_at hl 0 rfl) ?_
  refine lv_iload_n hx hb dL_freeze_1 rfl (lv_at hl 1 rfl) ?_
  refine lv_iload_n hx hb dL_freeze_2 rfl (lv_at hl 2 rfl) ?_
  refine lv_iload_n hx hb dL_freeze_3 rfl (lv_at hl 3 rfl) ?_
  refine fz_xretI (P := ([] : va_W)) (S := []) (Wc := (FW f a t h x ++ (HW cy h g (nI cn) ++ (CW cy a V ++ (CW cy w N ++ Z))))) (Wc' := (FW f a t h x ++ (HW cy h (hs_g g cn) (nI (hs_n cn)) ++ (CW cy a (fz_markw V wk y z fr).2 ++ (CW cy w V ++ Z))))) (WX := (FW f a t h x ++ (HW cy h g (nI cn) ++ (CW cy a (fz_markw V wk y z fr).2 ++ (CW cy w V ++ Z))))) (vx_runV (As := [.int y, .int z, .int (fz_b fr)]) (rest := []) ⟨hx, hb, hml, hown, hts⟩ (c_X8_freeze l hst D cy f a t h x g cn V w N Z nt nc nq nl wk wf hn hw hz hh y z fr) (cwV 3 hts gL_freeze_X8_freeze rfl rfl rfl (by decide +kernel) ⟨Nat.le_of_ble_eq_true rfl, Nat.le_of_ble_eq_true rfl⟩) (fz_preMV (ci := 6) (q0 := 0) hK (fz_seg (fz_nilP (P := ([] : va_W)) hP)) (fz_segD (fz_nilD (P := ([] : va_W)) hD)) rfl rfl rfl fz_Ev_bl (fun U hU hW => hE.1.up hU hS hW (fun q h9 => fz_inD (fz_segD (fz_nilD (P := ([] : va_W)) hD)) h9))) rfl rfl hl.1 rfl (lv_room (Nat.le_of_ble_eq_true rfl)) dL_freeze_4 ⟨Nat.le_of_ble_eq_true rfl, Nat.le_of_ble_eq_true rfl⟩) (fz_nilP (P := ([] : va_W)) hP) (fz_nilD (P := ([] : va_W)) hD) hS rfl rfl (fun c_9 H locs q9 ce hP hD hS h7 h8 h9 => ?_) (fun c_9 H locs hP hD hS => ?_)
  · skip
    exact absurd (hok.symm.trans c_9) (by decide)
  · skip
    have hP := fz_nilP' (P := ([] : va_W)) hP
    refine fz_wd (k := 1) (n := 6) (Nat.le_of_ble_eq_true rfl) (Nat.le_of_ble_eq_true rfl) ?_
    refine vx_ret ?_
    subst hAe
    exact W.iret (v := ((fz_markw V wk y z fr).1)) hx hb hr (fun t9 ht9 hW9 => ⟨⟨_, (), rfl, ⟨rfl, rfl⟩, fz_to ht9 hP⟩, hS.F ht9⟩) hS.2.2 dL_freeze_7
set_option maxHeartbeats 4000000 in
set_option maxRecDepth 100000 in
/-- the law calls freeze -/
theorem c_L_freeze_IA (l : Launch) (hst : l.stackTraces = false) (D : va_G) (cy : Nat → ClassId) (f a t h x : Nat → Nat) (g : Nat → Option Nat) (cn : Nat) (V : Nat → Nat → Int32) (w : Nat → Nat) (N : Nat → Nat → Int32) (Z : va_W) (nt nc nq nl wk : Nat) (wf : fz_wf V nt nc nq nl wk) (hn : cn < 5) (hw : g cn = some (w 0)) (hz : fz_zo (V 2) 40) (hh : ∀ k, k < 5 → ∃ x, g k = some x ∧ fz_hd (CW cy w N ++ Z) x) (y z : Int32) (fr : Bool) (hok : (fz_ok (fz_markw V wk y z fr).1) = false) (hen : (fz_en (fz_markw V wk y z fr).1) = xIA) : fz_XI l yL_freeze wsL_freeze 8 126 1 6 D cy [.ref (f 0), .int y, .int z, .int (fz_b fr)] (FW f a t h x ++ (HW cy h g (nI cn) ++ (CW cy a V ++ (CW cy w N ++ Z)))) (fz_Ew (fz_in (FW f a t h x ++ (HW cy h g (nI cn) ++ (CW cy a V ++ (CW cy w N ++ Z)))))) (-11) (FW f a t h x ++ (HW cy h g (nI cn) ++ (CW cy a (fz_markw V wk y z fr).2 ++ (CW cy w V ++ Z)))) true xIS (FW f a t h x ++ (HW cy h g (nI cn) ++ (CW cy a (fz_markw V wk y z fr).2 ++ (CW cy w V ++ Z)))) := by
  refine vx_ofWH (cc := cL_freeze) (maxL := 5) (ret := (some .int)) (hh := [(0, 7, 8, 15), (0, 7, 13, 17)]) (by decide) rfl ?_
  intro p e s m args below meth c s₁ B hml hv
  obtain ⟨rfl, hP, hK, hD0, hE⟩ := hv
  have hx := B.exec
  have hb := B.bytes
  have hr := B.returns
  have hts := atoms_spec (ws := wsL_freeze) B.pre
  have hown : s.vm.findClass RL = some m.cls := findClass_of_methodNamed B.named
  have hlocks := B.notSynchronized
  have hD := fz_self hD0
  obtain ⟨A, hAe⟩ : ∃ A : Nat → Prop, A = fz_in (FW f a t h x ++ (HW cy h g (nI cn) ++ (CW cy a V ++ (CW cy w N ++ Z)))) := ⟨_, rfl⟩
  rw [← hAe] at hD
  have hE : fz_Ew A s := by rw [hAe]; exact hE
  have hS : va_S A s.heap s.heap [] := va_S.rf
  have hl := lv_entry ([.ref (f 0), .int y, .int z, .int (fz_b fr)]) (n := 5) (Nat.le_of_ble_eq_true rfl)
  rw [lg_entry_eq]
  generalize (lg_sl ([.ref (f 0), .int y, .int z, .int (fz_b fr)]) ++ List.replicate (5 - (lg_sl ([.ref (f 0), .int y, .int z, .int (fz_b fr)])).length) Slot.unset).toArray = ls at hl ⊢
  have hl : lv_has ls 5 [(0, .ref (f 0)), (1, .int y), (2, .int z), (3, .int (fz_b fr))] := hl
  have htab := vx_table (x := yL_freeze) B (hts (.codeWith yL_freeze cL_freeze 5 (some .int) [(0, 7, 8, 15), (0, 7, 13, 17)]) (by decide +kernel))
  refine lv_aload_n hx hb dL_freeze_0 rfl (lv_at hl 0 rfl) ?_
  refine lv_iload_n hx hb dL_freeze_1 rfl (lv_at hl 1 rfl) ?_
  refine lv_iload_n hx hb dL_freeze_2 rfl (lv_at hl 2 rfl) ?_
  refine lv_iload_n hx hb dL_freeze_3 rfl (lv_at hl 3 rfl) ?_
  refine fz_xretI (P := ([] : va_W)) (S := []) (Wc := (FW f a t h x ++ (HW cy h g (nI cn) ++ (CW cy a V ++ (CW cy w N ++ Z))))) (Wc' := (FW f a t h x ++ (HW cy h (hs_g g cn) (nI (hs_n cn)) ++ (CW cy a (fz_markw V wk y z fr).2 ++ (CW cy w V ++ Z))))) (WX := (FW f a t h x ++ (HW cy h g (nI cn) ++ (CW cy a (fz_markw V wk y z fr).2 ++ (CW cy w V ++ Z))))) (vx_runV (As := [.int y, .int z, .int (fz_b fr)]) (rest := []) ⟨hx, hb, hml, hown, hts⟩ (c_X8_freeze l hst D cy f a t h x g cn V w N Z nt nc nq nl wk wf hn hw hz hh y z fr) (cwV 3 hts gL_freeze_X8_freeze rfl rfl rfl (by decide +kernel) ⟨Nat.le_of_ble_eq_true rfl, Nat.le_of_ble_eq_true rfl⟩) (fz_preMV (ci := 6) (q0 := 0) hK (fz_seg (fz_nilP (P := ([] : va_W)) hP)) (fz_segD (fz_nilD (P := ([] : va_W)) hD)) rfl rfl rfl fz_Ev_bl (fun U hU hW => hE.1.up hU hS hW (fun q h9 => fz_inD (fz_segD (fz_nilD (P := ([] : va_W)) hD)) h9))) rfl rfl hl.1 rfl (lv_room (Nat.le_of_ble_eq_true rfl)) dL_freeze_4 ⟨Nat.le_of_ble_eq_true rfl, Nat.le_of_ble_eq_true rfl⟩) (fz_nilP (P := ([] : va_W)) hP) (fz_nilD (P := ([] : va_W)) hD) hS rfl rfl (fun c_9 H locs q9 ce hP hD hS h7 h8 h9 => ?_) (fun c_9 H locs hP hD hS => ?_)
  · skip
    rw [hen] at h9
    refine vx_catch (name := xIA) hown [] ⟨0, 7, 8, 15⟩ [⟨0, 7, 13, 17⟩] (by rw [htab]; rfl) (fun z hz => nomatch hz) (by decide) (by decide) (hts (.classLink RL 15 xIA) (by decide +kernel)) (va_Nw.use rfl (hE.1.1.2.2.1 (.castable xIA xIA) (by decide +kernel))) h7 h8 h9 ?_
    have hP := fz_nilP' (P := ([] : va_W)) hP
    refine lv_astore (lv' := [(4, .ref q9), (0, .ref (f 0)), (1, .int y), (2, .int z), (3, .int (fz_b fr))]) hx hb dL_freeze_8 hl (by decide) rfl (fun ls hl => ?_)
    refine lv_bipush (v := (-11)) hx hb dL_freeze_10 (by decide) ?_
    refine fz_wd (k := 1) (n := 6) (Nat.le_of_ble_eq_true rfl) (Nat.le_of_ble_eq_true rfl) ?_
    refine vx_ret ?_
    subst hAe
    exact W.iret (v := (-11)) hx hb hr (fun t9 ht9 hW9 => ⟨⟨_, (), rfl, ⟨rfl, rfl⟩, fz_to ht9 hP⟩, hS.F ht9⟩) hS.2.2 dL_freeze_12
  · skip
    exact absurd (hok.symm.trans c_9) (by decide)
set_option maxHeartbeats 4000000 in
set_option maxRecDepth 100000 in
/-- the law calls freeze -/
theorem c_L_freeze_IS (l : Launch) (hst : l.stackTraces = false) (D : va_G) (cy : Nat → ClassId) (f a t h x : Nat → Nat) (g : Nat → Option Nat) (cn : Nat) (V : Nat → Nat → Int32) (w : Nat → Nat) (N : Nat → Nat → Int32) (Z : va_W) (nt nc nq nl wk : Nat) (wf : fz_wf V nt nc nq nl wk) (hn : cn < 5) (hw : g cn = some (w 0)) (hz : fz_zo (V 2) 40) (hh : ∀ k, k < 5 → ∃ x, g k = some x ∧ fz_hd (CW cy w N ++ Z) x) (y z : Int32) (fr : Bool) (hok : (fz_ok (fz_markw V wk y z fr).1) = false) (hen : (fz_en (fz_markw V wk y z fr).1) = xIS) : fz_XI l yL_freeze wsL_freeze 8 126 1 6 D cy [.ref (f 0), .int y, .int z, .int (fz_b fr)] (FW f a t h x ++ (HW cy h g (nI cn) ++ (CW cy a V ++ (CW cy w N ++ Z)))) (fz_Ew (fz_in (FW f a t h x ++ (HW cy h g (nI cn) ++ (CW cy a V ++ (CW cy w N ++ Z)))))) (-12) (FW f a t h x ++ (HW cy h g (nI cn) ++ (CW cy a (fz_markw V wk y z fr).2 ++ (CW cy w V ++ Z)))) true xIS (FW f a t h x ++ (HW cy h g (nI cn) ++ (CW cy a (fz_markw V wk y z fr).2 ++ (CW cy w V ++ Z)))) := by
  refine vx_ofWH (cc := cL_freeze) (maxL := 5) (ret := (some .int)) (hh := [(0, 7, 8, 15), (0, 7, 13, 17)]) (by decide) rfl ?_
  intro p e s m args below meth c s₁ B hml hv
  obtain ⟨rfl, hP, hK, hD0, hE⟩ := hv
  have hx := B.exec
  have hb := B.bytes
  have hr := B.returns
  have hts := atoms_spec (ws := wsL_freeze) B.pre
  have hown : s.vm.findClass RL = some m.cls := findClass_of_methodNamed B.named
  have hlocks := B.notSynchronized
  have hD := fz_self hD0
  obtain ⟨A, hAe⟩ : ∃ A : Nat → Prop, A = fz_in (FW f a t h x ++ (HW cy h g (nI cn) ++ (CW cy a V ++ (CW cy w N ++ Z)))) := ⟨_, rfl⟩
  rw [← hAe] at hD
  have hE : fz_Ew A s := by rw [hAe]; exact hE
  have hS : va_S A s.heap s.heap [] := va_S.rf
  have hl := lv_entry ([.ref (f 0), .int y, .int z, .int (fz_b fr)]) (n := 5) (Nat.le_of_ble_eq_true rfl)
  rw [lg_entry_eq]
  generalize (lg_sl ([.ref (f 0), .int y, .int z, .int (fz_b fr)]) ++ List.replicate (5 - (lg_sl ([.ref (f 0), .int y, .int z, .int (fz_b fr)])).length) Slot.unset).toArray = ls at hl ⊢
  have hl : lv_has ls 5 [(0, .ref (f 0)), (1, .int y), (2, .int z), (3, .int (fz_b fr))] := hl
  have htab := vx_table (x := yL_freeze) B (hts (.codeWith yL_freeze cL_freeze 5 (some .int) [(0, 7, 8, 15), (0, 7, 13, 17)]) (by decide +kernel))
  refine lv_aload_n hx hb dL_freeze_0 rfl (lv_at hl 0 rfl) ?_
  refine lv_iload_n hx hb dL_freeze_1 rfl (lv_at hl 1 rfl) ?_
  refine lv_iload_n hx hb dL_freeze_2 rfl (lv_at hl 2 rfl) ?_
  refine lv_iload_n hx hb dL_freeze_3 rfl (lv_at hl 3 rfl) ?_
  refine fz_xretI (P := ([] : va_W)) (S := []) (Wc := (FW f a t h x ++ (HW cy h g (nI cn) ++ (CW cy a V ++ (CW cy w N ++ Z))))) (Wc' := (FW f a t h x ++ (HW cy h (hs_g g cn) (nI (hs_n cn)) ++ (CW cy a (fz_markw V wk y z fr).2 ++ (CW cy w V ++ Z))))) (WX := (FW f a t h x ++ (HW cy h g (nI cn) ++ (CW cy a (fz_markw V wk y z fr).2 ++ (CW cy w V ++ Z))))) (vx_runV (As := [.int y, .int z, .int (fz_b fr)]) (rest := []) ⟨hx, hb, hml, hown, hts⟩ (c_X8_freeze l hst D cy f a t h x g cn V w N Z nt nc nq nl wk wf hn hw hz hh y z fr) (cwV 3 hts gL_freeze_X8_freeze rfl rfl rfl (by decide +kernel) ⟨Nat.le_of_ble_eq_true rfl, Nat.le_of_ble_eq_true rfl⟩) (fz_preMV (ci := 6) (q0 := 0) hK (fz_seg (fz_nilP (P := ([] : va_W)) hP)) (fz_segD (fz_nilD (P := ([] : va_W)) hD)) rfl rfl rfl fz_Ev_bl (fun U hU hW => hE.1.up hU hS hW (fun q h9 => fz_inD (fz_segD (fz_nilD (P := ([] : va_W)) hD)) h9))) rfl rfl hl.1 rfl (lv_room (Nat.le_of_ble_eq_true rfl)) dL_freeze_4 ⟨Nat.le_of_ble_eq_true rfl, Nat.le_of_ble_eq_true rfl⟩) (fz_nilP (P := ([] : va_W)) hP) (fz_nilD (P := ([] : va_W)) hD) hS rfl rfl (fun c_9 H locs q9 ce hP hD hS h7 h8 h9 => ?_) (fun c_9 H locs hP hD hS => ?_)
  · skip
    rw [hen] at h9
    refine vx_catch (name := xIS) hown [⟨0, 7, 8, 15⟩] ⟨0, 7, 13, 17⟩ [] (by rw [htab]; rfl) (fun z hz => by rcases List.mem_cons.mp hz with rfl | hz; exact Or.inr ⟨by decide, xIA, hts (.classLink RL 15 xIA) (by decide +kernel), hE.2.1⟩; exact nomatch hz) (by decide) (by decide) (hts (.classLink RL 17 xIS) (by decide +kernel)) (va_Nw.use rfl (hE.1.1.2.2.1 (.castable xIS xIS) (by decide +kernel))) h7 h8 h9 ?_
    have hP := fz_nilP' (P := ([] : va_W)) hP
    refine lv_astore (lv' := [(4, .ref q9), (0, .ref (f 0)), (1, .int y), (2, .int z), (3, .int (fz_b fr))]) hx hb dL_freeze_13 hl (by decide) rfl (fun ls hl => ?_)
    refine lv_bipush (v := (-12)) hx hb dL_freeze_15 (by decide) ?_
    refine fz_wd (k := 1) (n := 6) (Nat.le_of_ble_eq_true rfl) (Nat.le_of_ble_eq_true rfl) ?_
    refine vx_ret ?_
    subst hAe
    exact W.iret (v := (-12)) hx hb hr (fun t9 ht9 hW9 => ⟨⟨_, (), rfl, ⟨rfl, rfl⟩, fz_to ht9 hP⟩, hS.F ht9⟩) hS.2.2 dL_freeze_17
  · skip
    exact absurd (hok.symm.trans c_9) (by decide)
set_option maxHeartbeats 4000000 in
set_option maxRecDepth 100000 in
/-- the law calls set -/
theorem c_L_set_t (l : Launch) (hst : l.stackTraces = false) (D : va_G) (cy : Nat → ClassId) (f a t h x : Nat → Nat) (g : Nat → Option Nat) (cn : Nat) (V : Nat → Nat → Int32) (w : Nat → Nat) (N : Nat → Nat → Int32) (Z : va_W) (nt nc nq nl wk : Nat) (wf : fz_wf V nt nc nq nl wk) (hn : cn < 5) (hw : g cn = some (w 0)) (hz : fz_zo (V 2) 40) (hh : ∀ k, k < 5 → ∃ x, g k = some x ∧ fz_hd (CW cy w N ++ Z) x) (y z : Int32) (hok : (fz_ok (fz_set V y z).1) = true) : fz_XI l yL_set wsL_set 8 125 1 6 D cy [.ref (f 0), .int y, .int z] (FW f a t h x ++ (HW cy h g (nI cn) ++ (CW cy a V ++ (CW cy w N ++ Z)))) (fz_Ew (fz_in (FW f a t h x ++ (HW cy h g (nI cn) ++ (CW cy a V ++ (CW cy w N ++ Z)))))) ((fz_set V y z).1) (FW f a t h x ++ (HW cy h (hs_g g cn) (nI (hs_n cn)) ++ (CW cy a (fz_set V y z).2 ++ (CW cy w V ++ Z)))) true xIS (FW f a t h x ++ (HW cy h (hs_g g cn) (nI (hs_n cn)) ++ (CW cy a (fz_set V y z).2 ++ (CW cy w V ++ Z)))) := by
  refine vx_ofWH (cc := cL_set) (maxL := 4) (ret := (some .int)) (hh := [(0, 6, 7, 15)]) (by decide) rfl ?_
  intro p e s m args below meth c s₁ B hml hv
  obtain ⟨rfl, hP, hK, hD0, hE⟩ := hv
  have hx := B.exec
  have hb := B.bytes
  have hr := B.returns
  have hts := atoms_spec (ws := wsL_set) B.pre
  have hown : s.vm.findClass RL = some m.cls := findClass_of_methodNamed B.named
  have hlocks := B.notSynchronized
  have hD := fz_self hD0
  obtain ⟨A, hAe⟩ : ∃ A : Nat → Prop, A = fz_in (FW f a t h x ++ (HW cy h g (nI cn) ++ (CW cy a V ++ (CW cy w N ++ Z)))) := ⟨_, rfl⟩
  rw [← hAe] at hD
  have hE : fz_Ew A s := by rw [hAe]; exact hE
  have hS : va_S A s.heap s.heap [] := va_S.rf
  have hl := lv_entry ([.ref (f 0), .int y, .int z]) (n := 4) (Nat.le_of_ble_eq_true rfl)
  rw [lg_entry_eq]
  generalize (lg_sl ([.ref (f 0), .int y, .int z]) ++ List.replicate (4 - (lg_sl ([.ref (f 0), .int y, .int z])).length) Slot.unset).toArray = ls at hl ⊢
  have hl : lv_has ls 4 [(0, .ref (f 0)), (1, .int y), (2, .int z)] := hl
  have htab := vx_table (x := yL_set) B (hts (.codeWith yL_set cL_set 4 (some .int) [(0, 6, 7, 15)]) (by decide +kernel))
  refine lv_aload_n hx hb dL_set_0 rfl (lv_at hl 0 rfl) ?_
  refine lv_iload_n hx hb dL_set_1 rfl (lv_at hl 1 rfl) ?_
  refine lv_iload_n hx hb dL_set_2 rfl (lv_at hl 2 rfl) ?_
  refine fz_xretI (P := ([] : va_W)) (S := []) (Wc := (FW f a t h x ++ (HW cy h g (nI cn) ++ (CW cy a V ++ (CW cy w N ++ Z))))) (Wc' := (FW f a t h x ++ (HW cy h (hs_g g cn) (nI (hs_n cn)) ++ (CW cy a (fz_set V y z).2 ++ (CW cy w V ++ Z))))) (WX := (FW f a t h x ++ (HW cy h g (nI cn) ++ (CW cy a (fz_set V y z).2 ++ (CW cy w V ++ Z))))) (vx_runV (As := [.int y, .int z]) (rest := []) ⟨hx, hb, hml, hown, hts⟩ (c_X8_set l hst D cy f a t h x g cn V w N Z nt nc nq nl wk wf hn hw hz hh y z) (cwV 2 hts gL_set_X8_set rfl rfl rfl (by decide +kernel) ⟨Nat.le_of_ble_eq_true rfl, Nat.le_of_ble_eq_true rfl⟩) (fz_preMV (ci := 6) (q0 := 0) hK (fz_seg (fz_nilP (P := ([] : va_W)) hP)) (fz_segD (fz_nilD (P := ([] : va_W)) hD)) rfl rfl rfl fz_Ev_bl (fun U hU hW => hE.1.up hU hS hW (fun q h9 => fz_inD (fz_segD (fz_nilD (P := ([] : va_W)) hD)) h9))) rfl rfl hl.1 rfl (lv_room (Nat.le_of_ble_eq_true rfl)) dL_set_3 ⟨Nat.le_of_ble_eq_true rfl, Nat.le_of_ble_eq_true rfl⟩) (fz_nilP (P := ([] : va_W)) hP) (fz_nilD (P := ([] : va_W)) hD) hS rfl rfl (fun c_9 H locs q9 ce hP hD hS h7 h8 h9 => ?_) (fun c_9 H locs hP hD hS => ?_)
  · skip
    exact absurd (hok.symm.trans c_9) (by decide)
  · skip
    have hP := fz_nilP' (P := ([] : va_W)) hP
    refine fz_wd (k := 1) (n := 6) (Nat.le_of_ble_eq_true rfl) (Nat.le_of_ble_eq_true rfl) ?_
    refine vx_ret ?_
    subst hAe
    exact W.iret (v := ((fz_set V y z).1)) hx hb hr (fun t9 ht9 hW9 => ⟨⟨_, (), rfl, ⟨rfl, rfl⟩, fz_to ht9 hP⟩, hS.F ht9⟩) hS.2.2 dL_set_6
set_option maxHeartbeats 4000000 in
set_option maxRecDepth 100000 in
/-- the law calls set -/
theorem c_L_set_IA (l : Launch) (hst : l.stackTraces = false) (D : va_G) (cy : Nat → ClassId) (f a t h x : Nat → Nat) (g : Nat → Option Nat) (cn : Nat) (V : Nat → Nat → Int32) (w : Nat → Nat) (N : Nat → Nat → Int32) (Z : va_W) (nt nc nq nl wk : Nat) (wf : fz_wf V nt nc nq nl wk) (hn : cn < 5) (hw : g cn = some (w 0)) (hz : fz_zo (V 2) 40) (hh : ∀ k, k < 5 → ∃ x, g k = some x ∧ fz_hd (CW cy w N ++ Z) x) (y z : Int32) (hok : (fz_ok (fz_set V y z).1) = false) (hen : (fz_en (fz_set V y z).1) = xIA) : fz_XI l yL_set wsL_set 8 125 1 6 D cy [.ref (f 0), .int y, .int z] (FW f a t h x ++ (HW cy h g (nI cn) ++ (CW cy a V ++ (CW cy w N ++ Z)))) (fz_Ew (fz_in (FW f a t h x ++ (HW cy h g (nI cn) ++ (CW cy a V ++ (CW cy w N ++ Z)))))) (-11) (FW f a t h x ++ (HW cy h g (nI cn) ++ (CW cy a (fz_set V y z).2 ++ (CW cy w V ++ Z)))) true xIS (FW f a t h x ++ (HW cy h g (nI cn) ++ (CW cy a (fz_set V y z).2 ++ (CW cy w V ++ Z)))) := by
  refine vx_ofWH (cc := cL_set) (maxL := 4) (ret := (some .int)) (hh := [(0, 6, 7, 15)]) (by decide) rfl ?_
  intro p e s m args below meth c s₁ B hml hv
  obtain ⟨rfl, hP, hK, hD0, hE⟩ := hv
  have hx := B.exec
  have hb := B.bytes
  have hr := B.returns
  have hts := atoms_spec (ws := wsL_set) B.pre
  have hown : s.vm.findClass RL = some m.cls := findClass_of_methodNamed B.named
  have hlocks := B.notSynchronized
  have hD := fz_self hD0
  obtain ⟨A, hAe⟩ : ∃ A : Nat → Prop, A = fz_in (FW f a t h x ++ (HW cy h g (nI cn) ++ (CW cy a V ++ (CW cy w N ++ Z)))) := ⟨_, rfl⟩
  rw [← hAe] at hD
  have hE : fz_Ew A s := by rw [hAe]; exact hE
  have hS : va_S A s.heap s.heap [] := va_S.rf
  have hl := lv_entry ([.ref (f 0), .int y, .int z]) (n := 4) (Nat.le_of_ble_eq_true rfl)
  rw [lg_entry_eq]
  generalize (lg_sl ([.ref (f 0), .int y, .int z]) ++ List.replicate (4 - (lg_sl ([.ref (f 0), .int y, .int z])).length) Slot.unset).toArray = ls at hl ⊢
  have hl : lv_has ls 4 [(0, .ref (f 0)), (1, .int y), (2, .int z)] := hl
  have htab := vx_table (x := yL_set) B (hts (.codeWith yL_set cL_set 4 (some .int) [(0, 6, 7, 15)]) (by decide +kernel))
  refine lv_aload_n hx hb dL_set_0 rfl (lv_at hl 0 rfl) ?_
  refine lv_iload_n hx hb dL_set_1 rfl (lv_at hl 1 rfl) ?_
  refine lv_iload_n hx hb dL_set_2 rfl (lv_at hl 2 rfl) ?_
  refine fz_xretI (P := ([] : va_W)) (S := []) (Wc := (FW f a t h x ++ (HW cy h g (nI cn) ++ (CW cy a V ++ (CW cy w N ++ Z))))) (Wc' := (FW f a t h x ++ (HW cy h (hs_g g cn) (nI (hs_n cn)) ++ (CW cy a (fz_set V y z).2 ++ (CW cy w V ++ Z))))) (WX := (FW f a t h x ++ (HW cy h g (nI cn) ++ (CW cy a (fz_set V y z).2 ++ (CW cy w V ++ Z))))) (vx_runV (As := [.int y, .int z]) (rest := []) ⟨hx, hb, hml, hown, hts⟩ (c_X8_set l hst D cy f a t h x g cn V w N Z nt nc nq nl wk wf hn hw hz hh y z) (cwV 2 hts gL_set_X8_set rfl rfl rfl (by decide +kernel) ⟨Nat.le_of_ble_eq_true rfl, Nat.le_of_ble_eq_true rfl⟩) (fz_preMV (ci := 6) (q0 := 0) hK (fz_seg (fz_nilP (P := ([] : va_W)) hP)) (fz_segD (fz_nilD (P := ([] : va_W)) hD)) rfl rfl rfl fz_Ev_bl (fun U hU hW => hE.1.up hU hS hW (fun q h9 => fz_inD (fz_segD (fz_nilD (P := ([] : va_W)) hD)) h9))) rfl rfl hl.1 rfl (lv_room (Nat.le_of_ble_eq_true rfl)) dL_set_3 ⟨Nat.le_of_ble_eq_true rfl, Nat.le_of_ble_eq_true rfl⟩) (fz_nilP (P := ([] : va_W)) hP) (fz_nilD (P := ([] : va_W)) hD) hS rfl rfl (fun c_9 H locs q9 ce hP hD hS h7 h8 h9 => ?_) (fun c_9 H locs hP hD hS => ?_)
  · skip
    rw [hen] at h9
    refine vx_catch (name := xIA) hown [] ⟨0, 6, 7, 15⟩ [] (by rw [htab]; rfl) (fun z hz => nomatch hz) (by decide) (by decide) (hts (.classLink RL 15 xIA) (by decide +kernel)) (va_Nw.use rfl (hE.1.1.2.2.1 (.castable xIA xIA) (by decide +kernel))) h7 h8 h9 ?_
    have hP := fz_nilP' (P := ([] : va_W)) hP
    refine lv_astore_n (lv' := [(3, .ref q9), (0, .ref (f 0)), (1, .int y), (2, .int z)]) hx hb dL_set_7 rfl hl (by decide) rfl (fun ls hl => ?_)
    refine lv_bipush (v := (-11)) hx hb dL_set_8 (by decide) ?_
    refine fz_wd (k := 1) (n := 6) (Nat.le_of_ble_eq_true rfl) (Nat.le_of_ble_eq_true rfl) ?_
    refine vx_ret ?_
    subst hAe
    exact W.iret (v := (-11)) hx hb hr (fun t9 ht9 hW9 => ⟨⟨_, (), rfl, ⟨rfl, rfl⟩, fz_to ht9 hP⟩, hS.F ht9⟩) hS.2.2 dL_set_10
  · skip
    exact absurd (hok.symm.trans c_9) (by decide)
set_option maxHeartbeats 4000000 in
set_option maxRecDepth 100000 in
/-- the law calls endWeek -/
theorem c_L_endWeek_t (l : Launch) (hst : l.stackTraces = false) (D : va_G) (cy : Nat → ClassId) (f a t h x : Nat → Nat) (g : Nat → Option Nat) (cn : Nat) (V : Nat → Nat → Int32) (w : Nat → Nat) (N : Nat → Nat → Int32) (Z : va_W) (nt nc nq nl wk : Nat) (wf : fz_wf V nt nc nq nl wk) (hn : cn < 5) (hw : g cn = some (w 0)) (hz : fz_zo (V 2) 40) (hh : ∀ k, k < 5 → ∃ x, g k = some x ∧ fz_hd (CW cy w N ++ Z) x)  (hok : (fz_ok (fz_close V nt nc nl wk).1) = true) : fz_XI l yL_endWeek wsL_endWeek 8 123 1 6 D cy [.ref (f 0)] (FW f a t h x ++ (HW cy h g (nI cn) ++ (CW cy a V ++ (CW cy w N ++ Z)))) (fz_Ew (fz_in (FW f a t h x ++ (HW cy h g (nI cn) ++ (CW cy a V ++ (CW cy w N ++ Z)))))) ((fz_close V nt nc nl wk).1) (FW f a t h x ++ (HW cy h (hs_g g cn) (nI (hs_n cn)) ++ (CW cy a (fz_close V nt nc nl wk).2 ++ (CW cy w V ++ Z)))) true xIS (FW f a t h x ++ (HW cy h (hs_g g cn) (nI (hs_n cn)) ++ (CW cy a (fz_close V nt nc nl wk).2 ++ (CW cy w V ++ Z)))) := by
  refine vx_ofWH (cc := cL_endWeek) (maxL := 2) (ret := (some .int)) (hh := [(0, 4, 5, 17)]) (by decide) rfl ?_
  intro p e s m args below meth c s₁ B hml hv
  obtain ⟨rfl, hP, hK, hD0, hE⟩ := hv
  have hx := B.exec
  have hb := B.bytes
  have hr := B.returns
  have hts := atoms_spec (ws := wsL_endWeek) B.pre
  have hown : s.vm.findClass RL = some m.cls := findClass_of_methodNamed B.named
  have hlocks := B.notSynchronized
  have hD := fz_self hD0
  obtain ⟨A, hAe⟩ : ∃ A : Nat → Prop, A = fz_in (FW f a t h x ++ (HW cy h g (nI cn) ++ (CW cy a V ++ (CW cy w N ++ Z)))) := ⟨_, rfl⟩
  rw [← hAe] at hD
  have hE : fz_Ew A s := by rw [hAe]; exact hE
  have hS : va_S A s.heap s.heap [] := va_S.rf
  have hl := lv_entry ([.ref (f 0)]) (n := 2) (Nat.le_of_ble_eq_true rfl)
  rw [lg_entry_eq]
  generalize (lg_sl ([.ref (f 0)]) ++ List.replicate (2 - (lg_sl ([.ref (f 0)])).length) Slot.unset).toArray = ls at hl ⊢
  have hl : lv_has ls 2 [(0, .ref (f 0))] := hl
  have htab := vx_table (x := yL_endWeek) B (hts (.codeWith yL_endWeek cL_endWeek 2 (some .int) [(0, 4, 5, 17)]) (by decide +kernel))
  refine lv_aload_n hx hb dL_endWeek_0 rfl (lv_at hl 0 rfl) ?_
  refine fz_xretI (P := ([] : va_W)) (S := []) (Wc := (FW f a t h x ++ (HW cy h g (nI cn) ++ (CW cy a V ++ (CW cy w N ++ Z))))) (Wc' := (FW f a t h x ++ (HW cy h (hs_g g cn) (nI (hs_n cn)) ++ (CW cy a (fz_close V nt nc nl wk).2 ++ (CW cy w V ++ Z))))) (WX := (FW f a t h x ++ (HW cy h g (nI cn) ++ (CW cy a (fz_close V nt nc nl wk).2 ++ (CW cy w V ++ Z))))) (vx_runV (As := []) (rest := []) ⟨hx, hb, hml, hown, hts⟩ (c_X8_endWeek l hst D cy f a t h x g cn V w N Z nt nc nq nl wk wf hn hw hz hh) (cwV 0 hts gL_endWeek_X8_endWeek rfl rfl rfl (by decide +kernel) ⟨Nat.le_of_ble_eq_true rfl, Nat.le_of_ble_eq_true rfl⟩) (fz_preMV (ci := 6) (q0 := 0) hK (fz_seg (fz_nilP (P := ([] : va_W)) hP)) (fz_segD (fz_nilD (P := ([] : va_W)) hD)) rfl rfl rfl fz_Ev_bl (fun U hU hW => hE.1.up hU hS hW (fun q h9 => fz_inD (fz_segD (fz_nilD (P := ([] : va_W)) hD)) h9))) rfl rfl hl.1 rfl (lv_room (Nat.le_of_ble_eq_true rfl)) dL_endWeek_1 ⟨Nat.le_of_ble_eq_true rfl, Nat.le_of_ble_eq_true rfl⟩) (fz_nilP (P := ([] : va_W)) hP) (fz_nilD (P := ([] : va_W)) hD) hS rfl rfl (fun c_9 H locs q9 ce hP hD hS h7 h8 h9 => ?_) (fun c_9 H locs hP hD hS => ?_)
  · skip
    exact absurd (hok.symm.trans c_9) (by decide)
  · skip
    have hP := fz_nilP' (P := ([] : va_W)) hP
    refine fz_wd (k := 1) (n := 6) (Nat.le_of_ble_eq_true rfl) (Nat.le_of_ble_eq_true rfl) ?_
    refine vx_ret ?_
    subst hAe
    exact W.iret (v := ((fz_close V nt nc nl wk).1)) hx hb hr (fun t9 ht9 hW9 => ⟨⟨_, (), rfl, ⟨rfl, rfl⟩, fz_to ht9 hP⟩, hS.F ht9⟩) hS.2.2 dL_endWeek_4
set_option maxHeartbeats 4000000 in
set_option maxRecDepth 100000 in
/-- the law calls endWeek -/
theorem c_L_endWeek_IS (l : Launch) (hst : l.stackTraces = false) (D : va_G) (cy : Nat → ClassId) (f a t h x : Nat → Nat) (g : Nat → Option Nat) (cn : Nat) (V : Nat → Nat → Int32) (w : Nat → Nat) (N : Nat → Nat → Int32) (Z : va_W) (nt nc nq nl wk : Nat) (wf : fz_wf V nt nc nq nl wk) (hn : cn < 5) (hw : g cn = some (w 0)) (hz : fz_zo (V 2) 40) (hh : ∀ k, k < 5 → ∃ x, g k = some x ∧ fz_hd (CW cy w N ++ Z) x)  (hok : (fz_ok (fz_close V nt nc nl wk).1) = false) (hen : (fz_en (fz_close V nt nc nl wk).1) = xIS) : fz_XI l yL_endWeek wsL_endWeek 8 123 1 6 D cy [.ref (f 0)] (FW f a t h x ++ (HW cy h g (nI cn) ++ (CW cy a V ++ (CW cy w N ++ Z)))) (fz_Ew (fz_in (FW f a t h x ++ (HW cy h g (nI cn) ++ (CW cy a V ++ (CW cy w N ++ Z)))))) (-11) (FW f a t h x ++ (HW cy h g (nI cn) ++ (CW cy a (fz_close V nt nc nl wk).2 ++ (CW cy w V ++ Z)))) true xIS (FW f a t h x ++ (HW cy h g (nI cn) ++ (CW cy a (fz_close V nt nc nl wk).2 ++ (CW cy w V ++ Z)))) := by
  refine vx_ofWH (cc := cL_endWeek) (maxL := 2) (ret := (some .int)) (hh := [(0, 4, 5, 17)]) (by decide) rfl ?_
  intro p e s m args below meth c s₁ B hml hv
  obtain ⟨rfl, hP, hK, hD0, hE⟩ := hv
  have hx := B.exec
  have hb := B.bytes
  have hr := B.returns
  have hts := atoms_spec (ws := wsL_endWeek) B.pre
  have hown : s.vm.findClass RL = some m.cls := findClass_of_methodNamed B.named
  have hlocks := B.notSynchronized
  have hD := fz_self hD0
  obtain ⟨A, hAe⟩ : ∃ A : Nat → Prop, A = fz_in (FW f a t h x ++ (HW cy h g (nI cn) ++ (CW cy a V ++ (CW cy w N ++ Z)))) := ⟨_, rfl⟩
  rw [← hAe] at hD
  have hE : fz_Ew A s := by rw [hAe]; exact hE
  have hS : va_S A s.heap s.heap [] := va_S.rf
  have hl := lv_entry ([.ref (f 0)]) (n := 2) (Nat.le_of_ble_eq_true rfl)
  rw [lg_entry_eq]
  generalize (lg_sl ([.ref (f 0)]) ++ List.replicate (2 - (lg_sl ([.ref (f 0)])).length) Slot.unset).toArray = ls at hl ⊢
  have hl : lv_has ls 2 [(0, .ref (f 0))] := hl
  have htab := vx_table (x := yL_endWeek) B (hts (.codeWith yL_endWeek cL_endWeek 2 (some .int) [(0, 4, 5, 17)]) (by decide +kernel))
  refine lv_aload_n hx hb dL_endWeek_0 rfl (lv_at hl 0 rfl) ?_
  refine fz_xretI (P := ([] : va_W)) (S := []) (Wc := (FW f a t h x ++ (HW cy h g (nI cn) ++ (CW cy a V ++ (CW cy w N ++ Z))))) (Wc' := (FW f a t h x ++ (HW cy h (hs_g g cn) (nI (hs_n cn)) ++ (CW cy a (fz_close V nt nc nl wk).2 ++ (CW cy w V ++ Z))))) (WX := (FW f a t h x ++ (HW cy h g (nI cn) ++ (CW cy a (fz_close V nt nc nl wk).2 ++ (CW cy w V ++ Z))))) (vx_runV (As := []) (rest := []) ⟨hx, hb, hml, hown, hts⟩ (c_X8_endWeek l hst D cy f a t h x g cn V w N Z nt nc nq nl wk wf hn hw hz hh) (cwV 0 hts gL_endWeek_X8_endWeek rfl rfl rfl (by decide +kernel) ⟨Nat.le_of_ble_eq_true rfl, Nat.le_of_ble_eq_true rfl⟩) (fz_preMV (ci := 6) (q0 := 0) hK (fz_seg (fz_nilP (P := ([] : va_W)) hP)) (fz_segD (fz_nilD (P := ([] : va_W)) hD)) rfl rfl rfl fz_Ev_bl (fun U hU hW => hE.1.up hU hS hW (fun q h9 => fz_inD (fz_segD (fz_nilD (P := ([] : va_W)) hD)) h9))) rfl rfl hl.1 rfl (lv_room (Nat.le_of_ble_eq_true rfl)) dL_endWeek_1 ⟨Nat.le_of_ble_eq_true rfl, Nat.le_of_ble_eq_true rfl⟩) (fz_nilP (P := ([] : va_W)) hP) (fz_nilD (P := ([] : va_W)) hD) hS rfl rfl (fun c_9 H locs q9 ce hP hD hS h7 h8 h9 => ?_) (fun c_9 H locs hP hD hS => ?_)
  · skip
    rw [hen] at h9
    refine vx_catch (name := xIS) hown [] ⟨0, 4, 5, 17⟩ [] (by rw [htab]; rfl) (fun z hz => nomatch hz) (by decide) (by decide) (hts (.classLink RL 17 xIS) (by decide +kernel)) (va_Nw.use rfl (hE.1.1.2.2.1 (.castable xIS xIS) (by decide +kernel))) h7 h8 h9 ?_
    have hP := fz_nilP' (P := ([] : va_W)) hP
    refine lv_astore_n (lv' := [(1, .ref q9), (0, .ref (f 0))]) hx hb dL_endWeek_5 rfl hl (by decide) rfl (fun ls hl => ?_)
    refine lv_bipush (v := (-11)) hx hb dL_endWeek_6 (by decide) ?_
    refine fz_wd (k := 1) (n := 6) (Nat.le_of_ble_eq_true rfl) (Nat.le_of_ble_eq_true rfl) ?_
    refine vx_ret ?_
    subst hAe
    exact W.iret (v := (-11)) hx hb hr (fun t9 ht9 hW9 => ⟨⟨_, (), rfl, ⟨rfl, rfl⟩, fz_to ht9 hP⟩, hS.F ht9⟩) hS.2.2 dL_endWeek_8
  · skip
    exact absurd (hok.symm.trans c_9) (by decide)
set_option maxHeartbeats 4000000 in
set_option maxRecDepth 100000 in
/-- the law calls ask -/
theorem c_L_ask_t (l : Launch) (hst : l.stackTraces = false) (D : va_G) (cy : Nat → ClassId) (f a t h x : Nat → Nat) (g : Nat → Option Nat) (cn : Nat) (V : Nat → Nat → Int32) (w : Nat → Nat) (N : Nat → Nat → Int32) (Z : va_W) (nt nc nq nl wk : Nat) (wf : fz_wf V nt nc nq nl wk) (hn : cn < 5) (hw : g cn = some (w 0)) (hz : fz_zo (V 2) 40) (hh : ∀ k, k < 5 → ∃ x, g k = some x ∧ fz_hd (CW cy w N ++ Z) x) (y z : Int32) (hok : (fz_ok (fz_enter V nc nq y z).1) = true) : fz_XI l yL_ask wsL_ask 8 125 1 6 D cy [.ref (f 0), .int y, .int z] (FW f a t h x ++ (HW cy h g (nI cn) ++ (CW cy a V ++ (CW cy w N ++ Z)))) (fz_Ew (fz_in (FW f a t h x ++ (HW cy h g (nI cn) ++ (CW cy a V ++ (CW cy w N ++ Z)))))) ((fz_enter V nc nq y z).1) (FW f a t h x ++ (HW cy h (hs_g g cn) (nI (hs_n cn)) ++ (CW cy a (fz_enter V nc nq y z).2 ++ (CW cy w V ++ Z)))) true xIS (FW f a t h x ++ (HW cy h (hs_g g cn) (nI (hs_n cn)) ++ (CW cy a (fz_enter V nc nq y z).2 ++ (CW cy w V ++ Z)))) := by
  refine vx_ofWH (cc := cL_ask) (maxL := 4) (ret := (some .int)) (hh := [(0, 6, 7, 34), (0, 6, 11, 15), (0, 6, 15, 17)]) (by decide) rfl ?_
  intro p e s m args below meth c s₁ B hml hv
  obtain ⟨rfl, hP, hK, hD0, hE⟩ := hv
  have hx := B.exec
  have hb := B.bytes
  have hr := B.returns
  have hts := atoms_spec (ws := wsL_ask) B.pre
  have hown : s.vm.findClass RL = some m.cls := findClass_of_methodNamed B.named
  have hlocks := B.notSynchronized
  have hD := fz_self hD0
  obtain ⟨A, hAe⟩ : ∃ A : Nat → Prop, A = fz_in (FW f a t h x ++ (HW cy h g (nI cn) ++ (CW cy a V ++ (CW cy w N ++ Z)))) := ⟨_, rfl⟩
  rw [← hAe] at hD
  have hE : fz_Ew A s := by rw [hAe]; exact hE
  have hS : va_S A s.heap s.heap [] := va_S.rf
  have hl := lv_entry ([.ref (f 0), .int y, .int z]) (n := 4) (Nat.le_of_ble_eq_true rfl)
  rw [lg_entry_eq]
  generalize (lg_sl ([.ref (f 0), .int y, .int z]) ++ List.replicate (4 - (lg_sl ([.ref (f 0), .int y, .int z])).length) Slot.unset).toArray = ls at hl ⊢
  have hl : lv_has ls 4 [(0, .ref (f 0)), (1, .int y), (2, .int z)] := hl
  have htab := vx_table (x := yL_ask) B (hts (.codeWith yL_ask cL_ask 4 (some .int) [(0, 6, 7, 34), (0, 6, 11, 15), (0, 6, 15, 17)]) (by decide +kernel))
  refine lv_aload_n hx hb dL_ask_0 rfl (lv_at hl 0 rfl) ?_
  refine lv_iload_n hx hb dL_ask_1 rfl (lv_at hl 1 rfl) ?_
  refine lv_iload_n hx hb dL_ask_2 rfl (lv_at hl 2 rfl) ?_
  refine fz_xretI (P := ([] : va_W)) (S := []) (Wc := (FW f a t h x ++ (HW cy h g (nI cn) ++ (CW cy a V ++ (CW cy w N ++ Z))))) (Wc' := (FW f a t h x ++ (HW cy h (hs_g g cn) (nI (hs_n cn)) ++ (CW cy a (fz_enter V nc nq y z).2 ++ (CW cy w V ++ Z))))) (WX := (FW f a t h x ++ (HW cy h g (nI cn) ++ (CW cy a (fz_enter V nc nq y z).2 ++ (CW cy w V ++ Z))))) (vx_runV (As := [.int y, .int z]) (rest := []) ⟨hx, hb, hml, hown, hts⟩ (c_X8_ask l hst D cy f a t h x g cn V w N Z nt nc nq nl wk wf hn hw hz hh y z) (cwV 2 hts gL_ask_X8_ask rfl rfl rfl (by decide +kernel) ⟨Nat.le_of_ble_eq_true rfl, Nat.le_of_ble_eq_true rfl⟩) (fz_preMV (ci := 6) (q0 := 0) hK (fz_seg (fz_nilP (P := ([] : va_W)) hP)) (fz_segD (fz_nilD (P := ([] : va_W)) hD)) rfl rfl rfl fz_Ev_bl (fun U hU hW => hE.1.up hU hS hW (fun q h9 => fz_inD (fz_segD (fz_nilD (P := ([] : va_W)) hD)) h9))) rfl rfl hl.1 rfl (lv_room (Nat.le_of_ble_eq_true rfl)) dL_ask_3 ⟨Nat.le_of_ble_eq_true rfl, Nat.le_of_ble_eq_true rfl⟩) (fz_nilP (P := ([] : va_W)) hP) (fz_nilD (P := ([] : va_W)) hD) hS rfl rfl (fun c_9 H locs q9 ce hP hD hS h7 h8 h9 => ?_) (fun c_9 H locs hP hD hS => ?_)
  · skip
    exact absurd (hok.symm.trans c_9) (by decide)
  · skip
    have hP := fz_nilP' (P := ([] : va_W)) hP
    refine fz_wd (k := 1) (n := 6) (Nat.le_of_ble_eq_true rfl) (Nat.le_of_ble_eq_true rfl) ?_
    refine vx_ret ?_
    subst hAe
    exact W.iret (v := ((fz_enter V nc nq y z).1)) hx hb hr (fun t9 ht9 hW9 => ⟨⟨_, (), rfl, ⟨rfl, rfl⟩, fz_to ht9 hP⟩, hS.F ht9⟩) hS.2.2 dL_ask_6
set_option maxHeartbeats 4000000 in
set_option maxRecDepth 100000 in
/-- the law calls ask -/
theorem c_L_ask_IO (l : Launch) (hst : l.stackTraces = false) (D : va_G) (cy : Nat → ClassId) (f a t h x : Nat → Nat) (g : Nat → Option Nat) (cn : Nat) (V : Nat → Nat → Int32) (w : Nat → Nat) (N : Nat → Nat → Int32) (Z : va_W) (nt nc nq nl wk : Nat) (wf : fz_wf V nt nc nq nl wk) (hn : cn < 5) (hw : g cn = some (w 0)) (hz : fz_zo (V 2) 40) (hh : ∀ k, k < 5 → ∃ x, g k = some x ∧ fz_hd (CW cy w N ++ Z) x) (y z : Int32) (hok : (fz_ok (fz_enter V nc nq y z).1) = false) (hen : (fz_en (fz_enter V nc nq y z).1) = xIO) : fz_XI l yL_ask wsL_ask 8 125 1 6 D cy [.ref (f 0), .int y, .int z] (FW f a t h x ++ (HW cy h g (nI cn) ++ (CW cy a V ++ (CW cy w N ++ Z)))) (fz_Ew (fz_in (FW f a t h x ++ (HW cy h g (nI cn) ++ (CW cy a V ++ (CW cy w N ++ Z)))))) (-11) (FW f a t h x ++ (HW cy h g (nI cn) ++ (CW cy a (fz_enter V nc nq y z).2 ++ (CW cy w V ++ Z)))) true xIS (FW f a t h x ++ (HW cy h g (nI cn) ++ (CW cy a (fz_enter V nc nq y z).2 ++ (CW cy w V ++ Z)))) := by
  refine vx_ofWH (cc := cL_ask) (maxL := 4) (ret := (some .int)) (hh := [(0, 6, 7, 34), (0, 6, 11, 15), (0, 6, 15, 17)]) (by decide) rfl ?_
  intro p e s m args below meth c s₁ B hml hv
  obtain ⟨rfl, hP, hK, hD0, hE⟩ := hv
  have hx := B.exec
  have hb := B.bytes
  have hr := B.returns
  have hts := atoms_spec (ws := wsL_ask) B.pre
  have hown : s.vm.findClass RL = some m.cls := findClass_of_methodNamed B.named
  have hlocks := B.notSynchronized
  have hD := fz_self hD0
  obtain ⟨A, hAe⟩ : ∃ A : Nat → Prop, A = fz_in (FW f a t h x ++ (HW cy h g (nI cn) ++ (CW cy a V ++ (CW cy w N ++ Z)))) := ⟨_, rfl⟩
  rw [← hAe] at hD
  have hE : fz_Ew A s := by rw [hAe]; exact hE
  have hS : va_S A s.heap s.heap [] := va_S.rf
  have hl := lv_entry ([.ref (f 0), .int y, .int z]) (n := 4) (Nat.le_of_ble_eq_true rfl)
  rw [lg_entry_eq]
  generalize (lg_sl ([.ref (f 0), .int y, .int z]) ++ List.replicate (4 - (lg_sl ([.ref (f 0), .int y, .int z])).length) Slot.unset).toArray = ls at hl ⊢
  have hl : lv_has ls 4 [(0, .ref (f 0)), (1, .int y), (2, .int z)] := hl
  have htab := vx_table (x := yL_ask) B (hts (.codeWith yL_ask cL_ask 4 (some .int) [(0, 6, 7, 34), (0, 6, 11, 15), (0, 6, 15, 17)]) (by decide +kernel))
  refine lv_aload_n hx hb dL_ask_0 rfl (lv_at hl 0 rfl) ?_
  refine lv_iload_n hx hb dL_ask_1 rfl (lv_at hl 1 rfl) ?_
  refine lv_iload_n hx hb dL_ask_2 rfl (lv_at hl 2 rfl) ?_
  refine fz_xretI (P := ([] : va_W)) (S := []) (Wc := (FW f a t h x ++ (HW cy h g (nI cn) ++ (CW cy a V ++ (CW cy w N ++ Z))))) (Wc' := (FW f a t h x ++ (HW cy h (hs_g g cn) (nI (hs_n cn)) ++ (CW cy a (fz_enter V nc nq y z).2 ++ (CW cy w V ++ Z))))) (WX := (FW f a t h x ++ (HW cy h g (nI cn) ++ (CW cy a (fz_enter V nc nq y z).2 ++ (CW cy w V ++ Z))))) (vx_runV (As := [.int y, .int z]) (rest := []) ⟨hx, hb, hml, hown, hts⟩ (c_X8_ask l hst D cy f a t h x g cn V w N Z nt nc nq nl wk wf hn hw hz hh y z) (cwV 2 hts gL_ask_X8_ask rfl rfl rfl (by decide +kernel) ⟨Nat.le_of_ble_eq_true rfl, Nat.le_of_ble_eq_true rfl⟩) (fz_preMV (ci := 6) (q0 := 0) hK (fz_seg (fz_nilP (P := ([] : va_W)) hP)) (fz_segD (fz_nilD (P := ([] : va_W)) hD)) rfl rfl rfl fz_Ev_bl (fun U hU hW => hE.1.up hU hS hW (fun q h9 => fz_inD (fz_segD (fz_nilD (P := ([] : va_W)) hD)) h9))) rfl rfl hl.1 rfl (lv_room (Nat.le_of_ble_eq_true rfl)) dL_ask_3 ⟨Nat.le_of_ble_eq_true rfl, Nat.le_of_ble_eq_true rfl⟩) (fz_nilP (P := ([] : va_W)) hP) (fz_nilD (P := ([] : va_W)) hD) hS rfl rfl (fun c_9 H locs q9 ce hP hD hS h7 h8 h9 => ?_) (fun c_9 H locs hP hD hS => ?_)
  · skip
    rw [hen] at h9
    refine vx_catch (name := xIO) hown [] ⟨0, 6, 7, 34⟩ [⟨0, 6, 11, 15⟩, ⟨0, 6, 15, 17⟩] (by rw [htab]; rfl) (fun z hz => nomatch hz) (by decide) (by decide) (hts (.classLink RL 34 xIO) (by decide +kernel)) (va_Nw.use rfl (hE.1.1.2.2.1 (.castable xIO xIO) (by decide +kernel))) h7 h8 h9 ?_
    have hP := fz_nilP' (P := ([] : va_W)) hP
    refine lv_astore_n (lv' := [(3, .ref q9), (0, .ref (f 0)), (1, .int y), (2, .int z)]) hx hb dL_ask_7 rfl hl (by decide) rfl (fun ls hl => ?_)
    refine lv_bipush (v := (-11)) hx hb dL_ask_8 (by decide) ?_
    refine fz_wd (k := 1) (n := 6) (Nat.le_of_ble_eq_true rfl) (Nat.le_of_ble_eq_true rfl) ?_
    refine vx_ret ?_
    subst hAe
    exact W.iret (v := (-11)) hx hb hr (fun t9 ht9 hW9 => ⟨⟨_, (), rfl, ⟨rfl, rfl⟩, fz_to ht9 hP⟩, hS.F ht9⟩) hS.2.2 dL_ask_10
  · skip
    exact absurd (hok.symm.trans c_9) (by decide)
set_option maxHeartbeats 4000000 in
set_option maxRecDepth 100000 in
/-- the law calls ask -/
theorem c_L_ask_IA (l : Launch) (hst : l.stackTraces = false) (D : va_G) (cy : Nat → ClassId) (f a t h x : Nat → Nat) (g : Nat → Option Nat) (cn : Nat) (V : Nat → Nat → Int32) (w : Nat → Nat) (N : Nat → Nat → Int32) (Z : va_W) (nt nc nq nl wk : Nat) (wf : fz_wf V nt nc nq nl wk) (hn : cn < 5) (hw : g cn = some (w 0)) (hz : fz_zo (V 2) 40) (hh : ∀ k, k < 5 → ∃ x, g k = some x ∧ fz_hd (CW cy w N ++ Z) x) (y z : Int32) (hok : (fz_ok (fz_enter V nc nq y z).1) = false) (hen : (fz_en (fz_enter V nc nq y z).1) = xIA) : fz_XI l yL_ask wsL_ask 8 125 1 6 D cy [.ref (f 0), .int y, .int z] (FW f a t h x ++ (HW cy h g (nI cn) ++ (CW cy a V ++ (CW cy w N ++ Z)))) (fz_Ew (fz_in (FW f a t h x ++ (HW cy h g (nI cn) ++ (CW cy a V ++ (CW cy w N ++ Z)))))) (-12) (FW f a t h x ++ (HW cy h g (nI cn) ++ (CW cy a (fz_enter V nc nq y z).2 ++ (CW cy w V ++ Z)))) true xIS (FW f a t h x ++ (HW cy h g (nI cn) ++ (CW cy a (fz_enter V nc nq y z).2 ++ (CW cy w V ++ Z)))) := by
  refine vx_ofWH (cc := cL_ask) (maxL := 4) (ret := (some .int)) (hh := [(0, 6, 7, 34), (0, 6, 11, 15), (0, 6, 15, 17)]) (by decide) rfl ?_
  intro p e s m args below meth c s₁ B hml hv
  obtain ⟨rfl, hP, hK, hD0, hE⟩ := hv
  have hx := B.exec
  have hb := B.bytes
  have hr := B.returns
  have hts := atoms_spec (ws := wsL_ask) B.pre
  have hown : s.vm.findClass RL = some m.cls := findClass_of_methodNamed B.named
  have hlocks := B.notSynchronized
  have hD := fz_self hD0
  obtain ⟨A, hAe⟩ : ∃ A : Nat → Prop, A = fz_in (FW f a t h x ++ (HW cy h g (nI cn) ++ (CW cy a V ++ (CW cy w N ++ Z)))) := ⟨_, rfl⟩
  rw [← hAe] at hD
  have hE : fz_Ew A s := by rw [hAe]; exact hE
  have hS : va_S A s.heap s.heap [] := va_S.rf
  have hl := lv_entry ([.ref (f 0), .int y, .int z]) (n := 4) (Nat.le_of_ble_eq_true rfl)
  rw [lg_entry_eq]
  generalize (lg_sl ([.ref (f 0), .int y, .int z]) ++ List.replicate (4 - (lg_sl ([.ref (f 0), .int y, .int z])).length) Slot.unset).toArray = ls at hl ⊢
  have hl : lv_has ls 4 [(0, .ref (f 0)), (1, .int y), (2, .int z)] := hl
  have htab := vx_table (x := yL_ask) B (hts (.codeWith yL_ask cL_ask 4 (some .int) [(0, 6, 7, 34), (0, 6, 11, 15), (0, 6, 15, 17)]) (by decide +kernel))
  refine lv_aload_n hx hb dL_ask_0 rfl (lv_at hl 0 rfl) ?_
  refine lv_iload_n hx hb dL_ask_1 rfl (lv_at hl 1 rfl) ?_
  refine lv_iload_n hx hb dL_ask_2 rfl (lv_at hl 2 rfl) ?_
  refine fz_xretI (P := ([] : va_W)) (S := []) (Wc := (FW f a t h x ++ (HW cy h g (nI cn) ++ (CW cy a V ++ (CW cy w N ++ Z))))) (Wc' := (FW f a t h x ++ (HW cy h (hs_g g cn) (nI (hs_n cn)) ++ (CW cy a (fz_enter V nc nq y z).2 ++ (CW cy w V ++ Z))))) (WX := (FW f a t h x ++ (HW cy h g (nI cn) ++ (CW cy a (fz_enter V nc nq y z).2 ++ (CW cy w V ++ Z))))) (vx_runV (As := [.int y, .int z]) (rest := []) ⟨hx, hb, hml, hown, hts⟩ (c_X8_ask l hst D cy f a t h x g cn V w N Z nt nc nq nl wk wf hn hw hz hh y z) (cwV 2 hts gL_ask_X8_ask rfl rfl rfl (by decide +kernel) ⟨Nat.le_of_ble_eq_true rfl, Nat.le_of_ble_eq_true rfl⟩) (fz_preMV (ci := 6) (q0 := 0) hK (fz_seg (fz_nilP (P := ([] : va_W)) hP)) (fz_segD (fz_nilD (P := ([] : va_W)) hD)) rfl rfl rfl fz_Ev_bl (fun U hU hW => hE.1.up hU hS hW (fun q h9 => fz_inD (fz_segD (fz_nilD (P := ([] : va_W)) hD)) h9))) rfl rfl hl.1 rfl (lv_room (Nat.le_of_ble_eq_true rfl)) dL_ask_3 ⟨Nat.le_of_ble_eq_true rfl, Nat.le_of_ble_eq_true rfl⟩) (fz_nilP (P := ([] : va_W)) hP) (fz_nilD (P := ([] : va_W)) hD) hS rfl rfl (fun c_9 H locs q9 ce hP hD hS h7 h8 h9 => ?_) (fun c_9 H locs hP hD hS => ?_)
  · skip
    rw [hen] at h9
    refine vx_catch (name := xIA) hown [⟨0, 6, 7, 34⟩] ⟨0, 6, 11, 15⟩ [⟨0, 6, 15, 17⟩] (by rw [htab]; rfl) (fun z hz => by rcases List.mem_cons.mp hz with rfl | hz; exact Or.inr ⟨by decide, xIO, hts (.classLink RL 34 xIO) (by decide +kernel), hE.2.2.1⟩; exact nomatch hz) (by decide) (by decide) (hts (.classLink RL 15 xIA) (by decide +kernel)) (va_Nw.use rfl (hE.1.1.2.2.1 (.castable xIA xIA) (by decide +kernel))) h7 h8 h9 ?_
    have hP := fz_nilP' (P := ([] : va_W)) hP
    refine lv_astore_n (lv' := [(3, .ref q9), (0, .ref (f 0)), (1, .int y), (2, .int z)]) hx hb dL_ask_11 rfl hl (by decide) rfl (fun ls hl => ?_)
    refine lv_bipush (v := (-12)) hx hb dL_ask_12 (by decide) ?_
    refine fz_wd (k := 1) (n := 6) (Nat.le_of_ble_eq_true rfl) (Nat.le_of_ble_eq_true rfl) ?_
    refine vx_ret ?_
    subst hAe
    exact W.iret (v := (-12)) hx hb hr (fun t9 ht9 hW9 => ⟨⟨_, (), rfl, ⟨rfl, rfl⟩, fz_to ht9 hP⟩, hS.F ht9⟩) hS.2.2 dL_ask_14
  · skip
    exact absurd (hok.symm.trans c_9) (by decide)
set_option maxHeartbeats 4000000 in
set_option maxRecDepth 100000 in
/-- the law calls ask -/
theorem c_L_ask_IS (l : Launch) (hst : l.stackTraces = false) (D : va_G) (cy : Nat → ClassId) (f a t h x : Nat → Nat) (g : Nat → Option Nat) (cn : Nat) (V : Nat → Nat → Int32) (w : Nat → Nat) (N : Nat → Nat → Int32) (Z : va_W) (nt nc nq nl wk : Nat) (wf : fz_wf V nt nc nq nl wk) (hn : cn < 5) (hw : g cn = some (w 0)) (hz : fz_zo (V 2) 40) (hh : ∀ k, k < 5 → ∃ x, g k = some x ∧ fz_hd (CW cy w N ++ Z) x) (y z : Int32) (hok : (fz_ok (fz_enter V nc nq y z).1) = false) (hen : (fz_en (fz_enter V nc nq y z).1) = xIS) : fz_XI l yL_ask wsL_ask 8 125 1 6 D cy [.ref (f 0), .int y, .int z] (FW f a t h x ++ (HW cy h g (nI cn) ++ (CW cy a V ++ (CW cy w N ++ Z)))) (fz_Ew (fz_in (FW f a t h x ++ (HW cy h g (nI cn) ++ (CW cy a V ++ (CW cy w N ++ Z)))))) (-13) (FW f a t h x ++ (HW cy h g (nI cn) ++ (CW cy a (fz_enter V nc nq y z).2 ++ (CW cy w V ++ Z)))) true xIS (FW f a t h x ++ (HW cy h g (nI cn) ++ (CW cy a (fz_enter V nc nq y z).2 ++ (CW cy w V ++ Z)))) := by
  refine vx_ofWH (cc := cL_ask) (maxL := 4) (ret := (some .int)) (hh := [(0, 6, 7, 34), (0, 6, 11, 15), (0, 6, 15, 17)]) (by decide) rfl ?_
  intro p e s m args below meth c s₁ B hml hv
  obtain ⟨rfl, hP, hK, hD0, hE⟩ := hv
  have hx := B.exec
  have hb := B.bytes
  have hr := B.returns
  have hts := atoms_spec (ws := wsL_ask) B.pre
  have hown : s.vm.findClass RL = some m.cls := findClass_of_methodNamed B.named
  have hlocks := B.notSynchronized
  have hD := fz_self hD0
  obtain ⟨A, hAe⟩ : ∃ A : Nat → Prop, A = fz_in (FW f a t h x ++ (HW cy h g (nI cn) ++ (CW cy a V ++ (CW cy w N ++ Z)))) := ⟨_, rfl⟩
  rw [← hAe] at hD
  have hE : fz_Ew A s := by rw [hAe]; exact hE
  have hS : va_S A s.heap s.heap [] := va_S.rf
  have hl := lv_entry ([.ref (f 0), .int y, .int z]) (n := 4) (Nat.le_of_ble_eq_true rfl)
  rw [lg_entry_eq]
  generalize (lg_sl ([.ref (f 0), .int y, .int z]) ++ List.replicate (4 - (lg_sl ([.ref (f 0), .int y, .int z])).length) Slot.unset).toArray = ls at hl ⊢
  have hl : lv_has ls 4 [(0, .ref (f 0)), (1, .int y), (2, .int z)] := hl
  have htab := vx_table (x := yL_ask) B (hts (.codeWith yL_ask cL_ask 4 (some .int) [(0, 6, 7, 34), (0, 6, 11, 15), (0, 6, 15, 17)]) (by decide +kernel))
  refine lv_aload_n hx hb dL_ask_0 rfl (lv_at hl 0 rfl) ?_
  refine lv_iload_n hx hb dL_ask_1 rfl (lv_at hl 1 rfl) ?_
  refine lv_iload_n hx hb dL_ask_2 rfl (lv_at hl 2 rfl) ?_
  refine fz_xretI (P := ([] : va_W)) (S := []) (Wc := (FW f a t h x ++ (HW cy h g (nI cn) ++ (CW cy a V ++ (CW cy w N ++ Z))))) (Wc' := (FW f a t h x ++ (HW cy h (hs_g g cn) (nI (hs_n cn)) ++ (CW cy a (fz_enter V nc nq y z).2 ++ (CW cy w V ++ Z))))) (WX := (FW f a t h x ++ (HW cy h g (nI cn) ++ (CW cy a (fz_enter V nc nq y z).2 ++ (CW cy w V ++ Z))))) (vx_runV (As := [.int y, .int z]) (rest := []) ⟨hx, hb, hml, hown, hts⟩ (c_X8_ask l hst D cy f a t h x g cn V w N Z nt nc nq nl wk wf hn hw hz hh y z) (cwV 2 hts gL_ask_X8_ask rfl rfl rfl (by decide +kernel) ⟨Nat.le_of_ble_eq_true rfl, Nat.le_of_ble_eq_true rfl⟩) (fz_preMV (ci := 6) (q0 := 0) hK (fz_seg (fz_nilP (P := ([] : va_W)) hP)) (fz_segD (fz_nilD (P := ([] : va_W)) hD)) rfl rfl rfl fz_Ev_bl (fun U hU hW => hE.1.up hU hS hW (fun q h9 => fz_inD (fz_segD (fz_nilD (P := ([] : va_W)) hD)) h9))) rfl rfl hl.1 rfl (lv_room (Nat.le_of_ble_eq_true rfl)) dL_ask_3 ⟨Nat.le_of_ble_eq_true rfl, Nat.le_of_ble_eq_true rfl⟩) (fz_nilP (P := ([] : va_W)) hP) (fz_nilD (P := ([] : va_W)) hD) hS rfl rfl (fun c_9 H locs q9 ce hP hD hS h7 h8 h9 => ?_) (fun c_9 H locs hP hD hS => ?_)
  · skip
    rw [hen] at h9
    refine vx_catch (name := xIS) hown [⟨0, 6, 7, 34⟩, ⟨0, 6, 11, 15⟩] ⟨0, 6, 15, 17⟩ [] (by rw [htab]; rfl) (fun z hz => by rcases List.mem_cons.mp hz with rfl | hz; exact Or.inr ⟨by decide, xIO, hts (.classLink RL 34 xIO) (by decide +kernel), hE.2.2.2⟩; rcases List.mem_cons.mp hz with rfl | hz; exact Or.inr ⟨by decide, xIA, hts (.classLink RL 15 xIA) (by decide +kernel), hE.2.1⟩; exact nomatch hz) (by decide) (by decide) (hts (.classLink RL 17 xIS) (by decide +kernel)) (va_Nw.use rfl (hE.1.1.2.2.1 (.castable xIS xIS) (by decide +kernel))) h7 h8 h9 ?_
    have hP := fz_nilP' (P := ([] : va_W)) hP
    refine lv_astore_n (lv' := [(3, .ref q9), (0, .ref (f 0)), (1, .int y), (2, .int z)]) hx hb dL_ask_15 rfl hl (by decide) rfl (fun ls hl => ?_)
    refine lv_bipush (v := (-13)) hx hb dL_ask_16 (by decide) ?_
    refine fz_wd (k := 1) (n := 6) (Nat.le_of_ble_eq_true rfl) (Nat.le_of_ble_eq_true rfl) ?_
    refine vx_ret ?_
    subst hAe
    exact W.iret (v := (-13)) hx hb hr (fun t9 ht9 hW9 => ⟨⟨_, (), rfl, ⟨rfl, rfl⟩, fz_to ht9 hP⟩, hS.F ht9⟩) hS.2.2 dL_ask_18
  · skip
    exact absurd (hok.symm.trans c_9) (by decide)
set_option maxHeartbeats 4000000 in
set_option maxRecDepth 100000 in
/-- the law calls exempt -/
theorem c_L_exempt_t (l : Launch) (hst : l.stackTraces = false) (D : va_G) (cy : Nat → ClassId) (f a t h x : Nat → Nat) (g : Nat → Option Nat) (cn : Nat) (V : Nat → Nat → Int32) (w : Nat → Nat) (N : Nat → Nat → Int32) (Z : va_W) (nt nc nq nl wk : Nat) (wf : fz_wf V nt nc nq nl wk) (hn : cn < 5) (hw : g cn = some (w 0)) (hz : fz_zo (V 2) 40) (hh : ∀ k, k < 5 → ∃ x, g k = some x ∧ fz_hd (CW cy w N ++ Z) x) (y : Int32) (hok : (fz_ok (fz_exempt V nc nl y).1) = true) : fz_XI l yL_exempt wsL_exempt 8 124 1 6 D cy [.ref (f 0), .int y] (FW f a t h x ++ (HW cy h g (nI cn) ++ (CW cy a V ++ (CW cy w N ++ Z)))) (fz_Ew (fz_in (FW f a t h x ++ (HW cy h g (nI cn) ++ (CW cy a V ++ (CW cy w N ++ Z)))))) ((fz_exempt V nc nl y).1) (FW f a t h x ++ (HW cy h (hs_g g cn) (nI (hs_n cn)) ++ (CW cy a (fz_exempt V nc nl y).2 ++ (CW cy w V ++ Z)))) true xIS (FW f a t h x ++ (HW cy h (hs_g g cn) (nI (hs_n cn)) ++ (CW cy a (fz_exempt V nc nl y).2 ++ (CW cy w V ++ Z)))) := by
  refine vx_ofWH (cc := cL_exempt) (maxL := 3) (ret := (some .int)) (hh := [(0, 5, 6, 34), (0, 5, 10, 17)]) (by decide) rfl ?_
  intro p e s m args below meth c s₁ B hml hv
  obtain ⟨rfl, hP, hK, hD0, hE⟩ := hv
  have hx := B.exec
  have hb := B.bytes
  have hr := B.returns
  have hts := atoms_spec (ws := wsL_exempt) B.pre
  have hown : s.vm.findClass RL = some m.cls := findClass_of_methodNamed B.named
  have hlocks := B.notSynchronized
  have hD := fz_self hD0
  obtain ⟨A, hAe⟩ : ∃ A : Nat → Prop, A = fz_in (FW f a t h x ++ (HW cy h g (nI cn) ++ (CW cy a V ++ (CW cy w N ++ Z)))) := ⟨_, rfl⟩
  rw [← hAe] at hD
  have hE : fz_Ew A s := by rw [hAe]; exact hE
  have hS : va_S A s.heap s.heap [] := va_S.rf
  have hl := lv_entry ([.ref (f 0), .int y]) (n := 3) (Nat.le_of_ble_eq_true rfl)
  rw [lg_entry_eq]
  generalize (lg_sl ([.ref (f 0), .int y]) ++ List.replicate (3 - (lg_sl ([.ref (f 0), .int y])).length) Slot.unset).toArray = ls at hl ⊢
  have hl : lv_has ls 3 [(0, .ref (f 0)), (1, .int y)] := hl
  have htab := vx_table (x := yL_exempt) B (hts (.codeWith yL_exempt cL_exempt 3 (some .int) [(0, 5, 6, 34), (0, 5, 10, 17)]) (by decide +kernel))
  refine lv_aload_n hx hb dL_exempt_0 rfl (lv_at hl 0 rfl) ?_
  refine lv_iload_n hx hb dL_exempt_1 rfl (lv_at hl 1 rfl) ?_
  refine fz_xretI (P := ([] : va_W)) (S := []) (Wc := (FW f a t h x ++ (HW cy h g (nI cn) ++ (CW cy a V ++ (CW cy w N ++ Z))))) (Wc' := (FW f a t h x ++ (HW cy h (hs_g g cn) (nI (hs_n cn)) ++ (CW cy a (fz_exempt V nc nl y).2 ++ (CW cy w V ++ Z))))) (WX := (FW f a t h x ++ (HW cy h g (nI cn) ++ (CW cy a (fz_exempt V nc nl y).2 ++ (CW cy w V ++ Z))))) (vx_runV (As := [.int y]) (rest := []) ⟨hx, hb, hml, hown, hts⟩ (c_X8_exempt l hst D cy f a t h x g cn V w N Z nt nc nq nl wk wf hn hw hz hh y) (cwV 1 hts gL_exempt_X8_exempt rfl rfl rfl (by decide +kernel) ⟨Nat.le_of_ble_eq_true rfl, Nat.le_of_ble_eq_true rfl⟩) (fz_preMV (ci := 6) (q0 := 0) hK (fz_seg (fz_nilP (P := ([] : va_W)) hP)) (fz_segD (fz_nilD (P := ([] : va_W)) hD)) rfl rfl rfl fz_Ev_bl (fun U hU hW => hE.1.up hU hS hW (fun q h9 => fz_inD (fz_segD (fz_nilD (P := ([] : va_W)) hD)) h9))) rfl rfl hl.1 rfl (lv_room (Nat.le_of_ble_eq_true rfl)) dL_exempt_2 ⟨Nat.le_of_ble_eq_true rfl, Nat.le_of_ble_eq_true rfl⟩) (fz_nilP (P := ([] : va_W)) hP) (fz_nilD (P := ([] : va_W)) hD) hS rfl rfl (fun c_9 H locs q9 ce hP hD hS h7 h8 h9 => ?_) (fun c_9 H locs hP hD hS => ?_)
  · skip
    exact absurd (hok.symm.trans c_9) (by decide)
  · skip
    have hP := fz_nilP' (P := ([] : va_W)) hP
    refine fz_wd (k := 1) (n := 6) (Nat.le_of_ble_eq_true rfl) (Nat.le_of_ble_eq_true rfl) ?_
    refine vx_ret ?_
    subst hAe
    exact W.iret (v := ((fz_exempt V nc nl y).1)) hx hb hr (fun t9 ht9 hW9 => ⟨⟨_, (), rfl, ⟨rfl, rfl⟩, fz_to ht9 hP⟩, hS.F ht9⟩) hS.2.2 dL_exempt_5
set_option maxHeartbeats 4000000 in
set_option maxRecDepth 100000 in
/-- the law calls exempt -/
theorem c_L_exempt_IO (l : Launch) (hst : l.stackTraces = false) (D : va_G) (cy : Nat → ClassId) (f a t h x : Nat → Nat) (g : Nat → Option Nat) (cn : Nat) (V : Nat → Nat → Int32) (w : Nat → Nat) (N : Nat → Nat → Int32) (Z : va_W) (nt nc nq nl wk : Nat) (wf : fz_wf V nt nc nq nl wk) (hn : cn < 5) (hw : g cn = some (w 0)) (hz : fz_zo (V 2) 40) (hh : ∀ k, k < 5 → ∃ x, g k = some x ∧ fz_hd (CW cy w N ++ Z) x) (y : Int32) (hok : (fz_ok (fz_exempt V nc nl y).1) = false) (hen : (fz_en (fz_exempt V nc nl y).1) = xIO) : fz_XI l yL_exempt wsL_exempt 8 124 1 6 D cy [.ref (f 0), .int y] (FW f a t h x ++ (HW cy h g (nI cn) ++ (CW cy a V ++ (CW cy w N ++ Z)))) (fz_Ew (fz_in (FW f a t h x ++ (HW cy h g (nI cn) ++ (CW cy a V ++ (CW cy w N ++ Z)))))) (-11) (FW f a t h x ++ (HW cy h g (nI cn) ++ (CW cy a (fz_exempt V nc nl y).2 ++ (CW cy w V ++ Z)))) true xIS (FW f a t h x ++ (HW cy h g (nI cn) ++ (CW cy a (fz_exempt V nc nl y).2 ++ (CW cy w V ++ Z)))) := by
  refine vx_ofWH (cc := cL_exempt) (maxL := 3) (ret := (some .int)) (hh := [(0, 5, 6, 34), (0, 5, 10, 17)]) (by decide) rfl ?_
  intro p e s m args below meth c s₁ B hml hv
  obtain ⟨rfl, hP, hK, hD0, hE⟩ := hv
  have hx := B.exec
  have hb := B.bytes
  have hr := B.returns
  have hts := atoms_spec (ws := wsL_exempt) B.pre
  have hown : s.vm.findClass RL = some m.cls := findClass_of_methodNamed B.named
  have hlocks := B.notSynchronized
  have hD := fz_self hD0
  obtain ⟨A, hAe⟩ : ∃ A : Nat → Prop, A = fz_in (FW f a t h x ++ (HW cy h g (nI cn) ++ (CW cy a V ++ (CW cy w N ++ Z)))) := ⟨_, rfl⟩
  rw [← hAe] at hD
  have hE : fz_Ew A s := by rw [hAe]; exact hE
  have hS : va_S A s.heap s.heap [] := va_S.rf
  have hl := lv_entry ([.ref (f 0), .int y]) (n := 3) (Nat.le_of_ble_eq_true rfl)
  rw [lg_entry_eq]
  generalize (lg_sl ([.ref (f 0), .int y]) ++ List.replicate (3 - (lg_sl ([.ref (f 0), .int y])).length) Slot.unset).toArray = ls at hl ⊢
  have hl : lv_has ls 3 [(0, .ref (f 0)), (1, .int y)] := hl
  have htab := vx_table (x := yL_exempt) B (hts (.codeWith yL_exempt cL_exempt 3 (some .int) [(0, 5, 6, 34), (0, 5, 10, 17)]) (by decide +kernel))
  refine lv_aload_n hx hb dL_exempt_0 rfl (lv_at hl 0 rfl) ?_
  refine lv_iload_n hx hb dL_exempt_1 rfl (lv_at hl 1 rfl) ?_
  refine fz_xretI (P := ([] : va_W)) (S := []) (Wc := (FW f a t h x ++ (HW cy h g (nI cn) ++ (CW cy a V ++ (CW cy w N ++ Z))))) (Wc' := (FW f a t h x ++ (HW cy h (hs_g g cn) (nI (hs_n cn)) ++ (CW cy a (fz_exempt V nc nl y).2 ++ (CW cy w V ++ Z))))) (WX := (FW f a t h x ++ (HW cy h g (nI cn) ++ (CW cy a (fz_exempt V nc nl y).2 ++ (CW cy w V ++ Z))))) (vx_runV (As := [.int y]) (rest := []) ⟨hx, hb, hml, hown, hts⟩ (c_X8_exempt l hst D cy f a t h x g cn V w N Z nt nc nq nl wk wf hn hw hz hh y) (cwV 1 hts gL_exempt_X8_exempt rfl rfl rfl (by decide +kernel) ⟨Nat.le_of_ble_eq_true rfl, Nat.le_of_ble_eq_true rfl⟩) (fz_preMV (ci := 6) (q0 := 0) hK (fz_seg (fz_nilP (P := ([] : va_W)) hP)) (fz_segD (fz_nilD (P := ([] : va_W)) hD)) rfl rfl rfl fz_Ev_bl (fun U hU hW => hE.1.up hU hS hW (fun q h9 => fz_inD (fz_segD (fz_nilD (P := ([] : va_W)) hD)) h9))) rfl rfl hl.1 rfl (lv_room (Nat.le_of_ble_eq_true rfl)) dL_exempt_2 ⟨Nat.le_of_ble_eq_true rfl, Nat.le_of_ble_eq_true rfl⟩) (fz_nilP (P := ([] : va_W)) hP) (fz_nilD (P := ([] : va_W)) hD) hS rfl rfl (fun c_9 H locs q9 ce hP hD hS h7 h8 h9 => ?_) (fun c_9 H locs hP hD hS => ?_)
  · skip
    rw [hen] at h9
    refine vx_catch (name := xIO) hown [] ⟨0, 5, 6, 34⟩ [⟨0, 5, 10, 17⟩] (by rw [htab]; rfl) (fun z hz => nomatch hz) (by decide) (by decide) (hts (.classLink RL 34 xIO) (by decide +kernel)) (va_Nw.use rfl (hE.1.1.2.2.1 (.castable xIO xIO) (by decide +kernel))) h7 h8 h9 ?_
    have hP := fz_nilP' (P := ([] : va_W)) hP
    refine lv_astore_n (lv' := [(2, .ref q9), (0, .ref (f 0)), (1, .int y)]) hx hb dL_exempt_6 rfl hl (by decide) rfl (fun ls hl => ?_)
    refine lv_bipush (v := (-11)) hx hb dL_exempt_7 (by decide) ?_
    refine fz_wd (k := 1) (n := 6) (Nat.le_of_ble_eq_true rfl) (Nat.le_of_ble_eq_true rfl) ?_
    refine vx_ret ?_
    subst hAe
    exact W.iret (v := (-11)) hx hb hr (fun t9 ht9 hW9 => ⟨⟨_, (), rfl, ⟨rfl, rfl⟩, fz_to ht9 hP⟩, hS.F ht9⟩) hS.2.2 dL_exempt_9
  · skip
    exact absurd (hok.symm.trans c_9) (by decide)
set_option maxHeartbeats 4000000 in
set_option maxRecDepth 100000 in
/-- the law calls exempt -/
theorem c_L_exempt_IS (l : Launch) (hst : l.stackTraces = false) (D : va_G) (cy : Nat → ClassId) (f a t h x : Nat → Nat) (g : Nat → Option Nat) (cn : Nat) (V : Nat → Nat → Int32) (w : Nat → Nat) (N : Nat → Nat → Int32) (Z : va_W) (nt nc nq nl wk : Nat) (wf : fz_wf V nt nc nq nl wk) (hn : cn < 5) (hw : g cn = some (w 0)) (hz : fz_zo (V 2) 40) (hh : ∀ k, k < 5 → ∃ x, g k = some x ∧ fz_hd (CW cy w N ++ Z) x) (y : Int32) (hok : (fz_ok (fz_exempt V nc nl y).1) = false) (hen : (fz_en (fz_exempt V nc nl y).1) = xIS) : fz_XI l yL_exempt wsL_exempt 8 124 1 6 D cy [.ref (f 0), .int y] (FW f a t h x ++ (HW cy h g (nI cn) ++ (CW cy a V ++ (CW cy w N ++ Z)))) (fz_Ew (fz_in (FW f a t h x ++ (HW cy h g (nI cn) ++ (CW cy a V ++ (CW cy w N ++ Z)))))) (-12) (FW f a t h x ++ (HW cy h g (nI cn) ++ (CW cy a (fz_exempt V nc nl y).2 ++ (CW cy w V ++ Z)))) true xIS (FW f a t h x ++ (HW cy h g (nI cn) ++ (CW cy a (fz_exempt V nc nl y).2 ++ (CW cy w V ++ Z)))) := by
  refine vx_ofWH (cc := cL_exempt) (maxL := 3) (ret := (some .int)) (hh := [(0, 5, 6, 34), (0, 5, 10, 17)]) (by decide) rfl ?_
  intro p e s m args below meth c s₁ B hml hv
  obtain ⟨rfl, hP, hK, hD0, hE⟩ := hv
  have hx := B.exec
  have hb := B.bytes
  have hr := B.returns
  have hts := atoms_spec (ws := wsL_exempt) B.pre
  have hown : s.vm.findClass RL = some m.cls := findClass_of_methodNamed B.named
  have hlocks := B.notSynchronized
  have hD := fz_self hD0
  obtain ⟨A, hAe⟩ : ∃ A : Nat → Prop, A = fz_in (FW f a t h x ++ (HW cy h g (nI cn) ++ (CW cy a V ++ (CW cy w N ++ Z)))) := ⟨_, rfl⟩
  rw [← hAe] at hD
  have hE : fz_Ew A s := by rw [hAe]; exact hE
  have hS : va_S A s.heap s.heap [] := va_S.rf
  have hl := lv_entry ([.ref (f 0), .int y]) (n := 3) (Nat.le_of_ble_eq_true rfl)
  rw [lg_entry_eq]
  generalize (lg_sl ([.ref (f 0), .int y]) ++ List.replicate (3 - (lg_sl ([.ref (f 0), .int y])).length) Slot.unset).toArray = ls at hl ⊢
  have hl : lv_has ls 3 [(0, .ref (f 0)), (1, .int y)] := hl
  have htab := vx_table (x := yL_exempt) B (hts (.codeWith yL_exempt cL_exempt 3 (some .int) [(0, 5, 6, 34), (0, 5, 10, 17)]) (by decide +kernel))
  refine lv_aload_n hx hb dL_exempt_0 rfl (lv_at hl 0 rfl) ?_
  refine lv_iload_n hx hb dL_exempt_1 rfl (lv_at hl 1 rfl) ?_
  refine fz_xretI (P := ([] : va_W)) (S := []) (Wc := (FW f a t h x ++ (HW cy h g (nI cn) ++ (CW cy a V ++ (CW cy w N ++ Z))))) (Wc' := (FW f a t h x ++ (HW cy h (hs_g g cn) (nI (hs_n cn)) ++ (CW cy a (fz_exempt V nc nl y).2 ++ (CW cy w V ++ Z))))) (WX := (FW f a t h x ++ (HW cy h g (nI cn) ++ (CW cy a (fz_exempt V nc nl y).2 ++ (CW cy w V ++ Z))))) (vx_runV (As := [.int y]) (rest := []) ⟨hx, hb, hml, hown, hts⟩ (c_X8_exempt l hst D cy f a t h x g cn V w N Z nt nc nq nl wk wf hn hw hz hh y) (cwV 1 hts gL_exempt_X8_exempt rfl rfl rfl (by decide +kernel) ⟨Nat.le_of_ble_eq_true rfl, Nat.le_of_ble_eq_true rfl⟩) (fz_preMV (ci := 6) (q0 := 0) hK (fz_seg (fz_nilP (P := ([] : va_W)) hP)) (fz_segD (fz_nilD (P := ([] : va_W)) hD)) rfl rfl rfl fz_Ev_bl (fun U hU hW => hE.1.up hU hS hW (fun q h9 => fz_inD (fz_segD (fz_nilD (P := ([] : va_W)) hD)) h9))) rfl rfl hl.1 rfl (lv_room (Nat.le_of_ble_eq_true rfl)) dL_exempt_2 ⟨Nat.le_of_ble_eq_true rfl, Nat.le_of_ble_eq_true rfl⟩) (fz_nilP (P := ([] : va_W)) hP) (fz_nilD (P := ([] : va_W)) hD) hS rfl rfl (fun c_9 H locs q9 ce hP hD hS h7 h8 h9 => ?_) (fun c_9 H locs hP hD hS => ?_)
  · skip
    rw [hen] at h9
    refine vx_catch (name := xIS) hown [⟨0, 5, 6, 34⟩] ⟨0, 5, 10, 17⟩ [] (by rw [htab]; rfl) (fun z hz => by rcases List.mem_cons.mp hz with rfl | hz; exact Or.inr ⟨by decide, xIO, hts (.classLink RL 34 xIO) (by decide +kernel), hE.2.2.2⟩; exact nomatch hz) (by decide) (by decide) (hts (.classLink RL 17 xIS) (by decide +kernel)) (va_Nw.use rfl (hE.1.1.2.2.1 (.castable xIS xIS) (by decide +kernel))) h7 h8 h9 ?_
    have hP := fz_nilP' (P := ([] : va_W)) hP
    refine lv_astore_n (lv' := [(2, .ref q9), (0, .ref (f 0)), (1, .int y)]) hx hb dL_exempt_10 rfl hl (by decide) rfl (fun ls hl => ?_)
    refine lv_bipush (v := (-12)) hx hb dL_exempt_11 (by decide) ?_
    refine fz_wd (k := 1) (n := 6) (Nat.le_of_ble_eq_true rfl) (Nat.le_of_ble_eq_true rfl) ?_
    refine vx_ret ?_
    subst hAe
    exact W.iret (v := (-12)) hx hb hr (fun t9 ht9 hW9 => ⟨⟨_, (), rfl, ⟨rfl, rfl⟩, fz_to ht9 hP⟩, hS.F ht9⟩) hS.2.2 dL_exempt_13
  · skip
    exact absurd (hok.symm.trans c_9) (by decide)
set_option maxHeartbeats 4000000 in
set_option maxRecDepth 100000 in
/-- the law calls make -/
theorem c_L_make_t (l : Launch) (hst : l.stackTraces = false) (D : va_G) (cy : Nat → ClassId) (f a t h x : Nat → Nat) (g : Nat → Option Nat) (cn : Nat) (V : Nat → Nat → Int32) (w : Nat → Nat) (N : Nat → Nat → Int32) (Z : va_W) (nt nc nq nl wk : Nat) (wf : fz_wf V nt nc nq nl wk) (hn : cn < 5) (hw : g cn = some (w 0)) (hz : fz_zo (V 2) 40) (hh : ∀ k, k < 5 → ∃ x, g k = some x ∧ fz_hd (CW cy w N ++ Z) x) (y : Int32) (fr : Bool) (hok : (fz_ok (fz_make V nc nq wk y fr).1) = true) : fz_XI l yL_make wsL_make 8 125 1 6 D cy [.ref (f 0), .int y, .int (fz_b fr)] (FW f a t h x ++ (HW cy h g (nI cn) ++ (CW cy a V ++ (CW cy w N ++ Z)))) (fz_Ew (fz_in (FW f a t h x ++ (HW cy h g (nI cn) ++ (CW cy a V ++ (CW cy w N ++ Z)))))) ((fz_make V nc nq wk y fr).1) (FW f a t h x ++ (HW cy h (hs_g g cn) (nI (hs_n cn)) ++ (CW cy a (fz_make V nc nq wk y fr).2 ++ (CW cy w V ++ Z)))) true xIS (FW f a t h x ++ (HW cy h (hs_g g cn) (nI (hs_n cn)) ++ (CW cy a (fz_make V nc nq wk y fr).2 ++ (CW cy w V ++ Z)))) := by
  refine vx_ofWH (cc := cL_make) (maxL := 4) (ret := (some .int)) (hh := [(0, 6, 7, 34), (0, 6, 11, 17)]) (by decide) rfl ?_
  intro p e s m args below meth c s₁ B hml hv
  obtain ⟨rfl, hP, hK, hD0, hE⟩ := hv
  have hx := B.exec
  have hb := B.bytes
  have hr := B.returns
  have hts := atoms_spec (ws := wsL_make) B.pre
  have hown : s.vm.findClass RL = some m.cls := findClass_of_methodNamed B.named
  have hlocks := B.notSynchronized
  have hD := fz_self hD0
  obtain ⟨A, hAe⟩ : ∃ A : Nat → Prop, A = fz_in (FW f a t h x ++ (HW cy h g (nI cn) ++ (CW cy a V ++ (CW cy w N ++ Z)))) := ⟨_, rfl⟩
  rw [← hAe] at hD
  have hE : fz_Ew A s := by rw [hAe]; exact hE
  have hS : va_S A s.heap s.heap [] := va_S.rf
  have hl := lv_entry ([.ref (f 0), .int y, .int (fz_b fr)]) (n := 4) (Nat.le_of_ble_eq_true rfl)
  rw [lg_entry_eq]
  generalize (lg_sl ([.ref (f 0), .int y, .int (fz_b fr)]) ++ List.replicate (4 - (lg_sl ([.ref (f 0), .int y, .int (fz_b fr)])).length) Slot.unset).toArray = ls at hl ⊢
  have hl : lv_has ls 4 [(0, .ref (f 0)), (1, .int y), (2, .int (fz_b fr))] := hl
  have htab := vx_table (x := yL_make) B (hts (.codeWith yL_make cL_make 4 (some .int) [(0, 6, 7, 34), (0, 6, 11, 17)]) (by decide +kernel))
  refine lv_aload_n hx hb dL_make_0 rfl (lv_at hl 0 rfl) ?_
  refine lv_iload_n hx hb dL_make_1 rfl (lv_at hl 1 rfl) ?_
  refine lv_iload_n hx hb dL_make_2 rfl (lv_at hl 2 rfl) ?_
  refine fz_xretI (P := ([] : va_W)) (S := []) (Wc := (FW f a t h x ++ (HW cy h g (nI cn) ++ (CW cy a V ++ (CW cy w N ++ Z))))) (Wc' := (FW f a t h x ++ (HW cy h (hs_g g cn) (nI (hs_n cn)) ++ (CW cy a (fz_make V nc nq wk y fr).2 ++ (CW cy w V ++ Z))))) (WX := (FW f a t h x ++ (HW cy h g (nI cn) ++ (CW cy a (fz_make V nc nq wk y fr).2 ++ (CW cy w V ++ Z))))) (vx_runV (As := [.int y, .int (fz_b fr)]) (rest := []) ⟨hx, hb, hml, hown, hts⟩ (c_X8_make l hst D cy f a t h x g cn V w N Z nt nc nq nl wk wf hn hw hz hh y fr) (cwV 2 hts gL_make_X8_make rfl rfl rfl (by decide +kernel) ⟨Nat.le_of_ble_eq_true rfl, Nat.le_of_ble_eq_true rfl⟩) (fz_preMV (ci := 6) (q0 := 0) hK (fz_seg (fz_nilP (P := ([] : va_W)) hP)) (fz_segD (fz_nilD (P := ([] : va_W)) hD)) rfl rfl rfl fz_Ev_bl (fun U hU hW => hE.1.up hU hS hW (fun q h9 => fz_inD (fz_segD (fz_nilD (P := ([] : va_W)) hD)) h9))) rfl rfl hl.1 rfl (lv_room (Nat.le_of_ble_eq_true rfl)) dL_make_3 ⟨Nat.le_of_ble_eq_true rfl, Nat.le_of_ble_eq_true rfl⟩) (fz_nilP (P := ([] : va_W)) hP) (fz_nilD (P := ([] : va_W)) hD) hS rfl rfl (fun c_9 H locs q9 ce hP hD hS h7 h8 h9 => ?_) (fun c_9 H locs hP hD hS => ?_)
  · skip
    exact absurd (hok.symm.trans c_9) (by decide)
  · skip
    have hP := fz_nilP' (P := ([] : va_W)) hP
    refine fz_wd (k := 1) (n := 6) (Nat.le_of_ble_eq_true rfl) (Nat.le_of_ble_eq_true rfl) ?_
    refine vx_ret ?_
    subst hAe
    exact W.iret (v := ((fz_make V nc nq wk y fr).1)) hx hb hr (fun t9 ht9 hW9 => ⟨⟨_, (), rfl, ⟨rfl, rfl⟩, fz_to ht9 hP⟩, hS.F ht9⟩) hS.2.2 dL_make_6
set_option maxHeartbeats 4000000 in
set_option maxRecDepth 100000 in
/-- the law calls make -/
theorem c_L_make_IO (l : Launch) (hst : l.stackTraces = false) (D : va_G) (cy : Nat → ClassId) (f a t h x : Nat → Nat) (g : Nat → Option Nat) (cn : Nat) (V : Nat → Nat → Int32) (w : Nat → Nat) (N : Nat → Nat → Int32) (Z : va_W) (nt nc nq nl wk : Nat) (wf : fz_wf V nt nc nq nl wk) (hn : cn < 5) (hw : g cn = some (w 0)) (hz : fz_zo (V 2) 40) (hh : ∀ k, k < 5 → ∃ x, g k = some x ∧ fz_hd (CW cy w N ++ Z) x) (y : Int32) (fr : Bool) (hok : (fz_ok (fz_make V nc nq wk y fr).1) = false) (hen : (fz_en (fz_make V nc nq wk y fr).1) = xIO) : fz_XI l yL_make wsL_make 8 125 1 6 D cy [.ref (f 0), .int y, .int (fz_b fr)] (FW f a t h x ++ (HW cy h g (nI cn) ++ (CW cy a V ++ (CW cy w N ++ Z)))) (fz_Ew (fz_in (FW f a t h x ++ (HW cy h g (nI cn) ++ (CW cy a V ++ (CW cy w N ++ Z)))))) (-11) (FW f a t h x ++ (HW cy h g (nI cn) ++ (CW cy a (fz_make V nc nq wk y fr).2 ++ (CW cy w V ++ Z)))) true xIS (FW f a t h x ++ (HW cy h g (nI cn) ++ (CW cy a (fz_make V nc nq wk y fr).2 ++ (CW cy w V ++ Z)))) := by
  refine vx_ofWH (cc := cL_make) (maxL := 4) (ret := (some .int)) (hh := [(0, 6, 7, 34), (0, 6, 11, 17)]) (by decide) rfl ?_
  intro p e s m args below meth c s₁ B hml hv
  obtain ⟨rfl, hP, hK, hD0, hE⟩ := hv
  have hx := B.exec
  have hb := B.bytes
  have hr := B.returns
  have hts := atoms_spec (ws := wsL_make) B.pre
  have hown : s.vm.findClass RL = some m.cls := findClass_of_methodNamed B.named
  have hlocks := B.notSynchronized
  have hD := fz_self hD0
  obtain ⟨A, hAe⟩ : ∃ A : Nat → Prop, A = fz_in (FW f a t h x ++ (HW cy h g (nI cn) ++ (CW cy a V ++ (CW cy w N ++ Z)))) := ⟨_, rfl⟩
  rw [← hAe] at hD
  have hE : fz_Ew A s := by rw [hAe]; exact hE
  have hS : va_S A s.heap s.heap [] := va_S.rf
  have hl := lv_entry ([.ref (f 0), .int y, .int (fz_b fr)]) (n := 4) (Nat.le_of_ble_eq_true rfl)
  rw [lg_entry_eq]
  generalize (lg_sl ([.ref (f 0), .int y, .int (fz_b fr)]) ++ List.replicate (4 - (lg_sl ([.ref (f 0), .int y, .int (fz_b fr)])).length) Slot.unset).toArray = ls at hl ⊢
  have hl : lv_has ls 4 [(0, .ref (f 0)), (1, .int y), (2, .int (fz_b fr))] := hl
  have htab := vx_table (x := yL_make) B (hts (.codeWith yL_make cL_make 4 (some .int) [(0, 6, 7, 34), (0, 6, 11, 17)]) (by decide +kernel))
  refine lv_aload_n hx hb dL_make_0 rfl (lv_at hl 0 rfl) ?_
  refine lv_iload_n hx hb dL_make_1 rfl (lv_at hl 1 rfl) ?_
  refine lv_iload_n hx hb dL_make_2 rfl (lv_at hl 2 rfl) ?_
  refine fz_xretI (P := ([] : va_W)) (S := []) (Wc := (FW f a t h x ++ (HW cy h g (nI cn) ++ (CW cy a V ++ (CW cy w N ++ Z))))) (Wc' := (FW f a t h x ++ (HW cy h (hs_g g cn) (nI (hs_n cn)) ++ (CW cy a (fz_make V nc nq wk y fr).2 ++ (CW cy w V ++ Z))))) (WX := (FW f a t h x ++ (HW cy h g (nI cn) ++ (CW cy a (fz_make V nc nq wk y fr).2 ++ (CW cy w V ++ Z))))) (vx_runV (As := [.int y, .int (fz_b fr)]) (rest := []) ⟨hx, hb, hml, hown, hts⟩ (c_X8_make l hst D cy f a t h x g cn V w N Z nt nc nq nl wk wf hn hw hz hh y fr) (cwV 2 hts gL_make_X8_make rfl rfl rfl (by decide +kernel) ⟨Nat.le_of_ble_eq_true rfl, Nat.le_of_ble_eq_true rfl⟩) (fz_preMV (ci := 6) (q0 := 0) hK (fz_seg (fz_nilP (P := ([] : va_W)) hP)) (fz_segD (fz_nilD (P := ([] : va_W)) hD)) rfl rfl rfl fz_Ev_bl (fun U hU hW => hE.1.up hU hS hW (fun q h9 => fz_inD (fz_segD (fz_nilD (P := ([] : va_W)) hD)) h9))) rfl rfl hl.1 rfl (lv_room (Nat.le_of_ble_eq_true rfl)) dL_make_3 ⟨Nat.le_of_ble_eq_true rfl, Nat.le_of_ble_eq_true rfl⟩) (fz_nilP (P := ([] : va_W)) hP) (fz_nilD (P := ([] : va_W)) hD) hS rfl rfl (fun c_9 H locs q9 ce hP hD hS h7 h8 h9 => ?_) (fun c_9 H locs hP hD hS => ?_)
  · skip
    rw [hen] at h9
    refine vx_catch (name := xIO) hown [] ⟨0, 6, 7, 34⟩ [⟨0, 6, 11, 17⟩] (by rw [htab]; rfl) (fun z hz => nomatch hz) (by decide) (by decide) (hts (.classLink RL 34 xIO) (by decide +kernel)) (va_Nw.use rfl (hE.1.1.2.2.1 (.castable xIO xIO) (by decide +kernel))) h7 h8 h9 ?_
    have hP := fz_nilP' (P := ([] : va_W)) hP
    refine lv_astore_n (lv' := [(3, .ref q9), (0, .ref (f 0)), (1, .int y), (2, .int (fz_b fr))]) hx hb dL_make_7 rfl hl (by decide) rfl (fun ls hl => ?_)
    refine lv_bipush (v := (-11)) hx hb dL_make_8 (by decide) ?_
    refine fz_wd (k := 1) (n := 6) (Nat.le_of_ble_eq_true rfl) (Nat.le_of_ble_eq_true rfl) ?_
    refine vx_ret ?_
    subst hAe
    exact W.iret (v := (-11)) hx hb hr (fun t9 ht9 hW9 => ⟨⟨_, (), rfl, ⟨rfl, rfl⟩, fz_to ht9 hP⟩, hS.F ht9⟩) hS.2.2 dL_make_10
  · skip
    exact absurd (hok.symm.trans c_9) (by decide)
set_option maxHeartbeats 4000000 in
set_option maxRecDepth 100000 in
/-- the law calls make -/
theorem c_L_make_IS (l : Launch) (hst : l.stackTraces = false) (D : va_G) (cy : Nat → ClassId) (f a t h x : Nat → Nat) (g : Nat → Option Nat) (cn : Nat) (V : Nat → Nat → Int32) (w : Nat → Nat) (N : Nat → Nat → Int32) (Z : va_W) (nt nc nq nl wk : Nat) (wf : fz_wf V nt nc nq nl wk) (hn : cn < 5) (hw : g cn = some (w 0)) (hz : fz_zo (V 2) 40) (hh : ∀ k, k < 5 → ∃ x, g k = some x ∧ fz_hd (CW cy w N ++ Z) x) (y : Int32) (fr : Bool) (hok : (fz_ok (fz_make V nc nq wk y fr).1) = false) (hen : (fz_en (fz_make V nc nq wk y fr).1) = xIS) : fz_XI l yL_make wsL_make 8 125 1 6 D cy [.ref (f 0), .int y, .int (fz_b fr)] (FW f a t h x ++ (HW cy h g (nI cn) ++ (CW cy a V ++ (CW cy w N ++ Z)))) (fz_Ew (fz_in (FW f a t h x ++ (HW cy h g (nI cn) ++ (CW cy a V ++ (CW cy w N ++ Z)))))) (-12) (FW f a t h x ++ (HW cy h g (nI cn) ++ (CW cy a (fz_make V nc nq wk y fr).2 ++ (CW cy w V ++ Z)))) true xIS (FW f a t h x ++ (HW cy h g (nI cn) ++ (CW cy a (fz_make V nc nq wk y fr).2 ++ (CW cy w V ++ Z)))) := by
  refine vx_ofWH (cc := cL_make) (maxL := 4) (ret := (some .int)) (hh := [(0, 6, 7, 34), (0, 6, 11, 17)]) (by decide) rfl ?_
  intro p e s m args below meth c s₁ B hml hv
  obtain ⟨rfl, hP, hK, hD0, hE⟩ := hv
  have hx := B.exec
  have hb := B.bytes
  have hr := B.returns
  have hts := atoms_spec (ws := wsL_make) B.pre
  have hown : s.vm.findClass RL = some m.cls := findClass_of_methodNamed B.named
  have hlocks := B.notSynchronized
  have hD := fz_self hD0
  obtain ⟨A, hAe⟩ : ∃ A : Nat → Prop, A = fz_in (FW f a t h x ++ (HW cy h g (nI cn) ++ (CW cy a V ++ (CW cy w N ++ Z)))) := ⟨_, rfl⟩
  rw [← hAe] at hD
  have hE : fz_Ew A s := by rw [hAe]; exact hE
  have hS : va_S A s.heap s.heap [] := va_S.rf
  have hl := lv_entry ([.ref (f 0), .int y, .int (fz_b fr)]) (n := 4) (Nat.le_of_ble_eq_true rfl)
  rw [lg_entry_eq]
  generalize (lg_sl ([.ref (f 0), .int y, .int (fz_b fr)]) ++ List.replicate (4 - (lg_sl ([.ref (f 0), .int y, .int (fz_b fr)])).length) Slot.unset).toArray = ls at hl ⊢
  have hl : lv_has ls 4 [(0, .ref (f 0)), (1, .int y), (2, .int (fz_b fr))] := hl
  have htab := vx_table (x := yL_make) B (hts (.codeWith yL_make cL_make 4 (some .int) [(0, 6, 7, 34), (0, 6, 11, 17)]) (by decide +kernel))
  refine lv_aload_n hx hb dL_make_0 rfl (lv_at hl 0 rfl) ?_
  refine lv_iload_n hx hb dL_make_1 rfl (lv_at hl 1 rfl) ?_
  refine lv_iload_n hx hb dL_make_2 rfl (lv_at hl 2 rfl) ?_
  refine fz_xretI (P := ([] : va_W)) (S := []) (Wc := (FW f a t h x ++ (HW cy h g (nI cn) ++ (CW cy a V ++ (CW cy w N ++ Z))))) (Wc' := (FW f a t h x ++ (HW cy h (hs_g g cn) (nI (hs_n cn)) ++ (CW cy a (fz_make V nc nq wk y fr).2 ++ (CW cy w V ++ Z))))) (WX := (FW f a t h x ++ (HW cy h g (nI cn) ++ (CW cy a (fz_make V nc nq wk y fr).2 ++ (CW cy w V ++ Z))))) (vx_runV (As := [.int y, .int (fz_b fr)]) (rest := []) ⟨hx, hb, hml, hown, hts⟩ (c_X8_make l hst D cy f a t h x g cn V w N Z nt nc nq nl wk wf hn hw hz hh y fr) (cwV 2 hts gL_make_X8_make rfl rfl rfl (by decide +kernel) ⟨Nat.le_of_ble_eq_true rfl, Nat.le_of_ble_eq_true rfl⟩) (fz_preMV (ci := 6) (q0 := 0) hK (fz_seg (fz_nilP (P := ([] : va_W)) hP)) (fz_segD (fz_nilD (P := ([] : va_W)) hD)) rfl rfl rfl fz_Ev_bl (fun U hU hW => hE.1.up hU hS hW (fun q h9 => fz_inD (fz_segD (fz_nilD (P := ([] : va_W)) hD)) h9))) rfl rfl hl.1 rfl (lv_room (Nat.le_of_ble_eq_true rfl)) dL_make_3 ⟨Nat.le_of_ble_eq_true rfl, Nat.le_of_ble_eq_true rfl⟩) (fz_nilP (P := ([] : va_W)) hP) (fz_nilD (P := ([] : va_W)) hD) hS rfl rfl (fun c_9 H locs q9 ce hP hD hS h7 h8 h9 => ?_) (fun c_9 H locs hP hD hS => ?_)
  · skip
    rw [hen] at h9
    refine vx_catch (name := xIS) hown [⟨0, 6, 7, 34⟩] ⟨0, 6, 11, 17⟩ [] (by rw [htab]; rfl) (fun z hz => by rcases List.mem_cons.mp hz with rfl | hz; exact Or.inr ⟨by decide, xIO, hts (.classLink RL 34 xIO) (by decide +kernel), hE.2.2.2⟩; exact nomatch hz) (by decide) (by decide) (hts (.classLink RL 17 xIS) (by decide +kernel)) (va_Nw.use rfl (hE.1.1.2.2.1 (.castable xIS xIS) (by decide +kernel))) h7 h8 h9 ?_
    have hP := fz_nilP' (P := ([] : va_W)) hP
    refine lv_astore_n (lv' := [(3, .ref q9), (0, .ref (f 0)), (1, .int y), (2, .int (fz_b fr))]) hx hb dL_make_11 rfl hl (by decide) rfl (fun ls hl => ?_)
    refine lv_bipush (v := (-12)) hx hb dL_make_12 (by decide) ?_
    refine fz_wd (k := 1) (n := 6) (Nat.le_of_ble_eq_true rfl) (Nat.le_of_ble_eq_true rfl) ?_
    refine vx_ret ?_
    subst hAe
    exact W.iret (v := (-12)) hx hb hr (fun t9 ht9 hW9 => ⟨⟨_, (), rfl, ⟨rfl, rfl⟩, fz_to ht9 hP⟩, hS.F ht9⟩) hS.2.2 dL_make_14
  · skip
    exact absurd (hok.symm.trans c_9) (by decide)
set_option maxHeartbeats 4000000 in
set_option maxRecDepth 100000 in
/-- the law calls giveUp -/
theorem c_L_giveUp_t (l : Launch) (hst : l.stackTraces = false) (D : va_G) (cy : Nat → ClassId) (f a t h x : Nat → Nat) (g : Nat → Option Nat) (cn : Nat) (V : Nat → Nat → Int32) (w : Nat → Nat) (N : Nat → Nat → Int32) (Z : va_W) (nt nc nq nl wk : Nat) (wf : fz_wf V nt nc nq nl wk) (hn : cn < 5) (hw : g cn = some (w 0)) (hz : fz_zo (V 2) 40) (hh : ∀ k, k < 5 → ∃ x, g k = some x ∧ fz_hd (CW cy w N ++ Z) x) (y : Int32) (hok : (fz_ok (fz_drop V nc nq y).1) = true) : fz_XI l yL_giveUp wsL_giveUp 8 124 1 6 D cy [.ref (f 0), .int y] (FW f a t h x ++ (HW cy h g (nI cn) ++ (CW cy a V ++ (CW cy w N ++ Z)))) (fz_Ew (fz_in (FW f a t h x ++ (HW cy h g (nI cn) ++ (CW cy a V ++ (CW cy w N ++ Z)))))) ((fz_drop V nc nq y).1) (FW f a t h x ++ (HW cy h (hs_g g cn) (nI (hs_n cn)) ++ (CW cy a (fz_drop V nc nq y).2 ++ (CW cy w V ++ Z)))) true xIS (FW f a t h x ++ (HW cy h (hs_g g cn) (nI (hs_n cn)) ++ (CW cy a (fz_drop V nc nq y).2 ++ (CW cy w V ++ Z)))) := by
  refine vx_ofWH (cc := cL_giveUp) (maxL := 3) (ret := (some .int)) (hh := [(0, 5, 6, 34), (0, 5, 10, 17)]) (by decide) rfl ?_
  intro p e s m args below meth c s₁ B hml hv
  obtain ⟨rfl, hP, hK, hD0, hE⟩ := hv
  have hx := B.exec
  have hb := B.bytes
  have hr := B.returns
  have hts := atoms_spec (ws := wsL_giveUp) B.pre
  have hown : s.vm.findClass RL = some m.cls := findClass_of_methodNamed B.named
  have hlocks := B.notSynchronized
  have hD := fz_self hD0
  obtain ⟨A, hAe⟩ : ∃ A : Nat → Prop, A = fz_in (FW f a t h x ++ (HW cy h g (nI cn) ++ (CW cy a V ++ (CW cy w N ++ Z)))) := ⟨_, rfl⟩
  rw [← hAe] at hD
  have hE : fz_Ew A s := by rw [hAe]; exact hE
  have hS : va_S A s.heap s.heap [] := va_S.rf
  have hl := lv_entry ([.ref (f 0), .int y]) (n := 3) (Nat.le_of_ble_eq_true rfl)
  rw [lg_entry_eq]
  generalize (lg_sl ([.ref (f 0), .int y]) ++ List.replicate (3 - (lg_sl ([.ref (f 0), .int y])).length) Slot.unset).toArray = ls at hl ⊢
  have hl : lv_has ls 3 [(0, .ref (f 0)), (1, .int y)] := hl
  have htab := vx_table (x := yL_giveUp) B (hts (.codeWith yL_giveUp cL_giveUp 3 (some .int) [(0, 5, 6, 34), (0, 5, 10, 17)]) (by decide +kernel))
  refine lv_aload_n hx hb dL_giveUp_0 rfl (lv_at hl 0 rfl) ?_
  refine lv_iload_n hx hb dL_giveUp_1 rfl (lv_at hl 1 rfl) ?_
  refine fz_xretI (P := ([] : va_W)) (S := []) (Wc := (FW f a t h x ++ (HW cy h g (nI cn) ++ (CW cy a V ++ (CW cy w N ++ Z))))) (Wc' := (FW f a t h x ++ (HW cy h (hs_g g cn) (nI (hs_n cn)) ++ (CW cy a (fz_drop V nc nq y).2 ++ (CW cy w V ++ Z))))) (WX := (FW f a t h x ++ (HW cy h g (nI cn) ++ (CW cy a (fz_drop V nc nq y).2 ++ (CW cy w V ++ Z))))) (vx_runV (As := [.int y]) (rest := []) ⟨hx, hb, hml, hown, hts⟩ (c_X8_giveUp l hst D cy f a t h x g cn V w N Z nt nc nq nl wk wf hn hw hz hh y) (cwV 1 hts gL_giveUp_X8_giveUp rfl rfl rfl (by decide +kernel) ⟨Nat.le_of_ble_eq_true rfl, Nat.le_of_ble_eq_true rfl⟩) (fz_preMV (ci := 6) (q0 := 0) hK (fz_seg (fz_nilP (P := ([] : va_W)) hP)) (fz_segD (fz_nilD (P := ([] : va_W)) hD)) rfl rfl rfl fz_Ev_bl (fun U hU hW => hE.1.up hU hS hW (fun q h9 => fz_inD (fz_segD (fz_nilD (P := ([] : va_W)) hD)) h9))) rfl rfl hl.1 rfl (lv_room (Nat.le_of_ble_eq_true rfl)) dL_giveUp_2 ⟨Nat.le_of_ble_eq_true rfl, Nat.le_of_ble_eq_true rfl⟩) (fz_nilP (P := ([] : va_W)) hP) (fz_nilD (P := ([] : va_W)) hD) hS rfl rfl (fun c_9 H locs q9 ce hP hD hS h7 h8 h9 => ?_) (fun c_9 H locs hP hD hS => ?_)
  · skip
    exact absurd (hok.symm.trans c_9) (by decide)
  · skip
    have hP := fz_nilP' (P := ([] : va_W)) hP
    refine fz_wd (k := 1) (n := 6) (Nat.le_of_ble_eq_true rfl) (Nat.le_of_ble_eq_true rfl) ?_
    refine vx_ret ?_
    subst hAe
    exact W.iret (v := ((fz_drop V nc nq y).1)) hx hb hr (fun t9 ht9 hW9 => ⟨⟨_, (), rfl, ⟨rfl, rfl⟩, fz_to ht9 hP⟩, hS.F ht9⟩) hS.2.2 dL_giveUp_5
set_option maxHeartbeats 4000000 in
set_option maxRecDepth 100000 in
/-- the law calls giveUp -/
theorem c_L_giveUp_IO (l : Launch) (hst : l.stackTraces = false) (D : va_G) (cy : Nat → ClassId) (f a t h x : Nat → Nat) (g : Nat → Option Nat) (cn : Nat) (V : Nat → Nat → Int32) (w : Nat → Nat) (N : Nat → Nat → Int32) (Z : va_W) (nt nc nq nl wk : Nat) (wf : fz_wf V nt nc nq nl wk) (hn : cn < 5) (hw : g cn = some (w 0)) (hz : fz_zo (V 2) 40) (hh : ∀ k, k < 5 → ∃ x, g k = some x ∧ fz_hd (CW cy w N ++ Z) x) (y : Int32) (hok : (fz_ok (fz_drop V nc nq y).1) = false) (hen : (fz_en (fz_drop V nc nq y).1) = xIO) : fz_XI l yL_giveUp wsL_giveUp 8 124 1 6 D cy [.ref (f 0), .int y] (FW f a t h x ++ (HW cy h g (nI cn) ++ (CW cy a V ++ (CW cy w N ++ Z)))) (fz_Ew (fz_in (FW f a t h x ++ (HW cy h g (nI cn) ++ (CW cy a V ++ (CW cy w N ++ Z)))))) (-11) (FW f a t h x ++ (HW cy h g (nI cn) ++ (CW cy a (fz_drop V nc nq y).2 ++ (CW cy w V ++ Z)))) true xIS (FW f a t h x ++ (HW cy h g (nI cn) ++ (CW cy a (fz_drop V nc nq y).2 ++ (CW cy w V ++ Z)))) := by
  refine vx_ofWH (cc := cL_giveUp) (maxL := 3) (ret := (some .int)) (hh := [(0, 5, 6, 34), (0, 5, 10, 17)]) (by decide) rfl ?_
  intro p e s m args below meth c s₁ B hml hv
  obtain ⟨rfl, hP, hK, hD0, hE⟩ := hv
  have hx := B.exec
  have hb := B.bytes
  have hr := B.returns
  have hts := atoms_spec (ws := wsL_giveUp) B.pre
  have hown : s.vm.findClass RL = some m.cls := findClass_of_methodNamed B.named
  have hlocks := B.notSynchronized
  have hD := fz_self hD0
  obtain ⟨A, hAe⟩ : ∃ A : Nat → Prop, A = fz_in (FW f a t h x ++ (HW cy h g (nI cn) ++ (CW cy a V ++ (CW cy w N ++ Z)))) := ⟨_, rfl⟩
  rw [← hAe] at hD
  have hE : fz_Ew A s := by rw [hAe]; exact hE
  have hS : va_S A s.heap s.heap [] := va_S.rf
  have hl := lv_entry ([.ref (f 0), .int y]) (n := 3) (Nat.le_of_ble_eq_true rfl)
  rw [lg_entry_eq]
  generalize (lg_sl ([.ref (f 0), .int y]) ++ List.replicate (3 - (lg_sl ([.ref (f 0), .int y])).length) Slot.unset).toArray = ls at hl ⊢
  have hl : lv_has ls 3 [(0, .ref (f 0)), (1, .int y)] := hl
  have htab := vx_table (x := yL_giveUp) B (hts (.codeWith yL_giveUp cL_giveUp 3 (some .int) [(0, 5, 6, 34), (0, 5, 10, 17)]) (by decide +kernel))
  refine lv_aload_n hx hb dL_giveUp_0 rfl (lv_at hl 0 rfl) ?_
  refine lv_iload_n hx hb dL_giveUp_1 rfl (lv_at hl 1 rfl) ?_
  refine fz_xretI (P := ([] : va_W)) (S := []) (Wc := (FW f a t h x ++ (HW cy h g (nI cn) ++ (CW cy a V ++ (CW cy w N ++ Z))))) (Wc' := (FW f a t h x ++ (HW cy h (hs_g g cn) (nI (hs_n cn)) ++ (CW cy a (fz_drop V nc nq y).2 ++ (CW cy w V ++ Z))))) (WX := (FW f a t h x ++ (HW cy h g (nI cn) ++ (CW cy a (fz_drop V nc nq y).2 ++ (CW cy w V ++ Z))))) (vx_runV (As := [.int y]) (rest := []) ⟨hx, hb, hml, hown, hts⟩ (c_X8_giveUp l hst D cy f a t h x g cn V w N Z nt nc nq nl wk wf hn hw hz hh y) (cwV 1 hts gL_giveUp_X8_giveUp rfl rfl rfl (by decide +kernel) ⟨Nat.le_of_ble_eq_true rfl, Nat.le_of_ble_eq_true rfl⟩) (fz_preMV (ci := 6) (q0 := 0) hK (fz_seg (fz_nilP (P := ([] : va_W)) hP)) (fz_segD (fz_nilD (P := ([] : va_W)) hD)) rfl rfl rfl fz_Ev_bl (fun U hU hW => hE.1.up hU hS hW (fun q h9 => fz_inD (fz_segD (fz_nilD (P := ([] : va_W)) hD)) h9))) rfl rfl hl.1 rfl (lv_room (Nat.le_of_ble_eq_true rfl)) dL_giveUp_2 ⟨Nat.le_of_ble_eq_true rfl, Nat.le_of_ble_eq_true rfl⟩) (fz_nilP (P := ([] : va_W)) hP) (fz_nilD (P := ([] : va_W)) hD) hS rfl rfl (fun c_9 H locs q9 ce hP hD hS h7 h8 h9 => ?_) (fun c_9 H locs hP hD hS => ?_)
  · skip
    rw [hen] at h9
    refine vx_catch (name := xIO) hown [] ⟨0, 5, 6, 34⟩ [⟨0, 5, 10, 17⟩] (by rw [htab]; rfl) (fun z hz => nomatch hz) (by decide) (by decide) (hts (.classLink RL 34 xIO) (by decide +kernel)) (va_Nw.use rfl (hE.1.1.2.2.1 (.castable xIO xIO) (by decide +kernel))) h7 h8 h9 ?_
    have hP := fz_nilP' (P := ([] : va_W)) hP
    refine lv_astore_n (lv' := [(2, .ref q9), (0, .ref (f 0)), (1, .int y)]) hx hb dL_giveUp_6 rfl hl (by decide) rfl (fun ls hl => ?_)
    refine lv_bipush (v := (-11)) hx hb dL_giveUp_7 (by decide) ?_
    refine fz_wd (k := 1) (n := 6) (Nat.le_of_ble_eq_true rfl) (Nat.le_of_ble_eq_true rfl) ?_
    refine vx_ret ?_
    subst hAe
    exact W.iret (v := (-11)) hx hb hr (fun t9 ht9 hW9 => ⟨⟨_, (), rfl, ⟨rfl, rfl⟩, fz_to ht9 hP⟩, hS.F ht9⟩) hS.2.2 dL_giveUp_9
  · skip
    exact absurd (hok.symm.trans c_9) (by decide)
set_option maxHeartbeats 4000000 in
set_option maxRecDepth 100000 in
/-- the law calls giveUp -/
theorem c_L_giveUp_IS (l : Launch) (hst : l.stackTraces = false) (D : va_G) (cy : Nat → ClassId) (f a t h x : Nat → Nat) (g : Nat → Option Nat) (cn : Nat) (V : Nat → Nat → Int32) (w : Nat → Nat) (N : Nat → Nat → Int32) (Z : va_W) (nt nc nq nl wk : Nat) (wf : fz_wf V nt nc nq nl wk) (hn : cn < 5) (hw : g cn = some (w 0)) (hz : fz_zo (V 2) 40) (hh : ∀ k, k < 5 → ∃ x, g k = some x ∧ fz_hd (CW cy w N ++ Z) x) (y : Int32) (hok : (fz_ok (fz_drop V nc nq y).1) = false) (hen : (fz_en (fz_drop V nc nq y).1) = xIS) : fz_XI l yL_giveUp wsL_giveUp 8 124 1 6 D cy [.ref (f 0), .int y] (FW f a t h x ++ (HW cy h g (nI cn) ++ (CW cy a V ++ (CW cy w N ++ Z)))) (fz_Ew (fz_in (FW f a t h x ++ (HW cy h g (nI cn) ++ (CW cy a V ++ (CW cy w N ++ Z)))))) (-12) (FW f a t h x ++ (HW cy h g (nI cn) ++ (CW cy a (fz_drop V nc nq y).2 ++ (CW cy w V ++ Z)))) true xIS (FW f a t h x ++ (HW cy h g (nI cn) ++ (CW cy a (fz_drop V nc nq y).2 ++ (CW cy w V ++ Z)))) := by
  refine vx_ofWH (cc := cL_giveUp) (maxL := 3) (ret := (some .int)) (hh := [(0, 5, 6, 34), (0, 5, 10, 17)]) (by decide) rfl ?_
  intro p e s m args below meth c s₁ B hml hv
  obtain ⟨rfl, hP, hK, hD0, hE⟩ := hv
  have hx := B.exec
  have hb := B.bytes
  have hr := B.returns
  have hts := atoms_spec (ws := wsL_giveUp) B.pre
  have hown : s.vm.findClass RL = some m.cls := findClass_of_methodNamed B.named
  have hlocks := B.notSynchronized
  have hD := fz_self hD0
  obtain ⟨A, hAe⟩ : ∃ A : Nat → Prop, A = fz_in (FW f a t h x ++ (HW cy h g (nI cn) ++ (CW cy a V ++ (CW cy w N ++ Z)))) := ⟨_, rfl⟩
  rw [← hAe] at hD
  have hE : fz_Ew A s := by rw [hAe]; exact hE
  have hS : va_S A s.heap s.heap [] := va_S.rf
  have hl := lv_entry ([.ref (f 0), .int y]) (n := 3) (Nat.le_of_ble_eq_true rfl)
  rw [lg_entry_eq]
  generalize (lg_sl ([.ref (f 0), .int y]) ++ List.replicate (3 - (lg_sl ([.ref (f 0), .int y])).length) Slot.unset).toArray = ls at hl ⊢
  have hl : lv_has ls 3 [(0, .ref (f 0)), (1, .int y)] := hl
  have htab := vx_table (x := yL_giveUp) B (hts (.codeWith yL_giveUp cL_giveUp 3 (some .int) [(0, 5, 6, 34), (0, 5, 10, 17)]) (by decide +kernel))
  refine lv_aload_n hx hb dL_giveUp_0 rfl (lv_at hl 0 rfl) ?_
  refine lv_iload_n hx hb dL_giveUp_1 rfl (lv_at hl 1 rfl) ?_
  refine fz_xretI (P := ([] : va_W)) (S := []) (Wc := (FW f a t h x ++ (HW cy h g (nI cn) ++ (CW cy a V ++ (CW cy w N ++ Z))))) (Wc' := (FW f a t h x ++ (HW cy h (hs_g g cn) (nI (hs_n cn)) ++ (CW cy a (fz_drop V nc nq y).2 ++ (CW cy w V ++ Z))))) (WX := (FW f a t h x ++ (HW cy h g (nI cn) ++ (CW cy a (fz_drop V nc nq y).2 ++ (CW cy w V ++ Z))))) (vx_runV (As := [.int y]) (rest := []) ⟨hx, hb, hml, hown, hts⟩ (c_X8_giveUp l hst D cy f a t h x g cn V w N Z nt nc nq nl wk wf hn hw hz hh y) (cwV 1 hts gL_giveUp_X8_giveUp rfl rfl rfl (by decide +kernel) ⟨Nat.le_of_ble_eq_true rfl, Nat.le_of_ble_eq_true rfl⟩) (fz_preMV (ci := 6) (q0 := 0) hK (fz_seg (fz_nilP (P := ([] : va_W)) hP)) (fz_segD (fz_nilD (P := ([] : va_W)) hD)) rfl rfl rfl fz_Ev_bl (fun U hU hW => hE.1.up hU hS hW (fun q h9 => fz_inD (fz_segD (fz_nilD (P := ([] : va_W)) hD)) h9))) rfl rfl hl.1 rfl (lv_room (Nat.le_of_ble_eq_true rfl)) dL_giveUp_2 ⟨Nat.le_of_ble_eq_true rfl, Nat.le_of_ble_eq_true rfl⟩) (fz_nilP (P := ([] : va_W)) hP) (fz_nilD (P := ([] : va_W)) hD) hS rfl rfl (fun c_9 H locs q9 ce hP hD hS h7 h8 h9 => ?_) (fun c_9 H locs hP hD hS => ?_)
  · skip
    rw [hen] at h9
    refine vx_catch (name := xIS) hown [⟨0, 5, 6, 34⟩] ⟨0, 5, 10, 17⟩ [] (by rw [htab]; rfl) (fun z hz => by rcases List.mem_cons.mp hz with rfl | hz; exact Or.inr ⟨by decide, xIO, hts (.classLink RL 34 xIO) (by decide +kernel), hE.2.2.2⟩; exact nomatch hz) (by decide) (by decide) (hts (.classLink RL 17 xIS) (by decide +kernel)) (va_Nw.use rfl (hE.1.1.2.2.1 (.castable xIS xIS) (by decide +kernel))) h7 h8 h9 ?_
    have hP := fz_nilP' (P := ([] : va_W)) hP
    refine lv_astore_n (lv' := [(2, .ref q9), (0, .ref (f 0)), (1, .int y)]) hx hb dL_giveUp_10 rfl hl (by decide) rfl (fun ls hl => ?_)
    refine lv_bipush (v := (-12)) hx hb dL_giveUp_11 (by decide) ?_
    refine fz_wd (k := 1) (n := 6) (Nat.le_of_ble_eq_true rfl) (Nat.le_of_ble_eq_true rfl) ?_
    refine vx_ret ?_
    subst hAe
    exact W.iret (v := (-12)) hx hb hr (fun t9 ht9 hW9 => ⟨⟨_, (), rfl, ⟨rfl, rfl⟩, fz_to ht9 hP⟩, hS.F ht9⟩) hS.2.2 dL_giveUp_13
  · skip
    exact absurd (hok.symm.trans c_9) (by decide)
set_option maxHeartbeats 4000000 in
set_option maxRecDepth 100000 in
/-- the law calls lend -/
theorem c_L_lend_t (l : Launch) (hst : l.stackTraces = false) (D : va_G) (cy : Nat → ClassId) (f a t h x : Nat → Nat) (g : Nat → Option Nat) (cn : Nat) (V : Nat → Nat → Int32) (w : Nat → Nat) (N : Nat → Nat → Int32) (Z : va_W) (nt nc nq nl wk : Nat) (wf : fz_wf V nt nc nq nl wk) (hn : cn < 5) (hw : g cn = some (w 0)) (hz : fz_zo (V 2) 40) (hh : ∀ k, k < 5 → ∃ x, g k = some x ∧ fz_hd (CW cy w N ++ Z) x) (y z u v : Int32) (hok : (fz_ok (fz_lend V nt nl y z u v).1) = true) : fz_XI l yL_lend wsL_lend 8 127 1 6 D cy [.ref (f 0), .int y, .int z, .int u, .int v] (FW f a t h x ++ (HW cy h g (nI cn) ++ (CW cy a V ++ (CW cy w N ++ Z)))) (fz_Ew (fz_in (FW f a t h x ++ (HW cy h g (nI cn) ++ (CW cy a V ++ (CW cy w N ++ Z)))))) ((fz_lend V nt nl y z u v).1) (FW f a t h x ++ (HW cy h (hs_g g cn) (nI (hs_n cn)) ++ (CW cy a (fz_lend V nt nl y z u v).2 ++ (CW cy w V ++ Z)))) true xIS (FW f a t h x ++ (HW cy h (hs_g g cn) (nI (hs_n cn)) ++ (CW cy a (fz_lend V nt nl y z u v).2 ++ (CW cy w V ++ Z)))) := by
  refine vx_ofWH (cc := cL_lend) (maxL := 6) (ret := (some .int)) (hh := [(0, 9, 10, 34), (0, 9, 15, 15), (0, 9, 20, 17)]) (by decide) rfl ?_
  intro p e s m args below meth c s₁ B hml hv
  obtain ⟨rfl, hP, hK, hD0, hE⟩ := hv
  have hx := B.exec
  have hb := B.bytes
  have hr := B.returns
  have hts := atoms_spec (ws := wsL_lend) B.pre
  have hown : s.vm.findClass RL = some m.cls := findClass_of_methodNamed B.named
  have hlocks := B.notSynchronized
  have hD := fz_self hD0
  obtain ⟨A, hAe⟩ : ∃ A : Nat → Prop, A = fz_in (FW f a t h x ++ (HW cy h g (nI cn) ++ (CW cy a V ++ (CW cy w N ++ Z)))) := ⟨_, rfl⟩
  rw [← hAe] at hD
  have hE : fz_Ew A s := by rw [hAe]; exact hE
  have hS : va_S A s.heap s.heap [] := va_S.rf
  have hl := lv_entry ([.ref (f 0), .int y, .int z, .int u, .int v]) (n := 6) (Nat.le_of_ble_eq_true rfl)
  rw [lg_entry_eq]
  generalize (lg_sl ([.ref (f 0), .int y, .int z, .int u, .int v]) ++ List.replicate (6 - (lg_sl ([.ref (f 0), .int y, .int z, .int u, .int v])).length) Slot.unset).toArray = ls at hl ⊢
  have hl : lv_has ls 6 [(0, .ref (f 0)), (1, .int y), (2, .int z), (3, .int u), (4, .int v)] := hl
  have htab := vx_table (x := yL_lend) B (hts (.codeWith yL_lend cL_lend 6 (some .int) [(0, 9, 10, 34), (0, 9, 15, 15), (0, 9, 20, 17)]) (by decide +kernel))
  refine lv_aload_n hx hb dL_lend_0 rfl (lv_at hl 0 rfl) ?_
  refine lv_iload_n hx hb dL_lend_1 rfl (lv_at hl 1 rfl) ?_
  refine lv_iload_n hx hb dL_lend_2 rfl (lv_at hl 2 rfl) ?_
  refine lv_iload_n hx hb dL_lend_3 rfl (lv_at hl 3 rfl) ?_
  refine lv_iload hx hb dL_lend_4 (lv_at hl 4 rfl) ?_
  refine fz_xretI (P := ([] : va_W)) (S := []) (Wc := (FW f a t h x ++ (HW cy h g (nI cn) ++ (CW cy a V ++ (CW cy w N ++ Z))))) (Wc' := (FW f a t h x ++ (HW cy h (hs_g g cn) (nI (hs_n cn)) ++ (CW cy a (fz_lend V nt nl y z u v).2 ++ (CW cy w V ++ Z))))) (WX := (FW f a t h x ++ (HW cy h g (nI cn) ++ (CW cy a (fz_lend V nt nl y z u v).2 ++ (CW cy w V ++ Z))))) (vx_runV (As := [.int y, .int z, .int u, .int v]) (rest := []) ⟨hx, hb, hml, hown, hts⟩ (c_X8_lend l hst D cy f a t h x g cn V w N Z nt nc nq nl wk wf hn hw hz hh y z u v) (cwV 4 hts gL_lend_X8_lend rfl rfl rfl (by decide +kernel) ⟨Nat.le_of_ble_eq_true rfl, Nat.le_of_ble_eq_true rfl⟩) (fz_preMV (ci := 6) (q0 := 0) hK (fz_seg (fz_nilP (P := ([] : va_W)) hP)) (fz_segD (fz_nilD (P := ([] : va_W)) hD)) rfl rfl rfl fz_Ev_bl (fun U hU hW => hE.1.up hU hS hW (fun q h9 => fz_inD (fz_segD (fz_nilD (P := ([] : va_W)) hD)) h9))) rfl rfl hl.1 rfl (lv_room (Nat.le_of_ble_eq_true rfl)) dL_lend_6 ⟨Nat.le_of_ble_eq_true rfl, Nat.le_of_ble_eq_true rfl⟩) (fz_nilP (P := ([] : va_W)) hP) (fz_nilD (P := ([] : va_W)) hD) hS rfl rfl (fun c_9 H locs q9 ce hP hD hS h7 h8 h9 => ?_) (fun c_9 H locs hP hD hS => ?_)
  · skip
    exact absurd (hok.symm.trans c_9) (by decide)
  · skip
    have hP := fz_nilP' (P := ([] : va_W)) hP
    refine fz_wd (k := 1) (n := 6) (Nat.le_of_ble_eq_true rfl) (Nat.le_of_ble_eq_true rfl) ?_
    refine vx_ret ?_
    subst hAe
    exact W.iret (v := ((fz_lend V nt nl y z u v).1)) hx hb hr (fun t9 ht9 hW9 => ⟨⟨_, (), rfl, ⟨rfl, rfl⟩, fz_to ht9 hP⟩, hS.F ht9⟩) hS.2.2 dL_lend_9
set_option maxHeartbeats 4000000 in
set_option maxRecDepth 100000 in
/-- the law calls lend -/
theorem c_L_lend_IO (l : Launch) (hst : l.stackTraces = false) (D : va_G) (cy : Nat → ClassId) (f a t h x : Nat → Nat) (g : Nat → Option Nat) (cn : Nat) (V : Nat → Nat → Int32) (w : Nat → Nat) (N : Nat → Nat → Int32) (Z : va_W) (nt nc nq nl wk : Nat) (wf : fz_wf V nt nc nq nl wk) (hn : cn < 5) (hw : g cn = some (w 0)) (hz : fz_zo (V 2) 40) (hh : ∀ k, k < 5 → ∃ x, g k = some x ∧ fz_hd (CW cy w N ++ Z) x) (y z u v : Int32) (hok : (fz_ok (fz_lend V nt nl y z u v).1) = false) (hen : (fz_en (fz_lend V nt nl y z u v).1) = xIO) : fz_XI l yL_lend wsL_lend 8 127 1 6 D cy [.ref (f 0), .int y, .int z, .int u, .int v] (FW f a t h x ++ (HW cy h g (nI cn) ++ (CW cy a V ++ (CW cy w N ++ Z)))) (fz_Ew (fz_in (FW f a t h x ++ (HW cy h g (nI cn) ++ (CW cy a V ++ (CW cy w N ++ Z)))))) (-11) (FW f a t h x ++ (HW cy h g (nI cn) ++ (CW cy a (fz_lend V nt nl y z u v).2 ++ (CW cy w V ++ Z)))) true xIS (FW f a t h x ++ (HW cy h g (nI cn) ++ (CW cy a (fz_lend V nt nl y z u v).2 ++ (CW cy w V ++ Z)))) := by
  refine vx_ofWH (cc := cL_lend) (maxL := 6) (ret := (some .int)) (hh := [(0, 9, 10, 34), (0, 9, 15, 15), (0, 9, 20, 17)]) (by decide) rfl ?_
  intro p e s m args below meth c s₁ B hml hv
  obtain ⟨rfl, hP, hK, hD0, hE⟩ := hv
  have hx := B.exec
  have hb := B.bytes
  have hr := B.returns
  have hts := atoms_spec (ws := wsL_lend) B.pre
  have hown : s.vm.findClass RL = some m.cls := findClass_of_methodNamed B.named
  have hlocks := B.notSynchronized
  have hD := fz_self hD0
  obtain ⟨A, hAe⟩ : ∃ A : Nat → Prop, A = fz_in (FW f a t h x ++ (HW cy h g (nI cn) ++ (CW cy a V ++ (CW cy w N ++ Z)))) := ⟨_, rfl⟩
  rw [← hAe] at hD
  have hE : fz_Ew A s := by rw [hAe]; exact hE
  have hS : va_S A s.heap s.heap [] := va_S.rf
  have hl := lv_entry ([.ref (f 0), .int y, .int z, .int u, .int v]) (n := 6) (Nat.le_of_ble_eq_true rfl)
  rw [lg_entry_eq]
  generalize (lg_sl ([.ref (f 0), .int y, .int z, .int u, .int v]) ++ List.replicate (6 - (lg_sl ([.ref (f 0), .int y, .int z, .int u, .int v])).length) Slot.unset).toArray = ls at hl ⊢
  have hl : lv_has ls 6 [(0, .ref (f 0)), (1, .int y), (2, .int z), (3, .int u), (4, .int v)] := hl
  have htab := vx_table (x := yL_lend) B (hts (.codeWith yL_lend cL_lend 6 (some .int) [(0, 9, 10, 34), (0, 9, 15, 15), (0, 9, 20, 17)]) (by decide +kernel))
  refine lv_aload_n hx hb dL_lend_0 rfl (lv_at hl 0 rfl) ?_
  refine lv_iload_n hx hb dL_lend_1 rfl (lv_at hl 1 rfl) ?_
  refine lv_iload_n hx hb dL_lend_2 rfl (lv_at hl 2 rfl) ?_
  refine lv_iload_n hx hb dL_lend_3 rfl (lv_at hl 3 rfl) ?_
  refine lv_iload hx hb dL_lend_4 (lv_at hl 4 rfl) ?_
  refine fz_xretI (P := ([] : va_W)) (S := []) (Wc := (FW f a t h x ++ (HW cy h g (nI cn) ++ (CW cy a V ++ (CW cy w N ++ Z))))) (Wc' := (FW f a t h x ++ (HW cy h (hs_g g cn) (nI (hs_n cn)) ++ (CW cy a (fz_lend V nt nl y z u v).2 ++ (CW cy w V ++ Z))))) (WX := (FW f a t h x ++ (HW cy h g (nI cn) ++ (CW cy a (fz_lend V nt nl y z u v).2 ++ (CW cy w V ++ Z))))) (vx_runV (As := [.int y, .int z, .int u, .int v]) (rest := []) ⟨hx, hb, hml, hown, hts⟩ (c_X8_lend l hst D cy f a t h x g cn V w N Z nt nc nq nl wk wf hn hw hz hh y z u v) (cwV 4 hts gL_lend_X8_lend rfl rfl rfl (by decide +kernel) ⟨Nat.le_of_ble_eq_true rfl, Nat.le_of_ble_eq_true rfl⟩) (fz_preMV (ci := 6) (q0 := 0) hK (fz_seg (fz_nilP (P := ([] : va_W)) hP)) (fz_segD (fz_nilD (P := ([] : va_W)) hD)) rfl rfl rfl fz_Ev_bl (fun U hU hW => hE.1.up hU hS hW (fun q h9 => fz_inD (fz_segD (fz_nilD (P := ([] : va_W)) hD)) h9))) rfl rfl hl.1 rfl (lv_room (Nat.le_of_ble_eq_true rfl)) dL_lend_6 ⟨Nat.le_of_ble_eq_true rfl, Nat.le_of_ble_eq_true rfl⟩) (fz_nilP (P := ([] : va_W)) hP) (fz_nilD (P := ([] : va_W)) hD) hS rfl rfl (fun c_9 H locs q9 ce hP hD hS h7 h8 h9 => ?_) (fun c_9 H locs hP hD hS => ?_)
  · skip
    rw [hen] at h9
    refine vx_catch (name := xIO) hown [] ⟨0, 9, 10, 34⟩ [⟨0, 9, 15, 15⟩, ⟨0, 9, 20, 17⟩] (by rw [htab]; rfl) (fun z hz => nomatch hz) (by decide) (by decide) (hts (.classLink RL 34 xIO) (by decide +kernel)) (va_Nw.use rfl (hE.1.1.2.2.1 (.castable xIO xIO) (by decide +kernel))) h7 h8 h9 ?_
    have hP := fz_nilP' (P := ([] : va_W)) hP
    refine lv_astore (lv' := [(5, .ref q9), (0, .ref (f 0)), (1, .int y), (2, .int z), (3, .int u), (4, .int v)]) hx hb dL_lend_10 hl (by decide) rfl (fun ls hl => ?_)
    refine lv_bipush (v := (-11)) hx hb dL_lend_12 (by decide) ?_
    refine fz_wd (k := 1) (n := 6) (Nat.le_of_ble_eq_true rfl) (Nat.le_of_ble_eq_true rfl) ?_
    refine vx_ret ?_
    subst hAe
    exact W.iret (v := (-11)) hx hb hr (fun t9 ht9 hW9 => ⟨⟨_, (), rfl, ⟨rfl, rfl⟩, fz_to ht9 hP⟩, hS.F ht9⟩) hS.2.2 dL_lend_14
  · skip
    exact absurd (hok.symm.trans c_9) (by decide)
set_option maxHeartbeats 4000000 in
set_option maxRecDepth 100000 in
/-- the law calls lend -/
theorem c_L_lend_IA (l : Launch) (hst : l.stackTraces = false) (D : va_G) (cy : Nat → ClassId) (f a t h x : Nat → Nat) (g : Nat → Option Nat) (cn : Nat) (V : Nat → Nat → Int32) (w : Nat → Nat) (N : Nat → Nat → Int32) (Z : va_W) (nt nc nq nl wk : Nat) (wf : fz_wf V nt nc nq nl wk) (hn : cn < 5) (hw : g cn = some (w 0)) (hz : fz_zo (V 2) 40) (hh : ∀ k, k < 5 → ∃ x, g k = some x ∧ fz_hd (CW cy w N ++ Z) x) (y z u v : Int32) (hok : (fz_ok (fz_lend V nt nl y z u v).1) = false) (hen : (fz_en (fz_lend V nt nl y z u v).1) = xIA) : fz_XI l yL_lend wsL_lend 8 127 1 6 D cy [.ref (f 0), .int y, .int z, .int u, .int v] (FW f a t h x ++ (HW cy h g (nI cn) ++ (CW cy a V ++ (CW cy w N ++ Z)))) (fz_Ew (fz_in (FW f a t h x ++ (HW cy h g (nI cn) ++ (CW cy a V ++ (CW cy w N ++ Z)))))) (-12) (FW f a t h x ++ (HW cy h g (nI cn) ++ (CW cy a (fz_lend V nt nl y z u v).2 ++ (CW cy w V ++ Z)))) true xIS (FW f a t h x ++ (HW cy h g (nI cn) ++ (CW cy a (fz_lend V nt nl y z u v).2 ++ (CW cy w V ++ Z)))) := by
  refine vx_ofWH (cc := cL_lend) (maxL := 6) (ret := (some .int)) (hh := [(0, 9, 10, 34), (0, 9, 15, 15), (0, 9, 20, 17)]) (by decide) rfl ?_
  intro p e s m args below meth c s₁ B hml hv
  obtain ⟨rfl, hP, hK, hD0, hE⟩ := hv
  have hx := B.exec
  have hb := B.bytes
  have hr := B.returns
  have hts := atoms_spec (ws := wsL_lend) B.pre
  have hown : s.vm.findClass RL = some m.cls := findClass_of_methodNamed B.named
  have hlocks := B.notSynchronized
  have hD := fz_self hD0
  obtain ⟨A, hAe⟩ : ∃ A : Nat → Prop, A = fz_in (FW f a t h x ++ (HW cy h g (nI cn) ++ (CW cy a V ++ (CW cy w N ++ Z)))) := ⟨_, rfl⟩
  rw [← hAe] at hD
  have hE : fz_Ew A s := by rw [hAe]; exact hE
  have hS : va_S A s.heap s.heap [] := va_S.rf
  have hl := lv_entry ([.ref (f 0), .int y, .int z, .int u, .int v]) (n := 6) (Nat.le_of_ble_eq_true rfl)
  rw [lg_entry_eq]
  generalize (lg_sl ([.ref (f 0), .int y, .int z, .int u, .int v]) ++ List.replicate (6 - (lg_sl ([.ref (f 0), .int y, .int z, .int u, .int v])).length) Slot.unset).toArray = ls at hl ⊢
  have hl : lv_has ls 6 [(0, .ref (f 0)), (1, .int y), (2, .int z), (3, .int u), (4, .int v)] := hl
  have htab := vx_table (x := yL_lend) B (hts (.codeWith yL_lend cL_lend 6 (some .int) [(0, 9, 10, 34), (0, 9, 15, 15), (0, 9, 20, 17)]) (by decide +kernel))
  refine lv_aload_n hx hb dL_lend_0 rfl (lv_at hl 0 rfl) ?_
  refine lv_iload_n hx hb dL_lend_1 rfl (lv_at hl 1 rfl) ?_
  refine lv_iload_n hx hb dL_lend_2 rfl (lv_at hl 2 rfl) ?_
  refine lv_iload_n hx hb dL_lend_3 rfl (lv_at hl 3 rfl) ?_
  refine lv_iload hx hb dL_lend_4 (lv_at hl 4 rfl) ?_
  refine fz_xretI (P := ([] : va_W)) (S := []) (Wc := (FW f a t h x ++ (HW cy h g (nI cn) ++ (CW cy a V ++ (CW cy w N ++ Z))))) (Wc' := (FW f a t h x ++ (HW cy h (hs_g g cn) (nI (hs_n cn)) ++ (CW cy a (fz_lend V nt nl y z u v).2 ++ (CW cy w V ++ Z))))) (WX := (FW f a t h x ++ (HW cy h g (nI cn) ++ (CW cy a (fz_lend V nt nl y z u v).2 ++ (CW cy w V ++ Z))))) (vx_runV (As := [.int y, .int z, .int u, .int v]) (rest := []) ⟨hx, hb, hml, hown, hts⟩ (c_X8_lend l hst D cy f a t h x g cn V w N Z nt nc nq nl wk wf hn hw hz hh y z u v) (cwV 4 hts gL_lend_X8_lend rfl rfl rfl (by decide +kernel) ⟨Nat.le_of_ble_eq_true rfl, Nat.le_of_ble_eq_true rfl⟩) (fz_preMV (ci := 6) (q0 := 0) hK (fz_seg (fz_nilP (P := ([] : va_W)) hP)) (fz_segD (fz_nilD (P := ([] : va_W)) hD)) rfl rfl rfl fz_Ev_bl (fun U hU hW => hE.1.up hU hS hW (fun q h9 => fz_inD (fz_segD (fz_nilD (P := ([] : va_W)) hD)) h9))) rfl rfl hl.1 rfl (lv_room (Nat.le_of_ble_eq_true rfl)) dL_lend_6 ⟨Nat.le_of_ble_eq_true rfl, Nat.le_of_ble_eq_true rfl⟩) (fz_nilP (P := ([] : va_W)) hP) (fz_nilD (P := ([] : va_W)) hD) hS rfl rfl (fun c_9 H locs q9 ce hP hD hS h7 h8 h9 => ?_) (fun c_9 H locs hP hD hS => ?_)
  · skip
    rw [hen] at h9
    refine vx_catch (name := xIA) hown [⟨0, 9, 10, 34⟩] ⟨0, 9, 15, 15⟩ [⟨0, 9, 20, 17⟩] (by rw [htab]; rfl) (fun z hz => by rcases List.mem_cons.mp hz with rfl | hz; exact Or.inr ⟨by decide, xIO, hts (.classLink RL 34 xIO) (by decide +kernel), hE.2.2.1⟩; exact nomatch hz) (by decide) (by decide) (hts (.classLink RL 15 xIA) (by decide +kernel)) (va_Nw.use rfl (hE.1.1.2.2.1 (.castable xIA xIA) (by decide +kernel))) h7 h8 h9 ?_
    have hP := fz_nilP' (P := ([] : va_W)) hP
    refine lv_astore (lv' := [(5, .ref q9), (0, .ref (f 0)), (1, .int y), (2, .int z), (3, .int u), (4, .int v)]) hx hb dL_lend_15 hl (by decide) rfl (fun ls hl => ?_)
    refine lv_bipush (v := (-12)) hx hb dL_lend_17 (by decide) ?_
    refine fz_wd (k := 1) (n := 6) (Nat.le_of_ble_eq_true rfl) (Nat.le_of_ble_eq_true rfl) ?_
    refine vx_ret ?_
    subst hAe
    exact W.iret (v := (-12)) hx hb hr (fun t9 ht9 hW9 => ⟨⟨_, (), rfl, ⟨rfl, rfl⟩, fz_to ht9 hP⟩, hS.F ht9⟩) hS.2.2 dL_lend_19
  · skip
    exact absurd (hok.symm.trans c_9) (by decide)
set_option maxHeartbeats 4000000 in
set_option maxRecDepth 100000 in
/-- the law calls lend -/
theorem c_L_lend_IS (l : Launch) (hst : l.stackTraces = false) (D : va_G) (cy : Nat → ClassId) (f a t h x : Nat → Nat) (g : Nat → Option Nat) (cn : Nat) (V : Nat → Nat → Int32) (w : Nat → Nat) (N : Nat → Nat → Int32) (Z : va_W) (nt nc nq nl wk : Nat) (wf : fz_wf V nt nc nq nl wk) (hn : cn < 5) (hw : g cn = some (w 0)) (hz : fz_zo (V 2) 40) (hh : ∀ k, k < 5 → ∃ x, g k = some x ∧ fz_hd (CW cy w N ++ Z) x) (y z u v : Int32) (hok : (fz_ok (fz_lend V nt nl y z u v).1) = false) (hen : (fz_en (fz_lend V nt nl y z u v).1) = xIS) : fz_XI l yL_lend wsL_lend 8 127 1 6 D cy [.ref (f 0), .int y, .int z, .int u, .int v] (FW f a t h x ++ (HW cy h g (nI cn) ++ (CW cy a V ++ (CW cy w N ++ Z)))) (fz_Ew (fz_in (FW f a t h x ++ (HW cy h g (nI cn) ++ (CW cy a V ++ (CW cy w N ++ Z)))))) (-13) (FW f a t h x ++ (HW cy h g (nI cn) ++ (CW cy a (fz_lend V nt nl y z u v).2 ++ (CW cy w V ++ Z)))) true xIS (FW f a t h x ++ (HW cy h g (nI cn) ++ (CW cy a (fz_lend V nt nl y z u v).2 ++ (CW cy w V ++ Z)))) := by
  refine vx_ofWH (cc := cL_lend) (maxL := 6) (ret := (some .int)) (hh := [(0, 9, 10, 34), (0, 9, 15, 15), (0, 9, 20, 17)]) (by decide) rfl ?_
  intro p e s m args below meth c s₁ B hml hv
  obtain ⟨rfl, hP, hK, hD0, hE⟩ := hv
  have hx := B.exec
  have hb := B.bytes
  have hr := B.returns
  have hts := atoms_spec (ws := wsL_lend) B.pre
  have hown : s.vm.findClass RL = some m.cls := findClass_of_methodNamed B.named
  have hlocks := B.notSynchronized
  have hD := fz_self hD0
  obtain ⟨A, hAe⟩ : ∃ A : Nat → Prop, A = fz_in (FW f a t h x ++ (HW cy h g (nI cn) ++ (CW cy a V ++ (CW cy w N ++ Z)))) := ⟨_, rfl⟩
  rw [← hAe] at hD
  have hE : fz_Ew A s := by rw [hAe]; exact hE
  have hS : va_S A s.heap s.heap [] := va_S.rf
  have hl := lv_entry ([.ref (f 0), .int y, .int z, .int u, .int v]) (n := 6) (Nat.le_of_ble_eq_true rfl)
  rw [lg_entry_eq]
  generalize (lg_sl ([.ref (f 0), .int y, .int z, .int u, .int v]) ++ List.replicate (6 - (lg_sl ([.ref (f 0), .int y, .int z, .int u, .int v])).length) Slot.unset).toArray = ls at hl ⊢
  have hl : lv_has ls 6 [(0, .ref (f 0)), (1, .int y), (2, .int z), (3, .int u), (4, .int v)] := hl
  have htab := vx_table (x := yL_lend) B (hts (.codeWith yL_lend cL_lend 6 (some .int) [(0, 9, 10, 34), (0, 9, 15, 15), (0, 9, 20, 17)]) (by decide +kernel))
  refine lv_aload_n hx hb dL_lend_0 rfl (lv_at hl 0 rfl) ?_
  refine lv_iload_n hx hb dL_lend_1 rfl (lv_at hl 1 rfl) ?_
  refine lv_iload_n hx hb dL_lend_2 rfl (lv_at hl 2 rfl) ?_
  refine lv_iload_n hx hb dL_lend_3 rfl (lv_at hl 3 rfl) ?_
  refine lv_iload hx hb dL_lend_4 (lv_at hl 4 rfl) ?_
  refine fz_xretI (P := ([] : va_W)) (S := []) (Wc := (FW f a t h x ++ (HW cy h g (nI cn) ++ (CW cy a V ++ (CW cy w N ++ Z))))) (Wc' := (FW f a t h x ++ (HW cy h (hs_g g cn) (nI (hs_n cn)) ++ (CW cy a (fz_lend V nt nl y z u v).2 ++ (CW cy w V ++ Z))))) (WX := (FW f a t h x ++ (HW cy h g (nI cn) ++ (CW cy a (fz_lend V nt nl y z u v).2 ++ (CW cy w V ++ Z))))) (vx_runV (As := [.int y, .int z, .int u, .int v]) (rest := []) ⟨hx, hb, hml, hown, hts⟩ (c_X8_lend l hst D cy f a t h x g cn V w N Z nt nc nq nl wk wf hn hw hz hh y z u v) (cwV 4 hts gL_lend_X8_lend rfl rfl rfl (by decide +kernel) ⟨Nat.le_of_ble_eq_true rfl, Nat.le_of_ble_eq_true rfl⟩) (fz_preMV (ci := 6) (q0 := 0) hK (fz_seg (fz_nilP (P := ([] : va_W)) hP)) (fz_segD (fz_nilD (P := ([] : va_W)) hD)) rfl rfl rfl fz_Ev_bl (fun U hU hW => hE.1.up hU hS hW (fun q h9 => fz_inD (fz_segD (fz_nilD (P := ([] : va_W)) hD)) h9))) rfl rfl hl.1 rfl (lv_room (Nat.le_of_ble_eq_true rfl)) dL_lend_6 ⟨Nat.le_of_ble_eq_true rfl, Nat.le_of_ble_eq_true rfl⟩) (fz_nilP (P := ([] : va_W)) hP) (fz_nilD (P := ([] : va_W)) hD) hS rfl rfl (fun c_9 H locs q9 ce hP hD hS h7 h8 h9 => ?_) (fun c_9 H locs hP hD hS => ?_)
  · skip
    rw [hen] at h9
    refine vx_catch (name := xIS) hown [⟨0, 9, 10, 34⟩, ⟨0, 9, 15, 15⟩] ⟨0, 9, 20, 17⟩ [] (by rw [htab]; rfl) (fun z hz => by rcases List.mem_cons.mp hz with rfl | hz; exact Or.inr ⟨by decide, xIO, hts (.classLink RL 34 xIO) (by decide +kernel), hE.2.2.2⟩; rcases List.mem_cons.mp hz with rfl | hz; exact Or.inr ⟨by decide, xIA, hts (.classLink RL 15 xIA) (by decide +kernel), hE.2.1⟩; exact nomatch hz) (by decide) (by decide) (hts (.classLink RL 17 xIS) (by decide +kernel)) (va_Nw.use rfl (hE.1.1.2.2.1 (.castable xIS xIS) (by decide +kernel))) h7 h8 h9 ?_
    have hP := fz_nilP' (P := ([] : va_W)) hP
    refine lv_astore (lv' := [(5, .ref q9), (0, .ref (f 0)), (1, .int y), (2, .int z), (3, .int u), (4, .int v)]) hx hb dL_lend_20 hl (by decide) rfl (fun ls hl => ?_)
    refine lv_bipush (v := (-13)) hx hb dL_lend_22 (by decide) ?_
    refine fz_wd (k := 1) (n := 6) (Nat.le_of_ble_eq_true rfl) (Nat.le_of_ble_eq_true rfl) ?_
    refine vx_ret ?_
    subst hAe
    exact W.iret (v := (-13)) hx hb hr (fun t9 ht9 hW9 => ⟨⟨_, (), rfl, ⟨rfl, rfl⟩, fz_to ht9 hP⟩, hS.F ht9⟩) hS.2.2 dL_lend_24
  · skip
    exact absurd (hok.symm.trans c_9) (by decide)
set_option maxHeartbeats 4000000 in
set_option maxRecDepth 100000 in
/-- the law calls repay -/
theorem c_L_repay_t (l : Launch) (hst : l.stackTraces = false) (D : va_G) (cy : Nat → ClassId) (f a t h x : Nat → Nat) (g : Nat → Option Nat) (cn : Nat) (V : Nat → Nat → Int32) (w : Nat → Nat) (N : Nat → Nat → Int32) (Z : va_W) (nt nc nq nl wk : Nat) (wf : fz_wf V nt nc nq nl wk) (hn : cn < 5) (hw : g cn = some (w 0)) (hz : fz_zo (V 2) 40) (hh : ∀ k, k < 5 → ∃ x, g k = some x ∧ fz_hd (CW cy w N ++ Z) x) (y z : Int32) (hok : (fz_ok (fz_repay V nl y z).1) = true) : fz_XI l yL_repay wsL_repay 8 125 1 6 D cy [.ref (f 0), .int y, .int z] (FW f a t h x ++ (HW cy h g (nI cn) ++ (CW cy a V ++ (CW cy w N ++ Z)))) (fz_Ew (fz_in (FW f a t h x ++ (HW cy h g (nI cn) ++ (CW cy a V ++ (CW cy w N ++ Z)))))) ((fz_repay V nl y z).1) (FW f a t h x ++ (HW cy h (hs_g g cn) (nI (hs_n cn)) ++ (CW cy a (fz_repay V nl y z).2 ++ (CW cy w V ++ Z)))) true xIS (FW f a t h x ++ (HW cy h (hs_g g cn) (nI (hs_n cn)) ++ (CW cy a (fz_repay V nl y z).2 ++ (CW cy w V ++ Z)))) := by
  refine vx_ofWH (cc := cL_repay) (maxL := 4) (ret := (some .int)) (hh := [(0, 6, 7, 34), (0, 6, 11, 15), (0, 6, 15, 17)]) (by decide) rfl ?_
  intro p e s m args below meth c s₁ B hml hv
  obtain ⟨rfl, hP, hK, hD0, hE⟩ := hv
  have hx := B.exec
  have hb := B.bytes
  have hr := B.returns
  have hts := atoms_spec (ws := wsL_repay) B.pre
  have hown : s.vm.findClass RL = some m.cls := findClass_of_methodNamed B.named
  have hlocks := B.notSynchronized
  have hD := fz_self hD0
  obtain ⟨A, hAe⟩ : ∃ A : Nat → Prop, A = fz_in (FW f a t h x ++ (HW cy h g (nI cn) ++ (CW cy a V ++ (CW cy w N ++ Z)))) := ⟨_, rfl⟩
  rw [← hAe] at hD
  have hE : fz_Ew A s := by rw [hAe]; exact hE
  have hS : va_S A s.heap s.heap [] := va_S.rf
  have hl := lv_entry ([.ref (f 0), .int y, .int z]) (n := 4) (Nat.le_of_ble_eq_true rfl)
  rw [lg_entry_eq]
  generalize (lg_sl ([.ref (f 0), .int y, .int z]) ++ List.replicate (4 - (lg_sl ([.ref (f 0), .int y, .int z])).length) Slot.unset).toArray = ls at hl ⊢
  have hl : lv_has ls 4 [(0, .ref (f 0)), (1, .int y), (2, .int z)] := hl
  have htab := vx_table (x := yL_repay) B (hts (.codeWith yL_repay cL_repay 4 (some .int) [(0, 6, 7, 34), (0, 6, 11, 15), (0, 6, 15, 17)]) (by decide +kernel))
  refine lv_aload_n hx hb dL_repay_0 rfl (lv_at hl 0 rfl) ?_
  refine lv_iload_n hx hb dL_repay_1 rfl (lv_at hl 1 rfl) ?_
  refine lv_iload_n hx hb dL_repay_2 rfl (lv_at hl 2 rfl) ?_
  refine fz_xretI (P := ([] : va_W)) (S := []) (Wc := (FW f a t h x ++ (HW cy h g (nI cn) ++ (CW cy a V ++ (CW cy w N ++ Z))))) (Wc' := (FW f a t h x ++ (HW cy h (hs_g g cn) (nI (hs_n cn)) ++ (CW cy a (fz_repay V nl y z).2 ++ (CW cy w V ++ Z))))) (WX := (FW f a t h x ++ (HW cy h g (nI cn) ++ (CW cy a (fz_repay V nl y z).2 ++ (CW cy w V ++ Z))))) (vx_runV (As := [.int y, .int z]) (rest := []) ⟨hx, hb, hml, hown, hts⟩ (c_X8_repay l hst D cy f a t h x g cn V w N Z nt nc nq nl wk wf hn hw hz hh y z) (cwV 2 hts gL_repay_X8_repay rfl rfl rfl (by decide +kernel) ⟨Nat.le_of_ble_eq_true rfl, Nat.le_of_ble_eq_true rfl⟩) (fz_preMV (ci := 6) (q0 := 0) hK (fz_seg (fz_nilP (P := ([] : va_W)) hP)) (fz_segD (fz_nilD (P := ([] : va_W)) hD)) rfl rfl rfl fz_Ev_bl (fun U hU hW => hE.1.up hU hS hW (fun q h9 => fz_inD (fz_segD (fz_nilD (P := ([] : va_W)) hD)) h9))) rfl rfl hl.1 rfl (lv_room (Nat.le_of_ble_eq_true rfl)) dL_repay_3 ⟨Nat.le_of_ble_eq_true rfl, Nat.le_of_ble_eq_true rfl⟩) (fz_nilP (P := ([] : va_W)) hP) (fz_nilD (P := ([] : va_W)) hD) hS rfl rfl (fun c_9 H locs q9 ce hP hD hS h7 h8 h9 => ?_) (fun c_9 H locs hP hD hS => ?_)
  · skip
    exact absurd (hok.symm.trans c_9) (by decide)
  · skip
    have hP := fz_nilP' (P := ([] : va_W)) hP
    refine fz_wd (k := 1) (n := 6) (Nat.le_of_ble_eq_true rfl) (Nat.le_of_ble_eq_true rfl) ?_
    refine vx_ret ?_
    subst hAe
    exact W.iret (v := ((fz_repay V nl y z).1)) hx hb hr (fun t9 ht9 hW9 => ⟨⟨_, (), rfl, ⟨rfl, rfl⟩, fz_to ht9 hP⟩, hS.F ht9⟩) hS.2.2 dL_repay_6
set_option maxHeartbeats 4000000 in
set_option maxRecDepth 100000 in
/-- the law calls repay -/
theorem c_L_repay_IO (l : Launch) (hst : l.stackTraces = false) (D : va_G) (cy : Nat → ClassId) (f a t h x : Nat → Nat) (g : Nat → Option Nat) (cn : Nat) (V : Nat → Nat → Int32) (w : Nat → Nat) (N : Nat → Nat → Int32) (Z : va_W) (nt nc nq nl wk : Nat) (wf : fz_wf V nt nc nq nl wk) (hn : cn < 5) (hw : g cn = some (w 0)) (hz : fz_zo (V 2) 40) (hh : ∀ k, k < 5 → ∃ x, g k = some x ∧ fz_hd (CW cy w N ++ Z) x) (y z : Int32) (hok : (fz_ok (fz_repay V nl y z).1) = false) (hen : (fz_en (fz_repay V nl y z).1) = xIO) : fz_XI l yL_repay wsL_repay 8 125 1 6 D cy [.ref (f 0), .int y, .int z] (FW f a t h x ++ (HW cy h g (nI cn) ++ (CW cy a V ++ (CW cy w N ++ Z)))) (fz_Ew (fz_in (FW f a t h x ++ (HW cy h g (nI cn) ++ (CW cy a V ++ (CW cy w N ++ Z)))))) (-11) (FW f a t h x ++ (HW cy h g (nI cn) ++ (CW cy a (fz_repay V nl y z).2 ++ (CW cy w V ++ Z)))) true xIS (FW f a t h x ++ (HW cy h g (nI cn) ++ (CW cy a (fz_repay V nl y z).2 ++ (CW cy w V ++ Z)))) := by
  refine vx_ofWH (cc := cL_repay) (maxL := 4) (ret := (some .int)) (hh := [(0, 6, 7, 34), (0, 6, 11, 15), (0, 6, 15, 17)]) (by decide) rfl ?_
  intro p e s m args below meth c s₁ B hml hv
  obtain ⟨rfl, hP, hK, hD0, hE⟩ := hv
  have hx := B.exec
  have hb := B.bytes
  have hr := B.returns
  have hts := atoms_spec (ws := wsL_repay) B.pre
  have hown : s.vm.findClass RL = some m.cls := findClass_of_methodNamed B.named
  have hlocks := B.notSynchronized
  have hD := fz_self hD0
  obtain ⟨A, hAe⟩ : ∃ A : Nat → Prop, A = fz_in (FW f a t h x ++ (HW cy h g (nI cn) ++ (CW cy a V ++ (CW cy w N ++ Z)))) := ⟨_, rfl⟩
  rw [← hAe] at hD
  have hE : fz_Ew A s := by rw [hAe]; exact hE
  have hS : va_S A s.heap s.heap [] := va_S.rf
  have hl := lv_entry ([.ref (f 0), .int y, .int z]) (n := 4) (Nat.le_of_ble_eq_true rfl)
  rw [lg_entry_eq]
  generalize (lg_sl ([.ref (f 0), .int y, .int z]) ++ List.replicate (4 - (lg_sl ([.ref (f 0), .int y, .int z])).length) Slot.unset).toArray = ls at hl ⊢
  have hl : lv_has ls 4 [(0, .ref (f 0)), (1, .int y), (2, .int z)] := hl
  have htab := vx_table (x := yL_repay) B (hts (.codeWith yL_repay cL_repay 4 (some .int) [(0, 6, 7, 34), (0, 6, 11, 15), (0, 6, 15, 17)]) (by decide +kernel))
  refine lv_aload_n hx hb dL_repay_0 rfl (lv_at hl 0 rfl) ?_
  refine lv_iload_n hx hb dL_repay_1 rfl (lv_at hl 1 rfl) ?_
  refine lv_iload_n hx hb dL_repay_2 rfl (lv_at hl 2 rfl) ?_
  refine fz_xretI (P := ([] : va_W)) (S := []) (Wc := (FW f a t h x ++ (HW cy h g (nI cn) ++ (CW cy a V ++ (CW cy w N ++ Z))))) (Wc' := (FW f a t h x ++ (HW cy h (hs_g g cn) (nI (hs_n cn)) ++ (CW cy a (fz_repay V nl y z).2 ++ (CW cy w V ++ Z))))) (WX := (FW f a t h x ++ (HW cy h g (nI cn) ++ (CW cy a (fz_repay V nl y z).2 ++ (CW cy w V ++ Z))))) (vx_runV (As := [.int y, .int z]) (rest := []) ⟨hx, hb, hml, hown, hts⟩ (c_X8_repay l hst D cy f a t h x g cn V w N Z nt nc nq nl wk wf hn hw hz hh y z) (cwV 2 hts gL_repay_X8_repay rfl rfl rfl (by decide +kernel) ⟨Nat.le_of_ble_eq_true rfl, Nat.le_of_ble_eq_true rfl⟩) (fz_preMV (ci := 6) (q0 := 0) hK (fz_seg (fz_nilP (P := ([] : va_W)) hP)) (fz_segD (fz_nilD (P := ([] : va_W)) hD)) rfl rfl rfl fz_Ev_bl (fun U hU hW => hE.1.up hU hS hW (fun q h9 => fz_inD (fz_segD (fz_nilD (P := ([] : va_W)) hD)) h9))) rfl rfl hl.1 rfl (lv_room (Nat.le_of_ble_eq_true rfl)) dL_repay_3 ⟨Nat.le_of_ble_eq_true rfl, Nat.le_of_ble_eq_true rfl⟩) (fz_nilP (P := ([] : va_W)) hP) (fz_nilD (P := ([] : va_W)) hD) hS rfl rfl (fun c_9 H locs q9 ce hP hD hS h7 h8 h9 => ?_) (fun c_9 H locs hP hD hS => ?_)
  · skip
    rw [hen] at h9
    refine vx_catch (name := xIO) hown [] ⟨0, 6, 7, 34⟩ [⟨0, 6, 11, 15⟩, ⟨0, 6, 15, 17⟩] (by rw [htab]; rfl) (fun z hz => nomatch hz) (by decide) (by decide) (hts (.classLink RL 34 xIO) (by decide +kernel)) (va_Nw.use rfl (hE.1.1.2.2.1 (.castable xIO xIO) (by decide +kernel))) h7 h8 h9 ?_
    have hP := fz_nilP' (P := ([] : va_W)) hP
    refine lv_astore_n (lv' := [(3, .ref q9), (0, .ref (f 0)), (1, .int y), (2, .int z)]) hx hb dL_repay_7 rfl hl (by decide) rfl (fun ls hl => ?_)
    refine lv_bipush (v := (-11)) hx hb dL_repay_8 (by decide) ?_
    refine fz_wd (k := 1) (n := 6) (Nat.le_of_ble_eq_true rfl) (Nat.le_of_ble_eq_true rfl) ?_
    refine vx_ret ?_
    subst hAe
    exact W.iret (v := (-11)) hx hb hr (fun t9 ht9 hW9 => ⟨⟨_, (), rfl, ⟨rfl, rfl⟩, fz_to ht9 hP⟩, hS.F ht9⟩) hS.2.2 dL_repay_10
  · skip
    exact absurd (hok.symm.trans c_9) (by decide)
set_option maxHeartbeats 4000000 in
set_option maxRecDepth 100000 in
/-- the law calls repay -/
theorem c_L_repay_IA (l : Launch) (hst : l.stackTraces = false) (D : va_G) (cy : Nat → ClassId) (f a t h x : Nat → Nat) (g : Nat → Option Nat) (cn : Nat) (V : Nat → Nat → Int32) (w : Nat → Nat) (N : Nat → Nat → Int32) (Z : va_W) (nt nc nq nl wk : Nat) (wf : fz_wf V nt nc nq nl wk) (hn : cn < 5) (hw : g cn = some (w 0)) (hz : fz_zo (V 2) 40) (hh : ∀ k, k < 5 → ∃ x, g k = some x ∧ fz_hd (CW cy w N ++ Z) x) (y z : Int32) (hok : (fz_ok (fz_repay V nl y z).1) = false) (hen : (fz_en (fz_repay V nl y z).1) = xIA) : fz_XI l yL_repay wsL_repay 8 125 1 6 D cy [.ref (f 0), .int y, .int z] (FW f a t h x ++ (HW cy h g (nI cn) ++ (CW cy a V ++ (CW cy w N ++ Z)))) (fz_Ew (fz_in (FW f a t h x ++ (HW cy h g (nI cn) ++ (CW cy a V ++ (CW cy w N ++ Z)))))) (-12) (FW f a t h x ++ (HW cy h g (nI cn) ++ (CW cy a (fz_repay V nl y z).2 ++ (CW cy w V ++ Z)))) true xIS (FW f a t h x ++ (HW cy h g (nI cn) ++ (CW cy a (fz_repay V nl y z).2 ++ (CW cy w V ++ Z)))) := by
  refine vx_ofWH (cc := cL_repay) (maxL := 4) (ret := (some .int)) (hh := [(0, 6, 7, 34), (0, 6, 11, 15), (0, 6, 15, 17)]) (by decide) rfl ?_
  intro p e s m args below meth c s₁ B hml hv
  obtain ⟨rfl, hP, hK, hD0, hE⟩ := hv
  have hx := B.exec
  have hb := B.bytes
  have hr := B.returns
  have hts := atoms_spec (ws := wsL_repay) B.pre
  have hown : s.vm.findClass RL = some m.cls := findClass_of_methodNamed B.named
  have hlocks := B.notSynchronized
  have hD := fz_self hD0
  obtain ⟨A, hAe⟩ : ∃ A : Nat → Prop, A = fz_in (FW f a t h x ++ (HW cy h g (nI cn) ++ (CW cy a V ++ (CW cy w N ++ Z)))) := ⟨_, rfl⟩
  rw [← hAe] at hD
  have hE : fz_Ew A s := by rw [hAe]; exact hE
  have hS : va_S A s.heap s.heap [] := va_S.rf
  have hl := lv_entry ([.ref (f 0), .int y, .int z]) (n := 4) (Nat.le_of_ble_eq_true rfl)
  rw [lg_entry_eq]
  generalize (lg_sl ([.ref (f 0), .int y, .int z]) ++ List.replicate (4 - (lg_sl ([.ref (f 0), .int y, .int z])).length) Slot.unset).toArray = ls at hl ⊢
  have hl : lv_has ls 4 [(0, .ref (f 0)), (1, .int y), (2, .int z)] := hl
  have htab := vx_table (x := yL_repay) B (hts (.codeWith yL_repay cL_repay 4 (some .int) [(0, 6, 7, 34), (0, 6, 11, 15), (0, 6, 15, 17)]) (by decide +kernel))
  refine lv_aload_n hx hb dL_repay_0 rfl (lv_at hl 0 rfl) ?_
  refine lv_iload_n hx hb dL_repay_1 rfl (lv_at hl 1 rfl) ?_
  refine lv_iload_n hx hb dL_repay_2 rfl (lv_at hl 2 rfl) ?_
  refine fz_xretI (P := ([] : va_W)) (S := []) (Wc := (FW f a t h x ++ (HW cy h g (nI cn) ++ (CW cy a V ++ (CW cy w N ++ Z))))) (Wc' := (FW f a t h x ++ (HW cy h (hs_g g cn) (nI (hs_n cn)) ++ (CW cy a (fz_repay V nl y z).2 ++ (CW cy w V ++ Z))))) (WX := (FW f a t h x ++ (HW cy h g (nI cn) ++ (CW cy a (fz_repay V nl y z).2 ++ (CW cy w V ++ Z))))) (vx_runV (As := [.int y, .int z]) (rest := []) ⟨hx, hb, hml, hown, hts⟩ (c_X8_repay l hst D cy f a t h x g cn V w N Z nt nc nq nl wk wf hn hw hz hh y z) (cwV 2 hts gL_repay_X8_repay rfl rfl rfl (by decide +kernel) ⟨Nat.le_of_ble_eq_true rfl, Nat.le_of_ble_eq_true rfl⟩) (fz_preMV (ci := 6) (q0 := 0) hK (fz_seg (fz_nilP (P := ([] : va_W)) hP)) (fz_segD (fz_nilD (P := ([] : va_W)) hD)) rfl rfl rfl fz_Ev_bl (fun U hU hW => hE.1.up hU hS hW (fun q h9 => fz_inD (fz_segD (fz_nilD (P := ([] : va_W)) hD)) h9))) rfl rfl hl.1 rfl (lv_room (Nat.le_of_ble_eq_true rfl)) dL_repay_3 ⟨Nat.le_of_ble_eq_true rfl, Nat.le_of_ble_eq_true rfl⟩) (fz_nilP (P := ([] : va_W)) hP) (fz_nilD (P := ([] : va_W)) hD) hS rfl rfl (fun c_9 H locs q9 ce hP hD hS h7 h8 h9 => ?_) (fun c_9 H locs hP hD hS => ?_)
  · skip
    rw [hen] at h9
    refine vx_catch (name := xIA) hown [⟨0, 6, 7, 34⟩] ⟨0, 6, 11, 15⟩ [⟨0, 6, 15, 17⟩] (by rw [htab]; rfl) (fun z hz => by rcases List.mem_cons.mp hz with rfl | hz; exact Or.inr ⟨by decide, xIO, hts (.classLink RL 34 xIO) (by decide +kernel), hE.2.2.1⟩; exact nomatch hz) (by decide) (by decide) (hts (.classLink RL 15 xIA) (by decide +kernel)) (va_Nw.use rfl (hE.1.1.2.2.1 (.castable xIA xIA) (by decide +kernel))) h7 h8 h9 ?_
    have hP := fz_nilP' (P := ([] : va_W)) hP
    refine lv_astore_n (lv' := [(3, .ref q9), (0, .ref (f 0)), (1, .int y), (2, .int z)]) hx hb dL_repay_11 rfl hl (by decide) rfl (fun ls hl => ?_)
    refine lv_bipush (v := (-12)) hx hb dL_repay_12 (by decide) ?_
    refine fz_wd (k := 1) (n := 6) (Nat.le_of_ble_eq_true rfl) (Nat.le_of_ble_eq_true rfl) ?_
    refine vx_ret ?_
    subst hAe
    exact W.iret (v := (-12)) hx hb hr (fun t9 ht9 hW9 => ⟨⟨_, (), rfl, ⟨rfl, rfl⟩, fz_to ht9 hP⟩, hS.F ht9⟩) hS.2.2 dL_repay_14
  · skip
    exact absurd (hok.symm.trans c_9) (by decide)
set_option maxHeartbeats 4000000 in
set_option maxRecDepth 100000 in
/-- the law calls repay -/
theorem c_L_repay_IS (l : Launch) (hst : l.stackTraces = false) (D : va_G) (cy : Nat → ClassId) (f a t h x : Nat → Nat) (g : Nat → Option Nat) (cn : Nat) (V : Nat → Nat → Int32) (w : Nat → Nat) (N : Nat → Nat → Int32) (Z : va_W) (nt nc nq nl wk : Nat) (wf : fz_wf V nt nc nq nl wk) (hn : cn < 5) (hw : g cn = some (w 0)) (hz : fz_zo (V 2) 40) (hh : ∀ k, k < 5 → ∃ x, g k = some x ∧ fz_hd (CW cy w N ++ Z) x) (y z : Int32) (hok : (fz_ok (fz_repay V nl y z).1) = false) (hen : (fz_en (fz_repay V nl y z).1) = xIS) : fz_XI l yL_repay wsL_repay 8 125 1 6 D cy [.ref (f 0), .int y, .int z] (FW f a t h x ++ (HW cy h g (nI cn) ++ (CW cy a V ++ (CW cy w N ++ Z)))) (fz_Ew (fz_in (FW f a t h x ++ (HW cy h g (nI cn) ++ (CW cy a V ++ (CW cy w N ++ Z)))))) (-13) (FW f a t h x ++ (HW cy h g (nI cn) ++ (CW cy a (fz_repay V nl y z).2 ++ (CW cy w V ++ Z)))) true xIS (FW f a t h x ++ (HW cy h g (nI cn) ++ (CW cy a (fz_repay V nl y z).2 ++ (CW cy w V ++ Z)))) := by
  refine vx_ofWH (cc := cL_repay) (maxL := 4) (ret := (some .int)) (hh := [(0, 6, 7, 34), (0, 6, 11, 15), (0, 6, 15, 17)]) (by decide) rfl ?_
  intro p e s m args below meth c s₁ B hml hv
  obtain ⟨rfl, hP, hK, hD0, hE⟩ := hv
  have hx := B.exec
  have hb := B.bytes
  have hr := B.returns
  have hts := atoms_spec (ws := wsL_repay) B.pre
  have hown : s.vm.findClass RL = some m.cls := findClass_of_methodNamed B.named
  have hlocks := B.notSynchronized
  have hD := fz_self hD0
  obtain ⟨A, hAe⟩ : ∃ A : Nat → Prop, A = fz_in (FW f a t h x ++ (HW cy h g (nI cn) ++ (CW cy a V ++ (CW cy w N ++ Z)))) := ⟨_, rfl⟩
  rw [← hAe] at hD
  have hE : fz_Ew A s := by rw [hAe]; exact hE
  have hS : va_S A s.heap s.heap [] := va_S.rf
  have hl := lv_entry ([.ref (f 0), .int y, .int z]) (n := 4) (Nat.le_of_ble_eq_true rfl)
  rw [lg_entry_eq]
  generalize (lg_sl ([.ref (f 0), .int y, .int z]) ++ List.replicate (4 - (lg_sl ([.ref (f 0), .int y, .int z])).length) Slot.unset).toArray = ls at hl ⊢
  have hl : lv_has ls 4 [(0, .ref (f 0)), (1, .int y), (2, .int z)] := hl
  have htab := vx_table (x := yL_repay) B (hts (.codeWith yL_repay cL_repay 4 (some .int) [(0, 6, 7, 34), (0, 6, 11, 15), (0, 6, 15, 17)]) (by decide +kernel))
  refine lv_aload_n hx hb dL_repay_0 rfl (lv_at hl 0 rfl) ?_
  refine lv_iload_n hx hb dL_repay_1 rfl (lv_at hl 1 rfl) ?_
  refine lv_iload_n hx hb dL_repay_2 rfl (lv_at hl 2 rfl) ?_
  refine fz_xretI (P := ([] : va_W)) (S := []) (Wc := (FW f a t h x ++ (HW cy h g (nI cn) ++ (CW cy a V ++ (CW cy w N ++ Z))))) (Wc' := (FW f a t h x ++ (HW cy h (hs_g g cn) (nI (hs_n cn)) ++ (CW cy a (fz_repay V nl y z).2 ++ (CW cy w V ++ Z))))) (WX := (FW f a t h x ++ (HW cy h g (nI cn) ++ (CW cy a (fz_repay V nl y z).2 ++ (CW cy w V ++ Z))))) (vx_runV (As := [.int y, .int z]) (rest := []) ⟨hx, hb, hml, hown, hts⟩ (c_X8_repay l hst D cy f a t h x g cn V w N Z nt nc nq nl wk wf hn hw hz hh y z) (cwV 2 hts gL_repay_X8_repay rfl rfl rfl (by decide +kernel) ⟨Nat.le_of_ble_eq_true rfl, Nat.le_of_ble_eq_true rfl⟩) (fz_preMV (ci := 6) (q0 := 0) hK (fz_seg (fz_nilP (P := ([] : va_W)) hP)) (fz_segD (fz_nilD (P := ([] : va_W)) hD)) rfl rfl rfl fz_Ev_bl (fun U hU hW => hE.1.up hU hS hW (fun q h9 => fz_inD (fz_segD (fz_nilD (P := ([] : va_W)) hD)) h9))) rfl rfl hl.1 rfl (lv_room (Nat.le_of_ble_eq_true rfl)) dL_repay_3 ⟨Nat.le_of_ble_eq_true rfl, Nat.le_of_ble_eq_true rfl⟩) (fz_nilP (P := ([] : va_W)) hP) (fz_nilD (P := ([] : va_W)) hD) hS rfl rfl (fun c_9 H locs q9 ce hP hD hS h7 h8 h9 => ?_) (fun c_9 H locs hP hD hS => ?_)
  · skip
    rw [hen] at h9
    refine vx_catch (name := xIS) hown [⟨0, 6, 7, 34⟩, ⟨0, 6, 11, 15⟩] ⟨0, 6, 15, 17⟩ [] (by rw [htab]; rfl) (fun z hz => by rcases List.mem_cons.mp hz with rfl | hz; exact Or.inr ⟨by decide, xIO, hts (.classLink RL 34 xIO) (by decide +kernel), hE.2.2.2⟩; rcases List.mem_cons.mp hz with rfl | hz; exact Or.inr ⟨by decide, xIA, hts (.classLink RL 15 xIA) (by decide +kernel), hE.2.1⟩; exact nomatch hz) (by decide) (by decide) (hts (.classLink RL 17 xIS) (by decide +kernel)) (va_Nw.use rfl (hE.1.1.2.2.1 (.castable xIS xIS) (by decide +kernel))) h7 h8 h9 ?_
    have hP := fz_nilP' (P := ([] : va_W)) hP
    refine lv_astore_n (lv' := [(3, .ref q9), (0, .ref (f 0)), (1, .int y), (2, .int z)]) hx hb dL_repay_15 rfl hl (by decide) rfl (fun ls hl => ?_)
    refine lv_bipush (v := (-13)) hx hb dL_repay_16 (by decide) ?_
    refine fz_wd (k := 1) (n := 6) (Nat.le_of_ble_eq_true rfl) (Nat.le_of_ble_eq_true rfl) ?_
    refine vx_ret ?_
    subst hAe
    exact W.iret (v := (-13)) hx hb hr (fun t9 ht9 hW9 => ⟨⟨_, (), rfl, ⟨rfl, rfl⟩, fz_to ht9 hP⟩, hS.F ht9⟩) hS.2.2 dL_repay_18
  · skip
    exact absurd (hok.symm.trans c_9) (by decide)
set_option maxHeartbeats 4000000 in
set_option maxRecDepth 100000 in
/-- the law calls team -/
theorem c_L_team_t (l : Launch) (hst : l.stackTraces = false) (D : va_G) (cy : Nat → ClassId) (f t h x : Nat → Nat) (a : Nat → Nat) (V : Nat → Nat → Int32) (nt nc nq nl wk : Nat) (wf : fz_wf V nt nc nq nl wk) (y z : Int32) (hok : (fz_ix y (V 3 0) && fz_vo z 11) = true) : fz_XI l yL_team wsL_team 8 126 2 12 D cy [.ref (f 0), .int y, .int z] ((FW f a t h x) ++ (CW cy a V)) (fz_Ew (fz_in ((FW f a t h x) ++ (CW cy a V)))) (fz_tval V nc nl y.toNatClampNeg z.toNatClampNeg) ((FW f a t h x) ++ (CW cy a V)) true xIS ((FW f a t h x) ++ (CW cy a V)) := by
  refine vx_ofWH (cc := cL_team) (maxL := 4) (ret := (some .int)) (hh := [(0, 6, 7, 34), (0, 6, 11, 15)]) (by decide) rfl ?_
  intro p e s m args below meth c s₁ B hml hv
  obtain ⟨rfl, hP, hK, hD0, hE⟩ := hv
  have hx := B.exec
  have hb := B.bytes
  have hr := B.returns
  have hts := atoms_spec (ws := wsL_team) B.pre
  have hown : s.vm.findClass RL = some m.cls := findClass_of_methodNamed B.named
  have hlocks := B.notSynchronized
  have hD := fz_self hD0
  obtain ⟨A, hAe⟩ : ∃ A : Nat → Prop, A = fz_in ((FW f a t h x) ++ (CW cy a V)) := ⟨_, rfl⟩
  rw [← hAe] at hD
  have hE : fz_Ew A s := by rw [hAe]; exact hE
  have hS : va_S A s.heap s.heap [] := va_S.rf
  have hl := lv_entry ([.ref (f 0), .int y, .int z]) (n := 4) (Nat.le_of_ble_eq_true rfl)
  rw [lg_entry_eq]
  generalize (lg_sl ([.ref (f 0), .int y, .int z]) ++ List.replicate (4 - (lg_sl ([.ref (f 0), .int y, .int z])).length) Slot.unset).toArray = ls at hl ⊢
  have hl : lv_has ls 4 [(0, .ref (f 0)), (1, .int y), (2, .int z)] := hl
  have htab := vx_table (x := yL_team) B (hts (.codeWith yL_team cL_team 4 (some .int) [(0, 6, 7, 34), (0, 6, 11, 15)]) (by decide +kernel))
  refine lv_aload_n hx hb dL_team_0 rfl (lv_at hl 0 rfl) ?_
  refine lv_iload_n hx hb dL_team_1 rfl (lv_at hl 1 rfl) ?_
  refine lv_iload_n hx hb dL_team_2 rfl (lv_at hl 2 rfl) ?_
  refine fz_xretI (P := ([] : va_W)) (S := []) (Wc := ((FW f a t h x) ++ (CW cy a V))) (Wc' := ((FW f a t h x) ++ (CW cy a V))) (WX := ((FW f a t h x) ++ (CW cy a V))) (vx_runV (As := [.int y, .int z]) (rest := []) ⟨hx, hb, hml, hown, hts⟩ (c_X8_team l hst D cy f t h x a V nt nc nq nl wk wf y z) (cwV 2 hts gL_team_X8_team rfl rfl rfl (by decide +kernel) ⟨Nat.le_of_ble_eq_true rfl, Nat.le_of_ble_eq_true rfl⟩) (fz_preMV (ci := 6) (q0 := 0) hK (fz_seg (fz_nilP (P := ([] : va_W)) hP)) (fz_segD (fz_nilD (P := ([] : va_W)) hD)) rfl rfl rfl fz_Ev_bl (fun U hU hW => hE.1.up hU hS hW (fun q h9 => fz_inD (fz_segD (fz_nilD (P := ([] : va_W)) hD)) h9))) rfl rfl hl.1 rfl (lv_room (Nat.le_of_ble_eq_true rfl)) dL_team_3 ⟨Nat.le_of_ble_eq_true rfl, Nat.le_of_ble_eq_true rfl⟩) (fz_nilP (P := ([] : va_W)) hP) (fz_nilD (P := ([] : va_W)) hD) hS rfl rfl (fun c_9 H locs q9 ce hP hD hS h7 h8 h9 => ?_) (fun c_9 H locs hP hD hS => ?_)
  · skip
    exact absurd (hok.symm.trans c_9) (by decide)
  · skip
    have hP := fz_nilP' (P := ([] : va_W)) hP
    refine fz_wd (k := 2) (n := 12) (Nat.le_of_ble_eq_true rfl) (Nat.le_of_ble_eq_true rfl) ?_
    refine vx_ret ?_
    subst hAe
    exact W.iret (v := (fz_tval V nc nl y.toNatClampNeg z.toNatClampNeg)) hx hb hr (fun t9 ht9 hW9 => ⟨⟨_, (), rfl, ⟨rfl, rfl⟩, fz_to ht9 hP⟩, hS.F ht9⟩) hS.2.2 dL_team_6
set_option maxHeartbeats 4000000 in
set_option maxRecDepth 100000 in
/-- the law calls team -/
theorem c_L_team_IO (l : Launch) (hst : l.stackTraces = false) (D : va_G) (cy : Nat → ClassId) (f t h x : Nat → Nat) (a : Nat → Nat) (V : Nat → Nat → Int32) (nt nc nq nl wk : Nat) (wf : fz_wf V nt nc nq nl wk) (y z : Int32) (hok : (fz_ix y (V 3 0) && fz_vo z 11) = false) (hen : (bif fz_ix y (V 3 0) then xIA else xIO) = xIO) : fz_XI l yL_team wsL_team 8 126 2 12 D cy [.ref (f 0), .int y, .int z] ((FW f a t h x) ++ (CW cy a V)) (fz_Ew (fz_in ((FW f a t h x) ++ (CW cy a V)))) (-11) ((FW f a t h x) ++ (CW cy a V)) true xIS ((FW f a t h x) ++ (CW cy a V)) := by
  refine vx_ofWH (cc := cL_team) (maxL := 4) (ret := (some .int)) (hh := [(0, 6, 7, 34), (0, 6, 11, 15)]) (by decide) rfl ?_
  intro p e s m args below meth c s₁ B hml hv
  obtain ⟨rfl, hP, hK, hD0, hE⟩ := hv
  have hx := B.exec
  have hb := B.bytes
  have hr := B.returns
  have hts := atoms_spec (ws := wsL_team) B.pre
  have hown : s.vm.findClass RL = some m.cls := findClass_of_methodNamed B.named
  have hlocks := B.notSynchronized
  have hD := fz_self hD0
  obtain ⟨A, hAe⟩ : ∃ A : Nat → Prop, A = fz_in ((FW f a t h x) ++ (CW cy a V)) := ⟨_, rfl⟩
  rw [← hAe] at hD
  have hE : fz_Ew A s := by rw [hAe]; exact hE
  have hS : va_S A s.heap s.heap [] := va_S.rf
  have hl := lv_entry ([.ref (f 0), .int y, .int z]) (n := 4) (Nat.le_of_ble_eq_true rfl)
  rw [lg_entry_eq]
  generalize (lg_sl ([.ref (f 0), .int y, .int z]) ++ List.replicate (4 - (lg_sl ([.ref (f 0), .int y, .int z])).length) Slot.unset).toArray = ls at hl ⊢
  have hl : lv_has ls 4 [(0, .ref (f 0)), (1, .int y), (2, .int z)] := hl
  have htab := vx_table (x := yL_team) B (hts (.codeWith yL_team cL_team 4 (some .int) [(0, 6, 7, 34), (0, 6, 11, 15)]) (by decide +kernel))
  refine lv_aload_n hx hb dL_team_0 rfl (lv_at hl 0 rfl) ?_
  refine lv_iload_n hx hb dL_team_1 rfl (lv_at hl 1 rfl) ?_
  refine lv_iload_n hx hb dL_team_2 rfl (lv_at hl 2 rfl) ?_
  refine fz_xretI (P := ([] : va_W)) (S := []) (Wc := ((FW f a t h x) ++ (CW cy a V))) (Wc' := ((FW f a t h x) ++ (CW cy a V))) (WX := ((FW f a t h x) ++ (CW cy a V))) (vx_runV (As := [.int y, .int z]) (rest := []) ⟨hx, hb, hml, hown, hts⟩ (c_X8_team l hst D cy f t h x a V nt nc nq nl wk wf y z) (cwV 2 hts gL_team_X8_team rfl rfl rfl (by decide +kernel) ⟨Nat.le_of_ble_eq_true rfl, Nat.le_of_ble_eq_true rfl⟩) (fz_preMV (ci := 6) (q0 := 0) hK (fz_seg (fz_nilP (P := ([] : va_W)) hP)) (fz_segD (fz_nilD (P := ([] : va_W)) hD)) rfl rfl rfl fz_Ev_bl (fun U hU hW => hE.1.up hU hS hW (fun q h9 => fz_inD (fz_segD (fz_nilD (P := ([] : va_W)) hD)) h9))) rfl rfl hl.1 rfl (lv_room (Nat.le_of_ble_eq_true rfl)) dL_team_3 ⟨Nat.le_of_ble_eq_true rfl, Nat.le_of_ble_eq_true rfl⟩) (fz_nilP (P := ([] : va_W)) hP) (fz_nilD (P := ([] : va_W)) hD) hS rfl rfl (fun c_9 H locs q9 ce hP hD hS h7 h8 h9 => ?_) (fun c_9 H locs hP hD hS => ?_)
  · skip
    rw [hen] at h9
    refine vx_catch (name := xIO) hown [] ⟨0, 6, 7, 34⟩ [⟨0, 6, 11, 15⟩] (by rw [htab]; rfl) (fun z hz => nomatch hz) (by decide) (by decide) (hts (.classLink RL 34 xIO) (by decide +kernel)) (va_Nw.use rfl (hE.1.1.2.2.1 (.castable xIO xIO) (by decide +kernel))) h7 h8 h9 ?_
    have hP := fz_nilP' (P := ([] : va_W)) hP
    refine lv_astore_n (lv' := [(3, .ref q9), (0, .ref (f 0)), (1, .int y), (2, .int z)]) hx hb dL_team_7 rfl hl (by decide) rfl (fun ls hl => ?_)
    refine lv_bipush (v := (-11)) hx hb dL_team_8 (by decide) ?_
    refine fz_wd (k := 2) (n := 12) (Nat.le_of_ble_eq_true rfl) (Nat.le_of_ble_eq_true rfl) ?_
    refine vx_ret ?_
    subst hAe
    exact W.iret (v := (-11)) hx hb hr (fun t9 ht9 hW9 => ⟨⟨_, (), rfl, ⟨rfl, rfl⟩, fz_to ht9 hP⟩, hS.F ht9⟩) hS.2.2 dL_team_10
  · skip
    exact absurd (hok.symm.trans c_9) (by decide)
set_option maxHeartbeats 4000000 in
set_option maxRecDepth 100000 in
/-- the law calls team -/
theorem c_L_team_IA (l : Launch) (hst : l.stackTraces = false) (D : va_G) (cy : Nat → ClassId) (f t h x : Nat → Nat) (a : Nat → Nat) (V : Nat → Nat → Int32) (nt nc nq nl wk : Nat) (wf : fz_wf V nt nc nq nl wk) (y z : Int32) (hok : (fz_ix y (V 3 0) && fz_vo z 11) = false) (hen : (bif fz_ix y (V 3 0) then xIA else xIO) = xIA) : fz_XI l yL_team wsL_team 8 126 2 12 D cy [.ref (f 0), .int y, .int z] ((FW f a t h x) ++ (CW cy a V)) (fz_Ew (fz_in ((FW f a t h x) ++ (CW cy a V)))) (-12) ((FW f a t h x) ++ (CW cy a V)) true xIS ((FW f a t h x) ++ (CW cy a V)) := by
  refine vx_ofWH (cc := cL_team) (maxL := 4) (ret := (some .int)) (hh := [(0, 6, 7, 34), (0, 6, 11, 15)]) (by decide) rfl ?_
  intro p e s m args below meth c s₁ B hml hv
  obtain ⟨rfl, hP, hK, hD0, hE⟩ := hv
  have hx := B.exec
  have hb := B.bytes
  have hr := B.returns
  have hts := atoms_spec (ws := wsL_team) B.pre
  have hown : s.vm.findClass RL = some m.cls := findClass_of_methodNamed B.named
  have hlocks := B.notSynchronized
  have hD := fz_self hD0
  obtain ⟨A, hAe⟩ : ∃ A : Nat → Prop, A = fz_in ((FW f a t h x) ++ (CW cy a V)) := ⟨_, rfl⟩
  rw [← hAe] at hD
  have hE : fz_Ew A s := by rw [hAe]; exact hE
  have hS : va_S A s.heap s.heap [] := va_S.rf
  have hl := lv_entry ([.ref (f 0), .int y, .int z]) (n := 4) (Nat.le_of_ble_eq_true rfl)
  rw [lg_entry_eq]
  generalize (lg_sl ([.ref (f 0), .int y, .int z]) ++ List.replicate (4 - (lg_sl ([.ref (f 0), .int y, .int z])).length) Slot.unset).toArray = ls at hl ⊢
  have hl : lv_has ls 4 [(0, .ref (f 0)), (1, .int y), (2, .int z)] := hl
  have htab := vx_table (x := yL_team) B (hts (.codeWith yL_team cL_team 4 (some .int) [(0, 6, 7, 34), (0, 6, 11, 15)]) (by decide +kernel))
  refine lv_aload_n hx hb dL_team_0 rfl (lv_at hl 0 rfl) ?_
  refine lv_iload_n hx hb dL_team_1 rfl (lv_at hl 1 rfl) ?_
  refine lv_iload_n hx hb dL_team_2 rfl (lv_at hl 2 rfl) ?_
  refine fz_xretI (P := ([] : va_W)) (S := []) (Wc := ((FW f a t h x) ++ (CW cy a V))) (Wc' := ((FW f a t h x) ++ (CW cy a V))) (WX := ((FW f a t h x) ++ (CW cy a V))) (vx_runV (As := [.int y, .int z]) (rest := []) ⟨hx, hb, hml, hown, hts⟩ (c_X8_team l hst D cy f t h x a V nt nc nq nl wk wf y z) (cwV 2 hts gL_team_X8_team rfl rfl rfl (by decide +kernel) ⟨Nat.le_of_ble_eq_true rfl, Nat.le_of_ble_eq_true rfl⟩) (fz_preMV (ci := 6) (q0 := 0) hK (fz_seg (fz_nilP (P := ([] : va_W)) hP)) (fz_segD (fz_nilD (P := ([] : va_W)) hD)) rfl rfl rfl fz_Ev_bl (fun U hU hW => hE.1.up hU hS hW (fun q h9 => fz_inD (fz_segD (fz_nilD (P := ([] : va_W)) hD)) h9))) rfl rfl hl.1 rfl (lv_room (Nat.le_of_ble_eq_true rfl)) dL_team_3 ⟨Nat.le_of_ble_eq_true rfl, Nat.le_of_ble_eq_true rfl⟩) (fz_nilP (P := ([] : va_W)) hP) (fz_nilD (P := ([] : va_W)) hD) hS rfl rfl (fun c_9 H locs q9 ce hP hD hS h7 h8 h9 => ?_) (fun c_9 H locs hP hD hS => ?_)
  · skip
    rw [hen] at h9
    refine vx_catch (name := xIA) hown [⟨0, 6, 7, 34⟩] ⟨0, 6, 11, 15⟩ [] (by rw [htab]; rfl) (fun z hz => by rcases List.mem_cons.mp hz with rfl | hz; exact Or.inr ⟨by decide, xIO, hts (.classLink RL 34 xIO) (by decide +kernel), hE.2.2.1⟩; exact nomatch hz) (by decide) (by decide) (hts (.classLink RL 15 xIA) (by decide +kernel)) (va_Nw.use rfl (hE.1.1.2.2.1 (.castable xIA xIA) (by decide +kernel))) h7 h8 h9 ?_
    have hP := fz_nilP' (P := ([] : va_W)) hP
    refine lv_astore_n (lv' := [(3, .ref q9), (0, .ref (f 0)), (1, .int y), (2, .int z)]) hx hb dL_team_11 rfl hl (by decide) rfl (fun ls hl => ?_)
    refine lv_bipush (v := (-12)) hx hb dL_team_12 (by decide) ?_
    refine fz_wd (k := 2) (n := 12) (Nat.le_of_ble_eq_true rfl) (Nat.le_of_ble_eq_true rfl) ?_
    refine vx_ret ?_
    subst hAe
    exact W.iret (v := (-12)) hx hb hr (fun t9 ht9 hW9 => ⟨⟨_, (), rfl, ⟨rfl, rfl⟩, fz_to ht9 hP⟩, hS.F ht9⟩) hS.2.2 dL_team_14
  · skip
    exact absurd (hok.symm.trans c_9) (by decide)
set_option maxHeartbeats 4000000 in
set_option maxRecDepth 100000 in
/-- the law calls change -/
theorem c_L_change_t (l : Launch) (hst : l.stackTraces = false) (D : va_G) (cy : Nat → ClassId) (f t h x : Nat → Nat) (a : Nat → Nat) (V : Nat → Nat → Int32) (nt nc nq nl wk : Nat) (wf : fz_wf V nt nc nq nl wk) (y z : Int32) (hok : (fz_ix y (V 8 0) && fz_vo z 7) = true) : fz_XI l yL_change wsL_change 8 126 2 12 D cy [.ref (f 0), .int y, .int z] ((FW f a t h x) ++ (CW cy a V)) (fz_Ew (fz_in ((FW f a t h x) ++ (CW cy a V)))) (V (9 + z.toNatClampNeg) y.toNatClampNeg) ((FW f a t h x) ++ (CW cy a V)) true xIS ((FW f a t h x) ++ (CW cy a V)) := by
  refine vx_ofWH (cc := cL_change) (maxL := 4) (ret := (some .int)) (hh := [(0, 6, 7, 34), (0, 6, 11, 15)]) (by decide) rfl ?_
  intro p e s m args below meth c s₁ B hml hv
  obtain ⟨rfl, hP, hK, hD0, hE⟩ := hv
  have hx := B.exec
  have hb := B.bytes
  have hr := B.returns
  have hts := atoms_spec (ws := wsL_change) B.pre
  have hown : s.vm.findClass RL = some m.cls := findClass_of_methodNamed B.named
  have hlocks := B.notSynchronized
  have hD := fz_self hD0
  obtain ⟨A, hAe⟩ : ∃ A : Nat → Prop, A = fz_in ((FW f a t h x) ++ (CW cy a V)) := ⟨_, rfl⟩
  rw [← hAe] at hD
  have hE : fz_Ew A s := by rw [hAe]; exact hE
  have hS : va_S A s.heap s.heap [] := va_S.rf
  have hl := lv_entry ([.ref (f 0), .int y, .int z]) (n := 4) (Nat.le_of_ble_eq_true rfl)
  rw [lg_entry_eq]
  generalize (lg_sl ([.ref (f 0), .int y, .int z]) ++ List.replicate (4 - (lg_sl ([.ref (f 0), .int y, .int z])).length) Slot.unset).toArray = ls at hl ⊢
  have hl : lv_has ls 4 [(0, .ref (f 0)), (1, .int y), (2, .int z)] := hl
  have htab := vx_table (x := yL_change) B (hts (.codeWith yL_change cL_change 4 (some .int) [(0, 6, 7, 34), (0, 6, 11, 15)]) (by decide +kernel))
  refine lv_aload_n hx hb dL_change_0 rfl (lv_at hl 0 rfl) ?_
  refine lv_iload_n hx hb dL_change_1 rfl (lv_at hl 1 rfl) ?_
  refine lv_iload_n hx hb dL_change_2 rfl (lv_at hl 2 rfl) ?_
  refine fz_xretI (P := ([] : va_W)) (S := []) (Wc := ((FW f a t h x) ++ (CW cy a V))) (Wc' := ((FW f a t h x) ++ (CW cy a V))) (WX := ((FW f a t h x) ++ (CW cy a V))) (vx_runV (As := [.int y, .int z]) (rest := []) ⟨hx, hb, hml, hown, hts⟩ (c_X8_change l hst D cy f t h x a V nt nc nq nl wk wf y z) (cwV 2 hts gL_change_X8_change rfl rfl rfl (by decide +kernel) ⟨Nat.le_of_ble_eq_true rfl, Nat.le_of_ble_eq_true rfl⟩) (fz_preMV (ci := 6) (q0 := 0) hK (fz_seg (fz_nilP (P := ([] : va_W)) hP)) (fz_segD (fz_nilD (P := ([] : va_W)) hD)) rfl rfl rfl fz_Ev_bl (fun U hU hW => hE.1.up hU hS hW (fun q h9 => fz_inD (fz_segD (fz_nilD (P := ([] : va_W)) hD)) h9))) rfl rfl hl.1 rfl (lv_room (Nat.le_of_ble_eq_true rfl)) dL_change_3 ⟨Nat.le_of_ble_eq_true rfl, Nat.le_of_ble_eq_true rfl⟩) (fz_nilP (P := ([] : va_W)) hP) (fz_nilD (P := ([] : va_W)) hD) hS rfl rfl (fun c_9 H locs q9 ce hP hD hS h7 h8 h9 => ?_) (fun c_9 H locs hP hD hS => ?_)
  · skip
    exact absurd (hok.symm.trans c_9) (by decide)
  · skip
    have hP := fz_nilP' (P := ([] : va_W)) hP
    refine fz_wd (k := 2) (n := 12) (Nat.le_of_ble_eq_true rfl) (Nat.le_of_ble_eq_true rfl) ?_
    refine vx_ret ?_
    subst hAe
    exact W.iret (v := (V (9 + z.toNatClampNeg) y.toNatClampNeg)) hx hb hr (fun t9 ht9 hW9 => ⟨⟨_, (), rfl, ⟨rfl, rfl⟩, fz_to ht9 hP⟩, hS.F ht9⟩) hS.2.2 dL_change_6
set_option maxHeartbeats 4000000 in
set_option maxRecDepth 100000 in
/-- the law calls change -/
theorem c_L_change_IO (l : Launch) (hst : l.stackTraces = false) (D : va_G) (cy : Nat → ClassId) (f t h x : Nat → Nat) (a : Nat → Nat) (V : Nat → Nat → Int32) (nt nc nq nl wk : Nat) (wf : fz_wf V nt nc nq nl wk) (y z : Int32) (hok : (fz_ix y (V 8 0) && fz_vo z 7) = false) (hen : (bif fz_ix y (V 8 0) then xIA else xIO) = xIO) : fz_XI l yL_change wsL_change 8 126 2 12 D cy [.ref (f 0), .int y, .int z] ((FW f a t h x) ++ (CW cy a V)) (fz_Ew (fz_in ((FW f a t h x) ++ (CW cy a V)))) (-11) ((FW f a t h x) ++ (CW cy a V)) true xIS ((FW f a t h x) ++ (CW cy a V)) := by
  refine vx_ofWH (cc := cL_change) (maxL := 4) (ret := (some .int)) (hh := [(0, 6, 7, 34), (0, 6, 11, 15)]) (by decide) rfl ?_
  intro p e s m args below meth c s₁ B hml hv
  obtain ⟨rfl, hP, hK, hD0, hE⟩ := hv
  have hx := B.exec
  have hb := B.bytes
  have hr := B.returns
  have hts := atoms_spec (ws := wsL_change) B.pre
  have hown : s.vm.findClass RL = some m.cls := findClass_of_methodNamed B.named
  have hlocks := B.notSynchronized
  have hD := fz_self hD0
  obtain ⟨A, hAe⟩ : ∃ A : Nat → Prop, A = fz_in ((FW f a t h x) ++ (CW cy a V)) := ⟨_, rfl⟩
  rw [← hAe] at hD
  have hE : fz_Ew A s := by rw [hAe]; exact hE
  have hS : va_S A s.heap s.heap [] := va_S.rf
  have hl := lv_entry ([.ref (f 0), .int y, .int z]) (n := 4) (Nat.le_of_ble_eq_true rfl)
  rw [lg_entry_eq]
  generalize (lg_sl ([.ref (f 0), .int y, .int z]) ++ List.replicate (4 - (lg_sl ([.ref (f 0), .int y, .int z])).length) Slot.unset).toArray = ls at hl ⊢
  have hl : lv_has ls 4 [(0, .ref (f 0)), (1, .int y), (2, .int z)] := hl
  have htab := vx_table (x := yL_change) B (hts (.codeWith yL_change cL_change 4 (some .int) [(0, 6, 7, 34), (0, 6, 11, 15)]) (by decide +kernel))
  refine lv_aload_n hx hb dL_change_0 rfl (lv_at hl 0 rfl) ?_
  refine lv_iload_n hx hb dL_change_1 rfl (lv_at hl 1 rfl) ?_
  refine lv_iload_n hx hb dL_change_2 rfl (lv_at hl 2 rfl) ?_
  refine fz_xretI (P := ([] : va_W)) (S := []) (Wc := ((FW f a t h x) ++ (CW cy a V))) (Wc' := ((FW f a t h x) ++ (CW cy a V))) (WX := ((FW f a t h x) ++ (CW cy a V))) (vx_runV (As := [.int y, .int z]) (rest := []) ⟨hx, hb, hml, hown, hts⟩ (c_X8_change l hst D cy f t h x a V nt nc nq nl wk wf y z) (cwV 2 hts gL_change_X8_change rfl rfl rfl (by decide +kernel) ⟨Nat.le_of_ble_eq_true rfl, Nat.le_of_ble_eq_true rfl⟩) (fz_preMV (ci := 6) (q0 := 0) hK (fz_seg (fz_nilP (P := ([] : va_W)) hP)) (fz_segD (fz_nilD (P := ([] : va_W)) hD)) rfl rfl rfl fz_Ev_bl (fun U hU hW => hE.1.up hU hS hW (fun q h9 => fz_inD (fz_segD (fz_nilD (P := ([] : va_W)) hD)) h9))) rfl rfl hl.1 rfl (lv_room (Nat.le_of_ble_eq_true rfl)) dL_change_3 ⟨Nat.le_of_ble_eq_true rfl, Nat.le_of_ble_eq_true rfl⟩) (fz_nilP (P := ([] : va_W)) hP) (fz_nilD (P := ([] : va_W)) hD) hS rfl rfl (fun c_9 H locs q9 ce hP hD hS h7 h8 h9 => ?_) (fun c_9 H locs hP hD hS => ?_)
  · skip
    rw [hen] at h9
    refine vx_catch (name := xIO) hown [] ⟨0, 6, 7, 34⟩ [⟨0, 6, 11, 15⟩] (by rw [htab]; rfl) (fun z hz => nomatch hz) (by decide) (by decide) (hts (.classLink RL 34 xIO) (by decide +kernel)) (va_Nw.use rfl (hE.1.1.2.2.1 (.castable xIO xIO) (by decide +kernel))) h7 h8 h9 ?_
    have hP := fz_nilP' (P := ([] : va_W)) hP
    refine lv_astore_n (lv' := [(3, .ref q9), (0, .ref (f 0)), (1, .int y), (2, .int z)]) hx hb dL_change_7 rfl hl (by decide) rfl (fun ls hl => ?_)
    refine lv_bipush (v := (-11)) hx hb dL_change_8 (by decide) ?_
    refine fz_wd (k := 2) (n := 12) (Nat.le_of_ble_eq_true rfl) (Nat.le_of_ble_eq_true rfl) ?_
    refine vx_ret ?_
    subst hAe
    exact W.iret (v := (-11)) hx hb hr (fun t9 ht9 hW9 => ⟨⟨_, (), rfl, ⟨rfl, rfl⟩, fz_to ht9 hP⟩, hS.F ht9⟩) hS.2.2 dL_change_10
  · skip
    exact absurd (hok.symm.trans c_9) (by decide)
set_option maxHeartbeats 4000000 in
set_option maxRecDepth 100000 in
/-- the law calls change -/
theorem c_L_change_IA (l : Launch) (hst : l.stackTraces = false) (D : va_G) (cy : Nat → ClassId) (f t h x : Nat → Nat) (a : Nat → Nat) (V : Nat → Nat → Int32) (nt nc nq nl wk : Nat) (wf : fz_wf V nt nc nq nl wk) (y z : Int32) (hok : (fz_ix y (V 8 0) && fz_vo z 7) = false) (hen : (bif fz_ix y (V 8 0) then xIA else xIO) = xIA) : fz_XI l yL_change wsL_change 8 126 2 12 D cy [.ref (f 0), .int y, .int z] ((FW f a t h x) ++ (CW cy a V)) (fz_Ew (fz_in ((FW f a t h x) ++ (CW cy a V)))) (-12) ((FW f a t h x) ++ (CW cy a V)) true xIS ((FW f a t h x) ++ (CW cy a V)) := by
  refine vx_ofWH (cc := cL_change) (maxL := 4) (ret := (some .int)) (hh := [(0, 6, 7, 34), (0, 6, 11, 15)]) (by decide) rfl ?_
  intro p e s m args below meth c s₁ B hml hv
  obtain ⟨rfl, hP, hK, hD0, hE⟩ := hv
  have hx := B.exec
  have hb := B.bytes
  have hr := B.returns
  have hts := atoms_spec (ws := wsL_change) B.pre
  have hown : s.vm.findClass RL = some m.cls := findClass_of_methodNamed B.named
  have hlocks := B.notSynchronized
  have hD := fz_self hD0
  obtain ⟨A, hAe⟩ : ∃ A : Nat → Prop, A = fz_in ((FW f a t h x) ++ (CW cy a V)) := ⟨_, rfl⟩
  rw [← hAe] at hD
  have hE : fz_Ew A s := by rw [hAe]; exact hE
  have hS : va_S A s.heap s.heap [] := va_S.rf
  have hl := lv_entry ([.ref (f 0), .int y, .int z]) (n := 4) (Nat.le_of_ble_eq_true rfl)
  rw [lg_entry_eq]
  generalize (lg_sl ([.ref (f 0), .int y, .int z]) ++ List.replicate (4 - (lg_sl ([.ref (f 0), .int y, .int z])).length) Slot.unset).toArray = ls at hl ⊢
  have hl : lv_has ls 4 [(0, .ref (f 0)), (1, .int y), (2, .int z)] := hl
  have htab := vx_table (x := yL_change) B (hts (.codeWith yL_change cL_change 4 (some .int) [(0, 6, 7, 34), (0, 6, 11, 15)]) (by decide +kernel))
  refine lv_aload_n hx hb dL_change_0 rfl (lv_at hl 0 rfl) ?_
  refine lv_iload_n hx hb dL_change_1 rfl (lv_at hl 1 rfl) ?_
  refine lv_iload_n hx hb dL_change_2 rfl (lv_at hl 2 rfl) ?_
  refine fz_xretI (P := ([] : va_W)) (S := []) (Wc := ((FW f a t h x) ++ (CW cy a V))) (Wc' := ((FW f a t h x) ++ (CW cy a V))) (WX := ((FW f a t h x) ++ (CW cy a V))) (vx_runV (As := [.int y, .int z]) (rest := []) ⟨hx, hb, hml, hown, hts⟩ (c_X8_change l hst D cy f t h x a V nt nc nq nl wk wf y z) (cwV 2 hts gL_change_X8_change rfl rfl rfl (by decide +kernel) ⟨Nat.le_of_ble_eq_true rfl, Nat.le_of_ble_eq_true rfl⟩) (fz_preMV (ci := 6) (q0 := 0) hK (fz_seg (fz_nilP (P := ([] : va_W)) hP)) (fz_segD (fz_nilD (P := ([] : va_W)) hD)) rfl rfl rfl fz_Ev_bl (fun U hU hW => hE.1.up hU hS hW (fun q h9 => fz_inD (fz_segD (fz_nilD (P := ([] : va_W)) hD)) h9))) rfl rfl hl.1 rfl (lv_room (Nat.le_of_ble_eq_true rfl)) dL_change_3 ⟨Nat.le_of_ble_eq_true rfl, Nat.le_of_ble_eq_true rfl⟩) (fz_nilP (P := ([] : va_W)) hP) (fz_nilD (P := ([] : va_W)) hD) hS rfl rfl (fun c_9 H locs q9 ce hP hD hS h7 h8 h9 => ?_) (fun c_9 H locs hP hD hS => ?_)
  · skip
    rw [hen] at h9
    refine vx_catch (name := xIA) hown [⟨0, 6, 7, 34⟩] ⟨0, 6, 11, 15⟩ [] (by rw [htab]; rfl) (fun z hz => by rcases List.mem_cons.mp hz with rfl | hz; exact Or.inr ⟨by decide, xIO, hts (.classLink RL 34 xIO) (by decide +kernel), hE.2.2.1⟩; exact nomatch hz) (by decide) (by decide) (hts (.classLink RL 15 xIA) (by decide +kernel)) (va_Nw.use rfl (hE.1.1.2.2.1 (.castable xIA xIA) (by decide +kernel))) h7 h8 h9 ?_
    have hP := fz_nilP' (P := ([] : va_W)) hP
    refine lv_astore_n (lv' := [(3, .ref q9), (0, .ref (f 0)), (1, .int y), (2, .int z)]) hx hb dL_change_11 rfl hl (by decide) rfl (fun ls hl => ?_)
    refine lv_bipush (v := (-12)) hx hb dL_change_12 (by decide) ?_
    refine fz_wd (k := 2) (n := 12) (Nat.le_of_ble_eq_true rfl) (Nat.le_of_ble_eq_true rfl) ?_
    refine vx_ret ?_
    subst hAe
    exact W.iret (v := (-12)) hx hb hr (fun t9 ht9 hW9 => ⟨⟨_, (), rfl, ⟨rfl, rfl⟩, fz_to ht9 hP⟩, hS.F ht9⟩) hS.2.2 dL_change_14
  · skip
    exact absurd (hok.symm.trans c_9) (by decide)
set_option maxHeartbeats 4000000 in
set_option maxRecDepth 100000 in
/-- the law calls loan -/
theorem c_L_loan_t (l : Launch) (hst : l.stackTraces = false) (D : va_G) (cy : Nat → ClassId) (f t h x : Nat → Nat) (a : Nat → Nat) (V : Nat → Nat → Int32) (nt nc nq nl wk : Nat) (wf : fz_wf V nt nc nq nl wk) (y z : Int32) (hok : (fz_ix y (V 17 0) && fz_vo z 6) = true) : fz_XI l yL_loan wsL_loan 8 126 1 6 D cy [.ref (f 0), .int y, .int z] ((FW f a t h x) ++ (CW cy a V)) (fz_Ew (fz_in ((FW f a t h x) ++ (CW cy a V)))) (V (18 + z.toNatClampNeg) y.toNatClampNeg) ((FW f a t h x) ++ (CW cy a V)) true xIS ((FW f a t h x) ++ (CW cy a V)) := by
  refine vx_ofWH (cc := cL_loan) (maxL := 4) (ret := (some .int)) (hh := [(0, 6, 7, 34), (0, 6, 11, 15)]) (by decide) rfl ?_
  intro p e s m args below meth c s₁ B hml hv
  obtain ⟨rfl, hP, hK, hD0, hE⟩ := hv
  have hx := B.exec
  have hb := B.bytes
  have hr := B.returns
  have hts := atoms_spec (ws := wsL_loan) B.pre
  have hown : s.vm.findClass RL = some m.cls := findClass_of_methodNamed B.named
  have hlocks := B.notSynchronized
  have hD := fz_self hD0
  obtain ⟨A, hAe⟩ : ∃ A : Nat → Prop, A = fz_in ((FW f a t h x) ++ (CW cy a V)) := ⟨_, rfl⟩
  rw [← hAe] at hD
  have hE : fz_Ew A s := by rw [hAe]; exact hE
  have hS : va_S A s.heap s.heap [] := va_S.rf
  have hl := lv_entry ([.ref (f 0), .int y, .int z]) (n := 4) (Nat.le_of_ble_eq_true rfl)
  rw [lg_entry_eq]
  generalize (lg_sl ([.ref (f 0), .int y, .int z]) ++ List.replicate (4 - (lg_sl ([.ref (f 0), .int y, .int z])).length) Slot.unset).toArray = ls at hl ⊢
  have hl : lv_has ls 4 [(0, .ref (f 0)), (1, .int y), (2, .int z)] := hl
  have htab := vx_table (x := yL_loan) B (hts (.codeWith yL_loan cL_loan 4 (some .int) [(0, 6, 7, 34), (0, 6, 11, 15)]) (by decide +kernel))
  refine lv_aload_n hx hb dL_loan_0 rfl (lv_at hl 0 rfl) ?_
  refine lv_iload_n hx hb dL_loan_1 rfl (lv_at hl 1 rfl) ?_
  refine lv_iload_n hx hb dL_loan_2 rfl (lv_at hl 2 rfl) ?_
  refine fz_xretI (P := ([] : va_W)) (S := []) (Wc := ((FW f a t h x) ++ (CW cy a V))) (Wc' := ((FW f a t h x) ++ (CW cy a V))) (WX := ((FW f a t h x) ++ (CW cy a V))) (vx_runV (As := [.int y, .int z]) (rest := []) ⟨hx, hb, hml, hown, hts⟩ (c_X8_loan l hst D cy f t h x a V nt nc nq nl wk wf y z) (cwV 2 hts gL_loan_X8_loan rfl rfl rfl (by decide +kernel) ⟨Nat.le_of_ble_eq_true rfl, Nat.le_of_ble_eq_true rfl⟩) (fz_preMV (ci := 6) (q0 := 0) hK (fz_seg (fz_nilP (P := ([] : va_W)) hP)) (fz_segD (fz_nilD (P := ([] : va_W)) hD)) rfl rfl rfl fz_Ev_bl (fun U hU hW => hE.1.up hU hS hW (fun q h9 => fz_inD (fz_segD (fz_nilD (P := ([] : va_W)) hD)) h9))) rfl rfl hl.1 rfl (lv_room (Nat.le_of_ble_eq_true rfl)) dL_loan_3 ⟨Nat.le_of_ble_eq_true rfl, Nat.le_of_ble_eq_true rfl⟩) (fz_nilP (P := ([] : va_W)) hP) (fz_nilD (P := ([] : va_W)) hD) hS rfl rfl (fun c_9 H locs q9 ce hP hD hS h7 h8 h9 => ?_) (fun c_9 H locs hP hD hS => ?_)
  · skip
    exact absurd (hok.symm.trans c_9) (by decide)
  · skip
    have hP := fz_nilP' (P := ([] : va_W)) hP
    refine fz_wd (k := 1) (n := 6) (Nat.le_of_ble_eq_true rfl) (Nat.le_of_ble_eq_true rfl) ?_
    refine vx_ret ?_
    subst hAe
    exact W.iret (v := (V (18 + z.toNatClampNeg) y.toNatClampNeg)) hx hb hr (fun t9 ht9 hW9 => ⟨⟨_, (), rfl, ⟨rfl, rfl⟩, fz_to ht9 hP⟩, hS.F ht9⟩) hS.2.2 dL_loan_6
set_option maxHeartbeats 4000000 in
set_option maxRecDepth 100000 in
/-- the law calls loan -/
theorem c_L_loan_IO (l : Launch) (hst : l.stackTraces = false) (D : va_G) (cy : Nat → ClassId) (f t h x : Nat → Nat) (a : Nat → Nat) (V : Nat → Nat → Int32) (nt nc nq nl wk : Nat) (wf : fz_wf V nt nc nq nl wk) (y z : Int32) (hok : (fz_ix y (V 17 0) && fz_vo z 6) = false) (hen : (bif fz_ix y (V 17 0) then xIA else xIO) = xIO) : fz_XI l yL_loan wsL_loan 8 126 1 6 D cy [.ref (f 0), .int y, .int z] ((FW f a t h x) ++ (CW cy a V)) (fz_Ew (fz_in ((FW f a t h x) ++ (CW cy a V)))) (-11) ((FW f a t h x) ++ (CW cy a V)) true xIS ((FW f a t h x) ++ (CW cy a V)) := by
  refine vx_ofWH (cc := cL_loan) (maxL := 4) (ret := (some .int)) (hh := [(0, 6, 7, 34), (0, 6, 11, 15)]) (by decide) rfl ?_
  intro p e s m args below meth c s₁ B hml hv
  obtain ⟨rfl, hP, hK, hD0, hE⟩ := hv
  have hx := B.exec
  have hb := B.bytes
  have hr := B.returns
  have hts := atoms_spec (ws := wsL_loan) B.pre
  have hown : s.vm.findClass RL = some m.cls := findClass_of_methodNamed B.named
  have hlocks := B.notSynchronized
  have hD := fz_self hD0
  obtain ⟨A, hAe⟩ : ∃ A : Nat → Prop, A = fz_in ((FW f a t h x) ++ (CW cy a V)) := ⟨_, rfl⟩
  rw [← hAe] at hD
  have hE : fz_Ew A s := by rw [hAe]; exact hE
  have hS : va_S A s.heap s.heap [] := va_S.rf
  have hl := lv_entry ([.ref (f 0), .int y, .int z]) (n := 4) (Nat.le_of_ble_eq_true rfl)
  rw [lg_entry_eq]
  generalize (lg_sl ([.ref (f 0), .int y, .int z]) ++ List.replicate (4 - (lg_sl ([.ref (f 0), .int y, .int z])).length) Slot.unset).toArray = ls at hl ⊢
  have hl : lv_has ls 4 [(0, .ref (f 0)), (1, .int y), (2, .int z)] := hl
  have htab := vx_table (x := yL_loan) B (hts (.codeWith yL_loan cL_loan 4 (some .int) [(0, 6, 7, 34), (0, 6, 11, 15)]) (by decide +kernel))
  refine lv_aload_n hx hb dL_loan_0 rfl (lv_at hl 0 rfl) ?_
  refine lv_iload_n hx hb dL_loan_1 rfl (lv_at hl 1 rfl) ?_
  refine lv_iload_n hx hb dL_loan_2 rfl (lv_at hl 2 rfl) ?_
  refine fz_xretI (P := ([] : va_W)) (S := []) (Wc := ((FW f a t h x) ++ (CW cy a V))) (Wc' := ((FW f a t h x) ++ (CW cy a V))) (WX := ((FW f a t h x) ++ (CW cy a V))) (vx_runV (As := [.int y, .int z]) (rest := []) ⟨hx, hb, hml, hown, hts⟩ (c_X8_loan l hst D cy f t h x a V nt nc nq nl wk wf y z) (cwV 2 hts gL_loan_X8_loan rfl rfl rfl (by decide +kernel) ⟨Nat.le_of_ble_eq_true rfl, Nat.le_of_ble_eq_true rfl⟩) (fz_preMV (ci := 6) (q0 := 0) hK (fz_seg (fz_nilP (P := ([] : va_W)) hP)) (fz_segD (fz_nilD (P := ([] : va_W)) hD)) rfl rfl rfl fz_Ev_bl (fun U hU hW => hE.1.up hU hS hW (fun q h9 => fz_inD (fz_segD (fz_nilD (P := ([] : va_W)) hD)) h9))) rfl rfl hl.1 rfl (lv_room (Nat.le_of_ble_eq_true rfl)) dL_loan_3 ⟨Nat.le_of_ble_eq_true rfl, Nat.le_of_ble_eq_true rfl⟩) (fz_nilP (P := ([] : va_W)) hP) (fz_nilD (P := ([] : va_W)) hD) hS rfl rfl (fun c_9 H locs q9 ce hP hD hS h7 h8 h9 => ?_) (fun c_9 H locs hP hD hS => ?_)
  · skip
    rw [hen] at h9
    refine vx_catch (name := xIO) hown [] ⟨0, 6, 7, 34⟩ [⟨0, 6, 11, 15⟩] (by rw [htab]; rfl) (fun z hz => nomatch hz) (by decide) (by decide) (hts (.classLink RL 34 xIO) (by decide +kernel)) (va_Nw.use rfl (hE.1.1.2.2.1 (.castable xIO xIO) (by decide +kernel))) h7 h8 h9 ?_
    have hP := fz_nilP' (P := ([] : va_W)) hP
    refine lv_astore_n (lv' := [(3, .ref q9), (0, .ref (f 0)), (1, .int y), (2, .int z)]) hx hb dL_loan_7 rfl hl (by decide) rfl (fun ls hl => ?_)
    refine lv_bipush (v := (-11)) hx hb dL_loan_8 (by decide) ?_
    refine fz_wd (k := 1) (n := 6) (Nat.le_of_ble_eq_true rfl) (Nat.le_of_ble_eq_true rfl) ?_
    refine vx_ret ?_
    subst hAe
    exact W.iret (v := (-11)) hx hb hr (fun t9 ht9 hW9 => ⟨⟨_, (), rfl, ⟨rfl, rfl⟩, fz_to ht9 hP⟩, hS.F ht9⟩) hS.2.2 dL_loan_10
  · skip
    exact absurd (hok.symm.trans c_9) (by decide)
set_option maxHeartbeats 4000000 in
set_option maxRecDepth 100000 in
/-- the law calls loan -/
theorem c_L_loan_IA (l : Launch) (hst : l.stackTraces = false) (D : va_G) (cy : Nat → ClassId) (f t h x : Nat → Nat) (a : Nat → Nat) (V : Nat → Nat → Int32) (nt nc nq nl wk : Nat) (wf : fz_wf V nt nc nq nl wk) (y z : Int32) (hok : (fz_ix y (V 17 0) && fz_vo z 6) = false) (hen : (bif fz_ix y (V 17 0) then xIA else xIO) = xIA) : fz_XI l yL_loan wsL_loan 8 126 1 6 D cy [.ref (f 0), .int y, .int z] ((FW f a t h x) ++ (CW cy a V)) (fz_Ew (fz_in ((FW f a t h x) ++ (CW cy a V)))) (-12) ((FW f a t h x) ++ (CW cy a V)) true xIS ((FW f a t h x) ++ (CW cy a V)) := by
  refine vx_ofWH (cc := cL_loan) (maxL := 4) (ret := (some .int)) (hh := [(0, 6, 7, 34), (0, 6, 11, 15)]) (by decide) rfl ?_
  intro p e s m args below meth c s₁ B hml hv
  obtain ⟨rfl, hP, hK, hD0, hE⟩ := hv
  have hx := B.exec
  have hb := B.bytes
  have hr := B.returns
  have hts := atoms_spec (ws := wsL_loan) B.pre
  have hown : s.vm.findClass RL = some m.cls := findClass_of_methodNamed B.named
  have hlocks := B.notSynchronized
  have hD := fz_self hD0
  obtain ⟨A, hAe⟩ : ∃ A : Nat → Prop, A = fz_in ((FW f a t h x) ++ (CW cy a V)) := ⟨_, rfl⟩
  rw [← hAe] at hD
  have hE : fz_Ew A s := by rw [hAe]; exact hE
  have hS : va_S A s.heap s.heap [] := va_S.rf
  have hl := lv_entry ([.ref (f 0), .int y, .int z]) (n := 4) (Nat.le_of_ble_eq_true rfl)
  rw [lg_entry_eq]
  generalize (lg_sl ([.ref (f 0), .int y, .int z]) ++ List.replicate (4 - (lg_sl ([.ref (f 0), .int y, .int z])).length) Slot.unset).toArray = ls at hl ⊢
  have hl : lv_has ls 4 [(0, .ref (f 0)), (1, .int y), (2, .int z)] := hl
  have htab := vx_table (x := yL_loan) B (hts (.codeWith yL_loan cL_loan 4 (some .int) [(0, 6, 7, 34), (0, 6, 11, 15)]) (by decide +kernel))
  refine lv_aload_n hx hb dL_loan_0 rfl (lv_at hl 0 rfl) ?_
  refine lv_iload_n hx hb dL_loan_1 rfl (lv_at hl 1 rfl) ?_
  refine lv_iload_n hx hb dL_loan_2 rfl (lv_at hl 2 rfl) ?_
  refine fz_xretI (P := ([] : va_W)) (S := []) (Wc := ((FW f a t h x) ++ (CW cy a V))) (Wc' := ((FW f a t h x) ++ (CW cy a V))) (WX := ((FW f a t h x) ++ (CW cy a V))) (vx_runV (As := [.int y, .int z]) (rest := []) ⟨hx, hb, hml, hown, hts⟩ (c_X8_loan l hst D cy f t h x a V nt nc nq nl wk wf y z) (cwV 2 hts gL_loan_X8_loan rfl rfl rfl (by decide +kernel) ⟨Nat.le_of_ble_eq_true rfl, Nat.le_of_ble_eq_true rfl⟩) (fz_preMV (ci := 6) (q0 := 0) hK (fz_seg (fz_nilP (P := ([] : va_W)) hP)) (fz_segD (fz_nilD (P := ([] : va_W)) hD)) rfl rfl rfl fz_Ev_bl (fun U hU hW => hE.1.up hU hS hW (fun q h9 => fz_inD (fz_segD (fz_nilD (P := ([] : va_W)) hD)) h9))) rfl rfl hl.1 rfl (lv_room (Nat.le_of_ble_eq_true rfl)) dL_loan_3 ⟨Nat.le_of_ble_eq_true rfl, Nat.le_of_ble_eq_true rfl⟩) (fz_nilP (P := ([] : va_W)) hP) (fz_nilD (P := ([] : va_W)) hD) hS rfl rfl (fun c_9 H locs q9 ce hP hD hS h7 h8 h9 => ?_) (fun c_9 H locs hP hD hS => ?_)
  · skip
    rw [hen] at h9
    refine vx_catch (name := xIA) hown [⟨0, 6, 7, 34⟩] ⟨0, 6, 11, 15⟩ [] (by rw [htab]; rfl) (fun z hz => by rcases List.mem_cons.mp hz with rfl | hz; exact Or.inr ⟨by decide, xIO, hts (.classLink RL 34 xIO) (by decide +kernel), hE.2.2.1⟩; exact nomatch hz) (by decide) (by decide) (hts (.classLink RL 15 xIA) (by decide +kernel)) (va_Nw.use rfl (hE.1.1.2.2.1 (.castable xIA xIA) (by decide +kernel))) h7 h8 h9 ?_
    have hP := fz_nilP' (P := ([] : va_W)) hP
    refine lv_astore_n (lv' := [(3, .ref q9), (0, .ref (f 0)), (1, .int y), (2, .int z)]) hx hb dL_loan_11 rfl hl (by decide) rfl (fun ls hl => ?_)
    refine lv_bipush (v := (-12)) hx hb dL_loan_12 (by decide) ?_
    refine fz_wd (k := 1) (n := 6) (Nat.le_of_ble_eq_true rfl) (Nat.le_of_ble_eq_true rfl) ?_
    refine vx_ret ?_
    subst hAe
    exact W.iret (v := (-12)) hx hb hr (fun t9 ht9 hW9 => ⟨⟨_, (), rfl, ⟨rfl, rfl⟩, fz_to ht9 hP⟩, hS.F ht9⟩) hS.2.2 dL_loan_14
  · skip
    exact absurd (hok.symm.trans c_9) (by decide)
set_option maxHeartbeats 4000000 in
set_option maxRecDepth 100000 in
/-- the law calls waiting -/
theorem c_L_waiting_t (l : Launch) (hst : l.stackTraces = false) (D : va_G) (cy : Nat → ClassId) (f t h x : Nat → Nat) (a : Nat → Nat) (V : Nat → Nat → Int32) (nt nc nq nl wk : Nat) (wf : fz_wf V nt nc nq nl wk) (y : Int32) (hok : (!(decide (y < 0))) = true) : fz_XI l yL_waiting wsL_waiting 7 103 1 6 D cy [.ref (f 0), .int y] ((FW f a t h x) ++ (CW cy a V)) (fz_Ew (fz_in ((FW f a t h x) ++ (CW cy a V)))) (if y < V 8 1 then V 16 y.toNatClampNeg else -1) ((FW f a t h x) ++ (CW cy a V)) true xIS ((FW f a t h x) ++ (CW cy a V)) := by
  refine vx_ofWH (cc := cL_waiting) (maxL := 3) (ret := (some .int)) (hh := [(0, 5, 6, 15)]) (by decide) rfl ?_
  intro p e s m args below meth c s₁ B hml hv
  obtain ⟨rfl, hP, hK, hD0, hE⟩ := hv
  have hx := B.exec
  have hb := B.bytes
  have hr := B.returns
  have hts := atoms_spec (ws := wsL_waiting) B.pre
  have hown : s.vm.findClass RL = some m.cls := findClass_of_methodNamed B.named
  have hlocks := B.notSynchronized
  have hD := fz_self hD0
  obtain ⟨A, hAe⟩ : ∃ A : Nat → Prop, A = fz_in ((FW f a t h x) ++ (CW cy a V)) := ⟨_, rfl⟩
  rw [← hAe] at hD
  have hE : fz_Ew A s := by rw [hAe]; exact hE
  have hS : va_S A s.heap s.heap [] := va_S.rf
  have hl := lv_entry ([.ref (f 0), .int y]) (n := 3) (Nat.le_of_ble_eq_true rfl)
  rw [lg_entry_eq]
  generalize (lg_sl ([.ref (f 0), .int y]) ++ List.replicate (3 - (lg_sl ([.ref (f 0), .int y])).length) Slot.unset).toArray = ls at hl ⊢
  have hl : lv_has ls 3 [(0, .ref (f 0)), (1, .int y)] := hl
  have htab := vx_table (x := yL_waiting) B (hts (.codeWith yL_waiting cL_waiting 3 (some .int) [(0, 5, 6, 15)]) (by decide +kernel))
  refine lv_aload_n hx hb dL_waiting_0 rfl (lv_at hl 0 rfl) ?_
  refine lv_iload_n hx hb dL_waiting_1 rfl (lv_at hl 1 rfl) ?_
  refine fz_xretI (P := ([] : va_W)) (S := []) (Wc := ((FW f a t h x) ++ (CW cy a V))) (Wc' := ((FW f a t h x) ++ (CW cy a V))) (WX := ((FW f a t h x) ++ (CW cy a V))) (vx_runV (As := [.int y]) (rest := []) ⟨hx, hb, hml, hown, hts⟩ (c_X8_waiting l hst D cy f t h x a V nt nc nq nl wk wf y) (cwV 1 hts gL_waiting_X8_waiting rfl rfl rfl (by decide +kernel) ⟨Nat.le_of_ble_eq_true rfl, Nat.le_of_ble_eq_true rfl⟩) (fz_preMV (ci := 6) (q0 := 0) hK (fz_seg (fz_nilP (P := ([] : va_W)) hP)) (fz_segD (fz_nilD (P := ([] : va_W)) hD)) rfl rfl rfl fz_Ev_bl (fun U hU hW => hE.1.up hU hS hW (fun q h9 => fz_inD (fz_segD (fz_nilD (P := ([] : va_W)) hD)) h9))) rfl rfl hl.1 rfl (lv_room (Nat.le_of_ble_eq_true rfl)) dL_waiting_2 ⟨Nat.le_of_ble_eq_true rfl, Nat.le_of_ble_eq_true rfl⟩) (fz_nilP (P := ([] : va_W)) hP) (fz_nilD (P := ([] : va_W)) hD) hS rfl rfl (fun c_9 H locs q9 ce hP hD hS h7 h8 h9 => ?_) (fun c_9 H locs hP hD hS => ?_)
  · skip
    exact absurd (hok.symm.trans c_9) (by decide)
  · skip
    have hP := fz_nilP' (P := ([] : va_W)) hP
    refine fz_wd (k := 1) (n := 6) (Nat.le_of_ble_eq_true rfl) (Nat.le_of_ble_eq_true rfl) ?_
    refine vx_ret ?_
    subst hAe
    exact W.iret (v := (if y < V 8 1 then V 16 y.toNatClampNeg else -1)) hx hb hr (fun t9 ht9 hW9 => ⟨⟨_, (), rfl, ⟨rfl, rfl⟩, fz_to ht9 hP⟩, hS.F ht9⟩) hS.2.2 dL_waiting_5
set_option maxHeartbeats 4000000 in
set_option maxRecDepth 100000 in
/-- the law calls waiting -/
theorem c_L_waiting_IA (l : Launch) (hst : l.stackTraces = false) (D : va_G) (cy : Nat → ClassId) (f t h x : Nat → Nat) (a : Nat → Nat) (V : Nat → Nat → Int32) (nt nc nq nl wk : Nat) (wf : fz_wf V nt nc nq nl wk) (y : Int32) (hok : (!(decide (y < 0))) = false) (hen : xIA = xIA) : fz_XI l yL_waiting wsL_waiting 7 103 1 6 D cy [.ref (f 0), .int y] ((FW f a t h x) ++ (CW cy a V)) (fz_Ew (fz_in ((FW f a t h x) ++ (CW cy a V)))) (-11) ((FW f a t h x) ++ (CW cy a V)) true xIS ((FW f a t h x) ++ (CW cy a V)) := by
  refine vx_ofWH (cc := cL_waiting) (maxL := 3) (ret := (some .int)) (hh := [(0, 5, 6, 15)]) (by decide) rfl ?_
  intro p e s m args below meth c s₁ B hml hv
  obtain ⟨rfl, hP, hK, hD0, hE⟩ := hv
  have hx := B.exec
  have hb := B.bytes
  have hr := B.returns
  have hts := atoms_spec (ws := wsL_waiting) B.pre
  have hown : s.vm.findClass RL = some m.cls := findClass_of_methodNamed B.named
  have hlocks := B.notSynchronized
  have hD := fz_self hD0
  obtain ⟨A, hAe⟩ : ∃ A : Nat → Prop, A = fz_in ((FW f a t h x) ++ (CW cy a V)) := ⟨_, rfl⟩
  rw [← hAe] at hD
  have hE : fz_Ew A s := by rw [hAe]; exact hE
  have hS : va_S A s.heap s.heap [] := va_S.rf
  have hl := lv_entry ([.ref (f 0), .int y]) (n := 3) (Nat.le_of_ble_eq_true rfl)
  rw [lg_entry_eq]
  generalize (lg_sl ([.ref (f 0), .int y]) ++ List.replicate (3 - (lg_sl ([.ref (f 0), .int y])).length) Slot.unset).toArray = ls at hl ⊢
  have hl : lv_has ls 3 [(0, .ref (f 0)), (1, .int y)] := hl
  have htab := vx_table (x := yL_waiting) B (hts (.codeWith yL_waiting cL_waiting 3 (some .int) [(0, 5, 6, 15)]) (by decide +kernel))
  refine lv_aload_n hx hb dL_waiting_0 rfl (lv_at hl 0 rfl) ?_
  refine lv_iload_n hx hb dL_waiting_1 rfl (lv_at hl 1 rfl) ?_
  refine fz_xretI (P := ([] : va_W)) (S := []) (Wc := ((FW f a t h x) ++ (CW cy a V))) (Wc' := ((FW f a t h x) ++ (CW cy a V))) (WX := ((FW f a t h x) ++ (CW cy a V))) (vx_runV (As := [.int y]) (rest := []) ⟨hx, hb, hml, hown, hts⟩ (c_X8_waiting l hst D cy f t h x a V nt nc nq nl wk wf y) (cwV 1 hts gL_waiting_X8_waiting rfl rfl rfl (by decide +kernel) ⟨Nat.le_of_ble_eq_true rfl, Nat.le_of_ble_eq_true rfl⟩) (fz_preMV (ci := 6) (q0 := 0) hK (fz_seg (fz_nilP (P := ([] : va_W)) hP)) (fz_segD (fz_nilD (P := ([] : va_W)) hD)) rfl rfl rfl fz_Ev_bl (fun U hU hW => hE.1.up hU hS hW (fun q h9 => fz_inD (fz_segD (fz_nilD (P := ([] : va_W)) hD)) h9))) rfl rfl hl.1 rfl (lv_room (Nat.le_of_ble_eq_true rfl)) dL_waiting_2 ⟨Nat.le_of_ble_eq_true rfl, Nat.le_of_ble_eq_true rfl⟩) (fz_nilP (P := ([] : va_W)) hP) (fz_nilD (P := ([] : va_W)) hD) hS rfl rfl (fun c_9 H locs q9 ce hP hD hS h7 h8 h9 => ?_) (fun c_9 H locs hP hD hS => ?_)
  · skip
    rw [hen] at h9
    refine vx_catch (name := xIA) hown [] ⟨0, 5, 6, 15⟩ [] (by rw [htab]; rfl) (fun z hz => nomatch hz) (by decide) (by decide) (hts (.classLink RL 15 xIA) (by decide +kernel)) (va_Nw.use rfl (hE.1.1.2.2.1 (.castable xIA xIA) (by decide +kernel))) h7 h8 h9 ?_
    have hP := fz_nilP' (P := ([] : va_W)) hP
    refine lv_astore_n (lv' := [(2, .ref q9), (0, .ref (f 0)), (1, .int y)]) hx hb dL_waiting_6 rfl hl (by decide) rfl (fun ls hl => ?_)
    refine lv_bipush (v := (-11)) hx hb dL_waiting_7 (by decide) ?_
    refine fz_wd (k := 1) (n := 6) (Nat.le_of_ble_eq_true rfl) (Nat.le_of_ble_eq_true rfl) ?_
    refine vx_ret ?_
    subst hAe
    exact W.iret (v := (-11)) hx hb hr (fun t9 ht9 hW9 => ⟨⟨_, (), rfl, ⟨rfl, rfl⟩, fz_to ht9 hP⟩, hS.F ht9⟩) hS.2.2 dL_waiting_9
  · skip
    exact absurd (hok.symm.trans c_9) (by decide)
set_option maxHeartbeats 4000000 in
set_option maxRecDepth 100000 in
/-- the law calls frozen -/
theorem c_L_frozen_t (l : Launch) (hst : l.stackTraces = false) (D : va_G) (cy : Nat → ClassId) (f t h x : Nat → Nat) (a : Nat → Nat) (V : Nat → Nat → Int32) (y : Int32) (hok : (fz_vo y 40) = true) : fz_XI l yL_frozen wsL_frozen 7 103 1 6 D cy [.ref (f 0), .int y] ((FW f a t h x) ++ (CW cy a V)) (fz_Ew (fz_in ((FW f a t h x) ++ (CW cy a V)))) (fz_nz (V 2 y.toNatClampNeg)) ((FW f a t h x) ++ (CW cy a V)) true xIS ((FW f a t h x) ++ (CW cy a V)) := by
  refine vx_ofWH (cc := cL_frozen) (maxL := 3) (ret := (some .int)) (hh := [(0, 5, 6, 15)]) (by decide) rfl ?_
  intro p e s m args below meth c s₁ B hml hv
  obtain ⟨rfl, hP, hK, hD0, hE⟩ := hv
  have hx := B.exec
  have hb := B.bytes
  have hr := B.returns
  have hts := atoms_spec (ws := wsL_frozen) B.pre
  have hown : s.vm.findClass RL = some m.cls := findClass_of_methodNamed B.named
  have hlocks := B.notSynchronized
  have hD := fz_self hD0
  obtain ⟨A, hAe⟩ : ∃ A : Nat → Prop, A = fz_in ((FW f a t h x) ++ (CW cy a V)) := ⟨_, rfl⟩
  rw [← hAe] at hD
  have hE : fz_Ew A s := by rw [hAe]; exact hE
  have hS : va_S A s.heap s.heap [] := va_S.rf
  have hl := lv_entry ([.ref (f 0), .int y]) (n := 3) (Nat.le_of_ble_eq_true rfl)
  rw [lg_entry_eq]
  generalize (lg_sl ([.ref (f 0), .int y]) ++ List.replicate (3 - (lg_sl ([.ref (f 0), .int y])).length) Slot.unset).toArray = ls at hl ⊢
  have hl : lv_has ls 3 [(0, .ref (f 0)), (1, .int y)] := hl
  have htab := vx_table (x := yL_frozen) B (hts (.codeWith yL_frozen cL_frozen 3 (some .int) [(0, 5, 6, 15)]) (by decide +kernel))
  refine lv_aload_n hx hb dL_frozen_0 rfl (lv_at hl 0 rfl) ?_
  refine lv_iload_n hx hb dL_frozen_1 rfl (lv_at hl 1 rfl) ?_
  refine fz_xretI (P := ([] : va_W)) (S := []) (Wc := ((FW f a t h x) ++ (CW cy a V))) (Wc' := ((FW f a t h x) ++ (CW cy a V))) (WX := ((FW f a t h x) ++ (CW cy a V))) (vx_runV (As := [.int y]) (rest := []) ⟨hx, hb, hml, hown, hts⟩ (c_X8_frozen l hst D cy f t h x a V y) (cwV 1 hts gL_frozen_X8_frozen rfl rfl rfl (by decide +kernel) ⟨Nat.le_of_ble_eq_true rfl, Nat.le_of_ble_eq_true rfl⟩) (fz_preMV (ci := 6) (q0 := 0) hK (fz_seg (fz_nilP (P := ([] : va_W)) hP)) (fz_segD (fz_nilD (P := ([] : va_W)) hD)) rfl rfl rfl fz_Ev_bl (fun U hU hW => hE.1.up hU hS hW (fun q h9 => fz_inD (fz_segD (fz_nilD (P := ([] : va_W)) hD)) h9))) rfl rfl hl.1 rfl (lv_room (Nat.le_of_ble_eq_true rfl)) dL_frozen_2 ⟨Nat.le_of_ble_eq_true rfl, Nat.le_of_ble_eq_true rfl⟩) (fz_nilP (P := ([] : va_W)) hP) (fz_nilD (P := ([] : va_W)) hD) hS rfl rfl (fun c_9 H locs q9 ce hP hD hS h7 h8 h9 => ?_) (fun c_9 H locs hP hD hS => ?_)
  · skip
    exact absurd (hok.symm.trans c_9) (by decide)
  · skip
    have hP := fz_nilP' (P := ([] : va_W)) hP
    refine fz_wd (k := 1) (n := 6) (Nat.le_of_ble_eq_true rfl) (Nat.le_of_ble_eq_true rfl) ?_
    refine vx_ret ?_
    subst hAe
    exact W.iret (v := (fz_nz (V 2 y.toNatClampNeg))) hx hb hr (fun t9 ht9 hW9 => ⟨⟨_, (), rfl, ⟨rfl, rfl⟩, fz_to ht9 hP⟩, hS.F ht9⟩) hS.2.2 dL_frozen_5
set_option maxHeartbeats 4000000 in
set_option maxRecDepth 100000 in
/-- the law calls frozen -/
theorem c_L_frozen_IA (l : Launch) (hst : l.stackTraces = false) (D : va_G) (cy : Nat → ClassId) (f t h x : Nat → Nat) (a : Nat → Nat) (V : Nat → Nat → Int32) (y : Int32) (hok : (fz_vo y 40) = false) (hen : xIA = xIA) : fz_XI l yL_frozen wsL_frozen 7 103 1 6 D cy [.ref (f 0), .int y] ((FW f a t h x) ++ (CW cy a V)) (fz_Ew (fz_in ((FW f a t h x) ++ (CW cy a V)))) (-11) ((FW f a t h x) ++ (CW cy a V)) true xIS ((FW f a t h x) ++ (CW cy a V)) := by
  refine vx_ofWH (cc := cL_frozen) (maxL := 3) (ret := (some .int)) (hh := [(0, 5, 6, 15)]) (by decide) rfl ?_
  intro p e s m args below meth c s₁ B hml hv
  obtain ⟨rfl, hP, hK, hD0, hE⟩ := hv
  have hx := B.exec
  have hb := B.bytes
  have hr := B.returns
  have hts := atoms_spec (ws := wsL_frozen) B.pre
  have hown : s.vm.findClass RL = some m.cls := findClass_of_methodNamed B.named
  have hlocks := B.notSynchronized
  have hD := fz_self hD0
  obtain ⟨A, hAe⟩ : ∃ A : Nat → Prop, A = fz_in ((FW f a t h x) ++ (CW cy a V)) := ⟨_, rfl⟩
  rw [← hAe] at hD
  have hE : fz_Ew A s := by rw [hAe]; exact hE
  have hS : va_S A s.heap s.heap [] := va_S.rf
  have hl := lv_entry ([.ref (f 0), .int y]) (n := 3) (Nat.le_of_ble_eq_true rfl)
  rw [lg_entry_eq]
  generalize (lg_sl ([.ref (f 0), .int y]) ++ List.replicate (3 - (lg_sl ([.ref (f 0), .int y])).length) Slot.unset).toArray = ls at hl ⊢
  have hl : lv_has ls 3 [(0, .ref (f 0)), (1, .int y)] := hl
  have htab := vx_table (x := yL_frozen) B (hts (.codeWith yL_frozen cL_frozen 3 (some .int) [(0, 5, 6, 15)]) (by decide +kernel))
  refine lv_aload_n hx hb dL_frozen_0 rfl (lv_at hl 0 rfl) ?_
  refine lv_iload_n hx hb dL_frozen_1 rfl (lv_at hl 1 rfl) ?_
  refine fz_xretI (P := ([] : va_W)) (S := []) (Wc := ((FW f a t h x) ++ (CW cy a V))) (Wc' := ((FW f a t h x) ++ (CW cy a V))) (WX := ((FW f a t h x) ++ (CW cy a V))) (vx_runV (As := [.int y]) (rest := []) ⟨hx, hb, hml, hown, hts⟩ (c_X8_frozen l hst D cy f t h x a V y) (cwV 1 hts gL_frozen_X8_frozen rfl rfl rfl (by decide +kernel) ⟨Nat.le_of_ble_eq_true rfl, Nat.le_of_ble_eq_true rfl⟩) (fz_preMV (ci := 6) (q0 := 0) hK (fz_seg (fz_nilP (P := ([] : va_W)) hP)) (fz_segD (fz_nilD (P := ([] : va_W)) hD)) rfl rfl rfl fz_Ev_bl (fun U hU hW => hE.1.up hU hS hW (fun q h9 => fz_inD (fz_segD (fz_nilD (P := ([] : va_W)) hD)) h9))) rfl rfl hl.1 rfl (lv_room (Nat.le_of_ble_eq_true rfl)) dL_frozen_2 ⟨Nat.le_of_ble_eq_true rfl, Nat.le_of_ble_eq_true rfl⟩) (fz_nilP (P := ([] : va_W)) hP) (fz_nilD (P := ([] : va_W)) hD) hS rfl rfl (fun c_9 H locs q9 ce hP hD hS h7 h8 h9 => ?_) (fun c_9 H locs hP hD hS => ?_)
  · skip
    rw [hen] at h9
    refine vx_catch (name := xIA) hown [] ⟨0, 5, 6, 15⟩ [] (by rw [htab]; rfl) (fun z hz => nomatch hz) (by decide) (by decide) (hts (.classLink RL 15 xIA) (by decide +kernel)) (va_Nw.use rfl (hE.1.1.2.2.1 (.castable xIA xIA) (by decide +kernel))) h7 h8 h9 ?_
    have hP := fz_nilP' (P := ([] : va_W)) hP
    refine lv_astore_n (lv' := [(2, .ref q9), (0, .ref (f 0)), (1, .int y)]) hx hb dL_frozen_6 rfl hl (by decide) rfl (fun ls hl => ?_)
    refine lv_bipush (v := (-11)) hx hb dL_frozen_7 (by decide) ?_
    refine fz_wd (k := 1) (n := 6) (Nat.le_of_ble_eq_true rfl) (Nat.le_of_ble_eq_true rfl) ?_
    refine vx_ret ?_
    subst hAe
    exact W.iret (v := (-11)) hx hb hr (fun t9 ht9 hW9 => ⟨⟨_, (), rfl, ⟨rfl, rfl⟩, fz_to ht9 hP⟩, hS.F ht9⟩) hS.2.2 dL_frozen_9
  · skip
    exact absurd (hok.symm.trans c_9) (by decide)
set_option maxHeartbeats 4000000 in
set_option maxRecDepth 100000 in
/-- the law calls whole -/
theorem c_L_whole_t (l : Launch) (hst : l.stackTraces = false) (D : va_G) (cy : Nat → ClassId) (f t h : Nat → Nat) (a : Nat → Nat) (V : Nat → Nat → Int32) (x : Nat → Nat) (ad : Nat → Nat) (X : Nat → Nat → Int32) (vb : Option Nat) (nt nc nq nl wk : Nat) (wf : fz_wf V nt nc nq nl wk) (y : Int32) (hok : (fz_vo y 18) = true) : fz_XI l yL_whole wsL_whole 8 129 1 6 D cy [.ref (f 0), .int y] ((FW f a t h x) ++ ((CW cy a V) ++ (XW cy ad x X vb))) (fz_Ew (fz_in ((FW f a t h x) ++ ((CW cy a V) ++ (XW cy ad x X vb))))) (if y.toNatClampNeg = 17 then X 0 0 else fz_wval V nt nc nl wk y.toNatClampNeg) ((FW f a t h x) ++ ((CW cy a V) ++ (XW cy ad x X vb))) true xIS ((FW f a t h x) ++ ((CW cy a V) ++ (XW cy ad x X vb))) := by
  refine vx_ofWH (cc := cL_whole) (maxL := 3) (ret := (some .int)) (hh := [(0, 5, 6, 15)]) (by decide) rfl ?_
  intro p e s m args below meth c s₁ B hml hv
  obtain ⟨rfl, hP, hK, hD0, hE⟩ := hv
  have hx := B.exec
  have hb := B.bytes
  have hr := B.returns
  have hts := atoms_spec (ws := wsL_whole) B.pre
  have hown : s.vm.findClass RL = some m.cls := findClass_of_methodNamed B.named
  have hlocks := B.notSynchronized
  have hD := fz_self hD0
  obtain ⟨A, hAe⟩ : ∃ A : Nat → Prop, A = fz_in ((FW f a t h x) ++ ((CW cy a V) ++ (XW cy ad x X vb))) := ⟨_, rfl⟩
  rw [← hAe] at hD
  have hE : fz_Ew A s := by rw [hAe]; exact hE
  have hS : va_S A s.heap s.heap [] := va_S.rf
  have hl := lv_entry ([.ref (f 0), .int y]) (n := 3) (Nat.le_of_ble_eq_true rfl)
  rw [lg_entry_eq]
  generalize (lg_sl ([.ref (f 0), .int y]) ++ List.replicate (3 - (lg_sl ([.ref (f 0), .int y])).length) Slot.unset).toArray = ls at hl ⊢
  have hl : lv_has ls 3 [(0, .ref (f 0)), (1, .int y)] := hl
  have htab := vx_table (x := yL_whole) B (hts (.codeWith yL_whole cL_whole 3 (some .int) [(0, 5, 6, 15)]) (by decide +kernel))
  refine lv_aload_n hx hb dL_whole_0 rfl (lv_at hl 0 rfl) ?_
  refine lv_iload_n hx hb dL_whole_1 rfl (lv_at hl 1 rfl) ?_
  refine fz_xretI (P := ([] : va_W)) (S := []) (Wc := ((FW f a t h x) ++ ((CW cy a V) ++ (XW cy ad x X vb)))) (Wc' := ((FW f a t h x) ++ ((CW cy a V) ++ (XW cy ad x X vb)))) (WX := ((FW f a t h x) ++ ((CW cy a V) ++ (XW cy ad x X vb)))) (vx_runV (As := [.int y]) (rest := []) ⟨hx, hb, hml, hown, hts⟩ (c_X8_whole l hst D cy f t h a V x ad X vb nt nc nq nl wk wf y) (cwV 1 hts gL_whole_X8_whole rfl rfl rfl (by decide +kernel) ⟨Nat.le_of_ble_eq_true rfl, Nat.le_of_ble_eq_true rfl⟩) (fz_preMV (ci := 6) (q0 := 0) hK (fz_seg (fz_nilP (P := ([] : va_W)) hP)) (fz_segD (fz_nilD (P := ([] : va_W)) hD)) rfl rfl rfl fz_Ev_bl (fun U hU hW => hE.1.up hU hS hW (fun q h9 => fz_inD (fz_segD (fz_nilD (P := ([] : va_W)) hD)) h9))) rfl rfl hl.1 rfl (lv_room (Nat.le_of_ble_eq_true rfl)) dL_whole_2 ⟨Nat.le_of_ble_eq_true rfl, Nat.le_of_ble_eq_true rfl⟩) (fz_nilP (P := ([] : va_W)) hP) (fz_nilD (P := ([] : va_W)) hD) hS rfl rfl (fun c_9 H locs q9 ce hP hD hS h7 h8 h9 => ?_) (fun c_9 H locs hP hD hS => ?_)
  · skip
    exact absurd (hok.symm.trans c_9) (by decide)
  · skip
    have hP := fz_nilP' (P := ([] : va_W)) hP
    refine fz_wd (k := 1) (n := 6) (Nat.le_of_ble_eq_true rfl) (Nat.le_of_ble_eq_true rfl) ?_
    refine vx_ret ?_
    subst hAe
    exact W.iret (v := (if y.toNatClampNeg = 17 then X 0 0 else fz_wval V nt nc nl wk y.toNatClampNeg)) hx hb hr (fun t9 ht9 hW9 => ⟨⟨_, (), rfl, ⟨rfl, rfl⟩, fz_to ht9 hP⟩, hS.F ht9⟩) hS.2.2 dL_whole_5
set_option maxHeartbeats 4000000 in
set_option maxRecDepth 100000 in
/-- the law calls whole -/
theorem c_L_whole_IA (l : Launch) (hst : l.stackTraces = false) (D : va_G) (cy : Nat → ClassId) (f t h : Nat → Nat) (a : Nat → Nat) (V : Nat → Nat → Int32) (x : Nat → Nat) (ad : Nat → Nat) (X : Nat → Nat → Int32) (vb : Option Nat) (nt nc nq nl wk : Nat) (wf : fz_wf V nt nc nq nl wk) (y : Int32) (hok : (fz_vo y 18) = false) (hen : xIA = xIA) : fz_XI l yL_whole wsL_whole 8 129 1 6 D cy [.ref (f 0), .int y] ((FW f a t h x) ++ ((CW cy a V) ++ (XW cy ad x X vb))) (fz_Ew (fz_in ((FW f a t h x) ++ ((CW cy a V) ++ (XW cy ad x X vb))))) (-11) ((FW f a t h x) ++ ((CW cy a V) ++ (XW cy ad x X vb))) true xIS ((FW f a t h x) ++ ((CW cy a V) ++ (XW cy ad x X vb))) := by
  refine vx_ofWH (cc := cL_whole) (maxL := 3) (ret := (some .int)) (hh := [(0, 5, 6, 15)]) (by decide) rfl ?_
  intro p e s m args below meth c s₁ B hml hv
  obtain ⟨rfl, hP, hK, hD0, hE⟩ := hv
  have hx := B.exec
  have hb := B.bytes
  have hr := B.returns
  have hts := atoms_spec (ws := wsL_whole) B.pre
  have hown : s.vm.findClass RL = some m.cls := findClass_of_methodNamed B.named
  have hlocks := B.notSynchronized
  have hD := fz_self hD0
  obtain ⟨A, hAe⟩ : ∃ A : Nat → Prop, A = fz_in ((FW f a t h x) ++ ((CW cy a V) ++ (XW cy ad x X vb))) := ⟨_, rfl⟩
  rw [← hAe] at hD
  have hE : fz_Ew A s := by rw [hAe]; exact hE
  have hS : va_S A s.heap s.heap [] := va_S.rf
  have hl := lv_entry ([.ref (f 0), .int y]) (n := 3) (Nat.le_of_ble_eq_true rfl)
  rw [lg_entry_eq]
  generalize (lg_sl ([.ref (f 0), .int y]) ++ List.replicate (3 - (lg_sl ([.ref (f 0), .int y])).length) Slot.unset).toArray = ls at hl ⊢
  have hl : lv_has ls 3 [(0, .ref (f 0)), (1, .int y)] := hl
  have htab := vx_table (x := yL_whole) B (hts (.codeWith yL_whole cL_whole 3 (some .int) [(0, 5, 6, 15)]) (by decide +kernel))
  refine lv_aload_n hx hb dL_whole_0 rfl (lv_at hl 0 rfl) ?_
  refine lv_iload_n hx hb dL_whole_1 rfl (lv_at hl 1 rfl) ?_
  refine fz_xretI (P := ([] : va_W)) (S := []) (Wc := ((FW f a t h x) ++ ((CW cy a V) ++ (XW cy ad x X vb)))) (Wc' := ((FW f a t h x) ++ ((CW cy a V) ++ (XW cy ad x X vb)))) (WX := ((FW f a t h x) ++ ((CW cy a V) ++ (XW cy ad x X vb)))) (vx_runV (As := [.int y]) (rest := []) ⟨hx, hb, hml, hown, hts⟩ (c_X8_whole l hst D cy f t h a V x ad X vb nt nc nq nl wk wf y) (cwV 1 hts gL_whole_X8_whole rfl rfl rfl (by decide +kernel) ⟨Nat.le_of_ble_eq_true rfl, Nat.le_of_ble_eq_true rfl⟩) (fz_preMV (ci := 6) (q0 := 0) hK (fz_seg (fz_nilP (P := ([] : va_W)) hP)) (fz_segD (fz_nilD (P := ([] : va_W)) hD)) rfl rfl rfl fz_Ev_bl (fun U hU hW => hE.1.up hU hS hW (fun q h9 => fz_inD (fz_segD (fz_nilD (P := ([] : va_W)) hD)) h9))) rfl rfl hl.1 rfl (lv_room (Nat.le_of_ble_eq_true rfl)) dL_whole_2 ⟨Nat.le_of_ble_eq_true rfl, Nat.le_of_ble_eq_true rfl⟩) (fz_nilP (P := ([] : va_W)) hP) (fz_nilD (P := ([] : va_W)) hD) hS rfl rfl (fun c_9 H locs q9 ce hP hD hS h7 h8 h9 => ?_) (fun c_9 H locs hP hD hS => ?_)
  · skip
    rw [hen] at h9
    refine vx_catch (name := xIA) hown [] ⟨0, 5, 6, 15⟩ [] (by rw [htab]; rfl) (fun z hz => nomatch hz) (by decide) (by decide) (hts (.classLink RL 15 xIA) (by decide +kernel)) (va_Nw.use rfl (hE.1.1.2.2.1 (.castable xIA xIA) (by decide +kernel))) h7 h8 h9 ?_
    have hP := fz_nilP' (P := ([] : va_W)) hP
    refine lv_astore_n (lv' := [(2, .ref q9), (0, .ref (f 0)), (1, .int y)]) hx hb dL_whole_6 rfl hl (by decide) rfl (fun ls hl => ?_)
    refine lv_bipush (v := (-11)) hx hb dL_whole_7 (by decide) ?_
    refine fz_wd (k := 1) (n := 6) (Nat.le_of_ble_eq_true rfl) (Nat.le_of_ble_eq_true rfl) ?_
    refine vx_ret ?_
    subst hAe
    exact W.iret (v := (-11)) hx hb hr (fun t9 ht9 hW9 => ⟨⟨_, (), rfl, ⟨rfl, rfl⟩, fz_to ht9 hP⟩, hS.F ht9⟩) hS.2.2 dL_whole_9
  · skip
    exact absurd (hok.symm.trans c_9) (by decide)
set_option maxHeartbeats 4000000 in
set_option maxRecDepth 100000 in
/-- the law calls reason -/
theorem c_L_reason_t (l : Launch) (hst : l.stackTraces = false) (D : va_G) (cy : Nat → ClassId) (f t h x : Nat → Nat) (a : Nat → Nat) (V : Nat → Nat → Int32) (nt nc nq nl wk : Nat) (wf : fz_wf V nt nc nq nl wk) (y : Int32) (hok : (fz_ix y (V 8 0)) = true) : fz_XI l yL_reason wsL_reason 8 124 1 6 D cy [.ref (f 0), .int y] ((FW f a t h x) ++ (CW cy a V)) (fz_Ew (fz_in ((FW f a t h x) ++ (CW cy a V)))) (fz_reason V nl y.toNatClampNeg) ((FW f a t h x) ++ (CW cy a V)) true xIS ((FW f a t h x) ++ (CW cy a V)) := by
  refine vx_ofWH (cc := cL_reason) (maxL := 3) (ret := (some .int)) (hh := [(0, 5, 6, 34)]) (by decide) rfl ?_
  intro p e s m args below meth c s₁ B hml hv
  obtain ⟨rfl, hP, hK, hD0, hE⟩ := hv
  have hx := B.exec
  have hb := B.bytes
  have hr := B.returns
  have hts := atoms_spec (ws := wsL_reason) B.pre
  have hown : s.vm.findClass RL = some m.cls := findClass_of_methodNamed B.named
  have hlocks := B.notSynchronized
  have hD := fz_self hD0
  obtain ⟨A, hAe⟩ : ∃ A : Nat → Prop, A = fz_in ((FW f a t h x) ++ (CW cy a V)) := ⟨_, rfl⟩
  rw [← hAe] at hD
  have hE : fz_Ew A s := by rw [hAe]; exact hE
  have hS : va_S A s.heap s.heap [] := va_S.rf
  have hl := lv_entry ([.ref (f 0), .int y]) (n := 3) (Nat.le_of_ble_eq_true rfl)
  rw [lg_entry_eq]
  generalize (lg_sl ([.ref (f 0), .int y]) ++ List.replicate (3 - (lg_sl ([.ref (f 0), .int y])).length) Slot.unset).toArray = ls at hl ⊢
  have hl : lv_has ls 3 [(0, .ref (f 0)), (1, .int y)] := hl
  have htab := vx_table (x := yL_reason) B (hts (.codeWith yL_reason cL_reason 3 (some .int) [(0, 5, 6, 34)]) (by decide +kernel))
  refine lv_aload_n hx hb dL_reason_0 rfl (lv_at hl 0 rfl) ?_
  refine lv_iload_n hx hb dL_reason_1 rfl (lv_at hl 1 rfl) ?_
  refine fz_xretI (P := ([] : va_W)) (S := []) (Wc := ((FW f a t h x) ++ (CW cy a V))) (Wc' := ((FW f a t h x) ++ (CW cy a V))) (WX := ((FW f a t h x) ++ (CW cy a V))) (vx_runV (As := [.int y]) (rest := []) ⟨hx, hb, hml, hown, hts⟩ (c_X8_reason l hst D cy f t h x a V nt nc nq nl wk wf y) (cwV 1 hts gL_reason_X8_reason rfl rfl rfl (by decide +kernel) ⟨Nat.le_of_ble_eq_true rfl, Nat.le_of_ble_eq_true rfl⟩) (fz_preMV (ci := 6) (q0 := 0) hK (fz_seg (fz_nilP (P := ([] : va_W)) hP)) (fz_segD (fz_nilD (P := ([] : va_W)) hD)) rfl rfl rfl fz_Ev_bl (fun U hU hW => hE.1.up hU hS hW (fun q h9 => fz_inD (fz_segD (fz_nilD (P := ([] : va_W)) hD)) h9))) rfl rfl hl.1 rfl (lv_room (Nat.le_of_ble_eq_true rfl)) dL_reason_2 ⟨Nat.le_of_ble_eq_true rfl, Nat.le_of_ble_eq_true rfl⟩) (fz_nilP (P := ([] : va_W)) hP) (fz_nilD (P := ([] : va_W)) hD) hS rfl rfl (fun c_9 H locs q9 ce hP hD hS h7 h8 h9 => ?_) (fun c_9 H locs hP hD hS => ?_)
  · skip
    exact absurd (hok.symm.trans c_9) (by decide)
  · skip
    have hP := fz_nilP' (P := ([] : va_W)) hP
    refine fz_wd (k := 1) (n := 6) (Nat.le_of_ble_eq_true rfl) (Nat.le_of_ble_eq_true rfl) ?_
    refine vx_ret ?_
    subst hAe
    exact W.iret (v := (fz_reason V nl y.toNatClampNeg)) hx hb hr (fun t9 ht9 hW9 => ⟨⟨_, (), rfl, ⟨rfl, rfl⟩, fz_to ht9 hP⟩, hS.F ht9⟩) hS.2.2 dL_reason_5
set_option maxHeartbeats 4000000 in
set_option maxRecDepth 100000 in
/-- the law calls reason -/
theorem c_L_reason_IO (l : Launch) (hst : l.stackTraces = false) (D : va_G) (cy : Nat → ClassId) (f t h x : Nat → Nat) (a : Nat → Nat) (V : Nat → Nat → Int32) (nt nc nq nl wk : Nat) (wf : fz_wf V nt nc nq nl wk) (y : Int32) (hok : (fz_ix y (V 8 0)) = false) (hen : xIO = xIO) : fz_XI l yL_reason wsL_reason 8 124 1 6 D cy [.ref (f 0), .int y] ((FW f a t h x) ++ (CW cy a V)) (fz_Ew (fz_in ((FW f a t h x) ++ (CW cy a V)))) (-11) ((FW f a t h x) ++ (CW cy a V)) true xIS ((FW f a t h x) ++ (CW cy a V)) := by
  refine vx_ofWH (cc := cL_reason) (maxL := 3) (ret := (some .int)) (hh := [(0, 5, 6, 34)]) (by decide) rfl ?_
  intro p e s m args below meth c s₁ B hml hv
  obtain ⟨rfl, hP, hK, hD0, hE⟩ := hv
  have hx := B.exec
  have hb := B.bytes
  have hr := B.returns
  have hts := atoms_spec (ws := wsL_reason) B.pre
  have hown : s.vm.findClass RL = some m.cls := findClass_of_methodNamed B.named
  have hlocks := B.notSynchronized
  have hD := fz_self hD0
  obtain ⟨A, hAe⟩ : ∃ A : Nat → Prop, A = fz_in ((FW f a t h x) ++ (CW cy a V)) := ⟨_, rfl⟩
  rw [← hAe] at hD
  have hE : fz_Ew A s := by rw [hAe]; exact hE
  have hS : va_S A s.heap s.heap [] := va_S.rf
  have hl := lv_entry ([.ref (f 0), .int y]) (n := 3) (Nat.le_of_ble_eq_true rfl)
  rw [lg_entry_eq]
  generalize (lg_sl ([.ref (f 0), .int y]) ++ List.replicate (3 - (lg_sl ([.ref (f 0), .int y])).length) Slot.unset).toArray = ls at hl ⊢
  have hl : lv_has ls 3 [(0, .ref (f 0)), (1, .int y)] := hl
  have htab := vx_table (x := yL_reason) B (hts (.codeWith yL_reason cL_reason 3 (some .int) [(0, 5, 6, 34)]) (by decide +kernel))
  refine lv_aload_n hx hb dL_reason_0 rfl (lv_at hl 0 rfl) ?_
  refine lv_iload_n hx hb dL_reason_1 rfl (lv_at hl 1 rfl) ?_
  refine fz_xretI (P := ([] : va_W)) (S := []) (Wc := ((FW f a t h x) ++ (CW cy a V))) (Wc' := ((FW f a t h x) ++ (CW cy a V))) (WX := ((FW f a t h x) ++ (CW cy a V))) (vx_runV (As := [.int y]) (rest := []) ⟨hx, hb, hml, hown, hts⟩ (c_X8_reason l hst D cy f t h x a V nt nc nq nl wk wf y) (cwV 1 hts gL_reason_X8_reason rfl rfl rfl (by decide +kernel) ⟨Nat.le_of_ble_eq_true rfl, Nat.le_of_ble_eq_true rfl⟩) (fz_preMV (ci := 6) (q0 := 0) hK (fz_seg (fz_nilP (P := ([] : va_W)) hP)) (fz_segD (fz_nilD (P := ([] : va_W)) hD)) rfl rfl rfl fz_Ev_bl (fun U hU hW => hE.1.up hU hS hW (fun q h9 => fz_inD (fz_segD (fz_nilD (P := ([] : va_W)) hD)) h9))) rfl rfl hl.1 rfl (lv_room (Nat.le_of_ble_eq_true rfl)) dL_reason_2 ⟨Nat.le_of_ble_eq_true rfl, Nat.le_of_ble_eq_true rfl⟩) (fz_nilP (P := ([] : va_W)) hP) (fz_nilD (P := ([] : va_W)) hD) hS rfl rfl (fun c_9 H locs q9 ce hP hD hS h7 h8 h9 => ?_) (fun c_9 H locs hP hD hS => ?_)
  · skip
    rw [hen] at h9
    refine vx_catch (name := xIO) hown [] ⟨0, 5, 6, 34⟩ [] (by rw [htab]; rfl) (fun z hz => nomatch hz) (by decide) (by decide) (hts (.classLink RL 34 xIO) (by decide +kernel)) (va_Nw.use rfl (hE.1.1.2.2.1 (.castable xIO xIO) (by decide +kernel))) h7 h8 h9 ?_
    have hP := fz_nilP' (P := ([] : va_W)) hP
    refine lv_astore_n (lv' := [(2, .ref q9), (0, .ref (f 0)), (1, .int y)]) hx hb dL_reason_6 rfl hl (by decide) rfl (fun ls hl => ?_)
    refine lv_bipush (v := (-11)) hx hb dL_reason_7 (by decide) ?_
    refine fz_wd (k := 1) (n := 6) (Nat.le_of_ble_eq_true rfl) (Nat.le_of_ble_eq_true rfl) ?_
    refine vx_ret ?_
    subst hAe
    exact W.iret (v := (-11)) hx hb hr (fun t9 ht9 hW9 => ⟨⟨_, (), rfl, ⟨rfl, rfl⟩, fz_to ht9 hP⟩, hS.F ht9⟩) hS.2.2 dL_reason_9
  · skip
    exact absurd (hok.symm.trans c_9) (by decide)
set_option maxHeartbeats 4000000 in
set_option maxRecDepth 100000 in
/-- the law calls exemptible -/
theorem c_L_exemptible_t (l : Launch) (hst : l.stackTraces = false) (D : va_G) (cy : Nat → ClassId) (f t h x : Nat → Nat) (a : Nat → Nat) (V : Nat → Nat → Int32) (nt nc nq nl wk : Nat) (wf : fz_wf V nt nc nq nl wk) (y : Int32) (hok : (fz_ix y (V 3 0)) = true) : fz_XI l yL_exemptible wsL_exemptible 8 124 1 6 D cy [.ref (f 0), .int y] ((FW f a t h x) ++ (CW cy a V)) (fz_Ew (fz_in ((FW f a t h x) ++ (CW cy a V)))) (fz_xc V nl nq y.toNatClampNeg) ((FW f a t h x) ++ (CW cy a V)) true xIS ((FW f a t h x) ++ (CW cy a V)) := by
  refine vx_ofWH (cc := cL_exemptible) (maxL := 3) (ret := (some .int)) (hh := [(0, 5, 6, 34)]) (by decide) rfl ?_
  intro p e s m args below meth c s₁ B hml hv
  obtain ⟨rfl, hP, hK, hD0, hE⟩ := hv
  have hx := B.exec
  have hb := B.bytes
  have hr := B.returns
  have hts := atoms_spec (ws := wsL_exemptible) B.pre
  have hown : s.vm.findClass RL = some m.cls := findClass_of_methodNamed B.named
  have hlocks := B.notSynchronized
  have hD := fz_self hD0
  obtain ⟨A, hAe⟩ : ∃ A : Nat → Prop, A = fz_in ((FW f a t h x) ++ (CW cy a V)) := ⟨_, rfl⟩
  rw [← hAe] at hD
  have hE : fz_Ew A s := by rw [hAe]; exact hE
  have hS : va_S A s.heap s.heap [] := va_S.rf
  have hl := lv_entry ([.ref (f 0), .int y]) (n := 3) (Nat.le_of_ble_eq_true rfl)
  rw [lg_entry_eq]
  generalize (lg_sl ([.ref (f 0), .int y]) ++ List.replicate (3 - (lg_sl ([.ref (f 0), .int y])).length) Slot.unset).toArray = ls at hl ⊢
  have hl : lv_has ls 3 [(0, .ref (f 0)), (1, .int y)] := hl
  have htab := vx_table (x := yL_exemptible) B (hts (.codeWith yL_exemptible cL_exemptible 3 (some .int) [(0, 5, 6, 34)]) (by decide +kernel))
  refine lv_aload_n hx hb dL_exemptible_0 rfl (lv_at hl 0 rfl) ?_
  refine lv_iload_n hx hb dL_exemptible_1 rfl (lv_at hl 1 rfl) ?_
  refine fz_xretI (P := ([] : va_W)) (S := []) (Wc := ((FW f a t h x) ++ (CW cy a V))) (Wc' := ((FW f a t h x) ++ (CW cy a V))) (WX := ((FW f a t h x) ++ (CW cy a V))) (vx_runV (As := [.int y]) (rest := []) ⟨hx, hb, hml, hown, hts⟩ (c_X8_exemptible l hst D cy f t h x a V nt nc nq nl wk wf y) (cwV 1 hts gL_exemptible_X8_exemptible rfl rfl rfl (by decide +kernel) ⟨Nat.le_of_ble_eq_true rfl, Nat.le_of_ble_eq_true rfl⟩) (fz_preMV (ci := 6) (q0 := 0) hK (fz_seg (fz_nilP (P := ([] : va_W)) hP)) (fz_segD (fz_nilD (P := ([] : va_W)) hD)) rfl rfl rfl fz_Ev_bl (fun U hU hW => hE.1.up hU hS hW (fun q h9 => fz_inD (fz_segD (fz_nilD (P := ([] : va_W)) hD)) h9))) rfl rfl hl.1 rfl (lv_room (Nat.le_of_ble_eq_true rfl)) dL_exemptible_2 ⟨Nat.le_of_ble_eq_true rfl, Nat.le_of_ble_eq_true rfl⟩) (fz_nilP (P := ([] : va_W)) hP) (fz_nilD (P := ([] : va_W)) hD) hS rfl rfl (fun c_9 H locs q9 ce hP hD hS h7 h8 h9 => ?_) (fun c_9 H locs hP hD hS => ?_)
  · skip
    exact absurd (hok.symm.trans c_9) (by decide)
  · skip
    have hP := fz_nilP' (P := ([] : va_W)) hP
    refine fz_wd (k := 1) (n := 6) (Nat.le_of_ble_eq_true rfl) (Nat.le_of_ble_eq_true rfl) ?_
    refine vx_ret ?_
    subst hAe
    exact W.iret (v := (fz_xc V nl nq y.toNatClampNeg)) hx hb hr (fun t9 ht9 hW9 => ⟨⟨_, (), rfl, ⟨rfl, rfl⟩, fz_to ht9 hP⟩, hS.F ht9⟩) hS.2.2 dL_exemptible_5
set_option maxHeartbeats 4000000 in
set_option maxRecDepth 100000 in
/-- the law calls exemptible -/
theorem c_L_exemptible_IO (l : Launch) (hst : l.stackTraces = false) (D : va_G) (cy : Nat → ClassId) (f t h x : Nat → Nat) (a : Nat → Nat) (V : Nat → Nat → Int32) (nt nc nq nl wk : Nat) (wf : fz_wf V nt nc nq nl wk) (y : Int32) (hok : (fz_ix y (V 3 0)) = false) (hen : xIO = xIO) : fz_XI l yL_exemptible wsL_exemptible 8 124 1 6 D cy [.ref (f 0), .int y] ((FW f a t h x) ++ (CW cy a V)) (fz_Ew (fz_in ((FW f a t h x) ++ (CW cy a V)))) (-11) ((FW f a t h x) ++ (CW cy a V)) true xIS ((FW f a t h x) ++ (CW cy a V)) := by
  refine vx_ofWH (cc := cL_exemptible) (maxL := 3) (ret := (some .int)) (hh := [(0, 5, 6, 34)]) (by decide) rfl ?_
  intro p e s m args below meth c s₁ B hml hv
  obtain ⟨rfl, hP, hK, hD0, hE⟩ := hv
  have hx := B.exec
  have hb := B.bytes
  have hr := B.returns
  have hts := atoms_spec (ws := wsL_exemptible) B.pre
  have hown : s.vm.findClass RL = some m.cls := findClass_of_methodNamed B.named
  have hlocks := B.notSynchronized
  have hD := fz_self hD0
  obtain ⟨A, hAe⟩ : ∃ A : Nat → Prop, A = fz_in ((FW f a t h x) ++ (CW cy a V)) := ⟨_, rfl⟩
  rw [← hAe] at hD
  have hE : fz_Ew A s := by rw [hAe]; exact hE
  have hS : va_S A s.heap s.heap [] := va_S.rf
  have hl := lv_entry ([.ref (f 0), .int y]) (n := 3) (Nat.le_of_ble_eq_true rfl)
  rw [lg_entry_eq]
  generalize (lg_sl ([.ref (f 0), .int y]) ++ List.replicate (3 - (lg_sl ([.ref (f 0), .int y])).length) Slot.unset).toArray = ls at hl ⊢
  have hl : lv_has ls 3 [(0, .ref (f 0)), (1, .int y)] := hl
  have htab := vx_table (x := yL_exemptible) B (hts (.codeWith yL_exemptible cL_exemptible 3 (some .int) [(0, 5, 6, 34)]) (by decide +kernel))
  refine lv_aload_n hx hb dL_exemptible_0 rfl (lv_at hl 0 rfl) ?_
  refine lv_iload_n hx hb dL_exemptible_1 rfl (lv_at hl 1 rfl) ?_
  refine fz_xretI (P := ([] : va_W)) (S := []) (Wc := ((FW f a t h x) ++ (CW cy a V))) (Wc' := ((FW f a t h x) ++ (CW cy a V))) (WX := ((FW f a t h x) ++ (CW cy a V))) (vx_runV (As := [.int y]) (rest := []) ⟨hx, hb, hml, hown, hts⟩ (c_X8_exemptible l hst D cy f t h x a V nt nc nq nl wk wf y) (cwV 1 hts gL_exemptible_X8_exemptible rfl rfl rfl (by decide +kernel) ⟨Nat.le_of_ble_eq_true rfl, Nat.le_of_ble_eq_true rfl⟩) (fz_preMV (ci := 6) (q0 := 0) hK (fz_seg (fz_nilP (P := ([] : va_W)) hP)) (fz_segD (fz_nilD (P := ([] : va_W)) hD)) rfl rfl rfl fz_Ev_bl (fun U hU hW => hE.1.up hU hS hW (fun q h9 => fz_inD (fz_segD (fz_nilD (P := ([] : va_W)) hD)) h9))) rfl rfl hl.1 rfl (lv_room (Nat.le_of_ble_eq_true rfl)) dL_exemptible_2 ⟨Nat.le_of_ble_eq_true rfl, Nat.le_of_ble_eq_true rfl⟩) (fz_nilP (P := ([] : va_W)) hP) (fz_nilD (P := ([] : va_W)) hD) hS rfl rfl (fun c_9 H locs q9 ce hP hD hS h7 h8 h9 => ?_) (fun c_9 H locs hP hD hS => ?_)
  · skip
    rw [hen] at h9
    refine vx_catch (name := xIO) hown [] ⟨0, 5, 6, 34⟩ [] (by rw [htab]; rfl) (fun z hz => nomatch hz) (by decide) (by decide) (hts (.classLink RL 34 xIO) (by decide +kernel)) (va_Nw.use rfl (hE.1.1.2.2.1 (.castable xIO xIO) (by decide +kernel))) h7 h8 h9 ?_
    have hP := fz_nilP' (P := ([] : va_W)) hP
    refine lv_astore_n (lv' := [(2, .ref q9), (0, .ref (f 0)), (1, .int y)]) hx hb dL_exemptible_6 rfl hl (by decide) rfl (fun ls hl => ?_)
    refine lv_bipush (v := (-11)) hx hb dL_exemptible_7 (by decide) ?_
    refine fz_wd (k := 1) (n := 6) (Nat.le_of_ble_eq_true rfl) (Nat.le_of_ble_eq_true rfl) ?_
    refine vx_ret ?_
    subst hAe
    exact W.iret (v := (-11)) hx hb hr (fun t9 ht9 hW9 => ⟨⟨_, (), rfl, ⟨rfl, rfl⟩, fz_to ht9 hP⟩, hS.F ht9⟩) hS.2.2 dL_exemptible_9
  · skip
    exact absurd (hok.symm.trans c_9) (by decide)
set_option maxHeartbeats 4000000 in
set_option maxRecDepth 100000 in
/-- the law calls weeksUntil -/
theorem c_L_weeksUntil_t (l : Launch) (hst : l.stackTraces = false) (D : va_G) (cy : Nat → ClassId) (f h x : Nat → Nat) (a : Nat → Nat) (V : Nat → Nat → Int32) (t : Nat → Nat) (N : Nat → Nat → Int32) (nt nc nq nl wk : Nat) (wf : fz_wf V nt nc nq nl wk) (y z : Int32) (hz : fz_zo (V 2) 40) (hok : (fz_ix y (V 3 0) && fz_risk z) = true) : fz_XI l yL_weeksUntil wsL_weeksUntil 8 128 2 12 D cy [.ref (f 0), .int y, .int z] ((FW f a t h x) ++ ((CW cy a V) ++ (CW cy t N))) (fz_Ew (fz_in ((FW f a t h x) ++ ((CW cy a V) ++ (CW cy t N))))) ((cx_wu V nt nc nl wk y z).1) ((FW f a t h x) ++ ((CW cy a V) ++ (CW cy t ((cx_wu V nt nc nl wk y z).2)))) true xIS ((FW f a t h x) ++ ((CW cy a V) ++ (CW cy t ((cx_wu V nt nc nl wk y z).2)))) := by
  refine vx_ofWH (cc := cL_weeksUntil) (maxL := 4) (ret := (some .int)) (hh := [(0, 6, 7, 34), (0, 6, 11, 15)]) (by decide) rfl ?_
  intro p e s m args below meth c s₁ B hml hv
  obtain ⟨rfl, hP, hK, hD0, hE⟩ := hv
  have hx := B.exec
  have hb := B.bytes
  have hr := B.returns
  have hts := atoms_spec (ws := wsL_weeksUntil) B.pre
  have hown : s.vm.findClass RL = some m.cls := findClass_of_methodNamed B.named
  have hlocks := B.notSynchronized
  have hD := fz_self hD0
  obtain ⟨A, hAe⟩ : ∃ A : Nat → Prop, A = fz_in ((FW f a t h x) ++ ((CW cy a V) ++ (CW cy t N))) := ⟨_, rfl⟩
  rw [← hAe] at hD
  have hE : fz_Ew A s := by rw [hAe]; exact hE
  have hS : va_S A s.heap s.heap [] := va_S.rf
  have hl := lv_entry ([.ref (f 0), .int y, .int z]) (n := 4) (Nat.le_of_ble_eq_true rfl)
  rw [lg_entry_eq]
  generalize (lg_sl ([.ref (f 0), .int y, .int z]) ++ List.replicate (4 - (lg_sl ([.ref (f 0), .int y, .int z])).length) Slot.unset).toArray = ls at hl ⊢
  have hl : lv_has ls 4 [(0, .ref (f 0)), (1, .int y), (2, .int z)] := hl
  have htab := vx_table (x := yL_weeksUntil) B (hts (.codeWith yL_weeksUntil cL_weeksUntil 4 (some .int) [(0, 6, 7, 34), (0, 6, 11, 15)]) (by decide +kernel))
  refine lv_aload_n hx hb dL_weeksUntil_0 rfl (lv_at hl 0 rfl) ?_
  refine lv_iload_n hx hb dL_weeksUntil_1 rfl (lv_at hl 1 rfl) ?_
  refine lv_iload_n hx hb dL_weeksUntil_2 rfl (lv_at hl 2 rfl) ?_
  refine fz_xretI (P := ([] : va_W)) (S := []) (Wc := ((FW f a t h x) ++ ((CW cy a V) ++ (CW cy t N)))) (Wc' := ((FW f a t h x) ++ ((CW cy a V) ++ (CW cy t ((cx_wu V nt nc nl wk y z).2))))) (WX := ((FW f a t h x) ++ ((CW cy a V) ++ (CW cy t N)))) (vx_runV (As := [.int y, .int z]) (rest := []) ⟨hx, hb, hml, hown, hts⟩ (c_X8_weeksUntil l hst D cy f h x a V t N nt nc nq nl wk wf y z hz) (cwV 2 hts gL_weeksUntil_X8_weeksUntil rfl rfl rfl (by decide +kernel) ⟨Nat.le_of_ble_eq_true rfl, Nat.le_of_ble_eq_true rfl⟩) (fz_preMV (ci := 6) (q0 := 0) hK (fz_seg (fz_nilP (P := ([] : va_W)) hP)) (fz_segD (fz_nilD (P := ([] : va_W)) hD)) rfl rfl rfl fz_Ev_bl (fun U hU hW => hE.1.up hU hS hW (fun q h9 => fz_inD (fz_segD (fz_nilD (P := ([] : va_W)) hD)) h9))) rfl rfl hl.1 rfl (lv_room (Nat.le_of_ble_eq_true rfl)) dL_weeksUntil_3 ⟨Nat.le_of_ble_eq_true rfl, Nat.le_of_ble_eq_true rfl⟩) (fz_nilP (P := ([] : va_W)) hP) (fz_nilD (P := ([] : va_W)) hD) hS rfl rfl (fun c_9 H locs q9 ce hP hD hS h7 h8 h9 => ?_) (fun c_9 H locs hP hD hS => ?_)
  · skip
    exact absurd (hok.symm.trans c_9) (by decide)
  · skip
    have hP := fz_nilP' (P := ([] : va_W)) hP
    refine fz_wd (k := 2) (n := 12) (Nat.le_of_ble_eq_true rfl) (Nat.le_of_ble_eq_true rfl) ?_
    refine vx_ret ?_
    subst hAe
    exact W.iret (v := ((cx_wu V nt nc nl wk y z).1)) hx hb hr (fun t9 ht9 hW9 => ⟨⟨_, (), rfl, ⟨rfl, rfl⟩, fz_to ht9 hP⟩, hS.F ht9⟩) hS.2.2 dL_weeksUntil_6
set_option maxHeartbeats 4000000 in
set_option maxRecDepth 100000 in
/-- the law calls weeksUntil -/
theorem c_L_weeksUntil_IO (l : Launch) (hst : l.stackTraces = false) (D : va_G) (cy : Nat → ClassId) (f h x : Nat → Nat) (a : Nat → Nat) (V : Nat → Nat → Int32) (t : Nat → Nat) (N : Nat → Nat → Int32) (nt nc nq nl wk : Nat) (wf : fz_wf V nt nc nq nl wk) (y z : Int32) (hz : fz_zo (V 2) 40) (hok : (fz_ix y (V 3 0) && fz_risk z) = false) (hen : (bif fz_ix y (V 3 0) then xIA else xIO) = xIO) : fz_XI l yL_weeksUntil wsL_weeksUntil 8 128 2 12 D cy [.ref (f 0), .int y, .int z] ((FW f a t h x) ++ ((CW cy a V) ++ (CW cy t N))) (fz_Ew (fz_in ((FW f a t h x) ++ ((CW cy a V) ++ (CW cy t N))))) (-11) ((FW f a t h x) ++ ((CW cy a V) ++ (CW cy t N))) true xIS ((FW f a t h x) ++ ((CW cy a V) ++ (CW cy t N))) := by
  refine vx_ofWH (cc := cL_weeksUntil) (maxL := 4) (ret := (some .int)) (hh := [(0, 6, 7, 34), (0, 6, 11, 15)]) (by decide) rfl ?_
  intro p e s m args below meth c s₁ B hml hv
  obtain ⟨rfl, hP, hK, hD0, hE⟩ := hv
  have hx := B.exec
  have hb := B.bytes
  have hr := B.returns
  have hts := atoms_spec (ws := wsL_weeksUntil) B.pre
  have hown : s.vm.findClass RL = some m.cls := findClass_of_methodNamed B.named
  have hlocks := B.notSynchronized
  have hD := fz_self hD0
  obtain ⟨A, hAe⟩ : ∃ A : Nat → Prop, A = fz_in ((FW f a t h x) ++ ((CW cy a V) ++ (CW cy t N))) := ⟨_, rfl⟩
  rw [← hAe] at hD
  have hE : fz_Ew A s := by rw [hAe]; exact hE
  have hS : va_S A s.heap s.heap [] := va_S.rf
  have hl := lv_entry ([.ref (f 0), .int y, .int z]) (n := 4) (Nat.le_of_ble_eq_true rfl)
  rw [lg_entry_eq]
  generalize (lg_sl ([.ref (f 0), .int y, .int z]) ++ List.replicate (4 - (lg_sl ([.ref (f 0), .int y, .int z])).length) Slot.unset).toArray = ls at hl ⊢
  have hl : lv_has ls 4 [(0, .ref (f 0)), (1, .int y), (2, .int z)] := hl
  have htab := vx_table (x := yL_weeksUntil) B (hts (.codeWith yL_weeksUntil cL_weeksUntil 4 (some .int) [(0, 6, 7, 34), (0, 6, 11, 15)]) (by decide +kernel))
  refine lv_aload_n hx hb dL_weeksUntil_0 rfl (lv_at hl 0 rfl) ?_
  refine lv_iload_n hx hb dL_weeksUntil_1 rfl (lv_at hl 1 rfl) ?_
  refine lv_iload_n hx hb dL_weeksUntil_2 rfl (lv_at hl 2 rfl) ?_
  refine fz_xretI (P := ([] : va_W)) (S := []) (Wc := ((FW f a t h x) ++ ((CW cy a V) ++ (CW cy t N)))) (Wc' := ((FW f a t h x) ++ ((CW cy a V) ++ (CW cy t ((cx_wu V nt nc nl wk y z).2))))) (WX := ((FW f a t h x) ++ ((CW cy a V) ++ (CW cy t N)))) (vx_runV (As := [.int y, .int z]) (rest := []) ⟨hx, hb, hml, hown, hts⟩ (c_X8_weeksUntil l hst D cy f h x a V t N nt nc nq nl wk wf y z hz) (cwV 2 hts gL_weeksUntil_X8_weeksUntil rfl rfl rfl (by decide +kernel) ⟨Nat.le_of_ble_eq_true rfl, Nat.le_of_ble_eq_true rfl⟩) (fz_preMV (ci := 6) (q0 := 0) hK (fz_seg (fz_nilP (P := ([] : va_W)) hP)) (fz_segD (fz_nilD (P := ([] : va_W)) hD)) rfl rfl rfl fz_Ev_bl (fun U hU hW => hE.1.up hU hS hW (fun q h9 => fz_inD (fz_segD (fz_nilD (P := ([] : va_W)) hD)) h9))) rfl rfl hl.1 rfl (lv_room (Nat.le_of_ble_eq_true rfl)) dL_weeksUntil_3 ⟨Nat.le_of_ble_eq_true rfl, Nat.le_of_ble_eq_true rfl⟩) (fz_nilP (P := ([] : va_W)) hP) (fz_nilD (P := ([] : va_W)) hD) hS rfl rfl (fun c_9 H locs q9 ce hP hD hS h7 h8 h9 => ?_) (fun c_9 H locs hP hD hS => ?_)
  · skip
    rw [hen] at h9
    refine vx_catch (name := xIO) hown [] ⟨0, 6, 7, 34⟩ [⟨0, 6, 11, 15⟩] (by rw [htab]; rfl) (fun z hz => nomatch hz) (by decide) (by decide) (hts (.classLink RL 34 xIO) (by decide +kernel)) (va_Nw.use rfl (hE.1.1.2.2.1 (.castable xIO xIO) (by decide +kernel))) h7 h8 h9 ?_
    have hP := fz_nilP' (P := ([] : va_W)) hP
    refine lv_astore_n (lv' := [(3, .ref q9), (0, .ref (f 0)), (1, .int y), (2, .int z)]) hx hb dL_weeksUntil_7 rfl hl (by decide) rfl (fun ls hl => ?_)
    refine lv_bipush (v := (-11)) hx hb dL_weeksUntil_8 (by decide) ?_
    refine fz_wd (k := 2) (n := 12) (Nat.le_of_ble_eq_true rfl) (Nat.le_of_ble_eq_true rfl) ?_
    refine vx_ret ?_
    subst hAe
    exact W.iret (v := (-11)) hx hb hr (fun t9 ht9 hW9 => ⟨⟨_, (), rfl, ⟨rfl, rfl⟩, fz_to ht9 hP⟩, hS.F ht9⟩) hS.2.2 dL_weeksUntil_10
  · skip
    exact absurd (hok.symm.trans c_9) (by decide)
set_option maxHeartbeats 4000000 in
set_option maxRecDepth 100000 in
/-- the law calls weeksUntil -/
theorem c_L_weeksUntil_IA (l : Launch) (hst : l.stackTraces = false) (D : va_G) (cy : Nat → ClassId) (f h x : Nat → Nat) (a : Nat → Nat) (V : Nat → Nat → Int32) (t : Nat → Nat) (N : Nat → Nat → Int32) (nt nc nq nl wk : Nat) (wf : fz_wf V nt nc nq nl wk) (y z : Int32) (hz : fz_zo (V 2) 40) (hok : (fz_ix y (V 3 0) && fz_risk z) = false) (hen : (bif fz_ix y (V 3 0) then xIA else xIO) = xIA) : fz_XI l yL_weeksUntil wsL_weeksUntil 8 128 2 12 D cy [.ref (f 0), .int y, .int z] ((FW f a t h x) ++ ((CW cy a V) ++ (CW cy t N))) (fz_Ew (fz_in ((FW f a t h x) ++ ((CW cy a V) ++ (CW cy t N))))) (-12) ((FW f a t h x) ++ ((CW cy a V) ++ (CW cy t N))) true xIS ((FW f a t h x) ++ ((CW cy a V) ++ (CW cy t N))) := by
  refine vx_ofWH (cc := cL_weeksUntil) (maxL := 4) (ret := (some .int)) (hh := [(0, 6, 7, 34), (0, 6, 11, 15)]) (by decide) rfl ?_
  intro p e s m args below meth c s₁ B hml hv
  obtain ⟨rfl, hP, hK, hD0, hE⟩ := hv
  have hx := B.exec
  have hb := B.bytes
  have hr := B.returns
  have hts := atoms_spec (ws := wsL_weeksUntil) B.pre
  have hown : s.vm.findClass RL = some m.cls := findClass_of_methodNamed B.named
  have hlocks := B.notSynchronized
  have hD := fz_self hD0
  obtain ⟨A, hAe⟩ : ∃ A : Nat → Prop, A = fz_in ((FW f a t h x) ++ ((CW cy a V) ++ (CW cy t N))) := ⟨_, rfl⟩
  rw [← hAe] at hD
  have hE : fz_Ew A s := by rw [hAe]; exact hE
  have hS : va_S A s.heap s.heap [] := va_S.rf
  have hl := lv_entry ([.ref (f 0), .int y, .int z]) (n := 4) (Nat.le_of_ble_eq_true rfl)
  rw [lg_entry_eq]
  generalize (lg_sl ([.ref (f 0), .int y, .int z]) ++ List.replicate (4 - (lg_sl ([.ref (f 0), .int y, .int z])).length) Slot.unset).toArray = ls at hl ⊢
  have hl : lv_has ls 4 [(0, .ref (f 0)), (1, .int y), (2, .int z)] := hl
  have htab := vx_table (x := yL_weeksUntil) B (hts (.codeWith yL_weeksUntil cL_weeksUntil 4 (some .int) [(0, 6, 7, 34), (0, 6, 11, 15)]) (by decide +kernel))
  refine lv_aload_n hx hb dL_weeksUntil_0 rfl (lv_at hl 0 rfl) ?_
  refine lv_iload_n hx hb dL_weeksUntil_1 rfl (lv_at hl 1 rfl) ?_
  refine lv_iload_n hx hb dL_weeksUntil_2 rfl (lv_at hl 2 rfl) ?_
  refine fz_xretI (P := ([] : va_W)) (S := []) (Wc := ((FW f a t h x) ++ ((CW cy a V) ++ (CW cy t N)))) (Wc' := ((FW f a t h x) ++ ((CW cy a V) ++ (CW cy t ((cx_wu V nt nc nl wk y z).2))))) (WX := ((FW f a t h x) ++ ((CW cy a V) ++ (CW cy t N)))) (vx_runV (As := [.int y, .int z]) (rest := []) ⟨hx, hb, hml, hown, hts⟩ (c_X8_weeksUntil l hst D cy f h x a V t N nt nc nq nl wk wf y z hz) (cwV 2 hts gL_weeksUntil_X8_weeksUntil rfl rfl rfl (by decide +kernel) ⟨Nat.le_of_ble_eq_true rfl, Nat.le_of_ble_eq_true rfl⟩) (fz_preMV (ci := 6) (q0 := 0) hK (fz_seg (fz_nilP (P := ([] : va_W)) hP)) (fz_segD (fz_nilD (P := ([] : va_W)) hD)) rfl rfl rfl fz_Ev_bl (fun U hU hW => hE.1.up hU hS hW (fun q h9 => fz_inD (fz_segD (fz_nilD (P := ([] : va_W)) hD)) h9))) rfl rfl hl.1 rfl (lv_room (Nat.le_of_ble_eq_true rfl)) dL_weeksUntil_3 ⟨Nat.le_of_ble_eq_true rfl, Nat.le_of_ble_eq_true rfl⟩) (fz_nilP (P := ([] : va_W)) hP) (fz_nilD (P := ([] : va_W)) hD) hS rfl rfl (fun c_9 H locs q9 ce hP hD hS h7 h8 h9 => ?_) (fun c_9 H locs hP hD hS => ?_)
  · skip
    rw [hen] at h9
    refine vx_catch (name := xIA) hown [⟨0, 6, 7, 34⟩] ⟨0, 6, 11, 15⟩ [] (by rw [htab]; rfl) (fun z hz => by rcases List.mem_cons.mp hz with rfl | hz; exact Or.inr ⟨by decide, xIO, hts (.classLink RL 34 xIO) (by decide +kernel), hE.2.2.1⟩; exact nomatch hz) (by decide) (by decide) (hts (.classLink RL 15 xIA) (by decide +kernel)) (va_Nw.use rfl (hE.1.1.2.2.1 (.castable xIA xIA) (by decide +kernel))) h7 h8 h9 ?_
    have hP := fz_nilP' (P := ([] : va_W)) hP
    refine lv_astore_n (lv' := [(3, .ref q9), (0, .ref (f 0)), (1, .int y), (2, .int z)]) hx hb dL_weeksUntil_11 rfl hl (by decide) rfl (fun ls hl => ?_)
    refine lv_bipush (v := (-12)) hx hb dL_weeksUntil_12 (by decide) ?_
    refine fz_wd (k := 2) (n := 12) (Nat.le_of_ble_eq_true rfl) (Nat.le_of_ble_eq_true rfl) ?_
    refine vx_ret ?_
    subst hAe
    exact W.iret (v := (-12)) hx hb hr (fun t9 ht9 hW9 => ⟨⟨_, (), rfl, ⟨rfl, rfl⟩, fz_to ht9 hP⟩, hS.F ht9⟩) hS.2.2 dL_weeksUntil_14
  · skip
    exact absurd (hok.symm.trans c_9) (by decide)
set_option maxHeartbeats 4000000 in
set_option maxRecDepth 100000 in
/-- the law calls lender -/
theorem c_L_lender_t (l : Launch) (hst : l.stackTraces = false) (D : va_G) (cy : Nat → ClassId) (f t h x : Nat → Nat) (a : Nat → Nat) (V : Nat → Nat → Int32) (nt nc nq nl wk : Nat) (wf : fz_wf V nt nc nq nl wk) (y z : Int32) (hok : (fz_ix y (V 3 0) && fz_risk z) = true) : fz_XI l yL_lender wsL_lender 8 126 2 12 D cy [.ref (f 0), .int y, .int z] ((FW f a t h x) ++ (CW cy a V)) (fz_Ew (fz_in ((FW f a t h x) ++ (CW cy a V)))) (fz_ldr V nt nl y z) ((FW f a t h x) ++ (CW cy a V)) true xIS ((FW f a t h x) ++ (CW cy a V)) := by
  refine vx_ofWH (cc := cL_lender) (maxL := 4) (ret := (some .int)) (hh := [(0, 6, 7, 34), (0, 6, 11, 15)]) (by decide) rfl ?_
  intro p e s m args below meth c s₁ B hml hv
  obtain ⟨rfl, hP, hK, hD0, hE⟩ := hv
  have hx := B.exec
  have hb := B.bytes
  have hr := B.returns
  have hts := atoms_spec (ws := wsL_lender) B.pre
  have hown : s.vm.findClass RL = some m.cls := findClass_of_methodNamed B.named
  have hlocks := B.notSynchronized
  have hD := fz_self hD0
  obtain ⟨A, hAe⟩ : ∃ A : Nat → Prop, A = fz_in ((FW f a t h x) ++ (CW cy a V)) := ⟨_, rfl⟩
  rw [← hAe] at hD
  have hE : fz_Ew A s := by rw [hAe]; exact hE
  have hS : va_S A s.heap s.heap [] := va_S.rf
  have hl := lv_entry ([.ref (f 0), .int y, .int z]) (n := 4) (Nat.le_of_ble_eq_true rfl)
  rw [lg_entry_eq]
  generalize (lg_sl ([.ref (f 0), .int y, .int z]) ++ List.replicate (4 - (lg_sl ([.ref (f 0), .int y, .int z])).length) Slot.unset).toArray = ls at hl ⊢
  have hl : lv_has ls 4 [(0, .ref (f 0)), (1, .int y), (2, .int z)] := hl
  have htab := vx_table (x := yL_lender) B (hts (.codeWith yL_lender cL_lender 4 (some .int) [(0, 6, 7, 34), (0, 6, 11, 15)]) (by decide +kernel))
  refine lv_aload_n hx hb dL_lender_0 rfl (lv_at hl 0 rfl) ?_
  refine lv_iload_n hx hb dL_lender_1 rfl (lv_at hl 1 rfl) ?_
  refine lv_iload_n hx hb dL_lender_2 rfl (lv_at hl 2 rfl) ?_
  refine fz_xretI (P := ([] : va_W)) (S := []) (Wc := ((FW f a t h x) ++ (CW cy a V))) (Wc' := ((FW f a t h x) ++ (CW cy a V))) (WX := ((FW f a t h x) ++ (CW cy a V))) (vx_runV (As := [.int y, .int z]) (rest := []) ⟨hx, hb, hml, hown, hts⟩ (c_X8_lender l hst D cy f t h x a V nt nc nq nl wk wf y z) (cwV 2 hts gL_lender_X8_lender rfl rfl rfl (by decide +kernel) ⟨Nat.le_of_ble_eq_true rfl, Nat.le_of_ble_eq_true rfl⟩) (fz_preMV (ci := 6) (q0 := 0) hK (fz_seg (fz_nilP (P := ([] : va_W)) hP)) (fz_segD (fz_nilD (P := ([] : va_W)) hD)) rfl rfl rfl fz_Ev_bl (fun U hU hW => hE.1.up hU hS hW (fun q h9 => fz_inD (fz_segD (fz_nilD (P := ([] : va_W)) hD)) h9))) rfl rfl hl.1 rfl (lv_room (Nat.le_of_ble_eq_true rfl)) dL_lender_3 ⟨Nat.le_of_ble_eq_true rfl, Nat.le_of_ble_eq_true rfl⟩) (fz_nilP (P := ([] : va_W)) hP) (fz_nilD (P := ([] : va_W)) hD) hS rfl rfl (fun c_9 H locs q9 ce hP hD hS h7 h8 h9 => ?_) (fun c_9 H locs hP hD hS => ?_)
  · skip
    exact absurd (hok.symm.trans c_9) (by decide)
  · skip
    have hP := fz_nilP' (P := ([] : va_W)) hP
    refine fz_wd (k := 2) (n := 12) (Nat.le_of_ble_eq_true rfl) (Nat.le_of_ble_eq_true rfl) ?_
    refine vx_ret ?_
    subst hAe
    exact W.iret (v := (fz_ldr V nt nl y z)) hx hb hr (fun t9 ht9 hW9 => ⟨⟨_, (), rfl, ⟨rfl, rfl⟩, fz_to ht9 hP⟩, hS.F ht9⟩) hS.2.2 dL_lender_6
set_option maxHeartbeats 4000000 in
set_option maxRecDepth 100000 in
/-- the law calls lender -/
theorem c_L_lender_IO (l : Launch) (hst : l.stackTraces = false) (D : va_G) (cy : Nat → ClassId) (f t h x : Nat → Nat) (a : Nat → Nat) (V : Nat → Nat → Int32) (nt nc nq nl wk : Nat) (wf : fz_wf V nt nc nq nl wk) (y z : Int32) (hok : (fz_ix y (V 3 0) && fz_risk z) = false) (hen : (bif fz_ix y (V 3 0) then xIA else xIO) = xIO) : fz_XI l yL_lender wsL_lender 8 126 2 12 D cy [.ref (f 0), .int y, .int z] ((FW f a t h x) ++ (CW cy a V)) (fz_Ew (fz_in ((FW f a t h x) ++ (CW cy a V)))) (-11) ((FW f a t h x) ++ (CW cy a V)) true xIS ((FW f a t h x) ++ (CW cy a V)) := by
  refine vx_ofWH (cc := cL_lender) (maxL := 4) (ret := (some .int)) (hh := [(0, 6, 7, 34), (0, 6, 11, 15)]) (by decide) rfl ?_
  intro p e s m args below meth c s₁ B hml hv
  obtain ⟨rfl, hP, hK, hD0, hE⟩ := hv
  have hx := B.exec
  have hb := B.bytes
  have hr := B.returns
  have hts := atoms_spec (ws := wsL_lender) B.pre
  have hown : s.vm.findClass RL = some m.cls := findClass_of_methodNamed B.named
  have hlocks := B.notSynchronized
  have hD := fz_self hD0
  obtain ⟨A, hAe⟩ : ∃ A : Nat → Prop, A = fz_in ((FW f a t h x) ++ (CW cy a V)) := ⟨_, rfl⟩
  rw [← hAe] at hD
  have hE : fz_Ew A s := by rw [hAe]; exact hE
  have hS : va_S A s.heap s.heap [] := va_S.rf
  have hl := lv_entry ([.ref (f 0), .int y, .int z]) (n := 4) (Nat.le_of_ble_eq_true rfl)
  rw [lg_entry_eq]
  generalize (lg_sl ([.ref (f 0), .int y, .int z]) ++ List.replicate (4 - (lg_sl ([.ref (f 0), .int y, .int z])).length) Slot.unset).toArray = ls at hl ⊢
  have hl : lv_has ls 4 [(0, .ref (f 0)), (1, .int y), (2, .int z)] := hl
  have htab := vx_table (x := yL_lender) B (hts (.codeWith yL_lender cL_lender 4 (some .int) [(0, 6, 7, 34), (0, 6, 11, 15)]) (by decide +kernel))
  refine lv_aload_n hx hb dL_lender_0 rfl (lv_at hl 0 rfl) ?_
  refine lv_iload_n hx hb dL_lender_1 rfl (lv_at hl 1 rfl) ?_
  refine lv_iload_n hx hb dL_lender_2 rfl (lv_at hl 2 rfl) ?_
  refine fz_xretI (P := ([] : va_W)) (S := []) (Wc := ((FW f a t h x) ++ (CW cy a V))) (Wc' := ((FW f a t h x) ++ (CW cy a V))) (WX := ((FW f a t h x) ++ (CW cy a V))) (vx_runV (As := [.int y, .int z]) (rest := []) ⟨hx, hb, hml, hown, hts⟩ (c_X8_lender l hst D cy f t h x a V nt nc nq nl wk wf y z) (cwV 2 hts gL_lender_X8_lender rfl rfl rfl (by decide +kernel) ⟨Nat.le_of_ble_eq_true rfl, Nat.le_of_ble_eq_true rfl⟩) (fz_preMV (ci := 6) (q0 := 0) hK (fz_seg (fz_nilP (P := ([] : va_W)) hP)) (fz_segD (fz_nilD (P := ([] : va_W)) hD)) rfl rfl rfl fz_Ev_bl (fun U hU hW => hE.1.up hU hS hW (fun q h9 => fz_inD (fz_segD (fz_nilD (P := ([] : va_W)) hD)) h9))) rfl rfl hl.1 rfl (lv_room (Nat.le_of_ble_eq_true rfl)) dL_lender_3 ⟨Nat.le_of_ble_eq_true rfl, Nat.le_of_ble_eq_true rfl⟩) (fz_nilP (P := ([] : va_W)) hP) (fz_nilD (P := ([] : va_W)) hD) hS rfl rfl (fun c_9 H locs q9 ce hP hD hS h7 h8 h9 => ?_) (fun c_9 H locs hP hD hS => ?_)
  · skip
    rw [hen] at h9
    refine vx_catch (name := xIO) hown [] ⟨0, 6, 7, 34⟩ [⟨0, 6, 11, 15⟩] (by rw [htab]; rfl) (fun z hz => nomatch hz) (by decide) (by decide) (hts (.classLink RL 34 xIO) (by decide +kernel)) (va_Nw.use rfl (hE.1.1.2.2.1 (.castable xIO xIO) (by decide +kernel))) h7 h8 h9 ?_
    have hP := fz_nilP' (P := ([] : va_W)) hP
    refine lv_astore_n (lv' := [(3, .ref q9), (0, .ref (f 0)), (1, .int y), (2, .int z)]) hx hb dL_lender_7 rfl hl (by decide) rfl (fun ls hl => ?_)
    refine lv_bipush (v := (-11)) hx hb dL_lender_8 (by decide) ?_
    refine fz_wd (k := 2) (n := 12) (Nat.le_of_ble_eq_true rfl) (Nat.le_of_ble_eq_true rfl) ?_
    refine vx_ret ?_
    subst hAe
    exact W.iret (v := (-11)) hx hb hr (fun t9 ht9 hW9 => ⟨⟨_, (), rfl, ⟨rfl, rfl⟩, fz_to ht9 hP⟩, hS.F ht9⟩) hS.2.2 dL_lender_10
  · skip
    exact absurd (hok.symm.trans c_9) (by decide)
set_option maxHeartbeats 4000000 in
set_option maxRecDepth 100000 in
/-- the law calls lender -/
theorem c_L_lender_IA (l : Launch) (hst : l.stackTraces = false) (D : va_G) (cy : Nat → ClassId) (f t h x : Nat → Nat) (a : Nat → Nat) (V : Nat → Nat → Int32) (nt nc nq nl wk : Nat) (wf : fz_wf V nt nc nq nl wk) (y z : Int32) (hok : (fz_ix y (V 3 0) && fz_risk z) = false) (hen : (bif fz_ix y (V 3 0) then xIA else xIO) = xIA) : fz_XI l yL_lender wsL_lender 8 126 2 12 D cy [.ref (f 0), .int y, .int z] ((FW f a t h x) ++ (CW cy a V)) (fz_Ew (fz_in ((FW f a t h x) ++ (CW cy a V)))) (-12) ((FW f a t h x) ++ (CW cy a V)) true xIS ((FW f a t h x) ++ (CW cy a V)) := by
  refine vx_ofWH (cc := cL_lender) (maxL := 4) (ret := (some .int)) (hh := [(0, 6, 7, 34), (0, 6, 11, 15)]) (by decide) rfl ?_
  intro p e s m args below meth c s₁ B hml hv
  obtain ⟨rfl, hP, hK, hD0, hE⟩ := hv
  have hx := B.exec
  have hb := B.bytes
  have hr := B.returns
  have hts := atoms_spec (ws := wsL_lender) B.pre
  have hown : s.vm.findClass RL = some m.cls := findClass_of_methodNamed B.named
  have hlocks := B.notSynchronized
  have hD := fz_self hD0
  obtain ⟨A, hAe⟩ : ∃ A : Nat → Prop, A = fz_in ((FW f a t h x) ++ (CW cy a V)) := ⟨_, rfl⟩
  rw [← hAe] at hD
  have hE : fz_Ew A s := by rw [hAe]; exact hE
  have hS : va_S A s.heap s.heap [] := va_S.rf
  have hl := lv_entry ([.ref (f 0), .int y, .int z]) (n := 4) (Nat.le_of_ble_eq_true rfl)
  rw [lg_entry_eq]
  generalize (lg_sl ([.ref (f 0), .int y, .int z]) ++ List.replicate (4 - (lg_sl ([.ref (f 0), .int y, .int z])).length) Slot.unset).toArray = ls at hl ⊢
  have hl : lv_has ls 4 [(0, .ref (f 0)), (1, .int y), (2, .int z)] := hl
  have htab := vx_table (x := yL_lender) B (hts (.codeWith yL_lender cL_lender 4 (some .int) [(0, 6, 7, 34), (0, 6, 11, 15)]) (by decide +kernel))
  refine lv_aload_n hx hb dL_lender_0 rfl (lv_at hl 0 rfl) ?_
  refine lv_iload_n hx hb dL_lender_1 rfl (lv_at hl 1 rfl) ?_
  refine lv_iload_n hx hb dL_lender_2 rfl (lv_at hl 2 rfl) ?_
  refine fz_xretI (P := ([] : va_W)) (S := []) (Wc := ((FW f a t h x) ++ (CW cy a V))) (Wc' := ((FW f a t h x) ++ (CW cy a V))) (WX := ((FW f a t h x) ++ (CW cy a V))) (vx_runV (As := [.int y, .int z]) (rest := []) ⟨hx, hb, hml, hown, hts⟩ (c_X8_lender l hst D cy f t h x a V nt nc nq nl wk wf y z) (cwV 2 hts gL_lender_X8_lender rfl rfl rfl (by decide +kernel) ⟨Nat.le_of_ble_eq_true rfl, Nat.le_of_ble_eq_true rfl⟩) (fz_preMV (ci := 6) (q0 := 0) hK (fz_seg (fz_nilP (P := ([] : va_W)) hP)) (fz_segD (fz_nilD (P := ([] : va_W)) hD)) rfl rfl rfl fz_Ev_bl (fun U hU hW => hE.1.up hU hS hW (fun q h9 => fz_inD (fz_segD (fz_nilD (P := ([] : va_W)) hD)) h9))) rfl rfl hl.1 rfl (lv_room (Nat.le_of_ble_eq_true rfl)) dL_lender_3 ⟨Nat.le_of_ble_eq_true rfl, Nat.le_of_ble_eq_true rfl⟩) (fz_nilP (P := ([] : va_W)) hP) (fz_nilD (P := ([] : va_W)) hD) hS rfl rfl (fun c_9 H locs q9 ce hP hD hS h7 h8 h9 => ?_) (fun c_9 H locs hP hD hS => ?_)
  · skip
    rw [hen] at h9
    refine vx_catch (name := xIA) hown [⟨0, 6, 7, 34⟩] ⟨0, 6, 11, 15⟩ [] (by rw [htab]; rfl) (fun z hz => by rcases List.mem_cons.mp hz with rfl | hz; exact Or.inr ⟨by decide, xIO, hts (.classLink RL 34 xIO) (by decide +kernel), hE.2.2.1⟩; exact nomatch hz) (by decide) (by decide) (hts (.classLink RL 15 xIA) (by decide +kernel)) (va_Nw.use rfl (hE.1.1.2.2.1 (.castable xIA xIA) (by decide +kernel))) h7 h8 h9 ?_
    have hP := fz_nilP' (P := ([] : va_W)) hP
    refine lv_astore_n (lv' := [(3, .ref q9), (0, .ref (f 0)), (1, .int y), (2, .int z)]) hx hb dL_lender_11 rfl hl (by decide) rfl (fun ls hl => ?_)
    refine lv_bipush (v := (-12)) hx hb dL_lender_12 (by decide) ?_
    refine fz_wd (k := 2) (n := 12) (Nat.le_of_ble_eq_true rfl) (Nat.le_of_ble_eq_true rfl) ?_
    refine vx_ret ?_
    subst hAe
    exact W.iret (v := (-12)) hx hb hr (fun t9 ht9 hW9 => ⟨⟨_, (), rfl, ⟨rfl, rfl⟩, fz_to ht9 hP⟩, hS.F ht9⟩) hS.2.2 dL_lender_14
  · skip
    exact absurd (hok.symm.trans c_9) (by decide)
set_option maxHeartbeats 4000000 in
set_option maxRecDepth 100000 in
/-- the law calls inBeing -/
theorem c_L_inBeing_t (l : Launch) (hst : l.stackTraces = false) (D : va_G) (cy : Nat → ClassId) (f h x : Nat → Nat) (a : Nat → Nat) (V : Nat → Nat → Int32) (t : Nat → Nat) (N : Nat → Nat → Int32) (nt nc nq nl wk : Nat) (wf : fz_wf V nt nc nq nl wk) (y : Int32) (hz : fz_zo (V 2) 40) (hok : (fz_vo y 40) = true) : fz_XI l yL_inBeing wsL_inBeing 7 110 1 6 D cy [.ref (f 0), .int y] ((FW f a t h x) ++ ((CW cy a V) ++ (CW cy t N))) (fz_Ew (fz_in ((FW f a t h x) ++ ((CW cy a V) ++ (CW cy t N))))) ((cx_ib V N nt nc nl wk y).1) ((FW f a t h x) ++ ((CW cy a V) ++ (CW cy t ((cx_ib V N nt nc nl wk y).2)))) true xIS ((FW f a t h x) ++ ((CW cy a V) ++ (CW cy t ((cx_ib V N nt nc nl wk y).2)))) := by
  refine vx_ofWH (cc := cL_inBeing) (maxL := 3) (ret := (some .int)) (hh := [(0, 5, 6, 15)]) (by decide) rfl ?_
  intro p e s m args below meth c s₁ B hml hv
  obtain ⟨rfl, hP, hK, hD0, hE⟩ := hv
  have hx := B.exec
  have hb := B.bytes
  have hr := B.returns
  have hts := atoms_spec (ws := wsL_inBeing) B.pre
  have hown : s.vm.findClass RL = some m.cls := findClass_of_methodNamed B.named
  have hlocks := B.notSynchronized
  have hD := fz_self hD0
  obtain ⟨A, hAe⟩ : ∃ A : Nat → Prop, A = fz_in ((FW f a t h x) ++ ((CW cy a V) ++ (CW cy t N))) := ⟨_, rfl⟩
  rw [← hAe] at hD
  have hE : fz_Ew A s := by rw [hAe]; exact hE
  have hS : va_S A s.heap s.heap [] := va_S.rf
  have hl := lv_entry ([.ref (f 0), .int y]) (n := 3) (Nat.le_of_ble_eq_true rfl)
  rw [lg_entry_eq]
  generalize (lg_sl ([.ref (f 0), .int y]) ++ List.replicate (3 - (lg_sl ([.ref (f 0), .int y])).length) Slot.unset).toArray = ls at hl ⊢
  have hl : lv_has ls 3 [(0, .ref (f 0)), (1, .int y)] := hl
  have htab := vx_table (x := yL_inBeing) B (hts (.codeWith yL_inBeing cL_inBeing 3 (some .int) [(0, 5, 6, 15)]) (by decide +kernel))
  refine lv_aload_n hx hb dL_inBeing_0 rfl (lv_at hl 0 rfl) ?_
  refine lv_iload_n hx hb dL_inBeing_1 rfl (lv_at hl 1 rfl) ?_
  refine fz_xretI (P := ([] : va_W)) (S := []) (Wc := ((FW f a t h x) ++ ((CW cy a V) ++ (CW cy t N)))) (Wc' := ((FW f a t h x) ++ ((CW cy a V) ++ (CW cy t ((cx_ib V N nt nc nl wk y).2))))) (WX := ((FW f a t h x) ++ ((CW cy a V) ++ (CW cy t N)))) (vx_runV (As := [.int y]) (rest := []) ⟨hx, hb, hml, hown, hts⟩ (c_X8_inBeing l hst D cy f h x a V t N nt nc nq nl wk wf y hz) (cwV 1 hts gL_inBeing_X8_inBeing rfl rfl rfl (by decide +kernel) ⟨Nat.le_of_ble_eq_true rfl, Nat.le_of_ble_eq_true rfl⟩) (fz_preMV (ci := 6) (q0 := 0) hK (fz_seg (fz_nilP (P := ([] : va_W)) hP)) (fz_segD (fz_nilD (P := ([] : va_W)) hD)) rfl rfl rfl fz_Ev_bl (fun U hU hW => hE.1.up hU hS hW (fun q h9 => fz_inD (fz_segD (fz_nilD (P := ([] : va_W)) hD)) h9))) rfl rfl hl.1 rfl (lv_room (Nat.le_of_ble_eq_true rfl)) dL_inBeing_2 ⟨Nat.le_of_ble_eq_true rfl, Nat.le_of_ble_eq_true rfl⟩) (fz_nilP (P := ([] : va_W)) hP) (fz_nilD (P := ([] : va_W)) hD) hS rfl rfl (fun c_9 H locs q9 ce hP hD hS h7 h8 h9 => ?_) (fun c_9 H locs hP hD hS => ?_)
  · skip
    exact absurd (hok.symm.trans c_9) (by decide)
  · skip
    have hP := fz_nilP' (P := ([] : va_W)) hP
    refine fz_wd (k := 1) (n := 6) (Nat.le_of_ble_eq_true rfl) (Nat.le_of_ble_eq_true rfl) ?_
    refine vx_ret ?_
    subst hAe
    exact W.iret (v := ((cx_ib V N nt nc nl wk y).1)) hx hb hr (fun t9 ht9 hW9 => ⟨⟨_, (), rfl, ⟨rfl, rfl⟩, fz_to ht9 hP⟩, hS.F ht9⟩) hS.2.2 dL_inBeing_5
set_option maxHeartbeats 4000000 in
set_option maxRecDepth 100000 in
/-- the law calls inBeing -/
theorem c_L_inBeing_IA (l : Launch) (hst : l.stackTraces = false) (D : va_G) (cy : Nat → ClassId) (f h x : Nat → Nat) (a : Nat → Nat) (V : Nat → Nat → Int32) (t : Nat → Nat) (N : Nat → Nat → Int32) (nt nc nq nl wk : Nat) (wf : fz_wf V nt nc nq nl wk) (y : Int32) (hz : fz_zo (V 2) 40) (hok : (fz_vo y 40) = false) (hen : xIA = xIA) : fz_XI l yL_inBeing wsL_inBeing 7 110 1 6 D cy [.ref (f 0), .int y] ((FW f a t h x) ++ ((CW cy a V) ++ (CW cy t N))) (fz_Ew (fz_in ((FW f a t h x) ++ ((CW cy a V) ++ (CW cy t N))))) (-11) ((FW f a t h x) ++ ((CW cy a V) ++ (CW cy t N))) true xIS ((FW f a t h x) ++ ((CW cy a V) ++ (CW cy t N))) := by
  refine vx_ofWH (cc := cL_inBeing) (maxL := 3) (ret := (some .int)) (hh := [(0, 5, 6, 15)]) (by decide) rfl ?_
  intro p e s m args below meth c s₁ B hml hv
  obtain ⟨rfl, hP, hK, hD0, hE⟩ := hv
  have hx := B.exec
  have hb := B.bytes
  have hr := B.returns
  have hts := atoms_spec (ws := wsL_inBeing) B.pre
  have hown : s.vm.findClass RL = some m.cls := findClass_of_methodNamed B.named
  have hlocks := B.notSynchronized
  have hD := fz_self hD0
  obtain ⟨A, hAe⟩ : ∃ A : Nat → Prop, A = fz_in ((FW f a t h x) ++ ((CW cy a V) ++ (CW cy t N))) := ⟨_, rfl⟩
  rw [← hAe] at hD
  have hE : fz_Ew A s := by rw [hAe]; exact hE
  have hS : va_S A s.heap s.heap [] := va_S.rf
  have hl := lv_entry ([.ref (f 0), .int y]) (n := 3) (Nat.le_of_ble_eq_true rfl)
  rw [lg_entry_eq]
  generalize (lg_sl ([.ref (f 0), .int y]) ++ List.replicate (3 - (lg_sl ([.ref (f 0), .int y])).length) Slot.unset).toArray = ls at hl ⊢
  have hl : lv_has ls 3 [(0, .ref (f 0)), (1, .int y)] := hl
  have htab := vx_table (x := yL_inBeing) B (hts (.codeWith yL_inBeing cL_inBeing 3 (some .int) [(0, 5, 6, 15)]) (by decide +kernel))
  refine lv_aload_n hx hb dL_inBeing_0 rfl (lv_at hl 0 rfl) ?_
  refine lv_iload_n hx hb dL_inBeing_1 rfl (lv_at hl 1 rfl) ?_
  refine fz_xretI (P := ([] : va_W)) (S := []) (Wc := ((FW f a t h x) ++ ((CW cy a V) ++ (CW cy t N)))) (Wc' := ((FW f a t h x) ++ ((CW cy a V) ++ (CW cy t ((cx_ib V N nt nc nl wk y).2))))) (WX := ((FW f a t h x) ++ ((CW cy a V) ++ (CW cy t N)))) (vx_runV (As := [.int y]) (rest := []) ⟨hx, hb, hml, hown, hts⟩ (c_X8_inBeing l hst D cy f h x a V t N nt nc nq nl wk wf y hz) (cwV 1 hts gL_inBeing_X8_inBeing rfl rfl rfl (by decide +kernel) ⟨Nat.le_of_ble_eq_true rfl, Nat.le_of_ble_eq_true rfl⟩) (fz_preMV (ci := 6) (q0 := 0) hK (fz_seg (fz_nilP (P := ([] : va_W)) hP)) (fz_segD (fz_nilD (P := ([] : va_W)) hD)) rfl rfl rfl fz_Ev_bl (fun U hU hW => hE.1.up hU hS hW (fun q h9 => fz_inD (fz_segD (fz_nilD (P := ([] : va_W)) hD)) h9))) rfl rfl hl.1 rfl (lv_room (Nat.le_of_ble_eq_true rfl)) dL_inBeing_2 ⟨Nat.le_of_ble_eq_true rfl, Nat.le_of_ble_eq_true rfl⟩) (fz_nilP (P := ([] : va_W)) hP) (fz_nilD (P := ([] : va_W)) hD) hS rfl rfl (fun c_9 H locs q9 ce hP hD hS h7 h8 h9 => ?_) (fun c_9 H locs hP hD hS => ?_)
  · skip
    rw [hen] at h9
    refine vx_catch (name := xIA) hown [] ⟨0, 5, 6, 15⟩ [] (by rw [htab]; rfl) (fun z hz => nomatch hz) (by decide) (by decide) (hts (.classLink RL 15 xIA) (by decide +kernel)) (va_Nw.use rfl (hE.1.1.2.2.1 (.castable xIA xIA) (by decide +kernel))) h7 h8 h9 ?_
    have hP := fz_nilP' (P := ([] : va_W)) hP
    refine lv_astore_n (lv' := [(2, .ref q9), (0, .ref (f 0)), (1, .int y)]) hx hb dL_inBeing_6 rfl hl (by decide) rfl (fun ls hl => ?_)
    refine lv_bipush (v := (-11)) hx hb dL_inBeing_7 (by decide) ?_
    refine fz_wd (k := 1) (n := 6) (Nat.le_of_ble_eq_true rfl) (Nat.le_of_ble_eq_true rfl) ?_
    refine vx_ret ?_
    subst hAe
    exact W.iret (v := (-11)) hx hb hr (fun t9 ht9 hW9 => ⟨⟨_, (), rfl, ⟨rfl, rfl⟩, fz_to ht9 hP⟩, hS.F ht9⟩) hS.2.2 dL_inBeing_9
  · skip
    exact absurd (hok.symm.trans c_9) (by decide)
set_option maxHeartbeats 4000000 in
set_option maxRecDepth 100000 in
/-- the law calls type -/
theorem c_L_type_t (l : Launch) (hst : l.stackTraces = false) (D : va_G) (cy : Nat → ClassId) (f a t h : Nat → Nat) (x : Nat → Nat) (ad : Nat → Nat) (X : Nat → Nat → Int32) (vb : Option Nat) (y : Int32) (ln : Nat) (hln : X 0 0 = nI ln) (hln150 : ln ≤ 150) (hok : (fz_vo y 128 && decide (ln < 150)) = true) : fz_XI l yL_type wsL_type 7 103 1 6 D cy [.ref (f 0), .int y] ((FW f a t h x) ++ (XW cy ad x X vb)) (fz_Ew (fz_in ((FW f a t h x) ++ (XW cy ad x X vb)))) (nI (ln + 1)) ((FW f a t h x) ++ (XW cy ad x (fz_up (fz_up X 0 (upd (X 0) 0 (nI (ln + 1)))) 2 (upd (X 2) ln y)) vb)) true xIS ((FW f a t h x) ++ (XW cy ad x (fz_up (fz_up X 0 (upd (X 0) 0 (nI (ln + 1)))) 2 (upd (X 2) ln y)) vb)) := by
  refine vx_ofWH (cc := cL_type) (maxL := 3) (ret := (some .int)) (hh := [(0, 5, 6, 15), (0, 5, 10, 17)]) (by decide) rfl ?_
  intro p e s m args below meth c s₁ B hml hv
  obtain ⟨rfl, hP, hK, hD0, hE⟩ := hv
  have hx := B.exec
  have hb := B.bytes
  have hr := B.returns
  have hts := atoms_spec (ws := wsL_type) B.pre
  have hown : s.vm.findClass RL = some m.cls := findClass_of_methodNamed B.named
  have hlocks := B.notSynchronized
  have hD := fz_self hD0
  obtain ⟨A, hAe⟩ : ∃ A : Nat → Prop, A = fz_in ((FW f a t h x) ++ (XW cy ad x X vb)) := ⟨_, rfl⟩
  rw [← hAe] at hD
  have hE : fz_Ew A s := by rw [hAe]; exact hE
  have hS : va_S A s.heap s.heap [] := va_S.rf
  have hl := lv_entry ([.ref (f 0), .int y]) (n := 3) (Nat.le_of_ble_eq_true rfl)
  rw [lg_entry_eq]
  generalize (lg_sl ([.ref (f 0), .int y]) ++ List.replicate (3 - (lg_sl ([.ref (f 0), .int y])).length) Slot.unset).toArray = ls at hl ⊢
  have hl : lv_has ls 3 [(0, .ref (f 0)), (1, .int y)] := hl
  have htab := vx_table (x := yL_type) B (hts (.codeWith yL_type cL_type 3 (some .int) [(0, 5, 6, 15), (0, 5, 10, 17)]) (by decide +kernel))
  refine lv_aload_n hx hb dL_type_0 rfl (lv_at hl 0 rfl) ?_
  refine lv_iload_n hx hb dL_type_1 rfl (lv_at hl 1 rfl) ?_
  refine fz_xretI (P := ([] : va_W)) (S := []) (Wc := ((FW f a t h x) ++ (XW cy ad x X vb))) (Wc' := ((FW f a t h x) ++ (XW cy ad x (fz_up (fz_up X 0 (upd (X 0) 0 (nI (ln + 1)))) 2 (upd (X 2) ln y)) vb))) (WX := ((FW f a t h x) ++ (XW cy ad x X vb))) (vx_runV (As := [.int y]) (rest := []) ⟨hx, hb, hml, hown, hts⟩ (c_X8_type l hst D cy f a t h x ad X vb y ln hln hln150) (cwV 1 hts gL_type_X8_type rfl rfl rfl (by decide +kernel) ⟨Nat.le_of_ble_eq_true rfl, Nat.le_of_ble_eq_true rfl⟩) (fz_preMV (ci := 6) (q0 := 0) hK (fz_seg (fz_nilP (P := ([] : va_W)) hP)) (fz_segD (fz_nilD (P := ([] : va_W)) hD)) rfl rfl rfl fz_Ev_bl (fun U hU hW => hE.1.up hU hS hW (fun q h9 => fz_inD (fz_segD (fz_nilD (P := ([] : va_W)) hD)) h9))) rfl rfl hl.1 rfl (lv_room (Nat.le_of_ble_eq_true rfl)) dL_type_2 ⟨Nat.le_of_ble_eq_true rfl, Nat.le_of_ble_eq_true rfl⟩) (fz_nilP (P := ([] : va_W)) hP) (fz_nilD (P := ([] : va_W)) hD) hS rfl rfl (fun c_9 H locs q9 ce hP hD hS h7 h8 h9 => ?_) (fun c_9 H locs hP hD hS => ?_)
  · skip
    exact absurd (hok.symm.trans c_9) (by decide)
  · skip
    have hP := fz_nilP' (P := ([] : va_W)) hP
    refine fz_wd (k := 1) (n := 6) (Nat.le_of_ble_eq_true rfl) (Nat.le_of_ble_eq_true rfl) ?_
    refine vx_ret ?_
    subst hAe
    exact W.iret (v := (nI (ln + 1))) hx hb hr (fun t9 ht9 hW9 => ⟨⟨_, (), rfl, ⟨rfl, rfl⟩, fz_to ht9 hP⟩, hS.F ht9⟩) hS.2.2 dL_type_5
set_option maxHeartbeats 4000000 in
set_option maxRecDepth 100000 in
/-- the law calls type -/
theorem c_L_type_IA (l : Launch) (hst : l.stackTraces = false) (D : va_G) (cy : Nat → ClassId) (f a t h : Nat → Nat) (x : Nat → Nat) (ad : Nat → Nat) (X : Nat → Nat → Int32) (vb : Option Nat) (y : Int32) (ln : Nat) (hln : X 0 0 = nI ln) (hln150 : ln ≤ 150) (hok : (fz_vo y 128 && decide (ln < 150)) = false) (hen : (bif fz_vo y 128 then xIS else xIA) = xIA) : fz_XI l yL_type wsL_type 7 103 1 6 D cy [.ref (f 0), .int y] ((FW f a t h x) ++ (XW cy ad x X vb)) (fz_Ew (fz_in ((FW f a t h x) ++ (XW cy ad x X vb)))) (-11) ((FW f a t h x) ++ (XW cy ad x X vb)) true xIS ((FW f a t h x) ++ (XW cy ad x X vb)) := by
  refine vx_ofWH (cc := cL_type) (maxL := 3) (ret := (some .int)) (hh := [(0, 5, 6, 15), (0, 5, 10, 17)]) (by decide) rfl ?_
  intro p e s m args below meth c s₁ B hml hv
  obtain ⟨rfl, hP, hK, hD0, hE⟩ := hv
  have hx := B.exec
  have hb := B.bytes
  have hr := B.returns
  have hts := atoms_spec (ws := wsL_type) B.pre
  have hown : s.vm.findClass RL = some m.cls := findClass_of_methodNamed B.named
  have hlocks := B.notSynchronized
  have hD := fz_self hD0
  obtain ⟨A, hAe⟩ : ∃ A : Nat → Prop, A = fz_in ((FW f a t h x) ++ (XW cy ad x X vb)) := ⟨_, rfl⟩
  rw [← hAe] at hD
  have hE : fz_Ew A s := by rw [hAe]; exact hE
  have hS : va_S A s.heap s.heap [] := va_S.rf
  have hl := lv_entry ([.ref (f 0), .int y]) (n := 3) (Nat.le_of_ble_eq_true rfl)
  rw [lg_entry_eq]
  generalize (lg_sl ([.ref (f 0), .int y]) ++ List.replicate (3 - (lg_sl ([.ref (f 0), .int y])).length) Slot.unset).toArray = ls at hl ⊢
  have hl : lv_has ls 3 [(0, .ref (f 0)), (1, .int y)] := hl
  have htab := vx_table (x := yL_type) B (hts (.codeWith yL_type cL_type 3 (some .int) [(0, 5, 6, 15), (0, 5, 10, 17)]) (by decide +kernel))
  refine lv_aload_n hx hb dL_type_0 rfl (lv_at hl 0 rfl) ?_
  refine lv_iload_n hx hb dL_type_1 rfl (lv_at hl 1 rfl) ?_
  refine fz_xretI (P := ([] : va_W)) (S := []) (Wc := ((FW f a t h x) ++ (XW cy ad x X vb))) (Wc' := ((FW f a t h x) ++ (XW cy ad x (fz_up (fz_up X 0 (upd (X 0) 0 (nI (ln + 1)))) 2 (upd (X 2) ln y)) vb))) (WX := ((FW f a t h x) ++ (XW cy ad x X vb))) (vx_runV (As := [.int y]) (rest := []) ⟨hx, hb, hml, hown, hts⟩ (c_X8_type l hst D cy f a t h x ad X vb y ln hln hln150) (cwV 1 hts gL_type_X8_type rfl rfl rfl (by decide +kernel) ⟨Nat.le_of_ble_eq_true rfl, Nat.le_of_ble_eq_true rfl⟩) (fz_preMV (ci := 6) (q0 := 0) hK (fz_seg (fz_nilP (P := ([] : va_W)) hP)) (fz_segD (fz_nilD (P := ([] : va_W)) hD)) rfl rfl rfl fz_Ev_bl (fun U hU hW => hE.1.up hU hS hW (fun q h9 => fz_inD (fz_segD (fz_nilD (P := ([] : va_W)) hD)) h9))) rfl rfl hl.1 rfl (lv_room (Nat.le_of_ble_eq_true rfl)) dL_type_2 ⟨Nat.le_of_ble_eq_true rfl, Nat.le_of_ble_eq_true rfl⟩) (fz_nilP (P := ([] : va_W)) hP) (fz_nilD (P := ([] : va_W)) hD) hS rfl rfl (fun c_9 H locs q9 ce hP hD hS h7 h8 h9 => ?_) (fun c_9 H locs hP hD hS => ?_)
  · skip
    rw [hen] at h9
    refine vx_catch (name := xIA) hown [] ⟨0, 5, 6, 15⟩ [⟨0, 5, 10, 17⟩] (by rw [htab]; rfl) (fun z hz => nomatch hz) (by decide) (by decide) (hts (.classLink RL 15 xIA) (by decide +kernel)) (va_Nw.use rfl (hE.1.1.2.2.1 (.castable xIA xIA) (by decide +kernel))) h7 h8 h9 ?_
    have hP := fz_nilP' (P := ([] : va_W)) hP
    refine lv_astore_n (lv' := [(2, .ref q9), (0, .ref (f 0)), (1, .int y)]) hx hb dL_type_6 rfl hl (by decide) rfl (fun ls hl => ?_)
    refine lv_bipush (v := (-11)) hx hb dL_type_7 (by decide) ?_
    refine fz_wd (k := 1) (n := 6) (Nat.le_of_ble_eq_true rfl) (Nat.le_of_ble_eq_true rfl) ?_
    refine vx_ret ?_
    subst hAe
    exact W.iret (v := (-11)) hx hb hr (fun t9 ht9 hW9 => ⟨⟨_, (), rfl, ⟨rfl, rfl⟩, fz_to ht9 hP⟩, hS.F ht9⟩) hS.2.2 dL_type_9
  · skip
    exact absurd (hok.symm.trans c_9) (by decide)
set_option maxHeartbeats 4000000 in
set_option maxRecDepth 100000 in
/-- the law calls type -/
theorem c_L_type_IS (l : Launch) (hst : l.stackTraces = false) (D : va_G) (cy : Nat → ClassId) (f a t h : Nat → Nat) (x : Nat → Nat) (ad : Nat → Nat) (X : Nat → Nat → Int32) (vb : Option Nat) (y : Int32) (ln : Nat) (hln : X 0 0 = nI ln) (hln150 : ln ≤ 150) (hok : (fz_vo y 128 && decide (ln < 150)) = false) (hen : (bif fz_vo y 128 then xIS else xIA) = xIS) : fz_XI l yL_type wsL_type 7 103 1 6 D cy [.ref (f 0), .int y] ((FW f a t h x) ++ (XW cy ad x X vb)) (fz_Ew (fz_in ((FW f a t h x) ++ (XW cy ad x X vb)))) (-12) ((FW f a t h x) ++ (XW cy ad x X vb)) true xIS ((FW f a t h x) ++ (XW cy ad x X vb)) := by
  refine vx_ofWH (cc := cL_type) (maxL := 3) (ret := (some .int)) (hh := [(0, 5, 6, 15), (0, 5, 10, 17)]) (by decide) rfl ?_
  intro p e s m args below meth c s₁ B hml hv
  obtain ⟨rfl, hP, hK, hD0, hE⟩ := hv
  have hx := B.exec
  have hb := B.bytes
  have hr := B.returns
  have hts := atoms_spec (ws := wsL_type) B.pre
  have hown : s.vm.findClass RL = some m.cls := findClass_of_methodNamed B.named
  have hlocks := B.notSynchronized
  have hD := fz_self hD0
  obtain ⟨A, hAe⟩ : ∃ A : Nat → Prop, A = fz_in ((FW f a t h x) ++ (XW cy ad x X vb)) := ⟨_, rfl⟩
  rw [← hAe] at hD
  have hE : fz_Ew A s := by rw [hAe]; exact hE
  have hS : va_S A s.heap s.heap [] := va_S.rf
  have hl := lv_entry ([.ref (f 0), .int y]) (n := 3) (Nat.le_of_ble_eq_true rfl)
  rw [lg_entry_eq]
  generalize (lg_sl ([.ref (f 0), .int y]) ++ List.replicate (3 - (lg_sl ([.ref (f 0), .int y])).length) Slot.unset).toArray = ls at hl ⊢
  have hl : lv_has ls 3 [(0, .ref (f 0)), (1, .int y)] := hl
  have htab := vx_table (x := yL_type) B (hts (.codeWith yL_type cL_type 3 (some .int) [(0, 5, 6, 15), (0, 5, 10, 17)]) (by decide +kernel))
  refine lv_aload_n hx hb dL_type_0 rfl (lv_at hl 0 rfl) ?_
  refine lv_iload_n hx hb dL_type_1 rfl (lv_at hl 1 rfl) ?_
  refine fz_xretI (P := ([] : va_W)) (S := []) (Wc := ((FW f a t h x) ++ (XW cy ad x X vb))) (Wc' := ((FW f a t h x) ++ (XW cy ad x (fz_up (fz_up X 0 (upd (X 0) 0 (nI (ln + 1)))) 2 (upd (X 2) ln y)) vb))) (WX := ((FW f a t h x) ++ (XW cy ad x X vb))) (vx_runV (As := [.int y]) (rest := []) ⟨hx, hb, hml, hown, hts⟩ (c_X8_type l hst D cy f a t h x ad X vb y ln hln hln150) (cwV 1 hts gL_type_X8_type rfl rfl rfl (by decide +kernel) ⟨Nat.le_of_ble_eq_true rfl, Nat.le_of_ble_eq_true rfl⟩) (fz_preMV (ci := 6) (q0 := 0) hK (fz_seg (fz_nilP (P := ([] : va_W)) hP)) (fz_segD (fz_nilD (P := ([] : va_W)) hD)) rfl rfl rfl fz_Ev_bl (fun U hU hW => hE.1.up hU hS hW (fun q h9 => fz_inD (fz_segD (fz_nilD (P := ([] : va_W)) hD)) h9))) rfl rfl hl.1 rfl (lv_room (Nat.le_of_ble_eq_true rfl)) dL_type_2 ⟨Nat.le_of_ble_eq_true rfl, Nat.le_of_ble_eq_true rfl⟩) (fz_nilP (P := ([] : va_W)) hP) (fz_nilD (P := ([] : va_W)) hD) hS rfl rfl (fun c_9 H locs q9 ce hP hD hS h7 h8 h9 => ?_) (fun c_9 H locs hP hD hS => ?_)
  · skip
    rw [hen] at h9
    refine vx_catch (name := xIS) hown [⟨0, 5, 6, 15⟩] ⟨0, 5, 10, 17⟩ [] (by rw [htab]; rfl) (fun z hz => by rcases List.mem_cons.mp hz with rfl | hz; exact Or.inr ⟨by decide, xIA, hts (.classLink RL 15 xIA) (by decide +kernel), hE.2.1⟩; exact nomatch hz) (by decide) (by decide) (hts (.classLink RL 17 xIS) (by decide +kernel)) (va_Nw.use rfl (hE.1.1.2.2.1 (.castable xIS xIS) (by decide +kernel))) h7 h8 h9 ?_
    have hP := fz_nilP' (P := ([] : va_W)) hP
    refine lv_astore_n (lv' := [(2, .ref q9), (0, .ref (f 0)), (1, .int y)]) hx hb dL_type_10 rfl hl (by decide) rfl (fun ls hl => ?_)
    refine lv_bipush (v := (-12)) hx hb dL_type_11 (by decide) ?_
    refine fz_wd (k := 1) (n := 6) (Nat.le_of_ble_eq_true rfl) (Nat.le_of_ble_eq_true rfl) ?_
    refine vx_ret ?_
    subst hAe
    exact W.iret (v := (-12)) hx hb hr (fun t9 ht9 hW9 => ⟨⟨_, (), rfl, ⟨rfl, rfl⟩, fz_to ht9 hP⟩, hS.F ht9⟩) hS.2.2 dL_type_13
  · skip
    exact absurd (hok.symm.trans c_9) (by decide)
set_option maxHeartbeats 4000000 in
set_option maxRecDepth 100000 in
/-- the law calls undo -/
theorem c_L_undo_t (l : Launch) (hst : l.stackTraces = false) (D : va_G) (cy : Nat → ClassId) (f a t h x : Nat → Nat) (g : Nat → Option Nat) (cn : Nat) (V : Nat → Nat → Int32) (w : Nat → Nat) (N : Nat → Nat → Int32) (Z : va_W) (hn : cn < 5) (hw : g cn = some (w 0)) (hz : fz_zo (N 2) 40)  : fz_XI l yL_undo wsL_undo 7 110 1 6 D cy [.ref (f 0)] (FW f a t h x ++ (HW cy h g (nI (cn + 1)) ++ (CW cy a V ++ (CW cy w N ++ Z)))) (fz_Ew (fz_in (FW f a t h x ++ (HW cy h g (nI (cn + 1)) ++ (CW cy a V ++ (CW cy w N ++ Z)))))) (nI cn) (FW f a t h x ++ (HW cy h g (nI cn) ++ (CW cy a N ++ (CW cy w N ++ Z)))) true xIS (FW f a t h x ++ (HW cy h g (nI cn) ++ (CW cy a N ++ (CW cy w N ++ Z)))) := by
  refine vx_ofWH (cc := cL_undo) (maxL := 2) (ret := (some .int)) (hh := [(0, 4, 5, 17)]) (by decide) rfl ?_
  intro p e s m args below meth c s₁ B hml hv
  obtain ⟨rfl, hP, hK, hD0, hE⟩ := hv
  have hx := B.exec
  have hb := B.bytes
  have hr := B.returns
  have hts := atoms_spec (ws := wsL_undo) B.pre
  have hown : s.vm.findClass RL = some m.cls := findClass_of_methodNamed B.named
  have hlocks := B.notSynchronized
  have hD := fz_self hD0
  obtain ⟨A, hAe⟩ : ∃ A : Nat → Prop, A = fz_in (FW f a t h x ++ (HW cy h g (nI (cn + 1)) ++ (CW cy a V ++ (CW cy w N ++ Z)))) := ⟨_, rfl⟩
  rw [← hAe] at hD
  have hE : fz_Ew A s := by rw [hAe]; exact hE
  have hS : va_S A s.heap s.heap [] := va_S.rf
  have hl := lv_entry ([.ref (f 0)]) (n := 2) (Nat.le_of_ble_eq_true rfl)
  rw [lg_entry_eq]
  generalize (lg_sl ([.ref (f 0)]) ++ List.replicate (2 - (lg_sl ([.ref (f 0)])).length) Slot.unset).toArray = ls at hl ⊢
  have hl : lv_has ls 2 [(0, .ref (f 0))] := hl
  have htab := vx_table (x := yL_undo) B (hts (.codeWith yL_undo cL_undo 2 (some .int) [(0, 4, 5, 17)]) (by decide +kernel))
  refine lv_aload_n hx hb dL_undo_0 rfl (lv_at hl 0 rfl) ?_
  refine fz_xretI (P := ([] : va_W)) (S := []) (Wc := (FW f a t h x ++ (HW cy h g (nI (cn + 1)) ++ (CW cy a V ++ (CW cy w N ++ Z))))) (Wc' := (FW f a t h x ++ (HW cy h g (nI cn) ++ (CW cy a N ++ (CW cy w N ++ Z))))) (WX := (FW f a t h x ++ (HW cy h g (nI (cn + 1)) ++ (CW cy a V ++ (CW cy w N ++ Z))))) (vx_runV (As := []) (rest := []) ⟨hx, hb, hml, hown, hts⟩ (c_X8_undo_s l hst D cy f a t h x g cn V w N Z hn hw hz) (cwV 0 hts gL_undo_X8_undo rfl rfl rfl (by decide +kernel) ⟨Nat.le_of_ble_eq_true rfl, Nat.le_of_ble_eq_true rfl⟩) (fz_preMV (ci := 6) (q0 := 0) hK (fz_seg (fz_nilP (P := ([] : va_W)) hP)) (fz_segD (fz_nilD (P := ([] : va_W)) hD)) rfl rfl rfl fz_Ev_bl (fun U hU hW => hE.1.up hU hS hW (fun q h9 => fz_inD (fz_segD (fz_nilD (P := ([] : va_W)) hD)) h9))) rfl rfl hl.1 rfl (lv_room (Nat.le_of_ble_eq_true rfl)) dL_undo_1 ⟨Nat.le_of_ble_eq_true rfl, Nat.le_of_ble_eq_true rfl⟩) (fz_nilP (P := ([] : va_W)) hP) (fz_nilD (P := ([] : va_W)) hD) hS rfl rfl (fun c_9 H locs q9 ce hP hD hS h7 h8 h9 => ?_) (fun c_9 H locs hP hD hS => ?_)
  · skip
    exact absurd (rfl.symm.trans c_9) (by decide)
  · skip
    have hP := fz_nilP' (P := ([] : va_W)) hP
    refine fz_wd (k := 1) (n := 6) (Nat.le_of_ble_eq_true rfl) (Nat.le_of_ble_eq_true rfl) ?_
    refine vx_ret ?_
    subst hAe
    exact W.iret (v := (nI cn)) hx hb hr (fun t9 ht9 hW9 => ⟨⟨_, (), rfl, ⟨rfl, rfl⟩, fz_to ht9 hP⟩, hS.F ht9⟩) hS.2.2 dL_undo_4
set_option maxHeartbeats 4000000 in
set_option maxRecDepth 100000 in
/-- the law calls undo -/
theorem c_L_undo_IS (l : Launch) (hst : l.stackTraces = false) (D : va_G) (cy : Nat → ClassId) (f a t h x : Nat → Nat) (g : Nat → Option Nat) (Z : va_W)  : fz_XI l yL_undo wsL_undo 7 110 1 6 D cy [.ref (f 0)] (FW f a t h x ++ (HW cy h g 0 ++ Z)) (fz_Ew (fz_in (FW f a t h x ++ (HW cy h g 0 ++ Z)))) (-11) (FW f a t h x ++ (HW cy h g 0 ++ Z)) true xIS (FW f a t h x ++ (HW cy h g 0 ++ Z)) := by
  refine vx_ofWH (cc := cL_undo) (maxL := 2) (ret := (some .int)) (hh := [(0, 4, 5, 17)]) (by decide) rfl ?_
  intro p e s m args below meth c s₁ B hml hv
  obtain ⟨rfl, hP, hK, hD0, hE⟩ := hv
  have hx := B.exec
  have hb := B.bytes
  have hr := B.returns
  have hts := atoms_spec (ws := wsL_undo) B.pre
  have hown : s.vm.findClass RL = some m.cls := findClass_of_methodNamed B.named
  have hlocks := B.notSynchronized
  have hD := fz_self hD0
  obtain ⟨A, hAe⟩ : ∃ A : Nat → Prop, A = fz_in (FW f a t h x ++ (HW cy h g 0 ++ Z)) := ⟨_, rfl⟩
  rw [← hAe] at hD
  have hE : fz_Ew A s := by rw [hAe]; exact hE
  have hS : va_S A s.heap s.heap [] := va_S.rf
  have hl := lv_entry ([.ref (f 0)]) (n := 2) (Nat.le_of_ble_eq_true rfl)
  rw [lg_entry_eq]
  generalize (lg_sl ([.ref (f 0)]) ++ List.replicate (2 - (lg_sl ([.ref (f 0)])).length) Slot.unset).toArray = ls at hl ⊢
  have hl : lv_has ls 2 [(0, .ref (f 0))] := hl
  have htab := vx_table (x := yL_undo) B (hts (.codeWith yL_undo cL_undo 2 (some .int) [(0, 4, 5, 17)]) (by decide +kernel))
  refine lv_aload_n hx hb dL_undo_0 rfl (lv_at hl 0 rfl) ?_
  refine fz_xretI (P := ([] : va_W)) (S := []) (Wc := (FW f a t h x ++ (HW cy h g 0 ++ Z))) (Wc' := (FW f a t h x ++ (HW cy h g 0 ++ Z))) (WX := (FW f a t h x ++ (HW cy h g 0 ++ Z))) (vx_runV (As := []) (rest := []) ⟨hx, hb, hml, hown, hts⟩ (c_X8_undo_z l hst D cy f a t h x g Z) (cwV 0 hts gL_undo_X8_undo rfl rfl rfl (by decide +kernel) ⟨Nat.le_of_ble_eq_true rfl, Nat.le_of_ble_eq_true rfl⟩) (fz_preMV (ci := 6) (q0 := 0) hK (fz_seg (fz_nilP (P := ([] : va_W)) hP)) (fz_segD (fz_nilD (P := ([] : va_W)) hD)) rfl rfl rfl fz_Ev_bl (fun U hU hW => hE.1.up hU hS hW (fun q h9 => fz_inD (fz_segD (fz_nilD (P := ([] : va_W)) hD)) h9))) rfl rfl hl.1 rfl (lv_room (Nat.le_of_ble_eq_true rfl)) dL_undo_1 ⟨Nat.le_of_ble_eq_true rfl, Nat.le_of_ble_eq_true rfl⟩) (fz_nilP (P := ([] : va_W)) hP) (fz_nilD (P := ([] : va_W)) hD) hS rfl rfl (fun c_9 H locs q9 ce hP hD hS h7 h8 h9 => ?_) (fun c_9 H locs hP hD hS => ?_)
  · skip
    refine vx_catch (name := xIS) hown [] ⟨0, 4, 5, 17⟩ [] (by rw [htab]; rfl) (fun z hz => nomatch hz) (by decide) (by decide) (hts (.classLink RL 17 xIS) (by decide +kernel)) (va_Nw.use rfl (hE.1.1.2.2.1 (.castable xIS xIS) (by decide +kernel))) h7 h8 h9 ?_
    have hP := fz_nilP' (P := ([] : va_W)) hP
    refine lv_astore_n (lv' := [(1, .ref q9), (0, .ref (f 0))]) hx hb dL_undo_5 rfl hl (by decide) rfl (fun ls hl => ?_)
    refine lv_bipush (v := (-11)) hx hb dL_undo_6 (by decide) ?_
    refine fz_wd (k := 1) (n := 6) (Nat.le_of_ble_eq_true rfl) (Nat.le_of_ble_eq_true rfl) ?_
    refine vx_ret ?_
    subst hAe
    exact W.iret (v := (-11)) hx hb hr (fun t9 ht9 hW9 => ⟨⟨_, (), rfl, ⟨rfl, rfl⟩, fz_to ht9 hP⟩, hS.F ht9⟩) hS.2.2 dL_undo_8
  · skip
    exact absurd (rfl.symm.trans c_9) (by decide)
